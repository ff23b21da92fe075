/-! the reference's whole state -/
def pO (h : AH) (m : Nat) (X : MX) : Prop := ∃ fp sn, h.2 m = some (aO 8 (mO m (xFp X fp))) ∧ h.2 (m + 9) = some (aA 0 sn) ∧ sn.length = 6
def pQ (h : AH) (m : Nat) (S : St) (X : MX) (a : List Int) : Prop := ∃ rf th be tl fd rw_ : List Int,
  (h.2 (m + 1) = some (aA 0 rf) ∧ h.2 (m + 2) = some (aA 0 a) ∧ h.2 (m + 3) = some (aA 0 th) ∧ h.2 (m + 4) = some (aA 0 be) ∧ h.2 (m + 5) = some (aA 0 tl) ∧ h.2 (m + 6) = some (aA 2 [110, 118, 114, 119]) ∧ h.2 (m + 7) = some (aA 2 [118, 98, 116, 115, 102, 120]) ∧ h.2 (m + 8) = some (aA 0 fd) ∧ h.2 (m + 10) = some (aA 0 rw_)) ∧
  (X.1 = nB S ∧ X.2.1 = ((nX S).length : Int) ∧ X.2.2.2.2.2.2 = ((nH S).length : Int)) ∧ (rf.length = 7 ∧ th.length = 80 ∧ be.length = 80 ∧ tl.length = 80 ∧ fd.length = 3 ∧ rw_.length = 12) ∧
  nowR a (nK S) ∧ (nB S = 1 → nowR th (nO S)) ∧ tl.take (nX S).length = nX S ∧ rw_.take (nH S).length = nH S ∧ (∀ i : Nat, i < 6 → rf.getD (i + 1) 0 = rget (nR S) i)
def pMS (h : AH) (m : Nat) (S : St) : Prop := ∃ X a, pO h m X ∧ pQ h m S X a
theorem pQ.fa {h h' : AH} {m : Nat} {S : St} {X : MX} {a : List Int} (p : pQ h m S X a) (f : FrA m h h') : pQ h' m S X a := by
  obtain ⟨rf, th, be, tl, fd, rw_, ⟨c1, c2, c3, c4, c5, c6, c7, c8, c10⟩, r⟩ := p
  exact ⟨rf, th, be, tl, fd, rw_, ⟨f.at c1 (by omega) (by omega), f.at c2 (by omega) (by omega), f.at c3 (by omega) (by omega), f.at c4 (by omega) (by omega), f.at c5 (by omega) (by omega), f.at c6 (by omega) (by omega), f.at c7 (by omega) (by omega), f.at c8 (by omega) (by omega), f.at c10 (by omega) (by omega)⟩, r⟩
theorem pQ.now {h : AH} {m : Nat} {S : St} {X : MX} {a : List Int} (p : pQ h m S X a) : h.2 (m + 2) = some (aA 0 a) ∧ nowR a (nK S) := by
  obtain ⟨rf, th, be, tl, fd, rw_, ⟨c1, c2, c3⟩, r1, r2, r3, r4⟩ := p
  exact ⟨c2, r3⟩
theorem pMS.fr {h h' : AH} {m lo hi : Nat} {S : St} (p : pMS h m S) (f : Fr lo hi h h') (ha : m + 11 ≤ lo ∨ hi ≤ m) : pMS h' m S := by
  obtain ⟨X, a, ⟨fp, sn, o1, o2, o3⟩, rf, th, be, tl, fd, rw_, ⟨c1, c2, c3, c4, c5, c6, c7, c8, c10⟩, r⟩ := p
  exact ⟨X, a, ⟨fp, sn, f.at o1 (by omega), f.at o2 (by omega), o3⟩, rf, th, be, tl, fd, rw_, ⟨f.at c1 (by omega), f.at c2 (by omega), f.at c3 (by omega), f.at c4 (by omega), f.at c5 (by omega), f.at c6 (by omega), f.at c7 (by omega), f.at c8 (by omega), f.at c10 (by omega)⟩, r⟩
theorem fin3 {r : Int × St} {x : Int} {S' : St} {h h' : AH} {o : Nat} (e : r = (x, S')) (p : pMS h' o S') (f : Fr o (o + 11) h h') : some (aI x) = some (aI r.1) ∧ pMS h' o r.2 ∧ Fr o (o + 11) h h' := by
  rw [e]; exact ⟨rfl, p, f⟩
def mS (K : CK) (wo : Int) : Nat → Int
  | 0 => 0
  | n + 1 => mS K wo n + mI K n wo
theorem mS_bd {K : CK} (w : vK K 13 6) (wo : Int) : ∀ n, 0 ≤ mS K wo n ∧ mS K wo n ≤ 36 * n
  | 0 => by show (0 : Int) ≤ 0 ∧ (0 : Int) ≤ 36 * ((0 : Nat) : Int); decide
  | n + 1 => by
    have h1 := mS_bd w wo n
    have h2 := mI_bd w n wo
    show 0 ≤ mS K wo n + mI K n wo ∧ mS K wo n + mI K n wo ≤ _
    omega
def mWf (K : CK) : Nat → Nat → Bool
  | 0, _ => true
  | k + 1, b => if mI K b (-9) > 0 then false else mWf K k (b + 1)
def mW (K : CK) : Bool := mWf K (q_endK K).toNat 0
def mFb (K : CK) : Nat → Nat → Int
  | 0, _ => -9
  | k + 1, b => if mI K b (-9) > 0 then b else mFb K k (b + 1)
set_option maxHeartbeats 4000000 in
set_option maxRecDepth 20000 in
theorem c_Model_illAll (G : Gx) {h : AH} {m : Nat} {X : MX} {a : List Int} {K : CK} (hO : pO h m X) (ha : h.2 (m + 2) = some (aA 0 a)) (hk : nowR a K) (w : vK K 13 6) {wo : Int} (hwo : InR wo) : Ct G Y_Model_illAll 6 0 0 [aR m, aI wo] h (fun v h' => v = some (aI (mS K wo (q_endK K).toNat)) ∧ pO h' m X ∧ FrA m h h') := by
  have ha0 := ha
  have hl := hk.1
  obtain ⟨w1, w2, w3, w4, w5, w6, w7, w8, w9, w10, w11, w12, w13, w14⟩ := id w
  have wu := w.up (by decide) (by decide)
  have hbs := bt_sum w
  have hbp := bt_pos w
  have hek := wu.endK
  obtain ⟨fp, sn, ho, hs, hsl⟩ := id hO
  refine Ct.of_V mo_Model_illAll rfl (Nat.le_of_ble_eq_true rfl) rfl ?_
  have loop : ∀ (k : Nat) (i : Nat) (h1 : AH), (q_endK K < i + k) → ((i : Int) ≤ q_endK K) → (pO h1 m X) → (FrA m h h1) → V G Y_Model_illAll 6 0 0 10 [some (aR m), some (aI wo), some (aI (mS K wo i)), some (aI (q_endK K)), some (aI (i : Int))] [] h1 (fun v h' => v = some (aI (mS K wo (q_endK K).toNat)) ∧ pO h' m X ∧ FrA m h h') := by
    intro k
    induction k with
    | zero => intro i h1 hi hin hO1 f1; exfalso; omega
    | succ k ih =>
      intro i h1 hi hin hO1 f1
      obtain ⟨fp1, sn1, ho, hs, hsl⟩ := id hO1
      have ha := f1.at ha0 (by omega) (by omega)
      refine v_iload k_Model_illAll_10 rfl ?_
      refine v_iload_n k_Model_illAll_12 rfl ?_
      refine v_icge 32 k_Model_illAll_13 rfl (by omega) (by omega) (fun c13 => ?_) (fun c13 => ?_)
      · refine v_iload_n k_Model_illAll_32 rfl ?_
        refine v_ireturn k_Model_illAll_33 rfl rfl ?_
        have e : (q_endK K).toNat = i := by omega
        rw [e]
        exact ⟨rfl, hO1, f1⟩
      · refine v_iload_n k_Model_illAll_16 rfl ?_
        refine v_aload_n k_Model_illAll_17 rfl ?_
        refine v_iload k_Model_illAll_18 rfl ?_
        refine v_iload_n k_Model_illAll_20 rfl ?_
        refine v_callV mo_Model_illAt mi_Model_illAt mv_Model_illAt lk_Model_134 k_Model_illAll_21 ho rfl rfl (Nat.le_of_ble_eq_true rfl) rfl (Nat.le_of_ble_eq_true rfl) (c_Model_illAt G ho ha hs hsl hk w (b := (i : Int)) (wo := wo) (by omega) (by first | assumption | decide)) (fun v21 h21 q21 => ?_)
        obtain ⟨rfl, g1, ⟨sn2, g2, g3⟩, f2⟩ := q21
        have hO2 : pO h21 m X := ⟨_, sn2, g1, g2, g3⟩
        have f3 := f1.tr f2
        have ho := g1
        refine v_iadd k_Model_illAll_24 ?_
        refine v_istore_n k_Model_illAll_25 ⟨Nat.le_of_ble_eq_true rfl, Nat.le_of_ble_eq_true rfl⟩ ?_
        refine v_iinc k_Model_illAll_26 rfl (Nat.le_of_ble_eq_true rfl) ?_
        refine v_goto k_Model_illAll_29 (tgt := 10) rfl ?_
        exact ih (i + 1) _ (by omega) (by omega) hO2 f3
  refine v_iconst k_Model_illAll_0 ?_
  refine v_istore_n k_Model_illAll_1 ⟨Nat.le_of_ble_eq_true rfl, Nat.le_of_ble_eq_true rfl⟩ ?_
  refine v_aload_n k_Model_illAll_2 rfl ?_
  refine v_callVr mo_Model_end mi_Model_end mv_Model_end lk_Model_131 k_Model_illAll_3 ho rfl rfl (Nat.le_of_ble_eq_true rfl) rfl (Nat.le_of_ble_eq_true rfl) (c_Model_end G ho ha hk w) ?_
  refine v_istore_n k_Model_illAll_6 ⟨Nat.le_of_ble_eq_true rfl, Nat.le_of_ble_eq_true rfl⟩ ?_
  refine v_iconst k_Model_illAll_7 ?_
  refine v_istore k_Model_illAll_8 ⟨Nat.le_of_ble_eq_true rfl, Nat.le_of_ble_eq_true rfl⟩ ?_
  exact loop (q_endK K).toNat.succ 0 h (by omega) (by omega) hO FrA.rf

set_option maxHeartbeats 4000000 in
set_option maxRecDepth 20000 in
theorem c_Model_isWell (G : Gx) {h : AH} {m : Nat} {X : MX} {a : List Int} {K : CK} (hO : pO h m X) (ha : h.2 (m + 2) = some (aA 0 a)) (hk : nowR a K) (w : vK K 13 6) : Ct G Y_Model_isWell 6 0 0 [aR m] h (fun v h' => v = some (aI (if mW K = true then 1 else 0)) ∧ pO h' m X ∧ FrA m h h') := by
  have ha0 := ha
  have hl := hk.1
  obtain ⟨w1, w2, w3, w4, w5, w6, w7, w8, w9, w10, w11, w12, w13, w14⟩ := id w
  have wu := w.up (by decide) (by decide)
  have hbs := bt_sum w
  have hbp := bt_pos w
  have hek := wu.endK
  obtain ⟨fp, sn, ho, hs, hsl⟩ := id hO
  refine Ct.of_V mo_Model_isWell rfl (Nat.le_of_ble_eq_true rfl) rfl ?_
  have loop : ∀ (k : Nat) (i : Nat) (h1 : AH), (q_endK K = i + k) → (pO h1 m X) → (FrA m h h1) → (mWf K k i = mW K) → V G Y_Model_isWell 6 0 0 7 [some (aR m), some (aI (q_endK K)), some (aI (i : Int))] [] h1 (fun v h' => v = some (aI (if mW K = true then 1 else 0)) ∧ pO h' m X ∧ FrA m h h') := by
    intro k
    induction k with
    | zero =>
      intro i h1 hi hO1 f1 ht
      obtain ⟨fp1, sn1, ho, hs, hsl⟩ := id hO1
      have ha := f1.at ha0 (by omega) (by omega)
      refine v_iload_n k_Model_isWell_7 rfl ?_
      refine v_iload_n k_Model_isWell_8 rfl ?_
      refine v_icge 30 k_Model_isWell_9 rfl (by omega) (by omega) (fun c9 => ?_) (fun c9 => ?_)
      · refine v_iconst k_Model_isWell_30 ?_
        refine v_ireturn k_Model_isWell_31 rfl (by first | rfl | (split <;> rfl)) ?_
        have e : mW K = true := by rw [← ht]; rfl
        rw [e]
        exact ⟨rfl, hO1, f1⟩
      · exfalso; omega
    | succ k ih =>
      intro i h1 hi hO1 f1 ht
      obtain ⟨fp1, sn1, ho, hs, hsl⟩ := id hO1
      have ha := f1.at ha0 (by omega) (by omega)
      refine v_iload_n k_Model_isWell_7 rfl ?_
      refine v_iload_n k_Model_isWell_8 rfl ?_
      refine v_icge 30 k_Model_isWell_9 rfl (by first | omega | (have := mI_bd w (i : Int) (-9); omega)) (by first | omega | (have := mI_bd w (i : Int) (-9); omega)) (fun c9 => ?_) (fun c9 => ?_)
      · refine v_iconst k_Model_isWell_30 ?_
        refine v_ireturn k_Model_isWell_31 rfl (by first | rfl | (split <;> rfl)) ?_
        exfalso; omega
      · refine v_aload_n k_Model_isWell_12 rfl ?_
        refine v_iload_n k_Model_isWell_13 rfl ?_
        refine v_bipush k_Model_isWell_14 (by decide) ?_
        refine v_callV mo_Model_illAt mi_Model_illAt mv_Model_illAt lk_Model_134 k_Model_isWell_16 ho rfl rfl (Nat.le_of_ble_eq_true rfl) rfl (Nat.le_of_ble_eq_true rfl) (c_Model_illAt G ho ha hs hsl hk w (b := (i : Int)) (wo := -9) (by omega) (by first | assumption | decide)) (fun v16 h16 q16 => ?_)
        obtain ⟨rfl, g1, ⟨sn2, g2, g3⟩, f2⟩ := q16
        have hO2 : pO h16 m X := ⟨_, sn2, g1, g2, g3⟩
        have f3 := f1.tr f2
        have ho := g1
        refine v_ifle 24 k_Model_isWell_19 rfl (by first | omega | (have := mI_bd w (i : Int) (-9); omega)) (fun c19 => ?_) (fun c19 => ?_)
        · refine v_iinc k_Model_isWell_24 rfl (Nat.le_of_ble_eq_true rfl) ?_
          refine v_goto k_Model_isWell_27 (tgt := 7) rfl ?_
          refine ih (i + 1) _ (by omega) hO2 f3 ?_
          rw [← ht, mWf, if_neg (by omega)]
        · refine v_iconst k_Model_isWell_22 ?_
          refine v_ireturn k_Model_isWell_23 rfl (by first | rfl | (split <;> rfl)) ?_
          have e : mW K = false := by rw [← ht, mWf, if_pos (by omega)]
          rw [e]
          exact ⟨rfl, hO2, f3⟩
  refine v_aload_n k_Model_isWell_0 rfl ?_
  refine v_callVr mo_Model_end mi_Model_end mv_Model_end lk_Model_131 k_Model_isWell_1 ho rfl rfl (Nat.le_of_ble_eq_true rfl) rfl (Nat.le_of_ble_eq_true rfl) (c_Model_end G ho ha hk w) ?_
  refine v_istore_n k_Model_isWell_4 ⟨Nat.le_of_ble_eq_true rfl, Nat.le_of_ble_eq_true rfl⟩ ?_
  refine v_iconst k_Model_isWell_5 ?_
  refine v_istore_n k_Model_isWell_6 ⟨Nat.le_of_ble_eq_true rfl, Nat.le_of_ble_eq_true rfl⟩ ?_
  exact loop (q_endK K).toNat 0 h (by omega) hO FrA.rf rfl

set_option maxHeartbeats 4000000 in
set_option maxRecDepth 20000 in
theorem c_Model_no (G : Gx) {h : AH} {m : Nat} {S : St} (hp : pMS h m S) (w : wSt S) {no : Int} (hno : -6 ≤ no ∧ no ≤ -1) : Ct G Y_Model_no 0 0 0 [aR m, aI no] h (fun v h' => v = some (aI no) ∧ pMS h' m (rfS S no).2 ∧ Fr (m + 1) (m + 2) h h') := by
  obtain ⟨X, a, ⟨fp, sn, ho, hs, hsl⟩, rf, th, be, tl, fd, rw_, ⟨c1, ha, c3, c4, c5, c6, c7, c8, c10⟩, ⟨x1, x2, x3⟩, ⟨l1, l3, l4, l5, l8, l10⟩, hk, hth, htl, hrw, hrf⟩ := id hp
  obtain ⟨w1, w2, w3, w4, w5, w6, w7, w8⟩ := id w
  have wv : vK (nK S) 13 6 := ⟨w1.1, by have := w1.2.1; omega, w1.2.2⟩
  have wu := wv.up (by decide) (by decide)
  have hl := hk.1
  have hn12 := w1.2.1
  have hv6 := w1.2.2.2.2.2.1
  refine Ct.of_V mo_Model_no rfl (Nat.le_of_ble_eq_true rfl) rfl ?_
  refine v_aload_n k_Model_no_0 rfl ?_
  refine v_getf fl_Model_1 ho rfl k_Model_no_1 ?_
  refine v_iload_n k_Model_no_4 rfl ?_
  refine v_ineg k_Model_no_5 ?_
  refine v_dup2 k_Model_no_6 rfl rfl ?_
  refine v_iald c1 (by omega) (by omega) k_Model_no_7 ?_
  refine v_iconst k_Model_no_8 ?_
  refine v_iadd k_Model_no_9 ?_
  refine v_ist c1 (by omega) (by omega) k_Model_no_10 (fun h10 e10 f10 => ?_)
  have f9 := f10
  have e9 := e10
  refine v_iload_n k_Model_no_11 rfl ?_
  refine v_ireturn k_Model_no_12 rfl rfl ?_
  refine ⟨rfl, ⟨X, a, ⟨fp, sn, f9.at ho (by omega), f9.at hs (by omega), hsl⟩, _, th, be, tl, fd, rw_, ⟨e9, f9.at ha (by omega), f9.at c3 (by omega), f9.at c4 (by omega), f9.at c5 (by omega), f9.at c6 (by omega), f9.at c7 (by omega), f9.at c8 (by omega), f9.at c10 (by omega)⟩, ⟨x1, x2, x3⟩, ⟨by rw [List.length_set]; exact l1, l3, l4, l5, l8, l10⟩, hk, hth, htl, hrw, ?_⟩, f9⟩
  intro i hi
  show (rf.set (-no).toNat (rf.getD (-no).toNat 0 + 1)).getD (i + 1) 0 = rget (rset (nR S) (-1 - no) (rget (nR S) (-1 - no) + 1)) i
  have q0 := hrf i hi
  have q1 := hrf (-1 - no).toNat (by omega)
  rw [show (-1 - no).toNat + 1 = (-no).toNat by omega, show (((-1 - no).toNat : Nat) : Int) = -1 - no by omega] at q1
  rw [getD_set (by omega), q1]
  by_cases e : i + 1 = (-no).toNat
  · rw [if_pos e, show (i : Int) = -1 - no by omega, rget_rset (by omega)]
  · rw [if_neg e, rget_rset_ne (by omega), q0]

set_option maxHeartbeats 4000000 in
set_option maxRecDepth 20000 in
theorem c_Model_note (G : Gx) {h : AH} {m : Nat} {S : St} (hp : pMS h m S) (w : wSt S) {n x : Int} (hn : InR n) (hx : InR x) : Ct G Y_Model_note 1 0 0 [aR m, aI n, aI x] h (fun v h' => v = some (aI (s_note S n x).1) ∧ pMS h' m (s_note S n x).2 ∧ Fr m (m + 11) h h') := by
  obtain ⟨X, a, ⟨fp, sn, ho, hs, hsl⟩, rf, th, be, tl, fd, rw_, ⟨c1, ha, c3, c4, c5, c6, c7, c8, c10⟩, ⟨x1, x2, x3⟩, ⟨l1, l3, l4, l5, l8, l10⟩, hk, hth, htl, hrw, hrf⟩ := id hp
  obtain ⟨w1, w2, w3, w4, w5, w6, w7, w8⟩ := id w
  have wv : vK (nK S) 13 6 := ⟨w1.1, by have := w1.2.1; omega, w1.2.2⟩
  have wu := wv.up (by decide) (by decide)
  have hl := hk.1
  have hn12 := w1.2.1
  have hv6 := w1.2.2.2.2.2.1
  refine Ct.of_V mo_Model_note rfl (Nat.le_of_ble_eq_true rfl) rfl ?_
  by_cases hc : 0 ≤ n ∧ n < (kP (nK S)).length
  · skip
    refine v_aload_n k_Model_note_0 rfl ?_
    refine v_iload_n k_Model_note_1 rfl ?_
    refine v_callVr mo_Model_isNoNote mi_Model_isNoNote mv_Model_isNoNote lk_Model_137 k_Model_note_2 ho rfl rfl (Nat.le_of_ble_eq_true rfl) rfl (Nat.le_of_ble_eq_true rfl) ((by have q := c_Model_isNoNote G ho ha hk wv hn; rw [if_pos hc] at q; exact q)) ?_
    refine v_ifeq 14 k_Model_note_5 rfl (by omega) (fun cd5 => ?_) (fun cd5 => ?_)
    · refine v_iload_n k_Model_note_14 rfl ?_
      refine v_iflt 23 k_Model_note_15 rfl (by omega) (fun cd15 => ?_) (fun cd15 => ?_)
      · refine v_aload_n k_Model_note_23 rfl ?_
        refine v_bipush k_Model_note_24 (by decide) ?_
        refine v_callV mo_Model_no mi_Model_no mv_Model_no lk_Model_49 k_Model_note_26 ho rfl rfl (Nat.le_of_ble_eq_true rfl) rfl (Nat.le_of_ble_eq_true rfl) (c_Model_no G hp w (by omega)) (fun v26 h26 q26 => ?_)
        obtain ⟨rfl, p9, f9⟩ := q26
        refine v_ireturn k_Model_note_29 rfl rfl ?_
        first
          | (exfalso; omega)
          | exact fin3 (by unfold s_note; (repeat (first | rw [if_pos (by omega)] | rw [if_neg (by omega)])); (try rfl)) p9 (f9.wd (by omega) (by omega))
          | exact fin3 (by unfold s_note; (repeat (first | rw [if_pos (by omega)] | rw [if_neg (by omega)])); (try rfl)) hp Fr.rf
      · refine v_iload_n k_Model_note_18 rfl ?_
        refine v_iconst k_Model_note_19 ?_
        refine v_icle 30 k_Model_note_20 rfl (by omega) (by omega) (fun cd20 => ?_) (fun cd20 => ?_)
        · refine v_iload_n k_Model_note_30 rfl ?_
          refine v_ifne 46 k_Model_note_31 rfl (by omega) (fun cd31 => ?_) (fun cd31 => ?_)
          · refine v_iload_n k_Model_note_46 rfl ?_
            refine v_iconst k_Model_note_47 ?_
            refine v_icne 63 k_Model_note_48 rfl (by omega) (by omega) (fun cd48 => ?_) (fun cd48 => ?_)
            · refine v_aload_n k_Model_note_63 rfl ?_
              refine v_iload_n k_Model_note_64 rfl ?_
              refine v_callVr mo_Model_firstBeat mi_Model_firstBeat mv_Model_firstBeat lk_Model_91 k_Model_note_65 ho rfl rfl (Nat.le_of_ble_eq_true rfl) rfl (Nat.le_of_ble_eq_true rfl) ((by have q := c_Model_firstBeat G ho ha hk wv (n := n.toNat) (by omega); rw [show ((n.toNat : Nat) : Int) = n by omega] at q; exact q)) ?_
              refine v_ireturn k_Model_note_68 rfl rfl ?_
              first
                | (exfalso; omega)
                | exact fin3 (by unfold s_note; (repeat (first | rw [if_pos (by omega)] | rw [if_neg (by omega)])); (try rfl)) p9 (f9.wd (by omega) (by omega))
                | exact fin3 (by unfold s_note; (repeat (first | rw [if_pos (by omega)] | rw [if_neg (by omega)])); (try rfl)) hp Fr.rf
            · refine v_aload_n k_Model_note_51 rfl ?_
              refine v_getf fl_Model_13 ho rfl k_Model_note_52 ?_
              refine v_bipush k_Model_note_55 (by decide) ?_
              refine v_iload_n k_Model_note_57 rfl ?_
              refine v_iadd k_Model_note_58 ?_
              refine v_iald ha (by omega) (by omega) k_Model_note_59 ?_
              rw [hk.l (x := n) (by omega)]
              refine v_goto k_Model_note_60 (tgt := 68) rfl ?_
              refine v_ireturn k_Model_note_68 rfl rfl ?_
              first
                | (exfalso; omega)
                | exact fin3 (by unfold s_note; (repeat (first | rw [if_pos (by omega)] | rw [if_neg (by omega)])); (try rfl)) p9 (f9.wd (by omega) (by omega))
                | exact fin3 (by unfold s_note; (repeat (first | rw [if_pos (by omega)] | rw [if_neg (by omega)])); (try rfl)) hp Fr.rf
          · refine v_aload_n k_Model_note_34 rfl ?_
            refine v_getf fl_Model_13 ho rfl k_Model_note_35 ?_
            refine v_bipush k_Model_note_38 (by decide) ?_
            refine v_iload_n k_Model_note_40 rfl ?_
            refine v_iadd k_Model_note_41 ?_
            refine v_iald ha (by omega) (by omega) k_Model_note_42 ?_
            rw [hk.p (x := n) (by omega)]
            refine v_goto k_Model_note_43 (tgt := 68) rfl ?_
            refine v_ireturn k_Model_note_68 rfl rfl ?_
            first
              | (exfalso; omega)
              | exact fin3 (by unfold s_note; (repeat (first | rw [if_pos (by omega)] | rw [if_neg (by omega)])); (try rfl)) p9 (f9.wd (by omega) (by omega))
              | exact fin3 (by unfold s_note; (repeat (first | rw [if_pos (by omega)] | rw [if_neg (by omega)])); (try rfl)) hp Fr.rf
        · refine v_aload_n k_Model_note_23 rfl ?_
          refine v_bipush k_Model_note_24 (by decide) ?_
          refine v_callV mo_Model_no mi_Model_no mv_Model_no lk_Model_49 k_Model_note_26 ho rfl rfl (Nat.le_of_ble_eq_true rfl) rfl (Nat.le_of_ble_eq_true rfl) (c_Model_no G hp w (by omega)) (fun v26 h26 q26 => ?_)
          obtain ⟨rfl, p9, f9⟩ := q26
          refine v_ireturn k_Model_note_29 rfl rfl ?_
          first
            | (exfalso; omega)
            | exact fin3 (by unfold s_note; (repeat (first | rw [if_pos (by omega)] | rw [if_neg (by omega)])); (try rfl)) p9 (f9.wd (by omega) (by omega))
            | exact fin3 (by unfold s_note; (repeat (first | rw [if_pos (by omega)] | rw [if_neg (by omega)])); (try rfl)) hp Fr.rf
    · refine v_aload_n k_Model_note_8 rfl ?_
      refine v_iconst k_Model_note_9 ?_
      refine v_callV mo_Model_no mi_Model_no mv_Model_no lk_Model_49 k_Model_note_10 ho rfl rfl (Nat.le_of_ble_eq_true rfl) rfl (Nat.le_of_ble_eq_true rfl) (c_Model_no G hp w (by omega)) (fun v10 h10 q10 => ?_)
      obtain ⟨rfl, p9, f9⟩ := q10
      refine v_ireturn k_Model_note_13 rfl rfl ?_
      first
        | (exfalso; omega)
        | exact fin3 (by unfold s_note; (repeat (first | rw [if_pos (by omega)] | rw [if_neg (by omega)])); (try rfl)) p9 (f9.wd (by omega) (by omega))
        | exact fin3 (by unfold s_note; (repeat (first | rw [if_pos (by omega)] | rw [if_neg (by omega)])); (try rfl)) hp Fr.rf
  · skip
    refine v_aload_n k_Model_note_0 rfl ?_
    refine v_iload_n k_Model_note_1 rfl ?_
    refine v_callVr mo_Model_isNoNote mi_Model_isNoNote mv_Model_isNoNote lk_Model_137 k_Model_note_2 ho rfl rfl (Nat.le_of_ble_eq_true rfl) rfl (Nat.le_of_ble_eq_true rfl) ((by have q := c_Model_isNoNote G ho ha hk wv hn; rw [if_neg hc] at q; exact q)) ?_
    refine v_ifeq 14 k_Model_note_5 rfl (by omega) (fun cd5 => ?_) (fun cd5 => ?_)
    · refine v_iload_n k_Model_note_14 rfl ?_
      refine v_iflt 23 k_Model_note_15 rfl (by omega) (fun cd15 => ?_) (fun cd15 => ?_)
      · refine v_aload_n k_Model_note_23 rfl ?_
        refine v_bipush k_Model_note_24 (by decide) ?_
        refine v_callV mo_Model_no mi_Model_no mv_Model_no lk_Model_49 k_Model_note_26 ho rfl rfl (Nat.le_of_ble_eq_true rfl) rfl (Nat.le_of_ble_eq_true rfl) (c_Model_no G hp w (by omega)) (fun v26 h26 q26 => ?_)
        obtain ⟨rfl, p9, f9⟩ := q26
        refine v_ireturn k_Model_note_29 rfl rfl ?_
        first
          | (exfalso; omega)
          | exact fin3 (by unfold s_note; (repeat (first | rw [if_pos (by omega)] | rw [if_neg (by omega)])); (try rfl)) p9 (f9.wd (by omega) (by omega))
          | exact fin3 (by unfold s_note; (repeat (first | rw [if_pos (by omega)] | rw [if_neg (by omega)])); (try rfl)) hp Fr.rf
      · refine v_iload_n k_Model_note_18 rfl ?_
        refine v_iconst k_Model_note_19 ?_
        refine v_icle 30 k_Model_note_20 rfl (by omega) (by omega) (fun cd20 => ?_) (fun cd20 => ?_)
        · refine v_iload_n k_Model_note_30 rfl ?_
          refine v_ifne 46 k_Model_note_31 rfl (by omega) (fun cd31 => ?_) (fun cd31 => ?_)
          · refine v_iload_n k_Model_note_46 rfl ?_
            refine v_iconst k_Model_note_47 ?_
            refine v_icne 63 k_Model_note_48 rfl (by omega) (by omega) (fun cd48 => ?_) (fun cd48 => ?_)
            · refine v_aload_n k_Model_note_63 rfl ?_
              refine v_iload_n k_Model_note_64 rfl ?_
              refine v_callVr mo_Model_firstBeat mi_Model_firstBeat mv_Model_firstBeat lk_Model_91 k_Model_note_65 ho rfl rfl (Nat.le_of_ble_eq_true rfl) rfl (Nat.le_of_ble_eq_true rfl) ((by have q := c_Model_firstBeat G ho ha hk wv (n := n.toNat) (by omega); rw [show ((n.toNat : Nat) : Int) = n by omega] at q; exact q)) ?_
              refine v_ireturn k_Model_note_68 rfl rfl ?_
              first
                | (exfalso; omega)
                | exact fin3 (by unfold s_note; (repeat (first | rw [if_pos (by omega)] | rw [if_neg (by omega)])); (try rfl)) p9 (f9.wd (by omega) (by omega))
                | exact fin3 (by unfold s_note; (repeat (first | rw [if_pos (by omega)] | rw [if_neg (by omega)])); (try rfl)) hp Fr.rf
            · refine v_aload_n k_Model_note_51 rfl ?_
              refine v_getf fl_Model_13 ho rfl k_Model_note_52 ?_
              refine v_bipush k_Model_note_55 (by decide) ?_
              refine v_iload_n k_Model_note_57 rfl ?_
              refine v_iadd k_Model_note_58 ?_
              refine v_iald ha (by omega) (by omega) k_Model_note_59 ?_
              rw [hk.l (x := n) (by omega)]
              refine v_goto k_Model_note_60 (tgt := 68) rfl ?_
              refine v_ireturn k_Model_note_68 rfl rfl ?_
              first
                | (exfalso; omega)
                | exact fin3 (by unfold s_note; (repeat (first | rw [if_pos (by omega)] | rw [if_neg (by omega)])); (try rfl)) p9 (f9.wd (by omega) (by omega))
                | exact fin3 (by unfold s_note; (repeat (first | rw [if_pos (by omega)] | rw [if_neg (by omega)])); (try rfl)) hp Fr.rf
          · refine v_aload_n k_Model_note_34 rfl ?_
            refine v_getf fl_Model_13 ho rfl k_Model_note_35 ?_
            refine v_bipush k_Model_note_38 (by decide) ?_
            refine v_iload_n k_Model_note_40 rfl ?_
            refine v_iadd k_Model_note_41 ?_
            refine v_iald ha (by omega) (by omega) k_Model_note_42 ?_
            rw [hk.p (x := n) (by omega)]
            refine v_goto k_Model_note_43 (tgt := 68) rfl ?_
            refine v_ireturn k_Model_note_68 rfl rfl ?_
            first
              | (exfalso; omega)
              | exact fin3 (by unfold s_note; (repeat (first | rw [if_pos (by omega)] | rw [if_neg (by omega)])); (try rfl)) p9 (f9.wd (by omega) (by omega))
              | exact fin3 (by unfold s_note; (repeat (first | rw [if_pos (by omega)] | rw [if_neg (by omega)])); (try rfl)) hp Fr.rf
        · refine v_aload_n k_Model_note_23 rfl ?_
          refine v_bipush k_Model_note_24 (by decide) ?_
          refine v_callV mo_Model_no mi_Model_no mv_Model_no lk_Model_49 k_Model_note_26 ho rfl rfl (Nat.le_of_ble_eq_true rfl) rfl (Nat.le_of_ble_eq_true rfl) (c_Model_no G hp w (by omega)) (fun v26 h26 q26 => ?_)
          obtain ⟨rfl, p9, f9⟩ := q26
          refine v_ireturn k_Model_note_29 rfl rfl ?_
          first
            | (exfalso; omega)
            | exact fin3 (by unfold s_note; (repeat (first | rw [if_pos (by omega)] | rw [if_neg (by omega)])); (try rfl)) p9 (f9.wd (by omega) (by omega))
            | exact fin3 (by unfold s_note; (repeat (first | rw [if_pos (by omega)] | rw [if_neg (by omega)])); (try rfl)) hp Fr.rf
    · refine v_aload_n k_Model_note_8 rfl ?_
      refine v_iconst k_Model_note_9 ?_
      refine v_callV mo_Model_no mi_Model_no mv_Model_no lk_Model_49 k_Model_note_10 ho rfl rfl (Nat.le_of_ble_eq_true rfl) rfl (Nat.le_of_ble_eq_true rfl) (c_Model_no G hp w (by omega)) (fun v10 h10 q10 => ?_)
      obtain ⟨rfl, p9, f9⟩ := q10
      refine v_ireturn k_Model_note_13 rfl rfl ?_
      first
        | (exfalso; omega)
        | exact fin3 (by unfold s_note; (repeat (first | rw [if_pos (by omega)] | rw [if_neg (by omega)])); (try rfl)) p9 (f9.wd (by omega) (by omega))
        | exact fin3 (by unfold s_note; (repeat (first | rw [if_pos (by omega)] | rw [if_neg (by omega)])); (try rfl)) hp Fr.rf

set_option maxHeartbeats 4000000 in
set_option maxRecDepth 20000 in
theorem c_Model_sound (G : Gx) {h : AH} {m : Nat} {S : St} (hp : pMS h m S) (w : wSt S) {n x : Int} (hn : InR n) (hx : InR x) : Ct G Y_Model_sound 5 0 0 [aR m, aI n, aI x] h (fun v h' => v = some (aI (s_sound S n x).1) ∧ pMS h' m (s_sound S n x).2 ∧ Fr m (m + 11) h h') := by
  obtain ⟨X, a, ⟨fp, sn, ho, hs, hsl⟩, rf, th, be, tl, fd, rw_, ⟨c1, ha, c3, c4, c5, c6, c7, c8, c10⟩, ⟨x1, x2, x3⟩, ⟨l1, l3, l4, l5, l8, l10⟩, hk, hth, htl, hrw, hrf⟩ := id hp
  obtain ⟨w1, w2, w3, w4, w5, w6, w7, w8⟩ := id w
  have wv : vK (nK S) 13 6 := ⟨w1.1, by have := w1.2.1; omega, w1.2.2⟩
  have wu := wv.up (by decide) (by decide)
  have hl := hk.1
  have hn12 := w1.2.1
  have hv6 := w1.2.2.2.2.2.1
  have ho_ := oS_spec x 0 400
  refine Ct.of_V mo_Model_sound rfl (Nat.le_of_ble_eq_true rfl) rfl ?_
  by_cases hc : 0 ≤ n ∧ n < (kK (nK S)).length
  · skip
    refine v_aload_n k_Model_sound_0 rfl ?_
    refine v_iload_n k_Model_sound_1 rfl ?_
    refine v_callVr mo_Model_isNoVoice mi_Model_isNoVoice mv_Model_isNoVoice lk_Model_141 k_Model_sound_2 ho rfl rfl (Nat.le_of_ble_eq_true rfl) rfl (Nat.le_of_ble_eq_true rfl) ((by have q := c_Model_isNoVoice G ho ha hk wv hn; rw [if_pos hc] at q; exact q)) ?_
    refine v_ifeq 17 k_Model_sound_5 rfl (by omega) (fun cd5 => ?_) (fun cd5 => ?_)
    · refine v_iload_n k_Model_sound_17 rfl ?_
      refine v_iconst k_Model_sound_18 ?_
      refine v_sipush k_Model_sound_19 (by decide) ?_
      refine v_callSr mo_Model_isWrong ms_Model_isWrong lk_Model_148 k_Model_sound_22 rfl (Nat.le_of_ble_eq_true rfl) rfl (Nat.le_of_ble_eq_true rfl) (c_Model_isWrong G (v := x) (l := 0) (m := 400) (by omega) (by omega) (by omega)) ?_
      refine v_ifeq 44 k_Model_sound_25 rfl (by omega) (fun cd25 => ?_) (fun cd25 => ?_)
      · refine v_aload_n k_Model_sound_44 rfl ?_
        refine v_iload_n k_Model_sound_45 rfl ?_
        refine v_iload_n k_Model_sound_46 rfl ?_
        refine v_callVr mo_Model_soundAt mi_Model_soundAt mv_Model_soundAt lk_Model_125 k_Model_sound_47 ho rfl rfl (Nat.le_of_ble_eq_true rfl) rfl (Nat.le_of_ble_eq_true rfl) (c_Model_soundAt G ho ha hk wv (v := n) (by omega) (by omega)) ?_
        refine v_ireturn k_Model_sound_50 rfl rfl ?_
        first
          | (exfalso; omega)
          | exact fin3 (by unfold s_sound; (repeat (first | rw [if_pos (by omega)] | rw [if_neg (by omega)])); (try rfl)) p9 (f9.wd (by omega) (by omega))
          | exact fin3 (by unfold s_sound; (repeat (first | rw [if_pos (by omega)] | rw [if_neg (by omega)])); (try rfl)) hp Fr.rf
      · refine v_ldc (x := 1000000000) cn_Model_147 k_Model_sound_28 (by decide) ?_
        refine v_aload_n k_Model_sound_30 rfl ?_
        refine v_iload_n k_Model_sound_31 rfl ?_
        refine v_iconst k_Model_sound_32 ?_
        refine v_sipush k_Model_sound_33 (by decide) ?_
        refine v_callSr mo_Model_isWrong ms_Model_isWrong lk_Model_148 k_Model_sound_36 rfl (Nat.le_of_ble_eq_true rfl) rfl (Nat.le_of_ble_eq_true rfl) (c_Model_isWrong G (v := x) (l := 0) (m := 400) (by omega) (by omega) (by omega)) ?_
        refine v_callV mo_Model_no mi_Model_no mv_Model_no lk_Model_49 k_Model_sound_39 ho rfl rfl (Nat.le_of_ble_eq_true rfl) rfl (Nat.le_of_ble_eq_true rfl) (c_Model_no G hp w (by omega)) (fun v39 h39 q39 => ?_)
        obtain ⟨rfl, p9, f9⟩ := q39
        refine v_isub k_Model_sound_42 ?_
        refine v_ireturn k_Model_sound_43 rfl rfl ?_
        first
          | (exfalso; omega)
          | exact fin3 (by unfold s_sound; (repeat (first | rw [if_pos (by omega)] | rw [if_neg (by omega)])); (try rfl)) p9 (f9.wd (by omega) (by omega))
          | exact fin3 (by unfold s_sound; (repeat (first | rw [if_pos (by omega)] | rw [if_neg (by omega)])); (try rfl)) hp Fr.rf
    · refine v_ldc (x := 1000000000) cn_Model_147 k_Model_sound_8 (by decide) ?_
      refine v_aload_n k_Model_sound_10 rfl ?_
      refine v_iconst k_Model_sound_11 ?_
      refine v_callV mo_Model_no mi_Model_no mv_Model_no lk_Model_49 k_Model_sound_12 ho rfl rfl (Nat.le_of_ble_eq_true rfl) rfl (Nat.le_of_ble_eq_true rfl) (c_Model_no G hp w (by omega)) (fun v12 h12 q12 => ?_)
      obtain ⟨rfl, p9, f9⟩ := q12
      refine v_isub k_Model_sound_15 ?_
      refine v_ireturn k_Model_sound_16 rfl rfl ?_
      first
        | (exfalso; omega)
        | exact fin3 (by unfold s_sound; (repeat (first | rw [if_pos (by omega)] | rw [if_neg (by omega)])); (try rfl)) p9 (f9.wd (by omega) (by omega))
        | exact fin3 (by unfold s_sound; (repeat (first | rw [if_pos (by omega)] | rw [if_neg (by omega)])); (try rfl)) hp Fr.rf
  · skip
    refine v_aload_n k_Model_sound_0 rfl ?_
    refine v_iload_n k_Model_sound_1 rfl ?_
    refine v_callVr mo_Model_isNoVoice mi_Model_isNoVoice mv_Model_isNoVoice lk_Model_141 k_Model_sound_2 ho rfl rfl (Nat.le_of_ble_eq_true rfl) rfl (Nat.le_of_ble_eq_true rfl) ((by have q := c_Model_isNoVoice G ho ha hk wv hn; rw [if_neg hc] at q; exact q)) ?_
    refine v_ifeq 17 k_Model_sound_5 rfl (by omega) (fun cd5 => ?_) (fun cd5 => ?_)
    · refine v_iload_n k_Model_sound_17 rfl ?_
      refine v_iconst k_Model_sound_18 ?_
      refine v_sipush k_Model_sound_19 (by decide) ?_
      refine v_callSr mo_Model_isWrong ms_Model_isWrong lk_Model_148 k_Model_sound_22 rfl (Nat.le_of_ble_eq_true rfl) rfl (Nat.le_of_ble_eq_true rfl) (c_Model_isWrong G (v := x) (l := 0) (m := 400) (by omega) (by omega) (by omega)) ?_
      refine v_ifeq 44 k_Model_sound_25 rfl (by omega) (fun cd25 => ?_) (fun cd25 => ?_)
      · refine v_aload_n k_Model_sound_44 rfl ?_
        refine v_iload_n k_Model_sound_45 rfl ?_
        refine v_iload_n k_Model_sound_46 rfl ?_
        refine v_callVr mo_Model_soundAt mi_Model_soundAt mv_Model_soundAt lk_Model_125 k_Model_sound_47 ho rfl rfl (Nat.le_of_ble_eq_true rfl) rfl (Nat.le_of_ble_eq_true rfl) (c_Model_soundAt G ho ha hk wv (v := n) (by omega) (by omega)) ?_
        refine v_ireturn k_Model_sound_50 rfl rfl ?_
        first
          | (exfalso; omega)
          | exact fin3 (by unfold s_sound; (repeat (first | rw [if_pos (by omega)] | rw [if_neg (by omega)])); (try rfl)) p9 (f9.wd (by omega) (by omega))
          | exact fin3 (by unfold s_sound; (repeat (first | rw [if_pos (by omega)] | rw [if_neg (by omega)])); (try rfl)) hp Fr.rf
      · refine v_ldc (x := 1000000000) cn_Model_147 k_Model_sound_28 (by decide) ?_
        refine v_aload_n k_Model_sound_30 rfl ?_
        refine v_iload_n k_Model_sound_31 rfl ?_
        refine v_iconst k_Model_sound_32 ?_
        refine v_sipush k_Model_sound_33 (by decide) ?_
        refine v_callSr mo_Model_isWrong ms_Model_isWrong lk_Model_148 k_Model_sound_36 rfl (Nat.le_of_ble_eq_true rfl) rfl (Nat.le_of_ble_eq_true rfl) (c_Model_isWrong G (v := x) (l := 0) (m := 400) (by omega) (by omega) (by omega)) ?_
        refine v_callV mo_Model_no mi_Model_no mv_Model_no lk_Model_49 k_Model_sound_39 ho rfl rfl (Nat.le_of_ble_eq_true rfl) rfl (Nat.le_of_ble_eq_true rfl) (c_Model_no G hp w (by omega)) (fun v39 h39 q39 => ?_)
        obtain ⟨rfl, p9, f9⟩ := q39
        refine v_isub k_Model_sound_42 ?_
        refine v_ireturn k_Model_sound_43 rfl rfl ?_
        first
          | (exfalso; omega)
          | exact fin3 (by unfold s_sound; (repeat (first | rw [if_pos (by omega)] | rw [if_neg (by omega)])); (try rfl)) p9 (f9.wd (by omega) (by omega))
          | exact fin3 (by unfold s_sound; (repeat (first | rw [if_pos (by omega)] | rw [if_neg (by omega)])); (try rfl)) hp Fr.rf
    · refine v_ldc (x := 1000000000) cn_Model_147 k_Model_sound_8 (by decide) ?_
      refine v_aload_n k_Model_sound_10 rfl ?_
      refine v_iconst k_Model_sound_11 ?_
      refine v_callV mo_Model_no mi_Model_no mv_Model_no lk_Model_49 k_Model_sound_12 ho rfl rfl (Nat.le_of_ble_eq_true rfl) rfl (Nat.le_of_ble_eq_true rfl) (c_Model_no G hp w (by omega)) (fun v12 h12 q12 => ?_)
      obtain ⟨rfl, p9, f9⟩ := q12
      refine v_isub k_Model_sound_15 ?_
      refine v_ireturn k_Model_sound_16 rfl rfl ?_
      first
        | (exfalso; omega)
        | exact fin3 (by unfold s_sound; (repeat (first | rw [if_pos (by omega)] | rw [if_neg (by omega)])); (try rfl)) p9 (f9.wd (by omega) (by omega))
        | exact fin3 (by unfold s_sound; (repeat (first | rw [if_pos (by omega)] | rw [if_neg (by omega)])); (try rfl)) hp Fr.rf
