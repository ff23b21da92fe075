/-! one pitch after another -/
def FrB (m : Nat) (h h' : AH) : Prop := h'.1 = h.1 ∧ ∀ q, q ≠ m → q ≠ m + 2 → q ≠ m + 9 → h'.2 q = h.2 q
theorem FrB.rf {m : Nat} {h : AH} : FrB m h h := ⟨rfl, fun _ _ _ _ => rfl⟩
theorem FrB.tr {m : Nat} {h h1 h2 : AH} (a : FrB m h h1) (b : FrB m h1 h2) : FrB m h h2 := ⟨b.1.trans a.1, fun q q1 q2 q3 => (b.2 q q1 q2 q3).trans (a.2 q q1 q2 q3)⟩
theorem FrA.b {m : Nat} {h h' : AH} (f : FrA m h h') : FrB m h h' := ⟨f.1, fun q h1 _ h3 => f.2 q h1 h3⟩
theorem Fr.b2 {m : Nat} {h h' : AH} (f : Fr (m + 2) (m + 2 + 1) h h') : FrB m h h' := ⟨f.1, fun q h1 h2 h3 => f.2 q (by omega)⟩
theorem FrB.at {m p : Nat} {h h' : AH} {x : Option AC} (f : FrB m h h') (hx : h.2 p = x) (h1 : p ≠ m) (h2 : p ≠ m + 2) (h3 : p ≠ m + 9) : h'.2 p = x := (f.2 p h1 h2 h3).trans hx
theorem FrB.fr {m : Nat} {h h' : AH} (f : FrB m h h') : Fr m (m + 11) h h' := ⟨f.1, fun q hq => f.2 q (by omega) (by omega) (by omega)⟩
def pW (h : AH) (m : Nat) (K : CK) : Prop := ∃ a, h.2 (m + 2) = some (aA 0 a) ∧ nowR a K
theorem pQ.fb {h h' : AH} {m : Nat} {S : St} {X : MX} {a : List Int} (p : pQ h m S X a) (f : FrB m h h') (q : pW h' m (nK S)) : ∃ a', pQ h' m S X a' := by
  obtain ⟨rf, th, be, tl, fd, rw_, ⟨c1, c2, c3, c4, c5, c6, c7, c8, c10⟩, r1, r2, r3, r4⟩ := p
  obtain ⟨a', q1, q2⟩ := q
  exact ⟨a', rf, th, be, tl, fd, rw_, ⟨f.at c1 (by omega) (by omega) (by omega), q1, f.at c3 (by omega) (by omega) (by omega), f.at c4 (by omega) (by omega) (by omega), f.at c5 (by omega) (by omega) (by omega), f.at c6 (by omega) (by omega) (by omega), f.at c7 (by omega) (by omega) (by omega), f.at c8 (by omega) (by omega) (by omega), f.at c10 (by omega) (by omega) (by omega)⟩, r1, r2, q2, r4⟩
def o1 (K : CK) (n : Int) : Nat → Int → Int
  | 0, _ => -9
  | k + 1, p => if p ≠ rget (kP K) n ∧ mW (setP K n p) = true then 10 * n + p else o1 K n k (p + 1)
def o2 (K : CK) : Nat → Int → Int
  | 0, _ => -9
  | k + 1, n => if o1 K n 10 0 = -9 then o2 K k (n + 1) else o1 K n 10 0
def mOC (K : CK) : Int := o2 K (kP K).length 0
def w1_ (K : CK) (n : Int) : Nat → Int → Bool
  | 0, _ => false
  | k + 1, p => if p ≠ rget (kP K) n ∧ mOC (setP K n p) ≠ -9 then true else w1_ K n k (p + 1)
def w2_ (K : CK) : Nat → Int → Bool
  | 0, _ => false
  | k + 1, n => if w1_ K n 10 0 = true then true else w2_ K k (n + 1)
def mTC (K : CK) : Bool := w2_ K (kP K).length 0
def b1_ (K : CK) (n : Int) : Nat → Int → Int → Int
  | 0, _, acc => acc
  | k + 1, p, acc => b1_ K n k (p + 1) (min acc (mS (setP K n p) (-9) (q_endK (setP K n p)).toNat))
def b2_ (K : CK) : Nat → Int → Int → Int
  | 0, _, acc => acc
  | k + 1, n, acc => b2_ K k (n + 1) (b1_ K n 10 0 acc)
theorem o1_bd (K : CK) (n : Int) : ∀ (k : Nat) (p : Int), o1 K n k p = -9 ∨ (10 * n + p ≤ o1 K n k p ∧ o1 K n k p < 10 * n + p + k)
  | 0, p => Or.inl rfl
  | k + 1, p => by
    have := o1_bd K n k (p + 1)
    unfold o1
    split <;> omega
theorem o2_bd (K : CK) : ∀ (k : Nat) (n : Int), 0 ≤ n → n + k ≤ 20 → -9 ≤ o2 K k n ∧ o2 K k n ≤ 300
  | 0, _, _, _ => by show (-9 : Int) ≤ -9 ∧ (-9 : Int) ≤ 300; decide
  | k + 1, n, h1, h2 => by
    have q1 := o2_bd K k (n + 1) (by omega) (by omega)
    have q2 := o1_bd K n 10 0
    unfold o2
    split <;> omega
set_option maxHeartbeats 4000000 in
set_option maxRecDepth 20000 in
theorem c_Model_oneChange (G : Gx) {h : AH} {m : Nat} {X : MX} {K : CK} (hO : pO h m X) (hW : pW h m K) (w : vK K 12 6) : Ct G Y_Model_oneChange 7 0 0 [aR m] h (fun v h' => v = some (aI (mOC K)) ∧ pO h' m X ∧ pW h' m K ∧ FrB m h h') := by
  have w13 : vK K 13 6 := ⟨w.1, by have := w.2.1; omega, w.2.2⟩
  have hn12 := w.2.1
  have hpt := fun v => (w13.up (by decide) (by decide)).pt v
  refine Ct.of_V mo_Model_oneChange rfl (Nat.le_of_ble_eq_true rfl) rfl ?_
  have loop : ∀ (k : Nat) (i : Nat) (h1 : AH) (z1 z2 : Option AV), ((kP K).length = i + k) → (pO h1 m X) → (pW h1 m K) → (FrB m h h1) → (o2 K k i = mOC K) → V G Y_Model_oneChange 7 0 0 2 [some (aR m), some (aI (i : Int)), z1, z2] [] h1 (fun v h' => v = some (aI (mOC K)) ∧ pO h' m X ∧ pW h' m K ∧ FrB m h h') := by
    intro k
    induction k with
    | zero =>
      intro i h1 z1 z2 hi hO1 hW1 f1 ht
      obtain ⟨fp1, sn1, ho, hs, hsl⟩ := id hO1
      obtain ⟨a1, ha, hk⟩ := id hW1
      have hl := hk.1
      have hpi := hpt (i : Int)
      refine v_iload_n k_Model_oneChange_2 rfl ?_
      refine v_aload_n k_Model_oneChange_3 rfl ?_
      refine v_getf fl_Model_13 ho rfl k_Model_oneChange_4 ?_
      refine v_iconst k_Model_oneChange_7 ?_
      refine v_iald ha (by omega) (by omega) k_Model_oneChange_8 ?_
      rw [hk.n0]
      refine v_icge 91 k_Model_oneChange_9 rfl (by omega) (by omega) (fun cd9 => ?_) (fun cd9 => ?_)
      · refine v_bipush k_Model_oneChange_91 (by decide) ?_
        refine v_ireturn k_Model_oneChange_93 rfl rfl ?_
        have e : mOC K = -9 := by rw [← ht]; rfl
        rw [e]
        exact ⟨rfl, hO1, hW1, f1⟩
      · exfalso; omega
    | succ k ih =>
      intro i h1 z1 z2 hi hO1 hW1 f1 ht
      obtain ⟨fp1, sn1, ho, hs, hsl⟩ := id hO1
      obtain ⟨a1, ha, hk⟩ := id hW1
      have hl := hk.1
      have hpi := hpt (i : Int)
      refine v_iload_n k_Model_oneChange_2 rfl ?_
      refine v_aload_n k_Model_oneChange_3 rfl ?_
      refine v_getf fl_Model_13 ho rfl k_Model_oneChange_4 ?_
      refine v_iconst k_Model_oneChange_7 ?_
      refine v_iald ha (by omega) (by omega) k_Model_oneChange_8 ?_
      rw [hk.n0]
      refine v_icge 91 k_Model_oneChange_9 rfl (by omega) (by omega) (fun cd9 => ?_) (fun cd9 => ?_)
      · refine v_bipush k_Model_oneChange_91 (by decide) ?_
        refine v_ireturn k_Model_oneChange_93 rfl rfl ?_
        exfalso; omega
      · refine v_aload_n k_Model_oneChange_12 rfl ?_
        refine v_getf fl_Model_13 ho rfl k_Model_oneChange_13 ?_
        refine v_bipush k_Model_oneChange_16 (by decide) ?_
        refine v_iload_n k_Model_oneChange_18 rfl ?_
        refine v_iadd k_Model_oneChange_19 ?_
        refine v_iald ha (by omega) (by omega) k_Model_oneChange_20 ?_
        rw [hk.p (x := (i : Int)) (by omega)]
        refine v_istore_n k_Model_oneChange_21 ⟨Nat.le_of_ble_eq_true rfl, Nat.le_of_ble_eq_true rfl⟩ ?_
        refine v_iconst k_Model_oneChange_22 ?_
        refine v_istore_n k_Model_oneChange_23 ⟨Nat.le_of_ble_eq_true rfl, Nat.le_of_ble_eq_true rfl⟩ ?_
        have loop2 : ∀ (k2 : Nat) (p : Nat) (h2 : AH) (q : Int), (p + k2 = 10) → (0 ≤ q ∧ q ≤ 9) → (pO h2 m X) → (pW h2 m (setP K i q)) → (FrB m h h2) → (o1 K i k2 p = o1 K i 10 0) → V G Y_Model_oneChange 7 0 0 24 [some (aR m), some (aI (i : Int)), some (aI (rget (kP K) i)), some (aI (p : Int))] [] h2 (fun v h' => v = some (aI (mOC K)) ∧ pO h' m X ∧ pW h' m K ∧ FrB m h h') := by
          intro k2
          induction k2 with
          | zero =>
            intro p h2 q hp hq hO2 hW2 f2 ht2
            obtain ⟨fp2, sn2, ho, hs, hsl⟩ := id hO2
            obtain ⟨a2, ha, hk⟩ := id hW2
            have hl := hk.1
            refine v_iload_n k_Model_oneChange_24 rfl ?_
            refine v_bipush k_Model_oneChange_25 (by decide) ?_
            refine v_icge 75 k_Model_oneChange_27 rfl (by omega) (by omega) (fun cd27 => ?_) (fun cd27 => ?_)
            · refine v_aload_n k_Model_oneChange_75 rfl ?_
              refine v_getf fl_Model_13 ho rfl k_Model_oneChange_76 ?_
              refine v_bipush k_Model_oneChange_79 (by decide) ?_
              refine v_iload_n k_Model_oneChange_81 rfl ?_
              refine v_iadd k_Model_oneChange_82 ?_
              refine v_iload_n k_Model_oneChange_83 rfl ?_
              refine v_ist ha (by omega) (by omega) k_Model_oneChange_84 (fun h84 e84 f84 => ?_)
              have ha := e84
              have hk := nowR_setP (n := (i : Int)) (x := rget (kP K) (i : Int)) hk ⟨by omega, by show (i : Int) < ((rset (kP K) i q).length : Int); rw [rset_len]; omega⟩ (by show (rset (kP K) i q).length ≤ 13; rw [rset_len]; omega)
              rw [setP_back] at hk
              have ho := f84.at ho (by omega)
              have hs := f84.at hs (by omega)
              have hl := hk.1
              have f2 := f2.tr f84.b2
              refine v_iinc k_Model_oneChange_85 rfl (Nat.le_of_ble_eq_true rfl) ?_
              refine v_goto k_Model_oneChange_88 (tgt := 2) rfl ?_
              refine ih (i + 1) _ _ _ (by omega) ⟨_, _, ho, hs, hsl⟩ ⟨_, ha, hk⟩ f2 ?_
              have e1 : o1 K i 10 0 = -9 := by rw [← ht2]; rfl
              rw [← ht, o2, if_pos e1]
              rfl
            · exfalso; omega
          | succ k2 ih2 =>
            intro p h2 q hp hq hO2 hW2 f2 ht2
            obtain ⟨fp2, sn2, ho, hs, hsl⟩ := id hO2
            obtain ⟨a2, ha, hk⟩ := id hW2
            have hl := hk.1
            refine v_iload_n k_Model_oneChange_24 rfl ?_
            refine v_bipush k_Model_oneChange_25 (by decide) ?_
            refine v_icge 75 k_Model_oneChange_27 rfl (by omega) (by omega) (fun cd27 => ?_) (fun cd27 => ?_)
            · exfalso; omega
            · refine v_aload_n k_Model_oneChange_30 rfl ?_
              refine v_getf fl_Model_13 ho rfl k_Model_oneChange_31 ?_
              refine v_bipush k_Model_oneChange_34 (by decide) ?_
              refine v_iload_n k_Model_oneChange_36 rfl ?_
              refine v_iadd k_Model_oneChange_37 ?_
              refine v_iload_n k_Model_oneChange_38 rfl ?_
              refine v_ist ha (by omega) (by omega) k_Model_oneChange_39 (fun h39 e39 f39 => ?_)
              have f4 := f2.tr f39.b2
              have ha := e39
              have hk := nowR_setP (n := (i : Int)) (x := (p : Int)) hk ⟨by omega, by show (i : Int) < ((rset (kP K) i q).length : Int); rw [rset_len]; omega⟩ (by show (rset (kP K) i q).length ≤ 13; rw [rset_len]; omega)
              rw [setP_setP] at hk
              have ho := f39.at ho (by omega)
              have hs := f39.at hs (by omega)
              have hl := hk.1
              refine v_iload_n k_Model_oneChange_40 rfl ?_
              refine v_iload_n k_Model_oneChange_41 rfl ?_
              refine v_iceq 69 k_Model_oneChange_42 rfl (by omega) (by omega) (fun cd42 => ?_) (fun cd42 => ?_)
              · refine v_iinc k_Model_oneChange_69 rfl (Nat.le_of_ble_eq_true rfl) ?_
                refine v_goto k_Model_oneChange_72 (tgt := 24) rfl ?_
                refine ih2 (p + 1) _ p (by omega) (by omega) ⟨_, _, ho, hs, hsl⟩ ⟨_, ha, hk⟩ f4 ?_
                rw [← ht2, o1, if_neg (by rintro ⟨q1, q2⟩; first | omega | (rw [if_pos q2] at cd49; exact absurd cd49 (by decide)))]
                rfl
              · refine v_aload_n k_Model_oneChange_45 rfl ?_
                refine v_callV mo_Model_isWell mi_Model_isWell mv_Model_isWell lk_Model_159 k_Model_oneChange_46 ho rfl rfl (Nat.le_of_ble_eq_true rfl) rfl (Nat.le_of_ble_eq_true rfl) (c_Model_isWell G ⟨_, _, ho, hs, hsl⟩ ha hk (w13.setP (by omega))) (fun v46 h46 q46 => ?_)
                obtain ⟨rfl, hO5, f5⟩ := q46
                have ha := f5.at ha (by omega) (by omega)
                obtain ⟨fp5, sn5, ho, hs, hsl⟩ := id hO5
                have f4 := f4.tr f5.b
                refine v_ifeq 69 k_Model_oneChange_49 rfl (by split <;> decide) (fun cd49 => ?_) (fun cd49 => ?_)
                · refine v_iinc k_Model_oneChange_69 rfl (Nat.le_of_ble_eq_true rfl) ?_
                  refine v_goto k_Model_oneChange_72 (tgt := 24) rfl ?_
                  refine ih2 (p + 1) _ p (by omega) (by omega) ⟨_, _, ho, hs, hsl⟩ ⟨_, ha, hk⟩ f4 ?_
                  rw [← ht2, o1, if_neg (by rintro ⟨q1, q2⟩; first | omega | (rw [if_pos q2] at cd49; exact absurd cd49 (by decide)))]
                  rfl
                · refine v_aload_n k_Model_oneChange_52 rfl ?_
                  refine v_getf fl_Model_13 ho rfl k_Model_oneChange_53 ?_
                  refine v_bipush k_Model_oneChange_56 (by decide) ?_
                  refine v_iload_n k_Model_oneChange_58 rfl ?_
                  refine v_iadd k_Model_oneChange_59 ?_
                  refine v_iload_n k_Model_oneChange_60 rfl ?_
                  refine v_ist ha (by omega) (by omega) k_Model_oneChange_61 (fun h61 e61 f61 => ?_)
                  have ha := e61
                  have hk := nowR_setP (n := (i : Int)) (x := rget (kP K) (i : Int)) hk ⟨by omega, by show (i : Int) < ((rset (kP K) i p).length : Int); rw [rset_len]; omega⟩ (by show (rset (kP K) i p).length ≤ 13; rw [rset_len]; omega)
                  rw [setP_back] at hk
                  have ho := f61.at ho (by omega)
                  have hs := f61.at hs (by omega)
                  have hl := hk.1
                  have f4 := f4.tr f61.b2
                  refine v_bipush k_Model_oneChange_62 (by decide) ?_
                  refine v_iload_n k_Model_oneChange_64 rfl ?_
                  refine v_imul k_Model_oneChange_65 ?_
                  refine v_iload_n k_Model_oneChange_66 rfl ?_
                  refine v_iadd k_Model_oneChange_67 ?_
                  refine v_ireturn k_Model_oneChange_68 rfl rfl ?_
                  have hy : mW (setP K i p) = true := by
                    apply Classical.byContradiction
                    intro q9
                    rw [if_neg q9] at cd49
                    exact cd49 rfl
                  have e1 : o1 K i 10 0 = 10 * (i : Int) + p := by rw [← ht2, o1, if_pos ⟨by omega, hy⟩]
                  have e : mOC K = 10 * (i : Int) + p := by rw [← ht, o2, e1, if_neg (by omega)]
                  rw [e]
                  exact ⟨rfl, ⟨_, _, ho, hs, hsl⟩, ⟨_, ha, hk⟩, f4⟩
        exact loop2 10 0 h1 (rget (kP K) i) rfl hpi hO1 (by rw [setP_self]; exact hW1) f1 rfl
  refine v_iconst k_Model_oneChange_0 ?_
  refine v_istore_n k_Model_oneChange_1 ⟨Nat.le_of_ble_eq_true rfl, Nat.le_of_ble_eq_true rfl⟩ ?_
  exact loop (kP K).length 0 h _ _ (by omega) hO hW FrB.rf rfl

set_option maxHeartbeats 4000000 in
set_option maxRecDepth 20000 in
theorem c_Model_isTwoChanges (G : Gx) {h : AH} {m : Nat} {X : MX} {K : CK} (hO : pO h m X) (hW : pW h m K) (w : vK K 12 6) : Ct G Y_Model_isTwoChanges 8 0 0 [aR m] h (fun v h' => v = some (aI (if mTC K = true then 1 else 0)) ∧ pO h' m X ∧ pW h' m K ∧ FrB m h h') := by
  have w13 : vK K 13 6 := ⟨w.1, by have := w.2.1; omega, w.2.2⟩
  have hn12 := w.2.1
  have hpt := fun v => (w13.up (by decide) (by decide)).pt v
  refine Ct.of_V mo_Model_isTwoChanges rfl (Nat.le_of_ble_eq_true rfl) rfl ?_
  have loop : ∀ (k : Nat) (i : Nat) (h1 : AH) (z1 z2 : Option AV), ((kP K).length = i + k) → (pO h1 m X) → (pW h1 m K) → (FrB m h h1) → (w2_ K k i = mTC K) → V G Y_Model_isTwoChanges 8 0 0 2 [some (aR m), some (aI (i : Int)), z1, z2] [] h1 (fun v h' => v = some (aI (if mTC K = true then 1 else 0)) ∧ pO h' m X ∧ pW h' m K ∧ FrB m h h') := by
    intro k
    induction k with
    | zero =>
      intro i h1 z1 z2 hi hO1 hW1 f1 ht
      obtain ⟨fp1, sn1, ho, hs, hsl⟩ := id hO1
      obtain ⟨a1, ha, hk⟩ := id hW1
      have hl := hk.1
      have hpi := hpt (i : Int)
      refine v_iload_n k_Model_isTwoChanges_2 rfl ?_
      refine v_aload_n k_Model_isTwoChanges_3 rfl ?_
      refine v_getf fl_Model_13 ho rfl k_Model_isTwoChanges_4 ?_
      refine v_iconst k_Model_isTwoChanges_7 ?_
      refine v_iald ha (by omega) (by omega) k_Model_isTwoChanges_8 ?_
      rw [hk.n0]
      refine v_icge 88 k_Model_isTwoChanges_9 rfl (by omega) (by omega) (fun cd9 => ?_) (fun cd9 => ?_)
      · refine v_iconst k_Model_isTwoChanges_88 ?_
        refine v_ireturn k_Model_isTwoChanges_89 rfl (by first | rfl | (split <;> rfl)) ?_
        have e : mTC K = false := by rw [← ht]; rfl
        rw [e]
        exact ⟨rfl, hO1, hW1, f1⟩
      · exfalso; omega
    | succ k ih =>
      intro i h1 z1 z2 hi hO1 hW1 f1 ht
      obtain ⟨fp1, sn1, ho, hs, hsl⟩ := id hO1
      obtain ⟨a1, ha, hk⟩ := id hW1
      have hl := hk.1
      have hpi := hpt (i : Int)
      refine v_iload_n k_Model_isTwoChanges_2 rfl ?_
      refine v_aload_n k_Model_isTwoChanges_3 rfl ?_
      refine v_getf fl_Model_13 ho rfl k_Model_isTwoChanges_4 ?_
      refine v_iconst k_Model_isTwoChanges_7 ?_
      refine v_iald ha (by omega) (by omega) k_Model_isTwoChanges_8 ?_
      rw [hk.n0]
      refine v_icge 88 k_Model_isTwoChanges_9 rfl (by omega) (by omega) (fun cd9 => ?_) (fun cd9 => ?_)
      · refine v_iconst k_Model_isTwoChanges_88 ?_
        refine v_ireturn k_Model_isTwoChanges_89 rfl (by first | rfl | (split <;> rfl)) ?_
        exfalso; omega
      · refine v_aload_n k_Model_isTwoChanges_12 rfl ?_
        refine v_getf fl_Model_13 ho rfl k_Model_isTwoChanges_13 ?_
        refine v_bipush k_Model_isTwoChanges_16 (by decide) ?_
        refine v_iload_n k_Model_isTwoChanges_18 rfl ?_
        refine v_iadd k_Model_isTwoChanges_19 ?_
        refine v_iald ha (by omega) (by omega) k_Model_isTwoChanges_20 ?_
        rw [hk.p (x := (i : Int)) (by omega)]
        refine v_istore_n k_Model_isTwoChanges_21 ⟨Nat.le_of_ble_eq_true rfl, Nat.le_of_ble_eq_true rfl⟩ ?_
        refine v_iconst k_Model_isTwoChanges_22 ?_
        refine v_istore_n k_Model_isTwoChanges_23 ⟨Nat.le_of_ble_eq_true rfl, Nat.le_of_ble_eq_true rfl⟩ ?_
        have loop2 : ∀ (k2 : Nat) (p : Nat) (h2 : AH) (q : Int), (p + k2 = 10) → (0 ≤ q ∧ q ≤ 9) → (pO h2 m X) → (pW h2 m (setP K i q)) → (FrB m h h2) → (w1_ K i k2 p = w1_ K i 10 0) → V G Y_Model_isTwoChanges 8 0 0 24 [some (aR m), some (aI (i : Int)), some (aI (rget (kP K) i)), some (aI (p : Int))] [] h2 (fun v h' => v = some (aI (if mTC K = true then 1 else 0)) ∧ pO h' m X ∧ pW h' m K ∧ FrB m h h') := by
          intro k2
          induction k2 with
          | zero =>
            intro p h2 q hp hq hO2 hW2 f2 ht2
            obtain ⟨fp2, sn2, ho, hs, hsl⟩ := id hO2
            obtain ⟨a2, ha, hk⟩ := id hW2
            have hl := hk.1
            refine v_iload_n k_Model_isTwoChanges_24 rfl ?_
            refine v_bipush k_Model_isTwoChanges_25 (by decide) ?_
            refine v_icge 72 k_Model_isTwoChanges_27 rfl (by omega) (by omega) (fun cd27 => ?_) (fun cd27 => ?_)
            · refine v_aload_n k_Model_isTwoChanges_72 rfl ?_
              refine v_getf fl_Model_13 ho rfl k_Model_isTwoChanges_73 ?_
              refine v_bipush k_Model_isTwoChanges_76 (by decide) ?_
              refine v_iload_n k_Model_isTwoChanges_78 rfl ?_
              refine v_iadd k_Model_isTwoChanges_79 ?_
              refine v_iload_n k_Model_isTwoChanges_80 rfl ?_
              refine v_ist ha (by omega) (by omega) k_Model_isTwoChanges_81 (fun h81 e81 f81 => ?_)
              have ha := e81
              have hk := nowR_setP (n := (i : Int)) (x := rget (kP K) (i : Int)) hk ⟨by omega, by show (i : Int) < ((rset (kP K) i q).length : Int); rw [rset_len]; omega⟩ (by show (rset (kP K) i q).length ≤ 13; rw [rset_len]; omega)
              rw [setP_back] at hk
              have ho := f81.at ho (by omega)
              have hs := f81.at hs (by omega)
              have hl := hk.1
              have f2 := f2.tr f81.b2
              refine v_iinc k_Model_isTwoChanges_82 rfl (Nat.le_of_ble_eq_true rfl) ?_
              refine v_goto k_Model_isTwoChanges_85 (tgt := 2) rfl ?_
              refine ih (i + 1) _ _ _ (by omega) ⟨_, _, ho, hs, hsl⟩ ⟨_, ha, hk⟩ f2 ?_
              have e1 : w1_ K i 10 0 = false := by rw [← ht2]; rfl
              rw [← ht, w2_, if_neg (by rw [e1]; decide)]
              rfl
            · exfalso; omega
          | succ k2 ih2 =>
            intro p h2 q hp hq hO2 hW2 f2 ht2
            obtain ⟨fp2, sn2, ho, hs, hsl⟩ := id hO2
            obtain ⟨a2, ha, hk⟩ := id hW2
            have hl := hk.1
            refine v_iload_n k_Model_isTwoChanges_24 rfl ?_
            refine v_bipush k_Model_isTwoChanges_25 (by decide) ?_
            refine v_icge 72 k_Model_isTwoChanges_27 rfl (by first | omega | (have := o2_bd (setP K i p) (kP (setP K i p)).length 0 (by omega) (by show (0 : Int) + ((rset (kP K) i p).length : Int) ≤ 20; rw [rset_len]; omega); exact ⟨by unfold mOC; omega, by unfold mOC; omega⟩)) (by first | omega | (have := o2_bd (setP K i p) (kP (setP K i p)).length 0 (by omega) (by show (0 : Int) + ((rset (kP K) i p).length : Int) ≤ 20; rw [rset_len]; omega); exact ⟨by unfold mOC; omega, by unfold mOC; omega⟩)) (fun cd27 => ?_) (fun cd27 => ?_)
            · exfalso; omega
            · refine v_aload_n k_Model_isTwoChanges_30 rfl ?_
              refine v_getf fl_Model_13 ho rfl k_Model_isTwoChanges_31 ?_
              refine v_bipush k_Model_isTwoChanges_34 (by decide) ?_
              refine v_iload_n k_Model_isTwoChanges_36 rfl ?_
              refine v_iadd k_Model_isTwoChanges_37 ?_
              refine v_iload_n k_Model_isTwoChanges_38 rfl ?_
              refine v_ist ha (by first | omega | (have := o2_bd (setP K i p) (kP (setP K i p)).length 0 (by omega) (by show (0 : Int) + ((rset (kP K) i p).length : Int) ≤ 20; rw [rset_len]; omega); exact ⟨by unfold mOC; omega, by unfold mOC; omega⟩)) (by omega) k_Model_isTwoChanges_39 (fun h39 e39 f39 => ?_)
              have f4 := f2.tr f39.b2
              have ha := e39
              have hk := nowR_setP (n := (i : Int)) (x := (p : Int)) hk ⟨by omega, by show (i : Int) < ((rset (kP K) i q).length : Int); rw [rset_len]; omega⟩ (by show (rset (kP K) i q).length ≤ 13; rw [rset_len]; omega)
              rw [setP_setP] at hk
              have ho := f39.at ho (by omega)
              have hs := f39.at hs (by omega)
              have hl := hk.1
              refine v_iload_n k_Model_isTwoChanges_40 rfl ?_
              refine v_iload_n k_Model_isTwoChanges_41 rfl ?_
              refine v_iceq 66 k_Model_isTwoChanges_42 rfl (by first | omega | (have := o2_bd (setP K i p) (kP (setP K i p)).length 0 (by omega) (by show (0 : Int) + ((rset (kP K) i p).length : Int) ≤ 20; rw [rset_len]; omega); exact ⟨by unfold mOC; omega, by unfold mOC; omega⟩)) (by first | omega | (have := o2_bd (setP K i p) (kP (setP K i p)).length 0 (by omega) (by show (0 : Int) + ((rset (kP K) i p).length : Int) ≤ 20; rw [rset_len]; omega); exact ⟨by unfold mOC; omega, by unfold mOC; omega⟩)) (fun cd42 => ?_) (fun cd42 => ?_)
              · refine v_iinc k_Model_isTwoChanges_66 rfl (Nat.le_of_ble_eq_true rfl) ?_
                refine v_goto k_Model_isTwoChanges_69 (tgt := 24) rfl ?_
                refine ih2 (p + 1) _ p (by omega) (by omega) ⟨_, _, ho, hs, hsl⟩ ⟨_, ha, hk⟩ f4 ?_
                rw [← ht2, w1_, if_neg (by rintro ⟨q1, q2⟩; first | omega | exact q2 (by omega))]
                rfl
              · refine v_aload_n k_Model_isTwoChanges_45 rfl ?_
                refine v_callV mo_Model_oneChange mi_Model_oneChange mv_Model_oneChange lk_Model_163 k_Model_isTwoChanges_46 ho rfl rfl (Nat.le_of_ble_eq_true rfl) rfl (Nat.le_of_ble_eq_true rfl) (c_Model_oneChange G ⟨_, _, ho, hs, hsl⟩ ⟨_, ha, hk⟩ (w.setP (by omega))) (fun v46 h46 q46 => ?_)
                obtain ⟨rfl, hO5, ⟨a5, ha, hk⟩, f5⟩ := q46
                obtain ⟨fp5, sn5, ho, hs, hsl⟩ := id hO5
                have f4 := f4.tr f5
                have hl := hk.1
                refine v_bipush k_Model_isTwoChanges_49 (by decide) ?_
                refine v_iceq 66 k_Model_isTwoChanges_51 rfl (by first | omega | (have := o2_bd (setP K i p) (kP (setP K i p)).length 0 (by omega) (by show (0 : Int) + ((rset (kP K) i p).length : Int) ≤ 20; rw [rset_len]; omega); exact ⟨by unfold mOC; omega, by unfold mOC; omega⟩)) (by first | omega | (have := o2_bd (setP K i p) (kP (setP K i p)).length 0 (by omega) (by show (0 : Int) + ((rset (kP K) i p).length : Int) ≤ 20; rw [rset_len]; omega); exact ⟨by unfold mOC; omega, by unfold mOC; omega⟩)) (fun cd51 => ?_) (fun cd51 => ?_)
                · refine v_iinc k_Model_isTwoChanges_66 rfl (Nat.le_of_ble_eq_true rfl) ?_
                  refine v_goto k_Model_isTwoChanges_69 (tgt := 24) rfl ?_
                  refine ih2 (p + 1) _ p (by omega) (by omega) ⟨_, _, ho, hs, hsl⟩ ⟨_, ha, hk⟩ f4 ?_
                  rw [← ht2, w1_, if_neg (by rintro ⟨q1, q2⟩; first | omega | exact q2 (by omega))]
                  rfl
                · refine v_aload_n k_Model_isTwoChanges_54 rfl ?_
                  refine v_getf fl_Model_13 ho rfl k_Model_isTwoChanges_55 ?_
                  refine v_bipush k_Model_isTwoChanges_58 (by decide) ?_
                  refine v_iload_n k_Model_isTwoChanges_60 rfl ?_
                  refine v_iadd k_Model_isTwoChanges_61 ?_
                  refine v_iload_n k_Model_isTwoChanges_62 rfl ?_
                  refine v_ist ha (by first | omega | (have := o2_bd (setP K i p) (kP (setP K i p)).length 0 (by omega) (by show (0 : Int) + ((rset (kP K) i p).length : Int) ≤ 20; rw [rset_len]; omega); exact ⟨by unfold mOC; omega, by unfold mOC; omega⟩)) (by omega) k_Model_isTwoChanges_63 (fun h63 e63 f63 => ?_)
                  have ha := e63
                  have hk := nowR_setP (n := (i : Int)) (x := rget (kP K) (i : Int)) hk ⟨by omega, by show (i : Int) < ((rset (kP K) i p).length : Int); rw [rset_len]; omega⟩ (by show (rset (kP K) i p).length ≤ 13; rw [rset_len]; omega)
                  rw [setP_back] at hk
                  have ho := f63.at ho (by omega)
                  have hs := f63.at hs (by omega)
                  have hl := hk.1
                  have f4 := f4.tr f63.b2
                  refine v_iconst k_Model_isTwoChanges_64 ?_
                  refine v_ireturn k_Model_isTwoChanges_65 rfl (by first | rfl | (split <;> rfl)) ?_
                  have e1 : w1_ K i 10 0 = true := by rw [← ht2, w1_, if_pos ⟨by omega, by omega⟩]
                  have e : mTC K = true := by rw [← ht, w2_, if_pos e1]
                  rw [e]
                  exact ⟨rfl, ⟨_, _, ho, hs, hsl⟩, ⟨_, ha, hk⟩, f4⟩
        exact loop2 10 0 h1 (rget (kP K) i) rfl hpi hO1 (by rw [setP_self]; exact hW1) f1 rfl
  refine v_iconst k_Model_isTwoChanges_0 ?_
  refine v_istore_n k_Model_isTwoChanges_1 ⟨Nat.le_of_ble_eq_true rfl, Nat.le_of_ble_eq_true rfl⟩ ?_
  exact loop (kP K).length 0 h _ _ (by omega) hO hW FrB.rf rfl
