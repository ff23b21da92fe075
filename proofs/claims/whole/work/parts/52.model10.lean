/-! entries that agree -/
theorem rget_snoc {xs : List Int} {x : Int} : rget (xs ++ [x]) xs.length = x := by
  rw [rget, if_pos (by rw [List.length_append, List.length_singleton]; omega), Int.toNat_natCast, List.getD_eq_getElem?_getD, List.getElem?_append_right (Nat.le_refl _), Nat.sub_self]
  rfl
theorem vK_addV7 {K : CK} {N V : Nat} (w : vK K N V) {k e hh : Int} (hk : 0 ≤ k ∧ k ≤ 5) (he : 0 ≤ e ∧ e ≤ 60) (hhh : 0 ≤ hh ∧ hh ≤ 9) : vK (addV K k e hh) N (V + 1) := by
  obtain ⟨h1, h2, h3, h4, h5, h6, h7, h8, h9, h10, h11, h12, h13, h14⟩ := w
  refine ⟨h1, h2, h3, h4, h5, by show (kK K ++ [k]).length ≤ V + 1; simp; omega, by show (kE K ++ [e]).length = (kK K ++ [k]).length; simp [h7], by show (kH K ++ [hh]).length = (kK K ++ [k]).length; simp [h8], all_snoc (P := fun x => 0 ≤ x ∧ x ≤ 5) _ _ hk h9, all_snoc (P := fun x => 0 ≤ x ∧ x ≤ 60) _ _ he h10, all_snoc (P := fun x => 0 ≤ x ∧ x ≤ 9) _ _ hhh h11, h12, h13, h14⟩
theorem sM_addV {K : CK} (w : vK K 13 6) {k e hh : Int} (hk : 0 ≤ k ∧ k ≤ 5) (he : 0 ≤ e ∧ e ≤ 60) (hhh : 0 ≤ hh ∧ hh ≤ 9) (b : Int) : sM K k e hh b = sO (addV K k e hh) (kK K).length b := by
  have w7 : wK (addV K k e hh) := vK_addV7 w hk he hhh
  rw [sO_sM w7]
  have e1 : rget (kK (addV K k e hh)) (kK K).length = k := rget_snoc
  have e2 : rget (kE (addV K k e hh)) (kK K).length = e := by rw [← w.2.2.2.2.2.2.1]; exact rget_snoc
  have e3 : rget (kH (addV K k e hh)) (kK K).length = hh := by rw [← w.2.2.2.2.2.2.2.1]; exact rget_snoc
  rw [e1, e2, e3]
  rfl
theorem sM_bd {K : CK} (w : vK K 13 6) {k e hh : Int} (hk : 0 ≤ k ∧ k ≤ 5) (he : 0 ≤ e ∧ e ≤ 60) (hhh : 0 ≤ hh ∧ hh ≤ 9) (b : Int) : -2000 ≤ sM K k e hh b ∧ sM K k e hh b ≤ 2000 := by
  have w7 : wK (addV K k e hh) := vK_addV7 w hk he hhh
  rw [sM_addV w hk he hhh]
  have := sO_bd w7 (kK K).length b
  omega
def fA1 (K : CK) (mine b : Int) : Nat → Int → Bool
  | 0, _ => true
  | k + 1, v => if agP (kW K) mine (sO K v b) = true then fA1 K mine b k (v + 1) else false
def fA (K : CK) (kd hh e : Int) : Nat → Int → Bool
  | 0, _ => true
  | k + 1, b => if fA1 K (sM K kd e hh b) b (kK K).length 0 = true then fA K kd hh e k (b + 1) else false
def fAl (K : CK) (kd hh e : Int) : Bool := fA K kd hh e (kR K * rdO K kd).toNat e
def t_entries (S : St) (k hh : Int) : Int × St := if k < 0 ∨ k > 5 then rfS S (-2) else if oS hh 0 9 ≠ 0 then rfS S (oS hh 0 9) else ((orb (fun e => fAl (nK S) k hh e) 31 : Nat), S)
set_option maxHeartbeats 4000000 in
set_option maxRecDepth 20000 in
theorem c_Model_fitsAll (G : Gx) {h : AH} {m : Nat} {X : MX} {a : List Int} {K : CK} (ho : h.2 m = some (aO 8 (mO m X))) (ha : h.2 (m + 2) = some (aA 0 a)) (hk : nowR a K) (w : vK K 13 6) {kd hh e : Int} (hkd : 0 ≤ kd ∧ kd ≤ 5) (hhh : 0 ≤ hh ∧ hh ≤ 9) (he : 0 ≤ e ∧ e ≤ 60) : Ct G Y_Model_fitsAll 5 0 0 [aR m, aI kd, aI hh, aI e] h (isR (some (aI (if fAl K kd hh e = true then 1 else 0))) h) := by
  have hl := hk.1
  obtain ⟨w1, w2, w3, w4, w5, w6, w7, w8, w9, w10, w11, w12, w13, w14⟩ := id w
  have wu := w.up (by decide) (by decide)
  have hbr : 0 ≤ rdO K kd ∧ rdO K kd ≤ 74 := by unfold rdO; split <;> omega
  have hmb := mul_bd (a := kR K) (b := rdO K kd) (A := 4) (B := 74) (by omega) w12.2 hbr.1 hbr.2
  refine Ct.of_V mo_Model_fitsAll rfl (Nat.le_of_ble_eq_true rfl) rfl ?_
  have loop : ∀ (k : Nat) (b : Int) (z1 z2 : Option AV), (e + kR K * rdO K kd = b + k) → (e ≤ b) → (fA K kd hh e k b = fAl K kd hh e) → V G Y_Model_fitsAll 5 0 0 19 [some (aR m), some (aI kd), some (aI hh), some (aI e), some (aI (e + kR K * rdO K kd)), some (aI b), z1, z2] [] h (isR (some (aI (if fAl K kd hh e = true then 1 else 0))) h) := by
    intro k
    induction k with
    | zero =>
      intro b z1 z2 hb hbe ht
      refine v_iload k_Model_fitsAll_19 rfl ?_
      refine v_iload k_Model_fitsAll_21 rfl ?_
      refine v_icge 82 k_Model_fitsAll_23 rfl (by omega) (by omega) (fun cd23 => ?_) (fun cd23 => ?_)
      · refine v_iconst k_Model_fitsAll_82 ?_
        refine v_ireturn k_Model_fitsAll_83 rfl (by first | rfl | (split <;> rfl)) ?_
        have e2 : fAl K kd hh e = true := by rw [← ht]; rfl
        rw [e2]
        exact ⟨rfl, rfl⟩
      · exfalso; omega
    | succ k ih =>
      intro b z1 z2 hb hbe ht
      refine v_iload k_Model_fitsAll_19 rfl ?_
      refine v_iload k_Model_fitsAll_21 rfl ?_
      refine v_icge 82 k_Model_fitsAll_23 rfl (by omega) (by omega) (fun cd23 => ?_) (fun cd23 => ?_)
      · exfalso; omega
      · refine v_aload_n k_Model_fitsAll_26 rfl ?_
        refine v_iload_n k_Model_fitsAll_27 rfl ?_
        refine v_iload_n k_Model_fitsAll_28 rfl ?_
        refine v_iload_n k_Model_fitsAll_29 rfl ?_
        refine v_iload k_Model_fitsAll_30 rfl ?_
        refine v_callVr mo_Model_soundOf mi_Model_soundOf mv_Model_soundOf lk_Model_107 k_Model_fitsAll_32 ho rfl rfl (Nat.le_of_ble_eq_true rfl) rfl (Nat.le_of_ble_eq_true rfl) (c_Model_soundOf G ho ha hk w hkd he (hh := hh) (b := b) (by omega)) ?_
        refine v_istore k_Model_fitsAll_35 ⟨Nat.le_of_ble_eq_true rfl, Nat.le_of_ble_eq_true rfl⟩ ?_
        refine v_iconst k_Model_fitsAll_37 ?_
        refine v_istore k_Model_fitsAll_38 ⟨Nat.le_of_ble_eq_true rfl, Nat.le_of_ble_eq_true rfl⟩ ?_
        have loop2 : ∀ (k2 : Nat) (v : Nat), ((kK K).length = v + k2) → (fA1 K (sM K kd e hh b) b k2 v = fA1 K (sM K kd e hh b) b (kK K).length 0) → V G Y_Model_fitsAll 5 0 0 40 [some (aR m), some (aI kd), some (aI hh), some (aI e), some (aI (e + kR K * rdO K kd)), some (aI b), some (aI (sM K kd e hh b)), some (aI (v : Int))] [] h (isR (some (aI (if fAl K kd hh e = true then 1 else 0))) h) := by
          intro k2
          induction k2 with
          | zero =>
            intro v hv ht2
            refine v_iload k_Model_fitsAll_40 rfl ?_
            refine v_aload_n k_Model_fitsAll_42 rfl ?_
            refine v_getf fl_Model_13 ho rfl k_Model_fitsAll_43 ?_
            refine v_iconst k_Model_fitsAll_46 ?_
            refine v_iald ha (by omega) (by omega) k_Model_fitsAll_47 ?_
            rw [hk.n1]
            refine v_icge 76 k_Model_fitsAll_48 rfl (by omega) (by omega) (fun cd48 => ?_) (fun cd48 => ?_)
            · have e1 : fA1 K (sM K kd e hh b) b (kK K).length 0 = true := by rw [← ht2]; rfl
              refine v_iinc k_Model_fitsAll_76 rfl (Nat.le_of_ble_eq_true rfl) ?_
              refine v_goto k_Model_fitsAll_79 (tgt := 19) rfl ?_
              refine ih (b + 1) _ _ (by omega) (by omega) ?_
              rw [← ht, fA, if_pos e1]
            · exfalso; omega
          | succ k2 ih2 =>
            intro v hv ht2
            refine v_iload k_Model_fitsAll_40 rfl ?_
            refine v_aload_n k_Model_fitsAll_42 rfl ?_
            refine v_getf fl_Model_13 ho rfl k_Model_fitsAll_43 ?_
            refine v_iconst k_Model_fitsAll_46 ?_
            refine v_iald ha (by omega) (by omega) k_Model_fitsAll_47 ?_
            rw [hk.n1]
            refine v_icge 76 k_Model_fitsAll_48 rfl (by omega) (by omega) (fun cd48 => ?_) (fun cd48 => ?_)
            · exfalso; omega
            · refine v_aload_n k_Model_fitsAll_51 rfl ?_
              refine v_iload k_Model_fitsAll_52 rfl ?_
              refine v_aload_n k_Model_fitsAll_54 rfl ?_
              refine v_iload k_Model_fitsAll_55 rfl ?_
              refine v_iload k_Model_fitsAll_57 rfl ?_
              refine v_callVr mo_Model_soundAt mi_Model_soundAt mv_Model_soundAt lk_Model_125 k_Model_fitsAll_59 ho rfl rfl (Nat.le_of_ble_eq_true rfl) rfl (Nat.le_of_ble_eq_true rfl) (c_Model_soundAt G ho ha hk w (v := (v : Int)) (b := b) (by omega) (by omega)) ?_
              refine v_callVr mo_Model_agree mi_Model_agree mv_Model_agree lk_Model_128 k_Model_fitsAll_62 ho rfl rfl (Nat.le_of_ble_eq_true rfl) rfl (Nat.le_of_ble_eq_true rfl) (c_Model_agree G ho ha hk w (sM_bd w hkd he hhh b) (by have := sO_bd wu (v : Int) b; omega)) ?_
              refine v_ifne 70 k_Model_fitsAll_65 rfl (by split <;> decide) (fun cd65 => ?_) (fun cd65 => ?_)
              · have hag : agP (kW K) (sM K kd e hh b) (sO K v b) = true := by
                  apply Classical.byContradiction
                  intro q
                  rw [if_neg q] at cd65
                  exact cd65 rfl
                refine v_iinc k_Model_fitsAll_70 rfl (Nat.le_of_ble_eq_true rfl) ?_
                refine v_goto k_Model_fitsAll_73 (tgt := 40) rfl ?_
                refine ih2 (v + 1) (by omega) ?_
                rw [← ht2, fA1, if_pos hag]
                rfl
              · refine v_iconst k_Model_fitsAll_68 ?_
                refine v_ireturn k_Model_fitsAll_69 rfl (by first | rfl | (split <;> rfl)) ?_
                have hag : ¬ agP (kW K) (sM K kd e hh b) (sO K v b) = true := by
                  intro q
                  rw [if_pos q] at cd65
                  exact absurd cd65 (by decide)
                have e1 : fA1 K (sM K kd e hh b) b (kK K).length 0 = false := by rw [← ht2, fA1, if_neg hag]
                have e2 : fAl K kd hh e = false := by rw [← ht, fA, if_neg (by rw [e1]; decide)]
                rw [e2]
                exact ⟨rfl, rfl⟩
        exact loop2 (kK K).length 0 (by omega) rfl
  refine v_iload_n k_Model_fitsAll_0 rfl ?_
  refine v_aload_n k_Model_fitsAll_1 rfl ?_
  refine v_getf fl_Model_13 ho rfl k_Model_fitsAll_2 ?_
  refine v_iconst k_Model_fitsAll_5 ?_
  refine v_iald ha (by omega) (by omega) k_Model_fitsAll_6 ?_
  rw [hk.n2]
  refine v_aload_n k_Model_fitsAll_7 rfl ?_
  refine v_iload_n k_Model_fitsAll_8 rfl ?_
  refine v_callVr mo_Model_roundOf mi_Model_roundOf mv_Model_roundOf lk_Model_100 k_Model_fitsAll_9 ho rfl rfl (Nat.le_of_ble_eq_true rfl) rfl (Nat.le_of_ble_eq_true rfl) (c_Model_roundOf G ho ha hk w hkd) ?_
  refine v_imul k_Model_fitsAll_12 ?_
  refine v_iadd k_Model_fitsAll_13 ?_
  refine v_istore k_Model_fitsAll_14 ⟨Nat.le_of_ble_eq_true rfl, Nat.le_of_ble_eq_true rfl⟩ ?_
  refine v_iload_n k_Model_fitsAll_16 rfl ?_
  refine v_istore k_Model_fitsAll_17 ⟨Nat.le_of_ble_eq_true rfl, Nat.le_of_ble_eq_true rfl⟩ ?_
  exact loop (kR K * rdO K kd).toNat e _ _ (by omega) (by omega) rfl

set_option maxHeartbeats 4000000 in
set_option maxRecDepth 20000 in
theorem c_Model_entries (G : Gx) {h : AH} {m : Nat} {S : St} (hp : pMS h m S) (w : wSt S) {n x : Int} (hn : InR n) (hx : InR x) : Ct G Y_Model_entries 6 0 0 [aR m, aI n, aI x] h (fun v h' => v = some (aI (t_entries S n x).1) ∧ pMS h' m (t_entries S n x).2 ∧ Fr m (m + 11) h h') := by
  obtain ⟨X, a, ⟨fp, sn, ho, hs, hsl⟩, rf, th, be, tl, fd, rw_, ⟨c1, ha, c3, c4, c5, c6, c7, c8, c10⟩, ⟨x1, x2, x3⟩, ⟨l1, l3, l4, l5, l8, l10⟩, hk, hth, htl, hrw, hrf⟩ := id hp
  obtain ⟨w1, w2, w3, w4, w5, w6, w7, w8⟩ := id w
  have wv : vK (nK S) 13 6 := ⟨w1.1, by have := w1.2.1; omega, w1.2.2⟩
  have wu := wv.up (by decide) (by decide)
  have hl := hk.1
  have hn12 := w1.2.1
  have hv6 := w1.2.2.2.2.2.1
  have ho_ := oS_spec x 0 9
  refine Ct.of_V mo_Model_entries rfl (Nat.le_of_ble_eq_true rfl) rfl ?_
  refine v_iload_n k_Model_entries_0 rfl ?_
  refine v_iflt 9 k_Model_entries_1 rfl (by omega) (fun cd1 => ?_) (fun cd1 => ?_)
  · refine v_aload_n k_Model_entries_9 rfl ?_
    refine v_bipush k_Model_entries_10 (by decide) ?_
    refine v_callV mo_Model_no mi_Model_no mv_Model_no lk_Model_49 k_Model_entries_12 ho rfl rfl (Nat.le_of_ble_eq_true rfl) rfl (Nat.le_of_ble_eq_true rfl) (c_Model_no G hp w (by omega)) (fun v12 h12 q12 => ?_)
    obtain ⟨rfl, p9, f9⟩ := q12
    refine v_ireturn k_Model_entries_15 rfl rfl ?_
    first
      | (exfalso; omega)
      | exact fin3 (by unfold t_entries; (repeat (first | rw [if_pos (by omega)] | rw [if_neg (by omega)])); (try rfl)) p9 (f9.wd (by omega) (by omega))
      | exact fin3 (by unfold t_entries; (repeat (first | rw [if_pos (by omega)] | rw [if_neg (by omega)])); (try rfl)) hp Fr.rf
  · refine v_iload_n k_Model_entries_4 rfl ?_
    refine v_iconst k_Model_entries_5 ?_
    refine v_icle 16 k_Model_entries_6 rfl (by omega) (by omega) (fun cd6 => ?_) (fun cd6 => ?_)
    · refine v_iload_n k_Model_entries_16 rfl ?_
      refine v_iconst k_Model_entries_17 ?_
      refine v_bipush k_Model_entries_18 (by decide) ?_
      refine v_callSr mo_Model_isWrong ms_Model_isWrong lk_Model_148 k_Model_entries_20 rfl (Nat.le_of_ble_eq_true rfl) rfl (Nat.le_of_ble_eq_true rfl) (c_Model_isWrong G (v := x) (l := 0) (m := 9) (by omega) (by omega) (by omega)) ?_
      refine v_ifeq 38 k_Model_entries_23 rfl (by omega) (fun cd23 => ?_) (fun cd23 => ?_)
      · refine v_iconst k_Model_entries_38 ?_
        refine v_istore_n k_Model_entries_39 ⟨Nat.le_of_ble_eq_true rfl, Nat.le_of_ble_eq_true rfl⟩ ?_
        refine v_iconst k_Model_entries_40 ?_
        refine v_istore k_Model_entries_41 ⟨Nat.le_of_ble_eq_true rfl, Nat.le_of_ble_eq_true rfl⟩ ?_
        have hn5 : 0 ≤ n ∧ n ≤ 5 := by omega
        have hx9 : 0 ≤ x ∧ x ≤ 9 := by omega
        have hx0 : oS x 0 9 = 0 := by omega
        have loop : ∀ (k : Nat) (i : Nat), (31 < i + k) → (i ≤ 31) → V G Y_Model_entries 6 0 0 43 [some (aR m), some (aI n), some (aI x), some (aI (orb (fun e => fAl (nK S) n x e) i : Nat)), some (aI (i : Int))] [] h (fun v h' => v = some (aI (t_entries S n x).1) ∧ pMS h' m (t_entries S n x).2 ∧ Fr m (m + 11) h h') := by
          intro k
          induction k with
          | zero => intro i hi hin; exfalso; omega
          | succ k ih =>
            intro i hi hin
            refine v_iload k_Model_entries_43 rfl ?_
            refine v_bipush k_Model_entries_45 (by decide) ?_
            refine v_icgt 78 k_Model_entries_47 rfl (by omega) (by omega) (fun cd47 => ?_) (fun cd47 => ?_)
            · refine v_iload_n k_Model_entries_78 rfl ?_
              refine v_ireturn k_Model_entries_79 rfl rfl ?_
              have e : i = 31 := by omega
              subst e
              exact fin3 (by unfold t_entries; rw [if_neg (by omega), if_neg (by omega)]) hp Fr.rf
            · refine v_iload_n k_Model_entries_50 rfl ?_
              refine v_aload_n k_Model_entries_51 rfl ?_
              refine v_iload_n k_Model_entries_52 rfl ?_
              refine v_iload_n k_Model_entries_53 rfl ?_
              refine v_iload k_Model_entries_54 rfl ?_
              refine v_callVr mo_Model_fitsAll mi_Model_fitsAll mv_Model_fitsAll lk_Model_155 k_Model_entries_56 ho rfl rfl (Nat.le_of_ble_eq_true rfl) rfl (Nat.le_of_ble_eq_true rfl) (c_Model_fitsAll G ho ha hk wv hn5 hx9 (e := (i : Int)) (by omega)) ?_
              refine v_ifeq 69 k_Model_entries_59 rfl (by split <;> decide) (fun cd59 => ?_) (fun cd59 => ?_)
              · refine v_iconst k_Model_entries_69 ?_
                refine v_iorN (y := 0) k_Model_entries_70 ?_
                rw [Nat.or_zero]
                refine v_istore_n k_Model_entries_71 ⟨Nat.le_of_ble_eq_true rfl, Nat.le_of_ble_eq_true rfl⟩ ?_
                refine v_iinc k_Model_entries_72 rfl (Nat.le_of_ble_eq_true rfl) ?_
                refine v_goto k_Model_entries_75 (tgt := 43) rfl ?_
                have e : orb (fun e => fAl (nK S) n x e) (i + 1) = if fAl (nK S) n x (i : Int) = true then orb (fun e => fAl (nK S) n x e) i ||| 2 ^ i else orb (fun e => fAl (nK S) n x e) i := rfl
                have st := ih (i + 1) (by omega) (by omega)
                rw [e] at st
                rw [if_neg (by intro q; rw [if_pos q] at cd59; exact absurd cd59 (by decide))] at st
                exact st
              · refine v_iconst k_Model_entries_62 ?_
                refine v_iload k_Model_entries_63 rfl ?_
                refine v_bit k_Model_entries_65 (by omega) ?_
                rw [Int.toNat_natCast]
                refine v_goto k_Model_entries_66 (tgt := 70) rfl ?_
                refine v_iorN k_Model_entries_70 ?_
                refine v_istore_n k_Model_entries_71 ⟨Nat.le_of_ble_eq_true rfl, Nat.le_of_ble_eq_true rfl⟩ ?_
                refine v_iinc k_Model_entries_72 rfl (Nat.le_of_ble_eq_true rfl) ?_
                refine v_goto k_Model_entries_75 (tgt := 43) rfl ?_
                have e : orb (fun e => fAl (nK S) n x e) (i + 1) = if fAl (nK S) n x (i : Int) = true then orb (fun e => fAl (nK S) n x e) i ||| 2 ^ i else orb (fun e => fAl (nK S) n x e) i := rfl
                have st := ih (i + 1) (by omega) (by omega)
                rw [e] at st
                have hy : fAl (nK S) n x (i : Int) = true := by
                  apply Classical.byContradiction
                  intro q
                  rw [if_neg q] at cd59
                  exact cd59 rfl
                rw [if_pos hy] at st
                exact st
        exact loop 32 0 (by omega) (by omega)
      · refine v_aload_n k_Model_entries_26 rfl ?_
        refine v_iload_n k_Model_entries_27 rfl ?_
        refine v_iconst k_Model_entries_28 ?_
        refine v_bipush k_Model_entries_29 (by decide) ?_
        refine v_callSr mo_Model_isWrong ms_Model_isWrong lk_Model_148 k_Model_entries_31 rfl (Nat.le_of_ble_eq_true rfl) rfl (Nat.le_of_ble_eq_true rfl) (c_Model_isWrong G (v := x) (l := 0) (m := 9) (by omega) (by omega) (by omega)) ?_
        refine v_callV mo_Model_no mi_Model_no mv_Model_no lk_Model_49 k_Model_entries_34 ho rfl rfl (Nat.le_of_ble_eq_true rfl) rfl (Nat.le_of_ble_eq_true rfl) (c_Model_no G hp w (by omega)) (fun v34 h34 q34 => ?_)
        obtain ⟨rfl, p9, f9⟩ := q34
        refine v_ireturn k_Model_entries_37 rfl rfl ?_
        first
          | (exfalso; omega)
          | exact fin3 (by unfold t_entries; (repeat (first | rw [if_pos (by omega)] | rw [if_neg (by omega)])); (try rfl)) p9 (f9.wd (by omega) (by omega))
          | exact fin3 (by unfold t_entries; (repeat (first | rw [if_pos (by omega)] | rw [if_neg (by omega)])); (try rfl)) hp Fr.rf
    · refine v_aload_n k_Model_entries_9 rfl ?_
      refine v_bipush k_Model_entries_10 (by decide) ?_
      refine v_callV mo_Model_no mi_Model_no mv_Model_no lk_Model_49 k_Model_entries_12 ho rfl rfl (Nat.le_of_ble_eq_true rfl) rfl (Nat.le_of_ble_eq_true rfl) (c_Model_no G hp w (by omega)) (fun v12 h12 q12 => ?_)
      obtain ⟨rfl, p9, f9⟩ := q12
      refine v_ireturn k_Model_entries_15 rfl rfl ?_
      first
        | (exfalso; omega)
        | exact fin3 (by unfold t_entries; (repeat (first | rw [if_pos (by omega)] | rw [if_neg (by omega)])); (try rfl)) p9 (f9.wd (by omega) (by omega))
        | exact fin3 (by unfold t_entries; (repeat (first | rw [if_pos (by omega)] | rw [if_neg (by omega)])); (try rfl)) hp Fr.rf
