def tst (K : CK) (b : Int) : Nat → Int
  | 0 => 0
  | n + 1 => if rget (kE K) n ≤ b then max (tst K b n) (min (q_stl K n) (rget (kE K) n + q_rB K n * ((b - rget (kE K) n) / q_rB K n + 1))) else tst K b n
theorem tst_bd {K : CK} (w : wK K) (b : Int) : ∀ n, 0 ≤ tst K b n ∧ tst K b n ≤ 356
  | 0 => by show (0 : Int) ≤ 0 ∧ (0 : Int) ≤ 356; decide
  | n + 1 => by
    have h1 := tst_bd w b n
    have h2 := w.stl (n : Int)
    unfold tst
    split
    · omega
    · exact h1
def t_stop (S : St) (b : Int) : Int × St := if oS b 0 400 ≠ 0 then rfS S (oS b 0 400) else (if 0 < (kP (nK S)).length then tst (nK S) b (kK (nK S)).length else 0, S)
theorem q_rB_pos {K : CK} {N V : Nat} (w : vK K N V) (h : 0 < (kP K).length) (v : Int) : 0 < q_rB K v := by
  have := (bt_pos w).mpr h
  unfold q_rB
  split <;> omega
def t_silent (S : St) : Int × St := ((orb (fun v => decide (mS (nK S) v (q_endK (nK S)).toNat = 0)) (kK (nK S)).length : Nat), S)
set_option maxHeartbeats 4000000 in
set_option maxRecDepth 20000 in
theorem c_Model_who (G : Gx) {h : AH} {m : Nat} {S : St} (hp : pMS h m S) (w : wSt S) {x : Int} (hx : InR x) : Ct G Y_Model_who 6 0 0 [aR m, aI x] h (fun v h' => v = some (aI (s_who S x).1) ∧ pMS h' m (s_who S x).2 ∧ Fr m (m + 11) h h') := by
  obtain ⟨X, a, ⟨fp, sn, ho, hs, hsl⟩, rf, th, be, tl, fd, rw_, ⟨c1, ha, c3, c4, c5, c6, c7, c8, c10⟩, ⟨x1, x2, x3⟩, ⟨l1, l3, l4, l5, l8, l10⟩, hk, hth, htl, hrw, hrf⟩ := id hp
  obtain ⟨w1, w2, w3, w4, w5, w6, w7, w8⟩ := id w
  have wv : vK (nK S) 13 6 := ⟨w1.1, by have := w1.2.1; omega, w1.2.2⟩
  have wu := wv.up (by decide) (by decide)
  have hl := hk.1
  have hn12 := w1.2.1
  have hv6 := w1.2.2.2.2.2.1
  have ho_ := oS_spec x 0 400
  have hfn : ∀ v, InR (fnH (nK S) v x (nH S) 0) := fun v => fnH_in (nK S) v x (nH S) 0 (by omega)
  refine Ct.of_V mo_Model_who rfl (Nat.le_of_ble_eq_true rfl) rfl ?_
  refine v_iload_n k_Model_who_0 rfl ?_
  refine v_iconst k_Model_who_1 ?_
  refine v_sipush k_Model_who_2 (by decide) ?_
  refine v_callSr mo_Model_isWrong ms_Model_isWrong lk_Model_148 k_Model_who_5 rfl (Nat.le_of_ble_eq_true rfl) rfl (Nat.le_of_ble_eq_true rfl) (c_Model_isWrong G (v := x) (l := 0) (m := 400) (by omega) (by omega) (by omega)) ?_
  refine v_ifeq 24 k_Model_who_8 rfl (by omega) (fun cd8 => ?_) (fun cd8 => ?_)
  · refine v_iconst k_Model_who_24 ?_
    refine v_istore_n k_Model_who_25 ⟨Nat.le_of_ble_eq_true rfl, Nat.le_of_ble_eq_true rfl⟩ ?_
    refine v_iconst k_Model_who_26 ?_
    refine v_istore_n k_Model_who_27 ⟨Nat.le_of_ble_eq_true rfl, Nat.le_of_ble_eq_true rfl⟩ ?_
    have hx0 : oS x 0 400 = 0 := by omega
    have loop : ∀ (k : Nat) (i : Nat), ((kK (nK S)).length < i + k) → (i ≤ (kK (nK S)).length) → V G Y_Model_who 6 0 0 28 [some (aR m), some (aI x), some (aI (orb (fun v => decide (fnH (nK S) v x (nH S) 0 = -9)) i : Nat)), some (aI (i : Int))] [] h (fun v h' => v = some (aI (s_who S x).1) ∧ pMS h' m (s_who S x).2 ∧ Fr m (m + 11) h h') := by
      intro k
      induction k with
      | zero => intro i hi hin; exfalso; omega
      | succ k ih =>
        intro i hi hin
        refine v_iload_n k_Model_who_28 rfl ?_
        refine v_aload_n k_Model_who_29 rfl ?_
        refine v_getf fl_Model_13 ho rfl k_Model_who_30 ?_
        refine v_iconst k_Model_who_33 ?_
        refine v_iald ha (by first | omega | exact hfn _) (by omega) k_Model_who_34 ?_
        rw [hk.n1]
        refine v_icge 69 k_Model_who_35 rfl (by first | omega | exact hfn _) (by first | omega | exact hfn _) (fun cd35 => ?_) (fun cd35 => ?_)
        · refine v_iload_n k_Model_who_69 rfl ?_
          refine v_ireturn k_Model_who_70 rfl rfl ?_
          have e : i = (kK (nK S)).length := by omega
          subst e
          exact fin3 (by unfold s_who; rw [if_neg (by omega)]) hp Fr.rf
        · refine v_iload_n k_Model_who_38 rfl ?_
          refine v_aload_n k_Model_who_39 rfl ?_
          refine v_iload_n k_Model_who_40 rfl ?_
          refine v_iload_n k_Model_who_41 rfl ?_
          refine v_aload_n k_Model_who_42 rfl ?_
          refine v_getf fl_Model_178 ho rfl k_Model_who_43 ?_
          rw [show (xFp X fp).2.2.2.2.2.2 = ((nH S).length : Int) from x3]
          refine v_callVr mo_Model_unlike mi_Model_unlike mv_Model_unlike lk_Model_181 k_Model_who_46 ho rfl rfl (Nat.le_of_ble_eq_true rfl) rfl (Nat.le_of_ble_eq_true rfl) (c_Model_unlike G ho ha c10 l10 hk wv hrw w4 (v := (i : Int)) (b := x) (by omega) (by omega)) ?_
          refine v_bipush k_Model_who_49 (by decide) ?_
          refine v_icne 60 k_Model_who_51 rfl (by first | omega | exact hfn _) (by first | omega | exact hfn _) (fun cd51 => ?_) (fun cd51 => ?_)
          · refine v_iconst k_Model_who_60 ?_
            refine v_iorN (y := 0) k_Model_who_61 ?_
            rw [Nat.or_zero]
            refine v_istore_n k_Model_who_62 ⟨Nat.le_of_ble_eq_true rfl, Nat.le_of_ble_eq_true rfl⟩ ?_
            refine v_iinc k_Model_who_63 rfl (Nat.le_of_ble_eq_true rfl) ?_
            refine v_goto k_Model_who_66 (tgt := 28) rfl ?_
            have e : orb (fun v => decide (fnH (nK S) v x (nH S) 0 = -9)) (i + 1) = if decide (fnH (nK S) (i : Int) x (nH S) 0 = -9) = true then orb (fun v => decide (fnH (nK S) v x (nH S) 0 = -9)) i ||| 2 ^ i else orb (fun v => decide (fnH (nK S) v x (nH S) 0 = -9)) i := rfl
            have st := ih (i + 1) (by omega) (by omega)
            rw [e] at st
            rw [if_neg (fun q => by have := of_decide_eq_true q; omega)] at st
            exact st
          · refine v_iconst k_Model_who_54 ?_
            refine v_iload_n k_Model_who_55 rfl ?_
            refine v_bit k_Model_who_56 (by omega) ?_
            rw [Int.toNat_natCast]
            refine v_goto k_Model_who_57 (tgt := 61) rfl ?_
            refine v_iorN k_Model_who_61 ?_
            refine v_istore_n k_Model_who_62 ⟨Nat.le_of_ble_eq_true rfl, Nat.le_of_ble_eq_true rfl⟩ ?_
            refine v_iinc k_Model_who_63 rfl (Nat.le_of_ble_eq_true rfl) ?_
            refine v_goto k_Model_who_66 (tgt := 28) rfl ?_
            have e : orb (fun v => decide (fnH (nK S) v x (nH S) 0 = -9)) (i + 1) = if decide (fnH (nK S) (i : Int) x (nH S) 0 = -9) = true then orb (fun v => decide (fnH (nK S) v x (nH S) 0 = -9)) i ||| 2 ^ i else orb (fun v => decide (fnH (nK S) v x (nH S) 0 = -9)) i := rfl
            have st := ih (i + 1) (by omega) (by omega)
            rw [e] at st
            rw [if_pos (decide_eq_true (by omega))] at st
            exact st
    exact loop ((kK (nK S)).length + 1) 0 (by omega) (by omega)
  · refine v_aload_n k_Model_who_11 rfl ?_
    refine v_iload_n k_Model_who_12 rfl ?_
    refine v_iconst k_Model_who_13 ?_
    refine v_sipush k_Model_who_14 (by decide) ?_
    refine v_callSr mo_Model_isWrong ms_Model_isWrong lk_Model_148 k_Model_who_17 rfl (Nat.le_of_ble_eq_true rfl) rfl (Nat.le_of_ble_eq_true rfl) (c_Model_isWrong G (v := x) (l := 0) (m := 400) (by omega) (by omega) (by omega)) ?_
    refine v_callV mo_Model_no mi_Model_no mv_Model_no lk_Model_49 k_Model_who_20 ho rfl rfl (Nat.le_of_ble_eq_true rfl) rfl (Nat.le_of_ble_eq_true rfl) (c_Model_no G hp w (by omega)) (fun v20 h20 q20 => ?_)
    obtain ⟨rfl, p9, f9⟩ := q20
    refine v_ireturn k_Model_who_23 rfl rfl ?_
    first
      | (exfalso; omega)
      | exact fin3 (by unfold s_who; (repeat (first | rw [if_pos (by omega)] | rw [if_neg (by omega)])); (try rfl)) p9 (f9.wd (by omega) (by omega))
      | exact fin3 (by unfold s_who; (repeat (first | rw [if_pos (by omega)] | rw [if_neg (by omega)])); (try rfl)) hp Fr.rf

set_option maxHeartbeats 4000000 in
set_option maxRecDepth 20000 in
theorem c_Model_judge (G : Gx) {h : AH} {m : Nat} {S : St} (hp : pMS h m S) (w : wSt S) {n x : Int} (hn : InR n) (hx : InR x) : Ct G Y_Model_judge 6 0 0 [aR m, aI n, aI x] h (fun v h' => v = some (aI (s_judge S n x).1) ∧ pMS h' m (s_judge S n x).2 ∧ Fr m (m + 11) h h') := by
  obtain ⟨X, a, ⟨fp, sn, ho, hs, hsl⟩, rf, th, be, tl, fd, rw_, ⟨c1, ha, c3, c4, c5, c6, c7, c8, c10⟩, ⟨x1, x2, x3⟩, ⟨l1, l3, l4, l5, l8, l10⟩, hk, hth, htl, hrw, hrf⟩ := id hp
  obtain ⟨w1, w2, w3, w4, w5, w6, w7, w8⟩ := id w
  have wv : vK (nK S) 13 6 := ⟨w1.1, by have := w1.2.1; omega, w1.2.2⟩
  have wu := wv.up (by decide) (by decide)
  have hl := hk.1
  have hn12 := w1.2.1
  have hv6 := w1.2.2.2.2.2.1
  have ho_ := oS_spec x 0 400
  refine Ct.of_V mo_Model_judge rfl (Nat.le_of_ble_eq_true rfl) rfl ?_
  by_cases hc : 0 ≤ n ∧ n < (kK (nK S)).length
  · skip
    refine v_aload_n k_Model_judge_0 rfl ?_
    refine v_iload_n k_Model_judge_1 rfl ?_
    refine v_callVr mo_Model_isNoVoice mi_Model_isNoVoice mv_Model_isNoVoice lk_Model_141 k_Model_judge_2 ho rfl rfl (Nat.le_of_ble_eq_true rfl) rfl (Nat.le_of_ble_eq_true rfl) ((by have q := c_Model_isNoVoice G ho ha hk wv hn; rw [if_pos hc] at q; exact q)) ?_
    refine v_ifeq 14 k_Model_judge_5 rfl (by omega) (fun cd5 => ?_) (fun cd5 => ?_)
    · refine v_iload_n k_Model_judge_14 rfl ?_
      refine v_iconst k_Model_judge_15 ?_
      refine v_sipush k_Model_judge_16 (by decide) ?_
      refine v_callSr mo_Model_isWrong ms_Model_isWrong lk_Model_148 k_Model_judge_19 rfl (Nat.le_of_ble_eq_true rfl) rfl (Nat.le_of_ble_eq_true rfl) (c_Model_isWrong G (v := x) (l := 0) (m := 400) (by omega) (by omega) (by omega)) ?_
      refine v_ifeq 38 k_Model_judge_22 rfl (by omega) (fun cd22 => ?_) (fun cd22 => ?_)
      · refine v_aload_n k_Model_judge_38 rfl ?_
        refine v_getf fl_Model_178 ho rfl k_Model_judge_39 ?_
        rw [show (xFp X fp).2.2.2.2.2.2 = ((nH S).length : Int) from x3]
        refine v_istore_n k_Model_judge_42 ⟨Nat.le_of_ble_eq_true rfl, Nat.le_of_ble_eq_true rfl⟩ ?_
        refine v_aload_n k_Model_judge_43 rfl ?_
        refine v_iconst k_Model_judge_44 ?_
        refine v_put fl_Model_178 ho (Nat.le_of_ble_eq_true rfl) (fun r hr => by cases hr; exact Or.inl rfl) rfl rfl k_Model_judge_45 (fun h45 e45 f45 => ?_)
        have f9 := f45
        have e9 : h45.2 m = some (aO 8 (mO m (xFp (xRs X 0) fp))) := e45
        have ho := e9
        refine v_aload_n k_Model_judge_48 rfl ?_
        refine v_iload_n k_Model_judge_49 rfl ?_
        refine v_iload_n k_Model_judge_50 rfl ?_
        refine v_iload_n k_Model_judge_51 rfl ?_
        refine v_callVr mo_Model_unlike mi_Model_unlike mv_Model_unlike lk_Model_181 k_Model_judge_52 ho rfl rfl (Nat.le_of_ble_eq_true rfl) rfl (Nat.le_of_ble_eq_true rfl) (c_Model_unlike G ho (f9.at ha (by omega)) (f9.at c10 (by omega)) l10 hk wv hrw w4 (v := n) (b := x) (by omega) (by omega)) ?_
        refine v_ireturn k_Model_judge_55 rfl rfl ?_
        first
          | (exfalso; omega)
          | exact fin3 (by unfold s_judge; (repeat (first | rw [if_pos (by omega)] | rw [if_neg (by omega)])); (try rfl)) p9 (f9.wd (by omega) (by omega))
          | exact fin3 (S' := wH_ S []) (by unfold s_judge; (repeat (first | rw [if_pos (by omega)] | rw [if_neg (by omega)])); (try rfl)) ⟨xRs X 0, a, ⟨fp, sn, ho, f9.at hs (by omega), hsl⟩, rf, th, be, tl, fd, rw_, ⟨f9.at c1 (by omega), f9.at ha (by omega), f9.at c3 (by omega), f9.at c4 (by omega), f9.at c5 (by omega), f9.at c6 (by omega), f9.at c7 (by omega), f9.at c8 (by omega), f9.at c10 (by omega)⟩, ⟨x1, x2, rfl⟩, ⟨l1, l3, l4, l5, l8, l10⟩, hk, hth, htl, rfl, hrf⟩ (f9.wd (by omega) (by omega))
      · refine v_aload_n k_Model_judge_25 rfl ?_
        refine v_iload_n k_Model_judge_26 rfl ?_
        refine v_iconst k_Model_judge_27 ?_
        refine v_sipush k_Model_judge_28 (by decide) ?_
        refine v_callSr mo_Model_isWrong ms_Model_isWrong lk_Model_148 k_Model_judge_31 rfl (Nat.le_of_ble_eq_true rfl) rfl (Nat.le_of_ble_eq_true rfl) (c_Model_isWrong G (v := x) (l := 0) (m := 400) (by omega) (by omega) (by omega)) ?_
        refine v_callV mo_Model_no mi_Model_no mv_Model_no lk_Model_49 k_Model_judge_34 ho rfl rfl (Nat.le_of_ble_eq_true rfl) rfl (Nat.le_of_ble_eq_true rfl) (c_Model_no G hp w (by omega)) (fun v34 h34 q34 => ?_)
        obtain ⟨rfl, p9, f9⟩ := q34
        refine v_ireturn k_Model_judge_37 rfl rfl ?_
        first
          | (exfalso; omega)
          | exact fin3 (by unfold s_judge; (repeat (first | rw [if_pos (by omega)] | rw [if_neg (by omega)])); (try rfl)) p9 (f9.wd (by omega) (by omega))
          | exact fin3 (S' := wH_ S []) (by unfold s_judge; (repeat (first | rw [if_pos (by omega)] | rw [if_neg (by omega)])); (try rfl)) ⟨xRs X 0, a, ⟨fp, sn, ho, f9.at hs (by omega), hsl⟩, rf, th, be, tl, fd, rw_, ⟨f9.at c1 (by omega), f9.at ha (by omega), f9.at c3 (by omega), f9.at c4 (by omega), f9.at c5 (by omega), f9.at c6 (by omega), f9.at c7 (by omega), f9.at c8 (by omega), f9.at c10 (by omega)⟩, ⟨x1, x2, rfl⟩, ⟨l1, l3, l4, l5, l8, l10⟩, hk, hth, htl, rfl, hrf⟩ (f9.wd (by omega) (by omega))
    · refine v_aload_n k_Model_judge_8 rfl ?_
      refine v_iconst k_Model_judge_9 ?_
      refine v_callV mo_Model_no mi_Model_no mv_Model_no lk_Model_49 k_Model_judge_10 ho rfl rfl (Nat.le_of_ble_eq_true rfl) rfl (Nat.le_of_ble_eq_true rfl) (c_Model_no G hp w (by omega)) (fun v10 h10 q10 => ?_)
      obtain ⟨rfl, p9, f9⟩ := q10
      refine v_ireturn k_Model_judge_13 rfl rfl ?_
      first
        | (exfalso; omega)
        | exact fin3 (by unfold s_judge; (repeat (first | rw [if_pos (by omega)] | rw [if_neg (by omega)])); (try rfl)) p9 (f9.wd (by omega) (by omega))
        | exact fin3 (S' := wH_ S []) (by unfold s_judge; (repeat (first | rw [if_pos (by omega)] | rw [if_neg (by omega)])); (try rfl)) ⟨xRs X 0, a, ⟨fp, sn, ho, f9.at hs (by omega), hsl⟩, rf, th, be, tl, fd, rw_, ⟨f9.at c1 (by omega), f9.at ha (by omega), f9.at c3 (by omega), f9.at c4 (by omega), f9.at c5 (by omega), f9.at c6 (by omega), f9.at c7 (by omega), f9.at c8 (by omega), f9.at c10 (by omega)⟩, ⟨x1, x2, rfl⟩, ⟨l1, l3, l4, l5, l8, l10⟩, hk, hth, htl, rfl, hrf⟩ (f9.wd (by omega) (by omega))
  · skip
    refine v_aload_n k_Model_judge_0 rfl ?_
    refine v_iload_n k_Model_judge_1 rfl ?_
    refine v_callVr mo_Model_isNoVoice mi_Model_isNoVoice mv_Model_isNoVoice lk_Model_141 k_Model_judge_2 ho rfl rfl (Nat.le_of_ble_eq_true rfl) rfl (Nat.le_of_ble_eq_true rfl) ((by have q := c_Model_isNoVoice G ho ha hk wv hn; rw [if_neg hc] at q; exact q)) ?_
    refine v_ifeq 14 k_Model_judge_5 rfl (by omega) (fun cd5 => ?_) (fun cd5 => ?_)
    · refine v_iload_n k_Model_judge_14 rfl ?_
      refine v_iconst k_Model_judge_15 ?_
      refine v_sipush k_Model_judge_16 (by decide) ?_
      refine v_callSr mo_Model_isWrong ms_Model_isWrong lk_Model_148 k_Model_judge_19 rfl (Nat.le_of_ble_eq_true rfl) rfl (Nat.le_of_ble_eq_true rfl) (c_Model_isWrong G (v := x) (l := 0) (m := 400) (by omega) (by omega) (by omega)) ?_
      refine v_ifeq 38 k_Model_judge_22 rfl (by omega) (fun cd22 => ?_) (fun cd22 => ?_)
      · refine v_aload_n k_Model_judge_38 rfl ?_
        refine v_getf fl_Model_178 ho rfl k_Model_judge_39 ?_
        rw [show (xFp X fp).2.2.2.2.2.2 = ((nH S).length : Int) from x3]
        refine v_istore_n k_Model_judge_42 ⟨Nat.le_of_ble_eq_true rfl, Nat.le_of_ble_eq_true rfl⟩ ?_
        refine v_aload_n k_Model_judge_43 rfl ?_
        refine v_iconst k_Model_judge_44 ?_
        refine v_put fl_Model_178 ho (Nat.le_of_ble_eq_true rfl) (fun r hr => by cases hr; exact Or.inl rfl) rfl rfl k_Model_judge_45 (fun h45 e45 f45 => ?_)
        have f9 := f45
        have e9 : h45.2 m = some (aO 8 (mO m (xFp (xRs X 0) fp))) := e45
        have ho := e9
        refine v_aload_n k_Model_judge_48 rfl ?_
        refine v_iload_n k_Model_judge_49 rfl ?_
        refine v_iload_n k_Model_judge_50 rfl ?_
        refine v_iload_n k_Model_judge_51 rfl ?_
        refine v_callVr mo_Model_unlike mi_Model_unlike mv_Model_unlike lk_Model_181 k_Model_judge_52 ho rfl rfl (Nat.le_of_ble_eq_true rfl) rfl (Nat.le_of_ble_eq_true rfl) (c_Model_unlike G ho (f9.at ha (by omega)) (f9.at c10 (by omega)) l10 hk wv hrw w4 (v := n) (b := x) (by omega) (by omega)) ?_
        refine v_ireturn k_Model_judge_55 rfl rfl ?_
        first
          | (exfalso; omega)
          | exact fin3 (by unfold s_judge; (repeat (first | rw [if_pos (by omega)] | rw [if_neg (by omega)])); (try rfl)) p9 (f9.wd (by omega) (by omega))
          | exact fin3 (S' := wH_ S []) (by unfold s_judge; (repeat (first | rw [if_pos (by omega)] | rw [if_neg (by omega)])); (try rfl)) ⟨xRs X 0, a, ⟨fp, sn, ho, f9.at hs (by omega), hsl⟩, rf, th, be, tl, fd, rw_, ⟨f9.at c1 (by omega), f9.at ha (by omega), f9.at c3 (by omega), f9.at c4 (by omega), f9.at c5 (by omega), f9.at c6 (by omega), f9.at c7 (by omega), f9.at c8 (by omega), f9.at c10 (by omega)⟩, ⟨x1, x2, rfl⟩, ⟨l1, l3, l4, l5, l8, l10⟩, hk, hth, htl, rfl, hrf⟩ (f9.wd (by omega) (by omega))
      · refine v_aload_n k_Model_judge_25 rfl ?_
        refine v_iload_n k_Model_judge_26 rfl ?_
        refine v_iconst k_Model_judge_27 ?_
        refine v_sipush k_Model_judge_28 (by decide) ?_
        refine v_callSr mo_Model_isWrong ms_Model_isWrong lk_Model_148 k_Model_judge_31 rfl (Nat.le_of_ble_eq_true rfl) rfl (Nat.le_of_ble_eq_true rfl) (c_Model_isWrong G (v := x) (l := 0) (m := 400) (by omega) (by omega) (by omega)) ?_
        refine v_callV mo_Model_no mi_Model_no mv_Model_no lk_Model_49 k_Model_judge_34 ho rfl rfl (Nat.le_of_ble_eq_true rfl) rfl (Nat.le_of_ble_eq_true rfl) (c_Model_no G hp w (by omega)) (fun v34 h34 q34 => ?_)
        obtain ⟨rfl, p9, f9⟩ := q34
        refine v_ireturn k_Model_judge_37 rfl rfl ?_
        first
          | (exfalso; omega)
          | exact fin3 (by unfold s_judge; (repeat (first | rw [if_pos (by omega)] | rw [if_neg (by omega)])); (try rfl)) p9 (f9.wd (by omega) (by omega))
          | exact fin3 (S' := wH_ S []) (by unfold s_judge; (repeat (first | rw [if_pos (by omega)] | rw [if_neg (by omega)])); (try rfl)) ⟨xRs X 0, a, ⟨fp, sn, ho, f9.at hs (by omega), hsl⟩, rf, th, be, tl, fd, rw_, ⟨f9.at c1 (by omega), f9.at ha (by omega), f9.at c3 (by omega), f9.at c4 (by omega), f9.at c5 (by omega), f9.at c6 (by omega), f9.at c7 (by omega), f9.at c8 (by omega), f9.at c10 (by omega)⟩, ⟨x1, x2, rfl⟩, ⟨l1, l3, l4, l5, l8, l10⟩, hk, hth, htl, rfl, hrf⟩ (f9.wd (by omega) (by omega))
    · refine v_aload_n k_Model_judge_8 rfl ?_
      refine v_iconst k_Model_judge_9 ?_
      refine v_callV mo_Model_no mi_Model_no mv_Model_no lk_Model_49 k_Model_judge_10 ho rfl rfl (Nat.le_of_ble_eq_true rfl) rfl (Nat.le_of_ble_eq_true rfl) (c_Model_no G hp w (by omega)) (fun v10 h10 q10 => ?_)
      obtain ⟨rfl, p9, f9⟩ := q10
      refine v_ireturn k_Model_judge_13 rfl rfl ?_
      first
        | (exfalso; omega)
        | exact fin3 (by unfold s_judge; (repeat (first | rw [if_pos (by omega)] | rw [if_neg (by omega)])); (try rfl)) p9 (f9.wd (by omega) (by omega))
        | exact fin3 (S' := wH_ S []) (by unfold s_judge; (repeat (first | rw [if_pos (by omega)] | rw [if_neg (by omega)])); (try rfl)) ⟨xRs X 0, a, ⟨fp, sn, ho, f9.at hs (by omega), hsl⟩, rf, th, be, tl, fd, rw_, ⟨f9.at c1 (by omega), f9.at ha (by omega), f9.at c3 (by omega), f9.at c4 (by omega), f9.at c5 (by omega), f9.at c6 (by omega), f9.at c7 (by omega), f9.at c8 (by omega), f9.at c10 (by omega)⟩, ⟨x1, x2, rfl⟩, ⟨l1, l3, l4, l5, l8, l10⟩, hk, hth, htl, rfl, hrf⟩ (f9.wd (by omega) (by omega))

set_option maxHeartbeats 4000000 in
set_option maxRecDepth 20000 in
theorem c_Model_count (G : Gx) {h : AH} {m : Nat} {S : St} (hp : pMS h m S) (w : wSt S) {x : Int} (hx : InR x) : Ct G Y_Model_count 5 0 0 [aR m, aI x] h (fun v h' => v = some (aI (s_count S x).1) ∧ pMS h' m (s_count S x).2 ∧ Fr m (m + 11) h h') := by
  obtain ⟨X, a, ⟨fp, sn, ho, hs, hsl⟩, rf, th, be, tl, fd, rw_, ⟨c1, ha, c3, c4, c5, c6, c7, c8, c10⟩, ⟨x1, x2, x3⟩, ⟨l1, l3, l4, l5, l8, l10⟩, hk, hth, htl, hrw, hrf⟩ := id hp
  obtain ⟨w1, w2, w3, w4, w5, w6, w7, w8⟩ := id w
  have wv : vK (nK S) 13 6 := ⟨w1.1, by have := w1.2.1; omega, w1.2.2⟩
  have wu := wv.up (by decide) (by decide)
  have hl := hk.1
  have hn12 := w1.2.1
  have hv6 := w1.2.2.2.2.2.1
  refine Ct.of_V mo_Model_count rfl (Nat.le_of_ble_eq_true rfl) rfl ?_
  refine v_iload_n k_Model_count_0 rfl ?_

  by_cases g0 : x = 0
  · rw [g0]
    refine v_tableIn 52 k_Model_count_1 (by decide) (by decide) (by decide) (off := 51) rfl rfl ?_
    refine v_aload_n k_Model_count_52 rfl ?_
    refine v_getf fl_Model_13 ho rfl k_Model_count_53 ?_
    refine v_iconst k_Model_count_56 ?_
    refine v_iald ha (by omega) (by omega) k_Model_count_57 ?_
    rw [hk.n0]
    refine v_ireturn k_Model_count_58 rfl rfl ?_
    exact fin3 (S' := S) (by subst g0; rfl) hp Fr.rf
  by_cases g1 : x = 1
  · rw [g1]
    refine v_tableIn 59 k_Model_count_1 (by decide) (by decide) (by decide) (off := 58) rfl rfl ?_
    refine v_aload_n k_Model_count_59 rfl ?_
    refine v_getf fl_Model_13 ho rfl k_Model_count_60 ?_
    refine v_iconst k_Model_count_63 ?_
    refine v_iald ha (by omega) (by omega) k_Model_count_64 ?_
    rw [hk.n1]
    refine v_ireturn k_Model_count_65 rfl rfl ?_
    exact fin3 (S' := S) (by subst g1; rfl) hp Fr.rf
  by_cases g2 : x = 2
  · rw [g2]
    refine v_tableIn 66 k_Model_count_1 (by decide) (by decide) (by decide) (off := 65) rfl rfl ?_
    refine v_aload_n k_Model_count_66 rfl ?_
    refine v_callVr mo_Model_beats mi_Model_beats mv_Model_beats lk_Model_94 k_Model_count_67 ho rfl rfl (Nat.le_of_ble_eq_true rfl) rfl (Nat.le_of_ble_eq_true rfl) (c_Model_beats G ho ha hk wv) ?_
    refine v_ireturn k_Model_count_70 rfl rfl ?_
    exact fin3 (S' := S) (by subst g2; rfl) hp Fr.rf
  by_cases g3 : x = 3
  · rw [g3]
    refine v_tableIn 71 k_Model_count_1 (by decide) (by decide) (by decide) (off := 70) rfl rfl ?_
    refine v_aload_n k_Model_count_71 rfl ?_
    refine v_callVr mo_Model_end mi_Model_end mv_Model_end lk_Model_131 k_Model_count_72 ho rfl rfl (Nat.le_of_ble_eq_true rfl) rfl (Nat.le_of_ble_eq_true rfl) (c_Model_end G ho ha hk wv) ?_
    refine v_ireturn k_Model_count_75 rfl rfl ?_
    exact fin3 (S' := S) (by subst g3; rfl) hp Fr.rf
  by_cases g4 : x = 4
  · rw [g4]
    refine v_tableIn 76 k_Model_count_1 (by decide) (by decide) (by decide) (off := 75) rfl rfl ?_
    refine v_aload_n k_Model_count_76 rfl ?_
    refine v_getf fl_Model_13 ho rfl k_Model_count_77 ?_
    refine v_iconst k_Model_count_80 ?_
    refine v_iald ha (by omega) (by omega) k_Model_count_81 ?_
    rw [hk.n2]
    refine v_ireturn k_Model_count_82 rfl rfl ?_
    exact fin3 (S' := S) (by subst g4; rfl) hp Fr.rf
  by_cases g5 : x = 5
  · rw [g5]
    refine v_tableIn 83 k_Model_count_1 (by decide) (by decide) (by decide) (off := 82) rfl rfl ?_
    refine v_aload_n k_Model_count_83 rfl ?_
    refine v_getf fl_Model_13 ho rfl k_Model_count_84 ?_
    refine v_iconst k_Model_count_87 ?_
    refine v_iald ha (by omega) (by omega) k_Model_count_88 ?_
    rw [hk.n3]
    refine v_ireturn k_Model_count_89 rfl rfl ?_
    exact fin3 (S' := S) (by subst g5; rfl) hp Fr.rf
  by_cases g6 : x = 6
  · rw [g6]
    refine v_tableIn 90 k_Model_count_1 (by decide) (by decide) (by decide) (off := 89) rfl rfl ?_
    refine v_aload_n k_Model_count_90 rfl ?_
    refine v_getf fl_Model_13 ho rfl k_Model_count_91 ?_
    refine v_iconst k_Model_count_94 ?_
    refine v_iald ha (by omega) (by omega) k_Model_count_95 ?_
    rw [hk.n4]
    refine v_ireturn k_Model_count_96 rfl rfl ?_
    exact fin3 (S' := S) (by subst g6; rfl) hp Fr.rf
  by_cases g7 : x = 7
  · rw [g7]
    refine v_tableIn 97 k_Model_count_1 (by decide) (by decide) (by decide) (off := 96) rfl rfl ?_
    refine v_aload_n k_Model_count_97 rfl ?_
    refine v_getf fl_Model_178 ho rfl k_Model_count_98 ?_
    rw [show (xFp X fp).2.2.2.2.2.2 = ((nH S).length : Int) from x3]
    refine v_ireturn k_Model_count_101 rfl rfl ?_
    exact fin3 (S' := S) (by subst g7; rfl) hp Fr.rf
  by_cases g8 : x = 8
  · rw [g8]
    refine v_tableIn 102 k_Model_count_1 (by decide) (by decide) (by decide) (off := 101) rfl rfl ?_
    refine v_aload_n k_Model_count_102 rfl ?_
    refine v_getf fl_Model_53 ho rfl k_Model_count_103 ?_
    rw [show (xFp X fp).2.1 = ((nX S).length : Int) from x2]
    refine v_ireturn k_Model_count_106 rfl rfl ?_
    exact fin3 (S' := S) (by subst g8; rfl) hp Fr.rf
  refine v_tableOut 107 k_Model_count_1 hx (by omega) rfl ?_
  refine v_iload_n k_Model_count_107 rfl ?_
  refine v_bipush k_Model_count_108 (by decide) ?_
  refine v_iclt 131 k_Model_count_110 rfl (by omega) (by omega) (fun cd110 => ?_) (fun cd110 => ?_)
  · refine v_bipush k_Model_count_131 (by decide) ?_
    refine v_ireturn k_Model_count_133 rfl rfl ?_
    exact fin3 (S' := S) (by unfold s_count; (repeat (first | rw [if_pos (by omega)] | rw [if_neg (by omega)]))) hp Fr.rf
  · refine v_iload_n k_Model_count_113 rfl ?_
    refine v_bipush k_Model_count_114 (by decide) ?_
    refine v_icgt 131 k_Model_count_116 rfl (by omega) (by omega) (fun cd116 => ?_) (fun cd116 => ?_)
    · refine v_bipush k_Model_count_131 (by decide) ?_
      refine v_ireturn k_Model_count_133 rfl rfl ?_
      exact fin3 (S' := S) (by unfold s_count; (repeat (first | rw [if_pos (by omega)] | rw [if_neg (by omega)]))) hp Fr.rf
    · refine v_aload_n k_Model_count_119 rfl ?_
      refine v_getf fl_Model_1 ho rfl k_Model_count_120 ?_
      refine v_iload_n k_Model_count_123 rfl ?_
      refine v_bipush k_Model_count_124 (by decide) ?_
      refine v_isub k_Model_count_126 ?_
      refine v_iald c1 (by omega) (by omega) k_Model_count_127 ?_
      have hr := hrf (x - 11).toNat (by omega)
      rw [show (x - 11).toNat + 1 = (x - 10).toNat by omega, show (((x - 11).toNat : Nat) : Int) = x - 11 by omega] at hr
      rw [hr]
      refine v_goto k_Model_count_128 (tgt := 133) rfl ?_
      refine v_ireturn k_Model_count_133 rfl rfl ?_
      exact fin3 (S' := S) (by unfold s_count; (repeat (first | rw [if_pos (by omega)] | rw [if_neg (by omega)]))) hp Fr.rf

set_option maxHeartbeats 4000000 in
set_option maxRecDepth 20000 in
theorem c_Model_stop (G : Gx) {h : AH} {m : Nat} {S : St} (hp : pMS h m S) (w : wSt S) {x : Int} (hx : InR x) : Ct G Y_Model_stop 4 0 0 [aR m, aI x] h (fun v h' => v = some (aI (t_stop S x).1) ∧ pMS h' m (t_stop S x).2 ∧ Fr m (m + 11) h h') := by
  obtain ⟨X, a, ⟨fp, sn, ho, hs, hsl⟩, rf, th, be, tl, fd, rw_, ⟨c1, ha, c3, c4, c5, c6, c7, c8, c10⟩, ⟨x1, x2, x3⟩, ⟨l1, l3, l4, l5, l8, l10⟩, hk, hth, htl, hrw, hrf⟩ := id hp
  obtain ⟨w1, w2, w3, w4, w5, w6, w7, w8⟩ := id w
  have wv : vK (nK S) 13 6 := ⟨w1.1, by have := w1.2.1; omega, w1.2.2⟩
  have wu := wv.up (by decide) (by decide)
  have hl := hk.1
  have hn12 := w1.2.1
  have hv6 := w1.2.2.2.2.2.1
  have ho_ := oS_spec x 0 400
  refine Ct.of_V mo_Model_stop rfl (Nat.le_of_ble_eq_true rfl) rfl ?_
  refine v_iload_n k_Model_stop_0 rfl ?_
  refine v_iconst k_Model_stop_1 ?_
  refine v_sipush k_Model_stop_2 (by decide) ?_
  refine v_callSr mo_Model_isWrong ms_Model_isWrong lk_Model_148 k_Model_stop_5 rfl (Nat.le_of_ble_eq_true rfl) rfl (Nat.le_of_ble_eq_true rfl) (c_Model_isWrong G (v := x) (l := 0) (m := 400) (by omega) (by omega) (by omega)) ?_
  refine v_ifeq 24 k_Model_stop_8 rfl (by omega) (fun cd8 => ?_) (fun cd8 => ?_)
  · refine v_iconst k_Model_stop_24 ?_
    refine v_istore_n k_Model_stop_25 ⟨Nat.le_of_ble_eq_true rfl, Nat.le_of_ble_eq_true rfl⟩ ?_
    refine v_iconst k_Model_stop_26 ?_
    refine v_istore_n k_Model_stop_27 ⟨Nat.le_of_ble_eq_true rfl, Nat.le_of_ble_eq_true rfl⟩ ?_
    have hx0 : oS x 0 400 = 0 := by omega
    by_cases hz : 0 < (kP (nK S)).length
    · skip
      have loop : ∀ (k : Nat) (i : Nat), ((kK (nK S)).length < i + k) → (i ≤ (kK (nK S)).length) → ∀ (z1 z2 : Option AV), V G Y_Model_stop 4 0 0 28 [some (aR m), some (aI x), some (aI (tst (nK S) x i)), some (aI (i : Int)), z1, z2] [] h (fun v h' => v = some (aI (t_stop S x).1) ∧ pMS h' m (t_stop S x).2 ∧ Fr m (m + 11) h h') := by
        intro k
        induction k with
        | zero => intro i hi hin z1 z2; exfalso; omega
        | succ k ih =>
          intro i hi hin z1 z2
          have hbt := tst_bd wu x i
          have hst := wu.stl (i : Int)
          have hen := wu.en (i : Int)
          have hrb := wu.rB (i : Int)
          have hrp := q_rB_pos wv hz (i : Int)
          refine v_iload_n k_Model_stop_28 rfl ?_
          refine v_aload_n k_Model_stop_29 rfl ?_
          refine v_getf fl_Model_13 ho rfl k_Model_stop_30 ?_
          refine v_iconst k_Model_stop_33 ?_
          refine v_iald ha (by omega) (by omega) k_Model_stop_34 ?_
          rw [hk.n1]
          refine v_icge 113 k_Model_stop_35 rfl (by omega) (by omega) (fun cd35 => ?_) (fun cd35 => ?_)
          · refine v_iload_n k_Model_stop_113 rfl ?_
            refine v_ireturn k_Model_stop_114 rfl rfl ?_
            first
              | (exfalso; omega)
              | (have e : i = (kK (nK S)).length := by omega
                 subst e
                 exact fin3 (by unfold t_stop; rw [if_neg (by omega), if_pos hz]) hp Fr.rf)
          · refine v_aload_n k_Model_stop_38 rfl ?_
            refine v_getf fl_Model_13 ho rfl k_Model_stop_39 ?_
            refine v_iconst k_Model_stop_42 ?_
            refine v_iald ha (by omega) (by omega) k_Model_stop_43 ?_
            rw [hk.n0]
            refine v_ifle 113 k_Model_stop_44 rfl (by omega) (fun cd44 => ?_) (fun cd44 => ?_)
            · refine v_iload_n k_Model_stop_113 rfl ?_
              refine v_ireturn k_Model_stop_114 rfl rfl ?_
              first
                | (exfalso; omega)
                | (have e : i = (kK (nK S)).length := by omega
                   subst e
                   exact fin3 (by unfold t_stop; rw [if_neg (by omega), if_pos hz]) hp Fr.rf)
            · refine v_aload_n k_Model_stop_47 rfl ?_
              refine v_getf fl_Model_13 ho rfl k_Model_stop_48 ?_
              refine v_bipush k_Model_stop_51 (by decide) ?_
              refine v_iload_n k_Model_stop_53 rfl ?_
              refine v_iadd k_Model_stop_54 ?_
              refine v_iald ha (by omega) (by omega) k_Model_stop_55 ?_
              rw [hk.e (x := (i : Int)) (by omega)]
              refine v_istore k_Model_stop_56 ⟨Nat.le_of_ble_eq_true rfl, Nat.le_of_ble_eq_true rfl⟩ ?_
              refine v_aload_n k_Model_stop_58 rfl ?_
              refine v_aload_n k_Model_stop_59 rfl ?_
              refine v_getf fl_Model_13 ho rfl k_Model_stop_60 ?_
              refine v_bipush k_Model_stop_63 (by decide) ?_
              refine v_iload_n k_Model_stop_65 rfl ?_
              refine v_iadd k_Model_stop_66 ?_
              refine v_iald ha (by omega) (by omega) k_Model_stop_67 ?_
              rw [hk.k (x := (i : Int)) (by omega)]
              refine v_callVr mo_Model_roundOf mi_Model_roundOf mv_Model_roundOf lk_Model_100 k_Model_stop_68 ho rfl rfl (Nat.le_of_ble_eq_true rfl) rfl (Nat.le_of_ble_eq_true rfl) (c_Model_roundOf G ho ha hk wv (wu.kd (i : Int))) ?_
              refine v_istore k_Model_stop_71 ⟨Nat.le_of_ble_eq_true rfl, Nat.le_of_ble_eq_true rfl⟩ ?_
              refine v_iload k_Model_stop_73 rfl ?_
              refine v_iload_n k_Model_stop_75 rfl ?_
              refine v_icgt 107 k_Model_stop_76 rfl (by omega) (by omega) (fun cd76 => ?_) (fun cd76 => ?_)
              · refine v_iinc k_Model_stop_107 rfl (Nat.le_of_ble_eq_true rfl) ?_
                refine v_goto k_Model_stop_110 (tgt := 28) rfl ?_
                have st := ih (i + 1) (by omega) (by omega)
                rw [tst] at st
                first
                  | (rw [if_pos (by omega)] at st; exact st _ _)
                  | (rw [if_neg (by omega)] at st; exact st _ _)
              · refine v_iload_n k_Model_stop_79 rfl ?_
                refine v_aload_n k_Model_stop_80 rfl ?_
                refine v_iload_n k_Model_stop_81 rfl ?_
                refine v_callVr mo_Model_endOf mi_Model_endOf mv_Model_endOf lk_Model_111 k_Model_stop_82 ho rfl rfl (Nat.le_of_ble_eq_true rfl) rfl (Nat.le_of_ble_eq_true rfl) (c_Model_endOf G ho ha hk wv (v := (i : Int)) (by omega)) ?_
                refine v_iload k_Model_stop_85 rfl ?_
                refine v_iload k_Model_stop_87 rfl ?_
                refine v_iload_n k_Model_stop_89 rfl ?_
                refine v_iload k_Model_stop_90 rfl ?_
                refine v_isub k_Model_stop_92 ?_
                refine v_iload k_Model_stop_93 rfl ?_
                rw [show rdO (nK S) (rget (kK (nK S)) i) = q_rB (nK S) i from rfl]
                refine v_idiv k_Model_stop_95 (by omega) (by omega) ?_
                rw [Int.tdiv_eq_ediv_of_nonneg (by omega)]
                have d1 := Int.ediv_nonneg (a := x - rget (kE (nK S)) i) (b := q_rB (nK S) i) (by omega) (by omega)
                have d2 := Int.ediv_le_self (a := x - rget (kE (nK S)) i) (q_rB (nK S) i) (by omega)
                have d3 := mul_bd (a := q_rB (nK S) i) (b := (x - rget (kE (nK S)) i) / q_rB (nK S) i + 1) (A := 74) (B := 401) (by omega) (by omega) (by omega) (by omega)
                refine v_iconst k_Model_stop_96 ?_
                refine v_iadd k_Model_stop_97 ?_
                refine v_imul k_Model_stop_98 ?_
                refine v_iadd k_Model_stop_99 ?_
                refine v_mmin k_Model_stop_100 lm_Model_169 (by omega) (by omega) (Nat.le_of_ble_eq_true rfl) (Nat.le_of_ble_eq_true rfl) ?_
                refine v_mmax k_Model_stop_103 lm_Model_114 (by omega) (by omega) (Nat.le_of_ble_eq_true rfl) (Nat.le_of_ble_eq_true rfl) ?_
                refine v_istore_n k_Model_stop_106 ⟨Nat.le_of_ble_eq_true rfl, Nat.le_of_ble_eq_true rfl⟩ ?_
                refine v_iinc k_Model_stop_107 rfl (Nat.le_of_ble_eq_true rfl) ?_
                refine v_goto k_Model_stop_110 (tgt := 28) rfl ?_
                have st := ih (i + 1) (by omega) (by omega)
                rw [tst] at st
                first
                  | (rw [if_pos (by omega)] at st; exact st _ _)
                  | (rw [if_neg (by omega)] at st; exact st _ _)
      exact loop ((kK (nK S)).length + 1) 0 (by omega) (by omega) _ _
    · skip
      refine v_iload_n k_Model_stop_28 rfl ?_
      refine v_aload_n k_Model_stop_29 rfl ?_
      refine v_getf fl_Model_13 ho rfl k_Model_stop_30 ?_
      refine v_iconst k_Model_stop_33 ?_
      refine v_iald ha (by omega) (by omega) k_Model_stop_34 ?_
      rw [hk.n1]
      refine v_icge 113 k_Model_stop_35 rfl (by omega) (by omega) (fun cd35 => ?_) (fun cd35 => ?_)
      · refine v_iload_n k_Model_stop_113 rfl ?_
        refine v_ireturn k_Model_stop_114 rfl rfl ?_
        exact fin3 (by unfold t_stop; rw [if_neg (by omega), if_neg hz]) hp Fr.rf
      · refine v_aload_n k_Model_stop_38 rfl ?_
        refine v_getf fl_Model_13 ho rfl k_Model_stop_39 ?_
        refine v_iconst k_Model_stop_42 ?_
        refine v_iald ha (by omega) (by omega) k_Model_stop_43 ?_
        rw [hk.n0]
        refine v_ifle 113 k_Model_stop_44 rfl (by omega) (fun cd44 => ?_) (fun cd44 => ?_)
        · refine v_iload_n k_Model_stop_113 rfl ?_
          refine v_ireturn k_Model_stop_114 rfl rfl ?_
          exact fin3 (by unfold t_stop; rw [if_neg (by omega), if_neg hz]) hp Fr.rf
        · exfalso; omega
  · refine v_aload_n k_Model_stop_11 rfl ?_
    refine v_iload_n k_Model_stop_12 rfl ?_
    refine v_iconst k_Model_stop_13 ?_
    refine v_sipush k_Model_stop_14 (by decide) ?_
    refine v_callSr mo_Model_isWrong ms_Model_isWrong lk_Model_148 k_Model_stop_17 rfl (Nat.le_of_ble_eq_true rfl) rfl (Nat.le_of_ble_eq_true rfl) (c_Model_isWrong G (v := x) (l := 0) (m := 400) (by omega) (by omega) (by omega)) ?_
    refine v_callV mo_Model_no mi_Model_no mv_Model_no lk_Model_49 k_Model_stop_20 ho rfl rfl (Nat.le_of_ble_eq_true rfl) rfl (Nat.le_of_ble_eq_true rfl) (c_Model_no G hp w (by omega)) (fun v20 h20 q20 => ?_)
    obtain ⟨rfl, p9, f9⟩ := q20
    refine v_ireturn k_Model_stop_23 rfl rfl ?_
    first
      | (exfalso; omega)
      | exact fin3 (by unfold t_stop; (repeat (first | rw [if_pos (by omega)] | rw [if_neg (by omega)])); (try rfl)) p9 (f9.wd (by omega) (by omega))
      | exact fin3 (by unfold t_stop; (repeat (first | rw [if_pos (by omega)] | rw [if_neg (by omega)])); (try rfl)) hp Fr.rf

set_option maxHeartbeats 4000000 in
set_option maxRecDepth 20000 in
theorem c_Model_silent (G : Gx) {h : AH} {m : Nat} {S : St} (hp : pMS h m S) (w : wSt S) : Ct G Y_Model_silent 7 0 0 [aR m] h (fun v h' => v = some (aI (t_silent S).1) ∧ pMS h' m (t_silent S).2 ∧ Fr m (m + 11) h h') := by
  obtain ⟨X, a, ⟨fp, sn, ho, hs, hsl⟩, rf, th, be, tl, fd, rw_, ⟨c1, ha, c3, c4, c5, c6, c7, c8, c10⟩, ⟨x1, x2, x3⟩, ⟨l1, l3, l4, l5, l8, l10⟩, hk, hth, htl, hrw, hrf⟩ := id hp
  obtain ⟨w1, w2, w3, w4, w5, w6, w7, w8⟩ := id w
  have wv : vK (nK S) 13 6 := ⟨w1.1, by have := w1.2.1; omega, w1.2.2⟩
  have wu := wv.up (by decide) (by decide)
  have hl := hk.1
  have hn12 := w1.2.1
  have hv6 := w1.2.2.2.2.2.1
  have hek := wu.endK
  have ha0 := ha
  refine Ct.of_V mo_Model_silent rfl (Nat.le_of_ble_eq_true rfl) rfl ?_
  have loop : ∀ (k : Nat) (i : Nat) (h1 : AH), ((kK (nK S)).length < i + k) → (i ≤ (kK (nK S)).length) → (pO h1 m X) → (FrA m h h1) → V G Y_Model_silent 7 0 0 4 [some (aR m), some (aI (orb (fun v => decide (mS (nK S) v (q_endK (nK S)).toNat = 0)) i : Nat)), some (aI (i : Int))] [] h1 (fun v h' => v = some (aI (t_silent S).1) ∧ pMS h' m (t_silent S).2 ∧ Fr m (m + 11) h h') := by
    intro k
    induction k with
    | zero => intro i h1 hi hin hO1 f1; exfalso; omega
    | succ k ih =>
      intro i h1 hi hin hO1 f1
      obtain ⟨fp1, sn1, ho, hs, hsl⟩ := id hO1
      have ha := f1.at ha0 (by omega) (by omega)
      have hmi := mS_bd wv (i : Int) (q_endK (nK S)).toNat
      refine v_iload_n k_Model_silent_4 rfl ?_
      refine v_aload_n k_Model_silent_5 rfl ?_
      refine v_getf fl_Model_13 ho rfl k_Model_silent_6 ?_
      refine v_iconst k_Model_silent_9 ?_
      refine v_iald ha (by omega) (by omega) k_Model_silent_10 ?_
      rw [hk.n1]
      refine v_icge 38 k_Model_silent_11 rfl (by omega) (by omega) (fun cd11 => ?_) (fun cd11 => ?_)
      · refine v_iload_n k_Model_silent_38 rfl ?_
        refine v_ireturn k_Model_silent_39 rfl rfl ?_
        have e : i = (kK (nK S)).length := by omega
        subst e
        exact fin3 (by unfold t_silent; rfl) ⟨X, a, hO1, (show pQ h m S X a from ⟨rf, th, be, tl, fd, rw_, ⟨c1, ha0, c3, c4, c5, c6, c7, c8, c10⟩, ⟨x1, x2, x3⟩, ⟨l1, l3, l4, l5, l8, l10⟩, hk, hth, htl, hrw, hrf⟩).fa f1⟩ f1.fr
      · refine v_iload_n k_Model_silent_14 rfl ?_
        refine v_aload_n k_Model_silent_15 rfl ?_
        refine v_iload_n k_Model_silent_16 rfl ?_
        refine v_callV mo_Model_illAll mi_Model_illAll mv_Model_illAll lk_Model_152 k_Model_silent_17 ho rfl rfl (Nat.le_of_ble_eq_true rfl) rfl (Nat.le_of_ble_eq_true rfl) (c_Model_illAll G hO1 ha hk wv (wo := (i : Int)) (by omega)) (fun v17 h17 q17 => ?_)
        obtain ⟨rfl, hO2, f2⟩ := q17
        have f3 := f1.tr f2
        refine v_ifne 29 k_Model_silent_20 rfl (by omega) (fun cd20 => ?_) (fun cd20 => ?_)
        · refine v_iconst k_Model_silent_29 ?_
          refine v_iorN (y := 0) k_Model_silent_30 ?_
          rw [Nat.or_zero]
          refine v_istore_n k_Model_silent_31 ⟨Nat.le_of_ble_eq_true rfl, Nat.le_of_ble_eq_true rfl⟩ ?_
          refine v_iinc k_Model_silent_32 rfl (Nat.le_of_ble_eq_true rfl) ?_
          refine v_goto k_Model_silent_35 (tgt := 4) rfl ?_
          have e : orb (fun v => decide (mS (nK S) v (q_endK (nK S)).toNat = 0)) (i + 1) = if decide (mS (nK S) (i : Int) (q_endK (nK S)).toNat = 0) = true then orb (fun v => decide (mS (nK S) v (q_endK (nK S)).toNat = 0)) i ||| 2 ^ i else orb (fun v => decide (mS (nK S) v (q_endK (nK S)).toNat = 0)) i := rfl
          have st := ih (i + 1) _ (by omega) (by omega) hO2 f3
          rw [e] at st
          rw [if_neg (fun q => by have := of_decide_eq_true q; omega)] at st
          exact st
        · refine v_iconst k_Model_silent_23 ?_
          refine v_iload_n k_Model_silent_24 rfl ?_
          refine v_bit k_Model_silent_25 (by omega) ?_
          rw [Int.toNat_natCast]
          refine v_goto k_Model_silent_26 (tgt := 30) rfl ?_
          refine v_iorN k_Model_silent_30 ?_
          refine v_istore_n k_Model_silent_31 ⟨Nat.le_of_ble_eq_true rfl, Nat.le_of_ble_eq_true rfl⟩ ?_
          refine v_iinc k_Model_silent_32 rfl (Nat.le_of_ble_eq_true rfl) ?_
          refine v_goto k_Model_silent_35 (tgt := 4) rfl ?_
          have e : orb (fun v => decide (mS (nK S) v (q_endK (nK S)).toNat = 0)) (i + 1) = if decide (mS (nK S) (i : Int) (q_endK (nK S)).toNat = 0) = true then orb (fun v => decide (mS (nK S) v (q_endK (nK S)).toNat = 0)) i ||| 2 ^ i else orb (fun v => decide (mS (nK S) v (q_endK (nK S)).toNat = 0)) i := rfl
          have st := ih (i + 1) _ (by omega) (by omega) hO2 f3
          rw [e] at st
          rw [if_pos (decide_eq_true (by omega))] at st
          exact st
  refine v_iconst k_Model_silent_0 ?_
  refine v_istore_n k_Model_silent_1 ⟨Nat.le_of_ble_eq_true rfl, Nat.le_of_ble_eq_true rfl⟩ ?_
  refine v_iconst k_Model_silent_2 ?_
  refine v_istore_n k_Model_silent_3 ⟨Nat.le_of_ble_eq_true rfl, Nat.le_of_ble_eq_true rfl⟩ ?_
  exact loop ((kK (nK S)).length + 1) 0 h (by omega) (by omega) ⟨fp, sn, ho, hs, hsl⟩ FrA.rf
