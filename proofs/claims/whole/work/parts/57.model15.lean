set_option maxHeartbeats 4000000 in
set_option maxRecDepth 20000 in
theorem c_Model_agreeing (G : Gx) {h : AH} {m : Nat} {S : St} (hp : pMS h m S) (w : wSt S) (hlt : m + 11 ≤ h.1) {n x : Int} (hn : InR n) (hx : InR x) : Ct G Y_Model_agreeing 3 144 1008 [aR m, aI n, aI x] h (fun v h' => v = some (aJ (s_agreeing S n x).1) ∧ pMS h' m (s_agreeing S n x).2 ∧ h.1 ≤ h'.1 ∧ ∀ q, q < h.1 → (q < m ∨ m + 11 ≤ q) → h'.2 q = h.2 q) := by
  obtain ⟨X, a, ⟨fp, sn, ho, hs, hsl⟩, rf, th, be, tl, fd, rw_, ⟨c1, ha, c3, c4, c5, c6, c7, c8, c10⟩, ⟨x1, x2, x3⟩, ⟨l1, l3, l4, l5, l8, l10⟩, hk, hth, htl, hrw, hrf⟩ := id hp
  obtain ⟨w1, w2, w3, w4, w5, w6, w7, w8⟩ := id w
  have wv : vK (nK S) 13 6 := ⟨w1.1, by have := w1.2.1; omega, w1.2.2⟩
  have wu := wv.up (by decide) (by decide)
  have hl := hk.1
  have hn12 := w1.2.1
  have hv6 := w1.2.2.2.2.2.1
  have hox_ := oS_spec (max n x) 1 12
  refine Ct.of_V mo_Model_agreeing rfl (Nat.le_of_ble_eq_true rfl) rfl ?_
  refine v_iload_n k_Model_agreeing_0 rfl ?_
  refine v_iconst k_Model_agreeing_1 ?_
  refine v_iclt 10 k_Model_agreeing_2 rfl (by omega) (by omega) (fun cd2 => ?_) (fun cd2 => ?_)
  · refine v_ldc2 (x := 4000000000000000000) cn_Model_172 k_Model_agreeing_10 (by decide) ?_
    refine v_aload_n k_Model_agreeing_13 rfl ?_
    refine v_bipush k_Model_agreeing_14 (by decide) ?_
    refine v_callV mo_Model_no mi_Model_no mv_Model_no lk_Model_49 k_Model_agreeing_16 ho rfl rfl (Nat.le_of_ble_eq_true rfl) rfl (Nat.le_of_ble_eq_true rfl) (c_Model_no G hp w (by omega)) (fun v16 h16 q16 => ?_)
    obtain ⟨rfl, p9, f9⟩ := q16
    refine v_i2l k_Model_agreeing_19 (by omega) ?_
    refine v_lsub k_Model_agreeing_20 ?_
    refine v_lreturn k_Model_agreeing_21 rfl ?_
    have e9 : s_agreeing S n x = (4000000000000000000 - (-4), (rfS S (-4)).2) := by unfold s_agreeing; (repeat (first | rw [if_pos (by omega)] | rw [if_neg (by omega)])); first | rfl | (rw [show oS (max n x) 1 12 = -6 by omega]; rfl)
    rw [e9]
    exact ⟨rfl, p9, Nat.le_of_eq f9.1.symm, fun q _ h2 => f9.2 q (by omega)⟩
  · refine v_iload_n k_Model_agreeing_5 rfl ?_
    refine v_iconst k_Model_agreeing_6 ?_
    refine v_icge 22 k_Model_agreeing_7 rfl (by omega) (by omega) (fun cd7 => ?_) (fun cd7 => ?_)
    · refine v_iload_n k_Model_agreeing_22 rfl ?_
      refine v_bipush k_Model_agreeing_23 (by decide) ?_
      refine v_icgt 34 k_Model_agreeing_25 rfl (by omega) (by omega) (fun cd25 => ?_) (fun cd25 => ?_)
      · refine v_ldc2 (x := 4000000000000000000) cn_Model_172 k_Model_agreeing_34 (by decide) ?_
        refine v_aload_n k_Model_agreeing_37 rfl ?_
        refine v_bipush k_Model_agreeing_38 (by decide) ?_
        refine v_callV mo_Model_no mi_Model_no mv_Model_no lk_Model_49 k_Model_agreeing_40 ho rfl rfl (Nat.le_of_ble_eq_true rfl) rfl (Nat.le_of_ble_eq_true rfl) (c_Model_no G hp w (by omega)) (fun v40 h40 q40 => ?_)
        obtain ⟨rfl, p9, f9⟩ := q40
        refine v_i2l k_Model_agreeing_43 (by omega) ?_
        refine v_lsub k_Model_agreeing_44 ?_
        refine v_lreturn k_Model_agreeing_45 rfl ?_
        have e9 : s_agreeing S n x = (4000000000000000000 - (-6), (rfS S (-6)).2) := by unfold s_agreeing; (repeat (first | rw [if_pos (by omega)] | rw [if_neg (by omega)])); first | rfl | (rw [show oS (max n x) 1 12 = -6 by omega]; rfl)
        rw [e9]
        exact ⟨rfl, p9, Nat.le_of_eq f9.1.symm, fun q _ h2 => f9.2 q (by omega)⟩
      · refine v_iload_n k_Model_agreeing_28 rfl ?_
        refine v_bipush k_Model_agreeing_29 (by decide) ?_
        refine v_icle 46 k_Model_agreeing_31 rfl (by omega) (by omega) (fun cd31 => ?_) (fun cd31 => ?_)
        · refine v_lconst k_Model_agreeing_46 ?_
          refine v_lstore_n k_Model_agreeing_47 ⟨Nat.le_of_ble_eq_true rfl, Nat.le_of_ble_eq_true rfl⟩ ?_
          refine v_iconst k_Model_agreeing_48 ?_
          refine v_istore k_Model_agreeing_49 ⟨Nat.le_of_ble_eq_true rfl, Nat.le_of_ble_eq_true rfl⟩ ?_
          have hb9 : (1 ≤ n ∧ n ≤ 12) ∧ 1 ≤ x ∧ x ≤ 12 := by omega
          have hox : oS (max n x) 1 12 = 0 := by omega
          have loop : ∀ (kk : Nat) (i : Nat) (h1 : AH) (acc : Int), (i + kk = (min n x).toNat) → (i ≤ 12) → (h.1 ≤ h1.1) → (FrU h.1 h h1) → (prF (kW (nK S)) n x kk i acc = prF (kW (nK S)) n x (min n x).toNat 0 1) → V G Y_Model_agreeing 3 (12 * kk) (84 * kk) 51 [some (aR m), some (aI n), some (aI x), some (aJ acc), none, some (aI (i : Int))] [] h1 (fun v h' => v = some (aJ (s_agreeing S n x).1) ∧ pMS h' m (s_agreeing S n x).2 ∧ h.1 ≤ h'.1 ∧ ∀ q, q < h.1 → (q < m ∨ m + 11 ≤ q) → h'.2 q = h.2 q) := by
            intro kk
            induction kk with
            | zero =>
              intro i h1 acc hi hi12 g1 u1 ht
              refine v_iload k_Model_agreeing_51 rfl ?_
              refine v_iload_n k_Model_agreeing_53 rfl ?_
              refine v_icge 86 k_Model_agreeing_54 rfl (by omega) (by omega) (fun cd54 => ?_) (fun cd54 => ?_)
              · refine v_lload_n k_Model_agreeing_86 rfl ?_
                refine v_lreturn k_Model_agreeing_87 rfl ?_
                have ht : acc = prF (kW (nK S)) n x (min n x).toNat 0 1 := ht
                have e9 : s_agreeing S n x = (prF (kW (nK S)) n x (min n x).toNat 0 1, S) := by unfold s_agreeing; rw [if_neg (by omega), if_neg (by omega)]
                rw [e9, ← ht]
                exact ⟨rfl, pMS.fu hp u1 hlt, g1, fun q hq _ => u1 q hq⟩
              · refine v_iload k_Model_agreeing_57 rfl ?_
                refine v_iload_n k_Model_agreeing_59 rfl ?_
                refine v_icge 86 k_Model_agreeing_60 rfl (by omega) (by omega) (fun cd60 => ?_) (fun cd60 => ?_)
                · refine v_lload_n k_Model_agreeing_86 rfl ?_
                  refine v_lreturn k_Model_agreeing_87 rfl ?_
                  have ht : acc = prF (kW (nK S)) n x (min n x).toNat 0 1 := ht
                  have e9 : s_agreeing S n x = (prF (kW (nK S)) n x (min n x).toNat 0 1, S) := by unfold s_agreeing; rw [if_neg (by omega), if_neg (by omega)]
                  rw [e9, ← ht]
                  exact ⟨rfl, pMS.fu hp u1 hlt, g1, fun q hq _ => u1 q hq⟩
                · exfalso; omega
            | succ kk ih =>
              intro i h1 acc hi hi12 g1 u1 ht
              have ho9 := u1.at ho (by omega)
              have ha9 := u1.at ha (by omega)
              refine v_iload k_Model_agreeing_51 rfl ?_
              refine v_iload_n k_Model_agreeing_53 rfl ?_
              refine v_icge 86 k_Model_agreeing_54 rfl (by omega) (by omega) (fun cd54 => ?_) (fun cd54 => ?_)
              · exfalso; omega
              · refine v_iload k_Model_agreeing_57 rfl ?_
                refine v_iload_n k_Model_agreeing_59 rfl ?_
                refine v_icge 86 k_Model_agreeing_60 rfl (by omega) (by omega) (fun cd60 => ?_) (fun cd60 => ?_)
                · exfalso; omega
                · refine v_lload_n k_Model_agreeing_63 rfl ?_
                  refine v_aload_n k_Model_agreeing_64 rfl ?_
                  refine v_iload_n k_Model_agreeing_65 rfl ?_
                  refine v_iload k_Model_agreeing_66 rfl ?_
                  refine v_isub k_Model_agreeing_68 ?_
                  refine v_iload_n k_Model_agreeing_69 rfl ?_
                  refine v_iadd k_Model_agreeing_70 ?_
                  refine v_iconst k_Model_agreeing_71 ?_
                  refine v_isub k_Model_agreeing_72 ?_
                  refine v_iload_n k_Model_agreeing_73 rfl ?_
                  refine v_idiv k_Model_agreeing_74 (by omega) (by omega) ?_
                  rw [Int.tdiv_eq_ediv_of_nonneg (by omega), show n - (i : Int) + x - 1 = (n - 1 - i) + 1 * x by omega, Int.add_mul_ediv_right _ _ (by omega)]
                  have d1 := Int.ediv_nonneg (a := n - 1 - (i : Int)) (b := x) (by omega) (by omega)
                  have d2 := Int.ediv_le_self (a := n - 1 - (i : Int)) x (by omega)
                  rw [Nat.mul_succ, Nat.mul_succ]
                  refine v_callV mo_Model_chains mi_Model_chains mv_Model_chains lk_Model_174 k_Model_agreeing_75 ho9 rfl rfl (Nat.le_of_ble_eq_true rfl) rfl (Nat.le_of_ble_eq_true rfl) (c_Model_chains G ho9 ha9 (by omega) hk wv (n := (n - 1 - (i : Int)) / x + 1) (by omega)) (fun v75 h75 q75 => ?_)
                  obtain ⟨rfl, g2, u2⟩ := q75
                  have u3 := u1.tr u2 g1
                  refine v_lmul k_Model_agreeing_78 ?_
                  refine v_lstore_n k_Model_agreeing_79 ⟨Nat.le_of_ble_eq_true rfl, Nat.le_of_ble_eq_true rfl⟩ ?_
                  refine v_iinc k_Model_agreeing_80 rfl (Nat.le_of_ble_eq_true rfl) ?_
                  refine v_goto k_Model_agreeing_83 (tgt := 51) rfl ?_
                  exact ih (i + 1) _ _ (by omega) (by omega) (by omega) u3 ht
          refine V.less (rc := 12 * (min n x).toNat) (rs := 84 * (min n x).toNat) (by omega) (by omega) ?_
          exact loop (min n x).toNat 0 h 1 (by omega) (by omega) (Nat.le_refl _) FrU.rf rfl
        · refine v_ldc2 (x := 4000000000000000000) cn_Model_172 k_Model_agreeing_34 (by decide) ?_
          refine v_aload_n k_Model_agreeing_37 rfl ?_
          refine v_bipush k_Model_agreeing_38 (by decide) ?_
          refine v_callV mo_Model_no mi_Model_no mv_Model_no lk_Model_49 k_Model_agreeing_40 ho rfl rfl (Nat.le_of_ble_eq_true rfl) rfl (Nat.le_of_ble_eq_true rfl) (c_Model_no G hp w (by omega)) (fun v40 h40 q40 => ?_)
          obtain ⟨rfl, p9, f9⟩ := q40
          refine v_i2l k_Model_agreeing_43 (by omega) ?_
          refine v_lsub k_Model_agreeing_44 ?_
          refine v_lreturn k_Model_agreeing_45 rfl ?_
          have e9 : s_agreeing S n x = (4000000000000000000 - (-6), (rfS S (-6)).2) := by unfold s_agreeing; (repeat (first | rw [if_pos (by omega)] | rw [if_neg (by omega)])); first | rfl | (rw [show oS (max n x) 1 12 = -6 by omega]; rfl)
          rw [e9]
          exact ⟨rfl, p9, Nat.le_of_eq f9.1.symm, fun q _ h2 => f9.2 q (by omega)⟩
    · refine v_ldc2 (x := 4000000000000000000) cn_Model_172 k_Model_agreeing_10 (by decide) ?_
      refine v_aload_n k_Model_agreeing_13 rfl ?_
      refine v_bipush k_Model_agreeing_14 (by decide) ?_
      refine v_callV mo_Model_no mi_Model_no mv_Model_no lk_Model_49 k_Model_agreeing_16 ho rfl rfl (Nat.le_of_ble_eq_true rfl) rfl (Nat.le_of_ble_eq_true rfl) (c_Model_no G hp w (by omega)) (fun v16 h16 q16 => ?_)
      obtain ⟨rfl, p9, f9⟩ := q16
      refine v_i2l k_Model_agreeing_19 (by omega) ?_
      refine v_lsub k_Model_agreeing_20 ?_
      refine v_lreturn k_Model_agreeing_21 rfl ?_
      have e9 : s_agreeing S n x = (4000000000000000000 - (-4), (rfS S (-4)).2) := by unfold s_agreeing; (repeat (first | rw [if_pos (by omega)] | rw [if_neg (by omega)])); first | rfl | (rw [show oS (max n x) 1 12 = -6 by omega]; rfl)
      rw [e9]
      exact ⟨rfl, p9, Nat.le_of_eq f9.1.symm, fun q _ h2 => f9.2 q (by omega)⟩
