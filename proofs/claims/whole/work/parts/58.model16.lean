/-! reading the tape: place and whether all was well so far -/
def xPo (X : MX) (p ok : Int) : MX := (X.1, X.2.1, p, ok, X.2.2.2.2)
def peP (xs : List Int) (p ok c : Int) : Int := if ok = 1 ∧ tAt xs p = c then p + 1 else p
def peO (xs : List Int) (p ok c : Int) : Int := if ok = 1 ∧ tAt xs p = c then 1 else 0
theorem tAt_out {xs : List Int} {p : Int} (h : ¬ p < xs.length) : tAt xs p = -1 := by unfold tAt; rw [if_neg (by omega)]
theorem tAt_tl {xs tl : List Int} {p : Int} (h : tl.take xs.length = xs) (hp : 0 ≤ p ∧ p < xs.length) : tl.getD p.toNat 0 = tAt xs p := by
  rw [take_get h (by omega), tAt, if_pos hp, rget, if_pos hp]
set_option maxHeartbeats 4000000 in
set_option maxRecDepth 20000 in
theorem c_Model_expect (G : Gx) {h : AH} {m : Nat} {X : MX} {xs tl : List Int} (ho : h.2 m = some (aO 8 (mO m X))) (ct : h.2 (m + 5) = some (aA 0 tl)) (htl : tl.length = 80) (hxs : tl.take xs.length = xs) (hx80 : xs.length ≤ 80) (hxb : ∀ x ∈ xs, 0 ≤ x ∧ x ≤ 255) (hX1 : X.2.1 = (xs.length : Int)) {p ok : Int} (hXp : X.2.2.1 = p) (hXo : X.2.2.2.1 = ok) (hp : 0 ≤ p ∧ p ≤ 80) (hok : 0 ≤ ok ∧ ok ≤ 1) {c : Int} (hc : 0 ≤ c ∧ c ≤ 65535) : Ct G Y_Model_expect 0 0 0 [aR m, aI c] h (fun v h' => v = none ∧ h'.2 m = some (aO 8 (mO m (xPo X (peP xs p ok c) (peO xs p ok c)))) ∧ Fr m (m + 1) h h') := by
  have hin : InR (tAt xs p) := tAt_in (fun x hx => by have := hxb x hx; exact ⟨by omega, by omega⟩) p
  refine Ct.of_V mo_Model_expect rfl (Nat.le_of_ble_eq_true rfl) rfl ?_
  refine v_aload_n k_Model_expect_0 rfl ?_
  refine v_getf fl_Model_57 ho rfl k_Model_expect_1 ?_
  rw [show X.2.2.2.1 = ok from hXo]
  refine v_ifeq 44 k_Model_expect_4 rfl (by omega) (fun cd4 => ?_) (fun cd4 => ?_)
  · refine v_aload_n k_Model_expect_44 rfl ?_
    refine v_iconst k_Model_expect_45 ?_
    refine v_put fl_Model_57 ho (Nat.le_of_ble_eq_true rfl) (fun r hr => by cases hr; exact Or.inl rfl) rfl rfl k_Model_expect_46 (fun h46 e46 f46 => ?_)
    have e9 := e46
    have f9 := f46
    refine v_return k_Model_expect_49 rfl ?_
    first
      | (exfalso; omega)
      | (have e1 : peP xs p ok c = p + 1 := by unfold peP; rw [if_pos ⟨by omega, by omega⟩]
         have e2 : peO xs p ok c = 1 := by unfold peO; rw [if_pos ⟨by omega, by omega⟩]
         rw [e1, e2]
         exact ⟨rfl, by rw [show mO m (xPo X (p + 1) 1) = mO m (xPo X (p + 1) X.2.2.2.1) by rw [hXo, show ok = 1 by omega]]; exact e9, f9⟩)
      | (have hno : ¬ (ok = 1 ∧ tAt xs p = c) := by
           rintro ⟨q1, q2⟩
           first
             | omega
             | (rw [tAt_out (by omega)] at q2; omega)
         have e1 : peP xs p ok c = p := by unfold peP; rw [if_neg hno]
         have e2 : peO xs p ok c = 0 := by unfold peO; rw [if_neg hno]
         rw [e1, e2]
         exact ⟨rfl, by rw [show mO m (xPo X p 0) = mO m (xPo X X.2.2.1 0) by rw [hXp]]; exact e9, f9⟩)
  · refine v_aload_n k_Model_expect_7 rfl ?_
    refine v_getf fl_Model_60 ho rfl k_Model_expect_8 ?_
    rw [show X.2.2.1 = p from hXp]
    refine v_aload_n k_Model_expect_11 rfl ?_
    refine v_getf fl_Model_53 ho rfl k_Model_expect_12 ?_
    rw [show X.2.1 = (xs.length : Int) from hX1]
    refine v_icge 44 k_Model_expect_15 rfl (by omega) (by omega) (fun cd15 => ?_) (fun cd15 => ?_)
    · refine v_aload_n k_Model_expect_44 rfl ?_
      refine v_iconst k_Model_expect_45 ?_
      refine v_put fl_Model_57 ho (Nat.le_of_ble_eq_true rfl) (fun r hr => by cases hr; exact Or.inl rfl) rfl rfl k_Model_expect_46 (fun h46 e46 f46 => ?_)
      have e9 := e46
      have f9 := f46
      refine v_return k_Model_expect_49 rfl ?_
      first
        | (exfalso; omega)
        | (have e1 : peP xs p ok c = p + 1 := by unfold peP; rw [if_pos ⟨by omega, by omega⟩]
           have e2 : peO xs p ok c = 1 := by unfold peO; rw [if_pos ⟨by omega, by omega⟩]
           rw [e1, e2]
           exact ⟨rfl, by rw [show mO m (xPo X (p + 1) 1) = mO m (xPo X (p + 1) X.2.2.2.1) by rw [hXo, show ok = 1 by omega]]; exact e9, f9⟩)
        | (have hno : ¬ (ok = 1 ∧ tAt xs p = c) := by
             rintro ⟨q1, q2⟩
             first
               | omega
               | (rw [tAt_out (by omega)] at q2; omega)
           have e1 : peP xs p ok c = p := by unfold peP; rw [if_neg hno]
           have e2 : peO xs p ok c = 0 := by unfold peO; rw [if_neg hno]
           rw [e1, e2]
           exact ⟨rfl, by rw [show mO m (xPo X p 0) = mO m (xPo X X.2.2.1 0) by rw [hXp]]; exact e9, f9⟩)
    · refine v_aload_n k_Model_expect_18 rfl ?_
      refine v_getf fl_Model_22 ho rfl k_Model_expect_19 ?_
      refine v_aload_n k_Model_expect_22 rfl ?_
      refine v_getf fl_Model_60 ho rfl k_Model_expect_23 ?_
      rw [show X.2.2.1 = p from hXp]
      refine v_iald ct (by omega) (by omega) k_Model_expect_26 ?_
      rw [tAt_tl hxs (by omega)]
      refine v_iload_n k_Model_expect_27 rfl ?_
      refine v_icne 44 k_Model_expect_28 rfl (by omega) (by omega) (fun cd28 => ?_) (fun cd28 => ?_)
      · refine v_aload_n k_Model_expect_44 rfl ?_
        refine v_iconst k_Model_expect_45 ?_
        refine v_put fl_Model_57 ho (Nat.le_of_ble_eq_true rfl) (fun r hr => by cases hr; exact Or.inl rfl) rfl rfl k_Model_expect_46 (fun h46 e46 f46 => ?_)
        have e9 := e46
        have f9 := f46
        refine v_return k_Model_expect_49 rfl ?_
        first
          | (exfalso; omega)
          | (have e1 : peP xs p ok c = p + 1 := by unfold peP; rw [if_pos ⟨by omega, by omega⟩]
             have e2 : peO xs p ok c = 1 := by unfold peO; rw [if_pos ⟨by omega, by omega⟩]
             rw [e1, e2]
             exact ⟨rfl, by rw [show mO m (xPo X (p + 1) 1) = mO m (xPo X (p + 1) X.2.2.2.1) by rw [hXo, show ok = 1 by omega]]; exact e9, f9⟩)
          | (have hno : ¬ (ok = 1 ∧ tAt xs p = c) := by
               rintro ⟨q1, q2⟩
               first
                 | omega
                 | (rw [tAt_out (by omega)] at q2; omega)
             have e1 : peP xs p ok c = p := by unfold peP; rw [if_neg hno]
             have e2 : peO xs p ok c = 0 := by unfold peO; rw [if_neg hno]
             rw [e1, e2]
             exact ⟨rfl, by rw [show mO m (xPo X p 0) = mO m (xPo X X.2.2.1 0) by rw [hXp]]; exact e9, f9⟩)
      · refine v_aload_n k_Model_expect_31 rfl ?_
        refine v_dup k_Model_expect_32 rfl ?_
        refine v_getf fl_Model_60 ho rfl k_Model_expect_33 ?_
        rw [show X.2.2.1 = p from hXp]
        refine v_iconst k_Model_expect_36 ?_
        refine v_iadd k_Model_expect_37 ?_
        refine v_put fl_Model_60 ho (Nat.le_of_ble_eq_true rfl) (fun r hr => by cases hr; exact Or.inl rfl) rfl rfl k_Model_expect_38 (fun h38 e38 f38 => ?_)
        have e9 := e38
        have f9 := f38
        refine v_goto k_Model_expect_41 (tgt := 49) rfl ?_
        refine v_return k_Model_expect_49 rfl ?_
        first
          | (exfalso; omega)
          | (have e1 : peP xs p ok c = p + 1 := by unfold peP; rw [if_pos ⟨by omega, by omega⟩]
             have e2 : peO xs p ok c = 1 := by unfold peO; rw [if_pos ⟨by omega, by omega⟩]
             rw [e1, e2]
             exact ⟨rfl, by rw [show mO m (xPo X (p + 1) 1) = mO m (xPo X (p + 1) X.2.2.2.1) by rw [hXo, show ok = 1 by omega]]; exact e9, f9⟩)
          | (have hno : ¬ (ok = 1 ∧ tAt xs p = c) := by
               rintro ⟨q1, q2⟩
               first
                 | omega
                 | (rw [tAt_out (by omega)] at q2; omega)
             have e1 : peP xs p ok c = p := by unfold peP; rw [if_neg hno]
             have e2 : peO xs p ok c = 0 := by unfold peO; rw [if_neg hno]
             rw [e1, e2]
             exact ⟨rfl, by rw [show mO m (xPo X p 0) = mO m (xPo X X.2.2.1 0) by rw [hXp]]; exact e9, f9⟩)
