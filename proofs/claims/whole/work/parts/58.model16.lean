/-! reading the tape: place and whether all was well so far -/
def xPo (X : MX) (p ok : Int) : MX := (X.1, X.2.1, p, ok, X.2.2.2.2)
def peP (xs : List Int) (p ok c : Int) : Int := if ok = 1 ∧ tAt xs p = c then p + 1 else p
def peO (xs : List Int) (p ok c : Int) : Int := if ok = 1 ∧ tAt xs p = c then 1 else 0
theorem tAt_out {xs : List Int} {p : Int} (h : ¬ p < xs.length) : tAt xs p = -1 := by unfold tAt; rw [if_neg (by omega)]
theorem tAt_tl {xs tl : List Int} {p : Int} (h : tl.take xs.length = xs) (hp : 0 ≤ p ∧ p < xs.length) : tl.getD p.toNat 0 = tAt xs p := by
  rw [take_get h (by omega), tAt, if_pos hp, rget, if_pos hp]
def ixF (a : Int) : List Int → Int → Int
  | [], _ => -1
  | c :: t, i => if a = c then i else ixF a t (i + 1)
theorem ixF_bd (a : Int) : ∀ (l : List Int) (i : Int), 0 ≤ i → ixF a l i = -1 ∨ (i ≤ ixF a l i ∧ ixF a l i < i + l.length)
  | [], i, _ => Or.inl rfl
  | c :: t, i, h => by
    have := ixF_bd a t (i + 1) (by omega)
    unfold ixF
    rw [List.length_cons]
    split <;> omega
set_option maxHeartbeats 4000000 in
set_option maxRecDepth 20000 in
theorem c_Model_expect (G : Gx) {h : AH} {m : Nat} {X : MX} {xs tl : List Int} (ho : h.2 m = some (aO 8 (mO m X))) (ct : h.2 (m + 5) = some (aA 0 tl)) (htl : tl.length = 80) (hxs : tl.take xs.length = xs) (hx80 : xs.length ≤ 80) (hxb : ∀ x ∈ xs, 0 ≤ x ∧ x ≤ 255) (hX1 : X.2.1 = (xs.length : Int)) {p ok : Int} (hXp : X.2.2.1 = p) (hXo : X.2.2.2.1 = ok) (hp : 0 ≤ p ∧ p ≤ 80) (hok : 0 ≤ ok ∧ ok ≤ 1) {c : Int} (hc : 0 ≤ c ∧ c ≤ 65535) : Ct G Y_Model_expect 0 0 0 [aR m, aI c] h (fun v h' => v = none ∧ h'.2 m = some (aO 8 (mO m (xPo X (peP xs p ok c) (peO xs p ok c)))) ∧ Fr m (m + 1) h h') := by
  have hin : InR (tAt xs p) := tAt_in (fun x hx => by have := hxb x hx; exact ⟨by omega, by omega⟩) p
  refine Ct.of_V mo_Model_expect rfl (Nat.le_of_ble_eq_true rfl) rfl ?_
  refine v_aload_n k_Model_expect_0 rfl ?_
  refine v_getf fl_Model_57 ho rfl k_Model_expect_1 ?_
  rw [show X.2.2.2.1 = ok from hXo]
  refine v_ifeq 44 k_Model_expect_4 rfl (by omega) (fun cd4 => ?_) (fun cd4 => ?_)
  · refine v_aload_n k_Model_expect_44 rfl ?_
    refine v_iconst k_Model_expect_45 ?_
    refine v_put fl_Model_57 ho (Nat.le_of_ble_eq_true rfl) (fun r hr => by cases hr; exact Or.inl rfl) rfl rfl k_Model_expect_46 (fun h46 e46 f46 => ?_)
    have e9 := e46
    have f9 := f46
    refine v_return k_Model_expect_49 rfl ?_
    first
      | (exfalso; omega)
      | (have e1 : peP xs p ok c = p + 1 := by unfold peP; rw [if_pos ⟨by omega, by omega⟩]
         have e2 : peO xs p ok c = 1 := by unfold peO; rw [if_pos ⟨by omega, by omega⟩]
         rw [e1, e2]
         exact ⟨rfl, by rw [show mO m (xPo X (p + 1) 1) = mO m (xPo X (p + 1) X.2.2.2.1) by rw [hXo, show ok = 1 by omega]]; exact e9, f9⟩)
      | (have hno : ¬ (ok = 1 ∧ tAt xs p = c) := by
           rintro ⟨q1, q2⟩
           first
             | omega
             | (rw [tAt_out (by omega)] at q2; omega)
         have e1 : peP xs p ok c = p := by unfold peP; rw [if_neg hno]
         have e2 : peO xs p ok c = 0 := by unfold peO; rw [if_neg hno]
         rw [e1, e2]
         exact ⟨rfl, by rw [show mO m (xPo X p 0) = mO m (xPo X X.2.2.1 0) by rw [hXp]]; exact e9, f9⟩)
  · refine v_aload_n k_Model_expect_7 rfl ?_
    refine v_getf fl_Model_60 ho rfl k_Model_expect_8 ?_
    rw [show X.2.2.1 = p from hXp]
    refine v_aload_n k_Model_expect_11 rfl ?_
    refine v_getf fl_Model_53 ho rfl k_Model_expect_12 ?_
    rw [show X.2.1 = (xs.length : Int) from hX1]
    refine v_icge 44 k_Model_expect_15 rfl (by omega) (by omega) (fun cd15 => ?_) (fun cd15 => ?_)
    · refine v_aload_n k_Model_expect_44 rfl ?_
      refine v_iconst k_Model_expect_45 ?_
      refine v_put fl_Model_57 ho (Nat.le_of_ble_eq_true rfl) (fun r hr => by cases hr; exact Or.inl rfl) rfl rfl k_Model_expect_46 (fun h46 e46 f46 => ?_)
      have e9 := e46
      have f9 := f46
      refine v_return k_Model_expect_49 rfl ?_
      first
        | (exfalso; omega)
        | (have e1 : peP xs p ok c = p + 1 := by unfold peP; rw [if_pos ⟨by omega, by omega⟩]
           have e2 : peO xs p ok c = 1 := by unfold peO; rw [if_pos ⟨by omega, by omega⟩]
           rw [e1, e2]
           exact ⟨rfl, by rw [show mO m (xPo X (p + 1) 1) = mO m (xPo X (p + 1) X.2.2.2.1) by rw [hXo, show ok = 1 by omega]]; exact e9, f9⟩)
        | (have hno : ¬ (ok = 1 ∧ tAt xs p = c) := by
             rintro ⟨q1, q2⟩
             first
               | omega
               | (rw [tAt_out (by omega)] at q2; omega)
           have e1 : peP xs p ok c = p := by unfold peP; rw [if_neg hno]
           have e2 : peO xs p ok c = 0 := by unfold peO; rw [if_neg hno]
           rw [e1, e2]
           exact ⟨rfl, by rw [show mO m (xPo X p 0) = mO m (xPo X X.2.2.1 0) by rw [hXp]]; exact e9, f9⟩)
    · refine v_aload_n k_Model_expect_18 rfl ?_
      refine v_getf fl_Model_22 ho rfl k_Model_expect_19 ?_
      refine v_aload_n k_Model_expect_22 rfl ?_
      refine v_getf fl_Model_60 ho rfl k_Model_expect_23 ?_
      rw [show X.2.2.1 = p from hXp]
      refine v_iald ct (by omega) (by omega) k_Model_expect_26 ?_
      rw [tAt_tl hxs (by omega)]
      refine v_iload_n k_Model_expect_27 rfl ?_
      refine v_icne 44 k_Model_expect_28 rfl (by omega) (by omega) (fun cd28 => ?_) (fun cd28 => ?_)
      · refine v_aload_n k_Model_expect_44 rfl ?_
        refine v_iconst k_Model_expect_45 ?_
        refine v_put fl_Model_57 ho (Nat.le_of_ble_eq_true rfl) (fun r hr => by cases hr; exact Or.inl rfl) rfl rfl k_Model_expect_46 (fun h46 e46 f46 => ?_)
        have e9 := e46
        have f9 := f46
        refine v_return k_Model_expect_49 rfl ?_
        first
          | (exfalso; omega)
          | (have e1 : peP xs p ok c = p + 1 := by unfold peP; rw [if_pos ⟨by omega, by omega⟩]
             have e2 : peO xs p ok c = 1 := by unfold peO; rw [if_pos ⟨by omega, by omega⟩]
             rw [e1, e2]
             exact ⟨rfl, by rw [show mO m (xPo X (p + 1) 1) = mO m (xPo X (p + 1) X.2.2.2.1) by rw [hXo, show ok = 1 by omega]]; exact e9, f9⟩)
          | (have hno : ¬ (ok = 1 ∧ tAt xs p = c) := by
               rintro ⟨q1, q2⟩
               first
                 | omega
                 | (rw [tAt_out (by omega)] at q2; omega)
             have e1 : peP xs p ok c = p := by unfold peP; rw [if_neg hno]
             have e2 : peO xs p ok c = 0 := by unfold peO; rw [if_neg hno]
             rw [e1, e2]
             exact ⟨rfl, by rw [show mO m (xPo X p 0) = mO m (xPo X X.2.2.1 0) by rw [hXp]]; exact e9, f9⟩)
      · refine v_aload_n k_Model_expect_31 rfl ?_
        refine v_dup k_Model_expect_32 rfl ?_
        refine v_getf fl_Model_60 ho rfl k_Model_expect_33 ?_
        rw [show X.2.2.1 = p from hXp]
        refine v_iconst k_Model_expect_36 ?_
        refine v_iadd k_Model_expect_37 ?_
        refine v_put fl_Model_60 ho (Nat.le_of_ble_eq_true rfl) (fun r hr => by cases hr; exact Or.inl rfl) rfl rfl k_Model_expect_38 (fun h38 e38 f38 => ?_)
        have e9 := e38
        have f9 := f38
        refine v_goto k_Model_expect_41 (tgt := 49) rfl ?_
        refine v_return k_Model_expect_49 rfl ?_
        first
          | (exfalso; omega)
          | (have e1 : peP xs p ok c = p + 1 := by unfold peP; rw [if_pos ⟨by omega, by omega⟩]
             have e2 : peO xs p ok c = 1 := by unfold peO; rw [if_pos ⟨by omega, by omega⟩]
             rw [e1, e2]
             exact ⟨rfl, by rw [show mO m (xPo X (p + 1) 1) = mO m (xPo X (p + 1) X.2.2.2.1) by rw [hXo, show ok = 1 by omega]]; exact e9, f9⟩)
          | (have hno : ¬ (ok = 1 ∧ tAt xs p = c) := by
               rintro ⟨q1, q2⟩
               first
                 | omega
                 | (rw [tAt_out (by omega)] at q2; omega)
             have e1 : peP xs p ok c = p := by unfold peP; rw [if_neg hno]
             have e2 : peO xs p ok c = 0 := by unfold peO; rw [if_neg hno]
             rw [e1, e2]
             exact ⟨rfl, by rw [show mO m (xPo X p 0) = mO m (xPo X X.2.2.1 0) by rw [hXp]]; exact e9, f9⟩)

set_option maxHeartbeats 4000000 in
set_option maxRecDepth 20000 in
theorem c_Model_figures1 (G : Gx) {h : AH} {m : Nat} {X : MX} {xs tl : List Int} (ho : h.2 m = some (aO 8 (mO m X))) (ct : h.2 (m + 5) = some (aA 0 tl)) (htl : tl.length = 80) (hxs : tl.take xs.length = xs) (hx80 : xs.length ≤ 80) (hxb : ∀ x ∈ xs, 0 ≤ x ∧ x ≤ 255) (hX1 : X.2.1 = (xs.length : Int)) {p ok : Int} (hXp : X.2.2.1 = p) (hXo : X.2.2.2.1 = ok) (hp : 0 ≤ p ∧ p ≤ 80) (hok : 0 ≤ ok ∧ ok ≤ 1) : Ct G Y_Model_figures 0 0 0 [aR m, aI 1] h (fun v h' => (if ok = 1 ∧ 48 ≤ tAt xs p ∧ tAt xs p ≤ 57 then v = some (aI (tAt xs p - 48)) ∧ h'.2 m = some (aO 8 (mO m (xPo X (p + 1) 1))) else v = some (aI 0) ∧ h'.2 m = some (aO 8 (mO m (xPo X p 0)))) ∧ Fr m (m + 1) h h') := by
  have hin : InR (tAt xs p) := tAt_in (fun x hx => by have := hxb x hx; exact ⟨by omega, by omega⟩) p
  refine Ct.of_V mo_Model_figures rfl (Nat.le_of_ble_eq_true rfl) rfl ?_
  refine v_iconst k_Model_figures_0 ?_
  refine v_istore_n k_Model_figures_1 ⟨Nat.le_of_ble_eq_true rfl, Nat.le_of_ble_eq_true rfl⟩ ?_
  refine v_iconst k_Model_figures_2 ?_
  refine v_istore_n k_Model_figures_3 ⟨Nat.le_of_ble_eq_true rfl, Nat.le_of_ble_eq_true rfl⟩ ?_
  refine v_aload_n k_Model_figures_4 rfl ?_
  refine v_getf fl_Model_57 ho rfl k_Model_figures_5 ?_
  rw [show X.2.2.2.1 = ok from hXo]
  refine v_ifeq 89 k_Model_figures_8 rfl (by omega) (fun cd8 => ?_) (fun cd8 => ?_)
  · refine v_iload_n k_Model_figures_89 rfl ?_
    refine v_ifne 98 k_Model_figures_90 rfl (by omega) (fun cd90 => ?_) (fun cd90 => ?_)
    · refine v_iload_n k_Model_figures_98 rfl ?_
      refine v_ireturn k_Model_figures_99 rfl rfl ?_
      first
        | (exfalso; omega)
        | (rw [if_neg (by rintro ⟨q1, q2, q3⟩; first | omega | (rw [tAt_out (by omega)] at q2; omega))]
           exact ⟨⟨rfl, by rw [show mO m (xPo X p 0) = mO m (xPo X X.2.2.1 0) by rw [hXp]]; exact e9⟩, f9⟩)
    · refine v_aload_n k_Model_figures_93 rfl ?_
      refine v_iconst k_Model_figures_94 ?_
      refine v_put fl_Model_57 ho (Nat.le_of_ble_eq_true rfl) (fun r hr => by cases hr; exact Or.inl rfl) rfl rfl k_Model_figures_95 (fun h95 e95 f95 => ?_)
      have e9 := e95
      have f9 := f95
      refine v_iload_n k_Model_figures_98 rfl ?_
      refine v_ireturn k_Model_figures_99 rfl rfl ?_
      first
        | (exfalso; omega)
        | (rw [if_neg (by rintro ⟨q1, q2, q3⟩; first | omega | (rw [tAt_out (by omega)] at q2; omega))]
           exact ⟨⟨rfl, by rw [show mO m (xPo X p 0) = mO m (xPo X X.2.2.1 0) by rw [hXp]]; exact e9⟩, f9⟩)
  · refine v_iload_n k_Model_figures_11 rfl ?_
    refine v_iload_n k_Model_figures_12 rfl ?_
    refine v_icge 89 k_Model_figures_13 rfl (by omega) (by omega) (fun cd13 => ?_) (fun cd13 => ?_)
    · refine v_iload_n k_Model_figures_89 rfl ?_
      refine v_ifne 98 k_Model_figures_90 rfl (by omega) (fun cd90 => ?_) (fun cd90 => ?_)
      · refine v_iload_n k_Model_figures_98 rfl ?_
        refine v_ireturn k_Model_figures_99 rfl rfl ?_
        first
          | (exfalso; omega)
          | (rw [if_neg (by rintro ⟨q1, q2, q3⟩; first | omega | (rw [tAt_out (by omega)] at q2; omega))]
             exact ⟨⟨rfl, by rw [show mO m (xPo X p 0) = mO m (xPo X X.2.2.1 0) by rw [hXp]]; exact e9⟩, f9⟩)
      · refine v_aload_n k_Model_figures_93 rfl ?_
        refine v_iconst k_Model_figures_94 ?_
        refine v_put fl_Model_57 ho (Nat.le_of_ble_eq_true rfl) (fun r hr => by cases hr; exact Or.inl rfl) rfl rfl k_Model_figures_95 (fun h95 e95 f95 => ?_)
        have e9 := e95
        have f9 := f95
        refine v_iload_n k_Model_figures_98 rfl ?_
        refine v_ireturn k_Model_figures_99 rfl rfl ?_
        first
          | (exfalso; omega)
          | (rw [if_neg (by rintro ⟨q1, q2, q3⟩; first | omega | (rw [tAt_out (by omega)] at q2; omega))]
             exact ⟨⟨rfl, by rw [show mO m (xPo X p 0) = mO m (xPo X X.2.2.1 0) by rw [hXp]]; exact e9⟩, f9⟩)
    · refine v_aload_n k_Model_figures_16 rfl ?_
      refine v_getf fl_Model_60 ho rfl k_Model_figures_17 ?_
      rw [show X.2.2.1 = p from hXp]
      refine v_aload_n k_Model_figures_20 rfl ?_
      refine v_getf fl_Model_53 ho rfl k_Model_figures_21 ?_
      rw [show X.2.1 = (xs.length : Int) from hX1]
      refine v_icge 89 k_Model_figures_24 rfl (by omega) (by omega) (fun cd24 => ?_) (fun cd24 => ?_)
      · refine v_iload_n k_Model_figures_89 rfl ?_
        refine v_ifne 98 k_Model_figures_90 rfl (by omega) (fun cd90 => ?_) (fun cd90 => ?_)
        · refine v_iload_n k_Model_figures_98 rfl ?_
          refine v_ireturn k_Model_figures_99 rfl rfl ?_
          first
            | (exfalso; omega)
            | (rw [if_neg (by rintro ⟨q1, q2, q3⟩; first | omega | (rw [tAt_out (by omega)] at q2; omega))]
               exact ⟨⟨rfl, by rw [show mO m (xPo X p 0) = mO m (xPo X X.2.2.1 0) by rw [hXp]]; exact e9⟩, f9⟩)
        · refine v_aload_n k_Model_figures_93 rfl ?_
          refine v_iconst k_Model_figures_94 ?_
          refine v_put fl_Model_57 ho (Nat.le_of_ble_eq_true rfl) (fun r hr => by cases hr; exact Or.inl rfl) rfl rfl k_Model_figures_95 (fun h95 e95 f95 => ?_)
          have e9 := e95
          have f9 := f95
          refine v_iload_n k_Model_figures_98 rfl ?_
          refine v_ireturn k_Model_figures_99 rfl rfl ?_
          first
            | (exfalso; omega)
            | (rw [if_neg (by rintro ⟨q1, q2, q3⟩; first | omega | (rw [tAt_out (by omega)] at q2; omega))]
               exact ⟨⟨rfl, by rw [show mO m (xPo X p 0) = mO m (xPo X X.2.2.1 0) by rw [hXp]]; exact e9⟩, f9⟩)
      · refine v_aload_n k_Model_figures_27 rfl ?_
        refine v_getf fl_Model_22 ho rfl k_Model_figures_28 ?_
        refine v_aload_n k_Model_figures_31 rfl ?_
        refine v_getf fl_Model_60 ho rfl k_Model_figures_32 ?_
        rw [show X.2.2.1 = p from hXp]
        refine v_iald ct (by omega) (by omega) k_Model_figures_35 ?_
        rw [tAt_tl hxs (by omega)]
        refine v_bipush k_Model_figures_36 (by decide) ?_
        refine v_iclt 89 k_Model_figures_38 rfl (by omega) (by omega) (fun cd38 => ?_) (fun cd38 => ?_)
        · refine v_iload_n k_Model_figures_89 rfl ?_
          refine v_ifne 98 k_Model_figures_90 rfl (by omega) (fun cd90 => ?_) (fun cd90 => ?_)
          · refine v_iload_n k_Model_figures_98 rfl ?_
            refine v_ireturn k_Model_figures_99 rfl rfl ?_
            first
              | (exfalso; omega)
              | (rw [if_neg (by rintro ⟨q1, q2, q3⟩; first | omega | (rw [tAt_out (by omega)] at q2; omega))]
                 exact ⟨⟨rfl, by rw [show mO m (xPo X p 0) = mO m (xPo X X.2.2.1 0) by rw [hXp]]; exact e9⟩, f9⟩)
          · refine v_aload_n k_Model_figures_93 rfl ?_
            refine v_iconst k_Model_figures_94 ?_
            refine v_put fl_Model_57 ho (Nat.le_of_ble_eq_true rfl) (fun r hr => by cases hr; exact Or.inl rfl) rfl rfl k_Model_figures_95 (fun h95 e95 f95 => ?_)
            have e9 := e95
            have f9 := f95
            refine v_iload_n k_Model_figures_98 rfl ?_
            refine v_ireturn k_Model_figures_99 rfl rfl ?_
            first
              | (exfalso; omega)
              | (rw [if_neg (by rintro ⟨q1, q2, q3⟩; first | omega | (rw [tAt_out (by omega)] at q2; omega))]
                 exact ⟨⟨rfl, by rw [show mO m (xPo X p 0) = mO m (xPo X X.2.2.1 0) by rw [hXp]]; exact e9⟩, f9⟩)
        · refine v_aload_n k_Model_figures_41 rfl ?_
          refine v_getf fl_Model_22 ho rfl k_Model_figures_42 ?_
          refine v_aload_n k_Model_figures_45 rfl ?_
          refine v_getf fl_Model_60 ho rfl k_Model_figures_46 ?_
          rw [show X.2.2.1 = p from hXp]
          refine v_iald ct (by omega) (by omega) k_Model_figures_49 ?_
          rw [tAt_tl hxs (by omega)]
          refine v_bipush k_Model_figures_50 (by decide) ?_
          refine v_icgt 89 k_Model_figures_52 rfl (by omega) (by omega) (fun cd52 => ?_) (fun cd52 => ?_)
          · refine v_iload_n k_Model_figures_89 rfl ?_
            refine v_ifne 98 k_Model_figures_90 rfl (by omega) (fun cd90 => ?_) (fun cd90 => ?_)
            · refine v_iload_n k_Model_figures_98 rfl ?_
              refine v_ireturn k_Model_figures_99 rfl rfl ?_
              first
                | (exfalso; omega)
                | (rw [if_neg (by rintro ⟨q1, q2, q3⟩; first | omega | (rw [tAt_out (by omega)] at q2; omega))]
                   exact ⟨⟨rfl, by rw [show mO m (xPo X p 0) = mO m (xPo X X.2.2.1 0) by rw [hXp]]; exact e9⟩, f9⟩)
            · refine v_aload_n k_Model_figures_93 rfl ?_
              refine v_iconst k_Model_figures_94 ?_
              refine v_put fl_Model_57 ho (Nat.le_of_ble_eq_true rfl) (fun r hr => by cases hr; exact Or.inl rfl) rfl rfl k_Model_figures_95 (fun h95 e95 f95 => ?_)
              have e9 := e95
              have f9 := f95
              refine v_iload_n k_Model_figures_98 rfl ?_
              refine v_ireturn k_Model_figures_99 rfl rfl ?_
              first
                | (exfalso; omega)
                | (rw [if_neg (by rintro ⟨q1, q2, q3⟩; first | omega | (rw [tAt_out (by omega)] at q2; omega))]
                   exact ⟨⟨rfl, by rw [show mO m (xPo X p 0) = mO m (xPo X X.2.2.1 0) by rw [hXp]]; exact e9⟩, f9⟩)
          · refine v_bipush k_Model_figures_55 (by decide) ?_
            refine v_iload_n k_Model_figures_57 rfl ?_
            refine v_imul k_Model_figures_58 ?_
            refine v_aload_n k_Model_figures_59 rfl ?_
            refine v_getf fl_Model_22 ho rfl k_Model_figures_60 ?_
            refine v_aload_n k_Model_figures_63 rfl ?_
            refine v_getf fl_Model_60 ho rfl k_Model_figures_64 ?_
            rw [show X.2.2.1 = p from hXp]
            refine v_iald ct (by omega) (by omega) k_Model_figures_67 ?_
            rw [tAt_tl hxs (by omega)]
            refine v_iadd k_Model_figures_68 ?_
            refine v_bipush k_Model_figures_69 (by decide) ?_
            refine v_isub k_Model_figures_71 ?_
            refine v_istore_n k_Model_figures_72 ⟨Nat.le_of_ble_eq_true rfl, Nat.le_of_ble_eq_true rfl⟩ ?_
            refine v_aload_n k_Model_figures_73 rfl ?_
            refine v_dup k_Model_figures_74 rfl ?_
            refine v_getf fl_Model_60 ho rfl k_Model_figures_75 ?_
            rw [show X.2.2.1 = p from hXp]
            refine v_iconst k_Model_figures_78 ?_
            refine v_iadd k_Model_figures_79 ?_
            refine v_put fl_Model_60 ho (Nat.le_of_ble_eq_true rfl) (fun r hr => by cases hr; exact Or.inl rfl) rfl rfl k_Model_figures_80 (fun h80 e80 f80 => ?_)
            have e9 := e80
            have f9 := f80
            have ho := e9
            refine v_iinc k_Model_figures_83 rfl (Nat.le_of_ble_eq_true rfl) ?_
            refine v_goto k_Model_figures_86 (tgt := 4) rfl ?_
            refine v_aload_n k_Model_figures_4 rfl ?_
            refine v_getf fl_Model_57 ho rfl k_Model_figures_5 ?_
            rw [show X.2.2.2.1 = ok from hXo]
            refine v_ifeq 89 k_Model_figures_8 rfl (by omega) (fun ce8 => ?_) (fun ce8 => ?_)
            · refine v_iload_n k_Model_figures_89 rfl ?_
              refine v_ifne 98 k_Model_figures_90 rfl (by omega) (fun ce90 => ?_) (fun ce90 => ?_)
              · refine v_iload_n k_Model_figures_98 rfl ?_
                refine v_ireturn k_Model_figures_99 rfl rfl ?_
                first
                  | (exfalso; omega)
                  | (rw [if_pos ⟨by omega, by omega, by omega⟩]
                     exact ⟨⟨by congr 2; omega, by rw [show mO m (xPo X (p + 1) 1) = mO m (xPo X (p + 1) X.2.2.2.1) by rw [hXo, show ok = 1 by omega]]; exact e9⟩, f9⟩)
              · refine v_aload_n k_Model_figures_93 rfl ?_
                refine v_iconst k_Model_figures_94 ?_
                refine v_put fl_Model_57 ho (Nat.le_of_ble_eq_true rfl) (fun r hr => by cases hr; exact Or.inl rfl) rfl rfl k_Model_figures_95 (fun h95 e95 f95 => ?_)
                have e9 := e95
                have f9 := f95
                refine v_iload_n k_Model_figures_98 rfl ?_
                refine v_ireturn k_Model_figures_99 rfl rfl ?_
                first
                  | (exfalso; omega)
                  | (rw [if_pos ⟨by omega, by omega, by omega⟩]
                     exact ⟨⟨by congr 2; omega, by rw [show mO m (xPo X (p + 1) 1) = mO m (xPo X (p + 1) X.2.2.2.1) by rw [hXo, show ok = 1 by omega]]; exact e9⟩, f9⟩)
            · refine v_iload_n k_Model_figures_11 rfl ?_
              refine v_iload_n k_Model_figures_12 rfl ?_
              refine v_icge 89 k_Model_figures_13 rfl (by omega) (by omega) (fun ce13 => ?_) (fun ce13 => ?_)
              · refine v_iload_n k_Model_figures_89 rfl ?_
                refine v_ifne 98 k_Model_figures_90 rfl (by omega) (fun ce90 => ?_) (fun ce90 => ?_)
                · refine v_iload_n k_Model_figures_98 rfl ?_
                  refine v_ireturn k_Model_figures_99 rfl rfl ?_
                  first
                    | (exfalso; omega)
                    | (rw [if_pos ⟨by omega, by omega, by omega⟩]
                       exact ⟨⟨by congr 2; omega, by rw [show mO m (xPo X (p + 1) 1) = mO m (xPo X (p + 1) X.2.2.2.1) by rw [hXo, show ok = 1 by omega]]; exact e9⟩, f9⟩)
                · refine v_aload_n k_Model_figures_93 rfl ?_
                  refine v_iconst k_Model_figures_94 ?_
                  refine v_put fl_Model_57 ho (Nat.le_of_ble_eq_true rfl) (fun r hr => by cases hr; exact Or.inl rfl) rfl rfl k_Model_figures_95 (fun h95 e95 f95 => ?_)
                  have e9 := e95
                  have f9 := f95
                  refine v_iload_n k_Model_figures_98 rfl ?_
                  refine v_ireturn k_Model_figures_99 rfl rfl ?_
                  first
                    | (exfalso; omega)
                    | (rw [if_pos ⟨by omega, by omega, by omega⟩]
                       exact ⟨⟨by congr 2; omega, by rw [show mO m (xPo X (p + 1) 1) = mO m (xPo X (p + 1) X.2.2.2.1) by rw [hXo, show ok = 1 by omega]]; exact e9⟩, f9⟩)
              · exfalso; omega

set_option maxHeartbeats 4000000 in
set_option maxRecDepth 20000 in
theorem c_Model_figures2 (G : Gx) {h : AH} {m : Nat} {X : MX} {xs tl : List Int} (ho : h.2 m = some (aO 8 (mO m X))) (ct : h.2 (m + 5) = some (aA 0 tl)) (htl : tl.length = 80) (hxs : tl.take xs.length = xs) (hx80 : xs.length ≤ 80) (hxb : ∀ x ∈ xs, 0 ≤ x ∧ x ≤ 255) (hX1 : X.2.1 = (xs.length : Int)) {p ok : Int} (hXp : X.2.2.1 = p) (hXo : X.2.2.2.1 = ok) (hp : 0 ≤ p ∧ p ≤ 80) (hok : 0 ≤ ok ∧ ok ≤ 1) : Ct G Y_Model_figures 0 0 0 [aR m, aI 2] h (fun v h' => (if ok = 1 ∧ 48 ≤ tAt xs p ∧ tAt xs p ≤ 57 then (if 48 ≤ tAt xs (p + 1) ∧ tAt xs (p + 1) ≤ 57 then v = some (aI (10 * (tAt xs p - 48) + (tAt xs (p + 1) - 48))) ∧ h'.2 m = some (aO 8 (mO m (xPo X (p + 2) 1))) else v = some (aI (tAt xs p - 48)) ∧ h'.2 m = some (aO 8 (mO m (xPo X (p + 1) 1)))) else v = some (aI 0) ∧ h'.2 m = some (aO 8 (mO m (xPo X p 0)))) ∧ Fr m (m + 1) h h') := by
  have hin : InR (tAt xs p) := tAt_in (fun x hx => by have := hxb x hx; exact ⟨by omega, by omega⟩) p
  have hin1 : InR (tAt xs (p + 1)) := tAt_in (fun x hx => by have := hxb x hx; exact ⟨by omega, by omega⟩) (p + 1)
  refine Ct.of_V mo_Model_figures rfl (Nat.le_of_ble_eq_true rfl) rfl ?_
  refine v_iconst k_Model_figures_0 ?_
  refine v_istore_n k_Model_figures_1 ⟨Nat.le_of_ble_eq_true rfl, Nat.le_of_ble_eq_true rfl⟩ ?_
  refine v_iconst k_Model_figures_2 ?_
  refine v_istore_n k_Model_figures_3 ⟨Nat.le_of_ble_eq_true rfl, Nat.le_of_ble_eq_true rfl⟩ ?_
  refine v_aload_n k_Model_figures_4 rfl ?_
  refine v_getf fl_Model_57 ho rfl k_Model_figures_5 ?_
  rw [show X.2.2.2.1 = ok from hXo]
  refine v_ifeq 89 k_Model_figures_8 rfl (by omega) (fun cd8 => ?_) (fun cd8 => ?_)
  · refine v_iload_n k_Model_figures_89 rfl ?_
    refine v_ifne 98 k_Model_figures_90 rfl (by omega) (fun cd90 => ?_) (fun cd90 => ?_)
    · refine v_iload_n k_Model_figures_98 rfl ?_
      refine v_ireturn k_Model_figures_99 rfl rfl ?_
      first
        | (exfalso; omega)
        | (rw [if_neg (by rintro ⟨q1, q2, q3⟩; first | omega | (rw [tAt_out (by omega)] at q2; omega))]
           exact ⟨⟨rfl, by rw [show mO m (xPo X p 0) = mO m (xPo X X.2.2.1 0) by rw [hXp]]; exact e9⟩, f9⟩)
    · refine v_aload_n k_Model_figures_93 rfl ?_
      refine v_iconst k_Model_figures_94 ?_
      refine v_put fl_Model_57 ho (Nat.le_of_ble_eq_true rfl) (fun r hr => by cases hr; exact Or.inl rfl) rfl rfl k_Model_figures_95 (fun h95 e95 f95 => ?_)
      have e9 := e95
      have f9 := f95
      refine v_iload_n k_Model_figures_98 rfl ?_
      refine v_ireturn k_Model_figures_99 rfl rfl ?_
      first
        | (exfalso; omega)
        | (rw [if_neg (by rintro ⟨q1, q2, q3⟩; first | omega | (rw [tAt_out (by omega)] at q2; omega))]
           exact ⟨⟨rfl, by rw [show mO m (xPo X p 0) = mO m (xPo X X.2.2.1 0) by rw [hXp]]; exact e9⟩, f9⟩)
  · refine v_iload_n k_Model_figures_11 rfl ?_
    refine v_iload_n k_Model_figures_12 rfl ?_
    refine v_icge 89 k_Model_figures_13 rfl (by omega) (by omega) (fun cd13 => ?_) (fun cd13 => ?_)
    · refine v_iload_n k_Model_figures_89 rfl ?_
      refine v_ifne 98 k_Model_figures_90 rfl (by omega) (fun cd90 => ?_) (fun cd90 => ?_)
      · refine v_iload_n k_Model_figures_98 rfl ?_
        refine v_ireturn k_Model_figures_99 rfl rfl ?_
        first
          | (exfalso; omega)
          | (rw [if_neg (by rintro ⟨q1, q2, q3⟩; first | omega | (rw [tAt_out (by omega)] at q2; omega))]
             exact ⟨⟨rfl, by rw [show mO m (xPo X p 0) = mO m (xPo X X.2.2.1 0) by rw [hXp]]; exact e9⟩, f9⟩)
      · refine v_aload_n k_Model_figures_93 rfl ?_
        refine v_iconst k_Model_figures_94 ?_
        refine v_put fl_Model_57 ho (Nat.le_of_ble_eq_true rfl) (fun r hr => by cases hr; exact Or.inl rfl) rfl rfl k_Model_figures_95 (fun h95 e95 f95 => ?_)
        have e9 := e95
        have f9 := f95
        refine v_iload_n k_Model_figures_98 rfl ?_
        refine v_ireturn k_Model_figures_99 rfl rfl ?_
        first
          | (exfalso; omega)
          | (rw [if_neg (by rintro ⟨q1, q2, q3⟩; first | omega | (rw [tAt_out (by omega)] at q2; omega))]
             exact ⟨⟨rfl, by rw [show mO m (xPo X p 0) = mO m (xPo X X.2.2.1 0) by rw [hXp]]; exact e9⟩, f9⟩)
    · refine v_aload_n k_Model_figures_16 rfl ?_
      refine v_getf fl_Model_60 ho rfl k_Model_figures_17 ?_
      rw [show X.2.2.1 = p from hXp]
      refine v_aload_n k_Model_figures_20 rfl ?_
      refine v_getf fl_Model_53 ho rfl k_Model_figures_21 ?_
      rw [show X.2.1 = (xs.length : Int) from hX1]
      refine v_icge 89 k_Model_figures_24 rfl (by omega) (by omega) (fun cd24 => ?_) (fun cd24 => ?_)
      · refine v_iload_n k_Model_figures_89 rfl ?_
        refine v_ifne 98 k_Model_figures_90 rfl (by omega) (fun cd90 => ?_) (fun cd90 => ?_)
        · refine v_iload_n k_Model_figures_98 rfl ?_
          refine v_ireturn k_Model_figures_99 rfl rfl ?_
          first
            | (exfalso; omega)
            | (rw [if_neg (by rintro ⟨q1, q2, q3⟩; first | omega | (rw [tAt_out (by omega)] at q2; omega))]
               exact ⟨⟨rfl, by rw [show mO m (xPo X p 0) = mO m (xPo X X.2.2.1 0) by rw [hXp]]; exact e9⟩, f9⟩)
        · refine v_aload_n k_Model_figures_93 rfl ?_
          refine v_iconst k_Model_figures_94 ?_
          refine v_put fl_Model_57 ho (Nat.le_of_ble_eq_true rfl) (fun r hr => by cases hr; exact Or.inl rfl) rfl rfl k_Model_figures_95 (fun h95 e95 f95 => ?_)
          have e9 := e95
          have f9 := f95
          refine v_iload_n k_Model_figures_98 rfl ?_
          refine v_ireturn k_Model_figures_99 rfl rfl ?_
          first
            | (exfalso; omega)
            | (rw [if_neg (by rintro ⟨q1, q2, q3⟩; first | omega | (rw [tAt_out (by omega)] at q2; omega))]
               exact ⟨⟨rfl, by rw [show mO m (xPo X p 0) = mO m (xPo X X.2.2.1 0) by rw [hXp]]; exact e9⟩, f9⟩)
      · refine v_aload_n k_Model_figures_27 rfl ?_
        refine v_getf fl_Model_22 ho rfl k_Model_figures_28 ?_
        refine v_aload_n k_Model_figures_31 rfl ?_
        refine v_getf fl_Model_60 ho rfl k_Model_figures_32 ?_
        rw [show X.2.2.1 = p from hXp]
        refine v_iald ct (by omega) (by omega) k_Model_figures_35 ?_
        rw [tAt_tl hxs (by omega)]
        refine v_bipush k_Model_figures_36 (by decide) ?_
        refine v_iclt 89 k_Model_figures_38 rfl (by omega) (by omega) (fun cd38 => ?_) (fun cd38 => ?_)
        · refine v_iload_n k_Model_figures_89 rfl ?_
          refine v_ifne 98 k_Model_figures_90 rfl (by omega) (fun cd90 => ?_) (fun cd90 => ?_)
          · refine v_iload_n k_Model_figures_98 rfl ?_
            refine v_ireturn k_Model_figures_99 rfl rfl ?_
            first
              | (exfalso; omega)
              | (rw [if_neg (by rintro ⟨q1, q2, q3⟩; first | omega | (rw [tAt_out (by omega)] at q2; omega))]
                 exact ⟨⟨rfl, by rw [show mO m (xPo X p 0) = mO m (xPo X X.2.2.1 0) by rw [hXp]]; exact e9⟩, f9⟩)
          · refine v_aload_n k_Model_figures_93 rfl ?_
            refine v_iconst k_Model_figures_94 ?_
            refine v_put fl_Model_57 ho (Nat.le_of_ble_eq_true rfl) (fun r hr => by cases hr; exact Or.inl rfl) rfl rfl k_Model_figures_95 (fun h95 e95 f95 => ?_)
            have e9 := e95
            have f9 := f95
            refine v_iload_n k_Model_figures_98 rfl ?_
            refine v_ireturn k_Model_figures_99 rfl rfl ?_
            first
              | (exfalso; omega)
              | (rw [if_neg (by rintro ⟨q1, q2, q3⟩; first | omega | (rw [tAt_out (by omega)] at q2; omega))]
                 exact ⟨⟨rfl, by rw [show mO m (xPo X p 0) = mO m (xPo X X.2.2.1 0) by rw [hXp]]; exact e9⟩, f9⟩)
        · refine v_aload_n k_Model_figures_41 rfl ?_
          refine v_getf fl_Model_22 ho rfl k_Model_figures_42 ?_
          refine v_aload_n k_Model_figures_45 rfl ?_
          refine v_getf fl_Model_60 ho rfl k_Model_figures_46 ?_
          rw [show X.2.2.1 = p from hXp]
          refine v_iald ct (by omega) (by omega) k_Model_figures_49 ?_
          rw [tAt_tl hxs (by omega)]
          refine v_bipush k_Model_figures_50 (by decide) ?_
          refine v_icgt 89 k_Model_figures_52 rfl (by omega) (by omega) (fun cd52 => ?_) (fun cd52 => ?_)
          · refine v_iload_n k_Model_figures_89 rfl ?_
            refine v_ifne 98 k_Model_figures_90 rfl (by omega) (fun cd90 => ?_) (fun cd90 => ?_)
            · refine v_iload_n k_Model_figures_98 rfl ?_
              refine v_ireturn k_Model_figures_99 rfl rfl ?_
              first
                | (exfalso; omega)
                | (rw [if_neg (by rintro ⟨q1, q2, q3⟩; first | omega | (rw [tAt_out (by omega)] at q2; omega))]
                   exact ⟨⟨rfl, by rw [show mO m (xPo X p 0) = mO m (xPo X X.2.2.1 0) by rw [hXp]]; exact e9⟩, f9⟩)
            · refine v_aload_n k_Model_figures_93 rfl ?_
              refine v_iconst k_Model_figures_94 ?_
              refine v_put fl_Model_57 ho (Nat.le_of_ble_eq_true rfl) (fun r hr => by cases hr; exact Or.inl rfl) rfl rfl k_Model_figures_95 (fun h95 e95 f95 => ?_)
              have e9 := e95
              have f9 := f95
              refine v_iload_n k_Model_figures_98 rfl ?_
              refine v_ireturn k_Model_figures_99 rfl rfl ?_
              first
                | (exfalso; omega)
                | (rw [if_neg (by rintro ⟨q1, q2, q3⟩; first | omega | (rw [tAt_out (by omega)] at q2; omega))]
                   exact ⟨⟨rfl, by rw [show mO m (xPo X p 0) = mO m (xPo X X.2.2.1 0) by rw [hXp]]; exact e9⟩, f9⟩)
          · refine v_bipush k_Model_figures_55 (by decide) ?_
            refine v_iload_n k_Model_figures_57 rfl ?_
            refine v_imul k_Model_figures_58 ?_
            refine v_aload_n k_Model_figures_59 rfl ?_
            refine v_getf fl_Model_22 ho rfl k_Model_figures_60 ?_
            refine v_aload_n k_Model_figures_63 rfl ?_
            refine v_getf fl_Model_60 ho rfl k_Model_figures_64 ?_
            rw [show X.2.2.1 = p from hXp]
            refine v_iald ct (by omega) (by omega) k_Model_figures_67 ?_
            rw [tAt_tl hxs (by omega)]
            refine v_iadd k_Model_figures_68 ?_
            refine v_bipush k_Model_figures_69 (by decide) ?_
            refine v_isub k_Model_figures_71 ?_
            refine v_istore_n k_Model_figures_72 ⟨Nat.le_of_ble_eq_true rfl, Nat.le_of_ble_eq_true rfl⟩ ?_
            refine v_aload_n k_Model_figures_73 rfl ?_
            refine v_dup k_Model_figures_74 rfl ?_
            refine v_getf fl_Model_60 ho rfl k_Model_figures_75 ?_
            rw [show X.2.2.1 = p from hXp]
            refine v_iconst k_Model_figures_78 ?_
            refine v_iadd k_Model_figures_79 ?_
            refine v_put fl_Model_60 ho (Nat.le_of_ble_eq_true rfl) (fun r hr => by cases hr; exact Or.inl rfl) rfl rfl k_Model_figures_80 (fun h80 e80 f80 => ?_)
            have e9 := e80
            have f9 := f80
            have ct := f9.at ct (by omega)
            have ho := e9
            refine v_iinc k_Model_figures_83 rfl (Nat.le_of_ble_eq_true rfl) ?_
            refine v_goto k_Model_figures_86 (tgt := 4) rfl ?_
            refine v_aload_n k_Model_figures_4 rfl ?_
            refine v_getf fl_Model_57 ho rfl k_Model_figures_5 ?_
            rw [show X.2.2.2.1 = ok from hXo]
            refine v_ifeq 89 k_Model_figures_8 rfl (by omega) (fun ce8 => ?_) (fun ce8 => ?_)
            · refine v_iload_n k_Model_figures_89 rfl ?_
              refine v_ifne 98 k_Model_figures_90 rfl (by omega) (fun ce90 => ?_) (fun ce90 => ?_)
              · refine v_iload_n k_Model_figures_98 rfl ?_
                refine v_ireturn k_Model_figures_99 rfl rfl ?_
                first
                  | (exfalso; omega)
                  | (rw [if_pos ⟨by omega, by omega, by omega⟩]
                     rw [if_neg (by rintro ⟨q2, q3⟩; first | omega | (rw [tAt_out (by omega)] at q2; omega))]
                     exact ⟨⟨by congr 2; omega, by rw [show mO m (xPo X (p + 1) 1) = mO m (xPo X (p + 1) X.2.2.2.1) by rw [hXo, show ok = 1 by omega]]; exact e9⟩, f9⟩)
              · refine v_aload_n k_Model_figures_93 rfl ?_
                refine v_iconst k_Model_figures_94 ?_
                refine v_put fl_Model_57 ho (Nat.le_of_ble_eq_true rfl) (fun r hr => by cases hr; exact Or.inl rfl) rfl rfl k_Model_figures_95 (fun h95 e95 f95 => ?_)
                have e7 := e95
                have f7 := f95
                refine v_iload_n k_Model_figures_98 rfl ?_
                refine v_ireturn k_Model_figures_99 rfl rfl ?_
                first
                  | (exfalso; omega)
                  | (rw [if_pos ⟨by omega, by omega, by omega⟩]
                     rw [if_neg (by rintro ⟨q2, q3⟩; first | omega | (rw [tAt_out (by omega)] at q2; omega))]
                     exact ⟨⟨by congr 2; omega, by rw [show mO m (xPo X (p + 1) 1) = mO m (xPo X (p + 1) X.2.2.2.1) by rw [hXo, show ok = 1 by omega]]; exact e9⟩, f9⟩)
            · refine v_iload_n k_Model_figures_11 rfl ?_
              refine v_iload_n k_Model_figures_12 rfl ?_
              refine v_icge 89 k_Model_figures_13 rfl (by omega) (by omega) (fun ce13 => ?_) (fun ce13 => ?_)
              · refine v_iload_n k_Model_figures_89 rfl ?_
                refine v_ifne 98 k_Model_figures_90 rfl (by omega) (fun ce90 => ?_) (fun ce90 => ?_)
                · refine v_iload_n k_Model_figures_98 rfl ?_
                  refine v_ireturn k_Model_figures_99 rfl rfl ?_
                  first
                    | (exfalso; omega)
                    | (rw [if_pos ⟨by omega, by omega, by omega⟩]
                       rw [if_neg (by rintro ⟨q2, q3⟩; first | omega | (rw [tAt_out (by omega)] at q2; omega))]
                       exact ⟨⟨by congr 2; omega, by rw [show mO m (xPo X (p + 1) 1) = mO m (xPo X (p + 1) X.2.2.2.1) by rw [hXo, show ok = 1 by omega]]; exact e9⟩, f9⟩)
                · refine v_aload_n k_Model_figures_93 rfl ?_
                  refine v_iconst k_Model_figures_94 ?_
                  refine v_put fl_Model_57 ho (Nat.le_of_ble_eq_true rfl) (fun r hr => by cases hr; exact Or.inl rfl) rfl rfl k_Model_figures_95 (fun h95 e95 f95 => ?_)
                  have e7 := e95
                  have f7 := f95
                  refine v_iload_n k_Model_figures_98 rfl ?_
                  refine v_ireturn k_Model_figures_99 rfl rfl ?_
                  first
                    | (exfalso; omega)
                    | (rw [if_pos ⟨by omega, by omega, by omega⟩]
                       rw [if_neg (by rintro ⟨q2, q3⟩; first | omega | (rw [tAt_out (by omega)] at q2; omega))]
                       exact ⟨⟨by congr 2; omega, by rw [show mO m (xPo X (p + 1) 1) = mO m (xPo X (p + 1) X.2.2.2.1) by rw [hXo, show ok = 1 by omega]]; exact e9⟩, f9⟩)
              · refine v_aload_n k_Model_figures_16 rfl ?_
                refine v_getf fl_Model_60 ho rfl k_Model_figures_17 ?_
                refine v_aload_n k_Model_figures_20 rfl ?_
                refine v_getf fl_Model_53 ho rfl k_Model_figures_21 ?_
                rw [show X.2.1 = (xs.length : Int) from hX1]
                refine v_icge 89 k_Model_figures_24 rfl (by omega) (by omega) (fun ce24 => ?_) (fun ce24 => ?_)
                · refine v_iload_n k_Model_figures_89 rfl ?_
                  refine v_ifne 98 k_Model_figures_90 rfl (by omega) (fun ce90 => ?_) (fun ce90 => ?_)
                  · refine v_iload_n k_Model_figures_98 rfl ?_
                    refine v_ireturn k_Model_figures_99 rfl rfl ?_
                    first
                      | (exfalso; omega)
                      | (rw [if_pos ⟨by omega, by omega, by omega⟩]
                         rw [if_neg (by rintro ⟨q2, q3⟩; first | omega | (rw [tAt_out (by omega)] at q2; omega))]
                         exact ⟨⟨by congr 2; omega, by rw [show mO m (xPo X (p + 1) 1) = mO m (xPo X (p + 1) X.2.2.2.1) by rw [hXo, show ok = 1 by omega]]; exact e9⟩, f9⟩)
                  · refine v_aload_n k_Model_figures_93 rfl ?_
                    refine v_iconst k_Model_figures_94 ?_
                    refine v_put fl_Model_57 ho (Nat.le_of_ble_eq_true rfl) (fun r hr => by cases hr; exact Or.inl rfl) rfl rfl k_Model_figures_95 (fun h95 e95 f95 => ?_)
                    have e7 := e95
                    have f7 := f95
                    refine v_iload_n k_Model_figures_98 rfl ?_
                    refine v_ireturn k_Model_figures_99 rfl rfl ?_
                    first
                      | (exfalso; omega)
                      | (rw [if_pos ⟨by omega, by omega, by omega⟩]
                         rw [if_neg (by rintro ⟨q2, q3⟩; first | omega | (rw [tAt_out (by omega)] at q2; omega))]
                         exact ⟨⟨by congr 2; omega, by rw [show mO m (xPo X (p + 1) 1) = mO m (xPo X (p + 1) X.2.2.2.1) by rw [hXo, show ok = 1 by omega]]; exact e9⟩, f9⟩)
                · refine v_aload_n k_Model_figures_27 rfl ?_
                  refine v_getf fl_Model_22 ho rfl k_Model_figures_28 ?_
                  refine v_aload_n k_Model_figures_31 rfl ?_
                  refine v_getf fl_Model_60 ho rfl k_Model_figures_32 ?_
                  refine v_iald ct (by omega) (by omega) k_Model_figures_35 ?_
                  rw [tAt_tl hxs (by omega)]
                  refine v_bipush k_Model_figures_36 (by decide) ?_
                  refine v_iclt 89 k_Model_figures_38 rfl (by omega) (by omega) (fun ce38 => ?_) (fun ce38 => ?_)
                  · refine v_iload_n k_Model_figures_89 rfl ?_
                    refine v_ifne 98 k_Model_figures_90 rfl (by omega) (fun ce90 => ?_) (fun ce90 => ?_)
                    · refine v_iload_n k_Model_figures_98 rfl ?_
                      refine v_ireturn k_Model_figures_99 rfl rfl ?_
                      first
                        | (exfalso; omega)
                        | (rw [if_pos ⟨by omega, by omega, by omega⟩]
                           rw [if_neg (by rintro ⟨q2, q3⟩; first | omega | (rw [tAt_out (by omega)] at q2; omega))]
                           exact ⟨⟨by congr 2; omega, by rw [show mO m (xPo X (p + 1) 1) = mO m (xPo X (p + 1) X.2.2.2.1) by rw [hXo, show ok = 1 by omega]]; exact e9⟩, f9⟩)
                    · refine v_aload_n k_Model_figures_93 rfl ?_
                      refine v_iconst k_Model_figures_94 ?_
                      refine v_put fl_Model_57 ho (Nat.le_of_ble_eq_true rfl) (fun r hr => by cases hr; exact Or.inl rfl) rfl rfl k_Model_figures_95 (fun h95 e95 f95 => ?_)
                      have e7 := e95
                      have f7 := f95
                      refine v_iload_n k_Model_figures_98 rfl ?_
                      refine v_ireturn k_Model_figures_99 rfl rfl ?_
                      first
                        | (exfalso; omega)
                        | (rw [if_pos ⟨by omega, by omega, by omega⟩]
                           rw [if_neg (by rintro ⟨q2, q3⟩; first | omega | (rw [tAt_out (by omega)] at q2; omega))]
                           exact ⟨⟨by congr 2; omega, by rw [show mO m (xPo X (p + 1) 1) = mO m (xPo X (p + 1) X.2.2.2.1) by rw [hXo, show ok = 1 by omega]]; exact e9⟩, f9⟩)
                  · refine v_aload_n k_Model_figures_41 rfl ?_
                    refine v_getf fl_Model_22 ho rfl k_Model_figures_42 ?_
                    refine v_aload_n k_Model_figures_45 rfl ?_
                    refine v_getf fl_Model_60 ho rfl k_Model_figures_46 ?_
                    refine v_iald ct (by omega) (by omega) k_Model_figures_49 ?_
                    rw [tAt_tl hxs (by omega)]
                    refine v_bipush k_Model_figures_50 (by decide) ?_
                    refine v_icgt 89 k_Model_figures_52 rfl (by omega) (by omega) (fun ce52 => ?_) (fun ce52 => ?_)
                    · refine v_iload_n k_Model_figures_89 rfl ?_
                      refine v_ifne 98 k_Model_figures_90 rfl (by omega) (fun ce90 => ?_) (fun ce90 => ?_)
                      · refine v_iload_n k_Model_figures_98 rfl ?_
                        refine v_ireturn k_Model_figures_99 rfl rfl ?_
                        first
                          | (exfalso; omega)
                          | (rw [if_pos ⟨by omega, by omega, by omega⟩]
                             rw [if_neg (by rintro ⟨q2, q3⟩; first | omega | (rw [tAt_out (by omega)] at q2; omega))]
                             exact ⟨⟨by congr 2; omega, by rw [show mO m (xPo X (p + 1) 1) = mO m (xPo X (p + 1) X.2.2.2.1) by rw [hXo, show ok = 1 by omega]]; exact e9⟩, f9⟩)
                      · refine v_aload_n k_Model_figures_93 rfl ?_
                        refine v_iconst k_Model_figures_94 ?_
                        refine v_put fl_Model_57 ho (Nat.le_of_ble_eq_true rfl) (fun r hr => by cases hr; exact Or.inl rfl) rfl rfl k_Model_figures_95 (fun h95 e95 f95 => ?_)
                        have e7 := e95
                        have f7 := f95
                        refine v_iload_n k_Model_figures_98 rfl ?_
                        refine v_ireturn k_Model_figures_99 rfl rfl ?_
                        first
                          | (exfalso; omega)
                          | (rw [if_pos ⟨by omega, by omega, by omega⟩]
                             rw [if_neg (by rintro ⟨q2, q3⟩; first | omega | (rw [tAt_out (by omega)] at q2; omega))]
                             exact ⟨⟨by congr 2; omega, by rw [show mO m (xPo X (p + 1) 1) = mO m (xPo X (p + 1) X.2.2.2.1) by rw [hXo, show ok = 1 by omega]]; exact e9⟩, f9⟩)
                    · refine v_bipush k_Model_figures_55 (by decide) ?_
                      refine v_iload_n k_Model_figures_57 rfl ?_
                      refine v_imul k_Model_figures_58 ?_
                      refine v_aload_n k_Model_figures_59 rfl ?_
                      refine v_getf fl_Model_22 ho rfl k_Model_figures_60 ?_
                      refine v_aload_n k_Model_figures_63 rfl ?_
                      refine v_getf fl_Model_60 ho rfl k_Model_figures_64 ?_
                      refine v_iald ct (by omega) (by omega) k_Model_figures_67 ?_
                      rw [tAt_tl hxs (by omega)]
                      refine v_iadd k_Model_figures_68 ?_
                      refine v_bipush k_Model_figures_69 (by decide) ?_
                      refine v_isub k_Model_figures_71 ?_
                      refine v_istore_n k_Model_figures_72 ⟨Nat.le_of_ble_eq_true rfl, Nat.le_of_ble_eq_true rfl⟩ ?_
                      refine v_aload_n k_Model_figures_73 rfl ?_
                      refine v_dup k_Model_figures_74 rfl ?_
                      refine v_getf fl_Model_60 ho rfl k_Model_figures_75 ?_
                      refine v_iconst k_Model_figures_78 ?_
                      refine v_iadd k_Model_figures_79 ?_
                      refine v_put fl_Model_60 ho (Nat.le_of_ble_eq_true rfl) (fun r hr => by cases hr; exact Or.inl rfl) rfl rfl k_Model_figures_80 (fun h80 e80 f80 => ?_)
                      have e8 := e80
                      have f8 := f80
                      have ct := f8.at ct (by omega)
                      have ho := e8
                      refine v_iinc k_Model_figures_83 rfl (Nat.le_of_ble_eq_true rfl) ?_
                      refine v_goto k_Model_figures_86 (tgt := 4) rfl ?_
                      refine v_aload_n k_Model_figures_4 rfl ?_
                      refine v_getf fl_Model_57 ho rfl k_Model_figures_5 ?_
                      rw [show X.2.2.2.1 = ok from hXo]
                      refine v_ifeq 89 k_Model_figures_8 rfl (by omega) (fun cf8 => ?_) (fun cf8 => ?_)
                      · refine v_iload_n k_Model_figures_89 rfl ?_
                        refine v_ifne 98 k_Model_figures_90 rfl (by omega) (fun cf90 => ?_) (fun cf90 => ?_)
                        · refine v_iload_n k_Model_figures_98 rfl ?_
                          refine v_ireturn k_Model_figures_99 rfl rfl ?_
                          first
                            | (exfalso; omega)
                            | (rw [if_pos ⟨by omega, by omega, by omega⟩]
                               rw [if_pos ⟨by omega, by omega⟩]
                               exact ⟨⟨by congr 2; omega, by rw [show mO m (xPo X (p + 2) 1) = mO m (xPo X (p + 1 + 1) X.2.2.2.1) by rw [hXo, show ok = 1 by omega, show p + 1 + 1 = p + 2 by omega]]; exact e8⟩, f9.tr f8 (Nat.le_refl _) (Nat.le_refl _)⟩)
                        · refine v_aload_n k_Model_figures_93 rfl ?_
                          refine v_iconst k_Model_figures_94 ?_
                          refine v_put fl_Model_57 ho (Nat.le_of_ble_eq_true rfl) (fun r hr => by cases hr; exact Or.inl rfl) rfl rfl k_Model_figures_95 (fun h95 e95 f95 => ?_)
                          have e7 := e95
                          have f7 := f95
                          refine v_iload_n k_Model_figures_98 rfl ?_
                          refine v_ireturn k_Model_figures_99 rfl rfl ?_
                          first
                            | (exfalso; omega)
                            | (rw [if_pos ⟨by omega, by omega, by omega⟩]
                               rw [if_pos ⟨by omega, by omega⟩]
                               exact ⟨⟨by congr 2; omega, by rw [show mO m (xPo X (p + 2) 1) = mO m (xPo X (p + 1 + 1) X.2.2.2.1) by rw [hXo, show ok = 1 by omega, show p + 1 + 1 = p + 2 by omega]]; exact e8⟩, f9.tr f8 (Nat.le_refl _) (Nat.le_refl _)⟩)
                      · refine v_iload_n k_Model_figures_11 rfl ?_
                        refine v_iload_n k_Model_figures_12 rfl ?_
                        refine v_icge 89 k_Model_figures_13 rfl (by omega) (by omega) (fun cf13 => ?_) (fun cf13 => ?_)
                        · refine v_iload_n k_Model_figures_89 rfl ?_
                          refine v_ifne 98 k_Model_figures_90 rfl (by omega) (fun cf90 => ?_) (fun cf90 => ?_)
                          · refine v_iload_n k_Model_figures_98 rfl ?_
                            refine v_ireturn k_Model_figures_99 rfl rfl ?_
                            first
                              | (exfalso; omega)
                              | (rw [if_pos ⟨by omega, by omega, by omega⟩]
                                 rw [if_pos ⟨by omega, by omega⟩]
                                 exact ⟨⟨by congr 2; omega, by rw [show mO m (xPo X (p + 2) 1) = mO m (xPo X (p + 1 + 1) X.2.2.2.1) by rw [hXo, show ok = 1 by omega, show p + 1 + 1 = p + 2 by omega]]; exact e8⟩, f9.tr f8 (Nat.le_refl _) (Nat.le_refl _)⟩)
                          · refine v_aload_n k_Model_figures_93 rfl ?_
                            refine v_iconst k_Model_figures_94 ?_
                            refine v_put fl_Model_57 ho (Nat.le_of_ble_eq_true rfl) (fun r hr => by cases hr; exact Or.inl rfl) rfl rfl k_Model_figures_95 (fun h95 e95 f95 => ?_)
                            have e7 := e95
                            have f7 := f95
                            refine v_iload_n k_Model_figures_98 rfl ?_
                            refine v_ireturn k_Model_figures_99 rfl rfl ?_
                            first
                              | (exfalso; omega)
                              | (rw [if_pos ⟨by omega, by omega, by omega⟩]
                                 rw [if_pos ⟨by omega, by omega⟩]
                                 exact ⟨⟨by congr 2; omega, by rw [show mO m (xPo X (p + 2) 1) = mO m (xPo X (p + 1 + 1) X.2.2.2.1) by rw [hXo, show ok = 1 by omega, show p + 1 + 1 = p + 2 by omega]]; exact e8⟩, f9.tr f8 (Nat.le_refl _) (Nat.le_refl _)⟩)
                        · exfalso; omega

set_option maxHeartbeats 4000000 in
set_option maxRecDepth 20000 in
theorem c_Model_oneOf (G : Gx) {h : AH} {m : Nat} {X : MX} {xs tl : List Int} (ho : h.2 m = some (aO 8 (mO m X))) (ct : h.2 (m + 5) = some (aA 0 tl)) (htl : tl.length = 80) (hxs : tl.take xs.length = xs) (hx80 : xs.length ≤ 80) (hxb : ∀ x ∈ xs, 0 ≤ x ∧ x ≤ 255) (hX1 : X.2.1 = (xs.length : Int)) {p ok : Int} (hXp : X.2.2.1 = p) (hXo : X.2.2.2.1 = ok) (hp : 0 ≤ p ∧ p ≤ 80) (hok : 0 ≤ ok ∧ ok ≤ 1) {q : Nat} {cs : List Int} (hcs : h.2 q = some (aA 2 cs)) (hcl : cs.length ≤ 10) (hcb : ∀ x ∈ cs, 0 ≤ x ∧ x ≤ 65535) : Ct G Y_Model_oneOf 0 0 0 [aR m, aR q] h (fun v h' => (if ok = 1 ∧ 0 ≤ ixF (tAt xs p) cs 0 then v = some (aI (ixF (tAt xs p) cs 0)) ∧ h'.2 m = some (aO 8 (mO m (xPo X (p + 1) 1))) else v = some (aI 0) ∧ h'.2 m = some (aO 8 (mO m (xPo X p 0)))) ∧ Fr m (m + 1) h h') := by
  have hin : InR (tAt xs p) := tAt_in (fun x hx => by have := hxb x hx; exact ⟨by omega, by omega⟩) p
  refine Ct.of_V mo_Model_oneOf rfl (Nat.le_of_ble_eq_true rfl) rfl ?_
  have loop : ∀ (kk : Nat) (k : Nat), (cs.length = k + kk) → (ixF (tAt xs p) (cs.drop k) k = ixF (tAt xs p) cs 0) → V G Y_Model_oneOf 0 0 0 4 [some (aR m), some (aR q), some (aI (-1)), some (aI (k : Int))] [] h (fun v h' => (if ok = 1 ∧ 0 ≤ ixF (tAt xs p) cs 0 then v = some (aI (ixF (tAt xs p) cs 0)) ∧ h'.2 m = some (aO 8 (mO m (xPo X (p + 1) 1))) else v = some (aI 0) ∧ h'.2 m = some (aO 8 (mO m (xPo X p 0)))) ∧ Fr m (m + 1) h h') := by
    intro kk
    induction kk with
    | zero =>
      intro k hkk ht
      refine v_iload_n k_Model_oneOf_4 rfl ?_
      refine v_aload_n k_Model_oneOf_5 rfl ?_
      refine v_alen (by decide) hcs k_Model_oneOf_6 ?_
      refine v_icge 55 k_Model_oneOf_7 rfl (by omega) (by omega) (fun cd7 => ?_) (fun cd7 => ?_)
      · refine v_iload_n k_Model_oneOf_55 rfl ?_
        refine v_ifge 66 k_Model_oneOf_56 rfl (by omega) (fun cd56 => ?_) (fun cd56 => ?_)
        · refine v_aload_n k_Model_oneOf_66 rfl ?_
          refine v_dup k_Model_oneOf_67 rfl ?_
          refine v_getf fl_Model_60 ho rfl k_Model_oneOf_68 ?_
          rw [show X.2.2.1 = p from hXp]
          refine v_iconst k_Model_oneOf_71 ?_
          refine v_iadd k_Model_oneOf_72 ?_
          refine v_put fl_Model_60 ho (Nat.le_of_ble_eq_true rfl) (fun r hr => by cases hr; exact Or.inl rfl) rfl rfl k_Model_oneOf_73 (fun h73 e73 f73 => ?_)
          have e9 := e73
          have f9 := f73
          refine v_iload_n k_Model_oneOf_76 rfl ?_
          refine v_ireturn k_Model_oneOf_77 rfl rfl ?_
          exfalso; omega
        · refine v_aload_n k_Model_oneOf_59 rfl ?_
          refine v_iconst k_Model_oneOf_60 ?_
          refine v_put fl_Model_57 ho (Nat.le_of_ble_eq_true rfl) (fun r hr => by cases hr; exact Or.inl rfl) rfl rfl k_Model_oneOf_61 (fun h61 e61 f61 => ?_)
          have e9 := e61
          have f9 := f61
          refine v_iconst k_Model_oneOf_64 ?_
          refine v_ireturn k_Model_oneOf_65 rfl rfl ?_
          rw [if_neg (by rintro ⟨q1, q2⟩; rw [← ht, List.drop_eq_nil_of_le (by omega)] at q2; exact absurd q2 (by show ¬ (0 : Int) ≤ -1; decide))]
          exact ⟨⟨rfl, by rw [show mO m (xPo X p 0) = mO m (xPo X X.2.2.1 0) by rw [hXp]]; exact e9⟩, f9⟩
      · exfalso; omega
    | succ kk ih =>
      intro k hkk ht
      have ed : cs.drop k = cs[k] :: cs.drop (k + 1) := List.drop_eq_getElem_cons (by omega)
      have eg : cs.getD k 0 = cs[k] := by rw [List.getD_eq_getElem?_getD, List.getElem?_eq_getElem (by omega)]; rfl
      have hcb9 := hcb _ (List.getElem_mem (l := cs) (n := k) (by omega))
      rw [ed, ixF] at ht
      refine v_iload_n k_Model_oneOf_4 rfl ?_
      refine v_aload_n k_Model_oneOf_5 rfl ?_
      refine v_alen (by decide) hcs k_Model_oneOf_6 ?_
      refine v_icge 55 k_Model_oneOf_7 rfl (by omega) (by omega) (fun cd7 => ?_) (fun cd7 => ?_)
      · refine v_iload_n k_Model_oneOf_55 rfl ?_
        refine v_ifge 66 k_Model_oneOf_56 rfl (by omega) (fun cd56 => ?_) (fun cd56 => ?_)
        · refine v_aload_n k_Model_oneOf_66 rfl ?_
          refine v_dup k_Model_oneOf_67 rfl ?_
          refine v_getf fl_Model_60 ho rfl k_Model_oneOf_68 ?_
          rw [show X.2.2.1 = p from hXp]
          refine v_iconst k_Model_oneOf_71 ?_
          refine v_iadd k_Model_oneOf_72 ?_
          refine v_put fl_Model_60 ho (Nat.le_of_ble_eq_true rfl) (fun r hr => by cases hr; exact Or.inl rfl) rfl rfl k_Model_oneOf_73 (fun h73 e73 f73 => ?_)
          have e9 := e73
          have f9 := f73
          refine v_iload_n k_Model_oneOf_76 rfl ?_
          refine v_ireturn k_Model_oneOf_77 rfl rfl ?_
          exfalso; omega
        · refine v_aload_n k_Model_oneOf_59 rfl ?_
          refine v_iconst k_Model_oneOf_60 ?_
          refine v_put fl_Model_57 ho (Nat.le_of_ble_eq_true rfl) (fun r hr => by cases hr; exact Or.inl rfl) rfl rfl k_Model_oneOf_61 (fun h61 e61 f61 => ?_)
          have e9 := e61
          have f9 := f61
          refine v_iconst k_Model_oneOf_64 ?_
          refine v_ireturn k_Model_oneOf_65 rfl rfl ?_
          rw [if_neg (by rintro ⟨q1, q2⟩; omega)]
          exact ⟨⟨rfl, by rw [show mO m (xPo X p 0) = mO m (xPo X X.2.2.1 0) by rw [hXp]]; exact e9⟩, f9⟩
      · refine v_aload_n k_Model_oneOf_10 rfl ?_
        refine v_getf fl_Model_57 ho rfl k_Model_oneOf_11 ?_
        rw [show X.2.2.2.1 = ok from hXo]
        refine v_ifeq 55 k_Model_oneOf_14 rfl (by omega) (fun cd14 => ?_) (fun cd14 => ?_)
        · refine v_iload_n k_Model_oneOf_55 rfl ?_
          refine v_ifge 66 k_Model_oneOf_56 rfl (by omega) (fun cd56 => ?_) (fun cd56 => ?_)
          · refine v_aload_n k_Model_oneOf_66 rfl ?_
            refine v_dup k_Model_oneOf_67 rfl ?_
            refine v_getf fl_Model_60 ho rfl k_Model_oneOf_68 ?_
            rw [show X.2.2.1 = p from hXp]
            refine v_iconst k_Model_oneOf_71 ?_
            refine v_iadd k_Model_oneOf_72 ?_
            refine v_put fl_Model_60 ho (Nat.le_of_ble_eq_true rfl) (fun r hr => by cases hr; exact Or.inl rfl) rfl rfl k_Model_oneOf_73 (fun h73 e73 f73 => ?_)
            have e9 := e73
            have f9 := f73
            refine v_iload_n k_Model_oneOf_76 rfl ?_
            refine v_ireturn k_Model_oneOf_77 rfl rfl ?_
            exfalso; omega
          · refine v_aload_n k_Model_oneOf_59 rfl ?_
            refine v_iconst k_Model_oneOf_60 ?_
            refine v_put fl_Model_57 ho (Nat.le_of_ble_eq_true rfl) (fun r hr => by cases hr; exact Or.inl rfl) rfl rfl k_Model_oneOf_61 (fun h61 e61 f61 => ?_)
            have e9 := e61
            have f9 := f61
            refine v_iconst k_Model_oneOf_64 ?_
            refine v_ireturn k_Model_oneOf_65 rfl rfl ?_
            rw [if_neg (by rintro ⟨q1, q2⟩; omega)]
            exact ⟨⟨rfl, by rw [show mO m (xPo X p 0) = mO m (xPo X X.2.2.1 0) by rw [hXp]]; exact e9⟩, f9⟩
        · refine v_iload_n k_Model_oneOf_17 rfl ?_
          refine v_ifge 55 k_Model_oneOf_18 rfl (by omega) (fun cd18 => ?_) (fun cd18 => ?_)
          · refine v_iload_n k_Model_oneOf_55 rfl ?_
            refine v_ifge 66 k_Model_oneOf_56 rfl (by omega) (fun cd56 => ?_) (fun cd56 => ?_)
            · refine v_aload_n k_Model_oneOf_66 rfl ?_
              refine v_dup k_Model_oneOf_67 rfl ?_
              refine v_getf fl_Model_60 ho rfl k_Model_oneOf_68 ?_
              rw [show X.2.2.1 = p from hXp]
              refine v_iconst k_Model_oneOf_71 ?_
              refine v_iadd k_Model_oneOf_72 ?_
              refine v_put fl_Model_60 ho (Nat.le_of_ble_eq_true rfl) (fun r hr => by cases hr; exact Or.inl rfl) rfl rfl k_Model_oneOf_73 (fun h73 e73 f73 => ?_)
              have e9 := e73
              have f9 := f73
              refine v_iload_n k_Model_oneOf_76 rfl ?_
              refine v_ireturn k_Model_oneOf_77 rfl rfl ?_
              exfalso; omega
            · refine v_aload_n k_Model_oneOf_59 rfl ?_
              refine v_iconst k_Model_oneOf_60 ?_
              refine v_put fl_Model_57 ho (Nat.le_of_ble_eq_true rfl) (fun r hr => by cases hr; exact Or.inl rfl) rfl rfl k_Model_oneOf_61 (fun h61 e61 f61 => ?_)
              have e9 := e61
              have f9 := f61
              refine v_iconst k_Model_oneOf_64 ?_
              refine v_ireturn k_Model_oneOf_65 rfl rfl ?_
              rw [if_neg (by rintro ⟨q1, q2⟩; omega)]
              exact ⟨⟨rfl, by rw [show mO m (xPo X p 0) = mO m (xPo X X.2.2.1 0) by rw [hXp]]; exact e9⟩, f9⟩
          · refine v_aload_n k_Model_oneOf_21 rfl ?_
            refine v_getf fl_Model_60 ho rfl k_Model_oneOf_22 ?_
            rw [show X.2.2.1 = p from hXp]
            refine v_aload_n k_Model_oneOf_25 rfl ?_
            refine v_getf fl_Model_53 ho rfl k_Model_oneOf_26 ?_
            rw [show X.2.1 = (xs.length : Int) from hX1]
            refine v_icge 49 k_Model_oneOf_29 rfl (by omega) (by omega) (fun cd29 => ?_) (fun cd29 => ?_)
            · refine v_iinc k_Model_oneOf_49 rfl (Nat.le_of_ble_eq_true rfl) ?_
              refine v_goto k_Model_oneOf_52 (tgt := 4) rfl ?_
              rw [if_neg (by intro q; first | omega | (rw [tAt_out (by omega)] at q; omega))] at ht
              exact ih (k + 1) (by omega) ht
            · refine v_aload_n k_Model_oneOf_32 rfl ?_
              refine v_getf fl_Model_22 ho rfl k_Model_oneOf_33 ?_
              refine v_aload_n k_Model_oneOf_36 rfl ?_
              refine v_getf fl_Model_60 ho rfl k_Model_oneOf_37 ?_
              rw [show X.2.2.1 = p from hXp]
              refine v_iald ct (by omega) (by omega) k_Model_oneOf_40 ?_
              rw [tAt_tl hxs (by omega)]
              refine v_aload_n k_Model_oneOf_41 rfl ?_
              refine v_iload_n k_Model_oneOf_42 rfl ?_
              refine v_cald hcs (by omega) (by omega) k_Model_oneOf_43 ?_
              rw [Int.toNat_natCast, eg]
              refine v_icne 49 k_Model_oneOf_44 rfl (by omega) (by omega) (fun cd44 => ?_) (fun cd44 => ?_)
              · refine v_iinc k_Model_oneOf_49 rfl (Nat.le_of_ble_eq_true rfl) ?_
                refine v_goto k_Model_oneOf_52 (tgt := 4) rfl ?_
                rw [if_neg (by intro q; first | omega | (rw [tAt_out (by omega)] at q; omega))] at ht
                exact ih (k + 1) (by omega) ht
              · refine v_iload_n k_Model_oneOf_47 rfl ?_
                refine v_istore_n k_Model_oneOf_48 ⟨Nat.le_of_ble_eq_true rfl, Nat.le_of_ble_eq_true rfl⟩ ?_
                refine v_iinc k_Model_oneOf_49 rfl (Nat.le_of_ble_eq_true rfl) ?_
                refine v_goto k_Model_oneOf_52 (tgt := 4) rfl ?_
                rw [if_pos (by omega)] at ht
                refine v_iload_n k_Model_oneOf_4 rfl ?_
                refine v_aload_n k_Model_oneOf_5 rfl ?_
                refine v_alen (by decide) hcs k_Model_oneOf_6 ?_
                refine v_icge 55 k_Model_oneOf_7 rfl (by omega) (by omega) (fun ce7 => ?_) (fun ce7 => ?_)
                · refine v_iload_n k_Model_oneOf_55 rfl ?_
                  refine v_ifge 66 k_Model_oneOf_56 rfl (by omega) (fun ce56 => ?_) (fun ce56 => ?_)
                  · refine v_aload_n k_Model_oneOf_66 rfl ?_
                    refine v_dup k_Model_oneOf_67 rfl ?_
                    refine v_getf fl_Model_60 ho rfl k_Model_oneOf_68 ?_
                    rw [show X.2.2.1 = p from hXp]
                    refine v_iconst k_Model_oneOf_71 ?_
                    refine v_iadd k_Model_oneOf_72 ?_
                    refine v_put fl_Model_60 ho (Nat.le_of_ble_eq_true rfl) (fun r hr => by cases hr; exact Or.inl rfl) rfl rfl k_Model_oneOf_73 (fun h73 e73 f73 => ?_)
                    have e9 := e73
                    have f9 := f73
                    refine v_iload_n k_Model_oneOf_76 rfl ?_
                    refine v_ireturn k_Model_oneOf_77 rfl rfl ?_
                    rw [if_pos ⟨by omega, by omega⟩]
                    exact ⟨⟨by rw [← ht], by rw [show mO m (xPo X (p + 1) 1) = mO m (xPo X (p + 1) X.2.2.2.1) by rw [hXo, show ok = 1 by omega]]; exact e9⟩, f9⟩
                  · refine v_aload_n k_Model_oneOf_59 rfl ?_
                    refine v_iconst k_Model_oneOf_60 ?_
                    refine v_put fl_Model_57 ho (Nat.le_of_ble_eq_true rfl) (fun r hr => by cases hr; exact Or.inl rfl) rfl rfl k_Model_oneOf_61 (fun h61 e61 f61 => ?_)
                    have e9 := e61
                    have f9 := f61
                    refine v_iconst k_Model_oneOf_64 ?_
                    refine v_ireturn k_Model_oneOf_65 rfl rfl ?_
                    exfalso; omega
                · refine v_aload_n k_Model_oneOf_10 rfl ?_
                  refine v_getf fl_Model_57 ho rfl k_Model_oneOf_11 ?_
                  rw [show X.2.2.2.1 = ok from hXo]
                  refine v_ifeq 55 k_Model_oneOf_14 rfl (by omega) (fun ce14 => ?_) (fun ce14 => ?_)
                  · refine v_iload_n k_Model_oneOf_55 rfl ?_
                    refine v_ifge 66 k_Model_oneOf_56 rfl (by omega) (fun ce56 => ?_) (fun ce56 => ?_)
                    · refine v_aload_n k_Model_oneOf_66 rfl ?_
                      refine v_dup k_Model_oneOf_67 rfl ?_
                      refine v_getf fl_Model_60 ho rfl k_Model_oneOf_68 ?_
                      rw [show X.2.2.1 = p from hXp]
                      refine v_iconst k_Model_oneOf_71 ?_
                      refine v_iadd k_Model_oneOf_72 ?_
                      refine v_put fl_Model_60 ho (Nat.le_of_ble_eq_true rfl) (fun r hr => by cases hr; exact Or.inl rfl) rfl rfl k_Model_oneOf_73 (fun h73 e73 f73 => ?_)
                      have e9 := e73
                      have f9 := f73
                      refine v_iload_n k_Model_oneOf_76 rfl ?_
                      refine v_ireturn k_Model_oneOf_77 rfl rfl ?_
                      rw [if_pos ⟨by omega, by omega⟩]
                      exact ⟨⟨by rw [← ht], by rw [show mO m (xPo X (p + 1) 1) = mO m (xPo X (p + 1) X.2.2.2.1) by rw [hXo, show ok = 1 by omega]]; exact e9⟩, f9⟩
                    · refine v_aload_n k_Model_oneOf_59 rfl ?_
                      refine v_iconst k_Model_oneOf_60 ?_
                      refine v_put fl_Model_57 ho (Nat.le_of_ble_eq_true rfl) (fun r hr => by cases hr; exact Or.inl rfl) rfl rfl k_Model_oneOf_61 (fun h61 e61 f61 => ?_)
                      have e9 := e61
                      have f9 := f61
                      refine v_iconst k_Model_oneOf_64 ?_
                      refine v_ireturn k_Model_oneOf_65 rfl rfl ?_
                      exfalso; omega
                  · refine v_iload_n k_Model_oneOf_17 rfl ?_
                    refine v_ifge 55 k_Model_oneOf_18 rfl (by omega) (fun ce18 => ?_) (fun ce18 => ?_)
                    · refine v_iload_n k_Model_oneOf_55 rfl ?_
                      refine v_ifge 66 k_Model_oneOf_56 rfl (by omega) (fun ce56 => ?_) (fun ce56 => ?_)
                      · refine v_aload_n k_Model_oneOf_66 rfl ?_
                        refine v_dup k_Model_oneOf_67 rfl ?_
                        refine v_getf fl_Model_60 ho rfl k_Model_oneOf_68 ?_
                        rw [show X.2.2.1 = p from hXp]
                        refine v_iconst k_Model_oneOf_71 ?_
                        refine v_iadd k_Model_oneOf_72 ?_
                        refine v_put fl_Model_60 ho (Nat.le_of_ble_eq_true rfl) (fun r hr => by cases hr; exact Or.inl rfl) rfl rfl k_Model_oneOf_73 (fun h73 e73 f73 => ?_)
                        have e9 := e73
                        have f9 := f73
                        refine v_iload_n k_Model_oneOf_76 rfl ?_
                        refine v_ireturn k_Model_oneOf_77 rfl rfl ?_
                        rw [if_pos ⟨by omega, by omega⟩]
                        exact ⟨⟨by rw [← ht], by rw [show mO m (xPo X (p + 1) 1) = mO m (xPo X (p + 1) X.2.2.2.1) by rw [hXo, show ok = 1 by omega]]; exact e9⟩, f9⟩
                      · refine v_aload_n k_Model_oneOf_59 rfl ?_
                        refine v_iconst k_Model_oneOf_60 ?_
                        refine v_put fl_Model_57 ho (Nat.le_of_ble_eq_true rfl) (fun r hr => by cases hr; exact Or.inl rfl) rfl rfl k_Model_oneOf_61 (fun h61 e61 f61 => ?_)
                        have e9 := e61
                        have f9 := f61
                        refine v_iconst k_Model_oneOf_64 ?_
                        refine v_ireturn k_Model_oneOf_65 rfl rfl ?_
                        exfalso; omega
                    · exfalso; omega
  refine v_iconst k_Model_oneOf_0 ?_
  refine v_istore_n k_Model_oneOf_1 ⟨Nat.le_of_ble_eq_true rfl, Nat.le_of_ble_eq_true rfl⟩ ?_
  refine v_iconst k_Model_oneOf_2 ?_
  refine v_istore_n k_Model_oneOf_3 ⟨Nat.le_of_ble_eq_true rfl, Nat.le_of_ble_eq_true rfl⟩ ?_
  exact loop cs.length 0 (by omega) rfl
