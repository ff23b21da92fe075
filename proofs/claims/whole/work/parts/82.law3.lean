set_option maxHeartbeats 1000000 in
set_option maxRecDepth 20000 in
theorem law_loop (G : Gx) (nm : String) (hL : gL G ≤ 1536) : ∀ (k i : Nat) (S : St) (h : AH), gL G ≤ i + 3 * k + 2 → i ≤ gL G → pMain h 100 S → pMS h 173 S → wSt S → 184 ≤ h.1 → V G (Y_Law nm) 11 (144 * k) (1008 * k) 18 [some (aR 0), some (aR 100), some (aR 173), some (aI (i : Int))] [] h (fun v _ => v = some (aI 1)) := by
  intro k
  induction k with
  | zero =>
    intro i S h hk hi hp hm w hz
    refine v_iload_n k_Law_law_18 rfl ?_
    refine v_aload_n k_Law_law_19 rfl ?_
    refine v_slen (n := (gL G : Int)) rfl k_Law_law_20 ?_
    refine v_iconst k_Law_law_21 ?_
    refine v_isub k_Law_law_22 ?_
    refine v_icgt 875 k_Law_law_23 rfl (by omega) (by omega) (fun g => ?_) (fun g => ?_)
    · refine v_iconst k_Law_law_875 ?_
      refine v_ireturn k_Law_law_876 rfl rfl ?_
      rfl
    · exfalso; omega
  | succ k ih =>
    intro i S h hk hi hp hm w hz
    refine v_iload_n k_Law_law_18 rfl ?_
    refine v_aload_n k_Law_law_19 rfl ?_
    refine v_slen (n := (gL G : Int)) rfl k_Law_law_20 ?_
    refine v_iconst k_Law_law_21 ?_
    refine v_isub k_Law_law_22 ?_
    refine v_icgt 875 k_Law_law_23 rfl (by omega) (by omega) (fun g => ?_) (fun g => ?_)
    · refine v_iconst k_Law_law_875 ?_
      refine v_ireturn k_Law_law_876 rfl rfl ?_
      rfl
    · have back : ∀ (S' : St) (h' : AH), pMain h' 100 S' → pMS h' 173 S' → wSt S' → 184 ≤ h'.1 → V G (Y_Law nm) 11 (144 * k) (1008 * k) 869 [some (aR 0), some (aR 100), some (aR 173), some (aI (i : Int))] [] h' (fun v _ => v = some (aI 1)) := by
        intro S' h' hp hm w hz
        refine v_iinc k_Law_law_869 rfl (Nat.le_of_ble_eq_true rfl) ?_
        refine v_goto k_Law_law_872 (tgt := 18) rfl ?_
        exact ih (i + 3) S' h' (by omega) (by omega) hp hm w hz
      clear ih
      rw [show 144 * (k + 1) = 144 * k + 144 by omega, show 1008 * (k + 1) = 1008 * k + 1008 by omega]
      refine v_aload_n k_Law_law_26 rfl ?_
      refine v_iload_n k_Law_law_27 rfl ?_
      refine v_sld (by omega) rfl k_Law_law_28 ?_
      refine v_bipush k_Law_law_29 (by decide) ?_
      refine v_mask 5 k_Law_law_31 (by decide) rfl ?_
      have hi3 : (i : Int) + 3 ≤ gL G := by omega
      generalize ht : (gX G ((i : Int)).toNat).toInt % ((2 ^ 5 : Nat) : Int) = t
      have ht1 : 0 ≤ t := by rw [← ht]; exact Int.emod_nonneg _ (by decide)
      have ht2 : t < 32 := by rw [← ht]; exact Int.emod_lt_of_pos _ (by decide)
      clear ht g hi hk
      by_cases g : t = 0
      · subst g
        exact v_tableIn 168 k_Law_law_32 (by decide) (by decide) (by decide) (off := 136) rfl rfl (V.less (Nat.le_add_right _ _) (Nat.le_add_right _ _) (law_0 G nm hL _ _ i S h hi3 hp hm w hz back))
      have ht1 : 1 ≤ t := by omega
      clear g
      by_cases g : t = 1
      · subst g
        exact v_tableIn 191 k_Law_law_32 (by decide) (by decide) (by decide) (off := 159) rfl rfl (V.less (Nat.le_add_right _ _) (Nat.le_add_right _ _) (law_1 G nm hL _ _ i S h hi3 hp hm w hz back))
      have ht1 : 2 ≤ t := by omega
      clear g
      by_cases g : t = 2
      · subst g
        exact v_tableIn 204 k_Law_law_32 (by decide) (by decide) (by decide) (off := 172) rfl rfl (V.less (Nat.le_add_right _ _) (Nat.le_add_right _ _) (law_2 G nm hL _ _ i S h hi3 hp hm w hz back))
      have ht1 : 3 ≤ t := by omega
      clear g
      by_cases g : t = 3
      · subst g
        exact v_tableIn 237 k_Law_law_32 (by decide) (by decide) (by decide) (off := 205) rfl rfl (V.less (Nat.le_add_right _ _) (Nat.le_add_right _ _) (law_3 G nm hL _ _ i S h hi3 hp hm w hz back))
      have ht1 : 4 ≤ t := by omega
      clear g
      by_cases g : t = 4
      · subst g
        exact v_tableIn 270 k_Law_law_32 (by decide) (by decide) (by decide) (off := 238) rfl rfl (V.less (Nat.le_add_right _ _) (Nat.le_add_right _ _) (law_4 G nm hL _ _ i S h hi3 hp hm w hz back))
      have ht1 : 5 ≤ t := by omega
      clear g
      by_cases g : t = 5
      · subst g
        exact v_tableIn 303 k_Law_law_32 (by decide) (by decide) (by decide) (off := 271) rfl rfl (V.less (Nat.le_add_right _ _) (Nat.le_add_right _ _) (law_5 G nm hL _ _ i S h hi3 hp hm w hz back))
      have ht1 : 6 ≤ t := by omega
      clear g
      by_cases g : t = 6
      · subst g
        exact v_tableIn 336 k_Law_law_32 (by decide) (by decide) (by decide) (off := 304) rfl rfl (V.less (Nat.le_add_right _ _) (Nat.le_add_right _ _) (law_6 G nm hL _ _ i S h hi3 hp hm w hz back))
      have ht1 : 7 ≤ t := by omega
      clear g
      by_cases g : t = 7
      · subst g
        exact v_tableIn 359 k_Law_law_32 (by decide) (by decide) (by decide) (off := 327) rfl rfl (V.less (Nat.le_add_right _ _) (Nat.le_add_right _ _) (law_7 G nm hL _ _ i S h hi3 hp hm w hz back))
      have ht1 : 8 ≤ t := by omega
      clear g
      by_cases g : t = 8
      · subst g
        exact v_tableIn 382 k_Law_law_32 (by decide) (by decide) (by decide) (off := 350) rfl rfl (V.less (Nat.le_add_right _ _) (Nat.le_add_right _ _) (law_8 G nm hL _ _ i S h hi3 hp hm w hz back))
      have ht1 : 9 ≤ t := by omega
      clear g
      by_cases g : t = 9
      · subst g
        exact v_tableIn 405 k_Law_law_32 (by decide) (by decide) (by decide) (off := 373) rfl rfl (V.less (Nat.le_add_right _ _) (Nat.le_add_right _ _) (law_9 G nm hL _ _ i S h hi3 hp hm w hz back))
      have ht1 : 10 ≤ t := by omega
      clear g
      by_cases g : t = 10
      · subst g
        exact v_tableIn 438 k_Law_law_32 (by decide) (by decide) (by decide) (off := 406) rfl rfl (V.less (Nat.le_add_right _ _) (Nat.le_add_right _ _) (law_10 G nm hL _ _ i S h hi3 hp hm w hz back))
      have ht1 : 11 ≤ t := by omega
      clear g
      by_cases g : t = 11
      · subst g
        exact v_tableIn 461 k_Law_law_32 (by decide) (by decide) (by decide) (off := 429) rfl rfl (V.less (Nat.le_add_right _ _) (Nat.le_add_right _ _) (law_11 G nm hL _ _ i S h hi3 hp hm w hz back))
      have ht1 : 12 ≤ t := by omega
      clear g
      by_cases g : t = 12
      · subst g
        exact v_tableIn 484 k_Law_law_32 (by decide) (by decide) (by decide) (off := 452) rfl rfl (V.less (Nat.le_add_right _ _) (Nat.le_add_right _ _) (law_12 G nm hL _ _ i S h hi3 hp hm w hz back))
      have ht1 : 13 ≤ t := by omega
      clear g
      by_cases g : t = 13
      · subst g
        exact v_tableIn 497 k_Law_law_32 (by decide) (by decide) (by decide) (off := 465) rfl rfl (V.less (Nat.le_add_right _ _) (Nat.le_add_right _ _) (law_13 G nm hL _ _ i S h hi3 hp hm w hz back))
      have ht1 : 14 ≤ t := by omega
      clear g
      by_cases g : t = 14
      · subst g
        exact v_tableIn 530 k_Law_law_32 (by decide) (by decide) (by decide) (off := 498) rfl rfl (V.less (Nat.le_add_right _ _) (Nat.le_add_right _ _) (law_14 G nm hL _ _ i S h hi3 hp hm w hz back))
      have ht1 : 15 ≤ t := by omega
      clear g
      by_cases g : t = 15
      · subst g
        exact v_tableIn 543 k_Law_law_32 (by decide) (by decide) (by decide) (off := 511) rfl rfl (V.less (Nat.le_add_right _ _) (Nat.le_add_right _ _) (law_15 G nm hL _ _ i S h hi3 hp hm w hz back))
      have ht1 : 16 ≤ t := by omega
      clear g
      by_cases g : t = 16
      · subst g
        exact v_tableIn 556 k_Law_law_32 (by decide) (by decide) (by decide) (off := 524) rfl rfl (V.less (Nat.le_add_right _ _) (Nat.le_add_right _ _) (law_16 G nm hL _ _ i S h hi3 hp hm w hz back))
      have ht1 : 17 ≤ t := by omega
      clear g
      by_cases g : t = 17
      · subst g
        exact v_tableIn 579 k_Law_law_32 (by decide) (by decide) (by decide) (off := 547) rfl rfl (V.less (Nat.le_add_right _ _) (Nat.le_add_right _ _) (law_17 G nm hL _ _ i S h hi3 hp hm w hz back))
      have ht1 : 18 ≤ t := by omega
      clear g
      by_cases g : t = 18
      · subst g
        exact v_tableIn 592 k_Law_law_32 (by decide) (by decide) (by decide) (off := 560) rfl rfl (V.less (Nat.le_add_right _ _) (Nat.le_add_right _ _) (law_18 G nm hL _ _ i S h hi3 hp hm w hz back))
      have ht1 : 19 ≤ t := by omega
      clear g
      by_cases g : t = 19
      · subst g
        exact v_tableIn 605 k_Law_law_32 (by decide) (by decide) (by decide) (off := 573) rfl rfl (law_19 G nm hL _ _ i S h hi3 hp hm w hz back)
      have ht1 : 20 ≤ t := by omega
      clear g
      by_cases g : t = 20
      · subst g
        exact v_tableIn 639 k_Law_law_32 (by decide) (by decide) (by decide) (off := 607) rfl rfl (V.less (Nat.le_add_right _ _) (Nat.le_add_right _ _) (law_20 G nm hL _ _ i S h hi3 hp hm w hz back))
      have ht1 : 21 ≤ t := by omega
      clear g
      by_cases g : t = 21
      · subst g
        exact v_tableIn 672 k_Law_law_32 (by decide) (by decide) (by decide) (off := 640) rfl rfl (V.less (Nat.le_add_right _ _) (Nat.le_add_right _ _) (law_21 G nm hL _ _ i S h hi3 hp hm w hz back))
      have ht1 : 22 ≤ t := by omega
      clear g
      by_cases g : t = 22
      · subst g
        exact v_tableIn 695 k_Law_law_32 (by decide) (by decide) (by decide) (off := 663) rfl rfl (V.less (Nat.le_add_right _ _) (Nat.le_add_right _ _) (law_22 G nm hL _ _ i S h hi3 hp hm w hz back))
      have ht1 : 23 ≤ t := by omega
      clear g
      by_cases g : t = 23
      · subst g
        exact v_tableIn 708 k_Law_law_32 (by decide) (by decide) (by decide) (off := 676) rfl rfl (V.less (Nat.le_add_right _ _) (Nat.le_add_right _ _) (law_23 G nm hL _ _ i S h hi3 hp hm w hz back))
      have ht1 : 24 ≤ t := by omega
      clear g
      by_cases g : t = 24
      · subst g
        exact v_tableIn 731 k_Law_law_32 (by decide) (by decide) (by decide) (off := 699) rfl rfl (V.less (Nat.le_add_right _ _) (Nat.le_add_right _ _) (law_24 G nm hL _ _ i S h hi3 hp hm w hz back))
      have ht1 : 25 ≤ t := by omega
      clear g
      by_cases g : t = 25
      · subst g
        exact v_tableIn 754 k_Law_law_32 (by decide) (by decide) (by decide) (off := 722) rfl rfl (V.less (Nat.le_add_right _ _) (Nat.le_add_right _ _) (law_25 G nm hL _ _ i S h hi3 hp hm w hz back))
      have ht1 : 26 ≤ t := by omega
      clear g
      by_cases g : t = 26
      · subst g
        exact v_tableIn 787 k_Law_law_32 (by decide) (by decide) (by decide) (off := 755) rfl rfl (V.less (Nat.le_add_right _ _) (Nat.le_add_right _ _) (law_26 G nm hL _ _ i S h hi3 hp hm w hz back))
      have ht1 : 27 ≤ t := by omega
      clear g
      by_cases g : t = 27
      · subst g
        exact v_tableIn 820 k_Law_law_32 (by decide) (by decide) (by decide) (off := 788) rfl rfl (V.less (Nat.le_add_right _ _) (Nat.le_add_right _ _) (law_27 G nm hL _ _ i S h hi3 hp hm w hz back))
      have ht1 : 28 ≤ t := by omega
      clear g
      by_cases g : t = 28
      · subst g
        exact v_tableIn 833 k_Law_law_32 (by decide) (by decide) (by decide) (off := 801) rfl rfl (V.less (Nat.le_add_right _ _) (Nat.le_add_right _ _) (law_28 G nm hL _ _ i S h hi3 hp hm w hz back))
      have ht1 : 29 ≤ t := by omega
      clear g
      by_cases g : t = 29
      · subst g
        exact v_tableIn 846 k_Law_law_32 (by decide) (by decide) (by decide) (off := 814) rfl rfl (V.less (Nat.le_add_right _ _) (Nat.le_add_right _ _) (law_29 G nm hL _ _ i S h hi3 hp hm w hz back))
      have ht1 : 30 ≤ t := by omega
      clear g
      refine v_tableOut 869 k_Law_law_32 (by omega) (by omega) rfl ?_
      exact V.less (rc := 144 * k) (rs := 1008 * k) (by omega) (by omega) (back S h hp hm w hz)
set_option maxHeartbeats 4000000 in
set_option maxRecDepth 20000 in
theorem law_V (G : Gx) (nm : String) (hL : gL G ≤ 1536) (h : AH) (z0 : h.1 = 100) : V G (Y_Law nm) 11 73812 519348 0 [some (aR 0), none, none, none] [] h (fun v _ => v = some (aI 1)) := by
  refine v_nw (rc := 73811) (rs := 519340) (k := 7) (N := 8) (C := R_Main) (T := T_Main) (fs := [aN, aN, aI 0, aN, aN, aN, aN, aN]) rfl nc_Law_7 ni_Main nz_Main (fun j hj => by rcases (show j = 0 ∨ j = 1 ∨ j = 2 ∨ j = 3 ∨ j = 4 ∨ j = 5 ∨ j = 6 ∨ j = 7 by omega) with rfl | rfl | rfl | rfl | rfl | rfl | rfl | rfl <;> rfl) k_Law_law_0 (fun h1 m1 => ?_)
  obtain ⟨a1, b1, -⟩ := m1
  rw [z0] at a1 b1 ⊢
  refine v_dup k_Law_law_3 rfl ?_
  refine v_callI (rc := 73739) (rs := 516475) (mc := 72) (ms := 2865) mo_Main_init mi_Main_init rfl rfl lk_Law_9 k_Law_law_4 rfl (Nat.le_of_ble_eq_true rfl) rfl (Nat.le_of_ble_eq_true rfl) (c_Main_init G b1 a1) (fun v1 h2 q1 => ?_)
  obtain ⟨rfl, z2, hp, -⟩ := q1
  refine v_astore_n k_Law_law_7 ⟨Nat.le_of_ble_eq_true rfl, Nat.le_of_ble_eq_true rfl⟩ ?_
  refine v_nw (rc := 73738) (rs := 516458) (k := 8) (N := 17) (C := R_Model) (T := T_Model) (fs := [aN, aN, aN, aN, aI 0, aN, aI 0, aI 0, aI 0, aN, aN, aI 0, aN, aN, aI 0, aN, aI 0]) rfl nc_Law_10 ni_Model nz_Model (fun j hj => by rcases (show j = 0 ∨ j = 1 ∨ j = 2 ∨ j = 3 ∨ j = 4 ∨ j = 5 ∨ j = 6 ∨ j = 7 ∨ j = 8 ∨ j = 9 ∨ j = 10 ∨ j = 11 ∨ j = 12 ∨ j = 13 ∨ j = 14 ∨ j = 15 ∨ j = 16 by omega) with rfl | rfl | rfl | rfl | rfl | rfl | rfl | rfl | rfl | rfl | rfl | rfl | rfl | rfl | rfl | rfl | rfl <;> rfl) k_Law_law_8 (fun h3 m3 => ?_)
  obtain ⟨a3, b3, c3⟩ := m3
  have z2 : h2.1 = 173 := z2
  rw [z2] at a3 b3 c3 ⊢
  have hp := hp.fu (n := 173) (fun q hq => c3 q (by omega)) (by omega)
  refine v_dup k_Law_law_11 rfl ?_
  refine v_callI (rc := 73728) (rs := 516100) (mc := 10) (ms := 358) mo_Model_init mi_Model_init rfl rfl lk_Law_12 k_Law_law_12 rfl (Nat.le_of_ble_eq_true rfl) rfl (Nat.le_of_ble_eq_true rfl) (c_Model_init G b3 a3) (fun v3 h4 q3 => ?_)
  obtain ⟨rfl, z4, hm, u4⟩ := q3
  have hp := hp.fu u4 (by omega)
  refine v_astore_n k_Law_law_15 ⟨Nat.le_of_ble_eq_true rfl, Nat.le_of_ble_eq_true rfl⟩ ?_
  refine v_iconst k_Law_law_16 ?_
  refine v_istore_n k_Law_law_17 ⟨Nat.le_of_ble_eq_true rfl, Nat.le_of_ble_eq_true rfl⟩ ?_
  exact V.less (by omega) (by omega) (law_loop G nm hL 512 0 S0 h4 (by omega) (by omega) hp hm wSt_S0 (by omega))
