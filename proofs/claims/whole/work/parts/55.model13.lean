theorem pMS.fu {h h' : AH} {m n : Nat} {S : St} (p : pMS h m S) (f : FrU n h h') (ha : m + 11 ≤ n) : pMS h' m S := by
  obtain ⟨X, a, ⟨fp, sn, o1, o2, o3⟩, rf, th, be, tl, fd, rw_, ⟨c1, c2, c3, c4, c5, c6, c7, c8, c10⟩, r⟩ := p
  exact ⟨X, a, ⟨fp, sn, f.at o1 (by omega), f.at o2 (by omega), o3⟩, rf, th, be, tl, fd, rw_, ⟨f.at c1 (by omega), f.at c2 (by omega), f.at c3 (by omega), f.at c4 (by omega), f.at c5 (by omega), f.at c6 (by omega), f.at c7 (by omega), f.at c8 (by omega), f.at c10 (by omega)⟩, r⟩
theorem nowR_0 : nowR (((List.replicate 80 0).set 2 1).set 4 53) K0 := ⟨by decide, by decide, by decide, by decide, by decide, by decide, fun i hi => absurd hi (Nat.not_lt_zero i), fun i hi => absurd hi (Nat.not_lt_zero i)⟩
theorem rf_0 : ∀ i : Nat, i < 6 → (List.replicate 7 (0 : Int)).getD (i + 1) 0 = rget [0, 0, 0, 0, 0, 0] i := by decide
set_option maxHeartbeats 4000000 in
set_option maxRecDepth 20000 in
theorem c_Model_init (G : Gx) {h : AH} {o : Nat} (h0 : h.2 o = some (aO 8 [aN, aN, aN, aN, aI 0, aN, aI 0, aI 0, aI 0, aN, aN, aI 0, aN, aN, aI 0, aN, aI 0])) (hz : h.1 = o + 1) : Ct G Y_Model_init 1 10 358 [aR o] h (fun v h' => v = none ∧ h'.1 = o + 11 ∧ pMS h' o S0 ∧ FrU o h h') := by
  refine Ct.of_V mo_Model_init rfl (Nat.le_of_ble_eq_true rfl) rfl ?_
  have o0 := h0
  have u0 : FrU o h h := FrU.rf
  have z0 := hz
  refine v_aload_n k_Model_init_0 rfl ?_
  refine v_objI lo_Model_7 k_Model_init_1 (Nat.le_of_ble_eq_true rfl) (Nat.le_of_ble_eq_true rfl) ?_
  refine v_aload_n k_Model_init_4 rfl ?_
  refine v_bipush k_Model_init_5 (by decide) ?_
  refine v_nwa (rc := 9) (rs := 351) (t := 0) (n := 7) (aty0 := .int) (by decide) rfl ac_int (by decide) k_Model_init_7 (fun h1 m1 => ?_)
  have w1 := Mk.u m1 (Nat.le_of_eq z0.symm)
  obtain ⟨a1, b1, -⟩ := m1
  rw [z0] at a1 b1 ⊢
  have o0 := w1.at o0 (by omega)
  have u0 := u0.tr w1 (by omega)
  have z0 := a1
  refine v_put fl_Model_1 o0 (Nat.le_of_ble_eq_true rfl) (fun r hr => by cases hr; exact Or.inr ⟨rfl, rfl, rfl⟩) rfl rfl k_Model_init_9 (fun h2 e2 f2 => ?_)
  have o0 := e2
  have b1 := f2.at b1 (by omega)
  have u0 := u0.tr (f2.u (Nat.le_refl _)) (by omega)
  have z0 := f2.1.trans z0
  refine v_aload_n k_Model_init_12 rfl ?_
  refine v_bipush k_Model_init_13 (by decide) ?_
  refine v_nwa (rc := 8) (rs := 271) (t := 0) (n := 80) (aty0 := .int) (by decide) rfl ac_int (by decide) k_Model_init_15 (fun h3 m3 => ?_)
  have w3 := Mk.u m3 (Nat.le_of_eq z0.symm)
  obtain ⟨a3, b3, -⟩ := m3
  rw [z0] at a3 b3 ⊢
  have o0 := w3.at o0 (by omega)
  have b1 := w3.at b1 (by omega)
  have u0 := u0.tr w3 (by omega)
  have z0 := a3
  refine v_put fl_Model_13 o0 (Nat.le_of_ble_eq_true rfl) (fun r hr => by cases hr; exact Or.inr ⟨rfl, rfl, rfl⟩) rfl rfl k_Model_init_17 (fun h4 e4 f4 => ?_)
  have o0 := e4
  have b1 := f4.at b1 (by omega)
  have b3 := f4.at b3 (by omega)
  have u0 := u0.tr (f4.u (Nat.le_refl _)) (by omega)
  have z0 := f4.1.trans z0
  refine v_aload_n k_Model_init_20 rfl ?_
  refine v_bipush k_Model_init_21 (by decide) ?_
  refine v_nwa (rc := 7) (rs := 191) (t := 0) (n := 80) (aty0 := .int) (by decide) rfl ac_int (by decide) k_Model_init_23 (fun h5 m5 => ?_)
  have w5 := Mk.u m5 (Nat.le_of_eq z0.symm)
  obtain ⟨a5, b5, -⟩ := m5
  rw [z0] at a5 b5 ⊢
  have o0 := w5.at o0 (by omega)
  have b1 := w5.at b1 (by omega)
  have b3 := w5.at b3 (by omega)
  have u0 := u0.tr w5 (by omega)
  have z0 := a5
  refine v_put fl_Model_16 o0 (Nat.le_of_ble_eq_true rfl) (fun r hr => by cases hr; exact Or.inr ⟨rfl, rfl, rfl⟩) rfl rfl k_Model_init_25 (fun h6 e6 f6 => ?_)
  have o0 := e6
  have b1 := f6.at b1 (by omega)
  have b3 := f6.at b3 (by omega)
  have b5 := f6.at b5 (by omega)
  have u0 := u0.tr (f6.u (Nat.le_refl _)) (by omega)
  have z0 := f6.1.trans z0
  refine v_aload_n k_Model_init_28 rfl ?_
  refine v_bipush k_Model_init_29 (by decide) ?_
  refine v_nwa (rc := 6) (rs := 111) (t := 0) (n := 80) (aty0 := .int) (by decide) rfl ac_int (by decide) k_Model_init_31 (fun h7 m7 => ?_)
  have w7 := Mk.u m7 (Nat.le_of_eq z0.symm)
  obtain ⟨a7, b7, -⟩ := m7
  rw [z0] at a7 b7 ⊢
  have o0 := w7.at o0 (by omega)
  have b1 := w7.at b1 (by omega)
  have b3 := w7.at b3 (by omega)
  have b5 := w7.at b5 (by omega)
  have u0 := u0.tr w7 (by omega)
  have z0 := a7
  refine v_put fl_Model_19 o0 (Nat.le_of_ble_eq_true rfl) (fun r hr => by cases hr; exact Or.inr ⟨rfl, rfl, rfl⟩) rfl rfl k_Model_init_33 (fun h8 e8 f8 => ?_)
  have o0 := e8
  have b1 := f8.at b1 (by omega)
  have b3 := f8.at b3 (by omega)
  have b5 := f8.at b5 (by omega)
  have b7 := f8.at b7 (by omega)
  have u0 := u0.tr (f8.u (Nat.le_refl _)) (by omega)
  have z0 := f8.1.trans z0
  refine v_aload_n k_Model_init_36 rfl ?_
  refine v_bipush k_Model_init_37 (by decide) ?_
  refine v_nwa (rc := 5) (rs := 31) (t := 0) (n := 80) (aty0 := .int) (by decide) rfl ac_int (by decide) k_Model_init_39 (fun h9 m9 => ?_)
  have w9 := Mk.u m9 (Nat.le_of_eq z0.symm)
  obtain ⟨a9, b9, -⟩ := m9
  rw [z0] at a9 b9 ⊢
  have o0 := w9.at o0 (by omega)
  have b1 := w9.at b1 (by omega)
  have b3 := w9.at b3 (by omega)
  have b5 := w9.at b5 (by omega)
  have b7 := w9.at b7 (by omega)
  have u0 := u0.tr w9 (by omega)
  have z0 := a9
  refine v_put fl_Model_22 o0 (Nat.le_of_ble_eq_true rfl) (fun r hr => by cases hr; exact Or.inr ⟨rfl, rfl, rfl⟩) rfl rfl k_Model_init_41 (fun h10 e10 f10 => ?_)
  have o0 := e10
  have b1 := f10.at b1 (by omega)
  have b3 := f10.at b3 (by omega)
  have b5 := f10.at b5 (by omega)
  have b7 := f10.at b7 (by omega)
  have b9 := f10.at b9 (by omega)
  have u0 := u0.tr (f10.u (Nat.le_refl _)) (by omega)
  have z0 := f10.1.trans z0
  refine v_aload_n k_Model_init_44 rfl ?_
  refine v_iconst k_Model_init_45 ?_
  refine v_nwa (rc := 4) (rs := 27) (t := 2) (n := 4) (aty0 := .char) (by decide) rfl ac_char (by decide) k_Model_init_46 (fun h11 m11 => ?_)
  have w11 := Mk.u m11 (Nat.le_of_eq z0.symm)
  obtain ⟨a11, b11, -⟩ := m11
  rw [z0] at a11 b11 ⊢
  have o0 := w11.at o0 (by omega)
  have b1 := w11.at b1 (by omega)
  have b3 := w11.at b3 (by omega)
  have b5 := w11.at b5 (by omega)
  have b7 := w11.at b7 (by omega)
  have b9 := w11.at b9 (by omega)
  have u0 := u0.tr w11 (by omega)
  have z0 := a11
  refine v_dup k_Model_init_48 rfl ?_
  refine v_iconst k_Model_init_49 ?_
  refine v_bipush k_Model_init_50 (by decide) ?_
  refine v_cst b11 (by decide) (by decide) (narrow_chr (by decide)) k_Model_init_52 (fun h12 e12 f12 => ?_)
  have o0 := f12.at o0 (by omega)
  have b1 := f12.at b1 (by omega)
  have b3 := f12.at b3 (by omega)
  have b5 := f12.at b5 (by omega)
  have b7 := f12.at b7 (by omega)
  have b9 := f12.at b9 (by omega)
  have b11 := e12
  have u0 := u0.tr (f12.u (Nat.le_refl _)) (by omega)
  have z0 := f12.1.trans z0
  refine v_dup k_Model_init_53 rfl ?_
  refine v_iconst k_Model_init_54 ?_
  refine v_bipush k_Model_init_55 (by decide) ?_
  refine v_cst b11 (by decide) (by decide) (narrow_chr (by decide)) k_Model_init_57 (fun h13 e13 f13 => ?_)
  have o0 := f13.at o0 (by omega)
  have b1 := f13.at b1 (by omega)
  have b3 := f13.at b3 (by omega)
  have b5 := f13.at b5 (by omega)
  have b7 := f13.at b7 (by omega)
  have b9 := f13.at b9 (by omega)
  have b11 := e13
  have u0 := u0.tr (f13.u (Nat.le_refl _)) (by omega)
  have z0 := f13.1.trans z0
  refine v_dup k_Model_init_58 rfl ?_
  refine v_iconst k_Model_init_59 ?_
  refine v_bipush k_Model_init_60 (by decide) ?_
  refine v_cst b11 (by decide) (by decide) (narrow_chr (by decide)) k_Model_init_62 (fun h14 e14 f14 => ?_)
  have o0 := f14.at o0 (by omega)
  have b1 := f14.at b1 (by omega)
  have b3 := f14.at b3 (by omega)
  have b5 := f14.at b5 (by omega)
  have b7 := f14.at b7 (by omega)
  have b9 := f14.at b9 (by omega)
  have b11 := e14
  have u0 := u0.tr (f14.u (Nat.le_refl _)) (by omega)
  have z0 := f14.1.trans z0
  refine v_dup k_Model_init_63 rfl ?_
  refine v_iconst k_Model_init_64 ?_
  refine v_bipush k_Model_init_65 (by decide) ?_
  refine v_cst b11 (by decide) (by decide) (narrow_chr (by decide)) k_Model_init_67 (fun h15 e15 f15 => ?_)
  have o0 := f15.at o0 (by omega)
  have b1 := f15.at b1 (by omega)
  have b3 := f15.at b3 (by omega)
  have b5 := f15.at b5 (by omega)
  have b7 := f15.at b7 (by omega)
  have b9 := f15.at b9 (by omega)
  have b11 := e15
  have u0 := u0.tr (f15.u (Nat.le_refl _)) (by omega)
  have z0 := f15.1.trans z0
  refine v_put fl_Model_25 o0 (Nat.le_of_ble_eq_true rfl) (fun r hr => by cases hr; exact Or.inr ⟨rfl, rfl, rfl⟩) rfl rfl k_Model_init_68 (fun h16 e16 f16 => ?_)
  have o0 := e16
  have b1 := f16.at b1 (by omega)
  have b3 := f16.at b3 (by omega)
  have b5 := f16.at b5 (by omega)
  have b7 := f16.at b7 (by omega)
  have b9 := f16.at b9 (by omega)
  have b11 := f16.at b11 (by omega)
  have u0 := u0.tr (f16.u (Nat.le_refl _)) (by omega)
  have z0 := f16.1.trans z0
  refine v_aload_n k_Model_init_71 rfl ?_
  refine v_bipush k_Model_init_72 (by decide) ?_
  refine v_nwa (rc := 3) (rs := 21) (t := 2) (n := 6) (aty0 := .char) (by decide) rfl ac_char (by decide) k_Model_init_74 (fun h17 m17 => ?_)
  have w17 := Mk.u m17 (Nat.le_of_eq z0.symm)
  obtain ⟨a17, b17, -⟩ := m17
  rw [z0] at a17 b17 ⊢
  have o0 := w17.at o0 (by omega)
  have b1 := w17.at b1 (by omega)
  have b3 := w17.at b3 (by omega)
  have b5 := w17.at b5 (by omega)
  have b7 := w17.at b7 (by omega)
  have b9 := w17.at b9 (by omega)
  have b11 := w17.at b11 (by omega)
  have u0 := u0.tr w17 (by omega)
  have z0 := a17
  refine v_dup k_Model_init_76 rfl ?_
  refine v_iconst k_Model_init_77 ?_
  refine v_bipush k_Model_init_78 (by decide) ?_
  refine v_cst b17 (by decide) (by decide) (narrow_chr (by decide)) k_Model_init_80 (fun h18 e18 f18 => ?_)
  have o0 := f18.at o0 (by omega)
  have b1 := f18.at b1 (by omega)
  have b3 := f18.at b3 (by omega)
  have b5 := f18.at b5 (by omega)
  have b7 := f18.at b7 (by omega)
  have b9 := f18.at b9 (by omega)
  have b11 := f18.at b11 (by omega)
  have b17 := e18
  have u0 := u0.tr (f18.u (Nat.le_refl _)) (by omega)
  have z0 := f18.1.trans z0
  refine v_dup k_Model_init_81 rfl ?_
  refine v_iconst k_Model_init_82 ?_
  refine v_bipush k_Model_init_83 (by decide) ?_
  refine v_cst b17 (by decide) (by decide) (narrow_chr (by decide)) k_Model_init_85 (fun h19 e19 f19 => ?_)
  have o0 := f19.at o0 (by omega)
  have b1 := f19.at b1 (by omega)
  have b3 := f19.at b3 (by omega)
  have b5 := f19.at b5 (by omega)
  have b7 := f19.at b7 (by omega)
  have b9 := f19.at b9 (by omega)
  have b11 := f19.at b11 (by omega)
  have b17 := e19
  have u0 := u0.tr (f19.u (Nat.le_refl _)) (by omega)
  have z0 := f19.1.trans z0
  refine v_dup k_Model_init_86 rfl ?_
  refine v_iconst k_Model_init_87 ?_
  refine v_bipush k_Model_init_88 (by decide) ?_
  refine v_cst b17 (by decide) (by decide) (narrow_chr (by decide)) k_Model_init_90 (fun h20 e20 f20 => ?_)
  have o0 := f20.at o0 (by omega)
  have b1 := f20.at b1 (by omega)
  have b3 := f20.at b3 (by omega)
  have b5 := f20.at b5 (by omega)
  have b7 := f20.at b7 (by omega)
  have b9 := f20.at b9 (by omega)
  have b11 := f20.at b11 (by omega)
  have b17 := e20
  have u0 := u0.tr (f20.u (Nat.le_refl _)) (by omega)
  have z0 := f20.1.trans z0
  refine v_dup k_Model_init_91 rfl ?_
  refine v_iconst k_Model_init_92 ?_
  refine v_bipush k_Model_init_93 (by decide) ?_
  refine v_cst b17 (by decide) (by decide) (narrow_chr (by decide)) k_Model_init_95 (fun h21 e21 f21 => ?_)
  have o0 := f21.at o0 (by omega)
  have b1 := f21.at b1 (by omega)
  have b3 := f21.at b3 (by omega)
  have b5 := f21.at b5 (by omega)
  have b7 := f21.at b7 (by omega)
  have b9 := f21.at b9 (by omega)
  have b11 := f21.at b11 (by omega)
  have b17 := e21
  have u0 := u0.tr (f21.u (Nat.le_refl _)) (by omega)
  have z0 := f21.1.trans z0
  refine v_dup k_Model_init_96 rfl ?_
  refine v_iconst k_Model_init_97 ?_
  refine v_bipush k_Model_init_98 (by decide) ?_
  refine v_cst b17 (by decide) (by decide) (narrow_chr (by decide)) k_Model_init_100 (fun h22 e22 f22 => ?_)
  have o0 := f22.at o0 (by omega)
  have b1 := f22.at b1 (by omega)
  have b3 := f22.at b3 (by omega)
  have b5 := f22.at b5 (by omega)
  have b7 := f22.at b7 (by omega)
  have b9 := f22.at b9 (by omega)
  have b11 := f22.at b11 (by omega)
  have b17 := e22
  have u0 := u0.tr (f22.u (Nat.le_refl _)) (by omega)
  have z0 := f22.1.trans z0
  refine v_dup k_Model_init_101 rfl ?_
  refine v_iconst k_Model_init_102 ?_
  refine v_bipush k_Model_init_103 (by decide) ?_
  refine v_cst b17 (by decide) (by decide) (narrow_chr (by decide)) k_Model_init_105 (fun h23 e23 f23 => ?_)
  have o0 := f23.at o0 (by omega)
  have b1 := f23.at b1 (by omega)
  have b3 := f23.at b3 (by omega)
  have b5 := f23.at b5 (by omega)
  have b7 := f23.at b7 (by omega)
  have b9 := f23.at b9 (by omega)
  have b11 := f23.at b11 (by omega)
  have b17 := e23
  have u0 := u0.tr (f23.u (Nat.le_refl _)) (by omega)
  have z0 := f23.1.trans z0
  refine v_put fl_Model_29 o0 (Nat.le_of_ble_eq_true rfl) (fun r hr => by cases hr; exact Or.inr ⟨rfl, rfl, rfl⟩) rfl rfl k_Model_init_106 (fun h24 e24 f24 => ?_)
  have o0 := e24
  have b1 := f24.at b1 (by omega)
  have b3 := f24.at b3 (by omega)
  have b5 := f24.at b5 (by omega)
  have b7 := f24.at b7 (by omega)
  have b9 := f24.at b9 (by omega)
  have b11 := f24.at b11 (by omega)
  have b17 := f24.at b17 (by omega)
  have u0 := u0.tr (f24.u (Nat.le_refl _)) (by omega)
  have z0 := f24.1.trans z0
  refine v_aload_n k_Model_init_109 rfl ?_
  refine v_iconst k_Model_init_110 ?_
  refine v_nwa (rc := 2) (rs := 18) (t := 0) (n := 3) (aty0 := .int) (by decide) rfl ac_int (by decide) k_Model_init_111 (fun h25 m25 => ?_)
  have w25 := Mk.u m25 (Nat.le_of_eq z0.symm)
  obtain ⟨a25, b25, -⟩ := m25
  rw [z0] at a25 b25 ⊢
  have o0 := w25.at o0 (by omega)
  have b1 := w25.at b1 (by omega)
  have b3 := w25.at b3 (by omega)
  have b5 := w25.at b5 (by omega)
  have b7 := w25.at b7 (by omega)
  have b9 := w25.at b9 (by omega)
  have b11 := w25.at b11 (by omega)
  have b17 := w25.at b17 (by omega)
  have u0 := u0.tr w25 (by omega)
  have z0 := a25
  refine v_put fl_Model_32 o0 (Nat.le_of_ble_eq_true rfl) (fun r hr => by cases hr; exact Or.inr ⟨rfl, rfl, rfl⟩) rfl rfl k_Model_init_113 (fun h26 e26 f26 => ?_)
  have o0 := e26
  have b1 := f26.at b1 (by omega)
  have b3 := f26.at b3 (by omega)
  have b5 := f26.at b5 (by omega)
  have b7 := f26.at b7 (by omega)
  have b9 := f26.at b9 (by omega)
  have b11 := f26.at b11 (by omega)
  have b17 := f26.at b17 (by omega)
  have b25 := f26.at b25 (by omega)
  have u0 := u0.tr (f26.u (Nat.le_refl _)) (by omega)
  have z0 := f26.1.trans z0
  refine v_aload_n k_Model_init_116 rfl ?_
  refine v_bipush k_Model_init_117 (by decide) ?_
  refine v_nwa (rc := 1) (rs := 12) (t := 0) (n := 6) (aty0 := .int) (by decide) rfl ac_int (by decide) k_Model_init_119 (fun h27 m27 => ?_)
  have w27 := Mk.u m27 (Nat.le_of_eq z0.symm)
  obtain ⟨a27, b27, -⟩ := m27
  rw [z0] at a27 b27 ⊢
  have o0 := w27.at o0 (by omega)
  have b1 := w27.at b1 (by omega)
  have b3 := w27.at b3 (by omega)
  have b5 := w27.at b5 (by omega)
  have b7 := w27.at b7 (by omega)
  have b9 := w27.at b9 (by omega)
  have b11 := w27.at b11 (by omega)
  have b17 := w27.at b17 (by omega)
  have b25 := w27.at b25 (by omega)
  have u0 := u0.tr w27 (by omega)
  have z0 := a27
  refine v_put fl_Model_35 o0 (Nat.le_of_ble_eq_true rfl) (fun r hr => by cases hr; exact Or.inr ⟨rfl, rfl, rfl⟩) rfl rfl k_Model_init_121 (fun h28 e28 f28 => ?_)
  have o0 := e28
  have b1 := f28.at b1 (by omega)
  have b3 := f28.at b3 (by omega)
  have b5 := f28.at b5 (by omega)
  have b7 := f28.at b7 (by omega)
  have b9 := f28.at b9 (by omega)
  have b11 := f28.at b11 (by omega)
  have b17 := f28.at b17 (by omega)
  have b25 := f28.at b25 (by omega)
  have b27 := f28.at b27 (by omega)
  have u0 := u0.tr (f28.u (Nat.le_refl _)) (by omega)
  have z0 := f28.1.trans z0
  refine v_aload_n k_Model_init_124 rfl ?_
  refine v_bipush k_Model_init_125 (by decide) ?_
  refine v_nwa (rc := 0) (rs := 0) (t := 0) (n := 12) (aty0 := .int) (by decide) rfl ac_int (by decide) k_Model_init_127 (fun h29 m29 => ?_)
  have w29 := Mk.u m29 (Nat.le_of_eq z0.symm)
  obtain ⟨a29, b29, -⟩ := m29
  rw [z0] at a29 b29 ⊢
  have o0 := w29.at o0 (by omega)
  have b1 := w29.at b1 (by omega)
  have b3 := w29.at b3 (by omega)
  have b5 := w29.at b5 (by omega)
  have b7 := w29.at b7 (by omega)
  have b9 := w29.at b9 (by omega)
  have b11 := w29.at b11 (by omega)
  have b17 := w29.at b17 (by omega)
  have b25 := w29.at b25 (by omega)
  have b27 := w29.at b27 (by omega)
  have u0 := u0.tr w29 (by omega)
  have z0 := a29
  refine v_put fl_Model_38 o0 (Nat.le_of_ble_eq_true rfl) (fun r hr => by cases hr; exact Or.inr ⟨rfl, rfl, rfl⟩) rfl rfl k_Model_init_129 (fun h30 e30 f30 => ?_)
  have o0 := e30
  have b1 := f30.at b1 (by omega)
  have b3 := f30.at b3 (by omega)
  have b5 := f30.at b5 (by omega)
  have b7 := f30.at b7 (by omega)
  have b9 := f30.at b9 (by omega)
  have b11 := f30.at b11 (by omega)
  have b17 := f30.at b17 (by omega)
  have b25 := f30.at b25 (by omega)
  have b27 := f30.at b27 (by omega)
  have b29 := f30.at b29 (by omega)
  have u0 := u0.tr (f30.u (Nat.le_refl _)) (by omega)
  have z0 := f30.1.trans z0
  refine v_aload_n k_Model_init_132 rfl ?_
  refine v_getf fl_Model_13 o0 rfl k_Model_init_133 ?_
  refine v_iconst k_Model_init_136 ?_
  refine v_iconst k_Model_init_137 ?_
  refine v_ist b3 (by decide) (by decide) k_Model_init_138 (fun h31 e31 f31 => ?_)
  have o0 := f31.at o0 (by omega)
  have b1 := f31.at b1 (by omega)
  have b3 := e31
  have b5 := f31.at b5 (by omega)
  have b7 := f31.at b7 (by omega)
  have b9 := f31.at b9 (by omega)
  have b11 := f31.at b11 (by omega)
  have b17 := f31.at b17 (by omega)
  have b25 := f31.at b25 (by omega)
  have b27 := f31.at b27 (by omega)
  have b29 := f31.at b29 (by omega)
  have u0 := u0.tr (f31.u (Nat.le_refl _)) (by omega)
  have z0 := f31.1.trans z0
  refine v_aload_n k_Model_init_139 rfl ?_
  refine v_getf fl_Model_13 o0 rfl k_Model_init_140 ?_
  refine v_iconst k_Model_init_143 ?_
  refine v_bipush k_Model_init_144 (by decide) ?_
  refine v_ist b3 (by decide) (by decide) k_Model_init_146 (fun h32 e32 f32 => ?_)
  have o0 := f32.at o0 (by omega)
  have b1 := f32.at b1 (by omega)
  have b3 := e32
  have b5 := f32.at b5 (by omega)
  have b7 := f32.at b7 (by omega)
  have b9 := f32.at b9 (by omega)
  have b11 := f32.at b11 (by omega)
  have b17 := f32.at b17 (by omega)
  have b25 := f32.at b25 (by omega)
  have b27 := f32.at b27 (by omega)
  have b29 := f32.at b29 (by omega)
  have u0 := u0.tr (f32.u (Nat.le_refl _)) (by omega)
  have z0 := f32.1.trans z0
  refine v_return k_Model_init_147 rfl ?_
  exact ⟨rfl, z0, ⟨(0, 0, 0, 0, 0, 0, 0), _, ⟨0, _, o0, b27, rfl⟩, _, _, _, _, _, _, ⟨b1, b3, b5, b7, b9, b11, b17, b25, b29⟩, ⟨rfl, rfl, rfl⟩, ⟨rfl, rfl, rfl, rfl, rfl, rfl⟩, nowR_0, fun q => absurd q (by decide), rfl, rfl, rf_0⟩, u0⟩
