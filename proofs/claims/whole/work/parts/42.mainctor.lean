theorem pMain.fu {h h' : AH} {o n : Nat} {S : St} (p : pMain h o S) (f : FrU n h h') (ha : o + 73 ≤ n) : pMain h' o S := by
  obtain ⟨p0, ⟨sg, sd, p1⟩, ⟨sg2, sd2, p2⟩, ⟨K, a, b, c, d, e, p3⟩, ⟨es, ls, p4⟩, p5, p6, p7⟩ := p
  exact ⟨f.at p0 (by omega), ⟨sg, sd, p1.fu f (by omega)⟩, ⟨sg2, sd2, p2.fu f (by omega)⟩, ⟨K, a, b, c, d, e, p3.fu f (by omega)⟩, ⟨es, ls, p4.fu f (by omega)⟩, p5.fu f (by omega), p6.fu f (by omega), p7.fu f (by omega)⟩
def S0 : St := (K0, K0, 0, [], [], [0, 0, 0, 0, 0, 0])
theorem vK_K0 : vK K0 12 6 := by
  refine ⟨rfl, by decide, ?_, ?_, by decide, by decide, rfl, rfl, ?_, ?_, ?_, by decide, by decide, by decide, by decide⟩ <;> (intro x hx; cases hx)
theorem wSt_S0 : wSt S0 := ⟨vK_K0, vK_K0, fun x hx => (by cases hx), fun x hx => (by cases hx), rfl, by decide, by decide, by decide⟩
set_option maxHeartbeats 4000000 in
set_option maxRecDepth 20000 in
theorem c_Main_init (G : Gx) {h : AH} {o : Nat} (h0 : h.2 o = some (aO 7 [aN, aN, aI 0, aN, aN, aN, aN, aN])) (hz : h.1 = o + 1) : Ct G Y_Main_init 5 72 2865 [aR o] h (fun v h' => v = none ∧ h'.1 = o + 73 ∧ pMain h' o S0 ∧ FrU o h h') := by
  refine Ct.of_V mo_Main_init rfl (Nat.le_of_ble_eq_true rfl) rfl ?_
  have o0 := h0
  have u0 : FrU o h h := FrU.rf
  have z0 := hz
  refine v_aload_n k_Main_init_0 rfl ?_
  refine v_objI lo_Main_3 k_Main_init_1 (Nat.le_of_ble_eq_true rfl) (Nat.le_of_ble_eq_true rfl) ?_
  refine v_aload_n k_Main_init_4 rfl ?_
  refine v_nw (rc := 71) (rs := 2856) (k := 0) (N := 9) (C := R_Canon) (T := T_Canon) (fs := [aN, aN, aN, aN, aN, aN, aI 0, aI 0, aI 0]) rfl nc_Main_9 ni_Canon nz_Canon (fun j hj => by rcases (show j = 0 ∨ j = 1 ∨ j = 2 ∨ j = 3 ∨ j = 4 ∨ j = 5 ∨ j = 6 ∨ j = 7 ∨ j = 8 by omega) with rfl | rfl | rfl | rfl | rfl | rfl | rfl | rfl | rfl <;> rfl) k_Main_init_5 (fun h1 m1 => ?_)
  have w1 := Mk.u m1 (Nat.le_of_eq z0.symm)
  obtain ⟨a1, b1, -⟩ := m1
  rw [z0] at a1 b1 ⊢
  have o0 := w1.at o0 (by omega)
  have u0 := u0.tr w1 (by omega)
  refine v_dup k_Main_init_8 rfl ?_
  refine v_callI (rc := 54) (rs := 2738) (mc := 17) (ms := 118) mo_Canon_init mi_Canon_init rfl rfl lk_Main_11 k_Main_init_9 rfl (Nat.le_of_ble_eq_true rfl) rfl (Nat.le_of_ble_eq_true rfl) (c_Canon_init G b1 a1) (fun v1 g1 q1 => ?_)
  obtain ⟨rfl, z0, p1, x1⟩ := q1
  have o0 := x1.at o0 (by omega)
  have u0 := u0.tr x1 (by omega)
  refine v_put fl_Main_12 o0 (Nat.le_of_ble_eq_true rfl) (fun r hr => by cases hr; exact Or.inr ⟨rfl, rfl, rfl⟩) rfl rfl k_Main_init_12 (fun h2 e2 f2 => ?_)
  have o0 := e2
  have p1 := p1.fr f2 (by omega)
  have u0 := u0.tr (f2.u (Nat.le_refl _)) (by omega)
  have z0 := f2.1.trans z0
  refine v_aload_n k_Main_init_15 rfl ?_
  refine v_nw (rc := 53) (rs := 2729) (k := 0) (N := 9) (C := R_Canon) (T := T_Canon) (fs := [aN, aN, aN, aN, aN, aN, aI 0, aI 0, aI 0]) rfl nc_Main_9 ni_Canon nz_Canon (fun j hj => by rcases (show j = 0 ∨ j = 1 ∨ j = 2 ∨ j = 3 ∨ j = 4 ∨ j = 5 ∨ j = 6 ∨ j = 7 ∨ j = 8 by omega) with rfl | rfl | rfl | rfl | rfl | rfl | rfl | rfl | rfl <;> rfl) k_Main_init_16 (fun h3 m3 => ?_)
  have w3 := Mk.u m3 (Nat.le_of_eq z0.symm)
  obtain ⟨a3, b3, -⟩ := m3
  rw [z0] at a3 b3 ⊢
  have o0 := w3.at o0 (by omega)
  have p1 := p1.fu w3 (by omega)
  have u0 := u0.tr w3 (by omega)
  refine v_dup k_Main_init_19 rfl ?_
  refine v_callI (rc := 36) (rs := 2611) (mc := 17) (ms := 118) mo_Canon_init mi_Canon_init rfl rfl lk_Main_11 k_Main_init_20 rfl (Nat.le_of_ble_eq_true rfl) rfl (Nat.le_of_ble_eq_true rfl) (c_Canon_init G b3 a3) (fun v3 g3 q3 => ?_)
  obtain ⟨rfl, z0, p3, x3⟩ := q3
  have o0 := x3.at o0 (by omega)
  have p1 := p1.fu x3 (by omega)
  have u0 := u0.tr x3 (by omega)
  refine v_put fl_Main_16 o0 (Nat.le_of_ble_eq_true rfl) (fun r hr => by cases hr; exact Or.inr ⟨rfl, rfl, rfl⟩) rfl rfl k_Main_init_23 (fun h4 e4 f4 => ?_)
  have o0 := e4
  have p1 := p1.fr f4 (by omega)
  have p3 := p3.fr f4 (by omega)
  have u0 := u0.tr (f4.u (Nat.le_refl _)) (by omega)
  have z0 := f4.1.trans z0
  refine v_aload_n k_Main_init_26 rfl ?_
  refine v_iconst k_Main_init_27 ?_
  refine v_put fl_Main_19 o0 (Nat.le_of_ble_eq_true rfl) (fun r hr => by cases hr; exact Or.inl rfl) rfl rfl k_Main_init_28 (fun h5 e5 f5 => ?_)
  have o0 := e5
  have p1 := p1.fr f5 (by omega)
  have p3 := p3.fr f5 (by omega)
  have u0 := u0.tr (f5.u (Nat.le_refl _)) (by omega)
  have z0 := f5.1.trans z0
  refine v_aload_n k_Main_init_31 rfl ?_
  refine v_nw (rc := 35) (rs := 2608) (k := 2) (N := 3) (C := R_Mind) (T := T_Mind) (fs := [aN, aN, aN]) rfl nc_Main_23 ni_Mind nz_Mind (fun j hj => by rcases (show j = 0 ∨ j = 1 ∨ j = 2 by omega) with rfl | rfl | rfl <;> rfl) k_Main_init_32 (fun h6 m6 => ?_)
  have w6 := Mk.u m6 (Nat.le_of_eq z0.symm)
  obtain ⟨a6, b6, -⟩ := m6
  rw [z0] at a6 b6 ⊢
  have o0 := w6.at o0 (by omega)
  have p1 := p1.fu w6 (by omega)
  have p3 := p3.fu w6 (by omega)
  have u0 := u0.tr w6 (by omega)
  refine v_dup k_Main_init_35 rfl ?_
  refine v_callI (rc := 10) (rs := 121) (mc := 25) (ms := 2487) mo_Mind_init mi_Mind_init rfl rfl lk_Main_25 k_Main_init_36 rfl (Nat.le_of_ble_eq_true rfl) rfl (Nat.le_of_ble_eq_true rfl) (c_Mind_init G b6 a6) (fun v6 g6 q6 => ?_)
  obtain ⟨rfl, z0, p6, x6⟩ := q6
  have o0 := x6.at o0 (by omega)
  have p1 := p1.fu x6 (by omega)
  have p3 := p3.fu x6 (by omega)
  have u0 := u0.tr x6 (by omega)
  refine v_put fl_Main_26 o0 (Nat.le_of_ble_eq_true rfl) (fun r hr => by cases hr; exact Or.inr ⟨rfl, rfl, rfl⟩) rfl rfl k_Main_init_39 (fun h7 e7 f7 => ?_)
  have o0 := e7
  have p1 := p1.fr f7 (by omega)
  have p3 := p3.fr f7 (by omega)
  have p6 := p6.fr f7 (by omega)
  have u0 := u0.tr (f7.u (Nat.le_refl _)) (by omega)
  have z0 := f7.1.trans z0
  refine v_aload_n k_Main_init_42 rfl ?_
  refine v_nw (rc := 9) (rs := 119) (k := 6) (N := 2) (C := R_Walks) (T := T_Walks) (fs := [aN, aN]) rfl nc_Main_30 ni_Walks nz_Walks (fun j hj => by rcases (show j = 0 ∨ j = 1 by omega) with rfl | rfl <;> rfl) k_Main_init_43 (fun h8 m8 => ?_)
  have w8 := Mk.u m8 (Nat.le_of_eq z0.symm)
  obtain ⟨a8, b8, -⟩ := m8
  rw [z0] at a8 b8 ⊢
  have o0 := w8.at o0 (by omega)
  have p1 := p1.fu w8 (by omega)
  have p3 := p3.fu w8 (by omega)
  have p6 := p6.fu w8 (by omega)
  have u0 := u0.tr w8 (by omega)
  refine v_dup k_Main_init_46 rfl ?_
  refine v_callI (rc := 7) (rs := 105) (mc := 2) (ms := 14) mo_Walks_init mi_Walks_init rfl rfl lk_Main_32 k_Main_init_47 rfl (Nat.le_of_ble_eq_true rfl) rfl (Nat.le_of_ble_eq_true rfl) (c_Walks_init G b8 a8) (fun v8 g8 q8 => ?_)
  obtain ⟨rfl, z0, p8, x8⟩ := q8
  have o0 := x8.at o0 (by omega)
  have p1 := p1.fu x8 (by omega)
  have p3 := p3.fu x8 (by omega)
  have p6 := p6.fu x8 (by omega)
  have u0 := u0.tr x8 (by omega)
  refine v_put fl_Main_33 o0 (Nat.le_of_ble_eq_true rfl) (fun r hr => by cases hr; exact Or.inr ⟨rfl, rfl, rfl⟩) rfl rfl k_Main_init_50 (fun h9 e9 f9 => ?_)
  have o0 := e9
  have p1 := p1.fr f9 (by omega)
  have p3 := p3.fr f9 (by omega)
  have p6 := p6.fr f9 (by omega)
  have p8 := p8.fr f9 (by omega)
  have u0 := u0.tr (f9.u (Nat.le_refl _)) (by omega)
  have z0 := f9.1.trans z0
  refine v_aload_n k_Main_init_53 rfl ?_
  refine v_nw (rc := 6) (rs := 104) (k := 4) (N := 1) (C := R_Text) (T := T_Text) (fs := [aN]) rfl nc_Main_37 ni_Text nz_Text (fun j hj => by rcases (show j = 0 by omega) with rfl <;> rfl) k_Main_init_54 (fun h10 m10 => ?_)
  have w10 := Mk.u m10 (Nat.le_of_eq z0.symm)
  obtain ⟨a10, b10, -⟩ := m10
  rw [z0] at a10 b10 ⊢
  have o0 := w10.at o0 (by omega)
  have p1 := p1.fu w10 (by omega)
  have p3 := p3.fu w10 (by omega)
  have p6 := p6.fu w10 (by omega)
  have p8 := p8.fu w10 (by omega)
  have u0 := u0.tr w10 (by omega)
  refine v_dup k_Main_init_57 rfl ?_
  refine v_callI (rc := 4) (rs := 22) (mc := 2) (ms := 82) mo_Text_init mi_Text_init rfl rfl lk_Main_39 k_Main_init_58 rfl (Nat.le_of_ble_eq_true rfl) rfl (Nat.le_of_ble_eq_true rfl) (c_Text_init G b10 a10) (fun v10 g10 q10 => ?_)
  obtain ⟨rfl, z0, p10, x10⟩ := q10
  have o0 := x10.at o0 (by omega)
  have p1 := p1.fu x10 (by omega)
  have p3 := p3.fu x10 (by omega)
  have p6 := p6.fu x10 (by omega)
  have p8 := p8.fu x10 (by omega)
  have u0 := u0.tr x10 (by omega)
  refine v_put fl_Main_40 o0 (Nat.le_of_ble_eq_true rfl) (fun r hr => by cases hr; exact Or.inr ⟨rfl, rfl, rfl⟩) rfl rfl k_Main_init_61 (fun h11 e11 f11 => ?_)
  have o0 := e11
  have p1 := p1.fr f11 (by omega)
  have p3 := p3.fr f11 (by omega)
  have p6 := p6.fr f11 (by omega)
  have p8 := p8.fr f11 (by omega)
  have p10 := p10.fr f11 (by omega)
  have u0 := u0.tr (f11.u (Nat.le_refl _)) (by omega)
  have z0 := f11.1.trans z0
  refine v_aload_n k_Main_init_64 rfl ?_
  refine v_nw (rc := 3) (rs := 20) (k := 3) (N := 2) (C := R_Row) (T := T_Row) (fs := [aN, aI 0]) rfl nc_Main_44 ni_Row nz_Row (fun j hj => by rcases (show j = 0 ∨ j = 1 by omega) with rfl | rfl <;> rfl) k_Main_init_65 (fun h12 m12 => ?_)
  have w12 := Mk.u m12 (Nat.le_of_eq z0.symm)
  obtain ⟨a12, b12, -⟩ := m12
  rw [z0] at a12 b12 ⊢
  have o0 := w12.at o0 (by omega)
  have p1 := p1.fu w12 (by omega)
  have p3 := p3.fu w12 (by omega)
  have p6 := p6.fu w12 (by omega)
  have p8 := p8.fu w12 (by omega)
  have p10 := p10.fu w12 (by omega)
  have u0 := u0.tr w12 (by omega)
  refine v_dup k_Main_init_68 rfl ?_
  refine v_bipush k_Main_init_69 (by decide) ?_
  refine v_callI (rc := 2) (rs := 8) (mc := 1) (ms := 12) mo_Row_init mi_Row_init rfl rfl lk_Main_46 k_Main_init_71 rfl (Nat.le_of_ble_eq_true rfl) rfl (Nat.le_of_ble_eq_true rfl) (c_Row_init G (n := 12) (by decide) b12 a12) (fun v12 g12 q12 => ?_)
  obtain ⟨rfl, z0, p12, x12⟩ := q12
  have o0 := x12.at o0 (by omega)
  have p1 := p1.fu x12 (by omega)
  have p3 := p3.fu x12 (by omega)
  have p6 := p6.fu x12 (by omega)
  have p8 := p8.fu x12 (by omega)
  have p10 := p10.fu x12 (by omega)
  have u0 := u0.tr x12 (by omega)
  refine v_put fl_Main_49 o0 (Nat.le_of_ble_eq_true rfl) (fun r hr => by cases hr; exact Or.inr ⟨rfl, rfl, rfl⟩) rfl rfl k_Main_init_74 (fun h13 e13 f13 => ?_)
  have o0 := e13
  have p1 := p1.fr f13 (by omega)
  have p3 := p3.fr f13 (by omega)
  have p6 := p6.fr f13 (by omega)
  have p8 := p8.fr f13 (by omega)
  have p10 := p10.fr f13 (by omega)
  have p12 := p12.fr f13 (by omega)
  have u0 := u0.tr (f13.u (Nat.le_refl _)) (by omega)
  have z0 := f13.1.trans z0
  refine v_aload_n k_Main_init_77 rfl ?_
  refine v_nw (rc := 1) (rs := 6) (k := 3) (N := 2) (C := R_Row) (T := T_Row) (fs := [aN, aI 0]) rfl nc_Main_44 ni_Row nz_Row (fun j hj => by rcases (show j = 0 ∨ j = 1 by omega) with rfl | rfl <;> rfl) k_Main_init_78 (fun h14 m14 => ?_)
  have w14 := Mk.u m14 (Nat.le_of_eq z0.symm)
  obtain ⟨a14, b14, -⟩ := m14
  rw [z0] at a14 b14 ⊢
  have o0 := w14.at o0 (by omega)
  have p1 := p1.fu w14 (by omega)
  have p3 := p3.fu w14 (by omega)
  have p6 := p6.fu w14 (by omega)
  have p8 := p8.fu w14 (by omega)
  have p10 := p10.fu w14 (by omega)
  have p12 := p12.fu w14 (by omega)
  have u0 := u0.tr w14 (by omega)
  refine v_dup k_Main_init_81 rfl ?_
  refine v_bipush k_Main_init_82 (by decide) ?_
  refine v_callI (rc := 0) (rs := 0) (mc := 1) (ms := 6) mo_Row_init mi_Row_init rfl rfl lk_Main_46 k_Main_init_84 rfl (Nat.le_of_ble_eq_true rfl) rfl (Nat.le_of_ble_eq_true rfl) (c_Row_init G (n := 6) (by decide) b14 a14) (fun v14 g14 q14 => ?_)
  obtain ⟨rfl, z0, p14, x14⟩ := q14
  have o0 := x14.at o0 (by omega)
  have p1 := p1.fu x14 (by omega)
  have p3 := p3.fu x14 (by omega)
  have p6 := p6.fu x14 (by omega)
  have p8 := p8.fu x14 (by omega)
  have p10 := p10.fu x14 (by omega)
  have p12 := p12.fu x14 (by omega)
  have u0 := u0.tr x14 (by omega)
  refine v_put fl_Main_53 o0 (Nat.le_of_ble_eq_true rfl) (fun r hr => by cases hr; exact Or.inr ⟨rfl, rfl, rfl⟩) rfl rfl k_Main_init_87 (fun h15 e15 f15 => ?_)
  have o0 := e15
  have p1 := p1.fr f15 (by omega)
  have p3 := p3.fr f15 (by omega)
  have p6 := p6.fr f15 (by omega)
  have p8 := p8.fr f15 (by omega)
  have p10 := p10.fr f15 (by omega)
  have p12 := p12.fr f15 (by omega)
  have p14 := p14.fr f15 (by omega)
  have u0 := u0.tr (f15.u (Nat.le_refl _)) (by omega)
  have z0 := f15.1.trans z0
  refine v_iconst k_Main_init_90 ?_
  refine v_istore_n k_Main_init_91 ⟨Nat.le_of_ble_eq_true rfl, Nat.le_of_ble_eq_true rfl⟩ ?_
  have loop : ∀ (k : Nat) (i : Nat) (h1 : AH), (6 < i + k) → (i ≤ 6) → (pRow h1 (o + 71) 6 (List.replicate i 0)) → (Fr (o + 71) (o + 73) h15 h1) → V G Y_Main_init 5 0 0 92 [some (aR o), some (aI (i : Int))] [] h1 (fun v h' => v = none ∧ h'.1 = o + 73 ∧ pMain h' o S0 ∧ FrU o h h') := by
    intro k
    induction k with
    | zero => intro i h1 hk hi y7 f1; exfalso; omega
    | succ k ih =>
      intro i h1 hk hi y7 f1
      have y0 := f1.at o0 (by omega)
      refine v_iload_n k_Main_init_92 rfl ?_
      refine v_bipush k_Main_init_93 (by decide) ?_
      refine v_icge 112 k_Main_init_95 rfl (by omega) (by omega) (fun c95 => ?_) (fun c95 => ?_)
      · refine v_return k_Main_init_112 rfl ?_
        have ei : i = 6 := by omega
        subst ei
        exact ⟨rfl, f1.1.trans z0, ⟨y0, ⟨[], [], p1.fr f1 (by omega)⟩, ⟨[], [], p3.fr f1 (by omega)⟩, ⟨_, _, _, _, _, _, p6.fr f1 (by omega)⟩, ⟨_, _, p8.fr f1 (by omega)⟩, p10.fr f1 (by omega), p12.fr f1 (by omega), y7⟩, u0.tr (f1.u (Nat.le_refl _)) (by omega)⟩
      · refine v_aload_n k_Main_init_98 rfl ?_
        refine v_getf fl_Main_53 y0 rfl k_Main_init_99 ?_
        refine v_iconst k_Main_init_102 ?_
        refine v_callV mo_Row_add mi_Row_add mv_Row_add lk_Main_56 k_Main_init_103 y7.obj rfl rfl (Nat.le_of_ble_eq_true rfl) rfl (Nat.le_of_ble_eq_true rfl) (c_Row_add G y7 (x := 0)) (fun v103 h103 q103 => ?_)
        obtain ⟨rfl, q7, f2⟩ := q103
        have er : radd 6 (List.replicate i 0) 0 = List.replicate (i + 1) 0 := by
          rw [radd, if_pos (by simp; omega)]
          exact List.replicate_succ'.symm
        rw [er] at q7
        refine v_iinc k_Main_init_106 rfl (Nat.le_of_ble_eq_true rfl) ?_
        refine v_goto k_Main_init_109 (tgt := 92) rfl ?_
        exact ih (i + 1) _ (by omega) (by omega) q7 (f1.tr f2 (by omega) (by omega))
  exact loop 7 0 h15 (by omega) (by omega) p14 Fr.rf
