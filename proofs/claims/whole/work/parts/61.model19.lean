set_option maxHeartbeats 4000000 in
set_option maxRecDepth 20000 in
theorem c_Model_statement (G : Gx) {h : AH} {m : Nat} {kp : Int} {r : Int × Int} {xs : List Int} {f0 f1 f2 p so : Int} (j : pJ h m kp r xs [f0, f1, f2] p 1 so) : Ct G Y_Model_statement 1 0 0 [aR m] h (fun v h' => v = none ∧ (∃ f0 f1 f2 p' ok' so', pJ h' m kp r xs [f0, f1, f2] p' ok' so' ∧ stG xs p so' f0 f1 f2 p' ok' ∧ (0 ≤ so' ∧ so' ≤ 3)) ∧ FrC m h h') := by
  have hp0 := j.bp.1.1
  have fa : FrC m h h := FrC.rf
  have ho := j.ho
  have cf := j.cf
  have ck := j.ck
  have bp := j.bp
  have lf := j.lf
  have cb := j.cb
  refine Ct.of_V mo_Model_statement rfl (Nat.le_of_ble_eq_true rfl) rfl ?_
  refine v_aload_n k_Model_statement_0 rfl ?_
  refine v_aload_n k_Model_statement_1 rfl ?_
  refine v_aload_n k_Model_statement_2 rfl ?_
  refine v_getf fl_Model_25 ho rfl k_Model_statement_3 ?_
  refine v_callV mo_Model_oneOf mi_Model_oneOf mv_Model_oneOf lk_Model_63 k_Model_statement_6 ho rfl rfl (Nat.le_of_ble_eq_true rfl) rfl (Nat.le_of_ble_eq_true rfl) (j_oneOf G j j.cb (by decide) (by decide)) (fun v6 h6 q6 => ?_)
  obtain ⟨rfl, j, f6⟩ := q6
  have fa := fa.tr f6.c0
  have ho := j.ho
  have cf := j.cf
  have ck := j.ck
  have bp := j.bp
  have lf := j.lf
  by_cases ha : tAt xs p = 118
  · have ei : ixF (tAt xs p) [110, 118, 114, 119] 0 = 1 := by rw [ha]; rfl
    obtain ⟨a1, a2, a3⟩ := oV_1 (xs := xs) (cs := [110, 118, 114, 119]) (p := p) (by omega)
    rw [a2, a3] at j
    rw [a1, ei]
    have ho := j.ho
    have cf := j.cf
    have ck := j.ck
    have bp := j.bp
    refine v_put fl_Model_67 ho (Nat.le_of_ble_eq_true rfl) (fun r hr => by cases hr; exact Or.inl rfl) rfl rfl k_Model_statement_9 (fun h9 e9 f9 => ?_)
    have j := j.mk' (so' := 1) e9 f9 j.bp.1 j.bp.2
    have fa := fa.tr f9.c0
    have ho := j.ho
    have cf := j.cf
    have ck := j.ck
    have bp := j.bp
    have lf := j.lf
    refine v_aload_n k_Model_statement_12 rfl ?_
    refine v_getf fl_Model_67 ho rfl k_Model_statement_13 ?_
    try dsimp only
    refine v_iconst k_Model_statement_16 ?_
    refine v_icne 65 k_Model_statement_17 rfl (by omega) (by omega) (fun ce17 => ?_) (fun ce17 => ?_)
    · exfalso; omega
    · refine v_aload_n k_Model_statement_20 rfl ?_
      refine v_getf fl_Model_32 ho rfl k_Model_statement_21 ?_
      refine v_iconst k_Model_statement_24 ?_
      refine v_aload_n k_Model_statement_25 rfl ?_
      refine v_aload_n k_Model_statement_26 rfl ?_
      refine v_getf fl_Model_29 ho rfl k_Model_statement_27 ?_
      refine v_callV mo_Model_oneOf mi_Model_oneOf mv_Model_oneOf lk_Model_63 k_Model_statement_30 ho rfl rfl (Nat.le_of_ble_eq_true rfl) rfl (Nat.le_of_ble_eq_true rfl) (j_oneOf G j j.ck (by decide) (by decide)) (fun v30 h30 q30 => ?_)
      obtain ⟨rfl, j, f30⟩ := q30
      have fa := fa.tr f30.c0
      have ho := j.ho
      have cf := j.cf
      have ck := j.ck
      have bp := j.bp
      have lf := j.lf
      refine v_ist cf (by omega) (by omega) k_Model_statement_33 (fun h33 e33 f33 => ?_)
      have j := j.fd' (fd' := [_, _, _]) e33 f33 rfl
      have fa := fa.tr f33.c8
      have ho := j.ho
      have cf := j.cf
      have ck := j.ck
      have bp := j.bp
      have lf := j.lf
      refine v_aload_n k_Model_statement_34 rfl ?_
      refine v_getf fl_Model_32 ho rfl k_Model_statement_35 ?_
      refine v_iconst k_Model_statement_38 ?_
      refine v_aload_n k_Model_statement_39 rfl ?_
      refine v_iconst k_Model_statement_40 ?_
      refine v_callV mo_Model_figures mi_Model_figures mv_Model_figures lk_Model_70 k_Model_statement_41 ho rfl rfl (Nat.le_of_ble_eq_true rfl) rfl (Nat.le_of_ble_eq_true rfl) (j_fig2 G j) (fun v41 h41 q41 => ?_)
      obtain ⟨rfl, j, f41⟩ := q41
      have fa := fa.tr f41.c0
      have ho := j.ho
      have cf := j.cf
      have ck := j.ck
      have bp := j.bp
      have lf := j.lf
      refine v_ist cf (by omega) (by omega) k_Model_statement_44 (fun h44 e44 f44 => ?_)
      have j := j.fd' (fd' := [_, _, _]) e44 f44 rfl
      have fa := fa.tr f44.c8
      have ho := j.ho
      have cf := j.cf
      have ck := j.ck
      have bp := j.bp
      have lf := j.lf
      refine v_aload_n k_Model_statement_45 rfl ?_
      refine v_bipush k_Model_statement_46 (by decide) ?_
      refine v_callV mo_Model_expect mi_Model_expect mv_Model_expect lk_Model_73 k_Model_statement_48 ho rfl rfl (Nat.le_of_ble_eq_true rfl) rfl (Nat.le_of_ble_eq_true rfl) (j_expect G j (c := 44) (by omega)) (fun v48 h48 q48 => ?_)
      obtain ⟨rfl, j, f48⟩ := q48
      have fa := fa.tr f48.c0
      have ho := j.ho
      have cf := j.cf
      have ck := j.ck
      have bp := j.bp
      have lf := j.lf
      refine v_aload_n k_Model_statement_51 rfl ?_
      refine v_getf fl_Model_32 ho rfl k_Model_statement_52 ?_
      refine v_iconst k_Model_statement_55 ?_
      refine v_aload_n k_Model_statement_56 rfl ?_
      refine v_iconst k_Model_statement_57 ?_
      refine v_callV mo_Model_figures mi_Model_figures mv_Model_figures lk_Model_70 k_Model_statement_58 ho rfl rfl (Nat.le_of_ble_eq_true rfl) rfl (Nat.le_of_ble_eq_true rfl) (j_fig1 G j) (fun v58 h58 q58 => ?_)
      obtain ⟨rfl, j, f58⟩ := q58
      have fa := fa.tr f58.c0
      have ho := j.ho
      have cf := j.cf
      have ck := j.ck
      have bp := j.bp
      have lf := j.lf
      refine v_ist cf (by omega) (by omega) k_Model_statement_61 (fun h61 e61 f61 => ?_)
      have j := j.fd' (fd' := [_, _, _]) e61 f61 rfl
      have fa := fa.tr f61.c8
      have ho := j.ho
      have cf := j.cf
      have ck := j.ck
      have bp := j.bp
      have lf := j.lf
      refine v_goto k_Model_statement_62 (tgt := 99) rfl ?_
      refine v_aload_n k_Model_statement_99 rfl ?_
      refine v_bipush k_Model_statement_100 (by decide) ?_
      refine v_callV mo_Model_expect mi_Model_expect mv_Model_expect lk_Model_73 k_Model_statement_102 ho rfl rfl (Nat.le_of_ble_eq_true rfl) rfl (Nat.le_of_ble_eq_true rfl) (j_expect G j (c := 59) (by omega)) (fun v102 h102 q102 => ?_)
      obtain ⟨rfl, j, f102⟩ := q102
      have fa := fa.tr f102.c0
      have ho := j.ho
      have cf := j.cf
      have ck := j.ck
      have bp := j.bp
      have lf := j.lf
      refine v_return k_Model_statement_105 rfl ?_
      first
        | (exfalso; omega)
        | exact ⟨rfl, ⟨_, _, _, _, _, _, j, st_v hp0 ha rfl rfl rfl rfl rfl rfl rfl rfl, by omega⟩, fa⟩
  by_cases ha1 : tAt xs p = 110
  · have ei : ixF (tAt xs p) [110, 118, 114, 119] 0 = 0 := by rw [ha1]; rfl
    obtain ⟨a1, a2, a3⟩ := oV_1 (xs := xs) (cs := [110, 118, 114, 119]) (p := p) (by omega)
    rw [a2, a3] at j
    rw [a1, ei]
    have ho := j.ho
    have cf := j.cf
    have ck := j.ck
    have bp := j.bp
    refine v_put fl_Model_67 ho (Nat.le_of_ble_eq_true rfl) (fun r hr => by cases hr; exact Or.inl rfl) rfl rfl k_Model_statement_9 (fun h9 e9 f9 => ?_)
    have j := j.mk' (so' := 0) e9 f9 j.bp.1 j.bp.2
    have fa := fa.tr f9.c0
    have ho := j.ho
    have cf := j.cf
    have ck := j.ck
    have bp := j.bp
    have lf := j.lf
    refine v_aload_n k_Model_statement_12 rfl ?_
    refine v_getf fl_Model_67 ho rfl k_Model_statement_13 ?_
    try dsimp only
    refine v_iconst k_Model_statement_16 ?_
    refine v_icne 65 k_Model_statement_17 rfl (by omega) (by omega) (fun ce17 => ?_) (fun ce17 => ?_)
    · refine v_aload_n k_Model_statement_65 rfl ?_
      refine v_getf fl_Model_32 ho rfl k_Model_statement_66 ?_
      refine v_iconst k_Model_statement_69 ?_
      refine v_aload_n k_Model_statement_70 rfl ?_
      refine v_iconst k_Model_statement_71 ?_
      refine v_callV mo_Model_figures mi_Model_figures mv_Model_figures lk_Model_70 k_Model_statement_72 ho rfl rfl (Nat.le_of_ble_eq_true rfl) rfl (Nat.le_of_ble_eq_true rfl) (j_fig1 G j) (fun v72 h72 q72 => ?_)
      obtain ⟨rfl, j, f72⟩ := q72
      have fa := fa.tr f72.c0
      have ho := j.ho
      have cf := j.cf
      have ck := j.ck
      have bp := j.bp
      have lf := j.lf
      refine v_ist cf (by omega) (by omega) k_Model_statement_75 (fun h75 e75 f75 => ?_)
      have j := j.fd' (fd' := [_, _, _]) e75 f75 rfl
      have fa := fa.tr f75.c8
      have ho := j.ho
      have cf := j.cf
      have ck := j.ck
      have bp := j.bp
      have lf := j.lf
      refine v_aload_n k_Model_statement_76 rfl ?_
      refine v_getf fl_Model_32 ho rfl k_Model_statement_77 ?_
      refine v_iconst k_Model_statement_80 ?_
      refine v_aload_n k_Model_statement_81 rfl ?_
      refine v_getf fl_Model_67 ho rfl k_Model_statement_82 ?_
      try dsimp only
      refine v_iconst k_Model_statement_85 ?_
      refine v_icne 93 k_Model_statement_86 rfl (by omega) (by omega) (fun ce86 => ?_) (fun ce86 => ?_)
      · refine v_aload_n k_Model_statement_93 rfl ?_
        refine v_iconst k_Model_statement_94 ?_
        refine v_callV mo_Model_figures mi_Model_figures mv_Model_figures lk_Model_70 k_Model_statement_95 ho rfl rfl (Nat.le_of_ble_eq_true rfl) rfl (Nat.le_of_ble_eq_true rfl) (j_fig1 G j) (fun v95 h95 q95 => ?_)
        obtain ⟨rfl, j, f95⟩ := q95
        have fa := fa.tr f95.c0
        have ho := j.ho
        have cf := j.cf
        have ck := j.ck
        have bp := j.bp
        have lf := j.lf
        refine v_ist cf (by omega) (by omega) k_Model_statement_98 (fun h98 e98 f98 => ?_)
        have j := j.fd' (fd' := [_, _, _]) e98 f98 rfl
        have fa := fa.tr f98.c8
        have ho := j.ho
        have cf := j.cf
        have ck := j.ck
        have bp := j.bp
        have lf := j.lf
        refine v_aload_n k_Model_statement_99 rfl ?_
        refine v_bipush k_Model_statement_100 (by decide) ?_
        refine v_callV mo_Model_expect mi_Model_expect mv_Model_expect lk_Model_73 k_Model_statement_102 ho rfl rfl (Nat.le_of_ble_eq_true rfl) rfl (Nat.le_of_ble_eq_true rfl) (j_expect G j (c := 59) (by omega)) (fun v102 h102 q102 => ?_)
        obtain ⟨rfl, j, f102⟩ := q102
        have fa := fa.tr f102.c0
        have ho := j.ho
        have cf := j.cf
        have ck := j.ck
        have bp := j.bp
        have lf := j.lf
        refine v_return k_Model_statement_105 rfl ?_
        first
          | (exfalso; omega)
          | exact ⟨rfl, ⟨_, _, _, _, _, _, j, st_n hp0 ha1, by omega⟩, fa⟩
      · exfalso; omega
    · exfalso; omega
  by_cases ha2 : tAt xs p = 114
  · have ei : ixF (tAt xs p) [110, 118, 114, 119] 0 = 2 := by rw [ha2]; rfl
    obtain ⟨a1, a2, a3⟩ := oV_1 (xs := xs) (cs := [110, 118, 114, 119]) (p := p) (by omega)
    rw [a2, a3] at j
    rw [a1, ei]
    have ho := j.ho
    have cf := j.cf
    have ck := j.ck
    have bp := j.bp
    refine v_put fl_Model_67 ho (Nat.le_of_ble_eq_true rfl) (fun r hr => by cases hr; exact Or.inl rfl) rfl rfl k_Model_statement_9 (fun h9 e9 f9 => ?_)
    have j := j.mk' (so' := 2) e9 f9 j.bp.1 j.bp.2
    have fa := fa.tr f9.c0
    have ho := j.ho
    have cf := j.cf
    have ck := j.ck
    have bp := j.bp
    have lf := j.lf
    refine v_aload_n k_Model_statement_12 rfl ?_
    refine v_getf fl_Model_67 ho rfl k_Model_statement_13 ?_
    try dsimp only
    refine v_iconst k_Model_statement_16 ?_
    refine v_icne 65 k_Model_statement_17 rfl (by omega) (by omega) (fun ce17 => ?_) (fun ce17 => ?_)
    · refine v_aload_n k_Model_statement_65 rfl ?_
      refine v_getf fl_Model_32 ho rfl k_Model_statement_66 ?_
      refine v_iconst k_Model_statement_69 ?_
      refine v_aload_n k_Model_statement_70 rfl ?_
      refine v_iconst k_Model_statement_71 ?_
      refine v_callV mo_Model_figures mi_Model_figures mv_Model_figures lk_Model_70 k_Model_statement_72 ho rfl rfl (Nat.le_of_ble_eq_true rfl) rfl (Nat.le_of_ble_eq_true rfl) (j_fig1 G j) (fun v72 h72 q72 => ?_)
      obtain ⟨rfl, j, f72⟩ := q72
      have fa := fa.tr f72.c0
      have ho := j.ho
      have cf := j.cf
      have ck := j.ck
      have bp := j.bp
      have lf := j.lf
      refine v_ist cf (by omega) (by omega) k_Model_statement_75 (fun h75 e75 f75 => ?_)
      have j := j.fd' (fd' := [_, _, _]) e75 f75 rfl
      have fa := fa.tr f75.c8
      have ho := j.ho
      have cf := j.cf
      have ck := j.ck
      have bp := j.bp
      have lf := j.lf
      refine v_aload_n k_Model_statement_76 rfl ?_
      refine v_getf fl_Model_32 ho rfl k_Model_statement_77 ?_
      refine v_iconst k_Model_statement_80 ?_
      refine v_aload_n k_Model_statement_81 rfl ?_
      refine v_getf fl_Model_67 ho rfl k_Model_statement_82 ?_
      try dsimp only
      refine v_iconst k_Model_statement_85 ?_
      refine v_icne 93 k_Model_statement_86 rfl (by omega) (by omega) (fun ce86 => ?_) (fun ce86 => ?_)
      · refine v_aload_n k_Model_statement_93 rfl ?_
        refine v_iconst k_Model_statement_94 ?_
        refine v_callV mo_Model_figures mi_Model_figures mv_Model_figures lk_Model_70 k_Model_statement_95 ho rfl rfl (Nat.le_of_ble_eq_true rfl) rfl (Nat.le_of_ble_eq_true rfl) (j_fig1 G j) (fun v95 h95 q95 => ?_)
        obtain ⟨rfl, j, f95⟩ := q95
        have fa := fa.tr f95.c0
        have ho := j.ho
        have cf := j.cf
        have ck := j.ck
        have bp := j.bp
        have lf := j.lf
        refine v_ist cf (by omega) (by omega) k_Model_statement_98 (fun h98 e98 f98 => ?_)
        have j := j.fd' (fd' := [_, _, _]) e98 f98 rfl
        have fa := fa.tr f98.c8
        have ho := j.ho
        have cf := j.cf
        have ck := j.ck
        have bp := j.bp
        have lf := j.lf
        refine v_aload_n k_Model_statement_99 rfl ?_
        refine v_bipush k_Model_statement_100 (by decide) ?_
        refine v_callV mo_Model_expect mi_Model_expect mv_Model_expect lk_Model_73 k_Model_statement_102 ho rfl rfl (Nat.le_of_ble_eq_true rfl) rfl (Nat.le_of_ble_eq_true rfl) (j_expect G j (c := 59) (by omega)) (fun v102 h102 q102 => ?_)
        obtain ⟨rfl, j, f102⟩ := q102
        have fa := fa.tr f102.c0
        have ho := j.ho
        have cf := j.cf
        have ck := j.ck
        have bp := j.bp
        have lf := j.lf
        refine v_return k_Model_statement_105 rfl ?_
        first
          | (exfalso; omega)
          | exact ⟨rfl, ⟨_, _, _, _, _, _, j, st_r hp0 ha2, by omega⟩, fa⟩
      · exfalso; omega
    · exfalso; omega
  by_cases ha3 : tAt xs p = 119
  · have ei : ixF (tAt xs p) [110, 118, 114, 119] 0 = 3 := by rw [ha3]; rfl
    obtain ⟨a1, a2, a3⟩ := oV_1 (xs := xs) (cs := [110, 118, 114, 119]) (p := p) (by omega)
    rw [a2, a3] at j
    rw [a1, ei]
    have ho := j.ho
    have cf := j.cf
    have ck := j.ck
    have bp := j.bp
    refine v_put fl_Model_67 ho (Nat.le_of_ble_eq_true rfl) (fun r hr => by cases hr; exact Or.inl rfl) rfl rfl k_Model_statement_9 (fun h9 e9 f9 => ?_)
    have j := j.mk' (so' := 3) e9 f9 j.bp.1 j.bp.2
    have fa := fa.tr f9.c0
    have ho := j.ho
    have cf := j.cf
    have ck := j.ck
    have bp := j.bp
    have lf := j.lf
    refine v_aload_n k_Model_statement_12 rfl ?_
    refine v_getf fl_Model_67 ho rfl k_Model_statement_13 ?_
    try dsimp only
    refine v_iconst k_Model_statement_16 ?_
    refine v_icne 65 k_Model_statement_17 rfl (by omega) (by omega) (fun ce17 => ?_) (fun ce17 => ?_)
    · refine v_aload_n k_Model_statement_65 rfl ?_
      refine v_getf fl_Model_32 ho rfl k_Model_statement_66 ?_
      refine v_iconst k_Model_statement_69 ?_
      refine v_aload_n k_Model_statement_70 rfl ?_
      refine v_iconst k_Model_statement_71 ?_
      refine v_callV mo_Model_figures mi_Model_figures mv_Model_figures lk_Model_70 k_Model_statement_72 ho rfl rfl (Nat.le_of_ble_eq_true rfl) rfl (Nat.le_of_ble_eq_true rfl) (j_fig1 G j) (fun v72 h72 q72 => ?_)
      obtain ⟨rfl, j, f72⟩ := q72
      have fa := fa.tr f72.c0
      have ho := j.ho
      have cf := j.cf
      have ck := j.ck
      have bp := j.bp
      have lf := j.lf
      refine v_ist cf (by omega) (by omega) k_Model_statement_75 (fun h75 e75 f75 => ?_)
      have j := j.fd' (fd' := [_, _, _]) e75 f75 rfl
      have fa := fa.tr f75.c8
      have ho := j.ho
      have cf := j.cf
      have ck := j.ck
      have bp := j.bp
      have lf := j.lf
      refine v_aload_n k_Model_statement_76 rfl ?_
      refine v_getf fl_Model_32 ho rfl k_Model_statement_77 ?_
      refine v_iconst k_Model_statement_80 ?_
      refine v_aload_n k_Model_statement_81 rfl ?_
      refine v_getf fl_Model_67 ho rfl k_Model_statement_82 ?_
      try dsimp only
      refine v_iconst k_Model_statement_85 ?_
      refine v_icne 93 k_Model_statement_86 rfl (by omega) (by omega) (fun ce86 => ?_) (fun ce86 => ?_)
      · exfalso; omega
      · refine v_iconst k_Model_statement_89 ?_
        refine v_goto k_Model_statement_90 (tgt := 98) rfl ?_
        refine v_ist cf (by omega) (by omega) k_Model_statement_98 (fun h98 e98 f98 => ?_)
        have j := j.fd' (fd' := [_, _, _]) e98 f98 rfl
        have fa := fa.tr f98.c8
        have ho := j.ho
        have cf := j.cf
        have ck := j.ck
        have bp := j.bp
        have lf := j.lf
        refine v_aload_n k_Model_statement_99 rfl ?_
        refine v_bipush k_Model_statement_100 (by decide) ?_
        refine v_callV mo_Model_expect mi_Model_expect mv_Model_expect lk_Model_73 k_Model_statement_102 ho rfl rfl (Nat.le_of_ble_eq_true rfl) rfl (Nat.le_of_ble_eq_true rfl) (j_expect G j (c := 59) (by omega)) (fun v102 h102 q102 => ?_)
        obtain ⟨rfl, j, f102⟩ := q102
        have fa := fa.tr f102.c0
        have ho := j.ho
        have cf := j.cf
        have ck := j.ck
        have bp := j.bp
        have lf := j.lf
        refine v_return k_Model_statement_105 rfl ?_
        first
          | (exfalso; omega)
          | exact ⟨rfl, ⟨_, _, _, _, _, _, j, st_w hp0 ha3, by omega⟩, fa⟩
    · exfalso; omega
  have ei : ixF (tAt xs p) [110, 118, 114, 119] 0 = -1 := by unfold ixF ixF ixF ixF ixF; rw [if_neg ha1, if_neg ha, if_neg ha2, if_neg ha3]
  obtain ⟨a1, a2, a3⟩ := oV_0 (xs := xs) (cs := [110, 118, 114, 119]) (p := p) (ok := 1) (by rw [ei]; omega)
  rw [a2, a3] at j
  rw [a1]
  have ho := j.ho
  have cf := j.cf
  have ck := j.ck
  have bp := j.bp
  have lf := j.lf
  have d2 : ∀ q, gV xs q 0 = 0 := fun q => (@st_dead xs q).2.1
  have d3 : ∀ q, gP xs q 0 = q := fun q => (@st_dead xs q).2.2.1
  have d4 : ∀ q, gO xs q 0 = 0 := fun q => (@st_dead xs q).2.2.2.1
  have d6 : ∀ q c, peP xs q 0 c = q := fun q c => ((@st_dead xs q).2.2.2.2.2.2 c).1
  have d7 : ∀ q c, peO xs q 0 c = 0 := fun q c => ((@st_dead xs q).2.2.2.2.2.2 c).2
  refine v_put fl_Model_67 ho (Nat.le_of_ble_eq_true rfl) (fun r hr => by cases hr; exact Or.inl rfl) rfl rfl k_Model_statement_9 (fun h9 e9 f9 => ?_)
  have j := j.mk' (so' := 0) e9 f9 j.bp.1 j.bp.2
  have fa := fa.tr f9.c0
  have ho := j.ho
  have cf := j.cf
  have ck := j.ck
  have bp := j.bp
  have lf := j.lf
  refine v_aload_n k_Model_statement_12 rfl ?_
  refine v_getf fl_Model_67 ho rfl k_Model_statement_13 ?_
  try dsimp only
  refine v_iconst k_Model_statement_16 ?_
  refine v_icne 65 k_Model_statement_17 rfl (by omega) (by omega) (fun ce17 => ?_) (fun ce17 => ?_)
  · refine v_aload_n k_Model_statement_65 rfl ?_
    refine v_getf fl_Model_32 ho rfl k_Model_statement_66 ?_
    refine v_iconst k_Model_statement_69 ?_
    refine v_aload_n k_Model_statement_70 rfl ?_
    refine v_iconst k_Model_statement_71 ?_
    refine v_callV mo_Model_figures mi_Model_figures mv_Model_figures lk_Model_70 k_Model_statement_72 ho rfl rfl (Nat.le_of_ble_eq_true rfl) rfl (Nat.le_of_ble_eq_true rfl) (j_fig1 G j) (fun v72 h72 q72 => ?_)
    obtain ⟨rfl, j, f72⟩ := q72
    have fa := fa.tr f72.c0
    have ho := j.ho
    have cf := j.cf
    have ck := j.ck
    have bp := j.bp
    have lf := j.lf
    refine v_ist cf (by omega) (by omega) k_Model_statement_75 (fun h75 e75 f75 => ?_)
    have j := j.fd' (fd' := [_, _, _]) e75 f75 rfl
    have fa := fa.tr f75.c8
    have ho := j.ho
    have cf := j.cf
    have ck := j.ck
    have bp := j.bp
    have lf := j.lf
    refine v_aload_n k_Model_statement_76 rfl ?_
    refine v_getf fl_Model_32 ho rfl k_Model_statement_77 ?_
    refine v_iconst k_Model_statement_80 ?_
    refine v_aload_n k_Model_statement_81 rfl ?_
    refine v_getf fl_Model_67 ho rfl k_Model_statement_82 ?_
    try dsimp only
    refine v_iconst k_Model_statement_85 ?_
    refine v_icne 93 k_Model_statement_86 rfl (by omega) (by omega) (fun ce86 => ?_) (fun ce86 => ?_)
    · refine v_aload_n k_Model_statement_93 rfl ?_
      refine v_iconst k_Model_statement_94 ?_
      refine v_callV mo_Model_figures mi_Model_figures mv_Model_figures lk_Model_70 k_Model_statement_95 ho rfl rfl (Nat.le_of_ble_eq_true rfl) rfl (Nat.le_of_ble_eq_true rfl) (j_fig1 G j) (fun v95 h95 q95 => ?_)
      obtain ⟨rfl, j, f95⟩ := q95
      have fa := fa.tr f95.c0
      have ho := j.ho
      have cf := j.cf
      have ck := j.ck
      have bp := j.bp
      have lf := j.lf
      refine v_ist cf (by omega) (by omega) k_Model_statement_98 (fun h98 e98 f98 => ?_)
      have j := j.fd' (fd' := [_, _, _]) e98 f98 rfl
      have fa := fa.tr f98.c8
      have ho := j.ho
      have cf := j.cf
      have ck := j.ck
      have bp := j.bp
      have lf := j.lf
      refine v_aload_n k_Model_statement_99 rfl ?_
      refine v_bipush k_Model_statement_100 (by decide) ?_
      refine v_callV mo_Model_expect mi_Model_expect mv_Model_expect lk_Model_73 k_Model_statement_102 ho rfl rfl (Nat.le_of_ble_eq_true rfl) rfl (Nat.le_of_ble_eq_true rfl) (j_expect G j (c := 59) (by omega)) (fun v102 h102 q102 => ?_)
      obtain ⟨rfl, j, f102⟩ := q102
      have fa := fa.tr f102.c0
      have ho := j.ho
      have cf := j.cf
      have ck := j.ck
      have bp := j.bp
      have lf := j.lf
      refine v_return k_Model_statement_105 rfl ?_
      first
        | (exfalso; omega)
        | (refine ⟨rfl, ⟨_, _, _, _, _, _, j, ?_, by omega⟩, fa⟩
           simp only [d2, d3, d4, d6, d7]
           exact st_o hp0 ⟨ha, ha2, ha3⟩ ha1)
    · exfalso; omega
  · exfalso; omega
