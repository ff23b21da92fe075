/-! draws -/
def wdM (K : CK) : Nat → Int → Int → Int
  | 0, _, acc => acc
  | k + 1, z, acc => wdM K k (drwZ (kP K).length z) (acc + if mW (setPs K (drwL (kP K).length z)) = true then 1 else 0)
def t_seeds (S : St) (n z : Int) : Int × St := if oS n 1 20 ≠ 0 then rfS S (oS n 1 20) else (wdM (nK S) n.toNat z 0, S)
set_option maxHeartbeats 4000000 in
set_option maxRecDepth 20000 in
theorem c_Model_seeds (G : Gx) {h : AH} {m : Nat} {S : St} (hp : pMS h m S) (w : wSt S) {n x : Int} (hn : InR n) (hx : InR x) : Ct G Y_Model_seeds 7 0 0 [aR m, aI n, aI x] h (fun v h' => v = some (aI (t_seeds S n x).1) ∧ pMS h' m (t_seeds S n x).2 ∧ Fr m (m + 11) h h') := by
  obtain ⟨X, a, ⟨fp, sn, ho, hs, hsl⟩, rf, th, be, tl, fd, rw_, ⟨c1, ha, c3, c4, c5, c6, c7, c8, c10⟩, ⟨x1, x2, x3⟩, ⟨l1, l3, l4, l5, l8, l10⟩, hk, hth, htl, hrw, hrf⟩ := id hp
  obtain ⟨w1, w2, w3, w4, w5, w6, w7, w8⟩ := id w
  have wv : vK (nK S) 13 6 := ⟨w1.1, by have := w1.2.1; omega, w1.2.2⟩
  have wu := wv.up (by decide) (by decide)
  have hl := hk.1
  have hn12 := w1.2.1
  have hv6 := w1.2.2.2.2.2.1
  have ho_ := oS_spec n 1 20
  refine Ct.of_V mo_Model_seeds rfl (Nat.le_of_ble_eq_true rfl) rfl ?_
  refine v_iload_n k_Model_seeds_0 rfl ?_
  refine v_iconst k_Model_seeds_1 ?_
  refine v_bipush k_Model_seeds_2 (by decide) ?_
  refine v_callSr mo_Model_isWrong ms_Model_isWrong lk_Model_148 k_Model_seeds_4 rfl (Nat.le_of_ble_eq_true rfl) rfl (Nat.le_of_ble_eq_true rfl) (c_Model_isWrong G (v := n) (l := 1) (m := 20) (by omega) (by omega) (by omega)) ?_
  refine v_ifeq 22 k_Model_seeds_7 rfl (by omega) (fun cd7 => ?_) (fun cd7 => ?_)
  · refine v_aload_n k_Model_seeds_22 rfl ?_
    refine v_getf fl_Model_13 ho rfl k_Model_seeds_23 ?_
    refine v_aload_n k_Model_seeds_26 rfl ?_
    refine v_getf fl_Model_19 ho rfl k_Model_seeds_27 ?_
    refine v_callS mo_Model_move ms_Model_move lk_Model_45 k_Model_seeds_30 rfl (Nat.le_of_ble_eq_true rfl) rfl (Nat.le_of_ble_eq_true rfl) (c_Model_move G ha c4 hl l4 (by omega)) (fun v30 h30 q30 => ?_)
    obtain ⟨rfl, d4, f9⟩ := q30
    have d1 := f9.at c1 (by omega)
    have d3 := f9.at c3 (by omega)
    have d5 := f9.at c5 (by omega)
    have d6 := f9.at c6 (by omega)
    have d7 := f9.at c7 (by omega)
    have d8 := f9.at c8 (by omega)
    have d10 := f9.at c10 (by omega)
    refine v_iload_n k_Model_seeds_33 rfl ?_
    refine v_istore_n k_Model_seeds_34 ⟨Nat.le_of_ble_eq_true rfl, Nat.le_of_ble_eq_true rfl⟩ ?_
    refine v_iconst k_Model_seeds_35 ?_
    refine v_istore k_Model_seeds_36 ⟨Nat.le_of_ble_eq_true rfl, Nat.le_of_ble_eq_true rfl⟩ ?_
    refine v_iconst k_Model_seeds_38 ?_
    refine v_istore k_Model_seeds_39 ⟨Nat.le_of_ble_eq_true rfl, Nat.le_of_ble_eq_true rfl⟩ ?_
    have hx0 : oS n 1 20 = 0 := by omega
    have ho9 := ho
    have loop : ∀ (k : Nat) (j : Nat) (h1 : AH) (z1 acc : Int) (cur : List Int) (z7 : Option AV), (j + k = n.toNat) → (cur.length = (kP (nK S)).length) → (pO h1 m X) → (pW h1 m (setPs (nK S) cur)) → (FrB m h30 h1) → (wdM (nK S) k z1 acc = wdM (nK S) n.toNat x 0) → V G Y_Model_seeds 7 0 0 41 [some (aR m), some (aI n), some (aI x), some (aI z1), some (aI acc), some (aI (j : Int)), z7] [] h1 (fun v h' => v = some (aI (t_seeds S n x).1) ∧ pMS h' m (t_seeds S n x).2 ∧ Fr m (m + 11) h h') := by
      intro k
      induction k with
      | zero =>
        intro j h1 z1 acc cur z7 hk9 hcl hO1 hW1 f1 ht
        refine v_iload k_Model_seeds_41 rfl ?_
        refine v_iload_n k_Model_seeds_43 rfl ?_
        refine v_icge 119 k_Model_seeds_44 rfl (by omega) (by omega) (fun cd44 => ?_) (fun cd44 => ?_)
        · obtain ⟨fp1, sn1, ho, hs, hsl⟩ := id hO1
          obtain ⟨a1, ha, hk9⟩ := id hW1
          have hl9 := hk9.1
          have d4c := f1.at d4 (by omega) (by omega) (by omega)
          refine v_aload_n k_Model_seeds_119 rfl ?_
          refine v_getf fl_Model_19 ho rfl k_Model_seeds_120 ?_
          refine v_aload_n k_Model_seeds_123 rfl ?_
          refine v_getf fl_Model_13 ho rfl k_Model_seeds_124 ?_
          refine v_callS mo_Model_move ms_Model_move lk_Model_45 k_Model_seeds_127 rfl (Nat.le_of_ble_eq_true rfl) rfl (Nat.le_of_ble_eq_true rfl) (c_Model_move G d4c ha hl hl9 (by omega)) (fun v127 h127 q127 => ?_)
          obtain ⟨rfl, q12, f12⟩ := q127
          refine v_iload k_Model_seeds_130 rfl ?_
          refine v_ireturn k_Model_seeds_132 rfl rfl ?_
          have hwd : acc = wdM (nK S) n.toNat x 0 := ht
          exact fin3 (S' := S) (by unfold t_seeds; rw [if_neg (by omega), hwd]) ⟨X, a, ⟨fp1, sn1, f12.at ho (by omega), f12.at hs (by omega), hsl⟩, rf, th, a, tl, fd, rw_, ⟨f12.at (f1.at d1 (by omega) (by omega) (by omega)) (by omega), q12, f12.at (f1.at d3 (by omega) (by omega) (by omega)) (by omega), f12.at (f1.at d4 (by omega) (by omega) (by omega)) (by omega), f12.at (f1.at d5 (by omega) (by omega) (by omega)) (by omega), f12.at (f1.at d6 (by omega) (by omega) (by omega)) (by omega), f12.at (f1.at d7 (by omega) (by omega) (by omega)) (by omega), f12.at (f1.at d8 (by omega) (by omega) (by omega)) (by omega), f12.at (f1.at d10 (by omega) (by omega) (by omega)) (by omega)⟩, ⟨x1, x2, x3⟩, ⟨l1, l3, hl, l5, l8, l10⟩, hk, hth, htl, hrw, hrf⟩ (Fr.tr (Fr.tr (f9.wd (by omega) (by omega)) f1.fr (by omega) (by omega)) f12 (by omega) (by omega))
        · exfalso; omega
      | succ k ih =>
        intro j h1 z1 acc cur z7 hk9 hcl hO1 hW1 f1 ht
        refine v_iload k_Model_seeds_41 rfl ?_
        refine v_iload_n k_Model_seeds_43 rfl ?_
        refine v_icge 119 k_Model_seeds_44 rfl (by omega) (by omega) (fun cd44 => ?_) (fun cd44 => ?_)
        · exfalso; omega
        · refine v_iconst k_Model_seeds_47 ?_
          refine v_istore k_Model_seeds_48 ⟨Nat.le_of_ble_eq_true rfl, Nat.le_of_ble_eq_true rfl⟩ ?_
          have loop2 : ∀ (ki : Nat) (i : Nat) (h1 : AH) (zi : Int) (done rest : List Int), (i + ki = (kP (nK S)).length) → (done.length = i) → (rest.length = ki) → (pO h1 m X) → (pW h1 m (setPs (nK S) (done ++ rest))) → (FrB m h30 h1) → (done ++ drwL ki zi = drwL (kP (nK S)).length z1) → (drwZ ki zi = drwZ (kP (nK S)).length z1) → V G Y_Model_seeds 7 0 0 50 [some (aR m), some (aI n), some (aI x), some (aI zi), some (aI acc), some (aI (j : Int)), some (aI (i : Int))] [] h1 (fun v h' => v = some (aI (t_seeds S n x).1) ∧ pMS h' m (t_seeds S n x).2 ∧ Fr m (m + 11) h h') := by
            intro ki
            induction ki with
            | zero =>
              intro i h1 zi done rest hk2 hdl hrl hO1 hW1 f1 hD hZ
              obtain ⟨fp1, sn1, ho, hs, hsl⟩ := id hO1
              obtain ⟨a1, ha, hk⟩ := id hW1
              have hl := hk.1
              have lnS : (kP (setPs (nK S) (done ++ rest))).length = (kP (nK S)).length := by show (done ++ rest).length = _; rw [List.length_append]; omega
              refine v_iload k_Model_seeds_50 rfl ?_
              refine v_aload_n k_Model_seeds_52 rfl ?_
              refine v_getf fl_Model_13 ho rfl k_Model_seeds_53 ?_
              refine v_iconst k_Model_seeds_56 ?_
              refine v_iald ha (by omega) (by omega) k_Model_seeds_57 ?_
              rw [hk.n0, lnS]
              refine v_icge 96 k_Model_seeds_58 rfl (by omega) (by omega) (fun cd58 => ?_) (fun cd58 => ?_)
              · have hr0 : rest = [] := List.length_eq_zero_iff.mp hrl
                subst hr0
                have hD2 : done = drwL (kP (nK S)).length z1 := by rw [← hD]; simp [drwL]
                have hZ2 : zi = drwZ (kP (nK S)).length z1 := by rw [← hZ]; rfl
                rw [List.append_nil, hD2] at hk
                have w8 : vK (setPs (nK S) (drwL (kP (nK S)).length z1)) 13 6 := wv.setPs (drwL_len _ _) (drwL_bd _ _)
                rw [hZ2]
                refine v_iload k_Model_seeds_96 rfl ?_
                refine v_aload_n k_Model_seeds_98 rfl ?_
                refine v_callV mo_Model_isWell mi_Model_isWell mv_Model_isWell lk_Model_159 k_Model_seeds_99 ho rfl rfl (Nat.le_of_ble_eq_true rfl) rfl (Nat.le_of_ble_eq_true rfl) (c_Model_isWell G ⟨_, _, ho, hs, hsl⟩ ha hk w8) (fun v99 h99 q99 => ?_)
                obtain ⟨rfl, hO5, f5⟩ := q99
                have ha := f5.at ha (by omega) (by omega)
                have f4 := f1.tr f5.b
                refine v_ifeq 109 k_Model_seeds_102 rfl (by split <;> decide) (fun cd102 => ?_) (fun cd102 => ?_)
                · have hy : ¬ mW (setPs (nK S) (drwL (kP (nK S)).length z1)) = true := by
                    intro q
                    rw [if_pos q] at cd102
                    exact absurd cd102 (by decide)
                  refine v_iconst k_Model_seeds_109 ?_
                  refine v_iadd k_Model_seeds_110 ?_
                  refine v_istore k_Model_seeds_111 ⟨Nat.le_of_ble_eq_true rfl, Nat.le_of_ble_eq_true rfl⟩ ?_
                  refine v_iinc k_Model_seeds_113 rfl (Nat.le_of_ble_eq_true rfl) ?_
                  refine v_goto k_Model_seeds_116 (tgt := 41) rfl ?_
                  rw [show wdM (nK S) (k + 1) z1 acc = wdM (nK S) k (drwZ (kP (nK S)).length z1) (acc + if mW (setPs (nK S) (drwL (kP (nK S)).length z1)) = true then 1 else 0) from rfl] at ht
                  rw [if_neg hy] at ht
                  exact ih (j + 1) _ _ _ _ _ (by omega) (drwL_len _ _) hO5 ⟨_, ha, hk⟩ f4 ht
                · have hy : mW (setPs (nK S) (drwL (kP (nK S)).length z1)) = true := by
                    apply Classical.byContradiction
                    intro q
                    rw [if_neg q] at cd102
                    exact cd102 rfl
                  refine v_iconst k_Model_seeds_105 ?_
                  refine v_goto k_Model_seeds_106 (tgt := 110) rfl ?_
                  refine v_iadd k_Model_seeds_110 ?_
                  refine v_istore k_Model_seeds_111 ⟨Nat.le_of_ble_eq_true rfl, Nat.le_of_ble_eq_true rfl⟩ ?_
                  refine v_iinc k_Model_seeds_113 rfl (Nat.le_of_ble_eq_true rfl) ?_
                  refine v_goto k_Model_seeds_116 (tgt := 41) rfl ?_
                  rw [show wdM (nK S) (k + 1) z1 acc = wdM (nK S) k (drwZ (kP (nK S)).length z1) (acc + if mW (setPs (nK S) (drwL (kP (nK S)).length z1)) = true then 1 else 0) from rfl] at ht
                  rw [if_pos hy] at ht
                  exact ih (j + 1) _ _ _ _ _ (by omega) (drwL_len _ _) hO5 ⟨_, ha, hk⟩ f4 ht
              · exfalso; omega
            | succ ki ih2 =>
              intro i h1 zi done rest hk2 hdl hrl hO1 hW1 f1 hD hZ
              cases rest with
              | nil => exact absurd hrl (by simp)
              | cons y0 rest =>
                obtain ⟨fp1, sn1, ho, hs, hsl⟩ := id hO1
                obtain ⟨a1, ha, hk⟩ := id hW1
                have hl := hk.1
                have lnS : (kP (setPs (nK S) (done ++ y0 :: rest))).length = (kP (nK S)).length := by show (done ++ y0 :: rest).length = _; rw [List.length_append, hrl]; omega
                refine v_iload k_Model_seeds_50 rfl ?_
                refine v_aload_n k_Model_seeds_52 rfl ?_
                refine v_getf fl_Model_13 ho rfl k_Model_seeds_53 ?_
                refine v_iconst k_Model_seeds_56 ?_
                refine v_iald ha (by omega) (by omega) k_Model_seeds_57 ?_
                rw [hk.n0, lnS]
                refine v_icge 96 k_Model_seeds_58 rfl (by omega) (by omega) (fun cd58 => ?_) (fun cd58 => ?_)
                · exfalso; omega
                · refine v_iload_n k_Model_seeds_61 rfl ?_
                  refine v_ldc (x := 1664525) cn_Model_184 k_Model_seeds_62 (by decide) ?_
                  refine v_imul k_Model_seeds_64 ?_
                  refine v_ldc (x := 1013904223) cn_Model_185 k_Model_seeds_65 (by decide) ?_
                  refine v_iadd k_Model_seeds_67 ?_
                  refine v_istore_n k_Model_seeds_68 ⟨Nat.le_of_ble_eq_true rfl, Nat.le_of_ble_eq_true rfl⟩ ?_
                  refine v_aload_n k_Model_seeds_69 rfl ?_
                  refine v_getf fl_Model_13 ho rfl k_Model_seeds_70 ?_
                  refine v_bipush k_Model_seeds_73 (by decide) ?_
                  refine v_iload k_Model_seeds_75 rfl ?_
                  refine v_iadd k_Model_seeds_77 ?_
                  refine v_iload_n k_Model_seeds_78 rfl ?_
                  refine v_ldc (x := 2147483647) cn_Model_186 k_Model_seeds_79 (by decide) ?_
                  refine v_mask 31 k_Model_seeds_81 (by decide) (by decide) ?_
                  rw [show ((2 ^ 31 : Nat) : Int) = 2147483648 from rfl]
                  have em := emd (zi * 1664525 + 1013904223) 2147483648 (by decide)
                  refine v_sipush k_Model_seeds_82 (by decide) ?_
                  refine v_idiv k_Model_seeds_85 (by omega) (by decide) ?_
                  rw [Int.tdiv_eq_ediv_of_nonneg em.1]
                  refine v_bipush k_Model_seeds_86 (by decide) ?_
                  refine v_irem k_Model_seeds_88 (by omega) (by decide) ?_
                  rw [Int.tmod_eq_emod_of_nonneg (by omega)]
                  rw [show (zi * 1664525 + 1013904223) % 2147483648 / 256 % 10 = pz (zst zi) from rfl]
                  refine v_ist ha (by omega) (by omega) k_Model_seeds_89 (fun h89 e89 f89 => ?_)
                  have f4 := f1.tr f89.b2
                  have ha := e89
                  have hk := nowR_setP (n := (i : Int)) (x := pz (zst zi)) hk ⟨by omega, by rw [lnS]; omega⟩ (by rw [lnS]; omega)
                  rw [show setP (setPs (nK S) (done ++ y0 :: rest)) i (pz (zst zi)) = setPs (nK S) ((done ++ [pz (zst zi)]) ++ rest) by rw [← rset_mid hdl]; rfl] at hk
                  have ho := f89.at ho (by omega)
                  have hs := f89.at hs (by omega)
                  refine v_iinc k_Model_seeds_90 rfl (Nat.le_of_ble_eq_true rfl) ?_
                  refine v_goto k_Model_seeds_93 (tgt := 50) rfl ?_
                  exact ih2 (i + 1) h89 (zst zi) (done ++ [pz (zst zi)]) rest (by omega) (by rw [List.length_append, hdl]; rfl) (by simpa using hrl) ⟨_, _, ho, hs, hsl⟩ ⟨_, ha, hk⟩ f4 (by rw [List.append_assoc, ← hD]; rfl) hZ
          exact loop2 (kP (nK S)).length 0 h1 z1 [] cur (by omega) rfl hcl hO1 hW1 f1 rfl rfl
    exact loop n.toNat 0 h30 x 0 (kP (nK S)) _ (by omega) rfl ⟨fp, sn, f9.at ho (by omega), f9.at hs (by omega), hsl⟩ ⟨a, f9.at ha (by omega), hk⟩ FrB.rf rfl
  · refine v_aload_n k_Model_seeds_10 rfl ?_
    refine v_iload_n k_Model_seeds_11 rfl ?_
    refine v_iconst k_Model_seeds_12 ?_
    refine v_bipush k_Model_seeds_13 (by decide) ?_
    refine v_callSr mo_Model_isWrong ms_Model_isWrong lk_Model_148 k_Model_seeds_15 rfl (Nat.le_of_ble_eq_true rfl) rfl (Nat.le_of_ble_eq_true rfl) (c_Model_isWrong G (v := n) (l := 1) (m := 20) (by omega) (by omega) (by omega)) ?_
    refine v_callV mo_Model_no mi_Model_no mv_Model_no lk_Model_49 k_Model_seeds_18 ho rfl rfl (Nat.le_of_ble_eq_true rfl) rfl (Nat.le_of_ble_eq_true rfl) (c_Model_no G hp w (by omega)) (fun v18 h18 q18 => ?_)
    obtain ⟨rfl, p9, f9⟩ := q18
    refine v_ireturn k_Model_seeds_21 rfl rfl ?_
    first
      | (exfalso; omega)
      | exact fin3 (by unfold t_seeds; (repeat (first | rw [if_pos (by omega)] | rw [if_neg (by omega)])); (try rfl)) p9 (f9.wd (by omega) (by omega))
      | exact fin3 (by unfold t_seeds; (repeat (first | rw [if_pos (by omega)] | rw [if_neg (by omega)])); (try rfl)) hp Fr.rf
