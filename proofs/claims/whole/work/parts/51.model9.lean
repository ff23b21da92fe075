def t_changed (S : St) (w : Int) : Int × St := if w < 0 ∨ w > 1 then rfS S (-2) else (if mW (nK S) = true then (if w = 0 then 0 else -9) else if w = 1 then mOC (nK S) else if mOC (nK S) ≠ -9 then 1 else if mTC (nK S) = true then 2 else -9, S)
def t_better (S : St) : Int × St := (b2_ (nK S) (kP (nK S)).length 0 (mS (nK S) (-9) (q_endK (nK S)).toNat), S)
set_option maxHeartbeats 4000000 in
set_option maxRecDepth 20000 in
theorem c_Model_changed (G : Gx) {h : AH} {m : Nat} {S : St} (hp : pMS h m S) (w : wSt S) {x : Int} (hx : InR x) : Ct G Y_Model_changed 9 0 0 [aR m, aI x] h (fun v h' => v = some (aI (t_changed S x).1) ∧ pMS h' m (t_changed S x).2 ∧ Fr m (m + 11) h h') := by
  obtain ⟨X, a, ⟨fp, sn, ho, hs, hsl⟩, rf, th, be, tl, fd, rw_, ⟨c1, ha, c3, c4, c5, c6, c7, c8, c10⟩, ⟨x1, x2, x3⟩, ⟨l1, l3, l4, l5, l8, l10⟩, hk, hth, htl, hrw, hrf⟩ := id hp
  obtain ⟨w1, w2, w3, w4, w5, w6, w7, w8⟩ := id w
  have wv : vK (nK S) 13 6 := ⟨w1.1, by have := w1.2.1; omega, w1.2.2⟩
  have wu := wv.up (by decide) (by decide)
  have hl := hk.1
  have hn12 := w1.2.1
  have hv6 := w1.2.2.2.2.2.1
  refine Ct.of_V mo_Model_changed rfl (Nat.le_of_ble_eq_true rfl) rfl ?_
  by_cases hc : mW (nK S) = true
  · by_cases hd : mTC (nK S) = true
    · skip
      have qW := c_Model_isWell G (⟨_, _, ho, hs, hsl⟩ : pO h m X) ha hk wv
      rw [if_pos hc] at qW
      refine v_iload_n k_Model_changed_0 rfl ?_
      refine v_iflt 9 k_Model_changed_1 rfl (by first | omega | (have := o2_bd (nK S) (kP (nK S)).length 0 (by omega) (by omega); exact ⟨by unfold mOC; omega, by unfold mOC; omega⟩)) (fun cd1 => ?_) (fun cd1 => ?_)
      · refine v_aload_n k_Model_changed_9 rfl ?_
        refine v_bipush k_Model_changed_10 (by decide) ?_
        refine v_callV mo_Model_no mi_Model_no mv_Model_no lk_Model_49 k_Model_changed_12 ho rfl rfl (Nat.le_of_ble_eq_true rfl) rfl (Nat.le_of_ble_eq_true rfl) (c_Model_no G hp w (by omega)) (fun v12 h12 q12 => ?_)
        obtain ⟨rfl, p9, f9⟩ := q12
        refine v_ireturn k_Model_changed_15 rfl rfl ?_
        first
          | (exfalso; omega)
          | exact fin3 (by unfold t_changed; (repeat (first | rw [if_pos (by omega)] | rw [if_neg (by omega)])); (try rfl)) p9 (f9.wd (by omega) (by omega))
          | (obtain ⟨a9, Q9⟩ := (show pQ h m S X a from ⟨rf, th, be, tl, fd, rw_, ⟨c1, ha, c3, c4, c5, c6, c7, c8, c10⟩, ⟨x1, x2, x3⟩, ⟨l1, l3, l4, l5, l8, l10⟩, hk, hth, htl, hrw, hrf⟩).fb fA hW5
             exact fin3 (by unfold t_changed; rw [if_neg (by omega)]; (first | rw [if_pos hc] | rw [if_neg hc]); (repeat (first | rw [if_pos (by omega)] | rw [if_neg (by omega)] | rw [if_pos hd] | rw [if_neg hd])); (try rfl)) ⟨X, a9, hO5, Q9⟩ fA.fr)
      · refine v_iload_n k_Model_changed_4 rfl ?_
        refine v_iconst k_Model_changed_5 ?_
        refine v_icle 16 k_Model_changed_6 rfl (by first | omega | (have := o2_bd (nK S) (kP (nK S)).length 0 (by omega) (by omega); exact ⟨by unfold mOC; omega, by unfold mOC; omega⟩)) (by first | omega | (have := o2_bd (nK S) (kP (nK S)).length 0 (by omega) (by omega); exact ⟨by unfold mOC; omega, by unfold mOC; omega⟩)) (fun cd6 => ?_) (fun cd6 => ?_)
        · refine v_aload_n k_Model_changed_16 rfl ?_
          refine v_callV mo_Model_isWell mi_Model_isWell mv_Model_isWell lk_Model_159 k_Model_changed_17 ho rfl rfl (Nat.le_of_ble_eq_true rfl) rfl (Nat.le_of_ble_eq_true rfl) (qW) (fun v17 h17 q17 => ?_)
          obtain ⟨rfl, hO5, f5⟩ := q17
          have fA := f5.b
          have hW5 : pW h17 m (nK S) := ⟨a, f5.at ha (by omega) (by omega), hk⟩
          obtain ⟨fp5, sn5, ho, hs, hsl⟩ := id hO5
          refine v_ifeq 34 k_Model_changed_20 rfl (by first | omega | (have := o2_bd (nK S) (kP (nK S)).length 0 (by omega) (by omega); exact ⟨by unfold mOC; omega, by unfold mOC; omega⟩)) (fun cd20 => ?_) (fun cd20 => ?_)
          · refine v_aload_n k_Model_changed_34 rfl ?_
            refine v_callV mo_Model_oneChange mi_Model_oneChange mv_Model_oneChange lk_Model_163 k_Model_changed_35 ho rfl rfl (Nat.le_of_ble_eq_true rfl) rfl (Nat.le_of_ble_eq_true rfl) (c_Model_oneChange G hO5 hW5 w1) (fun v35 h35 q35 => ?_)
            obtain ⟨rfl, hO5, hW5, f6⟩ := q35
            have fA := fA.tr f6
            obtain ⟨fp5, sn5, ho, hs, hsl⟩ := id hO5
            have qT := c_Model_isTwoChanges G hO5 hW5 w1
            rw [if_pos hd] at qT
            refine v_istore_n k_Model_changed_38 ⟨Nat.le_of_ble_eq_true rfl, Nat.le_of_ble_eq_true rfl⟩ ?_
            refine v_iload_n k_Model_changed_39 rfl ?_
            refine v_iconst k_Model_changed_40 ?_
            refine v_icne 46 k_Model_changed_41 rfl (by first | omega | (have := o2_bd (nK S) (kP (nK S)).length 0 (by omega) (by omega); exact ⟨by unfold mOC; omega, by unfold mOC; omega⟩)) (by first | omega | (have := o2_bd (nK S) (kP (nK S)).length 0 (by omega) (by omega); exact ⟨by unfold mOC; omega, by unfold mOC; omega⟩)) (fun cd41 => ?_) (fun cd41 => ?_)
            · refine v_iload_n k_Model_changed_46 rfl ?_
              refine v_bipush k_Model_changed_47 (by decide) ?_
              refine v_iceq 56 k_Model_changed_49 rfl (by first | omega | (have := o2_bd (nK S) (kP (nK S)).length 0 (by omega) (by omega); exact ⟨by unfold mOC; omega, by unfold mOC; omega⟩)) (by first | omega | (have := o2_bd (nK S) (kP (nK S)).length 0 (by omega) (by omega); exact ⟨by unfold mOC; omega, by unfold mOC; omega⟩)) (fun cd49 => ?_) (fun cd49 => ?_)
              · refine v_aload_n k_Model_changed_56 rfl ?_
                refine v_callV mo_Model_isTwoChanges mi_Model_isTwoChanges mv_Model_isTwoChanges lk_Model_166 k_Model_changed_57 ho rfl rfl (Nat.le_of_ble_eq_true rfl) rfl (Nat.le_of_ble_eq_true rfl) (qT) (fun v57 h57 q57 => ?_)
                obtain ⟨rfl, hO5, hW5, f6⟩ := q57
                have fA := fA.tr f6
                obtain ⟨fp5, sn5, ho, hs, hsl⟩ := id hO5
                refine v_ifeq 67 k_Model_changed_60 rfl (by first | omega | (have := o2_bd (nK S) (kP (nK S)).length 0 (by omega) (by omega); exact ⟨by unfold mOC; omega, by unfold mOC; omega⟩)) (fun cd60 => ?_) (fun cd60 => ?_)
                · refine v_bipush k_Model_changed_67 (by decide) ?_
                  refine v_ireturn k_Model_changed_69 rfl rfl ?_
                  first
                    | (exfalso; omega)
                    | exact fin3 (by unfold t_changed; (repeat (first | rw [if_pos (by omega)] | rw [if_neg (by omega)])); (try rfl)) p9 (f9.wd (by omega) (by omega))
                    | (obtain ⟨a9, Q9⟩ := (show pQ h m S X a from ⟨rf, th, be, tl, fd, rw_, ⟨c1, ha, c3, c4, c5, c6, c7, c8, c10⟩, ⟨x1, x2, x3⟩, ⟨l1, l3, l4, l5, l8, l10⟩, hk, hth, htl, hrw, hrf⟩).fb fA hW5
                       exact fin3 (by unfold t_changed; rw [if_neg (by omega)]; (first | rw [if_pos hc] | rw [if_neg hc]); (repeat (first | rw [if_pos (by omega)] | rw [if_neg (by omega)] | rw [if_pos hd] | rw [if_neg hd])); (try rfl)) ⟨X, a9, hO5, Q9⟩ fA.fr)
                · refine v_iconst k_Model_changed_63 ?_
                  refine v_goto k_Model_changed_64 (tgt := 69) rfl ?_
                  refine v_ireturn k_Model_changed_69 rfl rfl ?_
                  first
                    | (exfalso; omega)
                    | exact fin3 (by unfold t_changed; (repeat (first | rw [if_pos (by omega)] | rw [if_neg (by omega)])); (try rfl)) p9 (f9.wd (by omega) (by omega))
                    | (obtain ⟨a9, Q9⟩ := (show pQ h m S X a from ⟨rf, th, be, tl, fd, rw_, ⟨c1, ha, c3, c4, c5, c6, c7, c8, c10⟩, ⟨x1, x2, x3⟩, ⟨l1, l3, l4, l5, l8, l10⟩, hk, hth, htl, hrw, hrf⟩).fb fA hW5
                       exact fin3 (by unfold t_changed; rw [if_neg (by omega)]; (first | rw [if_pos hc] | rw [if_neg hc]); (repeat (first | rw [if_pos (by omega)] | rw [if_neg (by omega)] | rw [if_pos hd] | rw [if_neg hd])); (try rfl)) ⟨X, a9, hO5, Q9⟩ fA.fr)
              · refine v_iconst k_Model_changed_52 ?_
                refine v_goto k_Model_changed_53 (tgt := 69) rfl ?_
                refine v_ireturn k_Model_changed_69 rfl rfl ?_
                first
                  | (exfalso; omega)
                  | exact fin3 (by unfold t_changed; (repeat (first | rw [if_pos (by omega)] | rw [if_neg (by omega)])); (try rfl)) p9 (f9.wd (by omega) (by omega))
                  | (obtain ⟨a9, Q9⟩ := (show pQ h m S X a from ⟨rf, th, be, tl, fd, rw_, ⟨c1, ha, c3, c4, c5, c6, c7, c8, c10⟩, ⟨x1, x2, x3⟩, ⟨l1, l3, l4, l5, l8, l10⟩, hk, hth, htl, hrw, hrf⟩).fb fA hW5
                     exact fin3 (by unfold t_changed; rw [if_neg (by omega)]; (first | rw [if_pos hc] | rw [if_neg hc]); (repeat (first | rw [if_pos (by omega)] | rw [if_neg (by omega)] | rw [if_pos hd] | rw [if_neg hd])); (try rfl)) ⟨X, a9, hO5, Q9⟩ fA.fr)
            · refine v_iload_n k_Model_changed_44 rfl ?_
              refine v_ireturn k_Model_changed_45 rfl rfl ?_
              first
                | (exfalso; omega)
                | exact fin3 (by unfold t_changed; (repeat (first | rw [if_pos (by omega)] | rw [if_neg (by omega)])); (try rfl)) p9 (f9.wd (by omega) (by omega))
                | (obtain ⟨a9, Q9⟩ := (show pQ h m S X a from ⟨rf, th, be, tl, fd, rw_, ⟨c1, ha, c3, c4, c5, c6, c7, c8, c10⟩, ⟨x1, x2, x3⟩, ⟨l1, l3, l4, l5, l8, l10⟩, hk, hth, htl, hrw, hrf⟩).fb fA hW5
                   exact fin3 (by unfold t_changed; rw [if_neg (by omega)]; (first | rw [if_pos hc] | rw [if_neg hc]); (repeat (first | rw [if_pos (by omega)] | rw [if_neg (by omega)] | rw [if_pos hd] | rw [if_neg hd])); (try rfl)) ⟨X, a9, hO5, Q9⟩ fA.fr)
          · refine v_iload_n k_Model_changed_23 rfl ?_
            refine v_ifne 31 k_Model_changed_24 rfl (by first | omega | (have := o2_bd (nK S) (kP (nK S)).length 0 (by omega) (by omega); exact ⟨by unfold mOC; omega, by unfold mOC; omega⟩)) (fun cd24 => ?_) (fun cd24 => ?_)
            · refine v_bipush k_Model_changed_31 (by decide) ?_
              refine v_ireturn k_Model_changed_33 rfl rfl ?_
              first
                | (exfalso; omega)
                | exact fin3 (by unfold t_changed; (repeat (first | rw [if_pos (by omega)] | rw [if_neg (by omega)])); (try rfl)) p9 (f9.wd (by omega) (by omega))
                | (obtain ⟨a9, Q9⟩ := (show pQ h m S X a from ⟨rf, th, be, tl, fd, rw_, ⟨c1, ha, c3, c4, c5, c6, c7, c8, c10⟩, ⟨x1, x2, x3⟩, ⟨l1, l3, l4, l5, l8, l10⟩, hk, hth, htl, hrw, hrf⟩).fb fA hW5
                   exact fin3 (by unfold t_changed; rw [if_neg (by omega)]; (first | rw [if_pos hc] | rw [if_neg hc]); (repeat (first | rw [if_pos (by omega)] | rw [if_neg (by omega)] | rw [if_pos hd] | rw [if_neg hd])); (try rfl)) ⟨X, a9, hO5, Q9⟩ fA.fr)
            · refine v_iconst k_Model_changed_27 ?_
              refine v_goto k_Model_changed_28 (tgt := 33) rfl ?_
              refine v_ireturn k_Model_changed_33 rfl rfl ?_
              first
                | (exfalso; omega)
                | exact fin3 (by unfold t_changed; (repeat (first | rw [if_pos (by omega)] | rw [if_neg (by omega)])); (try rfl)) p9 (f9.wd (by omega) (by omega))
                | (obtain ⟨a9, Q9⟩ := (show pQ h m S X a from ⟨rf, th, be, tl, fd, rw_, ⟨c1, ha, c3, c4, c5, c6, c7, c8, c10⟩, ⟨x1, x2, x3⟩, ⟨l1, l3, l4, l5, l8, l10⟩, hk, hth, htl, hrw, hrf⟩).fb fA hW5
                   exact fin3 (by unfold t_changed; rw [if_neg (by omega)]; (first | rw [if_pos hc] | rw [if_neg hc]); (repeat (first | rw [if_pos (by omega)] | rw [if_neg (by omega)] | rw [if_pos hd] | rw [if_neg hd])); (try rfl)) ⟨X, a9, hO5, Q9⟩ fA.fr)
        · refine v_aload_n k_Model_changed_9 rfl ?_
          refine v_bipush k_Model_changed_10 (by decide) ?_
          refine v_callV mo_Model_no mi_Model_no mv_Model_no lk_Model_49 k_Model_changed_12 ho rfl rfl (Nat.le_of_ble_eq_true rfl) rfl (Nat.le_of_ble_eq_true rfl) (c_Model_no G hp w (by omega)) (fun v12 h12 q12 => ?_)
          obtain ⟨rfl, p9, f9⟩ := q12
          refine v_ireturn k_Model_changed_15 rfl rfl ?_
          first
            | (exfalso; omega)
            | exact fin3 (by unfold t_changed; (repeat (first | rw [if_pos (by omega)] | rw [if_neg (by omega)])); (try rfl)) p9 (f9.wd (by omega) (by omega))
            | (obtain ⟨a9, Q9⟩ := (show pQ h m S X a from ⟨rf, th, be, tl, fd, rw_, ⟨c1, ha, c3, c4, c5, c6, c7, c8, c10⟩, ⟨x1, x2, x3⟩, ⟨l1, l3, l4, l5, l8, l10⟩, hk, hth, htl, hrw, hrf⟩).fb fA hW5
               exact fin3 (by unfold t_changed; rw [if_neg (by omega)]; (first | rw [if_pos hc] | rw [if_neg hc]); (repeat (first | rw [if_pos (by omega)] | rw [if_neg (by omega)] | rw [if_pos hd] | rw [if_neg hd])); (try rfl)) ⟨X, a9, hO5, Q9⟩ fA.fr)
    · skip
      have qW := c_Model_isWell G (⟨_, _, ho, hs, hsl⟩ : pO h m X) ha hk wv
      rw [if_pos hc] at qW
      refine v_iload_n k_Model_changed_0 rfl ?_
      refine v_iflt 9 k_Model_changed_1 rfl (by first | omega | (have := o2_bd (nK S) (kP (nK S)).length 0 (by omega) (by omega); exact ⟨by unfold mOC; omega, by unfold mOC; omega⟩)) (fun cd1 => ?_) (fun cd1 => ?_)
      · refine v_aload_n k_Model_changed_9 rfl ?_
        refine v_bipush k_Model_changed_10 (by decide) ?_
        refine v_callV mo_Model_no mi_Model_no mv_Model_no lk_Model_49 k_Model_changed_12 ho rfl rfl (Nat.le_of_ble_eq_true rfl) rfl (Nat.le_of_ble_eq_true rfl) (c_Model_no G hp w (by omega)) (fun v12 h12 q12 => ?_)
        obtain ⟨rfl, p9, f9⟩ := q12
        refine v_ireturn k_Model_changed_15 rfl rfl ?_
        first
          | (exfalso; omega)
          | exact fin3 (by unfold t_changed; (repeat (first | rw [if_pos (by omega)] | rw [if_neg (by omega)])); (try rfl)) p9 (f9.wd (by omega) (by omega))
          | (obtain ⟨a9, Q9⟩ := (show pQ h m S X a from ⟨rf, th, be, tl, fd, rw_, ⟨c1, ha, c3, c4, c5, c6, c7, c8, c10⟩, ⟨x1, x2, x3⟩, ⟨l1, l3, l4, l5, l8, l10⟩, hk, hth, htl, hrw, hrf⟩).fb fA hW5
             exact fin3 (by unfold t_changed; rw [if_neg (by omega)]; (first | rw [if_pos hc] | rw [if_neg hc]); (repeat (first | rw [if_pos (by omega)] | rw [if_neg (by omega)] | rw [if_pos hd] | rw [if_neg hd])); (try rfl)) ⟨X, a9, hO5, Q9⟩ fA.fr)
      · refine v_iload_n k_Model_changed_4 rfl ?_
        refine v_iconst k_Model_changed_5 ?_
        refine v_icle 16 k_Model_changed_6 rfl (by first | omega | (have := o2_bd (nK S) (kP (nK S)).length 0 (by omega) (by omega); exact ⟨by unfold mOC; omega, by unfold mOC; omega⟩)) (by first | omega | (have := o2_bd (nK S) (kP (nK S)).length 0 (by omega) (by omega); exact ⟨by unfold mOC; omega, by unfold mOC; omega⟩)) (fun cd6 => ?_) (fun cd6 => ?_)
        · refine v_aload_n k_Model_changed_16 rfl ?_
          refine v_callV mo_Model_isWell mi_Model_isWell mv_Model_isWell lk_Model_159 k_Model_changed_17 ho rfl rfl (Nat.le_of_ble_eq_true rfl) rfl (Nat.le_of_ble_eq_true rfl) (qW) (fun v17 h17 q17 => ?_)
          obtain ⟨rfl, hO5, f5⟩ := q17
          have fA := f5.b
          have hW5 : pW h17 m (nK S) := ⟨a, f5.at ha (by omega) (by omega), hk⟩
          obtain ⟨fp5, sn5, ho, hs, hsl⟩ := id hO5
          refine v_ifeq 34 k_Model_changed_20 rfl (by first | omega | (have := o2_bd (nK S) (kP (nK S)).length 0 (by omega) (by omega); exact ⟨by unfold mOC; omega, by unfold mOC; omega⟩)) (fun cd20 => ?_) (fun cd20 => ?_)
          · refine v_aload_n k_Model_changed_34 rfl ?_
            refine v_callV mo_Model_oneChange mi_Model_oneChange mv_Model_oneChange lk_Model_163 k_Model_changed_35 ho rfl rfl (Nat.le_of_ble_eq_true rfl) rfl (Nat.le_of_ble_eq_true rfl) (c_Model_oneChange G hO5 hW5 w1) (fun v35 h35 q35 => ?_)
            obtain ⟨rfl, hO5, hW5, f6⟩ := q35
            have fA := fA.tr f6
            obtain ⟨fp5, sn5, ho, hs, hsl⟩ := id hO5
            have qT := c_Model_isTwoChanges G hO5 hW5 w1
            rw [if_neg hd] at qT
            refine v_istore_n k_Model_changed_38 ⟨Nat.le_of_ble_eq_true rfl, Nat.le_of_ble_eq_true rfl⟩ ?_
            refine v_iload_n k_Model_changed_39 rfl ?_
            refine v_iconst k_Model_changed_40 ?_
            refine v_icne 46 k_Model_changed_41 rfl (by first | omega | (have := o2_bd (nK S) (kP (nK S)).length 0 (by omega) (by omega); exact ⟨by unfold mOC; omega, by unfold mOC; omega⟩)) (by first | omega | (have := o2_bd (nK S) (kP (nK S)).length 0 (by omega) (by omega); exact ⟨by unfold mOC; omega, by unfold mOC; omega⟩)) (fun cd41 => ?_) (fun cd41 => ?_)
            · refine v_iload_n k_Model_changed_46 rfl ?_
              refine v_bipush k_Model_changed_47 (by decide) ?_
              refine v_iceq 56 k_Model_changed_49 rfl (by first | omega | (have := o2_bd (nK S) (kP (nK S)).length 0 (by omega) (by omega); exact ⟨by unfold mOC; omega, by unfold mOC; omega⟩)) (by first | omega | (have := o2_bd (nK S) (kP (nK S)).length 0 (by omega) (by omega); exact ⟨by unfold mOC; omega, by unfold mOC; omega⟩)) (fun cd49 => ?_) (fun cd49 => ?_)
              · refine v_aload_n k_Model_changed_56 rfl ?_
                refine v_callV mo_Model_isTwoChanges mi_Model_isTwoChanges mv_Model_isTwoChanges lk_Model_166 k_Model_changed_57 ho rfl rfl (Nat.le_of_ble_eq_true rfl) rfl (Nat.le_of_ble_eq_true rfl) (qT) (fun v57 h57 q57 => ?_)
                obtain ⟨rfl, hO5, hW5, f6⟩ := q57
                have fA := fA.tr f6
                obtain ⟨fp5, sn5, ho, hs, hsl⟩ := id hO5
                refine v_ifeq 67 k_Model_changed_60 rfl (by first | omega | (have := o2_bd (nK S) (kP (nK S)).length 0 (by omega) (by omega); exact ⟨by unfold mOC; omega, by unfold mOC; omega⟩)) (fun cd60 => ?_) (fun cd60 => ?_)
                · refine v_bipush k_Model_changed_67 (by decide) ?_
                  refine v_ireturn k_Model_changed_69 rfl rfl ?_
                  first
                    | (exfalso; omega)
                    | exact fin3 (by unfold t_changed; (repeat (first | rw [if_pos (by omega)] | rw [if_neg (by omega)])); (try rfl)) p9 (f9.wd (by omega) (by omega))
                    | (obtain ⟨a9, Q9⟩ := (show pQ h m S X a from ⟨rf, th, be, tl, fd, rw_, ⟨c1, ha, c3, c4, c5, c6, c7, c8, c10⟩, ⟨x1, x2, x3⟩, ⟨l1, l3, l4, l5, l8, l10⟩, hk, hth, htl, hrw, hrf⟩).fb fA hW5
                       exact fin3 (by unfold t_changed; rw [if_neg (by omega)]; (first | rw [if_pos hc] | rw [if_neg hc]); (repeat (first | rw [if_pos (by omega)] | rw [if_neg (by omega)] | rw [if_pos hd] | rw [if_neg hd])); (try rfl)) ⟨X, a9, hO5, Q9⟩ fA.fr)
                · refine v_iconst k_Model_changed_63 ?_
                  refine v_goto k_Model_changed_64 (tgt := 69) rfl ?_
                  refine v_ireturn k_Model_changed_69 rfl rfl ?_
                  first
                    | (exfalso; omega)
                    | exact fin3 (by unfold t_changed; (repeat (first | rw [if_pos (by omega)] | rw [if_neg (by omega)])); (try rfl)) p9 (f9.wd (by omega) (by omega))
                    | (obtain ⟨a9, Q9⟩ := (show pQ h m S X a from ⟨rf, th, be, tl, fd, rw_, ⟨c1, ha, c3, c4, c5, c6, c7, c8, c10⟩, ⟨x1, x2, x3⟩, ⟨l1, l3, l4, l5, l8, l10⟩, hk, hth, htl, hrw, hrf⟩).fb fA hW5
                       exact fin3 (by unfold t_changed; rw [if_neg (by omega)]; (first | rw [if_pos hc] | rw [if_neg hc]); (repeat (first | rw [if_pos (by omega)] | rw [if_neg (by omega)] | rw [if_pos hd] | rw [if_neg hd])); (try rfl)) ⟨X, a9, hO5, Q9⟩ fA.fr)
              · refine v_iconst k_Model_changed_52 ?_
                refine v_goto k_Model_changed_53 (tgt := 69) rfl ?_
                refine v_ireturn k_Model_changed_69 rfl rfl ?_
                first
                  | (exfalso; omega)
                  | exact fin3 (by unfold t_changed; (repeat (first | rw [if_pos (by omega)] | rw [if_neg (by omega)])); (try rfl)) p9 (f9.wd (by omega) (by omega))
                  | (obtain ⟨a9, Q9⟩ := (show pQ h m S X a from ⟨rf, th, be, tl, fd, rw_, ⟨c1, ha, c3, c4, c5, c6, c7, c8, c10⟩, ⟨x1, x2, x3⟩, ⟨l1, l3, l4, l5, l8, l10⟩, hk, hth, htl, hrw, hrf⟩).fb fA hW5
                     exact fin3 (by unfold t_changed; rw [if_neg (by omega)]; (first | rw [if_pos hc] | rw [if_neg hc]); (repeat (first | rw [if_pos (by omega)] | rw [if_neg (by omega)] | rw [if_pos hd] | rw [if_neg hd])); (try rfl)) ⟨X, a9, hO5, Q9⟩ fA.fr)
            · refine v_iload_n k_Model_changed_44 rfl ?_
              refine v_ireturn k_Model_changed_45 rfl rfl ?_
              first
                | (exfalso; omega)
                | exact fin3 (by unfold t_changed; (repeat (first | rw [if_pos (by omega)] | rw [if_neg (by omega)])); (try rfl)) p9 (f9.wd (by omega) (by omega))
                | (obtain ⟨a9, Q9⟩ := (show pQ h m S X a from ⟨rf, th, be, tl, fd, rw_, ⟨c1, ha, c3, c4, c5, c6, c7, c8, c10⟩, ⟨x1, x2, x3⟩, ⟨l1, l3, l4, l5, l8, l10⟩, hk, hth, htl, hrw, hrf⟩).fb fA hW5
                   exact fin3 (by unfold t_changed; rw [if_neg (by omega)]; (first | rw [if_pos hc] | rw [if_neg hc]); (repeat (first | rw [if_pos (by omega)] | rw [if_neg (by omega)] | rw [if_pos hd] | rw [if_neg hd])); (try rfl)) ⟨X, a9, hO5, Q9⟩ fA.fr)
          · refine v_iload_n k_Model_changed_23 rfl ?_
            refine v_ifne 31 k_Model_changed_24 rfl (by first | omega | (have := o2_bd (nK S) (kP (nK S)).length 0 (by omega) (by omega); exact ⟨by unfold mOC; omega, by unfold mOC; omega⟩)) (fun cd24 => ?_) (fun cd24 => ?_)
            · refine v_bipush k_Model_changed_31 (by decide) ?_
              refine v_ireturn k_Model_changed_33 rfl rfl ?_
              first
                | (exfalso; omega)
                | exact fin3 (by unfold t_changed; (repeat (first | rw [if_pos (by omega)] | rw [if_neg (by omega)])); (try rfl)) p9 (f9.wd (by omega) (by omega))
                | (obtain ⟨a9, Q9⟩ := (show pQ h m S X a from ⟨rf, th, be, tl, fd, rw_, ⟨c1, ha, c3, c4, c5, c6, c7, c8, c10⟩, ⟨x1, x2, x3⟩, ⟨l1, l3, l4, l5, l8, l10⟩, hk, hth, htl, hrw, hrf⟩).fb fA hW5
                   exact fin3 (by unfold t_changed; rw [if_neg (by omega)]; (first | rw [if_pos hc] | rw [if_neg hc]); (repeat (first | rw [if_pos (by omega)] | rw [if_neg (by omega)] | rw [if_pos hd] | rw [if_neg hd])); (try rfl)) ⟨X, a9, hO5, Q9⟩ fA.fr)
            · refine v_iconst k_Model_changed_27 ?_
              refine v_goto k_Model_changed_28 (tgt := 33) rfl ?_
              refine v_ireturn k_Model_changed_33 rfl rfl ?_
              first
                | (exfalso; omega)
                | exact fin3 (by unfold t_changed; (repeat (first | rw [if_pos (by omega)] | rw [if_neg (by omega)])); (try rfl)) p9 (f9.wd (by omega) (by omega))
                | (obtain ⟨a9, Q9⟩ := (show pQ h m S X a from ⟨rf, th, be, tl, fd, rw_, ⟨c1, ha, c3, c4, c5, c6, c7, c8, c10⟩, ⟨x1, x2, x3⟩, ⟨l1, l3, l4, l5, l8, l10⟩, hk, hth, htl, hrw, hrf⟩).fb fA hW5
                   exact fin3 (by unfold t_changed; rw [if_neg (by omega)]; (first | rw [if_pos hc] | rw [if_neg hc]); (repeat (first | rw [if_pos (by omega)] | rw [if_neg (by omega)] | rw [if_pos hd] | rw [if_neg hd])); (try rfl)) ⟨X, a9, hO5, Q9⟩ fA.fr)
        · refine v_aload_n k_Model_changed_9 rfl ?_
          refine v_bipush k_Model_changed_10 (by decide) ?_
          refine v_callV mo_Model_no mi_Model_no mv_Model_no lk_Model_49 k_Model_changed_12 ho rfl rfl (Nat.le_of_ble_eq_true rfl) rfl (Nat.le_of_ble_eq_true rfl) (c_Model_no G hp w (by omega)) (fun v12 h12 q12 => ?_)
          obtain ⟨rfl, p9, f9⟩ := q12
          refine v_ireturn k_Model_changed_15 rfl rfl ?_
          first
            | (exfalso; omega)
            | exact fin3 (by unfold t_changed; (repeat (first | rw [if_pos (by omega)] | rw [if_neg (by omega)])); (try rfl)) p9 (f9.wd (by omega) (by omega))
            | (obtain ⟨a9, Q9⟩ := (show pQ h m S X a from ⟨rf, th, be, tl, fd, rw_, ⟨c1, ha, c3, c4, c5, c6, c7, c8, c10⟩, ⟨x1, x2, x3⟩, ⟨l1, l3, l4, l5, l8, l10⟩, hk, hth, htl, hrw, hrf⟩).fb fA hW5
               exact fin3 (by unfold t_changed; rw [if_neg (by omega)]; (first | rw [if_pos hc] | rw [if_neg hc]); (repeat (first | rw [if_pos (by omega)] | rw [if_neg (by omega)] | rw [if_pos hd] | rw [if_neg hd])); (try rfl)) ⟨X, a9, hO5, Q9⟩ fA.fr)
  · by_cases hd : mTC (nK S) = true
    · skip
      have qW := c_Model_isWell G (⟨_, _, ho, hs, hsl⟩ : pO h m X) ha hk wv
      rw [if_neg hc] at qW
      refine v_iload_n k_Model_changed_0 rfl ?_
      refine v_iflt 9 k_Model_changed_1 rfl (by first | omega | (have := o2_bd (nK S) (kP (nK S)).length 0 (by omega) (by omega); exact ⟨by unfold mOC; omega, by unfold mOC; omega⟩)) (fun cd1 => ?_) (fun cd1 => ?_)
      · refine v_aload_n k_Model_changed_9 rfl ?_
        refine v_bipush k_Model_changed_10 (by decide) ?_
        refine v_callV mo_Model_no mi_Model_no mv_Model_no lk_Model_49 k_Model_changed_12 ho rfl rfl (Nat.le_of_ble_eq_true rfl) rfl (Nat.le_of_ble_eq_true rfl) (c_Model_no G hp w (by omega)) (fun v12 h12 q12 => ?_)
        obtain ⟨rfl, p9, f9⟩ := q12
        refine v_ireturn k_Model_changed_15 rfl rfl ?_
        first
          | (exfalso; omega)
          | exact fin3 (by unfold t_changed; (repeat (first | rw [if_pos (by omega)] | rw [if_neg (by omega)])); (try rfl)) p9 (f9.wd (by omega) (by omega))
          | (obtain ⟨a9, Q9⟩ := (show pQ h m S X a from ⟨rf, th, be, tl, fd, rw_, ⟨c1, ha, c3, c4, c5, c6, c7, c8, c10⟩, ⟨x1, x2, x3⟩, ⟨l1, l3, l4, l5, l8, l10⟩, hk, hth, htl, hrw, hrf⟩).fb fA hW5
             exact fin3 (by unfold t_changed; rw [if_neg (by omega)]; (first | rw [if_pos hc] | rw [if_neg hc]); (repeat (first | rw [if_pos (by omega)] | rw [if_neg (by omega)] | rw [if_pos hd] | rw [if_neg hd])); (try rfl)) ⟨X, a9, hO5, Q9⟩ fA.fr)
      · refine v_iload_n k_Model_changed_4 rfl ?_
        refine v_iconst k_Model_changed_5 ?_
        refine v_icle 16 k_Model_changed_6 rfl (by first | omega | (have := o2_bd (nK S) (kP (nK S)).length 0 (by omega) (by omega); exact ⟨by unfold mOC; omega, by unfold mOC; omega⟩)) (by first | omega | (have := o2_bd (nK S) (kP (nK S)).length 0 (by omega) (by omega); exact ⟨by unfold mOC; omega, by unfold mOC; omega⟩)) (fun cd6 => ?_) (fun cd6 => ?_)
        · refine v_aload_n k_Model_changed_16 rfl ?_
          refine v_callV mo_Model_isWell mi_Model_isWell mv_Model_isWell lk_Model_159 k_Model_changed_17 ho rfl rfl (Nat.le_of_ble_eq_true rfl) rfl (Nat.le_of_ble_eq_true rfl) (qW) (fun v17 h17 q17 => ?_)
          obtain ⟨rfl, hO5, f5⟩ := q17
          have fA := f5.b
          have hW5 : pW h17 m (nK S) := ⟨a, f5.at ha (by omega) (by omega), hk⟩
          obtain ⟨fp5, sn5, ho, hs, hsl⟩ := id hO5
          refine v_ifeq 34 k_Model_changed_20 rfl (by first | omega | (have := o2_bd (nK S) (kP (nK S)).length 0 (by omega) (by omega); exact ⟨by unfold mOC; omega, by unfold mOC; omega⟩)) (fun cd20 => ?_) (fun cd20 => ?_)
          · refine v_aload_n k_Model_changed_34 rfl ?_
            refine v_callV mo_Model_oneChange mi_Model_oneChange mv_Model_oneChange lk_Model_163 k_Model_changed_35 ho rfl rfl (Nat.le_of_ble_eq_true rfl) rfl (Nat.le_of_ble_eq_true rfl) (c_Model_oneChange G hO5 hW5 w1) (fun v35 h35 q35 => ?_)
            obtain ⟨rfl, hO5, hW5, f6⟩ := q35
            have fA := fA.tr f6
            obtain ⟨fp5, sn5, ho, hs, hsl⟩ := id hO5
            have qT := c_Model_isTwoChanges G hO5 hW5 w1
            rw [if_pos hd] at qT
            refine v_istore_n k_Model_changed_38 ⟨Nat.le_of_ble_eq_true rfl, Nat.le_of_ble_eq_true rfl⟩ ?_
            refine v_iload_n k_Model_changed_39 rfl ?_
            refine v_iconst k_Model_changed_40 ?_
            refine v_icne 46 k_Model_changed_41 rfl (by first | omega | (have := o2_bd (nK S) (kP (nK S)).length 0 (by omega) (by omega); exact ⟨by unfold mOC; omega, by unfold mOC; omega⟩)) (by first | omega | (have := o2_bd (nK S) (kP (nK S)).length 0 (by omega) (by omega); exact ⟨by unfold mOC; omega, by unfold mOC; omega⟩)) (fun cd41 => ?_) (fun cd41 => ?_)
            · refine v_iload_n k_Model_changed_46 rfl ?_
              refine v_bipush k_Model_changed_47 (by decide) ?_
              refine v_iceq 56 k_Model_changed_49 rfl (by first | omega | (have := o2_bd (nK S) (kP (nK S)).length 0 (by omega) (by omega); exact ⟨by unfold mOC; omega, by unfold mOC; omega⟩)) (by first | omega | (have := o2_bd (nK S) (kP (nK S)).length 0 (by omega) (by omega); exact ⟨by unfold mOC; omega, by unfold mOC; omega⟩)) (fun cd49 => ?_) (fun cd49 => ?_)
              · refine v_aload_n k_Model_changed_56 rfl ?_
                refine v_callV mo_Model_isTwoChanges mi_Model_isTwoChanges mv_Model_isTwoChanges lk_Model_166 k_Model_changed_57 ho rfl rfl (Nat.le_of_ble_eq_true rfl) rfl (Nat.le_of_ble_eq_true rfl) (qT) (fun v57 h57 q57 => ?_)
                obtain ⟨rfl, hO5, hW5, f6⟩ := q57
                have fA := fA.tr f6
                obtain ⟨fp5, sn5, ho, hs, hsl⟩ := id hO5
                refine v_ifeq 67 k_Model_changed_60 rfl (by first | omega | (have := o2_bd (nK S) (kP (nK S)).length 0 (by omega) (by omega); exact ⟨by unfold mOC; omega, by unfold mOC; omega⟩)) (fun cd60 => ?_) (fun cd60 => ?_)
                · refine v_bipush k_Model_changed_67 (by decide) ?_
                  refine v_ireturn k_Model_changed_69 rfl rfl ?_
                  first
                    | (exfalso; omega)
                    | exact fin3 (by unfold t_changed; (repeat (first | rw [if_pos (by omega)] | rw [if_neg (by omega)])); (try rfl)) p9 (f9.wd (by omega) (by omega))
                    | (obtain ⟨a9, Q9⟩ := (show pQ h m S X a from ⟨rf, th, be, tl, fd, rw_, ⟨c1, ha, c3, c4, c5, c6, c7, c8, c10⟩, ⟨x1, x2, x3⟩, ⟨l1, l3, l4, l5, l8, l10⟩, hk, hth, htl, hrw, hrf⟩).fb fA hW5
                       exact fin3 (by unfold t_changed; rw [if_neg (by omega)]; (first | rw [if_pos hc] | rw [if_neg hc]); (repeat (first | rw [if_pos (by omega)] | rw [if_neg (by omega)] | rw [if_pos hd] | rw [if_neg hd])); (try rfl)) ⟨X, a9, hO5, Q9⟩ fA.fr)
                · refine v_iconst k_Model_changed_63 ?_
                  refine v_goto k_Model_changed_64 (tgt := 69) rfl ?_
                  refine v_ireturn k_Model_changed_69 rfl rfl ?_
                  first
                    | (exfalso; omega)
                    | exact fin3 (by unfold t_changed; (repeat (first | rw [if_pos (by omega)] | rw [if_neg (by omega)])); (try rfl)) p9 (f9.wd (by omega) (by omega))
                    | (obtain ⟨a9, Q9⟩ := (show pQ h m S X a from ⟨rf, th, be, tl, fd, rw_, ⟨c1, ha, c3, c4, c5, c6, c7, c8, c10⟩, ⟨x1, x2, x3⟩, ⟨l1, l3, l4, l5, l8, l10⟩, hk, hth, htl, hrw, hrf⟩).fb fA hW5
                       exact fin3 (by unfold t_changed; rw [if_neg (by omega)]; (first | rw [if_pos hc] | rw [if_neg hc]); (repeat (first | rw [if_pos (by omega)] | rw [if_neg (by omega)] | rw [if_pos hd] | rw [if_neg hd])); (try rfl)) ⟨X, a9, hO5, Q9⟩ fA.fr)
              · refine v_iconst k_Model_changed_52 ?_
                refine v_goto k_Model_changed_53 (tgt := 69) rfl ?_
                refine v_ireturn k_Model_changed_69 rfl rfl ?_
                first
                  | (exfalso; omega)
                  | exact fin3 (by unfold t_changed; (repeat (first | rw [if_pos (by omega)] | rw [if_neg (by omega)])); (try rfl)) p9 (f9.wd (by omega) (by omega))
                  | (obtain ⟨a9, Q9⟩ := (show pQ h m S X a from ⟨rf, th, be, tl, fd, rw_, ⟨c1, ha, c3, c4, c5, c6, c7, c8, c10⟩, ⟨x1, x2, x3⟩, ⟨l1, l3, l4, l5, l8, l10⟩, hk, hth, htl, hrw, hrf⟩).fb fA hW5
                     exact fin3 (by unfold t_changed; rw [if_neg (by omega)]; (first | rw [if_pos hc] | rw [if_neg hc]); (repeat (first | rw [if_pos (by omega)] | rw [if_neg (by omega)] | rw [if_pos hd] | rw [if_neg hd])); (try rfl)) ⟨X, a9, hO5, Q9⟩ fA.fr)
            · refine v_iload_n k_Model_changed_44 rfl ?_
              refine v_ireturn k_Model_changed_45 rfl rfl ?_
              first
                | (exfalso; omega)
                | exact fin3 (by unfold t_changed; (repeat (first | rw [if_pos (by omega)] | rw [if_neg (by omega)])); (try rfl)) p9 (f9.wd (by omega) (by omega))
                | (obtain ⟨a9, Q9⟩ := (show pQ h m S X a from ⟨rf, th, be, tl, fd, rw_, ⟨c1, ha, c3, c4, c5, c6, c7, c8, c10⟩, ⟨x1, x2, x3⟩, ⟨l1, l3, l4, l5, l8, l10⟩, hk, hth, htl, hrw, hrf⟩).fb fA hW5
                   exact fin3 (by unfold t_changed; rw [if_neg (by omega)]; (first | rw [if_pos hc] | rw [if_neg hc]); (repeat (first | rw [if_pos (by omega)] | rw [if_neg (by omega)] | rw [if_pos hd] | rw [if_neg hd])); (try rfl)) ⟨X, a9, hO5, Q9⟩ fA.fr)
          · refine v_iload_n k_Model_changed_23 rfl ?_
            refine v_ifne 31 k_Model_changed_24 rfl (by first | omega | (have := o2_bd (nK S) (kP (nK S)).length 0 (by omega) (by omega); exact ⟨by unfold mOC; omega, by unfold mOC; omega⟩)) (fun cd24 => ?_) (fun cd24 => ?_)
            · refine v_bipush k_Model_changed_31 (by decide) ?_
              refine v_ireturn k_Model_changed_33 rfl rfl ?_
              first
                | (exfalso; omega)
                | exact fin3 (by unfold t_changed; (repeat (first | rw [if_pos (by omega)] | rw [if_neg (by omega)])); (try rfl)) p9 (f9.wd (by omega) (by omega))
                | (obtain ⟨a9, Q9⟩ := (show pQ h m S X a from ⟨rf, th, be, tl, fd, rw_, ⟨c1, ha, c3, c4, c5, c6, c7, c8, c10⟩, ⟨x1, x2, x3⟩, ⟨l1, l3, l4, l5, l8, l10⟩, hk, hth, htl, hrw, hrf⟩).fb fA hW5
                   exact fin3 (by unfold t_changed; rw [if_neg (by omega)]; (first | rw [if_pos hc] | rw [if_neg hc]); (repeat (first | rw [if_pos (by omega)] | rw [if_neg (by omega)] | rw [if_pos hd] | rw [if_neg hd])); (try rfl)) ⟨X, a9, hO5, Q9⟩ fA.fr)
            · refine v_iconst k_Model_changed_27 ?_
              refine v_goto k_Model_changed_28 (tgt := 33) rfl ?_
              refine v_ireturn k_Model_changed_33 rfl rfl ?_
              first
                | (exfalso; omega)
                | exact fin3 (by unfold t_changed; (repeat (first | rw [if_pos (by omega)] | rw [if_neg (by omega)])); (try rfl)) p9 (f9.wd (by omega) (by omega))
                | (obtain ⟨a9, Q9⟩ := (show pQ h m S X a from ⟨rf, th, be, tl, fd, rw_, ⟨c1, ha, c3, c4, c5, c6, c7, c8, c10⟩, ⟨x1, x2, x3⟩, ⟨l1, l3, l4, l5, l8, l10⟩, hk, hth, htl, hrw, hrf⟩).fb fA hW5
                   exact fin3 (by unfold t_changed; rw [if_neg (by omega)]; (first | rw [if_pos hc] | rw [if_neg hc]); (repeat (first | rw [if_pos (by omega)] | rw [if_neg (by omega)] | rw [if_pos hd] | rw [if_neg hd])); (try rfl)) ⟨X, a9, hO5, Q9⟩ fA.fr)
        · refine v_aload_n k_Model_changed_9 rfl ?_
          refine v_bipush k_Model_changed_10 (by decide) ?_
          refine v_callV mo_Model_no mi_Model_no mv_Model_no lk_Model_49 k_Model_changed_12 ho rfl rfl (Nat.le_of_ble_eq_true rfl) rfl (Nat.le_of_ble_eq_true rfl) (c_Model_no G hp w (by omega)) (fun v12 h12 q12 => ?_)
          obtain ⟨rfl, p9, f9⟩ := q12
          refine v_ireturn k_Model_changed_15 rfl rfl ?_
          first
            | (exfalso; omega)
            | exact fin3 (by unfold t_changed; (repeat (first | rw [if_pos (by omega)] | rw [if_neg (by omega)])); (try rfl)) p9 (f9.wd (by omega) (by omega))
            | (obtain ⟨a9, Q9⟩ := (show pQ h m S X a from ⟨rf, th, be, tl, fd, rw_, ⟨c1, ha, c3, c4, c5, c6, c7, c8, c10⟩, ⟨x1, x2, x3⟩, ⟨l1, l3, l4, l5, l8, l10⟩, hk, hth, htl, hrw, hrf⟩).fb fA hW5
               exact fin3 (by unfold t_changed; rw [if_neg (by omega)]; (first | rw [if_pos hc] | rw [if_neg hc]); (repeat (first | rw [if_pos (by omega)] | rw [if_neg (by omega)] | rw [if_pos hd] | rw [if_neg hd])); (try rfl)) ⟨X, a9, hO5, Q9⟩ fA.fr)
    · skip
      have qW := c_Model_isWell G (⟨_, _, ho, hs, hsl⟩ : pO h m X) ha hk wv
      rw [if_neg hc] at qW
      refine v_iload_n k_Model_changed_0 rfl ?_
      refine v_iflt 9 k_Model_changed_1 rfl (by first | omega | (have := o2_bd (nK S) (kP (nK S)).length 0 (by omega) (by omega); exact ⟨by unfold mOC; omega, by unfold mOC; omega⟩)) (fun cd1 => ?_) (fun cd1 => ?_)
      · refine v_aload_n k_Model_changed_9 rfl ?_
        refine v_bipush k_Model_changed_10 (by decide) ?_
        refine v_callV mo_Model_no mi_Model_no mv_Model_no lk_Model_49 k_Model_changed_12 ho rfl rfl (Nat.le_of_ble_eq_true rfl) rfl (Nat.le_of_ble_eq_true rfl) (c_Model_no G hp w (by omega)) (fun v12 h12 q12 => ?_)
        obtain ⟨rfl, p9, f9⟩ := q12
        refine v_ireturn k_Model_changed_15 rfl rfl ?_
        first
          | (exfalso; omega)
          | exact fin3 (by unfold t_changed; (repeat (first | rw [if_pos (by omega)] | rw [if_neg (by omega)])); (try rfl)) p9 (f9.wd (by omega) (by omega))
          | (obtain ⟨a9, Q9⟩ := (show pQ h m S X a from ⟨rf, th, be, tl, fd, rw_, ⟨c1, ha, c3, c4, c5, c6, c7, c8, c10⟩, ⟨x1, x2, x3⟩, ⟨l1, l3, l4, l5, l8, l10⟩, hk, hth, htl, hrw, hrf⟩).fb fA hW5
             exact fin3 (by unfold t_changed; rw [if_neg (by omega)]; (first | rw [if_pos hc] | rw [if_neg hc]); (repeat (first | rw [if_pos (by omega)] | rw [if_neg (by omega)] | rw [if_pos hd] | rw [if_neg hd])); (try rfl)) ⟨X, a9, hO5, Q9⟩ fA.fr)
      · refine v_iload_n k_Model_changed_4 rfl ?_
        refine v_iconst k_Model_changed_5 ?_
        refine v_icle 16 k_Model_changed_6 rfl (by first | omega | (have := o2_bd (nK S) (kP (nK S)).length 0 (by omega) (by omega); exact ⟨by unfold mOC; omega, by unfold mOC; omega⟩)) (by first | omega | (have := o2_bd (nK S) (kP (nK S)).length 0 (by omega) (by omega); exact ⟨by unfold mOC; omega, by unfold mOC; omega⟩)) (fun cd6 => ?_) (fun cd6 => ?_)
        · refine v_aload_n k_Model_changed_16 rfl ?_
          refine v_callV mo_Model_isWell mi_Model_isWell mv_Model_isWell lk_Model_159 k_Model_changed_17 ho rfl rfl (Nat.le_of_ble_eq_true rfl) rfl (Nat.le_of_ble_eq_true rfl) (qW) (fun v17 h17 q17 => ?_)
          obtain ⟨rfl, hO5, f5⟩ := q17
          have fA := f5.b
          have hW5 : pW h17 m (nK S) := ⟨a, f5.at ha (by omega) (by omega), hk⟩
          obtain ⟨fp5, sn5, ho, hs, hsl⟩ := id hO5
          refine v_ifeq 34 k_Model_changed_20 rfl (by first | omega | (have := o2_bd (nK S) (kP (nK S)).length 0 (by omega) (by omega); exact ⟨by unfold mOC; omega, by unfold mOC; omega⟩)) (fun cd20 => ?_) (fun cd20 => ?_)
          · refine v_aload_n k_Model_changed_34 rfl ?_
            refine v_callV mo_Model_oneChange mi_Model_oneChange mv_Model_oneChange lk_Model_163 k_Model_changed_35 ho rfl rfl (Nat.le_of_ble_eq_true rfl) rfl (Nat.le_of_ble_eq_true rfl) (c_Model_oneChange G hO5 hW5 w1) (fun v35 h35 q35 => ?_)
            obtain ⟨rfl, hO5, hW5, f6⟩ := q35
            have fA := fA.tr f6
            obtain ⟨fp5, sn5, ho, hs, hsl⟩ := id hO5
            have qT := c_Model_isTwoChanges G hO5 hW5 w1
            rw [if_neg hd] at qT
            refine v_istore_n k_Model_changed_38 ⟨Nat.le_of_ble_eq_true rfl, Nat.le_of_ble_eq_true rfl⟩ ?_
            refine v_iload_n k_Model_changed_39 rfl ?_
            refine v_iconst k_Model_changed_40 ?_
            refine v_icne 46 k_Model_changed_41 rfl (by first | omega | (have := o2_bd (nK S) (kP (nK S)).length 0 (by omega) (by omega); exact ⟨by unfold mOC; omega, by unfold mOC; omega⟩)) (by first | omega | (have := o2_bd (nK S) (kP (nK S)).length 0 (by omega) (by omega); exact ⟨by unfold mOC; omega, by unfold mOC; omega⟩)) (fun cd41 => ?_) (fun cd41 => ?_)
            · refine v_iload_n k_Model_changed_46 rfl ?_
              refine v_bipush k_Model_changed_47 (by decide) ?_
              refine v_iceq 56 k_Model_changed_49 rfl (by first | omega | (have := o2_bd (nK S) (kP (nK S)).length 0 (by omega) (by omega); exact ⟨by unfold mOC; omega, by unfold mOC; omega⟩)) (by first | omega | (have := o2_bd (nK S) (kP (nK S)).length 0 (by omega) (by omega); exact ⟨by unfold mOC; omega, by unfold mOC; omega⟩)) (fun cd49 => ?_) (fun cd49 => ?_)
              · refine v_aload_n k_Model_changed_56 rfl ?_
                refine v_callV mo_Model_isTwoChanges mi_Model_isTwoChanges mv_Model_isTwoChanges lk_Model_166 k_Model_changed_57 ho rfl rfl (Nat.le_of_ble_eq_true rfl) rfl (Nat.le_of_ble_eq_true rfl) (qT) (fun v57 h57 q57 => ?_)
                obtain ⟨rfl, hO5, hW5, f6⟩ := q57
                have fA := fA.tr f6
                obtain ⟨fp5, sn5, ho, hs, hsl⟩ := id hO5
                refine v_ifeq 67 k_Model_changed_60 rfl (by first | omega | (have := o2_bd (nK S) (kP (nK S)).length 0 (by omega) (by omega); exact ⟨by unfold mOC; omega, by unfold mOC; omega⟩)) (fun cd60 => ?_) (fun cd60 => ?_)
                · refine v_bipush k_Model_changed_67 (by decide) ?_
                  refine v_ireturn k_Model_changed_69 rfl rfl ?_
                  first
                    | (exfalso; omega)
                    | exact fin3 (by unfold t_changed; (repeat (first | rw [if_pos (by omega)] | rw [if_neg (by omega)])); (try rfl)) p9 (f9.wd (by omega) (by omega))
                    | (obtain ⟨a9, Q9⟩ := (show pQ h m S X a from ⟨rf, th, be, tl, fd, rw_, ⟨c1, ha, c3, c4, c5, c6, c7, c8, c10⟩, ⟨x1, x2, x3⟩, ⟨l1, l3, l4, l5, l8, l10⟩, hk, hth, htl, hrw, hrf⟩).fb fA hW5
                       exact fin3 (by unfold t_changed; rw [if_neg (by omega)]; (first | rw [if_pos hc] | rw [if_neg hc]); (repeat (first | rw [if_pos (by omega)] | rw [if_neg (by omega)] | rw [if_pos hd] | rw [if_neg hd])); (try rfl)) ⟨X, a9, hO5, Q9⟩ fA.fr)
                · refine v_iconst k_Model_changed_63 ?_
                  refine v_goto k_Model_changed_64 (tgt := 69) rfl ?_
                  refine v_ireturn k_Model_changed_69 rfl rfl ?_
                  first
                    | (exfalso; omega)
                    | exact fin3 (by unfold t_changed; (repeat (first | rw [if_pos (by omega)] | rw [if_neg (by omega)])); (try rfl)) p9 (f9.wd (by omega) (by omega))
                    | (obtain ⟨a9, Q9⟩ := (show pQ h m S X a from ⟨rf, th, be, tl, fd, rw_, ⟨c1, ha, c3, c4, c5, c6, c7, c8, c10⟩, ⟨x1, x2, x3⟩, ⟨l1, l3, l4, l5, l8, l10⟩, hk, hth, htl, hrw, hrf⟩).fb fA hW5
                       exact fin3 (by unfold t_changed; rw [if_neg (by omega)]; (first | rw [if_pos hc] | rw [if_neg hc]); (repeat (first | rw [if_pos (by omega)] | rw [if_neg (by omega)] | rw [if_pos hd] | rw [if_neg hd])); (try rfl)) ⟨X, a9, hO5, Q9⟩ fA.fr)
              · refine v_iconst k_Model_changed_52 ?_
                refine v_goto k_Model_changed_53 (tgt := 69) rfl ?_
                refine v_ireturn k_Model_changed_69 rfl rfl ?_
                first
                  | (exfalso; omega)
                  | exact fin3 (by unfold t_changed; (repeat (first | rw [if_pos (by omega)] | rw [if_neg (by omega)])); (try rfl)) p9 (f9.wd (by omega) (by omega))
                  | (obtain ⟨a9, Q9⟩ := (show pQ h m S X a from ⟨rf, th, be, tl, fd, rw_, ⟨c1, ha, c3, c4, c5, c6, c7, c8, c10⟩, ⟨x1, x2, x3⟩, ⟨l1, l3, l4, l5, l8, l10⟩, hk, hth, htl, hrw, hrf⟩).fb fA hW5
                     exact fin3 (by unfold t_changed; rw [if_neg (by omega)]; (first | rw [if_pos hc] | rw [if_neg hc]); (repeat (first | rw [if_pos (by omega)] | rw [if_neg (by omega)] | rw [if_pos hd] | rw [if_neg hd])); (try rfl)) ⟨X, a9, hO5, Q9⟩ fA.fr)
            · refine v_iload_n k_Model_changed_44 rfl ?_
              refine v_ireturn k_Model_changed_45 rfl rfl ?_
              first
                | (exfalso; omega)
                | exact fin3 (by unfold t_changed; (repeat (first | rw [if_pos (by omega)] | rw [if_neg (by omega)])); (try rfl)) p9 (f9.wd (by omega) (by omega))
                | (obtain ⟨a9, Q9⟩ := (show pQ h m S X a from ⟨rf, th, be, tl, fd, rw_, ⟨c1, ha, c3, c4, c5, c6, c7, c8, c10⟩, ⟨x1, x2, x3⟩, ⟨l1, l3, l4, l5, l8, l10⟩, hk, hth, htl, hrw, hrf⟩).fb fA hW5
                   exact fin3 (by unfold t_changed; rw [if_neg (by omega)]; (first | rw [if_pos hc] | rw [if_neg hc]); (repeat (first | rw [if_pos (by omega)] | rw [if_neg (by omega)] | rw [if_pos hd] | rw [if_neg hd])); (try rfl)) ⟨X, a9, hO5, Q9⟩ fA.fr)
          · refine v_iload_n k_Model_changed_23 rfl ?_
            refine v_ifne 31 k_Model_changed_24 rfl (by first | omega | (have := o2_bd (nK S) (kP (nK S)).length 0 (by omega) (by omega); exact ⟨by unfold mOC; omega, by unfold mOC; omega⟩)) (fun cd24 => ?_) (fun cd24 => ?_)
            · refine v_bipush k_Model_changed_31 (by decide) ?_
              refine v_ireturn k_Model_changed_33 rfl rfl ?_
              first
                | (exfalso; omega)
                | exact fin3 (by unfold t_changed; (repeat (first | rw [if_pos (by omega)] | rw [if_neg (by omega)])); (try rfl)) p9 (f9.wd (by omega) (by omega))
                | (obtain ⟨a9, Q9⟩ := (show pQ h m S X a from ⟨rf, th, be, tl, fd, rw_, ⟨c1, ha, c3, c4, c5, c6, c7, c8, c10⟩, ⟨x1, x2, x3⟩, ⟨l1, l3, l4, l5, l8, l10⟩, hk, hth, htl, hrw, hrf⟩).fb fA hW5
                   exact fin3 (by unfold t_changed; rw [if_neg (by omega)]; (first | rw [if_pos hc] | rw [if_neg hc]); (repeat (first | rw [if_pos (by omega)] | rw [if_neg (by omega)] | rw [if_pos hd] | rw [if_neg hd])); (try rfl)) ⟨X, a9, hO5, Q9⟩ fA.fr)
            · refine v_iconst k_Model_changed_27 ?_
              refine v_goto k_Model_changed_28 (tgt := 33) rfl ?_
              refine v_ireturn k_Model_changed_33 rfl rfl ?_
              first
                | (exfalso; omega)
                | exact fin3 (by unfold t_changed; (repeat (first | rw [if_pos (by omega)] | rw [if_neg (by omega)])); (try rfl)) p9 (f9.wd (by omega) (by omega))
                | (obtain ⟨a9, Q9⟩ := (show pQ h m S X a from ⟨rf, th, be, tl, fd, rw_, ⟨c1, ha, c3, c4, c5, c6, c7, c8, c10⟩, ⟨x1, x2, x3⟩, ⟨l1, l3, l4, l5, l8, l10⟩, hk, hth, htl, hrw, hrf⟩).fb fA hW5
                   exact fin3 (by unfold t_changed; rw [if_neg (by omega)]; (first | rw [if_pos hc] | rw [if_neg hc]); (repeat (first | rw [if_pos (by omega)] | rw [if_neg (by omega)] | rw [if_pos hd] | rw [if_neg hd])); (try rfl)) ⟨X, a9, hO5, Q9⟩ fA.fr)
        · refine v_aload_n k_Model_changed_9 rfl ?_
          refine v_bipush k_Model_changed_10 (by decide) ?_
          refine v_callV mo_Model_no mi_Model_no mv_Model_no lk_Model_49 k_Model_changed_12 ho rfl rfl (Nat.le_of_ble_eq_true rfl) rfl (Nat.le_of_ble_eq_true rfl) (c_Model_no G hp w (by omega)) (fun v12 h12 q12 => ?_)
          obtain ⟨rfl, p9, f9⟩ := q12
          refine v_ireturn k_Model_changed_15 rfl rfl ?_
          first
            | (exfalso; omega)
            | exact fin3 (by unfold t_changed; (repeat (first | rw [if_pos (by omega)] | rw [if_neg (by omega)])); (try rfl)) p9 (f9.wd (by omega) (by omega))
            | (obtain ⟨a9, Q9⟩ := (show pQ h m S X a from ⟨rf, th, be, tl, fd, rw_, ⟨c1, ha, c3, c4, c5, c6, c7, c8, c10⟩, ⟨x1, x2, x3⟩, ⟨l1, l3, l4, l5, l8, l10⟩, hk, hth, htl, hrw, hrf⟩).fb fA hW5
               exact fin3 (by unfold t_changed; rw [if_neg (by omega)]; (first | rw [if_pos hc] | rw [if_neg hc]); (repeat (first | rw [if_pos (by omega)] | rw [if_neg (by omega)] | rw [if_pos hd] | rw [if_neg hd])); (try rfl)) ⟨X, a9, hO5, Q9⟩ fA.fr)

set_option maxHeartbeats 4000000 in
set_option maxRecDepth 20000 in
theorem c_Model_better (G : Gx) {h : AH} {m : Nat} {S : St} (hp : pMS h m S) (w : wSt S) : Ct G Y_Model_better 7 0 0 [aR m] h (fun v h' => v = some (aI (t_better S).1) ∧ pMS h' m (t_better S).2 ∧ Fr m (m + 11) h h') := by
  obtain ⟨X, a, ⟨fp, sn, ho, hs, hsl⟩, rf, th, be, tl, fd, rw_, ⟨c1, ha, c3, c4, c5, c6, c7, c8, c10⟩, ⟨x1, x2, x3⟩, ⟨l1, l3, l4, l5, l8, l10⟩, hk, hth, htl, hrw, hrf⟩ := id hp
  obtain ⟨w1, w2, w3, w4, w5, w6, w7, w8⟩ := id w
  have wv : vK (nK S) 13 6 := ⟨w1.1, by have := w1.2.1; omega, w1.2.2⟩
  have wu := wv.up (by decide) (by decide)
  have hl := hk.1
  have hn12 := w1.2.1
  have hv6 := w1.2.2.2.2.2.1
  have hpt := fun v => wu.pt v
  have hek := wu.endK
  have QQA := (show pQ h m S X a from ⟨rf, th, be, tl, fd, rw_, ⟨c1, ha, c3, c4, c5, c6, c7, c8, c10⟩, ⟨x1, x2, x3⟩, ⟨l1, l3, l4, l5, l8, l10⟩, hk, hth, htl, hrw, hrf⟩)
  refine Ct.of_V mo_Model_better rfl (Nat.le_of_ble_eq_true rfl) rfl ?_
  have loop : ∀ (k : Nat) (i : Nat) (h1 : AH) (acc : Int) (z1 z2 : Option AV), ((kP (nK S)).length = i + k) → (pO h1 m X) → (pW h1 m (nK S)) → (FrB m h h1) → (0 ≤ acc ∧ acc ≤ 20000) → (b2_ (nK S) k i acc = b2_ (nK S) (kP (nK S)).length 0 (mS (nK S) (-9) (q_endK (nK S)).toNat)) → V G Y_Model_better 7 0 0 9 [some (aR m), some (aI acc), some (aI (i : Int)), z1, z2] [] h1 (fun v h' => v = some (aI (t_better S).1) ∧ pMS h' m (t_better S).2 ∧ Fr m (m + 11) h h') := by
    intro k
    induction k with
    | zero =>
      intro i h1 acc z1 z2 hi hO1 hW1 f1 hb ht
      obtain ⟨fp1, sn1, ho, hs, hsl⟩ := id hO1
      obtain ⟨a1, ha, hk⟩ := id hW1
      have hl := hk.1
      have hpi := hpt (i : Int)
      refine v_iload_n k_Model_better_9 rfl ?_
      refine v_aload_n k_Model_better_10 rfl ?_
      refine v_getf fl_Model_13 ho rfl k_Model_better_11 ?_
      refine v_iconst k_Model_better_14 ?_
      refine v_iald ha (by omega) (by omega) k_Model_better_15 ?_
      rw [hk.n0]
      refine v_icge 83 k_Model_better_16 rfl (by omega) (by omega) (fun cd16 => ?_) (fun cd16 => ?_)
      · refine v_iload_n k_Model_better_83 rfl ?_
        refine v_ireturn k_Model_better_84 rfl rfl ?_
        have e : acc = b2_ (nK S) (kP (nK S)).length 0 (mS (nK S) (-9) (q_endK (nK S)).toNat) := ht
        obtain ⟨a9, Q9⟩ := QQA.fb f1 hW1
        exact fin3 (by unfold t_better; rw [e]) ⟨X, a9, hO1, Q9⟩ f1.fr
      · exfalso; omega
    | succ k ih =>
      intro i h1 acc z1 z2 hi hO1 hW1 f1 hb ht
      obtain ⟨fp1, sn1, ho, hs, hsl⟩ := id hO1
      obtain ⟨a1, ha, hk⟩ := id hW1
      have hl := hk.1
      have hpi := hpt (i : Int)
      refine v_iload_n k_Model_better_9 rfl ?_
      refine v_aload_n k_Model_better_10 rfl ?_
      refine v_getf fl_Model_13 ho rfl k_Model_better_11 ?_
      refine v_iconst k_Model_better_14 ?_
      refine v_iald ha (by omega) (by omega) k_Model_better_15 ?_
      rw [hk.n0]
      refine v_icge 83 k_Model_better_16 rfl (by omega) (by omega) (fun cd16 => ?_) (fun cd16 => ?_)
      · refine v_iload_n k_Model_better_83 rfl ?_
        refine v_ireturn k_Model_better_84 rfl rfl ?_
        exfalso; omega
      · refine v_aload_n k_Model_better_19 rfl ?_
        refine v_getf fl_Model_13 ho rfl k_Model_better_20 ?_
        refine v_bipush k_Model_better_23 (by decide) ?_
        refine v_iload_n k_Model_better_25 rfl ?_
        refine v_iadd k_Model_better_26 ?_
        refine v_iald ha (by omega) (by omega) k_Model_better_27 ?_
        rw [hk.p (x := (i : Int)) (by omega)]
        refine v_istore_n k_Model_better_28 ⟨Nat.le_of_ble_eq_true rfl, Nat.le_of_ble_eq_true rfl⟩ ?_
        refine v_iconst k_Model_better_29 ?_
        refine v_istore k_Model_better_30 ⟨Nat.le_of_ble_eq_true rfl, Nat.le_of_ble_eq_true rfl⟩ ?_
        have loop2 : ∀ (k2 : Nat) (p : Nat) (h2 : AH) (q acc2 : Int), (p + k2 = 10) → (0 ≤ q ∧ q ≤ 9) → (pO h2 m X) → (pW h2 m (setP (nK S) i q)) → (FrB m h h2) → (0 ≤ acc2 ∧ acc2 ≤ 20000) → (b1_ (nK S) i k2 p acc2 = b1_ (nK S) i 10 0 acc) → V G Y_Model_better 7 0 0 32 [some (aR m), some (aI acc2), some (aI (i : Int)), some (aI (rget (kP (nK S)) i)), some (aI (p : Int))] [] h2 (fun v h' => v = some (aI (t_better S).1) ∧ pMS h' m (t_better S).2 ∧ Fr m (m + 11) h h') := by
          intro k2
          induction k2 with
          | zero =>
            intro p h2 q acc2 hp9 hq hO2 hW2 f2 hb2 ht2
            obtain ⟨fp2, sn2, ho, hs, hsl⟩ := id hO2
            obtain ⟨a2, ha, hk⟩ := id hW2
            have hl := hk.1
            refine v_iload k_Model_better_32 rfl ?_
            refine v_bipush k_Model_better_34 (by decide) ?_
            refine v_icge 67 k_Model_better_36 rfl (by omega) (by omega) (fun cd36 => ?_) (fun cd36 => ?_)
            · refine v_aload_n k_Model_better_67 rfl ?_
              refine v_getf fl_Model_13 ho rfl k_Model_better_68 ?_
              refine v_bipush k_Model_better_71 (by decide) ?_
              refine v_iload_n k_Model_better_73 rfl ?_
              refine v_iadd k_Model_better_74 ?_
              refine v_iload_n k_Model_better_75 rfl ?_
              refine v_ist ha (by omega) (by omega) k_Model_better_76 (fun h76 e76 f76 => ?_)
              have ha := e76
              have hk := nowR_setP (n := (i : Int)) (x := rget (kP (nK S)) (i : Int)) hk ⟨by omega, by show (i : Int) < ((rset (kP (nK S)) i q).length : Int); rw [rset_len]; omega⟩ (by show (rset (kP (nK S)) i q).length ≤ 13; rw [rset_len]; omega)
              rw [setP_back] at hk
              have ho := f76.at ho (by omega)
              have hs := f76.at hs (by omega)
              have hl := hk.1
              have f2 := f2.tr f76.b2
              refine v_iinc k_Model_better_77 rfl (Nat.le_of_ble_eq_true rfl) ?_
              refine v_goto k_Model_better_80 (tgt := 9) rfl ?_
              have e1 : acc2 = b1_ (nK S) i 10 0 acc := ht2
              refine ih (i + 1) _ acc2 _ _ (by omega) ⟨_, _, ho, hs, hsl⟩ ⟨_, ha, hk⟩ f2 hb2 ?_
              rw [← ht, e1]
              rfl
            · exfalso; omega
          | succ k2 ih2 =>
            intro p h2 q acc2 hp9 hq hO2 hW2 f2 hb2 ht2
            obtain ⟨fp2, sn2, ho, hs, hsl⟩ := id hO2
            obtain ⟨a2, ha, hk⟩ := id hW2
            have hl := hk.1
            refine v_iload k_Model_better_32 rfl ?_
            refine v_bipush k_Model_better_34 (by decide) ?_
            refine v_icge 67 k_Model_better_36 rfl (by omega) (by omega) (fun cd36 => ?_) (fun cd36 => ?_)
            · exfalso; omega
            · refine v_aload_n k_Model_better_39 rfl ?_
              refine v_getf fl_Model_13 ho rfl k_Model_better_40 ?_
              refine v_bipush k_Model_better_43 (by decide) ?_
              refine v_iload_n k_Model_better_45 rfl ?_
              refine v_iadd k_Model_better_46 ?_
              refine v_iload k_Model_better_47 rfl ?_
              refine v_ist ha (by omega) (by omega) k_Model_better_49 (fun h49 e49 f49 => ?_)
              have f4 := f2.tr f49.b2
              have ha := e49
              have hk := nowR_setP (n := (i : Int)) (x := (p : Int)) hk ⟨by omega, by show (i : Int) < ((rset (kP (nK S)) i q).length : Int); rw [rset_len]; omega⟩ (by show (rset (kP (nK S)) i q).length ≤ 13; rw [rset_len]; omega)
              rw [setP_setP] at hk
              have ho := f49.at ho (by omega)
              have hs := f49.at hs (by omega)
              have hl := hk.1
              refine v_iload_n k_Model_better_50 rfl ?_
              refine v_aload_n k_Model_better_51 rfl ?_
              refine v_bipush k_Model_better_52 (by decide) ?_
              refine v_callV mo_Model_illAll mi_Model_illAll mv_Model_illAll lk_Model_152 k_Model_better_54 ho rfl rfl (Nat.le_of_ble_eq_true rfl) rfl (Nat.le_of_ble_eq_true rfl) (c_Model_illAll G ⟨_, _, ho, hs, hsl⟩ ha hk (wv.setP (by omega)) (wo := -9) (by decide)) (fun v54 h54 q54 => ?_)
              obtain ⟨rfl, hO5, f5⟩ := q54
              have ha := f5.at ha (by omega) (by omega)
              obtain ⟨fp5, sn5, ho, hs, hsl⟩ := id hO5
              have f4 := f4.tr f5.b
              have hmb := mS_bd (wv.setP (n := (i : Int)) (x := (p : Int)) (by omega)) (-9) (q_endK (setP (nK S) i p)).toNat
              have hek2 := ((wv.setP (n := (i : Int)) (x := (p : Int)) (by omega)).up (by decide) (by decide)).endK
              refine v_mmin k_Model_better_57 lm_Model_169 (by omega) (by omega) (Nat.le_of_ble_eq_true rfl) (Nat.le_of_ble_eq_true rfl) ?_
              refine v_istore_n k_Model_better_60 ⟨Nat.le_of_ble_eq_true rfl, Nat.le_of_ble_eq_true rfl⟩ ?_
              refine v_iinc k_Model_better_61 rfl (Nat.le_of_ble_eq_true rfl) ?_
              refine v_goto k_Model_better_64 (tgt := 32) rfl ?_
              refine ih2 (p + 1) _ p _ (by omega) (by omega) ⟨_, _, ho, hs, hsl⟩ ⟨_, ha, hk⟩ f4 (by omega) ?_
              rw [← ht2]
              rfl
        exact loop2 10 0 h1 (rget (kP (nK S)) i) acc rfl hpi hO1 (by rw [setP_self]; exact hW1) f1 hb rfl
  refine v_aload_n k_Model_better_0 rfl ?_
  refine v_bipush k_Model_better_1 (by decide) ?_
  refine v_callV mo_Model_illAll mi_Model_illAll mv_Model_illAll lk_Model_152 k_Model_better_3 ho rfl rfl (Nat.le_of_ble_eq_true rfl) rfl (Nat.le_of_ble_eq_true rfl) (c_Model_illAll G ⟨_, _, ho, hs, hsl⟩ ha hk wv (wo := -9) (by decide)) (fun v3 h3 q3 => ?_)
  obtain ⟨rfl, hO5, f5⟩ := q3
  have hmb := mS_bd wv (-9) (q_endK (nK S)).toNat
  refine v_istore_n k_Model_better_6 ⟨Nat.le_of_ble_eq_true rfl, Nat.le_of_ble_eq_true rfl⟩ ?_
  refine v_iconst k_Model_better_7 ?_
  refine v_istore_n k_Model_better_8 ⟨Nat.le_of_ble_eq_true rfl, Nat.le_of_ble_eq_true rfl⟩ ?_
  exact loop (kP (nK S)).length 0 _ _ _ _ (by omega) hO5 ⟨a, f5.at ha (by omega) (by omega), hk⟩ f5.b (by omega) rfl
