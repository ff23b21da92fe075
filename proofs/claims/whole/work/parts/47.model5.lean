def xKp (X : MX) (v : Int) : MX := (v, X.2)
def xTp (X : MX) (v : Int) : MX := (X.1, v, X.2.2)
def xRs (X : MX) (v : Int) : MX := (X.1, X.2.1, X.2.2.1, X.2.2.2.1, X.2.2.2.2.1, X.2.2.2.2.2.1, v)
theorem eqD {l r : List Int} (hl : l.length = r.length) (h : ∀ j, j < l.length → l.getD j 0 = r.getD j 0) : l = r := by
  apply List.ext_getElem hl
  intro i h1 h2
  have := h i h1
  simpa [List.getD_eq_getElem?_getD, List.getElem?_eq_getElem h1, List.getElem?_eq_getElem h2] using this
def t_first (S : St) (w : Int) : Int × St := if w < 0 ∨ w > 1 then rfS S (-2) else (if mFb (nK S) (q_endK (nK S)).toNat 0 = -9 then -9 else if w = 0 then mFb (nK S) (q_endK (nK S)).toNat 0 else mF (nK S) (mFb (nK S) (q_endK (nK S)).toNat 0) (-9), S)
set_option maxHeartbeats 4000000 in
set_option maxRecDepth 20000 in
theorem c_Model_first (G : Gx) {h : AH} {m : Nat} {S : St} (hp : pMS h m S) (w : wSt S) {x : Int} (hx : InR x) : Ct G Y_Model_first 6 0 0 [aR m, aI x] h (fun v h' => v = some (aI (t_first S x).1) ∧ pMS h' m (t_first S x).2 ∧ Fr m (m + 11) h h') := by
  obtain ⟨X, a, ⟨fp, sn, ho, hs, hsl⟩, rf, th, be, tl, fd, rw_, ⟨c1, ha, c3, c4, c5, c6, c7, c8, c10⟩, ⟨x1, x2, x3⟩, ⟨l1, l3, l4, l5, l8, l10⟩, hk, hth, htl, hrw, hrf⟩ := id hp
  obtain ⟨w1, w2, w3, w4, w5, w6, w7, w8⟩ := id w
  have wv : vK (nK S) 13 6 := ⟨w1.1, by have := w1.2.1; omega, w1.2.2⟩
  have wu := wv.up (by decide) (by decide)
  have hl := hk.1
  have hn12 := w1.2.1
  have hv6 := w1.2.2.2.2.2.1
  have hek := wu.endK
  have ha0 := ha
  refine Ct.of_V mo_Model_first rfl (Nat.le_of_ble_eq_true rfl) rfl ?_
  refine v_iload_n k_Model_first_0 rfl ?_
  refine v_iflt 9 k_Model_first_1 rfl (by omega) (fun cd1 => ?_) (fun cd1 => ?_)
  · refine v_aload_n k_Model_first_9 rfl ?_
    refine v_bipush k_Model_first_10 (by decide) ?_
    refine v_callV mo_Model_no mi_Model_no mv_Model_no lk_Model_49 k_Model_first_12 ho rfl rfl (Nat.le_of_ble_eq_true rfl) rfl (Nat.le_of_ble_eq_true rfl) (c_Model_no G hp w (by omega)) (fun v12 h12 q12 => ?_)
    obtain ⟨rfl, p9, f9⟩ := q12
    refine v_ireturn k_Model_first_15 rfl rfl ?_
    first
      | (exfalso; omega)
      | exact fin3 (by unfold t_first; (repeat (first | rw [if_pos (by omega)] | rw [if_neg (by omega)])); (try rfl)) p9 (f9.wd (by omega) (by omega))
      | exact fin3 (by unfold t_first; (repeat (first | rw [if_pos (by omega)] | rw [if_neg (by omega)])); (try rfl)) hp Fr.rf
  · refine v_iload_n k_Model_first_4 rfl ?_
    refine v_iconst k_Model_first_5 ?_
    refine v_icle 16 k_Model_first_6 rfl (by omega) (by omega) (fun cd6 => ?_) (fun cd6 => ?_)
    · refine v_aload_n k_Model_first_16 rfl ?_
      refine v_callVr mo_Model_end mi_Model_end mv_Model_end lk_Model_131 k_Model_first_17 ho rfl rfl (Nat.le_of_ble_eq_true rfl) rfl (Nat.le_of_ble_eq_true rfl) (c_Model_end G ho ha hk wv) ?_
      refine v_istore_n k_Model_first_20 ⟨Nat.le_of_ble_eq_true rfl, Nat.le_of_ble_eq_true rfl⟩ ?_
      refine v_iconst k_Model_first_21 ?_
      refine v_istore_n k_Model_first_22 ⟨Nat.le_of_ble_eq_true rfl, Nat.le_of_ble_eq_true rfl⟩ ?_
      have hx01 : 0 ≤ x ∧ x ≤ 1 := by omega
      have loop : ∀ (k : Nat) (i : Nat) (h1 : AH), (q_endK (nK S) = i + k) → (pO h1 m X) → (FrA m h h1) → (mFb (nK S) k i = mFb (nK S) (q_endK (nK S)).toNat 0) → V G Y_Model_first 6 0 0 23 [some (aR m), some (aI x), some (aI (q_endK (nK S))), some (aI (i : Int))] [] h1 (fun v h' => v = some (aI (t_first S x).1) ∧ pMS h' m (t_first S x).2 ∧ Fr m (m + 11) h h') := by
        intro k
        induction k with
        | zero =>
          intro i h1 hi hO1 f1 ht
          obtain ⟨fp1, sn1, ho, hs, hsl⟩ := id hO1
          have ha := f1.at ha0 (by omega) (by omega)
          have hmi := mI_bd wv (i : Int) (-9)
          refine v_iload_n k_Model_first_23 rfl ?_
          refine v_iload_n k_Model_first_24 rfl ?_
          refine v_icge 57 k_Model_first_25 rfl (by omega) (by omega) (fun cd25 => ?_) (fun cd25 => ?_)
          · refine v_bipush k_Model_first_57 (by decide) ?_
            refine v_ireturn k_Model_first_59 rfl rfl ?_
            have e : mFb (nK S) (q_endK (nK S)).toNat 0 = -9 := by rw [← ht]; rfl
            exact fin3 (by unfold t_first; rw [if_neg (by omega), e, if_pos rfl]) ⟨X, a, hO1, (show pQ h m S X a from ⟨rf, th, be, tl, fd, rw_, ⟨c1, ha0, c3, c4, c5, c6, c7, c8, c10⟩, ⟨x1, x2, x3⟩, ⟨l1, l3, l4, l5, l8, l10⟩, hk, hth, htl, hrw, hrf⟩).fa f1⟩ f1.fr
          · exfalso; omega
        | succ k ih =>
          intro i h1 hi hO1 f1 ht
          obtain ⟨fp1, sn1, ho, hs, hsl⟩ := id hO1
          have ha := f1.at ha0 (by omega) (by omega)
          have hmi := mI_bd wv (i : Int) (-9)
          refine v_iload_n k_Model_first_23 rfl ?_
          refine v_iload_n k_Model_first_24 rfl ?_
          refine v_icge 57 k_Model_first_25 rfl (by omega) (by omega) (fun cd25 => ?_) (fun cd25 => ?_)
          · exfalso; omega
          · refine v_aload_n k_Model_first_28 rfl ?_
            refine v_iload_n k_Model_first_29 rfl ?_
            refine v_bipush k_Model_first_30 (by decide) ?_
            refine v_callV mo_Model_illAt mi_Model_illAt mv_Model_illAt lk_Model_134 k_Model_first_32 ho rfl rfl (Nat.le_of_ble_eq_true rfl) rfl (Nat.le_of_ble_eq_true rfl) (c_Model_illAt G ho ha hs hsl hk wv (b := (i : Int)) (wo := -9) (by omega) (by decide)) (fun v32 h32 q32 => ?_)
            obtain ⟨rfl, g1, ⟨sn2, g2, g3⟩, f2⟩ := q32
            have hO2 : pO h32 m X := ⟨_, sn2, g1, g2, g3⟩
            have f3 := f1.tr f2
            have ho := g1
            refine v_ifle 51 k_Model_first_35 rfl (by omega) (fun cd35 => ?_) (fun cd35 => ?_)
            · refine v_iinc k_Model_first_51 rfl (Nat.le_of_ble_eq_true rfl) ?_
              refine v_goto k_Model_first_54 (tgt := 23) rfl ?_
              refine ih (i + 1) _ (by omega) hO2 f3 ?_
              rw [← ht, mFb, if_neg (by omega)]
            · refine v_iload_n k_Model_first_38 rfl ?_
              refine v_ifne 46 k_Model_first_39 rfl (by omega) (fun cd39 => ?_) (fun cd39 => ?_)
              · refine v_aload_n k_Model_first_46 rfl ?_
                refine v_getf fl_Model_122 ho rfl k_Model_first_47 ?_
                refine v_ireturn k_Model_first_50 rfl rfl ?_
                have e : mFb (nK S) (q_endK (nK S)).toNat 0 = i := by rw [← ht, mFb, if_pos (by omega)]
                exact fin3 (by unfold t_first; rw [if_neg (by omega), e, if_neg (by omega)]; (first | rw [if_pos (by omega)] | rw [if_neg (by omega)]); try rfl) ⟨X, a, hO2, (show pQ h m S X a from ⟨rf, th, be, tl, fd, rw_, ⟨c1, ha0, c3, c4, c5, c6, c7, c8, c10⟩, ⟨x1, x2, x3⟩, ⟨l1, l3, l4, l5, l8, l10⟩, hk, hth, htl, hrw, hrf⟩).fa f3⟩ f3.fr
              · refine v_iload_n k_Model_first_42 rfl ?_
                refine v_goto k_Model_first_43 (tgt := 50) rfl ?_
                refine v_ireturn k_Model_first_50 rfl rfl ?_
                have e : mFb (nK S) (q_endK (nK S)).toNat 0 = i := by rw [← ht, mFb, if_pos (by omega)]
                exact fin3 (by unfold t_first; rw [if_neg (by omega), e, if_neg (by omega)]; (first | rw [if_pos (by omega)] | rw [if_neg (by omega)]); try rfl) ⟨X, a, hO2, (show pQ h m S X a from ⟨rf, th, be, tl, fd, rw_, ⟨c1, ha0, c3, c4, c5, c6, c7, c8, c10⟩, ⟨x1, x2, x3⟩, ⟨l1, l3, l4, l5, l8, l10⟩, hk, hth, htl, hrw, hrf⟩).fa f3⟩ f3.fr
      exact loop (q_endK (nK S)).toNat 0 h (by omega) ⟨fp, sn, ho, hs, hsl⟩ FrA.rf rfl
    · refine v_aload_n k_Model_first_9 rfl ?_
      refine v_bipush k_Model_first_10 (by decide) ?_
      refine v_callV mo_Model_no mi_Model_no mv_Model_no lk_Model_49 k_Model_first_12 ho rfl rfl (Nat.le_of_ble_eq_true rfl) rfl (Nat.le_of_ble_eq_true rfl) (c_Model_no G hp w (by omega)) (fun v12 h12 q12 => ?_)
      obtain ⟨rfl, p9, f9⟩ := q12
      refine v_ireturn k_Model_first_15 rfl rfl ?_
      first
        | (exfalso; omega)
        | exact fin3 (by unfold t_first; (repeat (first | rw [if_pos (by omega)] | rw [if_neg (by omega)])); (try rfl)) p9 (f9.wd (by omega) (by omega))
        | exact fin3 (by unfold t_first; (repeat (first | rw [if_pos (by omega)] | rw [if_neg (by omega)])); (try rfl)) hp Fr.rf

set_option maxHeartbeats 4000000 in
set_option maxRecDepth 20000 in
theorem c_Model_move (G : Gx) {h : AH} {p q : Nat} {a b : List Int} (hp : h.2 p = some (aA 0 a)) (hq : h.2 q = some (aA 0 b)) (ha : a.length = 80) (hb : b.length = 80) (hne : p ≠ q) : Ct G Y_Model_move 0 0 0 [aR p, aR q] h (fun v h' => v = none ∧ h'.2 q = some (aA 0 a) ∧ Fr q (q + 1) h h') := by

  refine Ct.of_V mo_Model_move rfl (Nat.le_of_ble_eq_true rfl) rfl ?_
  have loop : ∀ (k : Nat) (i : Nat) (h1 : AH) (b1 : List Int), (80 < i + k) → (i ≤ 80) → (h1.2 q = some (aA 0 b1)) → (b1.length = 80) → (Fr q (q + 1) h h1) → (∀ j : Nat, j < i → b1.getD j 0 = a.getD j 0) → V G Y_Model_move 0 0 0 2 [some (aR p), some (aR q), some (aI (i : Int))] [] h1 (fun v h' => v = none ∧ h'.2 q = some (aA 0 a) ∧ Fr q (q + 1) h h') := by
    intro k
    induction k with
    | zero => intro i h1 b1 hi hin hq1 hl1 f1 hbs; exfalso; omega
    | succ k ih =>
      intro i h1 b1 hi hin hq1 hl1 f1 hbs
      have hp1 := f1.at hp (by omega)
      refine v_iload_n k_Model_move_2 rfl ?_
      refine v_bipush k_Model_move_3 (by decide) ?_
      refine v_icge 20 k_Model_move_5 rfl (by omega) (by omega) (fun c5 => ?_) (fun c5 => ?_)
      · refine v_return k_Model_move_20 rfl ?_
        have e : b1 = a := eqD (by omega) (fun j hj => hbs j (by omega))
        rw [e] at hq1
        exact ⟨rfl, hq1, f1⟩
      · refine v_aload_n k_Model_move_8 rfl ?_
        refine v_iload_n k_Model_move_9 rfl ?_
        refine v_aload_n k_Model_move_10 rfl ?_
        refine v_iload_n k_Model_move_11 rfl ?_
        refine v_iald hp1 (by omega) (by omega) k_Model_move_12 ?_
        refine v_ist hq1 (by omega) (by omega) k_Model_move_13 (fun h13 e13 f13 => ?_)
        have f2 := f1.tr f13 (by omega) (by omega)
        have hq2 := e13
        rw [Int.toNat_natCast] at hq2
        refine v_iinc k_Model_move_14 rfl (Nat.le_of_ble_eq_true rfl) ?_
        refine v_goto k_Model_move_17 (tgt := 2) rfl ?_
        refine ih (i + 1) h13 _ (by omega) (by omega) hq2 (by rw [List.length_set]; exact hl1) f2 (fun j hj => ?_)
        rw [getD_set (by omega)]
        by_cases e : j = i
        · rw [if_pos e, e]
        · rw [if_neg e]; exact hbs j (by omega)
  refine v_iconst k_Model_move_0 ?_
  refine v_istore_n k_Model_move_1 ⟨Nat.le_of_ble_eq_true rfl, Nat.le_of_ble_eq_true rfl⟩ ?_
  exact loop 81 0 h b (by omega) (by omega) hq hb Fr.rf (fun j hj => absurd hj (by omega))

set_option maxHeartbeats 4000000 in
set_option maxRecDepth 20000 in
theorem c_Model_image (G : Gx) {h : AH} {m : Nat} {S : St} (hp : pMS h m S) (w : wSt S) : Ct G Y_Model_image 2 0 0 [aR m] h (fun v h' => v = some (aI (s_image S).1) ∧ pMS h' m (s_image S).2 ∧ Fr m (m + 11) h h') := by
  obtain ⟨X, a, ⟨fp, sn, ho, hs, hsl⟩, rf, th, be, tl, fd, rw_, ⟨c1, ha, c3, c4, c5, c6, c7, c8, c10⟩, ⟨x1, x2, x3⟩, ⟨l1, l3, l4, l5, l8, l10⟩, hk, hth, htl, hrw, hrf⟩ := id hp
  obtain ⟨w1, w2, w3, w4, w5, w6, w7, w8⟩ := id w
  have wv : vK (nK S) 13 6 := ⟨w1.1, by have := w1.2.1; omega, w1.2.2⟩
  have wu := wv.up (by decide) (by decide)
  have hl := hk.1
  have hn12 := w1.2.1
  have hv6 := w1.2.2.2.2.2.1
  refine Ct.of_V mo_Model_image rfl (Nat.le_of_ble_eq_true rfl) rfl ?_
  refine v_aload_n k_Model_image_0 rfl ?_
  refine v_iconst k_Model_image_1 ?_
  refine v_put fl_Model_41 ho (Nat.le_of_ble_eq_true rfl) (fun r hr => by cases hr; exact Or.inl rfl) rfl rfl k_Model_image_2 (fun h2 e2 f2 => ?_)
  have f8 := f2
  have e8 : h2.2 m = some (aO 8 (mO m (xFp (xKp X 1) fp))) := e2
  have ho := e8
  have haa := f8.at ha (by omega)
  have c33 := f8.at c3 (by omega)
  refine v_aload_n k_Model_image_5 rfl ?_
  refine v_getf fl_Model_13 ho rfl k_Model_image_6 ?_
  refine v_aload_n k_Model_image_9 rfl ?_
  refine v_getf fl_Model_16 ho rfl k_Model_image_10 ?_
  refine v_callS mo_Model_move ms_Model_move lk_Model_45 k_Model_image_13 rfl (Nat.le_of_ble_eq_true rfl) rfl (Nat.le_of_ble_eq_true rfl) (c_Model_move G (f8.at ha (by omega)) (f8.at c3 (by omega)) hl l3 (by omega)) (fun v13 h13 q13 => ?_)
  obtain ⟨rfl, q3, f9⟩ := q13
  have ho := f9.at e8 (by omega)
  have ha9 := f9.at (f8.at ha (by omega)) (by omega)
  refine v_aload_n k_Model_image_16 rfl ?_
  refine v_getf fl_Model_13 ho rfl k_Model_image_17 ?_
  refine v_iconst k_Model_image_20 ?_
  refine v_iald ha9 (by omega) (by omega) k_Model_image_21 ?_
  rw [hk.n0]
  refine v_ireturn k_Model_image_22 rfl rfl ?_
  exact fin3 (S' := wO_ S (nK S)) (by unfold s_image; rfl) ⟨xKp X 1, a, ⟨fp, sn, ho, f9.at (f8.at hs (by omega)) (by omega), hsl⟩, rf, a, be, tl, fd, rw_, ⟨f9.at (f8.at c1 (by omega)) (by omega), f9.at (f8.at ha (by omega)) (by omega), q3, f9.at (f8.at c4 (by omega)) (by omega), f9.at (f8.at c5 (by omega)) (by omega), f9.at (f8.at c6 (by omega)) (by omega), f9.at (f8.at c7 (by omega)) (by omega), f9.at (f8.at c8 (by omega)) (by omega), f9.at (f8.at c10 (by omega)) (by omega)⟩, ⟨rfl, x2, x3⟩, ⟨l1, hl, l4, l5, l8, l10⟩, hk, fun _ => hk, htl, hrw, hrf⟩ (Fr.tr (f8.wd (by omega) (by omega)) f9 (by omega) (by omega))

set_option maxHeartbeats 4000000 in
set_option maxRecDepth 20000 in
theorem c_Model_on (G : Gx) {h : AH} {m : Nat} {S : St} (hp : pMS h m S) (w : wSt S) : Ct G Y_Model_on 2 0 0 [aR m] h (fun v h' => v = some (aI (s_on S).1) ∧ pMS h' m (s_on S).2 ∧ Fr m (m + 11) h h') := by
  obtain ⟨X, a, ⟨fp, sn, ho, hs, hsl⟩, rf, th, be, tl, fd, rw_, ⟨c1, ha, c3, c4, c5, c6, c7, c8, c10⟩, ⟨x1, x2, x3⟩, ⟨l1, l3, l4, l5, l8, l10⟩, hk, hth, htl, hrw, hrf⟩ := id hp
  obtain ⟨w1, w2, w3, w4, w5, w6, w7, w8⟩ := id w
  have wv : vK (nK S) 13 6 := ⟨w1.1, by have := w1.2.1; omega, w1.2.2⟩
  have wu := wv.up (by decide) (by decide)
  have hl := hk.1
  have hn12 := w1.2.1
  have hv6 := w1.2.2.2.2.2.1
  refine Ct.of_V mo_Model_on rfl (Nat.le_of_ble_eq_true rfl) rfl ?_
  refine v_aload_n k_Model_on_0 rfl ?_
  refine v_getf fl_Model_41 ho rfl k_Model_on_1 ?_
  rw [show (xFp X fp).1 = nB S from x1]
  refine v_ifne 14 k_Model_on_4 rfl (by omega) (fun cd4 => ?_) (fun cd4 => ?_)
  · refine v_aload_n k_Model_on_14 rfl ?_
    refine v_getf fl_Model_16 ho rfl k_Model_on_15 ?_
    refine v_aload_n k_Model_on_18 rfl ?_
    refine v_getf fl_Model_13 ho rfl k_Model_on_19 ?_
    refine v_callS mo_Model_move ms_Model_move lk_Model_45 k_Model_on_22 rfl (Nat.le_of_ble_eq_true rfl) rfl (Nat.le_of_ble_eq_true rfl) (c_Model_move G c3 ha l3 hl (by omega)) (fun v22 h22 q22 => ?_)
    obtain ⟨rfl, q3, f9⟩ := q22
    have ho9 := f9.at ho (by omega)
    have hk9 := hth (by omega)
    refine v_aload_n k_Model_on_25 rfl ?_
    refine v_getf fl_Model_13 ho9 rfl k_Model_on_26 ?_
    refine v_iconst k_Model_on_29 ?_
    refine v_iald q3 (by omega) (by omega) k_Model_on_30 ?_
    rw [hk9.n0]
    refine v_ireturn k_Model_on_31 rfl rfl ?_
    first
      | (exfalso; omega)
      | exact fin3 (by unfold s_on; (repeat (first | rw [if_pos (by omega)] | rw [if_neg (by omega)])); (try rfl)) p9 (f9.wd (by omega) (by omega))
      | exact fin3 (S' := wK_ S (nO S)) (by unfold s_on; (repeat (first | rw [if_pos (by omega)] | rw [if_neg (by omega)])); (try rfl)) ⟨X, th, ⟨fp, sn, f9.at ho (by omega), f9.at hs (by omega), hsl⟩, rf, th, be, tl, fd, rw_, ⟨f9.at c1 (by omega), q3, f9.at c3 (by omega), f9.at c4 (by omega), f9.at c5 (by omega), f9.at c6 (by omega), f9.at c7 (by omega), f9.at c8 (by omega), f9.at c10 (by omega)⟩, ⟨x1, x2, x3⟩, ⟨l1, l3, l4, l5, l8, l10⟩, hk9, hth, htl, hrw, hrf⟩ (f9.wd (by omega) (by omega))
      | exact fin3 (by unfold s_on; (repeat (first | rw [if_pos (by omega)] | rw [if_neg (by omega)])); (try rfl)) hp Fr.rf
  · refine v_aload_n k_Model_on_7 rfl ?_
    refine v_bipush k_Model_on_8 (by decide) ?_
    refine v_callV mo_Model_no mi_Model_no mv_Model_no lk_Model_49 k_Model_on_10 ho rfl rfl (Nat.le_of_ble_eq_true rfl) rfl (Nat.le_of_ble_eq_true rfl) (c_Model_no G hp w (by omega)) (fun v10 h10 q10 => ?_)
    obtain ⟨rfl, p9, f9⟩ := q10
    refine v_ireturn k_Model_on_13 rfl rfl ?_
    first
      | (exfalso; omega)
      | exact fin3 (by unfold s_on; (repeat (first | rw [if_pos (by omega)] | rw [if_neg (by omega)])); (try rfl)) p9 (f9.wd (by omega) (by omega))
      | exact fin3 (S' := wK_ S (nO S)) (by unfold s_on; (repeat (first | rw [if_pos (by omega)] | rw [if_neg (by omega)])); (try rfl)) ⟨X, th, ⟨fp, sn, f9.at ho (by omega), f9.at hs (by omega), hsl⟩, rf, th, be, tl, fd, rw_, ⟨f9.at c1 (by omega), q3, f9.at c3 (by omega), f9.at c4 (by omega), f9.at c5 (by omega), f9.at c6 (by omega), f9.at c7 (by omega), f9.at c8 (by omega), f9.at c10 (by omega)⟩, ⟨x1, x2, x3⟩, ⟨l1, l3, l4, l5, l8, l10⟩, hk9, hth, htl, hrw, hrf⟩ (f9.wd (by omega) (by omega))
      | exact fin3 (by unfold s_on; (repeat (first | rw [if_pos (by omega)] | rw [if_neg (by omega)])); (try rfl)) hp Fr.rf

set_option maxHeartbeats 4000000 in
set_option maxRecDepth 20000 in
theorem c_Model_letter (G : Gx) {h : AH} {m : Nat} {S : St} (hp : pMS h m S) (w : wSt S) {x : Int} (hx : InR x) : Ct G Y_Model_letter 1 0 0 [aR m, aI x] h (fun v h' => v = some (aI (s_letter S x).1) ∧ pMS h' m (s_letter S x).2 ∧ Fr m (m + 11) h h') := by
  obtain ⟨X, a, ⟨fp, sn, ho, hs, hsl⟩, rf, th, be, tl, fd, rw_, ⟨c1, ha, c3, c4, c5, c6, c7, c8, c10⟩, ⟨x1, x2, x3⟩, ⟨l1, l3, l4, l5, l8, l10⟩, hk, hth, htl, hrw, hrf⟩ := id hp
  obtain ⟨w1, w2, w3, w4, w5, w6, w7, w8⟩ := id w
  have wv : vK (nK S) 13 6 := ⟨w1.1, by have := w1.2.1; omega, w1.2.2⟩
  have wu := wv.up (by decide) (by decide)
  have hl := hk.1
  have hn12 := w1.2.1
  have hv6 := w1.2.2.2.2.2.1
  have ho_ := oS_spec x 0 255
  refine Ct.of_V mo_Model_letter rfl (Nat.le_of_ble_eq_true rfl) rfl ?_
  refine v_iload_n k_Model_letter_0 rfl ?_
  refine v_ifge 11 k_Model_letter_1 rfl (by omega) (fun cd1 => ?_) (fun cd1 => ?_)
  · refine v_iload_n k_Model_letter_11 rfl ?_
    refine v_sipush k_Model_letter_12 (by decide) ?_
    refine v_icgt 27 k_Model_letter_15 rfl (by omega) (by omega) (fun cd15 => ?_) (fun cd15 => ?_)
    · refine v_aload_n k_Model_letter_27 rfl ?_
      refine v_bipush k_Model_letter_28 (by decide) ?_
      refine v_callV mo_Model_no mi_Model_no mv_Model_no lk_Model_49 k_Model_letter_30 ho rfl rfl (Nat.le_of_ble_eq_true rfl) rfl (Nat.le_of_ble_eq_true rfl) (c_Model_no G hp w (by omega)) (fun v30 h30 q30 => ?_)
      obtain ⟨rfl, p9, f9⟩ := q30
      refine v_ireturn k_Model_letter_33 rfl rfl ?_
      first
        | (exfalso; omega)
        | exact fin3 (by unfold s_letter; (repeat (first | rw [if_pos (by omega)] | rw [if_neg (by omega)])); (try rfl); first | done | (rw [show oS x 0 255 = -4 by omega]; rfl) | (rw [show oS x 0 255 = -6 by omega]; rfl)) p9 (f9.wd (by omega) (by omega))
        | exact fin3 (S' := wX_ S (nX S ++ [x])) (by unfold s_letter; rw [if_neg (by omega), if_neg (by omega)]; rfl) ⟨xTp X (((nX S).length : Int) + 1), a, ⟨fp, sn, ho, f9.at (f8.at hs (by omega)) (by omega), hsl⟩, rf, th, be, _, fd, rw_, ⟨f9.at (f8.at c1 (by omega)) (by omega), f9.at (f8.at ha (by omega)) (by omega), f9.at (f8.at c3 (by omega)) (by omega), f9.at (f8.at c4 (by omega)) (by omega), f9.at e8 (by omega), f9.at (f8.at c6 (by omega)) (by omega), f9.at (f8.at c7 (by omega)) (by omega), f9.at (f8.at c8 (by omega)) (by omega), f9.at (f8.at c10 (by omega)) (by omega)⟩, ⟨x1, (by show ((nX S).length : Int) + 1 = ((nX S ++ [x]).length : Int); simp), x3⟩, ⟨l1, l3, l4, by rw [List.length_set]; exact l5, l8, l10⟩, hk, hth, take_snoc htl (by omega), hrw, hrf⟩ (Fr.tr (f8.wd (by omega) (by omega)) f9 (by omega) (by omega))
    · refine v_aload_n k_Model_letter_18 rfl ?_
      refine v_getf fl_Model_53 ho rfl k_Model_letter_19 ?_
      rw [show (xFp X fp).2.1 = ((nX S).length : Int) from x2]
      refine v_bipush k_Model_letter_22 (by decide) ?_
      refine v_icne 34 k_Model_letter_24 rfl (by omega) (by omega) (fun cd24 => ?_) (fun cd24 => ?_)
      · refine v_aload_n k_Model_letter_34 rfl ?_
        refine v_getf fl_Model_22 ho rfl k_Model_letter_35 ?_
        refine v_aload_n k_Model_letter_38 rfl ?_
        refine v_getf fl_Model_53 ho rfl k_Model_letter_39 ?_
        rw [show (xFp X fp).2.1 = ((nX S).length : Int) from x2]
        refine v_iload_n k_Model_letter_42 rfl ?_
        refine v_ist c5 (by omega) (by omega) k_Model_letter_43 (fun h43 e43 f43 => ?_)
        have f8 := f43
        have e8 := e43
        rw [Int.toNat_natCast] at e8
        have ho := f8.at ho (by omega)
        refine v_aload_n k_Model_letter_44 rfl ?_
        refine v_dup k_Model_letter_45 rfl ?_
        refine v_getf fl_Model_53 ho rfl k_Model_letter_46 ?_
        rw [show (xFp X fp).2.1 = ((nX S).length : Int) from x2]
        refine v_iconst k_Model_letter_49 ?_
        refine v_iadd k_Model_letter_50 ?_
        refine v_put fl_Model_53 ho (Nat.le_of_ble_eq_true rfl) (fun r hr => by cases hr; exact Or.inl rfl) rfl rfl k_Model_letter_51 (fun h51 e51 f51 => ?_)
        have f9 := f51
        have e9 : h51.2 m = some (aO 8 (mO m (xFp (xTp X (((nX S).length : Int) + 1)) fp))) := e51
        have ho := e9
        refine v_aload_n k_Model_letter_54 rfl ?_
        refine v_getf fl_Model_53 ho rfl k_Model_letter_55 ?_
        refine v_ireturn k_Model_letter_58 rfl rfl ?_
        first
          | (exfalso; omega)
          | exact fin3 (by unfold s_letter; (repeat (first | rw [if_pos (by omega)] | rw [if_neg (by omega)])); (try rfl); first | done | (rw [show oS x 0 255 = -4 by omega]; rfl) | (rw [show oS x 0 255 = -6 by omega]; rfl)) p9 (f9.wd (by omega) (by omega))
          | exact fin3 (S' := wX_ S (nX S ++ [x])) (by unfold s_letter; rw [if_neg (by omega), if_neg (by omega)]; rfl) ⟨xTp X (((nX S).length : Int) + 1), a, ⟨fp, sn, ho, f9.at (f8.at hs (by omega)) (by omega), hsl⟩, rf, th, be, _, fd, rw_, ⟨f9.at (f8.at c1 (by omega)) (by omega), f9.at (f8.at ha (by omega)) (by omega), f9.at (f8.at c3 (by omega)) (by omega), f9.at (f8.at c4 (by omega)) (by omega), f9.at e8 (by omega), f9.at (f8.at c6 (by omega)) (by omega), f9.at (f8.at c7 (by omega)) (by omega), f9.at (f8.at c8 (by omega)) (by omega), f9.at (f8.at c10 (by omega)) (by omega)⟩, ⟨x1, (by show ((nX S).length : Int) + 1 = ((nX S ++ [x]).length : Int); simp), x3⟩, ⟨l1, l3, l4, by rw [List.length_set]; exact l5, l8, l10⟩, hk, hth, take_snoc htl (by omega), hrw, hrf⟩ (Fr.tr (f8.wd (by omega) (by omega)) f9 (by omega) (by omega))
      · refine v_aload_n k_Model_letter_27 rfl ?_
        refine v_bipush k_Model_letter_28 (by decide) ?_
        refine v_callV mo_Model_no mi_Model_no mv_Model_no lk_Model_49 k_Model_letter_30 ho rfl rfl (Nat.le_of_ble_eq_true rfl) rfl (Nat.le_of_ble_eq_true rfl) (c_Model_no G hp w (by omega)) (fun v30 h30 q30 => ?_)
        obtain ⟨rfl, p9, f9⟩ := q30
        refine v_ireturn k_Model_letter_33 rfl rfl ?_
        first
          | (exfalso; omega)
          | exact fin3 (by unfold s_letter; (repeat (first | rw [if_pos (by omega)] | rw [if_neg (by omega)])); (try rfl); first | done | (rw [show oS x 0 255 = -4 by omega]; rfl) | (rw [show oS x 0 255 = -6 by omega]; rfl)) p9 (f9.wd (by omega) (by omega))
          | exact fin3 (S' := wX_ S (nX S ++ [x])) (by unfold s_letter; rw [if_neg (by omega), if_neg (by omega)]; rfl) ⟨xTp X (((nX S).length : Int) + 1), a, ⟨fp, sn, ho, f9.at (f8.at hs (by omega)) (by omega), hsl⟩, rf, th, be, _, fd, rw_, ⟨f9.at (f8.at c1 (by omega)) (by omega), f9.at (f8.at ha (by omega)) (by omega), f9.at (f8.at c3 (by omega)) (by omega), f9.at (f8.at c4 (by omega)) (by omega), f9.at e8 (by omega), f9.at (f8.at c6 (by omega)) (by omega), f9.at (f8.at c7 (by omega)) (by omega), f9.at (f8.at c8 (by omega)) (by omega), f9.at (f8.at c10 (by omega)) (by omega)⟩, ⟨x1, (by show ((nX S).length : Int) + 1 = ((nX S ++ [x]).length : Int); simp), x3⟩, ⟨l1, l3, l4, by rw [List.length_set]; exact l5, l8, l10⟩, hk, hth, take_snoc htl (by omega), hrw, hrf⟩ (Fr.tr (f8.wd (by omega) (by omega)) f9 (by omega) (by omega))
  · refine v_aload_n k_Model_letter_4 rfl ?_
    refine v_bipush k_Model_letter_5 (by decide) ?_
    refine v_callV mo_Model_no mi_Model_no mv_Model_no lk_Model_49 k_Model_letter_7 ho rfl rfl (Nat.le_of_ble_eq_true rfl) rfl (Nat.le_of_ble_eq_true rfl) (c_Model_no G hp w (by omega)) (fun v7 h7 q7 => ?_)
    obtain ⟨rfl, p9, f9⟩ := q7
    refine v_ireturn k_Model_letter_10 rfl rfl ?_
    first
      | (exfalso; omega)
      | exact fin3 (by unfold s_letter; (repeat (first | rw [if_pos (by omega)] | rw [if_neg (by omega)])); (try rfl); first | done | (rw [show oS x 0 255 = -4 by omega]; rfl) | (rw [show oS x 0 255 = -6 by omega]; rfl)) p9 (f9.wd (by omega) (by omega))
      | exact fin3 (S' := wX_ S (nX S ++ [x])) (by unfold s_letter; rw [if_neg (by omega), if_neg (by omega)]; rfl) ⟨xTp X (((nX S).length : Int) + 1), a, ⟨fp, sn, ho, f9.at (f8.at hs (by omega)) (by omega), hsl⟩, rf, th, be, _, fd, rw_, ⟨f9.at (f8.at c1 (by omega)) (by omega), f9.at (f8.at ha (by omega)) (by omega), f9.at (f8.at c3 (by omega)) (by omega), f9.at (f8.at c4 (by omega)) (by omega), f9.at e8 (by omega), f9.at (f8.at c6 (by omega)) (by omega), f9.at (f8.at c7 (by omega)) (by omega), f9.at (f8.at c8 (by omega)) (by omega), f9.at (f8.at c10 (by omega)) (by omega)⟩, ⟨x1, (by show ((nX S).length : Int) + 1 = ((nX S ++ [x]).length : Int); simp), x3⟩, ⟨l1, l3, l4, by rw [List.length_set]; exact l5, l8, l10⟩, hk, hth, take_snoc htl (by omega), hrw, hrf⟩ (Fr.tr (f8.wd (by omega) (by omega)) f9 (by omega) (by omega))

set_option maxHeartbeats 4000000 in
set_option maxRecDepth 20000 in
theorem c_Model_row (G : Gx) {h : AH} {m : Nat} {S : St} (hp : pMS h m S) (w : wSt S) {x : Int} (hx : InR x) : Ct G Y_Model_row 1 0 0 [aR m, aI x] h (fun v h' => v = some (aI (s_row S x).1) ∧ pMS h' m (s_row S x).2 ∧ Fr m (m + 11) h h') := by
  obtain ⟨X, a, ⟨fp, sn, ho, hs, hsl⟩, rf, th, be, tl, fd, rw_, ⟨c1, ha, c3, c4, c5, c6, c7, c8, c10⟩, ⟨x1, x2, x3⟩, ⟨l1, l3, l4, l5, l8, l10⟩, hk, hth, htl, hrw, hrf⟩ := id hp
  obtain ⟨w1, w2, w3, w4, w5, w6, w7, w8⟩ := id w
  have wv : vK (nK S) 13 6 := ⟨w1.1, by have := w1.2.1; omega, w1.2.2⟩
  have wu := wv.up (by decide) (by decide)
  have hl := hk.1
  have hn12 := w1.2.1
  have hv6 := w1.2.2.2.2.2.1
  have ho_ := oS_spec x 0 60
  refine Ct.of_V mo_Model_row rfl (Nat.le_of_ble_eq_true rfl) rfl ?_
  refine v_iload_n k_Model_row_0 rfl ?_
  refine v_ifge 11 k_Model_row_1 rfl (by omega) (fun cd1 => ?_) (fun cd1 => ?_)
  · refine v_iload_n k_Model_row_11 rfl ?_
    refine v_bipush k_Model_row_12 (by decide) ?_
    refine v_icgt 26 k_Model_row_14 rfl (by omega) (by omega) (fun cd14 => ?_) (fun cd14 => ?_)
    · refine v_aload_n k_Model_row_26 rfl ?_
      refine v_bipush k_Model_row_27 (by decide) ?_
      refine v_callV mo_Model_no mi_Model_no mv_Model_no lk_Model_49 k_Model_row_29 ho rfl rfl (Nat.le_of_ble_eq_true rfl) rfl (Nat.le_of_ble_eq_true rfl) (c_Model_no G hp w (by omega)) (fun v29 h29 q29 => ?_)
      obtain ⟨rfl, p9, f9⟩ := q29
      refine v_ireturn k_Model_row_32 rfl rfl ?_
      first
        | (exfalso; omega)
        | exact fin3 (by unfold s_row; (repeat (first | rw [if_pos (by omega)] | rw [if_neg (by omega)])); (try rfl); first | done | (rw [show oS x 0 60 = -4 by omega]; rfl) | (rw [show oS x 0 60 = -6 by omega]; rfl)) p9 (f9.wd (by omega) (by omega))
        | exact fin3 (S' := wH_ S (nH S ++ [x])) (by unfold s_row; rw [if_neg (by omega), if_neg (by omega)]; rfl) ⟨xRs X (((nH S).length : Int) + 1), a, ⟨fp, sn, ho, f9.at (f8.at hs (by omega)) (by omega), hsl⟩, rf, th, be, tl, fd, _, ⟨f9.at (f8.at c1 (by omega)) (by omega), f9.at (f8.at ha (by omega)) (by omega), f9.at (f8.at c3 (by omega)) (by omega), f9.at (f8.at c4 (by omega)) (by omega), f9.at (f8.at c5 (by omega)) (by omega), f9.at (f8.at c6 (by omega)) (by omega), f9.at (f8.at c7 (by omega)) (by omega), f9.at (f8.at c8 (by omega)) (by omega), f9.at e8 (by omega)⟩, ⟨x1, x2, (by show ((nH S).length : Int) + 1 = ((nH S ++ [x]).length : Int); simp)⟩, ⟨l1, l3, l4, l5, l8, by rw [List.length_set]; exact l10⟩, hk, hth, htl, take_snoc hrw (by omega), hrf⟩ (Fr.tr (f8.wd (by omega) (by omega)) f9 (by omega) (by omega))
    · refine v_aload_n k_Model_row_17 rfl ?_
      refine v_getf fl_Model_178 ho rfl k_Model_row_18 ?_
      rw [show (xFp X fp).2.2.2.2.2.2 = ((nH S).length : Int) from x3]
      refine v_bipush k_Model_row_21 (by decide) ?_
      refine v_icne 33 k_Model_row_23 rfl (by omega) (by omega) (fun cd23 => ?_) (fun cd23 => ?_)
      · refine v_aload_n k_Model_row_33 rfl ?_
        refine v_getf fl_Model_38 ho rfl k_Model_row_34 ?_
        refine v_aload_n k_Model_row_37 rfl ?_
        refine v_getf fl_Model_178 ho rfl k_Model_row_38 ?_
        rw [show (xFp X fp).2.2.2.2.2.2 = ((nH S).length : Int) from x3]
        refine v_iload_n k_Model_row_41 rfl ?_
        refine v_ist c10 (by omega) (by omega) k_Model_row_42 (fun h42 e42 f42 => ?_)
        have f8 := f42
        have e8 := e42
        rw [Int.toNat_natCast] at e8
        have ho := f8.at ho (by omega)
        refine v_aload_n k_Model_row_43 rfl ?_
        refine v_dup k_Model_row_44 rfl ?_
        refine v_getf fl_Model_178 ho rfl k_Model_row_45 ?_
        rw [show (xFp X fp).2.2.2.2.2.2 = ((nH S).length : Int) from x3]
        refine v_iconst k_Model_row_48 ?_
        refine v_iadd k_Model_row_49 ?_
        refine v_put fl_Model_178 ho (Nat.le_of_ble_eq_true rfl) (fun r hr => by cases hr; exact Or.inl rfl) rfl rfl k_Model_row_50 (fun h50 e50 f50 => ?_)
        have f9 := f50
        have e9 : h50.2 m = some (aO 8 (mO m (xFp (xRs X (((nH S).length : Int) + 1)) fp))) := e50
        have ho := e9
        refine v_aload_n k_Model_row_53 rfl ?_
        refine v_getf fl_Model_178 ho rfl k_Model_row_54 ?_
        refine v_ireturn k_Model_row_57 rfl rfl ?_
        first
          | (exfalso; omega)
          | exact fin3 (by unfold s_row; (repeat (first | rw [if_pos (by omega)] | rw [if_neg (by omega)])); (try rfl); first | done | (rw [show oS x 0 60 = -4 by omega]; rfl) | (rw [show oS x 0 60 = -6 by omega]; rfl)) p9 (f9.wd (by omega) (by omega))
          | exact fin3 (S' := wH_ S (nH S ++ [x])) (by unfold s_row; rw [if_neg (by omega), if_neg (by omega)]; rfl) ⟨xRs X (((nH S).length : Int) + 1), a, ⟨fp, sn, ho, f9.at (f8.at hs (by omega)) (by omega), hsl⟩, rf, th, be, tl, fd, _, ⟨f9.at (f8.at c1 (by omega)) (by omega), f9.at (f8.at ha (by omega)) (by omega), f9.at (f8.at c3 (by omega)) (by omega), f9.at (f8.at c4 (by omega)) (by omega), f9.at (f8.at c5 (by omega)) (by omega), f9.at (f8.at c6 (by omega)) (by omega), f9.at (f8.at c7 (by omega)) (by omega), f9.at (f8.at c8 (by omega)) (by omega), f9.at e8 (by omega)⟩, ⟨x1, x2, (by show ((nH S).length : Int) + 1 = ((nH S ++ [x]).length : Int); simp)⟩, ⟨l1, l3, l4, l5, l8, by rw [List.length_set]; exact l10⟩, hk, hth, htl, take_snoc hrw (by omega), hrf⟩ (Fr.tr (f8.wd (by omega) (by omega)) f9 (by omega) (by omega))
      · refine v_aload_n k_Model_row_26 rfl ?_
        refine v_bipush k_Model_row_27 (by decide) ?_
        refine v_callV mo_Model_no mi_Model_no mv_Model_no lk_Model_49 k_Model_row_29 ho rfl rfl (Nat.le_of_ble_eq_true rfl) rfl (Nat.le_of_ble_eq_true rfl) (c_Model_no G hp w (by omega)) (fun v29 h29 q29 => ?_)
        obtain ⟨rfl, p9, f9⟩ := q29
        refine v_ireturn k_Model_row_32 rfl rfl ?_
        first
          | (exfalso; omega)
          | exact fin3 (by unfold s_row; (repeat (first | rw [if_pos (by omega)] | rw [if_neg (by omega)])); (try rfl); first | done | (rw [show oS x 0 60 = -4 by omega]; rfl) | (rw [show oS x 0 60 = -6 by omega]; rfl)) p9 (f9.wd (by omega) (by omega))
          | exact fin3 (S' := wH_ S (nH S ++ [x])) (by unfold s_row; rw [if_neg (by omega), if_neg (by omega)]; rfl) ⟨xRs X (((nH S).length : Int) + 1), a, ⟨fp, sn, ho, f9.at (f8.at hs (by omega)) (by omega), hsl⟩, rf, th, be, tl, fd, _, ⟨f9.at (f8.at c1 (by omega)) (by omega), f9.at (f8.at ha (by omega)) (by omega), f9.at (f8.at c3 (by omega)) (by omega), f9.at (f8.at c4 (by omega)) (by omega), f9.at (f8.at c5 (by omega)) (by omega), f9.at (f8.at c6 (by omega)) (by omega), f9.at (f8.at c7 (by omega)) (by omega), f9.at (f8.at c8 (by omega)) (by omega), f9.at e8 (by omega)⟩, ⟨x1, x2, (by show ((nH S).length : Int) + 1 = ((nH S ++ [x]).length : Int); simp)⟩, ⟨l1, l3, l4, l5, l8, by rw [List.length_set]; exact l10⟩, hk, hth, htl, take_snoc hrw (by omega), hrf⟩ (Fr.tr (f8.wd (by omega) (by omega)) f9 (by omega) (by omega))
  · refine v_aload_n k_Model_row_4 rfl ?_
    refine v_bipush k_Model_row_5 (by decide) ?_
    refine v_callV mo_Model_no mi_Model_no mv_Model_no lk_Model_49 k_Model_row_7 ho rfl rfl (Nat.le_of_ble_eq_true rfl) rfl (Nat.le_of_ble_eq_true rfl) (c_Model_no G hp w (by omega)) (fun v7 h7 q7 => ?_)
    obtain ⟨rfl, p9, f9⟩ := q7
    refine v_ireturn k_Model_row_10 rfl rfl ?_
    first
      | (exfalso; omega)
      | exact fin3 (by unfold s_row; (repeat (first | rw [if_pos (by omega)] | rw [if_neg (by omega)])); (try rfl); first | done | (rw [show oS x 0 60 = -4 by omega]; rfl) | (rw [show oS x 0 60 = -6 by omega]; rfl)) p9 (f9.wd (by omega) (by omega))
      | exact fin3 (S' := wH_ S (nH S ++ [x])) (by unfold s_row; rw [if_neg (by omega), if_neg (by omega)]; rfl) ⟨xRs X (((nH S).length : Int) + 1), a, ⟨fp, sn, ho, f9.at (f8.at hs (by omega)) (by omega), hsl⟩, rf, th, be, tl, fd, _, ⟨f9.at (f8.at c1 (by omega)) (by omega), f9.at (f8.at ha (by omega)) (by omega), f9.at (f8.at c3 (by omega)) (by omega), f9.at (f8.at c4 (by omega)) (by omega), f9.at (f8.at c5 (by omega)) (by omega), f9.at (f8.at c6 (by omega)) (by omega), f9.at (f8.at c7 (by omega)) (by omega), f9.at (f8.at c8 (by omega)) (by omega), f9.at e8 (by omega)⟩, ⟨x1, x2, (by show ((nH S).length : Int) + 1 = ((nH S ++ [x]).length : Int); simp)⟩, ⟨l1, l3, l4, l5, l8, by rw [List.length_set]; exact l10⟩, hk, hth, htl, take_snoc hrw (by omega), hrf⟩ (Fr.tr (f8.wd (by omega) (by omega)) f9 (by omega) (by omega))

set_option maxHeartbeats 4000000 in
set_option maxRecDepth 20000 in
theorem c_Model_unlike (G : Gx) {h : AH} {m : Nat} {X : MX} {a rw_ hs_ : List Int} {K : CK} (ho : h.2 m = some (aO 8 (mO m X))) (ha : h.2 (m + 2) = some (aA 0 a)) (c10 : h.2 (m + 10) = some (aA 0 rw_)) (l10 : rw_.length = 12) (hk : nowR a K) (w : vK K 13 6) (hrw : rw_.take hs_.length = hs_) (hx : ∀ x ∈ hs_, 0 ≤ x ∧ x ≤ 60) {v b : Int} (hv : 0 ≤ v ∧ v < (kK K).length) (hb : 0 ≤ b ∧ b ≤ 400) : Ct G Y_Model_unlike 5 0 0 [aR m, aI v, aI b, aI (hs_.length : Int)] h (isR (some (aI (fnH K v b hs_ 0))) h) := by
  have wu := w.up (by decide) (by decide)
  have hl12 : hs_.length ≤ 12 := by have := congrArg List.length hrw; rw [List.length_take] at this; omega
  refine Ct.of_V mo_Model_unlike rfl (Nat.le_of_ble_eq_true rfl) rfl ?_
  have loop : ∀ (k : Nat) (i : Nat) (z : Option AV), (hs_.length < i + k) → (i ≤ hs_.length) → (fnH K v b (hs_.drop i) i = fnH K v b hs_ 0) → V G Y_Model_unlike 5 0 0 3 [some (aR m), some (aI v), some (aI b), some (aI (hs_.length : Int)), some (aI (i : Int)), z] [] h (isR (some (aI (fnH K v b hs_ 0))) h) := by
    intro k
    induction k with
    | zero => intro i z hi hin ht; exfalso; omega
    | succ k ih =>
      intro i z hi hin ht
      refine v_iload k_Model_unlike_3 rfl ?_
      refine v_iload_n k_Model_unlike_5 rfl ?_
      refine v_icge 57 k_Model_unlike_6 rfl (by omega) (by omega) (fun cd6 => ?_) (fun cd6 => ?_)
      · refine v_bipush k_Model_unlike_57 (by decide) ?_
        refine v_ireturn k_Model_unlike_59 rfl rfl ?_
        have e : i = hs_.length := by omega
        subst e
        exact ⟨by rw [← ht, List.drop_length]; rfl, rfl⟩
      · have ed : hs_.drop i = hs_[i] :: hs_.drop (i + 1) := List.drop_eq_getElem_cons (by omega)
        have er : rw_.getD i 0 = hs_[i] := by
          rw [take_get hrw (by omega), List.getD_eq_getElem?_getD, List.getElem?_eq_getElem (by omega)]
          rfl
        have exx := hx _ (List.getElem_mem (l := hs_) (n := i) (by omega))
        have hsb := sO_bd wu v (b + (i : Int))
        refine v_aload_n k_Model_unlike_9 rfl ?_
        refine v_iload_n k_Model_unlike_10 rfl ?_
        refine v_iload_n k_Model_unlike_11 rfl ?_
        refine v_iload k_Model_unlike_12 rfl ?_
        refine v_iadd k_Model_unlike_14 ?_
        refine v_callVr mo_Model_soundAt mi_Model_soundAt mv_Model_soundAt lk_Model_125 k_Model_unlike_15 ho rfl rfl (Nat.le_of_ble_eq_true rfl) rfl (Nat.le_of_ble_eq_true rfl) (c_Model_soundAt G ho ha hk w (v := v) (b := b + (i : Int)) hv (by omega)) ?_
        refine v_istore k_Model_unlike_18 ⟨Nat.le_of_ble_eq_true rfl, Nat.le_of_ble_eq_true rfl⟩ ?_
        refine v_aload_n k_Model_unlike_20 rfl ?_
        refine v_getf fl_Model_38 ho rfl k_Model_unlike_21 ?_
        refine v_iload k_Model_unlike_24 rfl ?_
        refine v_iald c10 (by omega) (by omega) k_Model_unlike_26 ?_
        rw [Int.toNat_natCast, er]
        refine v_iload k_Model_unlike_27 rfl ?_
        refine v_sipush k_Model_unlike_29 (by decide) ?_
        refine v_icne 40 k_Model_unlike_32 rfl (by omega) (by omega) (fun cd32 => ?_) (fun cd32 => ?_)
        · refine v_iload k_Model_unlike_40 rfl ?_
          refine v_bipush k_Model_unlike_42 (by decide) ?_
          refine v_iadd k_Model_unlike_44 ?_
          refine v_iceq 51 k_Model_unlike_45 rfl (by omega) (by omega) (fun cd45 => ?_) (fun cd45 => ?_)
          · refine v_iinc k_Model_unlike_51 rfl (Nat.le_of_ble_eq_true rfl) ?_
            refine v_goto k_Model_unlike_54 (tgt := 3) rfl ?_
            refine ih (i + 1) _ (by omega) (by omega) ?_
            rw [← ht, ed, fnH, if_pos (by split <;> omega)]
          · refine v_iload k_Model_unlike_48 rfl ?_
            refine v_ireturn k_Model_unlike_50 rfl rfl ?_
            refine ⟨?_, rfl⟩
            rw [← ht, ed, fnH, if_neg (by split <;> omega)]
        · refine v_bipush k_Model_unlike_35 (by decide) ?_
          refine v_goto k_Model_unlike_37 (tgt := 45) rfl ?_
          refine v_iceq 51 k_Model_unlike_45 rfl (by omega) (by omega) (fun cd45 => ?_) (fun cd45 => ?_)
          · refine v_iinc k_Model_unlike_51 rfl (Nat.le_of_ble_eq_true rfl) ?_
            refine v_goto k_Model_unlike_54 (tgt := 3) rfl ?_
            refine ih (i + 1) _ (by omega) (by omega) ?_
            rw [← ht, ed, fnH, if_pos (by split <;> omega)]
          · refine v_iload k_Model_unlike_48 rfl ?_
            refine v_ireturn k_Model_unlike_50 rfl rfl ?_
            refine ⟨?_, rfl⟩
            rw [← ht, ed, fnH, if_neg (by split <;> omega)]
  refine v_iconst k_Model_unlike_0 ?_
  refine v_istore k_Model_unlike_1 ⟨Nat.le_of_ble_eq_true rfl, Nat.le_of_ble_eq_true rfl⟩ ?_
  exact loop (hs_.length + 1) 0 _ (by omega) (by omega) rfl
