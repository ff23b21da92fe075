theorem nowR_setP {a : List Int} {K : CK} (k : nowR a K) {n x : Int} (hn : 0 ≤ n ∧ n < (kP K).length) (h13 : (kP K).length ≤ 13) : nowR (a.set (10 + n).toNat x) (setP K n x) := by
  obtain ⟨h0, h1, h2, h3, h4, h5, h6, h7⟩ := k
  refine ⟨by rw [List.length_set]; exact h0, ?_, ?_, ?_, ?_, ?_, fun i hi => ⟨?_, ?_⟩, fun i hi => ?_⟩
  · rw [getD_set (by omega), if_neg (by omega), h1]; show _ = ((rset (kP K) n x).length : Int); rw [rset_len]
  · rw [getD_set (by omega), if_neg (by omega)]; exact h2
  · rw [getD_set (by omega), if_neg (by omega)]; exact h3
  · rw [getD_set (by omega), if_neg (by omega)]; exact h4
  · rw [getD_set (by omega), if_neg (by omega)]; exact h5
  · have hi : i < (kP K).length := by rw [← rset_len (xs := kP K) (i := n) (x := x)]; exact hi
    rw [getD_set (by omega)]
    show _ = rget (rset (kP K) n x) i
    by_cases e : (i : Int) = n
    · rw [if_pos (by omega), e, rget_rset hn]
    · rw [if_neg (by omega), rget_rset_ne e]; exact (h6 i hi).1
  · have hi : i < (kP K).length := by rw [← rset_len (xs := kP K) (i := n) (x := x)]; exact hi
    rw [getD_set (by omega), if_neg (by omega)]; exact (h6 i hi).2
  · have := h7 i hi
    rw [getD_set (by omega), if_neg (by omega), getD_set (by omega), if_neg (by omega), getD_set (by omega), if_neg (by omega)]; exact this
theorem nowR_setE {a : List Int} {K : CK} (k : nowR a K) {n x : Int} (hn : 0 ≤ n ∧ n < (kK K).length) (h6' : (kK K).length ≤ 6) (h13 : (kP K).length ≤ 13) (he : (kE K).length = (kK K).length) : nowR (a.set (60 + n).toNat x) (setE K n x) := by
  obtain ⟨h0, h1, h2, h3, h4, h5, h6, h7⟩ := k
  refine ⟨by rw [List.length_set]; exact h0, ?_, ?_, ?_, ?_, ?_, fun i hi => ?_, fun i hi => ⟨?_, ?_, ?_⟩⟩
  · rw [getD_set (by omega), if_neg (by omega)]; exact h1
  · rw [getD_set (by omega), if_neg (by omega)]; exact h2
  · rw [getD_set (by omega), if_neg (by omega)]; exact h3
  · rw [getD_set (by omega), if_neg (by omega)]; exact h4
  · rw [getD_set (by omega), if_neg (by omega)]; exact h5
  · have hi : i < (kP K).length := hi
    have := h6 i hi
    rw [getD_set (by omega), if_neg (by omega), getD_set (by omega), if_neg (by omega)]; exact this
  · have hi : i < (kK K).length := hi
    rw [getD_set (by omega), if_neg (by omega)]; exact (h7 i hi).1
  · have hi : i < (kK K).length := hi
    rw [getD_set (by omega)]
    show _ = rget (rset (kE K) n x) i
    by_cases e : (i : Int) = n
    · rw [if_pos (by omega), e, rget_rset (by omega)]
    · rw [if_neg (by omega), rget_rset_ne e]; exact (h7 i hi).2.1
  · have hi : i < (kK K).length := hi
    rw [getD_set (by omega), if_neg (by omega)]; exact (h7 i hi).2.2
theorem nowR_setR {a : List Int} {K : CK} (k : nowR a K) {x : Int} (h6' : (kK K).length ≤ 6) (h13 : (kP K).length ≤ 13) : nowR (a.set 2 x) (setR K x) := by
  obtain ⟨h0, h1, h2, h3, h4, h5, h6, h7⟩ := k
  refine ⟨by rw [List.length_set]; exact h0, ?_, ?_, ?_, ?_, ?_, fun i hi => ?_, fun i hi => ?_⟩
  · rw [getD_set (by omega), if_neg (by omega)]; exact h1
  · rw [getD_set (by omega), if_neg (by omega)]; exact h2
  · rw [getD_set (by omega)]; exact (if_pos rfl).trans rfl
  · rw [getD_set (by omega), if_neg (by omega)]; exact h4
  · rw [getD_set (by omega), if_neg (by omega)]; exact h5
  · have := h6 i hi
    rw [getD_set (by omega), if_neg (by omega), getD_set (by omega), if_neg (by omega)]; exact this
  · have := h7 i hi
    rw [getD_set (by omega), if_neg (by omega), getD_set (by omega), if_neg (by omega), getD_set (by omega), if_neg (by omega)]; exact this
theorem nowR_setS {a : List Int} {K : CK} (k : nowR a K) {x : Int} (h6' : (kK K).length ≤ 6) (h13 : (kP K).length ≤ 13) : nowR (a.set 3 x) (setS K x) := by
  obtain ⟨h0, h1, h2, h3, h4, h5, h6, h7⟩ := k
  refine ⟨by rw [List.length_set]; exact h0, ?_, ?_, ?_, ?_, ?_, fun i hi => ?_, fun i hi => ?_⟩
  · rw [getD_set (by omega), if_neg (by omega)]; exact h1
  · rw [getD_set (by omega), if_neg (by omega)]; exact h2
  · rw [getD_set (by omega), if_neg (by omega)]; exact h3
  · rw [getD_set (by omega)]; exact (if_pos rfl).trans rfl
  · rw [getD_set (by omega), if_neg (by omega)]; exact h5
  · have := h6 i hi
    rw [getD_set (by omega), if_neg (by omega), getD_set (by omega), if_neg (by omega)]; exact this
  · have := h7 i hi
    rw [getD_set (by omega), if_neg (by omega), getD_set (by omega), if_neg (by omega), getD_set (by omega), if_neg (by omega)]; exact this
theorem nowR_setW {a : List Int} {K : CK} (k : nowR a K) {x : Int} (h6' : (kK K).length ≤ 6) (h13 : (kP K).length ≤ 13) : nowR (a.set 4 x) (setW K x) := by
  obtain ⟨h0, h1, h2, h3, h4, h5, h6, h7⟩ := k
  refine ⟨by rw [List.length_set]; exact h0, ?_, ?_, ?_, ?_, ?_, fun i hi => ?_, fun i hi => ?_⟩
  · rw [getD_set (by omega), if_neg (by omega)]; exact h1
  · rw [getD_set (by omega), if_neg (by omega)]; exact h2
  · rw [getD_set (by omega), if_neg (by omega)]; exact h3
  · rw [getD_set (by omega), if_neg (by omega)]; exact h4
  · rw [getD_set (by omega)]; exact (if_pos rfl).trans rfl
  · have := h6 i hi
    rw [getD_set (by omega), if_neg (by omega), getD_set (by omega), if_neg (by omega)]; exact this
  · have := h7 i hi
    rw [getD_set (by omega), if_neg (by omega), getD_set (by omega), if_neg (by omega), getD_set (by omega), if_neg (by omega)]; exact this
def mrM (K : CK) : Nat → Nat → Bool
  | 0, _ => true
  | k + 1, j => if plT (kP K) (kL K) j = plT (kP K) (kL K) ((bt K : Int) - 1 - j) then mrM K k (j + 1) else false
def t_mirror (S : St) : Int × St := (if mrM (nK S) (bt (nK S)) 0 = true then 1 else 0, S)
def t_ill (S : St) (b : Int) : Int × St := if oS b 0 400 ≠ 0 then rfS S (oS b 0 400) else (mI (nK S) b (-9), S)
def t_allIll (S : St) : Int × St := (mS (nK S) (-9) (q_endK (nK S)).toNat, S)
set_option maxHeartbeats 4000000 in
set_option maxRecDepth 20000 in
theorem c_Model_become (G : Gx) {h : AH} {m : Nat} {S : St} (hp : pMS h m S) (w : wSt S) {a2 : List Int} (ha2 : h.2 (m + 2) = some (aA 0 a2)) (hl2 : a2.length = 80) {q v l mx : Int} (hq : 0 ≤ q ∧ q < 80) (hv : InR v) (hl0 : InR l) (hm0 : InR mx) : Ct G Y_Model_become 1 0 0 [aR m, aI q, aI v, aI l, aI mx] h (fun v' h' => (oS v l mx ≠ 0 ∧ v' = some (aI (oS v l mx)) ∧ pMS h' m (rfS S (oS v l mx)).2 ∧ Fr m (m + 11) h h') ∨ (oS v l mx = 0 ∧ v' = some (aI (a2.getD q.toNat 0)) ∧ h'.2 (m + 2) = some (aA 0 (a2.set q.toNat v)) ∧ Fr (m + 2) (m + 3) h h')) := by
  obtain ⟨X, a, ⟨fp, sn, ho, hs, hsl⟩, rf, th, be, tl, fd, rw_, ⟨c1, ha, c3, c4, c5, c6, c7, c8, c10⟩, ⟨x1, x2, x3⟩, ⟨l1, l3, l4, l5, l8, l10⟩, hk, hth, htl, hrw, hrf⟩ := id hp
  obtain ⟨w1, w2, w3, w4, w5, w6, w7, w8⟩ := id w
  have wv : vK (nK S) 13 6 := ⟨w1.1, by have := w1.2.1; omega, w1.2.2⟩
  have wu := wv.up (by decide) (by decide)
  have hl := hk.1
  have hn12 := w1.2.1
  have hv6 := w1.2.2.2.2.2.1
  have ho_ := oS_spec v l mx
  refine Ct.of_V mo_Model_become rfl (Nat.le_of_ble_eq_true rfl) rfl ?_
  refine v_iload_n k_Model_become_0 rfl ?_
  refine v_iload_n k_Model_become_1 rfl ?_
  refine v_icge 12 k_Model_become_2 rfl (by omega) (by omega) (fun c2 => ?_) (fun c2 => ?_)
  · refine v_iload_n k_Model_become_12 rfl ?_
    refine v_iload k_Model_become_13 rfl ?_
    refine v_icle 25 k_Model_become_15 rfl (by omega) (by omega) (fun c15 => ?_) (fun c15 => ?_)
    · refine v_aload_n k_Model_become_25 rfl ?_
      refine v_getf fl_Model_13 ho rfl k_Model_become_26 ?_
      refine v_iload_n k_Model_become_29 rfl ?_
      refine v_iald ha2 (by omega) (by omega) k_Model_become_30 ?_
      refine v_istore k_Model_become_31 ⟨Nat.le_of_ble_eq_true rfl, Nat.le_of_ble_eq_true rfl⟩ ?_
      refine v_aload_n k_Model_become_33 rfl ?_
      refine v_getf fl_Model_13 ho rfl k_Model_become_34 ?_
      refine v_iload_n k_Model_become_37 rfl ?_
      refine v_iload_n k_Model_become_38 rfl ?_
      refine v_ist ha2 (by omega) (by omega) k_Model_become_39 (fun h39 e39 f39 => ?_)
      have f9 := f39
      have e9 := e39
      refine v_iload k_Model_become_40 rfl ?_
      refine v_ireturn k_Model_become_42 rfl rfl ?_
      first
        | (exfalso; omega)
        | exact Or.inl ⟨by omega, by congr 2; omega, by rw [show oS v l mx = -4 by omega]; exact p9, f9.wd (by omega) (by omega)⟩
        | exact Or.inl ⟨by omega, by congr 2; omega, by rw [show oS v l mx = -6 by omega]; exact p9, f9.wd (by omega) (by omega)⟩
        | exact Or.inr ⟨by omega, rfl, e9, f9⟩
    · refine v_aload_n k_Model_become_18 rfl ?_
      refine v_bipush k_Model_become_19 (by decide) ?_
      refine v_callV mo_Model_no mi_Model_no mv_Model_no lk_Model_49 k_Model_become_21 ho rfl rfl (Nat.le_of_ble_eq_true rfl) rfl (Nat.le_of_ble_eq_true rfl) (c_Model_no G hp w (by omega)) (fun v21 h21 q21 => ?_)
      obtain ⟨rfl, p9, f9⟩ := q21
      refine v_ireturn k_Model_become_24 rfl rfl ?_
      first
        | (exfalso; omega)
        | exact Or.inl ⟨by omega, by congr 2; omega, by rw [show oS v l mx = -4 by omega]; exact p9, f9.wd (by omega) (by omega)⟩
        | exact Or.inl ⟨by omega, by congr 2; omega, by rw [show oS v l mx = -6 by omega]; exact p9, f9.wd (by omega) (by omega)⟩
        | exact Or.inr ⟨by omega, rfl, e9, f9⟩
  · refine v_aload_n k_Model_become_5 rfl ?_
    refine v_bipush k_Model_become_6 (by decide) ?_
    refine v_callV mo_Model_no mi_Model_no mv_Model_no lk_Model_49 k_Model_become_8 ho rfl rfl (Nat.le_of_ble_eq_true rfl) rfl (Nat.le_of_ble_eq_true rfl) (c_Model_no G hp w (by omega)) (fun v8 h8 q8 => ?_)
    obtain ⟨rfl, p9, f9⟩ := q8
    refine v_ireturn k_Model_become_11 rfl rfl ?_
    first
      | (exfalso; omega)
      | exact Or.inl ⟨by omega, by congr 2; omega, by rw [show oS v l mx = -4 by omega]; exact p9, f9.wd (by omega) (by omega)⟩
      | exact Or.inl ⟨by omega, by congr 2; omega, by rw [show oS v l mx = -6 by omega]; exact p9, f9.wd (by omega) (by omega)⟩
      | exact Or.inr ⟨by omega, rfl, e9, f9⟩

set_option maxHeartbeats 4000000 in
set_option maxRecDepth 20000 in
theorem c_Model_pitch (G : Gx) {h : AH} {m : Nat} {S : St} (hp : pMS h m S) (w : wSt S) {n x : Int} (hn : InR n) (hx : InR x) : Ct G Y_Model_pitch 2 0 0 [aR m, aI n, aI x] h (fun v h' => v = some (aI (s_pitch S n x).1) ∧ pMS h' m (s_pitch S n x).2 ∧ Fr m (m + 11) h h') := by
  obtain ⟨X, a, ⟨fp, sn, ho, hs, hsl⟩, rf, th, be, tl, fd, rw_, ⟨c1, ha, c3, c4, c5, c6, c7, c8, c10⟩, ⟨x1, x2, x3⟩, ⟨l1, l3, l4, l5, l8, l10⟩, hk, hth, htl, hrw, hrf⟩ := id hp
  obtain ⟨w1, w2, w3, w4, w5, w6, w7, w8⟩ := id w
  have wv : vK (nK S) 13 6 := ⟨w1.1, by have := w1.2.1; omega, w1.2.2⟩
  have wu := wv.up (by decide) (by decide)
  have hl := hk.1
  have hn12 := w1.2.1
  have hv6 := w1.2.2.2.2.2.1
  have ho_ := oS_spec x 0 9
  refine Ct.of_V mo_Model_pitch rfl (Nat.le_of_ble_eq_true rfl) rfl ?_
  by_cases hc : 0 ≤ n ∧ n < (kP (nK S)).length
  · skip
    refine v_aload_n k_Model_pitch_0 rfl ?_
    refine v_iload_n k_Model_pitch_1 rfl ?_
    refine v_callVr mo_Model_isNoNote mi_Model_isNoNote mv_Model_isNoNote lk_Model_137 k_Model_pitch_2 ho rfl rfl (Nat.le_of_ble_eq_true rfl) rfl (Nat.le_of_ble_eq_true rfl) ((by have q := c_Model_isNoNote G ho ha hk wv hn; rw [if_pos hc] at q; exact q)) ?_
    refine v_ifeq 16 k_Model_pitch_5 rfl (by omega) (fun cd5 => ?_) (fun cd5 => ?_)
    · refine v_aload_n k_Model_pitch_16 rfl ?_
      refine v_bipush k_Model_pitch_17 (by decide) ?_
      refine v_iload_n k_Model_pitch_19 rfl ?_
      refine v_iadd k_Model_pitch_20 ?_
      refine v_iload_n k_Model_pitch_21 rfl ?_
      refine v_iconst k_Model_pitch_22 ?_
      refine v_bipush k_Model_pitch_23 (by decide) ?_
      refine v_callV mo_Model_become mi_Model_become mv_Model_become lk_Model_144 k_Model_pitch_25 ho rfl rfl (Nat.le_of_ble_eq_true rfl) rfl (Nat.le_of_ble_eq_true rfl) (c_Model_become G hp w ha hl (by omega) hx (by decide) (by decide)) (fun v25 h25 q25 => ?_)
      obtain ⟨g1, rfl, g2, g3⟩ | ⟨g1, rfl, g2, f9⟩ := q25
      · refine v_ireturn k_Model_pitch_28 rfl rfl ?_
        first
          | (exfalso; omega)
          | exact fin3 (by unfold s_pitch; (repeat (first | rw [if_pos (by omega)] | rw [if_neg (by omega)])); try rfl) g2 g3
      · rw [hk.p (x := n) (by omega)]
        refine v_ireturn k_Model_pitch_28 rfl rfl ?_
        first
          | (exfalso; omega)
          | exact fin3 (S' := wK_ S (setP (nK S) n x)) (by unfold s_pitch; (repeat (first | rw [if_pos (by omega)] | rw [if_neg (by omega)])); try rfl) ⟨X, _, ⟨fp, sn, f9.at ho (by omega), f9.at hs (by omega), hsl⟩, rf, th, be, tl, fd, rw_, ⟨f9.at c1 (by omega), g2, f9.at c3 (by omega), f9.at c4 (by omega), f9.at c5 (by omega), f9.at c6 (by omega), f9.at c7 (by omega), f9.at c8 (by omega), f9.at c10 (by omega)⟩, ⟨x1, x2, x3⟩, ⟨l1, l3, l4, l5, l8, l10⟩, nowR_setP hk hc (by omega), hth, htl, hrw, hrf⟩ (f9.wd (by omega) (by omega))
    · refine v_aload_n k_Model_pitch_8 rfl ?_
      refine v_iconst k_Model_pitch_9 ?_
      refine v_callV mo_Model_no mi_Model_no mv_Model_no lk_Model_49 k_Model_pitch_10 ho rfl rfl (Nat.le_of_ble_eq_true rfl) rfl (Nat.le_of_ble_eq_true rfl) (c_Model_no G hp w (by omega)) (fun v10 h10 q10 => ?_)
      obtain ⟨rfl, p9, f9⟩ := q10
      refine v_goto k_Model_pitch_13 (tgt := 28) rfl ?_
      refine v_ireturn k_Model_pitch_28 rfl rfl ?_
      first
        | (exfalso; omega)
        | exact fin3 (by unfold s_pitch; (repeat (first | rw [if_pos (by omega)] | rw [if_neg (by omega)])); try rfl) p9 (f9.wd (by omega) (by omega))
        | exact fin3 (by unfold s_pitch; (repeat (first | rw [if_pos (by omega)] | rw [if_neg (by omega)])); try rfl) hp Fr.rf
  · skip
    refine v_aload_n k_Model_pitch_0 rfl ?_
    refine v_iload_n k_Model_pitch_1 rfl ?_
    refine v_callVr mo_Model_isNoNote mi_Model_isNoNote mv_Model_isNoNote lk_Model_137 k_Model_pitch_2 ho rfl rfl (Nat.le_of_ble_eq_true rfl) rfl (Nat.le_of_ble_eq_true rfl) ((by have q := c_Model_isNoNote G ho ha hk wv hn; rw [if_neg hc] at q; exact q)) ?_
    refine v_ifeq 16 k_Model_pitch_5 rfl (by omega) (fun cd5 => ?_) (fun cd5 => ?_)
    · refine v_aload_n k_Model_pitch_16 rfl ?_
      refine v_bipush k_Model_pitch_17 (by decide) ?_
      refine v_iload_n k_Model_pitch_19 rfl ?_
      refine v_iadd k_Model_pitch_20 ?_
      refine v_iload_n k_Model_pitch_21 rfl ?_
      refine v_iconst k_Model_pitch_22 ?_
      refine v_bipush k_Model_pitch_23 (by decide) ?_
      refine v_callV mo_Model_become mi_Model_become mv_Model_become lk_Model_144 k_Model_pitch_25 ho rfl rfl (Nat.le_of_ble_eq_true rfl) rfl (Nat.le_of_ble_eq_true rfl) (c_Model_become G hp w ha hl (by omega) hx (by decide) (by decide)) (fun v25 h25 q25 => ?_)
      obtain ⟨g1, rfl, g2, g3⟩ | ⟨g1, rfl, g2, f9⟩ := q25
      · refine v_ireturn k_Model_pitch_28 rfl rfl ?_
        first
          | (exfalso; omega)
          | exact fin3 (by unfold s_pitch; (repeat (first | rw [if_pos (by omega)] | rw [if_neg (by omega)])); try rfl) g2 g3
      · rw [hk.p (x := n) (by omega)]
        refine v_ireturn k_Model_pitch_28 rfl rfl ?_
        first
          | (exfalso; omega)
          | exact fin3 (S' := wK_ S (setP (nK S) n x)) (by unfold s_pitch; (repeat (first | rw [if_pos (by omega)] | rw [if_neg (by omega)])); try rfl) ⟨X, _, ⟨fp, sn, f9.at ho (by omega), f9.at hs (by omega), hsl⟩, rf, th, be, tl, fd, rw_, ⟨f9.at c1 (by omega), g2, f9.at c3 (by omega), f9.at c4 (by omega), f9.at c5 (by omega), f9.at c6 (by omega), f9.at c7 (by omega), f9.at c8 (by omega), f9.at c10 (by omega)⟩, ⟨x1, x2, x3⟩, ⟨l1, l3, l4, l5, l8, l10⟩, nowR_setP hk hc (by omega), hth, htl, hrw, hrf⟩ (f9.wd (by omega) (by omega))
    · refine v_aload_n k_Model_pitch_8 rfl ?_
      refine v_iconst k_Model_pitch_9 ?_
      refine v_callV mo_Model_no mi_Model_no mv_Model_no lk_Model_49 k_Model_pitch_10 ho rfl rfl (Nat.le_of_ble_eq_true rfl) rfl (Nat.le_of_ble_eq_true rfl) (c_Model_no G hp w (by omega)) (fun v10 h10 q10 => ?_)
      obtain ⟨rfl, p9, f9⟩ := q10
      refine v_goto k_Model_pitch_13 (tgt := 28) rfl ?_
      refine v_ireturn k_Model_pitch_28 rfl rfl ?_
      first
        | (exfalso; omega)
        | exact fin3 (by unfold s_pitch; (repeat (first | rw [if_pos (by omega)] | rw [if_neg (by omega)])); try rfl) p9 (f9.wd (by omega) (by omega))
        | exact fin3 (by unfold s_pitch; (repeat (first | rw [if_pos (by omega)] | rw [if_neg (by omega)])); try rfl) hp Fr.rf

set_option maxHeartbeats 4000000 in
set_option maxRecDepth 20000 in
theorem c_Model_enter (G : Gx) {h : AH} {m : Nat} {S : St} (hp : pMS h m S) (w : wSt S) {n x : Int} (hn : InR n) (hx : InR x) : Ct G Y_Model_enter 2 0 0 [aR m, aI n, aI x] h (fun v h' => v = some (aI (s_enter S n x).1) ∧ pMS h' m (s_enter S n x).2 ∧ Fr m (m + 11) h h') := by
  obtain ⟨X, a, ⟨fp, sn, ho, hs, hsl⟩, rf, th, be, tl, fd, rw_, ⟨c1, ha, c3, c4, c5, c6, c7, c8, c10⟩, ⟨x1, x2, x3⟩, ⟨l1, l3, l4, l5, l8, l10⟩, hk, hth, htl, hrw, hrf⟩ := id hp
  obtain ⟨w1, w2, w3, w4, w5, w6, w7, w8⟩ := id w
  have wv : vK (nK S) 13 6 := ⟨w1.1, by have := w1.2.1; omega, w1.2.2⟩
  have wu := wv.up (by decide) (by decide)
  have hl := hk.1
  have hn12 := w1.2.1
  have hv6 := w1.2.2.2.2.2.1
  have ho_ := oS_spec x 0 60
  refine Ct.of_V mo_Model_enter rfl (Nat.le_of_ble_eq_true rfl) rfl ?_
  by_cases hc : 0 ≤ n ∧ n < (kK (nK S)).length
  · skip
    refine v_aload_n k_Model_enter_0 rfl ?_
    refine v_iload_n k_Model_enter_1 rfl ?_
    refine v_callVr mo_Model_isNoVoice mi_Model_isNoVoice mv_Model_isNoVoice lk_Model_141 k_Model_enter_2 ho rfl rfl (Nat.le_of_ble_eq_true rfl) rfl (Nat.le_of_ble_eq_true rfl) ((by have q := c_Model_isNoVoice G ho ha hk wv hn; rw [if_pos hc] at q; exact q)) ?_
    refine v_ifeq 16 k_Model_enter_5 rfl (by omega) (fun cd5 => ?_) (fun cd5 => ?_)
    · refine v_aload_n k_Model_enter_16 rfl ?_
      refine v_bipush k_Model_enter_17 (by decide) ?_
      refine v_iload_n k_Model_enter_19 rfl ?_
      refine v_iadd k_Model_enter_20 ?_
      refine v_iload_n k_Model_enter_21 rfl ?_
      refine v_iconst k_Model_enter_22 ?_
      refine v_bipush k_Model_enter_23 (by decide) ?_
      refine v_callV mo_Model_become mi_Model_become mv_Model_become lk_Model_144 k_Model_enter_25 ho rfl rfl (Nat.le_of_ble_eq_true rfl) rfl (Nat.le_of_ble_eq_true rfl) (c_Model_become G hp w ha hl (by omega) hx (by decide) (by decide)) (fun v25 h25 q25 => ?_)
      obtain ⟨g1, rfl, g2, g3⟩ | ⟨g1, rfl, g2, f9⟩ := q25
      · refine v_ireturn k_Model_enter_28 rfl rfl ?_
        first
          | (exfalso; omega)
          | exact fin3 (by unfold s_enter; (repeat (first | rw [if_pos (by omega)] | rw [if_neg (by omega)])); try rfl) g2 g3
      · rw [hk.e (x := n) (by omega)]
        refine v_ireturn k_Model_enter_28 rfl rfl ?_
        first
          | (exfalso; omega)
          | exact fin3 (S' := wK_ S (setE (nK S) n x)) (by unfold s_enter; (repeat (first | rw [if_pos (by omega)] | rw [if_neg (by omega)])); try rfl) ⟨X, _, ⟨fp, sn, f9.at ho (by omega), f9.at hs (by omega), hsl⟩, rf, th, be, tl, fd, rw_, ⟨f9.at c1 (by omega), g2, f9.at c3 (by omega), f9.at c4 (by omega), f9.at c5 (by omega), f9.at c6 (by omega), f9.at c7 (by omega), f9.at c8 (by omega), f9.at c10 (by omega)⟩, ⟨x1, x2, x3⟩, ⟨l1, l3, l4, l5, l8, l10⟩, nowR_setE hk hc (by omega) (by omega) w1.2.2.2.2.2.2.1, hth, htl, hrw, hrf⟩ (f9.wd (by omega) (by omega))
    · refine v_aload_n k_Model_enter_8 rfl ?_
      refine v_iconst k_Model_enter_9 ?_
      refine v_callV mo_Model_no mi_Model_no mv_Model_no lk_Model_49 k_Model_enter_10 ho rfl rfl (Nat.le_of_ble_eq_true rfl) rfl (Nat.le_of_ble_eq_true rfl) (c_Model_no G hp w (by omega)) (fun v10 h10 q10 => ?_)
      obtain ⟨rfl, p9, f9⟩ := q10
      refine v_goto k_Model_enter_13 (tgt := 28) rfl ?_
      refine v_ireturn k_Model_enter_28 rfl rfl ?_
      first
        | (exfalso; omega)
        | exact fin3 (by unfold s_enter; (repeat (first | rw [if_pos (by omega)] | rw [if_neg (by omega)])); try rfl) p9 (f9.wd (by omega) (by omega))
        | exact fin3 (by unfold s_enter; (repeat (first | rw [if_pos (by omega)] | rw [if_neg (by omega)])); try rfl) hp Fr.rf
  · skip
    refine v_aload_n k_Model_enter_0 rfl ?_
    refine v_iload_n k_Model_enter_1 rfl ?_
    refine v_callVr mo_Model_isNoVoice mi_Model_isNoVoice mv_Model_isNoVoice lk_Model_141 k_Model_enter_2 ho rfl rfl (Nat.le_of_ble_eq_true rfl) rfl (Nat.le_of_ble_eq_true rfl) ((by have q := c_Model_isNoVoice G ho ha hk wv hn; rw [if_neg hc] at q; exact q)) ?_
    refine v_ifeq 16 k_Model_enter_5 rfl (by omega) (fun cd5 => ?_) (fun cd5 => ?_)
    · refine v_aload_n k_Model_enter_16 rfl ?_
      refine v_bipush k_Model_enter_17 (by decide) ?_
      refine v_iload_n k_Model_enter_19 rfl ?_
      refine v_iadd k_Model_enter_20 ?_
      refine v_iload_n k_Model_enter_21 rfl ?_
      refine v_iconst k_Model_enter_22 ?_
      refine v_bipush k_Model_enter_23 (by decide) ?_
      refine v_callV mo_Model_become mi_Model_become mv_Model_become lk_Model_144 k_Model_enter_25 ho rfl rfl (Nat.le_of_ble_eq_true rfl) rfl (Nat.le_of_ble_eq_true rfl) (c_Model_become G hp w ha hl (by omega) hx (by decide) (by decide)) (fun v25 h25 q25 => ?_)
      obtain ⟨g1, rfl, g2, g3⟩ | ⟨g1, rfl, g2, f9⟩ := q25
      · refine v_ireturn k_Model_enter_28 rfl rfl ?_
        first
          | (exfalso; omega)
          | exact fin3 (by unfold s_enter; (repeat (first | rw [if_pos (by omega)] | rw [if_neg (by omega)])); try rfl) g2 g3
      · rw [hk.e (x := n) (by omega)]
        refine v_ireturn k_Model_enter_28 rfl rfl ?_
        first
          | (exfalso; omega)
          | exact fin3 (S' := wK_ S (setE (nK S) n x)) (by unfold s_enter; (repeat (first | rw [if_pos (by omega)] | rw [if_neg (by omega)])); try rfl) ⟨X, _, ⟨fp, sn, f9.at ho (by omega), f9.at hs (by omega), hsl⟩, rf, th, be, tl, fd, rw_, ⟨f9.at c1 (by omega), g2, f9.at c3 (by omega), f9.at c4 (by omega), f9.at c5 (by omega), f9.at c6 (by omega), f9.at c7 (by omega), f9.at c8 (by omega), f9.at c10 (by omega)⟩, ⟨x1, x2, x3⟩, ⟨l1, l3, l4, l5, l8, l10⟩, nowR_setE hk hc (by omega) (by omega) w1.2.2.2.2.2.2.1, hth, htl, hrw, hrf⟩ (f9.wd (by omega) (by omega))
    · refine v_aload_n k_Model_enter_8 rfl ?_
      refine v_iconst k_Model_enter_9 ?_
      refine v_callV mo_Model_no mi_Model_no mv_Model_no lk_Model_49 k_Model_enter_10 ho rfl rfl (Nat.le_of_ble_eq_true rfl) rfl (Nat.le_of_ble_eq_true rfl) (c_Model_no G hp w (by omega)) (fun v10 h10 q10 => ?_)
      obtain ⟨rfl, p9, f9⟩ := q10
      refine v_goto k_Model_enter_13 (tgt := 28) rfl ?_
      refine v_ireturn k_Model_enter_28 rfl rfl ?_
      first
        | (exfalso; omega)
        | exact fin3 (by unfold s_enter; (repeat (first | rw [if_pos (by omega)] | rw [if_neg (by omega)])); try rfl) p9 (f9.wd (by omega) (by omega))
        | exact fin3 (by unfold s_enter; (repeat (first | rw [if_pos (by omega)] | rw [if_neg (by omega)])); try rfl) hp Fr.rf

set_option maxHeartbeats 4000000 in
set_option maxRecDepth 20000 in
theorem c_Model_rounds (G : Gx) {h : AH} {m : Nat} {S : St} (hp : pMS h m S) (w : wSt S) {x : Int} (hx : InR x) : Ct G Y_Model_rounds 2 0 0 [aR m, aI x] h (fun v h' => v = some (aI (s_rounds S x).1) ∧ pMS h' m (s_rounds S x).2 ∧ Fr m (m + 11) h h') := by
  obtain ⟨X, a, ⟨fp, sn, ho, hs, hsl⟩, rf, th, be, tl, fd, rw_, ⟨c1, ha, c3, c4, c5, c6, c7, c8, c10⟩, ⟨x1, x2, x3⟩, ⟨l1, l3, l4, l5, l8, l10⟩, hk, hth, htl, hrw, hrf⟩ := id hp
  obtain ⟨w1, w2, w3, w4, w5, w6, w7, w8⟩ := id w
  have wv : vK (nK S) 13 6 := ⟨w1.1, by have := w1.2.1; omega, w1.2.2⟩
  have wu := wv.up (by decide) (by decide)
  have hl := hk.1
  have hn12 := w1.2.1
  have hv6 := w1.2.2.2.2.2.1
  have ho_ := oS_spec x 1 4
  refine Ct.of_V mo_Model_rounds rfl (Nat.le_of_ble_eq_true rfl) rfl ?_
  refine v_aload_n k_Model_rounds_0 rfl ?_
  refine v_iconst k_Model_rounds_1 ?_
  refine v_iload_n k_Model_rounds_2 rfl ?_
  refine v_iconst k_Model_rounds_3 ?_
  refine v_iconst k_Model_rounds_4 ?_
  refine v_callV mo_Model_become mi_Model_become mv_Model_become lk_Model_144 k_Model_rounds_5 ho rfl rfl (Nat.le_of_ble_eq_true rfl) rfl (Nat.le_of_ble_eq_true rfl) (c_Model_become G hp w ha hl (by omega) hx (by decide) (by decide)) (fun v5 h5 q5 => ?_)
  obtain ⟨g1, rfl, g2, g3⟩ | ⟨g1, rfl, g2, f9⟩ := q5
  · refine v_ireturn k_Model_rounds_8 rfl rfl ?_
    first
      | (exfalso; omega)
      | exact fin3 (by unfold s_rounds; (repeat (first | rw [if_pos (by omega)] | rw [if_neg (by omega)])); try rfl) g2 g3
  · rw [hk.n2]
    refine v_ireturn k_Model_rounds_8 rfl rfl ?_
    first
      | (exfalso; omega)
      | exact fin3 (S' := wK_ S (setR (nK S) x)) (by unfold s_rounds; (repeat (first | rw [if_pos (by omega)] | rw [if_neg (by omega)])); try rfl) ⟨X, _, ⟨fp, sn, f9.at ho (by omega), f9.at hs (by omega), hsl⟩, rf, th, be, tl, fd, rw_, ⟨f9.at c1 (by omega), g2, f9.at c3 (by omega), f9.at c4 (by omega), f9.at c5 (by omega), f9.at c6 (by omega), f9.at c7 (by omega), f9.at c8 (by omega), f9.at c10 (by omega)⟩, ⟨x1, x2, x3⟩, ⟨l1, l3, l4, l5, l8, l10⟩, nowR_setR hk (by omega) (by omega), hth, htl, hrw, hrf⟩ (f9.wd (by omega) (by omega))

set_option maxHeartbeats 4000000 in
set_option maxRecDepth 20000 in
theorem c_Model_step (G : Gx) {h : AH} {m : Nat} {S : St} (hp : pMS h m S) (w : wSt S) {x : Int} (hx : InR x) : Ct G Y_Model_step 2 0 0 [aR m, aI x] h (fun v h' => v = some (aI (s_step S x).1) ∧ pMS h' m (s_step S x).2 ∧ Fr m (m + 11) h h') := by
  obtain ⟨X, a, ⟨fp, sn, ho, hs, hsl⟩, rf, th, be, tl, fd, rw_, ⟨c1, ha, c3, c4, c5, c6, c7, c8, c10⟩, ⟨x1, x2, x3⟩, ⟨l1, l3, l4, l5, l8, l10⟩, hk, hth, htl, hrw, hrf⟩ := id hp
  obtain ⟨w1, w2, w3, w4, w5, w6, w7, w8⟩ := id w
  have wv : vK (nK S) 13 6 := ⟨w1.1, by have := w1.2.1; omega, w1.2.2⟩
  have wu := wv.up (by decide) (by decide)
  have hl := hk.1
  have hn12 := w1.2.1
  have hv6 := w1.2.2.2.2.2.1
  have ho_ := oS_spec x 0 2
  refine Ct.of_V mo_Model_step rfl (Nat.le_of_ble_eq_true rfl) rfl ?_
  refine v_aload_n k_Model_step_0 rfl ?_
  refine v_iconst k_Model_step_1 ?_
  refine v_iload_n k_Model_step_2 rfl ?_
  refine v_iconst k_Model_step_3 ?_
  refine v_iconst k_Model_step_4 ?_
  refine v_callV mo_Model_become mi_Model_become mv_Model_become lk_Model_144 k_Model_step_5 ho rfl rfl (Nat.le_of_ble_eq_true rfl) rfl (Nat.le_of_ble_eq_true rfl) (c_Model_become G hp w ha hl (by omega) hx (by decide) (by decide)) (fun v5 h5 q5 => ?_)
  obtain ⟨g1, rfl, g2, g3⟩ | ⟨g1, rfl, g2, f9⟩ := q5
  · refine v_ireturn k_Model_step_8 rfl rfl ?_
    first
      | (exfalso; omega)
      | exact fin3 (by unfold s_step; (repeat (first | rw [if_pos (by omega)] | rw [if_neg (by omega)])); try rfl) g2 g3
  · rw [hk.n3]
    refine v_ireturn k_Model_step_8 rfl rfl ?_
    first
      | (exfalso; omega)
      | exact fin3 (S' := wK_ S (setS (nK S) x)) (by unfold s_step; (repeat (first | rw [if_pos (by omega)] | rw [if_neg (by omega)])); try rfl) ⟨X, _, ⟨fp, sn, f9.at ho (by omega), f9.at hs (by omega), hsl⟩, rf, th, be, tl, fd, rw_, ⟨f9.at c1 (by omega), g2, f9.at c3 (by omega), f9.at c4 (by omega), f9.at c5 (by omega), f9.at c6 (by omega), f9.at c7 (by omega), f9.at c8 (by omega), f9.at c10 (by omega)⟩, ⟨x1, x2, x3⟩, ⟨l1, l3, l4, l5, l8, l10⟩, nowR_setS hk (by omega) (by omega), hth, htl, hrw, hrf⟩ (f9.wd (by omega) (by omega))

set_option maxHeartbeats 4000000 in
set_option maxRecDepth 20000 in
theorem c_Model_law (G : Gx) {h : AH} {m : Nat} {S : St} (hp : pMS h m S) (w : wSt S) {x : Int} (hx : InR x) : Ct G Y_Model_law 2 0 0 [aR m, aI x] h (fun v h' => v = some (aI (s_law S x).1) ∧ pMS h' m (s_law S x).2 ∧ Fr m (m + 11) h h') := by
  obtain ⟨X, a, ⟨fp, sn, ho, hs, hsl⟩, rf, th, be, tl, fd, rw_, ⟨c1, ha, c3, c4, c5, c6, c7, c8, c10⟩, ⟨x1, x2, x3⟩, ⟨l1, l3, l4, l5, l8, l10⟩, hk, hth, htl, hrw, hrf⟩ := id hp
  obtain ⟨w1, w2, w3, w4, w5, w6, w7, w8⟩ := id w
  have wv : vK (nK S) 13 6 := ⟨w1.1, by have := w1.2.1; omega, w1.2.2⟩
  have wu := wv.up (by decide) (by decide)
  have hl := hk.1
  have hn12 := w1.2.1
  have hv6 := w1.2.2.2.2.2.1
  have ho_ := oS_spec x 0 127
  refine Ct.of_V mo_Model_law rfl (Nat.le_of_ble_eq_true rfl) rfl ?_
  refine v_aload_n k_Model_law_0 rfl ?_
  refine v_iconst k_Model_law_1 ?_
  refine v_iload_n k_Model_law_2 rfl ?_
  refine v_iconst k_Model_law_3 ?_
  refine v_bipush k_Model_law_4 (by decide) ?_
  refine v_callV mo_Model_become mi_Model_become mv_Model_become lk_Model_144 k_Model_law_6 ho rfl rfl (Nat.le_of_ble_eq_true rfl) rfl (Nat.le_of_ble_eq_true rfl) (c_Model_become G hp w ha hl (by omega) hx (by decide) (by decide)) (fun v6 h6 q6 => ?_)
  obtain ⟨g1, rfl, g2, g3⟩ | ⟨g1, rfl, g2, f9⟩ := q6
  · refine v_ireturn k_Model_law_9 rfl rfl ?_
    first
      | (exfalso; omega)
      | exact fin3 (by unfold s_law; (repeat (first | rw [if_pos (by omega)] | rw [if_neg (by omega)])); try rfl) g2 g3
  · rw [hk.n4]
    refine v_ireturn k_Model_law_9 rfl rfl ?_
    first
      | (exfalso; omega)
      | exact fin3 (S' := wK_ S (setW (nK S) x)) (by unfold s_law; (repeat (first | rw [if_pos (by omega)] | rw [if_neg (by omega)])); try rfl) ⟨X, _, ⟨fp, sn, f9.at ho (by omega), f9.at hs (by omega), hsl⟩, rf, th, be, tl, fd, rw_, ⟨f9.at c1 (by omega), g2, f9.at c3 (by omega), f9.at c4 (by omega), f9.at c5 (by omega), f9.at c6 (by omega), f9.at c7 (by omega), f9.at c8 (by omega), f9.at c10 (by omega)⟩, ⟨x1, x2, x3⟩, ⟨l1, l3, l4, l5, l8, l10⟩, nowR_setW hk (by omega) (by omega), hth, htl, hrw, hrf⟩ (f9.wd (by omega) (by omega))

set_option maxHeartbeats 4000000 in
set_option maxRecDepth 20000 in
theorem c_Model_voice (G : Gx) {h : AH} {m : Nat} {S : St} (hp : pMS h m S) (w : wSt S) {n x : Int} (hn : InR n) (hx : InR x) : Ct G Y_Model_voice 4 0 0 [aR m, aI n, aI x] h (fun v h' => v = some (aI (s_voice S n x).1) ∧ pMS h' m (s_voice S n x).2 ∧ Fr m (m + 11) h h') := by
  obtain ⟨X, a, ⟨fp, sn, ho, hs, hsl⟩, rf, th, be, tl, fd, rw_, ⟨c1, ha, c3, c4, c5, c6, c7, c8, c10⟩, ⟨x1, x2, x3⟩, ⟨l1, l3, l4, l5, l8, l10⟩, hk, hth, htl, hrw, hrf⟩ := id hp
  obtain ⟨w1, w2, w3, w4, w5, w6, w7, w8⟩ := id w
  have wv : vK (nK S) 13 6 := ⟨w1.1, by have := w1.2.1; omega, w1.2.2⟩
  have wu := wv.up (by decide) (by decide)
  have hl := hk.1
  have hn12 := w1.2.1
  have hv6 := w1.2.2.2.2.2.1
  refine Ct.of_V mo_Model_voice rfl (Nat.le_of_ble_eq_true rfl) rfl ?_
  by_cases hc : 0 ≤ n ∧ n < (kK (nK S)).length
  · skip
    refine v_aload_n k_Model_voice_0 rfl ?_
    refine v_iload_n k_Model_voice_1 rfl ?_
    refine v_callVr mo_Model_isNoVoice mi_Model_isNoVoice mv_Model_isNoVoice lk_Model_141 k_Model_voice_2 ho rfl rfl (Nat.le_of_ble_eq_true rfl) rfl (Nat.le_of_ble_eq_true rfl) ((by have q := c_Model_isNoVoice G ho ha hk wv hn; rw [if_pos hc] at q; exact q)) ?_
    refine v_ifeq 14 k_Model_voice_5 rfl (by omega) (fun cd5 => ?_) (fun cd5 => ?_)
    · refine v_iload_n k_Model_voice_14 rfl ?_
      by_cases g0 : x = 0
      · rw [g0]
        refine v_tableIn 48 k_Model_voice_15 (by decide) (by decide) (by decide) (off := 33) rfl rfl ?_
        refine v_aload_n k_Model_voice_48 rfl ?_
        refine v_getf fl_Model_13 ho rfl k_Model_voice_49 ?_
        refine v_bipush k_Model_voice_52 (by decide) ?_
        refine v_iload_n k_Model_voice_54 rfl ?_
        refine v_iadd k_Model_voice_55 ?_
        refine v_iald ha (by omega) (by omega) k_Model_voice_56 ?_
        rw [hk.k (x := n) (by omega)]
        refine v_ireturn k_Model_voice_57 rfl rfl ?_
        first
          | (exfalso; omega)
          | exact fin3 (by unfold s_voice; (repeat (first | rw [if_pos (by omega)] | rw [if_neg (by omega)])); try rfl) p9 (f9.wd (by omega) (by omega))
          | exact fin3 (by unfold s_voice; (repeat (first | rw [if_pos (by omega)] | rw [if_neg (by omega)])); try rfl) hp Fr.rf
      by_cases g1 : x = 1
      · rw [g1]
        refine v_tableIn 58 k_Model_voice_15 (by decide) (by decide) (by decide) (off := 43) rfl rfl ?_
        refine v_aload_n k_Model_voice_58 rfl ?_
        refine v_getf fl_Model_13 ho rfl k_Model_voice_59 ?_
        refine v_bipush k_Model_voice_62 (by decide) ?_
        refine v_iload_n k_Model_voice_64 rfl ?_
        refine v_iadd k_Model_voice_65 ?_
        refine v_iald ha (by omega) (by omega) k_Model_voice_66 ?_
        rw [hk.e (x := n) (by omega)]
        refine v_ireturn k_Model_voice_67 rfl rfl ?_
        first
          | (exfalso; omega)
          | exact fin3 (by unfold s_voice; (repeat (first | rw [if_pos (by omega)] | rw [if_neg (by omega)])); try rfl) p9 (f9.wd (by omega) (by omega))
          | exact fin3 (by unfold s_voice; (repeat (first | rw [if_pos (by omega)] | rw [if_neg (by omega)])); try rfl) hp Fr.rf
      by_cases g2 : x = 2
      · rw [g2]
        refine v_tableIn 68 k_Model_voice_15 (by decide) (by decide) (by decide) (off := 53) rfl rfl ?_
        refine v_aload_n k_Model_voice_68 rfl ?_
        refine v_getf fl_Model_13 ho rfl k_Model_voice_69 ?_
        refine v_bipush k_Model_voice_72 (by decide) ?_
        refine v_iload_n k_Model_voice_74 rfl ?_
        refine v_iadd k_Model_voice_75 ?_
        refine v_iald ha (by omega) (by omega) k_Model_voice_76 ?_
        rw [hk.h (x := n) (by omega)]
        refine v_ireturn k_Model_voice_77 rfl rfl ?_
        first
          | (exfalso; omega)
          | exact fin3 (by unfold s_voice; (repeat (first | rw [if_pos (by omega)] | rw [if_neg (by omega)])); try rfl) p9 (f9.wd (by omega) (by omega))
          | exact fin3 (by unfold s_voice; (repeat (first | rw [if_pos (by omega)] | rw [if_neg (by omega)])); try rfl) hp Fr.rf
      by_cases g3 : x = 3
      · rw [g3]
        refine v_tableIn 78 k_Model_voice_15 (by decide) (by decide) (by decide) (off := 63) rfl rfl ?_
        refine v_aload_n k_Model_voice_78 rfl ?_
        refine v_aload_n k_Model_voice_79 rfl ?_
        refine v_getf fl_Model_13 ho rfl k_Model_voice_80 ?_
        refine v_bipush k_Model_voice_83 (by decide) ?_
        refine v_iload_n k_Model_voice_85 rfl ?_
        refine v_iadd k_Model_voice_86 ?_
        refine v_iald ha (by omega) (by omega) k_Model_voice_87 ?_
        rw [hk.k (x := n) (by omega)]
        refine v_callVr mo_Model_roundOf mi_Model_roundOf mv_Model_roundOf lk_Model_100 k_Model_voice_88 ho rfl rfl (Nat.le_of_ble_eq_true rfl) rfl (Nat.le_of_ble_eq_true rfl) (c_Model_roundOf G ho ha hk wv (wu.kd n)) ?_
        refine v_ireturn k_Model_voice_91 rfl rfl ?_
        first
          | (exfalso; omega)
          | exact fin3 (by unfold s_voice; (repeat (first | rw [if_pos (by omega)] | rw [if_neg (by omega)])); try rfl) p9 (f9.wd (by omega) (by omega))
          | exact fin3 (by unfold s_voice; (repeat (first | rw [if_pos (by omega)] | rw [if_neg (by omega)])); try rfl) hp Fr.rf
      by_cases g4 : x = 4
      · rw [g4]
        refine v_tableIn 92 k_Model_voice_15 (by decide) (by decide) (by decide) (off := 77) rfl rfl ?_
        refine v_aload_n k_Model_voice_92 rfl ?_
        refine v_iload_n k_Model_voice_93 rfl ?_
        refine v_callVr mo_Model_endOf mi_Model_endOf mv_Model_endOf lk_Model_111 k_Model_voice_94 ho rfl rfl (Nat.le_of_ble_eq_true rfl) rfl (Nat.le_of_ble_eq_true rfl) (c_Model_endOf G ho ha hk wv (v := n) (by omega)) ?_
        refine v_ireturn k_Model_voice_97 rfl rfl ?_
        first
          | (exfalso; omega)
          | exact fin3 (by unfold s_voice; (repeat (first | rw [if_pos (by omega)] | rw [if_neg (by omega)])); try rfl) p9 (f9.wd (by omega) (by omega))
          | exact fin3 (by unfold s_voice; (repeat (first | rw [if_pos (by omega)] | rw [if_neg (by omega)])); try rfl) hp Fr.rf
      refine v_tableOut 98 k_Model_voice_15 hx (by omega) rfl ?_
      refine v_aload_n k_Model_voice_98 rfl ?_
      refine v_bipush k_Model_voice_99 (by decide) ?_
      refine v_callV mo_Model_no mi_Model_no mv_Model_no lk_Model_49 k_Model_voice_101 ho rfl rfl (Nat.le_of_ble_eq_true rfl) rfl (Nat.le_of_ble_eq_true rfl) (c_Model_no G hp w (by omega)) (fun v101 h101 q101 => ?_)
      obtain ⟨rfl, p9, f9⟩ := q101
      refine v_ireturn k_Model_voice_104 rfl rfl ?_
      first
        | (exfalso; omega)
        | exact fin3 (by unfold s_voice; (repeat (first | rw [if_pos (by omega)] | rw [if_neg (by omega)])); try rfl) p9 (f9.wd (by omega) (by omega))
        | exact fin3 (by unfold s_voice; (repeat (first | rw [if_pos (by omega)] | rw [if_neg (by omega)])); try rfl) hp Fr.rf
    · refine v_aload_n k_Model_voice_8 rfl ?_
      refine v_iconst k_Model_voice_9 ?_
      refine v_callV mo_Model_no mi_Model_no mv_Model_no lk_Model_49 k_Model_voice_10 ho rfl rfl (Nat.le_of_ble_eq_true rfl) rfl (Nat.le_of_ble_eq_true rfl) (c_Model_no G hp w (by omega)) (fun v10 h10 q10 => ?_)
      obtain ⟨rfl, p9, f9⟩ := q10
      refine v_ireturn k_Model_voice_13 rfl rfl ?_
      exfalso; omega
  · skip
    refine v_aload_n k_Model_voice_0 rfl ?_
    refine v_iload_n k_Model_voice_1 rfl ?_
    refine v_callVr mo_Model_isNoVoice mi_Model_isNoVoice mv_Model_isNoVoice lk_Model_141 k_Model_voice_2 ho rfl rfl (Nat.le_of_ble_eq_true rfl) rfl (Nat.le_of_ble_eq_true rfl) ((by have q := c_Model_isNoVoice G ho ha hk wv hn; rw [if_neg hc] at q; exact q)) ?_
    refine v_ifeq 14 k_Model_voice_5 rfl (by omega) (fun cd5 => ?_) (fun cd5 => ?_)
    · exfalso; omega
    · refine v_aload_n k_Model_voice_8 rfl ?_
      refine v_iconst k_Model_voice_9 ?_
      refine v_callV mo_Model_no mi_Model_no mv_Model_no lk_Model_49 k_Model_voice_10 ho rfl rfl (Nat.le_of_ble_eq_true rfl) rfl (Nat.le_of_ble_eq_true rfl) (c_Model_no G hp w (by omega)) (fun v10 h10 q10 => ?_)
      obtain ⟨rfl, p9, f9⟩ := q10
      refine v_ireturn k_Model_voice_13 rfl rfl ?_
      first
        | (exfalso; omega)
        | exact fin3 (by unfold s_voice; (repeat (first | rw [if_pos (by omega)] | rw [if_neg (by omega)])); try rfl) p9 (f9.wd (by omega) (by omega))
        | exact fin3 (by unfold s_voice; (repeat (first | rw [if_pos (by omega)] | rw [if_neg (by omega)])); try rfl) hp Fr.rf

set_option maxHeartbeats 4000000 in
set_option maxRecDepth 20000 in
theorem c_Model_mirror (G : Gx) {h : AH} {m : Nat} {S : St} (hp : pMS h m S) (w : wSt S) : Ct G Y_Model_mirror 2 0 0 [aR m] h (fun v h' => v = some (aI (t_mirror S).1) ∧ pMS h' m (t_mirror S).2 ∧ Fr m (m + 11) h h') := by
  obtain ⟨X, a, ⟨fp, sn, ho, hs, hsl⟩, rf, th, be, tl, fd, rw_, ⟨c1, ha, c3, c4, c5, c6, c7, c8, c10⟩, ⟨x1, x2, x3⟩, ⟨l1, l3, l4, l5, l8, l10⟩, hk, hth, htl, hrw, hrf⟩ := id hp
  obtain ⟨w1, w2, w3, w4, w5, w6, w7, w8⟩ := id w
  have wv : vK (nK S) 13 6 := ⟨w1.1, by have := w1.2.1; omega, w1.2.2⟩
  have wu := wv.up (by decide) (by decide)
  have hl := hk.1
  have hn12 := w1.2.1
  have hv6 := w1.2.2.2.2.2.1
  have hb37 := wu.bb
  refine Ct.of_V mo_Model_mirror rfl (Nat.le_of_ble_eq_true rfl) rfl ?_
  have loop : ∀ (k : Nat) (i : Nat), (bt (nK S) = i + k) → (mrM (nK S) k i = mrM (nK S) (bt (nK S)) 0) → V G Y_Model_mirror 2 0 0 7 [some (aR m), some (aI (bt (nK S) : Int)), some (aI (i : Int))] [] h (fun v h' => v = some (aI (t_mirror S).1) ∧ pMS h' m (t_mirror S).2 ∧ Fr m (m + 11) h h') := by
    intro k
    induction k with
    | zero =>
      intro i hi ht
      refine v_iload_n k_Model_mirror_7 rfl ?_
      refine v_iload_n k_Model_mirror_8 rfl ?_
      refine v_icge 37 k_Model_mirror_9 rfl (by omega) (by omega) (fun c9 => ?_) (fun c9 => ?_)
      · refine v_iconst k_Model_mirror_37 ?_
        refine v_ireturn k_Model_mirror_38 rfl rfl ?_
        have e : mrM (nK S) (bt (nK S)) 0 = true := by rw [← ht]; rfl
        exact fin3 (by unfold t_mirror; rw [e]; rfl) hp Fr.rf
      · exfalso; omega
    | succ k ih =>
      intro i hi ht
      refine v_iload_n k_Model_mirror_7 rfl ?_
      refine v_iload_n k_Model_mirror_8 rfl ?_
      refine v_icge 37 k_Model_mirror_9 rfl (by first | omega | (have := wu.pt (rget (nob (kL (nK S))) i); exact ⟨by unfold plT; omega, by unfold plT; omega⟩) | (have := wu.pt (rget (nob (kL (nK S))) ((bt (nK S) : Int) - 1 - i)); exact ⟨by unfold plT; omega, by unfold plT; omega⟩)) (by first | omega | (have := wu.pt (rget (nob (kL (nK S))) i); exact ⟨by unfold plT; omega, by unfold plT; omega⟩) | (have := wu.pt (rget (nob (kL (nK S))) ((bt (nK S) : Int) - 1 - i)); exact ⟨by unfold plT; omega, by unfold plT; omega⟩)) (fun cd9 => ?_) (fun cd9 => ?_)
      · refine v_iconst k_Model_mirror_37 ?_
        refine v_ireturn k_Model_mirror_38 rfl rfl ?_
        exfalso; omega
      · refine v_aload_n k_Model_mirror_12 rfl ?_
        refine v_iload_n k_Model_mirror_13 rfl ?_
        refine v_callVr mo_Model_plain mi_Model_plain mv_Model_plain lk_Model_97 k_Model_mirror_14 ho rfl rfl (Nat.le_of_ble_eq_true rfl) rfl (Nat.le_of_ble_eq_true rfl) (c_Model_plain G ho ha hk wv (j := (i : Int)) (by omega)) ?_
        refine v_aload_n k_Model_mirror_17 rfl ?_
        refine v_iload_n k_Model_mirror_18 rfl ?_
        refine v_iconst k_Model_mirror_19 ?_
        refine v_isub k_Model_mirror_20 ?_
        refine v_iload_n k_Model_mirror_21 rfl ?_
        refine v_isub k_Model_mirror_22 ?_
        refine v_callVr mo_Model_plain mi_Model_plain mv_Model_plain lk_Model_97 k_Model_mirror_23 ho rfl rfl (Nat.le_of_ble_eq_true rfl) rfl (Nat.le_of_ble_eq_true rfl) (c_Model_plain G ho ha hk wv (j := (bt (nK S) : Int) - 1 - i) (by omega)) ?_
        refine v_iceq 31 k_Model_mirror_26 rfl (by first | omega | (have := wu.pt (rget (nob (kL (nK S))) i); exact ⟨by unfold plT; omega, by unfold plT; omega⟩) | (have := wu.pt (rget (nob (kL (nK S))) ((bt (nK S) : Int) - 1 - i)); exact ⟨by unfold plT; omega, by unfold plT; omega⟩)) (by first | omega | (have := wu.pt (rget (nob (kL (nK S))) i); exact ⟨by unfold plT; omega, by unfold plT; omega⟩) | (have := wu.pt (rget (nob (kL (nK S))) ((bt (nK S) : Int) - 1 - i)); exact ⟨by unfold plT; omega, by unfold plT; omega⟩)) (fun cd26 => ?_) (fun cd26 => ?_)
        · refine v_iinc k_Model_mirror_31 rfl (Nat.le_of_ble_eq_true rfl) ?_
          refine v_goto k_Model_mirror_34 (tgt := 7) rfl ?_
          refine ih (i + 1) (by omega) ?_
          rw [← ht, mrM, if_pos cd26]
        · refine v_iconst k_Model_mirror_29 ?_
          refine v_ireturn k_Model_mirror_30 rfl rfl ?_
          have e : mrM (nK S) (bt (nK S)) 0 = false := by rw [← ht, mrM, if_neg cd26]
          exact fin3 (by unfold t_mirror; rw [e]; rfl) hp Fr.rf
  refine v_aload_n k_Model_mirror_0 rfl ?_
  refine v_callVr mo_Model_beats mi_Model_beats mv_Model_beats lk_Model_94 k_Model_mirror_1 ho rfl rfl (Nat.le_of_ble_eq_true rfl) rfl (Nat.le_of_ble_eq_true rfl) (c_Model_beats G ho ha hk wv) ?_
  refine v_istore_n k_Model_mirror_4 ⟨Nat.le_of_ble_eq_true rfl, Nat.le_of_ble_eq_true rfl⟩ ?_
  refine v_iconst k_Model_mirror_5 ?_
  refine v_istore_n k_Model_mirror_6 ⟨Nat.le_of_ble_eq_true rfl, Nat.le_of_ble_eq_true rfl⟩ ?_
  exact loop (bt (nK S)) 0 (by omega) rfl

set_option maxHeartbeats 4000000 in
set_option maxRecDepth 20000 in
theorem c_Model_ill (G : Gx) {h : AH} {m : Nat} {S : St} (hp : pMS h m S) (w : wSt S) {x : Int} (hx : InR x) : Ct G Y_Model_ill 6 0 0 [aR m, aI x] h (fun v h' => v = some (aI (t_ill S x).1) ∧ pMS h' m (t_ill S x).2 ∧ Fr m (m + 11) h h') := by
  obtain ⟨X, a, ⟨fp, sn, ho, hs, hsl⟩, rf, th, be, tl, fd, rw_, ⟨c1, ha, c3, c4, c5, c6, c7, c8, c10⟩, ⟨x1, x2, x3⟩, ⟨l1, l3, l4, l5, l8, l10⟩, hk, hth, htl, hrw, hrf⟩ := id hp
  obtain ⟨w1, w2, w3, w4, w5, w6, w7, w8⟩ := id w
  have wv : vK (nK S) 13 6 := ⟨w1.1, by have := w1.2.1; omega, w1.2.2⟩
  have wu := wv.up (by decide) (by decide)
  have hl := hk.1
  have hn12 := w1.2.1
  have hv6 := w1.2.2.2.2.2.1
  have ho_ := oS_spec x 0 400
  refine Ct.of_V mo_Model_ill rfl (Nat.le_of_ble_eq_true rfl) rfl ?_
  refine v_iload_n k_Model_ill_0 rfl ?_
  refine v_iconst k_Model_ill_1 ?_
  refine v_sipush k_Model_ill_2 (by decide) ?_
  refine v_callSr mo_Model_isWrong ms_Model_isWrong lk_Model_148 k_Model_ill_5 rfl (Nat.le_of_ble_eq_true rfl) rfl (Nat.le_of_ble_eq_true rfl) (c_Model_isWrong G (v := x) (l := 0) (m := 400) (by omega) (by omega) (by omega)) ?_
  refine v_ifeq 26 k_Model_ill_8 rfl (by omega) (fun cd8 => ?_) (fun cd8 => ?_)
  · refine v_aload_n k_Model_ill_26 rfl ?_
    refine v_iload_n k_Model_ill_27 rfl ?_
    refine v_bipush k_Model_ill_28 (by decide) ?_
    refine v_callV mo_Model_illAt mi_Model_illAt mv_Model_illAt lk_Model_134 k_Model_ill_30 ho rfl rfl (Nat.le_of_ble_eq_true rfl) rfl (Nat.le_of_ble_eq_true rfl) (c_Model_illAt G ho ha hs hsl hk wv (b := x) (wo := -9) (by omega) (by decide)) (fun v30 h30 q30 => ?_)
    obtain ⟨rfl, g1, ⟨sn2, g2, g3⟩, f2⟩ := q30
    refine v_ireturn k_Model_ill_33 rfl rfl ?_
    first
      | (exfalso; omega)
      | exact fin3 (by unfold t_ill; (repeat (first | rw [if_pos (by omega)] | rw [if_neg (by omega)])); try rfl) p9 (f9.wd (by omega) (by omega))
      | exact fin3 (by unfold t_ill; (repeat (first | rw [if_pos (by omega)] | rw [if_neg (by omega)])); try rfl) ⟨X, a, ⟨_, sn2, g1, g2, g3⟩, (show pQ h m S X a from ⟨rf, th, be, tl, fd, rw_, ⟨c1, ha, c3, c4, c5, c6, c7, c8, c10⟩, ⟨x1, x2, x3⟩, ⟨l1, l3, l4, l5, l8, l10⟩, hk, hth, htl, hrw, hrf⟩).fa f2⟩ f2.fr
      | exact fin3 (by unfold t_ill; (repeat (first | rw [if_pos (by omega)] | rw [if_neg (by omega)])); try rfl) hp Fr.rf
  · refine v_aload_n k_Model_ill_11 rfl ?_
    refine v_iload_n k_Model_ill_12 rfl ?_
    refine v_iconst k_Model_ill_13 ?_
    refine v_sipush k_Model_ill_14 (by decide) ?_
    refine v_callSr mo_Model_isWrong ms_Model_isWrong lk_Model_148 k_Model_ill_17 rfl (Nat.le_of_ble_eq_true rfl) rfl (Nat.le_of_ble_eq_true rfl) (c_Model_isWrong G (v := x) (l := 0) (m := 400) (by omega) (by omega) (by omega)) ?_
    refine v_callV mo_Model_no mi_Model_no mv_Model_no lk_Model_49 k_Model_ill_20 ho rfl rfl (Nat.le_of_ble_eq_true rfl) rfl (Nat.le_of_ble_eq_true rfl) (c_Model_no G hp w (by omega)) (fun v20 h20 q20 => ?_)
    obtain ⟨rfl, p9, f9⟩ := q20
    refine v_goto k_Model_ill_23 (tgt := 33) rfl ?_
    refine v_ireturn k_Model_ill_33 rfl rfl ?_
    first
      | (exfalso; omega)
      | exact fin3 (by unfold t_ill; (repeat (first | rw [if_pos (by omega)] | rw [if_neg (by omega)])); try rfl) p9 (f9.wd (by omega) (by omega))
      | exact fin3 (by unfold t_ill; (repeat (first | rw [if_pos (by omega)] | rw [if_neg (by omega)])); try rfl) ⟨X, a, ⟨_, sn2, g1, g2, g3⟩, (show pQ h m S X a from ⟨rf, th, be, tl, fd, rw_, ⟨c1, ha, c3, c4, c5, c6, c7, c8, c10⟩, ⟨x1, x2, x3⟩, ⟨l1, l3, l4, l5, l8, l10⟩, hk, hth, htl, hrw, hrf⟩).fa f2⟩ f2.fr
      | exact fin3 (by unfold t_ill; (repeat (first | rw [if_pos (by omega)] | rw [if_neg (by omega)])); try rfl) hp Fr.rf

set_option maxHeartbeats 4000000 in
set_option maxRecDepth 20000 in
theorem c_Model_allIll (G : Gx) {h : AH} {m : Nat} {S : St} (hp : pMS h m S) (w : wSt S) : Ct G Y_Model_allIll 7 0 0 [aR m] h (fun v h' => v = some (aI (t_allIll S).1) ∧ pMS h' m (t_allIll S).2 ∧ Fr m (m + 11) h h') := by
  obtain ⟨X, a, ⟨fp, sn, ho, hs, hsl⟩, rf, th, be, tl, fd, rw_, ⟨c1, ha, c3, c4, c5, c6, c7, c8, c10⟩, ⟨x1, x2, x3⟩, ⟨l1, l3, l4, l5, l8, l10⟩, hk, hth, htl, hrw, hrf⟩ := id hp
  obtain ⟨w1, w2, w3, w4, w5, w6, w7, w8⟩ := id w
  have wv : vK (nK S) 13 6 := ⟨w1.1, by have := w1.2.1; omega, w1.2.2⟩
  have wu := wv.up (by decide) (by decide)
  have hl := hk.1
  have hn12 := w1.2.1
  have hv6 := w1.2.2.2.2.2.1
  refine Ct.of_V mo_Model_allIll rfl (Nat.le_of_ble_eq_true rfl) rfl ?_
  refine v_aload_n k_Model_allIll_0 rfl ?_
  refine v_bipush k_Model_allIll_1 (by decide) ?_
  refine v_callV mo_Model_illAll mi_Model_illAll mv_Model_illAll lk_Model_152 k_Model_allIll_3 ho rfl rfl (Nat.le_of_ble_eq_true rfl) rfl (Nat.le_of_ble_eq_true rfl) (c_Model_illAll G (⟨fp, sn, ho, hs, hsl⟩ : pO h m X) ha hk wv (wo := -9) (by decide)) (fun v3 h3 q3 => ?_)
  obtain ⟨rfl, hO2, f2⟩ := q3
  refine v_ireturn k_Model_allIll_6 rfl rfl ?_
  exact fin3 (by unfold t_allIll; rfl) ⟨X, a, hO2, (show pQ h m S X a from ⟨rf, th, be, tl, fd, rw_, ⟨c1, ha, c3, c4, c5, c6, c7, c8, c10⟩, ⟨x1, x2, x3⟩, ⟨l1, l3, l4, l5, l8, l10⟩, hk, hth, htl, hrw, hrf⟩).fa f2⟩ f2.fr
