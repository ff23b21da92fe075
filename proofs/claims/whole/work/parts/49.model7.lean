def rMn (K : CK) (v : Int) : Nat → Int
  | 0 => 999
  | k + 1 => min (rMn K v k) (sO K v (rget (kE K) v + k))
def rMx (K : CK) (v : Int) : Nat → Int
  | 0 => -999
  | k + 1 => max (rMx K v k) (sO K v (rget (kE K) v + k))
theorem rMn_bd {K : CK} (w : wK K) (v : Int) : ∀ k, -999 ≤ rMn K v k ∧ rMn K v k ≤ 999
  | 0 => by show (-999 : Int) ≤ 999 ∧ (999 : Int) ≤ 999; decide
  | k + 1 => by
    have h1 := rMn_bd w v k
    have h2 := sO_bd w v (rget (kE K) v + k)
    show -999 ≤ min (rMn K v k) _ ∧ min (rMn K v k) _ ≤ 999
    omega
theorem rMx_bd {K : CK} (w : wK K) (v : Int) : ∀ k, -999 ≤ rMx K v k ∧ rMx K v k ≤ 999
  | 0 => by show (-999 : Int) ≤ -999 ∧ (-999 : Int) ≤ 999; decide
  | k + 1 => by
    have h1 := rMx_bd w v k
    have h2 := sO_bd w v (rget (kE K) v + k)
    show -999 ≤ max (rMx K v k) _ ∧ max (rMx K v k) _ ≤ 999
    omega
def t_range (S : St) (v w : Int) : Int × St := if ¬ (0 ≤ v ∧ v < (kK (nK S)).length) then lsS 1000000000 (rfS S (-1)) else if w < 0 ∨ w > 1 then lsS 1000000000 (rfS S (-2)) else if (kP (nK S)).length = 0 then (999, S) else (if w = 0 then rMn (nK S) v (q_stl (nK S) v - rget (kE (nK S)) v).toNat else rMx (nK S) v (q_stl (nK S) v - rget (kE (nK S)) v).toNat, S)
def uI (K : CK) (b i : Int) : Nat → Int → Int → Int
  | 0, _, s => s
  | k + 1, j, s => uI K b i k (j + 1) (if s ≠ 0 ∨ (sO K i b ≠ 999 ∧ sO K i b = sO K j b) then 1 else 0)
def uO (K : CK) (b : Int) : Nat → Int → Int → Int
  | 0, _, s => s
  | k + 1, i, s => uO K b k (i + 1) (uI K b i ((kK K).length - (i + 1)).toNat (i + 1) s)
def uS (K : CK) : Nat → Int
  | 0 => 0
  | n + 1 => uS K n + (if uO K n (kK K).length 0 0 ≠ 0 then 1 else 0)
def t_unison (S : St) : Int × St := (uS (nK S) (q_endK (nK S)).toNat, S)
set_option maxHeartbeats 4000000 in
set_option maxRecDepth 20000 in
theorem c_Model_range (G : Gx) {h : AH} {m : Nat} {S : St} (hp : pMS h m S) (w : wSt S) {n x : Int} (hn : InR n) (hx : InR x) : Ct G Y_Model_range 5 0 0 [aR m, aI n, aI x] h (fun v h' => v = some (aI (t_range S n x).1) ∧ pMS h' m (t_range S n x).2 ∧ Fr m (m + 11) h h') := by
  obtain ⟨X, a, ⟨fp, sn, ho, hs, hsl⟩, rf, th, be, tl, fd, rw_, ⟨c1, ha, c3, c4, c5, c6, c7, c8, c10⟩, ⟨x1, x2, x3⟩, ⟨l1, l3, l4, l5, l8, l10⟩, hk, hth, htl, hrw, hrf⟩ := id hp
  obtain ⟨w1, w2, w3, w4, w5, w6, w7, w8⟩ := id w
  have wv : vK (nK S) 13 6 := ⟨w1.1, by have := w1.2.1; omega, w1.2.2⟩
  have wu := wv.up (by decide) (by decide)
  have hl := hk.1
  have hn12 := w1.2.1
  have hv6 := w1.2.2.2.2.2.1
  have hst := wu.stl n
  have hen := wu.en n
  have hrr := wu.rr n
  have hdf : q_stl (nK S) n = rget (kE (nK S)) n + kR (nK S) * q_rB (nK S) n := rfl
  refine Ct.of_V mo_Model_range rfl (Nat.le_of_ble_eq_true rfl) rfl ?_
  by_cases hc : 0 ≤ n ∧ n < (kK (nK S)).length
  · skip
    refine v_aload_n k_Model_range_0 rfl ?_
    refine v_iload_n k_Model_range_1 rfl ?_
    refine v_callVr mo_Model_isNoVoice mi_Model_isNoVoice mv_Model_isNoVoice lk_Model_141 k_Model_range_2 ho rfl rfl (Nat.le_of_ble_eq_true rfl) rfl (Nat.le_of_ble_eq_true rfl) ((by have q := c_Model_isNoVoice G ho ha hk wv hn; rw [if_pos hc] at q; exact q)) ?_
    refine v_ifeq 17 k_Model_range_5 rfl (by omega) (fun cd5 => ?_) (fun cd5 => ?_)
    · refine v_iload_n k_Model_range_17 rfl ?_
      refine v_iflt 26 k_Model_range_18 rfl (by omega) (fun cd18 => ?_) (fun cd18 => ?_)
      · refine v_ldc (x := 1000000000) cn_Model_147 k_Model_range_26 (by decide) ?_
        refine v_aload_n k_Model_range_28 rfl ?_
        refine v_bipush k_Model_range_29 (by decide) ?_
        refine v_callV mo_Model_no mi_Model_no mv_Model_no lk_Model_49 k_Model_range_31 ho rfl rfl (Nat.le_of_ble_eq_true rfl) rfl (Nat.le_of_ble_eq_true rfl) (c_Model_no G hp w (by omega)) (fun v31 h31 q31 => ?_)
        obtain ⟨rfl, p9, f9⟩ := q31
        refine v_isub k_Model_range_34 ?_
        refine v_ireturn k_Model_range_35 rfl rfl ?_
        first
          | (exfalso; omega)
          | exact fin3 (by unfold t_range; (repeat (first | rw [if_pos (by omega)] | rw [if_neg (by omega)])); (try rfl)) p9 (f9.wd (by omega) (by omega))
          | exact fin3 (by unfold t_range; (repeat (first | rw [if_pos (by omega)] | rw [if_neg (by omega)])); (try rfl)) hp Fr.rf
      · refine v_iload_n k_Model_range_21 rfl ?_
        refine v_iconst k_Model_range_22 ?_
        refine v_icle 36 k_Model_range_23 rfl (by omega) (by omega) (fun cd23 => ?_) (fun cd23 => ?_)
        · refine v_aload_n k_Model_range_36 rfl ?_
          refine v_getf fl_Model_13 ho rfl k_Model_range_37 ?_
          refine v_iconst k_Model_range_40 ?_
          refine v_iald ha (by omega) (by omega) k_Model_range_41 ?_
          rw [hk.n0]
          refine v_ifne 49 k_Model_range_42 rfl (by omega) (fun cd42 => ?_) (fun cd42 => ?_)
          · refine v_sipush k_Model_range_49 (by decide) ?_
            refine v_istore_n k_Model_range_52 ⟨Nat.le_of_ble_eq_true rfl, Nat.le_of_ble_eq_true rfl⟩ ?_
            refine v_sipush k_Model_range_53 (by decide) ?_
            refine v_istore k_Model_range_56 ⟨Nat.le_of_ble_eq_true rfl, Nat.le_of_ble_eq_true rfl⟩ ?_
            refine v_aload_n k_Model_range_58 rfl ?_
            refine v_getf fl_Model_13 ho rfl k_Model_range_59 ?_
            refine v_bipush k_Model_range_62 (by decide) ?_
            refine v_iload_n k_Model_range_64 rfl ?_
            refine v_iadd k_Model_range_65 ?_
            refine v_iald ha (by omega) (by omega) k_Model_range_66 ?_
            rw [hk.e (x := n) hc]
            refine v_istore k_Model_range_67 ⟨Nat.le_of_ble_eq_true rfl, Nat.le_of_ble_eq_true rfl⟩ ?_
            have hx01 : 0 ≤ x ∧ x ≤ 1 := by omega
            have hz : ¬ (kP (nK S)).length = 0 := by omega
            have loop : ∀ (k : Nat) (i : Nat) (z : Option AV), (q_stl (nK S) n - rget (kE (nK S)) n < i + k) → ((i : Int) ≤ q_stl (nK S) n - rget (kE (nK S)) n) → V G Y_Model_range 5 0 0 69 [some (aR m), some (aI n), some (aI x), some (aI (rMn (nK S) n i)), some (aI (rMx (nK S) n i)), some (aI (rget (kE (nK S)) n + (i : Int))), z] [] h (fun v h' => v = some (aI (t_range S n x).1) ∧ pMS h' m (t_range S n x).2 ∧ Fr m (m + 11) h h') := by
              intro k
              induction k with
              | zero => intro i z hi hin; exfalso; omega
              | succ k ih =>
                intro i z hi hin
                have b1 := rMn_bd wu n i
                have b2 := rMx_bd wu n i
                have b3 := sO_bd wu n (rget (kE (nK S)) n + (i : Int))
                refine v_iload k_Model_range_69 rfl ?_
                refine v_aload_n k_Model_range_71 rfl ?_
                refine v_iload_n k_Model_range_72 rfl ?_
                refine v_callVr mo_Model_endOf mi_Model_endOf mv_Model_endOf lk_Model_111 k_Model_range_73 ho rfl rfl (Nat.le_of_ble_eq_true rfl) rfl (Nat.le_of_ble_eq_true rfl) (c_Model_endOf G ho ha hk wv (v := n) hc) ?_
                refine v_icge 110 k_Model_range_76 rfl (by omega) (by omega) (fun cd76 => ?_) (fun cd76 => ?_)
                · refine v_iload_n k_Model_range_110 rfl ?_
                  refine v_ifne 118 k_Model_range_111 rfl (by omega) (fun cd111 => ?_) (fun cd111 => ?_)
                  · refine v_iload k_Model_range_118 rfl ?_
                    refine v_ireturn k_Model_range_120 rfl rfl ?_
                    have e : (q_stl (nK S) n - rget (kE (nK S)) n).toNat = i := by omega
                    exact fin3 (by unfold t_range; rw [if_neg (by omega), if_neg (by omega), if_neg (by omega), e]; (first | rw [if_pos (by omega)] | rw [if_neg (by omega)])) hp Fr.rf
                  · refine v_iload_n k_Model_range_114 rfl ?_
                    refine v_goto k_Model_range_115 (tgt := 120) rfl ?_
                    refine v_ireturn k_Model_range_120 rfl rfl ?_
                    have e : (q_stl (nK S) n - rget (kE (nK S)) n).toNat = i := by omega
                    exact fin3 (by unfold t_range; rw [if_neg (by omega), if_neg (by omega), if_neg (by omega), e]; (first | rw [if_pos (by omega)] | rw [if_neg (by omega)])) hp Fr.rf
                · refine v_aload_n k_Model_range_79 rfl ?_
                  refine v_iload_n k_Model_range_80 rfl ?_
                  refine v_iload k_Model_range_81 rfl ?_
                  refine v_callVr mo_Model_soundAt mi_Model_soundAt mv_Model_soundAt lk_Model_125 k_Model_range_83 ho rfl rfl (Nat.le_of_ble_eq_true rfl) rfl (Nat.le_of_ble_eq_true rfl) (c_Model_soundAt G ho ha hk wv (v := n) (b := rget (kE (nK S)) n + (i : Int)) hc (by omega)) ?_
                  refine v_istore k_Model_range_86 ⟨Nat.le_of_ble_eq_true rfl, Nat.le_of_ble_eq_true rfl⟩ ?_
                  refine v_iload_n k_Model_range_88 rfl ?_
                  refine v_iload k_Model_range_89 rfl ?_
                  refine v_mmin k_Model_range_91 lm_Model_169 (by omega) (by omega) (Nat.le_of_ble_eq_true rfl) (Nat.le_of_ble_eq_true rfl) ?_
                  refine v_istore_n k_Model_range_94 ⟨Nat.le_of_ble_eq_true rfl, Nat.le_of_ble_eq_true rfl⟩ ?_
                  refine v_iload k_Model_range_95 rfl ?_
                  refine v_iload k_Model_range_97 rfl ?_
                  refine v_mmax k_Model_range_99 lm_Model_114 (by omega) (by omega) (Nat.le_of_ble_eq_true rfl) (Nat.le_of_ble_eq_true rfl) ?_
                  refine v_istore k_Model_range_102 ⟨Nat.le_of_ble_eq_true rfl, Nat.le_of_ble_eq_true rfl⟩ ?_
                  refine v_iinc k_Model_range_104 rfl (Nat.le_of_ble_eq_true rfl) ?_
                  refine v_goto k_Model_range_107 (tgt := 69) rfl ?_
                  rw [show rget (kE (nK S)) n + (i : Int) + 1 = rget (kE (nK S)) n + ((i + 1 : Nat) : Int) by omega]
                  exact ih (i + 1) _ (by omega) (by omega)
            have st := loop (q_stl (nK S) n - rget (kE (nK S)) n).toNat.succ 0 none (by omega) (by omega)
            rw [show rget (kE (nK S)) n + ((0 : Nat) : Int) = rget (kE (nK S)) n by omega] at st
            exact st
          · refine v_sipush k_Model_range_45 (by decide) ?_
            refine v_ireturn k_Model_range_48 rfl rfl ?_
            first
              | (exfalso; omega)
              | exact fin3 (by unfold t_range; (repeat (first | rw [if_pos (by omega)] | rw [if_neg (by omega)])); (try rfl)) p9 (f9.wd (by omega) (by omega))
              | exact fin3 (by unfold t_range; (repeat (first | rw [if_pos (by omega)] | rw [if_neg (by omega)])); (try rfl)) hp Fr.rf
        · refine v_ldc (x := 1000000000) cn_Model_147 k_Model_range_26 (by decide) ?_
          refine v_aload_n k_Model_range_28 rfl ?_
          refine v_bipush k_Model_range_29 (by decide) ?_
          refine v_callV mo_Model_no mi_Model_no mv_Model_no lk_Model_49 k_Model_range_31 ho rfl rfl (Nat.le_of_ble_eq_true rfl) rfl (Nat.le_of_ble_eq_true rfl) (c_Model_no G hp w (by omega)) (fun v31 h31 q31 => ?_)
          obtain ⟨rfl, p9, f9⟩ := q31
          refine v_isub k_Model_range_34 ?_
          refine v_ireturn k_Model_range_35 rfl rfl ?_
          first
            | (exfalso; omega)
            | exact fin3 (by unfold t_range; (repeat (first | rw [if_pos (by omega)] | rw [if_neg (by omega)])); (try rfl)) p9 (f9.wd (by omega) (by omega))
            | exact fin3 (by unfold t_range; (repeat (first | rw [if_pos (by omega)] | rw [if_neg (by omega)])); (try rfl)) hp Fr.rf
    · refine v_ldc (x := 1000000000) cn_Model_147 k_Model_range_8 (by decide) ?_
      refine v_aload_n k_Model_range_10 rfl ?_
      refine v_iconst k_Model_range_11 ?_
      refine v_callV mo_Model_no mi_Model_no mv_Model_no lk_Model_49 k_Model_range_12 ho rfl rfl (Nat.le_of_ble_eq_true rfl) rfl (Nat.le_of_ble_eq_true rfl) (c_Model_no G hp w (by omega)) (fun v12 h12 q12 => ?_)
      obtain ⟨rfl, p9, f9⟩ := q12
      refine v_isub k_Model_range_15 ?_
      refine v_ireturn k_Model_range_16 rfl rfl ?_
      first
        | (exfalso; omega)
        | exact fin3 (by unfold t_range; (repeat (first | rw [if_pos (by omega)] | rw [if_neg (by omega)])); (try rfl)) p9 (f9.wd (by omega) (by omega))
        | exact fin3 (by unfold t_range; (repeat (first | rw [if_pos (by omega)] | rw [if_neg (by omega)])); (try rfl)) hp Fr.rf
  · skip
    refine v_aload_n k_Model_range_0 rfl ?_
    refine v_iload_n k_Model_range_1 rfl ?_
    refine v_callVr mo_Model_isNoVoice mi_Model_isNoVoice mv_Model_isNoVoice lk_Model_141 k_Model_range_2 ho rfl rfl (Nat.le_of_ble_eq_true rfl) rfl (Nat.le_of_ble_eq_true rfl) ((by have q := c_Model_isNoVoice G ho ha hk wv hn; rw [if_neg hc] at q; exact q)) ?_
    refine v_ifeq 17 k_Model_range_5 rfl (by omega) (fun cd5 => ?_) (fun cd5 => ?_)
    · exfalso; omega
    · refine v_ldc (x := 1000000000) cn_Model_147 k_Model_range_8 (by decide) ?_
      refine v_aload_n k_Model_range_10 rfl ?_
      refine v_iconst k_Model_range_11 ?_
      refine v_callV mo_Model_no mi_Model_no mv_Model_no lk_Model_49 k_Model_range_12 ho rfl rfl (Nat.le_of_ble_eq_true rfl) rfl (Nat.le_of_ble_eq_true rfl) (c_Model_no G hp w (by omega)) (fun v12 h12 q12 => ?_)
      obtain ⟨rfl, p9, f9⟩ := q12
      refine v_isub k_Model_range_15 ?_
      refine v_ireturn k_Model_range_16 rfl rfl ?_
      first
        | (exfalso; omega)
        | exact fin3 (by unfold t_range; (repeat (first | rw [if_pos (by omega)] | rw [if_neg (by omega)])); (try rfl)) p9 (f9.wd (by omega) (by omega))
        | exact fin3 (by unfold t_range; (repeat (first | rw [if_pos (by omega)] | rw [if_neg (by omega)])); (try rfl)) hp Fr.rf

set_option maxHeartbeats 4000000 in
set_option maxRecDepth 20000 in
theorem c_Model_unison (G : Gx) {h : AH} {m : Nat} {S : St} (hp : pMS h m S) (w : wSt S) : Ct G Y_Model_unison 5 0 0 [aR m] h (fun v h' => v = some (aI (t_unison S).1) ∧ pMS h' m (t_unison S).2 ∧ Fr m (m + 11) h h') := by
  obtain ⟨X, a, ⟨fp, sn, ho, hs, hsl⟩, rf, th, be, tl, fd, rw_, ⟨c1, ha, c3, c4, c5, c6, c7, c8, c10⟩, ⟨x1, x2, x3⟩, ⟨l1, l3, l4, l5, l8, l10⟩, hk, hth, htl, hrw, hrf⟩ := id hp
  obtain ⟨w1, w2, w3, w4, w5, w6, w7, w8⟩ := id w
  have wv : vK (nK S) 13 6 := ⟨w1.1, by have := w1.2.1; omega, w1.2.2⟩
  have wu := wv.up (by decide) (by decide)
  have hl := hk.1
  have hn12 := w1.2.1
  have hv6 := w1.2.2.2.2.2.1
  have hek := wu.endK
  refine Ct.of_V mo_Model_unison rfl (Nat.le_of_ble_eq_true rfl) rfl ?_
  have loop : ∀ (k : Nat) (b : Nat), (q_endK (nK S) < b + k) → ((b : Int) ≤ q_endK (nK S)) → ∀ (z1 z2 z3 z4 : Option AV), V G Y_Model_unison 5 0 0 9 [some (aR m), some (aI (uS (nK S) b)), some (aI (q_endK (nK S))), some (aI (b : Int)), z1, z2, z3, z4] [] h (fun v h' => v = some (aI (t_unison S).1) ∧ pMS h' m (t_unison S).2 ∧ Fr m (m + 11) h h') := by
    intro k
    induction k with
    | zero => intro b hb hbn z1 z2 z3 z4; exfalso; omega
    | succ k ih =>
      intro b hb hbn z1 z2 z3 z4
      refine v_iload_n k_Model_unison_9 rfl ?_
      refine v_iload_n k_Model_unison_10 rfl ?_
      refine v_icge 120 k_Model_unison_11 rfl (by omega) (by omega) (fun cd11 => ?_) (fun cd11 => ?_)
      · refine v_iload_n k_Model_unison_120 rfl ?_
        refine v_ireturn k_Model_unison_121 rfl rfl ?_
        have e : (q_endK (nK S)).toNat = b := by omega
        exact fin3 (by unfold t_unison; rw [e]) hp Fr.rf
      · refine v_iconst k_Model_unison_14 ?_
        refine v_istore k_Model_unison_15 ⟨Nat.le_of_ble_eq_true rfl, Nat.le_of_ble_eq_true rfl⟩ ?_
        refine v_iconst k_Model_unison_17 ?_
        refine v_istore k_Model_unison_18 ⟨Nat.le_of_ble_eq_true rfl, Nat.le_of_ble_eq_true rfl⟩ ?_
        have loop2 : ∀ (k2 : Nat) (i : Nat) (s0 : Int) (z1 z2 : Option AV), ((kK (nK S)).length = i + k2) → (i ≤ 6) → (0 ≤ s0 ∧ s0 ≤ 1) → (uO (nK S) b k2 i s0 = uO (nK S) b (kK (nK S)).length 0 0) → V G Y_Model_unison 5 0 0 20 [some (aR m), some (aI (uS (nK S) b)), some (aI (q_endK (nK S))), some (aI (b : Int)), some (aI s0), some (aI (i : Int)), z1, z2] [] h (fun v h' => v = some (aI (t_unison S).1) ∧ pMS h' m (t_unison S).2 ∧ Fr m (m + 11) h h') := by
          intro k2
          induction k2 with
          | zero =>
            intro i s0 z1 z2 hi hin hs01 hO
            refine v_iload k_Model_unison_20 rfl ?_
            refine v_aload_n k_Model_unison_22 rfl ?_
            refine v_getf fl_Model_13 ho rfl k_Model_unison_23 ?_
            refine v_iconst k_Model_unison_26 ?_
            refine v_iald ha (by omega) (by omega) k_Model_unison_27 ?_
            rw [hk.n1]
            refine v_icge 101 k_Model_unison_28 rfl (by omega) (by omega) (fun cd28 => ?_) (fun cd28 => ?_)
            · refine v_iload_n k_Model_unison_101 rfl ?_
              refine v_iload k_Model_unison_102 rfl ?_
              refine v_ifeq 111 k_Model_unison_104 rfl (by omega) (fun cd104 => ?_) (fun cd104 => ?_)
              · refine v_iconst k_Model_unison_111 ?_
                refine v_iadd k_Model_unison_112 ?_
                refine v_istore_n k_Model_unison_113 ⟨Nat.le_of_ble_eq_true rfl, Nat.le_of_ble_eq_true rfl⟩ ?_
                have hO2 : s0 = uO (nK S) b (kK (nK S)).length 0 0 := hO
                refine v_iinc k_Model_unison_114 rfl (Nat.le_of_ble_eq_true rfl) ?_
                refine v_goto k_Model_unison_117 (tgt := 9) rfl ?_
                have st := ih (b + 1) (by omega) (by omega)
                rw [uS] at st
                first
                  | (rw [if_pos (by omega)] at st; exact st _ _ _ _)
                  | (rw [if_neg (by omega)] at st; exact st _ _ _ _)
              · refine v_iconst k_Model_unison_107 ?_
                refine v_goto k_Model_unison_108 (tgt := 112) rfl ?_
                refine v_iadd k_Model_unison_112 ?_
                refine v_istore_n k_Model_unison_113 ⟨Nat.le_of_ble_eq_true rfl, Nat.le_of_ble_eq_true rfl⟩ ?_
                have hO2 : s0 = uO (nK S) b (kK (nK S)).length 0 0 := hO
                refine v_iinc k_Model_unison_114 rfl (Nat.le_of_ble_eq_true rfl) ?_
                refine v_goto k_Model_unison_117 (tgt := 9) rfl ?_
                have st := ih (b + 1) (by omega) (by omega)
                rw [uS] at st
                first
                  | (rw [if_pos (by omega)] at st; exact st _ _ _ _)
                  | (rw [if_neg (by omega)] at st; exact st _ _ _ _)
            · exfalso; omega
          | succ k2 ih2 =>
            intro i s0 z1 z2 hi hin hs01 hO
            refine v_iload k_Model_unison_20 rfl ?_
            refine v_aload_n k_Model_unison_22 rfl ?_
            refine v_getf fl_Model_13 ho rfl k_Model_unison_23 ?_
            refine v_iconst k_Model_unison_26 ?_
            refine v_iald ha (by omega) (by omega) k_Model_unison_27 ?_
            rw [hk.n1]
            refine v_icge 101 k_Model_unison_28 rfl (by omega) (by omega) (fun cd28 => ?_) (fun cd28 => ?_)
            · exfalso; omega
            · refine v_aload_n k_Model_unison_31 rfl ?_
              refine v_iload k_Model_unison_32 rfl ?_
              refine v_iload_n k_Model_unison_34 rfl ?_
              refine v_callVr mo_Model_soundAt mi_Model_soundAt mv_Model_soundAt lk_Model_125 k_Model_unison_35 ho rfl rfl (Nat.le_of_ble_eq_true rfl) rfl (Nat.le_of_ble_eq_true rfl) (c_Model_soundAt G ho ha hk wv (v := (i : Int)) (b := (b : Int)) (by omega) (by omega)) ?_
              refine v_istore k_Model_unison_38 ⟨Nat.le_of_ble_eq_true rfl, Nat.le_of_ble_eq_true rfl⟩ ?_
              refine v_iload k_Model_unison_40 rfl ?_
              refine v_iconst k_Model_unison_42 ?_
              refine v_iadd k_Model_unison_43 ?_
              refine v_istore k_Model_unison_44 ⟨Nat.le_of_ble_eq_true rfl, Nat.le_of_ble_eq_true rfl⟩ ?_
              have loop3 : ∀ (k3 : Nat) (j : Nat) (s : Int), ((kK (nK S)).length < j + k3) → (j ≤ (kK (nK S)).length ∧ i < j) → (0 ≤ s ∧ s ≤ 1) → (uI (nK S) b i (((kK (nK S)).length : Int) - j).toNat j s = uI (nK S) b i (((kK (nK S)).length : Int) - ((i + 1 : Nat) : Int)).toNat ((i + 1 : Nat) : Int) s0) → V G Y_Model_unison 5 0 0 46 [some (aR m), some (aI (uS (nK S) b)), some (aI (q_endK (nK S))), some (aI (b : Int)), some (aI s), some (aI (i : Int)), some (aI (sO (nK S) i b)), some (aI (j : Int))] [] h (fun v h' => v = some (aI (t_unison S).1) ∧ pMS h' m (t_unison S).2 ∧ Fr m (m + 11) h h') := by
                intro k3
                induction k3 with
                | zero => intro j s hj hjn hs01 hT; exfalso; omega
                | succ k3 ih3 =>
                  intro j s hj hjn hs01 hT
                  have bs1 := sO_bd wu (i : Int) (b : Int)
                  have bs2 := sO_bd wu (j : Int) (b : Int)
                  refine v_iload k_Model_unison_46 rfl ?_
                  refine v_aload_n k_Model_unison_48 rfl ?_
                  refine v_getf fl_Model_13 ho rfl k_Model_unison_49 ?_
                  refine v_iconst k_Model_unison_52 ?_
                  refine v_iald ha (by omega) (by omega) k_Model_unison_53 ?_
                  rw [hk.n1]
                  refine v_icge 95 k_Model_unison_54 rfl (by omega) (by omega) (fun cd54 => ?_) (fun cd54 => ?_)
                  · refine v_iinc k_Model_unison_95 rfl (Nat.le_of_ble_eq_true rfl) ?_
                    refine v_goto k_Model_unison_98 (tgt := 20) rfl ?_
                    have ej : (((kK (nK S)).length : Int) - j).toNat = 0 := by omega
                    rw [ej] at hT
                    have hT : s = uI (nK S) b i (((kK (nK S)).length : Int) - ((i + 1 : Nat) : Int)).toNat ((i + 1 : Nat) : Int) s0 := hT
                    refine ih2 (i + 1) s _ _ (by omega) (by omega) (by omega) ?_
                    rw [hT, ← hO]
                    rfl
                  · refine v_iload k_Model_unison_57 rfl ?_
                    refine v_ifne 82 k_Model_unison_59 rfl (by omega) (fun cd59 => ?_) (fun cd59 => ?_)
                    · refine v_iconst k_Model_unison_82 ?_
                      refine v_goto k_Model_unison_83 (tgt := 87) rfl ?_
                      refine v_istore k_Model_unison_87 ⟨Nat.le_of_ble_eq_true rfl, Nat.le_of_ble_eq_true rfl⟩ ?_
                      refine v_iinc k_Model_unison_89 rfl (Nat.le_of_ble_eq_true rfl) ?_
                      refine v_goto k_Model_unison_92 (tgt := 46) rfl ?_
                      have ej : (((kK (nK S)).length : Int) - j).toNat = (((kK (nK S)).length : Int) - ((j + 1 : Nat) : Int)).toNat + 1 := by omega
                      refine ih3 (j + 1) 1 (by omega) (by omega) (by omega) ?_
                      rw [← hT, ej, uI]
                      first
                        | (rw [if_pos (by omega)]; rfl)
                        | (rw [if_neg (by omega)]; rfl)
                    · refine v_iload k_Model_unison_62 rfl ?_
                      refine v_sipush k_Model_unison_64 (by decide) ?_
                      refine v_iceq 86 k_Model_unison_67 rfl (by omega) (by omega) (fun cd67 => ?_) (fun cd67 => ?_)
                      · refine v_iconst k_Model_unison_86 ?_
                        refine v_istore k_Model_unison_87 ⟨Nat.le_of_ble_eq_true rfl, Nat.le_of_ble_eq_true rfl⟩ ?_
                        refine v_iinc k_Model_unison_89 rfl (Nat.le_of_ble_eq_true rfl) ?_
                        refine v_goto k_Model_unison_92 (tgt := 46) rfl ?_
                        have ej : (((kK (nK S)).length : Int) - j).toNat = (((kK (nK S)).length : Int) - ((j + 1 : Nat) : Int)).toNat + 1 := by omega
                        refine ih3 (j + 1) 0 (by omega) (by omega) (by omega) ?_
                        rw [← hT, ej, uI]
                        first
                          | (rw [if_pos (by omega)]; rfl)
                          | (rw [if_neg (by omega)]; rfl)
                      · refine v_iload k_Model_unison_70 rfl ?_
                        refine v_aload_n k_Model_unison_72 rfl ?_
                        refine v_iload k_Model_unison_73 rfl ?_
                        refine v_iload_n k_Model_unison_75 rfl ?_
                        refine v_callVr mo_Model_soundAt mi_Model_soundAt mv_Model_soundAt lk_Model_125 k_Model_unison_76 ho rfl rfl (Nat.le_of_ble_eq_true rfl) rfl (Nat.le_of_ble_eq_true rfl) (c_Model_soundAt G ho ha hk wv (v := (j : Int)) (b := (b : Int)) (by omega) (by omega)) ?_
                        refine v_icne 86 k_Model_unison_79 rfl (by omega) (by omega) (fun cd79 => ?_) (fun cd79 => ?_)
                        · refine v_iconst k_Model_unison_86 ?_
                          refine v_istore k_Model_unison_87 ⟨Nat.le_of_ble_eq_true rfl, Nat.le_of_ble_eq_true rfl⟩ ?_
                          refine v_iinc k_Model_unison_89 rfl (Nat.le_of_ble_eq_true rfl) ?_
                          refine v_goto k_Model_unison_92 (tgt := 46) rfl ?_
                          have ej : (((kK (nK S)).length : Int) - j).toNat = (((kK (nK S)).length : Int) - ((j + 1 : Nat) : Int)).toNat + 1 := by omega
                          refine ih3 (j + 1) 0 (by omega) (by omega) (by omega) ?_
                          rw [← hT, ej, uI]
                          first
                            | (rw [if_pos (by omega)]; rfl)
                            | (rw [if_neg (by omega)]; rfl)
                        · refine v_iconst k_Model_unison_82 ?_
                          refine v_goto k_Model_unison_83 (tgt := 87) rfl ?_
                          refine v_istore k_Model_unison_87 ⟨Nat.le_of_ble_eq_true rfl, Nat.le_of_ble_eq_true rfl⟩ ?_
                          refine v_iinc k_Model_unison_89 rfl (Nat.le_of_ble_eq_true rfl) ?_
                          refine v_goto k_Model_unison_92 (tgt := 46) rfl ?_
                          have ej : (((kK (nK S)).length : Int) - j).toNat = (((kK (nK S)).length : Int) - ((j + 1 : Nat) : Int)).toNat + 1 := by omega
                          refine ih3 (j + 1) 1 (by omega) (by omega) (by omega) ?_
                          rw [← hT, ej, uI]
                          first
                            | (rw [if_pos (by omega)]; rfl)
                            | (rw [if_neg (by omega)]; rfl)
              exact loop3 ((kK (nK S)).length + 1) (i + 1) s0 (by omega) (by omega) hs01 rfl
        exact loop2 ((kK (nK S)).length) 0 0 _ _ (by omega) (by omega) (by omega) rfl
  refine v_iconst k_Model_unison_0 ?_
  refine v_istore_n k_Model_unison_1 ⟨Nat.le_of_ble_eq_true rfl, Nat.le_of_ble_eq_true rfl⟩ ?_
  refine v_aload_n k_Model_unison_2 rfl ?_
  refine v_callVr mo_Model_end mi_Model_end mv_Model_end lk_Model_131 k_Model_unison_3 ho rfl rfl (Nat.le_of_ble_eq_true rfl) rfl (Nat.le_of_ble_eq_true rfl) (c_Model_end G ho ha hk wv) ?_
  refine v_istore_n k_Model_unison_6 ⟨Nat.le_of_ble_eq_true rfl, Nat.le_of_ble_eq_true rfl⟩ ?_
  refine v_iconst k_Model_unison_7 ?_
  refine v_istore_n k_Model_unison_8 ⟨Nat.le_of_ble_eq_true rfl, Nat.le_of_ble_eq_true rfl⟩ ?_
  exact loop (q_endK (nK S)).toNat.succ 0 (by omega) (by omega) _ _ _ _
