/-! how far, till when, a mirror, entries -/
theorem sO_sing {K : CK} (w : wK K) {v b : Int} (h : 0 ≤ q_nS K v b) : -9 ≤ sO K v b ∧ sO K v b ≤ 37 := by
  have h1 := lft_in w h
  have h2 := w.pt (q_nS K v b)
  have h3 := w.pt 0
  unfold sO
  rw [if_neg (by omega)]
  split <;> omega
theorem far_M {K : CK} (w : wK K) {v u : Int} {N : Nat} (hN : ∀ i : Nat, i < N → -9 ≤ sO K v (rget (kE K) v + i) ∧ sO K v (rget (kE K) v + i) ≤ 37) : ∀ (k i : Nat) (acc : Int), i + k = N → (1 ≤ i → -9 ≤ acc ∧ acc ≤ 37 ∧ acc = (if u = 0 then rMn K v i else rMx K v i)) → (i = 0 → acc = 999) → far K v u k (rget (kE K) v + i) acc = if N = 0 then 999 else if u = 0 then rMn K v N else rMx K v N
  | 0, i, acc, h, h1, h2 => by
    rw [far]
    by_cases e : N = 0
    · rw [if_pos e]; exact h2 (by omega)
    · rw [if_neg e, show N = i by omega]; exact (h1 (by omega)).2.2
  | k + 1, i, acc, h, h1, h2 => by
    have hb := hN i (by omega)
    rw [far, show rget (kE K) v + (i : Int) + 1 = rget (kE K) v + ((i + 1 : Nat) : Int) by omega]
    refine far_M w hN k (i + 1) _ (by omega) (fun _ => ?_) (fun q => by omega)
    by_cases e : i = 0
    · subst e
      rw [if_pos (h2 rfl)]
      refine ⟨hb.1, hb.2, ?_⟩
      split
      · rw [rMn, rMn]; omega
      · rw [rMx, rMx]; omega
    · have h3 := h1 (by omega)
      rw [if_neg (by omega)]
      have e2 := h3.2.2
      split
      · rename_i hu
        rw [if_pos hu] at e2
        rw [rMn, ← e2]
        omega
      · rename_i hu
        rw [if_neg hu] at e2
        rw [rMx, ← e2]
        omega
theorem rB_pos {K : CK} (h : 0 < bt K) (v : Int) : 0 < q_rB K v := by unfold q_rB; split <;> omega
theorem rB_zero {K : CK} (h : bt K = 0) (v : Int) : q_rB K v = 0 := by unfold q_rB; split <;> omega
theorem stl_sub (K : CK) (v : Int) : q_stl K v - rget (kE K) v = kR K * q_rB K v := by unfold q_stl; omega
theorem x_range {S : St} (w : wSt S) (v u : Int) : s_range S v u = t_range S v u := by
  have wK0 := w.1
  have wk : wK (nK S) := wK0.up (by omega) (by omega)
  have hb := bt_pos wK0
  unfold s_range t_range
  by_cases g : ¬ (0 ≤ v ∧ v < (kK (nK S)).length)
  · rw [if_pos g, if_pos g]
  · rw [if_neg g, if_neg g]
    by_cases g2 : u ≠ 0 ∧ u ≠ 1
    · rw [if_pos g2, if_pos (show u < 0 ∨ u > 1 by omega)]
    · rw [if_neg g2, if_neg (show ¬ (u < 0 ∨ u > 1) by omega)]
      have hF := far_M (K := nK S) wk (v := v) (u := u) (N := (q_stl (nK S) v - rget (kE (nK S)) v).toNat) (fun i hi => sO_sing wk (nS_nn wk (by omega) (by omega))) (q_stl (nK S) v - rget (kE (nK S)) v).toNat 0 999 (by omega) (fun q => by omega) (fun _ => rfl)
      rw [show rget (kE (nK S)) v + ((0 : Nat) : Int) = rget (kE (nK S)) v by omega] at hF
      rw [hF]
      by_cases g3 : (kP (nK S)).length = 0
      · have e0 : bt (nK S) = 0 := by
          by_cases q : 0 < bt (nK S)
          · have := hb.mp q; omega
          · omega
        rw [if_pos g3, if_pos (by rw [stl_sub, rB_zero e0, Int.mul_zero]; rfl)]
      · have p1 := rB_pos (hb.mpr (by omega)) v
        have p2 := wk.rd
        have p3 : 0 < kR (nK S) * q_rB (nK S) v := Int.mul_pos (by omega) p1
        rw [if_neg g3, if_neg (by rw [stl_sub]; omega)]
theorem x_sts {K : CK} (w : wK K) (h : 0 < bt K) (b : Int) : ∀ n : Nat, sts K b n = tst K b n
  | 0 => rfl
  | n + 1 => by
    rw [sts, tst, x_sts w h b n]
    have p1 := rB_pos h (n : Int)
    have p2 := w.rd
    by_cases g : rget (kE K) n ≤ b
    · rw [if_pos ⟨p1, by omega⟩, if_pos g]
      congr 1
      unfold q_stl
      generalize (b - rget (kE K) n) / q_rB K n + 1 = x
      by_cases q : x ≤ kR K
      · have := Int.mul_le_mul_of_nonneg_right q (Int.le_of_lt p1)
        rw [Int.min_eq_left q, Int.mul_comm (q_rB K n) x]; omega
      · have := Int.mul_le_mul_of_nonneg_right (show kR K ≤ x by omega) (Int.le_of_lt p1)
        rw [Int.min_eq_right (show kR K ≤ x by omega), Int.mul_comm (q_rB K n) x]; omega
    · rw [if_neg (fun q => g (by omega)), if_neg g]
theorem sts_0 {K : CK} (h : bt K = 0) (b : Int) : ∀ n : Nat, sts K b n = 0
  | 0 => rfl
  | n + 1 => by rw [sts, sts_0 h b n, if_neg (by rw [rB_zero h]; omega)]
theorem x_stop {S : St} (w : wSt S) (b : Int) : s_stop S b = t_stop S b := by
  have wk : wK (nK S) := w.1.up (by omega) (by omega)
  have hb := bt_pos w.1
  unfold s_stop t_stop
  by_cases g : 0 < (kP (nK S)).length
  · rw [if_pos g, x_sts wk (hb.mpr g)]
  · rw [if_neg g, sts_0 (by
      by_cases q : 0 < bt (nK S)
      · exact absurd (hb.mp q) g
      · omega)]
theorem mrM_iff (K : CK) : ∀ k j : Nat, mrM K k j = true ↔ ∀ i : Nat, i < k → plT (kP K) (kL K) ((j + i : Nat) : Int) = plT (kP K) (kL K) ((bt K : Int) - 1 - ((j + i : Nat) : Int))
  | 0, j => by rw [mrM]; exact ⟨fun _ i h => absurd h (Nat.not_lt_zero _), fun _ => rfl⟩
  | k + 1, j => by
    rw [mrM]
    by_cases g : plT (kP K) (kL K) (j : Int) = plT (kP K) (kL K) ((bt K : Int) - 1 - (j : Int))
    · rw [if_pos g, mrM_iff K k (j + 1)]
      constructor
      · intro q i hi
        by_cases e : i = 0
        · subst e; exact g
        · have := q (i - 1) (by omega)
          rw [show j + 1 + (i - 1) = j + i by omega] at this
          exact this
      · intro q i hi
        have := q (i + 1) (by omega)
        rw [show j + (i + 1) = j + 1 + i by omega] at this
        exact this
    · rw [if_neg g]
      exact ⟨fun q => absurd q (by decide), fun q => absurd (q 0 (by omega)) g⟩
theorem mrF_iff (ps ls : List Int) (last : Int) : ∀ (k : Nat) (j : Int), last ≤ 2 * j + 2 * k → (mrF ps ls last k j = true ↔ ∀ i : Int, j ≤ i → i < last - i → plT ps ls i = plT ps ls (last - i))
  | 0, j, h => by rw [mrF]; exact ⟨fun _ i h1 h2 => by omega, fun _ => rfl⟩
  | k + 1, j, h => by
    rw [mrF]
    by_cases g0 : j < last - j
    · rw [if_pos g0]
      by_cases g : plT ps ls j = plT ps ls (last - j)
      · rw [if_pos g, mrF_iff ps ls last k (j + 1) (by omega)]
        constructor
        · intro q i h1 h2
          by_cases e : i = j
          · subst e; exact g
          · exact q i (by omega) h2
        · intro q i h1 h2
          exact q i (by omega) h2
      · rw [if_neg g]
        exact ⟨fun q => absurd q (by decide), fun q => absurd (q j (Int.le_refl _) g0) g⟩
    · rw [if_neg g0]
      exact ⟨fun _ i h1 h2 => by omega, fun _ => rfl⟩
theorem x_mirror {S : St} (w : wSt S) : s_mirror S = t_mirror S := by
  have wk : wK (nK S) := w.1.up (by omega) (by omega)
  have hb := wk.bb
  have e : mrF (kP (nK S)) (kL (nK S)) ((bt (nK S) : Int) - 1) 40 0 = mrM (nK S) (bt (nK S)) 0 := by
    rw [Bool.eq_iff_iff, mrF_iff _ _ _ 40 0 (by omega), mrM_iff]
    constructor
    · intro q i hi
      rw [Nat.zero_add]
      by_cases g : (i : Int) < (bt (nK S) : Int) - 1 - i
      · exact q i (by omega) g
      · by_cases g2 : (bt (nK S) : Int) - 1 - i = i
        · rw [g2]
        · have := q ((bt (nK S) : Int) - 1 - i) (by omega) (by omega)
          rw [this]
          congr 1
          omega
    · intro q i h1 h2
      have := q i.toNat (by omega)
      rw [Nat.zero_add, show ((i.toNat : Nat) : Int) = i by omega] at this
      exact this
  unfold s_mirror t_mirror
  rw [e]
/-! entries -/
theorem sO_addV {K : CK} (w : vK K 12 6) {k e hh : Int} {v : Int} (hv : 0 ≤ v ∧ v < (kK K).length) (b : Int) : sO (addV K k e hh) v b = sO K v b := by
  obtain ⟨w1, w2, w3, w4, w5, w6, w7, w8, w9⟩ := w
  have e1 : rget (kK (addV K k e hh)) v = rget (kK K) v := rget_app hv
  have e2 : rget (kE (addV K k e hh)) v = rget (kE K) v := rget_app (by omega)
  have e3 : rget (kH (addV K k e hh)) v = rget (kH K) v := rget_app (by omega)
  unfold sO q_nS lft pst q_rB
  rw [e1, e2, e3]
  rfl
theorem soF_addV {K : CK} (w : vK K 12 6) {k e hh : Int} (b : Int) : ∀ n : Nat, n ≤ (kK K).length → soF (addV K k e hh) b n = soF K b n
  | 0, _ => rfl
  | n + 1, h => by rw [soF, soF, sO_addV w (by omega), soF_addV w b n (by omega)]
theorem laO_fA1 {K : CK} {b a : Int} (ha : a ≠ 999) : ∀ k i : Nat, laO (kW K) a (soC K b k i) = fA1 K a b k i
  | 0, _ => rfl
  | k + 1, i => by
    rw [soC, fA1, show ((i : Int) + 1) = ((i + 1 : Nat) : Int) by omega, ← laO_fA1 ha k (i + 1)]
    by_cases g : sO K i b = 999
    · rw [if_pos g, if_pos (ag_999r g)]
    · rw [if_neg g, laO, ag_wl ha g]
      by_cases q : wl (kW K) (a - sO K i b) = true
      · rw [if_pos q, q, Bool.true_and]
      · rw [if_neg q, Bool.not_eq_true _ |>.mp q, Bool.false_and]
theorem laI_addV {K : CK} (w : vK K 12 6) {k e hh : Int} {b : Int} (hs : sO (addV K k e hh) (kK K).length b ≠ 999) : laI (addV K k e hh) b = fA1 K (sO (addV K k e hh) (kK K).length b) b (kK K).length 0 := by
  have hl : (kK (addV K k e hh)).length = (kK K).length + 1 := by show (kK K ++ [k]).length = _; rw [List.length_append]; rfl
  have e1 : so (addV K k e hh) b = so K b ++ [(((kK K).length : Int), sO (addV K k e hh) (kK K).length b)] := by
    unfold so
    rw [hl, soF, if_neg hs, soF_addV w b _ (Nat.le_refl _)]
  have e2 : kW (addV K k e hh) = kW K := rfl
  unfold laI
  rw [e1, e2, List.map_append, List.length_append, List.map_singleton, List.length_singleton]
  have e3 : rget (List.map Prod.snd (so K b) ++ [(((kK K).length : Int), sO (addV K k e hh) (kK K).length b).2]) (((so K b).length + 1 : Nat) - 1 : Int) = sO (addV K k e hh) (kK K).length b := by
    have := rget_snoc (xs := List.map Prod.snd (so K b)) (x := sO (addV K k e hh) (kK K).length b)
    rw [List.length_map] at this
    rw [show (((so K b).length + 1 : Nat) - 1 : Int) = ((so K b).length : Int) by omega]
    exact this
  rw [e3, Nat.add_sub_cancel, List.take_left, so_C]
  exact laO_fA1 hs _ _
theorem laB_fA {K : CK} (w : vK K 12 6) {k e hh : Int} (hk : 0 ≤ k ∧ k ≤ 5) (he : 0 ≤ e ∧ e ≤ 60) (hhh : 0 ≤ hh ∧ hh ≤ 9) : ∀ (n : Nat) (b : Int), e ≤ b → b + n ≤ e + kR K * rdO K k → laB (addV K k e hh) n b = fA K k hh e n b
  | 0, _, _, _ => rfl
  | n + 1, b, h1, h2 => by
    have w7 : wK (addV K k e hh) := (vK_addV7 w hk he hhh).up (by omega) (by omega)
    have lE : (kE K).length = (kK K).length := w.2.2.2.2.2.2.1
    have eE : rget (kE (addV K k e hh)) ((kK K).length : Int) = e := by show rget (kE K ++ [e]) _ = e; rw [← lE]; exact rget_snoc
    have eK : rget (kK (addV K k e hh)) ((kK K).length : Int) = k := by show rget (kK K ++ [k]) _ = k; exact rget_snoc
    have eS : q_stl (addV K k e hh) (kK K).length = e + kR K * rdO K k := by
      unfold q_stl q_rB
      rw [eE, eK]; rfl
    have hs := sO_sing w7 (nS_nn w7 (v := (kK K).length) (b := b) (by omega) (by omega))
    have w13 : vK K 13 6 := ⟨w.1, by have := w.2.1; omega, w.2.2⟩
    rw [laB, fA, laI_addV w (by omega), laB_fA w hk he hhh n (b + 1) (by omega) (by omega), ← sM_addV w13 hk he hhh]
    by_cases q : fA1 K (sM K k e hh b) b (kK K).length 0 = true
    · rw [if_pos q, q, Bool.true_and]
    · rw [if_neg q, Bool.not_eq_true _ |>.mp q, Bool.false_and]
theorem x_ent {K : CK} (w : vK K 12 6) {k hh : Int} {e : Nat} (hk : 0 ≤ k ∧ k ≤ 5) (he : e ≤ 60) (hhh : 0 ≤ hh ∧ hh ≤ 9) : entOK K k hh e = fAl K k hh e := by
  have lE : (kE K).length = (kK K).length := w.2.2.2.2.2.2.1
  have hl2 : (((kK (addV K k e hh)).length : Int) - 1) = ((kK K).length : Int) := by
    have : (kK (addV K k e hh)).length = (kK K).length + 1 := by show (kK K ++ [k]).length = _; rw [List.length_append]; rfl
    omega
  have eE : rget (kE (addV K k e hh)) ((kK K).length : Int) = e := by show rget (kE K ++ [(e : Int)]) _ = _; rw [← lE]; exact rget_snoc
  have eK : rget (kK (addV K k e hh)) ((kK K).length : Int) = k := by show rget (kK K ++ [k]) _ = k; exact rget_snoc
  have eS : q_stl (addV K k e hh) (kK K).length - rget (kE (addV K k e hh)) ((kK K).length : Int) = kR K * rdO K k := by
    unfold q_stl q_rB
    rw [eE, eK]
    show (e : Int) + kR K * rdO K k - e = _
    omega
  unfold entOK fAl
  rw [hl2, eS, eE]
  have w13 : wK K := w.up (by omega) (by omega)
  have p0 : 0 ≤ kR K * rdO K k := Int.mul_nonneg (by have := w13.rd; omega) (by unfold rdO; split <;> omega)
  exact laB_fA w hk ⟨by omega, by omega⟩ hhh _ _ (Int.le_refl _) (by omega)
theorem oS_0 {v lo hi : Int} (h : ¬ oS v lo hi ≠ 0) : lo ≤ v ∧ v ≤ hi := by
  unfold oS at h
  split at h
  · omega
  · split at h <;> omega
theorem x_entries {S : St} (w : wSt S) (k hh : Int) : s_entries S k hh = t_entries S k hh := by
  unfold s_entries t_entries
  by_cases g : k < 0 ∨ k > 5
  · rw [if_pos g, if_pos g]
  · rw [if_neg g, if_neg g]
    by_cases g2 : oS hh 0 9 ≠ 0
    · rw [if_pos g2, if_pos g2]
    · rw [if_neg g2, if_neg g2]
      refine Prod.ext ?_ rfl
      refine congrArg (fun n : Nat => (n : Int)) (bit_ext (fun v => ?_))
      rw [orb_bit, orb_bit]
      by_cases q : v < 31
      · rw [x_ent w.1 (by omega) (by omega) (oS_0 g2)]
      · rw [decide_eq_false q, Bool.false_and, Bool.false_and]
