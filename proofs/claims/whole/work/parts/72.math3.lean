/-! the ways of all pairs, and the beats -/
def bsum (f : Nat → Int) : Nat → Int
  | 0 => 0
  | n + 1 => bsum f n + f n
theorem bsum_add (f g : Nat → Int) : ∀ n, bsum (fun b => f b + g b) n = bsum f n + bsum g n
  | 0 => rfl
  | n + 1 => by rw [bsum, bsum, bsum, bsum_add f g n]; omega
theorem bsum_z (f : Nat → Int) (a : Nat) : ∀ k, (∀ b, a ≤ b → b < a + k → f b = 0) → bsum f (a + k) = bsum f a
  | 0, _ => rfl
  | k + 1, h => by rw [← Nat.add_assoc, bsum, bsum_z f a k (fun b h1 h2 => h b h1 (by omega)), h (a + k) (by omega) (by omega), Int.add_zero]
theorem bsum_0 (f : Nat → Int) (n : Nat) (h : ∀ b, b < n → f b = 0) : bsum f n = 0 := by
  have := bsum_z f 0 n (fun b _ h2 => h b (by omega))
  rw [Nat.zero_add] at this
  exact this
def fI (K : CK) (x : Int) : Int := if illW K x then 1 else 0
def bad (K : CK) (i j : Int) (b : Nat) : Int := if agP (kW K) (sO K i b) (sO K j b) = true then 0 else 1
theorem wyK_ill {K : CK} (w : wK K) {i j b : Int} (hi : 0 ≤ q_nS K i b) (hj : 0 ≤ q_nS K j b) : fI K (wyK K i j b) = if agP (kW K) (sO K i b) (sO K j b) = true then 0 else 1 := by
  have a1 := lft_in w hi
  have a2 := lft_in w hj
  have s1 := sO_sing w hi
  have s2 := sO_sing w hj
  have n1 := w.nS i b
  have n2 := w.nS j b
  rw [ag_wl (by omega) (by omega)]
  have ap : -19 ≤ apt K i j b ∧ apt K i j b ≤ 19 := by unfold apt; split <;> omega
  have dt : dtn K i j = 0 ∨ dtn K i j = 16384 := by unfold dtn; split <;> simp
  have x1 : wyK K i j b % 16 = q_nS K i b := by unfold wyK; omega
  have x2 : wyK K i j b / 16 % 16 = q_nS K j b := by unfold wyK; omega
  have x3 : wyK K i j b / 256 % 64 - 32 = apt K i j b := by unfold wyK; omega
  have x4 : wyK K i j b / 16384 = dtn K i j / 16384 := by unfold wyK; omega
  have key : wl (kW K) (sO K i b - sO K j b) = wl (kW K) (apt K i j b + (if dtn K i j / 16384 = 0 then rget (kP K) (q_nS K i b) - rget (kP K) (q_nS K j b) else 2 * rget (kP K) 0 - rget (kP K) (q_nS K i b) - rget (kP K) (q_nS K j b))) := by
    unfold sO apt dtn
    rw [if_neg (show ¬ q_nS K i b < 0 by omega), if_neg (show ¬ q_nS K j b < 0 by omega)]
    by_cases t1 : rget (kK K) i = 2 ∨ rget (kK K) i = 5
    · by_cases t2 : rget (kK K) j = 2 ∨ rget (kK K) j = 5
      · rw [if_pos t1, if_pos t2, if_pos t2, show (if ((rget (kK K) i = 2 ∨ rget (kK K) i = 5) ↔ (rget (kK K) j = 2 ∨ rget (kK K) j = 5)) then (0 : Int) else 16384) = 0 from if_pos ⟨fun _ => t2, fun _ => t1⟩, if_pos (show (0 : Int) / 16384 = 0 by decide), ← wl_neg]
        congr 1; omega
      · rw [if_pos t1, if_neg t2, if_neg t2, show (if ((rget (kK K) i = 2 ∨ rget (kK K) i = 5) ↔ (rget (kK K) j = 2 ∨ rget (kK K) j = 5)) then (0 : Int) else 16384) = 16384 from if_neg (fun q => t2 (q.mp t1)), if_neg (show ¬ (16384 : Int) / 16384 = 0 by decide)]
        congr 1; omega
    · by_cases t2 : rget (kK K) j = 2 ∨ rget (kK K) j = 5
      · rw [if_neg t1, if_pos t2, if_pos t2, show (if ((rget (kK K) i = 2 ∨ rget (kK K) i = 5) ↔ (rget (kK K) j = 2 ∨ rget (kK K) j = 5)) then (0 : Int) else 16384) = 16384 from if_neg (fun q => t1 (q.mpr t2)), if_neg (show ¬ (16384 : Int) / 16384 = 0 by decide), ← wl_neg]
        congr 1; omega
      · rw [if_neg t1, if_neg t2, if_neg t2, show (if ((rget (kK K) i = 2 ∨ rget (kK K) i = 5) ↔ (rget (kK K) j = 2 ∨ rget (kK K) j = 5)) then (0 : Int) else 16384) = 0 from if_pos ⟨fun q => absurd q t1, fun q => absurd q t2⟩, if_pos (show (0 : Int) / 16384 = 0 by decide)]
        congr 1; omega
  unfold fI illW
  rw [x1, x2, x3, x4, key]
  cases wl (kW K) _ <;> rfl
theorem nS_out {K : CK} {v b : Int} (h : ¬ (rget (kE K) v ≤ b ∧ b < q_stl K v)) : sO K v b = 999 := by
  have e : q_nS K v b = -1 := by
    unfold q_nS
    refine if_neg (fun q => h ?_)
    have := stl_sub K v
    omega
  unfold sO
  rw [e]; rfl
theorem esm_evB {K : CK} (w : wK K) {i j : Int} : ∀ (k b : Nat), (∀ c : Nat, b ≤ c → c < b + k → 0 ≤ q_nS K i c ∧ 0 ≤ q_nS K j c) → esm (fI K) (evB K i j k b) = bsum (bad K i j) (b + k) - bsum (bad K i j) b
  | 0, b, _ => by rw [evB, esm, Nat.add_zero]; omega
  | k + 1, b, h => by
    have h0 := h b (by omega) (by omega)
    have ih := esm_evB w (i := i) (j := j) k (b + 1) (fun c h1 h2 => h c (by omega) (by omega))
    rw [evB, esm, show ((b : Int) + 1) = ((b + 1 : Nat) : Int) by omega, ih, wyK_ill w h0.1 h0.2, show b + 1 + k = b + (k + 1) by omega]
    have : bsum (bad K i j) (b + 1) = bsum (bad K i j) b + bad K i j b := rfl
    rw [this]
    unfold bad
    omega
theorem q_endF_ge {K : CK} : ∀ n v : Nat, v < n → q_stl K v ≤ q_endF K n
  | 0, v, h => absurd h (Nat.not_lt_zero _)
  | n + 1, v, h => by
    show _ ≤ max (q_endF K n) (q_stl K n)
    by_cases e : v = n
    · subst e; omega
    · have := q_endF_ge (K := K) n v (by omega); omega
theorem esm_evP {K : CK} (w : wK K) {i j : Nat} (hi : i < (kK K).length) (hj : j < (kK K).length) : esm (fI K) (evP K i j) = bsum (bad K i j) (q_endK K).toNat := by
  have e1 := w.en i
  have e2 := w.en j
  have l1 := w.stl i
  have l2 := w.stl j
  have zero : ∀ b : Nat, ¬ (bgn K i j ≤ b ∧ (b : Int) < fin_ K i j) → bad K i j b = 0 := by
    intro b hb
    unfold bgn fin_ at hb
    unfold bad
    by_cases g : rget (kE K) i ≤ b ∧ (b : Int) < q_stl K i
    · rw [if_pos (ag_999r (nS_out (by omega)))]
    · rw [if_pos (ag_999l (nS_out g))]
  unfold evP
  by_cases g : bgn K i j < fin_ K i j
  · have hb : 0 < bt K := by
      apply Classical.byContradiction
      intro q
      have r0 := rB_zero (K := K) (by omega) i
      have s0 := stl_sub K i
      rw [r0, Int.mul_zero] at s0
      unfold bgn fin_ at g
      omega
    have hE : q_endK K = q_endF K (kK K).length := if_pos hb
    have h1 := q_endF_ge (K := K) _ i hi
    have h2 := w.endK
    have hb0 : 0 ≤ bgn K i j := by unfold bgn; omega
    have hfi : fin_ K i j ≤ q_stl K i := by unfold fin_; omega
    obtain ⟨B, hB⟩ : ∃ B : Nat, (B : Int) = bgn K i j := ⟨(bgn K i j).toNat, by omega⟩
    obtain ⟨k, hk⟩ : ∃ k : Nat, fin_ K i j = (B : Int) + k := ⟨(fin_ K i j - B).toNat, by omega⟩
    rw [show (fin_ K i j - bgn K i j).toNat = k by omega, ← hB, esm_evB w k B (fun c h1 h2 => by
      unfold bgn at hB; unfold fin_ at hk
      exact ⟨nS_nn w (by omega) (by omega), nS_nn w (by omega) (by omega)⟩)]
    have z1 := bsum_0 (bad K i j) B (fun b hb => zero b (by omega))
    obtain ⟨r, hr⟩ : ∃ r : Nat, (q_endK K).toNat = B + k + r := ⟨(q_endK K).toNat - (B + k), by omega⟩
    rw [hr, bsum_z (bad K i j) (B + k) r (fun b h1 h2 => zero b (by omega)), z1, Int.sub_zero]
  · rw [show (fin_ K i j - bgn K i j).toNat = 0 by omega, evB, esm, bsum_0 _ _ (fun b _ => zero b (by omega))]
theorem esm_evO {K : CK} (w : wK K) {i : Nat} (hi : i < (kK K).length) : ∀ k j : Nat, j + k = (kK K).length → esm (fI K) (evO K i k j) = bsum (fun b => mR (kW K) (fun v => sO K v b) i k j) (q_endK K).toNat
  | 0, j, _ => by rw [evO, esm]; exact (bsum_0 _ _ (fun b _ => rfl)).symm
  | k + 1, j, h => by
    rw [evO, esm_app, esm_evP w hi (by omega), esm_evO w hi k (j + 1) (by omega), ← bsum_add]
    rfl
theorem esm_evA {K : CK} (w : wK K) : ∀ k i : Nat, i + k = (kK K).length → esm (fI K) (evA K k i) = bsum (fun b => mC (kW K) (fun v => sO K v b) (kK K).length k i) (q_endK K).toNat
  | 0, i, _ => by rw [evA, esm]; exact (bsum_0 _ _ (fun b _ => rfl)).symm
  | k + 1, i, h => by
    rw [evA, esm_app, esm_evO w (by omega) _ (i + 1) (by omega), esm_evA w k (i + 1) (by omega), ← bsum_add]
    congr 1
    funext b
    rw [mC, show (((kK K).length : Int) - ((i : Int) + 1)).toNat = (kK K).length - (i + 1) by omega]
    rfl
theorem mR_sW {K : CK} {b : Int} {W : Int} {i : Nat} : ∀ k j : Nat, mR W (sW K b (-9)) i k j = mR W (fun v => sO K v b) i k j
  | 0, _ => rfl
  | k + 1, j => by
    rw [mR, mR, sW_hs, sW_hs]
    have := mR_sW (K := K) (b := b) (W := W) (i := i) k (j + 1)
    rw [show ((j + 1 : Nat) : Int) = (j : Int) + 1 by omega] at this
    rw [this]
theorem mC_sW {K : CK} {b : Int} {W : Int} {nv : Nat} : ∀ k i : Nat, i + k = nv → mC W (sW K b (-9)) nv k i = mC W (fun v => sO K v b) nv k i
  | 0, _, _ => rfl
  | k + 1, i, h => by
    have := mC_sW (K := K) (b := b) (W := W) (nv := nv) k (i + 1) (by omega)
    have h2 := mR_sW (K := K) (b := b) (W := W) (i := i) (((nv : Int) - ((i : Int) + 1)).toNat) (i + 1)
    rw [show ((i + 1 : Nat) : Int) = (i : Int) + 1 by omega] at this h2
    rw [mC, mC, this, h2]
theorem mS_bsum (K : CK) : ∀ n : Nat, mS K (-9) n = bsum (fun b => mC (kW K) (fun v => sO K v b) (kK K).length (kK K).length 0) n
  | 0 => rfl
  | n + 1 => by
    rw [mS, bsum, mS_bsum K n]
    congr 1
    exact mC_sW _ 0 (by omega)
theorem x_illsE {K : CK} (w : wK K) : illsE K = mS K (-9) (q_endK K).toNat := by
  rw [mS_bsum]
  exact esm_evA w _ 0 (by omega)
theorem all_esm (K : CK) : ∀ l : List Int, 0 ≤ esm (fI K) l ∧ ((l.all fun x => !illW K x) = true ↔ esm (fI K) l = 0)
  | [] => ⟨Int.le_refl 0, ⟨fun _ => rfl, fun _ => rfl⟩⟩
  | x :: t => by
    obtain ⟨h1, h2⟩ := all_esm K t
    rw [esm, List.all_cons, Bool.and_eq_true, h2]
    have hf : fI K x = if illW K x then 1 else 0 := rfl
    cases hx : illW K x
    · rw [hx] at hf
      have hf0 : fI K x = 0 := hf
      rw [hf0]
      exact ⟨by omega, ⟨fun q => by omega, fun q => ⟨rfl, by omega⟩⟩⟩
    · rw [hx] at hf
      have hf0 : fI K x = 1 := hf
      rw [hf0]
      exact ⟨by omega, ⟨fun q => absurd q.1 (by decide), fun q => by omega⟩⟩
theorem mWf_iff (K : CK) : ∀ k b : Nat, mWf K k b = true ↔ mS K (-9) (b + k) = mS K (-9) b
  | 0, b => ⟨fun _ => rfl, fun _ => rfl⟩
  | k + 1, b => by
    have h1 := mS_mono K (-9) (b + 1) k
    have h2 := mI_nn K b (-9)
    have h3 : mS K (-9) (b + 1) = mS K (-9) b + mI K b (-9) := rfl
    rw [mWf]
    rw [show b + 1 + k = b + (k + 1) by omega] at h1
    by_cases g : mI K b (-9) > 0
    · rw [if_pos g]
      exact ⟨fun q => absurd q (by decide), fun q => by omega⟩
    · rw [if_neg g, mWf_iff K k (b + 1), show b + 1 + k = b + (k + 1) by omega]
      constructor <;> intro q <;> omega
theorem x_wellE {K : CK} (w : wK K) : wellE K = mW K := by
  rw [Bool.eq_iff_iff]
  have h1 := (all_esm K (evs K)).2
  have h2 := x_illsE w
  have h3 := mWf_iff K (q_endK K).toNat 0
  rw [Nat.zero_add] at h3
  have h4 : mS K (-9) 0 = 0 := rfl
  have h5 : illsE K = esm (fI K) (evs K) := rfl
  rw [h4] at h3
  exact h1.trans ((by rw [← h5, h2] : esm (fI K) (evs K) = 0 ↔ mS K (-9) (q_endK K).toNat = 0).trans h3.symm)
