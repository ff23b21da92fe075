/-! beat by beat: what the class says of a beat is what the reference says of it -/
def soC (K : CK) (b : Int) : Nat → Nat → List (Int × Int)
  | 0, _ => []
  | k + 1, i => if sO K i b = 999 then soC K b k (i + 1) else ((i : Int), sO K i b) :: soC K b k (i + 1)
theorem soF_C (K : CK) (b : Int) : ∀ k i, soF K b (i + k) = soF K b i ++ soC K b k i
  | 0, i => by rw [soC, List.append_nil]; rfl
  | k + 1, i => by
    rw [show i + (k + 1) = i + 1 + k by omega, soF_C K b k (i + 1), soF, soC]
    split
    · rfl
    · rw [List.append_assoc]; rfl
theorem so_C (K : CK) (b : Int) : so K b = soC K b (kK K).length 0 := by
  have := soF_C K b (kK K).length 0
  rw [Nat.zero_add] at this
  exact this
theorem ag_999l {W a b : Int} (h : a = 999) : agP W a b = true := agP_1 (Or.inl h)
theorem ag_999r {W a b : Int} (h : b = 999) : agP W a b = true := agP_1 (Or.inr (Or.inl h))
theorem ag_wl {W a b : Int} (ha : a ≠ 999) (hb : b ≠ 999) : agP W a b = wl W (a - b) := by
  by_cases h : wl W (a - b) = true
  · rw [h]; exact agP_1 (Or.inr (Or.inr h))
  · rw [Bool.not_eq_true _ |>.mp h]; exact Bool.not_eq_true _ |>.mp (agP_0 ha hb h)
section
variable {K : CK} {b : Int} {s : Int → Int}
theorem mR_999 {W i : Int} (h : s i = 999) : ∀ k j, mR W s i k j = 0
  | 0, _ => rfl
  | k + 1, j => by rw [mR, mR_999 h k, if_pos (ag_999l h)]; rfl
theorem fR_999 {W i : Int} (h : s i = 999) : ∀ k j, fR W s i k j = -9
  | 0, _ => rfl
  | k + 1, j => by rw [fR, if_pos (ag_999l h)]; exact fR_999 h k _
theorem cntI_mR {W i : Int} (hs : ∀ v : Nat, s v = sO K v b) (hi : s i ≠ 999) : ∀ (k j : Nat), cntI W (s i) (soC K b k j) = mR W s i k j
  | 0, _ => rfl
  | k + 1, j => by
    rw [soC, mR, show ((j : Int) + 1) = ((j + 1 : Nat) : Int) by omega, ← cntI_mR hs hi k (j + 1)]
    by_cases g : sO K j b = 999
    · rw [if_pos g, if_pos (ag_999r (by rw [hs]; exact g)), Int.zero_add]
    · rw [if_neg g, cntI, ag_wl hi (by rw [hs]; exact g), hs]
theorem prsI_mC {W : Int} (hs : ∀ v : Nat, s v = sO K v b) {nv : Nat} : ∀ (k i : Nat), i + k = nv → prsI W (soC K b k i) = mC W s nv k i
  | 0, _, _ => rfl
  | k + 1, i, h => by
    rw [soC, mC, show ((nv : Int) - ((i : Int) + 1)).toNat = k by omega, show ((i : Int) + 1) = ((i + 1 : Nat) : Int) by omega, ← prsI_mC hs k (i + 1) (by omega)]
    by_cases g : sO K i b = 999
    · rw [if_pos g, mR_999 (by rw [hs]; exact g), Int.zero_add]
    · rw [if_neg g, prsI, ← cntI_mR hs (by rw [hs]; exact g), hs]
theorem fpI_fR {W : Int} {i : Nat} (hs : ∀ v : Nat, s v = sO K v b) (hi : s i ≠ 999) : ∀ (k j : Nat), fpI W (s i) i (soC K b k j) = fR W s i k j
  | 0, _ => rfl
  | k + 1, j => by
    rw [soC, fR, show ((j : Int) + 1) = ((j + 1 : Nat) : Int) by omega, ← fpI_fR hs hi k (j + 1)]
    by_cases g : sO K j b = 999
    · rw [if_pos g, if_pos (ag_999r (by rw [hs]; exact g))]
    · rw [if_neg g, fpI, ag_wl hi (by rw [hs]; exact g), hs j]
theorem fpP_fC {W : Int} (hs : ∀ v : Nat, s v = sO K v b) {nv : Nat} : ∀ (k i : Nat), i + k = nv → fpP W (soC K b k i) = fC W s nv k i
  | 0, _, _ => rfl
  | k + 1, i, h => by
    rw [soC, fC, show ((nv : Int) - ((i : Int) + 1)).toNat = k by omega, show ((i : Int) + 1) = ((i + 1 : Nat) : Int) by omega, ← fpP_fC hs k (i + 1) (by omega)]
    by_cases g : sO K i b = 999
    · rw [if_pos g, if_pos (fR_999 (by rw [hs]; exact g) _ _)]
    · have e := fpI_fR (W := W) hs (show s (i : Int) ≠ 999 by rw [hs]; exact g) k (i + 1)
      rw [if_neg g, fpP, ← e, hs]
end
theorem sW_hs (K : CK) (b : Int) (v : Nat) : sW K b (-9) v = sO K v b := if_neg (by omega)
theorem x_ill (K : CK) (b : Int) : ill K b = mI K b (-9) := by
  unfold ill mI
  rw [so_C]
  exact prsI_mC (sW_hs K b) _ 0 (by omega)
theorem x_fp (K : CK) (b : Int) : fpP (kW K) (so K b) = mF K b (-9) := by
  unfold mF
  rw [so_C]
  exact fpP_fC (sW_hs K b) _ 0 (by omega)
theorem x_illS (K : CK) : ∀ n, illS K n = mS K (-9) n
  | 0 => rfl
  | n + 1 => by rw [illS, mS, x_illS K n, x_ill]
theorem x_fIB (K : CK) : ∀ k b, fIB K k b = mFb K k b
  | 0, _ => rfl
  | k + 1, b => by rw [fIB, mFb, x_fIB K k, x_ill]
theorem mR_nn (W : Int) (s : Int → Int) (i : Int) : ∀ k j, 0 ≤ mR W s i k j
  | 0, _ => Int.le_refl 0
  | k + 1, j => by rw [mR]; have := mR_nn W s i k (j + 1); split <;> omega
theorem mC_nn (W : Int) (s : Int → Int) (nv : Nat) : ∀ k i, 0 ≤ mC W s nv k i
  | 0, _ => Int.le_refl 0
  | k + 1, i => by rw [mC]; have := mC_nn W s nv k (i + 1); have := mR_nn W s i ((nv : Int) - (i + 1)).toNat (i + 1); omega
theorem mI_nn (K : CK) (b wo : Int) : 0 ≤ mI K b wo := mC_nn _ _ _ _ _
theorem mS_mono (K : CK) (wo : Int) (n : Nat) : ∀ k, mS K wo n ≤ mS K wo (n + k)
  | 0 => Int.le_refl _
  | k + 1 => by have := mS_mono K wo n k; have := mI_nn K ((n + k : Nat) : Int) wo; rw [← Nat.add_assoc, mS]; omega
theorem orb_bit (f : Nat → Bool) (v : Nat) : ∀ n, (orb f n).testBit v = (decide (v < n) && f v)
  | 0 => by rw [orb, Nat.zero_testBit]; simp
  | n + 1 => by
    rw [orb]
    by_cases e : v = n
    · subst e
      split
      · rename_i g; rw [Nat.testBit_or, Nat.testBit_two_pow_self, g]; simp
      · rename_i g; rw [orb_bit f v v]; simp at g; simp [g]
    · have e2 : decide (v < n + 1) = decide (v < n) := by
        by_cases q : v < n
        · rw [decide_eq_true q, decide_eq_true (by omega)]
        · rw [decide_eq_false q, decide_eq_false (by omega)]
      rw [e2]
      split
      · rw [Nat.testBit_or, orb_bit f v n, Nat.testBit_two_pow, decide_eq_false (show ¬ n = v by omega), Bool.or_false]
      · exact orb_bit f v n
theorem bit_ext {a c : Nat} (h : ∀ i, a.testBit i = c.testBit i) : a = c := Nat.eq_of_testBit_eq h
theorem vaI_bit {K : CK} {b : Int} {W : Int} {v i : Nat} (hi : sO K i b ≠ 999) : ∀ (k j acc : Nat), (vaI W (sO K i b) i (soC K b k j) acc).testBit v = (acc.testBit v && decide (mR W (sW K b v) i k j = 0))
  | 0, _, acc => by rw [soC, vaI, mR]; simp
  | k + 1, j, acc => by
    rw [soC, mR, show ((j : Int) + 1) = ((j + 1 : Nat) : Int) by omega]
    have hn := mR_nn W (sW K b v) i k ((j + 1 : Nat) : Int)
    by_cases g : sO K j b = 999
    · have hj : sW K b v j = 999 := by unfold sW; split <;> first | rfl | exact g
      rw [if_pos g, if_pos (ag_999r hj), Int.zero_add]
      exact vaI_bit hi k (j + 1) acc
    · rw [if_neg g, vaI, vaI_bit hi k (j + 1)]
      by_cases gw : wl W (sO K i b - sO K j b) = true
      · have ha : agP W (sW K b v i) (sW K b v j) = true := by
          unfold sW
          split
          · exact ag_999l rfl
          · split
            · exact ag_999r rfl
            · rw [ag_wl hi g]; exact gw
        rw [if_pos gw, if_pos ha, Int.zero_add]
      · rw [if_neg gw, Nat.testBit_and, Nat.testBit_or, Nat.testBit_two_pow, Nat.testBit_two_pow]
        by_cases e : (i : Int) = v ∨ (j : Int) = v
        · have ha : agP W (sW K b v i) (sW K b v j) = true := by
            unfold sW
            rcases e with e | e
            · rw [if_pos e]; exact ag_999l rfl
            · rw [if_pos e]; exact ag_999r rfl
          have : (decide ((i : Int).toNat = v) || decide ((j : Int).toNat = v)) = true := by
            rcases e with e | e
            · rw [decide_eq_true (by omega)]; rfl
            · rw [decide_eq_true (show (j : Int).toNat = v by omega), Bool.or_true]
          rw [if_pos ha, Int.zero_add, this, Bool.and_true]
        · have ha : ¬ agP W (sW K b v i) (sW K b v j) = true := by
            unfold sW
            rw [if_neg (fun q => e (Or.inl q)), if_neg (fun q => e (Or.inr q)), ag_wl hi g]; exact gw
          rw [if_neg ha, decide_eq_false (show ¬ (i : Int).toNat = v by omega), decide_eq_false (show ¬ (j : Int).toNat = v by omega), decide_eq_false (show ¬ (1 + mR W (sW K b v) i k ((j + 1 : Nat) : Int) = 0) by omega)]
          simp
theorem vaP_bit {K : CK} {b : Int} {W : Int} {v nv : Nat} : ∀ (k i acc : Nat), i + k = nv → (vaP W (soC K b k i) acc).testBit v = (acc.testBit v && decide (mC W (sW K b v) nv k i = 0))
  | 0, _, acc, _ => by rw [soC, vaP, mC]; simp
  | k + 1, i, acc, h => by
    rw [soC, mC, show ((nv : Int) - ((i : Int) + 1)).toNat = k by omega, show ((i : Int) + 1) = ((i + 1 : Nat) : Int) by omega]
    have hn := mC_nn W (sW K b v) nv k ((i + 1 : Nat) : Int)
    have hn2 := mR_nn W (sW K b v) i k ((i + 1 : Nat) : Int)
    by_cases g : sO K i b = 999
    · rw [if_pos g, mR_999 (by unfold sW; split <;> first | rfl | exact g), Int.zero_add]
      exact vaP_bit k (i + 1) acc (by omega)
    · rw [if_neg g, vaP, vaP_bit (nv := nv) k (i + 1) _ (by omega), vaI_bit g]
      by_cases e1 : mR W (sW K b v) i k ((i + 1 : Nat) : Int) = 0
      · rw [e1, Int.zero_add]; simp
      · rw [decide_eq_false e1, decide_eq_false (show ¬ (mR W (sW K b v) i k ((i + 1 : Nat) : Int) + mC W (sW K b v) nv k ((i + 1 : Nat) : Int) = 0) by omega)]; simp
theorem vaB_bit (K : CK) (v : Nat) : ∀ (k b acc : Nat), (vaB K k b acc).testBit v = (acc.testBit v && decide (mS K v (b + k) - mS K v b = 0))
  | 0, b, acc => by rw [vaB, Nat.add_zero, Int.sub_self]; simp
  | k + 1, b, acc => by
    have h1 := mS_mono K v (b + 1) k
    have h2 := mI_nn K b v
    have h3 : mS K v (b + 1) = mS K v b + mI K b v := rfl
    rw [vaB, vaB_bit K v k (b + 1), so_C, vaP_bit _ 0 acc (show 0 + (kK K).length = (kK K).length by omega), show b + 1 + k = b + (k + 1) by omega]
    have e0 : mC (kW K) (sW K b v) (kK K).length (kK K).length ((0 : Nat) : Int) = mI K b v := rfl
    rw [e0]
    rw [show b + 1 + k = b + (k + 1) by omega] at h1
    by_cases e1 : mI K b v = 0
    · rw [e1, show mS K v (b + (k + 1)) - mS K v (b + 1) = mS K v (b + (k + 1)) - mS K v b by omega]; simp
    · rw [decide_eq_false e1, decide_eq_false (show ¬ (mS K v (b + (k + 1)) - mS K v b = 0) by omega)]; simp
theorem x_silent (S : St) : s_silent S = t_silent S := by
  unfold s_silent t_silent
  refine Prod.ext ?_ rfl
  refine congrArg (fun n : Nat => (n : Int)) (bit_ext (fun v => ?_))
  rw [vaB_bit, orb_bit, Nat.testBit_two_pow_sub_one, Nat.zero_add]
  congr 2
  show (mS (nK S) v _ - 0 = 0) = (_ = _)
  rw [Int.sub_zero]
/-! unison -/
theorem uI_un {K : CK} {b i : Int} : ∀ (k j : Nat) (s : Int), uI K b i k j s ≠ 0 ↔ (s ≠ 0 ∨ (sO K i b ≠ 999 ∧ unI (sO K i b) (soC K b k j) = true))
  | 0, _, s => by rw [uI, soC, unI]; simp
  | k + 1, j, s => by
    rw [uI, soC, show ((j : Int) + 1) = ((j + 1 : Nat) : Int) by omega, uI_un k (j + 1)]
    by_cases g : sO K j b = 999
    · rw [if_pos g]
      by_cases q : s ≠ 0 ∨ sO K i b ≠ 999 ∧ sO K i b = sO K j b
      · rw [if_pos q]
        rcases q with q | q
        · exact ⟨fun _ => Or.inl q, fun _ => Or.inl (by omega)⟩
        · omega
      · rw [if_neg q]
        constructor
        · rintro (z | z)
          · omega
          · exact Or.inr z
        · rintro (z | z)
          · exact absurd (Or.inl z) q
          · exact Or.inr z
    · rw [if_neg g, unI, Bool.or_eq_true, decide_eq_true_eq]
      by_cases q : s ≠ 0 ∨ sO K i b ≠ 999 ∧ sO K i b = sO K j b
      · rw [if_pos q]
        refine ⟨fun _ => ?_, fun _ => Or.inl (by omega)⟩
        rcases q with q | q
        · exact Or.inl q
        · exact Or.inr ⟨q.1, Or.inl q.2⟩
      · rw [if_neg q]
        constructor
        · rintro (z | z)
          · omega
          · exact Or.inr ⟨z.1, Or.inr z.2⟩
        · rintro (z | ⟨z1, z2 | z2⟩)
          · exact absurd (Or.inl z) q
          · exact absurd (Or.inr ⟨z1, z2⟩) q
          · exact Or.inr ⟨z1, z2⟩
theorem uO_un {K : CK} {b : Int} : ∀ (k i : Nat) (s : Int), i + k = (kK K).length → (uO K b k i s ≠ 0 ↔ (s ≠ 0 ∨ unP (soC K b k i) = true))
  | 0, _, s, _ => by rw [uO, soC, unP]; simp
  | k + 1, i, s, h => by
    rw [uO, soC, show (((kK K).length : Int) - ((i : Int) + 1)).toNat = k by omega, show ((i : Int) + 1) = ((i + 1 : Nat) : Int) by omega, uO_un k (i + 1) _ (by omega), uI_un]
    by_cases g : sO K i b = 999
    · rw [if_pos g]
      constructor
      · rintro ((z | z) | z)
        · exact Or.inl z
        · exact absurd g z.1
        · exact Or.inr z
      · rintro (z | z)
        · exact Or.inl (Or.inl z)
        · exact Or.inr z
    · rw [if_neg g, unP, Bool.or_eq_true]
      constructor
      · rintro ((z | z) | z)
        · exact Or.inl z
        · exact Or.inr (Or.inl z.2)
        · exact Or.inr (Or.inr z)
      · rintro (z | z | z)
        · exact Or.inl (Or.inl z)
        · exact Or.inl (Or.inr ⟨g, z⟩)
        · exact Or.inr z
theorem x_unS (K : CK) : ∀ n, unS K n = uS K n
  | 0 => rfl
  | n + 1 => by
    rw [unS, uS, x_unS K n, so_C]
    have h : uO K n (kK K).length 0 0 ≠ 0 ↔ _ := uO_un (K := K) (b := (n : Int)) (kK K).length 0 0 (by omega)
    congr 1
    by_cases g : unP (soC K (n : Int) (kK K).length 0) = true
    · rw [if_pos g, if_pos (h.mpr (Or.inr g))]
    · rw [if_neg g, if_neg (fun q => (h.mp q).elim (fun z => z rfl) g)]
theorem x_unison (S : St) : s_unison S = t_unison S := by unfold s_unison t_unison; rw [x_unS]
theorem x_illQ (S : St) (b : Int) : s_ill S b = t_ill S b := by unfold s_ill t_ill; rw [x_ill]
theorem x_allIll (S : St) : s_allIll S = t_allIll S := by unfold s_allIll t_allIll; rw [x_illS]
theorem mFb_bd (K : CK) : ∀ k b : Nat, mFb K k b = -9 ∨ 0 ≤ mFb K k b
  | 0, _ => Or.inl rfl
  | k + 1, b => by
    rw [mFb]
    split
    · exact Or.inr (by omega)
    · exact mFb_bd K k (b + 1)
theorem x_first (S : St) (w : Int) : s_first S w = t_first S w := by
  unfold s_first t_first
  rw [x_fIB, x_fp]
  by_cases g : w ≠ 0 ∧ w ≠ 1
  · rw [if_pos g, if_pos (show w < 0 ∨ w > 1 by omega)]
  · rw [if_neg g, if_neg (show ¬ (w < 0 ∨ w > 1) by omega)]
    by_cases g2 : mFb (nK S) (q_endK (nK S)).toNat 0 = -9
    · rw [if_pos (show w = 0 ∨ mFb (nK S) (q_endK (nK S)).toNat 0 = -9 from Or.inr g2), if_pos g2, g2]
    · rw [if_neg g2]
      by_cases g3 : w = 0
      · rw [if_pos (show w = 0 ∨ mFb (nK S) (q_endK (nK S)).toNat 0 = -9 from Or.inl g3), if_pos g3]
      · rw [if_neg (show ¬ (w = 0 ∨ mFb (nK S) (q_endK (nK S)).toNat 0 = -9) by omega), if_neg g3]
