/-! every question keeps what is told in its bounds -/
theorem w_rf {S : St} (w : wSt S) (k : Int) : wSt (rfS S k).2 := by
  obtain ⟨w1, w2, w3, w4, w5, w6, w7, w8⟩ := w
  exact ⟨w1, w2, w3, w4, by show (rset _ _ _).length = 6; rw [rset_len]; exact w5, w6, w7, w8⟩
theorem w_K {S : St} (w : wSt S) {K : CK} (h : vK K 12 6) : wSt (wK_ S K) := ⟨h, w.2⟩
theorem w_X {S : St} (w : wSt S) {xs : List Int} (h : ∀ x ∈ xs, 0 ≤ x ∧ x ≤ 255) (hl : xs.length ≤ 80) : wSt (wX_ S xs) := by
  obtain ⟨w1, w2, w3, w4, w5, w6, w7, w8⟩ := w
  exact ⟨w1, w2, h, w4, w5, w6, hl, w8⟩
theorem w_H {S : St} (w : wSt S) {xs : List Int} (h : ∀ x ∈ xs, 0 ≤ x ∧ x ≤ 60) (hl : xs.length ≤ 12) : wSt (wH_ S xs) := by
  obtain ⟨w1, w2, w3, w4, w5, w6, w7, w8⟩ := w
  exact ⟨w1, w2, w3, h, w5, w6, w7, hl⟩
theorem w_O {S : St} (w : wSt S) {K : CK} (h : vK K 12 6) : wSt (wO_ S K) := by
  obtain ⟨w1, w2, w3, w4, w5, w6, w7, w8⟩ := w
  exact ⟨w1, h, w3, w4, w5, by show (0 : Int) ≤ 1 ∧ (1 : Int) ≤ 1; omega, w7, w8⟩
theorem nil_all {P : Int → Prop} : ∀ x ∈ ([] : List Int), P x := fun _ h => absurd h List.not_mem_nil
theorem vK_tellA {xs : List Int} : ∀ (k : Nat) (p t : Int) (K : CK), vK K 12 6 → 0 ≤ p → (p < xs.length → ffA xs k p = 0) → vK (tellA xs k p t K).2 12 6
  | 0, _, _, _, w, _, _ => w
  | k + 1, p, t, K, w, hp, hf => by
    rw [tellA]
    by_cases g : p < xs.length
    · rw [if_pos g]
      have hf := hf g
      rw [ffA] at hf
      have hz : inF xs p = 0 := by
        by_cases q : inF xs p = 0
        · exact q
        · rw [if_pos q] at hf; exact absurd hf q
      rw [if_neg (by omega)] at hf
      have fb := fmL_bd xs p
      cases hT : tellS xs K p (p + fmL xs p) with
      | none => exact w
      | some K' => exact vK_tellA k _ _ _ (vK_tell w hp hz hT) (by omega) (fun q => by rw [if_neg (by omega)] at hf; exact hf)
    · rw [if_neg g]; exact w
theorem w_letter {S : St} (w : wSt S) (c : Int) : wSt (s_letter S c).2 := by
  unfold s_letter
  split
  · exact w_rf w _
  · rename_i g
    split
    · exact w_rf w _
    · have hc := oS_0 g
      refine w_X w (app_all w.2.2.1 hc) ?_
      rw [List.length_append, List.length_singleton]; omega
theorem w_canon {S : St} (w : wSt S) : wSt (s_canon S).2 := by
  unfold s_canon
  split
  · exact w_X w nil_all (by decide)
  · rename_i g
    split
    · exact w_X (w_K w (vK_tellA 80 0 0 _ w.1 (by omega) (fun _ => by omega))) nil_all (by decide)
    · exact w_X w nil_all (by decide)
theorem w_note {S : St} (w : wSt S) (n x : Int) : wSt (s_note S n x).2 := by
  unfold s_note
  repeat' split
  all_goals first | exact w | exact w_rf w _
theorem w_voice {S : St} (w : wSt S) (n x : Int) : wSt (s_voice S n x).2 := by
  unfold s_voice
  repeat' split
  all_goals first | exact w | exact w_rf w _
theorem w_pitch {S : St} (w : wSt S) (n x : Int) : wSt (s_pitch S n x).2 := by
  unfold s_pitch
  split
  · exact w_rf w _
  · split
    · exact w_rf w _
    · rename_i g; exact w_K w (vK.setP w.1 (oS_0 g))
theorem w_enter {S : St} (w : wSt S) (n x : Int) : wSt (s_enter S n x).2 := by
  unfold s_enter
  split
  · exact w_rf w _
  · split
    · exact w_rf w _
    · rename_i g
      obtain ⟨w1, w2, w3, w4, w5, w6, w7, w8, w9, w10, w11⟩ := w.1
      exact w_K w ⟨w1, w2, w3, w4, w5, w6, by show (rset _ _ _).length = _; rw [rset_len]; exact w7, w8, w9, rset_all w10 (oS_0 g), w11⟩
theorem w_rounds {S : St} (w : wSt S) (x : Int) : wSt (s_rounds S x).2 := by
  unfold s_rounds
  split
  · exact w_rf w _
  · rename_i g
    have e : setR (nK S) x = setS (setR (nK S) x) (kS (nK S)) := rfl
    show wSt (wK_ S (setR (nK S) x))
    rw [e]
    exact w_K w (vK_setRS w.1 (oS_0 g) w.k.sp)
theorem w_step {S : St} (w : wSt S) (x : Int) : wSt (s_step S x).2 := by
  unfold s_step
  split
  · exact w_rf w _
  · rename_i g
    have e : setS (nK S) x = setS (setR (nK S) (kR (nK S))) x := rfl
    show wSt (wK_ S (setS (nK S) x))
    rw [e]
    exact w_K w (vK_setRS w.1 w.k.rd (oS_0 g))
theorem w_law {S : St} (w : wSt S) (x : Int) : wSt (s_law S x).2 := by
  unfold s_law
  split
  · exact w_rf w _
  · rename_i g; exact w_K w (vK_setW w.1 (oS_0 g))
theorem w_sound {S : St} (w : wSt S) (n x : Int) : wSt (s_sound S n x).2 := by
  unfold s_sound
  repeat' split
  all_goals first | exact w | exact w_rf w _
theorem w_ill {S : St} (w : wSt S) (x : Int) : wSt (s_ill S x).2 := by
  unfold s_ill
  repeat' split
  all_goals first | exact w | exact w_rf w _
theorem w_first {S : St} (w : wSt S) (x : Int) : wSt (s_first S x).2 := by
  unfold s_first
  repeat' split
  all_goals first | exact w | exact w_rf w _
theorem w_entries {S : St} (w : wSt S) (n x : Int) : wSt (s_entries S n x).2 := by
  unfold s_entries
  repeat' split
  all_goals first | exact w | exact w_rf w _
theorem w_changed {S : St} (w : wSt S) (x : Int) (ms : List Int) : wSt (s_changed S x ms).2 := by
  unfold s_changed
  repeat' split
  all_goals first | exact w | exact w_rf w _
theorem w_agreeing {S : St} (w : wSt S) (n x : Int) : wSt (s_agreeing S n x).2 := by
  unfold s_agreeing
  repeat' split
  all_goals first | exact w | exact w_rf w _
theorem w_range {S : St} (w : wSt S) (n x : Int) : wSt (s_range S n x).2 := by
  unfold s_range
  repeat' split
  all_goals first | exact w | exact w_rf w _
theorem w_stop {S : St} (w : wSt S) (x : Int) : wSt (s_stop S x).2 := by
  unfold s_stop
  repeat' split
  all_goals first | exact w | exact w_rf w _
theorem w_row {S : St} (w : wSt S) (x : Int) : wSt (s_row S x).2 := by
  unfold s_row
  split
  · exact w_rf w _
  · rename_i g
    split
    · exact w_rf w _
    · refine w_H w (app_all w.2.2.2.1 (oS_0 g)) ?_
      rw [List.length_append, List.length_singleton]; omega
theorem w_who {S : St} (w : wSt S) (x : Int) : wSt (s_who S x).2 := by
  unfold s_who
  repeat' split
  all_goals first | exact w | exact w_rf w _
theorem w_judge {S : St} (w : wSt S) (n x : Int) : wSt (s_judge S n x).2 := by
  unfold s_judge
  repeat' split
  all_goals first | exact w_rf w _ | exact w_H w nil_all (by decide)
theorem w_seeds {S : St} (w : wSt S) (n x : Int) : wSt (s_seeds S n x).2 := by
  unfold s_seeds
  repeat' split
  all_goals first | exact w | exact w_rf w _
theorem w_image {S : St} (w : wSt S) : wSt (s_image S).2 := w_O w w.1
theorem w_on {S : St} (w : wSt S) : wSt (s_on S).2 := by
  unfold s_on
  split
  · exact w_rf w _
  · exact w_K w w.2.1
theorem w_count {S : St} (w : wSt S) (x : Int) : wSt (s_count S x).2 := by
  unfold s_count
  repeat' split
  all_goals first | exact w | exact w_rf w _
