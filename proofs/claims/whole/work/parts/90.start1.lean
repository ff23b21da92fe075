/-- what the law's start gives -/
theorem start_D {args : Array Value} {s : State} (hw : ∀ w ∈ wsAll, w.before args s = true) : ∃ (D : va_G) (A : Nat → ClassId), va_K D cl [(A 0, .int), (A 1, .long), (A 2, .char)] s := by
  obtain ⟨c0, i0, k0⟩ := u_known (ws := wsAll) (N := 9) (T := T_Canon) hw in_Canon (hw _ ni_Canon)
  obtain ⟨c1, i1, k1⟩ := u_known (ws := wsAll) (N := 2) (T := T_Meetings) hw in_Meetings (hw _ ni_Meetings)
  obtain ⟨c2, i2, k2⟩ := u_known (ws := wsAll) (N := 3) (T := T_Mind) hw in_Mind (hw _ ni_Mind)
  obtain ⟨c3, i3, k3⟩ := u_known (ws := wsAll) (N := 2) (T := T_Row) hw in_Row (hw _ ni_Row)
  obtain ⟨c4, i4, k4⟩ := u_known (ws := wsAll) (N := 1) (T := T_Text) hw in_Text (hw _ ni_Text)
  obtain ⟨c5, i5, k5⟩ := u_known (ws := wsAll) (N := 4) (T := T_Tune) hw in_Tune (hw _ ni_Tune)
  obtain ⟨c6, i6, k6⟩ := u_known (ws := wsAll) (N := 2) (T := T_Walks) hw in_Walks (hw _ ni_Walks)
  obtain ⟨c7, i7, k7⟩ := u_known (ws := wsAll) (N := 8) (T := T_Main) hw in_Main (hw _ ni_Main)
  obtain ⟨c8, i8, k8⟩ := u_known (ws := wsAll) (N := 17) (T := T_Model) hw in_Model (hw _ ni_Model)
  obtain ⟨a0, y0, z0, f0, g0, h0⟩ := Cond.arrayClass_spec (hw _ ac_int)
  obtain ⟨a1, y1, z1, f1, g1, h1⟩ := Cond.arrayClass_spec (hw _ ac_long)
  obtain ⟨a2, y2, z2, f2, g2, h2⟩ := Cond.arrayClass_spec (hw _ ac_char)
  refine ⟨(fun c => [c0, c1, c2, c3, c4, c5, c6, c7, c8].getD c c0, fun c => [i0, i1, i2, i3, i4, i5, i6, i7, i8].getD c i0), fun t => [a0, a1, a2].getD t a0, ?_, ?_⟩
  · intro c q hq
    match c, hq with
    | 0, hq => cases hq; exact k0
    | 1, hq => cases hq; exact k1
    | 2, hq => cases hq; exact k2
    | 3, hq => cases hq; exact k3
    | 4, hq => cases hq; exact k4
    | 5, hq => cases hq; exact k5
    | 6, hq => cases hq; exact k6
    | 7, hq => cases hq; exact k7
    | 8, hq => cases hq; exact k8
    | n + 9, hq => simp at hq
  · intro k q hq
    match k, hq with
    | 0, hq => cases hq; exact ⟨fun N z => ⟨(fun k h => by cases h), y0, g0, z0, h0⟩, f0⟩
    | 1, hq => cases hq; exact ⟨fun N z => ⟨(fun k h => by cases h), y1, g1, z1, h1⟩, f1⟩
    | 2, hq => cases hq; exact ⟨fun N z => ⟨(fun k h => by cases h), y2, g2, z2, h2⟩, f2⟩
    | n + 3, hq => simp at hq
theorem lt6 {P : Nat → Prop} (h0 : P 0) (h1 : P 1) (h2 : P 2) (h3 : P 3) (h4 : P 4) (h5 : P 5) : ∀ i, i < 6 → P i := fun i hi => match i, hi with
  | 0, _ => h0
  | 1, _ => h1
  | 2, _ => h2
  | 3, _ => h3
  | 4, _ => h4
  | 5, _ => h5
  | n + 6, h => absurd h (by omega)
set_option maxHeartbeats 4000000 in
theorem start_S {args : Array Value} {s : State} (hgv : (Jvm.Cond.and given_1 narrow_1).before args s = true) : ∃ adK adV : Nat → Nat, vk_S 6 sLen sByt adK adV (fun q => s.heap.size ≤ q) s s.heap ∧ ∀ i : Nat, i < 6 → (Term.string R_Text (sIdx i)).eval args s none [] s = some (.ref (adK i)) := by
  have hs := flat_of_before _ hgv
  refine vk_Sof (tm := fun i => Term.string R_Text (sIdx i)) ?_ ?_ ?_ ?_ ?_ ?_ ?_ (fun a ha => by omega)
  · exact fun i hi => by have := sLen_bd i hi; omega
  · exact lt6 (hs _ (by decide +kernel)) (hs _ (by decide +kernel)) (hs _ (by decide +kernel)) (hs _ (by decide +kernel)) (hs _ (by decide +kernel)) (hs _ (by decide +kernel))
  · exact lt6 (hs _ (by decide +kernel)) (hs _ (by decide +kernel)) (hs _ (by decide +kernel)) (hs _ (by decide +kernel)) (hs _ (by decide +kernel)) (hs _ (by decide +kernel))
  · exact lt6 (hs _ (by decide +kernel)) (hs _ (by decide +kernel)) (hs _ (by decide +kernel)) (hs _ (by decide +kernel)) (hs _ (by decide +kernel)) (hs _ (by decide +kernel))
  · exact lt6 (hs _ (by decide +kernel)) (hs _ (by decide +kernel)) (hs _ (by decide +kernel)) (hs _ (by decide +kernel)) (hs _ (by decide +kernel)) (hs _ (by decide +kernel))
  · refine lt6 (P := fun i => ∀ j : Nat, j < sLen.getD i 0 → _) ?_ ?_ ?_ ?_ ?_ ?_
    · intro j hj
      match j, hj with
      | 0, _ => exact hs _ (by decide +kernel)
      | 1, _ => exact hs _ (by decide +kernel)
      | 2, _ => exact hs _ (by decide +kernel)
      | 3, _ => exact hs _ (by decide +kernel)
      | 4, _ => exact hs _ (by decide +kernel)
      | 5, _ => exact hs _ (by decide +kernel)
      | n + 6, h => exact absurd h (by show ¬ n + 6 < 6; omega)
    · intro j hj
      match j, hj with
      | 0, _ => exact hs _ (by decide +kernel)
      | 1, _ => exact hs _ (by decide +kernel)
      | 2, _ => exact hs _ (by decide +kernel)
      | 3, _ => exact hs _ (by decide +kernel)
      | 4, _ => exact hs _ (by decide +kernel)
      | 5, _ => exact hs _ (by decide +kernel)
      | 6, _ => exact hs _ (by decide +kernel)
      | n + 7, h => exact absurd h (by show ¬ n + 7 < 7; omega)
    · intro j hj
      match j, hj with
      | 0, _ => exact hs _ (by decide +kernel)
      | 1, _ => exact hs _ (by decide +kernel)
      | 2, _ => exact hs _ (by decide +kernel)
      | 3, _ => exact hs _ (by decide +kernel)
      | 4, _ => exact hs _ (by decide +kernel)
      | 5, _ => exact hs _ (by decide +kernel)
      | n + 6, h => exact absurd h (by show ¬ n + 6 < 6; omega)
    · intro j hj
      match j, hj with
      | 0, _ => exact hs _ (by decide +kernel)
      | 1, _ => exact hs _ (by decide +kernel)
      | 2, _ => exact hs _ (by decide +kernel)
      | 3, _ => exact hs _ (by decide +kernel)
      | n + 4, h => exact absurd h (by show ¬ n + 4 < 4; omega)
    · intro j hj
      match j, hj with
      | 0, _ => exact hs _ (by decide +kernel)
      | 1, _ => exact hs _ (by decide +kernel)
      | 2, _ => exact hs _ (by decide +kernel)
      | n + 3, h => exact absurd h (by show ¬ n + 3 < 3; omega)
    · intro j hj
      match j, hj with
      | 0, _ => exact hs _ (by decide +kernel)
      | 1, _ => exact hs _ (by decide +kernel)
      | 2, _ => exact hs _ (by decide +kernel)
      | 3, _ => exact hs _ (by decide +kernel)
      | n + 4, h => exact absurd h (by show ¬ n + 4 < 4; omega)
  · refine lt6 (P := fun i => ∀ j : Nat, i < 6 → j < 6 → i ≠ j → _) ?_ ?_ ?_ ?_ ?_ ?_ |> fun h i j hi hj hne => h i hi j hi hj hne
    · intro j _ hj hne
      match j, hj, hne with
      | 0, _, hne => exact absurd rfl hne
      | 1, _, _ => exact Or.inr (hs _ (by decide +kernel))
      | 2, _, _ => exact Or.inr (hs _ (by decide +kernel))
      | 3, _, _ => exact Or.inr (hs _ (by decide +kernel))
      | 4, _, _ => exact Or.inr (hs _ (by decide +kernel))
      | 5, _, _ => exact Or.inr (hs _ (by decide +kernel))
      | n + 6, h, _ => exact absurd h (by omega)
    · intro j _ hj hne
      match j, hj, hne with
      | 0, _, _ => exact Or.inl (hs _ (by decide +kernel))
      | 1, _, hne => exact absurd rfl hne
      | 2, _, _ => exact Or.inl (hs _ (by decide +kernel))
      | 3, _, _ => exact Or.inl (hs _ (by decide +kernel))
      | 4, _, _ => exact Or.inl (hs _ (by decide +kernel))
      | 5, _, _ => exact Or.inl (hs _ (by decide +kernel))
      | n + 6, h, _ => exact absurd h (by omega)
    · intro j _ hj hne
      match j, hj, hne with
      | 0, _, _ => exact Or.inl (hs _ (by decide +kernel))
      | 1, _, _ => exact Or.inr (hs _ (by decide +kernel))
      | 2, _, hne => exact absurd rfl hne
      | 3, _, _ => exact Or.inl (hs _ (by decide +kernel))
      | 4, _, _ => exact Or.inl (hs _ (by decide +kernel))
      | 5, _, _ => exact Or.inl (hs _ (by decide +kernel))
      | n + 6, h, _ => exact absurd h (by omega)
    · intro j _ hj hne
      match j, hj, hne with
      | 0, _, _ => exact Or.inl (hs _ (by decide +kernel))
      | 1, _, _ => exact Or.inr (hs _ (by decide +kernel))
      | 2, _, _ => exact Or.inr (hs _ (by decide +kernel))
      | 3, _, hne => exact absurd rfl hne
      | 4, _, _ => exact Or.inl (hs _ (by decide +kernel))
      | 5, _, _ => exact Or.inl (hs _ (by decide +kernel))
      | n + 6, h, _ => exact absurd h (by omega)
    · intro j _ hj hne
      match j, hj, hne with
      | 0, _, _ => exact Or.inl (hs _ (by decide +kernel))
      | 1, _, _ => exact Or.inr (hs _ (by decide +kernel))
      | 2, _, _ => exact Or.inr (hs _ (by decide +kernel))
      | 3, _, _ => exact Or.inr (hs _ (by decide +kernel))
      | 4, _, hne => exact absurd rfl hne
      | 5, _, _ => exact Or.inl (hs _ (by decide +kernel))
      | n + 6, h, _ => exact absurd h (by omega)
    · intro j _ hj hne
      match j, hj, hne with
      | 0, _, _ => exact Or.inl (hs _ (by decide +kernel))
      | 1, _, _ => exact Or.inr (hs _ (by decide +kernel))
      | 2, _, _ => exact Or.inr (hs _ (by decide +kernel))
      | 3, _, _ => exact Or.inr (hs _ (by decide +kernel))
      | 4, _, _ => exact Or.inr (hs _ (by decide +kernel))
      | 5, _, hne => exact absurd rfl hne
      | n + 6, h, _ => exact absurd h (by omega)
