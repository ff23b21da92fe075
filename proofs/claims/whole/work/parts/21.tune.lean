/-! the tune -/
def nobF : Nat → List Int → List Int
  | _, [] => []
  | i, l :: t => List.replicate l.toNat (i : Int) ++ nobF (i + 1) t
/-- the note of each beat -/
def nob (ls : List Int) : List Int := nobF 0 ls
theorem nobF_snoc : ∀ (i : Nat) (ls : List Int) (l : Int), nobF i (ls ++ [l]) = nobF i ls ++ List.replicate l.toNat ((i + ls.length : Nat) : Int)
  | i, [], l => by simp [nobF]
  | i, a :: t, l => by
    show List.replicate a.toNat (i : Int) ++ nobF (i + 1) (t ++ [l]) = (List.replicate a.toNat (i : Int) ++ nobF (i + 1) t) ++ _
    rw [nobF_snoc (i + 1) t l, List.append_assoc, List.length_cons]
    congr 3
    congr 1
    omega
theorem nob_snoc (ls : List Int) (l : Int) : nob (ls ++ [l]) = nob ls ++ List.replicate l.toNat (ls.length : Int) := by
  rw [nob, nobF_snoc, Nat.zero_add]; rfl
theorem nobF_mem : ∀ (i : Nat) (ls : List Int) (x : Int), x ∈ nobF i ls → (i : Int) ≤ x ∧ x < (i + ls.length : Nat)
  | i, [], x, h => by simp [nobF] at h
  | i, a :: t, x, h => by
    rcases List.mem_append.mp h with h | h
    · rw [(List.mem_replicate.mp h).2, List.length_cons]
      omega
    · have := nobF_mem (i + 1) t x h
      rw [List.length_cons]
      omega
theorem rget_mem {xs : List Int} {i : Int} (h : 0 ≤ i ∧ i < xs.length) : rget xs i ∈ xs := by
  rw [rget, if_pos h, List.getD_eq_getElem?_getD, List.getElem?_eq_getElem (show i.toNat < xs.length by omega)]
  exact List.getElem_mem _
theorem rget_bd {xs : List Int} {lo hi : Int} (h : ∀ x ∈ xs, lo ≤ x ∧ x ≤ hi) (h0 : lo ≤ 0) (h1 : 0 ≤ hi) (i : Int) : lo ≤ rget xs i ∧ rget xs i ≤ hi := by
  by_cases hi : 0 ≤ i ∧ i < xs.length
  · exact h _ (rget_mem hi)
  · rw [rget, if_neg hi]; exact ⟨h0, h1⟩
theorem nob_bd {ls : List Int} (h : ls.length ≤ 13) (i : Int) : 0 ≤ rget (nob ls) i ∧ rget (nob ls) i ≤ 13 := by
  refine rget_bd (fun x hx => ?_) (by decide) (by decide) i
  have := nobF_mem 0 ls x hx
  omega
def pTune (h : AH) (t : Nat) (ps ls : List Int) : Prop := h.2 t = some (aO 5 [aR (t + 1), aR (t + 3), aR (t + 5), aI (nob ls).length]) ∧ pRow h (t + 1) 13 ps ∧ pRow h (t + 3) 13 ls ∧ pRow h (t + 5) 37 (nob ls)
theorem pTune.fr {h h' : AH} {t lo hi : Nat} {ps ls : List Int} (p : pTune h t ps ls) (f : Fr lo hi h h') (ha : t + 7 ≤ lo ∨ hi ≤ t) : pTune h' t ps ls :=
  ⟨f.at p.1 (by omega), p.2.1.fr f (by omega), p.2.2.1.fr f (by omega), p.2.2.2.fr f (by omega)⟩
theorem pRow.obj {h : AH} {o room : Nat} {xs : List Int} (p : pRow h o room xs) : h.2 o = some (aO 3 [aR (o + 1), aI xs.length]) := by
  obtain ⟨cs, h1, h2⟩ := p; exact h1
theorem pRow.le {h : AH} {o room : Nat} {xs : List Int} (p : pRow h o room xs) : xs.length ≤ room := by
  obtain ⟨cs, h1, h2, h3, h4, h5⟩ := p; exact h4
set_option maxHeartbeats 4000000 in
set_option maxRecDepth 20000 in
theorem c_Tune_notes (G : Gx) {h : AH} {t : Nat} {ps ls : List Int} (hp : pTune h t ps ls) : Ct G Y_Tune_notes 1 0 0 [aR t] h (isR (some (aI ps.length)) h) := by
  obtain ⟨t0, t1, t2, t3⟩ := id hp
  refine Ct.of_V mo_Tune_notes rfl (Nat.le_of_ble_eq_true rfl) rfl ?_
  refine v_aload_n k_Tune_notes_0 rfl ?_
  refine v_getf fl_Tune_14 t0 rfl k_Tune_notes_1 ?_
  refine v_callVr mo_Row_size mi_Row_size mv_Row_size lk_Tune_30 k_Tune_notes_4 t1.obj rfl rfl (Nat.le_of_ble_eq_true rfl) rfl (Nat.le_of_ble_eq_true rfl) (c_Row_size G t1) ?_
  refine v_ireturn k_Tune_notes_7 rfl rfl ?_
  exact ⟨rfl, rfl⟩

set_option maxHeartbeats 4000000 in
set_option maxRecDepth 20000 in
theorem c_Tune_has (G : Gx) {h : AH} {t : Nat} {ps ls : List Int} (hp : pTune h t ps ls) {i : Int} (hi : InR i) : Ct G Y_Tune_has 1 0 0 [aR t, aI i] h (isR (some (aI (if 0 ≤ i ∧ i < ps.length then 1 else 0))) h) := by
  obtain ⟨t0, t1, t2, t3⟩ := id hp
  refine Ct.of_V mo_Tune_has rfl (Nat.le_of_ble_eq_true rfl) rfl ?_
  refine v_aload_n k_Tune_has_0 rfl ?_
  refine v_getf fl_Tune_14 t0 rfl k_Tune_has_1 ?_
  refine v_iload_n k_Tune_has_4 rfl ?_
  refine v_callVr mo_Row_has mi_Row_has mv_Row_has lk_Tune_34 k_Tune_has_5 t1.obj rfl rfl (Nat.le_of_ble_eq_true rfl) rfl (Nat.le_of_ble_eq_true rfl) (c_Row_has G t1 (by omega)) ?_
  refine v_ireturn k_Tune_has_8 rfl (by split <;> rfl) ?_
  exact ⟨rfl, rfl⟩

set_option maxHeartbeats 4000000 in
set_option maxRecDepth 20000 in
theorem c_Tune_pitchOf (G : Gx) {h : AH} {t : Nat} {ps ls : List Int} (hp : pTune h t ps ls) {i : Int} (hi : InR i) : Ct G Y_Tune_pitchOf 1 0 0 [aR t, aI i] h (isR (some (aI (rget ps i))) h) := by
  obtain ⟨t0, t1, t2, t3⟩ := id hp
  refine Ct.of_V mo_Tune_pitchOf rfl (Nat.le_of_ble_eq_true rfl) rfl ?_
  refine v_aload_n k_Tune_pitchOf_0 rfl ?_
  refine v_getf fl_Tune_14 t0 rfl k_Tune_pitchOf_1 ?_
  refine v_iload_n k_Tune_pitchOf_4 rfl ?_
  refine v_callVr mo_Row_get mi_Row_get mv_Row_get lk_Tune_38 k_Tune_pitchOf_5 t1.obj rfl rfl (Nat.le_of_ble_eq_true rfl) rfl (Nat.le_of_ble_eq_true rfl) (c_Row_get G t1 (by omega)) ?_
  refine v_ireturn k_Tune_pitchOf_8 rfl rfl ?_
  exact ⟨rfl, rfl⟩

set_option maxHeartbeats 4000000 in
set_option maxRecDepth 20000 in
theorem c_Tune_lengthOf (G : Gx) {h : AH} {t : Nat} {ps ls : List Int} (hp : pTune h t ps ls) {i : Int} (hi : InR i) : Ct G Y_Tune_lengthOf 1 0 0 [aR t, aI i] h (isR (some (aI (rget ls i))) h) := by
  obtain ⟨t0, t1, t2, t3⟩ := id hp
  refine Ct.of_V mo_Tune_lengthOf rfl (Nat.le_of_ble_eq_true rfl) rfl ?_
  refine v_aload_n k_Tune_lengthOf_0 rfl ?_
  refine v_getf fl_Tune_20 t0 rfl k_Tune_lengthOf_1 ?_
  refine v_iload_n k_Tune_lengthOf_4 rfl ?_
  refine v_callVr mo_Row_get mi_Row_get mv_Row_get lk_Tune_38 k_Tune_lengthOf_5 t2.obj rfl rfl (Nat.le_of_ble_eq_true rfl) rfl (Nat.le_of_ble_eq_true rfl) (c_Row_get G t2 (by omega)) ?_
  refine v_ireturn k_Tune_lengthOf_8 rfl rfl ?_
  exact ⟨rfl, rfl⟩

set_option maxHeartbeats 4000000 in
set_option maxRecDepth 20000 in
theorem c_Tune_noteAt (G : Gx) {h : AH} {t : Nat} {ps ls : List Int} (hp : pTune h t ps ls) {i : Int} (hi : InR i) : Ct G Y_Tune_noteAt 1 0 0 [aR t, aI i] h (isR (some (aI (rget (nob ls) i))) h) := by
  obtain ⟨t0, t1, t2, t3⟩ := id hp
  refine Ct.of_V mo_Tune_noteAt rfl (Nat.le_of_ble_eq_true rfl) rfl ?_
  refine v_aload_n k_Tune_noteAt_0 rfl ?_
  refine v_getf fl_Tune_23 t0 rfl k_Tune_noteAt_1 ?_
  refine v_iload_n k_Tune_noteAt_4 rfl ?_
  refine v_callVr mo_Row_get mi_Row_get mv_Row_get lk_Tune_38 k_Tune_noteAt_5 t3.obj rfl rfl (Nat.le_of_ble_eq_true rfl) rfl (Nat.le_of_ble_eq_true rfl) (c_Row_get G t3 (by omega)) ?_
  refine v_ireturn k_Tune_noteAt_8 rfl rfl ?_
  exact ⟨rfl, rfl⟩

set_option maxHeartbeats 4000000 in
set_option maxRecDepth 20000 in
theorem c_Tune_plainAt (G : Gx) {h : AH} {t : Nat} {ps ls : List Int} (hp : pTune h t ps ls) (hl : ls.length ≤ 13) {i : Int} (hi : InR i) : Ct G Y_Tune_plainAt 1 0 0 [aR t, aI i] h (isR (some (aI (rget ps (rget (nob ls) i)))) h) := by
  obtain ⟨t0, t1, t2, t3⟩ := id hp
  have b1 := nob_bd hl i
  refine Ct.of_V mo_Tune_plainAt rfl (Nat.le_of_ble_eq_true rfl) rfl ?_
  refine v_aload_n k_Tune_plainAt_0 rfl ?_
  refine v_getf fl_Tune_14 t0 rfl k_Tune_plainAt_1 ?_
  refine v_aload_n k_Tune_plainAt_4 rfl ?_
  refine v_getf fl_Tune_23 t0 rfl k_Tune_plainAt_5 ?_
  refine v_iload_n k_Tune_plainAt_8 rfl ?_
  refine v_callVr mo_Row_get mi_Row_get mv_Row_get lk_Tune_38 k_Tune_plainAt_9 t3.obj rfl rfl (Nat.le_of_ble_eq_true rfl) rfl (Nat.le_of_ble_eq_true rfl) (c_Row_get G t3 (by omega)) ?_
  refine v_callVr mo_Row_get mi_Row_get mv_Row_get lk_Tune_38 k_Tune_plainAt_12 t1.obj rfl rfl (Nat.le_of_ble_eq_true rfl) rfl (Nat.le_of_ble_eq_true rfl) (c_Row_get G t1 (by omega)) ?_
  refine v_ireturn k_Tune_plainAt_15 rfl rfl ?_
  exact ⟨rfl, rfl⟩

set_option maxHeartbeats 4000000 in
set_option maxRecDepth 20000 in
theorem c_Tune_setPitch (G : Gx) {h : AH} {t : Nat} {ps ls : List Int} (hp : pTune h t ps ls) {i x : Int} (hi : InR i) : Ct G Y_Tune_setPitch 1 0 0 [aR t, aI i, aI x] h (fun v h' => v = none ∧ pTune h' t (rset ps i x) ls ∧ Fr (t + 2) (t + 3) h h') := by
  obtain ⟨t0, t1, t2, t3⟩ := id hp
  refine Ct.of_V mo_Tune_setPitch rfl (Nat.le_of_ble_eq_true rfl) rfl ?_
  refine v_aload_n k_Tune_setPitch_0 rfl ?_
  refine v_getf fl_Tune_14 t0 rfl k_Tune_setPitch_1 ?_
  refine v_iload_n k_Tune_setPitch_4 rfl ?_
  refine v_iload_n k_Tune_setPitch_5 rfl ?_
  refine v_callV mo_Row_set mi_Row_set mv_Row_set lk_Tune_42 k_Tune_setPitch_6 t1.obj rfl rfl (Nat.le_of_ble_eq_true rfl) rfl (Nat.le_of_ble_eq_true rfl) (c_Row_set G t1 (by omega)) (fun v6 h6 q6 => ?_)
  obtain ⟨rfl, n1, f1⟩ := q6
  refine v_return k_Tune_setPitch_9 rfl ?_
  exact ⟨rfl, ⟨f1.at t0 (by omega), n1, t2.fr f1 (by omega), t3.fr f1 (by omega)⟩, f1⟩

theorem sum_take {ls : List Int} {i : Nat} (hi : i < ls.length) : (ls.take (i + 1)).sum = (ls.take i).sum + rget ls i := by
  rw [rget, if_pos (by omega), List.take_add_one, Int.toNat_natCast, List.getElem?_eq_getElem hi, List.sum_append, List.getD_eq_getElem?_getD, List.getElem?_eq_getElem hi]
  simp
theorem sum_end {ls : List Int} {i : Nat} {n : Int} (h : n ≤ i ∨ ls.length ≤ i) (h2 : (i : Int) ≤ n ∨ i = 0) : (ls.take n.toNat).sum = (ls.take i).sum := by
  by_cases e : n.toNat = i
  · rw [e]
  · rcases h with h | h
    · exfalso; omega
    · rw [List.take_of_length_le h, List.take_of_length_le (by omega)]
set_option maxHeartbeats 4000000 in
set_option maxRecDepth 20000 in
theorem c_Tune_startOf (G : Gx) {h : AH} {t : Nat} {ps ls : List Int} (hp : pTune h t ps ls) {n : Int} (hn : InR n) : Ct G Y_Tune_startOf 1 0 0 [aR t, aI n] h (isR (some (aI (ls.take n.toNat).sum)) h) := by
  obtain ⟨t0, t1, t2, t3⟩ := id hp
  have hl := t2.le
  refine Ct.of_V mo_Tune_startOf rfl (Nat.le_of_ble_eq_true rfl) rfl ?_
  have loop : ∀ (k i : Nat), ls.length < i + k → (i : Int) ≤ n ∨ i = 0 → i ≤ 13 → V G Y_Tune_startOf 1 0 0 4 [some (aR t), some (aI n), some (aI (ls.take i).sum), some (aI i)] [] h (isR (some (aI (ls.take n.toNat).sum)) h) := by
    intro k
    induction k with
    | zero =>
      intro i hi hn2 h13
      have hi2 : ls.length ≤ i := by omega
      refine v_iload_n k_Tune_startOf_4 rfl ?_
      refine v_iload_n k_Tune_startOf_5 rfl ?_
      refine v_icge 37 k_Tune_startOf_6 rfl (by omega) (by omega) (fun c6 => ?_) (fun c6 => ?_)
      · refine v_iload_n k_Tune_startOf_37 rfl ?_
        refine v_ireturn k_Tune_startOf_38 rfl rfl ?_
        exact ⟨congrArg (fun x => some (aI x)) (sum_end (i := i) (by omega) (by omega)).symm, rfl⟩
      · refine v_iload_n k_Tune_startOf_9 rfl ?_
        refine v_aload_n k_Tune_startOf_10 rfl ?_
        refine v_getf fl_Tune_20 t0 rfl k_Tune_startOf_11 ?_
        refine v_callVr mo_Row_size mi_Row_size mv_Row_size lk_Tune_30 k_Tune_startOf_14 t2.obj rfl rfl (Nat.le_of_ble_eq_true rfl) rfl (Nat.le_of_ble_eq_true rfl) (c_Row_size G t2) ?_
        refine v_icge 37 k_Tune_startOf_17 rfl (by omega) (by omega) (fun c17 => ?_) (fun c17 => ?_)
        · refine v_iload_n k_Tune_startOf_37 rfl ?_
          refine v_ireturn k_Tune_startOf_38 rfl rfl ?_
          exact ⟨congrArg (fun x => some (aI x)) (sum_end (i := i) (by omega) (by omega)).symm, rfl⟩
        · exfalso; omega
    | succ k ih =>
      intro i hi hn2 h13
      refine v_iload_n k_Tune_startOf_4 rfl ?_
      refine v_iload_n k_Tune_startOf_5 rfl ?_
      refine v_icge 37 k_Tune_startOf_6 rfl (by omega) (by omega) (fun c6 => ?_) (fun c6 => ?_)
      · refine v_iload_n k_Tune_startOf_37 rfl ?_
        refine v_ireturn k_Tune_startOf_38 rfl rfl ?_
        exact ⟨congrArg (fun x => some (aI x)) (sum_end (i := i) (by omega) (by omega)).symm, rfl⟩
      · refine v_iload_n k_Tune_startOf_9 rfl ?_
        refine v_aload_n k_Tune_startOf_10 rfl ?_
        refine v_getf fl_Tune_20 t0 rfl k_Tune_startOf_11 ?_
        refine v_callVr mo_Row_size mi_Row_size mv_Row_size lk_Tune_30 k_Tune_startOf_14 t2.obj rfl rfl (Nat.le_of_ble_eq_true rfl) rfl (Nat.le_of_ble_eq_true rfl) (c_Row_size G t2) ?_
        refine v_icge 37 k_Tune_startOf_17 rfl (by omega) (by omega) (fun c17 => ?_) (fun c17 => ?_)
        · refine v_iload_n k_Tune_startOf_37 rfl ?_
          refine v_ireturn k_Tune_startOf_38 rfl rfl ?_
          exact ⟨congrArg (fun x => some (aI x)) (sum_end (i := i) (by omega) (by omega)).symm, rfl⟩
        · refine v_iload_n k_Tune_startOf_20 rfl ?_
          refine v_aload_n k_Tune_startOf_21 rfl ?_
          refine v_getf fl_Tune_20 t0 rfl k_Tune_startOf_22 ?_
          refine v_iload_n k_Tune_startOf_25 rfl ?_
          refine v_callVr mo_Row_get mi_Row_get mv_Row_get lk_Tune_38 k_Tune_startOf_26 t2.obj rfl rfl (Nat.le_of_ble_eq_true rfl) rfl (Nat.le_of_ble_eq_true rfl) (c_Row_get G t2 (by omega)) ?_
          refine v_iadd k_Tune_startOf_29 ?_
          refine v_istore_n k_Tune_startOf_30 ⟨Nat.le_of_ble_eq_true rfl, Nat.le_of_ble_eq_true rfl⟩ ?_
          refine v_iinc k_Tune_startOf_31 rfl (Nat.le_of_ble_eq_true rfl) ?_
          refine v_goto k_Tune_startOf_34 (tgt := 4) rfl ?_
          rw [← show (ls.take (i + 1)).sum = (ls.take i).sum + rget ls i from sum_take (by omega)]
          exact ih (i + 1) (by omega) (by omega) (by omega)
  refine v_iconst k_Tune_startOf_0 ?_
  refine v_istore_n k_Tune_startOf_1 ⟨Nat.le_of_ble_eq_true rfl, Nat.le_of_ble_eq_true rfl⟩ ?_
  refine v_iconst k_Tune_startOf_2 ?_
  refine v_istore_n k_Tune_startOf_3 ⟨Nat.le_of_ble_eq_true rfl, Nat.le_of_ble_eq_true rfl⟩ ?_
  exact loop 14 0 (by omega) (Or.inr rfl) (by omega)

theorem radd_rep {xs : List Int} {i : Nat} {x : Int} (h : xs.length + i < 37) : radd 37 (xs ++ List.replicate i x) x = xs ++ List.replicate (i + 1) x := by
  rw [radd, if_pos (by rw [List.length_append, List.length_replicate]; omega), List.replicate_succ', List.append_assoc]
set_option maxHeartbeats 4000000 in
set_option maxRecDepth 20000 in
theorem c_Tune_add (G : Gx) {h : AH} {t : Nat} {ps ls : List Int} (hp : pTune h t ps ls) {p l : Int} (hl : 1 ≤ l ∧ l ≤ 3) (hlen : ps.length = ls.length) (h12 : ps.length < 13) (h37 : (nob ls).length + l.toNat ≤ 37) : Ct G Y_Tune_add 1 0 0 [aR t, aI p, aI l] h (fun v h' => v = none ∧ pTune h' t (ps ++ [p]) (ls ++ [l]) ∧ Fr t (t + 7) h h') := by
  obtain ⟨t0, t1, t2, t3⟩ := id hp
  have heq : nob ls ++ List.replicate l.toNat (ps.length : Int) = nob (ls ++ [l]) := by rw [nob_snoc, hlen]
  refine Ct.of_V mo_Tune_add rfl (Nat.le_of_ble_eq_true rfl) rfl ?_
  have loop : ∀ (k i : Nat) (h1 : AH), l.toNat < i + k → i ≤ l.toNat → h1.2 t = some (aO 5 [aR (t + 1), aR (t + 3), aR (t + 5), aI (nob ls).length]) → pRow h1 (t + 1) 13 (ps ++ [p]) → pRow h1 (t + 3) 13 (ls ++ [l]) → pRow h1 (t + 5) 37 (nob ls ++ List.replicate i (ps.length : Int)) → Fr t (t + 7) h h1 →
      V G Y_Tune_add 1 0 0 27 [some (aR t), some (aI p), some (aI l), some (aI ps.length), some (aI i)] [] h1 (fun v h' => v = none ∧ pTune h' t (ps ++ [p]) (ls ++ [l]) ∧ Fr t (t + 7) h h') := by
    intro k
    induction k with
    | zero => intro i h1 hi hn; omega
    | succ k ih =>
      intro i h1 hi hn s0 s1 s2 s3 f1
      refine v_iload k_Tune_add_27 rfl ?_
      refine v_iload_n k_Tune_add_29 rfl ?_
      refine v_icge 53 k_Tune_add_30 rfl (by omega) (by omega) (fun c30 => ?_) (fun c30 => ?_)
      · refine v_aload_n k_Tune_add_53 rfl ?_
        refine v_aload_n k_Tune_add_54 rfl ?_
        refine v_getf fl_Tune_23 s0 rfl k_Tune_add_55 ?_
        refine v_callVr mo_Row_size mi_Row_size mv_Row_size lk_Tune_30 k_Tune_add_58 s3.obj rfl rfl (Nat.le_of_ble_eq_true rfl) rfl (Nat.le_of_ble_eq_true rfl) (c_Row_size G s3) ?_
        refine v_put fl_Tune_26 s0 (Nat.le_of_ble_eq_true rfl) (fun r hr => by cases hr; exact Or.inl rfl) rfl rfl k_Tune_add_61 (fun h2 e2 f2 => ?_)
        refine v_return k_Tune_add_64 rfl ?_
        have hil : i = l.toNat := by omega
        subst hil
        rw [heq] at s3
        refine ⟨rfl, ⟨?_, s1.fr f2 (by omega), s2.fr f2 (by omega), s3.fr f2 (by omega)⟩, f1.tr f2 (by omega) (by omega)⟩
        rw [e2, ← heq]; rfl
      · refine v_iload k_Tune_add_33 rfl ?_
        refine v_iconst k_Tune_add_35 ?_
        refine v_icge 53 k_Tune_add_36 rfl (by omega) (by omega) (fun c36 => ?_) (fun c36 => ?_)
        · refine v_aload_n k_Tune_add_53 rfl ?_
          refine v_aload_n k_Tune_add_54 rfl ?_
          refine v_getf fl_Tune_23 s0 rfl k_Tune_add_55 ?_
          refine v_callVr mo_Row_size mi_Row_size mv_Row_size lk_Tune_30 k_Tune_add_58 s3.obj rfl rfl (Nat.le_of_ble_eq_true rfl) rfl (Nat.le_of_ble_eq_true rfl) (c_Row_size G s3) ?_
          refine v_put fl_Tune_26 s0 (Nat.le_of_ble_eq_true rfl) (fun r hr => by cases hr; exact Or.inl rfl) rfl rfl k_Tune_add_61 (fun h2 e2 f2 => ?_)
          refine v_return k_Tune_add_64 rfl ?_
          have hil : i = l.toNat := by omega
          subst hil
          rw [heq] at s3
          refine ⟨rfl, ⟨?_, s1.fr f2 (by omega), s2.fr f2 (by omega), s3.fr f2 (by omega)⟩, f1.tr f2 (by omega) (by omega)⟩
          rw [e2, ← heq]; rfl
        · refine v_aload_n k_Tune_add_39 rfl ?_
          refine v_getf fl_Tune_23 s0 rfl k_Tune_add_40 ?_
          refine v_iload_n k_Tune_add_43 rfl ?_
          refine v_callV mo_Row_add mi_Row_add mv_Row_add lk_Tune_46 k_Tune_add_44 s3.obj rfl rfl (Nat.le_of_ble_eq_true rfl) rfl (Nat.le_of_ble_eq_true rfl) (c_Row_add G s3) (fun v44 h44 q44 => ?_)
          obtain ⟨rfl, n3, g3⟩ := q44
          refine v_iinc k_Tune_add_47 rfl (Nat.le_of_ble_eq_true rfl) ?_
          refine v_goto k_Tune_add_50 (tgt := 27) rfl ?_
          rw [show radd 37 (nob ls ++ List.replicate i (ps.length : Int)) ps.length = nob ls ++ List.replicate (i + 1) (ps.length : Int) from radd_rep (by omega)] at n3
          exact ih (i + 1) h44 (by omega) (by omega) (g3.at s0 (by omega)) (s1.fr g3 (by omega)) (s2.fr g3 (by omega)) n3 (f1.tr g3 (by omega) (by omega))
  refine v_aload_n k_Tune_add_0 rfl ?_
  refine v_getf fl_Tune_14 t0 rfl k_Tune_add_1 ?_
  refine v_callVr mo_Row_size mi_Row_size mv_Row_size lk_Tune_30 k_Tune_add_4 t1.obj rfl rfl (Nat.le_of_ble_eq_true rfl) rfl (Nat.le_of_ble_eq_true rfl) (c_Row_size G t1) ?_
  refine v_istore_n k_Tune_add_7 ⟨Nat.le_of_ble_eq_true rfl, Nat.le_of_ble_eq_true rfl⟩ ?_
  refine v_aload_n k_Tune_add_8 rfl ?_
  refine v_getf fl_Tune_14 t0 rfl k_Tune_add_9 ?_
  refine v_iload_n k_Tune_add_12 rfl ?_
  refine v_callV mo_Row_add mi_Row_add mv_Row_add lk_Tune_46 k_Tune_add_13 t1.obj rfl rfl (Nat.le_of_ble_eq_true rfl) rfl (Nat.le_of_ble_eq_true rfl) (c_Row_add G t1) (fun v13 h13 q13 => ?_)
  obtain ⟨rfl, n1, f1⟩ := q13
  have t0 := f1.at t0 (by omega)
  have t2 := t2.fr f1 (by omega)
  have t3 := t3.fr f1 (by omega)
  refine v_aload_n k_Tune_add_16 rfl ?_
  refine v_getf fl_Tune_20 t0 rfl k_Tune_add_17 ?_
  refine v_iload_n k_Tune_add_20 rfl ?_
  refine v_callV mo_Row_add mi_Row_add mv_Row_add lk_Tune_46 k_Tune_add_21 t2.obj rfl rfl (Nat.le_of_ble_eq_true rfl) rfl (Nat.le_of_ble_eq_true rfl) (c_Row_add G t2) (fun v21 h21 q21 => ?_)
  obtain ⟨rfl, n2, f2⟩ := q21
  have t0 := f2.at t0 (by omega)
  have n1 := n1.fr f2 (by omega)
  have t3 := t3.fr f2 (by omega)
  refine v_iconst k_Tune_add_24 ?_
  refine v_istore k_Tune_add_25 ⟨Nat.le_of_ble_eq_true rfl, Nat.le_of_ble_eq_true rfl⟩ ?_
  rw [radd, if_pos (by omega)] at n1 n2
  exact loop (l.toNat + 1) 0 h21 (by omega) (by omega) t0 n1 n2 (by rw [List.replicate_zero, List.append_nil]; exact t3) ((f1.wd (by omega) (by omega)).tr f2 (by omega) (by omega))


set_option maxHeartbeats 4000000 in
set_option maxRecDepth 20000 in
theorem c_Tune_copyFrom (G : Gx) {h : AH} {t : Nat} {ps ls : List Int} (hp : pTune h t ps ls) {u : Nat} {ps2 ls2 : List Int} (hq : pTune h u ps2 ls2) (hd : t + 7 ≤ u ∨ u + 7 ≤ t) : Ct G Y_Tune_copyFrom 2 0 0 [aR t, aR u] h (fun v h' => v = none ∧ pTune h' t ps2 ls2 ∧ Fr t (t + 7) h h') := by
  obtain ⟨t0, t1, t2, t3⟩ := id hp
  obtain ⟨u0, u1, u2, u3⟩ := id hq
  have l1 := u1.le
  have l2 := u2.le
  have l3 := u3.le
  refine Ct.of_V mo_Tune_copyFrom rfl (Nat.le_of_ble_eq_true rfl) rfl ?_
  refine v_aload_n k_Tune_copyFrom_0 rfl ?_
  refine v_ifnull k_Tune_copyFrom_1 ?_
  refine v_aload_n k_Tune_copyFrom_4 rfl ?_
  refine v_getf fl_Tune_14 t0 rfl k_Tune_copyFrom_5 ?_
  refine v_aload_n k_Tune_copyFrom_8 rfl ?_
  refine v_getf fl_Tune_14 u0 rfl k_Tune_copyFrom_9 ?_
  refine v_callV mo_Row_copyFrom mi_Row_copyFrom mv_Row_copyFrom lk_Tune_52 k_Tune_copyFrom_12 t1.obj rfl rfl (Nat.le_of_ble_eq_true rfl) rfl (Nat.le_of_ble_eq_true rfl) (c_Row_copyFrom G t1 u1 (by omega) (by omega)) (fun v12 h12 q12 => ?_)
  obtain ⟨rfl, n1, f1⟩ := q12
  have t0 := f1.at t0 (by omega)
  have t2 := t2.fr f1 (by omega)
  have t3 := t3.fr f1 (by omega)
  have u0 := f1.at u0 (by omega)
  have u2 := u2.fr f1 (by omega)
  have u3 := u3.fr f1 (by omega)
  refine v_aload_n k_Tune_copyFrom_15 rfl ?_
  refine v_getf fl_Tune_20 t0 rfl k_Tune_copyFrom_16 ?_
  refine v_aload_n k_Tune_copyFrom_19 rfl ?_
  refine v_getf fl_Tune_20 u0 rfl k_Tune_copyFrom_20 ?_
  refine v_callV mo_Row_copyFrom mi_Row_copyFrom mv_Row_copyFrom lk_Tune_52 k_Tune_copyFrom_23 t2.obj rfl rfl (Nat.le_of_ble_eq_true rfl) rfl (Nat.le_of_ble_eq_true rfl) (c_Row_copyFrom G t2 u2 (by omega) (by omega)) (fun v23 h23 q23 => ?_)
  obtain ⟨rfl, n2, f2⟩ := q23
  have t0 := f2.at t0 (by omega)
  have n1 := n1.fr f2 (by omega)
  have t3 := t3.fr f2 (by omega)
  have u0 := f2.at u0 (by omega)
  have u3 := u3.fr f2 (by omega)
  refine v_aload_n k_Tune_copyFrom_26 rfl ?_
  refine v_getf fl_Tune_23 t0 rfl k_Tune_copyFrom_27 ?_
  refine v_aload_n k_Tune_copyFrom_30 rfl ?_
  refine v_getf fl_Tune_23 u0 rfl k_Tune_copyFrom_31 ?_
  refine v_callV mo_Row_copyFrom mi_Row_copyFrom mv_Row_copyFrom lk_Tune_52 k_Tune_copyFrom_34 t3.obj rfl rfl (Nat.le_of_ble_eq_true rfl) rfl (Nat.le_of_ble_eq_true rfl) (c_Row_copyFrom G t3 u3 (by omega) (by omega)) (fun v34 h34 q34 => ?_)
  obtain ⟨rfl, n3, f3⟩ := q34
  have t0 := f3.at t0 (by omega)
  have n1 := n1.fr f3 (by omega)
  have n2 := n2.fr f3 (by omega)
  have u0 := f3.at u0 (by omega)
  refine v_aload_n k_Tune_copyFrom_37 rfl ?_
  refine v_aload_n k_Tune_copyFrom_38 rfl ?_
  refine v_getf fl_Tune_26 u0 rfl k_Tune_copyFrom_39 ?_
  refine v_put fl_Tune_26 t0 (Nat.le_of_ble_eq_true rfl) (fun r hr => by cases hr; exact Or.inl rfl) rfl rfl k_Tune_copyFrom_42 (fun h4 e4 f4 => ?_)
  refine v_return k_Tune_copyFrom_45 rfl ?_
  exact ⟨rfl, ⟨e4, n1.fr f4 (by omega), n2.fr f4 (by omega), n3.fr f4 (by omega)⟩, (((f1.wd (by omega) (by omega)).tr f2 (by omega) (by omega)).tr f3 (by omega) (by omega)).tr f4 (by omega) (by omega)⟩
