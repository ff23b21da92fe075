theorem emd (x : Int) (n : Int) (hn : 0 < n) : 0 ≤ x % n ∧ x % n < n := ⟨Int.emod_nonneg x (by omega), Int.emod_lt_of_pos x hn⟩
theorem illW_0 {K : CK} {x : Int} (h : x / 16384 = 0) : illW K x = !(wl (kW K) (x / 256 % 64 - 32 + (rget (kP K) (x % 16) - rget (kP K) (x / 16 % 16)))) := by rw [illW, if_pos h]
theorem illW_1 {K : CK} {x : Int} (h : ¬ x / 16384 = 0) : illW K x = !(wl (kW K) (x / 256 % 64 - 32 + (2 * rget (kP K) 0 - rget (kP K) (x % 16) - rget (kP K) (x / 16 % 16)))) := by rw [illW, if_neg h]
theorem nb0 {b : Bool} (h : ¬ (if b = true then (1 : Int) else 0) = 0) : (some (aI 0) : Option AV) = some (aI (if (!b) = true then 1 else 0)) := by cases b <;> simp_all
theorem nb1 {b : Bool} (h : ¬ ¬ (if b = true then (1 : Int) else 0) = 0) : (some (aI 1) : Option AV) = some (aI (if (!b) = true then 1 else 0)) := by cases b <;> simp_all
set_option maxHeartbeats 4000000 in
set_option maxRecDepth 20000 in
theorem c_Meetings_isIll (G : Gx) {h : AH} {m c : Nat} {ws ts : List Int} (hm : pMeet h m ws ts) {K : CK} {sg sd : List Int} (hp : pCanon h c K sg sd) (w : wK K) {i : Int} (hi : InR i) (hx : 0 ≤ rget ws i ∧ rget ws i < 32768) : Ct G Y_Meetings_isIll 2 0 0 [aR m, aI i, aR c] h (isR (some (aI (if illW K (rget ws i) then 1 else 0))) h) := by
  obtain ⟨m0, m1, m2⟩ := id hm
  obtain ⟨c0, c1, c2, c3, c4, c5, c6⟩ := id hp
  have hbt : (nob (kL K)).length = bt K := rfl
  have ex : ∃ x, x = rget ws i := ⟨_, rfl⟩
  obtain ⟨x, ex⟩ := ex
  rw [← ex] at hx
  have e1 := emd x 16 (by decide)
  have e2 := emd (x / 16) 16 (by decide)
  have e3 := emd (x / 256) 64 (by decide)
  have p1 := w.pt (x % 16)
  have p2 := w.pt (x / 16 % 16)
  have p3 := w.pt 0
  rw [← ex]
  refine Ct.of_V mo_Meetings_isIll rfl (Nat.le_of_ble_eq_true rfl) rfl ?_
  refine v_aload_n k_Meetings_isIll_0 rfl ?_
  refine v_getf fl_Meetings_14 m0 rfl k_Meetings_isIll_1 ?_
  refine v_iload_n k_Meetings_isIll_4 rfl ?_
  refine v_callVr mo_Row_get mi_Row_get mv_Row_get lk_Meetings_69 k_Meetings_isIll_5 m1.obj rfl rfl (Nat.le_of_ble_eq_true rfl) rfl (Nat.le_of_ble_eq_true rfl) (c_Row_get G m1 (by omega)) ?_
  rw [← ex]
  refine v_istore_n k_Meetings_isIll_8 ⟨Nat.le_of_ble_eq_true rfl, Nat.le_of_ble_eq_true rfl⟩ ?_
  refine v_aload_n k_Meetings_isIll_9 rfl ?_
  refine v_getf fl_Meetings_78 c0 rfl k_Meetings_isIll_10 ?_
  refine v_getf fl_Meetings_82 c1.1 rfl k_Meetings_isIll_13 ?_
  refine v_astore k_Meetings_isIll_16 ⟨Nat.le_of_ble_eq_true rfl, Nat.le_of_ble_eq_true rfl⟩ ?_
  refine v_aload k_Meetings_isIll_18 rfl ?_
  refine v_iload_n k_Meetings_isIll_20 rfl ?_
  refine v_bipush k_Meetings_isIll_21 (by decide) ?_
  refine v_mask 4 k_Meetings_isIll_23 (by decide) rfl ?_
  rw [show ((2 ^ 4 : Nat) : Int) = 16 from rfl]
  refine v_callVr mo_Row_get mi_Row_get mv_Row_get lk_Meetings_69 k_Meetings_isIll_24 c1.2.1.obj rfl rfl (Nat.le_of_ble_eq_true rfl) rfl (Nat.le_of_ble_eq_true rfl) (c_Row_get G c1.2.1 (by omega)) ?_
  refine v_istore k_Meetings_isIll_27 ⟨Nat.le_of_ble_eq_true rfl, Nat.le_of_ble_eq_true rfl⟩ ?_
  refine v_aload k_Meetings_isIll_29 rfl ?_
  refine v_iload_n k_Meetings_isIll_31 rfl ?_
  refine v_iconst k_Meetings_isIll_32 ?_
  refine v_ishr k_Meetings_isIll_33 (by omega) (by decide) ?_
  rw [show ((2 ^ (4 : Int).toNat : Nat) : Int) = 16 from rfl]
  refine v_bipush k_Meetings_isIll_34 (by decide) ?_
  refine v_mask 4 k_Meetings_isIll_36 (by decide) rfl ?_
  rw [show ((2 ^ 4 : Nat) : Int) = 16 from rfl]
  refine v_callVr mo_Row_get mi_Row_get mv_Row_get lk_Meetings_69 k_Meetings_isIll_37 c1.2.1.obj rfl rfl (Nat.le_of_ble_eq_true rfl) rfl (Nat.le_of_ble_eq_true rfl) (c_Row_get G c1.2.1 (by omega)) ?_
  refine v_istore k_Meetings_isIll_40 ⟨Nat.le_of_ble_eq_true rfl, Nat.le_of_ble_eq_true rfl⟩ ?_
  refine v_iload_n k_Meetings_isIll_42 rfl ?_
  refine v_bipush k_Meetings_isIll_43 (by decide) ?_
  refine v_ishr k_Meetings_isIll_45 (by omega) (by decide) ?_
  rw [show ((2 ^ (8 : Int).toNat : Nat) : Int) = 256 from rfl]
  refine v_bipush k_Meetings_isIll_46 (by decide) ?_
  refine v_mask 6 k_Meetings_isIll_48 (by decide) rfl ?_
  rw [show ((2 ^ 6 : Nat) : Int) = 64 from rfl]
  refine v_bipush k_Meetings_isIll_49 (by decide) ?_
  refine v_isub k_Meetings_isIll_51 ?_
  refine v_istore k_Meetings_isIll_52 ⟨Nat.le_of_ble_eq_true rfl, Nat.le_of_ble_eq_true rfl⟩ ?_
  refine v_iload k_Meetings_isIll_54 rfl ?_
  refine v_iload_n k_Meetings_isIll_56 rfl ?_
  refine v_bipush k_Meetings_isIll_57 (by decide) ?_
  refine v_ishr k_Meetings_isIll_59 (by omega) (by decide) ?_
  rw [show ((2 ^ (14 : Int).toNat : Nat) : Int) = 16384 from rfl]
  refine v_ifne 71 k_Meetings_isIll_60 rfl (by omega) (fun c60 => ?_) (fun c60 => ?_)
  · refine v_iconst k_Meetings_isIll_71 ?_
    refine v_aload k_Meetings_isIll_72 rfl ?_
    refine v_iconst k_Meetings_isIll_74 ?_
    refine v_callVr mo_Row_get mi_Row_get mv_Row_get lk_Meetings_69 k_Meetings_isIll_75 c1.2.1.obj rfl rfl (Nat.le_of_ble_eq_true rfl) rfl (Nat.le_of_ble_eq_true rfl) (c_Row_get G c1.2.1 (by omega)) ?_
    refine v_imul k_Meetings_isIll_78 ?_
    refine v_iload k_Meetings_isIll_79 rfl ?_
    refine v_isub k_Meetings_isIll_81 ?_
    refine v_iload k_Meetings_isIll_82 rfl ?_
    refine v_isub k_Meetings_isIll_84 ?_
    refine v_iadd k_Meetings_isIll_85 ?_
    refine v_istore k_Meetings_isIll_86 ⟨Nat.le_of_ble_eq_true rfl, Nat.le_of_ble_eq_true rfl⟩ ?_
    refine v_aload_n k_Meetings_isIll_88 rfl ?_
    refine v_getf fl_Meetings_87 c0 rfl k_Meetings_isIll_89 ?_
    refine v_iload k_Meetings_isIll_92 rfl ?_
    refine v_callSr mo_Main_soundsWell ms_Main_soundsWell lk_Meetings_91 k_Meetings_isIll_94 rfl (Nat.le_of_ble_eq_true rfl) rfl (Nat.le_of_ble_eq_true rfl) (c_soundsWell G w.lw (by omega)) ?_
    refine v_ifne 104 k_Meetings_isIll_97 rfl (by split <;> decide) (fun c97 => ?_) (fun c97 => ?_)
    · refine v_iconst k_Meetings_isIll_104 ?_
      refine v_ireturn k_Meetings_isIll_105 rfl (by first | rfl | (split <;> rfl)) ?_
      refine ⟨?_, rfl⟩
      first
        | rw [illW_0 (Classical.not_not.mp c60)]
        | rw [illW_1 c60]
      first
        | exact nb0 c97
        | exact nb1 c97
    · refine v_iconst k_Meetings_isIll_100 ?_
      refine v_goto k_Meetings_isIll_101 (tgt := 105) rfl ?_
      refine v_ireturn k_Meetings_isIll_105 rfl (by first | rfl | (split <;> rfl)) ?_
      refine ⟨?_, rfl⟩
      first
        | rw [illW_0 (Classical.not_not.mp c60)]
        | rw [illW_1 c60]
      first
        | exact nb0 c97
        | exact nb1 c97
  · refine v_iload k_Meetings_isIll_63 rfl ?_
    refine v_iload k_Meetings_isIll_65 rfl ?_
    refine v_isub k_Meetings_isIll_67 ?_
    refine v_goto k_Meetings_isIll_68 (tgt := 85) rfl ?_
    refine v_iadd k_Meetings_isIll_85 ?_
    refine v_istore k_Meetings_isIll_86 ⟨Nat.le_of_ble_eq_true rfl, Nat.le_of_ble_eq_true rfl⟩ ?_
    refine v_aload_n k_Meetings_isIll_88 rfl ?_
    refine v_getf fl_Meetings_87 c0 rfl k_Meetings_isIll_89 ?_
    refine v_iload k_Meetings_isIll_92 rfl ?_
    refine v_callSr mo_Main_soundsWell ms_Main_soundsWell lk_Meetings_91 k_Meetings_isIll_94 rfl (Nat.le_of_ble_eq_true rfl) rfl (Nat.le_of_ble_eq_true rfl) (c_soundsWell G w.lw (by omega)) ?_
    refine v_ifne 104 k_Meetings_isIll_97 rfl (by split <;> decide) (fun c97 => ?_) (fun c97 => ?_)
    · refine v_iconst k_Meetings_isIll_104 ?_
      refine v_ireturn k_Meetings_isIll_105 rfl (by first | rfl | (split <;> rfl)) ?_
      refine ⟨?_, rfl⟩
      first
        | rw [illW_0 (Classical.not_not.mp c60)]
        | rw [illW_1 c60]
      first
        | exact nb0 c97
        | exact nb1 c97
    · refine v_iconst k_Meetings_isIll_100 ?_
      refine v_goto k_Meetings_isIll_101 (tgt := 105) rfl ?_
      refine v_ireturn k_Meetings_isIll_105 rfl (by first | rfl | (split <;> rfl)) ?_
      refine ⟨?_, rfl⟩
      first
        | rw [illW_0 (Classical.not_not.mp c60)]
        | rw [illW_1 c60]
      first
        | exact nb0 c97
        | exact nb1 c97

/-- the notes (bits) of a way -/
def ntW (x : Int) : Nat := 2 ^ (x % 16).toNat ||| 2 ^ (x / 16 % 16).toNat ||| (x / 16384).toNat
theorem ntW_eq {x : Int} (h : 0 ≤ x) : (((2 ^ (x % 16).toNat ||| 2 ^ (x / 16 % 16).toNat : Nat) : Int).toNat ||| (x / 16384).toNat : Nat) = ntW x := by rw [Int.toNat_natCast]; rfl
set_option maxHeartbeats 4000000 in
set_option maxRecDepth 20000 in
theorem c_Meetings_notesOf (G : Gx) {h : AH} {m : Nat} {ws ts : List Int} (hm : pMeet h m ws ts) {i : Int} (hi : InR i) (hx : 0 ≤ rget ws i ∧ rget ws i < 32768) : Ct G Y_Meetings_notesOf 1 0 0 [aR m, aI i] h (isR (some (aI (ntW (rget ws i) : Nat))) h) := by
  obtain ⟨m0, m1, m2⟩ := id hm
  have ex : ∃ x, x = rget ws i := ⟨_, rfl⟩
  obtain ⟨x, ex⟩ := ex
  rw [← ex] at hx
  have e1 := emd x 16 (by decide)
  have e2 := emd (x / 16) 16 (by decide)
  rw [← ex]
  refine Ct.of_V mo_Meetings_notesOf rfl (Nat.le_of_ble_eq_true rfl) rfl ?_
  refine v_aload_n k_Meetings_notesOf_0 rfl ?_
  refine v_getf fl_Meetings_14 m0 rfl k_Meetings_notesOf_1 ?_
  refine v_iload_n k_Meetings_notesOf_4 rfl ?_
  refine v_callVr mo_Row_get mi_Row_get mv_Row_get lk_Meetings_69 k_Meetings_notesOf_5 m1.obj rfl rfl (Nat.le_of_ble_eq_true rfl) rfl (Nat.le_of_ble_eq_true rfl) (c_Row_get G m1 (by omega)) ?_
  rw [← ex]
  refine v_istore_n k_Meetings_notesOf_8 ⟨Nat.le_of_ble_eq_true rfl, Nat.le_of_ble_eq_true rfl⟩ ?_
  refine v_iconst k_Meetings_notesOf_9 ?_
  refine v_iload_n k_Meetings_notesOf_10 rfl ?_
  refine v_bipush k_Meetings_notesOf_11 (by decide) ?_
  refine v_mask 4 k_Meetings_notesOf_13 (by decide) rfl ?_
  rw [show ((2 ^ 4 : Nat) : Int) = 16 from rfl]
  refine v_bit k_Meetings_notesOf_14 (by omega) ?_
  refine v_iconst k_Meetings_notesOf_15 ?_
  refine v_iload_n k_Meetings_notesOf_16 rfl ?_
  refine v_iconst k_Meetings_notesOf_17 ?_
  refine v_ishr k_Meetings_notesOf_18 (by omega) (by decide) ?_
  rw [show ((2 ^ (4 : Int).toNat : Nat) : Int) = 16 from rfl]
  refine v_bipush k_Meetings_notesOf_19 (by decide) ?_
  refine v_mask 4 k_Meetings_notesOf_21 (by decide) rfl ?_
  rw [show ((2 ^ 4 : Nat) : Int) = 16 from rfl]
  refine v_bit k_Meetings_notesOf_22 (by omega) ?_
  refine v_iorN k_Meetings_notesOf_23 ?_
  refine v_iload_n k_Meetings_notesOf_24 rfl ?_
  refine v_bipush k_Meetings_notesOf_25 (by decide) ?_
  refine v_ishr k_Meetings_notesOf_27 (by omega) (by decide) ?_
  rw [show ((2 ^ (14 : Int).toNat : Nat) : Int) = 16384 from rfl]
  have e3 : 0 ≤ x / 16384 := by omega
  refine v_ior k_Meetings_notesOf_28 (Int.natCast_nonneg _) e3 ?_
  rw [ntW_eq hx.1]
  refine v_ireturn k_Meetings_notesOf_29 rfl rfl ?_
  exact ⟨rfl, rfl⟩

/-! meet: one more of a way -/
def mtR (own : Nat) (x : Int) (M M' : List (Int × Int)) : Prop :=
  (x ∈ (M.drop own).map Prod.fst ∧ ∃ i, ∃ hi : i < M.length, own ≤ i ∧ (M[i]).1 = x ∧ M' = M.set i (x, (M[i]).2 + 1)) ∨ (x ∉ (M.drop own).map Prod.fst ∧ M' = M ++ [(x, 1)])
theorem set_fst {M : List (Int × Int)} {i : Nat} (hi : i < M.length) {t : Int} : (M.set i ((M[i]).1, t)).map Prod.fst = M.map Prod.fst := by
  rw [List.map_set]
  apply List.ext_getElem
  · simp
  · intro j h1 h2
    rw [List.getElem_set]
    split
    · rename_i e; subst e; simp
    · rfl
theorem notin_drop {M : List (Int × Int)} {own n : Nat} {x : Int} (h : ∀ j, n ≤ j → ∀ hj : j < M.length, (M[j]).1 ≠ x) (hn : n ≤ own) : x ∉ (M.drop own).map Prod.fst := by
  intro hx
  obtain ⟨q, hq, e⟩ := List.mem_map.mp hx
  obtain ⟨j, hj, rfl⟩ := List.getElem_of_mem hq
  rw [List.getElem_drop] at e
  exact h (own + j) (by omega) (by rw [List.length_drop] at hj; omega) e
theorem in_drop {M : List (Int × Int)} {own n : Nat} (hn : n < M.length) (ho : own ≤ n) : (M[n]).1 ∈ (M.drop own).map Prod.fst := by
  refine List.mem_map.mpr ⟨M[n], ?_, rfl⟩
  have : M[n] = (M.drop own)[n - own]'(by rw [List.length_drop]; omega) := by rw [List.getElem_drop]; congr 1; omega
  rw [this]
  exact List.getElem_mem _
set_option maxHeartbeats 4000000 in
set_option maxRecDepth 20000 in
theorem c_Meetings_meet (G : Gx) {h : AH} {m : Nat} {M : List (Int × Int)} (hm : pMeet h m (M.map Prod.fst) (M.map Prod.snd)) {x : Int} {own : Nat} (ho : own ≤ M.length) (hx : 0 ≤ x ∧ x < 32768) (hb : ∀ q ∈ M, 0 ≤ q.1 ∧ q.1 < 32768) (hcap : x ∉ (M.drop own).map Prod.fst → M.length < 1170) : Ct G Y_Meetings_meet 1 0 0 [aR m, aI x, aI own] h (fun v h' => v = none ∧ ∃ M', pMeet h' m (M'.map Prod.fst) (M'.map Prod.snd) ∧ Fr (m + 1) (m + 5) h h' ∧ mtR own x M M') := by
  obtain ⟨m0, m1, m2⟩ := id hm
  have el1 : (M.map Prod.fst).length = M.length := List.length_map _
  have el2 : (M.map Prod.snd).length = M.length := List.length_map _
  have hl := m1.le
  refine Ct.of_V mo_Meetings_meet rfl (Nat.le_of_ble_eq_true rfl) rfl ?_
  have loop : ∀ (k : Nat) (n : Nat), (n < own + k) → (n ≤ M.length) → (∀ j, n ≤ j → ∀ hj : j < M.length, (M[j]).1 ≠ x) → V G Y_Meetings_meet 1 0 0 10 [some (aR m), some (aI x), some (aI own), some (aI ((n : Int) - 1))] [] h (fun v h' => v = none ∧ ∃ M', pMeet h' m (M'.map Prod.fst) (M'.map Prod.snd) ∧ Fr (m + 1) (m + 5) h h' ∧ mtR own x M M') := by
    intro k
    induction k with
    | zero =>
      intro n hk hn ha
      refine v_iload_n k_Meetings_meet_10 rfl ?_
      refine v_iload_n k_Meetings_meet_11 rfl ?_
      refine v_iclt 52 k_Meetings_meet_12 rfl (by omega) (by omega) (fun c12 => ?_) (fun c12 => ?_)
      · refine v_aload_n k_Meetings_meet_52 rfl ?_
        refine v_getf fl_Meetings_14 m0 rfl k_Meetings_meet_53 ?_
        refine v_iload_n k_Meetings_meet_56 rfl ?_
        refine v_callV mo_Row_add mi_Row_add mv_Row_add lk_Meetings_75 k_Meetings_meet_57 m1.obj rfl rfl (Nat.le_of_ble_eq_true rfl) rfl (Nat.le_of_ble_eq_true rfl) (c_Row_add G m1) (fun v57 h57 q57 => ?_)
        obtain ⟨rfl, n1, f1⟩ := q57
        have m0 := f1.at m0 (by omega)
        have m2 := m2.fr f1 (by omega)
        refine v_aload_n k_Meetings_meet_60 rfl ?_
        refine v_getf fl_Meetings_20 m0 rfl k_Meetings_meet_61 ?_
        refine v_iconst k_Meetings_meet_64 ?_
        refine v_callV mo_Row_add mi_Row_add mv_Row_add lk_Meetings_75 k_Meetings_meet_65 m2.obj rfl rfl (Nat.le_of_ble_eq_true rfl) rfl (Nat.le_of_ble_eq_true rfl) (c_Row_add G m2) (fun v65 h65 q65 => ?_)
        obtain ⟨rfl, n2, f2⟩ := q65
        have m0 := f2.at m0 (by omega)
        have n1 := n1.fr f2 (by omega)
        refine v_return k_Meetings_meet_68 rfl ?_
        have hn : x ∉ (M.drop own).map Prod.fst := notin_drop ha (by omega)
        have hc := hcap hn
        rw [radd, if_pos (by omega)] at n1 n2
        exact ⟨rfl, M ++ [(x, 1)], ⟨m0, by rw [List.map_append]; exact n1, by rw [List.map_append]; exact n2⟩, (f1.wd (by omega) (by omega)).tr f2 (by omega) (by omega), Or.inr ⟨hn, rfl⟩⟩
      · exfalso; omega
    | succ k ih =>
      intro n hk hn ha
      refine v_iload_n k_Meetings_meet_10 rfl ?_
      refine v_iload_n k_Meetings_meet_11 rfl ?_
      refine v_iclt 52 k_Meetings_meet_12 rfl (by omega) (by omega) (fun c12 => ?_) (fun c12 => ?_)
      · refine v_aload_n k_Meetings_meet_52 rfl ?_
        refine v_getf fl_Meetings_14 m0 rfl k_Meetings_meet_53 ?_
        refine v_iload_n k_Meetings_meet_56 rfl ?_
        refine v_callV mo_Row_add mi_Row_add mv_Row_add lk_Meetings_75 k_Meetings_meet_57 m1.obj rfl rfl (Nat.le_of_ble_eq_true rfl) rfl (Nat.le_of_ble_eq_true rfl) (c_Row_add G m1) (fun v57 h57 q57 => ?_)
        obtain ⟨rfl, n1, f1⟩ := q57
        have m0 := f1.at m0 (by omega)
        have m2 := m2.fr f1 (by omega)
        refine v_aload_n k_Meetings_meet_60 rfl ?_
        refine v_getf fl_Meetings_20 m0 rfl k_Meetings_meet_61 ?_
        refine v_iconst k_Meetings_meet_64 ?_
        refine v_callV mo_Row_add mi_Row_add mv_Row_add lk_Meetings_75 k_Meetings_meet_65 m2.obj rfl rfl (Nat.le_of_ble_eq_true rfl) rfl (Nat.le_of_ble_eq_true rfl) (c_Row_add G m2) (fun v65 h65 q65 => ?_)
        obtain ⟨rfl, n2, f2⟩ := q65
        have m0 := f2.at m0 (by omega)
        have n1 := n1.fr f2 (by omega)
        refine v_return k_Meetings_meet_68 rfl ?_
        have hn : x ∉ (M.drop own).map Prod.fst := notin_drop ha (by omega)
        have hc := hcap hn
        rw [radd, if_pos (by omega)] at n1 n2
        exact ⟨rfl, M ++ [(x, 1)], ⟨m0, by rw [List.map_append]; exact n1, by rw [List.map_append]; exact n2⟩, (f1.wd (by omega) (by omega)).tr f2 (by omega) (by omega), Or.inr ⟨hn, rfl⟩⟩
      · refine v_aload_n k_Meetings_meet_15 rfl ?_
        refine v_getf fl_Meetings_14 m0 rfl k_Meetings_meet_16 ?_
        refine v_iload_n k_Meetings_meet_19 rfl ?_
        refine v_callVr mo_Row_get mi_Row_get mv_Row_get lk_Meetings_69 k_Meetings_meet_20 m1.obj rfl rfl (Nat.le_of_ble_eq_true rfl) rfl (Nat.le_of_ble_eq_true rfl) (c_Row_get G m1 (by omega)) ?_
        refine v_iload_n k_Meetings_meet_23 rfl ?_
        have e1 : rget (M.map Prod.fst) ((n : Int) - 1) = (M[n - 1]).1 := by rw [← rgM Prod.fst (L := M) (i := n - 1) (by omega)]; congr 1; omega
        have e2 := hb _ (List.getElem_mem (show n - 1 < M.length by omega))
        refine v_icne 46 k_Meetings_meet_24 rfl (by omega) (by omega) (fun c24 => ?_) (fun c24 => ?_)
        · refine v_iinc k_Meetings_meet_46 rfl (Nat.le_of_ble_eq_true rfl) ?_
          refine v_goto k_Meetings_meet_49 (tgt := 10) rfl ?_
          rw [show ((n : Int) - 1 + -1) = ((n - 1 : Nat) : Int) - 1 by omega]
          refine ih (n - 1) (by omega) (by omega) (fun j h1 hj => ?_)
          by_cases hj2 : j = n - 1
          · subst hj2; rw [← e1]; exact c24
          · exact ha j (by omega) hj
        · refine v_aload_n k_Meetings_meet_27 rfl ?_
          refine v_getf fl_Meetings_20 m0 rfl k_Meetings_meet_28 ?_
          refine v_iload_n k_Meetings_meet_31 rfl ?_
          refine v_aload_n k_Meetings_meet_32 rfl ?_
          refine v_getf fl_Meetings_20 m0 rfl k_Meetings_meet_33 ?_
          refine v_iload_n k_Meetings_meet_36 rfl ?_
          refine v_callVr mo_Row_get mi_Row_get mv_Row_get lk_Meetings_69 k_Meetings_meet_37 m2.obj rfl rfl (Nat.le_of_ble_eq_true rfl) rfl (Nat.le_of_ble_eq_true rfl) (c_Row_get G m2 (by omega)) ?_
          refine v_iconst k_Meetings_meet_40 ?_
          refine v_iadd k_Meetings_meet_41 ?_
          refine v_callV mo_Row_set mi_Row_set mv_Row_set lk_Meetings_72 k_Meetings_meet_42 m2.obj rfl rfl (Nat.le_of_ble_eq_true rfl) rfl (Nat.le_of_ble_eq_true rfl) (c_Row_set G m2 (by omega)) (fun v42 h42 q42 => ?_)
          obtain ⟨rfl, n2, f2⟩ := q42
          refine v_return k_Meetings_meet_45 rfl ?_
          have e3 : (M[n - 1]).1 = x := by rw [← e1]; exact Classical.not_not.mp c24
          have e4 : rget (M.map Prod.snd) ((n : Int) - 1) = (M[n - 1]).2 := by rw [← rgM Prod.snd (L := M) (i := n - 1) (by omega)]; congr 1; omega
          refine ⟨rfl, M.set (n - 1) (x, (M[n - 1]).2 + 1), ⟨f2.at m0 (by omega), ?_, ?_⟩, f2.wd (by omega) (by omega), Or.inl ⟨?_, n - 1, by omega, by omega, e3, rfl⟩⟩
          · rw [← e3, set_fst]; exact m1.fr f2 (by omega)
          · rw [List.map_set]
            rw [rset, if_pos (by omega), e4, show ((n : Int) - 1).toNat = n - 1 by omega] at n2
            exact n2
          · rw [← e3]; exact in_drop (by omega) (by omega)
  refine v_aload_n k_Meetings_meet_0 rfl ?_
  refine v_getf fl_Meetings_14 m0 rfl k_Meetings_meet_1 ?_
  refine v_callVr mo_Row_size mi_Row_size mv_Row_size lk_Meetings_32 k_Meetings_meet_4 m1.obj rfl rfl (Nat.le_of_ble_eq_true rfl) rfl (Nat.le_of_ble_eq_true rfl) (c_Row_size G m1) ?_
  refine v_iconst k_Meetings_meet_7 ?_
  refine v_isub k_Meetings_meet_8 ?_
  refine v_istore_n k_Meetings_meet_9 ⟨Nat.le_of_ble_eq_true rfl, Nat.le_of_ble_eq_true rfl⟩ ?_
  rw [el1]
  exact loop (M.length + 1) M.length (by omega) (Nat.le_refl _) (fun j h1 hj => absurd hj (by omega))
