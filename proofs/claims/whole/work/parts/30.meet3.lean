def wellM (K : CK) : List (Int × Int) → Bool
  | [] => true
  | q :: t => !illW K q.1 && wellM K t
def illsM (K : CK) : List (Int × Int) → Int
  | [] => 0
  | q :: t => (if illW K q.1 then q.2 else 0) + illsM K t
set_option maxHeartbeats 4000000 in
set_option maxRecDepth 20000 in
theorem c_Meetings_areWell (G : Gx) {h : AH} {m c : Nat} {M : List (Int × Int)} (hm : pMeet h m (M.map Prod.fst) (M.map Prod.snd)) {K : CK} {sg sd : List Int} (hp : pCanon h c K sg sd) (w : wK K) (hb : ∀ q ∈ M, 0 ≤ q.1 ∧ q.1 < 32768) : Ct G Y_Meetings_areWell 3 0 0 [aR m, aR c] h (isR (some (aI (if wellM K M then 1 else 0))) h) := by
  obtain ⟨m0, m1, m2⟩ := id hm
  obtain ⟨c0, -⟩ := id hp
  have el1 : (M.map Prod.fst).length = M.length := List.length_map _
  have el2 : (M.map Prod.snd).length = M.length := List.length_map _
  have hl := m1.le
  refine Ct.of_V mo_Meetings_areWell rfl (Nat.le_of_ble_eq_true rfl) rfl ?_
  have loop : ∀ (k : Nat) (i : Nat), (M.length < i + k) → (i ≤ M.length) → (wellM K (M.drop i) = wellM K M) → V G Y_Meetings_areWell 3 0 0 2 [some (aR m), some (aR c), some (aI i)] [] h (isR (some (aI (if wellM K M then 1 else 0))) h) := by
    intro k
    induction k with
    | zero => intro i hk hi ht; exfalso; omega
    | succ k ih =>
      intro i hk hi ht
      refine v_iload_n k_Meetings_areWell_2 rfl ?_
      refine v_aload_n k_Meetings_areWell_3 rfl ?_
      refine v_getf fl_Meetings_14 m0 rfl k_Meetings_areWell_4 ?_
      refine v_callVr mo_Row_size mi_Row_size mv_Row_size lk_Meetings_32 k_Meetings_areWell_7 m1.obj rfl rfl (Nat.le_of_ble_eq_true rfl) rfl (Nat.le_of_ble_eq_true rfl) (c_Row_size G m1) ?_
      refine v_icge 30 k_Meetings_areWell_10 rfl (by omega) (by omega) (fun c10 => ?_) (fun c10 => ?_)
      · refine v_iconst k_Meetings_areWell_30 ?_
        refine v_ireturn k_Meetings_areWell_31 rfl (by first | rfl | (split <;> rfl)) ?_
        refine ⟨?_, rfl⟩
        have ei : i = M.length := by omega
        rw [← ht, ei, List.drop_length]
        rfl
      · have e1 := rgM Prod.fst (L := M) (i := i) (by omega)
        have e2 := hb _ (List.getElem_mem (show i < M.length by omega))
        refine v_aload_n k_Meetings_areWell_13 rfl ?_
        refine v_iload_n k_Meetings_areWell_14 rfl ?_
        refine v_aload_n k_Meetings_areWell_15 rfl ?_
        refine v_callVr mo_Meetings_isIll mi_Meetings_isIll mv_Meetings_isIll lk_Meetings_95 k_Meetings_areWell_16 m0 rfl rfl (Nat.le_of_ble_eq_true rfl) rfl (Nat.le_of_ble_eq_true rfl) (c_Meetings_isIll G hm hp w (by omega) (by rw [e1]; exact e2)) ?_
        refine v_ifeq 24 k_Meetings_areWell_19 rfl (by split <;> decide) (fun c19 => ?_) (fun c19 => ?_)
        · refine v_iinc k_Meetings_areWell_24 rfl (Nat.le_of_ble_eq_true rfl) ?_
          refine v_goto k_Meetings_areWell_27 (tgt := 2) rfl ?_
          refine ih (i + 1) (by omega) (by omega) ?_
          rw [drop_at (show i < M.length by omega)] at ht
          simp only [wellM] at ht
          rw [e1] at c19
          rw [← ht]
          cases hq : illW K (M[i]).1 with
          | true => rw [hq] at c19; exact absurd c19 (by decide)
          | false => rfl
        · refine v_iconst k_Meetings_areWell_22 ?_
          refine v_ireturn k_Meetings_areWell_23 rfl (by first | rfl | (split <;> rfl)) ?_
          refine ⟨?_, rfl⟩
          rw [drop_at (show i < M.length by omega)] at ht
          simp only [wellM] at ht
          rw [e1] at c19
          cases hq : illW K (M[i]).1 with
          | true => rw [hq] at ht; rw [← ht]; rfl
          | false => rw [hq] at c19; exact absurd rfl c19
  refine v_iconst k_Meetings_areWell_0 ?_
  refine v_istore_n k_Meetings_areWell_1 ⟨Nat.le_of_ble_eq_true rfl, Nat.le_of_ble_eq_true rfl⟩ ?_
  exact loop (M.length + 1) 0 (by omega) (by omega) (by rw [List.drop_zero])

set_option maxHeartbeats 4000000 in
set_option maxRecDepth 20000 in
theorem c_Meetings_ills (G : Gx) {h : AH} {m c : Nat} {M : List (Int × Int)} (hm : pMeet h m (M.map Prod.fst) (M.map Prod.snd)) {K : CK} {sg sd : List Int} (hp : pCanon h c K sg sd) (w : wK K) (hb : ∀ q ∈ M, 0 ≤ q.1 ∧ q.1 < 32768) : Ct G Y_Meetings_ills 3 0 0 [aR m, aR c] h (isR (some (aI (illsM K M))) h) := by
  obtain ⟨m0, m1, m2⟩ := id hm
  obtain ⟨c0, -⟩ := id hp
  have el1 : (M.map Prod.fst).length = M.length := List.length_map _
  have el2 : (M.map Prod.snd).length = M.length := List.length_map _
  have hl := m1.le
  refine Ct.of_V mo_Meetings_ills rfl (Nat.le_of_ble_eq_true rfl) rfl ?_
  have loop : ∀ (k : Nat) (i : Nat) (acc : Int), (M.length < i + k) → (i ≤ M.length) → (acc + illsM K (M.drop i) = illsM K M) → V G Y_Meetings_ills 3 0 0 4 [some (aR m), some (aR c), some (aI acc), some (aI i)] [] h (isR (some (aI (illsM K M))) h) := by
    intro k
    induction k with
    | zero => intro i acc hk hi ht; exfalso; omega
    | succ k ih =>
      intro i acc hk hi ht
      refine v_iload_n k_Meetings_ills_4 rfl ?_
      refine v_aload_n k_Meetings_ills_5 rfl ?_
      refine v_getf fl_Meetings_14 m0 rfl k_Meetings_ills_6 ?_
      refine v_callVr mo_Row_size mi_Row_size mv_Row_size lk_Meetings_32 k_Meetings_ills_9 m1.obj rfl rfl (Nat.le_of_ble_eq_true rfl) rfl (Nat.le_of_ble_eq_true rfl) (c_Row_size G m1) ?_
      refine v_icge 41 k_Meetings_ills_12 rfl (by omega) (by omega) (fun c12 => ?_) (fun c12 => ?_)
      · refine v_iload_n k_Meetings_ills_41 rfl ?_
        refine v_ireturn k_Meetings_ills_42 rfl rfl ?_
        refine ⟨?_, rfl⟩
        have ei : i = M.length := by omega
        rw [ei, List.drop_length] at ht
        rw [← ht]
        simp only [illsM]
        rw [Int.add_zero]
      · have e1 := rgM Prod.fst (L := M) (i := i) (by omega)
        have e2 := hb _ (List.getElem_mem (show i < M.length by omega))
        refine v_aload_n k_Meetings_ills_15 rfl ?_
        refine v_iload_n k_Meetings_ills_16 rfl ?_
        refine v_aload_n k_Meetings_ills_17 rfl ?_
        refine v_callVr mo_Meetings_isIll mi_Meetings_isIll mv_Meetings_isIll lk_Meetings_95 k_Meetings_ills_18 m0 rfl rfl (Nat.le_of_ble_eq_true rfl) rfl (Nat.le_of_ble_eq_true rfl) (c_Meetings_isIll G hm hp w (by omega) (by rw [e1]; exact e2)) ?_
        refine v_ifeq 35 k_Meetings_ills_21 rfl (by split <;> decide) (fun c21 => ?_) (fun c21 => ?_)
        · refine v_iinc k_Meetings_ills_35 rfl (Nat.le_of_ble_eq_true rfl) ?_
          refine v_goto k_Meetings_ills_38 (tgt := 4) rfl ?_
          refine ih (i + 1) _ (by omega) (by omega) ?_
          rw [drop_at (show i < M.length by omega)] at ht
          simp only [illsM] at ht
          rw [e1] at c21
          rw [← ht]
          cases hq : illW K (M[i]).1 with
          | true => first | (rw [hq] at c21; exact absurd c21 (by decide)) | (rw [rgM Prod.snd (L := M) (i := i) (by omega), if_pos rfl]; omega)
          | false => first | (rw [hq] at c21; exact absurd rfl c21) | (rw [if_neg (by decide)]; omega)
        · refine v_iload_n k_Meetings_ills_24 rfl ?_
          refine v_aload_n k_Meetings_ills_25 rfl ?_
          refine v_getf fl_Meetings_20 m0 rfl k_Meetings_ills_26 ?_
          refine v_iload_n k_Meetings_ills_29 rfl ?_
          refine v_callVr mo_Row_get mi_Row_get mv_Row_get lk_Meetings_69 k_Meetings_ills_30 m2.obj rfl rfl (Nat.le_of_ble_eq_true rfl) rfl (Nat.le_of_ble_eq_true rfl) (c_Row_get G m2 (by omega)) ?_
          refine v_iadd k_Meetings_ills_33 ?_
          refine v_istore_n k_Meetings_ills_34 ⟨Nat.le_of_ble_eq_true rfl, Nat.le_of_ble_eq_true rfl⟩ ?_
          refine v_iinc k_Meetings_ills_35 rfl (Nat.le_of_ble_eq_true rfl) ?_
          refine v_goto k_Meetings_ills_38 (tgt := 4) rfl ?_
          refine ih (i + 1) _ (by omega) (by omega) ?_
          rw [drop_at (show i < M.length by omega)] at ht
          simp only [illsM] at ht
          rw [e1] at c21
          rw [← ht]
          cases hq : illW K (M[i]).1 with
          | true => first | (rw [hq] at c21; exact absurd c21 (by decide)) | (rw [rgM Prod.snd (L := M) (i := i) (by omega), if_pos rfl]; omega)
          | false => first | (rw [hq] at c21; exact absurd rfl c21) | (rw [if_neg (by decide)]; omega)
  refine v_iconst k_Meetings_ills_0 ?_
  refine v_istore_n k_Meetings_ills_1 ⟨Nat.le_of_ble_eq_true rfl, Nat.le_of_ble_eq_true rfl⟩ ?_
  refine v_iconst k_Meetings_ills_2 ?_
  refine v_istore_n k_Meetings_ills_3 ⟨Nat.le_of_ble_eq_true rfl, Nat.le_of_ble_eq_true rfl⟩ ?_
  exact loop (M.length + 1) 0 0 (by omega) (by omega) (by rw [List.drop_zero, Int.zero_add])

set_option maxHeartbeats 4000000 in
set_option maxRecDepth 20000 in
theorem c_Meetings_size (G : Gx) {h : AH} {m : Nat} {M : List (Int × Int)} (hm : pMeet h m (M.map Prod.fst) (M.map Prod.snd)) : Ct G Y_Meetings_size 1 0 0 [aR m] h (isR (some (aI (M.length : Int))) h) := by
  obtain ⟨m0, m1, m2⟩ := id hm
  have el1 : (M.map Prod.fst).length = M.length := List.length_map _
  have el2 : (M.map Prod.snd).length = M.length := List.length_map _
  have hl := m1.le
  refine Ct.of_V mo_Meetings_size rfl (Nat.le_of_ble_eq_true rfl) rfl ?_
  refine v_aload_n k_Meetings_size_0 rfl ?_
  refine v_getf fl_Meetings_14 m0 rfl k_Meetings_size_1 ?_
  refine v_callVr mo_Row_size mi_Row_size mv_Row_size lk_Meetings_32 k_Meetings_size_4 m1.obj rfl rfl (Nat.le_of_ble_eq_true rfl) rfl (Nat.le_of_ble_eq_true rfl) (c_Row_size G m1) ?_
  refine v_ireturn k_Meetings_size_7 rfl rfl ?_
  rw [el1]
  exact ⟨rfl, rfl⟩

/-! all ways in which the notes meet, in their order -/
def evB (K : CK) (one other : Int) : Nat → Int → List Int
  | 0, _ => []
  | k + 1, b => wyK K one other b :: evB K one other k (b + 1)
def bgn (K : CK) (one other : Int) : Int := max (rget (kE K) one) (rget (kE K) other)
def fin_ (K : CK) (one other : Int) : Int := min (q_stl K one) (q_stl K other)
def evP (K : CK) (one other : Int) : List Int := evB K one other (fin_ K one other - bgn K one other).toNat (bgn K one other)
def evO (K : CK) (one : Int) : Nat → Nat → List Int
  | 0, _ => []
  | k + 1, j => evP K one j ++ evO K one k (j + 1)
def evA (K : CK) : Nat → Nat → List Int
  | 0, _ => []
  | k + 1, i => evO K i ((kK K).length - (i + 1)) (i + 1) ++ evA K k (i + 1)
def evs (K : CK) : List Int := evA K (kK K).length 0
def wsm (f : Int → Int) : List (Int × Int) → Int
  | [] => 0
  | q :: t => f q.1 * q.2 + wsm f t
def esm (f : Int → Int) : List Int → Int
  | [] => 0
  | x :: t => f x + esm f t
/-- the gathered ways are those that came, as often as they came -/
def MRel (M : List (Int × Int)) (E : List Int) : Prop := (∀ f : Int → Int, wsm f M = esm f E) ∧ ∀ x, x ∈ M.map Prod.fst ↔ x ∈ E
theorem wsm_app (f : Int → Int) : ∀ (A B : List (Int × Int)), wsm f (A ++ B) = wsm f A + wsm f B
  | [], B => by simp [wsm]
  | q :: t, B => by simp only [List.cons_append, wsm, wsm_app f t B]; omega
theorem esm_app (f : Int → Int) : ∀ (A B : List Int), esm f (A ++ B) = esm f A + esm f B
  | [], B => by simp [esm]
  | q :: t, B => by simp only [List.cons_append, esm, esm_app f t B]; omega
theorem wsm_set (f : Int → Int) : ∀ (M : List (Int × Int)) (i : Nat) (hi : i < M.length), wsm f (M.set i ((M[i]).1, (M[i]).2 + 1)) = wsm f M + f (M[i]).1
  | [], i, hi => by simp at hi
  | q :: t, 0, hi => by
    simp only [List.set_cons_zero, List.getElem_cons_zero, wsm]
    rw [Int.mul_add, Int.mul_one]
    omega
  | q :: t, i + 1, hi => by
    simp only [List.set_cons_succ, List.getElem_cons_succ, wsm]
    rw [wsm_set f t i (by simpa using hi)]
    omega
theorem MRel.step {M M' : List (Int × Int)} {E : List Int} {own : Nat} {x : Int} (h : MRel M E) (m : mtR own x M M') : MRel M' (E ++ [x]) := by
  rcases m with ⟨m1, i, hi, ho, e1, e2⟩ | ⟨m1, e2⟩
  · subst e1
    subst e2
    refine ⟨fun f => ?_, fun y => ?_⟩
    · rw [wsm_set f M i hi, h.1 f, esm_app]; simp [esm]
    · rw [set_fst hi, h.2 y, List.mem_append, List.mem_singleton]
      refine ⟨Or.inl, fun q => q.elim id (fun e => ?_)⟩
      rw [e]
      exact (h.2 _).mp (List.mem_map.mpr ⟨_, List.getElem_mem hi, rfl⟩)
  · subst e2
    refine ⟨fun f => ?_, fun y => ?_⟩
    · rw [wsm_app, h.1 f, esm_app]; simp [wsm, esm]
    · rw [List.map_append, List.mem_append, h.2 y, List.mem_append]; simp
/-- how many are new -/
def nw (seen : List Int) : List Int → Nat
  | [] => 0
  | x :: t => (if x ∈ seen then 0 else 1) + nw (seen ++ [x]) t
def Tn : Nat → Nat
  | 0 => 0
  | n + 1 => n + Tn n
theorem mt_len {own : Nat} {x : Int} {M M' : List (Int × Int)} (m : mtR own x M M') : (x ∈ (M.drop own).map Prod.fst ∧ M'.length = M.length) ∨ (x ∉ (M.drop own).map Prod.fst ∧ M'.length = M.length + 1) := by
  rcases m with ⟨m1, i, hi, ho, e1, e2⟩ | ⟨m1, e2⟩
  · exact Or.inl ⟨m1, by rw [e2, List.length_set]⟩
  · exact Or.inr ⟨m1, by rw [e2, List.length_append, List.length_singleton]⟩
theorem mt_seg {own : Nat} {x : Int} {M M' : List (Int × Int)} (m : mtR own x M M') (ho : own ≤ M.length) (y : Int) : y ∈ (M'.drop own).map Prod.fst ↔ y ∈ (M.drop own).map Prod.fst ∨ y = x := by
  rcases m with ⟨m1, i, hi, ho, e1, e2⟩ | ⟨m1, e2⟩
  · subst e1
    subst e2
    rw [List.map_drop, set_fst hi, ← List.map_drop]
    refine ⟨Or.inl, fun q => q.elim id (fun e => ?_)⟩
    rw [e]
    exact m1
  · subst e2
    rw [List.drop_append_of_le_length ho, List.map_append, List.mem_append]
    simp
theorem mt_bd {own : Nat} {x : Int} {M M' : List (Int × Int)} (m : mtR own x M M') (hb : ∀ q ∈ M, 0 ≤ q.1 ∧ q.1 < 32768) (hx : 0 ≤ x ∧ x < 32768) : ∀ q ∈ M', 0 ≤ q.1 ∧ q.1 < 32768 := by
  rcases m with ⟨m1, i, hi, ho, e1, e2⟩ | ⟨m1, e2⟩
  · intro q hq
    rw [e2] at hq
    rcases List.mem_or_eq_of_mem_set hq with h | h
    · exact hb q h
    · rw [h]; exact hx
  · intro q hq
    rw [e2] at hq
    rcases List.mem_append.mp hq with h | h
    · exact hb q h
    · rw [List.mem_singleton.mp h]; exact hx