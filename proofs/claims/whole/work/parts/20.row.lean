def rset (xs : List Int) (i x : Int) : List Int := if 0 ≤ i ∧ i < xs.length then xs.set i.toNat x else xs
def radd (room : Nat) (xs : List Int) (x : Int) : List Int := if xs.length < room then xs ++ [x] else xs
theorem take_snoc {cs xs : List Int} {x : Int} (h : cs.take xs.length = xs) (hl : xs.length < cs.length) : (cs.set xs.length x).take (xs ++ [x]).length = xs ++ [x] := by
  rw [List.length_append, List.length_singleton, List.take_add_one, List.take_set_of_le (Nat.le_refl _), h, List.getElem?_set_self hl]
  rfl
set_option maxHeartbeats 4000000 in
set_option maxRecDepth 20000 in
theorem c_Row_size (G : Gx) {h : AH} {o room : Nat} {xs : List Int} (hp : pRow h o room xs) : Ct G Y_Row_size 0 0 0 [aR o] h (isR (some (aI xs.length)) h) := by
  obtain ⟨cs, r1, r2, r3, r4, r6, r5⟩ := id hp
  refine Ct.of_V mo_Row_size rfl (Nat.le_of_ble_eq_true rfl) rfl ?_
  refine v_aload_n k_Row_size_0 rfl ?_
  refine v_getf fl_Row_7 r1 rfl k_Row_size_1 ?_
  refine v_ireturn k_Row_size_4 rfl rfl ?_
  exact ⟨rfl, rfl⟩

set_option maxHeartbeats 4000000 in
set_option maxRecDepth 20000 in
theorem c_Row_has (G : Gx) {h : AH} {o room : Nat} {xs : List Int} (hp : pRow h o room xs) {i : Int} (hi : InR i) : Ct G Y_Row_has 0 0 0 [aR o, aI i] h (isR (some (aI (if 0 ≤ i ∧ i < xs.length then 1 else 0))) h) := by
  obtain ⟨cs, r1, r2, r3, r4, r6, r5⟩ := id hp
  refine Ct.of_V mo_Row_has rfl (Nat.le_of_ble_eq_true rfl) rfl ?_
  refine v_iload_n k_Row_has_0 rfl ?_
  refine v_iflt 25 k_Row_has_1 rfl (by omega) (fun c1 => ?_) (fun c1 => ?_)
  · refine v_iconst k_Row_has_25 ?_
    refine v_ireturn k_Row_has_26 rfl (by first | rfl | (split <;> rfl)) ?_
    first
      | (exfalso; omega)
      | exact ⟨by rw [if_pos (by omega)], rfl⟩
      | exact ⟨by rw [if_neg (by omega)], rfl⟩
  · refine v_iload_n k_Row_has_4 rfl ?_
    refine v_aload_n k_Row_has_5 rfl ?_
    refine v_getf fl_Row_7 r1 rfl k_Row_has_6 ?_
    refine v_icge 25 k_Row_has_9 rfl (by omega) (by omega) (fun c9 => ?_) (fun c9 => ?_)
    · refine v_iconst k_Row_has_25 ?_
      refine v_ireturn k_Row_has_26 rfl (by first | rfl | (split <;> rfl)) ?_
      first
        | (exfalso; omega)
        | exact ⟨by rw [if_pos (by omega)], rfl⟩
        | exact ⟨by rw [if_neg (by omega)], rfl⟩
    · refine v_iload_n k_Row_has_12 rfl ?_
      refine v_aload_n k_Row_has_13 rfl ?_
      refine v_getf fl_Row_13 r1 rfl k_Row_has_14 ?_
      refine v_alen (by decide) r2 k_Row_has_17 ?_
      refine v_icge 25 k_Row_has_18 rfl (by omega) (by omega) (fun c18 => ?_) (fun c18 => ?_)
      · refine v_iconst k_Row_has_25 ?_
        refine v_ireturn k_Row_has_26 rfl (by first | rfl | (split <;> rfl)) ?_
        first
          | (exfalso; omega)
          | exact ⟨by rw [if_pos (by omega)], rfl⟩
          | exact ⟨by rw [if_neg (by omega)], rfl⟩
      · refine v_iconst k_Row_has_21 ?_
        refine v_goto k_Row_has_22 (tgt := 26) rfl ?_
        refine v_ireturn k_Row_has_26 rfl (by first | rfl | (split <;> rfl)) ?_
        first
          | (exfalso; omega)
          | exact ⟨by rw [if_pos (by omega)], rfl⟩
          | exact ⟨by rw [if_neg (by omega)], rfl⟩

set_option maxHeartbeats 4000000 in
set_option maxRecDepth 20000 in
theorem c_Row_get (G : Gx) {h : AH} {o room : Nat} {xs : List Int} (hp : pRow h o room xs) {i : Int} (hi : InR i) : Ct G Y_Row_get 0 0 0 [aR o, aI i] h (isR (some (aI (rget xs i))) h) := by
  obtain ⟨cs, r1, r2, r3, r4, r6, r5⟩ := id hp
  refine Ct.of_V mo_Row_get rfl (Nat.le_of_ble_eq_true rfl) rfl ?_
  refine v_iload_n k_Row_get_0 rfl ?_
  refine v_iflt 30 k_Row_get_1 rfl (by omega) (fun c1 => ?_) (fun c1 => ?_)
  · refine v_iconst k_Row_get_30 ?_
    refine v_ireturn k_Row_get_31 rfl rfl ?_
    first
      | (exfalso; omega)
      | exact ⟨by rw [rget, if_pos (by omega), take_get r5 (by omega)], rfl⟩
      | exact ⟨by rw [rget, if_neg (by omega)], rfl⟩
  · refine v_iload_n k_Row_get_4 rfl ?_
    refine v_aload_n k_Row_get_5 rfl ?_
    refine v_getf fl_Row_7 r1 rfl k_Row_get_6 ?_
    refine v_icge 30 k_Row_get_9 rfl (by omega) (by omega) (fun c9 => ?_) (fun c9 => ?_)
    · refine v_iconst k_Row_get_30 ?_
      refine v_ireturn k_Row_get_31 rfl rfl ?_
      first
        | (exfalso; omega)
        | exact ⟨by rw [rget, if_pos (by omega), take_get r5 (by omega)], rfl⟩
        | exact ⟨by rw [rget, if_neg (by omega)], rfl⟩
    · refine v_iload_n k_Row_get_12 rfl ?_
      refine v_aload_n k_Row_get_13 rfl ?_
      refine v_getf fl_Row_13 r1 rfl k_Row_get_14 ?_
      refine v_alen (by decide) r2 k_Row_get_17 ?_
      refine v_icge 30 k_Row_get_18 rfl (by omega) (by omega) (fun c18 => ?_) (fun c18 => ?_)
      · refine v_iconst k_Row_get_30 ?_
        refine v_ireturn k_Row_get_31 rfl rfl ?_
        first
          | (exfalso; omega)
          | exact ⟨by rw [rget, if_pos (by omega), take_get r5 (by omega)], rfl⟩
          | exact ⟨by rw [rget, if_neg (by omega)], rfl⟩
      · refine v_aload_n k_Row_get_21 rfl ?_
        refine v_getf fl_Row_13 r1 rfl k_Row_get_22 ?_
        refine v_iload_n k_Row_get_25 rfl ?_
        refine v_iald r2 (by omega) (by omega) k_Row_get_26 ?_
        refine v_goto k_Row_get_27 (tgt := 31) rfl ?_
        refine v_ireturn k_Row_get_31 rfl rfl ?_
        first
          | (exfalso; omega)
          | exact ⟨by rw [rget, if_pos (by omega), take_get r5 (by omega)], rfl⟩
          | exact ⟨by rw [rget, if_neg (by omega)], rfl⟩

set_option maxHeartbeats 4000000 in
set_option maxRecDepth 20000 in
theorem c_Row_set (G : Gx) {h : AH} {o room : Nat} {xs : List Int} (hp : pRow h o room xs) {i x : Int} (hi : InR i) : Ct G Y_Row_set 0 0 0 [aR o, aI i, aI x] h (fun v h' => v = none ∧ pRow h' o room (rset xs i x) ∧ Fr (o + 1) (o + 2) h h') := by
  obtain ⟨cs, r1, r2, r3, r4, r6, r5⟩ := id hp
  refine Ct.of_V mo_Row_set rfl (Nat.le_of_ble_eq_true rfl) rfl ?_
  refine v_iload_n k_Row_set_0 rfl ?_
  refine v_iflt 28 k_Row_set_1 rfl (by omega) (fun c1 => ?_) (fun c1 => ?_)
  · refine v_return k_Row_set_28 rfl ?_
    exact ⟨rfl, by rw [rset, if_neg (by omega)]; exact hp, Fr.rf⟩
  · refine v_iload_n k_Row_set_4 rfl ?_
    refine v_aload_n k_Row_set_5 rfl ?_
    refine v_getf fl_Row_7 r1 rfl k_Row_set_6 ?_
    refine v_icge 28 k_Row_set_9 rfl (by omega) (by omega) (fun c9 => ?_) (fun c9 => ?_)
    · refine v_return k_Row_set_28 rfl ?_
      exact ⟨rfl, by rw [rset, if_neg (by omega)]; exact hp, Fr.rf⟩
    · refine v_iload_n k_Row_set_12 rfl ?_
      refine v_aload_n k_Row_set_13 rfl ?_
      refine v_getf fl_Row_13 r1 rfl k_Row_set_14 ?_
      refine v_alen (by decide) r2 k_Row_set_17 ?_
      refine v_icge 28 k_Row_set_18 rfl (by omega) (by omega) (fun c18 => ?_) (fun c18 => ?_)
      · refine v_return k_Row_set_28 rfl ?_
        exact ⟨rfl, by rw [rset, if_neg (by omega)]; exact hp, Fr.rf⟩
      · refine v_aload_n k_Row_set_21 rfl ?_
        refine v_getf fl_Row_13 r1 rfl k_Row_set_22 ?_
        refine v_iload_n k_Row_set_25 rfl ?_
        refine v_iload_n k_Row_set_26 rfl ?_
        refine v_ist r2 (by omega) (by omega) k_Row_set_27 (fun h1 e1 f1 => ?_)
        refine v_return k_Row_set_28 rfl ?_
        refine ⟨rfl, ?_, f1⟩
        rw [rset, if_pos (by omega)]
        exact ⟨_, by rw [List.length_set]; exact f1.at r1 (by omega), e1, by rw [List.length_set]; exact r3, by rw [List.length_set]; exact r4, r6, by rw [List.length_set, List.take_set, r5]⟩

set_option maxHeartbeats 4000000 in
set_option maxRecDepth 20000 in
theorem c_Row_add (G : Gx) {h : AH} {o room : Nat} {xs : List Int} (hp : pRow h o room xs) {x : Int} : Ct G Y_Row_add 0 0 0 [aR o, aI x] h (fun v h' => v = none ∧ pRow h' o room (radd room xs x) ∧ Fr o (o + 2) h h') := by
  obtain ⟨cs, r1, r2, r3, r4, r6, r5⟩ := id hp
  refine Ct.of_V mo_Row_add rfl (Nat.le_of_ble_eq_true rfl) rfl ?_
  refine v_aload_n k_Row_add_0 rfl ?_
  refine v_getf fl_Row_7 r1 rfl k_Row_add_1 ?_
  refine v_iflt 39 k_Row_add_4 rfl (by omega) (fun c4 => ?_) (fun c4 => ?_)
  · refine v_return k_Row_add_39 rfl ?_
    exact ⟨rfl, by rw [radd, if_neg (by omega)]; exact hp, Fr.rf⟩
  · refine v_aload_n k_Row_add_7 rfl ?_
    refine v_getf fl_Row_7 r1 rfl k_Row_add_8 ?_
    refine v_aload_n k_Row_add_11 rfl ?_
    refine v_getf fl_Row_13 r1 rfl k_Row_add_12 ?_
    refine v_alen (by decide) r2 k_Row_add_15 ?_
    refine v_icge 39 k_Row_add_16 rfl (by omega) (by omega) (fun c16 => ?_) (fun c16 => ?_)
    · refine v_return k_Row_add_39 rfl ?_
      exact ⟨rfl, by rw [radd, if_neg (by omega)]; exact hp, Fr.rf⟩
    · refine v_aload_n k_Row_add_19 rfl ?_
      refine v_getf fl_Row_13 r1 rfl k_Row_add_20 ?_
      refine v_aload_n k_Row_add_23 rfl ?_
      refine v_getf fl_Row_7 r1 rfl k_Row_add_24 ?_
      refine v_iload_n k_Row_add_27 rfl ?_
      refine v_ist r2 (by omega) (by omega) k_Row_add_28 (fun h1 e1 f1 => ?_)
      have s1 := f1.at r1 (by omega)
      refine v_aload_n k_Row_add_29 rfl ?_
      refine v_dup k_Row_add_30 rfl ?_
      refine v_getf fl_Row_7 s1 rfl k_Row_add_31 ?_
      refine v_iconst k_Row_add_34 ?_
      refine v_iadd k_Row_add_35 ?_
      refine v_put fl_Row_7 s1 (Nat.le_of_ble_eq_true rfl) (fun r hr => by cases hr; exact Or.inl rfl) rfl rfl k_Row_add_36 (fun h2 e2 f2 => ?_)
      refine v_return k_Row_add_39 rfl ?_
      refine ⟨rfl, ?_, (Fr.wd f1 (by omega) (by omega)).tr f2 (by omega) (by omega)⟩
      rw [radd, if_pos (by omega)]
      exact ⟨_, by rw [List.length_append]; exact e2, by rw [Int.toNat_natCast] at e1; exact f2.at e1 (by omega), by rw [List.length_set]; exact r3, by rw [List.length_append]; show xs.length + 1 ≤ room; omega, r6, take_snoc r5 (by omega)⟩

set_option maxHeartbeats 4000000 in
set_option maxRecDepth 20000 in
theorem c_Row_clear (G : Gx) {h : AH} {o room : Nat} {xs : List Int} (hp : pRow h o room xs) : Ct G Y_Row_clear 0 0 0 [aR o] h (fun v h' => v = none ∧ pRow h' o room [] ∧ Fr o (o + 1) h h') := by
  obtain ⟨cs, r1, r2, r3, r4, r6, r5⟩ := id hp
  refine Ct.of_V mo_Row_clear rfl (Nat.le_of_ble_eq_true rfl) rfl ?_
  refine v_aload_n k_Row_clear_0 rfl ?_
  refine v_iconst k_Row_clear_1 ?_
  refine v_put fl_Row_7 r1 (Nat.le_of_ble_eq_true rfl) (fun r hr => by cases hr; exact Or.inl rfl) rfl rfl k_Row_clear_2 (fun h1 e1 f1 => ?_)
  refine v_return k_Row_clear_5 rfl ?_
  exact ⟨rfl, ⟨_, e1, f1.at r2 (by omega), r3, Nat.zero_le _, r6, rfl⟩, f1⟩

theorem radd_take {ys : List Int} {i room : Nat} (hi : i < ys.length) (hr : ys.length ≤ room) : radd room (ys.take i) (rget ys i) = ys.take (i + 1) := by
  rw [radd, List.length_take, if_pos (by omega), rget, if_pos (by omega), List.take_add_one, Int.toNat_natCast]
  simp [List.getD_eq_getElem?_getD, List.getElem?_eq_getElem hi]
set_option maxHeartbeats 4000000 in
set_option maxRecDepth 20000 in
theorem c_Row_copyFrom (G : Gx) {h : AH} {o p room room2 : Nat} {xs ys : List Int} (hp : pRow h o room xs) (hq : pRow h p room2 ys) (hy : ys.length ≤ room) (hd : o + 2 ≤ p ∨ p + 2 ≤ o) : Ct G Y_Row_copyFrom 1 0 0 [aR o, aR p] h (fun v h' => v = none ∧ pRow h' o room ys ∧ Fr o (o + 2) h h') := by
  refine Ct.of_V mo_Row_copyFrom rfl (Nat.le_of_ble_eq_true rfl) rfl ?_
  have loop : ∀ (n i : Nat) (h1 : AH), i ≤ ys.length → ys.length < i + n → pRow h1 o room (ys.take i) → Fr o (o + 2) h h1 → V G Y_Row_copyFrom 1 0 0 10 [some (aR o), some (aR p), some (aI i)] [] h1 (fun v h' => v = none ∧ pRow h' o room ys ∧ Fr o (o + 2) h h') := by
    intro n
    induction n with
    | zero => intro i h1 hi hn; omega
    | succ n ih =>
      intro i h1 hi hn hp1 f1
      have hq1 := hq.fr f1 (by omega)
      obtain ⟨cs, t1, t2, t3, t4, t5, t6⟩ := id hp1
      obtain ⟨ds, u1, u2, u3, u4, u5, u6⟩ := id hq1
      refine v_iload_n k_Row_copyFrom_10 rfl ?_
      refine v_aload_n k_Row_copyFrom_11 rfl ?_
      refine v_callVr mo_Row_size mi_Row_size mv_Row_size lk_Row_20 k_Row_copyFrom_12 u1 rfl rfl (Nat.le_of_ble_eq_true rfl) rfl (Nat.le_of_ble_eq_true rfl) (c_Row_size G hq1) ?_
      refine v_icge 33 k_Row_copyFrom_15 rfl (by omega) (by omega) (fun c15 => ?_) (fun c15 => ?_)
      · refine v_return k_Row_copyFrom_33 rfl ?_
        rw [List.take_of_length_le (by omega)] at hp1
        exact ⟨rfl, hp1, f1⟩
      · refine v_aload_n k_Row_copyFrom_18 rfl ?_
        refine v_aload_n k_Row_copyFrom_19 rfl ?_
        refine v_iload_n k_Row_copyFrom_20 rfl ?_
        refine v_callVr mo_Row_get mi_Row_get mv_Row_get lk_Row_24 k_Row_copyFrom_21 u1 rfl rfl (Nat.le_of_ble_eq_true rfl) rfl (Nat.le_of_ble_eq_true rfl) (c_Row_get G hq1 (i := i) (by omega)) ?_
        refine v_callV mo_Row_add mi_Row_add mv_Row_add lk_Row_28 k_Row_copyFrom_24 t1 rfl rfl (Nat.le_of_ble_eq_true rfl) rfl (Nat.le_of_ble_eq_true rfl) (c_Row_add G hp1 (x := rget ys i)) (fun v24 h24 q24 => ?_)
        obtain ⟨rfl, hp2, f2⟩ := q24
        refine v_iinc k_Row_copyFrom_27 rfl (Nat.le_of_ble_eq_true rfl) ?_
        refine v_goto k_Row_copyFrom_30 (tgt := 10) rfl ?_
        rw [show radd room (ys.take i) (rget ys i) = ys.take (i + 1) from radd_take (by omega) (by omega)] at hp2
        exact ih (i + 1) h24 (by omega) (by omega) hp2 (f1.tr f2 (by omega) (by omega))
  obtain ⟨cs, r1, r2, r3, r4, r5, r6⟩ := id hp
  refine v_aload_n k_Row_copyFrom_0 rfl ?_
  refine v_callV mo_Row_clear mi_Row_clear mv_Row_clear lk_Row_17 k_Row_copyFrom_1 r1 rfl rfl (Nat.le_of_ble_eq_true rfl) rfl (Nat.le_of_ble_eq_true rfl) (c_Row_clear G hp) (fun v h1 q => ?_)
  obtain ⟨rfl, hp1, f1⟩ := q
  refine v_aload_n k_Row_copyFrom_4 rfl ?_
  refine v_ifnull k_Row_copyFrom_5 ?_
  refine v_iconst k_Row_copyFrom_8 ?_
  refine v_istore_n k_Row_copyFrom_9 ⟨Nat.le_of_ble_eq_true rfl, Nat.le_of_ble_eq_true rfl⟩ ?_
  exact loop (ys.length + 1) 0 h1 (Nat.zero_le _) (by omega) hp1 (f1.wd (by omega) (by omega))
