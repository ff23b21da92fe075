/-- note one, or other, is touched by all that is ill (a bit of the row of mends) -/
def cmB (ms : List Int) (one other : Int) : Bool := (rget ms one).toNat.testBit other.toNat
theorem tb_1 {x : Int} {k : Nat} (h : 0 ≤ x) (e : x / ((2 ^ k : Nat) : Int) % ((2 ^ 1 : Nat) : Int) = 1) : x.toNat.testBit k = true := by
  obtain ⟨n, rfl⟩ := Int.eq_ofNat_of_zero_le h
  rw [Int.toNat_natCast, Nat.testBit_eq_decide_div_mod_eq]
  exact decide_eq_true (by exact_mod_cast e)
theorem tb_0 {x : Int} {k : Nat} (h : 0 ≤ x) (e : ¬ x / ((2 ^ k : Nat) : Int) % ((2 ^ 1 : Nat) : Int) = 1) : x.toNat.testBit k = false := by
  obtain ⟨n, rfl⟩ := Int.eq_ofNat_of_zero_le h
  rw [Int.toNat_natCast, Nat.testBit_eq_decide_div_mod_eq]
  exact decide_eq_false (fun q => e (by exact_mod_cast q))
theorem dv_bd {W B : Int} (h : 0 ≤ W ∧ W ≤ B) (n : Nat) : 0 ≤ W / ((2 ^ n : Nat) : Int) ∧ W / ((2 ^ n : Nat) : Int) ≤ B := by
  have hp : (0 : Int) < ((2 ^ n : Nat) : Int) := by exact_mod_cast Nat.two_pow_pos n
  exact ⟨Int.ediv_nonneg h.1 (Int.le_of_lt hp), Int.le_trans (Int.ediv_le_self _ h.1) h.2⟩
/-- the row of mends when all that is ill touches t too -/
def kmL (t : Nat) : Nat → List Int → List Int
  | _, [] => []
  | i, x :: r => (if t.testBit i then x else ((x.toNat &&& t : Nat) : Int)) :: kmL t (i + 1) r
theorem kmL_len (t : Nat) : ∀ (i : Nat) (l : List Int), (kmL t i l).length = l.length
  | _, [] => rfl
  | i, x :: r => by simp only [kmL, List.length_cons]; rw [kmL_len t (i + 1) r]
theorem kmL_get (t : Nat) : ∀ (i : Nat) (l : List Int) (j : Nat) (hj : j < l.length), (kmL t i l)[j]'(by rw [kmL_len]; exact hj) = if t.testBit (i + j) then l[j] else (((l[j]).toNat &&& t : Nat) : Int)
  | i, [], j, hj => by simp at hj
  | i, x :: r, 0, hj => by simp [kmL]
  | i, x :: r, j + 1, hj => by
    simp only [kmL, List.getElem_cons_succ]
    rw [kmL_get t (i + 1) r j (by simpa using hj)]
    rw [show i + 1 + j = i + (j + 1) by omega]
theorem kmL_bd (t : Nat) {B : Int} (hB : 0 ≤ B) : ∀ (i : Nat) (l : List Int), (∀ x ∈ l, 0 ≤ x ∧ x ≤ B) → ∀ x ∈ kmL t i l, 0 ≤ x ∧ x ≤ B
  | _, [], _, x, hx => by simp [kmL] at hx
  | i, y :: r, h, x, hx => by
    simp only [kmL, List.mem_cons] at hx
    rcases hx with e | hx
    · have hy := h y List.mem_cons_self
      rw [e]
      split
      · exact hy
      · have := Nat.and_le_left (n := y.toNat) (m := t)
        omega
    · exact kmL_bd t hB (i + 1) r (fun z hz => h z (List.mem_cons_of_mem _ hz)) x hx
set_option maxHeartbeats 4000000 in
set_option maxRecDepth 20000 in
theorem c_Mind_canMend (G : Gx) {h : AH} {m : Nat} {K : CK} {sg sd ws ts ms : List Int} (hx : pMind h m K sg sd ws ts ms) (hms : ∀ x ∈ ms, 0 ≤ x ∧ x ≤ 4095) {one other : Int} (h1 : InR one) (h2 : 0 ≤ other ∧ other ≤ 20) : Ct G Y_Mind_canMend 1 0 0 [aR m, aI one, aI other] h (isR (some (aI (if cmB ms one other then 1 else 0))) h) := by
  obtain ⟨x0, x1, x2, x3⟩ := id hx
  have e1 := rget_bd hms (by decide) (by decide) one
  have e2 := dv_bd e1 other.toNat
  have e7 : ((2 ^ 1 : Nat) : Int) = 2 := rfl
  refine Ct.of_V mo_Mind_canMend rfl (Nat.le_of_ble_eq_true rfl) rfl ?_
  refine v_aload_n k_Mind_canMend_0 rfl ?_
  refine v_getf fl_Mind_30 x0 rfl k_Mind_canMend_1 ?_
  refine v_iload_n k_Mind_canMend_4 rfl ?_
  refine v_callVr mo_Row_get mi_Row_get mv_Row_get lk_Mind_125 k_Mind_canMend_5 x3.obj rfl rfl (Nat.le_of_ble_eq_true rfl) rfl (Nat.le_of_ble_eq_true rfl) (c_Row_get G x3 (by omega)) ?_
  refine v_iload_n k_Mind_canMend_8 rfl ?_
  refine v_ishr k_Mind_canMend_9 (by omega) (by omega) ?_
  refine v_iconst k_Mind_canMend_10 ?_
  refine v_mask 1 k_Mind_canMend_11 (by decide) rfl ?_
  refine v_iconst k_Mind_canMend_12 ?_
  refine v_icne 20 k_Mind_canMend_13 rfl (by omega) (by omega) (fun c13 => ?_) (fun c13 => ?_)
  · refine v_iconst k_Mind_canMend_20 ?_
    refine v_ireturn k_Mind_canMend_21 rfl (by first | rfl | (split <;> rfl)) ?_
    first
      | exact ⟨by rw [cmB, tb_1 e1.1 (Classical.not_not.mp c13)]; rfl, rfl⟩
      | exact ⟨by rw [cmB, tb_0 e1.1 c13]; rfl, rfl⟩
  · refine v_iconst k_Mind_canMend_16 ?_
    refine v_goto k_Mind_canMend_17 (tgt := 21) rfl ?_
    refine v_ireturn k_Mind_canMend_21 rfl (by first | rfl | (split <;> rfl)) ?_
    first
      | exact ⟨by rw [cmB, tb_1 e1.1 (Classical.not_not.mp c13)]; rfl, rfl⟩
      | exact ⟨by rw [cmB, tb_0 e1.1 c13]; rfl, rfl⟩

theorem km_cur {t i : Nat} {ms : List Int} (hi : i < ms.length) : rget ((kmL t 0 ms).take i ++ ms.drop i) i = ms[i] := by
  have h1 : ((kmL t 0 ms).take i).length = i := by rw [List.length_take, kmL_len]; omega
  rw [rget, if_pos (by rw [List.length_append, h1, List.length_drop]; omega), Int.toNat_natCast, List.getD_eq_getElem?_getD, List.getElem?_append_right (by omega), h1, Nat.sub_self, List.getElem?_drop, Nat.add_zero, List.getElem?_eq_getElem hi]
  rfl
theorem km_nxt {t i : Nat} {ms : List Int} (hi : i < ms.length) : (kmL t 0 ms).take (i + 1) ++ ms.drop (i + 1) = (kmL t 0 ms).take i ++ ((if t.testBit i then ms[i] else (((ms[i]).toNat &&& t : Nat) : Int)) :: ms.drop (i + 1)) := by
  rw [List.take_add_one, List.getElem?_eq_getElem (show i < (kmL t 0 ms).length by rw [kmL_len]; exact hi), kmL_get t 0 ms i hi, Nat.zero_add, List.append_assoc]
  rfl
theorem km_same {t i : Nat} {ms : List Int} (hi : i < ms.length) (e : t.testBit i = true) : (kmL t 0 ms).take i ++ ms.drop i = (kmL t 0 ms).take (i + 1) ++ ms.drop (i + 1) := by
  rw [km_nxt hi, if_pos e, ← List.drop_eq_getElem_cons hi]
theorem km_set {t i : Nat} {ms : List Int} (hi : i < ms.length) (e : t.testBit i = false) : rset ((kmL t 0 ms).take i ++ ms.drop i) i (((ms[i]).toNat &&& t : Nat) : Int) = (kmL t 0 ms).take (i + 1) ++ ms.drop (i + 1) := by
  have h1 : ((kmL t 0 ms).take i).length = i := by rw [List.length_take, kmL_len]; omega
  rw [km_nxt hi, e, if_neg (by decide), rset, if_pos (by rw [List.length_append, h1, List.length_drop]; omega), Int.toNat_natCast, List.set_append_right _ _ (by omega), h1, Nat.sub_self, List.drop_eq_getElem_cons hi]
  rfl
set_option maxHeartbeats 4000000 in
set_option maxRecDepth 20000 in
theorem c_Mind_keepMends (G : Gx) {h : AH} {m : Nat} {K : CK} {sg sd ws ts ms : List Int} (hx : pMind h m K sg sd ws ts ms) (hms : ∀ x ∈ ms, 0 ≤ x ∧ x ≤ 4095) {t : Nat} (ht : t < 65536) : Ct G Y_Mind_keepMends 1 0 0 [aR m, aI (t : Int)] h (fun v h' => v = none ∧ pMind h' m K sg sd ws ts (kmL t 0 ms) ∧ Fr (m + 24) (m + 26) h h') := by
  obtain ⟨x0, x1, x2, x3⟩ := id hx
  have hl12 := x3.le
  refine Ct.of_V mo_Mind_keepMends rfl (Nat.le_of_ble_eq_true rfl) rfl ?_
  have loop : ∀ (k : Nat) (i : Nat) (h1 : AH), (ms.length < i + k) → (i ≤ ms.length) → (pMind h1 m K sg sd ws ts ((kmL t 0 ms).take i ++ ms.drop i)) → (Fr (m + 24) (m + 26) h h1) → V G Y_Mind_keepMends 1 0 0 2 [some (aR m), some (aI (t : Int)), some (aI i)] [] h1 (fun v h' => v = none ∧ pMind h' m K sg sd ws ts (kmL t 0 ms) ∧ Fr (m + 24) (m + 26) h h') := by
    intro k
    induction k with
    | zero => intro i h1 hk hi hx1 f1; exfalso; omega
    | succ k ih =>
      intro i h1 hk hi hx1 f1
      obtain ⟨x0, x1, x2, x3⟩ := id hx1
      have hcl : (((kmL t 0 ms).take i ++ ms.drop i)).length = ms.length := by rw [List.length_append, List.length_take, List.length_drop, kmL_len]; omega
      refine v_iload_n k_Mind_keepMends_2 rfl ?_
      refine v_aload_n k_Mind_keepMends_3 rfl ?_
      refine v_getf fl_Mind_30 x0 rfl k_Mind_keepMends_4 ?_
      refine v_callVr mo_Row_size mi_Row_size mv_Row_size lk_Mind_124 k_Mind_keepMends_7 x3.obj rfl rfl (Nat.le_of_ble_eq_true rfl) rfl (Nat.le_of_ble_eq_true rfl) (c_Row_size G x3) ?_
      refine v_icge 45 k_Mind_keepMends_10 rfl (by omega) (by omega) (fun c10 => ?_) (fun c10 => ?_)
      · refine v_return k_Mind_keepMends_45 rfl ?_
        have e : i = ms.length := by omega
        rw [e, List.drop_length, List.append_nil, List.take_of_length_le (by rw [kmL_len]; omega)] at hx1
        exact ⟨rfl, hx1, f1⟩
      · have hi2 : i < ms.length := by omega
        refine v_iload_n k_Mind_keepMends_13 rfl ?_
        refine v_iload_n k_Mind_keepMends_14 rfl ?_
        refine v_ishr k_Mind_keepMends_15 (by omega) (by omega) ?_
        have e2 := dv_bd (W := (t : Int)) (B := 70000) (by omega) ((i : Int)).toNat
        have e7 : ((2 ^ 1 : Nat) : Int) = 2 := rfl
        refine v_iconst k_Mind_keepMends_16 ?_
        refine v_mask 1 k_Mind_keepMends_17 (by decide) rfl ?_
        refine v_ifne 39 k_Mind_keepMends_18 rfl (by omega) (fun c18 => ?_) (fun c18 => ?_)
        · refine v_iinc k_Mind_keepMends_39 rfl (Nat.le_of_ble_eq_true rfl) ?_
          refine v_goto k_Mind_keepMends_42 (tgt := 2) rfl ?_
          first
            | (have e4 : t.testBit i = false := by
                 have := tb_0 (x := (t : Int)) (k := i) (Int.natCast_nonneg _) (by rw [Int.toNat_natCast] at c18; omega)
                 rwa [Int.toNat_natCast] at this
               rw [km_set hi2 e4] at n3
               exact ih (i + 1) h36 (by omega) (by omega) ⟨f3.at x0 (by omega), x1.fr f3 (by omega), x2.fr f3 (by omega), n3⟩ (f1.tr f3 (by omega) (by omega)))
            | (have e4 : t.testBit i = true := by
                 have := tb_1 (x := (t : Int)) (k := i) (Int.natCast_nonneg _) (by rw [Int.toNat_natCast] at c18; omega)
                 rwa [Int.toNat_natCast] at this
               rw [km_same hi2 e4] at hx1
               exact ih (i + 1) h1 (by omega) (by omega) hx1 f1)
        · refine v_aload_n k_Mind_keepMends_21 rfl ?_
          refine v_getf fl_Mind_30 x0 rfl k_Mind_keepMends_22 ?_
          refine v_iload_n k_Mind_keepMends_25 rfl ?_
          refine v_aload_n k_Mind_keepMends_26 rfl ?_
          refine v_getf fl_Mind_30 x0 rfl k_Mind_keepMends_27 ?_
          refine v_iload_n k_Mind_keepMends_30 rfl ?_
          refine v_callVr mo_Row_get mi_Row_get mv_Row_get lk_Mind_125 k_Mind_keepMends_31 x3.obj rfl rfl (Nat.le_of_ble_eq_true rfl) rfl (Nat.le_of_ble_eq_true rfl) (c_Row_get G x3 (by omega)) ?_
          refine v_iload_n k_Mind_keepMends_34 rfl ?_
          rw [km_cur hi2]
          have e3 := hms _ (List.getElem_mem hi2)
          refine v_iand k_Mind_keepMends_35 e3.1 (Int.natCast_nonneg _) ?_
          rw [Int.toNat_natCast]
          refine v_callV mo_Row_set mi_Row_set mv_Row_set lk_Mind_128 k_Mind_keepMends_36 x3.obj rfl rfl (Nat.le_of_ble_eq_true rfl) rfl (Nat.le_of_ble_eq_true rfl) (c_Row_set G x3 (by omega)) (fun v36 h36 q36 => ?_)
          obtain ⟨rfl, n3, f3⟩ := q36
          refine v_iinc k_Mind_keepMends_39 rfl (Nat.le_of_ble_eq_true rfl) ?_
          refine v_goto k_Mind_keepMends_42 (tgt := 2) rfl ?_
          first
            | (have e4 : t.testBit i = false := by
                 have := tb_0 (x := (t : Int)) (k := i) (Int.natCast_nonneg _) (by rw [Int.toNat_natCast] at c18; omega)
                 rwa [Int.toNat_natCast] at this
               rw [km_set hi2 e4] at n3
               exact ih (i + 1) h36 (by omega) (by omega) ⟨f3.at x0 (by omega), x1.fr f3 (by omega), x2.fr f3 (by omega), n3⟩ (f1.tr f3 (by omega) (by omega)))
            | (have e4 : t.testBit i = true := by
                 have := tb_1 (x := (t : Int)) (k := i) (Int.natCast_nonneg _) (by rw [Int.toNat_natCast] at c18; omega)
                 rwa [Int.toNat_natCast] at this
               rw [km_same hi2 e4] at hx1
               exact ih (i + 1) h1 (by omega) (by omega) hx1 f1)
  refine v_iconst k_Mind_keepMends_0 ?_
  refine v_istore_n k_Mind_keepMends_1 ⟨Nat.le_of_ble_eq_true rfl, Nat.le_of_ble_eq_true rfl⟩ ?_
  exact loop 13 0 h (by omega) (by omega) (by rw [List.take_zero, List.drop_zero]; exact hx) Fr.rf
