/-- what the row of mends tells, of the ill ones among these ways -/
def mdP (K : CK) (n : Nat) (E : List Int) (ms : List Int) : Prop := ms.length = n ∧ (∀ x ∈ ms, 0 ≤ x ∧ x ≤ 4095) ∧ ∀ one other : Nat, one < n → other < 12 → cmB ms one other = E.all fun x => !illW K x || ((ntW x).testBit one || (ntW x).testBit other)
theorem ntW_lt {x : Int} (h : 0 ≤ x ∧ x < 32768) : ntW x < 65536 := by
  have e1 := emd x 16 (by decide)
  have e2 := emd (x / 16) 16 (by decide)
  have a1 : 2 ^ (x % 16).toNat < 2 ^ 16 := Nat.pow_lt_pow_right (by decide) (by omega)
  have a2 : 2 ^ (x / 16 % 16).toNat < 2 ^ 16 := Nat.pow_lt_pow_right (by decide) (by omega)
  have a3 : (x / 16384).toNat < 2 ^ 16 := by omega
  exact Nat.or_lt_two_pow (Nat.or_lt_two_pow a1 a2) a3
theorem mdP_rep (K : CK) (n : Nat) : mdP K n [] (List.replicate n 4095) := by
  refine ⟨List.length_replicate, fun x hx => by rw [(List.mem_replicate.mp hx).2]; decide, fun one other h1 h2 => ?_⟩
  rw [cmB, rget, if_pos (by rw [List.length_replicate]; omega), Int.toNat_natCast, List.getD_eq_getElem?_getD, List.getElem?_replicate, if_pos h1, Int.toNat_natCast]
  show (4095 : Nat).testBit other = true
  rcases (show other = 0 ∨ other = 1 ∨ other = 2 ∨ other = 3 ∨ other = 4 ∨ other = 5 ∨ other = 6 ∨ other = 7 ∨ other = 8 ∨ other = 9 ∨ other = 10 ∨ other = 11 by omega) with e | e | e | e | e | e | e | e | e | e | e | e <;> rw [e] <;> decide
theorem mdP_ill {K : CK} {n : Nat} {E ms : List Int} {x : Int} (h : mdP K n E ms) (hi : illW K x = true) : mdP K n (E ++ [x]) (kmL (ntW x) 0 ms) := by
  obtain ⟨h1, h2, h3⟩ := h
  refine ⟨by rw [kmL_len, h1], kmL_bd _ (by decide) 0 ms h2, fun one other ho ht => ?_⟩
  have e3 := h3 one other ho ht
  have hlt : one < ms.length := by omega
  rw [List.all_append, ← e3]
  unfold cmB
  rw [Int.toNat_natCast, rg0 (xs := kmL (ntW x) 0 ms) (i := one) (by rw [kmL_len]; exact hlt), kmL_get _ _ _ _ hlt, Nat.zero_add, rg0 hlt]
  simp only [List.all_cons, List.all_nil, Bool.and_true, hi, Bool.not_true, Bool.false_or]
  cases hb : (ntW x).testBit one with
  | true => simp
  | false => simp [Nat.testBit_and]
theorem mdP_well {K : CK} {n : Nat} {E ms : List Int} {x : Int} (h : mdP K n E ms) (hi : illW K x = false) : mdP K n (E ++ [x]) ms := by
  refine ⟨h.1, h.2.1, fun one other ho ht => ?_⟩
  rw [List.all_append, h.2.2 one other ho ht]
  simp [hi]
/-- the first note, with its first pitch, that mends all -/
def fsF (K : CK) (ms : List Int) : Nat → Nat → Int
  | 0, _ => -9
  | k + 1, n => if (if cmB ms n n then mpF K n 10 0 else -9) = -9 then fsF K ms k (n + 1) else 10 * n + (if cmB ms n n then mpF K n 10 0 else -9)
def hpO (K : CK) (ms : List Int) (one : Int) : Nat → Nat → Bool
  | 0, _ => false
  | k + 1, o => (cmB ms one o && !decide (mpF K o 10 0 = -9)) || hpO K ms one k (o + 1)
def hpQ (K : CK) (ms : List Int) (one : Nat) : Nat → Nat → Bool
  | 0, _ => false
  | k + 1, p => hpO (setP K one p) ms one ((kP K).length - (one + 1)) (one + 1) || hpQ K ms one k (p + 1)
def hpN (K : CK) (ms : List Int) : Nat → Nat → Bool
  | 0, _ => false
  | k + 1, n => hpQ K ms n 10 0 || hpN K ms k (n + 1)
set_option maxHeartbeats 4000000 in
set_option maxRecDepth 20000 in
theorem c_Mind_findMends (G : Gx) {h : AH} {m : Nat} {K : CK} {sg sd : List Int} {M : List (Int × Int)} {ms : List Int} (hx : pMind h m K sg sd (M.map Prod.fst) (M.map Prod.snd) ms) (w : wK K) (h12 : (kP K).length ≤ 12) (hb : ∀ q ∈ M, 0 ≤ q.1 ∧ q.1 < 32768) : Ct G Y_Mind_findMends 3 0 0 [aR m] h (fun v h' => v = none ∧ ∃ ms', pMind h' m K sg sd (M.map Prod.fst) (M.map Prod.snd) ms' ∧ Fr (m + 24) (m + 26) h h' ∧ mdP K (kP K).length (M.map Prod.fst) ms') := by
  obtain ⟨x0, x1, x2, x3⟩ := id hx
  have hml : M.length ≤ 1170 := by have := x2.2.1.le; rw [List.length_map] at this; exact this
  refine Ct.of_V mo_Mind_findMends rfl (Nat.le_of_ble_eq_true rfl) rfl ?_
  have loop2 : ∀ (k : Nat) (i : Nat) (h1 : AH) (ms1 : List Int), (M.length < i + k) → (i ≤ M.length) → (pMind h1 m K sg sd (M.map Prod.fst) (M.map Prod.snd) ms1) → (Fr (m + 24) (m + 26) h h1) → (mdP K (kP K).length ((M.map Prod.fst).take i) ms1) → V G Y_Mind_findMends 3 0 0 41 [some (aR m), some (aI i)] [] h1 (fun v h' => v = none ∧ ∃ ms', pMind h' m K sg sd (M.map Prod.fst) (M.map Prod.snd) ms' ∧ Fr (m + 24) (m + 26) h h' ∧ mdP K (kP K).length (M.map Prod.fst) ms') := by
    intro k
    induction k with
    | zero => intro i h1 ms1 hk hi hx1 f1 hmd; exfalso; omega
    | succ k ih =>
      intro i h1 ms1 hk hi hx1 f1 hmd
      obtain ⟨x0, x1, x2, x3⟩ := id hx1
      refine v_iload_n k_Mind_findMends_41 rfl ?_
      refine v_aload_n k_Mind_findMends_42 rfl ?_
      refine v_getf fl_Mind_21 x0 rfl k_Mind_findMends_43 ?_
      refine v_callVr mo_Meetings_size mi_Meetings_size mv_Meetings_size lk_Mind_111 k_Mind_findMends_46 x2.1 rfl rfl (Nat.le_of_ble_eq_true rfl) rfl (Nat.le_of_ble_eq_true rfl) (c_Meetings_size G x2) ?_
      refine v_icge 85 k_Mind_findMends_49 rfl (by omega) (by omega) (fun c49 => ?_) (fun c49 => ?_)
      · refine v_return k_Mind_findMends_85 rfl ?_
        have e : i = M.length := by omega
        rw [e, List.take_of_length_le (by rw [List.length_map]; omega)] at hmd
        exact ⟨rfl, ms1, hx1, f1, hmd⟩
      · have e1 := rgM Prod.fst (L := M) (i := i) (by omega)
        have e2 := hb _ (List.getElem_mem (show i < M.length by omega))
        refine v_aload_n k_Mind_findMends_52 rfl ?_
        refine v_getf fl_Mind_21 x0 rfl k_Mind_findMends_53 ?_
        refine v_iload_n k_Mind_findMends_56 rfl ?_
        refine v_aload_n k_Mind_findMends_57 rfl ?_
        refine v_getf fl_Mind_12 x0 rfl k_Mind_findMends_58 ?_
        refine v_callVr mo_Meetings_isIll mi_Meetings_isIll mv_Meetings_isIll lk_Mind_114 k_Mind_findMends_61 x2.1 rfl rfl (Nat.le_of_ble_eq_true rfl) rfl (Nat.le_of_ble_eq_true rfl) (c_Meetings_isIll G x2 x1 w (by omega) (by rw [e1]; exact e2)) ?_
        refine v_ifeq 79 k_Mind_findMends_64 rfl (by split <;> decide) (fun c64 => ?_) (fun c64 => ?_)
        · refine v_iinc k_Mind_findMends_79 rfl (Nat.le_of_ble_eq_true rfl) ?_
          refine v_goto k_Mind_findMends_82 (tgt := 41) rfl ?_
          have et : (M.map Prod.fst).take (i + 1) = (M.map Prod.fst).take i ++ [(M[i]).1] := by
            rw [List.take_add_one, List.getElem?_map, List.getElem?_eq_getElem (show i < M.length by omega)]; rfl
          rw [e1] at c64
          cases hq : illW K (M[i]).1 with
          | true => first
              | (rw [hq] at c64; exact absurd c64 (by decide))
              | (rw [e1] at hx2; exact ih (i + 1) h76 _ (by omega) (by omega) hx2 (f1.tr f2 (by omega) (by omega)) (by rw [et]; exact mdP_ill hmd hq))
          | false => first
              | (rw [hq] at c64; exact absurd rfl c64)
              | exact ih (i + 1) h1 ms1 (by omega) (by omega) hx1 f1 (by rw [et]; exact mdP_well hmd hq)
        · refine v_aload_n k_Mind_findMends_67 rfl ?_
          refine v_aload_n k_Mind_findMends_68 rfl ?_
          refine v_getf fl_Mind_21 x0 rfl k_Mind_findMends_69 ?_
          refine v_iload_n k_Mind_findMends_72 rfl ?_
          refine v_callVr mo_Meetings_notesOf mi_Meetings_notesOf mv_Meetings_notesOf lk_Mind_118 k_Mind_findMends_73 x2.1 rfl rfl (Nat.le_of_ble_eq_true rfl) rfl (Nat.le_of_ble_eq_true rfl) (c_Meetings_notesOf G x2 (by omega) (by rw [e1]; exact e2)) ?_
          refine v_callV mo_Mind_keepMends mi_Mind_keepMends mv_Mind_keepMends lk_Mind_121 k_Mind_findMends_76 x0 rfl rfl (Nat.le_of_ble_eq_true rfl) rfl (Nat.le_of_ble_eq_true rfl) (c_Mind_keepMends G hx1 hmd.2.1 (t := ntW (rget (M.map Prod.fst) i)) (by rw [e1]; exact ntW_lt e2)) (fun v76 h76 q76 => ?_)
          obtain ⟨rfl, hx2, f2⟩ := q76
          refine v_iinc k_Mind_findMends_79 rfl (Nat.le_of_ble_eq_true rfl) ?_
          refine v_goto k_Mind_findMends_82 (tgt := 41) rfl ?_
          have et : (M.map Prod.fst).take (i + 1) = (M.map Prod.fst).take i ++ [(M[i]).1] := by
            rw [List.take_add_one, List.getElem?_map, List.getElem?_eq_getElem (show i < M.length by omega)]; rfl
          rw [e1] at c64
          cases hq : illW K (M[i]).1 with
          | true => first
              | (rw [hq] at c64; exact absurd c64 (by decide))
              | (rw [e1] at hx2; exact ih (i + 1) h76 _ (by omega) (by omega) hx2 (f1.tr f2 (by omega) (by omega)) (by rw [et]; exact mdP_ill hmd hq))
          | false => first
              | (rw [hq] at c64; exact absurd rfl c64)
              | exact ih (i + 1) h1 ms1 (by omega) (by omega) hx1 f1 (by rw [et]; exact mdP_well hmd hq)
  have loop : ∀ (k : Nat) (i : Nat) (h1 : AH), ((kP K).length < i + k) → (i ≤ (kP K).length) → (pMind h1 m K sg sd (M.map Prod.fst) (M.map Prod.snd) (List.replicate i 4095)) → (Fr (m + 24) (m + 26) h h1) → V G Y_Mind_findMends 3 0 0 9 [some (aR m), some (aI i)] [] h1 (fun v h' => v = none ∧ ∃ ms', pMind h' m K sg sd (M.map Prod.fst) (M.map Prod.snd) ms' ∧ Fr (m + 24) (m + 26) h h' ∧ mdP K (kP K).length (M.map Prod.fst) ms') := by
    intro k
    induction k with
    | zero => intro i h1 hk hi hx1 f1; exfalso; omega
    | succ k ih =>
      intro i h1 hk hi hx1 f1
      obtain ⟨x0, x1, x2, x3⟩ := id hx1
      refine v_iload_n k_Mind_findMends_9 rfl ?_
      refine v_aload_n k_Mind_findMends_10 rfl ?_
      refine v_getf fl_Mind_12 x0 rfl k_Mind_findMends_11 ?_
      refine v_getf fl_Mind_58 x1.1 rfl k_Mind_findMends_14 ?_
      refine v_callVr mo_Tune_notes mi_Tune_notes mv_Tune_notes lk_Mind_62 k_Mind_findMends_17 x1.2.1.1 rfl rfl (Nat.le_of_ble_eq_true rfl) rfl (Nat.le_of_ble_eq_true rfl) (c_Tune_notes G x1.2.1) ?_
      refine v_icge 39 k_Mind_findMends_20 rfl (by omega) (by omega) (fun c20 => ?_) (fun c20 => ?_)
      · refine v_iconst k_Mind_findMends_39 ?_
        refine v_istore_n k_Mind_findMends_40 ⟨Nat.le_of_ble_eq_true rfl, Nat.le_of_ble_eq_true rfl⟩ ?_
        have ei : i = (kP K).length := by omega
        subst ei
        exact loop2 (M.length + 1) 0 h1 _ (by omega) (by omega) hx1 f1 (by rw [List.take_zero]; exact mdP_rep K _)
      · refine v_aload_n k_Mind_findMends_23 rfl ?_
        refine v_getf fl_Mind_30 x0 rfl k_Mind_findMends_24 ?_
        refine v_sipush k_Mind_findMends_27 (by decide) ?_
        refine v_callV mo_Row_add mi_Row_add mv_Row_add lk_Mind_109 k_Mind_findMends_30 x3.obj rfl rfl (Nat.le_of_ble_eq_true rfl) rfl (Nat.le_of_ble_eq_true rfl) (c_Row_add G x3) (fun v30 h30 q30 => ?_)
        obtain ⟨rfl, n3, f3⟩ := q30
        refine v_iinc k_Mind_findMends_33 rfl (Nat.le_of_ble_eq_true rfl) ?_
        refine v_goto k_Mind_findMends_36 (tgt := 9) rfl ?_
        rw [radd, if_pos (by rw [List.length_replicate]; omega), ← List.replicate_succ'] at n3
        exact ih (i + 1) h30 (by omega) (by omega) ⟨f3.at x0 (by omega), x1.fr f3 (by omega), x2.fr f3 (by omega), n3⟩ (f1.tr f3 (by omega) (by omega))
  refine v_aload_n k_Mind_findMends_0 rfl ?_
  refine v_getf fl_Mind_30 x0 rfl k_Mind_findMends_1 ?_
  refine v_callV mo_Row_clear mi_Row_clear mv_Row_clear lk_Mind_106 k_Mind_findMends_4 x3.obj rfl rfl (Nat.le_of_ble_eq_true rfl) rfl (Nat.le_of_ble_eq_true rfl) (c_Row_clear G x3) (fun v4 h4 q4 => ?_)
  obtain ⟨rfl, n3, f3⟩ := q4
  refine v_iconst k_Mind_findMends_7 ?_
  refine v_istore_n k_Mind_findMends_8 ⟨Nat.le_of_ble_eq_true rfl, Nat.le_of_ble_eq_true rfl⟩ ?_
  exact loop ((kP K).length + 1) 0 h4 (by omega) (by omega) ⟨f3.at x0 (by omega), x1.fr f3 (by omega), x2.fr f3 (by omega), n3⟩ (f3.wd (by omega) (by omega))

set_option maxHeartbeats 4000000 in
set_option maxRecDepth 20000 in
theorem c_Mind_firstSingle (G : Gx) {h : AH} {m : Nat} {K : CK} {sg sd : List Int} {M : List (Int × Int)} {ms : List Int} (hx : pMind h m K sg sd (M.map Prod.fst) (M.map Prod.snd) ms) (r : MRel M (evs K)) (w : wK K) (hb : ∀ q ∈ M, 0 ≤ q.1 ∧ q.1 < 32768) (h12 : (kP K).length ≤ 12) (hms : ∀ x ∈ ms, 0 ≤ x ∧ x ≤ 4095) : Ct G Y_Mind_firstSingle 5 0 0 [aR m] h (fun v h' => v = some (aI (fsF K ms (kP K).length 0)) ∧ pMind h' m K sg sd (M.map Prod.fst) (M.map Prod.snd) ms ∧ Fr (m + 1) (m + 19) h h') := by
  obtain ⟨x0, x1, x2, x3⟩ := id hx
  refine Ct.of_V mo_Mind_firstSingle rfl (Nat.le_of_ble_eq_true rfl) rfl ?_
  have loop : ∀ (k : Nat) (i : Nat) (h1 : AH) (z : Option AV), (i + k = (kP K).length) → (pMind h1 m K sg sd (M.map Prod.fst) (M.map Prod.snd) ms) → (Fr (m + 1) (m + 19) h h1) → (fsF K ms k i = fsF K ms (kP K).length 0) → V G Y_Mind_firstSingle 5 0 0 2 [some (aR m), some (aI i), z] [] h1 (fun v h' => v = some (aI (fsF K ms (kP K).length 0)) ∧ pMind h' m K sg sd (M.map Prod.fst) (M.map Prod.snd) ms ∧ Fr (m + 1) (m + 19) h h') := by
    intro k
    induction k with
    | zero =>
      intro i h1 z hk hx1 f1 ht
      obtain ⟨x0, x1, x2, x3⟩ := id hx1
      refine v_iload_n k_Mind_firstSingle_2 rfl ?_
      refine v_aload_n k_Mind_firstSingle_3 rfl ?_
      refine v_getf fl_Mind_12 x0 rfl k_Mind_firstSingle_4 ?_
      refine v_getf fl_Mind_58 x1.1 rfl k_Mind_firstSingle_7 ?_
      refine v_callVr mo_Tune_notes mi_Tune_notes mv_Tune_notes lk_Mind_62 k_Mind_firstSingle_10 x1.2.1.1 rfl rfl (Nat.le_of_ble_eq_true rfl) rfl (Nat.le_of_ble_eq_true rfl) (c_Tune_notes G x1.2.1) ?_
      refine v_icge 55 k_Mind_firstSingle_13 rfl (by omega) (by omega) (fun c13 => ?_) (fun c13 => ?_)
      · refine v_bipush k_Mind_firstSingle_55 (by decide) ?_
        refine v_ireturn k_Mind_firstSingle_57 rfl rfl ?_
        exact ⟨by rw [← ht]; rfl, hx1, f1⟩
      · exfalso; omega
    | succ k ih =>
      intro i h1 z hk hx1 f1 ht
      obtain ⟨x0, x1, x2, x3⟩ := id hx1
      refine v_iload_n k_Mind_firstSingle_2 rfl ?_
      refine v_aload_n k_Mind_firstSingle_3 rfl ?_
      refine v_getf fl_Mind_12 x0 rfl k_Mind_firstSingle_4 ?_
      refine v_getf fl_Mind_58 x1.1 rfl k_Mind_firstSingle_7 ?_
      refine v_callVr mo_Tune_notes mi_Tune_notes mv_Tune_notes lk_Mind_62 k_Mind_firstSingle_10 x1.2.1.1 rfl rfl (Nat.le_of_ble_eq_true rfl) rfl (Nat.le_of_ble_eq_true rfl) (c_Tune_notes G x1.2.1) ?_
      refine v_icge 55 k_Mind_firstSingle_13 rfl (by omega) (by omega) (fun c13 => ?_) (fun c13 => ?_)
      · exfalso; omega
      · refine v_aload_n k_Mind_firstSingle_16 rfl ?_
        refine v_iload_n k_Mind_firstSingle_17 rfl ?_
        refine v_iload_n k_Mind_firstSingle_18 rfl ?_
        refine v_callVr mo_Mind_canMend mi_Mind_canMend mv_Mind_canMend lk_Mind_131 k_Mind_firstSingle_19 x0 rfl rfl (Nat.le_of_ble_eq_true rfl) rfl (Nat.le_of_ble_eq_true rfl) (c_Mind_canMend G hx1 hms (by omega) (by omega)) ?_
        refine v_ifeq 33 k_Mind_firstSingle_22 rfl (by split <;> decide) (fun c22 => ?_) (fun c22 => ?_)
        · refine v_bipush k_Mind_firstSingle_33 (by decide) ?_
          refine v_istore_n k_Mind_firstSingle_35 ⟨Nat.le_of_ble_eq_true rfl, Nat.le_of_ble_eq_true rfl⟩ ?_
          refine v_iload_n k_Mind_firstSingle_36 rfl ?_
          refine v_bipush k_Mind_firstSingle_37 (by decide) ?_
          refine v_iceq 49 k_Mind_firstSingle_39 rfl (by omega) (by omega) (fun c39 => ?_) (fun c39 => ?_)
          · refine v_iinc k_Mind_firstSingle_49 rfl (Nat.le_of_ble_eq_true rfl) ?_
            refine v_goto k_Mind_firstSingle_52 (tgt := 2) rfl ?_
            rw [show fsF K ms (k + 1) i = (if (if cmB ms i i then mpF K i 10 0 else -9) = -9 then fsF K ms k (i + 1) else 10 * i + (if cmB ms i i then mpF K i 10 0 else -9)) from rfl] at ht
            by_cases hq : cmB ms i i = true
            · rw [if_pos hq] at c22 ht
              first
                | exact absurd c22 (by decide)
                | (rw [if_pos (Classical.not_not.mp c39)] at ht; exact ih (i + 1) h27 _ (by omega) hx2 (f1.tr f2 (by omega) (by omega)) ht)
                | (rw [if_pos c39] at ht; exact ih (i + 1) h27 _ (by omega) hx2 (f1.tr f2 (by omega) (by omega)) ht)
            · rw [if_neg hq] at c22 ht
              first
                | exact absurd rfl c22
                | (rw [if_pos rfl] at ht; exact ih (i + 1) h1 _ (by omega) hx1 f1 ht)
          · refine v_bipush k_Mind_firstSingle_42 (by decide) ?_
            refine v_iload_n k_Mind_firstSingle_44 rfl ?_
            refine v_imul k_Mind_firstSingle_45 ?_
            refine v_iload_n k_Mind_firstSingle_46 rfl ?_
            refine v_iadd k_Mind_firstSingle_47 ?_
            refine v_ireturn k_Mind_firstSingle_48 rfl rfl ?_
            rw [show fsF K ms (k + 1) i = (if (if cmB ms i i then mpF K i 10 0 else -9) = -9 then fsF K ms k (i + 1) else 10 * i + (if cmB ms i i then mpF K i 10 0 else -9)) from rfl] at ht
            by_cases hq : cmB ms i i = true
            · rw [if_pos hq] at c22 ht
              first
                | exact absurd c22 (by decide)
                | (rw [if_neg c39] at ht; exact ⟨by rw [← ht], hx2, f1.tr f2 (by omega) (by omega)⟩)
            · rw [if_neg hq] at c22 ht
              first
                | exact absurd rfl c22
                | exact absurd rfl c39
        · refine v_aload_n k_Mind_firstSingle_25 rfl ?_
          refine v_iload_n k_Mind_firstSingle_26 rfl ?_
          refine v_callV mo_Mind_mendingPitch mi_Mind_mendingPitch mv_Mind_mendingPitch lk_Mind_135 k_Mind_firstSingle_27 x0 rfl rfl (Nat.le_of_ble_eq_true rfl) rfl (Nat.le_of_ble_eq_true rfl) (c_Mind_mendingPitch G hx1 r w hb (n := i) (by omega)) (fun v27 h27 q27 => ?_)
          obtain ⟨rfl, hx2, f2⟩ := q27
          have mb := mpF_bd K i 10 0
          refine v_goto k_Mind_firstSingle_30 (tgt := 35) rfl ?_
          refine v_istore_n k_Mind_firstSingle_35 ⟨Nat.le_of_ble_eq_true rfl, Nat.le_of_ble_eq_true rfl⟩ ?_
          refine v_iload_n k_Mind_firstSingle_36 rfl ?_
          refine v_bipush k_Mind_firstSingle_37 (by decide) ?_
          refine v_iceq 49 k_Mind_firstSingle_39 rfl (by omega) (by omega) (fun c39 => ?_) (fun c39 => ?_)
          · refine v_iinc k_Mind_firstSingle_49 rfl (Nat.le_of_ble_eq_true rfl) ?_
            refine v_goto k_Mind_firstSingle_52 (tgt := 2) rfl ?_
            rw [show fsF K ms (k + 1) i = (if (if cmB ms i i then mpF K i 10 0 else -9) = -9 then fsF K ms k (i + 1) else 10 * i + (if cmB ms i i then mpF K i 10 0 else -9)) from rfl] at ht
            by_cases hq : cmB ms i i = true
            · rw [if_pos hq] at c22 ht
              first
                | exact absurd c22 (by decide)
                | (rw [if_pos (Classical.not_not.mp c39)] at ht; exact ih (i + 1) h27 _ (by omega) hx2 (f1.tr f2 (by omega) (by omega)) ht)
                | (rw [if_pos c39] at ht; exact ih (i + 1) h27 _ (by omega) hx2 (f1.tr f2 (by omega) (by omega)) ht)
            · rw [if_neg hq] at c22 ht
              first
                | exact absurd rfl c22
                | (rw [if_pos rfl] at ht; exact ih (i + 1) h1 _ (by omega) hx1 f1 ht)
          · refine v_bipush k_Mind_firstSingle_42 (by decide) ?_
            refine v_iload_n k_Mind_firstSingle_44 rfl ?_
            refine v_imul k_Mind_firstSingle_45 ?_
            refine v_iload_n k_Mind_firstSingle_46 rfl ?_
            refine v_iadd k_Mind_firstSingle_47 ?_
            refine v_ireturn k_Mind_firstSingle_48 rfl rfl ?_
            rw [show fsF K ms (k + 1) i = (if (if cmB ms i i then mpF K i 10 0 else -9) = -9 then fsF K ms k (i + 1) else 10 * i + (if cmB ms i i then mpF K i 10 0 else -9)) from rfl] at ht
            by_cases hq : cmB ms i i = true
            · rw [if_pos hq] at c22 ht
              first
                | exact absurd c22 (by decide)
                | (rw [if_neg c39] at ht; exact ⟨by rw [← ht], hx2, f1.tr f2 (by omega) (by omega)⟩)
            · rw [if_neg hq] at c22 ht
              first
                | exact absurd rfl c22
                | exact absurd rfl c39
  refine v_iconst k_Mind_firstSingle_0 ?_
  refine v_istore_n k_Mind_firstSingle_1 ⟨Nat.le_of_ble_eq_true rfl, Nat.le_of_ble_eq_true rfl⟩ ?_
  exact loop (kP K).length 0 h _ (by omega) hx Fr.rf rfl

set_option maxHeartbeats 4000000 in
set_option maxRecDepth 20000 in
theorem c_Mind_hasPair (G : Gx) {h : AH} {m : Nat} {K : CK} {sg sd : List Int} {M : List (Int × Int)} {ms : List Int} (hx : pMind h m K sg sd (M.map Prod.fst) (M.map Prod.snd) ms) (r : MRel M (evs K)) (w : wK K) (hb : ∀ q ∈ M, 0 ≤ q.1 ∧ q.1 < 32768) (h12 : (kP K).length ≤ 12) (hms : ∀ x ∈ ms, 0 ≤ x ∧ x ≤ 4095) : Ct G Y_Mind_hasPair 5 0 0 [aR m] h (fun v h' => v = some (aI (if hpN K ms (kP K).length 0 then 1 else 0)) ∧ (∃ K', pMind h' m K' sg sd (M.map Prod.fst) (M.map Prod.snd) ms) ∧ Fr (m + 1) (m + 19) h h') := by
  obtain ⟨x0, x1, x2, x3⟩ := id hx
  refine Ct.of_V mo_Mind_hasPair rfl (Nat.le_of_ble_eq_true rfl) rfl ?_
  have loop : ∀ (k : Nat) (i : Nat) (h1 : AH) (z2 z3 z4 : Option AV), (i + k = (kP K).length) → (pMind h1 m K sg sd (M.map Prod.fst) (M.map Prod.snd) ms) → (Fr (m + 1) (m + 19) h h1) → (hpN K ms k i = hpN K ms (kP K).length 0) → V G Y_Mind_hasPair 5 0 0 2 [some (aR m), some (aI i), z2, z3, z4] [] h1 (fun v h' => v = some (aI (if hpN K ms (kP K).length 0 then 1 else 0)) ∧ (∃ K', pMind h' m K' sg sd (M.map Prod.fst) (M.map Prod.snd) ms) ∧ Fr (m + 1) (m + 19) h h') := by
    intro k
    induction k with
    | zero =>
      intro i h1 z2 z3 z4 hk hx1 f1 ht
      obtain ⟨x0, x1, x2, x3⟩ := id hx1
      refine v_iload_n k_Mind_hasPair_2 rfl ?_
      refine v_aload_n k_Mind_hasPair_3 rfl ?_
      refine v_getf fl_Mind_12 x0 rfl k_Mind_hasPair_4 ?_
      refine v_getf fl_Mind_58 x1.1 rfl k_Mind_hasPair_7 ?_
      refine v_callVr mo_Tune_notes mi_Tune_notes mv_Tune_notes lk_Mind_62 k_Mind_hasPair_10 x1.2.1.1 rfl rfl (Nat.le_of_ble_eq_true rfl) rfl (Nat.le_of_ble_eq_true rfl) (c_Tune_notes G x1.2.1) ?_
      refine v_icge 121 k_Mind_hasPair_13 rfl (by omega) (by omega) (fun c13 => ?_) (fun c13 => ?_)
      · refine v_iconst k_Mind_hasPair_121 ?_
        refine v_ireturn k_Mind_hasPair_122 rfl (by first | rfl | (split <;> rfl)) ?_
        exact ⟨by rw [← ht]; rfl, ⟨_, hx1⟩, f1⟩
      · exfalso; omega
    | succ k ih =>
      intro i h1 z2 z3 z4 hk hx1 f1 ht
      obtain ⟨x0, x1, x2, x3⟩ := id hx1
      refine v_iload_n k_Mind_hasPair_2 rfl ?_
      refine v_aload_n k_Mind_hasPair_3 rfl ?_
      refine v_getf fl_Mind_12 x0 rfl k_Mind_hasPair_4 ?_
      refine v_getf fl_Mind_58 x1.1 rfl k_Mind_hasPair_7 ?_
      refine v_callVr mo_Tune_notes mi_Tune_notes mv_Tune_notes lk_Mind_62 k_Mind_hasPair_10 x1.2.1.1 rfl rfl (Nat.le_of_ble_eq_true rfl) rfl (Nat.le_of_ble_eq_true rfl) (c_Tune_notes G x1.2.1) ?_
      refine v_icge 121 k_Mind_hasPair_13 rfl (by omega) (by omega) (fun c13 => ?_) (fun c13 => ?_)
      · exfalso; omega
      · refine v_aload_n k_Mind_hasPair_16 rfl ?_
        refine v_getf fl_Mind_12 x0 rfl k_Mind_hasPair_17 ?_
        refine v_getf fl_Mind_58 x1.1 rfl k_Mind_hasPair_20 ?_
        refine v_iload_n k_Mind_hasPair_23 rfl ?_
        refine v_callVr mo_Tune_pitchOf mi_Tune_pitchOf mv_Tune_pitchOf lk_Mind_84 k_Mind_hasPair_24 x1.2.1.1 rfl rfl (Nat.le_of_ble_eq_true rfl) rfl (Nat.le_of_ble_eq_true rfl) (c_Tune_pitchOf G x1.2.1 (by omega)) ?_
        refine v_istore_n k_Mind_hasPair_27 ⟨Nat.le_of_ble_eq_true rfl, Nat.le_of_ble_eq_true rfl⟩ ?_
        refine v_iconst k_Mind_hasPair_28 ?_
        refine v_istore_n k_Mind_hasPair_29 ⟨Nat.le_of_ble_eq_true rfl, Nat.le_of_ble_eq_true rfl⟩ ?_
        have loop2 : ∀ (kp : Nat) (p : Nat) (h1 : AH) (q : Int) (z : Option AV), (p + kp = 10) → (True) → (pMind h1 m (setP K i q) sg sd (M.map Prod.fst) (M.map Prod.snd) ms) → (Fr (m + 1) (m + 19) h h1) → ((hpQ K ms i kp p || hpN K ms k (i + 1)) = hpN K ms (kP K).length 0) → V G Y_Mind_hasPair 5 0 0 30 [some (aR m), some (aI i), some (aI (rget (kP K) i)), some (aI p), z] [] h1 (fun v h' => v = some (aI (if hpN K ms (kP K).length 0 then 1 else 0)) ∧ (∃ K', pMind h' m K' sg sd (M.map Prod.fst) (M.map Prod.snd) ms) ∧ Fr (m + 1) (m + 19) h h') := by
          intro kp
          induction kp with
          | zero =>
            intro p h1 q z hk2 htr hx1 f1 ht
            obtain ⟨x0, x1, x2, x3⟩ := id hx1
            rw [show hpQ K ms i 0 p = false from rfl, Bool.false_or] at ht
            refine v_iload_n k_Mind_hasPair_30 rfl ?_
            refine v_bipush k_Mind_hasPair_31 (by decide) ?_
            refine v_icgt 103 k_Mind_hasPair_33 rfl (by omega) (by omega) (fun c33 => ?_) (fun c33 => ?_)
            · refine v_aload_n k_Mind_hasPair_103 rfl ?_
              refine v_getf fl_Mind_12 x0 rfl k_Mind_hasPair_104 ?_
              refine v_getf fl_Mind_58 x1.1 rfl k_Mind_hasPair_107 ?_
              refine v_iload_n k_Mind_hasPair_110 rfl ?_
              refine v_iload_n k_Mind_hasPair_111 rfl ?_
              refine v_callV mo_Tune_setPitch mi_Tune_setPitch mv_Tune_setPitch lk_Mind_73 k_Mind_hasPair_112 x1.2.1.1 rfl rfl (Nat.le_of_ble_eq_true rfl) rfl (Nat.le_of_ble_eq_true rfl) (c_Tune_setPitch G x1.2.1 (by omega)) (fun v112 h112 q112 => ?_)
              obtain ⟨rfl, nt, f2⟩ := q112
              have hx2 : pMind h112 m (setP (setP K i q) i (rget (kP K) i)) sg sd (M.map Prod.fst) (M.map Prod.snd) ms := ⟨f2.at x0 (by omega), ⟨f2.at x1.1 (by omega), nt, x1.2.2.1.fr f2 (by omega), x1.2.2.2.1.fr f2 (by omega), x1.2.2.2.2.1.fr f2 (by omega), x1.2.2.2.2.2.1.fr f2 (by omega), x1.2.2.2.2.2.2.fr f2 (by omega)⟩, x2.fr f2 (by omega), x3.fr f2 (by omega)⟩
              rw [setP_back] at hx2
              refine v_iinc k_Mind_hasPair_115 rfl (Nat.le_of_ble_eq_true rfl) ?_
              refine v_goto k_Mind_hasPair_118 (tgt := 2) rfl ?_
              exact ih (i + 1) h112 _ _ _ (by omega) hx2 (f1.tr f2 (by omega) (by omega)) ht
            · exfalso; omega
          | succ kp ih2 =>
            intro p h1 q z hk2 htr hx1 f1 ht
            obtain ⟨x0, x1, x2, x3⟩ := id hx1
            refine v_iload_n k_Mind_hasPair_30 rfl ?_
            refine v_bipush k_Mind_hasPair_31 (by decide) ?_
            refine v_icgt 103 k_Mind_hasPair_33 rfl (by omega) (by omega) (fun c33 => ?_) (fun c33 => ?_)
            · exfalso; omega
            · refine v_aload_n k_Mind_hasPair_36 rfl ?_
              refine v_getf fl_Mind_12 x0 rfl k_Mind_hasPair_37 ?_
              refine v_getf fl_Mind_58 x1.1 rfl k_Mind_hasPair_40 ?_
              refine v_iload_n k_Mind_hasPair_43 rfl ?_
              refine v_iload_n k_Mind_hasPair_44 rfl ?_
              refine v_callV mo_Tune_setPitch mi_Tune_setPitch mv_Tune_setPitch lk_Mind_73 k_Mind_hasPair_45 x1.2.1.1 rfl rfl (Nat.le_of_ble_eq_true rfl) rfl (Nat.le_of_ble_eq_true rfl) (c_Tune_setPitch G x1.2.1 (by omega)) (fun v45 h45 q45 => ?_)
              obtain ⟨rfl, nt, f2⟩ := q45
              have hx2 : pMind h45 m (setP (setP K i q) i p) sg sd (M.map Prod.fst) (M.map Prod.snd) ms := ⟨f2.at x0 (by omega), ⟨f2.at x1.1 (by omega), nt, x1.2.2.1.fr f2 (by omega), x1.2.2.2.1.fr f2 (by omega), x1.2.2.2.2.1.fr f2 (by omega), x1.2.2.2.2.2.1.fr f2 (by omega), x1.2.2.2.2.2.2.fr f2 (by omega)⟩, x2.fr f2 (by omega), x3.fr f2 (by omega)⟩
              rw [setP_setP] at hx2
              have w2 := w.setP (n := (i : Int)) (x := (p : Int)) (by omega)
              refine v_iload_n k_Mind_hasPair_48 rfl ?_
              refine v_iconst k_Mind_hasPair_49 ?_
              refine v_iadd k_Mind_hasPair_50 ?_
              refine v_istore k_Mind_hasPair_51 ⟨Nat.le_of_ble_eq_true rfl, Nat.le_of_ble_eq_true rfl⟩ ?_
              have loop3 : ∀ (kk : Nat) (o : Nat) (h1 : AH), (o + kk = (kP K).length) → (pMind h1 m (setP K i p) sg sd (M.map Prod.fst) (M.map Prod.snd) ms) → (Fr (m + 1) (m + 19) h h1) → ((hpO (setP K i p) ms i kk o || (hpQ K ms i kp (p + 1) || hpN K ms k (i + 1))) = hpN K ms (kP K).length 0) → V G Y_Mind_hasPair 5 0 0 53 [some (aR m), some (aI i), some (aI (rget (kP K) i)), some (aI p), some (aI o)] [] h1 (fun v h' => v = some (aI (if hpN K ms (kP K).length 0 then 1 else 0)) ∧ (∃ K', pMind h' m K' sg sd (M.map Prod.fst) (M.map Prod.snd) ms) ∧ Fr (m + 1) (m + 19) h h') := by
                intro kk
                induction kk with
                | zero =>
                  intro o h1 hk3 hx1 f1 ht
                  obtain ⟨x0, x1, x2, x3⟩ := id hx1
                  have lnP : (kP (setP K i p)).length = (kP K).length := by show (rset (kP K) i p).length = _; rw [rset_len]
                  rw [show hpO (setP K i p) ms i 0 o = false from rfl, Bool.false_or] at ht
                  refine v_iload k_Mind_hasPair_53 rfl ?_
                  refine v_aload_n k_Mind_hasPair_55 rfl ?_
                  refine v_getf fl_Mind_12 x0 rfl k_Mind_hasPair_56 ?_
                  refine v_getf fl_Mind_58 x1.1 rfl k_Mind_hasPair_59 ?_
                  refine v_callVr mo_Tune_notes mi_Tune_notes mv_Tune_notes lk_Mind_62 k_Mind_hasPair_62 x1.2.1.1 rfl rfl (Nat.le_of_ble_eq_true rfl) rfl (Nat.le_of_ble_eq_true rfl) (c_Tune_notes G x1.2.1) ?_
                  refine v_icge 97 k_Mind_hasPair_65 rfl (by omega) (by omega) (fun c65 => ?_) (fun c65 => ?_)
                  · refine v_iinc k_Mind_hasPair_97 rfl (Nat.le_of_ble_eq_true rfl) ?_
                    refine v_goto k_Mind_hasPair_100 (tgt := 30) rfl ?_
                    exact ih2 (p + 1) h1 (p : Int) _ (by omega) (by omega) hx1 f1 ht
                  · exfalso; omega
                | succ kk ih3 =>
                  intro o h1 hk3 hx1 f1 ht
                  obtain ⟨x0, x1, x2, x3⟩ := id hx1
                  have lnP : (kP (setP K i p)).length = (kP K).length := by show (rset (kP K) i p).length = _; rw [rset_len]
                  refine v_iload k_Mind_hasPair_53 rfl ?_
                  refine v_aload_n k_Mind_hasPair_55 rfl ?_
                  refine v_getf fl_Mind_12 x0 rfl k_Mind_hasPair_56 ?_
                  refine v_getf fl_Mind_58 x1.1 rfl k_Mind_hasPair_59 ?_
                  refine v_callVr mo_Tune_notes mi_Tune_notes mv_Tune_notes lk_Mind_62 k_Mind_hasPair_62 x1.2.1.1 rfl rfl (Nat.le_of_ble_eq_true rfl) rfl (Nat.le_of_ble_eq_true rfl) (c_Tune_notes G x1.2.1) ?_
                  refine v_icge 97 k_Mind_hasPair_65 rfl (by omega) (by omega) (fun c65 => ?_) (fun c65 => ?_)
                  · exfalso; omega
                  · refine v_aload_n k_Mind_hasPair_68 rfl ?_
                    refine v_iload_n k_Mind_hasPair_69 rfl ?_
                    refine v_iload k_Mind_hasPair_70 rfl ?_
                    refine v_callVr mo_Mind_canMend mi_Mind_canMend mv_Mind_canMend lk_Mind_131 k_Mind_hasPair_72 x0 rfl rfl (Nat.le_of_ble_eq_true rfl) rfl (Nat.le_of_ble_eq_true rfl) (c_Mind_canMend G hx1 hms (by omega) (by omega)) ?_
                    refine v_ifeq 91 k_Mind_hasPair_75 rfl (by split <;> decide) (fun c75 => ?_) (fun c75 => ?_)
                    · refine v_iinc k_Mind_hasPair_91 rfl (Nat.le_of_ble_eq_true rfl) ?_
                      refine v_goto k_Mind_hasPair_94 (tgt := 53) rfl ?_
                      rw [show hpO (setP K i p) ms i (kk + 1) o = ((cmB ms i o && !decide (mpF (setP K i p) o 10 0 = -9)) || hpO (setP K i p) ms i kk (o + 1)) from rfl] at ht
                      by_cases hq : cmB ms i o = true
                      · rw [if_pos hq] at c75
                        first
                          | exact absurd c75 (by decide)
                          | (rw [hq, decide_eq_true c86, Bool.not_true, Bool.and_false, Bool.false_or] at ht; exact ih3 (o + 1) h81 (by omega) hx2 (f1.tr f2 (by omega) (by omega)) ht)
                      · rw [if_neg hq] at c75
                        first
                          | exact absurd rfl c75
                          | (rw [(Bool.not_eq_true _).mp hq, Bool.false_and, Bool.false_or] at ht; exact ih3 (o + 1) h1 (by omega) hx1 f1 ht)
                    · refine v_aload_n k_Mind_hasPair_78 rfl ?_
                      refine v_iload k_Mind_hasPair_79 rfl ?_
                      refine v_callV mo_Mind_mendingPitch mi_Mind_mendingPitch mv_Mind_mendingPitch lk_Mind_135 k_Mind_hasPair_81 x0 rfl rfl (Nat.le_of_ble_eq_true rfl) rfl (Nat.le_of_ble_eq_true rfl) (c_Mind_mendingPitch G hx1 (K := setP K i p) (by rw [evs_setP]; exact r) w2 hb (n := (o : Int)) (by rw [lnP]; omega)) (fun v81 h81 q81 => ?_)
                      obtain ⟨rfl, hx2, f2⟩ := q81
                      have mb := mpF_bd (setP K i p) o 10 0
                      refine v_bipush k_Mind_hasPair_84 (by decide) ?_
                      refine v_iceq 91 k_Mind_hasPair_86 rfl (by omega) (by omega) (fun c86 => ?_) (fun c86 => ?_)
                      · refine v_iinc k_Mind_hasPair_91 rfl (Nat.le_of_ble_eq_true rfl) ?_
                        refine v_goto k_Mind_hasPair_94 (tgt := 53) rfl ?_
                        rw [show hpO (setP K i p) ms i (kk + 1) o = ((cmB ms i o && !decide (mpF (setP K i p) o 10 0 = -9)) || hpO (setP K i p) ms i kk (o + 1)) from rfl] at ht
                        by_cases hq : cmB ms i o = true
                        · rw [if_pos hq] at c75
                          first
                            | exact absurd c75 (by decide)
                            | (rw [hq, decide_eq_true c86, Bool.not_true, Bool.and_false, Bool.false_or] at ht; exact ih3 (o + 1) h81 (by omega) hx2 (f1.tr f2 (by omega) (by omega)) ht)
                        · rw [if_neg hq] at c75
                          first
                            | exact absurd rfl c75
                            | (rw [(Bool.not_eq_true _).mp hq, Bool.false_and, Bool.false_or] at ht; exact ih3 (o + 1) h1 (by omega) hx1 f1 ht)
                      · refine v_iconst k_Mind_hasPair_89 ?_
                        refine v_ireturn k_Mind_hasPair_90 rfl (by first | rfl | (split <;> rfl)) ?_
                        rw [show hpO (setP K i p) ms i (kk + 1) o = ((cmB ms i o && !decide (mpF (setP K i p) o 10 0 = -9)) || hpO (setP K i p) ms i kk (o + 1)) from rfl] at ht
                        by_cases hq : cmB ms i o = true
                        · rw [hq, decide_eq_false c86, Bool.not_false, Bool.and_true, Bool.true_or, Bool.true_or] at ht
                          exact ⟨by rw [← ht]; rfl, ⟨_, hx2⟩, f1.tr f2 (by omega) (by omega)⟩
                        · rw [if_neg hq] at c75
                          exact absurd rfl c75
              refine loop3 ((kP K).length - (i + 1)) (i + 1) h45 (by omega) hx2 (f1.tr f2 (by omega) (by omega)) ?_
              rw [← ht, ← Bool.or_assoc]
              rfl
        exact loop2 10 0 h1 (rget (kP K) i) _ (by omega) trivial (by rw [setP_self]; exact hx1) f1 ht
  refine v_iconst k_Mind_hasPair_0 ?_
  refine v_istore_n k_Mind_hasPair_1 ⟨Nat.le_of_ble_eq_true rfl, Nat.le_of_ble_eq_true rfl⟩ ?_
  exact loop (kP K).length 0 h _ _ _ (by omega) hx Fr.rf rfl
