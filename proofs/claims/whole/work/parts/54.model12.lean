/-! a note more -/
theorem rget_app {xs : List Int} {x i : Int} (h : 0 ≤ i ∧ i < xs.length) : rget (xs ++ [x]) i = rget xs i := by
  rw [rget, if_pos (by rw [List.length_append]; omega), rget, if_pos h, List.getD_eq_getElem?_getD, List.getD_eq_getElem?_getD, List.getElem?_append_left (by omega)]
theorem nowR_addN {a : List Int} {K : CK} (k : nowR a K) (h12 : (kP K).length ≤ 12) (hL : (kP K).length = (kL K).length) (h6' : (kK K).length ≤ 6) {g : Int} (hg : a.getD (10 + ((kP K).length : Int)).toNat 0 = g) :
    nowR ((a.set (0 : Int).toNat (((kP K).length : Int) + 1)).set (30 + ((kP K).length : Int)).toNat 1) (addN K g 1) := by
  obtain ⟨h0, h1, h2, h3, h4, h5, h6, h7⟩ := k
  have hz : (0 : Int).toNat = 0 := rfl
  have e : ∀ j : Nat, j ≠ 0 → j ≠ 30 + (kP K).length → ((a.set (0 : Int).toNat (((kP K).length : Int) + 1)).set (30 + ((kP K).length : Int)).toNat 1).getD j 0 = a.getD j 0 := by
    intro j j0 j1
    rw [getD_set (by rw [List.length_set]; omega), if_neg (by omega), getD_set (by omega), if_neg (by omega)]
  refine ⟨by rw [List.length_set, List.length_set]; exact h0, ?_, ?_, ?_, ?_, ?_, fun i hi => ⟨?_, ?_⟩, fun i hi => ?_⟩
  · rw [getD_set (by rw [List.length_set]; omega), if_neg (by omega), getD_set (by omega), if_pos (by omega)]
    show _ = ((kP K ++ [g]).length : Int)
    rw [List.length_append, List.length_singleton]; omega
  · rw [e _ (by omega) (by omega)]; exact h2
  · rw [e _ (by omega) (by omega)]; exact h3
  · rw [e _ (by omega) (by omega)]; exact h4
  · rw [e _ (by omega) (by omega)]; exact h5
  · have hi : i < (kP K).length + 1 := by have q : i < (kP K ++ [g]).length := hi; rw [List.length_append, List.length_singleton] at q; exact q
    rw [e _ (by omega) (by omega)]
    show _ = rget (kP K ++ [g]) i
    by_cases hc : i < (kP K).length
    · rw [rget_app (by omega)]; exact (h6 i hc).1
    · have : i = (kP K).length := by omega
      subst this
      rw [rget_snoc, ← hg, show (10 + ((kP K).length : Int)).toNat = 10 + (kP K).length by omega]
  · have hi : i < (kP K).length + 1 := by have q : i < (kP K ++ [g]).length := hi; rw [List.length_append, List.length_singleton] at q; exact q
    show _ = rget (kL K ++ [1]) i
    by_cases hc : i < (kP K).length
    · rw [e _ (by omega) (by omega), rget_app (by omega)]; exact (h6 i hc).2
    · have : i = (kL K).length := by omega
      subst this
      rw [rget_snoc, getD_set (by rw [List.length_set]; omega), if_pos (by omega)]
  · have := h7 i hi
    rw [e _ (by omega) (by omega), e _ (by omega) (by omega), e _ (by omega) (by omega)]; exact this
theorem nowR_back {b : List Int} {K : CK} {p : Int} (k : nowR b (addN K p 1)) (h12 : (kP K).length ≤ 12) (hL : (kP K).length = (kL K).length) (h6' : (kK K).length ≤ 6) {g g2 : Int} :
    nowR (((b.set (0 : Int).toNat ((kP K).length : Int)).set (10 + ((kP K).length : Int)).toNat g).set (30 + ((kP K).length : Int)).toNat g2) K := by
  obtain ⟨h0, h1, h2, h3, h4, h5, h6, h7⟩ := k
  have hz : (0 : Int).toNat = 0 := rfl
  have e : ∀ j : Nat, j ≠ 0 → j ≠ 10 + (kP K).length → j ≠ 30 + (kP K).length → (((b.set (0 : Int).toNat ((kP K).length : Int)).set (10 + ((kP K).length : Int)).toNat g).set (30 + ((kP K).length : Int)).toNat g2).getD j 0 = b.getD j 0 := by
    intro j j0 j1 j2
    rw [getD_set (by rw [List.length_set, List.length_set]; omega), if_neg (by omega), getD_set (by rw [List.length_set]; omega), if_neg (by omega), getD_set (by omega), if_neg (by omega)]
  refine ⟨by rw [List.length_set, List.length_set, List.length_set]; exact h0, ?_, ?_, ?_, ?_, ?_, fun i hi => ⟨?_, ?_⟩, fun i hi => ?_⟩
  · rw [getD_set (by rw [List.length_set, List.length_set]; omega), if_neg (by omega), getD_set (by rw [List.length_set]; omega), if_neg (by omega), getD_set (by omega), if_pos (by omega)]
  · rw [e _ (by omega) (by omega) (by omega)]; exact h2
  · rw [e _ (by omega) (by omega) (by omega)]; exact h3
  · rw [e _ (by omega) (by omega) (by omega)]; exact h4
  · rw [e _ (by omega) (by omega) (by omega)]; exact h5
  · have q : i < (kP (addN K p 1)).length := by show i < (kP K ++ [p]).length; rw [List.length_append]; omega
    rw [e _ (by omega) (by omega) (by omega), (h6 i q).1]
    exact rget_app (by omega)
  · have q : i < (kP (addN K p 1)).length := by show i < (kP K ++ [p]).length; rw [List.length_append]; omega
    rw [e _ (by omega) (by omega) (by omega), (h6 i q).2]
    exact rget_app (by omega)
  · have := h7 i hi
    rw [e _ (by omega) (by omega) (by omega), e _ (by omega) (by omega) (by omega), e _ (by omega) (by omega) (by omega)]; exact this
theorem setP_addN {K : CK} {q p : Int} : setP (addN K q 1) (kP K).length p = addN K p 1 := by
  show (rset (kP K ++ [q]) ((kP K).length : Int) p, kL K ++ [1], kK K, kE K, kH K, kR K, kS K, kW K) = _
  rw [rset, if_pos (by rw [List.length_append, List.length_singleton]; omega), Int.toNat_natCast, List.set_append_right _ _ (Nat.le_refl _), Nat.sub_self]
  rfl
def t_added (S : St) : Int × St := ((orb (fun p => mW (addN (nK S) p 1)) 10 : Nat), S)
set_option maxHeartbeats 4000000 in
set_option maxRecDepth 20000 in
theorem c_Model_added (G : Gx) {h : AH} {m : Nat} {S : St} (hp : pMS h m S) (w : wSt S) : Ct G Y_Model_added 7 0 0 [aR m] h (fun v h' => v = some (aI (t_added S).1) ∧ pMS h' m (t_added S).2 ∧ Fr m (m + 11) h h') := by
  obtain ⟨X, a, ⟨fp, sn, ho, hs, hsl⟩, rf, th, be, tl, fd, rw_, ⟨c1, ha, c3, c4, c5, c6, c7, c8, c10⟩, ⟨x1, x2, x3⟩, ⟨l1, l3, l4, l5, l8, l10⟩, hk, hth, htl, hrw, hrf⟩ := id hp
  obtain ⟨w1, w2, w3, w4, w5, w6, w7, w8⟩ := id w
  have wv : vK (nK S) 13 6 := ⟨w1.1, by have := w1.2.1; omega, w1.2.2⟩
  have wu := wv.up (by decide) (by decide)
  have hl := hk.1
  have hn12 := w1.2.1
  have hv6 := w1.2.2.2.2.2.1
  have QQA := (show pQ h m S X a from ⟨rf, th, be, tl, fd, rw_, ⟨c1, ha, c3, c4, c5, c6, c7, c8, c10⟩, ⟨x1, x2, x3⟩, ⟨l1, l3, l4, l5, l8, l10⟩, hk, hth, htl, hrw, hrf⟩)
  refine Ct.of_V mo_Model_added rfl (Nat.le_of_ble_eq_true rfl) rfl ?_
  refine v_aload_n k_Model_added_0 rfl ?_
  refine v_getf fl_Model_13 ho rfl k_Model_added_1 ?_
  refine v_iconst k_Model_added_4 ?_
  refine v_iald ha (by omega) (by omega) k_Model_added_5 ?_
  rw [hk.n0]
  refine v_istore_n k_Model_added_6 ⟨Nat.le_of_ble_eq_true rfl, Nat.le_of_ble_eq_true rfl⟩ ?_
  refine v_iconst k_Model_added_7 ?_
  refine v_istore_n k_Model_added_8 ⟨Nat.le_of_ble_eq_true rfl, Nat.le_of_ble_eq_true rfl⟩ ?_
  refine v_aload_n k_Model_added_9 rfl ?_
  refine v_getf fl_Model_13 ho rfl k_Model_added_10 ?_
  refine v_iconst k_Model_added_13 ?_
  refine v_iload_n k_Model_added_14 rfl ?_
  refine v_iconst k_Model_added_15 ?_
  refine v_iadd k_Model_added_16 ?_
  refine v_ist ha (by omega) (by omega) k_Model_added_17 (fun h17 e17 f17 => ?_)
  have f2 := f17.b2
  have ha := e17
  have ho := f17.at ho (by omega)
  have hs := f17.at hs (by omega)
  have hl2 : (a.set (0 : Int).toNat (((kP (nK S)).length : Int) + 1)).length = 80 := by rw [List.length_set]; exact hl
  refine v_aload_n k_Model_added_18 rfl ?_
  refine v_getf fl_Model_13 ho rfl k_Model_added_19 ?_
  refine v_bipush k_Model_added_22 (by decide) ?_
  refine v_iload_n k_Model_added_24 rfl ?_
  refine v_iadd k_Model_added_25 ?_
  refine v_iald ha (by omega) (by omega) k_Model_added_26 ?_
  rw [getD_set (by omega), if_neg (by omega)]
  generalize hg : a.getD (10 + ((kP (nK S)).length : Int)).toNat 0 = g
  refine v_istore_n k_Model_added_27 ⟨Nat.le_of_ble_eq_true rfl, Nat.le_of_ble_eq_true rfl⟩ ?_
  refine v_aload_n k_Model_added_28 rfl ?_
  refine v_getf fl_Model_13 ho rfl k_Model_added_29 ?_
  refine v_bipush k_Model_added_32 (by decide) ?_
  refine v_iload_n k_Model_added_34 rfl ?_
  refine v_iadd k_Model_added_35 ?_
  refine v_iald ha (by omega) (by omega) k_Model_added_36 ?_
  generalize (a.set (0 : Int).toNat (((kP (nK S)).length : Int) + 1)).getD (30 + ((kP (nK S)).length : Int)).toNat 0 = g2
  refine v_istore k_Model_added_37 ⟨Nat.le_of_ble_eq_true rfl, Nat.le_of_ble_eq_true rfl⟩ ?_
  refine v_aload_n k_Model_added_39 rfl ?_
  refine v_getf fl_Model_13 ho rfl k_Model_added_40 ?_
  refine v_bipush k_Model_added_43 (by decide) ?_
  refine v_iload_n k_Model_added_45 rfl ?_
  refine v_iadd k_Model_added_46 ?_
  refine v_iconst k_Model_added_47 ?_
  refine v_ist ha (by omega) (by omega) k_Model_added_48 (fun h48 e48 f48 => ?_)
  have f2 := f2.tr f48.b2
  have ha := e48
  have ho := f48.at ho (by omega)
  have hs := f48.at hs (by omega)
  have hk2 := nowR_addN hk hn12 w1.1 hv6 hg
  refine v_iconst k_Model_added_49 ?_
  refine v_istore k_Model_added_50 ⟨Nat.le_of_ble_eq_true rfl, Nat.le_of_ble_eq_true rfl⟩ ?_
  have loop : ∀ (k : Nat) (i : Nat) (h1 : AH) (a1 : List Int) (q : Int), (10 < i + k) → (i ≤ 10) → (pO h1 m X) → (h1.2 (m + 2) = some (aA 0 a1)) → (nowR a1 (addN (nK S) q 1)) → (FrB m h h1) → V G Y_Model_added 7 0 0 52 [some (aR m), some (aI ((kP (nK S)).length : Int)), some (aI (orb (fun p => mW (addN (nK S) p 1)) i : Nat)), some (aI g), some (aI g2), some (aI (i : Int))] [] h1 (fun v h' => v = some (aI (t_added S).1) ∧ pMS h' m (t_added S).2 ∧ Fr m (m + 11) h h') := by
    intro k
    induction k with
    | zero => intro i h1 a1 q hi hin hO1 ha1 hk1 f1; exfalso; omega
    | succ k ih =>
      intro i h1 a1 q hi hin hO1 ha1 hk1 f1
      obtain ⟨fp1, sn1, ho, hs, hsl⟩ := id hO1
      have hl := hk1.1
      refine v_iload k_Model_added_52 rfl ?_
      refine v_bipush k_Model_added_54 (by decide) ?_
      refine v_icge 94 k_Model_added_56 rfl (by omega) (by omega) (fun cd56 => ?_) (fun cd56 => ?_)
      · refine v_aload_n k_Model_added_94 rfl ?_
        refine v_getf fl_Model_13 ho rfl k_Model_added_95 ?_
        refine v_iconst k_Model_added_98 ?_
        refine v_iload_n k_Model_added_99 rfl ?_
        refine v_ist ha1 (by omega) (by omega) k_Model_added_100 (fun h100 e100 f100 => ?_)
        have f2 := f1.tr f100.b2
        have hb1 := e100
        have ho := f100.at ho (by omega)
        have hs := f100.at hs (by omega)
        have hlc : (a1.set (0 : Int).toNat ((kP (nK S)).length : Int)).length = 80 := by rw [List.length_set]; exact hl
        refine v_aload_n k_Model_added_101 rfl ?_
        refine v_getf fl_Model_13 ho rfl k_Model_added_102 ?_
        refine v_bipush k_Model_added_105 (by decide) ?_
        refine v_iload_n k_Model_added_107 rfl ?_
        refine v_iadd k_Model_added_108 ?_
        refine v_iload_n k_Model_added_109 rfl ?_
        refine v_ist hb1 (by omega) (by omega) k_Model_added_110 (fun h110 e110 f110 => ?_)
        have f2 := f2.tr f110.b2
        have hb2 := e110
        have ho := f110.at ho (by omega)
        have hs := f110.at hs (by omega)
        have hlb : (List.set (List.set a1 (0 : Int).toNat ((kP (nK S)).length : Int)) (10 + ((kP (nK S)).length : Int)).toNat g).length = 80 := by rw [List.length_set, List.length_set]; exact hl
        refine v_aload_n k_Model_added_111 rfl ?_
        refine v_getf fl_Model_13 ho rfl k_Model_added_112 ?_
        refine v_bipush k_Model_added_115 (by decide) ?_
        refine v_iload_n k_Model_added_117 rfl ?_
        refine v_iadd k_Model_added_118 ?_
        refine v_iload k_Model_added_119 rfl ?_
        refine v_ist hb2 (by omega) (by omega) k_Model_added_121 (fun h121 e121 f121 => ?_)
        have f2 := f2.tr f121.b2
        have hb3 := e121
        have ho := f121.at ho (by omega)
        have hs := f121.at hs (by omega)
        have hk3 := nowR_back hk1 hn12 w1.1 hv6 (g := g) (g2 := g2)
        refine v_iload_n k_Model_added_122 rfl ?_
        refine v_ireturn k_Model_added_123 rfl rfl ?_
        have e : i = 10 := by omega
        subst e
        obtain ⟨a9, Q9⟩ := QQA.fb f2 ⟨_, hb3, hk3⟩
        exact fin3 (by unfold t_added; rfl) ⟨X, a9, ⟨_, _, ho, hs, hsl⟩, Q9⟩ f2.fr
      · refine v_aload_n k_Model_added_59 rfl ?_
        refine v_getf fl_Model_13 ho rfl k_Model_added_60 ?_
        refine v_bipush k_Model_added_63 (by decide) ?_
        refine v_iload_n k_Model_added_65 rfl ?_
        refine v_iadd k_Model_added_66 ?_
        refine v_iload k_Model_added_67 rfl ?_
        refine v_ist ha1 (by omega) (by omega) k_Model_added_69 (fun h69 e69 f69 => ?_)
        have f4 := f1.tr f69.b2
        have ha := e69
        have hk := nowR_setP (n := ((kP (nK S)).length : Int)) (x := (i : Int)) hk1 ⟨by omega, by show _ < ((kP (nK S) ++ [q]).length : Int); rw [List.length_append, List.length_singleton]; omega⟩ (by show (kP (nK S) ++ [q]).length ≤ 13; rw [List.length_append, List.length_singleton]; omega)
        rw [setP_addN] at hk
        have ho := f69.at ho (by omega)
        have hs := f69.at hs (by omega)
        have hl := hk.1
        have wa : vK (addN (nK S) (i : Int) 1) 13 6 := w1.addN (by omega) rfl
        refine v_iload_n k_Model_added_70 rfl ?_
        refine v_aload_n k_Model_added_71 rfl ?_
        refine v_callV mo_Model_isWell mi_Model_isWell mv_Model_isWell lk_Model_159 k_Model_added_72 ho rfl rfl (Nat.le_of_ble_eq_true rfl) rfl (Nat.le_of_ble_eq_true rfl) (c_Model_isWell G ⟨_, _, ho, hs, hsl⟩ ha hk wa) (fun v72 h72 q72 => ?_)
        obtain ⟨rfl, hO5, f5⟩ := q72
        have ha := f5.at ha (by omega) (by omega)
        have f4 := f4.tr f5.b
        refine v_ifeq 85 k_Model_added_75 rfl (by split <;> decide) (fun cd75 => ?_) (fun cd75 => ?_)
        · refine v_iconst k_Model_added_85 ?_
          refine v_iorN (y := 0) k_Model_added_86 ?_
          rw [Nat.or_zero]
          refine v_istore_n k_Model_added_87 ⟨Nat.le_of_ble_eq_true rfl, Nat.le_of_ble_eq_true rfl⟩ ?_
          refine v_iinc k_Model_added_88 rfl (Nat.le_of_ble_eq_true rfl) ?_
          refine v_goto k_Model_added_91 (tgt := 52) rfl ?_
          have e : orb (fun p => mW (addN (nK S) p 1)) (i + 1) = if mW (addN (nK S) (i : Int) 1) = true then orb (fun p => mW (addN (nK S) p 1)) i ||| 2 ^ i else orb (fun p => mW (addN (nK S) p 1)) i := rfl
          have st := ih (i + 1) _ _ _ (by omega) (by omega) hO5 ha hk f4
          rw [e] at st
          rw [if_neg (by intro q9; rw [if_pos q9] at cd75; exact absurd cd75 (by decide))] at st
          exact st
        · refine v_iconst k_Model_added_78 ?_
          refine v_iload k_Model_added_79 rfl ?_
          refine v_bit k_Model_added_81 (by omega) ?_
          rw [Int.toNat_natCast]
          refine v_goto k_Model_added_82 (tgt := 86) rfl ?_
          refine v_iorN k_Model_added_86 ?_
          refine v_istore_n k_Model_added_87 ⟨Nat.le_of_ble_eq_true rfl, Nat.le_of_ble_eq_true rfl⟩ ?_
          refine v_iinc k_Model_added_88 rfl (Nat.le_of_ble_eq_true rfl) ?_
          refine v_goto k_Model_added_91 (tgt := 52) rfl ?_
          have e : orb (fun p => mW (addN (nK S) p 1)) (i + 1) = if mW (addN (nK S) (i : Int) 1) = true then orb (fun p => mW (addN (nK S) p 1)) i ||| 2 ^ i else orb (fun p => mW (addN (nK S) p 1)) i := rfl
          have st := ih (i + 1) _ _ _ (by omega) (by omega) hO5 ha hk f4
          rw [e] at st
          have hy : mW (addN (nK S) (i : Int) 1) = true := by
            apply Classical.byContradiction
            intro q9
            rw [if_neg q9] at cd75
            exact cd75 rfl
          rw [if_pos hy] at st
          exact st
  exact loop 11 0 _ _ g (by omega) (by omega) ⟨_, _, ho, hs, hsl⟩ ha hk2 f2
