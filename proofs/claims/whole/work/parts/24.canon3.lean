theorem fpI_wl {W a va : Int} {q : Int × Int} {t : List (Int × Int)} (h : wl W (a - q.2) = true) : fpI W a va (q :: t) = fpI W a va t := by simp only [fpI]; rw [if_pos h]
theorem fpI_no {W a va : Int} {q : Int × Int} {t : List (Int × Int)} (h : ¬ wl W (a - q.2) = true) : fpI W a va (q :: t) = 10 * va + q.1 := by simp only [fpI]; rw [if_neg h]
set_option maxHeartbeats 4000000 in
set_option maxRecDepth 20000 in
theorem c_Canon_illsInAll (G : Gx) {h : AH} {c : Nat} {K : CK} {sg sd : List Int} (hp : pCanon h c K sg sd) (w : wK K) : Ct G Y_Canon_illsInAll 6 0 0 [aR c] h (fun v h' => v = some (aI (illS K (q_endK K).toNat)) ∧ ∃ sg sd, pCanon h' c K sg sd ∧ Fr (c + 14) (c + 18) h h') := by
  obtain ⟨c0, c1, c2, c3, c4, c5, c6⟩ := id hp
  have hbt : (nob (kL K)).length = bt K := rfl
  have b1 := w.endK
  refine Ct.of_V mo_Canon_illsInAll rfl (Nat.le_of_ble_eq_true rfl) rfl ?_
  have loop : ∀ (k : Nat) (i : Nat) (h1 : AH), ((q_endK K).toNat < i + k) → ((i : Int) ≤ q_endK K) → ∀ sg sd, pCanon h1 c K sg sd → Fr (c + 14) (c + 18) h h1 → V G Y_Canon_illsInAll 6 0 0 9 [some (aR c), some (aI (illS K i)), some (aI (q_endK K)), some (aI i)] [] h1 (fun v h' => v = some (aI (illS K (q_endK K).toNat)) ∧ ∃ sg sd, pCanon h' c K sg sd ∧ Fr (c + 14) (c + 18) h h') := by
    intro k
    induction k with
    | zero => intro i h1 hk hi; exfalso; omega
    | succ k ih =>
      intro i h1 hk hi sg1 sd1 hp1 f1
      obtain ⟨c0, c1, c2, c3, c4, c5, c6⟩ := id hp1
      have hbt : (nob (kL K)).length = bt K := rfl
      refine v_iload_n k_Canon_illsInAll_9 rfl ?_
      refine v_iload_n k_Canon_illsInAll_10 rfl ?_
      refine v_icge 28 k_Canon_illsInAll_11 rfl (by omega) (by omega) (fun c11 => ?_) (fun c11 => ?_)
      · refine v_iload_n k_Canon_illsInAll_28 rfl ?_
        refine v_ireturn k_Canon_illsInAll_29 rfl rfl ?_
        have e : i = (q_endK K).toNat := by omega
        subst e
        exact ⟨rfl, _, _, hp1, f1⟩
      · refine v_iload_n k_Canon_illsInAll_14 rfl ?_
        refine v_aload_n k_Canon_illsInAll_15 rfl ?_
        refine v_iload_n k_Canon_illsInAll_16 rfl ?_
        refine v_callV mo_Canon_illsAt mi_Canon_illsAt mv_Canon_illsAt lk_Canon_136 k_Canon_illsInAll_17 c0 rfl rfl (Nat.le_of_ble_eq_true rfl) rfl (Nat.le_of_ble_eq_true rfl) (c_Canon_illsAt G hp1 w (by omega)) (fun v17 h17 q17 => ?_)
        obtain ⟨rfl, sg2, sd2, hp2, f2⟩ := q17
        refine v_iadd k_Canon_illsInAll_20 ?_
        refine v_istore_n k_Canon_illsInAll_21 ⟨Nat.le_of_ble_eq_true rfl, Nat.le_of_ble_eq_true rfl⟩ ?_
        refine v_iinc k_Canon_illsInAll_22 rfl (Nat.le_of_ble_eq_true rfl) ?_
        refine v_goto k_Canon_illsInAll_25 (tgt := 9) rfl ?_
        exact ih (i + 1) h17 (by omega) (by omega) sg2 sd2 hp2 (f1.tr f2 (by omega) (by omega))
  refine v_iconst k_Canon_illsInAll_0 ?_
  refine v_istore_n k_Canon_illsInAll_1 ⟨Nat.le_of_ble_eq_true rfl, Nat.le_of_ble_eq_true rfl⟩ ?_
  refine v_aload_n k_Canon_illsInAll_2 rfl ?_
  refine v_callVr mo_Canon_end mi_Canon_end mv_Canon_end lk_Canon_133 k_Canon_illsInAll_3 c0 rfl rfl (Nat.le_of_ble_eq_true rfl) rfl (Nat.le_of_ble_eq_true rfl) (c_Canon_end G hp w) ?_
  refine v_istore_n k_Canon_illsInAll_6 ⟨Nat.le_of_ble_eq_true rfl, Nat.le_of_ble_eq_true rfl⟩ ?_
  refine v_iconst k_Canon_illsInAll_7 ?_
  refine v_istore_n k_Canon_illsInAll_8 ⟨Nat.le_of_ble_eq_true rfl, Nat.le_of_ble_eq_true rfl⟩ ?_
  exact loop ((q_endK K).toNat + 1) 0 h (by omega) (by omega) _ _ hp Fr.rf

set_option maxHeartbeats 4000000 in
set_option maxRecDepth 20000 in
theorem c_Canon_firstIllBeat (G : Gx) {h : AH} {c : Nat} {K : CK} {sg sd : List Int} (hp : pCanon h c K sg sd) (w : wK K) : Ct G Y_Canon_firstIllBeat 6 0 0 [aR c] h (fun v h' => v = some (aI (fIB K (q_endK K).toNat 0)) ∧ ∃ sg sd, pCanon h' c K sg sd ∧ Fr (c + 14) (c + 18) h h') := by
  obtain ⟨c0, c1, c2, c3, c4, c5, c6⟩ := id hp
  have hbt : (nob (kL K)).length = bt K := rfl
  have b1 := w.endK
  refine Ct.of_V mo_Canon_firstIllBeat rfl (Nat.le_of_ble_eq_true rfl) rfl ?_
  have loop : ∀ (k : Nat) (i : Nat) (h1 : AH), ((q_endK K).toNat = i + k) → (fIB K k i = fIB K (q_endK K).toNat 0) → ∀ sg sd, pCanon h1 c K sg sd → Fr (c + 14) (c + 18) h h1 → V G Y_Canon_firstIllBeat 6 0 0 7 [some (aR c), some (aI (q_endK K)), some (aI i)] [] h1 (fun v h' => v = some (aI (fIB K (q_endK K).toNat 0)) ∧ ∃ sg sd, pCanon h' c K sg sd ∧ Fr (c + 14) (c + 18) h h') := by
    intro k
    induction k with
    | zero =>
      intro i h1 hk ht sg1 sd1 hp1 f1
      refine v_iload_n k_Canon_firstIllBeat_7 rfl ?_
      refine v_iload_n k_Canon_firstIllBeat_8 rfl ?_
      refine v_icge 28 k_Canon_firstIllBeat_9 rfl (by omega) (by omega) (fun c9 => ?_) (fun c9 => ?_)
      · refine v_bipush k_Canon_firstIllBeat_28 (by decide) ?_
        refine v_ireturn k_Canon_firstIllBeat_30 rfl rfl ?_
        refine ⟨?_, _, _, hp1, f1⟩
        rw [← ht]
        rfl
      · exfalso; omega
    | succ k ih =>
      intro i h1 hk ht sg1 sd1 hp1 f1
      obtain ⟨c0, c1, c2, c3, c4, c5, c6⟩ := id hp1
      have hbt : (nob (kL K)).length = bt K := rfl
      refine v_iload_n k_Canon_firstIllBeat_7 rfl ?_
      refine v_iload_n k_Canon_firstIllBeat_8 rfl ?_
      refine v_icge 28 k_Canon_firstIllBeat_9 rfl (by omega) (by omega) (fun c9 => ?_) (fun c9 => ?_)
      · exfalso; omega
      · refine v_aload_n k_Canon_firstIllBeat_12 rfl ?_
        refine v_iload_n k_Canon_firstIllBeat_13 rfl ?_
        refine v_callV mo_Canon_illsAt mi_Canon_illsAt mv_Canon_illsAt lk_Canon_136 k_Canon_firstIllBeat_14 c0 rfl rfl (Nat.le_of_ble_eq_true rfl) rfl (Nat.le_of_ble_eq_true rfl) (c_Canon_illsAt G hp1 w (by omega)) (fun v14 h14 q14 => ?_)
        obtain ⟨rfl, sg2, sd2, hp2, f2⟩ := q14
        have b3 := ill_bd w (i : Int)
        refine v_ifle 22 k_Canon_firstIllBeat_17 rfl (by omega) (fun c17 => ?_) (fun c17 => ?_)
        · refine v_iinc k_Canon_firstIllBeat_22 rfl (Nat.le_of_ble_eq_true rfl) ?_
          refine v_goto k_Canon_firstIllBeat_25 (tgt := 7) rfl ?_
          refine ih (i + 1) h14 (by omega) ?_ sg2 sd2 hp2 (f1.tr f2 (by omega) (by omega))
          rw [← ht]
          simp only [fIB]
          rw [if_neg (by omega)]
        · refine v_iload_n k_Canon_firstIllBeat_20 rfl ?_
          refine v_ireturn k_Canon_firstIllBeat_21 rfl rfl ?_
          refine ⟨?_, _, _, hp2, f1.tr f2 (by omega) (by omega)⟩
          rw [← ht]
          simp only [fIB]
          rw [if_pos (by omega)]
  refine v_aload_n k_Canon_firstIllBeat_0 rfl ?_
  refine v_callVr mo_Canon_end mi_Canon_end mv_Canon_end lk_Canon_133 k_Canon_firstIllBeat_1 c0 rfl rfl (Nat.le_of_ble_eq_true rfl) rfl (Nat.le_of_ble_eq_true rfl) (c_Canon_end G hp w) ?_
  refine v_istore_n k_Canon_firstIllBeat_4 ⟨Nat.le_of_ble_eq_true rfl, Nat.le_of_ble_eq_true rfl⟩ ?_
  refine v_iconst k_Canon_firstIllBeat_5 ?_
  refine v_istore_n k_Canon_firstIllBeat_6 ⟨Nat.le_of_ble_eq_true rfl, Nat.le_of_ble_eq_true rfl⟩ ?_
  exact loop (q_endK K).toNat 0 h (by omega) rfl _ _ hp Fr.rf

set_option maxHeartbeats 4000000 in
set_option maxRecDepth 20000 in
theorem c_Canon_firstIllPair (G : Gx) {h : AH} {c : Nat} {K : CK} {sg sd : List Int} (hp : pCanon h c K sg sd) (w : wK K) {b : Int} (hb : 0 ≤ b ∧ b ≤ 450) : Ct G Y_Canon_firstIllPair 5 0 0 [aR c, aI b] h (fun v h' => v = some (aI (fpP (kW K) (so K b))) ∧ ∃ sg sd, pCanon h' c K sg sd ∧ Fr (c + 14) (c + 18) h h') := by
  obtain ⟨c0, c1, c2, c3, c4, c5, c6⟩ := id hp
  have hbt : (nob (kL K)).length = bt K := rfl
  have b1 := so_len w b
  refine Ct.of_V mo_Canon_firstIllPair rfl (Nat.le_of_ble_eq_true rfl) rfl ?_
  refine v_aload_n k_Canon_firstIllPair_0 rfl ?_
  refine v_iload_n k_Canon_firstIllPair_1 rfl ?_
  refine v_callV mo_Canon_listen mi_Canon_listen mv_Canon_listen lk_Canon_127 k_Canon_firstIllPair_2 c0 rfl rfl (Nat.le_of_ble_eq_true rfl) rfl (Nat.le_of_ble_eq_true rfl) (c_Canon_listen G hp w (by omega)) (fun v2 h2 q2 => ?_)
  obtain ⟨rfl, hp1, f1⟩ := q2
  obtain ⟨c0, c1, c2, c3, c4, c5, c6⟩ := id hp1
  have el1 : ((so K b).map Prod.fst).length = (so K b).length := List.length_map _
  have el2 : ((so K b).map Prod.snd).length = (so K b).length := List.length_map _
  refine v_iconst k_Canon_firstIllPair_5 ?_
  refine v_istore_n k_Canon_firstIllPair_6 ⟨Nat.le_of_ble_eq_true rfl, Nat.le_of_ble_eq_true rfl⟩ ?_
  have loop : ∀ (k : Nat) (i : Nat) (x : Option AV), ((so K b).length < i + k) → (i ≤ (so K b).length) → (fpP (kW K) ((so K b).drop i) = fpP (kW K) (so K b)) → V G Y_Canon_firstIllPair 5 0 0 7 [some (aR c), some (aI b), some (aI i), x] [] h2 (fun v h' => v = some (aI (fpP (kW K) (so K b))) ∧ ∃ sg sd, pCanon h' c K sg sd ∧ Fr (c + 14) (c + 18) h h') := by
    intro k
    induction k with
    | zero => intro i x hk hi ht; exfalso; omega
    | succ k ih =>
      intro i x hk hi ht
      have g1 := rget_bd (so_sg w b) (by decide) (by decide) (i : Int)
      refine v_iload_n k_Canon_firstIllPair_7 rfl ?_
      refine v_aload_n k_Canon_firstIllPair_8 rfl ?_
      refine v_getf fl_Canon_33 c0 rfl k_Canon_firstIllPair_9 ?_
      refine v_callVr mo_Row_size mi_Row_size mv_Row_size lk_Canon_56 k_Canon_firstIllPair_12 c5.obj rfl rfl (Nat.le_of_ble_eq_true rfl) rfl (Nat.le_of_ble_eq_true rfl) (c_Row_size G c5) ?_
      refine v_icge 75 k_Canon_firstIllPair_15 rfl (by omega) (by omega) (fun c15 => ?_) (fun c15 => ?_)
      · refine v_bipush k_Canon_firstIllPair_75 (by decide) ?_
        refine v_ireturn k_Canon_firstIllPair_77 rfl rfl ?_
        have ei : i = (so K b).length := by omega
        rw [ei, List.drop_length] at ht
        exact ⟨by rw [← ht]; rfl, _, _, hp1, f1⟩
      · refine v_iload_n k_Canon_firstIllPair_18 rfl ?_
        refine v_iconst k_Canon_firstIllPair_19 ?_
        refine v_iadd k_Canon_firstIllPair_20 ?_
        refine v_istore_n k_Canon_firstIllPair_21 ⟨Nat.le_of_ble_eq_true rfl, Nat.le_of_ble_eq_true rfl⟩ ?_
        have loop2 : ∀ (k2 : Nat) (j : Nat), ((so K b).length < j + k2) → (j ≤ (so K b).length) → ((if fpI (kW K) (rget ((so K b).map Prod.snd) i) (rget ((so K b).map Prod.fst) i) ((so K b).drop j) = -9 then fpP (kW K) ((so K b).drop (i + 1)) else fpI (kW K) (rget ((so K b).map Prod.snd) i) (rget ((so K b).map Prod.fst) i) ((so K b).drop j)) = fpP (kW K) (so K b)) → V G Y_Canon_firstIllPair 5 0 0 22 [some (aR c), some (aI b), some (aI i), some (aI j)] [] h2 (fun v h' => v = some (aI (fpP (kW K) (so K b))) ∧ ∃ sg sd, pCanon h' c K sg sd ∧ Fr (c + 14) (c + 18) h h') := by
          intro k2
          induction k2 with
          | zero => intro j hk2 hj ht; exfalso; omega
          | succ k2 ih2 =>
            intro j hk2 hj ht
            refine v_iload_n k_Canon_firstIllPair_22 rfl ?_
            refine v_aload_n k_Canon_firstIllPair_23 rfl ?_
            refine v_getf fl_Canon_33 c0 rfl k_Canon_firstIllPair_24 ?_
            refine v_callVr mo_Row_size mi_Row_size mv_Row_size lk_Canon_56 k_Canon_firstIllPair_27 c5.obj rfl rfl (Nat.le_of_ble_eq_true rfl) rfl (Nat.le_of_ble_eq_true rfl) (c_Row_size G c5) ?_
            refine v_icge 69 k_Canon_firstIllPair_30 rfl (by omega) (by omega) (fun c30 => ?_) (fun c30 => ?_)
            · have ej : j = (so K b).length := by omega
              refine v_iinc k_Canon_firstIllPair_69 rfl (Nat.le_of_ble_eq_true rfl) ?_
              refine v_goto k_Canon_firstIllPair_72 (tgt := 7) rfl ?_
              refine ih (i + 1) _ (by omega) (by omega) ?_
              rw [ej, List.drop_length] at ht
              rw [← ht]
              simp only [fpI]
              rfl
            · refine v_aload_n k_Canon_firstIllPair_33 rfl ?_
              refine v_iload_n k_Canon_firstIllPair_34 rfl ?_
              refine v_iload_n k_Canon_firstIllPair_35 rfl ?_
              refine v_callVr mo_Canon_clash mi_Canon_clash mv_Canon_clash lk_Canon_130 k_Canon_firstIllPair_36 c0 rfl rfl (Nat.le_of_ble_eq_true rfl) rfl (Nat.le_of_ble_eq_true rfl) (c_Canon_clash G hp1 w (so_sd w b) (by omega) (by omega)) ?_
              refine v_ifeq 63 k_Canon_firstIllPair_39 rfl (by split <;> decide) (fun c39 => ?_) (fun c39 => ?_)
              · refine v_iinc k_Canon_firstIllPair_63 rfl (Nat.le_of_ble_eq_true rfl) ?_
                refine v_goto k_Canon_firstIllPair_66 (tgt := 22) rfl ?_
                refine ih2 (j + 1) (by omega) (by omega) ?_
                rw [drop_at (show j < (so K b).length by omega)] at ht
                rw [← ht]
                rw [rgM Prod.snd (L := so K b) (i := i) (by omega), rgM Prod.snd (L := so K b) (i := j) (by omega)] at c39
                rw [rgM Prod.snd (L := so K b) (i := i) (by omega)]
                have hq : wl (kW K) (((so K b)[i]).2 - ((so K b)[j]).2) = true := by
                  apply Classical.byContradiction
                  intro hq
                  rw [if_neg hq] at c39
                  exact absurd c39 (by decide)
                rw [fpI_wl hq]
              · refine v_bipush k_Canon_firstIllPair_42 (by decide) ?_
                refine v_aload_n k_Canon_firstIllPair_44 rfl ?_
                refine v_getf fl_Canon_33 c0 rfl k_Canon_firstIllPair_45 ?_
                refine v_iload_n k_Canon_firstIllPair_48 rfl ?_
                refine v_callVr mo_Row_get mi_Row_get mv_Row_get lk_Canon_64 k_Canon_firstIllPair_49 c5.obj rfl rfl (Nat.le_of_ble_eq_true rfl) rfl (Nat.le_of_ble_eq_true rfl) (c_Row_get G c5 (by omega)) ?_
                refine v_imul k_Canon_firstIllPair_52 ?_
                refine v_aload_n k_Canon_firstIllPair_53 rfl ?_
                refine v_getf fl_Canon_33 c0 rfl k_Canon_firstIllPair_54 ?_
                refine v_iload_n k_Canon_firstIllPair_57 rfl ?_
                refine v_callVr mo_Row_get mi_Row_get mv_Row_get lk_Canon_64 k_Canon_firstIllPair_58 c5.obj rfl rfl (Nat.le_of_ble_eq_true rfl) rfl (Nat.le_of_ble_eq_true rfl) (c_Row_get G c5 (by omega)) ?_
                refine v_iadd k_Canon_firstIllPair_61 ?_
                refine v_ireturn k_Canon_firstIllPair_62 rfl rfl ?_
                refine ⟨?_, _, _, hp1, f1⟩
                rw [← ht, drop_at (show j < (so K b).length by omega)]
                rw [rgM Prod.snd (L := so K b) (i := i) (by omega), rgM Prod.snd (L := so K b) (i := j) (by omega)] at c39
                have hq : ¬ wl (kW K) (((so K b)[i]).2 - ((so K b)[j]).2) = true := by
                  intro hq
                  rw [if_pos hq] at c39
                  exact c39 rfl
                rw [rgM Prod.snd (L := so K b) (i := i) (by omega), fpI_no hq, rgM Prod.fst (L := so K b) (i := i) (by omega), rgM Prod.fst (L := so K b) (i := j) (by omega)]
                have g1 := (soF_bd w b _ _ (List.getElem_mem (show i < (so K b).length by omega))).1
                have g2 := (soF_bd w b _ _ (List.getElem_mem (show j < (so K b).length by omega))).1
                rw [if_neg (show ¬ 10 * ((so K b)[i]).1 + ((so K b)[j]).1 = -9 by omega)]
        refine loop2 8 (i + 1) (by omega) (by omega) ?_
        rw [drop_at (show i < (so K b).length by omega)] at ht
        rw [← ht, rgM Prod.snd (L := so K b) (i := i) (by omega), rgM Prod.fst (L := so K b) (i := i) (by omega)]
        rfl
  exact loop 8 0 _ (by omega) (by omega) (by rw [List.drop_zero])

/-- the voices (bits) that are in all ill pairs -/
def vaI (W a va : Int) : List (Int × Int) → Nat → Nat
  | [], acc => acc
  | q :: t, acc => vaI W a va t (if wl W (a - q.2) then acc else acc &&& (2 ^ va.toNat ||| 2 ^ q.1.toNat))
def vaP (W : Int) : List (Int × Int) → Nat → Nat
  | [], acc => acc
  | q :: t, acc => vaP W t (vaI W q.2 q.1 t acc)
def vaB (K : CK) : Nat → Nat → Nat → Nat
  | 0, _, acc => acc
  | k + 1, b, acc => vaB K k (b + 1) (vaP (kW K) (so K b) acc)
theorem vaI_wl {W a va : Int} {q : Int × Int} {t : List (Int × Int)} {acc : Nat} (h : wl W (a - q.2) = true) : vaI W a va (q :: t) acc = vaI W a va t acc := by simp only [vaI]; rw [if_pos h]
theorem vaI_no {W a va : Int} {q : Int × Int} {t : List (Int × Int)} {acc : Nat} (h : ¬ wl W (a - q.2) = true) : vaI W a va (q :: t) acc = vaI W a va t (acc &&& (2 ^ va.toNat ||| 2 ^ q.1.toNat)) := by simp only [vaI]; rw [if_neg h]
theorem pow_pred (n : Nat) : ((2 ^ n : Nat) : Int) - 1 = ((2 ^ n - 1 : Nat) : Int) := by have := Nat.two_pow_pos n; omega
set_option maxHeartbeats 4000000 in
set_option maxRecDepth 20000 in
theorem c_Canon_voicesInAllIlls (G : Gx) {h : AH} {c : Nat} {K : CK} {sg sd : List Int} (hp : pCanon h c K sg sd) (w : wK K) : Ct G Y_Canon_voicesInAllIlls 6 0 0 [aR c] h (fun v h' => v = some (aI (vaB K (q_endK K).toNat 0 (2 ^ (kK K).length - 1) : Nat)) ∧ ∃ sg sd, pCanon h' c K sg sd ∧ Fr (c + 14) (c + 18) h h') := by
  obtain ⟨c0, c1, c2, c3, c4, c5, c6⟩ := id hp
  have hbt : (nob (kL K)).length = bt K := rfl
  have b1 := w.endK
  have b3 := w.nv
  refine Ct.of_V mo_Canon_voicesInAllIlls rfl (Nat.le_of_ble_eq_true rfl) rfl ?_
  have loopb : ∀ (kb : Nat) (b : Nat) (h1 : AH) (acc1 : Nat) (x z : Option AV), ((q_endK K).toNat = b + kb) → (vaB K kb b acc1 = vaB K (q_endK K).toNat 0 (2 ^ (kK K).length - 1)) → ∀ sg sd, pCanon h1 c K sg sd → Fr (c + 14) (c + 18) h h1 → V G Y_Canon_voicesInAllIlls 6 0 0 16 [some (aR c), some (aI (acc1 : Nat)), some (aI (q_endK K)), some (aI b), x, z] [] h1 (fun v h' => v = some (aI (vaB K (q_endK K).toNat 0 (2 ^ (kK K).length - 1) : Nat)) ∧ ∃ sg sd, pCanon h' c K sg sd ∧ Fr (c + 14) (c + 18) h h') := by
    intro kb
    induction kb with
    | zero =>
      intro b h1 acc1 x z hk hb sg1 sd1 hp1 f1
      refine v_iload_n k_Canon_voicesInAllIlls_16 rfl ?_
      refine v_iload_n k_Canon_voicesInAllIlls_17 rfl ?_
      refine v_icge 114 k_Canon_voicesInAllIlls_18 rfl (by omega) (by omega) (fun c18 => ?_) (fun c18 => ?_)
      · refine v_iload_n k_Canon_voicesInAllIlls_114 rfl ?_
        refine v_ireturn k_Canon_voicesInAllIlls_115 rfl rfl ?_
        refine ⟨?_, _, _, hp1, f1⟩
        rw [← hb]
        rfl
      · exfalso; omega
    | succ kb ihb =>
      intro b h1 acc1 x z hk hb sg1 sd1 hp1 f1
      obtain ⟨c0, c1, c2, c3, c4, c5, c6⟩ := id hp1
      have hbt : (nob (kL K)).length = bt K := rfl
      refine v_iload_n k_Canon_voicesInAllIlls_16 rfl ?_
      refine v_iload_n k_Canon_voicesInAllIlls_17 rfl ?_
      refine v_icge 114 k_Canon_voicesInAllIlls_18 rfl (by omega) (by omega) (fun c18 => ?_) (fun c18 => ?_)
      · exfalso; omega
      · refine v_aload_n k_Canon_voicesInAllIlls_21 rfl ?_
        refine v_iload_n k_Canon_voicesInAllIlls_22 rfl ?_
        refine v_callV mo_Canon_listen mi_Canon_listen mv_Canon_listen lk_Canon_127 k_Canon_voicesInAllIlls_23 c0 rfl rfl (Nat.le_of_ble_eq_true rfl) rfl (Nat.le_of_ble_eq_true rfl) (c_Canon_listen G hp1 w (by omega)) (fun v23 h23 q23 => ?_)
        obtain ⟨rfl, hp2, f3⟩ := q23
        have f2 := f1.tr f3 (by omega) (by omega)
        obtain ⟨c0, c1, c2, c3, c4, c5, c6⟩ := id hp2
        have el1 : ((so K b).map Prod.fst).length = (so K b).length := List.length_map _
        have el2 : ((so K b).map Prod.snd).length = (so K b).length := List.length_map _
        have b2 := so_len w b
        refine v_iconst k_Canon_voicesInAllIlls_26 ?_
        refine v_istore k_Canon_voicesInAllIlls_27 ⟨Nat.le_of_ble_eq_true rfl, Nat.le_of_ble_eq_true rfl⟩ ?_
        have loop : ∀ (k : Nat) (i acc : Nat) (x : Option AV), ((so K b).length < i + k) → (i ≤ (so K b).length) → (vaP (kW K) ((so K b).drop i) acc = vaP (kW K) (so K b) acc1) → V G Y_Canon_voicesInAllIlls 6 0 0 29 [some (aR c), some (aI (acc : Nat)), some (aI (q_endK K)), some (aI b), some (aI i), x] [] h23 (fun v h' => v = some (aI (vaB K (q_endK K).toNat 0 (2 ^ (kK K).length - 1) : Nat)) ∧ ∃ sg sd, pCanon h' c K sg sd ∧ Fr (c + 14) (c + 18) h h') := by
          intro k
          induction k with
          | zero => intro i acc x hk hi ht; exfalso; omega
          | succ k ih =>
            intro i acc x hk hi ht
            have g1 := rget_bd (so_sg w b) (by decide) (by decide) (i : Int)
            refine v_iload k_Canon_voicesInAllIlls_29 rfl ?_
            refine v_aload_n k_Canon_voicesInAllIlls_31 rfl ?_
            refine v_getf fl_Canon_33 c0 rfl k_Canon_voicesInAllIlls_32 ?_
            refine v_callVr mo_Row_size mi_Row_size mv_Row_size lk_Canon_56 k_Canon_voicesInAllIlls_35 c5.obj rfl rfl (Nat.le_of_ble_eq_true rfl) rfl (Nat.le_of_ble_eq_true rfl) (c_Row_size G c5) ?_
            refine v_icge 108 k_Canon_voicesInAllIlls_38 rfl (by omega) (by omega) (fun c38 => ?_) (fun c38 => ?_)
            · have ei : i = (so K b).length := by omega
              rw [ei, List.drop_length] at ht
              refine v_iinc k_Canon_voicesInAllIlls_108 rfl (Nat.le_of_ble_eq_true rfl) ?_
              refine v_goto k_Canon_voicesInAllIlls_111 (tgt := 16) rfl ?_
              simp only [vaP] at ht
              refine ihb (b + 1) h23 acc _ _ (by omega) ?_ _ _ hp2 f2
              rw [ht]
              exact hb
            · refine v_iload k_Canon_voicesInAllIlls_41 rfl ?_
              refine v_iconst k_Canon_voicesInAllIlls_43 ?_
              refine v_iadd k_Canon_voicesInAllIlls_44 ?_
              refine v_istore k_Canon_voicesInAllIlls_45 ⟨Nat.le_of_ble_eq_true rfl, Nat.le_of_ble_eq_true rfl⟩ ?_
              have loop2 : ∀ (k2 : Nat) (j acc2 : Nat), ((so K b).length < j + k2) → (j ≤ (so K b).length) → (vaP (kW K) ((so K b).drop (i + 1)) (vaI (kW K) (rget ((so K b).map Prod.snd) i) (rget ((so K b).map Prod.fst) i) ((so K b).drop j) acc2) = vaP (kW K) (so K b) acc1) → V G Y_Canon_voicesInAllIlls 6 0 0 47 [some (aR c), some (aI (acc2 : Nat)), some (aI (q_endK K)), some (aI b), some (aI i), some (aI j)] [] h23 (fun v h' => v = some (aI (vaB K (q_endK K).toNat 0 (2 ^ (kK K).length - 1) : Nat)) ∧ ∃ sg sd, pCanon h' c K sg sd ∧ Fr (c + 14) (c + 18) h h') := by
                intro k2
                induction k2 with
                | zero => intro j acc2 hk2 hj ht; exfalso; omega
                | succ k2 ih2 =>
                  intro j acc2 hk2 hj ht
                  have g2 := rget_bd (so_sg w b) (by decide) (by decide) (j : Int)
                  refine v_iload k_Canon_voicesInAllIlls_47 rfl ?_
                  refine v_aload_n k_Canon_voicesInAllIlls_49 rfl ?_
                  refine v_getf fl_Canon_33 c0 rfl k_Canon_voicesInAllIlls_50 ?_
                  refine v_callVr mo_Row_size mi_Row_size mv_Row_size lk_Canon_56 k_Canon_voicesInAllIlls_53 c5.obj rfl rfl (Nat.le_of_ble_eq_true rfl) rfl (Nat.le_of_ble_eq_true rfl) (c_Row_size G c5) ?_
                  refine v_icge 102 k_Canon_voicesInAllIlls_56 rfl (by omega) (by omega) (fun c56 => ?_) (fun c56 => ?_)
                  · have ej : j = (so K b).length := by omega
                    refine v_iinc k_Canon_voicesInAllIlls_102 rfl (Nat.le_of_ble_eq_true rfl) ?_
                    refine v_goto k_Canon_voicesInAllIlls_105 (tgt := 29) rfl ?_
                    refine ih (i + 1) acc2 _ (by omega) (by omega) ?_
                    rw [ej, List.drop_length] at ht
                    rw [← ht]
                    rfl
                  · refine v_aload_n k_Canon_voicesInAllIlls_59 rfl ?_
                    refine v_iload k_Canon_voicesInAllIlls_60 rfl ?_
                    refine v_iload k_Canon_voicesInAllIlls_62 rfl ?_
                    refine v_callVr mo_Canon_clash mi_Canon_clash mv_Canon_clash lk_Canon_130 k_Canon_voicesInAllIlls_64 c0 rfl rfl (Nat.le_of_ble_eq_true rfl) rfl (Nat.le_of_ble_eq_true rfl) (c_Canon_clash G hp2 w (so_sd w b) (by omega) (by omega)) ?_
                    refine v_ifeq 96 k_Canon_voicesInAllIlls_67 rfl (by split <;> decide) (fun c67 => ?_) (fun c67 => ?_)
                    · refine v_iinc k_Canon_voicesInAllIlls_96 rfl (Nat.le_of_ble_eq_true rfl) ?_
                      refine v_goto k_Canon_voicesInAllIlls_99 (tgt := 47) rfl ?_
                      refine ih2 (j + 1) _ (by omega) (by omega) ?_
                      rw [drop_at (show j < (so K b).length by omega)] at ht
                      rw [← ht]
                      rw [rgM Prod.snd (L := so K b) (i := i) (by omega), rgM Prod.snd (L := so K b) (i := j) (by omega)] at c67
                      rw [rgM Prod.snd (L := so K b) (i := i) (by omega)]
                      by_cases hq : wl (kW K) (((so K b)[i]).2 - ((so K b)[j]).2) = true
                      · first
                          | (rw [vaI_wl hq]; done)
                          | (rw [if_pos hq] at c67; exact absurd rfl c67)
                      · first
                          | (rw [vaI_no hq, ← rgM Prod.fst (L := so K b) (i := j) (by omega)]; done)
                          | (rw [if_neg hq] at c67; exact absurd c67 (by decide))
                    · refine v_iload_n k_Canon_voicesInAllIlls_70 rfl ?_
                      refine v_iconst k_Canon_voicesInAllIlls_71 ?_
                      refine v_aload_n k_Canon_voicesInAllIlls_72 rfl ?_
                      refine v_getf fl_Canon_33 c0 rfl k_Canon_voicesInAllIlls_73 ?_
                      refine v_iload k_Canon_voicesInAllIlls_76 rfl ?_
                      refine v_callVr mo_Row_get mi_Row_get mv_Row_get lk_Canon_64 k_Canon_voicesInAllIlls_78 c5.obj rfl rfl (Nat.le_of_ble_eq_true rfl) rfl (Nat.le_of_ble_eq_true rfl) (c_Row_get G c5 (by omega)) ?_
                      refine v_bit k_Canon_voicesInAllIlls_81 (by omega) ?_
                      refine v_iconst k_Canon_voicesInAllIlls_82 ?_
                      refine v_aload_n k_Canon_voicesInAllIlls_83 rfl ?_
                      refine v_getf fl_Canon_33 c0 rfl k_Canon_voicesInAllIlls_84 ?_
                      refine v_iload k_Canon_voicesInAllIlls_87 rfl ?_
                      refine v_callVr mo_Row_get mi_Row_get mv_Row_get lk_Canon_64 k_Canon_voicesInAllIlls_89 c5.obj rfl rfl (Nat.le_of_ble_eq_true rfl) rfl (Nat.le_of_ble_eq_true rfl) (c_Row_get G c5 (by omega)) ?_
                      refine v_bit k_Canon_voicesInAllIlls_92 (by omega) ?_
                      refine v_iorN k_Canon_voicesInAllIlls_93 ?_
                      refine v_iandN k_Canon_voicesInAllIlls_94 ?_
                      refine v_istore_n k_Canon_voicesInAllIlls_95 ⟨Nat.le_of_ble_eq_true rfl, Nat.le_of_ble_eq_true rfl⟩ ?_
                      refine v_iinc k_Canon_voicesInAllIlls_96 rfl (Nat.le_of_ble_eq_true rfl) ?_
                      refine v_goto k_Canon_voicesInAllIlls_99 (tgt := 47) rfl ?_
                      refine ih2 (j + 1) _ (by omega) (by omega) ?_
                      rw [drop_at (show j < (so K b).length by omega)] at ht
                      rw [← ht]
                      rw [rgM Prod.snd (L := so K b) (i := i) (by omega), rgM Prod.snd (L := so K b) (i := j) (by omega)] at c67
                      rw [rgM Prod.snd (L := so K b) (i := i) (by omega)]
                      by_cases hq : wl (kW K) (((so K b)[i]).2 - ((so K b)[j]).2) = true
                      · first
                          | (rw [vaI_wl hq]; done)
                          | (rw [if_pos hq] at c67; exact absurd rfl c67)
                      · first
                          | (rw [vaI_no hq, ← rgM Prod.fst (L := so K b) (i := j) (by omega)]; done)
                          | (rw [if_neg hq] at c67; exact absurd c67 (by decide))
              refine loop2 8 (i + 1) acc (by omega) (by omega) ?_
              rw [drop_at (show i < (so K b).length by omega)] at ht
              rw [← ht, rgM Prod.snd (L := so K b) (i := i) (by omega), rgM Prod.fst (L := so K b) (i := i) (by omega)]
              rfl
        exact loop 8 0 acc1 _ (by omega) (by omega) (by rw [List.drop_zero])
  refine v_iconst k_Canon_voicesInAllIlls_0 ?_
  refine v_aload_n k_Canon_voicesInAllIlls_1 rfl ?_
  refine v_callVr mo_Canon_voices mi_Canon_voices mv_Canon_voices lk_Canon_80 k_Canon_voicesInAllIlls_2 c0 rfl rfl (Nat.le_of_ble_eq_true rfl) rfl (Nat.le_of_ble_eq_true rfl) (c_Canon_voices G hp) ?_
  refine v_bit k_Canon_voicesInAllIlls_5 (by omega) ?_
  refine v_iconst k_Canon_voicesInAllIlls_6 ?_
  refine v_isub k_Canon_voicesInAllIlls_7 ?_
  rw [Int.toNat_natCast, pow_pred]
  refine v_istore_n k_Canon_voicesInAllIlls_8 ⟨Nat.le_of_ble_eq_true rfl, Nat.le_of_ble_eq_true rfl⟩ ?_
  refine v_aload_n k_Canon_voicesInAllIlls_9 rfl ?_
  refine v_callVr mo_Canon_end mi_Canon_end mv_Canon_end lk_Canon_133 k_Canon_voicesInAllIlls_10 c0 rfl rfl (Nat.le_of_ble_eq_true rfl) rfl (Nat.le_of_ble_eq_true rfl) (c_Canon_end G hp w) ?_
  refine v_istore_n k_Canon_voicesInAllIlls_13 ⟨Nat.le_of_ble_eq_true rfl, Nat.le_of_ble_eq_true rfl⟩ ?_
  refine v_iconst k_Canon_voicesInAllIlls_14 ?_
  refine v_istore_n k_Canon_voicesInAllIlls_15 ⟨Nat.le_of_ble_eq_true rfl, Nat.le_of_ble_eq_true rfl⟩ ?_
  exact loopb (q_endK K).toNat 0 h _ _ _ (by omega) rfl _ _ hp Fr.rf
