/-! what is told: changes of a canon -/
def setE (K : CK) (v x : Int) : CK := (kP K, kL K, kK K, rset (kE K) v x, kH K, kR K, kS K, kW K)
def setP (K : CK) (n x : Int) : CK := (rset (kP K) n x, kL K, kK K, kE K, kH K, kR K, kS K, kW K)
def addV (K : CK) (k e hh : Int) : CK := (kP K, kL K, kK K ++ [k], kE K ++ [e], kH K ++ [hh], kR K, kS K, kW K)
def addN (K : CK) (p l : Int) : CK := (kP K ++ [p], kL K ++ [l], kK K, kE K, kH K, kR K, kS K, kW K)
def setR (K : CK) (r : Int) : CK := (kP K, kL K, kK K, kE K, kH K, r, kS K, kW K)
def setS (K : CK) (r : Int) : CK := (kP K, kL K, kK K, kE K, kH K, kR K, r, kW K)
def setW (K : CK) (r : Int) : CK := (kP K, kL K, kK K, kE K, kH K, kR K, kS K, r)
theorem nobF_len : ∀ (i : Nat) (ls : List Int), (∀ x ∈ ls, 1 ≤ x ∧ x ≤ 3) → (nobF i ls).length ≤ 3 * ls.length
  | i, [], _ => by simp [nobF]
  | i, a :: t, h => by
    have h1 := nobF_len (i + 1) t (fun x hx => h x (List.mem_cons_of_mem _ hx))
    have h2 := h a List.mem_cons_self
    show (List.replicate a.toNat (i : Int) ++ nobF (i + 1) t).length ≤ _
    rw [List.length_append, List.length_replicate, List.length_cons]
    omega
theorem bt_le {K : CK} {V : Nat} (w : vK K 12 V) : bt K ≤ 36 := by
  have h1 := nobF_len 0 (kL K) w.2.2.2.1
  have h2 := w.1
  have h3 := w.2.1
  unfold bt nob
  omega
theorem vK.up {K : CK} {N V : Nat} (w : vK K N V) (hN : N ≤ 13) (hV : V ≤ 7) : wK K := by
  obtain ⟨a, b, c, d, e, f, g⟩ := w
  exact ⟨a, by omega, c, d, e, by omega, g⟩
set_option maxHeartbeats 4000000 in
set_option maxRecDepth 20000 in
theorem c_Canon_setEntry (G : Gx) {h : AH} {c : Nat} {K : CK} {sg sd : List Int} (hp : pCanon h c K sg sd) {v x : Int} (hv : InR v) : Ct G Y_Canon_setEntry 1 0 0 [aR c, aI v, aI x] h (fun v' h' => v' = none ∧ pCanon h' c (setE K v x) sg sd ∧ Fr (c + 10) (c + 12) h h') := by
  obtain ⟨c0, c1, c2, c3, c4, c5, c6⟩ := id hp
  have hbt : (nob (kL K)).length = bt K := rfl
  refine Ct.of_V mo_Canon_setEntry rfl (Nat.le_of_ble_eq_true rfl) rfl ?_
  refine v_aload_n k_Canon_setEntry_0 rfl ?_
  refine v_getf fl_Canon_27 c0 rfl k_Canon_setEntry_1 ?_
  refine v_iload_n k_Canon_setEntry_4 rfl ?_
  refine v_iload_n k_Canon_setEntry_5 rfl ?_
  refine v_callV mo_Row_set mi_Row_set mv_Row_set lk_Canon_68 k_Canon_setEntry_6 c3.obj rfl rfl (Nat.le_of_ble_eq_true rfl) rfl (Nat.le_of_ble_eq_true rfl) (c_Row_set G c3 (by omega)) (fun v6 h6 q6 => ?_)
  obtain ⟨rfl, n3, f3⟩ := q6
  refine v_return k_Canon_setEntry_9 rfl ?_
  exact ⟨rfl, ⟨f3.at c0 (by omega), c1.fr f3 (by omega), c2.fr f3 (by omega), n3, c4.fr f3 (by omega), c5.fr f3 (by omega), c6.fr f3 (by omega)⟩, f3.wd (by omega) (by omega)⟩

set_option maxHeartbeats 4000000 in
set_option maxRecDepth 20000 in
theorem c_Canon_addVoice (G : Gx) {h : AH} {c : Nat} {K : CK} {sg sd : List Int} (hp : pCanon h c K sg sd) {k e hh : Int} (h1 : (kK K).length < 7) (h2 : (kE K).length = (kK K).length) (h3 : (kH K).length = (kK K).length) : Ct G Y_Canon_addVoice 1 0 0 [aR c, aI k, aI e, aI hh] h (fun v' h' => v' = none ∧ pCanon h' c (addV K k e hh) sg sd ∧ Fr (c + 8) (c + 14) h h') := by
  obtain ⟨c0, c1, c2, c3, c4, c5, c6⟩ := id hp
  have hbt : (nob (kL K)).length = bt K := rfl
  refine Ct.of_V mo_Canon_addVoice rfl (Nat.le_of_ble_eq_true rfl) rfl ?_
  refine v_aload_n k_Canon_addVoice_0 rfl ?_
  refine v_getf fl_Canon_23 c0 rfl k_Canon_addVoice_1 ?_
  refine v_iload_n k_Canon_addVoice_4 rfl ?_
  refine v_callV mo_Row_add mi_Row_add mv_Row_add lk_Canon_72 k_Canon_addVoice_5 c2.obj rfl rfl (Nat.le_of_ble_eq_true rfl) rfl (Nat.le_of_ble_eq_true rfl) (c_Row_add G c2) (fun v5 h5 q5 => ?_)
  obtain ⟨rfl, n2, f2⟩ := q5
  have c0 := f2.at c0 (by omega)
  have c1 := c1.fr f2 (by omega)
  have c3 := c3.fr f2 (by omega)
  have c4 := c4.fr f2 (by omega)
  have c5 := c5.fr f2 (by omega)
  have c6 := c6.fr f2 (by omega)
  refine v_aload_n k_Canon_addVoice_8 rfl ?_
  refine v_getf fl_Canon_27 c0 rfl k_Canon_addVoice_9 ?_
  refine v_iload_n k_Canon_addVoice_12 rfl ?_
  refine v_callV mo_Row_add mi_Row_add mv_Row_add lk_Canon_72 k_Canon_addVoice_13 c3.obj rfl rfl (Nat.le_of_ble_eq_true rfl) rfl (Nat.le_of_ble_eq_true rfl) (c_Row_add G c3) (fun v13 h13 q13 => ?_)
  obtain ⟨rfl, n3, f3⟩ := q13
  have c0 := f3.at c0 (by omega)
  have c1 := c1.fr f3 (by omega)
  have n2 := n2.fr f3 (by omega)
  have c4 := c4.fr f3 (by omega)
  have c5 := c5.fr f3 (by omega)
  have c6 := c6.fr f3 (by omega)
  refine v_aload_n k_Canon_addVoice_16 rfl ?_
  refine v_getf fl_Canon_30 c0 rfl k_Canon_addVoice_17 ?_
  refine v_iload_n k_Canon_addVoice_20 rfl ?_
  refine v_callV mo_Row_add mi_Row_add mv_Row_add lk_Canon_72 k_Canon_addVoice_21 c4.obj rfl rfl (Nat.le_of_ble_eq_true rfl) rfl (Nat.le_of_ble_eq_true rfl) (c_Row_add G c4) (fun v21 h21 q21 => ?_)
  obtain ⟨rfl, n4, f4⟩ := q21
  have c0 := f4.at c0 (by omega)
  have c1 := c1.fr f4 (by omega)
  have n2 := n2.fr f4 (by omega)
  have n3 := n3.fr f4 (by omega)
  have c5 := c5.fr f4 (by omega)
  have c6 := c6.fr f4 (by omega)
  refine v_return k_Canon_addVoice_24 rfl ?_
  rw [radd, if_pos (by omega)] at n2 n3 n4
  exact ⟨rfl, ⟨c0, c1, n2, n3, n4, c5, c6⟩, ((f2.wd (by omega) (by omega)).tr f3 (by omega) (by omega)).tr f4 (by omega) (by omega)⟩

set_option maxHeartbeats 4000000 in
set_option maxRecDepth 20000 in
theorem c_Canon_tellNote (G : Gx) {h : AH} {c : Nat} {K : CK} {sg sd : List Int} (hp : pCanon h c K sg sd) (w : vK K 12 6) {p l : Int} (hl : InR l) : Ct G Y_Canon_tellNote 2 0 0 [aR c, aI p, aI l] h (fun v' h' => (((l < 1 ∨ l > 3 ∨ 12 ≤ (kP K).length) ∧ v' = some (aI 0) ∧ h' = h) ∨ (¬ (l < 1 ∨ l > 3 ∨ 12 ≤ (kP K).length) ∧ v' = some (aI 1) ∧ pCanon h' c (addN K p l) sg sd)) ∧ Fr c (c + 18) h h') := by
  obtain ⟨c0, c1, c2, c3, c4, c5, c6⟩ := id hp
  have hbt : (nob (kL K)).length = bt K := rfl
  have b1 := w.1
  have b2 := w.2.1
  have b3 : (nob (kL K)).length ≤ 3 * (kL K).length := nobF_len 0 (kL K) w.2.2.2.1
  refine Ct.of_V mo_Canon_tellNote rfl (Nat.le_of_ble_eq_true rfl) rfl ?_
  refine v_iload_n k_Canon_tellNote_0 rfl ?_
  refine v_iconst k_Canon_tellNote_1 ?_
  refine v_iclt 22 k_Canon_tellNote_2 rfl (by omega) (by omega) (fun cd2 => ?_) (fun cd2 => ?_)
  · refine v_iconst k_Canon_tellNote_22 ?_
    refine v_ireturn k_Canon_tellNote_23 rfl (by first | rfl | (split <;> rfl)) ?_
    exact ⟨Or.inl ⟨by omega, rfl, rfl⟩, Fr.rf⟩
  · refine v_iload_n k_Canon_tellNote_5 rfl ?_
    refine v_iconst k_Canon_tellNote_6 ?_
    refine v_icgt 22 k_Canon_tellNote_7 rfl (by omega) (by omega) (fun cd7 => ?_) (fun cd7 => ?_)
    · refine v_iconst k_Canon_tellNote_22 ?_
      refine v_ireturn k_Canon_tellNote_23 rfl (by first | rfl | (split <;> rfl)) ?_
      exact ⟨Or.inl ⟨by omega, rfl, rfl⟩, Fr.rf⟩
    · refine v_aload_n k_Canon_tellNote_10 rfl ?_
      refine v_getf fl_Canon_12 c0 rfl k_Canon_tellNote_11 ?_
      refine v_callVr mo_Tune_notes mi_Tune_notes mv_Tune_notes lk_Canon_75 k_Canon_tellNote_14 c1.1 rfl rfl (Nat.le_of_ble_eq_true rfl) rfl (Nat.le_of_ble_eq_true rfl) (c_Tune_notes G c1) ?_
      refine v_bipush k_Canon_tellNote_17 (by decide) ?_
      refine v_iclt 24 k_Canon_tellNote_19 rfl (by omega) (by omega) (fun cd19 => ?_) (fun cd19 => ?_)
      · refine v_aload_n k_Canon_tellNote_24 rfl ?_
        refine v_getf fl_Canon_12 c0 rfl k_Canon_tellNote_25 ?_
        refine v_iload_n k_Canon_tellNote_28 rfl ?_
        refine v_iload_n k_Canon_tellNote_29 rfl ?_
        refine v_callV mo_Tune_add mi_Tune_add mv_Tune_add lk_Canon_78 k_Canon_tellNote_30 c1.1 rfl rfl (Nat.le_of_ble_eq_true rfl) rfl (Nat.le_of_ble_eq_true rfl) (c_Tune_add G c1 (by omega) (by omega) (by omega) (by omega)) (fun v30 h30 q30 => ?_)
        obtain ⟨rfl, n1, f1⟩ := q30
        have c0 := f1.at c0 (by omega)
        have c2 := c2.fr f1 (by omega)
        have c3 := c3.fr f1 (by omega)
        have c4 := c4.fr f1 (by omega)
        have c5 := c5.fr f1 (by omega)
        have c6 := c6.fr f1 (by omega)
        refine v_iconst k_Canon_tellNote_33 ?_
        refine v_ireturn k_Canon_tellNote_34 rfl (by first | rfl | (split <;> rfl)) ?_
        exact ⟨Or.inr ⟨by omega, rfl, ⟨c0, n1, c2, c3, c4, c5, c6⟩⟩, f1.wd (by omega) (by omega)⟩
      · refine v_iconst k_Canon_tellNote_22 ?_
        refine v_ireturn k_Canon_tellNote_23 rfl (by first | rfl | (split <;> rfl)) ?_
        exact ⟨Or.inl ⟨by omega, rfl, rfl⟩, Fr.rf⟩

set_option maxHeartbeats 4000000 in
set_option maxRecDepth 20000 in
theorem c_Canon_tellVoice (G : Gx) {h : AH} {c : Nat} {K : CK} {sg sd : List Int} (hp : pCanon h c K sg sd) (w : vK K 12 6) {k e hh : Int} (he : InR e) : Ct G Y_Canon_tellVoice 2 0 0 [aR c, aI k, aI e, aI hh] h (fun v' h' => (((e > 60 ∨ 6 ≤ (kK K).length) ∧ v' = some (aI 0) ∧ h' = h) ∨ (¬ (e > 60 ∨ 6 ≤ (kK K).length) ∧ v' = some (aI 1) ∧ pCanon h' c (addV K k e hh) sg sd)) ∧ Fr c (c + 18) h h') := by
  obtain ⟨c0, c1, c2, c3, c4, c5, c6⟩ := id hp
  have hbt : (nob (kL K)).length = bt K := rfl
  have b1 := w.2.2.2.2.2.1
  have b2 := w.2.2.2.2.2.2.1
  have b3 := w.2.2.2.2.2.2.2.1
  refine Ct.of_V mo_Canon_tellVoice rfl (Nat.le_of_ble_eq_true rfl) rfl ?_
  refine v_iload_n k_Canon_tellVoice_0 rfl ?_
  refine v_bipush k_Canon_tellVoice_1 (by decide) ?_
  refine v_icgt 15 k_Canon_tellVoice_3 rfl (by omega) (by omega) (fun cd3 => ?_) (fun cd3 => ?_)
  · refine v_iconst k_Canon_tellVoice_15 ?_
    refine v_ireturn k_Canon_tellVoice_16 rfl (by first | rfl | (split <;> rfl)) ?_
    exact ⟨Or.inl ⟨by omega, rfl, rfl⟩, Fr.rf⟩
  · refine v_aload_n k_Canon_tellVoice_6 rfl ?_
    refine v_callVr mo_Canon_voices mi_Canon_voices mv_Canon_voices lk_Canon_80 k_Canon_tellVoice_7 c0 rfl rfl (Nat.le_of_ble_eq_true rfl) rfl (Nat.le_of_ble_eq_true rfl) (c_Canon_voices G hp) ?_
    refine v_bipush k_Canon_tellVoice_10 (by decide) ?_
    refine v_iclt 17 k_Canon_tellVoice_12 rfl (by omega) (by omega) (fun cd12 => ?_) (fun cd12 => ?_)
    · refine v_aload_n k_Canon_tellVoice_17 rfl ?_
      refine v_iload_n k_Canon_tellVoice_18 rfl ?_
      refine v_iload_n k_Canon_tellVoice_19 rfl ?_
      refine v_iload_n k_Canon_tellVoice_20 rfl ?_
      refine v_callV mo_Canon_addVoice mi_Canon_addVoice mv_Canon_addVoice lk_Canon_83 k_Canon_tellVoice_21 c0 rfl rfl (Nat.le_of_ble_eq_true rfl) rfl (Nat.le_of_ble_eq_true rfl) (c_Canon_addVoice G hp (by omega) (by omega) (by omega)) (fun v21 h21 q21 => ?_)
      obtain ⟨rfl, n1, f1⟩ := q21
      refine v_iconst k_Canon_tellVoice_24 ?_
      refine v_ireturn k_Canon_tellVoice_25 rfl (by first | rfl | (split <;> rfl)) ?_
      exact ⟨Or.inr ⟨by omega, rfl, n1⟩, f1.wd (by omega) (by omega)⟩
    · refine v_iconst k_Canon_tellVoice_15 ?_
      refine v_ireturn k_Canon_tellVoice_16 rfl (by first | rfl | (split <;> rfl)) ?_
      exact ⟨Or.inl ⟨by omega, rfl, rfl⟩, Fr.rf⟩

set_option maxHeartbeats 4000000 in
set_option maxRecDepth 20000 in
theorem c_Canon_tellRounds (G : Gx) {h : AH} {c : Nat} {K : CK} {sg sd : List Int} (hp : pCanon h c K sg sd) {m a : Int} (hm : InR m) (ha : InR a) : Ct G Y_Canon_tellRounds 1 0 0 [aR c, aI m, aI a] h (fun v' h' => (((m < 1 ∨ m > 4 ∨ a > 2) ∧ v' = some (aI 0) ∧ h' = h) ∨ (¬ (m < 1 ∨ m > 4 ∨ a > 2) ∧ v' = some (aI 1) ∧ pCanon h' c (setS (setR K m) a) sg sd)) ∧ Fr c (c + 18) h h') := by
  obtain ⟨c0, c1, c2, c3, c4, c5, c6⟩ := id hp
  have hbt : (nob (kL K)).length = bt K := rfl
  refine Ct.of_V mo_Canon_tellRounds rfl (Nat.le_of_ble_eq_true rfl) rfl ?_
  refine v_iload_n k_Canon_tellRounds_0 rfl ?_
  refine v_iconst k_Canon_tellRounds_1 ?_
  refine v_iclt 15 k_Canon_tellRounds_2 rfl (by omega) (by omega) (fun cd2 => ?_) (fun cd2 => ?_)
  · refine v_iconst k_Canon_tellRounds_15 ?_
    refine v_ireturn k_Canon_tellRounds_16 rfl (by first | rfl | (split <;> rfl)) ?_
    exact ⟨Or.inl ⟨by omega, rfl, rfl⟩, Fr.rf⟩
  · refine v_iload_n k_Canon_tellRounds_5 rfl ?_
    refine v_iconst k_Canon_tellRounds_6 ?_
    refine v_icgt 15 k_Canon_tellRounds_7 rfl (by omega) (by omega) (fun cd7 => ?_) (fun cd7 => ?_)
    · refine v_iconst k_Canon_tellRounds_15 ?_
      refine v_ireturn k_Canon_tellRounds_16 rfl (by first | rfl | (split <;> rfl)) ?_
      exact ⟨Or.inl ⟨by omega, rfl, rfl⟩, Fr.rf⟩
    · refine v_iload_n k_Canon_tellRounds_10 rfl ?_
      refine v_iconst k_Canon_tellRounds_11 ?_
      refine v_icle 17 k_Canon_tellRounds_12 rfl (by omega) (by omega) (fun cd12 => ?_) (fun cd12 => ?_)
      · refine v_aload_n k_Canon_tellRounds_17 rfl ?_
        refine v_iload_n k_Canon_tellRounds_18 rfl ?_
        refine v_put fl_Canon_39 c0 (Nat.le_of_ble_eq_true rfl) (fun r hr => by cases hr; exact Or.inl rfl) rfl rfl k_Canon_tellRounds_19 (fun h19 e19 f19 => ?_)
        have c0 := e19
        have c1 := c1.fr f19 (by omega)
        have c2 := c2.fr f19 (by omega)
        have c3 := c3.fr f19 (by omega)
        have c4 := c4.fr f19 (by omega)
        have c5 := c5.fr f19 (by omega)
        have c6 := c6.fr f19 (by omega)
        refine v_aload_n k_Canon_tellRounds_22 rfl ?_
        refine v_iload_n k_Canon_tellRounds_23 rfl ?_
        refine v_put fl_Canon_43 c0 (Nat.le_of_ble_eq_true rfl) (fun r hr => by cases hr; exact Or.inl rfl) rfl rfl k_Canon_tellRounds_24 (fun h24 e24 f24 => ?_)
        have c0 := e24
        have c1 := c1.fr f24 (by omega)
        have c2 := c2.fr f24 (by omega)
        have c3 := c3.fr f24 (by omega)
        have c4 := c4.fr f24 (by omega)
        have c5 := c5.fr f24 (by omega)
        have c6 := c6.fr f24 (by omega)
        refine v_iconst k_Canon_tellRounds_27 ?_
        refine v_ireturn k_Canon_tellRounds_28 rfl (by first | rfl | (split <;> rfl)) ?_
        exact ⟨Or.inr ⟨by omega, rfl, ⟨c0, c1, c2, c3, c4, c5, c6⟩⟩, (f19.wd (by omega) (by omega)).tr f24 (by omega) (by omega)⟩
      · refine v_iconst k_Canon_tellRounds_15 ?_
        refine v_ireturn k_Canon_tellRounds_16 rfl (by first | rfl | (split <;> rfl)) ?_
        exact ⟨Or.inl ⟨by omega, rfl, rfl⟩, Fr.rf⟩

set_option maxHeartbeats 4000000 in
set_option maxRecDepth 20000 in
theorem c_Canon_tellWell (G : Gx) {h : AH} {c : Nat} {K : CK} {sg sd : List Int} (hp : pCanon h c K sg sd) (hw : 0 ≤ kW K) {x : Int} (hx : 0 ≤ x ∧ x ≤ 9) : Ct G Y_Canon_tellWell 1 0 0 [aR c, aI x] h (fun v' h' => ((x ≥ 7 ∧ v' = some (aI 0) ∧ h' = h) ∨ (¬ x ≥ 7 ∧ v' = some (aI 1) ∧ pCanon h' c (setW K (((kW K).toNat ^^^ 2 ^ x.toNat : Nat) : Int)) sg sd)) ∧ Fr c (c + 18) h h') := by
  obtain ⟨c0, c1, c2, c3, c4, c5, c6⟩ := id hp
  have hbt : (nob (kL K)).length = bt K := rfl
  refine Ct.of_V mo_Canon_tellWell rfl (Nat.le_of_ble_eq_true rfl) rfl ?_
  refine v_iload_n k_Canon_tellWell_0 rfl ?_
  refine v_bipush k_Canon_tellWell_1 (by decide) ?_
  refine v_iclt 8 k_Canon_tellWell_3 rfl (by omega) (by omega) (fun cd3 => ?_) (fun cd3 => ?_)
  · refine v_aload_n k_Canon_tellWell_8 rfl ?_
    refine v_dup k_Canon_tellWell_9 rfl ?_
    refine v_getf fl_Canon_46 c0 rfl k_Canon_tellWell_10 ?_
    refine v_iconst k_Canon_tellWell_13 ?_
    refine v_iload_n k_Canon_tellWell_14 rfl ?_
    refine v_bit k_Canon_tellWell_15 (by omega) ?_
    refine v_ixor k_Canon_tellWell_16 hw (Int.natCast_nonneg _) ?_
    rw [Int.toNat_natCast]
    refine v_put fl_Canon_46 c0 (Nat.le_of_ble_eq_true rfl) (fun r hr => by cases hr; exact Or.inl rfl) rfl rfl k_Canon_tellWell_17 (fun h17 e17 f17 => ?_)
    have c0 := e17
    have c1 := c1.fr f17 (by omega)
    have c2 := c2.fr f17 (by omega)
    have c3 := c3.fr f17 (by omega)
    have c4 := c4.fr f17 (by omega)
    have c5 := c5.fr f17 (by omega)
    have c6 := c6.fr f17 (by omega)
    refine v_iconst k_Canon_tellWell_20 ?_
    refine v_ireturn k_Canon_tellWell_21 rfl (by first | rfl | (split <;> rfl)) ?_
    exact ⟨Or.inr ⟨by omega, rfl, ⟨c0, c1, c2, c3, c4, c5, c6⟩⟩, f17.wd (by omega) (by omega)⟩
  · refine v_iconst k_Canon_tellWell_6 ?_
    refine v_ireturn k_Canon_tellWell_7 rfl (by first | rfl | (split <;> rfl)) ?_
    exact ⟨Or.inl ⟨by omega, rfl, rfl⟩, Fr.rf⟩

set_option maxHeartbeats 4000000 in
set_option maxRecDepth 20000 in
theorem c_Canon_copyFrom (G : Gx) {h : AH} {c : Nat} {K : CK} {sg sd : List Int} (hp : pCanon h c K sg sd) {o : Nat} {K2 : CK} {sg2 sd2 : List Int} (hq : pCanon h o K2 sg2 sd2) (hd : c + 18 ≤ o ∨ o + 18 ≤ c) : Ct G Y_Canon_copyFrom 3 0 0 [aR c, aR o] h (fun v' h' => v' = none ∧ pCanon h' c K2 sg sd ∧ Fr c (c + 14) h h') := by
  obtain ⟨c0, c1, c2, c3, c4, c5, c6⟩ := id hp
  have hbt : (nob (kL K)).length = bt K := rfl
  obtain ⟨o0, o1, o2, o3, o4, o5, o6⟩ := id hq
  refine Ct.of_V mo_Canon_copyFrom rfl (Nat.le_of_ble_eq_true rfl) rfl ?_
  refine v_aload_n k_Canon_copyFrom_0 rfl ?_
  refine v_ifnull k_Canon_copyFrom_1 ?_
  refine v_aload_n k_Canon_copyFrom_4 rfl ?_
  refine v_getf fl_Canon_12 c0 rfl k_Canon_copyFrom_5 ?_
  refine v_aload_n k_Canon_copyFrom_8 rfl ?_
  refine v_getf fl_Canon_12 o0 rfl k_Canon_copyFrom_9 ?_
  refine v_callV mo_Tune_copyFrom mi_Tune_copyFrom mv_Tune_copyFrom lk_Canon_49 k_Canon_copyFrom_12 c1.1 rfl rfl (Nat.le_of_ble_eq_true rfl) rfl (Nat.le_of_ble_eq_true rfl) (c_Tune_copyFrom G c1 o1 (by omega)) (fun v12 h12 q12 => ?_)
  obtain ⟨rfl, n1, f1⟩ := q12
  have c0 := f1.at c0 (by omega)
  have c2 := c2.fr f1 (by omega)
  have c3 := c3.fr f1 (by omega)
  have c4 := c4.fr f1 (by omega)
  have c5 := c5.fr f1 (by omega)
  have c6 := c6.fr f1 (by omega)
  have o0 := f1.at o0 (by omega)
  have o2 := o2.fr f1 (by omega)
  have o3 := o3.fr f1 (by omega)
  have o4 := o4.fr f1 (by omega)
  refine v_aload_n k_Canon_copyFrom_15 rfl ?_
  refine v_getf fl_Canon_23 c0 rfl k_Canon_copyFrom_16 ?_
  refine v_aload_n k_Canon_copyFrom_19 rfl ?_
  refine v_getf fl_Canon_23 o0 rfl k_Canon_copyFrom_20 ?_
  refine v_callV mo_Row_copyFrom mi_Row_copyFrom mv_Row_copyFrom lk_Canon_53 k_Canon_copyFrom_23 c2.obj rfl rfl (Nat.le_of_ble_eq_true rfl) rfl (Nat.le_of_ble_eq_true rfl) (c_Row_copyFrom G c2 o2 o2.le (by omega)) (fun v23 h23 q23 => ?_)
  obtain ⟨rfl, n2, f2⟩ := q23
  have c0 := f2.at c0 (by omega)
  have n1 := n1.fr f2 (by omega)
  have c3 := c3.fr f2 (by omega)
  have c4 := c4.fr f2 (by omega)
  have c5 := c5.fr f2 (by omega)
  have c6 := c6.fr f2 (by omega)
  have o0 := f2.at o0 (by omega)
  have o3 := o3.fr f2 (by omega)
  have o4 := o4.fr f2 (by omega)
  refine v_aload_n k_Canon_copyFrom_26 rfl ?_
  refine v_getf fl_Canon_27 c0 rfl k_Canon_copyFrom_27 ?_
  refine v_aload_n k_Canon_copyFrom_30 rfl ?_
  refine v_getf fl_Canon_27 o0 rfl k_Canon_copyFrom_31 ?_
  refine v_callV mo_Row_copyFrom mi_Row_copyFrom mv_Row_copyFrom lk_Canon_53 k_Canon_copyFrom_34 c3.obj rfl rfl (Nat.le_of_ble_eq_true rfl) rfl (Nat.le_of_ble_eq_true rfl) (c_Row_copyFrom G c3 o3 o3.le (by omega)) (fun v34 h34 q34 => ?_)
  obtain ⟨rfl, n3, f3⟩ := q34
  have c0 := f3.at c0 (by omega)
  have n1 := n1.fr f3 (by omega)
  have n2 := n2.fr f3 (by omega)
  have c4 := c4.fr f3 (by omega)
  have c5 := c5.fr f3 (by omega)
  have c6 := c6.fr f3 (by omega)
  have o0 := f3.at o0 (by omega)
  have o4 := o4.fr f3 (by omega)
  refine v_aload_n k_Canon_copyFrom_37 rfl ?_
  refine v_getf fl_Canon_30 c0 rfl k_Canon_copyFrom_38 ?_
  refine v_aload_n k_Canon_copyFrom_41 rfl ?_
  refine v_getf fl_Canon_30 o0 rfl k_Canon_copyFrom_42 ?_
  refine v_callV mo_Row_copyFrom mi_Row_copyFrom mv_Row_copyFrom lk_Canon_53 k_Canon_copyFrom_45 c4.obj rfl rfl (Nat.le_of_ble_eq_true rfl) rfl (Nat.le_of_ble_eq_true rfl) (c_Row_copyFrom G c4 o4 o4.le (by omega)) (fun v45 h45 q45 => ?_)
  obtain ⟨rfl, n4, f4⟩ := q45
  have c0 := f4.at c0 (by omega)
  have n1 := n1.fr f4 (by omega)
  have n2 := n2.fr f4 (by omega)
  have n3 := n3.fr f4 (by omega)
  have c5 := c5.fr f4 (by omega)
  have c6 := c6.fr f4 (by omega)
  have o0 := f4.at o0 (by omega)
  refine v_aload_n k_Canon_copyFrom_48 rfl ?_
  refine v_aload_n k_Canon_copyFrom_49 rfl ?_
  refine v_getf fl_Canon_39 o0 rfl k_Canon_copyFrom_50 ?_
  refine v_put fl_Canon_39 c0 (Nat.le_of_ble_eq_true rfl) (fun r hr => by cases hr; exact Or.inl rfl) rfl rfl k_Canon_copyFrom_53 (fun h53 e53 f53 => ?_)
  have c0 := e53
  have n1 := n1.fr f53 (by omega)
  have n2 := n2.fr f53 (by omega)
  have n3 := n3.fr f53 (by omega)
  have n4 := n4.fr f53 (by omega)
  have c5 := c5.fr f53 (by omega)
  have c6 := c6.fr f53 (by omega)
  have o0 := f53.at o0 (by omega)
  refine v_aload_n k_Canon_copyFrom_56 rfl ?_
  refine v_aload_n k_Canon_copyFrom_57 rfl ?_
  refine v_getf fl_Canon_43 o0 rfl k_Canon_copyFrom_58 ?_
  refine v_put fl_Canon_43 c0 (Nat.le_of_ble_eq_true rfl) (fun r hr => by cases hr; exact Or.inl rfl) rfl rfl k_Canon_copyFrom_61 (fun h61 e61 f61 => ?_)
  have c0 := e61
  have n1 := n1.fr f61 (by omega)
  have n2 := n2.fr f61 (by omega)
  have n3 := n3.fr f61 (by omega)
  have n4 := n4.fr f61 (by omega)
  have c5 := c5.fr f61 (by omega)
  have c6 := c6.fr f61 (by omega)
  have o0 := f61.at o0 (by omega)
  refine v_aload_n k_Canon_copyFrom_64 rfl ?_
  refine v_aload_n k_Canon_copyFrom_65 rfl ?_
  refine v_getf fl_Canon_46 o0 rfl k_Canon_copyFrom_66 ?_
  refine v_put fl_Canon_46 c0 (Nat.le_of_ble_eq_true rfl) (fun r hr => by cases hr; exact Or.inl rfl) rfl rfl k_Canon_copyFrom_69 (fun h69 e69 f69 => ?_)
  have c0 := e69
  have n1 := n1.fr f69 (by omega)
  have n2 := n2.fr f69 (by omega)
  have n3 := n3.fr f69 (by omega)
  have n4 := n4.fr f69 (by omega)
  have c5 := c5.fr f69 (by omega)
  have c6 := c6.fr f69 (by omega)
  have o0 := f69.at o0 (by omega)
  refine v_return k_Canon_copyFrom_72 rfl ?_
  exact ⟨rfl, ⟨c0, n1, n2, n3, n4, c5, c6⟩, ((((((f1.wd (by omega) (by omega)).tr f2 (by omega) (by omega)).tr f3 (by omega) (by omega)).tr f4 (by omega) (by omega)).tr f53 (by omega) (by omega)).tr f61 (by omega) (by omega)).tr f69 (by omega) (by omega)⟩
