/-! what is tried in mind -/
theorem rset_len {xs : List Int} {i x : Int} : (rset xs i x).length = xs.length := by unfold rset; split <;> simp
theorem rget_rset {xs : List Int} {i x : Int} (h : 0 ≤ i ∧ i < xs.length) : rget (rset xs i x) i = x := by
  rw [rget, rset_len, if_pos h, rset, if_pos h, List.getD_eq_getElem?_getD, List.getElem?_set_self (by omega)]
  rfl
theorem rget_rset_ne {xs : List Int} {i j x : Int} (hj : j ≠ i) : rget (rset xs i x) j = rget xs j := by
  unfold rget
  rw [rset_len]
  split
  · unfold rset
    split
    · rw [List.getD_eq_getElem?_getD, List.getD_eq_getElem?_getD, List.getElem?_set_ne (by omega)]
    · rfl
  · rfl
theorem rset_rset {xs : List Int} {i x y : Int} : rset (rset xs i x) i y = rset xs i y := by
  unfold rset
  split
  · rename_i h
    rw [if_pos (by rw [List.length_set]; exact h), List.set_set]
  · rfl
theorem rset_self {xs : List Int} {i : Int} : rset xs i (rget xs i) = xs := by
  unfold rset
  split
  · rename_i h
    rw [rget, if_pos h, List.getD_eq_getElem?_getD, List.getElem?_eq_getElem (show i.toNat < xs.length by omega)]
    simp
  · rfl
theorem rset_all {xs : List Int} {i x : Int} {P : Int → Prop} (h : ∀ y ∈ xs, P y) (hx : P x) : ∀ y ∈ rset xs i x, P y := by
  intro y hy
  unfold rset at hy
  split at hy
  · rcases List.mem_or_eq_of_mem_set hy with h1 | h1
    · exact h y h1
    · rw [h1]; exact hx
  · exact h y hy
theorem setP_self {K : CK} {n : Int} : setP K n (rget (kP K) n) = K := by
  show (rset (kP K) n (rget (kP K) n), kL K, kK K, kE K, kH K, kR K, kS K, kW K) = K
  rw [rset_self]; rfl
theorem setP_setP {K : CK} {n x y : Int} : setP (setP K n x) n y = setP K n y := by
  show (rset (rset (kP K) n x) n y, kL K, kK K, kE K, kH K, kR K, kS K, kW K) = _
  rw [rset_rset]; rfl
theorem setP_back {K : CK} {n x : Int} : setP (setP K n x) n (rget (kP K) n) = K := by rw [setP_setP, setP_self]
theorem vK.setP {K : CK} {N V : Nat} (w : vK K N V) {n x : Int} (hx : 0 ≤ x ∧ x ≤ 9) : vK (setP K n x) N V :=
  ⟨by show (rset (kP K) n x).length = (kL K).length; rw [rset_len]; exact w.1, by show (rset (kP K) n x).length ≤ N; rw [rset_len]; exact w.2.1, rset_all w.2.2.1 hx, w.2.2.2⟩
theorem evB_eq {K K' : CK} (h : ∀ a b c, wyK K' a b c = wyK K a b c) (one other : Int) : ∀ (k : Nat) (b : Int), evB K' one other k b = evB K one other k b
  | 0, _ => rfl
  | k + 1, b => by simp only [evB]; rw [h, evB_eq h one other k (b + 1)]
theorem evO_eq {K K' : CK} (h : ∀ a b, evP K' a b = evP K a b) (one : Int) : ∀ (k j : Nat), evO K' one k j = evO K one k j
  | 0, _ => rfl
  | k + 1, j => by simp only [evO]; rw [h, evO_eq h one k (j + 1)]
theorem evA_eq {K K' : CK} (h : ∀ a b, evP K' a b = evP K a b) (hl : kK K' = kK K) : ∀ (k i : Nat), evA K' k i = evA K k i
  | 0, _ => rfl
  | k + 1, i => by simp only [evA]; rw [evO_eq h, hl, evA_eq h hl k (i + 1)]
/-- what the notes meet doesn't hang on their pitches -/
theorem evP_setP {K : CK} {n x : Int} (a b : Int) : evP (setP K n x) a b = evP K a b := evB_eq (K := K) (K' := setP K n x) (fun _ _ _ => rfl) a b _ _
theorem evs_setP {K : CK} {n x : Int} : evs (setP K n x) = evs K := evA_eq (K := K) (K' := setP K n x) (fun a b => evP_setP a b) rfl _ _
def wellE (K : CK) : Bool := (evs K).all fun x => !illW K x
def illsE (K : CK) : Int := esm (fun x => if illW K x then 1 else 0) (evs K)
theorem wellM_all (K : CK) : ∀ M : List (Int × Int), wellM K M = (M.map Prod.fst).all fun x => !illW K x
  | [] => rfl
  | q :: t => by simp only [wellM, List.map_cons, List.all_cons]; rw [wellM_all K t]
theorem illsM_wsm (K : CK) : ∀ M : List (Int × Int), illsM K M = wsm (fun x => if illW K x then 1 else 0) M
  | [] => rfl
  | q :: t => by
    simp only [illsM, wsm]
    rw [illsM_wsm K t]
    split <;> omega
theorem well_of {M : List (Int × Int)} {K K' : CK} (r : MRel M (evs K)) (he : evs K' = evs K) : wellM K' M = wellE K' := by
  rw [wellM_all, wellE, he]
  apply Bool.eq_iff_iff.mpr
  rw [List.all_eq_true, List.all_eq_true]
  exact ⟨fun h x hx => h x ((r.2 x).mpr hx), fun h x hx => h x ((r.2 x).mp hx)⟩
theorem ills_of {M : List (Int × Int)} {K K' : CK} (r : MRel M (evs K)) (he : evs K' = evs K) : illsM K' M = illsE K' := by
  rw [illsM_wsm, illsE, he]; exact r.1 _
/-- the first pitch of a note that mends all -/
def mpF (K : CK) (n : Int) : Nat → Nat → Int
  | 0, _ => -9
  | k + 1, p => if wellE (setP K n p) then (p : Int) else mpF K n k (p + 1)
theorem mpF_bd (K : CK) (n : Int) : ∀ (k p : Nat), mpF K n k p = -9 ∨ ((p : Int) ≤ mpF K n k p ∧ mpF K n k p < (p + k : Nat))
  | 0, _ => Or.inl rfl
  | k + 1, p => by
    have := mpF_bd K n k (p + 1)
    simp only [mpF]
    split
    · right; omega
    · omega
set_option maxHeartbeats 4000000 in
set_option maxRecDepth 20000 in
theorem c_Mind_take (G : Gx) {h : AH} {m t : Nat} {K : CK} {sg sd ws ts ms : List Int} (hx : pMind h m K sg sd ws ts ms) {K2 : CK} {sg2 sd2 : List Int} (hp : pCanon h t K2 sg2 sd2) (hd : m + 26 ≤ t ∨ t + 18 ≤ m) : Ct G Y_Mind_take 4 0 0 [aR m, aR t] h (fun v h' => v = some (aR (m + 1)) ∧ pMind h' m K2 sg sd ws ts ms ∧ Fr (m + 1) (m + 19) h h') := by
  obtain ⟨x0, x1, x2, x3⟩ := id hx
  refine Ct.of_V mo_Mind_take rfl (Nat.le_of_ble_eq_true rfl) rfl ?_
  refine v_aload_n k_Mind_take_0 rfl ?_
  refine v_getf fl_Mind_12 x0 rfl k_Mind_take_1 ?_
  refine v_aload_n k_Mind_take_4 rfl ?_
  refine v_callV mo_Canon_copyFrom mi_Canon_copyFrom mv_Canon_copyFrom lk_Mind_34 k_Mind_take_5 x1.1 rfl rfl (Nat.le_of_ble_eq_true rfl) rfl (Nat.le_of_ble_eq_true rfl) (c_Canon_copyFrom G x1 hp (by omega)) (fun v5 h5 q5 => ?_)
  obtain ⟨rfl, n1, f1⟩ := q5
  refine v_aload_n k_Mind_take_8 rfl ?_
  refine v_getf fl_Mind_12 (f1.at x0 (by omega)) rfl k_Mind_take_9 ?_
  refine v_areturn k_Mind_take_12 rfl ?_
  exact ⟨rfl, ⟨f1.at x0 (by omega), n1, x2.fr f1 (by omega), x3.fr f1 (by omega)⟩, f1.wd (by omega) (by omega)⟩

set_option maxHeartbeats 4000000 in
set_option maxRecDepth 20000 in
theorem c_Mind_mendingPitch (G : Gx) {h : AH} {m : Nat} {K : CK} {sg sd : List Int} {M : List (Int × Int)} {ms : List Int} (hx : pMind h m K sg sd (M.map Prod.fst) (M.map Prod.snd) ms) (r : MRel M (evs K)) (w : wK K) (hb : ∀ q ∈ M, 0 ≤ q.1 ∧ q.1 < 32768) {n : Int} (hn : 0 ≤ n ∧ n < (kP K).length) : Ct G Y_Mind_mendingPitch 4 0 0 [aR m, aI n] h (fun v h' => v = some (aI (mpF K n 10 0)) ∧ pMind h' m K sg sd (M.map Prod.fst) (M.map Prod.snd) ms ∧ Fr (m + 1) (m + 19) h h') := by
  obtain ⟨x0, x1, x2, x3⟩ := id hx
  have hnn : (kP K).length ≤ 13 := w.2.1
  have hpt := w.pt n
  refine Ct.of_V mo_Mind_mendingPitch rfl (Nat.le_of_ble_eq_true rfl) rfl ?_
  have loop : ∀ (k : Nat) (p : Nat) (found : Int) (h1 : AH) (q : Int), (p + k = 10) → (-9 ≤ found ∧ found ≤ 9) → (pMind h1 m (setP K n q) sg sd (M.map Prod.fst) (M.map Prod.snd) ms) → (Fr (m + 1) (m + 19) h h1) → ((if found = -9 then mpF K n k p else found) = mpF K n 10 0) → V G Y_Mind_mendingPitch 4 0 0 18 [some (aR m), some (aI n), some (aI (rget (kP K) n)), some (aI found), some (aI p)] [] h1 (fun v h' => v = some (aI (mpF K n 10 0)) ∧ pMind h' m K sg sd (M.map Prod.fst) (M.map Prod.snd) ms ∧ Fr (m + 1) (m + 19) h h') := by
    intro k
    induction k with
    | zero =>
      intro p found h1 q hk hf hx1 f1 ht
      obtain ⟨x0, x1, x2, x3⟩ := id hx1
      refine v_iload k_Mind_mendingPitch_18 rfl ?_
      refine v_bipush k_Mind_mendingPitch_20 (by decide) ?_
      refine v_icgt 67 k_Mind_mendingPitch_22 rfl (by omega) (by omega) (fun c22 => ?_) (fun c22 => ?_)
      · refine v_aload_n k_Mind_mendingPitch_67 rfl ?_
        refine v_getf fl_Mind_12 x0 rfl k_Mind_mendingPitch_68 ?_
        refine v_getf fl_Mind_58 x1.1 rfl k_Mind_mendingPitch_71 ?_
        refine v_iload_n k_Mind_mendingPitch_74 rfl ?_
        refine v_iload_n k_Mind_mendingPitch_75 rfl ?_
        refine v_callV mo_Tune_setPitch mi_Tune_setPitch mv_Tune_setPitch lk_Mind_73 k_Mind_mendingPitch_76 x1.2.1.1 rfl rfl (Nat.le_of_ble_eq_true rfl) rfl (Nat.le_of_ble_eq_true rfl) (c_Tune_setPitch G x1.2.1 (by omega)) (fun v76 h76 q76 => ?_)
        obtain ⟨rfl, nt, f2⟩ := q76
        have hx2 : pMind h76 m (setP (setP K n q) n (rget (kP K) n)) sg sd (M.map Prod.fst) (M.map Prod.snd) ms := ⟨f2.at x0 (by omega), ⟨f2.at x1.1 (by omega), nt, x1.2.2.1.fr f2 (by omega), x1.2.2.2.1.fr f2 (by omega), x1.2.2.2.2.1.fr f2 (by omega), x1.2.2.2.2.2.1.fr f2 (by omega), x1.2.2.2.2.2.2.fr f2 (by omega)⟩, x2.fr f2 (by omega), x3.fr f2 (by omega)⟩
        rw [setP_back] at hx2
        refine v_iload_n k_Mind_mendingPitch_79 rfl ?_
        refine v_ireturn k_Mind_mendingPitch_80 rfl rfl ?_
        refine ⟨?_, hx2, f1.tr f2 (by omega) (by omega)⟩
        rw [← ht]
        by_cases e : found = -9
        · rw [if_pos e, e]; rfl
        · rw [if_neg e]
      · exfalso; omega
    | succ k ih =>
      intro p found h1 q hk hf hx1 f1 ht
      obtain ⟨x0, x1, x2, x3⟩ := id hx1
      refine v_iload k_Mind_mendingPitch_18 rfl ?_
      refine v_bipush k_Mind_mendingPitch_20 (by decide) ?_
      refine v_icgt 67 k_Mind_mendingPitch_22 rfl (by omega) (by omega) (fun c22 => ?_) (fun c22 => ?_)
      · refine v_aload_n k_Mind_mendingPitch_67 rfl ?_
        refine v_getf fl_Mind_12 x0 rfl k_Mind_mendingPitch_68 ?_
        refine v_getf fl_Mind_58 x1.1 rfl k_Mind_mendingPitch_71 ?_
        refine v_iload_n k_Mind_mendingPitch_74 rfl ?_
        refine v_iload_n k_Mind_mendingPitch_75 rfl ?_
        refine v_callV mo_Tune_setPitch mi_Tune_setPitch mv_Tune_setPitch lk_Mind_73 k_Mind_mendingPitch_76 x1.2.1.1 rfl rfl (Nat.le_of_ble_eq_true rfl) rfl (Nat.le_of_ble_eq_true rfl) (c_Tune_setPitch G x1.2.1 (by omega)) (fun v76 h76 q76 => ?_)
        obtain ⟨rfl, nt, f2⟩ := q76
        have hx2 : pMind h76 m (setP (setP K n q) n (rget (kP K) n)) sg sd (M.map Prod.fst) (M.map Prod.snd) ms := ⟨f2.at x0 (by omega), ⟨f2.at x1.1 (by omega), nt, x1.2.2.1.fr f2 (by omega), x1.2.2.2.1.fr f2 (by omega), x1.2.2.2.2.1.fr f2 (by omega), x1.2.2.2.2.2.1.fr f2 (by omega), x1.2.2.2.2.2.2.fr f2 (by omega)⟩, x2.fr f2 (by omega), x3.fr f2 (by omega)⟩
        rw [setP_back] at hx2
        refine v_iload_n k_Mind_mendingPitch_79 rfl ?_
        refine v_ireturn k_Mind_mendingPitch_80 rfl rfl ?_
        refine ⟨?_, hx2, f1.tr f2 (by omega) (by omega)⟩
        rw [← ht]
        by_cases e : found = -9
        · exfalso; omega
        · rw [if_neg e]
      · refine v_iload_n k_Mind_mendingPitch_25 rfl ?_
        refine v_bipush k_Mind_mendingPitch_26 (by decide) ?_
        refine v_icne 67 k_Mind_mendingPitch_28 rfl (by omega) (by omega) (fun c28 => ?_) (fun c28 => ?_)
        · refine v_aload_n k_Mind_mendingPitch_67 rfl ?_
          refine v_getf fl_Mind_12 x0 rfl k_Mind_mendingPitch_68 ?_
          refine v_getf fl_Mind_58 x1.1 rfl k_Mind_mendingPitch_71 ?_
          refine v_iload_n k_Mind_mendingPitch_74 rfl ?_
          refine v_iload_n k_Mind_mendingPitch_75 rfl ?_
          refine v_callV mo_Tune_setPitch mi_Tune_setPitch mv_Tune_setPitch lk_Mind_73 k_Mind_mendingPitch_76 x1.2.1.1 rfl rfl (Nat.le_of_ble_eq_true rfl) rfl (Nat.le_of_ble_eq_true rfl) (c_Tune_setPitch G x1.2.1 (by omega)) (fun v76 h76 q76 => ?_)
          obtain ⟨rfl, nt, f2⟩ := q76
          have hx2 : pMind h76 m (setP (setP K n q) n (rget (kP K) n)) sg sd (M.map Prod.fst) (M.map Prod.snd) ms := ⟨f2.at x0 (by omega), ⟨f2.at x1.1 (by omega), nt, x1.2.2.1.fr f2 (by omega), x1.2.2.2.1.fr f2 (by omega), x1.2.2.2.2.1.fr f2 (by omega), x1.2.2.2.2.2.1.fr f2 (by omega), x1.2.2.2.2.2.2.fr f2 (by omega)⟩, x2.fr f2 (by omega), x3.fr f2 (by omega)⟩
          rw [setP_back] at hx2
          refine v_iload_n k_Mind_mendingPitch_79 rfl ?_
          refine v_ireturn k_Mind_mendingPitch_80 rfl rfl ?_
          refine ⟨?_, hx2, f1.tr f2 (by omega) (by omega)⟩
          rw [← ht]
          by_cases e : found = -9
          · exfalso; omega
          · rw [if_neg e]
        · refine v_aload_n k_Mind_mendingPitch_31 rfl ?_
          refine v_getf fl_Mind_12 x0 rfl k_Mind_mendingPitch_32 ?_
          refine v_getf fl_Mind_58 x1.1 rfl k_Mind_mendingPitch_35 ?_
          refine v_iload_n k_Mind_mendingPitch_38 rfl ?_
          refine v_iload k_Mind_mendingPitch_39 rfl ?_
          refine v_callV mo_Tune_setPitch mi_Tune_setPitch mv_Tune_setPitch lk_Mind_73 k_Mind_mendingPitch_41 x1.2.1.1 rfl rfl (Nat.le_of_ble_eq_true rfl) rfl (Nat.le_of_ble_eq_true rfl) (c_Tune_setPitch G x1.2.1 (by omega)) (fun v41 h41 q41 => ?_)
          obtain ⟨rfl, nt, f2⟩ := q41
          have hx2 : pMind h41 m (setP (setP K n q) n p) sg sd (M.map Prod.fst) (M.map Prod.snd) ms := ⟨f2.at x0 (by omega), ⟨f2.at x1.1 (by omega), nt, x1.2.2.1.fr f2 (by omega), x1.2.2.2.1.fr f2 (by omega), x1.2.2.2.2.1.fr f2 (by omega), x1.2.2.2.2.2.1.fr f2 (by omega), x1.2.2.2.2.2.2.fr f2 (by omega)⟩, x2.fr f2 (by omega), x3.fr f2 (by omega)⟩
          rw [setP_setP] at hx2
          obtain ⟨x0, x1, x2, x3⟩ := id hx2
          have w2 := w.setP (n := n) (x := (p : Int)) (by omega)
          refine v_aload_n k_Mind_mendingPitch_44 rfl ?_
          refine v_getf fl_Mind_21 x0 rfl k_Mind_mendingPitch_45 ?_
          refine v_aload_n k_Mind_mendingPitch_48 rfl ?_
          refine v_getf fl_Mind_12 x0 rfl k_Mind_mendingPitch_49 ?_
          refine v_callVr mo_Meetings_areWell mi_Meetings_areWell mv_Meetings_areWell lk_Mind_76 k_Mind_mendingPitch_52 x2.1 rfl rfl (Nat.le_of_ble_eq_true rfl) rfl (Nat.le_of_ble_eq_true rfl) (c_Meetings_areWell G x2 x1 w2 hb) ?_
          refine v_ifeq 61 k_Mind_mendingPitch_55 rfl (by split <;> decide) (fun c55 => ?_) (fun c55 => ?_)
          · rw [well_of r (evs_setP (n := n) (x := (p : Int)))] at c55
            refine v_iinc k_Mind_mendingPitch_61 rfl (Nat.le_of_ble_eq_true rfl) ?_
            refine v_goto k_Mind_mendingPitch_64 (tgt := 18) rfl ?_
            have hfnd : ¬ found ≠ -9 := c28
            rw [show mpF K n (k + 1) p = (if wellE (setP K n p) then (p : Int) else mpF K n k (p + 1)) from rfl] at ht
            by_cases hq : wellE (setP K n p) = true
            · first
                | (rw [if_pos hq] at c55; exact absurd c55 (by decide))
                | exact ih (p + 1) p h41 p (by omega) (by omega) hx2 (f1.tr f2 (by omega) (by omega)) (by rw [if_neg (show ¬ ((p : Int) = -9) by omega), ← ht, if_pos (show found = -9 by omega), if_pos hq])
            · first
                | (rw [if_neg hq] at c55; exact absurd rfl c55)
                | exact ih (p + 1) found h41 p (by omega) (by omega) hx2 (f1.tr f2 (by omega) (by omega)) (by rw [← ht, if_pos (show found = -9 by omega), if_pos (show found = -9 by omega), if_neg hq])
          · refine v_iload k_Mind_mendingPitch_58 rfl ?_
            refine v_istore_n k_Mind_mendingPitch_60 ⟨Nat.le_of_ble_eq_true rfl, Nat.le_of_ble_eq_true rfl⟩ ?_
            rw [well_of r (evs_setP (n := n) (x := (p : Int)))] at c55
            refine v_iinc k_Mind_mendingPitch_61 rfl (Nat.le_of_ble_eq_true rfl) ?_
            refine v_goto k_Mind_mendingPitch_64 (tgt := 18) rfl ?_
            have hfnd : ¬ found ≠ -9 := c28
            rw [show mpF K n (k + 1) p = (if wellE (setP K n p) then (p : Int) else mpF K n k (p + 1)) from rfl] at ht
            by_cases hq : wellE (setP K n p) = true
            · first
                | (rw [if_pos hq] at c55; exact absurd c55 (by decide))
                | exact ih (p + 1) p h41 p (by omega) (by omega) hx2 (f1.tr f2 (by omega) (by omega)) (by rw [if_neg (show ¬ ((p : Int) = -9) by omega), ← ht, if_pos (show found = -9 by omega), if_pos hq])
            · first
                | (rw [if_neg hq] at c55; exact absurd rfl c55)
                | exact ih (p + 1) found h41 p (by omega) (by omega) hx2 (f1.tr f2 (by omega) (by omega)) (by rw [← ht, if_pos (show found = -9 by omega), if_pos (show found = -9 by omega), if_neg hq])
  refine v_aload_n k_Mind_mendingPitch_0 rfl ?_
  refine v_getf fl_Mind_12 x0 rfl k_Mind_mendingPitch_1 ?_
  refine v_getf fl_Mind_58 x1.1 rfl k_Mind_mendingPitch_4 ?_
  refine v_iload_n k_Mind_mendingPitch_7 rfl ?_
  refine v_callVr mo_Tune_pitchOf mi_Tune_pitchOf mv_Tune_pitchOf lk_Mind_84 k_Mind_mendingPitch_8 x1.2.1.1 rfl rfl (Nat.le_of_ble_eq_true rfl) rfl (Nat.le_of_ble_eq_true rfl) (c_Tune_pitchOf G x1.2.1 (by omega)) ?_
  refine v_istore_n k_Mind_mendingPitch_11 ⟨Nat.le_of_ble_eq_true rfl, Nat.le_of_ble_eq_true rfl⟩ ?_
  refine v_bipush k_Mind_mendingPitch_12 (by decide) ?_
  refine v_istore_n k_Mind_mendingPitch_14 ⟨Nat.le_of_ble_eq_true rfl, Nat.le_of_ble_eq_true rfl⟩ ?_
  refine v_iconst k_Mind_mendingPitch_15 ?_
  refine v_istore k_Mind_mendingPitch_16 ⟨Nat.le_of_ble_eq_true rfl, Nat.le_of_ble_eq_true rfl⟩ ?_
  exact loop 10 0 (-9) h (rget (kP K) n) (by omega) (by omega) (by rw [setP_self]; exact hx) Fr.rf (by rw [if_pos rfl])
