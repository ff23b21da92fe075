def capOK (K : CK) : Prop := ∀ one other : Nat, one < other → other < (kK K).length → nw [] (evP K one other) ≤ 78
/-- bits of those below n that are so -/
def orb (f : Nat → Bool) : Nat → Nat
  | 0 => 0
  | n + 1 => if f n then orb f n ||| 2 ^ n else orb f n
def entOK (K : CK) (kd hh : Int) (e : Nat) : Bool := laB (addV K kd e hh) (q_stl (addV K kd e hh) (((kK (addV K kd e hh)).length : Int) - 1) - rget (kE (addV K kd e hh)) (((kK (addV K kd e hh)).length : Int) - 1)).toNat (rget (kE (addV K kd e hh)) (((kK (addV K kd e hh)).length : Int) - 1))
theorem setE_addV {K : CK} {kd a b hh : Int} (hl : (kE K).length = (kK K).length) : setE (addV K kd a hh) (kK K).length b = addV K kd b hh := by
  show (kP K, kL K, kK K ++ [kd], rset (kE K ++ [a]) ((kK K).length : Int) b, kH K ++ [hh], kR K, kS K, kW K) = (kP K, kL K, kK K ++ [kd], kE K ++ [b], kH K ++ [hh], kR K, kS K, kW K)
  rw [rset, if_pos (by rw [List.length_append, List.length_singleton]; omega), Int.toNat_natCast, ← hl, List.set_append_right _ _ (Nat.le_refl _), Nat.sub_self]
  rfl
theorem app_all {xs : List Int} {x : Int} {P : Int → Prop} (h : ∀ y ∈ xs, P y) (hx : P x) : ∀ y ∈ xs ++ [x], P y := by
  intro y hy
  rcases List.mem_append.mp hy with h1 | h1
  · exact h y h1
  · rw [List.mem_singleton.mp h1]; exact hx
theorem vK.addV {K : CK} {N V : Nat} (w : vK K N V) {kd e hh : Int} (h1 : 0 ≤ kd ∧ kd ≤ 5) (h2 : 0 ≤ e ∧ e ≤ 60) (h3 : 0 ≤ hh ∧ hh ≤ 9) : vK (addV K kd e hh) N (V + 1) := by
  obtain ⟨a1, a2, a3, a4, a5, a6, a7, a8, a9, a10, a11, a12⟩ := w
  refine ⟨a1, a2, a3, a4, a5, ?_, ?_, ?_, app_all a9 h1, app_all a10 h2, app_all a11 h3, a12⟩
  · show (kK K ++ [kd]).length ≤ V + 1; rw [List.length_append, List.length_singleton]; omega
  · show (kE K ++ [e]).length = (kK K ++ [kd]).length; rw [List.length_append, List.length_append]; simp only [List.length_singleton]; omega
  · show (kH K ++ [hh]).length = (kK K ++ [kd]).length; rw [List.length_append, List.length_append]; simp only [List.length_singleton]; omega
theorem vK.addN {K : CK} {V : Nat} (w : vK K 12 V) {p l : Int} (h1 : 0 ≤ p ∧ p ≤ 9) (h2 : l = 1) : vK (addN K p l) 13 V := by
  have hb := bt_le w
  subst h2
  obtain ⟨a1, a2, a3, a4, a5, a6⟩ := w
  refine ⟨?_, ?_, app_all a3 h1, app_all a4 (by decide), ?_, a6⟩
  · show (kP K ++ [p]).length = (kL K ++ [1]).length; rw [List.length_append, List.length_append]; simp only [List.length_singleton]; omega
  · show (kP K ++ [p]).length ≤ 13; rw [List.length_append, List.length_singleton]; omega
  · show (nob (kL K ++ [1])).length ≤ 37
    rw [nob_snoc, List.length_append, List.length_replicate]
    have : (nob (kL K)).length = bt K := rfl
    omega
/-- less least -/
def bsP (K : CK) (n : Int) : Nat → Nat → Int → Int
  | 0, _, acc => acc
  | k + 1, p, acc => bsP K n k (p + 1) (min acc (illsE (setP K n p)))
def bsN (K : CK) : Nat → Nat → Int → Int
  | 0, _, acc => acc
  | k + 1, n, acc => bsN K k (n + 1) (bsP K n 10 0 acc)
/-- draws -/
def zst (z : Int) : Int := z * 1664525 + 1013904223
def pz (z : Int) : Int := z % 2147483648 / 256 % 10
def drwL : Nat → Int → List Int
  | 0, _ => []
  | k + 1, z => pz (zst z) :: drwL k (zst z)
def drwZ : Nat → Int → Int
  | 0, z => z
  | k + 1, z => drwZ k (zst z)
def setPs (K : CK) (l : List Int) : CK := (l, kL K, kK K, kE K, kH K, kR K, kS K, kW K)
theorem evs_setPs {K : CK} {l : List Int} : evs (setPs K l) = evs K := evA_eq (K := K) (K' := setPs K l) (fun a b => evB_eq (K := K) (K' := setPs K l) (fun _ _ _ => rfl) a b _ _) rfl _ _
def wdF (K : CK) : Nat → Int → Int → Int
  | 0, _, acc => acc
  | k + 1, z, acc => wdF K k (drwZ (kP K).length z) (acc + if wellE (setPs K (drwL (kP K).length z)) then 1 else 0)
theorem pz_bd (z : Int) : 0 ≤ pz z ∧ pz z ≤ 9 := by
  have h1 := emd z 2147483648 (by decide)
  have h2 := emd (z % 2147483648 / 256) 10 (by decide)
  unfold pz
  omega
theorem drwL_len : ∀ (k : Nat) (z : Int), (drwL k z).length = k
  | 0, _ => rfl
  | k + 1, z => by simp only [drwL, List.length_cons]; rw [drwL_len]
theorem drwL_bd : ∀ (k : Nat) (z : Int), ∀ x ∈ drwL k z, 0 ≤ x ∧ x ≤ 9
  | 0, _, x, h => by simp [drwL] at h
  | k + 1, z, x, h => by
    simp only [drwL, List.mem_cons] at h
    rcases h with h | h
    · rw [h]; exact pz_bd _
    · exact drwL_bd k _ x h
theorem rset_mid {a r : List Int} {y x : Int} {i : Nat} (hi : a.length = i) : rset (a ++ y :: r) i x = (a ++ [x]) ++ r := by
  rw [rset, if_pos (by rw [List.length_append, List.length_cons]; omega), Int.toNat_natCast, ← hi, List.set_append_right _ _ (Nat.le_refl _), Nat.sub_self, List.append_assoc]
  rfl
theorem vK.setPs {K : CK} {N V : Nat} (w : vK K N V) {l : List Int} (hl : l.length = (kP K).length) (hb : ∀ x ∈ l, 0 ≤ x ∧ x ≤ 9) : vK (setPs K l) N V :=
  ⟨by show l.length = (kL K).length; rw [hl]; exact w.1, by show l.length ≤ N; rw [hl]; exact w.2.1, hb, w.2.2.2⟩
def pMindX (h : AH) (m : Nat) : Prop := ∃ K sg sd ws ts ms, pMind h m K sg sd ws ts ms
theorem pMindX.fr {h h' : AH} {m lo hi : Nat} (p : pMindX h m) (f : Fr lo hi h h') (ha : m + 26 ≤ lo ∨ hi ≤ m) : pMindX h' m := by
  obtain ⟨K, sg, sd, ws, ts, ms, q⟩ := p
  exact ⟨K, sg, sd, ws, ts, ms, q.fr f ha⟩
/-- whether two notes can mend all; the least number of changes; the first change -/
def mendOK (K : CK) (ms : List Int) : Prop := mdP K (kP K).length (evs K) ms
theorem mdP_E {K : CK} {n : Nat} {E E' ms : List Int} (h : mdP K n E ms) (he : ∀ x, x ∈ E ↔ x ∈ E') : mdP K n E' ms := by
  refine ⟨h.1, h.2.1, fun one other h1 h2 => ?_⟩
  rw [h.2.2 one other h1 h2]
  apply Bool.eq_iff_iff.mpr
  rw [List.all_eq_true, List.all_eq_true]
  exact ⟨fun q x hx => q x ((he x).mpr hx), fun q x hx => q x ((he x).mp hx)⟩
theorem ex_md (K : CK) : ∃ ms, mendOK K ms := by
  have go : ∀ E : List Int, ∀ D : List Int, (∃ ms, mdP K (kP K).length D ms) → ∃ ms, mdP K (kP K).length (D ++ E) ms := by
    intro E
    induction E with
    | nil => intro D h; rw [List.append_nil]; exact h
    | cons x t ih =>
      intro D ⟨ms, h⟩
      have e : D ++ x :: t = (D ++ [x]) ++ t := by simp
      rw [e]
      refine ih _ ?_
      cases hi : illW K x with
      | true => exact ⟨_, mdP_ill h hi⟩
      | false => exact ⟨_, mdP_well h hi⟩
  have := go (evs K) [] ⟨_, mdP_rep K _⟩
  rwa [List.nil_append] at this
theorem fsF_bd (K : CK) (ms : List Int) : ∀ (k n : Nat), -9 ≤ fsF K ms k n ∧ fsF K ms k n ≤ 10 * (n + k : Nat) + 9
  | 0, n => by simp only [fsF]; omega
  | k + 1, n => by
    have h1 := fsF_bd K ms k (n + 1)
    have h2 := mpF_bd K n 10 0
    simp only [fsF]
    split
    · omega
    · split <;> omega
set_option maxHeartbeats 4000000 in
set_option maxRecDepth 20000 in
theorem c_Mind_fewestChanges (G : Gx) {h : AH} {m t : Nat} (hX : pMindX h m) {K : CK} {sg2 sd2 : List Int} (hp : pCanon h t K sg2 sd2) (w : vK K 12 6) (hd : m + 26 ≤ t ∨ t + 18 ≤ m) (hcap : capOK K) : Ct G Y_Mind_fewestChanges 7 0 0 [aR m, aR t] h (fun v h' => (∃ ms', mendOK K ms' ∧ v = some (aI (if wellE K then 0 else if fsF K ms' (kP K).length 0 = -9 then (if hpN K ms' (kP K).length 0 then 2 else -9) else 1))) ∧ pMindX h' m ∧ Fr m (m + 26) h h') := by
  obtain ⟨K9, sg, sd, ws, ts, ms, hx⟩ := id hX
  obtain ⟨x0, x1, x2, x3⟩ := id hx
  have w7 : wK K := w.up (by decide) (by decide)
  have h12 : (kP K).length ≤ 12 := w.2.1
  have h6 : (kK K).length ≤ 6 := w.2.2.2.2.2.1
  obtain ⟨ms9, hms9⟩ := ex_md K
  refine Ct.of_V mo_Mind_fewestChanges rfl (Nat.le_of_ble_eq_true rfl) rfl ?_
  refine v_aload_n k_Mind_fewestChanges_0 rfl ?_
  refine v_aload_n k_Mind_fewestChanges_1 rfl ?_
  refine v_callV mo_Mind_take mi_Mind_take mv_Mind_take lk_Mind_38 k_Mind_fewestChanges_2 x0 rfl rfl (Nat.le_of_ble_eq_true rfl) rfl (Nat.le_of_ble_eq_true rfl) (c_Mind_take G hx hp hd) (fun v2 h2 q2 => ?_)
  obtain ⟨rfl, hx, f1⟩ := q2
  have f1 := f1.wd (lo := m) (hi := m + 26) (by omega) (by omega)
  obtain ⟨x0, x1, x2, x3⟩ := id hx
  refine v_pop k_Mind_fewestChanges_5 rfl ?_
  refine v_aload_n k_Mind_fewestChanges_6 rfl ?_
  refine v_getf fl_Mind_21 x0 rfl k_Mind_fewestChanges_7 ?_
  refine v_aload_n k_Mind_fewestChanges_10 rfl ?_
  refine v_getf fl_Mind_12 x0 rfl k_Mind_fewestChanges_11 ?_
  refine v_callV mo_Meetings_gather mi_Meetings_gather mv_Meetings_gather lk_Mind_70 k_Mind_fewestChanges_14 x2.1 rfl rfl (Nat.le_of_ble_eq_true rfl) rfl (Nat.le_of_ble_eq_true rfl) (c_Meetings_gather G x2 x1 w7 h6 (by omega) hcap) (fun v14 h14 q14 => ?_)
  obtain ⟨rfl, M, n2, f2, r, hb⟩ := q14
  have hx : pMind h14 m K sg sd (M.map Prod.fst) (M.map Prod.snd) ms := ⟨f2.at x0 (by omega), x1.fr f2 (by omega), n2, x3.fr f2 (by omega)⟩
  have f1 := f1.tr f2 (by omega) (by omega)
  obtain ⟨x0, x1, x2, x3⟩ := id hx
  refine v_aload_n k_Mind_fewestChanges_17 rfl ?_
  refine v_getf fl_Mind_21 x0 rfl k_Mind_fewestChanges_18 ?_
  refine v_aload_n k_Mind_fewestChanges_21 rfl ?_
  refine v_getf fl_Mind_12 x0 rfl k_Mind_fewestChanges_22 ?_
  refine v_callVr mo_Meetings_areWell mi_Meetings_areWell mv_Meetings_areWell lk_Mind_76 k_Mind_fewestChanges_25 x2.1 rfl rfl (Nat.le_of_ble_eq_true rfl) rfl (Nat.le_of_ble_eq_true rfl) (c_Meetings_areWell G x2 x1 w7 hb) ?_
  refine v_ifeq 33 k_Mind_fewestChanges_28 rfl (by split <;> decide) (fun c28 => ?_) (fun c28 => ?_)
  · refine v_aload_n k_Mind_fewestChanges_33 rfl ?_
    refine v_callV mo_Mind_findMends mi_Mind_findMends mv_Mind_findMends lk_Mind_97 k_Mind_fewestChanges_34 x0 rfl rfl (Nat.le_of_ble_eq_true rfl) rfl (Nat.le_of_ble_eq_true rfl) (c_Mind_findMends G hx w7 h12 hb) (fun v34 h34 q34 => ?_)
    obtain ⟨rfl, ms2, hx, f2, hmd⟩ := q34
    have f1 := f1.tr f2 (by omega) (by omega)
    obtain ⟨x0, x1, x2, x3⟩ := id hx
    have hmo : mendOK K ms2 := mdP_E hmd r.2
    refine v_aload_n k_Mind_fewestChanges_37 rfl ?_
    refine v_callV mo_Mind_firstSingle mi_Mind_firstSingle mv_Mind_firstSingle lk_Mind_100 k_Mind_fewestChanges_38 x0 rfl rfl (Nat.le_of_ble_eq_true rfl) rfl (Nat.le_of_ble_eq_true rfl) (c_Mind_firstSingle G hx r w7 hb h12 hmd.2.1) (fun v38 h38 q38 => ?_)
    obtain ⟨rfl, hx, f2⟩ := q38
    have f1 := f1.tr f2 (by omega) (by omega)
    obtain ⟨x0, x1, x2, x3⟩ := id hx
    refine v_bipush k_Mind_fewestChanges_41 (by decide) ?_
    refine v_iceq 48 k_Mind_fewestChanges_43 rfl (by have := fsF_bd K ms2 (kP K).length 0; omega) (by have := fsF_bd K ms2 (kP K).length 0; omega) (fun c43 => ?_) (fun c43 => ?_)
    · refine v_aload_n k_Mind_fewestChanges_48 rfl ?_
      refine v_callV mo_Mind_hasPair mi_Mind_hasPair mv_Mind_hasPair lk_Mind_103 k_Mind_fewestChanges_49 x0 rfl rfl (Nat.le_of_ble_eq_true rfl) rfl (Nat.le_of_ble_eq_true rfl) (c_Mind_hasPair G hx r w7 hb h12 hmd.2.1) (fun v49 h49 q49 => ?_)
      obtain ⟨rfl, ⟨K8, hx⟩, f2⟩ := q49
      have f1 := f1.tr f2 (by omega) (by omega)
      obtain ⟨x0, x1, x2, x3⟩ := id hx
      refine v_ifeq 59 k_Mind_fewestChanges_52 rfl (by split <;> decide) (fun c52 => ?_) (fun c52 => ?_)
      · refine v_bipush k_Mind_fewestChanges_59 (by decide) ?_
        refine v_ireturn k_Mind_fewestChanges_61 rfl rfl ?_
        rw [well_of r rfl] at c28
        have hW : wellE K = false := by
          cases hq : wellE K with
          | true => first | rfl | (rw [hq] at c28; exact absurd c28 (by decide))
          | false => first | rfl | (rw [hq] at c28; exact absurd rfl c28)
        refine ⟨⟨ms2, hmo, ?_⟩, ⟨_, _, _, _, _, _, hx⟩, f1⟩
        rw [hW, if_neg (by decide), if_pos (by omega)]
        by_cases hq : hpN K ms2 (kP K).length 0 = true
        · rw [if_pos hq] at c52
          first
            | exact absurd c52 (by decide)
            | rw [if_pos hq]
        · rw [if_neg hq] at c52
          first
            | exact absurd rfl c52
            | rw [if_neg hq]
      · refine v_iconst k_Mind_fewestChanges_55 ?_
        refine v_goto k_Mind_fewestChanges_56 (tgt := 61) rfl ?_
        refine v_ireturn k_Mind_fewestChanges_61 rfl rfl ?_
        rw [well_of r rfl] at c28
        have hW : wellE K = false := by
          cases hq : wellE K with
          | true => first | rfl | (rw [hq] at c28; exact absurd c28 (by decide))
          | false => first | rfl | (rw [hq] at c28; exact absurd rfl c28)
        refine ⟨⟨ms2, hmo, ?_⟩, ⟨_, _, _, _, _, _, hx⟩, f1⟩
        rw [hW, if_neg (by decide), if_pos (by omega)]
        by_cases hq : hpN K ms2 (kP K).length 0 = true
        · rw [if_pos hq] at c52
          first
            | exact absurd c52 (by decide)
            | rw [if_pos hq]
        · rw [if_neg hq] at c52
          first
            | exact absurd rfl c52
            | rw [if_neg hq]
    · refine v_iconst k_Mind_fewestChanges_46 ?_
      refine v_ireturn k_Mind_fewestChanges_47 rfl rfl ?_
      rw [well_of r rfl] at c28
      have hW : wellE K = false := by
        cases hq : wellE K with
        | true => first | rfl | (rw [hq] at c28; exact absurd c28 (by decide))
        | false => first | rfl | (rw [hq] at c28; exact absurd rfl c28)
      exact ⟨⟨ms2, hmo, by rw [hW, if_neg (by decide), if_neg c43]⟩, ⟨_, _, _, _, _, _, hx⟩, f1⟩
  · refine v_iconst k_Mind_fewestChanges_31 ?_
    refine v_ireturn k_Mind_fewestChanges_32 rfl rfl ?_
    rw [well_of r rfl] at c28
    have hW : wellE K = true := by
      cases hq : wellE K with
      | true => first | rfl | (rw [hq] at c28; exact absurd c28 (by decide))
      | false => first | rfl | (rw [hq] at c28; exact absurd rfl c28)
    exact ⟨⟨ms9, hms9, by rw [if_pos hW]⟩, ⟨_, _, _, _, _, _, hx⟩, f1⟩

set_option maxHeartbeats 4000000 in
set_option maxRecDepth 20000 in
theorem c_Mind_firstChange (G : Gx) {h : AH} {m t : Nat} (hX : pMindX h m) {K : CK} {sg2 sd2 : List Int} (hp : pCanon h t K sg2 sd2) (w : vK K 12 6) (hd : m + 26 ≤ t ∨ t + 18 ≤ m) (hcap : capOK K) : Ct G Y_Mind_firstChange 7 0 0 [aR m, aR t] h (fun v h' => (∃ ms', mendOK K ms' ∧ v = some (aI (if wellE K then -9 else fsF K ms' (kP K).length 0))) ∧ pMindX h' m ∧ Fr m (m + 26) h h') := by
  obtain ⟨K9, sg, sd, ws, ts, ms, hx⟩ := id hX
  obtain ⟨x0, x1, x2, x3⟩ := id hx
  have w7 : wK K := w.up (by decide) (by decide)
  have h12 : (kP K).length ≤ 12 := w.2.1
  have h6 : (kK K).length ≤ 6 := w.2.2.2.2.2.1
  obtain ⟨ms9, hms9⟩ := ex_md K
  refine Ct.of_V mo_Mind_firstChange rfl (Nat.le_of_ble_eq_true rfl) rfl ?_
  refine v_aload_n k_Mind_firstChange_0 rfl ?_
  refine v_aload_n k_Mind_firstChange_1 rfl ?_
  refine v_callV mo_Mind_take mi_Mind_take mv_Mind_take lk_Mind_38 k_Mind_firstChange_2 x0 rfl rfl (Nat.le_of_ble_eq_true rfl) rfl (Nat.le_of_ble_eq_true rfl) (c_Mind_take G hx hp hd) (fun v2 h2 q2 => ?_)
  obtain ⟨rfl, hx, f1⟩ := q2
  have f1 := f1.wd (lo := m) (hi := m + 26) (by omega) (by omega)
  obtain ⟨x0, x1, x2, x3⟩ := id hx
  refine v_pop k_Mind_firstChange_5 rfl ?_
  refine v_aload_n k_Mind_firstChange_6 rfl ?_
  refine v_getf fl_Mind_21 x0 rfl k_Mind_firstChange_7 ?_
  refine v_aload_n k_Mind_firstChange_10 rfl ?_
  refine v_getf fl_Mind_12 x0 rfl k_Mind_firstChange_11 ?_
  refine v_callV mo_Meetings_gather mi_Meetings_gather mv_Meetings_gather lk_Mind_70 k_Mind_firstChange_14 x2.1 rfl rfl (Nat.le_of_ble_eq_true rfl) rfl (Nat.le_of_ble_eq_true rfl) (c_Meetings_gather G x2 x1 w7 h6 (by omega) hcap) (fun v14 h14 q14 => ?_)
  obtain ⟨rfl, M, n2, f2, r, hb⟩ := q14
  have hx : pMind h14 m K sg sd (M.map Prod.fst) (M.map Prod.snd) ms := ⟨f2.at x0 (by omega), x1.fr f2 (by omega), n2, x3.fr f2 (by omega)⟩
  have f1 := f1.tr f2 (by omega) (by omega)
  obtain ⟨x0, x1, x2, x3⟩ := id hx
  refine v_aload_n k_Mind_firstChange_17 rfl ?_
  refine v_getf fl_Mind_21 x0 rfl k_Mind_firstChange_18 ?_
  refine v_aload_n k_Mind_firstChange_21 rfl ?_
  refine v_getf fl_Mind_12 x0 rfl k_Mind_firstChange_22 ?_
  refine v_callVr mo_Meetings_areWell mi_Meetings_areWell mv_Meetings_areWell lk_Mind_76 k_Mind_firstChange_25 x2.1 rfl rfl (Nat.le_of_ble_eq_true rfl) rfl (Nat.le_of_ble_eq_true rfl) (c_Meetings_areWell G x2 x1 w7 hb) ?_
  refine v_ifeq 34 k_Mind_firstChange_28 rfl (by split <;> decide) (fun c28 => ?_) (fun c28 => ?_)
  · refine v_aload_n k_Mind_firstChange_34 rfl ?_
    refine v_callV mo_Mind_findMends mi_Mind_findMends mv_Mind_findMends lk_Mind_97 k_Mind_firstChange_35 x0 rfl rfl (Nat.le_of_ble_eq_true rfl) rfl (Nat.le_of_ble_eq_true rfl) (c_Mind_findMends G hx w7 h12 hb) (fun v35 h35 q35 => ?_)
    obtain ⟨rfl, ms2, hx, f2, hmd⟩ := q35
    have f1 := f1.tr f2 (by omega) (by omega)
    obtain ⟨x0, x1, x2, x3⟩ := id hx
    have hmo : mendOK K ms2 := mdP_E hmd r.2
    refine v_aload_n k_Mind_firstChange_38 rfl ?_
    refine v_callV mo_Mind_firstSingle mi_Mind_firstSingle mv_Mind_firstSingle lk_Mind_100 k_Mind_firstChange_39 x0 rfl rfl (Nat.le_of_ble_eq_true rfl) rfl (Nat.le_of_ble_eq_true rfl) (c_Mind_firstSingle G hx r w7 hb h12 hmd.2.1) (fun v39 h39 q39 => ?_)
    obtain ⟨rfl, hx, f2⟩ := q39
    have f1 := f1.tr f2 (by omega) (by omega)
    obtain ⟨x0, x1, x2, x3⟩ := id hx
    refine v_ireturn k_Mind_firstChange_42 rfl rfl ?_
    rw [well_of r rfl] at c28
    have hW : wellE K = false := by
      cases hq : wellE K with
      | true => first | rfl | (rw [hq] at c28; exact absurd c28 (by decide))
      | false => first | rfl | (rw [hq] at c28; exact absurd rfl c28)
    exact ⟨⟨ms2, hmo, by rw [hW, if_neg (by decide)]⟩, ⟨_, _, _, _, _, _, hx⟩, f1⟩
  · refine v_bipush k_Mind_firstChange_31 (by decide) ?_
    refine v_ireturn k_Mind_firstChange_33 rfl rfl ?_
    rw [well_of r rfl] at c28
    have hW : wellE K = true := by
      cases hq : wellE K with
      | true => first | rfl | (rw [hq] at c28; exact absurd c28 (by decide))
      | false => first | rfl | (rw [hq] at c28; exact absurd rfl c28)
    exact ⟨⟨ms9, hms9, by rw [if_pos hW]⟩, ⟨_, _, _, _, _, _, hx⟩, f1⟩

set_option maxHeartbeats 4000000 in
set_option maxRecDepth 20000 in
theorem c_Mind_agreeingEntries (G : Gx) {h : AH} {m t : Nat} (hX : pMindX h m) {K : CK} {sg2 sd2 : List Int} (hp : pCanon h t K sg2 sd2) (w : vK K 12 6) (hd : m + 26 ≤ t ∨ t + 18 ≤ m) {kd hh : Int} (hkd : 0 ≤ kd ∧ kd ≤ 5) (hhh : 0 ≤ hh ∧ hh ≤ 9) : Ct G Y_Mind_agreeingEntries 7 0 0 [aR m, aR t, aI kd, aI hh] h (fun v h' => v = some (aI (orb (entOK K kd hh) 31 : Nat)) ∧ pMindX h' m ∧ Fr m (m + 26) h h') := by
  obtain ⟨K9, sg, sd, ws, ts, ms, hx⟩ := id hX
  obtain ⟨x0, x1, x2, x3⟩ := id hx
  have w7 : wK K := w.up (by decide) (by decide)
  have h12 : (kP K).length ≤ 12 := w.2.1
  have h6 : (kK K).length ≤ 6 := w.2.2.2.2.2.1
  have hke : (kE K).length = (kK K).length := w.2.2.2.2.2.2.1
  have hkh : (kH K).length = (kK K).length := w.2.2.2.2.2.2.2.1
  have hkl : ∀ ee : Int, (kK (addV K kd ee hh)).length = (kK K).length + 1 := fun ee => by show (kK K ++ [kd]).length = _; rw [List.length_append]; rfl
  refine Ct.of_V mo_Mind_agreeingEntries rfl (Nat.le_of_ble_eq_true rfl) rfl ?_
  have loop : ∀ (k : Nat) (i : Nat) (h1 : AH) (ee : Int) (sg1 sd1 : List Int), (31 < i + k) → (i ≤ 31) → (0 ≤ ee ∧ ee ≤ 60) → (pMind h1 m (addV K kd ee hh) sg1 sd1 ws ts ms) → (Fr m (m + 26) h h1) → V G Y_Mind_agreeingEntries 7 0 0 31 [some (aR m), some (aR t), some (aI kd), some (aI hh), some (aI (kK K).length), some (aI (orb (entOK K kd hh) i : Nat)), some (aI i)] [] h1 (fun v h' => v = some (aI (orb (entOK K kd hh) 31 : Nat)) ∧ pMindX h' m ∧ Fr m (m + 26) h h') := by
    intro k
    induction k with
    | zero => intro i h1 ee sg1 sd1 hk hi hee hx1 f1; exfalso; omega
    | succ k ih =>
      intro i h1 ee sg1 sd1 hk hi hee hx1 f1
      obtain ⟨x0, x1, x2, x3⟩ := id hx1
      refine v_iload k_Mind_agreeingEntries_31 rfl ?_
      refine v_bipush k_Mind_agreeingEntries_33 (by decide) ?_
      refine v_icge 74 k_Mind_agreeingEntries_35 rfl (by omega) (by omega) (fun c35 => ?_) (fun c35 => ?_)
      · refine v_iload k_Mind_agreeingEntries_74 rfl ?_
        refine v_ireturn k_Mind_agreeingEntries_76 rfl rfl ?_
        have e : i = 31 := by omega
        subst e
        exact ⟨rfl, ⟨_, _, _, _, _, _, hx1⟩, f1⟩
      · refine v_aload_n k_Mind_agreeingEntries_38 rfl ?_
        refine v_getf fl_Mind_12 x0 rfl k_Mind_agreeingEntries_39 ?_
        refine v_iload k_Mind_agreeingEntries_42 rfl ?_
        refine v_iload k_Mind_agreeingEntries_44 rfl ?_
        refine v_callV mo_Canon_setEntry mi_Canon_setEntry mv_Canon_setEntry lk_Mind_50 k_Mind_agreeingEntries_46 x1.1 rfl rfl (Nat.le_of_ble_eq_true rfl) rfl (Nat.le_of_ble_eq_true rfl) (c_Canon_setEntry G x1 (by omega)) (fun v46 h46 q46 => ?_)
        obtain ⟨rfl, nc, f2⟩ := q46
        rw [setE_addV hke] at nc
        have w8 : wK (addV K kd i hh) := (w.addV hkd (by omega) hhh).up (by decide) (by decide)
        have hx2 : pMind h46 m (addV K kd i hh) sg1 sd1 ws ts ms := ⟨f2.at x0 (by omega), nc, x2.fr f2 (by omega), x3.fr f2 (by omega)⟩
        obtain ⟨x0, x1, x2, x3⟩ := id hx2
        refine v_aload_n k_Mind_agreeingEntries_49 rfl ?_
        refine v_getf fl_Mind_12 x0 rfl k_Mind_agreeingEntries_50 ?_
        refine v_callV mo_Canon_lastAgreesWithAll mi_Canon_lastAgreesWithAll mv_Canon_lastAgreesWithAll lk_Mind_54 k_Mind_agreeingEntries_53 x1.1 rfl rfl (Nat.le_of_ble_eq_true rfl) rfl (Nat.le_of_ble_eq_true rfl) (c_Canon_lastAgreesWithAll G x1 w8 (by rw [hkl]; omega)) (fun v53 h53 q53 => ?_)
        obtain ⟨rfl, sg3, sd3, nc3, f3⟩ := q53
        have hx3 : pMind h53 m (addV K kd i hh) sg3 sd3 ws ts ms := ⟨f3.at x0 (by omega), nc3, x2.fr f3 (by omega), x3.fr f3 (by omega)⟩
        have f4 := (f1.tr f2 (by omega) (by omega)).tr f3 (by omega) (by omega)
        refine v_ifeq 68 k_Mind_agreeingEntries_56 rfl (by split <;> decide) (fun c56 => ?_) (fun c56 => ?_)
        · refine v_iinc k_Mind_agreeingEntries_68 rfl (Nat.le_of_ble_eq_true rfl) ?_
          refine v_goto k_Mind_agreeingEntries_71 (tgt := 31) rfl ?_
          have e : orb (entOK K kd hh) (i + 1) = if entOK K kd hh i then orb (entOK K kd hh) i ||| 2 ^ i else orb (entOK K kd hh) i := rfl
          have st := ih (i + 1) h53 i sg3 sd3 (by omega) (by omega) (by omega) hx3 f4
          rw [e] at st
          rw [show laB _ _ _ = entOK K kd hh i from rfl] at c56
          by_cases hq : entOK K kd hh i = true
          · rw [if_pos hq] at c56 st
            first
              | exact st
              | exact absurd c56 (by decide)
          · rw [if_neg hq] at c56 st
            first
              | exact st
              | exact absurd rfl c56
        · refine v_iload k_Mind_agreeingEntries_59 rfl ?_
          refine v_iconst k_Mind_agreeingEntries_61 ?_
          refine v_iload k_Mind_agreeingEntries_62 rfl ?_
          refine v_bit k_Mind_agreeingEntries_64 (by omega) ?_
          rw [Int.toNat_natCast]
          refine v_iorN k_Mind_agreeingEntries_65 ?_
          refine v_istore k_Mind_agreeingEntries_66 ⟨Nat.le_of_ble_eq_true rfl, Nat.le_of_ble_eq_true rfl⟩ ?_
          refine v_iinc k_Mind_agreeingEntries_68 rfl (Nat.le_of_ble_eq_true rfl) ?_
          refine v_goto k_Mind_agreeingEntries_71 (tgt := 31) rfl ?_
          have e : orb (entOK K kd hh) (i + 1) = if entOK K kd hh i then orb (entOK K kd hh) i ||| 2 ^ i else orb (entOK K kd hh) i := rfl
          have st := ih (i + 1) h53 i sg3 sd3 (by omega) (by omega) (by omega) hx3 f4
          rw [e] at st
          rw [show laB _ _ _ = entOK K kd hh i from rfl] at c56
          by_cases hq : entOK K kd hh i = true
          · rw [if_pos hq] at c56 st
            first
              | exact st
              | exact absurd c56 (by decide)
          · rw [if_neg hq] at c56 st
            first
              | exact st
              | exact absurd rfl c56
  refine v_aload_n k_Mind_agreeingEntries_0 rfl ?_
  refine v_aload_n k_Mind_agreeingEntries_1 rfl ?_
  refine v_callV mo_Mind_take mi_Mind_take mv_Mind_take lk_Mind_38 k_Mind_agreeingEntries_2 x0 rfl rfl (Nat.le_of_ble_eq_true rfl) rfl (Nat.le_of_ble_eq_true rfl) (c_Mind_take G hx hp hd) (fun v2 h2 q2 => ?_)
  obtain ⟨rfl, hx, f1⟩ := q2
  have f1 := f1.wd (lo := m) (hi := m + 26) (by omega) (by omega)
  obtain ⟨x0, x1, x2, x3⟩ := id hx
  refine v_pop k_Mind_agreeingEntries_5 rfl ?_
  refine v_aload_n k_Mind_agreeingEntries_6 rfl ?_
  refine v_getf fl_Mind_12 x0 rfl k_Mind_agreeingEntries_7 ?_
  refine v_callVr mo_Canon_voices mi_Canon_voices mv_Canon_voices lk_Mind_42 k_Mind_agreeingEntries_10 x1.1 rfl rfl (Nat.le_of_ble_eq_true rfl) rfl (Nat.le_of_ble_eq_true rfl) (c_Canon_voices G x1) ?_
  refine v_istore k_Mind_agreeingEntries_13 ⟨Nat.le_of_ble_eq_true rfl, Nat.le_of_ble_eq_true rfl⟩ ?_
  refine v_aload_n k_Mind_agreeingEntries_15 rfl ?_
  refine v_getf fl_Mind_12 x0 rfl k_Mind_agreeingEntries_16 ?_
  refine v_iload_n k_Mind_agreeingEntries_19 rfl ?_
  refine v_iconst k_Mind_agreeingEntries_20 ?_
  refine v_iload_n k_Mind_agreeingEntries_21 rfl ?_
  refine v_callV mo_Canon_addVoice mi_Canon_addVoice mv_Canon_addVoice lk_Mind_46 k_Mind_agreeingEntries_22 x1.1 rfl rfl (Nat.le_of_ble_eq_true rfl) rfl (Nat.le_of_ble_eq_true rfl) (c_Canon_addVoice G x1 (k := kd) (e := 0) (hh := hh) (by omega) hke hkh) (fun v22 h22 q22 => ?_)
  obtain ⟨rfl, nc, f2⟩ := q22
  have hx : pMind h22 m (addV K kd 0 hh) sg sd ws ts ms := ⟨f2.at x0 (by omega), nc, x2.fr f2 (by omega), x3.fr f2 (by omega)⟩
  have f1 := f1.tr f2 (by omega) (by omega)
  refine v_iconst k_Mind_agreeingEntries_25 ?_
  refine v_istore k_Mind_agreeingEntries_26 ⟨Nat.le_of_ble_eq_true rfl, Nat.le_of_ble_eq_true rfl⟩ ?_
  refine v_iconst k_Mind_agreeingEntries_28 ?_
  refine v_istore k_Mind_agreeingEntries_29 ⟨Nat.le_of_ble_eq_true rfl, Nat.le_of_ble_eq_true rfl⟩ ?_
  exact loop 32 0 h22 0 sg sd (by omega) (by omega) (by omega) hx f1

theorem rget_last {xs : List Int} {x : Int} : rget (xs ++ [x]) xs.length = x := by
  rw [rget, if_pos (by rw [List.length_append, List.length_singleton]; omega), Int.toNat_natCast, List.getD_eq_getElem?_getD, List.getElem?_append_right (Nat.le_refl _), Nat.sub_self]
  rfl
set_option maxHeartbeats 4000000 in
set_option maxRecDepth 20000 in
theorem c_Mind_addablePitches (G : Gx) {h : AH} {m t : Nat} (hX : pMindX h m) {K : CK} {sg2 sd2 : List Int} (hp : pCanon h t K sg2 sd2) (w : vK K 12 6) (hd : m + 26 ≤ t ∨ t + 18 ≤ m) (hcap : capOK (addN K 0 1)) : Ct G Y_Mind_addablePitches 7 0 0 [aR m, aR t] h (fun v h' => v = some (aI (orb (fun p => wellE (setP (addN K 0 1) (kP K).length p)) 10 : Nat)) ∧ pMindX h' m ∧ Fr m (m + 26) h h') := by
  obtain ⟨K9, sg, sd, ws, ts, ms, hx⟩ := id hX
  obtain ⟨x0, x1, x2, x3⟩ := id hx
  have w7 : wK K := w.up (by decide) (by decide)
  have h12 : (kP K).length ≤ 12 := w.2.1
  have h6 : (kK K).length ≤ 6 := w.2.2.2.2.2.1
  have w1 : wK (addN K 0 1) := (w.addN (by decide) rfl).up (by decide) (by decide)
  have hnb : (nob (kL K)).length + (1 : Int).toNat ≤ 37 := by have := bt_le w; have e : (nob (kL K)).length = bt K := rfl; rw [e]; show bt K + 1 ≤ 37; omega
  obtain ⟨fO, hfO⟩ : ∃ g : Nat → Bool, g = fun p : Nat => wellE (setP (addN K 0 1) (kP K).length p) := ⟨_, rfl⟩
  refine Ct.of_V mo_Mind_addablePitches rfl (Nat.le_of_ble_eq_true rfl) rfl ?_
  refine v_aload_n k_Mind_addablePitches_0 rfl ?_
  refine v_aload_n k_Mind_addablePitches_1 rfl ?_
  refine v_callV mo_Mind_take mi_Mind_take mv_Mind_take lk_Mind_38 k_Mind_addablePitches_2 x0 rfl rfl (Nat.le_of_ble_eq_true rfl) rfl (Nat.le_of_ble_eq_true rfl) (c_Mind_take G hx hp hd) (fun v2 h2 q2 => ?_)
  obtain ⟨rfl, hx, f1⟩ := q2
  have f1 := f1.wd (lo := m) (hi := m + 26) (by omega) (by omega)
  obtain ⟨x0, x1, x2, x3⟩ := id hx
  refine v_pop k_Mind_addablePitches_5 rfl ?_
  refine v_aload_n k_Mind_addablePitches_6 rfl ?_
  refine v_getf fl_Mind_12 x0 rfl k_Mind_addablePitches_7 ?_
  refine v_getf fl_Mind_58 x1.1 rfl k_Mind_addablePitches_10 ?_
  refine v_callVr mo_Tune_notes mi_Tune_notes mv_Tune_notes lk_Mind_62 k_Mind_addablePitches_13 x1.2.1.1 rfl rfl (Nat.le_of_ble_eq_true rfl) rfl (Nat.le_of_ble_eq_true rfl) (c_Tune_notes G x1.2.1) ?_
  refine v_istore_n k_Mind_addablePitches_16 ⟨Nat.le_of_ble_eq_true rfl, Nat.le_of_ble_eq_true rfl⟩ ?_
  refine v_aload_n k_Mind_addablePitches_17 rfl ?_
  refine v_getf fl_Mind_12 x0 rfl k_Mind_addablePitches_18 ?_
  refine v_getf fl_Mind_58 x1.1 rfl k_Mind_addablePitches_21 ?_
  refine v_iconst k_Mind_addablePitches_24 ?_
  refine v_iconst k_Mind_addablePitches_25 ?_
  refine v_callV mo_Tune_add mi_Tune_add mv_Tune_add lk_Mind_67 k_Mind_addablePitches_26 x1.2.1.1 rfl rfl (Nat.le_of_ble_eq_true rfl) rfl (Nat.le_of_ble_eq_true rfl) (c_Tune_add G x1.2.1 (p := 0) (l := 1) (by decide) w.1 (by omega) hnb) (fun v26 h26 q26 => ?_)
  obtain ⟨rfl, nt, f2⟩ := q26
  have hx : pMind h26 m (addN K 0 1) sg sd ws ts ms := ⟨f2.at x0 (by omega), ⟨f2.at x1.1 (by omega), nt, x1.2.2.1.fr f2 (by omega), x1.2.2.2.1.fr f2 (by omega), x1.2.2.2.2.1.fr f2 (by omega), x1.2.2.2.2.2.1.fr f2 (by omega), x1.2.2.2.2.2.2.fr f2 (by omega)⟩, x2.fr f2 (by omega), x3.fr f2 (by omega)⟩
  have f1 := f1.tr f2 (by omega) (by omega)
  obtain ⟨x0, x1, x2, x3⟩ := id hx
  refine v_aload_n k_Mind_addablePitches_29 rfl ?_
  refine v_getf fl_Mind_21 x0 rfl k_Mind_addablePitches_30 ?_
  refine v_aload_n k_Mind_addablePitches_33 rfl ?_
  refine v_getf fl_Mind_12 x0 rfl k_Mind_addablePitches_34 ?_
  refine v_callV mo_Meetings_gather mi_Meetings_gather mv_Meetings_gather lk_Mind_70 k_Mind_addablePitches_37 x2.1 rfl rfl (Nat.le_of_ble_eq_true rfl) rfl (Nat.le_of_ble_eq_true rfl) (c_Meetings_gather G x2 x1 w1 h6 (by omega) hcap) (fun v37 h37 q37 => ?_)
  obtain ⟨rfl, M, n2, f2, r, hb⟩ := q37
  have hx : pMind h37 m (addN K 0 1) sg sd (M.map Prod.fst) (M.map Prod.snd) ms := ⟨f2.at x0 (by omega), x1.fr f2 (by omega), n2, x3.fr f2 (by omega)⟩
  have f1 := f1.tr f2 (by omega) (by omega)
  refine v_iconst k_Mind_addablePitches_40 ?_
  refine v_istore_n k_Mind_addablePitches_41 ⟨Nat.le_of_ble_eq_true rfl, Nat.le_of_ble_eq_true rfl⟩ ?_
  refine v_iconst k_Mind_addablePitches_42 ?_
  refine v_istore k_Mind_addablePitches_43 ⟨Nat.le_of_ble_eq_true rfl, Nat.le_of_ble_eq_true rfl⟩ ?_
  have loop : ∀ (k : Nat) (i : Nat) (h1 : AH) (q : Int), (10 < i + k) → (i ≤ 10) → (pMind h1 m (setP (addN K 0 1) (kP K).length q) sg sd (M.map Prod.fst) (M.map Prod.snd) ms) → (Fr m (m + 26) h h1) → V G Y_Mind_addablePitches 7 0 0 45 [some (aR m), some (aR t), some (aI (kP K).length), some (aI (orb fO i : Nat)), some (aI i)] [] h1 (fun v h' => v = some (aI (orb (fun p => wellE (setP (addN K 0 1) (kP K).length p)) 10 : Nat)) ∧ pMindX h' m ∧ Fr m (m + 26) h h') := by
    intro k
    induction k with
    | zero => intro i h1 q hk hi hx1 f1; exfalso; omega
    | succ k ih =>
      intro i h1 q hk hi hx1 f1
      obtain ⟨x0, x1, x2, x3⟩ := id hx1
      refine v_iload k_Mind_addablePitches_45 rfl ?_
      refine v_bipush k_Mind_addablePitches_47 (by decide) ?_
      refine v_icgt 92 k_Mind_addablePitches_49 rfl (by omega) (by omega) (fun c49 => ?_) (fun c49 => ?_)
      · refine v_iload_n k_Mind_addablePitches_92 rfl ?_
        refine v_ireturn k_Mind_addablePitches_93 rfl rfl ?_
        have e : i = 10 := by omega
        subst e
        exact ⟨by rw [hfO], ⟨_, _, _, _, _, _, hx1⟩, f1⟩
      · refine v_aload_n k_Mind_addablePitches_52 rfl ?_
        refine v_getf fl_Mind_12 x0 rfl k_Mind_addablePitches_53 ?_
        refine v_getf fl_Mind_58 x1.1 rfl k_Mind_addablePitches_56 ?_
        refine v_iload_n k_Mind_addablePitches_59 rfl ?_
        refine v_iload k_Mind_addablePitches_60 rfl ?_
        refine v_callV mo_Tune_setPitch mi_Tune_setPitch mv_Tune_setPitch lk_Mind_73 k_Mind_addablePitches_62 x1.2.1.1 rfl rfl (Nat.le_of_ble_eq_true rfl) rfl (Nat.le_of_ble_eq_true rfl) (c_Tune_setPitch G x1.2.1 (by omega)) (fun v62 h62 q62 => ?_)
        obtain ⟨rfl, nt, f2⟩ := q62
        have hx2 : pMind h62 m (setP (setP (addN K 0 1) (kP K).length q) (kP K).length i) sg sd (M.map Prod.fst) (M.map Prod.snd) ms := ⟨f2.at x0 (by omega), ⟨f2.at x1.1 (by omega), nt, x1.2.2.1.fr f2 (by omega), x1.2.2.2.1.fr f2 (by omega), x1.2.2.2.2.1.fr f2 (by omega), x1.2.2.2.2.2.1.fr f2 (by omega), x1.2.2.2.2.2.2.fr f2 (by omega)⟩, x2.fr f2 (by omega), x3.fr f2 (by omega)⟩
        rw [setP_setP] at hx2
        obtain ⟨x0, x1, x2, x3⟩ := id hx2
        have w8 := w1.setP (n := ((kP K).length : Int)) (x := (i : Int)) (by omega)
        refine v_aload_n k_Mind_addablePitches_65 rfl ?_
        refine v_getf fl_Mind_21 x0 rfl k_Mind_addablePitches_66 ?_
        refine v_aload_n k_Mind_addablePitches_69 rfl ?_
        refine v_getf fl_Mind_12 x0 rfl k_Mind_addablePitches_70 ?_
        refine v_callVr mo_Meetings_areWell mi_Meetings_areWell mv_Meetings_areWell lk_Mind_76 k_Mind_addablePitches_73 x2.1 rfl rfl (Nat.le_of_ble_eq_true rfl) rfl (Nat.le_of_ble_eq_true rfl) (c_Meetings_areWell G x2 x1 w8 hb) ?_
        refine v_ifeq 86 k_Mind_addablePitches_76 rfl (by split <;> decide) (fun c76 => ?_) (fun c76 => ?_)
        · refine v_iinc k_Mind_addablePitches_86 rfl (Nat.le_of_ble_eq_true rfl) ?_
          refine v_goto k_Mind_addablePitches_89 (tgt := 45) rfl ?_
          have e : orb fO (i + 1) = if fO i then orb fO i ||| 2 ^ i else orb fO i := rfl
          have st := ih (i + 1) h62 i (by omega) (by omega) hx2 (f1.tr f2 (by omega) (by omega))
          rw [e] at st
          rw [well_of r (evs_setP (n := ((kP K).length : Int)) (x := (i : Int))), show wellE (setP (addN K 0 1) (kP K).length i) = fO i by rw [hfO]] at c76
          by_cases hq : fO i = true
          · rw [if_pos hq] at c76 st
            first
              | exact st
              | exact absurd c76 (by decide)
          · rw [if_neg hq] at c76 st
            first
              | exact st
              | exact absurd rfl c76
        · refine v_iload_n k_Mind_addablePitches_79 rfl ?_
          refine v_iconst k_Mind_addablePitches_80 ?_
          refine v_iload k_Mind_addablePitches_81 rfl ?_
          refine v_bit k_Mind_addablePitches_83 (by omega) ?_
          rw [Int.toNat_natCast]
          refine v_iorN k_Mind_addablePitches_84 ?_
          refine v_istore_n k_Mind_addablePitches_85 ⟨Nat.le_of_ble_eq_true rfl, Nat.le_of_ble_eq_true rfl⟩ ?_
          refine v_iinc k_Mind_addablePitches_86 rfl (Nat.le_of_ble_eq_true rfl) ?_
          refine v_goto k_Mind_addablePitches_89 (tgt := 45) rfl ?_
          have e : orb fO (i + 1) = if fO i then orb fO i ||| 2 ^ i else orb fO i := rfl
          have st := ih (i + 1) h62 i (by omega) (by omega) hx2 (f1.tr f2 (by omega) (by omega))
          rw [e] at st
          rw [well_of r (evs_setP (n := ((kP K).length : Int)) (x := (i : Int))), show wellE (setP (addN K 0 1) (kP K).length i) = fO i by rw [hfO]] at c76
          by_cases hq : fO i = true
          · rw [if_pos hq] at c76 st
            first
              | exact st
              | exact absurd c76 (by decide)
          · rw [if_neg hq] at c76 st
            first
              | exact st
              | exact absurd rfl c76
  have e0 : setP (addN K 0 1) (kP K).length 0 = addN K 0 1 := by
    have e1 := setP_self (K := addN K 0 1) (n := ((kP K).length : Int))
    rwa [show rget (kP (addN K 0 1)) (kP K).length = 0 from rget_last] at e1
  exact loop 11 0 h37 0 (by omega) (by omega) (by rw [e0]; exact hx) f1

theorem esm_bd (g : Int → Int) (hg : ∀ x, 0 ≤ g x ∧ g x ≤ 1) : ∀ E : List Int, 0 ≤ esm g E ∧ esm g E ≤ E.length
  | [] => by simp [esm]
  | x :: t => by
    have h1 := esm_bd g hg t
    have h2 := hg x
    simp only [esm, List.length_cons]
    omega
theorem evB_len (K : CK) (a b : Int) : ∀ (k : Nat) (c : Int), (evB K a b k c).length = k
  | 0, _ => rfl
  | k + 1, c => by simp only [evB, List.length_cons]; rw [evB_len K a b k]
theorem evO_len {K : CK} {B : Nat} (h : ∀ a b, (evP K a b).length ≤ B) (a : Int) : ∀ (k j : Nat), (evO K a k j).length ≤ k * B
  | 0, _ => by simp [evO]
  | k + 1, j => by
    have h1 := evO_len h a k (j + 1)
    have h2 := h a j
    simp only [evO, List.length_append]
    rw [Nat.add_mul]
    omega
theorem evA_len {K : CK} {B : Nat} (h : ∀ a b, (evP K a b).length ≤ B) (hn : (kK K).length ≤ 6) : ∀ (k i : Nat), (evA K k i).length ≤ k * (6 * B)
  | 0, _ => by simp [evA]
  | k + 1, i => by
    have h1 := evA_len h hn k (i + 1)
    have h2 := evO_len h i ((kK K).length - (i + 1)) (i + 1)
    have h3 : ((kK K).length - (i + 1)) * B ≤ 6 * B := Nat.mul_le_mul_right B (by omega)
    simp only [evA, List.length_append]
    rw [Nat.add_mul]
    omega
theorem illsE_bd {K : CK} (w : wK K) (h6 : (kK K).length ≤ 6) : 0 ≤ illsE K ∧ illsE K ≤ 20000 := by
  have h1 := esm_bd (fun x => if illW K x then 1 else 0) (fun x => by split <;> decide) (evs K)
  have h2 : ∀ a b, (evP K a b).length ≤ 356 := fun a b => by
    rw [evP, evB_len]
    have a1 := w.stl a
    have a2 := w.stl b
    have a3 := w.en a
    have a4 := w.en b
    unfold fin_ bgn
    omega
  have h3 := evA_len h2 h6 (kK K).length 0
  have h4 : (kK K).length * (6 * 356) ≤ 6 * (6 * 356) := Nat.mul_le_mul_right _ h6
  have e : evs K = evA K (kK K).length 0 := rfl
  unfold illsE
  rw [e] at h1 ⊢
  omega
set_option maxHeartbeats 4000000 in
set_option maxRecDepth 20000 in
theorem c_Mind_leastIlls (G : Gx) {h : AH} {m t : Nat} (hX : pMindX h m) {K : CK} {sg2 sd2 : List Int} (hp : pCanon h t K sg2 sd2) (w : vK K 12 6) (hd : m + 26 ≤ t ∨ t + 18 ≤ m) (hcap : capOK K) : Ct G Y_Mind_leastIlls 7 0 0 [aR m, aR t] h (fun v h' => v = some (aI (bsN K (kP K).length 0 (illsE K))) ∧ pMindX h' m ∧ Fr m (m + 26) h h') := by
  obtain ⟨K9, sg, sd, ws, ts, ms, hx⟩ := id hX
  obtain ⟨x0, x1, x2, x3⟩ := id hx
  have w7 : wK K := w.up (by decide) (by decide)
  have h12 : (kP K).length ≤ 12 := w.2.1
  have h6 : (kK K).length ≤ 6 := w.2.2.2.2.2.1
  have ib0 := illsE_bd w7 h6
  refine Ct.of_V mo_Mind_leastIlls rfl (Nat.le_of_ble_eq_true rfl) rfl ?_
  refine v_aload_n k_Mind_leastIlls_0 rfl ?_
  refine v_aload_n k_Mind_leastIlls_1 rfl ?_
  refine v_callV mo_Mind_take mi_Mind_take mv_Mind_take lk_Mind_38 k_Mind_leastIlls_2 x0 rfl rfl (Nat.le_of_ble_eq_true rfl) rfl (Nat.le_of_ble_eq_true rfl) (c_Mind_take G hx hp hd) (fun v2 h2 q2 => ?_)
  obtain ⟨rfl, hx, f1⟩ := q2
  have f1 := f1.wd (lo := m) (hi := m + 26) (by omega) (by omega)
  obtain ⟨x0, x1, x2, x3⟩ := id hx
  refine v_pop k_Mind_leastIlls_5 rfl ?_
  refine v_aload_n k_Mind_leastIlls_6 rfl ?_
  refine v_getf fl_Mind_21 x0 rfl k_Mind_leastIlls_7 ?_
  refine v_aload_n k_Mind_leastIlls_10 rfl ?_
  refine v_getf fl_Mind_12 x0 rfl k_Mind_leastIlls_11 ?_
  refine v_callV mo_Meetings_gather mi_Meetings_gather mv_Meetings_gather lk_Mind_70 k_Mind_leastIlls_14 x2.1 rfl rfl (Nat.le_of_ble_eq_true rfl) rfl (Nat.le_of_ble_eq_true rfl) (c_Meetings_gather G x2 x1 w7 h6 (by omega) hcap) (fun v14 h14 q14 => ?_)
  obtain ⟨rfl, M, n2, f2, r, hb⟩ := q14
  have hx : pMind h14 m K sg sd (M.map Prod.fst) (M.map Prod.snd) ms := ⟨f2.at x0 (by omega), x1.fr f2 (by omega), n2, x3.fr f2 (by omega)⟩
  have f1 := f1.tr f2 (by omega) (by omega)
  obtain ⟨x0, x1, x2, x3⟩ := id hx
  refine v_aload_n k_Mind_leastIlls_17 rfl ?_
  refine v_getf fl_Mind_21 x0 rfl k_Mind_leastIlls_18 ?_
  refine v_aload_n k_Mind_leastIlls_21 rfl ?_
  refine v_getf fl_Mind_12 x0 rfl k_Mind_leastIlls_22 ?_
  refine v_callVr mo_Meetings_ills mi_Meetings_ills mv_Meetings_ills lk_Mind_80 k_Mind_leastIlls_25 x2.1 rfl rfl (Nat.le_of_ble_eq_true rfl) rfl (Nat.le_of_ble_eq_true rfl) (c_Meetings_ills G x2 x1 w7 hb) ?_
  refine v_istore_n k_Mind_leastIlls_28 ⟨Nat.le_of_ble_eq_true rfl, Nat.le_of_ble_eq_true rfl⟩ ?_
  refine v_iconst k_Mind_leastIlls_29 ?_
  refine v_istore_n k_Mind_leastIlls_30 ⟨Nat.le_of_ble_eq_true rfl, Nat.le_of_ble_eq_true rfl⟩ ?_
  have loop : ∀ (k : Nat) (i : Nat) (h1 : AH) (acc1 : Int) (z4 z5 : Option AV), (i + k = (kP K).length) → (0 ≤ acc1 ∧ acc1 ≤ 20000) → (pMind h1 m K sg sd (M.map Prod.fst) (M.map Prod.snd) ms) → (Fr m (m + 26) h h1) → (bsN K k i acc1 = bsN K (kP K).length 0 (illsE K)) → V G Y_Mind_leastIlls 7 0 0 31 [some (aR m), some (aR t), some (aI acc1), some (aI i), z4, z5] [] h1 (fun v h' => v = some (aI (bsN K (kP K).length 0 (illsE K))) ∧ pMindX h' m ∧ Fr m (m + 26) h h') := by
    intro k
    induction k with
    | zero =>
      intro i h1 acc1 z4 z5 hk hacc hx1 f1 ht
      obtain ⟨x0, x1, x2, x3⟩ := id hx1
      refine v_iload_n k_Mind_leastIlls_31 rfl ?_
      refine v_aload_n k_Mind_leastIlls_32 rfl ?_
      refine v_getf fl_Mind_12 x0 rfl k_Mind_leastIlls_33 ?_
      refine v_getf fl_Mind_58 x1.1 rfl k_Mind_leastIlls_36 ?_
      refine v_callVr mo_Tune_notes mi_Tune_notes mv_Tune_notes lk_Mind_62 k_Mind_leastIlls_39 x1.2.1.1 rfl rfl (Nat.le_of_ble_eq_true rfl) rfl (Nat.le_of_ble_eq_true rfl) (c_Tune_notes G x1.2.1) ?_
      refine v_icge 122 k_Mind_leastIlls_42 rfl (by omega) (by omega) (fun c42 => ?_) (fun c42 => ?_)
      · refine v_iload_n k_Mind_leastIlls_122 rfl ?_
        refine v_ireturn k_Mind_leastIlls_123 rfl rfl ?_
        exact ⟨by rw [← ht]; rfl, ⟨_, _, _, _, _, _, hx1⟩, f1⟩
      · exfalso; omega
    | succ k ih =>
      intro i h1 acc1 z4 z5 hk hacc hx1 f1 ht
      obtain ⟨x0, x1, x2, x3⟩ := id hx1
      refine v_iload_n k_Mind_leastIlls_31 rfl ?_
      refine v_aload_n k_Mind_leastIlls_32 rfl ?_
      refine v_getf fl_Mind_12 x0 rfl k_Mind_leastIlls_33 ?_
      refine v_getf fl_Mind_58 x1.1 rfl k_Mind_leastIlls_36 ?_
      refine v_callVr mo_Tune_notes mi_Tune_notes mv_Tune_notes lk_Mind_62 k_Mind_leastIlls_39 x1.2.1.1 rfl rfl (Nat.le_of_ble_eq_true rfl) rfl (Nat.le_of_ble_eq_true rfl) (c_Tune_notes G x1.2.1) ?_
      refine v_icge 122 k_Mind_leastIlls_42 rfl (by omega) (by omega) (fun c42 => ?_) (fun c42 => ?_)
      · exfalso; omega
      · refine v_aload_n k_Mind_leastIlls_45 rfl ?_
        refine v_getf fl_Mind_12 x0 rfl k_Mind_leastIlls_46 ?_
        refine v_getf fl_Mind_58 x1.1 rfl k_Mind_leastIlls_49 ?_
        refine v_iload_n k_Mind_leastIlls_52 rfl ?_
        refine v_callVr mo_Tune_pitchOf mi_Tune_pitchOf mv_Tune_pitchOf lk_Mind_84 k_Mind_leastIlls_53 x1.2.1.1 rfl rfl (Nat.le_of_ble_eq_true rfl) rfl (Nat.le_of_ble_eq_true rfl) (c_Tune_pitchOf G x1.2.1 (by omega)) ?_
        refine v_istore k_Mind_leastIlls_56 ⟨Nat.le_of_ble_eq_true rfl, Nat.le_of_ble_eq_true rfl⟩ ?_
        refine v_iconst k_Mind_leastIlls_58 ?_
        refine v_istore k_Mind_leastIlls_59 ⟨Nat.le_of_ble_eq_true rfl, Nat.le_of_ble_eq_true rfl⟩ ?_
        have loop2 : ∀ (kp : Nat) (p : Nat) (h1 : AH) (q acc : Int), (p + kp = 10) → (0 ≤ acc ∧ acc ≤ 20000) → (pMind h1 m (setP K i q) sg sd (M.map Prod.fst) (M.map Prod.snd) ms) → (Fr m (m + 26) h h1) → (bsN K k (i + 1) (bsP K i kp p acc) = bsN K (kP K).length 0 (illsE K)) → V G Y_Mind_leastIlls 7 0 0 61 [some (aR m), some (aR t), some (aI acc), some (aI i), some (aI (rget (kP K) i)), some (aI p)] [] h1 (fun v h' => v = some (aI (bsN K (kP K).length 0 (illsE K))) ∧ pMindX h' m ∧ Fr m (m + 26) h h') := by
          intro kp
          induction kp with
          | zero =>
            intro p h1 q acc hk2 hacc hx1 f1 ht
            obtain ⟨x0, x1, x2, x3⟩ := id hx1
            refine v_iload k_Mind_leastIlls_61 rfl ?_
            refine v_bipush k_Mind_leastIlls_63 (by decide) ?_
            refine v_icgt 103 k_Mind_leastIlls_65 rfl (by omega) (by omega) (fun c65 => ?_) (fun c65 => ?_)
            · refine v_aload_n k_Mind_leastIlls_103 rfl ?_
              refine v_getf fl_Mind_12 x0 rfl k_Mind_leastIlls_104 ?_
              refine v_getf fl_Mind_58 x1.1 rfl k_Mind_leastIlls_107 ?_
              refine v_iload_n k_Mind_leastIlls_110 rfl ?_
              refine v_iload k_Mind_leastIlls_111 rfl ?_
              refine v_callV mo_Tune_setPitch mi_Tune_setPitch mv_Tune_setPitch lk_Mind_73 k_Mind_leastIlls_113 x1.2.1.1 rfl rfl (Nat.le_of_ble_eq_true rfl) rfl (Nat.le_of_ble_eq_true rfl) (c_Tune_setPitch G x1.2.1 (by omega)) (fun v113 h113 q113 => ?_)
              obtain ⟨rfl, nt, f2⟩ := q113
              have hx2 : pMind h113 m (setP (setP K i q) i (rget (kP K) i)) sg sd (M.map Prod.fst) (M.map Prod.snd) ms := ⟨f2.at x0 (by omega), ⟨f2.at x1.1 (by omega), nt, x1.2.2.1.fr f2 (by omega), x1.2.2.2.1.fr f2 (by omega), x1.2.2.2.2.1.fr f2 (by omega), x1.2.2.2.2.2.1.fr f2 (by omega), x1.2.2.2.2.2.2.fr f2 (by omega)⟩, x2.fr f2 (by omega), x3.fr f2 (by omega)⟩
              rw [setP_back] at hx2
              refine v_iinc k_Mind_leastIlls_116 rfl (Nat.le_of_ble_eq_true rfl) ?_
              refine v_goto k_Mind_leastIlls_119 (tgt := 31) rfl ?_
              exact ih (i + 1) h113 _ _ _ (by omega) hacc hx2 (f1.tr f2 (by omega) (by omega)) ht
            · exfalso; omega
          | succ kp ih2 =>
            intro p h1 q acc hk2 hacc hx1 f1 ht
            obtain ⟨x0, x1, x2, x3⟩ := id hx1
            refine v_iload k_Mind_leastIlls_61 rfl ?_
            refine v_bipush k_Mind_leastIlls_63 (by decide) ?_
            refine v_icgt 103 k_Mind_leastIlls_65 rfl (by omega) (by omega) (fun c65 => ?_) (fun c65 => ?_)
            · exfalso; omega
            · refine v_aload_n k_Mind_leastIlls_68 rfl ?_
              refine v_getf fl_Mind_12 x0 rfl k_Mind_leastIlls_69 ?_
              refine v_getf fl_Mind_58 x1.1 rfl k_Mind_leastIlls_72 ?_
              refine v_iload_n k_Mind_leastIlls_75 rfl ?_
              refine v_iload k_Mind_leastIlls_76 rfl ?_
              refine v_callV mo_Tune_setPitch mi_Tune_setPitch mv_Tune_setPitch lk_Mind_73 k_Mind_leastIlls_78 x1.2.1.1 rfl rfl (Nat.le_of_ble_eq_true rfl) rfl (Nat.le_of_ble_eq_true rfl) (c_Tune_setPitch G x1.2.1 (by omega)) (fun v78 h78 q78 => ?_)
              obtain ⟨rfl, nt, f2⟩ := q78
              have hx2 : pMind h78 m (setP (setP K i q) i p) sg sd (M.map Prod.fst) (M.map Prod.snd) ms := ⟨f2.at x0 (by omega), ⟨f2.at x1.1 (by omega), nt, x1.2.2.1.fr f2 (by omega), x1.2.2.2.1.fr f2 (by omega), x1.2.2.2.2.1.fr f2 (by omega), x1.2.2.2.2.2.1.fr f2 (by omega), x1.2.2.2.2.2.2.fr f2 (by omega)⟩, x2.fr f2 (by omega), x3.fr f2 (by omega)⟩
              rw [setP_setP] at hx2
              obtain ⟨x0, x1, x2, x3⟩ := id hx2
              have w8 := w7.setP (n := (i : Int)) (x := (p : Int)) (by omega)
              have ib := illsE_bd w8 h6
              refine v_iload_n k_Mind_leastIlls_81 rfl ?_
              refine v_aload_n k_Mind_leastIlls_82 rfl ?_
              refine v_getf fl_Mind_21 x0 rfl k_Mind_leastIlls_83 ?_
              refine v_aload_n k_Mind_leastIlls_86 rfl ?_
              refine v_getf fl_Mind_12 x0 rfl k_Mind_leastIlls_87 ?_
              refine v_callVr mo_Meetings_ills mi_Meetings_ills mv_Meetings_ills lk_Mind_80 k_Mind_leastIlls_90 x2.1 rfl rfl (Nat.le_of_ble_eq_true rfl) rfl (Nat.le_of_ble_eq_true rfl) (c_Meetings_ills G x2 x1 w8 hb) ?_
              rw [ills_of r (evs_setP (n := (i : Int)) (x := (p : Int)))]
              refine v_mmin k_Mind_leastIlls_93 lm_Mind_88 (by omega) (by omega) (Nat.le_of_ble_eq_true rfl) (Nat.le_of_ble_eq_true rfl) ?_
              refine v_istore_n k_Mind_leastIlls_96 ⟨Nat.le_of_ble_eq_true rfl, Nat.le_of_ble_eq_true rfl⟩ ?_
              refine v_iinc k_Mind_leastIlls_97 rfl (Nat.le_of_ble_eq_true rfl) ?_
              refine v_goto k_Mind_leastIlls_100 (tgt := 61) rfl ?_
              exact ih2 (p + 1) h78 p _ (by omega) (by omega) hx2 (f1.tr f2 (by omega) (by omega)) ht
        exact loop2 10 0 h1 (rget (kP K) i) acc1 (by omega) hacc (by rw [setP_self]; exact hx1) f1 ht
  rw [ills_of r rfl]
  exact loop (kP K).length 0 h14 _ _ _ (by omega) ib0 hx f1 rfl

set_option maxHeartbeats 4000000 in
set_option maxRecDepth 20000 in
theorem c_Mind_wellDraws (G : Gx) {h : AH} {m t : Nat} (hX : pMindX h m) {K : CK} {sg2 sd2 : List Int} (hp : pCanon h t K sg2 sd2) (w : vK K 12 6) (hd : m + 26 ≤ t ∨ t + 18 ≤ m) (hcap : capOK K) {n z : Int} (hn : 1 ≤ n ∧ n ≤ 20) : Ct G Y_Mind_wellDraws 7 0 0 [aR m, aR t, aI n, aI z] h (fun v h' => v = some (aI (wdF K n.toNat z 0)) ∧ pMindX h' m ∧ Fr m (m + 26) h h') := by
  obtain ⟨K9, sg, sd, ws, ts, ms, hx⟩ := id hX
  obtain ⟨x0, x1, x2, x3⟩ := id hx
  have w7 : wK K := w.up (by decide) (by decide)
  have h12 : (kP K).length ≤ 12 := w.2.1
  have h6 : (kK K).length ≤ 6 := w.2.2.2.2.2.1
  refine Ct.of_V mo_Mind_wellDraws rfl (Nat.le_of_ble_eq_true rfl) rfl ?_
  refine v_aload_n k_Mind_wellDraws_0 rfl ?_
  refine v_aload_n k_Mind_wellDraws_1 rfl ?_
  refine v_callV mo_Mind_take mi_Mind_take mv_Mind_take lk_Mind_38 k_Mind_wellDraws_2 x0 rfl rfl (Nat.le_of_ble_eq_true rfl) rfl (Nat.le_of_ble_eq_true rfl) (c_Mind_take G hx hp hd) (fun v2 h2 q2 => ?_)
  obtain ⟨rfl, hx, f1⟩ := q2
  have f1 := f1.wd (lo := m) (hi := m + 26) (by omega) (by omega)
  obtain ⟨x0, x1, x2, x3⟩ := id hx
  refine v_pop k_Mind_wellDraws_5 rfl ?_
  refine v_aload_n k_Mind_wellDraws_6 rfl ?_
  refine v_getf fl_Mind_21 x0 rfl k_Mind_wellDraws_7 ?_
  refine v_aload_n k_Mind_wellDraws_10 rfl ?_
  refine v_getf fl_Mind_12 x0 rfl k_Mind_wellDraws_11 ?_
  refine v_callV mo_Meetings_gather mi_Meetings_gather mv_Meetings_gather lk_Mind_70 k_Mind_wellDraws_14 x2.1 rfl rfl (Nat.le_of_ble_eq_true rfl) rfl (Nat.le_of_ble_eq_true rfl) (c_Meetings_gather G x2 x1 w7 h6 (by omega) hcap) (fun v14 h14 q14 => ?_)
  obtain ⟨rfl, M, n2, f2, r, hb⟩ := q14
  have hx : pMind h14 m K sg sd (M.map Prod.fst) (M.map Prod.snd) ms := ⟨f2.at x0 (by omega), x1.fr f2 (by omega), n2, x3.fr f2 (by omega)⟩
  have f1 := f1.tr f2 (by omega) (by omega)
  obtain ⟨x0, x1, x2, x3⟩ := id hx
  refine v_iload_n k_Mind_wellDraws_17 rfl ?_
  refine v_istore k_Mind_wellDraws_18 ⟨Nat.le_of_ble_eq_true rfl, Nat.le_of_ble_eq_true rfl⟩ ?_
  refine v_iconst k_Mind_wellDraws_20 ?_
  refine v_istore k_Mind_wellDraws_21 ⟨Nat.le_of_ble_eq_true rfl, Nat.le_of_ble_eq_true rfl⟩ ?_
  refine v_iconst k_Mind_wellDraws_23 ?_
  refine v_istore k_Mind_wellDraws_24 ⟨Nat.le_of_ble_eq_true rfl, Nat.le_of_ble_eq_true rfl⟩ ?_
  have loop : ∀ (k : Nat) (j : Nat) (h1 : AH) (z1 acc : Int) (cur : List Int) (z7 : Option AV), (j + k = n.toNat) → (cur.length = (kP K).length) → (pMind h1 m (setPs K cur) sg sd (M.map Prod.fst) (M.map Prod.snd) ms) → (Fr m (m + 26) h h1) → (wdF K k z1 acc = wdF K n.toNat z 0) → V G Y_Mind_wellDraws 7 0 0 26 [some (aR m), some (aR t), some (aI n), some (aI z), some (aI z1), some (aI acc), some (aI j), z7] [] h1 (fun v h' => v = some (aI (wdF K n.toNat z 0)) ∧ pMindX h' m ∧ Fr m (m + 26) h h') := by
    intro k
    induction k with
    | zero =>
      intro j h1 z1 acc cur z7 hk hcl hx1 f1 ht
      obtain ⟨x0, x1, x2, x3⟩ := id hx1
      refine v_iload k_Mind_wellDraws_26 rfl ?_
      refine v_iload_n k_Mind_wellDraws_28 rfl ?_
      refine v_icge 113 k_Mind_wellDraws_29 rfl (by omega) (by omega) (fun c29 => ?_) (fun c29 => ?_)
      · refine v_iload k_Mind_wellDraws_113 rfl ?_
        refine v_ireturn k_Mind_wellDraws_115 rfl rfl ?_
        exact ⟨by rw [← ht]; rfl, ⟨_, _, _, _, _, _, hx1⟩, f1⟩
      · exfalso; omega
    | succ k ih =>
      intro j h1 z1 acc cur z7 hk hcl hx1 f1 ht
      obtain ⟨x0, x1, x2, x3⟩ := id hx1
      refine v_iload k_Mind_wellDraws_26 rfl ?_
      refine v_iload_n k_Mind_wellDraws_28 rfl ?_
      refine v_icge 113 k_Mind_wellDraws_29 rfl (by omega) (by omega) (fun c29 => ?_) (fun c29 => ?_)
      · exfalso; omega
      · refine v_iconst k_Mind_wellDraws_32 ?_
        refine v_istore k_Mind_wellDraws_33 ⟨Nat.le_of_ble_eq_true rfl, Nat.le_of_ble_eq_true rfl⟩ ?_
        have loop2 : ∀ (ki : Nat) (i : Nat) (h1 : AH) (zi : Int) (done rest : List Int), (i + ki = (kP K).length) → (done.length = i) → (rest.length = ki) → (pMind h1 m (setPs K (done ++ rest)) sg sd (M.map Prod.fst) (M.map Prod.snd) ms) → (Fr m (m + 26) h h1) → (done ++ drwL ki zi = drwL (kP K).length z1) → (drwZ ki zi = drwZ (kP K).length z1) → V G Y_Mind_wellDraws 7 0 0 35 [some (aR m), some (aR t), some (aI n), some (aI z), some (aI zi), some (aI acc), some (aI j), some (aI i)] [] h1 (fun v h' => v = some (aI (wdF K n.toNat z 0)) ∧ pMindX h' m ∧ Fr m (m + 26) h h') := by
          intro ki
          induction ki with
          | zero =>
            intro i h1 zi done rest hk2 hdl hrl hx1 f1 hD hZ
            obtain ⟨x0, x1, x2, x3⟩ := id hx1
            have lnS : (kP (setPs K (done ++ rest))).length = (kP K).length := by show (done ++ rest).length = _; rw [List.length_append]; omega
            refine v_iload k_Mind_wellDraws_35 rfl ?_
            refine v_aload_n k_Mind_wellDraws_37 rfl ?_
            refine v_getf fl_Mind_12 x0 rfl k_Mind_wellDraws_38 ?_
            refine v_getf fl_Mind_58 x1.1 rfl k_Mind_wellDraws_41 ?_
            refine v_callVr mo_Tune_notes mi_Tune_notes mv_Tune_notes lk_Mind_62 k_Mind_wellDraws_44 x1.2.1.1 rfl rfl (Nat.le_of_ble_eq_true rfl) rfl (Nat.le_of_ble_eq_true rfl) (c_Tune_notes G x1.2.1) ?_
            refine v_icge 90 k_Mind_wellDraws_47 rfl (by omega) (by omega) (fun c47 => ?_) (fun c47 => ?_)
            · have hr0 : rest = [] := List.length_eq_zero_iff.mp hrl
              subst hr0
              have hD2 : done = drwL (kP K).length z1 := by rw [← hD]; simp [drwL]
              have hZ2 : zi = drwZ (kP K).length z1 := by rw [← hZ]; rfl
              rw [List.append_nil, hD2] at hx1
              rw [hZ2]
              obtain ⟨x0, x1, x2, x3⟩ := id hx1
              have w8 : wK (setPs K (drwL (kP K).length z1)) := w7.setPs (drwL_len _ _) (drwL_bd _ _)
              refine v_aload_n k_Mind_wellDraws_90 rfl ?_
              refine v_getf fl_Mind_21 x0 rfl k_Mind_wellDraws_91 ?_
              refine v_aload_n k_Mind_wellDraws_94 rfl ?_
              refine v_getf fl_Mind_12 x0 rfl k_Mind_wellDraws_95 ?_
              refine v_callVr mo_Meetings_areWell mi_Meetings_areWell mv_Meetings_areWell lk_Mind_76 k_Mind_wellDraws_98 x2.1 rfl rfl (Nat.le_of_ble_eq_true rfl) rfl (Nat.le_of_ble_eq_true rfl) (c_Meetings_areWell G x2 x1 w8 hb) ?_
              refine v_ifeq 107 k_Mind_wellDraws_101 rfl (by split <;> decide) (fun c101 => ?_) (fun c101 => ?_)
              · refine v_iinc k_Mind_wellDraws_107 rfl (Nat.le_of_ble_eq_true rfl) ?_
                refine v_goto k_Mind_wellDraws_110 (tgt := 26) rfl ?_
                rw [well_of r evs_setPs] at c101
                rw [show wdF K (k + 1) z1 acc = wdF K k (drwZ (kP K).length z1) (acc + if wellE (setPs K (drwL (kP K).length z1)) then 1 else 0) from rfl] at ht
                by_cases hq : wellE (setPs K (drwL (kP K).length z1)) = true
                · rw [if_pos hq] at c101 ht
                  first
                    | exact absurd c101 (by decide)
                    | exact ih (j + 1) h1 _ _ _ _ (by omega) (drwL_len _ _) hx1 f1 ht
                · rw [if_neg hq] at c101 ht
                  first
                    | exact absurd rfl c101
                    | (rw [Int.add_zero] at ht; exact ih (j + 1) h1 _ _ _ _ (by omega) (drwL_len _ _) hx1 f1 ht)
              · refine v_iinc k_Mind_wellDraws_104 rfl (Nat.le_of_ble_eq_true rfl) ?_
                refine v_iinc k_Mind_wellDraws_107 rfl (Nat.le_of_ble_eq_true rfl) ?_
                refine v_goto k_Mind_wellDraws_110 (tgt := 26) rfl ?_
                rw [well_of r evs_setPs] at c101
                rw [show wdF K (k + 1) z1 acc = wdF K k (drwZ (kP K).length z1) (acc + if wellE (setPs K (drwL (kP K).length z1)) then 1 else 0) from rfl] at ht
                by_cases hq : wellE (setPs K (drwL (kP K).length z1)) = true
                · rw [if_pos hq] at c101 ht
                  first
                    | exact absurd c101 (by decide)
                    | exact ih (j + 1) h1 _ _ _ _ (by omega) (drwL_len _ _) hx1 f1 ht
                · rw [if_neg hq] at c101 ht
                  first
                    | exact absurd rfl c101
                    | (rw [Int.add_zero] at ht; exact ih (j + 1) h1 _ _ _ _ (by omega) (drwL_len _ _) hx1 f1 ht)
            · exfalso; rw [lnS] at c47; omega
          | succ ki ih2 =>
            intro i h1 zi done rest hk2 hdl hrl hx1 f1 hD hZ
            obtain ⟨x0, x1, x2, x3⟩ := id hx1
            have lnS : (kP (setPs K (done ++ rest))).length = (kP K).length := by show (done ++ rest).length = _; rw [List.length_append]; omega
            cases rest with
            | nil => exact absurd hrl (by simp)
            | cons y0 rest =>
              refine v_iload k_Mind_wellDraws_35 rfl ?_
              refine v_aload_n k_Mind_wellDraws_37 rfl ?_
              refine v_getf fl_Mind_12 x0 rfl k_Mind_wellDraws_38 ?_
              refine v_getf fl_Mind_58 x1.1 rfl k_Mind_wellDraws_41 ?_
              refine v_callVr mo_Tune_notes mi_Tune_notes mv_Tune_notes lk_Mind_62 k_Mind_wellDraws_44 x1.2.1.1 rfl rfl (Nat.le_of_ble_eq_true rfl) rfl (Nat.le_of_ble_eq_true rfl) (c_Tune_notes G x1.2.1) ?_
              refine v_icge 90 k_Mind_wellDraws_47 rfl (by omega) (by omega) (fun c47 => ?_) (fun c47 => ?_)
              · exfalso; rw [lnS] at c47; omega
              · refine v_iload k_Mind_wellDraws_50 rfl ?_
                refine v_ldc (x := 1664525) cn_Mind_94 k_Mind_wellDraws_52 (by decide) ?_
                refine v_imul k_Mind_wellDraws_54 ?_
                refine v_ldc (x := 1013904223) cn_Mind_95 k_Mind_wellDraws_55 (by decide) ?_
                refine v_iadd k_Mind_wellDraws_57 ?_
                refine v_istore k_Mind_wellDraws_58 ⟨Nat.le_of_ble_eq_true rfl, Nat.le_of_ble_eq_true rfl⟩ ?_
                refine v_aload_n k_Mind_wellDraws_60 rfl ?_
                refine v_getf fl_Mind_12 x0 rfl k_Mind_wellDraws_61 ?_
                refine v_getf fl_Mind_58 x1.1 rfl k_Mind_wellDraws_64 ?_
                refine v_iload k_Mind_wellDraws_67 rfl ?_
                refine v_iload k_Mind_wellDraws_69 rfl ?_
                refine v_ldc (x := 2147483647) cn_Mind_96 k_Mind_wellDraws_71 (by decide) ?_
                refine v_mask 31 k_Mind_wellDraws_73 (by decide) (by decide) ?_
                rw [show ((2 ^ 31 : Nat) : Int) = 2147483648 from rfl]
                have em := emd (zi * 1664525 + 1013904223) 2147483648 (by decide)
                refine v_sipush k_Mind_wellDraws_74 (by decide) ?_
                refine v_idiv k_Mind_wellDraws_77 (by omega) (by decide) ?_
                rw [Int.tdiv_eq_ediv_of_nonneg em.1]
                refine v_bipush k_Mind_wellDraws_78 (by decide) ?_
                refine v_irem k_Mind_wellDraws_80 (by omega) (by decide) ?_
                rw [Int.tmod_eq_emod_of_nonneg (by omega)]
                rw [show (zi * 1664525 + 1013904223) % 2147483648 / 256 % 10 = pz (zst zi) from rfl]
                refine v_callV mo_Tune_setPitch mi_Tune_setPitch mv_Tune_setPitch lk_Mind_73 k_Mind_wellDraws_81 x1.2.1.1 rfl rfl (Nat.le_of_ble_eq_true rfl) rfl (Nat.le_of_ble_eq_true rfl) (c_Tune_setPitch G x1.2.1 (by omega)) (fun v81 h81 q81 => ?_)
                obtain ⟨rfl, nt, f2⟩ := q81
                have hx2 : pMind h81 m (setP (setPs K (done ++ y0 :: rest)) i (pz (zst zi))) sg sd (M.map Prod.fst) (M.map Prod.snd) ms := ⟨f2.at x0 (by omega), ⟨f2.at x1.1 (by omega), nt, x1.2.2.1.fr f2 (by omega), x1.2.2.2.1.fr f2 (by omega), x1.2.2.2.2.1.fr f2 (by omega), x1.2.2.2.2.2.1.fr f2 (by omega), x1.2.2.2.2.2.2.fr f2 (by omega)⟩, x2.fr f2 (by omega), x3.fr f2 (by omega)⟩
                rw [show setP (setPs K (done ++ y0 :: rest)) i (pz (zst zi)) = setPs K ((done ++ [pz (zst zi)]) ++ rest) by rw [← rset_mid hdl]; rfl] at hx2
                refine v_iinc k_Mind_wellDraws_84 rfl (Nat.le_of_ble_eq_true rfl) ?_
                refine v_goto k_Mind_wellDraws_87 (tgt := 35) rfl ?_
                exact ih2 (i + 1) h81 (zst zi) (done ++ [pz (zst zi)]) rest (by omega) (by rw [List.length_append, hdl]; rfl) (by simpa using hrl) hx2 (f1.tr f2 (by omega) (by omega)) (by rw [List.append_assoc, ← hD]; rfl) hZ
        exact loop2 (kP K).length 0 h1 z1 [] cur (by omega) rfl hcl hx1 f1 rfl rfl
  exact loop n.toNat 0 h14 z 0 (kP K) _ (by omega) rfl hx f1 rfl
