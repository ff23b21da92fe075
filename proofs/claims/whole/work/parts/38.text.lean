/-! what is told -/
def tAt (xs : List Int) (p : Int) : Int := if 0 ≤ p ∧ p < xs.length then rget xs p else -1
def tD (xs : List Int) (p : Int) : Bool := decide (48 ≤ tAt xs p ∧ tAt xs p ≤ 57)
theorem tD_iff {xs : List Int} {p : Int} : tD xs p = true ↔ 48 ≤ tAt xs p ∧ tAt xs p ≤ 57 := decide_eq_true_iff
def tKf (a : Int) : Nat → Nat → Int
  | 0, _ => -1
  | n + 1, i => if sBy 0 i = a then i else tKf a n (i + 1)
def tK (xs : List Int) (p : Int) : Int := tKf (tAt xs p) 6 0
theorem tKf_bd (a : Int) : ∀ n i, i + n = 6 → -1 ≤ tKf a n i ∧ tKf a n i ≤ 5
  | 0, _, _ => by simp [tKf]
  | n + 1, i, h => by
    unfold tKf
    split
    · omega
    · exact tKf_bd a n (i + 1) (by omega)
theorem tK_bd (xs : List Int) (p : Int) : -1 ≤ tK xs p ∧ tK xs p ≤ 5 := tKf_bd _ 6 0 rfl
def fmI (xs : List Int) (p : Int) : Nat := if tAt xs p = 118 then (if tD xs (p + 3) then 1 else 2) else if tAt xs p = 114 then 3 else if tAt xs p = 119 then 4 else 5
theorem fmI_lt (xs : List Int) (p : Int) : fmI xs p < 6 := by
  unfold fmI
  repeat' split
  all_goals omega
def fitB (xs : List Int) (sg p : Int) : Bool := if sg = 35 then tD xs p else if sg = 64 then decide (0 ≤ tK xs p) else decide (tAt xs p = sg)
def ff1 (xs : List Int) (p : Int) (w : Nat) : Nat → Nat → Int
  | 0, _ => 0
  | n + 1, i => if fitB xs (sBy w i) (p + i) = true then ff1 xs p w n (i + 1) else -1000 - p - i
def fmL (xs : List Int) (p : Int) : Nat := sLen.getD (fmI xs p) 0
theorem fmL_bd (xs : List Int) (p : Int) : 3 ≤ fmL xs p ∧ fmL xs p ≤ 7 := sLen_bd _ (fmI_lt xs p)
def inF (xs : List Int) (p : Int) : Int := ff1 xs p (fmI xs p) (fmL xs p) 0
def ffA (xs : List Int) : Nat → Int → Int
  | 0, _ => 0
  | k + 1, p => if inF xs p ≠ 0 then inF xs p else if (xs.length : Int) ≤ p + fmL xs p then 0 else ffA xs k (p + fmL xs p)
def tE (xs : List Int) (p : Int) : Int := if tD xs (p + 1) then 10 * (tAt xs p - 48) + (tAt xs (p + 1) - 48) else tAt xs p - 48
def tellS (xs : List Int) (K : CK) (p b : Int) : Option CK :=
  if tAt xs p = 110 then (if tAt xs (p + 2) - 48 < 1 ∨ tAt xs (p + 2) - 48 > 3 ∨ 12 ≤ (kP K).length then none else some (addN K (tAt xs (p + 1) - 48) (tAt xs (p + 2) - 48)))
  else if tAt xs p = 118 then (if tE xs (p + 2) > 60 ∨ 6 ≤ (kK K).length then none else some (addV K (tK xs (p + 1)) (tE xs (p + 2)) (tAt xs (b - 2) - 48)))
  else if tAt xs p = 114 then (if tAt xs (p + 1) - 48 < 1 ∨ tAt xs (p + 1) - 48 > 4 ∨ tAt xs (p + 2) - 48 > 2 then none else some (setS (setR K (tAt xs (p + 1) - 48)) (tAt xs (p + 2) - 48)))
  else if tAt xs p = 119 then (if tAt xs (p + 1) - 48 ≥ 7 then none else some (setW K (((kW K).toNat ^^^ 2 ^ (tAt xs (p + 1) - 48).toNat : Nat) : Int)))
  else none
def tellA (xs : List Int) : Nat → Int → Int → CK → Int × CK
  | 0, _, t, K => (t, K)
  | k + 1, p, t, K => if p < xs.length then (match tellS xs K p (p + fmL xs p) with
    | none => (-2000 - p, K)
    | some K' => tellA xs k (p + fmL xs p) (t + 1) K') else (t, K)
theorem ff1_all {xs : List Int} {p : Int} {w : Nat} (hp : 0 ≤ p) : ∀ n i, ff1 xs p w n i = 0 → ∀ j : Nat, i ≤ j → j < i + n → fitB xs (sBy w j) (p + j) = true
  | 0, i, _, j, h1, h2 => by omega
  | n + 1, i, h, j, h1, h2 => by
    unfold ff1 at h
    split at h
    · rename_i hf
      by_cases e : j = i
      · rw [e]; exact hf
      · exact ff1_all hp n (i + 1) h j (by omega) (by omega)
    · omega
theorem fit_d {xs : List Int} {p : Int} (h : fitB xs 35 p = true) : tD xs p = true := h
theorem fit_k {xs : List Int} {p : Int} (h : fitB xs 64 p = true) : 0 ≤ tK xs p := of_decide_eq_true h
theorem inF_n {xs : List Int} {p : Int} (hp : 0 ≤ p) (h : inF xs p = 0) (ha : tAt xs p = 110) : tD xs (p + 1) = true ∧ tD xs (p + 2) = true := by
  have e : fmI xs p = 5 := by unfold fmI; rw [ha]; rfl
  unfold inF fmL at h
  rw [e] at h
  exact ⟨fit_d (ff1_all hp _ _ h 1 (by decide) (by decide)), fit_d (ff1_all hp _ _ h 2 (by decide) (by decide))⟩
theorem inF_r {xs : List Int} {p : Int} (hp : 0 ≤ p) (h : inF xs p = 0) (ha : tAt xs p = 114) : tD xs (p + 1) = true ∧ tD xs (p + 2) = true := by
  have e : fmI xs p = 3 := by unfold fmI; rw [ha]; rfl
  unfold inF fmL at h
  rw [e] at h
  exact ⟨fit_d (ff1_all hp _ _ h 1 (by decide) (by decide)), fit_d (ff1_all hp _ _ h 2 (by decide) (by decide))⟩
theorem inF_w {xs : List Int} {p : Int} (hp : 0 ≤ p) (h : inF xs p = 0) (ha : tAt xs p = 119) : tD xs (p + 1) = true := by
  have e : fmI xs p = 4 := by unfold fmI; rw [ha]; rfl
  unfold inF fmL at h
  rw [e] at h
  exact fit_d (ff1_all hp _ _ h 1 (by decide) (by decide))
theorem inF_v {xs : List Int} {p : Int} (hp : 0 ≤ p) (h : inF xs p = 0) (ha : tAt xs p = 118) : 0 ≤ tK xs (p + 1) ∧ (0 ≤ tE xs (p + 2) ∧ tE xs (p + 2) ≤ 99) ∧ tD xs (p + fmL xs p - 2) = true := by
  unfold inF at h
  unfold tE
  by_cases hd : tD xs (p + 3) = true
  · have e : fmI xs p = 1 := by unfold fmI; rw [ha, if_pos rfl, if_pos hd]
    have el : fmL xs p = 7 := by unfold fmL; rw [e]; rfl
    rw [el, e] at h
    rw [el, show p + 2 + 1 = p + 3 by omega, if_pos hd]
    have h2' : tD xs (p + 2) = true := fit_d (ff1_all hp _ _ h 2 (by decide) (by decide))
    have h2 := tD_iff.mp h2'
    have h3 := tD_iff.mp hd
    have h5 := fit_d (ff1_all hp _ _ h 5 (by decide) (by decide))
    exact ⟨fit_k (ff1_all hp _ _ h 1 (by decide) (by decide)), by omega, by rw [show p + ((7 : Nat) : Int) - 2 = p + ((5 : Nat) : Int) by omega]; exact h5⟩
  · have e : fmI xs p = 2 := by unfold fmI; rw [ha, if_pos rfl, if_neg hd]
    have el : fmL xs p = 6 := by unfold fmL; rw [e]; rfl
    rw [el, e] at h
    rw [el, show p + 2 + 1 = p + 3 by omega, if_neg hd]
    have h2' : tD xs (p + 2) = true := fit_d (ff1_all hp _ _ h 2 (by decide) (by decide))
    have h2 := tD_iff.mp h2'
    have h5 := fit_d (ff1_all hp _ _ h 4 (by decide) (by decide))
    exact ⟨fit_k (ff1_all hp _ _ h 1 (by decide) (by decide)), by omega, by rw [show p + ((6 : Nat) : Int) - 2 = p + ((4 : Nat) : Int) by omega]; exact h5⟩
theorem xor_bd {w x : Int} (hw : 0 ≤ w ∧ w ≤ 127) (hx : 0 ≤ x ∧ x < 7) : ((w.toNat ^^^ 2 ^ x.toNat : Nat) : Int) ≤ 127 := by
  have h1 : w.toNat < 2 ^ 7 := by omega
  have h2 : 2 ^ x.toNat < 2 ^ 7 := Nat.pow_lt_pow_right (by decide) (by omega)
  have := Nat.xor_lt_two_pow h1 h2
  omega
theorem all_snoc {P : Int → Prop} (l : List Int) (x : Int) (hx : P x) (h : ∀ y ∈ l, P y) : ∀ y ∈ l ++ [x], P y := by
  intro y hy
  rcases List.mem_append.mp hy with h1 | h1
  · exact h y h1
  · rw [List.mem_singleton.mp h1]; exact hx
theorem vK_addN {K : CK} (w : vK K 12 6) {p l : Int} (hn : (kP K).length < 12) (hp : 0 ≤ p ∧ p ≤ 9) (hl : 1 ≤ l ∧ l ≤ 3) : vK (addN K p l) 12 6 := by
  obtain ⟨h1, h2, h3, h4, h5, h6, h7, h8, h9, h10, h11, h12, h13, h14⟩ := w
  have hL : ∀ x ∈ kL K ++ [l], 1 ≤ x ∧ x ≤ 3 := all_snoc (P := fun x => 1 ≤ x ∧ x ≤ 3) _ _ hl h4
  refine ⟨by show (kP K ++ [p]).length = (kL K ++ [l]).length; simp [h1], by show (kP K ++ [p]).length ≤ 12; simp; omega, all_snoc (P := fun x => 0 ≤ x ∧ x ≤ 9) _ _ hp h3, hL, ?_, h6, h7, h8, h9, h10, h11, h12, h13, h14⟩
  have e : bt (addN K p l) = (nobF 0 (kL K ++ [l])).length := rfl
  rw [e]
  have := nobF_len 0 (kL K ++ [l]) hL
  have el : (kL K ++ [l]).length ≤ 12 := by simp; omega
  omega
theorem vK_addV {K : CK} (w : vK K 12 6) {k e hh : Int} (hn : (kK K).length < 6) (hk : 0 ≤ k ∧ k ≤ 5) (he : 0 ≤ e ∧ e ≤ 60) (hhh : 0 ≤ hh ∧ hh ≤ 9) : vK (addV K k e hh) 12 6 := by
  obtain ⟨h1, h2, h3, h4, h5, h6, h7, h8, h9, h10, h11, h12, h13, h14⟩ := w
  refine ⟨h1, h2, h3, h4, h5, by show (kK K ++ [k]).length ≤ 6; simp; omega, by show (kE K ++ [e]).length = (kK K ++ [k]).length; simp [h7], by show (kH K ++ [hh]).length = (kK K ++ [k]).length; simp [h8], all_snoc (P := fun x => 0 ≤ x ∧ x ≤ 5) _ _ hk h9, all_snoc (P := fun x => 0 ≤ x ∧ x ≤ 60) _ _ he h10, all_snoc (P := fun x => 0 ≤ x ∧ x ≤ 9) _ _ hhh h11, h12, h13, h14⟩
theorem vK_setRS {K : CK} {N V : Nat} (w : vK K N V) {m a : Int} (hm : 1 ≤ m ∧ m ≤ 4) (ha : 0 ≤ a ∧ a ≤ 2) : vK (setS (setR K m) a) N V := by
  obtain ⟨h1, h2, h3, h4, h5, h6, h7, h8, h9, h10, h11, h12, h13, h14⟩ := w
  exact ⟨h1, h2, h3, h4, h5, h6, h7, h8, h9, h10, h11, hm, ha, h14⟩
theorem vK_setW {K : CK} {N V : Nat} (w : vK K N V) {m : Int} (hm : 0 ≤ m ∧ m ≤ 127) : vK (setW K m) N V := by
  obtain ⟨h1, h2, h3, h4, h5, h6, h7, h8, h9, h10, h11, h12, h13, h14⟩ := w
  exact ⟨h1, h2, h3, h4, h5, h6, h7, h8, h9, h10, h11, h12, h13, hm⟩
theorem vK_tell {K K' : CK} {xs : List Int} (w : vK K 12 6) {p : Int} (hp : 0 ≤ p) (hf : inF xs p = 0) (h : tellS xs K p (p + fmL xs p) = some K') : vK K' 12 6 := by
  have w' := w
  obtain ⟨h1, h2, h3, h4, h5, h6, h7, h8, h9, h10, h11, h12, h13, h14⟩ := w'
  unfold tellS at h
  split at h
  · rename_i ha
    obtain ⟨d1, d2⟩ := inF_n hp hf ha
    have d1 := tD_iff.mp d1
    split at h
    · cases h
    · cases h
      exact vK_addN w (by omega) (by omega) (by omega)
  split at h
  · rename_i ha
    obtain ⟨d1, d2, d3⟩ := inF_v hp hf ha
    have d3 := tD_iff.mp d3
    have d4 := tK_bd xs (p + 1)
    split at h
    · cases h
    · cases h
      exact vK_addV w (by omega) (by omega) (by omega) (by omega)
  split at h
  · rename_i ha
    obtain ⟨d1, d2⟩ := inF_r hp hf ha
    have d1 := tD_iff.mp d1
    have d2 := tD_iff.mp d2
    split at h
    · cases h
    · cases h
      exact vK_setRS w (by omega) (by omega)
  split at h
  · rename_i ha
    have d1 := tD_iff.mp (inF_w hp hf ha)
    split at h
    · cases h
    · cases h
      exact vK_setW w ⟨Int.natCast_nonneg _, xor_bd h14 (by omega)⟩
  · cases h
theorem tAt_in {xs : List Int} (hx : ∀ x ∈ xs, InR x) (p : Int) : InR (tAt xs p) := by
  unfold tAt
  split
  · rename_i h
    rw [rget, if_pos h, List.getD_eq_getElem?_getD, List.getElem?_eq_getElem (by omega)]
    exact hx _ (List.getElem_mem _)
  · decide
set_option maxHeartbeats 4000000 in
set_option maxRecDepth 20000 in
theorem c_Text_size (G : Gx) {h : AH} {m : Nat} {xs : List Int} (hp : pText h m xs) : Ct G Y_Text_size 1 0 0 [aR m] h (isR (some (aI xs.length)) h) := by
  obtain ⟨t0, t1⟩ := id hp
  obtain ⟨cs, r1, r2⟩ := id t1
  refine Ct.of_V mo_Text_size rfl (Nat.le_of_ble_eq_true rfl) rfl ?_
  refine v_aload_n k_Text_size_0 rfl ?_
  refine v_getf fl_Text_14 t0 rfl k_Text_size_1 ?_
  refine v_callVr mo_Row_size mi_Row_size mv_Row_size lk_Text_20 k_Text_size_4 r1 rfl rfl (Nat.le_of_ble_eq_true rfl) rfl (Nat.le_of_ble_eq_true rfl) (c_Row_size G t1) ?_
  refine v_ireturn k_Text_size_7 rfl rfl ?_
  exact ⟨rfl, rfl⟩


set_option maxHeartbeats 4000000 in
set_option maxRecDepth 20000 in
theorem c_Text_add (G : Gx) {h : AH} {m : Nat} {xs : List Int} (hp : pText h m xs) {x : Int} : Ct G Y_Text_add 1 0 0 [aR m, aI x] h (fun v h' => v = some (aI (radd 80 xs x).length) ∧ pText h' m (radd 80 xs x) ∧ Fr m (m + 3) h h') := by
  obtain ⟨t0, t1⟩ := id hp
  obtain ⟨cs, r1, r2⟩ := id t1
  refine Ct.of_V mo_Text_add rfl (Nat.le_of_ble_eq_true rfl) rfl ?_
  refine v_aload_n k_Text_add_0 rfl ?_
  refine v_getf fl_Text_14 t0 rfl k_Text_add_1 ?_
  refine v_iload_n k_Text_add_4 rfl ?_
  refine v_callV mo_Row_add mi_Row_add mv_Row_add lk_Text_24 k_Text_add_5 r1 rfl rfl (Nat.le_of_ble_eq_true rfl) rfl (Nat.le_of_ble_eq_true rfl) (c_Row_add G t1 (x := x)) (fun v5 h5 q5 => ?_)
  obtain ⟨rfl, t9, f5⟩ := q5
  have hp9 : pText h5 m (radd 80 xs x) := ⟨f5.at t0 (by omega), t9⟩
  obtain ⟨cs9, u1, u2⟩ := id t9
  have u0 := hp9.1
  refine v_aload_n k_Text_add_8 rfl ?_
  refine v_getf fl_Text_14 u0 rfl k_Text_add_9 ?_
  refine v_callVr mo_Row_size mi_Row_size mv_Row_size lk_Text_20 k_Text_add_12 u1 rfl rfl (Nat.le_of_ble_eq_true rfl) rfl (Nat.le_of_ble_eq_true rfl) (c_Row_size G t9) ?_
  refine v_ireturn k_Text_add_15 rfl rfl ?_
  exact ⟨rfl, hp9, f5.wd (by omega) (by omega)⟩

set_option maxHeartbeats 4000000 in
set_option maxRecDepth 20000 in
theorem c_Text_clear (G : Gx) {h : AH} {m : Nat} {xs : List Int} (hp : pText h m xs) : Ct G Y_Text_clear 1 0 0 [aR m] h (fun v h' => v = none ∧ pText h' m [] ∧ Fr m (m + 3) h h') := by
  obtain ⟨t0, t1⟩ := id hp
  obtain ⟨cs, r1, r2⟩ := id t1
  refine Ct.of_V mo_Text_clear rfl (Nat.le_of_ble_eq_true rfl) rfl ?_
  refine v_aload_n k_Text_clear_0 rfl ?_
  refine v_getf fl_Text_14 t0 rfl k_Text_clear_1 ?_
  refine v_callV mo_Row_clear mi_Row_clear mv_Row_clear lk_Text_27 k_Text_clear_4 r1 rfl rfl (Nat.le_of_ble_eq_true rfl) rfl (Nat.le_of_ble_eq_true rfl) (c_Row_clear G t1) (fun v4 h4 q4 => ?_)
  obtain ⟨rfl, t9, f5⟩ := q4
  refine v_return k_Text_clear_7 rfl ?_
  exact ⟨rfl, ⟨f5.at t0 (by omega), t9⟩, f5.wd (by omega) (by omega)⟩

set_option maxHeartbeats 4000000 in
set_option maxRecDepth 20000 in
theorem c_Text_at (G : Gx) {h : AH} {m : Nat} {xs : List Int} (hp : pText h m xs) {p : Int} (hq : InR p) : Ct G Y_Text_at 1 0 0 [aR m, aI p] h (isR (some (aI (tAt xs p))) h) := by
  obtain ⟨t0, t1⟩ := id hp
  obtain ⟨cs, r1, r2⟩ := id t1
  refine Ct.of_V mo_Text_at rfl (Nat.le_of_ble_eq_true rfl) rfl ?_
  refine v_aload_n k_Text_at_0 rfl ?_
  refine v_getf fl_Text_14 t0 rfl k_Text_at_1 ?_
  refine v_iload_n k_Text_at_4 rfl ?_
  refine v_callVr mo_Row_has mi_Row_has mv_Row_has lk_Text_30 k_Text_at_5 r1 rfl rfl (Nat.le_of_ble_eq_true rfl) rfl (Nat.le_of_ble_eq_true rfl) (c_Row_has G t1 hq) ?_
  refine v_ifeq 22 k_Text_at_8 rfl (by split <;> decide) (fun c8 => ?_) (fun c8 => ?_)
  · refine v_iconst k_Text_at_22 ?_
    refine v_ireturn k_Text_at_23 rfl rfl ?_
    first
      | exact ⟨by unfold tAt; rw [if_pos (by apply Classical.byContradiction; intro q; rw [if_neg q] at c8; exact c8 rfl)], rfl⟩
      | exact ⟨by unfold tAt; rw [if_neg (by intro q; rw [if_pos q] at c8; exact absurd c8 (by decide))], rfl⟩
  · refine v_aload_n k_Text_at_11 rfl ?_
    refine v_getf fl_Text_14 t0 rfl k_Text_at_12 ?_
    refine v_iload_n k_Text_at_15 rfl ?_
    refine v_callVr mo_Row_get mi_Row_get mv_Row_get lk_Text_34 k_Text_at_16 r1 rfl rfl (Nat.le_of_ble_eq_true rfl) rfl (Nat.le_of_ble_eq_true rfl) (c_Row_get G t1 hq) ?_
    refine v_goto k_Text_at_19 (tgt := 23) rfl ?_
    refine v_ireturn k_Text_at_23 rfl rfl ?_
    first
      | exact ⟨by unfold tAt; rw [if_pos (by apply Classical.byContradiction; intro q; rw [if_neg q] at c8; exact c8 rfl)], rfl⟩
      | exact ⟨by unfold tAt; rw [if_neg (by intro q; rw [if_pos q] at c8; exact absurd c8 (by decide))], rfl⟩

set_option maxHeartbeats 4000000 in
set_option maxRecDepth 20000 in
theorem c_Text_isDigit (G : Gx) {h : AH} {m : Nat} {xs : List Int} (hp : pText h m xs) (hx : ∀ x ∈ xs, InR x) {p : Int} (hq : 0 ≤ p ∧ p ≤ 1000) : Ct G Y_Text_isDigit 2 0 0 [aR m, aI p] h (isR (some (aI (if tD xs p = true then 1 else 0))) h) := by
  obtain ⟨t0, t1⟩ := id hp
  obtain ⟨cs, r1, r2⟩ := id t1
  have ha := tAt_in hx p
  have ht := @tD_iff xs p
  refine Ct.of_V mo_Text_isDigit rfl (Nat.le_of_ble_eq_true rfl) rfl ?_
  refine v_aload_n k_Text_isDigit_0 rfl ?_
  refine v_iload_n k_Text_isDigit_1 rfl ?_
  refine v_callVr mo_Text_at mi_Text_at mv_Text_at lk_Text_38 k_Text_isDigit_2 t0 rfl rfl (Nat.le_of_ble_eq_true rfl) rfl (Nat.le_of_ble_eq_true rfl) (c_Text_at G hp (p := p) (by omega)) ?_
  refine v_bipush k_Text_isDigit_5 (by decide) ?_
  refine v_iclt 24 k_Text_isDigit_7 rfl (by omega) (by omega) (fun c7 => ?_) (fun c7 => ?_)
  · refine v_iconst k_Text_isDigit_24 ?_
    refine v_ireturn k_Text_isDigit_25 rfl (by first | rfl | (split <;> rfl)) ?_
    first
      | exact ⟨by rw [if_pos (ht.mpr (by omega))], rfl⟩
      | exact ⟨by rw [if_neg (fun q => by have := ht.mp q; omega)], rfl⟩
  · refine v_aload_n k_Text_isDigit_10 rfl ?_
    refine v_iload_n k_Text_isDigit_11 rfl ?_
    refine v_callVr mo_Text_at mi_Text_at mv_Text_at lk_Text_38 k_Text_isDigit_12 t0 rfl rfl (Nat.le_of_ble_eq_true rfl) rfl (Nat.le_of_ble_eq_true rfl) (c_Text_at G hp (p := p) (by omega)) ?_
    refine v_bipush k_Text_isDigit_15 (by decide) ?_
    refine v_icgt 24 k_Text_isDigit_17 rfl (by omega) (by omega) (fun c17 => ?_) (fun c17 => ?_)
    · refine v_iconst k_Text_isDigit_24 ?_
      refine v_ireturn k_Text_isDigit_25 rfl (by first | rfl | (split <;> rfl)) ?_
      first
        | exact ⟨by rw [if_pos (ht.mpr (by omega))], rfl⟩
        | exact ⟨by rw [if_neg (fun q => by have := ht.mp q; omega)], rfl⟩
    · refine v_iconst k_Text_isDigit_20 ?_
      refine v_goto k_Text_isDigit_21 (tgt := 25) rfl ?_
      refine v_ireturn k_Text_isDigit_25 rfl (by first | rfl | (split <;> rfl)) ?_
      first
        | exact ⟨by rw [if_pos (ht.mpr (by omega))], rfl⟩
        | exact ⟨by rw [if_neg (fun q => by have := ht.mp q; omega)], rfl⟩

set_option maxHeartbeats 4000000 in
set_option maxRecDepth 20000 in
theorem c_Text_digit (G : Gx) {h : AH} {m : Nat} {xs : List Int} (hp : pText h m xs) {p : Int} (hq : 0 ≤ p ∧ p ≤ 1000) : Ct G Y_Text_digit 2 0 0 [aR m, aI p] h (isR (some (aI (tAt xs p - 48))) h) := by
  obtain ⟨t0, t1⟩ := id hp
  obtain ⟨cs, r1, r2⟩ := id t1
  refine Ct.of_V mo_Text_digit rfl (Nat.le_of_ble_eq_true rfl) rfl ?_
  refine v_aload_n k_Text_digit_0 rfl ?_
  refine v_iload_n k_Text_digit_1 rfl ?_
  refine v_callVr mo_Text_at mi_Text_at mv_Text_at lk_Text_38 k_Text_digit_2 t0 rfl rfl (Nat.le_of_ble_eq_true rfl) rfl (Nat.le_of_ble_eq_true rfl) (c_Text_at G hp (p := p) (by omega)) ?_
  refine v_bipush k_Text_digit_5 (by decide) ?_
  refine v_isub k_Text_digit_7 ?_
  refine v_ireturn k_Text_digit_8 rfl rfl ?_
  exact ⟨rfl, rfl⟩

set_option maxHeartbeats 4000000 in
set_option maxRecDepth 20000 in
theorem c_Text_kind (G : Gx) {h : AH} {m : Nat} {xs : List Int} (hp : pText h m xs) (hx : ∀ x ∈ xs, InR x) {p : Int} (hq : 0 ≤ p ∧ p ≤ 1000) : Ct G Y_Text_kind 4 0 0 [aR m, aI p] h (isR (some (aI (tK xs p))) h) := by
  obtain ⟨t0, t1⟩ := id hp
  obtain ⟨cs, r1, r2⟩ := id t1
  have ha := tAt_in hx p
  refine Ct.of_V mo_Text_kind rfl (Nat.le_of_ble_eq_true rfl) rfl ?_
  have loop : ∀ (n : Nat) (i : Nat), (i + n = 6) → (i ≤ 6) → (tKf (tAt xs p) n i = tK xs p) → V G Y_Text_kind 4 0 0 2 [some (aR m), some (aI p), some (aI i)] [] h (isR (some (aI (tK xs p))) h) := by
    intro n
    induction n with
    | zero =>
      intro i hi hi6 ht
      refine v_iload_n k_Text_kind_2 rfl ?_
      refine v_ldcS (i := 0) rfl (by decide) rfl k_Text_kind_3 ?_
      refine v_callT (i := 0) (by decide) mo_String_length mi_String_length mv_String_length lk_Text_43 k_Text_kind_5 rfl rfl (Nat.le_of_ble_eq_true rfl) rfl (Nat.le_of_ble_eq_true rfl) (c_String_length G (by decide)) ?_
      rw [show ((sLen.getD 0 0 : Nat) : Int) = 6 from rfl]
      refine v_icge 33 k_Text_kind_8 rfl (by omega) (by omega) (fun c8 => ?_) (fun c8 => ?_)
      · refine v_iconst k_Text_kind_33 ?_
        refine v_ireturn k_Text_kind_34 rfl rfl ?_
        exact ⟨by rw [← ht]; rfl, rfl⟩
      · exfalso; omega
    | succ n ih =>
      intro i hi hi6 ht
      have hby := sBy_bd 0 (by decide) i (by omega)
      refine v_iload_n k_Text_kind_2 rfl ?_
      refine v_ldcS (i := 0) rfl (by decide) rfl k_Text_kind_3 ?_
      refine v_callT (i := 0) (by decide) mo_String_length mi_String_length mv_String_length lk_Text_43 k_Text_kind_5 rfl rfl (Nat.le_of_ble_eq_true rfl) rfl (Nat.le_of_ble_eq_true rfl) (c_String_length G (by decide)) ?_
      rw [show ((sLen.getD 0 0 : Nat) : Int) = 6 from rfl]
      refine v_icge 33 k_Text_kind_8 rfl (by omega) (by omega) (fun c8 => ?_) (fun c8 => ?_)
      · exfalso; omega
      · refine v_ldcS (i := 0) rfl (by decide) rfl k_Text_kind_11 ?_
        refine v_iload_n k_Text_kind_13 rfl ?_
        refine v_callT (i := 0) (by decide) mo_String_charAt mi_String_charAt mv_String_charAt lk_Text_48 k_Text_kind_14 rfl rfl (Nat.le_of_ble_eq_true rfl) rfl (Nat.le_of_ble_eq_true rfl) (c_String_charAt G (i := 0) (by decide) (j := (i : Int)) (by have : sLen.getD 0 0 = 6 := rfl; omega)) ?_
        rw [Int.toNat_natCast]
        refine v_aload_n k_Text_kind_17 rfl ?_
        refine v_iload_n k_Text_kind_18 rfl ?_
        refine v_callVr mo_Text_at mi_Text_at mv_Text_at lk_Text_38 k_Text_kind_19 t0 rfl rfl (Nat.le_of_ble_eq_true rfl) rfl (Nat.le_of_ble_eq_true rfl) (c_Text_at G hp (p := p) (by omega)) ?_
        refine v_icne 27 k_Text_kind_22 rfl (by omega) (by omega) (fun c22 => ?_) (fun c22 => ?_)
        · refine v_iinc k_Text_kind_27 rfl (Nat.le_of_ble_eq_true rfl) ?_
          refine v_goto k_Text_kind_30 (tgt := 2) rfl ?_
          refine ih (i + 1) (by omega) (by omega) ?_
          rw [← ht]
          unfold tKf
          rw [if_neg (by omega)]
          cases n <;> rfl
        · refine v_iload_n k_Text_kind_25 rfl ?_
          refine v_ireturn k_Text_kind_26 rfl rfl ?_
          refine ⟨?_, rfl⟩
          rw [← ht]
          unfold tKf
          rw [if_pos (by omega)]
  refine v_iconst k_Text_kind_0 ?_
  refine v_istore_n k_Text_kind_1 ⟨Nat.le_of_ble_eq_true rfl, Nat.le_of_ble_eq_true rfl⟩ ?_
  exact loop 6 0 rfl (by omega) rfl

set_option maxHeartbeats 4000000 in
set_option maxRecDepth 20000 in
theorem c_Text_formAt (G : Gx) {h : AH} {m : Nat} {xs : List Int} (hp : pText h m xs) (hx : ∀ x ∈ xs, InR x) {p : Int} (hq : 0 ≤ p ∧ p ≤ 900) : Ct G Y_Text_formAt 3 0 0 [aR m, aI p] h (isR (some (aR (1 + fmI xs p))) h) := by
  obtain ⟨t0, t1⟩ := id hp
  obtain ⟨cs, r1, r2⟩ := id t1
  have ha := tAt_in hx p
  refine Ct.of_V mo_Text_formAt rfl (Nat.le_of_ble_eq_true rfl) rfl ?_
  refine v_aload_n k_Text_formAt_0 rfl ?_
  refine v_iload_n k_Text_formAt_1 rfl ?_
  refine v_callVr mo_Text_at mi_Text_at mv_Text_at lk_Text_38 k_Text_formAt_2 t0 rfl rfl (Nat.le_of_ble_eq_true rfl) rfl (Nat.le_of_ble_eq_true rfl) (c_Text_at G hp (p := p) (by omega)) ?_

  by_cases e1 : tAt xs p = 118
  · rw [e1]
    refine v_lookup 40 k_Text_formAt_5 (by decide) (by decide) (off := 35) rfl rfl ?_
    refine v_aload_n k_Text_formAt_40 rfl ?_
    refine v_iload_n k_Text_formAt_41 rfl ?_
    refine v_iconst k_Text_formAt_42 ?_
    refine v_iadd k_Text_formAt_43 ?_
    refine v_callVr mo_Text_isDigit mi_Text_isDigit mv_Text_isDigit lk_Text_52 k_Text_formAt_44 t0 rfl rfl (Nat.le_of_ble_eq_true rfl) rfl (Nat.le_of_ble_eq_true rfl) (c_Text_isDigit G hp hx (p := p + 3) (by omega)) ?_
    refine v_ifeq 55 k_Text_formAt_47 rfl (by split <;> decide) (fun c47 => ?_) (fun c47 => ?_)
    · refine v_ldcS (i := 2) rfl (by decide) rfl k_Text_formAt_55 ?_
      refine v_areturn k_Text_formAt_57 rfl ?_
      refine ⟨?_, rfl⟩
      unfold fmI
      rw [if_pos e1]
      by_cases hd : tD xs (p + 3) = true
      · first | (exfalso; rw [if_pos hd] at c47; exact absurd c47 (by decide)) | (rw [if_pos hd])
      · first | (exfalso; rw [if_neg hd] at c47; exact absurd rfl c47) | (rw [if_neg hd])
    · refine v_ldcS (i := 1) rfl (by decide) rfl k_Text_formAt_50 ?_
      refine v_goto k_Text_formAt_52 (tgt := 57) rfl ?_
      refine v_areturn k_Text_formAt_57 rfl ?_
      refine ⟨?_, rfl⟩
      unfold fmI
      rw [if_pos e1]
      by_cases hd : tD xs (p + 3) = true
      · first | (exfalso; rw [if_pos hd] at c47; exact absurd c47 (by decide)) | (rw [if_pos hd])
      · first | (exfalso; rw [if_neg hd] at c47; exact absurd rfl c47) | (rw [if_neg hd])
  by_cases e2 : tAt xs p = 114
  · rw [e2]
    refine v_lookup 58 k_Text_formAt_5 (by decide) (by decide) (off := 53) rfl rfl ?_
    refine v_ldcS (i := 3) rfl (by decide) rfl k_Text_formAt_58 ?_
    refine v_areturn k_Text_formAt_60 rfl ?_
    refine ⟨?_, rfl⟩
    unfold fmI
    rw [if_neg e1, if_pos e2]
  by_cases e3 : tAt xs p = 119
  · rw [e3]
    refine v_lookup 61 k_Text_formAt_5 (by decide) (by decide) (off := 56) rfl rfl ?_
    refine v_ldcS (i := 4) rfl (by decide) rfl k_Text_formAt_61 ?_
    refine v_areturn k_Text_formAt_63 rfl ?_
    refine ⟨?_, rfl⟩
    unfold fmI
    rw [if_neg e1, if_neg e2, if_pos e3]
  refine v_lookup 64 k_Text_formAt_5 ha (by decide) (off := 59) (by simp only [Op.lookupswitch.offset]; rw [if_neg (by omega), if_neg (by omega), if_neg (by omega)]) rfl ?_
  refine v_ldcS (i := 5) rfl (by decide) rfl k_Text_formAt_64 ?_
  refine v_areturn k_Text_formAt_66 rfl ?_
  refine ⟨?_, rfl⟩
  unfold fmI
  rw [if_neg e1, if_neg e2, if_neg e3]

set_option maxHeartbeats 4000000 in
set_option maxRecDepth 20000 in
theorem c_Text_fits (G : Gx) {h : AH} {m : Nat} {xs : List Int} (hp : pText h m xs) (hx : ∀ x ∈ xs, InR x) {p : Int} (hq : 0 ≤ p ∧ p ≤ 1000) {sg : Int} (hg : 0 ≤ sg ∧ sg ≤ 127) : Ct G Y_Text_fits 5 0 0 [aR m, aI sg, aI p] h (isR (some (aI (if fitB xs sg p = true then 1 else 0))) h) := by
  obtain ⟨t0, t1⟩ := id hp
  obtain ⟨cs, r1, r2⟩ := id t1
  have ha := tAt_in hx p
  have hk := tK_bd xs p
  refine Ct.of_V mo_Text_fits rfl (Nat.le_of_ble_eq_true rfl) rfl ?_
  refine v_iload_n k_Text_fits_0 rfl ?_

  by_cases e1 : sg = 35
  · subst e1
    refine v_lookup 28 k_Text_fits_1 (by decide) (by decide) (off := 27) rfl rfl ?_
    refine v_aload_n k_Text_fits_28 rfl ?_
    refine v_iload_n k_Text_fits_29 rfl ?_
    refine v_callVr mo_Text_isDigit mi_Text_isDigit mv_Text_isDigit lk_Text_52 k_Text_fits_30 t0 rfl rfl (Nat.le_of_ble_eq_true rfl) rfl (Nat.le_of_ble_eq_true rfl) (c_Text_isDigit G hp hx (p := p) (by omega)) ?_
    refine v_ireturn k_Text_fits_33 rfl (by first | rfl | (split <;> rfl)) ?_
    exact ⟨rfl, rfl⟩
  by_cases e2 : sg = 64
  · subst e2
    refine v_lookup 34 k_Text_fits_1 (by decide) (by decide) (off := 33) rfl rfl ?_
    refine v_aload_n k_Text_fits_34 rfl ?_
    refine v_iload_n k_Text_fits_35 rfl ?_
    refine v_callVr mo_Text_kind mi_Text_kind mv_Text_kind lk_Text_65 k_Text_fits_36 t0 rfl rfl (Nat.le_of_ble_eq_true rfl) rfl (Nat.le_of_ble_eq_true rfl) (c_Text_kind G hp hx (p := p) (by omega)) ?_
    refine v_iflt 46 k_Text_fits_39 rfl (by omega) (fun c39 => ?_) (fun c39 => ?_)
    · refine v_iconst k_Text_fits_46 ?_
      refine v_ireturn k_Text_fits_47 rfl (by first | rfl | (split <;> rfl)) ?_
      refine ⟨?_, rfl⟩
      rw [show fitB xs 64 p = decide (0 ≤ tK xs p) from rfl]
      first
        | (rw [if_pos (decide_eq_true (by omega))])
        | (rw [if_neg (fun q => by have := of_decide_eq_true q; omega)])
    · refine v_iconst k_Text_fits_42 ?_
      refine v_goto k_Text_fits_43 (tgt := 47) rfl ?_
      refine v_ireturn k_Text_fits_47 rfl (by first | rfl | (split <;> rfl)) ?_
      refine ⟨?_, rfl⟩
      rw [show fitB xs 64 p = decide (0 ≤ tK xs p) from rfl]
      first
        | (rw [if_pos (decide_eq_true (by omega))])
        | (rw [if_neg (fun q => by have := of_decide_eq_true q; omega)])
  refine v_lookup 48 k_Text_fits_1 (by omega) (by decide) (off := 47) (by simp only [Op.lookupswitch.offset]; rw [if_neg (by omega), if_neg (by omega)]) rfl ?_
  refine v_aload_n k_Text_fits_48 rfl ?_
  refine v_iload_n k_Text_fits_49 rfl ?_
  refine v_callVr mo_Text_at mi_Text_at mv_Text_at lk_Text_38 k_Text_fits_50 t0 rfl rfl (Nat.le_of_ble_eq_true rfl) rfl (Nat.le_of_ble_eq_true rfl) (c_Text_at G hp (p := p) (by omega)) ?_
  refine v_iload_n k_Text_fits_53 rfl ?_
  refine v_icne 61 k_Text_fits_54 rfl (by omega) (by omega) (fun c54 => ?_) (fun c54 => ?_)
  · refine v_iconst k_Text_fits_61 ?_
    refine v_ireturn k_Text_fits_62 rfl (by first | rfl | (split <;> rfl)) ?_
    refine ⟨?_, rfl⟩
    rw [show fitB xs sg p = decide (tAt xs p = sg) by unfold fitB; rw [if_neg e1, if_neg e2]]
    first
      | (rw [if_pos (decide_eq_true (by omega))])
      | (rw [if_neg (fun q => by have := of_decide_eq_true q; omega)])
  · refine v_iconst k_Text_fits_57 ?_
    refine v_goto k_Text_fits_58 (tgt := 62) rfl ?_
    refine v_ireturn k_Text_fits_62 rfl (by first | rfl | (split <;> rfl)) ?_
    refine ⟨?_, rfl⟩
    rw [show fitB xs sg p = decide (tAt xs p = sg) by unfold fitB; rw [if_neg e1, if_neg e2]]
    first
      | (rw [if_pos (decide_eq_true (by omega))])
      | (rw [if_neg (fun q => by have := of_decide_eq_true q; omega)])

set_option maxHeartbeats 4000000 in
set_option maxRecDepth 20000 in
theorem c_Text_formFault (G : Gx) {h : AH} {m : Nat} {xs : List Int} (hp : pText h m xs) (hx : ∀ x ∈ xs, InR x) : Ct G Y_Text_formFault 6 0 0 [aR m] h (isR (some (aI (ffA xs 80 0))) h) := by
  obtain ⟨t0, t1⟩ := id hp
  obtain ⟨cs, r1, r2⟩ := id t1
  refine Ct.of_V mo_Text_formFault rfl (Nat.le_of_ble_eq_true rfl) rfl ?_
  have loop : ∀ (k : Nat) (p : Nat) (t : Int) (z1 z2 : Option AV), ((k : Int) + t = 80) → (0 ≤ t) → ((p : Int) ≤ 7 * t) → (ffA xs k p = ffA xs 80 0) → V G Y_Text_formFault 6 0 0 4 [some (aR m), some (aI (p : Int)), some (aI t), z1, z2] [] h (isR (some (aI (ffA xs 80 0))) h) := by
    intro k
    induction k with
    | zero =>
      intro p t z1 z2 hk ht hpp hout
      refine v_iload_n k_Text_formFault_4 rfl ?_
      refine v_bipush k_Text_formFault_5 (by decide) ?_
      refine v_icge 86 k_Text_formFault_7 rfl (by omega) (by omega) (fun c7 => ?_) (fun c7 => ?_)
      · refine v_iconst k_Text_formFault_86 ?_
        refine v_ireturn k_Text_formFault_87 rfl rfl ?_
        exact ⟨by rw [← hout]; rfl, rfl⟩
      · exfalso; omega
    | succ k ih =>
      intro p t z1 z2 hk ht hpp hout
      have hfl := fmI_lt xs p
      have hfb := fmL_bd xs p
      refine v_iload_n k_Text_formFault_4 rfl ?_
      refine v_bipush k_Text_formFault_5 (by decide) ?_
      refine v_icge 86 k_Text_formFault_7 rfl (by omega) (by omega) (fun c7 => ?_) (fun c7 => ?_)
      · exfalso; omega
      · refine v_aload_n k_Text_formFault_10 rfl ?_
        refine v_iload_n k_Text_formFault_11 rfl ?_
        refine v_callVr mo_Text_formAt mi_Text_formAt mv_Text_formAt lk_Text_68 k_Text_formFault_12 t0 rfl rfl (Nat.le_of_ble_eq_true rfl) rfl (Nat.le_of_ble_eq_true rfl) (c_Text_formAt G hp hx (p := (p : Int)) (by omega)) ?_
        refine v_astore_n k_Text_formFault_15 ⟨Nat.le_of_ble_eq_true rfl, Nat.le_of_ble_eq_true rfl⟩ ?_
        refine v_iconst k_Text_formFault_16 ?_
        refine v_istore k_Text_formFault_17 ⟨Nat.le_of_ble_eq_true rfl, Nat.le_of_ble_eq_true rfl⟩ ?_
        have loop2 : ∀ (n : Nat) (i : Nat), (i + n = fmL xs p) → (i ≤ 7) → (ff1 xs p (fmI xs p) n i = ff1 xs p (fmI xs p) (fmL xs p) 0) → V G Y_Text_formFault 6 0 0 19 [some (aR m), some (aI (p : Int)), some (aI t), some (aR (1 + fmI xs p)), some (aI (i : Int))] [] h (isR (some (aI (ffA xs 80 0))) h) := by
          intro n
          induction n with
          | zero =>
            intro i hi hi6 hff
            refine v_iload k_Text_formFault_19 rfl ?_
            refine v_aload_n k_Text_formFault_21 rfl ?_
            refine v_callT (i := fmI xs p) hfl mo_String_length mi_String_length mv_String_length lk_Text_43 k_Text_formFault_22 rfl rfl (Nat.le_of_ble_eq_true rfl) rfl (Nat.le_of_ble_eq_true rfl) (c_String_length G hfl) ?_
            rw [show ((sLen.getD (fmI xs p) 0 : Nat) : Int) = ((fmL xs p : Nat) : Int) from rfl]
            refine v_icge 60 k_Text_formFault_25 rfl (by omega) (by omega) (fun c25 => ?_) (fun c25 => ?_)
            · refine v_iload_n k_Text_formFault_60 rfl ?_
              refine v_aload_n k_Text_formFault_61 rfl ?_
              refine v_callT (i := fmI xs p) hfl mo_String_length mi_String_length mv_String_length lk_Text_43 k_Text_formFault_62 rfl rfl (Nat.le_of_ble_eq_true rfl) rfl (Nat.le_of_ble_eq_true rfl) (c_String_length G hfl) ?_
              rw [show ((sLen.getD (fmI xs p) 0 : Nat) : Int) = ((fmL xs p : Nat) : Int) from rfl]
              refine v_iadd k_Text_formFault_65 ?_
              refine v_istore_n k_Text_formFault_66 ⟨Nat.le_of_ble_eq_true rfl, Nat.le_of_ble_eq_true rfl⟩ ?_
              refine v_iload_n k_Text_formFault_67 rfl ?_
              refine v_aload_n k_Text_formFault_68 rfl ?_
              refine v_getf fl_Text_14 t0 rfl k_Text_formFault_69 ?_
              refine v_callVr mo_Row_size mi_Row_size mv_Row_size lk_Text_20 k_Text_formFault_72 r1 rfl rfl (Nat.le_of_ble_eq_true rfl) rfl (Nat.le_of_ble_eq_true rfl) (c_Row_size G t1) ?_
              refine v_iclt 80 k_Text_formFault_75 rfl (by omega) (by omega) (fun c75 => ?_) (fun c75 => ?_)
              · refine v_iinc k_Text_formFault_80 rfl (Nat.le_of_ble_eq_true rfl) ?_
                refine v_goto k_Text_formFault_83 (tgt := 4) rfl ?_
                have h0 : inF xs p = 0 := by rw [inF, ← hff]; rfl
                rw [show (p : Int) + ((fmL xs p : Nat) : Int) = ((p + fmL xs p : Nat) : Int) by omega]
                refine ih (p + fmL xs p) (t + 1) _ _ (by omega) (by omega) (by omega) ?_
                rw [← hout, ffA, if_neg (by omega), if_neg (by omega)]
                rw [show (p : Int) + ((fmL xs p : Nat) : Int) = ((p + fmL xs p : Nat) : Int) by omega]
              · refine v_iconst k_Text_formFault_78 ?_
                refine v_ireturn k_Text_formFault_79 rfl rfl ?_
                have h0 : inF xs p = 0 := by rw [inF, ← hff]; rfl
                exact ⟨by rw [← hout, ffA, if_neg (by omega), if_pos (by omega)], rfl⟩
            · exfalso; omega
          | succ n ih2 =>
            intro i hi hi6 hff
            refine v_iload k_Text_formFault_19 rfl ?_
            refine v_aload_n k_Text_formFault_21 rfl ?_
            refine v_callT (i := fmI xs p) hfl mo_String_length mi_String_length mv_String_length lk_Text_43 k_Text_formFault_22 rfl rfl (Nat.le_of_ble_eq_true rfl) rfl (Nat.le_of_ble_eq_true rfl) (c_String_length G hfl) ?_
            rw [show ((sLen.getD (fmI xs p) 0 : Nat) : Int) = ((fmL xs p : Nat) : Int) from rfl]
            refine v_icge 60 k_Text_formFault_25 rfl (by omega) (by omega) (fun c25 => ?_) (fun c25 => ?_)
            · exfalso; omega
            · refine v_aload_n k_Text_formFault_28 rfl ?_
              refine v_aload_n k_Text_formFault_29 rfl ?_
              refine v_iload k_Text_formFault_30 rfl ?_
              refine v_callT (i := fmI xs p) hfl mo_String_charAt mi_String_charAt mv_String_charAt lk_Text_48 k_Text_formFault_32 rfl rfl (Nat.le_of_ble_eq_true rfl) rfl (Nat.le_of_ble_eq_true rfl) (c_String_charAt G hfl (j := (i : Int)) (by have : sLen.getD (fmI xs p) 0 = fmL xs p := rfl; omega)) ?_
              rw [Int.toNat_natCast]
              have hby := sBy_bd _ hfl i (by omega)
              refine v_iload_n k_Text_formFault_35 rfl ?_
              refine v_iload k_Text_formFault_36 rfl ?_
              refine v_iadd k_Text_formFault_38 ?_
              refine v_callVr mo_Text_fits mi_Text_fits mv_Text_fits lk_Text_72 k_Text_formFault_39 t0 rfl rfl (Nat.le_of_ble_eq_true rfl) rfl (Nat.le_of_ble_eq_true rfl) (c_Text_fits G hp hx (p := (p : Int) + (i : Int)) (by omega) (sg := sBy (fmI xs p) i) (by omega)) ?_
              refine v_ifne 54 k_Text_formFault_42 rfl (by split <;> decide) (fun c42 => ?_) (fun c42 => ?_)
              · refine v_iinc k_Text_formFault_54 rfl (Nat.le_of_ble_eq_true rfl) ?_
                refine v_goto k_Text_formFault_57 (tgt := 19) rfl ?_
                refine ih2 (i + 1) (by omega) (by omega) ?_
                rw [← hff]
                rw [ff1]
                rw [if_pos (by apply Classical.byContradiction; intro q; rw [if_neg q] at c42; exact c42 rfl)]
              · refine v_sipush k_Text_formFault_45 (by decide) ?_
                refine v_iload_n k_Text_formFault_48 rfl ?_
                refine v_isub k_Text_formFault_49 ?_
                refine v_iload k_Text_formFault_50 rfl ?_
                refine v_isub k_Text_formFault_52 ?_
                refine v_ireturn k_Text_formFault_53 rfl rfl ?_
                refine ⟨?_, rfl⟩
                rw [← hout, ffA]
                have e : inF xs p = -1000 - p - i := by
                  rw [inF, ← hff]
                  rw [ff1]
                  rw [if_neg (by intro q; rw [if_pos q] at c42; exact absurd c42 (by decide))]
                rw [if_pos (by rw [e]; omega), e]
        exact loop2 (fmL xs p) 0 (by omega) (by omega) rfl
  refine v_iconst k_Text_formFault_0 ?_
  refine v_istore_n k_Text_formFault_1 ⟨Nat.le_of_ble_eq_true rfl, Nat.le_of_ble_eq_true rfl⟩ ?_
  refine v_iconst k_Text_formFault_2 ?_
  refine v_istore_n k_Text_formFault_3 ⟨Nat.le_of_ble_eq_true rfl, Nat.le_of_ble_eq_true rfl⟩ ?_
  exact loop 80 0 0 _ _ (by omega) (by omega) (by omega) rfl

set_option maxHeartbeats 4000000 in
set_option maxRecDepth 20000 in
theorem c_Text_entry (G : Gx) {h : AH} {m : Nat} {xs : List Int} (hp : pText h m xs) (hx : ∀ x ∈ xs, InR x) {p : Int} (hq : 0 ≤ p ∧ p ≤ 900) : Ct G Y_Text_entry 3 0 0 [aR m, aI p] h (isR (some (aI (tE xs p))) h) := by
  obtain ⟨t0, t1⟩ := id hp
  obtain ⟨cs, r1, r2⟩ := id t1
  refine Ct.of_V mo_Text_entry rfl (Nat.le_of_ble_eq_true rfl) rfl ?_
  refine v_aload_n k_Text_entry_0 rfl ?_
  refine v_iload_n k_Text_entry_1 rfl ?_
  refine v_iconst k_Text_entry_2 ?_
  refine v_iadd k_Text_entry_3 ?_
  refine v_callVr mo_Text_isDigit mi_Text_isDigit mv_Text_isDigit lk_Text_52 k_Text_entry_4 t0 rfl rfl (Nat.le_of_ble_eq_true rfl) rfl (Nat.le_of_ble_eq_true rfl) (c_Text_isDigit G hp hx (p := p + 1) (by omega)) ?_
  refine v_ifeq 29 k_Text_entry_7 rfl (by split <;> decide) (fun c7 => ?_) (fun c7 => ?_)
  · refine v_aload_n k_Text_entry_29 rfl ?_
    refine v_iload_n k_Text_entry_30 rfl ?_
    refine v_callVr mo_Text_digit mi_Text_digit mv_Text_digit lk_Text_80 k_Text_entry_31 t0 rfl rfl (Nat.le_of_ble_eq_true rfl) rfl (Nat.le_of_ble_eq_true rfl) (c_Text_digit G hp (p := p) (by omega)) ?_
    refine v_ireturn k_Text_entry_34 rfl rfl ?_
    refine ⟨?_, rfl⟩
    unfold tE
    by_cases hd : tD xs (p + 1) = true
    · first | (exfalso; rw [if_pos hd] at c7; exact absurd c7 (by decide)) | (rw [if_pos hd])
    · first | (exfalso; rw [if_neg hd] at c7; exact absurd rfl c7) | (rw [if_neg hd])
  · refine v_bipush k_Text_entry_10 (by decide) ?_
    refine v_aload_n k_Text_entry_12 rfl ?_
    refine v_iload_n k_Text_entry_13 rfl ?_
    refine v_callVr mo_Text_digit mi_Text_digit mv_Text_digit lk_Text_80 k_Text_entry_14 t0 rfl rfl (Nat.le_of_ble_eq_true rfl) rfl (Nat.le_of_ble_eq_true rfl) (c_Text_digit G hp (p := p) (by omega)) ?_
    refine v_imul k_Text_entry_17 ?_
    refine v_aload_n k_Text_entry_18 rfl ?_
    refine v_iload_n k_Text_entry_19 rfl ?_
    refine v_iconst k_Text_entry_20 ?_
    refine v_iadd k_Text_entry_21 ?_
    refine v_callVr mo_Text_digit mi_Text_digit mv_Text_digit lk_Text_80 k_Text_entry_22 t0 rfl rfl (Nat.le_of_ble_eq_true rfl) rfl (Nat.le_of_ble_eq_true rfl) (c_Text_digit G hp (p := p + 1) (by omega)) ?_
    refine v_iadd k_Text_entry_25 ?_
    refine v_goto k_Text_entry_26 (tgt := 34) rfl ?_
    refine v_ireturn k_Text_entry_34 rfl rfl ?_
    refine ⟨?_, rfl⟩
    unfold tE
    by_cases hd : tD xs (p + 1) = true
    · first | (exfalso; rw [if_pos hd] at c7; exact absurd c7 (by decide)) | (rw [if_pos hd])
    · first | (exfalso; rw [if_neg hd] at c7; exact absurd rfl c7) | (rw [if_neg hd])

set_option maxHeartbeats 4000000 in
set_option maxRecDepth 20000 in
theorem c_Text_tell (G : Gx) {h : AH} {m : Nat} {xs : List Int} (hp : pText h m xs) (hx : ∀ x ∈ xs, InR x) {c : Nat} {K : CK} {sg sd : List Int} (hc : pCanon h c K sg sd) (w : vK K 12 6) {p : Int} (hq : 0 ≤ p ∧ p ≤ 800) (hf : inF xs p = 0) : Ct G Y_Text_tell 5 0 0 [aR m, aR c, aI p, aI (p + fmL xs p)] h (fun v h' => ((tellS xs K p (p + fmL xs p) = none ∧ v = some (aI 0) ∧ h' = h) ∨ ∃ K', tellS xs K p (p + fmL xs p) = some K' ∧ v = some (aI 1) ∧ pCanon h' c K' sg sd) ∧ Fr c (c + 18) h h') := by
  obtain ⟨t0, t1⟩ := id hp
  obtain ⟨cs, r1, r2⟩ := id t1
  obtain ⟨c0, c1⟩ := id hc
  have ha := tAt_in hx p
  refine Ct.of_V mo_Text_tell rfl (Nat.le_of_ble_eq_true rfl) rfl ?_
  refine v_aload_n k_Text_tell_0 rfl ?_
  refine v_ifnonnull 6 k_Text_tell_1 rfl ?_
  refine v_aload_n k_Text_tell_6 rfl ?_
  refine v_iload_n k_Text_tell_7 rfl ?_
  refine v_callVr mo_Text_at mi_Text_at mv_Text_at lk_Text_38 k_Text_tell_8 t0 rfl rfl (Nat.le_of_ble_eq_true rfl) rfl (Nat.le_of_ble_eq_true rfl) (c_Text_at G hp (p := p) (by omega)) ?_

  by_cases e1 : tAt xs p = 110
  · rw [e1]
    refine v_tableIn 64 k_Text_tell_11 (by decide) (by decide) (by decide) (off := 53) rfl rfl ?_
    obtain ⟨d1, d2⟩ := inF_n hq.1 hf e1
    have d2 := tD_iff.mp d2
    refine v_aload_n k_Text_tell_64 rfl ?_
    refine v_aload_n k_Text_tell_65 rfl ?_
    refine v_iload_n k_Text_tell_66 rfl ?_
    refine v_iconst k_Text_tell_67 ?_
    refine v_iadd k_Text_tell_68 ?_
    refine v_callVr mo_Text_digit mi_Text_digit mv_Text_digit lk_Text_80 k_Text_tell_69 t0 rfl rfl (Nat.le_of_ble_eq_true rfl) rfl (Nat.le_of_ble_eq_true rfl) (c_Text_digit G hp (by omega)) ?_
    refine v_aload_n k_Text_tell_72 rfl ?_
    refine v_iload_n k_Text_tell_73 rfl ?_
    refine v_iconst k_Text_tell_74 ?_
    refine v_iadd k_Text_tell_75 ?_
    refine v_callVr mo_Text_digit mi_Text_digit mv_Text_digit lk_Text_80 k_Text_tell_76 t0 rfl rfl (Nat.le_of_ble_eq_true rfl) rfl (Nat.le_of_ble_eq_true rfl) (c_Text_digit G hp (by omega)) ?_
    refine v_callV mo_Canon_tellNote mi_Canon_tellNote mv_Canon_tellNote lk_Text_83 k_Text_tell_79 c0 rfl rfl (Nat.le_of_ble_eq_true rfl) rfl (Nat.le_of_ble_eq_true rfl) (c_Canon_tellNote G hc w (by omega)) (fun v79 h79 q79 => ?_)
    obtain ⟨qq, ff⟩ := q79
    rcases qq with ⟨g1, rfl, rfl⟩ | ⟨g1, rfl, g3⟩
    · refine v_ireturn k_Text_tell_82 rfl rfl ?_
      exact ⟨Or.inl ⟨by unfold tellS; rw [if_pos e1]; rw [if_pos g1], rfl, rfl⟩, ff⟩
    · refine v_ireturn k_Text_tell_82 rfl rfl ?_
      exact ⟨Or.inr ⟨_, by unfold tellS; rw [if_pos e1]; rw [if_neg g1], rfl, g3⟩, ff⟩
  by_cases e2 : tAt xs p = 118
  · rw [e2]
    refine v_tableIn 83 k_Text_tell_11 (by decide) (by decide) (by decide) (off := 72) rfl rfl ?_
    obtain ⟨d1, d2, d3⟩ := inF_v hq.1 hf e2
    have hfb := fmL_bd xs p
    refine v_aload_n k_Text_tell_83 rfl ?_
    refine v_aload_n k_Text_tell_84 rfl ?_
    refine v_iload_n k_Text_tell_85 rfl ?_
    refine v_iconst k_Text_tell_86 ?_
    refine v_iadd k_Text_tell_87 ?_
    refine v_callVr mo_Text_kind mi_Text_kind mv_Text_kind lk_Text_65 k_Text_tell_88 t0 rfl rfl (Nat.le_of_ble_eq_true rfl) rfl (Nat.le_of_ble_eq_true rfl) (c_Text_kind G hp hx (by omega)) ?_
    refine v_aload_n k_Text_tell_91 rfl ?_
    refine v_iload_n k_Text_tell_92 rfl ?_
    refine v_iconst k_Text_tell_93 ?_
    refine v_iadd k_Text_tell_94 ?_
    refine v_callVr mo_Text_entry mi_Text_entry mv_Text_entry lk_Text_89 k_Text_tell_95 t0 rfl rfl (Nat.le_of_ble_eq_true rfl) rfl (Nat.le_of_ble_eq_true rfl) (c_Text_entry G hp hx (by omega)) ?_
    refine v_aload_n k_Text_tell_98 rfl ?_
    refine v_iload_n k_Text_tell_99 rfl ?_
    refine v_iconst k_Text_tell_100 ?_
    refine v_isub k_Text_tell_101 ?_
    refine v_callVr mo_Text_digit mi_Text_digit mv_Text_digit lk_Text_80 k_Text_tell_102 t0 rfl rfl (Nat.le_of_ble_eq_true rfl) rfl (Nat.le_of_ble_eq_true rfl) (c_Text_digit G hp (by omega)) ?_
    refine v_callV mo_Canon_tellVoice mi_Canon_tellVoice mv_Canon_tellVoice lk_Text_92 k_Text_tell_105 c0 rfl rfl (Nat.le_of_ble_eq_true rfl) rfl (Nat.le_of_ble_eq_true rfl) (c_Canon_tellVoice G hc w (by omega)) (fun v105 h105 q105 => ?_)
    obtain ⟨qq, ff⟩ := q105
    rcases qq with ⟨g1, rfl, rfl⟩ | ⟨g1, rfl, g3⟩
    · refine v_ireturn k_Text_tell_108 rfl rfl ?_
      exact ⟨Or.inl ⟨by unfold tellS; rw [if_neg e1, if_pos e2]; rw [if_pos g1], rfl, rfl⟩, ff⟩
    · refine v_ireturn k_Text_tell_108 rfl rfl ?_
      exact ⟨Or.inr ⟨_, by unfold tellS; rw [if_neg e1, if_pos e2]; rw [if_neg g1], rfl, g3⟩, ff⟩
  by_cases e3 : tAt xs p = 114
  · rw [e3]
    refine v_tableIn 109 k_Text_tell_11 (by decide) (by decide) (by decide) (off := 98) rfl rfl ?_
    obtain ⟨d1, d2⟩ := inF_r hq.1 hf e3
    have d1 := tD_iff.mp d1
    have d2 := tD_iff.mp d2
    refine v_aload_n k_Text_tell_109 rfl ?_
    refine v_aload_n k_Text_tell_110 rfl ?_
    refine v_iload_n k_Text_tell_111 rfl ?_
    refine v_iconst k_Text_tell_112 ?_
    refine v_iadd k_Text_tell_113 ?_
    refine v_callVr mo_Text_digit mi_Text_digit mv_Text_digit lk_Text_80 k_Text_tell_114 t0 rfl rfl (Nat.le_of_ble_eq_true rfl) rfl (Nat.le_of_ble_eq_true rfl) (c_Text_digit G hp (by omega)) ?_
    refine v_aload_n k_Text_tell_117 rfl ?_
    refine v_iload_n k_Text_tell_118 rfl ?_
    refine v_iconst k_Text_tell_119 ?_
    refine v_iadd k_Text_tell_120 ?_
    refine v_callVr mo_Text_digit mi_Text_digit mv_Text_digit lk_Text_80 k_Text_tell_121 t0 rfl rfl (Nat.le_of_ble_eq_true rfl) rfl (Nat.le_of_ble_eq_true rfl) (c_Text_digit G hp (by omega)) ?_
    refine v_callV mo_Canon_tellRounds mi_Canon_tellRounds mv_Canon_tellRounds lk_Text_96 k_Text_tell_124 c0 rfl rfl (Nat.le_of_ble_eq_true rfl) rfl (Nat.le_of_ble_eq_true rfl) (c_Canon_tellRounds G hc (by omega) (by omega)) (fun v124 h124 q124 => ?_)
    obtain ⟨qq, ff⟩ := q124
    rcases qq with ⟨g1, rfl, rfl⟩ | ⟨g1, rfl, g3⟩
    · refine v_ireturn k_Text_tell_127 rfl rfl ?_
      exact ⟨Or.inl ⟨by unfold tellS; rw [if_neg e1, if_neg e2, if_pos e3]; rw [if_pos g1], rfl, rfl⟩, ff⟩
    · refine v_ireturn k_Text_tell_127 rfl rfl ?_
      exact ⟨Or.inr ⟨_, by unfold tellS; rw [if_neg e1, if_neg e2, if_pos e3]; rw [if_neg g1], rfl, g3⟩, ff⟩
  by_cases e4 : tAt xs p = 119
  · rw [e4]
    refine v_tableIn 128 k_Text_tell_11 (by decide) (by decide) (by decide) (off := 117) rfl rfl ?_
    have d1 := tD_iff.mp (inF_w hq.1 hf e4)
    refine v_aload_n k_Text_tell_128 rfl ?_
    refine v_aload_n k_Text_tell_129 rfl ?_
    refine v_iload_n k_Text_tell_130 rfl ?_
    refine v_iconst k_Text_tell_131 ?_
    refine v_iadd k_Text_tell_132 ?_
    refine v_callVr mo_Text_digit mi_Text_digit mv_Text_digit lk_Text_80 k_Text_tell_133 t0 rfl rfl (Nat.le_of_ble_eq_true rfl) rfl (Nat.le_of_ble_eq_true rfl) (c_Text_digit G hp (by omega)) ?_
    refine v_callV mo_Canon_tellWell mi_Canon_tellWell mv_Canon_tellWell lk_Text_99 k_Text_tell_136 c0 rfl rfl (Nat.le_of_ble_eq_true rfl) rfl (Nat.le_of_ble_eq_true rfl) (c_Canon_tellWell G hc w.2.2.2.2.2.2.2.2.2.2.2.2.2.1 (by omega)) (fun v136 h136 q136 => ?_)
    obtain ⟨qq, ff⟩ := q136
    rcases qq with ⟨g1, rfl, rfl⟩ | ⟨g1, rfl, g3⟩
    · refine v_ireturn k_Text_tell_139 rfl rfl ?_
      exact ⟨Or.inl ⟨by unfold tellS; rw [if_neg e1, if_neg e2, if_neg e3, if_pos e4]; rw [if_pos g1], rfl, rfl⟩, ff⟩
    · refine v_ireturn k_Text_tell_139 rfl rfl ?_
      exact ⟨Or.inr ⟨_, by unfold tellS; rw [if_neg e1, if_neg e2, if_neg e3, if_pos e4]; rw [if_neg g1], rfl, g3⟩, ff⟩
  have hout : V G Y_Text_tell 5 0 0 140 [some (aR m), some (aR c), some (aI p), some (aI (p + fmL xs p))] [] h (fun v h' => ((tellS xs K p (p + fmL xs p) = none ∧ v = some (aI 0) ∧ h' = h) ∨ ∃ K', tellS xs K p (p + fmL xs p) = some K' ∧ v = some (aI 1) ∧ pCanon h' c K' sg sd) ∧ Fr c (c + 18) h h') := by
    refine v_iconst k_Text_tell_140 ?_
    refine v_ireturn k_Text_tell_141 rfl (by first | rfl | (split <;> rfl)) ?_
    exact ⟨Or.inl ⟨by unfold tellS; rw [if_neg e1, if_neg e2, if_neg e3, if_neg e4], rfl, rfl⟩, Fr.rf⟩
  by_cases g1 : tAt xs p < 110 ∨ 119 < tAt xs p
  · exact v_tableOut 140 k_Text_tell_11 ha g1 rfl hout
  by_cases g111 : tAt xs p = 111
  · rw [g111]
    exact v_tableIn 140 k_Text_tell_11 (by decide) (by decide) (by decide) (off := 129) rfl rfl hout
  by_cases g112 : tAt xs p = 112
  · rw [g112]
    exact v_tableIn 140 k_Text_tell_11 (by decide) (by decide) (by decide) (off := 129) rfl rfl hout
  by_cases g113 : tAt xs p = 113
  · rw [g113]
    exact v_tableIn 140 k_Text_tell_11 (by decide) (by decide) (by decide) (off := 129) rfl rfl hout
  by_cases g115 : tAt xs p = 115
  · rw [g115]
    exact v_tableIn 140 k_Text_tell_11 (by decide) (by decide) (by decide) (off := 129) rfl rfl hout
  by_cases g116 : tAt xs p = 116
  · rw [g116]
    exact v_tableIn 140 k_Text_tell_11 (by decide) (by decide) (by decide) (off := 129) rfl rfl hout
  by_cases g117 : tAt xs p = 117
  · rw [g117]
    exact v_tableIn 140 k_Text_tell_11 (by decide) (by decide) (by decide) (off := 129) rfl rfl hout
  exfalso; omega

set_option maxHeartbeats 4000000 in
set_option maxRecDepth 20000 in
theorem c_Text_tellAll (G : Gx) {h : AH} {m : Nat} {xs : List Int} (hp : pText h m xs) (hx : ∀ x ∈ xs, InR x) {c : Nat} {K : CK} {sg sd : List Int} (hc : pCanon h c K sg sd) (w : vK K 12 6) (hdj : m + 3 ≤ c ∨ c + 18 ≤ m) (hff : 0 < xs.length → ffA xs 80 0 = 0) : Ct G Y_Text_tellAll 6 0 0 [aR m, aR c] h (fun v h' => v = some (aI (tellA xs 80 0 0 K).1) ∧ pCanon h' c (tellA xs 80 0 0 K).2 sg sd ∧ vK (tellA xs 80 0 0 K).2 12 6 ∧ Fr c (c + 18) h h') := by

  refine Ct.of_V mo_Text_tellAll rfl (Nat.le_of_ble_eq_true rfl) rfl ?_
  have loop : ∀ (k : Nat) (p : Nat) (t : Int) (z : Option AV) (h1 : AH) (K1 : CK), ((k : Int) + t = 80) → (0 ≤ t) → ((p : Int) ≤ 7 * t) → (pText h1 m xs) → (pCanon h1 c K1 sg sd) → (vK K1 12 6) → (Fr c (c + 18) h h1) → ((p : Int) < xs.length → ffA xs k p = 0) → (tellA xs k p t K1 = tellA xs 80 0 0 K) → V G Y_Text_tellAll 6 0 0 4 [some (aR m), some (aR c), some (aI (p : Int)), some (aI t), z] [] h1 (fun v h' => v = some (aI (tellA xs 80 0 0 K).1) ∧ pCanon h' c (tellA xs 80 0 0 K).2 sg sd ∧ vK (tellA xs 80 0 0 K).2 12 6 ∧ Fr c (c + 18) h h') := by
    intro k
    induction k with
    | zero =>
      intro p t z h1 K1 hk ht hpp hp1 hc1 w1 f1 hinv hout
      obtain ⟨t0, t1⟩ := id hp1
      obtain ⟨cs, r1, r2⟩ := id t1
      obtain ⟨c0, c1⟩ := id hc1
      refine v_iload_n k_Text_tellAll_4 rfl ?_
      refine v_bipush k_Text_tellAll_5 (by decide) ?_
      refine v_icge 59 k_Text_tellAll_7 rfl (by omega) (by omega) (fun c7 => ?_) (fun c7 => ?_)
      · refine v_iload_n k_Text_tellAll_59 rfl ?_
        refine v_ireturn k_Text_tellAll_60 rfl rfl ?_
        rw [← hout]
        exact ⟨rfl, hc1, w1, f1⟩
      · exfalso; omega
    | succ k ih =>
      intro p t z h1 K1 hk ht hpp hp1 hc1 w1 f1 hinv hout
      have hfl := fmI_lt xs p
      have hfb := fmL_bd xs p
      obtain ⟨t0, t1⟩ := id hp1
      obtain ⟨cs, r1, r2⟩ := id t1
      obtain ⟨c0, c1⟩ := id hc1
      refine v_iload_n k_Text_tellAll_4 rfl ?_
      refine v_bipush k_Text_tellAll_5 (by decide) ?_
      refine v_icge 59 k_Text_tellAll_7 rfl (by omega) (by omega) (fun c7 => ?_) (fun c7 => ?_)
      · refine v_iload_n k_Text_tellAll_59 rfl ?_
        refine v_ireturn k_Text_tellAll_60 rfl rfl ?_
        first
          | (exfalso; omega)
          | (have e : tellA xs (k + 1) p t K1 = (t, K1) := by rw [tellA, if_neg (by omega)]
             rw [← hout, e]
             exact ⟨rfl, hc1, w1, f1⟩)
      · refine v_iload_n k_Text_tellAll_10 rfl ?_
        refine v_aload_n k_Text_tellAll_11 rfl ?_
        refine v_getf fl_Text_14 t0 rfl k_Text_tellAll_12 ?_
        refine v_callVr mo_Row_size mi_Row_size mv_Row_size lk_Text_20 k_Text_tellAll_15 r1 rfl rfl (Nat.le_of_ble_eq_true rfl) rfl (Nat.le_of_ble_eq_true rfl) (c_Row_size G t1) ?_
        refine v_icge 59 k_Text_tellAll_18 rfl (by omega) (by omega) (fun c18 => ?_) (fun c18 => ?_)
        · refine v_iload_n k_Text_tellAll_59 rfl ?_
          refine v_ireturn k_Text_tellAll_60 rfl rfl ?_
          first
            | (exfalso; omega)
            | (have e : tellA xs (k + 1) p t K1 = (t, K1) := by rw [tellA, if_neg (by omega)]
               rw [← hout, e]
               exact ⟨rfl, hc1, w1, f1⟩)
        · have hin := hinv (by omega)
          have hin0 : inF xs p = 0 := by
            apply Classical.byContradiction
            intro q
            rw [ffA, if_pos q] at hin
            exact q hin
          have hnx : (p : Int) + ((fmL xs p : Nat) : Int) < xs.length → ffA xs k ((p : Int) + ((fmL xs p : Nat) : Int)) = 0 := by
            intro q
            rw [ffA, if_neg (by omega), if_neg (by omega)] at hin
            exact hin
          refine v_iload_n k_Text_tellAll_21 rfl ?_
          refine v_aload_n k_Text_tellAll_22 rfl ?_
          refine v_iload_n k_Text_tellAll_23 rfl ?_
          refine v_callVr mo_Text_formAt mi_Text_formAt mv_Text_formAt lk_Text_68 k_Text_tellAll_24 t0 rfl rfl (Nat.le_of_ble_eq_true rfl) rfl (Nat.le_of_ble_eq_true rfl) (c_Text_formAt G hp1 hx (p := (p : Int)) (by omega)) ?_
          refine v_callT (i := fmI xs p) hfl mo_String_length mi_String_length mv_String_length lk_Text_43 k_Text_tellAll_27 rfl rfl (Nat.le_of_ble_eq_true rfl) rfl (Nat.le_of_ble_eq_true rfl) (c_String_length G hfl) ?_
          rw [show ((sLen.getD (fmI xs p) 0 : Nat) : Int) = ((fmL xs p : Nat) : Int) from rfl]
          refine v_iadd k_Text_tellAll_30 ?_
          refine v_istore k_Text_tellAll_31 ⟨Nat.le_of_ble_eq_true rfl, Nat.le_of_ble_eq_true rfl⟩ ?_
          refine v_aload_n k_Text_tellAll_33 rfl ?_
          refine v_aload_n k_Text_tellAll_34 rfl ?_
          refine v_iload_n k_Text_tellAll_35 rfl ?_
          refine v_iload k_Text_tellAll_36 rfl ?_
          refine v_callV mo_Text_tell mi_Text_tell mv_Text_tell lk_Text_76 k_Text_tellAll_38 t0 rfl rfl (Nat.le_of_ble_eq_true rfl) rfl (Nat.le_of_ble_eq_true rfl) (c_Text_tell G hp1 hx hc1 w1 (p := (p : Int)) (by omega) hin0) (fun v38 h38 q38 => ?_)
          obtain ⟨qq, ff⟩ := q38
          rcases qq with ⟨g1, rfl, rfl⟩ | ⟨K2, g1, rfl, g3⟩
          · refine v_ifne 50 k_Text_tellAll_41 rfl (by decide) (fun c41 => absurd rfl c41) (fun c41 => ?_)
            refine v_sipush k_Text_tellAll_44 (by decide) ?_
            refine v_iload_n k_Text_tellAll_47 rfl ?_
            refine v_isub k_Text_tellAll_48 ?_
            refine v_ireturn k_Text_tellAll_49 rfl rfl ?_
            have e : tellA xs (k + 1) p t K1 = (-2000 - (p : Int), K1) := by rw [tellA, if_pos (by omega), g1]
            rw [← hout, e]
            exact ⟨rfl, hc1, w1, f1⟩
          · refine v_ifne 50 k_Text_tellAll_41 rfl (by decide) (fun c41 => ?_) (fun c41 => absurd c41 (by decide))
            refine v_iload k_Text_tellAll_50 rfl ?_
            refine v_istore_n k_Text_tellAll_52 ⟨Nat.le_of_ble_eq_true rfl, Nat.le_of_ble_eq_true rfl⟩ ?_
            refine v_iinc k_Text_tellAll_53 rfl (Nat.le_of_ble_eq_true rfl) ?_
            refine v_goto k_Text_tellAll_56 (tgt := 4) rfl ?_
            have e : tellA xs (k + 1) p t K1 = tellA xs k (p + fmL xs p) (t + 1) K2 := by rw [tellA, if_pos (by omega), g1]
            rw [e] at hout
            rw [show (p : Int) + ((fmL xs p : Nat) : Int) = ((p + fmL xs p : Nat) : Int) by omega] at hout hnx ⊢
            exact ih (p + fmL xs p) (t + 1) _ h38 K2 (by omega) (by omega) (by omega) (pText.fr hp1 ff (by omega)) g3 (vK_tell w1 (by omega) hin0 g1) (f1.tr ff (by omega) (by omega)) (fun q => hnx (by omega)) hout
          
  refine v_iconst k_Text_tellAll_0 ?_
  refine v_istore_n k_Text_tellAll_1 ⟨Nat.le_of_ble_eq_true rfl, Nat.le_of_ble_eq_true rfl⟩ ?_
  refine v_iconst k_Text_tellAll_2 ?_
  refine v_istore_n k_Text_tellAll_3 ⟨Nat.le_of_ble_eq_true rfl, Nat.le_of_ble_eq_true rfl⟩ ?_
  exact loop 80 0 0 _ h K (by omega) (by omega) (by omega) hp hc w Fr.rf (fun q => hff (by omega)) rfl
