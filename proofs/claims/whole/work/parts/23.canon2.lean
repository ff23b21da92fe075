/-! what sounds well; who sounds at a beat -/
def wl (W d : Int) : Bool := decide ((W / ((2 ^ ((if 0 ≤ d then d else -d) % 7).toNat : Nat) : Int)) % ((2 ^ 1 : Nat) : Int) = 1)
theorem wl_1 {W d : Int} (h : W / ((2 ^ ((if 0 ≤ d then d else -d) % 7).toNat : Nat) : Int) % ((2 ^ 1 : Nat) : Int) = 1) : wl W d = true := decide_eq_true h
theorem wl_0 {W d : Int} (h : ¬ W / ((2 ^ ((if 0 ≤ d then d else -d) % 7).toNat : Nat) : Int) % ((2 ^ 1 : Nat) : Int) = 1) : ¬ wl W d = true := by simp only [wl, decide_eq_true_eq]; exact h
theorem div_bd {W : Int} (h : 0 ≤ W ∧ W ≤ 127) (n : Nat) : 0 ≤ W / ((2 ^ n : Nat) : Int) ∧ W / ((2 ^ n : Nat) : Int) ≤ 127 := by
  have hp : (0 : Int) < ((2 ^ n : Nat) : Int) := by exact_mod_cast Nat.two_pow_pos n
  exact ⟨Int.ediv_nonneg h.1 (Int.le_of_lt hp), Int.le_trans (Int.ediv_le_self _ h.1) h.2⟩
/-- the voices that sound at a beat, in their order, with what they sound -/
def soF (K : CK) (b : Int) : Nat → List (Int × Int)
  | 0 => []
  | n + 1 => if sO K n b = 999 then soF K b n else soF K b n ++ [((n : Int), sO K n b)]
def so (K : CK) (b : Int) : List (Int × Int) := soF K b (kK K).length
theorem soF_len (K : CK) (b : Int) : ∀ n, (soF K b n).length ≤ n
  | 0 => by simp [soF]
  | n + 1 => by
    have := soF_len K b n
    simp only [soF]
    split
    · omega
    · rw [List.length_append, List.length_singleton]; omega
theorem soF_bd {K : CK} (w : wK K) (b : Int) : ∀ n, ∀ q ∈ soF K b n, (0 ≤ q.1 ∧ q.1 < n) ∧ -9 ≤ q.2 ∧ q.2 ≤ 37 ∧ q.2 = sO K q.1 b
  | 0 => by simp [soF]
  | n + 1 => by
    intro q hq
    simp only [soF] at hq
    split at hq
    · have := soF_bd w b n q hq; omega
    · rename_i hn
      rcases List.mem_append.mp hq with h | h
      · have := soF_bd w b n q h; omega
      · rw [List.mem_singleton] at h
        subst h
        have h2 := sO_bd w (n : Int) b
        have h3 : -9 ≤ sO K (n : Int) b ∧ sO K (n : Int) b ≤ 37 := by
          rcases h2 with h2 | h2
          · exact absurd h2 hn
          · exact h2
        exact ⟨⟨by show (0 : Int) ≤ (n : Int); omega, by show (n : Int) < ((n + 1 : Nat) : Int); omega⟩, h3.1, h3.2, rfl⟩
theorem rgM {α : Type} (f : α → Int) {L : List α} {i : Nat} (hi : i < L.length) : rget (L.map f) i = f (L[i]) := by
  rw [rget, if_pos (by rw [List.length_map]; omega), Int.toNat_natCast, List.getD_eq_getElem?_getD, List.getElem?_map, List.getElem?_eq_getElem hi]
  rfl
theorem drop_at {α : Type} {L : List α} {i : Nat} (hi : i < L.length) : L.drop i = L[i] :: L.drop (i + 1) := List.drop_eq_getElem_cons hi
/-- pairs that are ill -/
def cntI (W a : Int) : List (Int × Int) → Int
  | [] => 0
  | q :: t => (if wl W (a - q.2) then 0 else 1) + cntI W a t
def prsI (W : Int) : List (Int × Int) → Int
  | [] => 0
  | q :: t => cntI W q.2 t + prsI W t
theorem cntI_bd (W a : Int) : ∀ L : List (Int × Int), 0 ≤ cntI W a L ∧ cntI W a L ≤ L.length
  | [] => by simp [cntI]
  | q :: t => by
    have := cntI_bd W a t
    simp only [cntI, List.length_cons]
    split <;> omega
theorem prsI_bd (W : Int) : ∀ (L : List (Int × Int)) (n : Nat), L.length ≤ n → 0 ≤ prsI W L ∧ prsI W L ≤ n * n
  | [], n, h => by simp only [prsI]; exact ⟨by decide, by exact_mod_cast Nat.zero_le _⟩
  | q :: t, n, h => by
    cases n with
    | zero => simp at h
    | succ n =>
      have h1 := prsI_bd W t n (by simpa using h)
      have h2 := cntI_bd W q.2 t
      have h3 : t.length ≤ n := by simpa using h
      simp only [prsI]
      have e : ((n + 1 : Nat) : Int) * ((n + 1 : Nat) : Int) = (n : Int) * n + 2 * n + 1 := by
        rw [Int.natCast_add, Int.add_mul, Int.mul_add]; simp; omega
      omega
def ill (K : CK) (b : Int) : Int := prsI (kW K) (so K b)
theorem ill_bd {K : CK} (w : wK K) (b : Int) : 0 ≤ ill K b ∧ ill K b ≤ 49 := by
  have h1 := soF_len K b (kK K).length
  have h2 := w.nv
  have := prsI_bd (kW K) (so K b) 7 (by unfold so; omega)
  unfold ill
  omega
def illS (K : CK) : Nat → Int
  | 0 => 0
  | n + 1 => illS K n + ill K n
/-- the first beat with something ill, of k beats from b on -/
def fIB (K : CK) : Nat → Nat → Int
  | 0, _ => -9
  | k + 1, b => if 0 < ill K b then (b : Int) else fIB K k (b + 1)
/-- the first pair that is ill -/
def fpI (W a va : Int) : List (Int × Int) → Int
  | [] => -9
  | q :: t => if wl W (a - q.2) then fpI W a va t else 10 * va + q.1
def fpP (W : Int) : List (Int × Int) → Int
  | [] => -9
  | q :: t => if fpI W q.2 q.1 t = -9 then fpP W t else fpI W q.2 q.1 t
section VBN
variable {G : Gx} {Y : Yx} {d rc rs pc : Nat} {ls : List (Option AV)} {st : List AV} {h : AH} {F : Option AV → AH → Prop}
/-- one bit, and and or of naturals -/
theorem v_bit {y : Int} (hd : decode Y.2.1 pc = .ok (.ishl, 1)) (hy : 0 ≤ y ∧ y ≤ 31) (k : V G Y d rc rs (pc + 1) ls (aI ((2 ^ y.toNat : Nat) : Int) :: st) h F) : V G Y d rc rs pc ls (aI y :: aI 1 :: st) h F :=
  v_ishl hd hy (by rw [Int.one_mul]; exact k)
theorem v_iorN {x y : Nat} (hd : decode Y.2.1 pc = .ok (.ior, 1)) (k : V G Y d rc rs (pc + 1) ls (aI ((x ||| y : Nat) : Int) :: st) h F) : V G Y d rc rs pc ls (aI (y : Int) :: aI (x : Int) :: st) h F :=
  v_ior hd (Int.natCast_nonneg _) (Int.natCast_nonneg _) (by rw [Int.toNat_natCast, Int.toNat_natCast]; exact k)
theorem v_iandN {x y : Nat} (hd : decode Y.2.1 pc = .ok (.iand, 1)) (k : V G Y d rc rs (pc + 1) ls (aI ((x &&& y : Nat) : Int) :: st) h F) : V G Y d rc rs pc ls (aI (y : Int) :: aI (x : Int) :: st) h F :=
  v_iand hd (Int.natCast_nonneg _) (Int.natCast_nonneg _) (by rw [Int.toNat_natCast, Int.toNat_natCast]; exact k)
end VBN
set_option maxHeartbeats 4000000 in
set_option maxRecDepth 20000 in
theorem c_soundsWell (G : Gx) {h : AH} {W d : Int} (hW : 0 ≤ W ∧ W ≤ 127) (hd : -5000 ≤ d ∧ d ≤ 5000) : Ct G Y_Main_soundsWell 1 0 0 [aI W, aI d] h (isR (some (aI (if wl W d then 1 else 0))) h) := by
  have e1 : 0 ≤ (if 0 ≤ d then d else -d) ∧ (if 0 ≤ d then d else -d) ≤ 5000 := by split <;> omega
  refine Ct.of_V mo_Main_soundsWell rfl (Nat.le_of_ble_eq_true rfl) rfl ?_
  refine v_iload_n k_Main_soundsWell_0 rfl ?_
  refine v_iload_n k_Main_soundsWell_1 rfl ?_
  refine v_mabs k_Main_soundsWell_2 lm_Main_233 (by omega) (Nat.le_of_ble_eq_true rfl) (Nat.le_of_ble_eq_true rfl) ?_
  refine v_bipush k_Main_soundsWell_5 (by decide) ?_
  refine v_irem k_Main_soundsWell_7 (by omega) (by decide) ?_
  rw [Int.tmod_eq_emod_of_nonneg e1.1]
  have e2 := Int.emod_nonneg (if 0 ≤ d then d else -d) (show (7 : Int) ≠ 0 by decide)
  have e3 := Int.emod_lt_of_pos (if 0 ≤ d then d else -d) (show (0 : Int) < 7 by decide)
  have e4 := div_bd hW ((if 0 ≤ d then d else -d) % 7).toNat
  refine v_ishr k_Main_soundsWell_8 (by omega) (by omega) ?_
  refine v_iconst k_Main_soundsWell_9 ?_
  refine v_mask 1 k_Main_soundsWell_10 (by decide) rfl ?_
  have e5 := Int.emod_nonneg (W / ((2 ^ ((if 0 ≤ d then d else -d) % 7).toNat : Nat) : Int)) (show ((2 ^ 1 : Nat) : Int) ≠ 0 by decide)
  have e6 := Int.emod_lt_of_pos (W / ((2 ^ ((if 0 ≤ d then d else -d) % 7).toNat : Nat) : Int)) (show (0 : Int) < ((2 ^ 1 : Nat) : Int) by decide)
  have e7 : ((2 ^ 1 : Nat) : Int) = 2 := rfl
  refine v_iconst k_Main_soundsWell_11 ?_
  refine v_icne 19 k_Main_soundsWell_12 rfl (by omega) (by omega) (fun c12 => ?_) (fun c12 => ?_)
  · refine v_iconst k_Main_soundsWell_19 ?_
    refine v_ireturn k_Main_soundsWell_20 rfl (by first | rfl | (split <;> rfl)) ?_
    first
      | exact ⟨by rw [if_pos (wl_1 (Classical.not_not.mp c12))], rfl⟩
      | exact ⟨by rw [if_neg (wl_0 c12)], rfl⟩
  · refine v_iconst k_Main_soundsWell_15 ?_
    refine v_goto k_Main_soundsWell_16 (tgt := 20) rfl ?_
    refine v_ireturn k_Main_soundsWell_20 rfl (by first | rfl | (split <;> rfl)) ?_
    first
      | exact ⟨by rw [if_pos (wl_1 (Classical.not_not.mp c12))], rfl⟩
      | exact ⟨by rw [if_neg (wl_0 c12)], rfl⟩

set_option maxHeartbeats 4000000 in
set_option maxRecDepth 20000 in
theorem c_Canon_clash (G : Gx) {h : AH} {c : Nat} {K : CK} {sg sd : List Int} (hp : pCanon h c K sg sd) (w : wK K) (hs : ∀ x ∈ sd, -9 ≤ x ∧ x ≤ 37) {i j : Int} (hi : InR i) (hj : InR j) : Ct G Y_Canon_clash 2 0 0 [aR c, aI i, aI j] h (isR (some (aI (if wl (kW K) (rget sd i - rget sd j) then 0 else 1))) h) := by
  obtain ⟨c0, c1, c2, c3, c4, c5, c6⟩ := id hp
  have hbt : (nob (kL K)).length = bt K := rfl
  have b1 := rget_bd hs (by decide) (by decide) i
  have b2 := rget_bd hs (by decide) (by decide) j
  refine Ct.of_V mo_Canon_clash rfl (Nat.le_of_ble_eq_true rfl) rfl ?_
  refine v_aload_n k_Canon_clash_0 rfl ?_
  refine v_getf fl_Canon_46 c0 rfl k_Canon_clash_1 ?_
  refine v_aload_n k_Canon_clash_4 rfl ?_
  refine v_getf fl_Canon_36 c0 rfl k_Canon_clash_5 ?_
  refine v_iload_n k_Canon_clash_8 rfl ?_
  refine v_callVr mo_Row_get mi_Row_get mv_Row_get lk_Canon_64 k_Canon_clash_9 c6.obj rfl rfl (Nat.le_of_ble_eq_true rfl) rfl (Nat.le_of_ble_eq_true rfl) (c_Row_get G c6 (by omega)) ?_
  refine v_aload_n k_Canon_clash_12 rfl ?_
  refine v_getf fl_Canon_36 c0 rfl k_Canon_clash_13 ?_
  refine v_iload_n k_Canon_clash_16 rfl ?_
  refine v_callVr mo_Row_get mi_Row_get mv_Row_get lk_Canon_64 k_Canon_clash_17 c6.obj rfl rfl (Nat.le_of_ble_eq_true rfl) rfl (Nat.le_of_ble_eq_true rfl) (c_Row_get G c6 (by omega)) ?_
  refine v_isub k_Canon_clash_20 ?_
  refine v_callSr mo_Main_soundsWell ms_Main_soundsWell lk_Canon_123 k_Canon_clash_21 rfl (Nat.le_of_ble_eq_true rfl) rfl (Nat.le_of_ble_eq_true rfl) (c_soundsWell G w.lw (by omega)) ?_
  refine v_ifne 31 k_Canon_clash_24 rfl (by split <;> decide) (fun c24 => ?_) (fun c24 => ?_)
  · refine v_iconst k_Canon_clash_31 ?_
    refine v_ireturn k_Canon_clash_32 rfl (by first | rfl | (split <;> rfl)) ?_
    refine ⟨?_, rfl⟩
    by_cases hq : wl (kW K) (rget sd i - rget sd j) = true
    · first | (rw [if_pos hq]; done) | (rw [if_pos hq] at c24; exact absurd rfl c24) | (rw [if_pos hq] at c24; exact absurd c24 (by decide))
    · first | (rw [if_neg hq]; done) | (rw [if_neg hq] at c24; exact absurd rfl c24) | (rw [if_neg hq] at c24; exact absurd c24 (by decide))
  · refine v_iconst k_Canon_clash_27 ?_
    refine v_goto k_Canon_clash_28 (tgt := 32) rfl ?_
    refine v_ireturn k_Canon_clash_32 rfl (by first | rfl | (split <;> rfl)) ?_
    refine ⟨?_, rfl⟩
    by_cases hq : wl (kW K) (rget sd i - rget sd j) = true
    · first | (rw [if_pos hq]; done) | (rw [if_pos hq] at c24; exact absurd rfl c24) | (rw [if_pos hq] at c24; exact absurd c24 (by decide))
    · first | (rw [if_neg hq]; done) | (rw [if_neg hq] at c24; exact absurd rfl c24) | (rw [if_neg hq] at c24; exact absurd c24 (by decide))

set_option maxHeartbeats 4000000 in
set_option maxRecDepth 20000 in
theorem c_Canon_listen (G : Gx) {h : AH} {c : Nat} {K : CK} {sg sd : List Int} (hp : pCanon h c K sg sd) (w : wK K) {b : Int} (hb : 0 ≤ b ∧ b ≤ 450) : Ct G Y_Canon_listen 4 0 0 [aR c, aI b] h (fun v h' => v = none ∧ pCanon h' c K ((so K b).map Prod.fst) ((so K b).map Prod.snd) ∧ Fr (c + 14) (c + 18) h h') := by
  obtain ⟨c0, c1, c2, c3, c4, c5, c6⟩ := id hp
  have hbt : (nob (kL K)).length = bt K := rfl
  have b1 := w.nv
  refine Ct.of_V mo_Canon_listen rfl (Nat.le_of_ble_eq_true rfl) rfl ?_
  have loop : ∀ (k : Nat) {x : Option AV} (i : Nat) (h1 : AH), ((kK K).length < i + k) → (i ≤ (kK K).length) → (pCanon h1 c K ((soF K b i).map Prod.fst) ((soF K b i).map Prod.snd)) → (Fr (c + 14) (c + 18) h h1) → V G Y_Canon_listen 4 0 0 16 [some (aR c), some (aI b), some (aI i), x] [] h1 (fun v h' => v = none ∧ pCanon h' c K ((so K b).map Prod.fst) ((so K b).map Prod.snd) ∧ Fr (c + 14) (c + 18) h h') := by
    intro k
    induction k with
    | zero => intro x i h1 hk hi hp1 f1; exfalso; omega
    | succ k ih =>
      intro x i h1 hk hi hp1 f1
      obtain ⟨c0, c1, c2, c3, c4, c5, c6⟩ := id hp1
      have hbt : (nob (kL K)).length = bt K := rfl
      have l1 := soF_len K b i
      have b2 := sO_bd w (i : Int) b
      refine v_iload_n k_Canon_listen_16 rfl ?_
      refine v_aload_n k_Canon_listen_17 rfl ?_
      refine v_callVr mo_Canon_voices mi_Canon_voices mv_Canon_voices lk_Canon_80 k_Canon_listen_18 c0 rfl rfl (Nat.le_of_ble_eq_true rfl) rfl (Nat.le_of_ble_eq_true rfl) (c_Canon_voices G hp1) ?_
      refine v_icge 60 k_Canon_listen_21 rfl (by omega) (by omega) (fun c21 => ?_) (fun c21 => ?_)
      · refine v_return k_Canon_listen_60 rfl ?_
        have e : i = (kK K).length := by omega
        subst e
        exact ⟨rfl, hp1, f1⟩
      · refine v_aload_n k_Canon_listen_24 rfl ?_
        refine v_iload_n k_Canon_listen_25 rfl ?_
        refine v_iload_n k_Canon_listen_26 rfl ?_
        refine v_callVr mo_Canon_soundOf mi_Canon_soundOf mv_Canon_soundOf lk_Canon_120 k_Canon_listen_27 c0 rfl rfl (Nat.le_of_ble_eq_true rfl) rfl (Nat.le_of_ble_eq_true rfl) (c_Canon_soundOf G hp1 w (by omega) (by omega)) ?_
        refine v_istore_n k_Canon_listen_30 ⟨Nat.le_of_ble_eq_true rfl, Nat.le_of_ble_eq_true rfl⟩ ?_
        refine v_iload_n k_Canon_listen_31 rfl ?_
        refine v_sipush k_Canon_listen_32 (by decide) ?_
        refine v_iceq 54 k_Canon_listen_35 rfl (by omega) (by omega) (fun c35 => ?_) (fun c35 => ?_)
        · refine v_iinc k_Canon_listen_54 rfl (Nat.le_of_ble_eq_true rfl) ?_
          refine v_goto k_Canon_listen_57 (tgt := 16) rfl ?_
          first
            | (rw [radd, if_pos (by rw [List.length_map]; omega)] at n5 n6; exact ih (i + 1) h51 (by omega) (by omega) ⟨c0, c1, c2, c3, c4, by rw [soF, if_neg c35, List.map_append]; exact n5, by rw [soF, if_neg c35, List.map_append]; exact n6⟩ f1)
            | exact ih (i + 1) h1 (by omega) (by omega) (by rw [soF, if_pos c35]; exact hp1) f1
        · refine v_aload_n k_Canon_listen_38 rfl ?_
          refine v_getf fl_Canon_33 c0 rfl k_Canon_listen_39 ?_
          refine v_iload_n k_Canon_listen_42 rfl ?_
          refine v_callV mo_Row_add mi_Row_add mv_Row_add lk_Canon_72 k_Canon_listen_43 c5.obj rfl rfl (Nat.le_of_ble_eq_true rfl) rfl (Nat.le_of_ble_eq_true rfl) (c_Row_add G c5) (fun v43 h43 q43 => ?_)
          obtain ⟨rfl, n5, f5⟩ := q43
          have c0 := f5.at c0 (by omega)
          have c1 := c1.fr f5 (by omega)
          have c2 := c2.fr f5 (by omega)
          have c3 := c3.fr f5 (by omega)
          have c4 := c4.fr f5 (by omega)
          have c6 := c6.fr f5 (by omega)
          refine v_aload_n k_Canon_listen_46 rfl ?_
          refine v_getf fl_Canon_36 c0 rfl k_Canon_listen_47 ?_
          refine v_iload_n k_Canon_listen_50 rfl ?_
          refine v_callV mo_Row_add mi_Row_add mv_Row_add lk_Canon_72 k_Canon_listen_51 c6.obj rfl rfl (Nat.le_of_ble_eq_true rfl) rfl (Nat.le_of_ble_eq_true rfl) (c_Row_add G c6) (fun v51 h51 q51 => ?_)
          obtain ⟨rfl, n6, f6⟩ := q51
          have c0 := f6.at c0 (by omega)
          have c1 := c1.fr f6 (by omega)
          have c2 := c2.fr f6 (by omega)
          have c3 := c3.fr f6 (by omega)
          have c4 := c4.fr f6 (by omega)
          have n5 := n5.fr f6 (by omega)
          have f1 := (f1.tr f5 (by omega) (by omega)).tr f6 (by omega) (by omega)
          refine v_iinc k_Canon_listen_54 rfl (Nat.le_of_ble_eq_true rfl) ?_
          refine v_goto k_Canon_listen_57 (tgt := 16) rfl ?_
          first
            | (rw [radd, if_pos (by rw [List.length_map]; omega)] at n5 n6; exact ih (i + 1) h51 (by omega) (by omega) ⟨c0, c1, c2, c3, c4, by rw [soF, if_neg c35, List.map_append]; exact n5, by rw [soF, if_neg c35, List.map_append]; exact n6⟩ f1)
            | exact ih (i + 1) h1 (by omega) (by omega) (by rw [soF, if_pos c35]; exact hp1) f1
  refine v_aload_n k_Canon_listen_0 rfl ?_
  refine v_getf fl_Canon_33 c0 rfl k_Canon_listen_1 ?_
  refine v_callV mo_Row_clear mi_Row_clear mv_Row_clear lk_Canon_117 k_Canon_listen_4 c5.obj rfl rfl (Nat.le_of_ble_eq_true rfl) rfl (Nat.le_of_ble_eq_true rfl) (c_Row_clear G c5) (fun v4 h4 q4 => ?_)
  obtain ⟨rfl, n5, f5⟩ := q4
  have c0 := f5.at c0 (by omega)
  have c1 := c1.fr f5 (by omega)
  have c2 := c2.fr f5 (by omega)
  have c3 := c3.fr f5 (by omega)
  have c4 := c4.fr f5 (by omega)
  have c6 := c6.fr f5 (by omega)
  refine v_aload_n k_Canon_listen_7 rfl ?_
  refine v_getf fl_Canon_36 c0 rfl k_Canon_listen_8 ?_
  refine v_callV mo_Row_clear mi_Row_clear mv_Row_clear lk_Canon_117 k_Canon_listen_11 c6.obj rfl rfl (Nat.le_of_ble_eq_true rfl) rfl (Nat.le_of_ble_eq_true rfl) (c_Row_clear G c6) (fun v11 h11 q11 => ?_)
  obtain ⟨rfl, n6, f6⟩ := q11
  have c0 := f6.at c0 (by omega)
  have c1 := c1.fr f6 (by omega)
  have c2 := c2.fr f6 (by omega)
  have c3 := c3.fr f6 (by omega)
  have c4 := c4.fr f6 (by omega)
  have n5 := n5.fr f6 (by omega)
  refine v_iconst k_Canon_listen_14 ?_
  refine v_istore_n k_Canon_listen_15 ⟨Nat.le_of_ble_eq_true rfl, Nat.le_of_ble_eq_true rfl⟩ ?_
  exact loop 8 0 h11 (by omega) (by omega) ⟨c0, c1, c2, c3, c4, n5, n6⟩ ((f5.wd (by omega) (by omega)).tr f6 (by omega) (by omega))

theorem so_len {K : CK} (w : wK K) (b : Int) : (so K b).length ≤ 7 := by
  have := soF_len K b (kK K).length
  have := w.nv
  unfold so
  omega
theorem so_sd {K : CK} (w : wK K) (b : Int) : ∀ x ∈ (so K b).map Prod.snd, -9 ≤ x ∧ x ≤ 37 := by
  intro x hx
  obtain ⟨q, hq, rfl⟩ := List.mem_map.mp hx
  have := soF_bd w b _ q hq
  omega
theorem so_sg {K : CK} (w : wK K) (b : Int) : ∀ x ∈ (so K b).map Prod.fst, 0 ≤ x ∧ x ≤ 6 := by
  intro x hx
  obtain ⟨q, hq, rfl⟩ := List.mem_map.mp hx
  have := soF_bd w b _ q hq
  have := w.nv
  omega
set_option maxHeartbeats 4000000 in
set_option maxRecDepth 20000 in
theorem c_Canon_illsAt (G : Gx) {h : AH} {c : Nat} {K : CK} {sg sd : List Int} (hp : pCanon h c K sg sd) (w : wK K) {b : Int} (hb : 0 ≤ b ∧ b ≤ 450) : Ct G Y_Canon_illsAt 5 0 0 [aR c, aI b] h (fun v h' => v = some (aI (ill K b)) ∧ ∃ sg sd, pCanon h' c K sg sd ∧ Fr (c + 14) (c + 18) h h') := by
  obtain ⟨c0, c1, c2, c3, c4, c5, c6⟩ := id hp
  have hbt : (nob (kL K)).length = bt K := rfl
  have b1 := so_len w b
  refine Ct.of_V mo_Canon_illsAt rfl (Nat.le_of_ble_eq_true rfl) rfl ?_
  refine v_aload_n k_Canon_illsAt_0 rfl ?_
  refine v_iload_n k_Canon_illsAt_1 rfl ?_
  refine v_callV mo_Canon_listen mi_Canon_listen mv_Canon_listen lk_Canon_127 k_Canon_illsAt_2 c0 rfl rfl (Nat.le_of_ble_eq_true rfl) rfl (Nat.le_of_ble_eq_true rfl) (c_Canon_listen G hp w (by omega)) (fun v2 h2 q2 => ?_)
  obtain ⟨rfl, hp1, f1⟩ := q2
  obtain ⟨c0, c1, c2, c3, c4, c5, c6⟩ := id hp1
  have el1 : ((so K b).map Prod.fst).length = (so K b).length := List.length_map _
  have el2 : ((so K b).map Prod.snd).length = (so K b).length := List.length_map _
  refine v_iconst k_Canon_illsAt_5 ?_
  refine v_istore_n k_Canon_illsAt_6 ⟨Nat.le_of_ble_eq_true rfl, Nat.le_of_ble_eq_true rfl⟩ ?_
  refine v_iconst k_Canon_illsAt_7 ?_
  refine v_istore_n k_Canon_illsAt_8 ⟨Nat.le_of_ble_eq_true rfl, Nat.le_of_ble_eq_true rfl⟩ ?_
  have loop : ∀ (k : Nat) (i : Nat) (acc : Int) (x : Option AV), ((so K b).length < i + k) → (i ≤ (so K b).length) → (acc + prsI (kW K) ((so K b).drop i) = ill K b) → V G Y_Canon_illsAt 5 0 0 9 [some (aR c), some (aI b), some (aI acc), some (aI i), x] [] h2 (fun v h' => v = some (aI (ill K b)) ∧ ∃ sg sd, pCanon h' c K sg sd ∧ Fr (c + 14) (c + 18) h h') := by
    intro k
    induction k with
    | zero => intro i acc x hk hi ht; exfalso; omega
    | succ k ih =>
      intro i acc x hk hi ht
      refine v_iload_n k_Canon_illsAt_9 rfl ?_
      refine v_aload_n k_Canon_illsAt_10 rfl ?_
      refine v_getf fl_Canon_33 c0 rfl k_Canon_illsAt_11 ?_
      refine v_callVr mo_Row_size mi_Row_size mv_Row_size lk_Canon_56 k_Canon_illsAt_14 c5.obj rfl rfl (Nat.le_of_ble_eq_true rfl) rfl (Nat.le_of_ble_eq_true rfl) (c_Row_size G c5) ?_
      refine v_icge 62 k_Canon_illsAt_17 rfl (by omega) (by omega) (fun c17 => ?_) (fun c17 => ?_)
      · refine v_iload_n k_Canon_illsAt_62 rfl ?_
        refine v_ireturn k_Canon_illsAt_63 rfl rfl ?_
        have ei : i = (so K b).length := by omega
        rw [ei, List.drop_length] at ht
        simp only [prsI] at ht
        exact ⟨by rw [← ht, Int.add_zero], _, _, hp1, f1⟩
      · refine v_iload_n k_Canon_illsAt_20 rfl ?_
        refine v_iconst k_Canon_illsAt_21 ?_
        refine v_iadd k_Canon_illsAt_22 ?_
        refine v_istore k_Canon_illsAt_23 ⟨Nat.le_of_ble_eq_true rfl, Nat.le_of_ble_eq_true rfl⟩ ?_
        have loop2 : ∀ (k2 : Nat) (j : Nat) (acc2 : Int), ((so K b).length < j + k2) → (j ≤ (so K b).length) → (acc2 + (cntI (kW K) (rget ((so K b).map Prod.snd) i) ((so K b).drop j) + prsI (kW K) ((so K b).drop (i + 1))) = ill K b) → V G Y_Canon_illsAt 5 0 0 25 [some (aR c), some (aI b), some (aI acc2), some (aI i), some (aI j)] [] h2 (fun v h' => v = some (aI (ill K b)) ∧ ∃ sg sd, pCanon h' c K sg sd ∧ Fr (c + 14) (c + 18) h h') := by
          intro k2
          induction k2 with
          | zero => intro j acc2 hk2 hj ht; exfalso; omega
          | succ k2 ih2 =>
            intro j acc2 hk2 hj ht
            refine v_iload k_Canon_illsAt_25 rfl ?_
            refine v_aload_n k_Canon_illsAt_27 rfl ?_
            refine v_getf fl_Canon_33 c0 rfl k_Canon_illsAt_28 ?_
            refine v_callVr mo_Row_size mi_Row_size mv_Row_size lk_Canon_56 k_Canon_illsAt_31 c5.obj rfl rfl (Nat.le_of_ble_eq_true rfl) rfl (Nat.le_of_ble_eq_true rfl) (c_Row_size G c5) ?_
            refine v_icge 56 k_Canon_illsAt_34 rfl (by omega) (by omega) (fun c34 => ?_) (fun c34 => ?_)
            · have ej : j = (so K b).length := by omega
              refine v_iinc k_Canon_illsAt_56 rfl (Nat.le_of_ble_eq_true rfl) ?_
              refine v_goto k_Canon_illsAt_59 (tgt := 9) rfl ?_
              refine ih (i + 1) acc2 _ (by omega) (by omega) ?_
              rw [ej, List.drop_length] at ht
              simp only [cntI] at ht
              omega
            · refine v_aload_n k_Canon_illsAt_37 rfl ?_
              refine v_iload_n k_Canon_illsAt_38 rfl ?_
              refine v_iload k_Canon_illsAt_39 rfl ?_
              refine v_callVr mo_Canon_clash mi_Canon_clash mv_Canon_clash lk_Canon_130 k_Canon_illsAt_41 c0 rfl rfl (Nat.le_of_ble_eq_true rfl) rfl (Nat.le_of_ble_eq_true rfl) (c_Canon_clash G hp1 w (so_sd w b) (by omega) (by omega)) ?_
              refine v_ifeq 50 k_Canon_illsAt_44 rfl (by split <;> decide) (fun c44 => ?_) (fun c44 => ?_)
              · refine v_iinc k_Canon_illsAt_50 rfl (Nat.le_of_ble_eq_true rfl) ?_
                refine v_goto k_Canon_illsAt_53 (tgt := 25) rfl ?_
                refine ih2 (j + 1) _ (by omega) (by omega) ?_
                rw [drop_at (show j < (so K b).length by omega)] at ht
                rw [← ht]
                simp only [cntI]
                have e1 := rgM Prod.snd (L := so K b) (i := i) (by omega)
                have e2 := rgM Prod.snd (L := so K b) (i := j) (by omega)
                rw [e1, e2] at c44
                rw [e1]
                by_cases hq : wl (kW K) (((so K b)[i]).2 - ((so K b)[j]).2) = true
                · rw [if_pos hq] at c44 ⊢; first | omega | (exfalso; revert c44; decide)
                · rw [if_neg hq] at c44 ⊢; first | omega | (exfalso; revert c44; decide)
              · refine v_iinc k_Canon_illsAt_47 rfl (Nat.le_of_ble_eq_true rfl) ?_
                refine v_iinc k_Canon_illsAt_50 rfl (Nat.le_of_ble_eq_true rfl) ?_
                refine v_goto k_Canon_illsAt_53 (tgt := 25) rfl ?_
                refine ih2 (j + 1) _ (by omega) (by omega) ?_
                rw [drop_at (show j < (so K b).length by omega)] at ht
                rw [← ht]
                simp only [cntI]
                have e1 := rgM Prod.snd (L := so K b) (i := i) (by omega)
                have e2 := rgM Prod.snd (L := so K b) (i := j) (by omega)
                rw [e1, e2] at c44
                rw [e1]
                by_cases hq : wl (kW K) (((so K b)[i]).2 - ((so K b)[j]).2) = true
                · rw [if_pos hq] at c44 ⊢; first | omega | (exfalso; revert c44; decide)
                · rw [if_neg hq] at c44 ⊢; first | omega | (exfalso; revert c44; decide)
        have ex1 := drop_at (show i < (so K b).length by omega)
        have e1 := rgM Prod.snd (L := so K b) (i := i) (by omega)
        refine loop2 8 (i + 1) acc (by have := so_len w b; omega) (by omega) ?_
        rw [ex1] at ht
        simp only [prsI] at ht
        rw [e1]
        exact ht
  exact loop 8 0 0 _ (by omega) (by omega) (by rw [List.drop_zero, Int.zero_add]; rfl)
