/-! a canon as numbers: pitches, lengths, kinds, entries, highs, rounds, step, law -/
abbrev CK : Type := List Int × List Int × List Int × List Int × List Int × Int × Int × Int
def kP (K : CK) : List Int := K.1
def kL (K : CK) : List Int := K.2.1
def kK (K : CK) : List Int := K.2.2.1
def kE (K : CK) : List Int := K.2.2.2.1
def kH (K : CK) : List Int := K.2.2.2.2.1
def kR (K : CK) : Int := K.2.2.2.2.2.1
def kS (K : CK) : Int := K.2.2.2.2.2.2.1
def kW (K : CK) : Int := K.2.2.2.2.2.2.2
def bt (K : CK) : Nat := (nob (kL K)).length
def vK (K : CK) (N V : Nat) : Prop := (kP K).length = (kL K).length ∧ (kP K).length ≤ N ∧ (∀ x ∈ kP K, 0 ≤ x ∧ x ≤ 9) ∧ (∀ x ∈ kL K, 1 ≤ x ∧ x ≤ 3) ∧ bt K ≤ 37 ∧
  (kK K).length ≤ V ∧ (kE K).length = (kK K).length ∧ (kH K).length = (kK K).length ∧ (∀ x ∈ kK K, 0 ≤ x ∧ x ≤ 5) ∧ (∀ x ∈ kE K, 0 ≤ x ∧ x ≤ 60) ∧ (∀ x ∈ kH K, 0 ≤ x ∧ x ≤ 9) ∧
  (1 ≤ kR K ∧ kR K ≤ 4) ∧ (0 ≤ kS K ∧ kS K ≤ 2) ∧ 0 ≤ kW K ∧ kW K ≤ 127
/-- a canon that is told, or thought of -/
abbrev wK (K : CK) : Prop := vK K 13 7
theorem wK.kd {K : CK} (w : wK K) (v : Int) : 0 ≤ rget (kK K) v ∧ rget (kK K) v ≤ 5 := rget_bd w.2.2.2.2.2.2.2.2.1 (by decide) (by decide) v
theorem wK.en {K : CK} (w : wK K) (v : Int) : 0 ≤ rget (kE K) v ∧ rget (kE K) v ≤ 60 := rget_bd w.2.2.2.2.2.2.2.2.2.1 (by decide) (by decide) v
theorem wK.hi {K : CK} (w : wK K) (v : Int) : 0 ≤ rget (kH K) v ∧ rget (kH K) v ≤ 9 := rget_bd w.2.2.2.2.2.2.2.2.2.2.1 (by decide) (by decide) v
theorem wK.pt {K : CK} (w : wK K) (v : Int) : 0 ≤ rget (kP K) v ∧ rget (kP K) v ≤ 9 := rget_bd w.2.2.1 (by decide) (by decide) v
theorem wK.rd {K : CK} (w : wK K) : 1 ≤ kR K ∧ kR K ≤ 4 := w.2.2.2.2.2.2.2.2.2.2.2.1
theorem wK.sp {K : CK} (w : wK K) : 0 ≤ kS K ∧ kS K ≤ 2 := w.2.2.2.2.2.2.2.2.2.2.2.2.1
theorem wK.lw {K : CK} (w : wK K) : 0 ≤ kW K ∧ kW K ≤ 127 := w.2.2.2.2.2.2.2.2.2.2.2.2.2
theorem wK.bb {K : CK} (w : wK K) : bt K ≤ 37 := w.2.2.2.2.1
theorem wK.nv {K : CK} (w : wK K) : (kK K).length ≤ 7 := w.2.2.2.2.2.1
theorem wK.nn {K : CK} (w : wK K) : (kL K).length ≤ 13 := by have := w.1; have := w.2.1; omega
theorem wK.nb {K : CK} (w : wK K) (j : Int) : 0 ≤ rget (nob (kL K)) j ∧ rget (nob (kL K)) j ≤ 13 := nob_bd w.nn j
theorem mul_bd {a b A B : Int} (ha : 0 ≤ a) (hA : a ≤ A) (hb : 0 ≤ b) (hB : b ≤ B) : 0 ≤ a * b ∧ a * b ≤ A * B :=
  ⟨Int.mul_nonneg ha hb, Int.mul_le_mul hA hB hb (by omega)⟩
/-- beats of a voice's round -/
def q_rB (K : CK) (v : Int) : Int := if rget (kK K) v = 3 then 2 * (bt K : Int) else (bt K : Int)
theorem wK.rB {K : CK} (w : wK K) (v : Int) : 0 ≤ q_rB K v ∧ q_rB K v ≤ 74 := by
  have := w.bb
  unfold q_rB
  split <;> omega
/-- from when on a voice is still -/
def q_stl (K : CK) (v : Int) : Int := rget (kE K) v + kR K * q_rB K v
theorem wK.rr {K : CK} (w : wK K) (v : Int) : 0 ≤ kR K * q_rB K v ∧ kR K * q_rB K v ≤ 296 := mul_bd (by have := w.rd; omega) w.rd.2 (w.rB v).1 (w.rB v).2
theorem wK.stl {K : CK} (w : wK K) (v : Int) : 0 ≤ q_stl K v ∧ q_stl K v ≤ 356 := by
  have := w.en v
  have := w.rr v
  unfold q_stl
  omega
def q_endF (K : CK) : Nat → Int
  | 0 => 0
  | n + 1 => max (q_endF K n) (q_stl K n)
theorem wK.endF {K : CK} (w : wK K) : ∀ n : Nat, 0 ≤ q_endF K n ∧ q_endF K n ≤ 356
  | 0 => by simp [q_endF]
  | n + 1 => by
    have h1 := wK.endF w n
    have h2 := w.stl n
    show 0 ≤ max (q_endF K n) (q_stl K n) ∧ max (q_endF K n) (q_stl K n) ≤ 356
    omega
/-- the first beat from which on nothing sounds -/
def q_endK (K : CK) : Int := if 0 < bt K then q_endF K (kK K).length else 0
theorem wK.endK {K : CK} (w : wK K) : 0 ≤ q_endK K ∧ q_endK K ≤ 356 := by
  have := w.endF (kK K).length
  unfold q_endK
  split <;> omega
/-- the note that a voice sings at a beat; -1 -/
def q_nS (K : CK) (v b : Int) : Int :=
  if 0 < q_rB K v ∧ 0 ≤ b - rget (kE K) v ∧ b - rget (kE K) v < kR K * q_rB K v then
    (if rget (kK K) v = 1 ∨ rget (kK K) v = 5 then rget (nob (kL K)) ((bt K : Int) - 1 - (b - rget (kE K) v) % q_rB K v)
     else if rget (kK K) v = 3 then rget (nob (kL K)) ((b - rget (kE K) v) % q_rB K v / 2) else rget (nob (kL K)) ((b - rget (kE K) v) % q_rB K v))
  else -1
theorem wK.nS {K : CK} (w : wK K) (v b : Int) : -1 ≤ q_nS K v b ∧ q_nS K v b ≤ 13 := by
  unfold q_nS
  split
  · split
    · have := w.nb ((bt K : Int) - 1 - (b - rget (kE K) v) % q_rB K v); omega
    · split
      · have := w.nb ((b - rget (kE K) v) % q_rB K v / 2); omega
      · have := w.nb ((b - rget (kE K) v) % q_rB K v); omega
  · omega
theorem nS_in {K : CK} {v b : Int} (hc : 0 < q_rB K v ∧ 0 ≤ b - rget (kE K) v ∧ b - rget (kE K) v < kR K * q_rB K v) : q_nS K v b =
    (if rget (kK K) v = 1 ∨ rget (kK K) v = 5 then rget (nob (kL K)) ((bt K : Int) - 1 - (b - rget (kE K) v) % q_rB K v)
     else if rget (kK K) v = 3 then rget (nob (kL K)) ((b - rget (kE K) v) % q_rB K v / 2) else rget (nob (kL K)) ((b - rget (kE K) v) % q_rB K v)) := by rw [q_nS, if_pos hc]
def trn (K : CK) (v : Int) : Prop := rget (kK K) v = 2 ∨ rget (kK K) v = 5
def pst (K : CK) (v b : Int) : Int := if 0 < q_rB K v then (b - rget (kE K) v).tdiv (q_rB K v) else 0
/-- how far above its note a voice sounds -/
def lft (K : CK) (v b : Int) : Int := (if rget (kK K) v = 4 then 4 else 0) + rget (kH K) v + kS K * pst K v b
/-- what a voice sounds at a beat; 999 -/
def sO (K : CK) (v b : Int) : Int := if q_nS K v b < 0 then 999 else (if rget (kK K) v = 2 ∨ rget (kK K) v = 5 then 2 * rget (kP K) 0 - rget (kP K) (q_nS K v b) else rget (kP K) (q_nS K v b)) + lft K v b
theorem pst_bd {K : CK} (w : wK K) {v b : Int} (hb : 0 ≤ b ∧ b ≤ 500) : -60 ≤ pst K v b ∧ pst K v b ≤ 500 := by
  have h1 := w.en v
  unfold pst
  split
  · rename_i hr
    rcases Int.le_total 0 (b - rget (kE K) v) with h | h
    · rw [Int.tdiv_eq_ediv_of_nonneg h]
      have := Int.ediv_nonneg h (Int.le_of_lt hr)
      have := Int.ediv_le_self (q_rB K v) h
      omega
    · have e := Int.neg_tdiv (-(b - rget (kE K) v)) (q_rB K v)
      rw [Int.neg_neg] at e
      have h2 : 0 ≤ -(b - rget (kE K) v) := by omega
      rw [Int.tdiv_eq_ediv_of_nonneg h2] at e
      have := Int.ediv_nonneg h2 (Int.le_of_lt hr)
      have := Int.ediv_le_self (q_rB K v) h2
      omega
  · omega
theorem lft_bd {K : CK} (w : wK K) {v b : Int} (hb : 0 ≤ b ∧ b ≤ 500) : -200 ≤ lft K v b ∧ lft K v b ≤ 1100 := by
  have h1 := w.hi v
  have h2 := pst_bd w (v := v) hb
  have h3 := w.sp
  have h4 : -120 ≤ kS K * pst K v b ∧ kS K * pst K v b ≤ 1000 := by
    rcases (show kS K = 0 ∨ kS K = 1 ∨ kS K = 2 by omega) with e | e | e <;> rw [e] <;> omega
  unfold lft
  split <;> omega
/-- while a voice sings -/
theorem pst_in {K : CK} (w : wK K) {v b : Int} (hn : 0 ≤ q_nS K v b) : 0 ≤ pst K v b ∧ pst K v b ≤ 3 := by
  have h1 : 0 < q_rB K v ∧ 0 ≤ b - rget (kE K) v ∧ b - rget (kE K) v < kR K * q_rB K v := by
    unfold q_nS at hn
    split at hn
    · assumption
    · omega
  obtain ⟨a1, a2, a3⟩ := h1
  unfold pst
  rw [if_pos a1, Int.tdiv_eq_ediv_of_nonneg a2]
  refine ⟨Int.ediv_nonneg a2 (Int.le_of_lt a1), ?_⟩
  have h4 := w.rd.2
  have : (b - rget (kE K) v) / q_rB K v < 4 := by
    apply Int.ediv_lt_of_lt_mul a1
    have : kR K * q_rB K v ≤ 4 * q_rB K v := Int.mul_le_mul_of_nonneg_right h4 (Int.le_of_lt a1)
    omega
  omega
theorem lft_in {K : CK} (w : wK K) {v b : Int} (hn : 0 ≤ q_nS K v b) : 0 ≤ lft K v b ∧ lft K v b ≤ 19 := by
  have h1 := w.hi v
  have h2 := pst_in w hn
  have h3 := w.sp
  have h4 : 0 ≤ kS K * pst K v b ∧ kS K * pst K v b ≤ 6 := mul_bd h3.1 h3.2 h2.1 h2.2
  unfold lft
  split <;> omega
theorem sO_bd {K : CK} (w : wK K) (v b : Int) : sO K v b = 999 ∨ (-9 ≤ sO K v b ∧ sO K v b ≤ 37) := by
  unfold sO
  by_cases hn : q_nS K v b < 0
  · rw [if_pos hn]; exact Or.inl rfl
  · rw [if_neg hn]
    have h1 := lft_in w (v := v) (b := b) (by omega)
    have h2 := w.pt (q_nS K v b)
    have h3 := w.pt 0
    right
    split <;> omega
/-! the canon's cells: c itself, its tune from c + 1 on, five rows from c + 8 on -/
def pCanon (h : AH) (c : Nat) (K : CK) (sg sd : List Int) : Prop :=
  h.2 c = some (aO 0 [aR (c + 1), aR (c + 8), aR (c + 10), aR (c + 12), aR (c + 14), aR (c + 16), aI (kR K), aI (kS K), aI (kW K)]) ∧ pTune h (c + 1) (kP K) (kL K) ∧
  pRow h (c + 8) 7 (kK K) ∧ pRow h (c + 10) 7 (kE K) ∧ pRow h (c + 12) 7 (kH K) ∧ pRow h (c + 14) 7 sg ∧ pRow h (c + 16) 7 sd
theorem pCanon.fr {h h' : AH} {c lo hi : Nat} {K : CK} {sg sd : List Int} (p : pCanon h c K sg sd) (f : Fr lo hi h h') (ha : c + 18 ≤ lo ∨ hi ≤ c) : pCanon h' c K sg sd :=
  ⟨f.at p.1 (by omega), p.2.1.fr f (by omega), p.2.2.1.fr f (by omega), p.2.2.2.1.fr f (by omega), p.2.2.2.2.1.fr f (by omega), p.2.2.2.2.2.1.fr f (by omega), p.2.2.2.2.2.2.fr f (by omega)⟩
set_option maxHeartbeats 4000000 in
set_option maxRecDepth 20000 in
theorem c_Canon_voices (G : Gx) {h : AH} {c : Nat} {K : CK} {sg sd : List Int} (hp : pCanon h c K sg sd) : Ct G Y_Canon_voices 1 0 0 [aR c] h (isR (some (aI (((kK K).length : Int)))) h) := by
  obtain ⟨c0, c1, c2, c3, c4, c5, c6⟩ := id hp
  have hbt : (nob (kL K)).length = bt K := rfl
  refine Ct.of_V mo_Canon_voices rfl (Nat.le_of_ble_eq_true rfl) rfl ?_
  refine v_aload_n k_Canon_voices_0 rfl ?_
  refine v_getf fl_Canon_23 c0 rfl k_Canon_voices_1 ?_
  refine v_callVr mo_Row_size mi_Row_size mv_Row_size lk_Canon_56 k_Canon_voices_4 c2.obj rfl rfl (Nat.le_of_ble_eq_true rfl) rfl (Nat.le_of_ble_eq_true rfl) (c_Row_size G c2) ?_
  refine v_ireturn k_Canon_voices_7 rfl rfl ?_
  exact ⟨rfl, rfl⟩

set_option maxHeartbeats 4000000 in
set_option maxRecDepth 20000 in
theorem c_Canon_hasVoice (G : Gx) {h : AH} {c : Nat} {K : CK} {sg sd : List Int} (hp : pCanon h c K sg sd) {v : Int} (hv : InR v) : Ct G Y_Canon_hasVoice 1 0 0 [aR c, aI v] h (isR (some (aI (if 0 ≤ v ∧ v < (kK K).length then 1 else 0))) h) := by
  obtain ⟨c0, c1, c2, c3, c4, c5, c6⟩ := id hp
  have hbt : (nob (kL K)).length = bt K := rfl
  refine Ct.of_V mo_Canon_hasVoice rfl (Nat.le_of_ble_eq_true rfl) rfl ?_
  refine v_aload_n k_Canon_hasVoice_0 rfl ?_
  refine v_getf fl_Canon_23 c0 rfl k_Canon_hasVoice_1 ?_
  refine v_iload_n k_Canon_hasVoice_4 rfl ?_
  refine v_callVr mo_Row_has mi_Row_has mv_Row_has lk_Canon_60 k_Canon_hasVoice_5 c2.obj rfl rfl (Nat.le_of_ble_eq_true rfl) rfl (Nat.le_of_ble_eq_true rfl) (c_Row_has G c2 (by omega)) ?_
  refine v_ireturn k_Canon_hasVoice_8 rfl (by split <;> rfl) ?_
  exact ⟨rfl, rfl⟩

set_option maxHeartbeats 4000000 in
set_option maxRecDepth 20000 in
theorem c_Canon_kindOf (G : Gx) {h : AH} {c : Nat} {K : CK} {sg sd : List Int} (hp : pCanon h c K sg sd) {v : Int} (hv : InR v) : Ct G Y_Canon_kindOf 1 0 0 [aR c, aI v] h (isR (some (aI (rget (kK K) v))) h) := by
  obtain ⟨c0, c1, c2, c3, c4, c5, c6⟩ := id hp
  have hbt : (nob (kL K)).length = bt K := rfl
  refine Ct.of_V mo_Canon_kindOf rfl (Nat.le_of_ble_eq_true rfl) rfl ?_
  refine v_aload_n k_Canon_kindOf_0 rfl ?_
  refine v_getf fl_Canon_23 c0 rfl k_Canon_kindOf_1 ?_
  refine v_iload_n k_Canon_kindOf_4 rfl ?_
  refine v_callVr mo_Row_get mi_Row_get mv_Row_get lk_Canon_64 k_Canon_kindOf_5 c2.obj rfl rfl (Nat.le_of_ble_eq_true rfl) rfl (Nat.le_of_ble_eq_true rfl) (c_Row_get G c2 (by omega)) ?_
  refine v_ireturn k_Canon_kindOf_8 rfl rfl ?_
  exact ⟨rfl, rfl⟩

set_option maxHeartbeats 4000000 in
set_option maxRecDepth 20000 in
theorem c_Canon_entryOf (G : Gx) {h : AH} {c : Nat} {K : CK} {sg sd : List Int} (hp : pCanon h c K sg sd) {v : Int} (hv : InR v) : Ct G Y_Canon_entryOf 1 0 0 [aR c, aI v] h (isR (some (aI (rget (kE K) v))) h) := by
  obtain ⟨c0, c1, c2, c3, c4, c5, c6⟩ := id hp
  have hbt : (nob (kL K)).length = bt K := rfl
  refine Ct.of_V mo_Canon_entryOf rfl (Nat.le_of_ble_eq_true rfl) rfl ?_
  refine v_aload_n k_Canon_entryOf_0 rfl ?_
  refine v_getf fl_Canon_27 c0 rfl k_Canon_entryOf_1 ?_
  refine v_iload_n k_Canon_entryOf_4 rfl ?_
  refine v_callVr mo_Row_get mi_Row_get mv_Row_get lk_Canon_64 k_Canon_entryOf_5 c3.obj rfl rfl (Nat.le_of_ble_eq_true rfl) rfl (Nat.le_of_ble_eq_true rfl) (c_Row_get G c3 (by omega)) ?_
  refine v_ireturn k_Canon_entryOf_8 rfl rfl ?_
  exact ⟨rfl, rfl⟩

set_option maxHeartbeats 4000000 in
set_option maxRecDepth 20000 in
theorem c_Canon_highOf (G : Gx) {h : AH} {c : Nat} {K : CK} {sg sd : List Int} (hp : pCanon h c K sg sd) {v : Int} (hv : InR v) : Ct G Y_Canon_highOf 1 0 0 [aR c, aI v] h (isR (some (aI (rget (kH K) v))) h) := by
  obtain ⟨c0, c1, c2, c3, c4, c5, c6⟩ := id hp
  have hbt : (nob (kL K)).length = bt K := rfl
  refine Ct.of_V mo_Canon_highOf rfl (Nat.le_of_ble_eq_true rfl) rfl ?_
  refine v_aload_n k_Canon_highOf_0 rfl ?_
  refine v_getf fl_Canon_30 c0 rfl k_Canon_highOf_1 ?_
  refine v_iload_n k_Canon_highOf_4 rfl ?_
  refine v_callVr mo_Row_get mi_Row_get mv_Row_get lk_Canon_64 k_Canon_highOf_5 c4.obj rfl rfl (Nat.le_of_ble_eq_true rfl) rfl (Nat.le_of_ble_eq_true rfl) (c_Row_get G c4 (by omega)) ?_
  refine v_ireturn k_Canon_highOf_8 rfl rfl ?_
  exact ⟨rfl, rfl⟩

set_option maxHeartbeats 4000000 in
set_option maxRecDepth 20000 in
theorem c_Canon_roundBeats (G : Gx) {h : AH} {c : Nat} {K : CK} {sg sd : List Int} (hp : pCanon h c K sg sd) (w : wK K) {v : Int} (hv : InR v) : Ct G Y_Canon_roundBeats 1 0 0 [aR c, aI v] h (isR (some (aI (q_rB K v))) h) := by
  obtain ⟨c0, c1, c2, c3, c4, c5, c6⟩ := id hp
  have hbt : (nob (kL K)).length = bt K := rfl
  have b1 := w.kd v
  refine Ct.of_V mo_Canon_roundBeats rfl (Nat.le_of_ble_eq_true rfl) rfl ?_
  refine v_aload_n k_Canon_roundBeats_0 rfl ?_
  refine v_getf fl_Canon_23 c0 rfl k_Canon_roundBeats_1 ?_
  refine v_iload_n k_Canon_roundBeats_4 rfl ?_
  refine v_callVr mo_Row_get mi_Row_get mv_Row_get lk_Canon_64 k_Canon_roundBeats_5 c2.obj rfl rfl (Nat.le_of_ble_eq_true rfl) rfl (Nat.le_of_ble_eq_true rfl) (c_Row_get G c2 (by omega)) ?_
  refine v_iconst k_Canon_roundBeats_8 ?_
  refine v_icne 24 k_Canon_roundBeats_9 rfl (by omega) (by omega) (fun c9 => ?_) (fun c9 => ?_)
  · refine v_aload_n k_Canon_roundBeats_24 rfl ?_
    refine v_getf fl_Canon_12 c0 rfl k_Canon_roundBeats_25 ?_
    refine v_getf fl_Canon_87 c1.1 rfl k_Canon_roundBeats_28 ?_
    refine v_ireturn k_Canon_roundBeats_31 rfl rfl ?_
    first
      | exact ⟨by rw [q_rB, if_pos (by omega)]; rfl, rfl⟩
      | exact ⟨by rw [q_rB, if_neg (by omega)]; rfl, rfl⟩
  · refine v_iconst k_Canon_roundBeats_12 ?_
    refine v_aload_n k_Canon_roundBeats_13 rfl ?_
    refine v_getf fl_Canon_12 c0 rfl k_Canon_roundBeats_14 ?_
    refine v_getf fl_Canon_87 c1.1 rfl k_Canon_roundBeats_17 ?_
    refine v_imul k_Canon_roundBeats_20 ?_
    refine v_goto k_Canon_roundBeats_21 (tgt := 31) rfl ?_
    refine v_ireturn k_Canon_roundBeats_31 rfl rfl ?_
    first
      | exact ⟨by rw [q_rB, if_pos (by omega)]; rfl, rfl⟩
      | exact ⟨by rw [q_rB, if_neg (by omega)]; rfl, rfl⟩

set_option maxHeartbeats 4000000 in
set_option maxRecDepth 20000 in
theorem c_Canon_stillFrom (G : Gx) {h : AH} {c : Nat} {K : CK} {sg sd : List Int} (hp : pCanon h c K sg sd) (w : wK K) {v : Int} (hv : InR v) : Ct G Y_Canon_stillFrom 2 0 0 [aR c, aI v] h (isR (some (aI (q_stl K v))) h) := by
  obtain ⟨c0, c1, c2, c3, c4, c5, c6⟩ := id hp
  have hbt : (nob (kL K)).length = bt K := rfl
  refine Ct.of_V mo_Canon_stillFrom rfl (Nat.le_of_ble_eq_true rfl) rfl ?_
  refine v_aload_n k_Canon_stillFrom_0 rfl ?_
  refine v_getf fl_Canon_27 c0 rfl k_Canon_stillFrom_1 ?_
  refine v_iload_n k_Canon_stillFrom_4 rfl ?_
  refine v_callVr mo_Row_get mi_Row_get mv_Row_get lk_Canon_64 k_Canon_stillFrom_5 c3.obj rfl rfl (Nat.le_of_ble_eq_true rfl) rfl (Nat.le_of_ble_eq_true rfl) (c_Row_get G c3 (by omega)) ?_
  refine v_aload_n k_Canon_stillFrom_8 rfl ?_
  refine v_getf fl_Canon_39 c0 rfl k_Canon_stillFrom_9 ?_
  refine v_aload_n k_Canon_stillFrom_12 rfl ?_
  refine v_iload_n k_Canon_stillFrom_13 rfl ?_
  refine v_callVr mo_Canon_roundBeats mi_Canon_roundBeats mv_Canon_roundBeats lk_Canon_90 k_Canon_stillFrom_14 c0 rfl rfl (Nat.le_of_ble_eq_true rfl) rfl (Nat.le_of_ble_eq_true rfl) (c_Canon_roundBeats G hp w (by omega)) ?_
  refine v_imul k_Canon_stillFrom_17 ?_
  refine v_iadd k_Canon_stillFrom_18 ?_
  refine v_ireturn k_Canon_stillFrom_19 rfl rfl ?_
  exact ⟨rfl, rfl⟩

set_option maxHeartbeats 4000000 in
set_option maxRecDepth 20000 in
theorem c_Canon_end (G : Gx) {h : AH} {c : Nat} {K : CK} {sg sd : List Int} (hp : pCanon h c K sg sd) (w : wK K) : Ct G Y_Canon_end 3 0 0 [aR c] h (isR (some (aI (q_endK K))) h) := by
  obtain ⟨c0, c1, c2, c3, c4, c5, c6⟩ := id hp
  have b0 := w.bb
  have hbt : (nob (kL K)).length = bt K := rfl
  have b1 := w.nv
  refine Ct.of_V mo_Canon_end rfl (Nat.le_of_ble_eq_true rfl) rfl ?_
  have loop : ∀ (k i : Nat), (kK K).length < i + k → i ≤ (kK K).length → 0 < bt K ∨ i = 0 → V G Y_Canon_end 3 0 0 4 [some (aR c), some (aI (q_endF K i)), some (aI i)] [] h (isR (some (aI (q_endK K))) h) := by
    intro k
    induction k with
    | zero => intro i h1 h2; omega
    | succ k ih =>
      intro i h1 h2 h3
      have b2 := w.endF i
      have b3 := w.stl i
      refine v_iload_n k_Canon_end_4 rfl ?_
      refine v_aload_n k_Canon_end_5 rfl ?_
      refine v_callVr mo_Canon_voices mi_Canon_voices mv_Canon_voices lk_Canon_80 k_Canon_end_6 c0 rfl rfl (Nat.le_of_ble_eq_true rfl) rfl (Nat.le_of_ble_eq_true rfl) (c_Canon_voices G hp) ?_
      refine v_icge 38 k_Canon_end_9 rfl (by omega) (by omega) (fun c9 => ?_) (fun c9 => ?_)
      · refine v_iload_n k_Canon_end_38 rfl ?_
        refine v_ireturn k_Canon_end_39 rfl rfl ?_
        rcases Nat.eq_zero_or_pos (bt K) with hb | hb
        · have hi0 : i = 0 := by omega
          subst hi0
          exact ⟨by rw [q_endK, if_neg (by omega)]; rfl, rfl⟩
        · have hi0 : i = (kK K).length := by omega
          exact ⟨by rw [q_endK, if_pos hb, hi0], rfl⟩
      · refine v_aload_n k_Canon_end_12 rfl ?_
        refine v_getf fl_Canon_12 c0 rfl k_Canon_end_13 ?_
        refine v_getf fl_Canon_87 c1.1 rfl k_Canon_end_16 ?_
        refine v_ifle 38 k_Canon_end_19 rfl (by omega) (fun c19 => ?_) (fun c19 => ?_)
        · refine v_iload_n k_Canon_end_38 rfl ?_
          refine v_ireturn k_Canon_end_39 rfl rfl ?_
          rcases Nat.eq_zero_or_pos (bt K) with hb | hb
          · have hi0 : i = 0 := by omega
            subst hi0
            exact ⟨by rw [q_endK, if_neg (by omega)]; rfl, rfl⟩
          · have hi0 : i = (kK K).length := by omega
            exact ⟨by rw [q_endK, if_pos hb, hi0], rfl⟩
        · refine v_iload_n k_Canon_end_22 rfl ?_
          refine v_aload_n k_Canon_end_23 rfl ?_
          refine v_iload_n k_Canon_end_24 rfl ?_
          refine v_callVr mo_Canon_stillFrom mi_Canon_stillFrom mv_Canon_stillFrom lk_Canon_93 k_Canon_end_25 c0 rfl rfl (Nat.le_of_ble_eq_true rfl) rfl (Nat.le_of_ble_eq_true rfl) (c_Canon_stillFrom G hp w (by omega)) ?_
          refine v_mmax k_Canon_end_28 lm_Canon_96 (by omega) (by omega) (Nat.le_of_ble_eq_true rfl) (Nat.le_of_ble_eq_true rfl) ?_
          refine v_istore_n k_Canon_end_31 ⟨Nat.le_of_ble_eq_true rfl, Nat.le_of_ble_eq_true rfl⟩ ?_
          refine v_iinc k_Canon_end_32 rfl (Nat.le_of_ble_eq_true rfl) ?_
          refine v_goto k_Canon_end_35 (tgt := 4) rfl ?_
          exact ih (i + 1) (by omega) (by omega) (by omega)
  refine v_iconst k_Canon_end_0 ?_
  refine v_istore_n k_Canon_end_1 ⟨Nat.le_of_ble_eq_true rfl, Nat.le_of_ble_eq_true rfl⟩ ?_
  refine v_iconst k_Canon_end_2 ?_
  refine v_istore_n k_Canon_end_3 ⟨Nat.le_of_ble_eq_true rfl, Nat.le_of_ble_eq_true rfl⟩ ?_
  exact loop 8 0 (by omega) (by omega) (Or.inr rfl)

set_option maxHeartbeats 4000000 in
set_option maxRecDepth 20000 in
theorem c_Canon_isTurned (G : Gx) {h : AH} {c : Nat} {K : CK} {sg sd : List Int} (hp : pCanon h c K sg sd) (w : wK K) {v : Int} (hv : InR v) : Ct G Y_Canon_isTurned 1 0 0 [aR c, aI v] h (isR (some (aI (if rget (kK K) v = 2 ∨ rget (kK K) v = 5 then 1 else 0))) h) := by
  obtain ⟨c0, c1, c2, c3, c4, c5, c6⟩ := id hp
  have hbt : (nob (kL K)).length = bt K := rfl
  have b1 := w.kd v
  refine Ct.of_V mo_Canon_isTurned rfl (Nat.le_of_ble_eq_true rfl) rfl ?_
  refine v_aload_n k_Canon_isTurned_0 rfl ?_
  refine v_getf fl_Canon_23 c0 rfl k_Canon_isTurned_1 ?_
  refine v_iload_n k_Canon_isTurned_4 rfl ?_
  refine v_callVr mo_Row_get mi_Row_get mv_Row_get lk_Canon_64 k_Canon_isTurned_5 c2.obj rfl rfl (Nat.le_of_ble_eq_true rfl) rfl (Nat.le_of_ble_eq_true rfl) (c_Row_get G c2 (by omega)) ?_
  refine v_istore_n k_Canon_isTurned_8 ⟨Nat.le_of_ble_eq_true rfl, Nat.le_of_ble_eq_true rfl⟩ ?_
  refine v_iload_n k_Canon_isTurned_9 rfl ?_
  refine v_iconst k_Canon_isTurned_10 ?_
  refine v_iceq 19 k_Canon_isTurned_11 rfl (by omega) (by omega) (fun c11 => ?_) (fun c11 => ?_)
  · refine v_iconst k_Canon_isTurned_19 ?_
    refine v_goto k_Canon_isTurned_20 (tgt := 24) rfl ?_
    refine v_ireturn k_Canon_isTurned_24 rfl (by first | rfl | (split <;> rfl)) ?_
    first
      | exact ⟨by rw [if_pos (by omega)], rfl⟩
      | exact ⟨by rw [if_neg (by omega)], rfl⟩
  · refine v_iload_n k_Canon_isTurned_14 rfl ?_
    refine v_iconst k_Canon_isTurned_15 ?_
    refine v_icne 23 k_Canon_isTurned_16 rfl (by omega) (by omega) (fun c16 => ?_) (fun c16 => ?_)
    · refine v_iconst k_Canon_isTurned_23 ?_
      refine v_ireturn k_Canon_isTurned_24 rfl (by first | rfl | (split <;> rfl)) ?_
      first
        | exact ⟨by rw [if_pos (by omega)], rfl⟩
        | exact ⟨by rw [if_neg (by omega)], rfl⟩
    · refine v_iconst k_Canon_isTurned_19 ?_
      refine v_goto k_Canon_isTurned_20 (tgt := 24) rfl ?_
      refine v_ireturn k_Canon_isTurned_24 rfl (by first | rfl | (split <;> rfl)) ?_
      first
        | exact ⟨by rw [if_pos (by omega)], rfl⟩
        | exact ⟨by rw [if_neg (by omega)], rfl⟩

set_option maxHeartbeats 4000000 in
set_option maxRecDepth 20000 in
theorem c_Canon_lift (G : Gx) {h : AH} {c : Nat} {K : CK} {sg sd : List Int} (hp : pCanon h c K sg sd) (w : wK K) {v b : Int} (hv : InR v) (hb : 0 ≤ b ∧ b ≤ 500) : Ct G Y_Canon_lift 2 0 0 [aR c, aI v, aI b] h (isR (some (aI (lft K v b))) h) := by
  obtain ⟨c0, c1, c2, c3, c4, c5, c6⟩ := id hp
  have hbt : (nob (kL K)).length = bt K := rfl
  have b1 := w.kd v
  have b2 := w.rB v
  have b3 := w.en v
  refine Ct.of_V mo_Canon_lift rfl (Nat.le_of_ble_eq_true rfl) rfl ?_
  refine v_aload_n k_Canon_lift_0 rfl ?_
  refine v_iload_n k_Canon_lift_1 rfl ?_
  refine v_callVr mo_Canon_roundBeats mi_Canon_roundBeats mv_Canon_roundBeats lk_Canon_90 k_Canon_lift_2 c0 rfl rfl (Nat.le_of_ble_eq_true rfl) rfl (Nat.le_of_ble_eq_true rfl) (c_Canon_roundBeats G hp w (by omega)) ?_
  refine v_istore_n k_Canon_lift_5 ⟨Nat.le_of_ble_eq_true rfl, Nat.le_of_ble_eq_true rfl⟩ ?_
  refine v_iload_n k_Canon_lift_6 rfl ?_
  refine v_ifle 25 k_Canon_lift_7 rfl (by omega) (fun c7 => ?_) (fun c7 => ?_)
  · refine v_iconst k_Canon_lift_25 ?_
    refine v_istore k_Canon_lift_26 ⟨Nat.le_of_ble_eq_true rfl, Nat.le_of_ble_eq_true rfl⟩ ?_
    refine v_aload_n k_Canon_lift_28 rfl ?_
    refine v_getf fl_Canon_23 c0 rfl k_Canon_lift_29 ?_
    refine v_iload_n k_Canon_lift_32 rfl ?_
    refine v_callVr mo_Row_get mi_Row_get mv_Row_get lk_Canon_64 k_Canon_lift_33 c2.obj rfl rfl (Nat.le_of_ble_eq_true rfl) rfl (Nat.le_of_ble_eq_true rfl) (c_Row_get G c2 (by omega)) ?_
    refine v_iconst k_Canon_lift_36 ?_
    refine v_icne 44 k_Canon_lift_37 rfl (by omega) (by omega) (fun c37 => ?_) (fun c37 => ?_)
    · refine v_iconst k_Canon_lift_44 ?_
      refine v_istore k_Canon_lift_45 ⟨Nat.le_of_ble_eq_true rfl, Nat.le_of_ble_eq_true rfl⟩ ?_
      refine v_iload k_Canon_lift_47 rfl ?_
      refine v_aload_n k_Canon_lift_49 rfl ?_
      refine v_getf fl_Canon_30 c0 rfl k_Canon_lift_50 ?_
      refine v_iload_n k_Canon_lift_53 rfl ?_
      refine v_callVr mo_Row_get mi_Row_get mv_Row_get lk_Canon_64 k_Canon_lift_54 c4.obj rfl rfl (Nat.le_of_ble_eq_true rfl) rfl (Nat.le_of_ble_eq_true rfl) (c_Row_get G c4 (by omega)) ?_
      refine v_iadd k_Canon_lift_57 ?_
      refine v_aload_n k_Canon_lift_58 rfl ?_
      refine v_getf fl_Canon_43 c0 rfl k_Canon_lift_59 ?_
      refine v_iload k_Canon_lift_62 rfl ?_
      refine v_imul k_Canon_lift_64 ?_
      refine v_iadd k_Canon_lift_65 ?_
      refine v_ireturn k_Canon_lift_66 rfl rfl ?_
      refine ⟨?_, rfl⟩
      rw [lft, pst]
      first
        | (rw [if_pos (by omega), if_pos (by omega)]; done)
        | (rw [if_neg (by omega), if_pos (by omega)]; done)
        | (rw [if_pos (by omega), if_neg (by omega)]; done)
        | (rw [if_neg (by omega), if_neg (by omega)]; done)
    · refine v_iconst k_Canon_lift_40 ?_
      refine v_goto k_Canon_lift_41 (tgt := 45) rfl ?_
      refine v_istore k_Canon_lift_45 ⟨Nat.le_of_ble_eq_true rfl, Nat.le_of_ble_eq_true rfl⟩ ?_
      refine v_iload k_Canon_lift_47 rfl ?_
      refine v_aload_n k_Canon_lift_49 rfl ?_
      refine v_getf fl_Canon_30 c0 rfl k_Canon_lift_50 ?_
      refine v_iload_n k_Canon_lift_53 rfl ?_
      refine v_callVr mo_Row_get mi_Row_get mv_Row_get lk_Canon_64 k_Canon_lift_54 c4.obj rfl rfl (Nat.le_of_ble_eq_true rfl) rfl (Nat.le_of_ble_eq_true rfl) (c_Row_get G c4 (by omega)) ?_
      refine v_iadd k_Canon_lift_57 ?_
      refine v_aload_n k_Canon_lift_58 rfl ?_
      refine v_getf fl_Canon_43 c0 rfl k_Canon_lift_59 ?_
      refine v_iload k_Canon_lift_62 rfl ?_
      refine v_imul k_Canon_lift_64 ?_
      refine v_iadd k_Canon_lift_65 ?_
      refine v_ireturn k_Canon_lift_66 rfl rfl ?_
      refine ⟨?_, rfl⟩
      rw [lft, pst]
      first
        | (rw [if_pos (by omega), if_pos (by omega)]; done)
        | (rw [if_neg (by omega), if_pos (by omega)]; done)
        | (rw [if_pos (by omega), if_neg (by omega)]; done)
        | (rw [if_neg (by omega), if_neg (by omega)]; done)
  · refine v_iload_n k_Canon_lift_10 rfl ?_
    refine v_aload_n k_Canon_lift_11 rfl ?_
    refine v_getf fl_Canon_27 c0 rfl k_Canon_lift_12 ?_
    refine v_iload_n k_Canon_lift_15 rfl ?_
    refine v_callVr mo_Row_get mi_Row_get mv_Row_get lk_Canon_64 k_Canon_lift_16 c3.obj rfl rfl (Nat.le_of_ble_eq_true rfl) rfl (Nat.le_of_ble_eq_true rfl) (c_Row_get G c3 (by omega)) ?_
    refine v_isub k_Canon_lift_19 ?_
    refine v_iload_n k_Canon_lift_20 rfl ?_
    refine v_idiv k_Canon_lift_21 (by omega) (by omega) ?_
    refine v_goto k_Canon_lift_22 (tgt := 26) rfl ?_
    refine v_istore k_Canon_lift_26 ⟨Nat.le_of_ble_eq_true rfl, Nat.le_of_ble_eq_true rfl⟩ ?_
    refine v_aload_n k_Canon_lift_28 rfl ?_
    refine v_getf fl_Canon_23 c0 rfl k_Canon_lift_29 ?_
    refine v_iload_n k_Canon_lift_32 rfl ?_
    refine v_callVr mo_Row_get mi_Row_get mv_Row_get lk_Canon_64 k_Canon_lift_33 c2.obj rfl rfl (Nat.le_of_ble_eq_true rfl) rfl (Nat.le_of_ble_eq_true rfl) (c_Row_get G c2 (by omega)) ?_
    refine v_iconst k_Canon_lift_36 ?_
    refine v_icne 44 k_Canon_lift_37 rfl (by omega) (by omega) (fun c37 => ?_) (fun c37 => ?_)
    · refine v_iconst k_Canon_lift_44 ?_
      refine v_istore k_Canon_lift_45 ⟨Nat.le_of_ble_eq_true rfl, Nat.le_of_ble_eq_true rfl⟩ ?_
      refine v_iload k_Canon_lift_47 rfl ?_
      refine v_aload_n k_Canon_lift_49 rfl ?_
      refine v_getf fl_Canon_30 c0 rfl k_Canon_lift_50 ?_
      refine v_iload_n k_Canon_lift_53 rfl ?_
      refine v_callVr mo_Row_get mi_Row_get mv_Row_get lk_Canon_64 k_Canon_lift_54 c4.obj rfl rfl (Nat.le_of_ble_eq_true rfl) rfl (Nat.le_of_ble_eq_true rfl) (c_Row_get G c4 (by omega)) ?_
      refine v_iadd k_Canon_lift_57 ?_
      refine v_aload_n k_Canon_lift_58 rfl ?_
      refine v_getf fl_Canon_43 c0 rfl k_Canon_lift_59 ?_
      refine v_iload k_Canon_lift_62 rfl ?_
      refine v_imul k_Canon_lift_64 ?_
      refine v_iadd k_Canon_lift_65 ?_
      refine v_ireturn k_Canon_lift_66 rfl rfl ?_
      refine ⟨?_, rfl⟩
      rw [lft, pst]
      first
        | (rw [if_pos (by omega), if_pos (by omega)]; done)
        | (rw [if_neg (by omega), if_pos (by omega)]; done)
        | (rw [if_pos (by omega), if_neg (by omega)]; done)
        | (rw [if_neg (by omega), if_neg (by omega)]; done)
    · refine v_iconst k_Canon_lift_40 ?_
      refine v_goto k_Canon_lift_41 (tgt := 45) rfl ?_
      refine v_istore k_Canon_lift_45 ⟨Nat.le_of_ble_eq_true rfl, Nat.le_of_ble_eq_true rfl⟩ ?_
      refine v_iload k_Canon_lift_47 rfl ?_
      refine v_aload_n k_Canon_lift_49 rfl ?_
      refine v_getf fl_Canon_30 c0 rfl k_Canon_lift_50 ?_
      refine v_iload_n k_Canon_lift_53 rfl ?_
      refine v_callVr mo_Row_get mi_Row_get mv_Row_get lk_Canon_64 k_Canon_lift_54 c4.obj rfl rfl (Nat.le_of_ble_eq_true rfl) rfl (Nat.le_of_ble_eq_true rfl) (c_Row_get G c4 (by omega)) ?_
      refine v_iadd k_Canon_lift_57 ?_
      refine v_aload_n k_Canon_lift_58 rfl ?_
      refine v_getf fl_Canon_43 c0 rfl k_Canon_lift_59 ?_
      refine v_iload k_Canon_lift_62 rfl ?_
      refine v_imul k_Canon_lift_64 ?_
      refine v_iadd k_Canon_lift_65 ?_
      refine v_ireturn k_Canon_lift_66 rfl rfl ?_
      refine ⟨?_, rfl⟩
      rw [lft, pst]
      first
        | (rw [if_pos (by omega), if_pos (by omega)]; done)
        | (rw [if_neg (by omega), if_pos (by omega)]; done)
        | (rw [if_pos (by omega), if_neg (by omega)]; done)
        | (rw [if_neg (by omega), if_neg (by omega)]; done)

set_option maxHeartbeats 4000000 in
set_option maxRecDepth 20000 in
theorem c_Canon_noteSung (G : Gx) {h : AH} {c : Nat} {K : CK} {sg sd : List Int} (hp : pCanon h c K sg sd) (w : wK K) {v b : Int} (hv : InR v) (hb : 0 ≤ b ∧ b ≤ 500) : Ct G Y_Canon_noteSung 2 0 0 [aR c, aI v, aI b] h (isR (some (aI (q_nS K v b))) h) := by
  obtain ⟨c0, c1, c2, c3, c4, c5, c6⟩ := id hp
  have hbt : (nob (kL K)).length = bt K := rfl
  have b1 := w.kd v
  have b2 := w.rB v
  have b3 := w.en v
  have b4 := w.rr v
  have b5 := w.bb
  refine Ct.of_V mo_Canon_noteSung rfl (Nat.le_of_ble_eq_true rfl) rfl ?_
  refine v_aload_n k_Canon_noteSung_0 rfl ?_
  refine v_iload_n k_Canon_noteSung_1 rfl ?_
  refine v_callVr mo_Canon_roundBeats mi_Canon_roundBeats mv_Canon_roundBeats lk_Canon_90 k_Canon_noteSung_2 c0 rfl rfl (Nat.le_of_ble_eq_true rfl) rfl (Nat.le_of_ble_eq_true rfl) (c_Canon_roundBeats G hp w (by omega)) ?_
  refine v_istore_n k_Canon_noteSung_5 ⟨Nat.le_of_ble_eq_true rfl, Nat.le_of_ble_eq_true rfl⟩ ?_
  refine v_iload_n k_Canon_noteSung_6 rfl ?_
  refine v_aload_n k_Canon_noteSung_7 rfl ?_
  refine v_getf fl_Canon_27 c0 rfl k_Canon_noteSung_8 ?_
  refine v_iload_n k_Canon_noteSung_11 rfl ?_
  refine v_callVr mo_Row_get mi_Row_get mv_Row_get lk_Canon_64 k_Canon_noteSung_12 c3.obj rfl rfl (Nat.le_of_ble_eq_true rfl) rfl (Nat.le_of_ble_eq_true rfl) (c_Row_get G c3 (by omega)) ?_
  refine v_isub k_Canon_noteSung_15 ?_
  refine v_istore k_Canon_noteSung_16 ⟨Nat.le_of_ble_eq_true rfl, Nat.le_of_ble_eq_true rfl⟩ ?_
  refine v_iload_n k_Canon_noteSung_18 rfl ?_
  refine v_ifle 38 k_Canon_noteSung_19 rfl (by omega) (fun c19 => ?_) (fun c19 => ?_)
  · refine v_iconst k_Canon_noteSung_38 ?_
    refine v_ireturn k_Canon_noteSung_39 rfl rfl ?_
    exact ⟨by rw [q_nS, if_neg (by omega)], rfl⟩
  · refine v_iload k_Canon_noteSung_22 rfl ?_
    refine v_iflt 38 k_Canon_noteSung_24 rfl (by omega) (fun c24 => ?_) (fun c24 => ?_)
    · refine v_iconst k_Canon_noteSung_38 ?_
      refine v_ireturn k_Canon_noteSung_39 rfl rfl ?_
      exact ⟨by rw [q_nS, if_neg (by omega)], rfl⟩
    · refine v_iload k_Canon_noteSung_27 rfl ?_
      refine v_aload_n k_Canon_noteSung_29 rfl ?_
      refine v_getf fl_Canon_39 c0 rfl k_Canon_noteSung_30 ?_
      refine v_iload_n k_Canon_noteSung_33 rfl ?_
      refine v_imul k_Canon_noteSung_34 ?_
      refine v_iclt 40 k_Canon_noteSung_35 rfl (by omega) (by omega) (fun c35 => ?_) (fun c35 => ?_)
      · refine v_iload k_Canon_noteSung_40 rfl ?_
        refine v_iload_n k_Canon_noteSung_42 rfl ?_
        refine v_irem k_Canon_noteSung_43 (by omega) (by omega) ?_
        have hc : 0 < q_rB K v ∧ 0 ≤ b - rget (kE K) v ∧ b - rget (kE K) v < kR K * q_rB K v := by omega
        have hnS := nS_in hc
        rw [Int.tmod_eq_emod_of_nonneg hc.2.1]
        have b6 := Int.emod_nonneg (b - rget (kE K) v) (show q_rB K v ≠ 0 by omega)
        have b7 := Int.emod_lt_of_pos (b - rget (kE K) v) hc.1
        generalize (b - rget (kE K) v) % q_rB K v = j at hnS b6 b7 ⊢
        have e2 : j.tdiv 2 = j / 2 := Int.tdiv_eq_ediv_of_nonneg b6
        refine v_istore k_Canon_noteSung_44 ⟨Nat.le_of_ble_eq_true rfl, Nat.le_of_ble_eq_true rfl⟩ ?_
        refine v_aload_n k_Canon_noteSung_46 rfl ?_
        refine v_getf fl_Canon_23 c0 rfl k_Canon_noteSung_47 ?_
        refine v_iload_n k_Canon_noteSung_50 rfl ?_
        refine v_callVr mo_Row_get mi_Row_get mv_Row_get lk_Canon_64 k_Canon_noteSung_51 c2.obj rfl rfl (Nat.le_of_ble_eq_true rfl) rfl (Nat.le_of_ble_eq_true rfl) (c_Row_get G c2 (by omega)) ?_
        rcases (show rget (kK K) v = 0 ∨ rget (kK K) v = 1 ∨ rget (kK K) v = 2 ∨ rget (kK K) v = 3 ∨ rget (kK K) v = 4 ∨ rget (kK K) v = 5 by omega) with e | e | e | e | e | e
        · rw [e]
          refine v_tableOut 120 k_Canon_noteSung_54 (by decide) (by decide) rfl ?_
          refine v_aload_n k_Canon_noteSung_120 rfl ?_
          refine v_getf fl_Canon_12 c0 rfl k_Canon_noteSung_121 ?_
          refine v_iload k_Canon_noteSung_124 rfl ?_
          refine v_callVr mo_Tune_noteAt mi_Tune_noteAt mv_Tune_noteAt lk_Canon_102 k_Canon_noteSung_126 c1.1 rfl rfl (Nat.le_of_ble_eq_true rfl) rfl (Nat.le_of_ble_eq_true rfl) (c_Tune_noteAt G c1 (by omega)) ?_
          refine v_ireturn k_Canon_noteSung_129 rfl rfl ?_
          exact ⟨by rw [hnS]; simp [e, hbt, e2], rfl⟩
        · rw [e]
          refine v_tableIn 88 k_Canon_noteSung_54 (by decide) (by decide) (by decide) rfl rfl ?_
          refine v_aload_n k_Canon_noteSung_88 rfl ?_
          refine v_getf fl_Canon_12 c0 rfl k_Canon_noteSung_89 ?_
          refine v_aload_n k_Canon_noteSung_92 rfl ?_
          refine v_getf fl_Canon_12 c0 rfl k_Canon_noteSung_93 ?_
          refine v_getf fl_Canon_87 c1.1 rfl k_Canon_noteSung_96 ?_
          refine v_iconst k_Canon_noteSung_99 ?_
          refine v_isub k_Canon_noteSung_100 ?_
          refine v_iload k_Canon_noteSung_101 rfl ?_
          refine v_isub k_Canon_noteSung_103 ?_
          refine v_callVr mo_Tune_noteAt mi_Tune_noteAt mv_Tune_noteAt lk_Canon_102 k_Canon_noteSung_104 c1.1 rfl rfl (Nat.le_of_ble_eq_true rfl) rfl (Nat.le_of_ble_eq_true rfl) (c_Tune_noteAt G c1 (by omega)) ?_
          refine v_ireturn k_Canon_noteSung_107 rfl rfl ?_
          exact ⟨by rw [hnS]; simp [e, hbt, e2], rfl⟩
        · rw [e]
          refine v_tableIn 120 k_Canon_noteSung_54 (by decide) (by decide) (by decide) rfl rfl ?_
          refine v_aload_n k_Canon_noteSung_120 rfl ?_
          refine v_getf fl_Canon_12 c0 rfl k_Canon_noteSung_121 ?_
          refine v_iload k_Canon_noteSung_124 rfl ?_
          refine v_callVr mo_Tune_noteAt mi_Tune_noteAt mv_Tune_noteAt lk_Canon_102 k_Canon_noteSung_126 c1.1 rfl rfl (Nat.le_of_ble_eq_true rfl) rfl (Nat.le_of_ble_eq_true rfl) (c_Tune_noteAt G c1 (by omega)) ?_
          refine v_ireturn k_Canon_noteSung_129 rfl rfl ?_
          exact ⟨by rw [hnS]; simp [e, hbt, e2], rfl⟩
        · rw [e]
          refine v_tableIn 108 k_Canon_noteSung_54 (by decide) (by decide) (by decide) rfl rfl ?_
          refine v_aload_n k_Canon_noteSung_108 rfl ?_
          refine v_getf fl_Canon_12 c0 rfl k_Canon_noteSung_109 ?_
          refine v_iload k_Canon_noteSung_112 rfl ?_
          refine v_iconst k_Canon_noteSung_114 ?_
          refine v_idiv k_Canon_noteSung_115 (by omega) (by omega) ?_
          refine v_callVr mo_Tune_noteAt mi_Tune_noteAt mv_Tune_noteAt lk_Canon_102 k_Canon_noteSung_116 c1.1 rfl rfl (Nat.le_of_ble_eq_true rfl) rfl (Nat.le_of_ble_eq_true rfl) (c_Tune_noteAt G c1 (by omega)) ?_
          refine v_ireturn k_Canon_noteSung_119 rfl rfl ?_
          exact ⟨by rw [hnS]; simp [e, hbt, e2], rfl⟩
        · rw [e]
          refine v_tableIn 120 k_Canon_noteSung_54 (by decide) (by decide) (by decide) rfl rfl ?_
          refine v_aload_n k_Canon_noteSung_120 rfl ?_
          refine v_getf fl_Canon_12 c0 rfl k_Canon_noteSung_121 ?_
          refine v_iload k_Canon_noteSung_124 rfl ?_
          refine v_callVr mo_Tune_noteAt mi_Tune_noteAt mv_Tune_noteAt lk_Canon_102 k_Canon_noteSung_126 c1.1 rfl rfl (Nat.le_of_ble_eq_true rfl) rfl (Nat.le_of_ble_eq_true rfl) (c_Tune_noteAt G c1 (by omega)) ?_
          refine v_ireturn k_Canon_noteSung_129 rfl rfl ?_
          exact ⟨by rw [hnS]; simp [e, hbt, e2], rfl⟩
        · rw [e]
          refine v_tableIn 88 k_Canon_noteSung_54 (by decide) (by decide) (by decide) rfl rfl ?_
          refine v_aload_n k_Canon_noteSung_88 rfl ?_
          refine v_getf fl_Canon_12 c0 rfl k_Canon_noteSung_89 ?_
          refine v_aload_n k_Canon_noteSung_92 rfl ?_
          refine v_getf fl_Canon_12 c0 rfl k_Canon_noteSung_93 ?_
          refine v_getf fl_Canon_87 c1.1 rfl k_Canon_noteSung_96 ?_
          refine v_iconst k_Canon_noteSung_99 ?_
          refine v_isub k_Canon_noteSung_100 ?_
          refine v_iload k_Canon_noteSung_101 rfl ?_
          refine v_isub k_Canon_noteSung_103 ?_
          refine v_callVr mo_Tune_noteAt mi_Tune_noteAt mv_Tune_noteAt lk_Canon_102 k_Canon_noteSung_104 c1.1 rfl rfl (Nat.le_of_ble_eq_true rfl) rfl (Nat.le_of_ble_eq_true rfl) (c_Tune_noteAt G c1 (by omega)) ?_
          refine v_ireturn k_Canon_noteSung_107 rfl rfl ?_
          exact ⟨by rw [hnS]; simp [e, hbt, e2], rfl⟩
      · refine v_iconst k_Canon_noteSung_38 ?_
        refine v_ireturn k_Canon_noteSung_39 rfl rfl ?_
        exact ⟨by rw [q_nS, if_neg (by omega)], rfl⟩

set_option maxHeartbeats 4000000 in
set_option maxRecDepth 20000 in
theorem c_Canon_soundOf (G : Gx) {h : AH} {c : Nat} {K : CK} {sg sd : List Int} (hp : pCanon h c K sg sd) (w : wK K) {v b : Int} (hv : InR v) (hb : 0 ≤ b ∧ b ≤ 500) : Ct G Y_Canon_soundOf 3 0 0 [aR c, aI v, aI b] h (isR (some (aI (sO K v b))) h) := by
  obtain ⟨c0, c1, c2, c3, c4, c5, c6⟩ := id hp
  have hbt : (nob (kL K)).length = bt K := rfl
  have b1 := w.nS v b
  refine Ct.of_V mo_Canon_soundOf rfl (Nat.le_of_ble_eq_true rfl) rfl ?_
  refine v_aload_n k_Canon_soundOf_0 rfl ?_
  refine v_iload_n k_Canon_soundOf_1 rfl ?_
  refine v_iload_n k_Canon_soundOf_2 rfl ?_
  refine v_callVr mo_Canon_noteSung mi_Canon_noteSung mv_Canon_noteSung lk_Canon_105 k_Canon_soundOf_3 c0 rfl rfl (Nat.le_of_ble_eq_true rfl) rfl (Nat.le_of_ble_eq_true rfl) (c_Canon_noteSung G hp w (by omega) (by omega)) ?_
  refine v_istore_n k_Canon_soundOf_6 ⟨Nat.le_of_ble_eq_true rfl, Nat.le_of_ble_eq_true rfl⟩ ?_
  refine v_iload_n k_Canon_soundOf_7 rfl ?_
  refine v_ifge 15 k_Canon_soundOf_8 rfl (by omega) (fun c8 => ?_) (fun c8 => ?_)
  · refine v_aload_n k_Canon_soundOf_15 rfl ?_
    refine v_getf fl_Canon_12 c0 rfl k_Canon_soundOf_16 ?_
    refine v_iload_n k_Canon_soundOf_19 rfl ?_
    refine v_callVr mo_Tune_pitchOf mi_Tune_pitchOf mv_Tune_pitchOf lk_Canon_108 k_Canon_soundOf_20 c1.1 rfl rfl (Nat.le_of_ble_eq_true rfl) rfl (Nat.le_of_ble_eq_true rfl) (c_Tune_pitchOf G c1 (by omega)) ?_
    refine v_istore k_Canon_soundOf_23 ⟨Nat.le_of_ble_eq_true rfl, Nat.le_of_ble_eq_true rfl⟩ ?_
    refine v_aload_n k_Canon_soundOf_25 rfl ?_
    refine v_iload_n k_Canon_soundOf_26 rfl ?_
    refine v_callVr mo_Canon_isTurned mi_Canon_isTurned mv_Canon_isTurned lk_Canon_111 k_Canon_soundOf_27 c0 rfl rfl (Nat.le_of_ble_eq_true rfl) rfl (Nat.le_of_ble_eq_true rfl) (c_Canon_isTurned G hp w (by omega)) ?_
    refine v_ifeq 49 k_Canon_soundOf_30 rfl (by split <;> decide) (fun c30 => ?_) (fun c30 => ?_)
    · refine v_iload k_Canon_soundOf_49 rfl ?_
      refine v_istore k_Canon_soundOf_51 ⟨Nat.le_of_ble_eq_true rfl, Nat.le_of_ble_eq_true rfl⟩ ?_
      refine v_iload k_Canon_soundOf_53 rfl ?_
      refine v_aload_n k_Canon_soundOf_55 rfl ?_
      refine v_iload_n k_Canon_soundOf_56 rfl ?_
      refine v_iload_n k_Canon_soundOf_57 rfl ?_
      refine v_callVr mo_Canon_lift mi_Canon_lift mv_Canon_lift lk_Canon_114 k_Canon_soundOf_58 c0 rfl rfl (Nat.le_of_ble_eq_true rfl) rfl (Nat.le_of_ble_eq_true rfl) (c_Canon_lift G hp w (by omega) (by omega)) ?_
      refine v_iadd k_Canon_soundOf_61 ?_
      refine v_ireturn k_Canon_soundOf_62 rfl rfl ?_
      refine ⟨?_, rfl⟩
      rw [sO]
      first
        | (rw [if_pos (by omega)]; done)
        | (rw [if_neg (by omega), if_pos (by first | assumption | omega)]; done)
        | (rw [if_neg (by omega), if_neg (by first | assumption | omega)]; done)
    · refine v_iconst k_Canon_soundOf_33 ?_
      refine v_aload_n k_Canon_soundOf_34 rfl ?_
      refine v_getf fl_Canon_12 c0 rfl k_Canon_soundOf_35 ?_
      refine v_iconst k_Canon_soundOf_38 ?_
      refine v_callVr mo_Tune_pitchOf mi_Tune_pitchOf mv_Tune_pitchOf lk_Canon_108 k_Canon_soundOf_39 c1.1 rfl rfl (Nat.le_of_ble_eq_true rfl) rfl (Nat.le_of_ble_eq_true rfl) (c_Tune_pitchOf G c1 (by omega)) ?_
      refine v_imul k_Canon_soundOf_42 ?_
      refine v_iload k_Canon_soundOf_43 rfl ?_
      refine v_isub k_Canon_soundOf_45 ?_
      refine v_goto k_Canon_soundOf_46 (tgt := 51) rfl ?_
      refine v_istore k_Canon_soundOf_51 ⟨Nat.le_of_ble_eq_true rfl, Nat.le_of_ble_eq_true rfl⟩ ?_
      refine v_iload k_Canon_soundOf_53 rfl ?_
      refine v_aload_n k_Canon_soundOf_55 rfl ?_
      refine v_iload_n k_Canon_soundOf_56 rfl ?_
      refine v_iload_n k_Canon_soundOf_57 rfl ?_
      refine v_callVr mo_Canon_lift mi_Canon_lift mv_Canon_lift lk_Canon_114 k_Canon_soundOf_58 c0 rfl rfl (Nat.le_of_ble_eq_true rfl) rfl (Nat.le_of_ble_eq_true rfl) (c_Canon_lift G hp w (by omega) (by omega)) ?_
      refine v_iadd k_Canon_soundOf_61 ?_
      refine v_ireturn k_Canon_soundOf_62 rfl rfl ?_
      refine ⟨?_, rfl⟩
      rw [sO]
      first
        | (rw [if_pos (by omega)]; done)
        | (rw [if_neg (by omega), if_pos (by first | assumption | omega)]; done)
        | (rw [if_neg (by omega), if_neg (by first | assumption | omega)]; done)
  · refine v_sipush k_Canon_soundOf_11 (by decide) ?_
    refine v_ireturn k_Canon_soundOf_14 rfl rfl ?_
    refine ⟨?_, rfl⟩
    rw [sO]
    first
      | (rw [if_pos (by omega)]; done)
      | (rw [if_neg (by omega), if_pos (by first | assumption | omega)]; done)
      | (rw [if_neg (by omega), if_neg (by first | assumption | omega)]; done)
