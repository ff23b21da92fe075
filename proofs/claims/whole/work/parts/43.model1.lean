/-! the reference: one row of numbers for a canon -/
abbrev MX : Type := Int × Int × Int × Int × Int × Int × Int
def mO (m : Nat) (X : MX) : List AV := [aR (m + 1), aR (m + 2), aR (m + 3), aR (m + 4), aI X.1, aR (m + 5), aI X.2.1, aI X.2.2.1, aI X.2.2.2.1, aR (m + 6), aR (m + 7), aI X.2.2.2.2.1, aR (m + 8), aR (m + 9), aI X.2.2.2.2.2.1, aR (m + 10), aI X.2.2.2.2.2.2]
/-- a row of 80 numbers holds a canon -/
def nowR (a : List Int) (K : CK) : Prop := a.length = 80 ∧ a.getD 0 0 = ((kP K).length : Int) ∧ a.getD 1 0 = ((kK K).length : Int) ∧ a.getD 2 0 = kR K ∧ a.getD 3 0 = kS K ∧ a.getD 4 0 = kW K ∧
  (∀ i : Nat, i < (kP K).length → a.getD (10 + i) 0 = rget (kP K) i ∧ a.getD (30 + i) 0 = rget (kL K) i) ∧ (∀ i : Nat, i < (kK K).length → a.getD (50 + i) 0 = rget (kK K) i ∧ a.getD (60 + i) 0 = rget (kE K) i ∧ a.getD (70 + i) 0 = rget (kH K) i)
theorem nowR.n0 {a : List Int} {K : CK} (k : nowR a K) : a.getD (0 : Int).toNat 0 = ((kP K).length : Int) := k.2.1
theorem nowR.n1 {a : List Int} {K : CK} (k : nowR a K) : a.getD (1 : Int).toNat 0 = ((kK K).length : Int) := k.2.2.1
theorem nowR.n2 {a : List Int} {K : CK} (k : nowR a K) : a.getD (2 : Int).toNat 0 = kR K := k.2.2.2.1
theorem nowR.n3 {a : List Int} {K : CK} (k : nowR a K) : a.getD (3 : Int).toNat 0 = kS K := k.2.2.2.2.1
theorem nowR.n4 {a : List Int} {K : CK} (k : nowR a K) : a.getD (4 : Int).toNat 0 = kW K := k.2.2.2.2.2.1
theorem nowR.p {a : List Int} {K : CK} (k : nowR a K) {x : Int} (hx : 0 ≤ x ∧ x < (kP K).length) : a.getD (10 + x).toNat 0 = rget (kP K) x := by
  have := (k.2.2.2.2.2.2.1 x.toNat (by omega)).1
  rw [show (10 + x).toNat = 10 + x.toNat by omega, this, show ((x.toNat : Nat) : Int) = x by omega]
theorem nowR.l {a : List Int} {K : CK} (k : nowR a K) {x : Int} (hx : 0 ≤ x ∧ x < (kP K).length) : a.getD (30 + x).toNat 0 = rget (kL K) x := by
  have := (k.2.2.2.2.2.2.1 x.toNat (by omega)).2
  rw [show (30 + x).toNat = 30 + x.toNat by omega, this, show ((x.toNat : Nat) : Int) = x by omega]
theorem nowR.k {a : List Int} {K : CK} (k : nowR a K) {x : Int} (hx : 0 ≤ x ∧ x < (kK K).length) : a.getD (50 + x).toNat 0 = rget (kK K) x := by
  have := (k.2.2.2.2.2.2.2 x.toNat (by omega)).1
  rw [show (50 + x).toNat = 50 + x.toNat by omega, this, show ((x.toNat : Nat) : Int) = x by omega]
theorem nowR.e {a : List Int} {K : CK} (k : nowR a K) {x : Int} (hx : 0 ≤ x ∧ x < (kK K).length) : a.getD (60 + x).toNat 0 = rget (kE K) x := by
  have := (k.2.2.2.2.2.2.2 x.toNat (by omega)).2.1
  rw [show (60 + x).toNat = 60 + x.toNat by omega, this, show ((x.toNat : Nat) : Int) = x by omega]
theorem nowR.h {a : List Int} {K : CK} (k : nowR a K) {x : Int} (hx : 0 ≤ x ∧ x < (kK K).length) : a.getD (70 + x).toNat 0 = rget (kH K) x := by
  have := (k.2.2.2.2.2.2.2 x.toNat (by omega)).2.2
  rw [show (70 + x).toNat = 70 + x.toNat by omega, this, show ((x.toNat : Nat) : Int) = x by omega]
theorem nowR.p0 {a : List Int} {K : CK} (k : nowR a K) (hx : 0 < (kP K).length) : a.getD (10 : Int).toNat 0 = rget (kP K) 0 := k.p (x := 0) (by omega)
theorem nowR.l0 {a : List Int} {K : CK} (k : nowR a K) (hx : 0 < (kP K).length) : a.getD (30 : Int).toNat 0 = rget (kL K) 0 := k.l (x := 0) (by omega)
/-! beats and notes -/
theorem nobF_sum : ∀ (i : Nat) (ls : List Int), (∀ x ∈ ls, 1 ≤ x ∧ x ≤ 3) → ((nobF i ls).length : Int) = ls.sum
  | _, [], _ => rfl
  | i, a :: t, h => by
    have h1 := nobF_sum (i + 1) t (fun x hx => h x (List.mem_cons_of_mem _ hx))
    have h2 := h a List.mem_cons_self
    rw [nobF, List.length_append, List.length_replicate, List.sum_cons]
    omega
theorem nobF_at : ∀ (i : Nat) (ls : List Int) (k j : Nat), (∀ x ∈ ls, 1 ≤ x ∧ x ≤ 3) → k < ls.length → (ls.take k).sum ≤ j → (j : Int) < (ls.take (k + 1)).sum → (nobF i ls)[j]? = some ((i + k : Nat) : Int)
  | i, [], k, j, _, hk, _, _ => by simp at hk
  | i, a :: t, 0, j, h, hk, h1, h2 => by
    have ha := h a List.mem_cons_self
    rw [List.take_succ_cons, List.take_zero, List.sum_cons] at h2
    have h2 : (j : Int) < a + 0 := h2
    rw [nobF, List.getElem?_append_left (by rw [List.length_replicate]; omega), List.getElem?_replicate, if_pos (by omega)]
    rfl
  | i, a :: t, k + 1, j, h, hk, h1, h2 => by
    have ha := h a List.mem_cons_self
    rw [List.take_succ_cons, List.sum_cons] at h1 h2
    have hs : 0 ≤ (t.take k).sum := by
      have : ∀ l : List Int, (∀ x ∈ l, 1 ≤ x ∧ x ≤ 3) → 0 ≤ l.sum := fun l hl => by rw [← nobF_sum 0 l hl]; omega
      exact this _ (fun x hx => h x (List.mem_cons_of_mem _ (List.mem_of_mem_take hx)))
    have hk' : k < t.length := by simp at hk; omega
    have := nobF_at (i + 1) t k (j - a.toNat) (fun x hx => h x (List.mem_cons_of_mem _ hx)) hk' (by omega) (by omega)
    rw [nobF, List.getElem?_append_right (by rw [List.length_replicate]; omega), List.length_replicate, this]
    congr 1
    omega
theorem bt_sum {K : CK} {N V : Nat} (w : vK K N V) : (bt K : Int) = (kL K).sum := nobF_sum 0 (kL K) w.2.2.2.1
theorem nob_at {ls : List Int} (h : ∀ x ∈ ls, 1 ≤ x ∧ x ≤ 3) {k : Nat} {j : Int} (hk : k < ls.length) (h1 : (ls.take k).sum ≤ j) (h2 : j < (ls.take (k + 1)).sum) (h0 : 0 ≤ j) : rget (nob ls) j = k := by
  have e := nobF_at 0 ls k j.toNat h hk (by omega) (by omega)
  have hl : j.toNat < (nob ls).length := (List.getElem?_eq_some_iff.mp e).1
  rw [rget, if_pos (by omega), List.getD_eq_getElem?_getD]
  show ((nobF 0 ls)[j.toNat]?).getD 0 = _
  rw [e]
  simp
theorem rget_len {ls : List Int} (h : ∀ x ∈ ls, 1 ≤ x ∧ x ≤ 3) {i : Int} (hi : 0 ≤ i ∧ i < ls.length) : 1 ≤ rget ls i ∧ rget ls i ≤ 3 := h _ (rget_mem hi)
theorem sum_bd : ∀ (ls : List Int), (∀ x ∈ ls, 1 ≤ x ∧ x ≤ 3) → (ls.length : Int) ≤ ls.sum ∧ ls.sum ≤ 3 * ls.length
  | [], _ => by decide
  | a :: t, h => by
    have h1 := sum_bd t (fun x hx => h x (List.mem_cons_of_mem _ hx))
    have h2 := h a List.mem_cons_self
    rw [List.sum_cons, List.length_cons]
    omega
theorem sum_take_bd {ls : List Int} (h : ∀ x ∈ ls, 1 ≤ x ∧ x ≤ 3) (k : Nat) : 0 ≤ (ls.take k).sum ∧ (ls.take k).sum ≤ ls.sum := by
  have h1 := sum_bd (ls.take k) (fun x hx => h x (List.mem_of_mem_take hx))
  have h2 := sum_bd (ls.drop k) (fun x hx => h x (List.mem_of_mem_drop hx))
  have h3 : (ls.take k).sum + (ls.drop k).sum = ls.sum := by rw [← List.sum_append, List.take_append_drop]
  omega
theorem bt_pos {K : CK} {N V : Nat} (w : vK K N V) : 0 < bt K ↔ 0 < (kP K).length := by
  have h1 := bt_sum w
  have h2 := sum_bd (kL K) w.2.2.2.1
  have h3 := w.1
  omega
/-! what sounds, as the reference works it out -/
def rdO (K : CK) (kd : Int) : Int := if kd = 3 then 2 * (bt K : Int) else (bt K : Int)
def bkO (K : CK) (kd j : Int) : Int := if kd = 1 ∨ kd = 5 then (bt K : Int) - 1 - j else if kd = 3 then j / 2 else j
def sdO (K : CK) (kd j : Int) : Int := if kd = 2 ∨ kd = 5 then 2 * rget (kP K) 0 - plT (kP K) (kL K) (bkO K kd j) else if kd = 4 then plT (kP K) (kL K) (bkO K kd j) + 4 else plT (kP K) (kL K) (bkO K kd j)
def sM (K : CK) (kd e hh b : Int) : Int := if rdO K kd = 0 ∨ b < e ∨ e + kR K * rdO K kd ≤ b then 999 else sdO K kd ((b - e) % rdO K kd) + hh + kS K * ((b - e) / rdO K kd)
theorem sO_sM {K : CK} (w : wK K) (v b : Int) : sO K v b = sM K (rget (kK K) v) (rget (kE K) v) (rget (kH K) v) b := by
  have hr := w.rB v
  have er : rdO K (rget (kK K) v) = q_rB K v := rfl
  unfold sM
  rw [er]
  by_cases hc : 0 < q_rB K v ∧ 0 ≤ b - rget (kE K) v ∧ b - rget (kE K) v < kR K * q_rB K v
  · rw [if_neg (by omega)]
    have hn : 0 ≤ q_nS K v b := by
      rw [nS_in hc]
      split
      · exact (w.nb _).1
      · split
        · exact (w.nb _).1
        · exact (w.nb _).1
    unfold sO
    rw [if_neg (by omega)]
    have hp : pst K v b = (b - rget (kE K) v) / q_rB K v := by rw [pst, if_pos hc.1, Int.tdiv_eq_ediv_of_nonneg hc.2.1]
    have hq : rget (kP K) (q_nS K v b) = plT (kP K) (kL K) (bkO K (rget (kK K) v) ((b - rget (kE K) v) % q_rB K v)) := by
      rw [nS_in hc]
      unfold plT bkO
      split
      · rfl
      · split <;> rfl
    unfold lft sdO
    rw [hq, hp]
    have hk := w.kd v
    by_cases h4 : rget (kK K) v = 4
    · rw [if_neg (by omega), if_pos h4, if_neg (by omega), if_pos h4]; omega
    · rw [if_neg h4]
      by_cases h2 : rget (kK K) v = 2 ∨ rget (kK K) v = 5
      · rw [if_pos h2, if_pos h2]; omega
      · rw [if_neg h2, if_neg h2, if_neg h4]; omega
  · rw [if_pos (by omega)]
    unfold sO q_nS
    rw [if_neg hc, if_pos (by decide)]
def agP (W a b : Int) : Bool := decide (a = 999) || (decide (b = 999) || wl W (a - b))
theorem agP_1 {W a b : Int} (h : a = 999 ∨ b = 999 ∨ wl W (a - b) = true) : agP W a b = true := by
  unfold agP; simp only [Bool.or_eq_true, decide_eq_true_eq]; exact h
theorem agP_0 {W a b : Int} (h1 : ¬ a = 999) (h2 : ¬ b = 999) (h : ¬ wl W (a - b) = true) : ¬ agP W a b = true := by
  unfold agP; simp only [Bool.or_eq_true, decide_eq_true_eq]; rintro (q | q | q)
  · exact h1 q
  · exact h2 q
  · exact h q
set_option maxHeartbeats 4000000 in
set_option maxRecDepth 20000 in
theorem c_Model_isWrong (G : Gx) {h : AH} {v l m : Int} (hv : InR v) (hl : InR l) (hm : InR m) : Ct G Y_Model_isWrong 0 0 0 [aI v, aI l, aI m] h (isR (some (aI (oS v l m))) h) := by
  refine Ct.of_V mo_Model_isWrong rfl (Nat.le_of_ble_eq_true rfl) rfl ?_
  refine v_iload_n k_Model_isWrong_0 rfl ?_
  refine v_iload_n k_Model_isWrong_1 rfl ?_
  refine v_icge 10 k_Model_isWrong_2 rfl (by omega) (by omega) (fun c2 => ?_) (fun c2 => ?_)
  · refine v_iload_n k_Model_isWrong_10 rfl ?_
    refine v_iload_n k_Model_isWrong_11 rfl ?_
    refine v_icle 20 k_Model_isWrong_12 rfl (by omega) (by omega) (fun c12 => ?_) (fun c12 => ?_)
    · refine v_iconst k_Model_isWrong_20 ?_
      refine v_ireturn k_Model_isWrong_21 rfl rfl ?_
      exact ⟨by unfold oS; (repeat (first | rw [if_pos (by omega)] | rw [if_neg (by omega)])), rfl⟩
    · refine v_bipush k_Model_isWrong_15 (by decide) ?_
      refine v_goto k_Model_isWrong_17 (tgt := 21) rfl ?_
      refine v_ireturn k_Model_isWrong_21 rfl rfl ?_
      exact ⟨by unfold oS; (repeat (first | rw [if_pos (by omega)] | rw [if_neg (by omega)])), rfl⟩
  · refine v_bipush k_Model_isWrong_5 (by decide) ?_
    refine v_goto k_Model_isWrong_7 (tgt := 21) rfl ?_
    refine v_ireturn k_Model_isWrong_21 rfl rfl ?_
    exact ⟨by unfold oS; (repeat (first | rw [if_pos (by omega)] | rw [if_neg (by omega)])), rfl⟩

set_option maxHeartbeats 4000000 in
set_option maxRecDepth 20000 in
theorem c_Model_isNoNote (G : Gx) {h : AH} {m : Nat} {X : MX} {a : List Int} {K : CK} (ho : h.2 m = some (aO 8 (mO m X))) (ha : h.2 (m + 2) = some (aA 0 a)) (hk : nowR a K) (w : vK K 13 6) {v : Int} (hv : InR v) : Ct G Y_Model_isNoNote 0 0 0 [aR m, aI v] h (isR (some (aI (if 0 ≤ v ∧ v < (kP K).length then 0 else 1))) h) := by
  have hl := hk.1
  obtain ⟨w1, w2, w3, w4, w5, w6, w7, w8, w9, w10, w11, w12, w13, w14⟩ := id w
  have wu := w.up (by decide) (by decide)
  have hbs := bt_sum w
  have hbp := bt_pos w
  refine Ct.of_V mo_Model_isNoNote rfl (Nat.le_of_ble_eq_true rfl) rfl ?_
  refine v_iload_n k_Model_isNoNote_0 rfl ?_
  refine v_iflt 14 k_Model_isNoNote_1 rfl (by omega) (fun c1 => ?_) (fun c1 => ?_)
  · refine v_iconst k_Model_isNoNote_14 ?_
    refine v_goto k_Model_isNoNote_15 (tgt := 19) rfl ?_
    refine v_ireturn k_Model_isNoNote_19 rfl (by first | rfl | (split <;> rfl)) ?_
    first
      | exact ⟨by rw [if_pos (by omega)], rfl⟩
      | exact ⟨by rw [if_neg (by omega)], rfl⟩
  · refine v_iload_n k_Model_isNoNote_4 rfl ?_
    refine v_aload_n k_Model_isNoNote_5 rfl ?_
    refine v_getf fl_Model_13 ho rfl k_Model_isNoNote_6 ?_
    refine v_iconst k_Model_isNoNote_9 ?_
    refine v_iald ha (by omega) (by omega) k_Model_isNoNote_10 ?_
    rw [hk.n0]
    refine v_iclt 18 k_Model_isNoNote_11 rfl (by omega) (by omega) (fun c11 => ?_) (fun c11 => ?_)
    · refine v_iconst k_Model_isNoNote_18 ?_
      refine v_ireturn k_Model_isNoNote_19 rfl (by first | rfl | (split <;> rfl)) ?_
      first
        | exact ⟨by rw [if_pos (by omega)], rfl⟩
        | exact ⟨by rw [if_neg (by omega)], rfl⟩
    · refine v_iconst k_Model_isNoNote_14 ?_
      refine v_goto k_Model_isNoNote_15 (tgt := 19) rfl ?_
      refine v_ireturn k_Model_isNoNote_19 rfl (by first | rfl | (split <;> rfl)) ?_
      first
        | exact ⟨by rw [if_pos (by omega)], rfl⟩
        | exact ⟨by rw [if_neg (by omega)], rfl⟩

set_option maxHeartbeats 4000000 in
set_option maxRecDepth 20000 in
theorem c_Model_isNoVoice (G : Gx) {h : AH} {m : Nat} {X : MX} {a : List Int} {K : CK} (ho : h.2 m = some (aO 8 (mO m X))) (ha : h.2 (m + 2) = some (aA 0 a)) (hk : nowR a K) (w : vK K 13 6) {v : Int} (hv : InR v) : Ct G Y_Model_isNoVoice 0 0 0 [aR m, aI v] h (isR (some (aI (if 0 ≤ v ∧ v < (kK K).length then 0 else 1))) h) := by
  have hl := hk.1
  obtain ⟨w1, w2, w3, w4, w5, w6, w7, w8, w9, w10, w11, w12, w13, w14⟩ := id w
  have wu := w.up (by decide) (by decide)
  have hbs := bt_sum w
  have hbp := bt_pos w
  refine Ct.of_V mo_Model_isNoVoice rfl (Nat.le_of_ble_eq_true rfl) rfl ?_
  refine v_iload_n k_Model_isNoVoice_0 rfl ?_
  refine v_iflt 14 k_Model_isNoVoice_1 rfl (by omega) (fun c1 => ?_) (fun c1 => ?_)
  · refine v_iconst k_Model_isNoVoice_14 ?_
    refine v_goto k_Model_isNoVoice_15 (tgt := 19) rfl ?_
    refine v_ireturn k_Model_isNoVoice_19 rfl (by first | rfl | (split <;> rfl)) ?_
    first
      | exact ⟨by rw [if_pos (by omega)], rfl⟩
      | exact ⟨by rw [if_neg (by omega)], rfl⟩
  · refine v_iload_n k_Model_isNoVoice_4 rfl ?_
    refine v_aload_n k_Model_isNoVoice_5 rfl ?_
    refine v_getf fl_Model_13 ho rfl k_Model_isNoVoice_6 ?_
    refine v_iconst k_Model_isNoVoice_9 ?_
    refine v_iald ha (by omega) (by omega) k_Model_isNoVoice_10 ?_
    rw [hk.n1]
    refine v_iclt 18 k_Model_isNoVoice_11 rfl (by omega) (by omega) (fun c11 => ?_) (fun c11 => ?_)
    · refine v_iconst k_Model_isNoVoice_18 ?_
      refine v_ireturn k_Model_isNoVoice_19 rfl (by first | rfl | (split <;> rfl)) ?_
      first
        | exact ⟨by rw [if_pos (by omega)], rfl⟩
        | exact ⟨by rw [if_neg (by omega)], rfl⟩
    · refine v_iconst k_Model_isNoVoice_14 ?_
      refine v_goto k_Model_isNoVoice_15 (tgt := 19) rfl ?_
      refine v_ireturn k_Model_isNoVoice_19 rfl (by first | rfl | (split <;> rfl)) ?_
      first
        | exact ⟨by rw [if_pos (by omega)], rfl⟩
        | exact ⟨by rw [if_neg (by omega)], rfl⟩

set_option maxHeartbeats 4000000 in
set_option maxRecDepth 20000 in
theorem c_Model_firstBeat (G : Gx) {h : AH} {m : Nat} {X : MX} {a : List Int} {K : CK} (ho : h.2 m = some (aO 8 (mO m X))) (ha : h.2 (m + 2) = some (aA 0 a)) (hk : nowR a K) (w : vK K 13 6) {n : Nat} (hn : n ≤ (kP K).length) : Ct G Y_Model_firstBeat 0 0 0 [aR m, aI (n : Int)] h (isR (some (aI ((kL K).take n).sum)) h) := by
  have hl := hk.1
  obtain ⟨w1, w2, w3, w4, w5, w6, w7, w8, w9, w10, w11, w12, w13, w14⟩ := id w
  have wu := w.up (by decide) (by decide)
  have hbs := bt_sum w
  have hbp := bt_pos w
  refine Ct.of_V mo_Model_firstBeat rfl (Nat.le_of_ble_eq_true rfl) rfl ?_
  have loop : ∀ (k : Nat) (i : Nat), (n < i + k) → (i ≤ n) → V G Y_Model_firstBeat 0 0 0 4 [some (aR m), some (aI (n : Int)), some (aI ((kL K).take i).sum), some (aI (i : Int))] [] h (isR (some (aI ((kL K).take n).sum)) h) := by
    intro k
    induction k with
    | zero => intro i hi hin; exfalso; omega
    | succ k ih =>
      intro i hi hin
      refine v_iload_n k_Model_firstBeat_4 rfl ?_
      refine v_iload_n k_Model_firstBeat_5 rfl ?_
      refine v_icge 27 k_Model_firstBeat_6 rfl (by omega) (by omega) (fun c6 => ?_) (fun c6 => ?_)
      · refine v_iload_n k_Model_firstBeat_27 rfl ?_
        refine v_ireturn k_Model_firstBeat_28 rfl rfl ?_
        have e : i = n := by omega
        subst e
        exact ⟨rfl, rfl⟩
      · refine v_iload_n k_Model_firstBeat_9 rfl ?_
        refine v_aload_n k_Model_firstBeat_10 rfl ?_
        refine v_getf fl_Model_13 ho rfl k_Model_firstBeat_11 ?_
        refine v_bipush k_Model_firstBeat_14 (by decide) ?_
        refine v_iload_n k_Model_firstBeat_16 rfl ?_
        refine v_iadd k_Model_firstBeat_17 ?_
        refine v_iald ha (by omega) (by omega) k_Model_firstBeat_18 ?_
        rw [hk.l (x := (i : Int)) (by omega)]
        refine v_iadd k_Model_firstBeat_19 ?_
        refine v_istore_n k_Model_firstBeat_20 ⟨Nat.le_of_ble_eq_true rfl, Nat.le_of_ble_eq_true rfl⟩ ?_
        refine v_iinc k_Model_firstBeat_21 rfl (Nat.le_of_ble_eq_true rfl) ?_
        refine v_goto k_Model_firstBeat_24 (tgt := 4) rfl ?_
        have st := ih (i + 1) (by omega) (by omega)
        rw [sum_take (by omega)] at st
        exact st
  refine v_iconst k_Model_firstBeat_0 ?_
  refine v_istore_n k_Model_firstBeat_1 ⟨Nat.le_of_ble_eq_true rfl, Nat.le_of_ble_eq_true rfl⟩ ?_
  refine v_iconst k_Model_firstBeat_2 ?_
  refine v_istore_n k_Model_firstBeat_3 ⟨Nat.le_of_ble_eq_true rfl, Nat.le_of_ble_eq_true rfl⟩ ?_
  exact loop (n + 1) 0 (by omega) (by omega)

set_option maxHeartbeats 4000000 in
set_option maxRecDepth 20000 in
theorem c_Model_beats (G : Gx) {h : AH} {m : Nat} {X : MX} {a : List Int} {K : CK} (ho : h.2 m = some (aO 8 (mO m X))) (ha : h.2 (m + 2) = some (aA 0 a)) (hk : nowR a K) (w : vK K 13 6) : Ct G Y_Model_beats 1 0 0 [aR m] h (isR (some (aI (bt K : Int))) h) := by
  have hl := hk.1
  obtain ⟨w1, w2, w3, w4, w5, w6, w7, w8, w9, w10, w11, w12, w13, w14⟩ := id w
  have wu := w.up (by decide) (by decide)
  have hbs := bt_sum w
  have hbp := bt_pos w
  refine Ct.of_V mo_Model_beats rfl (Nat.le_of_ble_eq_true rfl) rfl ?_
  refine v_aload_n k_Model_beats_0 rfl ?_
  refine v_aload_n k_Model_beats_1 rfl ?_
  refine v_getf fl_Model_13 ho rfl k_Model_beats_2 ?_
  refine v_iconst k_Model_beats_5 ?_
  refine v_iald ha (by omega) (by omega) k_Model_beats_6 ?_
  rw [hk.n0]
  refine v_callVr mo_Model_firstBeat mi_Model_firstBeat mv_Model_firstBeat lk_Model_91 k_Model_beats_7 ho rfl rfl (Nat.le_of_ble_eq_true rfl) rfl (Nat.le_of_ble_eq_true rfl) (c_Model_firstBeat G ho ha hk w (Nat.le_refl _)) ?_
  refine v_ireturn k_Model_beats_10 rfl rfl ?_
  exact ⟨by rw [hbs, w1, List.take_length], rfl⟩

set_option maxHeartbeats 4000000 in
set_option maxRecDepth 20000 in
theorem c_Model_plain (G : Gx) {h : AH} {m : Nat} {X : MX} {a : List Int} {K : CK} (ho : h.2 m = some (aO 8 (mO m X))) (ha : h.2 (m + 2) = some (aA 0 a)) (hk : nowR a K) (w : vK K 13 6) {j : Int} (hj : 0 ≤ j ∧ j < bt K) : Ct G Y_Model_plain 0 0 0 [aR m, aI j] h (isR (some (aI (plT (kP K) (kL K) j))) h) := by
  have hl := hk.1
  obtain ⟨w1, w2, w3, w4, w5, w6, w7, w8, w9, w10, w11, w12, w13, w14⟩ := id w
  have wu := w.up (by decide) (by decide)
  have hbs := bt_sum w
  have hbp := bt_pos w
  have hs0 := sum_bd (kL K) w4
  refine Ct.of_V mo_Model_plain rfl (Nat.le_of_ble_eq_true rfl) rfl ?_
  have loop : ∀ (k : Nat) (i : Nat), ((kL K).length ≤ i + k) → (i < (kL K).length) → (((kL K).take i).sum ≤ j) → V G Y_Model_plain 0 0 0 10 [some (aR m), some (aI j), some (aI (i : Int)), some (aI ((kL K).take (i + 1)).sum)] [] h (isR (some (aI (plT (kP K) (kL K) j))) h) := by
    intro k
    induction k with
    | zero => intro i hi hin h1; exfalso; omega
    | succ k ih =>
      intro i hi hin h1
      have hsb := sum_take_bd w4 (i + 1)
      refine v_iload_n k_Model_plain_10 rfl ?_
      refine v_iload_n k_Model_plain_11 rfl ?_
      refine v_iclt 33 k_Model_plain_12 rfl (by omega) (by omega) (fun c12 => ?_) (fun c12 => ?_)
      · refine v_aload_n k_Model_plain_33 rfl ?_
        refine v_getf fl_Model_13 ho rfl k_Model_plain_34 ?_
        refine v_bipush k_Model_plain_37 (by decide) ?_
        refine v_iload_n k_Model_plain_39 rfl ?_
        refine v_iadd k_Model_plain_40 ?_
        refine v_iald ha (by omega) (by omega) k_Model_plain_41 ?_
        rw [hk.p (x := (i : Int)) (by omega)]
        refine v_ireturn k_Model_plain_42 rfl rfl ?_
        refine ⟨?_, rfl⟩
        rw [plT, nob_at w4 (k := i) (by omega) h1 (by omega) hj.1]
      · have hi1 : i + 1 < (kL K).length := by
          apply Classical.byContradiction
          intro q
          have e : (kL K).take (i + 1) = kL K := List.take_of_length_le (by omega)
          rw [e] at c12
          omega
        refine v_iinc k_Model_plain_15 rfl (Nat.le_of_ble_eq_true rfl) ?_
        refine v_iload_n k_Model_plain_18 rfl ?_
        refine v_aload_n k_Model_plain_19 rfl ?_
        refine v_getf fl_Model_13 ho rfl k_Model_plain_20 ?_
        refine v_bipush k_Model_plain_23 (by decide) ?_
        refine v_iload_n k_Model_plain_25 rfl ?_
        refine v_iadd k_Model_plain_26 ?_
        refine v_iald ha (by omega) (by omega) k_Model_plain_27 ?_
        rw [hk.l (x := (i : Int) + 1) (by omega)]
        refine v_iadd k_Model_plain_28 ?_
        refine v_istore_n k_Model_plain_29 ⟨Nat.le_of_ble_eq_true rfl, Nat.le_of_ble_eq_true rfl⟩ ?_
        refine v_goto k_Model_plain_30 (tgt := 10) rfl ?_
        have st := ih (i + 1) (by omega) (by omega) (by omega)
        rw [sum_take (show i + 1 < (kL K).length by omega)] at st
        exact st
  refine v_iconst k_Model_plain_0 ?_
  refine v_istore_n k_Model_plain_1 ⟨Nat.le_of_ble_eq_true rfl, Nat.le_of_ble_eq_true rfl⟩ ?_
  refine v_aload_n k_Model_plain_2 rfl ?_
  refine v_getf fl_Model_13 ho rfl k_Model_plain_3 ?_
  refine v_bipush k_Model_plain_6 (by decide) ?_
  refine v_iald ha (by omega) (by omega) k_Model_plain_8 ?_
  rw [hk.l0 (by omega)]
  refine v_istore_n k_Model_plain_9 ⟨Nat.le_of_ble_eq_true rfl, Nat.le_of_ble_eq_true rfl⟩ ?_
  have st := loop (kL K).length 0 (by omega) (by omega) (by show (0 : Int) ≤ j; omega)
  rw [sum_take (by omega)] at st
  simp only [List.take_zero, List.sum_nil, Int.zero_add] at st
  exact st

set_option maxHeartbeats 4000000 in
set_option maxRecDepth 20000 in
theorem c_Model_roundOf (G : Gx) {h : AH} {m : Nat} {X : MX} {a : List Int} {K : CK} (ho : h.2 m = some (aO 8 (mO m X))) (ha : h.2 (m + 2) = some (aA 0 a)) (hk : nowR a K) (w : vK K 13 6) {kd : Int} (hkd : 0 ≤ kd ∧ kd ≤ 5) : Ct G Y_Model_roundOf 2 0 0 [aR m, aI kd] h (isR (some (aI (rdO K kd))) h) := by
  have hl := hk.1
  obtain ⟨w1, w2, w3, w4, w5, w6, w7, w8, w9, w10, w11, w12, w13, w14⟩ := id w
  have wu := w.up (by decide) (by decide)
  have hbs := bt_sum w
  have hbp := bt_pos w
  refine Ct.of_V mo_Model_roundOf rfl (Nat.le_of_ble_eq_true rfl) rfl ?_
  refine v_iload_n k_Model_roundOf_0 rfl ?_
  refine v_iconst k_Model_roundOf_1 ?_
  refine v_icne 14 k_Model_roundOf_2 rfl (by omega) (by omega) (fun c2 => ?_) (fun c2 => ?_)
  · refine v_aload_n k_Model_roundOf_14 rfl ?_
    refine v_callVr mo_Model_beats mi_Model_beats mv_Model_beats lk_Model_94 k_Model_roundOf_15 ho rfl rfl (Nat.le_of_ble_eq_true rfl) rfl (Nat.le_of_ble_eq_true rfl) (c_Model_beats G ho ha hk w) ?_
    refine v_ireturn k_Model_roundOf_18 rfl rfl ?_
    exact ⟨by unfold rdO; (first | rw [if_pos (by omega)] | rw [if_neg (by omega)]), rfl⟩
  · refine v_iconst k_Model_roundOf_5 ?_
    refine v_aload_n k_Model_roundOf_6 rfl ?_
    refine v_callVr mo_Model_beats mi_Model_beats mv_Model_beats lk_Model_94 k_Model_roundOf_7 ho rfl rfl (Nat.le_of_ble_eq_true rfl) rfl (Nat.le_of_ble_eq_true rfl) (c_Model_beats G ho ha hk w) ?_
    refine v_imul k_Model_roundOf_10 ?_
    refine v_goto k_Model_roundOf_11 (tgt := 18) rfl ?_
    refine v_ireturn k_Model_roundOf_18 rfl rfl ?_
    exact ⟨by unfold rdO; (first | rw [if_pos (by omega)] | rw [if_neg (by omega)]), rfl⟩

set_option maxHeartbeats 4000000 in
set_option maxRecDepth 20000 in
theorem c_Model_said (G : Gx) {h : AH} {m : Nat} {X : MX} {a : List Int} {K : CK} (ho : h.2 m = some (aO 8 (mO m X))) (ha : h.2 (m + 2) = some (aA 0 a)) (hk : nowR a K) (w : vK K 13 6) {kd j : Int} (hkd : 0 ≤ kd ∧ kd ≤ 5) (hj : 0 ≤ j ∧ j < rdO K kd) : Ct G Y_Model_said 2 0 0 [aR m, aI kd, aI j] h (isR (some (aI (sdO K kd j))) h) := by
  have hl := hk.1
  obtain ⟨w1, w2, w3, w4, w5, w6, w7, w8, w9, w10, w11, w12, w13, w14⟩ := id w
  have wu := w.up (by decide) (by decide)
  have hbs := bt_sum w
  have hbp := bt_pos w
  have hbk : 0 ≤ bkO K kd j ∧ bkO K kd j < bt K := by
    unfold bkO
    unfold rdO at hj
    split
    · rw [if_neg (by omega)] at hj; omega
    · split
      · rw [if_pos (by assumption)] at hj; omega
      · rw [if_neg (by assumption)] at hj; omega
  have hb0 : 0 < (kP K).length := by omega
  have hbr : 0 ≤ rdO K kd ∧ rdO K kd ≤ 74 := by unfold rdO; split <;> omega
  refine Ct.of_V mo_Model_said rfl (Nat.le_of_ble_eq_true rfl) rfl ?_
  refine v_iload_n k_Model_said_0 rfl ?_
  refine v_iconst k_Model_said_1 ?_
  refine v_iceq 10 k_Model_said_2 rfl (by omega) (by omega) (fun c2 => ?_) (fun c2 => ?_)
  · refine v_aload_n k_Model_said_10 rfl ?_
    refine v_callVr mo_Model_beats mi_Model_beats mv_Model_beats lk_Model_94 k_Model_said_11 ho rfl rfl (Nat.le_of_ble_eq_true rfl) rfl (Nat.le_of_ble_eq_true rfl) (c_Model_beats G ho ha hk w) ?_
    refine v_iconst k_Model_said_14 ?_
    refine v_isub k_Model_said_15 ?_
    refine v_iload_n k_Model_said_16 rfl ?_
    refine v_isub k_Model_said_17 ?_
    refine v_goto k_Model_said_18 (tgt := 33) rfl ?_
    rw [show ((bt K : Int) - 1 - j : Int) = bkO K kd j by unfold bkO; (first | rw [if_pos (by omega)] | (rw [if_neg (by omega)]; first | rw [if_pos (by omega)] | rw [if_neg (by omega)]))]
    refine v_istore_n k_Model_said_33 ⟨Nat.le_of_ble_eq_true rfl, Nat.le_of_ble_eq_true rfl⟩ ?_
    refine v_aload_n k_Model_said_34 rfl ?_
    refine v_iload_n k_Model_said_35 rfl ?_
    refine v_callVr mo_Model_plain mi_Model_plain mv_Model_plain lk_Model_97 k_Model_said_36 ho rfl rfl (Nat.le_of_ble_eq_true rfl) rfl (Nat.le_of_ble_eq_true rfl) (c_Model_plain G ho ha hk w (j := bkO K kd j) (by omega)) ?_
    refine v_istore k_Model_said_39 ⟨Nat.le_of_ble_eq_true rfl, Nat.le_of_ble_eq_true rfl⟩ ?_
    refine v_iload_n k_Model_said_41 rfl ?_
    refine v_iconst k_Model_said_42 ?_
    refine v_iceq 51 k_Model_said_43 rfl (by omega) (by omega) (fun c43 => ?_) (fun c43 => ?_)
    · refine v_iconst k_Model_said_51 ?_
      refine v_aload_n k_Model_said_52 rfl ?_
      refine v_getf fl_Model_13 ho rfl k_Model_said_53 ?_
      refine v_bipush k_Model_said_56 (by decide) ?_
      refine v_iald ha (by omega) (by omega) k_Model_said_58 ?_
      rw [hk.p0 hb0]
      refine v_imul k_Model_said_59 ?_
      refine v_iload k_Model_said_60 rfl ?_
      refine v_isub k_Model_said_62 ?_
      refine v_goto k_Model_said_63 (tgt := 80) rfl ?_
      refine v_ireturn k_Model_said_80 rfl rfl ?_
      first
        | (exfalso; omega)
        | exact ⟨by unfold sdO; (first | rw [if_pos (by omega)] | (rw [if_neg (by omega)]; first | rw [if_pos (by omega)] | rw [if_neg (by omega)])), rfl⟩
    · refine v_iload_n k_Model_said_46 rfl ?_
      refine v_iconst k_Model_said_47 ?_
      refine v_icne 66 k_Model_said_48 rfl (by omega) (by omega) (fun c48 => ?_) (fun c48 => ?_)
      · refine v_iload_n k_Model_said_66 rfl ?_
        refine v_iconst k_Model_said_67 ?_
        refine v_icne 78 k_Model_said_68 rfl (by omega) (by omega) (fun c68 => ?_) (fun c68 => ?_)
        · refine v_iload k_Model_said_78 rfl ?_
          refine v_ireturn k_Model_said_80 rfl rfl ?_
          first
            | (exfalso; omega)
            | exact ⟨by unfold sdO; (first | rw [if_pos (by omega)] | (rw [if_neg (by omega)]; first | rw [if_pos (by omega)] | rw [if_neg (by omega)])), rfl⟩
        · refine v_iload k_Model_said_71 rfl ?_
          refine v_iconst k_Model_said_73 ?_
          refine v_iadd k_Model_said_74 ?_
          refine v_goto k_Model_said_75 (tgt := 80) rfl ?_
          refine v_ireturn k_Model_said_80 rfl rfl ?_
          first
            | (exfalso; omega)
            | exact ⟨by unfold sdO; (first | rw [if_pos (by omega)] | (rw [if_neg (by omega)]; first | rw [if_pos (by omega)] | rw [if_neg (by omega)])), rfl⟩
      · refine v_iconst k_Model_said_51 ?_
        refine v_aload_n k_Model_said_52 rfl ?_
        refine v_getf fl_Model_13 ho rfl k_Model_said_53 ?_
        refine v_bipush k_Model_said_56 (by decide) ?_
        refine v_iald ha (by omega) (by omega) k_Model_said_58 ?_
        rw [hk.p0 hb0]
        refine v_imul k_Model_said_59 ?_
        refine v_iload k_Model_said_60 rfl ?_
        refine v_isub k_Model_said_62 ?_
        refine v_goto k_Model_said_63 (tgt := 80) rfl ?_
        refine v_ireturn k_Model_said_80 rfl rfl ?_
        first
          | (exfalso; omega)
          | exact ⟨by unfold sdO; (first | rw [if_pos (by omega)] | (rw [if_neg (by omega)]; first | rw [if_pos (by omega)] | rw [if_neg (by omega)])), rfl⟩
  · refine v_iload_n k_Model_said_5 rfl ?_
    refine v_iconst k_Model_said_6 ?_
    refine v_icne 21 k_Model_said_7 rfl (by omega) (by omega) (fun c7 => ?_) (fun c7 => ?_)
    · refine v_iload_n k_Model_said_21 rfl ?_
      refine v_iconst k_Model_said_22 ?_
      refine v_icne 32 k_Model_said_23 rfl (by omega) (by omega) (fun c23 => ?_) (fun c23 => ?_)
      · refine v_iload_n k_Model_said_32 rfl ?_
        rw [show ([aI j] : List AV) = [aI (bkO K kd j)] from congrArg (fun z => [aI z]) (by unfold bkO; rw [if_neg (by omega), if_neg (by omega)])]
        refine v_istore_n k_Model_said_33 ⟨Nat.le_of_ble_eq_true rfl, Nat.le_of_ble_eq_true rfl⟩ ?_
        refine v_aload_n k_Model_said_34 rfl ?_
        refine v_iload_n k_Model_said_35 rfl ?_
        refine v_callVr mo_Model_plain mi_Model_plain mv_Model_plain lk_Model_97 k_Model_said_36 ho rfl rfl (Nat.le_of_ble_eq_true rfl) rfl (Nat.le_of_ble_eq_true rfl) (c_Model_plain G ho ha hk w (j := bkO K kd j) (by omega)) ?_
        refine v_istore k_Model_said_39 ⟨Nat.le_of_ble_eq_true rfl, Nat.le_of_ble_eq_true rfl⟩ ?_
        refine v_iload_n k_Model_said_41 rfl ?_
        refine v_iconst k_Model_said_42 ?_
        refine v_iceq 51 k_Model_said_43 rfl (by omega) (by omega) (fun c43 => ?_) (fun c43 => ?_)
        · refine v_iconst k_Model_said_51 ?_
          refine v_aload_n k_Model_said_52 rfl ?_
          refine v_getf fl_Model_13 ho rfl k_Model_said_53 ?_
          refine v_bipush k_Model_said_56 (by decide) ?_
          refine v_iald ha (by omega) (by omega) k_Model_said_58 ?_
          rw [hk.p0 hb0]
          refine v_imul k_Model_said_59 ?_
          refine v_iload k_Model_said_60 rfl ?_
          refine v_isub k_Model_said_62 ?_
          refine v_goto k_Model_said_63 (tgt := 80) rfl ?_
          refine v_ireturn k_Model_said_80 rfl rfl ?_
          first
            | (exfalso; omega)
            | exact ⟨by unfold sdO; (first | rw [if_pos (by omega)] | (rw [if_neg (by omega)]; first | rw [if_pos (by omega)] | rw [if_neg (by omega)])), rfl⟩
        · refine v_iload_n k_Model_said_46 rfl ?_
          refine v_iconst k_Model_said_47 ?_
          refine v_icne 66 k_Model_said_48 rfl (by omega) (by omega) (fun c48 => ?_) (fun c48 => ?_)
          · refine v_iload_n k_Model_said_66 rfl ?_
            refine v_iconst k_Model_said_67 ?_
            refine v_icne 78 k_Model_said_68 rfl (by omega) (by omega) (fun c68 => ?_) (fun c68 => ?_)
            · refine v_iload k_Model_said_78 rfl ?_
              refine v_ireturn k_Model_said_80 rfl rfl ?_
              first
                | (exfalso; omega)
                | exact ⟨by unfold sdO; (first | rw [if_pos (by omega)] | (rw [if_neg (by omega)]; first | rw [if_pos (by omega)] | rw [if_neg (by omega)])), rfl⟩
            · refine v_iload k_Model_said_71 rfl ?_
              refine v_iconst k_Model_said_73 ?_
              refine v_iadd k_Model_said_74 ?_
              refine v_goto k_Model_said_75 (tgt := 80) rfl ?_
              refine v_ireturn k_Model_said_80 rfl rfl ?_
              first
                | (exfalso; omega)
                | exact ⟨by unfold sdO; (first | rw [if_pos (by omega)] | (rw [if_neg (by omega)]; first | rw [if_pos (by omega)] | rw [if_neg (by omega)])), rfl⟩
          · refine v_iconst k_Model_said_51 ?_
            refine v_aload_n k_Model_said_52 rfl ?_
            refine v_getf fl_Model_13 ho rfl k_Model_said_53 ?_
            refine v_bipush k_Model_said_56 (by decide) ?_
            refine v_iald ha (by omega) (by omega) k_Model_said_58 ?_
            rw [hk.p0 hb0]
            refine v_imul k_Model_said_59 ?_
            refine v_iload k_Model_said_60 rfl ?_
            refine v_isub k_Model_said_62 ?_
            refine v_goto k_Model_said_63 (tgt := 80) rfl ?_
            refine v_ireturn k_Model_said_80 rfl rfl ?_
            first
              | (exfalso; omega)
              | exact ⟨by unfold sdO; (first | rw [if_pos (by omega)] | (rw [if_neg (by omega)]; first | rw [if_pos (by omega)] | rw [if_neg (by omega)])), rfl⟩
      · refine v_iload_n k_Model_said_26 rfl ?_
        refine v_iconst k_Model_said_27 ?_
        refine v_idiv k_Model_said_28 (by omega) (by omega) ?_
        rw [Int.tdiv_eq_ediv_of_nonneg (by omega)]
        refine v_goto k_Model_said_29 (tgt := 33) rfl ?_
        rw [show (j / 2 : Int) = bkO K kd j by unfold bkO; (first | rw [if_pos (by omega)] | (rw [if_neg (by omega)]; first | rw [if_pos (by omega)] | rw [if_neg (by omega)]))]
        refine v_istore_n k_Model_said_33 ⟨Nat.le_of_ble_eq_true rfl, Nat.le_of_ble_eq_true rfl⟩ ?_
        refine v_aload_n k_Model_said_34 rfl ?_
        refine v_iload_n k_Model_said_35 rfl ?_
        refine v_callVr mo_Model_plain mi_Model_plain mv_Model_plain lk_Model_97 k_Model_said_36 ho rfl rfl (Nat.le_of_ble_eq_true rfl) rfl (Nat.le_of_ble_eq_true rfl) (c_Model_plain G ho ha hk w (j := bkO K kd j) (by omega)) ?_
        refine v_istore k_Model_said_39 ⟨Nat.le_of_ble_eq_true rfl, Nat.le_of_ble_eq_true rfl⟩ ?_
        refine v_iload_n k_Model_said_41 rfl ?_
        refine v_iconst k_Model_said_42 ?_
        refine v_iceq 51 k_Model_said_43 rfl (by omega) (by omega) (fun c43 => ?_) (fun c43 => ?_)
        · refine v_iconst k_Model_said_51 ?_
          refine v_aload_n k_Model_said_52 rfl ?_
          refine v_getf fl_Model_13 ho rfl k_Model_said_53 ?_
          refine v_bipush k_Model_said_56 (by decide) ?_
          refine v_iald ha (by omega) (by omega) k_Model_said_58 ?_
          rw [hk.p0 hb0]
          refine v_imul k_Model_said_59 ?_
          refine v_iload k_Model_said_60 rfl ?_
          refine v_isub k_Model_said_62 ?_
          refine v_goto k_Model_said_63 (tgt := 80) rfl ?_
          refine v_ireturn k_Model_said_80 rfl rfl ?_
          first
            | (exfalso; omega)
            | exact ⟨by unfold sdO; (first | rw [if_pos (by omega)] | (rw [if_neg (by omega)]; first | rw [if_pos (by omega)] | rw [if_neg (by omega)])), rfl⟩
        · refine v_iload_n k_Model_said_46 rfl ?_
          refine v_iconst k_Model_said_47 ?_
          refine v_icne 66 k_Model_said_48 rfl (by omega) (by omega) (fun c48 => ?_) (fun c48 => ?_)
          · refine v_iload_n k_Model_said_66 rfl ?_
            refine v_iconst k_Model_said_67 ?_
            refine v_icne 78 k_Model_said_68 rfl (by omega) (by omega) (fun c68 => ?_) (fun c68 => ?_)
            · refine v_iload k_Model_said_78 rfl ?_
              refine v_ireturn k_Model_said_80 rfl rfl ?_
              first
                | (exfalso; omega)
                | exact ⟨by unfold sdO; (first | rw [if_pos (by omega)] | (rw [if_neg (by omega)]; first | rw [if_pos (by omega)] | rw [if_neg (by omega)])), rfl⟩
            · refine v_iload k_Model_said_71 rfl ?_
              refine v_iconst k_Model_said_73 ?_
              refine v_iadd k_Model_said_74 ?_
              refine v_goto k_Model_said_75 (tgt := 80) rfl ?_
              refine v_ireturn k_Model_said_80 rfl rfl ?_
              first
                | (exfalso; omega)
                | exact ⟨by unfold sdO; (first | rw [if_pos (by omega)] | (rw [if_neg (by omega)]; first | rw [if_pos (by omega)] | rw [if_neg (by omega)])), rfl⟩
          · refine v_iconst k_Model_said_51 ?_
            refine v_aload_n k_Model_said_52 rfl ?_
            refine v_getf fl_Model_13 ho rfl k_Model_said_53 ?_
            refine v_bipush k_Model_said_56 (by decide) ?_
            refine v_iald ha (by omega) (by omega) k_Model_said_58 ?_
            rw [hk.p0 hb0]
            refine v_imul k_Model_said_59 ?_
            refine v_iload k_Model_said_60 rfl ?_
            refine v_isub k_Model_said_62 ?_
            refine v_goto k_Model_said_63 (tgt := 80) rfl ?_
            refine v_ireturn k_Model_said_80 rfl rfl ?_
            first
              | (exfalso; omega)
              | exact ⟨by unfold sdO; (first | rw [if_pos (by omega)] | (rw [if_neg (by omega)]; first | rw [if_pos (by omega)] | rw [if_neg (by omega)])), rfl⟩
    · refine v_aload_n k_Model_said_10 rfl ?_
      refine v_callVr mo_Model_beats mi_Model_beats mv_Model_beats lk_Model_94 k_Model_said_11 ho rfl rfl (Nat.le_of_ble_eq_true rfl) rfl (Nat.le_of_ble_eq_true rfl) (c_Model_beats G ho ha hk w) ?_
      refine v_iconst k_Model_said_14 ?_
      refine v_isub k_Model_said_15 ?_
      refine v_iload_n k_Model_said_16 rfl ?_
      refine v_isub k_Model_said_17 ?_
      refine v_goto k_Model_said_18 (tgt := 33) rfl ?_
      rw [show ((bt K : Int) - 1 - j : Int) = bkO K kd j by unfold bkO; (first | rw [if_pos (by omega)] | (rw [if_neg (by omega)]; first | rw [if_pos (by omega)] | rw [if_neg (by omega)]))]
      refine v_istore_n k_Model_said_33 ⟨Nat.le_of_ble_eq_true rfl, Nat.le_of_ble_eq_true rfl⟩ ?_
      refine v_aload_n k_Model_said_34 rfl ?_
      refine v_iload_n k_Model_said_35 rfl ?_
      refine v_callVr mo_Model_plain mi_Model_plain mv_Model_plain lk_Model_97 k_Model_said_36 ho rfl rfl (Nat.le_of_ble_eq_true rfl) rfl (Nat.le_of_ble_eq_true rfl) (c_Model_plain G ho ha hk w (j := bkO K kd j) (by omega)) ?_
      refine v_istore k_Model_said_39 ⟨Nat.le_of_ble_eq_true rfl, Nat.le_of_ble_eq_true rfl⟩ ?_
      refine v_iload_n k_Model_said_41 rfl ?_
      refine v_iconst k_Model_said_42 ?_
      refine v_iceq 51 k_Model_said_43 rfl (by omega) (by omega) (fun c43 => ?_) (fun c43 => ?_)
      · refine v_iconst k_Model_said_51 ?_
        refine v_aload_n k_Model_said_52 rfl ?_
        refine v_getf fl_Model_13 ho rfl k_Model_said_53 ?_
        refine v_bipush k_Model_said_56 (by decide) ?_
        refine v_iald ha (by omega) (by omega) k_Model_said_58 ?_
        rw [hk.p0 hb0]
        refine v_imul k_Model_said_59 ?_
        refine v_iload k_Model_said_60 rfl ?_
        refine v_isub k_Model_said_62 ?_
        refine v_goto k_Model_said_63 (tgt := 80) rfl ?_
        refine v_ireturn k_Model_said_80 rfl rfl ?_
        first
          | (exfalso; omega)
          | exact ⟨by unfold sdO; (first | rw [if_pos (by omega)] | (rw [if_neg (by omega)]; first | rw [if_pos (by omega)] | rw [if_neg (by omega)])), rfl⟩
      · refine v_iload_n k_Model_said_46 rfl ?_
        refine v_iconst k_Model_said_47 ?_
        refine v_icne 66 k_Model_said_48 rfl (by omega) (by omega) (fun c48 => ?_) (fun c48 => ?_)
        · refine v_iload_n k_Model_said_66 rfl ?_
          refine v_iconst k_Model_said_67 ?_
          refine v_icne 78 k_Model_said_68 rfl (by omega) (by omega) (fun c68 => ?_) (fun c68 => ?_)
          · refine v_iload k_Model_said_78 rfl ?_
            refine v_ireturn k_Model_said_80 rfl rfl ?_
            first
              | (exfalso; omega)
              | exact ⟨by unfold sdO; (first | rw [if_pos (by omega)] | (rw [if_neg (by omega)]; first | rw [if_pos (by omega)] | rw [if_neg (by omega)])), rfl⟩
          · refine v_iload k_Model_said_71 rfl ?_
            refine v_iconst k_Model_said_73 ?_
            refine v_iadd k_Model_said_74 ?_
            refine v_goto k_Model_said_75 (tgt := 80) rfl ?_
            refine v_ireturn k_Model_said_80 rfl rfl ?_
            first
              | (exfalso; omega)
              | exact ⟨by unfold sdO; (first | rw [if_pos (by omega)] | (rw [if_neg (by omega)]; first | rw [if_pos (by omega)] | rw [if_neg (by omega)])), rfl⟩
        · refine v_iconst k_Model_said_51 ?_
          refine v_aload_n k_Model_said_52 rfl ?_
          refine v_getf fl_Model_13 ho rfl k_Model_said_53 ?_
          refine v_bipush k_Model_said_56 (by decide) ?_
          refine v_iald ha (by omega) (by omega) k_Model_said_58 ?_
          rw [hk.p0 hb0]
          refine v_imul k_Model_said_59 ?_
          refine v_iload k_Model_said_60 rfl ?_
          refine v_isub k_Model_said_62 ?_
          refine v_goto k_Model_said_63 (tgt := 80) rfl ?_
          refine v_ireturn k_Model_said_80 rfl rfl ?_
          first
            | (exfalso; omega)
            | exact ⟨by unfold sdO; (first | rw [if_pos (by omega)] | (rw [if_neg (by omega)]; first | rw [if_pos (by omega)] | rw [if_neg (by omega)])), rfl⟩

set_option maxHeartbeats 4000000 in
set_option maxRecDepth 20000 in
theorem c_Model_soundOf (G : Gx) {h : AH} {m : Nat} {X : MX} {a : List Int} {K : CK} (ho : h.2 m = some (aO 8 (mO m X))) (ha : h.2 (m + 2) = some (aA 0 a)) (hk : nowR a K) (w : vK K 13 6) {kd e hh b : Int} (hkd : 0 ≤ kd ∧ kd ≤ 5) (he : 0 ≤ e ∧ e ≤ 60) (hb : 0 ≤ b ∧ b ≤ 500) : Ct G Y_Model_soundOf 3 0 0 [aR m, aI kd, aI e, aI hh, aI b] h (isR (some (aI (sM K kd e hh b))) h) := by
  have hl := hk.1
  obtain ⟨w1, w2, w3, w4, w5, w6, w7, w8, w9, w10, w11, w12, w13, w14⟩ := id w
  have wu := w.up (by decide) (by decide)
  have hbs := bt_sum w
  have hbp := bt_pos w
  have hbr : 0 ≤ rdO K kd ∧ rdO K kd ≤ 74 := by unfold rdO; split <;> omega
  have hmb := mul_bd (a := kR K) (b := rdO K kd) (A := 4) (B := 74) (by omega) w12.2 hbr.1 hbr.2
  refine Ct.of_V mo_Model_soundOf rfl (Nat.le_of_ble_eq_true rfl) rfl ?_
  refine v_aload_n k_Model_soundOf_0 rfl ?_
  refine v_iload_n k_Model_soundOf_1 rfl ?_
  refine v_callVr mo_Model_roundOf mi_Model_roundOf mv_Model_roundOf lk_Model_100 k_Model_soundOf_2 ho rfl rfl (Nat.le_of_ble_eq_true rfl) rfl (Nat.le_of_ble_eq_true rfl) (c_Model_roundOf G ho ha hk w hkd) ?_
  refine v_istore k_Model_soundOf_5 ⟨Nat.le_of_ble_eq_true rfl, Nat.le_of_ble_eq_true rfl⟩ ?_
  refine v_iload k_Model_soundOf_7 rfl ?_
  refine v_ifeq 34 k_Model_soundOf_9 rfl (by omega) (fun c9 => ?_) (fun c9 => ?_)
  · refine v_sipush k_Model_soundOf_34 (by decide) ?_
    refine v_ireturn k_Model_soundOf_37 rfl rfl ?_
    exact ⟨by unfold sM; (first | rw [if_pos (by omega)] | rw [if_neg (by omega)]), rfl⟩
  · refine v_iload k_Model_soundOf_12 rfl ?_
    refine v_iload_n k_Model_soundOf_14 rfl ?_
    refine v_iclt 34 k_Model_soundOf_15 rfl (by omega) (by omega) (fun c15 => ?_) (fun c15 => ?_)
    · refine v_sipush k_Model_soundOf_34 (by decide) ?_
      refine v_ireturn k_Model_soundOf_37 rfl rfl ?_
      exact ⟨by unfold sM; (first | rw [if_pos (by omega)] | rw [if_neg (by omega)]), rfl⟩
    · refine v_iload k_Model_soundOf_18 rfl ?_
      refine v_iload_n k_Model_soundOf_20 rfl ?_
      refine v_aload_n k_Model_soundOf_21 rfl ?_
      refine v_getf fl_Model_13 ho rfl k_Model_soundOf_22 ?_
      refine v_iconst k_Model_soundOf_25 ?_
      refine v_iald ha (by omega) (by omega) k_Model_soundOf_26 ?_
      rw [hk.n2]
      refine v_iload k_Model_soundOf_27 rfl ?_
      refine v_imul k_Model_soundOf_29 ?_
      refine v_iadd k_Model_soundOf_30 ?_
      refine v_iclt 38 k_Model_soundOf_31 rfl (by omega) (by omega) (fun c31 => ?_) (fun c31 => ?_)
      · refine v_aload_n k_Model_soundOf_38 rfl ?_
        refine v_iload_n k_Model_soundOf_39 rfl ?_
        refine v_iload k_Model_soundOf_40 rfl ?_
        refine v_iload_n k_Model_soundOf_42 rfl ?_
        refine v_isub k_Model_soundOf_43 ?_
        refine v_iload k_Model_soundOf_44 rfl ?_
        refine v_irem k_Model_soundOf_46 (by omega) (by omega) ?_
        rw [Int.tmod_eq_emod_of_nonneg (by omega)]
        refine v_callVr mo_Model_said mi_Model_said mv_Model_said lk_Model_103 k_Model_soundOf_47 ho rfl rfl (Nat.le_of_ble_eq_true rfl) rfl (Nat.le_of_ble_eq_true rfl) (c_Model_said G ho ha hk w hkd (j := (b - e) % rdO K kd) ⟨Int.emod_nonneg _ (by omega), Int.emod_lt_of_pos _ (by omega)⟩) ?_
        refine v_iload_n k_Model_soundOf_50 rfl ?_
        refine v_iadd k_Model_soundOf_51 ?_
        refine v_aload_n k_Model_soundOf_52 rfl ?_
        refine v_getf fl_Model_13 ho rfl k_Model_soundOf_53 ?_
        refine v_iconst k_Model_soundOf_56 ?_
        refine v_iald ha (by omega) (by omega) k_Model_soundOf_57 ?_
        rw [hk.n3]
        refine v_iload k_Model_soundOf_58 rfl ?_
        refine v_iload_n k_Model_soundOf_60 rfl ?_
        refine v_isub k_Model_soundOf_61 ?_
        refine v_iload k_Model_soundOf_62 rfl ?_
        refine v_idiv k_Model_soundOf_64 (by omega) (by omega) ?_
        rw [Int.tdiv_eq_ediv_of_nonneg (by omega)]
        refine v_imul k_Model_soundOf_65 ?_
        refine v_iadd k_Model_soundOf_66 ?_
        refine v_ireturn k_Model_soundOf_67 rfl rfl ?_
        exact ⟨by unfold sM; (first | rw [if_pos (by omega)] | rw [if_neg (by omega)]), rfl⟩
      · refine v_sipush k_Model_soundOf_34 (by decide) ?_
        refine v_ireturn k_Model_soundOf_37 rfl rfl ?_
        exact ⟨by unfold sM; (first | rw [if_pos (by omega)] | rw [if_neg (by omega)]), rfl⟩

set_option maxHeartbeats 4000000 in
set_option maxRecDepth 20000 in
theorem c_Model_soundAt (G : Gx) {h : AH} {m : Nat} {X : MX} {a : List Int} {K : CK} (ho : h.2 m = some (aO 8 (mO m X))) (ha : h.2 (m + 2) = some (aA 0 a)) (hk : nowR a K) (w : vK K 13 6) {v : Int} (hv : 0 ≤ v ∧ v < (kK K).length) {b : Int} (hb : 0 ≤ b ∧ b ≤ 500) : Ct G Y_Model_soundAt 4 0 0 [aR m, aI v, aI b] h (isR (some (aI (sO K v b))) h) := by
  have hl := hk.1
  obtain ⟨w1, w2, w3, w4, w5, w6, w7, w8, w9, w10, w11, w12, w13, w14⟩ := id w
  have wu := w.up (by decide) (by decide)
  have hbs := bt_sum w
  have hbp := bt_pos w
  have h1 := wu.kd v
  have h2 := wu.en v
  refine Ct.of_V mo_Model_soundAt rfl (Nat.le_of_ble_eq_true rfl) rfl ?_
  refine v_aload_n k_Model_soundAt_0 rfl ?_
  refine v_aload_n k_Model_soundAt_1 rfl ?_
  refine v_getf fl_Model_13 ho rfl k_Model_soundAt_2 ?_
  refine v_bipush k_Model_soundAt_5 (by decide) ?_
  refine v_iload_n k_Model_soundAt_7 rfl ?_
  refine v_iadd k_Model_soundAt_8 ?_
  refine v_iald ha (by omega) (by omega) k_Model_soundAt_9 ?_
  rw [hk.k hv]
  refine v_aload_n k_Model_soundAt_10 rfl ?_
  refine v_getf fl_Model_13 ho rfl k_Model_soundAt_11 ?_
  refine v_bipush k_Model_soundAt_14 (by decide) ?_
  refine v_iload_n k_Model_soundAt_16 rfl ?_
  refine v_iadd k_Model_soundAt_17 ?_
  refine v_iald ha (by omega) (by omega) k_Model_soundAt_18 ?_
  rw [hk.e hv]
  refine v_aload_n k_Model_soundAt_19 rfl ?_
  refine v_getf fl_Model_13 ho rfl k_Model_soundAt_20 ?_
  refine v_bipush k_Model_soundAt_23 (by decide) ?_
  refine v_iload_n k_Model_soundAt_25 rfl ?_
  refine v_iadd k_Model_soundAt_26 ?_
  refine v_iald ha (by omega) (by omega) k_Model_soundAt_27 ?_
  rw [hk.h hv]
  refine v_iload_n k_Model_soundAt_28 rfl ?_
  refine v_callVr mo_Model_soundOf mi_Model_soundOf mv_Model_soundOf lk_Model_107 k_Model_soundAt_29 ho rfl rfl (Nat.le_of_ble_eq_true rfl) rfl (Nat.le_of_ble_eq_true rfl) (c_Model_soundOf G ho ha hk w (by omega) (by omega) hb) ?_
  refine v_ireturn k_Model_soundAt_32 rfl rfl ?_
  exact ⟨by rw [sO_sM wu], rfl⟩

set_option maxHeartbeats 4000000 in
set_option maxRecDepth 20000 in
theorem c_Model_endOf (G : Gx) {h : AH} {m : Nat} {X : MX} {a : List Int} {K : CK} (ho : h.2 m = some (aO 8 (mO m X))) (ha : h.2 (m + 2) = some (aA 0 a)) (hk : nowR a K) (w : vK K 13 6) {v : Int} (hv : 0 ≤ v ∧ v < (kK K).length) : Ct G Y_Model_endOf 3 0 0 [aR m, aI v] h (isR (some (aI (q_stl K v))) h) := by
  have hl := hk.1
  obtain ⟨w1, w2, w3, w4, w5, w6, w7, w8, w9, w10, w11, w12, w13, w14⟩ := id w
  have wu := w.up (by decide) (by decide)
  have hbs := bt_sum w
  have hbp := bt_pos w
  have h1 := wu.kd v
  refine Ct.of_V mo_Model_endOf rfl (Nat.le_of_ble_eq_true rfl) rfl ?_
  refine v_aload_n k_Model_endOf_0 rfl ?_
  refine v_getf fl_Model_13 ho rfl k_Model_endOf_1 ?_
  refine v_bipush k_Model_endOf_4 (by decide) ?_
  refine v_iload_n k_Model_endOf_6 rfl ?_
  refine v_iadd k_Model_endOf_7 ?_
  refine v_iald ha (by omega) (by omega) k_Model_endOf_8 ?_
  rw [hk.e hv]
  refine v_aload_n k_Model_endOf_9 rfl ?_
  refine v_getf fl_Model_13 ho rfl k_Model_endOf_10 ?_
  refine v_iconst k_Model_endOf_13 ?_
  refine v_iald ha (by omega) (by omega) k_Model_endOf_14 ?_
  rw [hk.n2]
  refine v_aload_n k_Model_endOf_15 rfl ?_
  refine v_aload_n k_Model_endOf_16 rfl ?_
  refine v_getf fl_Model_13 ho rfl k_Model_endOf_17 ?_
  refine v_bipush k_Model_endOf_20 (by decide) ?_
  refine v_iload_n k_Model_endOf_22 rfl ?_
  refine v_iadd k_Model_endOf_23 ?_
  refine v_iald ha (by omega) (by omega) k_Model_endOf_24 ?_
  rw [hk.k hv]
  refine v_callVr mo_Model_roundOf mi_Model_roundOf mv_Model_roundOf lk_Model_100 k_Model_endOf_25 ho rfl rfl (Nat.le_of_ble_eq_true rfl) rfl (Nat.le_of_ble_eq_true rfl) (c_Model_roundOf G ho ha hk w h1) ?_
  refine v_imul k_Model_endOf_28 ?_
  refine v_iadd k_Model_endOf_29 ?_
  refine v_ireturn k_Model_endOf_30 rfl rfl ?_
  exact ⟨rfl, rfl⟩

set_option maxHeartbeats 4000000 in
set_option maxRecDepth 20000 in
theorem c_Model_end (G : Gx) {h : AH} {m : Nat} {X : MX} {a : List Int} {K : CK} (ho : h.2 m = some (aO 8 (mO m X))) (ha : h.2 (m + 2) = some (aA 0 a)) (hk : nowR a K) (w : vK K 13 6) : Ct G Y_Model_end 4 0 0 [aR m] h (isR (some (aI (q_endK K))) h) := by
  have hl := hk.1
  obtain ⟨w1, w2, w3, w4, w5, w6, w7, w8, w9, w10, w11, w12, w13, w14⟩ := id w
  have wu := w.up (by decide) (by decide)
  have hbs := bt_sum w
  have hbp := bt_pos w
  refine Ct.of_V mo_Model_end rfl (Nat.le_of_ble_eq_true rfl) rfl ?_
  have loop : ∀ (k : Nat) (i : Nat), ((kK K).length < i + k) → (i ≤ (kK K).length) → (0 < (kP K).length) → V G Y_Model_end 4 0 0 4 [some (aR m), some (aI (q_endF K i)), some (aI (i : Int))] [] h (isR (some (aI (q_endK K))) h) := by
    intro k
    induction k with
    | zero => intro i hi hin hz; exfalso; omega
    | succ k ih =>
      intro i hi hin hz
      have hef := wu.endF i
      have hst := wu.stl (i : Int)
      refine v_iload_n k_Model_end_4 rfl ?_
      refine v_aload_n k_Model_end_5 rfl ?_
      refine v_getf fl_Model_13 ho rfl k_Model_end_6 ?_
      refine v_iconst k_Model_end_9 ?_
      refine v_iald ha (by omega) (by omega) k_Model_end_10 ?_
      rw [hk.n1]
      refine v_icge 39 k_Model_end_11 rfl (by omega) (by omega) (fun c11 => ?_) (fun c11 => ?_)
      · refine v_iload_n k_Model_end_39 rfl ?_
        refine v_ireturn k_Model_end_40 rfl rfl ?_
        first
          | (have e : i = (kK K).length := by omega
             subst e
             exact ⟨by unfold q_endK; rw [if_pos (by omega)], rfl⟩)
          | (exfalso; omega)
      · refine v_aload_n k_Model_end_14 rfl ?_
        refine v_getf fl_Model_13 ho rfl k_Model_end_15 ?_
        refine v_iconst k_Model_end_18 ?_
        refine v_iald ha (by omega) (by omega) k_Model_end_19 ?_
        rw [hk.n0]
        refine v_ifle 39 k_Model_end_20 rfl (by omega) (fun c20 => ?_) (fun c20 => ?_)
        · refine v_iload_n k_Model_end_39 rfl ?_
          refine v_ireturn k_Model_end_40 rfl rfl ?_
          first
            | (have e : i = (kK K).length := by omega
               subst e
               exact ⟨by unfold q_endK; rw [if_pos (by omega)], rfl⟩)
            | (exfalso; omega)
        · refine v_iload_n k_Model_end_23 rfl ?_
          refine v_aload_n k_Model_end_24 rfl ?_
          refine v_iload_n k_Model_end_25 rfl ?_
          refine v_callVr mo_Model_endOf mi_Model_endOf mv_Model_endOf lk_Model_111 k_Model_end_26 ho rfl rfl (Nat.le_of_ble_eq_true rfl) rfl (Nat.le_of_ble_eq_true rfl) (c_Model_endOf G ho ha hk w (v := (i : Int)) (by omega)) ?_
          refine v_mmax k_Model_end_29 lm_Model_114 (by omega) (by omega) (Nat.le_of_ble_eq_true rfl) (Nat.le_of_ble_eq_true rfl) ?_
          refine v_istore_n k_Model_end_32 ⟨Nat.le_of_ble_eq_true rfl, Nat.le_of_ble_eq_true rfl⟩ ?_
          refine v_iinc k_Model_end_33 rfl (Nat.le_of_ble_eq_true rfl) ?_
          refine v_goto k_Model_end_36 (tgt := 4) rfl ?_
          have st := ih (i + 1) (by omega) (by omega) hz
          exact st
  refine v_iconst k_Model_end_0 ?_
  refine v_istore_n k_Model_end_1 ⟨Nat.le_of_ble_eq_true rfl, Nat.le_of_ble_eq_true rfl⟩ ?_
  refine v_iconst k_Model_end_2 ?_
  refine v_istore_n k_Model_end_3 ⟨Nat.le_of_ble_eq_true rfl, Nat.le_of_ble_eq_true rfl⟩ ?_
  by_cases hz : 0 < (kP K).length
  · exact loop ((kK K).length + 1) 0 (by omega) (by omega) hz
  refine v_iload_n k_Model_end_4 rfl ?_
  refine v_aload_n k_Model_end_5 rfl ?_
  refine v_getf fl_Model_13 ho rfl k_Model_end_6 ?_
  refine v_iconst k_Model_end_9 ?_
  refine v_iald ha (by omega) (by omega) k_Model_end_10 ?_
  rw [hk.n1]
  refine v_icge 39 k_Model_end_11 rfl (by omega) (by omega) (fun c11 => ?_) (fun c11 => ?_)
  · refine v_iload_n k_Model_end_39 rfl ?_
    refine v_ireturn k_Model_end_40 rfl rfl ?_
    exact ⟨by unfold q_endK; rw [if_neg (by omega)], rfl⟩
  · refine v_aload_n k_Model_end_14 rfl ?_
    refine v_getf fl_Model_13 ho rfl k_Model_end_15 ?_
    refine v_iconst k_Model_end_18 ?_
    refine v_iald ha (by omega) (by omega) k_Model_end_19 ?_
    rw [hk.n0]
    refine v_ifle 39 k_Model_end_20 rfl (by omega) (fun c20 => ?_) (fun c20 => ?_)
    · refine v_iload_n k_Model_end_39 rfl ?_
      refine v_ireturn k_Model_end_40 rfl rfl ?_
      exact ⟨by unfold q_endK; rw [if_neg (by omega)], rfl⟩
    · exfalso; omega

set_option maxHeartbeats 4000000 in
set_option maxRecDepth 20000 in
theorem c_Model_agree (G : Gx) {h : AH} {m : Nat} {X : MX} {a : List Int} {K : CK} (ho : h.2 m = some (aO 8 (mO m X))) (ha : h.2 (m + 2) = some (aA 0 a)) (hk : nowR a K) (w : vK K 13 6) {x y : Int} (hx : -2000 ≤ x ∧ x ≤ 2000) (hy : -2000 ≤ y ∧ y ≤ 2000) : Ct G Y_Model_agree 1 0 0 [aR m, aI x, aI y] h (isR (some (aI (if agP (kW K) x y = true then 1 else 0))) h) := by
  have hl := hk.1
  obtain ⟨w1, w2, w3, w4, w5, w6, w7, w8, w9, w10, w11, w12, w13, w14⟩ := id w
  have wu := w.up (by decide) (by decide)
  have hbs := bt_sum w
  have hbp := bt_pos w
  have e1 : 0 ≤ (if 0 ≤ x - y then x - y else -(x - y)) ∧ (if 0 ≤ x - y then x - y else -(x - y)) ≤ 5000 := by split <;> omega
  refine Ct.of_V mo_Model_agree rfl (Nat.le_of_ble_eq_true rfl) rfl ?_
  refine v_iload_n k_Model_agree_0 rfl ?_
  refine v_sipush k_Model_agree_1 (by decide) ?_
  refine v_iceq 36 k_Model_agree_4 rfl (by omega) (by omega) (fun c4 => ?_) (fun c4 => ?_)
  · refine v_iconst k_Model_agree_36 ?_
    refine v_goto k_Model_agree_37 (tgt := 41) rfl ?_
    refine v_ireturn k_Model_agree_41 rfl (by first | rfl | (split <;> rfl)) ?_
    first
      | exact ⟨by rw [if_pos (agP_1 (Or.inl (by omega)))], rfl⟩
      | exact ⟨by rw [if_pos (agP_1 (Or.inr (Or.inl (by omega))))], rfl⟩
      | exact ⟨by rw [if_pos (agP_1 (Or.inr (Or.inr (wl_1 (Classical.not_not.mp c33)))))], rfl⟩
      | exact ⟨by rw [if_neg (agP_0 (by omega) (by omega) (wl_0 c33))], rfl⟩
  · refine v_iload_n k_Model_agree_7 rfl ?_
    refine v_sipush k_Model_agree_8 (by decide) ?_
    refine v_iceq 36 k_Model_agree_11 rfl (by omega) (by omega) (fun c11 => ?_) (fun c11 => ?_)
    · refine v_iconst k_Model_agree_36 ?_
      refine v_goto k_Model_agree_37 (tgt := 41) rfl ?_
      refine v_ireturn k_Model_agree_41 rfl (by first | rfl | (split <;> rfl)) ?_
      first
        | exact ⟨by rw [if_pos (agP_1 (Or.inl (by omega)))], rfl⟩
        | exact ⟨by rw [if_pos (agP_1 (Or.inr (Or.inl (by omega))))], rfl⟩
        | exact ⟨by rw [if_pos (agP_1 (Or.inr (Or.inr (wl_1 (Classical.not_not.mp c33)))))], rfl⟩
        | exact ⟨by rw [if_neg (agP_0 (by omega) (by omega) (wl_0 c33))], rfl⟩
    · refine v_aload_n k_Model_agree_14 rfl ?_
      refine v_getf fl_Model_13 ho rfl k_Model_agree_15 ?_
      refine v_iconst k_Model_agree_18 ?_
      refine v_iald ha (by omega) (by omega) k_Model_agree_19 ?_
      rw [hk.n4]
      refine v_iload_n k_Model_agree_20 rfl ?_
      refine v_iload_n k_Model_agree_21 rfl ?_
      refine v_isub k_Model_agree_22 ?_
      refine v_mabs k_Model_agree_23 lm_Model_119 (by omega) (Nat.le_of_ble_eq_true rfl) (Nat.le_of_ble_eq_true rfl) ?_
      refine v_bipush k_Model_agree_26 (by decide) ?_
      refine v_irem k_Model_agree_28 (by omega) (by decide) ?_
      rw [Int.tmod_eq_emod_of_nonneg e1.1]
      have e2 := Int.emod_nonneg (if 0 ≤ x - y then x - y else -(x - y)) (show (7 : Int) ≠ 0 by decide)
      have e3 := Int.emod_lt_of_pos (if 0 ≤ x - y then x - y else -(x - y)) (show (0 : Int) < 7 by decide)
      have e4 := div_bd w14 ((if 0 ≤ x - y then x - y else -(x - y)) % 7).toNat
      refine v_ishr k_Model_agree_29 (by omega) (by omega) ?_
      refine v_iconst k_Model_agree_30 ?_
      refine v_mask 1 k_Model_agree_31 (by decide) rfl ?_
      have e5 := Int.emod_nonneg (kW K / ((2 ^ ((if 0 ≤ x - y then x - y else -(x - y)) % 7).toNat : Nat) : Int)) (show ((2 ^ 1 : Nat) : Int) ≠ 0 by decide)
      have e6 := Int.emod_lt_of_pos (kW K / ((2 ^ ((if 0 ≤ x - y then x - y else -(x - y)) % 7).toNat : Nat) : Int)) (show (0 : Int) < ((2 ^ 1 : Nat) : Int) by decide)
      have e7 : ((2 ^ 1 : Nat) : Int) = 2 := rfl
      refine v_iconst k_Model_agree_32 ?_
      refine v_icne 40 k_Model_agree_33 rfl (by omega) (by omega) (fun c33 => ?_) (fun c33 => ?_)
      · refine v_iconst k_Model_agree_40 ?_
        refine v_ireturn k_Model_agree_41 rfl (by first | rfl | (split <;> rfl)) ?_
        first
          | exact ⟨by rw [if_pos (agP_1 (Or.inl (by omega)))], rfl⟩
          | exact ⟨by rw [if_pos (agP_1 (Or.inr (Or.inl (by omega))))], rfl⟩
          | exact ⟨by rw [if_pos (agP_1 (Or.inr (Or.inr (wl_1 (Classical.not_not.mp c33)))))], rfl⟩
          | exact ⟨by rw [if_neg (agP_0 (by omega) (by omega) (wl_0 c33))], rfl⟩
      · refine v_iconst k_Model_agree_36 ?_
        refine v_goto k_Model_agree_37 (tgt := 41) rfl ?_
        refine v_ireturn k_Model_agree_41 rfl (by first | rfl | (split <;> rfl)) ?_
        first
          | exact ⟨by rw [if_pos (agP_1 (Or.inl (by omega)))], rfl⟩
          | exact ⟨by rw [if_pos (agP_1 (Or.inr (Or.inl (by omega))))], rfl⟩
          | exact ⟨by rw [if_pos (agP_1 (Or.inr (Or.inr (wl_1 (Classical.not_not.mp c33)))))], rfl⟩
          | exact ⟨by rw [if_neg (agP_0 (by omega) (by omega) (wl_0 c33))], rfl⟩
