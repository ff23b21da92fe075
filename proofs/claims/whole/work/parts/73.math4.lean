/-! better, seeds, added, changed -/
theorem mem_evB {K : CK} {i j x : Int} : ∀ (k : Nat) (b : Int), x ∈ evB K i j k b → ∃ c, b ≤ c ∧ c < b + k ∧ x = wyK K i j c
  | 0, b, h => by rw [evB] at h; exact absurd h List.not_mem_nil
  | k + 1, b, h => by
    rw [evB] at h
    rcases List.mem_cons.mp h with e | h
    · exact ⟨b, Int.le_refl _, by omega, e⟩
    · obtain ⟨c, h1, h2, h3⟩ := mem_evB k (b + 1) h
      exact ⟨c, by omega, by omega, h3⟩
theorem mem_evP {K : CK} {i j x : Int} (h : x ∈ evP K i j) : ∃ c, bgn K i j ≤ c ∧ c < fin_ K i j ∧ x = wyK K i j c := by
  obtain ⟨c, h1, h2, h3⟩ := mem_evB _ _ h
  exact ⟨c, h1, by omega, h3⟩
theorem evP_bd {K : CK} (w : wK K) {i j x : Int} (h : x ∈ evP K i j) : 0 ≤ x ∧ x < 32768 := by
  obtain ⟨c, h1, h2, rfl⟩ := mem_evP h
  unfold bgn at h1
  unfold fin_ at h2
  have n1 := nS_nn w (v := i) (b := c) (by omega) (by omega)
  have n2 := nS_nn w (v := j) (b := c) (by omega) (by omega)
  have a1 := lft_in w n1
  have a2 := lft_in w n2
  have m1 := w.nS i c
  have m2 := w.nS j c
  have ap : -19 ≤ apt K i j c ∧ apt K i j c ≤ 19 := by unfold apt; split <;> omega
  have dt : dtn K i j = 0 ∨ dtn K i j = 16384 := by unfold dtn; split <;> simp
  unfold wyK
  omega
theorem evO_bd {K : CK} (w : wK K) {i x : Int} : ∀ k j, x ∈ evO K i k j → 0 ≤ x ∧ x < 32768
  | 0, _, h => absurd h List.not_mem_nil
  | k + 1, j, h => by
    rw [evO] at h
    rcases List.mem_append.mp h with h | h
    · exact evP_bd w h
    · exact evO_bd w k _ h
theorem evA_bd {K : CK} (w : wK K) {x : Int} : ∀ k i, x ∈ evA K k i → 0 ≤ x ∧ x < 32768
  | 0, _, h => absurd h List.not_mem_nil
  | k + 1, i, h => by
    rw [evA] at h
    rcases List.mem_append.mp h with h | h
    · exact evO_bd w _ _ h
    · exact evA_bd w k _ h
theorem wK_setP {K : CK} (w : wK K) {n x : Int} (hx : 0 ≤ x ∧ x ≤ 9) : wK (setP K n x) := vK.setP w hx
theorem bsP_b1 {K : CK} (w : wK K) (n : Int) : ∀ (k p : Nat) (acc : Int), p + k ≤ 10 → bsP K n k p acc = b1_ K n k p acc
  | 0, _, _, _ => rfl
  | k + 1, p, acc, h => by
    rw [bsP, b1_, x_illsE (wK_setP w (by omega)), bsP_b1 w n k (p + 1) _ (by omega)]
    rfl
theorem bsN_b2 {K : CK} (w : wK K) : ∀ (k n : Nat) (acc : Int), bsN K k n acc = b2_ K k n acc
  | 0, _, _ => rfl
  | k + 1, n, acc => by rw [bsN, b2_, bsP_b1 w n 10 0 acc (by omega), bsN_b2 w k (n + 1)]; rfl
theorem wSt.k {S : St} (w : wSt S) : wK (nK S) := w.1.up (by omega) (by omega)
theorem x_better {S : St} (w : wSt S) : s_better S = t_better S := by
  unfold s_better t_better
  rw [x_illsE w.k, bsN_b2 w.k]
  rfl
theorem wdF_M {K : CK} (w : wK K) : ∀ (k : Nat) (z acc : Int), wdF K k z acc = wdM K k z acc
  | 0, _, _ => rfl
  | k + 1, z, acc => by
    have w2 : wK (setPs K (drwL (kP K).length z)) := vK.setPs w (drwL_len _ _) (drwL_bd _ _)
    rw [wdF, wdM, x_wellE w2, wdF_M w k]
theorem x_seeds {S : St} (w : wSt S) (n z : Int) : s_seeds S n z = t_seeds S n z := by
  unfold s_seeds t_seeds
  rw [wdF_M w.k]
theorem x_added {S : St} (w : wSt S) : s_added S = t_added S := by
  unfold s_added t_added
  refine Prod.ext ?_ rfl
  refine congrArg (fun n : Nat => (n : Int)) (bit_ext (fun v => ?_))
  rw [orb_bit, orb_bit]
  by_cases q : v < 10
  · rw [setP_addN, x_wellE ((vK.addN w.1 (by omega) rfl).up (by omega) (by omega))]
  · rw [decide_eq_false q, Bool.false_and, Bool.false_and]
/-! changed -/
theorem ill_touch {K : CK} {n p x : Int} (hn : 0 ≤ n) (hx : 0 ≤ x ∧ x < 32768) (h : ¬ (ntW x).testBit n.toNat = true) : illW (setP K n p) x = illW K x := by
  unfold ntW at h
  rw [Nat.testBit_or, Nat.testBit_or, Nat.testBit_two_pow, Nat.testBit_two_pow, Bool.or_eq_true, Bool.or_eq_true, decide_eq_true_eq, decide_eq_true_eq] at h
  have e1 : rget (kP (setP K n p)) (x % 16) = rget (kP K) (x % 16) := rget_rset_ne (by omega)
  have e2 : rget (kP (setP K n p)) (x / 16 % 16) = rget (kP K) (x / 16 % 16) := rget_rset_ne (by omega)
  have e4 : kW (setP K n p) = kW K := rfl
  unfold illW
  rw [e1, e2, e4]
  by_cases g : x / 16384 = 0
  · rw [if_pos g, if_pos g]
  · have g1 : x / 16384 = 1 := by omega
    have hn0 : n ≠ 0 := by
      intro e
      apply h
      right
      rw [g1, e]; rfl
    have e3 : rget (kP (setP K n p)) 0 = rget (kP K) 0 := rget_rset_ne (fun q => hn0 q.symm)
    rw [if_neg g, if_neg g, e3]
theorem touch1 {K : CK} (w : wK K) {n : Nat} {p : Int} (h : wellE (setP K n p) = true) {x : Int} (hx : x ∈ evs K) : (!illW K x || (ntW x).testBit n) = true := by
  have hb := evA_bd w _ _ hx
  unfold wellE at h
  rw [evs_setP] at h
  have h1 := List.all_eq_true.mp h x hx
  by_cases g : (ntW x).testBit n = true
  · rw [g, Bool.or_true]
  · rw [ill_touch (by omega) hb (by rw [Int.toNat_natCast]; exact g)] at h1
    rw [h1, Bool.true_or]
theorem touch2 {K : CK} (w : wK K) {n k : Nat} {p q : Int} (h : wellE (setP (setP K n p) k q) = true) {x : Int} (hx : x ∈ evs K) : (!illW K x || ((ntW x).testBit n || (ntW x).testBit k)) = true := by
  have hb := evA_bd w _ _ hx
  unfold wellE at h
  rw [evs_setP, evs_setP] at h
  have h1 := List.all_eq_true.mp h x hx
  by_cases g : (ntW x).testBit n = true
  · rw [g, Bool.true_or, Bool.or_true]
  · by_cases g2 : (ntW x).testBit k = true
    · rw [g2, Bool.or_true, Bool.or_true]
    · rw [ill_touch (by omega) hb (by rw [Int.toNat_natCast]; exact g2), ill_touch (by omega) hb (by rw [Int.toNat_natCast]; exact g)] at h1
      rw [h1, Bool.true_or]
theorem mpF_o1 {K : CK} (w : wK K) (hw : ¬ wellE K = true) (n : Nat) : ∀ k p : Nat, p + k ≤ 10 → o1 K n k p = if mpF K n k p = -9 then -9 else 10 * n + mpF K n k p
  | 0, _, _ => rfl
  | k + 1, p, h => by
    rw [o1, mpF, show ((p : Int) + 1) = ((p + 1 : Nat) : Int) by omega, mpF_o1 w hw n k (p + 1) (by omega), ← x_wellE (wK_setP w (by omega))]
    by_cases g : wellE (setP K n p) = true
    · have hp : (p : Int) ≠ rget (kP K) n := by
        intro e
        rw [e, setP_self] at g
        exact hw g
      rw [if_pos ⟨hp, g⟩, if_pos g, if_neg (by omega)]
    · rw [if_neg (fun q => g q.2), if_neg g]
theorem mpF_ex {K : CK} {n : Int} : ∀ k p : Nat, mpF K n k p ≠ -9 ↔ ∃ q : Nat, p ≤ q ∧ q < p + k ∧ wellE (setP K n q) = true
  | 0, p => ⟨fun h => absurd rfl h, fun ⟨q, h1, h2, _⟩ => by omega⟩
  | k + 1, p => by
    rw [mpF]
    by_cases g : wellE (setP K n p) = true
    · rw [if_pos g]
      exact ⟨fun _ => ⟨p, by omega, by omega, g⟩, fun _ => by omega⟩
    · rw [if_neg g, mpF_ex k (p + 1)]
      constructor
      · rintro ⟨q, h1, h2, h3⟩
        exact ⟨q, by omega, by omega, h3⟩
      · rintro ⟨q, h1, h2, h3⟩
        by_cases e : q = p
        · subst e; exact absurd h3 g
        · exact ⟨q, by omega, by omega, h3⟩
theorem o1_ex {K : CK} {n : Nat} : ∀ k p : Nat, o1 K n k p ≠ -9 ↔ ∃ q : Nat, p ≤ q ∧ q < p + k ∧ (q : Int) ≠ rget (kP K) n ∧ mW (setP K n q) = true
  | 0, p => ⟨fun h => absurd rfl h, fun ⟨q, h1, h2, _⟩ => by omega⟩
  | k + 1, p => by
    rw [o1, show ((p : Int) + 1) = ((p + 1 : Nat) : Int) by omega]
    by_cases g : (p : Int) ≠ rget (kP K) n ∧ mW (setP K n p) = true
    · rw [if_pos g]
      exact ⟨fun _ => ⟨p, by omega, by omega, g⟩, fun _ => by omega⟩
    · rw [if_neg g, o1_ex k (p + 1)]
      constructor
      · rintro ⟨q, h1, h2, h3⟩
        exact ⟨q, by omega, by omega, h3⟩
      · rintro ⟨q, h1, h2, h3⟩
        by_cases e : q = p
        · subst e; exact absurd h3 g
        · exact ⟨q, by omega, by omega, h3⟩
theorem o2_ex {K : CK} : ∀ k n : Nat, o2 K k n ≠ -9 ↔ ∃ i : Nat, n ≤ i ∧ i < n + k ∧ o1 K i 10 0 ≠ -9
  | 0, p => ⟨fun h => absurd rfl h, fun ⟨q, h1, h2, _⟩ => by omega⟩
  | k + 1, p => by
    rw [o2, show ((p : Int) + 1) = ((p + 1 : Nat) : Int) by omega]
    by_cases g : o1 K p 10 0 = -9
    · rw [if_pos g, o2_ex k (p + 1)]
      constructor
      · rintro ⟨q, h1, h2, h3⟩
        exact ⟨q, by omega, by omega, h3⟩
      · rintro ⟨q, h1, h2, h3⟩
        by_cases e : q = p
        · subst e; exact absurd g h3
        · exact ⟨q, by omega, by omega, h3⟩
    · rw [if_neg g]
      exact ⟨fun _ => ⟨p, by omega, by omega, g⟩, fun _ => g⟩
theorem mOC_ex (K : CK) : mOC K ≠ -9 ↔ ∃ i q : Nat, i < (kP K).length ∧ q < 10 ∧ (q : Int) ≠ rget (kP K) i ∧ mW (setP K i q) = true := by
  unfold mOC
  have h := o2_ex (K := K) (kP K).length 0
  rw [show (((0 : Nat)) : Int) = (0 : Int) from rfl] at h
  rw [h]
  constructor
  · rintro ⟨i, h1, h2, h3⟩
    obtain ⟨q, q1, q2, q3⟩ := (o1_ex 10 0).mp h3
    exact ⟨i, q, by omega, by omega, q3⟩
  · rintro ⟨i, q, h1, h2, h3⟩
    exact ⟨i, by omega, by omega, (o1_ex 10 0).mpr ⟨q, by omega, by omega, h3⟩⟩
theorem w1_ex {K : CK} {n : Nat} : ∀ k p : Nat, w1_ K n k p = true ↔ ∃ q : Nat, p ≤ q ∧ q < p + k ∧ (q : Int) ≠ rget (kP K) n ∧ mOC (setP K n q) ≠ -9
  | 0, p => ⟨fun h => absurd h (by rw [w1_]; decide), fun ⟨q, h1, h2, _⟩ => by omega⟩
  | k + 1, p => by
    rw [w1_, show ((p : Int) + 1) = ((p + 1 : Nat) : Int) by omega]
    by_cases g : (p : Int) ≠ rget (kP K) n ∧ mOC (setP K n p) ≠ -9
    · rw [if_pos g]
      exact ⟨fun _ => ⟨p, by omega, by omega, g⟩, fun _ => rfl⟩
    · rw [if_neg g, w1_ex k (p + 1)]
      constructor
      · rintro ⟨q, h1, h2, h3⟩
        exact ⟨q, by omega, by omega, h3⟩
      · rintro ⟨q, h1, h2, h3⟩
        by_cases e : q = p
        · subst e; exact absurd h3 g
        · exact ⟨q, by omega, by omega, h3⟩
theorem w2_ex {K : CK} : ∀ k n : Nat, w2_ K k n = true ↔ ∃ i : Nat, n ≤ i ∧ i < n + k ∧ w1_ K i 10 0 = true
  | 0, p => ⟨fun h => absurd h (by rw [w2_]; decide), fun ⟨q, h1, h2, _⟩ => by omega⟩
  | k + 1, p => by
    rw [w2_, show ((p : Int) + 1) = ((p + 1 : Nat) : Int) by omega]
    by_cases g : w1_ K p 10 0 = true
    · rw [if_pos g]
      exact ⟨fun _ => ⟨p, by omega, by omega, g⟩, fun _ => rfl⟩
    · rw [if_neg g, w2_ex k (p + 1)]
      constructor
      · rintro ⟨q, h1, h2, h3⟩
        exact ⟨q, by omega, by omega, h3⟩
      · rintro ⟨q, h1, h2, h3⟩
        by_cases e : q = p
        · subst e; exact absurd h3 g
        · exact ⟨q, by omega, by omega, h3⟩
theorem hpO_ex {K : CK} {ms : List Int} {one : Int} : ∀ k o : Nat, hpO K ms one k o = true ↔ ∃ i : Nat, o ≤ i ∧ i < o + k ∧ cmB ms one i = true ∧ mpF K i 10 0 ≠ -9
  | 0, p => ⟨fun h => absurd h (by rw [hpO]; decide), fun ⟨q, h1, h2, _⟩ => by omega⟩
  | k + 1, p => by
    rw [hpO, Bool.or_eq_true, Bool.and_eq_true, Bool.not_eq_true', decide_eq_false_iff_not, hpO_ex k (p + 1)]
    constructor
    · rintro (g | ⟨q, h1, h2, h3⟩)
      · exact ⟨p, by omega, by omega, g⟩
      · exact ⟨q, by omega, by omega, h3⟩
    · rintro ⟨q, h1, h2, h3⟩
      by_cases e : q = p
      · subst e; exact Or.inl h3
      · exact Or.inr ⟨q, by omega, by omega, h3⟩
theorem hpQ_ex {K : CK} {ms : List Int} {one : Nat} : ∀ k p : Nat, hpQ K ms one k p = true ↔ ∃ q : Nat, p ≤ q ∧ q < p + k ∧ hpO (setP K one q) ms one ((kP K).length - (one + 1)) (one + 1) = true
  | 0, p => ⟨fun h => absurd h (by rw [hpQ]; decide), fun ⟨q, h1, h2, _⟩ => by omega⟩
  | k + 1, p => by
    rw [hpQ, Bool.or_eq_true, hpQ_ex k (p + 1)]
    constructor
    · rintro (g | ⟨q, h1, h2, h3⟩)
      · exact ⟨p, by omega, by omega, g⟩
      · exact ⟨q, by omega, by omega, h3⟩
    · rintro ⟨q, h1, h2, h3⟩
      by_cases e : q = p
      · subst e; exact Or.inl h3
      · exact Or.inr ⟨q, by omega, by omega, h3⟩
theorem hpN_ex {K : CK} {ms : List Int} : ∀ k n : Nat, hpN K ms k n = true ↔ ∃ i : Nat, n ≤ i ∧ i < n + k ∧ hpQ K ms i 10 0 = true
  | 0, p => ⟨fun h => absurd h (by rw [hpN]; decide), fun ⟨q, h1, h2, _⟩ => by omega⟩
  | k + 1, p => by
    rw [hpN, Bool.or_eq_true, hpN_ex k (p + 1)]
    constructor
    · rintro (g | ⟨q, h1, h2, h3⟩)
      · exact ⟨p, by omega, by omega, g⟩
      · exact ⟨q, by omega, by omega, h3⟩
    · rintro ⟨q, h1, h2, h3⟩
      by_cases e : q = p
      · subst e; exact Or.inl h3
      · exact Or.inr ⟨q, by omega, by omega, h3⟩
theorem fsF_o2 {K : CK} (w : wK K) (hw : ¬ wellE K = true) {ms : List Int} (hm : mendOK K ms) (h12 : (kP K).length ≤ 12) : ∀ k n : Nat, n + k = (kP K).length → fsF K ms k n = o2 K k n
  | 0, _, _ => rfl
  | k + 1, n, h => by
    rw [fsF, o2, show ((n : Int) + 1) = ((n + 1 : Nat) : Int) by omega, fsF_o2 w hw hm h12 k (n + 1) (by omega)]
    have e := mpF_o1 w hw n 10 0 (by omega)
    rw [show (((0 : Nat)) : Int) = (0 : Int) from rfl] at e
    have hbd := mpF_bd K n 10 0
    by_cases g : mpF K n 10 0 = -9
    · rw [g, if_pos rfl] at e
      rw [e, g, if_pos rfl, if_pos (by split <;> rfl)]
    · have hc : cmB ms n n = true := by
        obtain ⟨q, q1, q2, q3⟩ := (mpF_ex 10 0).mp g
        rw [hm.2.2 n n (by omega) (by omega)]
        rw [List.all_eq_true]
        intro x hx
        rw [Bool.or_self]
        exact touch1 w q3 hx
      rw [if_neg g] at e
      rw [e, hc, if_pos rfl, if_neg g, if_neg (by omega)]
theorem rset_comm {xs : List Int} {i j x y : Int} (h : i ≠ j) : rset (rset xs i x) j y = rset (rset xs j y) i x := by
  unfold rset
  by_cases g1 : 0 ≤ i ∧ i < xs.length
  · by_cases g2 : 0 ≤ j ∧ j < xs.length
    · rw [if_pos g1, if_pos g2, if_pos (by rw [List.length_set]; exact g2), if_pos (by rw [List.length_set]; exact g1), List.set_comm _ _ (by omega)]
    · rw [if_pos g1, if_neg g2, if_neg (by rw [List.length_set]; exact g2), if_pos g1]
  · by_cases g2 : 0 ≤ j ∧ j < xs.length
    · rw [if_neg g1, if_pos g2, if_neg (by rw [List.length_set]; exact g1)]
    · rw [if_neg g1, if_neg g2, if_neg g1]
theorem setP_comm {K : CK} {i j x y : Int} (h : i ≠ j) : setP (setP K i x) j y = setP (setP K j y) i x := by
  show (rset (rset (kP K) i x) j y, _) = (rset (rset (kP K) j y) i x, _)
  rw [rset_comm h]
  rfl
theorem hpN_mTC {K : CK} (w : wK K) (hw : ¬ wellE K = true) {ms : List Int} (hm : mendOK K ms) (h12 : (kP K).length ≤ 12) (h1 : mOC K = -9) : hpN K ms (kP K).length 0 = mTC K := by
  have no : ∀ i q : Nat, i < (kP K).length → q < 10 → ¬ wellE (setP K i q) = true := by
    intro i q hi hq hwl
    have hne : (q : Int) ≠ rget (kP K) i := by
      intro e
      rw [e, setP_self] at hwl
      exact hw hwl
    rw [x_wellE (wK_setP w (by omega))] at hwl
    exact ((mOC_ex K).mpr ⟨i, q, hi, hq, hne, hwl⟩) h1
  rw [Bool.eq_iff_iff, hpN_ex]
  unfold mTC
  have hz : w2_ K (kP K).length 0 = true ↔ _ := w2_ex (K := K) (kP K).length 0
  rw [hz]
  constructor
  · rintro ⟨i, i1, i2, i3⟩
    obtain ⟨p, p1, p2, p3⟩ := (hpQ_ex 10 0).mp i3
    obtain ⟨o, o1', o2', o3, o4⟩ := (hpO_ex _ _).mp p3
    obtain ⟨q, q1, q2, q3⟩ := (mpF_ex 10 0).mp o4
    have hp : (p : Int) ≠ rget (kP K) i := by
      intro e
      rw [e, setP_self] at q3
      exact no o q (by omega) (by omega) q3
    refine ⟨i, by omega, by omega, (w1_ex 10 0).mpr ⟨p, by omega, by omega, hp, (mOC_ex _).mpr ⟨o, q, by show o < (rset (kP K) i p).length; rw [rset_len]; omega, by omega, ?_, ?_⟩⟩⟩
    · intro e
      rw [e, setP_self] at q3
      exact no i p (by omega) (by omega) q3
    · rw [← x_wellE (wK_setP (wK_setP w (by omega)) (by omega))]; exact q3
  · rintro ⟨i, i1, i2, i3⟩
    obtain ⟨p, p1, p2, p3, p4⟩ := (w1_ex 10 0).mp i3
    obtain ⟨k, q, k1, k2, k3, k4⟩ := (mOC_ex _).mp p4
    have k1 : k < (kP K).length := by have z : k < (rset (kP K) i p).length := k1; rw [rset_len] at z; exact z
    rw [← x_wellE (wK_setP (wK_setP w (by omega)) (by omega))] at k4
    by_cases e : k = i
    · subst e
      rw [setP_setP] at k4
      exact absurd k4 (no k q (by omega) (by omega))
    · by_cases lt : i < k
      · refine ⟨i, by omega, by omega, (hpQ_ex 10 0).mpr ⟨p, by omega, by omega, (hpO_ex _ _).mpr ⟨k, by omega, by omega, ?_, (mpF_ex 10 0).mpr ⟨q, by omega, by omega, k4⟩⟩⟩⟩
        rw [hm.2.2 i k (by omega) (by omega), List.all_eq_true]
        exact fun x hx => touch2 w k4 hx
      · rw [setP_comm (by omega)] at k4
        refine ⟨k, by omega, by omega, (hpQ_ex 10 0).mpr ⟨q, by omega, by omega, (hpO_ex _ _).mpr ⟨i, by omega, by omega, ?_, (mpF_ex 10 0).mpr ⟨p, by omega, by omega, k4⟩⟩⟩⟩
        rw [hm.2.2 k i (by omega) (by omega), List.all_eq_true]
        exact fun x hx => touch2 w k4 hx
theorem x_changed {S : St} (w : wSt S) (x : Int) {ms : List Int} (hm : (x = 0 ∨ x = 1) → mendOK (nK S) ms) : s_changed S x ms = t_changed S x := by
  unfold s_changed t_changed few fst_
  have h12 := w.1.2.1
  by_cases g : x < 0 ∨ x > 1
  · rw [if_pos g, if_neg (show ¬ x = 0 by omega), if_neg (show ¬ x = 1 by omega)]
  · rw [if_neg g]
    have hm := hm (by omega)
    rw [← x_wellE w.k]
    by_cases gw : wellE (nK S) = true
    · rw [if_pos gw, if_pos gw, if_pos gw]
      by_cases g0 : x = 0
      · rw [if_pos g0, if_pos g0]
      · rw [if_neg g0, if_neg g0, if_pos (show x = 1 by omega)]
    · have e := fsF_o2 w.k gw hm h12 (kP (nK S)).length 0 (by omega)
      have e2 : fsF (nK S) ms (kP (nK S)).length 0 = mOC (nK S) := e
      rw [if_neg gw, if_neg gw, if_neg gw, e2]
      by_cases g0 : x = 0
      · rw [if_pos g0, if_neg (show ¬ x = 1 by omega)]
        by_cases g1 : mOC (nK S) = -9
        · rw [if_pos g1, if_neg (show ¬ mOC (nK S) ≠ -9 from fun q => q g1), hpN_mTC w.k gw hm h12 g1]
        · rw [if_neg g1, if_pos (show mOC (nK S) ≠ -9 from g1)]
      · rw [if_neg g0, if_pos (show x = 1 by omega), if_pos (show x = 1 by omega)]
