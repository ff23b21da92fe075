/-! no two voices have more than 78 ways -/
def dd (seen : List Int) : List Int → List Int
  | [] => []
  | x :: t => if x ∈ seen then dd (seen ++ [x]) t else x :: dd (seen ++ [x]) t
theorem dd_len : ∀ (l seen : List Int), (dd seen l).length = nw seen l
  | [], _ => rfl
  | x :: t, seen => by
    rw [dd, nw]
    by_cases g : x ∈ seen
    · rw [if_pos g, if_pos g, dd_len t, Nat.zero_add]
    · rw [if_neg g, if_neg g, List.length_cons, dd_len t, Nat.add_comm]
theorem dd_mem : ∀ (l seen : List Int) (y : Int), y ∈ dd seen l → y ∈ l ∧ y ∉ seen
  | [], _, y, h => absurd h List.not_mem_nil
  | x :: t, seen, y, h => by
    rw [dd] at h
    by_cases g : x ∈ seen
    · rw [if_pos g] at h
      have := dd_mem t _ y h
      exact ⟨List.mem_cons_of_mem _ this.1, fun q => this.2 (List.mem_append_left _ q)⟩
    · rw [if_neg g] at h
      rcases List.mem_cons.mp h with e | h
      · subst e; exact ⟨List.mem_cons_self, g⟩
      · have := dd_mem t _ y h
        exact ⟨List.mem_cons_of_mem _ this.1, fun q => this.2 (List.mem_append_left _ q)⟩
theorem dd_nd : ∀ (l seen : List Int), (dd seen l).Nodup
  | [], _ => List.nodup_nil
  | x :: t, seen => by
    rw [dd]
    by_cases g : x ∈ seen
    · rw [if_pos g]; exact dd_nd t _
    · rw [if_neg g]
      refine List.nodup_cons.mpr ⟨fun q => (dd_mem t _ x q).2 (List.mem_append_right _ (List.mem_singleton.mpr rfl)), dd_nd t _⟩
theorem pigeon (P : Int → Int → Prop) (fn : ∀ c x y, P c x → P c y → x = y) : ∀ (m : Nat) (D : List Int), D.Nodup → (∀ x ∈ D, ∃ c : Int, 0 ≤ c ∧ c < m ∧ P c x) → D.length ≤ m
  | 0, D, _, h => by
    cases D with
    | nil => exact Nat.le_refl _
    | cons x t => obtain ⟨c, h1, h2, _⟩ := h x List.mem_cons_self; omega
  | m + 1, D, nd, h => by
    by_cases g : ∃ x, x ∈ D ∧ P m x
    · obtain ⟨x, hx, px⟩ := g
      have e := List.length_erase_of_mem hx
      have hl : 0 < D.length := List.length_pos_of_mem hx
      have := pigeon P fn m (D.erase x) (nd.erase x) (fun y hy => by
        have hy2 := (List.Nodup.mem_erase_iff nd).mp hy
        obtain ⟨c, h1, h2, h3⟩ := h y hy2.2
        by_cases q : c = m
        · subst q; exact absurd (fn _ _ _ h3 px) hy2.1
        · exact ⟨c, h1, by omega, h3⟩)
      omega
    · have := pigeon P fn m D nd (fun y hy => by
        obtain ⟨c, h1, h2, h3⟩ := h y hy
        by_cases q : c = m
        · subst q; exact absurd ⟨y, hy, h3⟩ g
        · exact ⟨c, h1, by omega, h3⟩)
      omega
theorem nw_key {l : List Int} (P : Int → Int → Prop) (fn : ∀ c x y, P c x → P c y → x = y) (m : Nat) (h : ∀ x ∈ l, ∃ c : Int, 0 ≤ c ∧ c < m ∧ P c x) : nw [] l ≤ m := by
  rw [← dd_len]
  exact pigeon P fn m _ (dd_nd l []) (fun x hx => h x (dd_mem l [] x hx).1)
/-! the notes come one after another -/
theorem nobF_pw : ∀ (i : Nat) (ls : List Int), (nobF i ls).Pairwise (fun a b => a ≤ b)
  | _, [] => List.Pairwise.nil
  | i, a :: t => by
    rw [nobF, List.pairwise_append]
    refine ⟨List.pairwise_replicate.mpr (Or.inr (Int.le_refl _)), nobF_pw (i + 1) t, fun x hx y hy => ?_⟩
    rw [(List.mem_replicate.mp hx).2]
    have := nobF_mem (i + 1) t y hy
    omega
theorem nob_mono (ls : List Int) {a b : Int} (h0 : 0 ≤ a) (h1 : a ≤ b) (h2 : b < (nob ls).length) : rget (nob ls) a ≤ rget (nob ls) b := by
  rw [rget, if_pos (by omega), rget, if_pos (by omega), List.getD_eq_getElem?_getD, List.getD_eq_getElem?_getD, List.getElem?_eq_getElem (by omega), List.getElem?_eq_getElem (by omega)]
  by_cases e : a = b
  · subst e; exact Int.le_refl _
  · exact (List.pairwise_iff_getElem.mp (nobF_pw 0 ls)) a.toNat b.toNat _ _ (by omega)
theorem nob_12 {K : CK} (w : wK K) (j : Int) : 0 ≤ rget (nob (kL K)) j ∧ rget (nob (kL K)) j ≤ 12 := by
  have hn := w.nn
  refine rget_bd (fun x hx => ?_) (by omega) (by omega) j
  have := nobF_mem 0 (kL K) x hx
  omega
def ixV (K : CK) (v c : Int) : Int := if rget (kK K) v = 1 ∨ rget (kK K) v = 5 then 12 - rget (nob (kL K)) ((bt K : Int) - 1 - c) else if rget (kK K) v = 3 then rget (nob (kL K)) (c / 2) else rget (nob (kL K)) c
theorem ixV_bd {K : CK} (w : wK K) (v c : Int) : 0 ≤ ixV K v c ∧ ixV K v c ≤ 12 := by
  unfold ixV
  split
  · have := nob_12 w ((bt K : Int) - 1 - c); omega
  · split
    · exact nob_12 w _
    · exact nob_12 w _
theorem ixV_mono {K : CK} {v c c' : Int} (h0 : 0 ≤ c) (h1 : c ≤ c') (h2 : c' < q_rB K v) : ixV K v c ≤ ixV K v c' := by
  have hb : bt K = (nob (kL K)).length := rfl
  unfold q_rB at h2
  unfold ixV
  by_cases g : rget (kK K) v = 1 ∨ rget (kK K) v = 5
  · rw [if_pos g, if_pos g]
    rw [if_neg (by omega)] at h2
    have := nob_mono (kL K) (a := (bt K : Int) - 1 - c') (b := (bt K : Int) - 1 - c) (by omega) (by omega) (by omega)
    omega
  · rw [if_neg g, if_neg g]
    by_cases g3 : rget (kK K) v = 3
    · rw [if_pos g3, if_pos g3]
      rw [if_pos g3] at h2
      exact nob_mono (kL K) (by omega) (by omega) (by omega)
    · rw [if_neg g3, if_neg g3]
      rw [if_neg g3] at h2
      exact nob_mono (kL K) h0 h1 (by omega)
def gV_ (K : CK) (v b : Int) : Int := 13 * ((b - rget (kE K) v) / q_rB K v) + ixV K v ((b - rget (kE K) v) % q_rB K v)
def inS (K : CK) (v b : Int) : Prop := rget (kE K) v ≤ b ∧ b < q_stl K v
theorem inS.c {K : CK} (w : wK K) {v b : Int} (h : inS K v b) : 0 < q_rB K v ∧ 0 ≤ b - rget (kE K) v ∧ b - rget (kE K) v < kR K * q_rB K v := by
  have h1 := stl_sub K v
  have h2 := w.rB v
  obtain ⟨h3, h4⟩ := h
  refine ⟨?_, by omega, by omega⟩
  apply Classical.byContradiction
  intro q
  have : q_rB K v = 0 := by omega
  rw [this, Int.mul_zero] at h1
  omega
theorem pst_e {K : CK} (w : wK K) {v b : Int} (h : inS K v b) : pst K v b = (b - rget (kE K) v) / q_rB K v := by
  have c := h.c w
  unfold pst
  rw [if_pos c.1, Int.tdiv_eq_ediv_of_nonneg c.2.1]
theorem pst_3 {K : CK} (w : wK K) {v b : Int} (h : inS K v b) : 0 ≤ (b - rget (kE K) v) / q_rB K v ∧ (b - rget (kE K) v) / q_rB K v ≤ 3 := by
  rw [← pst_e w h]
  exact pst_in w (nS_nn w h.1 h.2)
theorem nS_ix {K : CK} (w : wK K) {v b : Int} (h : inS K v b) : q_nS K v b = (if rget (kK K) v = 1 ∨ rget (kK K) v = 5 then 12 - ixV K v ((b - rget (kE K) v) % q_rB K v) else ixV K v ((b - rget (kE K) v) % q_rB K v)) := by
  rw [nS_in (h.c w)]
  unfold ixV
  split
  · omega
  · rfl
theorem gV_eq {K : CK} (w : wK K) {v b b' : Int} (h : inS K v b) (h' : inS K v b') (e : gV_ K v b = gV_ K v b') : q_nS K v b = q_nS K v b' ∧ pst K v b = pst K v b' := by
  have i1 := ixV_bd w v ((b - rget (kE K) v) % q_rB K v)
  have i2 := ixV_bd w v ((b' - rget (kE K) v) % q_rB K v)
  unfold gV_ at e
  rw [nS_ix w h, nS_ix w h', pst_e w h, pst_e w h', show ixV K v ((b - rget (kE K) v) % q_rB K v) = ixV K v ((b' - rget (kE K) v) % q_rB K v) by omega]
  exact ⟨rfl, by omega⟩
theorem gV_mono {K : CK} (w : wK K) {v b b' : Int} (h : inS K v b) (h' : inS K v b') (l : b ≤ b') : gV_ K v b ≤ gV_ K v b' := by
  have i1 := ixV_bd w v ((b - rget (kE K) v) % q_rB K v)
  have i2 := ixV_bd w v ((b' - rget (kE K) v) % q_rB K v)
  have c := (h.c w).1
  have hq : (b - rget (kE K) v) / q_rB K v ≤ (b' - rget (kE K) v) / q_rB K v := Int.ediv_le_ediv c (by omega)
  unfold gV_
  by_cases q : (b - rget (kE K) v) / q_rB K v = (b' - rget (kE K) v) / q_rB K v
  · have m1 := Int.emod_add_mul_ediv (b - rget (kE K) v) (q_rB K v)
    have m2 := Int.emod_add_mul_ediv (b' - rget (kE K) v) (q_rB K v)
    rw [← q] at m2
    have := ixV_mono (K := K) (v := v) (c := (b - rget (kE K) v) % q_rB K v) (c' := (b' - rget (kE K) v) % q_rB K v) (Int.emod_nonneg _ (by omega)) (by omega) (Int.emod_lt_of_pos _ c)
    omega
  · omega
theorem lft_pst {K : CK} {v b b' : Int} (e : pst K v b = pst K v b') : lft K v b = lft K v b' := by unfold lft; rw [e]
theorem wyK_eq {K : CK} {i j b b' : Int} (e1 : q_nS K i b = q_nS K i b') (e2 : q_nS K j b = q_nS K j b') (e3 : lft K i b - lft K j b = lft K i b' - lft K j b') : wyK K i j b = wyK K i j b' := by
  unfold wyK apt
  rw [e1, e2, e3]
theorem slow_26 {K : CK} (w : wK K) {s p b0 b : Int} (hs : q_rB K s = 2 * bt K) (hp : q_rB K p = bt K) (h0 : inS K s b0) (h1 : inS K s b) (h2 : inS K p b0) (h3 : inS K p b) (l : b0 ≤ b) : gV_ K s b + gV_ K p b - (gV_ K s b0 + gV_ K p b0) ≤ 77 := by
  have i1 := ixV_bd w s ((b0 - rget (kE K) s) % q_rB K s)
  have i2 := ixV_bd w s ((b - rget (kE K) s) % q_rB K s)
  have i3 := ixV_bd w p ((b0 - rget (kE K) p) % q_rB K p)
  have i4 := ixV_bd w p ((b - rget (kE K) p) % q_rB K p)
  have p1 := pst_3 w h2
  have p2 := pst_3 w h3
  have c := (h0.c w).1
  have r1 : kR K * q_rB K p ≤ 4 * q_rB K p := Int.mul_le_mul_of_nonneg_right w.rd.2 (by omega)
  have c3 := (h3.c w).2.2
  have hd : b - b0 < 2 * q_rB K s := by have := h2.1; omega
  have hq : (b - rget (kE K) s) / q_rB K s ≤ (b0 - rget (kE K) s) / q_rB K s + 2 := by
    have := Int.ediv_le_ediv c (show b - rget (kE K) s ≤ b0 - rget (kE K) s + q_rB K s * 2 by omega)
    rw [Int.add_mul_ediv_left _ _ (show q_rB K s ≠ 0 by omega)] at this
    exact this
  have key : gV_ K s b - gV_ K s b0 ≤ 26 := by
    unfold gV_
    by_cases q : (b - rget (kE K) s) / q_rB K s = (b0 - rget (kE K) s) / q_rB K s + 2
    · have m1 := Int.emod_add_mul_ediv (b0 - rget (kE K) s) (q_rB K s)
      have m2 := Int.emod_add_mul_ediv (b - rget (kE K) s) (q_rB K s)
      rw [q, Int.mul_add] at m2
      have := ixV_mono (K := K) (v := s) (c := (b - rget (kE K) s) % q_rB K s) (c' := (b0 - rget (kE K) s) % q_rB K s) (Int.emod_nonneg _ (by omega)) (by omega) (Int.emod_lt_of_pos _ c)
      omega
    · omega
  have key2 : gV_ K p b - gV_ K p b0 ≤ 51 := by unfold gV_; omega
  omega
theorem cap_of {K : CK} (w : vK K 13 6) : capOK K := by
  have w : wK K := w.up (by omega) (by omega)
  intro i j hij hj
  have hin : ∀ {b : Int}, bgn K i j ≤ b → b < fin_ K i j → inS K i b ∧ inS K j b := by
    intro b h1 h2
    unfold bgn at h1
    unfold fin_ at h2
    exact ⟨⟨by omega, by omega⟩, by omega, by omega⟩
  by_cases hL : q_rB K i = q_rB K j
  · refine Nat.le_trans (nw_key (fun c x => ∃ b, bgn K i j ≤ b ∧ b < fin_ K i j ∧ (b - rget (kE K) i) % q_rB K i = c ∧ x = wyK K i j b) ?_ 74 ?_) (by omega)
    · rintro c x y ⟨b, b1, b2, b3, rfl⟩ ⟨b', d1, d2, d3, rfl⟩
      obtain ⟨s1, s2⟩ := hin b1 b2
      obtain ⟨s3, s4⟩ := hin d1 d2
      have L0 := (s1.c w).1
      have m1 := Int.emod_add_mul_ediv (b - rget (kE K) i) (q_rB K i)
      have m2 := Int.emod_add_mul_ediv (b' - rget (kE K) i) (q_rB K i)
      obtain ⟨t, ht⟩ : ∃ t, (b' - rget (kE K) i) / q_rB K i = (b - rget (kE K) i) / q_rB K i + t := ⟨(b' - rget (kE K) i) / q_rB K i - (b - rget (kE K) i) / q_rB K i, by omega⟩
      rw [ht, Int.mul_add] at m2
      have hb : b' - rget (kE K) j = b - rget (kE K) j + q_rB K j * t := by rw [← hL]; omega
      have q1 : (b' - rget (kE K) j) / q_rB K j = (b - rget (kE K) j) / q_rB K j + t := by rw [hb]; exact Int.add_mul_ediv_left _ _ (by omega)
      have q2 : (b' - rget (kE K) j) % q_rB K j = (b - rget (kE K) j) % q_rB K j := by rw [hb]; exact Int.add_mul_emod_self_left _ _ _
      refine wyK_eq ?_ ?_ ?_
      · rw [nS_ix w s1, nS_ix w s3, b3, d3]
      · rw [nS_ix w s2, nS_ix w s4, q2]
      · unfold lft
        rw [pst_e w s1, pst_e w s2, pst_e w s3, pst_e w s4, ht, q1, Int.mul_add, Int.mul_add]
        omega
    · intro x hx
      obtain ⟨b, b1, b2, rfl⟩ := mem_evP hx
      have L0 := ((hin b1 b2).1.c w).1
      have L1 := (w.rB i).2
      have := Int.emod_lt_of_pos (b - rget (kE K) i) L0
      exact ⟨_, Int.emod_nonneg _ (by omega), by omega, b, b1, b2, rfl, rfl⟩
  · refine Nat.le_trans (nw_key (fun c x => ∃ b, bgn K i j ≤ b ∧ b < fin_ K i j ∧ gV_ K i b + gV_ K j b - (gV_ K i (bgn K i j) + gV_ K j (bgn K i j)) = c ∧ x = wyK K i j b) ?_ 78 ?_) (by omega)
    · have le : ∀ {b b' : Int}, bgn K i j ≤ b → b ≤ b' → b' < fin_ K i j → gV_ K i b + gV_ K j b = gV_ K i b' + gV_ K j b' → wyK K i j b = wyK K i j b' := by
        intro b b' b1 b2 b3 e
        obtain ⟨s1, s2⟩ := hin b1 (by omega)
        obtain ⟨s3, s4⟩ := hin (b := b') (by omega) b3
        have g1 := gV_mono w s1 s3 b2
        have g2 := gV_mono w s2 s4 b2
        obtain ⟨x1, x2⟩ := gV_eq w s1 s3 (by omega)
        obtain ⟨y1, y2⟩ := gV_eq w s2 s4 (by omega)
        exact wyK_eq x1 y1 (by rw [lft_pst x2, lft_pst y2])
      rintro c x y ⟨b, b1, b2, b3, rfl⟩ ⟨b', d1, d2, d3, rfl⟩
      rcases Int.le_total b b' with l | l
      · exact le b1 l d2 (by omega)
      · exact (le d1 l b2 (by omega)).symm
    · intro x hx
      obtain ⟨b, b1, b2, rfl⟩ := mem_evP hx
      obtain ⟨s1, s2⟩ := hin b1 b2
      obtain ⟨s3, s4⟩ := hin (b := bgn K i j) (Int.le_refl _) (by omega)
      have g1 := gV_mono w s3 s1 b1
      have g2 := gV_mono w s4 s2 b1
      refine ⟨_, ?_, ?_, b, b1, b2, rfl, rfl⟩
      · omega
      · have hi : q_rB K i = 2 * bt K ∨ q_rB K i = bt K := by unfold q_rB; split <;> simp
        have hj2 : q_rB K j = 2 * bt K ∨ q_rB K j = bt K := by unfold q_rB; split <;> simp
        rcases hi with hi | hi <;> rcases hj2 with hj2 | hj2
        · omega
        · have := slow_26 w hi hj2 s3 s1 s4 s2 b1; omega
        · have := slow_26 w hj2 hi s4 s2 s3 s1 b1; omega
        · omega
