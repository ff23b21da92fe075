/-! constructors: the new cells come in their order behind the object -/
def FrU (n : Nat) (h h' : AH) : Prop := ∀ q, q < n → h'.2 q = h.2 q
theorem FrU.tr {n n1 : Nat} {h h1 h2 : AH} (a : FrU n h h1) (b : FrU n1 h1 h2) (hl : n ≤ n1) : FrU n h h2 := fun q hq => (b q (by omega)).trans (a q hq)
theorem FrU.at {n a : Nat} {x : Option AC} {h h1 : AH} (b : FrU n h h1) (hx : h.2 a = x) (ha : a < n) : h1.2 a = x := (b a ha).trans hx
theorem FrU.rf {n : Nat} {h : AH} : FrU n h h := fun _ _ => rfl
theorem Fr.u {lo hi n : Nat} {h h1 : AH} (f : Fr lo hi h h1) (hn : n ≤ lo) : FrU n h h1 := fun q hq => f.2 q (by omega)
theorem Mk.u {h h' : AH} {c : AC} {n : Nat} (m : Mk h h' c) (hn : n ≤ h.1) : FrU n h h' := fun q hq => m.2.2 q (by omega)
theorem pRow.fu {h h' : AH} {o room n : Nat} {xs : List Int} (p : pRow h o room xs) (f : FrU n h h') (ha : o + 2 ≤ n) : pRow h' o room xs := by
  obtain ⟨cs, h1, h2, h3⟩ := p
  exact ⟨cs, f.at h1 (by omega), f.at h2 (by omega), h3⟩
theorem pTune.fu {h h' : AH} {t n : Nat} {ps ls : List Int} (p : pTune h t ps ls) (f : FrU n h h') (ha : t + 7 ≤ n) : pTune h' t ps ls :=
  ⟨f.at p.1 (by omega), p.2.1.fu f (by omega), p.2.2.1.fu f (by omega), p.2.2.2.fu f (by omega)⟩
theorem pCanon.fu {h h' : AH} {c n : Nat} {K : CK} {sg sd : List Int} (p : pCanon h c K sg sd) (f : FrU n h h') (ha : c + 18 ≤ n) : pCanon h' c K sg sd :=
  ⟨f.at p.1 (by omega), p.2.1.fu f (by omega), p.2.2.1.fu f (by omega), p.2.2.2.1.fu f (by omega), p.2.2.2.2.1.fu f (by omega), p.2.2.2.2.2.1.fu f (by omega), p.2.2.2.2.2.2.fu f (by omega)⟩
def pMeet (h : AH) (m : Nat) (ws ts : List Int) : Prop := h.2 m = some (aO 1 [aR (m + 1), aR (m + 3)]) ∧ pRow h (m + 1) 1170 ws ∧ pRow h (m + 3) 1170 ts
theorem pMeet.fr {h h' : AH} {m lo hi : Nat} {ws ts : List Int} (p : pMeet h m ws ts) (f : Fr lo hi h h') (ha : m + 5 ≤ lo ∨ hi ≤ m) : pMeet h' m ws ts :=
  ⟨f.at p.1 (by omega), p.2.1.fr f (by omega), p.2.2.fr f (by omega)⟩
theorem pMeet.fu {h h' : AH} {m n : Nat} {ws ts : List Int} (p : pMeet h m ws ts) (f : FrU n h h') (ha : m + 5 ≤ n) : pMeet h' m ws ts :=
  ⟨f.at p.1 (by omega), p.2.1.fu f (by omega), p.2.2.fu f (by omega)⟩
def pMind (h : AH) (m : Nat) (K : CK) (sg sd ws ts ms : List Int) : Prop := h.2 m = some (aO 2 [aR (m + 1), aR (m + 19), aR (m + 24)]) ∧ pCanon h (m + 1) K sg sd ∧ pMeet h (m + 19) ws ts ∧ pRow h (m + 24) 12 ms
theorem pMind.fr {h h' : AH} {m lo hi : Nat} {K : CK} {sg sd ws ts ms : List Int} (p : pMind h m K sg sd ws ts ms) (f : Fr lo hi h h') (ha : m + 26 ≤ lo ∨ hi ≤ m) : pMind h' m K sg sd ws ts ms :=
  ⟨f.at p.1 (by omega), p.2.1.fr f (by omega), p.2.2.1.fr f (by omega), p.2.2.2.fr f (by omega)⟩
theorem pMind.fu {h h' : AH} {m n : Nat} {K : CK} {sg sd ws ts ms : List Int} (p : pMind h m K sg sd ws ts ms) (f : FrU n h h') (ha : m + 26 ≤ n) : pMind h' m K sg sd ws ts ms :=
  ⟨f.at p.1 (by omega), p.2.1.fu f (by omega), p.2.2.1.fu f (by omega), p.2.2.2.fu f (by omega)⟩
def pWalks (h : AH) (m : Nat) (es ls : List Int) : Prop := h.2 m = some (aO 6 [aR (m + 1), aR (m + 2)]) ∧ h.2 (m + 1) = some (aA 1 es) ∧ h.2 (m + 2) = some (aA 1 ls) ∧ es.length = 7 ∧ ls.length = 7
theorem pWalks.fr {h h' : AH} {m lo hi : Nat} {es ls : List Int} (p : pWalks h m es ls) (f : Fr lo hi h h') (ha : m + 3 ≤ lo ∨ hi ≤ m) : pWalks h' m es ls :=
  ⟨f.at p.1 (by omega), f.at p.2.1 (by omega), f.at p.2.2.1 (by omega), p.2.2.2⟩
theorem pWalks.fu {h h' : AH} {m n : Nat} {es ls : List Int} (p : pWalks h m es ls) (f : FrU n h h') (ha : m + 3 ≤ n) : pWalks h' m es ls :=
  ⟨f.at p.1 (by omega), f.at p.2.1 (by omega), f.at p.2.2.1 (by omega), p.2.2.2⟩
def pText (h : AH) (m : Nat) (xs : List Int) : Prop := h.2 m = some (aO 4 [aR (m + 1)]) ∧ pRow h (m + 1) 80 xs
theorem pText.fr {h h' : AH} {m lo hi : Nat} {xs : List Int} (p : pText h m xs) (f : Fr lo hi h h') (ha : m + 3 ≤ lo ∨ hi ≤ m) : pText h' m xs :=
  ⟨f.at p.1 (by omega), p.2.fr f (by omega)⟩
theorem pText.fu {h h' : AH} {m n : Nat} {xs : List Int} (p : pText h m xs) (f : FrU n h h') (ha : m + 3 ≤ n) : pText h' m xs :=
  ⟨f.at p.1 (by omega), p.2.fu f (by omega)⟩
set_option maxHeartbeats 4000000 in
set_option maxRecDepth 20000 in
theorem c_Row_init (G : Gx) {h : AH} {o : Nat} {n : Int} (hn : 0 ≤ n ∧ n ≤ 10000) (h0 : h.2 o = some (aO 3 [aN, aI 0])) (hz : h.1 = o + 1) : Ct G Y_Row_init 1 1 n.toNat [aR o, aI n] h (fun v h' => v = none ∧ h'.1 = o + 2 ∧ pRow h' o n.toNat [] ∧ FrU o h h') := by
  refine Ct.of_V mo_Row_init rfl (Nat.le_of_ble_eq_true rfl) rfl ?_
  refine v_aload_n k_Row_init_0 rfl ?_
  refine v_objI lo_Row_1 k_Row_init_1 (Nat.le_of_ble_eq_true rfl) (Nat.le_of_ble_eq_true rfl) ?_
  refine v_aload_n k_Row_init_4 rfl ?_
  refine v_iconst k_Row_init_5 ?_
  refine v_put fl_Row_7 h0 (Nat.le_of_ble_eq_true rfl) (fun r hr => by cases hr; exact Or.inl rfl) rfl rfl k_Row_init_6 (fun h1 e1 f1 => ?_)
  refine v_aload_n k_Row_init_9 rfl ?_
  refine v_iload_n k_Row_init_10 rfl ?_
  refine v_ifge 18 k_Row_init_11 rfl (by omega) (fun c11 => ?_) (fun c11 => absurd hn.1 c11)
  refine v_iload_n k_Row_init_18 rfl ?_
  have K := v_nwa (G := G) (Y := Y_Row_init) (d := 1) (rc := 0) (rs := 0) (pc := 19) (ls := [some (aR o), some (aI n)]) (st := [aR o]) (h := h1) (F := fun v h' => v = none ∧ h'.1 = o + 2 ∧ pRow h' o n.toNat [] ∧ FrU o h h') (t := 0) (n := n) (aty0 := .int) (by decide) rfl ac_int hn k_Row_init_19 (fun h2 m2 => ?_)
  · rw [Nat.zero_add, Nat.zero_add] at K
    exact K
  · have hz1 : h1.1 = o + 1 := f1.1.trans hz
    obtain ⟨z2, e2, o2⟩ := m2
    rw [hz1] at z2 e2 o2 ⊢
    have e1' := (o2 o (by omega)).trans e1
    refine v_put fl_Row_13 e1' (Nat.le_of_ble_eq_true rfl) (fun r hr => by cases hr; exact Or.inr ⟨rfl, rfl, rfl⟩) rfl rfl k_Row_init_21 (fun h3 e3 f3 => ?_)
    refine v_return k_Row_init_24 rfl ?_
    refine ⟨rfl, f3.1.trans z2, ⟨_, e3, f3.at e2 (by omega), List.length_replicate, Nat.zero_le _, by omega, rfl⟩, fun q hq => ?_⟩
    rw [f3.2 q (by omega), o2 q (by omega), f1.2 q (by omega)]

set_option maxHeartbeats 4000000 in
set_option maxRecDepth 20000 in
theorem c_Tune_init (G : Gx) {h : AH} {o : Nat} (h0 : h.2 o = some (aO 5 [aN, aN, aN, aI 0])) (hz : h.1 = o + 1) : Ct G Y_Tune_init 2 6 69 [aR o] h (fun v h' => v = none ∧ h'.1 = o + 7 ∧ pTune h' o [] [] ∧ FrU o h h') := by
  refine Ct.of_V mo_Tune_init rfl (Nat.le_of_ble_eq_true rfl) rfl ?_
  have o0 := h0
  have u0 : FrU o h h := FrU.rf
  have z0 := hz
  refine v_aload_n k_Tune_init_0 rfl ?_
  refine v_objI lo_Tune_3 k_Tune_init_1 (Nat.le_of_ble_eq_true rfl) (Nat.le_of_ble_eq_true rfl) ?_
  refine v_aload_n k_Tune_init_4 rfl ?_
  refine v_nw (rc := 5) (rs := 67) (k := 3) (N := 2) (C := R_Row) (T := T_Row) (fs := [aN, aI 0]) rfl nc_Tune_9 ni_Row nz_Row (fun j hj => by rcases (show j = 0 ∨ j = 1 by omega) with rfl | rfl <;> rfl) k_Tune_init_5 (fun h1 m1 => ?_)
  have w1 := Mk.u m1 (Nat.le_of_eq z0.symm)
  obtain ⟨a1, b1, -⟩ := m1
  rw [z0] at a1 b1 ⊢
  have o0 := w1.at o0 (by omega)
  have u0 := u0.tr w1 (by omega)
  refine v_dup k_Tune_init_8 rfl ?_
  refine v_bipush k_Tune_init_9 (by decide) ?_
  refine v_callI (rc := 4) (rs := 54) (mc := 1) (ms := 13) mo_Row_init mi_Row_init rfl rfl lk_Tune_11 k_Tune_init_11 rfl (Nat.le_of_ble_eq_true rfl) rfl (Nat.le_of_ble_eq_true rfl) (c_Row_init G (n := 13) (by decide) b1 a1) (fun v1 g1 q1 => ?_)
  obtain ⟨rfl, z0, p1, x1⟩ := q1
  have o0 := x1.at o0 (by omega)
  have u0 := u0.tr x1 (by omega)
  refine v_put fl_Tune_14 o0 (Nat.le_of_ble_eq_true rfl) (fun r hr => by cases hr; exact Or.inr ⟨rfl, rfl, rfl⟩) rfl rfl k_Tune_init_14 (fun h2 e2 f2 => ?_)
  have o0 := e2
  have p1 := p1.fr f2 (by omega)
  have u0 := u0.tr (f2.u (Nat.le_refl _)) (by omega)
  have z0 := f2.1.trans z0
  refine v_aload_n k_Tune_init_17 rfl ?_
  refine v_nw (rc := 3) (rs := 52) (k := 3) (N := 2) (C := R_Row) (T := T_Row) (fs := [aN, aI 0]) rfl nc_Tune_9 ni_Row nz_Row (fun j hj => by rcases (show j = 0 ∨ j = 1 by omega) with rfl | rfl <;> rfl) k_Tune_init_18 (fun h3 m3 => ?_)
  have w3 := Mk.u m3 (Nat.le_of_eq z0.symm)
  obtain ⟨a3, b3, -⟩ := m3
  rw [z0] at a3 b3 ⊢
  have o0 := w3.at o0 (by omega)
  have p1 := p1.fu w3 (by omega)
  have u0 := u0.tr w3 (by omega)
  refine v_dup k_Tune_init_21 rfl ?_
  refine v_bipush k_Tune_init_22 (by decide) ?_
  refine v_callI (rc := 2) (rs := 39) (mc := 1) (ms := 13) mo_Row_init mi_Row_init rfl rfl lk_Tune_11 k_Tune_init_24 rfl (Nat.le_of_ble_eq_true rfl) rfl (Nat.le_of_ble_eq_true rfl) (c_Row_init G (n := 13) (by decide) b3 a3) (fun v3 g3 q3 => ?_)
  obtain ⟨rfl, z0, p3, x3⟩ := q3
  have o0 := x3.at o0 (by omega)
  have p1 := p1.fu x3 (by omega)
  have u0 := u0.tr x3 (by omega)
  refine v_put fl_Tune_20 o0 (Nat.le_of_ble_eq_true rfl) (fun r hr => by cases hr; exact Or.inr ⟨rfl, rfl, rfl⟩) rfl rfl k_Tune_init_27 (fun h4 e4 f4 => ?_)
  have o0 := e4
  have p1 := p1.fr f4 (by omega)
  have p3 := p3.fr f4 (by omega)
  have u0 := u0.tr (f4.u (Nat.le_refl _)) (by omega)
  have z0 := f4.1.trans z0
  refine v_aload_n k_Tune_init_30 rfl ?_
  refine v_nw (rc := 1) (rs := 37) (k := 3) (N := 2) (C := R_Row) (T := T_Row) (fs := [aN, aI 0]) rfl nc_Tune_9 ni_Row nz_Row (fun j hj => by rcases (show j = 0 ∨ j = 1 by omega) with rfl | rfl <;> rfl) k_Tune_init_31 (fun h5 m5 => ?_)
  have w5 := Mk.u m5 (Nat.le_of_eq z0.symm)
  obtain ⟨a5, b5, -⟩ := m5
  rw [z0] at a5 b5 ⊢
  have o0 := w5.at o0 (by omega)
  have p1 := p1.fu w5 (by omega)
  have p3 := p3.fu w5 (by omega)
  have u0 := u0.tr w5 (by omega)
  refine v_dup k_Tune_init_34 rfl ?_
  refine v_bipush k_Tune_init_35 (by decide) ?_
  refine v_callI (rc := 0) (rs := 0) (mc := 1) (ms := 37) mo_Row_init mi_Row_init rfl rfl lk_Tune_11 k_Tune_init_37 rfl (Nat.le_of_ble_eq_true rfl) rfl (Nat.le_of_ble_eq_true rfl) (c_Row_init G (n := 37) (by decide) b5 a5) (fun v5 g5 q5 => ?_)
  obtain ⟨rfl, z0, p5, x5⟩ := q5
  have o0 := x5.at o0 (by omega)
  have p1 := p1.fu x5 (by omega)
  have p3 := p3.fu x5 (by omega)
  have u0 := u0.tr x5 (by omega)
  refine v_put fl_Tune_23 o0 (Nat.le_of_ble_eq_true rfl) (fun r hr => by cases hr; exact Or.inr ⟨rfl, rfl, rfl⟩) rfl rfl k_Tune_init_40 (fun h6 e6 f6 => ?_)
  have o0 := e6
  have p1 := p1.fr f6 (by omega)
  have p3 := p3.fr f6 (by omega)
  have p5 := p5.fr f6 (by omega)
  have u0 := u0.tr (f6.u (Nat.le_refl _)) (by omega)
  have z0 := f6.1.trans z0
  refine v_aload_n k_Tune_init_43 rfl ?_
  refine v_iconst k_Tune_init_44 ?_
  refine v_put fl_Tune_26 o0 (Nat.le_of_ble_eq_true rfl) (fun r hr => by cases hr; exact Or.inl rfl) rfl rfl k_Tune_init_45 (fun h7 e7 f7 => ?_)
  have o0 := e7
  have p1 := p1.fr f7 (by omega)
  have p3 := p3.fr f7 (by omega)
  have p5 := p5.fr f7 (by omega)
  have u0 := u0.tr (f7.u (Nat.le_refl _)) (by omega)
  have z0 := f7.1.trans z0
  refine v_return k_Tune_init_48 rfl ?_
  exact ⟨rfl, z0, ⟨o0, p1, p3, p5⟩, u0⟩

/-- at first -/
def K0 : CK := ([], [], [], [], [], 1, 0, 53)
set_option maxHeartbeats 4000000 in
set_option maxRecDepth 20000 in
theorem c_Canon_init (G : Gx) {h : AH} {o : Nat} (h0 : h.2 o = some (aO 0 [aN, aN, aN, aN, aN, aN, aI 0, aI 0, aI 0])) (hz : h.1 = o + 1) : Ct G Y_Canon_init 3 17 118 [aR o] h (fun v h' => v = none ∧ h'.1 = o + 18 ∧ pCanon h' o K0 [] [] ∧ FrU o h h') := by
  refine Ct.of_V mo_Canon_init rfl (Nat.le_of_ble_eq_true rfl) rfl ?_
  have o0 := h0
  have u0 : FrU o h h := FrU.rf
  have z0 := hz
  refine v_aload_n k_Canon_init_0 rfl ?_
  refine v_objI lo_Canon_3 k_Canon_init_1 (Nat.le_of_ble_eq_true rfl) (Nat.le_of_ble_eq_true rfl) ?_
  refine v_aload_n k_Canon_init_4 rfl ?_
  refine v_nw (rc := 16) (rs := 114) (k := 5) (N := 4) (C := R_Tune) (T := T_Tune) (fs := [aN, aN, aN, aI 0]) rfl nc_Canon_9 ni_Tune nz_Tune (fun j hj => by rcases (show j = 0 ∨ j = 1 ∨ j = 2 ∨ j = 3 by omega) with rfl | rfl | rfl | rfl <;> rfl) k_Canon_init_5 (fun h1 m1 => ?_)
  have w1 := Mk.u m1 (Nat.le_of_eq z0.symm)
  obtain ⟨a1, b1, -⟩ := m1
  rw [z0] at a1 b1 ⊢
  have o0 := w1.at o0 (by omega)
  have u0 := u0.tr w1 (by omega)
  refine v_dup k_Canon_init_8 rfl ?_
  refine v_callI (rc := 10) (rs := 45) (mc := 6) (ms := 69) mo_Tune_init mi_Tune_init rfl rfl lk_Canon_11 k_Canon_init_9 rfl (Nat.le_of_ble_eq_true rfl) rfl (Nat.le_of_ble_eq_true rfl) (c_Tune_init G b1 a1) (fun v1 g1 q1 => ?_)
  obtain ⟨rfl, z0, p1, x1⟩ := q1
  have o0 := x1.at o0 (by omega)
  have u0 := u0.tr x1 (by omega)
  refine v_put fl_Canon_12 o0 (Nat.le_of_ble_eq_true rfl) (fun r hr => by cases hr; exact Or.inr ⟨rfl, rfl, rfl⟩) rfl rfl k_Canon_init_12 (fun h2 e2 f2 => ?_)
  have o0 := e2
  have p1 := p1.fr f2 (by omega)
  have u0 := u0.tr (f2.u (Nat.le_refl _)) (by omega)
  have z0 := f2.1.trans z0
  refine v_aload_n k_Canon_init_15 rfl ?_
  refine v_nw (rc := 9) (rs := 43) (k := 3) (N := 2) (C := R_Row) (T := T_Row) (fs := [aN, aI 0]) rfl nc_Canon_18 ni_Row nz_Row (fun j hj => by rcases (show j = 0 ∨ j = 1 by omega) with rfl | rfl <;> rfl) k_Canon_init_16 (fun h3 m3 => ?_)
  have w3 := Mk.u m3 (Nat.le_of_eq z0.symm)
  obtain ⟨a3, b3, -⟩ := m3
  rw [z0] at a3 b3 ⊢
  have o0 := w3.at o0 (by omega)
  have p1 := p1.fu w3 (by omega)
  have u0 := u0.tr w3 (by omega)
  refine v_dup k_Canon_init_19 rfl ?_
  refine v_bipush k_Canon_init_20 (by decide) ?_
  refine v_callI (rc := 8) (rs := 36) (mc := 1) (ms := 7) mo_Row_init mi_Row_init rfl rfl lk_Canon_20 k_Canon_init_22 rfl (Nat.le_of_ble_eq_true rfl) rfl (Nat.le_of_ble_eq_true rfl) (c_Row_init G (n := 7) (by decide) b3 a3) (fun v3 g3 q3 => ?_)
  obtain ⟨rfl, z0, p3, x3⟩ := q3
  have o0 := x3.at o0 (by omega)
  have p1 := p1.fu x3 (by omega)
  have u0 := u0.tr x3 (by omega)
  refine v_put fl_Canon_23 o0 (Nat.le_of_ble_eq_true rfl) (fun r hr => by cases hr; exact Or.inr ⟨rfl, rfl, rfl⟩) rfl rfl k_Canon_init_25 (fun h4 e4 f4 => ?_)
  have o0 := e4
  have p1 := p1.fr f4 (by omega)
  have p3 := p3.fr f4 (by omega)
  have u0 := u0.tr (f4.u (Nat.le_refl _)) (by omega)
  have z0 := f4.1.trans z0
  refine v_aload_n k_Canon_init_28 rfl ?_
  refine v_nw (rc := 7) (rs := 34) (k := 3) (N := 2) (C := R_Row) (T := T_Row) (fs := [aN, aI 0]) rfl nc_Canon_18 ni_Row nz_Row (fun j hj => by rcases (show j = 0 ∨ j = 1 by omega) with rfl | rfl <;> rfl) k_Canon_init_29 (fun h5 m5 => ?_)
  have w5 := Mk.u m5 (Nat.le_of_eq z0.symm)
  obtain ⟨a5, b5, -⟩ := m5
  rw [z0] at a5 b5 ⊢
  have o0 := w5.at o0 (by omega)
  have p1 := p1.fu w5 (by omega)
  have p3 := p3.fu w5 (by omega)
  have u0 := u0.tr w5 (by omega)
  refine v_dup k_Canon_init_32 rfl ?_
  refine v_bipush k_Canon_init_33 (by decide) ?_
  refine v_callI (rc := 6) (rs := 27) (mc := 1) (ms := 7) mo_Row_init mi_Row_init rfl rfl lk_Canon_20 k_Canon_init_35 rfl (Nat.le_of_ble_eq_true rfl) rfl (Nat.le_of_ble_eq_true rfl) (c_Row_init G (n := 7) (by decide) b5 a5) (fun v5 g5 q5 => ?_)
  obtain ⟨rfl, z0, p5, x5⟩ := q5
  have o0 := x5.at o0 (by omega)
  have p1 := p1.fu x5 (by omega)
  have p3 := p3.fu x5 (by omega)
  have u0 := u0.tr x5 (by omega)
  refine v_put fl_Canon_27 o0 (Nat.le_of_ble_eq_true rfl) (fun r hr => by cases hr; exact Or.inr ⟨rfl, rfl, rfl⟩) rfl rfl k_Canon_init_38 (fun h6 e6 f6 => ?_)
  have o0 := e6
  have p1 := p1.fr f6 (by omega)
  have p3 := p3.fr f6 (by omega)
  have p5 := p5.fr f6 (by omega)
  have u0 := u0.tr (f6.u (Nat.le_refl _)) (by omega)
  have z0 := f6.1.trans z0
  refine v_aload_n k_Canon_init_41 rfl ?_
  refine v_nw (rc := 5) (rs := 25) (k := 3) (N := 2) (C := R_Row) (T := T_Row) (fs := [aN, aI 0]) rfl nc_Canon_18 ni_Row nz_Row (fun j hj => by rcases (show j = 0 ∨ j = 1 by omega) with rfl | rfl <;> rfl) k_Canon_init_42 (fun h7 m7 => ?_)
  have w7 := Mk.u m7 (Nat.le_of_eq z0.symm)
  obtain ⟨a7, b7, -⟩ := m7
  rw [z0] at a7 b7 ⊢
  have o0 := w7.at o0 (by omega)
  have p1 := p1.fu w7 (by omega)
  have p3 := p3.fu w7 (by omega)
  have p5 := p5.fu w7 (by omega)
  have u0 := u0.tr w7 (by omega)
  refine v_dup k_Canon_init_45 rfl ?_
  refine v_bipush k_Canon_init_46 (by decide) ?_
  refine v_callI (rc := 4) (rs := 18) (mc := 1) (ms := 7) mo_Row_init mi_Row_init rfl rfl lk_Canon_20 k_Canon_init_48 rfl (Nat.le_of_ble_eq_true rfl) rfl (Nat.le_of_ble_eq_true rfl) (c_Row_init G (n := 7) (by decide) b7 a7) (fun v7 g7 q7 => ?_)
  obtain ⟨rfl, z0, p7, x7⟩ := q7
  have o0 := x7.at o0 (by omega)
  have p1 := p1.fu x7 (by omega)
  have p3 := p3.fu x7 (by omega)
  have p5 := p5.fu x7 (by omega)
  have u0 := u0.tr x7 (by omega)
  refine v_put fl_Canon_30 o0 (Nat.le_of_ble_eq_true rfl) (fun r hr => by cases hr; exact Or.inr ⟨rfl, rfl, rfl⟩) rfl rfl k_Canon_init_51 (fun h8 e8 f8 => ?_)
  have o0 := e8
  have p1 := p1.fr f8 (by omega)
  have p3 := p3.fr f8 (by omega)
  have p5 := p5.fr f8 (by omega)
  have p7 := p7.fr f8 (by omega)
  have u0 := u0.tr (f8.u (Nat.le_refl _)) (by omega)
  have z0 := f8.1.trans z0
  refine v_aload_n k_Canon_init_54 rfl ?_
  refine v_nw (rc := 3) (rs := 16) (k := 3) (N := 2) (C := R_Row) (T := T_Row) (fs := [aN, aI 0]) rfl nc_Canon_18 ni_Row nz_Row (fun j hj => by rcases (show j = 0 ∨ j = 1 by omega) with rfl | rfl <;> rfl) k_Canon_init_55 (fun h9 m9 => ?_)
  have w9 := Mk.u m9 (Nat.le_of_eq z0.symm)
  obtain ⟨a9, b9, -⟩ := m9
  rw [z0] at a9 b9 ⊢
  have o0 := w9.at o0 (by omega)
  have p1 := p1.fu w9 (by omega)
  have p3 := p3.fu w9 (by omega)
  have p5 := p5.fu w9 (by omega)
  have p7 := p7.fu w9 (by omega)
  have u0 := u0.tr w9 (by omega)
  refine v_dup k_Canon_init_58 rfl ?_
  refine v_bipush k_Canon_init_59 (by decide) ?_
  refine v_callI (rc := 2) (rs := 9) (mc := 1) (ms := 7) mo_Row_init mi_Row_init rfl rfl lk_Canon_20 k_Canon_init_61 rfl (Nat.le_of_ble_eq_true rfl) rfl (Nat.le_of_ble_eq_true rfl) (c_Row_init G (n := 7) (by decide) b9 a9) (fun v9 g9 q9 => ?_)
  obtain ⟨rfl, z0, p9, x9⟩ := q9
  have o0 := x9.at o0 (by omega)
  have p1 := p1.fu x9 (by omega)
  have p3 := p3.fu x9 (by omega)
  have p5 := p5.fu x9 (by omega)
  have p7 := p7.fu x9 (by omega)
  have u0 := u0.tr x9 (by omega)
  refine v_put fl_Canon_33 o0 (Nat.le_of_ble_eq_true rfl) (fun r hr => by cases hr; exact Or.inr ⟨rfl, rfl, rfl⟩) rfl rfl k_Canon_init_64 (fun h10 e10 f10 => ?_)
  have o0 := e10
  have p1 := p1.fr f10 (by omega)
  have p3 := p3.fr f10 (by omega)
  have p5 := p5.fr f10 (by omega)
  have p7 := p7.fr f10 (by omega)
  have p9 := p9.fr f10 (by omega)
  have u0 := u0.tr (f10.u (Nat.le_refl _)) (by omega)
  have z0 := f10.1.trans z0
  refine v_aload_n k_Canon_init_67 rfl ?_
  refine v_nw (rc := 1) (rs := 7) (k := 3) (N := 2) (C := R_Row) (T := T_Row) (fs := [aN, aI 0]) rfl nc_Canon_18 ni_Row nz_Row (fun j hj => by rcases (show j = 0 ∨ j = 1 by omega) with rfl | rfl <;> rfl) k_Canon_init_68 (fun h11 m11 => ?_)
  have w11 := Mk.u m11 (Nat.le_of_eq z0.symm)
  obtain ⟨a11, b11, -⟩ := m11
  rw [z0] at a11 b11 ⊢
  have o0 := w11.at o0 (by omega)
  have p1 := p1.fu w11 (by omega)
  have p3 := p3.fu w11 (by omega)
  have p5 := p5.fu w11 (by omega)
  have p7 := p7.fu w11 (by omega)
  have p9 := p9.fu w11 (by omega)
  have u0 := u0.tr w11 (by omega)
  refine v_dup k_Canon_init_71 rfl ?_
  refine v_bipush k_Canon_init_72 (by decide) ?_
  refine v_callI (rc := 0) (rs := 0) (mc := 1) (ms := 7) mo_Row_init mi_Row_init rfl rfl lk_Canon_20 k_Canon_init_74 rfl (Nat.le_of_ble_eq_true rfl) rfl (Nat.le_of_ble_eq_true rfl) (c_Row_init G (n := 7) (by decide) b11 a11) (fun v11 g11 q11 => ?_)
  obtain ⟨rfl, z0, p11, x11⟩ := q11
  have o0 := x11.at o0 (by omega)
  have p1 := p1.fu x11 (by omega)
  have p3 := p3.fu x11 (by omega)
  have p5 := p5.fu x11 (by omega)
  have p7 := p7.fu x11 (by omega)
  have p9 := p9.fu x11 (by omega)
  have u0 := u0.tr x11 (by omega)
  refine v_put fl_Canon_36 o0 (Nat.le_of_ble_eq_true rfl) (fun r hr => by cases hr; exact Or.inr ⟨rfl, rfl, rfl⟩) rfl rfl k_Canon_init_77 (fun h12 e12 f12 => ?_)
  have o0 := e12
  have p1 := p1.fr f12 (by omega)
  have p3 := p3.fr f12 (by omega)
  have p5 := p5.fr f12 (by omega)
  have p7 := p7.fr f12 (by omega)
  have p9 := p9.fr f12 (by omega)
  have p11 := p11.fr f12 (by omega)
  have u0 := u0.tr (f12.u (Nat.le_refl _)) (by omega)
  have z0 := f12.1.trans z0
  refine v_aload_n k_Canon_init_80 rfl ?_
  refine v_iconst k_Canon_init_81 ?_
  refine v_put fl_Canon_39 o0 (Nat.le_of_ble_eq_true rfl) (fun r hr => by cases hr; exact Or.inl rfl) rfl rfl k_Canon_init_82 (fun h13 e13 f13 => ?_)
  have o0 := e13
  have p1 := p1.fr f13 (by omega)
  have p3 := p3.fr f13 (by omega)
  have p5 := p5.fr f13 (by omega)
  have p7 := p7.fr f13 (by omega)
  have p9 := p9.fr f13 (by omega)
  have p11 := p11.fr f13 (by omega)
  have u0 := u0.tr (f13.u (Nat.le_refl _)) (by omega)
  have z0 := f13.1.trans z0
  refine v_aload_n k_Canon_init_85 rfl ?_
  refine v_iconst k_Canon_init_86 ?_
  refine v_put fl_Canon_43 o0 (Nat.le_of_ble_eq_true rfl) (fun r hr => by cases hr; exact Or.inl rfl) rfl rfl k_Canon_init_87 (fun h14 e14 f14 => ?_)
  have o0 := e14
  have p1 := p1.fr f14 (by omega)
  have p3 := p3.fr f14 (by omega)
  have p5 := p5.fr f14 (by omega)
  have p7 := p7.fr f14 (by omega)
  have p9 := p9.fr f14 (by omega)
  have p11 := p11.fr f14 (by omega)
  have u0 := u0.tr (f14.u (Nat.le_refl _)) (by omega)
  have z0 := f14.1.trans z0
  refine v_aload_n k_Canon_init_90 rfl ?_
  refine v_bipush k_Canon_init_91 (by decide) ?_
  refine v_put fl_Canon_46 o0 (Nat.le_of_ble_eq_true rfl) (fun r hr => by cases hr; exact Or.inl rfl) rfl rfl k_Canon_init_93 (fun h15 e15 f15 => ?_)
  have o0 := e15
  have p1 := p1.fr f15 (by omega)
  have p3 := p3.fr f15 (by omega)
  have p5 := p5.fr f15 (by omega)
  have p7 := p7.fr f15 (by omega)
  have p9 := p9.fr f15 (by omega)
  have p11 := p11.fr f15 (by omega)
  have u0 := u0.tr (f15.u (Nat.le_refl _)) (by omega)
  have z0 := f15.1.trans z0
  refine v_return k_Canon_init_96 rfl ?_
  exact ⟨rfl, z0, ⟨o0, p1, p3, p5, p7, p9, p11⟩, u0⟩

set_option maxHeartbeats 4000000 in
set_option maxRecDepth 20000 in
theorem c_Meetings_init (G : Gx) {h : AH} {o : Nat} (h0 : h.2 o = some (aO 1 [aN, aN])) (hz : h.1 = o + 1) : Ct G Y_Meetings_init 2 4 2344 [aR o] h (fun v h' => v = none ∧ h'.1 = o + 5 ∧ pMeet h' o [] [] ∧ FrU o h h') := by
  refine Ct.of_V mo_Meetings_init rfl (Nat.le_of_ble_eq_true rfl) rfl ?_
  have o0 := h0
  have u0 : FrU o h h := FrU.rf
  have z0 := hz
  refine v_aload_n k_Meetings_init_0 rfl ?_
  refine v_objI lo_Meetings_3 k_Meetings_init_1 (Nat.le_of_ble_eq_true rfl) (Nat.le_of_ble_eq_true rfl) ?_
  refine v_aload_n k_Meetings_init_4 rfl ?_
  refine v_nw (rc := 3) (rs := 2342) (k := 3) (N := 2) (C := R_Row) (T := T_Row) (fs := [aN, aI 0]) rfl nc_Meetings_9 ni_Row nz_Row (fun j hj => by rcases (show j = 0 ∨ j = 1 by omega) with rfl | rfl <;> rfl) k_Meetings_init_5 (fun h1 m1 => ?_)
  have w1 := Mk.u m1 (Nat.le_of_eq z0.symm)
  obtain ⟨a1, b1, -⟩ := m1
  rw [z0] at a1 b1 ⊢
  have o0 := w1.at o0 (by omega)
  have u0 := u0.tr w1 (by omega)
  refine v_dup k_Meetings_init_8 rfl ?_
  refine v_sipush k_Meetings_init_9 (by decide) ?_
  refine v_callI (rc := 2) (rs := 1172) (mc := 1) (ms := 1170) mo_Row_init mi_Row_init rfl rfl lk_Meetings_11 k_Meetings_init_12 rfl (Nat.le_of_ble_eq_true rfl) rfl (Nat.le_of_ble_eq_true rfl) (c_Row_init G (n := 1170) (by decide) b1 a1) (fun v1 g1 q1 => ?_)
  obtain ⟨rfl, z0, p1, x1⟩ := q1
  have o0 := x1.at o0 (by omega)
  have u0 := u0.tr x1 (by omega)
  refine v_put fl_Meetings_14 o0 (Nat.le_of_ble_eq_true rfl) (fun r hr => by cases hr; exact Or.inr ⟨rfl, rfl, rfl⟩) rfl rfl k_Meetings_init_15 (fun h2 e2 f2 => ?_)
  have o0 := e2
  have p1 := p1.fr f2 (by omega)
  have u0 := u0.tr (f2.u (Nat.le_refl _)) (by omega)
  have z0 := f2.1.trans z0
  refine v_aload_n k_Meetings_init_18 rfl ?_
  refine v_nw (rc := 1) (rs := 1170) (k := 3) (N := 2) (C := R_Row) (T := T_Row) (fs := [aN, aI 0]) rfl nc_Meetings_9 ni_Row nz_Row (fun j hj => by rcases (show j = 0 ∨ j = 1 by omega) with rfl | rfl <;> rfl) k_Meetings_init_19 (fun h3 m3 => ?_)
  have w3 := Mk.u m3 (Nat.le_of_eq z0.symm)
  obtain ⟨a3, b3, -⟩ := m3
  rw [z0] at a3 b3 ⊢
  have o0 := w3.at o0 (by omega)
  have p1 := p1.fu w3 (by omega)
  have u0 := u0.tr w3 (by omega)
  refine v_dup k_Meetings_init_22 rfl ?_
  refine v_sipush k_Meetings_init_23 (by decide) ?_
  refine v_callI (rc := 0) (rs := 0) (mc := 1) (ms := 1170) mo_Row_init mi_Row_init rfl rfl lk_Meetings_11 k_Meetings_init_26 rfl (Nat.le_of_ble_eq_true rfl) rfl (Nat.le_of_ble_eq_true rfl) (c_Row_init G (n := 1170) (by decide) b3 a3) (fun v3 g3 q3 => ?_)
  obtain ⟨rfl, z0, p3, x3⟩ := q3
  have o0 := x3.at o0 (by omega)
  have p1 := p1.fu x3 (by omega)
  have u0 := u0.tr x3 (by omega)
  refine v_put fl_Meetings_20 o0 (Nat.le_of_ble_eq_true rfl) (fun r hr => by cases hr; exact Or.inr ⟨rfl, rfl, rfl⟩) rfl rfl k_Meetings_init_29 (fun h4 e4 f4 => ?_)
  have o0 := e4
  have p1 := p1.fr f4 (by omega)
  have p3 := p3.fr f4 (by omega)
  have u0 := u0.tr (f4.u (Nat.le_refl _)) (by omega)
  have z0 := f4.1.trans z0
  refine v_return k_Meetings_init_32 rfl ?_
  exact ⟨rfl, z0, ⟨o0, p1, p3⟩, u0⟩

set_option maxHeartbeats 4000000 in
set_option maxRecDepth 20000 in
theorem c_Mind_init (G : Gx) {h : AH} {o : Nat} (h0 : h.2 o = some (aO 2 [aN, aN, aN])) (hz : h.1 = o + 1) : Ct G Y_Mind_init 4 25 2487 [aR o] h (fun v h' => v = none ∧ h'.1 = o + 26 ∧ pMind h' o K0 [] [] [] [] [] ∧ FrU o h h') := by
  refine Ct.of_V mo_Mind_init rfl (Nat.le_of_ble_eq_true rfl) rfl ?_
  have o0 := h0
  have u0 : FrU o h h := FrU.rf
  have z0 := hz
  refine v_aload_n k_Mind_init_0 rfl ?_
  refine v_objI lo_Mind_3 k_Mind_init_1 (Nat.le_of_ble_eq_true rfl) (Nat.le_of_ble_eq_true rfl) ?_
  refine v_aload_n k_Mind_init_4 rfl ?_
  refine v_nw (rc := 24) (rs := 2478) (k := 0) (N := 9) (C := R_Canon) (T := T_Canon) (fs := [aN, aN, aN, aN, aN, aN, aI 0, aI 0, aI 0]) rfl nc_Mind_9 ni_Canon nz_Canon (fun j hj => by rcases (show j = 0 ∨ j = 1 ∨ j = 2 ∨ j = 3 ∨ j = 4 ∨ j = 5 ∨ j = 6 ∨ j = 7 ∨ j = 8 by omega) with rfl | rfl | rfl | rfl | rfl | rfl | rfl | rfl | rfl <;> rfl) k_Mind_init_5 (fun h1 m1 => ?_)
  have w1 := Mk.u m1 (Nat.le_of_eq z0.symm)
  obtain ⟨a1, b1, -⟩ := m1
  rw [z0] at a1 b1 ⊢
  have o0 := w1.at o0 (by omega)
  have u0 := u0.tr w1 (by omega)
  refine v_dup k_Mind_init_8 rfl ?_
  refine v_callI (rc := 7) (rs := 2360) (mc := 17) (ms := 118) mo_Canon_init mi_Canon_init rfl rfl lk_Mind_11 k_Mind_init_9 rfl (Nat.le_of_ble_eq_true rfl) rfl (Nat.le_of_ble_eq_true rfl) (c_Canon_init G b1 a1) (fun v1 g1 q1 => ?_)
  obtain ⟨rfl, z0, p1, x1⟩ := q1
  have o0 := x1.at o0 (by omega)
  have u0 := u0.tr x1 (by omega)
  refine v_put fl_Mind_12 o0 (Nat.le_of_ble_eq_true rfl) (fun r hr => by cases hr; exact Or.inr ⟨rfl, rfl, rfl⟩) rfl rfl k_Mind_init_12 (fun h2 e2 f2 => ?_)
  have o0 := e2
  have p1 := p1.fr f2 (by omega)
  have u0 := u0.tr (f2.u (Nat.le_refl _)) (by omega)
  have z0 := f2.1.trans z0
  refine v_aload_n k_Mind_init_15 rfl ?_
  refine v_nw (rc := 6) (rs := 2358) (k := 1) (N := 2) (C := R_Meetings) (T := T_Meetings) (fs := [aN, aN]) rfl nc_Mind_18 ni_Meetings nz_Meetings (fun j hj => by rcases (show j = 0 ∨ j = 1 by omega) with rfl | rfl <;> rfl) k_Mind_init_16 (fun h3 m3 => ?_)
  have w3 := Mk.u m3 (Nat.le_of_eq z0.symm)
  obtain ⟨a3, b3, -⟩ := m3
  rw [z0] at a3 b3 ⊢
  have o0 := w3.at o0 (by omega)
  have p1 := p1.fu w3 (by omega)
  have u0 := u0.tr w3 (by omega)
  refine v_dup k_Mind_init_19 rfl ?_
  refine v_callI (rc := 2) (rs := 14) (mc := 4) (ms := 2344) mo_Meetings_init mi_Meetings_init rfl rfl lk_Mind_20 k_Mind_init_20 rfl (Nat.le_of_ble_eq_true rfl) rfl (Nat.le_of_ble_eq_true rfl) (c_Meetings_init G b3 a3) (fun v3 g3 q3 => ?_)
  obtain ⟨rfl, z0, p3, x3⟩ := q3
  have o0 := x3.at o0 (by omega)
  have p1 := p1.fu x3 (by omega)
  have u0 := u0.tr x3 (by omega)
  refine v_put fl_Mind_21 o0 (Nat.le_of_ble_eq_true rfl) (fun r hr => by cases hr; exact Or.inr ⟨rfl, rfl, rfl⟩) rfl rfl k_Mind_init_23 (fun h4 e4 f4 => ?_)
  have o0 := e4
  have p1 := p1.fr f4 (by omega)
  have p3 := p3.fr f4 (by omega)
  have u0 := u0.tr (f4.u (Nat.le_refl _)) (by omega)
  have z0 := f4.1.trans z0
  refine v_aload_n k_Mind_init_26 rfl ?_
  refine v_nw (rc := 1) (rs := 12) (k := 3) (N := 2) (C := R_Row) (T := T_Row) (fs := [aN, aI 0]) rfl nc_Mind_25 ni_Row nz_Row (fun j hj => by rcases (show j = 0 ∨ j = 1 by omega) with rfl | rfl <;> rfl) k_Mind_init_27 (fun h5 m5 => ?_)
  have w5 := Mk.u m5 (Nat.le_of_eq z0.symm)
  obtain ⟨a5, b5, -⟩ := m5
  rw [z0] at a5 b5 ⊢
  have o0 := w5.at o0 (by omega)
  have p1 := p1.fu w5 (by omega)
  have p3 := p3.fu w5 (by omega)
  have u0 := u0.tr w5 (by omega)
  refine v_dup k_Mind_init_30 rfl ?_
  refine v_bipush k_Mind_init_31 (by decide) ?_
  refine v_callI (rc := 0) (rs := 0) (mc := 1) (ms := 12) mo_Row_init mi_Row_init rfl rfl lk_Mind_27 k_Mind_init_33 rfl (Nat.le_of_ble_eq_true rfl) rfl (Nat.le_of_ble_eq_true rfl) (c_Row_init G (n := 12) (by decide) b5 a5) (fun v5 g5 q5 => ?_)
  obtain ⟨rfl, z0, p5, x5⟩ := q5
  have o0 := x5.at o0 (by omega)
  have p1 := p1.fu x5 (by omega)
  have p3 := p3.fu x5 (by omega)
  have u0 := u0.tr x5 (by omega)
  refine v_put fl_Mind_30 o0 (Nat.le_of_ble_eq_true rfl) (fun r hr => by cases hr; exact Or.inr ⟨rfl, rfl, rfl⟩) rfl rfl k_Mind_init_36 (fun h6 e6 f6 => ?_)
  have o0 := e6
  have p1 := p1.fr f6 (by omega)
  have p3 := p3.fr f6 (by omega)
  have p5 := p5.fr f6 (by omega)
  have u0 := u0.tr (f6.u (Nat.le_refl _)) (by omega)
  have z0 := f6.1.trans z0
  refine v_return k_Mind_init_39 rfl ?_
  exact ⟨rfl, z0, ⟨o0, p1, p3, p5⟩, u0⟩

set_option maxHeartbeats 4000000 in
set_option maxRecDepth 20000 in
theorem c_Walks_init (G : Gx) {h : AH} {o : Nat} (h0 : h.2 o = some (aO 6 [aN, aN])) (hz : h.1 = o + 1) : Ct G Y_Walks_init 1 2 14 [aR o] h (fun v h' => v = none ∧ h'.1 = o + 3 ∧ pWalks h' o (List.replicate 7 0) (List.replicate 7 0) ∧ FrU o h h') := by
  refine Ct.of_V mo_Walks_init rfl (Nat.le_of_ble_eq_true rfl) rfl ?_
  have o0 := h0
  have u0 : FrU o h h := FrU.rf
  have z0 := hz
  refine v_aload_n k_Walks_init_0 rfl ?_
  refine v_objI lo_Walks_3 k_Walks_init_1 (Nat.le_of_ble_eq_true rfl) (Nat.le_of_ble_eq_true rfl) ?_
  refine v_aload_n k_Walks_init_4 rfl ?_
  refine v_bipush k_Walks_init_5 (by decide) ?_
  refine v_nwa (rc := 1) (rs := 7) (t := 1) (n := 7) (aty0 := .long) (by decide) rfl ac_long (by decide) k_Walks_init_7 (fun h1 m1 => ?_)
  have w1 := Mk.u m1 (Nat.le_of_eq z0.symm)
  obtain ⟨a1, b1, -⟩ := m1
  rw [z0] at a1 b1 ⊢
  have o0 := w1.at o0 (by omega)
  have u0 := u0.tr w1 (by omega)
  have z0 := a1
  refine v_put fl_Walks_9 o0 (Nat.le_of_ble_eq_true rfl) (fun r hr => by cases hr; exact Or.inr ⟨rfl, rfl, rfl⟩) rfl rfl k_Walks_init_9 (fun h2 e2 f2 => ?_)
  have o0 := e2
  have b1 := f2.at b1 (by omega)
  have u0 := u0.tr (f2.u (Nat.le_refl _)) (by omega)
  have z0 := f2.1.trans z0
  refine v_aload_n k_Walks_init_12 rfl ?_
  refine v_bipush k_Walks_init_13 (by decide) ?_
  refine v_nwa (rc := 0) (rs := 0) (t := 1) (n := 7) (aty0 := .long) (by decide) rfl ac_long (by decide) k_Walks_init_15 (fun h3 m3 => ?_)
  have w3 := Mk.u m3 (Nat.le_of_eq z0.symm)
  obtain ⟨a3, b3, -⟩ := m3
  rw [z0] at a3 b3 ⊢
  have o0 := w3.at o0 (by omega)
  have b1 := w3.at b1 (by omega)
  have u0 := u0.tr w3 (by omega)
  have z0 := a3
  refine v_put fl_Walks_15 o0 (Nat.le_of_ble_eq_true rfl) (fun r hr => by cases hr; exact Or.inr ⟨rfl, rfl, rfl⟩) rfl rfl k_Walks_init_17 (fun h4 e4 f4 => ?_)
  have o0 := e4
  have b1 := f4.at b1 (by omega)
  have b3 := f4.at b3 (by omega)
  have u0 := u0.tr (f4.u (Nat.le_refl _)) (by omega)
  have z0 := f4.1.trans z0
  refine v_return k_Walks_init_20 rfl ?_
  exact ⟨rfl, z0, ⟨o0, b1, b3, rfl, rfl⟩, u0⟩

set_option maxHeartbeats 4000000 in
set_option maxRecDepth 20000 in
theorem c_Text_init (G : Gx) {h : AH} {o : Nat} (h0 : h.2 o = some (aO 4 [aN])) (hz : h.1 = o + 1) : Ct G Y_Text_init 2 2 82 [aR o] h (fun v h' => v = none ∧ h'.1 = o + 3 ∧ pText h' o [] ∧ FrU o h h') := by
  refine Ct.of_V mo_Text_init rfl (Nat.le_of_ble_eq_true rfl) rfl ?_
  have o0 := h0
  have u0 : FrU o h h := FrU.rf
  have z0 := hz
  refine v_aload_n k_Text_init_0 rfl ?_
  refine v_objI lo_Text_3 k_Text_init_1 (Nat.le_of_ble_eq_true rfl) (Nat.le_of_ble_eq_true rfl) ?_
  refine v_aload_n k_Text_init_4 rfl ?_
  refine v_nw (rc := 1) (rs := 80) (k := 3) (N := 2) (C := R_Row) (T := T_Row) (fs := [aN, aI 0]) rfl nc_Text_9 ni_Row nz_Row (fun j hj => by rcases (show j = 0 ∨ j = 1 by omega) with rfl | rfl <;> rfl) k_Text_init_5 (fun h1 m1 => ?_)
  have w1 := Mk.u m1 (Nat.le_of_eq z0.symm)
  obtain ⟨a1, b1, -⟩ := m1
  rw [z0] at a1 b1 ⊢
  have o0 := w1.at o0 (by omega)
  have u0 := u0.tr w1 (by omega)
  refine v_dup k_Text_init_8 rfl ?_
  refine v_bipush k_Text_init_9 (by decide) ?_
  refine v_callI (rc := 0) (rs := 0) (mc := 1) (ms := 80) mo_Row_init mi_Row_init rfl rfl lk_Text_11 k_Text_init_11 rfl (Nat.le_of_ble_eq_true rfl) rfl (Nat.le_of_ble_eq_true rfl) (c_Row_init G (n := 80) (by decide) b1 a1) (fun v1 g1 q1 => ?_)
  obtain ⟨rfl, z0, p1, x1⟩ := q1
  have o0 := x1.at o0 (by omega)
  have u0 := u0.tr x1 (by omega)
  refine v_put fl_Text_14 o0 (Nat.le_of_ble_eq_true rfl) (fun r hr => by cases hr; exact Or.inr ⟨rfl, rfl, rfl⟩) rfl rfl k_Text_init_14 (fun h2 e2 f2 => ?_)
  have o0 := e2
  have p1 := p1.fr f2 (by omega)
  have u0 := u0.tr (f2.u (Nat.le_refl _)) (by omega)
  have z0 := f2.1.trans z0
  refine v_return k_Text_init_17 rfl ?_
  exact ⟨rfl, z0, ⟨o0, p1⟩, u0⟩
