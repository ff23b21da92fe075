/-! stores that name the new heap; frames of the heap -/
section VS
variable {G : Gx} {Y : Yx} {d rc rs pc : Nat} {ls : List (Option AV)} {st : List AV} {h : AH} {F : Option AV → AH → Prop}
def Fr (lo hi : Nat) (h h' : AH) : Prop := h'.1 = h.1 ∧ ∀ q, (q < lo ∨ hi ≤ q) → h'.2 q = h.2 q
theorem Fr.rf {lo hi : Nat} {h : AH} : Fr lo hi h h := ⟨rfl, fun _ _ => rfl⟩
theorem Fr.tr {lo hi lo1 hi1 : Nat} {h h1 h2 : AH} (a : Fr lo hi h h1) (b : Fr lo1 hi1 h1 h2) (hl : lo ≤ lo1) (hh : hi1 ≤ hi) : Fr lo hi h h2 :=
  ⟨b.1.trans a.1, fun q hq => (b.2 q (by omega)).trans (a.2 q hq)⟩
theorem Fr.wd {lo hi lo1 hi1 : Nat} {h h1 : AH} (b : Fr lo1 hi1 h h1) (hl : lo ≤ lo1) (hh : hi1 ≤ hi) : Fr lo hi h h1 := Fr.tr Fr.rf b hl hh
theorem Fr.at {lo hi a : Nat} {x : Option AC} {h h1 : AH} (b : Fr lo hi h h1) (hx : h.2 a = x) (ha : a < lo ∨ hi ≤ a) : h1.2 a = x := (b.2 a ha).trans hx
theorem upA_fr (h : AH) (a : Nat) (c : AC) : Fr a (a + 1) h (upA h a c) := ⟨rfl, fun q hq => by simp [upA, show ¬ q = a by omega]⟩
theorem upA_at (h : AH) (a : Nat) (c : AC) : (upA h a c).2 a = some c := by simp [upA]
theorem v_put {a idx k j : Nat} {fs : List AV} {v : AV} (hl : FL Y.1.cls idx k j) (hh : h.2 a = some (aO k fs)) (hj : j < fs.length)
    (hfin : ∀ r : vw_C, cl[k]? = some r → ((r.2.1 j).2.2.2 = false ∨ ((r.2.1 j).2.2.2 = true ∧ Y.1.name = "<init>" ∧ (r.2.1 j).1 = Y.1.cls))) (hn : narrow (tyA k j) (cv G v) = cv G v) (hv : fits (tyA k j) (cv G v) = true) (hd : decode Y.2.1 pc = .ok (.putfield idx, 3))
    (K : ∀ h', h'.2 a = some (aO k (fs.set j v)) → Fr a (a + 1) h h' → V G Y d rc rs (pc + 3) ls st h' F) : V G Y d rc rs pc ls (v :: aR a :: st) h F :=
  v_putf hl hh hj hfin hn hv hd (K _ (upA_at _ _ _) (upA_fr _ _ _))
theorem v_ist {a : Nat} {i x : Int} {xs : List Int} (hh : h.2 a = some (aA 0 xs)) (hi : 0 ≤ i ∧ i < xs.length) (hz : xs.length ≤ 100000) (hd : decode Y.2.1 pc = .ok (.iastore, 1)) (K : ∀ h', h'.2 a = some (aA 0 (xs.set i.toNat x)) → Fr a (a + 1) h h' → V G Y d rc rs (pc + 1) ls st h' F) : V G Y d rc rs pc ls (aI x :: aI i :: aR a :: st) h F :=
  v_iast hh hi hz hd (K _ (upA_at _ _ _) (upA_fr _ _ _))
theorem v_lst {a : Nat} {i x : Int} {xs : List Int} (hh : h.2 a = some (aA 1 xs)) (hi : 0 ≤ i ∧ i < xs.length) (hz : xs.length ≤ 100000) (hd : decode Y.2.1 pc = .ok (.lastore, 1)) (K : ∀ h', h'.2 a = some (aA 1 (xs.set i.toNat x)) → Fr a (a + 1) h h' → V G Y d rc rs (pc + 1) ls st h' F) : V G Y d rc rs pc ls (aJ x :: aI i :: aR a :: st) h F :=
  v_last hh hi hz hd (K _ (upA_at _ _ _) (upA_fr _ _ _))
theorem v_cst {a : Nat} {i x : Int} {xs : List Int} (hh : h.2 a = some (aA 2 xs)) (hi : 0 ≤ i ∧ i < xs.length) (hz : xs.length ≤ 100000) (hn : narrow .char (.int (Int32.ofInt x)) = .int (Int32.ofInt x)) (hd : decode Y.2.1 pc = .ok (.castore, 1)) (K : ∀ h', h'.2 a = some (aA 2 (xs.set i.toNat x)) → Fr a (a + 1) h h' → V G Y d rc rs (pc + 1) ls st h' F) : V G Y d rc rs pc ls (aI x :: aI i :: aR a :: st) h F :=
  v_cast hh hi hz hn hd (K _ (upA_at _ _ _) (upA_fr _ _ _))
/-- a new cell: all that was stays -/
def Mk (h h' : AH) (c : AC) : Prop := h'.1 = h.1 + 1 ∧ h'.2 h.1 = some c ∧ ∀ q, q ≠ h.1 → h'.2 q = h.2 q
theorem psA_mk (h : AH) (c : AC) : Mk h (psA h c) c := ⟨rfl, by simp [psA], fun q hq => by simp [psA, hq]⟩
theorem v_nw {idx k N : Nat} {C : String} {T : u_T} {fs : List AV} (hk : cl[k]? = some (C, T, N)) (hcl : Cond.classLink Y.1.cls idx C ∈ wsAll) (hins : Cond.instantiable C N ∈ wsAll) (hini : Cond.initialized C ∈ wsAll)
    (hfs : ∀ j, j < N → defaultValue (tyA k j) = vp_V (cS G fs) j) (hd : decode Y.2.1 pc = .ok (.new idx, 3)) (K : ∀ h', Mk h h' (aO k fs) → V G Y d rc rs (pc + 3) ls (aR h.1 :: st) h' F) : V G Y d (rc + 1) (rs + N) pc ls st h F :=
  v_new hk hcl hins hini hfs hd (K _ (psA_mk _ _))
theorem v_nwa {t : Nat} {n : Int} {aty0 : ArrayType} (ht : t < 3) (hat : newarray.typeOf aty0 = aty t) (hw : Cond.arrayClass (aty t) ∈ wsAll) (hn : 0 ≤ n ∧ n ≤ 10000) (hd : decode Y.2.1 pc = .ok (.newarray aty0, 2)) (K : ∀ h', Mk h h' (aA t (List.replicate n.toNat 0)) → V G Y d rc rs (pc + 2) ls (aR h.1 :: st) h' F) : V G Y d (rc + 1) (rs + n.toNat) pc ls (aI n :: st) h F :=
  v_newa ht hat hw hn hd (K _ (psA_mk _ _))
end VS
/-! pictures: a row of numbers, its array behind it -/
def pRow (h : AH) (o room : Nat) (xs : List Int) : Prop := ∃ cs : List Int, h.2 o = some (aO 3 [aR (o + 1), aI xs.length]) ∧ h.2 (o + 1) = some (aA 0 cs) ∧ cs.length = room ∧ xs.length ≤ room ∧ room ≤ 10000 ∧ cs.take xs.length = xs
theorem pRow.fr {h h' : AH} {o room lo hi : Nat} {xs : List Int} (p : pRow h o room xs) (f : Fr lo hi h h') (ha : o + 2 ≤ lo ∨ hi ≤ o) : pRow h' o room xs := by
  obtain ⟨cs, h1, h2, h3⟩ := p
  exact ⟨cs, f.at h1 (by omega), f.at h2 (by omega), h3⟩
/-- a number of a row; 0 outside -/
def rget (xs : List Int) (i : Int) : Int := if 0 ≤ i ∧ i < xs.length then xs.getD i.toNat 0 else 0
theorem take_get {cs xs : List Int} {n : Nat} (h : cs.take n = xs) {i : Nat} (hi : i < n) : cs.getD i 0 = xs.getD i 0 := by
  subst h
  simp [List.getD_eq_getElem?_getD, List.getElem?_take, hi]
