/-! abstract values, cells, heaps: numbers are mathematical integers, references are places of the law's own heap -/
abbrev AV : Type := Int ⊕ (Int ⊕ Option Nat)
abbrev aI (n : Int) : AV := Sum.inl n
abbrev aJ (n : Int) : AV := Sum.inr (Sum.inl n)
abbrev aR (a : Nat) : AV := Sum.inr (Sum.inr (some a))
abbrev aN : AV := Sum.inr (Sum.inr none)
abbrev AC : Type := (Nat × List AV) ⊕ (Nat × List Int)
abbrev aO (k : Nat) (fs : List AV) : AC := Sum.inl (k, fs)
abbrev aA (t : Nat) (xs : List Int) : AC := Sum.inr (t, xs)
abbrev AH : Type := Nat × (Nat → Option AC)
abbrev Gx : Type := Nat × Heap × va_G × (Nat → ClassId) × (Nat → Nat) × Nat × (Nat → Int32)
def gz (G : Gx) : Nat := G.1
def gH (G : Gx) : Heap := G.2.1
def gD (G : Gx) : va_G := G.2.2.1
def gA (G : Gx) : Nat → ClassId := G.2.2.2.1
def gS (G : Gx) : Nat → Nat := G.2.2.2.2.1
def gL (G : Gx) : Nat := G.2.2.2.2.2.1
def gX (G : Gx) : Nat → Int32 := G.2.2.2.2.2.2
/-- the address of a place: below 100 what stood before the law began, from 100 on the law's own cells in their order -/
def Ad (G : Gx) (a : Nat) : Nat := if a < 100 then gS G a else gz G + (a - 100)
theorem Ad_own {G : Gx} {a : Nat} (h : 100 ≤ a) : Ad G a = gz G + (a - 100) := by unfold Ad; rw [if_neg (by omega)]
def cv (G : Gx) : AV → Value
  | .inl n => .int (Int32.ofInt n)
  | .inr (.inl n) => .long (Int64.ofInt n)
  | .inr (.inr none) => .null
  | .inr (.inr (some a)) => .ref (Ad G a)
def cS (G : Gx) : List AV → List Value
  | [] => []
  | v :: t => cv G v :: cS G t
theorem cS_len (G : Gx) : ∀ l : List AV, (cS G l).length = l.length
  | [] => rfl
  | _ :: t => congrArg (· + 1) (cS_len G t)
theorem cS_get (G : Gx) : ∀ (l : List AV) (j : Nat), (cS G l)[j]? = (l[j]?).map (cv G)
  | [], j => by simp [cS]
  | v :: t, 0 => by simp [cS]
  | v :: t, j + 1 => by simp [cS, cS_get G t j]
theorem cS_set (G : Gx) : ∀ (l : List AV) (j : Nat) (v : AV), cS G (l.set j v) = (cS G l).set j (cv G v)
  | [], _, _ => rfl
  | _ :: _, 0, _ => rfl
  | a :: t, j + 1, v => by show cv G a :: cS G (t.set j v) = cv G a :: (cS G t).set j (cv G v); rw [cS_set G t j v]
theorem cS_app (G : Gx) : ∀ (l r : List AV), cS G (l ++ r) = cS G l ++ cS G r
  | [], _ => rfl
  | a :: t, r => by show cv G a :: cS G (t ++ r) = cv G a :: (cS G t ++ cS G r); rw [cS_app G t r]
theorem cS_rev (G : Gx) : ∀ (l : List AV), cS G l.reverse = (cS G l).reverse
  | [] => rfl
  | a :: t => by rw [List.reverse_cons, cS_app, cS_rev G t]; show _ = (cv G a :: cS G t).reverse; rw [List.reverse_cons]; rfl
theorem cS_map (G : Gx) : ∀ (l : List AV), cS G l = l.map (cv G)
  | [] => rfl
  | a :: t => by show cv G a :: cS G t = cv G a :: t.map (cv G); rw [cS_map G t]
/-- the room of a value on the stack -/
def cat1 : AV → Nat
  | .inr (.inl _) => 2
  | _ => 1
theorem cat_cv (G : Gx) : ∀ v : AV, (cv G v).category = cat1 v
  | .inl _ => rfl
  | .inr (.inl _) => rfl
  | .inr (.inr none) => rfl
  | .inr (.inr (some _)) => rfl
def catS : List AV → Nat
  | [] => 0
  | v :: t => cat1 v + catS t
theorem catS_cS (G : Gx) : ∀ l : List AV, ((cS G l).map fun v => v.category).sum = catS l
  | [] => rfl
  | v :: t => by show ((cv G v).category :: (cS G t).map fun v => v.category).sum = _; rw [List.sum_cons, cat_cv, catS_cS G t]; rfl
/-! numbers -/
abbrev InR (n : Int) : Prop := -2147483648 ≤ n ∧ n ≤ 2147483647
theorem oi_toInt {n : Int} (h : InR n) : (Int32.ofInt n).toInt = n := Int32.toInt_ofInt_of_le (by have := h.1; omega) (by have := h.2; omega)
theorem oi_eq {x y : Int} (hx : InR x) (hy : InR y) : Int32.ofInt x = Int32.ofInt y ↔ x = y := by
  constructor
  · intro h
    have := congrArg Int32.toInt h
    rwa [oi_toInt hx, oi_toInt hy] at this
  · rintro rfl; rfl
theorem oi_lt {x y : Int} (hx : InR x) (hy : InR y) : Int32.ofInt x < Int32.ofInt y ↔ x < y := by rw [Int32.lt_iff_toInt_lt, oi_toInt hx, oi_toInt hy]
theorem oi_le {x y : Int} (hx : InR x) (hy : InR y) : Int32.ofInt x ≤ Int32.ofInt y ↔ x ≤ y := by rw [Int32.le_iff_toInt_le, oi_toInt hx, oi_toInt hy]
theorem oi_0 : Int32.ofInt 0 = 0 := rfl
theorem InR0 : InR 0 := ⟨by decide, by decide⟩
theorem oi_nat {n : Int} (h0 : 0 ≤ n) (h : n ≤ 2147483647) : (Int32.ofInt n).toNatClampNeg = n.toNat := by
  rw [Int32.toNatClampNeg_ofInt_of_le (by omega) (by omega)]
theorem oi_self (x : Int32) : Int32.ofInt x.toInt = x := Int32.ofInt_toInt x
theorem InR_toInt (x : Int32) : InR x.toInt := ⟨by have := x.le_toInt; omega, by have := x.toInt_lt; omega⟩
theorem oi_div {x y : Int} (hx : InR x) (hy0 : 0 < y) (hy : y ≤ 2147483647) : Int32.ofInt x / Int32.ofInt y = Int32.ofInt (x.tdiv y) := by
  have h2 : -2147483648 ≤ x.tdiv y ∧ x.tdiv y ≤ 2147483647 := by
    have h1 := hx.1
    have h2 := hx.2
    rcases Int.le_total 0 x with h | h
    · have e1 := Int.tdiv_nonneg h (Int.le_of_lt hy0)
      have e2 : x.tdiv y ≤ x := by rw [Int.tdiv_eq_ediv_of_nonneg h]; exact Int.ediv_le_self y h
      omega
    · have e := Int.neg_tdiv (-x) y
      rw [Int.neg_neg] at e
      have e1 := Int.tdiv_nonneg (show 0 ≤ -x by omega) (Int.le_of_lt hy0)
      have e2 : (-x).tdiv y ≤ -x := by rw [Int.tdiv_eq_ediv_of_nonneg (by omega)]; exact Int.ediv_le_self y (by omega)
      omega
  apply Int32.toInt_inj.mp
  rw [Int32.toInt_div, oi_toInt hx, oi_toInt (show InR y from ⟨by omega, hy⟩), oi_toInt h2]
  rw [Int.bmod_eq_of_le (by omega) (by omega)]
theorem oi_rem {x y : Int} (hx : InR x) (hy0 : 0 < y) (hy : y ≤ 2147483647) : Int32.ofInt x - Int32.ofInt x / Int32.ofInt y * Int32.ofInt y = Int32.ofInt (x.tmod y) := by
  rw [oi_div hx hy0 hy, ← Int32.ofInt_mul, ← Int32.ofInt_sub]
  congr 1
  have := Int.mul_tdiv_add_tmod x y
  have e : x.tdiv y * y = y * x.tdiv y := Int.mul_comm _ _
  omega
