/-! THE LOGIC OF FRAMES OVER ABSTRACT HEAPS. V says: the machine, at a frame of method Y whose locals, stack and heap are described, comes to a return with F. -/
/-- a cell of the law's own -/
def CellAt (G : Gx) (c : AC) (a : Nat) (H : Heap) : Prop := match c with
  | .inl o => ∃ r : vw_C, cl[o.1]? = some r ∧ t_OB a ((gD G).1 o.1) r.2.2 ((gD G).2 o.1) H (vp_V (cS G o.2))
  | .inr o => H[a]? = some (arrV (gA G o.1) o.2.length (fun j => if o.1 = 1 then .long (Int64.ofInt (o.2.getD j 0)) else .int (Int32.ofInt (o.2.getD j 0))))
def aty (t : Nat) : FieldType := match t with
  | 0 => .int
  | 1 => .long
  | _ => .char
def Rep (G : Gx) (h : AH) (H : Heap) : Prop :=
  100 ≤ h.1 ∧ gz G = (gH G).size ∧ H.size = gz G + (h.1 - 100) ∧ (∀ q, q < gz G → H[q]? = (gH G)[q]?) ∧ ∀ a c, h.2 a = some c → 100 ≤ a ∧ a < h.1 ∧ CellAt G c (Ad G a) H
/-- what is known of the String constants -/
def sIdx (i : Nat) : Nat := [41, 55, 57, 59, 61, 63].getD i 0
def sTx (i : Nat) : String := ["vbtsfx", "v@##,#;", "v@#,#;", "r##;", "w#;", "n##;"].getD i ""
def sLen : List Nat := [6, 7, 6, 4, 3, 4]
def sByt : List (List Int32) := [[118, 98, 116, 115, 102, 120], [118, 64, 35, 35, 44, 35, 59], [118, 64, 35, 44, 35, 59], [114, 35, 35, 59], [119, 35, 59], [110, 35, 35, 59]]
def sfm (G : Gx) (U : State) (H : Heap) : Prop := ∃ v : AV, va_Z "jdk/internal/util/Preconditions" "SIOOBE_FORMATTER" "Ljava/util/function/BiFunction;" (cv G v) (fun q => gz G ≤ q) U H ∧ (v = aN ∨ v = aR 13)
/-- what the tables say at a state: the classes, the arrays' classes, the links between nest mates, the constants, the script -/
def KS (G : Gx) (s : State) : Prop :=
  va_K (gD G) cl [(gA G 0, .int), (gA G 1, .long), (gA G 2, .char)] s ∧ (∀ w ∈ nestAll, va_Nw w s) ∧ (∀ i, i < 6 → vk_R R_Text (sIdx i) (sTx i) (gS G (1 + i)) s) ∧
  vk_S 6 sLen sByt (fun i => gS G (1 + i)) (fun i => gS G (7 + i)) (fun q => gz G ≤ q) s (gH G) ∧ va_Z "java/lang/String" "COMPACT_STRINGS" "Z" (.int 1) (fun q => gz G ≤ q) s (gH G) ∧ sfm G s (gH G) ∧
  va_X (gS G 0) (gL G) (gX G) s (gH G) ∧ gS G 0 < gz G ∧ gL G ≤ 1536
theorem nest_warm {w : Cond} (hw : w ∈ nestAll) {s U : State} (hW : s.WarmedH U.vm) (h : va_Nw w s) : va_Nw w U := by
  simp only [nestAll, List.mem_cons, List.not_mem_nil, or_false] at hw
  rcases hw with rfl | rfl | rfl | rfl | rfl | rfl | rfl | rfl | rfl | rfl | rfl | rfl | rfl | rfl | rfl | rfl | rfl | rfl | rfl | rfl <;> first | exact va_Nw.warmF hW h | exact va_Nw.warmM hW h
theorem KS.warm {G : Gx} {s U : State} (hW : s.WarmedH U.vm) (h : KS G s) : KS G U := by
  obtain ⟨h1, h2, h3, h4, h5, ⟨v, h6, h6'⟩, h7, h8, h9⟩ := h
  exact ⟨va_K.moved hW.alike h1, fun w hw => nest_warm hw hW (h2 w hw), fun i hi => (h3 i hi).warm hW, h4.moved hW.alike, h5.moved hW.alike, ⟨v, h6.moved hW.alike, h6'⟩, h7.moved hW.alike, h8, h9⟩
theorem KS.same {G : Gx} {s U : State} (hW : s.vm = U.vm) (h : KS G s) : KS G U := by
  obtain ⟨h1, h2, h3, h4, h5, ⟨v, h6, h6'⟩, h7, h8, h9⟩ := h
  have ha : s.vm.Alike U.vm := by rw [hW]; exact Vm.Alike.refl _
  exact ⟨va_K.moved ha h1, fun w hw => va_Nw.same (nest_on w hw) hW (h2 w hw), fun i hi => (h3 i hi).same hW.symm, h4.moved ha, h5.moved ha, ⟨v, h6.moved ha, h6'⟩, h7.moved ha, h8, h9⟩
def VC (G : Gx) (Y : Yx) (p : Program) (s : State) (m : MethodId) (args : Array Value) (meth : Method) (c : Code) : Prop :=
  p.tables.exec = Jvm.exec ∧ c.code = Y.2.1 ∧ c.maxLocals = Y.2.2.1 ∧ meth.sig.returnType = Y.2.2.2 ∧ meth.locks = false ∧ s.vm.findClass Y.1.cls = some m.cls ∧ meth.name = Y.1.name ∧ (∀ w ∈ wsAll, w.before args s = true) ∧ KS G s
/-- the locals that are known, by their places -/
def prs (G : Gx) : Nat → List (Option AV) → List (Nat × Value)
  | _, [] => []
  | k, none :: t => prs G (k + 1) t
  | k, some v :: t => (k, cv G v) :: prs G (k + 1) t
theorem prs_mem {G : Gx} : ∀ (l : List (Option AV)) (k : Nat) (q : Nat × Value), q ∈ prs G k l ↔ ∃ i v, l[i]? = some (some v) ∧ q = (k + i, cv G v)
  | [], k, q => by simp [prs]
  | none :: t, k, q => by
    rw [prs, prs_mem t (k + 1) q]
    constructor
    · rintro ⟨i, v, h1, h2⟩
      exact ⟨i + 1, v, by simpa using h1, by rw [h2]; congr 1; omega⟩
    · rintro ⟨i, v, h1, h2⟩
      cases i with
      | zero => simp at h1
      | succ i => exact ⟨i, v, by simpa using h1, by rw [h2]; congr 1; omega⟩
  | some w :: t, k, q => by
    rw [prs, List.mem_cons, prs_mem t (k + 1) q]
    constructor
    · rintro (h | ⟨i, v, h1, h2⟩)
      · exact ⟨0, w, by simp, by rw [h]; rfl⟩
      · exact ⟨i + 1, v, by simpa using h1, by rw [h2]; congr 1; omega⟩
    · rintro ⟨i, v, h1, h2⟩
      cases i with
      | zero =>
        simp at h1
        subst h1
        exact Or.inl h2
      | succ i => exact Or.inr ⟨i, v, by simpa using h1, by rw [h2]; congr 1; omega⟩
def aLS (G : Gx) (ls : List (Option AV)) (lsC : Array Slot) (nL : Nat) : Prop := lv_has lsC nL (prs G 0 ls)
theorem aLS.at {G : Gx} {ls : List (Option AV)} {lsC : Array Slot} {nL i : Nat} {v : AV} (h : aLS G ls lsC nL) (hi : ls[i]? = some (some v)) : lsC[i]? = some (.val (cv G v)) :=
  h.2.2 (i, cv G v) ((prs_mem ls 0 _).mpr ⟨i, v, hi, by simp⟩)
def isL : Option AV → Bool
  | some (.inr (.inl _)) => true
  | _ => false
def killJ (x : Option AV) : Option AV := if isL x then none else x
/-- a value of one slot stored at a place -/
def st1 : Nat → AV → List (Option AV) → List (Option AV)
  | 0, v, _ :: t => some v :: t
  | 1, v, a :: _ :: t => killJ a :: some v :: t
  | i + 2, v, a :: t => a :: st1 (i + 1) v t
  | _, _, l => l
/-- a long stored at a place -/
def st2 : Nat → AV → List (Option AV) → List (Option AV)
  | 0, v, _ :: _ :: t => some v :: none :: t
  | 1, v, a :: _ :: _ :: t => killJ a :: some v :: none :: t
  | i + 2, v, a :: t => a :: st2 (i + 1) v t
  | _, _, l => l
theorem st1_get : ∀ (i : Nat) (v : AV) (l : List (Option AV)) (j : Nat) (w : AV), i < l.length → (st1 i v l)[j]? = some (some w) → (j = i ∧ w = v) ∨ (j ≠ i ∧ l[j]? = some (some w) ∧ ¬ (j + 1 = i ∧ isL (some w) = true))
  | 0, v, [], j, w, hi, h => by simp at hi
  | 0, v, a :: t, j, w, hi, h => by
    cases j with
    | zero => simp [st1] at h; exact Or.inl ⟨rfl, h.symm⟩
    | succ j => exact Or.inr ⟨by omega, by simpa [st1] using h, by omega⟩
  | 1, v, [], j, w, hi, h => by simp at hi
  | 1, v, [a], j, w, hi, h => by simp at hi
  | 1, v, a :: b :: t, j, w, hi, h => by
    match j, h with
    | 0, h =>
      refine Or.inr ⟨by omega, ?_, ?_⟩
      · simp only [st1, List.getElem?_cons_zero, Option.some.injEq, killJ] at h
        split at h
        · cases h
        · simp [h]
      · simp only [st1, List.getElem?_cons_zero, Option.some.injEq, killJ] at h
        split at h
        · cases h
        · rename_i hn
          rw [h] at hn
          exact fun q => hn q.2
    | 1, h => simp [st1] at h; exact Or.inl ⟨rfl, h.symm⟩
    | j + 2, h => exact Or.inr ⟨by omega, by simpa [st1] using h, by omega⟩
  | i + 2, v, [], j, w, hi, h => by simp at hi
  | i + 2, v, a :: t, j, w, hi, h => by
    cases j with
    | zero => exact Or.inr ⟨by omega, by simpa [st1] using h, by omega⟩
    | succ j =>
      have hi' : i + 1 < t.length := by simp at hi; omega
      have := st1_get (i + 1) v t j w hi' (by simpa [st1] using h)
      rcases this with ⟨e1, e2⟩ | ⟨e1, e2, e3⟩
      · exact Or.inl ⟨by omega, e2⟩
      · exact Or.inr ⟨by omega, by simpa using e2, fun q => e3 ⟨by omega, q.2⟩⟩
theorem isL_cat (G : Gx) (w : AV) : (cv G w).category == 2 ↔ isL (some w) = true := by
  rcases w with n | n | _ | a <;> simp [cv, Value.category, isL]
theorem aLS.st1 {G : Gx} {ls : List (Option AV)} {ls' : Array Slot} {nL i : Nat} {v : AV} (hi : i < ls.length)
    (h : lv_has ls' nL ((i, cv G v) :: (prs G 0 ls).filter (fun q => !(q.1 == i) && !(q.1 + 1 == i && q.2.category == 2)))) : aLS G (st1 i v ls) ls' nL := by
  refine ⟨h.1, h.2.1, fun q hq => ?_⟩
  obtain ⟨j, w, h1, rfl⟩ := (prs_mem _ 0 _).mp hq
  rw [Nat.zero_add]
  refine h.2.2 (j, cv G w) ?_
  rcases st1_get i v ls j w hi h1 with ⟨rfl, rfl⟩ | ⟨e1, e2, e3⟩
  · exact List.mem_cons_self
  · refine List.mem_cons_of_mem _ (List.mem_filter.mpr ⟨(prs_mem ls 0 _).mpr ⟨j, w, e2, by simp⟩, ?_⟩)
    simp only [Bool.and_eq_true, Bool.not_eq_true', beq_eq_false_iff_ne, ne_eq, Bool.and_eq_false_iff]
    refine ⟨e1, ?_⟩
    by_cases hj : j + 1 = i
    · right
      have : ¬ isL (some w) = true := fun q => e3 ⟨hj, q⟩
      have h2 := mt (isL_cat G w).mp this
      simpa using h2
    · left; exact hj
