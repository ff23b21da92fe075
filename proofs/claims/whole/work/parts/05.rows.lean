/-- how a method's instruction of return fits its type -/
def RetOK (G : Gx) (i : Instr) (ret : Option FieldType) (v : Option AV) : Prop := match v with
  | none => i = .return_ ∧ ret = none
  | some (.inl n) => i = .ireturn ∧ ∃ ty, ret = some ty ∧ narrow ty (.int (Int32.ofInt n)) = .int (Int32.ofInt n)
  | some (.inr (.inl _)) => i = .lreturn ∧ ret = some .long
  | some (.inr (.inr _)) => i = .areturn ∧ ∃ n, ret = some (.object n)
def VE (G : Gx) (Y : Yx) (p : Program) (l : Launch) (e : Env) (R : Room) (s : State) (m : MethodId) (args : Array Value) (below : List Frame) (meth : Method) (c : Code) (F : Option AV → AH → Prop) (Q : State → Prop) : Prop :=
  ∀ (v : Option AV) (h : AH) (H : Heap) (locs : List Loc) (cells slots pc : Nat) (lsC : Array Slot) (i : Instr), F v h → Rep G h H → (∀ q ∈ locs, gz G ≤ q.base) → cells ≤ R.cells → slots ≤ R.slots → decode Y.2.1 pc = .ok (i, 1) → RetOK G i Y.2.2.2 v →
    W p l e R s m args below meth c H locs cells slots Q (F0 m pc lsC (cS G v.toList))
/-- from a frame at pc with locals ls, stack st and heap h the method comes to a return with F; d levels of calls, rc cells and rs slots are at hand -/
def V (G : Gx) (Y : Yx) (d rc rs pc : Nat) (ls : List (Option AV)) (st : List AV) (h : AH) (F : Option AV → AH → Prop) : Prop :=
  ∀ (p : Program) (l : Launch) (e : Env) (R : Room) (s : State) (m : MethodId) (args : Array Value) (below : List Frame) (meth : Method) (c : Code) (Q : State → Prop),
    VC G Y p s m args meth c → VE G Y p l e R s m args below meth c F Q → d ≤ R.frames → 38 * d ≤ R.locals →
    ∀ (H : Heap) (locs : List Loc) (cells slots : Nat) (lsC : Array Slot), Rep G h H → (∀ q ∈ locs, gz G ≤ q.base) → cells + rc ≤ R.cells → slots + rs ≤ R.slots → aLS G ls lsC Y.2.2.1 →
      W p l e R s m args below meth c H locs cells slots Q (F0 m pc lsC (cS G st))
section VR
variable {G : Gx} {Y : Yx} {d rc rs pc : Nat} {ls : List (Option AV)} {st : List AV} {h : AH} {F : Option AV → AH → Prop}
theorem V.lift {pc' : Nat} {ls' : List (Option AV)} {st' : List AV}
    (H1 : ∀ (p : Program) (l : Launch) (e : Env) (R : Room) (s : State) (m : MethodId) (args : Array Value) (below : List Frame) (meth : Method) (c : Code) (H : Heap) (locs : List Loc) (cells slots : Nat) (Q : State → Prop) (lsC : Array Slot),
      VC G Y p s m args meth c → aLS G ls lsC Y.2.2.1 → cells ≤ R.cells → slots ≤ R.slots → d ≤ R.frames → 38 * d ≤ R.locals → (∀ lsC', aLS G ls' lsC' Y.2.2.1 → W p l e R s m args below meth c H locs cells slots Q (F0 m pc' lsC' (cS G st'))) → W p l e R s m args below meth c H locs cells slots Q (F0 m pc lsC (cS G st)))
    (k : V G Y d rc rs pc' ls' st' h F) : V G Y d rc rs pc ls st h F := by
  intro p l e R s m args below meth c Q hC hE hd hl H locs cells slots lsC hR hL hc hs hls
  exact H1 p l e R s m args below meth c H locs cells slots Q lsC hC hls (by omega) (by omega) hd hl (fun lsC' h' => k p l e R s m args below meth c Q hC hE hd hl H locs cells slots lsC' hR hL hc hs h')
theorem V.mono {F' : Option AV → AH → Prop} (hF : ∀ v h, F v h → F' v h) (k : V G Y d rc rs pc ls st h F) : V G Y d rc rs pc ls st h F' := by
  intro p l e R s m args below meth c Q hC hE
  exact k p l e R s m args below meth c Q hC (fun v h H locs cells slots pc lsC i hf => hE v h H locs cells slots pc lsC i (hF v h hf))
/-- fewer cells are asked -/
theorem V.less {rc' rs' : Nat} (h1 : rc ≤ rc') (h2 : rs ≤ rs') (k : V G Y d rc rs pc ls st h F) : V G Y d rc' rs' pc ls st h F := by
  intro p l e R s m args below meth c Q hC hE hd hl H locs cells slots lsC hR hL hc hs hls
  exact k p l e R s m args below meth c Q hC hE hd hl H locs cells slots lsC hR hL (by omega) (by omega) hls
/-- less is known of the locals -/
theorem V.wk (ls' : List (Option AV)) (hw : ∀ (i : Nat) (v : AV), ls'[i]? = some (some v) → ls[i]? = some (some v)) (k : V G Y d rc rs pc ls' st h F) : V G Y d rc rs pc ls st h F :=
  V.lift (fun p l e R s m args below meth c H locs cells slots Q lsC _ hls _ _ _ _ k => k lsC ⟨hls.1, hls.2.1, fun q hq => by
    obtain ⟨i, v, h1, rfl⟩ := (prs_mem _ 0 _).mp hq
    exact hls.2.2 _ ((prs_mem _ 0 _).mpr ⟨i, v, hw i v h1, rfl⟩)⟩) k
theorem v_iconst {n : Int} (hd : decode Y.2.1 pc = .ok (.iconst n, 1)) (k : V G Y d rc rs (pc + 1) ls (aI n :: st) h F) : V G Y d rc rs pc ls st h F :=
  V.lift (fun _ _ _ _ _ _ _ _ _ _ _ _ _ _ _ lsC hC hls _ _ _ _ k => lv_iconst hC.1 hC.2.1 hd rfl (k lsC hls)) k
theorem v_bipush {n : Int} (hd : decode Y.2.1 pc = .ok (.bipush n, 2)) (hn : -128 ≤ n ∧ n ≤ 127) (k : V G Y d rc rs (pc + 2) ls (aI n :: st) h F) : V G Y d rc rs pc ls st h F :=
  V.lift (fun _ _ _ _ _ _ _ _ _ _ _ _ _ _ _ lsC hC hls _ _ _ _ k => lv_bipush hC.1 hC.2.1 hd (v := Int32.ofInt n) (by
    apply Int32.toInt_inj.mp
    rw [Int8.toInt_toInt32, Int8.toInt_ofInt_of_le (by omega) (by omega), oi_toInt ⟨by omega, by omega⟩]) (k lsC hls)) k
theorem v_sipush {n : Int} (hd : decode Y.2.1 pc = .ok (.sipush n, 3)) (hn : -32768 ≤ n ∧ n ≤ 32767) (k : V G Y d rc rs (pc + 3) ls (aI n :: st) h F) : V G Y d rc rs pc ls st h F :=
  V.lift (fun _ _ _ _ _ _ _ _ _ _ _ _ _ _ _ lsC hC hls _ _ _ _ k => lv_sipush hC.1 hC.2.1 hd (v := Int32.ofInt n) (by
    apply Int32.toInt_inj.mp
    rw [Int16.toInt_toInt32, Int16.toInt_ofInt_of_le (by omega) (by omega), oi_toInt ⟨by omega, by omega⟩]) (k lsC hls)) k
theorem v_lconst {n : Fin 2} (hd : decode Y.2.1 pc = .ok (.lconst n, 1)) (k : V G Y d rc rs (pc + 1) ls (aJ (n : Nat) :: st) h F) : V G Y d rc rs pc ls st h F :=
  V.lift (fun _ _ _ _ _ _ _ _ _ _ _ _ _ _ _ lsC hC hls _ _ _ _ k => lv_lconst hC.1 hC.2.1 hd (v := Int64.ofInt (n : Nat)) (Int64.ofInt_eq_ofNat).symm (k lsC hls)) k
theorem v_iload_n {n : Fin 4} {x : Int} (hd : decode Y.2.1 pc = .ok (.iload_n n, 1)) (hl : ls[(n : Nat)]? = some (some (aI x))) (k : V G Y d rc rs (pc + 1) ls (aI x :: st) h F) : V G Y d rc rs pc ls st h F :=
  V.lift (fun _ _ _ _ _ _ _ _ _ _ _ _ _ _ _ lsC hC hls _ _ _ _ k => lv_iload_n hC.1 hC.2.1 hd rfl (hls.at hl) (k lsC hls)) k
theorem v_iload {n : Nat} {x : Int} (hd : decode Y.2.1 pc = .ok (.iload n, 2)) (hl : ls[n]? = some (some (aI x))) (k : V G Y d rc rs (pc + 2) ls (aI x :: st) h F) : V G Y d rc rs pc ls st h F :=
  V.lift (fun _ _ _ _ _ _ _ _ _ _ _ _ _ _ _ lsC hC hls _ _ _ _ k => lv_iload hC.1 hC.2.1 hd (hls.at hl) (k lsC hls)) k
theorem v_lload_n {n : Fin 4} {x : Int} (hd : decode Y.2.1 pc = .ok (.lload_n n, 1)) (hl : ls[(n : Nat)]? = some (some (aJ x))) (k : V G Y d rc rs (pc + 1) ls (aJ x :: st) h F) : V G Y d rc rs pc ls st h F :=
  V.lift (fun _ _ _ _ _ _ _ _ _ _ _ _ _ _ _ lsC hC hls _ _ _ _ k => lv_lload_n hC.1 hC.2.1 hd rfl (hls.at hl) (k lsC hls)) k
theorem v_lload {n : Nat} {x : Int} (hd : decode Y.2.1 pc = .ok (.lload n, 2)) (hl : ls[n]? = some (some (aJ x))) (k : V G Y d rc rs (pc + 2) ls (aJ x :: st) h F) : V G Y d rc rs pc ls st h F :=
  V.lift (fun _ _ _ _ _ _ _ _ _ _ _ _ _ _ _ lsC hC hls _ _ _ _ k => lv_lload hC.1 hC.2.1 hd (hls.at hl) (k lsC hls)) k
theorem v_aload_n {n : Fin 4} {x : Nat} (hd : decode Y.2.1 pc = .ok (.aload_n n, 1)) (hl : ls[(n : Nat)]? = some (some (aR x))) (k : V G Y d rc rs (pc + 1) ls (aR x :: st) h F) : V G Y d rc rs pc ls st h F :=
  V.lift (fun _ _ _ _ _ _ _ _ _ _ _ _ _ _ _ lsC hC hls _ _ _ _ k => lv_aload_n hC.1 hC.2.1 hd rfl (hls.at hl) (k lsC hls)) k
theorem v_aload {n : Nat} {x : Nat} (hd : decode Y.2.1 pc = .ok (.aload n, 2)) (hl : ls[n]? = some (some (aR x))) (k : V G Y d rc rs (pc + 2) ls (aR x :: st) h F) : V G Y d rc rs pc ls st h F :=
  V.lift (fun _ _ _ _ _ _ _ _ _ _ _ _ _ _ _ lsC hC hls _ _ _ _ k => lv_aload hC.1 hC.2.1 hd (hls.at hl) (k lsC hls)) k
/-- a null in a local -/
theorem v_aload_nN {n : Fin 4} (hd : decode Y.2.1 pc = .ok (.aload_n n, 1)) (hl : ls[(n : Nat)]? = some (some aN)) (k : V G Y d rc rs (pc + 1) ls (aN :: st) h F) : V G Y d rc rs pc ls st h F :=
  V.lift (fun _ _ _ _ _ _ _ _ _ _ _ _ _ _ _ lsC hC hls _ _ _ _ k => lv_aload_nN hC.1 hC.2.1 hd rfl (hls.at hl) (k lsC hls)) k
theorem v_istore_n {n : Fin 4} {x : Int} (hd : decode Y.2.1 pc = .ok (.istore_n n, 1)) (hn : (n : Nat) < Y.2.2.1 ∧ (n : Nat) < ls.length) (k : V G Y d rc rs (pc + 1) (st1 n (aI x) ls) st h F) : V G Y d rc rs pc ls (aI x :: st) h F :=
  V.lift (fun _ _ _ _ _ _ _ _ _ _ _ _ _ _ _ lsC hC hls _ _ _ _ k => lv_istore_n hC.1 hC.2.1 hd rfl hls hn.1 rfl (fun ls' h' => k ls' (aLS.st1 (v := aI x) hn.2 h'))) k
theorem v_istore {n : Nat} {x : Int} (hd : decode Y.2.1 pc = .ok (.istore n, 2)) (hn : n < Y.2.2.1 ∧ n < ls.length) (k : V G Y d rc rs (pc + 2) (st1 n (aI x) ls) st h F) : V G Y d rc rs pc ls (aI x :: st) h F :=
  V.lift (fun _ _ _ _ _ _ _ _ _ _ _ _ _ _ _ lsC hC hls _ _ _ _ k => lv_istore hC.1 hC.2.1 hd hls hn.1 rfl (fun ls' h' => k ls' (aLS.st1 (v := aI x) hn.2 h'))) k
theorem v_astore_n {n : Fin 4} {x : Nat} (hd : decode Y.2.1 pc = .ok (.astore_n n, 1)) (hn : (n : Nat) < Y.2.2.1 ∧ (n : Nat) < ls.length) (k : V G Y d rc rs (pc + 1) (st1 n (aR x) ls) st h F) : V G Y d rc rs pc ls (aR x :: st) h F :=
  V.lift (fun _ _ _ _ _ _ _ _ _ _ _ _ _ _ _ lsC hC hls _ _ _ _ k => lv_astore_n hC.1 hC.2.1 hd rfl hls hn.1 rfl (fun ls' h' => k ls' (aLS.st1 (v := aR x) hn.2 h'))) k
theorem v_astore {n : Nat} {x : Nat} (hd : decode Y.2.1 pc = .ok (.astore n, 2)) (hn : n < Y.2.2.1 ∧ n < ls.length) (k : V G Y d rc rs (pc + 2) (st1 n (aR x) ls) st h F) : V G Y d rc rs pc ls (aR x :: st) h F :=
  V.lift (fun _ _ _ _ _ _ _ _ _ _ _ _ _ _ _ lsC hC hls _ _ _ _ k => lv_astore hC.1 hC.2.1 hd hls hn.1 rfl (fun ls' h' => k ls' (aLS.st1 (v := aR x) hn.2 h'))) k
theorem v_iinc {n : Nat} {c x : Int} (hd : decode Y.2.1 pc = .ok (.iinc n c, 3)) (hl : ls[n]? = some (some (aI x))) (hn : n < Y.2.2.1) (k : V G Y d rc rs (pc + 3) (st1 n (aI (x + c)) ls) st h F) : V G Y d rc rs pc ls st h F :=
  V.lift (fun _ _ _ _ _ _ _ _ _ _ _ _ _ _ _ lsC hC hls _ _ _ _ k => by
    have hm : (n, cv G (aI x)) ∈ prs G 0 ls := (prs_mem ls 0 _).mpr ⟨n, _, hl, by simp⟩
    obtain ⟨kk, hk⟩ := List.getElem?_of_mem hm
    exact lv_iinc hC.1 hC.2.1 hd hls (k := kk) hk (v := Int32.ofInt (x + c)) (Int32.ofInt_add x c).symm hn rfl (fun ls' h' => k ls' (aLS.st1 (v := aI (x + c)) (List.getElem?_eq_some_iff.mp hl).1 h'))) k
theorem v_iadd {x y : Int} (hd : decode Y.2.1 pc = .ok (.iadd, 1)) (k : V G Y d rc rs (pc + 1) ls (aI (x + y) :: st) h F) : V G Y d rc rs pc ls (aI y :: aI x :: st) h F :=
  V.lift (fun _ _ _ _ _ _ _ _ _ _ _ _ _ _ _ lsC hC hls _ _ _ _ k => lv_iadd hC.1 hC.2.1 hd (by rw [← Int32.ofInt_add]; exact k lsC hls)) k
theorem v_isub {x y : Int} (hd : decode Y.2.1 pc = .ok (.isub, 1)) (k : V G Y d rc rs (pc + 1) ls (aI (x - y) :: st) h F) : V G Y d rc rs pc ls (aI y :: aI x :: st) h F :=
  V.lift (fun _ _ _ _ _ _ _ _ _ _ _ _ _ _ _ lsC hC hls _ _ _ _ k => lv_isub hC.1 hC.2.1 hd (by rw [← Int32.ofInt_sub]; exact k lsC hls)) k
theorem v_imul {x y : Int} (hd : decode Y.2.1 pc = .ok (.imul, 1)) (k : V G Y d rc rs (pc + 1) ls (aI (x * y) :: st) h F) : V G Y d rc rs pc ls (aI y :: aI x :: st) h F :=
  V.lift (fun _ _ _ _ _ _ _ _ _ _ _ _ _ _ _ lsC hC hls _ _ _ _ k => lv_imul hC.1 hC.2.1 hd (by rw [← Int32.ofInt_mul]; exact k lsC hls)) k
theorem v_ineg {x : Int} (hd : decode Y.2.1 pc = .ok (.ineg, 1)) (k : V G Y d rc rs (pc + 1) ls (aI (-x) :: st) h F) : V G Y d rc rs pc ls (aI x :: st) h F :=
  V.lift (fun _ _ _ _ _ _ _ _ _ _ _ _ _ _ _ lsC hC hls _ _ _ _ k => lv_ineg hC.1 hC.2.1 hd (by rw [Int32.neg_ofInt]; exact k lsC hls)) k
theorem v_idiv {x y : Int} (hd : decode Y.2.1 pc = .ok (.idiv, 1)) (hx : InR x) (hy : 0 < y ∧ y ≤ 2147483647) (k : V G Y d rc rs (pc + 1) ls (aI (x.tdiv y) :: st) h F) : V G Y d rc rs pc ls (aI y :: aI x :: st) h F :=
  V.lift (fun _ _ _ _ _ _ _ _ _ _ _ _ _ _ _ lsC hC hls _ _ _ _ k => lv_idiv hC.1 hC.2.1 hd (fun q => by have := (oi_eq (y := 0) ⟨by omega, hy.2⟩ InR0).mp q; omega) (by rw [oi_div hx hy.1 hy.2]; exact k lsC hls)) k
theorem v_irem {x y : Int} (hd : decode Y.2.1 pc = .ok (.irem, 1)) (hx : InR x) (hy : 0 < y ∧ y ≤ 2147483647) (k : V G Y d rc rs (pc + 1) ls (aI (x.tmod y) :: st) h F) : V G Y d rc rs pc ls (aI y :: aI x :: st) h F :=
  V.lift (fun _ _ _ _ _ _ _ _ _ _ _ _ _ _ _ lsC hC hls _ _ _ _ k => lv_irem hC.1 hC.2.1 hd (fun q => by have := (oi_eq (y := 0) ⟨by omega, hy.2⟩ InR0).mp q; omega) (by rw [oi_rem hx hy.1 hy.2]; exact k lsC hls)) k
theorem v_dup {v : AV} (hd : decode Y.2.1 pc = .ok (.dup, 1)) (hc : cat1 v = 1) (k : V G Y d rc rs (pc + 1) ls (v :: v :: st) h F) : V G Y d rc rs pc ls (v :: st) h F :=
  V.lift (fun _ _ _ _ _ _ _ _ _ _ _ _ _ _ _ lsC hC hls _ _ _ _ k => lv_dup hC.1 hC.2.1 hd (by rw [cat_cv]; exact hc) (k lsC hls)) k
theorem v_pop {v : AV} (hd : decode Y.2.1 pc = .ok (.pop, 1)) (hc : cat1 v = 1) (k : V G Y d rc rs (pc + 1) ls st h F) : V G Y d rc rs pc ls (v :: st) h F :=
  V.lift (fun _ _ _ _ _ _ _ _ _ _ _ _ _ _ _ lsC hC hls _ _ _ _ k => lv_pop hC.1 hC.2.1 hd (by rw [cat_cv]; exact hc) (k lsC hls)) k
theorem v_dup2 {v w : AV} (hd : decode Y.2.1 pc = .ok (.dup2, 1)) (hv : cat1 v = 1) (hw : cat1 w = 1) (k : V G Y d rc rs (pc + 1) ls (v :: w :: v :: w :: st) h F) : V G Y d rc rs pc ls (v :: w :: st) h F :=
  V.lift (fun _ _ _ _ _ _ _ _ _ _ _ _ _ _ _ lsC hC hls _ _ _ _ k => lv_dup2_11 hC.1 hC.2.1 hd (by rw [cat_cv]; exact hv) (by rw [cat_cv]; exact hw) (k lsC hls)) k
theorem v_goto {off : Int} {tgt : Nat} (hd : decode Y.2.1 pc = .ok (.goto off, 3)) (ht : (pc : Int) + off = (tgt : Int)) (k : V G Y d rc rs tgt ls st h F) : V G Y d rc rs pc ls st h F :=
  V.lift (fun _ _ _ _ _ _ _ _ _ _ _ _ _ _ _ lsC hC hls _ _ _ _ k => lv_goto hC.1 hC.2.1 hd ht (k lsC hls)) k
/-! branches: each is split at the level of V -/
theorem v_ifeq {x : Int} {off : Int} (tgt : Nat) (hd : decode Y.2.1 pc = .ok (.ifCond .eq off, 3)) (ht : (pc : Int) + off = (tgt : Int)) (hx : InR x) (kt : x = 0 → V G Y d rc rs tgt ls st h F) (kf : ¬ (x = 0) → V G Y d rc rs (pc + 3) ls st h F) : V G Y d rc rs pc ls (aI x :: st) h F := by
  by_cases hb : x = 0
  · exact V.lift (fun _ _ _ _ _ _ _ _ _ _ _ _ _ _ _ lsC hC hls _ _ _ _ k => lv_if_eq hC.1 hC.2.1 hd ht (fun _ => k lsC hls) (fun q => absurd ((oi_eq (y := 0) hx InR0).mpr hb) q)) (kt hb)
  · exact V.lift (fun _ _ _ _ _ _ _ _ _ _ _ _ _ _ _ lsC hC hls _ _ _ _ k => lv_if_eq hC.1 hC.2.1 hd ht (fun q => absurd ((oi_eq (y := 0) hx InR0).mp q) hb) (fun _ => k lsC hls)) (kf hb)
theorem v_ifne {x : Int} {off : Int} (tgt : Nat) (hd : decode Y.2.1 pc = .ok (.ifCond .ne off, 3)) (ht : (pc : Int) + off = (tgt : Int)) (hx : InR x) (kt : ¬ x = 0 → V G Y d rc rs tgt ls st h F) (kf : ¬ (¬ x = 0) → V G Y d rc rs (pc + 3) ls st h F) : V G Y d rc rs pc ls (aI x :: st) h F := by
  by_cases hb : ¬ x = 0
  · exact V.lift (fun _ _ _ _ _ _ _ _ _ _ _ _ _ _ _ lsC hC hls _ _ _ _ k => lv_if_ne hC.1 hC.2.1 hd ht (fun _ => k lsC hls) (fun q => ((not_congr (oi_eq (y := 0) hx InR0)).mpr hb q).elim)) (kt hb)
  · exact V.lift (fun _ _ _ _ _ _ _ _ _ _ _ _ _ _ _ lsC hC hls _ _ _ _ k => lv_if_ne hC.1 hC.2.1 hd ht (fun q => absurd ((not_congr (oi_eq (y := 0) hx InR0)).mp q) hb) (fun _ => k lsC hls)) (kf hb)
theorem v_iflt {x : Int} {off : Int} (tgt : Nat) (hd : decode Y.2.1 pc = .ok (.ifCond .lt off, 3)) (ht : (pc : Int) + off = (tgt : Int)) (hx : InR x) (kt : x < 0 → V G Y d rc rs tgt ls st h F) (kf : ¬ (x < 0) → V G Y d rc rs (pc + 3) ls st h F) : V G Y d rc rs pc ls (aI x :: st) h F := by
  by_cases hb : x < 0
  · exact V.lift (fun _ _ _ _ _ _ _ _ _ _ _ _ _ _ _ lsC hC hls _ _ _ _ k => lv_if_lt hC.1 hC.2.1 hd ht (fun _ => k lsC hls) (fun q => absurd ((oi_lt (y := 0) hx InR0).mpr hb) q)) (kt hb)
  · exact V.lift (fun _ _ _ _ _ _ _ _ _ _ _ _ _ _ _ lsC hC hls _ _ _ _ k => lv_if_lt hC.1 hC.2.1 hd ht (fun q => absurd ((oi_lt (y := 0) hx InR0).mp q) hb) (fun _ => k lsC hls)) (kf hb)
theorem v_ifge {x : Int} {off : Int} (tgt : Nat) (hd : decode Y.2.1 pc = .ok (.ifCond .ge off, 3)) (ht : (pc : Int) + off = (tgt : Int)) (hx : InR x) (kt : 0 ≤ x → V G Y d rc rs tgt ls st h F) (kf : ¬ (0 ≤ x) → V G Y d rc rs (pc + 3) ls st h F) : V G Y d rc rs pc ls (aI x :: st) h F := by
  by_cases hb : 0 ≤ x
  · exact V.lift (fun _ _ _ _ _ _ _ _ _ _ _ _ _ _ _ lsC hC hls _ _ _ _ k => lv_if_ge hC.1 hC.2.1 hd ht (fun _ => k lsC hls) (fun q => absurd ((oi_le (x := 0) InR0 hx).mpr hb) q)) (kt hb)
  · exact V.lift (fun _ _ _ _ _ _ _ _ _ _ _ _ _ _ _ lsC hC hls _ _ _ _ k => lv_if_ge hC.1 hC.2.1 hd ht (fun q => absurd ((oi_le (x := 0) InR0 hx).mp q) hb) (fun _ => k lsC hls)) (kf hb)
theorem v_ifgt {x : Int} {off : Int} (tgt : Nat) (hd : decode Y.2.1 pc = .ok (.ifCond .gt off, 3)) (ht : (pc : Int) + off = (tgt : Int)) (hx : InR x) (kt : 0 < x → V G Y d rc rs tgt ls st h F) (kf : ¬ (0 < x) → V G Y d rc rs (pc + 3) ls st h F) : V G Y d rc rs pc ls (aI x :: st) h F := by
  by_cases hb : 0 < x
  · exact V.lift (fun _ _ _ _ _ _ _ _ _ _ _ _ _ _ _ lsC hC hls _ _ _ _ k => lv_if_gt hC.1 hC.2.1 hd ht (fun _ => k lsC hls) (fun q => absurd ((oi_lt (x := 0) InR0 hx).mpr hb) q)) (kt hb)
  · exact V.lift (fun _ _ _ _ _ _ _ _ _ _ _ _ _ _ _ lsC hC hls _ _ _ _ k => lv_if_gt hC.1 hC.2.1 hd ht (fun q => absurd ((oi_lt (x := 0) InR0 hx).mp q) hb) (fun _ => k lsC hls)) (kf hb)
theorem v_ifle {x : Int} {off : Int} (tgt : Nat) (hd : decode Y.2.1 pc = .ok (.ifCond .le off, 3)) (ht : (pc : Int) + off = (tgt : Int)) (hx : InR x) (kt : x ≤ 0 → V G Y d rc rs tgt ls st h F) (kf : ¬ (x ≤ 0) → V G Y d rc rs (pc + 3) ls st h F) : V G Y d rc rs pc ls (aI x :: st) h F := by
  by_cases hb : x ≤ 0
  · exact V.lift (fun _ _ _ _ _ _ _ _ _ _ _ _ _ _ _ lsC hC hls _ _ _ _ k => lv_if_le hC.1 hC.2.1 hd ht (fun _ => k lsC hls) (fun q => absurd ((oi_le (y := 0) hx InR0).mpr hb) q)) (kt hb)
  · exact V.lift (fun _ _ _ _ _ _ _ _ _ _ _ _ _ _ _ lsC hC hls _ _ _ _ k => lv_if_le hC.1 hC.2.1 hd ht (fun q => absurd ((oi_le (y := 0) hx InR0).mp q) hb) (fun _ => k lsC hls)) (kf hb)
theorem v_iceq {x y : Int} {off : Int} (tgt : Nat) (hd : decode Y.2.1 pc = .ok (.if_icmp .eq off, 3)) (ht : (pc : Int) + off = (tgt : Int)) (hx : InR x) (hy : InR y) (kt : x = y → V G Y d rc rs tgt ls st h F) (kf : ¬ (x = y) → V G Y d rc rs (pc + 3) ls st h F) : V G Y d rc rs pc ls (aI y :: aI x :: st) h F := by
  by_cases hb : x = y
  · exact V.lift (fun _ _ _ _ _ _ _ _ _ _ _ _ _ _ _ lsC hC hls _ _ _ _ k => lv_icmp_eq hC.1 hC.2.1 hd ht (fun _ => k lsC hls) (fun q => absurd ((oi_eq hx hy).mpr hb) q)) (kt hb)
  · exact V.lift (fun _ _ _ _ _ _ _ _ _ _ _ _ _ _ _ lsC hC hls _ _ _ _ k => lv_icmp_eq hC.1 hC.2.1 hd ht (fun q => absurd ((oi_eq hx hy).mp q) hb) (fun _ => k lsC hls)) (kf hb)
theorem v_icne {x y : Int} {off : Int} (tgt : Nat) (hd : decode Y.2.1 pc = .ok (.if_icmp .ne off, 3)) (ht : (pc : Int) + off = (tgt : Int)) (hx : InR x) (hy : InR y) (kt : ¬ x = y → V G Y d rc rs tgt ls st h F) (kf : ¬ (¬ x = y) → V G Y d rc rs (pc + 3) ls st h F) : V G Y d rc rs pc ls (aI y :: aI x :: st) h F := by
  by_cases hb : ¬ x = y
  · exact V.lift (fun _ _ _ _ _ _ _ _ _ _ _ _ _ _ _ lsC hC hls _ _ _ _ k => lv_icmp_ne hC.1 hC.2.1 hd ht (fun _ => k lsC hls) (fun q => ((not_congr (oi_eq hx hy)).mpr hb q).elim)) (kt hb)
  · exact V.lift (fun _ _ _ _ _ _ _ _ _ _ _ _ _ _ _ lsC hC hls _ _ _ _ k => lv_icmp_ne hC.1 hC.2.1 hd ht (fun q => absurd ((not_congr (oi_eq hx hy)).mp q) hb) (fun _ => k lsC hls)) (kf hb)
theorem v_iclt {x y : Int} {off : Int} (tgt : Nat) (hd : decode Y.2.1 pc = .ok (.if_icmp .lt off, 3)) (ht : (pc : Int) + off = (tgt : Int)) (hx : InR x) (hy : InR y) (kt : x < y → V G Y d rc rs tgt ls st h F) (kf : ¬ (x < y) → V G Y d rc rs (pc + 3) ls st h F) : V G Y d rc rs pc ls (aI y :: aI x :: st) h F := by
  by_cases hb : x < y
  · exact V.lift (fun _ _ _ _ _ _ _ _ _ _ _ _ _ _ _ lsC hC hls _ _ _ _ k => lv_icmp_lt hC.1 hC.2.1 hd ht (fun _ => k lsC hls) (fun q => absurd ((oi_lt hx hy).mpr hb) q)) (kt hb)
  · exact V.lift (fun _ _ _ _ _ _ _ _ _ _ _ _ _ _ _ lsC hC hls _ _ _ _ k => lv_icmp_lt hC.1 hC.2.1 hd ht (fun q => absurd ((oi_lt hx hy).mp q) hb) (fun _ => k lsC hls)) (kf hb)
theorem v_icge {x y : Int} {off : Int} (tgt : Nat) (hd : decode Y.2.1 pc = .ok (.if_icmp .ge off, 3)) (ht : (pc : Int) + off = (tgt : Int)) (hx : InR x) (hy : InR y) (kt : y ≤ x → V G Y d rc rs tgt ls st h F) (kf : ¬ (y ≤ x) → V G Y d rc rs (pc + 3) ls st h F) : V G Y d rc rs pc ls (aI y :: aI x :: st) h F := by
  by_cases hb : y ≤ x
  · exact V.lift (fun _ _ _ _ _ _ _ _ _ _ _ _ _ _ _ lsC hC hls _ _ _ _ k => lv_icmp_ge hC.1 hC.2.1 hd ht (fun _ => k lsC hls) (fun q => absurd ((oi_le hy hx).mpr hb) q)) (kt hb)
  · exact V.lift (fun _ _ _ _ _ _ _ _ _ _ _ _ _ _ _ lsC hC hls _ _ _ _ k => lv_icmp_ge hC.1 hC.2.1 hd ht (fun q => absurd ((oi_le hy hx).mp q) hb) (fun _ => k lsC hls)) (kf hb)
theorem v_icgt {x y : Int} {off : Int} (tgt : Nat) (hd : decode Y.2.1 pc = .ok (.if_icmp .gt off, 3)) (ht : (pc : Int) + off = (tgt : Int)) (hx : InR x) (hy : InR y) (kt : y < x → V G Y d rc rs tgt ls st h F) (kf : ¬ (y < x) → V G Y d rc rs (pc + 3) ls st h F) : V G Y d rc rs pc ls (aI y :: aI x :: st) h F := by
  by_cases hb : y < x
  · exact V.lift (fun _ _ _ _ _ _ _ _ _ _ _ _ _ _ _ lsC hC hls _ _ _ _ k => lv_icmp_gt hC.1 hC.2.1 hd ht (fun _ => k lsC hls) (fun q => absurd ((oi_lt hy hx).mpr hb) q)) (kt hb)
  · exact V.lift (fun _ _ _ _ _ _ _ _ _ _ _ _ _ _ _ lsC hC hls _ _ _ _ k => lv_icmp_gt hC.1 hC.2.1 hd ht (fun q => absurd ((oi_lt hy hx).mp q) hb) (fun _ => k lsC hls)) (kf hb)
theorem v_icle {x y : Int} {off : Int} (tgt : Nat) (hd : decode Y.2.1 pc = .ok (.if_icmp .le off, 3)) (ht : (pc : Int) + off = (tgt : Int)) (hx : InR x) (hy : InR y) (kt : x ≤ y → V G Y d rc rs tgt ls st h F) (kf : ¬ (x ≤ y) → V G Y d rc rs (pc + 3) ls st h F) : V G Y d rc rs pc ls (aI y :: aI x :: st) h F := by
  by_cases hb : x ≤ y
  · exact V.lift (fun _ _ _ _ _ _ _ _ _ _ _ _ _ _ _ lsC hC hls _ _ _ _ k => lv_icmp_le hC.1 hC.2.1 hd ht (fun _ => k lsC hls) (fun q => absurd ((oi_le hx hy).mpr hb) q)) (kt hb)
  · exact V.lift (fun _ _ _ _ _ _ _ _ _ _ _ _ _ _ _ lsC hC hls _ _ _ _ k => lv_icmp_le hC.1 hC.2.1 hd ht (fun q => absurd ((oi_le hx hy).mp q) hb) (fun _ => k lsC hls)) (kf hb)
/-- the same number twice -/
theorem v_iceq_same {x : Int} {off : Int} (tgt : Nat) (hd : decode Y.2.1 pc = .ok (.if_icmp .eq off, 3)) (ht : (pc : Int) + off = (tgt : Int)) (kt : V G Y d rc rs tgt ls st h F) : V G Y d rc rs pc ls (aI x :: aI x :: st) h F :=
  V.lift (fun _ _ _ _ _ _ _ _ _ _ _ _ _ _ _ lsC hC hls hc hs hdd hll k => lv_icmp_eq hC.1 hC.2.1 hd ht (fun _ => k lsC hls) (fun q => absurd rfl q)) kt
theorem v_ifnull {a : Nat} {off : Int} (hd : decode Y.2.1 pc = .ok (.ifnull off, 3)) (k : V G Y d rc rs (pc + 3) ls st h F) : V G Y d rc rs pc ls (aR a :: st) h F :=
  V.lift (fun _ _ _ _ _ _ _ _ _ _ _ _ _ _ _ lsC hC hls hc hs hdd hll k => lv_ifnull hC.1 hC.2.1 hd (k lsC hls)) k
theorem v_ifnonnull {a : Nat} {off : Int} (tgt : Nat) (hd : decode Y.2.1 pc = .ok (.ifnonnull off, 3)) (ht : (pc : Int) + off = (tgt : Int)) (k : V G Y d rc rs tgt ls st h F) : V G Y d rc rs pc ls (aR a :: st) h F :=
  V.lift (fun _ _ _ _ _ _ _ _ _ _ _ _ _ _ _ lsC hC hls hc hs hdd hll k => lv_ifnonnull hC.1 hC.2.1 hd ht (k lsC hls)) k
theorem v_lookup {dflt : Int} {ps : Array (Int × Int)} {len : Nat} {x : Int} {off : Int} (tgt : Nat) (hd : decode Y.2.1 pc = .ok (.lookupswitch dflt ps, len)) (hx : InR x) (hp : (ps.toList.zip (ps.toList.drop 1)).all (fun (a, next) => a.1 < next.1) = true) (ho : Op.lookupswitch.offset ps.toList dflt x = off) (ht : (pc : Int) + off = (tgt : Int)) (k : V G Y d rc rs tgt ls st h F) : V G Y d rc rs pc ls (aI x :: st) h F :=
  V.lift (fun _ _ _ _ _ _ _ _ _ _ _ _ _ _ _ lsC hC hls hc hs hdd hll k => lv_lookup hC.1 hC.2.1 hd hp (by rw [oi_toInt hx]; exact ho) ht (k lsC hls)) k
theorem v_tableOut {dflt lo hi : Int} {offs : Array Int} {len : Nat} {x : Int} (tgt : Nat) (hd : decode Y.2.1 pc = .ok (.tableswitch dflt lo hi offs, len)) (hx : InR x) (hb : x < lo ∨ hi < x) (ht : (pc : Int) + dflt = (tgt : Int)) (k : V G Y d rc rs tgt ls st h F) : V G Y d rc rs pc ls (aI x :: st) h F :=
  V.lift (fun _ _ _ _ _ _ _ _ _ _ _ _ _ _ _ lsC hC hls hc hs hdd hll k => lv_tableOut hC.1 hC.2.1 hd (by rw [oi_toInt hx]; exact hb) ht (k lsC hls)) k
theorem v_tableIn {dflt lo hi : Int} {offs : Array Int} {len : Nat} {x : Int} {off : Int} (tgt : Nat) (hd : decode Y.2.1 pc = .ok (.tableswitch dflt lo hi offs, len)) (hx : InR x) (h1 : lo ≤ x) (h2 : x ≤ hi) (ho : offs[(x - lo).toNat]? = some off) (ht : (pc : Int) + off = (tgt : Int)) (k : V G Y d rc rs tgt ls st h F) : V G Y d rc rs pc ls (aI x :: st) h F :=
  V.lift (fun _ _ _ _ _ _ _ _ _ _ _ _ _ _ _ lsC hC hls hc hs hdd hll k => lv_tableIn hC.1 hC.2.1 hd (by rw [oi_toInt hx]; omega) (by rw [oi_toInt hx]; omega) (by rw [oi_toInt hx]; exact ho) ht (k lsC hls)) k
theorem v_ladd {x y : Int} (hd : decode Y.2.1 pc = .ok (.ladd, 1)) (k : V G Y d rc rs (pc + 1) ls (aJ (x + y) :: st) h F) : V G Y d rc rs pc ls (aJ y :: aJ x :: st) h F :=
  V.lift (fun _ _ _ _ _ _ _ _ _ _ _ _ _ _ _ lsC hC hls hc hs hdd hll k => lv_ladd hC.1 hC.2.1 hd (by rw [← Int64.ofInt_add]; exact k lsC hls)) k
theorem v_lsub {x y : Int} (hd : decode Y.2.1 pc = .ok (.lsub, 1)) (k : V G Y d rc rs (pc + 1) ls (aJ (x - y) :: st) h F) : V G Y d rc rs pc ls (aJ y :: aJ x :: st) h F :=
  V.lift (fun _ _ _ _ _ _ _ _ _ _ _ _ _ _ _ lsC hC hls hc hs hdd hll k => lv_lsub hC.1 hC.2.1 hd (by rw [← Int64.ofInt_sub]; exact k lsC hls)) k
theorem v_lmul {x y : Int} (hd : decode Y.2.1 pc = .ok (.lmul, 1)) (k : V G Y d rc rs (pc + 1) ls (aJ (x * y) :: st) h F) : V G Y d rc rs pc ls (aJ y :: aJ x :: st) h F :=
  V.lift (fun _ _ _ _ _ _ _ _ _ _ _ _ _ _ _ lsC hC hls hc hs hdd hll k => lv_lmul hC.1 hC.2.1 hd (by rw [← Int64.ofInt_mul]; exact k lsC hls)) k
theorem v_i2l {x : Int} (hd : decode Y.2.1 pc = .ok (.i2l, 1)) (hx : InR x) (k : V G Y d rc rs (pc + 1) ls (aJ x :: st) h F) : V G Y d rc rs pc ls (aI x :: st) h F :=
  V.lift (fun _ _ _ _ _ _ _ _ _ _ _ _ _ _ _ lsC hC hls hc hs hdd hll k => lv_i2l hC.1 hC.2.1 hd (v := Int64.ofInt x) (Int32.toInt64_ofInt (show Int32.minValue.toInt ≤ x from hx.1) (show x ≤ Int32.maxValue.toInt from hx.2)) (k lsC hls)) k
theorem v_lcmp_same {x : Int} (hd : decode Y.2.1 pc = .ok (.lcmp, 1)) (k : V G Y d rc rs (pc + 1) ls (aI 0 :: st) h F) : V G Y d rc rs pc ls (aJ x :: aJ x :: st) h F :=
  V.lift (fun _ _ _ _ _ _ _ _ _ _ _ _ _ _ _ lsC hC hls hc hs hdd hll k => W.lcmp hC.1 hC.2.1 hd (by rw [show lg_cmp (Int64.ofInt x) (Int64.ofInt x) = Int32.ofInt 0 by simp [lg_cmp]]; exact k lsC hls)) k
theorem st2_get : ∀ (i : Nat) (v : AV) (l : List (Option AV)) (j : Nat) (w : AV), i + 1 < l.length → (st2 i v l)[j]? = some (some w) → (j = i ∧ w = v) ∨ (j ≠ i ∧ j ≠ i + 1 ∧ l[j]? = some (some w) ∧ ¬ (j + 1 = i ∧ isL (some w) = true))
  | 0, v, [], j, w, hi, h => by simp at hi
  | 0, v, [a], j, w, hi, h => by simp at hi
  | 0, v, a :: b :: t, j, w, hi, h => by
    match j, h with
    | 0, h => simp [st2] at h; exact Or.inl ⟨rfl, h.symm⟩
    | 1, h => simp [st2] at h
    | j + 2, h => exact Or.inr ⟨by omega, by omega, by simpa [st2] using h, by omega⟩
  | 1, v, [], j, w, hi, h => by simp at hi
  | 1, v, [a], j, w, hi, h => by simp at hi
  | 1, v, [a, b], j, w, hi, h => by simp at hi
  | 1, v, a :: b :: c :: t, j, w, hi, h => by
    match j, h with
    | 0, h =>
      simp only [st2, List.getElem?_cons_zero, Option.some.injEq, killJ] at h
      split at h
      · cases h
      · rename_i hn
        rw [h] at hn
        exact Or.inr ⟨by omega, by omega, by simp [h], fun q => hn q.2⟩
    | 1, h => simp [st2] at h; exact Or.inl ⟨rfl, h.symm⟩
    | 2, h => simp [st2] at h
    | j + 3, h => exact Or.inr ⟨by omega, by omega, by simpa [st2] using h, by omega⟩
  | i + 2, v, [], j, w, hi, h => by simp at hi
  | i + 2, v, a :: t, j, w, hi, h => by
    cases j with
    | zero => exact Or.inr ⟨by omega, by omega, by simpa [st2] using h, by omega⟩
    | succ j =>
      have hi' : i + 1 + 1 < t.length := by simp at hi; omega
      have := st2_get (i + 1) v t j w hi' (by simpa [st2] using h)
      rcases this with ⟨e1, e2⟩ | ⟨e1, e0, e2, e3⟩
      · exact Or.inl ⟨by omega, e2⟩
      · exact Or.inr ⟨by omega, by omega, by simpa using e2, fun q => e3 ⟨by omega, q.2⟩⟩
theorem aLS.st2 {G : Gx} {ls : List (Option AV)} {ls' : Array Slot} {nL i : Nat} {v : AV} (hi : i + 1 < ls.length)
    (h : lv_has ls' nL ((i, cv G v) :: (prs G 0 ls).filter (fun q => !(q.1 == i) && (!(q.1 == i + 1) && !(q.1 + 1 == i && q.2.category == 2))))) : aLS G (st2 i v ls) ls' nL := by
  refine ⟨h.1, h.2.1, fun q hq => ?_⟩
  obtain ⟨j, w, h1, rfl⟩ := (prs_mem _ 0 _).mp hq
  rw [Nat.zero_add]
  refine h.2.2 (j, cv G w) ?_
  rcases st2_get i v ls j w hi h1 with ⟨rfl, rfl⟩ | ⟨e1, e0, e2, e3⟩
  · exact List.mem_cons_self
  · refine List.mem_cons_of_mem _ (List.mem_filter.mpr ⟨(prs_mem ls 0 _).mpr ⟨j, w, e2, by simp⟩, ?_⟩)
    simp only [Bool.and_eq_true, Bool.not_eq_true', beq_eq_false_iff_ne, ne_eq, Bool.and_eq_false_iff]
    refine ⟨e1, e0, ?_⟩
    by_cases hj : j + 1 = i
    · right
      have : ¬ isL (some w) = true := fun q => e3 ⟨hj, q⟩
      have h2 := mt (isL_cat G w).mp this
      simpa using h2
    · left; exact hj
theorem v_lstore_n {n : Fin 4} {x : Int} (hd : decode Y.2.1 pc = .ok (.lstore_n n, 1)) (hn : (n : Nat) + 1 < Y.2.2.1 ∧ (n : Nat) + 1 < ls.length) (k : V G Y d rc rs (pc + 1) (st2 n (aJ x) ls) st h F) : V G Y d rc rs pc ls (aJ x :: st) h F :=
  V.lift (fun _ _ _ _ _ _ _ _ _ _ _ _ _ _ _ lsC hC hls hc hs hdd hll k => lv_lstore_n hC.1 hC.2.1 hd rfl hls hn.1 rfl (fun ls' h' => k ls' (aLS.st2 (v := aJ x) hn.2 h'))) k
theorem v_lstore {n : Nat} {x : Int} (hd : decode Y.2.1 pc = .ok (.lstore n, 2)) (hn : n + 1 < Y.2.2.1 ∧ n + 1 < ls.length) (k : V G Y d rc rs (pc + 2) (st2 n (aJ x) ls) st h F) : V G Y d rc rs pc ls (aJ x :: st) h F :=
  V.lift (fun _ _ _ _ _ _ _ _ _ _ _ _ _ _ _ lsC hC hls hc hs hdd hll k => lv_lstore hC.1 hC.2.1 hd hls hn.1 rfl (fun ls' h' => k ls' (aLS.st2 (v := aJ x) hn.2 h'))) k
theorem v_ldc {v : Int32} {x : Int} {idx : Nat} (hw : Cond.constant Y.1.cls idx v ∈ wsAll) (hd : decode Y.2.1 pc = .ok (.ldc idx, 2)) (hx : Int32.ofInt x = v) (k : V G Y d rc rs (pc + 2) ls (aI x :: st) h F) : V G Y d rc rs pc ls st h F :=
  V.lift (fun _ _ _ _ _ _ _ _ _ _ _ _ _ _ _ lsC hC hls hc hs hdd hll k => lv_ldc hC.1 hC.2.1 hC.2.2.2.2.2.1 (hC.2.2.2.2.2.2.2.1 _ hw) hd (by rw [← hx]; exact k lsC hls)) k
theorem v_ldc2 {v : Int64} {x : Int} {idx : Nat} (hw : Cond.constantLong Y.1.cls idx v ∈ wsAll) (hd : decode Y.2.1 pc = .ok (.ldc2_w idx, 3)) (hx : Int64.ofInt x = v) (k : V G Y d rc rs (pc + 3) ls (aJ x :: st) h F) : V G Y d rc rs pc ls st h F :=
  V.lift (fun _ _ _ _ _ _ _ _ _ _ _ _ _ _ _ lsC hC hls hc hs hdd hll k => lv_ldc2 hC.1 hC.2.1 hC.2.2.2.2.2.1 (hC.2.2.2.2.2.2.2.1 _ hw) hd (by rw [← hx]; exact k lsC hls)) k
/-- a String constant -/
theorem v_ldcS {i idx : Nat} (hY : Y.1.cls = R_Text) (hi : i < 6) (he : sIdx i = idx) (hd : decode Y.2.1 pc = .ok (.ldc idx, 2)) (k : V G Y d rc rs (pc + 2) ls (aR (1 + i) :: st) h F) : V G Y d rc rs pc ls st h F :=
  V.lift (fun _ _ _ _ _ _ _ _ _ _ _ _ _ _ _ lsC hC hls hc hs hdd hll k => by
    have hz := hC.2.2.2.2.2.2.2.2.2.2.1 i hi
    rw [he] at hz
    have hk := k lsC hls
    have e : Ad G (1 + i) = gS G (1 + i) := by unfold Ad; rw [if_pos (by omega)]
    refine va_ldcS hC.1 hC.2.1 (by rw [← hY]; exact hC.2.2.2.2.2.1) hz hd ?_
    rw [← e]
    exact hk) k
end VR
