/-! contracts of methods over abstract heaps -/
def Pcx (G : Gx) (as : List AV) (h : AH) : Array Value → State → Prop := fun a s => a = (cS G as).toArray ∧ Rep G h s.heap ∧ KS G s
def Qcx (G : Gx) (F : Option AV → AH → Prop) : Array Value → State → Outcome → State → Prop := fun _ _ o t => ∃ v h, o = .returned (v.map (cv G)) ∧ Rep G h t.heap ∧ F v h
def rmx (d mc ms : Nat) : Room := { frames := d, cells := mc, slots := ms, locals := 38 * d }
def wsx (Y : Yx) : List Cond := Cond.code Y.1 Y.2.1 Y.2.2.1 Y.2.2.2 :: wsAll
def Ct (G : Gx) (Y : Yx) (d mc ms : Nat) (as : List AV) (h : AH) (F : Option AV → AH → Prop) : Prop := ∀ l, Met l Y.1 (wsx Y) (rmx d mc ms) (Pcx G as h) (Qcx G F) mc ms (fun q => gz G ≤ q)
/-- the answer and the heap are just these -/
def isR (v0 : Option AV) (h0 : AH) : Option AV → AH → Prop := fun v h => v = v0 ∧ h = h0
def entL : Nat → List AV → List (Option AV)
  | 0, _ => []
  | n + 1, [] => none :: entL n []
  | n + 1, a :: t => some a :: entL n t
def noL : List AV → Bool
  | [] => true
  | .inr (.inl _) :: _ => false
  | _ :: t => noL t
theorem noL_cat {G : Gx} : ∀ {v : AV} {t : List AV}, noL (v :: t) = true → (cv G v).category = 1 ∧ noL t = true
  | .inl _, t, h => ⟨rfl, h⟩
  | .inr (.inl _), t, h => by cases h
  | .inr (.inr none), t, h => ⟨rfl, h⟩
  | .inr (.inr (some _)), t, h => ⟨rfl, h⟩
theorem entL_in {G : Gx} : ∀ (n k : Nat) (as : List AV), noL as = true → ∀ q ∈ prs G k (entL n as), q ∈ lv_args k (cS G as)
  | 0, k, as, _, q, hq => by simp [entL, prs] at hq
  | n + 1, k, [], hn, q, hq => by
    have := entL_in n (k + 1) [] rfl q (by simpa [entL, prs] using hq)
    simp [cS, lv_args] at this
  | n + 1, k, a :: t, hn, q, hq => by
    obtain ⟨h1, h2⟩ := noL_cat (G := G) hn
    show q ∈ (k, cv G a) :: lv_args (if (cv G a).category = 2 then k + 2 else k + 1) (cS G t)
    rw [h1, if_neg (by decide)]
    rcases List.mem_cons.mp (show q ∈ (k, cv G a) :: prs G (k + 1) (entL n t) from hq) with h | h
    · exact List.mem_cons.mpr (Or.inl h)
    · exact List.mem_cons.mpr (Or.inr (entL_in n (k + 1) t h2 q h))
theorem lg_sl_len {G : Gx} : ∀ (as : List AV), noL as = true → (lg_sl (cS G as)).length = as.length
  | [], _ => rfl
  | a :: t, h => by
    obtain ⟨h1, h2⟩ := noL_cat (G := G) h
    show (lg_sl (cv G a :: cS G t)).length = _
    unfold lg_sl
    rw [List.flatMap_cons, h1, if_neg (by decide)]
    show (lg_sl (cS G t)).length + 1 = t.length + 1
    rw [lg_sl_len t h2]
theorem headRoom (ws : List Cond) (rm : Room) : (headSpec ws rm).room = rm := rfl
/-- the frame's end is the contract's end -/
theorem VE_mq {G : Gx} {Y : Yx} {p : Program} {l : Launch} {e : Env} {s : State} {m : MethodId} {args : Array Value} {below : List Frame} {meth : Method} {c : Code} {d mc ms : Nat} {F : Option AV → AH → Prop} (hx : p.tables.exec = Jvm.exec) (hb : c.code = Y.2.1) (hr : meth.sig.returnType = Y.2.2.2) (hlocks : meth.locks = false) :
    VE G Y p l e (rmx d mc ms) s m args below meth c F (MQ below (Qcx G F) args s mc ms (fun q => gz G ≤ q)) := by
  intro v h H locs cells slots pc lsC i hF hR hL hc hs hd hret
  refine W.widen (k := mc) (n := ms) hc hs ?_
  match v, hF, hret with
  | none, hF, hret =>
    obtain ⟨rfl, e2⟩ := hret
    exact W.vret hx hb (hr.trans e2) (fun t ht hW => ⟨none, h, rfl, by rw [ht]; exact hR, hF⟩) hL hd hlocks
  | some (.inl n), hF, hret =>
    obtain ⟨rfl, ty, e2, e3⟩ := hret
    exact W.zret hx hb (hr.trans e2) e3 (fun t ht hW => ⟨some (aI n), h, rfl, by rw [ht]; exact hR, hF⟩) hL hd hlocks
  | some (.inr (.inl n)), hF, hret =>
    obtain ⟨rfl, e2⟩ := hret
    exact W.lret hx hb (hr.trans e2) (fun t ht hW => ⟨some (aJ n), h, rfl, by rw [ht]; exact hR, hF⟩) hL hd hlocks
  | some (.inr (.inr a)), hF, hret =>
    obtain ⟨rfl, n, e2⟩ := hret
    exact W.aret (v := cv G (.inr (.inr a))) hx hb (hr.trans e2) (Or.inl ⟨_, rfl⟩) (by cases a with
      | none => exact Or.inl rfl
      | some a => exact Or.inr ⟨_, rfl⟩) (fun t ht hW => ⟨some (.inr (.inr a)), h, rfl, by rw [ht]; exact hR, hF⟩) hL hd hlocks
theorem Ct.of_V {G : Gx} {Y : Yx} {d mc ms n : Nat} {as : List AV} {h : AH} {F : Option AV → AH → Prop} {ls : List (Option AV)} (hm : MOK Y n) (hn : noL as = true) (hl : as.length ≤ Y.2.2.1) (he : entL Y.2.2.1 as = ls)
    (k : V G Y d mc ms 0 ls [] h F) : Ct G Y d mc ms as h F := by
  intro l
  refine Met.ofW (cc := Y.2.1) (maxL := Y.2.2.1) (ret := Y.2.2.2) hm.2.2.2.1 rfl ?_
  intro p e s m args below meth c s₁ B hml hP
  obtain ⟨rfl, hR, hKS⟩ := hP
  have hts := atoms_spec (ws := wsx Y) B.pre
  have hls := lv_entry (cS G as) (n := Y.2.2.1) (by rw [lg_sl_len as hn]; exact hl)
  rw [lg_entry_eq]
  generalize (lg_sl (cS G as) ++ List.replicate (Y.2.2.1 - (lg_sl (cS G as)).length) Slot.unset).toArray = lsC at hls ⊢
  have hls' : aLS G ls lsC Y.2.2.1 := ⟨hls.1, hls.2.1, fun q hq => hls.2.2 q (entL_in _ 0 as hn q (by rw [he]; exact hq))⟩
  exact k p l e (rmx d mc ms) s m _ below meth c _ ⟨B.exec, B.bytes, hml, B.returns, B.notSynchronized, findClass_of_methodNamed B.named, (name_of_methodNamed B.named B.method).1, fun w hw => hts w (List.mem_cons_of_mem _ hw), hKS⟩
    (VE_mq B.exec B.bytes B.returns B.notSynchronized) (Nat.le_refl _) (Nat.le_refl _) s.heap [] 0 0 lsC hR (fun _ h => by cases h) (by show 0 + mc ≤ mc; omega) (by show 0 + ms ≤ ms; omega) hls'
theorem Ct.mono {G : Gx} {Y : Yx} {d mc ms : Nat} {as : List AV} {h : AH} {F F' : Option AV → AH → Prop} (hF : ∀ v h, F v h → F' v h) (k : Ct G Y d mc ms as h F) : Ct G Y d mc ms as h F' := by
  intro l p e ha hc hk s m args below hf hP h1 h2
  obtain ⟨j, o, a1, a2, a3, ⟨v, h', q1, q2, q3⟩, q4⟩ := k l p e ha hc hk s m args below hf hP h1 h2
  exact ⟨j, o, a1, a2, a3, ⟨v, h', q1, q2, hF v h' q3⟩, q4⟩
theorem good_all : ∀ w ∈ wsAll, goodWord w = true := fun w hw => (List.mem_filter.mp hw).2
theorem good_x {Y : Yx} {n : Nat} (hm : MOK Y n) : GoodIn wsAll (wsx Y) := by
  intro w hw
  rcases List.mem_cons.mp hw with rfl | hw
  · exact ⟨hm.1, good_of_word (good_all _ hm.1)⟩
  · exact ⟨hw, good_of_word (good_all _ hw)⟩
theorem Pcx_blind {G : Gx} {as : List AV} {h : AH} : FrameBlind (Pcx G as h) := fun a U g mk ⟨h1, h2, h3⟩ => ⟨h1, h2, KS.same (s := U) (U := U.calling g mk a) rfl h3⟩
section VCALL
variable {G : Gx} {Y : Yx} {d rc rs pc : Nat} {ls : List (Option AV)} {st : List AV} {h : AH} {F : Option AV → AH → Prop}
theorem v_runX {p : Program} {l : Launch} {e : Env} {R : Room} {s : State} {m : MethodId} {args : Array Value} {below : List Frame} {meth : Method} {c : Code} {H : Heap} {locs : List Loc} {cells slots mc ms : Nat} {Q : State → Prop} {g : JFrame} {rest : List Value} {Qa : State → Outcome → State → Prop} {free : Addr → Prop}
    (hr : va_Run p l e R s m args below meth c H locs cells slots mc ms g rest Qa free)
    (kk : ∀ (v : Option Value) (st₀ t : State) (L : List Loc), Qa st₀ (.returned v) t → (∀ q ∈ L, free q.base) → W p l e R s m args below meth c t.heap (locs ++ L) (cells + mc) (slots + ms) Q { g with pc := g.pc + 3, stack := v.toList ++ rest }) : W p l e R s m args below meth c H locs cells slots Q g := by
  intro T hT X
  obtain ⟨v, st₀, t, T', L, h0, X', hL, e1, e2, hq, st⟩ := hr T hT X
  obtain ⟨t2, a1, b1⟩ := kk v st₀ t L hq hL T' e1 X'
  exact ⟨t2, st t2 a1, b1⟩
theorem v_back {p : Program} {l : Launch} {e : Env} {R : Room} {s : State} {m : MethodId} {args : Array Value} {below : List Frame} {meth : Method} {c : Code} {H : Heap} {locs : List Loc} {cells slots mc ms : Nat} {Q : State → Prop} {lsC : Array Slot} {g : JFrame} {as : Array Value} {F' : Option AV → AH → Prop} {rest : List AV}
    (hg : g = F0 m pc lsC g.stack)
    (K : ∀ v h', F' v h' → V G Y d rc rs (pc + 3) ls (v.toList ++ rest) h' F) (hC : VC G Y p s m args meth c) (hE : VE G Y p l e R s m args below meth c F Q) (hd1 : d ≤ R.frames) (hl1 : 38 * d ≤ R.locals)
    (hL : ∀ q ∈ locs, gz G ≤ q.base) (hc : cells + (rc + mc) ≤ R.cells) (hs : slots + (rs + ms) ≤ R.slots) (hls : aLS G ls lsC Y.2.2.1)
    (hr : va_Run p l e R s m args below meth c H locs cells slots mc ms g (cS G rest) (Qcx G F' as) (fun q => gz G ≤ q)) : W p l e R s m args below meth c H locs cells slots Q g := by
  refine v_runX hr (fun v st₀ t L hq hL2 => ?_)
  obtain ⟨v', h', e1, e2, e3⟩ := hq
  cases e1
  have := K v' h' e3 p l e R s m args below meth c Q hC hE hd1 hl1 t.heap (locs ++ L) (cells + mc) (slots + ms) lsC e2 (fun q hq => (List.mem_append.mp hq).elim (hL q) (hL2 q)) (by omega) (by omega) hls
  rw [hg]
  rw [cS_app, show cS G v'.toList = (v'.map (cv G)).toList by cases v' <;> rfl] at this
  exact this
theorem v_callV {Y' : Yx} {d' mc ms n idx k a : Nat} {as stk : List AV} {fs : List AV} {F' : Option AV → AH → Prop} (hm : MOK Y' n) (hi : MI Y') (hv : MV Y') (hk : LK Y.1.cls idx Y') (hd : decode Y.2.1 pc = .ok (.invokevirtual idx, 3))
    (hobj : h.2 a = some (aO k fs)) (hcl : (cl[k]?).map (fun r => r.1) = some Y'.1.cls) (hn : as.length = n) (hc : catS st ≤ 8) (hst : stk = as.reverse ++ aR a :: st) (hd' : d' + 1 ≤ d) (C : Ct G Y' d' mc ms (aR a :: as) h F')
    (K : ∀ v h', F' v h' → V G Y d rc rs (pc + 3) ls (v.toList ++ st) h' F) : V G Y d (rc + mc) (rs + ms) pc ls stk h F := by
  intro p l e R s m args below meth c Q hC hE hd1 hl1 H locs cells slots lsC hR hL hc1 hs1 hls
  have hC' := hC
  obtain ⟨hx, hb, hml, -, -, hown, -, hts, hKS⟩ := hC
  subst hst
  have hfix : CallFix p m c Y.2.1 Y.2.2.1 s args wsAll Y.1.cls := ⟨hx, hb, hml, hown, hts⟩
  have hrecv : ∃ cell : Cell, H[Ad G a]? = some cell ∧ cell.vm.isStatics = false ∧ s.vm.findClass Y'.1.cls = some cell.cls := by
    obtain ⟨-, -, r, r1, cell, g1, g2, g3, -⟩ := hR.2.2.2.2 a _ hobj
    rw [r1] at hcl
    have e := Option.some.inj hcl
    exact ⟨cell, g1, by rw [g3]; rfl, by rw [g2, ← e]; exact (hKS.1.1 k r r1).2.1⟩
  have hpre : PreV s H Y'.1.cls (Ad G a) (Pcx G (aR a :: as) h) (cS G as) := ⟨Pcx_blind, hrecv, fun U hU hW => ⟨rfl, by rw [hU]; exact hR, hKS.warm hW⟩⟩
  have hroom : (rmx d' mc ms).frames + 1 ≤ R.frames ∧ 8 + (Y'.2.2.1 + 11) + (rmx d' mc ms).locals ≤ R.locals := by
    have h19 := hm.2.2.2.2
    refine ⟨?_, ?_⟩
    · show d' + 1 ≤ R.frames; omega
    · show 8 + (Y'.2.2.1 + 11) + 38 * d' ≤ R.locals; omega
  have hstk : (F0 m pc lsC (cS G (as.reverse ++ aR a :: st))).stack = (cS G as).reverse ++ Value.ref (Ad G a) :: cS G st := by
    show cS G (as.reverse ++ aR a :: st) = _
    rw [cS_app, cS_rev]; rfl
  have hW8 : 2 * (F0 m pc lsC (cS G (as.reverse ++ aR a :: st))).monitorRoom + ((cS G st).map fun v => v.category).sum ≤ 8 := lv_room (by rw [catS_cS]; exact hc)
  have hlen : (cS G as).length = n := by rw [cS_len]; exact hn
  rcases hk with hk | ⟨host, hk⟩
  · exact v_back rfl K hC' hE hd1 hl1 hL hc1 hs1 hls (va_runV hfix (C l) ⟨callB_of n hts (good_x hm) rfl rfl rfl (hts _ hm.2.1) (hts _ hk) hm.2.2.1 hroom, hts _ hi, hts _ hv⟩ hpre rfl hlen hls.1 hstk hW8 hd ⟨by omega, by omega⟩)
  · exact v_back rfl K hC' hE hd1 hl1 hL hc1 hs1 hls (va_runVN hfix (C l) ⟨va_cnB n hts (good_x hm) rfl rfl rfl (hKS.2.1 _ hk) (hts _ hm.2.1) hm.2.2.1 hroom, hts _ hi, hts _ hv⟩ hpre rfl hlen hls.1 hstk hW8 hd ⟨by omega, by omega⟩)
theorem v_callS {Y' : Yx} {d' mc ms n idx : Nat} {as stk : List AV} {F' : Option AV → AH → Prop} (hm : MOK Y' n) (hi : MS Y') (hk : LK Y.1.cls idx Y') (hd : decode Y.2.1 pc = .ok (.invokestatic idx, 3))
    (hn : as.length = n) (hc : catS st ≤ 8) (hst : stk = as.reverse ++ st) (hd' : d' + 1 ≤ d) (C : Ct G Y' d' mc ms as h F')
    (K : ∀ v h', F' v h' → V G Y d rc rs (pc + 3) ls (v.toList ++ st) h' F) : V G Y d (rc + mc) (rs + ms) pc ls stk h F := by
  intro p l e R s m args below meth c Q hC hE hd1 hl1 H locs cells slots lsC hR hL hc1 hs1 hls
  have hC' := hC
  obtain ⟨hx, hb, hml, -, -, hown, -, hts, hKS⟩ := hC
  subst hst
  have hfix : CallFix p m c Y.2.1 Y.2.2.1 s args wsAll Y.1.cls := ⟨hx, hb, hml, hown, hts⟩
  have hpre : PreS s H (Pcx G as h) (cS G as) := ⟨Pcx_blind, fun U hU hW => ⟨rfl, by rw [hU]; exact hR, hKS.warm hW⟩⟩
  have hroom : (rmx d' mc ms).frames + 1 ≤ R.frames ∧ 8 + (Y'.2.2.1 + 11) + (rmx d' mc ms).locals ≤ R.locals := by
    have h19 := hm.2.2.2.2
    refine ⟨?_, ?_⟩
    · show d' + 1 ≤ R.frames; omega
    · show 8 + (Y'.2.2.1 + 11) + 38 * d' ≤ R.locals; omega
  have hstk : (F0 m pc lsC (cS G (as.reverse ++ st))).stack = (cS G as).reverse ++ cS G st := by
    show cS G (as.reverse ++ st) = _
    rw [cS_app, cS_rev]
  have hW8 : 2 * (F0 m pc lsC (cS G (as.reverse ++ st))).monitorRoom + ((cS G st).map fun v => v.category).sum ≤ 8 := lv_room (by rw [catS_cS]; exact hc)
  have hlen : (cS G as).length = n := by rw [cS_len]; exact hn
  rcases hk with hk | ⟨host, hk⟩
  · exact v_back rfl K hC' hE hd1 hl1 hL hc1 hs1 hls (va_runS hfix (C l) ⟨callB_of n hts (good_x hm) rfl rfl rfl (hts _ hm.2.1) (hts _ hk) hm.2.2.1 hroom, hts _ hi⟩ hpre rfl hlen hls.1 hstk hW8 hd ⟨by omega, by omega⟩)
  · exact v_back rfl K hC' hE hd1 hl1 hL hc1 hs1 hls (va_runSN hfix (C l) ⟨va_cnB n hts (good_x hm) rfl rfl rfl (hKS.2.1 _ hk) (hts _ hm.2.1) hm.2.2.1 hroom, hts _ hi, trivial⟩ hpre rfl hlen hls.1 hstk hW8 hd ⟨by omega, by omega⟩)
theorem v_callI {Y' : Yx} {d' mc ms n idx a : Nat} {as stk : List AV} {F' : Option AV → AH → Prop} (hm : MOK Y' n) (hi : MI Y') (hy : Y'.1.name = "<init>") (hret : Y'.2.2.2 = none) (hk : LK Y.1.cls idx Y') (hd : decode Y.2.1 pc = .ok (.invokespecial idx, 3))
    (hn : as.length = n) (hc : catS st ≤ 8) (hst : stk = as.reverse ++ aR a :: st) (hd' : d' + 1 ≤ d) (C : Ct G Y' d' mc ms (aR a :: as) h F')
    (K : ∀ v h', F' v h' → V G Y d rc rs (pc + 3) ls (v.toList ++ st) h' F) : V G Y d (rc + mc) (rs + ms) pc ls stk h F := by
  intro p l e R s m args below meth c Q hC hE hd1 hl1 H locs cells slots lsC hR hL hc1 hs1 hls
  have hC' := hC
  obtain ⟨hx, hb, hml, -, -, hown, -, hts, hKS⟩ := hC
  subst hst
  obtain ⟨y1, y2, y3, y4⟩ := Y'
  dsimp only at hret
  subst hret
  have hfix : CallFix p m c Y.2.1 Y.2.2.1 s args wsAll Y.1.cls := ⟨hx, hb, hml, hown, hts⟩
  have hpre : PreS s H (Pcx G (aR a :: as) h) (Value.ref (Ad G a) :: cS G as) := ⟨Pcx_blind, fun U hU hW => ⟨rfl, by rw [hU]; exact hR, hKS.warm hW⟩⟩
  have hroom : (rmx d' mc ms).frames + 1 ≤ R.frames ∧ 8 + (y3 + 11) + (rmx d' mc ms).locals ≤ R.locals := by
    have h19 : y3 ≤ 19 := hm.2.2.2.2
    refine ⟨?_, ?_⟩
    · show d' + 1 ≤ R.frames; omega
    · show 8 + (y3 + 11) + 38 * d' ≤ R.locals; omega
  have hstk : (F0 m pc lsC (cS G (as.reverse ++ aR a :: st))).stack = (cS G as).reverse ++ Value.ref (Ad G a) :: cS G st := by
    show cS G (as.reverse ++ aR a :: st) = _
    rw [cS_app, cS_rev]; rfl
  have hW8 : 2 * (F0 m pc lsC (cS G (as.reverse ++ aR a :: st))).monitorRoom + ((cS G st).map fun v => v.category).sum ≤ 8 := lv_room (by rw [catS_cS]; exact hc)
  have hlen : (cS G as).length = n := by rw [cS_len]; exact hn
  rcases hk with hk | ⟨host, hk⟩
  · exact v_back rfl K hC' hE hd1 hl1 hL hc1 hs1 hls (va_runI hfix (C l) ⟨callB_of n hts (good_x hm) rfl rfl rfl (hts _ hm.2.1) (hts _ hk) hm.2.2.1 hroom, hy, hts _ hi⟩ hpre rfl hlen hls.1 hstk hW8 hd ⟨by omega, by omega⟩)
  · exact v_back rfl K hC' hE hd1 hl1 hL hc1 hs1 hls (va_runIN hfix (C l) ⟨va_cnB n hts (good_x hm) rfl rfl rfl (hKS.2.1 _ hk) (hts _ hm.2.1) hm.2.2.1 hroom, hy, hts _ hi⟩ hpre rfl hlen hls.1 hstk hW8 hd ⟨by omega, by omega⟩)
/-- Object's own constructor -/
theorem v_objI {idx a : Nat} (hl : Cond.methodLink Y.1.cls idx objectInit ∈ wsAll) (hd : decode Y.2.1 pc = .ok (.invokespecial idx, 3)) (hc : catS st ≤ 8) (hd' : 1 ≤ d) (K : V G Y d rc rs (pc + 3) ls st h F) : V G Y d rc rs pc ls (aR a :: st) h F := by
  intro p l e R s m args below meth c Q hC hE hd1 hl1 H locs cells slots lsC hR hL hc1 hs1 hls
  have kk := K p l e R s m args below meth c Q hC hE hd1 hl1 H locs cells slots lsC hR hL hc1 hs1 hls
  obtain ⟨hx, hb, hml, -, -, hown, -, hts, hKS⟩ := hC
  have hW8 : 2 * (F0 m pc lsC (cS G (aR a :: st))).monitorRoom + ((cS G st).map fun v => v.category).sum ≤ 8 := lv_room (by rw [catS_cS]; exact hc)
  exact W.objInit hx hb hown (hts _ hl) (hts _ ob_i) (hts _ ob_c) rfl (by rw [hml]; exact hls.1) rfl hd (by omega) (by omega) kk
/-- calls whose answer and heap are told -/
theorem v_callVr {Y' : Yx} {d' n idx k a : Nat} {as stk : List AV} {fs : List AV} {v0 : Option AV} {h0 : AH} (hm : MOK Y' n) (hi : MI Y') (hv : MV Y') (hk : LK Y.1.cls idx Y') (hd : decode Y.2.1 pc = .ok (.invokevirtual idx, 3))
    (hobj : h.2 a = some (aO k fs)) (hcl : (cl[k]?).map (fun r => r.1) = some Y'.1.cls) (hn : as.length = n) (hc : catS st ≤ 8) (hst : stk = as.reverse ++ aR a :: st) (hd' : d' + 1 ≤ d) (C : Ct G Y' d' 0 0 (aR a :: as) h (isR v0 h0))
    (K : V G Y d rc rs (pc + 3) ls (v0.toList ++ st) h0 F) : V G Y d rc rs pc ls stk h F :=
  v_callV (rc := rc) (rs := rs) (mc := 0) (ms := 0) hm hi hv hk hd hobj hcl hn hc hst hd' C (fun v h' q => by obtain ⟨rfl, rfl⟩ := q; exact K)
theorem v_callSr {Y' : Yx} {d' n idx : Nat} {as stk : List AV} {v0 : Option AV} {h0 : AH} (hm : MOK Y' n) (hi : MS Y') (hk : LK Y.1.cls idx Y') (hd : decode Y.2.1 pc = .ok (.invokestatic idx, 3))
    (hn : as.length = n) (hc : catS st ≤ 8) (hst : stk = as.reverse ++ st) (hd' : d' + 1 ≤ d) (C : Ct G Y' d' 0 0 as h (isR v0 h0))
    (K : V G Y d rc rs (pc + 3) ls (v0.toList ++ st) h0 F) : V G Y d rc rs pc ls stk h F :=
  v_callS (rc := rc) (rs := rs) (mc := 0) (ms := 0) hm hi hk hd hn hc hst hd' C (fun v h' q => by obtain ⟨rfl, rfl⟩ := q; exact K)
end VCALL
