/-! arrays -/
theorem aC_upd (t : Nat) (xs : List Int) (j : Nat) (x : Int) (hj : j < xs.length) (k : Nat) :
    updV (fun i => if t = 1 then Value.long (Int64.ofInt (xs.getD i 0)) else Value.int (Int32.ofInt (xs.getD i 0))) j (if t = 1 then Value.long (Int64.ofInt x) else Value.int (Int32.ofInt x)) k =
    (fun i => if t = 1 then Value.long (Int64.ofInt ((xs.set j x).getD i 0)) else Value.int (Int32.ofInt ((xs.set j x).getD i 0))) k := by
  unfold updV
  by_cases e : k = j
  · subst e
    simp [List.getD_eq_getElem?_getD, List.getElem?_set, hj]
  · rw [if_neg e]
    simp [List.getD_eq_getElem?_getD, List.getElem?_set, Ne.symm e]
theorem KS.arr {G : Gx} {s : State} (h : KS G s) {t : Nat} (ht : t < 3) : ArrOfT s (gA G t) (aty t) ∧ va_RA s (gA G t) (aty t) := by
  match t, ht with
  | 0, _ => exact h.1.2 0 _ rfl
  | 1, _ => exact h.1.2 1 _ rfl
  | 2, _ => exact h.1.2 2 _ rfl
section VA
variable {G : Gx} {Y : Yx} {d rc rs pc : Nat} {ls : List (Option AV)} {st : List AV} {h : AH} {F : Option AV → AH → Prop}
theorem v_alen {a t : Nat} {xs : List Int} (ht : t < 3) (hh : h.2 a = some (aA t xs)) (hd : decode Y.2.1 pc = .ok (.arraylength, 1)) (K : V G Y d rc rs (pc + 1) ls (aI xs.length :: st) h F) : V G Y d rc rs pc ls (aR a :: st) h F := by
  intro p l e R s m args below meth c Q hC hE hd1 hl1 H locs cells slots lsC hR hL hc hs hls
  have kk := K p l e R s m args below meth c Q hC hE hd1 hl1 H locs cells slots lsC hR hL hc hs hls
  obtain ⟨hx, hb, -, -, -, -, -, -, hKS⟩ := hC
  obtain ⟨-, -, q1⟩ := hR.2.2.2.2 a _ hh
  exact W.alen (ty := aty t) (n := Int32.ofInt xs.length) hx hb q1 ((hKS.arr ht).1 _ _) (by rw [arrV_size, Int32.ofInt_eq_ofNat]) rfl rfl hd kk
theorem v_iald {a : Nat} {i : Int} {xs : List Int} (hh : h.2 a = some (aA 0 xs)) (hi : 0 ≤ i ∧ i < xs.length) (hz : xs.length ≤ 100000) (hd : decode Y.2.1 pc = .ok (.iaload, 1)) (K : V G Y d rc rs (pc + 1) ls (aI (xs.getD i.toNat 0) :: st) h F) : V G Y d rc rs pc ls (aI i :: aR a :: st) h F := by
  intro p l e R s m args below meth c Q hC hE hd1 hl1 H locs cells slots lsC hR hL hc hs hls
  have kk := K p l e R s m args below meth c Q hC hE hd1 hl1 H locs cells slots lsC hR hL hc hs hls
  obtain ⟨hx, hb, -, -, -, -, -, -, hKS⟩ := hC
  obtain ⟨-, -, q1⟩ := hR.2.2.2.2 a _ hh
  have hn : (Int32.ofInt i).toNatClampNeg = i.toNat := oi_nat hi.1 (by omega)
  refine W.iald (v := .int (Int32.ofInt (xs.getD i.toNat 0))) hx hb q1 ((hKS.arr (t := 0) (by decide)).1 _ _) (fun q => by cases q) ?_ ?_ rfl rfl hd kk
  · rw [arrV_size, hn]
    rintro (q | q)
    · have := (oi_lt (y := 0) ⟨by omega, by omega⟩ InR0).mp q; omega
    · have q' : xs.length ≤ i.toNat := q
      omega
  · rw [hn, arrV_read _ _ (show i.toNat < xs.length by omega)]
    rfl
theorem v_cald {a : Nat} {i : Int} {xs : List Int} (hh : h.2 a = some (aA 2 xs)) (hi : 0 ≤ i ∧ i < xs.length) (hz : xs.length ≤ 100000) (hd : decode Y.2.1 pc = .ok (.caload, 1)) (K : V G Y d rc rs (pc + 1) ls (aI (xs.getD i.toNat 0) :: st) h F) : V G Y d rc rs pc ls (aI i :: aR a :: st) h F := by
  intro p l e R s m args below meth c Q hC hE hd1 hl1 H locs cells slots lsC hR hL hc hs hls
  have kk := K p l e R s m args below meth c Q hC hE hd1 hl1 H locs cells slots lsC hR hL hc hs hls
  obtain ⟨hx, hb, -, -, -, -, -, -, hKS⟩ := hC
  obtain ⟨-, -, q1⟩ := hR.2.2.2.2 a _ hh
  have hn : (Int32.ofInt i).toNatClampNeg = i.toNat := oi_nat hi.1 (by omega)
  refine W.cald (v := .int (Int32.ofInt (xs.getD i.toNat 0))) hx hb q1 ((hKS.arr (t := 2) (by decide)).1 _ _) (fun q => by cases q) ?_ ?_ rfl rfl hd kk
  · rw [arrV_size, hn]
    rintro (q | q)
    · have := (oi_lt (y := 0) ⟨by omega, by omega⟩ InR0).mp q; omega
    · have q' : xs.length ≤ i.toNat := q
      omega
  · rw [hn, arrV_read _ _ (show i.toNat < xs.length by omega)]
    rfl
theorem v_lald {a : Nat} {i : Int} {xs : List Int} (hh : h.2 a = some (aA 1 xs)) (hi : 0 ≤ i ∧ i < xs.length) (hz : xs.length ≤ 100000) (hd : decode Y.2.1 pc = .ok (.laload, 1)) (K : V G Y d rc rs (pc + 1) ls (aJ (xs.getD i.toNat 0) :: st) h F) : V G Y d rc rs pc ls (aI i :: aR a :: st) h F := by
  intro p l e R s m args below meth c Q hC hE hd1 hl1 H locs cells slots lsC hR hL hc hs hls
  have kk := K p l e R s m args below meth c Q hC hE hd1 hl1 H locs cells slots lsC hR hL hc hs hls
  obtain ⟨hx, hb, -, -, -, -, -, -, hKS⟩ := hC
  obtain ⟨-, -, q1⟩ := hR.2.2.2.2 a _ hh
  have hn : (Int32.ofInt i).toNatClampNeg = i.toNat := oi_nat hi.1 (by omega)
  refine W.lald (v := .long (Int64.ofInt (xs.getD i.toNat 0))) hx hb q1 ((hKS.arr (t := 1) (by decide)).1 _ _) (fun q => by cases q) ?_ ?_ rfl rfl hd kk
  · rw [arrV_size, hn]
    rintro (q | q)
    · have := (oi_lt (y := 0) ⟨by omega, by omega⟩ InR0).mp q; omega
    · have q' : xs.length ≤ i.toNat := q
      omega
  · rw [hn, arrV_read _ _ (show i.toNat < xs.length by omega)]
    rfl
theorem v_store {a t : Nat} {i x : Int} {xs : List Int} {H H' : Heap} (hR : Rep G h H) (hh : h.2 a = some (aA t xs)) (hi : 0 ≤ i ∧ i < xs.length)
    (e1 : H'[Ad G a]? = some ((arrV (gA G t) xs.length (fun j => if t = 1 then .long (Int64.ofInt (xs.getD j 0)) else .int (Int32.ofInt (xs.getD j 0)))).setSlot i.toNat (if t = 1 then .long (Int64.ofInt x) else .int (Int32.ofInt x)))) (e2 : H'.size = H.size) (e3 : ∀ q : Nat, q ≠ Ad G a → H'[q]? = H[q]?) : Rep G (upA h a (aA t (xs.set i.toNat x))) H' := by
  refine hR.set hh ?_ e2 e3
  show H'[Ad G a]? = some (arrV (gA G t) (xs.set i.toNat x).length _)
  rw [e1, arrV_store, List.length_set]
  congr 1
  exact congrArg _ (funext (aC_upd t xs i.toNat x (by omega)))
theorem v_iast {a : Nat} {i x : Int} {xs : List Int} (hh : h.2 a = some (aA 0 xs)) (hi : 0 ≤ i ∧ i < xs.length) (hz : xs.length ≤ 100000) (hd : decode Y.2.1 pc = .ok (.iastore, 1)) (K : V G Y d rc rs (pc + 1) ls st (upA h a (aA 0 (xs.set i.toNat x))) F) : V G Y d rc rs pc ls (aI x :: aI i :: aR a :: st) h F := by
  intro p l e R s m args below meth c Q hC hE hd1 hl1 H locs cells slots lsC hR hL hc hs hls
  have kk := K p l e R s m args below meth c Q hC hE hd1 hl1
  obtain ⟨hx, hb, -, -, -, -, -, -, hKS⟩ := hC
  obtain ⟨a1, -, q1⟩ := hR.2.2.2.2 a _ hh
  have hn : (Int32.ofInt i).toNatClampNeg = i.toNat := oi_nat hi.1 (by omega)
  refine W.iast (x := Int32.ofInt x) hx hb q1 ((hKS.arr (t := 0) (by decide)).1 _ _) (fun q => by cases q) ?_ rfl rfl hd (fun H' e1 e2 e3 => ?_)
  · rw [arrV_size, hn]
    rintro (q | q)
    · have := (oi_lt (y := 0) ⟨by omega, by omega⟩ InR0).mp q; omega
    · have q' : xs.length ≤ i.toNat := q
      omega
  · rw [hn] at e1
    refine kk H' _ cells slots lsC (v_store hR hh hi e1 e2 e3) (fun q hq => ?_) hc hs hls
    rcases List.mem_append.mp hq with h1 | h1
    · exact hL q h1
    · rw [List.mem_singleton.mp h1]; show gz G ≤ Ad G a; rw [Ad_own a1]; omega
theorem v_last {a : Nat} {i x : Int} {xs : List Int} (hh : h.2 a = some (aA 1 xs)) (hi : 0 ≤ i ∧ i < xs.length) (hz : xs.length ≤ 100000) (hd : decode Y.2.1 pc = .ok (.lastore, 1)) (K : V G Y d rc rs (pc + 1) ls st (upA h a (aA 1 (xs.set i.toNat x))) F) : V G Y d rc rs pc ls (aJ x :: aI i :: aR a :: st) h F := by
  intro p l e R s m args below meth c Q hC hE hd1 hl1 H locs cells slots lsC hR hL hc hs hls
  have kk := K p l e R s m args below meth c Q hC hE hd1 hl1
  obtain ⟨hx, hb, -, -, -, -, -, -, hKS⟩ := hC
  obtain ⟨a1, -, q1⟩ := hR.2.2.2.2 a _ hh
  have hn : (Int32.ofInt i).toNatClampNeg = i.toNat := oi_nat hi.1 (by omega)
  refine W.last (x := Int64.ofInt x) hx hb q1 ((hKS.arr (t := 1) (by decide)).1 _ _) (fun q => by cases q) ?_ rfl rfl hd (fun H' e1 e2 e3 => ?_)
  · rw [arrV_size, hn]
    rintro (q | q)
    · have := (oi_lt (y := 0) ⟨by omega, by omega⟩ InR0).mp q; omega
    · have q' : xs.length ≤ i.toNat := q
      omega
  · rw [hn] at e1
    refine kk H' _ cells slots lsC (v_store hR hh hi e1 e2 e3) (fun q hq => ?_) hc hs hls
    rcases List.mem_append.mp hq with h1 | h1
    · exact hL q h1
    · rw [List.mem_singleton.mp h1]; show gz G ≤ Ad G a; rw [Ad_own a1]; omega
theorem v_cast {a : Nat} {i x : Int} {xs : List Int} (hh : h.2 a = some (aA 2 xs)) (hi : 0 ≤ i ∧ i < xs.length) (hz : xs.length ≤ 100000) (hn : narrow .char (.int (Int32.ofInt x)) = .int (Int32.ofInt x)) (hd : decode Y.2.1 pc = .ok (.castore, 1)) (K : V G Y d rc rs (pc + 1) ls st (upA h a (aA 2 (xs.set i.toNat x))) F) : V G Y d rc rs pc ls (aI x :: aI i :: aR a :: st) h F := by
  intro p l e R s m args below meth c Q hC hE hd1 hl1 H locs cells slots lsC hR hL hc hs hls
  have kk := K p l e R s m args below meth c Q hC hE hd1 hl1
  obtain ⟨hx, hb, -, -, -, -, -, -, hKS⟩ := hC
  obtain ⟨a1, -, q1⟩ := hR.2.2.2.2 a _ hh
  have hn' : (Int32.ofInt i).toNatClampNeg = i.toNat := oi_nat hi.1 (by omega)
  refine W.cast (x := Int32.ofInt x) hx hb q1 ((hKS.arr (t := 2) (by decide)).1 _ _) (fun q => by cases q) ?_ rfl rfl hd (fun H' e1 e2 e3 => ?_)
  · rw [arrV_size, hn']
    rintro (q | q)
    · have := (oi_lt (y := 0) ⟨by omega, by omega⟩ InR0).mp q; omega
    · have q' : xs.length ≤ i.toNat := q
      omega
  · rw [hn', hn] at e1
    refine kk H' _ cells slots lsC (v_store hR hh hi e1 e2 e3) (fun q hq => ?_) hc hs hls
    rcases List.mem_append.mp hq with h1 | h1
    · exact hL q h1
    · rw [List.mem_singleton.mp h1]; show gz G ≤ Ad G a; rw [Ad_own a1]; omega
/-! the script -/
theorem v_slen {n : Int} (hn : n = gL G) (hd : decode Y.2.1 pc = .ok (.arraylength, 1)) (K : V G Y d rc rs (pc + 1) ls (aI n :: st) h F) : V G Y d rc rs pc ls (aR 0 :: st) h F := by
  intro p l e R s m args below meth c Q hC hE hd1 hl1 H locs cells slots lsC hR hL hc hs hls
  have kk := K p l e R s m args below meth c Q hC hE hd1 hl1 H locs cells slots lsC hR hL hc hs hls
  obtain ⟨hx, hb, -, -, -, -, -, -, hKS⟩ := hC
  obtain ⟨-, -, -, -, -, -, ⟨scr, x1, x2, x3, x4, x5⟩, h7, h8⟩ := hKS
  have e : Ad G 0 = gS G 0 := by unfold Ad; rw [if_pos (by decide)]
  subst hn
  exact W.alen (a := Ad G 0) (n := Int32.ofInt (gL G)) hx hb (by rw [e, hR.2.2.2.1 _ h7]; exact x1) x2 (by rw [x4, Int32.ofInt_eq_ofNat]) rfl rfl hd kk
theorem v_sld {i x : Int} (hi : 0 ≤ i ∧ i < gL G) (hxx : x = (gX G i.toNat).toInt) (hd : decode Y.2.1 pc = .ok (.iaload, 1)) (K : V G Y d rc rs (pc + 1) ls (aI x :: st) h F) : V G Y d rc rs pc ls (aI i :: aR 0 :: st) h F := by
  intro p l e R s m args below meth c Q hC hE hd1 hl1 H locs cells slots lsC hR hL hc hs hls
  have kk := K p l e R s m args below meth c Q hC hE hd1 hl1 H locs cells slots lsC hR hL hc hs hls
  obtain ⟨hx, hb, -, -, -, -, -, -, hKS⟩ := hC
  obtain ⟨-, -, -, -, -, -, ⟨scr, x1, x2, x3, x4, x5⟩, h7, h8⟩ := hKS
  have e : Ad G 0 = gS G 0 := by unfold Ad; rw [if_pos (by decide)]
  have hn : (Int32.ofInt i).toNatClampNeg = i.toNat := oi_nat hi.1 (by omega)
  subst hxx
  have ev : Int32.ofInt (gX G i.toNat).toInt = gX G i.toNat := oi_self _
  refine W.iald (a := Ad G 0) (v := .int (Int32.ofInt (gX G i.toNat).toInt)) hx hb (by rw [e, hR.2.2.2.1 _ h7]; exact x1) x2 x3 ?_ ?_ rfl rfl hd kk
  · rw [x4, hn]
    rintro (q | q)
    · have := (oi_lt (y := 0) ⟨by omega, by omega⟩ InR0).mp q; omega
    · have q' : gL G ≤ i.toNat := q
      omega
  · rw [hn, ev]; exact x5 _ (by omega)
/-! making -/
theorem v_new {idx k N : Nat} {C : String} {T : u_T} {fs : List AV} (hk : cl[k]? = some (C, T, N)) (hcl : Cond.classLink Y.1.cls idx C ∈ wsAll) (hins : Cond.instantiable C N ∈ wsAll) (hini : Cond.initialized C ∈ wsAll)
    (hfs : ∀ j, j < N → defaultValue (tyA k j) = vp_V (cS G fs) j) (hd : decode Y.2.1 pc = .ok (.new idx, 3)) (K : V G Y d rc rs (pc + 3) ls (aR h.1 :: st) (psA h (aO k fs)) F) : V G Y d (rc + 1) (rs + N) pc ls st h F := by
  intro p l e R s m args below meth c Q hC hE hd1 hl1 H locs cells slots lsC hR hL hc hs hls
  have kk := K p l e R s m args below meth c Q hC hE hd1 hl1
  obtain ⟨hx, hb, -, -, -, hown, -, hts, hKS⟩ := hC
  obtain ⟨hin, hnm, hty⟩ := cl_in hk
  have hKn := hKS.1.1 k _ hk
  refine W.newcK hx hb hown (hts _ hcl) (hts _ hins) (hts _ hini) rfl hd (by omega) (by omega) hKn.2.1 rfl fun H1 kC hkC e1 z1 o1 => ?_
  have hcell : CellAt G (aO k fs) H.size H1 := ⟨_, hk, (u_born (tyA k) hts hin hKn hkC e1 hty).to hfs⟩
  obtain ⟨r1, r2⟩ := hR.push hcell z1 o1
  have := kk H1 locs (cells + 1) (slots + N) lsC r1 hL (by omega) (by omega) hls
  rw [show cS G (aR h.1 :: st) = Value.ref H.size :: cS G st by rw [← r2]; rfl] at this
  exact this
theorem v_newa {t : Nat} {n : Int} {aty0 : ArrayType} (ht : t < 3) (hat : newarray.typeOf aty0 = aty t) (hw : Cond.arrayClass (aty t) ∈ wsAll) (hn : 0 ≤ n ∧ n ≤ 10000) (hd : decode Y.2.1 pc = .ok (.newarray aty0, 2)) (K : V G Y d rc rs (pc + 2) ls (aR h.1 :: st) (psA h (aA t (List.replicate n.toNat 0))) F) : V G Y d (rc + 1) (rs + n.toNat) pc ls (aI n :: st) h F := by
  intro p l e R s m args below meth c Q hC hE hd1 hl1 H locs cells slots lsC hR hL hc hs hls
  have kk := K p l e R s m args below meth c Q hC hE hd1 hl1
  obtain ⟨hx, hb, -, -, -, hown, -, hts, hKS⟩ := hC
  have hb8 : componentBytes (newarray.typeOf aty0) ≤ 8 := by rw [hat]; rcases (show t = 0 ∨ t = 1 ∨ t = 2 by omega) with rfl | rfl | rfl <;> decide
  refine va_newaK (N := n.toNat) hx hb (by rw [hat]; exact hts _ hw) rfl hd rfl (fun q => ?_) (oi_nat hn.1 (by omega)) ?_ (by omega) (by omega) rfl fun H1 cA e1 z1 o1 _ hfc => ?_
  · have := (oi_lt (y := 0) ⟨by omega, by omega⟩ InR0).mp q; omega
  · have : n.toNat * componentBytes (newarray.typeOf aty0) ≤ 10000 * 8 := Nat.mul_le_mul (by omega) hb8
    omega
  · have hcA : cA = gA G t := by
      rw [hat] at hfc
      have h9 := (hKS.arr ht).2
      rcases (show t = 0 ∨ t = 1 ∨ t = 2 by omega) with rfl | rfl | rfl <;> exact Option.some.inj (hfc.symm.trans h9)
    have hcell : CellAt G (aA t (List.replicate n.toNat 0)) H.size H1 := by
      show H1[H.size]? = some (arrV (gA G t) (List.replicate n.toNat (0 : Int)).length _)
      rw [e1, hcA, List.length_replicate]
      congr 2
      funext j
      rw [hat]
      have e0 : (List.replicate n.toNat (0 : Int)).getD j 0 = 0 := by
        simp [List.getD_eq_getElem?_getD, List.getElem?_replicate]
        split <;> rfl
      rw [e0]
      rcases (show t = 0 ∨ t = 1 ∨ t = 2 by omega) with rfl | rfl | rfl <;> rfl
    obtain ⟨r1, r2⟩ := hR.push hcell z1 o1
    have := kk H1 locs (cells + 1) (slots + n.toNat) lsC r1 hL (by omega) (by omega) hls
    rw [show cS G (aR h.1 :: st) = Value.ref H.size :: cS G st by rw [← r2]; rfl] at this
    exact this
/-! returns -/
theorem v_ireturn {n : Int} {ty : FieldType} (hd : decode Y.2.1 pc = .ok (.ireturn, 1)) (hr : Y.2.2.2 = some ty) (hn : narrow ty (.int (Int32.ofInt n)) = .int (Int32.ofInt n)) (hF : F (some (aI n)) h) : V G Y d rc rs pc ls [aI n] h F := by
  intro p l e R s m args below meth c Q hC hE hd1 hl1 H locs cells slots lsC hR hL hc hs hls
  exact hE (some (aI n)) h H locs cells slots pc lsC .ireturn hF hR hL (by omega) (by omega) hd ⟨rfl, ty, hr, hn⟩
theorem v_lreturn {n : Int} (hd : decode Y.2.1 pc = .ok (.lreturn, 1)) (hr : Y.2.2.2 = some .long) (hF : F (some (aJ n)) h) : V G Y d rc rs pc ls [aJ n] h F := by
  intro p l e R s m args below meth c Q hC hE hd1 hl1 H locs cells slots lsC hR hL hc hs hls
  exact hE (some (aJ n)) h H locs cells slots pc lsC .lreturn hF hR hL (by omega) (by omega) hd ⟨rfl, hr⟩
theorem v_areturn {a : Nat} {n : String} (hd : decode Y.2.1 pc = .ok (.areturn, 1)) (hr : Y.2.2.2 = some (.object n)) (hF : F (some (aR a)) h) : V G Y d rc rs pc ls [aR a] h F := by
  intro p l e R s m args below meth c Q hC hE hd1 hl1 H locs cells slots lsC hR hL hc hs hls
  exact hE (some (aR a)) h H locs cells slots pc lsC .areturn hF hR hL (by omega) (by omega) hd ⟨rfl, n, hr⟩
theorem v_return (hd : decode Y.2.1 pc = .ok (.return_, 1)) (hr : Y.2.2.2 = none) (hF : F none h) : V G Y d rc rs pc ls [] h F := by
  intro p l e R s m args below meth c Q hC hE hd1 hl1 H locs cells slots lsC hR hL hc hs hls
  exact hE none h H locs cells slots pc lsC .return_ hF hR hL (by omega) (by omega) hd ⟨rfl, hr⟩
end VA
