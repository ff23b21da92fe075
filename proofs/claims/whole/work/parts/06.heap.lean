/-! bits -/
theorem oi_nat' {x : Int} (h : 0 ≤ x) : Int32.ofInt x = Int32.ofNat x.toNat := by
  rw [← Int32.ofInt_eq_ofNat, Int.toNat_of_nonneg h]
theorem on_and (a b : Nat) : Int32.ofNat a &&& Int32.ofNat b = Int32.ofNat (a &&& b) := by
  apply Int32.toBitVec.inj
  rw [Int32.toBitVec_and]
  show BitVec.ofNat 32 a &&& BitVec.ofNat 32 b = BitVec.ofNat 32 (a &&& b)
  exact (BitVec.ofNat_and).symm
theorem on_or (a b : Nat) : Int32.ofNat a ||| Int32.ofNat b = Int32.ofNat (a ||| b) := by
  apply Int32.toBitVec.inj
  rw [Int32.toBitVec_or]
  show BitVec.ofNat 32 a ||| BitVec.ofNat 32 b = BitVec.ofNat 32 (a ||| b)
  exact (BitVec.ofNat_or).symm
theorem on_xor (a b : Nat) : Int32.ofNat a ^^^ Int32.ofNat b = Int32.ofNat (a ^^^ b) := by
  apply Int32.toBitVec.inj
  rw [Int32.toBitVec_xor]
  show BitVec.ofNat 32 a ^^^ BitVec.ofNat 32 b = BitVec.ofNat 32 (a ^^^ b)
  exact (BitVec.ofNat_xor).symm
theorem oi_emod (x : Int) : Int32.ofInt x = Int32.ofInt (x % 4294967296) := by
  apply Int32.toInt_inj.mp
  rw [Int32.toInt_ofInt, Int32.toInt_ofInt]
  exact (Int.emod_bmod x 4294967296).symm
theorem oi_and {x y : Int} (hx : 0 ≤ x) (hy : 0 ≤ y) : Int32.ofInt x &&& Int32.ofInt y = Int32.ofInt ((x.toNat &&& y.toNat : Nat) : Int) := by
  rw [oi_nat' hx, oi_nat' hy, on_and, Int32.ofInt_eq_ofNat]
theorem oi_or {x y : Int} (hx : 0 ≤ x) (hy : 0 ≤ y) : Int32.ofInt x ||| Int32.ofInt y = Int32.ofInt ((x.toNat ||| y.toNat : Nat) : Int) := by
  rw [oi_nat' hx, oi_nat' hy, on_or, Int32.ofInt_eq_ofNat]
theorem oi_xor {x y : Int} (hx : 0 ≤ x) (hy : 0 ≤ y) : Int32.ofInt x ^^^ Int32.ofInt y = Int32.ofInt ((x.toNat ^^^ y.toNat : Nat) : Int) := by
  rw [oi_nat' hx, oi_nat' hy, on_xor, Int32.ofInt_eq_ofNat]
theorem oi_mask (x : Int) (k : Nat) (hk : k ≤ 31) : Int32.ofInt x &&& Int32.ofInt ((2 ^ k - 1 : Nat) : Int) = Int32.ofInt (x % ((2 ^ k : Nat) : Int)) := by
  rw [oi_emod x, oi_and (Int.emod_nonneg _ (by decide)) (Int.natCast_nonneg _)]
  congr 1
  rw [Int.toNat_natCast, Nat.and_two_pow_sub_one_eq_mod, Int.natCast_emod, Int.toNat_of_nonneg (Int.emod_nonneg _ (by decide))]
  apply Int.emod_emod_of_dvd
  have h2 : (2 : Nat) ^ k ∣ 2 ^ 32 := Nat.pow_dvd_pow 2 (show k ≤ 32 by omega)
  exact Int.natCast_dvd_natCast.mpr h2
theorem sh_mask : ∀ k : Nat, k < 32 → (Int32.ofNat k &&& 31).toBitVec.smod 32 = BitVec.ofNat 32 k := by decide +kernel
theorem sh_nat : ∀ k : Nat, k < 32 → (BitVec.ofNat 32 k).toNat = k := by decide +kernel
theorem oi_shl {x y : Int} (hy : 0 ≤ y ∧ y ≤ 31) : Int32.ofInt x <<< (Int32.ofInt y &&& 31) = Int32.ofInt (x * (2 ^ y.toNat : Nat)) := by
  have hk : y.toNat < 32 := by omega
  rw [oi_nat' hy.1]
  apply Int32.toBitVec.inj
  show (Int32.ofInt x).toBitVec <<< ((Int32.ofNat y.toNat &&& 31).toBitVec.smod 32) = _
  rw [sh_mask _ hk, BitVec.shiftLeft_eq', sh_nat _ hk, Int32.ofInt_mul, Int32.toBitVec_mul, BitVec.shiftLeft_eq_mul_twoPow]
  congr 1
  apply BitVec.eq_of_toNat_eq
  rw [BitVec.toNat_twoPow, Int32.toBitVec_ofInt, BitVec.ofInt_natCast, BitVec.toNat_ofNat]
theorem oi_shr {x y : Int} (hx : InR x) (hy : 0 ≤ y ∧ y ≤ 31) : Int32.ofInt x >>> (Int32.ofInt y &&& 31) = Int32.ofInt (x / (2 ^ y.toNat : Nat)) := by
  have hk : y.toNat < 32 := by omega
  rw [oi_nat' hy.1]
  apply Int32.toInt_inj.mp
  show (((Int32.ofInt x).toBitVec.sshiftRight' ((Int32.ofNat y.toNat &&& 31).toBitVec.smod 32))).toInt = _
  rw [sh_mask _ hk, show ∀ (a b : BitVec 32), a.sshiftRight' b = a.sshiftRight b.toNat from fun _ _ => rfl, sh_nat _ hk, BitVec.toInt_sshiftRight]
  have e : (Int32.ofInt x).toBitVec.toInt = x := oi_toInt hx
  rw [e, Int.shiftRight_eq_div_pow]
  have hp : (0 : Int) < ((2 ^ y.toNat : Nat) : Int) := by exact_mod_cast Nat.two_pow_pos _
  have hb : InR (x / ((2 ^ y.toNat : Nat) : Int)) := by
    have h1 := hx.1
    have h2 := hx.2
    constructor
    · apply Int.le_ediv_of_mul_le hp
      have : (1 : Int) ≤ ((2 ^ y.toNat : Nat) : Int) := hp
      have h3 : (-2147483648 : Int) * ((2 ^ y.toNat : Nat) : Int) ≤ -2147483648 * 1 := Int.mul_le_mul_of_nonpos_left (by decide) this
      omega
    · rcases Int.le_total 0 x with h | h
      · exact Int.le_trans (Int.ediv_le_self _ h) h2
      · apply Int.not_lt.mp
        intro h5
        have h6 := (Int.le_ediv_iff_mul_le hp).mp (show 1 ≤ x / ((2 ^ y.toNat : Nat) : Int) by omega)
        omega
  rw [oi_toInt hb]
section VB
variable {G : Gx} {Y : Yx} {d rc rs pc : Nat} {ls : List (Option AV)} {st : List AV} {h : AH} {F : Option AV → AH → Prop}
theorem v_ishl {x y : Int} (hd : decode Y.2.1 pc = .ok (.ishl, 1)) (hy : 0 ≤ y ∧ y ≤ 31) (k : V G Y d rc rs (pc + 1) ls (aI (x * (2 ^ y.toNat : Nat)) :: st) h F) : V G Y d rc rs pc ls (aI y :: aI x :: st) h F :=
  V.lift (fun _ _ _ _ _ _ _ _ _ _ _ _ _ _ _ lsC hC hls _ _ _ _ k => lv_ishl hC.1 hC.2.1 hd (by rw [oi_shl hy]; exact k lsC hls)) k
theorem v_ishr {x y : Int} (hd : decode Y.2.1 pc = .ok (.ishr, 1)) (hx : InR x) (hy : 0 ≤ y ∧ y ≤ 31) (k : V G Y d rc rs (pc + 1) ls (aI (x / (2 ^ y.toNat : Nat)) :: st) h F) : V G Y d rc rs pc ls (aI y :: aI x :: st) h F :=
  V.lift (fun _ _ _ _ _ _ _ _ _ _ _ _ _ _ _ lsC hC hls _ _ _ _ k => lv_ishr hC.1 hC.2.1 hd (by rw [oi_shr hx hy]; exact k lsC hls)) k
theorem v_iand {x y : Int} (hd : decode Y.2.1 pc = .ok (.iand, 1)) (hx : 0 ≤ x) (hy : 0 ≤ y) (k : V G Y d rc rs (pc + 1) ls (aI ((x.toNat &&& y.toNat : Nat) : Int) :: st) h F) : V G Y d rc rs pc ls (aI y :: aI x :: st) h F :=
  V.lift (fun _ _ _ _ _ _ _ _ _ _ _ _ _ _ _ lsC hC hls _ _ _ _ k => lv_iand hC.1 hC.2.1 hd (by rw [oi_and hx hy]; exact k lsC hls)) k
theorem v_ior {x y : Int} (hd : decode Y.2.1 pc = .ok (.ior, 1)) (hx : 0 ≤ x) (hy : 0 ≤ y) (k : V G Y d rc rs (pc + 1) ls (aI ((x.toNat ||| y.toNat : Nat) : Int) :: st) h F) : V G Y d rc rs pc ls (aI y :: aI x :: st) h F :=
  V.lift (fun _ _ _ _ _ _ _ _ _ _ _ _ _ _ _ lsC hC hls _ _ _ _ k => lv_ior hC.1 hC.2.1 hd (by rw [oi_or hx hy]; exact k lsC hls)) k
theorem v_ixor {x y : Int} (hd : decode Y.2.1 pc = .ok (.ixor, 1)) (hx : 0 ≤ x) (hy : 0 ≤ y) (k : V G Y d rc rs (pc + 1) ls (aI ((x.toNat ^^^ y.toNat : Nat) : Int) :: st) h F) : V G Y d rc rs pc ls (aI y :: aI x :: st) h F :=
  V.lift (fun _ _ _ _ _ _ _ _ _ _ _ _ _ _ _ lsC hC hls _ _ _ _ k => lv_ixor hC.1 hC.2.1 hd (by rw [oi_xor hx hy]; exact k lsC hls)) k
/-- and with a mask of the lowest b bits, of any number -/
theorem v_mask {x y : Int} (b : Nat) (hd : decode Y.2.1 pc = .ok (.iand, 1)) (hb : b ≤ 31) (hy : y = ((2 ^ b - 1 : Nat) : Int)) (k : V G Y d rc rs (pc + 1) ls (aI (x % ((2 ^ b : Nat) : Int)) :: st) h F) : V G Y d rc rs pc ls (aI y :: aI x :: st) h F :=
  V.lift (fun _ _ _ _ _ _ _ _ _ _ _ _ _ _ _ lsC hC hls _ _ _ _ k => lv_iand hC.1 hC.2.1 hd (by rw [hy, oi_mask x b hb]; exact k lsC hls)) k
theorem v_i2c {x : Int} (hd : decode Y.2.1 pc = .ok (.i2c, 1)) (hx : 0 ≤ x ∧ x ≤ 65535) (k : V G Y d rc rs (pc + 1) ls (aI x :: st) h F) : V G Y d rc rs pc ls (aI x :: st) h F :=
  V.lift (fun _ _ _ _ _ _ _ _ _ _ _ _ _ _ _ lsC hC hls _ _ _ _ k => lv_i2c hC.1 hC.2.1 hd (v := Int32.ofInt x) (by
    rw [oi_nat' hx.1]
    have hn : x.toNat ≤ 65535 := by omega
    generalize x.toNat = n at hn ⊢
    apply Int32.toBitVec.inj
    apply BitVec.eq_of_toNat_eq
    show (UInt32.ofNat n % 65536).toNat = (BitVec.ofNat 32 n).toNat
    rw [UInt32.toNat_mod, UInt32.toNat_ofNat', BitVec.toNat_ofNat]
    show n % 4294967296 % 65536 = n % 4294967296
    omega) (k lsC hls)) k
/-! Math -/
theorem v_mmax {x y : Int} {idx : Nat} (hd : decode Y.2.1 pc = .ok (.invokestatic idx, 3)) (hl : Cond.methodLink Y.1.cls idx Lib.Math.max.name ∈ wsAll) (hx : InR x) (hy : InR y) (hc : catS st ≤ 8) (hd1 : 1 ≤ d) (k : V G Y d rc rs (pc + 3) ls (aI (max x y) :: st) h F) : V G Y d rc rs pc ls (aI y :: aI x :: st) h F :=
  V.lift (fun _ _ _ R _ _ _ _ _ _ _ _ _ _ _ lsC hC hls hcl hsl hdd hll k => by
    have ht := hC.2.2.2.2.2.2.2.1
    refine va_mmax hC.1 hC.2.1 (by rw [hC.2.2.1]; exact hls.1.symm) hC.2.2.2.2.2.1 (ht _ hl) (ht _ mst_max) (ht _ min_M) (ht _ mco_max) (by omega) (by rw [catS_cS]; omega) hcl hsl hd ?_
    have e : (if Int32.ofInt x < Int32.ofInt y then Int32.ofInt y else Int32.ofInt x) = Int32.ofInt (max x y) := by
      by_cases hb : x < y
      · rw [if_pos ((oi_lt hx hy).mpr hb), Int.max_eq_right (by omega)]
      · rw [if_neg (fun q => hb ((oi_lt hx hy).mp q)), Int.max_eq_left (by omega)]
    rw [e]; exact k lsC hls) k
theorem v_mmin {x y : Int} {idx : Nat} (hd : decode Y.2.1 pc = .ok (.invokestatic idx, 3)) (hl : Cond.methodLink Y.1.cls idx Lib.Math.min.name ∈ wsAll) (hx : InR x) (hy : InR y) (hc : catS st ≤ 8) (hd1 : 1 ≤ d) (k : V G Y d rc rs (pc + 3) ls (aI (min x y) :: st) h F) : V G Y d rc rs pc ls (aI y :: aI x :: st) h F :=
  V.lift (fun _ _ _ R _ _ _ _ _ _ _ _ _ _ _ lsC hC hls hcl hsl hdd hll k => by
    have ht := hC.2.2.2.2.2.2.2.1
    refine va_mmin hC.1 hC.2.1 (by rw [hC.2.2.1]; exact hls.1.symm) hC.2.2.2.2.2.1 (ht _ hl) (ht _ mst_min) (ht _ min_M) (ht _ mco_min) (by omega) (by rw [catS_cS]; omega) hcl hsl hd ?_
    have e : (if Int32.ofInt y < Int32.ofInt x then Int32.ofInt y else Int32.ofInt x) = Int32.ofInt (min x y) := by
      by_cases hb : y < x
      · rw [if_pos ((oi_lt hy hx).mpr hb), Int.min_eq_right (by omega)]
      · rw [if_neg (fun q => hb ((oi_lt hy hx).mp q)), Int.min_eq_left (by omega)]
    rw [e]; exact k lsC hls) k
theorem v_mabs {x : Int} {idx : Nat} (hd : decode Y.2.1 pc = .ok (.invokestatic idx, 3)) (hl : Cond.methodLink Y.1.cls idx Lib.Math.abs.name ∈ wsAll) (hx : InR x) (hc : catS st ≤ 8) (hd1 : 1 ≤ d) (k : V G Y d rc rs (pc + 3) ls (aI (if 0 ≤ x then x else -x) :: st) h F) : V G Y d rc rs pc ls (aI x :: st) h F :=
  V.lift (fun _ _ _ R _ _ _ _ _ _ _ _ _ _ _ lsC hC hls hcl hsl hdd hll k => by
    have ht := hC.2.2.2.2.2.2.2.1
    refine va_mabs hC.1 hC.2.1 (by rw [hC.2.2.1]; exact hls.1.symm) hC.2.2.2.2.2.1 (ht _ hl) (ht _ mst_abs) (ht _ min_M) (ht _ mco_abs) (by omega) (by rw [catS_cS]; omega) hcl hsl hd ?_
    have e : (if 0 ≤ Int32.ofInt x then Int32.ofInt x else 0 - Int32.ofInt x) = Int32.ofInt (if 0 ≤ x then x else -x) := by
      by_cases hb : 0 ≤ x
      · rw [if_pos (show (0 : Int32) ≤ Int32.ofInt x from (oi_le (x := 0) InR0 hx).mpr hb), if_pos hb]
      · rw [if_neg (show ¬ (0 : Int32) ≤ Int32.ofInt x from fun q => hb ((oi_le (x := 0) InR0 hx).mp q)), if_neg hb, show -x = 0 - x by omega, Int32.ofInt_sub]
        rfl
    rw [e]; exact k lsC hls) k
end VB
/-! the heap: reading, writing, making -/
def upA (h : AH) (a : Nat) (c : AC) : AH := (h.1, fun q => if q = a then some c else h.2 q)
def psA (h : AH) (c : AC) : AH := (h.1 + 1, fun q => if q = h.1 then some c else h.2 q)
theorem Rep.set {G : Gx} {h : AH} {H H' : Heap} {a : Nat} {c c' : AC} (hR : Rep G h H) (ha : h.2 a = some c) (hc : CellAt G c' (Ad G a) H') (hz : H'.size = H.size) (ho : ∀ q : Nat, q ≠ Ad G a → H'[q]? = H[q]?) : Rep G (upA h a c') H' := by
  obtain ⟨h1, h2, h3, h4, h5⟩ := hR
  obtain ⟨ha1, ha2, -⟩ := h5 a c ha
  have eA : Ad G a = gz G + (a - 100) := Ad_own ha1
  refine ⟨h1, h2, by rw [hz]; exact h3, fun q hq => by rw [ho q (by omega)]; exact h4 q hq, fun b x hb => ?_⟩
  by_cases e : b = a
  · subst e
    have : some c' = some x := by simpa [upA] using hb
    cases this
    exact ⟨ha1, ha2, hc⟩
  · have hb' : h.2 b = some x := by simpa [upA, e] using hb
    obtain ⟨b1, b2, b3⟩ := h5 b x hb'
    have hne : Ad G b ≠ Ad G a := by rw [eA, Ad_own b1]; omega
    refine ⟨b1, b2, ?_⟩
    rcases x with o | o
    · obtain ⟨r, r1, r2⟩ := b3
      exact ⟨r, r1, r2.kept (ho _ hne)⟩
    · exact (ho _ hne).trans b3
theorem Rep.push {G : Gx} {h : AH} {H H' : Heap} {c : AC} (hR : Rep G h H) (hc : CellAt G c H.size H') (hz : H'.size = H.size + 1) (ho : ∀ q : Nat, q < H.size → H'[q]? = H[q]?) : Rep G (psA h c) H' ∧ Ad G h.1 = H.size := by
  obtain ⟨h1, h2, h3, h4, h5⟩ := hR
  have eA : Ad G h.1 = H.size := by rw [Ad_own h1, h3]
  refine ⟨⟨by show 100 ≤ h.1 + 1; omega, h2, by rw [hz, h3]; show _ = gz G + (h.1 + 1 - 100); omega, fun q hq => by rw [ho q (by omega)]; exact h4 q hq, fun b x hb => ?_⟩, eA⟩
  by_cases e : b = h.1
  · subst e
    have : some c = some x := by simpa [psA] using hb
    cases this
    exact ⟨h1, by show h.1 < h.1 + 1; omega, by rw [eA]; exact hc⟩
  · have hb' : h.2 b = some x := by simpa [psA, e] using hb
    obtain ⟨b1, b2, b3⟩ := h5 b x hb'
    have hlt : Ad G b < H.size := by rw [h3, Ad_own b1]; omega
    refine ⟨b1, by show b < h.1 + 1; omega, ?_⟩
    rcases x with o | o
    · obtain ⟨r, r1, r2⟩ := b3
      exact ⟨r, r1, r2.kept (ho _ hlt)⟩
    · exact (ho _ hlt).trans b3
theorem cl_in {k : Nat} {r : vw_C} (h : cl[k]? = some r) : (∀ w ∈ u_ws r.1 r.2.1 r.2.2, w ∈ wsAll) ∧ (∀ a, a < r.2.2 → ∀ b, b < r.2.2 → a ≠ b → (r.2.1 a).2.1 ≠ (r.2.1 b).2.1) ∧ ∀ j, j < r.2.2 → parseFieldDescriptor (r.2.1 j).2.2.1 = some (tyA k j) := by
  match k, h with
  | 0, h => cases h; exact ⟨in_Canon, nm_Canon, ty_Canon_ok⟩
  | 1, h => cases h; exact ⟨in_Meetings, nm_Meetings, ty_Meetings_ok⟩
  | 2, h => cases h; exact ⟨in_Mind, nm_Mind, ty_Mind_ok⟩
  | 3, h => cases h; exact ⟨in_Row, nm_Row, ty_Row_ok⟩
  | 4, h => cases h; exact ⟨in_Text, nm_Text, ty_Text_ok⟩
  | 5, h => cases h; exact ⟨in_Tune, nm_Tune, ty_Tune_ok⟩
  | 6, h => cases h; exact ⟨in_Walks, nm_Walks, ty_Walks_ok⟩
  | 7, h => cases h; exact ⟨in_Main, nm_Main, ty_Main_ok⟩
  | 8, h => cases h; exact ⟨in_Model, nm_Model, ty_Model_ok⟩
  | k + 9, h => simp [cl] at h
section VH
variable {G : Gx} {Y : Yx} {d rc rs pc : Nat} {ls : List (Option AV)} {st : List AV} {h : AH} {F : Option AV → AH → Prop}
theorem v_getf {a idx k j : Nat} {fs : List AV} {v : AV} (hl : FL Y.1.cls idx k j) (hh : h.2 a = some (aO k fs)) (hf : fs[j]? = some v) (hd : decode Y.2.1 pc = .ok (.getfield idx, 3)) (K : V G Y d rc rs (pc + 3) ls (v :: st) h F) : V G Y d rc rs pc ls (aR a :: st) h F := by
  intro p l e R s m args below meth c Q hC hE hd1 hl1 H locs cells slots lsC hR hL hc hs hls
  have kk := K p l e R s m args below meth c Q hC hE hd1 hl1 H locs cells slots lsC hR hL hc hs hls
  obtain ⟨hx, hb, -, -, -, hown, -, hts, hKS⟩ := hC
  obtain ⟨r, r1, r2, r3, r4⟩ := hl
  obtain ⟨a1, a2, r', r1', cell, q1, q2, q3, q4⟩ := hR.2.2.2.2 a _ hh
  cases r1.symm.trans r1'
  obtain ⟨C, T, N⟩ := r
  obtain ⟨hin, -, -⟩ := cl_in r1
  obtain ⟨hS, hfc, kC, hkC, hkind⟩ := hKS.1.1 k _ r1
  obtain ⟨cf, kf, fi, f, hi, hsl⟩ := hS j r2
  have hst := (u_facts hfc hkC (u_lays hts hin r2) hi).1
  have hslot : cell.slots[f.slot]? = some (cv G v) := by
    rw [hsl, q4 j r2]
    simp [vp_V, cS_get, hf]
  dsimp only at r3 r4 hi
  rw [r3] at hi
  rcases r4 with r4 | ⟨host, r4⟩
  · exact W.getf hx hb hown (hts _ r4) hi hst q1 (by rw [q3]; exact fun h => by cases h) hslot rfl rfl hd kk
  · exact va_Wgetf hx hb hown (va_Nw.use rfl (hKS.2.1 _ r4)) hi hst q1 (by rw [q3]; exact fun h => by cases h) hslot rfl rfl hd kk
theorem v_putf {a idx k j : Nat} {fs : List AV} {v : AV} (hl : FL Y.1.cls idx k j) (hh : h.2 a = some (aO k fs)) (hj : j < fs.length)
    (hfin : ∀ r : vw_C, cl[k]? = some r → ((r.2.1 j).2.2.2 = false ∨ ((r.2.1 j).2.2.2 = true ∧ Y.1.name = "<init>" ∧ (r.2.1 j).1 = Y.1.cls))) (hn : narrow (tyA k j) (cv G v) = cv G v) (hv : fits (tyA k j) (cv G v) = true) (hd : decode Y.2.1 pc = .ok (.putfield idx, 3))
    (K : V G Y d rc rs (pc + 3) ls st (upA h a (aO k (fs.set j v))) F) : V G Y d rc rs pc ls (v :: aR a :: st) h F := by
  intro p l e R s m args below meth c Q hC hE hd1 hl1 H locs cells slots lsC hR hL hc hs hls
  have kk := K p l e R s m args below meth c Q hC hE hd1 hl1
  obtain ⟨hx, hb, -, -, -, hown, hname, hts, hKS⟩ := hC
  obtain ⟨r, r1, r2, r3, r4⟩ := hl
  obtain ⟨a1, a2, r', r1', cell, q1, q2, q3, q4⟩ := hR.2.2.2.2 a _ hh
  cases r1.symm.trans r1'
  obtain ⟨C, T, N⟩ := r
  obtain ⟨hin, hnm, hty⟩ := cl_in r1
  have hap := va_apart (own := C) (cl := cl) (ci := k) (D := gD G) hts hin (tyA k) hty hnm hKS.1 r1
  obtain ⟨hS, hfc, kC, hkC, hkind⟩ := hKS.1.1 k _ r1
  obtain ⟨cf, kf, fi, f, hi, hsl⟩ := hS j r2
  have hst := (u_facts hfc hkC (u_lays hts hin r2) hi).1
  have hfd := hty j r2
  have hlay := hts _ (hin _ (u_in_lay r2))
  have hA : gz G ≤ Ad G a := by rw [Ad_own a1]; omega
  have fin : ∀ H' : Heap, H'[Ad G a]? = some (cell.setSlot f.slot (cv G v)) → H'.size = H.size → (∀ q, q ≠ Ad G a → H'[q]? = H[q]?) → W p l e R s m args below meth c H' (locs ++ [⟨Ad G a, f.slot⟩]) cells slots Q (F0 m (pc + 3) lsC (cS G st)) := by
    intro H' e1 e2 e3
    refine kk H' _ cells slots lsC (hR.set hh ?_ e2 e3) (fun q hq => ?_) hc hs hls
    · rw [hsl] at e1
      refine ⟨_, r1, ?_⟩
      rw [cS_set]
      exact t_OB.to (V := updV (vp_V (cS G fs)) j (cv G v)) ⟨_, e1, q2, q3, t_set q4 hap r2 (cv G v)⟩ (fun i _ => vp_updV_set (by rw [cS_len]; exact hj) (cv G v) i)
    · rcases List.mem_append.mp hq with h1 | h1
      · exact hL q h1
      · rw [List.mem_singleton.mp h1]; exact hA
  have hslt : f.slot < cell.slots.size := by rw [hsl]; exact k2_hasslot (q4 j r2)
  have hf := hfin _ r1
  dsimp only at r3 r4 hi hf hfd hlay
  have hdes : (T j).1 = C := r3
  have hi' := hi
  rw [hdes] at hi
  rcases hf with hf | ⟨hf, hinit, hdecl⟩
  · unfold u_lay at hlay
    rw [if_neg (by rw [hf]; decide)] at hlay
    have h6 := u_store hfc hkC hkind hlay hi' hfd hn hv
    rcases r4 with r4 | ⟨host, r4⟩
    · exact W.putK hx hb (f := f) ⟨hown, hts _ r4, ⟨_, _, _, hi⟩, hst⟩ (by rw [q2]; exact h6) q1 q3 hslt rfl rfl hd fin
    · exact va_WputK hx hb (f := f) hown (va_Nw.use rfl (hKS.2.1 _ r4)) hi hst (by rw [q2]; exact h6) q1 q3 hslt rfl rfl hd fin
  · unfold u_lay at hlay
    rw [if_pos hf] at hlay
    have hcf : m.cls = cf := by
      obtain ⟨_, _, c', _, _, _, -, -, hf', -, -, -, hown2, -⟩ := Cond.laysFinal_spec hlay
      have e1 : c' = cf := by have := hi'.symm.trans hf'; simp at this; exact this.1.symm
      rw [hdecl] at hown2
      rw [← e1]; exact Option.some.inj (hown.symm.trans hown2)
    have h6 := u_fits hfc hkC hkind (Or.inr hlay) hi' hfd hn hv
    rcases r4 with r4 | ⟨host, r4⟩
    · exact W.putFinK hx hb hown (hts _ r4) hi hst hcf (hname.trans hinit) (by rw [q2]; exact h6) q1 q3 hslt rfl rfl hd fin
    · exact va_Wputf hx hb hown (va_Nw.use rfl (hKS.2.1 _ r4)) hi hst (Or.inr ⟨hcf, hname.trans hinit⟩) q1 (by rw [q3]; exact fun h => by cases h) hslt h6.1 (by rw [q3, q2]; exact h6.2) rfl rfl hd (by
        have ha : Ad G a < H.size := (Array.getElem?_eq_some_iff.mp q1).1
        refine fin _ ?_ ?_ ?_
        · simp [Array.getElem?_setIfInBounds, ha]
        · simp
        · intro q hq
          simp [Array.getElem?_setIfInBounds, Ne.symm hq])
end VH
