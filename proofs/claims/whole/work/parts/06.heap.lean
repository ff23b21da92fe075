/-! bits -/
theorem oi_nat' {x : Int} (h : 0 ≤ x) : Int32.ofInt x = Int32.ofNat x.toNat := by
  rw [← Int32.ofInt_eq_ofNat, Int.toNat_of_nonneg h]
theorem on_and (a b : Nat) : Int32.ofNat a &&& Int32.ofNat b = Int32.ofNat (a &&& b) := by
  apply Int32.toBitVec.inj
  rw [Int32.toBitVec_and]
  show BitVec.ofNat 32 a &&& BitVec.ofNat 32 b = BitVec.ofNat 32 (a &&& b)
  exact (BitVec.ofNat_and).symm
theorem on_or (a b : Nat) : Int32.ofNat a ||| Int32.ofNat b = Int32.ofNat (a ||| b) := by
  apply Int32.toBitVec.inj
  rw [Int32.toBitVec_or]
  show BitVec.ofNat 32 a ||| BitVec.ofNat 32 b = BitVec.ofNat 32 (a ||| b)
  exact (BitVec.ofNat_or).symm
theorem on_xor (a b : Nat) : Int32.ofNat a ^^^ Int32.ofNat b = Int32.ofNat (a ^^^ b) := by
  apply Int32.toBitVec.inj
  rw [Int32.toBitVec_xor]
  show BitVec.ofNat 32 a ^^^ BitVec.ofNat 32 b = BitVec.ofNat 32 (a ^^^ b)
  exact (BitVec.ofNat_xor).symm
theorem oi_emod (x : Int) : Int32.ofInt x = Int32.ofInt (x % 4294967296) := by
  apply Int32.toInt_inj.mp
  rw [Int32.toInt_ofInt, Int32.toInt_ofInt]
  exact (Int.emod_bmod x 4294967296).symm
theorem oi_and {x y : Int} (hx : 0 ≤ x) (hy : 0 ≤ y) : Int32.ofInt x &&& Int32.ofInt y = Int32.ofInt ((x.toNat &&& y.toNat : Nat) : Int) := by
  rw [oi_nat' hx, oi_nat' hy, on_and, Int32.ofInt_eq_ofNat]
theorem oi_or {x y : Int} (hx : 0 ≤ x) (hy : 0 ≤ y) : Int32.ofInt x ||| Int32.ofInt y = Int32.ofInt ((x.toNat ||| y.toNat : Nat) : Int) := by
  rw [oi_nat' hx, oi_nat' hy, on_or, Int32.ofInt_eq_ofNat]
theorem oi_xor {x y : Int} (hx : 0 ≤ x) (hy : 0 ≤ y) : Int32.ofInt x ^^^ Int32.ofInt y = Int32.ofInt ((x.toNat ^^^ y.toNat : Nat) : Int) := by
  rw [oi_nat' hx, oi_nat' hy, on_xor, Int32.ofInt_eq_ofNat]
theorem oi_mask (x : Int) (k : Nat) (hk : k ≤ 31) : Int32.ofInt x &&& Int32.ofInt ((2 ^ k - 1 : Nat) : Int) = Int32.ofInt (x % ((2 ^ k : Nat) : Int)) := by
  rw [oi_emod x, oi_and (Int.emod_nonneg _ (by decide)) (Int.natCast_nonneg _)]
  congr 1
  rw [Int.toNat_natCast, Nat.and_two_pow_sub_one_eq_mod, Int.natCast_emod, Int.toNat_of_nonneg (Int.emod_nonneg _ (by decide))]
  apply Int.emod_emod_of_dvd
  exact_mod_cast (show (2 ^ k) ∣ 4294967296 from Nat.pow_dvd_pow 2 (show k ≤ 32 by omega))
theorem sh_mask : ∀ k : Nat, k < 32 → (Int32.ofNat k &&& 31).toBitVec.smod 32 = BitVec.ofNat 32 k := by decide +kernel
theorem sh_nat : ∀ k : Nat, k < 32 → (BitVec.ofNat 32 k).toNat = k := by decide +kernel
theorem oi_shl {x y : Int} (hy : 0 ≤ y ∧ y ≤ 31) : Int32.ofInt x <<< (Int32.ofInt y &&& 31) = Int32.ofInt (x * (2 ^ y.toNat : Nat)) := by
  have hk : y.toNat < 32 := by omega
  rw [oi_nat' hy.1]
  apply Int32.toBitVec.inj
  show (Int32.ofInt x).toBitVec <<< ((Int32.ofNat y.toNat &&& 31).toBitVec.smod 32) = _
  rw [sh_mask _ hk, BitVec.shiftLeft_eq', sh_nat _ hk, Int32.ofInt_mul, Int32.toBitVec_mul, BitVec.shiftLeft_eq_mul_twoPow]
  congr 1
  apply BitVec.eq_of_toNat_eq
  rw [BitVec.toNat_twoPow, Int32.toBitVec_ofInt, BitVec.ofInt_natCast, BitVec.toNat_ofNat]
theorem oi_shr {x y : Int} (hx : InR x) (hy : 0 ≤ y ∧ y ≤ 31) : Int32.ofInt x >>> (Int32.ofInt y &&& 31) = Int32.ofInt (x / (2 ^ y.toNat : Nat)) := by
  have hk : y.toNat < 32 := by omega
  rw [oi_nat' hy.1]
  apply Int32.toInt_inj.mp
  show (((Int32.ofInt x).toBitVec.sshiftRight' ((Int32.ofNat y.toNat &&& 31).toBitVec.smod 32))).toInt = _
  rw [sh_mask _ hk, BitVec.sshiftRight'_eq, sh_nat _ hk, BitVec.toInt_sshiftRight]
  have e : (Int32.ofInt x).toBitVec.toInt = x := oi_toInt hx
  rw [e, Int.shiftRight_eq_div_pow]
  have hp : (0 : Int) < ((2 ^ y.toNat : Nat) : Int) := by exact_mod_cast Nat.two_pow_pos _
  have hb : InR (x / ((2 ^ y.toNat : Nat) : Int)) := by
    have h1 := hx.1
    have h2 := hx.2
    constructor
    · apply Int.le_ediv_of_mul_le hp
      have : (1 : Int) ≤ ((2 ^ y.toNat : Nat) : Int) := hp
      have h3 : (-2147483648 : Int) * ((2 ^ y.toNat : Nat) : Int) ≤ -2147483648 * 1 := Int.mul_le_mul_of_nonpos_left this (by decide)
      omega
    · rcases Int.le_total 0 x with h | h
      · exact Int.le_trans (Int.ediv_le_self _ h) h2
      · have : x / ((2 ^ y.toNat : Nat) : Int) ≤ 0 := Int.ediv_nonpos_of_nonpos_of_nonneg h (Int.le_of_lt hp)
        omega
  rw [oi_toInt hb]
section VB
variable {G : Gx} {Y : Yx} {d rc rs pc : Nat} {ls : List (Option AV)} {st : List AV} {h : AH} {F : Option AV → AH → Prop}
theorem v_ishl {x y : Int} (hd : decode Y.2.1 pc = .ok (.ishl, 1)) (hy : 0 ≤ y ∧ y ≤ 31) (k : V G Y d rc rs (pc + 1) ls (aI (x * (2 ^ y.toNat : Nat)) :: st) h F) : V G Y d rc rs pc ls (aI y :: aI x :: st) h F :=
  V.lift (fun _ _ _ _ _ _ _ _ _ _ _ _ _ _ _ lsC hC hls _ _ _ _ k => lv_ishl hC.1 hC.2.1 hd (by rw [oi_shl hy]; exact k lsC hls)) k
theorem v_ishr {x y : Int} (hd : decode Y.2.1 pc = .ok (.ishr, 1)) (hx : InR x) (hy : 0 ≤ y ∧ y ≤ 31) (k : V G Y d rc rs (pc + 1) ls (aI (x / (2 ^ y.toNat : Nat)) :: st) h F) : V G Y d rc rs pc ls (aI y :: aI x :: st) h F :=
  V.lift (fun _ _ _ _ _ _ _ _ _ _ _ _ _ _ _ lsC hC hls _ _ _ _ k => lv_ishr hC.1 hC.2.1 hd (by rw [oi_shr hx hy]; exact k lsC hls)) k
theorem v_iand {x y : Int} (hd : decode Y.2.1 pc = .ok (.iand, 1)) (hx : 0 ≤ x) (hy : 0 ≤ y) (k : V G Y d rc rs (pc + 1) ls (aI ((x.toNat &&& y.toNat : Nat) : Int) :: st) h F) : V G Y d rc rs pc ls (aI y :: aI x :: st) h F :=
  V.lift (fun _ _ _ _ _ _ _ _ _ _ _ _ _ _ _ lsC hC hls _ _ _ _ k => lv_iand hC.1 hC.2.1 hd (by rw [oi_and hx hy]; exact k lsC hls)) k
theorem v_ior {x y : Int} (hd : decode Y.2.1 pc = .ok (.ior, 1)) (hx : 0 ≤ x) (hy : 0 ≤ y) (k : V G Y d rc rs (pc + 1) ls (aI ((x.toNat ||| y.toNat : Nat) : Int) :: st) h F) : V G Y d rc rs pc ls (aI y :: aI x :: st) h F :=
  V.lift (fun _ _ _ _ _ _ _ _ _ _ _ _ _ _ _ lsC hC hls _ _ _ _ k => lv_ior hC.1 hC.2.1 hd (by rw [oi_or hx hy]; exact k lsC hls)) k
theorem v_ixor {x y : Int} (hd : decode Y.2.1 pc = .ok (.ixor, 1)) (hx : 0 ≤ x) (hy : 0 ≤ y) (k : V G Y d rc rs (pc + 1) ls (aI ((x.toNat ^^^ y.toNat : Nat) : Int) :: st) h F) : V G Y d rc rs pc ls (aI y :: aI x :: st) h F :=
  V.lift (fun _ _ _ _ _ _ _ _ _ _ _ _ _ _ _ lsC hC hls _ _ _ _ k => lv_ixor hC.1 hC.2.1 hd (by rw [oi_xor hx hy]; exact k lsC hls)) k
/-- and with a mask of the lowest b bits, of any number -/
theorem v_mask {x y : Int} (b : Nat) (hd : decode Y.2.1 pc = .ok (.iand, 1)) (hb : b ≤ 31) (hy : y = ((2 ^ b - 1 : Nat) : Int)) (k : V G Y d rc rs (pc + 1) ls (aI (x % ((2 ^ b : Nat) : Int)) :: st) h F) : V G Y d rc rs pc ls (aI y :: aI x :: st) h F :=
  V.lift (fun _ _ _ _ _ _ _ _ _ _ _ _ _ _ _ lsC hC hls _ _ _ _ k => lv_iand hC.1 hC.2.1 hd (by rw [hy, oi_mask x b hb]; exact k lsC hls)) k
theorem v_i2c {x : Int} (hd : decode Y.2.1 pc = .ok (.i2c, 1)) (hx : 0 ≤ x ∧ x ≤ 65535) (k : V G Y d rc rs (pc + 1) ls (aI x :: st) h F) : V G Y d rc rs pc ls (aI x :: st) h F :=
  V.lift (fun _ _ _ _ _ _ _ _ _ _ _ _ _ _ _ lsC hC hls _ _ _ _ k => lv_i2c hC.1 hC.2.1 hd (v := Int32.ofInt x) (by
    rw [oi_nat' hx.1]
    have hn : x.toNat ≤ 65535 := by omega
    generalize x.toNat = n at hn ⊢
    apply Int32.toBitVec.inj
    apply BitVec.eq_of_toNat_eq
    show (UInt32.ofNat n % 65536).toNat = (BitVec.ofNat 32 n).toNat
    rw [UInt32.toNat_mod, UInt32.toNat_ofNat', BitVec.toNat_ofNat]
    show n % 4294967296 % 65536 = n % 4294967296
    omega) (k lsC hls)) k
/-! Math -/
theorem v_mmax {x y : Int} {idx : Nat} (hd : decode Y.2.1 pc = .ok (.invokestatic idx, 3)) (hl : Cond.methodLink Y.1.cls idx Lib.Math.max.name ∈ wsAll) (hx : InR x) (hy : InR y) (hc : catS st ≤ 8) (hd1 : 1 ≤ d) (k : V G Y d rc rs (pc + 3) ls (aI (max x y) :: st) h F) : V G Y d rc rs pc ls (aI y :: aI x :: st) h F :=
  V.lift (fun _ _ _ R _ _ _ _ _ _ _ _ _ _ _ lsC hC hls hcl hsl hdd hll k => by
    have ht := hC.2.2.2.2.2.2.2.1
    refine va_mmax hC.1 hC.2.1 (by rw [hC.2.2.1]; exact hls.1.symm) hC.2.2.2.2.2.1 (ht _ hl) (ht _ mst_max) (ht _ min_M) (ht _ mco_max) (by omega) (by rw [catS_cS]; omega) hcl hsl hd ?_
    have e : (if Int32.ofInt x < Int32.ofInt y then Int32.ofInt y else Int32.ofInt x) = Int32.ofInt (max x y) := by
      by_cases hb : x < y
      · rw [if_pos ((oi_lt hx hy).mpr hb), Int.max_eq_right (by omega)]
      · rw [if_neg (fun q => hb ((oi_lt hx hy).mp q)), Int.max_eq_left (by omega)]
    rw [e]; exact k lsC hls) k
theorem v_mmin {x y : Int} {idx : Nat} (hd : decode Y.2.1 pc = .ok (.invokestatic idx, 3)) (hl : Cond.methodLink Y.1.cls idx Lib.Math.min.name ∈ wsAll) (hx : InR x) (hy : InR y) (hc : catS st ≤ 8) (hd1 : 1 ≤ d) (k : V G Y d rc rs (pc + 3) ls (aI (min x y) :: st) h F) : V G Y d rc rs pc ls (aI y :: aI x :: st) h F :=
  V.lift (fun _ _ _ R _ _ _ _ _ _ _ _ _ _ _ lsC hC hls hcl hsl hdd hll k => by
    have ht := hC.2.2.2.2.2.2.2.1
    refine va_mmin hC.1 hC.2.1 (by rw [hC.2.2.1]; exact hls.1.symm) hC.2.2.2.2.2.1 (ht _ hl) (ht _ mst_min) (ht _ min_M) (ht _ mco_min) (by omega) (by rw [catS_cS]; omega) hcl hsl hd ?_
    have e : (if Int32.ofInt y < Int32.ofInt x then Int32.ofInt y else Int32.ofInt x) = Int32.ofInt (min x y) := by
      by_cases hb : y < x
      · rw [if_pos ((oi_lt hy hx).mpr hb), Int.min_eq_right (by omega)]
      · rw [if_neg (fun q => hb ((oi_lt hy hx).mp q)), Int.min_eq_left (by omega)]
    rw [e]; exact k lsC hls) k
theorem v_mabs {x : Int} {idx : Nat} (hd : decode Y.2.1 pc = .ok (.invokestatic idx, 3)) (hl : Cond.methodLink Y.1.cls idx Lib.Math.abs.name ∈ wsAll) (hx : InR x) (hc : catS st ≤ 8) (hd1 : 1 ≤ d) (k : V G Y d rc rs (pc + 3) ls (aI (if 0 ≤ x then x else -x) :: st) h F) : V G Y d rc rs pc ls (aI x :: st) h F :=
  V.lift (fun _ _ _ R _ _ _ _ _ _ _ _ _ _ _ lsC hC hls hcl hsl hdd hll k => by
    have ht := hC.2.2.2.2.2.2.2.1
    refine va_mabs hC.1 hC.2.1 (by rw [hC.2.2.1]; exact hls.1.symm) hC.2.2.2.2.2.1 (ht _ hl) (ht _ mst_abs) (ht _ min_M) (ht _ mco_abs) (by omega) (by rw [catS_cS]; omega) hcl hsl hd ?_
    have e : (if 0 ≤ Int32.ofInt x then Int32.ofInt x else 0 - Int32.ofInt x) = Int32.ofInt (if 0 ≤ x then x else -x) := by
      by_cases hb : 0 ≤ x
      · rw [if_pos (show (0 : Int32) ≤ Int32.ofInt x from (oi_le (x := 0) InR0 hx).mpr hb), if_pos hb]
      · rw [if_neg (show ¬ (0 : Int32) ≤ Int32.ofInt x from fun q => hb ((oi_le (x := 0) InR0 hx).mp q)), if_neg hb, show -x = 0 - x by omega, Int32.ofInt_sub]
        rfl
    rw [e]; exact k lsC hls) k
end VB
