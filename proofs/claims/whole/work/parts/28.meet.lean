/-! meetings: in which ways the notes of two voices meet -/
def apt (K : CK) (one other b : Int) : Int := if rget (kK K) other = 2 ∨ rget (kK K) other = 5 then -(lft K one b - lft K other b) else lft K one b - lft K other b
def dtn (K : CK) (one other : Int) : Int := if ((rget (kK K) one = 2 ∨ rget (kK K) one = 5) ↔ (rget (kK K) other = 2 ∨ rget (kK K) other = 5)) then 0 else 16384
def wyK (K : CK) (one other b : Int) : Int := q_nS K one b + q_nS K other b * 16 + (apt K one other b + 32) * 256 + dtn K one other
def illW (K : CK) (x : Int) : Bool := !(wl (kW K) (x / 256 % 64 - 32 + (if x / 16384 = 0 then rget (kP K) (x % 16) - rget (kP K) (x / 16 % 16) else 2 * rget (kP K) 0 - rget (kP K) (x % 16) - rget (kP K) (x / 16 % 16))))
theorem wy_bd {K : CK} (w : wK K) {one other b : Int} (h1 : 0 ≤ q_nS K one b) (h2 : 0 ≤ q_nS K other b) : 0 ≤ wyK K one other b ∧ wyK K one other b < 32768 ∧ -19 ≤ apt K one other b ∧ apt K one other b ≤ 19 := by
  have a1 := w.nS one b
  have a2 := w.nS other b
  have a3 := lft_in w h1
  have a4 := lft_in w h2
  have a5 : -19 ≤ apt K one other b ∧ apt K one other b ≤ 19 := by unfold apt; split <;> omega
  have a6 : dtn K one other = 0 ∨ dtn K one other = 16384 := by unfold dtn; split <;> simp
  unfold wyK
  omega
theorem or_add (k : Nat) {a b : Int} (h0 : 0 ≤ a) (h1 : a < ((2 ^ k : Nat) : Int)) (hb : 0 ≤ b) : ((a.toNat ||| (b * ((2 ^ k : Nat) : Int)).toNat : Nat) : Int) = a + b * ((2 ^ k : Nat) : Int) := by
  obtain ⟨m, rfl⟩ := Int.eq_ofNat_of_zero_le h0
  obtain ⟨n, rfl⟩ := Int.eq_ofNat_of_zero_le hb
  have h2 : m < 2 ^ k := by exact_mod_cast h1
  rw [Int.toNat_natCast, ← Int.natCast_mul, Int.toNat_natCast, Nat.or_comm, ← Nat.shiftLeft_eq, ← Nat.shiftLeft_add_eq_or_of_lt h2]
  rw [Int.natCast_add]
  omega
section VBM
variable {G : Gx} {Y : Yx} {d rc rs pc : Nat} {ls : List (Option AV)} {st : List AV} {h : AH} {F : Option AV → AH → Prop}
theorem v_iorA (k : Nat) {x y b : Int} (hd : decode Y.2.1 pc = .ok (.ior, 1)) (h0 : 0 ≤ x) (h1 : x < ((2 ^ k : Nat) : Int)) (hb : 0 ≤ b) (hy : y = b * ((2 ^ k : Nat) : Int)) (K : V G Y d rc rs (pc + 1) ls (aI (x + y) :: st) h F) : V G Y d rc rs pc ls (aI y :: aI x :: st) h F := by
  subst hy
  have hp : (0 : Int) ≤ ((2 ^ k : Nat) : Int) := Int.natCast_nonneg _
  exact v_ior hd h0 (Int.mul_nonneg hb hp) (by rw [or_add k h0 h1 hb]; exact K)
end VBM
set_option maxHeartbeats 4000000 in
set_option maxRecDepth 20000 in
theorem c_Meetings_wayOf (G : Gx) {h : AH} {c : Nat} {K : CK} {sg sd : List Int} (hp : pCanon h c K sg sd) (w : wK K) {one other b : Int} (h1 : InR one) (h2 : InR other) (hb : 0 ≤ b ∧ b ≤ 500) (n1 : 0 ≤ q_nS K one b) (n2 : 0 ≤ q_nS K other b) : Ct G Y_Meetings_wayOf 3 0 0 [aR c, aI one, aI other, aI b] h (isR (some (aI (wyK K one other b))) h) := by
  obtain ⟨c0, c1, c2, c3, c4, c5, c6⟩ := id hp
  have hbt : (nob (kL K)).length = bt K := rfl
  have a1 := w.nS one b
  have a2 := w.nS other b
  have a3 := lft_in w n1
  have a4 := lft_in w n2
  have a5 := (wy_bd w n1 n2).2.2
  refine Ct.of_V mo_Meetings_wayOf rfl (Nat.le_of_ble_eq_true rfl) rfl ?_
  have tail : V G Y_Meetings_wayOf 3 0 0 32 [some (aR c), some (aI one), some (aI other), some (aI b), some (aI (apt K one other b)), some (aI (if rget (kK K) other = 2 ∨ rget (kK K) other = 5 then 1 else 0)), none, none] [] h (isR (some (aI (wyK K one other b))) h) := by
    refine v_aload_n k_Meetings_wayOf_32 rfl ?_
    refine v_iload_n k_Meetings_wayOf_33 rfl ?_
    refine v_iload_n k_Meetings_wayOf_34 rfl ?_
    refine v_callVr mo_Canon_noteSung mi_Canon_noteSung mv_Canon_noteSung lk_Meetings_66 k_Meetings_wayOf_35 c0 rfl rfl (Nat.le_of_ble_eq_true rfl) rfl (Nat.le_of_ble_eq_true rfl) (c_Canon_noteSung G hp w (by omega) (by omega)) ?_
    refine v_aload_n k_Meetings_wayOf_38 rfl ?_
    refine v_iload_n k_Meetings_wayOf_39 rfl ?_
    refine v_iload_n k_Meetings_wayOf_40 rfl ?_
    refine v_callVr mo_Canon_noteSung mi_Canon_noteSung mv_Canon_noteSung lk_Meetings_66 k_Meetings_wayOf_41 c0 rfl rfl (Nat.le_of_ble_eq_true rfl) rfl (Nat.le_of_ble_eq_true rfl) (c_Canon_noteSung G hp w (by omega) (by omega)) ?_
    refine v_iconst k_Meetings_wayOf_44 ?_
    refine v_ishl k_Meetings_wayOf_45 (by decide) ?_
    refine v_iorA 4 (b := q_nS K other b) k_Meetings_wayOf_46 (by omega) (by have : ((2 ^ 4 : Nat) : Int) = 16 := rfl; omega) n2 rfl ?_
    rw [show ((2 ^ (4 : Int).toNat : Nat) : Int) = 16 from rfl]
    refine v_istore k_Meetings_wayOf_47 ⟨Nat.le_of_ble_eq_true rfl, Nat.le_of_ble_eq_true rfl⟩ ?_
    refine v_aload_n k_Meetings_wayOf_49 rfl ?_
    refine v_iload_n k_Meetings_wayOf_50 rfl ?_
    refine v_callVr mo_Canon_isTurned mi_Canon_isTurned mv_Canon_isTurned lk_Meetings_62 k_Meetings_wayOf_51 c0 rfl rfl (Nat.le_of_ble_eq_true rfl) rfl (Nat.le_of_ble_eq_true rfl) (c_Canon_isTurned G hp w (by omega)) ?_
    refine v_iload k_Meetings_wayOf_54 rfl ?_
    refine v_iceq 65 k_Meetings_wayOf_56 rfl (by split <;> decide) (by split <;> decide) (fun c56 => ?_) (fun c56 => ?_)
    · refine v_iconst k_Meetings_wayOf_65 ?_
      refine v_istore k_Meetings_wayOf_66 ⟨Nat.le_of_ble_eq_true rfl, Nat.le_of_ble_eq_true rfl⟩ ?_
      refine v_iload k_Meetings_wayOf_68 rfl ?_
      refine v_iload k_Meetings_wayOf_70 rfl ?_
      refine v_bipush k_Meetings_wayOf_72 (by decide) ?_
      refine v_iadd k_Meetings_wayOf_74 ?_
      refine v_bipush k_Meetings_wayOf_75 (by decide) ?_
      refine v_ishl k_Meetings_wayOf_77 (by decide) ?_
      refine v_iorA 8 (b := apt K one other b + 32) k_Meetings_wayOf_78 (by omega) (by have : ((2 ^ 8 : Nat) : Int) = 256 := rfl; omega) (by omega) rfl ?_
      rw [show ((2 ^ (8 : Int).toNat : Nat) : Int) = 256 from rfl]
      refine v_iload k_Meetings_wayOf_79 rfl ?_
      first
        | (refine v_iorA 14 (b := 1) k_Meetings_wayOf_81 (by omega) (by have : ((2 ^ 14 : Nat) : Int) = 16384 := rfl; omega) (by decide) rfl ?_; refine v_ireturn k_Meetings_wayOf_82 rfl rfl ⟨?_, rfl⟩; rw [wyK, dtn, if_neg (by intro hq; revert c56; split <;> split <;> simp_all)]; done)
        | (refine v_iorA 14 (b := 0) k_Meetings_wayOf_81 (by omega) (by have : ((2 ^ 14 : Nat) : Int) = 16384 := rfl; omega) (by decide) rfl ?_; refine v_ireturn k_Meetings_wayOf_82 rfl rfl ⟨?_, rfl⟩; rw [wyK, dtn, if_pos (by revert c56; split <;> split <;> simp_all)]; done)
      skip
    · refine v_sipush k_Meetings_wayOf_59 (by decide) ?_
      refine v_goto k_Meetings_wayOf_62 (tgt := 66) rfl ?_
      refine v_istore k_Meetings_wayOf_66 ⟨Nat.le_of_ble_eq_true rfl, Nat.le_of_ble_eq_true rfl⟩ ?_
      refine v_iload k_Meetings_wayOf_68 rfl ?_
      refine v_iload k_Meetings_wayOf_70 rfl ?_
      refine v_bipush k_Meetings_wayOf_72 (by decide) ?_
      refine v_iadd k_Meetings_wayOf_74 ?_
      refine v_bipush k_Meetings_wayOf_75 (by decide) ?_
      refine v_ishl k_Meetings_wayOf_77 (by decide) ?_
      refine v_iorA 8 (b := apt K one other b + 32) k_Meetings_wayOf_78 (by omega) (by have : ((2 ^ 8 : Nat) : Int) = 256 := rfl; omega) (by omega) rfl ?_
      rw [show ((2 ^ (8 : Int).toNat : Nat) : Int) = 256 from rfl]
      refine v_iload k_Meetings_wayOf_79 rfl ?_
      first
        | (refine v_iorA 14 (b := 1) k_Meetings_wayOf_81 (by omega) (by have : ((2 ^ 14 : Nat) : Int) = 16384 := rfl; omega) (by decide) rfl ?_; refine v_ireturn k_Meetings_wayOf_82 rfl rfl ⟨?_, rfl⟩; rw [wyK, dtn, if_neg (by intro hq; revert c56; split <;> split <;> simp_all)]; done)
        | (refine v_iorA 14 (b := 0) k_Meetings_wayOf_81 (by omega) (by have : ((2 ^ 14 : Nat) : Int) = 16384 := rfl; omega) (by decide) rfl ?_; refine v_ireturn k_Meetings_wayOf_82 rfl rfl ⟨?_, rfl⟩; rw [wyK, dtn, if_pos (by revert c56; split <;> split <;> simp_all)]; done)
      skip
  refine v_aload_n k_Meetings_wayOf_0 rfl ?_
  refine v_iload_n k_Meetings_wayOf_1 rfl ?_
  refine v_iload_n k_Meetings_wayOf_2 rfl ?_
  refine v_callVr mo_Canon_lift mi_Canon_lift mv_Canon_lift lk_Meetings_59 k_Meetings_wayOf_3 c0 rfl rfl (Nat.le_of_ble_eq_true rfl) rfl (Nat.le_of_ble_eq_true rfl) (c_Canon_lift G hp w (by omega) (by omega)) ?_
  refine v_aload_n k_Meetings_wayOf_6 rfl ?_
  refine v_iload_n k_Meetings_wayOf_7 rfl ?_
  refine v_iload_n k_Meetings_wayOf_8 rfl ?_
  refine v_callVr mo_Canon_lift mi_Canon_lift mv_Canon_lift lk_Meetings_59 k_Meetings_wayOf_9 c0 rfl rfl (Nat.le_of_ble_eq_true rfl) rfl (Nat.le_of_ble_eq_true rfl) (c_Canon_lift G hp w (by omega) (by omega)) ?_
  refine v_isub k_Meetings_wayOf_12 ?_
  refine v_istore k_Meetings_wayOf_13 ⟨Nat.le_of_ble_eq_true rfl, Nat.le_of_ble_eq_true rfl⟩ ?_
  refine v_aload_n k_Meetings_wayOf_15 rfl ?_
  refine v_iload_n k_Meetings_wayOf_16 rfl ?_
  refine v_callVr mo_Canon_isTurned mi_Canon_isTurned mv_Canon_isTurned lk_Meetings_62 k_Meetings_wayOf_17 c0 rfl rfl (Nat.le_of_ble_eq_true rfl) rfl (Nat.le_of_ble_eq_true rfl) (c_Canon_isTurned G hp w (by omega)) ?_
  refine v_istore k_Meetings_wayOf_20 ⟨Nat.le_of_ble_eq_true rfl, Nat.le_of_ble_eq_true rfl⟩ ?_
  refine v_iload k_Meetings_wayOf_22 rfl ?_
  refine v_ifeq 32 k_Meetings_wayOf_24 rfl (by split <;> decide) (fun c24 => ?_) (fun c24 => ?_)
  · unfold apt at tail
    by_cases hq : rget (kK K) other = 2 ∨ rget (kK K) other = 5
    · rw [if_pos hq] at c24 ⊢
      rw [if_pos hq, if_pos hq] at tail
      first | (exact tail) | (exact absurd c24 (by decide))
    · rw [if_neg hq] at c24 ⊢
      rw [if_neg hq, if_neg hq] at tail
      first | (exact tail) | (exact absurd rfl c24)
  · refine v_iload k_Meetings_wayOf_27 rfl ?_
    refine v_ineg k_Meetings_wayOf_29 ?_
    refine v_istore k_Meetings_wayOf_30 ⟨Nat.le_of_ble_eq_true rfl, Nat.le_of_ble_eq_true rfl⟩ ?_
    unfold apt at tail
    by_cases hq : rget (kK K) other = 2 ∨ rget (kK K) other = 5
    · rw [if_pos hq] at c24 ⊢
      rw [if_pos hq, if_pos hq] at tail
      first | (exact tail) | (exact absurd c24 (by decide))
    · rw [if_neg hq] at c24 ⊢
      rw [if_neg hq, if_neg hq] at tail
      first | (exact tail) | (exact absurd rfl c24)
