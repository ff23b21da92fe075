/-! whether the tune is its own mirror -/
def plT (ps ls : List Int) (j : Int) : Int := rget ps (rget (nob ls) j)
def mrF (ps ls : List Int) (last : Int) : Nat → Int → Bool
  | 0, _ => true
  | n + 1, j => if j < last - j then (if plT ps ls j = plT ps ls (last - j) then mrF ps ls last n (j + 1) else false) else true
set_option maxHeartbeats 4000000 in
set_option maxRecDepth 20000 in
theorem c_Tune_isMirror (G : Gx) {h : AH} {t : Nat} {ps ls : List Int} (hp : pTune h t ps ls) (hl : ls.length ≤ 13) (hn : (nob ls).length ≤ 37) (hx : ∀ x ∈ ps, 0 ≤ x ∧ x ≤ 9) : Ct G Y_Tune_isMirror 2 0 0 [aR t] h (isR (some (aI (if mrF ps ls (((nob ls).length : Int) - 1) 40 0 then 1 else 0))) h) := by
  obtain ⟨t0, t1, t2, t3⟩ := id hp
  have plR : ∀ j, InR (rget ps j) := fun j => by have := rget_bd hx (by decide) (by decide) j; exact ⟨by omega, by omega⟩
  refine Ct.of_V mo_Tune_isMirror rfl (Nat.le_of_ble_eq_true rfl) rfl ?_
  have loop : ∀ (n : Nat) (j : Nat), (j + n = 40) → (mrF ps ls (((nob ls).length : Int) - 1) n j = mrF ps ls (((nob ls).length : Int) - 1) 40 0) → V G Y_Tune_isMirror 2 0 0 9 [some (aR t), some (aI (((nob ls).length : Int) - 1)), some (aI (j : Int))] [] h (isR (some (aI (if mrF ps ls (((nob ls).length : Int) - 1) 40 0 then 1 else 0))) h) := by
    intro n
    induction n with
    | zero =>
      intro j hj ht
      refine v_iload_n k_Tune_isMirror_9 rfl ?_
      refine v_iload_n k_Tune_isMirror_10 rfl ?_
      refine v_iload_n k_Tune_isMirror_11 rfl ?_
      refine v_isub k_Tune_isMirror_12 ?_
      refine v_icge 39 k_Tune_isMirror_13 rfl (by omega) (by omega) (fun c13 => ?_) (fun c13 => ?_)
      · refine v_iconst k_Tune_isMirror_39 ?_
        refine v_ireturn k_Tune_isMirror_40 rfl (by first | rfl | (split <;> rfl)) ?_
        refine ⟨?_, rfl⟩
        rw [← ht]
        rfl
      · exfalso; omega
    | succ n ih =>
      intro j hj ht
      refine v_iload_n k_Tune_isMirror_9 rfl ?_
      refine v_iload_n k_Tune_isMirror_10 rfl ?_
      refine v_iload_n k_Tune_isMirror_11 rfl ?_
      refine v_isub k_Tune_isMirror_12 ?_
      refine v_icge 39 k_Tune_isMirror_13 rfl (by first | omega | exact plR _) (by first | omega | exact plR _) (fun c13 => ?_) (fun c13 => ?_)
      · refine v_iconst k_Tune_isMirror_39 ?_
        refine v_ireturn k_Tune_isMirror_40 rfl (by first | rfl | (split <;> rfl)) ?_
        refine ⟨?_, rfl⟩
        rw [← ht]
        have e : mrF ps ls (((nob ls).length : Int) - 1) (n + 1) j = true := by rw [mrF, if_neg (by omega)]
        rw [e]
        rfl
      · refine v_aload_n k_Tune_isMirror_16 rfl ?_
        refine v_iload_n k_Tune_isMirror_17 rfl ?_
        refine v_callVr mo_Tune_plainAt mi_Tune_plainAt mv_Tune_plainAt lk_Tune_49 k_Tune_isMirror_18 t0 rfl rfl (Nat.le_of_ble_eq_true rfl) rfl (Nat.le_of_ble_eq_true rfl) (c_Tune_plainAt G hp hl (i := (j : Int)) (by omega)) ?_
        refine v_aload_n k_Tune_isMirror_21 rfl ?_
        refine v_iload_n k_Tune_isMirror_22 rfl ?_
        refine v_iload_n k_Tune_isMirror_23 rfl ?_
        refine v_isub k_Tune_isMirror_24 ?_
        refine v_callVr mo_Tune_plainAt mi_Tune_plainAt mv_Tune_plainAt lk_Tune_49 k_Tune_isMirror_25 t0 rfl rfl (Nat.le_of_ble_eq_true rfl) rfl (Nat.le_of_ble_eq_true rfl) (c_Tune_plainAt G hp hl (i := (((nob ls).length : Int) - 1 - j)) (by omega)) ?_
        refine v_iceq 33 k_Tune_isMirror_28 rfl (by first | omega | exact plR _) (by first | omega | exact plR _) (fun c28 => ?_) (fun c28 => ?_)
        · refine v_iinc k_Tune_isMirror_33 rfl (Nat.le_of_ble_eq_true rfl) ?_
          refine v_goto k_Tune_isMirror_36 (tgt := 9) rfl ?_
          refine ih (j + 1) (by omega) ?_
          rw [← ht]
          have e : mrF ps ls (((nob ls).length : Int) - 1) (n + 1) j = mrF ps ls (((nob ls).length : Int) - 1) n (j + 1) := by rw [mrF, if_pos (by omega), if_pos (show plT ps ls j = plT ps ls (((nob ls).length : Int) - 1 - j) from c28)]
          rw [e]
          rfl
        · refine v_iconst k_Tune_isMirror_31 ?_
          refine v_ireturn k_Tune_isMirror_32 rfl (by first | rfl | (split <;> rfl)) ?_
          refine ⟨?_, rfl⟩
          rw [← ht]
          have e : mrF ps ls (((nob ls).length : Int) - 1) (n + 1) j = false := by rw [mrF, if_pos (by omega), if_neg (show ¬ plT ps ls j = plT ps ls (((nob ls).length : Int) - 1 - j) from c28)]
          rw [e]
          rfl
  refine v_aload_n k_Tune_isMirror_0 rfl ?_
  refine v_getf fl_Tune_26 t0 rfl k_Tune_isMirror_1 ?_
  refine v_iconst k_Tune_isMirror_4 ?_
  refine v_isub k_Tune_isMirror_5 ?_
  refine v_istore_n k_Tune_isMirror_6 ⟨Nat.le_of_ble_eq_true rfl, Nat.le_of_ble_eq_true rfl⟩ ?_
  refine v_iconst k_Tune_isMirror_7 ?_
  refine v_istore_n k_Tune_isMirror_8 ⟨Nat.le_of_ble_eq_true rfl, Nat.le_of_ble_eq_true rfl⟩ ?_
  exact loop 40 0 rfl rfl
