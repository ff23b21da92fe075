theorem fin2 {r : Int × St} {x : Int} {S' : St} {h h' : AH} {o : Nat} (e : r = (x, S')) (p : pMain h' o S') (f : Fr o (o + 73) h h') : some (aJ x) = some (aJ r.1) ∧ pMain h' o r.2 ∧ Fr o (o + 73) h h' := by
  rw [e]; exact ⟨rfl, p, f⟩
theorem fIB_bd (K : CK) : ∀ (n b : Nat), fIB K n b = -9 ∨ ((b : Int) ≤ fIB K n b ∧ fIB K n b < b + n)
  | 0, b => Or.inl rfl
  | n + 1, b => by
    unfold fIB
    split
    · omega
    · have := fIB_bd K n (b + 1)
      omega
theorem tellA_bd (xs : List Int) : ∀ (k : Nat) (p t : Int) (K : CK), 0 ≤ p → 0 ≤ t → xs.length ≤ 80 → -2080 ≤ (tellA xs k p t K).1 ∧ (tellA xs k p t K).1 ≤ t + k
  | 0, p, t, K, hp, ht, hx => by
    show -2080 ≤ t ∧ t ≤ t + ((0 : Nat) : Int)
    omega
  | k + 1, p, t, K, hp, ht, hx => by
    unfold tellA
    split
    · split
      · show -2080 ≤ -2000 - p ∧ -2000 - p ≤ _
        omega
      · rename_i K' _
        have := tellA_bd xs k (p + fmL xs p) (t + 1) K' (by omega) (by omega) hx
        omega
    · show -2080 ≤ t ∧ t ≤ _
      omega
theorem fnH_in (K : CK) (v b : Int) : ∀ (xs : List Int) (i : Nat), i + xs.length ≤ 1000 → InR (fnH K v b xs i)
  | [], i, _ => by show InR (-9); decide
  | x :: t, i, h => by
    unfold fnH
    have h : i + (t.length + 1) ≤ 1000 := h
    split <;> split <;> first | exact fnH_in K v b t (i + 1) (by omega) | exact ⟨by omega, by omega⟩
theorem ffA_bd (xs : List Int) : ∀ (k : Nat) (p : Int), 0 ≤ p → p ≤ 7 * (80 - k) → k ≤ 80 → -2000 ≤ ffA xs k p ∧ ffA xs k p ≤ 0
  | 0, p, _, _, _ => by show -2000 ≤ (0 : Int) ∧ (0 : Int) ≤ 0; decide
  | k + 1, p, h0, h1, h2 => by
    have hf : ∀ (n i : Nat), i + n ≤ 7 → -2000 ≤ ff1 xs p (fmI xs p) n i ∧ ff1 xs p (fmI xs p) n i ≤ 0 := by
      intro n
      induction n with
      | zero => intro i _; show -2000 ≤ (0 : Int) ∧ (0 : Int) ≤ 0; decide
      | succ n ih =>
        intro i hi
        unfold ff1
        split
        · exact ih (i + 1) (by omega)
        · omega
    have hb := fmL_bd xs p
    have hf0 := hf (fmL xs p) 0 (by omega)
    unfold ffA
    split
    · exact hf0
    · split
      · decide
      · exact ffA_bd xs k (p + fmL xs p) (by omega) (by omega) (by omega)
set_option maxHeartbeats 4000000 in
set_option maxRecDepth 20000 in
theorem c_Main_pitch (G : Gx) {h : AH} {o : Nat} {S : St} (hp : pMain h o S) (w : wSt S) {n x : Int} (hn : InR n) (hx : InR x) : Ct G Y_Main_pitch 3 0 0 [aR o, aI n, aI x] h (fun v h' => v = some (aI (s_pitch S n x).1) ∧ pMain h' o (s_pitch S n x).2 ∧ Fr o (o + 73) h h') := by
  obtain ⟨m0, ⟨sg, sd, m1⟩, ⟨sg2, sd2, m2⟩, m3, ⟨es, ls, m4⟩, m5, m6, m7⟩ := id hp
  obtain ⟨k0, k1, k2⟩ := id m1
  have k3 := k1.1
  have j0 := m2.1
  obtain ⟨w1, w2, w3, w4, w5, w6, w7, w8⟩ := id w
  have wu := w1.up (by decide) (by decide)
  obtain ⟨fm, m8⟩ : ∃ fs, h.2 (o + 37) = some (aO 2 fs) := by obtain ⟨_, _, _, _, _, _, q⟩ := m3; exact ⟨_, q.1⟩
  have ho := oS_spec x 0 9
  refine Ct.of_V mo_Main_pitch rfl (Nat.le_of_ble_eq_true rfl) rfl ?_
  by_cases hc : 0 ≤ n ∧ n < (kP (nK S)).length
  · skip
    refine v_aload_n k_Main_pitch_0 rfl ?_
    refine v_getf fl_Main_12 m0 rfl k_Main_pitch_1 ?_
    refine v_getf fl_Main_91 k0 rfl k_Main_pitch_4 ?_
    refine v_iload_n k_Main_pitch_7 rfl ?_
    refine v_callVr mo_Tune_has mi_Tune_has mv_Tune_has lk_Main_95 k_Main_pitch_8 k3 rfl rfl (Nat.le_of_ble_eq_true rfl) rfl (Nat.le_of_ble_eq_true rfl) ((by have q := c_Tune_has G k1 (i := n) (by omega); rw [if_pos hc] at q; exact q)) ?_
    refine v_ifeq 24 k_Main_pitch_11 rfl (by omega) (fun c11 => ?_) (fun c11 => ?_)
    · refine v_iconst k_Main_pitch_24 ?_
      refine v_istore_n k_Main_pitch_25 ⟨Nat.le_of_ble_eq_true rfl, Nat.le_of_ble_eq_true rfl⟩ ?_
      refine v_iload_n k_Main_pitch_26 rfl ?_
      refine v_ifeq 36 k_Main_pitch_27 rfl (by omega) (fun c27 => ?_) (fun c27 => ?_)
      · refine v_aload_n k_Main_pitch_36 rfl ?_
        refine v_getf fl_Main_12 m0 rfl k_Main_pitch_37 ?_
        refine v_getf fl_Main_91 k0 rfl k_Main_pitch_40 ?_
        refine v_iload_n k_Main_pitch_43 rfl ?_
        refine v_callVr mo_Tune_pitchOf mi_Tune_pitchOf mv_Tune_pitchOf lk_Main_101 k_Main_pitch_44 k3 rfl rfl (Nat.le_of_ble_eq_true rfl) rfl (Nat.le_of_ble_eq_true rfl) (c_Tune_pitchOf G k1 hn) ?_
        refine v_istore k_Main_pitch_47 ⟨Nat.le_of_ble_eq_true rfl, Nat.le_of_ble_eq_true rfl⟩ ?_
        refine v_aload_n k_Main_pitch_49 rfl ?_
        refine v_getf fl_Main_12 m0 rfl k_Main_pitch_50 ?_
        refine v_getf fl_Main_91 k0 rfl k_Main_pitch_53 ?_
        refine v_iload_n k_Main_pitch_56 rfl ?_
        refine v_iload_n k_Main_pitch_57 rfl ?_
        refine v_callV mo_Tune_setPitch mi_Tune_setPitch mv_Tune_setPitch lk_Main_128 k_Main_pitch_58 k3 rfl rfl (Nat.le_of_ble_eq_true rfl) rfl (Nat.le_of_ble_eq_true rfl) (c_Tune_setPitch G k1 hn (x := x)) (fun v58 h58 q58 => ?_)
        obtain ⟨rfl, q8, f9⟩ := q58
        refine v_iload k_Main_pitch_61 rfl ?_
        refine v_ireturn k_Main_pitch_63 rfl rfl ?_
        first
          | (exfalso; omega)
          | exact fin1 (by unfold s_pitch; (repeat (first | rw [if_pos (by omega)] | rw [if_neg (by omega)])); try rfl) p9 (f9.wd (by omega) (by omega))
          | exact fin1 (S' := wK_ S (setP (nK S) n x)) (by unfold s_pitch; (repeat (first | rw [if_pos (by omega)] | rw [if_neg (by omega)])); try rfl) ⟨f9.at hp.1 (by omega), ⟨sg, sd, f9.at k0 (by omega), q8, k2.1.fr f9 (by omega), k2.2.1.fr f9 (by omega), k2.2.2.1.fr f9 (by omega), k2.2.2.2.1.fr f9 (by omega), k2.2.2.2.2.fr f9 (by omega)⟩, ⟨sg2, sd2, m2.fr f9 (by omega)⟩, m3.fr f9 (by omega), ⟨es, ls, m4.fr f9 (by omega)⟩, m5.fr f9 (by omega), m6.fr f9 (by omega), m7.fr f9 (by omega)⟩ (f9.wd (by omega) (by omega))
          | exact fin1 (by unfold s_pitch; (repeat (first | rw [if_pos (by omega)] | rw [if_neg (by omega)])); try rfl) hp Fr.rf
      · refine v_aload_n k_Main_pitch_30 rfl ?_
        refine v_iload_n k_Main_pitch_31 rfl ?_
        refine v_callV mo_Main_refuse mi_Main_refuse mv_Main_refuse lk_Main_67 k_Main_pitch_32 m0 rfl rfl (Nat.le_of_ble_eq_true rfl) rfl (Nat.le_of_ble_eq_true rfl) (c_Main_refuse G hp w (by omega)) (fun v32 h32 q32 => ?_)
        obtain ⟨rfl, p9, f9⟩ := q32
        refine v_ireturn k_Main_pitch_35 rfl rfl ?_
        first
          | (exfalso; omega)
          | exact fin1 (by unfold s_pitch; (repeat (first | rw [if_pos (by omega)] | rw [if_neg (by omega)])); try rfl) p9 (f9.wd (by omega) (by omega))
          | exact fin1 (S' := wK_ S (setP (nK S) n x)) (by unfold s_pitch; (repeat (first | rw [if_pos (by omega)] | rw [if_neg (by omega)])); try rfl) ⟨f9.at hp.1 (by omega), ⟨sg, sd, f9.at k0 (by omega), q8, k2.1.fr f9 (by omega), k2.2.1.fr f9 (by omega), k2.2.2.1.fr f9 (by omega), k2.2.2.2.1.fr f9 (by omega), k2.2.2.2.2.fr f9 (by omega)⟩, ⟨sg2, sd2, m2.fr f9 (by omega)⟩, m3.fr f9 (by omega), ⟨es, ls, m4.fr f9 (by omega)⟩, m5.fr f9 (by omega), m6.fr f9 (by omega), m7.fr f9 (by omega)⟩ (f9.wd (by omega) (by omega))
          | exact fin1 (by unfold s_pitch; (repeat (first | rw [if_pos (by omega)] | rw [if_neg (by omega)])); try rfl) hp Fr.rf
    · refine v_iload_n k_Main_pitch_14 rfl ?_
      refine v_iconst k_Main_pitch_15 ?_
      refine v_bipush k_Main_pitch_16 (by decide) ?_
      refine v_callSr mo_Main_outside ms_Main_outside lk_Main_59 k_Main_pitch_18 rfl (Nat.le_of_ble_eq_true rfl) rfl (Nat.le_of_ble_eq_true rfl) (c_Main_outside G (v := x) (l := 0) (m := 9) (by omega) (by omega) (by omega)) ?_
      refine v_goto k_Main_pitch_21 (tgt := 25) rfl ?_
      refine v_istore_n k_Main_pitch_25 ⟨Nat.le_of_ble_eq_true rfl, Nat.le_of_ble_eq_true rfl⟩ ?_
      refine v_iload_n k_Main_pitch_26 rfl ?_
      refine v_ifeq 36 k_Main_pitch_27 rfl (by omega) (fun c27 => ?_) (fun c27 => ?_)
      · refine v_aload_n k_Main_pitch_36 rfl ?_
        refine v_getf fl_Main_12 m0 rfl k_Main_pitch_37 ?_
        refine v_getf fl_Main_91 k0 rfl k_Main_pitch_40 ?_
        refine v_iload_n k_Main_pitch_43 rfl ?_
        refine v_callVr mo_Tune_pitchOf mi_Tune_pitchOf mv_Tune_pitchOf lk_Main_101 k_Main_pitch_44 k3 rfl rfl (Nat.le_of_ble_eq_true rfl) rfl (Nat.le_of_ble_eq_true rfl) (c_Tune_pitchOf G k1 hn) ?_
        refine v_istore k_Main_pitch_47 ⟨Nat.le_of_ble_eq_true rfl, Nat.le_of_ble_eq_true rfl⟩ ?_
        refine v_aload_n k_Main_pitch_49 rfl ?_
        refine v_getf fl_Main_12 m0 rfl k_Main_pitch_50 ?_
        refine v_getf fl_Main_91 k0 rfl k_Main_pitch_53 ?_
        refine v_iload_n k_Main_pitch_56 rfl ?_
        refine v_iload_n k_Main_pitch_57 rfl ?_
        refine v_callV mo_Tune_setPitch mi_Tune_setPitch mv_Tune_setPitch lk_Main_128 k_Main_pitch_58 k3 rfl rfl (Nat.le_of_ble_eq_true rfl) rfl (Nat.le_of_ble_eq_true rfl) (c_Tune_setPitch G k1 hn (x := x)) (fun v58 h58 q58 => ?_)
        obtain ⟨rfl, q8, f9⟩ := q58
        refine v_iload k_Main_pitch_61 rfl ?_
        refine v_ireturn k_Main_pitch_63 rfl rfl ?_
        first
          | (exfalso; omega)
          | exact fin1 (by unfold s_pitch; (repeat (first | rw [if_pos (by omega)] | rw [if_neg (by omega)])); try rfl) p9 (f9.wd (by omega) (by omega))
          | exact fin1 (S' := wK_ S (setP (nK S) n x)) (by unfold s_pitch; (repeat (first | rw [if_pos (by omega)] | rw [if_neg (by omega)])); try rfl) ⟨f9.at hp.1 (by omega), ⟨sg, sd, f9.at k0 (by omega), q8, k2.1.fr f9 (by omega), k2.2.1.fr f9 (by omega), k2.2.2.1.fr f9 (by omega), k2.2.2.2.1.fr f9 (by omega), k2.2.2.2.2.fr f9 (by omega)⟩, ⟨sg2, sd2, m2.fr f9 (by omega)⟩, m3.fr f9 (by omega), ⟨es, ls, m4.fr f9 (by omega)⟩, m5.fr f9 (by omega), m6.fr f9 (by omega), m7.fr f9 (by omega)⟩ (f9.wd (by omega) (by omega))
          | exact fin1 (by unfold s_pitch; (repeat (first | rw [if_pos (by omega)] | rw [if_neg (by omega)])); try rfl) hp Fr.rf
      · refine v_aload_n k_Main_pitch_30 rfl ?_
        refine v_iload_n k_Main_pitch_31 rfl ?_
        refine v_callV mo_Main_refuse mi_Main_refuse mv_Main_refuse lk_Main_67 k_Main_pitch_32 m0 rfl rfl (Nat.le_of_ble_eq_true rfl) rfl (Nat.le_of_ble_eq_true rfl) (c_Main_refuse G hp w (by omega)) (fun v32 h32 q32 => ?_)
        obtain ⟨rfl, p9, f9⟩ := q32
        refine v_ireturn k_Main_pitch_35 rfl rfl ?_
        first
          | (exfalso; omega)
          | exact fin1 (by unfold s_pitch; (repeat (first | rw [if_pos (by omega)] | rw [if_neg (by omega)])); try rfl) p9 (f9.wd (by omega) (by omega))
          | exact fin1 (S' := wK_ S (setP (nK S) n x)) (by unfold s_pitch; (repeat (first | rw [if_pos (by omega)] | rw [if_neg (by omega)])); try rfl) ⟨f9.at hp.1 (by omega), ⟨sg, sd, f9.at k0 (by omega), q8, k2.1.fr f9 (by omega), k2.2.1.fr f9 (by omega), k2.2.2.1.fr f9 (by omega), k2.2.2.2.1.fr f9 (by omega), k2.2.2.2.2.fr f9 (by omega)⟩, ⟨sg2, sd2, m2.fr f9 (by omega)⟩, m3.fr f9 (by omega), ⟨es, ls, m4.fr f9 (by omega)⟩, m5.fr f9 (by omega), m6.fr f9 (by omega), m7.fr f9 (by omega)⟩ (f9.wd (by omega) (by omega))
          | exact fin1 (by unfold s_pitch; (repeat (first | rw [if_pos (by omega)] | rw [if_neg (by omega)])); try rfl) hp Fr.rf
  · skip
    refine v_aload_n k_Main_pitch_0 rfl ?_
    refine v_getf fl_Main_12 m0 rfl k_Main_pitch_1 ?_
    refine v_getf fl_Main_91 k0 rfl k_Main_pitch_4 ?_
    refine v_iload_n k_Main_pitch_7 rfl ?_
    refine v_callVr mo_Tune_has mi_Tune_has mv_Tune_has lk_Main_95 k_Main_pitch_8 k3 rfl rfl (Nat.le_of_ble_eq_true rfl) rfl (Nat.le_of_ble_eq_true rfl) ((by have q := c_Tune_has G k1 (i := n) (by omega); rw [if_neg hc] at q; exact q)) ?_
    refine v_ifeq 24 k_Main_pitch_11 rfl (by omega) (fun c11 => ?_) (fun c11 => ?_)
    · refine v_iconst k_Main_pitch_24 ?_
      refine v_istore_n k_Main_pitch_25 ⟨Nat.le_of_ble_eq_true rfl, Nat.le_of_ble_eq_true rfl⟩ ?_
      refine v_iload_n k_Main_pitch_26 rfl ?_
      refine v_ifeq 36 k_Main_pitch_27 rfl (by omega) (fun c27 => ?_) (fun c27 => ?_)
      · refine v_aload_n k_Main_pitch_36 rfl ?_
        refine v_getf fl_Main_12 m0 rfl k_Main_pitch_37 ?_
        refine v_getf fl_Main_91 k0 rfl k_Main_pitch_40 ?_
        refine v_iload_n k_Main_pitch_43 rfl ?_
        refine v_callVr mo_Tune_pitchOf mi_Tune_pitchOf mv_Tune_pitchOf lk_Main_101 k_Main_pitch_44 k3 rfl rfl (Nat.le_of_ble_eq_true rfl) rfl (Nat.le_of_ble_eq_true rfl) (c_Tune_pitchOf G k1 hn) ?_
        refine v_istore k_Main_pitch_47 ⟨Nat.le_of_ble_eq_true rfl, Nat.le_of_ble_eq_true rfl⟩ ?_
        refine v_aload_n k_Main_pitch_49 rfl ?_
        refine v_getf fl_Main_12 m0 rfl k_Main_pitch_50 ?_
        refine v_getf fl_Main_91 k0 rfl k_Main_pitch_53 ?_
        refine v_iload_n k_Main_pitch_56 rfl ?_
        refine v_iload_n k_Main_pitch_57 rfl ?_
        refine v_callV mo_Tune_setPitch mi_Tune_setPitch mv_Tune_setPitch lk_Main_128 k_Main_pitch_58 k3 rfl rfl (Nat.le_of_ble_eq_true rfl) rfl (Nat.le_of_ble_eq_true rfl) (c_Tune_setPitch G k1 hn (x := x)) (fun v58 h58 q58 => ?_)
        obtain ⟨rfl, q8, f9⟩ := q58
        refine v_iload k_Main_pitch_61 rfl ?_
        refine v_ireturn k_Main_pitch_63 rfl rfl ?_
        first
          | (exfalso; omega)
          | exact fin1 (by unfold s_pitch; (repeat (first | rw [if_pos (by omega)] | rw [if_neg (by omega)])); try rfl) p9 (f9.wd (by omega) (by omega))
          | exact fin1 (S' := wK_ S (setP (nK S) n x)) (by unfold s_pitch; (repeat (first | rw [if_pos (by omega)] | rw [if_neg (by omega)])); try rfl) ⟨f9.at hp.1 (by omega), ⟨sg, sd, f9.at k0 (by omega), q8, k2.1.fr f9 (by omega), k2.2.1.fr f9 (by omega), k2.2.2.1.fr f9 (by omega), k2.2.2.2.1.fr f9 (by omega), k2.2.2.2.2.fr f9 (by omega)⟩, ⟨sg2, sd2, m2.fr f9 (by omega)⟩, m3.fr f9 (by omega), ⟨es, ls, m4.fr f9 (by omega)⟩, m5.fr f9 (by omega), m6.fr f9 (by omega), m7.fr f9 (by omega)⟩ (f9.wd (by omega) (by omega))
          | exact fin1 (by unfold s_pitch; (repeat (first | rw [if_pos (by omega)] | rw [if_neg (by omega)])); try rfl) hp Fr.rf
      · refine v_aload_n k_Main_pitch_30 rfl ?_
        refine v_iload_n k_Main_pitch_31 rfl ?_
        refine v_callV mo_Main_refuse mi_Main_refuse mv_Main_refuse lk_Main_67 k_Main_pitch_32 m0 rfl rfl (Nat.le_of_ble_eq_true rfl) rfl (Nat.le_of_ble_eq_true rfl) (c_Main_refuse G hp w (by omega)) (fun v32 h32 q32 => ?_)
        obtain ⟨rfl, p9, f9⟩ := q32
        refine v_ireturn k_Main_pitch_35 rfl rfl ?_
        first
          | (exfalso; omega)
          | exact fin1 (by unfold s_pitch; (repeat (first | rw [if_pos (by omega)] | rw [if_neg (by omega)])); try rfl) p9 (f9.wd (by omega) (by omega))
          | exact fin1 (S' := wK_ S (setP (nK S) n x)) (by unfold s_pitch; (repeat (first | rw [if_pos (by omega)] | rw [if_neg (by omega)])); try rfl) ⟨f9.at hp.1 (by omega), ⟨sg, sd, f9.at k0 (by omega), q8, k2.1.fr f9 (by omega), k2.2.1.fr f9 (by omega), k2.2.2.1.fr f9 (by omega), k2.2.2.2.1.fr f9 (by omega), k2.2.2.2.2.fr f9 (by omega)⟩, ⟨sg2, sd2, m2.fr f9 (by omega)⟩, m3.fr f9 (by omega), ⟨es, ls, m4.fr f9 (by omega)⟩, m5.fr f9 (by omega), m6.fr f9 (by omega), m7.fr f9 (by omega)⟩ (f9.wd (by omega) (by omega))
          | exact fin1 (by unfold s_pitch; (repeat (first | rw [if_pos (by omega)] | rw [if_neg (by omega)])); try rfl) hp Fr.rf
    · refine v_iload_n k_Main_pitch_14 rfl ?_
      refine v_iconst k_Main_pitch_15 ?_
      refine v_bipush k_Main_pitch_16 (by decide) ?_
      refine v_callSr mo_Main_outside ms_Main_outside lk_Main_59 k_Main_pitch_18 rfl (Nat.le_of_ble_eq_true rfl) rfl (Nat.le_of_ble_eq_true rfl) (c_Main_outside G (v := x) (l := 0) (m := 9) (by omega) (by omega) (by omega)) ?_
      refine v_goto k_Main_pitch_21 (tgt := 25) rfl ?_
      refine v_istore_n k_Main_pitch_25 ⟨Nat.le_of_ble_eq_true rfl, Nat.le_of_ble_eq_true rfl⟩ ?_
      refine v_iload_n k_Main_pitch_26 rfl ?_
      refine v_ifeq 36 k_Main_pitch_27 rfl (by omega) (fun c27 => ?_) (fun c27 => ?_)
      · refine v_aload_n k_Main_pitch_36 rfl ?_
        refine v_getf fl_Main_12 m0 rfl k_Main_pitch_37 ?_
        refine v_getf fl_Main_91 k0 rfl k_Main_pitch_40 ?_
        refine v_iload_n k_Main_pitch_43 rfl ?_
        refine v_callVr mo_Tune_pitchOf mi_Tune_pitchOf mv_Tune_pitchOf lk_Main_101 k_Main_pitch_44 k3 rfl rfl (Nat.le_of_ble_eq_true rfl) rfl (Nat.le_of_ble_eq_true rfl) (c_Tune_pitchOf G k1 hn) ?_
        refine v_istore k_Main_pitch_47 ⟨Nat.le_of_ble_eq_true rfl, Nat.le_of_ble_eq_true rfl⟩ ?_
        refine v_aload_n k_Main_pitch_49 rfl ?_
        refine v_getf fl_Main_12 m0 rfl k_Main_pitch_50 ?_
        refine v_getf fl_Main_91 k0 rfl k_Main_pitch_53 ?_
        refine v_iload_n k_Main_pitch_56 rfl ?_
        refine v_iload_n k_Main_pitch_57 rfl ?_
        refine v_callV mo_Tune_setPitch mi_Tune_setPitch mv_Tune_setPitch lk_Main_128 k_Main_pitch_58 k3 rfl rfl (Nat.le_of_ble_eq_true rfl) rfl (Nat.le_of_ble_eq_true rfl) (c_Tune_setPitch G k1 hn (x := x)) (fun v58 h58 q58 => ?_)
        obtain ⟨rfl, q8, f9⟩ := q58
        refine v_iload k_Main_pitch_61 rfl ?_
        refine v_ireturn k_Main_pitch_63 rfl rfl ?_
        first
          | (exfalso; omega)
          | exact fin1 (by unfold s_pitch; (repeat (first | rw [if_pos (by omega)] | rw [if_neg (by omega)])); try rfl) p9 (f9.wd (by omega) (by omega))
          | exact fin1 (S' := wK_ S (setP (nK S) n x)) (by unfold s_pitch; (repeat (first | rw [if_pos (by omega)] | rw [if_neg (by omega)])); try rfl) ⟨f9.at hp.1 (by omega), ⟨sg, sd, f9.at k0 (by omega), q8, k2.1.fr f9 (by omega), k2.2.1.fr f9 (by omega), k2.2.2.1.fr f9 (by omega), k2.2.2.2.1.fr f9 (by omega), k2.2.2.2.2.fr f9 (by omega)⟩, ⟨sg2, sd2, m2.fr f9 (by omega)⟩, m3.fr f9 (by omega), ⟨es, ls, m4.fr f9 (by omega)⟩, m5.fr f9 (by omega), m6.fr f9 (by omega), m7.fr f9 (by omega)⟩ (f9.wd (by omega) (by omega))
          | exact fin1 (by unfold s_pitch; (repeat (first | rw [if_pos (by omega)] | rw [if_neg (by omega)])); try rfl) hp Fr.rf
      · refine v_aload_n k_Main_pitch_30 rfl ?_
        refine v_iload_n k_Main_pitch_31 rfl ?_
        refine v_callV mo_Main_refuse mi_Main_refuse mv_Main_refuse lk_Main_67 k_Main_pitch_32 m0 rfl rfl (Nat.le_of_ble_eq_true rfl) rfl (Nat.le_of_ble_eq_true rfl) (c_Main_refuse G hp w (by omega)) (fun v32 h32 q32 => ?_)
        obtain ⟨rfl, p9, f9⟩ := q32
        refine v_ireturn k_Main_pitch_35 rfl rfl ?_
        first
          | (exfalso; omega)
          | exact fin1 (by unfold s_pitch; (repeat (first | rw [if_pos (by omega)] | rw [if_neg (by omega)])); try rfl) p9 (f9.wd (by omega) (by omega))
          | exact fin1 (S' := wK_ S (setP (nK S) n x)) (by unfold s_pitch; (repeat (first | rw [if_pos (by omega)] | rw [if_neg (by omega)])); try rfl) ⟨f9.at hp.1 (by omega), ⟨sg, sd, f9.at k0 (by omega), q8, k2.1.fr f9 (by omega), k2.2.1.fr f9 (by omega), k2.2.2.1.fr f9 (by omega), k2.2.2.2.1.fr f9 (by omega), k2.2.2.2.2.fr f9 (by omega)⟩, ⟨sg2, sd2, m2.fr f9 (by omega)⟩, m3.fr f9 (by omega), ⟨es, ls, m4.fr f9 (by omega)⟩, m5.fr f9 (by omega), m6.fr f9 (by omega), m7.fr f9 (by omega)⟩ (f9.wd (by omega) (by omega))
          | exact fin1 (by unfold s_pitch; (repeat (first | rw [if_pos (by omega)] | rw [if_neg (by omega)])); try rfl) hp Fr.rf

set_option maxHeartbeats 4000000 in
set_option maxRecDepth 20000 in
theorem c_Main_enter (G : Gx) {h : AH} {o : Nat} {S : St} (hp : pMain h o S) (w : wSt S) {n x : Int} (hn : InR n) (hx : InR x) : Ct G Y_Main_enter 3 0 0 [aR o, aI n, aI x] h (fun v h' => v = some (aI (s_enter S n x).1) ∧ pMain h' o (s_enter S n x).2 ∧ Fr o (o + 73) h h') := by
  obtain ⟨m0, ⟨sg, sd, m1⟩, ⟨sg2, sd2, m2⟩, m3, ⟨es, ls, m4⟩, m5, m6, m7⟩ := id hp
  obtain ⟨k0, k1, k2⟩ := id m1
  have k3 := k1.1
  have j0 := m2.1
  obtain ⟨w1, w2, w3, w4, w5, w6, w7, w8⟩ := id w
  have wu := w1.up (by decide) (by decide)
  obtain ⟨fm, m8⟩ : ∃ fs, h.2 (o + 37) = some (aO 2 fs) := by obtain ⟨_, _, _, _, _, _, q⟩ := m3; exact ⟨_, q.1⟩
  have ho := oS_spec x 0 60
  refine Ct.of_V mo_Main_enter rfl (Nat.le_of_ble_eq_true rfl) rfl ?_
  by_cases hc : 0 ≤ n ∧ n < (kK (nK S)).length
  · skip
    refine v_aload_n k_Main_enter_0 rfl ?_
    refine v_getf fl_Main_12 m0 rfl k_Main_enter_1 ?_
    refine v_iload_n k_Main_enter_4 rfl ?_
    refine v_callVr mo_Canon_hasVoice mi_Canon_hasVoice mv_Canon_hasVoice lk_Main_110 k_Main_enter_5 k0 rfl rfl (Nat.le_of_ble_eq_true rfl) rfl (Nat.le_of_ble_eq_true rfl) ((by have q := c_Canon_hasVoice G m1 (v := n) (by omega); rw [if_pos hc] at q; exact q)) ?_
    refine v_ifeq 21 k_Main_enter_8 rfl (by omega) (fun c8 => ?_) (fun c8 => ?_)
    · refine v_iconst k_Main_enter_21 ?_
      refine v_istore_n k_Main_enter_22 ⟨Nat.le_of_ble_eq_true rfl, Nat.le_of_ble_eq_true rfl⟩ ?_
      refine v_iload_n k_Main_enter_23 rfl ?_
      refine v_ifeq 33 k_Main_enter_24 rfl (by omega) (fun c24 => ?_) (fun c24 => ?_)
      · refine v_aload_n k_Main_enter_33 rfl ?_
        refine v_getf fl_Main_12 m0 rfl k_Main_enter_34 ?_
        refine v_iload_n k_Main_enter_37 rfl ?_
        refine v_callVr mo_Canon_entryOf mi_Canon_entryOf mv_Canon_entryOf lk_Main_116 k_Main_enter_38 k0 rfl rfl (Nat.le_of_ble_eq_true rfl) rfl (Nat.le_of_ble_eq_true rfl) (c_Canon_entryOf G m1 hn) ?_
        refine v_istore k_Main_enter_41 ⟨Nat.le_of_ble_eq_true rfl, Nat.le_of_ble_eq_true rfl⟩ ?_
        refine v_aload_n k_Main_enter_43 rfl ?_
        refine v_getf fl_Main_12 m0 rfl k_Main_enter_44 ?_
        refine v_iload_n k_Main_enter_47 rfl ?_
        refine v_iload_n k_Main_enter_48 rfl ?_
        refine v_callV mo_Canon_setEntry mi_Canon_setEntry mv_Canon_setEntry lk_Main_132 k_Main_enter_49 k0 rfl rfl (Nat.le_of_ble_eq_true rfl) rfl (Nat.le_of_ble_eq_true rfl) (c_Canon_setEntry G m1 hn (x := x)) (fun v49 h49 q49 => ?_)
        obtain ⟨rfl, q8, f9⟩ := q49
        refine v_iload k_Main_enter_52 rfl ?_
        refine v_ireturn k_Main_enter_54 rfl rfl ?_
        first
          | (exfalso; omega)
          | exact fin1 (by unfold s_enter; (repeat (first | rw [if_pos (by omega)] | rw [if_neg (by omega)])); try rfl) p9 (f9.wd (by omega) (by omega))
          | exact fin1 (S' := wK_ S (setE (nK S) n x)) (by unfold s_enter; (repeat (first | rw [if_pos (by omega)] | rw [if_neg (by omega)])); try rfl) ⟨f9.at hp.1 (by omega), ⟨sg, sd, q8⟩, ⟨sg2, sd2, m2.fr f9 (by omega)⟩, m3.fr f9 (by omega), ⟨es, ls, m4.fr f9 (by omega)⟩, m5.fr f9 (by omega), m6.fr f9 (by omega), m7.fr f9 (by omega)⟩ (f9.wd (by omega) (by omega))
          | exact fin1 (by unfold s_enter; (repeat (first | rw [if_pos (by omega)] | rw [if_neg (by omega)])); try rfl) hp Fr.rf
      · refine v_aload_n k_Main_enter_27 rfl ?_
        refine v_iload_n k_Main_enter_28 rfl ?_
        refine v_callV mo_Main_refuse mi_Main_refuse mv_Main_refuse lk_Main_67 k_Main_enter_29 m0 rfl rfl (Nat.le_of_ble_eq_true rfl) rfl (Nat.le_of_ble_eq_true rfl) (c_Main_refuse G hp w (by omega)) (fun v29 h29 q29 => ?_)
        obtain ⟨rfl, p9, f9⟩ := q29
        refine v_ireturn k_Main_enter_32 rfl rfl ?_
        first
          | (exfalso; omega)
          | exact fin1 (by unfold s_enter; (repeat (first | rw [if_pos (by omega)] | rw [if_neg (by omega)])); try rfl) p9 (f9.wd (by omega) (by omega))
          | exact fin1 (S' := wK_ S (setE (nK S) n x)) (by unfold s_enter; (repeat (first | rw [if_pos (by omega)] | rw [if_neg (by omega)])); try rfl) ⟨f9.at hp.1 (by omega), ⟨sg, sd, q8⟩, ⟨sg2, sd2, m2.fr f9 (by omega)⟩, m3.fr f9 (by omega), ⟨es, ls, m4.fr f9 (by omega)⟩, m5.fr f9 (by omega), m6.fr f9 (by omega), m7.fr f9 (by omega)⟩ (f9.wd (by omega) (by omega))
          | exact fin1 (by unfold s_enter; (repeat (first | rw [if_pos (by omega)] | rw [if_neg (by omega)])); try rfl) hp Fr.rf
    · refine v_iload_n k_Main_enter_11 rfl ?_
      refine v_iconst k_Main_enter_12 ?_
      refine v_bipush k_Main_enter_13 (by decide) ?_
      refine v_callSr mo_Main_outside ms_Main_outside lk_Main_59 k_Main_enter_15 rfl (Nat.le_of_ble_eq_true rfl) rfl (Nat.le_of_ble_eq_true rfl) (c_Main_outside G (v := x) (l := 0) (m := 60) (by omega) (by omega) (by omega)) ?_
      refine v_goto k_Main_enter_18 (tgt := 22) rfl ?_
      refine v_istore_n k_Main_enter_22 ⟨Nat.le_of_ble_eq_true rfl, Nat.le_of_ble_eq_true rfl⟩ ?_
      refine v_iload_n k_Main_enter_23 rfl ?_
      refine v_ifeq 33 k_Main_enter_24 rfl (by omega) (fun c24 => ?_) (fun c24 => ?_)
      · refine v_aload_n k_Main_enter_33 rfl ?_
        refine v_getf fl_Main_12 m0 rfl k_Main_enter_34 ?_
        refine v_iload_n k_Main_enter_37 rfl ?_
        refine v_callVr mo_Canon_entryOf mi_Canon_entryOf mv_Canon_entryOf lk_Main_116 k_Main_enter_38 k0 rfl rfl (Nat.le_of_ble_eq_true rfl) rfl (Nat.le_of_ble_eq_true rfl) (c_Canon_entryOf G m1 hn) ?_
        refine v_istore k_Main_enter_41 ⟨Nat.le_of_ble_eq_true rfl, Nat.le_of_ble_eq_true rfl⟩ ?_
        refine v_aload_n k_Main_enter_43 rfl ?_
        refine v_getf fl_Main_12 m0 rfl k_Main_enter_44 ?_
        refine v_iload_n k_Main_enter_47 rfl ?_
        refine v_iload_n k_Main_enter_48 rfl ?_
        refine v_callV mo_Canon_setEntry mi_Canon_setEntry mv_Canon_setEntry lk_Main_132 k_Main_enter_49 k0 rfl rfl (Nat.le_of_ble_eq_true rfl) rfl (Nat.le_of_ble_eq_true rfl) (c_Canon_setEntry G m1 hn (x := x)) (fun v49 h49 q49 => ?_)
        obtain ⟨rfl, q8, f9⟩ := q49
        refine v_iload k_Main_enter_52 rfl ?_
        refine v_ireturn k_Main_enter_54 rfl rfl ?_
        first
          | (exfalso; omega)
          | exact fin1 (by unfold s_enter; (repeat (first | rw [if_pos (by omega)] | rw [if_neg (by omega)])); try rfl) p9 (f9.wd (by omega) (by omega))
          | exact fin1 (S' := wK_ S (setE (nK S) n x)) (by unfold s_enter; (repeat (first | rw [if_pos (by omega)] | rw [if_neg (by omega)])); try rfl) ⟨f9.at hp.1 (by omega), ⟨sg, sd, q8⟩, ⟨sg2, sd2, m2.fr f9 (by omega)⟩, m3.fr f9 (by omega), ⟨es, ls, m4.fr f9 (by omega)⟩, m5.fr f9 (by omega), m6.fr f9 (by omega), m7.fr f9 (by omega)⟩ (f9.wd (by omega) (by omega))
          | exact fin1 (by unfold s_enter; (repeat (first | rw [if_pos (by omega)] | rw [if_neg (by omega)])); try rfl) hp Fr.rf
      · refine v_aload_n k_Main_enter_27 rfl ?_
        refine v_iload_n k_Main_enter_28 rfl ?_
        refine v_callV mo_Main_refuse mi_Main_refuse mv_Main_refuse lk_Main_67 k_Main_enter_29 m0 rfl rfl (Nat.le_of_ble_eq_true rfl) rfl (Nat.le_of_ble_eq_true rfl) (c_Main_refuse G hp w (by omega)) (fun v29 h29 q29 => ?_)
        obtain ⟨rfl, p9, f9⟩ := q29
        refine v_ireturn k_Main_enter_32 rfl rfl ?_
        first
          | (exfalso; omega)
          | exact fin1 (by unfold s_enter; (repeat (first | rw [if_pos (by omega)] | rw [if_neg (by omega)])); try rfl) p9 (f9.wd (by omega) (by omega))
          | exact fin1 (S' := wK_ S (setE (nK S) n x)) (by unfold s_enter; (repeat (first | rw [if_pos (by omega)] | rw [if_neg (by omega)])); try rfl) ⟨f9.at hp.1 (by omega), ⟨sg, sd, q8⟩, ⟨sg2, sd2, m2.fr f9 (by omega)⟩, m3.fr f9 (by omega), ⟨es, ls, m4.fr f9 (by omega)⟩, m5.fr f9 (by omega), m6.fr f9 (by omega), m7.fr f9 (by omega)⟩ (f9.wd (by omega) (by omega))
          | exact fin1 (by unfold s_enter; (repeat (first | rw [if_pos (by omega)] | rw [if_neg (by omega)])); try rfl) hp Fr.rf
  · skip
    refine v_aload_n k_Main_enter_0 rfl ?_
    refine v_getf fl_Main_12 m0 rfl k_Main_enter_1 ?_
    refine v_iload_n k_Main_enter_4 rfl ?_
    refine v_callVr mo_Canon_hasVoice mi_Canon_hasVoice mv_Canon_hasVoice lk_Main_110 k_Main_enter_5 k0 rfl rfl (Nat.le_of_ble_eq_true rfl) rfl (Nat.le_of_ble_eq_true rfl) ((by have q := c_Canon_hasVoice G m1 (v := n) (by omega); rw [if_neg hc] at q; exact q)) ?_
    refine v_ifeq 21 k_Main_enter_8 rfl (by omega) (fun c8 => ?_) (fun c8 => ?_)
    · refine v_iconst k_Main_enter_21 ?_
      refine v_istore_n k_Main_enter_22 ⟨Nat.le_of_ble_eq_true rfl, Nat.le_of_ble_eq_true rfl⟩ ?_
      refine v_iload_n k_Main_enter_23 rfl ?_
      refine v_ifeq 33 k_Main_enter_24 rfl (by omega) (fun c24 => ?_) (fun c24 => ?_)
      · refine v_aload_n k_Main_enter_33 rfl ?_
        refine v_getf fl_Main_12 m0 rfl k_Main_enter_34 ?_
        refine v_iload_n k_Main_enter_37 rfl ?_
        refine v_callVr mo_Canon_entryOf mi_Canon_entryOf mv_Canon_entryOf lk_Main_116 k_Main_enter_38 k0 rfl rfl (Nat.le_of_ble_eq_true rfl) rfl (Nat.le_of_ble_eq_true rfl) (c_Canon_entryOf G m1 hn) ?_
        refine v_istore k_Main_enter_41 ⟨Nat.le_of_ble_eq_true rfl, Nat.le_of_ble_eq_true rfl⟩ ?_
        refine v_aload_n k_Main_enter_43 rfl ?_
        refine v_getf fl_Main_12 m0 rfl k_Main_enter_44 ?_
        refine v_iload_n k_Main_enter_47 rfl ?_
        refine v_iload_n k_Main_enter_48 rfl ?_
        refine v_callV mo_Canon_setEntry mi_Canon_setEntry mv_Canon_setEntry lk_Main_132 k_Main_enter_49 k0 rfl rfl (Nat.le_of_ble_eq_true rfl) rfl (Nat.le_of_ble_eq_true rfl) (c_Canon_setEntry G m1 hn (x := x)) (fun v49 h49 q49 => ?_)
        obtain ⟨rfl, q8, f9⟩ := q49
        refine v_iload k_Main_enter_52 rfl ?_
        refine v_ireturn k_Main_enter_54 rfl rfl ?_
        first
          | (exfalso; omega)
          | exact fin1 (by unfold s_enter; (repeat (first | rw [if_pos (by omega)] | rw [if_neg (by omega)])); try rfl) p9 (f9.wd (by omega) (by omega))
          | exact fin1 (S' := wK_ S (setE (nK S) n x)) (by unfold s_enter; (repeat (first | rw [if_pos (by omega)] | rw [if_neg (by omega)])); try rfl) ⟨f9.at hp.1 (by omega), ⟨sg, sd, q8⟩, ⟨sg2, sd2, m2.fr f9 (by omega)⟩, m3.fr f9 (by omega), ⟨es, ls, m4.fr f9 (by omega)⟩, m5.fr f9 (by omega), m6.fr f9 (by omega), m7.fr f9 (by omega)⟩ (f9.wd (by omega) (by omega))
          | exact fin1 (by unfold s_enter; (repeat (first | rw [if_pos (by omega)] | rw [if_neg (by omega)])); try rfl) hp Fr.rf
      · refine v_aload_n k_Main_enter_27 rfl ?_
        refine v_iload_n k_Main_enter_28 rfl ?_
        refine v_callV mo_Main_refuse mi_Main_refuse mv_Main_refuse lk_Main_67 k_Main_enter_29 m0 rfl rfl (Nat.le_of_ble_eq_true rfl) rfl (Nat.le_of_ble_eq_true rfl) (c_Main_refuse G hp w (by omega)) (fun v29 h29 q29 => ?_)
        obtain ⟨rfl, p9, f9⟩ := q29
        refine v_ireturn k_Main_enter_32 rfl rfl ?_
        first
          | (exfalso; omega)
          | exact fin1 (by unfold s_enter; (repeat (first | rw [if_pos (by omega)] | rw [if_neg (by omega)])); try rfl) p9 (f9.wd (by omega) (by omega))
          | exact fin1 (S' := wK_ S (setE (nK S) n x)) (by unfold s_enter; (repeat (first | rw [if_pos (by omega)] | rw [if_neg (by omega)])); try rfl) ⟨f9.at hp.1 (by omega), ⟨sg, sd, q8⟩, ⟨sg2, sd2, m2.fr f9 (by omega)⟩, m3.fr f9 (by omega), ⟨es, ls, m4.fr f9 (by omega)⟩, m5.fr f9 (by omega), m6.fr f9 (by omega), m7.fr f9 (by omega)⟩ (f9.wd (by omega) (by omega))
          | exact fin1 (by unfold s_enter; (repeat (first | rw [if_pos (by omega)] | rw [if_neg (by omega)])); try rfl) hp Fr.rf
    · refine v_iload_n k_Main_enter_11 rfl ?_
      refine v_iconst k_Main_enter_12 ?_
      refine v_bipush k_Main_enter_13 (by decide) ?_
      refine v_callSr mo_Main_outside ms_Main_outside lk_Main_59 k_Main_enter_15 rfl (Nat.le_of_ble_eq_true rfl) rfl (Nat.le_of_ble_eq_true rfl) (c_Main_outside G (v := x) (l := 0) (m := 60) (by omega) (by omega) (by omega)) ?_
      refine v_goto k_Main_enter_18 (tgt := 22) rfl ?_
      refine v_istore_n k_Main_enter_22 ⟨Nat.le_of_ble_eq_true rfl, Nat.le_of_ble_eq_true rfl⟩ ?_
      refine v_iload_n k_Main_enter_23 rfl ?_
      refine v_ifeq 33 k_Main_enter_24 rfl (by omega) (fun c24 => ?_) (fun c24 => ?_)
      · refine v_aload_n k_Main_enter_33 rfl ?_
        refine v_getf fl_Main_12 m0 rfl k_Main_enter_34 ?_
        refine v_iload_n k_Main_enter_37 rfl ?_
        refine v_callVr mo_Canon_entryOf mi_Canon_entryOf mv_Canon_entryOf lk_Main_116 k_Main_enter_38 k0 rfl rfl (Nat.le_of_ble_eq_true rfl) rfl (Nat.le_of_ble_eq_true rfl) (c_Canon_entryOf G m1 hn) ?_
        refine v_istore k_Main_enter_41 ⟨Nat.le_of_ble_eq_true rfl, Nat.le_of_ble_eq_true rfl⟩ ?_
        refine v_aload_n k_Main_enter_43 rfl ?_
        refine v_getf fl_Main_12 m0 rfl k_Main_enter_44 ?_
        refine v_iload_n k_Main_enter_47 rfl ?_
        refine v_iload_n k_Main_enter_48 rfl ?_
        refine v_callV mo_Canon_setEntry mi_Canon_setEntry mv_Canon_setEntry lk_Main_132 k_Main_enter_49 k0 rfl rfl (Nat.le_of_ble_eq_true rfl) rfl (Nat.le_of_ble_eq_true rfl) (c_Canon_setEntry G m1 hn (x := x)) (fun v49 h49 q49 => ?_)
        obtain ⟨rfl, q8, f9⟩ := q49
        refine v_iload k_Main_enter_52 rfl ?_
        refine v_ireturn k_Main_enter_54 rfl rfl ?_
        first
          | (exfalso; omega)
          | exact fin1 (by unfold s_enter; (repeat (first | rw [if_pos (by omega)] | rw [if_neg (by omega)])); try rfl) p9 (f9.wd (by omega) (by omega))
          | exact fin1 (S' := wK_ S (setE (nK S) n x)) (by unfold s_enter; (repeat (first | rw [if_pos (by omega)] | rw [if_neg (by omega)])); try rfl) ⟨f9.at hp.1 (by omega), ⟨sg, sd, q8⟩, ⟨sg2, sd2, m2.fr f9 (by omega)⟩, m3.fr f9 (by omega), ⟨es, ls, m4.fr f9 (by omega)⟩, m5.fr f9 (by omega), m6.fr f9 (by omega), m7.fr f9 (by omega)⟩ (f9.wd (by omega) (by omega))
          | exact fin1 (by unfold s_enter; (repeat (first | rw [if_pos (by omega)] | rw [if_neg (by omega)])); try rfl) hp Fr.rf
      · refine v_aload_n k_Main_enter_27 rfl ?_
        refine v_iload_n k_Main_enter_28 rfl ?_
        refine v_callV mo_Main_refuse mi_Main_refuse mv_Main_refuse lk_Main_67 k_Main_enter_29 m0 rfl rfl (Nat.le_of_ble_eq_true rfl) rfl (Nat.le_of_ble_eq_true rfl) (c_Main_refuse G hp w (by omega)) (fun v29 h29 q29 => ?_)
        obtain ⟨rfl, p9, f9⟩ := q29
        refine v_ireturn k_Main_enter_32 rfl rfl ?_
        first
          | (exfalso; omega)
          | exact fin1 (by unfold s_enter; (repeat (first | rw [if_pos (by omega)] | rw [if_neg (by omega)])); try rfl) p9 (f9.wd (by omega) (by omega))
          | exact fin1 (S' := wK_ S (setE (nK S) n x)) (by unfold s_enter; (repeat (first | rw [if_pos (by omega)] | rw [if_neg (by omega)])); try rfl) ⟨f9.at hp.1 (by omega), ⟨sg, sd, q8⟩, ⟨sg2, sd2, m2.fr f9 (by omega)⟩, m3.fr f9 (by omega), ⟨es, ls, m4.fr f9 (by omega)⟩, m5.fr f9 (by omega), m6.fr f9 (by omega), m7.fr f9 (by omega)⟩ (f9.wd (by omega) (by omega))
          | exact fin1 (by unfold s_enter; (repeat (first | rw [if_pos (by omega)] | rw [if_neg (by omega)])); try rfl) hp Fr.rf

set_option maxHeartbeats 4000000 in
set_option maxRecDepth 20000 in
theorem c_Main_rounds (G : Gx) {h : AH} {o : Nat} {S : St} (hp : pMain h o S) (w : wSt S) {x : Int} (hx : InR x) : Ct G Y_Main_rounds 2 0 0 [aR o, aI x] h (fun v h' => v = some (aI (s_rounds S x).1) ∧ pMain h' o (s_rounds S x).2 ∧ Fr o (o + 73) h h') := by
  obtain ⟨m0, ⟨sg, sd, m1⟩, ⟨sg2, sd2, m2⟩, m3, ⟨es, ls, m4⟩, m5, m6, m7⟩ := id hp
  obtain ⟨k0, k1, k2⟩ := id m1
  have k3 := k1.1
  have j0 := m2.1
  obtain ⟨w1, w2, w3, w4, w5, w6, w7, w8⟩ := id w
  have wu := w1.up (by decide) (by decide)
  obtain ⟨fm, m8⟩ : ∃ fs, h.2 (o + 37) = some (aO 2 fs) := by obtain ⟨_, _, _, _, _, _, q⟩ := m3; exact ⟨_, q.1⟩
  have ho := oS_spec x 1 4
  refine Ct.of_V mo_Main_rounds rfl (Nat.le_of_ble_eq_true rfl) rfl ?_
  refine v_iload_n k_Main_rounds_0 rfl ?_
  refine v_iconst k_Main_rounds_1 ?_
  refine v_iconst k_Main_rounds_2 ?_
  refine v_callSr mo_Main_outside ms_Main_outside lk_Main_59 k_Main_rounds_3 rfl (Nat.le_of_ble_eq_true rfl) rfl (Nat.le_of_ble_eq_true rfl) (c_Main_outside G (v := x) (l := 1) (m := 4) (by omega) (by omega) (by omega)) ?_
  refine v_istore_n k_Main_rounds_6 ⟨Nat.le_of_ble_eq_true rfl, Nat.le_of_ble_eq_true rfl⟩ ?_
  refine v_iload_n k_Main_rounds_7 rfl ?_
  refine v_ifeq 17 k_Main_rounds_8 rfl (by omega) (fun c8 => ?_) (fun c8 => ?_)
  · refine v_aload_n k_Main_rounds_17 rfl ?_
    refine v_getf fl_Main_12 m0 rfl k_Main_rounds_18 ?_
    refine v_getf fl_Main_135 k0 rfl k_Main_rounds_21 ?_
    refine v_istore_n k_Main_rounds_24 ⟨Nat.le_of_ble_eq_true rfl, Nat.le_of_ble_eq_true rfl⟩ ?_
    refine v_aload_n k_Main_rounds_25 rfl ?_
    refine v_getf fl_Main_12 m0 rfl k_Main_rounds_26 ?_
    refine v_iload_n k_Main_rounds_29 rfl ?_
    refine v_put fl_Main_135 k0 (Nat.le_of_ble_eq_true rfl) (fun r hr => by cases hr; exact Or.inl rfl) rfl rfl k_Main_rounds_30 (fun h30 e30 f30 => ?_)
    have f9 := f30
    have e9 := e30
    refine v_iload_n k_Main_rounds_33 rfl ?_
    refine v_ireturn k_Main_rounds_34 rfl rfl ?_
    first
      | (exfalso; omega)
      | exact fin1 (by unfold s_rounds; (repeat (first | rw [if_pos (by omega)] | rw [if_neg (by omega)])); try rfl) p9 (f9.wd (by omega) (by omega))
      | exact fin1 (S' := wK_ S (setR (nK S) x)) (by unfold s_rounds; (repeat (first | rw [if_pos (by omega)] | rw [if_neg (by omega)])); try rfl) ⟨f9.at hp.1 (by omega), ⟨sg, sd, e9, k1.fr f9 (by omega), k2.1.fr f9 (by omega), k2.2.1.fr f9 (by omega), k2.2.2.1.fr f9 (by omega), k2.2.2.2.1.fr f9 (by omega), k2.2.2.2.2.fr f9 (by omega)⟩, ⟨sg2, sd2, m2.fr f9 (by omega)⟩, m3.fr f9 (by omega), ⟨es, ls, m4.fr f9 (by omega)⟩, m5.fr f9 (by omega), m6.fr f9 (by omega), m7.fr f9 (by omega)⟩ (f9.wd (by omega) (by omega))
      | exact fin1 (by unfold s_rounds; (repeat (first | rw [if_pos (by omega)] | rw [if_neg (by omega)])); try rfl) hp Fr.rf
  · refine v_aload_n k_Main_rounds_11 rfl ?_
    refine v_iload_n k_Main_rounds_12 rfl ?_
    refine v_callV mo_Main_refuse mi_Main_refuse mv_Main_refuse lk_Main_67 k_Main_rounds_13 m0 rfl rfl (Nat.le_of_ble_eq_true rfl) rfl (Nat.le_of_ble_eq_true rfl) (c_Main_refuse G hp w (by omega)) (fun v13 h13 q13 => ?_)
    obtain ⟨rfl, p9, f9⟩ := q13
    refine v_ireturn k_Main_rounds_16 rfl rfl ?_
    first
      | (exfalso; omega)
      | exact fin1 (by unfold s_rounds; (repeat (first | rw [if_pos (by omega)] | rw [if_neg (by omega)])); try rfl) p9 (f9.wd (by omega) (by omega))
      | exact fin1 (S' := wK_ S (setR (nK S) x)) (by unfold s_rounds; (repeat (first | rw [if_pos (by omega)] | rw [if_neg (by omega)])); try rfl) ⟨f9.at hp.1 (by omega), ⟨sg, sd, e9, k1.fr f9 (by omega), k2.1.fr f9 (by omega), k2.2.1.fr f9 (by omega), k2.2.2.1.fr f9 (by omega), k2.2.2.2.1.fr f9 (by omega), k2.2.2.2.2.fr f9 (by omega)⟩, ⟨sg2, sd2, m2.fr f9 (by omega)⟩, m3.fr f9 (by omega), ⟨es, ls, m4.fr f9 (by omega)⟩, m5.fr f9 (by omega), m6.fr f9 (by omega), m7.fr f9 (by omega)⟩ (f9.wd (by omega) (by omega))
      | exact fin1 (by unfold s_rounds; (repeat (first | rw [if_pos (by omega)] | rw [if_neg (by omega)])); try rfl) hp Fr.rf

set_option maxHeartbeats 4000000 in
set_option maxRecDepth 20000 in
theorem c_Main_step (G : Gx) {h : AH} {o : Nat} {S : St} (hp : pMain h o S) (w : wSt S) {x : Int} (hx : InR x) : Ct G Y_Main_step 2 0 0 [aR o, aI x] h (fun v h' => v = some (aI (s_step S x).1) ∧ pMain h' o (s_step S x).2 ∧ Fr o (o + 73) h h') := by
  obtain ⟨m0, ⟨sg, sd, m1⟩, ⟨sg2, sd2, m2⟩, m3, ⟨es, ls, m4⟩, m5, m6, m7⟩ := id hp
  obtain ⟨k0, k1, k2⟩ := id m1
  have k3 := k1.1
  have j0 := m2.1
  obtain ⟨w1, w2, w3, w4, w5, w6, w7, w8⟩ := id w
  have wu := w1.up (by decide) (by decide)
  obtain ⟨fm, m8⟩ : ∃ fs, h.2 (o + 37) = some (aO 2 fs) := by obtain ⟨_, _, _, _, _, _, q⟩ := m3; exact ⟨_, q.1⟩
  have ho := oS_spec x 0 2
  refine Ct.of_V mo_Main_step rfl (Nat.le_of_ble_eq_true rfl) rfl ?_
  refine v_iload_n k_Main_step_0 rfl ?_
  refine v_iconst k_Main_step_1 ?_
  refine v_iconst k_Main_step_2 ?_
  refine v_callSr mo_Main_outside ms_Main_outside lk_Main_59 k_Main_step_3 rfl (Nat.le_of_ble_eq_true rfl) rfl (Nat.le_of_ble_eq_true rfl) (c_Main_outside G (v := x) (l := 0) (m := 2) (by omega) (by omega) (by omega)) ?_
  refine v_istore_n k_Main_step_6 ⟨Nat.le_of_ble_eq_true rfl, Nat.le_of_ble_eq_true rfl⟩ ?_
  refine v_iload_n k_Main_step_7 rfl ?_
  refine v_ifeq 17 k_Main_step_8 rfl (by omega) (fun c8 => ?_) (fun c8 => ?_)
  · refine v_aload_n k_Main_step_17 rfl ?_
    refine v_getf fl_Main_12 m0 rfl k_Main_step_18 ?_
    refine v_getf fl_Main_139 k0 rfl k_Main_step_21 ?_
    refine v_istore_n k_Main_step_24 ⟨Nat.le_of_ble_eq_true rfl, Nat.le_of_ble_eq_true rfl⟩ ?_
    refine v_aload_n k_Main_step_25 rfl ?_
    refine v_getf fl_Main_12 m0 rfl k_Main_step_26 ?_
    refine v_iload_n k_Main_step_29 rfl ?_
    refine v_put fl_Main_139 k0 (Nat.le_of_ble_eq_true rfl) (fun r hr => by cases hr; exact Or.inl rfl) rfl rfl k_Main_step_30 (fun h30 e30 f30 => ?_)
    have f9 := f30
    have e9 := e30
    refine v_iload_n k_Main_step_33 rfl ?_
    refine v_ireturn k_Main_step_34 rfl rfl ?_
    first
      | (exfalso; omega)
      | exact fin1 (by unfold s_step; (repeat (first | rw [if_pos (by omega)] | rw [if_neg (by omega)])); try rfl) p9 (f9.wd (by omega) (by omega))
      | exact fin1 (S' := wK_ S (setS (nK S) x)) (by unfold s_step; (repeat (first | rw [if_pos (by omega)] | rw [if_neg (by omega)])); try rfl) ⟨f9.at hp.1 (by omega), ⟨sg, sd, e9, k1.fr f9 (by omega), k2.1.fr f9 (by omega), k2.2.1.fr f9 (by omega), k2.2.2.1.fr f9 (by omega), k2.2.2.2.1.fr f9 (by omega), k2.2.2.2.2.fr f9 (by omega)⟩, ⟨sg2, sd2, m2.fr f9 (by omega)⟩, m3.fr f9 (by omega), ⟨es, ls, m4.fr f9 (by omega)⟩, m5.fr f9 (by omega), m6.fr f9 (by omega), m7.fr f9 (by omega)⟩ (f9.wd (by omega) (by omega))
      | exact fin1 (by unfold s_step; (repeat (first | rw [if_pos (by omega)] | rw [if_neg (by omega)])); try rfl) hp Fr.rf
  · refine v_aload_n k_Main_step_11 rfl ?_
    refine v_iload_n k_Main_step_12 rfl ?_
    refine v_callV mo_Main_refuse mi_Main_refuse mv_Main_refuse lk_Main_67 k_Main_step_13 m0 rfl rfl (Nat.le_of_ble_eq_true rfl) rfl (Nat.le_of_ble_eq_true rfl) (c_Main_refuse G hp w (by omega)) (fun v13 h13 q13 => ?_)
    obtain ⟨rfl, p9, f9⟩ := q13
    refine v_ireturn k_Main_step_16 rfl rfl ?_
    first
      | (exfalso; omega)
      | exact fin1 (by unfold s_step; (repeat (first | rw [if_pos (by omega)] | rw [if_neg (by omega)])); try rfl) p9 (f9.wd (by omega) (by omega))
      | exact fin1 (S' := wK_ S (setS (nK S) x)) (by unfold s_step; (repeat (first | rw [if_pos (by omega)] | rw [if_neg (by omega)])); try rfl) ⟨f9.at hp.1 (by omega), ⟨sg, sd, e9, k1.fr f9 (by omega), k2.1.fr f9 (by omega), k2.2.1.fr f9 (by omega), k2.2.2.1.fr f9 (by omega), k2.2.2.2.1.fr f9 (by omega), k2.2.2.2.2.fr f9 (by omega)⟩, ⟨sg2, sd2, m2.fr f9 (by omega)⟩, m3.fr f9 (by omega), ⟨es, ls, m4.fr f9 (by omega)⟩, m5.fr f9 (by omega), m6.fr f9 (by omega), m7.fr f9 (by omega)⟩ (f9.wd (by omega) (by omega))
      | exact fin1 (by unfold s_step; (repeat (first | rw [if_pos (by omega)] | rw [if_neg (by omega)])); try rfl) hp Fr.rf

set_option maxHeartbeats 4000000 in
set_option maxRecDepth 20000 in
theorem c_Main_law (G : Gx) {h : AH} {o : Nat} {S : St} (hp : pMain h o S) (w : wSt S) {x : Int} (hx : InR x) : Ct G Y_Main_law 2 0 0 [aR o, aI x] h (fun v h' => v = some (aI (s_law S x).1) ∧ pMain h' o (s_law S x).2 ∧ Fr o (o + 73) h h') := by
  obtain ⟨m0, ⟨sg, sd, m1⟩, ⟨sg2, sd2, m2⟩, m3, ⟨es, ls, m4⟩, m5, m6, m7⟩ := id hp
  obtain ⟨k0, k1, k2⟩ := id m1
  have k3 := k1.1
  have j0 := m2.1
  obtain ⟨w1, w2, w3, w4, w5, w6, w7, w8⟩ := id w
  have wu := w1.up (by decide) (by decide)
  obtain ⟨fm, m8⟩ : ∃ fs, h.2 (o + 37) = some (aO 2 fs) := by obtain ⟨_, _, _, _, _, _, q⟩ := m3; exact ⟨_, q.1⟩
  have ho := oS_spec x 0 127
  refine Ct.of_V mo_Main_law rfl (Nat.le_of_ble_eq_true rfl) rfl ?_
  refine v_iload_n k_Main_law_0 rfl ?_
  refine v_iconst k_Main_law_1 ?_
  refine v_bipush k_Main_law_2 (by decide) ?_
  refine v_callSr mo_Main_outside ms_Main_outside lk_Main_59 k_Main_law_4 rfl (Nat.le_of_ble_eq_true rfl) rfl (Nat.le_of_ble_eq_true rfl) (c_Main_outside G (v := x) (l := 0) (m := 127) (by omega) (by omega) (by omega)) ?_
  refine v_istore_n k_Main_law_7 ⟨Nat.le_of_ble_eq_true rfl, Nat.le_of_ble_eq_true rfl⟩ ?_
  refine v_iload_n k_Main_law_8 rfl ?_
  refine v_ifeq 18 k_Main_law_9 rfl (by omega) (fun c9 => ?_) (fun c9 => ?_)
  · refine v_aload_n k_Main_law_18 rfl ?_
    refine v_getf fl_Main_12 m0 rfl k_Main_law_19 ?_
    refine v_getf fl_Main_142 k0 rfl k_Main_law_22 ?_
    refine v_istore_n k_Main_law_25 ⟨Nat.le_of_ble_eq_true rfl, Nat.le_of_ble_eq_true rfl⟩ ?_
    refine v_aload_n k_Main_law_26 rfl ?_
    refine v_getf fl_Main_12 m0 rfl k_Main_law_27 ?_
    refine v_iload_n k_Main_law_30 rfl ?_
    refine v_put fl_Main_142 k0 (Nat.le_of_ble_eq_true rfl) (fun r hr => by cases hr; exact Or.inl rfl) rfl rfl k_Main_law_31 (fun h31 e31 f31 => ?_)
    have f9 := f31
    have e9 := e31
    refine v_iload_n k_Main_law_34 rfl ?_
    refine v_ireturn k_Main_law_35 rfl rfl ?_
    first
      | (exfalso; omega)
      | exact fin1 (by unfold s_law; (repeat (first | rw [if_pos (by omega)] | rw [if_neg (by omega)])); try rfl) p9 (f9.wd (by omega) (by omega))
      | exact fin1 (S' := wK_ S (setW (nK S) x)) (by unfold s_law; (repeat (first | rw [if_pos (by omega)] | rw [if_neg (by omega)])); try rfl) ⟨f9.at hp.1 (by omega), ⟨sg, sd, e9, k1.fr f9 (by omega), k2.1.fr f9 (by omega), k2.2.1.fr f9 (by omega), k2.2.2.1.fr f9 (by omega), k2.2.2.2.1.fr f9 (by omega), k2.2.2.2.2.fr f9 (by omega)⟩, ⟨sg2, sd2, m2.fr f9 (by omega)⟩, m3.fr f9 (by omega), ⟨es, ls, m4.fr f9 (by omega)⟩, m5.fr f9 (by omega), m6.fr f9 (by omega), m7.fr f9 (by omega)⟩ (f9.wd (by omega) (by omega))
      | exact fin1 (by unfold s_law; (repeat (first | rw [if_pos (by omega)] | rw [if_neg (by omega)])); try rfl) hp Fr.rf
  · refine v_aload_n k_Main_law_12 rfl ?_
    refine v_iload_n k_Main_law_13 rfl ?_
    refine v_callV mo_Main_refuse mi_Main_refuse mv_Main_refuse lk_Main_67 k_Main_law_14 m0 rfl rfl (Nat.le_of_ble_eq_true rfl) rfl (Nat.le_of_ble_eq_true rfl) (c_Main_refuse G hp w (by omega)) (fun v14 h14 q14 => ?_)
    obtain ⟨rfl, p9, f9⟩ := q14
    refine v_ireturn k_Main_law_17 rfl rfl ?_
    first
      | (exfalso; omega)
      | exact fin1 (by unfold s_law; (repeat (first | rw [if_pos (by omega)] | rw [if_neg (by omega)])); try rfl) p9 (f9.wd (by omega) (by omega))
      | exact fin1 (S' := wK_ S (setW (nK S) x)) (by unfold s_law; (repeat (first | rw [if_pos (by omega)] | rw [if_neg (by omega)])); try rfl) ⟨f9.at hp.1 (by omega), ⟨sg, sd, e9, k1.fr f9 (by omega), k2.1.fr f9 (by omega), k2.2.1.fr f9 (by omega), k2.2.2.1.fr f9 (by omega), k2.2.2.2.1.fr f9 (by omega), k2.2.2.2.2.fr f9 (by omega)⟩, ⟨sg2, sd2, m2.fr f9 (by omega)⟩, m3.fr f9 (by omega), ⟨es, ls, m4.fr f9 (by omega)⟩, m5.fr f9 (by omega), m6.fr f9 (by omega), m7.fr f9 (by omega)⟩ (f9.wd (by omega) (by omega))
      | exact fin1 (by unfold s_law; (repeat (first | rw [if_pos (by omega)] | rw [if_neg (by omega)])); try rfl) hp Fr.rf

set_option maxHeartbeats 4000000 in
set_option maxRecDepth 20000 in
theorem c_Main_sound (G : Gx) {h : AH} {o : Nat} {S : St} (hp : pMain h o S) (w : wSt S) {n x : Int} (hn : InR n) (hx : InR x) : Ct G Y_Main_sound 4 0 0 [aR o, aI n, aI x] h (fun v h' => v = some (aI (s_sound S n x).1) ∧ pMain h' o (s_sound S n x).2 ∧ Fr o (o + 73) h h') := by
  obtain ⟨m0, ⟨sg, sd, m1⟩, ⟨sg2, sd2, m2⟩, m3, ⟨es, ls, m4⟩, m5, m6, m7⟩ := id hp
  obtain ⟨k0, k1, k2⟩ := id m1
  have k3 := k1.1
  have j0 := m2.1
  obtain ⟨w1, w2, w3, w4, w5, w6, w7, w8⟩ := id w
  have wu := w1.up (by decide) (by decide)
  obtain ⟨fm, m8⟩ : ∃ fs, h.2 (o + 37) = some (aO 2 fs) := by obtain ⟨_, _, _, _, _, _, q⟩ := m3; exact ⟨_, q.1⟩
  have ho := oS_spec x 0 400
  refine Ct.of_V mo_Main_sound rfl (Nat.le_of_ble_eq_true rfl) rfl ?_
  by_cases hc : 0 ≤ n ∧ n < (kK (nK S)).length
  · skip
    refine v_aload_n k_Main_sound_0 rfl ?_
    refine v_getf fl_Main_12 m0 rfl k_Main_sound_1 ?_
    refine v_iload_n k_Main_sound_4 rfl ?_
    refine v_callVr mo_Canon_hasVoice mi_Canon_hasVoice mv_Canon_hasVoice lk_Main_110 k_Main_sound_5 k0 rfl rfl (Nat.le_of_ble_eq_true rfl) rfl (Nat.le_of_ble_eq_true rfl) ((by have q := c_Canon_hasVoice G m1 (v := n) (by omega); rw [if_pos hc] at q; exact q)) ?_
    refine v_ifeq 22 k_Main_sound_8 rfl (by omega) (fun c8 => ?_) (fun c8 => ?_)
    · refine v_iconst k_Main_sound_22 ?_
      refine v_istore_n k_Main_sound_23 ⟨Nat.le_of_ble_eq_true rfl, Nat.le_of_ble_eq_true rfl⟩ ?_
      refine v_iload_n k_Main_sound_24 rfl ?_
      refine v_ifeq 39 k_Main_sound_25 rfl (by omega) (fun c25 => ?_) (fun c25 => ?_)
      · refine v_aload_n k_Main_sound_39 rfl ?_
        refine v_getf fl_Main_12 m0 rfl k_Main_sound_40 ?_
        refine v_iload_n k_Main_sound_43 rfl ?_
        refine v_iload_n k_Main_sound_44 rfl ?_
        refine v_callVr mo_Canon_soundOf mi_Canon_soundOf mv_Canon_soundOf lk_Main_146 k_Main_sound_45 k0 rfl rfl (Nat.le_of_ble_eq_true rfl) rfl (Nat.le_of_ble_eq_true rfl) (c_Canon_soundOf G m1 wu hn (by omega)) ?_
        refine v_ireturn k_Main_sound_48 rfl rfl ?_
        first
          | (exfalso; omega)
          | exact fin1 (by unfold s_sound; (repeat (first | rw [if_pos (by omega)] | rw [if_neg (by omega)])); try rfl) p9 (f9.wd (by omega) (by omega))
          | exact fin1 (by unfold s_sound; (repeat (first | rw [if_pos (by omega)] | rw [if_neg (by omega)])); try rfl) ⟨f9.at hp.1 (by omega), ⟨sg9, sd9, q9⟩, ⟨sg2, sd2, m2.fr f9 (by omega)⟩, m3.fr f9 (by omega), ⟨es, ls, m4.fr f9 (by omega)⟩, m5.fr f9 (by omega), m6.fr f9 (by omega), m7.fr f9 (by omega)⟩ (f9.wd (by omega) (by omega))
          | exact fin1 (by unfold s_sound; (repeat (first | rw [if_pos (by omega)] | rw [if_neg (by omega)])); try rfl) hp Fr.rf
      · refine v_ldc (x := 1000000000) cn_Main_145 k_Main_sound_28 (by decide) ?_
        refine v_aload_n k_Main_sound_30 rfl ?_
        refine v_iload_n k_Main_sound_31 rfl ?_
        refine v_callV mo_Main_refuse mi_Main_refuse mv_Main_refuse lk_Main_67 k_Main_sound_32 m0 rfl rfl (Nat.le_of_ble_eq_true rfl) rfl (Nat.le_of_ble_eq_true rfl) (c_Main_refuse G hp w (by omega)) (fun v32 h32 q32 => ?_)
        obtain ⟨rfl, p9, f9⟩ := q32
        refine v_isub k_Main_sound_35 ?_
        refine v_goto k_Main_sound_36 (tgt := 48) rfl ?_
        refine v_ireturn k_Main_sound_48 rfl rfl ?_
        first
          | (exfalso; omega)
          | exact fin1 (by unfold s_sound; (repeat (first | rw [if_pos (by omega)] | rw [if_neg (by omega)])); try rfl) p9 (f9.wd (by omega) (by omega))
          | exact fin1 (by unfold s_sound; (repeat (first | rw [if_pos (by omega)] | rw [if_neg (by omega)])); try rfl) ⟨f9.at hp.1 (by omega), ⟨sg9, sd9, q9⟩, ⟨sg2, sd2, m2.fr f9 (by omega)⟩, m3.fr f9 (by omega), ⟨es, ls, m4.fr f9 (by omega)⟩, m5.fr f9 (by omega), m6.fr f9 (by omega), m7.fr f9 (by omega)⟩ (f9.wd (by omega) (by omega))
          | exact fin1 (by unfold s_sound; (repeat (first | rw [if_pos (by omega)] | rw [if_neg (by omega)])); try rfl) hp Fr.rf
    · refine v_iload_n k_Main_sound_11 rfl ?_
      refine v_iconst k_Main_sound_12 ?_
      refine v_sipush k_Main_sound_13 (by decide) ?_
      refine v_callSr mo_Main_outside ms_Main_outside lk_Main_59 k_Main_sound_16 rfl (Nat.le_of_ble_eq_true rfl) rfl (Nat.le_of_ble_eq_true rfl) (c_Main_outside G (v := x) (l := 0) (m := 400) (by omega) (by omega) (by omega)) ?_
      refine v_goto k_Main_sound_19 (tgt := 23) rfl ?_
      refine v_istore_n k_Main_sound_23 ⟨Nat.le_of_ble_eq_true rfl, Nat.le_of_ble_eq_true rfl⟩ ?_
      refine v_iload_n k_Main_sound_24 rfl ?_
      refine v_ifeq 39 k_Main_sound_25 rfl (by omega) (fun c25 => ?_) (fun c25 => ?_)
      · refine v_aload_n k_Main_sound_39 rfl ?_
        refine v_getf fl_Main_12 m0 rfl k_Main_sound_40 ?_
        refine v_iload_n k_Main_sound_43 rfl ?_
        refine v_iload_n k_Main_sound_44 rfl ?_
        refine v_callVr mo_Canon_soundOf mi_Canon_soundOf mv_Canon_soundOf lk_Main_146 k_Main_sound_45 k0 rfl rfl (Nat.le_of_ble_eq_true rfl) rfl (Nat.le_of_ble_eq_true rfl) (c_Canon_soundOf G m1 wu hn (by omega)) ?_
        refine v_ireturn k_Main_sound_48 rfl rfl ?_
        first
          | (exfalso; omega)
          | exact fin1 (by unfold s_sound; (repeat (first | rw [if_pos (by omega)] | rw [if_neg (by omega)])); try rfl) p9 (f9.wd (by omega) (by omega))
          | exact fin1 (by unfold s_sound; (repeat (first | rw [if_pos (by omega)] | rw [if_neg (by omega)])); try rfl) ⟨f9.at hp.1 (by omega), ⟨sg9, sd9, q9⟩, ⟨sg2, sd2, m2.fr f9 (by omega)⟩, m3.fr f9 (by omega), ⟨es, ls, m4.fr f9 (by omega)⟩, m5.fr f9 (by omega), m6.fr f9 (by omega), m7.fr f9 (by omega)⟩ (f9.wd (by omega) (by omega))
          | exact fin1 (by unfold s_sound; (repeat (first | rw [if_pos (by omega)] | rw [if_neg (by omega)])); try rfl) hp Fr.rf
      · refine v_ldc (x := 1000000000) cn_Main_145 k_Main_sound_28 (by decide) ?_
        refine v_aload_n k_Main_sound_30 rfl ?_
        refine v_iload_n k_Main_sound_31 rfl ?_
        refine v_callV mo_Main_refuse mi_Main_refuse mv_Main_refuse lk_Main_67 k_Main_sound_32 m0 rfl rfl (Nat.le_of_ble_eq_true rfl) rfl (Nat.le_of_ble_eq_true rfl) (c_Main_refuse G hp w (by omega)) (fun v32 h32 q32 => ?_)
        obtain ⟨rfl, p9, f9⟩ := q32
        refine v_isub k_Main_sound_35 ?_
        refine v_goto k_Main_sound_36 (tgt := 48) rfl ?_
        refine v_ireturn k_Main_sound_48 rfl rfl ?_
        first
          | (exfalso; omega)
          | exact fin1 (by unfold s_sound; (repeat (first | rw [if_pos (by omega)] | rw [if_neg (by omega)])); try rfl) p9 (f9.wd (by omega) (by omega))
          | exact fin1 (by unfold s_sound; (repeat (first | rw [if_pos (by omega)] | rw [if_neg (by omega)])); try rfl) ⟨f9.at hp.1 (by omega), ⟨sg9, sd9, q9⟩, ⟨sg2, sd2, m2.fr f9 (by omega)⟩, m3.fr f9 (by omega), ⟨es, ls, m4.fr f9 (by omega)⟩, m5.fr f9 (by omega), m6.fr f9 (by omega), m7.fr f9 (by omega)⟩ (f9.wd (by omega) (by omega))
          | exact fin1 (by unfold s_sound; (repeat (first | rw [if_pos (by omega)] | rw [if_neg (by omega)])); try rfl) hp Fr.rf
  · skip
    refine v_aload_n k_Main_sound_0 rfl ?_
    refine v_getf fl_Main_12 m0 rfl k_Main_sound_1 ?_
    refine v_iload_n k_Main_sound_4 rfl ?_
    refine v_callVr mo_Canon_hasVoice mi_Canon_hasVoice mv_Canon_hasVoice lk_Main_110 k_Main_sound_5 k0 rfl rfl (Nat.le_of_ble_eq_true rfl) rfl (Nat.le_of_ble_eq_true rfl) ((by have q := c_Canon_hasVoice G m1 (v := n) (by omega); rw [if_neg hc] at q; exact q)) ?_
    refine v_ifeq 22 k_Main_sound_8 rfl (by omega) (fun c8 => ?_) (fun c8 => ?_)
    · refine v_iconst k_Main_sound_22 ?_
      refine v_istore_n k_Main_sound_23 ⟨Nat.le_of_ble_eq_true rfl, Nat.le_of_ble_eq_true rfl⟩ ?_
      refine v_iload_n k_Main_sound_24 rfl ?_
      refine v_ifeq 39 k_Main_sound_25 rfl (by omega) (fun c25 => ?_) (fun c25 => ?_)
      · refine v_aload_n k_Main_sound_39 rfl ?_
        refine v_getf fl_Main_12 m0 rfl k_Main_sound_40 ?_
        refine v_iload_n k_Main_sound_43 rfl ?_
        refine v_iload_n k_Main_sound_44 rfl ?_
        refine v_callVr mo_Canon_soundOf mi_Canon_soundOf mv_Canon_soundOf lk_Main_146 k_Main_sound_45 k0 rfl rfl (Nat.le_of_ble_eq_true rfl) rfl (Nat.le_of_ble_eq_true rfl) (c_Canon_soundOf G m1 wu hn (by omega)) ?_
        refine v_ireturn k_Main_sound_48 rfl rfl ?_
        first
          | (exfalso; omega)
          | exact fin1 (by unfold s_sound; (repeat (first | rw [if_pos (by omega)] | rw [if_neg (by omega)])); try rfl) p9 (f9.wd (by omega) (by omega))
          | exact fin1 (by unfold s_sound; (repeat (first | rw [if_pos (by omega)] | rw [if_neg (by omega)])); try rfl) ⟨f9.at hp.1 (by omega), ⟨sg9, sd9, q9⟩, ⟨sg2, sd2, m2.fr f9 (by omega)⟩, m3.fr f9 (by omega), ⟨es, ls, m4.fr f9 (by omega)⟩, m5.fr f9 (by omega), m6.fr f9 (by omega), m7.fr f9 (by omega)⟩ (f9.wd (by omega) (by omega))
          | exact fin1 (by unfold s_sound; (repeat (first | rw [if_pos (by omega)] | rw [if_neg (by omega)])); try rfl) hp Fr.rf
      · refine v_ldc (x := 1000000000) cn_Main_145 k_Main_sound_28 (by decide) ?_
        refine v_aload_n k_Main_sound_30 rfl ?_
        refine v_iload_n k_Main_sound_31 rfl ?_
        refine v_callV mo_Main_refuse mi_Main_refuse mv_Main_refuse lk_Main_67 k_Main_sound_32 m0 rfl rfl (Nat.le_of_ble_eq_true rfl) rfl (Nat.le_of_ble_eq_true rfl) (c_Main_refuse G hp w (by omega)) (fun v32 h32 q32 => ?_)
        obtain ⟨rfl, p9, f9⟩ := q32
        refine v_isub k_Main_sound_35 ?_
        refine v_goto k_Main_sound_36 (tgt := 48) rfl ?_
        refine v_ireturn k_Main_sound_48 rfl rfl ?_
        first
          | (exfalso; omega)
          | exact fin1 (by unfold s_sound; (repeat (first | rw [if_pos (by omega)] | rw [if_neg (by omega)])); try rfl) p9 (f9.wd (by omega) (by omega))
          | exact fin1 (by unfold s_sound; (repeat (first | rw [if_pos (by omega)] | rw [if_neg (by omega)])); try rfl) ⟨f9.at hp.1 (by omega), ⟨sg9, sd9, q9⟩, ⟨sg2, sd2, m2.fr f9 (by omega)⟩, m3.fr f9 (by omega), ⟨es, ls, m4.fr f9 (by omega)⟩, m5.fr f9 (by omega), m6.fr f9 (by omega), m7.fr f9 (by omega)⟩ (f9.wd (by omega) (by omega))
          | exact fin1 (by unfold s_sound; (repeat (first | rw [if_pos (by omega)] | rw [if_neg (by omega)])); try rfl) hp Fr.rf
    · refine v_iload_n k_Main_sound_11 rfl ?_
      refine v_iconst k_Main_sound_12 ?_
      refine v_sipush k_Main_sound_13 (by decide) ?_
      refine v_callSr mo_Main_outside ms_Main_outside lk_Main_59 k_Main_sound_16 rfl (Nat.le_of_ble_eq_true rfl) rfl (Nat.le_of_ble_eq_true rfl) (c_Main_outside G (v := x) (l := 0) (m := 400) (by omega) (by omega) (by omega)) ?_
      refine v_goto k_Main_sound_19 (tgt := 23) rfl ?_
      refine v_istore_n k_Main_sound_23 ⟨Nat.le_of_ble_eq_true rfl, Nat.le_of_ble_eq_true rfl⟩ ?_
      refine v_iload_n k_Main_sound_24 rfl ?_
      refine v_ifeq 39 k_Main_sound_25 rfl (by omega) (fun c25 => ?_) (fun c25 => ?_)
      · refine v_aload_n k_Main_sound_39 rfl ?_
        refine v_getf fl_Main_12 m0 rfl k_Main_sound_40 ?_
        refine v_iload_n k_Main_sound_43 rfl ?_
        refine v_iload_n k_Main_sound_44 rfl ?_
        refine v_callVr mo_Canon_soundOf mi_Canon_soundOf mv_Canon_soundOf lk_Main_146 k_Main_sound_45 k0 rfl rfl (Nat.le_of_ble_eq_true rfl) rfl (Nat.le_of_ble_eq_true rfl) (c_Canon_soundOf G m1 wu hn (by omega)) ?_
        refine v_ireturn k_Main_sound_48 rfl rfl ?_
        first
          | (exfalso; omega)
          | exact fin1 (by unfold s_sound; (repeat (first | rw [if_pos (by omega)] | rw [if_neg (by omega)])); try rfl) p9 (f9.wd (by omega) (by omega))
          | exact fin1 (by unfold s_sound; (repeat (first | rw [if_pos (by omega)] | rw [if_neg (by omega)])); try rfl) ⟨f9.at hp.1 (by omega), ⟨sg9, sd9, q9⟩, ⟨sg2, sd2, m2.fr f9 (by omega)⟩, m3.fr f9 (by omega), ⟨es, ls, m4.fr f9 (by omega)⟩, m5.fr f9 (by omega), m6.fr f9 (by omega), m7.fr f9 (by omega)⟩ (f9.wd (by omega) (by omega))
          | exact fin1 (by unfold s_sound; (repeat (first | rw [if_pos (by omega)] | rw [if_neg (by omega)])); try rfl) hp Fr.rf
      · refine v_ldc (x := 1000000000) cn_Main_145 k_Main_sound_28 (by decide) ?_
        refine v_aload_n k_Main_sound_30 rfl ?_
        refine v_iload_n k_Main_sound_31 rfl ?_
        refine v_callV mo_Main_refuse mi_Main_refuse mv_Main_refuse lk_Main_67 k_Main_sound_32 m0 rfl rfl (Nat.le_of_ble_eq_true rfl) rfl (Nat.le_of_ble_eq_true rfl) (c_Main_refuse G hp w (by omega)) (fun v32 h32 q32 => ?_)
        obtain ⟨rfl, p9, f9⟩ := q32
        refine v_isub k_Main_sound_35 ?_
        refine v_goto k_Main_sound_36 (tgt := 48) rfl ?_
        refine v_ireturn k_Main_sound_48 rfl rfl ?_
        first
          | (exfalso; omega)
          | exact fin1 (by unfold s_sound; (repeat (first | rw [if_pos (by omega)] | rw [if_neg (by omega)])); try rfl) p9 (f9.wd (by omega) (by omega))
          | exact fin1 (by unfold s_sound; (repeat (first | rw [if_pos (by omega)] | rw [if_neg (by omega)])); try rfl) ⟨f9.at hp.1 (by omega), ⟨sg9, sd9, q9⟩, ⟨sg2, sd2, m2.fr f9 (by omega)⟩, m3.fr f9 (by omega), ⟨es, ls, m4.fr f9 (by omega)⟩, m5.fr f9 (by omega), m6.fr f9 (by omega), m7.fr f9 (by omega)⟩ (f9.wd (by omega) (by omega))
          | exact fin1 (by unfold s_sound; (repeat (first | rw [if_pos (by omega)] | rw [if_neg (by omega)])); try rfl) hp Fr.rf

set_option maxHeartbeats 4000000 in
set_option maxRecDepth 20000 in
theorem c_Main_ill (G : Gx) {h : AH} {o : Nat} {S : St} (hp : pMain h o S) (w : wSt S) {x : Int} (hx : InR x) : Ct G Y_Main_ill 6 0 0 [aR o, aI x] h (fun v h' => v = some (aI (s_ill S x).1) ∧ pMain h' o (s_ill S x).2 ∧ Fr o (o + 73) h h') := by
  obtain ⟨m0, ⟨sg, sd, m1⟩, ⟨sg2, sd2, m2⟩, m3, ⟨es, ls, m4⟩, m5, m6, m7⟩ := id hp
  obtain ⟨k0, k1, k2⟩ := id m1
  have k3 := k1.1
  have j0 := m2.1
  obtain ⟨w1, w2, w3, w4, w5, w6, w7, w8⟩ := id w
  have wu := w1.up (by decide) (by decide)
  obtain ⟨fm, m8⟩ : ∃ fs, h.2 (o + 37) = some (aO 2 fs) := by obtain ⟨_, _, _, _, _, _, q⟩ := m3; exact ⟨_, q.1⟩
  have ho := oS_spec x 0 400
  refine Ct.of_V mo_Main_ill rfl (Nat.le_of_ble_eq_true rfl) rfl ?_
  refine v_iload_n k_Main_ill_0 rfl ?_
  refine v_iconst k_Main_ill_1 ?_
  refine v_sipush k_Main_ill_2 (by decide) ?_
  refine v_callSr mo_Main_outside ms_Main_outside lk_Main_59 k_Main_ill_5 rfl (Nat.le_of_ble_eq_true rfl) rfl (Nat.le_of_ble_eq_true rfl) (c_Main_outside G (v := x) (l := 0) (m := 400) (by omega) (by omega) (by omega)) ?_
  refine v_istore_n k_Main_ill_8 ⟨Nat.le_of_ble_eq_true rfl, Nat.le_of_ble_eq_true rfl⟩ ?_
  refine v_iload_n k_Main_ill_9 rfl ?_
  refine v_ifeq 21 k_Main_ill_10 rfl (by omega) (fun c10 => ?_) (fun c10 => ?_)
  · refine v_aload_n k_Main_ill_21 rfl ?_
    refine v_getf fl_Main_12 m0 rfl k_Main_ill_22 ?_
    refine v_iload_n k_Main_ill_25 rfl ?_
    refine v_callV mo_Canon_illsAt mi_Canon_illsAt mv_Canon_illsAt lk_Main_150 k_Main_ill_26 k0 rfl rfl (Nat.le_of_ble_eq_true rfl) rfl (Nat.le_of_ble_eq_true rfl) (c_Canon_illsAt G m1 wu (by omega)) (fun v26 h26 q26 => ?_)
    obtain ⟨rfl, sg9, sd9, q9, f9⟩ := q26
    refine v_ireturn k_Main_ill_29 rfl rfl ?_
    first
      | (exfalso; omega)
      | exact fin1 (by unfold s_ill; (repeat (first | rw [if_pos (by omega)] | rw [if_neg (by omega)])); try rfl) p9 (f9.wd (by omega) (by omega))
      | exact fin1 (by unfold s_ill; (repeat (first | rw [if_pos (by omega)] | rw [if_neg (by omega)])); try rfl) ⟨f9.at hp.1 (by omega), ⟨sg9, sd9, q9⟩, ⟨sg2, sd2, m2.fr f9 (by omega)⟩, m3.fr f9 (by omega), ⟨es, ls, m4.fr f9 (by omega)⟩, m5.fr f9 (by omega), m6.fr f9 (by omega), m7.fr f9 (by omega)⟩ (f9.wd (by omega) (by omega))
      | exact fin1 (by unfold s_ill; (repeat (first | rw [if_pos (by omega)] | rw [if_neg (by omega)])); try rfl) hp Fr.rf
  · refine v_aload_n k_Main_ill_13 rfl ?_
    refine v_iload_n k_Main_ill_14 rfl ?_
    refine v_callV mo_Main_refuse mi_Main_refuse mv_Main_refuse lk_Main_67 k_Main_ill_15 m0 rfl rfl (Nat.le_of_ble_eq_true rfl) rfl (Nat.le_of_ble_eq_true rfl) (c_Main_refuse G hp w (by omega)) (fun v15 h15 q15 => ?_)
    obtain ⟨rfl, p9, f9⟩ := q15
    refine v_goto k_Main_ill_18 (tgt := 29) rfl ?_
    refine v_ireturn k_Main_ill_29 rfl rfl ?_
    first
      | (exfalso; omega)
      | exact fin1 (by unfold s_ill; (repeat (first | rw [if_pos (by omega)] | rw [if_neg (by omega)])); try rfl) p9 (f9.wd (by omega) (by omega))
      | exact fin1 (by unfold s_ill; (repeat (first | rw [if_pos (by omega)] | rw [if_neg (by omega)])); try rfl) ⟨f9.at hp.1 (by omega), ⟨sg9, sd9, q9⟩, ⟨sg2, sd2, m2.fr f9 (by omega)⟩, m3.fr f9 (by omega), ⟨es, ls, m4.fr f9 (by omega)⟩, m5.fr f9 (by omega), m6.fr f9 (by omega), m7.fr f9 (by omega)⟩ (f9.wd (by omega) (by omega))
      | exact fin1 (by unfold s_ill; (repeat (first | rw [if_pos (by omega)] | rw [if_neg (by omega)])); try rfl) hp Fr.rf

set_option maxHeartbeats 4000000 in
set_option maxRecDepth 20000 in
theorem c_Main_first (G : Gx) {h : AH} {o : Nat} {S : St} (hp : pMain h o S) (w : wSt S) {x : Int} (hx : InR x) : Ct G Y_Main_first 7 0 0 [aR o, aI x] h (fun v h' => v = some (aI (s_first S x).1) ∧ pMain h' o (s_first S x).2 ∧ Fr o (o + 73) h h') := by
  obtain ⟨m0, ⟨sg, sd, m1⟩, ⟨sg2, sd2, m2⟩, m3, ⟨es, ls, m4⟩, m5, m6, m7⟩ := id hp
  obtain ⟨k0, k1, k2⟩ := id m1
  have k3 := k1.1
  have j0 := m2.1
  obtain ⟨w1, w2, w3, w4, w5, w6, w7, w8⟩ := id w
  have wu := w1.up (by decide) (by decide)
  obtain ⟨fm, m8⟩ : ∃ fs, h.2 (o + 37) = some (aO 2 fs) := by obtain ⟨_, _, _, _, _, _, q⟩ := m3; exact ⟨_, q.1⟩
  have hfb := fIB_bd (nK S) (q_endK (nK S)).toNat 0
  have hend := wu.endK
  refine Ct.of_V mo_Main_first rfl (Nat.le_of_ble_eq_true rfl) rfl ?_
  refine v_iload_n k_Main_first_0 rfl ?_
  refine v_ifeq 16 k_Main_first_1 rfl (by omega) (fun c1 => ?_) (fun c1 => ?_)
  · refine v_aload_n k_Main_first_16 rfl ?_
    refine v_getf fl_Main_12 m0 rfl k_Main_first_17 ?_
    refine v_callV mo_Canon_firstIllBeat mi_Canon_firstIllBeat mv_Canon_firstIllBeat lk_Main_153 k_Main_first_20 k0 rfl rfl (Nat.le_of_ble_eq_true rfl) rfl (Nat.le_of_ble_eq_true rfl) (c_Canon_firstIllBeat G m1 wu) (fun v20 h20 q20 => ?_)
    obtain ⟨rfl, sg9, sd9, q9, f9⟩ := q20
    have m0 := f9.at m0 (by omega)
    have k0 := q9.1
    refine v_istore_n k_Main_first_23 ⟨Nat.le_of_ble_eq_true rfl, Nat.le_of_ble_eq_true rfl⟩ ?_
    refine v_iload_n k_Main_first_24 rfl ?_
    refine v_ifeq 34 k_Main_first_25 rfl (by omega) (fun c25 => ?_) (fun c25 => ?_)
    · refine v_iload_n k_Main_first_34 rfl ?_
      refine v_goto k_Main_first_35 (tgt := 46) rfl ?_
      refine v_ireturn k_Main_first_46 rfl rfl ?_
      first
        | (exfalso; omega)
        | exact fin1 (by unfold s_first; (repeat (first | rw [if_pos (by omega)] | rw [if_neg (by omega)])); try rfl) p9 (f9.wd (by omega) (by omega))
        | exact fin1 (by unfold s_first; (repeat (first | rw [if_pos (by omega)] | rw [if_neg (by omega)])); try rfl) ⟨f9.at hp.1 (by omega), ⟨sg9, sd9, q9⟩, ⟨sg2, sd2, m2.fr f9 (by omega)⟩, m3.fr f9 (by omega), ⟨es, ls, m4.fr f9 (by omega)⟩, m5.fr f9 (by omega), m6.fr f9 (by omega), m7.fr f9 (by omega)⟩ (f9.wd (by omega) (by omega))
        | exact fin1 (by unfold s_first; (repeat (first | rw [if_pos (by omega)] | rw [if_neg (by omega)])); try rfl) hp Fr.rf
    · refine v_iload_n k_Main_first_28 rfl ?_
      refine v_bipush k_Main_first_29 (by decide) ?_
      refine v_icne 38 k_Main_first_31 rfl (by omega) (by omega) (fun c31 => ?_) (fun c31 => ?_)
      · refine v_aload_n k_Main_first_38 rfl ?_
        refine v_getf fl_Main_12 m0 rfl k_Main_first_39 ?_
        refine v_iload_n k_Main_first_42 rfl ?_
        refine v_callV mo_Canon_firstIllPair mi_Canon_firstIllPair mv_Canon_firstIllPair lk_Main_156 k_Main_first_43 k0 rfl rfl (Nat.le_of_ble_eq_true rfl) rfl (Nat.le_of_ble_eq_true rfl) (c_Canon_firstIllPair G q9 wu (by omega)) (fun v43 h43 q43 => ?_)
        obtain ⟨rfl, sg9, sd9, q9, f10⟩ := q43
        have f9 := Fr.tr f9 f10 (by omega) (by omega)
        refine v_ireturn k_Main_first_46 rfl rfl ?_
        first
          | (exfalso; omega)
          | exact fin1 (by unfold s_first; (repeat (first | rw [if_pos (by omega)] | rw [if_neg (by omega)])); try rfl) p9 (f9.wd (by omega) (by omega))
          | exact fin1 (by unfold s_first; (repeat (first | rw [if_pos (by omega)] | rw [if_neg (by omega)])); try rfl) ⟨f9.at hp.1 (by omega), ⟨sg9, sd9, q9⟩, ⟨sg2, sd2, m2.fr f9 (by omega)⟩, m3.fr f9 (by omega), ⟨es, ls, m4.fr f9 (by omega)⟩, m5.fr f9 (by omega), m6.fr f9 (by omega), m7.fr f9 (by omega)⟩ (f9.wd (by omega) (by omega))
          | exact fin1 (by unfold s_first; (repeat (first | rw [if_pos (by omega)] | rw [if_neg (by omega)])); try rfl) hp Fr.rf
      · refine v_iload_n k_Main_first_34 rfl ?_
        refine v_goto k_Main_first_35 (tgt := 46) rfl ?_
        refine v_ireturn k_Main_first_46 rfl rfl ?_
        first
          | (exfalso; omega)
          | exact fin1 (by unfold s_first; (repeat (first | rw [if_pos (by omega)] | rw [if_neg (by omega)])); try rfl) p9 (f9.wd (by omega) (by omega))
          | exact fin1 (by unfold s_first; (repeat (first | rw [if_pos (by omega)] | rw [if_neg (by omega)])); try rfl) ⟨f9.at hp.1 (by omega), ⟨sg9, sd9, q9⟩, ⟨sg2, sd2, m2.fr f9 (by omega)⟩, m3.fr f9 (by omega), ⟨es, ls, m4.fr f9 (by omega)⟩, m5.fr f9 (by omega), m6.fr f9 (by omega), m7.fr f9 (by omega)⟩ (f9.wd (by omega) (by omega))
          | exact fin1 (by unfold s_first; (repeat (first | rw [if_pos (by omega)] | rw [if_neg (by omega)])); try rfl) hp Fr.rf
  · refine v_iload_n k_Main_first_4 rfl ?_
    refine v_iconst k_Main_first_5 ?_
    refine v_iceq 16 k_Main_first_6 rfl (by omega) (by omega) (fun c6 => ?_) (fun c6 => ?_)
    · refine v_aload_n k_Main_first_16 rfl ?_
      refine v_getf fl_Main_12 m0 rfl k_Main_first_17 ?_
      refine v_callV mo_Canon_firstIllBeat mi_Canon_firstIllBeat mv_Canon_firstIllBeat lk_Main_153 k_Main_first_20 k0 rfl rfl (Nat.le_of_ble_eq_true rfl) rfl (Nat.le_of_ble_eq_true rfl) (c_Canon_firstIllBeat G m1 wu) (fun v20 h20 q20 => ?_)
      obtain ⟨rfl, sg9, sd9, q9, f9⟩ := q20
      have m0 := f9.at m0 (by omega)
      have k0 := q9.1
      refine v_istore_n k_Main_first_23 ⟨Nat.le_of_ble_eq_true rfl, Nat.le_of_ble_eq_true rfl⟩ ?_
      refine v_iload_n k_Main_first_24 rfl ?_
      refine v_ifeq 34 k_Main_first_25 rfl (by omega) (fun c25 => ?_) (fun c25 => ?_)
      · refine v_iload_n k_Main_first_34 rfl ?_
        refine v_goto k_Main_first_35 (tgt := 46) rfl ?_
        refine v_ireturn k_Main_first_46 rfl rfl ?_
        first
          | (exfalso; omega)
          | exact fin1 (by unfold s_first; (repeat (first | rw [if_pos (by omega)] | rw [if_neg (by omega)])); try rfl) p9 (f9.wd (by omega) (by omega))
          | exact fin1 (by unfold s_first; (repeat (first | rw [if_pos (by omega)] | rw [if_neg (by omega)])); try rfl) ⟨f9.at hp.1 (by omega), ⟨sg9, sd9, q9⟩, ⟨sg2, sd2, m2.fr f9 (by omega)⟩, m3.fr f9 (by omega), ⟨es, ls, m4.fr f9 (by omega)⟩, m5.fr f9 (by omega), m6.fr f9 (by omega), m7.fr f9 (by omega)⟩ (f9.wd (by omega) (by omega))
          | exact fin1 (by unfold s_first; (repeat (first | rw [if_pos (by omega)] | rw [if_neg (by omega)])); try rfl) hp Fr.rf
      · refine v_iload_n k_Main_first_28 rfl ?_
        refine v_bipush k_Main_first_29 (by decide) ?_
        refine v_icne 38 k_Main_first_31 rfl (by omega) (by omega) (fun c31 => ?_) (fun c31 => ?_)
        · refine v_aload_n k_Main_first_38 rfl ?_
          refine v_getf fl_Main_12 m0 rfl k_Main_first_39 ?_
          refine v_iload_n k_Main_first_42 rfl ?_
          refine v_callV mo_Canon_firstIllPair mi_Canon_firstIllPair mv_Canon_firstIllPair lk_Main_156 k_Main_first_43 k0 rfl rfl (Nat.le_of_ble_eq_true rfl) rfl (Nat.le_of_ble_eq_true rfl) (c_Canon_firstIllPair G q9 wu (by omega)) (fun v43 h43 q43 => ?_)
          obtain ⟨rfl, sg9, sd9, q9, f10⟩ := q43
          have f9 := Fr.tr f9 f10 (by omega) (by omega)
          refine v_ireturn k_Main_first_46 rfl rfl ?_
          first
            | (exfalso; omega)
            | exact fin1 (by unfold s_first; (repeat (first | rw [if_pos (by omega)] | rw [if_neg (by omega)])); try rfl) p9 (f9.wd (by omega) (by omega))
            | exact fin1 (by unfold s_first; (repeat (first | rw [if_pos (by omega)] | rw [if_neg (by omega)])); try rfl) ⟨f9.at hp.1 (by omega), ⟨sg9, sd9, q9⟩, ⟨sg2, sd2, m2.fr f9 (by omega)⟩, m3.fr f9 (by omega), ⟨es, ls, m4.fr f9 (by omega)⟩, m5.fr f9 (by omega), m6.fr f9 (by omega), m7.fr f9 (by omega)⟩ (f9.wd (by omega) (by omega))
            | exact fin1 (by unfold s_first; (repeat (first | rw [if_pos (by omega)] | rw [if_neg (by omega)])); try rfl) hp Fr.rf
        · refine v_iload_n k_Main_first_34 rfl ?_
          refine v_goto k_Main_first_35 (tgt := 46) rfl ?_
          refine v_ireturn k_Main_first_46 rfl rfl ?_
          first
            | (exfalso; omega)
            | exact fin1 (by unfold s_first; (repeat (first | rw [if_pos (by omega)] | rw [if_neg (by omega)])); try rfl) p9 (f9.wd (by omega) (by omega))
            | exact fin1 (by unfold s_first; (repeat (first | rw [if_pos (by omega)] | rw [if_neg (by omega)])); try rfl) ⟨f9.at hp.1 (by omega), ⟨sg9, sd9, q9⟩, ⟨sg2, sd2, m2.fr f9 (by omega)⟩, m3.fr f9 (by omega), ⟨es, ls, m4.fr f9 (by omega)⟩, m5.fr f9 (by omega), m6.fr f9 (by omega), m7.fr f9 (by omega)⟩ (f9.wd (by omega) (by omega))
            | exact fin1 (by unfold s_first; (repeat (first | rw [if_pos (by omega)] | rw [if_neg (by omega)])); try rfl) hp Fr.rf
    · refine v_aload_n k_Main_first_9 rfl ?_
      refine v_bipush k_Main_first_10 (by decide) ?_
      refine v_callV mo_Main_refuse mi_Main_refuse mv_Main_refuse lk_Main_67 k_Main_first_12 m0 rfl rfl (Nat.le_of_ble_eq_true rfl) rfl (Nat.le_of_ble_eq_true rfl) (c_Main_refuse G hp w (by omega)) (fun v12 h12 q12 => ?_)
      obtain ⟨rfl, p9, f9⟩ := q12
      refine v_ireturn k_Main_first_15 rfl rfl ?_
      first
        | (exfalso; omega)
        | exact fin1 (by unfold s_first; (repeat (first | rw [if_pos (by omega)] | rw [if_neg (by omega)])); try rfl) p9 (f9.wd (by omega) (by omega))
        | exact fin1 (by unfold s_first; (repeat (first | rw [if_pos (by omega)] | rw [if_neg (by omega)])); try rfl) ⟨f9.at hp.1 (by omega), ⟨sg9, sd9, q9⟩, ⟨sg2, sd2, m2.fr f9 (by omega)⟩, m3.fr f9 (by omega), ⟨es, ls, m4.fr f9 (by omega)⟩, m5.fr f9 (by omega), m6.fr f9 (by omega), m7.fr f9 (by omega)⟩ (f9.wd (by omega) (by omega))
        | exact fin1 (by unfold s_first; (repeat (first | rw [if_pos (by omega)] | rw [if_neg (by omega)])); try rfl) hp Fr.rf

set_option maxHeartbeats 4000000 in
set_option maxRecDepth 20000 in
theorem c_Main_allIll (G : Gx) {h : AH} {o : Nat} {S : St} (hp : pMain h o S) (w : wSt S) : Ct G Y_Main_allIll 7 0 0 [aR o] h (fun v h' => v = some (aI (s_allIll S).1) ∧ pMain h' o (s_allIll S).2 ∧ Fr o (o + 73) h h') := by
  obtain ⟨m0, ⟨sg, sd, m1⟩, ⟨sg2, sd2, m2⟩, m3, ⟨es, ls, m4⟩, m5, m6, m7⟩ := id hp
  obtain ⟨k0, k1, k2⟩ := id m1
  have k3 := k1.1
  have j0 := m2.1
  obtain ⟨w1, w2, w3, w4, w5, w6, w7, w8⟩ := id w
  have wu := w1.up (by decide) (by decide)
  obtain ⟨fm, m8⟩ : ∃ fs, h.2 (o + 37) = some (aO 2 fs) := by obtain ⟨_, _, _, _, _, _, q⟩ := m3; exact ⟨_, q.1⟩
  refine Ct.of_V mo_Main_allIll rfl (Nat.le_of_ble_eq_true rfl) rfl ?_
  refine v_aload_n k_Main_allIll_0 rfl ?_
  refine v_getf fl_Main_12 m0 rfl k_Main_allIll_1 ?_
  refine v_callV mo_Canon_illsInAll mi_Canon_illsInAll mv_Canon_illsInAll lk_Main_159 k_Main_allIll_4 k0 rfl rfl (Nat.le_of_ble_eq_true rfl) rfl (Nat.le_of_ble_eq_true rfl) (c_Canon_illsInAll G m1 wu) (fun v4 h4 q4 => ?_)
  obtain ⟨rfl, sg9, sd9, q9, f9⟩ := q4
  refine v_ireturn k_Main_allIll_7 rfl rfl ?_
  first
    | (exfalso; omega)
    | exact fin1 (by unfold s_allIll; (repeat (first | rw [if_pos (by omega)] | rw [if_neg (by omega)])); try rfl) p9 (f9.wd (by omega) (by omega))
    | exact fin1 (by unfold s_allIll; (repeat (first | rw [if_pos (by omega)] | rw [if_neg (by omega)])); try rfl) ⟨f9.at hp.1 (by omega), ⟨sg9, sd9, q9⟩, ⟨sg2, sd2, m2.fr f9 (by omega)⟩, m3.fr f9 (by omega), ⟨es, ls, m4.fr f9 (by omega)⟩, m5.fr f9 (by omega), m6.fr f9 (by omega), m7.fr f9 (by omega)⟩ (f9.wd (by omega) (by omega))
    | exact fin1 (by unfold s_allIll; (repeat (first | rw [if_pos (by omega)] | rw [if_neg (by omega)])); try rfl) hp Fr.rf

set_option maxHeartbeats 4000000 in
set_option maxRecDepth 20000 in
theorem c_Main_silent (G : Gx) {h : AH} {o : Nat} {S : St} (hp : pMain h o S) (w : wSt S) : Ct G Y_Main_silent 7 0 0 [aR o] h (fun v h' => v = some (aI (s_silent S).1) ∧ pMain h' o (s_silent S).2 ∧ Fr o (o + 73) h h') := by
  obtain ⟨m0, ⟨sg, sd, m1⟩, ⟨sg2, sd2, m2⟩, m3, ⟨es, ls, m4⟩, m5, m6, m7⟩ := id hp
  obtain ⟨k0, k1, k2⟩ := id m1
  have k3 := k1.1
  have j0 := m2.1
  obtain ⟨w1, w2, w3, w4, w5, w6, w7, w8⟩ := id w
  have wu := w1.up (by decide) (by decide)
  obtain ⟨fm, m8⟩ : ∃ fs, h.2 (o + 37) = some (aO 2 fs) := by obtain ⟨_, _, _, _, _, _, q⟩ := m3; exact ⟨_, q.1⟩
  refine Ct.of_V mo_Main_silent rfl (Nat.le_of_ble_eq_true rfl) rfl ?_
  refine v_aload_n k_Main_silent_0 rfl ?_
  refine v_getf fl_Main_12 m0 rfl k_Main_silent_1 ?_
  refine v_callV mo_Canon_voicesInAllIlls mi_Canon_voicesInAllIlls mv_Canon_voicesInAllIlls lk_Main_169 k_Main_silent_4 k0 rfl rfl (Nat.le_of_ble_eq_true rfl) rfl (Nat.le_of_ble_eq_true rfl) (c_Canon_voicesInAllIlls G m1 wu) (fun v4 h4 q4 => ?_)
  obtain ⟨rfl, sg9, sd9, q9, f9⟩ := q4
  refine v_ireturn k_Main_silent_7 rfl rfl ?_
  first
    | (exfalso; omega)
    | exact fin1 (by unfold s_silent; (repeat (first | rw [if_pos (by omega)] | rw [if_neg (by omega)])); try rfl) p9 (f9.wd (by omega) (by omega))
    | exact fin1 (by unfold s_silent; (repeat (first | rw [if_pos (by omega)] | rw [if_neg (by omega)])); try rfl) ⟨f9.at hp.1 (by omega), ⟨sg9, sd9, q9⟩, ⟨sg2, sd2, m2.fr f9 (by omega)⟩, m3.fr f9 (by omega), ⟨es, ls, m4.fr f9 (by omega)⟩, m5.fr f9 (by omega), m6.fr f9 (by omega), m7.fr f9 (by omega)⟩ (f9.wd (by omega) (by omega))
    | exact fin1 (by unfold s_silent; (repeat (first | rw [if_pos (by omega)] | rw [if_neg (by omega)])); try rfl) hp Fr.rf

set_option maxHeartbeats 4000000 in
set_option maxRecDepth 20000 in
theorem c_Main_unison (G : Gx) {h : AH} {o : Nat} {S : St} (hp : pMain h o S) (w : wSt S) : Ct G Y_Main_unison 7 0 0 [aR o] h (fun v h' => v = some (aI (s_unison S).1) ∧ pMain h' o (s_unison S).2 ∧ Fr o (o + 73) h h') := by
  obtain ⟨m0, ⟨sg, sd, m1⟩, ⟨sg2, sd2, m2⟩, m3, ⟨es, ls, m4⟩, m5, m6, m7⟩ := id hp
  obtain ⟨k0, k1, k2⟩ := id m1
  have k3 := k1.1
  have j0 := m2.1
  obtain ⟨w1, w2, w3, w4, w5, w6, w7, w8⟩ := id w
  have wu := w1.up (by decide) (by decide)
  obtain ⟨fm, m8⟩ : ∃ fs, h.2 (o + 37) = some (aO 2 fs) := by obtain ⟨_, _, _, _, _, _, q⟩ := m3; exact ⟨_, q.1⟩
  refine Ct.of_V mo_Main_unison rfl (Nat.le_of_ble_eq_true rfl) rfl ?_
  refine v_aload_n k_Main_unison_0 rfl ?_
  refine v_getf fl_Main_12 m0 rfl k_Main_unison_1 ?_
  refine v_callV mo_Canon_unisonBeats mi_Canon_unisonBeats mv_Canon_unisonBeats lk_Main_206 k_Main_unison_4 k0 rfl rfl (Nat.le_of_ble_eq_true rfl) rfl (Nat.le_of_ble_eq_true rfl) (c_Canon_unisonBeats G m1 wu) (fun v4 h4 q4 => ?_)
  obtain ⟨rfl, sg9, sd9, q9, f9⟩ := q4
  refine v_ireturn k_Main_unison_7 rfl rfl ?_
  first
    | (exfalso; omega)
    | exact fin1 (by unfold s_unison; (repeat (first | rw [if_pos (by omega)] | rw [if_neg (by omega)])); try rfl) p9 (f9.wd (by omega) (by omega))
    | exact fin1 (by unfold s_unison; (repeat (first | rw [if_pos (by omega)] | rw [if_neg (by omega)])); try rfl) ⟨f9.at hp.1 (by omega), ⟨sg9, sd9, q9⟩, ⟨sg2, sd2, m2.fr f9 (by omega)⟩, m3.fr f9 (by omega), ⟨es, ls, m4.fr f9 (by omega)⟩, m5.fr f9 (by omega), m6.fr f9 (by omega), m7.fr f9 (by omega)⟩ (f9.wd (by omega) (by omega))
    | exact fin1 (by unfold s_unison; (repeat (first | rw [if_pos (by omega)] | rw [if_neg (by omega)])); try rfl) hp Fr.rf

set_option maxHeartbeats 4000000 in
set_option maxRecDepth 20000 in
theorem c_Main_stop (G : Gx) {h : AH} {o : Nat} {S : St} (hp : pMain h o S) (w : wSt S) {x : Int} (hx : InR x) : Ct G Y_Main_stop 4 0 0 [aR o, aI x] h (fun v h' => v = some (aI (s_stop S x).1) ∧ pMain h' o (s_stop S x).2 ∧ Fr o (o + 73) h h') := by
  obtain ⟨m0, ⟨sg, sd, m1⟩, ⟨sg2, sd2, m2⟩, m3, ⟨es, ls, m4⟩, m5, m6, m7⟩ := id hp
  obtain ⟨k0, k1, k2⟩ := id m1
  have k3 := k1.1
  have j0 := m2.1
  obtain ⟨w1, w2, w3, w4, w5, w6, w7, w8⟩ := id w
  have wu := w1.up (by decide) (by decide)
  obtain ⟨fm, m8⟩ : ∃ fs, h.2 (o + 37) = some (aO 2 fs) := by obtain ⟨_, _, _, _, _, _, q⟩ := m3; exact ⟨_, q.1⟩
  have ho := oS_spec x 0 400
  refine Ct.of_V mo_Main_stop rfl (Nat.le_of_ble_eq_true rfl) rfl ?_
  refine v_iload_n k_Main_stop_0 rfl ?_
  refine v_iconst k_Main_stop_1 ?_
  refine v_sipush k_Main_stop_2 (by decide) ?_
  refine v_callSr mo_Main_outside ms_Main_outside lk_Main_59 k_Main_stop_5 rfl (Nat.le_of_ble_eq_true rfl) rfl (Nat.le_of_ble_eq_true rfl) (c_Main_outside G (v := x) (l := 0) (m := 400) (by omega) (by omega) (by omega)) ?_
  refine v_istore_n k_Main_stop_8 ⟨Nat.le_of_ble_eq_true rfl, Nat.le_of_ble_eq_true rfl⟩ ?_
  refine v_iload_n k_Main_stop_9 rfl ?_
  refine v_ifeq 21 k_Main_stop_10 rfl (by omega) (fun c10 => ?_) (fun c10 => ?_)
  · refine v_aload_n k_Main_stop_21 rfl ?_
    refine v_getf fl_Main_12 m0 rfl k_Main_stop_22 ?_
    refine v_iload_n k_Main_stop_25 rfl ?_
    refine v_callVr mo_Canon_stillIfStoppedAt mi_Canon_stillIfStoppedAt mv_Canon_stillIfStoppedAt lk_Main_203 k_Main_stop_26 k0 rfl rfl (Nat.le_of_ble_eq_true rfl) rfl (Nat.le_of_ble_eq_true rfl) (c_Canon_stillIfStoppedAt G m1 wu (by omega)) ?_
    refine v_ireturn k_Main_stop_29 rfl rfl ?_
    first
      | (exfalso; omega)
      | exact fin1 (by unfold s_stop; (repeat (first | rw [if_pos (by omega)] | rw [if_neg (by omega)])); try rfl) p9 (f9.wd (by omega) (by omega))
      | exact fin1 (by unfold s_stop; (repeat (first | rw [if_pos (by omega)] | rw [if_neg (by omega)])); try rfl) ⟨f9.at hp.1 (by omega), ⟨sg9, sd9, q9⟩, ⟨sg2, sd2, m2.fr f9 (by omega)⟩, m3.fr f9 (by omega), ⟨es, ls, m4.fr f9 (by omega)⟩, m5.fr f9 (by omega), m6.fr f9 (by omega), m7.fr f9 (by omega)⟩ (f9.wd (by omega) (by omega))
      | exact fin1 (by unfold s_stop; (repeat (first | rw [if_pos (by omega)] | rw [if_neg (by omega)])); try rfl) hp Fr.rf
  · refine v_aload_n k_Main_stop_13 rfl ?_
    refine v_iload_n k_Main_stop_14 rfl ?_
    refine v_callV mo_Main_refuse mi_Main_refuse mv_Main_refuse lk_Main_67 k_Main_stop_15 m0 rfl rfl (Nat.le_of_ble_eq_true rfl) rfl (Nat.le_of_ble_eq_true rfl) (c_Main_refuse G hp w (by omega)) (fun v15 h15 q15 => ?_)
    obtain ⟨rfl, p9, f9⟩ := q15
    refine v_goto k_Main_stop_18 (tgt := 29) rfl ?_
    refine v_ireturn k_Main_stop_29 rfl rfl ?_
    first
      | (exfalso; omega)
      | exact fin1 (by unfold s_stop; (repeat (first | rw [if_pos (by omega)] | rw [if_neg (by omega)])); try rfl) p9 (f9.wd (by omega) (by omega))
      | exact fin1 (by unfold s_stop; (repeat (first | rw [if_pos (by omega)] | rw [if_neg (by omega)])); try rfl) ⟨f9.at hp.1 (by omega), ⟨sg9, sd9, q9⟩, ⟨sg2, sd2, m2.fr f9 (by omega)⟩, m3.fr f9 (by omega), ⟨es, ls, m4.fr f9 (by omega)⟩, m5.fr f9 (by omega), m6.fr f9 (by omega), m7.fr f9 (by omega)⟩ (f9.wd (by omega) (by omega))
      | exact fin1 (by unfold s_stop; (repeat (first | rw [if_pos (by omega)] | rw [if_neg (by omega)])); try rfl) hp Fr.rf

set_option maxHeartbeats 4000000 in
set_option maxRecDepth 20000 in
theorem c_Main_entries (G : Gx) {h : AH} {o : Nat} {S : St} (hp : pMain h o S) (w : wSt S) {n x : Int} (hn : InR n) (hx : InR x) : Ct G Y_Main_entries 8 0 0 [aR o, aI n, aI x] h (fun v h' => v = some (aI (s_entries S n x).1) ∧ pMain h' o (s_entries S n x).2 ∧ Fr o (o + 73) h h') := by
  obtain ⟨m0, ⟨sg, sd, m1⟩, ⟨sg2, sd2, m2⟩, m3, ⟨es, ls, m4⟩, m5, m6, m7⟩ := id hp
  obtain ⟨k0, k1, k2⟩ := id m1
  have k3 := k1.1
  have j0 := m2.1
  obtain ⟨w1, w2, w3, w4, w5, w6, w7, w8⟩ := id w
  have wu := w1.up (by decide) (by decide)
  obtain ⟨fm, m8⟩ : ∃ fs, h.2 (o + 37) = some (aO 2 fs) := by obtain ⟨_, _, _, _, _, _, q⟩ := m3; exact ⟨_, q.1⟩
  have ho := oS_spec x 0 9
  refine Ct.of_V mo_Main_entries rfl (Nat.le_of_ble_eq_true rfl) rfl ?_
  refine v_iload_n k_Main_entries_0 rfl ?_
  refine v_iflt 9 k_Main_entries_1 rfl (by omega) (fun c1 => ?_) (fun c1 => ?_)
  · refine v_bipush k_Main_entries_9 (by decide) ?_
    refine v_goto k_Main_entries_11 (tgt := 21) rfl ?_
    refine v_istore_n k_Main_entries_21 ⟨Nat.le_of_ble_eq_true rfl, Nat.le_of_ble_eq_true rfl⟩ ?_
    refine v_iload_n k_Main_entries_22 rfl ?_
    refine v_ifeq 34 k_Main_entries_23 rfl (by omega) (fun c23 => ?_) (fun c23 => ?_)
    · refine v_aload_n k_Main_entries_34 rfl ?_
      refine v_getf fl_Main_26 m0 rfl k_Main_entries_35 ?_
      refine v_aload_n k_Main_entries_38 rfl ?_
      refine v_getf fl_Main_12 m0 rfl k_Main_entries_39 ?_
      refine v_iload_n k_Main_entries_42 rfl ?_
      refine v_iload_n k_Main_entries_43 rfl ?_
      refine v_callV mo_Mind_agreeingEntries mi_Mind_agreeingEntries mv_Mind_agreeingEntries lk_Main_162 k_Main_entries_44 m8 rfl rfl (Nat.le_of_ble_eq_true rfl) rfl (Nat.le_of_ble_eq_true rfl) (c_Mind_agreeingEntries G m3 m1 w1 (by omega) (by omega) (by omega)) (fun v44 h44 q44 => ?_)
      obtain ⟨rfl, q9m, f9⟩ := q44
      refine v_ireturn k_Main_entries_47 rfl rfl ?_
      first
        | (exfalso; omega)
        | exact fin1 (by unfold s_entries; (repeat (first | rw [if_pos (by omega)] | rw [if_neg (by omega)])); try rfl) p9 (f9.wd (by omega) (by omega))
        | exact fin1 (by unfold s_entries; (repeat (first | rw [if_pos (by omega)] | rw [if_neg (by omega)])); try rfl) ⟨f9.at hp.1 (by omega), ⟨sg, sd, m1.fr f9 (by omega)⟩, ⟨sg2, sd2, m2.fr f9 (by omega)⟩, q9m, ⟨es, ls, m4.fr f9 (by omega)⟩, m5.fr f9 (by omega), m6.fr f9 (by omega), m7.fr f9 (by omega)⟩ (f9.wd (by omega) (by omega))
        | exact fin1 (by unfold s_entries; (repeat (first | rw [if_pos (by omega)] | rw [if_neg (by omega)])); try rfl) hp Fr.rf
    · refine v_aload_n k_Main_entries_26 rfl ?_
      refine v_iload_n k_Main_entries_27 rfl ?_
      refine v_callV mo_Main_refuse mi_Main_refuse mv_Main_refuse lk_Main_67 k_Main_entries_28 m0 rfl rfl (Nat.le_of_ble_eq_true rfl) rfl (Nat.le_of_ble_eq_true rfl) (c_Main_refuse G hp w (by omega)) (fun v28 h28 q28 => ?_)
      obtain ⟨rfl, p9, f9⟩ := q28
      refine v_goto k_Main_entries_31 (tgt := 47) rfl ?_
      refine v_ireturn k_Main_entries_47 rfl rfl ?_
      first
        | (exfalso; omega)
        | exact fin1 (by unfold s_entries; (repeat (first | rw [if_pos (by omega)] | rw [if_neg (by omega)])); try rfl) p9 (f9.wd (by omega) (by omega))
        | exact fin1 (by unfold s_entries; (repeat (first | rw [if_pos (by omega)] | rw [if_neg (by omega)])); try rfl) ⟨f9.at hp.1 (by omega), ⟨sg, sd, m1.fr f9 (by omega)⟩, ⟨sg2, sd2, m2.fr f9 (by omega)⟩, q9m, ⟨es, ls, m4.fr f9 (by omega)⟩, m5.fr f9 (by omega), m6.fr f9 (by omega), m7.fr f9 (by omega)⟩ (f9.wd (by omega) (by omega))
        | exact fin1 (by unfold s_entries; (repeat (first | rw [if_pos (by omega)] | rw [if_neg (by omega)])); try rfl) hp Fr.rf
  · refine v_iload_n k_Main_entries_4 rfl ?_
    refine v_iconst k_Main_entries_5 ?_
    refine v_icle 14 k_Main_entries_6 rfl (by omega) (by omega) (fun c6 => ?_) (fun c6 => ?_)
    · refine v_iload_n k_Main_entries_14 rfl ?_
      refine v_iconst k_Main_entries_15 ?_
      refine v_bipush k_Main_entries_16 (by decide) ?_
      refine v_callSr mo_Main_outside ms_Main_outside lk_Main_59 k_Main_entries_18 rfl (Nat.le_of_ble_eq_true rfl) rfl (Nat.le_of_ble_eq_true rfl) (c_Main_outside G (v := x) (l := 0) (m := 9) (by omega) (by omega) (by omega)) ?_
      refine v_istore_n k_Main_entries_21 ⟨Nat.le_of_ble_eq_true rfl, Nat.le_of_ble_eq_true rfl⟩ ?_
      refine v_iload_n k_Main_entries_22 rfl ?_
      refine v_ifeq 34 k_Main_entries_23 rfl (by omega) (fun c23 => ?_) (fun c23 => ?_)
      · refine v_aload_n k_Main_entries_34 rfl ?_
        refine v_getf fl_Main_26 m0 rfl k_Main_entries_35 ?_
        refine v_aload_n k_Main_entries_38 rfl ?_
        refine v_getf fl_Main_12 m0 rfl k_Main_entries_39 ?_
        refine v_iload_n k_Main_entries_42 rfl ?_
        refine v_iload_n k_Main_entries_43 rfl ?_
        refine v_callV mo_Mind_agreeingEntries mi_Mind_agreeingEntries mv_Mind_agreeingEntries lk_Main_162 k_Main_entries_44 m8 rfl rfl (Nat.le_of_ble_eq_true rfl) rfl (Nat.le_of_ble_eq_true rfl) (c_Mind_agreeingEntries G m3 m1 w1 (by omega) (by omega) (by omega)) (fun v44 h44 q44 => ?_)
        obtain ⟨rfl, q9m, f9⟩ := q44
        refine v_ireturn k_Main_entries_47 rfl rfl ?_
        first
          | (exfalso; omega)
          | exact fin1 (by unfold s_entries; (repeat (first | rw [if_pos (by omega)] | rw [if_neg (by omega)])); try rfl) p9 (f9.wd (by omega) (by omega))
          | exact fin1 (by unfold s_entries; (repeat (first | rw [if_pos (by omega)] | rw [if_neg (by omega)])); try rfl) ⟨f9.at hp.1 (by omega), ⟨sg, sd, m1.fr f9 (by omega)⟩, ⟨sg2, sd2, m2.fr f9 (by omega)⟩, q9m, ⟨es, ls, m4.fr f9 (by omega)⟩, m5.fr f9 (by omega), m6.fr f9 (by omega), m7.fr f9 (by omega)⟩ (f9.wd (by omega) (by omega))
          | exact fin1 (by unfold s_entries; (repeat (first | rw [if_pos (by omega)] | rw [if_neg (by omega)])); try rfl) hp Fr.rf
      · refine v_aload_n k_Main_entries_26 rfl ?_
        refine v_iload_n k_Main_entries_27 rfl ?_
        refine v_callV mo_Main_refuse mi_Main_refuse mv_Main_refuse lk_Main_67 k_Main_entries_28 m0 rfl rfl (Nat.le_of_ble_eq_true rfl) rfl (Nat.le_of_ble_eq_true rfl) (c_Main_refuse G hp w (by omega)) (fun v28 h28 q28 => ?_)
        obtain ⟨rfl, p9, f9⟩ := q28
        refine v_goto k_Main_entries_31 (tgt := 47) rfl ?_
        refine v_ireturn k_Main_entries_47 rfl rfl ?_
        first
          | (exfalso; omega)
          | exact fin1 (by unfold s_entries; (repeat (first | rw [if_pos (by omega)] | rw [if_neg (by omega)])); try rfl) p9 (f9.wd (by omega) (by omega))
          | exact fin1 (by unfold s_entries; (repeat (first | rw [if_pos (by omega)] | rw [if_neg (by omega)])); try rfl) ⟨f9.at hp.1 (by omega), ⟨sg, sd, m1.fr f9 (by omega)⟩, ⟨sg2, sd2, m2.fr f9 (by omega)⟩, q9m, ⟨es, ls, m4.fr f9 (by omega)⟩, m5.fr f9 (by omega), m6.fr f9 (by omega), m7.fr f9 (by omega)⟩ (f9.wd (by omega) (by omega))
          | exact fin1 (by unfold s_entries; (repeat (first | rw [if_pos (by omega)] | rw [if_neg (by omega)])); try rfl) hp Fr.rf
    · refine v_bipush k_Main_entries_9 (by decide) ?_
      refine v_goto k_Main_entries_11 (tgt := 21) rfl ?_
      refine v_istore_n k_Main_entries_21 ⟨Nat.le_of_ble_eq_true rfl, Nat.le_of_ble_eq_true rfl⟩ ?_
      refine v_iload_n k_Main_entries_22 rfl ?_
      refine v_ifeq 34 k_Main_entries_23 rfl (by omega) (fun c23 => ?_) (fun c23 => ?_)
      · refine v_aload_n k_Main_entries_34 rfl ?_
        refine v_getf fl_Main_26 m0 rfl k_Main_entries_35 ?_
        refine v_aload_n k_Main_entries_38 rfl ?_
        refine v_getf fl_Main_12 m0 rfl k_Main_entries_39 ?_
        refine v_iload_n k_Main_entries_42 rfl ?_
        refine v_iload_n k_Main_entries_43 rfl ?_
        refine v_callV mo_Mind_agreeingEntries mi_Mind_agreeingEntries mv_Mind_agreeingEntries lk_Main_162 k_Main_entries_44 m8 rfl rfl (Nat.le_of_ble_eq_true rfl) rfl (Nat.le_of_ble_eq_true rfl) (c_Mind_agreeingEntries G m3 m1 w1 (by omega) (by omega) (by omega)) (fun v44 h44 q44 => ?_)
        obtain ⟨rfl, q9m, f9⟩ := q44
        refine v_ireturn k_Main_entries_47 rfl rfl ?_
        first
          | (exfalso; omega)
          | exact fin1 (by unfold s_entries; (repeat (first | rw [if_pos (by omega)] | rw [if_neg (by omega)])); try rfl) p9 (f9.wd (by omega) (by omega))
          | exact fin1 (by unfold s_entries; (repeat (first | rw [if_pos (by omega)] | rw [if_neg (by omega)])); try rfl) ⟨f9.at hp.1 (by omega), ⟨sg, sd, m1.fr f9 (by omega)⟩, ⟨sg2, sd2, m2.fr f9 (by omega)⟩, q9m, ⟨es, ls, m4.fr f9 (by omega)⟩, m5.fr f9 (by omega), m6.fr f9 (by omega), m7.fr f9 (by omega)⟩ (f9.wd (by omega) (by omega))
          | exact fin1 (by unfold s_entries; (repeat (first | rw [if_pos (by omega)] | rw [if_neg (by omega)])); try rfl) hp Fr.rf
      · refine v_aload_n k_Main_entries_26 rfl ?_
        refine v_iload_n k_Main_entries_27 rfl ?_
        refine v_callV mo_Main_refuse mi_Main_refuse mv_Main_refuse lk_Main_67 k_Main_entries_28 m0 rfl rfl (Nat.le_of_ble_eq_true rfl) rfl (Nat.le_of_ble_eq_true rfl) (c_Main_refuse G hp w (by omega)) (fun v28 h28 q28 => ?_)
        obtain ⟨rfl, p9, f9⟩ := q28
        refine v_goto k_Main_entries_31 (tgt := 47) rfl ?_
        refine v_ireturn k_Main_entries_47 rfl rfl ?_
        first
          | (exfalso; omega)
          | exact fin1 (by unfold s_entries; (repeat (first | rw [if_pos (by omega)] | rw [if_neg (by omega)])); try rfl) p9 (f9.wd (by omega) (by omega))
          | exact fin1 (by unfold s_entries; (repeat (first | rw [if_pos (by omega)] | rw [if_neg (by omega)])); try rfl) ⟨f9.at hp.1 (by omega), ⟨sg, sd, m1.fr f9 (by omega)⟩, ⟨sg2, sd2, m2.fr f9 (by omega)⟩, q9m, ⟨es, ls, m4.fr f9 (by omega)⟩, m5.fr f9 (by omega), m6.fr f9 (by omega), m7.fr f9 (by omega)⟩ (f9.wd (by omega) (by omega))
          | exact fin1 (by unfold s_entries; (repeat (first | rw [if_pos (by omega)] | rw [if_neg (by omega)])); try rfl) hp Fr.rf

set_option maxHeartbeats 4000000 in
set_option maxRecDepth 20000 in
theorem c_Main_added (G : Gx) {h : AH} {o : Nat} {S : St} (hp : pMain h o S) (w : wSt S) (hcap : capOK (addN (nK S) 0 1)) : Ct G Y_Main_added 8 0 0 [aR o] h (fun v h' => v = some (aI (s_added S).1) ∧ pMain h' o (s_added S).2 ∧ Fr o (o + 73) h h') := by
  obtain ⟨m0, ⟨sg, sd, m1⟩, ⟨sg2, sd2, m2⟩, m3, ⟨es, ls, m4⟩, m5, m6, m7⟩ := id hp
  obtain ⟨k0, k1, k2⟩ := id m1
  have k3 := k1.1
  have j0 := m2.1
  obtain ⟨w1, w2, w3, w4, w5, w6, w7, w8⟩ := id w
  have wu := w1.up (by decide) (by decide)
  obtain ⟨fm, m8⟩ : ∃ fs, h.2 (o + 37) = some (aO 2 fs) := by obtain ⟨_, _, _, _, _, _, q⟩ := m3; exact ⟨_, q.1⟩
  refine Ct.of_V mo_Main_added rfl (Nat.le_of_ble_eq_true rfl) rfl ?_
  refine v_aload_n k_Main_added_0 rfl ?_
  refine v_getf fl_Main_26 m0 rfl k_Main_added_1 ?_
  refine v_aload_n k_Main_added_4 rfl ?_
  refine v_getf fl_Main_12 m0 rfl k_Main_added_5 ?_
  refine v_callV mo_Mind_addablePitches mi_Mind_addablePitches mv_Mind_addablePitches lk_Main_166 k_Main_added_8 m8 rfl rfl (Nat.le_of_ble_eq_true rfl) rfl (Nat.le_of_ble_eq_true rfl) (c_Mind_addablePitches G m3 m1 w1 (by omega) hcap) (fun v8 h8 q8 => ?_)
  obtain ⟨rfl, q9m, f9⟩ := q8
  refine v_ireturn k_Main_added_11 rfl rfl ?_
  first
    | (exfalso; omega)
    | exact fin1 (by unfold s_added; (repeat (first | rw [if_pos (by omega)] | rw [if_neg (by omega)])); try rfl) p9 (f9.wd (by omega) (by omega))
    | exact fin1 (by unfold s_added; (repeat (first | rw [if_pos (by omega)] | rw [if_neg (by omega)])); try rfl) ⟨f9.at hp.1 (by omega), ⟨sg, sd, m1.fr f9 (by omega)⟩, ⟨sg2, sd2, m2.fr f9 (by omega)⟩, q9m, ⟨es, ls, m4.fr f9 (by omega)⟩, m5.fr f9 (by omega), m6.fr f9 (by omega), m7.fr f9 (by omega)⟩ (f9.wd (by omega) (by omega))
    | exact fin1 (by unfold s_added; (repeat (first | rw [if_pos (by omega)] | rw [if_neg (by omega)])); try rfl) hp Fr.rf

set_option maxHeartbeats 4000000 in
set_option maxRecDepth 20000 in
theorem c_Main_better (G : Gx) {h : AH} {o : Nat} {S : St} (hp : pMain h o S) (w : wSt S) (hcap : capOK (nK S)) : Ct G Y_Main_better 8 0 0 [aR o] h (fun v h' => v = some (aI (s_better S).1) ∧ pMain h' o (s_better S).2 ∧ Fr o (o + 73) h h') := by
  obtain ⟨m0, ⟨sg, sd, m1⟩, ⟨sg2, sd2, m2⟩, m3, ⟨es, ls, m4⟩, m5, m6, m7⟩ := id hp
  obtain ⟨k0, k1, k2⟩ := id m1
  have k3 := k1.1
  have j0 := m2.1
  obtain ⟨w1, w2, w3, w4, w5, w6, w7, w8⟩ := id w
  have wu := w1.up (by decide) (by decide)
  obtain ⟨fm, m8⟩ : ∃ fs, h.2 (o + 37) = some (aO 2 fs) := by obtain ⟨_, _, _, _, _, _, q⟩ := m3; exact ⟨_, q.1⟩
  refine Ct.of_V mo_Main_better rfl (Nat.le_of_ble_eq_true rfl) rfl ?_
  refine v_aload_n k_Main_better_0 rfl ?_
  refine v_getf fl_Main_26 m0 rfl k_Main_better_1 ?_
  refine v_aload_n k_Main_better_4 rfl ?_
  refine v_getf fl_Main_12 m0 rfl k_Main_better_5 ?_
  refine v_callV mo_Mind_leastIlls mi_Mind_leastIlls mv_Mind_leastIlls lk_Main_178 k_Main_better_8 m8 rfl rfl (Nat.le_of_ble_eq_true rfl) rfl (Nat.le_of_ble_eq_true rfl) (c_Mind_leastIlls G m3 m1 w1 (by omega) hcap) (fun v8 h8 q8 => ?_)
  obtain ⟨rfl, q9m, f9⟩ := q8
  refine v_ireturn k_Main_better_11 rfl rfl ?_
  first
    | (exfalso; omega)
    | exact fin1 (by unfold s_better; (repeat (first | rw [if_pos (by omega)] | rw [if_neg (by omega)])); try rfl) p9 (f9.wd (by omega) (by omega))
    | exact fin1 (by unfold s_better; (repeat (first | rw [if_pos (by omega)] | rw [if_neg (by omega)])); try rfl) ⟨f9.at hp.1 (by omega), ⟨sg, sd, m1.fr f9 (by omega)⟩, ⟨sg2, sd2, m2.fr f9 (by omega)⟩, q9m, ⟨es, ls, m4.fr f9 (by omega)⟩, m5.fr f9 (by omega), m6.fr f9 (by omega), m7.fr f9 (by omega)⟩ (f9.wd (by omega) (by omega))
    | exact fin1 (by unfold s_better; (repeat (first | rw [if_pos (by omega)] | rw [if_neg (by omega)])); try rfl) hp Fr.rf

set_option maxHeartbeats 4000000 in
set_option maxRecDepth 20000 in
theorem c_Main_seeds (G : Gx) {h : AH} {o : Nat} {S : St} (hp : pMain h o S) (w : wSt S) {n x : Int} (hn : InR n) (hx : InR x) (hcap : capOK (nK S)) : Ct G Y_Main_seeds 8 0 0 [aR o, aI n, aI x] h (fun v h' => v = some (aI (s_seeds S n x).1) ∧ pMain h' o (s_seeds S n x).2 ∧ Fr o (o + 73) h h') := by
  obtain ⟨m0, ⟨sg, sd, m1⟩, ⟨sg2, sd2, m2⟩, m3, ⟨es, ls, m4⟩, m5, m6, m7⟩ := id hp
  obtain ⟨k0, k1, k2⟩ := id m1
  have k3 := k1.1
  have j0 := m2.1
  obtain ⟨w1, w2, w3, w4, w5, w6, w7, w8⟩ := id w
  have wu := w1.up (by decide) (by decide)
  obtain ⟨fm, m8⟩ : ∃ fs, h.2 (o + 37) = some (aO 2 fs) := by obtain ⟨_, _, _, _, _, _, q⟩ := m3; exact ⟨_, q.1⟩
  have ho := oS_spec n 1 20
  refine Ct.of_V mo_Main_seeds rfl (Nat.le_of_ble_eq_true rfl) rfl ?_
  refine v_iload_n k_Main_seeds_0 rfl ?_
  refine v_iconst k_Main_seeds_1 ?_
  refine v_bipush k_Main_seeds_2 (by decide) ?_
  refine v_callSr mo_Main_outside ms_Main_outside lk_Main_59 k_Main_seeds_4 rfl (Nat.le_of_ble_eq_true rfl) rfl (Nat.le_of_ble_eq_true rfl) (c_Main_outside G (v := n) (l := 1) (m := 20) (by omega) (by omega) (by omega)) ?_
  refine v_istore_n k_Main_seeds_7 ⟨Nat.le_of_ble_eq_true rfl, Nat.le_of_ble_eq_true rfl⟩ ?_
  refine v_iload_n k_Main_seeds_8 rfl ?_
  refine v_ifeq 20 k_Main_seeds_9 rfl (by omega) (fun c9 => ?_) (fun c9 => ?_)
  · refine v_aload_n k_Main_seeds_20 rfl ?_
    refine v_getf fl_Main_26 m0 rfl k_Main_seeds_21 ?_
    refine v_aload_n k_Main_seeds_24 rfl ?_
    refine v_getf fl_Main_12 m0 rfl k_Main_seeds_25 ?_
    refine v_iload_n k_Main_seeds_28 rfl ?_
    refine v_iload_n k_Main_seeds_29 rfl ?_
    refine v_callV mo_Mind_wellDraws mi_Mind_wellDraws mv_Mind_wellDraws lk_Main_218 k_Main_seeds_30 m8 rfl rfl (Nat.le_of_ble_eq_true rfl) rfl (Nat.le_of_ble_eq_true rfl) (c_Mind_wellDraws G m3 m1 w1 (by omega) hcap (by omega)) (fun v30 h30 q30 => ?_)
    obtain ⟨rfl, q9m, f9⟩ := q30
    refine v_ireturn k_Main_seeds_33 rfl rfl ?_
    first
      | (exfalso; omega)
      | exact fin1 (by unfold s_seeds; (repeat (first | rw [if_pos (by omega)] | rw [if_neg (by omega)])); try rfl) p9 (f9.wd (by omega) (by omega))
      | exact fin1 (by unfold s_seeds; (repeat (first | rw [if_pos (by omega)] | rw [if_neg (by omega)])); try rfl) ⟨f9.at hp.1 (by omega), ⟨sg, sd, m1.fr f9 (by omega)⟩, ⟨sg2, sd2, m2.fr f9 (by omega)⟩, q9m, ⟨es, ls, m4.fr f9 (by omega)⟩, m5.fr f9 (by omega), m6.fr f9 (by omega), m7.fr f9 (by omega)⟩ (f9.wd (by omega) (by omega))
      | exact fin1 (by unfold s_seeds; (repeat (first | rw [if_pos (by omega)] | rw [if_neg (by omega)])); try rfl) hp Fr.rf
  · refine v_aload_n k_Main_seeds_12 rfl ?_
    refine v_iload_n k_Main_seeds_13 rfl ?_
    refine v_callV mo_Main_refuse mi_Main_refuse mv_Main_refuse lk_Main_67 k_Main_seeds_14 m0 rfl rfl (Nat.le_of_ble_eq_true rfl) rfl (Nat.le_of_ble_eq_true rfl) (c_Main_refuse G hp w (by omega)) (fun v14 h14 q14 => ?_)
    obtain ⟨rfl, p9, f9⟩ := q14
    refine v_goto k_Main_seeds_17 (tgt := 33) rfl ?_
    refine v_ireturn k_Main_seeds_33 rfl rfl ?_
    first
      | (exfalso; omega)
      | exact fin1 (by unfold s_seeds; (repeat (first | rw [if_pos (by omega)] | rw [if_neg (by omega)])); try rfl) p9 (f9.wd (by omega) (by omega))
      | exact fin1 (by unfold s_seeds; (repeat (first | rw [if_pos (by omega)] | rw [if_neg (by omega)])); try rfl) ⟨f9.at hp.1 (by omega), ⟨sg, sd, m1.fr f9 (by omega)⟩, ⟨sg2, sd2, m2.fr f9 (by omega)⟩, q9m, ⟨es, ls, m4.fr f9 (by omega)⟩, m5.fr f9 (by omega), m6.fr f9 (by omega), m7.fr f9 (by omega)⟩ (f9.wd (by omega) (by omega))
      | exact fin1 (by unfold s_seeds; (repeat (first | rw [if_pos (by omega)] | rw [if_neg (by omega)])); try rfl) hp Fr.rf

set_option maxHeartbeats 4000000 in
set_option maxRecDepth 20000 in
theorem c_Main_mirror (G : Gx) {h : AH} {o : Nat} {S : St} (hp : pMain h o S) (w : wSt S) : Ct G Y_Main_mirror 3 0 0 [aR o] h (fun v h' => v = some (aI (s_mirror S).1) ∧ pMain h' o (s_mirror S).2 ∧ Fr o (o + 73) h h') := by
  obtain ⟨m0, ⟨sg, sd, m1⟩, ⟨sg2, sd2, m2⟩, m3, ⟨es, ls, m4⟩, m5, m6, m7⟩ := id hp
  obtain ⟨k0, k1, k2⟩ := id m1
  have k3 := k1.1
  have j0 := m2.1
  obtain ⟨w1, w2, w3, w4, w5, w6, w7, w8⟩ := id w
  have wu := w1.up (by decide) (by decide)
  obtain ⟨fm, m8⟩ : ∃ fs, h.2 (o + 37) = some (aO 2 fs) := by obtain ⟨_, _, _, _, _, _, q⟩ := m3; exact ⟨_, q.1⟩
  refine Ct.of_V mo_Main_mirror rfl (Nat.le_of_ble_eq_true rfl) rfl ?_
  by_cases hc : mrF (kP (nK S)) (kL (nK S)) ((bt (nK S) : Int) - 1) 40 0 = true
  · skip
    refine v_aload_n k_Main_mirror_0 rfl ?_
    refine v_getf fl_Main_12 m0 rfl k_Main_mirror_1 ?_
    refine v_getf fl_Main_91 k0 rfl k_Main_mirror_4 ?_
    refine v_callVr mo_Tune_isMirror mi_Tune_isMirror mv_Tune_isMirror lk_Main_181 k_Main_mirror_7 k3 rfl rfl (Nat.le_of_ble_eq_true rfl) rfl (Nat.le_of_ble_eq_true rfl) ((by have q := (c_Tune_isMirror G k1 (by rw [← w1.1]; have := w1.2.1; omega) w1.2.2.2.2.1 w1.2.2.1); rw [show ((nob (kL (nK S))).length : Int) = (bt (nK S) : Int) from rfl, if_pos hc] at q; exact q)) ?_
    refine v_ifeq 17 k_Main_mirror_10 rfl (by omega) (fun c10 => ?_) (fun c10 => ?_)
    · refine v_iconst k_Main_mirror_17 ?_
      refine v_ireturn k_Main_mirror_18 rfl rfl ?_
      first
        | (exfalso; omega)
        | exact fin1 (by unfold s_mirror; first | rw [if_pos hc] | rw [if_neg hc]) hp Fr.rf
    · refine v_iconst k_Main_mirror_13 ?_
      refine v_goto k_Main_mirror_14 (tgt := 18) rfl ?_
      refine v_ireturn k_Main_mirror_18 rfl rfl ?_
      first
        | (exfalso; omega)
        | exact fin1 (by unfold s_mirror; first | rw [if_pos hc] | rw [if_neg hc]) hp Fr.rf
  · skip
    refine v_aload_n k_Main_mirror_0 rfl ?_
    refine v_getf fl_Main_12 m0 rfl k_Main_mirror_1 ?_
    refine v_getf fl_Main_91 k0 rfl k_Main_mirror_4 ?_
    refine v_callVr mo_Tune_isMirror mi_Tune_isMirror mv_Tune_isMirror lk_Main_181 k_Main_mirror_7 k3 rfl rfl (Nat.le_of_ble_eq_true rfl) rfl (Nat.le_of_ble_eq_true rfl) ((by have q := (c_Tune_isMirror G k1 (by rw [← w1.1]; have := w1.2.1; omega) w1.2.2.2.2.1 w1.2.2.1); rw [show ((nob (kL (nK S))).length : Int) = (bt (nK S) : Int) from rfl, if_neg hc] at q; exact q)) ?_
    refine v_ifeq 17 k_Main_mirror_10 rfl (by omega) (fun c10 => ?_) (fun c10 => ?_)
    · refine v_iconst k_Main_mirror_17 ?_
      refine v_ireturn k_Main_mirror_18 rfl rfl ?_
      first
        | (exfalso; omega)
        | exact fin1 (by unfold s_mirror; first | rw [if_pos hc] | rw [if_neg hc]) hp Fr.rf
    · refine v_iconst k_Main_mirror_13 ?_
      refine v_goto k_Main_mirror_14 (tgt := 18) rfl ?_
      refine v_ireturn k_Main_mirror_18 rfl rfl ?_
      first
        | (exfalso; omega)
        | exact fin1 (by unfold s_mirror; first | rw [if_pos hc] | rw [if_neg hc]) hp Fr.rf

set_option maxHeartbeats 4000000 in
set_option maxRecDepth 20000 in
theorem c_Main_range (G : Gx) {h : AH} {o : Nat} {S : St} (hp : pMain h o S) (w : wSt S) {n x : Int} (hn : InR n) (hx : InR x) : Ct G Y_Main_range 5 0 0 [aR o, aI n, aI x] h (fun v h' => v = some (aI (s_range S n x).1) ∧ pMain h' o (s_range S n x).2 ∧ Fr o (o + 73) h h') := by
  obtain ⟨m0, ⟨sg, sd, m1⟩, ⟨sg2, sd2, m2⟩, m3, ⟨es, ls, m4⟩, m5, m6, m7⟩ := id hp
  obtain ⟨k0, k1, k2⟩ := id m1
  have k3 := k1.1
  have j0 := m2.1
  obtain ⟨w1, w2, w3, w4, w5, w6, w7, w8⟩ := id w
  have wu := w1.up (by decide) (by decide)
  obtain ⟨fm, m8⟩ : ∃ fs, h.2 (o + 37) = some (aO 2 fs) := by obtain ⟨_, _, _, _, _, _, q⟩ := m3; exact ⟨_, q.1⟩
  refine Ct.of_V mo_Main_range rfl (Nat.le_of_ble_eq_true rfl) rfl ?_
  by_cases hc : 0 ≤ n ∧ n < (kK (nK S)).length
  · skip
    refine v_aload_n k_Main_range_0 rfl ?_
    refine v_getf fl_Main_12 m0 rfl k_Main_range_1 ?_
    refine v_iload_n k_Main_range_4 rfl ?_
    refine v_callVr mo_Canon_hasVoice mi_Canon_hasVoice mv_Canon_hasVoice lk_Main_110 k_Main_range_5 k0 rfl rfl (Nat.le_of_ble_eq_true rfl) rfl (Nat.le_of_ble_eq_true rfl) ((by have q := c_Canon_hasVoice G m1 (v := n) (by omega); rw [if_pos hc] at q; exact q)) ?_
    refine v_ifne 15 k_Main_range_8 rfl (by omega) (fun c8 => ?_) (fun c8 => ?_)
    · refine v_iload_n k_Main_range_15 rfl ?_
      refine v_ifeq 29 k_Main_range_16 rfl (by omega) (fun c16 => ?_) (fun c16 => ?_)
      · refine v_iconst k_Main_range_29 ?_
        refine v_istore_n k_Main_range_30 ⟨Nat.le_of_ble_eq_true rfl, Nat.le_of_ble_eq_true rfl⟩ ?_
        refine v_iload_n k_Main_range_31 rfl ?_
        refine v_ifeq 44 k_Main_range_32 rfl (by omega) (fun c32 => ?_) (fun c32 => ?_)
        · refine v_aload_n k_Main_range_44 rfl ?_
          refine v_getf fl_Main_12 m0 rfl k_Main_range_45 ?_
          refine v_iload_n k_Main_range_48 rfl ?_
          refine v_iload_n k_Main_range_49 rfl ?_
          refine v_iconst k_Main_range_50 ?_
          refine v_icne 58 k_Main_range_51 rfl (by omega) (by omega) (fun c51 => ?_) (fun c51 => ?_)
          · have hx1 : x = 0 := by omega
            subst hx1
            refine v_iconst k_Main_range_58 ?_
            refine v_callVr mo_Canon_farthestSound mi_Canon_farthestSound mv_Canon_farthestSound lk_Main_199 k_Main_range_59 k0 rfl rfl (Nat.le_of_ble_eq_true rfl) rfl (Nat.le_of_ble_eq_true rfl) (c_Canon_farthestSound G m1 wu hn (by omega)) ?_
            refine v_ireturn k_Main_range_62 rfl rfl ?_
            first
              | (exfalso; omega)
              | exact fin1 (by unfold s_range; (repeat (first | rw [if_pos (by omega)] | rw [if_neg (by omega)])); try rfl) p9 (f9.wd (by omega) (by omega))
              | exact fin1 (by unfold s_range; (repeat (first | rw [if_pos (by omega)] | rw [if_neg (by omega)])); try rfl) ⟨f9.at hp.1 (by omega), ⟨sg9, sd9, q9⟩, ⟨sg2, sd2, m2.fr f9 (by omega)⟩, m3.fr f9 (by omega), ⟨es, ls, m4.fr f9 (by omega)⟩, m5.fr f9 (by omega), m6.fr f9 (by omega), m7.fr f9 (by omega)⟩ (f9.wd (by omega) (by omega))
              | exact fin1 (by unfold s_range; (repeat (first | rw [if_pos (by omega)] | rw [if_neg (by omega)])); try rfl) hp Fr.rf
          · have hx1 : x = 1 := by omega
            subst hx1
            refine v_iconst k_Main_range_54 ?_
            refine v_goto k_Main_range_55 (tgt := 59) rfl ?_
            refine v_callVr mo_Canon_farthestSound mi_Canon_farthestSound mv_Canon_farthestSound lk_Main_199 k_Main_range_59 k0 rfl rfl (Nat.le_of_ble_eq_true rfl) rfl (Nat.le_of_ble_eq_true rfl) (c_Canon_farthestSound G m1 wu hn (by omega)) ?_
            refine v_ireturn k_Main_range_62 rfl rfl ?_
            first
              | (exfalso; omega)
              | exact fin1 (by unfold s_range; (repeat (first | rw [if_pos (by omega)] | rw [if_neg (by omega)])); try rfl) p9 (f9.wd (by omega) (by omega))
              | exact fin1 (by unfold s_range; (repeat (first | rw [if_pos (by omega)] | rw [if_neg (by omega)])); try rfl) ⟨f9.at hp.1 (by omega), ⟨sg9, sd9, q9⟩, ⟨sg2, sd2, m2.fr f9 (by omega)⟩, m3.fr f9 (by omega), ⟨es, ls, m4.fr f9 (by omega)⟩, m5.fr f9 (by omega), m6.fr f9 (by omega), m7.fr f9 (by omega)⟩ (f9.wd (by omega) (by omega))
              | exact fin1 (by unfold s_range; (repeat (first | rw [if_pos (by omega)] | rw [if_neg (by omega)])); try rfl) hp Fr.rf
        · refine v_ldc (x := 1000000000) cn_Main_145 k_Main_range_35 (by decide) ?_
          refine v_aload_n k_Main_range_37 rfl ?_
          refine v_iload_n k_Main_range_38 rfl ?_
          refine v_callV mo_Main_refuse mi_Main_refuse mv_Main_refuse lk_Main_67 k_Main_range_39 m0 rfl rfl (Nat.le_of_ble_eq_true rfl) rfl (Nat.le_of_ble_eq_true rfl) (c_Main_refuse G hp w (by omega)) (fun v39 h39 q39 => ?_)
          obtain ⟨rfl, p9, f9⟩ := q39
          refine v_isub k_Main_range_42 ?_
          refine v_ireturn k_Main_range_43 rfl rfl ?_
          first
            | (exfalso; omega)
            | exact fin1 (by unfold s_range; (repeat (first | rw [if_pos (by omega)] | rw [if_neg (by omega)])); try rfl) p9 (f9.wd (by omega) (by omega))
            | exact fin1 (by unfold s_range; (repeat (first | rw [if_pos (by omega)] | rw [if_neg (by omega)])); try rfl) ⟨f9.at hp.1 (by omega), ⟨sg9, sd9, q9⟩, ⟨sg2, sd2, m2.fr f9 (by omega)⟩, m3.fr f9 (by omega), ⟨es, ls, m4.fr f9 (by omega)⟩, m5.fr f9 (by omega), m6.fr f9 (by omega), m7.fr f9 (by omega)⟩ (f9.wd (by omega) (by omega))
            | exact fin1 (by unfold s_range; (repeat (first | rw [if_pos (by omega)] | rw [if_neg (by omega)])); try rfl) hp Fr.rf
      · refine v_iload_n k_Main_range_19 rfl ?_
        refine v_iconst k_Main_range_20 ?_
        refine v_iceq 29 k_Main_range_21 rfl (by omega) (by omega) (fun c21 => ?_) (fun c21 => ?_)
        · refine v_iconst k_Main_range_29 ?_
          refine v_istore_n k_Main_range_30 ⟨Nat.le_of_ble_eq_true rfl, Nat.le_of_ble_eq_true rfl⟩ ?_
          refine v_iload_n k_Main_range_31 rfl ?_
          refine v_ifeq 44 k_Main_range_32 rfl (by omega) (fun c32 => ?_) (fun c32 => ?_)
          · refine v_aload_n k_Main_range_44 rfl ?_
            refine v_getf fl_Main_12 m0 rfl k_Main_range_45 ?_
            refine v_iload_n k_Main_range_48 rfl ?_
            refine v_iload_n k_Main_range_49 rfl ?_
            refine v_iconst k_Main_range_50 ?_
            refine v_icne 58 k_Main_range_51 rfl (by omega) (by omega) (fun c51 => ?_) (fun c51 => ?_)
            · have hx1 : x = 0 := by omega
              subst hx1
              refine v_iconst k_Main_range_58 ?_
              refine v_callVr mo_Canon_farthestSound mi_Canon_farthestSound mv_Canon_farthestSound lk_Main_199 k_Main_range_59 k0 rfl rfl (Nat.le_of_ble_eq_true rfl) rfl (Nat.le_of_ble_eq_true rfl) (c_Canon_farthestSound G m1 wu hn (by omega)) ?_
              refine v_ireturn k_Main_range_62 rfl rfl ?_
              first
                | (exfalso; omega)
                | exact fin1 (by unfold s_range; (repeat (first | rw [if_pos (by omega)] | rw [if_neg (by omega)])); try rfl) p9 (f9.wd (by omega) (by omega))
                | exact fin1 (by unfold s_range; (repeat (first | rw [if_pos (by omega)] | rw [if_neg (by omega)])); try rfl) ⟨f9.at hp.1 (by omega), ⟨sg9, sd9, q9⟩, ⟨sg2, sd2, m2.fr f9 (by omega)⟩, m3.fr f9 (by omega), ⟨es, ls, m4.fr f9 (by omega)⟩, m5.fr f9 (by omega), m6.fr f9 (by omega), m7.fr f9 (by omega)⟩ (f9.wd (by omega) (by omega))
                | exact fin1 (by unfold s_range; (repeat (first | rw [if_pos (by omega)] | rw [if_neg (by omega)])); try rfl) hp Fr.rf
            · have hx1 : x = 1 := by omega
              subst hx1
              refine v_iconst k_Main_range_54 ?_
              refine v_goto k_Main_range_55 (tgt := 59) rfl ?_
              refine v_callVr mo_Canon_farthestSound mi_Canon_farthestSound mv_Canon_farthestSound lk_Main_199 k_Main_range_59 k0 rfl rfl (Nat.le_of_ble_eq_true rfl) rfl (Nat.le_of_ble_eq_true rfl) (c_Canon_farthestSound G m1 wu hn (by omega)) ?_
              refine v_ireturn k_Main_range_62 rfl rfl ?_
              first
                | (exfalso; omega)
                | exact fin1 (by unfold s_range; (repeat (first | rw [if_pos (by omega)] | rw [if_neg (by omega)])); try rfl) p9 (f9.wd (by omega) (by omega))
                | exact fin1 (by unfold s_range; (repeat (first | rw [if_pos (by omega)] | rw [if_neg (by omega)])); try rfl) ⟨f9.at hp.1 (by omega), ⟨sg9, sd9, q9⟩, ⟨sg2, sd2, m2.fr f9 (by omega)⟩, m3.fr f9 (by omega), ⟨es, ls, m4.fr f9 (by omega)⟩, m5.fr f9 (by omega), m6.fr f9 (by omega), m7.fr f9 (by omega)⟩ (f9.wd (by omega) (by omega))
                | exact fin1 (by unfold s_range; (repeat (first | rw [if_pos (by omega)] | rw [if_neg (by omega)])); try rfl) hp Fr.rf
          · refine v_ldc (x := 1000000000) cn_Main_145 k_Main_range_35 (by decide) ?_
            refine v_aload_n k_Main_range_37 rfl ?_
            refine v_iload_n k_Main_range_38 rfl ?_
            refine v_callV mo_Main_refuse mi_Main_refuse mv_Main_refuse lk_Main_67 k_Main_range_39 m0 rfl rfl (Nat.le_of_ble_eq_true rfl) rfl (Nat.le_of_ble_eq_true rfl) (c_Main_refuse G hp w (by omega)) (fun v39 h39 q39 => ?_)
            obtain ⟨rfl, p9, f9⟩ := q39
            refine v_isub k_Main_range_42 ?_
            refine v_ireturn k_Main_range_43 rfl rfl ?_
            first
              | (exfalso; omega)
              | exact fin1 (by unfold s_range; (repeat (first | rw [if_pos (by omega)] | rw [if_neg (by omega)])); try rfl) p9 (f9.wd (by omega) (by omega))
              | exact fin1 (by unfold s_range; (repeat (first | rw [if_pos (by omega)] | rw [if_neg (by omega)])); try rfl) ⟨f9.at hp.1 (by omega), ⟨sg9, sd9, q9⟩, ⟨sg2, sd2, m2.fr f9 (by omega)⟩, m3.fr f9 (by omega), ⟨es, ls, m4.fr f9 (by omega)⟩, m5.fr f9 (by omega), m6.fr f9 (by omega), m7.fr f9 (by omega)⟩ (f9.wd (by omega) (by omega))
              | exact fin1 (by unfold s_range; (repeat (first | rw [if_pos (by omega)] | rw [if_neg (by omega)])); try rfl) hp Fr.rf
        · refine v_bipush k_Main_range_24 (by decide) ?_
          refine v_goto k_Main_range_26 (tgt := 30) rfl ?_
          refine v_istore_n k_Main_range_30 ⟨Nat.le_of_ble_eq_true rfl, Nat.le_of_ble_eq_true rfl⟩ ?_
          refine v_iload_n k_Main_range_31 rfl ?_
          refine v_ifeq 44 k_Main_range_32 rfl (by omega) (fun c32 => ?_) (fun c32 => ?_)
          · refine v_aload_n k_Main_range_44 rfl ?_
            refine v_getf fl_Main_12 m0 rfl k_Main_range_45 ?_
            refine v_iload_n k_Main_range_48 rfl ?_
            refine v_iload_n k_Main_range_49 rfl ?_
            refine v_iconst k_Main_range_50 ?_
            refine v_icne 58 k_Main_range_51 rfl (by omega) (by omega) (fun c51 => ?_) (fun c51 => ?_)
            · have hx1 : x = 0 := by omega
              subst hx1
              refine v_iconst k_Main_range_58 ?_
              refine v_callVr mo_Canon_farthestSound mi_Canon_farthestSound mv_Canon_farthestSound lk_Main_199 k_Main_range_59 k0 rfl rfl (Nat.le_of_ble_eq_true rfl) rfl (Nat.le_of_ble_eq_true rfl) (c_Canon_farthestSound G m1 wu hn (by omega)) ?_
              refine v_ireturn k_Main_range_62 rfl rfl ?_
              first
                | (exfalso; omega)
                | exact fin1 (by unfold s_range; (repeat (first | rw [if_pos (by omega)] | rw [if_neg (by omega)])); try rfl) p9 (f9.wd (by omega) (by omega))
                | exact fin1 (by unfold s_range; (repeat (first | rw [if_pos (by omega)] | rw [if_neg (by omega)])); try rfl) ⟨f9.at hp.1 (by omega), ⟨sg9, sd9, q9⟩, ⟨sg2, sd2, m2.fr f9 (by omega)⟩, m3.fr f9 (by omega), ⟨es, ls, m4.fr f9 (by omega)⟩, m5.fr f9 (by omega), m6.fr f9 (by omega), m7.fr f9 (by omega)⟩ (f9.wd (by omega) (by omega))
                | exact fin1 (by unfold s_range; (repeat (first | rw [if_pos (by omega)] | rw [if_neg (by omega)])); try rfl) hp Fr.rf
            · have hx1 : x = 1 := by omega
              subst hx1
              refine v_iconst k_Main_range_54 ?_
              refine v_goto k_Main_range_55 (tgt := 59) rfl ?_
              refine v_callVr mo_Canon_farthestSound mi_Canon_farthestSound mv_Canon_farthestSound lk_Main_199 k_Main_range_59 k0 rfl rfl (Nat.le_of_ble_eq_true rfl) rfl (Nat.le_of_ble_eq_true rfl) (c_Canon_farthestSound G m1 wu hn (by omega)) ?_
              refine v_ireturn k_Main_range_62 rfl rfl ?_
              first
                | (exfalso; omega)
                | exact fin1 (by unfold s_range; (repeat (first | rw [if_pos (by omega)] | rw [if_neg (by omega)])); try rfl) p9 (f9.wd (by omega) (by omega))
                | exact fin1 (by unfold s_range; (repeat (first | rw [if_pos (by omega)] | rw [if_neg (by omega)])); try rfl) ⟨f9.at hp.1 (by omega), ⟨sg9, sd9, q9⟩, ⟨sg2, sd2, m2.fr f9 (by omega)⟩, m3.fr f9 (by omega), ⟨es, ls, m4.fr f9 (by omega)⟩, m5.fr f9 (by omega), m6.fr f9 (by omega), m7.fr f9 (by omega)⟩ (f9.wd (by omega) (by omega))
                | exact fin1 (by unfold s_range; (repeat (first | rw [if_pos (by omega)] | rw [if_neg (by omega)])); try rfl) hp Fr.rf
          · refine v_ldc (x := 1000000000) cn_Main_145 k_Main_range_35 (by decide) ?_
            refine v_aload_n k_Main_range_37 rfl ?_
            refine v_iload_n k_Main_range_38 rfl ?_
            refine v_callV mo_Main_refuse mi_Main_refuse mv_Main_refuse lk_Main_67 k_Main_range_39 m0 rfl rfl (Nat.le_of_ble_eq_true rfl) rfl (Nat.le_of_ble_eq_true rfl) (c_Main_refuse G hp w (by omega)) (fun v39 h39 q39 => ?_)
            obtain ⟨rfl, p9, f9⟩ := q39
            refine v_isub k_Main_range_42 ?_
            refine v_ireturn k_Main_range_43 rfl rfl ?_
            first
              | (exfalso; omega)
              | exact fin1 (by unfold s_range; (repeat (first | rw [if_pos (by omega)] | rw [if_neg (by omega)])); try rfl) p9 (f9.wd (by omega) (by omega))
              | exact fin1 (by unfold s_range; (repeat (first | rw [if_pos (by omega)] | rw [if_neg (by omega)])); try rfl) ⟨f9.at hp.1 (by omega), ⟨sg9, sd9, q9⟩, ⟨sg2, sd2, m2.fr f9 (by omega)⟩, m3.fr f9 (by omega), ⟨es, ls, m4.fr f9 (by omega)⟩, m5.fr f9 (by omega), m6.fr f9 (by omega), m7.fr f9 (by omega)⟩ (f9.wd (by omega) (by omega))
              | exact fin1 (by unfold s_range; (repeat (first | rw [if_pos (by omega)] | rw [if_neg (by omega)])); try rfl) hp Fr.rf
    · refine v_iconst k_Main_range_11 ?_
      refine v_goto k_Main_range_12 (tgt := 30) rfl ?_
      refine v_istore_n k_Main_range_30 ⟨Nat.le_of_ble_eq_true rfl, Nat.le_of_ble_eq_true rfl⟩ ?_
      refine v_iload_n k_Main_range_31 rfl ?_
      refine v_ifeq 44 k_Main_range_32 rfl (by omega) (fun c32 => ?_) (fun c32 => ?_)
      · refine v_aload_n k_Main_range_44 rfl ?_
        refine v_getf fl_Main_12 m0 rfl k_Main_range_45 ?_
        refine v_iload_n k_Main_range_48 rfl ?_
        refine v_iload_n k_Main_range_49 rfl ?_
        refine v_iconst k_Main_range_50 ?_
        refine v_icne 58 k_Main_range_51 rfl (by omega) (by omega) (fun c51 => ?_) (fun c51 => ?_)
        · have hx1 : x = 0 := by omega
          subst hx1
          refine v_iconst k_Main_range_58 ?_
          refine v_callVr mo_Canon_farthestSound mi_Canon_farthestSound mv_Canon_farthestSound lk_Main_199 k_Main_range_59 k0 rfl rfl (Nat.le_of_ble_eq_true rfl) rfl (Nat.le_of_ble_eq_true rfl) (c_Canon_farthestSound G m1 wu hn (by omega)) ?_
          refine v_ireturn k_Main_range_62 rfl rfl ?_
          first
            | (exfalso; omega)
            | exact fin1 (by unfold s_range; (repeat (first | rw [if_pos (by omega)] | rw [if_neg (by omega)])); try rfl) p9 (f9.wd (by omega) (by omega))
            | exact fin1 (by unfold s_range; (repeat (first | rw [if_pos (by omega)] | rw [if_neg (by omega)])); try rfl) ⟨f9.at hp.1 (by omega), ⟨sg9, sd9, q9⟩, ⟨sg2, sd2, m2.fr f9 (by omega)⟩, m3.fr f9 (by omega), ⟨es, ls, m4.fr f9 (by omega)⟩, m5.fr f9 (by omega), m6.fr f9 (by omega), m7.fr f9 (by omega)⟩ (f9.wd (by omega) (by omega))
            | exact fin1 (by unfold s_range; (repeat (first | rw [if_pos (by omega)] | rw [if_neg (by omega)])); try rfl) hp Fr.rf
        · have hx1 : x = 1 := by omega
          subst hx1
          refine v_iconst k_Main_range_54 ?_
          refine v_goto k_Main_range_55 (tgt := 59) rfl ?_
          refine v_callVr mo_Canon_farthestSound mi_Canon_farthestSound mv_Canon_farthestSound lk_Main_199 k_Main_range_59 k0 rfl rfl (Nat.le_of_ble_eq_true rfl) rfl (Nat.le_of_ble_eq_true rfl) (c_Canon_farthestSound G m1 wu hn (by omega)) ?_
          refine v_ireturn k_Main_range_62 rfl rfl ?_
          first
            | (exfalso; omega)
            | exact fin1 (by unfold s_range; (repeat (first | rw [if_pos (by omega)] | rw [if_neg (by omega)])); try rfl) p9 (f9.wd (by omega) (by omega))
            | exact fin1 (by unfold s_range; (repeat (first | rw [if_pos (by omega)] | rw [if_neg (by omega)])); try rfl) ⟨f9.at hp.1 (by omega), ⟨sg9, sd9, q9⟩, ⟨sg2, sd2, m2.fr f9 (by omega)⟩, m3.fr f9 (by omega), ⟨es, ls, m4.fr f9 (by omega)⟩, m5.fr f9 (by omega), m6.fr f9 (by omega), m7.fr f9 (by omega)⟩ (f9.wd (by omega) (by omega))
            | exact fin1 (by unfold s_range; (repeat (first | rw [if_pos (by omega)] | rw [if_neg (by omega)])); try rfl) hp Fr.rf
      · refine v_ldc (x := 1000000000) cn_Main_145 k_Main_range_35 (by decide) ?_
        refine v_aload_n k_Main_range_37 rfl ?_
        refine v_iload_n k_Main_range_38 rfl ?_
        refine v_callV mo_Main_refuse mi_Main_refuse mv_Main_refuse lk_Main_67 k_Main_range_39 m0 rfl rfl (Nat.le_of_ble_eq_true rfl) rfl (Nat.le_of_ble_eq_true rfl) (c_Main_refuse G hp w (by omega)) (fun v39 h39 q39 => ?_)
        obtain ⟨rfl, p9, f9⟩ := q39
        refine v_isub k_Main_range_42 ?_
        refine v_ireturn k_Main_range_43 rfl rfl ?_
        first
          | (exfalso; omega)
          | exact fin1 (by unfold s_range; (repeat (first | rw [if_pos (by omega)] | rw [if_neg (by omega)])); try rfl) p9 (f9.wd (by omega) (by omega))
          | exact fin1 (by unfold s_range; (repeat (first | rw [if_pos (by omega)] | rw [if_neg (by omega)])); try rfl) ⟨f9.at hp.1 (by omega), ⟨sg9, sd9, q9⟩, ⟨sg2, sd2, m2.fr f9 (by omega)⟩, m3.fr f9 (by omega), ⟨es, ls, m4.fr f9 (by omega)⟩, m5.fr f9 (by omega), m6.fr f9 (by omega), m7.fr f9 (by omega)⟩ (f9.wd (by omega) (by omega))
          | exact fin1 (by unfold s_range; (repeat (first | rw [if_pos (by omega)] | rw [if_neg (by omega)])); try rfl) hp Fr.rf
  · skip
    refine v_aload_n k_Main_range_0 rfl ?_
    refine v_getf fl_Main_12 m0 rfl k_Main_range_1 ?_
    refine v_iload_n k_Main_range_4 rfl ?_
    refine v_callVr mo_Canon_hasVoice mi_Canon_hasVoice mv_Canon_hasVoice lk_Main_110 k_Main_range_5 k0 rfl rfl (Nat.le_of_ble_eq_true rfl) rfl (Nat.le_of_ble_eq_true rfl) ((by have q := c_Canon_hasVoice G m1 (v := n) (by omega); rw [if_neg hc] at q; exact q)) ?_
    refine v_ifne 15 k_Main_range_8 rfl (by omega) (fun c8 => ?_) (fun c8 => ?_)
    · refine v_iload_n k_Main_range_15 rfl ?_
      refine v_ifeq 29 k_Main_range_16 rfl (by omega) (fun c16 => ?_) (fun c16 => ?_)
      · refine v_iconst k_Main_range_29 ?_
        refine v_istore_n k_Main_range_30 ⟨Nat.le_of_ble_eq_true rfl, Nat.le_of_ble_eq_true rfl⟩ ?_
        refine v_iload_n k_Main_range_31 rfl ?_
        refine v_ifeq 44 k_Main_range_32 rfl (by omega) (fun c32 => ?_) (fun c32 => ?_)
        · refine v_aload_n k_Main_range_44 rfl ?_
          refine v_getf fl_Main_12 m0 rfl k_Main_range_45 ?_
          refine v_iload_n k_Main_range_48 rfl ?_
          refine v_iload_n k_Main_range_49 rfl ?_
          refine v_iconst k_Main_range_50 ?_
          refine v_icne 58 k_Main_range_51 rfl (by omega) (by omega) (fun c51 => ?_) (fun c51 => ?_)
          · have hx1 : x = 0 := by omega
            subst hx1
            refine v_iconst k_Main_range_58 ?_
            refine v_callVr mo_Canon_farthestSound mi_Canon_farthestSound mv_Canon_farthestSound lk_Main_199 k_Main_range_59 k0 rfl rfl (Nat.le_of_ble_eq_true rfl) rfl (Nat.le_of_ble_eq_true rfl) (c_Canon_farthestSound G m1 wu hn (by omega)) ?_
            refine v_ireturn k_Main_range_62 rfl rfl ?_
            first
              | (exfalso; omega)
              | exact fin1 (by unfold s_range; (repeat (first | rw [if_pos (by omega)] | rw [if_neg (by omega)])); try rfl) p9 (f9.wd (by omega) (by omega))
              | exact fin1 (by unfold s_range; (repeat (first | rw [if_pos (by omega)] | rw [if_neg (by omega)])); try rfl) ⟨f9.at hp.1 (by omega), ⟨sg9, sd9, q9⟩, ⟨sg2, sd2, m2.fr f9 (by omega)⟩, m3.fr f9 (by omega), ⟨es, ls, m4.fr f9 (by omega)⟩, m5.fr f9 (by omega), m6.fr f9 (by omega), m7.fr f9 (by omega)⟩ (f9.wd (by omega) (by omega))
              | exact fin1 (by unfold s_range; (repeat (first | rw [if_pos (by omega)] | rw [if_neg (by omega)])); try rfl) hp Fr.rf
          · have hx1 : x = 1 := by omega
            subst hx1
            refine v_iconst k_Main_range_54 ?_
            refine v_goto k_Main_range_55 (tgt := 59) rfl ?_
            refine v_callVr mo_Canon_farthestSound mi_Canon_farthestSound mv_Canon_farthestSound lk_Main_199 k_Main_range_59 k0 rfl rfl (Nat.le_of_ble_eq_true rfl) rfl (Nat.le_of_ble_eq_true rfl) (c_Canon_farthestSound G m1 wu hn (by omega)) ?_
            refine v_ireturn k_Main_range_62 rfl rfl ?_
            first
              | (exfalso; omega)
              | exact fin1 (by unfold s_range; (repeat (first | rw [if_pos (by omega)] | rw [if_neg (by omega)])); try rfl) p9 (f9.wd (by omega) (by omega))
              | exact fin1 (by unfold s_range; (repeat (first | rw [if_pos (by omega)] | rw [if_neg (by omega)])); try rfl) ⟨f9.at hp.1 (by omega), ⟨sg9, sd9, q9⟩, ⟨sg2, sd2, m2.fr f9 (by omega)⟩, m3.fr f9 (by omega), ⟨es, ls, m4.fr f9 (by omega)⟩, m5.fr f9 (by omega), m6.fr f9 (by omega), m7.fr f9 (by omega)⟩ (f9.wd (by omega) (by omega))
              | exact fin1 (by unfold s_range; (repeat (first | rw [if_pos (by omega)] | rw [if_neg (by omega)])); try rfl) hp Fr.rf
        · refine v_ldc (x := 1000000000) cn_Main_145 k_Main_range_35 (by decide) ?_
          refine v_aload_n k_Main_range_37 rfl ?_
          refine v_iload_n k_Main_range_38 rfl ?_
          refine v_callV mo_Main_refuse mi_Main_refuse mv_Main_refuse lk_Main_67 k_Main_range_39 m0 rfl rfl (Nat.le_of_ble_eq_true rfl) rfl (Nat.le_of_ble_eq_true rfl) (c_Main_refuse G hp w (by omega)) (fun v39 h39 q39 => ?_)
          obtain ⟨rfl, p9, f9⟩ := q39
          refine v_isub k_Main_range_42 ?_
          refine v_ireturn k_Main_range_43 rfl rfl ?_
          first
            | (exfalso; omega)
            | exact fin1 (by unfold s_range; (repeat (first | rw [if_pos (by omega)] | rw [if_neg (by omega)])); try rfl) p9 (f9.wd (by omega) (by omega))
            | exact fin1 (by unfold s_range; (repeat (first | rw [if_pos (by omega)] | rw [if_neg (by omega)])); try rfl) ⟨f9.at hp.1 (by omega), ⟨sg9, sd9, q9⟩, ⟨sg2, sd2, m2.fr f9 (by omega)⟩, m3.fr f9 (by omega), ⟨es, ls, m4.fr f9 (by omega)⟩, m5.fr f9 (by omega), m6.fr f9 (by omega), m7.fr f9 (by omega)⟩ (f9.wd (by omega) (by omega))
            | exact fin1 (by unfold s_range; (repeat (first | rw [if_pos (by omega)] | rw [if_neg (by omega)])); try rfl) hp Fr.rf
      · refine v_iload_n k_Main_range_19 rfl ?_
        refine v_iconst k_Main_range_20 ?_
        refine v_iceq 29 k_Main_range_21 rfl (by omega) (by omega) (fun c21 => ?_) (fun c21 => ?_)
        · refine v_iconst k_Main_range_29 ?_
          refine v_istore_n k_Main_range_30 ⟨Nat.le_of_ble_eq_true rfl, Nat.le_of_ble_eq_true rfl⟩ ?_
          refine v_iload_n k_Main_range_31 rfl ?_
          refine v_ifeq 44 k_Main_range_32 rfl (by omega) (fun c32 => ?_) (fun c32 => ?_)
          · refine v_aload_n k_Main_range_44 rfl ?_
            refine v_getf fl_Main_12 m0 rfl k_Main_range_45 ?_
            refine v_iload_n k_Main_range_48 rfl ?_
            refine v_iload_n k_Main_range_49 rfl ?_
            refine v_iconst k_Main_range_50 ?_
            refine v_icne 58 k_Main_range_51 rfl (by omega) (by omega) (fun c51 => ?_) (fun c51 => ?_)
            · have hx1 : x = 0 := by omega
              subst hx1
              refine v_iconst k_Main_range_58 ?_
              refine v_callVr mo_Canon_farthestSound mi_Canon_farthestSound mv_Canon_farthestSound lk_Main_199 k_Main_range_59 k0 rfl rfl (Nat.le_of_ble_eq_true rfl) rfl (Nat.le_of_ble_eq_true rfl) (c_Canon_farthestSound G m1 wu hn (by omega)) ?_
              refine v_ireturn k_Main_range_62 rfl rfl ?_
              first
                | (exfalso; omega)
                | exact fin1 (by unfold s_range; (repeat (first | rw [if_pos (by omega)] | rw [if_neg (by omega)])); try rfl) p9 (f9.wd (by omega) (by omega))
                | exact fin1 (by unfold s_range; (repeat (first | rw [if_pos (by omega)] | rw [if_neg (by omega)])); try rfl) ⟨f9.at hp.1 (by omega), ⟨sg9, sd9, q9⟩, ⟨sg2, sd2, m2.fr f9 (by omega)⟩, m3.fr f9 (by omega), ⟨es, ls, m4.fr f9 (by omega)⟩, m5.fr f9 (by omega), m6.fr f9 (by omega), m7.fr f9 (by omega)⟩ (f9.wd (by omega) (by omega))
                | exact fin1 (by unfold s_range; (repeat (first | rw [if_pos (by omega)] | rw [if_neg (by omega)])); try rfl) hp Fr.rf
            · have hx1 : x = 1 := by omega
              subst hx1
              refine v_iconst k_Main_range_54 ?_
              refine v_goto k_Main_range_55 (tgt := 59) rfl ?_
              refine v_callVr mo_Canon_farthestSound mi_Canon_farthestSound mv_Canon_farthestSound lk_Main_199 k_Main_range_59 k0 rfl rfl (Nat.le_of_ble_eq_true rfl) rfl (Nat.le_of_ble_eq_true rfl) (c_Canon_farthestSound G m1 wu hn (by omega)) ?_
              refine v_ireturn k_Main_range_62 rfl rfl ?_
              first
                | (exfalso; omega)
                | exact fin1 (by unfold s_range; (repeat (first | rw [if_pos (by omega)] | rw [if_neg (by omega)])); try rfl) p9 (f9.wd (by omega) (by omega))
                | exact fin1 (by unfold s_range; (repeat (first | rw [if_pos (by omega)] | rw [if_neg (by omega)])); try rfl) ⟨f9.at hp.1 (by omega), ⟨sg9, sd9, q9⟩, ⟨sg2, sd2, m2.fr f9 (by omega)⟩, m3.fr f9 (by omega), ⟨es, ls, m4.fr f9 (by omega)⟩, m5.fr f9 (by omega), m6.fr f9 (by omega), m7.fr f9 (by omega)⟩ (f9.wd (by omega) (by omega))
                | exact fin1 (by unfold s_range; (repeat (first | rw [if_pos (by omega)] | rw [if_neg (by omega)])); try rfl) hp Fr.rf
          · refine v_ldc (x := 1000000000) cn_Main_145 k_Main_range_35 (by decide) ?_
            refine v_aload_n k_Main_range_37 rfl ?_
            refine v_iload_n k_Main_range_38 rfl ?_
            refine v_callV mo_Main_refuse mi_Main_refuse mv_Main_refuse lk_Main_67 k_Main_range_39 m0 rfl rfl (Nat.le_of_ble_eq_true rfl) rfl (Nat.le_of_ble_eq_true rfl) (c_Main_refuse G hp w (by omega)) (fun v39 h39 q39 => ?_)
            obtain ⟨rfl, p9, f9⟩ := q39
            refine v_isub k_Main_range_42 ?_
            refine v_ireturn k_Main_range_43 rfl rfl ?_
            first
              | (exfalso; omega)
              | exact fin1 (by unfold s_range; (repeat (first | rw [if_pos (by omega)] | rw [if_neg (by omega)])); try rfl) p9 (f9.wd (by omega) (by omega))
              | exact fin1 (by unfold s_range; (repeat (first | rw [if_pos (by omega)] | rw [if_neg (by omega)])); try rfl) ⟨f9.at hp.1 (by omega), ⟨sg9, sd9, q9⟩, ⟨sg2, sd2, m2.fr f9 (by omega)⟩, m3.fr f9 (by omega), ⟨es, ls, m4.fr f9 (by omega)⟩, m5.fr f9 (by omega), m6.fr f9 (by omega), m7.fr f9 (by omega)⟩ (f9.wd (by omega) (by omega))
              | exact fin1 (by unfold s_range; (repeat (first | rw [if_pos (by omega)] | rw [if_neg (by omega)])); try rfl) hp Fr.rf
        · refine v_bipush k_Main_range_24 (by decide) ?_
          refine v_goto k_Main_range_26 (tgt := 30) rfl ?_
          refine v_istore_n k_Main_range_30 ⟨Nat.le_of_ble_eq_true rfl, Nat.le_of_ble_eq_true rfl⟩ ?_
          refine v_iload_n k_Main_range_31 rfl ?_
          refine v_ifeq 44 k_Main_range_32 rfl (by omega) (fun c32 => ?_) (fun c32 => ?_)
          · refine v_aload_n k_Main_range_44 rfl ?_
            refine v_getf fl_Main_12 m0 rfl k_Main_range_45 ?_
            refine v_iload_n k_Main_range_48 rfl ?_
            refine v_iload_n k_Main_range_49 rfl ?_
            refine v_iconst k_Main_range_50 ?_
            refine v_icne 58 k_Main_range_51 rfl (by omega) (by omega) (fun c51 => ?_) (fun c51 => ?_)
            · have hx1 : x = 0 := by omega
              subst hx1
              refine v_iconst k_Main_range_58 ?_
              refine v_callVr mo_Canon_farthestSound mi_Canon_farthestSound mv_Canon_farthestSound lk_Main_199 k_Main_range_59 k0 rfl rfl (Nat.le_of_ble_eq_true rfl) rfl (Nat.le_of_ble_eq_true rfl) (c_Canon_farthestSound G m1 wu hn (by omega)) ?_
              refine v_ireturn k_Main_range_62 rfl rfl ?_
              first
                | (exfalso; omega)
                | exact fin1 (by unfold s_range; (repeat (first | rw [if_pos (by omega)] | rw [if_neg (by omega)])); try rfl) p9 (f9.wd (by omega) (by omega))
                | exact fin1 (by unfold s_range; (repeat (first | rw [if_pos (by omega)] | rw [if_neg (by omega)])); try rfl) ⟨f9.at hp.1 (by omega), ⟨sg9, sd9, q9⟩, ⟨sg2, sd2, m2.fr f9 (by omega)⟩, m3.fr f9 (by omega), ⟨es, ls, m4.fr f9 (by omega)⟩, m5.fr f9 (by omega), m6.fr f9 (by omega), m7.fr f9 (by omega)⟩ (f9.wd (by omega) (by omega))
                | exact fin1 (by unfold s_range; (repeat (first | rw [if_pos (by omega)] | rw [if_neg (by omega)])); try rfl) hp Fr.rf
            · have hx1 : x = 1 := by omega
              subst hx1
              refine v_iconst k_Main_range_54 ?_
              refine v_goto k_Main_range_55 (tgt := 59) rfl ?_
              refine v_callVr mo_Canon_farthestSound mi_Canon_farthestSound mv_Canon_farthestSound lk_Main_199 k_Main_range_59 k0 rfl rfl (Nat.le_of_ble_eq_true rfl) rfl (Nat.le_of_ble_eq_true rfl) (c_Canon_farthestSound G m1 wu hn (by omega)) ?_
              refine v_ireturn k_Main_range_62 rfl rfl ?_
              first
                | (exfalso; omega)
                | exact fin1 (by unfold s_range; (repeat (first | rw [if_pos (by omega)] | rw [if_neg (by omega)])); try rfl) p9 (f9.wd (by omega) (by omega))
                | exact fin1 (by unfold s_range; (repeat (first | rw [if_pos (by omega)] | rw [if_neg (by omega)])); try rfl) ⟨f9.at hp.1 (by omega), ⟨sg9, sd9, q9⟩, ⟨sg2, sd2, m2.fr f9 (by omega)⟩, m3.fr f9 (by omega), ⟨es, ls, m4.fr f9 (by omega)⟩, m5.fr f9 (by omega), m6.fr f9 (by omega), m7.fr f9 (by omega)⟩ (f9.wd (by omega) (by omega))
                | exact fin1 (by unfold s_range; (repeat (first | rw [if_pos (by omega)] | rw [if_neg (by omega)])); try rfl) hp Fr.rf
          · refine v_ldc (x := 1000000000) cn_Main_145 k_Main_range_35 (by decide) ?_
            refine v_aload_n k_Main_range_37 rfl ?_
            refine v_iload_n k_Main_range_38 rfl ?_
            refine v_callV mo_Main_refuse mi_Main_refuse mv_Main_refuse lk_Main_67 k_Main_range_39 m0 rfl rfl (Nat.le_of_ble_eq_true rfl) rfl (Nat.le_of_ble_eq_true rfl) (c_Main_refuse G hp w (by omega)) (fun v39 h39 q39 => ?_)
            obtain ⟨rfl, p9, f9⟩ := q39
            refine v_isub k_Main_range_42 ?_
            refine v_ireturn k_Main_range_43 rfl rfl ?_
            first
              | (exfalso; omega)
              | exact fin1 (by unfold s_range; (repeat (first | rw [if_pos (by omega)] | rw [if_neg (by omega)])); try rfl) p9 (f9.wd (by omega) (by omega))
              | exact fin1 (by unfold s_range; (repeat (first | rw [if_pos (by omega)] | rw [if_neg (by omega)])); try rfl) ⟨f9.at hp.1 (by omega), ⟨sg9, sd9, q9⟩, ⟨sg2, sd2, m2.fr f9 (by omega)⟩, m3.fr f9 (by omega), ⟨es, ls, m4.fr f9 (by omega)⟩, m5.fr f9 (by omega), m6.fr f9 (by omega), m7.fr f9 (by omega)⟩ (f9.wd (by omega) (by omega))
              | exact fin1 (by unfold s_range; (repeat (first | rw [if_pos (by omega)] | rw [if_neg (by omega)])); try rfl) hp Fr.rf
    · refine v_iconst k_Main_range_11 ?_
      refine v_goto k_Main_range_12 (tgt := 30) rfl ?_
      refine v_istore_n k_Main_range_30 ⟨Nat.le_of_ble_eq_true rfl, Nat.le_of_ble_eq_true rfl⟩ ?_
      refine v_iload_n k_Main_range_31 rfl ?_
      refine v_ifeq 44 k_Main_range_32 rfl (by omega) (fun c32 => ?_) (fun c32 => ?_)
      · refine v_aload_n k_Main_range_44 rfl ?_
        refine v_getf fl_Main_12 m0 rfl k_Main_range_45 ?_
        refine v_iload_n k_Main_range_48 rfl ?_
        refine v_iload_n k_Main_range_49 rfl ?_
        refine v_iconst k_Main_range_50 ?_
        refine v_icne 58 k_Main_range_51 rfl (by omega) (by omega) (fun c51 => ?_) (fun c51 => ?_)
        · have hx1 : x = 0 := by omega
          subst hx1
          refine v_iconst k_Main_range_58 ?_
          refine v_callVr mo_Canon_farthestSound mi_Canon_farthestSound mv_Canon_farthestSound lk_Main_199 k_Main_range_59 k0 rfl rfl (Nat.le_of_ble_eq_true rfl) rfl (Nat.le_of_ble_eq_true rfl) (c_Canon_farthestSound G m1 wu hn (by omega)) ?_
          refine v_ireturn k_Main_range_62 rfl rfl ?_
          first
            | (exfalso; omega)
            | exact fin1 (by unfold s_range; (repeat (first | rw [if_pos (by omega)] | rw [if_neg (by omega)])); try rfl) p9 (f9.wd (by omega) (by omega))
            | exact fin1 (by unfold s_range; (repeat (first | rw [if_pos (by omega)] | rw [if_neg (by omega)])); try rfl) ⟨f9.at hp.1 (by omega), ⟨sg9, sd9, q9⟩, ⟨sg2, sd2, m2.fr f9 (by omega)⟩, m3.fr f9 (by omega), ⟨es, ls, m4.fr f9 (by omega)⟩, m5.fr f9 (by omega), m6.fr f9 (by omega), m7.fr f9 (by omega)⟩ (f9.wd (by omega) (by omega))
            | exact fin1 (by unfold s_range; (repeat (first | rw [if_pos (by omega)] | rw [if_neg (by omega)])); try rfl) hp Fr.rf
        · have hx1 : x = 1 := by omega
          subst hx1
          refine v_iconst k_Main_range_54 ?_
          refine v_goto k_Main_range_55 (tgt := 59) rfl ?_
          refine v_callVr mo_Canon_farthestSound mi_Canon_farthestSound mv_Canon_farthestSound lk_Main_199 k_Main_range_59 k0 rfl rfl (Nat.le_of_ble_eq_true rfl) rfl (Nat.le_of_ble_eq_true rfl) (c_Canon_farthestSound G m1 wu hn (by omega)) ?_
          refine v_ireturn k_Main_range_62 rfl rfl ?_
          first
            | (exfalso; omega)
            | exact fin1 (by unfold s_range; (repeat (first | rw [if_pos (by omega)] | rw [if_neg (by omega)])); try rfl) p9 (f9.wd (by omega) (by omega))
            | exact fin1 (by unfold s_range; (repeat (first | rw [if_pos (by omega)] | rw [if_neg (by omega)])); try rfl) ⟨f9.at hp.1 (by omega), ⟨sg9, sd9, q9⟩, ⟨sg2, sd2, m2.fr f9 (by omega)⟩, m3.fr f9 (by omega), ⟨es, ls, m4.fr f9 (by omega)⟩, m5.fr f9 (by omega), m6.fr f9 (by omega), m7.fr f9 (by omega)⟩ (f9.wd (by omega) (by omega))
            | exact fin1 (by unfold s_range; (repeat (first | rw [if_pos (by omega)] | rw [if_neg (by omega)])); try rfl) hp Fr.rf
      · refine v_ldc (x := 1000000000) cn_Main_145 k_Main_range_35 (by decide) ?_
        refine v_aload_n k_Main_range_37 rfl ?_
        refine v_iload_n k_Main_range_38 rfl ?_
        refine v_callV mo_Main_refuse mi_Main_refuse mv_Main_refuse lk_Main_67 k_Main_range_39 m0 rfl rfl (Nat.le_of_ble_eq_true rfl) rfl (Nat.le_of_ble_eq_true rfl) (c_Main_refuse G hp w (by omega)) (fun v39 h39 q39 => ?_)
        obtain ⟨rfl, p9, f9⟩ := q39
        refine v_isub k_Main_range_42 ?_
        refine v_ireturn k_Main_range_43 rfl rfl ?_
        first
          | (exfalso; omega)
          | exact fin1 (by unfold s_range; (repeat (first | rw [if_pos (by omega)] | rw [if_neg (by omega)])); try rfl) p9 (f9.wd (by omega) (by omega))
          | exact fin1 (by unfold s_range; (repeat (first | rw [if_pos (by omega)] | rw [if_neg (by omega)])); try rfl) ⟨f9.at hp.1 (by omega), ⟨sg9, sd9, q9⟩, ⟨sg2, sd2, m2.fr f9 (by omega)⟩, m3.fr f9 (by omega), ⟨es, ls, m4.fr f9 (by omega)⟩, m5.fr f9 (by omega), m6.fr f9 (by omega), m7.fr f9 (by omega)⟩ (f9.wd (by omega) (by omega))
          | exact fin1 (by unfold s_range; (repeat (first | rw [if_pos (by omega)] | rw [if_neg (by omega)])); try rfl) hp Fr.rf

set_option maxHeartbeats 4000000 in
set_option maxRecDepth 20000 in
theorem c_Main_agreeing (G : Gx) {h : AH} {o : Nat} {S : St} (hp : pMain h o S) (w : wSt S) {n x : Int} (hn : InR n) (hx : InR x) : Ct G Y_Main_agreeing 5 0 0 [aR o, aI n, aI x] h (fun v h' => v = some (aJ (s_agreeing S n x).1) ∧ pMain h' o (s_agreeing S n x).2 ∧ Fr o (o + 73) h h') := by
  obtain ⟨m0, ⟨sg, sd, m1⟩, ⟨sg2, sd2, m2⟩, m3, ⟨es, ls, m4⟩, m5, m6, m7⟩ := id hp
  obtain ⟨k0, k1, k2⟩ := id m1
  have k3 := k1.1
  have j0 := m2.1
  obtain ⟨w1, w2, w3, w4, w5, w6, w7, w8⟩ := id w
  have wu := w1.up (by decide) (by decide)
  obtain ⟨fm, m8⟩ : ∃ fs, h.2 (o + 37) = some (aO 2 fs) := by obtain ⟨_, _, _, _, _, _, q⟩ := m3; exact ⟨_, q.1⟩
  have ho := oS_spec (max n x) 1 12
  refine Ct.of_V mo_Main_agreeing rfl (Nat.le_of_ble_eq_true rfl) rfl ?_
  refine v_iload_n k_Main_agreeing_0 rfl ?_
  refine v_iload_n k_Main_agreeing_1 rfl ?_
  refine v_mmin k_Main_agreeing_2 lm_Main_185 (by omega) (by omega) (Nat.le_of_ble_eq_true rfl) (Nat.le_of_ble_eq_true rfl) ?_
  refine v_iconst k_Main_agreeing_5 ?_
  refine v_icge 14 k_Main_agreeing_6 rfl (by omega) (by omega) (fun c6 => ?_) (fun c6 => ?_)
  · refine v_iload_n k_Main_agreeing_14 rfl ?_
    refine v_iload_n k_Main_agreeing_15 rfl ?_
    refine v_mmax k_Main_agreeing_16 lm_Main_190 (by omega) (by omega) (Nat.le_of_ble_eq_true rfl) (Nat.le_of_ble_eq_true rfl) ?_
    refine v_iconst k_Main_agreeing_19 ?_
    refine v_bipush k_Main_agreeing_20 (by decide) ?_
    refine v_callSr mo_Main_outside ms_Main_outside lk_Main_59 k_Main_agreeing_22 rfl (Nat.le_of_ble_eq_true rfl) rfl (Nat.le_of_ble_eq_true rfl) (c_Main_outside G (v := max n x) (l := 1) (m := 12) (by omega) (by omega) (by omega)) ?_
    refine v_istore_n k_Main_agreeing_25 ⟨Nat.le_of_ble_eq_true rfl, Nat.le_of_ble_eq_true rfl⟩ ?_
    refine v_iload_n k_Main_agreeing_26 rfl ?_
    refine v_ifeq 43 k_Main_agreeing_27 rfl (by omega) (fun c27 => ?_) (fun c27 => ?_)
    · refine v_aload_n k_Main_agreeing_43 rfl ?_
      refine v_getf fl_Main_33 m0 rfl k_Main_agreeing_44 ?_
      refine v_iload_n k_Main_agreeing_47 rfl ?_
      refine v_iload_n k_Main_agreeing_48 rfl ?_
      refine v_aload_n k_Main_agreeing_49 rfl ?_
      refine v_getf fl_Main_12 m0 rfl k_Main_agreeing_50 ?_
      refine v_getf fl_Main_142 k0 rfl k_Main_agreeing_53 ?_
      refine v_callV mo_Walks_tunesAgreeing mi_Walks_tunesAgreeing mv_Walks_tunesAgreeing lk_Main_195 k_Main_agreeing_56 m4.1 rfl rfl (Nat.le_of_ble_eq_true rfl) rfl (Nat.le_of_ble_eq_true rfl) (c_Walks_tunesAgreeing G m4 w1.2.2.2.2.2.2.2.2.2.2.2.2.2 (by omega) (by omega)) (fun v56 h56 q56 => ?_)
      obtain ⟨rfl, q9w, f9⟩ := q56
      refine v_lreturn k_Main_agreeing_59 rfl ?_
      first
        | (exfalso; omega)
        | exact fin2 (by unfold s_agreeing; (repeat (first | rw [if_pos (by omega)] | rw [if_neg (by omega)])); try rfl) p9 (f9.wd (by omega) (by omega))
        | exact fin2 (by unfold s_agreeing; (repeat (first | rw [if_pos (by omega)] | rw [if_neg (by omega)])); try rfl) ⟨f9.at hp.1 (by omega), ⟨sg, sd, m1.fr f9 (by omega)⟩, ⟨sg2, sd2, m2.fr f9 (by omega)⟩, m3.fr f9 (by omega), q9w, m5.fr f9 (by omega), m6.fr f9 (by omega), m7.fr f9 (by omega)⟩ (f9.wd (by omega) (by omega))
    · refine v_ldc2 (x := 4000000000000000000) cn_Main_193 k_Main_agreeing_30 (by decide) ?_
      refine v_aload_n k_Main_agreeing_33 rfl ?_
      refine v_iload_n k_Main_agreeing_34 rfl ?_
      refine v_callV mo_Main_refuse mi_Main_refuse mv_Main_refuse lk_Main_67 k_Main_agreeing_35 m0 rfl rfl (Nat.le_of_ble_eq_true rfl) rfl (Nat.le_of_ble_eq_true rfl) (c_Main_refuse G hp w (by omega)) (fun v35 h35 q35 => ?_)
      obtain ⟨rfl, p9, f9⟩ := q35
      refine v_i2l k_Main_agreeing_38 (by omega) ?_
      refine v_lsub k_Main_agreeing_39 ?_
      refine v_goto k_Main_agreeing_40 (tgt := 59) rfl ?_
      refine v_lreturn k_Main_agreeing_59 rfl ?_
      first
        | (exfalso; omega)
        | exact fin2 (by unfold s_agreeing; (repeat (first | rw [if_pos (by omega)] | rw [if_neg (by omega)])); try rfl) p9 (f9.wd (by omega) (by omega))
        | exact fin2 (by unfold s_agreeing; (repeat (first | rw [if_pos (by omega)] | rw [if_neg (by omega)])); try rfl) ⟨f9.at hp.1 (by omega), ⟨sg, sd, m1.fr f9 (by omega)⟩, ⟨sg2, sd2, m2.fr f9 (by omega)⟩, m3.fr f9 (by omega), q9w, m5.fr f9 (by omega), m6.fr f9 (by omega), m7.fr f9 (by omega)⟩ (f9.wd (by omega) (by omega))
  · refine v_bipush k_Main_agreeing_9 (by decide) ?_
    refine v_goto k_Main_agreeing_11 (tgt := 25) rfl ?_
    refine v_istore_n k_Main_agreeing_25 ⟨Nat.le_of_ble_eq_true rfl, Nat.le_of_ble_eq_true rfl⟩ ?_
    refine v_iload_n k_Main_agreeing_26 rfl ?_
    refine v_ifeq 43 k_Main_agreeing_27 rfl (by omega) (fun c27 => ?_) (fun c27 => ?_)
    · refine v_aload_n k_Main_agreeing_43 rfl ?_
      refine v_getf fl_Main_33 m0 rfl k_Main_agreeing_44 ?_
      refine v_iload_n k_Main_agreeing_47 rfl ?_
      refine v_iload_n k_Main_agreeing_48 rfl ?_
      refine v_aload_n k_Main_agreeing_49 rfl ?_
      refine v_getf fl_Main_12 m0 rfl k_Main_agreeing_50 ?_
      refine v_getf fl_Main_142 k0 rfl k_Main_agreeing_53 ?_
      refine v_callV mo_Walks_tunesAgreeing mi_Walks_tunesAgreeing mv_Walks_tunesAgreeing lk_Main_195 k_Main_agreeing_56 m4.1 rfl rfl (Nat.le_of_ble_eq_true rfl) rfl (Nat.le_of_ble_eq_true rfl) (c_Walks_tunesAgreeing G m4 w1.2.2.2.2.2.2.2.2.2.2.2.2.2 (by omega) (by omega)) (fun v56 h56 q56 => ?_)
      obtain ⟨rfl, q9w, f9⟩ := q56
      refine v_lreturn k_Main_agreeing_59 rfl ?_
      first
        | (exfalso; omega)
        | exact fin2 (by unfold s_agreeing; (repeat (first | rw [if_pos (by omega)] | rw [if_neg (by omega)])); try rfl) p9 (f9.wd (by omega) (by omega))
        | exact fin2 (by unfold s_agreeing; (repeat (first | rw [if_pos (by omega)] | rw [if_neg (by omega)])); try rfl) ⟨f9.at hp.1 (by omega), ⟨sg, sd, m1.fr f9 (by omega)⟩, ⟨sg2, sd2, m2.fr f9 (by omega)⟩, m3.fr f9 (by omega), q9w, m5.fr f9 (by omega), m6.fr f9 (by omega), m7.fr f9 (by omega)⟩ (f9.wd (by omega) (by omega))
    · refine v_ldc2 (x := 4000000000000000000) cn_Main_193 k_Main_agreeing_30 (by decide) ?_
      refine v_aload_n k_Main_agreeing_33 rfl ?_
      refine v_iload_n k_Main_agreeing_34 rfl ?_
      refine v_callV mo_Main_refuse mi_Main_refuse mv_Main_refuse lk_Main_67 k_Main_agreeing_35 m0 rfl rfl (Nat.le_of_ble_eq_true rfl) rfl (Nat.le_of_ble_eq_true rfl) (c_Main_refuse G hp w (by omega)) (fun v35 h35 q35 => ?_)
      obtain ⟨rfl, p9, f9⟩ := q35
      refine v_i2l k_Main_agreeing_38 (by omega) ?_
      refine v_lsub k_Main_agreeing_39 ?_
      refine v_goto k_Main_agreeing_40 (tgt := 59) rfl ?_
      refine v_lreturn k_Main_agreeing_59 rfl ?_
      first
        | (exfalso; omega)
        | exact fin2 (by unfold s_agreeing; (repeat (first | rw [if_pos (by omega)] | rw [if_neg (by omega)])); try rfl) p9 (f9.wd (by omega) (by omega))
        | exact fin2 (by unfold s_agreeing; (repeat (first | rw [if_pos (by omega)] | rw [if_neg (by omega)])); try rfl) ⟨f9.at hp.1 (by omega), ⟨sg, sd, m1.fr f9 (by omega)⟩, ⟨sg2, sd2, m2.fr f9 (by omega)⟩, m3.fr f9 (by omega), q9w, m5.fr f9 (by omega), m6.fr f9 (by omega), m7.fr f9 (by omega)⟩ (f9.wd (by omega) (by omega))

set_option maxHeartbeats 4000000 in
set_option maxRecDepth 20000 in
theorem c_Main_row (G : Gx) {h : AH} {o : Nat} {S : St} (hp : pMain h o S) (w : wSt S) {x : Int} (hx : InR x) : Ct G Y_Main_row 3 0 0 [aR o, aI x] h (fun v h' => v = some (aI (s_row S x).1) ∧ pMain h' o (s_row S x).2 ∧ Fr o (o + 73) h h') := by
  obtain ⟨m0, ⟨sg, sd, m1⟩, ⟨sg2, sd2, m2⟩, m3, ⟨es, ls, m4⟩, m5, m6, m7⟩ := id hp
  obtain ⟨k0, k1, k2⟩ := id m1
  have k3 := k1.1
  have j0 := m2.1
  obtain ⟨w1, w2, w3, w4, w5, w6, w7, w8⟩ := id w
  have wu := w1.up (by decide) (by decide)
  obtain ⟨fm, m8⟩ : ∃ fs, h.2 (o + 37) = some (aO 2 fs) := by obtain ⟨_, _, _, _, _, _, q⟩ := m3; exact ⟨_, q.1⟩
  have ho := oS_spec x 0 60
  refine Ct.of_V mo_Main_row rfl (Nat.le_of_ble_eq_true rfl) rfl ?_
  refine v_iload_n k_Main_row_0 rfl ?_
  refine v_iconst k_Main_row_1 ?_
  refine v_bipush k_Main_row_2 (by decide) ?_
  refine v_callSr mo_Main_outside ms_Main_outside lk_Main_59 k_Main_row_4 rfl (Nat.le_of_ble_eq_true rfl) rfl (Nat.le_of_ble_eq_true rfl) (c_Main_outside G (v := x) (l := 0) (m := 60) (by omega) (by omega) (by omega)) ?_
  refine v_istore_n k_Main_row_7 ⟨Nat.le_of_ble_eq_true rfl, Nat.le_of_ble_eq_true rfl⟩ ?_
  refine v_iload_n k_Main_row_8 rfl ?_
  refine v_ifne 27 k_Main_row_9 rfl (by omega) (fun c9 => ?_) (fun c9 => ?_)
  · refine v_iload_n k_Main_row_27 rfl ?_
    refine v_ifeq 37 k_Main_row_28 rfl (by omega) (fun c28 => ?_) (fun c28 => ?_)
    · refine v_aload_n k_Main_row_37 rfl ?_
      refine v_getf fl_Main_49 m0 rfl k_Main_row_38 ?_
      refine v_iload_n k_Main_row_41 rfl ?_
      refine v_callV mo_Row_add mi_Row_add mv_Row_add lk_Main_56 k_Main_row_42 m6.obj rfl rfl (Nat.le_of_ble_eq_true rfl) rfl (Nat.le_of_ble_eq_true rfl) (c_Row_add G m6 (x := x)) (fun v42 h42 q42 => ?_)
      obtain ⟨rfl, q6, f9⟩ := q42
      have e6 : radd 12 (nH S) x = nH S ++ [x] := by rw [radd, if_pos (by omega)]
      rw [e6] at q6
      have m0 := f9.at m0 (by omega)
      have m6 := q6
      refine v_aload_n k_Main_row_45 rfl ?_
      refine v_getf fl_Main_49 m0 rfl k_Main_row_46 ?_
      refine v_callVr mo_Row_size mi_Row_size mv_Row_size lk_Main_209 k_Main_row_49 m6.obj rfl rfl (Nat.le_of_ble_eq_true rfl) rfl (Nat.le_of_ble_eq_true rfl) (c_Row_size G m6) ?_
      refine v_ireturn k_Main_row_52 rfl rfl ?_
      first
        | (exfalso; omega)
        | exact fin1 (by unfold s_row; (repeat (first | rw [if_pos (by omega)] | rw [if_neg (by omega)])); try rfl) p9 (f9.wd (by omega) (by omega))
        | exact fin1 (S' := wH_ S (nH S ++ [x])) (by unfold s_row; rw [if_neg (by omega), if_neg (by omega)]; simp) ⟨f9.at hp.1 (by omega), ⟨sg, sd, m1.fr f9 (by omega)⟩, ⟨sg2, sd2, m2.fr f9 (by omega)⟩, m3.fr f9 (by omega), ⟨es, ls, m4.fr f9 (by omega)⟩, m5.fr f9 (by omega), q6, m7.fr f9 (by omega)⟩ (f9.wd (by omega) (by omega))
    · refine v_aload_n k_Main_row_31 rfl ?_
      refine v_iload_n k_Main_row_32 rfl ?_
      refine v_callV mo_Main_refuse mi_Main_refuse mv_Main_refuse lk_Main_67 k_Main_row_33 m0 rfl rfl (Nat.le_of_ble_eq_true rfl) rfl (Nat.le_of_ble_eq_true rfl) (c_Main_refuse G hp w (by omega)) (fun v33 h33 q33 => ?_)
      obtain ⟨rfl, p9, f9⟩ := q33
      refine v_ireturn k_Main_row_36 rfl rfl ?_
      first
        | (exfalso; omega)
        | exact fin1 (by unfold s_row; (repeat (first | rw [if_pos (by omega)] | rw [if_neg (by omega)])); try rfl) p9 (f9.wd (by omega) (by omega))
        | exact fin1 (S' := wH_ S (nH S ++ [x])) (by unfold s_row; rw [if_neg (by omega), if_neg (by omega)]; simp) ⟨f9.at hp.1 (by omega), ⟨sg, sd, m1.fr f9 (by omega)⟩, ⟨sg2, sd2, m2.fr f9 (by omega)⟩, m3.fr f9 (by omega), ⟨es, ls, m4.fr f9 (by omega)⟩, m5.fr f9 (by omega), q6, m7.fr f9 (by omega)⟩ (f9.wd (by omega) (by omega))
  · refine v_aload_n k_Main_row_12 rfl ?_
    refine v_getf fl_Main_49 m0 rfl k_Main_row_13 ?_
    refine v_callVr mo_Row_size mi_Row_size mv_Row_size lk_Main_209 k_Main_row_16 m6.obj rfl rfl (Nat.le_of_ble_eq_true rfl) rfl (Nat.le_of_ble_eq_true rfl) (c_Row_size G m6) ?_
    refine v_bipush k_Main_row_19 (by decide) ?_
    refine v_iclt 27 k_Main_row_21 rfl (by omega) (by omega) (fun c21 => ?_) (fun c21 => ?_)
    · refine v_iload_n k_Main_row_27 rfl ?_
      refine v_ifeq 37 k_Main_row_28 rfl (by omega) (fun c28 => ?_) (fun c28 => ?_)
      · refine v_aload_n k_Main_row_37 rfl ?_
        refine v_getf fl_Main_49 m0 rfl k_Main_row_38 ?_
        refine v_iload_n k_Main_row_41 rfl ?_
        refine v_callV mo_Row_add mi_Row_add mv_Row_add lk_Main_56 k_Main_row_42 m6.obj rfl rfl (Nat.le_of_ble_eq_true rfl) rfl (Nat.le_of_ble_eq_true rfl) (c_Row_add G m6 (x := x)) (fun v42 h42 q42 => ?_)
        obtain ⟨rfl, q6, f9⟩ := q42
        have e6 : radd 12 (nH S) x = nH S ++ [x] := by rw [radd, if_pos (by omega)]
        rw [e6] at q6
        have m0 := f9.at m0 (by omega)
        have m6 := q6
        refine v_aload_n k_Main_row_45 rfl ?_
        refine v_getf fl_Main_49 m0 rfl k_Main_row_46 ?_
        refine v_callVr mo_Row_size mi_Row_size mv_Row_size lk_Main_209 k_Main_row_49 m6.obj rfl rfl (Nat.le_of_ble_eq_true rfl) rfl (Nat.le_of_ble_eq_true rfl) (c_Row_size G m6) ?_
        refine v_ireturn k_Main_row_52 rfl rfl ?_
        first
          | (exfalso; omega)
          | exact fin1 (by unfold s_row; (repeat (first | rw [if_pos (by omega)] | rw [if_neg (by omega)])); try rfl) p9 (f9.wd (by omega) (by omega))
          | exact fin1 (S' := wH_ S (nH S ++ [x])) (by unfold s_row; rw [if_neg (by omega), if_neg (by omega)]; simp) ⟨f9.at hp.1 (by omega), ⟨sg, sd, m1.fr f9 (by omega)⟩, ⟨sg2, sd2, m2.fr f9 (by omega)⟩, m3.fr f9 (by omega), ⟨es, ls, m4.fr f9 (by omega)⟩, m5.fr f9 (by omega), q6, m7.fr f9 (by omega)⟩ (f9.wd (by omega) (by omega))
      · refine v_aload_n k_Main_row_31 rfl ?_
        refine v_iload_n k_Main_row_32 rfl ?_
        refine v_callV mo_Main_refuse mi_Main_refuse mv_Main_refuse lk_Main_67 k_Main_row_33 m0 rfl rfl (Nat.le_of_ble_eq_true rfl) rfl (Nat.le_of_ble_eq_true rfl) (c_Main_refuse G hp w (by omega)) (fun v33 h33 q33 => ?_)
        obtain ⟨rfl, p9, f9⟩ := q33
        refine v_ireturn k_Main_row_36 rfl rfl ?_
        first
          | (exfalso; omega)
          | exact fin1 (by unfold s_row; (repeat (first | rw [if_pos (by omega)] | rw [if_neg (by omega)])); try rfl) p9 (f9.wd (by omega) (by omega))
          | exact fin1 (S' := wH_ S (nH S ++ [x])) (by unfold s_row; rw [if_neg (by omega), if_neg (by omega)]; simp) ⟨f9.at hp.1 (by omega), ⟨sg, sd, m1.fr f9 (by omega)⟩, ⟨sg2, sd2, m2.fr f9 (by omega)⟩, m3.fr f9 (by omega), ⟨es, ls, m4.fr f9 (by omega)⟩, m5.fr f9 (by omega), q6, m7.fr f9 (by omega)⟩ (f9.wd (by omega) (by omega))
    · refine v_bipush k_Main_row_24 (by decide) ?_
      refine v_istore_n k_Main_row_26 ⟨Nat.le_of_ble_eq_true rfl, Nat.le_of_ble_eq_true rfl⟩ ?_
      refine v_iload_n k_Main_row_27 rfl ?_
      refine v_ifeq 37 k_Main_row_28 rfl (by omega) (fun c28 => ?_) (fun c28 => ?_)
      · refine v_aload_n k_Main_row_37 rfl ?_
        refine v_getf fl_Main_49 m0 rfl k_Main_row_38 ?_
        refine v_iload_n k_Main_row_41 rfl ?_
        refine v_callV mo_Row_add mi_Row_add mv_Row_add lk_Main_56 k_Main_row_42 m6.obj rfl rfl (Nat.le_of_ble_eq_true rfl) rfl (Nat.le_of_ble_eq_true rfl) (c_Row_add G m6 (x := x)) (fun v42 h42 q42 => ?_)
        obtain ⟨rfl, q6, f9⟩ := q42
        have e6 : radd 12 (nH S) x = nH S ++ [x] := by rw [radd, if_pos (by omega)]
        rw [e6] at q6
        have m0 := f9.at m0 (by omega)
        have m6 := q6
        refine v_aload_n k_Main_row_45 rfl ?_
        refine v_getf fl_Main_49 m0 rfl k_Main_row_46 ?_
        refine v_callVr mo_Row_size mi_Row_size mv_Row_size lk_Main_209 k_Main_row_49 m6.obj rfl rfl (Nat.le_of_ble_eq_true rfl) rfl (Nat.le_of_ble_eq_true rfl) (c_Row_size G m6) ?_
        refine v_ireturn k_Main_row_52 rfl rfl ?_
        first
          | (exfalso; omega)
          | exact fin1 (by unfold s_row; (repeat (first | rw [if_pos (by omega)] | rw [if_neg (by omega)])); try rfl) p9 (f9.wd (by omega) (by omega))
          | exact fin1 (S' := wH_ S (nH S ++ [x])) (by unfold s_row; rw [if_neg (by omega), if_neg (by omega)]; simp) ⟨f9.at hp.1 (by omega), ⟨sg, sd, m1.fr f9 (by omega)⟩, ⟨sg2, sd2, m2.fr f9 (by omega)⟩, m3.fr f9 (by omega), ⟨es, ls, m4.fr f9 (by omega)⟩, m5.fr f9 (by omega), q6, m7.fr f9 (by omega)⟩ (f9.wd (by omega) (by omega))
      · refine v_aload_n k_Main_row_31 rfl ?_
        refine v_iload_n k_Main_row_32 rfl ?_
        refine v_callV mo_Main_refuse mi_Main_refuse mv_Main_refuse lk_Main_67 k_Main_row_33 m0 rfl rfl (Nat.le_of_ble_eq_true rfl) rfl (Nat.le_of_ble_eq_true rfl) (c_Main_refuse G hp w (by omega)) (fun v33 h33 q33 => ?_)
        obtain ⟨rfl, p9, f9⟩ := q33
        refine v_ireturn k_Main_row_36 rfl rfl ?_
        first
          | (exfalso; omega)
          | exact fin1 (by unfold s_row; (repeat (first | rw [if_pos (by omega)] | rw [if_neg (by omega)])); try rfl) p9 (f9.wd (by omega) (by omega))
          | exact fin1 (S' := wH_ S (nH S ++ [x])) (by unfold s_row; rw [if_neg (by omega), if_neg (by omega)]; simp) ⟨f9.at hp.1 (by omega), ⟨sg, sd, m1.fr f9 (by omega)⟩, ⟨sg2, sd2, m2.fr f9 (by omega)⟩, m3.fr f9 (by omega), ⟨es, ls, m4.fr f9 (by omega)⟩, m5.fr f9 (by omega), q6, m7.fr f9 (by omega)⟩ (f9.wd (by omega) (by omega))

set_option maxHeartbeats 4000000 in
set_option maxRecDepth 20000 in
theorem c_Main_judge (G : Gx) {h : AH} {o : Nat} {S : St} (hp : pMain h o S) (w : wSt S) {n x : Int} (hn : InR n) (hx : InR x) : Ct G Y_Main_judge 5 0 0 [aR o, aI n, aI x] h (fun v h' => v = some (aI (s_judge S n x).1) ∧ pMain h' o (s_judge S n x).2 ∧ Fr o (o + 73) h h') := by
  obtain ⟨m0, ⟨sg, sd, m1⟩, ⟨sg2, sd2, m2⟩, m3, ⟨es, ls, m4⟩, m5, m6, m7⟩ := id hp
  obtain ⟨k0, k1, k2⟩ := id m1
  have k3 := k1.1
  have j0 := m2.1
  obtain ⟨w1, w2, w3, w4, w5, w6, w7, w8⟩ := id w
  have wu := w1.up (by decide) (by decide)
  obtain ⟨fm, m8⟩ : ∃ fs, h.2 (o + 37) = some (aO 2 fs) := by obtain ⟨_, _, _, _, _, _, q⟩ := m3; exact ⟨_, q.1⟩
  have ho := oS_spec x 0 400
  refine Ct.of_V mo_Main_judge rfl (Nat.le_of_ble_eq_true rfl) rfl ?_
  by_cases hc : 0 ≤ n ∧ n < (kK (nK S)).length
  · skip
    refine v_aload_n k_Main_judge_0 rfl ?_
    refine v_getf fl_Main_12 m0 rfl k_Main_judge_1 ?_
    refine v_iload_n k_Main_judge_4 rfl ?_
    refine v_callVr mo_Canon_hasVoice mi_Canon_hasVoice mv_Canon_hasVoice lk_Main_110 k_Main_judge_5 k0 rfl rfl (Nat.le_of_ble_eq_true rfl) rfl (Nat.le_of_ble_eq_true rfl) ((by have q := c_Canon_hasVoice G m1 (v := n) (by omega); rw [if_pos hc] at q; exact q)) ?_
    refine v_ifeq 22 k_Main_judge_8 rfl (by omega) (fun c8 => ?_) (fun c8 => ?_)
    · refine v_iconst k_Main_judge_22 ?_
      refine v_istore_n k_Main_judge_23 ⟨Nat.le_of_ble_eq_true rfl, Nat.le_of_ble_eq_true rfl⟩ ?_
      refine v_iload_n k_Main_judge_24 rfl ?_
      refine v_ifeq 34 k_Main_judge_25 rfl (by omega) (fun c25 => ?_) (fun c25 => ?_)
      · refine v_aload_n k_Main_judge_34 rfl ?_
        refine v_getf fl_Main_12 m0 rfl k_Main_judge_35 ?_
        refine v_iload_n k_Main_judge_38 rfl ?_
        refine v_iload_n k_Main_judge_39 rfl ?_
        refine v_aload_n k_Main_judge_40 rfl ?_
        refine v_getf fl_Main_49 m0 rfl k_Main_judge_41 ?_
        refine v_callVr mo_Canon_firstNotHeard mi_Canon_firstNotHeard mv_Canon_firstNotHeard lk_Main_213 k_Main_judge_44 k0 rfl rfl (Nat.le_of_ble_eq_true rfl) rfl (Nat.le_of_ble_eq_true rfl) (c_Canon_firstNotHeard G m1 wu hn (by omega) m6 w4) ?_
        refine v_istore k_Main_judge_47 ⟨Nat.le_of_ble_eq_true rfl, Nat.le_of_ble_eq_true rfl⟩ ?_
        refine v_aload_n k_Main_judge_49 rfl ?_
        refine v_getf fl_Main_49 m0 rfl k_Main_judge_50 ?_
        refine v_callV mo_Row_clear mi_Row_clear mv_Row_clear lk_Main_217 k_Main_judge_53 m6.obj rfl rfl (Nat.le_of_ble_eq_true rfl) rfl (Nat.le_of_ble_eq_true rfl) (c_Row_clear G m6) (fun v53 h53 q53 => ?_)
        obtain ⟨rfl, q6, f9⟩ := q53
        refine v_iload k_Main_judge_56 rfl ?_
        refine v_ireturn k_Main_judge_58 rfl rfl ?_
        first
          | (exfalso; omega)
          | exact fin1 (by unfold s_judge; (repeat (first | rw [if_pos (by omega)] | rw [if_neg (by omega)])); try rfl) p9 (f9.wd (by omega) (by omega))
          | exact fin1 (S' := wH_ S []) (by unfold s_judge; (repeat (first | rw [if_pos (by omega)] | rw [if_neg (by omega)])); try rfl) ⟨f9.at hp.1 (by omega), ⟨sg, sd, m1.fr f9 (by omega)⟩, ⟨sg2, sd2, m2.fr f9 (by omega)⟩, m3.fr f9 (by omega), ⟨es, ls, m4.fr f9 (by omega)⟩, m5.fr f9 (by omega), q6, m7.fr f9 (by omega)⟩ (f9.wd (by omega) (by omega))
          | exact fin1 (by unfold s_judge; (repeat (first | rw [if_pos (by omega)] | rw [if_neg (by omega)])); try rfl) hp Fr.rf
      · refine v_aload_n k_Main_judge_28 rfl ?_
        refine v_iload_n k_Main_judge_29 rfl ?_
        refine v_callV mo_Main_refuse mi_Main_refuse mv_Main_refuse lk_Main_67 k_Main_judge_30 m0 rfl rfl (Nat.le_of_ble_eq_true rfl) rfl (Nat.le_of_ble_eq_true rfl) (c_Main_refuse G hp w (by omega)) (fun v30 h30 q30 => ?_)
        obtain ⟨rfl, p9, f9⟩ := q30
        refine v_ireturn k_Main_judge_33 rfl rfl ?_
        first
          | (exfalso; omega)
          | exact fin1 (by unfold s_judge; (repeat (first | rw [if_pos (by omega)] | rw [if_neg (by omega)])); try rfl) p9 (f9.wd (by omega) (by omega))
          | exact fin1 (S' := wH_ S []) (by unfold s_judge; (repeat (first | rw [if_pos (by omega)] | rw [if_neg (by omega)])); try rfl) ⟨f9.at hp.1 (by omega), ⟨sg, sd, m1.fr f9 (by omega)⟩, ⟨sg2, sd2, m2.fr f9 (by omega)⟩, m3.fr f9 (by omega), ⟨es, ls, m4.fr f9 (by omega)⟩, m5.fr f9 (by omega), q6, m7.fr f9 (by omega)⟩ (f9.wd (by omega) (by omega))
          | exact fin1 (by unfold s_judge; (repeat (first | rw [if_pos (by omega)] | rw [if_neg (by omega)])); try rfl) hp Fr.rf
    · refine v_iload_n k_Main_judge_11 rfl ?_
      refine v_iconst k_Main_judge_12 ?_
      refine v_sipush k_Main_judge_13 (by decide) ?_
      refine v_callSr mo_Main_outside ms_Main_outside lk_Main_59 k_Main_judge_16 rfl (Nat.le_of_ble_eq_true rfl) rfl (Nat.le_of_ble_eq_true rfl) (c_Main_outside G (v := x) (l := 0) (m := 400) (by omega) (by omega) (by omega)) ?_
      refine v_goto k_Main_judge_19 (tgt := 23) rfl ?_
      refine v_istore_n k_Main_judge_23 ⟨Nat.le_of_ble_eq_true rfl, Nat.le_of_ble_eq_true rfl⟩ ?_
      refine v_iload_n k_Main_judge_24 rfl ?_
      refine v_ifeq 34 k_Main_judge_25 rfl (by omega) (fun c25 => ?_) (fun c25 => ?_)
      · refine v_aload_n k_Main_judge_34 rfl ?_
        refine v_getf fl_Main_12 m0 rfl k_Main_judge_35 ?_
        refine v_iload_n k_Main_judge_38 rfl ?_
        refine v_iload_n k_Main_judge_39 rfl ?_
        refine v_aload_n k_Main_judge_40 rfl ?_
        refine v_getf fl_Main_49 m0 rfl k_Main_judge_41 ?_
        refine v_callVr mo_Canon_firstNotHeard mi_Canon_firstNotHeard mv_Canon_firstNotHeard lk_Main_213 k_Main_judge_44 k0 rfl rfl (Nat.le_of_ble_eq_true rfl) rfl (Nat.le_of_ble_eq_true rfl) (c_Canon_firstNotHeard G m1 wu hn (by omega) m6 w4) ?_
        refine v_istore k_Main_judge_47 ⟨Nat.le_of_ble_eq_true rfl, Nat.le_of_ble_eq_true rfl⟩ ?_
        refine v_aload_n k_Main_judge_49 rfl ?_
        refine v_getf fl_Main_49 m0 rfl k_Main_judge_50 ?_
        refine v_callV mo_Row_clear mi_Row_clear mv_Row_clear lk_Main_217 k_Main_judge_53 m6.obj rfl rfl (Nat.le_of_ble_eq_true rfl) rfl (Nat.le_of_ble_eq_true rfl) (c_Row_clear G m6) (fun v53 h53 q53 => ?_)
        obtain ⟨rfl, q6, f9⟩ := q53
        refine v_iload k_Main_judge_56 rfl ?_
        refine v_ireturn k_Main_judge_58 rfl rfl ?_
        first
          | (exfalso; omega)
          | exact fin1 (by unfold s_judge; (repeat (first | rw [if_pos (by omega)] | rw [if_neg (by omega)])); try rfl) p9 (f9.wd (by omega) (by omega))
          | exact fin1 (S' := wH_ S []) (by unfold s_judge; (repeat (first | rw [if_pos (by omega)] | rw [if_neg (by omega)])); try rfl) ⟨f9.at hp.1 (by omega), ⟨sg, sd, m1.fr f9 (by omega)⟩, ⟨sg2, sd2, m2.fr f9 (by omega)⟩, m3.fr f9 (by omega), ⟨es, ls, m4.fr f9 (by omega)⟩, m5.fr f9 (by omega), q6, m7.fr f9 (by omega)⟩ (f9.wd (by omega) (by omega))
          | exact fin1 (by unfold s_judge; (repeat (first | rw [if_pos (by omega)] | rw [if_neg (by omega)])); try rfl) hp Fr.rf
      · refine v_aload_n k_Main_judge_28 rfl ?_
        refine v_iload_n k_Main_judge_29 rfl ?_
        refine v_callV mo_Main_refuse mi_Main_refuse mv_Main_refuse lk_Main_67 k_Main_judge_30 m0 rfl rfl (Nat.le_of_ble_eq_true rfl) rfl (Nat.le_of_ble_eq_true rfl) (c_Main_refuse G hp w (by omega)) (fun v30 h30 q30 => ?_)
        obtain ⟨rfl, p9, f9⟩ := q30
        refine v_ireturn k_Main_judge_33 rfl rfl ?_
        first
          | (exfalso; omega)
          | exact fin1 (by unfold s_judge; (repeat (first | rw [if_pos (by omega)] | rw [if_neg (by omega)])); try rfl) p9 (f9.wd (by omega) (by omega))
          | exact fin1 (S' := wH_ S []) (by unfold s_judge; (repeat (first | rw [if_pos (by omega)] | rw [if_neg (by omega)])); try rfl) ⟨f9.at hp.1 (by omega), ⟨sg, sd, m1.fr f9 (by omega)⟩, ⟨sg2, sd2, m2.fr f9 (by omega)⟩, m3.fr f9 (by omega), ⟨es, ls, m4.fr f9 (by omega)⟩, m5.fr f9 (by omega), q6, m7.fr f9 (by omega)⟩ (f9.wd (by omega) (by omega))
          | exact fin1 (by unfold s_judge; (repeat (first | rw [if_pos (by omega)] | rw [if_neg (by omega)])); try rfl) hp Fr.rf
  · skip
    refine v_aload_n k_Main_judge_0 rfl ?_
    refine v_getf fl_Main_12 m0 rfl k_Main_judge_1 ?_
    refine v_iload_n k_Main_judge_4 rfl ?_
    refine v_callVr mo_Canon_hasVoice mi_Canon_hasVoice mv_Canon_hasVoice lk_Main_110 k_Main_judge_5 k0 rfl rfl (Nat.le_of_ble_eq_true rfl) rfl (Nat.le_of_ble_eq_true rfl) ((by have q := c_Canon_hasVoice G m1 (v := n) (by omega); rw [if_neg hc] at q; exact q)) ?_
    refine v_ifeq 22 k_Main_judge_8 rfl (by omega) (fun c8 => ?_) (fun c8 => ?_)
    · refine v_iconst k_Main_judge_22 ?_
      refine v_istore_n k_Main_judge_23 ⟨Nat.le_of_ble_eq_true rfl, Nat.le_of_ble_eq_true rfl⟩ ?_
      refine v_iload_n k_Main_judge_24 rfl ?_
      refine v_ifeq 34 k_Main_judge_25 rfl (by omega) (fun c25 => ?_) (fun c25 => ?_)
      · refine v_aload_n k_Main_judge_34 rfl ?_
        refine v_getf fl_Main_12 m0 rfl k_Main_judge_35 ?_
        refine v_iload_n k_Main_judge_38 rfl ?_
        refine v_iload_n k_Main_judge_39 rfl ?_
        refine v_aload_n k_Main_judge_40 rfl ?_
        refine v_getf fl_Main_49 m0 rfl k_Main_judge_41 ?_
        refine v_callVr mo_Canon_firstNotHeard mi_Canon_firstNotHeard mv_Canon_firstNotHeard lk_Main_213 k_Main_judge_44 k0 rfl rfl (Nat.le_of_ble_eq_true rfl) rfl (Nat.le_of_ble_eq_true rfl) (c_Canon_firstNotHeard G m1 wu hn (by omega) m6 w4) ?_
        refine v_istore k_Main_judge_47 ⟨Nat.le_of_ble_eq_true rfl, Nat.le_of_ble_eq_true rfl⟩ ?_
        refine v_aload_n k_Main_judge_49 rfl ?_
        refine v_getf fl_Main_49 m0 rfl k_Main_judge_50 ?_
        refine v_callV mo_Row_clear mi_Row_clear mv_Row_clear lk_Main_217 k_Main_judge_53 m6.obj rfl rfl (Nat.le_of_ble_eq_true rfl) rfl (Nat.le_of_ble_eq_true rfl) (c_Row_clear G m6) (fun v53 h53 q53 => ?_)
        obtain ⟨rfl, q6, f9⟩ := q53
        refine v_iload k_Main_judge_56 rfl ?_
        refine v_ireturn k_Main_judge_58 rfl rfl ?_
        first
          | (exfalso; omega)
          | exact fin1 (by unfold s_judge; (repeat (first | rw [if_pos (by omega)] | rw [if_neg (by omega)])); try rfl) p9 (f9.wd (by omega) (by omega))
          | exact fin1 (S' := wH_ S []) (by unfold s_judge; (repeat (first | rw [if_pos (by omega)] | rw [if_neg (by omega)])); try rfl) ⟨f9.at hp.1 (by omega), ⟨sg, sd, m1.fr f9 (by omega)⟩, ⟨sg2, sd2, m2.fr f9 (by omega)⟩, m3.fr f9 (by omega), ⟨es, ls, m4.fr f9 (by omega)⟩, m5.fr f9 (by omega), q6, m7.fr f9 (by omega)⟩ (f9.wd (by omega) (by omega))
          | exact fin1 (by unfold s_judge; (repeat (first | rw [if_pos (by omega)] | rw [if_neg (by omega)])); try rfl) hp Fr.rf
      · refine v_aload_n k_Main_judge_28 rfl ?_
        refine v_iload_n k_Main_judge_29 rfl ?_
        refine v_callV mo_Main_refuse mi_Main_refuse mv_Main_refuse lk_Main_67 k_Main_judge_30 m0 rfl rfl (Nat.le_of_ble_eq_true rfl) rfl (Nat.le_of_ble_eq_true rfl) (c_Main_refuse G hp w (by omega)) (fun v30 h30 q30 => ?_)
        obtain ⟨rfl, p9, f9⟩ := q30
        refine v_ireturn k_Main_judge_33 rfl rfl ?_
        first
          | (exfalso; omega)
          | exact fin1 (by unfold s_judge; (repeat (first | rw [if_pos (by omega)] | rw [if_neg (by omega)])); try rfl) p9 (f9.wd (by omega) (by omega))
          | exact fin1 (S' := wH_ S []) (by unfold s_judge; (repeat (first | rw [if_pos (by omega)] | rw [if_neg (by omega)])); try rfl) ⟨f9.at hp.1 (by omega), ⟨sg, sd, m1.fr f9 (by omega)⟩, ⟨sg2, sd2, m2.fr f9 (by omega)⟩, m3.fr f9 (by omega), ⟨es, ls, m4.fr f9 (by omega)⟩, m5.fr f9 (by omega), q6, m7.fr f9 (by omega)⟩ (f9.wd (by omega) (by omega))
          | exact fin1 (by unfold s_judge; (repeat (first | rw [if_pos (by omega)] | rw [if_neg (by omega)])); try rfl) hp Fr.rf
    · refine v_iload_n k_Main_judge_11 rfl ?_
      refine v_iconst k_Main_judge_12 ?_
      refine v_sipush k_Main_judge_13 (by decide) ?_
      refine v_callSr mo_Main_outside ms_Main_outside lk_Main_59 k_Main_judge_16 rfl (Nat.le_of_ble_eq_true rfl) rfl (Nat.le_of_ble_eq_true rfl) (c_Main_outside G (v := x) (l := 0) (m := 400) (by omega) (by omega) (by omega)) ?_
      refine v_goto k_Main_judge_19 (tgt := 23) rfl ?_
      refine v_istore_n k_Main_judge_23 ⟨Nat.le_of_ble_eq_true rfl, Nat.le_of_ble_eq_true rfl⟩ ?_
      refine v_iload_n k_Main_judge_24 rfl ?_
      refine v_ifeq 34 k_Main_judge_25 rfl (by omega) (fun c25 => ?_) (fun c25 => ?_)
      · refine v_aload_n k_Main_judge_34 rfl ?_
        refine v_getf fl_Main_12 m0 rfl k_Main_judge_35 ?_
        refine v_iload_n k_Main_judge_38 rfl ?_
        refine v_iload_n k_Main_judge_39 rfl ?_
        refine v_aload_n k_Main_judge_40 rfl ?_
        refine v_getf fl_Main_49 m0 rfl k_Main_judge_41 ?_
        refine v_callVr mo_Canon_firstNotHeard mi_Canon_firstNotHeard mv_Canon_firstNotHeard lk_Main_213 k_Main_judge_44 k0 rfl rfl (Nat.le_of_ble_eq_true rfl) rfl (Nat.le_of_ble_eq_true rfl) (c_Canon_firstNotHeard G m1 wu hn (by omega) m6 w4) ?_
        refine v_istore k_Main_judge_47 ⟨Nat.le_of_ble_eq_true rfl, Nat.le_of_ble_eq_true rfl⟩ ?_
        refine v_aload_n k_Main_judge_49 rfl ?_
        refine v_getf fl_Main_49 m0 rfl k_Main_judge_50 ?_
        refine v_callV mo_Row_clear mi_Row_clear mv_Row_clear lk_Main_217 k_Main_judge_53 m6.obj rfl rfl (Nat.le_of_ble_eq_true rfl) rfl (Nat.le_of_ble_eq_true rfl) (c_Row_clear G m6) (fun v53 h53 q53 => ?_)
        obtain ⟨rfl, q6, f9⟩ := q53
        refine v_iload k_Main_judge_56 rfl ?_
        refine v_ireturn k_Main_judge_58 rfl rfl ?_
        first
          | (exfalso; omega)
          | exact fin1 (by unfold s_judge; (repeat (first | rw [if_pos (by omega)] | rw [if_neg (by omega)])); try rfl) p9 (f9.wd (by omega) (by omega))
          | exact fin1 (S' := wH_ S []) (by unfold s_judge; (repeat (first | rw [if_pos (by omega)] | rw [if_neg (by omega)])); try rfl) ⟨f9.at hp.1 (by omega), ⟨sg, sd, m1.fr f9 (by omega)⟩, ⟨sg2, sd2, m2.fr f9 (by omega)⟩, m3.fr f9 (by omega), ⟨es, ls, m4.fr f9 (by omega)⟩, m5.fr f9 (by omega), q6, m7.fr f9 (by omega)⟩ (f9.wd (by omega) (by omega))
          | exact fin1 (by unfold s_judge; (repeat (first | rw [if_pos (by omega)] | rw [if_neg (by omega)])); try rfl) hp Fr.rf
      · refine v_aload_n k_Main_judge_28 rfl ?_
        refine v_iload_n k_Main_judge_29 rfl ?_
        refine v_callV mo_Main_refuse mi_Main_refuse mv_Main_refuse lk_Main_67 k_Main_judge_30 m0 rfl rfl (Nat.le_of_ble_eq_true rfl) rfl (Nat.le_of_ble_eq_true rfl) (c_Main_refuse G hp w (by omega)) (fun v30 h30 q30 => ?_)
        obtain ⟨rfl, p9, f9⟩ := q30
        refine v_ireturn k_Main_judge_33 rfl rfl ?_
        first
          | (exfalso; omega)
          | exact fin1 (by unfold s_judge; (repeat (first | rw [if_pos (by omega)] | rw [if_neg (by omega)])); try rfl) p9 (f9.wd (by omega) (by omega))
          | exact fin1 (S' := wH_ S []) (by unfold s_judge; (repeat (first | rw [if_pos (by omega)] | rw [if_neg (by omega)])); try rfl) ⟨f9.at hp.1 (by omega), ⟨sg, sd, m1.fr f9 (by omega)⟩, ⟨sg2, sd2, m2.fr f9 (by omega)⟩, m3.fr f9 (by omega), ⟨es, ls, m4.fr f9 (by omega)⟩, m5.fr f9 (by omega), q6, m7.fr f9 (by omega)⟩ (f9.wd (by omega) (by omega))
          | exact fin1 (by unfold s_judge; (repeat (first | rw [if_pos (by omega)] | rw [if_neg (by omega)])); try rfl) hp Fr.rf

set_option maxHeartbeats 4000000 in
set_option maxRecDepth 20000 in
theorem c_Main_image (G : Gx) {h : AH} {o : Nat} {S : St} (hp : pMain h o S) (w : wSt S) : Ct G Y_Main_image 4 0 0 [aR o] h (fun v h' => v = some (aI (s_image S).1) ∧ pMain h' o (s_image S).2 ∧ Fr o (o + 73) h h') := by
  obtain ⟨m0, ⟨sg, sd, m1⟩, ⟨sg2, sd2, m2⟩, m3, ⟨es, ls, m4⟩, m5, m6, m7⟩ := id hp
  obtain ⟨k0, k1, k2⟩ := id m1
  have k3 := k1.1
  have j0 := m2.1
  obtain ⟨w1, w2, w3, w4, w5, w6, w7, w8⟩ := id w
  have wu := w1.up (by decide) (by decide)
  obtain ⟨fm, m8⟩ : ∃ fs, h.2 (o + 37) = some (aO 2 fs) := by obtain ⟨_, _, _, _, _, _, q⟩ := m3; exact ⟨_, q.1⟩
  refine Ct.of_V mo_Main_image rfl (Nat.le_of_ble_eq_true rfl) rfl ?_
  refine v_aload_n k_Main_image_0 rfl ?_
  refine v_getf fl_Main_16 m0 rfl k_Main_image_1 ?_
  refine v_aload_n k_Main_image_4 rfl ?_
  refine v_getf fl_Main_12 m0 rfl k_Main_image_5 ?_
  refine v_callV mo_Canon_copyFrom mi_Canon_copyFrom mv_Canon_copyFrom lk_Main_84 k_Main_image_8 j0 rfl rfl (Nat.le_of_ble_eq_true rfl) rfl (Nat.le_of_ble_eq_true rfl) (c_Canon_copyFrom G m2 m1 (by omega)) (fun v8 h8 q8 => ?_)
  obtain ⟨rfl, q2, f9⟩ := q8
  have m0 := f9.at m0 (by omega)
  refine v_aload_n k_Main_image_11 rfl ?_
  refine v_iconst k_Main_image_12 ?_
  refine v_put fl_Main_19 m0 (Nat.le_of_ble_eq_true rfl) (fun r hr => by cases hr; exact Or.inl rfl) rfl rfl k_Main_image_13 (fun h13 e13 f13 => ?_)
  have f8 := f9
  have e13 := e13
  have f13 := f13
  have m0 := e13
  have k0 := f13.at (f8.at k0 (by omega)) (by omega)
  have k1 := (k1.fr f8 (by omega)).fr f13 (by omega)
  have k3 := k1.1
  refine v_aload_n k_Main_image_16 rfl ?_
  refine v_getf fl_Main_12 m0 rfl k_Main_image_17 ?_
  refine v_getf fl_Main_91 k0 rfl k_Main_image_20 ?_
  refine v_callVr mo_Tune_notes mi_Tune_notes mv_Tune_notes lk_Main_221 k_Main_image_23 k3 rfl rfl (Nat.le_of_ble_eq_true rfl) rfl (Nat.le_of_ble_eq_true rfl) (c_Tune_notes G k1) ?_
  refine v_ireturn k_Main_image_26 rfl rfl ?_
  exact fin1 (S' := wO_ S (nK S)) (by unfold s_image; rfl) ⟨e13, ⟨sg, sd, (m1.fr f8 (by omega)).fr f13 (by omega)⟩, ⟨sg2, sd2, q2.fr f13 (by omega)⟩, (m3.fr f8 (by omega)).fr f13 (by omega), ⟨es, ls, (m4.fr f8 (by omega)).fr f13 (by omega)⟩, (m5.fr f8 (by omega)).fr f13 (by omega), (m6.fr f8 (by omega)).fr f13 (by omega), (m7.fr f8 (by omega)).fr f13 (by omega)⟩ (Fr.tr (f8.wd (by omega) (by omega)) f13 (by omega) (by omega))

set_option maxHeartbeats 4000000 in
set_option maxRecDepth 20000 in
theorem c_Main_on (G : Gx) {h : AH} {o : Nat} {S : St} (hp : pMain h o S) (w : wSt S) : Ct G Y_Main_on 4 0 0 [aR o] h (fun v h' => v = some (aI (s_on S).1) ∧ pMain h' o (s_on S).2 ∧ Fr o (o + 73) h h') := by
  obtain ⟨m0, ⟨sg, sd, m1⟩, ⟨sg2, sd2, m2⟩, m3, ⟨es, ls, m4⟩, m5, m6, m7⟩ := id hp
  obtain ⟨k0, k1, k2⟩ := id m1
  have k3 := k1.1
  have j0 := m2.1
  obtain ⟨w1, w2, w3, w4, w5, w6, w7, w8⟩ := id w
  have wu := w1.up (by decide) (by decide)
  obtain ⟨fm, m8⟩ : ∃ fs, h.2 (o + 37) = some (aO 2 fs) := by obtain ⟨_, _, _, _, _, _, q⟩ := m3; exact ⟨_, q.1⟩
  refine Ct.of_V mo_Main_on rfl (Nat.le_of_ble_eq_true rfl) rfl ?_
  refine v_aload_n k_Main_on_0 rfl ?_
  refine v_getf fl_Main_19 m0 rfl k_Main_on_1 ?_
  refine v_ifne 14 k_Main_on_4 rfl (by omega) (fun c4 => ?_) (fun c4 => ?_)
  · refine v_aload_n k_Main_on_14 rfl ?_
    refine v_getf fl_Main_12 m0 rfl k_Main_on_15 ?_
    refine v_aload_n k_Main_on_18 rfl ?_
    refine v_getf fl_Main_16 m0 rfl k_Main_on_19 ?_
    refine v_callV mo_Canon_copyFrom mi_Canon_copyFrom mv_Canon_copyFrom lk_Main_84 k_Main_on_22 k0 rfl rfl (Nat.le_of_ble_eq_true rfl) rfl (Nat.le_of_ble_eq_true rfl) (c_Canon_copyFrom G m1 m2 (by omega)) (fun v22 h22 q22 => ?_)
    obtain ⟨rfl, q2, f9⟩ := q22
    have m0 := f9.at m0 (by omega)
    have k0 := q2.1
    have k1 := q2.2.1
    have k3 := k1.1
    refine v_aload_n k_Main_on_25 rfl ?_
    refine v_getf fl_Main_12 m0 rfl k_Main_on_26 ?_
    refine v_getf fl_Main_91 k0 rfl k_Main_on_29 ?_
    refine v_callVr mo_Tune_notes mi_Tune_notes mv_Tune_notes lk_Main_221 k_Main_on_32 k3 rfl rfl (Nat.le_of_ble_eq_true rfl) rfl (Nat.le_of_ble_eq_true rfl) (c_Tune_notes G k1) ?_
    refine v_ireturn k_Main_on_35 rfl rfl ?_
    first
      | (exfalso; omega)
      | exact fin1 (by unfold s_on; (repeat (first | rw [if_pos (by omega)] | rw [if_neg (by omega)])); try rfl) p9 (f9.wd (by omega) (by omega))
      | exact fin1 (S' := wK_ S (nO S)) (by unfold s_on; (repeat (first | rw [if_pos (by omega)] | rw [if_neg (by omega)])); try rfl) ⟨f9.at hp.1 (by omega), ⟨sg, sd, q2⟩, ⟨sg2, sd2, m2.fr f9 (by omega)⟩, m3.fr f9 (by omega), ⟨es, ls, m4.fr f9 (by omega)⟩, m5.fr f9 (by omega), m6.fr f9 (by omega), m7.fr f9 (by omega)⟩ (f9.wd (by omega) (by omega))
      | exact fin1 (by unfold s_on; (repeat (first | rw [if_pos (by omega)] | rw [if_neg (by omega)])); try rfl) hp Fr.rf
  · refine v_aload_n k_Main_on_7 rfl ?_
    refine v_bipush k_Main_on_8 (by decide) ?_
    refine v_callV mo_Main_refuse mi_Main_refuse mv_Main_refuse lk_Main_67 k_Main_on_10 m0 rfl rfl (Nat.le_of_ble_eq_true rfl) rfl (Nat.le_of_ble_eq_true rfl) (c_Main_refuse G hp w (by omega)) (fun v10 h10 q10 => ?_)
    obtain ⟨rfl, p9, f9⟩ := q10
    refine v_ireturn k_Main_on_13 rfl rfl ?_
    first
      | (exfalso; omega)
      | exact fin1 (by unfold s_on; (repeat (first | rw [if_pos (by omega)] | rw [if_neg (by omega)])); try rfl) p9 (f9.wd (by omega) (by omega))
      | exact fin1 (S' := wK_ S (nO S)) (by unfold s_on; (repeat (first | rw [if_pos (by omega)] | rw [if_neg (by omega)])); try rfl) ⟨f9.at hp.1 (by omega), ⟨sg, sd, q2⟩, ⟨sg2, sd2, m2.fr f9 (by omega)⟩, m3.fr f9 (by omega), ⟨es, ls, m4.fr f9 (by omega)⟩, m5.fr f9 (by omega), m6.fr f9 (by omega), m7.fr f9 (by omega)⟩ (f9.wd (by omega) (by omega))
      | exact fin1 (by unfold s_on; (repeat (first | rw [if_pos (by omega)] | rw [if_neg (by omega)])); try rfl) hp Fr.rf

set_option maxHeartbeats 4000000 in
set_option maxRecDepth 20000 in
theorem c_Main_changed (G : Gx) {h : AH} {o : Nat} {S : St} (hp : pMain h o S) (w : wSt S) {x : Int} (hx : InR x) (hcap : capOK (nK S)) : Ct G Y_Main_changed 8 0 0 [aR o, aI x] h (fun v h' => ∃ ms, ((x = 0 ∨ x = 1) → mendOK (nK S) ms) ∧ v = some (aI (s_changed S x ms).1) ∧ pMain h' o (s_changed S x ms).2 ∧ Fr o (o + 73) h h') := by
  obtain ⟨m0, ⟨sg, sd, m1⟩, ⟨sg2, sd2, m2⟩, m3, ⟨es, ls, m4⟩, m5, m6, m7⟩ := id hp
  obtain ⟨k0, k1, k2⟩ := id m1
  have k3 := k1.1
  have j0 := m2.1
  obtain ⟨w1, w2, w3, w4, w5, w6, w7, w8⟩ := id w
  have wu := w1.up (by decide) (by decide)
  obtain ⟨fm, m8⟩ : ∃ fs, h.2 (o + 37) = some (aO 2 fs) := by obtain ⟨_, _, _, _, _, _, q⟩ := m3; exact ⟨_, q.1⟩
  refine Ct.of_V mo_Main_changed rfl (Nat.le_of_ble_eq_true rfl) rfl ?_
  refine v_iload_n k_Main_changed_0 rfl ?_

  by_cases g0 : x = 0
  · rw [g0]
    refine v_lookup 28 k_Main_changed_1 (by decide) (by decide) (off := 27) rfl rfl ?_
    refine v_aload_n k_Main_changed_28 rfl ?_
    refine v_getf fl_Main_26 m0 rfl k_Main_changed_29 ?_
    refine v_aload_n k_Main_changed_32 rfl ?_
    refine v_getf fl_Main_12 m0 rfl k_Main_changed_33 ?_
    refine v_callV mo_Mind_fewestChanges mi_Mind_fewestChanges mv_Mind_fewestChanges lk_Main_172 k_Main_changed_36 m8 rfl rfl (Nat.le_of_ble_eq_true rfl) rfl (Nat.le_of_ble_eq_true rfl) (c_Mind_fewestChanges G m3 m1 w1 (by omega) hcap) (fun v36 h36 q36 => ?_)
    obtain ⟨⟨msx, hmx, rfl⟩, q9m, f9⟩ := q36
    refine v_ireturn k_Main_changed_39 rfl rfl ?_
    exact ⟨msx, fun _ => hmx, fin1 (by unfold s_changed; (repeat (first | rw [if_pos (by omega)] | rw [if_neg (by omega)])); try rfl) ⟨f9.at hp.1 (by omega), ⟨sg, sd, m1.fr f9 (by omega)⟩, ⟨sg2, sd2, m2.fr f9 (by omega)⟩, q9m, ⟨es, ls, m4.fr f9 (by omega)⟩, m5.fr f9 (by omega), m6.fr f9 (by omega), m7.fr f9 (by omega)⟩ (f9.wd (by omega) (by omega))⟩
  by_cases g1 : x = 1
  · rw [g1]
    refine v_lookup 40 k_Main_changed_1 (by decide) (by decide) (off := 39) rfl rfl ?_
    refine v_aload_n k_Main_changed_40 rfl ?_
    refine v_getf fl_Main_26 m0 rfl k_Main_changed_41 ?_
    refine v_aload_n k_Main_changed_44 rfl ?_
    refine v_getf fl_Main_12 m0 rfl k_Main_changed_45 ?_
    refine v_callV mo_Mind_firstChange mi_Mind_firstChange mv_Mind_firstChange lk_Main_175 k_Main_changed_48 m8 rfl rfl (Nat.le_of_ble_eq_true rfl) rfl (Nat.le_of_ble_eq_true rfl) (c_Mind_firstChange G m3 m1 w1 (by omega) hcap) (fun v48 h48 q48 => ?_)
    obtain ⟨⟨msx, hmx, rfl⟩, q9m, f9⟩ := q48
    refine v_ireturn k_Main_changed_51 rfl rfl ?_
    exact ⟨msx, fun _ => hmx, fin1 (by unfold s_changed; (repeat (first | rw [if_pos (by omega)] | rw [if_neg (by omega)])); try rfl) ⟨f9.at hp.1 (by omega), ⟨sg, sd, m1.fr f9 (by omega)⟩, ⟨sg2, sd2, m2.fr f9 (by omega)⟩, q9m, ⟨es, ls, m4.fr f9 (by omega)⟩, m5.fr f9 (by omega), m6.fr f9 (by omega), m7.fr f9 (by omega)⟩ (f9.wd (by omega) (by omega))⟩
  refine v_lookup 52 k_Main_changed_1 hx (by decide) (off := 51) (by simp only [Op.lookupswitch.offset]; rw [if_neg (by omega), if_neg (by omega)]) rfl ?_
  refine v_aload_n k_Main_changed_52 rfl ?_
  refine v_bipush k_Main_changed_53 (by decide) ?_
  refine v_callV mo_Main_refuse mi_Main_refuse mv_Main_refuse lk_Main_67 k_Main_changed_55 m0 rfl rfl (Nat.le_of_ble_eq_true rfl) rfl (Nat.le_of_ble_eq_true rfl) (c_Main_refuse G hp w (by omega)) (fun v55 h55 q55 => ?_)
  obtain ⟨rfl, p9, f9⟩ := q55
  refine v_ireturn k_Main_changed_58 rfl rfl ?_
  exact ⟨[], fun q => by omega, fin1 (by unfold s_changed; (repeat (first | rw [if_pos (by omega)] | rw [if_neg (by omega)])); try rfl) p9 (f9.wd (by omega) (by omega))⟩

set_option maxHeartbeats 4000000 in
set_option maxRecDepth 20000 in
theorem c_Main_count (G : Gx) {h : AH} {o : Nat} {S : St} (hp : pMain h o S) (w : wSt S) {x : Int} (hx : InR x) : Ct G Y_Main_count 4 0 0 [aR o, aI x] h (fun v h' => v = some (aI (s_count S x).1) ∧ pMain h' o (s_count S x).2 ∧ Fr o (o + 73) h h') := by
  obtain ⟨m0, ⟨sg, sd, m1⟩, ⟨sg2, sd2, m2⟩, m3, ⟨es, ls, m4⟩, m5, m6, m7⟩ := id hp
  obtain ⟨k0, k1, k2⟩ := id m1
  have k3 := k1.1
  have j0 := m2.1
  obtain ⟨w1, w2, w3, w4, w5, w6, w7, w8⟩ := id w
  have wu := w1.up (by decide) (by decide)
  obtain ⟨fm, m8⟩ : ∃ fs, h.2 (o + 37) = some (aO 2 fs) := by obtain ⟨_, _, _, _, _, _, q⟩ := m3; exact ⟨_, q.1⟩
  refine Ct.of_V mo_Main_count rfl (Nat.le_of_ble_eq_true rfl) rfl ?_
  refine v_iload_n k_Main_count_0 rfl ?_

  by_cases g0 : x = 0
  · rw [g0]
    refine v_tableIn 52 k_Main_count_1 (by decide) (by decide) (by decide) (off := 51) rfl rfl ?_
    refine v_aload_n k_Main_count_52 rfl ?_
    refine v_getf fl_Main_12 m0 rfl k_Main_count_53 ?_
    refine v_getf fl_Main_91 k0 rfl k_Main_count_56 ?_
    refine v_callVr mo_Tune_notes mi_Tune_notes mv_Tune_notes lk_Main_221 k_Main_count_59 k3 rfl rfl (Nat.le_of_ble_eq_true rfl) rfl (Nat.le_of_ble_eq_true rfl) (c_Tune_notes G k1) ?_
    refine v_ireturn k_Main_count_62 rfl rfl ?_
    exact fin1 (S' := S) (by subst g0; rfl) hp Fr.rf
  by_cases g1 : x = 1
  · rw [g1]
    refine v_tableIn 63 k_Main_count_1 (by decide) (by decide) (by decide) (off := 62) rfl rfl ?_
    refine v_aload_n k_Main_count_63 rfl ?_
    refine v_getf fl_Main_12 m0 rfl k_Main_count_64 ?_
    refine v_callVr mo_Canon_voices mi_Canon_voices mv_Canon_voices lk_Main_210 k_Main_count_67 k0 rfl rfl (Nat.le_of_ble_eq_true rfl) rfl (Nat.le_of_ble_eq_true rfl) (c_Canon_voices G m1) ?_
    refine v_ireturn k_Main_count_70 rfl rfl ?_
    exact fin1 (S' := S) (by subst g1; rfl) hp Fr.rf
  by_cases g2 : x = 2
  · rw [g2]
    refine v_tableIn 71 k_Main_count_1 (by decide) (by decide) (by decide) (off := 70) rfl rfl ?_
    refine v_aload_n k_Main_count_71 rfl ?_
    refine v_getf fl_Main_12 m0 rfl k_Main_count_72 ?_
    refine v_getf fl_Main_91 k0 rfl k_Main_count_75 ?_
    refine v_getf fl_Main_224 k3 rfl k_Main_count_78 ?_
    refine v_ireturn k_Main_count_81 rfl rfl ?_
    exact fin1 (S' := S) (by subst g2; rfl) hp Fr.rf
  by_cases g3 : x = 3
  · rw [g3]
    refine v_tableIn 82 k_Main_count_1 (by decide) (by decide) (by decide) (off := 81) rfl rfl ?_
    refine v_aload_n k_Main_count_82 rfl ?_
    refine v_getf fl_Main_12 m0 rfl k_Main_count_83 ?_
    refine v_callVr mo_Canon_end mi_Canon_end mv_Canon_end lk_Main_227 k_Main_count_86 k0 rfl rfl (Nat.le_of_ble_eq_true rfl) rfl (Nat.le_of_ble_eq_true rfl) (c_Canon_end G m1 wu) ?_
    refine v_ireturn k_Main_count_89 rfl rfl ?_
    exact fin1 (S' := S) (by subst g3; rfl) hp Fr.rf
  by_cases g4 : x = 4
  · rw [g4]
    refine v_tableIn 90 k_Main_count_1 (by decide) (by decide) (by decide) (off := 89) rfl rfl ?_
    refine v_aload_n k_Main_count_90 rfl ?_
    refine v_getf fl_Main_12 m0 rfl k_Main_count_91 ?_
    refine v_getf fl_Main_135 k0 rfl k_Main_count_94 ?_
    refine v_ireturn k_Main_count_97 rfl rfl ?_
    exact fin1 (S' := S) (by subst g4; rfl) hp Fr.rf
  by_cases g5 : x = 5
  · rw [g5]
    refine v_tableIn 98 k_Main_count_1 (by decide) (by decide) (by decide) (off := 97) rfl rfl ?_
    refine v_aload_n k_Main_count_98 rfl ?_
    refine v_getf fl_Main_12 m0 rfl k_Main_count_99 ?_
    refine v_getf fl_Main_139 k0 rfl k_Main_count_102 ?_
    refine v_ireturn k_Main_count_105 rfl rfl ?_
    exact fin1 (S' := S) (by subst g5; rfl) hp Fr.rf
  by_cases g6 : x = 6
  · rw [g6]
    refine v_tableIn 106 k_Main_count_1 (by decide) (by decide) (by decide) (off := 105) rfl rfl ?_
    refine v_aload_n k_Main_count_106 rfl ?_
    refine v_getf fl_Main_12 m0 rfl k_Main_count_107 ?_
    refine v_getf fl_Main_142 k0 rfl k_Main_count_110 ?_
    refine v_ireturn k_Main_count_113 rfl rfl ?_
    exact fin1 (S' := S) (by subst g6; rfl) hp Fr.rf
  by_cases g7 : x = 7
  · rw [g7]
    refine v_tableIn 114 k_Main_count_1 (by decide) (by decide) (by decide) (off := 113) rfl rfl ?_
    refine v_aload_n k_Main_count_114 rfl ?_
    refine v_getf fl_Main_49 m0 rfl k_Main_count_115 ?_
    refine v_callVr mo_Row_size mi_Row_size mv_Row_size lk_Main_209 k_Main_count_118 m6.obj rfl rfl (Nat.le_of_ble_eq_true rfl) rfl (Nat.le_of_ble_eq_true rfl) (c_Row_size G m6) ?_
    refine v_ireturn k_Main_count_121 rfl rfl ?_
    exact fin1 (S' := S) (by subst g7; rfl) hp Fr.rf
  by_cases g8 : x = 8
  · rw [g8]
    refine v_tableIn 122 k_Main_count_1 (by decide) (by decide) (by decide) (off := 121) rfl rfl ?_
    refine v_aload_n k_Main_count_122 rfl ?_
    refine v_getf fl_Main_40 m0 rfl k_Main_count_123 ?_
    refine v_callVr mo_Text_size mi_Text_size mv_Text_size lk_Main_63 k_Main_count_126 m5.1 rfl rfl (Nat.le_of_ble_eq_true rfl) rfl (Nat.le_of_ble_eq_true rfl) (c_Text_size G m5) ?_
    refine v_ireturn k_Main_count_129 rfl rfl ?_
    exact fin1 (S' := S) (by subst g8; rfl) hp Fr.rf
  refine v_tableOut 130 k_Main_count_1 hx (by omega) rfl ?_
  refine v_iload_n k_Main_count_130 rfl ?_
  refine v_bipush k_Main_count_131 (by decide) ?_
  refine v_iclt 156 k_Main_count_133 rfl (by omega) (by omega) (fun c133 => ?_) (fun c133 => ?_)
  · refine v_bipush k_Main_count_156 (by decide) ?_
    refine v_ireturn k_Main_count_158 rfl rfl ?_
    exact fin1 (S' := S) (by unfold s_count; (repeat (first | rw [if_pos (by omega)] | rw [if_neg (by omega)]))) hp Fr.rf
  · refine v_iload_n k_Main_count_136 rfl ?_
    refine v_bipush k_Main_count_137 (by decide) ?_
    refine v_icgt 156 k_Main_count_139 rfl (by omega) (by omega) (fun c139 => ?_) (fun c139 => ?_)
    · refine v_bipush k_Main_count_156 (by decide) ?_
      refine v_ireturn k_Main_count_158 rfl rfl ?_
      exact fin1 (S' := S) (by unfold s_count; (repeat (first | rw [if_pos (by omega)] | rw [if_neg (by omega)]))) hp Fr.rf
    · refine v_aload_n k_Main_count_142 rfl ?_
      refine v_getf fl_Main_53 m0 rfl k_Main_count_143 ?_
      refine v_iload_n k_Main_count_146 rfl ?_
      refine v_bipush k_Main_count_147 (by decide) ?_
      refine v_isub k_Main_count_149 ?_
      refine v_callVr mo_Row_get mi_Row_get mv_Row_get lk_Main_230 k_Main_count_150 m7.obj rfl rfl (Nat.le_of_ble_eq_true rfl) rfl (Nat.le_of_ble_eq_true rfl) (c_Row_get G m7 (i := x - 11) (by omega)) ?_
      refine v_goto k_Main_count_153 (tgt := 158) rfl ?_
      refine v_ireturn k_Main_count_158 rfl rfl ?_
      exact fin1 (S' := S) (by unfold s_count; (repeat (first | rw [if_pos (by omega)] | rw [if_neg (by omega)]))) hp Fr.rf

set_option maxHeartbeats 4000000 in
set_option maxRecDepth 20000 in
theorem c_Main_who (G : Gx) {h : AH} {o : Nat} {S : St} (hp : pMain h o S) (w : wSt S) {x : Int} (hx : InR x) : Ct G Y_Main_who 5 0 0 [aR o, aI x] h (fun v h' => v = some (aI (s_who S x).1) ∧ pMain h' o (s_who S x).2 ∧ Fr o (o + 73) h h') := by
  obtain ⟨m0, ⟨sg, sd, m1⟩, ⟨sg2, sd2, m2⟩, m3, ⟨es, ls, m4⟩, m5, m6, m7⟩ := id hp
  obtain ⟨k0, k1, k2⟩ := id m1
  have k3 := k1.1
  have j0 := m2.1
  obtain ⟨w1, w2, w3, w4, w5, w6, w7, w8⟩ := id w
  have wu := w1.up (by decide) (by decide)
  obtain ⟨fm, m8⟩ : ∃ fs, h.2 (o + 37) = some (aO 2 fs) := by obtain ⟨_, _, _, _, _, _, q⟩ := m3; exact ⟨_, q.1⟩
  have ho := oS_spec x 0 400
  have hk6 := w1.2.2.2.2.2.1
  have hfn : ∀ v, InR (fnH (nK S) v x (nH S) 0) := fun v => fnH_in (nK S) v x (nH S) 0 (by omega)
  refine Ct.of_V mo_Main_who rfl (Nat.le_of_ble_eq_true rfl) rfl ?_
  refine v_iload_n k_Main_who_0 rfl ?_
  refine v_iconst k_Main_who_1 ?_
  refine v_sipush k_Main_who_2 (by decide) ?_
  refine v_callSr mo_Main_outside ms_Main_outside lk_Main_59 k_Main_who_5 rfl (Nat.le_of_ble_eq_true rfl) rfl (Nat.le_of_ble_eq_true rfl) (c_Main_outside G (v := x) (l := 0) (m := 400) (by omega) (by omega) (by omega)) ?_
  refine v_istore_n k_Main_who_8 ⟨Nat.le_of_ble_eq_true rfl, Nat.le_of_ble_eq_true rfl⟩ ?_
  refine v_iload_n k_Main_who_9 rfl ?_
  refine v_ifeq 19 k_Main_who_10 rfl (by omega) (fun c10 => ?_) (fun c10 => ?_)
  · refine v_iconst k_Main_who_19 ?_
    refine v_istore_n k_Main_who_20 ⟨Nat.le_of_ble_eq_true rfl, Nat.le_of_ble_eq_true rfl⟩ ?_
    refine v_iconst k_Main_who_21 ?_
    refine v_istore k_Main_who_22 ⟨Nat.le_of_ble_eq_true rfl, Nat.le_of_ble_eq_true rfl⟩ ?_
    have h0 : oS x 0 400 = 0 := by omega
    have loop : ∀ (k : Nat) (i : Nat), ((kK (nK S)).length < i + k) → (i ≤ (kK (nK S)).length) → V G Y_Main_who 5 0 0 24 [some (aR o), some (aI x), some (aI (oS x 0 400)), some (aI (orb (fun v => decide (fnH (nK S) v x (nH S) 0 = -9)) i : Nat)), some (aI (i : Int))] [] h (fun v h' => v = some (aI (s_who S x).1) ∧ pMain h' o (s_who S x).2 ∧ Fr o (o + 73) h h') := by
      intro k
      induction k with
      | zero => intro i hk hi; exfalso; omega
      | succ k ih =>
        intro i hk hi
        refine v_iload k_Main_who_24 rfl ?_
        refine v_aload_n k_Main_who_26 rfl ?_
        refine v_getf fl_Main_12 m0 rfl k_Main_who_27 ?_
        refine v_callVr mo_Canon_voices mi_Canon_voices mv_Canon_voices lk_Main_210 k_Main_who_30 k0 rfl rfl (Nat.le_of_ble_eq_true rfl) rfl (Nat.le_of_ble_eq_true rfl) (c_Canon_voices G m1) ?_
        refine v_icge 68 k_Main_who_33 rfl (by first | omega | exact hfn _) (by first | omega | exact hfn _) (fun c33 => ?_) (fun c33 => ?_)
        · refine v_iload_n k_Main_who_68 rfl ?_
          refine v_ireturn k_Main_who_69 rfl rfl ?_
          have e : i = (kK (nK S)).length := by omega
          subst e
          exact fin1 (by unfold s_who; rw [if_neg (by omega)]) hp Fr.rf
        · refine v_aload_n k_Main_who_36 rfl ?_
          refine v_getf fl_Main_12 m0 rfl k_Main_who_37 ?_
          refine v_iload k_Main_who_40 rfl ?_
          refine v_iload_n k_Main_who_42 rfl ?_
          refine v_aload_n k_Main_who_43 rfl ?_
          refine v_getf fl_Main_49 m0 rfl k_Main_who_44 ?_
          refine v_callVr mo_Canon_firstNotHeard mi_Canon_firstNotHeard mv_Canon_firstNotHeard lk_Main_213 k_Main_who_47 k0 rfl rfl (Nat.le_of_ble_eq_true rfl) rfl (Nat.le_of_ble_eq_true rfl) (c_Canon_firstNotHeard G m1 wu (v := (i : Int)) (by omega) (by omega) m6 w4) ?_
          refine v_bipush k_Main_who_50 (by decide) ?_
          refine v_icne 62 k_Main_who_52 rfl (by first | omega | exact hfn _) (by first | omega | exact hfn _) (fun c52 => ?_) (fun c52 => ?_)
          · refine v_iinc k_Main_who_62 rfl (Nat.le_of_ble_eq_true rfl) ?_
            refine v_goto k_Main_who_65 (tgt := 24) rfl ?_
            have e : orb (fun v => decide (fnH (nK S) v x (nH S) 0 = -9)) (i + 1) = if decide (fnH (nK S) (i : Int) x (nH S) 0 = -9) = true then orb (fun v => decide (fnH (nK S) v x (nH S) 0 = -9)) i ||| 2 ^ i else orb (fun v => decide (fnH (nK S) v x (nH S) 0 = -9)) i := rfl
            have st := ih (i + 1) (by omega) (by omega)
            rw [e] at st
            first
              | (rw [if_pos (decide_eq_true (by omega))] at st; exact st)
              | (rw [if_neg (fun q => by have := of_decide_eq_true q; omega)] at st; exact st)
          · refine v_iload_n k_Main_who_55 rfl ?_
            refine v_iconst k_Main_who_56 ?_
            refine v_iload k_Main_who_57 rfl ?_
            refine v_bit k_Main_who_59 (by omega) ?_
            rw [Int.toNat_natCast]
            refine v_iorN k_Main_who_60 ?_
            refine v_istore_n k_Main_who_61 ⟨Nat.le_of_ble_eq_true rfl, Nat.le_of_ble_eq_true rfl⟩ ?_
            refine v_iinc k_Main_who_62 rfl (Nat.le_of_ble_eq_true rfl) ?_
            refine v_goto k_Main_who_65 (tgt := 24) rfl ?_
            have e : orb (fun v => decide (fnH (nK S) v x (nH S) 0 = -9)) (i + 1) = if decide (fnH (nK S) (i : Int) x (nH S) 0 = -9) = true then orb (fun v => decide (fnH (nK S) v x (nH S) 0 = -9)) i ||| 2 ^ i else orb (fun v => decide (fnH (nK S) v x (nH S) 0 = -9)) i := rfl
            have st := ih (i + 1) (by omega) (by omega)
            rw [e] at st
            first
              | (rw [if_pos (decide_eq_true (by omega))] at st; exact st)
              | (rw [if_neg (fun q => by have := of_decide_eq_true q; omega)] at st; exact st)
    exact loop ((kK (nK S)).length + 1) 0 (by omega) (by omega)
  · refine v_aload_n k_Main_who_13 rfl ?_
    refine v_iload_n k_Main_who_14 rfl ?_
    refine v_callV mo_Main_refuse mi_Main_refuse mv_Main_refuse lk_Main_67 k_Main_who_15 m0 rfl rfl (Nat.le_of_ble_eq_true rfl) rfl (Nat.le_of_ble_eq_true rfl) (c_Main_refuse G hp w (by omega)) (fun v15 h15 q15 => ?_)
    obtain ⟨rfl, p9, f9⟩ := q15
    refine v_ireturn k_Main_who_18 rfl rfl ?_
    first
      | (exfalso; omega)
      | exact fin1 (by unfold s_who; (repeat (first | rw [if_pos (by omega)] | rw [if_neg (by omega)])); try rfl) p9 (f9.wd (by omega) (by omega))
      | exact fin1 (by unfold s_who; (repeat (first | rw [if_pos (by omega)] | rw [if_neg (by omega)])); try rfl) hp Fr.rf

set_option maxHeartbeats 4000000 in
set_option maxRecDepth 20000 in
theorem c_Main_canon (G : Gx) {h : AH} {o : Nat} {S : St} (hp : pMain h o S) (w : wSt S) : Ct G Y_Main_canon 7 0 0 [aR o] h (fun v h' => v = some (aI (s_canon S).1) ∧ pMain h' o (s_canon S).2 ∧ Fr o (o + 73) h h') := by
  obtain ⟨m0, ⟨sg, sd, m1⟩, ⟨sg2, sd2, m2⟩, m3, ⟨es, ls, m4⟩, m5, m6, m7⟩ := id hp
  obtain ⟨k0, k1, k2⟩ := id m1
  have k3 := k1.1
  have j0 := m2.1
  obtain ⟨w1, w2, w3, w4, w5, w6, w7, w8⟩ := id w
  have wu := w1.up (by decide) (by decide)
  obtain ⟨fm, m8⟩ : ∃ fs, h.2 (o + 37) = some (aO 2 fs) := by obtain ⟨_, _, _, _, _, _, q⟩ := m3; exact ⟨_, q.1⟩
  obtain ⟨Km, sgm, sdm, wsm, tsm, msm, p3⟩ := id m3
  have hfb := ffA_bd (nX S) 80 0 (by omega) (by omega) (by omega)
  have htb := tellA_bd (nX S) 80 0 0 (nK S) (by omega) (by omega) w7
  refine Ct.of_V mo_Main_canon rfl (Nat.le_of_ble_eq_true rfl) rfl ?_
  refine v_aload_n k_Main_canon_0 rfl ?_
  refine v_getf fl_Main_40 m0 rfl k_Main_canon_1 ?_
  refine v_callVr mo_Text_formFault mi_Text_formFault mv_Text_formFault lk_Main_73 k_Main_canon_4 m5.1 rfl rfl (Nat.le_of_ble_eq_true rfl) rfl (Nat.le_of_ble_eq_true rfl) (c_Text_formFault G m5 (fun x hx => by have := w3 x hx; exact ⟨by omega, by omega⟩)) ?_
  refine v_istore_n k_Main_canon_7 ⟨Nat.le_of_ble_eq_true rfl, Nat.le_of_ble_eq_true rfl⟩ ?_
  refine v_iload_n k_Main_canon_8 rfl ?_
  refine v_ifne 45 k_Main_canon_9 rfl (by omega) (fun c9 => ?_) (fun c9 => ?_)
  · refine v_aload_n k_Main_canon_45 rfl ?_
    refine v_getf fl_Main_40 m0 rfl k_Main_canon_46 ?_
    refine v_callV mo_Text_clear mi_Text_clear mv_Text_clear lk_Main_88 k_Main_canon_49 m5.1 rfl rfl (Nat.le_of_ble_eq_true rfl) rfl (Nat.le_of_ble_eq_true rfl) (c_Text_clear G m5) (fun v49 h49 q49 => ?_)
    obtain ⟨rfl, q12, f12⟩ := q49
    refine v_iload_n k_Main_canon_52 rfl ?_
    refine v_ireturn k_Main_canon_53 rfl rfl ?_
    exact fin1 (S' := wX_ S []) (by unfold s_canon; rw [if_pos (by omega)]) ⟨f12.at hp.1 (by omega), ⟨sg, sd, (m1).fr f12 (by omega)⟩, ⟨sg2, sd2, (m2).fr f12 (by omega)⟩, m3.fr f12 (by omega), ⟨es, ls, (m4).fr f12 (by omega)⟩, q12, (m6).fr f12 (by omega), (m7).fr f12 (by omega)⟩ (f12.wd (by omega) (by omega))
  · refine v_aload_n k_Main_canon_12 rfl ?_
    refine v_getf fl_Main_26 m0 rfl k_Main_canon_13 ?_
    refine v_aload_n k_Main_canon_16 rfl ?_
    refine v_getf fl_Main_12 m0 rfl k_Main_canon_17 ?_
    refine v_callV mo_Mind_take mi_Mind_take mv_Mind_take lk_Main_76 k_Main_canon_20 m8 rfl rfl (Nat.le_of_ble_eq_true rfl) rfl (Nat.le_of_ble_eq_true rfl) (c_Mind_take G p3 m1 (by omega)) (fun v20 h20 q20 => ?_)
    obtain ⟨rfl, q3, f8⟩ := q20
    have n0 := f8.at m0 (by omega)
    have n5 := m5.fr f8 (by omega)
    have n1 := m1.fr f8 (by omega)
    have hdd : (o + 37) + 1 = o + 38 := rfl
    have m0 := n0
    refine v_astore_n k_Main_canon_23 ⟨Nat.le_of_ble_eq_true rfl, Nat.le_of_ble_eq_true rfl⟩ ?_
    refine v_aload_n k_Main_canon_24 rfl ?_
    refine v_getf fl_Main_40 m0 rfl k_Main_canon_25 ?_
    refine v_aload_n k_Main_canon_28 rfl ?_
    refine v_callV mo_Text_tellAll mi_Text_tellAll mv_Text_tellAll lk_Main_80 k_Main_canon_29 n5.1 rfl rfl (Nat.le_of_ble_eq_true rfl) rfl (Nat.le_of_ble_eq_true rfl) (c_Text_tellAll G n5 (fun x hx => by have := w3 x hx; exact ⟨by omega, by omega⟩) q3.2.1 w1 (by omega) (fun _ => by omega)) (fun v29 h29 q29 => ?_)
    obtain ⟨rfl, q10, w10, f10⟩ := q29
    have r0 := f10.at n0 (by omega)
    have r1 := n1.fr f10 (by omega)
    have r5 := n5.fr f10 (by omega)
    have m0 := r0
    refine v_istore_n k_Main_canon_32 ⟨Nat.le_of_ble_eq_true rfl, Nat.le_of_ble_eq_true rfl⟩ ?_
    refine v_iload_n k_Main_canon_33 rfl ?_
    refine v_ifle 45 k_Main_canon_34 rfl (by omega) (fun c34 => ?_) (fun c34 => ?_)
    · refine v_aload_n k_Main_canon_45 rfl ?_
      refine v_getf fl_Main_40 m0 rfl k_Main_canon_46 ?_
      refine v_callV mo_Text_clear mi_Text_clear mv_Text_clear lk_Main_88 k_Main_canon_49 r5.1 rfl rfl (Nat.le_of_ble_eq_true rfl) rfl (Nat.le_of_ble_eq_true rfl) (c_Text_clear G r5) (fun v49 h49 q49 => ?_)
      obtain ⟨rfl, q12, f12⟩ := q49
      refine v_iload_n k_Main_canon_52 rfl ?_
      refine v_ireturn k_Main_canon_53 rfl rfl ?_
      exact fin1 (S' := wX_ S []) (by unfold s_canon; rw [if_neg (by omega), if_neg (by omega)]) ⟨f12.at (f10.at (f8.at hp.1 (by omega)) (by omega)) (by omega), ⟨sg, sd, (((m1).fr f8 (by omega)).fr f10 (by omega)).fr f12 (by omega)⟩, ⟨sg2, sd2, (((m2).fr f8 (by omega)).fr f10 (by omega)).fr f12 (by omega)⟩, ⟨_, _, _, _, _, _, (f12.at (f10.at q3.1 (by omega)) (by omega)), q10.fr f12 (by omega), (q3.2.2.1.fr f10 (by omega)).fr f12 (by omega), (q3.2.2.2.fr f10 (by omega)).fr f12 (by omega)⟩, ⟨es, ls, (((m4).fr f8 (by omega)).fr f10 (by omega)).fr f12 (by omega)⟩, q12, (((m6).fr f8 (by omega)).fr f10 (by omega)).fr f12 (by omega), (((m7).fr f8 (by omega)).fr f10 (by omega)).fr f12 (by omega)⟩ (Fr.tr (Fr.tr (f8.wd (by omega) (by omega)) f10 (by omega) (by omega)) f12 (by omega) (by omega))
    · refine v_aload_n k_Main_canon_37 rfl ?_
      refine v_getf fl_Main_12 m0 rfl k_Main_canon_38 ?_
      refine v_aload_n k_Main_canon_41 rfl ?_
      refine v_callV mo_Canon_copyFrom mi_Canon_copyFrom mv_Canon_copyFrom lk_Main_84 k_Main_canon_42 r1.1 rfl rfl (Nat.le_of_ble_eq_true rfl) rfl (Nat.le_of_ble_eq_true rfl) (c_Canon_copyFrom G r1 q10 (by omega)) (fun v42 h42 q42 => ?_)
      obtain ⟨rfl, q11, f11⟩ := q42
      have s5 := r5.fr f11 (by omega)
      have m0 := f11.at r0 (by omega)
      refine v_aload_n k_Main_canon_45 rfl ?_
      refine v_getf fl_Main_40 m0 rfl k_Main_canon_46 ?_
      refine v_callV mo_Text_clear mi_Text_clear mv_Text_clear lk_Main_88 k_Main_canon_49 s5.1 rfl rfl (Nat.le_of_ble_eq_true rfl) rfl (Nat.le_of_ble_eq_true rfl) (c_Text_clear G s5) (fun v49 h49 q49 => ?_)
      obtain ⟨rfl, q12, f12⟩ := q49
      refine v_iload_n k_Main_canon_52 rfl ?_
      refine v_ireturn k_Main_canon_53 rfl rfl ?_
      exact fin1 (S' := wX_ (wK_ S (tellA (nX S) 80 0 0 (nK S)).2) []) (by unfold s_canon; rw [if_neg (by omega), if_pos (by omega)]) ⟨f12.at (f11.at (f10.at (f8.at hp.1 (by omega)) (by omega)) (by omega)) (by omega), ⟨sg, sd, q11.fr f12 (by omega)⟩, ⟨sg2, sd2, ((((m2).fr f8 (by omega)).fr f10 (by omega)).fr f11 (by omega)).fr f12 (by omega)⟩, ⟨_, _, _, _, _, _, (f12.at (f11.at (f10.at q3.1 (by omega)) (by omega)) (by omega)), (q10.fr f11 (by omega)).fr f12 (by omega), ((q3.2.2.1.fr f10 (by omega)).fr f11 (by omega)).fr f12 (by omega), ((q3.2.2.2.fr f10 (by omega)).fr f11 (by omega)).fr f12 (by omega)⟩, ⟨es, ls, ((((m4).fr f8 (by omega)).fr f10 (by omega)).fr f11 (by omega)).fr f12 (by omega)⟩, q12, ((((m6).fr f8 (by omega)).fr f10 (by omega)).fr f11 (by omega)).fr f12 (by omega), ((((m7).fr f8 (by omega)).fr f10 (by omega)).fr f11 (by omega)).fr f12 (by omega)⟩ (Fr.tr (Fr.tr (Fr.tr (f8.wd (by omega) (by omega)) f10 (by omega) (by omega)) f11 (by omega) (by omega)) f12 (by omega) (by omega))
