/-- the last who sounds agrees with those ahead -/
def laO (W a : Int) : List (Int × Int) → Bool
  | [] => true
  | q :: t => wl W (a - q.2) && laO W a t
def laI (K : CK) (b : Int) : Bool := laO (kW K) (rget ((so K b).map Prod.snd) (((so K b).length : Int) - 1)) ((so K b).take ((so K b).length - 1))
def laB (K : CK) : Nat → Int → Bool
  | 0, _ => true
  | k + 1, b => laI K b && laB K k (b + 1)
/-- the least, the greatest that a voice sounds -/
def far (K : CK) (v u : Int) : Nat → Int → Int → Int
  | 0, _, acc => acc
  | k + 1, b, acc => far K v u k (b + 1) (if acc = 999 then sO K v b else if u = 0 then min acc (sO K v b) else max acc (sO K v b))
/-- stop -/
def sts (K : CK) (b : Int) : Nat → Int
  | 0 => 0
  | n + 1 => if 0 < q_rB K n ∧ 0 ≤ b - rget (kE K) n then max (sts K b n) (rget (kE K) n + min ((b - rget (kE K) n) / q_rB K n + 1) (kR K) * q_rB K n) else sts K b n
/-- two that sound the same -/
def unI (a : Int) : List (Int × Int) → Bool
  | [] => false
  | q :: t => decide (a = q.2) || unI a t
def unP : List (Int × Int) → Bool
  | [] => false
  | q :: t => unI q.2 t || unP t
def unS (K : CK) : Nat → Int
  | 0 => 0
  | n + 1 => unS K n + (if unP (so K n) then 1 else 0)
/-- the first number of a row that a voice does not sound from a beat on -/
def fnH (K : CK) (v b : Int) : List Int → Nat → Int
  | [], _ => -9
  | x :: t, i => if x = (if sO K v (b + i) = 999 then 60 else sO K v (b + i) + 10) then fnH K v b t (i + 1) else (i : Int)
theorem take_drop_at {α : Type} {L : List α} {m j : Nat} (hm : m ≤ L.length) (hj : j < m) : (L.take m).drop j = L[j] :: (L.take m).drop (j + 1) := by
  have h1 : j < (L.take m).length := by rw [List.length_take]; omega
  rw [drop_at h1, List.getElem_take]
set_option maxHeartbeats 4000000 in
set_option maxRecDepth 20000 in
theorem c_Canon_lastAgreesWithAll (G : Gx) {h : AH} {c : Nat} {K : CK} {sg sd : List Int} (hp : pCanon h c K sg sd) (w : wK K) (hv1 : 1 ≤ (kK K).length) : Ct G Y_Canon_lastAgreesWithAll 6 0 0 [aR c] h (fun v h' => v = some (aI (if laB K (q_stl K ((kK K).length - 1) - rget (kE K) ((kK K).length - 1)).toNat (rget (kE K) ((kK K).length - 1)) then 1 else 0)) ∧ ∃ sg sd, pCanon h' c K sg sd ∧ Fr (c + 14) (c + 18) h h') := by
  obtain ⟨c0, c1, c2, c3, c4, c5, c6⟩ := id hp
  have hbt : (nob (kL K)).length = bt K := rfl
  have b1 := w.stl ((kK K).length - 1)
  have b3 := w.nv
  have b4 := w.en ((kK K).length - 1)
  have b5 := w.rr ((kK K).length - 1)
  have b6 : q_stl K ((kK K).length - 1) = rget (kE K) ((kK K).length - 1) + kR K * q_rB K ((kK K).length - 1) := rfl
  refine Ct.of_V mo_Canon_lastAgreesWithAll rfl (Nat.le_of_ble_eq_true rfl) rfl ?_
  have loopb : ∀ (kb : Nat) (b : Int) (h1 : AH) (x z : Option AV), (q_stl K ((kK K).length - 1) = b + kb) → (0 ≤ b) → (laB K kb b = laB K (q_stl K ((kK K).length - 1) - rget (kE K) ((kK K).length - 1)).toNat (rget (kE K) ((kK K).length - 1))) → ∀ sg sd, pCanon h1 c K sg sd → Fr (c + 14) (c + 18) h h1 → V G Y_Canon_lastAgreesWithAll 6 0 0 22 [some (aR c), some (aI (((kK K).length : Int) - 1)), some (aI (q_stl K ((kK K).length - 1))), some (aI b), x, z] [] h1 (fun v h' => v = some (aI (if laB K (q_stl K ((kK K).length - 1) - rget (kE K) ((kK K).length - 1)).toNat (rget (kE K) ((kK K).length - 1)) then 1 else 0)) ∧ ∃ sg sd, pCanon h' c K sg sd ∧ Fr (c + 14) (c + 18) h h') := by
    intro kb
    induction kb with
    | zero =>
      intro b h1 x z hk hb0 hb sg1 sd1 hp1 f1
      refine v_iload_n k_Canon_lastAgreesWithAll_22 rfl ?_
      refine v_iload_n k_Canon_lastAgreesWithAll_23 rfl ?_
      refine v_icge 78 k_Canon_lastAgreesWithAll_24 rfl (by omega) (by omega) (fun c24 => ?_) (fun c24 => ?_)
      · refine v_iconst k_Canon_lastAgreesWithAll_78 ?_
        refine v_ireturn k_Canon_lastAgreesWithAll_79 rfl (by first | rfl | (split <;> rfl)) ?_
        refine ⟨?_, _, _, hp1, f1⟩
        rw [← hb]
        rfl
      · exfalso; omega
    | succ kb ihb =>
      intro b h1 x z hk hb0 hb sg1 sd1 hp1 f1
      obtain ⟨c0, c1, c2, c3, c4, c5, c6⟩ := id hp1
      have hbt : (nob (kL K)).length = bt K := rfl
      refine v_iload_n k_Canon_lastAgreesWithAll_22 rfl ?_
      refine v_iload_n k_Canon_lastAgreesWithAll_23 rfl ?_
      refine v_icge 78 k_Canon_lastAgreesWithAll_24 rfl (by omega) (by omega) (fun c24 => ?_) (fun c24 => ?_)
      · exfalso; omega
      · refine v_aload_n k_Canon_lastAgreesWithAll_27 rfl ?_
        refine v_iload_n k_Canon_lastAgreesWithAll_28 rfl ?_
        refine v_callV mo_Canon_listen mi_Canon_listen mv_Canon_listen lk_Canon_127 k_Canon_lastAgreesWithAll_29 c0 rfl rfl (Nat.le_of_ble_eq_true rfl) rfl (Nat.le_of_ble_eq_true rfl) (c_Canon_listen G hp1 w (by omega)) (fun v29 h29 q29 => ?_)
        obtain ⟨rfl, hp2, f3⟩ := q29
        have f2 := f1.tr f3 (by omega) (by omega)
        obtain ⟨c0, c1, c2, c3, c4, c5, c6⟩ := id hp2
        have el1 : ((so K b).map Prod.fst).length = (so K b).length := List.length_map _
        have el2 : ((so K b).map Prod.snd).length = (so K b).length := List.length_map _
        have b2 := so_len w b
        refine v_aload_n k_Canon_lastAgreesWithAll_32 rfl ?_
        refine v_getf fl_Canon_33 c0 rfl k_Canon_lastAgreesWithAll_33 ?_
        refine v_callVr mo_Row_size mi_Row_size mv_Row_size lk_Canon_56 k_Canon_lastAgreesWithAll_36 c5.obj rfl rfl (Nat.le_of_ble_eq_true rfl) rfl (Nat.le_of_ble_eq_true rfl) (c_Row_size G c5) ?_
        refine v_iconst k_Canon_lastAgreesWithAll_39 ?_
        refine v_isub k_Canon_lastAgreesWithAll_40 ?_
        refine v_istore k_Canon_lastAgreesWithAll_41 ⟨Nat.le_of_ble_eq_true rfl, Nat.le_of_ble_eq_true rfl⟩ ?_
        refine v_iconst k_Canon_lastAgreesWithAll_43 ?_
        refine v_istore k_Canon_lastAgreesWithAll_44 ⟨Nat.le_of_ble_eq_true rfl, Nat.le_of_ble_eq_true rfl⟩ ?_
        have loop2 : ∀ (k2 : Nat) (j : Nat), ((so K b).length < j + k2) → (j ≤ (so K b).length - 1) → (laO (kW K) (rget ((so K b).map Prod.snd) (((so K b).length : Int) - 1)) (((so K b).take ((so K b).length - 1)).drop j) = laI K b) → V G Y_Canon_lastAgreesWithAll 6 0 0 46 [some (aR c), some (aI (((kK K).length : Int) - 1)), some (aI (q_stl K ((kK K).length - 1))), some (aI b), some (aI ((((so K b).map Prod.fst).length : Int) - 1)), some (aI j)] [] h29 (fun v h' => v = some (aI (if laB K (q_stl K ((kK K).length - 1) - rget (kE K) ((kK K).length - 1)).toNat (rget (kE K) ((kK K).length - 1)) then 1 else 0)) ∧ ∃ sg sd, pCanon h' c K sg sd ∧ Fr (c + 14) (c + 18) h h') := by
          intro k2
          induction k2 with
          | zero => intro j hk2 hj ht; exfalso; omega
          | succ k2 ih2 =>
            intro j hk2 hj ht
            refine v_iload k_Canon_lastAgreesWithAll_46 rfl ?_
            refine v_iload k_Canon_lastAgreesWithAll_48 rfl ?_
            refine v_icge 72 k_Canon_lastAgreesWithAll_50 rfl (by omega) (by omega) (fun c50 => ?_) (fun c50 => ?_)
            · have ej : j = (so K b).length - 1 := by omega
              refine v_iinc k_Canon_lastAgreesWithAll_72 rfl (Nat.le_of_ble_eq_true rfl) ?_
              refine v_goto k_Canon_lastAgreesWithAll_75 (tgt := 22) rfl ?_
              have hI : laI K b = true := by
                rw [← ht, ej, List.drop_eq_nil_of_le (by rw [List.length_take]; omega)]
                rfl
              refine ihb (b + 1) _ _ _ (by omega) (by omega) ?_ _ _ hp2 f2
              rw [← hb]
              simp only [laB]
              rw [hI, Bool.true_and]
            · refine v_aload_n k_Canon_lastAgreesWithAll_53 rfl ?_
              refine v_iload k_Canon_lastAgreesWithAll_54 rfl ?_
              refine v_iload k_Canon_lastAgreesWithAll_56 rfl ?_
              refine v_callVr mo_Canon_clash mi_Canon_clash mv_Canon_clash lk_Canon_130 k_Canon_lastAgreesWithAll_58 c0 rfl rfl (Nat.le_of_ble_eq_true rfl) rfl (Nat.le_of_ble_eq_true rfl) (c_Canon_clash G hp2 w (so_sd w b) (by omega) (by omega)) ?_
              refine v_ifeq 66 k_Canon_lastAgreesWithAll_61 rfl (by split <;> decide) (fun c61 => ?_) (fun c61 => ?_)
              · refine v_iinc k_Canon_lastAgreesWithAll_66 rfl (Nat.le_of_ble_eq_true rfl) ?_
                refine v_goto k_Canon_lastAgreesWithAll_69 (tgt := 46) rfl ?_
                refine ih2 (j + 1) (by omega) (by omega) ?_
                have hq : wl (kW K) (rget ((so K b).map Prod.snd) (((so K b).length : Int) - 1) - rget ((so K b).map Prod.snd) j) = true := by
                  apply Classical.byContradiction
                  intro hq
                  rw [el1] at c61
                  rw [if_neg hq] at c61
                  exact absurd c61 (by decide)
                rw [take_drop_at (by omega) (show j < (so K b).length - 1 by omega)] at ht
                simp only [laO] at ht
                rw [← rgM Prod.snd (L := so K b) (i := j) (by omega), hq, Bool.true_and] at ht
                exact ht
              · refine v_iconst k_Canon_lastAgreesWithAll_64 ?_
                refine v_ireturn k_Canon_lastAgreesWithAll_65 rfl (by first | rfl | (split <;> rfl)) ?_
                refine ⟨?_, _, _, hp2, f2⟩
                have hq : ¬ wl (kW K) (rget ((so K b).map Prod.snd) (((so K b).length : Int) - 1) - rget ((so K b).map Prod.snd) j) = true := by
                  intro hq
                  rw [el1] at c61
                  rw [if_pos hq] at c61
                  exact c61 rfl
                rw [take_drop_at (by omega) (show j < (so K b).length - 1 by omega)] at ht
                simp only [laO] at ht
                rw [← rgM Prod.snd (L := so K b) (i := j) (by omega), (Bool.not_eq_true _).mp hq, Bool.false_and] at ht
                have e : laB K (kb + 1) b = false := by simp only [laB]; rw [← ht, Bool.false_and]
                rw [← hb, e]
                rfl
        exact loop2 8 0 (by omega) (by omega) (by rw [List.drop_zero]; rfl)
  refine v_aload_n k_Canon_lastAgreesWithAll_0 rfl ?_
  refine v_callVr mo_Canon_voices mi_Canon_voices mv_Canon_voices lk_Canon_80 k_Canon_lastAgreesWithAll_1 c0 rfl rfl (Nat.le_of_ble_eq_true rfl) rfl (Nat.le_of_ble_eq_true rfl) (c_Canon_voices G hp) ?_
  refine v_iconst k_Canon_lastAgreesWithAll_4 ?_
  refine v_isub k_Canon_lastAgreesWithAll_5 ?_
  refine v_istore_n k_Canon_lastAgreesWithAll_6 ⟨Nat.le_of_ble_eq_true rfl, Nat.le_of_ble_eq_true rfl⟩ ?_
  refine v_aload_n k_Canon_lastAgreesWithAll_7 rfl ?_
  refine v_iload_n k_Canon_lastAgreesWithAll_8 rfl ?_
  refine v_callVr mo_Canon_stillFrom mi_Canon_stillFrom mv_Canon_stillFrom lk_Canon_93 k_Canon_lastAgreesWithAll_9 c0 rfl rfl (Nat.le_of_ble_eq_true rfl) rfl (Nat.le_of_ble_eq_true rfl) (c_Canon_stillFrom G hp w (by omega)) ?_
  refine v_istore_n k_Canon_lastAgreesWithAll_12 ⟨Nat.le_of_ble_eq_true rfl, Nat.le_of_ble_eq_true rfl⟩ ?_
  refine v_aload_n k_Canon_lastAgreesWithAll_13 rfl ?_
  refine v_getf fl_Canon_27 c0 rfl k_Canon_lastAgreesWithAll_14 ?_
  refine v_iload_n k_Canon_lastAgreesWithAll_17 rfl ?_
  refine v_callVr mo_Row_get mi_Row_get mv_Row_get lk_Canon_64 k_Canon_lastAgreesWithAll_18 c3.obj rfl rfl (Nat.le_of_ble_eq_true rfl) rfl (Nat.le_of_ble_eq_true rfl) (c_Row_get G c3 (by omega)) ?_
  refine v_istore_n k_Canon_lastAgreesWithAll_21 ⟨Nat.le_of_ble_eq_true rfl, Nat.le_of_ble_eq_true rfl⟩ ?_
  exact loopb (q_stl K ((kK K).length - 1) - rget (kE K) ((kK K).length - 1)).toNat _ h _ _ (by omega) (by omega) rfl _ _ hp Fr.rf

set_option maxHeartbeats 4000000 in
set_option maxRecDepth 20000 in
theorem c_Canon_farthestSound (G : Gx) {h : AH} {c : Nat} {K : CK} {sg sd : List Int} (hp : pCanon h c K sg sd) (w : wK K) {v u : Int} (hv : InR v) (hu : 0 ≤ u ∧ u ≤ 1) : Ct G Y_Canon_farthestSound 4 0 0 [aR c, aI v, aI u] h (isR (some (aI (far K v u (q_stl K v - rget (kE K) v).toNat (rget (kE K) v) 999))) h) := by
  obtain ⟨c0, c1, c2, c3, c4, c5, c6⟩ := id hp
  have hbt : (nob (kL K)).length = bt K := rfl
  have b1 := w.stl v
  have b4 := w.en v
  have b5 := w.rr v
  have b6 : q_stl K v = rget (kE K) v + kR K * q_rB K v := rfl
  refine Ct.of_V mo_Canon_farthestSound rfl (Nat.le_of_ble_eq_true rfl) rfl ?_
  have loop : ∀ (k : Nat) (b acc : Int) (x : Option AV), (q_stl K v = b + k) → (0 ≤ b) → (-9 ≤ acc ∧ acc ≤ 999) → (far K v u k b acc = far K v u (q_stl K v - rget (kE K) v).toNat (rget (kE K) v) 999) → V G Y_Canon_farthestSound 4 0 0 21 [some (aR c), some (aI v), some (aI u), some (aI acc), some (aI (q_stl K v)), some (aI b), x] [] h (isR (some (aI (far K v u (q_stl K v - rget (kE K) v).toNat (rget (kE K) v) 999))) h) := by
    intro k
    induction k with
    | zero =>
      intro b acc x hk hb ha ht
      refine v_iload k_Canon_farthestSound_21 rfl ?_
      refine v_iload k_Canon_farthestSound_23 rfl ?_
      refine v_icge 76 k_Canon_farthestSound_25 rfl (by omega) (by omega) (fun c25 => ?_) (fun c25 => ?_)
      · refine v_iload_n k_Canon_farthestSound_76 rfl ?_
        refine v_ireturn k_Canon_farthestSound_77 rfl rfl ?_
        refine ⟨?_, rfl⟩
        rw [← ht]
        rfl
      · exfalso; omega
    | succ k ih =>
      intro b acc x hk hb ha ht
      have s1 := sO_bd w v b
      refine v_iload k_Canon_farthestSound_21 rfl ?_
      refine v_iload k_Canon_farthestSound_23 rfl ?_
      refine v_icge 76 k_Canon_farthestSound_25 rfl (by omega) (by omega) (fun c25 => ?_) (fun c25 => ?_)
      · exfalso; omega
      · refine v_aload_n k_Canon_farthestSound_28 rfl ?_
        refine v_iload_n k_Canon_farthestSound_29 rfl ?_
        refine v_iload k_Canon_farthestSound_30 rfl ?_
        refine v_callVr mo_Canon_soundOf mi_Canon_soundOf mv_Canon_soundOf lk_Canon_120 k_Canon_farthestSound_32 c0 rfl rfl (Nat.le_of_ble_eq_true rfl) rfl (Nat.le_of_ble_eq_true rfl) (c_Canon_soundOf G hp w (by omega) (by omega)) ?_
        refine v_istore k_Canon_farthestSound_35 ⟨Nat.le_of_ble_eq_true rfl, Nat.le_of_ble_eq_true rfl⟩ ?_
        refine v_iload_n k_Canon_farthestSound_37 rfl ?_
        refine v_sipush k_Canon_farthestSound_38 (by decide) ?_
        refine v_icne 50 k_Canon_farthestSound_41 rfl (by omega) (by omega) (fun c41 => ?_) (fun c41 => ?_)
        · refine v_iload_n k_Canon_farthestSound_50 rfl ?_
          refine v_ifeq 63 k_Canon_farthestSound_51 rfl (by omega) (fun c51 => ?_) (fun c51 => ?_)
          · refine v_iload_n k_Canon_farthestSound_63 rfl ?_
            refine v_iload k_Canon_farthestSound_64 rfl ?_
            refine v_mmin k_Canon_farthestSound_66 lm_Canon_139 (by omega) (by omega) (Nat.le_of_ble_eq_true rfl) (Nat.le_of_ble_eq_true rfl) ?_
            refine v_istore_n k_Canon_farthestSound_69 ⟨Nat.le_of_ble_eq_true rfl, Nat.le_of_ble_eq_true rfl⟩ ?_
            refine v_iinc k_Canon_farthestSound_70 rfl (Nat.le_of_ble_eq_true rfl) ?_
            refine v_goto k_Canon_farthestSound_73 (tgt := 21) rfl ?_
            refine ih (b + 1) _ _ (by omega) (by omega) (by omega) ?_
            rw [← ht]
            simp only [far]
            first
              | (rw [if_pos (by omega)]; done)
              | (rw [if_neg (by omega), if_pos (by omega)]; done)
              | (rw [if_neg (by omega), if_neg (by omega)]; done)
            skip
          · refine v_iload_n k_Canon_farthestSound_54 rfl ?_
            refine v_iload k_Canon_farthestSound_55 rfl ?_
            refine v_mmax k_Canon_farthestSound_57 lm_Canon_96 (by omega) (by omega) (Nat.le_of_ble_eq_true rfl) (Nat.le_of_ble_eq_true rfl) ?_
            refine v_goto k_Canon_farthestSound_60 (tgt := 69) rfl ?_
            refine v_istore_n k_Canon_farthestSound_69 ⟨Nat.le_of_ble_eq_true rfl, Nat.le_of_ble_eq_true rfl⟩ ?_
            refine v_iinc k_Canon_farthestSound_70 rfl (Nat.le_of_ble_eq_true rfl) ?_
            refine v_goto k_Canon_farthestSound_73 (tgt := 21) rfl ?_
            refine ih (b + 1) _ _ (by omega) (by omega) (by omega) ?_
            rw [← ht]
            simp only [far]
            first
              | (rw [if_pos (by omega)]; done)
              | (rw [if_neg (by omega), if_pos (by omega)]; done)
              | (rw [if_neg (by omega), if_neg (by omega)]; done)
            skip
        · refine v_iload k_Canon_farthestSound_44 rfl ?_
          refine v_istore_n k_Canon_farthestSound_46 ⟨Nat.le_of_ble_eq_true rfl, Nat.le_of_ble_eq_true rfl⟩ ?_
          refine v_goto k_Canon_farthestSound_47 (tgt := 70) rfl ?_
          refine v_iinc k_Canon_farthestSound_70 rfl (Nat.le_of_ble_eq_true rfl) ?_
          refine v_goto k_Canon_farthestSound_73 (tgt := 21) rfl ?_
          refine ih (b + 1) _ _ (by omega) (by omega) (by omega) ?_
          rw [← ht]
          simp only [far]
          first
            | (rw [if_pos (by omega)]; done)
            | (rw [if_neg (by omega), if_pos (by omega)]; done)
            | (rw [if_neg (by omega), if_neg (by omega)]; done)
          skip
  refine v_sipush k_Canon_farthestSound_0 (by decide) ?_
  refine v_istore_n k_Canon_farthestSound_3 ⟨Nat.le_of_ble_eq_true rfl, Nat.le_of_ble_eq_true rfl⟩ ?_
  refine v_aload_n k_Canon_farthestSound_4 rfl ?_
  refine v_iload_n k_Canon_farthestSound_5 rfl ?_
  refine v_callVr mo_Canon_stillFrom mi_Canon_stillFrom mv_Canon_stillFrom lk_Canon_93 k_Canon_farthestSound_6 c0 rfl rfl (Nat.le_of_ble_eq_true rfl) rfl (Nat.le_of_ble_eq_true rfl) (c_Canon_stillFrom G hp w (by omega)) ?_
  refine v_istore k_Canon_farthestSound_9 ⟨Nat.le_of_ble_eq_true rfl, Nat.le_of_ble_eq_true rfl⟩ ?_
  refine v_aload_n k_Canon_farthestSound_11 rfl ?_
  refine v_getf fl_Canon_27 c0 rfl k_Canon_farthestSound_12 ?_
  refine v_iload_n k_Canon_farthestSound_15 rfl ?_
  refine v_callVr mo_Row_get mi_Row_get mv_Row_get lk_Canon_64 k_Canon_farthestSound_16 c3.obj rfl rfl (Nat.le_of_ble_eq_true rfl) rfl (Nat.le_of_ble_eq_true rfl) (c_Row_get G c3 (by omega)) ?_
  refine v_istore k_Canon_farthestSound_19 ⟨Nat.le_of_ble_eq_true rfl, Nat.le_of_ble_eq_true rfl⟩ ?_
  exact loop (q_stl K v - rget (kE K) v).toNat _ _ _ (by omega) (by omega) (by omega) rfl

theorem sts_bd {K : CK} (w : wK K) {b : Int} : ∀ n : Nat, 0 ≤ sts K b n ∧ sts K b n ≤ 356
  | 0 => by simp [sts]
  | n + 1 => by
    have h1 := sts_bd w (b := b) n
    have h2 := w.en n
    have h3 := w.rB n
    have h4 := w.rd
    simp only [sts]
    split
    · rename_i hc
      have h5 := Int.ediv_nonneg hc.2 (Int.le_of_lt hc.1)
      have h6 : 0 ≤ min ((b - rget (kE K) n) / q_rB K n + 1) (kR K) * q_rB K n ∧ min ((b - rget (kE K) n) / q_rB K n + 1) (kR K) * q_rB K n ≤ 4 * 74 := mul_bd (by omega) (by omega) h3.1 h3.2
      omega
    · exact h1
set_option maxHeartbeats 4000000 in
set_option maxRecDepth 20000 in
theorem c_Canon_stillIfStoppedAt (G : Gx) {h : AH} {c : Nat} {K : CK} {sg sd : List Int} (hp : pCanon h c K sg sd) (w : wK K) {b : Int} (hb : 0 ≤ b ∧ b ≤ 400) : Ct G Y_Canon_stillIfStoppedAt 3 0 0 [aR c, aI b] h (isR (some (aI (sts K b (kK K).length))) h) := by
  obtain ⟨c0, c1, c2, c3, c4, c5, c6⟩ := id hp
  have hbt : (nob (kL K)).length = bt K := rfl
  have b3 := w.nv
  refine Ct.of_V mo_Canon_stillIfStoppedAt rfl (Nat.le_of_ble_eq_true rfl) rfl ?_
  have loop : ∀ (k : Nat) (i : Nat), ((kK K).length < i + k) → (i ≤ (kK K).length) → ∀ x z y : Option AV, V G Y_Canon_stillIfStoppedAt 3 0 0 4 [some (aR c), some (aI b), some (aI (sts K b i)), some (aI i), x, z, y] [] h (isR (some (aI (sts K b (kK K).length))) h) := by
    intro k
    induction k with
    | zero => intro i hk hi; exfalso; omega
    | succ k ih =>
      intro i hk hi
      intro x z y
      have g1 := sts_bd w (b := b) i
      have g2 := w.en i
      have g3 := w.rB i
      have g4 := w.rd
      refine v_iload_n k_Canon_stillIfStoppedAt_4 rfl ?_
      refine v_aload_n k_Canon_stillIfStoppedAt_5 rfl ?_
      refine v_callVr mo_Canon_voices mi_Canon_voices mv_Canon_voices lk_Canon_80 k_Canon_stillIfStoppedAt_6 c0 rfl rfl (Nat.le_of_ble_eq_true rfl) rfl (Nat.le_of_ble_eq_true rfl) (c_Canon_voices G hp) ?_
      refine v_icge 82 k_Canon_stillIfStoppedAt_9 rfl (by omega) (by omega) (fun c9 => ?_) (fun c9 => ?_)
      · refine v_iload_n k_Canon_stillIfStoppedAt_82 rfl ?_
        refine v_ireturn k_Canon_stillIfStoppedAt_83 rfl rfl ?_
        have e : i = (kK K).length := by omega
        subst e
        exact ⟨rfl, rfl⟩
      · refine v_aload_n k_Canon_stillIfStoppedAt_12 rfl ?_
        refine v_iload_n k_Canon_stillIfStoppedAt_13 rfl ?_
        refine v_callVr mo_Canon_roundBeats mi_Canon_roundBeats mv_Canon_roundBeats lk_Canon_90 k_Canon_stillIfStoppedAt_14 c0 rfl rfl (Nat.le_of_ble_eq_true rfl) rfl (Nat.le_of_ble_eq_true rfl) (c_Canon_roundBeats G hp w (by omega)) ?_
        refine v_istore k_Canon_stillIfStoppedAt_17 ⟨Nat.le_of_ble_eq_true rfl, Nat.le_of_ble_eq_true rfl⟩ ?_
        refine v_iload_n k_Canon_stillIfStoppedAt_19 rfl ?_
        refine v_aload_n k_Canon_stillIfStoppedAt_20 rfl ?_
        refine v_getf fl_Canon_27 c0 rfl k_Canon_stillIfStoppedAt_21 ?_
        refine v_iload_n k_Canon_stillIfStoppedAt_24 rfl ?_
        refine v_callVr mo_Row_get mi_Row_get mv_Row_get lk_Canon_64 k_Canon_stillIfStoppedAt_25 c3.obj rfl rfl (Nat.le_of_ble_eq_true rfl) rfl (Nat.le_of_ble_eq_true rfl) (c_Row_get G c3 (by omega)) ?_
        refine v_isub k_Canon_stillIfStoppedAt_28 ?_
        refine v_istore k_Canon_stillIfStoppedAt_29 ⟨Nat.le_of_ble_eq_true rfl, Nat.le_of_ble_eq_true rfl⟩ ?_
        refine v_iload k_Canon_stillIfStoppedAt_31 rfl ?_
        refine v_ifle 76 k_Canon_stillIfStoppedAt_33 rfl (by omega) (fun c33 => ?_) (fun c33 => ?_)
        · refine v_iinc k_Canon_stillIfStoppedAt_76 rfl (Nat.le_of_ble_eq_true rfl) ?_
          refine v_goto k_Canon_stillIfStoppedAt_79 (tgt := 4) rfl ?_
          have e := ih (i + 1) (by omega) (by omega)
          simp only [sts] at e
          first
            | (rw [if_pos (by omega)] at e; exact e _ _ _)
            | (rw [if_neg (by omega)] at e; exact e _ _ _)
          skip
        · refine v_iload k_Canon_stillIfStoppedAt_36 rfl ?_
          refine v_iflt 76 k_Canon_stillIfStoppedAt_38 rfl (by omega) (fun c38 => ?_) (fun c38 => ?_)
          · refine v_iinc k_Canon_stillIfStoppedAt_76 rfl (Nat.le_of_ble_eq_true rfl) ?_
            refine v_goto k_Canon_stillIfStoppedAt_79 (tgt := 4) rfl ?_
            have e := ih (i + 1) (by omega) (by omega)
            simp only [sts] at e
            first
              | (rw [if_pos (by omega)] at e; exact e _ _ _)
              | (rw [if_neg (by omega)] at e; exact e _ _ _)
            skip
          · refine v_iload k_Canon_stillIfStoppedAt_41 rfl ?_
            refine v_iload k_Canon_stillIfStoppedAt_43 rfl ?_
            refine v_idiv k_Canon_stillIfStoppedAt_45 (by omega) (by omega) ?_
            have hc : 0 < q_rB K i ∧ 0 ≤ b - rget (kE K) i := by omega
            rw [Int.tdiv_eq_ediv_of_nonneg hc.2]
            have d1 := Int.ediv_nonneg hc.2 (Int.le_of_lt hc.1)
            have d2 := Int.ediv_le_self (q_rB K i) hc.2
            have d3 : 0 ≤ min ((b - rget (kE K) i) / q_rB K i + 1) (kR K) * q_rB K i ∧ min ((b - rget (kE K) i) / q_rB K i + 1) (kR K) * q_rB K i ≤ 4 * 74 := mul_bd (by omega) (by omega) g3.1 g3.2
            refine v_iconst k_Canon_stillIfStoppedAt_46 ?_
            refine v_iadd k_Canon_stillIfStoppedAt_47 ?_
            refine v_aload_n k_Canon_stillIfStoppedAt_48 rfl ?_
            refine v_getf fl_Canon_39 c0 rfl k_Canon_stillIfStoppedAt_49 ?_
            refine v_mmin k_Canon_stillIfStoppedAt_52 lm_Canon_139 (by omega) (by omega) (Nat.le_of_ble_eq_true rfl) (Nat.le_of_ble_eq_true rfl) ?_
            refine v_istore k_Canon_stillIfStoppedAt_55 ⟨Nat.le_of_ble_eq_true rfl, Nat.le_of_ble_eq_true rfl⟩ ?_
            refine v_iload_n k_Canon_stillIfStoppedAt_57 rfl ?_
            refine v_aload_n k_Canon_stillIfStoppedAt_58 rfl ?_
            refine v_getf fl_Canon_27 c0 rfl k_Canon_stillIfStoppedAt_59 ?_
            refine v_iload_n k_Canon_stillIfStoppedAt_62 rfl ?_
            refine v_callVr mo_Row_get mi_Row_get mv_Row_get lk_Canon_64 k_Canon_stillIfStoppedAt_63 c3.obj rfl rfl (Nat.le_of_ble_eq_true rfl) rfl (Nat.le_of_ble_eq_true rfl) (c_Row_get G c3 (by omega)) ?_
            refine v_iload k_Canon_stillIfStoppedAt_66 rfl ?_
            refine v_iload k_Canon_stillIfStoppedAt_68 rfl ?_
            refine v_imul k_Canon_stillIfStoppedAt_70 ?_
            refine v_iadd k_Canon_stillIfStoppedAt_71 ?_
            refine v_mmax k_Canon_stillIfStoppedAt_72 lm_Canon_96 (by omega) (by omega) (Nat.le_of_ble_eq_true rfl) (Nat.le_of_ble_eq_true rfl) ?_
            refine v_istore_n k_Canon_stillIfStoppedAt_75 ⟨Nat.le_of_ble_eq_true rfl, Nat.le_of_ble_eq_true rfl⟩ ?_
            refine v_iinc k_Canon_stillIfStoppedAt_76 rfl (Nat.le_of_ble_eq_true rfl) ?_
            refine v_goto k_Canon_stillIfStoppedAt_79 (tgt := 4) rfl ?_
            have e := ih (i + 1) (by omega) (by omega)
            simp only [sts] at e
            first
              | (rw [if_pos (by omega)] at e; exact e _ _ _)
              | (rw [if_neg (by omega)] at e; exact e _ _ _)
            skip
  refine v_iconst k_Canon_stillIfStoppedAt_0 ?_
  refine v_istore_n k_Canon_stillIfStoppedAt_1 ⟨Nat.le_of_ble_eq_true rfl, Nat.le_of_ble_eq_true rfl⟩ ?_
  refine v_iconst k_Canon_stillIfStoppedAt_2 ?_
  refine v_istore_n k_Canon_stillIfStoppedAt_3 ⟨Nat.le_of_ble_eq_true rfl, Nat.le_of_ble_eq_true rfl⟩ ?_
  exact loop 8 0 (by omega) (by omega) _ _ _

set_option maxHeartbeats 4000000 in
set_option maxRecDepth 20000 in
theorem c_Canon_isUnison (G : Gx) {h : AH} {c : Nat} {K : CK} {b : Int} (hp : pCanon h c K ((so K b).map Prod.fst) ((so K b).map Prod.snd)) (w : wK K) : Ct G Y_Canon_isUnison 1 0 0 [aR c] h (isR (some (aI (if unP (so K b) then 1 else 0))) h) := by
  obtain ⟨c0, c1, c2, c3, c4, c5, c6⟩ := id hp
  have hbt : (nob (kL K)).length = bt K := rfl
  have b1 := so_len w b
  have el1 : ((so K b).map Prod.fst).length = (so K b).length := List.length_map _
  have el2 : ((so K b).map Prod.snd).length = (so K b).length := List.length_map _
  refine Ct.of_V mo_Canon_isUnison rfl (Nat.le_of_ble_eq_true rfl) rfl ?_
  have loop : ∀ (k : Nat) (i : Nat) (x : Option AV), ((so K b).length < i + k) → (i ≤ (so K b).length) → (unP ((so K b).drop i) = unP (so K b)) → V G Y_Canon_isUnison 1 0 0 2 [some (aR c), some (aI i), x] [] h (isR (some (aI (if unP (so K b) then 1 else 0))) h) := by
    intro k
    induction k with
    | zero => intro i x hk hi ht; exfalso; omega
    | succ k ih =>
      intro i x hk hi ht
      have r1 := rget_bd (so_sd w b) (by decide) (by decide) (i : Int)
      refine v_iload_n k_Canon_isUnison_2 rfl ?_
      refine v_aload_n k_Canon_isUnison_3 rfl ?_
      refine v_getf fl_Canon_36 c0 rfl k_Canon_isUnison_4 ?_
      refine v_callVr mo_Row_size mi_Row_size mv_Row_size lk_Canon_56 k_Canon_isUnison_7 c6.obj rfl rfl (Nat.le_of_ble_eq_true rfl) rfl (Nat.le_of_ble_eq_true rfl) (c_Row_size G c6) ?_
      refine v_icge 61 k_Canon_isUnison_10 rfl (by omega) (by omega) (fun c10 => ?_) (fun c10 => ?_)
      · refine v_iconst k_Canon_isUnison_61 ?_
        refine v_ireturn k_Canon_isUnison_62 rfl (by first | rfl | (split <;> rfl)) ?_
        have ei : i = (so K b).length := by omega
        rw [ei, List.drop_length] at ht
        exact ⟨by rw [← ht]; rfl, rfl⟩
      · refine v_iload_n k_Canon_isUnison_13 rfl ?_
        refine v_iconst k_Canon_isUnison_14 ?_
        refine v_iadd k_Canon_isUnison_15 ?_
        refine v_istore_n k_Canon_isUnison_16 ⟨Nat.le_of_ble_eq_true rfl, Nat.le_of_ble_eq_true rfl⟩ ?_
        have loop2 : ∀ (k2 : Nat) (j : Nat), ((so K b).length < j + k2) → (j ≤ (so K b).length) → ((unI (rget ((so K b).map Prod.snd) i) ((so K b).drop j) || unP ((so K b).drop (i + 1))) = unP (so K b)) → V G Y_Canon_isUnison 1 0 0 17 [some (aR c), some (aI i), some (aI j)] [] h (isR (some (aI (if unP (so K b) then 1 else 0))) h) := by
          intro k2
          induction k2 with
          | zero => intro j hk2 hj ht; exfalso; omega
          | succ k2 ih2 =>
            intro j hk2 hj ht
            have r2 := rget_bd (so_sd w b) (by decide) (by decide) (j : Int)
            refine v_iload_n k_Canon_isUnison_17 rfl ?_
            refine v_aload_n k_Canon_isUnison_18 rfl ?_
            refine v_getf fl_Canon_36 c0 rfl k_Canon_isUnison_19 ?_
            refine v_callVr mo_Row_size mi_Row_size mv_Row_size lk_Canon_56 k_Canon_isUnison_22 c6.obj rfl rfl (Nat.le_of_ble_eq_true rfl) rfl (Nat.le_of_ble_eq_true rfl) (c_Row_size G c6) ?_
            refine v_icge 55 k_Canon_isUnison_25 rfl (by omega) (by omega) (fun c25 => ?_) (fun c25 => ?_)
            · have ej : j = (so K b).length := by omega
              refine v_iinc k_Canon_isUnison_55 rfl (Nat.le_of_ble_eq_true rfl) ?_
              refine v_goto k_Canon_isUnison_58 (tgt := 2) rfl ?_
              refine ih (i + 1) _ (by omega) (by omega) ?_
              rw [ej, List.drop_length] at ht
              rw [← ht]
              simp only [unI]
              rfl
            · refine v_aload_n k_Canon_isUnison_28 rfl ?_
              refine v_getf fl_Canon_36 c0 rfl k_Canon_isUnison_29 ?_
              refine v_iload_n k_Canon_isUnison_32 rfl ?_
              refine v_callVr mo_Row_get mi_Row_get mv_Row_get lk_Canon_64 k_Canon_isUnison_33 c6.obj rfl rfl (Nat.le_of_ble_eq_true rfl) rfl (Nat.le_of_ble_eq_true rfl) (c_Row_get G c6 (by omega)) ?_
              refine v_aload_n k_Canon_isUnison_36 rfl ?_
              refine v_getf fl_Canon_36 c0 rfl k_Canon_isUnison_37 ?_
              refine v_iload_n k_Canon_isUnison_40 rfl ?_
              refine v_callVr mo_Row_get mi_Row_get mv_Row_get lk_Canon_64 k_Canon_isUnison_41 c6.obj rfl rfl (Nat.le_of_ble_eq_true rfl) rfl (Nat.le_of_ble_eq_true rfl) (c_Row_get G c6 (by omega)) ?_
              refine v_icne 49 k_Canon_isUnison_44 rfl (by omega) (by omega) (fun c44 => ?_) (fun c44 => ?_)
              · refine v_iinc k_Canon_isUnison_49 rfl (Nat.le_of_ble_eq_true rfl) ?_
                refine v_goto k_Canon_isUnison_52 (tgt := 17) rfl ?_
                refine ih2 (j + 1) (by omega) (by omega) ?_
                rw [drop_at (show j < (so K b).length by omega)] at ht
                simp only [unI] at ht
                rw [rgM Prod.snd (L := so K b) (i := j) (by omega)] at c44
                rw [decide_eq_false c44, Bool.false_or] at ht
                exact ht
              · refine v_iconst k_Canon_isUnison_47 ?_
                refine v_ireturn k_Canon_isUnison_48 rfl (by first | rfl | (split <;> rfl)) ?_
                refine ⟨?_, rfl⟩
                rw [drop_at (show j < (so K b).length by omega)] at ht
                simp only [unI] at ht
                rw [rgM Prod.snd (L := so K b) (i := j) (by omega)] at c44
                rw [decide_eq_true (Classical.not_not.mp c44), Bool.true_or, Bool.true_or] at ht
                rw [← ht]
                rfl
        refine loop2 8 (i + 1) (by omega) (by omega) ?_
        rw [drop_at (show i < (so K b).length by omega)] at ht
        rw [← ht, rgM Prod.snd (L := so K b) (i := i) (by omega)]
        rfl
  refine v_iconst k_Canon_isUnison_0 ?_
  refine v_istore_n k_Canon_isUnison_1 ⟨Nat.le_of_ble_eq_true rfl, Nat.le_of_ble_eq_true rfl⟩ ?_
  exact loop 8 0 _ (by omega) (by omega) (by rw [List.drop_zero])

set_option maxHeartbeats 4000000 in
set_option maxRecDepth 20000 in
theorem c_Canon_unisonBeats (G : Gx) {h : AH} {c : Nat} {K : CK} {sg sd : List Int} (hp : pCanon h c K sg sd) (w : wK K) : Ct G Y_Canon_unisonBeats 6 0 0 [aR c] h (fun v h' => v = some (aI (unS K (q_endK K).toNat)) ∧ ∃ sg sd, pCanon h' c K sg sd ∧ Fr (c + 14) (c + 18) h h') := by
  obtain ⟨c0, c1, c2, c3, c4, c5, c6⟩ := id hp
  have hbt : (nob (kL K)).length = bt K := rfl
  have b1 := w.endK
  refine Ct.of_V mo_Canon_unisonBeats rfl (Nat.le_of_ble_eq_true rfl) rfl ?_
  have loop : ∀ (k : Nat) (i : Nat) (h1 : AH), ((q_endK K).toNat < i + k) → ((i : Int) ≤ q_endK K) → ∀ sg sd, pCanon h1 c K sg sd → Fr (c + 14) (c + 18) h h1 → V G Y_Canon_unisonBeats 6 0 0 9 [some (aR c), some (aI (unS K i)), some (aI (q_endK K)), some (aI i)] [] h1 (fun v h' => v = some (aI (unS K (q_endK K).toNat)) ∧ ∃ sg sd, pCanon h' c K sg sd ∧ Fr (c + 14) (c + 18) h h') := by
    intro k
    induction k with
    | zero => intro i h1 hk hi; exfalso; omega
    | succ k ih =>
      intro i h1 hk hi sg1 sd1 hp1 f1
      obtain ⟨c0, c1, c2, c3, c4, c5, c6⟩ := id hp1
      have hbt : (nob (kL K)).length = bt K := rfl
      refine v_iload_n k_Canon_unisonBeats_9 rfl ?_
      refine v_iload_n k_Canon_unisonBeats_10 rfl ?_
      refine v_icge 35 k_Canon_unisonBeats_11 rfl (by omega) (by omega) (fun c11 => ?_) (fun c11 => ?_)
      · refine v_iload_n k_Canon_unisonBeats_35 rfl ?_
        refine v_ireturn k_Canon_unisonBeats_36 rfl rfl ?_
        have e : i = (q_endK K).toNat := by omega
        subst e
        exact ⟨rfl, _, _, hp1, f1⟩
      · refine v_aload_n k_Canon_unisonBeats_14 rfl ?_
        refine v_iload_n k_Canon_unisonBeats_15 rfl ?_
        refine v_callV mo_Canon_listen mi_Canon_listen mv_Canon_listen lk_Canon_127 k_Canon_unisonBeats_16 c0 rfl rfl (Nat.le_of_ble_eq_true rfl) rfl (Nat.le_of_ble_eq_true rfl) (c_Canon_listen G hp1 w (by omega)) (fun v16 h16 q16 => ?_)
        obtain ⟨rfl, hp2, f3⟩ := q16
        have f2 := f1.tr f3 (by omega) (by omega)
        obtain ⟨c0, c1, c2, c3, c4, c5, c6⟩ := id hp2
        refine v_aload_n k_Canon_unisonBeats_19 rfl ?_
        refine v_callVr mo_Canon_isUnison mi_Canon_isUnison mv_Canon_isUnison lk_Canon_142 k_Canon_unisonBeats_20 c0 rfl rfl (Nat.le_of_ble_eq_true rfl) rfl (Nat.le_of_ble_eq_true rfl) (c_Canon_isUnison G hp2 w) ?_
        refine v_ifeq 29 k_Canon_unisonBeats_23 rfl (by split <;> decide) (fun c23 => ?_) (fun c23 => ?_)
        · refine v_iinc k_Canon_unisonBeats_29 rfl (Nat.le_of_ble_eq_true rfl) ?_
          refine v_goto k_Canon_unisonBeats_32 (tgt := 9) rfl ?_
          have e := ih (i + 1) h16 (by omega) (by omega) _ _ hp2 f2
          simp only [unS] at e
          by_cases hq : unP (so K i) = true
          · rw [if_pos hq] at e c23; first | exact e | (exact absurd c23 (by decide))
          · rw [if_neg hq] at e c23; first | (rw [Int.add_zero] at e; exact e) | (exact absurd rfl c23)
        · refine v_iinc k_Canon_unisonBeats_26 rfl (Nat.le_of_ble_eq_true rfl) ?_
          refine v_iinc k_Canon_unisonBeats_29 rfl (Nat.le_of_ble_eq_true rfl) ?_
          refine v_goto k_Canon_unisonBeats_32 (tgt := 9) rfl ?_
          have e := ih (i + 1) h16 (by omega) (by omega) _ _ hp2 f2
          simp only [unS] at e
          by_cases hq : unP (so K i) = true
          · rw [if_pos hq] at e c23; first | exact e | (exact absurd c23 (by decide))
          · rw [if_neg hq] at e c23; first | (rw [Int.add_zero] at e; exact e) | (exact absurd rfl c23)
  refine v_iconst k_Canon_unisonBeats_0 ?_
  refine v_istore_n k_Canon_unisonBeats_1 ⟨Nat.le_of_ble_eq_true rfl, Nat.le_of_ble_eq_true rfl⟩ ?_
  refine v_aload_n k_Canon_unisonBeats_2 rfl ?_
  refine v_callVr mo_Canon_end mi_Canon_end mv_Canon_end lk_Canon_133 k_Canon_unisonBeats_3 c0 rfl rfl (Nat.le_of_ble_eq_true rfl) rfl (Nat.le_of_ble_eq_true rfl) (c_Canon_end G hp w) ?_
  refine v_istore_n k_Canon_unisonBeats_6 ⟨Nat.le_of_ble_eq_true rfl, Nat.le_of_ble_eq_true rfl⟩ ?_
  refine v_iconst k_Canon_unisonBeats_7 ?_
  refine v_istore_n k_Canon_unisonBeats_8 ⟨Nat.le_of_ble_eq_true rfl, Nat.le_of_ble_eq_true rfl⟩ ?_
  exact loop ((q_endK K).toNat + 1) 0 h (by omega) (by omega) _ _ hp Fr.rf

theorem rg0 {xs : List Int} {i : Nat} (hi : i < xs.length) : rget xs i = xs[i] := by
  rw [rget, if_pos (by omega), Int.toNat_natCast, List.getD_eq_getElem?_getD, List.getElem?_eq_getElem hi]
  rfl
set_option maxHeartbeats 4000000 in
set_option maxRecDepth 20000 in
theorem c_Canon_firstNotHeard (G : Gx) {h : AH} {c : Nat} {K : CK} {sg sd : List Int} (hp : pCanon h c K sg sd) (w : wK K) {v b : Int} (hv : InR v) (hb : 0 ≤ b ∧ b ≤ 400) {p : Nat} {xs : List Int} (hq : pRow h p 12 xs) (hx : ∀ x ∈ xs, 0 ≤ x ∧ x ≤ 60) : Ct G Y_Canon_firstNotHeard 4 0 0 [aR c, aI v, aI b, aR p] h (isR (some (aI (fnH K v b xs 0))) h) := by
  obtain ⟨c0, c1, c2, c3, c4, c5, c6⟩ := id hp
  have hbt : (nob (kL K)).length = bt K := rfl
  have b1 := hq.le
  refine Ct.of_V mo_Canon_firstNotHeard rfl (Nat.le_of_ble_eq_true rfl) rfl ?_
  have loop : ∀ (k : Nat) (i : Nat), (xs.length < i + k) → (i ≤ xs.length) → ∀ (x z : Option AV), (fnH K v b (xs.drop i) i = fnH K v b xs 0) → V G Y_Canon_firstNotHeard 4 0 0 10 [some (aR c), some (aI v), some (aI b), some (aR p), some (aI i), x, z] [] h (isR (some (aI (fnH K v b xs 0))) h) := by
    intro k
    induction k with
    | zero => intro i hk hi x z ht; exfalso; omega
    | succ k ih =>
      intro i hk hi x z ht
      have s1 := sO_bd w v (b + i)
      have s2 := rget_bd hx (by decide) (by decide) (i : Int)
      refine v_iload k_Canon_firstNotHeard_10 rfl ?_
      refine v_aload_n k_Canon_firstNotHeard_12 rfl ?_
      refine v_callVr mo_Row_size mi_Row_size mv_Row_size lk_Canon_56 k_Canon_firstNotHeard_13 hq.obj rfl rfl (Nat.le_of_ble_eq_true rfl) rfl (Nat.le_of_ble_eq_true rfl) (c_Row_size G hq) ?_
      refine v_icge 70 k_Canon_firstNotHeard_16 rfl (by omega) (by omega) (fun c16 => ?_) (fun c16 => ?_)
      · refine v_bipush k_Canon_firstNotHeard_70 (by decide) ?_
        refine v_ireturn k_Canon_firstNotHeard_72 rfl rfl ?_
        refine ⟨?_, rfl⟩
        have ei : i = xs.length := by omega
        rw [← ht, ei, List.drop_length]
        rfl
      · refine v_aload_n k_Canon_firstNotHeard_19 rfl ?_
        refine v_iload_n k_Canon_firstNotHeard_20 rfl ?_
        refine v_iload_n k_Canon_firstNotHeard_21 rfl ?_
        refine v_iload k_Canon_firstNotHeard_22 rfl ?_
        refine v_iadd k_Canon_firstNotHeard_24 ?_
        refine v_callVr mo_Canon_soundOf mi_Canon_soundOf mv_Canon_soundOf lk_Canon_120 k_Canon_firstNotHeard_25 c0 rfl rfl (Nat.le_of_ble_eq_true rfl) rfl (Nat.le_of_ble_eq_true rfl) (c_Canon_soundOf G hp w (by omega) (by omega)) ?_
        refine v_istore k_Canon_firstNotHeard_28 ⟨Nat.le_of_ble_eq_true rfl, Nat.le_of_ble_eq_true rfl⟩ ?_
        refine v_iload k_Canon_firstNotHeard_30 rfl ?_
        refine v_sipush k_Canon_firstNotHeard_32 (by decide) ?_
        refine v_icne 43 k_Canon_firstNotHeard_35 rfl (by omega) (by omega) (fun c35 => ?_) (fun c35 => ?_)
        · refine v_iload k_Canon_firstNotHeard_43 rfl ?_
          refine v_bipush k_Canon_firstNotHeard_45 (by decide) ?_
          refine v_iadd k_Canon_firstNotHeard_47 ?_
          refine v_istore k_Canon_firstNotHeard_48 ⟨Nat.le_of_ble_eq_true rfl, Nat.le_of_ble_eq_true rfl⟩ ?_
          refine v_aload_n k_Canon_firstNotHeard_50 rfl ?_
          refine v_iload k_Canon_firstNotHeard_51 rfl ?_
          refine v_callVr mo_Row_get mi_Row_get mv_Row_get lk_Canon_64 k_Canon_firstNotHeard_53 hq.obj rfl rfl (Nat.le_of_ble_eq_true rfl) rfl (Nat.le_of_ble_eq_true rfl) (c_Row_get G hq (by omega)) ?_
          refine v_iload k_Canon_firstNotHeard_56 rfl ?_
          refine v_iceq 64 k_Canon_firstNotHeard_58 rfl (by omega) (by omega) (fun c58 => ?_) (fun c58 => ?_)
          · refine v_iinc k_Canon_firstNotHeard_64 rfl (Nat.le_of_ble_eq_true rfl) ?_
            refine v_goto k_Canon_firstNotHeard_67 (tgt := 10) rfl ?_
            refine ih (i + 1) (by omega) (by omega) _ _ ?_
            rw [drop_at (show i < xs.length by omega)] at ht
            simp only [fnH] at ht
            rw [rg0 (show i < xs.length by omega)] at c58
            first
              | (rw [if_pos (by first | (rw [if_pos (by omega)]; omega) | (rw [if_neg (by omega)]; omega))] at ht; exact ht)
          · refine v_iload k_Canon_firstNotHeard_61 rfl ?_
            refine v_ireturn k_Canon_firstNotHeard_63 rfl rfl ?_
            refine ⟨?_, rfl⟩
            rw [drop_at (show i < xs.length by omega)] at ht
            simp only [fnH] at ht
            rw [rg0 (show i < xs.length by omega)] at c58
            rw [if_neg (by first | (rw [if_pos (by omega)]; omega) | (rw [if_neg (by omega)]; omega))] at ht
            rw [ht]
          skip
        · refine v_bipush k_Canon_firstNotHeard_38 (by decide) ?_
          refine v_goto k_Canon_firstNotHeard_40 (tgt := 48) rfl ?_
          refine v_istore k_Canon_firstNotHeard_48 ⟨Nat.le_of_ble_eq_true rfl, Nat.le_of_ble_eq_true rfl⟩ ?_
          refine v_aload_n k_Canon_firstNotHeard_50 rfl ?_
          refine v_iload k_Canon_firstNotHeard_51 rfl ?_
          refine v_callVr mo_Row_get mi_Row_get mv_Row_get lk_Canon_64 k_Canon_firstNotHeard_53 hq.obj rfl rfl (Nat.le_of_ble_eq_true rfl) rfl (Nat.le_of_ble_eq_true rfl) (c_Row_get G hq (by omega)) ?_
          refine v_iload k_Canon_firstNotHeard_56 rfl ?_
          refine v_iceq 64 k_Canon_firstNotHeard_58 rfl (by omega) (by omega) (fun c58 => ?_) (fun c58 => ?_)
          · refine v_iinc k_Canon_firstNotHeard_64 rfl (Nat.le_of_ble_eq_true rfl) ?_
            refine v_goto k_Canon_firstNotHeard_67 (tgt := 10) rfl ?_
            refine ih (i + 1) (by omega) (by omega) _ _ ?_
            rw [drop_at (show i < xs.length by omega)] at ht
            simp only [fnH] at ht
            rw [rg0 (show i < xs.length by omega)] at c58
            first
              | (rw [if_pos (by first | (rw [if_pos (by omega)]; omega) | (rw [if_neg (by omega)]; omega))] at ht; exact ht)
          · refine v_iload k_Canon_firstNotHeard_61 rfl ?_
            refine v_ireturn k_Canon_firstNotHeard_63 rfl rfl ?_
            refine ⟨?_, rfl⟩
            rw [drop_at (show i < xs.length by omega)] at ht
            simp only [fnH] at ht
            rw [rg0 (show i < xs.length by omega)] at c58
            rw [if_neg (by first | (rw [if_pos (by omega)]; omega) | (rw [if_neg (by omega)]; omega))] at ht
            rw [ht]
          skip
  refine v_aload_n k_Canon_firstNotHeard_0 rfl ?_
  refine v_ifnonnull 7 k_Canon_firstNotHeard_1 rfl ?_
  refine v_iconst k_Canon_firstNotHeard_7 ?_
  refine v_istore k_Canon_firstNotHeard_8 ⟨Nat.le_of_ble_eq_true rfl, Nat.le_of_ble_eq_true rfl⟩ ?_
  exact loop (xs.length + 1) 0 (by omega) (by omega) _ _ (by rw [List.drop_zero])
