/-! reading all statements -/
def FrD (m : Nat) (h h' : AH) : Prop := h'.1 = h.1 ∧ ∀ q, q ≠ m → q ≠ m + 2 → q ≠ m + 8 → h'.2 q = h.2 q
theorem FrD.rf {m : Nat} {h : AH} : FrD m h h := ⟨rfl, fun _ _ _ _ => rfl⟩
theorem FrD.tr {m : Nat} {h h1 h2 : AH} (a : FrD m h h1) (b : FrD m h1 h2) : FrD m h h2 := ⟨b.1.trans a.1, fun q q1 q2 q3 => (b.2 q q1 q2 q3).trans (a.2 q q1 q2 q3)⟩
theorem FrC.d {m : Nat} {h h' : AH} (f : FrC m h h') : FrD m h h' := ⟨f.1, fun q h1 _ h3 => f.2 q h1 h3⟩
theorem FrC.at {m p : Nat} {h h' : AH} {x : Option AC} (f : FrC m h h') (hx : h.2 p = x) (h1 : p ≠ m) (h2 : p ≠ m + 8) : h'.2 p = x := (f.2 p h1 h2).trans hx
theorem Fr.d0 {m : Nat} {h h' : AH} (f : Fr m (m + 1) h h') : FrD m h h' := ⟨f.1, fun q h1 _ _ => f.2 q (by omega)⟩
theorem Fr.d2 {m : Nat} {h h' : AH} (f : Fr (m + 2) (m + 2 + 1) h h') : FrD m h h' := ⟨f.1, fun q _ h2 _ => f.2 q (by omega)⟩
theorem pJ.fr2 {h h' : AH} {m : Nat} {kp : Int} {r : Int × Int} {xs fd : List Int} {p ok so : Int} (j : pJ h m kp r xs fd p ok so) (f : Fr (m + 2) (m + 2 + 1) h h') : pJ h' m kp r xs fd p ok so := by
  obtain ⟨j1, ⟨tl, t1, t2, t3⟩, x, b1, b2, b3, b4⟩ := j
  exact ⟨f.at j1 (by omega), ⟨tl, f.at t1 (by omega), t2, t3⟩, x, f.at b1 (by omega), f.at b2 (by omega), f.at b3 (by omega), b4⟩
theorem pJ.xb {h : AH} {m : Nat} {kp : Int} {r : Int × Int} {xs fd : List Int} {p ok so : Int} (j : pJ h m kp r xs fd p ok so) : xs.length ≤ 80 ∧ ∀ x ∈ xs, 0 ≤ x ∧ x ≤ 255 := ⟨j.2.2.1.1, j.2.2.1.2.1⟩
theorem tAt_255 {xs : List Int} (hx : ∀ x ∈ xs, 0 ≤ x ∧ x ≤ 255) (p : Int) : -1 ≤ tAt xs p ∧ tAt xs p ≤ 255 := by
  unfold tAt
  split
  · have := rget_bd hx (by decide) (by decide) p; omega
  · omega
theorem tE_bd {xs : List Int} (hx : ∀ x ∈ xs, 0 ≤ x ∧ x ≤ 255) (p : Int) : -1000 ≤ tE xs p ∧ tE xs p ≤ 3000 := by
  have := tAt_255 hx p
  have := tAt_255 hx (p + 1)
  unfold tE
  split <;> omega
theorem tell_mbe {xs : List Int} {K : CK} {p so f0 f1 f2 p' ok : Int} (hx : ∀ x ∈ xs, 0 ≤ x ∧ x ≤ 255) (hp : 0 ≤ p) (hs : stG xs p so f0 f1 f2 p' ok) (hz : inF xs p = 0) :
    (InR f0 ∧ InR f1) ∧ ((mbe so f0 f1 (kP K).length (kK K).length = true ∧ tellS xs K p (p + fmL xs p) = some (cmK so f0 f1 f2 K) ∧ cmO so f0 f1 K ∧ ((so = 0 → ((kP (cmK so f0 f1 f2 K)).length : Int) = (kP K).length + 1) ∧ (so ≠ 0 → ((kP (cmK so f0 f1 f2 K)).length : Int) = (kP K).length) ∧ (so = 1 → ((kK (cmK so f0 f1 f2 K)).length : Int) = (kK K).length + 1) ∧ (so ≠ 1 → ((kK (cmK so f0 f1 f2 K)).length : Int) = (kK K).length))) ∨ (mbe so f0 f1 (kP K).length (kK K).length = false ∧ tellS xs K p (p + fmL xs p) = none)) := by
  have b1 := tAt_255 hx (p + 1)
  have b2 := tAt_255 hx (p + 2)
  have b3 := tE_bd hx (p + 2)
  have b4 := tK_bd xs (p + 1)
  have q := (hs.1 hz).2.2
  rcases q with ⟨e, ha, e0, e1⟩ | ⟨e, ha, e0, e1, e2⟩ | ⟨e, ha, e0, e1⟩ | ⟨e, ha, e0, e1⟩
  · refine ⟨by omega, ?_⟩
    unfold tellS
    rw [if_pos ha, ← e0, ← e1]
    have em : mbe so f0 f1 (kP K).length (kK K).length = decide (1 ≤ f1 ∧ f1 ≤ 3 ∧ ((kP K).length : Int) < 12) := by unfold mbe; rw [if_pos e]
    by_cases g : 1 ≤ f1 ∧ f1 ≤ 3 ∧ ((kP K).length : Int) < 12
    · left
      have ec : cmK so f0 f1 f2 K = addN K f0 f1 := by unfold cmK; rw [if_pos e]
      rw [ec]
      have l1 : ((kP (addN K f0 f1)).length : Int) = (kP K).length + 1 := by show ((kP K ++ [f0]).length : Int) = _; rw [List.length_append, List.length_singleton]; omega
      have l2 : ((kK (addN K f0 f1)).length : Int) = (kK K).length := rfl
      exact ⟨by rw [em]; exact decide_eq_true g, by rw [if_neg (by omega)], ⟨by omega, by omega, by omega, by omega⟩, by omega, by omega, by omega, by omega⟩
    · right
      exact ⟨by rw [em]; exact decide_eq_false g, if_pos (by omega)⟩
  · refine ⟨by omega, ?_⟩
    unfold tellS
    rw [if_neg (by omega), if_pos ha, ← e0, ← e1, ← e2]
    have em : mbe so f0 f1 (kP K).length (kK K).length = decide (f1 ≤ 60 ∧ ((kK K).length : Int) < 6) := by unfold mbe; rw [if_neg (by omega), if_pos e]
    by_cases g : f1 ≤ 60 ∧ ((kK K).length : Int) < 6
    · left
      have ec : cmK so f0 f1 f2 K = addV K f0 f1 f2 := by unfold cmK; rw [if_neg (by omega), if_pos e]
      rw [ec]
      have l1 : ((kP (addV K f0 f1 f2)).length : Int) = (kP K).length := rfl
      have l2 : ((kK (addV K f0 f1 f2)).length : Int) = (kK K).length + 1 := by show ((kK K ++ [f0]).length : Int) = _; rw [List.length_append, List.length_singleton]; omega
      exact ⟨by rw [em]; exact decide_eq_true g, by rw [if_neg (by omega)], ⟨by omega, by omega, by omega, by omega⟩, by omega, by omega, by omega, by omega⟩
    · right
      exact ⟨by rw [em]; exact decide_eq_false g, if_pos (by omega)⟩
  · refine ⟨by omega, ?_⟩
    unfold tellS
    have d1 := tD_iff.mp (inF_r hp hz ha).1
    rw [if_neg (by omega), if_neg (by omega), if_pos ha, ← e0, ← e1]
    have em : mbe so f0 f1 (kP K).length (kK K).length = decide ((1 ≤ f0 ∧ f0 ≤ 4) ∧ f1 ≤ 2) := by unfold mbe; rw [if_neg (by omega), if_neg (by omega), if_pos e]
    by_cases g : (1 ≤ f0 ∧ f0 ≤ 4) ∧ f1 ≤ 2
    · left
      have ec : cmK so f0 f1 f2 K = setS (setR K f0) f1 := by unfold cmK; rw [if_neg (by omega), if_neg (by omega), if_pos e]
      rw [ec]
      have l1 : ((kP (setS (setR K f0) f1)).length : Int) = (kP K).length := rfl
      have l2 : ((kK (setS (setR K f0) f1)).length : Int) = (kK K).length := rfl
      exact ⟨by rw [em]; exact decide_eq_true g, by rw [if_neg (by omega)], ⟨by omega, by omega, by omega, by omega⟩, by omega, by omega, by omega, by omega⟩
    · right
      exact ⟨by rw [em]; exact decide_eq_false g, if_pos (by omega)⟩
  · refine ⟨by omega, ?_⟩
    unfold tellS
    have d1 := tD_iff.mp (inF_w hp hz ha)
    rw [if_neg (by omega), if_neg (by omega), if_neg (by omega), if_pos ha, ← e0]
    have em : mbe so f0 f1 (kP K).length (kK K).length = decide (f0 ≤ 6) := by unfold mbe; rw [if_neg (by omega), if_neg (by omega), if_neg (by omega)]
    by_cases g : f0 ≤ 6
    · left
      have ec : cmK so f0 f1 f2 K = setW K (((kW K).toNat ^^^ 2 ^ f0.toNat : Nat) : Int) := by unfold cmK; rw [if_neg (by omega), if_neg (by omega), if_neg (by omega)]
      have l1 : ((kP (cmK so f0 f1 f2 K)).length : Int) = (kP K).length := by rw [ec]; rfl
      have l2 : ((kK (cmK so f0 f1 f2 K)).length : Int) = (kK K).length := by rw [ec]; rfl
      exact ⟨by rw [em]; exact decide_eq_true g, by rw [if_neg (by omega), ec], ⟨by omega, by omega, by omega, by omega⟩, by omega, by omega, by omega, by omega⟩
    · right
      exact ⟨by rw [em]; exact decide_eq_false g, if_pos (by omega)⟩
def cntA (xs : List Int) : Nat → Int → Int
  | 0, _ => 0
  | k + 1, p => if p < xs.length then 1 + cntA xs k (p + fmL xs p) else 0
theorem cntA_out {xs : List Int} {p : Int} (h : ¬ p < xs.length) : ∀ k, cntA xs k p = 0
  | 0 => rfl
  | k + 1 => if_neg h
theorem cntA_nn {xs : List Int} : ∀ k p, 0 ≤ cntA xs k p
  | 0, _ => by unfold cntA; omega
  | k + 1, p => by unfold cntA; have := cntA_nn (xs := xs) k (p + fmL xs p); split <;> omega
theorem tAt_m {xs : List Int} {p : Int} (h : inF xs p = 0) (hp : 0 ≤ p) : p < xs.length := by
  by_cases q : p < xs.length
  · exact q
  · have e := tAt_out q
    rw [(inX_o (by omega)).1, ffX] at h
    rw [if_neg (fun z => by have z2 := of_decide_eq_true z; rw [e] at z2; omega)] at h
    omega
def rdR (xs : List Int) (K : CK) : Int × CK := if ffA xs 80 0 ≠ 0 then (ffA xs 80 0, K) else if (tellA xs 80 0 0 K).1 > 0 then tellA xs 80 0 0 K else ((tellA xs 80 0 0 K).1, K)
set_option maxHeartbeats 4000000 in
set_option maxRecDepth 20000 in
theorem c_Model_read (G : Gx) {h : AH} {m : Nat} {kp : Int} {r : Int × Int} {xs : List Int} {f0 f1 f2 p ok so : Int} (ho : h.2 m = some (aO 8 (mO m (kp, (xs.length : Int), p, ok, so, r)))) (j0 : ∀ h' : AH, h'.2 m = some (aO 8 (mO m (kp, (xs.length : Int), 0, 1, so, r))) → Fr m (m + 1) h h' → pJ h' m kp r xs [f0, f1, f2] 0 1 so) {a : List Int} {K : CK} (cn : h.2 (m + 2) = some (aA 0 a)) (hk : nowR a K) (wK0 : vK K 12 6) : Ct G Y_Model_read 2 0 0 [aR m] h (fun v h' => v = some (aI (rdR xs K).1) ∧ (∃ f0 f1 f2 p' ok' so', pJ h' m kp r xs [f0, f1, f2] p' ok' so') ∧ (∃ a', h'.2 (m + 2) = some (aA 0 a') ∧ nowR a' (rdR xs K).2) ∧ FrD m h h') := by
  have fa : FrD m h h := FrD.rf
  refine Ct.of_V mo_Model_read rfl (Nat.le_of_ble_eq_true rfl) rfl ?_
  have L1 : ∀ (kk : Nat) (p : Int) (h1 : AH) (t : Int), (∃ f0 f1 f2 so, pJ h1 m kp r xs [f0, f1, f2] p 1 so) → (∃ a, h1.2 (m + 2) = some (aA 0 a) ∧ nowR a K) → (FrD m h h1) → (81 ≤ p + 3 * (kk : Int)) → (ffA xs kk p = ffA xs 80 0) → (t + cntA xs kk p = cntA xs 80 0) → (0 ≤ t) → V G Y_Model_read 2 0 0 12 [some (aR m), some (aI t), none, none, none] [] h1 (fun v h' => v = some (aI (rdR xs K).1) ∧ (∃ f0 f1 f2 p' ok' so', pJ h' m kp r xs [f0, f1, f2] p' ok' so') ∧ (∃ a', h'.2 (m + 2) = some (aA 0 a') ∧ nowR a' (rdR xs K).2) ∧ FrD m h h') := by
    intro kk
    induction kk with
    | zero => intro p h1 t hj hr fa hb hf hc ht0; exfalso; obtain ⟨f0, f1, f2, so, j⟩ := hj; have bp := j.bp; omega
    | succ kk ih =>
      intro p h1 t hj hr fa hb hf hc ht0
      obtain ⟨f0, f1, f2, so, j⟩ := hj
      obtain ⟨a, cn, hk⟩ := hr
      have ho := j.ho
      have bp := j.bp
      have xb := j.xb
      have hp0 := j.bp.1.1
      refine v_aload_n k_Model_read_12 rfl ?_
      refine v_callV mo_Model_statement mi_Model_statement mv_Model_statement lk_Model_77 k_Model_read_13 ho rfl rfl (Nat.le_of_ble_eq_true rfl) rfl (Nat.le_of_ble_eq_true rfl) (c_Model_statement G j) (fun v13 h13 q13 => ?_)
      obtain ⟨rfl, ⟨f0, f1, f2, p1, ok1, so1, j, st, hso1⟩, f13⟩ := q13
      have fa := fa.tr f13.d
      have cn := f13.at cn (by omega) (by omega)
      have ho := j.ho
      have bp := j.bp
      refine v_iinc k_Model_read_16 rfl (Nat.le_of_ble_eq_true rfl) ?_
      refine v_aload_n k_Model_read_19 rfl ?_
      refine v_getf fl_Model_57 ho rfl k_Model_read_20 ?_
      try dsimp only
      refine v_ifeq 37 k_Model_read_23 rfl (by omega) (fun cd23 => ?_) (fun cd23 => ?_)
      · refine v_aload_n k_Model_read_37 rfl ?_
        refine v_getf fl_Model_57 ho rfl k_Model_read_38 ?_
        try dsimp only
        refine v_ifne 53 k_Model_read_41 rfl (by omega) (fun cd41 => ?_) (fun cd41 => ?_)
        · exfalso; omega
        · refine v_sipush k_Model_read_44 (by decide) ?_
          refine v_aload_n k_Model_read_47 rfl ?_
          refine v_getf fl_Model_60 ho rfl k_Model_read_48 ?_
          try dsimp only
          refine v_isub k_Model_read_51 ?_
          refine v_ireturn k_Model_read_52 rfl rfl ?_
          first
            | (exfalso; omega)
            | skip
          have hFF : ffA xs 80 0 = -1000 - p1 := by
            have s1 := st.2 (fun g => by have := (st.1 g).1; omega)
            rw [← hf, ffA, if_pos (fun g => by have := (st.1 g).1; omega)]
            exact s1.2
          have hRR : rdR xs K = (-1000 - p1, K) := by unfold rdR; rw [if_pos (by omega), hFF]
          exact ⟨by rw [hRR], ⟨_, _, _, _, _, _, j⟩, ⟨a, cn, by rw [hRR]; exact hk⟩, fa⟩
      · by_cases gw : ok1 = 1
        rotate_left
        · exfalso; omega
        have hz : inF xs p = 0 := by
          by_cases g : inF xs p = 0
          · exact g
          · have := (st.2 g).1; omega
        obtain ⟨rfl, rfl, -⟩ := st.1 hz
        have fb := fmL_bd xs p
        have hm := tAt_m hz hp0
        rw [ffA, if_neg (by omega)] at hf
        rw [cntA, if_pos hm] at hc
        refine v_aload_n k_Model_read_26 rfl ?_
        refine v_getf fl_Model_60 ho rfl k_Model_read_27 ?_
        try dsimp only
        refine v_aload_n k_Model_read_30 rfl ?_
        refine v_getf fl_Model_53 ho rfl k_Model_read_31 ?_
        try dsimp only
        refine v_iclt 12 k_Model_read_34 rfl (by omega) (by omega) (fun cg34 => ?_) (fun cg34 => ?_)
        · rw [if_neg (by omega)] at hf
          exact ih (p + fmL xs p) _ (t + 1) ⟨_, _, _, _, j⟩ ⟨a, cn, hk⟩ fa (by omega) hf (by omega) (by omega)
        · refine v_aload_n k_Model_read_37 rfl ?_
          refine v_getf fl_Model_57 ho rfl k_Model_read_38 ?_
          try dsimp only
          refine v_ifne 53 k_Model_read_41 rfl (by omega) (fun cg41 => ?_) (fun cg41 => ?_)
          · rw [if_pos (by omega)] at hf
            rw [cntA_out (by omega)] at hc
            have hff : ffA xs 80 0 = 0 := hf.symm
            obtain ⟨n, hn⟩ : ∃ n, n = t + 1 := ⟨_, rfl⟩
            rw [← hn]
            have hn0 : 0 < n := by omega
            have hcN : cntA xs 80 0 = n := by omega
            have L2 : ∀ (kk : Nat) (p : Int) (K2 : CK) (h1 : AH) (t : Int) (z4 : Option AV), (∃ f0 f1 f2 so, pJ h1 m kp r xs [f0, f1, f2] p 1 so) → (∃ a, h1.2 (m + 2) = some (aA 0 a) ∧ nowR a K) → (vK K2 12 6) → (FrD m h h1) → (81 ≤ p + 3 * (kk : Int)) → (p < xs.length → ffA xs kk p = 0) → (tellA xs kk p t K2 = tellA xs 80 0 0 K) → (t + cntA xs kk p = n) → (0 ≤ t) → V G Y_Model_read 2 0 0 72 [some (aR m), some (aI n), some (aI ((kP K2).length : Int)), some (aI ((kK K2).length : Int)), z4] [] h1 (fun v h' => v = some (aI (rdR xs K).1) ∧ (∃ f0 f1 f2 p' ok' so', pJ h' m kp r xs [f0, f1, f2] p' ok' so') ∧ (∃ a', h'.2 (m + 2) = some (aA 0 a') ∧ nowR a' (rdR xs K).2) ∧ FrD m h h') := by
              intro kk
              induction kk with
              | zero => intro p K2 h1 t z4 hj hr w fa hb hf ht hc ht0; exfalso; obtain ⟨f0, f1, f2, so, j⟩ := hj; have bp := j.bp; omega
              | succ kk ih =>
                intro p K2 h1 t z4 hj hr w fa hb hf ht hc ht0
                obtain ⟨f0, f1, f2, so, j⟩ := hj
                obtain ⟨a, cn, hk⟩ := hr
                have ho := j.ho
                have bp := j.bp
                have xb := j.xb
                have hp0 := j.bp.1.1
                refine v_aload_n k_Model_read_72 rfl ?_
                refine v_getf fl_Model_60 ho rfl k_Model_read_73 ?_
                try dsimp only
                refine v_aload_n k_Model_read_76 rfl ?_
                refine v_getf fl_Model_53 ho rfl k_Model_read_77 ?_
                try dsimp only
                refine v_icge 143 k_Model_read_80 rfl (by omega) (by omega) (fun ce80 => ?_) (fun ce80 => ?_)
                · rw [tellA, if_neg (by omega)] at ht
                  rw [cntA_out (by omega)] at hc
                  have hN : (tellA xs 80 0 0 K).1 = n := by rw [← ht]; show t = n; omega
                  have hRR : rdR xs K = tellA xs 80 0 0 K := by unfold rdR; rw [if_neg (by omega), if_pos (by omega)]
                  have L3 : ∀ (kk : Nat) (p : Int) (K2 : CK) (h1 : AH) (t : Int) (z2 z3 z4 : Option AV), (∃ f0 f1 f2 so, pJ h1 m kp r xs [f0, f1, f2] p 1 so) → (∃ a, h1.2 (m + 2) = some (aA 0 a) ∧ nowR a K2) → (vK K2 12 6) → (FrD m h h1) → (81 ≤ p + 3 * (kk : Int)) → (p < xs.length → ffA xs kk p = 0) → (tellA xs kk p t K2 = tellA xs 80 0 0 K) → V G Y_Model_read 2 0 0 148 [some (aR m), some (aI n), z2, z3, z4] [] h1 (fun v h' => v = some (aI (rdR xs K).1) ∧ (∃ f0 f1 f2 p' ok' so', pJ h' m kp r xs [f0, f1, f2] p' ok' so') ∧ (∃ a', h'.2 (m + 2) = some (aA 0 a') ∧ nowR a' (rdR xs K).2) ∧ FrD m h h') := by
                    intro kk
                    induction kk with
                    | zero => intro p K2 h1 t z2 z3 z4 hj hr w fa hb hf ht; exfalso; obtain ⟨f0, f1, f2, so, j⟩ := hj; have bp := j.bp; omega
                    | succ kk ih =>
                      intro p K2 h1 t z2 z3 z4 hj hr w fa hb hf ht
                      obtain ⟨f0, f1, f2, so, j⟩ := hj
                      obtain ⟨a, cn, hk⟩ := hr
                      have ho := j.ho
                      have bp := j.bp
                      have xb := j.xb
                      have hp0 := j.bp.1.1
                      refine v_aload_n k_Model_read_148 rfl ?_
                      refine v_getf fl_Model_60 ho rfl k_Model_read_149 ?_
                      try dsimp only
                      refine v_aload_n k_Model_read_152 rfl ?_
                      refine v_getf fl_Model_53 ho rfl k_Model_read_153 ?_
                      try dsimp only
                      refine v_icge 170 k_Model_read_156 rfl (by omega) (by omega) (fun cf156 => ?_) (fun cf156 => ?_)
                      · refine v_iload_n k_Model_read_170 rfl ?_
                        refine v_ireturn k_Model_read_171 rfl rfl ?_
                        rw [tellA, if_neg (by omega)] at ht
                        exact ⟨by rw [hRR, hN], ⟨_, _, _, _, _, _, j⟩, ⟨a, cn, by rw [hRR, ← ht]; exact hk⟩, fa⟩
                      · refine v_aload_n k_Model_read_159 rfl ?_
                        refine v_callV mo_Model_statement mi_Model_statement mv_Model_statement lk_Model_77 k_Model_read_160 ho rfl rfl (Nat.le_of_ble_eq_true rfl) rfl (Nat.le_of_ble_eq_true rfl) (c_Model_statement G j) (fun v160 h160 q160 => ?_)
                        obtain ⟨rfl, ⟨f0, f1, f2, p1, ok1, so1, j, st, hso1⟩, f160⟩ := q160
                        have fa := fa.tr f160.d
                        have cn := f160.at cn (by omega) (by omega)
                        have ho := j.ho
                        have bp := j.bp
                        have hf := hf (by omega)
                        rw [ffA] at hf
                        have hz : inF xs p = 0 := by
                          by_cases g : inF xs p = 0
                          · exact g
                          · rw [if_pos g] at hf; exact absurd hf g
                        rw [if_neg (by omega)] at hf
                        have s1 := st.1 hz
                        obtain ⟨rfl, rfl, -⟩ := s1
                        have fb := fmL_bd xs p
                        obtain ⟨-, tm⟩ := tell_mbe (K := K2) xb.2 hp0 st hz
                        rcases tm with ⟨tm1, tm2, tm3, tm4⟩ | ⟨tm1, tm2⟩
                        rotate_left
                        · exfalso
                          rw [tellA, if_pos (by omega), tm2] at ht
                          have : (tellA xs 80 0 0 K).1 = -2000 - p := by rw [← ht]
                          omega
                        refine v_aload_n k_Model_read_163 rfl ?_
                        refine v_callV mo_Model_come mi_Model_come mv_Model_come lk_Model_84 k_Model_read_164 ho rfl rfl (Nat.le_of_ble_eq_true rfl) rfl (Nat.le_of_ble_eq_true rfl) (c_Model_come G ho rfl j.cf cn hk w tm3) (fun v164 h164 q164 => ?_)
                        obtain ⟨rfl, ⟨a', cn', hk'⟩, f164⟩ := q164
                        have fa := fa.tr f164.d2
                        have j := j.fr2 f164
                        refine v_goto k_Model_read_167 (tgt := 148) rfl ?_
                        exact ih _ _ _ (t + 1) z2 z3 z4 ⟨_, _, _, _, j⟩ ⟨_, cn', hk'⟩ (vK_tell w hp0 hz tm2) fa (by omega) (fun g => by rw [if_neg (by omega)] at hf; exact hf) (by rw [← ht, tellA, if_pos (by omega), tm2])
                  refine v_aload_n k_Model_read_143 rfl ?_
                  refine v_iconst k_Model_read_144 ?_
                  refine v_put fl_Model_60 ho (Nat.le_of_ble_eq_true rfl) (fun r hr => by cases hr; exact Or.inl rfl) rfl rfl k_Model_read_145 (fun h145 e145 f145 => ?_)
                  have j := j.mk' (p' := 0) (ok' := 1) (so' := _) e145 f145 (by omega) (by omega)
                  have fa := fa.tr f145.d0
                  have cn := f145.at cn (by omega)
                  have ho := j.ho
                  have bp := j.bp
                  exact L3 80 0 K _ 0 _ _ _ ⟨_, _, _, _, j⟩ ⟨a, cn, hk⟩ wK0 fa (by omega) (fun _ => hff) rfl
                · refine v_aload_n k_Model_read_83 rfl ?_
                  refine v_getf fl_Model_60 ho rfl k_Model_read_84 ?_
                  try dsimp only
                  refine v_istore k_Model_read_87 ⟨Nat.le_of_ble_eq_true rfl, Nat.le_of_ble_eq_true rfl⟩ ?_
                  refine v_aload_n k_Model_read_89 rfl ?_
                  refine v_callV mo_Model_statement mi_Model_statement mv_Model_statement lk_Model_77 k_Model_read_90 ho rfl rfl (Nat.le_of_ble_eq_true rfl) rfl (Nat.le_of_ble_eq_true rfl) (c_Model_statement G j) (fun v90 h90 q90 => ?_)
                  obtain ⟨rfl, ⟨f0, f1, f2, p1, ok1, so1, j, st, hso1⟩, f90⟩ := q90
                  have fa := fa.tr f90.d
                  have cn := f90.at cn (by omega) (by omega)
                  have ho := j.ho
                  have bp := j.bp
                  have hf := hf (by omega)
                  rw [ffA] at hf
                  have hz : inF xs p = 0 := by
                    by_cases g : inF xs p = 0
                    · exact g
                    · rw [if_pos g] at hf; exact absurd hf g
                  rw [if_neg (by omega)] at hf
                  have s1 := st.1 hz
                  obtain ⟨rfl, rfl, -⟩ := s1
                  have fb := fmL_bd xs p
                  have hc := hc
                  rw [cntA, if_pos (by omega)] at hc
                  have nb := w.2.1
                  have vb := w.2.2.2.2.2.1
                  obtain ⟨⟨i0, i1⟩, tm⟩ := tell_mbe (K := K2) xb.2 hp0 st hz
                  rw [tellA, if_pos (by omega)] at ht
                  refine v_aload_n k_Model_read_93 rfl ?_
                  refine v_iload_n k_Model_read_94 rfl ?_
                  refine v_iload_n k_Model_read_95 rfl ?_
                  refine v_callVr mo_Model_isAsItMustBe mi_Model_isAsItMustBe mv_Model_isAsItMustBe lk_Model_80 k_Model_read_96 ho rfl rfl (Nat.le_of_ble_eq_true rfl) rfl (Nat.le_of_ble_eq_true rfl) (c_Model_isAsItMustBe G ho rfl j.cf (by omega) i0 i1 (by omega) (by omega)) ?_
                  rcases tm with ⟨tm1, tm2, tm3, tm4⟩ | ⟨tm1, tm2⟩
                  rotate_left
                  · rw [tm1, if_neg (by decide)]
                    refine v_ifne 109 k_Model_read_99 rfl (by decide) (fun g => absurd rfl g) (fun g => ?_)
                    refine v_sipush k_Model_read_102 (by decide) ?_
                    refine v_iload k_Model_read_105 rfl ?_
                    refine v_isub k_Model_read_107 ?_
                    refine v_ireturn k_Model_read_108 rfl rfl ?_
                    rw [tm2] at ht
                    have hR : (tellA xs 80 0 0 K).1 = -2000 - p := by rw [← ht]
                    have hRR : rdR xs K = (-2000 - p, K) := by unfold rdR; rw [if_neg (by omega), if_neg (by omega), hR]
                    exact ⟨by rw [hRR], ⟨_, _, _, _, _, _, j⟩, ⟨a, cn, by rw [hRR]; exact hk⟩, fa⟩
                  rw [tm1, if_pos rfl]
                  rw [tm2] at ht
                  refine v_ifne 109 k_Model_read_99 rfl (by omega) (fun ce99 => ?_) (fun ce99 => ?_)
                  · refine v_iload_n k_Model_read_109 rfl ?_
                    refine v_aload_n k_Model_read_110 rfl ?_
                    refine v_getf fl_Model_67 ho rfl k_Model_read_111 ?_
                    try dsimp only
                    refine v_ifne 121 k_Model_read_114 rfl (by omega) (fun ce114 => ?_) (fun ce114 => ?_)
                    · refine v_iconst k_Model_read_121 ?_
                      refine v_iadd k_Model_read_122 ?_
                      refine v_istore_n k_Model_read_123 ⟨Nat.le_of_ble_eq_true rfl, Nat.le_of_ble_eq_true rfl⟩ ?_
                      refine v_iload_n k_Model_read_124 rfl ?_
                      refine v_aload_n k_Model_read_125 rfl ?_
                      refine v_getf fl_Model_67 ho rfl k_Model_read_126 ?_
                      try dsimp only
                      refine v_iconst k_Model_read_129 ?_
                      refine v_icne 137 k_Model_read_130 rfl (by omega) (by omega) (fun ce130 => ?_) (fun ce130 => ?_)
                      · refine v_iconst k_Model_read_137 ?_
                        refine v_iadd k_Model_read_138 ?_
                        refine v_istore_n k_Model_read_139 ⟨Nat.le_of_ble_eq_true rfl, Nat.le_of_ble_eq_true rfl⟩ ?_
                        refine v_goto k_Model_read_140 (tgt := 72) rfl ?_
                        first
                          | (exfalso; omega)
                          | (obtain ⟨u1, u2, u3, u4⟩ := tm4
                             have goal := ih (p + fmL xs p) _ _ (t + 1) (some (aI p)) ⟨_, _, _, _, j⟩ ⟨a, cn, hk⟩ (vK_tell w hp0 hz tm2) fa (by omega) (fun g => by rw [if_neg (by omega)] at hf; exact hf) ht (by omega) (by omega)
                             first
                               | (rw [u1 (by omega), u4 (by omega)] at goal; rw [Int.add_zero]; exact goal)
                               | (rw [u2 (by omega), u3 (by omega)] at goal; rw [Int.add_zero]; exact goal)
                               | (rw [u2 (by omega), u4 (by omega)] at goal; rw [Int.add_zero, Int.add_zero]; exact goal))
                      · refine v_iconst k_Model_read_133 ?_
                        refine v_goto k_Model_read_134 (tgt := 138) rfl ?_
                        refine v_iadd k_Model_read_138 ?_
                        refine v_istore_n k_Model_read_139 ⟨Nat.le_of_ble_eq_true rfl, Nat.le_of_ble_eq_true rfl⟩ ?_
                        refine v_goto k_Model_read_140 (tgt := 72) rfl ?_
                        first
                          | (exfalso; omega)
                          | (obtain ⟨u1, u2, u3, u4⟩ := tm4
                             have goal := ih (p + fmL xs p) _ _ (t + 1) (some (aI p)) ⟨_, _, _, _, j⟩ ⟨a, cn, hk⟩ (vK_tell w hp0 hz tm2) fa (by omega) (fun g => by rw [if_neg (by omega)] at hf; exact hf) ht (by omega) (by omega)
                             first
                               | (rw [u1 (by omega), u4 (by omega)] at goal; rw [Int.add_zero]; exact goal)
                               | (rw [u2 (by omega), u3 (by omega)] at goal; rw [Int.add_zero]; exact goal)
                               | (rw [u2 (by omega), u4 (by omega)] at goal; rw [Int.add_zero, Int.add_zero]; exact goal))
                    · refine v_iconst k_Model_read_117 ?_
                      refine v_goto k_Model_read_118 (tgt := 122) rfl ?_
                      refine v_iadd k_Model_read_122 ?_
                      refine v_istore_n k_Model_read_123 ⟨Nat.le_of_ble_eq_true rfl, Nat.le_of_ble_eq_true rfl⟩ ?_
                      refine v_iload_n k_Model_read_124 rfl ?_
                      refine v_aload_n k_Model_read_125 rfl ?_
                      refine v_getf fl_Model_67 ho rfl k_Model_read_126 ?_
                      try dsimp only
                      refine v_iconst k_Model_read_129 ?_
                      refine v_icne 137 k_Model_read_130 rfl (by omega) (by omega) (fun ce130 => ?_) (fun ce130 => ?_)
                      · refine v_iconst k_Model_read_137 ?_
                        refine v_iadd k_Model_read_138 ?_
                        refine v_istore_n k_Model_read_139 ⟨Nat.le_of_ble_eq_true rfl, Nat.le_of_ble_eq_true rfl⟩ ?_
                        refine v_goto k_Model_read_140 (tgt := 72) rfl ?_
                        first
                          | (exfalso; omega)
                          | (obtain ⟨u1, u2, u3, u4⟩ := tm4
                             have goal := ih (p + fmL xs p) _ _ (t + 1) (some (aI p)) ⟨_, _, _, _, j⟩ ⟨a, cn, hk⟩ (vK_tell w hp0 hz tm2) fa (by omega) (fun g => by rw [if_neg (by omega)] at hf; exact hf) ht (by omega) (by omega)
                             first
                               | (rw [u1 (by omega), u4 (by omega)] at goal; rw [Int.add_zero]; exact goal)
                               | (rw [u2 (by omega), u3 (by omega)] at goal; rw [Int.add_zero]; exact goal)
                               | (rw [u2 (by omega), u4 (by omega)] at goal; rw [Int.add_zero, Int.add_zero]; exact goal))
                      · refine v_iconst k_Model_read_133 ?_
                        refine v_goto k_Model_read_134 (tgt := 138) rfl ?_
                        refine v_iadd k_Model_read_138 ?_
                        refine v_istore_n k_Model_read_139 ⟨Nat.le_of_ble_eq_true rfl, Nat.le_of_ble_eq_true rfl⟩ ?_
                        refine v_goto k_Model_read_140 (tgt := 72) rfl ?_
                        first
                          | (exfalso; omega)
                          | (obtain ⟨u1, u2, u3, u4⟩ := tm4
                             have goal := ih (p + fmL xs p) _ _ (t + 1) (some (aI p)) ⟨_, _, _, _, j⟩ ⟨a, cn, hk⟩ (vK_tell w hp0 hz tm2) fa (by omega) (fun g => by rw [if_neg (by omega)] at hf; exact hf) ht (by omega) (by omega)
                             first
                               | (rw [u1 (by omega), u4 (by omega)] at goal; rw [Int.add_zero]; exact goal)
                               | (rw [u2 (by omega), u3 (by omega)] at goal; rw [Int.add_zero]; exact goal)
                               | (rw [u2 (by omega), u4 (by omega)] at goal; rw [Int.add_zero, Int.add_zero]; exact goal))
                  · exfalso; omega
            refine v_aload_n k_Model_read_53 rfl ?_
            refine v_iconst k_Model_read_54 ?_
            refine v_put fl_Model_60 ho (Nat.le_of_ble_eq_true rfl) (fun r hr => by cases hr; exact Or.inl rfl) rfl rfl k_Model_read_55 (fun h55 e55 f55 => ?_)
            have j := j.mk' (p' := 0) (ok' := 1) (so' := _) e55 f55 (by omega) (by omega)
            have fa := fa.tr f55.d0
            have cn := f55.at cn (by omega)
            have ho := j.ho
            have bp := j.bp
            refine v_aload_n k_Model_read_58 rfl ?_
            refine v_getf fl_Model_13 ho rfl k_Model_read_59 ?_
            refine v_iconst k_Model_read_62 ?_
            refine v_iald cn (by first | omega | (have := hk.1; omega)) (by (have := hk.1; omega)) k_Model_read_63 ?_
            rw [hk.n0]
            refine v_istore_n k_Model_read_64 ⟨Nat.le_of_ble_eq_true rfl, Nat.le_of_ble_eq_true rfl⟩ ?_
            refine v_aload_n k_Model_read_65 rfl ?_
            refine v_getf fl_Model_13 ho rfl k_Model_read_66 ?_
            refine v_iconst k_Model_read_69 ?_
            refine v_iald cn (by first | omega | (have := hk.1; omega)) (by (have := hk.1; omega)) k_Model_read_70 ?_
            rw [hk.n1]
            refine v_istore_n k_Model_read_71 ⟨Nat.le_of_ble_eq_true rfl, Nat.le_of_ble_eq_true rfl⟩ ?_
            exact L2 80 0 K _ 0 _ ⟨_, _, _, _, j⟩ ⟨a, cn, hk⟩ wK0 fa (by omega) (fun _ => hff) rfl (by omega) (by omega)
          · refine v_sipush k_Model_read_44 (by decide) ?_
            refine v_aload_n k_Model_read_47 rfl ?_
            refine v_getf fl_Model_60 ho rfl k_Model_read_48 ?_
            try dsimp only
            refine v_isub k_Model_read_51 ?_
            refine v_ireturn k_Model_read_52 rfl rfl ?_
            exfalso; omega
  refine v_iconst k_Model_read_0 ?_
  refine v_istore_n k_Model_read_1 ⟨Nat.le_of_ble_eq_true rfl, Nat.le_of_ble_eq_true rfl⟩ ?_
  refine v_aload_n k_Model_read_2 rfl ?_
  refine v_iconst k_Model_read_3 ?_
  refine v_put fl_Model_60 ho (Nat.le_of_ble_eq_true rfl) (fun r hr => by cases hr; exact Or.inl rfl) rfl rfl k_Model_read_4 (fun h4 e4 f4 => ?_)
  have ho := e4
  have fa := fa.tr f4.d0
  have cn := f4.at cn (by omega)
  refine v_aload_n k_Model_read_7 rfl ?_
  refine v_iconst k_Model_read_8 ?_
  refine v_put fl_Model_57 ho (Nat.le_of_ble_eq_true rfl) (fun r hr => by cases hr; exact Or.inl rfl) rfl rfl k_Model_read_9 (fun h9 e9 f9 => ?_)
  have j := j0 _ e9 (f4.tr f9 (Nat.le_refl _) (Nat.le_refl _))
  have fa := fa.tr f9.d0
  have cn := f9.at cn (by omega)
  exact L1 80 0 _ 0 ⟨_, _, _, _, j⟩ ⟨a, cn, hk⟩ fa (by omega) rfl (by omega) (by omega)
