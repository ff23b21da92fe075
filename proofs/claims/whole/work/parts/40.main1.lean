/-! the class itself: its state, and what each question answers and changes -/
abbrev St : Type := CK × CK × Int × List Int × List Int × List Int
def nK (S : St) : CK := S.1
def nO (S : St) : CK := S.2.1
def nB (S : St) : Int := S.2.2.1
def nX (S : St) : List Int := S.2.2.2.1
def nH (S : St) : List Int := S.2.2.2.2.1
def nR (S : St) : List Int := S.2.2.2.2.2
def wK_ (S : St) (K : CK) : St := (K, nO S, nB S, nX S, nH S, nR S)
def wO_ (S : St) (K : CK) : St := (nK S, K, 1, nX S, nH S, nR S)
def wX_ (S : St) (xs : List Int) : St := (nK S, nO S, nB S, xs, nH S, nR S)
def wH_ (S : St) (xs : List Int) : St := (nK S, nO S, nB S, nX S, xs, nR S)
def wR_ (S : St) (xs : List Int) : St := (nK S, nO S, nB S, nX S, nH S, xs)
def rfS (S : St) (no : Int) : Int × St := (no, wR_ S (rset (nR S) (-1 - no) (rget (nR S) (-1 - no) + 1)))
def lsS (c : Int) (r : Int × St) : Int × St := (c - r.1, r.2)
def oS (v l m : Int) : Int := if v < l then -4 else if v > m then -6 else 0
theorem oS_spec (v l m : Int) : (v < l ∧ oS v l m = -4) ∨ (¬ v < l ∧ v > m ∧ oS v l m = -6) ∨ (¬ v < l ∧ ¬ v > m ∧ oS v l m = 0) := by
  unfold oS
  split
  · omega
  · split <;> omega
def pMain (h : AH) (o : Nat) (S : St) : Prop :=
  h.2 o = some (aO 7 [aR (o + 1), aR (o + 19), aI (nB S), aR (o + 37), aR (o + 63), aR (o + 66), aR (o + 69), aR (o + 71)]) ∧ (∃ sg sd, pCanon h (o + 1) (nK S) sg sd) ∧ (∃ sg sd, pCanon h (o + 19) (nO S) sg sd) ∧ pMindX h (o + 37) ∧ (∃ es ls, pWalks h (o + 63) es ls) ∧
  pText h (o + 66) (nX S) ∧ pRow h (o + 69) 12 (nH S) ∧ pRow h (o + 71) 6 (nR S)
theorem pMain.fr {h h' : AH} {o lo hi : Nat} {S : St} (p : pMain h o S) (f : Fr lo hi h h') (ha : o + 73 ≤ lo ∨ hi ≤ o) : pMain h' o S := by
  obtain ⟨p0, ⟨sg, sd, p1⟩, ⟨sg2, sd2, p2⟩, p3, ⟨es, ls, p4⟩, p5, p6, p7⟩ := p
  exact ⟨f.at p0 (by omega), ⟨sg, sd, p1.fr f (by omega)⟩, ⟨sg2, sd2, p2.fr f (by omega)⟩, p3.fr f (by omega), ⟨es, ls, p4.fr f (by omega)⟩, p5.fr f (by omega), p6.fr f (by omega), p7.fr f (by omega)⟩
def wSt (S : St) : Prop := vK (nK S) 12 6 ∧ vK (nO S) 12 6 ∧ (∀ x ∈ nX S, 0 ≤ x ∧ x ≤ 255) ∧ (∀ x ∈ nH S, 0 ≤ x ∧ x ≤ 60) ∧ (nR S).length = 6 ∧ (0 ≤ nB S ∧ nB S ≤ 1) ∧ (nX S).length ≤ 80 ∧ (nH S).length ≤ 12
theorem fin1 {r : Int × St} {x : Int} {S' : St} {h h' : AH} {o : Nat} (e : r = (x, S')) (p : pMain h' o S') (f : Fr o (o + 73) h h') : some (aI x) = some (aI r.1) ∧ pMain h' o r.2 ∧ Fr o (o + 73) h h' := by
  rw [e]; exact ⟨rfl, p, f⟩
def s_letter (S : St) (c : Int) : Int × St := if oS c 0 255 ≠ 0 then rfS S (oS c 0 255) else if 80 ≤ (nX S).length then rfS S (-6) else ((nX S).length + 1, wX_ S (nX S ++ [c]))
def s_canon (S : St) : Int × St :=
  if ffA (nX S) 80 0 ≠ 0 then (ffA (nX S) 80 0, wX_ S []) else
  if (tellA (nX S) 80 0 0 (nK S)).1 > 0 then ((tellA (nX S) 80 0 0 (nK S)).1, wX_ (wK_ S (tellA (nX S) 80 0 0 (nK S)).2) []) else ((tellA (nX S) 80 0 0 (nK S)).1, wX_ S [])
def s_note (S : St) (n w : Int) : Int × St := if ¬ (0 ≤ n ∧ n < (kP (nK S)).length) then rfS S (-1) else if w = 0 then (rget (kP (nK S)) n, S) else if w = 1 then (rget (kL (nK S)) n, S) else if w = 2 then (((kL (nK S)).take n.toNat).sum, S) else rfS S (-2)
def s_voice (S : St) (v w : Int) : Int × St := if ¬ (0 ≤ v ∧ v < (kK (nK S)).length) then rfS S (-1) else if w = 0 then (rget (kK (nK S)) v, S) else if w = 1 then (rget (kE (nK S)) v, S) else if w = 2 then (rget (kH (nK S)) v, S) else if w = 3 then (q_rB (nK S) v, S) else if w = 4 then (q_stl (nK S) v, S) else rfS S (-2)
def s_pitch (S : St) (n v : Int) : Int × St := if ¬ (0 ≤ n ∧ n < (kP (nK S)).length) then rfS S (-1) else if oS v 0 9 ≠ 0 then rfS S (oS v 0 9) else (rget (kP (nK S)) n, wK_ S (setP (nK S) n v))
def s_enter (S : St) (n v : Int) : Int × St := if ¬ (0 ≤ n ∧ n < (kK (nK S)).length) then rfS S (-1) else if oS v 0 60 ≠ 0 then rfS S (oS v 0 60) else (rget (kE (nK S)) n, wK_ S (setE (nK S) n v))
def s_rounds (S : St) (v : Int) : Int × St := if oS v 1 4 ≠ 0 then rfS S (oS v 1 4) else (kR (nK S), wK_ S (setR (nK S) v))
def s_step (S : St) (v : Int) : Int × St := if oS v 0 2 ≠ 0 then rfS S (oS v 0 2) else (kS (nK S), wK_ S (setS (nK S) v))
def s_law (S : St) (v : Int) : Int × St := if oS v 0 127 ≠ 0 then rfS S (oS v 0 127) else (kW (nK S), wK_ S (setW (nK S) v))
def s_sound (S : St) (v b : Int) : Int × St := if ¬ (0 ≤ v ∧ v < (kK (nK S)).length) then lsS 1000000000 (rfS S (-1)) else if oS b 0 400 ≠ 0 then lsS 1000000000 (rfS S (oS b 0 400)) else (sO (nK S) v b, S)
def s_ill (S : St) (b : Int) : Int × St := if oS b 0 400 ≠ 0 then rfS S (oS b 0 400) else (ill (nK S) b, S)
def s_first (S : St) (w : Int) : Int × St := if w ≠ 0 ∧ w ≠ 1 then rfS S (-2) else if w = 0 ∨ fIB (nK S) (q_endK (nK S)).toNat 0 = -9 then (fIB (nK S) (q_endK (nK S)).toNat 0, S) else (fpP (kW (nK S)) (so (nK S) (fIB (nK S) (q_endK (nK S)).toNat 0)), S)
def s_allIll (S : St) : Int × St := (illS (nK S) (q_endK (nK S)).toNat, S)
def s_entries (S : St) (k hh : Int) : Int × St := if k < 0 ∨ k > 5 then rfS S (-2) else if oS hh 0 9 ≠ 0 then rfS S (oS hh 0 9) else ((orb (entOK (nK S) k hh) 31 : Nat), S)
def s_added (S : St) : Int × St := ((orb (fun p => wellE (setP (addN (nK S) 0 1) (kP (nK S)).length p)) 10 : Nat), S)
def s_silent (S : St) : Int × St := ((vaB (nK S) (q_endK (nK S)).toNat 0 (2 ^ (kK (nK S)).length - 1) : Nat), S)
def few (K : CK) (ms : List Int) : Int := if wellE K then 0 else if fsF K ms (kP K).length 0 = -9 then (if hpN K ms (kP K).length 0 then 2 else -9) else 1
def fst_ (K : CK) (ms : List Int) : Int := if wellE K then -9 else fsF K ms (kP K).length 0
def s_changed (S : St) (w : Int) (ms : List Int) : Int × St := if w = 0 then (few (nK S) ms, S) else if w = 1 then (fst_ (nK S) ms, S) else rfS S (-2)
def s_better (S : St) : Int × St := (bsN (nK S) (kP (nK S)).length 0 (illsE (nK S)), S)
def s_mirror (S : St) : Int × St := (if mrF (kP (nK S)) (kL (nK S)) ((bt (nK S) : Int) - 1) 40 0 then 1 else 0, S)
def s_agreeing (S : St) (n e : Int) : Int × St := if min n e < 1 then lsS 4000000000000000000 (rfS S (-4)) else if oS (max n e) 1 12 ≠ 0 then lsS 4000000000000000000 (rfS S (oS (max n e) 1 12)) else (prF (kW (nK S)) n e (min n e).toNat 0 1, S)
def s_range (S : St) (v w : Int) : Int × St := if ¬ (0 ≤ v ∧ v < (kK (nK S)).length) then lsS 1000000000 (rfS S (-1)) else if w ≠ 0 ∧ w ≠ 1 then lsS 1000000000 (rfS S (-2)) else (far (nK S) v w (q_stl (nK S) v - rget (kE (nK S)) v).toNat (rget (kE (nK S)) v) 999, S)
def s_stop (S : St) (b : Int) : Int × St := if oS b 0 400 ≠ 0 then rfS S (oS b 0 400) else (sts (nK S) b (kK (nK S)).length, S)
def s_unison (S : St) : Int × St := (unS (nK S) (q_endK (nK S)).toNat, S)
def s_row (S : St) (v : Int) : Int × St := if oS v 0 60 ≠ 0 then rfS S (oS v 0 60) else if 12 ≤ (nH S).length then rfS S (-6) else ((nH S).length + 1, wH_ S (nH S ++ [v]))
def s_who (S : St) (b : Int) : Int × St := if oS b 0 400 ≠ 0 then rfS S (oS b 0 400) else ((orb (fun v => decide (fnH (nK S) v b (nH S) 0 = -9)) (kK (nK S)).length : Nat), S)
def s_judge (S : St) (v b : Int) : Int × St := if ¬ (0 ≤ v ∧ v < (kK (nK S)).length) then rfS S (-1) else if oS b 0 400 ≠ 0 then rfS S (oS b 0 400) else (fnH (nK S) v b (nH S) 0, wH_ S [])
def s_seeds (S : St) (n z : Int) : Int × St := if oS n 1 20 ≠ 0 then rfS S (oS n 1 20) else (wdF (nK S) n.toNat z 0, S)
def s_image (S : St) : Int × St := ((kP (nK S)).length, wO_ S (nK S))
def s_on (S : St) : Int × St := if nB S = 0 then rfS S (-3) else ((kP (nO S)).length, wK_ S (nO S))
def s_count (S : St) (w : Int) : Int × St :=
  (if w = 0 then ((kP (nK S)).length : Int) else if w = 1 then ((kK (nK S)).length : Int) else if w = 2 then (bt (nK S) : Int) else if w = 3 then q_endK (nK S) else if w = 4 then kR (nK S) else if w = 5 then kS (nK S) else if w = 6 then kW (nK S) else if w = 7 then ((nH S).length : Int) else if w = 8 then ((nX S).length : Int) else if 11 ≤ w ∧ w ≤ 16 then rget (nR S) (w - 11) else -9, S)
set_option maxHeartbeats 4000000 in
set_option maxRecDepth 20000 in
theorem c_Main_outside (G : Gx) {h : AH} {v l m : Int} (hv : InR v) (hl : InR l) (hm : InR m) : Ct G Y_Main_outside 0 0 0 [aI v, aI l, aI m] h (isR (some (aI (oS v l m))) h) := by
  refine Ct.of_V mo_Main_outside rfl (Nat.le_of_ble_eq_true rfl) rfl ?_
  refine v_iload_n k_Main_outside_0 rfl ?_
  refine v_iload_n k_Main_outside_1 rfl ?_
  refine v_icge 10 k_Main_outside_2 rfl (by omega) (by omega) (fun c2 => ?_) (fun c2 => ?_)
  · refine v_iload_n k_Main_outside_10 rfl ?_
    refine v_iload_n k_Main_outside_11 rfl ?_
    refine v_icle 20 k_Main_outside_12 rfl (by omega) (by omega) (fun c12 => ?_) (fun c12 => ?_)
    · refine v_iconst k_Main_outside_20 ?_
      refine v_ireturn k_Main_outside_21 rfl rfl ?_
      exact ⟨by unfold oS; (repeat (first | rw [if_pos (by omega)] | rw [if_neg (by omega)])), rfl⟩
    · refine v_bipush k_Main_outside_15 (by decide) ?_
      refine v_goto k_Main_outside_17 (tgt := 21) rfl ?_
      refine v_ireturn k_Main_outside_21 rfl rfl ?_
      exact ⟨by unfold oS; (repeat (first | rw [if_pos (by omega)] | rw [if_neg (by omega)])), rfl⟩
  · refine v_bipush k_Main_outside_5 (by decide) ?_
    refine v_goto k_Main_outside_7 (tgt := 21) rfl ?_
    refine v_ireturn k_Main_outside_21 rfl rfl ?_
    exact ⟨by unfold oS; (repeat (first | rw [if_pos (by omega)] | rw [if_neg (by omega)])), rfl⟩

set_option maxHeartbeats 4000000 in
set_option maxRecDepth 20000 in
theorem c_Main_refuse (G : Gx) {h : AH} {o : Nat} {S : St} (hp : pMain h o S) (w : wSt S) {no : Int} (hno : -6 ≤ no ∧ no ≤ -1) : Ct G Y_Main_refuse 1 0 0 [aR o, aI no] h (fun v h' => v = some (aI no) ∧ pMain h' o (rfS S no).2 ∧ Fr (o + 71) (o + 73) h h') := by
  obtain ⟨m0, ⟨sg, sd, m1⟩, ⟨sg2, sd2, m2⟩, m3, ⟨es, ls, m4⟩, m5, m6, m7⟩ := id hp
  obtain ⟨k0, k1, k2⟩ := id m1
  have k3 := k1.1
  have j0 := m2.1
  obtain ⟨w1, w2, w3, w4, w5, w6, w7, w8⟩ := id w
  have wu := w1.up (by decide) (by decide)
  obtain ⟨fm, m8⟩ : ∃ fs, h.2 (o + 37) = some (aO 2 fs) := by obtain ⟨_, _, _, _, _, _, q⟩ := m3; exact ⟨_, q.1⟩
  refine Ct.of_V mo_Main_refuse rfl (Nat.le_of_ble_eq_true rfl) rfl ?_
  refine v_iconst k_Main_refuse_0 ?_
  refine v_iload_n k_Main_refuse_1 rfl ?_
  refine v_isub k_Main_refuse_2 ?_
  refine v_istore_n k_Main_refuse_3 ⟨Nat.le_of_ble_eq_true rfl, Nat.le_of_ble_eq_true rfl⟩ ?_
  refine v_aload_n k_Main_refuse_4 rfl ?_
  refine v_getf fl_Main_53 m0 rfl k_Main_refuse_5 ?_
  refine v_iload_n k_Main_refuse_8 rfl ?_
  refine v_aload_n k_Main_refuse_9 rfl ?_
  refine v_getf fl_Main_53 m0 rfl k_Main_refuse_10 ?_
  refine v_iload_n k_Main_refuse_13 rfl ?_
  refine v_callVr mo_Row_get mi_Row_get mv_Row_get lk_Main_230 k_Main_refuse_14 m7.obj rfl rfl (Nat.le_of_ble_eq_true rfl) rfl (Nat.le_of_ble_eq_true rfl) (c_Row_get G m7 (i := -1 - no) (by omega)) ?_
  refine v_iconst k_Main_refuse_17 ?_
  refine v_iadd k_Main_refuse_18 ?_
  refine v_callV mo_Row_set mi_Row_set mv_Row_set lk_Main_236 k_Main_refuse_19 m7.obj rfl rfl (Nat.le_of_ble_eq_true rfl) rfl (Nat.le_of_ble_eq_true rfl) (c_Row_set G m7 (i := -1 - no) (by omega)) (fun v19 h19 q19 => ?_)
  obtain ⟨rfl, q7, f9⟩ := q19
  refine v_iload_n k_Main_refuse_22 rfl ?_
  refine v_ireturn k_Main_refuse_23 rfl rfl ?_
  exact ⟨rfl, ⟨f9.at m0 (by omega), ⟨sg, sd, m1.fr f9 (by omega)⟩, ⟨sg2, sd2, m2.fr f9 (by omega)⟩, m3.fr f9 (by omega), ⟨es, ls, m4.fr f9 (by omega)⟩, m5.fr f9 (by omega), m6.fr f9 (by omega), q7⟩, f9.wd (by omega) (by omega)⟩

set_option maxHeartbeats 4000000 in
set_option maxRecDepth 20000 in
theorem c_Main_letter (G : Gx) {h : AH} {o : Nat} {S : St} (hp : pMain h o S) (w : wSt S) {c : Int} (hc0 : InR c) : Ct G Y_Main_letter 3 0 0 [aR o, aI c] h (fun v h' => v = some (aI (s_letter S c).1) ∧ pMain h' o (s_letter S c).2 ∧ Fr o (o + 73) h h') := by
  obtain ⟨m0, ⟨sg, sd, m1⟩, ⟨sg2, sd2, m2⟩, m3, ⟨es, ls, m4⟩, m5, m6, m7⟩ := id hp
  obtain ⟨k0, k1, k2⟩ := id m1
  have k3 := k1.1
  have j0 := m2.1
  obtain ⟨w1, w2, w3, w4, w5, w6, w7, w8⟩ := id w
  have wu := w1.up (by decide) (by decide)
  obtain ⟨fm, m8⟩ : ∃ fs, h.2 (o + 37) = some (aO 2 fs) := by obtain ⟨_, _, _, _, _, _, q⟩ := m3; exact ⟨_, q.1⟩
  have ho := oS_spec c 0 255
  refine Ct.of_V mo_Main_letter rfl (Nat.le_of_ble_eq_true rfl) rfl ?_
  refine v_iload_n k_Main_letter_0 rfl ?_
  refine v_iconst k_Main_letter_1 ?_
  refine v_sipush k_Main_letter_2 (by decide) ?_
  refine v_callSr mo_Main_outside ms_Main_outside lk_Main_59 k_Main_letter_5 rfl (Nat.le_of_ble_eq_true rfl) rfl (Nat.le_of_ble_eq_true rfl) (c_Main_outside G (v := c) (l := 0) (m := 255) (by omega) (by omega) (by omega)) ?_
  refine v_istore_n k_Main_letter_8 ⟨Nat.le_of_ble_eq_true rfl, Nat.le_of_ble_eq_true rfl⟩ ?_
  refine v_iload_n k_Main_letter_9 rfl ?_
  refine v_ifne 28 k_Main_letter_10 rfl (by omega) (fun c10 => ?_) (fun c10 => ?_)
  · refine v_iload_n k_Main_letter_28 rfl ?_
    refine v_ifeq 40 k_Main_letter_29 rfl (by omega) (fun c29 => ?_) (fun c29 => ?_)
    · refine v_aload_n k_Main_letter_40 rfl ?_
      refine v_getf fl_Main_40 m0 rfl k_Main_letter_41 ?_
      refine v_iload_n k_Main_letter_44 rfl ?_
      refine v_callV mo_Text_add mi_Text_add mv_Text_add lk_Main_71 k_Main_letter_45 m5.1 rfl rfl (Nat.le_of_ble_eq_true rfl) rfl (Nat.le_of_ble_eq_true rfl) (c_Text_add G m5 (x := c)) (fun v45 h45 q45 => ?_)
      obtain ⟨rfl, q5, f9⟩ := q45
      have e5 : radd 80 (nX S) c = nX S ++ [c] := by rw [radd, if_pos (by omega)]
      rw [e5] at q5 ⊢
      refine v_ireturn k_Main_letter_48 rfl rfl ?_
      first
        | (exfalso; omega)
        | exact fin1 (by unfold s_letter; (repeat (first | rw [if_pos (by omega)] | rw [if_neg (by omega)])); try rfl) p9 (f9.wd (by omega) (by omega))
        | exact fin1 (S' := wX_ S (nX S ++ [c])) (by unfold s_letter; rw [if_neg (by omega), if_neg (by omega)]; simp) ⟨f9.at m0 (by omega), ⟨sg, sd, m1.fr f9 (by omega)⟩, ⟨sg2, sd2, m2.fr f9 (by omega)⟩, m3.fr f9 (by omega), ⟨es, ls, m4.fr f9 (by omega)⟩, q5, m6.fr f9 (by omega), m7.fr f9 (by omega)⟩ (f9.wd (by omega) (by omega))
    · refine v_aload_n k_Main_letter_32 rfl ?_
      refine v_iload_n k_Main_letter_33 rfl ?_
      refine v_callV mo_Main_refuse mi_Main_refuse mv_Main_refuse lk_Main_67 k_Main_letter_34 m0 rfl rfl (Nat.le_of_ble_eq_true rfl) rfl (Nat.le_of_ble_eq_true rfl) (c_Main_refuse G hp w (by omega)) (fun v34 h34 q34 => ?_)
      obtain ⟨rfl, p9, f9⟩ := q34
      refine v_goto k_Main_letter_37 (tgt := 48) rfl ?_
      refine v_ireturn k_Main_letter_48 rfl rfl ?_
      first
        | (exfalso; omega)
        | exact fin1 (by unfold s_letter; (repeat (first | rw [if_pos (by omega)] | rw [if_neg (by omega)])); try rfl) p9 (f9.wd (by omega) (by omega))
        | exact fin1 (S' := wX_ S (nX S ++ [c])) (by unfold s_letter; rw [if_neg (by omega), if_neg (by omega)]; simp) ⟨f9.at m0 (by omega), ⟨sg, sd, m1.fr f9 (by omega)⟩, ⟨sg2, sd2, m2.fr f9 (by omega)⟩, m3.fr f9 (by omega), ⟨es, ls, m4.fr f9 (by omega)⟩, q5, m6.fr f9 (by omega), m7.fr f9 (by omega)⟩ (f9.wd (by omega) (by omega))
  · refine v_aload_n k_Main_letter_13 rfl ?_
    refine v_getf fl_Main_40 m0 rfl k_Main_letter_14 ?_
    refine v_callVr mo_Text_size mi_Text_size mv_Text_size lk_Main_63 k_Main_letter_17 m5.1 rfl rfl (Nat.le_of_ble_eq_true rfl) rfl (Nat.le_of_ble_eq_true rfl) (c_Text_size G m5) ?_
    refine v_bipush k_Main_letter_20 (by decide) ?_
    refine v_iclt 28 k_Main_letter_22 rfl (by omega) (by omega) (fun c22 => ?_) (fun c22 => ?_)
    · refine v_iload_n k_Main_letter_28 rfl ?_
      refine v_ifeq 40 k_Main_letter_29 rfl (by omega) (fun c29 => ?_) (fun c29 => ?_)
      · refine v_aload_n k_Main_letter_40 rfl ?_
        refine v_getf fl_Main_40 m0 rfl k_Main_letter_41 ?_
        refine v_iload_n k_Main_letter_44 rfl ?_
        refine v_callV mo_Text_add mi_Text_add mv_Text_add lk_Main_71 k_Main_letter_45 m5.1 rfl rfl (Nat.le_of_ble_eq_true rfl) rfl (Nat.le_of_ble_eq_true rfl) (c_Text_add G m5 (x := c)) (fun v45 h45 q45 => ?_)
        obtain ⟨rfl, q5, f9⟩ := q45
        have e5 : radd 80 (nX S) c = nX S ++ [c] := by rw [radd, if_pos (by omega)]
        rw [e5] at q5 ⊢
        refine v_ireturn k_Main_letter_48 rfl rfl ?_
        first
          | (exfalso; omega)
          | exact fin1 (by unfold s_letter; (repeat (first | rw [if_pos (by omega)] | rw [if_neg (by omega)])); try rfl) p9 (f9.wd (by omega) (by omega))
          | exact fin1 (S' := wX_ S (nX S ++ [c])) (by unfold s_letter; rw [if_neg (by omega), if_neg (by omega)]; simp) ⟨f9.at m0 (by omega), ⟨sg, sd, m1.fr f9 (by omega)⟩, ⟨sg2, sd2, m2.fr f9 (by omega)⟩, m3.fr f9 (by omega), ⟨es, ls, m4.fr f9 (by omega)⟩, q5, m6.fr f9 (by omega), m7.fr f9 (by omega)⟩ (f9.wd (by omega) (by omega))
      · refine v_aload_n k_Main_letter_32 rfl ?_
        refine v_iload_n k_Main_letter_33 rfl ?_
        refine v_callV mo_Main_refuse mi_Main_refuse mv_Main_refuse lk_Main_67 k_Main_letter_34 m0 rfl rfl (Nat.le_of_ble_eq_true rfl) rfl (Nat.le_of_ble_eq_true rfl) (c_Main_refuse G hp w (by omega)) (fun v34 h34 q34 => ?_)
        obtain ⟨rfl, p9, f9⟩ := q34
        refine v_goto k_Main_letter_37 (tgt := 48) rfl ?_
        refine v_ireturn k_Main_letter_48 rfl rfl ?_
        first
          | (exfalso; omega)
          | exact fin1 (by unfold s_letter; (repeat (first | rw [if_pos (by omega)] | rw [if_neg (by omega)])); try rfl) p9 (f9.wd (by omega) (by omega))
          | exact fin1 (S' := wX_ S (nX S ++ [c])) (by unfold s_letter; rw [if_neg (by omega), if_neg (by omega)]; simp) ⟨f9.at m0 (by omega), ⟨sg, sd, m1.fr f9 (by omega)⟩, ⟨sg2, sd2, m2.fr f9 (by omega)⟩, m3.fr f9 (by omega), ⟨es, ls, m4.fr f9 (by omega)⟩, q5, m6.fr f9 (by omega), m7.fr f9 (by omega)⟩ (f9.wd (by omega) (by omega))
    · refine v_bipush k_Main_letter_25 (by decide) ?_
      refine v_istore_n k_Main_letter_27 ⟨Nat.le_of_ble_eq_true rfl, Nat.le_of_ble_eq_true rfl⟩ ?_
      refine v_iload_n k_Main_letter_28 rfl ?_
      refine v_ifeq 40 k_Main_letter_29 rfl (by omega) (fun c29 => ?_) (fun c29 => ?_)
      · refine v_aload_n k_Main_letter_40 rfl ?_
        refine v_getf fl_Main_40 m0 rfl k_Main_letter_41 ?_
        refine v_iload_n k_Main_letter_44 rfl ?_
        refine v_callV mo_Text_add mi_Text_add mv_Text_add lk_Main_71 k_Main_letter_45 m5.1 rfl rfl (Nat.le_of_ble_eq_true rfl) rfl (Nat.le_of_ble_eq_true rfl) (c_Text_add G m5 (x := c)) (fun v45 h45 q45 => ?_)
        obtain ⟨rfl, q5, f9⟩ := q45
        have e5 : radd 80 (nX S) c = nX S ++ [c] := by rw [radd, if_pos (by omega)]
        rw [e5] at q5 ⊢
        refine v_ireturn k_Main_letter_48 rfl rfl ?_
        first
          | (exfalso; omega)
          | exact fin1 (by unfold s_letter; (repeat (first | rw [if_pos (by omega)] | rw [if_neg (by omega)])); try rfl) p9 (f9.wd (by omega) (by omega))
          | exact fin1 (S' := wX_ S (nX S ++ [c])) (by unfold s_letter; rw [if_neg (by omega), if_neg (by omega)]; simp) ⟨f9.at m0 (by omega), ⟨sg, sd, m1.fr f9 (by omega)⟩, ⟨sg2, sd2, m2.fr f9 (by omega)⟩, m3.fr f9 (by omega), ⟨es, ls, m4.fr f9 (by omega)⟩, q5, m6.fr f9 (by omega), m7.fr f9 (by omega)⟩ (f9.wd (by omega) (by omega))
      · refine v_aload_n k_Main_letter_32 rfl ?_
        refine v_iload_n k_Main_letter_33 rfl ?_
        refine v_callV mo_Main_refuse mi_Main_refuse mv_Main_refuse lk_Main_67 k_Main_letter_34 m0 rfl rfl (Nat.le_of_ble_eq_true rfl) rfl (Nat.le_of_ble_eq_true rfl) (c_Main_refuse G hp w (by omega)) (fun v34 h34 q34 => ?_)
        obtain ⟨rfl, p9, f9⟩ := q34
        refine v_goto k_Main_letter_37 (tgt := 48) rfl ?_
        refine v_ireturn k_Main_letter_48 rfl rfl ?_
        first
          | (exfalso; omega)
          | exact fin1 (by unfold s_letter; (repeat (first | rw [if_pos (by omega)] | rw [if_neg (by omega)])); try rfl) p9 (f9.wd (by omega) (by omega))
          | exact fin1 (S' := wX_ S (nX S ++ [c])) (by unfold s_letter; rw [if_neg (by omega), if_neg (by omega)]; simp) ⟨f9.at m0 (by omega), ⟨sg, sd, m1.fr f9 (by omega)⟩, ⟨sg2, sd2, m2.fr f9 (by omega)⟩, m3.fr f9 (by omega), ⟨es, ls, m4.fr f9 (by omega)⟩, q5, m6.fr f9 (by omega), m7.fr f9 (by omega)⟩ (f9.wd (by omega) (by omega))

set_option maxHeartbeats 4000000 in
set_option maxRecDepth 20000 in
theorem c_Main_note (G : Gx) {h : AH} {o : Nat} {S : St} (hp : pMain h o S) (w : wSt S) {n x : Int} (hn : InR n) (hx : InR x) : Ct G Y_Main_note 2 0 0 [aR o, aI n, aI x] h (fun v h' => v = some (aI (s_note S n x).1) ∧ pMain h' o (s_note S n x).2 ∧ Fr o (o + 73) h h') := by
  obtain ⟨m0, ⟨sg, sd, m1⟩, ⟨sg2, sd2, m2⟩, m3, ⟨es, ls, m4⟩, m5, m6, m7⟩ := id hp
  obtain ⟨k0, k1, k2⟩ := id m1
  have k3 := k1.1
  have j0 := m2.1
  obtain ⟨w1, w2, w3, w4, w5, w6, w7, w8⟩ := id w
  have wu := w1.up (by decide) (by decide)
  obtain ⟨fm, m8⟩ : ∃ fs, h.2 (o + 37) = some (aO 2 fs) := by obtain ⟨_, _, _, _, _, _, q⟩ := m3; exact ⟨_, q.1⟩
  refine Ct.of_V mo_Main_note rfl (Nat.le_of_ble_eq_true rfl) rfl ?_
  by_cases hc : 0 ≤ n ∧ n < (kP (nK S)).length
  · skip
    refine v_aload_n k_Main_note_0 rfl ?_
    refine v_getf fl_Main_12 m0 rfl k_Main_note_1 ?_
    refine v_getf fl_Main_91 k0 rfl k_Main_note_4 ?_
    refine v_iload_n k_Main_note_7 rfl ?_
    refine v_callVr mo_Tune_has mi_Tune_has mv_Tune_has lk_Main_95 k_Main_note_8 k3 rfl rfl (Nat.le_of_ble_eq_true rfl) rfl (Nat.le_of_ble_eq_true rfl) ((by have q := c_Tune_has G k1 (i := n) (by omega); rw [if_pos hc] at q; exact q)) ?_
    refine v_ifne 20 k_Main_note_11 rfl (by omega) (fun c11 => ?_) (fun c11 => ?_)
    · refine v_iload_n k_Main_note_20 rfl ?_
      by_cases g0 : x = 0
      · rw [g0]
        refine v_tableIn 48 k_Main_note_21 (by decide) (by decide) (by decide) (off := 27) rfl rfl ?_
        refine v_aload_n k_Main_note_48 rfl ?_
        refine v_getf fl_Main_12 m0 rfl k_Main_note_49 ?_
        refine v_getf fl_Main_91 k0 rfl k_Main_note_52 ?_
        refine v_iload_n k_Main_note_55 rfl ?_
        refine v_callVr mo_Tune_pitchOf mi_Tune_pitchOf mv_Tune_pitchOf lk_Main_101 k_Main_note_56 k3 rfl rfl (Nat.le_of_ble_eq_true rfl) rfl (Nat.le_of_ble_eq_true rfl) (c_Tune_pitchOf G k1 hn) ?_
        refine v_ireturn k_Main_note_59 rfl rfl ?_
        first
          | (exfalso; omega)
          | exact fin1 (by unfold s_note; (repeat (first | rw [if_pos (by omega)] | rw [if_neg (by omega)])); try rfl) p9 (f9.wd (by omega) (by omega))
          | exact fin1 (by unfold s_note; (repeat (first | rw [if_pos (by omega)] | rw [if_neg (by omega)])); try rfl) hp Fr.rf
      by_cases g1 : x = 1
      · rw [g1]
        refine v_tableIn 60 k_Main_note_21 (by decide) (by decide) (by decide) (off := 39) rfl rfl ?_
        refine v_aload_n k_Main_note_60 rfl ?_
        refine v_getf fl_Main_12 m0 rfl k_Main_note_61 ?_
        refine v_getf fl_Main_91 k0 rfl k_Main_note_64 ?_
        refine v_iload_n k_Main_note_67 rfl ?_
        refine v_callVr mo_Tune_lengthOf mi_Tune_lengthOf mv_Tune_lengthOf lk_Main_104 k_Main_note_68 k3 rfl rfl (Nat.le_of_ble_eq_true rfl) rfl (Nat.le_of_ble_eq_true rfl) (c_Tune_lengthOf G k1 hn) ?_
        refine v_ireturn k_Main_note_71 rfl rfl ?_
        first
          | (exfalso; omega)
          | exact fin1 (by unfold s_note; (repeat (first | rw [if_pos (by omega)] | rw [if_neg (by omega)])); try rfl) p9 (f9.wd (by omega) (by omega))
          | exact fin1 (by unfold s_note; (repeat (first | rw [if_pos (by omega)] | rw [if_neg (by omega)])); try rfl) hp Fr.rf
      by_cases g2 : x = 2
      · rw [g2]
        refine v_tableIn 72 k_Main_note_21 (by decide) (by decide) (by decide) (off := 51) rfl rfl ?_
        refine v_aload_n k_Main_note_72 rfl ?_
        refine v_getf fl_Main_12 m0 rfl k_Main_note_73 ?_
        refine v_getf fl_Main_91 k0 rfl k_Main_note_76 ?_
        refine v_iload_n k_Main_note_79 rfl ?_
        refine v_callVr mo_Tune_startOf mi_Tune_startOf mv_Tune_startOf lk_Main_107 k_Main_note_80 k3 rfl rfl (Nat.le_of_ble_eq_true rfl) rfl (Nat.le_of_ble_eq_true rfl) (c_Tune_startOf G k1 hn) ?_
        refine v_ireturn k_Main_note_83 rfl rfl ?_
        first
          | (exfalso; omega)
          | exact fin1 (by unfold s_note; (repeat (first | rw [if_pos (by omega)] | rw [if_neg (by omega)])); try rfl) p9 (f9.wd (by omega) (by omega))
          | exact fin1 (by unfold s_note; (repeat (first | rw [if_pos (by omega)] | rw [if_neg (by omega)])); try rfl) hp Fr.rf
      refine v_tableOut 84 k_Main_note_21 hx (by omega) rfl ?_
      refine v_aload_n k_Main_note_84 rfl ?_
      refine v_bipush k_Main_note_85 (by decide) ?_
      refine v_callV mo_Main_refuse mi_Main_refuse mv_Main_refuse lk_Main_67 k_Main_note_87 m0 rfl rfl (Nat.le_of_ble_eq_true rfl) rfl (Nat.le_of_ble_eq_true rfl) (c_Main_refuse G hp w (by omega)) (fun v87 h87 q87 => ?_)
      obtain ⟨rfl, p9, f9⟩ := q87
      refine v_ireturn k_Main_note_90 rfl rfl ?_
      first
        | (exfalso; omega)
        | exact fin1 (by unfold s_note; (repeat (first | rw [if_pos (by omega)] | rw [if_neg (by omega)])); try rfl) p9 (f9.wd (by omega) (by omega))
        | exact fin1 (by unfold s_note; (repeat (first | rw [if_pos (by omega)] | rw [if_neg (by omega)])); try rfl) hp Fr.rf
    · refine v_aload_n k_Main_note_14 rfl ?_
      refine v_iconst k_Main_note_15 ?_
      refine v_callV mo_Main_refuse mi_Main_refuse mv_Main_refuse lk_Main_67 k_Main_note_16 m0 rfl rfl (Nat.le_of_ble_eq_true rfl) rfl (Nat.le_of_ble_eq_true rfl) (c_Main_refuse G hp w (by omega)) (fun v16 h16 q16 => ?_)
      obtain ⟨rfl, p9, f9⟩ := q16
      refine v_ireturn k_Main_note_19 rfl rfl ?_
      first
        | (exfalso; omega)
        | exact fin1 (by unfold s_note; (repeat (first | rw [if_pos (by omega)] | rw [if_neg (by omega)])); try rfl) p9 (f9.wd (by omega) (by omega))
        | exact fin1 (by unfold s_note; (repeat (first | rw [if_pos (by omega)] | rw [if_neg (by omega)])); try rfl) hp Fr.rf
  · skip
    refine v_aload_n k_Main_note_0 rfl ?_
    refine v_getf fl_Main_12 m0 rfl k_Main_note_1 ?_
    refine v_getf fl_Main_91 k0 rfl k_Main_note_4 ?_
    refine v_iload_n k_Main_note_7 rfl ?_
    refine v_callVr mo_Tune_has mi_Tune_has mv_Tune_has lk_Main_95 k_Main_note_8 k3 rfl rfl (Nat.le_of_ble_eq_true rfl) rfl (Nat.le_of_ble_eq_true rfl) ((by have q := c_Tune_has G k1 (i := n) (by omega); rw [if_neg hc] at q; exact q)) ?_
    refine v_ifne 20 k_Main_note_11 rfl (by omega) (fun c11 => ?_) (fun c11 => ?_)
    · exfalso; omega
    · refine v_aload_n k_Main_note_14 rfl ?_
      refine v_iconst k_Main_note_15 ?_
      refine v_callV mo_Main_refuse mi_Main_refuse mv_Main_refuse lk_Main_67 k_Main_note_16 m0 rfl rfl (Nat.le_of_ble_eq_true rfl) rfl (Nat.le_of_ble_eq_true rfl) (c_Main_refuse G hp w (by omega)) (fun v16 h16 q16 => ?_)
      obtain ⟨rfl, p9, f9⟩ := q16
      refine v_ireturn k_Main_note_19 rfl rfl ?_
      first
        | (exfalso; omega)
        | exact fin1 (by unfold s_note; (repeat (first | rw [if_pos (by omega)] | rw [if_neg (by omega)])); try rfl) p9 (f9.wd (by omega) (by omega))
        | exact fin1 (by unfold s_note; (repeat (first | rw [if_pos (by omega)] | rw [if_neg (by omega)])); try rfl) hp Fr.rf

set_option maxHeartbeats 4000000 in
set_option maxRecDepth 20000 in
theorem c_Main_voice (G : Gx) {h : AH} {o : Nat} {S : St} (hp : pMain h o S) (w : wSt S) {n x : Int} (hn : InR n) (hx : InR x) : Ct G Y_Main_voice 3 0 0 [aR o, aI n, aI x] h (fun v h' => v = some (aI (s_voice S n x).1) ∧ pMain h' o (s_voice S n x).2 ∧ Fr o (o + 73) h h') := by
  obtain ⟨m0, ⟨sg, sd, m1⟩, ⟨sg2, sd2, m2⟩, m3, ⟨es, ls, m4⟩, m5, m6, m7⟩ := id hp
  obtain ⟨k0, k1, k2⟩ := id m1
  have k3 := k1.1
  have j0 := m2.1
  obtain ⟨w1, w2, w3, w4, w5, w6, w7, w8⟩ := id w
  have wu := w1.up (by decide) (by decide)
  obtain ⟨fm, m8⟩ : ∃ fs, h.2 (o + 37) = some (aO 2 fs) := by obtain ⟨_, _, _, _, _, _, q⟩ := m3; exact ⟨_, q.1⟩
  refine Ct.of_V mo_Main_voice rfl (Nat.le_of_ble_eq_true rfl) rfl ?_
  by_cases hc : 0 ≤ n ∧ n < (kK (nK S)).length
  · skip
    refine v_aload_n k_Main_voice_0 rfl ?_
    refine v_getf fl_Main_12 m0 rfl k_Main_voice_1 ?_
    refine v_iload_n k_Main_voice_4 rfl ?_
    refine v_callVr mo_Canon_hasVoice mi_Canon_hasVoice mv_Canon_hasVoice lk_Main_110 k_Main_voice_5 k0 rfl rfl (Nat.le_of_ble_eq_true rfl) rfl (Nat.le_of_ble_eq_true rfl) ((by have q := c_Canon_hasVoice G m1 (v := n) (by omega); rw [if_pos hc] at q; exact q)) ?_
    refine v_ifne 17 k_Main_voice_8 rfl (by omega) (fun c8 => ?_) (fun c8 => ?_)
    · refine v_iload_n k_Main_voice_17 rfl ?_
      by_cases g0 : x = 0
      · rw [g0]
        refine v_tableIn 52 k_Main_voice_18 (by decide) (by decide) (by decide) (off := 34) rfl rfl ?_
        refine v_aload_n k_Main_voice_52 rfl ?_
        refine v_getf fl_Main_12 m0 rfl k_Main_voice_53 ?_
        refine v_iload_n k_Main_voice_56 rfl ?_
        refine v_callVr mo_Canon_kindOf mi_Canon_kindOf mv_Canon_kindOf lk_Main_113 k_Main_voice_57 k0 rfl rfl (Nat.le_of_ble_eq_true rfl) rfl (Nat.le_of_ble_eq_true rfl) (c_Canon_kindOf G m1 hn) ?_
        refine v_ireturn k_Main_voice_60 rfl rfl ?_
        first
          | (exfalso; omega)
          | exact fin1 (by unfold s_voice; (repeat (first | rw [if_pos (by omega)] | rw [if_neg (by omega)])); try rfl) p9 (f9.wd (by omega) (by omega))
          | exact fin1 (by unfold s_voice; (repeat (first | rw [if_pos (by omega)] | rw [if_neg (by omega)])); try rfl) hp Fr.rf
      by_cases g1 : x = 1
      · rw [g1]
        refine v_tableIn 61 k_Main_voice_18 (by decide) (by decide) (by decide) (off := 43) rfl rfl ?_
        refine v_aload_n k_Main_voice_61 rfl ?_
        refine v_getf fl_Main_12 m0 rfl k_Main_voice_62 ?_
        refine v_iload_n k_Main_voice_65 rfl ?_
        refine v_callVr mo_Canon_entryOf mi_Canon_entryOf mv_Canon_entryOf lk_Main_116 k_Main_voice_66 k0 rfl rfl (Nat.le_of_ble_eq_true rfl) rfl (Nat.le_of_ble_eq_true rfl) (c_Canon_entryOf G m1 hn) ?_
        refine v_ireturn k_Main_voice_69 rfl rfl ?_
        first
          | (exfalso; omega)
          | exact fin1 (by unfold s_voice; (repeat (first | rw [if_pos (by omega)] | rw [if_neg (by omega)])); try rfl) p9 (f9.wd (by omega) (by omega))
          | exact fin1 (by unfold s_voice; (repeat (first | rw [if_pos (by omega)] | rw [if_neg (by omega)])); try rfl) hp Fr.rf
      by_cases g2 : x = 2
      · rw [g2]
        refine v_tableIn 70 k_Main_voice_18 (by decide) (by decide) (by decide) (off := 52) rfl rfl ?_
        refine v_aload_n k_Main_voice_70 rfl ?_
        refine v_getf fl_Main_12 m0 rfl k_Main_voice_71 ?_
        refine v_iload_n k_Main_voice_74 rfl ?_
        refine v_callVr mo_Canon_highOf mi_Canon_highOf mv_Canon_highOf lk_Main_119 k_Main_voice_75 k0 rfl rfl (Nat.le_of_ble_eq_true rfl) rfl (Nat.le_of_ble_eq_true rfl) (c_Canon_highOf G m1 hn) ?_
        refine v_ireturn k_Main_voice_78 rfl rfl ?_
        first
          | (exfalso; omega)
          | exact fin1 (by unfold s_voice; (repeat (first | rw [if_pos (by omega)] | rw [if_neg (by omega)])); try rfl) p9 (f9.wd (by omega) (by omega))
          | exact fin1 (by unfold s_voice; (repeat (first | rw [if_pos (by omega)] | rw [if_neg (by omega)])); try rfl) hp Fr.rf
      by_cases g3 : x = 3
      · rw [g3]
        refine v_tableIn 79 k_Main_voice_18 (by decide) (by decide) (by decide) (off := 61) rfl rfl ?_
        refine v_aload_n k_Main_voice_79 rfl ?_
        refine v_getf fl_Main_12 m0 rfl k_Main_voice_80 ?_
        refine v_iload_n k_Main_voice_83 rfl ?_
        refine v_callVr mo_Canon_roundBeats mi_Canon_roundBeats mv_Canon_roundBeats lk_Main_122 k_Main_voice_84 k0 rfl rfl (Nat.le_of_ble_eq_true rfl) rfl (Nat.le_of_ble_eq_true rfl) (c_Canon_roundBeats G m1 wu hn) ?_
        refine v_ireturn k_Main_voice_87 rfl rfl ?_
        first
          | (exfalso; omega)
          | exact fin1 (by unfold s_voice; (repeat (first | rw [if_pos (by omega)] | rw [if_neg (by omega)])); try rfl) p9 (f9.wd (by omega) (by omega))
          | exact fin1 (by unfold s_voice; (repeat (first | rw [if_pos (by omega)] | rw [if_neg (by omega)])); try rfl) hp Fr.rf
      by_cases g4 : x = 4
      · rw [g4]
        refine v_tableIn 88 k_Main_voice_18 (by decide) (by decide) (by decide) (off := 70) rfl rfl ?_
        refine v_aload_n k_Main_voice_88 rfl ?_
        refine v_getf fl_Main_12 m0 rfl k_Main_voice_89 ?_
        refine v_iload_n k_Main_voice_92 rfl ?_
        refine v_callVr mo_Canon_stillFrom mi_Canon_stillFrom mv_Canon_stillFrom lk_Main_125 k_Main_voice_93 k0 rfl rfl (Nat.le_of_ble_eq_true rfl) rfl (Nat.le_of_ble_eq_true rfl) (c_Canon_stillFrom G m1 wu hn) ?_
        refine v_ireturn k_Main_voice_96 rfl rfl ?_
        first
          | (exfalso; omega)
          | exact fin1 (by unfold s_voice; (repeat (first | rw [if_pos (by omega)] | rw [if_neg (by omega)])); try rfl) p9 (f9.wd (by omega) (by omega))
          | exact fin1 (by unfold s_voice; (repeat (first | rw [if_pos (by omega)] | rw [if_neg (by omega)])); try rfl) hp Fr.rf
      refine v_tableOut 97 k_Main_voice_18 hx (by omega) rfl ?_
      refine v_aload_n k_Main_voice_97 rfl ?_
      refine v_bipush k_Main_voice_98 (by decide) ?_
      refine v_callV mo_Main_refuse mi_Main_refuse mv_Main_refuse lk_Main_67 k_Main_voice_100 m0 rfl rfl (Nat.le_of_ble_eq_true rfl) rfl (Nat.le_of_ble_eq_true rfl) (c_Main_refuse G hp w (by omega)) (fun v100 h100 q100 => ?_)
      obtain ⟨rfl, p9, f9⟩ := q100
      refine v_ireturn k_Main_voice_103 rfl rfl ?_
      first
        | (exfalso; omega)
        | exact fin1 (by unfold s_voice; (repeat (first | rw [if_pos (by omega)] | rw [if_neg (by omega)])); try rfl) p9 (f9.wd (by omega) (by omega))
        | exact fin1 (by unfold s_voice; (repeat (first | rw [if_pos (by omega)] | rw [if_neg (by omega)])); try rfl) hp Fr.rf
    · refine v_aload_n k_Main_voice_11 rfl ?_
      refine v_iconst k_Main_voice_12 ?_
      refine v_callV mo_Main_refuse mi_Main_refuse mv_Main_refuse lk_Main_67 k_Main_voice_13 m0 rfl rfl (Nat.le_of_ble_eq_true rfl) rfl (Nat.le_of_ble_eq_true rfl) (c_Main_refuse G hp w (by omega)) (fun v13 h13 q13 => ?_)
      obtain ⟨rfl, p9, f9⟩ := q13
      refine v_ireturn k_Main_voice_16 rfl rfl ?_
      first
        | (exfalso; omega)
        | exact fin1 (by unfold s_voice; (repeat (first | rw [if_pos (by omega)] | rw [if_neg (by omega)])); try rfl) p9 (f9.wd (by omega) (by omega))
        | exact fin1 (by unfold s_voice; (repeat (first | rw [if_pos (by omega)] | rw [if_neg (by omega)])); try rfl) hp Fr.rf
  · skip
    refine v_aload_n k_Main_voice_0 rfl ?_
    refine v_getf fl_Main_12 m0 rfl k_Main_voice_1 ?_
    refine v_iload_n k_Main_voice_4 rfl ?_
    refine v_callVr mo_Canon_hasVoice mi_Canon_hasVoice mv_Canon_hasVoice lk_Main_110 k_Main_voice_5 k0 rfl rfl (Nat.le_of_ble_eq_true rfl) rfl (Nat.le_of_ble_eq_true rfl) ((by have q := c_Canon_hasVoice G m1 (v := n) (by omega); rw [if_neg hc] at q; exact q)) ?_
    refine v_ifne 17 k_Main_voice_8 rfl (by omega) (fun c8 => ?_) (fun c8 => ?_)
    · exfalso; omega
    · refine v_aload_n k_Main_voice_11 rfl ?_
      refine v_iconst k_Main_voice_12 ?_
      refine v_callV mo_Main_refuse mi_Main_refuse mv_Main_refuse lk_Main_67 k_Main_voice_13 m0 rfl rfl (Nat.le_of_ble_eq_true rfl) rfl (Nat.le_of_ble_eq_true rfl) (c_Main_refuse G hp w (by omega)) (fun v13 h13 q13 => ?_)
      obtain ⟨rfl, p9, f9⟩ := q13
      refine v_ireturn k_Main_voice_16 rfl rfl ?_
      first
        | (exfalso; omega)
        | exact fin1 (by unfold s_voice; (repeat (first | rw [if_pos (by omega)] | rw [if_neg (by omega)])); try rfl) p9 (f9.wd (by omega) (by omega))
        | exact fin1 (by unfold s_voice; (repeat (first | rw [if_pos (by omega)] | rw [if_neg (by omega)])); try rfl) hp Fr.rf
