/-! canon -/
theorem s_canon_rd (S : St) : s_canon S = ((rdR (nX S) (nK S)).1, wX_ (wK_ S (rdR (nX S) (nK S)).2) []) := by
  unfold s_canon rdR
  split
  · rfl
  · split <;> rfl
theorem take3 {fd : List Int} (h : fd.length = 3) : ∃ x y z, fd = [x, y, z] := by
  match fd, h with
  | [x, y, z], _ => exact ⟨x, y, z, rfl⟩
set_option maxHeartbeats 4000000 in
set_option maxRecDepth 20000 in
theorem c_Model_canon (G : Gx) {h : AH} {m : Nat} {S : St} (hp : pMS h m S) (w : wSt S) : Ct G Y_Model_canon 3 0 0 [aR m] h (fun v h' => v = some (aI (s_canon S).1) ∧ pMS h' m (s_canon S).2 ∧ Fr m (m + 11) h h') := by
  obtain ⟨X, a, ⟨fp, sn, ho, hs, hsl⟩, rf, th, be, tl, fd, rw_, ⟨c1, c2, c3, c4, c5, c6, c7, c8, c10⟩, ⟨x1, x2, x3⟩, ⟨l1, l2, l3, l4, l5, l6⟩, hk, hO, htp, hrw, hrf⟩ := hp
  obtain ⟨e0, e1, e2, rfl⟩ := take3 l5
  have hx80 := w.2.2.2.2.2.2.1
  have ho2 : h.2 m = some (aO 8 (mO m (X.1, ((nX S).length : Int), X.2.2.1, X.2.2.2.1, X.2.2.2.2.1, (fp, X.2.2.2.2.2.2)))) := by rw [← x2]; exact ho
  have j0 : ∀ h' : AH, h'.2 m = some (aO 8 (mO m (X.1, ((nX S).length : Int), 0, 1, X.2.2.2.2.1, (fp, X.2.2.2.2.2.2)))) → Fr m (m + 1) h h' → pJ h' m X.1 (fp, X.2.2.2.2.2.2) (nX S) [e0, e1, e2] 0 1 X.2.2.2.2.1 := fun h' e f => ⟨e, ⟨tl, f.at c5 (by omega), l4, htp⟩, ⟨hx80, w.2.2.1, by omega, by omega⟩, f.at c6 (by omega), f.at c7 (by omega), f.at c8 (by omega), rfl⟩
  have hrd := s_canon_rd S
  refine Ct.of_V mo_Model_canon rfl (Nat.le_of_ble_eq_true rfl) rfl ?_
  refine v_aload_n k_Model_canon_0 rfl ?_
  refine v_callV mo_Model_read mi_Model_read mv_Model_read lk_Model_87 k_Model_canon_1 ho rfl rfl (Nat.le_of_ble_eq_true rfl) rfl (Nat.le_of_ble_eq_true rfl) (c_Model_read G ho2 j0 c2 hk w.1) (fun v1 h1 q1 => ?_)
  obtain ⟨rfl, ⟨g0, g1, g2, p1, ok1, so1, j⟩, ⟨a', cn, hk'⟩, f1⟩ := q1
  have ho := j.ho
  refine v_istore_n k_Model_canon_4 ⟨Nat.le_of_ble_eq_true rfl, Nat.le_of_ble_eq_true rfl⟩ ?_
  refine v_aload_n k_Model_canon_5 rfl ?_
  refine v_iconst k_Model_canon_6 ?_
  refine v_put fl_Model_53 ho (Nat.le_of_ble_eq_true rfl) (fun r hr => by cases hr; exact Or.inl rfl) rfl rfl k_Model_canon_7 (fun h7 e7 f7 => ?_)
  refine v_iload_n k_Model_canon_10 rfl ?_
  refine v_ireturn k_Model_canon_11 rfl rfl ?_
  refine ⟨by rw [hrd], ?_, ?_⟩
  · rw [hrd]
    obtain ⟨tl', t1, t2, t3⟩ := j.2.1
    exact ⟨(X.1, 0, p1, ok1, so1, (fp, X.2.2.2.2.2.2)), a', ⟨fp, sn, e7, f7.at (f1.2 _ (by omega) (by omega) (by omega) |>.trans hs) (by omega), hsl⟩, rf, th, be, tl', _, rw_, ⟨f7.at ((f1.2 _ (by omega) (by omega) (by omega)).trans c1) (by omega), f7.at cn (by omega), f7.at ((f1.2 _ (by omega) (by omega) (by omega)).trans c3) (by omega), f7.at ((f1.2 _ (by omega) (by omega) (by omega)).trans c4) (by omega), f7.at t1 (by omega), f7.at j.cb (by omega), f7.at j.ck (by omega), f7.at j.cf (by omega), f7.at ((f1.2 _ (by omega) (by omega) (by omega)).trans c10) (by omega)⟩, ⟨x1, rfl, x3⟩, ⟨l1, l2, l3, t2, rfl, l6⟩, hk', hO, rfl, hrw, hrf⟩
  · exact ⟨f7.1.trans f1.1, fun q hq => (f7.2 q (by omega)).trans (f1.2 q (by omega) (by omega) (by omega))⟩
