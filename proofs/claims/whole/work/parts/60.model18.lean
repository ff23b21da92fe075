/-! the parser of the reference, as functions of place and ok -/
def oV (xs cs : List Int) (p ok : Int) : Int := if ok = 1 ∧ 0 ≤ ixF (tAt xs p) cs 0 then ixF (tAt xs p) cs 0 else 0
def oP (xs cs : List Int) (p ok : Int) : Int := if ok = 1 ∧ 0 ≤ ixF (tAt xs p) cs 0 then p + 1 else p
def oO (xs cs : List Int) (p ok : Int) : Int := if ok = 1 ∧ 0 ≤ ixF (tAt xs p) cs 0 then 1 else 0
def gV (xs : List Int) (p ok : Int) : Int := if ok = 1 ∧ 48 ≤ tAt xs p ∧ tAt xs p ≤ 57 then tAt xs p - 48 else 0
def gP (xs : List Int) (p ok : Int) : Int := if ok = 1 ∧ 48 ≤ tAt xs p ∧ tAt xs p ≤ 57 then p + 1 else p
def gO (xs : List Int) (p ok : Int) : Int := if ok = 1 ∧ 48 ≤ tAt xs p ∧ tAt xs p ≤ 57 then 1 else 0
def dV (xs : List Int) (p ok : Int) : Int := if ok = 1 ∧ 48 ≤ tAt xs p ∧ tAt xs p ≤ 57 then (if 48 ≤ tAt xs (p + 1) ∧ tAt xs (p + 1) ≤ 57 then 10 * (tAt xs p - 48) + (tAt xs (p + 1) - 48) else tAt xs p - 48) else 0
def dP (xs : List Int) (p ok : Int) : Int := if ok = 1 ∧ 48 ≤ tAt xs p ∧ tAt xs p ≤ 57 then (if 48 ≤ tAt xs (p + 1) ∧ tAt xs (p + 1) ≤ 57 then p + 2 else p + 1) else p
theorem tAt_lt {xs : List Int} {p : Int} (h : 0 ≤ tAt xs p) : p < xs.length := by
  by_cases q : p < xs.length
  · exact q
  · rw [tAt_out q] at h; omega
theorem ixF_neg (a : Int) (ha : a = -1) (cs : List Int) (h : ∀ x ∈ cs, 0 ≤ x) : ∀ i, ixF a cs i = -1 := by
  induction cs with
  | nil => intro i; rfl
  | cons c t ih => intro i; unfold ixF; have := h c List.mem_cons_self; rw [if_neg (by omega)]; exact ih (fun x hx => h x (List.mem_cons_of_mem _ hx)) _
def pJ (h : AH) (m : Nat) (kp : Int) (r : Int × Int) (xs fd : List Int) (p ok so : Int) : Prop :=
  h.2 m = some (aO 8 (mO m (kp, (xs.length : Int), p, ok, so, r))) ∧ (∃ tl, h.2 (m + 5) = some (aA 0 tl) ∧ tl.length = 80 ∧ tl.take xs.length = xs) ∧ (xs.length ≤ 80 ∧ (∀ x ∈ xs, 0 ≤ x ∧ x ≤ 255) ∧ (0 ≤ p ∧ p ≤ 80) ∧ (0 ≤ ok ∧ ok ≤ 1)) ∧
  h.2 (m + 6) = some (aA 2 [110, 118, 114, 119]) ∧ h.2 (m + 7) = some (aA 2 [118, 98, 116, 115, 102, 120]) ∧ h.2 (m + 8) = some (aA 0 fd) ∧ fd.length = 3
theorem pJ.ho {h : AH} {m : Nat} {kp : Int} {r : Int × Int} {xs fd : List Int} {p ok so : Int} (j : pJ h m kp r xs fd p ok so) : h.2 m = some (aO 8 (mO m (kp, (xs.length : Int), p, ok, so, r))) := j.1
theorem pJ.cb {h : AH} {m : Nat} {kp : Int} {r : Int × Int} {xs fd : List Int} {p ok so : Int} (j : pJ h m kp r xs fd p ok so) : h.2 (m + 6) = some (aA 2 [110, 118, 114, 119]) := j.2.2.2.1
theorem pJ.ck {h : AH} {m : Nat} {kp : Int} {r : Int × Int} {xs fd : List Int} {p ok so : Int} (j : pJ h m kp r xs fd p ok so) : h.2 (m + 7) = some (aA 2 [118, 98, 116, 115, 102, 120]) := j.2.2.2.2.1
theorem pJ.cf {h : AH} {m : Nat} {kp : Int} {r : Int × Int} {xs fd : List Int} {p ok so : Int} (j : pJ h m kp r xs fd p ok so) : h.2 (m + 8) = some (aA 0 fd) := j.2.2.2.2.2.1
theorem pJ.lf {h : AH} {m : Nat} {kp : Int} {r : Int × Int} {xs fd : List Int} {p ok so : Int} (j : pJ h m kp r xs fd p ok so) : fd.length = 3 := j.2.2.2.2.2.2
theorem pJ.bp {h : AH} {m : Nat} {kp : Int} {r : Int × Int} {xs fd : List Int} {p ok so : Int} (j : pJ h m kp r xs fd p ok so) : (0 ≤ p ∧ p ≤ 80) ∧ (0 ≤ ok ∧ ok ≤ 1) := j.2.2.1.2.2
theorem pJ.mk' {h h' : AH} {m : Nat} {kp : Int} {r : Int × Int} {xs fd : List Int} {p ok so p' ok' so' : Int} (j : pJ h m kp r xs fd p ok so) (e : h'.2 m = some (aO 8 (mO m (kp, (xs.length : Int), p', ok', so', r)))) (f : Fr m (m + 1) h h') (hp : 0 ≤ p' ∧ p' ≤ 80) (ho : 0 ≤ ok' ∧ ok' ≤ 1) : pJ h' m kp r xs fd p' ok' so' := by
  obtain ⟨j1, ⟨tl, t1, t2, t3⟩, ⟨x1, x2, -, -⟩, b1, b2, b3, b4⟩ := j
  exact ⟨e, ⟨tl, f.at t1 (by omega), t2, t3⟩, ⟨x1, x2, hp, ho⟩, f.at b1 (by omega), f.at b2 (by omega), f.at b3 (by omega), b4⟩
theorem pJ.fd' {h h' : AH} {m : Nat} {kp : Int} {r : Int × Int} {xs fd fd' : List Int} {p ok so : Int} (j : pJ h m kp r xs fd p ok so) (e : h'.2 (m + 8) = some (aA 0 fd')) (f : Fr (m + 8) (m + 8 + 1) h h') (hl : fd'.length = 3) : pJ h' m kp r xs fd' p ok so := by
  obtain ⟨j1, ⟨tl, t1, t2, t3⟩, x, b1, b2, b3, b4⟩ := j
  exact ⟨f.at j1 (by omega), ⟨tl, f.at t1 (by omega), t2, t3⟩, x, f.at b1 (by omega), f.at b2 (by omega), e, hl⟩
def FrC (m : Nat) (h h' : AH) : Prop := h'.1 = h.1 ∧ ∀ q, q ≠ m → q ≠ m + 8 → h'.2 q = h.2 q
theorem FrC.rf {m : Nat} {h : AH} : FrC m h h := ⟨rfl, fun _ _ _ => rfl⟩
theorem FrC.tr {m : Nat} {h h1 h2 : AH} (a : FrC m h h1) (b : FrC m h1 h2) : FrC m h h2 := ⟨b.1.trans a.1, fun q q1 q2 => (b.2 q q1 q2).trans (a.2 q q1 q2)⟩
theorem Fr.c0 {m : Nat} {h h' : AH} (f : Fr m (m + 1) h h') : FrC m h h' := ⟨f.1, fun q h1 h2 => f.2 q (by omega)⟩
theorem Fr.c8 {m : Nat} {h h' : AH} (f : Fr (m + 8) (m + 8 + 1) h h') : FrC m h h' := ⟨f.1, fun q h1 h2 => f.2 q (by omega)⟩
theorem FrC.fr {m : Nat} {h h' : AH} (f : FrC m h h') : Fr m (m + 11) h h' := ⟨f.1, fun q hq => f.2 q (by omega) (by omega)⟩
set_option maxHeartbeats 4000000 in
set_option maxRecDepth 20000 in
theorem j_expect (G : Gx) {h : AH} {m : Nat} {kp : Int} {r : Int × Int} {xs fd : List Int} {p ok so : Int} (j : pJ h m kp r xs fd p ok so) {c : Int} (hc : 0 ≤ c ∧ c ≤ 65535) : Ct G Y_Model_expect 0 0 0 [aR m, aI c] h (fun v h' => v = none ∧ pJ h' m kp r xs fd (peP xs p ok c) (peO xs p ok c) so ∧ Fr m (m + 1) h h') := by
  obtain ⟨j1, ⟨tl, t1, t2, t3⟩, ⟨x1, x2, x3, x4⟩, b1, b2, b3, b4⟩ := j
  have jj : pJ h m kp r xs fd p ok so := ⟨j1, ⟨tl, t1, t2, t3⟩, ⟨x1, x2, x3, x4⟩, b1, b2, b3, b4⟩
  refine Ct.mono ?_ (c_Model_expect G (X := (kp, (xs.length : Int), p, ok, so, r)) (p := p) (ok := ok) j1 t1 t2 t3 x1 x2 rfl rfl rfl x3 x4 hc)
  intro v h' q
  obtain ⟨q1, q2, q3⟩ := q
  have hb : (0 ≤ peP xs p ok c ∧ peP xs p ok c ≤ 80) ∧ (0 ≤ peO xs p ok c ∧ peO xs p ok c ≤ 1) := by
    unfold peP peO
    split
    · rename_i g
      have := tAt_lt (xs := xs) (p := p) (by omega)
      omega
    · omega
  exact ⟨q1, jj.mk' q2 q3 hb.1 hb.2, q3⟩
set_option maxHeartbeats 4000000 in
set_option maxRecDepth 20000 in
theorem j_oneOf (G : Gx) {h : AH} {m : Nat} {kp : Int} {r : Int × Int} {xs fd : List Int} {p ok so : Int} (j : pJ h m kp r xs fd p ok so) {q : Nat} {cs : List Int} (hcs : h.2 q = some (aA 2 cs)) (hcl : cs.length ≤ 10) (hcb : ∀ x ∈ cs, 0 ≤ x ∧ x ≤ 65535) : Ct G Y_Model_oneOf 0 0 0 [aR m, aR q] h (fun v h' => v = some (aI (oV xs cs p ok)) ∧ pJ h' m kp r xs fd (oP xs cs p ok) (oO xs cs p ok) so ∧ Fr m (m + 1) h h') := by
  obtain ⟨j1, ⟨tl, t1, t2, t3⟩, ⟨x1, x2, x3, x4⟩, b1, b2, b3, b4⟩ := j
  have jj : pJ h m kp r xs fd p ok so := ⟨j1, ⟨tl, t1, t2, t3⟩, ⟨x1, x2, x3, x4⟩, b1, b2, b3, b4⟩
  refine Ct.mono ?_ (c_Model_oneOf G (X := (kp, (xs.length : Int), p, ok, so, r)) (p := p) (ok := ok) j1 t1 t2 t3 x1 x2 rfl rfl rfl x3 x4 hcs hcl hcb)
  intro v h' q
  obtain ⟨q1, q3⟩ := q
  unfold oV oP oO
  by_cases g : ok = 1 ∧ 0 ≤ ixF (tAt xs p) cs 0
  · rw [if_pos g] at q1 ⊢
    rw [if_pos g, if_pos g]
    have : p < xs.length := by
      by_cases g1 : p < xs.length
      · exact g1
      · have := ixF_neg (tAt xs p) (tAt_out g1) cs (fun x hx => (hcb x hx).1) 0; omega
    exact ⟨q1.1, jj.mk' q1.2 q3 (by omega) (by omega), q3⟩
  · rw [if_neg g] at q1 ⊢
    rw [if_neg g, if_neg g]
    exact ⟨q1.1, jj.mk' q1.2 q3 (by omega) (by omega), q3⟩
set_option maxHeartbeats 4000000 in
set_option maxRecDepth 20000 in
theorem j_fig1 (G : Gx) {h : AH} {m : Nat} {kp : Int} {r : Int × Int} {xs fd : List Int} {p ok so : Int} (j : pJ h m kp r xs fd p ok so) : Ct G Y_Model_figures 0 0 0 [aR m, aI 1] h (fun v h' => v = some (aI (gV xs p ok)) ∧ pJ h' m kp r xs fd (gP xs p ok) (gO xs p ok) so ∧ Fr m (m + 1) h h') := by
  obtain ⟨j1, ⟨tl, t1, t2, t3⟩, ⟨x1, x2, x3, x4⟩, b1, b2, b3, b4⟩ := j
  have jj : pJ h m kp r xs fd p ok so := ⟨j1, ⟨tl, t1, t2, t3⟩, ⟨x1, x2, x3, x4⟩, b1, b2, b3, b4⟩
  refine Ct.mono ?_ (c_Model_figures1 G (X := (kp, (xs.length : Int), p, ok, so, r)) (p := p) (ok := ok) j1 t1 t2 t3 x1 x2 rfl rfl rfl x3 x4)
  intro v h' q
  obtain ⟨q1, q3⟩ := q
  unfold gV gP gO
  by_cases g : ok = 1 ∧ 48 ≤ tAt xs p ∧ tAt xs p ≤ 57
  · rw [if_pos g] at q1 ⊢
    rw [if_pos g, if_pos g]
    have := tAt_lt (xs := xs) (p := p) (by omega)
    exact ⟨q1.1, jj.mk' q1.2 q3 (by omega) (by omega), q3⟩
  · rw [if_neg g] at q1 ⊢
    rw [if_neg g, if_neg g]
    exact ⟨q1.1, jj.mk' q1.2 q3 (by omega) (by omega), q3⟩
set_option maxHeartbeats 4000000 in
set_option maxRecDepth 20000 in
theorem j_fig2 (G : Gx) {h : AH} {m : Nat} {kp : Int} {r : Int × Int} {xs fd : List Int} {p ok so : Int} (j : pJ h m kp r xs fd p ok so) : Ct G Y_Model_figures 0 0 0 [aR m, aI 2] h (fun v h' => v = some (aI (dV xs p ok)) ∧ pJ h' m kp r xs fd (dP xs p ok) (gO xs p ok) so ∧ Fr m (m + 1) h h') := by
  obtain ⟨j1, ⟨tl, t1, t2, t3⟩, ⟨x1, x2, x3, x4⟩, b1, b2, b3, b4⟩ := j
  have jj : pJ h m kp r xs fd p ok so := ⟨j1, ⟨tl, t1, t2, t3⟩, ⟨x1, x2, x3, x4⟩, b1, b2, b3, b4⟩
  refine Ct.mono ?_ (c_Model_figures2 G (X := (kp, (xs.length : Int), p, ok, so, r)) (p := p) (ok := ok) j1 t1 t2 t3 x1 x2 rfl rfl rfl x3 x4)
  intro v h' q
  obtain ⟨q1, q3⟩ := q
  unfold dV dP gO
  by_cases g : ok = 1 ∧ 48 ≤ tAt xs p ∧ tAt xs p ≤ 57
  · rw [if_pos g] at q1 ⊢
    rw [if_pos g, if_pos g]
    have := tAt_lt (xs := xs) (p := p) (by omega)
    by_cases g2 : 48 ≤ tAt xs (p + 1) ∧ tAt xs (p + 1) ≤ 57
    · rw [if_pos g2] at q1 ⊢
      rw [if_pos g2]
      have := tAt_lt (xs := xs) (p := p + 1) (by omega)
      exact ⟨q1.1, jj.mk' q1.2 q3 (by omega) (by omega), q3⟩
    · rw [if_neg g2] at q1 ⊢
      rw [if_neg g2]
      exact ⟨q1.1, jj.mk' q1.2 q3 (by omega) (by omega), q3⟩
  · rw [if_neg g] at q1 ⊢
    rw [if_neg g, if_neg g]
    exact ⟨q1.1, jj.mk' q1.2 q3 (by omega) (by omega), q3⟩
theorem oV_1 {xs cs : List Int} {p : Int} (h : 0 ≤ ixF (tAt xs p) cs 0) : oV xs cs p 1 = ixF (tAt xs p) cs 0 ∧ oP xs cs p 1 = p + 1 ∧ oO xs cs p 1 = 1 := ⟨if_pos ⟨rfl, h⟩, if_pos ⟨rfl, h⟩, if_pos ⟨rfl, h⟩⟩
theorem oV_0 {xs cs : List Int} {p ok : Int} (h : ¬ (ok = 1 ∧ 0 ≤ ixF (tAt xs p) cs 0)) : oV xs cs p ok = 0 ∧ oP xs cs p ok = p ∧ oO xs cs p ok = 0 := ⟨if_neg h, if_neg h, if_neg h⟩
theorem gV_1 {xs : List Int} {p : Int} (h : tD xs p = true) : gV xs p 1 = tAt xs p - 48 ∧ gP xs p 1 = p + 1 ∧ gO xs p 1 = 1 := ⟨if_pos ⟨rfl, tD_iff.mp h⟩, if_pos ⟨rfl, tD_iff.mp h⟩, if_pos ⟨rfl, tD_iff.mp h⟩⟩
theorem gV_0 {xs : List Int} {p ok : Int} (h : ¬ (ok = 1 ∧ tD xs p = true)) : gV xs p ok = 0 ∧ gP xs p ok = p ∧ gO xs p ok = 0 := ⟨if_neg (fun q => h ⟨q.1, tD_iff.mpr q.2⟩), if_neg (fun q => h ⟨q.1, tD_iff.mpr q.2⟩), if_neg (fun q => h ⟨q.1, tD_iff.mpr q.2⟩)⟩
theorem dV_1 {xs : List Int} {p : Int} (h : tD xs p = true) : dV xs p 1 = tE xs p ∧ dP xs p 1 = (if tD xs (p + 1) = true then p + 2 else p + 1) := by
  refine ⟨(if_pos ⟨rfl, tD_iff.mp h⟩).trans ?_, (if_pos ⟨rfl, tD_iff.mp h⟩).trans ?_⟩
  · unfold tE
    by_cases g : tD xs (p + 1) = true
    · rw [if_pos (tD_iff.mp g), if_pos g]
    · rw [if_neg (fun q => g (tD_iff.mpr q)), if_neg g]
  · by_cases g : tD xs (p + 1) = true
    · rw [if_pos (tD_iff.mp g), if_pos g]
    · rw [if_neg (fun q => g (tD_iff.mpr q)), if_neg g]
theorem dV_0 {xs : List Int} {p ok : Int} (h : ¬ (ok = 1 ∧ tD xs p = true)) : dV xs p ok = 0 ∧ dP xs p ok = p := ⟨if_neg (fun q => h ⟨q.1, tD_iff.mpr q.2⟩), if_neg (fun q => h ⟨q.1, tD_iff.mpr q.2⟩)⟩
theorem pe_1 {xs : List Int} {p c : Int} (h : tAt xs p = c) : peP xs p 1 c = p + 1 ∧ peO xs p 1 c = 1 := ⟨if_pos ⟨rfl, h⟩, if_pos ⟨rfl, h⟩⟩
theorem pe_0 {xs : List Int} {p ok c : Int} (h : ¬ (ok = 1 ∧ tAt xs p = c)) : peP xs p ok c = p ∧ peO xs p ok c = 0 := ⟨if_neg h, if_neg h⟩
theorem fitB_d {xs : List Int} {p : Int} : fitB xs 35 p = tD xs p := rfl
theorem fitB_k {xs : List Int} {p : Int} : fitB xs 64 p = decide (0 ≤ tK xs p) := rfl
theorem ixF_K {xs : List Int} {p : Int} : ixF (tAt xs p) [118, 98, 116, 115, 102, 120] 0 = tK xs p := by
  unfold tK
  simp only [ixF, tKf, show sBy 0 0 = 118 by decide +kernel, show sBy 0 1 = 98 by decide +kernel, show sBy 0 2 = 116 by decide +kernel, show sBy 0 3 = 115 by decide +kernel, show sBy 0 4 = 102 by decide +kernel, show sBy 0 5 = 120 by decide +kernel]
  generalize tAt xs p = a
  by_cases h0 : a = 118
  · subst h0; rfl
  by_cases h1 : a = 98
  · subst h1; rfl
  by_cases h2 : a = 116
  · subst h2; rfl
  by_cases h3 : a = 115
  · subst h3; rfl
  by_cases h4 : a = 102
  · subst h4; rfl
  by_cases h5 : a = 120
  · subst h5; rfl
  rw [if_neg h0, if_neg h1, if_neg h2, if_neg h3, if_neg h4, if_neg h5, if_neg (by omega), if_neg (by omega), if_neg (by omega), if_neg (by omega), if_neg (by omega), if_neg (by omega)]
def ffX (xs : List Int) : List Int → Int → Int
  | [], _ => 0
  | c :: t, p => if fitB xs c p = true then ffX xs t (p + 1) else -1000 - p
theorem ff1_X (xs : List Int) (p : Int) (w : Nat) : ∀ (l : List Int) (n i : Nat), l.length = n → (∀ k, k < n → sBy w (i + k) = l.getD k 0) → ff1 xs p w n i = ffX xs l (p + i)
  | [], n, i, hl, h => by subst hl; rfl
  | c :: t, n, i, hl, h => by
    subst hl
    have h0 := h 0 (by rw [List.length_cons]; omega)
    rw [Nat.add_zero] at h0
    rw [List.length_cons, ff1, ffX, h0, show (c :: t).getD 0 0 = c from rfl, ff1_X xs p w t t.length (i + 1) rfl (fun k hk => by have := h (k + 1) (by rw [List.length_cons]; omega); rw [show i + (k + 1) = i + 1 + k by omega] at this; rw [this]; rfl), show p + ((i + 1 : Nat) : Int) = p + i + 1 by omega]
    split
    · rfl
    · omega
theorem inX_n {xs : List Int} {p : Int} (ha : tAt xs p = 110) : inF xs p = ffX xs [110, 35, 35, 59] p ∧ fmL xs p = 4 := by
  have e : fmI xs p = 5 := by unfold fmI; rw [ha]; rfl
  have e2 : fmL xs p = 4 := by unfold fmL; rw [e]; decide +kernel
  refine ⟨?_, e2⟩
  unfold inF
  rw [e2, e, ff1_X xs p 5 [110, 35, 35, 59] 4 0 rfl (by decide +kernel), show p + ((0 : Nat) : Int) = p by omega]
theorem inX_r {xs : List Int} {p : Int} (ha : tAt xs p = 114) : inF xs p = ffX xs [114, 35, 35, 59] p ∧ fmL xs p = 4 := by
  have e : fmI xs p = 3 := by unfold fmI; rw [ha]; rfl
  have e2 : fmL xs p = 4 := by unfold fmL; rw [e]; decide +kernel
  refine ⟨?_, e2⟩
  unfold inF
  rw [e2, e, ff1_X xs p 3 [114, 35, 35, 59] 4 0 rfl (by decide +kernel), show p + ((0 : Nat) : Int) = p by omega]
theorem inX_w {xs : List Int} {p : Int} (ha : tAt xs p = 119) : inF xs p = ffX xs [119, 35, 59] p ∧ fmL xs p = 3 := by
  have e : fmI xs p = 4 := by unfold fmI; rw [ha]; rfl
  have e2 : fmL xs p = 3 := by unfold fmL; rw [e]; decide +kernel
  refine ⟨?_, e2⟩
  unfold inF
  rw [e2, e, ff1_X xs p 4 [119, 35, 59] 3 0 rfl (by decide +kernel), show p + ((0 : Nat) : Int) = p by omega]
theorem inX_vl {xs : List Int} {p : Int} (ha : tAt xs p = 118 ∧ tD xs (p + 3) = true) : inF xs p = ffX xs [118, 64, 35, 35, 44, 35, 59] p ∧ fmL xs p = 7 := by
  have e : fmI xs p = 1 := by unfold fmI; rw [ha.1, if_pos rfl, if_pos ha.2]
  have e2 : fmL xs p = 7 := by unfold fmL; rw [e]; decide +kernel
  refine ⟨?_, e2⟩
  unfold inF
  rw [e2, e, ff1_X xs p 1 [118, 64, 35, 35, 44, 35, 59] 7 0 rfl (by decide +kernel), show p + ((0 : Nat) : Int) = p by omega]
theorem inX_vs {xs : List Int} {p : Int} (ha : tAt xs p = 118 ∧ ¬ tD xs (p + 3) = true) : inF xs p = ffX xs [118, 64, 35, 44, 35, 59] p ∧ fmL xs p = 6 := by
  have e : fmI xs p = 2 := by unfold fmI; rw [ha.1, if_pos rfl, if_neg ha.2]
  have e2 : fmL xs p = 6 := by unfold fmL; rw [e]; decide +kernel
  refine ⟨?_, e2⟩
  unfold inF
  rw [e2, e, ff1_X xs p 2 [118, 64, 35, 44, 35, 59] 6 0 rfl (by decide +kernel), show p + ((0 : Nat) : Int) = p by omega]
theorem inX_o {xs : List Int} {p : Int} (ha : tAt xs p ≠ 118 ∧ tAt xs p ≠ 114 ∧ tAt xs p ≠ 119) : inF xs p = ffX xs [110, 35, 35, 59] p ∧ fmL xs p = 4 := by
  have e : fmI xs p = 5 := by unfold fmI; rw [if_neg ha.1, if_neg ha.2.1, if_neg ha.2.2]
  have e2 : fmL xs p = 4 := by unfold fmL; rw [e]; decide +kernel
  refine ⟨?_, e2⟩
  unfold inF
  rw [e2, e, ff1_X xs p 5 [110, 35, 35, 59] 4 0 rfl (by decide +kernel), show p + ((0 : Nat) : Int) = p by omega]
/-! what a statement comes to: sort, fields, place, ok -/
def stG (xs : List Int) (p so f0 f1 f2 p' ok : Int) : Prop := (inF xs p = 0 → ok = 1 ∧ p' = p + fmL xs p ∧ ((so = 0 ∧ tAt xs p = 110 ∧ f0 = tAt xs (p + 1) - 48 ∧ f1 = tAt xs (p + 2) - 48) ∨ (so = 1 ∧ tAt xs p = 118 ∧ f0 = tK xs (p + 1) ∧ f1 = tE xs (p + 2) ∧ f2 = tAt xs (p + fmL xs p - 2) - 48) ∨ (so = 2 ∧ tAt xs p = 114 ∧ f0 = tAt xs (p + 1) - 48 ∧ f1 = tAt xs (p + 2) - 48) ∨ (so = 3 ∧ tAt xs p = 119 ∧ f0 = tAt xs (p + 1) - 48 ∧ f1 = 0))) ∧ (inF xs p ≠ 0 → ok = 0 ∧ inF xs p = -1000 - p')
theorem st_dead {xs : List Int} {p : Int} : (∀ cs, oV xs cs p 0 = 0 ∧ oP xs cs p 0 = p ∧ oO xs cs p 0 = 0) ∧ gV xs p 0 = 0 ∧ gP xs p 0 = p ∧ gO xs p 0 = 0 ∧ dV xs p 0 = 0 ∧ dP xs p 0 = p ∧ (∀ c, peP xs p 0 c = p ∧ peO xs p 0 c = 0) :=
  ⟨fun cs => oV_0 (by omega), (gV_0 (by omega)).1, (gV_0 (by omega)).2.1, (gV_0 (by omega)).2.2, (dV_0 (by omega)).1, (dV_0 (by omega)).2, fun c => pe_0 (by omega)⟩
theorem stG_bad {xs : List Int} {p so f0 f1 f2 p' : Int} (hp : 0 ≤ p') (h : inF xs p = -1000 - p') : stG xs p so f0 f1 f2 p' 0 := ⟨fun q => by omega, fun _ => ⟨rfl, h⟩⟩
def stB : List Int := [110, 118, 114, 119]
def stK : List Int := [118, 98, 116, 115, 102, 120]
theorem st_n {xs : List Int} {p f2 : Int} (hp : 0 ≤ p) (ha : tAt xs p = 110) : stG xs p 0 (gV xs (p + 1) 1) (gV xs (gP xs (p + 1) 1) (gO xs (p + 1) 1)) f2 (peP xs (gP xs (gP xs (p + 1) 1) (gO xs (p + 1) 1)) (gO xs (gP xs (p + 1) 1) (gO xs (p + 1) 1)) 59) (peO xs (gP xs (gP xs (p + 1) 1) (gO xs (p + 1) 1)) (gO xs (gP xs (p + 1) 1) (gO xs (p + 1) 1)) 59) := by
  obtain ⟨i1, i2⟩ := inX_n ha
  have d := fun q => @st_dead xs q
  by_cases g1 : tD xs (p + 1) = true
  · obtain ⟨a1, a2, a3⟩ := gV_1 g1
    rw [a1, a2, a3]
    by_cases g2 : tD xs (p + 1 + 1) = true
    · obtain ⟨b1, b2, b3⟩ := gV_1 g2
      rw [b1, b2, b3]
      by_cases g3 : tAt xs (p + 1 + 1 + 1) = 59
      · obtain ⟨e1, e2⟩ := pe_1 g3
        rw [e1, e2]
        have hz : inF xs p = 0 := by
          rw [i1]
          rw [ffX, if_pos (show fitB xs 110 p = true by unfold fitB; rw [if_neg (by decide), if_neg (by decide)]; exact decide_eq_true ha), ffX, if_pos (show fitB xs 35 (p + 1) = true from g1), ffX, if_pos (show fitB xs 35 (p + 1 + 1) = true from g2), ffX, if_pos (show fitB xs 59 (p + 1 + 1 + 1) = true from decide_eq_true g3), ffX]
        refine ⟨fun _ => ⟨rfl, by rw [i2]; omega, Or.inl ⟨rfl, ha, rfl, by rw [show p + 2 = p + 1 + 1 by omega]⟩⟩, fun q => absurd hz q⟩
      · obtain ⟨e1, e2⟩ := pe_0 (xs := xs) (p := p + 1 + 1 + 1) (ok := 1) (c := 59) (fun q => g3 q.2)
        rw [e1, e2]
        refine stG_bad (by omega) ?_
        rw [i1]
        rw [ffX, if_pos (show fitB xs 110 p = true by unfold fitB; rw [if_neg (by decide), if_neg (by decide)]; exact decide_eq_true ha), ffX, if_pos (show fitB xs 35 (p + 1) = true from g1), ffX, if_pos (show fitB xs 35 (p + 1 + 1) = true from g2), ffX]
        exact if_neg (fun q => g3 (of_decide_eq_true q))
    · obtain ⟨b1, b2, b3⟩ := gV_0 (xs := xs) (p := p + 1 + 1) (ok := 1) (fun q => g2 q.2)
      rw [b1, b2, b3, ((d _).2.2.2.2.2.2 _).1, ((d _).2.2.2.2.2.2 _).2]
      refine stG_bad (by omega) ?_
      rw [i1]
      rw [ffX, if_pos (show fitB xs 110 p = true by unfold fitB; rw [if_neg (by decide), if_neg (by decide)]; exact decide_eq_true ha), ffX, if_pos (show fitB xs 35 (p + 1) = true from g1), ffX]
      exact if_neg g2
  · obtain ⟨a1, a2, a3⟩ := gV_0 (xs := xs) (p := p + 1) (ok := 1) (fun q => g1 q.2)
    rw [a1, a2, a3, (d _).2.1, (d _).2.2.1, (d _).2.2.2.1, ((d _).2.2.2.2.2.2 _).1, ((d _).2.2.2.2.2.2 _).2]
    refine stG_bad (by omega) ?_
    rw [i1]
    rw [ffX, if_pos (show fitB xs 110 p = true by unfold fitB; rw [if_neg (by decide), if_neg (by decide)]; exact decide_eq_true ha), ffX]
    exact if_neg g1
theorem st_r {xs : List Int} {p f2 : Int} (hp : 0 ≤ p) (ha : tAt xs p = 114) : stG xs p 2 (gV xs (p + 1) 1) (gV xs (gP xs (p + 1) 1) (gO xs (p + 1) 1)) f2 (peP xs (gP xs (gP xs (p + 1) 1) (gO xs (p + 1) 1)) (gO xs (gP xs (p + 1) 1) (gO xs (p + 1) 1)) 59) (peO xs (gP xs (gP xs (p + 1) 1) (gO xs (p + 1) 1)) (gO xs (gP xs (p + 1) 1) (gO xs (p + 1) 1)) 59) := by
  obtain ⟨i1, i2⟩ := inX_r ha
  have d := fun q => @st_dead xs q
  by_cases g1 : tD xs (p + 1) = true
  · obtain ⟨a1, a2, a3⟩ := gV_1 g1
    rw [a1, a2, a3]
    by_cases g2 : tD xs (p + 1 + 1) = true
    · obtain ⟨b1, b2, b3⟩ := gV_1 g2
      rw [b1, b2, b3]
      by_cases g3 : tAt xs (p + 1 + 1 + 1) = 59
      · obtain ⟨e1, e2⟩ := pe_1 g3
        rw [e1, e2]
        have hz : inF xs p = 0 := by
          rw [i1]
          rw [ffX, if_pos (show fitB xs 114 p = true by unfold fitB; rw [if_neg (by decide), if_neg (by decide)]; exact decide_eq_true ha), ffX, if_pos (show fitB xs 35 (p + 1) = true from g1), ffX, if_pos (show fitB xs 35 (p + 1 + 1) = true from g2), ffX, if_pos (show fitB xs 59 (p + 1 + 1 + 1) = true from decide_eq_true g3), ffX]
        refine ⟨fun _ => ⟨rfl, by rw [i2]; omega, Or.inr (Or.inr (Or.inl ⟨rfl, ha, rfl, by rw [show p + 2 = p + 1 + 1 by omega]⟩))⟩, fun q => absurd hz q⟩
      · obtain ⟨e1, e2⟩ := pe_0 (xs := xs) (p := p + 1 + 1 + 1) (ok := 1) (c := 59) (fun q => g3 q.2)
        rw [e1, e2]
        refine stG_bad (by omega) ?_
        rw [i1]
        rw [ffX, if_pos (show fitB xs 114 p = true by unfold fitB; rw [if_neg (by decide), if_neg (by decide)]; exact decide_eq_true ha), ffX, if_pos (show fitB xs 35 (p + 1) = true from g1), ffX, if_pos (show fitB xs 35 (p + 1 + 1) = true from g2), ffX]
        exact if_neg (fun q => g3 (of_decide_eq_true q))
    · obtain ⟨b1, b2, b3⟩ := gV_0 (xs := xs) (p := p + 1 + 1) (ok := 1) (fun q => g2 q.2)
      rw [b1, b2, b3, ((d _).2.2.2.2.2.2 _).1, ((d _).2.2.2.2.2.2 _).2]
      refine stG_bad (by omega) ?_
      rw [i1]
      rw [ffX, if_pos (show fitB xs 114 p = true by unfold fitB; rw [if_neg (by decide), if_neg (by decide)]; exact decide_eq_true ha), ffX, if_pos (show fitB xs 35 (p + 1) = true from g1), ffX]
      exact if_neg g2
  · obtain ⟨a1, a2, a3⟩ := gV_0 (xs := xs) (p := p + 1) (ok := 1) (fun q => g1 q.2)
    rw [a1, a2, a3, (d _).2.1, (d _).2.2.1, (d _).2.2.2.1, ((d _).2.2.2.2.2.2 _).1, ((d _).2.2.2.2.2.2 _).2]
    refine stG_bad (by omega) ?_
    rw [i1]
    rw [ffX, if_pos (show fitB xs 114 p = true by unfold fitB; rw [if_neg (by decide), if_neg (by decide)]; exact decide_eq_true ha), ffX]
    exact if_neg g1
theorem st_w {xs : List Int} {p f2 : Int} (hp : 0 ≤ p) (ha : tAt xs p = 119) : stG xs p 3 (gV xs (p + 1) 1) 0 f2 (peP xs (gP xs (p + 1) 1) (gO xs (p + 1) 1) 59) (peO xs (gP xs (p + 1) 1) (gO xs (p + 1) 1) 59) := by
  obtain ⟨i1, i2⟩ := inX_w ha
  have d := fun q => @st_dead xs q
  have f0 : fitB xs 119 p = true := by unfold fitB; rw [if_neg (by decide), if_neg (by decide)]; exact decide_eq_true ha
  by_cases g1 : tD xs (p + 1) = true
  · obtain ⟨a1, a2, a3⟩ := gV_1 g1
    rw [a1, a2, a3]
    by_cases g3 : tAt xs (p + 1 + 1) = 59
    · obtain ⟨e1, e2⟩ := pe_1 g3
      rw [e1, e2]
      have hz : inF xs p = 0 := by
        rw [i1]
        rw [ffX, if_pos f0, ffX, if_pos (show fitB xs 35 (p + 1) = true from g1), ffX, if_pos (show fitB xs 59 (p + 1 + 1) = true from decide_eq_true g3), ffX]
      refine ⟨fun _ => ⟨rfl, by rw [i2]; omega, Or.inr (Or.inr (Or.inr ⟨rfl, ha, rfl, rfl⟩))⟩, fun q => absurd hz q⟩
    · obtain ⟨e1, e2⟩ := pe_0 (xs := xs) (p := p + 1 + 1) (ok := 1) (c := 59) (fun q => g3 q.2)
      rw [e1, e2]
      refine stG_bad (by omega) ?_
      rw [i1]
      rw [ffX, if_pos f0, ffX, if_pos (show fitB xs 35 (p + 1) = true from g1), ffX]
      exact if_neg (fun q => g3 (of_decide_eq_true q))
  · obtain ⟨a1, a2, a3⟩ := gV_0 (xs := xs) (p := p + 1) (ok := 1) (fun q => g1 q.2)
    rw [a1, a2, a3, ((d _).2.2.2.2.2.2 _).1, ((d _).2.2.2.2.2.2 _).2]
    refine stG_bad (by omega) ?_
    rw [i1]
    rw [ffX, if_pos f0, ffX]
    exact if_neg g1
theorem st_o {xs : List Int} {p so f0 f1 f2 : Int} (hp : 0 ≤ p) (ha : tAt xs p ≠ 118 ∧ tAt xs p ≠ 114 ∧ tAt xs p ≠ 119) (h : tAt xs p ≠ 110) : stG xs p so f0 f1 f2 p 0 := by
  refine stG_bad hp ?_
  rw [(inX_o ha).1, ffX]; exact if_neg (fun q => h (of_decide_eq_true q))
theorem st_v {xs : List Int} {p : Int} (hp : 0 ≤ p) (ha : tAt xs p = 118) {p1 o1 p2 o2 p3 o3 p4 o4 : Int} (e1 : p1 = oP xs stK (p + 1) 1) (e2 : o1 = oO xs stK (p + 1) 1) (e3 : p2 = dP xs p1 o1) (e4 : o2 = gO xs p1 o1) (e5 : p3 = peP xs p2 o2 44) (e6 : o3 = peO xs p2 o2 44) (e7 : p4 = gP xs p3 o3) (e8 : o4 = gO xs p3 o3) : stG xs p 1 (oV xs stK (p + 1) 1) (dV xs p1 o1) (gV xs p3 o3) (peP xs p4 o4 59) (peO xs p4 o4 59) := by
  have d := fun q => @st_dead xs q
  have f0 : fitB xs 118 p = true := by unfold fitB; rw [if_neg (by decide), if_neg (by decide)]; exact decide_eq_true ha
  have iv : (∃ t, inF xs p = ffX xs (118 :: 64 :: 35 :: t) p ∧ ((tD xs (p + 1 + 1 + 1) = true ∧ t = [35, 44, 35, 59] ∧ fmL xs p = 7) ∨ (¬ tD xs (p + 1 + 1 + 1) = true ∧ t = [44, 35, 59] ∧ fmL xs p = 6))) := by
    by_cases g : tD xs (p + 1 + 1 + 1) = true
    · obtain ⟨i1, i2⟩ := inX_vl (p := p) ⟨ha, by rw [show p + 3 = p + 1 + 1 + 1 by omega]; exact g⟩
      exact ⟨_, i1, Or.inl ⟨g, rfl, i2⟩⟩
    · obtain ⟨i1, i2⟩ := inX_vs (p := p) ⟨ha, by rw [show p + 3 = p + 1 + 1 + 1 by omega]; exact g⟩
      exact ⟨_, i1, Or.inr ⟨g, rfl, i2⟩⟩
  obtain ⟨t, i1, i2⟩ := iv
  by_cases g1 : 0 ≤ tK xs (p + 1)
  rotate_left
  · obtain ⟨a1, a2, a3⟩ := oV_0 (xs := xs) (cs := stK) (p := p + 1) (ok := 1) (fun q => by have q2 := q.2; unfold stK at q2; rw [ixF_K] at q2; exact g1 q2)
    rw [a2] at e1; rw [a3] at e2; subst e1 e2
    rw [(d _).2.2.2.2.2.1] at e3; rw [(d _).2.2.2.1] at e4; subst e3 e4
    rw [((d _).2.2.2.2.2.2 _).1] at e5; rw [((d _).2.2.2.2.2.2 _).2] at e6; subst e5 e6
    rw [(d _).2.2.1] at e7; rw [(d _).2.2.2.1] at e8; subst e7 e8
    rw [((d _).2.2.2.2.2.2 _).1, ((d _).2.2.2.2.2.2 _).2]
    refine stG_bad (by omega) ?_
    rw [i1]
    rw [ffX, if_pos f0, ffX]
    exact if_neg (fun q => g1 (of_decide_eq_true q))
  have f1 : fitB xs 64 (p + 1) = true := decide_eq_true g1
  obtain ⟨a1, a2, a3⟩ := oV_1 (xs := xs) (cs := stK) (p := p + 1) (by unfold stK; rw [ixF_K]; exact g1)
  have a1' : oV xs stK (p + 1) 1 = tK xs (p + 1) := by rw [a1]; unfold stK; exact ixF_K
  rw [a2] at e1; rw [a3] at e2; subst e1 e2
  by_cases g2 : tD xs (p + 1 + 1) = true
  rotate_left
  · obtain ⟨b1, b2⟩ := dV_0 (xs := xs) (p := p + 1 + 1) (ok := 1) (fun q => g2 q.2)
    rw [b2] at e3; rw [(gV_0 (xs := xs) (p := p + 1 + 1) (ok := 1) (fun q => g2 q.2)).2.2] at e4; subst e3 e4
    rw [((d _).2.2.2.2.2.2 _).1] at e5; rw [((d _).2.2.2.2.2.2 _).2] at e6; subst e5 e6
    rw [(d _).2.2.1] at e7; rw [(d _).2.2.2.1] at e8; subst e7 e8
    rw [((d _).2.2.2.2.2.2 _).1, ((d _).2.2.2.2.2.2 _).2]
    refine stG_bad (by omega) ?_
    rw [i1]
    rw [ffX, if_pos f0, ffX, if_pos f1, ffX]
    exact if_neg g2
  obtain ⟨b1, b2⟩ := dV_1 g2
  rw [(gV_1 g2).2.2] at e4
  subst e4
  have key : ∃ t3, inF xs p = ffX xs [44, 35, 59] t3 ∧ p2 = t3 ∧ p < t3 ∧ p + fmL xs p = t3 + 3 := by
    rcases i2 with ⟨g, ht, hl⟩ | ⟨g, ht, hl⟩
    · rw [if_pos g] at b2
      refine ⟨p + 1 + 1 + 1 + 1, ?_, by rw [e3, b2]; omega, by omega, by rw [hl]; omega⟩
      rw [i1, ht, ffX, if_pos f0, ffX, if_pos f1, ffX, if_pos (show fitB xs 35 (p + 1 + 1) = true from g2), ffX, if_pos (show fitB xs 35 (p + 1 + 1 + 1) = true from g)]
    · rw [if_neg g] at b2
      refine ⟨p + 1 + 1 + 1, ?_, by rw [e3, b2], by omega, by rw [hl]; omega⟩
      rw [i1, ht, ffX, if_pos f0, ffX, if_pos f1, ffX, if_pos (show fitB xs 35 (p + 1 + 1) = true from g2)]
  obtain ⟨t3, k1, k2, k3, k4⟩ := key
  rw [k2] at e5 e6
  by_cases g3 : tAt xs t3 = 44
  rotate_left
  · obtain ⟨c1, c2⟩ := pe_0 (xs := xs) (p := t3) (ok := 1) (c := 44) (fun q => g3 q.2)
    rw [c1] at e5; rw [c2] at e6; subst e5 e6
    rw [(d _).2.2.1] at e7; rw [(d _).2.2.2.1] at e8; subst e7 e8
    rw [((d _).2.2.2.2.2.2 _).1, ((d _).2.2.2.2.2.2 _).2]
    refine stG_bad (by omega) ?_
    rw [k1, ffX]; exact if_neg (fun q => g3 (of_decide_eq_true q))
  obtain ⟨c1, c2⟩ := pe_1 g3
  have f3 : fitB xs 44 t3 = true := decide_eq_true g3
  rw [c1] at e5; rw [c2] at e6; subst e5 e6
  by_cases g4 : tD xs (t3 + 1) = true
  rotate_left
  · obtain ⟨_, x2, x3⟩ := gV_0 (xs := xs) (p := t3 + 1) (ok := 1) (fun q => g4 q.2)
    rw [x2] at e7; rw [x3] at e8; subst e7 e8
    rw [((d _).2.2.2.2.2.2 _).1, ((d _).2.2.2.2.2.2 _).2]
    refine stG_bad (by omega) ?_
    rw [k1, ffX, if_pos f3, ffX]; exact if_neg g4
  obtain ⟨x1, x2, x3⟩ := gV_1 g4
  rw [x2] at e7; rw [x3] at e8; subst e7 e8
  by_cases g5 : tAt xs (t3 + 1 + 1) = 59
  rotate_left
  · obtain ⟨y1, y2⟩ := pe_0 (xs := xs) (p := t3 + 1 + 1) (ok := 1) (c := 59) (fun q => g5 q.2)
    rw [y1, y2]
    refine stG_bad (by omega) ?_
    rw [k1, ffX, if_pos f3, ffX, if_pos (show fitB xs 35 (t3 + 1) = true from g4), ffX]; exact if_neg (fun q => g5 (of_decide_eq_true q))
  obtain ⟨y1, y2⟩ := pe_1 g5
  rw [y1, y2, x1, a1', b1]
  have hz : inF xs p = 0 := by
    rw [k1, ffX, if_pos f3, ffX, if_pos (show fitB xs 35 (t3 + 1) = true from g4), ffX, if_pos (show fitB xs 59 (t3 + 1 + 1) = true from decide_eq_true g5), ffX]
  exact ⟨fun _ => ⟨rfl, by omega, Or.inr (Or.inl ⟨rfl, ha, rfl, by rw [show p + 2 = p + 1 + 1 by omega], by rw [show p + fmL xs p - 2 = t3 + 1 by omega]⟩)⟩, fun q => absurd hz q⟩