/-! rows of notes that agree with themselves -/
def lgS (W : Int) (es : List Int) (nx : Int) : Nat → Int
  | 0 => 0
  | p + 1 => lgS W es nx p + (if wl W (nx - p) then es.getD p 0 else 0)
def lgL (W : Int) (es : List Int) : List Int := (List.range 7).map fun nx => lgS W es (nx : Nat) 7
def chn (W : Int) : Nat → List Int
  | 0 => List.replicate 7 1
  | k + 1 => lgL W (chn W k)
def sm (es : List Int) : Nat → Int
  | 0 => 0
  | p + 1 => sm es p + es.getD p 0
def chS (W : Int) (notes : Int) : Int := sm (chn W (notes - 1).toNat) 7
def prF (W n e : Int) : Nat → Nat → Int → Int
  | 0, _, acc => acc
  | k + 1, c, acc => prF W n e k (c + 1) (acc * chS W ((n - 1 - c) / e + 1))
theorem getD_set {l : List Int} {i j : Nat} {x : Int} (hi : i < l.length) : (l.set i x).getD j 0 = if j = i then x else l.getD j 0 := by
  simp only [List.getD_eq_getElem?_getD]
  by_cases e : j = i
  · subst e; rw [if_pos rfl, List.getElem?_set_self hi]; rfl
  · rw [if_neg e, List.getElem?_set_ne (Ne.symm e)]
theorem eq_of_getD {l r : List Int} (hl : l.length = 7) (hr : r.length = 7) (h : ∀ j, j < 7 → l.getD j 0 = r.getD j 0) : l = r := by
  apply List.ext_getElem (hl.trans hr.symm)
  intro i h1 h2
  have := h i (by omega)
  simpa [List.getD_eq_getElem?_getD, List.getElem?_eq_getElem h1, List.getElem?_eq_getElem h2] using this
theorem lgL_get {W : Int} {es : List Int} {j : Nat} (hj : j < 7) : (lgL W es).getD j 0 = lgS W es j 7 := by
  rw [List.getD_eq_getElem?_getD, lgL, List.getElem?_map, List.getElem?_range hj]
  rfl
theorem lgL_len (W : Int) (es : List Int) : (lgL W es).length = 7 := by simp [lgL]
theorem chn_len (W : Int) : ∀ k, (chn W k).length = 7
  | 0 => rfl
  | k + 1 => lgL_len W _
set_option maxHeartbeats 4000000 in
set_option maxRecDepth 20000 in
theorem c_Walks_lengthen (G : Gx) {h : AH} {m : Nat} {es ls : List Int} (hw : pWalks h m es ls) {W : Int} (hW : 0 ≤ W ∧ W ≤ 127) : Ct G Y_Walks_lengthen 2 0 0 [aR m, aI W] h (fun v h' => v = none ∧ pWalks h' m (lgL W es) (lgL W es) ∧ Fr (m + 1) (m + 3) h h') := by
  obtain ⟨a0, a1, a2, a3, a4⟩ := id hw
  refine Ct.of_V mo_Walks_lengthen rfl (Nat.le_of_ble_eq_true rfl) rfl ?_
  have loop3 : ∀ (k3 : Nat) (i : Nat) (h1 : AH) (es1 : List Int) (z : Option AV), (7 < i + k3) → (i ≤ 7) → (pWalks h1 m es1 (lgL W es)) → (Fr (m + 1) (m + 3) h h1) → (∀ j : Nat, j < i → es1.getD j 0 = (lgL W es).getD j 0) → V G Y_Walks_lengthen 2 0 0 80 [some (aR m), some (aI W), some (aI i), z] [] h1 (fun v h' => v = none ∧ pWalks h' m (lgL W es) (lgL W es) ∧ Fr (m + 1) (m + 3) h h') := by
    intro k3
    induction k3 with
    | zero => intro i h1 es1 z hk hi hw1 f1 hes; exfalso; omega
    | succ k3 ih3 =>
      intro i h1 es1 z hk hi hw1 f1 hes
      obtain ⟨a0, a1, a2, a3, a4⟩ := id hw1
      refine v_iload_n k_Walks_lengthen_80 rfl ?_
      refine v_aload_n k_Walks_lengthen_81 rfl ?_
      refine v_getf fl_Walks_15 a0 rfl k_Walks_lengthen_82 ?_
      refine v_alen (by decide) a2 k_Walks_lengthen_85 ?_
      refine v_icge 116 k_Walks_lengthen_86 rfl (by omega) (by omega) (fun c86 => ?_) (fun c86 => ?_)
      · refine v_return k_Walks_lengthen_116 rfl ?_
        have e : es1 = lgL W es := eq_of_getD a3 a4 (fun j hj => hes j (by omega))
        rw [e] at hw1
        exact ⟨rfl, hw1, f1⟩
      · refine v_iload_n k_Walks_lengthen_89 rfl ?_
        refine v_aload_n k_Walks_lengthen_90 rfl ?_
        refine v_getf fl_Walks_9 a0 rfl k_Walks_lengthen_91 ?_
        refine v_alen (by decide) a1 k_Walks_lengthen_94 ?_
        refine v_icge 116 k_Walks_lengthen_95 rfl (by omega) (by omega) (fun c95 => ?_) (fun c95 => ?_)
        · refine v_return k_Walks_lengthen_116 rfl ?_
          have e : es1 = lgL W es := eq_of_getD a3 a4 (fun j hj => hes j (by omega))
          rw [e] at hw1
          exact ⟨rfl, hw1, f1⟩
        · refine v_aload_n k_Walks_lengthen_98 rfl ?_
          refine v_getf fl_Walks_9 a0 rfl k_Walks_lengthen_99 ?_
          refine v_iload_n k_Walks_lengthen_102 rfl ?_
          refine v_aload_n k_Walks_lengthen_103 rfl ?_
          refine v_getf fl_Walks_15 a0 rfl k_Walks_lengthen_104 ?_
          refine v_iload_n k_Walks_lengthen_107 rfl ?_
          refine v_lald a2 (by omega) (by omega) k_Walks_lengthen_108 ?_
          refine v_lst a1 (by omega) (by omega) k_Walks_lengthen_109 (fun h9 e9 f9 => ?_)
          refine v_iinc k_Walks_lengthen_110 rfl (Nat.le_of_ble_eq_true rfl) ?_
          refine v_goto k_Walks_lengthen_113 (tgt := 80) rfl ?_
          rw [Int.toNat_natCast] at e9
          refine ih3 (i + 1) h9 (es1.set i ((lgL W es).getD i 0)) _ (by omega) (by omega) ⟨f9.at a0 (by omega), e9, f9.at a2 (by omega), by rw [List.length_set]; exact a3, a4⟩ ((f1.wd (by omega) (by omega)).tr f9 (by omega) (by omega)) (fun j hj => ?_)
          rw [getD_set (by omega)]
          by_cases e : j = i
          · rw [if_pos e, e]
          · rw [if_neg e]; exact hes j (by omega)
  have loop : ∀ (k : Nat) (i : Nat) (h1 : AH) (ls1 : List Int) (z : Option AV), (7 < i + k) → (i ≤ 7) → (pWalks h1 m es ls1) → (Fr (m + 1) (m + 3) h h1) → (∀ j : Nat, j < i → ls1.getD j 0 = lgS W es j 7) → V G Y_Walks_lengthen 2 0 0 2 [some (aR m), some (aI W), some (aI i), z] [] h1 (fun v h' => v = none ∧ pWalks h' m (lgL W es) (lgL W es) ∧ Fr (m + 1) (m + 3) h h') := by
    intro k
    induction k with
    | zero => intro i h1 ls1 z hk hi hw1 f1 hls; exfalso; omega
    | succ k ih =>
      intro i h1 ls1 z hk hi hw1 f1 hls
      obtain ⟨a0, a1, a2, a3, a4⟩ := id hw1
      refine v_iload_n k_Walks_lengthen_2 rfl ?_
      refine v_bipush k_Walks_lengthen_3 (by decide) ?_
      refine v_icge 78 k_Walks_lengthen_5 rfl (by omega) (by omega) (fun c5 => ?_) (fun c5 => ?_)
      · refine v_iconst k_Walks_lengthen_78 ?_
        refine v_istore_n k_Walks_lengthen_79 ⟨Nat.le_of_ble_eq_true rfl, Nat.le_of_ble_eq_true rfl⟩ ?_
        have ei : i = 7 := by omega
        subst ei
        have e : ls1 = lgL W es := eq_of_getD a4 (lgL_len W es) (fun j hj => by rw [hls j hj, lgL_get hj])
        rw [e] at hw1
        exact loop3 8 0 h1 es _ (by omega) (by omega) hw1 f1 (fun j hj => absurd hj (by omega))
      · refine v_iload_n k_Walks_lengthen_8 rfl ?_
        refine v_aload_n k_Walks_lengthen_9 rfl ?_
        refine v_getf fl_Walks_15 a0 rfl k_Walks_lengthen_10 ?_
        refine v_alen (by decide) a2 k_Walks_lengthen_13 ?_
        refine v_icge 78 k_Walks_lengthen_14 rfl (by omega) (by omega) (fun c14 => ?_) (fun c14 => ?_)
        · refine v_iconst k_Walks_lengthen_78 ?_
          refine v_istore_n k_Walks_lengthen_79 ⟨Nat.le_of_ble_eq_true rfl, Nat.le_of_ble_eq_true rfl⟩ ?_
          have ei : i = 7 := by omega
          subst ei
          have e : ls1 = lgL W es := eq_of_getD a4 (lgL_len W es) (fun j hj => by rw [hls j hj, lgL_get hj])
          rw [e] at hw1
          exact loop3 8 0 h1 es _ (by omega) (by omega) hw1 f1 (fun j hj => absurd hj (by omega))
        · refine v_aload_n k_Walks_lengthen_17 rfl ?_
          refine v_getf fl_Walks_15 a0 rfl k_Walks_lengthen_18 ?_
          refine v_iload_n k_Walks_lengthen_21 rfl ?_
          refine v_lconst k_Walks_lengthen_22 ?_
          refine v_lst a2 (by omega) (by omega) k_Walks_lengthen_23 (fun h9 e9 f9 => ?_)
          refine v_iconst k_Walks_lengthen_24 ?_
          refine v_istore_n k_Walks_lengthen_25 ⟨Nat.le_of_ble_eq_true rfl, Nat.le_of_ble_eq_true rfl⟩ ?_
          rw [Int.toNat_natCast] at e9
          have loop2 : ∀ (k2 : Nat) (j : Nat) (h1 : AH) (ls1 : List Int), (7 < j + k2) → (j ≤ 7) → (pWalks h1 m es ls1) → (Fr (m + 1) (m + 3) h h1) → (∀ j : Nat, j < i → ls1.getD j 0 = lgS W es j 7) → (ls1.getD i 0 = lgS W es i j) → V G Y_Walks_lengthen 2 0 0 26 [some (aR m), some (aI W), some (aI i), some (aI j)] [] h1 (fun v h' => v = none ∧ pWalks h' m (lgL W es) (lgL W es) ∧ Fr (m + 1) (m + 3) h h') := by
            intro k2
            induction k2 with
            | zero => intro j h1 ls1 hk2 hj hw1 f1 hls hacc; exfalso; omega
            | succ k2 ih2 =>
              intro j h1 ls1 hk2 hj hw1 f1 hls hacc
              obtain ⟨a0, a1, a2, a3, a4⟩ := id hw1
              refine v_iload_n k_Walks_lengthen_26 rfl ?_
              refine v_bipush k_Walks_lengthen_27 (by decide) ?_
              refine v_icge 72 k_Walks_lengthen_29 rfl (by omega) (by omega) (fun c29 => ?_) (fun c29 => ?_)
              · refine v_iinc k_Walks_lengthen_72 rfl (Nat.le_of_ble_eq_true rfl) ?_
                refine v_goto k_Walks_lengthen_75 (tgt := 2) rfl ?_
                have ej : j = 7 := by omega
                subst ej
                refine ih (i + 1) h1 ls1 _ (by omega) (by omega) hw1 f1 (fun j2 hj2 => ?_)
                by_cases e : j2 = i
                · rw [e]; exact hacc
                · exact hls j2 (by omega)
              · refine v_iload_n k_Walks_lengthen_32 rfl ?_
                refine v_aload_n k_Walks_lengthen_33 rfl ?_
                refine v_getf fl_Walks_9 a0 rfl k_Walks_lengthen_34 ?_
                refine v_alen (by decide) a1 k_Walks_lengthen_37 ?_
                refine v_icge 72 k_Walks_lengthen_38 rfl (by omega) (by omega) (fun c38 => ?_) (fun c38 => ?_)
                · refine v_iinc k_Walks_lengthen_72 rfl (Nat.le_of_ble_eq_true rfl) ?_
                  refine v_goto k_Walks_lengthen_75 (tgt := 2) rfl ?_
                  have ej : j = 7 := by omega
                  subst ej
                  refine ih (i + 1) h1 ls1 _ (by omega) (by omega) hw1 f1 (fun j2 hj2 => ?_)
                  by_cases e : j2 = i
                  · rw [e]; exact hacc
                  · exact hls j2 (by omega)
                · refine v_iload_n k_Walks_lengthen_41 rfl ?_
                  refine v_iload_n k_Walks_lengthen_42 rfl ?_
                  refine v_iload_n k_Walks_lengthen_43 rfl ?_
                  refine v_isub k_Walks_lengthen_44 ?_
                  refine v_callSr mo_Main_soundsWell ms_Main_soundsWell lk_Walks_26 k_Walks_lengthen_45 rfl (Nat.le_of_ble_eq_true rfl) rfl (Nat.le_of_ble_eq_true rfl) (c_soundsWell G hW (by omega)) ?_
                  refine v_ifeq 66 k_Walks_lengthen_48 rfl (by split <;> decide) (fun c48 => ?_) (fun c48 => ?_)
                  · refine v_iinc k_Walks_lengthen_66 rfl (Nat.le_of_ble_eq_true rfl) ?_
                    refine v_goto k_Walks_lengthen_69 (tgt := 26) rfl ?_
                    have hq : ¬ wl W ((i : Int) - j) = true := by
                      intro hq
                      rw [if_pos hq] at c48
                      exact absurd c48 (by decide)
                    refine ih2 (j + 1) h1 ls1 (by omega) (by omega) hw1 f1 hls ?_
                    rw [hacc]
                    simp only [lgS]
                    rw [if_neg hq, Int.add_zero]
                  · refine v_aload_n k_Walks_lengthen_51 rfl ?_
                    refine v_getf fl_Walks_15 a0 rfl k_Walks_lengthen_52 ?_
                    refine v_iload_n k_Walks_lengthen_55 rfl ?_
                    refine v_dup2 k_Walks_lengthen_56 rfl rfl ?_
                    refine v_lald a2 (by omega) (by omega) k_Walks_lengthen_57 ?_
                    refine v_aload_n k_Walks_lengthen_58 rfl ?_
                    refine v_getf fl_Walks_9 a0 rfl k_Walks_lengthen_59 ?_
                    refine v_iload_n k_Walks_lengthen_62 rfl ?_
                    refine v_lald a1 (by omega) (by omega) k_Walks_lengthen_63 ?_
                    refine v_ladd k_Walks_lengthen_64 ?_
                    refine v_lst a2 (by omega) (by omega) k_Walks_lengthen_65 (fun h9 e9 f9 => ?_)
                    refine v_iinc k_Walks_lengthen_66 rfl (Nat.le_of_ble_eq_true rfl) ?_
                    refine v_goto k_Walks_lengthen_69 (tgt := 26) rfl ?_
                    rw [Int.toNat_natCast] at e9
                    have hq : wl W ((i : Int) - j) = true := by
                      apply Classical.byContradiction
                      intro hq
                      rw [if_neg hq] at c48
                      exact c48 rfl
                    refine ih2 (j + 1) h9 _ (by omega) (by omega) ⟨f9.at a0 (by omega), f9.at a1 (by omega), e9, a3, by rw [List.length_set]; exact a4⟩ (f1.tr f9 (by omega) (by omega)) (fun j2 hj2 => ?_) ?_
                    · rw [getD_set (by omega), if_neg (by omega)]; exact hls j2 hj2
                    · rw [getD_set (by omega), if_pos rfl, Int.toNat_natCast, hacc]
                      simp only [lgS]
                      rw [if_pos hq]
          refine loop2 8 0 h9 _ (by omega) (by omega) ⟨f9.at a0 (by omega), f9.at a1 (by omega), e9, a3, by rw [List.length_set]; exact a4⟩ ((f1.wd (by omega) (by omega)).tr f9 (by omega) (by omega)) (fun j2 hj2 => ?_) ?_
          · rw [getD_set (by omega), if_neg (by omega)]; exact hls j2 hj2
          · rw [getD_set (by omega), if_pos rfl]; rfl
  refine v_iconst k_Walks_lengthen_0 ?_
  refine v_istore_n k_Walks_lengthen_1 ⟨Nat.le_of_ble_eq_true rfl, Nat.le_of_ble_eq_true rfl⟩ ?_
  exact loop 8 0 h ls _ (by omega) (by omega) hw Fr.rf (fun j hj => absurd hj (by omega))

set_option maxHeartbeats 4000000 in
set_option maxRecDepth 20000 in
theorem c_Walks_chainsOf (G : Gx) {h : AH} {m : Nat} {es ls : List Int} (hw : pWalks h m es ls) {W n : Int} (hW : 0 ≤ W ∧ W ≤ 127) (hn : 1 ≤ n ∧ n ≤ 12) : Ct G Y_Walks_chainsOf 3 0 0 [aR m, aI n, aI W] h (fun v h' => v = some (aJ (chS W n)) ∧ (∃ es' ls', pWalks h' m es' ls') ∧ Fr (m + 1) (m + 3) h h') := by
  obtain ⟨a0, a1, a2, a3, a4⟩ := id hw
  refine Ct.of_V mo_Walks_chainsOf rfl (Nat.le_of_ble_eq_true rfl) rfl ?_
  have loop2 : ∀ (k2 : Nat) (i : Nat) (h1 : AH) (ls1 : List Int), (n - 1 < i + k2) → ((i : Int) ≤ n - 1) → (pWalks h1 m (chn W i) ls1) → (Fr (m + 1) (m + 3) h h1) → V G Y_Walks_chainsOf 3 0 0 32 [some (aR m), some (aI n), some (aI W), some (aI ((i : Int) + 1)), none, none] [] h1 (fun v h' => v = some (aJ (chS W n)) ∧ (∃ es' ls', pWalks h' m es' ls') ∧ Fr (m + 1) (m + 3) h h') := by
    intro k2
    induction k2 with
    | zero => intro i h1 ls1 hk2 hi hw1 f1; exfalso; omega
    | succ k2 ih2 =>
      intro i h1 ls1 hk2 hi hw1 f1
      obtain ⟨a0, a1, a2, a3, a4⟩ := id hw1
      refine v_iload_n k_Walks_chainsOf_32 rfl ?_
      refine v_iload_n k_Walks_chainsOf_33 rfl ?_
      refine v_icge 48 k_Walks_chainsOf_34 rfl (by omega) (by omega) (fun c34 => ?_) (fun c34 => ?_)
      · refine v_lconst k_Walks_chainsOf_48 ?_
        refine v_lstore_n k_Walks_chainsOf_49 ⟨Nat.le_of_ble_eq_true rfl, Nat.le_of_ble_eq_true rfl⟩ ?_
        refine v_iconst k_Walks_chainsOf_50 ?_
        refine v_istore k_Walks_chainsOf_51 ⟨Nat.le_of_ble_eq_true rfl, Nat.le_of_ble_eq_true rfl⟩ ?_
        have ei : i = (n - 1).toNat := by omega
        rw [ei] at hw1
        obtain ⟨a0, a1, a2, a3, a4⟩ := id hw1
        have loop3 : ∀ (k3 : Nat) (i : Nat), (7 < i + k3) → (i ≤ 7) → V G Y_Walks_chainsOf 3 0 0 53 [some (aR m), some (aI n), some (aI W), some (aJ (sm (chn W (n - 1).toNat) i)), none, some (aI i)] [] h1 (fun v h' => v = some (aJ (chS W n)) ∧ (∃ es' ls', pWalks h' m es' ls') ∧ Fr (m + 1) (m + 3) h h') := by
          intro k3
          induction k3 with
          | zero => intro i hk hi; exfalso; omega
          | succ k3 ih3 =>
            intro i hk hi
            refine v_iload k_Walks_chainsOf_53 rfl ?_
            refine v_bipush k_Walks_chainsOf_55 (by decide) ?_
            refine v_icge 86 k_Walks_chainsOf_57 rfl (by omega) (by omega) (fun c57 => ?_) (fun c57 => ?_)
            · refine v_lload_n k_Walks_chainsOf_86 rfl ?_
              refine v_lreturn k_Walks_chainsOf_87 rfl ?_
              have ei : i = 7 := by omega
              subst ei
              exact ⟨rfl, ⟨_, _, hw1⟩, f1⟩
            · refine v_iload k_Walks_chainsOf_60 rfl ?_
              refine v_aload_n k_Walks_chainsOf_62 rfl ?_
              refine v_getf fl_Walks_9 a0 rfl k_Walks_chainsOf_63 ?_
              refine v_alen (by decide) a1 k_Walks_chainsOf_66 ?_
              refine v_icge 86 k_Walks_chainsOf_67 rfl (by omega) (by omega) (fun c67 => ?_) (fun c67 => ?_)
              · refine v_lload_n k_Walks_chainsOf_86 rfl ?_
                refine v_lreturn k_Walks_chainsOf_87 rfl ?_
                have ei : i = 7 := by omega
                subst ei
                exact ⟨rfl, ⟨_, _, hw1⟩, f1⟩
              · refine v_lload_n k_Walks_chainsOf_70 rfl ?_
                refine v_aload_n k_Walks_chainsOf_71 rfl ?_
                refine v_getf fl_Walks_9 a0 rfl k_Walks_chainsOf_72 ?_
                refine v_iload k_Walks_chainsOf_75 rfl ?_
                refine v_lald a1 (by omega) (by omega) k_Walks_chainsOf_77 ?_
                refine v_ladd k_Walks_chainsOf_78 ?_
                refine v_lstore_n k_Walks_chainsOf_79 ⟨Nat.le_of_ble_eq_true rfl, Nat.le_of_ble_eq_true rfl⟩ ?_
                refine v_iinc k_Walks_chainsOf_80 rfl (Nat.le_of_ble_eq_true rfl) ?_
                refine v_goto k_Walks_chainsOf_83 (tgt := 53) rfl ?_
                rw [Int.toNat_natCast]
                exact ih3 (i + 1) (by omega) (by omega)
        exact loop3 8 0 (by omega) (by omega)
      · refine v_aload_n k_Walks_chainsOf_37 rfl ?_
        refine v_iload_n k_Walks_chainsOf_38 rfl ?_
        refine v_callV mo_Walks_lengthen mi_Walks_lengthen mv_Walks_lengthen lk_Walks_22 k_Walks_chainsOf_39 a0 rfl rfl (Nat.le_of_ble_eq_true rfl) rfl (Nat.le_of_ble_eq_true rfl) (c_Walks_lengthen G hw1 hW) (fun v39 h39 q39 => ?_)
        obtain ⟨rfl, hw2, f2⟩ := q39
        refine v_iinc k_Walks_chainsOf_42 rfl (Nat.le_of_ble_eq_true rfl) ?_
        refine v_goto k_Walks_chainsOf_45 (tgt := 32) rfl ?_
        exact ih2 (i + 1) h39 _ (by omega) (by omega) hw2 (f1.tr f2 (by omega) (by omega))
  have loop : ∀ (k : Nat) (i : Nat) (h1 : AH) (es1 : List Int), (7 < i + k) → (i ≤ 7) → (pWalks h1 m es1 ls) → (Fr (m + 1) (m + 3) h h1) → (∀ j : Nat, j < i → es1.getD j 0 = 1) → V G Y_Walks_chainsOf 3 0 0 2 [some (aR m), some (aI n), some (aI W), some (aI i), none, none] [] h1 (fun v h' => v = some (aJ (chS W n)) ∧ (∃ es' ls', pWalks h' m es' ls') ∧ Fr (m + 1) (m + 3) h h') := by
    intro k
    induction k with
    | zero => intro i h1 es1 hk hi hw1 f1 hes; exfalso; omega
    | succ k ih =>
      intro i h1 es1 hk hi hw1 f1 hes
      obtain ⟨a0, a1, a2, a3, a4⟩ := id hw1
      refine v_iload_n k_Walks_chainsOf_2 rfl ?_
      refine v_bipush k_Walks_chainsOf_3 (by decide) ?_
      refine v_icge 30 k_Walks_chainsOf_5 rfl (by omega) (by omega) (fun c5 => ?_) (fun c5 => ?_)
      · refine v_iconst k_Walks_chainsOf_30 ?_
        refine v_istore_n k_Walks_chainsOf_31 ⟨Nat.le_of_ble_eq_true rfl, Nat.le_of_ble_eq_true rfl⟩ ?_
        have e : es1 = chn W 0 := eq_of_getD a3 rfl (fun j hj => by
          rw [hes j (by omega)]
          show (1 : Int) = (List.replicate 7 1).getD j 0
          rw [List.getD_eq_getElem?_getD, List.getElem?_replicate, if_pos hj]
          rfl)
        rw [e] at hw1
        exact loop2 (n.toNat + 1) 0 h1 ls (by omega) (by omega) hw1 f1
      · refine v_iload_n k_Walks_chainsOf_8 rfl ?_
        refine v_aload_n k_Walks_chainsOf_9 rfl ?_
        refine v_getf fl_Walks_9 a0 rfl k_Walks_chainsOf_10 ?_
        refine v_alen (by decide) a1 k_Walks_chainsOf_13 ?_
        refine v_icge 30 k_Walks_chainsOf_14 rfl (by omega) (by omega) (fun c14 => ?_) (fun c14 => ?_)
        · refine v_iconst k_Walks_chainsOf_30 ?_
          refine v_istore_n k_Walks_chainsOf_31 ⟨Nat.le_of_ble_eq_true rfl, Nat.le_of_ble_eq_true rfl⟩ ?_
          have e : es1 = chn W 0 := eq_of_getD a3 rfl (fun j hj => by
            rw [hes j (by omega)]
            show (1 : Int) = (List.replicate 7 1).getD j 0
            rw [List.getD_eq_getElem?_getD, List.getElem?_replicate, if_pos hj]
            rfl)
          rw [e] at hw1
          exact loop2 (n.toNat + 1) 0 h1 ls (by omega) (by omega) hw1 f1
        · refine v_aload_n k_Walks_chainsOf_17 rfl ?_
          refine v_getf fl_Walks_9 a0 rfl k_Walks_chainsOf_18 ?_
          refine v_iload_n k_Walks_chainsOf_21 rfl ?_
          refine v_lconst k_Walks_chainsOf_22 ?_
          refine v_lst a1 (by omega) (by omega) k_Walks_chainsOf_23 (fun h9 e9 f9 => ?_)
          refine v_iinc k_Walks_chainsOf_24 rfl (Nat.le_of_ble_eq_true rfl) ?_
          refine v_goto k_Walks_chainsOf_27 (tgt := 2) rfl ?_
          rw [Int.toNat_natCast] at e9
          refine ih (i + 1) h9 _ (by omega) (by omega) ⟨f9.at a0 (by omega), e9, f9.at a2 (by omega), by rw [List.length_set]; exact a3, a4⟩ ((f1.wd (by omega) (by omega)).tr f9 (by omega) (by omega)) (fun j hj => ?_)
          rw [getD_set (by omega)]
          by_cases e : j = i
          · rw [if_pos e]; rfl
          · rw [if_neg e]; exact hes j (by omega)
  refine v_iconst k_Walks_chainsOf_0 ?_
  refine v_istore_n k_Walks_chainsOf_1 ⟨Nat.le_of_ble_eq_true rfl, Nat.le_of_ble_eq_true rfl⟩ ?_
  exact loop 8 0 h es (by omega) (by omega) hw Fr.rf (fun j hj => absurd hj (by omega))

set_option maxHeartbeats 4000000 in
set_option maxRecDepth 20000 in
theorem c_Walks_tunesAgreeing (G : Gx) {h : AH} {m : Nat} {es ls : List Int} (hw : pWalks h m es ls) {W n e : Int} (hW : 0 ≤ W ∧ W ≤ 127) (hn : 1 ≤ n ∧ n ≤ 12) (he : 1 ≤ e ∧ e ≤ 12) : Ct G Y_Walks_tunesAgreeing 4 0 0 [aR m, aI n, aI e, aI W] h (fun v h' => v = some (aJ (prF W n e (min n e).toNat 0 1)) ∧ (∃ es' ls', pWalks h' m es' ls') ∧ Fr (m + 1) (m + 3) h h') := by
  obtain ⟨a0, a1, a2, a3, a4⟩ := id hw
  refine Ct.of_V mo_Walks_tunesAgreeing rfl (Nat.le_of_ble_eq_true rfl) rfl ?_
  have loop : ∀ (k : Nat) (i : Nat) (h1 : AH) (acc : Int) (es1 ls1 : List Int), (i + k = (min n e).toNat) → (i ≤ 12) → (pWalks h1 m es1 ls1) → (Fr (m + 1) (m + 3) h h1) → (prF W n e k i acc = prF W n e (min n e).toNat 0 1) → V G Y_Walks_tunesAgreeing 4 0 0 13 [some (aR m), some (aI n), some (aI e), some (aI W), some (aJ acc), none, some (aI i)] [] h1 (fun v h' => v = some (aJ (prF W n e (min n e).toNat 0 1)) ∧ (∃ es' ls', pWalks h' m es' ls') ∧ Fr (m + 1) (m + 3) h h') := by
    intro k
    induction k with
    | zero =>
      intro i h1 acc es1 ls1 hk hi hw1 f1 ht
      obtain ⟨a0, a1, a2, a3, a4⟩ := id hw1
      refine v_iload k_Walks_tunesAgreeing_13 rfl ?_
      refine v_iload_n k_Walks_tunesAgreeing_15 rfl ?_
      refine v_icge 51 k_Walks_tunesAgreeing_16 rfl (by omega) (by omega) (fun c16 => ?_) (fun c16 => ?_)
      · refine v_lload k_Walks_tunesAgreeing_51 rfl ?_
        refine v_lreturn k_Walks_tunesAgreeing_53 rfl ?_
        exact ⟨by rw [← ht]; rfl, ⟨_, _, hw1⟩, f1⟩
      · refine v_iload k_Walks_tunesAgreeing_19 rfl ?_
        refine v_iload_n k_Walks_tunesAgreeing_21 rfl ?_
        refine v_icge 51 k_Walks_tunesAgreeing_22 rfl (by omega) (by omega) (fun c22 => ?_) (fun c22 => ?_)
        · refine v_lload k_Walks_tunesAgreeing_51 rfl ?_
          refine v_lreturn k_Walks_tunesAgreeing_53 rfl ?_
          exact ⟨by rw [← ht]; rfl, ⟨_, _, hw1⟩, f1⟩
        · exfalso; omega
    | succ k ih =>
      intro i h1 acc es1 ls1 hk hi hw1 f1 ht
      obtain ⟨a0, a1, a2, a3, a4⟩ := id hw1
      refine v_iload k_Walks_tunesAgreeing_13 rfl ?_
      refine v_iload_n k_Walks_tunesAgreeing_15 rfl ?_
      refine v_icge 51 k_Walks_tunesAgreeing_16 rfl (by omega) (by omega) (fun c16 => ?_) (fun c16 => ?_)
      · exfalso; omega
      · refine v_iload k_Walks_tunesAgreeing_19 rfl ?_
        refine v_iload_n k_Walks_tunesAgreeing_21 rfl ?_
        refine v_icge 51 k_Walks_tunesAgreeing_22 rfl (by omega) (by omega) (fun c22 => ?_) (fun c22 => ?_)
        · exfalso; omega
        · refine v_lload k_Walks_tunesAgreeing_25 rfl ?_
          refine v_aload_n k_Walks_tunesAgreeing_27 rfl ?_
          refine v_iload_n k_Walks_tunesAgreeing_28 rfl ?_
          refine v_iconst k_Walks_tunesAgreeing_29 ?_
          refine v_isub k_Walks_tunesAgreeing_30 ?_
          refine v_iload k_Walks_tunesAgreeing_31 rfl ?_
          refine v_isub k_Walks_tunesAgreeing_33 ?_
          refine v_iload_n k_Walks_tunesAgreeing_34 rfl ?_
          refine v_idiv k_Walks_tunesAgreeing_35 (by omega) (by omega) ?_
          rw [Int.tdiv_eq_ediv_of_nonneg (by omega)]
          have d1 := Int.ediv_nonneg (a := n - 1 - (i : Int)) (b := e) (by omega) (by omega)
          have d2 := Int.ediv_le_self (a := n - 1 - (i : Int)) e (by omega)
          refine v_iconst k_Walks_tunesAgreeing_36 ?_
          refine v_iadd k_Walks_tunesAgreeing_37 ?_
          refine v_iload_n k_Walks_tunesAgreeing_38 rfl ?_
          refine v_callV mo_Walks_chainsOf mi_Walks_chainsOf mv_Walks_chainsOf lk_Walks_18 k_Walks_tunesAgreeing_39 a0 rfl rfl (Nat.le_of_ble_eq_true rfl) rfl (Nat.le_of_ble_eq_true rfl) (c_Walks_chainsOf G hw1 hW (n := (n - 1 - (i : Int)) / e + 1) (by omega)) (fun v39 h39 q39 => ?_)
          obtain ⟨rfl, ⟨es2, ls2, hw2⟩, f2⟩ := q39
          refine v_lmul k_Walks_tunesAgreeing_42 ?_
          refine v_lstore k_Walks_tunesAgreeing_43 ⟨Nat.le_of_ble_eq_true rfl, Nat.le_of_ble_eq_true rfl⟩ ?_
          refine v_iinc k_Walks_tunesAgreeing_45 rfl (Nat.le_of_ble_eq_true rfl) ?_
          refine v_goto k_Walks_tunesAgreeing_48 (tgt := 13) rfl ?_
          exact ih (i + 1) h39 _ es2 ls2 (by omega) (by omega) hw2 (f1.tr f2 (by omega) (by omega)) ht
  refine v_iload_n k_Walks_tunesAgreeing_0 rfl ?_
  refine v_iconst k_Walks_tunesAgreeing_1 ?_
  refine v_icge 7 k_Walks_tunesAgreeing_2 rfl (by omega) (by omega) (fun c2 => ?_) (fun c2 => ?_)
  · refine v_lconst k_Walks_tunesAgreeing_7 ?_
    refine v_lstore k_Walks_tunesAgreeing_8 ⟨Nat.le_of_ble_eq_true rfl, Nat.le_of_ble_eq_true rfl⟩ ?_
    refine v_iconst k_Walks_tunesAgreeing_10 ?_
    refine v_istore k_Walks_tunesAgreeing_11 ⟨Nat.le_of_ble_eq_true rfl, Nat.le_of_ble_eq_true rfl⟩ ?_
    exact loop (min n e).toNat 0 h 1 es ls (by omega) (by omega) hw Fr.rf rfl
  · exfalso; omega
