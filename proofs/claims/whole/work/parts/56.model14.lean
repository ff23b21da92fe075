/-! chains of notes -/
theorem wl_neg (W d : Int) : wl W (-d) = wl W d := by
  unfold wl
  by_cases h : 0 ≤ d
  · by_cases h0 : d = 0
    · subst h0; rfl
    · rw [if_neg (show ¬ 0 ≤ -d by omega), if_pos h, Int.neg_neg]
  · rw [if_pos (show 0 ≤ -d by omega), if_neg h]
theorem agP_small {W a b : Int} (ha : 0 ≤ a ∧ a ≤ 6) (hb : 0 ≤ b ∧ b ≤ 6) : agP W a b = wl W (b - a) := by
  rw [← wl_neg W (b - a), show -(b - a) = a - b by omega]
  unfold agP
  rw [decide_eq_false (by omega), decide_eq_false (by omega)]
  rfl
theorem lgS_7 {W : Int} {es : List Int} {j : Nat} : lgS W es j 0 = 0 := rfl
set_option maxHeartbeats 4000000 in
set_option maxRecDepth 20000 in
theorem c_Model_chains (G : Gx) {h : AH} {m : Nat} {X : MX} {a : List Int} {K : CK} (ho : h.2 m = some (aO 8 (mO m X))) (ha : h.2 (m + 2) = some (aA 0 a)) (hlt : m + 11 ≤ h.1) (hk : nowR a K) (w : vK K 13 6) {n : Int} (hn : 1 ≤ n ∧ n ≤ 12) : Ct G Y_Model_chains 2 12 84 [aR m, aI n] h (fun v h' => v = some (aJ (chS (kW K) n)) ∧ h.1 ≤ h'.1 ∧ FrU h.1 h h') := by
  refine Ct.of_V mo_Model_chains rfl (Nat.le_of_ble_eq_true rfl) rfl ?_
  have loop : ∀ (kk : Nat) (i : Nat) (h1 : AH) (p : Nat) (z4 z5 z6 : Option AV), (n - 1 = i + kk) → ((i : Int) ≤ n - 1) → (h1.2 p = some (aA 1 (chn (kW K) i))) → (p < h1.1) → (h.1 ≤ h1.1) → (h.1 ≤ p) → (FrU h.1 h h1) → V G Y_Model_chains 2 kk (7 * kk) 36 [some (aR m), some (aI n), some (aR p), some (aI ((i : Int) + 1)), z4, z5, z6] [] h1 (fun v h' => v = some (aJ (chS (kW K) n)) ∧ h.1 ≤ h'.1 ∧ FrU h.1 h h') := by
    intro kk
    induction kk with
    | zero =>
      intro i h1 p z4 z5 z6 hi hin e1 hp9 g1 hgp u1
      refine v_iload_n k_Model_chains_36 rfl ?_
      refine v_iload_n k_Model_chains_37 rfl ?_
      refine v_icge 115 k_Model_chains_38 rfl (by omega) (by omega) (fun cd38 => ?_) (fun cd38 => ?_)
      · refine v_lconst k_Model_chains_115 ?_
        refine v_lstore_n k_Model_chains_116 ⟨Nat.le_of_ble_eq_true rfl, Nat.le_of_ble_eq_true rfl⟩ ?_
        refine v_iconst k_Model_chains_117 ?_
        refine v_istore k_Model_chains_118 ⟨Nat.le_of_ble_eq_true rfl, Nat.le_of_ble_eq_true rfl⟩ ?_
        have ei : i = (n - 1).toNat := by omega
        rw [ei] at e1
        have hcl := chn_len (kW K) (n - 1).toNat
        have loop3 : ∀ (k3 : Nat) (i : Nat) (z6 : Option AV), (7 < i + k3) → (i ≤ 7) → V G Y_Model_chains 2 0 0 120 [some (aR m), some (aI n), some (aR p), some (aJ (sm (chn (kW K) (n - 1).toNat) i)), none, some (aI (i : Int)), z6] [] h1 (fun v h' => v = some (aJ (chS (kW K) n)) ∧ h.1 ≤ h'.1 ∧ FrU h.1 h h') := by
          intro k3
          induction k3 with
          | zero => intro i z6 hi hi7; exfalso; omega
          | succ k3 ih3 =>
            intro i z6 hi hi7
            refine v_iload k_Model_chains_120 rfl ?_
            refine v_bipush k_Model_chains_122 (by decide) ?_
            refine v_icge 140 k_Model_chains_124 rfl (by omega) (by omega) (fun cd124 => ?_) (fun cd124 => ?_)
            · refine v_lload_n k_Model_chains_140 rfl ?_
              refine v_lreturn k_Model_chains_141 rfl ?_
              have ei : i = 7 := by omega
              subst ei
              exact ⟨rfl, g1, u1⟩
            · refine v_lload_n k_Model_chains_127 rfl ?_
              refine v_aload_n k_Model_chains_128 rfl ?_
              refine v_iload k_Model_chains_129 rfl ?_
              refine v_lald e1 (by omega) (by omega) k_Model_chains_131 ?_
              refine v_ladd k_Model_chains_132 ?_
              refine v_lstore_n k_Model_chains_133 ⟨Nat.le_of_ble_eq_true rfl, Nat.le_of_ble_eq_true rfl⟩ ?_
              refine v_iinc k_Model_chains_134 rfl (Nat.le_of_ble_eq_true rfl) ?_
              refine v_goto k_Model_chains_137 (tgt := 120) rfl ?_
              rw [Int.toNat_natCast]
              exact ih3 (i + 1) _ (by omega) (by omega)
        exact loop3 8 0 _ (by omega) (by omega)
      · exfalso; omega
    | succ kk ih =>
      intro i h1 p z4 z5 z6 hi hin e1 hp9 g1 hgp u1
      obtain ⟨es, hes⟩ : ∃ es, es = chn (kW K) i := ⟨_, rfl⟩
      have hel : es.length = 7 := by rw [hes]; exact chn_len _ _
      refine v_iload_n k_Model_chains_36 rfl ?_
      refine v_iload_n k_Model_chains_37 rfl ?_
      refine v_icge 115 k_Model_chains_38 rfl (by omega) (by omega) (fun cd38 => ?_) (fun cd38 => ?_)
      · exfalso; omega
      · refine v_bipush k_Model_chains_41 (by decide) ?_
        rw [Nat.mul_succ]
        refine v_nwa (rc := kk) (rs := 7 * kk) (t := 1) (n := 7) (aty0 := .long) (by decide) rfl ac_long (by decide) k_Model_chains_43 (fun h2 m2 => ?_)
        have u2 := u1.tr (Mk.u m2 (Nat.le_refl _)) g1
        obtain ⟨a2, b2, c2⟩ := m2
        have he2 : h2.2 p = some (aA 1 es) := by rw [c2 p (by omega), hes]; exact e1
        refine v_astore k_Model_chains_45 ⟨Nat.le_of_ble_eq_true rfl, Nat.le_of_ble_eq_true rfl⟩ ?_
        refine v_iconst k_Model_chains_47 ?_
        refine v_istore k_Model_chains_48 ⟨Nat.le_of_ble_eq_true rfl, Nat.le_of_ble_eq_true rfl⟩ ?_
        generalize hqq : h1.1 = q at *
        have loop4 : ∀ (k4 : Nat) (x : Nat) (h2 : AH) (ns : List Int) (z6 : Option AV), (7 < x + k4) → (x ≤ 7) → (h2.2 p = some (aA 1 es)) → (h2.2 q = some (aA 1 ns)) → (ns.length = 7) → (q < h2.1) → (h.1 ≤ h2.1) → (FrU h.1 h h2) → (∀ j : Nat, j < 7 → ns.getD j 0 = lgS (kW K) es j x) → V G Y_Model_chains 2 kk (7 * kk) 50 [some (aR m), some (aI n), some (aR p), some (aI ((i : Int) + 1)), some (aR q), some (aI (x : Int)), z6] [] h2 (fun v h' => v = some (aJ (chS (kW K) n)) ∧ h.1 ≤ h'.1 ∧ FrU h.1 h h') := by
          intro k4
          induction k4 with
          | zero => intro x h2 ns z6 hxk hx7 he hne hnl hq g1 u1 hinv; exfalso; omega
          | succ k4 ih4 =>
            intro x h2 ns z6 hxk hx7 he hne hnl hq g1 u1 hinv
            refine v_iload k_Model_chains_50 rfl ?_
            refine v_bipush k_Model_chains_52 (by decide) ?_
            refine v_icge 106 k_Model_chains_54 rfl (by omega) (by omega) (fun cd54 => ?_) (fun cd54 => ?_)
            · have ex : x = 7 := by omega
              subst ex
              have en : ns = lgL (kW K) es := eq_of_getD hnl (lgL_len _ _) (fun j hj => by rw [hinv j hj, lgL_get hj])
              refine v_aload k_Model_chains_106 rfl ?_
              refine v_astore_n k_Model_chains_108 ⟨Nat.le_of_ble_eq_true rfl, Nat.le_of_ble_eq_true rfl⟩ ?_
              refine v_iinc k_Model_chains_109 rfl (Nat.le_of_ble_eq_true rfl) ?_
              refine v_goto k_Model_chains_112 (tgt := 36) rfl ?_
              refine ih (i + 1) h2 q _ _ _ (by omega) (by omega) (by rw [hne, en, hes]; rfl) hq g1 (by omega) u1
            · refine v_iconst k_Model_chains_57 ?_
              refine v_istore k_Model_chains_58 ⟨Nat.le_of_ble_eq_true rfl, Nat.le_of_ble_eq_true rfl⟩ ?_
              have loop5 : ∀ (k5 : Nat) (y : Nat) (h2 : AH) (ns : List Int), (7 < y + k5) → (y ≤ 7) → (h2.2 p = some (aA 1 es)) → (h2.2 q = some (aA 1 ns)) → (ns.length = 7) → (q < h2.1) → (h.1 ≤ h2.1) → (FrU h.1 h h2) → (∀ j : Nat, j < 7 → ns.getD j 0 = if j < y then lgS (kW K) es j (x + 1) else lgS (kW K) es j x) → V G Y_Model_chains 2 kk (7 * kk) 60 [some (aR m), some (aI n), some (aR p), some (aI ((i : Int) + 1)), some (aR q), some (aI (x : Int)), some (aI (y : Int))] [] h2 (fun v h' => v = some (aJ (chS (kW K) n)) ∧ h.1 ≤ h'.1 ∧ FrU h.1 h h') := by
                intro k5
                induction k5 with
                | zero => intro y h2 ns hyk hy7 he hne hnl hq g1 u1 hinv; exfalso; omega
                | succ k5 ih5 =>
                  intro y h2 ns hyk hy7 he hne hnl hq g1 u1 hinv
                  have ho9 := u1.at ho (by omega)
                  have ha9 := u1.at ha (by omega)
                  refine v_iload k_Model_chains_60 rfl ?_
                  refine v_bipush k_Model_chains_62 (by decide) ?_
                  refine v_icge 100 k_Model_chains_64 rfl (by omega) (by omega) (fun cd64 => ?_) (fun cd64 => ?_)
                  · refine v_iinc k_Model_chains_100 rfl (Nat.le_of_ble_eq_true rfl) ?_
                    refine v_goto k_Model_chains_103 (tgt := 50) rfl ?_
                    refine ih4 (x + 1) h2 ns _ (by omega) (by omega) he hne hnl hq g1 u1 (fun j hj => ?_)
                    rw [hinv j hj, if_pos (by omega)]
                  · refine v_aload k_Model_chains_67 rfl ?_
                    refine v_iload k_Model_chains_69 rfl ?_
                    refine v_dup2 k_Model_chains_71 rfl rfl ?_
                    refine v_lald hne (by omega) (by omega) k_Model_chains_72 ?_
                    refine v_aload_n k_Model_chains_73 rfl ?_
                    refine v_iload k_Model_chains_74 rfl ?_
                    refine v_iload k_Model_chains_76 rfl ?_
                    refine v_callVr mo_Model_agree mi_Model_agree mv_Model_agree lk_Model_128 k_Model_chains_78 ho9 rfl rfl (Nat.le_of_ble_eq_true rfl) rfl (Nat.le_of_ble_eq_true rfl) (c_Model_agree G ho9 ha9 hk w (by omega) (by omega)) ?_
                    refine v_ifeq 91 k_Model_chains_81 rfl (by split <;> decide) (fun cd81 => ?_) (fun cd81 => ?_)
                    · have hag : agP (kW K) (x : Int) (y : Int) = wl (kW K) ((y : Int) - x) := agP_small (by omega) (by omega)
                      have hyy : ¬ wl (kW K) ((y : Int) - x) = true := by
                        rw [← hag]
                        intro q9
                        rw [if_pos q9] at cd81
                        exact absurd cd81 (by decide)
                      refine v_lconst k_Model_chains_91 ?_
                      refine v_ladd k_Model_chains_92 ?_
                      refine v_lst hne (by omega) (by omega) k_Model_chains_93 (fun h93 e93 f93 => ?_)
                      have u2 := u1.tr (f93.u (show h.1 ≤ q by omega)) (Nat.le_refl _)
                      have e2 := e93
                      simp only [Int.toNat_natCast] at e2
                      refine v_iinc k_Model_chains_94 rfl (Nat.le_of_ble_eq_true rfl) ?_
                      refine v_goto k_Model_chains_97 (tgt := 60) rfl ?_
                      refine ih5 (y + 1) h93 _ (by omega) (by omega) (f93.at he (by omega)) e2 (by rw [List.length_set]; exact hnl) (by rw [f93.1]; exact hq) (by rw [f93.1]; exact g1) u2 (fun j hj => ?_)
                      rw [getD_set (by omega)]
                      have hj2 := hinv j hj
                      have hy2 := hinv y (by omega)
                      rw [if_neg (by omega)] at hy2
                      have hz0 : (((0 : Fin 2) : Nat) : Int) = 0 := rfl
                      by_cases ej : j = y
                      · subst ej
                        rw [if_pos rfl, if_pos (by omega), lgS, hy2, if_neg hyy]
                        first | done | omega
                      · rw [if_neg ej, hj2]
                        by_cases ej2 : j < y
                        · rw [if_pos ej2, if_pos (by omega)]
                        · rw [if_neg ej2, if_neg (by omega)]
                    · have hag : agP (kW K) (x : Int) (y : Int) = wl (kW K) ((y : Int) - x) := agP_small (by omega) (by omega)
                      have hyy : wl (kW K) ((y : Int) - x) = true := by
                        rw [← hag]
                        apply Classical.byContradiction
                        intro q9
                        rw [if_neg q9] at cd81
                        exact cd81 rfl
                      refine v_aload_n k_Model_chains_84 rfl ?_
                      refine v_iload k_Model_chains_85 rfl ?_
                      refine v_lald he (by omega) (by omega) k_Model_chains_87 ?_
                      refine v_goto k_Model_chains_88 (tgt := 92) rfl ?_
                      refine v_ladd k_Model_chains_92 ?_
                      refine v_lst hne (by omega) (by omega) k_Model_chains_93 (fun h93 e93 f93 => ?_)
                      have u2 := u1.tr (f93.u (show h.1 ≤ q by omega)) (Nat.le_refl _)
                      have e2 := e93
                      simp only [Int.toNat_natCast] at e2
                      refine v_iinc k_Model_chains_94 rfl (Nat.le_of_ble_eq_true rfl) ?_
                      refine v_goto k_Model_chains_97 (tgt := 60) rfl ?_
                      refine ih5 (y + 1) h93 _ (by omega) (by omega) (f93.at he (by omega)) e2 (by rw [List.length_set]; exact hnl) (by rw [f93.1]; exact hq) (by rw [f93.1]; exact g1) u2 (fun j hj => ?_)
                      rw [getD_set (by omega)]
                      have hj2 := hinv j hj
                      have hy2 := hinv y (by omega)
                      rw [if_neg (by omega)] at hy2
                      have hz0 : (((0 : Fin 2) : Nat) : Int) = 0 := rfl
                      by_cases ej : j = y
                      · subst ej
                        rw [if_pos rfl, if_pos (by omega), lgS, hy2, if_pos hyy]
                        first | done | omega
                      · rw [if_neg ej, hj2]
                        by_cases ej2 : j < y
                        · rw [if_pos ej2, if_pos (by omega)]
                        · rw [if_neg ej2, if_neg (by omega)]
              exact loop5 8 0 h2 ns (by omega) (by omega) he hne hnl hq g1 u1 (fun j hj => by rw [if_neg (by omega)]; exact hinv j hj)
        exact loop4 8 0 h2 (List.replicate 7 0) _ (by omega) (by omega) he2 b2 rfl (by omega) (by omega) u2 (fun j hj => by rw [lgS_7]; rcases (show j = 0 ∨ j = 1 ∨ j = 2 ∨ j = 3 ∨ j = 4 ∨ j = 5 ∨ j = 6 by omega) with rfl | rfl | rfl | rfl | rfl | rfl | rfl <;> rfl)
  refine v_bipush k_Model_chains_0 (by decide) ?_
  refine v_nwa (rc := 11) (rs := 77) (t := 1) (n := 7) (aty0 := .long) (by decide) rfl ac_long (by decide) k_Model_chains_2 (fun h1 m1 => ?_)
  have u1 := Mk.u m1 (Nat.le_refl _)
  obtain ⟨a1, b1, c1⟩ := m1
  refine v_dup k_Model_chains_4 rfl ?_
  refine v_iconst k_Model_chains_5 ?_
  refine v_lconst k_Model_chains_6 ?_
  refine v_lst b1 (by decide) (by decide) k_Model_chains_7 (fun h2 b1 f => ?_)
  have u1 := u1.tr (f.u (Nat.le_refl _)) (Nat.le_refl _)
  have a1 := f.1.trans a1
  refine v_dup k_Model_chains_8 rfl ?_
  refine v_iconst k_Model_chains_9 ?_
  refine v_lconst k_Model_chains_10 ?_
  refine v_lst b1 (by decide) (by decide) k_Model_chains_11 (fun h3 b1 f => ?_)
  have u1 := u1.tr (f.u (Nat.le_refl _)) (Nat.le_refl _)
  have a1 := f.1.trans a1
  refine v_dup k_Model_chains_12 rfl ?_
  refine v_iconst k_Model_chains_13 ?_
  refine v_lconst k_Model_chains_14 ?_
  refine v_lst b1 (by decide) (by decide) k_Model_chains_15 (fun h4 b1 f => ?_)
  have u1 := u1.tr (f.u (Nat.le_refl _)) (Nat.le_refl _)
  have a1 := f.1.trans a1
  refine v_dup k_Model_chains_16 rfl ?_
  refine v_iconst k_Model_chains_17 ?_
  refine v_lconst k_Model_chains_18 ?_
  refine v_lst b1 (by decide) (by decide) k_Model_chains_19 (fun h5 b1 f => ?_)
  have u1 := u1.tr (f.u (Nat.le_refl _)) (Nat.le_refl _)
  have a1 := f.1.trans a1
  refine v_dup k_Model_chains_20 rfl ?_
  refine v_iconst k_Model_chains_21 ?_
  refine v_lconst k_Model_chains_22 ?_
  refine v_lst b1 (by decide) (by decide) k_Model_chains_23 (fun h6 b1 f => ?_)
  have u1 := u1.tr (f.u (Nat.le_refl _)) (Nat.le_refl _)
  have a1 := f.1.trans a1
  refine v_dup k_Model_chains_24 rfl ?_
  refine v_iconst k_Model_chains_25 ?_
  refine v_lconst k_Model_chains_26 ?_
  refine v_lst b1 (by decide) (by decide) k_Model_chains_27 (fun h7 b1 f => ?_)
  have u1 := u1.tr (f.u (Nat.le_refl _)) (Nat.le_refl _)
  have a1 := f.1.trans a1
  refine v_dup k_Model_chains_28 rfl ?_
  refine v_bipush k_Model_chains_29 (by decide) ?_
  refine v_lconst k_Model_chains_31 ?_
  refine v_lst b1 (by decide) (by decide) k_Model_chains_32 (fun h8 b1 f => ?_)
  have u1 := u1.tr (f.u (Nat.le_refl _)) (Nat.le_refl _)
  have a1 := f.1.trans a1
  refine v_astore_n k_Model_chains_33 ⟨Nat.le_of_ble_eq_true rfl, Nat.le_of_ble_eq_true rfl⟩ ?_
  refine v_iconst k_Model_chains_34 ?_
  refine v_istore_n k_Model_chains_35 ⟨Nat.le_of_ble_eq_true rfl, Nat.le_of_ble_eq_true rfl⟩ ?_
  refine V.less (rc := (n - 1).toNat) (rs := 7 * (n - 1).toNat) (by omega) (by omega) ?_
  exact loop (n - 1).toNat 0 _ _ _ _ _ (by omega) (by omega) b1 (by omega) (by omega) (Nat.le_refl _) u1
