/-! a statement comes true -/
theorem nowR_addN2 {a : List Int} {K : CK} (k : nowR a K) (h12 : (kP K).length ≤ 12) (hL : (kP K).length = (kL K).length) (h6' : (kK K).length ≤ 6) {g l : Int} :
    nowR (((a.set (10 + ((kP K).length : Int)).toNat g).set (30 + ((kP K).length : Int)).toNat l).set (0 : Int).toNat (((kP K).length : Int) + 1)) (addN K g l) := by
  obtain ⟨h0, h1, h2, h3, h4, h5, h6, h7⟩ := k
  have hz : (0 : Int).toNat = 0 := rfl
  have e : ∀ j : Nat, j ≠ 0 → j ≠ 30 + (kP K).length → j ≠ 10 + (kP K).length → (((a.set (10 + ((kP K).length : Int)).toNat g).set (30 + ((kP K).length : Int)).toNat l).set (0 : Int).toNat (((kP K).length : Int) + 1)).getD j 0 = a.getD j 0 := by
    intro j j0 j1 j2
    rw [getD_set (by rw [List.length_set, List.length_set]; omega), if_neg (by omega), getD_set (by rw [List.length_set]; omega), if_neg (by omega), getD_set (by omega), if_neg (by omega)]
  refine ⟨by rw [List.length_set, List.length_set, List.length_set]; exact h0, ?_, ?_, ?_, ?_, ?_, fun i hi => ⟨?_, ?_⟩, fun i hi => ?_⟩
  · rw [getD_set (by rw [List.length_set, List.length_set]; omega), if_pos (by omega)]
    show _ = ((kP K ++ [g]).length : Int)
    rw [List.length_append, List.length_singleton]; omega
  · rw [e _ (by omega) (by omega) (by omega)]; exact h2
  · rw [e _ (by omega) (by omega) (by omega)]; exact h3
  · rw [e _ (by omega) (by omega) (by omega)]; exact h4
  · rw [e _ (by omega) (by omega) (by omega)]; exact h5
  · have hi : i < (kP K).length + 1 := by have q : i < (kP K ++ [g]).length := hi; rw [List.length_append, List.length_singleton] at q; exact q
    show _ = rget (kP K ++ [g]) i
    by_cases hc : i < (kP K).length
    · rw [e _ (by omega) (by omega) (by omega), rget_app (by omega)]; exact (h6 i hc).1
    · have : i = (kP K).length := by omega
      subst this
      rw [rget_snoc, getD_set (by rw [List.length_set, List.length_set]; omega), if_neg (by omega), getD_set (by rw [List.length_set]; omega), if_neg (by omega), getD_set (by omega), if_pos (by omega)]
  · have hi : i < (kP K).length + 1 := by have q : i < (kP K ++ [g]).length := hi; rw [List.length_append, List.length_singleton] at q; exact q
    show _ = rget (kL K ++ [l]) i
    by_cases hc : i < (kP K).length
    · rw [e _ (by omega) (by omega) (by omega), rget_app (by omega)]; exact (h6 i hc).2
    · have : i = (kL K).length := by omega
      subst this
      rw [rget_snoc, getD_set (by rw [List.length_set, List.length_set]; omega), if_neg (by omega), getD_set (by rw [List.length_set]; omega), if_pos (by omega)]
  · have := h7 i hi
    have hi : i < (kK K).length := hi
    rw [e _ (by omega) (by omega) (by omega), e _ (by omega) (by omega) (by omega), e _ (by omega) (by omega) (by omega)]; exact this
theorem nowR_addV2 {a : List Int} {K : CK} (k : nowR a K) (h12 : (kP K).length ≤ 12) (h6' : (kK K).length ≤ 5) (hE : (kE K).length = (kK K).length) (hH : (kH K).length = (kK K).length) {g l x : Int} :
    nowR ((((a.set (50 + ((kK K).length : Int)).toNat g).set (60 + ((kK K).length : Int)).toNat l).set (70 + ((kK K).length : Int)).toNat x).set (1 : Int).toNat (((kK K).length : Int) + 1)) (addV K g l x) := by
  obtain ⟨h0, h1, h2, h3, h4, h5, h6, h7⟩ := k
  have hz : (1 : Int).toNat = 1 := rfl
  have e : ∀ j : Nat, j ≠ 1 → j ≠ 50 + (kK K).length → j ≠ 60 + (kK K).length → j ≠ 70 + (kK K).length → ((((a.set (50 + ((kK K).length : Int)).toNat g).set (60 + ((kK K).length : Int)).toNat l).set (70 + ((kK K).length : Int)).toNat x).set (1 : Int).toNat (((kK K).length : Int) + 1)).getD j 0 = a.getD j 0 := by
    intro j j0 j1 j2 j3
    rw [getD_set (by rw [List.length_set, List.length_set, List.length_set]; omega), if_neg (by omega), getD_set (by rw [List.length_set, List.length_set]; omega), if_neg (by omega), getD_set (by rw [List.length_set]; omega), if_neg (by omega), getD_set (by omega), if_neg (by omega)]
  refine ⟨by rw [List.length_set, List.length_set, List.length_set, List.length_set]; exact h0, ?_, ?_, ?_, ?_, ?_, fun i hi => ?_, fun i hi => ⟨?_, ?_, ?_⟩⟩
  · rw [e _ (by omega) (by omega) (by omega) (by omega)]; exact h1
  · rw [getD_set (by rw [List.length_set, List.length_set, List.length_set]; omega), if_pos (by omega)]
    show _ = ((kK K ++ [g]).length : Int)
    rw [List.length_append, List.length_singleton]; omega
  · rw [e _ (by omega) (by omega) (by omega) (by omega)]; exact h3
  · rw [e _ (by omega) (by omega) (by omega) (by omega)]; exact h4
  · rw [e _ (by omega) (by omega) (by omega) (by omega)]; exact h5
  · have := h6 i hi
    have hi : i < (kP K).length := hi
    rw [e _ (by omega) (by omega) (by omega) (by omega), e _ (by omega) (by omega) (by omega) (by omega)]; exact this
  all_goals have hi : i < (kK K).length + 1 := by have q : i < (kK K ++ [g]).length := hi; rw [List.length_append, List.length_singleton] at q; exact q
  · show _ = rget (kK K ++ [g]) i
    by_cases hc : i < (kK K).length
    · rw [e _ (by omega) (by omega) (by omega) (by omega), rget_app (by omega)]; exact (h7 i hc).1
    · have : i = (kK K).length := by omega
      subst this
      rw [rget_snoc, getD_set (by rw [List.length_set, List.length_set, List.length_set]; omega), if_neg (by omega), getD_set (by rw [List.length_set, List.length_set]; omega), if_neg (by omega), getD_set (by rw [List.length_set]; omega), if_neg (by omega), getD_set (by omega), if_pos (by omega)]
  · show _ = rget (kE K ++ [l]) i
    by_cases hc : i < (kK K).length
    · rw [e _ (by omega) (by omega) (by omega) (by omega), rget_app (by omega)]; exact (h7 i hc).2.1
    · have : i = (kE K).length := by omega
      subst this
      rw [rget_snoc, getD_set (by rw [List.length_set, List.length_set, List.length_set]; omega), if_neg (by omega), getD_set (by rw [List.length_set, List.length_set]; omega), if_neg (by omega), getD_set (by rw [List.length_set]; omega), if_pos (by omega)]
  · show _ = rget (kH K ++ [x]) i
    by_cases hc : i < (kK K).length
    · rw [e _ (by omega) (by omega) (by omega) (by omega), rget_app (by omega)]; exact (h7 i hc).2.2
    · have : i = (kH K).length := by omega
      subst this
      rw [rget_snoc, getD_set (by rw [List.length_set, List.length_set, List.length_set]; omega), if_neg (by omega), getD_set (by rw [List.length_set, List.length_set]; omega), if_pos (by omega)]
def cmK (so f0 f1 f2 : Int) (K : CK) : CK := if so = 0 then addN K f0 f1 else if so = 1 then addV K f0 f1 f2 else if so = 2 then setS (setR K f0) f1 else setW K (((kW K).toNat ^^^ 2 ^ f0.toNat : Nat) : Int)
def cmO (so f0 f1 : Int) (K : CK) : Prop := (so = 0 → (kP K).length < 12) ∧ (so = 1 → (kK K).length < 6) ∧ (0 ≤ so ∧ so ≤ 3) ∧ (so = 3 → 0 ≤ f0 ∧ f0 ≤ 6)
set_option maxHeartbeats 4000000 in
set_option maxRecDepth 20000 in
theorem c_Model_come (G : Gx) {h : AH} {m : Nat} {X : MX} {so f0 f1 f2 : Int} {a : List Int} {K : CK} (ho : h.2 m = some (aO 8 (mO m X))) (hso : X.2.2.2.2.1 = so) (cf : h.2 (m + 8) = some (aA 0 [f0, f1, f2])) (cn : h.2 (m + 2) = some (aA 0 a)) (hk : nowR a K) (w : vK K 12 6) (hc : cmO so f0 f1 K) : Ct G Y_Model_come 0 0 0 [aR m] h (fun v h' => v = none ∧ (∃ a', h'.2 (m + 2) = some (aA 0 a') ∧ nowR a' (cmK so f0 f1 f2 K)) ∧ Fr (m + 2) (m + 2 + 1) h h') := by
  obtain ⟨hc0, hc1, hc2, hc3⟩ := hc
  have hl3 : ([f0, f1, f2] : List Int).length = 3 := rfl
  have fa : Fr (m + 2) (m + 2 + 1) h h := Fr.rf
  have al : a.length = 80 := hk.1
  have hP : (kP K).length ≤ 12 := w.2.1
  have hV : (kK K).length ≤ 6 := w.2.2.2.2.2.1
  have wk := w
  obtain ⟨w1, w2, w3, w4, w5, w6, w7, w8, w9⟩ := wk
  have hw0 : 0 ≤ kW K := w9.2.2.2.2.2.1
  have z0 : (0 : Int).toNat = 0 := rfl
  have z1 : (1 : Int).toNat = 1 := rfl
  refine Ct.of_V mo_Model_come rfl (Nat.le_of_ble_eq_true rfl) rfl ?_
  refine v_aload_n k_Model_come_0 rfl ?_
  refine v_getf fl_Model_67 ho rfl k_Model_come_1 ?_
  rw [show X.2.2.2.2.1 = so from hso]

  by_cases g0 : so = 0
  · rw [show (aI so : AV) = aI 0 by rw [g0]]
    refine v_tableIn 32 k_Model_come_4 (by decide) (by decide) (by decide) (off := 28) rfl rfl ?_
    refine v_aload_n k_Model_come_32 rfl ?_
    refine v_getf fl_Model_13 ho rfl k_Model_come_33 ?_
    refine v_bipush k_Model_come_36 (by decide) ?_
    refine v_aload_n k_Model_come_38 rfl ?_
    refine v_getf fl_Model_13 ho rfl k_Model_come_39 ?_
    refine v_iconst k_Model_come_42 ?_
    refine v_iald cn (by (first | omega | ((repeat rw [List.length_set]); omega))) (by (first | omega | ((repeat rw [List.length_set]); omega))) k_Model_come_43 ?_
    rw [hk.n0]
    refine v_iadd k_Model_come_44 ?_
    refine v_aload_n k_Model_come_45 rfl ?_
    refine v_getf fl_Model_32 ho rfl k_Model_come_46 ?_
    refine v_iconst k_Model_come_49 ?_
    refine v_iald cf (by (first | omega | ((repeat rw [List.length_set]); omega))) (by (first | omega | ((repeat rw [List.length_set]); omega))) k_Model_come_50 ?_
    rw [show ([f0, f1, f2] : List Int).getD (0 : Int).toNat 0 = f0 from rfl]
    refine v_ist cn (by (first | omega | ((repeat rw [List.length_set]); omega))) (by (first | omega | ((repeat rw [List.length_set]); omega))) k_Model_come_51 (fun h51 e51 f51 => ?_)
    have cn := e51
    have ho := f51.at ho (by omega)
    have cf := f51.at cf (by omega)
    have fa := fa.tr f51 (Nat.le_refl _) (Nat.le_refl _)
    refine v_aload_n k_Model_come_52 rfl ?_
    refine v_getf fl_Model_13 ho rfl k_Model_come_53 ?_
    refine v_bipush k_Model_come_56 (by decide) ?_
    refine v_aload_n k_Model_come_58 rfl ?_
    refine v_getf fl_Model_13 ho rfl k_Model_come_59 ?_
    refine v_iconst k_Model_come_62 ?_
    refine v_iald cn (by (first | omega | ((repeat rw [List.length_set]); omega))) (by (first | omega | ((repeat rw [List.length_set]); omega))) k_Model_come_63 ?_
    rw [getD_set (by (repeat rw [List.length_set]); omega), if_neg (by omega)]
    rw [hk.n0]
    refine v_iadd k_Model_come_64 ?_
    refine v_aload_n k_Model_come_65 rfl ?_
    refine v_getf fl_Model_32 ho rfl k_Model_come_66 ?_
    refine v_iconst k_Model_come_69 ?_
    refine v_iald cf (by (first | omega | ((repeat rw [List.length_set]); omega))) (by (first | omega | ((repeat rw [List.length_set]); omega))) k_Model_come_70 ?_
    rw [show ([f0, f1, f2] : List Int).getD (1 : Int).toNat 0 = f1 from rfl]
    refine v_ist cn (by (first | omega | ((repeat rw [List.length_set]); omega))) (by (first | omega | ((repeat rw [List.length_set]); omega))) k_Model_come_71 (fun h71 e71 f71 => ?_)
    have cn := e71
    have ho := f71.at ho (by omega)
    have cf := f71.at cf (by omega)
    have fa := fa.tr f71 (Nat.le_refl _) (Nat.le_refl _)
    refine v_aload_n k_Model_come_72 rfl ?_
    refine v_getf fl_Model_13 ho rfl k_Model_come_73 ?_
    refine v_iconst k_Model_come_76 ?_
    refine v_dup2 k_Model_come_77 rfl rfl ?_
    refine v_iald cn (by (first | omega | ((repeat rw [List.length_set]); omega))) (by (first | omega | ((repeat rw [List.length_set]); omega))) k_Model_come_78 ?_
    rw [getD_set (by (repeat rw [List.length_set]); omega), if_neg (by omega)]
    rw [getD_set (by (repeat rw [List.length_set]); omega), if_neg (by omega)]
    rw [hk.n0]
    refine v_iconst k_Model_come_79 ?_
    refine v_iadd k_Model_come_80 ?_
    refine v_ist cn (by (first | omega | ((repeat rw [List.length_set]); omega))) (by (first | omega | ((repeat rw [List.length_set]); omega))) k_Model_come_81 (fun h81 e81 f81 => ?_)
    have cn := e81
    have ho := f81.at ho (by omega)
    have cf := f81.at cf (by omega)
    have fa := fa.tr f81 (Nat.le_refl _) (Nat.le_refl _)
    refine v_goto k_Model_come_82 (tgt := 202) rfl ?_
    refine v_return k_Model_come_202 rfl ?_
    exact ⟨rfl, ⟨_, cn, by rw [show cmK so f0 f1 f2 K = addN K f0 f1 by unfold cmK; rw [if_pos g0]]; exact nowR_addN2 hk hP w1 hV⟩, fa⟩
  by_cases g1 : so = 1
  · rw [show (aI so : AV) = aI 1 by rw [g1]]
    refine v_tableIn 85 k_Model_come_4 (by decide) (by decide) (by decide) (off := 81) rfl rfl ?_
    refine v_aload_n k_Model_come_85 rfl ?_
    refine v_getf fl_Model_13 ho rfl k_Model_come_86 ?_
    refine v_bipush k_Model_come_89 (by decide) ?_
    refine v_aload_n k_Model_come_91 rfl ?_
    refine v_getf fl_Model_13 ho rfl k_Model_come_92 ?_
    refine v_iconst k_Model_come_95 ?_
    refine v_iald cn (by (first | omega | ((repeat rw [List.length_set]); omega))) (by (first | omega | ((repeat rw [List.length_set]); omega))) k_Model_come_96 ?_
    rw [hk.n1]
    refine v_iadd k_Model_come_97 ?_
    refine v_aload_n k_Model_come_98 rfl ?_
    refine v_getf fl_Model_32 ho rfl k_Model_come_99 ?_
    refine v_iconst k_Model_come_102 ?_
    refine v_iald cf (by (first | omega | ((repeat rw [List.length_set]); omega))) (by (first | omega | ((repeat rw [List.length_set]); omega))) k_Model_come_103 ?_
    rw [show ([f0, f1, f2] : List Int).getD (0 : Int).toNat 0 = f0 from rfl]
    refine v_ist cn (by (first | omega | ((repeat rw [List.length_set]); omega))) (by (first | omega | ((repeat rw [List.length_set]); omega))) k_Model_come_104 (fun h104 e104 f104 => ?_)
    have cn := e104
    have ho := f104.at ho (by omega)
    have cf := f104.at cf (by omega)
    have fa := fa.tr f104 (Nat.le_refl _) (Nat.le_refl _)
    refine v_aload_n k_Model_come_105 rfl ?_
    refine v_getf fl_Model_13 ho rfl k_Model_come_106 ?_
    refine v_bipush k_Model_come_109 (by decide) ?_
    refine v_aload_n k_Model_come_111 rfl ?_
    refine v_getf fl_Model_13 ho rfl k_Model_come_112 ?_
    refine v_iconst k_Model_come_115 ?_
    refine v_iald cn (by (first | omega | ((repeat rw [List.length_set]); omega))) (by (first | omega | ((repeat rw [List.length_set]); omega))) k_Model_come_116 ?_
    rw [getD_set (by (repeat rw [List.length_set]); omega), if_neg (by omega)]
    rw [hk.n1]
    refine v_iadd k_Model_come_117 ?_
    refine v_aload_n k_Model_come_118 rfl ?_
    refine v_getf fl_Model_32 ho rfl k_Model_come_119 ?_
    refine v_iconst k_Model_come_122 ?_
    refine v_iald cf (by (first | omega | ((repeat rw [List.length_set]); omega))) (by (first | omega | ((repeat rw [List.length_set]); omega))) k_Model_come_123 ?_
    rw [show ([f0, f1, f2] : List Int).getD (1 : Int).toNat 0 = f1 from rfl]
    refine v_ist cn (by (first | omega | ((repeat rw [List.length_set]); omega))) (by (first | omega | ((repeat rw [List.length_set]); omega))) k_Model_come_124 (fun h124 e124 f124 => ?_)
    have cn := e124
    have ho := f124.at ho (by omega)
    have cf := f124.at cf (by omega)
    have fa := fa.tr f124 (Nat.le_refl _) (Nat.le_refl _)
    refine v_aload_n k_Model_come_125 rfl ?_
    refine v_getf fl_Model_13 ho rfl k_Model_come_126 ?_
    refine v_bipush k_Model_come_129 (by decide) ?_
    refine v_aload_n k_Model_come_131 rfl ?_
    refine v_getf fl_Model_13 ho rfl k_Model_come_132 ?_
    refine v_iconst k_Model_come_135 ?_
    refine v_iald cn (by (first | omega | ((repeat rw [List.length_set]); omega))) (by (first | omega | ((repeat rw [List.length_set]); omega))) k_Model_come_136 ?_
    rw [getD_set (by (repeat rw [List.length_set]); omega), if_neg (by omega)]
    rw [getD_set (by (repeat rw [List.length_set]); omega), if_neg (by omega)]
    rw [hk.n1]
    refine v_iadd k_Model_come_137 ?_
    refine v_aload_n k_Model_come_138 rfl ?_
    refine v_getf fl_Model_32 ho rfl k_Model_come_139 ?_
    refine v_iconst k_Model_come_142 ?_
    refine v_iald cf (by (first | omega | ((repeat rw [List.length_set]); omega))) (by (first | omega | ((repeat rw [List.length_set]); omega))) k_Model_come_143 ?_
    rw [show ([f0, f1, f2] : List Int).getD (2 : Int).toNat 0 = f2 from rfl]
    refine v_ist cn (by (first | omega | ((repeat rw [List.length_set]); omega))) (by (first | omega | ((repeat rw [List.length_set]); omega))) k_Model_come_144 (fun h144 e144 f144 => ?_)
    have cn := e144
    have ho := f144.at ho (by omega)
    have cf := f144.at cf (by omega)
    have fa := fa.tr f144 (Nat.le_refl _) (Nat.le_refl _)
    refine v_aload_n k_Model_come_145 rfl ?_
    refine v_getf fl_Model_13 ho rfl k_Model_come_146 ?_
    refine v_iconst k_Model_come_149 ?_
    refine v_dup2 k_Model_come_150 rfl rfl ?_
    refine v_iald cn (by (first | omega | ((repeat rw [List.length_set]); omega))) (by (first | omega | ((repeat rw [List.length_set]); omega))) k_Model_come_151 ?_
    rw [getD_set (by (repeat rw [List.length_set]); omega), if_neg (by omega)]
    rw [getD_set (by (repeat rw [List.length_set]); omega), if_neg (by omega)]
    rw [getD_set (by (repeat rw [List.length_set]); omega), if_neg (by omega)]
    rw [hk.n1]
    refine v_iconst k_Model_come_152 ?_
    refine v_iadd k_Model_come_153 ?_
    refine v_ist cn (by (first | omega | ((repeat rw [List.length_set]); omega))) (by (first | omega | ((repeat rw [List.length_set]); omega))) k_Model_come_154 (fun h154 e154 f154 => ?_)
    have cn := e154
    have ho := f154.at ho (by omega)
    have cf := f154.at cf (by omega)
    have fa := fa.tr f154 (Nat.le_refl _) (Nat.le_refl _)
    refine v_goto k_Model_come_155 (tgt := 202) rfl ?_
    refine v_return k_Model_come_202 rfl ?_
    exact ⟨rfl, ⟨_, cn, by rw [show cmK so f0 f1 f2 K = addV K f0 f1 f2 by unfold cmK; rw [if_neg g0, if_pos g1]]; exact nowR_addV2 hk hP (by omega) w7 w8⟩, fa⟩
  by_cases g2 : so = 2
  · rw [show (aI so : AV) = aI 2 by rw [g2]]
    refine v_tableIn 158 k_Model_come_4 (by decide) (by decide) (by decide) (off := 154) rfl rfl ?_
    refine v_aload_n k_Model_come_158 rfl ?_
    refine v_getf fl_Model_13 ho rfl k_Model_come_159 ?_
    refine v_iconst k_Model_come_162 ?_
    refine v_aload_n k_Model_come_163 rfl ?_
    refine v_getf fl_Model_32 ho rfl k_Model_come_164 ?_
    refine v_iconst k_Model_come_167 ?_
    refine v_iald cf (by (first | omega | ((repeat rw [List.length_set]); omega))) (by (first | omega | ((repeat rw [List.length_set]); omega))) k_Model_come_168 ?_
    rw [show ([f0, f1, f2] : List Int).getD (0 : Int).toNat 0 = f0 from rfl]
    refine v_ist cn (by (first | omega | ((repeat rw [List.length_set]); omega))) (by (first | omega | ((repeat rw [List.length_set]); omega))) k_Model_come_169 (fun h169 e169 f169 => ?_)
    have cn := e169
    have ho := f169.at ho (by omega)
    have cf := f169.at cf (by omega)
    have fa := fa.tr f169 (Nat.le_refl _) (Nat.le_refl _)
    refine v_aload_n k_Model_come_170 rfl ?_
    refine v_getf fl_Model_13 ho rfl k_Model_come_171 ?_
    refine v_iconst k_Model_come_174 ?_
    refine v_aload_n k_Model_come_175 rfl ?_
    refine v_getf fl_Model_32 ho rfl k_Model_come_176 ?_
    refine v_iconst k_Model_come_179 ?_
    refine v_iald cf (by (first | omega | ((repeat rw [List.length_set]); omega))) (by (first | omega | ((repeat rw [List.length_set]); omega))) k_Model_come_180 ?_
    rw [show ([f0, f1, f2] : List Int).getD (1 : Int).toNat 0 = f1 from rfl]
    refine v_ist cn (by (first | omega | ((repeat rw [List.length_set]); omega))) (by (first | omega | ((repeat rw [List.length_set]); omega))) k_Model_come_181 (fun h181 e181 f181 => ?_)
    have cn := e181
    have ho := f181.at ho (by omega)
    have cf := f181.at cf (by omega)
    have fa := fa.tr f181 (Nat.le_refl _) (Nat.le_refl _)
    refine v_goto k_Model_come_182 (tgt := 202) rfl ?_
    refine v_return k_Model_come_202 rfl ?_
    exact ⟨rfl, ⟨_, cn, by rw [show cmK so f0 f1 f2 K = setS (setR K f0) f1 by unfold cmK; rw [if_neg g0, if_neg g1, if_pos g2]]; exact nowR_setS (nowR_setR hk hV (by omega)) hV (by omega : (kP K).length ≤ 13)⟩, fa⟩
  refine v_tableOut 185 k_Model_come_4 (by omega) (by omega) rfl ?_
  refine v_aload_n k_Model_come_185 rfl ?_
  refine v_getf fl_Model_13 ho rfl k_Model_come_186 ?_
  refine v_iconst k_Model_come_189 ?_
  refine v_dup2 k_Model_come_190 rfl rfl ?_
  refine v_iald cn (by first | omega | exact Int.natCast_nonneg _ | decide) (by (first | omega | ((repeat rw [List.length_set]); omega))) k_Model_come_191 ?_
  rw [hk.n4]
  refine v_iconst k_Model_come_192 ?_
  refine v_aload_n k_Model_come_193 rfl ?_
  refine v_getf fl_Model_32 ho rfl k_Model_come_194 ?_
  refine v_iconst k_Model_come_197 ?_
  refine v_iald cf (by first | omega | exact Int.natCast_nonneg _ | decide) (by (first | omega | ((repeat rw [List.length_set]); omega))) k_Model_come_198 ?_
  rw [show ([f0, f1, f2] : List Int).getD (0 : Int).toNat 0 = f0 from rfl]
  refine v_ishl k_Model_come_199 (by first | omega | exact Int.natCast_nonneg _ | decide) ?_
  rw [show (1 * (2 ^ f0.toNat : Nat) : Int) = ((2 ^ f0.toNat : Nat) : Int) by rw [Int.one_mul]]
  refine v_ixor k_Model_come_200 (by first | omega | exact Int.natCast_nonneg _ | decide) (by first | omega | exact Int.natCast_nonneg _ | decide) ?_
  rw [show (((2 ^ f0.toNat : Nat) : Int)).toNat = 2 ^ f0.toNat from Int.toNat_natCast _]
  refine v_ist cn (by first | omega | exact Int.natCast_nonneg _ | decide) (by (first | omega | ((repeat rw [List.length_set]); omega))) k_Model_come_201 (fun h201 e201 f201 => ?_)
  have cn := e201
  have ho := f201.at ho (by omega)
  have cf := f201.at cf (by omega)
  have fa := fa.tr f201 (Nat.le_refl _) (Nat.le_refl _)
  refine v_return k_Model_come_202 rfl ?_
  exact ⟨rfl, ⟨_, cn, by rw [show cmK so f0 f1 f2 K = setW K (((kW K).toNat ^^^ 2 ^ f0.toNat : Nat) : Int) by unfold cmK; rw [if_neg g0, if_neg g1, if_neg g2]]; exact nowR_setW hk hV (by omega)⟩, fa⟩
