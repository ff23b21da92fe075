/-! ill pairs, as the reference counts them -/
def xFp (X : MX) (v : Int) : MX := (X.1, X.2.1, X.2.2.1, X.2.2.2.1, X.2.2.2.2.1, v, X.2.2.2.2.2.2)
/-- the object and its sounds may differ -/
def FrA (m : Nat) (h h' : AH) : Prop := h'.1 = h.1 ∧ ∀ q, q ≠ m → q ≠ m + 9 → h'.2 q = h.2 q
theorem FrA.rf {m : Nat} {h : AH} : FrA m h h := ⟨rfl, fun _ _ _ => rfl⟩
theorem FrA.tr {m : Nat} {h h1 h2 : AH} (a : FrA m h h1) (b : FrA m h1 h2) : FrA m h h2 := ⟨b.1.trans a.1, fun q q1 q2 => (b.2 q q1 q2).trans (a.2 q q1 q2)⟩
theorem FrA.at {m p : Nat} {h h' : AH} {x : Option AC} (f : FrA m h h') (hx : h.2 p = x) (h1 : p ≠ m) (h2 : p ≠ m + 9) : h'.2 p = x := (f.2 p h1 h2).trans hx
theorem Fr.a0 {m : Nat} {h h' : AH} (f : Fr m (m + 1) h h') : FrA m h h' := ⟨f.1, fun q h1 h2 => f.2 q (by omega)⟩
theorem Fr.a9 {m : Nat} {h h' : AH} (f : Fr (m + 9) (m + 9 + 1) h h') : FrA m h h' := ⟨f.1, fun q h1 h2 => f.2 q (by omega)⟩
theorem FrA.fr {m : Nat} {h h' : AH} (f : FrA m h h') : Fr m (m + 11) h h' := ⟨f.1, fun q hq => f.2 q (by omega) (by omega)⟩
def sW (K : CK) (b wo : Int) (i : Int) : Int := if i = wo then 999 else sO K i b
theorem sW_bd {K : CK} (w : wK K) (b wo i : Int) : -2000 ≤ sW K b wo i ∧ sW K b wo i ≤ 2000 := by
  have := sO_bd w i b
  unfold sW
  split <;> omega
def mR (W : Int) (s : Int → Int) (i : Int) : Nat → Int → Int
  | 0, _ => 0
  | k + 1, j => (if agP W (s i) (s j) = true then 0 else 1) + mR W s i k (j + 1)
def mC (W : Int) (s : Int → Int) (nv : Nat) : Nat → Int → Int
  | 0, _ => 0
  | k + 1, i => mR W s i (nv - (i + 1)).toNat (i + 1) + mC W s nv k (i + 1)
def fR (W : Int) (s : Int → Int) (i : Int) : Nat → Int → Int
  | 0, _ => -9
  | k + 1, j => if agP W (s i) (s j) = true then fR W s i k (j + 1) else 10 * i + j
def fC (W : Int) (s : Int → Int) (nv : Nat) : Nat → Int → Int
  | 0, _ => -9
  | k + 1, i => if fR W s i (nv - (i + 1)).toNat (i + 1) = -9 then fC W s nv k (i + 1) else fR W s i (nv - (i + 1)).toNat (i + 1)
def mI (K : CK) (b wo : Int) : Int := mC (kW K) (sW K b wo) (kK K).length (kK K).length 0
def mF (K : CK) (b wo : Int) : Int := fC (kW K) (sW K b wo) (kK K).length (kK K).length 0
theorem mR_bd (W : Int) (s : Int → Int) (i : Int) : ∀ (k : Nat) (j : Int), 0 ≤ mR W s i k j ∧ mR W s i k j ≤ k
  | 0, _ => ⟨Int.le_refl 0, Int.le_refl 0⟩
  | k + 1, j => by
    have := mR_bd W s i k (j + 1)
    unfold mR
    split <;> omega
theorem mC_bd (W : Int) (s : Int → Int) (nv : Nat) : ∀ (k : Nat) (i : Int), 0 ≤ i → 0 ≤ mC W s nv k i ∧ mC W s nv k i ≤ (k : Int) * nv
  | 0, _, _ => ⟨Int.le_refl _, by show (0 : Int) ≤ ((0 : Nat) : Int) * nv; simp⟩
  | k + 1, i, hi => by
    have h1 := mC_bd W s nv k (i + 1) (by omega)
    have h2 := mR_bd W s i (nv - (i + 1)).toNat (i + 1)
    have e : ((k + 1 : Nat) : Int) * nv = (k : Int) * nv + nv := by rw [Int.natCast_add, Int.add_mul]; simp
    show 0 ≤ mR W s i (nv - (i + 1)).toNat (i + 1) + mC W s nv k (i + 1) ∧ mR W s i (nv - (i + 1)).toNat (i + 1) + mC W s nv k (i + 1) ≤ _
    omega
theorem mI_bd {K : CK} (w : vK K 13 6) (b wo : Int) : 0 ≤ mI K b wo ∧ mI K b wo ≤ 36 := by
  have h1 := mC_bd (kW K) (sW K b wo) (kK K).length (kK K).length 0 (Int.le_refl _)
  have h2 : ((kK K).length : Int) ≤ 6 := by have := w.2.2.2.2.2.1; omega
  have h3 := mul_bd (a := ((kK K).length : Int)) (b := ((kK K).length : Int)) (A := 6) (B := 6) (by omega) h2 (by omega) h2
  unfold mI
  omega
set_option maxHeartbeats 4000000 in
set_option maxRecDepth 20000 in
theorem c_Model_illAt (G : Gx) {h : AH} {m : Nat} {X : MX} {a sn : List Int} {K : CK} (ho : h.2 m = some (aO 8 (mO m X))) (ha : h.2 (m + 2) = some (aA 0 a)) (hs : h.2 (m + 9) = some (aA 0 sn)) (hsl : sn.length = 6) (hk : nowR a K) (w : vK K 13 6) {b wo : Int} (hb : 0 ≤ b ∧ b ≤ 500) (hwo : InR wo) : Ct G Y_Model_illAt 5 0 0 [aR m, aI b, aI wo] h (fun v h' => v = some (aI (mI K b wo)) ∧ h'.2 m = some (aO 8 (mO m (xFp X (mF K b wo)))) ∧ (∃ sn', h'.2 (m + 9) = some (aA 0 sn') ∧ sn'.length = 6) ∧ FrA m h h') := by
  have ha0 := ha
  have hl := hk.1
  obtain ⟨w1, w2, w3, w4, w5, w6, w7, w8, w9, w10, w11, w12, w13, w14⟩ := id w
  have wu := w.up (by decide) (by decide)
  have hbs := bt_sum w
  have hbp := bt_pos w
  refine Ct.of_V mo_Model_illAt rfl (Nat.le_of_ble_eq_true rfl) rfl ?_
  have loop1 : ∀ (k : Nat) (i : Nat) (h1 : AH) (sn1 : List Int), ((kK K).length < i + k) → (i ≤ (kK K).length) → (h1.2 m = some (aO 8 (mO m (xFp X (-9))))) → (h1.2 (m + 9) = some (aA 0 sn1)) → (sn1.length = 6) → (FrA m h h1) → (∀ i2 : Nat, i2 < i → sn1.getD i2 0 = sW K b wo i2) → V G Y_Model_illAt 5 0 0 11 [some (aR m), some (aI b), some (aI wo), some (aI 0), some (aI (i : Int)), none] [] h1 (fun v h' => v = some (aI (mI K b wo)) ∧ h'.2 m = some (aO 8 (mO m (xFp X (mF K b wo)))) ∧ (∃ sn', h'.2 (m + 9) = some (aA 0 sn') ∧ sn'.length = 6) ∧ FrA m h h') := by
    intro k
    induction k with
    | zero => intro i h1 sn1 hi hin ho1 hs1 hsl1 f1 hsn; exfalso; omega
    | succ k ih =>
      intro i h1 sn1 hi hin ho1 hs1 hsl1 f1 hsn
      have ho := ho1
      have hs := hs1
      have ha := f1.at ha0 (by omega) (by omega)
      refine v_iload k_Model_illAt_11 rfl ?_
      refine v_aload_n k_Model_illAt_13 rfl ?_
      refine v_getf fl_Model_13 ho rfl k_Model_illAt_14 ?_
      refine v_iconst k_Model_illAt_17 ?_
      refine v_iald ha (by omega) (by omega) k_Model_illAt_18 ?_
      rw [hk.n1]
      refine v_icge 54 k_Model_illAt_19 rfl (by omega) (by omega) (fun c19 => ?_) (fun c19 => ?_)
      · refine v_iconst k_Model_illAt_54 ?_
        refine v_istore k_Model_illAt_55 ⟨Nat.le_of_ble_eq_true rfl, Nat.le_of_ble_eq_true rfl⟩ ?_
        have ei : i = (kK K).length := by omega
        subst ei
        have loop : ∀ (k : Nat) (i : Nat) (n fp : Int) (h1 : AH) (z : Option AV), ((kK K).length = i + k) → (i ≤ 6) → (h1.2 m = some (aO 8 (mO m (xFp X fp)))) → (h1.2 (m + 9) = some (aA 0 sn1)) → (FrA m h h1) → (n + mC (kW K) (sW K b wo) (kK K).length k i = mI K b wo) → ((if n = 0 then fC (kW K) (sW K b wo) (kK K).length k i else fp) = mF K b wo) → (n = 0 → fp = -9) → (0 ≤ n ∧ n ≤ 7 * i) → V G Y_Model_illAt 5 0 0 57 [some (aR m), some (aI b), some (aI wo), some (aI n), some (aI (i : Int)), z] [] h1 (fun v h' => v = some (aI (mI K b wo)) ∧ h'.2 m = some (aO 8 (mO m (xFp X (mF K b wo)))) ∧ (∃ sn', h'.2 (m + 9) = some (aA 0 sn') ∧ sn'.length = 6) ∧ FrA m h h') := by
          intro k
          induction k with
          | zero =>
            intro i n fp h1 z hi hin ho1 hs1 f1 hT hF hnf hnb
            have ho := ho1
            have hs := hs1
            have ha := f1.at ha0 (by omega) (by omega)
            refine v_iload k_Model_illAt_57 rfl ?_
            refine v_aload_n k_Model_illAt_59 rfl ?_
            refine v_getf fl_Model_13 ho rfl k_Model_illAt_60 ?_
            refine v_iconst k_Model_illAt_63 ?_
            refine v_iald ha (by omega) (by omega) k_Model_illAt_64 ?_
            rw [hk.n1]
            refine v_icge 144 k_Model_illAt_65 rfl (by omega) (by omega) (fun c65 => ?_) (fun c65 => ?_)
            · refine v_iload_n k_Model_illAt_144 rfl ?_
              refine v_ireturn k_Model_illAt_145 rfl rfl ?_
              have hT2 : n = mI K b wo := by rw [← hT]; show n = n + 0; omega
              have hF2 : fp = mF K b wo := by
                rw [← hF]
                show fp = if n = 0 then -9 else fp
                split
                · rename_i q; exact hnf q
                · rfl
              rw [hT2]
              rw [hF2] at ho1
              exact ⟨rfl, ho1, ⟨sn1, hs1, hsl1⟩, f1⟩
            · exfalso; omega
          | succ k ih =>
            intro i n fp h1 z hi hin ho1 hs1 f1 hT hF hnf hnb
            have ho := ho1
            have hs := hs1
            have ha := f1.at ha0 (by omega) (by omega)
            refine v_iload k_Model_illAt_57 rfl ?_
            refine v_aload_n k_Model_illAt_59 rfl ?_
            refine v_getf fl_Model_13 ho rfl k_Model_illAt_60 ?_
            refine v_iconst k_Model_illAt_63 ?_
            refine v_iald ha (by omega) (by omega) k_Model_illAt_64 ?_
            rw [hk.n1]
            refine v_icge 144 k_Model_illAt_65 rfl (by omega) (by omega) (fun c65 => ?_) (fun c65 => ?_)
            · refine v_iload_n k_Model_illAt_144 rfl ?_
              refine v_ireturn k_Model_illAt_145 rfl rfl ?_
              exfalso; omega
            · refine v_iload k_Model_illAt_68 rfl ?_
              refine v_iconst k_Model_illAt_70 ?_
              refine v_iadd k_Model_illAt_71 ?_
              refine v_istore k_Model_illAt_72 ⟨Nat.le_of_ble_eq_true rfl, Nat.le_of_ble_eq_true rfl⟩ ?_
              have ek : mC (kW K) (sW K b wo) (kK K).length (k + 1) i = mR (kW K) (sW K b wo) i (((kK K).length : Int) - ((i + 1 : Nat) : Int)).toNat ((i + 1 : Nat) : Int) + mC (kW K) (sW K b wo) (kK K).length k ((i + 1 : Nat) : Int) := rfl
              have ekf : fC (kW K) (sW K b wo) (kK K).length (k + 1) i = if fR (kW K) (sW K b wo) i (((kK K).length : Int) - ((i + 1 : Nat) : Int)).toNat ((i + 1 : Nat) : Int) = -9 then fC (kW K) (sW K b wo) (kK K).length k ((i + 1 : Nat) : Int) else fR (kW K) (sW K b wo) i (((kK K).length : Int) - ((i + 1 : Nat) : Int)).toNat ((i + 1 : Nat) : Int) := rfl
              rw [ek] at hT
              rw [ekf] at hF
              have loop2 : ∀ (k2 : Nat) (j : Nat) (n fp : Int) (h1 : AH), ((kK K).length < j + k2) → (j ≤ (kK K).length ∧ i < j) → (h1.2 m = some (aO 8 (mO m (xFp X fp)))) → (h1.2 (m + 9) = some (aA 0 sn1)) → (FrA m h h1) → (n + (mR (kW K) (sW K b wo) i (((kK K).length : Int) - j).toNat j + mC (kW K) (sW K b wo) (kK K).length k (i + 1 : Nat)) = mI K b wo) → ((if n = 0 then (if fR (kW K) (sW K b wo) i (((kK K).length : Int) - j).toNat j = -9 then fC (kW K) (sW K b wo) (kK K).length k (i + 1 : Nat) else fR (kW K) (sW K b wo) i (((kK K).length : Int) - j).toNat j) else fp) = mF K b wo) → (n = 0 → fp = -9) → (0 ≤ n ∧ n ≤ 7 * i + j) → V G Y_Model_illAt 5 0 0 74 [some (aR m), some (aI b), some (aI wo), some (aI n), some (aI (i : Int)), some (aI (j : Int))] [] h1 (fun v h' => v = some (aI (mI K b wo)) ∧ h'.2 m = some (aO 8 (mO m (xFp X (mF K b wo)))) ∧ (∃ sn', h'.2 (m + 9) = some (aA 0 sn') ∧ sn'.length = 6) ∧ FrA m h h') := by
                intro k2
                induction k2 with
                | zero => intro j n fp h1 hj hjn ho1 hs1 f1 hT hF hnf hnb; exfalso; omega
                | succ k2 ih2 =>
                  intro j n fp h1 hj hjn ho1 hs1 f1 hT hF hnf hnb
                  have ho := ho1
                  have hs := hs1
                  have ha := f1.at ha0 (by omega) (by omega)
                  refine v_iload k_Model_illAt_74 rfl ?_
                  refine v_aload_n k_Model_illAt_76 rfl ?_
                  refine v_getf fl_Model_13 ho rfl k_Model_illAt_77 ?_
                  refine v_iconst k_Model_illAt_80 ?_
                  refine v_iald ha (by omega) (by omega) k_Model_illAt_81 ?_
                  rw [hk.n1]
                  refine v_icge 138 k_Model_illAt_82 rfl (by omega) (by omega) (fun c82 => ?_) (fun c82 => ?_)
                  · refine v_iinc k_Model_illAt_138 rfl (Nat.le_of_ble_eq_true rfl) ?_
                    refine v_goto k_Model_illAt_141 (tgt := 57) rfl ?_
                    have ej : (((kK K).length : Int) - j).toNat = 0 := by omega
                    rw [ej] at hT hF
                    exact ih (i + 1) n fp h1 _ (by omega) (by omega) ho1 hs1 f1 (by simpa [mR] using hT) (by simpa [fR] using hF) hnf (by omega)
                  · refine v_aload_n k_Model_illAt_85 rfl ?_
                    refine v_aload_n k_Model_illAt_86 rfl ?_
                    refine v_getf fl_Model_35 ho rfl k_Model_illAt_87 ?_
                    refine v_iload k_Model_illAt_90 rfl ?_
                    refine v_iald hs (by omega) (by omega) k_Model_illAt_92 ?_
                    rw [Int.toNat_natCast, hsn i (by omega)]
                    refine v_aload_n k_Model_illAt_93 rfl ?_
                    refine v_getf fl_Model_35 ho rfl k_Model_illAt_94 ?_
                    refine v_iload k_Model_illAt_97 rfl ?_
                    refine v_iald hs (by omega) (by omega) k_Model_illAt_99 ?_
                    rw [Int.toNat_natCast, hsn j (by omega)]
                    refine v_callVr mo_Model_agree mi_Model_agree mv_Model_agree lk_Model_128 k_Model_illAt_100 ho rfl rfl (Nat.le_of_ble_eq_true rfl) rfl (Nat.le_of_ble_eq_true rfl) (c_Model_agree G ho ha hk w (sW_bd wu b wo _) (sW_bd wu b wo _)) ?_
                    refine v_ifne 132 k_Model_illAt_103 rfl (by split <;> decide) (fun c103 => ?_) (fun c103 => ?_)
                    · have hag : agP (kW K) (sW K b wo i) (sW K b wo j) = true := by
                        apply Classical.byContradiction
                        intro q
                        rw [if_neg q] at c103
                        exact c103 rfl
                      refine v_iinc k_Model_illAt_132 rfl (Nat.le_of_ble_eq_true rfl) ?_
                      refine v_goto k_Model_illAt_135 (tgt := 74) rfl ?_
                      have ej : (((kK K).length : Int) - j).toNat = (((kK K).length : Int) - ((j + 1 : Nat) : Int)).toNat + 1 := by omega
                      have er : mR (kW K) (sW K b wo) i (((kK K).length : Int) - j).toNat j = (if agP (kW K) (sW K b wo i) (sW K b wo j) = true then 0 else 1) + mR (kW K) (sW K b wo) i (((kK K).length : Int) - ((j + 1 : Nat) : Int)).toNat ((j + 1 : Nat) : Int) := by rw [ej]; rfl
                      have ef : fR (kW K) (sW K b wo) i (((kK K).length : Int) - j).toNat j = if agP (kW K) (sW K b wo i) (sW K b wo j) = true then fR (kW K) (sW K b wo) i (((kK K).length : Int) - ((j + 1 : Nat) : Int)).toNat ((j + 1 : Nat) : Int) else 10 * i + j := by rw [ej]; rfl
                      rw [if_pos hag] at er ef
                      rw [er] at hT
                      rw [ef] at hF
                      exact ih2 (j + 1) n fp h1 (by omega) (by omega) ho1 hs1 f1 (by omega) hF hnf (by omega)
                    · have hag : ¬ agP (kW K) (sW K b wo i) (sW K b wo j) = true := by
                        intro q
                        rw [if_pos q] at c103
                        exact absurd c103 (by decide)
                      refine v_aload_n k_Model_illAt_106 rfl ?_
                      refine v_iload_n k_Model_illAt_107 rfl ?_
                      refine v_ifne 122 k_Model_illAt_108 rfl (by omega) (fun c108 => ?_) (fun c108 => ?_)
                      · refine v_aload_n k_Model_illAt_122 rfl ?_
                        refine v_getf fl_Model_122 ho rfl k_Model_illAt_123 ?_
                        refine v_put fl_Model_122 ho (Nat.le_of_ble_eq_true rfl) (fun r hr => by cases hr; exact Or.inl rfl) rfl rfl k_Model_illAt_126 (fun h126 e126 f126 => ?_)
                        have f2 := f1.tr f126.a0
                        have ho2 : h126.2 m = some (aO 8 (mO m (xFp X (fp)))) := e126
                        have hs2 := f126.at hs (by omega)
                        refine v_iinc k_Model_illAt_129 rfl (Nat.le_of_ble_eq_true rfl) ?_
                        refine v_iinc k_Model_illAt_132 rfl (Nat.le_of_ble_eq_true rfl) ?_
                        refine v_goto k_Model_illAt_135 (tgt := 74) rfl ?_
                        have ej : (((kK K).length : Int) - j).toNat = (((kK K).length : Int) - ((j + 1 : Nat) : Int)).toNat + 1 := by omega
                        have er : mR (kW K) (sW K b wo) i (((kK K).length : Int) - j).toNat j = (if agP (kW K) (sW K b wo i) (sW K b wo j) = true then 0 else 1) + mR (kW K) (sW K b wo) i (((kK K).length : Int) - ((j + 1 : Nat) : Int)).toNat ((j + 1 : Nat) : Int) := by rw [ej]; rfl
                        have ef : fR (kW K) (sW K b wo) i (((kK K).length : Int) - j).toNat j = if agP (kW K) (sW K b wo i) (sW K b wo j) = true then fR (kW K) (sW K b wo) i (((kK K).length : Int) - ((j + 1 : Nat) : Int)).toNat ((j + 1 : Nat) : Int) else 10 * i + j := by rw [ej]; rfl
                        rw [if_neg hag] at er ef
                        rw [er] at hT
                        rw [ef, if_neg (show ¬ 10 * (i : Int) + j = -9 by omega)] at hF
                        exact ih2 (j + 1) (n + 1) fp _ (by omega) (by omega) ho2 hs2 f2 (by omega) (by rw [if_neg (by omega)] at hF; rw [if_neg (by omega)]; exact hF) (by omega) (by omega)
                      · refine v_bipush k_Model_illAt_111 (by decide) ?_
                        refine v_iload k_Model_illAt_113 rfl ?_
                        refine v_imul k_Model_illAt_115 ?_
                        refine v_iload k_Model_illAt_116 rfl ?_
                        refine v_iadd k_Model_illAt_118 ?_
                        refine v_goto k_Model_illAt_119 (tgt := 126) rfl ?_
                        refine v_put fl_Model_122 ho (Nat.le_of_ble_eq_true rfl) (fun r hr => by cases hr; exact Or.inl rfl) rfl rfl k_Model_illAt_126 (fun h126 e126 f126 => ?_)
                        have f2 := f1.tr f126.a0
                        have ho2 : h126.2 m = some (aO 8 (mO m (xFp X (10 * (i : Int) + j)))) := e126
                        have hs2 := f126.at hs (by omega)
                        refine v_iinc k_Model_illAt_129 rfl (Nat.le_of_ble_eq_true rfl) ?_
                        refine v_iinc k_Model_illAt_132 rfl (Nat.le_of_ble_eq_true rfl) ?_
                        refine v_goto k_Model_illAt_135 (tgt := 74) rfl ?_
                        have ej : (((kK K).length : Int) - j).toNat = (((kK K).length : Int) - ((j + 1 : Nat) : Int)).toNat + 1 := by omega
                        have er : mR (kW K) (sW K b wo) i (((kK K).length : Int) - j).toNat j = (if agP (kW K) (sW K b wo i) (sW K b wo j) = true then 0 else 1) + mR (kW K) (sW K b wo) i (((kK K).length : Int) - ((j + 1 : Nat) : Int)).toNat ((j + 1 : Nat) : Int) := by rw [ej]; rfl
                        have ef : fR (kW K) (sW K b wo) i (((kK K).length : Int) - j).toNat j = if agP (kW K) (sW K b wo i) (sW K b wo j) = true then fR (kW K) (sW K b wo) i (((kK K).length : Int) - ((j + 1 : Nat) : Int)).toNat ((j + 1 : Nat) : Int) else 10 * i + j := by rw [ej]; rfl
                        rw [if_neg hag] at er ef
                        rw [er] at hT
                        rw [ef, if_neg (show ¬ 10 * (i : Int) + j = -9 by omega)] at hF
                        exact ih2 (j + 1) (n + 1) (10 * (i : Int) + j) _ (by omega) (by omega) ho2 hs2 f2 (by omega) (by rw [if_pos (by omega)] at hF; rw [if_neg (by omega)]; exact hF) (by omega) (by omega)
              exact loop2 ((kK K).length + 1) (i + 1) n fp h1 (by omega) (by omega) ho1 hs1 f1 hT hF hnf (by omega)
        exact loop ((kK K).length) 0 0 (-9) h1 _ (by omega) (by omega) ho1 hs1 f1 (by simp [mI]) (by rw [if_pos rfl]; rfl) (fun _ => rfl) (by omega)
      · refine v_aload_n k_Model_illAt_22 rfl ?_
        refine v_getf fl_Model_35 ho rfl k_Model_illAt_23 ?_
        refine v_iload k_Model_illAt_26 rfl ?_
        refine v_iload k_Model_illAt_28 rfl ?_
        refine v_iload_n k_Model_illAt_30 rfl ?_
        refine v_icne 40 k_Model_illAt_31 rfl (by omega) (by omega) (fun c31 => ?_) (fun c31 => ?_)
        · refine v_aload_n k_Model_illAt_40 rfl ?_
          refine v_iload k_Model_illAt_41 rfl ?_
          refine v_iload_n k_Model_illAt_43 rfl ?_
          refine v_callVr mo_Model_soundAt mi_Model_soundAt mv_Model_soundAt lk_Model_125 k_Model_illAt_44 ho rfl rfl (Nat.le_of_ble_eq_true rfl) rfl (Nat.le_of_ble_eq_true rfl) (c_Model_soundAt G ho ha hk w (v := (i : Int)) (by omega) hb) ?_
          refine v_ist hs (by omega) (by omega) k_Model_illAt_47 (fun h47 e47 f47 => ?_)
          have f2 := f1.tr f47.a9
          have ho2 := f47.at ho (by omega)
          have hs2 := e47
          rw [Int.toNat_natCast] at hs2
          refine v_iinc k_Model_illAt_48 rfl (Nat.le_of_ble_eq_true rfl) ?_
          refine v_goto k_Model_illAt_51 (tgt := 11) rfl ?_
          refine ih (i + 1) h47 _ (by omega) (by omega) ho2 hs2 (by rw [List.length_set]; exact hsl1) f2 (fun i2 hi2 => ?_)
          rw [getD_set (by omega)]
          by_cases e : i2 = i
          · rw [if_pos e, e]; unfold sW; first | rw [if_pos (by omega)] | rw [if_neg (by omega)]
          · rw [if_neg e]; exact hsn i2 (by omega)
        · refine v_sipush k_Model_illAt_34 (by decide) ?_
          refine v_goto k_Model_illAt_37 (tgt := 47) rfl ?_
          refine v_ist hs (by omega) (by omega) k_Model_illAt_47 (fun h47 e47 f47 => ?_)
          have f2 := f1.tr f47.a9
          have ho2 := f47.at ho (by omega)
          have hs2 := e47
          rw [Int.toNat_natCast] at hs2
          refine v_iinc k_Model_illAt_48 rfl (Nat.le_of_ble_eq_true rfl) ?_
          refine v_goto k_Model_illAt_51 (tgt := 11) rfl ?_
          refine ih (i + 1) h47 _ (by omega) (by omega) ho2 hs2 (by rw [List.length_set]; exact hsl1) f2 (fun i2 hi2 => ?_)
          rw [getD_set (by omega)]
          by_cases e : i2 = i
          · rw [if_pos e, e]; unfold sW; first | rw [if_pos (by omega)] | rw [if_neg (by omega)]
          · rw [if_neg e]; exact hsn i2 (by omega)
  refine v_iconst k_Model_illAt_0 ?_
  refine v_istore_n k_Model_illAt_1 ⟨Nat.le_of_ble_eq_true rfl, Nat.le_of_ble_eq_true rfl⟩ ?_
  refine v_aload_n k_Model_illAt_2 rfl ?_
  refine v_bipush k_Model_illAt_3 (by decide) ?_
  refine v_put fl_Model_122 ho (Nat.le_of_ble_eq_true rfl) (fun r hr => by cases hr; exact Or.inl rfl) rfl rfl k_Model_illAt_5 (fun h5 e5 f5 => ?_)
  have f1 := f5.a0
  have ho1 : h5.2 m = some (aO 8 (mO m (xFp X (-9)))) := e5
  have hs1 := f5.at hs (by omega)
  refine v_iconst k_Model_illAt_8 ?_
  refine v_istore k_Model_illAt_9 ⟨Nat.le_of_ble_eq_true rfl, Nat.le_of_ble_eq_true rfl⟩ ?_
  exact loop1 ((kK K).length + 1) 0 h5 sn (by omega) (by omega) ho1 hs1 hsl f1 (fun i2 h => absurd h (by omega))
