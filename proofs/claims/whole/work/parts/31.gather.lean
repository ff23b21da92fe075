theorem nS_nn {K : CK} (w : wK K) {v b : Int} (h1 : rget (kE K) v ≤ b) (h2 : b < q_stl K v) : 0 ≤ q_nS K v b := by
  have h3 : q_stl K v = rget (kE K) v + kR K * q_rB K v := rfl
  have h4 := w.rd
  have h5 := w.rB v
  have h6 : 0 < q_rB K v := by
    apply Classical.byContradiction
    intro hq
    have e : q_rB K v = 0 := by omega
    rw [e, Int.mul_zero] at h3
    omega
  rw [nS_in ⟨h6, by omega, by omega⟩]
  split
  · exact (w.nb _).1
  · split
    · exact (w.nb _).1
    · exact (w.nb _).1
set_option maxHeartbeats 4000000 in
set_option maxRecDepth 20000 in
theorem c_Meetings_gather (G : Gx) {h : AH} {m c : Nat} {ws ts : List Int} (hm : pMeet h m ws ts) {K : CK} {sg sd : List Int} (hp : pCanon h c K sg sd) (w : wK K) (h6 : (kK K).length ≤ 6) (hd : m + 5 ≤ c ∨ c + 18 ≤ m) (hcap : ∀ one other : Nat, one < other → other < (kK K).length → nw [] (evP K one other) ≤ 78) : Ct G Y_Meetings_gather 4 0 0 [aR m, aR c] h (fun v h' => v = none ∧ ∃ M, pMeet h' m (M.map Prod.fst) (M.map Prod.snd) ∧ Fr (m + 1) (m + 5) h h' ∧ MRel M (evs K) ∧ ∀ q ∈ M, 0 ≤ q.1 ∧ q.1 < 32768) := by
  obtain ⟨m0, m1, m2⟩ := id hm
  refine Ct.of_V mo_Meetings_gather rfl (Nat.le_of_ble_eq_true rfl) rfl ?_
  have loop : ∀ (k : Nat) (i : Nat) (h1 : AH) (M : List (Int × Int)) (E : List Int) (x3 x4 x5 x6 x7 : Option AV), ((kK K).length < i + k) → (i ≤ (kK K).length) → (M.length + 78 * Tn ((kK K).length - i) ≤ 1170) → (pMeet h1 m (M.map Prod.fst) (M.map Prod.snd)) → (Fr (m + 1) (m + 5) h h1) → (MRel M E) → (∀ q ∈ M, 0 ≤ q.1 ∧ q.1 < 32768) → (E ++ evA K ((kK K).length - i) i = evs K) → V G Y_Meetings_gather 4 0 0 21 [some (aR m), some (aR c), some (aI i), x3, x4, x5, x6, x7] [] h1 (fun v h' => v = none ∧ ∃ M, pMeet h' m (M.map Prod.fst) (M.map Prod.snd) ∧ Fr (m + 1) (m + 5) h h' ∧ MRel M (evs K) ∧ ∀ q ∈ M, 0 ≤ q.1 ∧ q.1 < 32768) := by
    intro k
    induction k with
    | zero => intro i h1 M E x3 x4 x5 x6 x7 hk hi hcnt1 hm1 f1 hrel hb hE; exfalso; omega
    | succ k ih =>
      intro i h1 M E x3 x4 x5 x6 x7 hk hi hcnt1 hm1 f1 hrel hb hE
      have q1 := hp.fr f1 (by omega)
      obtain ⟨m0, m1, m2⟩ := id hm1
      have el1 : (M.map Prod.fst).length = M.length := List.length_map _
      refine v_iload_n k_Meetings_gather_21 rfl ?_
      refine v_aload_n k_Meetings_gather_22 rfl ?_
      refine v_callVr mo_Canon_voices mi_Canon_voices mv_Canon_voices lk_Meetings_26 k_Meetings_gather_23 q1.1 rfl rfl (Nat.le_of_ble_eq_true rfl) rfl (Nat.le_of_ble_eq_true rfl) (c_Canon_voices G q1) ?_
      refine v_icge 123 k_Meetings_gather_26 rfl (by omega) (by omega) (fun c26 => ?_) (fun c26 => ?_)
      · refine v_return k_Meetings_gather_123 rfl ?_
        have ei : (kK K).length - i = 0 := by omega
        rw [ei] at hE
        simp only [evA, List.append_nil] at hE
        rw [hE] at hrel
        exact ⟨rfl, M, hm1, f1, hrel, hb⟩
      · refine v_iload_n k_Meetings_gather_29 rfl ?_
        refine v_iconst k_Meetings_gather_30 ?_
        refine v_iadd k_Meetings_gather_31 ?_
        refine v_istore_n k_Meetings_gather_32 ⟨Nat.le_of_ble_eq_true rfl, Nat.le_of_ble_eq_true rfl⟩ ?_
        have loop2 : ∀ (kj : Nat) (j : Nat) (h1 : AH) (M : List (Int × Int)) (E : List Int) (x4 x5 x6 x7 : Option AV), ((kK K).length < j + kj) → (j ≤ (kK K).length) → (i < j) → (M.length + 78 * ((kK K).length - j + Tn ((kK K).length - (i + 1))) ≤ 1170) → (pMeet h1 m (M.map Prod.fst) (M.map Prod.snd)) → (Fr (m + 1) (m + 5) h h1) → (MRel M E) → (∀ q ∈ M, 0 ≤ q.1 ∧ q.1 < 32768) → (E ++ (evO K i ((kK K).length - j) j ++ evA K ((kK K).length - (i + 1)) (i + 1)) = evs K) → V G Y_Meetings_gather 4 0 0 33 [some (aR m), some (aR c), some (aI i), some (aI j), x4, x5, x6, x7] [] h1 (fun v h' => v = none ∧ ∃ M, pMeet h' m (M.map Prod.fst) (M.map Prod.snd) ∧ Fr (m + 1) (m + 5) h h' ∧ MRel M (evs K) ∧ ∀ q ∈ M, 0 ≤ q.1 ∧ q.1 < 32768) := by
          intro kj
          induction kj with
          | zero => intro j h1 M E x4 x5 x6 x7 hk2 hj hij hcnt2 hm1 f1 hrel hb hE; exfalso; omega
          | succ kj ih2 =>
            intro j h1 M E x4 x5 x6 x7 hk2 hj hij hcnt2 hm1 f1 hrel hb hE
            have q1 := hp.fr f1 (by omega)
            obtain ⟨m0, m1, m2⟩ := id hm1
            have el1 : (M.map Prod.fst).length = M.length := List.length_map _
            refine v_iload_n k_Meetings_gather_33 rfl ?_
            refine v_aload_n k_Meetings_gather_34 rfl ?_
            refine v_callVr mo_Canon_voices mi_Canon_voices mv_Canon_voices lk_Meetings_26 k_Meetings_gather_35 q1.1 rfl rfl (Nat.le_of_ble_eq_true rfl) rfl (Nat.le_of_ble_eq_true rfl) (c_Canon_voices G q1) ?_
            refine v_icge 117 k_Meetings_gather_38 rfl (by omega) (by omega) (fun c38 => ?_) (fun c38 => ?_)
            · have ej : (kK K).length - j = 0 := by omega
              rw [ej] at hE hcnt2
              refine v_iinc k_Meetings_gather_117 rfl (Nat.le_of_ble_eq_true rfl) ?_
              refine v_goto k_Meetings_gather_120 (tgt := 21) rfl ?_
              exact ih (i + 1) h1 M E _ _ _ _ _ (by omega) (by omega) (by omega) hm1 f1 hrel hb hE
            · refine v_aload_n k_Meetings_gather_41 rfl ?_
              refine v_getf fl_Meetings_14 m0 rfl k_Meetings_gather_42 ?_
              refine v_callVr mo_Row_size mi_Row_size mv_Row_size lk_Meetings_32 k_Meetings_gather_45 m1.obj rfl rfl (Nat.le_of_ble_eq_true rfl) rfl (Nat.le_of_ble_eq_true rfl) (c_Row_size G m1) ?_
              refine v_istore k_Meetings_gather_48 ⟨Nat.le_of_ble_eq_true rfl, Nat.le_of_ble_eq_true rfl⟩ ?_
              have b1 := w.en i
              have b2 := w.en j
              have b3 := w.stl i
              have b4 := w.stl j
              have hbf : 0 ≤ bgn K i j ∧ bgn K i j ≤ 60 ∧ 0 ≤ fin_ K i j ∧ fin_ K i j ≤ 356 := by unfold bgn fin_; omega
              refine v_aload_n k_Meetings_gather_50 rfl ?_
              refine v_iload_n k_Meetings_gather_51 rfl ?_
              refine v_callVr mo_Canon_entryOf mi_Canon_entryOf mv_Canon_entryOf lk_Meetings_35 k_Meetings_gather_52 q1.1 rfl rfl (Nat.le_of_ble_eq_true rfl) rfl (Nat.le_of_ble_eq_true rfl) (c_Canon_entryOf G q1 (by omega)) ?_
              refine v_aload_n k_Meetings_gather_55 rfl ?_
              refine v_iload_n k_Meetings_gather_56 rfl ?_
              refine v_callVr mo_Canon_entryOf mi_Canon_entryOf mv_Canon_entryOf lk_Meetings_35 k_Meetings_gather_57 q1.1 rfl rfl (Nat.le_of_ble_eq_true rfl) rfl (Nat.le_of_ble_eq_true rfl) (c_Canon_entryOf G q1 (by omega)) ?_
              refine v_mmax k_Meetings_gather_60 lm_Meetings_39 (by omega) (by omega) (Nat.le_of_ble_eq_true rfl) (Nat.le_of_ble_eq_true rfl) ?_
              refine v_istore k_Meetings_gather_63 ⟨Nat.le_of_ble_eq_true rfl, Nat.le_of_ble_eq_true rfl⟩ ?_
              refine v_aload_n k_Meetings_gather_65 rfl ?_
              refine v_iload_n k_Meetings_gather_66 rfl ?_
              refine v_callVr mo_Canon_stillFrom mi_Canon_stillFrom mv_Canon_stillFrom lk_Meetings_45 k_Meetings_gather_67 q1.1 rfl rfl (Nat.le_of_ble_eq_true rfl) rfl (Nat.le_of_ble_eq_true rfl) (c_Canon_stillFrom G q1 w (by omega)) ?_
              refine v_aload_n k_Meetings_gather_70 rfl ?_
              refine v_iload_n k_Meetings_gather_71 rfl ?_
              refine v_callVr mo_Canon_stillFrom mi_Canon_stillFrom mv_Canon_stillFrom lk_Meetings_45 k_Meetings_gather_72 q1.1 rfl rfl (Nat.le_of_ble_eq_true rfl) rfl (Nat.le_of_ble_eq_true rfl) (c_Canon_stillFrom G q1 w (by omega)) ?_
              refine v_mmin k_Meetings_gather_75 lm_Meetings_48 (by omega) (by omega) (Nat.le_of_ble_eq_true rfl) (Nat.le_of_ble_eq_true rfl) ?_
              refine v_istore k_Meetings_gather_78 ⟨Nat.le_of_ble_eq_true rfl, Nat.le_of_ble_eq_true rfl⟩ ?_
              refine v_iload k_Meetings_gather_80 rfl ?_
              refine v_istore k_Meetings_gather_82 ⟨Nat.le_of_ble_eq_true rfl, Nat.le_of_ble_eq_true rfl⟩ ?_
              have loop3 : ∀ (own : Nat), own + 78 + 78 * ((kK K).length - (j + 1) + Tn ((kK K).length - (i + 1))) ≤ 1170 → ∀ (kb : Nat) (b : Int) (h1 : AH) (M : List (Int × Int)) (E seen : List Int), (kb = (fin_ K i j - b).toNat) → (bgn K i j ≤ b ∧ b ≤ 400) → (own ≤ M.length) → (pMeet h1 m (M.map Prod.fst) (M.map Prod.snd)) → (Fr (m + 1) (m + 5) h h1) → (MRel M E) → (∀ q ∈ M, 0 ≤ q.1 ∧ q.1 < 32768) → (E ++ (evB K i j kb b ++ (evO K i ((kK K).length - (j + 1)) (j + 1) ++ evA K ((kK K).length - (i + 1)) (i + 1))) = evs K) → (∀ z, z ∈ (M.drop own).map Prod.fst ↔ z ∈ seen) → (M.length + nw seen (evB K i j kb b) ≤ own + 78) → V G Y_Meetings_gather 4 0 0 84 [some (aR m), some (aR c), some (aI i), some (aI j), some (aI own), some (aI (bgn K i j)), some (aI (fin_ K i j)), some (aI b)] [] h1 (fun v h' => v = none ∧ ∃ M, pMeet h' m (M.map Prod.fst) (M.map Prod.snd) ∧ Fr (m + 1) (m + 5) h h' ∧ MRel M (evs K) ∧ ∀ q ∈ M, 0 ≤ q.1 ∧ q.1 < 32768) := by
                intro own hown kb
                induction kb with
                | zero =>
                  intro b h1 M E seen hk hbb how hm1 f1 hrel hb hE hsn hcnt
                  have q1 := hp.fr f1 (by omega)
                  obtain ⟨m0, m1, m2⟩ := id hm1
                  have el1 : (M.map Prod.fst).length = M.length := List.length_map _
                  refine v_iload k_Meetings_gather_84 rfl ?_
                  refine v_iload k_Meetings_gather_86 rfl ?_
                  refine v_icge 111 k_Meetings_gather_88 rfl (by omega) (by omega) (fun c88 => ?_) (fun c88 => ?_)
                  · refine v_iinc k_Meetings_gather_111 rfl (Nat.le_of_ble_eq_true rfl) ?_
                    refine v_goto k_Meetings_gather_114 (tgt := 33) rfl ?_
                    have e9 : nw seen (evB K i j 0 b) = 0 := rfl
                    rw [e9] at hcnt
                    exact ih2 (j + 1) h1 M E _ _ _ _ (by omega) (by omega) (by omega) (by omega) hm1 f1 hrel hb hE
                  · exfalso; omega
                | succ kb ih3 =>
                  intro b h1 M E seen hk hbb how hm1 f1 hrel hb hE hsn hcnt
                  have q1 := hp.fr f1 (by omega)
                  obtain ⟨m0, m1, m2⟩ := id hm1
                  have el1 : (M.map Prod.fst).length = M.length := List.length_map _
                  refine v_iload k_Meetings_gather_84 rfl ?_
                  refine v_iload k_Meetings_gather_86 rfl ?_
                  refine v_icge 111 k_Meetings_gather_88 rfl (by omega) (by omega) (fun c88 => ?_) (fun c88 => ?_)
                  · exfalso; omega
                  · have g1 := nS_nn w (v := (i : Int)) (b := b) (by unfold bgn at hbb; omega) (by unfold fin_ at c88; omega)
                    have g2 := nS_nn w (v := (j : Int)) (b := b) (by unfold bgn at hbb; omega) (by unfold fin_ at c88; omega)
                    have g3 := wy_bd w g1 g2
                    have hcp : wyK K i j b ∉ (M.drop own).map Prod.fst → M.length < 1170 := fun hn => by
                      simp only [evB, nw] at hcnt
                      rw [if_neg (fun q => hn ((hsn _).mpr q))] at hcnt
                      omega
                    refine v_aload_n k_Meetings_gather_91 rfl ?_
                    refine v_aload_n k_Meetings_gather_92 rfl ?_
                    refine v_iload_n k_Meetings_gather_93 rfl ?_
                    refine v_iload_n k_Meetings_gather_94 rfl ?_
                    refine v_iload k_Meetings_gather_95 rfl ?_
                    refine v_callSr mo_Meetings_wayOf ms_Meetings_wayOf lk_Meetings_51 k_Meetings_gather_97 rfl (Nat.le_of_ble_eq_true rfl) rfl (Nat.le_of_ble_eq_true rfl) (c_Meetings_wayOf G q1 w (by omega) (by omega) (by omega) g1 g2) ?_
                    refine v_iload k_Meetings_gather_100 rfl ?_
                    refine v_callV mo_Meetings_meet mi_Meetings_meet mv_Meetings_meet lk_Meetings_55 k_Meetings_gather_102 m0 rfl rfl (Nat.le_of_ble_eq_true rfl) rfl (Nat.le_of_ble_eq_true rfl) (c_Meetings_meet G hm1 (by omega) (by omega) hb hcp) (fun v102 h102 q102 => ?_)
                    obtain ⟨rfl, M2, hm2, f2, mt⟩ := q102
                    refine v_iinc k_Meetings_gather_105 rfl (Nat.le_of_ble_eq_true rfl) ?_
                    refine v_goto k_Meetings_gather_108 (tgt := 84) rfl ?_
                    refine ih3 (b + 1) h102 M2 (E ++ [wyK K i j b]) (seen ++ [wyK K i j b]) (by omega) (by omega) (by rcases mt_len mt with ⟨_, e⟩ | ⟨_, e⟩ <;> omega) hm2 (f1.tr f2 (by omega) (by omega)) (hrel.step mt) (mt_bd mt hb (by omega)) ?_ ?_ ?_
                    · rw [List.append_assoc, ← hE]; rfl
                    · intro z; rw [mt_seg mt (by omega) z, hsn z, List.mem_append, List.mem_singleton]
                    · simp only [evB, nw] at hcnt
                      rcases mt_len mt with ⟨e1, e⟩ | ⟨e1, e⟩
                      · rw [if_pos ((hsn _).mp e1)] at hcnt; omega
                      · rw [if_neg (fun q => e1 ((hsn _).mpr q))] at hcnt; omega
              rw [el1]
              refine loop3 M.length (by omega) _ (bgn K i j) h1 M E [] rfl ⟨Int.le_refl _, by omega⟩ (Nat.le_refl _) hm1 f1 hrel hb ?_ ?_ ?_
              · rw [← hE, show (kK K).length - j = ((kK K).length - (j + 1)) + 1 by omega]
                simp only [evO, List.append_assoc]
                rfl
              · intro z; rw [List.drop_length]; simp
              · have := hcap i j (by omega) (by omega)
                unfold evP at this
                omega
        refine loop2 8 (i + 1) h1 M E _ _ _ _ (by omega) (by omega) (by omega) ?_ hm1 f1 hrel hb ?_
        · rw [show (kK K).length - i = ((kK K).length - (i + 1)) + 1 by omega] at hcnt1
          simp only [Tn] at hcnt1
          omega
        · rw [← hE, show (kK K).length - i = ((kK K).length - (i + 1)) + 1 by omega]
          rfl
  refine v_aload_n k_Meetings_gather_0 rfl ?_
  refine v_getf fl_Meetings_14 m0 rfl k_Meetings_gather_1 ?_
  refine v_callV mo_Row_clear mi_Row_clear mv_Row_clear lk_Meetings_23 k_Meetings_gather_4 m1.obj rfl rfl (Nat.le_of_ble_eq_true rfl) rfl (Nat.le_of_ble_eq_true rfl) (c_Row_clear G m1) (fun v4 h4 q4 => ?_)
  obtain ⟨rfl, n1, f1⟩ := q4
  have m0 := f1.at m0 (by omega)
  have m2 := m2.fr f1 (by omega)
  refine v_aload_n k_Meetings_gather_7 rfl ?_
  refine v_getf fl_Meetings_20 m0 rfl k_Meetings_gather_8 ?_
  refine v_callV mo_Row_clear mi_Row_clear mv_Row_clear lk_Meetings_23 k_Meetings_gather_11 m2.obj rfl rfl (Nat.le_of_ble_eq_true rfl) rfl (Nat.le_of_ble_eq_true rfl) (c_Row_clear G m2) (fun v11 h11 q11 => ?_)
  obtain ⟨rfl, n2, f2⟩ := q11
  have m0 := f2.at m0 (by omega)
  have n1 := n1.fr f2 (by omega)
  refine v_aload_n k_Meetings_gather_14 rfl ?_
  refine v_ifnonnull 19 k_Meetings_gather_15 rfl ?_
  refine v_iconst k_Meetings_gather_19 ?_
  refine v_istore_n k_Meetings_gather_20 ⟨Nat.le_of_ble_eq_true rfl, Nat.le_of_ble_eq_true rfl⟩ ?_
  refine loop 8 0 h11 [] [] _ _ _ _ _ (by omega) (by omega) ?_ ⟨m0, n1, n2⟩ ((f1.wd (by omega) (by omega)).tr f2 (by omega) (by omega)) ⟨fun f => rfl, fun z => Iff.rfl⟩ (fun q hq => by cases hq) rfl
  have : Tn (kK K).length ≤ 15 := by
    rcases (show (kK K).length = 0 ∨ (kK K).length = 1 ∨ (kK K).length = 2 ∨ (kK K).length = 3 ∨ (kK K).length = 4 ∨ (kK K).length = 5 ∨ (kK K).length = 6 by omega) with e | e | e | e | e | e | e <;> rw [e] <;> decide
  show 0 + 78 * Tn ((kK K).length - 0) ≤ 1170
  rw [Nat.sub_zero]
  omega
