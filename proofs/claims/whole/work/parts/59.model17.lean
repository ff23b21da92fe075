/-! whether a statement is as it must be -/
def mbe (so f0 f1 notes voices : Int) : Bool := if so = 0 then decide (1 ≤ f1 ∧ f1 ≤ 3 ∧ notes < 12) else if so = 1 then decide (f1 ≤ 60 ∧ voices < 6) else if so = 2 then decide ((1 ≤ f0 ∧ f0 ≤ 4) ∧ f1 ≤ 2) else decide (f0 ≤ 6)
set_option maxHeartbeats 4000000 in
set_option maxRecDepth 20000 in
theorem c_Model_isAsItMustBe (G : Gx) {h : AH} {m : Nat} {X : MX} {so f0 f1 f2 notes voices : Int} (ho : h.2 m = some (aO 8 (mO m X))) (hso : X.2.2.2.2.1 = so) (cf : h.2 (m + 8) = some (aA 0 [f0, f1, f2])) (h0 : 0 ≤ so ∧ so ≤ 3) (b0 : InR f0) (b1 : InR f1) (bn : InR notes) (bv : InR voices) : Ct G Y_Model_isAsItMustBe 0 0 0 [aR m, aI notes, aI voices] h (isR (some (aI (if mbe so f0 f1 notes voices = true then 1 else 0))) h) := by
  have hl3 : ([f0, f1, f2] : List Int).length = 3 := rfl
  refine Ct.of_V mo_Model_isAsItMustBe rfl (Nat.le_of_ble_eq_true rfl) rfl ?_
  refine v_aload_n k_Model_isAsItMustBe_0 rfl ?_
  refine v_getf fl_Model_67 ho rfl k_Model_isAsItMustBe_1 ?_
  rw [show X.2.2.2.2.1 = so from hso]

  by_cases g0 : so = 0
  · rw [show (aI so : AV) = aI 0 by rw [g0]]
    refine v_tableIn 32 k_Model_isAsItMustBe_4 (by decide) (by decide) (by decide) (off := 28) rfl rfl ?_
    refine v_aload_n k_Model_isAsItMustBe_32 rfl ?_
    refine v_getf fl_Model_32 ho rfl k_Model_isAsItMustBe_33 ?_
    refine v_iconst k_Model_isAsItMustBe_36 ?_
    refine v_iald cf (by first | omega | decide) (by omega) k_Model_isAsItMustBe_37 ?_
    rw [show ([f0, f1, f2] : List Int).getD (1 : Int).toNat 0 = f1 from rfl]
    refine v_iconst k_Model_isAsItMustBe_38 ?_
    refine v_iclt 62 k_Model_isAsItMustBe_39 rfl (by first | omega | decide) (by first | omega | decide) (fun cd39 => ?_) (fun cd39 => ?_)
    · refine v_iconst k_Model_isAsItMustBe_62 ?_
      refine v_ireturn k_Model_isAsItMustBe_63 rfl (by first | rfl | (split <;> rfl)) ?_
      refine ⟨?_, rfl⟩
      rw [show mbe so f0 f1 notes voices = decide (1 ≤ f1 ∧ f1 ≤ 3 ∧ notes < 12) by unfold mbe; (repeat (first | rw [if_pos (by assumption)] | rw [if_neg (by assumption)]))]
      first
        | rw [if_pos (decide_eq_true (by omega))]
        | rw [if_neg (fun q => by have := of_decide_eq_true q; omega)]
    · refine v_aload_n k_Model_isAsItMustBe_42 rfl ?_
      refine v_getf fl_Model_32 ho rfl k_Model_isAsItMustBe_43 ?_
      refine v_iconst k_Model_isAsItMustBe_46 ?_
      refine v_iald cf (by first | omega | decide) (by omega) k_Model_isAsItMustBe_47 ?_
      rw [show ([f0, f1, f2] : List Int).getD (1 : Int).toNat 0 = f1 from rfl]
      refine v_iconst k_Model_isAsItMustBe_48 ?_
      refine v_icgt 62 k_Model_isAsItMustBe_49 rfl (by first | omega | decide) (by first | omega | decide) (fun cd49 => ?_) (fun cd49 => ?_)
      · refine v_iconst k_Model_isAsItMustBe_62 ?_
        refine v_ireturn k_Model_isAsItMustBe_63 rfl (by first | rfl | (split <;> rfl)) ?_
        refine ⟨?_, rfl⟩
        rw [show mbe so f0 f1 notes voices = decide (1 ≤ f1 ∧ f1 ≤ 3 ∧ notes < 12) by unfold mbe; (repeat (first | rw [if_pos (by assumption)] | rw [if_neg (by assumption)]))]
        first
          | rw [if_pos (decide_eq_true (by omega))]
          | rw [if_neg (fun q => by have := of_decide_eq_true q; omega)]
      · refine v_iload_n k_Model_isAsItMustBe_52 rfl ?_
        refine v_bipush k_Model_isAsItMustBe_53 (by decide) ?_
        refine v_icge 62 k_Model_isAsItMustBe_55 rfl (by first | omega | decide) (by first | omega | decide) (fun cd55 => ?_) (fun cd55 => ?_)
        · refine v_iconst k_Model_isAsItMustBe_62 ?_
          refine v_ireturn k_Model_isAsItMustBe_63 rfl (by first | rfl | (split <;> rfl)) ?_
          refine ⟨?_, rfl⟩
          rw [show mbe so f0 f1 notes voices = decide (1 ≤ f1 ∧ f1 ≤ 3 ∧ notes < 12) by unfold mbe; (repeat (first | rw [if_pos (by assumption)] | rw [if_neg (by assumption)]))]
          first
            | rw [if_pos (decide_eq_true (by omega))]
            | rw [if_neg (fun q => by have := of_decide_eq_true q; omega)]
        · refine v_iconst k_Model_isAsItMustBe_58 ?_
          refine v_goto k_Model_isAsItMustBe_59 (tgt := 63) rfl ?_
          refine v_ireturn k_Model_isAsItMustBe_63 rfl (by first | rfl | (split <;> rfl)) ?_
          refine ⟨?_, rfl⟩
          rw [show mbe so f0 f1 notes voices = decide (1 ≤ f1 ∧ f1 ≤ 3 ∧ notes < 12) by unfold mbe; (repeat (first | rw [if_pos (by assumption)] | rw [if_neg (by assumption)]))]
          first
            | rw [if_pos (decide_eq_true (by omega))]
            | rw [if_neg (fun q => by have := of_decide_eq_true q; omega)]
  by_cases g1 : so = 1
  · rw [show (aI so : AV) = aI 1 by rw [g1]]
    refine v_tableIn 64 k_Model_isAsItMustBe_4 (by decide) (by decide) (by decide) (off := 60) rfl rfl ?_
    refine v_aload_n k_Model_isAsItMustBe_64 rfl ?_
    refine v_getf fl_Model_32 ho rfl k_Model_isAsItMustBe_65 ?_
    refine v_iconst k_Model_isAsItMustBe_68 ?_
    refine v_iald cf (by first | omega | decide) (by omega) k_Model_isAsItMustBe_69 ?_
    rw [show ([f0, f1, f2] : List Int).getD (1 : Int).toNat 0 = f1 from rfl]
    refine v_bipush k_Model_isAsItMustBe_70 (by decide) ?_
    refine v_icgt 85 k_Model_isAsItMustBe_72 rfl (by first | omega | decide) (by first | omega | decide) (fun cd72 => ?_) (fun cd72 => ?_)
    · refine v_iconst k_Model_isAsItMustBe_85 ?_
      refine v_ireturn k_Model_isAsItMustBe_86 rfl (by first | rfl | (split <;> rfl)) ?_
      refine ⟨?_, rfl⟩
      rw [show mbe so f0 f1 notes voices = decide (f1 ≤ 60 ∧ voices < 6) by unfold mbe; (repeat (first | rw [if_pos (by assumption)] | rw [if_neg (by assumption)]))]
      first
        | rw [if_pos (decide_eq_true (by omega))]
        | rw [if_neg (fun q => by have := of_decide_eq_true q; omega)]
    · refine v_iload_n k_Model_isAsItMustBe_75 rfl ?_
      refine v_bipush k_Model_isAsItMustBe_76 (by decide) ?_
      refine v_icge 85 k_Model_isAsItMustBe_78 rfl (by first | omega | decide) (by first | omega | decide) (fun cd78 => ?_) (fun cd78 => ?_)
      · refine v_iconst k_Model_isAsItMustBe_85 ?_
        refine v_ireturn k_Model_isAsItMustBe_86 rfl (by first | rfl | (split <;> rfl)) ?_
        refine ⟨?_, rfl⟩
        rw [show mbe so f0 f1 notes voices = decide (f1 ≤ 60 ∧ voices < 6) by unfold mbe; (repeat (first | rw [if_pos (by assumption)] | rw [if_neg (by assumption)]))]
        first
          | rw [if_pos (decide_eq_true (by omega))]
          | rw [if_neg (fun q => by have := of_decide_eq_true q; omega)]
      · refine v_iconst k_Model_isAsItMustBe_81 ?_
        refine v_goto k_Model_isAsItMustBe_82 (tgt := 86) rfl ?_
        refine v_ireturn k_Model_isAsItMustBe_86 rfl (by first | rfl | (split <;> rfl)) ?_
        refine ⟨?_, rfl⟩
        rw [show mbe so f0 f1 notes voices = decide (f1 ≤ 60 ∧ voices < 6) by unfold mbe; (repeat (first | rw [if_pos (by assumption)] | rw [if_neg (by assumption)]))]
        first
          | rw [if_pos (decide_eq_true (by omega))]
          | rw [if_neg (fun q => by have := of_decide_eq_true q; omega)]
  by_cases g2 : so = 2
  · rw [show (aI so : AV) = aI 2 by rw [g2]]
    refine v_tableIn 87 k_Model_isAsItMustBe_4 (by decide) (by decide) (by decide) (off := 83) rfl rfl ?_
    refine v_aload_n k_Model_isAsItMustBe_87 rfl ?_
    refine v_getf fl_Model_32 ho rfl k_Model_isAsItMustBe_88 ?_
    refine v_iconst k_Model_isAsItMustBe_91 ?_
    refine v_iald cf (by first | omega | decide) (by omega) k_Model_isAsItMustBe_92 ?_
    rw [show ([f0, f1, f2] : List Int).getD (0 : Int).toNat 0 = f0 from rfl]
    refine v_iconst k_Model_isAsItMustBe_93 ?_
    refine v_iclt 121 k_Model_isAsItMustBe_94 rfl (by first | omega | decide) (by first | omega | decide) (fun cd94 => ?_) (fun cd94 => ?_)
    · refine v_iconst k_Model_isAsItMustBe_121 ?_
      refine v_ireturn k_Model_isAsItMustBe_122 rfl (by first | rfl | (split <;> rfl)) ?_
      refine ⟨?_, rfl⟩
      rw [show mbe so f0 f1 notes voices = decide ((1 ≤ f0 ∧ f0 ≤ 4) ∧ f1 ≤ 2) by unfold mbe; (repeat (first | rw [if_pos (by assumption)] | rw [if_neg (by assumption)]))]
      first
        | rw [if_pos (decide_eq_true (by omega))]
        | rw [if_neg (fun q => by have := of_decide_eq_true q; omega)]
    · refine v_aload_n k_Model_isAsItMustBe_97 rfl ?_
      refine v_getf fl_Model_32 ho rfl k_Model_isAsItMustBe_98 ?_
      refine v_iconst k_Model_isAsItMustBe_101 ?_
      refine v_iald cf (by first | omega | decide) (by omega) k_Model_isAsItMustBe_102 ?_
      rw [show ([f0, f1, f2] : List Int).getD (0 : Int).toNat 0 = f0 from rfl]
      refine v_iconst k_Model_isAsItMustBe_103 ?_
      refine v_icgt 121 k_Model_isAsItMustBe_104 rfl (by first | omega | decide) (by first | omega | decide) (fun cd104 => ?_) (fun cd104 => ?_)
      · refine v_iconst k_Model_isAsItMustBe_121 ?_
        refine v_ireturn k_Model_isAsItMustBe_122 rfl (by first | rfl | (split <;> rfl)) ?_
        refine ⟨?_, rfl⟩
        rw [show mbe so f0 f1 notes voices = decide ((1 ≤ f0 ∧ f0 ≤ 4) ∧ f1 ≤ 2) by unfold mbe; (repeat (first | rw [if_pos (by assumption)] | rw [if_neg (by assumption)]))]
        first
          | rw [if_pos (decide_eq_true (by omega))]
          | rw [if_neg (fun q => by have := of_decide_eq_true q; omega)]
      · refine v_aload_n k_Model_isAsItMustBe_107 rfl ?_
        refine v_getf fl_Model_32 ho rfl k_Model_isAsItMustBe_108 ?_
        refine v_iconst k_Model_isAsItMustBe_111 ?_
        refine v_iald cf (by first | omega | decide) (by omega) k_Model_isAsItMustBe_112 ?_
        rw [show ([f0, f1, f2] : List Int).getD (1 : Int).toNat 0 = f1 from rfl]
        refine v_iconst k_Model_isAsItMustBe_113 ?_
        refine v_icgt 121 k_Model_isAsItMustBe_114 rfl (by first | omega | decide) (by first | omega | decide) (fun cd114 => ?_) (fun cd114 => ?_)
        · refine v_iconst k_Model_isAsItMustBe_121 ?_
          refine v_ireturn k_Model_isAsItMustBe_122 rfl (by first | rfl | (split <;> rfl)) ?_
          refine ⟨?_, rfl⟩
          rw [show mbe so f0 f1 notes voices = decide ((1 ≤ f0 ∧ f0 ≤ 4) ∧ f1 ≤ 2) by unfold mbe; (repeat (first | rw [if_pos (by assumption)] | rw [if_neg (by assumption)]))]
          first
            | rw [if_pos (decide_eq_true (by omega))]
            | rw [if_neg (fun q => by have := of_decide_eq_true q; omega)]
        · refine v_iconst k_Model_isAsItMustBe_117 ?_
          refine v_goto k_Model_isAsItMustBe_118 (tgt := 122) rfl ?_
          refine v_ireturn k_Model_isAsItMustBe_122 rfl (by first | rfl | (split <;> rfl)) ?_
          refine ⟨?_, rfl⟩
          rw [show mbe so f0 f1 notes voices = decide ((1 ≤ f0 ∧ f0 ≤ 4) ∧ f1 ≤ 2) by unfold mbe; (repeat (first | rw [if_pos (by assumption)] | rw [if_neg (by assumption)]))]
          first
            | rw [if_pos (decide_eq_true (by omega))]
            | rw [if_neg (fun q => by have := of_decide_eq_true q; omega)]
  refine v_tableOut 123 k_Model_isAsItMustBe_4 (by omega) (by omega) rfl ?_
  refine v_aload_n k_Model_isAsItMustBe_123 rfl ?_
  refine v_getf fl_Model_32 ho rfl k_Model_isAsItMustBe_124 ?_
  refine v_iconst k_Model_isAsItMustBe_127 ?_
  refine v_iald cf (by first | omega | decide) (by omega) k_Model_isAsItMustBe_128 ?_
  rw [show ([f0, f1, f2] : List Int).getD (0 : Int).toNat 0 = f0 from rfl]
  refine v_bipush k_Model_isAsItMustBe_129 (by decide) ?_
  refine v_icgt 138 k_Model_isAsItMustBe_131 rfl (by first | omega | decide) (by first | omega | decide) (fun cd131 => ?_) (fun cd131 => ?_)
  · refine v_iconst k_Model_isAsItMustBe_138 ?_
    refine v_ireturn k_Model_isAsItMustBe_139 rfl (by first | rfl | (split <;> rfl)) ?_
    refine ⟨?_, rfl⟩
    rw [show mbe so f0 f1 notes voices = decide (f0 ≤ 6) by unfold mbe; (repeat (first | rw [if_pos (by assumption)] | rw [if_neg (by assumption)]))]
    first
      | rw [if_pos (decide_eq_true (by omega))]
      | rw [if_neg (fun q => by have := of_decide_eq_true q; omega)]
  · refine v_iconst k_Model_isAsItMustBe_134 ?_
    refine v_goto k_Model_isAsItMustBe_135 (tgt := 139) rfl ?_
    refine v_ireturn k_Model_isAsItMustBe_139 rfl (by first | rfl | (split <;> rfl)) ?_
    refine ⟨?_, rfl⟩
    rw [show mbe so f0 f1 notes voices = decide (f0 ≤ 6) by unfold mbe; (repeat (first | rw [if_pos (by assumption)] | rw [if_neg (by assumption)]))]
    first
      | rw [if_pos (decide_eq_true (by omega))]
      | rw [if_neg (fun q => by have := of_decide_eq_true q; omega)]
