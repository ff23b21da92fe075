/-! String constants -/
def sBy (i j : Nat) : Int := ((sByt.getD i []).getD j 0).toInt
theorem sBy_bd : ∀ i, i < 6 → ∀ j, j < 7 → 0 ≤ sBy i j ∧ sBy i j ≤ 127 := by decide +kernel
theorem sLen_bd : ∀ i, i < 6 → 3 ≤ sLen.getD i 0 ∧ sLen.getD i 0 ≤ 7 := by decide +kernel
theorem fs_9 : Cond.fieldLink "java/lang/String" 9 "java/lang/String" "value" "[B" ∈ wsAll := wA 1106 (by decide +kernel) rfl
theorem fs_15 : Cond.fieldLink "java/lang/String" 15 "java/lang/String" "coder" "B" ∈ wsAll := wA 1107 (by decide +kernel) rfl
theorem fs_38 : Cond.fieldLink "java/lang/String" 38 "java/lang/String" "COMPACT_STRINGS" "Z" ∈ wsAll := wA 264 (by decide +kernel) rfl
theorem fs_1053 : Cond.fieldLink "java/lang/String" 1053 "jdk/internal/util/Preconditions" "SIOOBE_FORMATTER" "Ljava/util/function/BiFunction;" ∈ wsAll := wA 280 (by decide +kernel) rfl
theorem Rep.keep {G : Gx} {h : AH} {H : Heap} (hR : Rep G h H) : ∀ a : Nat, a < (gH G).size → ¬ gz G ≤ a → H[a]? = (gH G)[a]? := fun a _ hb => hR.2.2.2.1 a (Nat.not_le.mp hb)
theorem Ad_low {G : Gx} {a : Nat} (h : a < 100) : Ad G a = gS G a := by unfold Ad; rw [if_pos h]
section VSTR
variable {G : Gx} {Y : Yx} {d rc rs pc : Nat} {ls : List (Option AV)} {st : List AV} {h : AH} {F : Option AV → AH → Prop}
theorem v_sval {i : Nat} (hY : Y.1.cls = "java/lang/String") (hi : i < 6) (hd : decode Y.2.1 pc = .ok (.getfield 9, 3)) (K : V G Y d rc rs (pc + 3) ls (aR (7 + i) :: st) h F) : V G Y d rc rs pc ls (aR (1 + i) :: st) h F := by
  intro p l e R s m args below meth c Q hC hE hd1 hl1 H locs cells slots lsC hR hL hc hs hls
  have kk := K p l e R s m args below meth c Q hC hE hd1 hl1 H locs cells slots lsC hR hL hc hs hls
  obtain ⟨hx, hb, -, -, -, hown, -, hts, hKS⟩ := hC
  rw [hY] at hown
  obtain ⟨-, -, -, h4, -⟩ := hKS
  obtain ⟨cf, k, fi, f, cell, h1, h2, h3, h4, h5, h6⟩ := (h4.1 i hi).2.2.1.kept hR.keep
  refine W.getf hx hb hown (hts _ fs_9) h1 h2 (a := Ad G (1 + i)) (by rw [Ad_low (by omega)]; exact h3) h4 (v := cv G (aR (7 + i))) ?_ rfl rfl hd kk
  rw [h5]
  show _ = some (Value.ref (Ad G (7 + i)))
  rw [Ad_low (by omega)]
theorem v_scod {i : Nat} (hY : Y.1.cls = "java/lang/String") (hi : i < 6) (hd : decode Y.2.1 pc = .ok (.getfield 15, 3)) (K : V G Y d rc rs (pc + 3) ls (aI 0 :: st) h F) : V G Y d rc rs pc ls (aR (1 + i) :: st) h F := by
  intro p l e R s m args below meth c Q hC hE hd1 hl1 H locs cells slots lsC hR hL hc hs hls
  have kk := K p l e R s m args below meth c Q hC hE hd1 hl1 H locs cells slots lsC hR hL hc hs hls
  obtain ⟨hx, hb, -, -, -, hown, -, hts, hKS⟩ := hC
  rw [hY] at hown
  obtain ⟨-, -, -, h4, -⟩ := hKS
  obtain ⟨cf, k, fi, f, cell, h1, h2, h3, h4, h5, h6⟩ := (h4.1 i hi).2.1.kept hR.keep
  exact W.getf hx hb hown (hts _ fs_15) h1 h2 (a := Ad G (1 + i)) (by rw [Ad_low (by omega)]; exact h3) h4 (v := cv G (aI 0)) h5 rfl rfl hd kk
theorem v_scs (hY : Y.1.cls = "java/lang/String") (hd : decode Y.2.1 pc = .ok (.getstatic 38, 3)) (K : V G Y d rc rs (pc + 3) ls (aI 1 :: st) h F) : V G Y d rc rs pc ls st h F := by
  intro p l e R s m args below meth c Q hC hE hd1 hl1 H locs cells slots lsC hR hL hc hs hls
  have kk := K p l e R s m args below meth c Q hC hE hd1 hl1 H locs cells slots lsC hR hL hc hs hls
  obtain ⟨hx, hb, -, -, -, hown, -, hts, hKS⟩ := hC
  rw [hY] at hown
  obtain ⟨-, -, -, -, h5, -⟩ := hKS
  obtain ⟨cf, kf, fi, f, a, cell, h1, h2, h3, h4, h5, h6, h7, h8⟩ := h5.kept hR.keep
  exact W.gets hx hb hown (hts _ fs_38) h1 h2 h3 h4 h5 (fun e => by rw [e] at h6; cases h6) (v := cv G (aI 1)) h7 rfl hd kk
theorem v_sfmt (hY : Y.1.cls = "java/lang/String") (hd : decode Y.2.1 pc = .ok (.getstatic 1053, 3)) (K : ∀ v : AV, v = aN ∨ v = aR 13 → V G Y d rc rs (pc + 3) ls (v :: st) h F) : V G Y d rc rs pc ls st h F := by
  intro p l e R s m args below meth c Q hC hE hd1 hl1 H locs cells slots lsC hR hL hc hs hls
  have hC' := hC
  obtain ⟨hx, hb, -, -, -, hown, -, hts, hKS⟩ := hC
  rw [hY] at hown
  obtain ⟨-, -, -, -, -, ⟨v, h5, hv⟩, -⟩ := hKS
  have kk := K v hv p l e R s m args below meth c Q hC' hE hd1 hl1 H locs cells slots lsC hR hL hc hs hls
  obtain ⟨cf, kf, fi, f, a, cell, h1, h2, h3, h4, h5, h6, h7, h8⟩ := h5.kept hR.keep
  exact W.gets hx hb hown (hts _ fs_1053) h1 h2 h3 h4 h5 (fun e => by rw [e] at h6; cases h6) (v := cv G v) h7 rfl hd kk
theorem v_sblen {i : Nat} (hi : i < 6) (hd : decode Y.2.1 pc = .ok (.arraylength, 1)) (K : V G Y d rc rs (pc + 1) ls (aI ((sLen.getD i 0 : Nat) : Int) :: st) h F) : V G Y d rc rs pc ls (aR (7 + i) :: st) h F := by
  intro p l e R s m args below meth c Q hC hE hd1 hl1 H locs cells slots lsC hR hL hc hs hls
  have kk := K p l e R s m args below meth c Q hC hE hd1 hl1 H locs cells slots lsC hR hL hc hs hls
  obtain ⟨hx, hb, -, -, -, hown, -, hts, hKS⟩ := hC
  obtain ⟨-, -, -, h4, -⟩ := hKS
  obtain ⟨cell, h1, h2, h3, h4, h5, h6, h7⟩ := (h4.1 i hi).2.2.2.kept hR.keep
  exact W.alen (a := Ad G (7 + i)) (n := Int32.ofInt ((sLen.getD i 0 : Nat) : Int)) hx hb (by rw [Ad_low (by omega)]; exact h1) h2 (by rw [h5, Int32.ofInt_eq_ofNat]) rfl rfl hd kk
theorem v_sbald {i : Nat} {j : Int} (hi : i < 6) (hj : 0 ≤ j ∧ j < (sLen.getD i 0 : Nat)) (hd : decode Y.2.1 pc = .ok (.baload, 1)) (K : V G Y d rc rs (pc + 1) ls (aI (sBy i j.toNat) :: st) h F) : V G Y d rc rs pc ls (aI j :: aR (7 + i) :: st) h F := by
  intro p l e R s m args below meth c Q hC hE hd1 hl1 H locs cells slots lsC hR hL hc hs hls
  have kk := K p l e R s m args below meth c Q hC hE hd1 hl1 H locs cells slots lsC hR hL hc hs hls
  obtain ⟨hx, hb, -, -, -, hown, -, hts, hKS⟩ := hC
  obtain ⟨-, -, -, h4, -⟩ := hKS
  obtain ⟨cell, h1, h2, h3, h4, h5, h6, h7⟩ := (h4.1 i hi).2.2.2.kept hR.keep
  have hb7 := (sLen_bd i hi).2
  have hn : (Int32.ofInt j).toNatClampNeg = j.toNat := oi_nat hj.1 (by omega)
  refine W.bald (a := Ad G (7 + i)) (v := .int (Int32.ofInt (sBy i j.toNat))) hx hb (by rw [Ad_low (by omega)]; exact h1) h2 h3 ?_ ?_ rfl rfl hd kk
  · rw [hn]
    rintro (q | q)
    · have := (oi_lt (y := 0) ⟨by omega, by omega⟩ InR0).mp q; omega
    · omega
  · rw [hn, h6 _ (by omega), sBy, oi_self]
theorem v_callT {Y' : Yx} {d' n idx i : Nat} {as stk : List AV} {v0 : Option AV} (hi6 : i < 6) (hm : MOK Y' n) (hi : MI Y') (hv : MV Y') (hk : LK Y.1.cls idx Y') (hd : decode Y.2.1 pc = .ok (.invokevirtual idx, 3))
    (hcl : Y'.1.cls = "java/lang/String") (hn : as.length = n) (hc : catS st ≤ 8) (hst : stk = as.reverse ++ aR (1 + i) :: st) (hd' : d' + 1 ≤ d) (C : Ct G Y' d' 0 0 (aR (1 + i) :: as) h (isR v0 h))
    (K0 : V G Y d rc rs (pc + 3) ls (v0.toList ++ st) h F) : V G Y d rc rs pc ls stk h F := by
  intro p l e R s m args below meth c Q hC hE hd1 hl1 H locs cells slots lsC hR hL hc1 hs1 hls
  have K : ∀ v h', isR v0 h v h' → V G Y d rc rs (pc + 3) ls (v.toList ++ st) h' F := fun v h' q => by obtain ⟨rfl, rfl⟩ := q; exact K0
  have hC' := hC
  obtain ⟨hx, hb, hml, -, -, hown, -, hts, hKS⟩ := hC
  subst hst
  have hfix : CallFix p m c Y.2.1 Y.2.2.1 s args wsAll Y.1.cls := ⟨hx, hb, hml, hown, hts⟩
  have hrecv : ∃ cell : Cell, H[Ad G (1 + i)]? = some cell ∧ cell.vm.isStatics = false ∧ s.vm.findClass Y'.1.cls = some cell.cls := by
    obtain ⟨cell, h1, h2, h3, -⟩ := (hKS.2.2.2.1.1 i hi6).1.kept hR.keep
    exact ⟨cell, by rw [Ad_low (by omega)]; exact h1, h2, by rw [hcl]; exact h3⟩
  have hpre : PreV s H Y'.1.cls (Ad G (1 + i)) (Pcx G (aR (1 + i) :: as) h) (cS G as) := ⟨Pcx_blind, hrecv, fun U hU hW => ⟨rfl, by rw [hU]; exact hR, hKS.warm hW⟩⟩
  have hroom : (rmx d' 0 0).frames + 1 ≤ R.frames ∧ 8 + (Y'.2.2.1 + 11) + (rmx d' 0 0).locals ≤ R.locals := by
    have h19 := hm.2.2.2.2
    refine ⟨?_, ?_⟩
    · show d' + 1 ≤ R.frames; omega
    · show 8 + (Y'.2.2.1 + 11) + 38 * d' ≤ R.locals; omega
  have hstk : (F0 m pc lsC (cS G (as.reverse ++ aR (1 + i) :: st))).stack = (cS G as).reverse ++ Value.ref (Ad G (1 + i)) :: cS G st := by
    show cS G (as.reverse ++ aR (1 + i) :: st) = _
    rw [cS_app, cS_rev]; rfl
  have hW8 : 2 * (F0 m pc lsC (cS G (as.reverse ++ aR (1 + i) :: st))).monitorRoom + ((cS G st).map fun v => v.category).sum ≤ 8 := lv_room (by rw [catS_cS]; exact hc)
  have hlen : (cS G as).length = n := by rw [cS_len]; exact hn
  rcases hk with hk | ⟨host, hk⟩
  · exact v_back (mc := 0) (ms := 0) rfl K hC' hE hd1 hl1 hL (by omega) (by omega) hls (va_runV hfix (C l) ⟨callB_of n hts (good_x hm) rfl rfl rfl (hts _ hm.2.1) (hts _ hk) hm.2.2.1 hroom, hts _ hi, hts _ hv⟩ hpre rfl hlen hls.1 hstk hW8 hd ⟨by omega, by omega⟩)
  · exact v_back (mc := 0) (ms := 0) rfl K hC' hE hd1 hl1 hL (by omega) (by omega) hls (va_runVN hfix (C l) ⟨va_cnB n hts (good_x hm) rfl rfl rfl (hKS.2.1 _ hk) (hts _ hm.2.1) hm.2.2.1 hroom, hts _ hi, hts _ hv⟩ hpre rfl hlen hls.1 hstk hW8 hd ⟨by omega, by omega⟩)
end VSTR
theorem narrow_chr {x : Int} (hx : 0 ≤ x ∧ x ≤ 65535) : narrow .char (.int (Int32.ofInt x)) = .int (Int32.ofInt x) := by
  show Value.int (Int32.ofInt x).toUInt32.toUInt16.toUInt32.toInt32 = _
  congr 1
  rw [UInt32.toUInt32_toUInt16, oi_nat' hx.1]
  have hn : x.toNat ≤ 65535 := by omega
  generalize x.toNat = n at hn ⊢
  apply Int32.toBitVec.inj
  apply BitVec.eq_of_toNat_eq
  show (UInt32.ofNat n % 65536).toNat = (BitVec.ofNat 32 n).toNat
  rw [UInt32.toNat_mod, UInt32.toNat_ofNat', BitVec.toNat_ofNat]
  show n % 4294967296 % 65536 = n % 4294967296
  omega
set_option maxHeartbeats 4000000 in
set_option maxRecDepth 20000 in
theorem c_String_coder (G : Gx) {h : AH} {i : Nat} (hi : i < 6) : Ct G Y_String_coder 0 0 0 [aR (1 + i)] h (isR (some (aI 0)) h) := by
  refine Ct.of_V mo_String_coder rfl (Nat.le_of_ble_eq_true rfl) rfl ?_
  refine v_scs rfl k_String_coder_0 ?_
  refine v_ifeq 13 k_String_coder_3 rfl (by omega) (fun c3 => ?_) (fun c3 => ?_)
  · exfalso; omega
  · refine v_aload_n k_String_coder_6 rfl ?_
    refine v_scod rfl hi k_String_coder_7 ?_
    refine v_goto k_String_coder_10 (tgt := 14) rfl ?_
    refine v_ireturn k_String_coder_14 rfl (by first | rfl | (split <;> rfl)) ?_
    exact ⟨rfl, rfl⟩

set_option maxHeartbeats 4000000 in
set_option maxRecDepth 20000 in
theorem c_String_isLatin1 (G : Gx) {h : AH} {i : Nat} (hi : i < 6) : Ct G Y_String_isLatin1 0 0 0 [aR (1 + i)] h (isR (some (aI 1)) h) := by
  refine Ct.of_V mo_String_isLatin1 rfl (Nat.le_of_ble_eq_true rfl) rfl ?_
  refine v_scs rfl k_String_isLatin1_0 ?_
  refine v_ifeq 17 k_String_isLatin1_3 rfl (by omega) (fun c3 => ?_) (fun c3 => ?_)
  · exfalso; omega
  · refine v_aload_n k_String_isLatin1_6 rfl ?_
    refine v_scod rfl hi k_String_isLatin1_7 ?_
    refine v_ifne 17 k_String_isLatin1_10 rfl (by omega) (fun c10 => ?_) (fun c10 => ?_)
    · exfalso; omega
    · refine v_iconst k_String_isLatin1_13 ?_
      refine v_goto k_String_isLatin1_14 (tgt := 18) rfl ?_
      refine v_ireturn k_String_isLatin1_18 rfl (rfl) ?_
      exact ⟨rfl, rfl⟩

set_option maxHeartbeats 4000000 in
set_option maxRecDepth 20000 in
theorem c_String_length (G : Gx) {h : AH} {i : Nat} (hi : i < 6) : Ct G Y_String_length 1 0 0 [aR (1 + i)] h (isR (some (aI ((sLen.getD i 0 : Nat) : Int))) h) := by
  have hb7 := sLen_bd i hi
  refine Ct.of_V mo_String_length rfl (Nat.le_of_ble_eq_true rfl) rfl ?_
  refine v_aload_n k_String_length_0 rfl ?_
  refine v_sval rfl hi k_String_length_1 ?_
  refine v_sblen hi k_String_length_4 ?_
  refine v_aload_n k_String_length_5 rfl ?_
  refine v_callT hi mo_String_coder mi_String_coder mv_String_coder lk_String_335 k_String_length_6 rfl rfl (Nat.le_of_ble_eq_true rfl) rfl (Nat.le_of_ble_eq_true rfl) (c_String_coder G hi) ?_
  refine v_ishr k_String_length_9 (by omega) (by decide) ?_
  refine v_ireturn k_String_length_10 rfl rfl ?_
  exact ⟨by rw [show ((2 ^ (0 : Int).toNat : Nat) : Int) = 1 from rfl, Int.ediv_one], rfl⟩

set_option maxHeartbeats 4000000 in
set_option maxRecDepth 20000 in
theorem c_Precond_checkIndex (G : Gx) {h : AH} {i n : Int} (hi : 0 ≤ i ∧ i < n) (hn : n ≤ 100) {v : AV} (hv : v = aN ∨ v = aR 13) : Ct G Y_Precond_checkIndex 0 0 0 [aI i, aI n, v] h (isR (some (aI i)) h) := by
  have hnl : noL [aI i, aI n, v] = true := by rcases hv with rfl | rfl <;> rfl
  refine Ct.of_V mo_Precond_checkIndex hnl (Nat.le_of_ble_eq_true rfl) rfl ?_
  refine v_iload_n k_Precond_checkIndex_0 rfl ?_
  refine v_iflt 9 k_Precond_checkIndex_1 rfl (by omega) (fun c1 => ?_) (fun c1 => ?_)
  · exfalso; omega
  · refine v_iload_n k_Precond_checkIndex_4 rfl ?_
    refine v_iload_n k_Precond_checkIndex_5 rfl ?_
    refine v_iclt 16 k_Precond_checkIndex_6 rfl (by omega) (by omega) (fun c6 => ?_) (fun c6 => ?_)
    · refine v_iload_n k_Precond_checkIndex_16 rfl ?_
      refine v_ireturn k_Precond_checkIndex_17 rfl rfl ?_
      exact ⟨rfl, rfl⟩
    · exfalso; omega

set_option maxHeartbeats 4000000 in
set_option maxRecDepth 20000 in
theorem c_String_checkIndex (G : Gx) {h : AH} {i n : Int} (hi : 0 ≤ i ∧ i < n) (hn : n ≤ 100) : Ct G Y_String_checkIndex 1 0 0 [aI i, aI n] h (isR none h) := by
  refine Ct.of_V mo_String_checkIndex rfl (Nat.le_of_ble_eq_true rfl) rfl ?_
  refine v_iload_n k_String_checkIndex_0 rfl ?_
  refine v_iload_n k_String_checkIndex_1 rfl ?_
  refine v_sfmt rfl k_String_checkIndex_2 (fun v hv => ?_)
  refine v_callSr mo_Precond_checkIndex ms_Precond_checkIndex lk_String_1059 k_String_checkIndex_5 rfl (Nat.le_of_ble_eq_true rfl) rfl (Nat.le_of_ble_eq_true rfl) (c_Precond_checkIndex G hi hn hv) ?_
  refine v_pop k_String_checkIndex_8 rfl ?_
  refine v_return k_String_checkIndex_9 rfl ?_
  exact ⟨rfl, rfl⟩

set_option maxHeartbeats 4000000 in
set_option maxRecDepth 20000 in
theorem c_Latin1_charAt (G : Gx) {h : AH} {i : Nat} (hi : i < 6) {j : Int} (hj : 0 ≤ j ∧ j < (sLen.getD i 0 : Nat)) : Ct G Y_Latin1_charAt 2 0 0 [aR (7 + i), aI j] h (isR (some (aI (sBy i j.toNat))) h) := by
  have hb7 := sLen_bd i hi
  have hby := sBy_bd i hi j.toNat (by omega)
  refine Ct.of_V mo_Latin1_charAt rfl (Nat.le_of_ble_eq_true rfl) rfl ?_
  refine v_iload_n k_Latin1_charAt_0 rfl ?_
  refine v_aload_n k_Latin1_charAt_1 rfl ?_
  refine v_sblen hi k_Latin1_charAt_2 ?_
  refine v_callSr mo_String_checkIndex ms_String_checkIndex lk_Latin1_9 k_Latin1_charAt_3 rfl (Nat.le_of_ble_eq_true rfl) rfl (Nat.le_of_ble_eq_true rfl) (c_String_checkIndex G hj (by omega)) ?_
  refine v_aload_n k_Latin1_charAt_6 rfl ?_
  refine v_iload_n k_Latin1_charAt_7 rfl ?_
  refine v_sbald hi hj k_Latin1_charAt_8 ?_
  refine v_sipush k_Latin1_charAt_9 (by decide) ?_
  refine v_mask 8 k_Latin1_charAt_12 (by decide) rfl ?_
  rw [show sBy i j.toNat % ((2 ^ 8 : Nat) : Int) = sBy i j.toNat from Int.emod_eq_of_lt hby.1 (by omega)]
  refine v_i2c k_Latin1_charAt_13 (by omega) ?_
  refine v_ireturn k_Latin1_charAt_14 rfl (by rw [narrow_chr (by omega)]) ?_
  exact ⟨rfl, rfl⟩

set_option maxHeartbeats 4000000 in
set_option maxRecDepth 20000 in
theorem c_String_charAt (G : Gx) {h : AH} {i : Nat} (hi : i < 6) {j : Int} (hj : 0 ≤ j ∧ j < (sLen.getD i 0 : Nat)) : Ct G Y_String_charAt 3 0 0 [aR (1 + i), aI j] h (isR (some (aI (sBy i j.toNat))) h) := by
  have hb7 := sLen_bd i hi
  have hby := sBy_bd i hi j.toNat (by omega)
  refine Ct.of_V mo_String_charAt rfl (Nat.le_of_ble_eq_true rfl) rfl ?_
  refine v_aload_n k_String_charAt_0 rfl ?_
  refine v_callT hi mo_String_isLatin1 mi_String_isLatin1 mv_String_isLatin1 lk_String_492 k_String_charAt_1 rfl rfl (Nat.le_of_ble_eq_true rfl) rfl (Nat.le_of_ble_eq_true rfl) (c_String_isLatin1 G hi) ?_
  refine v_ifeq 16 k_String_charAt_4 rfl (by omega) (fun c4 => ?_) (fun c4 => ?_)
  · exfalso; omega
  · refine v_aload_n k_String_charAt_7 rfl ?_
    refine v_sval rfl hi k_String_charAt_8 ?_
    refine v_iload_n k_String_charAt_11 rfl ?_
    refine v_callSr mo_Latin1_charAt ms_Latin1_charAt lk_String_495 k_String_charAt_12 rfl (Nat.le_of_ble_eq_true rfl) rfl (Nat.le_of_ble_eq_true rfl) (c_Latin1_charAt G hi hj) ?_
    refine v_ireturn k_String_charAt_15 rfl (by rw [narrow_chr (by omega)]) ?_
    exact ⟨rfl, rfl⟩
