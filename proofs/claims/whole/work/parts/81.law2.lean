/-! one call after another -/
set_option maxHeartbeats 1000000 in
set_option maxRecDepth 20000 in
theorem law_0 (G : Gx) (nm : String) (hL : gL G ≤ 1536) (rc rs i : Nat) (S : St) (h : AH) (hi : (i : Int) + 3 ≤ gL G) (hp : pMain h 100 S) (hm : pMS h 173 S) (w : wSt S) (hz : 184 ≤ h.1) (back : ∀ (S' : St) (h' : AH), pMain h' 100 S' → pMS h' 173 S' → wSt S' → 184 ≤ h'.1 → V G (Y_Law nm) 11 rc rs 869 [some (aR 0), some (aR 100), some (aR 173), some (aI (i : Int))] [] h' (fun v _ => v = some (aI 1))) : V G (Y_Law nm) 11 rc rs 168 [some (aR 0), some (aR 100), some (aR 173), some (aI (i : Int))] [] h (fun v _ => v = some (aI 1)) := by
  refine v_aload_n k_Law_law_168 rfl ?_
  refine v_aload_n k_Law_law_169 rfl ?_
  refine v_iload_n k_Law_law_170 rfl ?_
  refine v_iconst k_Law_law_171 ?_
  refine v_iadd k_Law_law_172 ?_
  refine v_sld (by omega) rfl k_Law_law_173 ?_
  refine v_callV (rc := rc) (rs := rs) (mc := 0) (ms := 0) mo_Main_letter mi_Main_letter mv_Main_letter lk_Law_13 k_Law_law_174 hp.1 rfl rfl (Nat.le_of_ble_eq_true rfl) rfl (Nat.le_of_ble_eq_true rfl) (c_Main_letter G hp w (InR_toInt _)) (fun v174 h174 q174 => ?_)
  obtain ⟨rfl, hp, f1⟩ := q174
  have hm := hm.fr f1 (Or.inr (Nat.le_refl _))
  have hz := Nat.le_trans hz (Nat.le_of_eq f1.1.symm)
  obtain ⟨_, hob⟩ := hm.obj
  refine v_aload_n k_Law_law_177 rfl ?_
  refine v_aload_n k_Law_law_178 rfl ?_
  refine v_iload_n k_Law_law_179 rfl ?_
  refine v_iconst k_Law_law_180 ?_
  refine v_iadd k_Law_law_181 ?_
  refine v_sld (by omega) rfl k_Law_law_182 ?_
  refine v_callV (rc := rc) (rs := rs) (mc := 0) (ms := 0) mo_Model_letter mi_Model_letter mv_Model_letter lk_Law_17 k_Law_law_183 hob rfl rfl (Nat.le_of_ble_eq_true rfl) rfl (Nat.le_of_ble_eq_true rfl) (c_Model_letter G hm w (InR_toInt _)) (fun v183 h183 q183 => ?_)
  obtain ⟨rfl, hm, f2⟩ := q183
  have hp := hp.fr f2 (Or.inl (by omega))
  have hz := Nat.le_trans hz (Nat.le_of_eq f2.1.symm)
  refine v_iceq_same 869 k_Law_law_186 rfl ?_
  exact back _ _ hp hm (w_letter w _) hz
set_option maxHeartbeats 1000000 in
set_option maxRecDepth 20000 in
theorem law_1 (G : Gx) (nm : String) (hL : gL G ≤ 1536) (rc rs i : Nat) (S : St) (h : AH) (hi : (i : Int) + 3 ≤ gL G) (hp : pMain h 100 S) (hm : pMS h 173 S) (w : wSt S) (hz : 184 ≤ h.1) (back : ∀ (S' : St) (h' : AH), pMain h' 100 S' → pMS h' 173 S' → wSt S' → 184 ≤ h'.1 → V G (Y_Law nm) 11 rc rs 869 [some (aR 0), some (aR 100), some (aR 173), some (aI (i : Int))] [] h' (fun v _ => v = some (aI 1))) : V G (Y_Law nm) 11 rc rs 191 [some (aR 0), some (aR 100), some (aR 173), some (aI (i : Int))] [] h (fun v _ => v = some (aI 1)) := by
  refine v_aload_n k_Law_law_191 rfl ?_
  refine v_callV (rc := rc) (rs := rs) (mc := 0) (ms := 0) mo_Main_canon mi_Main_canon mv_Main_canon lk_Law_18 k_Law_law_192 hp.1 rfl rfl (Nat.le_of_ble_eq_true rfl) rfl (Nat.le_of_ble_eq_true rfl) (c_Main_canon G hp w) (fun v192 h192 q192 => ?_)
  obtain ⟨rfl, hp, f1⟩ := q192
  have hm := hm.fr f1 (Or.inr (Nat.le_refl _))
  have hz := Nat.le_trans hz (Nat.le_of_eq f1.1.symm)
  obtain ⟨_, hob⟩ := hm.obj
  refine v_aload_n k_Law_law_195 rfl ?_
  refine v_callV (rc := rc) (rs := rs) (mc := 0) (ms := 0) mo_Model_canon mi_Model_canon mv_Model_canon lk_Law_22 k_Law_law_196 hob rfl rfl (Nat.le_of_ble_eq_true rfl) rfl (Nat.le_of_ble_eq_true rfl) (c_Model_canon G hm w) (fun v196 h196 q196 => ?_)
  obtain ⟨rfl, hm, f2⟩ := q196
  have hp := hp.fr f2 (Or.inl (by omega))
  have hz := Nat.le_trans hz (Nat.le_of_eq f2.1.symm)
  refine v_iceq_same 869 k_Law_law_199 rfl ?_
  exact back _ _ hp hm (w_canon w) hz
set_option maxHeartbeats 1000000 in
set_option maxRecDepth 20000 in
theorem law_2 (G : Gx) (nm : String) (hL : gL G ≤ 1536) (rc rs i : Nat) (S : St) (h : AH) (hi : (i : Int) + 3 ≤ gL G) (hp : pMain h 100 S) (hm : pMS h 173 S) (w : wSt S) (hz : 184 ≤ h.1) (back : ∀ (S' : St) (h' : AH), pMain h' 100 S' → pMS h' 173 S' → wSt S' → 184 ≤ h'.1 → V G (Y_Law nm) 11 rc rs 869 [some (aR 0), some (aR 100), some (aR 173), some (aI (i : Int))] [] h' (fun v _ => v = some (aI 1))) : V G (Y_Law nm) 11 rc rs 204 [some (aR 0), some (aR 100), some (aR 173), some (aI (i : Int))] [] h (fun v _ => v = some (aI 1)) := by
  refine v_aload_n k_Law_law_204 rfl ?_
  refine v_aload_n k_Law_law_205 rfl ?_
  refine v_iload_n k_Law_law_206 rfl ?_
  refine v_iconst k_Law_law_207 ?_
  refine v_iadd k_Law_law_208 ?_
  refine v_sld (by omega) rfl k_Law_law_209 ?_
  refine v_aload_n k_Law_law_210 rfl ?_
  refine v_iload_n k_Law_law_211 rfl ?_
  refine v_iconst k_Law_law_212 ?_
  refine v_iadd k_Law_law_213 ?_
  refine v_sld (by omega) rfl k_Law_law_214 ?_
  refine v_callV (rc := rc) (rs := rs) (mc := 0) (ms := 0) mo_Main_note mi_Main_note mv_Main_note lk_Law_23 k_Law_law_215 hp.1 rfl rfl (Nat.le_of_ble_eq_true rfl) rfl (Nat.le_of_ble_eq_true rfl) (c_Main_note G hp w (InR_toInt _) (InR_toInt _)) (fun v215 h215 q215 => ?_)
  obtain ⟨rfl, hp, f1⟩ := q215
  have hm := hm.fr f1 (Or.inr (Nat.le_refl _))
  have hz := Nat.le_trans hz (Nat.le_of_eq f1.1.symm)
  obtain ⟨_, hob⟩ := hm.obj
  refine v_aload_n k_Law_law_218 rfl ?_
  refine v_aload_n k_Law_law_219 rfl ?_
  refine v_iload_n k_Law_law_220 rfl ?_
  refine v_iconst k_Law_law_221 ?_
  refine v_iadd k_Law_law_222 ?_
  refine v_sld (by omega) rfl k_Law_law_223 ?_
  refine v_aload_n k_Law_law_224 rfl ?_
  refine v_iload_n k_Law_law_225 rfl ?_
  refine v_iconst k_Law_law_226 ?_
  refine v_iadd k_Law_law_227 ?_
  refine v_sld (by omega) rfl k_Law_law_228 ?_
  refine v_callV (rc := rc) (rs := rs) (mc := 0) (ms := 0) mo_Model_note mi_Model_note mv_Model_note lk_Law_27 k_Law_law_229 hob rfl rfl (Nat.le_of_ble_eq_true rfl) rfl (Nat.le_of_ble_eq_true rfl) (c_Model_note G hm w (InR_toInt _) (InR_toInt _)) (fun v229 h229 q229 => ?_)
  obtain ⟨rfl, hm, f2⟩ := q229
  have hp := hp.fr f2 (Or.inl (by omega))
  have hz := Nat.le_trans hz (Nat.le_of_eq f2.1.symm)
  refine v_iceq_same 869 k_Law_law_232 rfl ?_
  exact back _ _ hp hm (w_note w _ _) hz
set_option maxHeartbeats 1000000 in
set_option maxRecDepth 20000 in
theorem law_3 (G : Gx) (nm : String) (hL : gL G ≤ 1536) (rc rs i : Nat) (S : St) (h : AH) (hi : (i : Int) + 3 ≤ gL G) (hp : pMain h 100 S) (hm : pMS h 173 S) (w : wSt S) (hz : 184 ≤ h.1) (back : ∀ (S' : St) (h' : AH), pMain h' 100 S' → pMS h' 173 S' → wSt S' → 184 ≤ h'.1 → V G (Y_Law nm) 11 rc rs 869 [some (aR 0), some (aR 100), some (aR 173), some (aI (i : Int))] [] h' (fun v _ => v = some (aI 1))) : V G (Y_Law nm) 11 rc rs 237 [some (aR 0), some (aR 100), some (aR 173), some (aI (i : Int))] [] h (fun v _ => v = some (aI 1)) := by
  refine v_aload_n k_Law_law_237 rfl ?_
  refine v_aload_n k_Law_law_238 rfl ?_
  refine v_iload_n k_Law_law_239 rfl ?_
  refine v_iconst k_Law_law_240 ?_
  refine v_iadd k_Law_law_241 ?_
  refine v_sld (by omega) rfl k_Law_law_242 ?_
  refine v_aload_n k_Law_law_243 rfl ?_
  refine v_iload_n k_Law_law_244 rfl ?_
  refine v_iconst k_Law_law_245 ?_
  refine v_iadd k_Law_law_246 ?_
  refine v_sld (by omega) rfl k_Law_law_247 ?_
  refine v_callV (rc := rc) (rs := rs) (mc := 0) (ms := 0) mo_Main_voice mi_Main_voice mv_Main_voice lk_Law_28 k_Law_law_248 hp.1 rfl rfl (Nat.le_of_ble_eq_true rfl) rfl (Nat.le_of_ble_eq_true rfl) (c_Main_voice G hp w (InR_toInt _) (InR_toInt _)) (fun v248 h248 q248 => ?_)
  obtain ⟨rfl, hp, f1⟩ := q248
  have hm := hm.fr f1 (Or.inr (Nat.le_refl _))
  have hz := Nat.le_trans hz (Nat.le_of_eq f1.1.symm)
  obtain ⟨_, hob⟩ := hm.obj
  refine v_aload_n k_Law_law_251 rfl ?_
  refine v_aload_n k_Law_law_252 rfl ?_
  refine v_iload_n k_Law_law_253 rfl ?_
  refine v_iconst k_Law_law_254 ?_
  refine v_iadd k_Law_law_255 ?_
  refine v_sld (by omega) rfl k_Law_law_256 ?_
  refine v_aload_n k_Law_law_257 rfl ?_
  refine v_iload_n k_Law_law_258 rfl ?_
  refine v_iconst k_Law_law_259 ?_
  refine v_iadd k_Law_law_260 ?_
  refine v_sld (by omega) rfl k_Law_law_261 ?_
  refine v_callV (rc := rc) (rs := rs) (mc := 0) (ms := 0) mo_Model_voice mi_Model_voice mv_Model_voice lk_Law_31 k_Law_law_262 hob rfl rfl (Nat.le_of_ble_eq_true rfl) rfl (Nat.le_of_ble_eq_true rfl) (c_Model_voice G hm w (InR_toInt _) (InR_toInt _)) (fun v262 h262 q262 => ?_)
  obtain ⟨rfl, hm, f2⟩ := q262
  have hp := hp.fr f2 (Or.inl (by omega))
  have hz := Nat.le_trans hz (Nat.le_of_eq f2.1.symm)
  refine v_iceq_same 869 k_Law_law_265 rfl ?_
  exact back _ _ hp hm (w_voice w _ _) hz
set_option maxHeartbeats 1000000 in
set_option maxRecDepth 20000 in
theorem law_4 (G : Gx) (nm : String) (hL : gL G ≤ 1536) (rc rs i : Nat) (S : St) (h : AH) (hi : (i : Int) + 3 ≤ gL G) (hp : pMain h 100 S) (hm : pMS h 173 S) (w : wSt S) (hz : 184 ≤ h.1) (back : ∀ (S' : St) (h' : AH), pMain h' 100 S' → pMS h' 173 S' → wSt S' → 184 ≤ h'.1 → V G (Y_Law nm) 11 rc rs 869 [some (aR 0), some (aR 100), some (aR 173), some (aI (i : Int))] [] h' (fun v _ => v = some (aI 1))) : V G (Y_Law nm) 11 rc rs 270 [some (aR 0), some (aR 100), some (aR 173), some (aI (i : Int))] [] h (fun v _ => v = some (aI 1)) := by
  refine v_aload_n k_Law_law_270 rfl ?_
  refine v_aload_n k_Law_law_271 rfl ?_
  refine v_iload_n k_Law_law_272 rfl ?_
  refine v_iconst k_Law_law_273 ?_
  refine v_iadd k_Law_law_274 ?_
  refine v_sld (by omega) rfl k_Law_law_275 ?_
  refine v_aload_n k_Law_law_276 rfl ?_
  refine v_iload_n k_Law_law_277 rfl ?_
  refine v_iconst k_Law_law_278 ?_
  refine v_iadd k_Law_law_279 ?_
  refine v_sld (by omega) rfl k_Law_law_280 ?_
  refine v_callV (rc := rc) (rs := rs) (mc := 0) (ms := 0) mo_Main_pitch mi_Main_pitch mv_Main_pitch lk_Law_32 k_Law_law_281 hp.1 rfl rfl (Nat.le_of_ble_eq_true rfl) rfl (Nat.le_of_ble_eq_true rfl) (c_Main_pitch G hp w (InR_toInt _) (InR_toInt _)) (fun v281 h281 q281 => ?_)
  obtain ⟨rfl, hp, f1⟩ := q281
  have hm := hm.fr f1 (Or.inr (Nat.le_refl _))
  have hz := Nat.le_trans hz (Nat.le_of_eq f1.1.symm)
  obtain ⟨_, hob⟩ := hm.obj
  refine v_aload_n k_Law_law_284 rfl ?_
  refine v_aload_n k_Law_law_285 rfl ?_
  refine v_iload_n k_Law_law_286 rfl ?_
  refine v_iconst k_Law_law_287 ?_
  refine v_iadd k_Law_law_288 ?_
  refine v_sld (by omega) rfl k_Law_law_289 ?_
  refine v_aload_n k_Law_law_290 rfl ?_
  refine v_iload_n k_Law_law_291 rfl ?_
  refine v_iconst k_Law_law_292 ?_
  refine v_iadd k_Law_law_293 ?_
  refine v_sld (by omega) rfl k_Law_law_294 ?_
  refine v_callV (rc := rc) (rs := rs) (mc := 0) (ms := 0) mo_Model_pitch mi_Model_pitch mv_Model_pitch lk_Law_35 k_Law_law_295 hob rfl rfl (Nat.le_of_ble_eq_true rfl) rfl (Nat.le_of_ble_eq_true rfl) (c_Model_pitch G hm w (InR_toInt _) (InR_toInt _)) (fun v295 h295 q295 => ?_)
  obtain ⟨rfl, hm, f2⟩ := q295
  have hp := hp.fr f2 (Or.inl (by omega))
  have hz := Nat.le_trans hz (Nat.le_of_eq f2.1.symm)
  refine v_iceq_same 869 k_Law_law_298 rfl ?_
  exact back _ _ hp hm (w_pitch w _ _) hz
set_option maxHeartbeats 1000000 in
set_option maxRecDepth 20000 in
theorem law_5 (G : Gx) (nm : String) (hL : gL G ≤ 1536) (rc rs i : Nat) (S : St) (h : AH) (hi : (i : Int) + 3 ≤ gL G) (hp : pMain h 100 S) (hm : pMS h 173 S) (w : wSt S) (hz : 184 ≤ h.1) (back : ∀ (S' : St) (h' : AH), pMain h' 100 S' → pMS h' 173 S' → wSt S' → 184 ≤ h'.1 → V G (Y_Law nm) 11 rc rs 869 [some (aR 0), some (aR 100), some (aR 173), some (aI (i : Int))] [] h' (fun v _ => v = some (aI 1))) : V G (Y_Law nm) 11 rc rs 303 [some (aR 0), some (aR 100), some (aR 173), some (aI (i : Int))] [] h (fun v _ => v = some (aI 1)) := by
  refine v_aload_n k_Law_law_303 rfl ?_
  refine v_aload_n k_Law_law_304 rfl ?_
  refine v_iload_n k_Law_law_305 rfl ?_
  refine v_iconst k_Law_law_306 ?_
  refine v_iadd k_Law_law_307 ?_
  refine v_sld (by omega) rfl k_Law_law_308 ?_
  refine v_aload_n k_Law_law_309 rfl ?_
  refine v_iload_n k_Law_law_310 rfl ?_
  refine v_iconst k_Law_law_311 ?_
  refine v_iadd k_Law_law_312 ?_
  refine v_sld (by omega) rfl k_Law_law_313 ?_
  refine v_callV (rc := rc) (rs := rs) (mc := 0) (ms := 0) mo_Main_enter mi_Main_enter mv_Main_enter lk_Law_36 k_Law_law_314 hp.1 rfl rfl (Nat.le_of_ble_eq_true rfl) rfl (Nat.le_of_ble_eq_true rfl) (c_Main_enter G hp w (InR_toInt _) (InR_toInt _)) (fun v314 h314 q314 => ?_)
  obtain ⟨rfl, hp, f1⟩ := q314
  have hm := hm.fr f1 (Or.inr (Nat.le_refl _))
  have hz := Nat.le_trans hz (Nat.le_of_eq f1.1.symm)
  obtain ⟨_, hob⟩ := hm.obj
  refine v_aload_n k_Law_law_317 rfl ?_
  refine v_aload_n k_Law_law_318 rfl ?_
  refine v_iload_n k_Law_law_319 rfl ?_
  refine v_iconst k_Law_law_320 ?_
  refine v_iadd k_Law_law_321 ?_
  refine v_sld (by omega) rfl k_Law_law_322 ?_
  refine v_aload_n k_Law_law_323 rfl ?_
  refine v_iload_n k_Law_law_324 rfl ?_
  refine v_iconst k_Law_law_325 ?_
  refine v_iadd k_Law_law_326 ?_
  refine v_sld (by omega) rfl k_Law_law_327 ?_
  refine v_callV (rc := rc) (rs := rs) (mc := 0) (ms := 0) mo_Model_enter mi_Model_enter mv_Model_enter lk_Law_39 k_Law_law_328 hob rfl rfl (Nat.le_of_ble_eq_true rfl) rfl (Nat.le_of_ble_eq_true rfl) (c_Model_enter G hm w (InR_toInt _) (InR_toInt _)) (fun v328 h328 q328 => ?_)
  obtain ⟨rfl, hm, f2⟩ := q328
  have hp := hp.fr f2 (Or.inl (by omega))
  have hz := Nat.le_trans hz (Nat.le_of_eq f2.1.symm)
  refine v_iceq_same 869 k_Law_law_331 rfl ?_
  exact back _ _ hp hm (w_enter w _ _) hz
set_option maxHeartbeats 1000000 in
set_option maxRecDepth 20000 in
theorem law_6 (G : Gx) (nm : String) (hL : gL G ≤ 1536) (rc rs i : Nat) (S : St) (h : AH) (hi : (i : Int) + 3 ≤ gL G) (hp : pMain h 100 S) (hm : pMS h 173 S) (w : wSt S) (hz : 184 ≤ h.1) (back : ∀ (S' : St) (h' : AH), pMain h' 100 S' → pMS h' 173 S' → wSt S' → 184 ≤ h'.1 → V G (Y_Law nm) 11 rc rs 869 [some (aR 0), some (aR 100), some (aR 173), some (aI (i : Int))] [] h' (fun v _ => v = some (aI 1))) : V G (Y_Law nm) 11 rc rs 336 [some (aR 0), some (aR 100), some (aR 173), some (aI (i : Int))] [] h (fun v _ => v = some (aI 1)) := by
  refine v_aload_n k_Law_law_336 rfl ?_
  refine v_aload_n k_Law_law_337 rfl ?_
  refine v_iload_n k_Law_law_338 rfl ?_
  refine v_iconst k_Law_law_339 ?_
  refine v_iadd k_Law_law_340 ?_
  refine v_sld (by omega) rfl k_Law_law_341 ?_
  refine v_callV (rc := rc) (rs := rs) (mc := 0) (ms := 0) mo_Main_rounds mi_Main_rounds mv_Main_rounds lk_Law_40 k_Law_law_342 hp.1 rfl rfl (Nat.le_of_ble_eq_true rfl) rfl (Nat.le_of_ble_eq_true rfl) (c_Main_rounds G hp w (InR_toInt _)) (fun v342 h342 q342 => ?_)
  obtain ⟨rfl, hp, f1⟩ := q342
  have hm := hm.fr f1 (Or.inr (Nat.le_refl _))
  have hz := Nat.le_trans hz (Nat.le_of_eq f1.1.symm)
  obtain ⟨_, hob⟩ := hm.obj
  refine v_aload_n k_Law_law_345 rfl ?_
  refine v_aload_n k_Law_law_346 rfl ?_
  refine v_iload_n k_Law_law_347 rfl ?_
  refine v_iconst k_Law_law_348 ?_
  refine v_iadd k_Law_law_349 ?_
  refine v_sld (by omega) rfl k_Law_law_350 ?_
  refine v_callV (rc := rc) (rs := rs) (mc := 0) (ms := 0) mo_Model_rounds mi_Model_rounds mv_Model_rounds lk_Law_43 k_Law_law_351 hob rfl rfl (Nat.le_of_ble_eq_true rfl) rfl (Nat.le_of_ble_eq_true rfl) (c_Model_rounds G hm w (InR_toInt _)) (fun v351 h351 q351 => ?_)
  obtain ⟨rfl, hm, f2⟩ := q351
  have hp := hp.fr f2 (Or.inl (by omega))
  have hz := Nat.le_trans hz (Nat.le_of_eq f2.1.symm)
  refine v_iceq_same 869 k_Law_law_354 rfl ?_
  exact back _ _ hp hm (w_rounds w _) hz
set_option maxHeartbeats 1000000 in
set_option maxRecDepth 20000 in
theorem law_7 (G : Gx) (nm : String) (hL : gL G ≤ 1536) (rc rs i : Nat) (S : St) (h : AH) (hi : (i : Int) + 3 ≤ gL G) (hp : pMain h 100 S) (hm : pMS h 173 S) (w : wSt S) (hz : 184 ≤ h.1) (back : ∀ (S' : St) (h' : AH), pMain h' 100 S' → pMS h' 173 S' → wSt S' → 184 ≤ h'.1 → V G (Y_Law nm) 11 rc rs 869 [some (aR 0), some (aR 100), some (aR 173), some (aI (i : Int))] [] h' (fun v _ => v = some (aI 1))) : V G (Y_Law nm) 11 rc rs 359 [some (aR 0), some (aR 100), some (aR 173), some (aI (i : Int))] [] h (fun v _ => v = some (aI 1)) := by
  refine v_aload_n k_Law_law_359 rfl ?_
  refine v_aload_n k_Law_law_360 rfl ?_
  refine v_iload_n k_Law_law_361 rfl ?_
  refine v_iconst k_Law_law_362 ?_
  refine v_iadd k_Law_law_363 ?_
  refine v_sld (by omega) rfl k_Law_law_364 ?_
  refine v_callV (rc := rc) (rs := rs) (mc := 0) (ms := 0) mo_Main_step mi_Main_step mv_Main_step lk_Law_44 k_Law_law_365 hp.1 rfl rfl (Nat.le_of_ble_eq_true rfl) rfl (Nat.le_of_ble_eq_true rfl) (c_Main_step G hp w (InR_toInt _)) (fun v365 h365 q365 => ?_)
  obtain ⟨rfl, hp, f1⟩ := q365
  have hm := hm.fr f1 (Or.inr (Nat.le_refl _))
  have hz := Nat.le_trans hz (Nat.le_of_eq f1.1.symm)
  obtain ⟨_, hob⟩ := hm.obj
  refine v_aload_n k_Law_law_368 rfl ?_
  refine v_aload_n k_Law_law_369 rfl ?_
  refine v_iload_n k_Law_law_370 rfl ?_
  refine v_iconst k_Law_law_371 ?_
  refine v_iadd k_Law_law_372 ?_
  refine v_sld (by omega) rfl k_Law_law_373 ?_
  refine v_callV (rc := rc) (rs := rs) (mc := 0) (ms := 0) mo_Model_step mi_Model_step mv_Model_step lk_Law_47 k_Law_law_374 hob rfl rfl (Nat.le_of_ble_eq_true rfl) rfl (Nat.le_of_ble_eq_true rfl) (c_Model_step G hm w (InR_toInt _)) (fun v374 h374 q374 => ?_)
  obtain ⟨rfl, hm, f2⟩ := q374
  have hp := hp.fr f2 (Or.inl (by omega))
  have hz := Nat.le_trans hz (Nat.le_of_eq f2.1.symm)
  refine v_iceq_same 869 k_Law_law_377 rfl ?_
  exact back _ _ hp hm (w_step w _) hz
set_option maxHeartbeats 1000000 in
set_option maxRecDepth 20000 in
theorem law_8 (G : Gx) (nm : String) (hL : gL G ≤ 1536) (rc rs i : Nat) (S : St) (h : AH) (hi : (i : Int) + 3 ≤ gL G) (hp : pMain h 100 S) (hm : pMS h 173 S) (w : wSt S) (hz : 184 ≤ h.1) (back : ∀ (S' : St) (h' : AH), pMain h' 100 S' → pMS h' 173 S' → wSt S' → 184 ≤ h'.1 → V G (Y_Law nm) 11 rc rs 869 [some (aR 0), some (aR 100), some (aR 173), some (aI (i : Int))] [] h' (fun v _ => v = some (aI 1))) : V G (Y_Law nm) 11 rc rs 382 [some (aR 0), some (aR 100), some (aR 173), some (aI (i : Int))] [] h (fun v _ => v = some (aI 1)) := by
  refine v_aload_n k_Law_law_382 rfl ?_
  refine v_aload_n k_Law_law_383 rfl ?_
  refine v_iload_n k_Law_law_384 rfl ?_
  refine v_iconst k_Law_law_385 ?_
  refine v_iadd k_Law_law_386 ?_
  refine v_sld (by omega) rfl k_Law_law_387 ?_
  refine v_callV (rc := rc) (rs := rs) (mc := 0) (ms := 0) mo_Main_law mi_Main_law mv_Main_law lk_Law_48 k_Law_law_388 hp.1 rfl rfl (Nat.le_of_ble_eq_true rfl) rfl (Nat.le_of_ble_eq_true rfl) (c_Main_law G hp w (InR_toInt _)) (fun v388 h388 q388 => ?_)
  obtain ⟨rfl, hp, f1⟩ := q388
  have hm := hm.fr f1 (Or.inr (Nat.le_refl _))
  have hz := Nat.le_trans hz (Nat.le_of_eq f1.1.symm)
  obtain ⟨_, hob⟩ := hm.obj
  refine v_aload_n k_Law_law_391 rfl ?_
  refine v_aload_n k_Law_law_392 rfl ?_
  refine v_iload_n k_Law_law_393 rfl ?_
  refine v_iconst k_Law_law_394 ?_
  refine v_iadd k_Law_law_395 ?_
  refine v_sld (by omega) rfl k_Law_law_396 ?_
  refine v_callV (rc := rc) (rs := rs) (mc := 0) (ms := 0) mo_Model_law mi_Model_law mv_Model_law lk_Law_51 k_Law_law_397 hob rfl rfl (Nat.le_of_ble_eq_true rfl) rfl (Nat.le_of_ble_eq_true rfl) (c_Model_law G hm w (InR_toInt _)) (fun v397 h397 q397 => ?_)
  obtain ⟨rfl, hm, f2⟩ := q397
  have hp := hp.fr f2 (Or.inl (by omega))
  have hz := Nat.le_trans hz (Nat.le_of_eq f2.1.symm)
  refine v_iceq_same 869 k_Law_law_400 rfl ?_
  exact back _ _ hp hm (w_law w _) hz
set_option maxHeartbeats 1000000 in
set_option maxRecDepth 20000 in
theorem law_9 (G : Gx) (nm : String) (hL : gL G ≤ 1536) (rc rs i : Nat) (S : St) (h : AH) (hi : (i : Int) + 3 ≤ gL G) (hp : pMain h 100 S) (hm : pMS h 173 S) (w : wSt S) (hz : 184 ≤ h.1) (back : ∀ (S' : St) (h' : AH), pMain h' 100 S' → pMS h' 173 S' → wSt S' → 184 ≤ h'.1 → V G (Y_Law nm) 11 rc rs 869 [some (aR 0), some (aR 100), some (aR 173), some (aI (i : Int))] [] h' (fun v _ => v = some (aI 1))) : V G (Y_Law nm) 11 rc rs 405 [some (aR 0), some (aR 100), some (aR 173), some (aI (i : Int))] [] h (fun v _ => v = some (aI 1)) := by
  refine v_aload_n k_Law_law_405 rfl ?_
  refine v_aload_n k_Law_law_406 rfl ?_
  refine v_iload_n k_Law_law_407 rfl ?_
  refine v_iconst k_Law_law_408 ?_
  refine v_iadd k_Law_law_409 ?_
  refine v_sld (by omega) rfl k_Law_law_410 ?_
  refine v_aload_n k_Law_law_411 rfl ?_
  refine v_iload_n k_Law_law_412 rfl ?_
  refine v_iconst k_Law_law_413 ?_
  refine v_iadd k_Law_law_414 ?_
  refine v_sld (by omega) rfl k_Law_law_415 ?_
  refine v_callV (rc := rc) (rs := rs) (mc := 0) (ms := 0) mo_Main_sound mi_Main_sound mv_Main_sound lk_Law_52 k_Law_law_416 hp.1 rfl rfl (Nat.le_of_ble_eq_true rfl) rfl (Nat.le_of_ble_eq_true rfl) (c_Main_sound G hp w (InR_toInt _) (InR_toInt _)) (fun v416 h416 q416 => ?_)
  obtain ⟨rfl, hp, f1⟩ := q416
  have hm := hm.fr f1 (Or.inr (Nat.le_refl _))
  have hz := Nat.le_trans hz (Nat.le_of_eq f1.1.symm)
  obtain ⟨_, hob⟩ := hm.obj
  refine v_aload_n k_Law_law_419 rfl ?_
  refine v_aload_n k_Law_law_420 rfl ?_
  refine v_iload_n k_Law_law_421 rfl ?_
  refine v_iconst k_Law_law_422 ?_
  refine v_iadd k_Law_law_423 ?_
  refine v_sld (by omega) rfl k_Law_law_424 ?_
  refine v_aload_n k_Law_law_425 rfl ?_
  refine v_iload_n k_Law_law_426 rfl ?_
  refine v_iconst k_Law_law_427 ?_
  refine v_iadd k_Law_law_428 ?_
  refine v_sld (by omega) rfl k_Law_law_429 ?_
  refine v_callV (rc := rc) (rs := rs) (mc := 0) (ms := 0) mo_Model_sound mi_Model_sound mv_Model_sound lk_Law_55 k_Law_law_430 hob rfl rfl (Nat.le_of_ble_eq_true rfl) rfl (Nat.le_of_ble_eq_true rfl) (c_Model_sound G hm w (InR_toInt _) (InR_toInt _)) (fun v430 h430 q430 => ?_)
  obtain ⟨rfl, hm, f2⟩ := q430
  have hp := hp.fr f2 (Or.inl (by omega))
  have hz := Nat.le_trans hz (Nat.le_of_eq f2.1.symm)
  refine v_iceq_same 869 k_Law_law_433 rfl ?_
  exact back _ _ hp hm (w_sound w _ _) hz
set_option maxHeartbeats 1000000 in
set_option maxRecDepth 20000 in
theorem law_10 (G : Gx) (nm : String) (hL : gL G ≤ 1536) (rc rs i : Nat) (S : St) (h : AH) (hi : (i : Int) + 3 ≤ gL G) (hp : pMain h 100 S) (hm : pMS h 173 S) (w : wSt S) (hz : 184 ≤ h.1) (back : ∀ (S' : St) (h' : AH), pMain h' 100 S' → pMS h' 173 S' → wSt S' → 184 ≤ h'.1 → V G (Y_Law nm) 11 rc rs 869 [some (aR 0), some (aR 100), some (aR 173), some (aI (i : Int))] [] h' (fun v _ => v = some (aI 1))) : V G (Y_Law nm) 11 rc rs 438 [some (aR 0), some (aR 100), some (aR 173), some (aI (i : Int))] [] h (fun v _ => v = some (aI 1)) := by
  refine v_aload_n k_Law_law_438 rfl ?_
  refine v_aload_n k_Law_law_439 rfl ?_
  refine v_iload_n k_Law_law_440 rfl ?_
  refine v_iconst k_Law_law_441 ?_
  refine v_iadd k_Law_law_442 ?_
  refine v_sld (by omega) rfl k_Law_law_443 ?_
  refine v_callV (rc := rc) (rs := rs) (mc := 0) (ms := 0) mo_Main_ill mi_Main_ill mv_Main_ill lk_Law_56 k_Law_law_444 hp.1 rfl rfl (Nat.le_of_ble_eq_true rfl) rfl (Nat.le_of_ble_eq_true rfl) (c_Main_ill G hp w (InR_toInt _)) (fun v444 h444 q444 => ?_)
  obtain ⟨rfl, hp, f1⟩ := q444
  have hm := hm.fr f1 (Or.inr (Nat.le_refl _))
  have hz := Nat.le_trans hz (Nat.le_of_eq f1.1.symm)
  obtain ⟨_, hob⟩ := hm.obj
  refine v_aload_n k_Law_law_447 rfl ?_
  refine v_aload_n k_Law_law_448 rfl ?_
  refine v_iload_n k_Law_law_449 rfl ?_
  refine v_iconst k_Law_law_450 ?_
  refine v_iadd k_Law_law_451 ?_
  refine v_sld (by omega) rfl k_Law_law_452 ?_
  refine v_callV (rc := rc) (rs := rs) (mc := 0) (ms := 0) mo_Model_ill mi_Model_ill mv_Model_ill lk_Law_59 k_Law_law_453 hob rfl rfl (Nat.le_of_ble_eq_true rfl) rfl (Nat.le_of_ble_eq_true rfl) (c_Model_ill G hm w (InR_toInt _)) (fun v453 h453 q453 => ?_)
  rw [← x_illQ] at q453
  obtain ⟨rfl, hm, f2⟩ := q453
  have hp := hp.fr f2 (Or.inl (by omega))
  have hz := Nat.le_trans hz (Nat.le_of_eq f2.1.symm)
  refine v_iceq_same 869 k_Law_law_456 rfl ?_
  exact back _ _ hp hm (w_ill w _) hz
set_option maxHeartbeats 1000000 in
set_option maxRecDepth 20000 in
theorem law_11 (G : Gx) (nm : String) (hL : gL G ≤ 1536) (rc rs i : Nat) (S : St) (h : AH) (hi : (i : Int) + 3 ≤ gL G) (hp : pMain h 100 S) (hm : pMS h 173 S) (w : wSt S) (hz : 184 ≤ h.1) (back : ∀ (S' : St) (h' : AH), pMain h' 100 S' → pMS h' 173 S' → wSt S' → 184 ≤ h'.1 → V G (Y_Law nm) 11 rc rs 869 [some (aR 0), some (aR 100), some (aR 173), some (aI (i : Int))] [] h' (fun v _ => v = some (aI 1))) : V G (Y_Law nm) 11 rc rs 461 [some (aR 0), some (aR 100), some (aR 173), some (aI (i : Int))] [] h (fun v _ => v = some (aI 1)) := by
  refine v_aload_n k_Law_law_461 rfl ?_
  refine v_aload_n k_Law_law_462 rfl ?_
  refine v_iload_n k_Law_law_463 rfl ?_
  refine v_iconst k_Law_law_464 ?_
  refine v_iadd k_Law_law_465 ?_
  refine v_sld (by omega) rfl k_Law_law_466 ?_
  refine v_callV (rc := rc) (rs := rs) (mc := 0) (ms := 0) mo_Main_first mi_Main_first mv_Main_first lk_Law_60 k_Law_law_467 hp.1 rfl rfl (Nat.le_of_ble_eq_true rfl) rfl (Nat.le_of_ble_eq_true rfl) (c_Main_first G hp w (InR_toInt _)) (fun v467 h467 q467 => ?_)
  obtain ⟨rfl, hp, f1⟩ := q467
  have hm := hm.fr f1 (Or.inr (Nat.le_refl _))
  have hz := Nat.le_trans hz (Nat.le_of_eq f1.1.symm)
  obtain ⟨_, hob⟩ := hm.obj
  refine v_aload_n k_Law_law_470 rfl ?_
  refine v_aload_n k_Law_law_471 rfl ?_
  refine v_iload_n k_Law_law_472 rfl ?_
  refine v_iconst k_Law_law_473 ?_
  refine v_iadd k_Law_law_474 ?_
  refine v_sld (by omega) rfl k_Law_law_475 ?_
  refine v_callV (rc := rc) (rs := rs) (mc := 0) (ms := 0) mo_Model_first mi_Model_first mv_Model_first lk_Law_63 k_Law_law_476 hob rfl rfl (Nat.le_of_ble_eq_true rfl) rfl (Nat.le_of_ble_eq_true rfl) (c_Model_first G hm w (InR_toInt _)) (fun v476 h476 q476 => ?_)
  rw [← x_first] at q476
  obtain ⟨rfl, hm, f2⟩ := q476
  have hp := hp.fr f2 (Or.inl (by omega))
  have hz := Nat.le_trans hz (Nat.le_of_eq f2.1.symm)
  refine v_iceq_same 869 k_Law_law_479 rfl ?_
  exact back _ _ hp hm (w_first w _) hz
set_option maxHeartbeats 1000000 in
set_option maxRecDepth 20000 in
theorem law_12 (G : Gx) (nm : String) (hL : gL G ≤ 1536) (rc rs i : Nat) (S : St) (h : AH) (hi : (i : Int) + 3 ≤ gL G) (hp : pMain h 100 S) (hm : pMS h 173 S) (w : wSt S) (hz : 184 ≤ h.1) (back : ∀ (S' : St) (h' : AH), pMain h' 100 S' → pMS h' 173 S' → wSt S' → 184 ≤ h'.1 → V G (Y_Law nm) 11 rc rs 869 [some (aR 0), some (aR 100), some (aR 173), some (aI (i : Int))] [] h' (fun v _ => v = some (aI 1))) : V G (Y_Law nm) 11 rc rs 484 [some (aR 0), some (aR 100), some (aR 173), some (aI (i : Int))] [] h (fun v _ => v = some (aI 1)) := by
  refine v_aload_n k_Law_law_484 rfl ?_
  refine v_callV (rc := rc) (rs := rs) (mc := 0) (ms := 0) mo_Main_allIll mi_Main_allIll mv_Main_allIll lk_Law_64 k_Law_law_485 hp.1 rfl rfl (Nat.le_of_ble_eq_true rfl) rfl (Nat.le_of_ble_eq_true rfl) (c_Main_allIll G hp w) (fun v485 h485 q485 => ?_)
  obtain ⟨rfl, hp, f1⟩ := q485
  have hm := hm.fr f1 (Or.inr (Nat.le_refl _))
  have hz := Nat.le_trans hz (Nat.le_of_eq f1.1.symm)
  obtain ⟨_, hob⟩ := hm.obj
  refine v_aload_n k_Law_law_488 rfl ?_
  refine v_callV (rc := rc) (rs := rs) (mc := 0) (ms := 0) mo_Model_allIll mi_Model_allIll mv_Model_allIll lk_Law_67 k_Law_law_489 hob rfl rfl (Nat.le_of_ble_eq_true rfl) rfl (Nat.le_of_ble_eq_true rfl) (c_Model_allIll G hm w) (fun v489 h489 q489 => ?_)
  rw [← x_allIll] at q489
  obtain ⟨rfl, hm, f2⟩ := q489
  have hp := hp.fr f2 (Or.inl (by omega))
  have hz := Nat.le_trans hz (Nat.le_of_eq f2.1.symm)
  refine v_iceq_same 869 k_Law_law_492 rfl ?_
  exact back _ _ hp hm (w) hz
set_option maxHeartbeats 1000000 in
set_option maxRecDepth 20000 in
theorem law_13 (G : Gx) (nm : String) (hL : gL G ≤ 1536) (rc rs i : Nat) (S : St) (h : AH) (hi : (i : Int) + 3 ≤ gL G) (hp : pMain h 100 S) (hm : pMS h 173 S) (w : wSt S) (hz : 184 ≤ h.1) (back : ∀ (S' : St) (h' : AH), pMain h' 100 S' → pMS h' 173 S' → wSt S' → 184 ≤ h'.1 → V G (Y_Law nm) 11 rc rs 869 [some (aR 0), some (aR 100), some (aR 173), some (aI (i : Int))] [] h' (fun v _ => v = some (aI 1))) : V G (Y_Law nm) 11 rc rs 497 [some (aR 0), some (aR 100), some (aR 173), some (aI (i : Int))] [] h (fun v _ => v = some (aI 1)) := by
  refine v_aload_n k_Law_law_497 rfl ?_
  refine v_aload_n k_Law_law_498 rfl ?_
  refine v_iload_n k_Law_law_499 rfl ?_
  refine v_iconst k_Law_law_500 ?_
  refine v_iadd k_Law_law_501 ?_
  refine v_sld (by omega) rfl k_Law_law_502 ?_
  refine v_aload_n k_Law_law_503 rfl ?_
  refine v_iload_n k_Law_law_504 rfl ?_
  refine v_iconst k_Law_law_505 ?_
  refine v_iadd k_Law_law_506 ?_
  refine v_sld (by omega) rfl k_Law_law_507 ?_
  refine v_callV (rc := rc) (rs := rs) (mc := 0) (ms := 0) mo_Main_entries mi_Main_entries mv_Main_entries lk_Law_68 k_Law_law_508 hp.1 rfl rfl (Nat.le_of_ble_eq_true rfl) rfl (Nat.le_of_ble_eq_true rfl) (c_Main_entries G hp w (InR_toInt _) (InR_toInt _)) (fun v508 h508 q508 => ?_)
  obtain ⟨rfl, hp, f1⟩ := q508
  have hm := hm.fr f1 (Or.inr (Nat.le_refl _))
  have hz := Nat.le_trans hz (Nat.le_of_eq f1.1.symm)
  obtain ⟨_, hob⟩ := hm.obj
  refine v_aload_n k_Law_law_511 rfl ?_
  refine v_aload_n k_Law_law_512 rfl ?_
  refine v_iload_n k_Law_law_513 rfl ?_
  refine v_iconst k_Law_law_514 ?_
  refine v_iadd k_Law_law_515 ?_
  refine v_sld (by omega) rfl k_Law_law_516 ?_
  refine v_aload_n k_Law_law_517 rfl ?_
  refine v_iload_n k_Law_law_518 rfl ?_
  refine v_iconst k_Law_law_519 ?_
  refine v_iadd k_Law_law_520 ?_
  refine v_sld (by omega) rfl k_Law_law_521 ?_
  refine v_callV (rc := rc) (rs := rs) (mc := 0) (ms := 0) mo_Model_entries mi_Model_entries mv_Model_entries lk_Law_71 k_Law_law_522 hob rfl rfl (Nat.le_of_ble_eq_true rfl) rfl (Nat.le_of_ble_eq_true rfl) (c_Model_entries G hm w (InR_toInt _) (InR_toInt _)) (fun v522 h522 q522 => ?_)
  rw [← x_entries w] at q522
  obtain ⟨rfl, hm, f2⟩ := q522
  have hp := hp.fr f2 (Or.inl (by omega))
  have hz := Nat.le_trans hz (Nat.le_of_eq f2.1.symm)
  refine v_iceq_same 869 k_Law_law_525 rfl ?_
  exact back _ _ hp hm (w_entries w _ _) hz
set_option maxHeartbeats 1000000 in
set_option maxRecDepth 20000 in
theorem law_14 (G : Gx) (nm : String) (hL : gL G ≤ 1536) (rc rs i : Nat) (S : St) (h : AH) (hi : (i : Int) + 3 ≤ gL G) (hp : pMain h 100 S) (hm : pMS h 173 S) (w : wSt S) (hz : 184 ≤ h.1) (back : ∀ (S' : St) (h' : AH), pMain h' 100 S' → pMS h' 173 S' → wSt S' → 184 ≤ h'.1 → V G (Y_Law nm) 11 rc rs 869 [some (aR 0), some (aR 100), some (aR 173), some (aI (i : Int))] [] h' (fun v _ => v = some (aI 1))) : V G (Y_Law nm) 11 rc rs 530 [some (aR 0), some (aR 100), some (aR 173), some (aI (i : Int))] [] h (fun v _ => v = some (aI 1)) := by
  refine v_aload_n k_Law_law_530 rfl ?_
  refine v_callV (rc := rc) (rs := rs) (mc := 0) (ms := 0) mo_Main_added mi_Main_added mv_Main_added lk_Law_72 k_Law_law_531 hp.1 rfl rfl (Nat.le_of_ble_eq_true rfl) rfl (Nat.le_of_ble_eq_true rfl) (c_Main_added G hp w (cap_of (vK.addN w.1 (by omega) rfl))) (fun v531 h531 q531 => ?_)
  obtain ⟨rfl, hp, f1⟩ := q531
  have hm := hm.fr f1 (Or.inr (Nat.le_refl _))
  have hz := Nat.le_trans hz (Nat.le_of_eq f1.1.symm)
  obtain ⟨_, hob⟩ := hm.obj
  refine v_aload_n k_Law_law_534 rfl ?_
  refine v_callV (rc := rc) (rs := rs) (mc := 0) (ms := 0) mo_Model_added mi_Model_added mv_Model_added lk_Law_75 k_Law_law_535 hob rfl rfl (Nat.le_of_ble_eq_true rfl) rfl (Nat.le_of_ble_eq_true rfl) (c_Model_added G hm w) (fun v535 h535 q535 => ?_)
  rw [← x_added w] at q535
  obtain ⟨rfl, hm, f2⟩ := q535
  have hp := hp.fr f2 (Or.inl (by omega))
  have hz := Nat.le_trans hz (Nat.le_of_eq f2.1.symm)
  refine v_iceq_same 869 k_Law_law_538 rfl ?_
  exact back _ _ hp hm (w) hz
set_option maxHeartbeats 1000000 in
set_option maxRecDepth 20000 in
theorem law_15 (G : Gx) (nm : String) (hL : gL G ≤ 1536) (rc rs i : Nat) (S : St) (h : AH) (hi : (i : Int) + 3 ≤ gL G) (hp : pMain h 100 S) (hm : pMS h 173 S) (w : wSt S) (hz : 184 ≤ h.1) (back : ∀ (S' : St) (h' : AH), pMain h' 100 S' → pMS h' 173 S' → wSt S' → 184 ≤ h'.1 → V G (Y_Law nm) 11 rc rs 869 [some (aR 0), some (aR 100), some (aR 173), some (aI (i : Int))] [] h' (fun v _ => v = some (aI 1))) : V G (Y_Law nm) 11 rc rs 543 [some (aR 0), some (aR 100), some (aR 173), some (aI (i : Int))] [] h (fun v _ => v = some (aI 1)) := by
  refine v_aload_n k_Law_law_543 rfl ?_
  refine v_callV (rc := rc) (rs := rs) (mc := 0) (ms := 0) mo_Main_silent mi_Main_silent mv_Main_silent lk_Law_76 k_Law_law_544 hp.1 rfl rfl (Nat.le_of_ble_eq_true rfl) rfl (Nat.le_of_ble_eq_true rfl) (c_Main_silent G hp w) (fun v544 h544 q544 => ?_)
  obtain ⟨rfl, hp, f1⟩ := q544
  have hm := hm.fr f1 (Or.inr (Nat.le_refl _))
  have hz := Nat.le_trans hz (Nat.le_of_eq f1.1.symm)
  obtain ⟨_, hob⟩ := hm.obj
  refine v_aload_n k_Law_law_547 rfl ?_
  refine v_callV (rc := rc) (rs := rs) (mc := 0) (ms := 0) mo_Model_silent mi_Model_silent mv_Model_silent lk_Law_79 k_Law_law_548 hob rfl rfl (Nat.le_of_ble_eq_true rfl) rfl (Nat.le_of_ble_eq_true rfl) (c_Model_silent G hm w) (fun v548 h548 q548 => ?_)
  rw [← x_silent] at q548
  obtain ⟨rfl, hm, f2⟩ := q548
  have hp := hp.fr f2 (Or.inl (by omega))
  have hz := Nat.le_trans hz (Nat.le_of_eq f2.1.symm)
  refine v_iceq_same 869 k_Law_law_551 rfl ?_
  exact back _ _ hp hm (w) hz
set_option maxHeartbeats 1000000 in
set_option maxRecDepth 20000 in
theorem law_16 (G : Gx) (nm : String) (hL : gL G ≤ 1536) (rc rs i : Nat) (S : St) (h : AH) (hi : (i : Int) + 3 ≤ gL G) (hp : pMain h 100 S) (hm : pMS h 173 S) (w : wSt S) (hz : 184 ≤ h.1) (back : ∀ (S' : St) (h' : AH), pMain h' 100 S' → pMS h' 173 S' → wSt S' → 184 ≤ h'.1 → V G (Y_Law nm) 11 rc rs 869 [some (aR 0), some (aR 100), some (aR 173), some (aI (i : Int))] [] h' (fun v _ => v = some (aI 1))) : V G (Y_Law nm) 11 rc rs 556 [some (aR 0), some (aR 100), some (aR 173), some (aI (i : Int))] [] h (fun v _ => v = some (aI 1)) := by
  refine v_aload_n k_Law_law_556 rfl ?_
  refine v_aload_n k_Law_law_557 rfl ?_
  refine v_iload_n k_Law_law_558 rfl ?_
  refine v_iconst k_Law_law_559 ?_
  refine v_iadd k_Law_law_560 ?_
  refine v_sld (by omega) rfl k_Law_law_561 ?_
  refine v_callV (rc := rc) (rs := rs) (mc := 0) (ms := 0) mo_Main_changed mi_Main_changed mv_Main_changed lk_Law_80 k_Law_law_562 hp.1 rfl rfl (Nat.le_of_ble_eq_true rfl) rfl (Nat.le_of_ble_eq_true rfl) (c_Main_changed G hp w (InR_toInt _) (cap_of w.v13)) (fun v562 h562 q562 => ?_)
  obtain ⟨ms, hms, rfl, hp, f1⟩ := q562
  have hm := hm.fr f1 (Or.inr (Nat.le_refl _))
  have hz := Nat.le_trans hz (Nat.le_of_eq f1.1.symm)
  obtain ⟨_, hob⟩ := hm.obj
  refine v_aload_n k_Law_law_565 rfl ?_
  refine v_aload_n k_Law_law_566 rfl ?_
  refine v_iload_n k_Law_law_567 rfl ?_
  refine v_iconst k_Law_law_568 ?_
  refine v_iadd k_Law_law_569 ?_
  refine v_sld (by omega) rfl k_Law_law_570 ?_
  refine v_callV (rc := rc) (rs := rs) (mc := 0) (ms := 0) mo_Model_changed mi_Model_changed mv_Model_changed lk_Law_83 k_Law_law_571 hob rfl rfl (Nat.le_of_ble_eq_true rfl) rfl (Nat.le_of_ble_eq_true rfl) (c_Model_changed G hm w (InR_toInt _)) (fun v571 h571 q571 => ?_)
  rw [← x_changed w _ hms] at q571
  obtain ⟨rfl, hm, f2⟩ := q571
  have hp := hp.fr f2 (Or.inl (by omega))
  have hz := Nat.le_trans hz (Nat.le_of_eq f2.1.symm)
  refine v_iceq_same 869 k_Law_law_574 rfl ?_
  exact back _ _ hp hm (w_changed w _ _) hz
set_option maxHeartbeats 1000000 in
set_option maxRecDepth 20000 in
theorem law_17 (G : Gx) (nm : String) (hL : gL G ≤ 1536) (rc rs i : Nat) (S : St) (h : AH) (hi : (i : Int) + 3 ≤ gL G) (hp : pMain h 100 S) (hm : pMS h 173 S) (w : wSt S) (hz : 184 ≤ h.1) (back : ∀ (S' : St) (h' : AH), pMain h' 100 S' → pMS h' 173 S' → wSt S' → 184 ≤ h'.1 → V G (Y_Law nm) 11 rc rs 869 [some (aR 0), some (aR 100), some (aR 173), some (aI (i : Int))] [] h' (fun v _ => v = some (aI 1))) : V G (Y_Law nm) 11 rc rs 579 [some (aR 0), some (aR 100), some (aR 173), some (aI (i : Int))] [] h (fun v _ => v = some (aI 1)) := by
  refine v_aload_n k_Law_law_579 rfl ?_
  refine v_callV (rc := rc) (rs := rs) (mc := 0) (ms := 0) mo_Main_better mi_Main_better mv_Main_better lk_Law_84 k_Law_law_580 hp.1 rfl rfl (Nat.le_of_ble_eq_true rfl) rfl (Nat.le_of_ble_eq_true rfl) (c_Main_better G hp w (cap_of w.v13)) (fun v580 h580 q580 => ?_)
  obtain ⟨rfl, hp, f1⟩ := q580
  have hm := hm.fr f1 (Or.inr (Nat.le_refl _))
  have hz := Nat.le_trans hz (Nat.le_of_eq f1.1.symm)
  obtain ⟨_, hob⟩ := hm.obj
  refine v_aload_n k_Law_law_583 rfl ?_
  refine v_callV (rc := rc) (rs := rs) (mc := 0) (ms := 0) mo_Model_better mi_Model_better mv_Model_better lk_Law_87 k_Law_law_584 hob rfl rfl (Nat.le_of_ble_eq_true rfl) rfl (Nat.le_of_ble_eq_true rfl) (c_Model_better G hm w) (fun v584 h584 q584 => ?_)
  rw [← x_better w] at q584
  obtain ⟨rfl, hm, f2⟩ := q584
  have hp := hp.fr f2 (Or.inl (by omega))
  have hz := Nat.le_trans hz (Nat.le_of_eq f2.1.symm)
  refine v_iceq_same 869 k_Law_law_587 rfl ?_
  exact back _ _ hp hm (w) hz
set_option maxHeartbeats 1000000 in
set_option maxRecDepth 20000 in
theorem law_18 (G : Gx) (nm : String) (hL : gL G ≤ 1536) (rc rs i : Nat) (S : St) (h : AH) (hi : (i : Int) + 3 ≤ gL G) (hp : pMain h 100 S) (hm : pMS h 173 S) (w : wSt S) (hz : 184 ≤ h.1) (back : ∀ (S' : St) (h' : AH), pMain h' 100 S' → pMS h' 173 S' → wSt S' → 184 ≤ h'.1 → V G (Y_Law nm) 11 rc rs 869 [some (aR 0), some (aR 100), some (aR 173), some (aI (i : Int))] [] h' (fun v _ => v = some (aI 1))) : V G (Y_Law nm) 11 rc rs 592 [some (aR 0), some (aR 100), some (aR 173), some (aI (i : Int))] [] h (fun v _ => v = some (aI 1)) := by
  refine v_aload_n k_Law_law_592 rfl ?_
  refine v_callV (rc := rc) (rs := rs) (mc := 0) (ms := 0) mo_Main_mirror mi_Main_mirror mv_Main_mirror lk_Law_88 k_Law_law_593 hp.1 rfl rfl (Nat.le_of_ble_eq_true rfl) rfl (Nat.le_of_ble_eq_true rfl) (c_Main_mirror G hp w) (fun v593 h593 q593 => ?_)
  obtain ⟨rfl, hp, f1⟩ := q593
  have hm := hm.fr f1 (Or.inr (Nat.le_refl _))
  have hz := Nat.le_trans hz (Nat.le_of_eq f1.1.symm)
  obtain ⟨_, hob⟩ := hm.obj
  refine v_aload_n k_Law_law_596 rfl ?_
  refine v_callV (rc := rc) (rs := rs) (mc := 0) (ms := 0) mo_Model_mirror mi_Model_mirror mv_Model_mirror lk_Law_91 k_Law_law_597 hob rfl rfl (Nat.le_of_ble_eq_true rfl) rfl (Nat.le_of_ble_eq_true rfl) (c_Model_mirror G hm w) (fun v597 h597 q597 => ?_)
  rw [← x_mirror w] at q597
  obtain ⟨rfl, hm, f2⟩ := q597
  have hp := hp.fr f2 (Or.inl (by omega))
  have hz := Nat.le_trans hz (Nat.le_of_eq f2.1.symm)
  refine v_iceq_same 869 k_Law_law_600 rfl ?_
  exact back _ _ hp hm (w) hz
set_option maxHeartbeats 1000000 in
set_option maxRecDepth 20000 in
theorem law_19 (G : Gx) (nm : String) (hL : gL G ≤ 1536) (rc rs i : Nat) (S : St) (h : AH) (hi : (i : Int) + 3 ≤ gL G) (hp : pMain h 100 S) (hm : pMS h 173 S) (w : wSt S) (hz : 184 ≤ h.1) (back : ∀ (S' : St) (h' : AH), pMain h' 100 S' → pMS h' 173 S' → wSt S' → 184 ≤ h'.1 → V G (Y_Law nm) 11 rc rs 869 [some (aR 0), some (aR 100), some (aR 173), some (aI (i : Int))] [] h' (fun v _ => v = some (aI 1))) : V G (Y_Law nm) 11 (rc + 144) (rs + 1008) 605 [some (aR 0), some (aR 100), some (aR 173), some (aI (i : Int))] [] h (fun v _ => v = some (aI 1)) := by
  refine v_aload_n k_Law_law_605 rfl ?_
  refine v_aload_n k_Law_law_606 rfl ?_
  refine v_iload_n k_Law_law_607 rfl ?_
  refine v_iconst k_Law_law_608 ?_
  refine v_iadd k_Law_law_609 ?_
  refine v_sld (by omega) rfl k_Law_law_610 ?_
  refine v_aload_n k_Law_law_611 rfl ?_
  refine v_iload_n k_Law_law_612 rfl ?_
  refine v_iconst k_Law_law_613 ?_
  refine v_iadd k_Law_law_614 ?_
  refine v_sld (by omega) rfl k_Law_law_615 ?_
  refine v_callV (rc := rc + 144) (rs := rs + 1008) (mc := 0) (ms := 0) mo_Main_agreeing mi_Main_agreeing mv_Main_agreeing lk_Law_92 k_Law_law_616 hp.1 rfl rfl (Nat.le_of_ble_eq_true rfl) rfl (Nat.le_of_ble_eq_true rfl) (c_Main_agreeing G hp w (InR_toInt _) (InR_toInt _)) (fun v616 h616 q616 => ?_)
  obtain ⟨rfl, hp, f1⟩ := q616
  have hm := hm.fr f1 (Or.inr (Nat.le_refl _))
  have hz := Nat.le_trans hz (Nat.le_of_eq f1.1.symm)
  obtain ⟨_, hob⟩ := hm.obj
  refine v_aload_n k_Law_law_619 rfl ?_
  refine v_aload_n k_Law_law_620 rfl ?_
  refine v_iload_n k_Law_law_621 rfl ?_
  refine v_iconst k_Law_law_622 ?_
  refine v_iadd k_Law_law_623 ?_
  refine v_sld (by omega) rfl k_Law_law_624 ?_
  refine v_aload_n k_Law_law_625 rfl ?_
  refine v_iload_n k_Law_law_626 rfl ?_
  refine v_iconst k_Law_law_627 ?_
  refine v_iadd k_Law_law_628 ?_
  refine v_sld (by omega) rfl k_Law_law_629 ?_
  refine v_callV (rc := rc) (rs := rs) (mc := 144) (ms := 1008) mo_Model_agreeing mi_Model_agreeing mv_Model_agreeing lk_Law_96 k_Law_law_630 hob rfl rfl (Nat.le_of_ble_eq_true rfl) rfl (Nat.le_of_ble_eq_true rfl) (c_Model_agreeing G hm w (by omega) (InR_toInt _) (InR_toInt _)) (fun v630 h630 q630 => ?_)
  obtain ⟨rfl, hm, f2, f3⟩ := q630
  have hp := hp.fu (n := 173) (fun q hq => f3 q (by omega) (Or.inl hq)) (by omega)
  have hz := Nat.le_trans hz f2
  refine v_lcmp_same k_Law_law_633 ?_
  refine v_ifeq 869 k_Law_law_634 rfl (by decide) (fun _ => ?_) (fun g => absurd rfl g)
  exact back _ _ hp hm (w_agreeing w _ _) hz
set_option maxHeartbeats 1000000 in
set_option maxRecDepth 20000 in
theorem law_20 (G : Gx) (nm : String) (hL : gL G ≤ 1536) (rc rs i : Nat) (S : St) (h : AH) (hi : (i : Int) + 3 ≤ gL G) (hp : pMain h 100 S) (hm : pMS h 173 S) (w : wSt S) (hz : 184 ≤ h.1) (back : ∀ (S' : St) (h' : AH), pMain h' 100 S' → pMS h' 173 S' → wSt S' → 184 ≤ h'.1 → V G (Y_Law nm) 11 rc rs 869 [some (aR 0), some (aR 100), some (aR 173), some (aI (i : Int))] [] h' (fun v _ => v = some (aI 1))) : V G (Y_Law nm) 11 rc rs 639 [some (aR 0), some (aR 100), some (aR 173), some (aI (i : Int))] [] h (fun v _ => v = some (aI 1)) := by
  refine v_aload_n k_Law_law_639 rfl ?_
  refine v_aload_n k_Law_law_640 rfl ?_
  refine v_iload_n k_Law_law_641 rfl ?_
  refine v_iconst k_Law_law_642 ?_
  refine v_iadd k_Law_law_643 ?_
  refine v_sld (by omega) rfl k_Law_law_644 ?_
  refine v_aload_n k_Law_law_645 rfl ?_
  refine v_iload_n k_Law_law_646 rfl ?_
  refine v_iconst k_Law_law_647 ?_
  refine v_iadd k_Law_law_648 ?_
  refine v_sld (by omega) rfl k_Law_law_649 ?_
  refine v_callV (rc := rc) (rs := rs) (mc := 0) (ms := 0) mo_Main_range mi_Main_range mv_Main_range lk_Law_97 k_Law_law_650 hp.1 rfl rfl (Nat.le_of_ble_eq_true rfl) rfl (Nat.le_of_ble_eq_true rfl) (c_Main_range G hp w (InR_toInt _) (InR_toInt _)) (fun v650 h650 q650 => ?_)
  obtain ⟨rfl, hp, f1⟩ := q650
  have hm := hm.fr f1 (Or.inr (Nat.le_refl _))
  have hz := Nat.le_trans hz (Nat.le_of_eq f1.1.symm)
  obtain ⟨_, hob⟩ := hm.obj
  refine v_aload_n k_Law_law_653 rfl ?_
  refine v_aload_n k_Law_law_654 rfl ?_
  refine v_iload_n k_Law_law_655 rfl ?_
  refine v_iconst k_Law_law_656 ?_
  refine v_iadd k_Law_law_657 ?_
  refine v_sld (by omega) rfl k_Law_law_658 ?_
  refine v_aload_n k_Law_law_659 rfl ?_
  refine v_iload_n k_Law_law_660 rfl ?_
  refine v_iconst k_Law_law_661 ?_
  refine v_iadd k_Law_law_662 ?_
  refine v_sld (by omega) rfl k_Law_law_663 ?_
  refine v_callV (rc := rc) (rs := rs) (mc := 0) (ms := 0) mo_Model_range mi_Model_range mv_Model_range lk_Law_100 k_Law_law_664 hob rfl rfl (Nat.le_of_ble_eq_true rfl) rfl (Nat.le_of_ble_eq_true rfl) (c_Model_range G hm w (InR_toInt _) (InR_toInt _)) (fun v664 h664 q664 => ?_)
  rw [← x_range w] at q664
  obtain ⟨rfl, hm, f2⟩ := q664
  have hp := hp.fr f2 (Or.inl (by omega))
  have hz := Nat.le_trans hz (Nat.le_of_eq f2.1.symm)
  refine v_iceq_same 869 k_Law_law_667 rfl ?_
  exact back _ _ hp hm (w_range w _ _) hz
set_option maxHeartbeats 1000000 in
set_option maxRecDepth 20000 in
theorem law_21 (G : Gx) (nm : String) (hL : gL G ≤ 1536) (rc rs i : Nat) (S : St) (h : AH) (hi : (i : Int) + 3 ≤ gL G) (hp : pMain h 100 S) (hm : pMS h 173 S) (w : wSt S) (hz : 184 ≤ h.1) (back : ∀ (S' : St) (h' : AH), pMain h' 100 S' → pMS h' 173 S' → wSt S' → 184 ≤ h'.1 → V G (Y_Law nm) 11 rc rs 869 [some (aR 0), some (aR 100), some (aR 173), some (aI (i : Int))] [] h' (fun v _ => v = some (aI 1))) : V G (Y_Law nm) 11 rc rs 672 [some (aR 0), some (aR 100), some (aR 173), some (aI (i : Int))] [] h (fun v _ => v = some (aI 1)) := by
  refine v_aload_n k_Law_law_672 rfl ?_
  refine v_aload_n k_Law_law_673 rfl ?_
  refine v_iload_n k_Law_law_674 rfl ?_
  refine v_iconst k_Law_law_675 ?_
  refine v_iadd k_Law_law_676 ?_
  refine v_sld (by omega) rfl k_Law_law_677 ?_
  refine v_callV (rc := rc) (rs := rs) (mc := 0) (ms := 0) mo_Main_stop mi_Main_stop mv_Main_stop lk_Law_101 k_Law_law_678 hp.1 rfl rfl (Nat.le_of_ble_eq_true rfl) rfl (Nat.le_of_ble_eq_true rfl) (c_Main_stop G hp w (InR_toInt _)) (fun v678 h678 q678 => ?_)
  obtain ⟨rfl, hp, f1⟩ := q678
  have hm := hm.fr f1 (Or.inr (Nat.le_refl _))
  have hz := Nat.le_trans hz (Nat.le_of_eq f1.1.symm)
  obtain ⟨_, hob⟩ := hm.obj
  refine v_aload_n k_Law_law_681 rfl ?_
  refine v_aload_n k_Law_law_682 rfl ?_
  refine v_iload_n k_Law_law_683 rfl ?_
  refine v_iconst k_Law_law_684 ?_
  refine v_iadd k_Law_law_685 ?_
  refine v_sld (by omega) rfl k_Law_law_686 ?_
  refine v_callV (rc := rc) (rs := rs) (mc := 0) (ms := 0) mo_Model_stop mi_Model_stop mv_Model_stop lk_Law_104 k_Law_law_687 hob rfl rfl (Nat.le_of_ble_eq_true rfl) rfl (Nat.le_of_ble_eq_true rfl) (c_Model_stop G hm w (InR_toInt _)) (fun v687 h687 q687 => ?_)
  rw [← x_stop w] at q687
  obtain ⟨rfl, hm, f2⟩ := q687
  have hp := hp.fr f2 (Or.inl (by omega))
  have hz := Nat.le_trans hz (Nat.le_of_eq f2.1.symm)
  refine v_iceq_same 869 k_Law_law_690 rfl ?_
  exact back _ _ hp hm (w_stop w _) hz
set_option maxHeartbeats 1000000 in
set_option maxRecDepth 20000 in
theorem law_22 (G : Gx) (nm : String) (hL : gL G ≤ 1536) (rc rs i : Nat) (S : St) (h : AH) (hi : (i : Int) + 3 ≤ gL G) (hp : pMain h 100 S) (hm : pMS h 173 S) (w : wSt S) (hz : 184 ≤ h.1) (back : ∀ (S' : St) (h' : AH), pMain h' 100 S' → pMS h' 173 S' → wSt S' → 184 ≤ h'.1 → V G (Y_Law nm) 11 rc rs 869 [some (aR 0), some (aR 100), some (aR 173), some (aI (i : Int))] [] h' (fun v _ => v = some (aI 1))) : V G (Y_Law nm) 11 rc rs 695 [some (aR 0), some (aR 100), some (aR 173), some (aI (i : Int))] [] h (fun v _ => v = some (aI 1)) := by
  refine v_aload_n k_Law_law_695 rfl ?_
  refine v_callV (rc := rc) (rs := rs) (mc := 0) (ms := 0) mo_Main_unison mi_Main_unison mv_Main_unison lk_Law_105 k_Law_law_696 hp.1 rfl rfl (Nat.le_of_ble_eq_true rfl) rfl (Nat.le_of_ble_eq_true rfl) (c_Main_unison G hp w) (fun v696 h696 q696 => ?_)
  obtain ⟨rfl, hp, f1⟩ := q696
  have hm := hm.fr f1 (Or.inr (Nat.le_refl _))
  have hz := Nat.le_trans hz (Nat.le_of_eq f1.1.symm)
  obtain ⟨_, hob⟩ := hm.obj
  refine v_aload_n k_Law_law_699 rfl ?_
  refine v_callV (rc := rc) (rs := rs) (mc := 0) (ms := 0) mo_Model_unison mi_Model_unison mv_Model_unison lk_Law_108 k_Law_law_700 hob rfl rfl (Nat.le_of_ble_eq_true rfl) rfl (Nat.le_of_ble_eq_true rfl) (c_Model_unison G hm w) (fun v700 h700 q700 => ?_)
  rw [← x_unison] at q700
  obtain ⟨rfl, hm, f2⟩ := q700
  have hp := hp.fr f2 (Or.inl (by omega))
  have hz := Nat.le_trans hz (Nat.le_of_eq f2.1.symm)
  refine v_iceq_same 869 k_Law_law_703 rfl ?_
  exact back _ _ hp hm (w) hz
set_option maxHeartbeats 1000000 in
set_option maxRecDepth 20000 in
theorem law_23 (G : Gx) (nm : String) (hL : gL G ≤ 1536) (rc rs i : Nat) (S : St) (h : AH) (hi : (i : Int) + 3 ≤ gL G) (hp : pMain h 100 S) (hm : pMS h 173 S) (w : wSt S) (hz : 184 ≤ h.1) (back : ∀ (S' : St) (h' : AH), pMain h' 100 S' → pMS h' 173 S' → wSt S' → 184 ≤ h'.1 → V G (Y_Law nm) 11 rc rs 869 [some (aR 0), some (aR 100), some (aR 173), some (aI (i : Int))] [] h' (fun v _ => v = some (aI 1))) : V G (Y_Law nm) 11 rc rs 708 [some (aR 0), some (aR 100), some (aR 173), some (aI (i : Int))] [] h (fun v _ => v = some (aI 1)) := by
  refine v_aload_n k_Law_law_708 rfl ?_
  refine v_aload_n k_Law_law_709 rfl ?_
  refine v_iload_n k_Law_law_710 rfl ?_
  refine v_iconst k_Law_law_711 ?_
  refine v_iadd k_Law_law_712 ?_
  refine v_sld (by omega) rfl k_Law_law_713 ?_
  refine v_callV (rc := rc) (rs := rs) (mc := 0) (ms := 0) mo_Main_row mi_Main_row mv_Main_row lk_Law_109 k_Law_law_714 hp.1 rfl rfl (Nat.le_of_ble_eq_true rfl) rfl (Nat.le_of_ble_eq_true rfl) (c_Main_row G hp w (InR_toInt _)) (fun v714 h714 q714 => ?_)
  obtain ⟨rfl, hp, f1⟩ := q714
  have hm := hm.fr f1 (Or.inr (Nat.le_refl _))
  have hz := Nat.le_trans hz (Nat.le_of_eq f1.1.symm)
  obtain ⟨_, hob⟩ := hm.obj
  refine v_aload_n k_Law_law_717 rfl ?_
  refine v_aload_n k_Law_law_718 rfl ?_
  refine v_iload_n k_Law_law_719 rfl ?_
  refine v_iconst k_Law_law_720 ?_
  refine v_iadd k_Law_law_721 ?_
  refine v_sld (by omega) rfl k_Law_law_722 ?_
  refine v_callV (rc := rc) (rs := rs) (mc := 0) (ms := 0) mo_Model_row mi_Model_row mv_Model_row lk_Law_112 k_Law_law_723 hob rfl rfl (Nat.le_of_ble_eq_true rfl) rfl (Nat.le_of_ble_eq_true rfl) (c_Model_row G hm w (InR_toInt _)) (fun v723 h723 q723 => ?_)
  obtain ⟨rfl, hm, f2⟩ := q723
  have hp := hp.fr f2 (Or.inl (by omega))
  have hz := Nat.le_trans hz (Nat.le_of_eq f2.1.symm)
  refine v_iceq_same 869 k_Law_law_726 rfl ?_
  exact back _ _ hp hm (w_row w _) hz
set_option maxHeartbeats 1000000 in
set_option maxRecDepth 20000 in
theorem law_24 (G : Gx) (nm : String) (hL : gL G ≤ 1536) (rc rs i : Nat) (S : St) (h : AH) (hi : (i : Int) + 3 ≤ gL G) (hp : pMain h 100 S) (hm : pMS h 173 S) (w : wSt S) (hz : 184 ≤ h.1) (back : ∀ (S' : St) (h' : AH), pMain h' 100 S' → pMS h' 173 S' → wSt S' → 184 ≤ h'.1 → V G (Y_Law nm) 11 rc rs 869 [some (aR 0), some (aR 100), some (aR 173), some (aI (i : Int))] [] h' (fun v _ => v = some (aI 1))) : V G (Y_Law nm) 11 rc rs 731 [some (aR 0), some (aR 100), some (aR 173), some (aI (i : Int))] [] h (fun v _ => v = some (aI 1)) := by
  refine v_aload_n k_Law_law_731 rfl ?_
  refine v_aload_n k_Law_law_732 rfl ?_
  refine v_iload_n k_Law_law_733 rfl ?_
  refine v_iconst k_Law_law_734 ?_
  refine v_iadd k_Law_law_735 ?_
  refine v_sld (by omega) rfl k_Law_law_736 ?_
  refine v_callV (rc := rc) (rs := rs) (mc := 0) (ms := 0) mo_Main_who mi_Main_who mv_Main_who lk_Law_113 k_Law_law_737 hp.1 rfl rfl (Nat.le_of_ble_eq_true rfl) rfl (Nat.le_of_ble_eq_true rfl) (c_Main_who G hp w (InR_toInt _)) (fun v737 h737 q737 => ?_)
  obtain ⟨rfl, hp, f1⟩ := q737
  have hm := hm.fr f1 (Or.inr (Nat.le_refl _))
  have hz := Nat.le_trans hz (Nat.le_of_eq f1.1.symm)
  obtain ⟨_, hob⟩ := hm.obj
  refine v_aload_n k_Law_law_740 rfl ?_
  refine v_aload_n k_Law_law_741 rfl ?_
  refine v_iload_n k_Law_law_742 rfl ?_
  refine v_iconst k_Law_law_743 ?_
  refine v_iadd k_Law_law_744 ?_
  refine v_sld (by omega) rfl k_Law_law_745 ?_
  refine v_callV (rc := rc) (rs := rs) (mc := 0) (ms := 0) mo_Model_who mi_Model_who mv_Model_who lk_Law_116 k_Law_law_746 hob rfl rfl (Nat.le_of_ble_eq_true rfl) rfl (Nat.le_of_ble_eq_true rfl) (c_Model_who G hm w (InR_toInt _)) (fun v746 h746 q746 => ?_)
  obtain ⟨rfl, hm, f2⟩ := q746
  have hp := hp.fr f2 (Or.inl (by omega))
  have hz := Nat.le_trans hz (Nat.le_of_eq f2.1.symm)
  refine v_iceq_same 869 k_Law_law_749 rfl ?_
  exact back _ _ hp hm (w_who w _) hz
set_option maxHeartbeats 1000000 in
set_option maxRecDepth 20000 in
theorem law_25 (G : Gx) (nm : String) (hL : gL G ≤ 1536) (rc rs i : Nat) (S : St) (h : AH) (hi : (i : Int) + 3 ≤ gL G) (hp : pMain h 100 S) (hm : pMS h 173 S) (w : wSt S) (hz : 184 ≤ h.1) (back : ∀ (S' : St) (h' : AH), pMain h' 100 S' → pMS h' 173 S' → wSt S' → 184 ≤ h'.1 → V G (Y_Law nm) 11 rc rs 869 [some (aR 0), some (aR 100), some (aR 173), some (aI (i : Int))] [] h' (fun v _ => v = some (aI 1))) : V G (Y_Law nm) 11 rc rs 754 [some (aR 0), some (aR 100), some (aR 173), some (aI (i : Int))] [] h (fun v _ => v = some (aI 1)) := by
  refine v_aload_n k_Law_law_754 rfl ?_
  refine v_aload_n k_Law_law_755 rfl ?_
  refine v_iload_n k_Law_law_756 rfl ?_
  refine v_iconst k_Law_law_757 ?_
  refine v_iadd k_Law_law_758 ?_
  refine v_sld (by omega) rfl k_Law_law_759 ?_
  refine v_aload_n k_Law_law_760 rfl ?_
  refine v_iload_n k_Law_law_761 rfl ?_
  refine v_iconst k_Law_law_762 ?_
  refine v_iadd k_Law_law_763 ?_
  refine v_sld (by omega) rfl k_Law_law_764 ?_
  refine v_callV (rc := rc) (rs := rs) (mc := 0) (ms := 0) mo_Main_judge mi_Main_judge mv_Main_judge lk_Law_117 k_Law_law_765 hp.1 rfl rfl (Nat.le_of_ble_eq_true rfl) rfl (Nat.le_of_ble_eq_true rfl) (c_Main_judge G hp w (InR_toInt _) (InR_toInt _)) (fun v765 h765 q765 => ?_)
  obtain ⟨rfl, hp, f1⟩ := q765
  have hm := hm.fr f1 (Or.inr (Nat.le_refl _))
  have hz := Nat.le_trans hz (Nat.le_of_eq f1.1.symm)
  obtain ⟨_, hob⟩ := hm.obj
  refine v_aload_n k_Law_law_768 rfl ?_
  refine v_aload_n k_Law_law_769 rfl ?_
  refine v_iload_n k_Law_law_770 rfl ?_
  refine v_iconst k_Law_law_771 ?_
  refine v_iadd k_Law_law_772 ?_
  refine v_sld (by omega) rfl k_Law_law_773 ?_
  refine v_aload_n k_Law_law_774 rfl ?_
  refine v_iload_n k_Law_law_775 rfl ?_
  refine v_iconst k_Law_law_776 ?_
  refine v_iadd k_Law_law_777 ?_
  refine v_sld (by omega) rfl k_Law_law_778 ?_
  refine v_callV (rc := rc) (rs := rs) (mc := 0) (ms := 0) mo_Model_judge mi_Model_judge mv_Model_judge lk_Law_120 k_Law_law_779 hob rfl rfl (Nat.le_of_ble_eq_true rfl) rfl (Nat.le_of_ble_eq_true rfl) (c_Model_judge G hm w (InR_toInt _) (InR_toInt _)) (fun v779 h779 q779 => ?_)
  obtain ⟨rfl, hm, f2⟩ := q779
  have hp := hp.fr f2 (Or.inl (by omega))
  have hz := Nat.le_trans hz (Nat.le_of_eq f2.1.symm)
  refine v_iceq_same 869 k_Law_law_782 rfl ?_
  exact back _ _ hp hm (w_judge w _ _) hz
set_option maxHeartbeats 1000000 in
set_option maxRecDepth 20000 in
theorem law_26 (G : Gx) (nm : String) (hL : gL G ≤ 1536) (rc rs i : Nat) (S : St) (h : AH) (hi : (i : Int) + 3 ≤ gL G) (hp : pMain h 100 S) (hm : pMS h 173 S) (w : wSt S) (hz : 184 ≤ h.1) (back : ∀ (S' : St) (h' : AH), pMain h' 100 S' → pMS h' 173 S' → wSt S' → 184 ≤ h'.1 → V G (Y_Law nm) 11 rc rs 869 [some (aR 0), some (aR 100), some (aR 173), some (aI (i : Int))] [] h' (fun v _ => v = some (aI 1))) : V G (Y_Law nm) 11 rc rs 787 [some (aR 0), some (aR 100), some (aR 173), some (aI (i : Int))] [] h (fun v _ => v = some (aI 1)) := by
  refine v_aload_n k_Law_law_787 rfl ?_
  refine v_aload_n k_Law_law_788 rfl ?_
  refine v_iload_n k_Law_law_789 rfl ?_
  refine v_iconst k_Law_law_790 ?_
  refine v_iadd k_Law_law_791 ?_
  refine v_sld (by omega) rfl k_Law_law_792 ?_
  refine v_aload_n k_Law_law_793 rfl ?_
  refine v_iload_n k_Law_law_794 rfl ?_
  refine v_iconst k_Law_law_795 ?_
  refine v_iadd k_Law_law_796 ?_
  refine v_sld (by omega) rfl k_Law_law_797 ?_
  refine v_callV (rc := rc) (rs := rs) (mc := 0) (ms := 0) mo_Main_seeds mi_Main_seeds mv_Main_seeds lk_Law_121 k_Law_law_798 hp.1 rfl rfl (Nat.le_of_ble_eq_true rfl) rfl (Nat.le_of_ble_eq_true rfl) (c_Main_seeds G hp w (InR_toInt _) (InR_toInt _) (cap_of w.v13)) (fun v798 h798 q798 => ?_)
  obtain ⟨rfl, hp, f1⟩ := q798
  have hm := hm.fr f1 (Or.inr (Nat.le_refl _))
  have hz := Nat.le_trans hz (Nat.le_of_eq f1.1.symm)
  obtain ⟨_, hob⟩ := hm.obj
  refine v_aload_n k_Law_law_801 rfl ?_
  refine v_aload_n k_Law_law_802 rfl ?_
  refine v_iload_n k_Law_law_803 rfl ?_
  refine v_iconst k_Law_law_804 ?_
  refine v_iadd k_Law_law_805 ?_
  refine v_sld (by omega) rfl k_Law_law_806 ?_
  refine v_aload_n k_Law_law_807 rfl ?_
  refine v_iload_n k_Law_law_808 rfl ?_
  refine v_iconst k_Law_law_809 ?_
  refine v_iadd k_Law_law_810 ?_
  refine v_sld (by omega) rfl k_Law_law_811 ?_
  refine v_callV (rc := rc) (rs := rs) (mc := 0) (ms := 0) mo_Model_seeds mi_Model_seeds mv_Model_seeds lk_Law_124 k_Law_law_812 hob rfl rfl (Nat.le_of_ble_eq_true rfl) rfl (Nat.le_of_ble_eq_true rfl) (c_Model_seeds G hm w (InR_toInt _) (InR_toInt _)) (fun v812 h812 q812 => ?_)
  rw [← x_seeds w] at q812
  obtain ⟨rfl, hm, f2⟩ := q812
  have hp := hp.fr f2 (Or.inl (by omega))
  have hz := Nat.le_trans hz (Nat.le_of_eq f2.1.symm)
  refine v_iceq_same 869 k_Law_law_815 rfl ?_
  exact back _ _ hp hm (w_seeds w _ _) hz
set_option maxHeartbeats 1000000 in
set_option maxRecDepth 20000 in
theorem law_27 (G : Gx) (nm : String) (hL : gL G ≤ 1536) (rc rs i : Nat) (S : St) (h : AH) (hi : (i : Int) + 3 ≤ gL G) (hp : pMain h 100 S) (hm : pMS h 173 S) (w : wSt S) (hz : 184 ≤ h.1) (back : ∀ (S' : St) (h' : AH), pMain h' 100 S' → pMS h' 173 S' → wSt S' → 184 ≤ h'.1 → V G (Y_Law nm) 11 rc rs 869 [some (aR 0), some (aR 100), some (aR 173), some (aI (i : Int))] [] h' (fun v _ => v = some (aI 1))) : V G (Y_Law nm) 11 rc rs 820 [some (aR 0), some (aR 100), some (aR 173), some (aI (i : Int))] [] h (fun v _ => v = some (aI 1)) := by
  refine v_aload_n k_Law_law_820 rfl ?_
  refine v_callV (rc := rc) (rs := rs) (mc := 0) (ms := 0) mo_Main_image mi_Main_image mv_Main_image lk_Law_125 k_Law_law_821 hp.1 rfl rfl (Nat.le_of_ble_eq_true rfl) rfl (Nat.le_of_ble_eq_true rfl) (c_Main_image G hp w) (fun v821 h821 q821 => ?_)
  obtain ⟨rfl, hp, f1⟩ := q821
  have hm := hm.fr f1 (Or.inr (Nat.le_refl _))
  have hz := Nat.le_trans hz (Nat.le_of_eq f1.1.symm)
  obtain ⟨_, hob⟩ := hm.obj
  refine v_aload_n k_Law_law_824 rfl ?_
  refine v_callV (rc := rc) (rs := rs) (mc := 0) (ms := 0) mo_Model_image mi_Model_image mv_Model_image lk_Law_128 k_Law_law_825 hob rfl rfl (Nat.le_of_ble_eq_true rfl) rfl (Nat.le_of_ble_eq_true rfl) (c_Model_image G hm w) (fun v825 h825 q825 => ?_)
  obtain ⟨rfl, hm, f2⟩ := q825
  have hp := hp.fr f2 (Or.inl (by omega))
  have hz := Nat.le_trans hz (Nat.le_of_eq f2.1.symm)
  refine v_iceq_same 869 k_Law_law_828 rfl ?_
  exact back _ _ hp hm (w_image w) hz
set_option maxHeartbeats 1000000 in
set_option maxRecDepth 20000 in
theorem law_28 (G : Gx) (nm : String) (hL : gL G ≤ 1536) (rc rs i : Nat) (S : St) (h : AH) (hi : (i : Int) + 3 ≤ gL G) (hp : pMain h 100 S) (hm : pMS h 173 S) (w : wSt S) (hz : 184 ≤ h.1) (back : ∀ (S' : St) (h' : AH), pMain h' 100 S' → pMS h' 173 S' → wSt S' → 184 ≤ h'.1 → V G (Y_Law nm) 11 rc rs 869 [some (aR 0), some (aR 100), some (aR 173), some (aI (i : Int))] [] h' (fun v _ => v = some (aI 1))) : V G (Y_Law nm) 11 rc rs 833 [some (aR 0), some (aR 100), some (aR 173), some (aI (i : Int))] [] h (fun v _ => v = some (aI 1)) := by
  refine v_aload_n k_Law_law_833 rfl ?_
  refine v_callV (rc := rc) (rs := rs) (mc := 0) (ms := 0) mo_Main_on mi_Main_on mv_Main_on lk_Law_129 k_Law_law_834 hp.1 rfl rfl (Nat.le_of_ble_eq_true rfl) rfl (Nat.le_of_ble_eq_true rfl) (c_Main_on G hp w) (fun v834 h834 q834 => ?_)
  obtain ⟨rfl, hp, f1⟩ := q834
  have hm := hm.fr f1 (Or.inr (Nat.le_refl _))
  have hz := Nat.le_trans hz (Nat.le_of_eq f1.1.symm)
  obtain ⟨_, hob⟩ := hm.obj
  refine v_aload_n k_Law_law_837 rfl ?_
  refine v_callV (rc := rc) (rs := rs) (mc := 0) (ms := 0) mo_Model_on mi_Model_on mv_Model_on lk_Law_132 k_Law_law_838 hob rfl rfl (Nat.le_of_ble_eq_true rfl) rfl (Nat.le_of_ble_eq_true rfl) (c_Model_on G hm w) (fun v838 h838 q838 => ?_)
  obtain ⟨rfl, hm, f2⟩ := q838
  have hp := hp.fr f2 (Or.inl (by omega))
  have hz := Nat.le_trans hz (Nat.le_of_eq f2.1.symm)
  refine v_iceq_same 869 k_Law_law_841 rfl ?_
  exact back _ _ hp hm (w_on w) hz
set_option maxHeartbeats 1000000 in
set_option maxRecDepth 20000 in
theorem law_29 (G : Gx) (nm : String) (hL : gL G ≤ 1536) (rc rs i : Nat) (S : St) (h : AH) (hi : (i : Int) + 3 ≤ gL G) (hp : pMain h 100 S) (hm : pMS h 173 S) (w : wSt S) (hz : 184 ≤ h.1) (back : ∀ (S' : St) (h' : AH), pMain h' 100 S' → pMS h' 173 S' → wSt S' → 184 ≤ h'.1 → V G (Y_Law nm) 11 rc rs 869 [some (aR 0), some (aR 100), some (aR 173), some (aI (i : Int))] [] h' (fun v _ => v = some (aI 1))) : V G (Y_Law nm) 11 rc rs 846 [some (aR 0), some (aR 100), some (aR 173), some (aI (i : Int))] [] h (fun v _ => v = some (aI 1)) := by
  refine v_aload_n k_Law_law_846 rfl ?_
  refine v_aload_n k_Law_law_847 rfl ?_
  refine v_iload_n k_Law_law_848 rfl ?_
  refine v_iconst k_Law_law_849 ?_
  refine v_iadd k_Law_law_850 ?_
  refine v_sld (by omega) rfl k_Law_law_851 ?_
  refine v_callV (rc := rc) (rs := rs) (mc := 0) (ms := 0) mo_Main_count mi_Main_count mv_Main_count lk_Law_133 k_Law_law_852 hp.1 rfl rfl (Nat.le_of_ble_eq_true rfl) rfl (Nat.le_of_ble_eq_true rfl) (c_Main_count G hp w (InR_toInt _)) (fun v852 h852 q852 => ?_)
  obtain ⟨rfl, hp, f1⟩ := q852
  have hm := hm.fr f1 (Or.inr (Nat.le_refl _))
  have hz := Nat.le_trans hz (Nat.le_of_eq f1.1.symm)
  obtain ⟨_, hob⟩ := hm.obj
  refine v_aload_n k_Law_law_855 rfl ?_
  refine v_aload_n k_Law_law_856 rfl ?_
  refine v_iload_n k_Law_law_857 rfl ?_
  refine v_iconst k_Law_law_858 ?_
  refine v_iadd k_Law_law_859 ?_
  refine v_sld (by omega) rfl k_Law_law_860 ?_
  refine v_callV (rc := rc) (rs := rs) (mc := 0) (ms := 0) mo_Model_count mi_Model_count mv_Model_count lk_Law_136 k_Law_law_861 hob rfl rfl (Nat.le_of_ble_eq_true rfl) rfl (Nat.le_of_ble_eq_true rfl) (c_Model_count G hm w (InR_toInt _)) (fun v861 h861 q861 => ?_)
  obtain ⟨rfl, hm, f2⟩ := q861
  have hp := hp.fr f2 (Or.inl (by omega))
  have hz := Nat.le_trans hz (Nat.le_of_eq f2.1.symm)
  refine v_iceq_same 869 k_Law_law_864 rfl ?_
  exact back _ _ hp hm (w_count w _) hz
