/-! THE LAW: the tape, light asked, draws, ways, the nearest -/
section LD_
variable {X : am_X}
theorem lcmp_rf {x : Int64} : lg_cmp x x = 0 := by unfold lg_cmp; simp
theorem fd_B {tp : List Nat} {y1 y2 y3 y4 y5 : Int32} (h : isB tp) : isB (tp ++ fb y1 ++ fb y2 ++ fb y3 ++ fb y4 ++ fb y5) := fun x hx => by
  simp only [List.mem_append] at hx
  rcases hx with ((((hx | hx) | hx) | hx) | hx) | hx
  · exact h x hx
  · exact fbl_B 4 x hx
  · exact fbl_B 4 x hx
  · exact fbl_B 4 x hx
  · exact fbl_B 4 x hx
  · exact fbl_B 4 x hx
theorem op0 : OPL X 196 := by
  intro d i j s l5 l6 Q hX hi hj hL hG
  obtain ⟨hF, hro, P, r, w, pd, row, day, left, acts, di, se, to, bks, wds, lis, li, tp, ke, hwf, hC, hM⟩ := hL
  have ⟨⟨w0, w1, w2, w3, w4, w5, w6, w7, w8⟩, ⟨x1, x2, x3⟩, ⟨y1, y2⟩, ⟨z1, z2, z3⟩, z4⟩ := hwf
  have ⟨⟨hR, hW, hA, hD, d33, d42⟩, ⟨hS, hT, ht, hDf, hH⟩, ⟨hQ, hK, hZ⟩, hke, bp, wp, lp, hKS⟩ := hC
  have ⟨kB, kW, kL, kSE, kN, kb1, kb2, kb3, kl1, kl2, kl3, kn1, kn2⟩ := hKS
  have ⟨⟨mW, mA, mD⟩, ⟨mS, mT, mt⟩, ⟨mB, mWl, mL⟩, ⟨m32, m43⟩, mke⟩ := hM
  have hP5 : P ≤ 5 := w1
  refine g_p t285_196 rfl ?_
  refine g_p t285_197 rfl ?_
  refine g_p t285_198 rfl ?_
  refine g_k (n := 1) t285_200 rfl rfl ?_
  refine g_addn t285_201 ?_
  refine r_xld t285_202 hX (by omega) ?_
  refine g_p t285_203 rfl ?_
  refine g_p t285_204 rfl ?_
  refine g_k (n := 2) t285_206 rfl rfl ?_
  refine g_addn t285_207 ?_
  refine r_xld t285_208 hX (by omega) ?_
  refine g_p t285_209 rfl ?_
  refine g_p t285_210 rfl ?_
  refine g_k (n := 3) t285_212 rfl rfl ?_
  refine g_addn t285_213 ?_
  refine r_xld t285_214 hX (by omega) ?_
  refine g_p t285_215 rfl ?_
  refine g_p t285_216 rfl ?_
  refine g_k (n := 4) t285_218 rfl rfl ?_
  refine g_addn t285_219 ?_
  refine r_xld t285_220 hX (by omega) ?_
  refine g_p t285_221 rfl ?_
  refine g_p t285_222 rfl ?_
  refine g_k (n := 5) t285_224 rfl rfl ?_
  refine g_addn t285_225 ?_
  refine r_xld t285_226 hX (by omega) ?_
  refine r_cv t285_227 (f0 hF) rfl ?_
  refine c119 (by exact hF) ht z2 (fun s1 f1 L1 => ?_)
  have hC1 := hC.tpe f1 L1
  have hM1 := hM.cf hF f1 (by decide)
  have hF1 := hF.fr f1
  have hF := hF1
  have nx1 := f1.nx
  have ⟨⟨mW, mA, mD⟩, ⟨mS, mT, mt⟩, ⟨mB, mWl, mL⟩, ⟨m32, m43⟩, mke⟩ := hM1
  refine k_v ?_ rfl
  refine g_p t285_230 rfl ?_
  refine g_p t285_231 rfl ?_
  refine g_p t285_232 rfl ?_
  refine g_k (n := 1) t285_234 rfl rfl ?_
  refine g_addn t285_235 ?_
  refine r_xld t285_236 hX (by omega) ?_
  refine g_p t285_237 rfl ?_
  refine g_p t285_238 rfl ?_
  refine g_k (n := 2) t285_240 rfl rfl ?_
  refine g_addn t285_241 ?_
  refine r_xld t285_242 hX (by omega) ?_
  refine g_p t285_243 rfl ?_
  refine g_p t285_244 rfl ?_
  refine g_k (n := 3) t285_246 rfl rfl ?_
  refine g_addn t285_247 ?_
  refine r_xld t285_248 hX (by omega) ?_
  refine g_p t285_249 rfl ?_
  refine g_p t285_250 rfl ?_
  refine g_k (n := 4) t285_252 rfl rfl ?_
  refine g_addn t285_253 ?_
  refine r_xld t285_254 hX (by omega) ?_
  refine g_p t285_255 rfl ?_
  refine g_p t285_256 rfl ?_
  refine g_k (n := 5) t285_258 rfl rfl ?_
  refine g_addn t285_259 ?_
  refine r_xld t285_260 hX (by omega) ?_
  refine r_cv t285_261 (f80 hF) rfl ?_
  refine c181 (by exact hF1) mt z2 (fun s2 f2 L2 => ?_)
  refine k_v ?_ rfl
  refine g_ceq t285_264 (fun h264 => ?_) (fun h264 => ?_)
  · exact hG _ _ _ (LI.ok (s := s) (hF1.fr f2.1) hro (f2.1.nx.trans nx1) ⟨hwf.1, hwf.2.1, hwf.2.2.1, ⟨z1, by split <;> assumption, by split; exact fd_B z3; exact z3⟩, hwf.2.2.2.2⟩ (hC1.fm f2 (by decide)) (hM1.tpe f2 L2))
  · exact absurd rfl h264
theorem op1 : OPL X 269 := by
  intro d i j s l5 l6 Q hX hi hj hL hG
  obtain ⟨hF, hro, P, r, w, pd, row, day, left, acts, di, se, to, bks, wds, lis, li, tp, ke, hwf, hC, hM⟩ := hL
  have ⟨⟨w0, w1, w2, w3, w4, w5, w6, w7, w8⟩, ⟨x1, x2, x3⟩, ⟨y1, y2⟩, ⟨z1, z2, z3⟩, z4⟩ := hwf
  have ⟨⟨hR, hW, hA, hD, d33, d42⟩, ⟨hS, hT, ht, hDf, hH⟩, ⟨hQ, hK, hZ⟩, hke, bp, wp, lp, hKS⟩ := hC
  have ⟨kB, kW, kL, kSE, kN, kb1, kb2, kb3, kl1, kl2, kl3, kn1, kn2⟩ := hKS
  have ⟨⟨mW, mA, mD⟩, ⟨mS, mT, mt⟩, ⟨mB, mWl, mL⟩, ⟨m32, m43⟩, mke⟩ := hM
  have hP5 : P ≤ 5 := w1
  by_cases hk : (X.2 (i + 1)) < 0 ∨ nI tp.length < (X.2 (i + 1))
  · refine g_p t285_269 rfl ?_
    refine g_p t285_270 rfl ?_
    refine g_p t285_271 rfl ?_
    refine g_k (n := 1) t285_273 rfl rfl ?_
    refine g_addn t285_274 ?_
    refine r_xld t285_275 hX (by omega) ?_
    refine r_cv t285_276 (f0 hF) rfl ?_
    refine c121f (by exact hF) ht z2 hk ?_
    refine k_v ?_ rfl
    refine g_p t285_279 rfl ?_
    refine g_p t285_280 rfl ?_
    refine g_p t285_281 rfl ?_
    refine g_k (n := 1) t285_283 rfl rfl ?_
    refine g_addn t285_284 ?_
    refine r_xld t285_285 hX (by omega) ?_
    refine r_cv t285_286 (f80 hF) rfl ?_
    refine c182f (by exact hF) mt z2 hk ?_
    refine k_v ?_ rfl
    refine g_ceq t285_289 (fun h289 => ?_) (fun h289 => ?_)
    · exact hG _ _ _ (LI.ok (s := s) (by exact hF) hro rfl hwf hC.w0 hM.w0)
    · exact absurd rfl h289
  · have hx0 : ¬ (X.2 (i + 1)) < 0 := fun h => hk (Or.inl h)
    obtain ⟨k, hk31, e⟩ := nI_of hx0
    have hkl : k ≤ tp.length := by
      rcases Nat.lt_or_ge tp.length k with h | h
      · exact absurd (Or.inr (by rw [e]; exact (nI_ltI (by omega) hk31).mpr h)) hk
      · exact h
    refine g_p t285_269 rfl ?_
    refine g_p t285_270 rfl ?_
    refine g_p t285_271 rfl ?_
    refine g_k (n := 1) t285_273 rfl rfl ?_
    refine g_addn t285_274 ?_
    refine r_xld t285_275 hX (by omega) ?_
    refine r_cv t285_276 (f0 hF) rfl ?_
    rw [e]
    refine c121t (by exact hF) ht z2 hkl (fun s1 f1 L1 => ?_)
    have hC1 := hC.tpe (f1.mono (by decide)) L1
    have hM1 := hM.cf hF f1 (by decide)
    have hF1 := hF.fr f1
    have hF := hF1
    have nx1 := f1.nx
    have ⟨⟨mW, mA, mD⟩, ⟨mS, mT, mt⟩, ⟨mB, mWl, mL⟩, ⟨m32, m43⟩, mke⟩ := hM1
    refine k_v ?_ rfl
    refine g_p t285_279 rfl ?_
    refine g_p t285_280 rfl ?_
    refine g_p t285_281 rfl ?_
    refine g_k (n := 1) t285_283 rfl rfl ?_
    refine g_addn t285_284 ?_
    refine r_xld t285_285 hX (by omega) ?_
    refine r_cv t285_286 (f80 hF) rfl ?_
    rw [e]
    refine c182t (by exact hF1) mt z2 hkl (fun s2 f2 L2 => ?_)
    refine k_v ?_ rfl
    refine g_ceq t285_289 (fun h289 => ?_) (fun h289 => ?_)
    · exact hG _ _ _ (LI.ok (s := s) (hF1.fr f2.1) hro (f2.1.nx.trans nx1) ⟨hwf.1, hwf.2.1, hwf.2.2.1, ⟨z1, by rw [List.length_take]; omega, fun x hx => z3 x (List.mem_of_mem_take hx)⟩, hwf.2.2.2.2⟩ (hC1.fm f2 (by decide)) (hM1.tpe (f2.mono (by decide) (by decide)) L2))
    · exact absurd rfl h289
theorem op5 : OPL X 400 := by
  intro d i j s l5 l6 Q hX hi hj hL hG
  obtain ⟨hF, hro, P, r, w, pd, row, day, left, acts, di, se, to, bks, wds, lis, li, tp, ke, hwf, hC, hM⟩ := hL
  have ⟨⟨w0, w1, w2, w3, w4, w5, w6, w7, w8⟩, ⟨x1, x2, x3⟩, ⟨y1, y2⟩, ⟨z1, z2, z3⟩, z4⟩ := hwf
  have ⟨⟨hR, hW, hA, hD, d33, d42⟩, ⟨hS, hT, ht, hDf, hH⟩, ⟨hQ, hK, hZ⟩, hke, bp, wp, lp, hKS⟩ := hC
  have ⟨kB, kW, kL, kSE, kN, kb1, kb2, kb3, kl1, kl2, kl3, kn1, kn2⟩ := hKS
  have ⟨⟨mW, mA, mD⟩, ⟨mS, mT, mt⟩, ⟨mB, mWl, mL⟩, ⟨m32, m43⟩, mke⟩ := hM
  have hP5 : P ≤ 5 := w1
  by_cases hk : inN P (X.2 (i + 1)) = true ∧ isS (X.2 (i + 2)) = true
  · obtain ⟨k1, k2⟩ := hk
    obtain ⟨q, hq, e⟩ := inN_t k1 (by omega)
    cases li with
    | none =>
      refine g_p t285_400 rfl ?_
      refine g_p t285_401 rfl ?_
      refine g_p t285_402 rfl ?_
      refine g_k (n := 1) t285_404 rfl rfl ?_
      refine g_addn t285_405 ?_
      refine r_xld t285_406 hX (by omega) ?_
      refine g_p t285_407 rfl ?_
      refine g_p t285_408 rfl ?_
      refine g_k (n := 2) t285_410 rfl rfl ?_
      refine g_addn t285_411 ?_
      refine r_xld t285_412 hX (by omega) ?_
      refine r_cv t285_413 (f0 hF) rfl ?_
      rw [e]
      refine c137n (by exact hF) hR.1 hP5 hq k2 hH.1 ?_
      refine k_v ?_ rfl
      refine g_p t285_416 rfl ?_
      refine g_p t285_417 rfl ?_
      refine g_p t285_418 rfl ?_
      refine g_k (n := 1) t285_420 rfl rfl ?_
      refine g_addn t285_421 ?_
      refine r_xld t285_422 hX (by omega) ?_
      refine g_p t285_423 rfl ?_
      refine g_p t285_424 rfl ?_
      refine g_k (n := 2) t285_426 rfl rfl ?_
      refine g_addn t285_427 ?_
      refine r_xld t285_428 hX (by omega) ?_
      refine r_cv t285_429 (f80 hF) rfl ?_
      rw [e]
      refine c221n (by exact hF) mW.1 hP5 hq k2 m32 ?_
      refine k_v ?_ rfl
      refine g_ceq t285_432 (fun h432 => ?_) (fun h432 => ?_)
      · exact hG _ _ _ (LI.ok (s := s) (by exact hF) hro rfl hwf hC.w0 hM.w0)
      · exact absurd rfl h432
    | some l =>
      refine g_p t285_400 rfl ?_
      refine g_p t285_401 rfl ?_
      refine g_p t285_402 rfl ?_
      refine g_k (n := 1) t285_404 rfl rfl ?_
      refine g_addn t285_405 ?_
      refine r_xld t285_406 hX (by omega) ?_
      refine g_p t285_407 rfl ?_
      refine g_p t285_408 rfl ?_
      refine g_k (n := 2) t285_410 rfl rfl ?_
      refine g_addn t285_411 ?_
      refine r_xld t285_412 hX (by omega) ?_
      refine r_cv t285_413 (f0 hF) rfl ?_
      rw [e]
      refine c137t (by exact hF) hR.1 hP5 hq k2 hW hH.1 (fun s1 f1 => ?_)
      have hC1 := (hC.cA (s' := lgo s1 s) f1.fi.fr (by decide) (by decide) (hQ.fr f1.fi.fr (by decide)) (hK.fr f1.fi.fr (by decide) (by decide)) (hZ.fr f1.fi.fr (by decide) (by decide))).lgo
      have hM1 := hM.cl hF f1 (by decide)
      have hF1 := f1.fx hF
      have hF := hF1
      have nx1 : s1.2.2.2 = s.2.2.2 := f1.2.1
      have ⟨⟨mW, mA, mD⟩, ⟨mS, mT, mt⟩, ⟨mB, mWl, mL⟩, ⟨m32, m43⟩, mke⟩ := hM1
      refine k_v ?_ rfl
      refine g_p t285_416 rfl ?_
      refine g_p t285_417 rfl ?_
      refine g_p t285_418 rfl ?_
      refine g_k (n := 1) t285_420 rfl rfl ?_
      refine g_addn t285_421 ?_
      refine r_xld t285_422 hX (by omega) ?_
      refine g_p t285_423 rfl ?_
      refine g_p t285_424 rfl ?_
      refine g_k (n := 2) t285_426 rfl rfl ?_
      refine g_addn t285_427 ?_
      refine r_xld t285_428 hX (by omega) ?_
      refine r_cv t285_429 (f80 hF) rfl ?_
      rw [e]
      refine c221t (by exact hF1) mW.1 hP5 mW.2.2.2.1 w6 mL m32 (z1 l rfl) hq k2 (fun s2 f2 => ?_)
      refine k_v ?_ rfl
      refine g_ceq t285_432 (fun h432 => ?_) (fun h432 => ?_)
      · exact hG _ _ _ (LI.ok (s := s) (hF1.fr f2.1) hro (f2.1.nx.trans nx1) hwf (hC1.fm f2 (by decide)) (hM1.fm f2 (by decide) (by decide) ((f2.f (by decide)).trans m43)))
      · exact absurd rfl h432
  · refine g_p t285_400 rfl ?_
    refine g_p t285_401 rfl ?_
    refine g_p t285_402 rfl ?_
    refine g_k (n := 1) t285_404 rfl rfl ?_
    refine g_addn t285_405 ?_
    refine r_xld t285_406 hX (by omega) ?_
    refine g_p t285_407 rfl ?_
    refine g_p t285_408 rfl ?_
    refine g_k (n := 2) t285_410 rfl rfl ?_
    refine g_addn t285_411 ?_
    refine r_xld t285_412 hX (by omega) ?_
    refine r_cv t285_413 (f0 hF) rfl ?_
    refine c137f (by exact hF) hR.1 hP5 hk ?_
    refine k_v ?_ rfl
    refine g_p t285_416 rfl ?_
    refine g_p t285_417 rfl ?_
    refine g_p t285_418 rfl ?_
    refine g_k (n := 1) t285_420 rfl rfl ?_
    refine g_addn t285_421 ?_
    refine r_xld t285_422 hX (by omega) ?_
    refine g_p t285_423 rfl ?_
    refine g_p t285_424 rfl ?_
    refine g_k (n := 2) t285_426 rfl rfl ?_
    refine g_addn t285_427 ?_
    refine r_xld t285_428 hX (by omega) ?_
    refine r_cv t285_429 (f80 hF) rfl ?_
    refine c221f (by exact hF) mW.1 hk ?_
    refine k_v ?_ rfl
    refine g_ceq t285_432 (fun h432 => ?_) (fun h432 => ?_)
    · exact hG _ _ _ (LI.ok (s := s) (by exact hF) hro rfl hwf hC.w0 hM.w0)
    · exact absurd rfl h432
theorem op30 : OPL X 1319 := by
  intro d i j s l5 l6 Q hX hi hj hL hG
  obtain ⟨hF, hro, P, r, w, pd, row, day, left, acts, di, se, to, bks, wds, lis, li, tp, ke, hwf, hC, hM⟩ := hL
  have ⟨⟨w0, w1, w2, w3, w4, w5, w6, w7, w8⟩, ⟨x1, x2, x3⟩, ⟨y1, y2⟩, ⟨z1, z2, z3⟩, z4⟩ := hwf
  have ⟨⟨hR, hW, hA, hD, d33, d42⟩, ⟨hS, hT, ht, hDf, hH⟩, ⟨hQ, hK, hZ⟩, hke, bp, wp, lp, hKS⟩ := hC
  have ⟨kB, kW, kL, kSE, kN, kb1, kb2, kb3, kl1, kl2, kl3, kn1, kn2⟩ := hKS
  have ⟨⟨mW, mA, mD⟩, ⟨mS, mT, mt⟩, ⟨mB, mWl, mL⟩, ⟨m32, m43⟩, mke⟩ := hM
  have hP5 : P ≤ 5 := w1
  by_cases hk : ∃ n, DrwOK P day (X.2 (i + 1)) n
  · obtain ⟨n, hk⟩ := hk
    have hP0 : 0 < P := hk.1
    have hst := w7 hP0
    refine g_p t285_1319 rfl ?_
    refine g_p t285_1320 rfl ?_
    refine g_p t285_1321 rfl ?_
    refine g_k (n := 1) t285_1323 rfl rfl ?_
    refine g_addn t285_1324 ?_
    refine r_xld t285_1325 hX (by omega) ?_
    refine g_p t285_1326 rfl ?_
    refine g_p t285_1327 rfl ?_
    refine g_k (n := 2) t285_1329 rfl rfl ?_
    refine g_addn t285_1330 ?_
    refine r_xld t285_1331 hX (by omega) ?_
    refine g_p t285_1332 rfl ?_
    refine g_k (n := 32) t285_1333 rfl rfl ?_
    refine g_p t285_1335 rfl ?_
    refine g_p t285_1336 rfl ?_
    refine g_p t285_1337 rfl ?_
    refine g_k (n := 3) t285_1339 rfl rfl ?_
    refine g_addn t285_1340 ?_
    refine r_xld t285_1341 hX (by omega) ?_
    refine g_p t285_1342 rfl ?_
    refine g_p t285_1343 rfl ?_
    refine g_land t285_1346 ?_
    refine g_lor t285_1347 ?_
    refine r_cv t285_1348 (f0 hF) rfl ?_
    refine c169t (by exact hF) hR hW hA hD w2 w3 w7 hk (fun s1 f1 hA1 hW1 hD1 => ?_)
    have hC1 : CI P r w pd (_) (day + n) (pd) ([]) (_) se to bks wds lis li tp ke s1 := ⟨⟨hR.fr f1 (by decide), hW1, hA1, hD1, (f1.ri (by decide)).trans d33, (f1.ri (by decide)).trans d42⟩, ⟨hS.fr f1 (by decide), hT.fr f1 (by decide), ht.fr f1 (by decide) (by decide), hDf.lf f1.lf (by decide), hH.fr f1 (f1.ri (by decide)) (by decide)⟩, ⟨hQ.fr f1 (by decide), hK.fr f1 (by decide) (by decide), hZ.fr f1 (by decide) (by decide)⟩, hke.fr f1 (f1.ri (by decide)) (by decide) (by decide), bp, wp, lp, hKS.fr f1 (by decide) (by decide)⟩
    have hM1 := hM.cf hF f1 (by decide)
    have hF1 := hF.fr f1
    have hF := hF1
    have nx1 := f1.nx
    have ⟨⟨mW, mA, mD⟩, ⟨mS, mT, mt⟩, ⟨mB, mWl, mL⟩, ⟨m32, m43⟩, mke⟩ := hM1
    refine k_v ?_ rfl
    refine g_p t285_1351 rfl ?_
    refine g_p t285_1352 rfl ?_
    refine g_p t285_1353 rfl ?_
    refine g_k (n := 1) t285_1355 rfl rfl ?_
    refine g_addn t285_1356 ?_
    refine r_xld t285_1357 hX (by omega) ?_
    refine g_p t285_1358 rfl ?_
    refine g_p t285_1359 rfl ?_
    refine g_k (n := 2) t285_1361 rfl rfl ?_
    refine g_addn t285_1362 ?_
    refine r_xld t285_1363 hX (by omega) ?_
    refine g_p t285_1364 rfl ?_
    refine g_k (n := 32) t285_1365 rfl rfl ?_
    refine g_p t285_1367 rfl ?_
    refine g_p t285_1368 rfl ?_
    refine g_p t285_1369 rfl ?_
    refine g_k (n := 3) t285_1371 rfl rfl ?_
    refine g_addn t285_1372 ?_
    refine r_xld t285_1373 hX (by omega) ?_
    refine g_p t285_1374 rfl ?_
    refine g_p t285_1375 rfl ?_
    refine g_land t285_1378 ?_
    refine g_lor t285_1379 ?_
    refine r_cv t285_1380 (f80 hF) rfl ?_
    refine c261t (by exact hF1) hP5 mW w2 w3 m43 w7 mA mD hk (fun s2 f2 mA2 mW2 mD2 => ?_)
    refine k_v ?_ rfl
    refine g_ceq t285_1383 (fun h1383 => ?_) (fun h1383 => ?_)
    · have hM2 : MI P r w pd (_) (day + n) (pd) ([]) (_) se to bks wds lis li tp ke s2 := ⟨⟨mW2, mA2, mD2⟩, ⟨mS.fm f2 (by decide) (by decide) (by decide) (by decide), mT.fm f2 (by decide) (by decide) (by decide), mt.fm f2 (by decide) (by decide)⟩, ⟨mB.fm f2 (by decide) (by decide) (by decide) (by decide) (by decide), mWl.fm f2 (by decide) (by decide) (by decide), mL.fm f2 (by decide) (by decide) (by decide) (by decide)⟩, ⟨(f2.f (by decide)).trans m32, (f2.f (by decide)).trans m43⟩, mke.fm f2 (by decide) (by decide)⟩
      exact hG _ _ _ (LI.ok (s := s) (hF1.fr f2.1) hro (f2.1.nx.trans nx1) ⟨⟨w0, w1, w2, w3, w4, w4, hk.2.2.2.2, fun _ => lrow_std hst n, fun h => by omega⟩, ⟨fun a ha => absurd ha (List.not_mem_nil), List.Pairwise.nil, fun m hm => by show (if day ≤ m ∧ m < day + n then _ else _) < mn P; split; exact (std_t (lrow_std hst _)).1; exact x3 m (by omega)⟩, hwf.2.2.1, hwf.2.2.2.1, hwf.2.2.2.2⟩ (hC1.fm f2 (by decide)) hM2)
    · exact absurd rfl h1383
  · refine g_p t285_1319 rfl ?_
    refine g_p t285_1320 rfl ?_
    refine g_p t285_1321 rfl ?_
    refine g_k (n := 1) t285_1323 rfl rfl ?_
    refine g_addn t285_1324 ?_
    refine r_xld t285_1325 hX (by omega) ?_
    refine g_p t285_1326 rfl ?_
    refine g_p t285_1327 rfl ?_
    refine g_k (n := 2) t285_1329 rfl rfl ?_
    refine g_addn t285_1330 ?_
    refine r_xld t285_1331 hX (by omega) ?_
    refine g_p t285_1332 rfl ?_
    refine g_k (n := 32) t285_1333 rfl rfl ?_
    refine g_p t285_1335 rfl ?_
    refine g_p t285_1336 rfl ?_
    refine g_p t285_1337 rfl ?_
    refine g_k (n := 3) t285_1339 rfl rfl ?_
    refine g_addn t285_1340 ?_
    refine r_xld t285_1341 hX (by omega) ?_
    refine g_p t285_1342 rfl ?_
    refine g_p t285_1343 rfl ?_
    refine g_land t285_1346 ?_
    refine g_lor t285_1347 ?_
    refine r_cv t285_1348 (f0 hF) rfl ?_
    refine c169f (by exact hF) hR hW w6 hk ?_
    refine k_v ?_ rfl
    refine g_p t285_1351 rfl ?_
    refine g_p t285_1352 rfl ?_
    refine g_p t285_1353 rfl ?_
    refine g_k (n := 1) t285_1355 rfl rfl ?_
    refine g_addn t285_1356 ?_
    refine r_xld t285_1357 hX (by omega) ?_
    refine g_p t285_1358 rfl ?_
    refine g_p t285_1359 rfl ?_
    refine g_k (n := 2) t285_1361 rfl rfl ?_
    refine g_addn t285_1362 ?_
    refine r_xld t285_1363 hX (by omega) ?_
    refine g_p t285_1364 rfl ?_
    refine g_k (n := 32) t285_1365 rfl rfl ?_
    refine g_p t285_1367 rfl ?_
    refine g_p t285_1368 rfl ?_
    refine g_p t285_1369 rfl ?_
    refine g_k (n := 3) t285_1371 rfl rfl ?_
    refine g_addn t285_1372 ?_
    refine r_xld t285_1373 hX (by omega) ?_
    refine g_p t285_1374 rfl ?_
    refine g_p t285_1375 rfl ?_
    refine g_land t285_1378 ?_
    refine g_lor t285_1379 ?_
    refine r_cv t285_1380 (f80 hF) rfl ?_
    refine c261f (by exact hF) hP5 mW w6 hk ?_
    refine k_v ?_ rfl
    refine g_ceq t285_1383 (fun h1383 => ?_) (fun h1383 => ?_)
    · exact hG _ _ _ (LI.ok (s := s) (by exact hF) hro rfl hwf hC.w0 hM.w0)
    · exact absurd rfl h1383
theorem op24 : OPL X 1143 := by
  intro d i j s l5 l6 Q hX hi hj hL hG
  obtain ⟨hF, hro, P, r, w, pd, row, day, left, acts, di, se, to, bks, wds, lis, li, tp, ke, hwf, hC, hM⟩ := hL
  have ⟨⟨w0, w1, w2, w3, w4, w5, w6, w7, w8⟩, ⟨x1, x2, x3⟩, ⟨y1, y2⟩, ⟨z1, z2, z3⟩, z4⟩ := hwf
  have ⟨⟨hR, hW, hA, hD, d33, d42⟩, ⟨hS, hT, ht, hDf, hH⟩, ⟨hQ, hK, hZ⟩, hke, bp, wp, lp, hKS⟩ := hC
  have ⟨kB, kW, kL, kSE, kN, kb1, kb2, kb3, kl1, kl2, kl3, kn1, kn2⟩ := hKS
  have ⟨⟨mW, mA, mD⟩, ⟨mS, mT, mt⟩, ⟨mB, mWl, mL⟩, ⟨m32, m43⟩, mke⟩ := hM
  have hP5 : P ≤ 5 := w1
  by_cases hk : ∃ n, WayOK P (X.2 (i + 1)) n
  · obtain ⟨n, hk⟩ := hk
    refine g_p t285_1143 rfl ?_
    refine g_p t285_1144 rfl ?_
    refine g_p t285_1145 rfl ?_
    refine g_k (n := 1) t285_1147 rfl rfl ?_
    refine g_addn t285_1148 ?_
    refine r_xld t285_1149 hX (by omega) ?_
    refine r_cv t285_1150 (f0 hF) rfl ?_
    refine c161t (by exact hF) hR hW w2 w3 w4 w5 w7 hQ hK hS y1 hk (fun s1 f1 hQ1 hK1 => ?_)
    have hC1 : CI P r w pd row day left acts di se to bks wds lis li tp ke s1 := (hC.cA (s' := lgo s1 s) f1.fr (by decide) (by decide) hQ1 hK1 (hZ.fr f1.fr (by decide) (by decide))).lgo
    have hM1 := hM.ci hF f1 (by decide)
    have hF1 : Fx s1 := fun p hp => by rw [f1.1]; exact hF p hp
    have hF := hF1
    have nx1 : s1.2.2.2 = s.2.2.2 := f1.2.1
    have ⟨⟨mW, mA, mD⟩, ⟨mS, mT, mt⟩, ⟨mB, mWl, mL⟩, ⟨m32, m43⟩, mke⟩ := hM1
    refine k_v ?_ rfl
    refine g_p t285_1153 rfl ?_
    refine g_p t285_1154 rfl ?_
    refine g_p t285_1155 rfl ?_
    refine g_k (n := 1) t285_1157 rfl rfl ?_
    refine g_addn t285_1158 ?_
    refine r_xld t285_1159 hX (by omega) ?_
    refine r_cv t285_1160 (f80 hF) rfl ?_
    refine c254t (by exact hF1) hP5 mW w2 w3 m43 w7 w5 w4 mS y1 hk (fun s2 f2 => ?_)
    refine k_v ?_ rfl
    refine g_p t285_1163 rfl ?_
    refine g_eq t285_1164 (fun h1164 => ?_) (fun h1164 => ?_)
    · exact hG _ _ _ (LI.ok (s := s) (f2.1.fx hF1) hro (show s2.2.2.2 = s.2.2.2 from f2.1.2.1.trans nx1) hwf ((hC1.fm (s' := lgo s2 s1) f2.fm (by decide)).lgo) ((hM1.fm (s' := lgo s2 s1) f2.fm (by decide) (by decide) ((f2.fm.f (i := 43) (by decide)).trans m43)).lgo))
    · exact absurd lcmp_rf h1164
  · refine g_p t285_1143 rfl ?_
    refine g_p t285_1144 rfl ?_
    refine g_p t285_1145 rfl ?_
    refine g_k (n := 1) t285_1147 rfl rfl ?_
    refine g_addn t285_1148 ?_
    refine r_xld t285_1149 hX (by omega) ?_
    refine r_cv t285_1150 (f0 hF) rfl ?_
    refine c161f (by exact hF) hR hk ?_
    refine k_v ?_ rfl
    refine g_p t285_1153 rfl ?_
    refine g_p t285_1154 rfl ?_
    refine g_p t285_1155 rfl ?_
    refine g_k (n := 1) t285_1157 rfl rfl ?_
    refine g_addn t285_1158 ?_
    refine r_xld t285_1159 hX (by omega) ?_
    refine r_cv t285_1160 (f80 hF) rfl ?_
    refine c254f (by exact hF) hP5 mW.1 hk ?_
    refine k_v ?_ rfl
    refine g_p t285_1163 rfl ?_
    refine g_eq t285_1164 (fun h1164 => ?_) (fun h1164 => ?_)
    · exact hG _ _ _ (LI.ok (s := s) (by exact hF) hro rfl hwf hC.w0 hM.w0)
    · exact absurd lcmp_rf h1164
theorem op25 : OPL X 1169 := by
  intro d i j s l5 l6 Q hX hi hj hL hG
  obtain ⟨hF, hro, P, r, w, pd, row, day, left, acts, di, se, to, bks, wds, lis, li, tp, ke, hwf, hC, hM⟩ := hL
  have ⟨⟨w0, w1, w2, w3, w4, w5, w6, w7, w8⟩, ⟨x1, x2, x3⟩, ⟨y1, y2⟩, ⟨z1, z2, z3⟩, z4⟩ := hwf
  have ⟨⟨hR, hW, hA, hD, d33, d42⟩, ⟨hS, hT, ht, hDf, hH⟩, ⟨hQ, hK, hZ⟩, hke, bp, wp, lp, hKS⟩ := hC
  have ⟨kB, kW, kL, kSE, kN, kb1, kb2, kb3, kl1, kl2, kl3, kn1, kn2⟩ := hKS
  have ⟨⟨mW, mA, mD⟩, ⟨mS, mT, mt⟩, ⟨mB, mWl, mL⟩, ⟨m32, m43⟩, mke⟩ := hM
  have hP5 : P ≤ 5 := w1
  by_cases hk : ∃ n q, LikOK P (bG P bks (X.2 (i + 1))) (X.2 (i + 2)) (X.2 (i + 3)) (X.2 (i + 4)) n q
  · obtain ⟨n, q, hk⟩ := hk
    obtain ⟨b, hb⟩ := Option.isSome_iff_exists.mp hk.1
    refine g_p t285_1169 rfl ?_
    refine g_p t285_1170 rfl ?_
    refine g_p t285_1171 rfl ?_
    refine g_k (n := 1) t285_1173 rfl rfl ?_
    refine g_addn t285_1174 ?_
    refine r_xld t285_1175 hX (by omega) ?_
    refine g_p t285_1176 rfl ?_
    refine g_p t285_1177 rfl ?_
    refine g_k (n := 2) t285_1179 rfl rfl ?_
    refine g_addn t285_1180 ?_
    refine r_xld t285_1181 hX (by omega) ?_
    refine g_p t285_1182 rfl ?_
    refine g_p t285_1183 rfl ?_
    refine g_k (n := 3) t285_1185 rfl rfl ?_
    refine g_addn t285_1186 ?_
    refine r_xld t285_1187 hX (by omega) ?_
    refine g_p t285_1188 rfl ?_
    refine g_p t285_1189 rfl ?_
    refine g_k (n := 4) t285_1191 rfl rfl ?_
    refine g_addn t285_1192 ?_
    refine r_xld t285_1193 hX (by omega) ?_
    refine r_cv t285_1194 (f0 hF) rfl ?_
    refine c162t (by exact hF) hR hW w2 w3 w4 w5 w7 hQ hK hS y1 kB kl1 hk hb (fun s1 f1 hQ1 hK1 => ?_)
    have hC1 : CI P r w pd row day left acts di se to bks wds lis li tp ke s1 := (hC.cA (s' := lgo s1 s) f1.fr (by decide) (by decide) hQ1 hK1 (hZ.fr f1.fr (by decide) (by decide))).lgo
    have hM1 := hM.ci hF f1 (by decide)
    have hF1 : Fx s1 := fun p hp => by rw [f1.1]; exact hF p hp
    have hF := hF1
    have nx1 : s1.2.2.2 = s.2.2.2 := f1.2.1
    have ⟨⟨mW, mA, mD⟩, ⟨mS, mT, mt⟩, ⟨mB, mWl, mL⟩, ⟨m32, m43⟩, mke⟩ := hM1
    refine k_v ?_ rfl
    refine g_p t285_1197 rfl ?_
    refine g_p t285_1198 rfl ?_
    refine g_p t285_1199 rfl ?_
    refine g_k (n := 1) t285_1201 rfl rfl ?_
    refine g_addn t285_1202 ?_
    refine r_xld t285_1203 hX (by omega) ?_
    refine g_p t285_1204 rfl ?_
    refine g_p t285_1205 rfl ?_
    refine g_k (n := 2) t285_1207 rfl rfl ?_
    refine g_addn t285_1208 ?_
    refine r_xld t285_1209 hX (by omega) ?_
    refine g_p t285_1210 rfl ?_
    refine g_p t285_1211 rfl ?_
    refine g_k (n := 3) t285_1213 rfl rfl ?_
    refine g_addn t285_1214 ?_
    refine r_xld t285_1215 hX (by omega) ?_
    refine g_p t285_1216 rfl ?_
    refine g_p t285_1217 rfl ?_
    refine g_k (n := 4) t285_1219 rfl rfl ?_
    refine g_addn t285_1220 ?_
    refine r_xld t285_1221 hX (by omega) ?_
    refine r_cv t285_1222 (f80 hF) rfl ?_
    refine c255t (by exact hF1) hP5 mW w2 w3 m43 w7 w5 w4 mS y1 mB hk hb (fun s2 f2 => ?_)
    refine k_v ?_ rfl
    refine g_p t285_1225 rfl ?_
    refine g_eq t285_1226 (fun h1226 => ?_) (fun h1226 => ?_)
    · exact hG _ _ _ (LI.ok (s := s) (f2.1.fx hF1) hro (show s2.2.2.2 = s.2.2.2 from f2.1.2.1.trans nx1) hwf ((hC1.fm (s' := lgo s2 s1) f2.fm (by decide)).lgo) ((hM1.fm (s' := lgo s2 s1) f2.fm (by decide) (by decide) ((f2.fm.f (i := 43) (by decide)).trans m43)).lgo))
    · exact absurd lcmp_rf h1226
  · refine g_p t285_1169 rfl ?_
    refine g_p t285_1170 rfl ?_
    refine g_p t285_1171 rfl ?_
    refine g_k (n := 1) t285_1173 rfl rfl ?_
    refine g_addn t285_1174 ?_
    refine r_xld t285_1175 hX (by omega) ?_
    refine g_p t285_1176 rfl ?_
    refine g_p t285_1177 rfl ?_
    refine g_k (n := 2) t285_1179 rfl rfl ?_
    refine g_addn t285_1180 ?_
    refine r_xld t285_1181 hX (by omega) ?_
    refine g_p t285_1182 rfl ?_
    refine g_p t285_1183 rfl ?_
    refine g_k (n := 3) t285_1185 rfl rfl ?_
    refine g_addn t285_1186 ?_
    refine r_xld t285_1187 hX (by omega) ?_
    refine g_p t285_1188 rfl ?_
    refine g_p t285_1189 rfl ?_
    refine g_k (n := 4) t285_1191 rfl rfl ?_
    refine g_addn t285_1192 ?_
    refine r_xld t285_1193 hX (by omega) ?_
    refine r_cv t285_1194 (f0 hF) rfl ?_
    refine c162f (by exact hF) hR kB kl1 hk ?_
    refine k_v ?_ rfl
    refine g_p t285_1197 rfl ?_
    refine g_p t285_1198 rfl ?_
    refine g_p t285_1199 rfl ?_
    refine g_k (n := 1) t285_1201 rfl rfl ?_
    refine g_addn t285_1202 ?_
    refine r_xld t285_1203 hX (by omega) ?_
    refine g_p t285_1204 rfl ?_
    refine g_p t285_1205 rfl ?_
    refine g_k (n := 2) t285_1207 rfl rfl ?_
    refine g_addn t285_1208 ?_
    refine r_xld t285_1209 hX (by omega) ?_
    refine g_p t285_1210 rfl ?_
    refine g_p t285_1211 rfl ?_
    refine g_k (n := 3) t285_1213 rfl rfl ?_
    refine g_addn t285_1214 ?_
    refine r_xld t285_1215 hX (by omega) ?_
    refine g_p t285_1216 rfl ?_
    refine g_p t285_1217 rfl ?_
    refine g_k (n := 4) t285_1219 rfl rfl ?_
    refine g_addn t285_1220 ?_
    refine r_xld t285_1221 hX (by omega) ?_
    refine r_cv t285_1222 (f80 hF) rfl ?_
    refine c255f (by exact hF) hP5 mW.1 mB hk ?_
    refine k_v ?_ rfl
    refine g_p t285_1225 rfl ?_
    refine g_eq t285_1226 (fun h1226 => ?_) (fun h1226 => ?_)
    · exact hG _ _ _ (LI.ok (s := s) (by exact hF) hro rfl hwf hC.w0 hM.w0)
    · exact absurd lcmp_rf h1226
end LD_
