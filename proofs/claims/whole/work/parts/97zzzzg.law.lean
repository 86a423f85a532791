/-! THE LAW: texts tried and given -/
section LG_
variable {X : am_X}
theorem MB.kb {s s' : mM} {bks : List Bk} (h : MB bks s) (e : ri s' 80 28 = ri s 80 28) (k : KB s s') : MB bks s' := ⟨e.trans h.1, h.2.1, fun n hn => by
  obtain ⟨g1, g2, g3, g4, g5⟩ := h.2.2 n hn
  have hb := h.2.1
  refine ⟨(k.2.2.1 n (by omega)).trans g1, g2, (k.2.2.2 n (by omega)).trans g3, g4, fun i hi => ?_⟩
  obtain ⟨h1, h2⟩ := g5 i hi
  exact ⟨(k.1 _ (by omega)).trans h1, fun q hq => ⟨(k.2.1 _ (by omega)).trans (h2 q hq).1, (h2 q hq).2⟩⟩⟩
theorem MWl.kb {s s' : mM} {wds : List (List Nat)} (h : MWl wds s) (e : ri s' 80 31 = ri s 80 31) (k : (∀ i, i < 32 → ri s' 91 i = ri s 91 i) ∧ ∀ i, i < 4 → ri s' 92 i = ri s 92 i) : MWl wds s' := ⟨e.trans h.1, h.2.1, fun n hn => by
  obtain ⟨g1, g2, g3, g4⟩ := h.2.2 n hn
  have hb := h.2.1
  exact ⟨(k.2 n (by omega)).trans g1, g2, g3, fun i hi => ⟨(k.1 _ (by omega)).trans (g4 i hi).1, (g4 i hi).2⟩⟩⟩
theorem op2 : OPL X 294 := by
  intro d i j s l5 l6 Q hX hi hj hL hG
  obtain ⟨hF, hro, P, r, w, pd, row, day, left, acts, di, se, to, bks, wds, lis, li, tp, ke, hwf, hC, hM⟩ := hL
  have ⟨⟨w0, w1, w2, w3, w4, w5, w6, w7, w8⟩, ⟨x1, x2, x3⟩, ⟨y1, y2⟩, ⟨z1, z2, z3⟩, z4⟩ := hwf
  have ⟨⟨hR, hW, hA, hD, d33, d42⟩, ⟨hS, hT, ht, hDf, hH⟩, ⟨hQ, hK, hZ⟩, hke, bp, wp, lp, hKS⟩ := hC
  have ⟨kB, kW, kL, kSE, kN, kb1, kb2, kb3, kl1, kl2, kl3, kn1, kn2⟩ := hKS
  have ⟨⟨mW, mA, mD⟩, ⟨mS, mT, mt⟩, ⟨mB, mWl, mL⟩, ⟨m32, m43⟩, mke⟩ := hM
  have hP5 : P ≤ 5 := w1
  have hTX : TX 1 120 tp s := ⟨fN1 hF, ht, z2, z2, by decide, z3⟩
  have ⟨⟨l6_, hl6, hl68⟩, ⟨l13_, hl13, hl138⟩, n8, hn8, e8⟩ := hDf
  by_cases hk : inN 4 (X.2 (i + 1)) = true
  · obtain ⟨k, hk4, e⟩ := inN_t hk (by decide)
    rcases (show k = 0 ∨ k = 1 ∨ k = 2 ∨ k = 3 by omega) with hk0 | hk0 | hk0 | hk0
    all_goals subst hk0
    · refine g_p t285_294 rfl ?_
      refine g_p t285_295 rfl ?_
      refine g_p t285_296 rfl ?_
      refine g_k (n := 1) t285_298 rfl rfl ?_
      refine g_addn t285_299 ?_
      refine r_xld t285_300 hX (by omega) ?_
      refine r_cv t285_301 (f0 hF) rfl ?_
      rw [e]
      refine c122_0 (by exact hF) hTX (fun s1 f1 q4 q5 q6 q7 hb => ?_)
      have hC1 := hC.cA f1 (by decide) (by decide) (hQ.fr f1 (by decide)) (hK.fr f1 (by decide) (by decide)) (hZ.fr f1 (by decide) (by decide))
      have hM1 := hM.cf hF f1 (by decide)
      have hF1 := hF.fr f1
      have hF := hF1
      have nx1 := f1.nx
      have ⟨⟨mW, mA, mD⟩, ⟨mS, mT, mt⟩, ⟨mB, mWl, mL⟩, ⟨m32, m43⟩, mke⟩ := hM1
      refine k_v ?_ rfl
      refine g_p t285_304 rfl ?_
      refine g_p t285_305 rfl ?_
      refine g_p t285_306 rfl ?_
      refine g_k (n := 1) t285_308 rfl rfl ?_
      refine g_addn t285_309 ?_
      refine r_xld t285_310 hX (by omega) ?_
      refine r_cv t285_311 (f80 hF) rfl ?_
      rw [e]
      refine c206_0 (by exact hF1) mt z2 z3 (fun s2 f2 _ => ?_)
      refine k_v ?_ rfl
      refine g_ceq t285_314 (fun h314 => ?_) (fun h314 => ?_)
      · exact hG _ _ _ (LI.ok (s := s) (hF1.fr f2.1) hro (f2.1.nx.trans nx1) hwf (hC1.fm f2 (by decide)) (hM1.fm f2 (by decide) (by decide) ((f2.f (by decide)).trans m43)))
      · exact absurd rfl h314
    · refine g_p t285_294 rfl ?_
      refine g_p t285_295 rfl ?_
      refine g_p t285_296 rfl ?_
      refine g_k (n := 1) t285_298 rfl rfl ?_
      refine g_addn t285_299 ?_
      refine r_xld t285_300 hX (by omega) ?_
      refine r_cv t285_301 (f0 hF) rfl ?_
      rw [e]
      refine c122_1 (by exact hF) hTX hl6 hl68 (fun s1 f1 q4 q5 => ?_)
      have hC1 : CI P r w pd row day left acts di se to bks wds lis li tp ke s1 := ⟨⟨hR.fr f1 (by decide), hW.fr f1 (by decide), hA.fr f1 (by decide), fun k hk => (f1.ri (by decide)).trans (hD k hk), (f1.ri (by decide)).trans d33, (f1.ri (by decide)).trans d42⟩, ⟨hS.fr f1 (by decide), hT.fr f1 (by decide), ht.fr f1 (by decide) (by decide), ⟨⟨_, q4.1, by rw [List.length_map]; exact bke_len⟩, ⟨l13_, hl13.fr f1 (by decide) (by decide), hl138⟩, n8, hn8, (f1.ri (by decide)).trans e8⟩, hH.fr f1 (f1.ri (by decide)) (by decide)⟩, ⟨hQ.fr f1 (by decide), hK.fr f1 (by decide) (by decide), hZ.fr f1 (by decide) (by decide)⟩, hke.fr f1 (f1.ri (by decide)) (by decide) (by decide), bp, wp, lp, hKS.fr f1 (by decide) (by decide)⟩
      have hM1 := hM.cf hF f1 (by decide)
      have hF1 := hF.fr f1
      have hF := hF1
      have nx1 := f1.nx
      have ⟨⟨mW, mA, mD⟩, ⟨mS, mT, mt⟩, ⟨mB, mWl, mL⟩, ⟨m32, m43⟩, mke⟩ := hM1
      refine k_v ?_ rfl
      refine g_p t285_304 rfl ?_
      refine g_p t285_305 rfl ?_
      refine g_p t285_306 rfl ?_
      refine g_k (n := 1) t285_308 rfl rfl ?_
      refine g_addn t285_309 ?_
      refine r_xld t285_310 hX (by omega) ?_
      refine r_cv t285_311 (f80 hF) rfl ?_
      rw [e]
      refine c206_1 (by exact hF1) mt z2 z3 (fun s2 f2 kb _ => ?_)
      refine k_v ?_ rfl
      refine g_ceq t285_314 (fun h314 => ?_) (fun h314 => ?_)
      · have hM2 : MI P r w pd row day left acts di se to bks wds lis li tp ke s2 := ⟨⟨mW.fm f2 (by decide) (by decide) (by decide) (by decide) (by decide) (by decide), mA.fm f2 (by decide) (by decide) (by decide) (by decide), mD.fm f2 (by decide)⟩, ⟨mS.fm f2 (by decide) (by decide) (by decide) (by decide), mT.fm f2 (by decide) (by decide) (by decide), mt.fm f2 (by decide) (by decide)⟩, ⟨mB.kb (f2.f (by decide)) kb, mWl.fm f2 (by decide) (by decide) (by decide), mL.fm f2 (by decide) (by decide) (by decide) (by decide)⟩, ⟨(f2.f (by decide)).trans m32, (f2.f (by decide)).trans m43⟩, mke.fm f2 (by decide) (by decide)⟩
        exact hG _ _ _ (LI.ok (s := s) (hF1.fr f2.1) hro (f2.1.nx.trans nx1) hwf (hC1.fm f2 (by decide)) hM2)
      · exact absurd rfl h314
    · refine g_p t285_294 rfl ?_
      refine g_p t285_295 rfl ?_
      refine g_p t285_296 rfl ?_
      refine g_k (n := 1) t285_298 rfl rfl ?_
      refine g_addn t285_299 ?_
      refine r_xld t285_300 hX (by omega) ?_
      refine r_cv t285_301 (f0 hF) rfl ?_
      rw [e]
      refine c122_2 (by exact hF) hTX hl13 hl138 (fun s1 f1 q4 q5 => ?_)
      have hC1 : CI P r w pd row day left acts di se to bks wds lis li tp ke s1 := ⟨⟨hR.fr f1 (by decide), hW.fr f1 (by decide), hA.fr f1 (by decide), fun k hk => (f1.ri (by decide)).trans (hD k hk), (f1.ri (by decide)).trans d33, (f1.ri (by decide)).trans d42⟩, ⟨hS.fr f1 (by decide), hT.fr f1 (by decide), ht.fr f1 (by decide) (by decide), ⟨⟨l6_, hl6.fr f1 (by decide) (by decide), hl68⟩, ⟨_, q4, q5⟩, n8, hn8, (f1.ri (by decide)).trans e8⟩, hH.fr f1 (f1.ri (by decide)) (by decide)⟩, ⟨hQ.fr f1 (by decide), hK.fr f1 (by decide) (by decide), hZ.fr f1 (by decide) (by decide)⟩, hke.fr f1 (f1.ri (by decide)) (by decide) (by decide), bp, wp, lp, hKS.fr f1 (by decide) (by decide)⟩
      have hM1 := hM.cf hF f1 (by decide)
      have hF1 := hF.fr f1
      have hF := hF1
      have nx1 := f1.nx
      have ⟨⟨mW, mA, mD⟩, ⟨mS, mT, mt⟩, ⟨mB, mWl, mL⟩, ⟨m32, m43⟩, mke⟩ := hM1
      refine k_v ?_ rfl
      refine g_p t285_304 rfl ?_
      refine g_p t285_305 rfl ?_
      refine g_p t285_306 rfl ?_
      refine g_k (n := 1) t285_308 rfl rfl ?_
      refine g_addn t285_309 ?_
      refine r_xld t285_310 hX (by omega) ?_
      refine r_cv t285_311 (f80 hF) rfl ?_
      rw [e]
      refine c206_2 (by exact hF1) mt z2 z3 (fun s2 f2 kb _ => ?_)
      refine k_v ?_ rfl
      refine g_ceq t285_314 (fun h314 => ?_) (fun h314 => ?_)
      · have hM2 : MI P r w pd row day left acts di se to bks wds lis li tp ke s2 := ⟨⟨mW.fm f2 (by decide) (by decide) (by decide) (by decide) (by decide) (by decide), mA.fm f2 (by decide) (by decide) (by decide) (by decide), mD.fm f2 (by decide)⟩, ⟨mS.fm f2 (by decide) (by decide) (by decide) (by decide), mT.fm f2 (by decide) (by decide) (by decide), mt.fm f2 (by decide) (by decide)⟩, ⟨mB.fm f2 (by decide) (by decide) (by decide) (by decide) (by decide), mWl.kb (f2.f (by decide)) kb, mL.fm f2 (by decide) (by decide) (by decide) (by decide)⟩, ⟨(f2.f (by decide)).trans m32, (f2.f (by decide)).trans m43⟩, mke.fm f2 (by decide) (by decide)⟩
        exact hG _ _ _ (LI.ok (s := s) (hF1.fr f2.1) hro (f2.1.nx.trans nx1) hwf (hC1.fm f2 (by decide)) hM2)
      · exact absurd rfl h314
    · refine g_p t285_294 rfl ?_
      refine g_p t285_295 rfl ?_
      refine g_p t285_296 rfl ?_
      refine g_k (n := 1) t285_298 rfl rfl ?_
      refine g_addn t285_299 ?_
      refine r_xld t285_300 hX (by omega) ?_
      refine r_cv t285_301 (f0 hF) rfl ?_
      rw [e]
      refine c122_3 (by exact hF) hTX (fun s1 f1 => ?_)
      have hC1 := (hC.cA (s' := lgo s1 s) f1.fi.fr (by decide) (by decide) (hQ.fr f1.fi.fr (by decide)) (hK.fr f1.fi.fr (by decide) (by decide)) (hZ.fr f1.fi.fr (by decide) (by decide))).lgo
      have hM1 := hM.cl hF f1 (by decide)
      have hF1 := f1.fx hF
      have hF := hF1
      have nx1 : s1.2.2.2 = s.2.2.2 := f1.2.1
      have ⟨⟨mW, mA, mD⟩, ⟨mS, mT, mt⟩, ⟨mB, mWl, mL⟩, ⟨m32, m43⟩, mke⟩ := hM1
      refine k_v ?_ rfl
      refine g_p t285_304 rfl ?_
      refine g_p t285_305 rfl ?_
      refine g_p t285_306 rfl ?_
      refine g_k (n := 1) t285_308 rfl rfl ?_
      refine g_addn t285_309 ?_
      refine r_xld t285_310 hX (by omega) ?_
      refine r_cv t285_311 (f80 hF) rfl ?_
      rw [e]
      refine c206_3 (by exact hF1) mt z2 z3 (fun s2 f2 _ => ?_)
      refine k_v ?_ rfl
      refine g_ceq t285_314 (fun h314 => ?_) (fun h314 => ?_)
      · exact hG _ _ _ (LI.ok (s := s) (hF1.fr f2.1) hro (f2.1.nx.trans nx1) hwf (hC1.fm f2 (by decide)) (hM1.fm f2 (by decide) (by decide) ((f2.f (by decide)).trans m43)))
      · exact absurd rfl h314
  · have hk : inN 4 (X.2 (i + 1)) = false := by cases h : inN 4 (X.2 (i + 1)) with
      | true => exact absurd h hk
      | false => rfl
    refine g_p t285_294 rfl ?_
    refine g_p t285_295 rfl ?_
    refine g_p t285_296 rfl ?_
    refine g_k (n := 1) t285_298 rfl rfl ?_
    refine g_addn t285_299 ?_
    refine r_xld t285_300 hX (by omega) ?_
    refine r_cv t285_301 (f0 hF) rfl ?_
    refine c122n (by exact hF) hk ?_
    refine k_v ?_ rfl
    refine g_p t285_304 rfl ?_
    refine g_p t285_305 rfl ?_
    refine g_p t285_306 rfl ?_
    refine g_k (n := 1) t285_308 rfl rfl ?_
    refine g_addn t285_309 ?_
    refine r_xld t285_310 hX (by omega) ?_
    refine r_cv t285_311 (f80 hF) rfl ?_
    refine c206n (by exact hF) hk ?_
    refine k_v ?_ rfl
    refine g_ceq t285_314 (fun h314 => ?_) (fun h314 => ?_)
    · exact hG _ _ _ (LI.ok (s := s) (by exact hF) hro rfl hwf hC.w0 hM.w0)
    · exact absurd rfl h314
end LG_
