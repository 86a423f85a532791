/-! THE LAW: what is kept and told -/
section LC_
variable {X : am_X}
theorem op23 : OPL X 1094 := by
  intro d i j s l5 l6 Q hX hi hj hL hG
  obtain ⟨hF, hro, P, r, w, pd, row, day, left, acts, di, se, to, bks, wds, lis, li, tp, ke, hwf, hC, hM⟩ := hL
  have ⟨⟨w0, w1, w2, w3, w4, w5, w6, w7, w8⟩, ⟨x1, x2, x3⟩, ⟨y1, y2⟩, ⟨z1, z2, z3⟩, z4⟩ := hwf
  have ⟨⟨hR, hW, hA, hD, d33, d42⟩, ⟨hS, hT, ht, hDf, hH⟩, ⟨hQ, hK, hZ⟩, hke, bp, wp, lp, hKS⟩ := hC
  have ⟨kB, kW, kL, kSE, kN, kb1, kb2, kb3, kl1, kl2, kl3, kn1, kn2⟩ := hKS
  have ⟨⟨mW, mA, mD⟩, ⟨mS, mT, mt⟩, ⟨mB, mWl, mL⟩, ⟨m32, m43⟩, mke⟩ := hM
  have hP5 : P ≤ 5 := w1
  by_cases hk : se.length < 12 ∧ ∃ n q k, SeeOK P (X.2 (i + 1)) (X.2 (i + 2)) (X.2 (i + 3)) n q k
  · obtain ⟨hl, n, q, k, hk⟩ := hk
    refine g_p t285_1094 rfl ?_
    refine g_p t285_1095 rfl ?_
    refine g_p t285_1096 rfl ?_
    refine g_k (n := 1) t285_1098 rfl rfl ?_
    refine g_addn t285_1099 ?_
    refine r_xld t285_1100 hX (by omega) ?_
    refine g_p t285_1101 rfl ?_
    refine g_p t285_1102 rfl ?_
    refine g_k (n := 2) t285_1104 rfl rfl ?_
    refine g_addn t285_1105 ?_
    refine r_xld t285_1106 hX (by omega) ?_
    refine g_p t285_1107 rfl ?_
    refine g_p t285_1108 rfl ?_
    refine g_k (n := 3) t285_1110 rfl rfl ?_
    refine g_addn t285_1111 ?_
    refine r_xld t285_1112 hX (by omega) ?_
    refine r_cv t285_1113 (f0 hF) rfl ?_
    refine c160t (by exact hF) hR hS hk hl (fun s1 f1 hS1 => ?_)
    have hC1 : CI P r w pd row day left acts di (se ++ [(n, q, k)]) to bks wds lis li tp ke s1 := ⟨⟨hR.fr f1 (by decide), hW.fr f1 (by decide), hA.fr f1 (by decide), fun k hk => (f1.ri (by decide)).trans (hD k hk), (f1.ri (by decide)).trans d33, (f1.ri (by decide)).trans d42⟩, ⟨hS1, hT.fr f1 (by decide), ht.fr f1 (by decide) (by decide), hDf.lf f1.lf (by decide), hH.fr f1 (f1.ri (by decide)) (by decide)⟩, ⟨hQ.fr f1 (by decide), hK.fr f1 (by decide) (by decide), hZ.fr f1 (by decide) (by decide)⟩, hke.fr f1 (f1.ri (by decide)) (by decide) (by decide), bp, wp, lp, hKS.fr f1 (by decide) (by decide)⟩
    have hM1 := hM.cf hF f1 (by decide)
    have hF1 := hF.fr f1
    have hF := hF1
    have nx1 := f1.nx
    have ⟨⟨mW, mA, mD⟩, ⟨mS, mT, mt⟩, ⟨mB, mWl, mL⟩, ⟨m32, m43⟩, mke⟩ := hM1
    refine k_v ?_ rfl
    refine g_p t285_1116 rfl ?_
    refine g_p t285_1117 rfl ?_
    refine g_p t285_1118 rfl ?_
    refine g_k (n := 1) t285_1120 rfl rfl ?_
    refine g_addn t285_1121 ?_
    refine r_xld t285_1122 hX (by omega) ?_
    refine g_p t285_1123 rfl ?_
    refine g_p t285_1124 rfl ?_
    refine g_k (n := 2) t285_1126 rfl rfl ?_
    refine g_addn t285_1127 ?_
    refine r_xld t285_1128 hX (by omega) ?_
    refine g_p t285_1129 rfl ?_
    refine g_p t285_1130 rfl ?_
    refine g_k (n := 3) t285_1132 rfl rfl ?_
    refine g_addn t285_1133 ?_
    refine r_xld t285_1134 hX (by omega) ?_
    refine r_cv t285_1135 (f80 hF) rfl ?_
    refine c251t (by exact hF1) hP5 mW.1 mS hk hl (fun s2 f2 mS2 => ?_)
    refine k_v ?_ rfl
    refine g_ceq t285_1138 (fun h1138 => ?_) (fun h1138 => ?_)
    · have hM2 : MI P r w pd row day left acts di (se ++ [(n, q, k)]) to bks wds lis li tp ke s2 := ⟨⟨mW.fm f2 (by decide) (by decide) (by decide) (by decide) (by decide) (by decide), mA.fm f2 (by decide) (by decide) (by decide) (by decide), mD.fm f2 (by decide)⟩, ⟨mS2, mT.fm f2 (by decide) (by decide) (by decide), mt.fm f2 (by decide) (by decide)⟩, ⟨mB.fm f2 (by decide) (by decide) (by decide) (by decide) (by decide), mWl.fm f2 (by decide) (by decide) (by decide), mL.fm f2 (by decide) (by decide) (by decide) (by decide)⟩, ⟨(f2.f (by decide)).trans m32, (f2.f (by decide)).trans m43⟩, mke.fm f2 (by decide) (by decide)⟩
      exact hG _ _ _ (LI.ok (s := s) (hF1.fr f2.1) hro (f2.1.nx.trans nx1) ⟨hwf.1, hwf.2.1, ⟨fun t ht => (List.mem_append.mp ht).elim (y1 t) (fun h => by rw [List.mem_singleton.mp h]; obtain ⟨_, g1, g2, _, g3, _, g4⟩ := hk; exact ⟨g2, g3, Nat.lt_succ_of_le g4⟩), y2⟩, hwf.2.2.2.1, hwf.2.2.2.2⟩ (hC1.fm f2 (by decide)) hM2)
    · exact absurd rfl h1138
  · refine g_p t285_1094 rfl ?_
    refine g_p t285_1095 rfl ?_
    refine g_p t285_1096 rfl ?_
    refine g_k (n := 1) t285_1098 rfl rfl ?_
    refine g_addn t285_1099 ?_
    refine r_xld t285_1100 hX (by omega) ?_
    refine g_p t285_1101 rfl ?_
    refine g_p t285_1102 rfl ?_
    refine g_k (n := 2) t285_1104 rfl rfl ?_
    refine g_addn t285_1105 ?_
    refine r_xld t285_1106 hX (by omega) ?_
    refine g_p t285_1107 rfl ?_
    refine g_p t285_1108 rfl ?_
    refine g_k (n := 3) t285_1110 rfl rfl ?_
    refine g_addn t285_1111 ?_
    refine r_xld t285_1112 hX (by omega) ?_
    refine r_cv t285_1113 (f0 hF) rfl ?_
    refine c160f (by exact hF) hR hS hk ?_
    refine k_v ?_ rfl
    refine g_p t285_1116 rfl ?_
    refine g_p t285_1117 rfl ?_
    refine g_p t285_1118 rfl ?_
    refine g_k (n := 1) t285_1120 rfl rfl ?_
    refine g_addn t285_1121 ?_
    refine r_xld t285_1122 hX (by omega) ?_
    refine g_p t285_1123 rfl ?_
    refine g_p t285_1124 rfl ?_
    refine g_k (n := 2) t285_1126 rfl rfl ?_
    refine g_addn t285_1127 ?_
    refine r_xld t285_1128 hX (by omega) ?_
    refine g_p t285_1129 rfl ?_
    refine g_p t285_1130 rfl ?_
    refine g_k (n := 3) t285_1132 rfl rfl ?_
    refine g_addn t285_1133 ?_
    refine r_xld t285_1134 hX (by omega) ?_
    refine r_cv t285_1135 (f80 hF) rfl ?_
    refine c251f (by exact hF) hP5 mW.1 mS hk ?_
    refine k_v ?_ rfl
    refine g_ceq t285_1138 (fun h1138 => ?_) (fun h1138 => ?_)
    · exact hG _ _ _ (LI.ok (s := s) (by exact hF) hro rfl hwf hC.w0 hM.w0)
    · exact absurd rfl h1138
theorem op26 : OPL X 1231 := by
  intro d i j s l5 l6 Q hX hi hj hL hG
  obtain ⟨hF, hro, P, r, w, pd, row, day, left, acts, di, se, to, bks, wds, lis, li, tp, ke, hwf, hC, hM⟩ := hL
  have ⟨⟨w0, w1, w2, w3, w4, w5, w6, w7, w8⟩, ⟨x1, x2, x3⟩, ⟨y1, y2⟩, ⟨z1, z2, z3⟩, z4⟩ := hwf
  have ⟨⟨hR, hW, hA, hD, d33, d42⟩, ⟨hS, hT, ht, hDf, hH⟩, ⟨hQ, hK, hZ⟩, hke, bp, wp, lp, hKS⟩ := hC
  have ⟨kB, kW, kL, kSE, kN, kb1, kb2, kb3, kl1, kl2, kl3, kn1, kn2⟩ := hKS
  have ⟨⟨mW, mA, mD⟩, ⟨mS, mT, mt⟩, ⟨mB, mWl, mL⟩, ⟨m32, m43⟩, mke⟩ := hM
  have hP5 : P ≤ 5 := w1
  by_cases hk : to.length < 12 ∧ ∃ c k, TelOK P (X.2 (i + 1)) (X.2 (i + 2)) c k
  · obtain ⟨hl, c, k, hk⟩ := hk
    refine g_p t285_1231 rfl ?_
    refine g_p t285_1232 rfl ?_
    refine g_p t285_1233 rfl ?_
    refine g_k (n := 1) t285_1235 rfl rfl ?_
    refine g_addn t285_1236 ?_
    refine r_xld t285_1237 hX (by omega) ?_
    refine g_p t285_1238 rfl ?_
    refine g_p t285_1239 rfl ?_
    refine g_k (n := 2) t285_1241 rfl rfl ?_
    refine g_addn t285_1242 ?_
    refine r_xld t285_1243 hX (by omega) ?_
    refine r_cv t285_1244 (f0 hF) rfl ?_
    refine c163t (by exact hF) hR hT hk hl (fun s1 f1 hT1 => ?_)
    have hC1 : CI P r w pd row day left acts di se (to ++ [(c, k)]) bks wds lis li tp ke s1 := ⟨⟨hR.fr f1 (by decide), hW.fr f1 (by decide), hA.fr f1 (by decide), fun k hk => (f1.ri (by decide)).trans (hD k hk), (f1.ri (by decide)).trans d33, (f1.ri (by decide)).trans d42⟩, ⟨hS.fr f1 (by decide), hT1, ht.fr f1 (by decide) (by decide), hDf.lf f1.lf (by decide), hH.fr f1 (f1.ri (by decide)) (by decide)⟩, ⟨hQ.fr f1 (by decide), hK.fr f1 (by decide) (by decide), hZ.fr f1 (by decide) (by decide)⟩, hke.fr f1 (f1.ri (by decide)) (by decide) (by decide), bp, wp, lp, hKS.fr f1 (by decide) (by decide)⟩
    have hM1 := hM.cf hF f1 (by decide)
    have hF1 := hF.fr f1
    have hF := hF1
    have nx1 := f1.nx
    have ⟨⟨mW, mA, mD⟩, ⟨mS, mT, mt⟩, ⟨mB, mWl, mL⟩, ⟨m32, m43⟩, mke⟩ := hM1
    refine k_v ?_ rfl
    refine g_p t285_1247 rfl ?_
    refine g_p t285_1248 rfl ?_
    refine g_p t285_1249 rfl ?_
    refine g_k (n := 1) t285_1251 rfl rfl ?_
    refine g_addn t285_1252 ?_
    refine r_xld t285_1253 hX (by omega) ?_
    refine g_p t285_1254 rfl ?_
    refine g_p t285_1255 rfl ?_
    refine g_k (n := 2) t285_1257 rfl rfl ?_
    refine g_addn t285_1258 ?_
    refine r_xld t285_1259 hX (by omega) ?_
    refine r_cv t285_1260 (f80 hF) rfl ?_
    refine c256t (by exact hF1) hP5 mW.1 mT hk hl (fun s2 f2 mT2 => ?_)
    refine k_v ?_ rfl
    refine g_ceq t285_1263 (fun h1263 => ?_) (fun h1263 => ?_)
    · have hM2 : MI P r w pd row day left acts di se (to ++ [(c, k)]) bks wds lis li tp ke s2 := ⟨⟨mW.fm f2 (by decide) (by decide) (by decide) (by decide) (by decide) (by decide), mA.fm f2 (by decide) (by decide) (by decide) (by decide), mD.fm f2 (by decide)⟩, ⟨mS.fm f2 (by decide) (by decide) (by decide) (by decide), mT2, mt.fm f2 (by decide) (by decide)⟩, ⟨mB.fm f2 (by decide) (by decide) (by decide) (by decide) (by decide), mWl.fm f2 (by decide) (by decide) (by decide), mL.fm f2 (by decide) (by decide) (by decide) (by decide)⟩, ⟨(f2.f (by decide)).trans m32, (f2.f (by decide)).trans m43⟩, mke.fm f2 (by decide) (by decide)⟩
      exact hG _ _ _ (LI.ok (s := s) (hF1.fr f2.1) hro (f2.1.nx.trans nx1) ⟨hwf.1, hwf.2.1, ⟨y1, fun t ht => (List.mem_append.mp ht).elim (y2 t) (fun h => by rw [List.mem_singleton.mp h]; exact ⟨cdO_lt hk.1, hk.2.2⟩)⟩, hwf.2.2.2.1, hwf.2.2.2.2⟩ (hC1.fm f2 (by decide)) hM2)
    · exact absurd rfl h1263
  · refine g_p t285_1231 rfl ?_
    refine g_p t285_1232 rfl ?_
    refine g_p t285_1233 rfl ?_
    refine g_k (n := 1) t285_1235 rfl rfl ?_
    refine g_addn t285_1236 ?_
    refine r_xld t285_1237 hX (by omega) ?_
    refine g_p t285_1238 rfl ?_
    refine g_p t285_1239 rfl ?_
    refine g_k (n := 2) t285_1241 rfl rfl ?_
    refine g_addn t285_1242 ?_
    refine r_xld t285_1243 hX (by omega) ?_
    refine r_cv t285_1244 (f0 hF) rfl ?_
    refine c163f (by exact hF) hR hT hk ?_
    refine k_v ?_ rfl
    refine g_p t285_1247 rfl ?_
    refine g_p t285_1248 rfl ?_
    refine g_p t285_1249 rfl ?_
    refine g_k (n := 1) t285_1251 rfl rfl ?_
    refine g_addn t285_1252 ?_
    refine r_xld t285_1253 hX (by omega) ?_
    refine g_p t285_1254 rfl ?_
    refine g_p t285_1255 rfl ?_
    refine g_k (n := 2) t285_1257 rfl rfl ?_
    refine g_addn t285_1258 ?_
    refine r_xld t285_1259 hX (by omega) ?_
    refine r_cv t285_1260 (f80 hF) rfl ?_
    refine c256f (by exact hF) hP5 mW.1 mT hk ?_
    refine k_v ?_ rfl
    refine g_ceq t285_1263 (fun h1263 => ?_) (fun h1263 => ?_)
    · exact hG _ _ _ (LI.ok (s := s) (by exact hF) hro rfl hwf hC.w0 hM.w0)
    · exact absurd rfl h1263
theorem op29 : OPL X 1294 := by
  intro d i j s l5 l6 Q hX hi hj hL hG
  obtain ⟨hF, hro, P, r, w, pd, row, day, left, acts, di, se, to, bks, wds, lis, li, tp, ke, hwf, hC, hM⟩ := hL
  have ⟨⟨w0, w1, w2, w3, w4, w5, w6, w7, w8⟩, ⟨x1, x2, x3⟩, ⟨y1, y2⟩, ⟨z1, z2, z3⟩, z4⟩ := hwf
  have ⟨⟨hR, hW, hA, hD, d33, d42⟩, ⟨hS, hT, ht, hDf, hH⟩, ⟨hQ, hK, hZ⟩, hke, bp, wp, lp, hKS⟩ := hC
  have ⟨kB, kW, kL, kSE, kN, kb1, kb2, kb3, kl1, kl2, kl3, kn1, kn2⟩ := hKS
  have ⟨⟨mW, mA, mD⟩, ⟨mS, mT, mt⟩, ⟨mB, mWl, mL⟩, ⟨m32, m43⟩, mke⟩ := hM
  have hP5 : P ≤ 5 := w1
  by_cases hk : ∃ k, FroOK P r w row (X.2 (i + 1)) k
  · obtain ⟨k, hk⟩ := hk
    have hst2 : std P (if k = 1 then r - 1 else r) (if k = 2 then w - 1 else w) row = true := by
      obtain ⟨g1, g2, g3⟩ := std_t (w7 hk.1)
      obtain ⟨_, _, g4, g5⟩ := hk
      rcases g4 with g4 | g4
      · subst g4
        refine std_of g1 ?_ ?_
        · have g5 : cn P row 1 < r := g5
          show cn P row 1 ≤ r - 1
          omega
        · exact g3
      · subst g4
        refine std_of g1 ?_ ?_
        · exact g2
        · have g5 : cn P row 2 < w := g5
          show cn P row 2 ≤ w - 1
          omega
    have q1 : (if k = 1 then r - 1 else r) ≤ 5 := by split <;> omega
    have q2 : (if k = 2 then w - 1 else w) ≤ 5 := by split <;> omega
    refine g_p t285_1294 rfl ?_
    refine g_p t285_1295 rfl ?_
    refine g_p t285_1296 rfl ?_
    refine g_k (n := 1) t285_1298 rfl rfl ?_
    refine g_addn t285_1299 ?_
    refine r_xld t285_1300 hX (by omega) ?_
    refine r_cv t285_1301 (f0 hF) rfl ?_
    refine c168t (by exact hF) hR hW hA w2 w3 w7 hk (fun s1 f1 hA1 hW1 z58 => ?_)
    have hC1 : CI P (if k = 1 then r - 1 else r) (if k = 2 then w - 1 else w) pd row day left ([]) di se to bks wds lis li tp ke s1 := ⟨⟨hR.fr f1 (by decide), hW1, hA1, fun k hk => (f1.ri (by decide)).trans (hD k hk), (f1.ri (by decide)).trans d33, (f1.ri (by decide)).trans d42⟩, ⟨hS.fr f1 (by decide), hT.fr f1 (by decide), ht.fr f1 (by decide) (by decide), hDf.lf f1.lf (by decide), hH.fr f1 (f1.ri (by decide)) (by decide)⟩, ⟨hQ.fr f1 (by decide), fun a ha => Or.inl (z58 a (by have := mn_le hP5; omega)), hZ.fr f1 (by decide) (by decide)⟩, hke.fr f1 (f1.ri (by decide)) (by decide) (by decide), bp, wp, lp, hKS.fr f1 (by decide) (by decide)⟩
    have hM1 := hM.cf hF f1 (by decide)
    have hF1 := hF.fr f1
    have hF := hF1
    have nx1 := f1.nx
    have ⟨⟨mW, mA, mD⟩, ⟨mS, mT, mt⟩, ⟨mB, mWl, mL⟩, ⟨m32, m43⟩, mke⟩ := hM1
    refine k_v ?_ rfl
    refine g_p t285_1304 rfl ?_
    refine g_p t285_1305 rfl ?_
    refine g_p t285_1306 rfl ?_
    refine g_k (n := 1) t285_1308 rfl rfl ?_
    refine g_addn t285_1309 ?_
    refine r_xld t285_1310 hX (by omega) ?_
    refine r_cv t285_1311 (f80 hF) rfl ?_
    refine c260t (by exact hF1) hP5 mW w7 w2 w3 hk (fun s2 f2 mA2 mW2 => ?_)
    refine k_v ?_ rfl
    refine g_ceq t285_1314 (fun h1314 => ?_) (fun h1314 => ?_)
    · have hM2 : MI P (if k = 1 then r - 1 else r) (if k = 2 then w - 1 else w) pd row day left ([]) di se to bks wds lis li tp ke s2 := ⟨⟨mW2, mA2, mD.fm f2 (by decide)⟩, ⟨mS.fm f2 (by decide) (by decide) (by decide) (by decide), mT.fm f2 (by decide) (by decide) (by decide), mt.fm f2 (by decide) (by decide)⟩, ⟨mB.fm f2 (by decide) (by decide) (by decide) (by decide) (by decide), mWl.fm f2 (by decide) (by decide) (by decide), mL.fm f2 (by decide) (by decide) (by decide) (by decide)⟩, ⟨(f2.f (by decide)).trans m32, (f2.f (by decide)).trans m43⟩, mke.fm f2 (by decide) (by decide)⟩
      exact hG _ _ _ (LI.ok (s := s) (hF1.fr f2.1) hro (f2.1.nx.trans nx1) ⟨⟨w0, w1, q1, q2, w4, w5, w6, fun _ => hst2, w8⟩, ⟨fun a ha => absurd ha (List.not_mem_nil), List.Pairwise.nil, x3⟩, hwf.2.2.1, hwf.2.2.2.1, hwf.2.2.2.2⟩ (hC1.fm f2 (by decide)) hM2)
    · exact absurd rfl h1314
  · refine g_p t285_1294 rfl ?_
    refine g_p t285_1295 rfl ?_
    refine g_p t285_1296 rfl ?_
    refine g_k (n := 1) t285_1298 rfl rfl ?_
    refine g_addn t285_1299 ?_
    refine r_xld t285_1300 hX (by omega) ?_
    refine r_cv t285_1301 (f0 hF) rfl ?_
    refine c168f (by exact hF) hR hW w2 w3 w7 hk ?_
    refine k_v ?_ rfl
    refine g_p t285_1304 rfl ?_
    refine g_p t285_1305 rfl ?_
    refine g_p t285_1306 rfl ?_
    refine g_k (n := 1) t285_1308 rfl rfl ?_
    refine g_addn t285_1309 ?_
    refine r_xld t285_1310 hX (by omega) ?_
    refine r_cv t285_1311 (f80 hF) rfl ?_
    refine c260f (by exact hF) hP5 mW w7 w2 w3 hk ?_
    refine k_v ?_ rfl
    refine g_ceq t285_1314 (fun h1314 => ?_) (fun h1314 => ?_)
    · exact hG _ _ _ (LI.ok (s := s) (by exact hF) hro rfl hwf hC.w0 hM.w0)
    · exact absurd rfl h1314
theorem op10 : OPL X 561 := by
  intro d i j s l5 l6 Q hX hi hj hL hG
  obtain ⟨hF, hro, P, r, w, pd, row, day, left, acts, di, se, to, bks, wds, lis, li, tp, ke, hwf, hC, hM⟩ := hL
  have ⟨⟨w0, w1, w2, w3, w4, w5, w6, w7, w8⟩, ⟨x1, x2, x3⟩, ⟨y1, y2⟩, ⟨z1, z2, z3⟩, z4⟩ := hwf
  have ⟨⟨hR, hW, hA, hD, d33, d42⟩, ⟨hS, hT, ht, hDf, hH⟩, ⟨hQ, hK, hZ⟩, hke, bp, wp, lp, hKS⟩ := hC
  have ⟨kB, kW, kL, kSE, kN, kb1, kb2, kb3, kl1, kl2, kl3, kn1, kn2⟩ := hKS
  have ⟨⟨mW, mA, mD⟩, ⟨mS, mT, mt⟩, ⟨mB, mWl, mL⟩, ⟨m32, m43⟩, mke⟩ := hM
  have hP5 : P ≤ 5 := w1
  by_cases hk : (bG P bks (X.2 (i + 1))).isSome = true ∧ day < 60
  · obtain ⟨k1, hd⟩ := hk
    obtain ⟨b, hb⟩ := Option.isSome_iff_exists.mp k1
    have hP0 := (bG_t hb (by omega)).1
    have hrow := (std_t (w7 hP0)).1
    refine g_p t285_561 rfl ?_
    refine g_p t285_562 rfl ?_
    refine g_p t285_563 rfl ?_
    refine g_k (n := 1) t285_565 rfl rfl ?_
    refine g_addn t285_566 ?_
    refine r_xld t285_567 hX (by omega) ?_
    refine r_cv t285_568 (f0 hF) rfl ?_
    refine c142t (by exact hF) hR hW hA hD kB kl1 hb hrow hd (fun s1 f1 hA1 hW1 hD1 => ?_)
    have hC1 : CI P r w pd row (day + 1) (pd) (act60 acts (row, day, left)) (fun k => if k = day then row else di k) se to bks wds lis li tp ke s1 := ⟨⟨hR.fr f1 (by decide), hW1, hA1, hD1, (f1.ri (by decide)).trans d33, (f1.ri (by decide)).trans d42⟩, ⟨hS.fr f1 (by decide), hT.fr f1 (by decide), ht.fr f1 (by decide) (by decide), hDf.lf f1.lf (by decide), hH.fr f1 (f1.ri (by decide)) (by decide)⟩, ⟨hQ.fr f1 (by decide), hK.fr f1 (by decide) (by decide), hZ.fr f1 (by decide) (by decide)⟩, hke.fr f1 (f1.ri (by decide)) (by decide) (by decide), bp, wp, lp, hKS.fr f1 (by decide) (by decide)⟩
    have hM1 := hM.cf hF f1 (by decide)
    have hF1 := hF.fr f1
    have hF := hF1
    have nx1 := f1.nx
    have ⟨⟨mW, mA, mD⟩, ⟨mS, mT, mt⟩, ⟨mB, mWl, mL⟩, ⟨m32, m43⟩, mke⟩ := hM1
    refine k_v ?_ rfl
    refine g_p t285_571 rfl ?_
    refine g_p t285_572 rfl ?_
    refine g_p t285_573 rfl ?_
    refine g_k (n := 1) t285_575 rfl rfl ?_
    refine g_addn t285_576 ?_
    refine r_xld t285_577 hX (by omega) ?_
    refine r_cv t285_578 (f80 hF) rfl ?_
    refine c229t (by exact hF1) hP5 mW mA mD mB hb hrow hd (fun s2 f2 mA2 mW2 mD2 => ?_)
    refine k_v ?_ rfl
    refine g_ceq t285_581 (fun h581 => ?_) (fun h581 => ?_)
    · have hM2 : MI P r w pd row (day + 1) (pd) (act60 acts (row, day, left)) (fun k => if k = day then row else di k) se to bks wds lis li tp ke s2 := ⟨⟨mW2, mA2, mD2⟩, ⟨mS.fm f2 (by decide) (by decide) (by decide) (by decide), mT.fm f2 (by decide) (by decide) (by decide), mt.fm f2 (by decide) (by decide)⟩, ⟨mB.fm f2 (by decide) (by decide) (by decide) (by decide) (by decide), mWl.fm f2 (by decide) (by decide) (by decide), mL.fm f2 (by decide) (by decide) (by decide) (by decide)⟩, ⟨(f2.f (by decide)).trans m32, (f2.f (by decide)).trans m43⟩, mke.fm f2 (by decide) (by decide)⟩
      exact hG _ _ _ (LI.ok (s := s) (hF1.fr f2.1) hro (f2.1.nx.trans nx1) ⟨⟨w0, w1, w2, w3, w4, w4, hd, w7, w8⟩, ⟨fun a ha => (act60_m ha).elim (fun h => by have g := x1 a h; exact ⟨g.1, g.2.1, Nat.le_succ_of_le g.2.2.1, g.2.2.2⟩) (fun h => by rw [h]; exact ⟨w7, w8, Nat.le_succ _, w5⟩), act60_pw x2 (fun b hb => (x1 b hb).2.2.1), fun n hn => by show (if n = day then row else di n) < mn P; split; exact hrow; exact x3 n (by omega)⟩, hwf.2.2.1, hwf.2.2.2.1, hwf.2.2.2.2⟩ (hC1.fm f2 (by decide)) hM2)
    · exact absurd rfl h581
  · refine g_p t285_561 rfl ?_
    refine g_p t285_562 rfl ?_
    refine g_p t285_563 rfl ?_
    refine g_k (n := 1) t285_565 rfl rfl ?_
    refine g_addn t285_566 ?_
    refine r_xld t285_567 hX (by omega) ?_
    refine r_cv t285_568 (f0 hF) rfl ?_
    refine c142f (by exact hF) hR hW kB kl1 w6 hk ?_
    refine k_v ?_ rfl
    refine g_p t285_571 rfl ?_
    refine g_p t285_572 rfl ?_
    refine g_p t285_573 rfl ?_
    refine g_k (n := 1) t285_575 rfl rfl ?_
    refine g_addn t285_576 ?_
    refine r_xld t285_577 hX (by omega) ?_
    refine r_cv t285_578 (f80 hF) rfl ?_
    refine c229f (by exact hF) hP5 mW mB w6 hk ?_
    refine k_v ?_ rfl
    refine g_ceq t285_581 (fun h581 => ?_) (fun h581 => ?_)
    · exact hG _ _ _ (LI.ok (s := s) (by exact hF) hro rfl hwf hC.w0 hM.w0)
    · exact absurd rfl h581
theorem op32 : OPL X 1413 := by
  intro d i j s l5 l6 Q hX hi hj hL hG
  obtain ⟨hF, hro, P, r, w, pd, row, day, left, acts, di, se, to, bks, wds, lis, li, tp, ke, hwf, hC, hM⟩ := hL
  have ⟨⟨w0, w1, w2, w3, w4, w5, w6, w7, w8⟩, ⟨x1, x2, x3⟩, ⟨y1, y2⟩, ⟨z1, z2, z3⟩, z4⟩ := hwf
  have ⟨⟨hR, hW, hA, hD, d33, d42⟩, ⟨hS, hT, ht, hDf, hH⟩, ⟨hQ, hK, hZ⟩, hke, bp, wp, lp, hKS⟩ := hC
  have ⟨kB, kW, kL, kSE, kN, kb1, kb2, kb3, kl1, kl2, kl3, kn1, kn2⟩ := hKS
  have ⟨⟨mW, mA, mD⟩, ⟨mS, mT, mt⟩, ⟨mB, mWl, mL⟩, ⟨m32, m43⟩, mke⟩ := hM
  have hP5 : P ≤ 5 := w1
  rcases Nat.eq_zero_or_pos P with hP0 | hP0
  · subst hP0
    refine g_p t285_1413 rfl ?_
    refine r_cv t285_1414 (f0 hF) rfl ?_
    refine c171f (by exact hF) hR ?_
    refine k_v ?_ rfl
    refine g_p t285_1417 rfl ?_
    refine r_cv t285_1418 (f80 hF) rfl ?_
    refine c263f (by exact hF) mW.1 ?_
    refine k_v ?_ rfl
    refine g_ceq t285_1421 (fun h1421 => ?_) (fun h1421 => ?_)
    · exact hG _ _ _ (LI.ok (s := s) (by exact hF) hro rfl hwf hC.w0 hM.w0)
    · exact absurd rfl h1421
  · refine g_p t285_1413 rfl ?_
    refine r_cv t285_1414 (f0 hF) rfl ?_
    refine c171t (by exact hF) hR hP0 hW hD w6 d33 (fun s1 f1 e15 e16 hk1 e42 => ?_)
    have hC1 : CI P r w pd row day left acts di se to bks wds lis li tp (some (r, w, row, day, left, di)) s1 := ⟨⟨hR.fr f1 (by decide), hW.fr f1 (by decide), hA.fr f1 (by decide), fun k hk => (f1.ri (by decide)).trans (hD k hk), (f1.ri (by decide)).trans d33, e42⟩, ⟨hS.fr f1 (by decide), hT.fr f1 (by decide), ht.fr f1 (by decide) (by decide), hDf.lf f1.lf (by decide), hH.fr f1 e15 (by decide)⟩, ⟨hQ.fr f1 (by decide), hK.fr f1 (by decide) (by decide), hZ.fr f1 (by decide) (by decide)⟩, ⟨e16, hk1⟩, bp, wp, lp, hKS.fr f1 (by decide) (by decide)⟩
    have hM1 := hM.cf hF f1 (by decide)
    have hF1 := hF.fr f1
    have hF := hF1
    have nx1 := f1.nx
    have ⟨⟨mW, mA, mD⟩, ⟨mS, mT, mt⟩, ⟨mB, mWl, mL⟩, ⟨m32, m43⟩, mke⟩ := hM1
    refine k_v ?_ rfl
    refine g_p t285_1417 rfl ?_
    refine r_cv t285_1418 (f80 hF) rfl ?_
    refine c263t (by exact hF1) hP0 hP5 mW mD w6 (fun s2 f2 e64 mk2 => ?_)
    refine k_v ?_ rfl
    refine g_ceq t285_1421 (fun h1421 => ?_) (fun h1421 => ?_)
    · have hM2 : MI P r w pd row day left acts di se to bks wds lis li tp (some (r, w, row, day, left, di)) s2 := ⟨⟨mW.fm f2 (by decide) (by decide) (by decide) (by decide) (by decide) (by decide), mA.fm f2 (by decide) (by decide) (by decide) (by decide), mD.fm f2 (by decide)⟩, ⟨mS.fm f2 (by decide) (by decide) (by decide) (by decide), mT.fm f2 (by decide) (by decide) (by decide), mt.fm f2 (by decide) (by decide)⟩, ⟨mB.fm f2 (by decide) (by decide) (by decide) (by decide) (by decide), mWl.fm f2 (by decide) (by decide) (by decide), mL.fm f2 (by decide) (by decide) (by decide) (by decide)⟩, ⟨(f2.f (by decide)).trans m32, (f2.f (by decide)).trans m43⟩, ⟨e64, mk2⟩⟩
      exact hG _ _ _ (LI.ok (s := s) (hF1.fr f2.1) hro (f2.1.nx.trans nx1) ⟨hwf.1, hwf.2.1, hwf.2.2.1, hwf.2.2.2.1, fun k hk => by cases hk; exact ⟨hP0, w2, w3, w7 hP0, w6, w5, x3⟩⟩ (hC1.fm f2 (by decide)) hM2)
    · exact absurd rfl h1421
theorem op33 : OPL X 1426 := by
  intro d i j s l5 l6 Q hX hi hj hL hG
  obtain ⟨hF, hro, P, r, w, pd, row, day, left, acts, di, se, to, bks, wds, lis, li, tp, ke, hwf, hC, hM⟩ := hL
  have ⟨⟨w0, w1, w2, w3, w4, w5, w6, w7, w8⟩, ⟨x1, x2, x3⟩, ⟨y1, y2⟩, ⟨z1, z2, z3⟩, z4⟩ := hwf
  have ⟨⟨hR, hW, hA, hD, d33, d42⟩, ⟨hS, hT, ht, hDf, hH⟩, ⟨hQ, hK, hZ⟩, hke, bp, wp, lp, hKS⟩ := hC
  have ⟨kB, kW, kL, kSE, kN, kb1, kb2, kb3, kl1, kl2, kl3, kn1, kn2⟩ := hKS
  have ⟨⟨mW, mA, mD⟩, ⟨mS, mT, mt⟩, ⟨mB, mWl, mL⟩, ⟨m32, m43⟩, mke⟩ := hM
  have hP5 : P ≤ 5 := w1
  cases ke with
  | none =>
    refine g_p t285_1426 rfl ?_
    refine r_cv t285_1427 (f0 hF) rfl ?_
    refine c172f (by exact hF) hke ?_
    refine k_v ?_ rfl
    refine g_p t285_1430 rfl ?_
    refine r_cv t285_1431 (f80 hF) rfl ?_
    refine c264f (by exact hF) mke ?_
    refine k_v ?_ rfl
    refine g_ceq t285_1434 (fun h1434 => ?_) (fun h1434 => ?_)
    · exact hG _ _ _ (LI.ok (s := s) (by exact hF) hro rfl hwf hC.w0 hM.w0)
    · exact absurd rfl h1434
  | some k =>
    obtain ⟨o1, o2, o3, o4, o5, o6, o7⟩ := z4 k rfl
    refine g_p t285_1426 rfl ?_
    refine r_cv t285_1427 (f0 hF) rfl ?_
    refine c172t (by exact hF) hA hke.1 hke.2 o5 d42 (fun s1 f1 hA1 hW1 hD1 e33 z58 => ?_)
    have hC1 : CI P (k.1) (k.2.1) pd (k.2.2.1) (k.2.2.2.1) (k.2.2.2.2.1) ([]) (k.2.2.2.2.2) se to bks wds lis li tp (some k) s1 := ⟨⟨hR.fr f1 (by decide), hW1, hA1, hD1, e33, (f1.ri (by decide)).trans d42⟩, ⟨hS.fr f1 (by decide), hT.fr f1 (by decide), ht.fr f1 (by decide) (by decide), hDf.lf f1.lf (by decide), hH.fr f1 (f1.ri (by decide)) (by decide)⟩, ⟨hQ.fr f1 (by decide), fun a ha => Or.inl (z58 a (by have := mn_le hP5; omega)), hZ.fr f1 (by decide) (by decide)⟩, hke.fr f1 (f1.ri (by decide)) (by decide) (by decide), bp, wp, lp, hKS.fr f1 (by decide) (by decide)⟩
    have hM1 := hM.cf hF f1 (by decide)
    have hF1 := hF.fr f1
    have hF := hF1
    have nx1 := f1.nx
    have ⟨⟨mW, mA, mD⟩, ⟨mS, mT, mt⟩, ⟨mB, mWl, mL⟩, ⟨m32, m43⟩, mke⟩ := hM1
    refine k_v ?_ rfl
    refine g_p t285_1430 rfl ?_
    refine r_cv t285_1431 (f80 hF) rfl ?_
    refine c264t (by exact hF1) hP5 mW mke.2 mke.1 o5 (fun s2 f2 mA2 mW2 mD2 => ?_)
    refine k_v ?_ rfl
    refine g_ceq t285_1434 (fun h1434 => ?_) (fun h1434 => ?_)
    · have hM2 : MI P (k.1) (k.2.1) pd (k.2.2.1) (k.2.2.2.1) (k.2.2.2.2.1) ([]) (k.2.2.2.2.2) se to bks wds lis li tp (some k) s2 := ⟨⟨mW2, mA2, mD2⟩, ⟨mS.fm f2 (by decide) (by decide) (by decide) (by decide), mT.fm f2 (by decide) (by decide) (by decide), mt.fm f2 (by decide) (by decide)⟩, ⟨mB.fm f2 (by decide) (by decide) (by decide) (by decide) (by decide), mWl.fm f2 (by decide) (by decide) (by decide), mL.fm f2 (by decide) (by decide) (by decide) (by decide)⟩, ⟨(f2.f (by decide)).trans m32, (f2.f (by decide)).trans m43⟩, mke.fm f2 (by decide) (by decide)⟩
      exact hG _ _ _ (LI.ok (s := s) (hF1.fr f2.1) hro (f2.1.nx.trans nx1) ⟨⟨w0, w1, o2, o3, w4, o6, o5, fun _ => o4, fun h => by omega⟩, ⟨fun a ha => absurd ha (List.not_mem_nil), List.Pairwise.nil, o7⟩, hwf.2.2.1, hwf.2.2.2.1, hwf.2.2.2.2⟩ (hC1.fm f2 (by decide)) hM2)
    · exact absurd rfl h1434
end LC_
