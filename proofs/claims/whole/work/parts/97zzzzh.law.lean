/-! THE LAW: at -/
section LH_
variable {X : am_X} {P r w pd row day left : Nat} {acts : List Act} {di : Nat → Nat} {se : List Act} {to : List (Nat × Nat)} {bks : List Bk} {wds lis : List (List Nat)} {li : Option Nat} {tp : List Nat} {ke : Option K6}
theorem g_at {d y pc nx o x : Nat} {p0 : Int32} {ls st : List Value} {hp : am_H} {Q : Option Value → am_H → Prop} {i : ClassFile.Instr} {r : List Nat} {k : Value} (t : am_T y pc = some (6, i, nx, r, k)) (hc : am_cat st ≤ 8)
    (g : gE X (d + 7) (r.headD 0) [.ref x, .int p0] hp (fun v hp' => (∃ a m f, v = some (.int a) ∧ hp'.1 o = .inl (3, m, .inr (.inl f)) ∧ 0 < m ∧ gG X (d + 9) y nx ls (.int 0 :: st) (am_set hp' o (.inl (3, m, .inr (.inl (vp_updL f 0 a.toInt64))))) Q) ∨ ((∃ z, v = some (.float z)) ∧ gG X (d + 9) y nx ls (.int 1 :: st) hp' Q))) : gG X (d + 9) y pc ls (.ref o :: .int p0 :: .ref x :: st) hp Q := by
  obtain ⟨hf, n1, v1, hp1, e1, g⟩ := g
  rcases g with ⟨a, m, f, rfl, h1, hm, n2, v2, hp2, e2, q⟩ | ⟨⟨z, rfl⟩, n2, v2, hp2, e2, q⟩
  · refine ⟨max n1 n2 + 1, v2, hp2, ?_, q⟩
    rw [am_ex, t]
    show (if am_cat st ≤ 8 then _ else _) = _
    rw [if_pos hc, am_ex_le _ _ _ _ _ _ _ _ _ _ e1 (Nat.le_max_left n1 n2) (Nat.le_refl _)]
    show (match hp1.1 o with
      | .inl (t3, m, .inr (.inl f)) => if t3 = 3 && decide (0 < m) then am_ex am_T am_mx am_DF X (max n1 n2) (d + 9) y nx ls (.int 0 :: st) (am_set hp1 o (.inl (3, m, .inr (.inl (vp_updL f 0 a.toInt64))))) else none
      | _ => none) = _
    rw [h1]
    show (if (3 = 3 && decide (0 < m)) = true then _ else _) = _
    rw [if_pos (by rw [decide_eq_true hm]; rfl)]
    exact am_ex_le _ _ _ _ _ _ _ _ _ _ e2 (Nat.le_max_right n1 n2) (Nat.le_refl _)
  · refine ⟨max n1 n2 + 1, v2, hp2, ?_, q⟩
    rw [am_ex, t]
    show (if am_cat st ≤ 8 then _ else _) = _
    rw [if_pos hc, am_ex_le _ _ _ _ _ _ _ _ _ _ e1 (Nat.le_max_left n1 n2) (Nat.le_refl _)]
    exact am_ex_le _ _ _ _ _ _ _ _ _ _ e2 (Nat.le_max_right n1 n2) (Nat.le_refl _)
theorem CI.th {s : mM} (h : CI P r w pd row day left acts di se to bks wds lis li tp ke s) : CI P r w pd row day left acts di se to bks wds lis li tp ke (mth s) := by
  cases ke with
  | none => exact h
  | some x => exact h
theorem MI.th {s : mM} (h : MI P r w pd row day left acts di se to bks wds lis li tp ke s) : MI P r w pd row day left acts di se to bks wds lis li tp ke (mth s) := by
  cases ke with
  | none => exact h
  | some x => exact h
theorem op4 : OPL X 344 := by
  intro d i j s l5 l6 Q hX hi hj hL hG
  obtain ⟨hF, hro, P, r, w, pd, row, day, left, acts, di, se, to, bks, wds, lis, li, tp, ke, hwf, hC, hM⟩ := hL
  have ⟨⟨w0, w1, w2, w3, w4, w5, w6, w7, w8⟩, ⟨x1, x2, x3⟩, ⟨y1, y2⟩, ⟨z1, z2, z3⟩, z4⟩ := hwf
  have ⟨⟨hR, hW, hA, hD, d33, d42⟩, ⟨hS, hT, ht, hDf, hH⟩, ⟨hQ, hK, hZ⟩, hke, bp, wp, lp, hKS⟩ := hC
  have ⟨kB, kW, kL, kSE, kN, kb1, kb2, kb3, kl1, kl2, kl3, kn1, kn2⟩ := hKS
  have ⟨⟨mW, mA, mD⟩, ⟨mS, mT, mt⟩, ⟨mB, mWl, mL⟩, ⟨m32, m43⟩, mke⟩ := hM
  have hP5 : P ≤ 5 := w1
  by_cases hk : inN P (X.2 (i + 1)) = true
  · obtain ⟨q, hq, e⟩ := inN_t hk (by omega)
    have hrow := (std_t (w7 (by omega))).1
    refine g_p t285_344 rfl ?_
    refine g_p t285_345 rfl ?_
    refine g_p t285_346 rfl ?_
    refine g_k (n := 1) t285_348 rfl rfl ?_
    refine g_addn t285_349 ?_
    refine r_xld t285_350 hX (by omega) ?_
    refine g_p t285_351 rfl ?_
    refine g_at t285_352 (Nat.le_of_ble_eq_true rfl) ?_
    rw [e]
    refine c136t (by exact hF) hR hW.2.2.2.1 hrow hq ?_
    refine Or.inl ⟨_, 1, _, rfl, mR_longs (f113 hF), by decide, ?_⟩
    rw [mR_wg (f113 hF)]
    have f1 : FL [] [113] s (wg s 113 (vp_updL (s.2.2.1 113) 0 (nI (pt P row q)).toInt64)) := ⟨rfl, rfl, fun _ _ => rfl, fun p hp => m_up_ne (fun e => hp (by rw [e]; exact List.mem_singleton.mpr rfl))⟩
    have e113 : rl (wg s 113 (vp_updL (s.2.2.1 113) 0 (nI (pt P row q)).toInt64)) 113 0 = (nI (pt P row q)).toInt64 := by rw [rl_wg, if_pos rfl]; unfold vp_updL; simp
    generalize wg s 113 (vp_updL (s.2.2.1 113) 0 (nI (pt P row q)).toInt64) = s1 at f1 e113 ⊢
    have hC1 : CI P r w pd row day left acts di se to bks wds lis li tp ke s1 := (hC.fr (s' := lgo s1 s) f1.fi.fr (fun x hx => absurd hx (List.not_mem_nil))).lgo
    have hM1 := hM.cl hF f1 (fun x hx => absurd hx (List.not_mem_nil))
    have hF1 := f1.fx hF
    have hF := hF1
    have nx1 : s1.2.2.2 = s.2.2.2 := f1.2.1
    have ⟨⟨mW, mA, mD⟩, ⟨mS, mT, mt⟩, ⟨mB, mWl, mL⟩, ⟨m32, m43⟩, mke⟩ := hM1
    refine g_is t285_355 (Nat.le_of_ble_eq_true rfl) (am_s1_5 rfl) ?_
    refine g_p t285_357 rfl ?_
    refine g_p t285_358 rfl ?_
    refine g_p t285_359 rfl ?_
    refine g_k (n := 1) t285_361 rfl rfl ?_
    refine g_addn t285_362 ?_
    refine r_xld t285_363 hX (by omega) ?_
    refine r_cv t285_364 (f80 hF) rfl ?_
    rw [e]
    refine c219t (by exact hF1) hP5 mW w7 hq (fun s2 f2 e0 => ?_)
    have hF := hF1.fr f2.1
    have l2 : rl s2 113 0 = (nI (pt P row q)).toInt64 := by rw [show rl s2 113 0 = rl s1 113 0 from by show s2.2.2.1 113 0 = _; rw [f2.1.2.1]]; exact e113
    refine k_v ?_ rfl
    refine g_is t285_367 (Nat.le_of_ble_eq_true rfl) (am_s1_6 rfl) ?_
    refine g_p t285_369 rfl ?_
    refine r_cv t285_370 (f80 hF) rfl ?_
    refine c175 (by exact hF) e0 ?_
    refine k_v ?_ rfl
    refine g_p t285_373 rfl ?_
    refine g_ceq t285_375 (fun h375 => ?_) (fun h375 => ?_)
    · refine g_p t285_380 rfl ?_
      refine g_ne t285_382 (fun h382 => ?_) (fun h382 => ?_)
      · refine g_goto t285_397 ?_
        first
        | exact absurd rfl h382
        | exact hG _ _ _ (LI.ok (s := s) (hF1.fr f2.1) hro (f2.1.nx.trans nx1) hwf (hC1.fm f2 (fun x hx => absurd hx (List.not_mem_nil))) (hM1.fm f2 (by decide) (by decide) ((f2.f (by decide)).trans m43)))
      · refine g_p t285_385 rfl ?_
        refine g_k (n := 0) t285_386 rfl rfl ?_
        refine r_lald t285_387 (f113 hF) (by decide) (by omega) ?_
        refine g_p t285_388 rfl ?_
        refine g_p t285_390 rfl ?_
        refine g_p t285_391 rfl ?_
        refine g_eq t285_392 (fun h392 => ?_) (fun h392 => ?_)
        · refine g_goto t285_397 ?_
          first
          | exact absurd rfl h382
          | exact hG _ _ _ (LI.ok (s := s) (hF1.fr f2.1) hro (f2.1.nx.trans nx1) hwf (hC1.fm f2 (fun x hx => absurd hx (List.not_mem_nil))) (hM1.fm f2 (by decide) (by decide) ((f2.f (by decide)).trans m43)))
        · exact absurd lcmp_rf (by rw [l2] at h392; exact h392)
    · exact absurd rfl h375
  · have hk : inN P (X.2 (i + 1)) = false := by cases h : inN P (X.2 (i + 1)) with
      | true => exact absurd h hk
      | false => rfl
    refine g_p t285_344 rfl ?_
    refine g_p t285_345 rfl ?_
    refine g_p t285_346 rfl ?_
    refine g_k (n := 1) t285_348 rfl rfl ?_
    refine g_addn t285_349 ?_
    refine r_xld t285_350 hX (by omega) ?_
    refine g_p t285_351 rfl ?_
    refine g_at t285_352 (Nat.le_of_ble_eq_true rfl) ?_
    refine c136f (by exact hF) hR.1 hP5 hk ?_
    refine Or.inr ⟨⟨_, rfl⟩, ?_⟩
    have hC1 := hC.th
    have hM1 := hM.th
    have hF1 : Fx (mth s) := hF
    have hF := hF1
    have ⟨⟨mW, mA, mD⟩, ⟨mS, mT, mt⟩, ⟨mB, mWl, mL⟩, ⟨m32, m43⟩, mke⟩ := hM1
    refine g_is t285_355 (Nat.le_of_ble_eq_true rfl) (am_s1_5 rfl) ?_
    refine g_p t285_357 rfl ?_
    refine g_p t285_358 rfl ?_
    refine g_p t285_359 rfl ?_
    refine g_k (n := 1) t285_361 rfl rfl ?_
    refine g_addn t285_362 ?_
    refine r_xld t285_363 hX (by omega) ?_
    refine r_cv t285_364 (f80 hF) rfl ?_
    refine c219f (by exact hF1) hP5 mW hk (fun s2 f2 e0 => ?_)
    have hF := hF1.fr f2.1
    refine k_v ?_ rfl
    refine g_is t285_367 (Nat.le_of_ble_eq_true rfl) (am_s1_6 rfl) ?_
    refine g_p t285_369 rfl ?_
    refine r_cv t285_370 (f80 hF) rfl ?_
    refine c175 (by exact hF) e0 ?_
    refine k_v ?_ rfl
    refine g_p t285_373 rfl ?_
    refine g_ceq t285_375 (fun h375 => ?_) (fun h375 => ?_)
    · refine g_p t285_380 rfl ?_
      refine g_ne t285_382 (fun h382 => ?_) (fun h382 => ?_)
      · refine g_goto t285_397 ?_
        have hC2 := hC1.fm f2 (fun x hx => absurd hx (List.not_mem_nil))
        have hM2 := hM1.fm f2 (by decide) (by decide) ((f2.f (by decide)).trans m43)
        exact hG _ _ _ ⟨hF, ⟨by rw [f2.1.nx]; show s.2.2.2.2.1 + 1 ≤ _; have := hro.1; omega, by rw [f2.1.nx]; show s.2.2.2.2.2 + 6 ≤ _; have := hro.2.1; omega, by rw [f2.1.nx]; show s.2.2.2.1 ≤ _; have := hro.2.2; omega⟩, P, r, w, pd, row, day, left, acts, di, se, to, bks, wds, lis, li, tp, ke, hwf, hC2, hM2⟩
      · exact absurd h382 (by decide)
    · exact absurd rfl h375
end LH_
