/-! THE LAW: what moves -/
theorem mk1_f {P r w c t : Nat} {L : Nat → Nat → Int32} : mk1 P r w false L c t = std P r w t := by unfold mk1; simp
theorem std_put {P r w row q k left : Nat} {x y : Int32} (hP : P ≤ 5) (h : std P r w row = true) (hk : PutOK P r w row left x y q k) : std P r w (wth P row q k) = true := by
  obtain ⟨_, h1, _, h2, _, h3, h4⟩ := hk
  have := mk_put (rt := false) (L := fun _ _ => 0) hP h h1 h3 h2
  rw [mk1_f] at this
  rw [this]; exact decide_eq_true h4
theorem std_tak {P r w row q left : Nat} {x : Int32} (hP : P ≤ 5) (h : std P r w row = true) (hk : TakOK P row left x q) : std P r w (wth P row q 0) = true := by
  obtain ⟨_, h1, _, h2⟩ := hk
  have := mk_tak (rt := false) (L := fun _ _ => 0) hP h h1 h2
  rwa [mk1_f] at this
theorem std_mov {P r w row q k left : Nat} {x y : Int32} (hP : P ≤ 5) (h : std P r w row = true) (hk : MovOK P row left x y q k) : std P r w (wth P (wth P row q 0) k (pt P row q)) = true := by
  obtain ⟨_, h1, _, h2, _, h3, h4⟩ := hk
  have := mk_mov (rt := false) (L := fun _ _ => 0) hP h h1 h2 h3 h4
  rw [mk1_f] at this
  rw [this]; rfl
theorem act60_m {l : List Act} {a b : Act} (h : b ∈ act60 l a) : b ∈ l ∨ b = a := by
  unfold act60 at h
  split at h
  · rcases List.mem_append.mp h with h | h
    · exact Or.inl h
    · exact Or.inr (List.mem_singleton.mp h)
  · rcases List.mem_append.mp h with h | h
    · exact Or.inl (List.mem_of_mem_tail h)
    · exact Or.inr (List.mem_singleton.mp h)
theorem act60_pw {l : List Act} {a : Act} (h : l.Pairwise (fun a b => a.2.1 ≤ b.2.1)) (h2 : ∀ b ∈ l, b.2.1 ≤ a.2.1) : (act60 l a).Pairwise (fun a b => a.2.1 ≤ b.2.1) := by
  have K : ∀ m : List Act, m.Pairwise (fun a b => a.2.1 ≤ b.2.1) → (∀ b ∈ m, b.2.1 ≤ a.2.1) → (m ++ [a]).Pairwise (fun a b => a.2.1 ≤ b.2.1) := fun m g1 g2 => List.pairwise_append.mpr ⟨g1, List.pairwise_singleton _ _, fun x hx y hy => by rw [List.mem_singleton.mp hy]; exact g2 x hx⟩
  unfold act60
  split
  · exact K l h h2
  · exact K l.tail (h.sublist (List.tail_sublist l)) (fun b hb => h2 b (List.mem_of_mem_tail hb))
section LB_
variable {X : am_X} {P r w pd row day left : Nat} {acts : List Act} {di : Nat → Nat} {se : List Act} {to : List (Nat × Nat)} {bks : List Bk} {wds lis : List (List Nat)} {li : Option Nat} {tp : List Nat} {ke : Option K6}
theorem WF.act {row' left' : Nat} (h : WF P r w pd row day left acts di se to bks wds lis li tp ke) (hl : left' ≤ 5) (hs : 0 < P → std P r w row' = true) (hs2 : P = 0 → row' = 0) : WF P r w pd row' day left' (act60 acts (row, day, left)) di se to bks wds lis li tp ke := by
  obtain ⟨⟨w0, w1, w2, w3, w4, w5, w6, w7, w8⟩, ⟨x1, x2, x3⟩, y, z, k⟩ := h
  refine ⟨⟨w0, w1, w2, w3, w4, hl, w6, hs, hs2⟩, ⟨fun a ha => ?_, act60_pw x2 (fun b hb => (x1 b hb).2.2.1), x3⟩, y, z, k⟩
  rcases act60_m ha with h | h
  · exact x1 a h
  · rw [h]; exact ⟨w7, w8, Nat.le_refl _, w5⟩
theorem op7 : OPL X 462 := by
  intro d i j s l5 l6 Q hX hi hj hL hG
  obtain ⟨hF, hro, P, r, w, pd, row, day, left, acts, di, se, to, bks, wds, lis, li, tp, ke, hwf, hC, hM⟩ := hL
  have ⟨⟨w0, w1, w2, w3, w4, w5, w6, w7, w8⟩, ⟨x1, x2, x3⟩, ⟨y1, y2⟩, ⟨z1, z2, z3⟩, z4⟩ := hwf
  have ⟨⟨hR, hW, hA, hD, d33, d42⟩, ⟨hS, hT, ht, hDf, hH⟩, ⟨hQ, hK, hZ⟩, hke, bp, wp, lp, hKS⟩ := hC
  have ⟨kB, kW, kL, kSE, kN, kb1, kb2, kb3, kl1, kl2, kl3, kn1, kn2⟩ := hKS
  have ⟨⟨mW, mA, mD⟩, ⟨mS, mT, mt⟩, ⟨mB, mWl, mL⟩, ⟨m32, m43⟩, mke⟩ := hM
  have hP5 : P ≤ 5 := w1
  by_cases hk : ∃ q k, PutOK P r w row left (X.2 (i + 1)) (X.2 (i + 2)) q k
  · obtain ⟨q, k, hk⟩ := hk
    have hP0 : 0 < P := by have := hk.2.1; omega
    refine g_p t285_462 rfl ?_
    refine g_p t285_463 rfl ?_
    refine g_p t285_464 rfl ?_
    refine g_k (n := 1) t285_466 rfl rfl ?_
    refine g_addn t285_467 ?_
    refine r_xld t285_468 hX (by omega) ?_
    refine g_p t285_469 rfl ?_
    refine g_p t285_470 rfl ?_
    refine g_k (n := 2) t285_472 rfl rfl ?_
    refine g_addn t285_473 ?_
    refine r_xld t285_474 hX (by omega) ?_
    refine r_cv t285_475 (f0 hF) rfl ?_
    refine c139t (by exact hF) hR hW hA w7 w2 w3 w5 hk (fun s1 f1 hA1 hW1 => ?_)
    have hC1 := hC.cW f1 (by omega) hA1 hW1
    have hM1 := hM.cf hF f1 (by decide)
    have hF1 := hF.fr f1
    have hF := hF1
    have nx1 := f1.nx
    have ⟨⟨mW, mA, mD⟩, ⟨mS, mT, mt⟩, ⟨mB, mWl, mL⟩, ⟨m32, m43⟩, mke⟩ := hM1
    refine k_v ?_ rfl
    refine g_p t285_478 rfl ?_
    refine g_p t285_479 rfl ?_
    refine g_p t285_480 rfl ?_
    refine g_k (n := 1) t285_482 rfl rfl ?_
    refine g_addn t285_483 ?_
    refine r_xld t285_484 hX (by omega) ?_
    refine g_p t285_485 rfl ?_
    refine g_p t285_486 rfl ?_
    refine g_k (n := 2) t285_488 rfl rfl ?_
    refine g_addn t285_489 ?_
    refine r_xld t285_490 hX (by omega) ?_
    refine r_cv t285_491 (f80 hF) rfl ?_
    refine c225t (by exact hF1) hP5 mW mA w7 w2 w3 w5 hk (fun s2 f2 mA2 mW2 => ?_)
    refine k_v ?_ rfl
    refine g_ceq t285_494 (fun h494 => ?_) (fun h494 => ?_)
    · exact hG _ _ _ (LI.ok (s := s) (hF1.fr f2.1) hro (f2.1.nx.trans nx1) (hwf.act (by omega) (fun h => std_put hP5 (w7 h) hk) (fun h => by omega)) (hC1.fm f2 (by decide)) (hM1.cW (f2.mono (fun _ h => h) (by decide)) (by omega) mA2 mW2))
    · exact absurd rfl h494
  · refine g_p t285_462 rfl ?_
    refine g_p t285_463 rfl ?_
    refine g_p t285_464 rfl ?_
    refine g_k (n := 1) t285_466 rfl rfl ?_
    refine g_addn t285_467 ?_
    refine r_xld t285_468 hX (by omega) ?_
    refine g_p t285_469 rfl ?_
    refine g_p t285_470 rfl ?_
    refine g_k (n := 2) t285_472 rfl rfl ?_
    refine g_addn t285_473 ?_
    refine r_xld t285_474 hX (by omega) ?_
    refine r_cv t285_475 (f0 hF) rfl ?_
    refine c139f (by exact hF) hR hW hA w7 w2 w3 w5 hk ?_
    refine k_v ?_ rfl
    refine g_p t285_478 rfl ?_
    refine g_p t285_479 rfl ?_
    refine g_p t285_480 rfl ?_
    refine g_k (n := 1) t285_482 rfl rfl ?_
    refine g_addn t285_483 ?_
    refine r_xld t285_484 hX (by omega) ?_
    refine g_p t285_485 rfl ?_
    refine g_p t285_486 rfl ?_
    refine g_k (n := 2) t285_488 rfl rfl ?_
    refine g_addn t285_489 ?_
    refine r_xld t285_490 hX (by omega) ?_
    refine r_cv t285_491 (f80 hF) rfl ?_
    refine c225f (by exact hF) hP5 mW mA w7 w2 w3 w5 hk ?_
    refine k_v ?_ rfl
    refine g_ceq t285_494 (fun h494 => ?_) (fun h494 => ?_)
    · exact hG _ _ _ (LI.ok (s := s) (by exact hF) hro rfl hwf hC.w0 hM.w0)
    · exact absurd rfl h494
theorem op8 : OPL X 499 := by
  intro d i j s l5 l6 Q hX hi hj hL hG
  obtain ⟨hF, hro, P, r, w, pd, row, day, left, acts, di, se, to, bks, wds, lis, li, tp, ke, hwf, hC, hM⟩ := hL
  have ⟨⟨w0, w1, w2, w3, w4, w5, w6, w7, w8⟩, ⟨x1, x2, x3⟩, ⟨y1, y2⟩, ⟨z1, z2, z3⟩, z4⟩ := hwf
  have ⟨⟨hR, hW, hA, hD, d33, d42⟩, ⟨hS, hT, ht, hDf, hH⟩, ⟨hQ, hK, hZ⟩, hke, bp, wp, lp, hKS⟩ := hC
  have ⟨kB, kW, kL, kSE, kN, kb1, kb2, kb3, kl1, kl2, kl3, kn1, kn2⟩ := hKS
  have ⟨⟨mW, mA, mD⟩, ⟨mS, mT, mt⟩, ⟨mB, mWl, mL⟩, ⟨m32, m43⟩, mke⟩ := hM
  have hP5 : P ≤ 5 := w1
  by_cases hk : ∃ q, TakOK P row left (X.2 (i + 1)) q
  · obtain ⟨q, hk⟩ := hk
    have hP0 : 0 < P := by have := hk.2.1; omega
    refine g_p t285_499 rfl ?_
    refine g_p t285_500 rfl ?_
    refine g_p t285_501 rfl ?_
    refine g_k (n := 1) t285_503 rfl rfl ?_
    refine g_addn t285_504 ?_
    refine r_xld t285_505 hX (by omega) ?_
    refine r_cv t285_506 (f0 hF) rfl ?_
    refine c140t (by exact hF) hR hW hA w7 w2 w3 w5 hk (fun s1 f1 hA1 hW1 => ?_)
    have hC1 := hC.cW f1 (by omega) hA1 hW1
    have hM1 := hM.cf hF f1 (by decide)
    have hF1 := hF.fr f1
    have hF := hF1
    have nx1 := f1.nx
    have ⟨⟨mW, mA, mD⟩, ⟨mS, mT, mt⟩, ⟨mB, mWl, mL⟩, ⟨m32, m43⟩, mke⟩ := hM1
    refine k_v ?_ rfl
    refine g_p t285_509 rfl ?_
    refine g_p t285_510 rfl ?_
    refine g_p t285_511 rfl ?_
    refine g_k (n := 1) t285_513 rfl rfl ?_
    refine g_addn t285_514 ?_
    refine r_xld t285_515 hX (by omega) ?_
    refine r_cv t285_516 (f80 hF) rfl ?_
    refine c226t (by exact hF1) hP5 mW mA w7 w2 w3 w5 hk (fun s2 f2 mA2 mW2 => ?_)
    refine k_v ?_ rfl
    refine g_ceq t285_519 (fun h519 => ?_) (fun h519 => ?_)
    · exact hG _ _ _ (LI.ok (s := s) (hF1.fr f2.1) hro (f2.1.nx.trans nx1) (hwf.act (by omega) (fun h => std_tak hP5 (w7 h) hk) (fun h => by omega)) (hC1.fm f2 (by decide)) (hM1.cW (f2.mono (fun _ h => h) (by decide)) (by omega) mA2 mW2))
    · exact absurd rfl h519
  · refine g_p t285_499 rfl ?_
    refine g_p t285_500 rfl ?_
    refine g_p t285_501 rfl ?_
    refine g_k (n := 1) t285_503 rfl rfl ?_
    refine g_addn t285_504 ?_
    refine r_xld t285_505 hX (by omega) ?_
    refine r_cv t285_506 (f0 hF) rfl ?_
    refine c140f (by exact hF) hR hW hA w7 w2 w3 w5 hk ?_
    refine k_v ?_ rfl
    refine g_p t285_509 rfl ?_
    refine g_p t285_510 rfl ?_
    refine g_p t285_511 rfl ?_
    refine g_k (n := 1) t285_513 rfl rfl ?_
    refine g_addn t285_514 ?_
    refine r_xld t285_515 hX (by omega) ?_
    refine r_cv t285_516 (f80 hF) rfl ?_
    refine c226f (by exact hF) hP5 mW mA w7 w2 w3 w5 hk ?_
    refine k_v ?_ rfl
    refine g_ceq t285_519 (fun h519 => ?_) (fun h519 => ?_)
    · exact hG _ _ _ (LI.ok (s := s) (by exact hF) hro rfl hwf hC.w0 hM.w0)
    · exact absurd rfl h519
theorem op9 : OPL X 524 := by
  intro d i j s l5 l6 Q hX hi hj hL hG
  obtain ⟨hF, hro, P, r, w, pd, row, day, left, acts, di, se, to, bks, wds, lis, li, tp, ke, hwf, hC, hM⟩ := hL
  have ⟨⟨w0, w1, w2, w3, w4, w5, w6, w7, w8⟩, ⟨x1, x2, x3⟩, ⟨y1, y2⟩, ⟨z1, z2, z3⟩, z4⟩ := hwf
  have ⟨⟨hR, hW, hA, hD, d33, d42⟩, ⟨hS, hT, ht, hDf, hH⟩, ⟨hQ, hK, hZ⟩, hke, bp, wp, lp, hKS⟩ := hC
  have ⟨kB, kW, kL, kSE, kN, kb1, kb2, kb3, kl1, kl2, kl3, kn1, kn2⟩ := hKS
  have ⟨⟨mW, mA, mD⟩, ⟨mS, mT, mt⟩, ⟨mB, mWl, mL⟩, ⟨m32, m43⟩, mke⟩ := hM
  have hP5 : P ≤ 5 := w1
  by_cases hk : ∃ q k, MovOK P row left (X.2 (i + 1)) (X.2 (i + 2)) q k
  · obtain ⟨q, k, hk⟩ := hk
    have hP0 : 0 < P := by have := hk.2.1; omega
    refine g_p t285_524 rfl ?_
    refine g_p t285_525 rfl ?_
    refine g_p t285_526 rfl ?_
    refine g_k (n := 1) t285_528 rfl rfl ?_
    refine g_addn t285_529 ?_
    refine r_xld t285_530 hX (by omega) ?_
    refine g_p t285_531 rfl ?_
    refine g_p t285_532 rfl ?_
    refine g_k (n := 2) t285_534 rfl rfl ?_
    refine g_addn t285_535 ?_
    refine r_xld t285_536 hX (by omega) ?_
    refine r_cv t285_537 (f0 hF) rfl ?_
    refine c141t (by exact hF) hR hW hA w7 w2 w3 w5 hk (fun s1 f1 hA1 hW1 => ?_)
    have hC1 := hC.cW f1 (by omega) hA1 hW1
    have hM1 := hM.cf hF f1 (by decide)
    have hF1 := hF.fr f1
    have hF := hF1
    have nx1 := f1.nx
    have ⟨⟨mW, mA, mD⟩, ⟨mS, mT, mt⟩, ⟨mB, mWl, mL⟩, ⟨m32, m43⟩, mke⟩ := hM1
    refine k_v ?_ rfl
    refine g_p t285_540 rfl ?_
    refine g_p t285_541 rfl ?_
    refine g_p t285_542 rfl ?_
    refine g_k (n := 1) t285_544 rfl rfl ?_
    refine g_addn t285_545 ?_
    refine r_xld t285_546 hX (by omega) ?_
    refine g_p t285_547 rfl ?_
    refine g_p t285_548 rfl ?_
    refine g_k (n := 2) t285_550 rfl rfl ?_
    refine g_addn t285_551 ?_
    refine r_xld t285_552 hX (by omega) ?_
    refine r_cv t285_553 (f80 hF) rfl ?_
    refine c227t (by exact hF1) hP5 mW mA w7 w2 w3 w5 hk (fun s2 f2 mA2 mW2 => ?_)
    refine k_v ?_ rfl
    refine g_ceq t285_556 (fun h556 => ?_) (fun h556 => ?_)
    · exact hG _ _ _ (LI.ok (s := s) (hF1.fr f2.1) hro (f2.1.nx.trans nx1) (hwf.act (by omega) (fun h => std_mov hP5 (w7 h) hk) (fun h => by omega)) (hC1.fm f2 (by decide)) (hM1.cW (f2.mono (fun _ h => h) (by decide)) (by omega) mA2 mW2))
    · exact absurd rfl h556
  · refine g_p t285_524 rfl ?_
    refine g_p t285_525 rfl ?_
    refine g_p t285_526 rfl ?_
    refine g_k (n := 1) t285_528 rfl rfl ?_
    refine g_addn t285_529 ?_
    refine r_xld t285_530 hX (by omega) ?_
    refine g_p t285_531 rfl ?_
    refine g_p t285_532 rfl ?_
    refine g_k (n := 2) t285_534 rfl rfl ?_
    refine g_addn t285_535 ?_
    refine r_xld t285_536 hX (by omega) ?_
    refine r_cv t285_537 (f0 hF) rfl ?_
    refine c141f (by exact hF) hR hW hA w7 w2 w3 w5 hk ?_
    refine k_v ?_ rfl
    refine g_p t285_540 rfl ?_
    refine g_p t285_541 rfl ?_
    refine g_p t285_542 rfl ?_
    refine g_k (n := 1) t285_544 rfl rfl ?_
    refine g_addn t285_545 ?_
    refine r_xld t285_546 hX (by omega) ?_
    refine g_p t285_547 rfl ?_
    refine g_p t285_548 rfl ?_
    refine g_k (n := 2) t285_550 rfl rfl ?_
    refine g_addn t285_551 ?_
    refine r_xld t285_552 hX (by omega) ?_
    refine r_cv t285_553 (f80 hF) rfl ?_
    refine c227f (by exact hF) hP5 mW mA w7 w2 w3 w5 hk ?_
    refine k_v ?_ rfl
    refine g_ceq t285_556 (fun h556 => ?_) (fun h556 => ?_)
    · exact hG _ _ _ (LI.ok (s := s) (by exact hF) hro rfl hwf hC.w0 hM.w0)
    · exact absurd rfl h556
theorem op11 : OPL X 586 := by
  intro d i j s l5 l6 Q hX hi hj hL hG
  obtain ⟨hF, hro, P, r, w, pd, row, day, left, acts, di, se, to, bks, wds, lis, li, tp, ke, hwf, hC, hM⟩ := hL
  have ⟨⟨w0, w1, w2, w3, w4, w5, w6, w7, w8⟩, ⟨x1, x2, x3⟩, ⟨y1, y2⟩, ⟨z1, z2, z3⟩, z4⟩ := hwf
  have ⟨⟨hR, hW, hA, hD, d33, d42⟩, ⟨hS, hT, ht, hDf, hH⟩, ⟨hQ, hK, hZ⟩, hke, bp, wp, lp, hKS⟩ := hC
  have ⟨kB, kW, kL, kSE, kN, kb1, kb2, kb3, kl1, kl2, kl3, kn1, kn2⟩ := hKS
  have ⟨⟨mW, mA, mD⟩, ⟨mS, mT, mt⟩, ⟨mB, mWl, mL⟩, ⟨m32, m43⟩, mke⟩ := hM
  have hP5 : P ≤ 5 := w1
  rcases List.eq_nil_or_concat acts with hk | ⟨ac, y, hk⟩
  · subst hk
    refine g_p t285_586 rfl ?_
    refine r_cv t285_587 (f0 hF) rfl ?_
    refine c143f (by exact hF) hA ?_
    refine k_v ?_ rfl
    refine g_p t285_590 rfl ?_
    refine r_cv t285_591 (f80 hF) rfl ?_
    refine c230f (by exact hF) mA ?_
    refine k_v ?_ rfl
    refine g_ceq t285_594 (fun h594 => ?_) (fun h594 => ?_)
    · exact hG _ _ _ (LI.ok (s := s) (by exact hF) hro rfl hwf hC.w0 hM.w0)
    · exact absurd rfl h594
  · obtain ⟨v1, v2, v3⟩ := y
    rw [List.concat_eq_append] at hk
    subst hk
    have ho := x1 (v1, v2, v3) (List.mem_append.mpr (Or.inr (List.mem_singleton.mpr rfl)))
    have hp := List.pairwise_append.mp x2
    refine g_p t285_586 rfl ?_
    refine r_cv t285_587 (f0 hF) rfl ?_
    refine c143t (by exact hF) hA hW (fun s1 f1 hA1 hW1 => ?_)
    have hd := ho.2.2.1
    have hC1 := hC.cW f1 hd hA1 hW1
    have hM1 := hM.cf hF f1 (by decide)
    have hF1 := hF.fr f1
    have hF := hF1
    have nx1 := f1.nx
    have ⟨⟨mW, mA, mD⟩, ⟨mS, mT, mt⟩, ⟨mB, mWl, mL⟩, ⟨m32, m43⟩, mke⟩ := hM1
    refine k_v ?_ rfl
    refine g_p t285_590 rfl ?_
    refine r_cv t285_591 (f80 hF) rfl ?_
    refine c230t (by exact hF1) mA mW (fun s2 f2 mA2 mW2 => ?_)
    refine k_v ?_ rfl
    refine g_ceq t285_594 (fun h594 => ?_) (fun h594 => ?_)
    · exact hG _ _ _ (LI.ok (s := s) (hF1.fr f2.1) hro (f2.1.nx.trans nx1) ⟨⟨w0, w1, w2, w3, w4, ho.2.2.2, Nat.le_trans hd w6, ho.1, ho.2.1⟩, ⟨fun a ha => by have g := x1 a (List.mem_append.mpr (Or.inl ha)); exact ⟨g.1, g.2.1, hp.2.2 a ha _ (List.mem_singleton.mpr rfl), g.2.2.2⟩, hp.1, fun n hn => x3 n (Nat.lt_of_lt_of_le hn hd)⟩, ⟨y1, y2⟩, ⟨z1, z2, z3⟩, z4⟩ (hC1.fm f2 (by decide)) (hM1.cW (f2.mono (by decide) (by decide)) hd mA2 mW2))
    · exact absurd rfl h594
end LB_
