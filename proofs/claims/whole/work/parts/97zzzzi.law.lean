/-! THE LAW: texts kept -/
theorem FM.g2 {A B' G : List Nat} {s s' : mM} (f : FM A tB s s') (g : ∀ i, i ∈ G → ri s' 80 i = ri s 80 i) (h : ∀ i ∈ tB, i ∈ B' ∨ i ∈ G) : FM A B' s s' := ⟨f.1, fun i hi => by
  by_cases h1 : i ∈ tB
  · exact g i ((h i h1).resolve_left hi)
  · exact f.2 i h1⟩
theorem sil_bd {t : List Nat} : ∀ (n : Nat) (x : Sl), bd5 x.1 → bd5 (sil t n x).1 := by
  intro n
  induction n with
  | zero => exact fun _ h => h
  | succ n ih =>
    intro x h
    unfold sil
    split
    · exact h
    · exact ih _ (sit_bd h)
theorem sle_bd {t : List Nat} : bd5 (sle t).1 := sil_bd 3 _ bd5_0
theorem cn_00 : ∀ p, p < 6 → 2 ≤ p → 0 < mn p ∧ cn p 0 1 = 0 ∧ cn p 0 2 = 0 := by decide
section LI_
variable {X : am_X}
theorem wdl_8 {t : List Nat} : ∀ (n : Nat) (x : List Nat × Ps), (wdl t n x).1.length ≤ x.1.length + n := by
  intro n
  induction n with
  | zero => intro x; exact Nat.le_refl _
  | succ n ih =>
    intro x
    unfold wdl
    split
    · omega
    · refine Nat.le_trans (ih _) ?_
      simp only [List.length_append, List.length_cons, List.length_nil]
      omega
theorem wde_8 {t : List Nat} : (wde t).1.length ≤ 8 := by
  have := wdl_8 (t := t) 7 ([plv t (.inl (skp t 0))], plt t (.inl (skp t 0)))
  exact this
theorem op3 : OPL X 319 := by
  intro d i j s l5 l6 Q hX hi hj hL hG
  obtain ⟨hF, hro, P, r, w, pd, row, day, left, acts, di, se, to, bks, wds, lis, li, tp, ke, hwf, hC, hM⟩ := hL
  have ⟨⟨w0, w1, w2, w3, w4, w5, w6, w7, w8⟩, ⟨x1, x2, x3⟩, ⟨y1, y2⟩, ⟨z1, z2, z3⟩, z4⟩ := hwf
  have ⟨⟨hR, hW, hA, hD, d33, d42⟩, ⟨hS, hT, ht, hDf, hH⟩, ⟨hQ, hK, hZ⟩, hke, bp, wp, lp, hKS⟩ := hC
  have ⟨kB, kW, kL, kSE, kN, kb1, kb2, kb3, kl1, kl2, kl3, kn1, kn2⟩ := hKS
  have ⟨⟨mW, mA, mD⟩, ⟨mS, mT, mt⟩, ⟨mB, mWl, mL⟩, ⟨m32, m43⟩, mke⟩ := hM
  have hP5 : P ≤ 5 := w1
  have hTX : TX 1 120 tp s := ⟨fN1 hF, ht, z2, z2, by decide, z3⟩
  have ⟨⟨l6_, hl6, hl68⟩, ⟨l13_, hl13, hl138⟩, n8, hn8, e8⟩ := hDf
  have hho : (li.map fun l => (lis ++ [tp]).getD l []) = li.map fun l => lis.getD l [] := by
    cases li with
    | none => rfl
    | some l => show some ((lis ++ [tp]).getD l []) = some (lis.getD l []); rw [getD_appL (z1 l rfl)]
  by_cases hk : inN 4 (X.2 (i + 1)) = true
  · obtain ⟨k, hk4, e⟩ := inN_t hk (by decide)
    rcases (show k = 0 ∨ k = 1 ∨ k = 2 ∨ k = 3 by omega) with hk0 | hk0 | hk0 | hk0
    all_goals subst hk0
    · by_cases hok : ∃ p, pfi tp (sle tp).2 = .inl p
      · have hbd := sle_bd (t := tp)
        have q1 : 2 ≤ pdv tp 2 5 (sl0 tp) := (pdv_le (by decide)).1
        have q2 : pdv tp 2 5 (sl0 tp) ≤ 5 := (pdv_le (by decide)).2
        have gd : ∀ o : Option Nat, (∀ y, o = some y → y ≤ 5) → o.getD 2 ≤ 5 := fun o h => by
          cases o with
          | none => decide
          | some y => exact h y rfl
        have q3 := gd _ hbd.1
        have q4 := gd _ hbd.2.1
        have q5 := gd _ (fun y hy => (hbd.2.2 y hy).2)
        obtain ⟨c0, c1, c2⟩ := cn_00 _ (Nat.lt_succ_of_le q2) q1
        have q6 : std (pdv tp 2 5 (sl0 tp)) ((sle tp).1.1.getD 2) ((sle tp).1.2.1.getD 2) 0 = true := std_of c0 (by rw [c1]; exact Nat.zero_le _) (by rw [c2]; exact Nat.zero_le _)
        refine g_p t285_319 rfl ?_
        refine g_p t285_320 rfl ?_
        refine g_p t285_321 rfl ?_
        refine g_k (n := 1) t285_323 rfl rfl ?_
        refine g_addn t285_324 ?_
        refine r_xld t285_325 hX (by omega) ?_
        refine r_cv t285_326 (f0 hF) rfl ?_
        rw [e]
        refine c124_0_ok (by exact hF) hTX hKS hDf hH hA hS hT hok (fun s1 ou nx1 R1 W1 A1 S1 z58 T1 e16 ks1 L1 => ?_)
        obtain ⟨hF1, f1, nxb, rmb, Df1, hH1⟩ := ou
        have hC1 : CI ((pdv tp 2 5 (sl0 tp))) (((sle tp).1.1.getD 2)) (((sle tp).1.2.1.getD 2)) (((sle tp).1.2.2.getD 2)) (0) (0) (((sle tp).1.2.2.getD 2)) ([]) di ([]) ([]) bks wds lis (none) ([]) (none) s1 := ⟨⟨R1, W1, A1, (fun k hk => absurd hk (Nat.not_lt_zero k)), (f1.ri (by decide) (by decide)).trans d33, (f1.ri (by decide) (by decide)).trans d42⟩, ⟨S1, T1, L1, Df1, hH1⟩, ⟨(show CQ (loM s1 s) from hQ.fr f1.fr (by decide)), (fun a ha => Or.inl (z58 a (by have := mn_le q2; omega))), (show CZ (loM s1 s) from hZ.fr f1.fr (by decide) (by decide))⟩, e16, bp, wp, lp, ks1⟩
        have hM1 := hM.lf hF hF1 f1 (by decide)
        have hF := hF1
        have ⟨⟨mW, mA, mD⟩, ⟨mS, mT, mt⟩, ⟨mB, mWl, mL⟩, ⟨m32, m43⟩, mke⟩ := hM1
        refine k_v ?_ rfl
        refine g_p t285_329 rfl ?_
        refine g_p t285_330 rfl ?_
        refine g_p t285_331 rfl ?_
        refine g_k (n := 1) t285_333 rfl rfl ?_
        refine g_addn t285_334 ?_
        refine r_xld t285_335 hX (by omega) ?_
        refine r_cv t285_336 (f80 hF) rfl ?_
        rw [e]
        refine c208_0_ok (by exact hF1) mt z2 z3 hok (fun s2 f2 nW nA nS nT e64 e32 tp2 _ e28 e31 e7 => ?_)
        refine k_v ?_ rfl
        refine g_ceq t285_339 (fun h339 => ?_) (fun h339 => ?_)
        · have f3 : FM [85, 86] [0, 5, 6, 8, 9, 10, 11, 12, 13, 14, 17, 20, 21, 22, 23, 32, 33, 34, 35, 40, 53, 58, 64] s1 s2 := f2.g2 (G := [28, 31, 7]) (fun i hi => by
            simp only [List.mem_cons, List.not_mem_nil, or_false] at hi
            rcases hi with h | h | h
            · rw [h]; exact e28
            · rw [h]; exact e31
            · rw [h]; exact e7) (by decide)
          have hM2 : MI ((pdv tp 2 5 (sl0 tp))) (((sle tp).1.1.getD 2)) (((sle tp).1.2.1.getD 2)) (((sle tp).1.2.2.getD 2)) (0) (0) (((sle tp).1.2.2.getD 2)) ([]) di ([]) ([]) bks wds lis (none) ([]) (none) s2 := ⟨⟨nW, nA, (fun k hk => absurd hk (Nat.not_lt_zero k))⟩, ⟨nS, nT, tp2⟩, ⟨mB.fm f3 (by decide) (by decide) (by decide) (by decide) (by decide), mWl.fm f3 (by decide) (by decide) (by decide), mL.fm f3 (by decide) (by decide) (by decide) (by decide)⟩, ⟨e32, (f3.f (by decide)).trans m43⟩, e64⟩
          exact hG _ _ _ ⟨hF1.fr f2.1, ⟨by rw [f2.1.nx]; have := hro.1; omega, by rw [f2.1.nx]; have := hro.2.1; omega, by rw [f2.1.nx]; have := hro.2.2; omega⟩, _, _, _, _, _, _, _, _, _, _, _, _, _, _, _, _, _, ⟨⟨Or.inr q1, q2, q3, q4, q5, q5, Nat.zero_le _, fun _ => q6, fun _ => rfl⟩, ⟨fun a ha => absurd ha (List.not_mem_nil), List.Pairwise.nil, fun n hn => absurd hn (Nat.not_lt_zero n)⟩, ⟨fun a ha => absurd ha (List.not_mem_nil), fun a ha => absurd ha (List.not_mem_nil)⟩, ⟨fun l h => (by cases h), Nat.zero_le _, fun x hx => absurd hx (List.not_mem_nil)⟩, fun k h => (by cases h)⟩, hC1.fm f2 (by decide), hM2⟩
        · exact absurd rfl h339
      · have hbad := fb_ne (fb_0 hF hTX) z2 hok
        refine g_p t285_319 rfl ?_
        refine g_p t285_320 rfl ?_
        refine g_p t285_321 rfl ?_
        refine g_k (n := 1) t285_323 rfl rfl ?_
        refine g_addn t285_324 ?_
        refine r_xld t285_325 hX (by omega) ?_
        refine r_cv t285_326 (f0 hF) rfl ?_
        rw [e]
        refine c124_0_bad (by exact hF) hTX hKS hDf hH hbad (fun s1 ou nx1 ks1 => ?_)
        obtain ⟨hF1, f1, nxb, rmb, Df1, hH1⟩ := ou
        have hke1 : kef ke pd s1 := by
          have g := hke.fr (s' := loM s1 s) f1.fr (f1.ri (q := 0) (i := 16) (by decide) (by decide)) (by decide) (by decide)
          cases ke with
          | none => exact g
          | some x => exact g
        have hC1 : CI P r w pd row day left acts di se to bks wds lis li tp ke s1 := ⟨⟨hR.kx0 f1 (by decide), hW.kx0 f1 (by decide), hA.kx0 f1 (by decide), (fun k hk => (f1.ri (by decide) (by decide)).trans (hD k hk)), (f1.ri (by decide) (by decide)).trans d33, (f1.ri (by decide) (by decide)).trans d42⟩, ⟨hS.kx0 f1 (by decide), hT.kx0 f1 (by decide), (show NL (loM s1 s) 1 tp from ht.fr f1.fr (by decide) (by decide)), Df1, hH1⟩, ⟨(show CQ (loM s1 s) from hQ.fr f1.fr (by decide)), (show KP P r w (loM s1 s) from hK.fr f1.fr (by decide) (by decide)), (show CZ (loM s1 s) from hZ.fr f1.fr (by decide) (by decide))⟩, hke1, bp, wp, lp, ks1⟩
        have hM1 := hM.lf hF hF1 f1 (by decide)
        have hF := hF1
        have ⟨⟨mW, mA, mD⟩, ⟨mS, mT, mt⟩, ⟨mB, mWl, mL⟩, ⟨m32, m43⟩, mke⟩ := hM1
        refine k_v ?_ rfl
        refine g_p t285_329 rfl ?_
        refine g_p t285_330 rfl ?_
        refine g_p t285_331 rfl ?_
        refine g_k (n := 1) t285_333 rfl rfl ?_
        refine g_addn t285_334 ?_
        refine r_xld t285_335 hX (by omega) ?_
        refine r_cv t285_336 (f80 hF) rfl ?_
        rw [e]
        refine c208_0_bad (by exact hF1) mt z2 z3 hbad (fun s2 f2 => ?_)
        refine k_v ?_ rfl
        refine g_ceq t285_339 (fun h339 => ?_) (fun h339 => ?_)
        · have hM2 : MI P r w pd row day left acts di se to bks wds lis li tp ke s2 := hM1.fm f2 (by decide) (by decide) ((f2.f (by decide)).trans m43)
          exact hG _ _ _ ⟨hF1.fr f2.1, ⟨by rw [f2.1.nx]; have := hro.1; omega, by rw [f2.1.nx]; have := hro.2.1; omega, by rw [f2.1.nx]; have := hro.2.2; omega⟩, _, _, _, _, _, _, _, _, _, _, _, _, _, _, _, _, _, hwf, hC1.fm f2 (by decide), hM2⟩
        · exact absurd rfl h339
    · by_cases hl : bks.length < 3
      · by_cases hok : ∃ p, pfi tp (bke tp).2.2 = .inl p
        · skip
          refine g_p t285_319 rfl ?_
          refine g_p t285_320 rfl ?_
          refine g_p t285_321 rfl ?_
          refine g_k (n := 1) t285_323 rfl rfl ?_
          refine g_addn t285_324 ?_
          refine r_xld t285_325 hX (by omega) ?_
          refine r_cv t285_326 (f0 hF) rfl ?_
          rw [e]
          refine c124_1_ok (by exact hF) hTX hKS hDf hH hR hl (by have := hro.2.2; omega) hok (fun s1 ou ks L1 => ?_)
          obtain ⟨p2, ks1⟩ := ks
          obtain ⟨hF1, f1, nxb, rmb, Df1, hH1⟩ := ou
          have hke1 : kef ke pd s1 := by
            have g := hke.fr (s' := loM s1 s) f1.fr (f1.ri (q := 0) (i := 16) (by decide) (by decide)) (by decide) (by decide)
            cases ke with
            | none => exact g
            | some x => exact g
          have hC1 : CI P r w pd row day left acts di se to (bks ++ [((bke tp).1, (bke tp).2.1)]) wds lis li ([]) ke s1 := ⟨⟨hR.kx0 f1 (by decide), hW.kx0 f1 (by decide), hA.kx0 f1 (by decide), (fun k hk => (f1.ri (by decide) (by decide)).trans (hD k hk)), (f1.ri (by decide) (by decide)).trans d33, (f1.ri (by decide) (by decide)).trans d42⟩, ⟨hS.kx0 f1 (by decide), hT.kx0 f1 (by decide), L1, Df1, hH1⟩, ⟨(show CQ (loM s1 s) from hQ.fr f1.fr (by decide)), (show KP P r w (loM s1 s) from hK.fr f1.fr (by decide) (by decide)), (show CZ (loM s1 s) from hZ.fr f1.fr (by decide) (by decide))⟩, hke1, p2, wp, lp, ks1⟩
          have hM1 := hM.lf hF hF1 f1 (by decide)
          have hF := hF1
          have ⟨⟨mW, mA, mD⟩, ⟨mS, mT, mt⟩, ⟨mB, mWl, mL⟩, ⟨m32, m43⟩, mke⟩ := hM1
          refine k_v ?_ rfl
          refine g_p t285_329 rfl ?_
          refine g_p t285_330 rfl ?_
          refine g_p t285_331 rfl ?_
          refine g_k (n := 1) t285_333 rfl rfl ?_
          refine g_addn t285_334 ?_
          refine r_xld t285_335 hX (by omega) ?_
          refine r_cv t285_336 (f80 hF) rfl ?_
          rw [e]
          refine c208_1_ok (by exact hF1) mt z2 z3 mB hl hok (fun s2 f2 nw tp2 g2 => ?_)
          refine k_v ?_ rfl
          refine g_ceq t285_339 (fun h339 => ?_) (fun h339 => ?_)
          · have f3 : FM _ [0, 5, 6, 8, 9, 10, 11, 12, 13, 14, 17, 22, 23, 28] s1 s2 := f2.g2 g2 (by decide)
            have hM2 : MI P r w pd row day left acts di se to (bks ++ [((bke tp).1, (bke tp).2.1)]) wds lis li ([]) ke s2 := ⟨⟨mW.fm f3 (by decide) (by decide) (by decide) (by decide) (by decide) (by decide), mA.fm f3 (by decide) (by decide) (by decide) (by decide), mD.fm f3 (by decide)⟩, ⟨mS.fm f3 (by decide) (by decide) (by decide) (by decide), mT.fm f3 (by decide) (by decide) (by decide), tp2⟩, ⟨nw, mWl.fm f3 (by decide) (by decide) (by decide), mL.fm f3 (by decide) (by decide) (by decide) (by decide)⟩, ⟨(f3.f (by decide)).trans m32, (f3.f (by decide)).trans m43⟩, mke.fm f3 (by decide) (by decide)⟩
            exact hG _ _ _ ⟨hF1.fr f2.1, ⟨by rw [f2.1.nx]; have := hro.1; omega, by rw [f2.1.nx]; have := hro.2.1; omega, by rw [f2.1.nx]; have := hro.2.2; omega⟩, _, _, _, _, _, _, _, _, _, _, _, _, _, _, _, _, _, ⟨hwf.1, hwf.2.1, hwf.2.2.1, ⟨fun l h => (by exact z1 l h), Nat.zero_le _, fun x hx => absurd hx (List.not_mem_nil)⟩, hwf.2.2.2.2⟩, hC1.fm f2 (by decide), hM2⟩
          · exact absurd rfl h339
        · have hbad := fb_ne (fb_1 hF hTX hl6 hl68) z2 hok
          refine g_p t285_319 rfl ?_
          refine g_p t285_320 rfl ?_
          refine g_p t285_321 rfl ?_
          refine g_k (n := 1) t285_323 rfl rfl ?_
          refine g_addn t285_324 ?_
          refine r_xld t285_325 hX (by omega) ?_
          refine r_cv t285_326 (f0 hF) rfl ?_
          rw [e]
          refine c124_1_bad (by exact hF) hTX hKS hDf hH hl hbad (fun s1 ou nx1 ks1 => ?_)
          obtain ⟨hF1, f1, nxb, rmb, Df1, hH1⟩ := ou
          have hke1 : kef ke pd s1 := by
            have g := hke.fr (s' := loM s1 s) f1.fr (f1.ri (q := 0) (i := 16) (by decide) (by decide)) (by decide) (by decide)
            cases ke with
            | none => exact g
            | some x => exact g
          have hC1 : CI P r w pd row day left acts di se to bks wds lis li tp ke s1 := ⟨⟨hR.kx0 f1 (by decide), hW.kx0 f1 (by decide), hA.kx0 f1 (by decide), (fun k hk => (f1.ri (by decide) (by decide)).trans (hD k hk)), (f1.ri (by decide) (by decide)).trans d33, (f1.ri (by decide) (by decide)).trans d42⟩, ⟨hS.kx0 f1 (by decide), hT.kx0 f1 (by decide), (show NL (loM s1 s) 1 tp from ht.fr f1.fr (by decide) (by decide)), Df1, hH1⟩, ⟨(show CQ (loM s1 s) from hQ.fr f1.fr (by decide)), (show KP P r w (loM s1 s) from hK.fr f1.fr (by decide) (by decide)), (show CZ (loM s1 s) from hZ.fr f1.fr (by decide) (by decide))⟩, hke1, bp, wp, lp, ks1⟩
          have hM1 := hM.lf hF hF1 f1 (by decide)
          have hF := hF1
          have ⟨⟨mW, mA, mD⟩, ⟨mS, mT, mt⟩, ⟨mB, mWl, mL⟩, ⟨m32, m43⟩, mke⟩ := hM1
          refine k_v ?_ rfl
          refine g_p t285_329 rfl ?_
          refine g_p t285_330 rfl ?_
          refine g_p t285_331 rfl ?_
          refine g_k (n := 1) t285_333 rfl rfl ?_
          refine g_addn t285_334 ?_
          refine r_xld t285_335 hX (by omega) ?_
          refine r_cv t285_336 (f80 hF) rfl ?_
          rw [e]
          refine c208_1_bad (by exact hF1) mt z2 z3 mB.1 (by omega) hl hbad (fun s2 f2 kb => ?_)
          refine k_v ?_ rfl
          refine g_ceq t285_339 (fun h339 => ?_) (fun h339 => ?_)
          · have hM2 : MI P r w pd row day left acts di se to bks wds lis li tp ke s2 := ⟨⟨mW.fm f2 (by decide) (by decide) (by decide) (by decide) (by decide) (by decide), mA.fm f2 (by decide) (by decide) (by decide) (by decide), mD.fm f2 (by decide)⟩, ⟨mS.fm f2 (by decide) (by decide) (by decide) (by decide), mT.fm f2 (by decide) (by decide) (by decide), mt.fm f2 (by decide) (by decide)⟩, ⟨mB.kb (f2.f (by decide)) kb, mWl.fm f2 (by decide) (by decide) (by decide), mL.fm f2 (by decide) (by decide) (by decide) (by decide)⟩, ⟨(f2.f (by decide)).trans m32, (f2.f (by decide)).trans m43⟩, mke.fm f2 (by decide) (by decide)⟩
            exact hG _ _ _ ⟨hF1.fr f2.1, ⟨by rw [f2.1.nx]; have := hro.1; omega, by rw [f2.1.nx]; have := hro.2.1; omega, by rw [f2.1.nx]; have := hro.2.2; omega⟩, _, _, _, _, _, _, _, _, _, _, _, _, _, _, _, _, _, hwf, hC1.fm f2 (by decide), hM2⟩
          · exact absurd rfl h339
      · refine g_p t285_319 rfl ?_
        refine g_p t285_320 rfl ?_
        refine g_p t285_321 rfl ?_
        refine g_k (n := 1) t285_323 rfl rfl ?_
        refine g_addn t285_324 ?_
        refine r_xld t285_325 hX (by omega) ?_
        refine r_cv t285_326 (f0 hF) rfl ?_
        rw [e]
        refine c124_1_full (by exact hF) hKS hl ?_
        refine k_v ?_ rfl
        refine g_p t285_329 rfl ?_
        refine g_p t285_330 rfl ?_
        refine g_p t285_331 rfl ?_
        refine g_k (n := 1) t285_333 rfl rfl ?_
        refine g_addn t285_334 ?_
        refine r_xld t285_335 hX (by omega) ?_
        refine r_cv t285_336 (f80 hF) rfl ?_
        rw [e]
        refine c208_1_full (by exact hF) mB.1 (by omega) hl ?_
        refine k_v ?_ rfl
        refine g_ceq t285_339 (fun h339 => ?_) (fun h339 => ?_)
        · exact hG _ _ _ (LI.ok (s := s) (by exact hF) hro rfl hwf hC.w0 hM.w0)
        · exact absurd rfl h339
    · by_cases hl : wds.length < 4
      · by_cases hok : ∃ p, pfi tp (wde tp).2 = .inl p
        · have h8 : (wde tp).1.length ≤ 8 := wde_8
          refine g_p t285_319 rfl ?_
          refine g_p t285_320 rfl ?_
          refine g_p t285_321 rfl ?_
          refine g_k (n := 1) t285_323 rfl rfl ?_
          refine g_addn t285_324 ?_
          refine r_xld t285_325 hX (by omega) ?_
          refine r_cv t285_326 (f0 hF) rfl ?_
          rw [e]
          refine c124_2_ok (by exact hF) hTX hKS hDf hH hl (by have := hro.2.2; omega) hok (fun s1 ou ks L1 => ?_)
          obtain ⟨p2, ks1⟩ := ks
          obtain ⟨hF1, f1, nxb, rmb, Df1, hH1⟩ := ou
          have hke1 : kef ke pd s1 := by
            have g := hke.fr (s' := loM s1 s) f1.fr (f1.ri (q := 0) (i := 16) (by decide) (by decide)) (by decide) (by decide)
            cases ke with
            | none => exact g
            | some x => exact g
          have hC1 : CI P r w pd row day left acts di se to bks (wds ++ [(wde tp).1]) lis li ([]) ke s1 := ⟨⟨hR.kx0 f1 (by decide), hW.kx0 f1 (by decide), hA.kx0 f1 (by decide), (fun k hk => (f1.ri (by decide) (by decide)).trans (hD k hk)), (f1.ri (by decide) (by decide)).trans d33, (f1.ri (by decide) (by decide)).trans d42⟩, ⟨hS.kx0 f1 (by decide), hT.kx0 f1 (by decide), L1, Df1, hH1⟩, ⟨(show CQ (loM s1 s) from hQ.fr f1.fr (by decide)), (show KP P r w (loM s1 s) from hK.fr f1.fr (by decide) (by decide)), (show CZ (loM s1 s) from hZ.fr f1.fr (by decide) (by decide))⟩, hke1, bp, p2, lp, ks1⟩
          have hM1 := hM.lf hF hF1 f1 (by decide)
          have hF := hF1
          have ⟨⟨mW, mA, mD⟩, ⟨mS, mT, mt⟩, ⟨mB, mWl, mL⟩, ⟨m32, m43⟩, mke⟩ := hM1
          refine k_v ?_ rfl
          refine g_p t285_329 rfl ?_
          refine g_p t285_330 rfl ?_
          refine g_p t285_331 rfl ?_
          refine g_k (n := 1) t285_333 rfl rfl ?_
          refine g_addn t285_334 ?_
          refine r_xld t285_335 hX (by omega) ?_
          refine r_cv t285_336 (f80 hF) rfl ?_
          rw [e]
          refine c208_2_ok (by exact hF1) mt z2 z3 mWl hl h8 hok (fun s2 f2 nw tp2 g2 => ?_)
          refine k_v ?_ rfl
          refine g_ceq t285_339 (fun h339 => ?_) (fun h339 => ?_)
          · have f3 : FM _ [0, 5, 6, 8, 9, 10, 11, 12, 13, 14, 17, 22, 23, 31] s1 s2 := f2.g2 g2 (by decide)
            have hM2 : MI P r w pd row day left acts di se to bks (wds ++ [(wde tp).1]) lis li ([]) ke s2 := ⟨⟨mW.fm f3 (by decide) (by decide) (by decide) (by decide) (by decide) (by decide), mA.fm f3 (by decide) (by decide) (by decide) (by decide), mD.fm f3 (by decide)⟩, ⟨mS.fm f3 (by decide) (by decide) (by decide) (by decide), mT.fm f3 (by decide) (by decide) (by decide), tp2⟩, ⟨mB.fm f3 (by decide) (by decide) (by decide) (by decide) (by decide), nw, mL.fm f3 (by decide) (by decide) (by decide) (by decide)⟩, ⟨(f3.f (by decide)).trans m32, (f3.f (by decide)).trans m43⟩, mke.fm f3 (by decide) (by decide)⟩
            exact hG _ _ _ ⟨hF1.fr f2.1, ⟨by rw [f2.1.nx]; have := hro.1; omega, by rw [f2.1.nx]; have := hro.2.1; omega, by rw [f2.1.nx]; have := hro.2.2; omega⟩, _, _, _, _, _, _, _, _, _, _, _, _, _, _, _, _, _, ⟨hwf.1, hwf.2.1, hwf.2.2.1, ⟨fun l h => (by exact z1 l h), Nat.zero_le _, fun x hx => absurd hx (List.not_mem_nil)⟩, hwf.2.2.2.2⟩, hC1.fm f2 (by decide), hM2⟩
          · exact absurd rfl h339
        · have hbad := fb_ne (fb_2 hF hTX hl13 hl138) z2 hok
          refine g_p t285_319 rfl ?_
          refine g_p t285_320 rfl ?_
          refine g_p t285_321 rfl ?_
          refine g_k (n := 1) t285_323 rfl rfl ?_
          refine g_addn t285_324 ?_
          refine r_xld t285_325 hX (by omega) ?_
          refine r_cv t285_326 (f0 hF) rfl ?_
          rw [e]
          refine c124_2_bad (by exact hF) hTX hKS hDf hH hl hbad (fun s1 ou nx1 ks1 => ?_)
          obtain ⟨hF1, f1, nxb, rmb, Df1, hH1⟩ := ou
          have hke1 : kef ke pd s1 := by
            have g := hke.fr (s' := loM s1 s) f1.fr (f1.ri (q := 0) (i := 16) (by decide) (by decide)) (by decide) (by decide)
            cases ke with
            | none => exact g
            | some x => exact g
          have hC1 : CI P r w pd row day left acts di se to bks wds lis li tp ke s1 := ⟨⟨hR.kx0 f1 (by decide), hW.kx0 f1 (by decide), hA.kx0 f1 (by decide), (fun k hk => (f1.ri (by decide) (by decide)).trans (hD k hk)), (f1.ri (by decide) (by decide)).trans d33, (f1.ri (by decide) (by decide)).trans d42⟩, ⟨hS.kx0 f1 (by decide), hT.kx0 f1 (by decide), (show NL (loM s1 s) 1 tp from ht.fr f1.fr (by decide) (by decide)), Df1, hH1⟩, ⟨(show CQ (loM s1 s) from hQ.fr f1.fr (by decide)), (show KP P r w (loM s1 s) from hK.fr f1.fr (by decide) (by decide)), (show CZ (loM s1 s) from hZ.fr f1.fr (by decide) (by decide))⟩, hke1, bp, wp, lp, ks1⟩
          have hM1 := hM.lf hF hF1 f1 (by decide)
          have hF := hF1
          have ⟨⟨mW, mA, mD⟩, ⟨mS, mT, mt⟩, ⟨mB, mWl, mL⟩, ⟨m32, m43⟩, mke⟩ := hM1
          refine k_v ?_ rfl
          refine g_p t285_329 rfl ?_
          refine g_p t285_330 rfl ?_
          refine g_p t285_331 rfl ?_
          refine g_k (n := 1) t285_333 rfl rfl ?_
          refine g_addn t285_334 ?_
          refine r_xld t285_335 hX (by omega) ?_
          refine r_cv t285_336 (f80 hF) rfl ?_
          rw [e]
          refine c208_2_bad (by exact hF1) mt z2 z3 mWl.1 (by omega) hl hbad (fun s2 f2 kb => ?_)
          refine k_v ?_ rfl
          refine g_ceq t285_339 (fun h339 => ?_) (fun h339 => ?_)
          · have hM2 : MI P r w pd row day left acts di se to bks wds lis li tp ke s2 := ⟨⟨mW.fm f2 (by decide) (by decide) (by decide) (by decide) (by decide) (by decide), mA.fm f2 (by decide) (by decide) (by decide) (by decide), mD.fm f2 (by decide)⟩, ⟨mS.fm f2 (by decide) (by decide) (by decide) (by decide), mT.fm f2 (by decide) (by decide) (by decide), mt.fm f2 (by decide) (by decide)⟩, ⟨mB.fm f2 (by decide) (by decide) (by decide) (by decide) (by decide), mWl.kb (f2.f (by decide)) kb, mL.fm f2 (by decide) (by decide) (by decide) (by decide)⟩, ⟨(f2.f (by decide)).trans m32, (f2.f (by decide)).trans m43⟩, mke.fm f2 (by decide) (by decide)⟩
            exact hG _ _ _ ⟨hF1.fr f2.1, ⟨by rw [f2.1.nx]; have := hro.1; omega, by rw [f2.1.nx]; have := hro.2.1; omega, by rw [f2.1.nx]; have := hro.2.2; omega⟩, _, _, _, _, _, _, _, _, _, _, _, _, _, _, _, _, _, hwf, hC1.fm f2 (by decide), hM2⟩
          · exact absurd rfl h339
      · refine g_p t285_319 rfl ?_
        refine g_p t285_320 rfl ?_
        refine g_p t285_321 rfl ?_
        refine g_k (n := 1) t285_323 rfl rfl ?_
        refine g_addn t285_324 ?_
        refine r_xld t285_325 hX (by omega) ?_
        refine r_cv t285_326 (f0 hF) rfl ?_
        rw [e]
        refine c124_2_full (by exact hF) hKS hl ?_
        refine k_v ?_ rfl
        refine g_p t285_329 rfl ?_
        refine g_p t285_330 rfl ?_
        refine g_p t285_331 rfl ?_
        refine g_k (n := 1) t285_333 rfl rfl ?_
        refine g_addn t285_334 ?_
        refine r_xld t285_335 hX (by omega) ?_
        refine r_cv t285_336 (f80 hF) rfl ?_
        rw [e]
        refine c208_2_full (by exact hF) mWl.1 (by omega) hl ?_
        refine k_v ?_ rfl
        refine g_ceq t285_339 (fun h339 => ?_) (fun h339 => ?_)
        · exact hG _ _ _ (LI.ok (s := s) (by exact hF) hro rfl hwf hC.w0 hM.w0)
        · exact absurd rfl h339
    · by_cases hl : lis.length < 4
      · by_cases hok : ∃ p, pfi tp (lwo tp fun _ => nI 0).2 = .inl p
        · skip
          refine g_p t285_319 rfl ?_
          refine g_p t285_320 rfl ?_
          refine g_p t285_321 rfl ?_
          refine g_k (n := 1) t285_323 rfl rfl ?_
          refine g_addn t285_324 ?_
          refine r_xld t285_325 hX (by omega) ?_
          refine r_cv t285_326 (f0 hF) rfl ?_
          rw [e]
          refine c124_3_ok (by exact hF) hTX hKS hDf hH hl (by have := hro.2.2; omega) hok (fun s1 ou ks L1 => ?_)
          obtain ⟨p2, ks1⟩ := ks
          obtain ⟨hF1, f1, nxb, rmb, Df1, hH1⟩ := ou
          have hke1 : kef ke pd s1 := by
            have g := hke.fr (s' := loM s1 s) f1.fr (f1.ri (q := 0) (i := 16) (by decide) (by decide)) (by decide) (by decide)
            cases ke with
            | none => exact g
            | some x => exact g
          have hC1 : CI P r w pd row day left acts di se to bks wds (lis ++ [tp]) li ([]) ke s1 := ⟨⟨hR.kx0 f1 (by decide), hW.kx0 f1 (by decide), hA.kx0 f1 (by decide), (fun k hk => (f1.ri (by decide) (by decide)).trans (hD k hk)), (f1.ri (by decide) (by decide)).trans d33, (f1.ri (by decide) (by decide)).trans d42⟩, ⟨hS.kx0 f1 (by decide), hT.kx0 f1 (by decide), L1, Df1, (by rw [hho]; exact hH1)⟩, ⟨(show CQ (loM s1 s) from hQ.fr f1.fr (by decide)), (show KP P r w (loM s1 s) from hK.fr f1.fr (by decide) (by decide)), (show CZ (loM s1 s) from hZ.fr f1.fr (by decide) (by decide))⟩, hke1, bp, wp, p2, ks1⟩
          have hM1 := hM.lf hF hF1 f1 (by decide)
          have hF := hF1
          have ⟨⟨mW, mA, mD⟩, ⟨mS, mT, mt⟩, ⟨mB, mWl, mL⟩, ⟨m32, m43⟩, mke⟩ := hM1
          refine k_v ?_ rfl
          refine g_p t285_329 rfl ?_
          refine g_p t285_330 rfl ?_
          refine g_p t285_331 rfl ?_
          refine g_k (n := 1) t285_333 rfl rfl ?_
          refine g_addn t285_334 ?_
          refine r_xld t285_335 hX (by omega) ?_
          refine r_cv t285_336 (f80 hF) rfl ?_
          rw [e]
          refine c208_3_ok (by exact hF1) mt z2 z3 mL hl hok (fun s2 f2 nw tp2 g2 => ?_)
          refine k_v ?_ rfl
          refine g_ceq t285_339 (fun h339 => ?_) (fun h339 => ?_)
          · have f3 : FM _ [0, 5, 6, 8, 9, 10, 11, 12, 13, 14, 17, 22, 23, 7] s1 s2 := f2.g2 g2 (by decide)
            have hM2 : MI P r w pd row day left acts di se to bks wds (lis ++ [tp]) li ([]) ke s2 := ⟨⟨mW.fm f3 (by decide) (by decide) (by decide) (by decide) (by decide) (by decide), mA.fm f3 (by decide) (by decide) (by decide) (by decide), mD.fm f3 (by decide)⟩, ⟨mS.fm f3 (by decide) (by decide) (by decide) (by decide), mT.fm f3 (by decide) (by decide) (by decide), tp2⟩, ⟨mB.fm f3 (by decide) (by decide) (by decide) (by decide) (by decide), mWl.fm f3 (by decide) (by decide) (by decide), nw⟩, ⟨(f3.f (by decide)).trans m32, (f3.f (by decide)).trans m43⟩, mke.fm f3 (by decide) (by decide)⟩
            exact hG _ _ _ ⟨hF1.fr f2.1, ⟨by rw [f2.1.nx]; have := hro.1; omega, by rw [f2.1.nx]; have := hro.2.1; omega, by rw [f2.1.nx]; have := hro.2.2; omega⟩, _, _, _, _, _, _, _, _, _, _, _, _, _, _, _, _, _, ⟨hwf.1, hwf.2.1, hwf.2.2.1, ⟨fun l h => (by have := z1 l h; rw [List.length_append]; show l < lis.length + 1; omega), Nat.zero_le _, fun x hx => absurd hx (List.not_mem_nil)⟩, hwf.2.2.2.2⟩, hC1.fm f2 (by decide), hM2⟩
          · exact absurd rfl h339
        · have hbad := fb_ne (fb_3 hF hTX) z2 hok
          refine g_p t285_319 rfl ?_
          refine g_p t285_320 rfl ?_
          refine g_p t285_321 rfl ?_
          refine g_k (n := 1) t285_323 rfl rfl ?_
          refine g_addn t285_324 ?_
          refine r_xld t285_325 hX (by omega) ?_
          refine r_cv t285_326 (f0 hF) rfl ?_
          rw [e]
          refine c124_3_bad (by exact hF) hTX hKS hDf hH hl hbad (fun s1 ou nx1 ks1 => ?_)
          obtain ⟨hF1, f1, nxb, rmb, Df1, hH1⟩ := ou
          have hke1 : kef ke pd s1 := by
            have g := hke.fr (s' := loM s1 s) f1.fr (f1.ri (q := 0) (i := 16) (by decide) (by decide)) (by decide) (by decide)
            cases ke with
            | none => exact g
            | some x => exact g
          have hC1 : CI P r w pd row day left acts di se to bks wds lis li tp ke s1 := ⟨⟨hR.kx0 f1 (by decide), hW.kx0 f1 (by decide), hA.kx0 f1 (by decide), (fun k hk => (f1.ri (by decide) (by decide)).trans (hD k hk)), (f1.ri (by decide) (by decide)).trans d33, (f1.ri (by decide) (by decide)).trans d42⟩, ⟨hS.kx0 f1 (by decide), hT.kx0 f1 (by decide), (show NL (loM s1 s) 1 tp from ht.fr f1.fr (by decide) (by decide)), Df1, hH1⟩, ⟨(show CQ (loM s1 s) from hQ.fr f1.fr (by decide)), (show KP P r w (loM s1 s) from hK.fr f1.fr (by decide) (by decide)), (show CZ (loM s1 s) from hZ.fr f1.fr (by decide) (by decide))⟩, hke1, bp, wp, lp, ks1⟩
          have hM1 := hM.lf hF hF1 f1 (by decide)
          have hF := hF1
          have ⟨⟨mW, mA, mD⟩, ⟨mS, mT, mt⟩, ⟨mB, mWl, mL⟩, ⟨m32, m43⟩, mke⟩ := hM1
          refine k_v ?_ rfl
          refine g_p t285_329 rfl ?_
          refine g_p t285_330 rfl ?_
          refine g_p t285_331 rfl ?_
          refine g_k (n := 1) t285_333 rfl rfl ?_
          refine g_addn t285_334 ?_
          refine r_xld t285_335 hX (by omega) ?_
          refine r_cv t285_336 (f80 hF) rfl ?_
          rw [e]
          refine c208_3_bad (by exact hF1) mt z2 z3 mL.1 (by omega) hl hbad (fun s2 f2 => ?_)
          refine k_v ?_ rfl
          refine g_ceq t285_339 (fun h339 => ?_) (fun h339 => ?_)
          · have hM2 : MI P r w pd row day left acts di se to bks wds lis li tp ke s2 := hM1.fm f2 (by decide) (by decide) ((f2.f (by decide)).trans m43)
            exact hG _ _ _ ⟨hF1.fr f2.1, ⟨by rw [f2.1.nx]; have := hro.1; omega, by rw [f2.1.nx]; have := hro.2.1; omega, by rw [f2.1.nx]; have := hro.2.2; omega⟩, _, _, _, _, _, _, _, _, _, _, _, _, _, _, _, _, _, hwf, hC1.fm f2 (by decide), hM2⟩
          · exact absurd rfl h339
      · refine g_p t285_319 rfl ?_
        refine g_p t285_320 rfl ?_
        refine g_p t285_321 rfl ?_
        refine g_k (n := 1) t285_323 rfl rfl ?_
        refine g_addn t285_324 ?_
        refine r_xld t285_325 hX (by omega) ?_
        refine r_cv t285_326 (f0 hF) rfl ?_
        rw [e]
        refine c124_3_full (by exact hF) hKS hl ?_
        refine k_v ?_ rfl
        refine g_p t285_329 rfl ?_
        refine g_p t285_330 rfl ?_
        refine g_p t285_331 rfl ?_
        refine g_k (n := 1) t285_333 rfl rfl ?_
        refine g_addn t285_334 ?_
        refine r_xld t285_335 hX (by omega) ?_
        refine r_cv t285_336 (f80 hF) rfl ?_
        rw [e]
        refine c208_3_full (by exact hF) mL.1 (by omega) hl ?_
        refine k_v ?_ rfl
        refine g_ceq t285_339 (fun h339 => ?_) (fun h339 => ?_)
        · exact hG _ _ _ (LI.ok (s := s) (by exact hF) hro rfl hwf hC.w0 hM.w0)
        · exact absurd rfl h339
  · have hk : inN 4 (X.2 (i + 1)) = false := by cases h : inN 4 (X.2 (i + 1)) with
      | true => exact absurd h hk
      | false => rfl
    refine g_p t285_319 rfl ?_
    refine g_p t285_320 rfl ?_
    refine g_p t285_321 rfl ?_
    refine g_k (n := 1) t285_323 rfl rfl ?_
    refine g_addn t285_324 ?_
    refine r_xld t285_325 hX (by omega) ?_
    refine r_cv t285_326 (f0 hF) rfl ?_
    refine c124n (by exact hF) hk ?_
    refine k_v ?_ rfl
    refine g_p t285_329 rfl ?_
    refine g_p t285_330 rfl ?_
    refine g_p t285_331 rfl ?_
    refine g_k (n := 1) t285_333 rfl rfl ?_
    refine g_addn t285_334 ?_
    refine r_xld t285_335 hX (by omega) ?_
    refine r_cv t285_336 (f80 hF) rfl ?_
    refine c208n (by exact hF) hk ?_
    refine k_v ?_ rfl
    refine g_ceq t285_339 (fun h339 => ?_) (fun h339 => ?_)
    · exact hG _ _ _ (LI.ok (s := s) (by exact hF) hro rfl hwf hC.w0 hM.w0)
    · exact absurd rfl h339
end LI_
