/-! THE LAW: light held, the nearest -/
section LE0
variable {X : am_X} {d P k : Nat} {s : mM} {Q : Option Value → am_H → Prop} {lts : List (List Nat)} {lp : List Nat}
theorem c138u (hF : Fx s) (hP : ri s 19 0 = nI P) (hP5 : P ≤ 5) (hB : CLt lts lp s) (hP0 : 0 < P) (hk : k < lts.length) (hq : Q (some (.int (bI true))) (mR (wi s 0 15 (nI (lp.getD k 0 + 2))))) : gE X (d + 3) 138 [.ref 0, .int (nI k)] (mR s) Q := by
  obtain ⟨q1, q2, q3⟩ := hB
  have q5 := q1.2.1
  obtain ⟨r1, n, r2⟩ := q3 k hk
  refine en138 rfl rfl ?_
  refine g_p t138_0 rfl ?_
  refine r_cv t138_1 (f0 hF) rfl ?_
  refine c129 hF hP hP5 ?_
  refine k_v ?_ rfl
  refine b_eq t138_4 (fun h4 => ?_) (fun h4 => ?_)
  · first
      | (rw [decide_eq_true hP0] at h4; exact absurd h4 (by decide))
      | (have u0 : nI k < -1 := h9; exact absurd (Int32.lt_of_le_of_lt (nI_pos' (by omega)) u0) (by decide))
      | (exfalso; omega)
  · refine g_p t138_7 rfl ?_
    refine g_p t138_8 rfl ?_
    refine g_clt t138_9 (fun h9 => ?_) (fun h9 => ?_)
    · first
        | (rw [decide_eq_true hP0] at h4; exact absurd h4 (by decide))
        | (have u0 : nI k < -1 := h9; exact absurd (Int32.lt_of_le_of_lt (nI_pos' (by omega)) u0) (by decide))
        | (exfalso; omega)
    · refine g_p t138_12 rfl ?_
      refine g_p t138_13 rfl ?_
      refine r_getr t138_14 (f0 hF) rfl rfl ?_
      refine r_cv t138_17 (f18 hF) rfl ?_
      refine c278 (by exact f18 hF) q1 ?_
      refine k_v ?_ rfl
      refine n_clt t138_20 (by omega) (by omega) (fun h20 => ?_) (fun h20 => ?_)
      · refine g_p t138_25 rfl ?_
        refine g_p t138_26 rfl ?_
        refine n_lt t138_27 (by omega) ?_
        refine g_p t138_30 rfl ?_
        refine r_getr t138_31 (f0 hF) rfl rfl ?_
        refine g_p t138_34 rfl ?_
        refine r_cv t138_35 (f18 hF) rfl ?_
        refine c280 (by exact f18 hF) q1 (by omega) ?_
        refine k_v ?_ rfl
        refine r_chk t138_38 r2.1.1 rfl ?_
        refine g_goto t138_41 ?_
        refine r_putq (a := nI (lp.getD k 0 + 2)) t138_45 (f0 hF) rfl rfl (m_rq_r r2.2.2.2.2.1) ?_
        refine g_k (n := 1) t138_48 rfl rfl ?_
        exact b_ret t138_49 rfl hq
      · first
          | (rw [decide_eq_true hP0] at h4; exact absurd h4 (by decide))
          | (have u0 : nI k < -1 := h9; exact absurd (Int32.lt_of_le_of_lt (nI_pos' (by omega)) u0) (by decide))
          | (exfalso; omega)
end LE0
section LE_
variable {X : am_X}
theorem op6 : OPL X 437 := by
  intro d i j s l5 l6 Q hX hi hj hL hG
  obtain ⟨hF, hro, P, r, w, pd, row, day, left, acts, di, se, to, bks, wds, lis, li, tp, ke, hwf, hC, hM⟩ := hL
  have ⟨⟨w0, w1, w2, w3, w4, w5, w6, w7, w8⟩, ⟨x1, x2, x3⟩, ⟨y1, y2⟩, ⟨z1, z2, z3⟩, z4⟩ := hwf
  have ⟨⟨hR, hW, hA, hD, d33, d42⟩, ⟨hS, hT, ht, hDf, hH⟩, ⟨hQ, hK, hZ⟩, hke, bp, wp, lp, hKS⟩ := hC
  have ⟨kB, kW, kL, kSE, kN, kb1, kb2, kb3, kl1, kl2, kl3, kn1, kn2⟩ := hKS
  have ⟨⟨mW, mA, mD⟩, ⟨mS, mT, mt⟩, ⟨mB, mWl, mL⟩, ⟨m32, m43⟩, mke⟩ := hM
  have hP5 : P ≤ 5 := w1
  by_cases hk : 0 < P ∧ ((X.2 (i + 1)) = -1 ∨ inN lis.length (X.2 (i + 1)) = true)
  · obtain ⟨hP0, hk⟩ := hk
    have e7 := mL.1
    by_cases e : (X.2 (i + 1)) = -1
    · refine g_p t285_437 rfl ?_
      refine g_p t285_438 rfl ?_
      refine g_p t285_439 rfl ?_
      refine g_k (n := 1) t285_441 rfl rfl ?_
      refine g_addn t285_442 ?_
      refine r_xld t285_443 hX (by omega) ?_
      refine r_cv t285_444 (f0 hF) rfl ?_
      rw [e]
      refine c138m (by exact hF) hR.1 hP5 kL hP0 (fun s1 f1 g1 hh => ?_)
      have hC1 : CI P r w pd row day left acts di se to bks wds lis (none) tp ke s1 := ⟨⟨hR.fr f1 (by decide), hW.fr f1 (by decide), hA.fr f1 (by decide), fun k hk => (f1.ri (by decide)).trans (hD k hk), (f1.ri (by decide)).trans d33, (f1.ri (by decide)).trans d42⟩, ⟨hS.fr f1 (by decide), hT.fr f1 (by decide), ht.fr f1 (by decide) (by decide), hDf.lf f1.lf (by decide), ⟨hh, fun T hT h => by rw [hh] at h; have := nI_inj (by decide) hT h; omega⟩⟩, ⟨hQ.fr f1 (by decide), hK.fr f1 (by decide) (by decide), hZ.fr f1 (by decide) (by decide)⟩, hke.fr f1 (g1 _ (by decide)) (by decide) (by decide), bp, wp, lp, hKS.fr f1 (by decide) (by decide)⟩
      have hM1 := hM.cf hF f1 (by decide)
      have hF1 := hF.fr f1
      have hF := hF1
      have nx1 := f1.nx
      have ⟨⟨mW, mA, mD⟩, ⟨mS, mT, mt⟩, ⟨mB, mWl, mL⟩, ⟨m32, m43⟩, mke⟩ := hM1
      refine k_v ?_ rfl
      refine g_p t285_447 rfl ?_
      refine g_p t285_448 rfl ?_
      refine g_p t285_449 rfl ?_
      refine g_k (n := 1) t285_451 rfl rfl ?_
      refine g_addn t285_452 ?_
      refine r_xld t285_453 hX (by omega) ?_
      refine r_cv t285_454 (f80 hF) rfl ?_
      rw [e]
      refine c222t (by exact hF1) hP0 hP5 mW.1 mL.1 kl3 (Or.inl rfl) (fun s2 f2 e32 => ?_)
      refine k_v ?_ rfl
      refine g_ceq t285_457 (fun h457 => ?_) (fun h457 => ?_)
      · have hM2 : MI P r w pd row day left acts di se to bks wds lis (none) tp ke s2 := ⟨⟨mW.fm f2 (by decide) (by decide) (by decide) (by decide) (by decide) (by decide), mA.fm f2 (by decide) (by decide) (by decide) (by decide), mD.fm f2 (by decide)⟩, ⟨mS.fm f2 (by decide) (by decide) (by decide) (by decide), mT.fm f2 (by decide) (by decide) (by decide), mt.fm f2 (by decide) (by decide)⟩, ⟨mB.fm f2 (by decide) (by decide) (by decide) (by decide) (by decide), mWl.fm f2 (by decide) (by decide) (by decide), mL.fm f2 (by decide) (by decide) (by decide) (by decide)⟩, ⟨(e32 : ri s2 80 32 = liI (none)), (f2.f (by decide)).trans m43⟩, mke.fm f2 (by decide) (by decide)⟩
        exact hG _ _ _ (LI.ok (s := s) (hF1.fr f2.1) hro (f2.1.nx.trans nx1) ⟨hwf.1, hwf.2.1, hwf.2.2.1, ⟨fun l h => (by cases h), z2, z3⟩, hwf.2.2.2.2⟩ (hC1.fm f2 (by decide)) hM2)
      · exact absurd rfl h457
    · have k1 := hk.resolve_left e
      obtain ⟨k, hkl, e⟩ := inN_t k1 (by omega)
      refine g_p t285_437 rfl ?_
      refine g_p t285_438 rfl ?_
      refine g_p t285_439 rfl ?_
      refine g_k (n := 1) t285_441 rfl rfl ?_
      refine g_addn t285_442 ?_
      refine r_xld t285_443 hX (by omega) ?_
      refine r_cv t285_444 (f0 hF) rfl ?_
      rw [e]
      have r1 := (kL.2.2 k hkl).1
      obtain ⟨n, r2⟩ := (kL.2.2 k hkl).2
      refine c138u (by exact hF) hR.1 hP5 kL hP0 hkl ?_
      have f1 : Fr [0] s (wi s 0 15 (nI (lp.getD k 0 + 2))) := Fr.rf.wi (by simp)
      have g1 : ∀ i, i ≠ 15 → ri (wi s 0 15 (nI (lp.getD k 0 + 2))) 0 i = ri s 0 i := fun i hi => ri_wi_j hi
      have g2 : ri (wi s 0 15 (nI (lp.getD k 0 + 2))) 0 15 = nI (lp.getD k 0 + 2) := ri_wi_eq
      generalize wi s 0 15 (nI (lp.getD k 0 + 2)) = s1 at f1 g1 g2 ⊢
      have hC1 : CI P r w pd row day left acts di se to bks wds lis (some k) tp ke s1 := ⟨⟨hR.fr f1 (by decide), hW.fr f1 (by decide), hA.fr f1 (by decide), fun k hk => (f1.ri (by decide)).trans (hD k hk), (f1.ri (by decide)).trans d33, (f1.ri (by decide)).trans d42⟩, ⟨hS.fr f1 (by decide), hT.fr f1 (by decide), ht.fr f1 (by decide) (by decide), hDf.lf f1.lf (by decide), ⟨⟨_, n, r1, r2.fr f1 (by simp only [List.mem_singleton]; omega) (by simp only [List.mem_singleton]; omega), g2⟩, fun T hT h => by rw [g2] at h; have := nI_inj r2.2.2.2.2.1 hT h; have := kb3 k hkl; rw [f1.nx]; omega⟩⟩, ⟨hQ.fr f1 (by decide), hK.fr f1 (by decide) (by decide), hZ.fr f1 (by decide) (by decide)⟩, hke.fr f1 (g1 _ (by decide)) (by decide) (by decide), bp, wp, lp, hKS.fr f1 (by decide) (by decide)⟩
      have hM1 := hM.cf hF f1 (by decide)
      have hF1 := hF.fr f1
      have hF := hF1
      have nx1 := f1.nx
      have ⟨⟨mW, mA, mD⟩, ⟨mS, mT, mt⟩, ⟨mB, mWl, mL⟩, ⟨m32, m43⟩, mke⟩ := hM1
      refine k_v ?_ rfl
      refine g_p t285_447 rfl ?_
      refine g_p t285_448 rfl ?_
      refine g_p t285_449 rfl ?_
      refine g_k (n := 1) t285_451 rfl rfl ?_
      refine g_addn t285_452 ?_
      refine r_xld t285_453 hX (by omega) ?_
      refine r_cv t285_454 (f80 hF) rfl ?_
      rw [e]
      refine c222t (by exact hF1) hP0 hP5 mW.1 mL.1 kl3 (Or.inr (inN_n hkl (by omega))) (fun s2 f2 e32 => ?_)
      refine k_v ?_ rfl
      refine g_ceq t285_457 (fun h457 => ?_) (fun h457 => ?_)
      · have hM2 : MI P r w pd row day left acts di se to bks wds lis (some k) tp ke s2 := ⟨⟨mW.fm f2 (by decide) (by decide) (by decide) (by decide) (by decide) (by decide), mA.fm f2 (by decide) (by decide) (by decide) (by decide), mD.fm f2 (by decide)⟩, ⟨mS.fm f2 (by decide) (by decide) (by decide) (by decide), mT.fm f2 (by decide) (by decide) (by decide), mt.fm f2 (by decide) (by decide)⟩, ⟨mB.fm f2 (by decide) (by decide) (by decide) (by decide) (by decide), mWl.fm f2 (by decide) (by decide) (by decide), mL.fm f2 (by decide) (by decide) (by decide) (by decide)⟩, ⟨(e32 : ri s2 80 32 = liI (some k)), (f2.f (by decide)).trans m43⟩, mke.fm f2 (by decide) (by decide)⟩
        exact hG _ _ _ (LI.ok (s := s) (hF1.fr f2.1) hro (f2.1.nx.trans nx1) ⟨hwf.1, hwf.2.1, hwf.2.2.1, ⟨fun l h => (by cases h; exact hkl), z2, z3⟩, hwf.2.2.2.2⟩ (hC1.fm f2 (by decide)) hM2)
      · exact absurd rfl h457
  · have e7 := mL.1
    refine g_p t285_437 rfl ?_
    refine g_p t285_438 rfl ?_
    refine g_p t285_439 rfl ?_
    refine g_k (n := 1) t285_441 rfl rfl ?_
    refine g_addn t285_442 ?_
    refine r_xld t285_443 hX (by omega) ?_
    refine r_cv t285_444 (f0 hF) rfl ?_
    refine c138f (by exact hF) hR.1 hP5 kL hk ?_
    refine k_v ?_ rfl
    refine g_p t285_447 rfl ?_
    refine g_p t285_448 rfl ?_
    refine g_p t285_449 rfl ?_
    refine g_k (n := 1) t285_451 rfl rfl ?_
    refine g_addn t285_452 ?_
    refine r_xld t285_453 hX (by omega) ?_
    refine r_cv t285_454 (f80 hF) rfl ?_
    refine c222f (by exact hF) hP5 mW.1 mL.1 kl3 hk ?_
    refine k_v ?_ rfl
    refine g_ceq t285_457 (fun h457 => ?_) (fun h457 => ?_)
    · exact hG _ _ _ (LI.ok (s := s) (by exact hF) hro rfl hwf hC.w0 hM.w0)
    · exact absurd rfl h457
theorem op14 : OPL X 673 := by
  intro d i j s l5 l6 Q hX hi hj hL hG
  obtain ⟨hF, hro, P, r, w, pd, row, day, left, acts, di, se, to, bks, wds, lis, li, tp, ke, hwf, hC, hM⟩ := hL
  have ⟨⟨w0, w1, w2, w3, w4, w5, w6, w7, w8⟩, ⟨x1, x2, x3⟩, ⟨y1, y2⟩, ⟨z1, z2, z3⟩, z4⟩ := hwf
  have ⟨⟨hR, hW, hA, hD, d33, d42⟩, ⟨hS, hT, ht, hDf, hH⟩, ⟨hQ, hK, hZ⟩, hke, bp, wp, lp, hKS⟩ := hC
  have ⟨kB, kW, kL, kSE, kN, kb1, kb2, kb3, kl1, kl2, kl3, kn1, kn2⟩ := hKS
  have ⟨⟨mW, mA, mD⟩, ⟨mS, mT, mt⟩, ⟨mB, mWl, mL⟩, ⟨m32, m43⟩, mke⟩ := hM
  have hP5 : P ≤ 5 := w1
  by_cases h0 : (X.2 (i + 3)) = 0
  · by_cases hk : (bG P bks (X.2 (i + 1))).isSome = true ∧ isL (X.2 (i + 2)) = true ∧ isH (X.2 (i + 4)) = true
    · obtain ⟨k1, k2, k3⟩ := hk
      obtain ⟨b, hb⟩ := Option.isSome_iff_exists.mp k1
      cases li with
      | none =>
        refine g_p t285_673 rfl ?_
        refine g_p t285_674 rfl ?_
        refine g_p t285_675 rfl ?_
        refine g_k (n := 1) t285_677 rfl rfl ?_
        refine g_addn t285_678 ?_
        refine r_xld t285_679 hX (by omega) ?_
        refine g_p t285_680 rfl ?_
        refine g_p t285_681 rfl ?_
        refine g_k (n := 2) t285_683 rfl rfl ?_
        refine g_addn t285_684 ?_
        refine r_xld t285_685 hX (by omega) ?_
        refine g_p t285_686 rfl ?_
        refine g_p t285_687 rfl ?_
        refine g_k (n := 3) t285_689 rfl rfl ?_
        refine g_addn t285_690 ?_
        refine r_xld t285_691 hX (by omega) ?_
        refine g_eq t285_692 (fun h692 => ?_) (fun h692 => ?_)
        · refine g_k (n := 0) t285_699 rfl rfl ?_
          refine g_p t285_700 rfl ?_
          refine g_p t285_701 rfl ?_
          refine g_k (n := 4) t285_703 rfl rfl ?_
          refine g_addn t285_704 ?_
          refine r_xld t285_705 hX (by omega) ?_
          refine r_cv t285_706 (f0 hF) rfl ?_
          refine c146t (z := false) (by exact hF) hR hW w2 w3 w7 hQ hH.1 kB kl1 hb k2 k3 (fun s1 f1 hQ1 => ?_)
          rw [show lrl P day (Option.map (fun l => lis.getD l []) (none)) false = (fun c t => !false || rg P (fun _ _ => 0) c t) from rfl]
          have hC1 := (hC.cA (s' := lgo s1 s) f1.fi.fr (by decide) (by decide) hQ1 (hK.fr f1.fi.fr (by decide) (by decide)) (hZ.fr f1.fi.fr (by decide) (by decide))).lgo
          have hM1 := hM.cl hF f1 (by decide)
          have hF1 := f1.fx hF
          have hF := hF1
          have nx1 : s1.2.2.2 = s.2.2.2 := f1.2.1
          have ⟨⟨mW, mA, mD⟩, ⟨mS, mT, mt⟩, ⟨mB, mWl, mL⟩, ⟨m32, m43⟩, mke⟩ := hM1
          refine k_v ?_ rfl
          refine g_p t285_709 rfl ?_
          refine g_p t285_710 rfl ?_
          refine g_p t285_711 rfl ?_
          refine g_k (n := 1) t285_713 rfl rfl ?_
          refine g_addn t285_714 ?_
          refine r_xld t285_715 hX (by omega) ?_
          refine g_p t285_716 rfl ?_
          refine g_p t285_717 rfl ?_
          refine g_k (n := 2) t285_719 rfl rfl ?_
          refine g_addn t285_720 ?_
          refine r_xld t285_721 hX (by omega) ?_
          refine g_p t285_722 rfl ?_
          refine g_p t285_723 rfl ?_
          refine g_k (n := 3) t285_725 rfl rfl ?_
          refine g_addn t285_726 ?_
          refine r_xld t285_727 hX (by omega) ?_
          refine g_eq t285_728 (fun h728 => ?_) (fun h728 => ?_)
          · refine g_k (n := 0) t285_735 rfl rfl ?_
            refine g_p t285_736 rfl ?_
            refine g_p t285_737 rfl ?_
            refine g_k (n := 4) t285_739 rfl rfl ?_
            refine g_addn t285_740 ?_
            refine r_xld t285_741 hX (by omega) ?_
            refine r_cv t285_742 (f80 hF) rfl ?_
            refine c238t (rt := false) (by exact hF1) hP5 mW w2 w3 m43 w7 mB hb k2 k3 (LO_n (rt := false)) (((FM.rf (A := []) (B := [0, 43])).m (by decide)).m (by decide) |>.f (i := 32) (by decide) |>.trans m32) (fun s2 f2 e43 => ?_)
            refine k_v ?_ rfl
            refine g_ceq t285_745 (fun h745 => ?_) (fun h745 => ?_)
            · exact hG _ _ _ (LI.ok (s := s) (hF1.fr f2.1) hro (f2.1.nx.trans nx1) hwf (hC1.fm f2 (by decide)) (hM1.fm f2 (by decide) (by decide) e43))
            · exact absurd rfl h745
          · exact absurd h0 h728
        · exact absurd h0 h692
      | some l =>
        refine g_p t285_673 rfl ?_
        refine g_p t285_674 rfl ?_
        refine g_p t285_675 rfl ?_
        refine g_k (n := 1) t285_677 rfl rfl ?_
        refine g_addn t285_678 ?_
        refine r_xld t285_679 hX (by omega) ?_
        refine g_p t285_680 rfl ?_
        refine g_p t285_681 rfl ?_
        refine g_k (n := 2) t285_683 rfl rfl ?_
        refine g_addn t285_684 ?_
        refine r_xld t285_685 hX (by omega) ?_
        refine g_p t285_686 rfl ?_
        refine g_p t285_687 rfl ?_
        refine g_k (n := 3) t285_689 rfl rfl ?_
        refine g_addn t285_690 ?_
        refine r_xld t285_691 hX (by omega) ?_
        refine g_eq t285_692 (fun h692 => ?_) (fun h692 => ?_)
        · refine g_k (n := 0) t285_699 rfl rfl ?_
          refine g_p t285_700 rfl ?_
          refine g_p t285_701 rfl ?_
          refine g_k (n := 4) t285_703 rfl rfl ?_
          refine g_addn t285_704 ?_
          refine r_xld t285_705 hX (by omega) ?_
          refine r_cv t285_706 (f0 hF) rfl ?_
          refine c146t (z := false) (by exact hF) hR hW w2 w3 w7 hQ hH.1 kB kl1 hb k2 k3 (fun s1 f1 hQ1 => ?_)
          rw [show lrl P day (Option.map (fun l => lis.getD l []) (some l)) false = (fun c t => !false || rg P (lwL P day (lis.getD l [])) c t) from rfl]
          have hC1 := (hC.cA (s' := lgo s1 s) f1.fi.fr (by decide) (by decide) hQ1 (hK.fr f1.fi.fr (by decide) (by decide)) (hZ.fr f1.fi.fr (by decide) (by decide))).lgo
          have hM1 := hM.cl hF f1 (by decide)
          have hF1 := f1.fx hF
          have hF := hF1
          have nx1 : s1.2.2.2 = s.2.2.2 := f1.2.1
          have ⟨⟨mW, mA, mD⟩, ⟨mS, mT, mt⟩, ⟨mB, mWl, mL⟩, ⟨m32, m43⟩, mke⟩ := hM1
          refine k_v ?_ rfl
          refine g_p t285_709 rfl ?_
          refine g_p t285_710 rfl ?_
          refine g_p t285_711 rfl ?_
          refine g_k (n := 1) t285_713 rfl rfl ?_
          refine g_addn t285_714 ?_
          refine r_xld t285_715 hX (by omega) ?_
          refine g_p t285_716 rfl ?_
          refine g_p t285_717 rfl ?_
          refine g_k (n := 2) t285_719 rfl rfl ?_
          refine g_addn t285_720 ?_
          refine r_xld t285_721 hX (by omega) ?_
          refine g_p t285_722 rfl ?_
          refine g_p t285_723 rfl ?_
          refine g_k (n := 3) t285_725 rfl rfl ?_
          refine g_addn t285_726 ?_
          refine r_xld t285_727 hX (by omega) ?_
          refine g_eq t285_728 (fun h728 => ?_) (fun h728 => ?_)
          · refine g_k (n := 0) t285_735 rfl rfl ?_
            refine g_p t285_736 rfl ?_
            refine g_p t285_737 rfl ?_
            refine g_k (n := 4) t285_739 rfl rfl ?_
            refine g_addn t285_740 ?_
            refine r_xld t285_741 hX (by omega) ?_
            refine r_cv t285_742 (f80 hF) rfl ?_
            refine c238t (rt := false) (by exact hF1) hP5 mW w2 w3 m43 w7 mB hb k2 k3 (LO_l (rt := false) hP5 w6 (z1 l rfl)) (JL.fm (A := []) (B := [0, 43]) ⟨mL, m32, mW.2.2.2.1, mW.1⟩ ((FM.rf.m (by decide)).m (by decide)) (by decide) (by decide) (by decide) (by decide) (by decide) (by decide) (by decide)) (fun s2 f2 e43 => ?_)
            refine k_v ?_ rfl
            refine g_ceq t285_745 (fun h745 => ?_) (fun h745 => ?_)
            · exact hG _ _ _ (LI.ok (s := s) (hF1.fr f2.1) hro (f2.1.nx.trans nx1) hwf (hC1.fm f2 (by decide)) (hM1.fm f2 (by decide) (by decide) e43))
            · exact absurd rfl h745
          · exact absurd h0 h728
        · exact absurd h0 h692
    · refine g_p t285_673 rfl ?_
      refine g_p t285_674 rfl ?_
      refine g_p t285_675 rfl ?_
      refine g_k (n := 1) t285_677 rfl rfl ?_
      refine g_addn t285_678 ?_
      refine r_xld t285_679 hX (by omega) ?_
      refine g_p t285_680 rfl ?_
      refine g_p t285_681 rfl ?_
      refine g_k (n := 2) t285_683 rfl rfl ?_
      refine g_addn t285_684 ?_
      refine r_xld t285_685 hX (by omega) ?_
      refine g_p t285_686 rfl ?_
      refine g_p t285_687 rfl ?_
      refine g_k (n := 3) t285_689 rfl rfl ?_
      refine g_addn t285_690 ?_
      refine r_xld t285_691 hX (by omega) ?_
      refine g_eq t285_692 (fun h692 => ?_) (fun h692 => ?_)
      · refine g_k (n := 0) t285_699 rfl rfl ?_
        refine g_p t285_700 rfl ?_
        refine g_p t285_701 rfl ?_
        refine g_k (n := 4) t285_703 rfl rfl ?_
        refine g_addn t285_704 ?_
        refine r_xld t285_705 hX (by omega) ?_
        refine r_cv t285_706 (f0 hF) rfl ?_
        refine c146f (by exact hF) hR kB kl1 hk ?_
        refine k_v ?_ rfl
        refine g_p t285_709 rfl ?_
        refine g_p t285_710 rfl ?_
        refine g_p t285_711 rfl ?_
        refine g_k (n := 1) t285_713 rfl rfl ?_
        refine g_addn t285_714 ?_
        refine r_xld t285_715 hX (by omega) ?_
        refine g_p t285_716 rfl ?_
        refine g_p t285_717 rfl ?_
        refine g_k (n := 2) t285_719 rfl rfl ?_
        refine g_addn t285_720 ?_
        refine r_xld t285_721 hX (by omega) ?_
        refine g_p t285_722 rfl ?_
        refine g_p t285_723 rfl ?_
        refine g_k (n := 3) t285_725 rfl rfl ?_
        refine g_addn t285_726 ?_
        refine r_xld t285_727 hX (by omega) ?_
        refine g_eq t285_728 (fun h728 => ?_) (fun h728 => ?_)
        · refine g_k (n := 0) t285_735 rfl rfl ?_
          refine g_p t285_736 rfl ?_
          refine g_p t285_737 rfl ?_
          refine g_k (n := 4) t285_739 rfl rfl ?_
          refine g_addn t285_740 ?_
          refine r_xld t285_741 hX (by omega) ?_
          refine r_cv t285_742 (f80 hF) rfl ?_
          refine c238f (by exact hF) hP5 mW w2 w3 m43 mB hk ?_
          refine k_v ?_ rfl
          refine g_ceq t285_745 (fun h745 => ?_) (fun h745 => ?_)
          · exact hG _ _ _ (LI.ok (s := s) (by exact hF) hro rfl hwf hC.w0 hM.w0)
          · exact absurd rfl h745
        · exact absurd h0 h728
      · exact absurd h0 h692
  · by_cases hk : (bG P bks (X.2 (i + 1))).isSome = true ∧ isL (X.2 (i + 2)) = true ∧ isH (X.2 (i + 4)) = true
    · obtain ⟨k1, k2, k3⟩ := hk
      obtain ⟨b, hb⟩ := Option.isSome_iff_exists.mp k1
      cases li with
      | none =>
        refine g_p t285_673 rfl ?_
        refine g_p t285_674 rfl ?_
        refine g_p t285_675 rfl ?_
        refine g_k (n := 1) t285_677 rfl rfl ?_
        refine g_addn t285_678 ?_
        refine r_xld t285_679 hX (by omega) ?_
        refine g_p t285_680 rfl ?_
        refine g_p t285_681 rfl ?_
        refine g_k (n := 2) t285_683 rfl rfl ?_
        refine g_addn t285_684 ?_
        refine r_xld t285_685 hX (by omega) ?_
        refine g_p t285_686 rfl ?_
        refine g_p t285_687 rfl ?_
        refine g_k (n := 3) t285_689 rfl rfl ?_
        refine g_addn t285_690 ?_
        refine r_xld t285_691 hX (by omega) ?_
        refine g_eq t285_692 (fun h692 => ?_) (fun h692 => ?_)
        · exact absurd h692 h0
        · refine g_k (n := 1) t285_695 rfl rfl ?_
          refine g_goto t285_696 ?_
          refine g_p t285_700 rfl ?_
          refine g_p t285_701 rfl ?_
          refine g_k (n := 4) t285_703 rfl rfl ?_
          refine g_addn t285_704 ?_
          refine r_xld t285_705 hX (by omega) ?_
          refine r_cv t285_706 (f0 hF) rfl ?_
          refine c146t (z := true) (by exact hF) hR hW w2 w3 w7 hQ hH.1 kB kl1 hb k2 k3 (fun s1 f1 hQ1 => ?_)
          rw [show lrl P day (Option.map (fun l => lis.getD l []) (none)) true = (fun c t => !true || rg P (fun _ _ => 0) c t) from (by funext c t; exact (rg_0 (P := P)).symm)]
          have hC1 := (hC.cA (s' := lgo s1 s) f1.fi.fr (by decide) (by decide) hQ1 (hK.fr f1.fi.fr (by decide) (by decide)) (hZ.fr f1.fi.fr (by decide) (by decide))).lgo
          have hM1 := hM.cl hF f1 (by decide)
          have hF1 := f1.fx hF
          have hF := hF1
          have nx1 : s1.2.2.2 = s.2.2.2 := f1.2.1
          have ⟨⟨mW, mA, mD⟩, ⟨mS, mT, mt⟩, ⟨mB, mWl, mL⟩, ⟨m32, m43⟩, mke⟩ := hM1
          refine k_v ?_ rfl
          refine g_p t285_709 rfl ?_
          refine g_p t285_710 rfl ?_
          refine g_p t285_711 rfl ?_
          refine g_k (n := 1) t285_713 rfl rfl ?_
          refine g_addn t285_714 ?_
          refine r_xld t285_715 hX (by omega) ?_
          refine g_p t285_716 rfl ?_
          refine g_p t285_717 rfl ?_
          refine g_k (n := 2) t285_719 rfl rfl ?_
          refine g_addn t285_720 ?_
          refine r_xld t285_721 hX (by omega) ?_
          refine g_p t285_722 rfl ?_
          refine g_p t285_723 rfl ?_
          refine g_k (n := 3) t285_725 rfl rfl ?_
          refine g_addn t285_726 ?_
          refine r_xld t285_727 hX (by omega) ?_
          refine g_eq t285_728 (fun h728 => ?_) (fun h728 => ?_)
          · exact absurd h728 h0
          · refine g_k (n := 1) t285_731 rfl rfl ?_
            refine g_goto t285_732 ?_
            refine g_p t285_736 rfl ?_
            refine g_p t285_737 rfl ?_
            refine g_k (n := 4) t285_739 rfl rfl ?_
            refine g_addn t285_740 ?_
            refine r_xld t285_741 hX (by omega) ?_
            refine r_cv t285_742 (f80 hF) rfl ?_
            refine c238t (rt := true) (by exact hF1) hP5 mW w2 w3 m43 w7 mB hb k2 k3 (LO_n (rt := true)) (((FM.rf (A := []) (B := [0, 43])).m (by decide)).m (by decide) |>.f (i := 32) (by decide) |>.trans m32) (fun s2 f2 e43 => ?_)
            refine k_v ?_ rfl
            refine g_ceq t285_745 (fun h745 => ?_) (fun h745 => ?_)
            · exact hG _ _ _ (LI.ok (s := s) (hF1.fr f2.1) hro (f2.1.nx.trans nx1) hwf (hC1.fm f2 (by decide)) (hM1.fm f2 (by decide) (by decide) e43))
            · exact absurd rfl h745
      | some l =>
        refine g_p t285_673 rfl ?_
        refine g_p t285_674 rfl ?_
        refine g_p t285_675 rfl ?_
        refine g_k (n := 1) t285_677 rfl rfl ?_
        refine g_addn t285_678 ?_
        refine r_xld t285_679 hX (by omega) ?_
        refine g_p t285_680 rfl ?_
        refine g_p t285_681 rfl ?_
        refine g_k (n := 2) t285_683 rfl rfl ?_
        refine g_addn t285_684 ?_
        refine r_xld t285_685 hX (by omega) ?_
        refine g_p t285_686 rfl ?_
        refine g_p t285_687 rfl ?_
        refine g_k (n := 3) t285_689 rfl rfl ?_
        refine g_addn t285_690 ?_
        refine r_xld t285_691 hX (by omega) ?_
        refine g_eq t285_692 (fun h692 => ?_) (fun h692 => ?_)
        · exact absurd h692 h0
        · refine g_k (n := 1) t285_695 rfl rfl ?_
          refine g_goto t285_696 ?_
          refine g_p t285_700 rfl ?_
          refine g_p t285_701 rfl ?_
          refine g_k (n := 4) t285_703 rfl rfl ?_
          refine g_addn t285_704 ?_
          refine r_xld t285_705 hX (by omega) ?_
          refine r_cv t285_706 (f0 hF) rfl ?_
          refine c146t (z := true) (by exact hF) hR hW w2 w3 w7 hQ hH.1 kB kl1 hb k2 k3 (fun s1 f1 hQ1 => ?_)
          rw [show lrl P day (Option.map (fun l => lis.getD l []) (some l)) true = (fun c t => !true || rg P (lwL P day (lis.getD l [])) c t) from rfl]
          have hC1 := (hC.cA (s' := lgo s1 s) f1.fi.fr (by decide) (by decide) hQ1 (hK.fr f1.fi.fr (by decide) (by decide)) (hZ.fr f1.fi.fr (by decide) (by decide))).lgo
          have hM1 := hM.cl hF f1 (by decide)
          have hF1 := f1.fx hF
          have hF := hF1
          have nx1 : s1.2.2.2 = s.2.2.2 := f1.2.1
          have ⟨⟨mW, mA, mD⟩, ⟨mS, mT, mt⟩, ⟨mB, mWl, mL⟩, ⟨m32, m43⟩, mke⟩ := hM1
          refine k_v ?_ rfl
          refine g_p t285_709 rfl ?_
          refine g_p t285_710 rfl ?_
          refine g_p t285_711 rfl ?_
          refine g_k (n := 1) t285_713 rfl rfl ?_
          refine g_addn t285_714 ?_
          refine r_xld t285_715 hX (by omega) ?_
          refine g_p t285_716 rfl ?_
          refine g_p t285_717 rfl ?_
          refine g_k (n := 2) t285_719 rfl rfl ?_
          refine g_addn t285_720 ?_
          refine r_xld t285_721 hX (by omega) ?_
          refine g_p t285_722 rfl ?_
          refine g_p t285_723 rfl ?_
          refine g_k (n := 3) t285_725 rfl rfl ?_
          refine g_addn t285_726 ?_
          refine r_xld t285_727 hX (by omega) ?_
          refine g_eq t285_728 (fun h728 => ?_) (fun h728 => ?_)
          · exact absurd h728 h0
          · refine g_k (n := 1) t285_731 rfl rfl ?_
            refine g_goto t285_732 ?_
            refine g_p t285_736 rfl ?_
            refine g_p t285_737 rfl ?_
            refine g_k (n := 4) t285_739 rfl rfl ?_
            refine g_addn t285_740 ?_
            refine r_xld t285_741 hX (by omega) ?_
            refine r_cv t285_742 (f80 hF) rfl ?_
            refine c238t (rt := true) (by exact hF1) hP5 mW w2 w3 m43 w7 mB hb k2 k3 (LO_l (rt := true) hP5 w6 (z1 l rfl)) (JL.fm (A := []) (B := [0, 43]) ⟨mL, m32, mW.2.2.2.1, mW.1⟩ ((FM.rf.m (by decide)).m (by decide)) (by decide) (by decide) (by decide) (by decide) (by decide) (by decide) (by decide)) (fun s2 f2 e43 => ?_)
            refine k_v ?_ rfl
            refine g_ceq t285_745 (fun h745 => ?_) (fun h745 => ?_)
            · exact hG _ _ _ (LI.ok (s := s) (hF1.fr f2.1) hro (f2.1.nx.trans nx1) hwf (hC1.fm f2 (by decide)) (hM1.fm f2 (by decide) (by decide) e43))
            · exact absurd rfl h745
    · refine g_p t285_673 rfl ?_
      refine g_p t285_674 rfl ?_
      refine g_p t285_675 rfl ?_
      refine g_k (n := 1) t285_677 rfl rfl ?_
      refine g_addn t285_678 ?_
      refine r_xld t285_679 hX (by omega) ?_
      refine g_p t285_680 rfl ?_
      refine g_p t285_681 rfl ?_
      refine g_k (n := 2) t285_683 rfl rfl ?_
      refine g_addn t285_684 ?_
      refine r_xld t285_685 hX (by omega) ?_
      refine g_p t285_686 rfl ?_
      refine g_p t285_687 rfl ?_
      refine g_k (n := 3) t285_689 rfl rfl ?_
      refine g_addn t285_690 ?_
      refine r_xld t285_691 hX (by omega) ?_
      refine g_eq t285_692 (fun h692 => ?_) (fun h692 => ?_)
      · exact absurd h692 h0
      · refine g_k (n := 1) t285_695 rfl rfl ?_
        refine g_goto t285_696 ?_
        refine g_p t285_700 rfl ?_
        refine g_p t285_701 rfl ?_
        refine g_k (n := 4) t285_703 rfl rfl ?_
        refine g_addn t285_704 ?_
        refine r_xld t285_705 hX (by omega) ?_
        refine r_cv t285_706 (f0 hF) rfl ?_
        refine c146f (by exact hF) hR kB kl1 hk ?_
        refine k_v ?_ rfl
        refine g_p t285_709 rfl ?_
        refine g_p t285_710 rfl ?_
        refine g_p t285_711 rfl ?_
        refine g_k (n := 1) t285_713 rfl rfl ?_
        refine g_addn t285_714 ?_
        refine r_xld t285_715 hX (by omega) ?_
        refine g_p t285_716 rfl ?_
        refine g_p t285_717 rfl ?_
        refine g_k (n := 2) t285_719 rfl rfl ?_
        refine g_addn t285_720 ?_
        refine r_xld t285_721 hX (by omega) ?_
        refine g_p t285_722 rfl ?_
        refine g_p t285_723 rfl ?_
        refine g_k (n := 3) t285_725 rfl rfl ?_
        refine g_addn t285_726 ?_
        refine r_xld t285_727 hX (by omega) ?_
        refine g_eq t285_728 (fun h728 => ?_) (fun h728 => ?_)
        · exact absurd h728 h0
        · refine g_k (n := 1) t285_731 rfl rfl ?_
          refine g_goto t285_732 ?_
          refine g_p t285_736 rfl ?_
          refine g_p t285_737 rfl ?_
          refine g_k (n := 4) t285_739 rfl rfl ?_
          refine g_addn t285_740 ?_
          refine r_xld t285_741 hX (by omega) ?_
          refine r_cv t285_742 (f80 hF) rfl ?_
          refine c238f (by exact hF) hP5 mW w2 w3 m43 mB hk ?_
          refine k_v ?_ rfl
          refine g_ceq t285_745 (fun h745 => ?_) (fun h745 => ?_)
          · exact hG _ _ _ (LI.ok (s := s) (by exact hF) hro rfl hwf hC.w0 hM.w0)
          · exact absurd rfl h745
end LE_
