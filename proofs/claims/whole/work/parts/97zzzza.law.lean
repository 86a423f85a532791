/-! THE LAW: what is only asked -/
section LA
variable {X : am_X}
theorem GapV_one {P r w : Nat} {b : Bk} {v v' : Int32} (h : GapV P r w b v) (h' : GapV P r w b v') : v = v' := by
  rcases h with ⟨a, c, g1, g2, g3⟩ | ⟨g1, g2⟩
  · rcases h' with ⟨a', c', k1, k2, k3⟩ | ⟨k1, k2⟩
    · have e1 := g3 a' c' k1
      have e2 := k3 a c g1
      rw [g2, k2, Nat.le_antisymm e1 e2]
    · exact absurd g1 (k1 a c)
  · rcases h' with ⟨a', c', k1, k2, k3⟩ | ⟨k1, k2⟩
    · exact absurd k1 (g1 a' c')
    · rw [g2, k2]
theorem op12 : OPL X 599 := by
  intro d i j s l5 l6 Q hX hi hj hL hG
  obtain ⟨hF, hro, P, r, w, pd, row, day, left, acts, di, se, to, bks, wds, lis, li, tp, ke, hwf, hC, hM⟩ := hL
  have ⟨⟨w0, w1, w2, w3, w4, w5, w6, w7, w8⟩, ⟨x1, x2, x3⟩, ⟨y1, y2⟩, ⟨z1, z2, z3⟩, z4⟩ := hwf
  have ⟨⟨hR, hW, hA, hD, d33, d42⟩, ⟨hS, hT, ht, hDf, hH⟩, ⟨hQ, hK, hZ⟩, hke, bp, wp, lp, hKS⟩ := hC
  have ⟨kB, kW, kL, kSE, kN, kb1, kb2, kb3, kl1, kl2, kl3, kn1, kn2⟩ := hKS
  have ⟨⟨mW, mA, mD⟩, ⟨mS, mT, mt⟩, ⟨mB, mWl, mL⟩, ⟨m32, m43⟩, mke⟩ := hM
  have hP5 : P ≤ 5 := w1
  refine g_p t285_599 rfl ?_
  refine g_p t285_600 rfl ?_
  refine g_p t285_601 rfl ?_
  refine g_k (n := 1) t285_603 rfl rfl ?_
  refine g_addn t285_604 ?_
  refine r_xld t285_605 hX (by omega) ?_
  refine g_p t285_606 rfl ?_
  refine g_p t285_607 rfl ?_
  refine g_k (n := 2) t285_609 rfl rfl ?_
  refine g_addn t285_610 ?_
  refine r_xld t285_611 hX (by omega) ?_
  refine r_cv t285_612 (f0 hF) rfl ?_
  refine c144 (by exact hF) hR kB kl1 ?_
  refine k_v ?_ rfl
  refine g_p t285_615 rfl ?_
  refine g_p t285_616 rfl ?_
  refine g_p t285_617 rfl ?_
  refine g_k (n := 1) t285_619 rfl rfl ?_
  refine g_addn t285_620 ?_
  refine r_xld t285_621 hX (by omega) ?_
  refine g_p t285_622 rfl ?_
  refine g_p t285_623 rfl ?_
  refine g_k (n := 2) t285_625 rfl rfl ?_
  refine g_addn t285_626 ?_
  refine r_xld t285_627 hX (by omega) ?_
  refine r_cv t285_628 (f80 hF) rfl ?_
  refine c232 (by exact hF) hP5 mW.1 mB ?_
  refine k_v ?_ rfl
  refine g_ceq t285_631 (fun h631 => ?_) (fun h631 => ?_)
  · exact hG _ _ _ (LI.ok (s := s) (by exact hF) hro rfl hwf hC.w0 hM.w0)
  · exact absurd rfl h631
theorem op13 : OPL X 636 := by
  intro d i j s l5 l6 Q hX hi hj hL hG
  obtain ⟨hF, hro, P, r, w, pd, row, day, left, acts, di, se, to, bks, wds, lis, li, tp, ke, hwf, hC, hM⟩ := hL
  have ⟨⟨w0, w1, w2, w3, w4, w5, w6, w7, w8⟩, ⟨x1, x2, x3⟩, ⟨y1, y2⟩, ⟨z1, z2, z3⟩, z4⟩ := hwf
  have ⟨⟨hR, hW, hA, hD, d33, d42⟩, ⟨hS, hT, ht, hDf, hH⟩, ⟨hQ, hK, hZ⟩, hke, bp, wp, lp, hKS⟩ := hC
  have ⟨kB, kW, kL, kSE, kN, kb1, kb2, kb3, kl1, kl2, kl3, kn1, kn2⟩ := hKS
  have ⟨⟨mW, mA, mD⟩, ⟨mS, mT, mt⟩, ⟨mB, mWl, mL⟩, ⟨m32, m43⟩, mke⟩ := hM
  have hP5 : P ≤ 5 := w1
  refine g_p t285_636 rfl ?_
  refine g_p t285_637 rfl ?_
  refine g_p t285_638 rfl ?_
  refine g_k (n := 1) t285_640 rfl rfl ?_
  refine g_addn t285_641 ?_
  refine r_xld t285_642 hX (by omega) ?_
  refine g_p t285_643 rfl ?_
  refine g_p t285_644 rfl ?_
  refine g_k (n := 2) t285_646 rfl rfl ?_
  refine g_addn t285_647 ?_
  refine r_xld t285_648 hX (by omega) ?_
  refine r_cv t285_649 (f0 hF) rfl ?_
  refine c145 (by exact hF) hR hW w2 w3 hQ hK (fun s1 f1 hQ1 hK1 => ?_)
  have hC1 := hC.cA f1 (by decide) (by decide) hQ1 hK1 (hZ.fr f1 (by decide) (by decide))
  have hM1 := hM.cf hF f1 (by decide)
  have hF1 := hF.fr f1
  have hF := hF1
  have nx1 := f1.nx
  have ⟨⟨mW, mA, mD⟩, ⟨mS, mT, mt⟩, ⟨mB, mWl, mL⟩, ⟨m32, m43⟩, mke⟩ := hM1
  refine k_v ?_ rfl
  refine g_p t285_652 rfl ?_
  refine g_p t285_653 rfl ?_
  refine g_p t285_654 rfl ?_
  refine g_k (n := 1) t285_656 rfl rfl ?_
  refine g_addn t285_657 ?_
  refine r_xld t285_658 hX (by omega) ?_
  refine g_p t285_659 rfl ?_
  refine g_p t285_660 rfl ?_
  refine g_k (n := 2) t285_662 rfl rfl ?_
  refine g_addn t285_663 ?_
  refine r_xld t285_664 hX (by omega) ?_
  refine r_cv t285_665 (f80 hF) rfl ?_
  refine c236 (by exact hF1) hP5 mW w2 w3 m43 (fun s2 f2 => ?_)
  refine k_v ?_ rfl
  refine g_ceq t285_668 (fun h668 => ?_) (fun h668 => ?_)
  · exact hG _ _ _ (LI.ok (s := s) (hF1.fr f2.1) hro (f2.1.nx.trans nx1) hwf (hC1.fm f2 (by decide)) (hM1.fm f2 (by decide) (by decide) ((f2.f (by decide)).trans m43)))
  · exact absurd rfl h668
theorem op15 : OPL X 750 := by
  intro d i j s l5 l6 Q hX hi hj hL hG
  obtain ⟨hF, hro, P, r, w, pd, row, day, left, acts, di, se, to, bks, wds, lis, li, tp, ke, hwf, hC, hM⟩ := hL
  have ⟨⟨w0, w1, w2, w3, w4, w5, w6, w7, w8⟩, ⟨x1, x2, x3⟩, ⟨y1, y2⟩, ⟨z1, z2, z3⟩, z4⟩ := hwf
  have ⟨⟨hR, hW, hA, hD, d33, d42⟩, ⟨hS, hT, ht, hDf, hH⟩, ⟨hQ, hK, hZ⟩, hke, bp, wp, lp, hKS⟩ := hC
  have ⟨kB, kW, kL, kSE, kN, kb1, kb2, kb3, kl1, kl2, kl3, kn1, kn2⟩ := hKS
  have ⟨⟨mW, mA, mD⟩, ⟨mS, mT, mt⟩, ⟨mB, mWl, mL⟩, ⟨m32, m43⟩, mke⟩ := hM
  have hP5 : P ≤ 5 := w1
  have hL8 : ∀ b ∈ bks, ∀ c ∈ b.1, c.1 < 8 := fun b hb => by
    obtain ⟨k, hk, e⟩ := List.getElem_of_mem hb
    have := (kB.2.2.1 k hk).2.2.2.2
    rw [List.getD, List.getElem?_eq_getElem hk] at this
    rw [← e]; exact this
  refine g_p t285_750 rfl ?_
  refine g_p t285_751 rfl ?_
  refine g_p t285_752 rfl ?_
  refine g_k (n := 1) t285_754 rfl rfl ?_
  refine g_addn t285_755 ?_
  refine r_xld t285_756 hX (by omega) ?_
  refine r_cv t285_757 (f0 hF) rfl ?_
  refine c149 (by exact hF) hR hW w2 w3 kB kl1 ?_
  refine k_v ?_ rfl
  refine g_p t285_760 rfl ?_
  refine g_p t285_761 rfl ?_
  refine g_p t285_762 rfl ?_
  refine g_k (n := 1) t285_764 rfl rfl ?_
  refine g_addn t285_765 ?_
  refine r_xld t285_766 hX (by omega) ?_
  refine r_cv t285_767 (f80 hF) rfl ?_
  refine c239 (by exact hF) hP5 mW w2 w3 mB hL8 ?_
  refine k_v ?_ rfl
  refine g_ceq t285_770 (fun h770 => ?_) (fun h770 => ?_)
  · exact hG _ _ _ (LI.ok (s := s) (by exact hF) hro rfl hwf hC.w0 hM.w0)
  · exact absurd rfl h770
theorem op16 : OPL X 775 := by
  intro d i j s l5 l6 Q hX hi hj hL hG
  obtain ⟨hF, hro, P, r, w, pd, row, day, left, acts, di, se, to, bks, wds, lis, li, tp, ke, hwf, hC, hM⟩ := hL
  have ⟨⟨w0, w1, w2, w3, w4, w5, w6, w7, w8⟩, ⟨x1, x2, x3⟩, ⟨y1, y2⟩, ⟨z1, z2, z3⟩, z4⟩ := hwf
  have ⟨⟨hR, hW, hA, hD, d33, d42⟩, ⟨hS, hT, ht, hDf, hH⟩, ⟨hQ, hK, hZ⟩, hke, bp, wp, lp, hKS⟩ := hC
  have ⟨kB, kW, kL, kSE, kN, kb1, kb2, kb3, kl1, kl2, kl3, kn1, kn2⟩ := hKS
  have ⟨⟨mW, mA, mD⟩, ⟨mS, mT, mt⟩, ⟨mB, mWl, mL⟩, ⟨m32, m43⟩, mke⟩ := hM
  have hP5 : P ≤ 5 := w1
  by_cases hk : (bG P bks (X.2 (i + 1))).isSome = true ∧ (wG wds (X.2 (i + 2))).isSome = true ∧ isH (X.2 (i + 3)) = true
  · obtain ⟨k1, k2, k3⟩ := hk
    obtain ⟨b, hb⟩ := Option.isSome_iff_exists.mp k1
    obtain ⟨l, hl⟩ := Option.isSome_iff_exists.mp k2
    refine g_p t285_775 rfl ?_
    refine g_p t285_776 rfl ?_
    refine g_p t285_777 rfl ?_
    refine g_k (n := 1) t285_779 rfl rfl ?_
    refine g_addn t285_780 ?_
    refine r_xld t285_781 hX (by omega) ?_
    refine g_p t285_782 rfl ?_
    refine g_p t285_783 rfl ?_
    refine g_k (n := 2) t285_785 rfl rfl ?_
    refine g_addn t285_786 ?_
    refine r_xld t285_787 hX (by omega) ?_
    refine g_p t285_788 rfl ?_
    refine g_p t285_789 rfl ?_
    refine g_k (n := 3) t285_791 rfl rfl ?_
    refine g_addn t285_792 ?_
    refine r_xld t285_793 hX (by omega) ?_
    refine r_cv t285_794 (f0 hF) rfl ?_
    refine c151t (by exact hF) hR hW w2 w3 w4 w5 w7 hQ hK hZ kB kl1 kW kl2 hb hl k3 (fun s1 f1 hQ1 hK1 hZ1 => ?_)
    have hC1 := hC.cA f1 (by decide) (by decide) hQ1 hK1 hZ1
    have hM1 := hM.cf hF f1 (by decide)
    have hF1 := hF.fr f1
    have hF := hF1
    have nx1 := f1.nx
    have ⟨⟨mW, mA, mD⟩, ⟨mS, mT, mt⟩, ⟨mB, mWl, mL⟩, ⟨m32, m43⟩, mke⟩ := hM1
    refine k_v ?_ rfl
    refine g_p t285_797 rfl ?_
    refine g_p t285_798 rfl ?_
    refine g_p t285_799 rfl ?_
    refine g_k (n := 1) t285_801 rfl rfl ?_
    refine g_addn t285_802 ?_
    refine r_xld t285_803 hX (by omega) ?_
    refine g_p t285_804 rfl ?_
    refine g_p t285_805 rfl ?_
    refine g_k (n := 2) t285_807 rfl rfl ?_
    refine g_addn t285_808 ?_
    refine r_xld t285_809 hX (by omega) ?_
    refine g_p t285_810 rfl ?_
    refine g_p t285_811 rfl ?_
    refine g_k (n := 3) t285_813 rfl rfl ?_
    refine g_addn t285_814 ?_
    refine r_xld t285_815 hX (by omega) ?_
    refine r_cv t285_816 (f80 hF) rfl ?_
    refine c241t (by exact hF1) hP5 mW w2 w3 m43 w7 w5 w4 mB mWl hb hl k3 (fun s2 f2 => ?_)
    refine k_v ?_ rfl
    refine g_ceq t285_819 (fun h819 => ?_) (fun h819 => ?_)
    · exact hG _ _ _ (LI.ok (s := s) (hF1.fr f2.1) hro (f2.1.nx.trans nx1) hwf (hC1.fm f2 (by decide)) (hM1.fm f2 (by decide) (by decide) ((f2.f (by decide)).trans m43)))
    · exact absurd rfl h819
  · refine g_p t285_775 rfl ?_
    refine g_p t285_776 rfl ?_
    refine g_p t285_777 rfl ?_
    refine g_k (n := 1) t285_779 rfl rfl ?_
    refine g_addn t285_780 ?_
    refine r_xld t285_781 hX (by omega) ?_
    refine g_p t285_782 rfl ?_
    refine g_p t285_783 rfl ?_
    refine g_k (n := 2) t285_785 rfl rfl ?_
    refine g_addn t285_786 ?_
    refine r_xld t285_787 hX (by omega) ?_
    refine g_p t285_788 rfl ?_
    refine g_p t285_789 rfl ?_
    refine g_k (n := 3) t285_791 rfl rfl ?_
    refine g_addn t285_792 ?_
    refine r_xld t285_793 hX (by omega) ?_
    refine r_cv t285_794 (f0 hF) rfl ?_
    refine c151f (by exact hF) hR kB kl1 kW kl2 hk ?_
    refine k_v ?_ rfl
    refine g_p t285_797 rfl ?_
    refine g_p t285_798 rfl ?_
    refine g_p t285_799 rfl ?_
    refine g_k (n := 1) t285_801 rfl rfl ?_
    refine g_addn t285_802 ?_
    refine r_xld t285_803 hX (by omega) ?_
    refine g_p t285_804 rfl ?_
    refine g_p t285_805 rfl ?_
    refine g_k (n := 2) t285_807 rfl rfl ?_
    refine g_addn t285_808 ?_
    refine r_xld t285_809 hX (by omega) ?_
    refine g_p t285_810 rfl ?_
    refine g_p t285_811 rfl ?_
    refine g_k (n := 3) t285_813 rfl rfl ?_
    refine g_addn t285_814 ?_
    refine r_xld t285_815 hX (by omega) ?_
    refine r_cv t285_816 (f80 hF) rfl ?_
    refine c241f (by exact hF) hP5 mW w2 w3 m43 mB mWl hk ?_
    refine k_v ?_ rfl
    refine g_ceq t285_819 (fun h819 => ?_) (fun h819 => ?_)
    · exact hG _ _ _ (LI.ok (s := s) (by exact hF) hro rfl hwf hC.w0 hM.w0)
    · exact absurd rfl h819
theorem op17 : OPL X 824 := by
  intro d i j s l5 l6 Q hX hi hj hL hG
  obtain ⟨hF, hro, P, r, w, pd, row, day, left, acts, di, se, to, bks, wds, lis, li, tp, ke, hwf, hC, hM⟩ := hL
  have ⟨⟨w0, w1, w2, w3, w4, w5, w6, w7, w8⟩, ⟨x1, x2, x3⟩, ⟨y1, y2⟩, ⟨z1, z2, z3⟩, z4⟩ := hwf
  have ⟨⟨hR, hW, hA, hD, d33, d42⟩, ⟨hS, hT, ht, hDf, hH⟩, ⟨hQ, hK, hZ⟩, hke, bp, wp, lp, hKS⟩ := hC
  have ⟨kB, kW, kL, kSE, kN, kb1, kb2, kb3, kl1, kl2, kl3, kn1, kn2⟩ := hKS
  have ⟨⟨mW, mA, mD⟩, ⟨mS, mT, mt⟩, ⟨mB, mWl, mL⟩, ⟨m32, m43⟩, mke⟩ := hM
  have hP5 : P ≤ 5 := w1
  by_cases hk : (bG P bks (X.2 (i + 1))).isSome = true ∧ (wG wds (X.2 (i + 2))).isSome = true
  · obtain ⟨k1, k2⟩ := hk
    obtain ⟨b, hb⟩ := Option.isSome_iff_exists.mp k1
    obtain ⟨l, hl⟩ := Option.isSome_iff_exists.mp k2
    refine g_p t285_824 rfl ?_
    refine g_p t285_825 rfl ?_
    refine g_p t285_826 rfl ?_
    refine g_k (n := 1) t285_828 rfl rfl ?_
    refine g_addn t285_829 ?_
    refine r_xld t285_830 hX (by omega) ?_
    refine g_p t285_831 rfl ?_
    refine g_p t285_832 rfl ?_
    refine g_k (n := 2) t285_834 rfl rfl ?_
    refine g_addn t285_835 ?_
    refine r_xld t285_836 hX (by omega) ?_
    refine r_cv t285_837 (f0 hF) rfl ?_
    refine c152t (by exact hF) hR hW w2 w3 w4 w5 w7 hQ hK hZ kB kl1 kW kl2 hb hl (fun v1 s1 hv1 f1 hZ1 => ?_)
    have hC1 := hC.cA f1 (by decide) (by decide) (hQ.fr f1 (by decide)) (hK.fr f1 (by decide) (by decide)) hZ1
    have hM1 := hM.cf hF f1 (by decide)
    have hF1 := hF.fr f1
    have hF := hF1
    have nx1 := f1.nx
    have ⟨⟨mW, mA, mD⟩, ⟨mS, mT, mt⟩, ⟨mB, mWl, mL⟩, ⟨m32, m43⟩, mke⟩ := hM1
    refine k_v ?_ rfl
    refine g_p t285_840 rfl ?_
    refine g_p t285_841 rfl ?_
    refine g_p t285_842 rfl ?_
    refine g_k (n := 1) t285_844 rfl rfl ?_
    refine g_addn t285_845 ?_
    refine r_xld t285_846 hX (by omega) ?_
    refine g_p t285_847 rfl ?_
    refine g_p t285_848 rfl ?_
    refine g_k (n := 2) t285_850 rfl rfl ?_
    refine g_addn t285_851 ?_
    refine r_xld t285_852 hX (by omega) ?_
    refine r_cv t285_853 (f80 hF) rfl ?_
    refine c243t (by exact hF1) hP5 mW w2 w3 m43 w7 w5 w4 mB mWl hb hl (fun v2 s2 hv2 f2 => ?_)
    refine k_v ?_ rfl
    refine g_ceq t285_856 (fun h856 => ?_) (fun h856 => ?_)
    · exact hG _ _ _ (LI.ok (s := s) (hF1.fr f2.1) hro (f2.1.nx.trans nx1) hwf (hC1.fm f2 (by decide)) (hM1.fm f2 (by decide) (by decide) ((f2.f (by decide)).trans m43)))
    · exact absurd (Soon_one hv1 hv2) h856
  · refine g_p t285_824 rfl ?_
    refine g_p t285_825 rfl ?_
    refine g_p t285_826 rfl ?_
    refine g_k (n := 1) t285_828 rfl rfl ?_
    refine g_addn t285_829 ?_
    refine r_xld t285_830 hX (by omega) ?_
    refine g_p t285_831 rfl ?_
    refine g_p t285_832 rfl ?_
    refine g_k (n := 2) t285_834 rfl rfl ?_
    refine g_addn t285_835 ?_
    refine r_xld t285_836 hX (by omega) ?_
    refine r_cv t285_837 (f0 hF) rfl ?_
    refine c152f (by exact hF) hR kB kl1 kW kl2 hk ?_
    refine k_v ?_ rfl
    refine g_p t285_840 rfl ?_
    refine g_p t285_841 rfl ?_
    refine g_p t285_842 rfl ?_
    refine g_k (n := 1) t285_844 rfl rfl ?_
    refine g_addn t285_845 ?_
    refine r_xld t285_846 hX (by omega) ?_
    refine g_p t285_847 rfl ?_
    refine g_p t285_848 rfl ?_
    refine g_k (n := 2) t285_850 rfl rfl ?_
    refine g_addn t285_851 ?_
    refine r_xld t285_852 hX (by omega) ?_
    refine r_cv t285_853 (f80 hF) rfl ?_
    refine c243f (by exact hF) hP5 mW w2 w3 m43 mB mWl hk ?_
    refine k_v ?_ rfl
    refine g_ceq t285_856 (fun h856 => ?_) (fun h856 => ?_)
    · exact hG _ _ _ (LI.ok (s := s) (by exact hF) hro rfl hwf hC.w0 hM.w0)
    · exact absurd rfl h856
theorem op18 : OPL X 861 := by
  intro d i j s l5 l6 Q hX hi hj hL hG
  obtain ⟨hF, hro, P, r, w, pd, row, day, left, acts, di, se, to, bks, wds, lis, li, tp, ke, hwf, hC, hM⟩ := hL
  have ⟨⟨w0, w1, w2, w3, w4, w5, w6, w7, w8⟩, ⟨x1, x2, x3⟩, ⟨y1, y2⟩, ⟨z1, z2, z3⟩, z4⟩ := hwf
  have ⟨⟨hR, hW, hA, hD, d33, d42⟩, ⟨hS, hT, ht, hDf, hH⟩, ⟨hQ, hK, hZ⟩, hke, bp, wp, lp, hKS⟩ := hC
  have ⟨kB, kW, kL, kSE, kN, kb1, kb2, kb3, kl1, kl2, kl3, kn1, kn2⟩ := hKS
  have ⟨⟨mW, mA, mD⟩, ⟨mS, mT, mt⟩, ⟨mB, mWl, mL⟩, ⟨m32, m43⟩, mke⟩ := hM
  have hP5 : P ≤ 5 := w1
  by_cases hk : (bG P bks (X.2 (i + 1))).isSome = true ∧ isL0 (X.2 (i + 2)) = true ∧ isH (X.2 (i + 3)) = true
  · obtain ⟨k1, k2, k3⟩ := hk
    obtain ⟨b, hb⟩ := Option.isSome_iff_exists.mp k1
    refine g_p t285_861 rfl ?_
    refine g_p t285_862 rfl ?_
    refine g_p t285_863 rfl ?_
    refine g_k (n := 1) t285_865 rfl rfl ?_
    refine g_addn t285_866 ?_
    refine r_xld t285_867 hX (by omega) ?_
    refine g_p t285_868 rfl ?_
    refine g_p t285_869 rfl ?_
    refine g_k (n := 2) t285_871 rfl rfl ?_
    refine g_addn t285_872 ?_
    refine r_xld t285_873 hX (by omega) ?_
    refine g_p t285_874 rfl ?_
    refine g_p t285_875 rfl ?_
    refine g_k (n := 3) t285_877 rfl rfl ?_
    refine g_addn t285_878 ?_
    refine r_xld t285_879 hX (by omega) ?_
    refine r_cv t285_880 (f0 hF) rfl ?_
    refine c153t (by exact hF) hR hW w2 w3 w7 kB kl1 hb k2 k3 ?_
    refine k_v ?_ rfl
    refine g_p t285_883 rfl ?_
    refine g_p t285_884 rfl ?_
    refine g_p t285_885 rfl ?_
    refine g_k (n := 1) t285_887 rfl rfl ?_
    refine g_addn t285_888 ?_
    refine r_xld t285_889 hX (by omega) ?_
    refine g_p t285_890 rfl ?_
    refine g_p t285_891 rfl ?_
    refine g_k (n := 2) t285_893 rfl rfl ?_
    refine g_addn t285_894 ?_
    refine r_xld t285_895 hX (by omega) ?_
    refine g_p t285_896 rfl ?_
    refine g_p t285_897 rfl ?_
    refine g_k (n := 3) t285_899 rfl rfl ?_
    refine g_addn t285_900 ?_
    refine r_xld t285_901 hX (by omega) ?_
    refine r_cv t285_902 (f80 hF) rfl ?_
    refine c245t (by exact hF) hP5 mW w2 w3 m43 w7 mB hb k2 k3 (fun s2 f2 => ?_)
    refine k_v ?_ rfl
    refine g_ceq t285_905 (fun h905 => ?_) (fun h905 => ?_)
    · exact hG _ _ _ (LI.ok (s := s) (hF.fr f2.1) hro f2.1.nx hwf (hC.fm f2 (by decide)) (hM.fm f2 (by decide) (by decide) ((f2.f (by decide)).trans m43)))
    · exact absurd rfl h905
  · refine g_p t285_861 rfl ?_
    refine g_p t285_862 rfl ?_
    refine g_p t285_863 rfl ?_
    refine g_k (n := 1) t285_865 rfl rfl ?_
    refine g_addn t285_866 ?_
    refine r_xld t285_867 hX (by omega) ?_
    refine g_p t285_868 rfl ?_
    refine g_p t285_869 rfl ?_
    refine g_k (n := 2) t285_871 rfl rfl ?_
    refine g_addn t285_872 ?_
    refine r_xld t285_873 hX (by omega) ?_
    refine g_p t285_874 rfl ?_
    refine g_p t285_875 rfl ?_
    refine g_k (n := 3) t285_877 rfl rfl ?_
    refine g_addn t285_878 ?_
    refine r_xld t285_879 hX (by omega) ?_
    refine r_cv t285_880 (f0 hF) rfl ?_
    refine c153f (by exact hF) hR kB kl1 hk ?_
    refine k_v ?_ rfl
    refine g_p t285_883 rfl ?_
    refine g_p t285_884 rfl ?_
    refine g_p t285_885 rfl ?_
    refine g_k (n := 1) t285_887 rfl rfl ?_
    refine g_addn t285_888 ?_
    refine r_xld t285_889 hX (by omega) ?_
    refine g_p t285_890 rfl ?_
    refine g_p t285_891 rfl ?_
    refine g_k (n := 2) t285_893 rfl rfl ?_
    refine g_addn t285_894 ?_
    refine r_xld t285_895 hX (by omega) ?_
    refine g_p t285_896 rfl ?_
    refine g_p t285_897 rfl ?_
    refine g_k (n := 3) t285_899 rfl rfl ?_
    refine g_addn t285_900 ?_
    refine r_xld t285_901 hX (by omega) ?_
    refine r_cv t285_902 (f80 hF) rfl ?_
    refine c245f (by exact hF) hP5 mW w2 w3 m43 mB hk ?_
    refine k_v ?_ rfl
    refine g_ceq t285_905 (fun h905 => ?_) (fun h905 => ?_)
    · exact hG _ _ _ (LI.ok (s := s) (by exact hF) hro rfl hwf hC.w0 hM.w0)
    · exact absurd rfl h905
theorem op19 : OPL X 910 := by
  intro d i j s l5 l6 Q hX hi hj hL hG
  obtain ⟨hF, hro, P, r, w, pd, row, day, left, acts, di, se, to, bks, wds, lis, li, tp, ke, hwf, hC, hM⟩ := hL
  have ⟨⟨w0, w1, w2, w3, w4, w5, w6, w7, w8⟩, ⟨x1, x2, x3⟩, ⟨y1, y2⟩, ⟨z1, z2, z3⟩, z4⟩ := hwf
  have ⟨⟨hR, hW, hA, hD, d33, d42⟩, ⟨hS, hT, ht, hDf, hH⟩, ⟨hQ, hK, hZ⟩, hke, bp, wp, lp, hKS⟩ := hC
  have ⟨kB, kW, kL, kSE, kN, kb1, kb2, kb3, kl1, kl2, kl3, kn1, kn2⟩ := hKS
  have ⟨⟨mW, mA, mD⟩, ⟨mS, mT, mt⟩, ⟨mB, mWl, mL⟩, ⟨m32, m43⟩, mke⟩ := hM
  have hP5 : P ≤ 5 := w1
  by_cases hk : (bG P bks (X.2 (i + 1))).isSome = true ∧ isL (X.2 (i + 2)) = true ∧ ¬ (X.2 (i + 3)) < -1
  · obtain ⟨k1, k2, k3⟩ := hk
    obtain ⟨b, hb⟩ := Option.isSome_iff_exists.mp k1
    refine g_p t285_910 rfl ?_
    refine g_p t285_911 rfl ?_
    refine g_p t285_912 rfl ?_
    refine g_k (n := 1) t285_914 rfl rfl ?_
    refine g_addn t285_915 ?_
    refine r_xld t285_916 hX (by omega) ?_
    refine g_p t285_917 rfl ?_
    refine g_p t285_918 rfl ?_
    refine g_k (n := 2) t285_920 rfl rfl ?_
    refine g_addn t285_921 ?_
    refine r_xld t285_922 hX (by omega) ?_
    refine g_p t285_923 rfl ?_
    refine g_p t285_924 rfl ?_
    refine g_k (n := 3) t285_926 rfl rfl ?_
    refine g_addn t285_927 ?_
    refine r_xld t285_928 hX (by omega) ?_
    refine r_cv t285_929 (f0 hF) rfl ?_
    refine c154t (by exact hF) hR hW w2 w3 kB kl1 hb k2 k3 ?_
    refine k_v ?_ rfl
    refine g_p t285_932 rfl ?_
    refine g_p t285_933 rfl ?_
    refine g_p t285_934 rfl ?_
    refine g_k (n := 1) t285_936 rfl rfl ?_
    refine g_addn t285_937 ?_
    refine r_xld t285_938 hX (by omega) ?_
    refine g_p t285_939 rfl ?_
    refine g_p t285_940 rfl ?_
    refine g_k (n := 2) t285_942 rfl rfl ?_
    refine g_addn t285_943 ?_
    refine r_xld t285_944 hX (by omega) ?_
    refine g_p t285_945 rfl ?_
    refine g_p t285_946 rfl ?_
    refine g_k (n := 3) t285_948 rfl rfl ?_
    refine g_addn t285_949 ?_
    refine r_xld t285_950 hX (by omega) ?_
    refine r_cv t285_951 (f80 hF) rfl ?_
    refine c247t (by exact hF) hP5 mW w2 w3 m43 mB hb k2 k3 (fun s2 f2 => ?_)
    refine k_v ?_ rfl
    refine g_ceq t285_954 (fun h954 => ?_) (fun h954 => ?_)
    · exact hG _ _ _ (LI.ok (s := s) (hF.fr f2.1) hro f2.1.nx hwf (hC.fm f2 (by decide)) (hM.fm f2 (by decide) (by decide) ((f2.f (by decide)).trans m43)))
    · exact absurd rfl h954
  · refine g_p t285_910 rfl ?_
    refine g_p t285_911 rfl ?_
    refine g_p t285_912 rfl ?_
    refine g_k (n := 1) t285_914 rfl rfl ?_
    refine g_addn t285_915 ?_
    refine r_xld t285_916 hX (by omega) ?_
    refine g_p t285_917 rfl ?_
    refine g_p t285_918 rfl ?_
    refine g_k (n := 2) t285_920 rfl rfl ?_
    refine g_addn t285_921 ?_
    refine r_xld t285_922 hX (by omega) ?_
    refine g_p t285_923 rfl ?_
    refine g_p t285_924 rfl ?_
    refine g_k (n := 3) t285_926 rfl rfl ?_
    refine g_addn t285_927 ?_
    refine r_xld t285_928 hX (by omega) ?_
    refine r_cv t285_929 (f0 hF) rfl ?_
    refine c154f (by exact hF) hR kB kl1 hk ?_
    refine k_v ?_ rfl
    refine g_p t285_932 rfl ?_
    refine g_p t285_933 rfl ?_
    refine g_p t285_934 rfl ?_
    refine g_k (n := 1) t285_936 rfl rfl ?_
    refine g_addn t285_937 ?_
    refine r_xld t285_938 hX (by omega) ?_
    refine g_p t285_939 rfl ?_
    refine g_p t285_940 rfl ?_
    refine g_k (n := 2) t285_942 rfl rfl ?_
    refine g_addn t285_943 ?_
    refine r_xld t285_944 hX (by omega) ?_
    refine g_p t285_945 rfl ?_
    refine g_p t285_946 rfl ?_
    refine g_k (n := 3) t285_948 rfl rfl ?_
    refine g_addn t285_949 ?_
    refine r_xld t285_950 hX (by omega) ?_
    refine r_cv t285_951 (f80 hF) rfl ?_
    refine c247f (by exact hF) hP5 mW w2 w3 m43 mB hk ?_
    refine k_v ?_ rfl
    refine g_ceq t285_954 (fun h954 => ?_) (fun h954 => ?_)
    · exact hG _ _ _ (LI.ok (s := s) (by exact hF) hro rfl hwf hC.w0 hM.w0)
    · exact absurd rfl h954
theorem op20 : OPL X 959 := by
  intro d i j s l5 l6 Q hX hi hj hL hG
  obtain ⟨hF, hro, P, r, w, pd, row, day, left, acts, di, se, to, bks, wds, lis, li, tp, ke, hwf, hC, hM⟩ := hL
  have ⟨⟨w0, w1, w2, w3, w4, w5, w6, w7, w8⟩, ⟨x1, x2, x3⟩, ⟨y1, y2⟩, ⟨z1, z2, z3⟩, z4⟩ := hwf
  have ⟨⟨hR, hW, hA, hD, d33, d42⟩, ⟨hS, hT, ht, hDf, hH⟩, ⟨hQ, hK, hZ⟩, hke, bp, wp, lp, hKS⟩ := hC
  have ⟨kB, kW, kL, kSE, kN, kb1, kb2, kb3, kl1, kl2, kl3, kn1, kn2⟩ := hKS
  have ⟨⟨mW, mA, mD⟩, ⟨mS, mT, mt⟩, ⟨mB, mWl, mL⟩, ⟨m32, m43⟩, mke⟩ := hM
  have hP5 : P ≤ 5 := w1
  cases hb : bG P bks (X.2 (i + 1)) with
  | some b =>
    refine g_p t285_959 rfl ?_
    refine g_p t285_960 rfl ?_
    refine g_p t285_961 rfl ?_
    refine g_k (n := 1) t285_963 rfl rfl ?_
    refine g_addn t285_964 ?_
    refine r_xld t285_965 hX (by omega) ?_
    refine r_cv t285_966 (f0 hF) rfl ?_
    refine c156t (by exact hF) hR hW w2 w3 hQ hK kB kl1 hb (fun v1 s1 hv1 f1 hQ1 hK1 => ?_)
    have hC1 := hC.cA f1 (by decide) (by decide) hQ1 hK1 (hZ.fr f1 (by decide) (by decide))
    have hM1 := hM.cf hF f1 (by decide)
    have hF1 := hF.fr f1
    have hF := hF1
    have nx1 := f1.nx
    have ⟨⟨mW, mA, mD⟩, ⟨mS, mT, mt⟩, ⟨mB, mWl, mL⟩, ⟨m32, m43⟩, mke⟩ := hM1
    refine k_v ?_ rfl
    refine g_p t285_969 rfl ?_
    refine g_p t285_970 rfl ?_
    refine g_p t285_971 rfl ?_
    refine g_k (n := 1) t285_973 rfl rfl ?_
    refine g_addn t285_974 ?_
    refine r_xld t285_975 hX (by omega) ?_
    refine r_cv t285_976 (f80 hF) rfl ?_
    refine c248t (by exact hF1) hP5 mW w2 w3 m43 mB hb (fun v2 s2 hv2 f2 => ?_)
    refine k_v ?_ rfl
    refine g_ceq t285_979 (fun h979 => ?_) (fun h979 => ?_)
    · exact hG _ _ _ (LI.ok (s := s) (hF1.fr f2.1) hro (f2.1.nx.trans nx1) hwf (hC1.fm f2 (by decide)) (hM1.fm f2 (by decide) (by decide) ((f2.f (by decide)).trans m43)))
    · exact absurd (GapV_one hv1 hv2) h979
  | none =>
    refine g_p t285_959 rfl ?_
    refine g_p t285_960 rfl ?_
    refine g_p t285_961 rfl ?_
    refine g_k (n := 1) t285_963 rfl rfl ?_
    refine g_addn t285_964 ?_
    refine r_xld t285_965 hX (by omega) ?_
    refine r_cv t285_966 (f0 hF) rfl ?_
    refine c156f (by exact hF) hR kB kl1 hb ?_
    refine k_v ?_ rfl
    refine g_p t285_969 rfl ?_
    refine g_p t285_970 rfl ?_
    refine g_p t285_971 rfl ?_
    refine g_k (n := 1) t285_973 rfl rfl ?_
    refine g_addn t285_974 ?_
    refine r_xld t285_975 hX (by omega) ?_
    refine r_cv t285_976 (f80 hF) rfl ?_
    refine c248f (by exact hF) hP5 mW w2 w3 m43 mB hb ?_
    refine k_v ?_ rfl
    refine g_ceq t285_979 (fun h979 => ?_) (fun h979 => ?_)
    · exact hG _ _ _ (LI.ok (s := s) (by exact hF) hro rfl hwf hC.w0 hM.w0)
    · exact absurd rfl h979
theorem op21 : OPL X 984 := by
  intro d i j s l5 l6 Q hX hi hj hL hG
  obtain ⟨hF, hro, P, r, w, pd, row, day, left, acts, di, se, to, bks, wds, lis, li, tp, ke, hwf, hC, hM⟩ := hL
  have ⟨⟨w0, w1, w2, w3, w4, w5, w6, w7, w8⟩, ⟨x1, x2, x3⟩, ⟨y1, y2⟩, ⟨z1, z2, z3⟩, z4⟩ := hwf
  have ⟨⟨hR, hW, hA, hD, d33, d42⟩, ⟨hS, hT, ht, hDf, hH⟩, ⟨hQ, hK, hZ⟩, hke, bp, wp, lp, hKS⟩ := hC
  have ⟨kB, kW, kL, kSE, kN, kb1, kb2, kb3, kl1, kl2, kl3, kn1, kn2⟩ := hKS
  have ⟨⟨mW, mA, mD⟩, ⟨mS, mT, mt⟩, ⟨mB, mWl, mL⟩, ⟨m32, m43⟩, mke⟩ := hM
  have hP5 : P ≤ 5 := w1
  have hL8 : ∀ b ∈ bks, ∀ c ∈ b.1, c.1 < 8 := fun b hb => by
    obtain ⟨k, hk, e⟩ := List.getElem_of_mem hb
    have := (kB.2.2.1 k hk).2.2.2.2
    rw [List.getD, List.getElem?_eq_getElem hk] at this
    rw [← e]; exact this
  by_cases hk : (bG P bks (X.2 (i + 1))).isSome = true ∧ (stO P r w (X.2 (i + 2))).isSome = true
  · obtain ⟨k1, k2⟩ := hk
    obtain ⟨b, hb⟩ := Option.isSome_iff_exists.mp k1
    obtain ⟨l, hl⟩ := Option.isSome_iff_exists.mp k2
    refine g_p t285_984 rfl ?_
    refine g_p t285_985 rfl ?_
    refine g_p t285_986 rfl ?_
    refine g_k (n := 1) t285_988 rfl rfl ?_
    refine g_addn t285_989 ?_
    refine r_xld t285_990 hX (by omega) ?_
    refine g_p t285_991 rfl ?_
    refine g_p t285_992 rfl ?_
    refine g_k (n := 2) t285_994 rfl rfl ?_
    refine g_addn t285_995 ?_
    refine r_xld t285_996 hX (by omega) ?_
    refine r_cv t285_997 (f0 hF) rfl ?_
    refine c158t (by exact hF) hR hW w2 w3 hQ hK kB kl1 hb hl (fun s1 f1 hQ1 hK1 => ?_)
    have hC1 := hC.cA f1 (by decide) (by decide) hQ1 hK1 (hZ.fr f1 (by decide) (by decide))
    have hM1 := hM.cf hF f1 (by decide)
    have hF1 := hF.fr f1
    have hF := hF1
    have nx1 := f1.nx
    have ⟨⟨mW, mA, mD⟩, ⟨mS, mT, mt⟩, ⟨mB, mWl, mL⟩, ⟨m32, m43⟩, mke⟩ := hM1
    refine k_v ?_ rfl
    refine g_p t285_1000 rfl ?_
    refine g_p t285_1001 rfl ?_
    refine g_p t285_1002 rfl ?_
    refine g_k (n := 1) t285_1004 rfl rfl ?_
    refine g_addn t285_1005 ?_
    refine r_xld t285_1006 hX (by omega) ?_
    refine g_p t285_1007 rfl ?_
    refine g_p t285_1008 rfl ?_
    refine g_k (n := 2) t285_1010 rfl rfl ?_
    refine g_addn t285_1011 ?_
    refine r_xld t285_1012 hX (by omega) ?_
    refine r_cv t285_1013 (f80 hF) rfl ?_
    refine c249t (by exact hF1) hP5 mW w2 w3 m43 mB hL8 hb hl (fun s2 f2 => ?_)
    refine k_v ?_ rfl
    refine g_ceq t285_1016 (fun h1016 => ?_) (fun h1016 => ?_)
    · exact hG _ _ _ (LI.ok (s := s) (hF1.fr f2.1) hro (f2.1.nx.trans nx1) hwf (hC1.fm f2 (by decide)) (hM1.fm f2 (by decide) (by decide) ((f2.f (by decide)).trans m43)))
    · exact absurd rfl h1016
  · refine g_p t285_984 rfl ?_
    refine g_p t285_985 rfl ?_
    refine g_p t285_986 rfl ?_
    refine g_k (n := 1) t285_988 rfl rfl ?_
    refine g_addn t285_989 ?_
    refine r_xld t285_990 hX (by omega) ?_
    refine g_p t285_991 rfl ?_
    refine g_p t285_992 rfl ?_
    refine g_k (n := 2) t285_994 rfl rfl ?_
    refine g_addn t285_995 ?_
    refine r_xld t285_996 hX (by omega) ?_
    refine r_cv t285_997 (f0 hF) rfl ?_
    refine c158f (by exact hF) hR hW w2 w3 hQ hK kB kl1 hk ?_
    refine k_v ?_ rfl
    refine g_p t285_1000 rfl ?_
    refine g_p t285_1001 rfl ?_
    refine g_p t285_1002 rfl ?_
    refine g_k (n := 1) t285_1004 rfl rfl ?_
    refine g_addn t285_1005 ?_
    refine r_xld t285_1006 hX (by omega) ?_
    refine g_p t285_1007 rfl ?_
    refine g_p t285_1008 rfl ?_
    refine g_k (n := 2) t285_1010 rfl rfl ?_
    refine g_addn t285_1011 ?_
    refine r_xld t285_1012 hX (by omega) ?_
    refine r_cv t285_1013 (f80 hF) rfl ?_
    refine c249f (by exact hF) hP5 mW w2 w3 m43 mB hk ?_
    refine k_v ?_ rfl
    refine g_ceq t285_1016 (fun h1016 => ?_) (fun h1016 => ?_)
    · exact hG _ _ _ (LI.ok (s := s) (by exact hF) hro rfl hwf hC.w0 hM.w0)
    · exact absurd rfl h1016
theorem op22 : OPL X 1021 := by
  intro d i j s l5 l6 Q hX hi hj hL hG
  obtain ⟨hF, hro, P, r, w, pd, row, day, left, acts, di, se, to, bks, wds, lis, li, tp, ke, hwf, hC, hM⟩ := hL
  have ⟨⟨w0, w1, w2, w3, w4, w5, w6, w7, w8⟩, ⟨x1, x2, x3⟩, ⟨y1, y2⟩, ⟨z1, z2, z3⟩, z4⟩ := hwf
  have ⟨⟨hR, hW, hA, hD, d33, d42⟩, ⟨hS, hT, ht, hDf, hH⟩, ⟨hQ, hK, hZ⟩, hke, bp, wp, lp, hKS⟩ := hC
  have ⟨kB, kW, kL, kSE, kN, kb1, kb2, kb3, kl1, kl2, kl3, kn1, kn2⟩ := hKS
  have ⟨⟨mW, mA, mD⟩, ⟨mS, mT, mt⟩, ⟨mB, mWl, mL⟩, ⟨m32, m43⟩, mke⟩ := hM
  have hP5 : P ≤ 5 := w1
  have hlr : lrl P day (li.map fun l => lis.getD l []) false = fun _ _ => true := by cases li <;> rfl
  by_cases hk : (bG P bks (X.2 (i + 1))).isSome = true ∧ (bG P bks (X.2 (i + 3))).isSome = true ∧ isL (X.2 (i + 2)) = true ∧ isL0 (X.2 (i + 4)) = true ∧ isH (X.2 (i + 5)) = true
  · obtain ⟨k1, k2, k3, k4, k5⟩ := hk
    obtain ⟨b, hb⟩ := Option.isSome_iff_exists.mp k1
    obtain ⟨b2, hb2⟩ := Option.isSome_iff_exists.mp k2
    refine g_p t285_1021 rfl ?_
    refine g_p t285_1022 rfl ?_
    refine g_p t285_1023 rfl ?_
    refine g_k (n := 1) t285_1025 rfl rfl ?_
    refine g_addn t285_1026 ?_
    refine r_xld t285_1027 hX (by omega) ?_
    refine g_p t285_1028 rfl ?_
    refine g_p t285_1029 rfl ?_
    refine g_k (n := 2) t285_1031 rfl rfl ?_
    refine g_addn t285_1032 ?_
    refine r_xld t285_1033 hX (by omega) ?_
    refine g_p t285_1034 rfl ?_
    refine g_p t285_1035 rfl ?_
    refine g_k (n := 3) t285_1037 rfl rfl ?_
    refine g_addn t285_1038 ?_
    refine r_xld t285_1039 hX (by omega) ?_
    refine g_p t285_1040 rfl ?_
    refine g_p t285_1041 rfl ?_
    refine g_k (n := 4) t285_1043 rfl rfl ?_
    refine g_addn t285_1044 ?_
    refine r_xld t285_1045 hX (by omega) ?_
    refine g_p t285_1046 rfl ?_
    refine g_p t285_1047 rfl ?_
    refine g_k (n := 5) t285_1049 rfl rfl ?_
    refine g_addn t285_1050 ?_
    refine r_xld t285_1051 hX (by omega) ?_
    refine r_cv t285_1052 (f0 hF) rfl ?_
    refine c159t (by exact hF) hR hW w2 w3 w7 hQ hH.1 kB kl1 hb hb2 k3 k4 k5 (fun s1 f1 hQ1 => ?_)
    rw [hlr]
    have hC1 : CI P r w pd row day left acts di se to bks wds lis li tp ke s1 := (hC.cA (s' := lgo s1 s) f1.fi.fr (by decide) (by decide) hQ1 (hK.fr f1.fi.fr (by decide) (by decide)) (hZ.fr f1.fi.fr (by decide) (by decide))).lgo
    have hM1 := hM.cl hF f1 (by decide)
    have hF1 := f1.fx hF
    have hF := hF1
    have nx1 : s1.2.2.2 = s.2.2.2 := f1.2.1
    have ⟨⟨mW, mA, mD⟩, ⟨mS, mT, mt⟩, ⟨mB, mWl, mL⟩, ⟨m32, m43⟩, mke⟩ := hM1
    refine k_v ?_ rfl
    refine g_p t285_1055 rfl ?_
    refine g_p t285_1056 rfl ?_
    refine g_p t285_1057 rfl ?_
    refine g_k (n := 1) t285_1059 rfl rfl ?_
    refine g_addn t285_1060 ?_
    refine r_xld t285_1061 hX (by omega) ?_
    refine g_p t285_1062 rfl ?_
    refine g_p t285_1063 rfl ?_
    refine g_k (n := 2) t285_1065 rfl rfl ?_
    refine g_addn t285_1066 ?_
    refine r_xld t285_1067 hX (by omega) ?_
    refine g_p t285_1068 rfl ?_
    refine g_p t285_1069 rfl ?_
    refine g_k (n := 3) t285_1071 rfl rfl ?_
    refine g_addn t285_1072 ?_
    refine r_xld t285_1073 hX (by omega) ?_
    refine g_p t285_1074 rfl ?_
    refine g_p t285_1075 rfl ?_
    refine g_k (n := 4) t285_1077 rfl rfl ?_
    refine g_addn t285_1078 ?_
    refine r_xld t285_1079 hX (by omega) ?_
    refine g_p t285_1080 rfl ?_
    refine g_p t285_1081 rfl ?_
    refine g_k (n := 5) t285_1083 rfl rfl ?_
    refine g_addn t285_1084 ?_
    refine r_xld t285_1085 hX (by omega) ?_
    refine r_cv t285_1086 (f80 hF) rfl ?_
    refine c250t (by exact hF1) hP5 mW w2 w3 m43 w7 mB hb hb2 k3 k4 k5 (fun s2 f2 => ?_)
    refine k_v ?_ rfl
    refine g_ceq t285_1089 (fun h1089 => ?_) (fun h1089 => ?_)
    · exact hG _ _ _ (LI.ok (s := s) (hF1.fr f2.1) hro (f2.1.nx.trans nx1) hwf (hC1.fm f2 (by decide)) (hM1.fm f2 (by decide) (by decide) ((f2.f (by decide)).trans m43)))
    · exact absurd rfl h1089
  · refine g_p t285_1021 rfl ?_
    refine g_p t285_1022 rfl ?_
    refine g_p t285_1023 rfl ?_
    refine g_k (n := 1) t285_1025 rfl rfl ?_
    refine g_addn t285_1026 ?_
    refine r_xld t285_1027 hX (by omega) ?_
    refine g_p t285_1028 rfl ?_
    refine g_p t285_1029 rfl ?_
    refine g_k (n := 2) t285_1031 rfl rfl ?_
    refine g_addn t285_1032 ?_
    refine r_xld t285_1033 hX (by omega) ?_
    refine g_p t285_1034 rfl ?_
    refine g_p t285_1035 rfl ?_
    refine g_k (n := 3) t285_1037 rfl rfl ?_
    refine g_addn t285_1038 ?_
    refine r_xld t285_1039 hX (by omega) ?_
    refine g_p t285_1040 rfl ?_
    refine g_p t285_1041 rfl ?_
    refine g_k (n := 4) t285_1043 rfl rfl ?_
    refine g_addn t285_1044 ?_
    refine r_xld t285_1045 hX (by omega) ?_
    refine g_p t285_1046 rfl ?_
    refine g_p t285_1047 rfl ?_
    refine g_k (n := 5) t285_1049 rfl rfl ?_
    refine g_addn t285_1050 ?_
    refine r_xld t285_1051 hX (by omega) ?_
    refine r_cv t285_1052 (f0 hF) rfl ?_
    refine c159f (by exact hF) hR kB kl1 hk ?_
    refine k_v ?_ rfl
    refine g_p t285_1055 rfl ?_
    refine g_p t285_1056 rfl ?_
    refine g_p t285_1057 rfl ?_
    refine g_k (n := 1) t285_1059 rfl rfl ?_
    refine g_addn t285_1060 ?_
    refine r_xld t285_1061 hX (by omega) ?_
    refine g_p t285_1062 rfl ?_
    refine g_p t285_1063 rfl ?_
    refine g_k (n := 2) t285_1065 rfl rfl ?_
    refine g_addn t285_1066 ?_
    refine r_xld t285_1067 hX (by omega) ?_
    refine g_p t285_1068 rfl ?_
    refine g_p t285_1069 rfl ?_
    refine g_k (n := 3) t285_1071 rfl rfl ?_
    refine g_addn t285_1072 ?_
    refine r_xld t285_1073 hX (by omega) ?_
    refine g_p t285_1074 rfl ?_
    refine g_p t285_1075 rfl ?_
    refine g_k (n := 4) t285_1077 rfl rfl ?_
    refine g_addn t285_1078 ?_
    refine r_xld t285_1079 hX (by omega) ?_
    refine g_p t285_1080 rfl ?_
    refine g_p t285_1081 rfl ?_
    refine g_k (n := 5) t285_1083 rfl rfl ?_
    refine g_addn t285_1084 ?_
    refine r_xld t285_1085 hX (by omega) ?_
    refine r_cv t285_1086 (f80 hF) rfl ?_
    refine c250f (by exact hF) hP5 mW w2 w3 m43 mB hk ?_
    refine k_v ?_ rfl
    refine g_ceq t285_1089 (fun h1089 => ?_) (fun h1089 => ?_)
    · exact hG _ _ _ (LI.ok (s := s) (by exact hF) hro rfl hwf hC.w0 hM.w0)
    · exact absurd rfl h1089
theorem op27 : OPL X 1268 := by
  intro d i j s l5 l6 Q hX hi hj hL hG
  obtain ⟨hF, hro, P, r, w, pd, row, day, left, acts, di, se, to, bks, wds, lis, li, tp, ke, hwf, hC, hM⟩ := hL
  have ⟨⟨w0, w1, w2, w3, w4, w5, w6, w7, w8⟩, ⟨x1, x2, x3⟩, ⟨y1, y2⟩, ⟨z1, z2, z3⟩, z4⟩ := hwf
  have ⟨⟨hR, hW, hA, hD, d33, d42⟩, ⟨hS, hT, ht, hDf, hH⟩, ⟨hQ, hK, hZ⟩, hke, bp, wp, lp, hKS⟩ := hC
  have ⟨kB, kW, kL, kSE, kN, kb1, kb2, kb3, kl1, kl2, kl3, kn1, kn2⟩ := hKS
  have ⟨⟨mW, mA, mD⟩, ⟨mS, mT, mt⟩, ⟨mB, mWl, mL⟩, ⟨m32, m43⟩, mke⟩ := hM
  have hP5 : P ≤ 5 := w1
  rcases Nat.eq_zero_or_pos P with hP0 | hP0
  · subst hP0
    refine g_p t285_1268 rfl ?_
    refine r_cv t285_1269 (f0 hF) rfl ?_
    refine c164f (by exact hF) hR ?_
    refine k_v ?_ rfl
    refine g_p t285_1272 rfl ?_
    refine r_cv t285_1273 (f80 hF) rfl ?_
    refine c257f (by exact hF) mW.1 ?_
    refine k_v ?_ rfl
    refine g_ceq t285_1276 (fun h1276 => ?_) (fun h1276 => ?_)
    · exact hG _ _ _ (LI.ok (s := s) (by exact hF) hro rfl hwf hC.w0 hM.w0)
    · exact absurd rfl h1276
  · refine g_p t285_1268 rfl ?_
    refine r_cv t285_1269 (f0 hF) rfl ?_
    refine c164t (by exact hF) hR hP0 kB kl1 hT y2 ?_
    refine k_v ?_ rfl
    refine g_p t285_1272 rfl ?_
    refine r_cv t285_1273 (f80 hF) rfl ?_
    refine c257t (by exact hF) hP5 hP0 mW.1 mB mT y2 ?_
    refine k_v ?_ rfl
    refine g_ceq t285_1276 (fun h1276 => ?_) (fun h1276 => ?_)
    · exact hG _ _ _ (LI.ok (s := s) (by exact hF) hro rfl hwf hC.w0 hM.w0)
    · exact absurd rfl h1276
theorem op28 : OPL X 1281 := by
  intro d i j s l5 l6 Q hX hi hj hL hG
  obtain ⟨hF, hro, P, r, w, pd, row, day, left, acts, di, se, to, bks, wds, lis, li, tp, ke, hwf, hC, hM⟩ := hL
  have ⟨⟨w0, w1, w2, w3, w4, w5, w6, w7, w8⟩, ⟨x1, x2, x3⟩, ⟨y1, y2⟩, ⟨z1, z2, z3⟩, z4⟩ := hwf
  have ⟨⟨hR, hW, hA, hD, d33, d42⟩, ⟨hS, hT, ht, hDf, hH⟩, ⟨hQ, hK, hZ⟩, hke, bp, wp, lp, hKS⟩ := hC
  have ⟨kB, kW, kL, kSE, kN, kb1, kb2, kb3, kl1, kl2, kl3, kn1, kn2⟩ := hKS
  have ⟨⟨mW, mA, mD⟩, ⟨mS, mT, mt⟩, ⟨mB, mWl, mL⟩, ⟨m32, m43⟩, mke⟩ := hM
  have hP5 : P ≤ 5 := w1
  rcases Nat.eq_zero_or_pos P with hP0 | hP0
  · subst hP0
    refine g_p t285_1281 rfl ?_
    refine r_cv t285_1282 (f0 hF) rfl ?_
    refine c166f (by exact hF) hR ?_
    refine k_v ?_ rfl
    refine g_p t285_1285 rfl ?_
    refine r_cv t285_1286 (f80 hF) rfl ?_
    refine c259f (by exact hF) mW.1 ?_
    refine k_v ?_ rfl
    refine g_ceq t285_1289 (fun h1289 => ?_) (fun h1289 => ?_)
    · exact hG _ _ _ (LI.ok (s := s) (by exact hF) hro rfl hwf hC.w0 hM.w0)
    · exact absurd rfl h1289
  · refine g_p t285_1281 rfl ?_
    refine r_cv t285_1282 (f0 hF) rfl ?_
    refine c166t (by exact hF) hR hP0 hT y2 ?_
    refine k_v ?_ rfl
    refine g_p t285_1285 rfl ?_
    refine r_cv t285_1286 (f80 hF) rfl ?_
    refine c259t (by exact hF) hP5 hP0 mW.1 mT y2 ?_
    refine k_v ?_ rfl
    refine g_ceq t285_1289 (fun h1289 => ?_) (fun h1289 => ?_)
    · exact hG _ _ _ (LI.ok (s := s) (by exact hF) hro rfl hwf hC.w0 hM.w0)
    · exact absurd rfl h1289
theorem op31 : OPL X 1388 := by
  intro d i j s l5 l6 Q hX hi hj hL hG
  obtain ⟨hF, hro, P, r, w, pd, row, day, left, acts, di, se, to, bks, wds, lis, li, tp, ke, hwf, hC, hM⟩ := hL
  have ⟨⟨w0, w1, w2, w3, w4, w5, w6, w7, w8⟩, ⟨x1, x2, x3⟩, ⟨y1, y2⟩, ⟨z1, z2, z3⟩, z4⟩ := hwf
  have ⟨⟨hR, hW, hA, hD, d33, d42⟩, ⟨hS, hT, ht, hDf, hH⟩, ⟨hQ, hK, hZ⟩, hke, bp, wp, lp, hKS⟩ := hC
  have ⟨kB, kW, kL, kSE, kN, kb1, kb2, kb3, kl1, kl2, kl3, kn1, kn2⟩ := hKS
  have ⟨⟨mW, mA, mD⟩, ⟨mS, mT, mt⟩, ⟨mB, mWl, mL⟩, ⟨m32, m43⟩, mke⟩ := hM
  have hP5 : P ≤ 5 := w1
  by_cases hk : inN day (X.2 (i + 1)) = true
  · obtain ⟨n, hn, e⟩ := inN_t hk (by omega)
    refine g_p t285_1388 rfl ?_
    refine g_p t285_1389 rfl ?_
    refine g_p t285_1390 rfl ?_
    refine g_k (n := 1) t285_1392 rfl rfl ?_
    refine g_addn t285_1393 ?_
    refine r_xld t285_1394 hX (by omega) ?_
    refine r_cv t285_1395 (f0 hF) rfl ?_
    rw [e]
    refine c170t (by exact hF) hR hW hD w6 hn (x3 n hn) ?_
    refine k_v ?_ rfl
    refine g_p t285_1398 rfl ?_
    refine g_p t285_1399 rfl ?_
    refine g_p t285_1400 rfl ?_
    refine g_k (n := 1) t285_1402 rfl rfl ?_
    refine g_addn t285_1403 ?_
    refine r_xld t285_1404 hX (by omega) ?_
    refine r_cv t285_1405 (f80 hF) rfl ?_
    rw [e]
    refine c262t (by exact hF) hP5 mW mD w6 hn (x3 n hn) ?_
    refine k_v ?_ rfl
    refine g_ceq t285_1408 (fun h1408 => ?_) (fun h1408 => ?_)
    · exact hG _ _ _ (LI.ok (s := s) (by exact hF) hro rfl hwf hC.w0 hM.w0)
    · exact absurd rfl h1408
  · have hk : inN day (X.2 (i + 1)) = false := by cases h : inN day (X.2 (i + 1)) with
      | true => exact absurd h hk
      | false => rfl
    refine g_p t285_1388 rfl ?_
    refine g_p t285_1389 rfl ?_
    refine g_p t285_1390 rfl ?_
    refine g_k (n := 1) t285_1392 rfl rfl ?_
    refine g_addn t285_1393 ?_
    refine r_xld t285_1394 hX (by omega) ?_
    refine r_cv t285_1395 (f0 hF) rfl ?_
    refine c170f (by exact hF) hR hW w6 hk ?_
    refine k_v ?_ rfl
    refine g_p t285_1398 rfl ?_
    refine g_p t285_1399 rfl ?_
    refine g_p t285_1400 rfl ?_
    refine g_k (n := 1) t285_1402 rfl rfl ?_
    refine g_addn t285_1403 ?_
    refine r_xld t285_1404 hX (by omega) ?_
    refine r_cv t285_1405 (f80 hF) rfl ?_
    refine c262f (by exact hF) hP5 mW w6 hk ?_
    refine k_v ?_ rfl
    refine g_ceq t285_1408 (fun h1408 => ?_) (fun h1408 => ?_)
    · exact hG _ _ _ (LI.ok (s := s) (by exact hF) hro rfl hwf hC.w0 hM.w0)
    · exact absurd rfl h1408
theorem op34 : OPL X 1439 := by
  intro d i j s l5 l6 Q hX hi hj hL hG
  obtain ⟨hF, hro, P, r, w, pd, row, day, left, acts, di, se, to, bks, wds, lis, li, tp, ke, hwf, hC, hM⟩ := hL
  have ⟨⟨w0, w1, w2, w3, w4, w5, w6, w7, w8⟩, ⟨x1, x2, x3⟩, ⟨y1, y2⟩, ⟨z1, z2, z3⟩, z4⟩ := hwf
  have ⟨⟨hR, hW, hA, hD, d33, d42⟩, ⟨hS, hT, ht, hDf, hH⟩, ⟨hQ, hK, hZ⟩, hke, bp, wp, lp, hKS⟩ := hC
  have ⟨kB, kW, kL, kSE, kN, kb1, kb2, kb3, kl1, kl2, kl3, kn1, kn2⟩ := hKS
  have ⟨⟨mW, mA, mD⟩, ⟨mS, mT, mt⟩, ⟨mB, mWl, mL⟩, ⟨m32, m43⟩, mke⟩ := hM
  have hP5 : P ≤ 5 := w1
  have hrow : row < mn P ∨ P = 0 := by
    rcases Nat.eq_zero_or_pos P with h | h
    · exact Or.inr h
    · exact Or.inl (std_t (w7 h)).1
  have hrow2 : row < 243 := by
    rcases hrow with h | h
    · have := mn_le hP5; omega
    · rw [w8 h]; decide
  have e1 := kB.2.1
  have e2 := kW.2.1
  have e3 := kL.2.1
  refine g_p t285_1439 rfl ?_
  refine g_p t285_1440 rfl ?_
  refine g_p t285_1441 rfl ?_
  refine g_k (n := 1) t285_1443 rfl rfl ?_
  refine g_addn t285_1444 ?_
  refine r_xld t285_1445 hX (by omega) ?_
  refine r_cv t285_1446 (f0 hF) rfl ?_
  refine c173 (by exact hF) hR hW hA hrow hS hT kB.1 kW.1 kL.1 ht ?_
  rw [e1, e2, e3]
  refine k_v ?_ rfl
  refine g_p t285_1449 rfl ?_
  refine g_p t285_1450 rfl ?_
  refine g_p t285_1451 rfl ?_
  refine g_k (n := 1) t285_1453 rfl rfl ?_
  refine g_addn t285_1454 ?_
  refine r_xld t285_1455 hX (by omega) ?_
  refine r_cv t285_1456 (f80 hF) rfl ?_
  refine c265 (by exact hF) hP5 mW hrow2 mB.1 mWl.1 mL.1 mt.1 mA.1 mS.1 mT.1 ?_
  refine k_v ?_ rfl
  refine g_ceq t285_1459 (fun h1459 => ?_) (fun h1459 => ?_)
  · exact hG _ _ _ (LI.ok (s := s) (by exact hF) hro rfl hwf hC.w0 hM.w0)
  · exact absurd rfl h1459
end LA
