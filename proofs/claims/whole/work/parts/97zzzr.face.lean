/-! THE FACE: texts kept -/
/-- the cells below 114 as they are in s', the rest as in s -/
def loM (s' s : mM) : mM := (s.1, fun q => if q < 114 then s'.2.1 q else s.2.1 q, s.2.2)
theorem FW.lo {A B : List Nat} {s s' : mM} (f : FW A s s') (h : ∀ q ∈ A, q < 114 → q ∈ B) : Fr B s (loM s' s) := by
  refine ⟨rfl, rfl, fun q hq => ?_⟩
  show (if q < 114 then s'.2.1 q else s.2.1 q) = _
  by_cases h1 : q < 114
  · rw [if_pos h1]; exact f.2.2 q (fun h2 => hq (h q h2 h1))
  · rw [if_neg h1]
theorem FW.kx {A : List Nat} {s s' : mM} (f : FW A s s') (h : ∀ q ∈ A, q ≠ 16 ∧ q ≠ 17 ∧ q ≠ 18 ∧ (q < 114 ∨ s.2.2.2.1 ≤ q)) : KX s s' (fun _ => False) := by
  refine ⟨f.1, fun q hq h1 _ => ⟨f.2.1 q hq, f.2.2 q (fun h2 => ?_)⟩, fun q h => h.elim⟩
  have := h q h2
  omega
theorem KX.tra {s s1 s2 : mM} {a : Nat} (k1 : KX s s1 (fun _ => False)) (k2 : KX s1 s2 (adE s1 a)) (ha : a = 16 ∨ a = 17 ∨ a = 18) (hN : 114 ≤ s.2.2.2.1) : KX s s2 (adE s a) := by
  have ka := k1.2.1 a (by omega) (Or.inr ha) (fun h => h)
  have h1 := k1.1
  have h2 := k2.1
  refine ⟨by omega, fun q hq hc hE => ?_, fun q h => ?_⟩
  · have g1 := k1.2.1 q hq hc (fun h => h)
    have g2 := k2.2.1 q (by omega) hc (fun h => hE (by
      rcases h with h | ⟨h3, h4, h5⟩
      · exact Or.inl h
      · exact Or.inr ⟨g1.1.symm.trans h3, ka.ri.symm.trans h4, h5⟩))
    exact ⟨g2.1.trans g1.1, g2.2.trans g1.2⟩
  · rcases h with h | h
    · exact Or.inl (by omega)
    · exact Or.inr h.1
theorem AdA.small {s : mM} {a : Nat} {A : List Nat} (h : AdA s a A) (hN : 114 ≤ s.2.2.2.1) : ∀ q ∈ A, q < 114 → q ∈ [a] := fun q hq h1 => by
  rcases h q hq with g | g | g
  · rw [g]; exact List.mem_singleton.mpr rfl
  · omega
  · omega
theorem FW.lo2 {A B C : List Nat} {s s1 s2 : mM} (f : FW A s s1) (g : FW B s1 s2) (h1 : ∀ q ∈ A, q < 114 → q ∈ C) (h2 : ∀ q ∈ B, q < 114 → q ∈ C) : Fr C s (loM s2 s) := ((f.mono (B := A ++ B) (fun x hx => List.mem_append.mpr (Or.inl hx))).tr (g.mono (fun x hx => List.mem_append.mpr (Or.inr hx)))).lo (fun q hq h => (List.mem_append.mp hq).elim (fun h3 => h1 q h3 h) (fun h3 => h2 q h3 h))
section TZR
variable {X : am_X} {d P N wd : Nat} {s : mM} {hp : am_H} {Q : Option Value → am_H → Prop} {bks : List Bk} {wds lis : List (List Nat)} {bp wp lp w t : List Nat} {cl : List Cl} {n : Nat}
theorem c126_1 (hF : Fx s) (hR : CR P s) (hK : KST P bks wds lis bp wp lp s) (hD : DB cl s) (hg : gcl cl wd) (hw : wd ≤ 5) (hc8 : cl.length ≤ 8) (e5 : ri s 5 3 = nI wd) (e8 : ri s 8 1 = nI n) (hn : n < 2 ^ 31) (hN : s.2.2.2.1 = N) (hN2 : N ≤ 100000) (hl : bks.length < 3)
    (hq : ∀ s', Fx s' → Fr [16] s (loM s' s) → KX s s' (adE s 16) → s'.2.2.2.1 ≤ N + 8 → (s'.2.2.2.2.1 ≤ s.2.2.2.2.1 + 8 ∧ s'.2.2.2.2.2 ≤ s.2.2.2.2.2 + 311) → (∃ bp2, KST P (bks ++ [(cl, wd)]) wds lis bp2 wp lp s') → Q (some (.int (nI bks.length))) (mR s')) : gE X (d + 5) 126 [.ref 0, .int (nI 1)] (mR s) Q := by
  have hN1 : 114 ≤ N := by rw [← hN]; exact hK.2.2.2.2.1
  obtain ⟨w1, qB, n1, m1⟩ := mkB_fw hN
  have hF1 : Fx (mkB s N) := w1.fx (by omega) hF
  have nin1 : ∀ x, x < 114 → x ∉ [N, N + 1, N + 2, N + 3, N + 4, N + 5, N + 6] := fun x hx => by simp only [List.mem_cons, List.not_mem_nil, or_false]; omega
  have rAl : ∀ x ∈ rA, x < 114 := by decide
  have hR1 : CR P (mkB s N) := (show CR P (shg (mkB s N) s) from hR.fr w1.fr (fun x hx => nin1 x (rAl x hx)))
  have hD1 : DB cl (mkB s N) := (show DB cl (shg (mkB s N) s) from hD.fr w1.fr (nin1 _ (by decide)) (nin1 _ (by decide)) (nin1 _ (by decide)))
  have e51 : ri (mkB s N) 5 3 = nI wd := (congrFun (w1.2.2 5 (nin1 _ (by decide))) 3).trans e5
  have e81 : ri (mkB s N) 8 1 = nI n := (congrFun (w1.2.2 8 (nin1 _ (by decide))) 1).trans e8
  have hw1 : (wn s (.inr (1, [.null, .null, .null, .int 0])) 4).1 N = .inr (1, [.null, .null, .null, .int 0]) := by rw [← hN]; exact m_up_eq
  have hn1 : (wn s (.inr (1, [.null, .null, .null, .int 0])) 4).2.2.2.1 = N + 1 := by show s.2.2.2.1 + 1 = N + 1; rw [hN]
  have k1 : KX s (mkB s N) (fun _ => False) := w1.kx (fun q hq => by simp only [List.mem_cons, List.not_mem_nil, or_false] at hq; omega)
  have hK1 := hK.kx k1
  have hlb := hK.1.2.1
  refine en126 rfl rfl ?_
  refine g_p t126_0 rfl ?_
  refine n_ne t126_1 (by omega) (fun h1 => ?_) (fun h1 => ?_)
  · refine g_p t126_9 rfl ?_
    refine g_k (n := 1) t126_10 rfl rfl ?_
    refine n_cne t126_11 (by omega) (by omega) (fun h11 => ?_) (fun h11 => ?_)
    · exact absurd rfl h11
    · refine r_new (e := .inr (1, [.null, .null, .null, .int 0])) t126_14 rfl ?_
      rw [hN]
      refine g_p t126_17 rfl ?_
      refine g_ci t126_18 rfl rfl rfl ?_
      refine c0 hw1 hn1 ?_
      refine k_0 ?_
      have hF := hF1
      show gG X (d + 5) 126 21 _ _ (mR (mkB s N)) Q
      refine g_asn t126_21 rfl (Nat.le_of_ble_eq_true rfl) (am_s1_2 rfl) ?_
      refine g_p t126_22 rfl ?_
      refine g_p t126_23 rfl ?_
      refine r_getr t126_24 (f0 hF) rfl rfl ?_
      refine r_cv t126_27 (f4 hF) rfl ?_
      refine c15 (by exact hF1) ?_
      refine k_v ?_ rfl
      refine r_cv t126_30 qB.1 rfl ?_
      refine c6 (by exact hF1) (by exact qB) hN1 (by exact hD1.1) (by rw [List.length_map]; exact hc8) (by exact e81) hn (fun s30 fr30 L30 g30 v30 => ?_)
      have nin2 : ∀ x, x < 114 → x ∉ [N, N + 1, N + 2, N + 3, N + 4] := fun x hx => by simp only [List.mem_cons, List.not_mem_nil, or_false]; omega
      have hF := hF1.fr fr30
      have hR2 := hR1.fr fr30 (fun x hx => nin2 x (rAl x hx))
      have qB := qB.fr fr30
      have qT : Bt (cl, wd) N s30 := ⟨L30, v30.trans e51, hc8, hw, fun k hk q hq => by
        have hk : k < cl.length := hk
        have hq : q < wd := hq
        obtain ⟨c1, c2, c3⟩ := hg (cl.getD k (0, [])) (by rw [List.getD, List.getElem?_eq_getElem hk]; exact List.getElem_mem _)
        have hq2 : q < (cg cl k).length := by show q < (cl.getD k (0, [])).2.length; rw [c2]; exact hq
        refine ⟨(g30 (k * 5 + q) (by omega)).trans (hD1.2 k hk q hq2 (by omega)), ?_⟩
        refine c3 _ ?_
        show (cg cl k).getD q 0 ∈ cg cl k
        rw [List.getD, List.getElem?_eq_getElem hq2]; exact List.getElem_mem _⟩
      refine k_0 ?_
      refine g_p t126_33 rfl ?_
      refine g_p t126_34 rfl ?_
      refine r_getr t126_35 (f0 hF) rfl rfl ?_
      refine r_cv t126_38 qB.1 rfl ?_
      refine c7 (by exact hF) (by exact hR2) (by exact qB) (by exact qT) ⟨by omega, fun x hx => by have := rAl x hx; omega⟩ (fun s38 fr38 qS => ?_)
      have hF := hF.fr fr38
      have qB := qB.fr fr38
      have qT := qT.fr fr38 (by simp only [List.mem_singleton]; omega) (by simp only [List.mem_singleton]; omega) (by simp only [List.mem_singleton]; omega) (by simp only [List.mem_singleton]; omega)
      have w3 : FW [N, N + 1, N + 2, N + 3, N + 4, N + 5, N + 6] s s38 := w1.tr ((fr30.fw.mono (fun x hx => by simp only [List.mem_cons, List.not_mem_nil, or_false] at hx ⊢; omega)).tr (fr38.fw.mono (fun x hx => by simp only [List.mem_cons, List.not_mem_nil, or_false] at hx ⊢; omega)))
      have k3 : KX s s38 (fun _ => False) := w3.kx (fun q hq => by simp only [List.mem_cons, List.not_mem_nil, or_false] at hq; omega)
      have hK3 := hK.kx k3
      have nx3 : s38.2.2.2.1 = N + 7 := by rw [fr38.2.1, fr30.2.1, n1]
      have rm3 : s38.2.2.2.2 = (s.2.2.2.2.1 + 7, s.2.2.2.2.2 + 301) := by rw [fr38.2.1, fr30.2.1, m1]
      refine k_0 ?_
      refine g_p t126_41 rfl ?_
      refine r_getr t126_42 (f0 hF) rfl rfl ?_
      refine g_p t126_45 rfl ?_
      refine r_cv t126_46 (f16 hF) rfl ?_
      refine c282 (by exact f16 hF) (by decide) (by exact hK3.1.1) (by omega) (by rw [nx3]; omega) (by rw [nx3]; omega) (by exact qB.1) (by rw [nx3]; omega) rfl (fun s46 A46 ad46 fw46 nx46 rm46 al46 r46 => ?_)
      have hF := fw46.fx (by rw [nx3]; omega) hF
      refine k_v ?_ rfl
      refine g_p t126_49 rfl ?_
      refine g_p t126_50 rfl ?_
      refine r_getr t126_51 (f0 hF) rfl rfl ?_
      refine r_cv t126_54 (f16 hF) rfl ?_
      refine c278 (by exact f16 hF) (by exact al46) ?_
      refine k_v ?_ rfl
      refine g_k (n := 1) t126_57 rfl rfl ?_
      refine g_subn t126_58 (by rw [List.length_append]; exact Nat.le_add_left _ _) ?_
      have hl2 : (bp ++ [N]).length - 1 = bks.length := by rw [List.length_append, hlb]; rfl
      rw [rm3] at rm46
      exact i_ret t126_59 rfl (by
        rw [hl2]
        exact hq s46 hF (w3.lo2 fw46 (fun q hq h => by simp only [List.mem_cons, List.not_mem_nil, or_false] at hq; omega) (ad46.small (by omega))) (k3.tra (addK ad46 fw46 (by decide)) (Or.inl rfl) (by omega)) (by omega) ⟨by omega, by omega⟩ ⟨bp ++ [N], hK3.addB ad46 fw46 r46 (by omega) hN1 al46 qB qT qS (fun c hc => (hg c hc).1) (by omega) (fun i hi => by have := hK.2.2.2.2.2.1 i hi; omega) hl⟩)
  · exact absurd h1 (by decide)
theorem c126_2 (hF : Fx s) (hK : KST P bks wds lis bp wp lp s) (hL : NL s 13 w) (hw0 : 0 < w.length) (hw8 : w.length ≤ 8) (hw9 : ∀ x ∈ w, x < 8) (hN : s.2.2.2.1 = N) (hN2 : N ≤ 100000) (hl : wds.length < 4)
    (hq : ∀ s', Fx s' → Fr [17] s (loM s' s) → KX s s' (adE s 17) → s'.2.2.2.1 ≤ N + 3 → (s'.2.2.2.2.1 ≤ s.2.2.2.2.1 + 3 ∧ s'.2.2.2.2.2 ≤ s.2.2.2.2.2 + 20) → (∃ p2, KST P bks (wds ++ [w]) lis bp p2 lp s') → Q (some (.int (nI wds.length))) (mR s')) : gE X (d + 5) 126 [.ref 0, .int (nI 2)] (mR s) Q := by
  have hN1 : 114 ≤ N := by rw [← hN]; exact hK.2.2.2.2.1
  have hlb := hK.2.1.2.1
  refine en126 rfl rfl ?_
  refine g_p t126_0 rfl ?_
  refine n_ne t126_1 (by omega) (fun h1 => ?_) (fun h1 => ?_)
  · refine g_p t126_9 rfl ?_
    refine g_k (n := 1) t126_10 rfl rfl ?_
    refine n_cne t126_11 (by omega) (by omega) (fun h11 => ?_) (fun h11 => ?_)
    · refine g_p t126_60 rfl ?_
      refine g_k (n := 2) t126_61 rfl rfl ?_
      refine n_cne t126_62 (by omega) (by omega) (fun h62 => ?_) (fun h62 => ?_)
      · exact absurd rfl h62
      · refine g_p t126_65 rfl ?_
        refine r_getr t126_66 (f0 hF) rfl rfl ?_
        refine g_p t126_69 rfl ?_
        refine r_getr t126_70 (f0 hF) rfl rfl ?_
        refine r_cv t126_73 (f12 hF) rfl ?_
        refine c117 (by exact hF) ?_
        refine k_v ?_ rfl
        refine g_cs t126_76 rfl rfl rfl ?_
        refine c127 (by exact fN13 hF) (by exact hL) hw8 (by omega) hN (by omega) (fun s76 fw76 nx76 rm76 qN qL => ?_)
        have hF := fw76.fx (by omega) hF
        have k3 : KX s s76 (fun _ => False) := fw76.kx (fun q hq => by simp only [List.mem_cons, List.not_mem_nil, or_false] at hq; omega)
        have hK3 := hK.kx k3
        refine k_v ?_ rfl
        refine r_cv t126_79 (f17 hF) rfl ?_
        refine c282 (by exact f17 hF) (by decide) (by exact hK3.2.1.1) (by omega) (by rw [nx76]; omega) (by rw [nx76]; omega) (by exact qN.1) (by rw [nx76]; omega) rfl (fun s46 A46 ad46 fw46 nx46 rm46 al46 r46 => ?_)
        have hF := fw46.fx (by rw [nx76]; omega) hF
        refine k_v ?_ rfl
        refine g_p t126_82 rfl ?_
        refine g_p t126_83 rfl ?_
        refine r_getr t126_84 (f0 hF) rfl rfl ?_
        refine r_cv t126_87 (f17 hF) rfl ?_
        refine c278 (by exact f17 hF) (by exact al46) ?_
        refine k_v ?_ rfl
        refine g_k (n := 1) t126_90 rfl rfl ?_
        refine g_subn t126_91 (by rw [List.length_append]; exact Nat.le_add_left _ _) ?_
        have hl2 : (wp ++ [N]).length - 1 = wds.length := by rw [List.length_append, hlb]; rfl
        rw [rm76] at rm46
        exact i_ret t126_92 rfl (by
          rw [hl2]
          exact hq s46 hF (fw76.lo2 fw46 (fun q hq h => by simp only [List.mem_cons, List.not_mem_nil, or_false] at hq; omega) (ad46.small (by omega))) (k3.tra (addK ad46 fw46 (by decide)) (Or.inr (Or.inl rfl)) (by omega)) (by omega) ⟨by omega, by omega⟩ ⟨wp ++ [N], hK3.addW ad46 fw46 r46 (by omega) hN1 al46 (Nat.le_refl _) qN qL hw0 hw8 hw9 (by omega) (by omega) hl⟩)
    · exact absurd h11 (by decide)
  · exact absurd h1 (by decide)
theorem c126_3 (hF : Fx s) (hK : KST P bks wds lis bp wp lp s) (hX : TX 1 120 t s) (hN : s.2.2.2.1 = N) (hN2 : N ≤ 100000) (hl : lis.length < 4)
    (hq : ∀ s', Fx s' → Fr [18] s (loM s' s) → KX s s' (adE s 18) → s'.2.2.2.1 ≤ N + 3 → (s'.2.2.2.2.1 ≤ s.2.2.2.2.1 + 3 ∧ s'.2.2.2.2.2 ≤ s.2.2.2.2.2 + 132) → (∃ p2, KST P bks wds (lis ++ [t]) bp wp p2 s') → Q (some (.int (nI lis.length))) (mR s')) : gE X (d + 5) 126 [.ref 0, .int (nI 3)] (mR s) Q := by
  have hN1 : 114 ≤ N := by rw [← hN]; exact hK.2.2.2.2.1
  have hlb := hK.2.2.1.2.1
  have h120 := hX.2.2.2.1
  refine en126 rfl rfl ?_
  refine g_p t126_0 rfl ?_
  refine n_ne t126_1 (by omega) (fun h1 => ?_) (fun h1 => ?_)
  · refine g_p t126_9 rfl ?_
    refine g_k (n := 1) t126_10 rfl rfl ?_
    refine n_cne t126_11 (by omega) (by omega) (fun h11 => ?_) (fun h11 => ?_)
    · refine g_p t126_60 rfl ?_
      refine g_k (n := 2) t126_61 rfl rfl ?_
      refine n_cne t126_62 (by omega) (by omega) (fun h62 => ?_) (fun h62 => ?_)
      · refine g_p t126_93 rfl ?_
        refine r_getr t126_94 (f0 hF) rfl rfl ?_
        refine g_p t126_97 rfl ?_
        refine r_getr t126_98 (f0 hF) rfl rfl ?_
        refine g_cs t126_101 rfl rfl rfl ?_
        refine c127 (by exact hX.1) (by exact hX.2.1) hX.2.2.1 hX.2.2.2.1 hN (by omega) (fun s101 fw101 nx101 rm101 qN qL => ?_)
        have hF := fw101.fx (by omega) hF
        have k3 : KX s s101 (fun _ => False) := fw101.kx (fun q hq => by simp only [List.mem_cons, List.not_mem_nil, or_false] at hq; omega)
        have hK3 := hK.kx k3
        refine k_v ?_ rfl
        refine r_cv t126_104 (f18 hF) rfl ?_
        refine c282 (by exact f18 hF) (by decide) (by exact hK3.2.2.1.1) (by omega) (by rw [nx101]; omega) (by rw [nx101]; omega) (by exact qN.1) (by rw [nx101]; omega) rfl (fun s46 A46 ad46 fw46 nx46 rm46 al46 r46 => ?_)
        have hF := fw46.fx (by rw [nx101]; omega) hF
        refine k_v ?_ rfl
        refine g_p t126_107 rfl ?_
        refine g_p t126_108 rfl ?_
        refine r_getr t126_109 (f0 hF) rfl rfl ?_
        refine r_cv t126_112 (f18 hF) rfl ?_
        refine c278 (by exact f18 hF) (by exact al46) ?_
        refine k_v ?_ rfl
        refine g_k (n := 1) t126_115 rfl rfl ?_
        refine g_subn t126_116 (by rw [List.length_append]; exact Nat.le_add_left _ _) ?_
        have hl2 : (lp ++ [N]).length - 1 = lis.length := by rw [List.length_append, hlb]; rfl
        rw [rm101] at rm46
        exact i_ret t126_117 rfl (by
          rw [hl2]
          exact hq s46 hF (fw101.lo2 fw46 (fun q hq h => by simp only [List.mem_cons, List.not_mem_nil, or_false] at hq; omega) (ad46.small (by omega))) (k3.tra (addK ad46 fw46 (by decide)) (Or.inr (Or.inr rfl)) (by omega)) (by omega) ⟨by omega, by omega⟩ ⟨lp ++ [N], hK3.addL ad46 fw46 r46 (by omega) hN1 al46 ⟨qN, qL, Nat.le_refl _, hX.2.2.2.1, by omega, hX.2.2.2.2.2⟩ (by omega) (by omega) hl⟩)
      · exact absurd h62 (by decide)
    · exact absurd h11 (by decide)
  · exact absurd h1 (by decide)
end TZR
