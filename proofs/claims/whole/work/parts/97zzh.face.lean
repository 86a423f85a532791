/-! THE FACE: a sill begun -/
section TZH
variable {X : am_X} {d P P0 : Nat} {s : mM} {hp : am_H} {Q : Option Value → am_H → Prop} {l1 l2 : List Nat} {acts se : List Act} {bks : List Bk} {bp : List Nat} {x : Option Nat × Option Nat × Option Nat}
theorem c128a (hF : Fx s) (hP2 : 2 ≤ P) (hP5 : P ≤ 5) (p4 : ri s 3 4 = nI P) (p5 : ri s 3 5 = oI x.1) (p6 : ri s 3 6 = oI x.2.1) (p7 : ri s 3 7 = oI x.2.2) (hb : bd5 x) (hA : CA acts s) (hS : CS se s) (hL1 : NL s 76 l1) (hl1 : l1.length < 2 ^ 31) (hL2 : NL s 78 l2) (hl2 : l2.length < 2 ^ 31)
    (hq : ∀ s', Fx s' → Fr ([0] ++ rA ++ wA ++ [58] ++ eA ++ [76, 78]) s s' → CR P s' → CW (dv2 x.1) (dv2 x.2.1) (dv2 x.2.2) 0 0 (dv2 x.2.2) s' → CA [] s' → CS [] s' → (∀ a, a < 243 → ri s' 58 a = nI 0) → NL s' 76 [] → NL s' 78 [] → gG X (d + 5) 128 84 [.ref 0, .int (nI 0)] [] (mR (wi (wi s' 0 15 (nI 0)) 0 16 (nI 0))) Q) : gE X (d + 5) 128 [.ref 0] (mR s) Q := by
  obtain ⟨b1, b2, b3⟩ := hb
  have b3' : ∀ y, x.2.2 = some y → y ≤ 5 := fun y hy => (b3 y hy).2
  refine en128 rfl ?_
  refine g_p t128_0 rfl ?_
  refine r_getr t128_1 (f0 hF) rfl rfl ?_
  refine g_p t128_4 rfl ?_
  refine r_getr t128_5 (f0 hF) rfl rfl ?_
  refine r_cv t128_8 (f3 hF) rfl ?_
  refine c89 (by exact hF) (by exact p4) ?_
  refine k_v ?_ rfl
  refine r_cv t128_11 (f19 hF) rfl ?_
  refine c70 (by exact hF) (by omega) hP5 (fun s11 fr11 hR => ?_)
  have hA := hA.fr fr11 (by decide)
  have hS := hS.fr fr11 (by decide)
  refine k_0 ?_
  have hF := Fx.fr (by exact hF) fr11
  have p5 := (fr11.ri (p := 3) (i := 5) (by decide)).trans p5
  have p6 := (fr11.ri (p := 3) (i := 6) (by decide)).trans p6
  have p7 := (fr11.ri (p := 3) (i := 7) (by decide)).trans p7
  have hL1 := NL.fr (p := 76) (by exact hL1) fr11 (by decide) (by decide)
  have hL2 := NL.fr (p := 78) (by exact hL2) fr11 (by decide) (by decide)
  refine g_p t128_14 rfl ?_
  refine r_getr t128_15 (f0 hF) rfl rfl ?_
  refine g_p t128_18 rfl ?_
  refine r_getr t128_19 (f0 hF) rfl rfl ?_
  refine r_cv t128_22 (f3 hF) rfl ?_
  refine c90 (by exact hF) (by exact p5) b1 ?_
  refine k_v ?_ rfl
  refine g_p t128_25 rfl ?_
  refine r_getr t128_26 (f0 hF) rfl rfl ?_
  refine r_cv t128_29 (f3 hF) rfl ?_
  refine c91 (by exact hF) (by exact p6) b2 ?_
  refine k_v ?_ rfl
  refine g_p t128_32 rfl ?_
  refine r_getr t128_33 (f0 hF) rfl rfl ?_
  refine r_cv t128_36 (f3 hF) rfl ?_
  refine c92 (by exact hF) (by exact p7) b3' ?_
  refine k_v ?_ rfl
  refine r_cv t128_39 (f32 hF) rfl ?_
  refine c94 (by exact hF) (by exact hA) (fun s39 fr39 hA hW => ?_)
  have hR := hR.fr fr39 (by decide)
  have hS := hS.fr fr39 (by decide)
  refine k_0 ?_
  have hF := Fx.fr (by exact hF) fr39
  have p5 := (fr39.ri (p := 3) (i := 5) (by decide)).trans p5
  have p6 := (fr39.ri (p := 3) (i := 6) (by decide)).trans p6
  have p7 := (fr39.ri (p := 3) (i := 7) (by decide)).trans p7
  have hL1 := NL.fr (p := 76) (by exact hL1) fr39 (by decide) (by decide)
  have hL2 := NL.fr (p := 78) (by exact hL2) fr39 (by decide) (by decide)
  refine g_p t128_42 rfl ?_
  refine r_getr t128_43 (f0 hF) rfl rfl ?_
  refine r_cv t128_46 (f50 hF) rfl ?_
  refine c62 (by exact hF) (fun s46 fr46 l46 => ?_)
  have hR := hR.fr fr46 (by decide)
  have hS := hS.fr fr46 (by decide)
  have hA := hA.fr fr46 (by decide)
  have hW := hW.fr fr46 (by decide)
  refine k_0 ?_
  have hF := Fx.fr (by exact hF) fr46
  have p5 := (fr46.ri (p := 3) (i := 5) (by decide)).trans p5
  have p6 := (fr46.ri (p := 3) (i := 6) (by decide)).trans p6
  have p7 := (fr46.ri (p := 3) (i := 7) (by decide)).trans p7
  have hL1 := NL.fr (p := 76) (by exact hL1) fr46 (by decide) (by decide)
  have hL2 := NL.fr (p := 78) (by exact hL2) fr46 (by decide) (by decide)
  refine g_p t128_49 rfl ?_
  refine r_getr t128_50 (f0 hF) rfl rfl ?_
  refine r_cv t128_53 (f61 hF) rfl ?_
  refine c38 (by exact hF) (by exact hS) (fun s53 fr53 hS => ?_)
  have hR := hR.fr fr53 (by decide)
  have hA := hA.fr fr53 (by decide)
  have hW := hW.fr fr53 (by decide)
  have l46 := fun a ha => (fr53.ri (p := 58) (i := a) (by decide)).trans (l46 a ha)
  refine k_0 ?_
  have hF := Fx.fr (by exact hF) fr53
  have p5 := (fr53.ri (p := 3) (i := 5) (by decide)).trans p5
  have p6 := (fr53.ri (p := 3) (i := 6) (by decide)).trans p6
  have p7 := (fr53.ri (p := 3) (i := 7) (by decide)).trans p7
  have hL1 := NL.fr (p := 76) (by exact hL1) fr53 (by decide) (by decide)
  have hL2 := NL.fr (p := 78) (by exact hL2) fr53 (by decide) (by decide)
  refine g_p t128_56 rfl ?_
  refine r_getr t128_57 (f0 hF) rfl rfl ?_
  refine g_k (n := 0) t128_60 rfl rfl ?_
  refine r_cv t128_61 (f76 hF) rfl ?_
  refine c34L (by exact fN76 hF) (by exact hL1) (Nat.zero_le _) hl1 (fun s61 fr61 hL1 => ?_)
  refine k_0 ?_
  have hF := Fx.fr (by exact hF) fr61
  have p5 := (fr61.ri (p := 3) (i := 5) (by decide)).trans p5
  have p6 := (fr61.ri (p := 3) (i := 6) (by decide)).trans p6
  have p7 := (fr61.ri (p := 3) (i := 7) (by decide)).trans p7
  have hL2 := NL.fr (p := 78) (by exact hL2) fr61 (by decide) (by decide)
  refine g_p t128_64 rfl ?_
  refine r_getr t128_65 (f0 hF) rfl rfl ?_
  refine g_k (n := 0) t128_68 rfl rfl ?_
  refine r_cv t128_69 (f78 hF) rfl ?_
  refine c34L (by exact fN78 hF) (by exact hL2) (Nat.zero_le _) hl2 (fun s69 fr69 hL2 => ?_)
  refine k_0 ?_
  have hF := Fx.fr (by exact hF) fr69
  have p5 := (fr69.ri (p := 3) (i := 5) (by decide)).trans p5
  have p6 := (fr69.ri (p := 3) (i := 6) (by decide)).trans p6
  have p7 := (fr69.ri (p := 3) (i := 7) (by decide)).trans p7
  have hL1 := NL.fr (p := 76) (by exact hL1) fr69 (by decide) (by decide)
  refine g_p t128_72 rfl ?_
  refine g_p t128_73 rfl ?_
  refine r_putq (a := nI 0) t128_74 (f0 hF) rfl rfl rfl ?_
  refine g_p t128_77 rfl ?_
  refine g_k (n := 0) t128_78 rfl rfl ?_
  refine r_putz t128_79 (f0 hF) rfl rfl rfl ?_
  refine g_k (n := 0) t128_82 rfl rfl ?_
  refine g_isn t128_83 (Nat.le_of_ble_eq_true rfl) (am_s1_1 rfl) ?_
  have hR := (hR.fr fr61 (by decide)).fr fr69 (by decide)
  have hA := (hA.fr fr61 (by decide)).fr fr69 (by decide)
  have hW := (hW.fr fr61 (by decide)).fr fr69 (by decide)
  have hS := (hS.fr fr61 (by decide)).fr fr69 (by decide)
  exact hq s69 hF ((fr11.mono (by decide)).tr ((fr39.mono (by decide)).tr ((fr46.mono (by decide)).tr ((fr53.mono (by decide)).tr ((fr61.mono (by decide)).tr (fr69.mono (by decide))))))) hR hW hA hS (fun a ha => (fr69.ri (p := 58) (i := a) (by decide)).trans ((fr61.ri (p := 58) (i := a) (by decide)).trans (l46 a ha))) hL1 hL2
end TZH
