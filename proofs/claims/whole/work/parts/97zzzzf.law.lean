/-! THE LAW: faults lie in their texts -/
theorem RS_b {R : Nat} {t : List Nat} {σ : Ps} {s : mM} (h : RS R t σ s) : ∀ f, σ = .inr f → f ≤ t.length := fun f e => by subst e; exact h.2.2
section Tc87_b
variable {X : am_X} {d : Nat} {s : mM} {hp : am_H} {Q : Option Value → am_H → Prop} {T n c w k lo hi : Nat} {t l : List Nat} {σ : Ps} {v : Int32}
theorem c87b (hF : Fx s) (hTR : T ≠ 3 ∧ T + 1 ≠ 3) (hX : TX T n t s) (hq : ∀ s', (∀ f, pfi t (sle t).2 = .inr f → f ≤ t.length) → Q (some (.int (pfv (pfi t (sle t).2)))) (mR s')) : gE X (d + 3) 87 [.ref 3, .ref T] (mR s) Q := by
  have K : ∀ j i : Nat, i + j = 3 → ∀ r w k σ s', sle t = sil t j ((r, w, k), σ) → bd5 (r, w, k) → Fx s' → Fr [3] s s' → ri s' 3 4 = nI (pdv t 2 5 (sl0 t)) → ri s' 3 5 = oI r → ri s' 3 6 = oI w → ri s' 3 7 = oI k → RD 3 T n t σ s' → gG X (d + 3) 87 38 [.ref 3, .ref T, .int (nI i)] [] (mR s') Q := by
    intro j
    induction j with
    | zero =>
      intro i hj r w k σ s' he hb hF hf p4 p5 p6 p7 hD
      have he : sle t = ((r, w, k), σ) := he
      rw [he] at hq
      refine g_p t87_38 rfl ?_
      refine g_k (n := 3) t87_39 rfl rfl ?_
      refine n_cge t87_40 (by omega) (by omega) (fun h40 => ?_) (fun h40 => ?_)
      · refine g_p t87_60 rfl ?_
        refine r_cv t87_61 (f3 hF) rfl ?_
        refine c60_3 (by exact hF) hTR (by exact hD)  (fun s61 fr61 hD => ?_)
        have hF := hF.fr fr61.1
        have hf := hf.tr fr61.1
        have p4 := (fr61.2 4 (Or.inr (by decide))).trans p4
        have p5 := (fr61.2 5 (Or.inr (by decide))).trans p5
        have p6 := (fr61.2 6 (Or.inr (by decide))).trans p6
        have p7 := (fr61.2 7 (Or.inr (by decide))).trans p7
        refine k_v ?_ rfl
        exact i_ret t87_64 rfl (hq s61 (RS_b hD.2.2))
      · exfalso; omega
    | succ j ih =>
      intro i hj r w k σ s' he hb hF hf p4 p5 p6 p7 hD
      have hlt := psg_lt hD.1 σ
      unfold sil at he
      by_cases hz : psg t σ = 0
      · rw [if_pos hz] at he
        rw [he] at hq
        refine g_p t87_38 rfl ?_
        refine g_k (n := 3) t87_39 rfl rfl ?_
        refine n_cge t87_40 (by omega) (by omega) (fun h40 => ?_) (fun h40 => ?_)
        · refine g_p t87_60 rfl ?_
          refine r_cv t87_61 (f3 hF) rfl ?_
          refine c60_3 (by exact hF) hTR (by exact hD)  (fun s61 fr61 hD => ?_)
          have hF := hF.fr fr61.1
          have hf := hf.tr fr61.1
          have p4 := (fr61.2 4 (Or.inr (by decide))).trans p4
          have p5 := (fr61.2 5 (Or.inr (by decide))).trans p5
          have p6 := (fr61.2 6 (Or.inr (by decide))).trans p6
          have p7 := (fr61.2 7 (Or.inr (by decide))).trans p7
          refine k_v ?_ rfl
          first
            | (exfalso; omega)
            | exact i_ret t87_64 rfl (hq s61 (RS_b hD.2.2))
        · refine g_p t87_43 rfl ?_
          refine r_cv t87_44 (f3 hF) rfl ?_
          refine c52_3 (by exact hF) (by exact hD.2.2) ?_
          refine k_v ?_ rfl
          refine n_eq t87_47 (by omega) (fun h47 => ?_) (fun h47 => ?_)
          · refine g_p t87_60 rfl ?_
            refine r_cv t87_61 (f3 hF) rfl ?_
            refine c60_3 (by exact hF) hTR (by exact hD)  (fun s61 fr61 hD => ?_)
            have hF := hF.fr fr61.1
            have hf := hf.tr fr61.1
            have p4 := (fr61.2 4 (Or.inr (by decide))).trans p4
            have p5 := (fr61.2 5 (Or.inr (by decide))).trans p5
            have p6 := (fr61.2 6 (Or.inr (by decide))).trans p6
            have p7 := (fr61.2 7 (Or.inr (by decide))).trans p7
            refine k_v ?_ rfl
            first
              | (exfalso; omega)
              | exact i_ret t87_64 rfl (hq s61 (RS_b hD.2.2))
          · exact absurd hz h47
      · rw [if_neg hz] at he
        refine g_p t87_38 rfl ?_
        refine g_k (n := 3) t87_39 rfl rfl ?_
        refine n_cge t87_40 (by omega) (by omega) (fun h40 => ?_) (fun h40 => ?_)
        · first
            | (exfalso; omega)
            | exact absurd h47 hz
        · refine g_p t87_43 rfl ?_
          refine r_cv t87_44 (f3 hF) rfl ?_
          refine c52_3 (by exact hF) (by exact hD.2.2) ?_
          refine k_v ?_ rfl
          refine n_eq t87_47 (by omega) (fun h47 => ?_) (fun h47 => ?_)
          · first
              | (exfalso; omega)
              | exact absurd h47 hz
          · refine g_p t87_50 rfl ?_
            refine r_cv t87_51 (f3 hF) rfl ?_
            refine c88 (by exact hF) hTR (by exact hD) hb p5 p6 p7 (fun s51 fr51 q4 q5 q6 q7 hD => ?_)
            refine k_0 ?_
            refine g_incn (n := 1) t87_54 rfl rfl (Nat.le_of_ble_eq_true rfl) (am_s1_2 rfl) ?_
            refine g_goto t87_57 ?_
            have hb2 := sit_bd (t := t) (x := ((r, w, k), σ)) hb
            exact ih (i + 1) (by omega) _ _ _ _ s51 he hb2 (hF.fr fr51) (hf.tr fr51) (q4.trans p4) q5 q6 q7 hD
  refine en87 rfl rfl ?_
  refine g_p t87_0 rfl ?_
  refine g_p t87_1 rfl ?_
  refine r_cv t87_2 (f3 hF) rfl ?_
  refine c51_3 (by exact hF) hTR hX (fun s2 fr2 o2 hD => ?_)
  have hF := hF.fr fr2
  have hf : Fr [3] s s2 := fr2
  refine k_0 ?_
  refine g_p t87_5 rfl ?_
  refine g_k (n := 110) t87_6 rfl rfl ?_
  refine r_cv t87_8 (f3 hF) rfl ?_
  refine c56_3 (by exact hF) hTR (by exact hD) (w := 110) (by decide) (by decide) (fun s8 fr8 hD => ?_)
  have hF := hF.fr fr8.1
  have hf := hf.tr fr8.1
  refine k_0 ?_
  refine g_p t87_11 rfl ?_
  refine g_p t87_12 rfl ?_
  refine g_k (n := 2) t87_13 rfl rfl ?_
  refine g_k (n := 5) t87_14 rfl rfl ?_
  refine r_cv t87_15 (f3 hF) rfl ?_
  refine c57_3 (by exact hF) hTR (by exact hD) (lo := 2) (hi := 5) (by decide) (by decide) (fun s15 fr15 hD => ?_)
  have hF := hF.fr fr15.1
  have hf := hf.tr fr15.1
  refine k_v ?_ rfl
  refine r_puti t87_18 (f3 hF) rfl rfl ?_
  refine g_p t87_21 rfl ?_
  refine g_p t87_22 rfl ?_
  refine r_puti t87_23 (f3 hF) rfl rfl ?_
  refine g_p t87_26 rfl ?_
  refine g_p t87_27 rfl ?_
  refine r_puti t87_28 (f3 hF) rfl rfl ?_
  refine g_p t87_31 rfl ?_
  refine g_p t87_32 rfl ?_
  refine r_puti t87_33 (f3 hF) rfl rfl ?_
  refine g_k (n := 0) t87_36 rfl rfl ?_
  refine g_isn t87_37 (Nat.le_of_ble_eq_true rfl) (am_s1_2 rfl) ?_
  exact K 3 0 rfl none none none (pdg t 2 5 (sl0 t)) (wi (wi (wi (wi s15 3 4 (nI (pdv t 2 5 (sl0 t)))) 3 5 (-1)) 3 6 (-1)) 3 7 (-1)) rfl bd5_0 hF ((((hf.wi (by simp)).wi (by simp)).wi (by simp)).wi (by simp)) rfl rfl rfl rfl ((((hD.w3 hTR (by decide)).w3 hTR (by decide)).w3 hTR (by decide)).w3 hTR (by decide))
end Tc87_b
section Tc116_b
variable {X : am_X} {d : Nat} {s : mM} {hp : am_H} {Q : Option Value → am_H → Prop} {T n c w k lo hi : Nat} {t l : List Nat} {σ : Ps} {v : Int32}
theorem c116b (hF : Fx s) (hTR : T ≠ 12 ∧ T + 1 ≠ 12) (hT2 : T ≠ 13 ∧ T ≠ 14 ∧ T + 1 ≠ 13 ∧ T + 1 ≠ 14) (hX : TX T n t s) (hL : NL s 13 l) (hl8 : l.length ≤ 8) (hq : ∀ s', (∀ f, pfi t (wde t).2 = .inr f → f ≤ t.length) → Q (some (.int (pfv (pfi t (wde t).2)))) (mR s')) : gE X (d + 2) 116 [.ref 12, .ref T] (mR s) Q := by
  have nT : ∀ A : List Nat, (∀ x ∈ A, x = 13 ∨ x = 14) → 12 ∉ A ∧ T ∉ A ∧ T + 1 ∉ A := fun A hA => ⟨fun h => by rcases hA _ h with h | h <;> omega, fun h => by rcases hA _ h with h | h <;> omega, fun h => by rcases hA _ h with h | h <;> omega⟩
  have K : ∀ j i : Nat, i + j = 8 → ∀ l σ s', 1 ≤ i → wde t = wdl t j (l, σ) → l.length = i → Fx s' → Fr [12, 13, 14] s s' → NL s' 13 l → RD 12 T n t σ s' → gG X (d + 2) 116 27 [.ref 12, .ref T, .int (nI i)] [] (mR s') Q := by
    intro j
    induction j with
    | zero =>
      intro i hj l σ s' hi1 he hl hF hf hL hD
      have he : wde t = (l, σ) := he
      rw [he] at hq
      refine g_p t116_27 rfl ?_
      refine g_k (n := 8) t116_28 rfl rfl ?_
      refine n_cge t116_30 (by omega) (by omega) (fun h30 => ?_) (fun h30 => ?_)
      · refine g_p t116_58 rfl ?_
        refine r_cv t116_59 (f12 hF) rfl ?_
        refine c60_12 (by exact hF) hTR (by exact hD)  (fun s59 fr59 hD => ?_)
        have hF := hF.fr fr59.1
        have hf := hf.tr (fr59.1.mono (by decide))
        have hL := hL.fr fr59.1 (by decide) (by decide)
        refine k_v ?_ rfl
        exact i_ret t116_62 rfl (hq s59 (RS_b hD.2.2))
      · exfalso; omega
    | succ j ih =>
      intro i hj l σ s' hi1 he hl hF hf hL hD
      have hlt := psg_lt hD.1 σ
      unfold wdl at he
      by_cases hz : psg t σ = 0
      · rw [if_pos hz] at he
        rw [he] at hq
        refine g_p t116_27 rfl ?_
        refine g_k (n := 8) t116_28 rfl rfl ?_
        refine n_cge t116_30 (by omega) (by omega) (fun h30 => ?_) (fun h30 => ?_)
        · refine g_p t116_58 rfl ?_
          refine r_cv t116_59 (f12 hF) rfl ?_
          refine c60_12 (by exact hF) hTR (by exact hD)  (fun s59 fr59 hD => ?_)
          have hF := hF.fr fr59.1
          have hf := hf.tr (fr59.1.mono (by decide))
          have hL := hL.fr fr59.1 (by decide) (by decide)
          refine k_v ?_ rfl
          first
            | (exfalso; omega)
            | exact i_ret t116_62 rfl (hq s59 (RS_b hD.2.2))
        · refine g_p t116_33 rfl ?_
          refine r_cv t116_34 (f12 hF) rfl ?_
          refine c52_12 (by exact hF) (by exact hD.2.2) ?_
          refine k_v ?_ rfl
          refine n_eq t116_37 (by omega) (fun h37 => ?_) (fun h37 => ?_)
          · refine g_p t116_58 rfl ?_
            refine r_cv t116_59 (f12 hF) rfl ?_
            refine c60_12 (by exact hF) hTR (by exact hD)  (fun s59 fr59 hD => ?_)
            have hF := hF.fr fr59.1
            have hf := hf.tr (fr59.1.mono (by decide))
            have hL := hL.fr fr59.1 (by decide) (by decide)
            refine k_v ?_ rfl
            first
              | (exfalso; omega)
              | exact i_ret t116_62 rfl (hq s59 (RS_b hD.2.2))
          · exact absurd hz h37
      · rw [if_neg hz] at he
        refine g_p t116_27 rfl ?_
        refine g_k (n := 8) t116_28 rfl rfl ?_
        refine n_cge t116_30 (by omega) (by omega) (fun h30 => ?_) (fun h30 => ?_)
        · first
            | (exfalso; omega)
            | exact absurd h37 hz
        · refine g_p t116_33 rfl ?_
          refine r_cv t116_34 (f12 hF) rfl ?_
          refine c52_12 (by exact hF) (by exact hD.2.2) ?_
          refine k_v ?_ rfl
          refine n_eq t116_37 (by omega) (fun h37 => ?_) (fun h37 => ?_)
          · first
              | (exfalso; omega)
              | exact absurd h37 hz
          · refine g_p t116_40 rfl ?_
            refine r_getr t116_41 (f12 hF) rfl rfl ?_
            refine g_p t116_44 rfl ?_
            refine r_cv t116_45 (f12 hF) rfl ?_
            refine c58_12 (by exact hF) hTR (by exact hD)  (fun s45 fr45 hD => ?_)
            have hF := hF.fr fr45.1
            have hf := hf.tr (fr45.1.mono (by decide))
            have hL := hL.fr fr45.1 (by decide) (by decide)
            refine k_v ?_ rfl
            refine r_cv t116_48 (f13 hF) rfl ?_
            have hl7 : l.length < 8 := by omega
            refine c33L (by exact fN13 hF) (by exact hL) (by omega) (fun s48 fr48 hL => ?_)
            have hF := hF.fr fr48
            obtain ⟨a1, a2, a3⟩ := nT [13, 13 + 1] (by decide)
            have hD := hD.fr fr48 a1 a2 a3
            have hf := hf.tr (fr48.mono (by decide))
            refine k_v ?_ rfl
            refine g_p t116_51 rfl ?_
            refine g_incn (n := 1) t116_52 rfl rfl (Nat.le_of_ble_eq_true rfl) (am_s1_2 rfl) ?_
            refine g_goto t116_55 ?_
            exact ih (i + 1) (by omega) _ _ s48 (by omega) he (by rw [List.length_append]; exact congrArg (· + 1) hl) hF hf hL hD
  refine en116 rfl rfl ?_
  refine g_p t116_0 rfl ?_
  refine g_p t116_1 rfl ?_
  refine r_cv t116_2 (f12 hF) rfl ?_
  refine c51_12 (by exact hF) hTR hX (fun s2 fr2 o2 hD => ?_)
  have hF := hF.fr fr2
  have hf : Fr [12, 13, 14] s s2 := fr2.mono (by decide)
  have hL := hL.fr fr2 (by decide) (by decide)
  refine k_0 ?_
  refine g_p t116_5 rfl ?_
  refine r_getr t116_6 (f12 hF) rfl rfl ?_
  refine g_k (n := 0) t116_9 rfl rfl ?_
  refine r_cv t116_10 (f13 hF) rfl ?_
  refine c34L (by exact fN13 hF) (by exact hL) (Nat.zero_le _) (by omega) (fun s10 fr10 hL => ?_)
  have hF := hF.fr fr10
  obtain ⟨a1, a2, a3⟩ := nT [13] (by decide)
  have hD := hD.fr fr10 a1 a2 a3
  have hf := hf.tr (fr10.mono (by decide))
  have hL : NL s10 13 [] := hL
  refine k_0 ?_
  refine g_p t116_13 rfl ?_
  refine r_getr t116_14 (f12 hF) rfl rfl ?_
  refine g_p t116_17 rfl ?_
  refine r_cv t116_18 (f12 hF) rfl ?_
  refine c58_12 (by exact hF) hTR (by exact hD)  (fun s18 fr18 hD => ?_)
  have hF := hF.fr fr18.1
  have hf := hf.tr (fr18.1.mono (by decide))
  have hL := hL.fr fr18.1 (by decide) (by decide)
  refine k_v ?_ rfl
  refine r_cv t116_21 (f13 hF) rfl ?_
  refine c33L (by exact fN13 hF) (by exact hL) (by decide) (fun s21 fr21 hL => ?_)
  have hF := hF.fr fr21
  obtain ⟨a1, a2, a3⟩ := nT [13, 13 + 1] (by decide)
  have hD := hD.fr fr21 a1 a2 a3
  have hf := hf.tr (fr21.mono (by decide))
  refine k_v ?_ rfl
  refine g_p t116_24 rfl ?_
  refine g_k (n := 1) t116_25 rfl rfl ?_
  refine g_isn t116_26 (Nat.le_of_ble_eq_true rfl) (am_s1_2 rfl) ?_
  exact K 7 1 rfl _ _ s21 (Nat.le_refl _) rfl rfl hF hf hL hD
end Tc116_b
section Tc12_b
variable {X : am_X} {d : Nat} {s : mM} {hp : am_H} {Q : Option Value → am_H → Prop} {T n c w k lo hi : Nat} {t l : List Nat} {σ : Ps} {v : Int32}
theorem c12b (hF : Fx s) (hTR : T ≠ 4 ∧ T + 1 ≠ 4) (hT2 : ∀ x ∈ [5, 6, 7, 9], T ≠ x ∧ T + 1 ≠ x) (hX : TX T n t s) (hL : NL s 6 l) (hl : l.length ≤ 8) (hq : ∀ s', (∀ f, pfi t (bke t).2.2 = .inr f → f ≤ t.length) → Q (some (.int (pfv (pfi t (bke t).2.2)))) (mR s')) : gE X (d + 3) 12 [.ref 4, .ref T] (mR s) Q := by
  have nT : ∀ A : List Nat, (∀ x ∈ A, x ∈ [5, 6, 7, 9]) → 4 ∉ A ∧ T ∉ A ∧ T + 1 ∉ A := fun A hA => ⟨fun h => absurd (hA _ h) (by decide), fun h => (hT2 _ (hA _ h)).1 rfl, fun h => (hT2 _ (hA _ h)).2 rfl⟩
  have END : ∀ (i mo : Nat) cl wd σ s', bke t = (cl, wd, σ) → i = 8 ∨ mo = 0 → i ≤ 8 → Fx s' → Fr [4, 5, 6, 7, 9] s s' → DB cl s' → ri s' 5 3 = nI wd → RD 4 T n t σ s' → gG X (d + 3) 12 16 [.ref 4, .ref T, .int (nI mo), .int (nI i)] [] (mR s') Q := by
    intro i mo cl wd σ s' he hi hi8 hF hf hDB hw hD
    rw [he] at hq
    rcases hi with hi | hi
    · subst hi
      refine g_p t12_16 rfl ?_
      refine g_k (n := 8) t12_17 rfl rfl ?_
      refine n_cge t12_19 (by omega) (by omega) (fun h19 => ?_) (fun h19 => ?_)
      · refine g_p t12_58 rfl ?_
        refine r_cv t12_59 (f4 hF) rfl ?_
        refine c60_4 (by exact hF) hTR (by exact hD)  (fun s59 fr59 hD => ?_)
        have hF := hF.fr fr59.1
        have hf := hf.tr (fr59.1.mono (by decide))
        have hw := (fr59.1.ri (p := 5) (i := 3) (by decide)).trans hw
        have hDB := hDB.fr fr59.1 (by decide) (by decide) (by decide)
        refine k_v ?_ rfl
        exact i_ret t12_62 rfl (hq s59 (RS_b hD.2.2))
      · exfalso; omega
    · subst hi
      refine g_p t12_16 rfl ?_
      refine g_k (n := 8) t12_17 rfl rfl ?_
      refine n_cge t12_19 (by omega) (by omega) (fun h19 => ?_) (fun h19 => ?_)
      · refine g_p t12_58 rfl ?_
        refine r_cv t12_59 (f4 hF) rfl ?_
        refine c60_4 (by exact hF) hTR (by exact hD)  (fun s59 fr59 hD => ?_)
        have hF := hF.fr fr59.1
        have hf := hf.tr (fr59.1.mono (by decide))
        have hw := (fr59.1.ri (p := 5) (i := 3) (by decide)).trans hw
        have hDB := hDB.fr fr59.1 (by decide) (by decide) (by decide)
        refine k_v ?_ rfl
        exact i_ret t12_62 rfl (hq s59 (RS_b hD.2.2))
      · refine g_p t12_22 rfl ?_
        refine n_eq t12_23 (by omega) (fun h23 => ?_) (fun h23 => ?_)
        · refine g_p t12_58 rfl ?_
          refine r_cv t12_59 (f4 hF) rfl ?_
          refine c60_4 (by exact hF) hTR (by exact hD)  (fun s59 fr59 hD => ?_)
          have hF := hF.fr fr59.1
          have hf := hf.tr (fr59.1.mono (by decide))
          have hw := (fr59.1.ri (p := 5) (i := 3) (by decide)).trans hw
          have hDB := hDB.fr fr59.1 (by decide) (by decide) (by decide)
          refine k_v ?_ rfl
          exact i_ret t12_62 rfl (hq s59 (RS_b hD.2.2))
        · exact absurd rfl h23
  have K : ∀ (m i : Nat) cl wd σ s', bke t = bkl t m (cl, wd, σ) → 0 < m → i + m = 8 → cl.length = i → wd ≤ 5 → Fx s' → Fr [4, 5, 6, 7, 9] s s' → DB cl s' → ri s' 5 3 = nI wd → RD 4 T n t σ s' → gG X (d + 3) 12 16 [.ref 4, .ref T, .int (nI 1), .int (nI i)] [] (mR s') Q := by
    intro m
    induction m with
    | zero => intro i cl wd σ s' he hm; exact absurd hm (Nat.lt_irrefl _)
    | succ m ih =>
      intro i cl wd σ s' he hm hi hcl hwd hF hf hDB hw hD
      subst hcl
      have w5 := bcw_le (t := t) (fst := cl.isEmpty) (σ := σ) hwd
      unfold bkl at he
      by_cases hm0 : m = 0
      · rw [if_pos hm0] at he
        have he : bke t = (cl ++ [bce t cl.isEmpty wd σ], bcw t cl.isEmpty wd σ, bcp t cl.isEmpty wd σ) := he
        refine g_p t12_16 rfl ?_
        refine g_k (n := 8) t12_17 rfl rfl ?_
        refine n_cge t12_19 (by omega) (by omega) (fun h19 => ?_) (fun h19 => ?_)
        · first
            | (exfalso; omega)
            | exact absurd h23 (by decide)
        · refine g_p t12_22 rfl ?_
          refine n_eq t12_23 (by omega) (fun h23 => ?_) (fun h23 => ?_)
          · first
              | (exfalso; omega)
              | exact absurd h23 (by decide)
          · refine g_p t12_26 rfl ?_
            refine g_p t12_27 rfl ?_
            refine r_cv t12_28 (f4 hF) rfl ?_
            refine c13 (by exact hF) hTR hT2 (by exact hD) (by exact hDB) (by exact hw) hwd (by omega) (fun s28 fr28 hDB hw hD => ?_)
            have hF := hF.fr fr28
            have hf := hf.tr (fr28.mono (by decide))
            refine k_0 ?_
            refine g_p t12_31 rfl ?_
            refine g_k (n := 7) t12_32 rfl rfl ?_
            refine n_cge t12_34 (by omega) (by omega) (fun h34 => ?_) (fun h34 => ?_)
            · refine g_k (n := 0) t12_50 rfl rfl ?_
              refine g_isn t12_51 (Nat.le_of_ble_eq_true rfl) (am_s1_2 rfl) ?_
              refine g_incn (n := 1) t12_52 rfl rfl (Nat.le_of_ble_eq_true rfl) (am_s1_3 rfl) ?_
              refine g_goto t12_55 ?_
              exact END (cl.length + 1) 0 _ _ _ s28 he (Or.inr rfl) (by omega) hF hf hDB hw hD
            · exfalso; omega
      · rw [if_neg hm0] at he
        by_cases hz : psg t (bcp t cl.isEmpty wd σ) = 59
        · have he : bke t = bkl t m (cl ++ [bce t cl.isEmpty wd σ], bcw t cl.isEmpty wd σ, pst t (bcp t cl.isEmpty wd σ)) := he.trans (if_pos hz)
          refine g_p t12_16 rfl ?_
          refine g_k (n := 8) t12_17 rfl rfl ?_
          refine n_cge t12_19 (by omega) (by omega) (fun h19 => ?_) (fun h19 => ?_)
          · first
              | (exfalso; omega)
              | exact absurd h23 (by decide)
          · refine g_p t12_22 rfl ?_
            refine n_eq t12_23 (by omega) (fun h23 => ?_) (fun h23 => ?_)
            · first
                | (exfalso; omega)
                | exact absurd h23 (by decide)
            · refine g_p t12_26 rfl ?_
              refine g_p t12_27 rfl ?_
              refine r_cv t12_28 (f4 hF) rfl ?_
              refine c13 (by exact hF) hTR hT2 (by exact hD) (by exact hDB) (by exact hw) hwd (by omega) (fun s28 fr28 hDB hw hD => ?_)
              have hF := hF.fr fr28
              have hf := hf.tr (fr28.mono (by decide))
              refine k_0 ?_
              refine g_p t12_31 rfl ?_
              refine g_k (n := 7) t12_32 rfl rfl ?_
              refine n_cge t12_34 (by omega) (by omega) (fun h34 => ?_) (fun h34 => ?_)
              · first
                  | (exfalso; omega)
                  | exact absurd hz (by simpa using h43)
              · refine g_p t12_37 rfl ?_
                refine g_k (n := 59) t12_38 rfl rfl ?_
                refine r_cv t12_40 (f4 hF) rfl ?_
                refine c55_4 (by exact hF) hTR (by exact hD) (w := 59) (by decide) (by decide) (fun s40 fr40 hD => ?_)
                have hF := hF.fr fr40.1
                have hf := hf.tr (fr40.1.mono (by decide))
                have hw := (fr40.1.ri (p := 5) (i := 3) (by decide)).trans hw
                have hDB := hDB.fr fr40.1 (by decide) (by decide) (by decide)
                refine k_v ?_ rfl
                refine b_eq t12_43 (fun h43 => ?_) (fun h43 => ?_)
                · first
                    | (exfalso; omega)
                    | exact absurd hz (by simpa using h43)
                · refine g_k (n := 1) t12_46 rfl rfl ?_
                  refine g_goto t12_47 ?_
                  refine g_isn t12_51 (Nat.le_of_ble_eq_true rfl) (am_s1_2 rfl) ?_
                  refine g_incn (n := 1) t12_52 rfl rfl (Nat.le_of_ble_eq_true rfl) (am_s1_3 rfl) ?_
                  refine g_goto t12_55 ?_
                  have hD : RD 4 T n t (pst t (bcp t cl.isEmpty wd σ)) s40 := by
                    have e : psk t 59 (bcp t cl.isEmpty wd σ) = pst t (bcp t cl.isEmpty wd σ) := if_pos hz
                    rw [e] at hD; exact hD
                  exact ih (cl.length + 1) _ _ _ s40 he (by omega) (by omega) (by rw [List.length_append]; rfl) w5 hF hf hDB hw hD
        · have he : bke t = (cl ++ [bce t cl.isEmpty wd σ], bcw t cl.isEmpty wd σ, bcp t cl.isEmpty wd σ) := he.trans (if_neg hz)
          refine g_p t12_16 rfl ?_
          refine g_k (n := 8) t12_17 rfl rfl ?_
          refine n_cge t12_19 (by omega) (by omega) (fun h19 => ?_) (fun h19 => ?_)
          · first
              | (exfalso; omega)
              | exact absurd h23 (by decide)
          · refine g_p t12_22 rfl ?_
            refine n_eq t12_23 (by omega) (fun h23 => ?_) (fun h23 => ?_)
            · first
                | (exfalso; omega)
                | exact absurd h23 (by decide)
            · refine g_p t12_26 rfl ?_
              refine g_p t12_27 rfl ?_
              refine r_cv t12_28 (f4 hF) rfl ?_
              refine c13 (by exact hF) hTR hT2 (by exact hD) (by exact hDB) (by exact hw) hwd (by omega) (fun s28 fr28 hDB hw hD => ?_)
              have hF := hF.fr fr28
              have hf := hf.tr (fr28.mono (by decide))
              refine k_0 ?_
              refine g_p t12_31 rfl ?_
              refine g_k (n := 7) t12_32 rfl rfl ?_
              refine n_cge t12_34 (by omega) (by omega) (fun h34 => ?_) (fun h34 => ?_)
              · refine g_k (n := 0) t12_50 rfl rfl ?_
                refine g_isn t12_51 (Nat.le_of_ble_eq_true rfl) (am_s1_2 rfl) ?_
                refine g_incn (n := 1) t12_52 rfl rfl (Nat.le_of_ble_eq_true rfl) (am_s1_3 rfl) ?_
                refine g_goto t12_55 ?_
                first
                  | (exfalso; omega)
                  | (have e : psk t 59 (bcp t cl.isEmpty wd σ) = bcp t cl.isEmpty wd σ := if_neg hz
                     rw [e] at hD
                     exact END (cl.length + 1) 0 _ _ _ s40 he (Or.inr rfl) (by omega) hF hf hDB hw hD)
              · refine g_p t12_37 rfl ?_
                refine g_k (n := 59) t12_38 rfl rfl ?_
                refine r_cv t12_40 (f4 hF) rfl ?_
                refine c55_4 (by exact hF) hTR (by exact hD) (w := 59) (by decide) (by decide) (fun s40 fr40 hD => ?_)
                have hF := hF.fr fr40.1
                have hf := hf.tr (fr40.1.mono (by decide))
                have hw := (fr40.1.ri (p := 5) (i := 3) (by decide)).trans hw
                have hDB := hDB.fr fr40.1 (by decide) (by decide) (by decide)
                refine k_v ?_ rfl
                refine b_eq t12_43 (fun h43 => ?_) (fun h43 => ?_)
                · refine g_k (n := 0) t12_50 rfl rfl ?_
                  refine g_isn t12_51 (Nat.le_of_ble_eq_true rfl) (am_s1_2 rfl) ?_
                  refine g_incn (n := 1) t12_52 rfl rfl (Nat.le_of_ble_eq_true rfl) (am_s1_3 rfl) ?_
                  refine g_goto t12_55 ?_
                  first
                    | (exfalso; omega)
                    | (have e : psk t 59 (bcp t cl.isEmpty wd σ) = bcp t cl.isEmpty wd σ := if_neg hz
                       rw [e] at hD
                       exact END (cl.length + 1) 0 _ _ _ s40 he (Or.inr rfl) (by omega) hF hf hDB hw hD)
                · exact absurd (by simpa using h43) hz
  refine en12 rfl rfl ?_
  refine g_p t12_0 rfl ?_
  refine g_p t12_1 rfl ?_
  refine r_cv t12_2 (f4 hF) rfl ?_
  refine c51_4 (by exact hF) hTR hX (fun s2 fr2 o2 hD => ?_)
  have hF := hF.fr fr2
  have hf : Fr [4, 5, 6, 7, 9] s s2 := fr2.mono (by decide)
  have hL := hL.fr fr2 (by decide) (by decide)
  refine k_0 ?_
  refine g_p t12_5 rfl ?_
  refine r_getr t12_6 (f4 hF) rfl rfl ?_
  refine r_cv t12_9 (f5 hF) rfl ?_
  refine c1 (by exact hF) (by exact hL) hl (fun s9 fr9 hL hw => ?_)
  have hF := hF.fr fr9
  have hf := hf.tr (fr9.mono (by decide))
  obtain ⟨a1, a2, a3⟩ := nT [5, 6] (by decide)
  have hD := hD.fr fr9 a1 a2 a3
  refine k_0 ?_
  refine g_k (n := 1) t12_12 rfl rfl ?_
  refine g_isn t12_13 (Nat.le_of_ble_eq_true rfl) (am_s1_2 rfl) ?_
  refine g_k (n := 0) t12_14 rfl rfl ?_
  refine g_isn t12_15 (Nat.le_of_ble_eq_true rfl) (am_s1_3 rfl) ?_
  exact K 8 0 [] 0 _ s9 rfl (by decide) rfl rfl (Nat.zero_le _) hF hf ⟨hL, fun i hi => absurd hi (Nat.not_lt_zero i)⟩ hw hD
end Tc12_b
section Tc17_b
variable {X : am_X} {d : Nat} {s : mM} {hp : am_H} {Q : Option Value → am_H → Prop} {T n c w k lo hi : Nat} {t l : List Nat} {σ : Ps} {v : Int32}
theorem c17b (hTR : T ≠ 15 ∧ T + 1 ≠ 15) (hF : Fx s) (hX : TX T n t s) (hq : ∀ s', (∀ f, pfi t (lwo t fun _ => nI 0).2 = .inr f → f ≤ t.length) → Q (some (.int (pfv (pfi t (lwo t fun _ => nI 0).2)))) (mR s')) : gE X (d + 28) 17 [.ref 15, .ref T] (mR s) Q := by
  refine en17 rfl rfl ?_
  refine g_p t17_0 rfl ?_
  refine g_p t17_1 rfl ?_
  refine g_k (n := 0) t17_2 rfl rfl ?_
  refine g_k (n := 0) t17_3 rfl rfl ?_
  refine g_k (n := 0) t17_4 rfl rfl ?_
  refine g_k (n := 0) t17_5 rfl rfl ?_
  refine r_cv t17_6 (f15 hF) rfl ?_
  refine c18 (a := fun _ => nI 0) hTR (by exact hF) (by exact hX) (fun s6 fr6 hD => ?_)
  have hF := fr6.fx hF
  have hg : FR 15 s6 s6 := FR.rf
  refine k_v ?_ rfl
  refine g_p t17_9 rfl ?_
  refine g_p t17_10 rfl ?_
  refine r_cv t17_11 (f15 hF) rfl ?_
  refine c60_15 (by exact hF) hTR (by exact hD)  (fun s11 fr11 hD => ?_)
  have hF := hF.fr fr11.1
  have hg := hg.tr fr11
  refine k_v ?_ rfl
  exact i_ret t17_14 rfl (hq s11 (RS_b hD.2.2))
end Tc17_b
section TB_
variable {s : mM} {t l2 : List Nat}
theorem fb_0 (hF : Fx s) (hX : TX 1 120 t s) : ∀ f, pfi t (sle t).2 = .inr f → f ≤ t.length := by
  obtain ⟨_, _, _, _, h⟩ := (c87b (X := (0, fun _ => 0)) (d := 0) (Q := fun _ _ => ∀ f, pfi t (sle t).2 = .inr f → f ≤ t.length) hF (by decide) hX (fun s' h => h)).2
  exact h
theorem fb_1 (hF : Fx s) (hX : TX 1 120 t s) (hL : NL s 6 l2) (hl : l2.length ≤ 8) : ∀ f, pfi t (bke t).2.2 = .inr f → f ≤ t.length := by
  obtain ⟨_, _, _, _, h⟩ := (c12b (X := (0, fun _ => 0)) (d := 0) (Q := fun _ _ => ∀ f, pfi t (bke t).2.2 = .inr f → f ≤ t.length) hF (by decide) (by decide) hX hL hl (fun s' h => h)).2
  exact h
theorem fb_2 (hF : Fx s) (hX : TX 1 120 t s) (hL : NL s 13 l2) (hl : l2.length ≤ 8) : ∀ f, pfi t (wde t).2 = .inr f → f ≤ t.length := by
  obtain ⟨_, _, _, _, h⟩ := (c116b (X := (0, fun _ => 0)) (d := 0) (Q := fun _ _ => ∀ f, pfi t (wde t).2 = .inr f → f ≤ t.length) hF (by decide) (by decide) hX hL hl (fun s' h => h)).2
  exact h
theorem fb_3 (hF : Fx s) (hX : TX 1 120 t s) : ∀ f, pfi t (lwo t fun _ => nI 0).2 = .inr f → f ≤ t.length := by
  obtain ⟨_, _, _, _, h⟩ := (c17b (X := (0, fun _ => 0)) (d := 0) (Q := fun _ _ => ∀ f, pfi t (lwo t fun _ => nI 0).2 = .inr f → f ≤ t.length) (by decide) hF hX (fun s' h => h)).2
  exact h
theorem fb_ne {σ : Ps} (hb : ∀ f, σ = .inr f → f ≤ t.length) (h120 : t.length ≤ 120) (hno : ¬ ∃ p, σ = .inl p) : ¬ pfv σ = -1 := fun h => hno (pfv_m h (fun f e => by have := hb f e; omega))
end TB_
