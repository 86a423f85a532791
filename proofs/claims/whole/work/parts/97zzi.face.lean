/-! THE FACE: a sill begun, 2 -/
theorem AL.fr2 {A : List Nat} {s s' : mM} {a : Nat} {ps : List Nat} (h : AL s a ps) (f : Fr A s s') (h1 : a ∉ A) (hA : ∀ e, s.1 e = .inl (4, 10, .inr (.inr (.inr (.inr (fun _ => none))))) → e ∉ A) : AL s' a ps := by
  obtain ⟨q1, q2, q3, q4⟩ := h
  refine ⟨(f.ri h1).trans q1, q2, fun h => (f.ri h1).trans (q3 h), fun h => ?_⟩
  obtain ⟨e, r1, r2, r3, r4, r5⟩ := q4 h
  exact ⟨e, r1, r2, (f.ri h1).trans r3, by rw [f.1]; exact r4, fun k hk => ⟨(f.ri (hA e r4)).trans (r5 k hk).1, (r5 k hk).2⟩⟩
section TZI
variable {X : am_X} {d P : Nat} {s : mM} {hp : am_H} {Q : Option Value → am_H → Prop} {bks : List Bk} {bp : List Nat}
theorem c128b (hF : Fx s) (hR : CR P s) (hA : AL s 16 bp) (hl : bp.length = bks.length) (hb3 : bks.length ≤ 3) (hbk : ∀ k, k < bks.length → 114 ≤ bp.getD k 0 ∧ Bo s (bp.getD k 0) ∧ Bt (bks.getD k nk) (bp.getD k 0) s) (sep : ∀ i j, i < j → j < bks.length → bp.getD i 0 + 7 ≤ bp.getD j 0)
    (hq : ∀ s', Fr (bp.map (· + 6)) s s' → (∀ k, k < bks.length → Bs P (bks.getD k nk) (bp.getD k 0) s') → Q (some (.int (nI P))) (mR s')) : gG X (d + 5) 128 84 [.ref 0, .int (nI 0)] [] (mR s) Q := by
  have hP5 := hR.2.2.1
  have K : ∀ j i, i + j = bks.length → ∀ s', Fx s' → CR P s' → AL s' 16 bp → Fr (bp.map (· + 6)) s s' → (∀ k, k < bks.length → Bo s' (bp.getD k 0) ∧ Bt (bks.getD k nk) (bp.getD k 0) s') → (∀ k, k < i → Bs P (bks.getD k nk) (bp.getD k 0) s') → gG X (d + 5) 128 84 [.ref 0, .int (nI i)] [] (mR s') Q := by
    intro j
    induction j with
    | zero =>
      intro i hj s' hF hR hA hf hB hS
      have hi : i = bks.length := by omega
      subst hi
      refine g_p t128_84 rfl ?_
      refine g_p t128_85 rfl ?_
      refine r_getr t128_86 (f0 hF) rfl rfl ?_
      refine r_cv t128_89 (f16 hF) rfl ?_
      refine c278 (by exact f16 hF) (by exact hA) ?_
      refine k_v ?_ rfl
      refine n_cge t128_92 (by omega) (by omega) (fun h92 => ?_) (fun h92 => ?_)
      · refine g_p t128_119 rfl ?_
        refine r_getr t128_120 (f0 hF) rfl rfl ?_
        refine r_cv t128_123 (f19 hF) rfl ?_
        refine c74 (by exact hF) hR.1 ?_
        refine k_v ?_ rfl
        exact i_ret t128_126 rfl (hq s' hf hS)
      · exfalso; omega
    | succ j ih =>
      intro i hj s' hF hR hA hf hB hS
      have hi : i < bks.length := by omega
      obtain ⟨qB, qT⟩ := hB i hi
      have q114 := (hbk i hi).1
      have hne : ∀ e, s'.1 e = .inl (4, 10, .inr (.inr (.inr (.inr (fun _ => none))))) → e ∉ [bp.getD i 0 + 6] := fun e he h => by
        rw [List.mem_singleton] at h
        subst h
        have h6 : s'.1 (bp.getD i 0 + 6) = _ := qB.2.2.2.2.1
        rw [h6] at he
        cases he
      refine g_p t128_84 rfl ?_
      refine g_p t128_85 rfl ?_
      refine r_getr t128_86 (f0 hF) rfl rfl ?_
      refine r_cv t128_89 (f16 hF) rfl ?_
      refine c278 (by exact f16 hF) (by exact hA) ?_
      refine k_v ?_ rfl
      refine n_cge t128_92 (by omega) (by omega) (fun h92 => ?_) (fun h92 => ?_)
      · exfalso; omega
      · refine g_p t128_95 rfl ?_
        refine r_getr t128_96 (f0 hF) rfl rfl ?_
        refine g_p t128_99 rfl ?_
        refine r_cv t128_100 (f16 hF) rfl ?_
        refine c280 (by exact f16 hF) (by exact hA) (by omega) ?_
        refine k_v ?_ rfl
        refine r_chk t128_103 qB.1 rfl ?_
        refine g_p t128_106 rfl ?_
        refine r_getr t128_107 (f0 hF) rfl rfl ?_
        refine r_cv t128_110 qB.1 rfl ?_
        refine c7 (by exact hF) (by exact hR) (by exact qB) (by exact qT) ⟨by omega, fun x hx => by have := (by decide : ∀ x ∈ rA, x < 114) x hx; omega⟩ (fun s110 fr110 hS1 => ?_)
        refine k_0 ?_
        refine g_incn (n := 1) t128_113 rfl rfl (Nat.le_of_ble_eq_true rfl) (am_s1_1 rfl) ?_
        refine g_goto t128_116 ?_
        refine ih (i + 1) (by omega) s110 (hF.fr fr110) (hR.fr fr110 (fun x hx h => by rw [List.mem_singleton] at h; have := (by decide : ∀ x ∈ rA, x < 114) x hx; omega)) (hA.fr2 fr110 (by simp only [List.mem_singleton]; omega) hne) (hf.tr (fr110.mono (fun x hx => ?_))) (fun k hk => ?_) (fun k hk => ?_)
        · rw [List.mem_singleton] at hx
          subst hx
          refine List.mem_map.mpr ⟨bp.getD i 0, ?_, rfl⟩
          rw [List.getD, List.getElem?_eq_getElem (by omega)]
          exact List.getElem_mem _
        · obtain ⟨g1, g2⟩ := hB k hk
          have hs : bp.getD k 0 + 7 ≤ bp.getD i 0 ∨ k = i ∨ bp.getD i 0 + 7 ≤ bp.getD k 0 := by
            rcases Nat.lt_trichotomy k i with h | h | h
            · exact Or.inl (sep k i h hi)
            · exact Or.inr (Or.inl h)
            · exact Or.inr (Or.inr (sep i k h hk))
          have hs2 : bp.getD k 0 + 7 ≤ bp.getD i 0 ∨ bp.getD k 0 = bp.getD i 0 ∨ bp.getD i 0 + 7 ≤ bp.getD k 0 := by
            rcases hs with h | h | h
            · exact Or.inl h
            · exact Or.inr (Or.inl (by rw [h]))
            · exact Or.inr (Or.inr h)
          exact ⟨g1.fr fr110, g2.fr fr110 (by simp only [List.mem_singleton]; omega) (by simp only [List.mem_singleton]; omega) (by simp only [List.mem_singleton]; omega) (by simp only [List.mem_singleton]; omega)⟩
        · by_cases h : k = i
          · subst h; exact hS1
          · have h2 := sep k i (by omega) hi
            exact (hS k (by omega)).fr fr110 (by simp only [List.mem_singleton]; omega)
  exact K bks.length 0 (Nat.zero_add _) s hF hR hA Fr.rf (fun k hk => (hbk k hk).2) (fun k hk => absurd hk (Nat.not_lt_zero k))
end TZI
