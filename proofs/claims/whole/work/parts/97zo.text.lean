/-! TEXTS READ, 2: words and books -/
/-- signs of a clause: at most m more -/
def isP (c : Nat) : Bool := c == 46 || c == 114 || c == 119 || c == 63
def sgo (c : Nat) : Nat := if c = 46 then 0 else if c = 114 then 1 else if c = 119 then 2 else 3
def cls (t : List Nat) : Nat → List Nat × Ps → List Nat × Ps
  | 0, x => x
  | m + 1, x => if isP (psg t x.2) = true then cls t m (x.1 ++ [sgo (psg t x.2)], pst t x.2) else x
theorem sgo_asc {c : Nat} (h : isP c = true) : asc (sgo c) = c ∧ sgo c < 4 := by
  unfold isP at h
  rw [Bool.or_eq_true, Bool.or_eq_true, Bool.or_eq_true, beq_iff_eq, beq_iff_eq, beq_iff_eq, beq_iff_eq] at h
  rcases h with ((h | h) | h) | h <;> subst h <;> decide
section TO
variable {X : am_X} {d : Nat} {s : mM} {hp : am_H} {Q : Option Value → am_H → Prop} {T n c : Nat} {t l : List Nat} {σ : Ps} {v : Int32}
theorem c116 (hF : Fx s) (hTR : T ≠ 12 ∧ T + 1 ≠ 12) (hT2 : T ≠ 13 ∧ T ≠ 14 ∧ T + 1 ≠ 13 ∧ T + 1 ≠ 14) (hX : TX T n t s) (hL : NL s 13 l) (hl8 : l.length ≤ 8) (hq : ∀ s', Fr [12, 13, 14] s s' → NL s' 13 (wde t).1 → (wde t).1.length ≤ 8 → Q (some (.int (pfv (pfi t (wde t).2)))) (mR s')) : gE X (d + 2) 116 [.ref 12, .ref T] (mR s) Q := by
  have nT : ∀ A : List Nat, (∀ x ∈ A, x = 13 ∨ x = 14) → 12 ∉ A ∧ T ∉ A ∧ T + 1 ∉ A := fun A hA => ⟨fun h => by rcases hA _ h with h | h <;> omega, fun h => by rcases hA _ h with h | h <;> omega, fun h => by rcases hA _ h with h | h <;> omega⟩
  have K : ∀ j i : Nat, i + j = 8 → ∀ l σ s', 1 ≤ i → wde t = wdl t j (l, σ) → l.length = i → Fx s' → Fr [12, 13, 14] s s' → NL s' 13 l → RD 12 T n t σ s' → gG X (d + 2) 116 27 [.ref 12, .ref T, .int (nI i)] [] (mR s') Q := by
    intro j
    induction j with
    | zero =>
      intro i hj l σ s' hi1 he hl hF hf hL hD
      have he : wde t = (l, σ) := he
      rw [he] at hq
      refine g_p t116_27 rfl ?_
      refine g_k (n := 8) t116_28 rfl rfl ?_
      refine n_cge t116_30 (by omega) (by omega) (fun h30 => ?_) (fun h30 => ?_)
      · refine g_p t116_58 rfl ?_
        refine r_cv t116_59 (f12 hF) rfl ?_
        refine c60_12 (by exact hF) hTR (by exact hD)  (fun s59 fr59 hD => ?_)
        have hF := hF.fr fr59.1
        have hf := hf.tr (fr59.1.mono (by decide))
        have hL := hL.fr fr59.1 (by decide) (by decide)
        refine k_v ?_ rfl
        exact i_ret t116_62 rfl (hq s59 hf hL (by show l.length ≤ 8; omega))
      · exfalso; omega
    | succ j ih =>
      intro i hj l σ s' hi1 he hl hF hf hL hD
      have hlt := psg_lt hD.1 σ
      unfold wdl at he
      by_cases hz : psg t σ = 0
      · rw [if_pos hz] at he
        rw [he] at hq
        refine g_p t116_27 rfl ?_
        refine g_k (n := 8) t116_28 rfl rfl ?_
        refine n_cge t116_30 (by omega) (by omega) (fun h30 => ?_) (fun h30 => ?_)
        · refine g_p t116_58 rfl ?_
          refine r_cv t116_59 (f12 hF) rfl ?_
          refine c60_12 (by exact hF) hTR (by exact hD)  (fun s59 fr59 hD => ?_)
          have hF := hF.fr fr59.1
          have hf := hf.tr (fr59.1.mono (by decide))
          have hL := hL.fr fr59.1 (by decide) (by decide)
          refine k_v ?_ rfl
          first
            | (exfalso; omega)
            | exact i_ret t116_62 rfl (hq s59 hf hL (by show l.length ≤ 8; omega))
        · refine g_p t116_33 rfl ?_
          refine r_cv t116_34 (f12 hF) rfl ?_
          refine c52_12 (by exact hF) (by exact hD.2.2) ?_
          refine k_v ?_ rfl
          refine n_eq t116_37 (by omega) (fun h37 => ?_) (fun h37 => ?_)
          · refine g_p t116_58 rfl ?_
            refine r_cv t116_59 (f12 hF) rfl ?_
            refine c60_12 (by exact hF) hTR (by exact hD)  (fun s59 fr59 hD => ?_)
            have hF := hF.fr fr59.1
            have hf := hf.tr (fr59.1.mono (by decide))
            have hL := hL.fr fr59.1 (by decide) (by decide)
            refine k_v ?_ rfl
            first
              | (exfalso; omega)
              | exact i_ret t116_62 rfl (hq s59 hf hL (by show l.length ≤ 8; omega))
          · exact absurd hz h37
      · rw [if_neg hz] at he
        refine g_p t116_27 rfl ?_
        refine g_k (n := 8) t116_28 rfl rfl ?_
        refine n_cge t116_30 (by omega) (by omega) (fun h30 => ?_) (fun h30 => ?_)
        · first
            | (exfalso; omega)
            | exact absurd h37 hz
        · refine g_p t116_33 rfl ?_
          refine r_cv t116_34 (f12 hF) rfl ?_
          refine c52_12 (by exact hF) (by exact hD.2.2) ?_
          refine k_v ?_ rfl
          refine n_eq t116_37 (by omega) (fun h37 => ?_) (fun h37 => ?_)
          · first
              | (exfalso; omega)
              | exact absurd h37 hz
          · refine g_p t116_40 rfl ?_
            refine r_getr t116_41 (f12 hF) rfl rfl ?_
            refine g_p t116_44 rfl ?_
            refine r_cv t116_45 (f12 hF) rfl ?_
            refine c58_12 (by exact hF) hTR (by exact hD)  (fun s45 fr45 hD => ?_)
            have hF := hF.fr fr45.1
            have hf := hf.tr (fr45.1.mono (by decide))
            have hL := hL.fr fr45.1 (by decide) (by decide)
            refine k_v ?_ rfl
            refine r_cv t116_48 (f13 hF) rfl ?_
            have hl7 : l.length < 8 := by omega
            refine c33L (by exact fN13 hF) (by exact hL) (by omega) (fun s48 fr48 hL => ?_)
            have hF := hF.fr fr48
            obtain ⟨a1, a2, a3⟩ := nT [13, 13 + 1] (by decide)
            have hD := hD.fr fr48 a1 a2 a3
            have hf := hf.tr (fr48.mono (by decide))
            refine k_v ?_ rfl
            refine g_p t116_51 rfl ?_
            refine g_incn (n := 1) t116_52 rfl rfl (Nat.le_of_ble_eq_true rfl) (am_s1_2 rfl) ?_
            refine g_goto t116_55 ?_
            exact ih (i + 1) (by omega) _ _ s48 (by omega) he (by rw [List.length_append]; exact congrArg (· + 1) hl) hF hf hL hD
  refine en116 rfl rfl ?_
  refine g_p t116_0 rfl ?_
  refine g_p t116_1 rfl ?_
  refine r_cv t116_2 (f12 hF) rfl ?_
  refine c51_12 (by exact hF) hTR hX (fun s2 fr2 o2 hD => ?_)
  have hF := hF.fr fr2
  have hf : Fr [12, 13, 14] s s2 := fr2.mono (by decide)
  have hL := hL.fr fr2 (by decide) (by decide)
  refine k_0 ?_
  refine g_p t116_5 rfl ?_
  refine r_getr t116_6 (f12 hF) rfl rfl ?_
  refine g_k (n := 0) t116_9 rfl rfl ?_
  refine r_cv t116_10 (f13 hF) rfl ?_
  refine c34L (by exact fN13 hF) (by exact hL) (Nat.zero_le _) (by omega) (fun s10 fr10 hL => ?_)
  have hF := hF.fr fr10
  obtain ⟨a1, a2, a3⟩ := nT [13] (by decide)
  have hD := hD.fr fr10 a1 a2 a3
  have hf := hf.tr (fr10.mono (by decide))
  have hL : NL s10 13 [] := hL
  refine k_0 ?_
  refine g_p t116_13 rfl ?_
  refine r_getr t116_14 (f12 hF) rfl rfl ?_
  refine g_p t116_17 rfl ?_
  refine r_cv t116_18 (f12 hF) rfl ?_
  refine c58_12 (by exact hF) hTR (by exact hD)  (fun s18 fr18 hD => ?_)
  have hF := hF.fr fr18.1
  have hf := hf.tr (fr18.1.mono (by decide))
  have hL := hL.fr fr18.1 (by decide) (by decide)
  refine k_v ?_ rfl
  refine r_cv t116_21 (f13 hF) rfl ?_
  refine c33L (by exact fN13 hF) (by exact hL) (by decide) (fun s21 fr21 hL => ?_)
  have hF := hF.fr fr21
  obtain ⟨a1, a2, a3⟩ := nT [13, 13 + 1] (by decide)
  have hD := hD.fr fr21 a1 a2 a3
  have hf := hf.tr (fr21.mono (by decide))
  refine k_v ?_ rfl
  refine g_p t116_24 rfl ?_
  refine g_k (n := 1) t116_25 rfl rfl ?_
  refine g_isn t116_26 (Nat.le_of_ble_eq_true rfl) (am_s1_2 rfl) ?_
  exact K 7 1 rfl _ _ s21 (Nat.le_refl _) rfl rfl hF hf hL hD
end TO
