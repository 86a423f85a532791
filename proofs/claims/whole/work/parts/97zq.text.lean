/-! TEXTS READ, 4: whole books -/
theorem bcw_le {t : List Nat} {fst : Bool} {wd : Nat} {σ : Ps} (h : wd ≤ 5) : bcw t fst wd σ ≤ 5 := by
  unfold bcw
  split
  · rename_i h1
    have := cls_len (t := t) (if fst = true then 5 else wd) ([], pne t 61 (plt t σ))
    rw [if_pos h1] at this
    unfold bcg
    rw [if_pos h1]
    simp only [List.length_nil] at this
    omega
  · exact h
section TQ
variable {X : am_X} {d : Nat} {s : mM} {Q : Option Value → am_H → Prop} {T n : Nat} {t l : List Nat}
theorem c12 (hF : Fx s) (hTR : T ≠ 4 ∧ T + 1 ≠ 4) (hT2 : ∀ x ∈ [5, 6, 7, 9], T ≠ x ∧ T + 1 ≠ x) (hX : TX T n t s) (hL : NL s 6 l) (hl : l.length ≤ 8) (hq : ∀ s', Fr [4, 5, 6, 7, 9] s s' → DB (bke t).1 s' → ri s' 5 3 = nI (bke t).2.1 → Q (some (.int (pfv (pfi t (bke t).2.2)))) (mR s')) : gE X (d + 3) 12 [.ref 4, .ref T] (mR s) Q := by
  have nT : ∀ A : List Nat, (∀ x ∈ A, x ∈ [5, 6, 7, 9]) → 4 ∉ A ∧ T ∉ A ∧ T + 1 ∉ A := fun A hA => ⟨fun h => absurd (hA _ h) (by decide), fun h => (hT2 _ (hA _ h)).1 rfl, fun h => (hT2 _ (hA _ h)).2 rfl⟩
  have END : ∀ (i mo : Nat) cl wd σ s', bke t = (cl, wd, σ) → i = 8 ∨ mo = 0 → i ≤ 8 → Fx s' → Fr [4, 5, 6, 7, 9] s s' → DB cl s' → ri s' 5 3 = nI wd → RD 4 T n t σ s' → gG X (d + 3) 12 16 [.ref 4, .ref T, .int (nI mo), .int (nI i)] [] (mR s') Q := by
    intro i mo cl wd σ s' he hi hi8 hF hf hDB hw hD
    rw [he] at hq
    rcases hi with hi | hi
    · subst hi
      refine g_p t12_16 rfl ?_
      refine g_k (n := 8) t12_17 rfl rfl ?_
      refine n_cge t12_19 (by omega) (by omega) (fun h19 => ?_) (fun h19 => ?_)
      · refine g_p t12_58 rfl ?_
        refine r_cv t12_59 (f4 hF) rfl ?_
        refine c60_4 (by exact hF) hTR (by exact hD)  (fun s59 fr59 hD => ?_)
        have hF := hF.fr fr59.1
        have hf := hf.tr (fr59.1.mono (by decide))
        have hw := (fr59.1.ri (p := 5) (i := 3) (by decide)).trans hw
        have hDB := hDB.fr fr59.1 (by decide) (by decide) (by decide)
        refine k_v ?_ rfl
        exact i_ret t12_62 rfl (hq s59 hf hDB hw)
      · exfalso; omega
    · subst hi
      refine g_p t12_16 rfl ?_
      refine g_k (n := 8) t12_17 rfl rfl ?_
      refine n_cge t12_19 (by omega) (by omega) (fun h19 => ?_) (fun h19 => ?_)
      · refine g_p t12_58 rfl ?_
        refine r_cv t12_59 (f4 hF) rfl ?_
        refine c60_4 (by exact hF) hTR (by exact hD)  (fun s59 fr59 hD => ?_)
        have hF := hF.fr fr59.1
        have hf := hf.tr (fr59.1.mono (by decide))
        have hw := (fr59.1.ri (p := 5) (i := 3) (by decide)).trans hw
        have hDB := hDB.fr fr59.1 (by decide) (by decide) (by decide)
        refine k_v ?_ rfl
        exact i_ret t12_62 rfl (hq s59 hf hDB hw)
      · refine g_p t12_22 rfl ?_
        refine n_eq t12_23 (by omega) (fun h23 => ?_) (fun h23 => ?_)
        · refine g_p t12_58 rfl ?_
          refine r_cv t12_59 (f4 hF) rfl ?_
          refine c60_4 (by exact hF) hTR (by exact hD)  (fun s59 fr59 hD => ?_)
          have hF := hF.fr fr59.1
          have hf := hf.tr (fr59.1.mono (by decide))
          have hw := (fr59.1.ri (p := 5) (i := 3) (by decide)).trans hw
          have hDB := hDB.fr fr59.1 (by decide) (by decide) (by decide)
          refine k_v ?_ rfl
          exact i_ret t12_62 rfl (hq s59 hf hDB hw)
        · exact absurd rfl h23
  have K : ∀ (m i : Nat) cl wd σ s', bke t = bkl t m (cl, wd, σ) → 0 < m → i + m = 8 → cl.length = i → wd ≤ 5 → Fx s' → Fr [4, 5, 6, 7, 9] s s' → DB cl s' → ri s' 5 3 = nI wd → RD 4 T n t σ s' → gG X (d + 3) 12 16 [.ref 4, .ref T, .int (nI 1), .int (nI i)] [] (mR s') Q := by
    intro m
    induction m with
    | zero => intro i cl wd σ s' he hm; exact absurd hm (Nat.lt_irrefl _)
    | succ m ih =>
      intro i cl wd σ s' he hm hi hcl hwd hF hf hDB hw hD
      subst hcl
      have w5 := bcw_le (t := t) (fst := cl.isEmpty) (σ := σ) hwd
      unfold bkl at he
      by_cases hm0 : m = 0
      · rw [if_pos hm0] at he
        have he : bke t = (cl ++ [bce t cl.isEmpty wd σ], bcw t cl.isEmpty wd σ, bcp t cl.isEmpty wd σ) := he
        refine g_p t12_16 rfl ?_
        refine g_k (n := 8) t12_17 rfl rfl ?_
        refine n_cge t12_19 (by omega) (by omega) (fun h19 => ?_) (fun h19 => ?_)
        · first
            | (exfalso; omega)
            | exact absurd h23 (by decide)
        · refine g_p t12_22 rfl ?_
          refine n_eq t12_23 (by omega) (fun h23 => ?_) (fun h23 => ?_)
          · first
              | (exfalso; omega)
              | exact absurd h23 (by decide)
          · refine g_p t12_26 rfl ?_
            refine g_p t12_27 rfl ?_
            refine r_cv t12_28 (f4 hF) rfl ?_
            refine c13 (by exact hF) hTR hT2 (by exact hD) (by exact hDB) (by exact hw) hwd (by omega) (fun s28 fr28 hDB hw hD => ?_)
            have hF := hF.fr fr28
            have hf := hf.tr (fr28.mono (by decide))
            refine k_0 ?_
            refine g_p t12_31 rfl ?_
            refine g_k (n := 7) t12_32 rfl rfl ?_
            refine n_cge t12_34 (by omega) (by omega) (fun h34 => ?_) (fun h34 => ?_)
            · refine g_k (n := 0) t12_50 rfl rfl ?_
              refine g_isn t12_51 (Nat.le_of_ble_eq_true rfl) (am_s1_2 rfl) ?_
              refine g_incn (n := 1) t12_52 rfl rfl (Nat.le_of_ble_eq_true rfl) (am_s1_3 rfl) ?_
              refine g_goto t12_55 ?_
              exact END (cl.length + 1) 0 _ _ _ s28 he (Or.inr rfl) (by omega) hF hf hDB hw hD
            · exfalso; omega
      · rw [if_neg hm0] at he
        by_cases hz : psg t (bcp t cl.isEmpty wd σ) = 59
        · have he : bke t = bkl t m (cl ++ [bce t cl.isEmpty wd σ], bcw t cl.isEmpty wd σ, pst t (bcp t cl.isEmpty wd σ)) := he.trans (if_pos hz)
          refine g_p t12_16 rfl ?_
          refine g_k (n := 8) t12_17 rfl rfl ?_
          refine n_cge t12_19 (by omega) (by omega) (fun h19 => ?_) (fun h19 => ?_)
          · first
              | (exfalso; omega)
              | exact absurd h23 (by decide)
          · refine g_p t12_22 rfl ?_
            refine n_eq t12_23 (by omega) (fun h23 => ?_) (fun h23 => ?_)
            · first
                | (exfalso; omega)
                | exact absurd h23 (by decide)
            · refine g_p t12_26 rfl ?_
              refine g_p t12_27 rfl ?_
              refine r_cv t12_28 (f4 hF) rfl ?_
              refine c13 (by exact hF) hTR hT2 (by exact hD) (by exact hDB) (by exact hw) hwd (by omega) (fun s28 fr28 hDB hw hD => ?_)
              have hF := hF.fr fr28
              have hf := hf.tr (fr28.mono (by decide))
              refine k_0 ?_
              refine g_p t12_31 rfl ?_
              refine g_k (n := 7) t12_32 rfl rfl ?_
              refine n_cge t12_34 (by omega) (by omega) (fun h34 => ?_) (fun h34 => ?_)
              · first
                  | (exfalso; omega)
                  | exact absurd hz (by simpa using h43)
              · refine g_p t12_37 rfl ?_
                refine g_k (n := 59) t12_38 rfl rfl ?_
                refine r_cv t12_40 (f4 hF) rfl ?_
                refine c55_4 (by exact hF) hTR (by exact hD) (w := 59) (by decide) (by decide) (fun s40 fr40 hD => ?_)
                have hF := hF.fr fr40.1
                have hf := hf.tr (fr40.1.mono (by decide))
                have hw := (fr40.1.ri (p := 5) (i := 3) (by decide)).trans hw
                have hDB := hDB.fr fr40.1 (by decide) (by decide) (by decide)
                refine k_v ?_ rfl
                refine b_eq t12_43 (fun h43 => ?_) (fun h43 => ?_)
                · first
                    | (exfalso; omega)
                    | exact absurd hz (by simpa using h43)
                · refine g_k (n := 1) t12_46 rfl rfl ?_
                  refine g_goto t12_47 ?_
                  refine g_isn t12_51 (Nat.le_of_ble_eq_true rfl) (am_s1_2 rfl) ?_
                  refine g_incn (n := 1) t12_52 rfl rfl (Nat.le_of_ble_eq_true rfl) (am_s1_3 rfl) ?_
                  refine g_goto t12_55 ?_
                  have hD : RD 4 T n t (pst t (bcp t cl.isEmpty wd σ)) s40 := by
                    have e : psk t 59 (bcp t cl.isEmpty wd σ) = pst t (bcp t cl.isEmpty wd σ) := if_pos hz
                    rw [e] at hD; exact hD
                  exact ih (cl.length + 1) _ _ _ s40 he (by omega) (by omega) (by rw [List.length_append]; rfl) w5 hF hf hDB hw hD
        · have he : bke t = (cl ++ [bce t cl.isEmpty wd σ], bcw t cl.isEmpty wd σ, bcp t cl.isEmpty wd σ) := he.trans (if_neg hz)
          refine g_p t12_16 rfl ?_
          refine g_k (n := 8) t12_17 rfl rfl ?_
          refine n_cge t12_19 (by omega) (by omega) (fun h19 => ?_) (fun h19 => ?_)
          · first
              | (exfalso; omega)
              | exact absurd h23 (by decide)
          · refine g_p t12_22 rfl ?_
            refine n_eq t12_23 (by omega) (fun h23 => ?_) (fun h23 => ?_)
            · first
                | (exfalso; omega)
                | exact absurd h23 (by decide)
            · refine g_p t12_26 rfl ?_
              refine g_p t12_27 rfl ?_
              refine r_cv t12_28 (f4 hF) rfl ?_
              refine c13 (by exact hF) hTR hT2 (by exact hD) (by exact hDB) (by exact hw) hwd (by omega) (fun s28 fr28 hDB hw hD => ?_)
              have hF := hF.fr fr28
              have hf := hf.tr (fr28.mono (by decide))
              refine k_0 ?_
              refine g_p t12_31 rfl ?_
              refine g_k (n := 7) t12_32 rfl rfl ?_
              refine n_cge t12_34 (by omega) (by omega) (fun h34 => ?_) (fun h34 => ?_)
              · refine g_k (n := 0) t12_50 rfl rfl ?_
                refine g_isn t12_51 (Nat.le_of_ble_eq_true rfl) (am_s1_2 rfl) ?_
                refine g_incn (n := 1) t12_52 rfl rfl (Nat.le_of_ble_eq_true rfl) (am_s1_3 rfl) ?_
                refine g_goto t12_55 ?_
                first
                  | (exfalso; omega)
                  | (have e : psk t 59 (bcp t cl.isEmpty wd σ) = bcp t cl.isEmpty wd σ := if_neg hz
                     rw [e] at hD
                     exact END (cl.length + 1) 0 _ _ _ s40 he (Or.inr rfl) (by omega) hF hf hDB hw hD)
              · refine g_p t12_37 rfl ?_
                refine g_k (n := 59) t12_38 rfl rfl ?_
                refine r_cv t12_40 (f4 hF) rfl ?_
                refine c55_4 (by exact hF) hTR (by exact hD) (w := 59) (by decide) (by decide) (fun s40 fr40 hD => ?_)
                have hF := hF.fr fr40.1
                have hf := hf.tr (fr40.1.mono (by decide))
                have hw := (fr40.1.ri (p := 5) (i := 3) (by decide)).trans hw
                have hDB := hDB.fr fr40.1 (by decide) (by decide) (by decide)
                refine k_v ?_ rfl
                refine b_eq t12_43 (fun h43 => ?_) (fun h43 => ?_)
                · refine g_k (n := 0) t12_50 rfl rfl ?_
                  refine g_isn t12_51 (Nat.le_of_ble_eq_true rfl) (am_s1_2 rfl) ?_
                  refine g_incn (n := 1) t12_52 rfl rfl (Nat.le_of_ble_eq_true rfl) (am_s1_3 rfl) ?_
                  refine g_goto t12_55 ?_
                  first
                    | (exfalso; omega)
                    | (have e : psk t 59 (bcp t cl.isEmpty wd σ) = bcp t cl.isEmpty wd σ := if_neg hz
                       rw [e] at hD
                       exact END (cl.length + 1) 0 _ _ _ s40 he (Or.inr rfl) (by omega) hF hf hDB hw hD)
                · exact absurd (by simpa using h43) hz
  refine en12 rfl rfl ?_
  refine g_p t12_0 rfl ?_
  refine g_p t12_1 rfl ?_
  refine r_cv t12_2 (f4 hF) rfl ?_
  refine c51_4 (by exact hF) hTR hX (fun s2 fr2 o2 hD => ?_)
  have hF := hF.fr fr2
  have hf : Fr [4, 5, 6, 7, 9] s s2 := fr2.mono (by decide)
  have hL := hL.fr fr2 (by decide) (by decide)
  refine k_0 ?_
  refine g_p t12_5 rfl ?_
  refine r_getr t12_6 (f4 hF) rfl rfl ?_
  refine r_cv t12_9 (f5 hF) rfl ?_
  refine c1 (by exact hF) (by exact hL) hl (fun s9 fr9 hL hw => ?_)
  have hF := hF.fr fr9
  have hf := hf.tr (fr9.mono (by decide))
  obtain ⟨a1, a2, a3⟩ := nT [5, 6] (by decide)
  have hD := hD.fr fr9 a1 a2 a3
  refine k_0 ?_
  refine g_k (n := 1) t12_12 rfl rfl ?_
  refine g_isn t12_13 (Nat.le_of_ble_eq_true rfl) (am_s1_2 rfl) ?_
  refine g_k (n := 0) t12_14 rfl rfl ?_
  refine g_isn t12_15 (Nat.le_of_ble_eq_true rfl) (am_s1_3 rfl) ?_
  exact K 8 0 [] 0 _ s9 rfl (by decide) rfl rfl (Nat.zero_le _) hF hf ⟨hL, fun i hi => absurd hi (Nat.not_lt_zero i)⟩ hw hD
end TQ
