/-! ROADS, 3: kept four bits each -/
def pn (s : mM) (n : Nat) : Nat := nib (ri s 60 (n / 8)) (n % 8)
def KP (P r w : Nat) (s : mM) : Prop := ∀ a, a < mn P → ri s 58 a = nI 0 ∨ (ri s 58 a = nI 1 ∧ ∀ x, x < mn P → pn s (a * 243 + x) = dst P r w 15 a x)
theorem KP.fr {A : List Nat} {P r w : Nat} {s s' : mM} (h : KP P r w s) (f : Fr A s s') (h1 : 58 ∉ A) (h2 : 60 ∉ A) : KP P r w s' := fun a ha => by
  unfold pn
  rw [f.ri h1]
  rcases h a ha with h3 | h3
  · exact Or.inl h3
  · exact Or.inr ⟨h3.1, fun x hx => by rw [f.ri h2]; exact h3.2 x hx⟩
theorem KP_0 {P r w : Nat} {s : mM} (hP5 : P ≤ 5) (h : ∀ a, a < 243 → ri s 58 a = nI 0) : KP P r w s := fun a ha => Or.inl (h a (by have := mn_le hP5; omega))
abbrev kA : List Nat := [54, 55, 56, 58, 60]
section RT
variable {X : am_X} {d : Nat} {s : mM} {Q : Option Value → am_H → Prop} {P r w a c t : Nat} {v : Int32}
theorem c68 (hF : Fx s) (hR : CR P s) (ha : a < mn P) {g : Nat → Nat} (hg : ∀ x, x < mn P → ri s 54 x = nI (g x) ∧ g x < 16) (hq : ∀ s', Fr [58, 60] s s' → ri s' 58 a = nI 1 → (∀ b, b ≠ a → ri s' 58 b = ri s 58 b) → (∀ x, x < mn P → pn s' (a * 243 + x) = g x) → (∀ n, n < a * 243 ∨ a * 243 + mn P ≤ n → pn s' n = pn s n) → Q none (mR s')) : gE X (d + 2) 68 [.ref 50, .int (nI a)] (mR s) Q := by
  have hm := mn_le hR.2.2.1
  have K : ∀ j x : Nat, x + j = mn P → ∀ s' z3 z4 z5, am_nl z3 = true → am_nl z4 = true → Fr [58, 60] s s' → ri s' 58 a = nI 1 → (∀ b, b ≠ a → ri s' 58 b = ri s 58 b) → (∀ y, y < x → pn s' (a * 243 + y) = g y) → (∀ n, n < a * 243 ∨ a * 243 + x ≤ n → pn s' n = pn s n) → gG X (d + 2) 68 11 [.ref 50, .int (nI a), .int (nI x), z3, z4, z5] [] (mR s') Q := by
    intro j
    induction j with
    | zero =>
      intro x hj s' z3 z4 z5 n3 n4 hf h58 hob hdo hot
      have hj : x = mn P := by omega
      subst hj
      have hF := hF.fr hf
      have hR := hR.fr hf (by decide)
      refine g_p t68_11 rfl ?_
      refine g_p t68_12 rfl ?_
      refine r_getr t68_13 (f50 hF) rfl rfl ?_
      refine r_cv t68_16 (f19 hF) rfl ?_
      refine c76 (by exact hF) hR.2.1 ?_
      refine k_v ?_ rfl
      refine n_cge t68_19 (by omega) (by omega) (fun h19 => ?_) (fun h19 => ?_)
      · exact v_ret t68_88 (hq _ hf h58 hob hdo hot)
      · exfalso; omega
    | succ j ih =>
      intro x hj s' z3 z4 z5 n3 n4 hf h58 hob hdo hot
      have hxm : x < mn P := by omega
      have hg1 := hg x hxm
      have hF := hF.fr hf
      have hR := hR.fr hf (by decide)
      have hfd := (hf.ri (p := 54) (i := x) (by decide)).trans hg1.1
      refine g_p t68_11 rfl ?_
      refine g_p t68_12 rfl ?_
      refine r_getr t68_13 (f50 hF) rfl rfl ?_
      refine r_cv t68_16 (f19 hF) rfl ?_
      refine c76 (by exact hF) hR.2.1 ?_
      refine k_v ?_ rfl
      refine n_cge t68_19 (by omega) (by omega) (fun h19 => ?_) (fun h19 => ?_)
      · exfalso; omega
      · refine g_p t68_22 rfl ?_
        refine g_k (n := 243) t68_23 rfl rfl ?_
        refine g_muln t68_26 ?_
        refine g_p t68_27 rfl ?_
        refine g_addn t68_28 ?_
        refine g_isn t68_29 (Nat.le_of_ble_eq_true rfl) (am_s1_3 rfl) ?_
        refine g_p t68_30 rfl ?_
        refine g_k (n := 7) t68_31 rfl rfl ?_
        refine g_iand t68_33 ?_
        rw [and7 (by omega)]
        refine g_k (n := 4) t68_34 rfl rfl ?_
        refine g_muln t68_35 ?_
        refine g_is t68_36 (Nat.le_of_ble_eq_true rfl) (am_s1_4 rfl) ?_
        refine g_p t68_38 rfl ?_
        refine r_getr t68_39 (f50 hF) rfl rfl ?_
        refine g_p t68_42 rfl ?_
        refine g_k (n := 3) t68_43 rfl rfl ?_
        refine g_ishr t68_44 ?_
        rw [shr3 (by omega)]
        refine r_cv t68_45 (f59 hF) rfl ?_
        refine c30 (by exact fN59 hF) (by omega) ?_
        refine k_v ?_ rfl
        refine g_k (n := 15) t68_48 rfl rfl ?_
        refine g_p t68_50 rfl ?_
        refine g_ishl t68_52 ?_
        refine g_p t68_53 rfl ?_
        refine g_ixor t68_54 ?_
        refine g_iand t68_55 ?_
        refine g_is t68_56 (Nat.le_of_ble_eq_true rfl) (am_s1_5 rfl) ?_
        refine g_p t68_58 rfl ?_
        refine r_getr t68_59 (f50 hF) rfl rfl ?_
        refine g_p t68_62 rfl ?_
        refine g_k (n := 3) t68_63 rfl rfl ?_
        refine g_ishr t68_64 ?_
        rw [shr3 (by omega)]
        refine g_p t68_65 rfl ?_
        refine g_p t68_67 rfl ?_
        refine r_getr t68_68 (f50 hF) rfl rfl ?_
        refine g_p t68_71 rfl ?_
        refine r_cv t68_72 (f53 hF) rfl ?_
        refine c30e (by exact fN53 hF) (by omega) hfd ?_
        refine k_v ?_ rfl
        refine g_p t68_75 rfl ?_
        refine g_ishl t68_77 ?_
        refine g_ior t68_78 ?_
        refine r_cv t68_79 (f59 hF) rfl ?_
        refine c31 (by exact fN59 hF) (by omega) ?_
        refine k_0 ?_
        refine g_incn (n := 1) t68_82 rfl rfl (Nat.le_of_ble_eq_true rfl) (am_s1_2 rfl) ?_
        refine g_goto t68_85 ?_
        have hnew : ∀ n, pn (wi s' 60 ((a * 243 + x) / 8) (setn (ri s' 60 ((a * 243 + x) / 8)) ((a * 243 + x) % 8) (nI (g x)))) n = if n = a * 243 + x then g x else pn s' n := by
          intro n
          unfold pn
          by_cases h8 : n / 8 = (a * 243 + x) / 8
          · rw [h8, ri_wi_eq, nib_set _ (by omega) hg1.2 (by omega)]
            by_cases h9 : n = a * 243 + x
            · rw [if_pos (by rw [h9]), if_pos h9]
            · rw [if_neg (by omega), if_neg h9]
          · rw [ri_wi_j h8, if_neg (by omega)]
        refine ih (x + 1) (by omega) _ _ _ _ rfl rfl (hf.wi (p := 60) (by simp)) h58 hob (fun y hy => ?_) (fun n hn => ?_)
        · refine (hnew _).trans ?_
          by_cases h9 : y = x
          · subst h9; rw [if_pos rfl]
          · rw [if_neg (by omega)]; exact hdo y (by omega)
        · refine (hnew _).trans ?_
          rw [if_neg (by omega)]; exact hot n (by omega)
  refine en68 rfl rfl ?_
  refine g_p t68_0 rfl ?_
  refine r_getr t68_1 (f50 hF) rfl rfl ?_
  refine g_p t68_4 rfl ?_
  refine g_k (n := 1) t68_5 rfl rfl ?_
  refine r_cv t68_6 (f57 hF) rfl ?_
  refine c31 (by exact fN57 hF) (by omega) ?_
  refine k_0 ?_
  refine g_k (n := 0) t68_9 rfl rfl ?_
  refine g_isn t68_10 (Nat.le_of_ble_eq_true rfl) (am_s1_2 rfl) ?_
  exact K (mn P) 0 (by omega) _ _ _ _ rfl rfl (Fr.rf.wi (by simp)) ri_wi_eq (fun b hb => ri_wi_j hb) (fun y hy => absurd hy (Nat.not_lt_zero y)) (fun n _ => rfl)
theorem c67 (hF : Fx s) (hR : CR P s) (e1 : ri s 32 1 = nI r) (e2 : ri s 32 2 = nI w) (hr5 : r ≤ 5) (hw5 : w ≤ 5) (hQ : CQ s) (hK : KP P r w s) (ha : a < mn P) (ht : t < mn P)
    (hq : ∀ s', Fr kA s s' → CQ s' → KP P r w s' → Q (some (.int (nI (dst P r w 15 a t)))) (mR s')) : gE X (d + 4) 67 [.ref 50, .int (nI a), .int (nI t)] (mR s) Q := by
  have hP5 := hR.2.2.1
  have hm := mn_le hP5
  have KN : ∀ s', Fr kA s s' → CQ s' → KP P r w s' → ri s' 58 a = nI 1 → gG X (d + 4) 67 22 [.ref 50, .int (nI a), .int (nI t), .float 0] [] (mR s') Q := by
    intro s' hf hQ hK h58
    have hF := hF.fr hf
    have hv : pn s' (a * 243 + t) = dst P r w 15 a t := by
      rcases hK a ha with h1 | h1
      · rw [h58] at h1; exact absurd h1 (by decide)
      · exact h1.2 t ht
    refine g_p t67_22 rfl ?_
    refine g_k (n := 243) t67_23 rfl rfl ?_
    refine g_muln t67_26 ?_
    refine g_p t67_27 rfl ?_
    refine g_addn t67_28 ?_
    refine g_isn t67_29 (Nat.le_of_ble_eq_true rfl) (am_s1_3 rfl) ?_
    refine g_p t67_30 rfl ?_
    refine r_getr t67_31 (f50 hF) rfl rfl ?_
    refine g_p t67_34 rfl ?_
    refine g_k (n := 3) t67_35 rfl rfl ?_
    refine g_ishr t67_36 ?_
    rw [shr3 (by omega)]
    refine r_cv t67_37 (f59 hF) rfl ?_
    refine c30 (by exact fN59 hF) (by omega) ?_
    refine k_v ?_ rfl
    refine g_p t67_40 rfl ?_
    refine g_k (n := 7) t67_41 rfl rfl ?_
    refine g_iand t67_43 ?_
    rw [and7 (by omega)]
    refine g_k (n := 4) t67_44 rfl rfl ?_
    refine g_muln t67_45 ?_
    refine g_iushr t67_46 ?_
    refine g_k (n := 15) t67_47 rfl rfl ?_
    refine g_iand t67_49 ?_
    refine i_ret t67_50 ?_ (hq _ hf hQ hK)
    rw [get_nib _ (by omega)]
    exact congrArg nI hv
  rcases hK a ha with hk | hk
  · cases hs : std P r w a
    · refine en67 rfl rfl rfl ?_
      refine g_p t67_0 rfl ?_
      refine r_getr t67_1 (f50 hF) rfl rfl ?_
      refine g_p t67_4 rfl ?_
      refine r_cv t67_5 (f57 hF) rfl ?_
      refine c30e (by exact fN57 hF) (by omega) hk ?_
      refine k_v ?_ rfl
      refine n_ne t67_8 (by omega) (fun h8 => ?_) (fun h8 => ?_)
      · first
          | exact absurd rfl h8
          | exact KN s19 ((fr14.mono (by decide)).tr (fr19.mono (by decide))) (hQ14.fr fr19 (by decide)) (fun b hb => by
              by_cases h9 : b = a
              · subst h9; exact Or.inr ⟨k19, n19⟩
              · rw [o19 b h9, fr14.ri (by decide)]
                rcases hK b hb with h7 | h7
                · exact Or.inl h7
                · refine Or.inr ⟨h7.1, fun x hx => ?_⟩
                  rw [m19 _ (by rcases Nat.lt_or_ge b a with h6 | h6 <;> omega)]
                  unfold pn
                  rw [fr14.ri (by decide)]
                  exact h7.2 x hx) k19
      · refine g_p t67_11 rfl ?_
        refine g_p t67_12 rfl ?_
        refine g_k (n := 0) t67_13 rfl rfl ?_
        refine r_cv t67_14 (f50 hF) rfl ?_
        refine c64n (b := false) (by exact hF) (by exact hR) (by exact e1) (by exact e2) hr5 hw5 ha hs (by exact hQ) (fun s14 fr14 d14 hQ14 => ?_)
        refine k_0 ?_
        have hF := Fx.fr (by exact hF) fr14
        refine g_p t67_17 rfl ?_
        refine g_p t67_18 rfl ?_
        refine r_cv t67_19 (f50 hF) rfl ?_
        have hR := hR.fr fr14 (by decide)
        refine c68 (by exact hF) (by exact hR) ha (g := fun x => dst P r w 15 a x) (fun x hx => ⟨by rw [dst_f (fun h => by rw [hs] at h; exact absurd h.1 (by decide))]; exact d14 x hx, Nat.lt_of_le_of_lt (dst_le hP5 (by decide)) (by decide)⟩) (fun s19 fr19 k19 o19 n19 m19 => ?_)
        refine k_0 ?_
        have hF := Fx.fr (by exact hF) fr19
        first
          | exact absurd rfl h8
          | exact KN s19 ((fr14.mono (by decide)).tr (fr19.mono (by decide))) (hQ14.fr fr19 (by decide)) (fun b hb => by
              by_cases h9 : b = a
              · subst h9; exact Or.inr ⟨k19, n19⟩
              · rw [o19 b h9, fr14.ri (by decide)]
                rcases hK b hb with h7 | h7
                · exact Or.inl h7
                · refine Or.inr ⟨h7.1, fun x hx => ?_⟩
                  rw [m19 _ (by rcases Nat.lt_or_ge b a with h6 | h6 <;> omega)]
                  unfold pn
                  rw [fr14.ri (by decide)]
                  exact h7.2 x hx) k19
    · refine en67 rfl rfl rfl ?_
      refine g_p t67_0 rfl ?_
      refine r_getr t67_1 (f50 hF) rfl rfl ?_
      refine g_p t67_4 rfl ?_
      refine r_cv t67_5 (f57 hF) rfl ?_
      refine c30e (by exact fN57 hF) (by omega) hk ?_
      refine k_v ?_ rfl
      refine n_ne t67_8 (by omega) (fun h8 => ?_) (fun h8 => ?_)
      · first
          | exact absurd rfl h8
          | exact KN s19 ((fr14.mono (by decide)).tr (fr19.mono (by decide))) (hQ14.fr fr19 (by decide)) (fun b hb => by
              by_cases h9 : b = a
              · subst h9; exact Or.inr ⟨k19, n19⟩
              · rw [o19 b h9, fr14.ri (by decide)]
                rcases hK b hb with h7 | h7
                · exact Or.inl h7
                · refine Or.inr ⟨h7.1, fun x hx => ?_⟩
                  rw [m19 _ (by rcases Nat.lt_or_ge b a with h6 | h6 <;> omega)]
                  unfold pn
                  rw [fr14.ri (by decide)]
                  exact h7.2 x hx) k19
      · refine g_p t67_11 rfl ?_
        refine g_p t67_12 rfl ?_
        refine g_k (n := 0) t67_13 rfl rfl ?_
        refine r_cv t67_14 (f50 hF) rfl ?_
        refine c64 (b := false) (L := fun _ _ => 0) (by exact hF) (by exact hR) (by exact e1) (by exact e2) hr5 hw5 (fun h => by cases h) hs (by exact hQ) (fun s14 fr14 d14 hQ14 => ?_)
        refine k_0 ?_
        have hF := Fx.fr (by exact hF) fr14
        refine g_p t67_17 rfl ?_
        refine g_p t67_18 rfl ?_
        refine r_cv t67_19 (f50 hF) rfl ?_
        have hR := hR.fr fr14 (by decide)
        refine c68 (by exact hF) (by exact hR) ha (g := fun x => dst P r w 15 a x) (fun x hx => ⟨by rw [dst_ds hs]; exact d14 x hx, Nat.lt_of_le_of_lt (dst_le hP5 (by decide)) (by decide)⟩) (fun s19 fr19 k19 o19 n19 m19 => ?_)
        refine k_0 ?_
        have hF := Fx.fr (by exact hF) fr19
        first
          | exact absurd rfl h8
          | exact KN s19 ((fr14.mono (by decide)).tr (fr19.mono (by decide))) (hQ14.fr fr19 (by decide)) (fun b hb => by
              by_cases h9 : b = a
              · subst h9; exact Or.inr ⟨k19, n19⟩
              · rw [o19 b h9, fr14.ri (by decide)]
                rcases hK b hb with h7 | h7
                · exact Or.inl h7
                · refine Or.inr ⟨h7.1, fun x hx => ?_⟩
                  rw [m19 _ (by rcases Nat.lt_or_ge b a with h6 | h6 <;> omega)]
                  unfold pn
                  rw [fr14.ri (by decide)]
                  exact h7.2 x hx) k19
  · have hk1 := hk.1
    refine en67 rfl rfl rfl ?_
    refine g_p t67_0 rfl ?_
    refine r_getr t67_1 (f50 hF) rfl rfl ?_
    refine g_p t67_4 rfl ?_
    refine r_cv t67_5 (f57 hF) rfl ?_
    refine c30e (by exact fN57 hF) (by omega) hk1 ?_
    refine k_v ?_ rfl
    refine n_ne t67_8 (by omega) (fun h8 => ?_) (fun h8 => ?_)
    · exact KN s Fr.rf hQ hK hk1
    · exact absurd h8 (by decide)
end RT
