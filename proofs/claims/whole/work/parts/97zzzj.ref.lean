/-! THE REFERENCE, 27: words and books read -/
abbrev xB : List Nat := [5, 8, 9, 10, 11]
theorem wdl_r {t : List Nat} {l : List Nat} {q : Nat} : ∀ n, wdl t n (l, .inr q) = (l, .inr q) := by
  intro n
  cases n with
  | zero => rfl
  | succ n => unfold wdl; rw [if_pos (show psg t (Sum.inr q) = 0 from rfl)]
theorem cls_r {t : List Nat} {l : List Nat} {q : Nat} : ∀ n, cls t n (l, .inr q) = (l, .inr q) := by
  intro n
  cases n with
  | zero => rfl
  | succ n => unfold cls; rw [if_neg (show ¬ isP (psg t (Sum.inr q)) = true from (by show ¬ isP 0 = true; decide))]
section RJ
variable {X : am_X} {d : Nat} {s : mM} {hp : am_H} {Q : Option Value → am_H → Prop} {k n w : Nat} {t l : List Nat}
theorem c205 (hF : Fx s) (hT : MTp t s) (h120 : t.length ≤ 120) (hb : isB t) (hq : ∀ s', FM [91, 92] xB s s' → ((∀ i, i < 32 → ri s' 91 i = ri s 91 i) ∧ ∀ i, i < 4 → ri s' 92 i = ri s 92 i) → ri s' 80 11 = pfv (pfi t (wde t).2) → ((∃ p, pfi t (wde t).2 = .inl p) → ri s' 92 4 = nI (wde t).1.length ∧ ∀ k, k < (wde t).1.length → ri s' 91 (32 + k) = nI ((wde t).1.getD k 0)) → Q none (mR s')) : gE X (d + 3) 205 [.ref 80] (mR s) Q := by
  have e6 := hT.1
  obtain ⟨Z, hZ⟩ : ∃ Z, Z = wde t := ⟨_, rfl⟩
  rw [← hZ] at hq
  have END : ∀ (l : List Nat) (j : Nat) (s' : mM), l.length ≤ 8 → Fx s' → MT 81 120 0 t s' → FM [91, 92] xB s s' → ((∀ i, i < 32 → ri s' 91 i = ri s 91 i) ∧ ∀ i, i < 4 → ri s' 92 i = ri s 92 i) → (∀ k, k < l.length → ri s' 91 (32 + k) = nI (l.getD k 0)) → MJ t j s' → skp t j = j → (if l.length = 0 ∨ ¬ sgn t j = 0 then pfi t Z.2 = .inr j else Z = (l, .inl j)) → gG X (d + 3) 205 60 [.ref 80, .int (nI l.length)] [] (mR s') Q := by
    intro l j s' hl8 hF hX hf hk hw hJ hsp he
    have hS := hJ.m2 hsp
    have h11 := hJ.1
    have hsg := hX.sg j
    refine g_p t205_60 rfl ?_
    refine n_eq t205_61 (by omega) (fun h61 => ?_) (fun h61 => ?_)
    · refine g_p t205_72 rfl ?_
      refine r_cv t205_73 (f80 hF) rfl ?_
      refine c184 (by exact hF) hJ (fun s2 f2 hE => ?_)
      have hF := Fx.fr (by exact hF) f2.1
      have hf := hf.tr (f2.mono (by decide) (by decide))
      have hk := hk.imp (fun g i hi => (f2.g (p := 91) (i := i) (by decide)).trans (g i hi)) (fun g i hi => (f2.g (p := 92) (i := i) (by decide)).trans (g i hi))
      have hw : ∀ k, k < l.length → ri s2 91 (32 + k) = nI (l.getD k 0) := fun k h => (f2.g (by decide)).trans (hw k h)
      refine k_v ?_ rfl
      refine g_p t205_76 rfl ?_
      refine g_p t205_77 rfl ?_
      refine r_getr t205_78 (f80 hF) rfl rfl ?_
      refine g_k (n := 4) t205_81 rfl rfl ?_
      refine g_p t205_82 rfl ?_
      refine r_iast t205_83 (f92 hF) (by decide) (by omega) ?_
      first
        | (have u0 : ¬ lk (sgn t j) = -1 := h69
           have u1 : ¬ sgn t j = 0 := fun e => u0 ((lk_m hsg).mpr e)
           rw [if_pos (Or.inr u1)] at he
           refine v_ret t205_84 (hq _ (hf.w (by decide) (by decide)) ⟨fun i hi => (ri_wi_ne (by decide)).trans (hk.1 i hi), fun i hi => (ri_wi_j (by omega)).trans (hk.2 i hi)⟩ (by rw [he]; exact hE.1) (fun h => ?_))
           obtain ⟨p, hp⟩ := h
           rw [he] at hp; exact absurd hp (by simp))
        | (have u0 : lk (sgn t j) = -1 := h69
           have u1 : sgn t j = 0 := (lk_m hsg).mp u0
           rw [if_neg (by omega)] at he
           have e1 : pfi t Z.2 = .inl j := by rw [he]; exact if_pos u1
           refine v_ret t205_84 (hq _ (hf.w (by decide) (by decide)) ⟨fun i hi => (ri_wi_ne (by decide)).trans (hk.1 i hi), fun i hi => (ri_wi_j (by omega)).trans (hk.2 i hi)⟩ (by rw [e1]; exact h11) (fun _ => ?_))
           rw [he]
           exact ⟨ri_wi_eq, fun k hk9 => (ri_wi_ne (by decide)).trans (hw k hk9)⟩)
        | (have u0 : l.length = 0 := h61
           rw [if_pos (Or.inl u0)] at he
           refine v_ret t205_84 (hq _ (hf.w (by decide) (by decide)) ⟨fun i hi => (ri_wi_ne (by decide)).trans (hk.1 i hi), fun i hi => (ri_wi_j (by omega)).trans (hk.2 i hi)⟩ (by rw [he]; exact hE.1) (fun h => ?_))
           obtain ⟨p, hp⟩ := h
           rw [he] at hp; exact absurd hp (by simp))
    · refine g_p t205_64 rfl ?_
      refine r_cv t205_65 (f80 hF) rfl ?_
      refine c183 (by exact hF) (by exact hX) (by exact hS) (fun s65 f65 hJ => ?_)
      have hS := hJ.m2 hsp
      have e10 := hJ.2.2
      have h11 := hJ.1
      have hk := hk.imp (fun g i hi => (f65.g (p := 91) (i := i) (by decide)).trans (g i hi)) (fun g i hi => (f65.g (p := 92) (i := i) (by decide)).trans (g i hi))
      have hw : ∀ k, k < l.length → ri s65 91 (32 + k) = nI (l.getD k 0) := fun k h => (f65.g (by decide)).trans (hw k h)
      refine k_v ?_ rfl
      have hF := Fx.fr (by exact hF) f65.1
      have hX := MT.fm (by exact hX) f65 (by decide) (by decide) (by decide) (by decide) (by decide)
      have hf := hf.tr (f65.mono (by decide) (by decide))
      refine g_p t205_68 rfl ?_
      refine g_ceq t205_69 (fun h69 => ?_) (fun h69 => ?_)
      · refine g_p t205_77 rfl ?_
        refine r_getr t205_78 (f80 hF) rfl rfl ?_
        refine g_k (n := 4) t205_81 rfl rfl ?_
        refine g_p t205_82 rfl ?_
        refine r_iast t205_83 (f92 hF) (by decide) (by omega) ?_
        first
          | (have u0 : ¬ lk (sgn t j) = -1 := h69
             have u1 : ¬ sgn t j = 0 := fun e => u0 ((lk_m hsg).mpr e)
             rw [if_pos (Or.inr u1)] at he
             refine v_ret t205_84 (hq _ (hf.w (by decide) (by decide)) ⟨fun i hi => (ri_wi_ne (by decide)).trans (hk.1 i hi), fun i hi => (ri_wi_j (by omega)).trans (hk.2 i hi)⟩ (by rw [he]; exact hE.1) (fun h => ?_))
             obtain ⟨p, hp⟩ := h
             rw [he] at hp; exact absurd hp (by simp))
          | (have u0 : lk (sgn t j) = -1 := h69
             have u1 : sgn t j = 0 := (lk_m hsg).mp u0
             rw [if_neg (by omega)] at he
             have e1 : pfi t Z.2 = .inl j := by rw [he]; exact if_pos u1
             refine v_ret t205_84 (hq _ (hf.w (by decide) (by decide)) ⟨fun i hi => (ri_wi_ne (by decide)).trans (hk.1 i hi), fun i hi => (ri_wi_j (by omega)).trans (hk.2 i hi)⟩ (by rw [e1]; exact h11) (fun _ => ?_))
             rw [he]
             exact ⟨ri_wi_eq, fun k hk9 => (ri_wi_ne (by decide)).trans (hw k hk9)⟩)
          | (have u0 : l.length = 0 := h61
             rw [if_pos (Or.inl u0)] at he
             refine v_ret t205_84 (hq _ (hf.w (by decide) (by decide)) ⟨fun i hi => (ri_wi_ne (by decide)).trans (hk.1 i hi), fun i hi => (ri_wi_j (by omega)).trans (hk.2 i hi)⟩ (by rw [he]; exact hE.1) (fun h => ?_))
             obtain ⟨p, hp⟩ := h
             rw [he] at hp; exact absurd hp (by simp))
      · refine g_p t205_72 rfl ?_
        refine r_cv t205_73 (f80 hF) rfl ?_
        refine c184 (by exact hF) hJ (fun s2 f2 hE => ?_)
        have hF := Fx.fr (by exact hF) f2.1
        have hf := hf.tr (f2.mono (by decide) (by decide))
        have hk := hk.imp (fun g i hi => (f2.g (p := 91) (i := i) (by decide)).trans (g i hi)) (fun g i hi => (f2.g (p := 92) (i := i) (by decide)).trans (g i hi))
        have hw : ∀ k, k < l.length → ri s2 91 (32 + k) = nI (l.getD k 0) := fun k h => (f2.g (by decide)).trans (hw k h)
        refine k_v ?_ rfl
        refine g_p t205_76 rfl ?_
        refine g_p t205_77 rfl ?_
        refine r_getr t205_78 (f80 hF) rfl rfl ?_
        refine g_k (n := 4) t205_81 rfl rfl ?_
        refine g_p t205_82 rfl ?_
        refine r_iast t205_83 (f92 hF) (by decide) (by omega) ?_
        first
          | (have u0 : ¬ lk (sgn t j) = -1 := h69
             have u1 : ¬ sgn t j = 0 := fun e => u0 ((lk_m hsg).mpr e)
             rw [if_pos (Or.inr u1)] at he
             refine v_ret t205_84 (hq _ (hf.w (by decide) (by decide)) ⟨fun i hi => (ri_wi_ne (by decide)).trans (hk.1 i hi), fun i hi => (ri_wi_j (by omega)).trans (hk.2 i hi)⟩ (by rw [he]; exact hE.1) (fun h => ?_))
             obtain ⟨p, hp⟩ := h
             rw [he] at hp; exact absurd hp (by simp))
          | (have u0 : lk (sgn t j) = -1 := h69
             have u1 : sgn t j = 0 := (lk_m hsg).mp u0
             rw [if_neg (by omega)] at he
             have e1 : pfi t Z.2 = .inl j := by rw [he]; exact if_pos u1
             refine v_ret t205_84 (hq _ (hf.w (by decide) (by decide)) ⟨fun i hi => (ri_wi_ne (by decide)).trans (hk.1 i hi), fun i hi => (ri_wi_j (by omega)).trans (hk.2 i hi)⟩ (by rw [e1]; exact h11) (fun _ => ?_))
             rw [he]
             exact ⟨ri_wi_eq, fun k hk9 => (ri_wi_ne (by decide)).trans (hw k hk9)⟩)
          | (have u0 : l.length = 0 := h61
             rw [if_pos (Or.inl u0)] at he
             refine v_ret t205_84 (hq _ (hf.w (by decide) (by decide)) ⟨fun i hi => (ri_wi_ne (by decide)).trans (hk.1 i hi), fun i hi => (ri_wi_j (by omega)).trans (hk.2 i hi)⟩ (by rw [he]; exact hE.1) (fun h => ?_))
             obtain ⟨p, hp⟩ := h
             rw [he] at hp; exact absurd hp (by simp))
  have K : ∀ m (l : List Nat) (j : Nat) (s' : mM), l.length + m = 8 → (l.length = 0 → Z = wdl t 7 ([plv t (.inl j)], plt t (.inl j))) → (0 < l.length → Z = wdl t m (l, .inl j)) → Fx s' → MT 81 120 0 t s' → FM [91, 92] xB s s' → ((∀ i, i < 32 → ri s' 91 i = ri s 91 i) ∧ ∀ i, i < 4 → ri s' 92 i = ri s 92 i) → (∀ k, k < l.length → ri s' 91 (32 + k) = nI (l.getD k 0)) → MS t (.inl j) s' → gG X (d + 3) 205 15 [.ref 80, .int (nI l.length)] [] (mR s') Q := by
    intro m
    induction m with
    | zero =>
      intro l j s' hm he0 he hF hX hf hk hw hS
      have hsp := hS.sk
      have he : Z = (l, .inl j) := he (by omega)
      have hEE : (if l.length = 0 ∨ ¬ sgn t j = 0 then pfi t Z.2 = .inr j else Z = (l, .inl j)) := by
        by_cases h0 : sgn t j = 0
        · rw [if_neg (by omega)]; exact he
        · rw [if_pos (Or.inr h0), he]; exact if_neg h0
      refine g_p t205_15 rfl ?_
      refine r_cv t205_16 (f80 hF) rfl ?_
      refine c203 (by exact hF) (by exact hX) (by exact hS) (fun s16 f16 hJ => ?_)
      have hS := hJ.m2 hsp
      have e10 := hJ.2.2
      have h11 := hJ.1
      have hk := hk.imp (fun g i hi => (f16.g (p := 91) (i := i) (by decide)).trans (g i hi)) (fun g i hi => (f16.g (p := 92) (i := i) (by decide)).trans (g i hi))
      have hw : ∀ k, k < l.length → ri s16 91 (32 + k) = nI (l.getD k 0) := fun k h => (f16.g (by decide)).trans (hw k h)
      refine k_v ?_ rfl
      have hF := Fx.fr (by exact hF) f16.1
      have hX := MT.fm (by exact hX) f16 (by decide) (by decide) (by decide) (by decide) (by decide)
      have hf := hf.tr (f16.mono (by decide) (by decide))
      refine b_eq t205_19 (fun h19 => ?_) (fun h19 => ?_)
      · exact END l j s16 (by omega) hF hX hf hk hw hJ hsp hEE
      · refine g_p t205_22 rfl ?_
        refine g_k (n := 8) t205_23 rfl rfl ?_
        refine n_cge t205_25 (by omega) (by omega) (fun h25 => ?_) (fun h25 => ?_)
        · exact END l j s16 (by omega) hF hX hf hk hw hJ hsp hEE
        · exfalso; omega
    | succ m ih =>
      intro l j s' hm he0 he hF hX hf hk hw hS
      have hsp := hS.sk
      have hsg := hX.sg j
      by_cases hc : 97 ≤ sgn t j ∧ sgn t j ≤ 104
      · have hjl : j < t.length := sgn_pos (by omega)
        have hpl : plv t (.inl j) = sgn t j - 97 := if_pos hc
        have hpt : plt t (.inl j) = .inl (skp t (j + 1)) := if_pos hc
        have he2 : Z = wdl t m (l ++ [sgn t j - 97], .inl (skp t (j + 1))) := by
          by_cases h0 : l.length = 0
          · rw [he0 h0, hpl, hpt, List.length_eq_zero_iff.mp h0, show m = 7 by omega]; rfl
          · rw [he (by omega), wdl, if_neg (show ¬ psg t (Sum.inl j) = 0 from by show ¬ sgn t j = 0; omega), hpl, hpt]
        refine g_p t205_15 rfl ?_
        refine r_cv t205_16 (f80 hF) rfl ?_
        refine c203 (by exact hF) (by exact hX) (by exact hS) (fun s16 f16 hJ => ?_)
        have hS := hJ.m2 hsp
        have e10 := hJ.2.2
        have h11 := hJ.1
        have hk := hk.imp (fun g i hi => (f16.g (p := 91) (i := i) (by decide)).trans (g i hi)) (fun g i hi => (f16.g (p := 92) (i := i) (by decide)).trans (g i hi))
        have hw : ∀ k, k < l.length → ri s16 91 (32 + k) = nI (l.getD k 0) := fun k h => (f16.g (by decide)).trans (hw k h)
        refine k_v ?_ rfl
        have hF := Fx.fr (by exact hF) f16.1
        have hX := MT.fm (by exact hX) f16 (by decide) (by decide) (by decide) (by decide) (by decide)
        have hf := hf.tr (f16.mono (by decide) (by decide))
        refine b_eq t205_19 (fun h19 => ?_) (fun h19 => ?_)
        · first
            | (have u0 := h19
               exact absurd hc (of_decide_eq_false u0))
            | (exfalso; omega)
        · refine g_p t205_22 rfl ?_
          refine g_k (n := 8) t205_23 rfl rfl ?_
          refine n_cge t205_25 (by omega) (by omega) (fun h25 => ?_) (fun h25 => ?_)
          · first
              | (have u0 := h19
                 exact absurd hc (of_decide_eq_false u0))
              | (exfalso; omega)
          · refine g_p t205_28 rfl ?_
            refine r_getr t205_29 (f80 hF) rfl rfl ?_
            refine g_k (n := 32) t205_32 rfl rfl ?_
            refine g_p t205_34 rfl ?_
            refine g_addn t205_35 ?_
            refine g_p t205_36 rfl ?_
            refine r_cv t205_37 (f80 hF) rfl ?_
            refine c183 (by exact hF) (by exact hX) (by exact hS) (fun s37 f37 hJ => ?_)
            have hS := hJ.m2 hsp
            have e10 := hJ.2.2
            have h11 := hJ.1
            have hk := hk.imp (fun g i hi => (f37.g (p := 91) (i := i) (by decide)).trans (g i hi)) (fun g i hi => (f37.g (p := 92) (i := i) (by decide)).trans (g i hi))
            have hw : ∀ k, k < l.length → ri s37 91 (32 + k) = nI (l.getD k 0) := fun k h => (f37.g (by decide)).trans (hw k h)
            rw [show lk (sgn t j) = nI (sgn t j) from if_neg (by omega)]
            refine k_v ?_ rfl
            have hF := Fx.fr (by exact hF) f37.1
            have hX := MT.fm (by exact hX) f37 (by decide) (by decide) (by decide) (by decide) (by decide)
            have hf := hf.tr (f37.mono (by decide) (by decide))
            refine g_k (n := 97) t205_40 rfl rfl ?_
            refine g_subn t205_42 (by omega) ?_
            refine r_iast t205_43 (f91 hF) (by decide) (by omega) ?_
            refine g_incn (n := 1) t205_44 rfl rfl (Nat.le_of_ble_eq_true rfl) (am_s1_1 rfl) ?_
            refine g_p t205_47 rfl ?_
            refine g_p t205_48 rfl ?_
            refine r_gete t205_49 (f80 hF) rfl rfl e10 ?_
            refine g_k (n := 1) t205_52 rfl rfl ?_
            refine g_addn t205_53 ?_
            refine r_puti t205_54 (f80 hF) rfl rfl ?_
            refine g_goto t205_57 ?_
            have hX2 := MT.w8 (i := 10) (v := nI (j + 1)) (MT.fm (A := [91]) (B' := []) (by exact hX) (FM.rf.w (p := 91) (i := 32 + l.length) (v := nI (sgn t j - 97)) (by decide) (by decide)) (by decide) (by decide) (by decide) (by decide) (by decide)) (by decide) (by decide) (by decide)
            have hJ2 : MJ t (j + 1) (wi (wi s37 91 (32 + l.length) (nI (sgn t j - 97))) 80 10 (nI (j + 1))) := ⟨h11, hjl, rfl⟩
            have hgo := ih (l ++ [sgn t j - 97]) (skp t (j + 1)) _ (by rw [List.length_append, List.length_singleton]; omega) (fun h => absurd h (by rw [List.length_append, List.length_singleton]; omega)) (fun _ => he2) (Fx.fr (A := [91, 80]) hF ((Fr.rf.wi (by decide)).wi (by decide))) hX2 ((hf.w (by decide) (by decide)).m (by decide)) ⟨fun i hi => by rw [ri_wi_ne (by decide), ri_wi_j (by omega)]; exact hk.1 i hi, fun i hi => by rw [ri_wi_ne (by decide), ri_wi_ne (by decide)]; exact hk.2 i hi⟩ (fun k hk9 => by
              rw [List.length_append, List.length_singleton] at hk9
              rw [ri_wi_ne (by decide)]
              by_cases h9 : k < l.length
              · rw [gDa1 h9, ri_wi_j (by omega)]; exact hw k h9
              · have h9 : k = l.length := by omega
                subst h9
                rw [gDa2, ri_wi_eq]) hJ2.ms
            rw [List.length_append, List.length_singleton] at hgo
            exact hgo
      · have hpt : plt t (.inl j) = .inr j := if_neg hc
        have hEE : (if l.length = 0 ∨ ¬ sgn t j = 0 then pfi t Z.2 = .inr j else Z = (l, .inl j)) := by
          by_cases h0 : l.length = 0
          · rw [if_pos (Or.inl h0), he0 h0, hpt, wdl_r]; rfl
          · by_cases h1 : sgn t j = 0
            · rw [if_neg (by omega), he (by omega), wdl, if_pos (show psg t (Sum.inl j) = 0 from h1)]
            · rw [if_pos (Or.inr h1), he (by omega), wdl, if_neg (show ¬ psg t (Sum.inl j) = 0 from h1), hpt, wdl_r]; rfl
        refine g_p t205_15 rfl ?_
        refine r_cv t205_16 (f80 hF) rfl ?_
        refine c203 (by exact hF) (by exact hX) (by exact hS) (fun s16 f16 hJ => ?_)
        have hS := hJ.m2 hsp
        have e10 := hJ.2.2
        have h11 := hJ.1
        have hk := hk.imp (fun g i hi => (f16.g (p := 91) (i := i) (by decide)).trans (g i hi)) (fun g i hi => (f16.g (p := 92) (i := i) (by decide)).trans (g i hi))
        have hw : ∀ k, k < l.length → ri s16 91 (32 + k) = nI (l.getD k 0) := fun k h => (f16.g (by decide)).trans (hw k h)
        refine k_v ?_ rfl
        have hF := Fx.fr (by exact hF) f16.1
        have hX := MT.fm (by exact hX) f16 (by decide) (by decide) (by decide) (by decide) (by decide)
        have hf := hf.tr (f16.mono (by decide) (by decide))
        refine b_eq t205_19 (fun h19 => ?_) (fun h19 => ?_)
        · exact END l j s16 (by omega) hF hX hf hk hw hJ hsp hEE
        · exact absurd (of_decide_eq_true h19) hc
  refine en205 rfl ?_
  refine g_p t205_0 rfl ?_
  refine g_p t205_1 rfl ?_
  refine r_getr t205_2 (f80 hF) rfl rfl ?_
  refine g_k (n := 0) t205_5 rfl rfl ?_
  refine g_p t205_6 rfl ?_
  refine r_gete t205_7 (f80 hF) rfl rfl e6 ?_
  refine r_cv t205_10 (f80 hF) rfl ?_
  refine c198 (T := 81) (B := 0) (L := t.length) (by exact hF) (by decide) (fun s10 f10 o5 o8 o9 o10 o11 => ?_)
  have hF := hF.fr f10.1
  have hX : MT 81 120 0 t s10 := ⟨o5, o8, o9, (hT.ht (by assumption) h120 hb).fm f10 (by decide) (by decide)⟩
  have hJ : MJ t 0 s10 := ⟨o11, Nat.zero_le _, o10⟩
  refine k_0 ?_
  refine g_k (n := 0) t205_13 rfl rfl ?_
  refine g_isn t205_14 (Nat.le_of_ble_eq_true rfl) (am_s1_1 rfl) ?_
  exact K 8 [] (skp t 0) s10 rfl (fun _ => hZ) (fun h => absurd h (by decide)) hF hX (f10.mono (by decide) (by decide)) ⟨fun i _ => f10.g (by decide), fun i _ => f10.g (by decide)⟩ (fun k h => absurd h (Nat.not_lt_zero k)) hJ.ms
end RJ
