/-! THE FACE: texts tried, lights held -/
theorem bkl_len {t : List Nat} : ∀ (m : Nat) (x : Bl), (bkl t m x).1.length ≤ x.1.length + m := by
  intro m
  induction m with
  | zero => intro x; exact Nat.le_refl _
  | succ m ih =>
    intro x
    have h1 : (bkc1 t x).1.length = x.1.length + 1 := by unfold bkc1; rw [List.length_append]; rfl
    unfold bkl
    split
    · omega
    · split
      · have h2 : (bkl t m ((bkc1 t x).1, (bkc1 t x).2.1, pst t (bkc1 t x).2.2)).1.length ≤ (bkc1 t x).1.length + m := ih _
        omega
      · omega
theorem bke_len {t : List Nat} : (bke t).1.length ≤ 8 := by
  have := bkl_len (t := t) 8 ([], 0, .inl (skp t 0))
  unfold bke
  simpa using this
/-- lights kept -/
def CLt (lts : List (List Nat)) (lp : List Nat) (s : mM) : Prop := AL s 18 lp ∧ lp.length = lts.length ∧ ∀ k, k < lts.length → 114 ≤ lp.getD k 0 ∧ ∃ n, TX (lp.getD k 0) n (lts.getD k []) s
theorem CLt.fr {A : List Nat} {lts : List (List Nat)} {lp : List Nat} {s s' : mM} (h : CLt lts lp s) (f : Fr A s s') (h1 : 18 ∉ A) (hA : ∀ x ∈ A, x < 114) : CLt lts lp s' := by
  obtain ⟨q1, q2, q3⟩ := h
  refine ⟨q1.fr f h1 hA, q2, fun k hk => ?_⟩
  obtain ⟨r1, n, r2⟩ := q3 k hk
  exact ⟨r1, n, r2.fr f (nin hA r1) (nin hA (by omega))⟩
/-- the light held -/
def Hd (ho : Option (List Nat)) (s : mM) : Prop := match ho with
  | none => ri s 0 15 = nI 0
  | some t => ∃ T n, 114 ≤ T ∧ TX T n t s ∧ ri s 0 15 = nI (T + 2)
theorem Hd.fr {A : List Nat} {ho : Option (List Nat)} {s s' : mM} (h : Hd ho s) (f : Fr A s s') (h1 : 0 ∉ A) (hA : ∀ x ∈ A, x < 114) : Hd ho s' := by
  cases ho with
  | none => exact (f.ri h1).trans h
  | some t =>
    obtain ⟨T, n, q1, q2, q3⟩ := h
    exact ⟨T, n, q1, q2.fr f (nin hA q1) (nin hA (by omega)), (f.ri h1).trans q3⟩
section TW
variable {X : am_X} {d k P n : Nat} {s : mM} {hp : am_H} {Q : Option Value → am_H → Prop} {l l2 bp wp lp : List Nat} {x y : Int32} {lts : List (List Nat)} {ho : Option (List Nat)}
theorem c122_0 (hF : Fx s) (hX : TX 1 120 l s) (hq : ∀ s', Fr [3] s s' → ri s' 3 4 = nI (pdv l 2 5 (sl0 l)) → ri s' 3 5 = oI (sle l).1.1 → ri s' 3 6 = oI (sle l).1.2.1 → ri s' 3 7 = oI (sle l).1.2.2 → bd5 (sle l).1 → Q (some (.int (pfv (pfi l (sle l).2)))) (mR s')) : gE X (d + 4) 122 [.ref 0, .int (nI 0)] (mR s) Q := by
  refine en122 rfl rfl ?_
  refine g_p t122_0 rfl ?_
  refine g_p t122_1 rfl ?_
  refine r_cv t122_2 (f0 hF) rfl ?_
  refine c123_0 (by exact hF) ?_
  refine k_v ?_ rfl
  refine g_asn t122_5 rfl (Nat.le_of_ble_eq_true rfl) (am_s1_2 rfl) ?_
  refine g_p t122_6 rfl ?_
  refine g_b (b := true) t122_7 rfl ?_
  refine g_p t122_15 rfl ?_
  refine g_p t122_16 rfl ?_
  refine r_getr t122_17 (f0 hF) rfl rfl ?_
  refine r_cv t122_20 (f3 hF) rfl ?_
  refine c87 (by exact hF) (by decide) (by exact hX) (fun s20 fr20 q4 q5 q6 q7 hb => ?_)
  refine k_v ?_ rfl
  exact i_ret t122_23 rfl (hq s20 fr20 q4 q5 q6 q7 hb)
theorem c122_1 (hF : Fx s) (hX : TX 1 120 l s) (hL : NL s 6 l2) (hl : l2.length ≤ 8) (hq : ∀ s', Fr [4, 5, 6, 7, 9] s s' → DB (bke l).1 s' → ri s' 5 3 = nI (bke l).2.1 → Q (some (.int (pfv (pfi l (bke l).2.2)))) (mR s')) : gE X (d + 4) 122 [.ref 0, .int (nI 1)] (mR s) Q := by
  refine en122 rfl rfl ?_
  refine g_p t122_0 rfl ?_
  refine g_p t122_1 rfl ?_
  refine r_cv t122_2 (f0 hF) rfl ?_
  refine c123_1 (by exact hF) ?_
  refine k_v ?_ rfl
  refine g_asn t122_5 rfl (Nat.le_of_ble_eq_true rfl) (am_s1_2 rfl) ?_
  refine g_p t122_6 rfl ?_
  refine g_b (b := true) t122_7 rfl ?_
  refine g_p t122_15 rfl ?_
  refine g_p t122_16 rfl ?_
  refine r_getr t122_17 (f0 hF) rfl rfl ?_
  refine r_cv t122_20 (f4 hF) rfl ?_
  refine c12 (by exact hF) (by decide) (by decide) (by exact hX) (by exact hL) hl (fun s20 fr20 q4 q5 => ?_)
  refine k_v ?_ rfl
  exact i_ret t122_23 rfl (hq s20 fr20 q4 q5)
theorem c122_2 (hF : Fx s) (hX : TX 1 120 l s) (hL : NL s 13 l2) (hl : l2.length ≤ 8) (hq : ∀ s', Fr [12, 13, 14] s s' → NL s' 13 (wde l).1 → (wde l).1.length ≤ 8 → Q (some (.int (pfv (pfi l (wde l).2)))) (mR s')) : gE X (d + 4) 122 [.ref 0, .int (nI 2)] (mR s) Q := by
  refine en122 rfl rfl ?_
  refine g_p t122_0 rfl ?_
  refine g_p t122_1 rfl ?_
  refine r_cv t122_2 (f0 hF) rfl ?_
  refine c123_2 (by exact hF) ?_
  refine k_v ?_ rfl
  refine g_asn t122_5 rfl (Nat.le_of_ble_eq_true rfl) (am_s1_2 rfl) ?_
  refine g_p t122_6 rfl ?_
  refine g_b (b := true) t122_7 rfl ?_
  refine g_p t122_15 rfl ?_
  refine g_p t122_16 rfl ?_
  refine r_getr t122_17 (f0 hF) rfl rfl ?_
  refine r_cv t122_20 (f12 hF) rfl ?_
  refine c116 (by exact hF) (by decide) (by decide) (by exact hX) (by exact hL) hl (fun s20 fr20 q4 q5 => ?_)
  refine k_v ?_ rfl
  exact i_ret t122_23 rfl (hq s20 fr20 q4 q5)
theorem c122_3 (hF : Fx s) (hX : TX 1 120 l s) (hq : ∀ s', FL [15] [15] s s' → Q (some (.int (pfv (pfi l (lwo l fun _ => nI 0).2)))) (mR s')) : gE X (d + 29) 122 [.ref 0, .int (nI 3)] (mR s) Q := by
  refine en122 rfl rfl ?_
  refine g_p t122_0 rfl ?_
  refine g_p t122_1 rfl ?_
  refine r_cv t122_2 (f0 hF) rfl ?_
  refine c123_3 (by exact hF) ?_
  refine k_v ?_ rfl
  refine g_asn t122_5 rfl (Nat.le_of_ble_eq_true rfl) (am_s1_2 rfl) ?_
  refine g_p t122_6 rfl ?_
  refine g_b (b := true) t122_7 rfl ?_
  refine g_p t122_15 rfl ?_
  refine g_p t122_16 rfl ?_
  refine r_getr t122_17 (f0 hF) rfl rfl ?_
  refine r_cv t122_20 (f15 hF) rfl ?_
  refine c17 (by decide) (by exact hF) (by exact hX) (fun s20 fr20 => ?_)
  refine k_v ?_ rfl
  exact i_ret t122_23 rfl (hq s20 fr20)
theorem c122n (hF : Fx s) (hx : inN 4 x = false) (hq : Q (some (.int (-2))) (mR s)) : gE X (d + 1) 122 [.ref 0, .int x] (mR s) Q := by
  refine en122 rfl rfl ?_
  refine g_p t122_0 rfl ?_
  refine g_p t122_1 rfl ?_
  refine r_cv t122_2 (f0 hF) rfl ?_
  refine c123n (by exact hF) hx ?_
  refine k_v ?_ rfl
  refine g_asn t122_5 rfl (Nat.le_of_ble_eq_true rfl) (am_s1_2 rfl) ?_
  refine g_p t122_6 rfl ?_
  refine g_b (b := false) t122_7 rfl ?_
  refine g_p t122_10 rfl ?_
  refine g_goto t122_12 ?_
  exact i_ret t122_23 rfl hq
theorem c125 (hF : Fx s) (hb : AL s 16 bp) (hw : AL s 17 wp) (hl : AL s 18 lp) (hk : k < 4) (hq : Q (some (.int (bI (decide ((k = 1 ∧ 3 ≤ bp.length) ∨ (k = 2 ∧ 4 ≤ wp.length) ∨ (k = 3 ∧ 4 ≤ lp.length)))))) (mR s)) : gE X (d + 1) 125 [.ref 0, .int (nI k)] (mR s) Q := by
  have b4 := hb.2.1
  have w4 := hw.2.1
  have l4 := hl.2.1
  by_cases hf : (k = 1 ∧ 3 ≤ bp.length) ∨ (k = 2 ∧ 4 ≤ wp.length) ∨ (k = 3 ∧ 4 ≤ lp.length)
  · rw [decide_eq_true hf] at hq
    refine en125 rfl rfl ?_
    refine g_p t125_0 rfl ?_
    refine g_k (n := 1) t125_1 rfl rfl ?_
    refine n_cne t125_2 (by omega) (by omega) (fun h2 => ?_) (fun h2 => ?_)
    · refine g_p t125_16 rfl ?_
      refine g_k (n := 2) t125_17 rfl rfl ?_
      refine n_cne t125_18 (by omega) (by omega) (fun h18 => ?_) (fun h18 => ?_)
      · refine g_p t125_32 rfl ?_
        refine g_k (n := 3) t125_33 rfl rfl ?_
        refine n_cne t125_34 (by omega) (by omega) (fun h34 => ?_) (fun h34 => ?_)
        · exfalso; omega
        · refine g_p t125_37 rfl ?_
          refine r_getr t125_38 (f0 hF) rfl rfl ?_
          refine r_cv t125_41 (f18 hF) rfl ?_
          refine c278 (by exact f18 hF) hl ?_
          refine k_v ?_ rfl
          refine g_k (n := 4) t125_44 rfl rfl ?_
          refine n_clt t125_45 (by omega) (by omega) (fun h45 => ?_) (fun h45 => ?_)
          · exfalso; omega
          · refine g_k (n := 1) t125_48 rfl rfl ?_
            refine g_goto t125_49 ?_
            exact b_ret t125_53 rfl hq
      · refine g_p t125_21 rfl ?_
        refine r_getr t125_22 (f0 hF) rfl rfl ?_
        refine r_cv t125_25 (f17 hF) rfl ?_
        refine c278 (by exact f17 hF) hw ?_
        refine k_v ?_ rfl
        refine g_k (n := 4) t125_28 rfl rfl ?_
        refine n_cge t125_29 (by omega) (by omega) (fun h29 => ?_) (fun h29 => ?_)
        · refine g_k (n := 1) t125_48 rfl rfl ?_
          refine g_goto t125_49 ?_
          exact b_ret t125_53 rfl hq
        · refine g_p t125_32 rfl ?_
          refine g_k (n := 3) t125_33 rfl rfl ?_
          refine n_cne t125_34 (by omega) (by omega) (fun h34 => ?_) (fun h34 => ?_)
          · exfalso; omega
          · refine g_p t125_37 rfl ?_
            refine r_getr t125_38 (f0 hF) rfl rfl ?_
            refine r_cv t125_41 (f18 hF) rfl ?_
            refine c278 (by exact f18 hF) hl ?_
            refine k_v ?_ rfl
            refine g_k (n := 4) t125_44 rfl rfl ?_
            refine n_clt t125_45 (by omega) (by omega) (fun h45 => ?_) (fun h45 => ?_)
            · exfalso; omega
            · refine g_k (n := 1) t125_48 rfl rfl ?_
              refine g_goto t125_49 ?_
              exact b_ret t125_53 rfl hq
    · refine g_p t125_5 rfl ?_
      refine r_getr t125_6 (f0 hF) rfl rfl ?_
      refine r_cv t125_9 (f16 hF) rfl ?_
      refine c278 (by exact f16 hF) hb ?_
      refine k_v ?_ rfl
      refine g_k (n := 3) t125_12 rfl rfl ?_
      refine n_cge t125_13 (by omega) (by omega) (fun h13 => ?_) (fun h13 => ?_)
      · refine g_k (n := 1) t125_48 rfl rfl ?_
        refine g_goto t125_49 ?_
        exact b_ret t125_53 rfl hq
      · refine g_p t125_16 rfl ?_
        refine g_k (n := 2) t125_17 rfl rfl ?_
        refine n_cne t125_18 (by omega) (by omega) (fun h18 => ?_) (fun h18 => ?_)
        · refine g_p t125_32 rfl ?_
          refine g_k (n := 3) t125_33 rfl rfl ?_
          refine n_cne t125_34 (by omega) (by omega) (fun h34 => ?_) (fun h34 => ?_)
          · exfalso; omega
          · refine g_p t125_37 rfl ?_
            refine r_getr t125_38 (f0 hF) rfl rfl ?_
            refine r_cv t125_41 (f18 hF) rfl ?_
            refine c278 (by exact f18 hF) hl ?_
            refine k_v ?_ rfl
            refine g_k (n := 4) t125_44 rfl rfl ?_
            refine n_clt t125_45 (by omega) (by omega) (fun h45 => ?_) (fun h45 => ?_)
            · exfalso; omega
            · refine g_k (n := 1) t125_48 rfl rfl ?_
              refine g_goto t125_49 ?_
              exact b_ret t125_53 rfl hq
        · refine g_p t125_21 rfl ?_
          refine r_getr t125_22 (f0 hF) rfl rfl ?_
          refine r_cv t125_25 (f17 hF) rfl ?_
          refine c278 (by exact f17 hF) hw ?_
          refine k_v ?_ rfl
          refine g_k (n := 4) t125_28 rfl rfl ?_
          refine n_cge t125_29 (by omega) (by omega) (fun h29 => ?_) (fun h29 => ?_)
          · refine g_k (n := 1) t125_48 rfl rfl ?_
            refine g_goto t125_49 ?_
            exact b_ret t125_53 rfl hq
          · refine g_p t125_32 rfl ?_
            refine g_k (n := 3) t125_33 rfl rfl ?_
            refine n_cne t125_34 (by omega) (by omega) (fun h34 => ?_) (fun h34 => ?_)
            · exfalso; omega
            · refine g_p t125_37 rfl ?_
              refine r_getr t125_38 (f0 hF) rfl rfl ?_
              refine r_cv t125_41 (f18 hF) rfl ?_
              refine c278 (by exact f18 hF) hl ?_
              refine k_v ?_ rfl
              refine g_k (n := 4) t125_44 rfl rfl ?_
              refine n_clt t125_45 (by omega) (by omega) (fun h45 => ?_) (fun h45 => ?_)
              · exfalso; omega
              · refine g_k (n := 1) t125_48 rfl rfl ?_
                refine g_goto t125_49 ?_
                exact b_ret t125_53 rfl hq
  · rw [decide_eq_false hf] at hq
    refine en125 rfl rfl ?_
    refine g_p t125_0 rfl ?_
    refine g_k (n := 1) t125_1 rfl rfl ?_
    refine n_cne t125_2 (by omega) (by omega) (fun h2 => ?_) (fun h2 => ?_)
    · refine g_p t125_16 rfl ?_
      refine g_k (n := 2) t125_17 rfl rfl ?_
      refine n_cne t125_18 (by omega) (by omega) (fun h18 => ?_) (fun h18 => ?_)
      · refine g_p t125_32 rfl ?_
        refine g_k (n := 3) t125_33 rfl rfl ?_
        refine n_cne t125_34 (by omega) (by omega) (fun h34 => ?_) (fun h34 => ?_)
        · refine g_k (n := 0) t125_52 rfl rfl ?_
          exact b_ret t125_53 rfl hq
        · refine g_p t125_37 rfl ?_
          refine r_getr t125_38 (f0 hF) rfl rfl ?_
          refine r_cv t125_41 (f18 hF) rfl ?_
          refine c278 (by exact f18 hF) hl ?_
          refine k_v ?_ rfl
          refine g_k (n := 4) t125_44 rfl rfl ?_
          refine n_clt t125_45 (by omega) (by omega) (fun h45 => ?_) (fun h45 => ?_)
          · refine g_k (n := 0) t125_52 rfl rfl ?_
            exact b_ret t125_53 rfl hq
          · exfalso; omega
      · refine g_p t125_21 rfl ?_
        refine r_getr t125_22 (f0 hF) rfl rfl ?_
        refine r_cv t125_25 (f17 hF) rfl ?_
        refine c278 (by exact f17 hF) hw ?_
        refine k_v ?_ rfl
        refine g_k (n := 4) t125_28 rfl rfl ?_
        refine n_cge t125_29 (by omega) (by omega) (fun h29 => ?_) (fun h29 => ?_)
        · exfalso; omega
        · refine g_p t125_32 rfl ?_
          refine g_k (n := 3) t125_33 rfl rfl ?_
          refine n_cne t125_34 (by omega) (by omega) (fun h34 => ?_) (fun h34 => ?_)
          · refine g_k (n := 0) t125_52 rfl rfl ?_
            exact b_ret t125_53 rfl hq
          · refine g_p t125_37 rfl ?_
            refine r_getr t125_38 (f0 hF) rfl rfl ?_
            refine r_cv t125_41 (f18 hF) rfl ?_
            refine c278 (by exact f18 hF) hl ?_
            refine k_v ?_ rfl
            refine g_k (n := 4) t125_44 rfl rfl ?_
            refine n_clt t125_45 (by omega) (by omega) (fun h45 => ?_) (fun h45 => ?_)
            · refine g_k (n := 0) t125_52 rfl rfl ?_
              exact b_ret t125_53 rfl hq
            · exfalso; omega
    · refine g_p t125_5 rfl ?_
      refine r_getr t125_6 (f0 hF) rfl rfl ?_
      refine r_cv t125_9 (f16 hF) rfl ?_
      refine c278 (by exact f16 hF) hb ?_
      refine k_v ?_ rfl
      refine g_k (n := 3) t125_12 rfl rfl ?_
      refine n_cge t125_13 (by omega) (by omega) (fun h13 => ?_) (fun h13 => ?_)
      · exfalso; omega
      · refine g_p t125_16 rfl ?_
        refine g_k (n := 2) t125_17 rfl rfl ?_
        refine n_cne t125_18 (by omega) (by omega) (fun h18 => ?_) (fun h18 => ?_)
        · refine g_p t125_32 rfl ?_
          refine g_k (n := 3) t125_33 rfl rfl ?_
          refine n_cne t125_34 (by omega) (by omega) (fun h34 => ?_) (fun h34 => ?_)
          · refine g_k (n := 0) t125_52 rfl rfl ?_
            exact b_ret t125_53 rfl hq
          · refine g_p t125_37 rfl ?_
            refine r_getr t125_38 (f0 hF) rfl rfl ?_
            refine r_cv t125_41 (f18 hF) rfl ?_
            refine c278 (by exact f18 hF) hl ?_
            refine k_v ?_ rfl
            refine g_k (n := 4) t125_44 rfl rfl ?_
            refine n_clt t125_45 (by omega) (by omega) (fun h45 => ?_) (fun h45 => ?_)
            · refine g_k (n := 0) t125_52 rfl rfl ?_
              exact b_ret t125_53 rfl hq
            · exfalso; omega
        · refine g_p t125_21 rfl ?_
          refine r_getr t125_22 (f0 hF) rfl rfl ?_
          refine r_cv t125_25 (f17 hF) rfl ?_
          refine c278 (by exact f17 hF) hw ?_
          refine k_v ?_ rfl
          refine g_k (n := 4) t125_28 rfl rfl ?_
          refine n_cge t125_29 (by omega) (by omega) (fun h29 => ?_) (fun h29 => ?_)
          · exfalso; omega
          · refine g_p t125_32 rfl ?_
            refine g_k (n := 3) t125_33 rfl rfl ?_
            refine n_cne t125_34 (by omega) (by omega) (fun h34 => ?_) (fun h34 => ?_)
            · refine g_k (n := 0) t125_52 rfl rfl ?_
              exact b_ret t125_53 rfl hq
            · refine g_p t125_37 rfl ?_
              refine r_getr t125_38 (f0 hF) rfl rfl ?_
              refine r_cv t125_41 (f18 hF) rfl ?_
              refine c278 (by exact f18 hF) hl ?_
              refine k_v ?_ rfl
              refine g_k (n := 4) t125_44 rfl rfl ?_
              refine n_clt t125_45 (by omega) (by omega) (fun h45 => ?_) (fun h45 => ?_)
              · refine g_k (n := 0) t125_52 rfl rfl ?_
                exact b_ret t125_53 rfl hq
              · exfalso; omega
theorem c138t (hF : Fx s) (hP : ri s 19 0 = nI P) (hP5 : P ≤ 5) (hB : CLt lts lp s) (hP0 : 0 < P) (hk : k < lts.length) (hq : ∀ s', Fr [0] s s' → (∀ i, i ≠ 15 → ri s' 0 i = ri s 0 i) → Hd (some (lts.getD k [])) s' → Q (some (.int (bI true))) (mR s')) : gE X (d + 3) 138 [.ref 0, .int (nI k)] (mR s) Q := by
  obtain ⟨q1, q2, q3⟩ := hB
  have q5 := q1.2.1
  obtain ⟨r1, n, r2⟩ := q3 k hk
  refine en138 rfl rfl ?_
  refine g_p t138_0 rfl ?_
  refine r_cv t138_1 (f0 hF) rfl ?_
  refine c129 hF hP hP5 ?_
  refine k_v ?_ rfl
  refine b_eq t138_4 (fun h4 => ?_) (fun h4 => ?_)
  · first
      | (rw [decide_eq_true hP0] at h4; exact absurd h4 (by decide))
      | (have u0 : nI k < -1 := h9; exact absurd (Int32.lt_of_le_of_lt (nI_pos' (by omega)) u0) (by decide))
      | (exfalso; omega)
  · refine g_p t138_7 rfl ?_
    refine g_p t138_8 rfl ?_
    refine g_clt t138_9 (fun h9 => ?_) (fun h9 => ?_)
    · first
        | (rw [decide_eq_true hP0] at h4; exact absurd h4 (by decide))
        | (have u0 : nI k < -1 := h9; exact absurd (Int32.lt_of_le_of_lt (nI_pos' (by omega)) u0) (by decide))
        | (exfalso; omega)
    · refine g_p t138_12 rfl ?_
      refine g_p t138_13 rfl ?_
      refine r_getr t138_14 (f0 hF) rfl rfl ?_
      refine r_cv t138_17 (f18 hF) rfl ?_
      refine c278 (by exact f18 hF) q1 ?_
      refine k_v ?_ rfl
      refine n_clt t138_20 (by omega) (by omega) (fun h20 => ?_) (fun h20 => ?_)
      · refine g_p t138_25 rfl ?_
        refine g_p t138_26 rfl ?_
        refine n_lt t138_27 (by omega) ?_
        refine g_p t138_30 rfl ?_
        refine r_getr t138_31 (f0 hF) rfl rfl ?_
        refine g_p t138_34 rfl ?_
        refine r_cv t138_35 (f18 hF) rfl ?_
        refine c280 (by exact f18 hF) q1 (by omega) ?_
        refine k_v ?_ rfl
        refine r_chk t138_38 r2.1.1 rfl ?_
        refine g_goto t138_41 ?_
        refine r_putq (a := nI (lp.getD k 0 + 2)) t138_45 (f0 hF) rfl rfl (m_rq_r r2.2.2.2.2.1) ?_
        refine g_k (n := 1) t138_48 rfl rfl ?_
        exact b_ret t138_49 rfl (hq (wi s 0 15 (nI (lp.getD k 0 + 2))) (Fr.rf.wi (by simp)) (fun i hi => ri_wi_j hi) ⟨_, n, r1, r2.fr (Fr.rf.wi (A := [0]) (by simp)) (by simp only [List.mem_singleton]; omega) (by simp only [List.mem_singleton]; omega), ri_wi_eq⟩)
      · first
          | (rw [decide_eq_true hP0] at h4; exact absurd h4 (by decide))
          | (have u0 : nI k < -1 := h9; exact absurd (Int32.lt_of_le_of_lt (nI_pos' (by omega)) u0) (by decide))
          | (exfalso; omega)
theorem c138m (hF : Fx s) (hP : ri s 19 0 = nI P) (hP5 : P ≤ 5) (hB : CLt lts lp s) (hP0 : 0 < P) (hq : ∀ s', Fr [0] s s' → (∀ i, i ≠ 15 → ri s' 0 i = ri s 0 i) → Hd none s' → Q (some (.int (bI true))) (mR s')) : gE X (d + 3) 138 [.ref 0, .int (-1)] (mR s) Q := by
  obtain ⟨q1, q2, q3⟩ := hB
  have q5 := q1.2.1
  refine en138 rfl rfl ?_
  refine g_p t138_0 rfl ?_
  refine r_cv t138_1 (f0 hF) rfl ?_
  refine c129 hF hP hP5 ?_
  refine k_v ?_ rfl
  refine b_eq t138_4 (fun h4 => ?_) (fun h4 => ?_)
  · first
      | (rw [decide_eq_true hP0] at h4; exact absurd h4 (by decide))
      | (have u0 : (-1 : Int32) < -1 := h9; exact absurd u0 (by decide))
      | exact absurd l20 h20
  · refine g_p t138_7 rfl ?_
    refine g_p t138_8 rfl ?_
    refine g_clt t138_9 (fun h9 => ?_) (fun h9 => ?_)
    · first
        | (rw [decide_eq_true hP0] at h4; exact absurd h4 (by decide))
        | (have u0 : (-1 : Int32) < -1 := h9; exact absurd u0 (by decide))
        | exact absurd l20 h20
    · refine g_p t138_12 rfl ?_
      refine g_p t138_13 rfl ?_
      refine r_getr t138_14 (f0 hF) rfl rfl ?_
      refine r_cv t138_17 (f18 hF) rfl ?_
      refine c278 (by exact f18 hF) q1 ?_
      refine k_v ?_ rfl
      have l20 : (-1 : Int32) < nI lp.length := Int32.lt_of_lt_of_le (by decide) (nI_pos' (by omega))
      refine g_clt t138_20 (fun h20 => ?_) (fun h20 => ?_)
      · refine g_p t138_25 rfl ?_
        refine g_p t138_26 rfl ?_
        refine g_lt t138_27 (fun h27 => ?_) (fun h27 => ?_)
        · refine g_p t138_44 rfl ?_
          refine r_putq (a := nI 0) t138_45 (f0 hF) rfl rfl rfl ?_
          refine g_k (n := 1) t138_48 rfl rfl ?_
          exact b_ret t138_49 rfl (hq (wi s 0 15 (nI 0)) (Fr.rf.wi (by simp)) (fun i hi => ri_wi_j hi) ri_wi_eq)
        · exact absurd (show (-1 : Int32) < 0 by decide) h27
      · first
          | (rw [decide_eq_true hP0] at h4; exact absurd h4 (by decide))
          | (have u0 : (-1 : Int32) < -1 := h9; exact absurd u0 (by decide))
          | exact absurd l20 h20
theorem c138f (hF : Fx s) (hP : ri s 19 0 = nI P) (hP5 : P ≤ 5) (hB : CLt lts lp s) (hx : ¬ (0 < P ∧ (x = -1 ∨ inN lts.length x = true))) (hq : Q (some (.int (bI false))) (mR s)) : gE X (d + 3) 138 [.ref 0, .int x] (mR s) Q := by
  obtain ⟨q1, q2, q3⟩ := hB
  have q5 := q1.2.1
  refine en138 rfl rfl ?_
  refine g_p t138_0 rfl ?_
  refine r_cv t138_1 (f0 hF) rfl ?_
  refine c129 hF hP hP5 ?_
  refine k_v ?_ rfl
  refine b_eq t138_4 (fun h4 => ?_) (fun h4 => ?_)
  · refine g_k (n := 0) t138_23 rfl rfl ?_
    exact b_ret t138_24 rfl hq
  · refine g_p t138_7 rfl ?_
    refine g_p t138_8 rfl ?_
    refine g_clt t138_9 (fun h9 => ?_) (fun h9 => ?_)
    · refine g_k (n := 0) t138_23 rfl rfl ?_
      exact b_ret t138_24 rfl hq
    · refine g_p t138_12 rfl ?_
      refine g_p t138_13 rfl ?_
      refine r_getr t138_14 (f0 hF) rfl rfl ?_
      refine r_cv t138_17 (f18 hF) rfl ?_
      refine c278 (by exact f18 hF) q1 ?_
      refine k_v ?_ rfl
      refine g_clt t138_20 (fun h20 => ?_) (fun h20 => ?_)
      · exfalso
        refine hx ⟨of_decide_eq_true h4, ?_⟩
        by_cases hm : x = -1
        · exact Or.inl hm
        · refine Or.inr (inN_tt ?_ (by rw [← q2]; exact Int32.not_le.mpr h20))
          intro h0
          have h9' := Int32.le_iff_toInt_le.mp (Int32.not_lt.mp h9)
          have h0' := Int32.lt_iff_toInt_lt.mp h0
          have hm' : x.toInt ≠ (-1 : Int32).toInt := fun h => hm (Int32.toInt_inj.mp h)
          rw [show (-1 : Int32).toInt = -1 by decide] at h9' hm'
          rw [show (0 : Int32).toInt = 0 by decide] at h0'
          omega
      · refine g_k (n := 0) t138_23 rfl rfl ?_
        exact b_ret t138_24 rfl hq
theorem c136t (hF : Fx s) (hR : CR P s) {q row : Nat} (e4 : ri s 32 4 = nI row) (hr : row < mn P) (hqP : q < P) (hq : Q (some (.int (nI (pt P row q)))) (mR s)) : gE X (d + 3) 136 [.ref 0, .int (nI q)] (mR s) Q := by
  have hP5 := hR.2.2.1
  refine en136 rfl rfl ?_
  refine g_p t136_0 rfl ?_
  refine r_getr t136_1 (f0 hF) rfl rfl ?_
  refine g_p t136_4 rfl ?_
  refine r_cv t136_5 (f19 hF) rfl ?_
  refine c75 (by exact hF) (by exact hR.1) hP5 ?_
  refine k_v ?_ rfl
  refine b_ne t136_8 (fun h8 => ?_) (fun h8 => ?_)
  · refine g_p t136_21 rfl ?_
    refine r_getr t136_22 (f0 hF) rfl rfl ?_
    refine g_p t136_25 rfl ?_
    refine r_cv t136_26 (f32 hF) rfl ?_
    refine c102 (by exact hF) (by exact hR) (by exact e4) hr hqP ?_
    refine k_v ?_ rfl
    exact i_ret t136_29 rfl hq
  · exact no_b (inN_n hqP (by omega)) h8
end TW
