/-! THE REFERENCE, 9: without a light; the aunt, what is safe -/
theorem LO_0 {X : am_X} {d P : Nat} : LO X d P false (fun _ _ => 0) (fun _ => True) := ⟨fun _ _ _ _ => trivial, fun h => absurd h (by decide)⟩
theorem mk1_0 {P r w c : Nat} {L : Nat → Nat → Int32} : mk1 P r w false L c = std P r w := by
  funext t
  unfold mk1
  rw [Bool.not_false, Bool.true_or, Bool.and_true]
theorem aj_0 {P r w : Nat} {L : Nat → Nat → Int32} : aj P r w (fun c t => !false || rg P L c t) = aj P r w (fun _ _ => true) := by
  congr 1
def AP (P r w : Nat) (s : mM) : Prop := ∀ a b, a < mn P → b < mn P → std P r w a = true → ri s 100 (243 * a + b) = nI (dst P r w 1000 a b)
theorem AP.fm {A B : List Nat} {P r w : Nat} {s s' : mM} (h : AP P r w s) (f : FM A B s s') (h1 : 100 ∉ 80 :: A) : AP P r w s' := fun a b ha hb hs => (f.g h1).trans (h a b ha hb hs)
abbrev hA_ : List Nat := [84, 97, 98, 99, 100]
/-- fewest moves told two ways -/
theorem d15 {P r w a x : Nat} (hP : P ≤ 5) : (std P r w a = true ∧ std P r w x = true ∧ dst P r w 15 a x ≤ 10 ∧ dst P r w 1000 a x = dst P r w 15 a x) ∨ (¬ (std P r w a = true ∧ std P r w x = true) ∧ dst P r w 15 a x = 15 ∧ dst P r w 1000 a x = 1000) := by
  by_cases h : std P r w a = true ∧ std P r w x = true
  · refine Or.inl ⟨h.1, h.2, dst_10 hP h.1 h.2, ?_⟩
    rw [dst_t h.1 h.2, dst_t h.1 h.2]
    exact ds_F hP Rok_t h.1 h.2
  · exact Or.inr ⟨h, dst_f h, dst_f h⟩
section RR
variable {X : am_X} {d : Nat} {s : mM} {Q : Option Value → am_H → Prop} {P r w pd row day left a c k n : Nat} {x y z : Int32} {b : Bk} {bks : List Bk}
theorem c233n (hF : Fx s) (hP5 : P ≤ 5) (m0 : ri s 80 20 = nI P) (p1 : ri s 85 1 = nI r) (p2 : ri s 85 2 = nI w) (hr5 : r ≤ 5) (hw5 : w ≤ 5) (hc : std P r w c = true) (e43 : ri s 80 43 = bI false) (hq : ∀ s', FM nA nB s s' → ML ((en P c).filter (std P r w)) s' → Q none (mR s')) : gE X (d + 4) 233 [.ref 80, .int (nI c)] (mR s) Q := by
  refine c233 (rt := false) (L := fun _ _ => 0) (J := fun _ => True) hF hP5 m0 p1 p2 hr5 hw5 hc e43 LO_0 trivial (fun s' f _ hl => ?_)
  rw [mk1_0] at hl
  exact hq s' f hl
theorem c234n (hF : Fx s) (hP5 : P ≤ 5) (m0 : ri s 80 20 = nI P) (p1 : ri s 85 1 = nI r) (p2 : ri s 85 2 = nI w) (hr5 : r ≤ 5) (hw5 : w ≤ 5) (ha : std P r w a = true) (e43 : ri s 80 43 = bI false) (hq : ∀ s', FM fA nB s s' → (∀ x, x < mn P → ri s' 98 x = nI (dst P r w 1000 a x)) → Q none (mR s')) : gE X (d + 5) 234 [.ref 80, .int (nI a)] (mR s) Q := by
  refine c234 (rt := false) (L := fun _ _ => 0) (J := fun _ => True) hF hP5 m0 p1 p2 hr5 hw5 ha e43 LO_0 trivial (fun s' f _ hd => ?_)
  rw [aj_0] at hd
  exact hq s' f (fun x hx => by rw [dst_ds ha]; exact hd x hx)
theorem c235 (hF : Fx s) (hP5 : P ≤ 5) (hP0 : 0 < P) (m0 : ri s 80 20 = nI P) (p1 : ri s 85 1 = nI r) (p2 : ri s 85 2 = nI w) (hr5 : r ≤ 5) (hw5 : w ≤ 5) (e43 : ri s 80 43 = bI false) (hq : ∀ s', FM hA_ nB s s' → AP P r w s' → Q none (mR s')) : gE X (d + 6) 235 [.ref 80] (mR s) Q := by
  have hm := mn_le hP5
  have O : ∀ j a : Nat, a + j = mn P → ∀ s' z2, FM hA_ nB s s' → (∀ a' b, a' < a → b < mn P → std P r w a' = true → ri s' 100 (243 * a' + b) = nI (dst P r w 1000 a' b)) → gG X (d + 6) 235 2 [.ref 80, .int (nI a), z2] [] (mR s') Q := by
    intro j
    induction j with
    | zero =>
      intro a hj s' z2 hf hap
      have hj : a = mn P := by omega
      subst hj
      have hF := hF.fr hf.1
      have m0 := (hf.f (i := 20) (by decide)).trans m0
      have p1 := (hf.g (p := 85) (i := 1) (by decide)).trans p1
      have p2 := (hf.g (p := 85) (i := 2) (by decide)).trans p2
      have e43 := (hf.f (i := 43) (by decide)).trans e43
      refine g_p t235_2 rfl ?_
      refine g_p t235_3 rfl ?_
      refine r_cv t235_4 (f80 hF) rfl ?_
      refine c209 (by exact hF) (by exact m0) hP5 hP0 ?_
      refine k_v ?_ rfl
      refine n_cge t235_7 (by omega) (by omega) (fun h7 => ?_) (fun h7 => ?_)
      · exact v_ret t235_66 (hq _ hf (fun a b ha hb hs => hap a b ha hb hs))
      · exfalso; omega
    | succ j ih =>
      intro a hj s' z2 hf hap
      have haN : a < mn P := by omega
      have ih := ih (a + 1) (by omega)
      have I : std P r w a = true → ∀ i b : Nat, b + i = mn P → ∀ s', FM hA_ nB s s' → (∀ x, x < mn P → ri s' 98 x = nI (dst P r w 1000 a x)) → (∀ a' b, a' < a → b < mn P → std P r w a' = true → ri s' 100 (243 * a' + b) = nI (dst P r w 1000 a' b)) → (∀ x, x < b → ri s' 100 (243 * a + x) = nI (dst P r w 1000 a x)) → gG X (d + 6) 235 28 [.ref 80, .int (nI a), .int (nI b)] [] (mR s') Q := by
        intro hst i
        induction i with
        | zero =>
          intro b hi s' hf hd hap hbp
          have hi : b = mn P := by omega
          subst hi
          have hF := hF.fr hf.1
          have m0 := (hf.f (i := 20) (by decide)).trans m0
          have p1 := (hf.g (p := 85) (i := 1) (by decide)).trans p1
          have p2 := (hf.g (p := 85) (i := 2) (by decide)).trans p2
          have e43 := (hf.f (i := 43) (by decide)).trans e43
          refine g_p t235_28 rfl ?_
          refine g_p t235_29 rfl ?_
          refine r_cv t235_30 (f80 hF) rfl ?_
          refine c209 (by exact hF) (by exact m0) hP5 hP0 ?_
          refine k_v ?_ rfl
          refine n_cge t235_33 (by omega) (by omega) (fun h33 => ?_) (fun h33 => ?_)
          · refine g_incn (n := 1) t235_60 rfl rfl (Nat.le_of_ble_eq_true rfl) (am_s1_1 rfl) ?_
            refine g_goto t235_63 ?_
            refine ih _ _ hf (fun a' b' h1 h2 h3 => ?_)
            by_cases h9 : a' = a
            · subst h9; exact hbp b' h2
            · exact hap a' b' (by omega) h2 h3
          · exfalso; omega
        | succ i ih2 =>
          intro b hi s' hf hd hap hbp
          have hbN : b < mn P := by omega
          have hF := hF.fr hf.1
          have m0 := (hf.f (i := 20) (by decide)).trans m0
          have p1 := (hf.g (p := 85) (i := 1) (by decide)).trans p1
          have p2 := (hf.g (p := 85) (i := 2) (by decide)).trans p2
          have e43 := (hf.f (i := 43) (by decide)).trans e43
          refine g_p t235_28 rfl ?_
          refine g_p t235_29 rfl ?_
          refine r_cv t235_30 (f80 hF) rfl ?_
          refine c209 (by exact hF) (by exact m0) hP5 hP0 ?_
          refine k_v ?_ rfl
          refine n_cge t235_33 (by omega) (by omega) (fun h33 => ?_) (fun h33 => ?_)
          · exfalso; omega
          · refine g_p t235_36 rfl ?_
            refine r_getr t235_37 (f80 hF) rfl rfl ?_
            refine g_k (n := 243) t235_40 rfl rfl ?_
            refine g_p t235_43 rfl ?_
            refine g_muln t235_44 ?_
            refine g_p t235_45 rfl ?_
            refine g_addn t235_46 ?_
            refine g_p t235_47 rfl ?_
            refine r_getr t235_48 (f80 hF) rfl rfl ?_
            refine g_p t235_51 rfl ?_
            refine r_iale t235_52 (f98 hF) (by decide) (by omega) (hd b hbN) ?_
            refine r_iast t235_53 (f100 hF) (by decide) (by omega) ?_
            refine g_incn (n := 1) t235_54 rfl rfl (Nat.le_of_ble_eq_true rfl) (am_s1_2 rfl) ?_
            refine g_goto t235_57 ?_
            refine ih2 (b + 1) (by omega) _ (hf.w (by decide) (by decide)) (fun x hx => ?_) (fun a' b' h1 h2 h3 => ?_) (fun x hx => ?_)
            · rw [ri_wi_ne (by decide)]; exact hd x hx
            · rw [ri_wi_j (by omega)]; exact hap a' b' h1 h2 h3
            · by_cases h9 : x = b
              · subst h9; exact ri_wi_eq
              · rw [ri_wi_j (by omega)]; exact hbp x (by omega)
      have hF := hF.fr hf.1
      have m0 := (hf.f (i := 20) (by decide)).trans m0
      have p1 := (hf.g (p := 85) (i := 1) (by decide)).trans p1
      have p2 := (hf.g (p := 85) (i := 2) (by decide)).trans p2
      have e43 := (hf.f (i := 43) (by decide)).trans e43
      refine g_p t235_2 rfl ?_
      refine g_p t235_3 rfl ?_
      refine r_cv t235_4 (f80 hF) rfl ?_
      refine c209 (by exact hF) (by exact m0) hP5 hP0 ?_
      refine k_v ?_ rfl
      refine n_cge t235_7 (by omega) (by omega) (fun h7 => ?_) (fun h7 => ?_)
      · exfalso; omega
      · refine g_p t235_10 rfl ?_
        refine g_p t235_11 rfl ?_
        refine r_cv t235_12 (f80 hF) rfl ?_
        refine c214 (by exact hF) (by exact m0) hP5 (by exact p1) (by exact p2) hr5 hw5 (by omega) ?_
        refine k_v ?_ rfl
        refine b_ne t235_15 (fun h15 => ?_) (fun h15 => ?_)
        · refine g_p t235_21 rfl ?_
          refine g_p t235_22 rfl ?_
          refine r_cv t235_23 (f80 hF) rfl ?_
          refine c234n (by exact hF) hP5 (by exact m0) (by exact p1) (by exact p2) hr5 hw5 h15 (by exact e43) (fun s1 f1 hd => ?_)
          refine k_0 ?_
          have hF := Fx.fr (by exact hF) f1.1
          have m0 := (f1.f (i := 20) (by decide)).trans m0
          have e43 := (f1.f (i := 43) (by decide)).trans e43
          have p1 := (f1.g (p := 85) (i := 1) (by decide)).trans p1
          have p2 := (f1.g (p := 85) (i := 2) (by decide)).trans p2
          refine g_k (n := 0) t235_26 rfl rfl ?_
          refine g_isn t235_27 (Nat.le_of_ble_eq_true rfl) (am_s1_2 rfl) ?_
          exact I h15 (mn P) 0 (by omega) s1 (hf.tr (f1.mono (by decide) (by decide))) hd (fun a' b' h1 h2 h3 => (f1.g (by decide)).trans (hap a' b' h1 h2 h3)) (fun x hx => absurd hx (Nat.not_lt_zero x))
        · refine g_goto t235_18 ?_
          refine g_incn (n := 1) t235_60 rfl rfl (Nat.le_of_ble_eq_true rfl) (am_s1_1 rfl) ?_
          refine g_goto t235_63 ?_
          refine ih _ _ hf (fun a' b' h1 h2 h3 => ?_)
          by_cases h9 : a' = a
          · subst h9; exact no_b h3 h15
          · exact hap a' b' (by omega) h2 h3
  refine en235 rfl ?_
  refine g_k (n := 0) t235_0 rfl rfl ?_
  refine g_isn t235_1 (Nat.le_of_ble_eq_true rfl) (am_s1_1 rfl) ?_
  exact O (mn P) 0 (by omega) s _ FM.rf (fun a' b h => absurd h (Nat.not_lt_zero a'))
theorem c214o (hF : Fx s) (m0 : ri s 80 20 = nI P) (hP5 : P ≤ 5) (p1 : ri s 85 1 = nI r) (p2 : ri s 85 2 = nI w) (hr5 : r ≤ 5) (hw5 : w ≤ 5) {v : Int32} (h1 : cdI P x = v) (h2 : ¬ v = -1) (hq : Q (some (.int (bI (stO P r w x).isSome))) (mR s)) : gE X (d + 3) 214 [.ref 80, .int v] (mR s) Q := by
  subst h1
  cases h : cdO P x with
  | none => rw [cdI_cdO, h] at h2; exact absurd rfl h2
  | some c =>
    rw [cdI_cdO, h]
    refine c214 hF m0 hP5 p1 p2 hr5 hw5 (cdO_lt h) ?_
    have e : std P r w c = (stO P r w x).isSome := by
      unfold stO
      rw [h]
      cases hs : std P r w c
      · show false = (if std P r w c = true then some c else none).isSome
        rw [hs]; rfl
      · show true = (if std P r w c = true then some c else none).isSome
        rw [hs]; rfl
    rw [← e] at hq
    exact hq
theorem btw {P r w : Nat} {x y : Int32} (h : ¬ ((stO P r w x).isSome = true ∧ (stO P r w y).isSome = true)) : (match stO P r w x, stO P r w y with
      | some a, some b => nI (dst P r w 15 a b)
      | _, _ => -1) = (-1 : Int32) := by
  cases h1 : stO P r w x with
  | none => rfl
  | some a =>
    cases h2 : stO P r w y with
    | none => rfl
    | some b => rw [h1, h2] at h; exact absurd ⟨rfl, rfl⟩ h
theorem c236 (hF : Fx s) (hP5 : P ≤ 5) (hW : MW P r w pd row day left s) (hr5 : r ≤ 5) (hw5 : w ≤ 5) (e43 : ri s 80 43 = bI false) (hq : ∀ s', FM fA (0 :: nB) s s' → Q (some (.int (match stO P r w x, stO P r w y with
      | some a, some b => nI (dst P r w 15 a b)
      | _, _ => -1))) (mR s')) : gE X (d + 6) 236 [.ref 80, .int x, .int y] (mR s) Q := by
  obtain ⟨m0, e21, e33, e34, e35, p1, p2⟩ := id hW
  have hm := mn_le hP5
  by_cases hxy : (stO P r w x).isSome = true ∧ (stO P r w y).isSome = true
  · obtain ⟨g1, g2⟩ := hxy
    obtain ⟨a, ha⟩ := Option.isSome_iff_exists.mp g1
    obtain ⟨b, hb⟩ := Option.isSome_iff_exists.mp g2
    obtain ⟨a1, a2⟩ := stO_t ha
    obtain ⟨b1, b2⟩ := stO_t hb
    have haN := (std_t a2).1
    have hbN := (std_t b2).1
    rw [ha, hb] at hq
    have e : dst P r w 15 a b = dst P r w 1000 a b := by
      rcases d15 (r := r) (w := w) (a := a) (x := b) hP5 with h | h
      · exact h.2.2.2.symm
      · exact absurd ⟨a2, b2⟩ h.1
    have hq : ∀ s', FM fA (0 :: nB) s s' → Q (some (.int (nI (dst P r w 15 a b)))) (mR s') := hq
    rw [e] at hq
    refine en236 rfl rfl rfl ?_
    refine g_p t236_0 rfl ?_
    refine g_k (n := 0) t236_1 rfl rfl ?_
    refine r_puti t236_2 (f80 hF) rfl rfl ?_
    refine g_p t236_5 rfl ?_
    refine g_p t236_6 rfl ?_
    refine r_cv t236_7 (f80 hF) rfl ?_
    refine c216 (by exact hF) (by exact m0) hP5 ?_
    refine k_v ?_ rfl
    rw [a1]
    refine g_isn t236_10 (Nat.le_of_ble_eq_true rfl) (am_s1_3 rfl) ?_
    refine g_p t236_11 rfl ?_
    refine g_p t236_12 rfl ?_
    refine r_cv t236_13 (f80 hF) rfl ?_
    refine c216 (by exact hF) (by exact m0) hP5 ?_
    refine k_v ?_ rfl
    rw [b1]
    refine g_is t236_16 (Nat.le_of_ble_eq_true rfl) (am_s1_4 rfl) ?_
    refine g_p t236_18 rfl ?_
    refine g_p t236_19 rfl ?_
    refine g_ceq t236_20 (fun h20 => ?_) (fun h20 => ?_)
    · first
        | exact absurd h20 (nI_m1 (by omega))
        | exact absurd h26 (nI_m1 (by omega))
        | exact no_b a2 h34
        | exact no_b b2 h43
    · refine g_p t236_23 rfl ?_
      refine g_p t236_25 rfl ?_
      refine g_ceq t236_26 (fun h26 => ?_) (fun h26 => ?_)
      · first
          | exact absurd h20 (nI_m1 (by omega))
          | exact absurd h26 (nI_m1 (by omega))
          | exact no_b a2 h34
          | exact no_b b2 h43
      · refine g_p t236_29 rfl ?_
        refine g_p t236_30 rfl ?_
        refine r_cv t236_31 (f80 hF) rfl ?_
        refine c214 (by exact hF) (by exact m0) hP5 (by exact p1) (by exact p2) hr5 hw5 (by omega) ?_
        refine k_v ?_ rfl
        refine b_eq t236_34 (fun h34 => ?_) (fun h34 => ?_)
        · first
            | exact absurd h20 (nI_m1 (by omega))
            | exact absurd h26 (nI_m1 (by omega))
            | exact no_b a2 h34
            | exact no_b b2 h43
        · refine g_p t236_37 rfl ?_
          refine g_p t236_38 rfl ?_
          refine r_cv t236_40 (f80 hF) rfl ?_
          refine c214 (by exact hF) (by exact m0) hP5 (by exact p1) (by exact p2) hr5 hw5 (by omega) ?_
          refine k_v ?_ rfl
          refine b_ne t236_43 (fun h43 => ?_) (fun h43 => ?_)
          · refine g_p t236_48 rfl ?_
            refine g_p t236_49 rfl ?_
            refine r_cv t236_50 (f80 hF) rfl ?_
            refine c234n (by exact hF) hP5 (by exact m0) (by exact p1) (by exact p2) hr5 hw5 a2 (by exact e43) (fun s1 f1 hd => ?_)
            refine k_0 ?_
            have hF := Fx.fr (by exact hF) f1.1
            have m0 := (f1.f (i := 20) (by decide)).trans m0
            have e33 := (f1.f (i := 33) (by decide)).trans e33
            have e35 := (f1.f (i := 35) (by decide)).trans e35
            have e34 := (f1.f (i := 34) (by decide)).trans e34
            have e21 := (f1.f (i := 21) (by decide)).trans e21
            have p1 := (f1.g (p := 85) (i := 1) (by decide)).trans p1
            have p2 := (f1.g (p := 85) (i := 2) (by decide)).trans p2
            have e43 := (f1.f (i := 43) (by decide)).trans e43
            refine g_p t236_53 rfl ?_
            refine r_getr t236_54 (f80 hF) rfl rfl ?_
            refine g_p t236_57 rfl ?_
            refine r_iale t236_59 (f98 hF) (by decide) (by omega) (hd b hbN) ?_
            exact i_ret t236_60 rfl (hq _ ((FM.rf.m (by decide)).tr (f1.mono (by decide) (by decide))))
          · first
              | exact absurd h20 (nI_m1 (by omega))
              | exact absurd h26 (nI_m1 (by omega))
              | exact no_b a2 h34
              | exact no_b b2 h43
  · rw [btw hxy] at hq
    refine en236 rfl rfl rfl ?_
    refine g_p t236_0 rfl ?_
    refine g_k (n := 0) t236_1 rfl rfl ?_
    refine r_puti t236_2 (f80 hF) rfl rfl ?_
    refine g_p t236_5 rfl ?_
    refine g_p t236_6 rfl ?_
    refine r_cv t236_7 (f80 hF) rfl ?_
    refine c216 (by exact hF) (by exact m0) hP5 ?_
    refine k_v ?_ rfl
    refine g_isn t236_10 (Nat.le_of_ble_eq_true rfl) (am_s1_3 rfl) ?_
    refine g_p t236_11 rfl ?_
    refine g_p t236_12 rfl ?_
    refine r_cv t236_13 (f80 hF) rfl ?_
    refine c216 (by exact hF) (by exact m0) hP5 ?_
    refine k_v ?_ rfl
    refine g_is t236_16 (Nat.le_of_ble_eq_true rfl) (am_s1_4 rfl) ?_
    refine g_p t236_18 rfl ?_
    refine g_p t236_19 rfl ?_
    refine g_ceq t236_20 (fun h20 => ?_) (fun h20 => ?_)
    · refine g_p t236_46 rfl ?_
      exact i_ret t236_47 rfl (hq _ (FM.rf.m (by decide)))
    · refine g_p t236_23 rfl ?_
      refine g_p t236_25 rfl ?_
      refine g_ceq t236_26 (fun h26 => ?_) (fun h26 => ?_)
      · refine g_p t236_46 rfl ?_
        exact i_ret t236_47 rfl (hq _ (FM.rf.m (by decide)))
      · refine g_p t236_29 rfl ?_
        refine g_p t236_30 rfl ?_
        refine r_cv t236_31 (f80 hF) rfl ?_
        refine c214o (by exact hF) (by exact m0) hP5 (by exact p1) (by exact p2) hr5 hw5 rfl h20 ?_
        refine k_v ?_ rfl
        refine b_eq t236_34 (fun h34 => ?_) (fun h34 => ?_)
        · refine g_p t236_46 rfl ?_
          exact i_ret t236_47 rfl (hq _ (FM.rf.m (by decide)))
        · refine g_p t236_37 rfl ?_
          refine g_p t236_38 rfl ?_
          refine r_cv t236_40 (f80 hF) rfl ?_
          refine c214o (by exact hF) (by exact m0) hP5 (by exact p1) (by exact p2) hr5 hw5 rfl h26 ?_
          refine k_v ?_ rfl
          refine b_ne t236_43 (fun h43 => ?_) (fun h43 => ?_)
          · exact absurd ⟨h34, h43⟩ hxy
          · refine g_p t236_46 rfl ?_
            exact i_ret t236_47 rfl (hq _ (FM.rf.m (by decide)))
theorem saym_perm {l m : List Nat} (h : l.Perm m) : saym P b y l = saym P b y m := by unfold saym; exact (h.filter _).length_eq
theorem sn_perm : (sn P r w c).Perm ((en P c).filter (std P r w)) := (isrt_perm _).filter _
theorem sn_len14 (hP : P ≤ 5) (hc : c < mn P) : ((en P c).filter (std P r w)).length ≤ 14 := Nat.le_trans (List.length_filter_le _ _) (en_len hP hc)
theorem isR_L0 {x : Int32} : isR (-1) 7 x = isL0 x := by
  unfold isL0
  rw [← isR_inN (n := 7) (by decide)]
  by_cases h1 : x = -1
  · subst h1; decide
  · rw [decide_eq_false h1, Bool.false_or]
    unfold isR
    congr 1
    refine decide_eq_decide.mpr ⟨fun h => ?_, fun h => ?_⟩
    · have h := Int32.le_iff_toInt_le.mp h
      have h2 : ¬ x.toInt = -1 := fun e => h1 (Int32.toInt_inj.mp e)
      have e1 : (-1 : Int32).toInt = -1 := rfl
      have e0 : (0 : Int32).toInt = 0 := rfl
      rw [e1] at h
      exact Int32.le_iff_toInt_le.mpr (by rw [e0]; omega)
    · exact Int32.le_trans (by decide) h
theorem c245t (hF : Fx s) (hP5 : P ≤ 5) (hW : MW P r w pd row day left s) (hr5 : r ≤ 5) (hw5 : w ≤ 5) (e43 : ri s 80 43 = bI false) (hst : 0 < P → std P r w row = true) (hM : MB bks s) (hg : bG P bks x = some b) (h2 : isL0 y = true) (h3 : isH z = true)
    (hq : ∀ s', FM nA (0 :: nB) s s' → Q (some (.int (if z = 0 then nI (one (decide (sy P b row = y)) + saym P b y (sn P r w row)) else nI (1 + (sn P r w row).length)))) (mR s')) : gE X (d + 5) 245 [.ref 80, .int x, .int y, .int z] (mR s) Q := by
  obtain ⟨m0, e21, e33, e34, e35, p1, p2⟩ := id hW
  have hm := mn_le hP5
  obtain ⟨hP0, k, hk, hk4, rfl, hB1⟩ := bG_M hM hg
  have hs := hst hP0
  have hrN := (std_t hs).1
  obtain ⟨l, hl0⟩ : ∃ l, l = (en P row).filter (std P r w) := ⟨_, rfl⟩
  have hl14 : l.length ≤ 14 := by rw [hl0]; exact sn_len14 hP5 hrN
  have hlm : ∀ t ∈ l, t < mn P := fun t ht => by rw [hl0] at ht; exact (std_t (List.mem_filter.mp ht).2).1
  rw [saym_perm sn_perm, sn_perm.length_eq, ← hl0] at hq
  have K : ∀ s1 : mM, Fx s1 → FM nA (0 :: nB) s s1 → ML l s1 → ri s1 80 20 = nI P → ri s1 80 33 = nI row → MB1 b k s1 → ∀ j i : Nat, i + j = l.length → gG X (d + 5) 245 72 [.ref 80, .int (nI k), .int y, .int z, .int (nI (one (decide (sy P b row = y)) + saym P b y (l.take i))), .int (nI i)] [] (mR s1) Q := by
    intro s1 hF hf hl m0 e33 hB1 j
    have e42 := hl.1
    have h9 := one_le (decide (sy P b row = y))
    induction j with
    | zero =>
      intro i hi
      have hi : i = l.length := by omega
      subst hi
      have h8 := saym_le (P := P) (b := b) (y := y) (l := l)
      rw [List.take_length]
      refine g_p t245_72 rfl ?_
      refine g_p t245_74 rfl ?_
      refine r_gete t245_75 (f80 hF) rfl rfl e42 ?_
      refine n_cge t245_78 (by omega) (by omega) (fun h78 => ?_) (fun h78 => ?_)
      · refine g_p t245_113 rfl ?_
        refine g_ne t245_114 (fun h114 => ?_) (fun h114 => ?_)
        · refine g_p t245_122 rfl ?_
          refine r_gete t245_123 (f80 hF) rfl rfl e42 ?_
          refine g_k (n := 1) t245_126 rfl rfl ?_
          refine g_addn t245_127 ?_
          first
            | (have u0 : ¬ z = 0 := h114
               exact i_ret t245_128 (by rw [if_neg u0, Nat.add_comm]) (hq _ hf))
            | (have u0 : z = 0 := h114
               exact i_ret t245_128 (by rw [if_pos u0]) (hq _ hf))
        · refine g_p t245_117 rfl ?_
          refine g_goto t245_119 ?_
          first
            | (have u0 : ¬ z = 0 := h114
               exact i_ret t245_128 (by rw [if_neg u0, Nat.add_comm]) (hq _ hf))
            | (have u0 : z = 0 := h114
               exact i_ret t245_128 (by rw [if_pos u0]) (hq _ hf))
      · exfalso; omega
    | succ j ih =>
      intro i hi
      have hil : i < l.length := by omega
      have ih := ih (i + 1) (by omega)
      have hmm := hlm _ (getD_mem hil)
      have e : l.take (i + 1) = l.take i ++ [l.getD i 0] := by
        rw [List.take_succ_eq_append_getElem hil, gD_lt hil]
      rw [e, saym_app, saym_1, ← Nat.add_assoc] at ih
      refine g_p t245_72 rfl ?_
      refine g_p t245_74 rfl ?_
      refine r_gete t245_75 (f80 hF) rfl rfl e42 ?_
      refine n_cge t245_78 (by omega) (by omega) (fun h78 => ?_) (fun h78 => ?_)
      · exfalso; omega
      · refine g_p t245_81 rfl ?_
        refine g_p t245_83 rfl ?_
        refine g_p t245_84 rfl ?_
        refine g_p t245_85 rfl ?_
        refine r_getr t245_86 (f80 hF) rfl rfl ?_
        refine g_p t245_89 rfl ?_
        refine r_iale t245_91 (f97 hF) (by decide) (by omega) (hl.2 i hil) ?_
        refine r_cv t245_92 (f80 hF) rfl ?_
        refine c231 (by exact hF) (by exact m0) hP5 (by exact hB1) hk4 (by omega) ?_
        refine k_v ?_ rfl
        refine g_p t245_95 rfl ?_
        refine g_cne t245_96 (fun h96 => ?_) (fun h96 => ?_)
        · refine g_k (n := 0) t245_103 rfl rfl ?_
          refine g_addn t245_104 ?_
          refine g_is t245_105 (Nat.le_of_ble_eq_true rfl) (am_s1_4 rfl) ?_
          refine g_incn (n := 1) t245_107 rfl rfl (Nat.le_of_ble_eq_true rfl) (am_s1_5 rfl) ?_
          refine g_goto t245_110 ?_
          first
            | (have u0 : ¬ sy P b (l.getD i 0) = y := h96
               rw [decide_eq_false u0] at ih
               exact ih)
            | (have u0 : sy P b (l.getD i 0) = y := h96
               rw [decide_eq_true u0] at ih
               exact ih)
        · refine g_k (n := 1) t245_99 rfl rfl ?_
          refine g_goto t245_100 ?_
          refine g_addn t245_104 ?_
          refine g_is t245_105 (Nat.le_of_ble_eq_true rfl) (am_s1_4 rfl) ?_
          refine g_incn (n := 1) t245_107 rfl rfl (Nat.le_of_ble_eq_true rfl) (am_s1_5 rfl) ?_
          refine g_goto t245_110 ?_
          first
            | (have u0 : ¬ sy P b (l.getD i 0) = y := h96
               rw [decide_eq_false u0] at ih
               exact ih)
            | (have u0 : sy P b (l.getD i 0) = y := h96
               rw [decide_eq_true u0] at ih
               exact ih)
  refine en245 rfl rfl rfl rfl ?_
  refine g_p t245_0 rfl ?_
  refine g_k (n := 0) t245_1 rfl rfl ?_
  refine r_puti t245_2 (f80 hF) rfl rfl ?_
  refine g_p t245_5 rfl ?_
  refine g_p t245_6 rfl ?_
  refine r_cv t245_7 (f80 hF) rfl ?_
  refine c218B (by exact hF) (by exact m0) hP5 (by exact hM) ?_
  refine k_v ?_ rfl
  rw [hg]
  refine b_eq t245_10 (fun h10 => ?_) (fun h10 => ?_)
  · first
      | (have u0 : (some b).isSome = false := h10
         exact absurd u0 (by simp))
      | exact absurd h24 (by decide)
      | exact absurd h34 (by decide)
  · refine g_p t245_13 rfl ?_
    refine g_p t245_14 rfl ?_
    refine g_p t245_15 rfl ?_
    refine g_p t245_18 rfl ?_
    refine g_cs t245_21 rfl rfl rfl ?_
    refine c176i (a := -1) (b := 7) rfl rfl ?_
    rw [isR_L0, h2]
    refine k_v ?_ rfl
    refine b_eq t245_24 (fun h24 => ?_) (fun h24 => ?_)
    · first
        | (have u0 : (some b).isSome = false := h10
           exact absurd u0 (by simp))
        | exact absurd h24 (by decide)
        | exact absurd h34 (by decide)
    · refine g_p t245_27 rfl ?_
      refine g_p t245_28 rfl ?_
      refine g_p t245_29 rfl ?_
      refine g_p t245_30 rfl ?_
      refine g_cs t245_31 rfl rfl rfl ?_
      refine c176i (a := 0) (b := 1) rfl rfl ?_
      rw [isR_H, h3]
      refine k_v ?_ rfl
      refine b_ne t245_34 (fun h34 => ?_) (fun h34 => ?_)
      · refine g_p t245_41 rfl ?_
        refine g_p t245_42 rfl ?_
        refine r_gete t245_43 (f80 hF) rfl rfl e33 ?_
        refine r_cv t245_46 (f80 hF) rfl ?_
        refine c233n (by exact hF) hP5 (by exact m0) (by exact p1) (by exact p2) hr5 hw5 hs (by exact e43) (fun s1 f1 hl => ?_)
        refine k_0 ?_
        have hF := Fx.fr (by exact hF) f1.1
        have m0 := (f1.f (i := 20) (by decide)).trans m0
        have e33 := (f1.f (i := 33) (by decide)).trans e33
        have e35 := (f1.f (i := 35) (by decide)).trans e35
        have e34 := (f1.f (i := 34) (by decide)).trans e34
        have e21 := (f1.f (i := 21) (by decide)).trans e21
        have p1 := (f1.g (p := 85) (i := 1) (by decide)).trans p1
        have p2 := (f1.g (p := 85) (i := 2) (by decide)).trans p2
        have e43 := (f1.f (i := 43) (by decide)).trans e43
        refine g_p t245_49 rfl ?_
        refine g_p t245_50 rfl ?_
        refine g_p t245_51 rfl ?_
        refine r_gete t245_52 (f80 hF) rfl rfl e33 ?_
        refine r_cv t245_55 (f80 hF) rfl ?_
        have hB1 := MB1.fm (A := 80 :: nA) (B := nB) (s := wi s 80 0 (nI 0)) (by exact hB1) f1.1 (by decide) (by decide) (by decide) (by decide)
        refine c231 (by exact hF) (by exact m0) hP5 (by exact hB1) hk4 (by omega) ?_
        refine k_v ?_ rfl
        refine g_p t245_58 rfl ?_
        refine g_cne t245_59 (fun h59 => ?_) (fun h59 => ?_)
        · refine g_k (n := 0) t245_66 rfl rfl ?_
          refine g_is t245_67 (Nat.le_of_ble_eq_true rfl) (am_s1_4 rfl) ?_
          refine g_k (n := 0) t245_69 rfl rfl ?_
          refine g_is t245_70 (Nat.le_of_ble_eq_true rfl) (am_s1_5 rfl) ?_
          first
            | (have u0 : ¬ sy P b row = y := h59
               have := K s1 hF ((FM.rf.m (by decide)).tr (f1.mono (by decide) (by decide))) (by rw [hl0]; exact hl) m0 e33 hB1 l.length 0 (by omega)
               rw [decide_eq_false u0] at this
               exact this)
            | (have u0 : sy P b row = y := h59
               have := K s1 hF ((FM.rf.m (by decide)).tr (f1.mono (by decide) (by decide))) (by rw [hl0]; exact hl) m0 e33 hB1 l.length 0 (by omega)
               rw [decide_eq_true u0] at this
               exact this)
        · refine g_k (n := 1) t245_62 rfl rfl ?_
          refine g_goto t245_63 ?_
          refine g_is t245_67 (Nat.le_of_ble_eq_true rfl) (am_s1_4 rfl) ?_
          refine g_k (n := 0) t245_69 rfl rfl ?_
          refine g_is t245_70 (Nat.le_of_ble_eq_true rfl) (am_s1_5 rfl) ?_
          first
            | (have u0 : ¬ sy P b row = y := h59
               have := K s1 hF ((FM.rf.m (by decide)).tr (f1.mono (by decide) (by decide))) (by rw [hl0]; exact hl) m0 e33 hB1 l.length 0 (by omega)
               rw [decide_eq_false u0] at this
               exact this)
            | (have u0 : sy P b row = y := h59
               have := K s1 hF ((FM.rf.m (by decide)).tr (f1.mono (by decide) (by decide))) (by rw [hl0]; exact hl) m0 e33 hB1 l.length 0 (by omega)
               rw [decide_eq_true u0] at this
               exact this)
      · first
          | (have u0 : (some b).isSome = false := h10
             exact absurd u0 (by simp))
          | exact absurd h24 (by decide)
          | exact absurd h34 (by decide)
theorem c245f (hF : Fx s) (hP5 : P ≤ 5) (hW : MW P r w pd row day left s) (hr5 : r ≤ 5) (hw5 : w ≤ 5) (e43 : ri s 80 43 = bI false) (hM : MB bks s) (hno : ¬ ((bG P bks x).isSome = true ∧ isL0 y = true ∧ isH z = true)) (hq : Q (some (.int (-1000000))) (mR (wi s 80 0 (nI 0)))) : gE X (d + 5) 245 [.ref 80, .int x, .int y, .int z] (mR s) Q := by
  obtain ⟨m0, e21, e33, e34, e35, p1, p2⟩ := id hW
  refine en245 rfl rfl rfl rfl ?_
  refine g_p t245_0 rfl ?_
  refine g_k (n := 0) t245_1 rfl rfl ?_
  refine r_puti t245_2 (f80 hF) rfl rfl ?_
  refine g_p t245_5 rfl ?_
  refine g_p t245_6 rfl ?_
  refine r_cv t245_7 (f80 hF) rfl ?_
  refine c218B (by exact hF) (by exact m0) hP5 (by exact hM) ?_
  refine k_v ?_ rfl
  refine b_eq t245_10 (fun h10 => ?_) (fun h10 => ?_)
  · refine g_p t245_37 rfl ?_
    exact i_ret t245_40 rfl hq
  · refine g_p t245_13 rfl ?_
    refine g_p t245_14 rfl ?_
    refine g_p t245_15 rfl ?_
    refine g_p t245_18 rfl ?_
    refine g_cs t245_21 rfl rfl rfl ?_
    refine c176i (a := -1) (b := 7) rfl rfl ?_
    rw [isR_L0]
    refine k_v ?_ rfl
    refine b_eq t245_24 (fun h24 => ?_) (fun h24 => ?_)
    · refine g_p t245_37 rfl ?_
      exact i_ret t245_40 rfl hq
    · refine g_p t245_27 rfl ?_
      refine g_p t245_28 rfl ?_
      refine g_p t245_29 rfl ?_
      refine g_p t245_30 rfl ?_
      refine g_cs t245_31 rfl rfl rfl ?_
      refine c176i (a := 0) (b := 1) rfl rfl ?_
      rw [isR_H]
      refine k_v ?_ rfl
      refine b_ne t245_34 (fun h34 => ?_) (fun h34 => ?_)
      · exact absurd ⟨h10, h24, h34⟩ hno
      · refine g_p t245_37 rfl ?_
        exact i_ret t245_40 rfl hq
end RR
