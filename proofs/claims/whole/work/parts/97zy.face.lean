/-! THE FACE: looking from now -/
theorem FL.mono {A A2 B : List Nat} {s s' : mM} (h : FL A B s s') (hs : ∀ p ∈ A, p ∈ A2) : FL A2 B s s' := ⟨h.1, h.2.1, fun p hp => h.2.2.1 p (fun h3 => hp (hs p h3)), h.2.2.2⟩
theorem FL.in {A B : List Nat} {s s' : mM} {p i : Nat} (h : FL A B s s') (hp : p ∉ A) : ri s' p i = ri s p i := h.fi.fr.ri hp
/-- worth of the light t at place q, on side k -/
def lwL (P day : Nat) (t : List Nat) (q k : Nat) : Int32 := (lwo t (la P q day (nI k))).1.2.toInt32
section TY
variable {X : am_X} {d k P n r w pd row day left q : Nat} {s : mM} {hp : am_H} {Q : Option Value → am_H → Prop} {t : List Nat} {x y : Int32} {b z : Bool} {L : Nat → Nat → Int32} {z1 z3 z4 : Value}
theorem c147e (hF : Fx s) (hR : CR P s) (hW : CW r w pd row day left s) (hr5 : r ≤ 5) (hw5 : w ≤ 5) (hst : std P r w row = true) (hQ : CQ s) (hL : b = true → CL P L s) (hq : ∀ s', Fr [54, 55, 56] s s' → (∀ x, x < mn P → ri s' 54 x = nI (ds (aj P r w (fun c t => !b || rg P L c t)) 15 row x)) → CQ s' → Q none (mR s')) : gG X (d + 4) 147 93 [.ref 0, z1, .int (bI b), z3, z4] [] (mR s) Q := by
  obtain ⟨e1, e2, e3, e4, e5, e6⟩ := hW
  refine g_p t147_93 rfl ?_
  refine r_getr t147_94 (f0 hF) rfl rfl ?_
  refine g_p t147_97 rfl ?_
  refine r_getr t147_98 (f0 hF) rfl rfl ?_
  refine r_cv t147_101 (f32 hF) rfl ?_
  refine c96 (by exact hF) e4 ?_
  refine k_v ?_ rfl
  refine g_p t147_104 rfl ?_
  refine r_cv t147_105 (f50 hF) rfl ?_
  refine c64 (by exact hF) (by exact hR) (by exact e1) (by exact e2) hr5 hw5 hL hst (by exact hQ) (fun s105 fr105 l105 hQ => ?_)
  refine k_0 ?_
  exact v_ret t147_108 (hq s105 fr105 l105 hQ)
theorem c147z (hF : Fx s) (hR : CR P s) (hW : CW r w pd row day left s) (hr5 : r ≤ 5) (hw5 : w ≤ 5) (hst : std P r w row = true) (hQ : CQ s) (hq : ∀ s', Fr [54, 55, 56] s s' → (∀ x, x < mn P → ri s' 54 x = nI (ds (aj P r w (fun c t => !false || rg P L c t)) 15 row x)) → CQ s' → Q none (mR s')) : gE X (d + 4) 147 [.ref 0, .int (bI false)] (mR s) Q := by
  refine en147 rfl rfl ?_
  refine g_p t147_0 rfl ?_
  refine b_eq t147_1 (fun h1 => ?_) (fun h1 => ?_)
  · refine g_k (n := 0) t147_15 rfl rfl ?_
    refine g_isn t147_16 (Nat.le_of_ble_eq_true rfl) (am_s1_2 rfl) ?_
    refine g_p t147_17 rfl ?_
    refine n_eq t147_18 (by omega) (fun h18 => ?_) (fun h18 => ?_)
    · exact c147e (b := false) hF hR hW hr5 hw5 hst hQ (fun h => absurd h (by decide)) hq
    · exact absurd rfl h18
  · first
      | exact absurd h1 (by decide)
theorem c147n (hF : Fx s) (hR : CR P s) (hW : CW r w pd row day left s) (hr5 : r ≤ 5) (hw5 : w ≤ 5) (hst : std P r w row = true) (hQ : CQ s) (hh : Hd none s) (hq : ∀ s', Fr [54, 55, 56] s s' → (∀ x, x < mn P → ri s' 54 x = nI (ds (aj P r w (fun c t => !false || rg P L c t)) 15 row x)) → CQ s' → Q none (mR s')) : gE X (d + 4) 147 [.ref 0, .int (bI z)] (mR s) Q := by
  refine en147 rfl rfl ?_
  refine g_p t147_0 rfl ?_
  refine b_eq t147_1 (fun h1 => ?_) (fun h1 => ?_)
  · refine g_k (n := 0) t147_15 rfl rfl ?_
    refine g_isn t147_16 (Nat.le_of_ble_eq_true rfl) (am_s1_2 rfl) ?_
    refine g_p t147_17 rfl ?_
    refine n_eq t147_18 (by omega) (fun h18 => ?_) (fun h18 => ?_)
    · exact c147e (b := false) hF hR hW hr5 hw5 hst hQ (fun h => absurd h (by decide)) hq
    · exact absurd rfl h18
  · refine g_p t147_4 rfl ?_
    refine r_getq t147_5 (f0 hF) rfl rfl hh rfl ?_
    refine g_b (b := true) t147_8 rfl ?_
    refine g_k (n := 0) t147_15 rfl rfl ?_
    refine g_isn t147_16 (Nat.le_of_ble_eq_true rfl) (am_s1_2 rfl) ?_
    refine g_p t147_17 rfl ?_
    refine n_eq t147_18 (by omega) (fun h18 => ?_) (fun h18 => ?_)
    · exact c147e (b := false) hF hR hW hr5 hw5 hst hQ (fun h => absurd h (by decide)) hq
    · exact absurd rfl h18
theorem c147t (hF : Fx s) (hR : CR P s) (hW : CW r w pd row day left s) (hr5 : r ≤ 5) (hw5 : w ≤ 5) (hst : std P r w row = true) (hQ : CQ s) (hh : Hd (some t) s) (hq : ∀ s', FL [15, 52, 54, 55, 56] [15] s s' → (∀ x, x < mn P → ri s' 54 x = nI (ds (aj P r w (fun c u => !true || rg P (lwL P day t) c u)) 15 row x)) → CQ s' → Q none (mR s')) : gE X (d + 29) 147 [.ref 0, .int (bI true)] (mR s) Q := by
  have hP5 := hR.2.2.1
  obtain ⟨T, n, h114, hX, hh⟩ := hh
  have nA : ∀ p, 57 ≤ p → p ∉ [15, 52] := fun p hp h => by simp at h; omega
  have OUT : ∀ j q, q + j = P → ∀ s' (z4 : Value), Fx s' → FL [15, 52] [15] s s' → (∀ i, i < q * 2 → ri s' 52 i = lwL P day t (i / 2) (i % 2 + 1)) → gG X (d + 29) 147 23 [.ref 0, .int (bI true), .int (bI true), .int (nI q), z4] [] (mR s') Q := by
    intro j
    induction j with
    | zero =>
      intro q hj s' z4 hF hf hM
      have hR : CR P s' := (show CR P (lgo s' s) from hR.fr hf.fi.fr (by decide))
      have hW : CW r w pd row day left s' := (show CW r w pd row day left (lgo s' s) from hW.fr hf.fi.fr (by decide))
      have hQ : CQ s' := (show CQ (lgo s' s) from hQ.fr hf.fi.fr (by decide))
      have hqP : q = P := by omega
      subst hqP
      refine g_p t147_23 rfl ?_
      refine g_p t147_24 rfl ?_
      refine r_getr t147_25 (f0 hF) rfl rfl ?_
      refine r_cv t147_28 (f19 hF) rfl ?_
      refine c74 (by exact hF) hR.1 ?_
      refine k_v ?_ rfl
      refine n_cge t147_31 (by omega) (by omega) (fun h31 => ?_) (fun h31 => ?_)
      · refine c147e (b := true) (L := lwL q day t) hF hR hW hr5 hw5 hst hQ (fun _ p hp k hk => ?_) (fun s' f l9 hQ => hq s' ((hf.mono (by decide)).tr (f.mono (by decide)).fl) l9 hQ)
        rw [hM _ (by omega)]
        rcases hk with h | h
        · subst h
          rw [show (p * 2 + 1 - 1) / 2 = p by omega, show (p * 2 + 1 - 1) % 2 + 1 = 1 by omega]
        · subst h
          rw [show (p * 2 + 2 - 1) / 2 = p by omega, show (p * 2 + 2 - 1) % 2 + 1 = 2 by omega]
      · exfalso; omega
    | succ j ih =>
      intro q hj s' z4 hF hf hM
      have INN : ∀ u k, k + u = 3 → 1 ≤ k → ∀ s', Fx s' → FL [15, 52] [15] s s' → (∀ i, i < q * 2 + k - 1 → ri s' 52 i = lwL P day t (i / 2) (i % 2 + 1)) → gG X (d + 29) 147 37 [.ref 0, .int (bI true), .int (bI true), .int (nI q), .int (nI k)] [] (mR s') Q := by
        intro u
        induction u with
        | zero =>
          intro k hk h1 s' hF hf hM
          refine g_p t147_37 rfl ?_
          refine g_k (n := 2) t147_39 rfl rfl ?_
          refine n_cgt t147_40 (by omega) (by omega) (fun h40 => ?_) (fun h40 => ?_)
          · refine g_incn (n := 1) t147_87 rfl rfl (Nat.le_of_ble_eq_true rfl) (am_s1_3 rfl) ?_
            refine g_goto t147_90 ?_
            exact ih (q + 1) (by omega) s' _ hF hf (fun i hi => hM i (by omega))
          · exfalso; omega
        | succ u ihu =>
          intro k hk h1 s' hF hf hM
          have hR : CR P s' := (show CR P (lgo s' s) from hR.fr hf.fi.fr (by decide))
          have hW : CW r w pd row day left s' := (show CW r w pd row day left (lgo s' s) from hW.fr hf.fi.fr (by decide))
          have hX : TX T n t s' := (show TX T n t (lgo s' s) from hX.fr hf.fi.fr (nA T (by omega)) (nA (T + 1) (by omega)))
          have hh : ri s' 0 15 = nI (T + 2) := (hf.in (by decide)).trans hh
          obtain ⟨e1, e2, e3, e4, e5, e6⟩ := hW
          refine g_p t147_37 rfl ?_
          refine g_k (n := 2) t147_39 rfl rfl ?_
          refine n_cgt t147_40 (by omega) (by omega) (fun h40 => ?_) (fun h40 => ?_)
          · exfalso; omega
          · refine g_p t147_43 rfl ?_
            refine r_getr t147_44 (f0 hF) rfl rfl ?_
            refine g_p t147_47 rfl ?_
            refine g_p t147_48 rfl ?_
            refine g_p t147_50 rfl ?_
            refine r_getr t147_51 (f0 hF) rfl rfl ?_
            refine g_p t147_54 rfl ?_
            refine r_getq t147_55 (f0 hF) rfl rfl hh (m_rq_r hX.2.2.2.2.1) ?_
            refine g_p t147_58 rfl ?_
            refine g_p t147_59 rfl ?_
            refine r_getr t147_60 (f0 hF) rfl rfl ?_
            refine r_cv t147_63 (f32 hF) rfl ?_
            refine c97 (by exact hF) e5 ?_
            refine k_v ?_ rfl
            refine g_p t147_66 rfl ?_
            refine g_p t147_68 rfl ?_
            refine r_getr t147_69 (f0 hF) rfl rfl ?_
            refine r_cv t147_72 (f19 hF) rfl ?_
            refine c74 (by exact hF) hR.1 ?_
            refine k_v ?_ rfl
            refine r_cv t147_75 (f15 hF) rfl ?_
            refine c18 (a := la P q day (nI k)) (by omega) (by exact hF) (by exact hX) (fun s75 fr75 hD => ?_)
            have hF := fr75.fx hF
            have hf := hf.tr (fr75.mono (by decide))
            refine k_v ?_ rfl
            refine r_cv t147_78 (f50 hF) rfl ?_
            refine c63 (by exact hF) (by omega) (by omega) ?_
            refine k_0 ?_
            refine g_incn (n := 1) t147_81 rfl rfl (Nat.le_of_ble_eq_true rfl) (am_s1_4 rfl) ?_
            refine g_goto t147_84 ?_
            refine ihu (k + 1) (by omega) (by omega) (wi s75 52 (q * 2 + k - 1) (lwL P day t q k)) hF ⟨hf.1, hf.2.1, fun p hp => ?_, hf.2.2.2⟩ (fun i hi => ?_)
            · exact (Fr.wi (A := [15, 52]) (p := 52) (i := q * 2 + k - 1) (v := lwL P day t q k) (s := s75) Fr.rf (by simp)).2.2 p hp |>.trans (hf.2.2.1 p hp)
            · by_cases h9 : i = q * 2 + k - 1
              · subst h9
                rw [ri_wi_eq, show (q * 2 + k - 1) / 2 = q by omega, show (q * 2 + k - 1) % 2 + 1 = k by omega]
              · rw [ri_wi_j h9, fr75.in (by decide)]
                exact hM i (by omega)
      have hR : CR P s' := (show CR P (lgo s' s) from hR.fr hf.fi.fr (by decide))
      refine g_p t147_23 rfl ?_
      refine g_p t147_24 rfl ?_
      refine r_getr t147_25 (f0 hF) rfl rfl ?_
      refine r_cv t147_28 (f19 hF) rfl ?_
      refine c74 (by exact hF) hR.1 ?_
      refine k_v ?_ rfl
      refine n_cge t147_31 (by omega) (by omega) (fun h31 => ?_) (fun h31 => ?_)
      · exfalso; omega
      · refine g_k (n := 1) t147_34 rfl rfl ?_
        refine g_is t147_35 (Nat.le_of_ble_eq_true rfl) (am_s1_4 rfl) ?_
        exact INN 2 1 rfl (by decide) s' hF hf (fun i hi => hM i (by omega))
  refine en147 rfl rfl ?_
  refine g_p t147_0 rfl ?_
  refine b_eq t147_1 (fun h1 => ?_) (fun h1 => ?_)
  · exact no_b rfl h1
  · refine g_p t147_4 rfl ?_
    refine r_getq t147_5 (f0 hF) rfl rfl hh (m_rq_r hX.2.2.2.2.1) ?_
    refine g_b (b := false) t147_8 rfl ?_
    refine g_k (n := 1) t147_11 rfl rfl ?_
    refine g_goto t147_12 ?_
    refine g_isn t147_16 (Nat.le_of_ble_eq_true rfl) (am_s1_2 rfl) ?_
    refine g_p t147_17 rfl ?_
    refine n_eq t147_18 (by omega) (fun h18 => ?_) (fun h18 => ?_)
    · exact absurd h18 (by decide)
    · refine g_k (n := 0) t147_21 rfl rfl ?_
      refine g_isn t147_22 (Nat.le_of_ble_eq_true rfl) (am_s1_3 rfl) ?_
      exact OUT P 0 (Nat.zero_add _) s _ hF Fr.rf.fl (fun i hi => absurd hi (by omega))
end TY
