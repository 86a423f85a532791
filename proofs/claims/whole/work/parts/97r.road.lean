/-! ROADS: FlowerPots$Roads -/
theorem Bf_le {A : Nat → Nat → Prop} {a N F : Nat} {q : List Nat} {h : Nat} {f : Nat → Nat} (B : Bf A a N F q h f) (hb : ∀ n x, lv A a n x → ∃ m, m < F ∧ lv A a m x) {x : Nat} (hx : x < N) : f x ≤ F := by
  obtain ⟨b1, b2, b3, b4, b5, -⟩ := B
  rcases Nat.decEq (f x) F with h | h
  · obtain ⟨m, hm, h2⟩ := hb _ _ (b5 x ((b4 x hx).mp h)).1
    have := (b5 x ((b4 x hx).mp h)).2 m h2
    omega
  · omega
def hI : Option (Nat × Nat) → Int32
  | none => -1
  | some z => nI z.1
def sI : Option (Nat × Nat) → Nat
  | none => 0
  | some z => z.2
def tI : Option Nat → Int32
  | none => -1
  | some z => nI z
theorem rgh_some {P c t h k : Nat} : ∀ m, rgh P c t m = some (h, k) → h < m ∧ k = pt P c h ∧ k ≠ 0 := by
  intro m
  induction m with
  | zero => intro h; cases h
  | succ m ih =>
    intro h2
    unfold rgh at h2
    split at h2
    · rename_i h3
      cases h2
      exact ⟨by omega, rfl, h3.1⟩
    · obtain ⟨q1, q2⟩ := ih h2
      exact ⟨by omega, q2⟩
theorem rgt_some {P c t h : Nat} : ∀ m, rgt P c t m = some h → h < m := by
  intro m
  induction m with
  | zero => intro h; cases h
  | succ m ih =>
    intro h2
    unfold rgt at h2
    split at h2
    · cases h2; omega
    · have := ih h2; omega
theorem nI_m1 {h : Nat} (hh : h < 2 ^ 31) : ¬ nI h = -1 := fun e => nI_pos hh (by rw [e]; decide)
def CL (P : Nat) (L : Nat → Nat → Int32) (s : mM) : Prop := ∀ q, q < P → ∀ k, k = 1 ∨ k = 2 → ri s 52 (q * 2 + k - 1) = L q k
theorem CL.fr {A : List Nat} {P : Nat} {L : Nat → Nat → Int32} {s s' : mM} (h : CL P L s) (f : Fr A s s') (h2 : 52 ∉ A) : CL P L s' := fun q hq k hk => (f.ri h2).trans (h q hq k hk)
section RR
variable {X : am_X} {d : Nat} {s : mM} {Q : Option Value → am_H → Prop} {P r w a b c t : Nat} {L : Nat → Nat → Int32} {v : Int32}
theorem c62 (hF : Fx s) (hq : ∀ s', Fr [58] s s' → (∀ a, a < 243 → ri s' 58 a = nI 0) → Q none (mR s')) : gE X (d + 1) 62 [.ref 50] (mR s) Q := by
  refine en62 rfl ?_
  refine g_p t62_0 rfl ?_
  refine r_getr t62_1 (f50 hF) rfl rfl ?_
  refine g_k (n := 0) t62_4 rfl rfl ?_
  refine r_cv t62_5 (f57 hF) rfl ?_
  refine c32 (by exact fN57 hF) ?_
  refine k_0 ?_
  exact v_ret t62_8 (hq _ (Fr.rf.wf (by simp)) (fun a ha => by rw [ri_wf, if_pos rfl, m_fill, if_pos ha]))
theorem c63 (hF : Fx s) {q k : Nat} (hi : q * 2 + k - 1 < 10) (h1 : 1 ≤ q * 2 + k) (hq : Q none (mR (wi s 52 (q * 2 + k - 1) v))) : gE X (d + 1) 63 [.ref 50, .int (nI q), .int (nI k), .int v] (mR s) Q := by
  refine en63 rfl rfl rfl rfl ?_
  refine g_p t63_0 rfl ?_
  refine r_getr t63_1 (f50 hF) rfl rfl ?_
  refine g_p t63_4 rfl ?_
  refine g_k (n := 2) t63_5 rfl rfl ?_
  refine g_muln t63_6 ?_
  refine g_p t63_7 rfl ?_
  refine g_addn t63_8 ?_
  refine g_k (n := 1) t63_9 rfl rfl ?_
  refine g_subn t63_10 h1 ?_
  refine g_p t63_11 rfl ?_
  refine r_cv t63_12 (f51 hF) rfl ?_
  refine c31 (by exact fN51 hF) hi ?_
  refine k_0 ?_
  exact v_ret t63_15 hq
theorem c66 (hF : Fx s) (hc : c < 243) (e : ri s 54 c = v) (hq : Q (some (.int v)) (mR s)) : gE X (d + 1) 66 [.ref 50, .int (nI c)] (mR s) Q := by
  refine en66 rfl rfl ?_
  refine g_p t66_0 rfl ?_
  refine r_getr t66_1 (f50 hF) rfl rfl ?_
  refine g_p t66_4 rfl ?_
  refine r_cv t66_5 (f53 hF) rfl ?_
  refine c30e (by exact fN53 hF) hc e ?_
  refine k_v ?_ rfl
  exact i_ret t66_8 rfl hq
theorem c65 (hF : Fx s) (hR : CR P s) (hL : CL P L s) (hc : c < mn P) (ht : t < mn P) (hq : Q (some (.int (bI (rg P L c t)))) (mR s)) : gE X (d + 2) 65 [.ref 50, .int (nI c), .int (nI t)] (mR s) Q := by
  have hP5 := hR.2.2.1
  have Z : ∀ z7 z8, gG X (d + 2) 65 87 [.ref 50, .int (nI c), .int (nI t), .int (hI (rgh P c t P)), .int (tI (rgt P c t P)), .int (nI (sI (rgh P c t P))), .int (nI P), z7, z8] [] (mR s) Q := by
    intro z7 z8
    unfold rg at hq
    cases h1 : rgh P c t P with
    | none =>
      rw [h1] at hq
      show gG X (d + 2) 65 87 [.ref 50, .int (nI c), .int (nI t), .int (-1), .int (tI (rgt P c t P)), .int (nI 0), .int (nI P), z7, z8] [] (mR s) Q
      refine g_p t65_87 rfl ?_
      refine g_p t65_88 rfl ?_
      refine g_ceq t65_89 (fun h89 => ?_) (fun h89 => ?_)
      · refine g_k (n := 1) t65_132 rfl rfl ?_
        refine g_goto t65_133 ?_
        exact b_ret t65_137 rfl hq
      · exact absurd rfl h89
    | some z =>
      obtain ⟨h, k⟩ := z
      obtain ⟨hh, hk, hk0⟩ := rgh_some P h1
      have hk3 := pt_lt P c h
      cases h2 : rgt P c t P with
      | none =>
        rw [h1, h2] at hq
        show gG X (d + 2) 65 87 [.ref 50, .int (nI c), .int (nI t), .int (nI h), .int (-1), .int (nI k), .int (nI P), z7, z8] [] (mR s) Q
        refine g_p t65_87 rfl ?_
        refine g_p t65_88 rfl ?_
        refine g_ceq t65_89 (fun h89 => ?_) (fun h89 => ?_)
        · refine g_k (n := 1) t65_132 rfl rfl ?_
          refine g_goto t65_133 ?_
          exact b_ret t65_137 rfl hq
        · refine g_p t65_92 rfl ?_
          refine g_p t65_94 rfl ?_
          refine g_ceq t65_95 (fun h95 => ?_) (fun h95 => ?_)
          · refine g_k (n := 1) t65_132 rfl rfl ?_
            refine g_goto t65_133 ?_
            exact b_ret t65_137 rfl hq
          · exact absurd rfl h95
      | some u =>
        have hu := rgt_some P h2
        rw [h1, h2] at hq
        replace hq : Q (some (.int (bI (decide (L h k ≤ L u k))))) (mR s) := hq
        show gG X (d + 2) 65 87 [.ref 50, .int (nI c), .int (nI t), .int (nI h), .int (nI u), .int (nI k), .int (nI P), z7, z8] [] (mR s) Q
        refine g_p t65_87 rfl ?_
        refine g_p t65_88 rfl ?_
        refine g_ceq t65_89 (fun h89 => ?_) (fun h89 => ?_)
        · refine g_k (n := 1) t65_132 rfl rfl ?_
          refine g_goto t65_133 ?_
          first
            | exact absurd h89 (nI_m1 (by omega))
            | exact absurd h95 (nI_m1 (by omega))
            | exact b_ret t65_137 (by rw [decide_eq_false (Int32.not_le.mpr h129)]; rfl) hq
            | exact b_ret t65_137 (by rw [decide_eq_true (Int32.not_lt.mp h129)]; rfl) hq
        · refine g_p t65_92 rfl ?_
          refine g_p t65_94 rfl ?_
          refine g_ceq t65_95 (fun h95 => ?_) (fun h95 => ?_)
          · refine g_k (n := 1) t65_132 rfl rfl ?_
            refine g_goto t65_133 ?_
            first
              | exact absurd h89 (nI_m1 (by omega))
              | exact absurd h95 (nI_m1 (by omega))
              | exact b_ret t65_137 (by rw [decide_eq_false (Int32.not_le.mpr h129)]; rfl) hq
              | exact b_ret t65_137 (by rw [decide_eq_true (Int32.not_lt.mp h129)]; rfl) hq
          · refine g_p t65_98 rfl ?_
            refine r_getr t65_99 (f50 hF) rfl rfl ?_
            refine g_p t65_102 rfl ?_
            refine g_k (n := 2) t65_104 rfl rfl ?_
            refine g_muln t65_105 ?_
            refine g_p t65_106 rfl ?_
            refine g_addn t65_108 ?_
            refine g_k (n := 1) t65_109 rfl rfl ?_
            refine g_subn t65_110 (by omega) ?_
            refine r_cv t65_111 (f51 hF) rfl ?_
            refine c30e (by exact fN51 hF) (by omega) (hL u hu k (by omega)) ?_
            refine k_v ?_ rfl
            refine g_p t65_114 rfl ?_
            refine r_getr t65_115 (f50 hF) rfl rfl ?_
            refine g_p t65_118 rfl ?_
            refine g_k (n := 2) t65_119 rfl rfl ?_
            refine g_muln t65_120 ?_
            refine g_p t65_121 rfl ?_
            refine g_addn t65_123 ?_
            refine g_k (n := 1) t65_124 rfl rfl ?_
            refine g_subn t65_125 (by omega) ?_
            refine r_cv t65_126 (f51 hF) rfl ?_
            refine c30e (by exact fN51 hF) (by omega) (hL h hh k (by omega)) ?_
            refine k_v ?_ rfl
            refine g_clt t65_129 (fun h129 => ?_) (fun h129 => ?_)
            · refine g_k (n := 0) t65_136 rfl rfl ?_
              first
                | exact absurd h89 (nI_m1 (by omega))
                | exact absurd h95 (nI_m1 (by omega))
                | exact b_ret t65_137 (by rw [decide_eq_false (Int32.not_le.mpr h129)]; rfl) hq
                | exact b_ret t65_137 (by rw [decide_eq_true (Int32.not_lt.mp h129)]; rfl) hq
            · refine g_k (n := 1) t65_132 rfl rfl ?_
              refine g_goto t65_133 ?_
              first
                | exact absurd h89 (nI_m1 (by omega))
                | exact absurd h95 (nI_m1 (by omega))
                | exact b_ret t65_137 (by rw [decide_eq_false (Int32.not_le.mpr h129)]; rfl) hq
                | exact b_ret t65_137 (by rw [decide_eq_true (Int32.not_lt.mp h129)]; rfl) hq
  have K : ∀ j q : Nat, q + j = P → ∀ z7 z8, am_nl z7 = true → gG X (d + 2) 65 11 [.ref 50, .int (nI c), .int (nI t), .int (hI (rgh P c t q)), .int (tI (rgt P c t q)), .int (nI (sI (rgh P c t q))), .int (nI q), z7, z8] [] (mR s) Q := by
    intro j
    induction j with
    | zero =>
      intro q hj z7 z8 n7
      have hj : q = P := by omega
      subst hj
      refine g_p t65_11 rfl ?_
      refine g_p t65_13 rfl ?_
      refine r_getr t65_14 (f50 hF) rfl rfl ?_
      refine r_cv t65_17 (f19 hF) rfl ?_
      refine c74 (by exact hF) hR.1 ?_
      refine k_v ?_ rfl
      refine n_cge t65_20 (by omega) (by omega) (fun h20 => ?_) (fun h20 => ?_)
      · exact Z z7 z8
      · exfalso; omega
    | succ j ih =>
      intro q hj z7 z8 n7
      have hqP : q < P := by omega
      have hp1 := pt_lt P c q
      have hp2 := pt_lt P t q
      refine g_p t65_11 rfl ?_
      refine g_p t65_13 rfl ?_
      refine r_getr t65_14 (f50 hF) rfl rfl ?_
      refine r_cv t65_17 (f19 hF) rfl ?_
      refine c74 (by exact hF) hR.1 ?_
      refine k_v ?_ rfl
      refine n_cge t65_20 (by omega) (by omega) (fun h20 => ?_) (fun h20 => ?_)
      · exfalso; omega
      · refine g_p t65_23 rfl ?_
        refine r_getr t65_24 (f50 hF) rfl rfl ?_
        refine g_p t65_27 rfl ?_
        refine g_p t65_28 rfl ?_
        refine r_cv t65_30 (f19 hF) rfl ?_
        refine c77 (by exact hF) (c5q hP5 hc hqP) (hR.2.2.2.1 c q hc hqP) ?_
        refine k_v ?_ rfl
        refine g_is t65_33 (Nat.le_of_ble_eq_true rfl) (am_s1_7 rfl) ?_
        refine g_p t65_35 rfl ?_
        refine r_getr t65_36 (f50 hF) rfl rfl ?_
        refine g_p t65_39 rfl ?_
        refine g_p t65_40 rfl ?_
        refine r_cv t65_42 (f19 hF) rfl ?_
        refine c77 (by exact hF) (c5q hP5 ht hqP) (hR.2.2.2.1 t q ht hqP) ?_
        refine k_v ?_ rfl
        refine g_is t65_45 (Nat.le_of_ble_eq_true rfl) (am_s1_8 rfl) ?_
        refine g_p t65_47 rfl ?_
        refine n_eq t65_49 (by omega) (fun h49 => ?_) (fun h49 => ?_)
        · refine g_p t65_67 rfl ?_
          refine n_ne t65_69 (by omega) (fun h69 => ?_) (fun h69 => ?_)
          · refine g_incn (n := 1) t65_81 rfl rfl (Nat.le_of_ble_eq_true rfl) (am_s1_6 rfl) ?_
            refine g_goto t65_84 ?_
            have := ih (q + 1) (by omega) (.int (nI (pt P c q))) (.int (nI (pt P t q))) rfl
            unfold rgh rgt at this
            first
              | (exfalso; omega)
              | (rw [if_pos (by omega), if_neg (by omega)] at this; exact this)
              | (rw [if_neg (by omega), if_pos (by omega)] at this; exact this)
              | (rw [if_neg (by omega), if_neg (by omega)] at this; exact this)
          · refine g_p t65_72 rfl ?_
            refine n_eq t65_74 (by omega) (fun h74 => ?_) (fun h74 => ?_)
            · refine g_incn (n := 1) t65_81 rfl rfl (Nat.le_of_ble_eq_true rfl) (am_s1_6 rfl) ?_
              refine g_goto t65_84 ?_
              have := ih (q + 1) (by omega) (.int (nI (pt P c q))) (.int (nI (pt P t q))) rfl
              unfold rgh rgt at this
              first
                | (exfalso; omega)
                | (rw [if_pos (by omega), if_neg (by omega)] at this; exact this)
                | (rw [if_neg (by omega), if_pos (by omega)] at this; exact this)
                | (rw [if_neg (by omega), if_neg (by omega)] at this; exact this)
            · refine g_p t65_77 rfl ?_
              refine g_is t65_79 (Nat.le_of_ble_eq_true rfl) (am_s1_4 rfl) ?_
              refine g_incn (n := 1) t65_81 rfl rfl (Nat.le_of_ble_eq_true rfl) (am_s1_6 rfl) ?_
              refine g_goto t65_84 ?_
              have := ih (q + 1) (by omega) (.int (nI (pt P c q))) (.int (nI (pt P t q))) rfl
              unfold rgh rgt at this
              first
                | (exfalso; omega)
                | (rw [if_pos (by omega), if_neg (by omega)] at this; exact this)
                | (rw [if_neg (by omega), if_pos (by omega)] at this; exact this)
                | (rw [if_neg (by omega), if_neg (by omega)] at this; exact this)
        · refine g_p t65_52 rfl ?_
          refine n_ne t65_54 (by omega) (fun h54 => ?_) (fun h54 => ?_)
          · refine g_p t65_67 rfl ?_
            refine n_ne t65_69 (by omega) (fun h69 => ?_) (fun h69 => ?_)
            · refine g_incn (n := 1) t65_81 rfl rfl (Nat.le_of_ble_eq_true rfl) (am_s1_6 rfl) ?_
              refine g_goto t65_84 ?_
              have := ih (q + 1) (by omega) (.int (nI (pt P c q))) (.int (nI (pt P t q))) rfl
              unfold rgh rgt at this
              first
                | (exfalso; omega)
                | (rw [if_pos (by omega), if_neg (by omega)] at this; exact this)
                | (rw [if_neg (by omega), if_pos (by omega)] at this; exact this)
                | (rw [if_neg (by omega), if_neg (by omega)] at this; exact this)
            · refine g_p t65_72 rfl ?_
              refine n_eq t65_74 (by omega) (fun h74 => ?_) (fun h74 => ?_)
              · refine g_incn (n := 1) t65_81 rfl rfl (Nat.le_of_ble_eq_true rfl) (am_s1_6 rfl) ?_
                refine g_goto t65_84 ?_
                have := ih (q + 1) (by omega) (.int (nI (pt P c q))) (.int (nI (pt P t q))) rfl
                unfold rgh rgt at this
                first
                  | (exfalso; omega)
                  | (rw [if_pos (by omega), if_neg (by omega)] at this; exact this)
                  | (rw [if_neg (by omega), if_pos (by omega)] at this; exact this)
                  | (rw [if_neg (by omega), if_neg (by omega)] at this; exact this)
              · refine g_p t65_77 rfl ?_
                refine g_is t65_79 (Nat.le_of_ble_eq_true rfl) (am_s1_4 rfl) ?_
                refine g_incn (n := 1) t65_81 rfl rfl (Nat.le_of_ble_eq_true rfl) (am_s1_6 rfl) ?_
                refine g_goto t65_84 ?_
                have := ih (q + 1) (by omega) (.int (nI (pt P c q))) (.int (nI (pt P t q))) rfl
                unfold rgh rgt at this
                first
                  | (exfalso; omega)
                  | (rw [if_pos (by omega), if_neg (by omega)] at this; exact this)
                  | (rw [if_neg (by omega), if_pos (by omega)] at this; exact this)
                  | (rw [if_neg (by omega), if_neg (by omega)] at this; exact this)
          · refine g_p t65_57 rfl ?_
            refine g_isn t65_59 (Nat.le_of_ble_eq_true rfl) (am_s1_3 rfl) ?_
            refine g_p t65_60 rfl ?_
            refine g_is t65_62 (Nat.le_of_ble_eq_true rfl) (am_s1_5 rfl) ?_
            refine g_goto t65_64 ?_
            refine g_incn (n := 1) t65_81 rfl rfl (Nat.le_of_ble_eq_true rfl) (am_s1_6 rfl) ?_
            refine g_goto t65_84 ?_
            have := ih (q + 1) (by omega) (.int (nI (pt P c q))) (.int (nI (pt P t q))) rfl
            unfold rgh rgt at this
            first
              | (exfalso; omega)
              | (rw [if_pos (by omega), if_neg (by omega)] at this; exact this)
              | (rw [if_neg (by omega), if_pos (by omega)] at this; exact this)
              | (rw [if_neg (by omega), if_neg (by omega)] at this; exact this)
  refine en65 rfl rfl rfl ?_
  refine g_p t65_0 rfl ?_
  refine g_isn t65_1 (Nat.le_of_ble_eq_true rfl) (am_s1_3 rfl) ?_
  refine g_p t65_2 rfl ?_
  refine g_is t65_3 (Nat.le_of_ble_eq_true rfl) (am_s1_4 rfl) ?_
  refine g_k (n := 0) t65_5 rfl rfl ?_
  refine g_is t65_6 (Nat.le_of_ble_eq_true rfl) (am_s1_5 rfl) ?_
  refine g_k (n := 0) t65_8 rfl rfl ?_
  refine g_is t65_9 (Nat.le_of_ble_eq_true rfl) (am_s1_6 rfl) ?_
  exact K P 0 (by omega) _ _ rfl
end RR
