/-! THE FACE: the nearest row that says it -/
def nrl (m : Nat → Bool) (f : Nat → Nat) : Nat → Nat → Option Nat × Nat → Option Nat × Nat
  | 0, _, a => a
  | j + 1, x, a => nrl m f j (x + 1) (if m x = true ∧ f x < a.2 then (some x, f x) else a)
def nrv (P : Nat) (how : Int32) (a : Option Nat × Nat) : Int32 := match a.1 with
  | none => -1
  | some y => if how = 0 then nI a.2 else nI (dg P y)
theorem ds_15 {P r w a x : Nat} {R : Nat → Nat → Bool} (hP : P ≤ 5) (hR : Rok P R) (ha : std P r w a = true) : ds (aj P r w R) 15 a x ≤ 15 := by
  cases hx : std P r w x with
  | true => exact Nat.le_trans (ds_10 hP hR ha hx) (by decide)
  | false => exact Nat.le_of_eq (ds_out ha hx)
section TZ
variable {X : am_X} {d P p p2 : Nat} {s : mM} {hp : am_H} {Q : Option Value → am_H → Prop} {b b2 : Bk} {c1 c2 how : Int32} {f : Nat → Nat}
theorem c148n (hF : Fx s) (hR : CR P s) (qB : Bo s p) (qS : Bs P b p s) (l9 : ∀ x, x < mn P → ri s 54 x = nI (f x)) (hf15 : ∀ x, x < mn P → f x ≤ 15) (hq : Q (some (.int (nrv P how (nrl (fun x => decide (sy P b x = c1)) f (mn P) 0 (none, 15))))) (mR s)) : gE X (d + 3) 148 [.ref 0, .ref p, .int c1, .null, .int c2, .int how] (mR s) Q := by
  have hP5 := hR.2.2.1
  have hm := mn_le hP5
  obtain ⟨W, hW⟩ : ∃ W, W = nrl (fun x => decide (sy P b x = c1)) f (mn P) 0 (none, 15) := ⟨_, rfl⟩
  rw [← hW] at hq
  have K : ∀ (j x : Nat) (a : Option Nat × Nat) (z9 : Value), x + j = mn P → W = nrl (fun x => decide (sy P b x = c1)) f j x a → a.2 ≤ 15 → (∀ y, a.1 = some y → y < mn P) → gG X (d + 3) 148 10 [.ref 0, .ref p, .int c1, .null, .int c2, .int how, .int (oI a.1), .int (nI a.2), .int (nI x), z9] [] (mR s) Q := by
    intro j
    induction j with
    | zero =>
      intro x a z9 hj he ha2 ha1
      have he : W = a := he
      subst he
      obtain ⟨o, dd⟩ := W
      cases o with
      | none =>
        show gG X (d + 3) 148 10 [.ref 0, .ref p, .int c1, .null, .int c2, .int how, .int (-1), .int (nI dd), .int (nI x), z9] [] (mR s) Q
        refine g_p t148_10 rfl ?_
        refine g_p t148_12 rfl ?_
        refine r_getr t148_13 (f0 hF) rfl rfl ?_
        refine r_cv t148_16 (f19 hF) rfl ?_
        refine c76 (by exact hF) (by exact hR.2.1) ?_
        refine k_v ?_ rfl
        refine n_cge t148_19 (by omega) (by omega) (fun h19 => ?_) (fun h19 => ?_)
        · refine g_p t148_94 rfl ?_
          refine g_p t148_96 rfl ?_
          refine g_cne t148_97 (fun h97 => ?_) (fun h97 => ?_)
          · exact absurd rfl h97
          · refine g_p t148_100 rfl ?_
            exact i_ret t148_101 rfl hq
        · exfalso; omega
      | some y =>
        have hy : y < mn P := ha1 y rfl
        have hq : Q (some (.int (if how = 0 then nI dd else nI (dg P y)))) (mR s) := hq
        show gG X (d + 3) 148 10 [.ref 0, .ref p, .int c1, .null, .int c2, .int how, .int (nI y), .int (nI dd), .int (nI x), z9] [] (mR s) Q
        refine g_p t148_10 rfl ?_
        refine g_p t148_12 rfl ?_
        refine r_getr t148_13 (f0 hF) rfl rfl ?_
        refine r_cv t148_16 (f19 hF) rfl ?_
        refine c76 (by exact hF) (by exact hR.2.1) ?_
        refine k_v ?_ rfl
        refine n_cge t148_19 (by omega) (by omega) (fun h19 => ?_) (fun h19 => ?_)
        · refine g_p t148_94 rfl ?_
          refine g_p t148_96 rfl ?_
          refine g_cne t148_97 (fun h97 => ?_) (fun h97 => ?_)
          · refine g_p t148_102 rfl ?_
            refine g_ne t148_104 (fun h104 => ?_) (fun h104 => ?_)
            · refine g_p t148_112 rfl ?_
              refine r_getr t148_113 (f0 hF) rfl rfl ?_
              refine g_p t148_116 rfl ?_
              refine r_cv t148_118 (f19 hF) rfl ?_
              refine c85 (by exact hF) hR.1 hP5 hR.2.2.2.1 (Or.inl hy) ?_
              refine k_v ?_ rfl
              first
                | (have u0 : ¬ how = 0 := h104
                   rw [if_neg u0] at hq
                   exact i_ret t148_121 rfl hq)
                | (have u0 : how = 0 := h104
                   rw [if_pos u0] at hq
                   exact i_ret t148_121 rfl hq)
            · refine g_p t148_107 rfl ?_
              refine g_goto t148_109 ?_
              first
                | (have u0 : ¬ how = 0 := h104
                   rw [if_neg u0] at hq
                   exact i_ret t148_121 rfl hq)
                | (have u0 : how = 0 := h104
                   rw [if_pos u0] at hq
                   exact i_ret t148_121 rfl hq)
          · exact absurd h97 (nI_m1 (by omega))
        · exfalso; omega
    | succ j ih =>
      intro x a z9 hj he ha2 ha1
      have hx : x < mn P := by omega
      have hfx := hf15 x hx
      unfold nrl at he
      by_cases l1 : (fun x => decide (sy P b x = c1)) x = true ∧ f x < a.2
      · rw [if_pos l1] at he
        refine g_p t148_10 rfl ?_
        refine g_p t148_12 rfl ?_
        refine r_getr t148_13 (f0 hF) rfl rfl ?_
        refine r_cv t148_16 (f19 hF) rfl ?_
        refine c76 (by exact hF) (by exact hR.2.1) ?_
        refine k_v ?_ rfl
        refine n_cge t148_19 (by omega) (by omega) (fun h19 => ?_) (fun h19 => ?_)
        · exfalso; omega
        · refine g_p t148_22 rfl ?_
          refine g_p t148_23 rfl ?_
          refine r_cv t148_25 qB.1 rfl ?_
          refine c10 (by exact qB) (by omega) (by exact qS x hx) ?_
          refine k_v ?_ rfl
          refine g_p t148_28 rfl ?_
          refine g_cne t148_29 (fun h29 => ?_) (fun h29 => ?_)
          · exact absurd (of_decide_eq_true l1.1) h29
          · refine g_p t148_32 rfl ?_
            refine g_b (b := true) t148_33 rfl ?_
            refine g_k (n := 1) t148_47 rfl rfl ?_
            refine g_goto t148_48 ?_
            refine g_is t148_52 (Nat.le_of_ble_eq_true rfl) (am_s1_9 rfl) ?_
            refine g_p t148_54 rfl ?_
            refine n_eq t148_56 (by omega) (fun h56 => ?_) (fun h56 => ?_)
            · refine g_incn (n := 1) t148_88 rfl rfl (Nat.le_of_ble_eq_true rfl) (am_s1_8 rfl) ?_
              refine g_goto t148_91 ?_
              first
                | (have u0 : ¬ a.2 ≤ f x := h70
                   exact ih (x + 1) (some x, f x) _ (by omega) he hfx (fun y hy => by cases hy; exact hx))
                | (have u0 : a.2 ≤ f x := h70
                   exact absurd l1.2 (Nat.not_lt_of_le u0))
                | (have u0 : (1 : Nat) = 0 := h56
                   exact absurd u0 (by decide))
            · refine g_p t148_59 rfl ?_
              refine r_getr t148_60 (f0 hF) rfl rfl ?_
              refine g_p t148_63 rfl ?_
              refine r_cv t148_65 (f50 hF) rfl ?_
              refine c66 (by exact hF) (by omega) (by exact l9 x hx) ?_
              refine k_v ?_ rfl
              refine g_p t148_68 rfl ?_
              refine n_cge t148_70 (by omega) (by omega) (fun h70 => ?_) (fun h70 => ?_)
              · refine g_incn (n := 1) t148_88 rfl rfl (Nat.le_of_ble_eq_true rfl) (am_s1_8 rfl) ?_
                refine g_goto t148_91 ?_
                first
                  | (have u0 : ¬ a.2 ≤ f x := h70
                     exact ih (x + 1) (some x, f x) _ (by omega) he hfx (fun y hy => by cases hy; exact hx))
                  | (have u0 : a.2 ≤ f x := h70
                     exact absurd l1.2 (Nat.not_lt_of_le u0))
                  | (have u0 : (1 : Nat) = 0 := h56
                     exact absurd u0 (by decide))
              · refine g_p t148_73 rfl ?_
                refine g_is t148_75 (Nat.le_of_ble_eq_true rfl) (am_s1_6 rfl) ?_
                refine g_p t148_77 rfl ?_
                refine r_getr t148_78 (f0 hF) rfl rfl ?_
                refine g_p t148_81 rfl ?_
                refine r_cv t148_83 (f50 hF) rfl ?_
                refine c66 (by exact hF) (by omega) (by exact l9 x hx) ?_
                refine k_v ?_ rfl
                refine g_is t148_86 (Nat.le_of_ble_eq_true rfl) (am_s1_7 rfl) ?_
                refine g_incn (n := 1) t148_88 rfl rfl (Nat.le_of_ble_eq_true rfl) (am_s1_8 rfl) ?_
                refine g_goto t148_91 ?_
                first
                  | (have u0 : ¬ a.2 ≤ f x := h70
                     exact ih (x + 1) (some x, f x) _ (by omega) he hfx (fun y hy => by cases hy; exact hx))
                  | (have u0 : a.2 ≤ f x := h70
                     exact absurd l1.2 (Nat.not_lt_of_le u0))
                  | (have u0 : (1 : Nat) = 0 := h56
                     exact absurd u0 (by decide))
      · rw [if_neg l1] at he
        refine g_p t148_10 rfl ?_
        refine g_p t148_12 rfl ?_
        refine r_getr t148_13 (f0 hF) rfl rfl ?_
        refine r_cv t148_16 (f19 hF) rfl ?_
        refine c76 (by exact hF) (by exact hR.2.1) ?_
        refine k_v ?_ rfl
        refine n_cge t148_19 (by omega) (by omega) (fun h19 => ?_) (fun h19 => ?_)
        · exfalso; omega
        · refine g_p t148_22 rfl ?_
          refine g_p t148_23 rfl ?_
          refine r_cv t148_25 qB.1 rfl ?_
          refine c10 (by exact qB) (by omega) (by exact qS x hx) ?_
          refine k_v ?_ rfl
          refine g_p t148_28 rfl ?_
          refine g_cne t148_29 (fun h29 => ?_) (fun h29 => ?_)
          · refine g_k (n := 0) t148_51 rfl rfl ?_
            refine g_is t148_52 (Nat.le_of_ble_eq_true rfl) (am_s1_9 rfl) ?_
            refine g_p t148_54 rfl ?_
            refine n_eq t148_56 (by omega) (fun h56 => ?_) (fun h56 => ?_)
            · refine g_incn (n := 1) t148_88 rfl rfl (Nat.le_of_ble_eq_true rfl) (am_s1_8 rfl) ?_
              refine g_goto t148_91 ?_
              exact ih (x + 1) a _ (by omega) he ha2 ha1
            · refine g_p t148_59 rfl ?_
              refine r_getr t148_60 (f0 hF) rfl rfl ?_
              refine g_p t148_63 rfl ?_
              refine r_cv t148_65 (f50 hF) rfl ?_
              refine c66 (by exact hF) (by omega) (by exact l9 x hx) ?_
              refine k_v ?_ rfl
              refine g_p t148_68 rfl ?_
              refine n_cge t148_70 (by omega) (by omega) (fun h70 => ?_) (fun h70 => ?_)
              · refine g_incn (n := 1) t148_88 rfl rfl (Nat.le_of_ble_eq_true rfl) (am_s1_8 rfl) ?_
                refine g_goto t148_91 ?_
                exact ih (x + 1) a _ (by omega) he ha2 ha1
              · first
                  | (have u0 : ¬ (1 : Nat) = 0 := h56
                     exact absurd ⟨decide_eq_true (h29), Nat.lt_of_not_le h70⟩ l1)
                  | (have u0 : ¬ (0 : Nat) = 0 := h56
                     exact absurd rfl u0)
          · refine g_p t148_32 rfl ?_
            refine g_b (b := true) t148_33 rfl ?_
            refine g_k (n := 1) t148_47 rfl rfl ?_
            refine g_goto t148_48 ?_
            refine g_is t148_52 (Nat.le_of_ble_eq_true rfl) (am_s1_9 rfl) ?_
            refine g_p t148_54 rfl ?_
            refine n_eq t148_56 (by omega) (fun h56 => ?_) (fun h56 => ?_)
            · refine g_incn (n := 1) t148_88 rfl rfl (Nat.le_of_ble_eq_true rfl) (am_s1_8 rfl) ?_
              refine g_goto t148_91 ?_
              exact ih (x + 1) a _ (by omega) he ha2 ha1
            · refine g_p t148_59 rfl ?_
              refine r_getr t148_60 (f0 hF) rfl rfl ?_
              refine g_p t148_63 rfl ?_
              refine r_cv t148_65 (f50 hF) rfl ?_
              refine c66 (by exact hF) (by omega) (by exact l9 x hx) ?_
              refine k_v ?_ rfl
              refine g_p t148_68 rfl ?_
              refine n_cge t148_70 (by omega) (by omega) (fun h70 => ?_) (fun h70 => ?_)
              · refine g_incn (n := 1) t148_88 rfl rfl (Nat.le_of_ble_eq_true rfl) (am_s1_8 rfl) ?_
                refine g_goto t148_91 ?_
                exact ih (x + 1) a _ (by omega) he ha2 ha1
              · first
                  | (have u0 : ¬ (1 : Nat) = 0 := h56
                     exact absurd ⟨decide_eq_true (h29), Nat.lt_of_not_le h70⟩ l1)
                  | (have u0 : ¬ (0 : Nat) = 0 := h56
                     exact absurd rfl u0)
  refine en148 rfl rfl rfl rfl rfl rfl ?_
  refine g_p t148_0 rfl ?_
  refine g_is t148_1 (Nat.le_of_ble_eq_true rfl) (am_s1_6 rfl) ?_
  refine g_k (n := 15) t148_3 rfl rfl ?_
  refine g_is t148_5 (Nat.le_of_ble_eq_true rfl) (am_s1_7 rfl) ?_
  refine g_k (n := 0) t148_7 rfl rfl ?_
  refine g_is t148_8 (Nat.le_of_ble_eq_true rfl) (am_s1_8 rfl) ?_
  exact K (mn P) 0 (none, 15) _ (Nat.zero_add _) hW (Nat.le_refl _) (fun y hy => by cases hy)
theorem c148b (hF : Fx s) (hR : CR P s) (qB : Bo s p) (qS : Bs P b p s) (qB2 : Bo s p2) (qS2 : Bs P b2 p2 s) (l9 : ∀ x, x < mn P → ri s 54 x = nI (f x)) (hf15 : ∀ x, x < mn P → f x ≤ 15) (hq : Q (some (.int (nrv P how (nrl (fun x => decide (sy P b x = c1) && decide (sy P b2 x = c2)) f (mn P) 0 (none, 15))))) (mR s)) : gE X (d + 3) 148 [.ref 0, .ref p, .int c1, .ref p2, .int c2, .int how] (mR s) Q := by
  have hP5 := hR.2.2.1
  have hm := mn_le hP5
  obtain ⟨W, hW⟩ : ∃ W, W = nrl (fun x => decide (sy P b x = c1) && decide (sy P b2 x = c2)) f (mn P) 0 (none, 15) := ⟨_, rfl⟩
  rw [← hW] at hq
  have K : ∀ (j x : Nat) (a : Option Nat × Nat) (z9 : Value), x + j = mn P → W = nrl (fun x => decide (sy P b x = c1) && decide (sy P b2 x = c2)) f j x a → a.2 ≤ 15 → (∀ y, a.1 = some y → y < mn P) → gG X (d + 3) 148 10 [.ref 0, .ref p, .int c1, .ref p2, .int c2, .int how, .int (oI a.1), .int (nI a.2), .int (nI x), z9] [] (mR s) Q := by
    intro j
    induction j with
    | zero =>
      intro x a z9 hj he ha2 ha1
      have he : W = a := he
      subst he
      obtain ⟨o, dd⟩ := W
      cases o with
      | none =>
        show gG X (d + 3) 148 10 [.ref 0, .ref p, .int c1, .ref p2, .int c2, .int how, .int (-1), .int (nI dd), .int (nI x), z9] [] (mR s) Q
        refine g_p t148_10 rfl ?_
        refine g_p t148_12 rfl ?_
        refine r_getr t148_13 (f0 hF) rfl rfl ?_
        refine r_cv t148_16 (f19 hF) rfl ?_
        refine c76 (by exact hF) (by exact hR.2.1) ?_
        refine k_v ?_ rfl
        refine n_cge t148_19 (by omega) (by omega) (fun h19 => ?_) (fun h19 => ?_)
        · refine g_p t148_94 rfl ?_
          refine g_p t148_96 rfl ?_
          refine g_cne t148_97 (fun h97 => ?_) (fun h97 => ?_)
          · exact absurd rfl h97
          · refine g_p t148_100 rfl ?_
            exact i_ret t148_101 rfl hq
        · exfalso; omega
      | some y =>
        have hy : y < mn P := ha1 y rfl
        have hq : Q (some (.int (if how = 0 then nI dd else nI (dg P y)))) (mR s) := hq
        show gG X (d + 3) 148 10 [.ref 0, .ref p, .int c1, .ref p2, .int c2, .int how, .int (nI y), .int (nI dd), .int (nI x), z9] [] (mR s) Q
        refine g_p t148_10 rfl ?_
        refine g_p t148_12 rfl ?_
        refine r_getr t148_13 (f0 hF) rfl rfl ?_
        refine r_cv t148_16 (f19 hF) rfl ?_
        refine c76 (by exact hF) (by exact hR.2.1) ?_
        refine k_v ?_ rfl
        refine n_cge t148_19 (by omega) (by omega) (fun h19 => ?_) (fun h19 => ?_)
        · refine g_p t148_94 rfl ?_
          refine g_p t148_96 rfl ?_
          refine g_cne t148_97 (fun h97 => ?_) (fun h97 => ?_)
          · refine g_p t148_102 rfl ?_
            refine g_ne t148_104 (fun h104 => ?_) (fun h104 => ?_)
            · refine g_p t148_112 rfl ?_
              refine r_getr t148_113 (f0 hF) rfl rfl ?_
              refine g_p t148_116 rfl ?_
              refine r_cv t148_118 (f19 hF) rfl ?_
              refine c85 (by exact hF) hR.1 hP5 hR.2.2.2.1 (Or.inl hy) ?_
              refine k_v ?_ rfl
              first
                | (have u0 : ¬ how = 0 := h104
                   rw [if_neg u0] at hq
                   exact i_ret t148_121 rfl hq)
                | (have u0 : how = 0 := h104
                   rw [if_pos u0] at hq
                   exact i_ret t148_121 rfl hq)
            · refine g_p t148_107 rfl ?_
              refine g_goto t148_109 ?_
              first
                | (have u0 : ¬ how = 0 := h104
                   rw [if_neg u0] at hq
                   exact i_ret t148_121 rfl hq)
                | (have u0 : how = 0 := h104
                   rw [if_pos u0] at hq
                   exact i_ret t148_121 rfl hq)
          · exact absurd h97 (nI_m1 (by omega))
        · exfalso; omega
    | succ j ih =>
      intro x a z9 hj he ha2 ha1
      have hx : x < mn P := by omega
      have hfx := hf15 x hx
      unfold nrl at he
      by_cases l1 : (fun x => decide (sy P b x = c1) && decide (sy P b2 x = c2)) x = true ∧ f x < a.2
      · rw [if_pos l1] at he
        refine g_p t148_10 rfl ?_
        refine g_p t148_12 rfl ?_
        refine r_getr t148_13 (f0 hF) rfl rfl ?_
        refine r_cv t148_16 (f19 hF) rfl ?_
        refine c76 (by exact hF) (by exact hR.2.1) ?_
        refine k_v ?_ rfl
        refine n_cge t148_19 (by omega) (by omega) (fun h19 => ?_) (fun h19 => ?_)
        · exfalso; omega
        · refine g_p t148_22 rfl ?_
          refine g_p t148_23 rfl ?_
          refine r_cv t148_25 qB.1 rfl ?_
          refine c10 (by exact qB) (by omega) (by exact qS x hx) ?_
          refine k_v ?_ rfl
          refine g_p t148_28 rfl ?_
          refine g_cne t148_29 (fun h29 => ?_) (fun h29 => ?_)
          · have l4 := l1.1
            rw [Bool.and_eq_true] at l4
            first
              | (have u0 := h44; exact absurd (of_decide_eq_true l4.2) u0)
              | (have u0 := h29; exact absurd (of_decide_eq_true l4.1) u0)
          · refine g_p t148_32 rfl ?_
            refine g_b (b := false) t148_33 rfl ?_
            refine g_p t148_36 rfl ?_
            refine g_p t148_37 rfl ?_
            refine r_cv t148_39 qB2.1 rfl ?_
            refine c10 (by exact qB2) (by omega) (by exact qS2 x hx) ?_
            refine k_v ?_ rfl
            refine g_p t148_42 rfl ?_
            refine g_cne t148_44 (fun h44 => ?_) (fun h44 => ?_)
            · have l4 := l1.1
              rw [Bool.and_eq_true] at l4
              first
                | (have u0 := h44; exact absurd (of_decide_eq_true l4.2) u0)
                | (have u0 := h29; exact absurd (of_decide_eq_true l4.1) u0)
            · refine g_k (n := 1) t148_47 rfl rfl ?_
              refine g_goto t148_48 ?_
              refine g_is t148_52 (Nat.le_of_ble_eq_true rfl) (am_s1_9 rfl) ?_
              refine g_p t148_54 rfl ?_
              refine n_eq t148_56 (by omega) (fun h56 => ?_) (fun h56 => ?_)
              · refine g_incn (n := 1) t148_88 rfl rfl (Nat.le_of_ble_eq_true rfl) (am_s1_8 rfl) ?_
                refine g_goto t148_91 ?_
                first
                  | (have u0 : ¬ a.2 ≤ f x := h70
                     exact ih (x + 1) (some x, f x) _ (by omega) he hfx (fun y hy => by cases hy; exact hx))
                  | (have u0 : a.2 ≤ f x := h70
                     exact absurd l1.2 (Nat.not_lt_of_le u0))
                  | (have u0 : (1 : Nat) = 0 := h56
                     exact absurd u0 (by decide))
              · refine g_p t148_59 rfl ?_
                refine r_getr t148_60 (f0 hF) rfl rfl ?_
                refine g_p t148_63 rfl ?_
                refine r_cv t148_65 (f50 hF) rfl ?_
                refine c66 (by exact hF) (by omega) (by exact l9 x hx) ?_
                refine k_v ?_ rfl
                refine g_p t148_68 rfl ?_
                refine n_cge t148_70 (by omega) (by omega) (fun h70 => ?_) (fun h70 => ?_)
                · refine g_incn (n := 1) t148_88 rfl rfl (Nat.le_of_ble_eq_true rfl) (am_s1_8 rfl) ?_
                  refine g_goto t148_91 ?_
                  first
                    | (have u0 : ¬ a.2 ≤ f x := h70
                       exact ih (x + 1) (some x, f x) _ (by omega) he hfx (fun y hy => by cases hy; exact hx))
                    | (have u0 : a.2 ≤ f x := h70
                       exact absurd l1.2 (Nat.not_lt_of_le u0))
                    | (have u0 : (1 : Nat) = 0 := h56
                       exact absurd u0 (by decide))
                · refine g_p t148_73 rfl ?_
                  refine g_is t148_75 (Nat.le_of_ble_eq_true rfl) (am_s1_6 rfl) ?_
                  refine g_p t148_77 rfl ?_
                  refine r_getr t148_78 (f0 hF) rfl rfl ?_
                  refine g_p t148_81 rfl ?_
                  refine r_cv t148_83 (f50 hF) rfl ?_
                  refine c66 (by exact hF) (by omega) (by exact l9 x hx) ?_
                  refine k_v ?_ rfl
                  refine g_is t148_86 (Nat.le_of_ble_eq_true rfl) (am_s1_7 rfl) ?_
                  refine g_incn (n := 1) t148_88 rfl rfl (Nat.le_of_ble_eq_true rfl) (am_s1_8 rfl) ?_
                  refine g_goto t148_91 ?_
                  first
                    | (have u0 : ¬ a.2 ≤ f x := h70
                       exact ih (x + 1) (some x, f x) _ (by omega) he hfx (fun y hy => by cases hy; exact hx))
                    | (have u0 : a.2 ≤ f x := h70
                       exact absurd l1.2 (Nat.not_lt_of_le u0))
                    | (have u0 : (1 : Nat) = 0 := h56
                       exact absurd u0 (by decide))
      · rw [if_neg l1] at he
        refine g_p t148_10 rfl ?_
        refine g_p t148_12 rfl ?_
        refine r_getr t148_13 (f0 hF) rfl rfl ?_
        refine r_cv t148_16 (f19 hF) rfl ?_
        refine c76 (by exact hF) (by exact hR.2.1) ?_
        refine k_v ?_ rfl
        refine n_cge t148_19 (by omega) (by omega) (fun h19 => ?_) (fun h19 => ?_)
        · exfalso; omega
        · refine g_p t148_22 rfl ?_
          refine g_p t148_23 rfl ?_
          refine r_cv t148_25 qB.1 rfl ?_
          refine c10 (by exact qB) (by omega) (by exact qS x hx) ?_
          refine k_v ?_ rfl
          refine g_p t148_28 rfl ?_
          refine g_cne t148_29 (fun h29 => ?_) (fun h29 => ?_)
          · refine g_k (n := 0) t148_51 rfl rfl ?_
            refine g_is t148_52 (Nat.le_of_ble_eq_true rfl) (am_s1_9 rfl) ?_
            refine g_p t148_54 rfl ?_
            refine n_eq t148_56 (by omega) (fun h56 => ?_) (fun h56 => ?_)
            · refine g_incn (n := 1) t148_88 rfl rfl (Nat.le_of_ble_eq_true rfl) (am_s1_8 rfl) ?_
              refine g_goto t148_91 ?_
              exact ih (x + 1) a _ (by omega) he ha2 ha1
            · refine g_p t148_59 rfl ?_
              refine r_getr t148_60 (f0 hF) rfl rfl ?_
              refine g_p t148_63 rfl ?_
              refine r_cv t148_65 (f50 hF) rfl ?_
              refine c66 (by exact hF) (by omega) (by exact l9 x hx) ?_
              refine k_v ?_ rfl
              refine g_p t148_68 rfl ?_
              refine n_cge t148_70 (by omega) (by omega) (fun h70 => ?_) (fun h70 => ?_)
              · refine g_incn (n := 1) t148_88 rfl rfl (Nat.le_of_ble_eq_true rfl) (am_s1_8 rfl) ?_
                refine g_goto t148_91 ?_
                exact ih (x + 1) a _ (by omega) he ha2 ha1
              · first
                  | (have u0 : ¬ (1 : Nat) = 0 := h56
                     refine absurd ⟨?_, Nat.lt_of_not_le h70⟩ l1
                     rw [Bool.and_eq_true]
                     exact ⟨decide_eq_true (h29), decide_eq_true (h44)⟩)
                  | (have u0 : ¬ (0 : Nat) = 0 := h56
                     exact absurd rfl u0)
          · refine g_p t148_32 rfl ?_
            refine g_b (b := false) t148_33 rfl ?_
            refine g_p t148_36 rfl ?_
            refine g_p t148_37 rfl ?_
            refine r_cv t148_39 qB2.1 rfl ?_
            refine c10 (by exact qB2) (by omega) (by exact qS2 x hx) ?_
            refine k_v ?_ rfl
            refine g_p t148_42 rfl ?_
            refine g_cne t148_44 (fun h44 => ?_) (fun h44 => ?_)
            · refine g_k (n := 0) t148_51 rfl rfl ?_
              refine g_is t148_52 (Nat.le_of_ble_eq_true rfl) (am_s1_9 rfl) ?_
              refine g_p t148_54 rfl ?_
              refine n_eq t148_56 (by omega) (fun h56 => ?_) (fun h56 => ?_)
              · refine g_incn (n := 1) t148_88 rfl rfl (Nat.le_of_ble_eq_true rfl) (am_s1_8 rfl) ?_
                refine g_goto t148_91 ?_
                exact ih (x + 1) a _ (by omega) he ha2 ha1
              · refine g_p t148_59 rfl ?_
                refine r_getr t148_60 (f0 hF) rfl rfl ?_
                refine g_p t148_63 rfl ?_
                refine r_cv t148_65 (f50 hF) rfl ?_
                refine c66 (by exact hF) (by omega) (by exact l9 x hx) ?_
                refine k_v ?_ rfl
                refine g_p t148_68 rfl ?_
                refine n_cge t148_70 (by omega) (by omega) (fun h70 => ?_) (fun h70 => ?_)
                · refine g_incn (n := 1) t148_88 rfl rfl (Nat.le_of_ble_eq_true rfl) (am_s1_8 rfl) ?_
                  refine g_goto t148_91 ?_
                  exact ih (x + 1) a _ (by omega) he ha2 ha1
                · first
                    | (have u0 : ¬ (1 : Nat) = 0 := h56
                       refine absurd ⟨?_, Nat.lt_of_not_le h70⟩ l1
                       rw [Bool.and_eq_true]
                       exact ⟨decide_eq_true (h29), decide_eq_true (h44)⟩)
                    | (have u0 : ¬ (0 : Nat) = 0 := h56
                       exact absurd rfl u0)
            · refine g_k (n := 1) t148_47 rfl rfl ?_
              refine g_goto t148_48 ?_
              refine g_is t148_52 (Nat.le_of_ble_eq_true rfl) (am_s1_9 rfl) ?_
              refine g_p t148_54 rfl ?_
              refine n_eq t148_56 (by omega) (fun h56 => ?_) (fun h56 => ?_)
              · refine g_incn (n := 1) t148_88 rfl rfl (Nat.le_of_ble_eq_true rfl) (am_s1_8 rfl) ?_
                refine g_goto t148_91 ?_
                exact ih (x + 1) a _ (by omega) he ha2 ha1
              · refine g_p t148_59 rfl ?_
                refine r_getr t148_60 (f0 hF) rfl rfl ?_
                refine g_p t148_63 rfl ?_
                refine r_cv t148_65 (f50 hF) rfl ?_
                refine c66 (by exact hF) (by omega) (by exact l9 x hx) ?_
                refine k_v ?_ rfl
                refine g_p t148_68 rfl ?_
                refine n_cge t148_70 (by omega) (by omega) (fun h70 => ?_) (fun h70 => ?_)
                · refine g_incn (n := 1) t148_88 rfl rfl (Nat.le_of_ble_eq_true rfl) (am_s1_8 rfl) ?_
                  refine g_goto t148_91 ?_
                  exact ih (x + 1) a _ (by omega) he ha2 ha1
                · first
                    | (have u0 : ¬ (1 : Nat) = 0 := h56
                       refine absurd ⟨?_, Nat.lt_of_not_le h70⟩ l1
                       rw [Bool.and_eq_true]
                       exact ⟨decide_eq_true (h29), decide_eq_true (h44)⟩)
                    | (have u0 : ¬ (0 : Nat) = 0 := h56
                       exact absurd rfl u0)
  refine en148 rfl rfl rfl rfl rfl rfl ?_
  refine g_p t148_0 rfl ?_
  refine g_is t148_1 (Nat.le_of_ble_eq_true rfl) (am_s1_6 rfl) ?_
  refine g_k (n := 15) t148_3 rfl rfl ?_
  refine g_is t148_5 (Nat.le_of_ble_eq_true rfl) (am_s1_7 rfl) ?_
  refine g_k (n := 0) t148_7 rfl rfl ?_
  refine g_is t148_8 (Nat.le_of_ble_eq_true rfl) (am_s1_8 rfl) ?_
  exact K (mn P) 0 (none, 15) _ (Nat.zero_add _) hW (Nat.le_refl _) (fun y hy => by cases hy)
end TZ
