/-! BOOKS: FlowerPots$Book -/
/-- a book's cells: p, letters p + 1, signs p + 3, what rows say p + 5 -/
def Bo (s : mM) (p : Nat) : Prop := s.1 p = .inr (1, [.ref (p + 1), .ref (p + 3), .ref (p + 5), .int 0]) ∧ Nu s (p + 1) 8 ∧ Nu s (p + 3) 40 ∧ Nu s (p + 5) 243
theorem Bo.fr {A : List Nat} {s s' : mM} {p : Nat} (h : Bo s p) (f : Fr A s s') : Bo s' p := ⟨by rw [f.1]; exact h.1, h.2.1.fr f, h.2.2.1.fr f, h.2.2.2.fr f⟩
def asc : Nat → Nat
  | 0 => 46
  | 1 => 114
  | 2 => 119
  | _ => 63
def bkc (b : Bk) (k : Nat) : List Nat := (b.1.getD k (0, [])).2
def Bt (b : Bk) (p : Nat) (s : mM) : Prop := NL s (p + 1) (b.1.map fun k => k.1) ∧ ri s p 3 = nI b.2 ∧ b.1.length ≤ 8 ∧ b.2 ≤ 5 ∧ ∀ k, k < b.1.length → ∀ q, q < b.2 → ri s (p + 4) (k * 5 + q) = nI (asc ((bkc b k).getD q 0)) ∧ (bkc b k).getD q 0 < 4
theorem Bt.fr {A : List Nat} {s s' : mM} {b : Bk} {p : Nat} (h : Bt b p s) (f : Fr A s s') (h0 : p ∉ A) (h1 : p + 1 ∉ A) (h2 : p + 2 ∉ A) (h4 : p + 4 ∉ A) : Bt b p s' := ⟨h.1.fr f h1 h2, (f.ri h0).trans h.2.1, h.2.2.1, h.2.2.2.1, fun k hk q hq => ⟨(f.ri h4).trans (h.2.2.2.2 k hk q hq).1, (h.2.2.2.2 k hk q hq).2⟩⟩
def Bs (P : Nat) (b : Bk) (p : Nat) (s : mM) : Prop := ∀ c, c < mn P → ri s (p + 6) c = sy P b c
theorem Bs.fr {A : List Nat} {s s' : mM} {P : Nat} {b : Bk} {p : Nat} (h : Bs P b p s) (f : Fr A s s') (h0 : p + 6 ∉ A) : Bs P b p s' := fun c hc => (f.ri h0).trans (h c hc)
theorem fitu_f {P wd c : Nat} {l : List Nat} : ∀ {m q : Nat}, q ≤ m → fitu P wd l c q = false → fitu P wd l c m = false := by
  intro m
  induction m with
  | zero => intro q h h2; rw [show q = 0 by omega] at h2; exact h2
  | succ m ih =>
    intro q h h2
    by_cases h3 : q = m + 1
    · rw [← h3]; exact h2
    · unfold fitu
      rw [ih (q := q) (by omega) h2]; rfl
theorem fitS_t {x y : Nat} (h : y = x) : (x == 3 || x == y) = true := by subst h; simp
theorem fitS_3 {y : Nat} : ((3 : Nat) == 3 || (3 : Nat) == y) = true := rfl
theorem fitS_f {x y : Nat} (h3 : ¬ x = 3) (h : ¬ y = x) : (x == 3 || x == y) = false := by
  rw [Bool.or_eq_false_iff, beq_eq_false_iff_ne, beq_eq_false_iff_ne]
  exact ⟨h3, fun e => h e.symm⟩
section BO
variable {X : am_X} {d : Nat} {s : mM} {Q : Option Value → am_H → Prop} {P c p : Nat} {b : Bk} {a : Int32}
theorem c10 (hB : Bo s p) (hc : c < 243) (e : ri s (p + 6) c = a) (hq : Q (some (.int a)) (mR s)) : gE X (d + 1) 10 [.ref p, .int (nI c)] (mR s) Q := by
  refine en10 rfl rfl ?_
  refine g_p t10_0 rfl ?_
  refine r_getr t10_1 hB.1 rfl rfl ?_
  refine g_p t10_4 rfl ?_
  refine r_cv t10_5 hB.2.2.2.1 rfl ?_
  refine c30e hB.2.2.2 hc e ?_
  refine k_v ?_ rfl
  exact i_ret t10_8 rfl hq
theorem c9 (hF : Fx s) (hR : CR P s) (hB : Bo s p) (hT : Bt b p s) {k : Nat} (hk : k < b.1.length) (hc : c < mn P) (hq : Q (some (.int (bI (fitu P b.2 (bkc b k) c P)))) (mR s)) : gE X (d + 2) 9 [.ref p, .ref 19, .int (nI c), .int (nI k)] (mR s) Q := by
  have hP5 := hR.2.2.1
  have hm := mn_le hP5
  have hb8 := hT.2.2.1
  have hb5 := hT.2.2.2.1
  have L : ∀ j q : Nat, q + j = P → ∀ z5 z6, fitu P b.2 (bkc b k) c q = true → am_nl z5 = true → gG X (d + 2) 9 3 [.ref p, .ref 19, .int (nI c), .int (nI k), .int (nI q), z5, z6] [] (mR s) Q := by
    intro j
    induction j with
    | zero =>
      intro q hj z5 z6 hfit n5
      have hj : q = P := by omega
      subst hj
      refine g_p t9_3 rfl ?_
      refine g_p t9_5 rfl ?_
      refine r_cv t9_6 (f19 hF) rfl ?_
      refine c74 (by exact hF) hR.1 ?_
      refine k_v ?_ rfl
      refine n_cge t9_9 (by omega) (by omega) (fun h9 => ?_) (fun h9 => ?_)
      · refine g_k (n := 1) t9_93 rfl rfl ?_
        exact b_ret t9_94 (by rw [hfit]; rfl) hq
      · exfalso; omega
    | succ j ih =>
      intro q hj z5 z6 hfit n5
      have hqP : q < P := by omega
      have hpt := pt_lt P c q
      have J : ∀ g, g < 4 → g = sg b.2 (bkc b k) q → gG X (d + 2) 9 39 [.ref p, .ref 19, .int (nI c), .int (nI k), .int (nI q), z5, z6] [.int (nI (asc g))] (mR s) Q := by
        intro g hg4 hg
        rcases (show g = 0 ∨ g = 1 ∨ g = 2 ∨ g = 3 by omega) with rfl | rfl | rfl | rfl
        · show gG X (d + 2) 9 39 [.ref p, .ref 19, .int (nI c), .int (nI k), .int (nI q), z5, z6] [.int (nI 46)] (mR s) Q
          refine g_is t9_39 (Nat.le_of_ble_eq_true rfl) (am_s1_5 rfl) ?_
          refine g_p t9_41 rfl ?_
          refine g_k (n := 114) t9_43 rfl rfl ?_
          refine n_cne t9_45 (by omega) (by omega) (fun h45 => ?_) (fun h45 => ?_)
          · refine g_p t9_52 rfl ?_
            refine g_k (n := 119) t9_54 rfl rfl ?_
            refine n_cne t9_56 (by omega) (by omega) (fun h56 => ?_) (fun h56 => ?_)
            · refine g_k (n := 0) t9_63 rfl rfl ?_
              refine g_is t9_64 (Nat.le_of_ble_eq_true rfl) (am_s1_6 rfl) ?_
              refine g_p t9_66 rfl ?_
              refine g_k (n := 63) t9_68 rfl rfl ?_
              refine n_ceq t9_70 (by omega) (by omega) (fun h70 => ?_) (fun h70 => ?_)
              · refine g_incn (n := 1) t9_87 rfl rfl (Nat.le_of_ble_eq_true rfl) (am_s1_4 rfl) ?_
                refine g_goto t9_90 ?_
                first
                  | (exfalso; omega)
                  | exact ih (q + 1) (by omega) _ _ (by rw [fitu, hfit, ← hg, fitS_t h82]; rfl) rfl
                  | exact ih (q + 1) (by omega) _ _ (by rw [fitu, hfit, ← hg, fitS_3]; rfl) rfl
              · refine g_p t9_73 rfl ?_
                refine g_p t9_74 rfl ?_
                refine g_p t9_75 rfl ?_
                refine r_cv t9_77 (f19 hF) rfl ?_
                refine c77 (by exact hF) (c5q hP5 hc hqP) (hR.2.2.2.1 c q hc hqP) ?_
                refine k_v ?_ rfl
                refine g_p t9_80 rfl ?_
                refine n_ceq t9_82 (by omega) (by omega) (fun h82 => ?_) (fun h82 => ?_)
                · refine g_incn (n := 1) t9_87 rfl rfl (Nat.le_of_ble_eq_true rfl) (am_s1_4 rfl) ?_
                  refine g_goto t9_90 ?_
                  first
                    | (exfalso; omega)
                    | exact ih (q + 1) (by omega) _ _ (by rw [fitu, hfit, ← hg, fitS_t h82]; rfl) rfl
                    | exact ih (q + 1) (by omega) _ _ (by rw [fitu, hfit, ← hg, fitS_3]; rfl) rfl
                · refine g_k (n := 0) t9_85 rfl rfl ?_
                  exact b_ret t9_86 (by rw [fitu_f (q := q + 1) (by omega) (by rw [fitu, hfit, ← hg, fitS_f (by decide) h82]; rfl)]; rfl) hq
            · exfalso; omega
          · exfalso; omega
        · show gG X (d + 2) 9 39 [.ref p, .ref 19, .int (nI c), .int (nI k), .int (nI q), z5, z6] [.int (nI 114)] (mR s) Q
          refine g_is t9_39 (Nat.le_of_ble_eq_true rfl) (am_s1_5 rfl) ?_
          refine g_p t9_41 rfl ?_
          refine g_k (n := 114) t9_43 rfl rfl ?_
          refine n_cne t9_45 (by omega) (by omega) (fun h45 => ?_) (fun h45 => ?_)
          · exfalso; omega
          · refine g_k (n := 1) t9_48 rfl rfl ?_
            refine g_goto t9_49 ?_
            refine g_is t9_64 (Nat.le_of_ble_eq_true rfl) (am_s1_6 rfl) ?_
            refine g_p t9_66 rfl ?_
            refine g_k (n := 63) t9_68 rfl rfl ?_
            refine n_ceq t9_70 (by omega) (by omega) (fun h70 => ?_) (fun h70 => ?_)
            · refine g_incn (n := 1) t9_87 rfl rfl (Nat.le_of_ble_eq_true rfl) (am_s1_4 rfl) ?_
              refine g_goto t9_90 ?_
              first
                | (exfalso; omega)
                | exact ih (q + 1) (by omega) _ _ (by rw [fitu, hfit, ← hg, fitS_t h82]; rfl) rfl
                | exact ih (q + 1) (by omega) _ _ (by rw [fitu, hfit, ← hg, fitS_3]; rfl) rfl
            · refine g_p t9_73 rfl ?_
              refine g_p t9_74 rfl ?_
              refine g_p t9_75 rfl ?_
              refine r_cv t9_77 (f19 hF) rfl ?_
              refine c77 (by exact hF) (c5q hP5 hc hqP) (hR.2.2.2.1 c q hc hqP) ?_
              refine k_v ?_ rfl
              refine g_p t9_80 rfl ?_
              refine n_ceq t9_82 (by omega) (by omega) (fun h82 => ?_) (fun h82 => ?_)
              · refine g_incn (n := 1) t9_87 rfl rfl (Nat.le_of_ble_eq_true rfl) (am_s1_4 rfl) ?_
                refine g_goto t9_90 ?_
                first
                  | (exfalso; omega)
                  | exact ih (q + 1) (by omega) _ _ (by rw [fitu, hfit, ← hg, fitS_t h82]; rfl) rfl
                  | exact ih (q + 1) (by omega) _ _ (by rw [fitu, hfit, ← hg, fitS_3]; rfl) rfl
              · refine g_k (n := 0) t9_85 rfl rfl ?_
                exact b_ret t9_86 (by rw [fitu_f (q := q + 1) (by omega) (by rw [fitu, hfit, ← hg, fitS_f (by decide) h82]; rfl)]; rfl) hq
        · show gG X (d + 2) 9 39 [.ref p, .ref 19, .int (nI c), .int (nI k), .int (nI q), z5, z6] [.int (nI 119)] (mR s) Q
          refine g_is t9_39 (Nat.le_of_ble_eq_true rfl) (am_s1_5 rfl) ?_
          refine g_p t9_41 rfl ?_
          refine g_k (n := 114) t9_43 rfl rfl ?_
          refine n_cne t9_45 (by omega) (by omega) (fun h45 => ?_) (fun h45 => ?_)
          · refine g_p t9_52 rfl ?_
            refine g_k (n := 119) t9_54 rfl rfl ?_
            refine n_cne t9_56 (by omega) (by omega) (fun h56 => ?_) (fun h56 => ?_)
            · exfalso; omega
            · refine g_k (n := 2) t9_59 rfl rfl ?_
              refine g_goto t9_60 ?_
              refine g_is t9_64 (Nat.le_of_ble_eq_true rfl) (am_s1_6 rfl) ?_
              refine g_p t9_66 rfl ?_
              refine g_k (n := 63) t9_68 rfl rfl ?_
              refine n_ceq t9_70 (by omega) (by omega) (fun h70 => ?_) (fun h70 => ?_)
              · refine g_incn (n := 1) t9_87 rfl rfl (Nat.le_of_ble_eq_true rfl) (am_s1_4 rfl) ?_
                refine g_goto t9_90 ?_
                first
                  | (exfalso; omega)
                  | exact ih (q + 1) (by omega) _ _ (by rw [fitu, hfit, ← hg, fitS_t h82]; rfl) rfl
                  | exact ih (q + 1) (by omega) _ _ (by rw [fitu, hfit, ← hg, fitS_3]; rfl) rfl
              · refine g_p t9_73 rfl ?_
                refine g_p t9_74 rfl ?_
                refine g_p t9_75 rfl ?_
                refine r_cv t9_77 (f19 hF) rfl ?_
                refine c77 (by exact hF) (c5q hP5 hc hqP) (hR.2.2.2.1 c q hc hqP) ?_
                refine k_v ?_ rfl
                refine g_p t9_80 rfl ?_
                refine n_ceq t9_82 (by omega) (by omega) (fun h82 => ?_) (fun h82 => ?_)
                · refine g_incn (n := 1) t9_87 rfl rfl (Nat.le_of_ble_eq_true rfl) (am_s1_4 rfl) ?_
                  refine g_goto t9_90 ?_
                  first
                    | (exfalso; omega)
                    | exact ih (q + 1) (by omega) _ _ (by rw [fitu, hfit, ← hg, fitS_t h82]; rfl) rfl
                    | exact ih (q + 1) (by omega) _ _ (by rw [fitu, hfit, ← hg, fitS_3]; rfl) rfl
                · refine g_k (n := 0) t9_85 rfl rfl ?_
                  exact b_ret t9_86 (by rw [fitu_f (q := q + 1) (by omega) (by rw [fitu, hfit, ← hg, fitS_f (by decide) h82]; rfl)]; rfl) hq
          · exfalso; omega
        · show gG X (d + 2) 9 39 [.ref p, .ref 19, .int (nI c), .int (nI k), .int (nI q), z5, z6] [.int (nI 63)] (mR s) Q
          refine g_is t9_39 (Nat.le_of_ble_eq_true rfl) (am_s1_5 rfl) ?_
          refine g_p t9_41 rfl ?_
          refine g_k (n := 114) t9_43 rfl rfl ?_
          refine n_cne t9_45 (by omega) (by omega) (fun h45 => ?_) (fun h45 => ?_)
          · refine g_p t9_52 rfl ?_
            refine g_k (n := 119) t9_54 rfl rfl ?_
            refine n_cne t9_56 (by omega) (by omega) (fun h56 => ?_) (fun h56 => ?_)
            · refine g_k (n := 0) t9_63 rfl rfl ?_
              refine g_is t9_64 (Nat.le_of_ble_eq_true rfl) (am_s1_6 rfl) ?_
              refine g_p t9_66 rfl ?_
              refine g_k (n := 63) t9_68 rfl rfl ?_
              refine n_ceq t9_70 (by omega) (by omega) (fun h70 => ?_) (fun h70 => ?_)
              · refine g_incn (n := 1) t9_87 rfl rfl (Nat.le_of_ble_eq_true rfl) (am_s1_4 rfl) ?_
                refine g_goto t9_90 ?_
                first
                  | (exfalso; omega)
                  | exact ih (q + 1) (by omega) _ _ (by rw [fitu, hfit, ← hg, fitS_t h82]; rfl) rfl
                  | exact ih (q + 1) (by omega) _ _ (by rw [fitu, hfit, ← hg, fitS_3]; rfl) rfl
              · exfalso; omega
            · exfalso; omega
          · exfalso; omega
      refine g_p t9_3 rfl ?_
      refine g_p t9_5 rfl ?_
      refine r_cv t9_6 (f19 hF) rfl ?_
      refine c74 (by exact hF) hR.1 ?_
      refine k_v ?_ rfl
      refine n_cge t9_9 (by omega) (by omega) (fun h9 => ?_) (fun h9 => ?_)
      · exfalso; omega
      · refine g_p t9_12 rfl ?_
        refine g_p t9_14 rfl ?_
        refine r_gete t9_15 hB.1 rfl rfl hT.2.1 ?_
        refine n_cge t9_18 (by omega) (by omega) (fun h18 => ?_) (fun h18 => ?_)
        · refine g_k (n := 46) t9_37 rfl rfl ?_
          first
            | exact J _ (hT.2.2.2.2 k hk q (Nat.lt_of_not_le h18)).2 (if_pos (Nat.lt_of_not_le h18)).symm
            | exact J 0 (by decide) (if_neg (Nat.not_lt.mpr h18)).symm
        · refine g_p t9_21 rfl ?_
          refine r_getr t9_22 hB.1 rfl rfl ?_
          refine g_p t9_25 rfl ?_
          refine g_k (n := 5) t9_26 rfl rfl ?_
          refine g_muln t9_27 ?_
          refine g_p t9_28 rfl ?_
          refine g_addn t9_30 ?_
          refine r_cv t9_31 hB.2.2.1.1 rfl ?_
          refine c30e hB.2.2.1 (by omega) (hT.2.2.2.2 k hk q (Nat.lt_of_not_le h18)).1 ?_
          refine k_v ?_ rfl
          refine g_goto t9_34 ?_
          first
            | exact J _ (hT.2.2.2.2 k hk q (Nat.lt_of_not_le h18)).2 (if_pos (Nat.lt_of_not_le h18)).symm
            | exact J 0 (by decide) (if_neg (Nat.not_lt.mpr h18)).symm
  refine en9 rfl rfl rfl rfl ?_
  refine g_k (n := 0) t9_0 rfl rfl ?_
  refine g_is t9_1 (Nat.le_of_ble_eq_true rfl) (am_s1_4 rfl) ?_
  exact L P 0 (by omega) _ _ rfl rfl
theorem find_drop {α : Type} (f : α → Bool) (d0 : α) : ∀ (l : List α) (k : Nat), k < l.length → (l.drop k).find? f = if f (l.getD k d0) = true then some (l.getD k d0) else (l.drop (k + 1)).find? f := by
  intro l k hk
  rw [List.drop_eq_getElem_cons hk, List.find?_cons]
  have e : l.getD k d0 = l[k] := by simp [List.getD, hk]
  rw [e]
  split <;> simp [*]
theorem c8 (hF : Fx s) (hR : CR P s) (hB : Bo s p) (hT : Bt b p s) (hc : c < mn P) (hq : Q (some (.int (sy P b c))) (mR s)) : gE X (d + 3) 8 [.ref p, .ref 19, .int (nI c)] (mR s) Q := by
  have hb8 := hT.2.2.1
  have hL := hT.1
  have hlm : (b.1.map fun k => k.1).length = b.1.length := List.length_map ..
  have L : ∀ j k : Nat, k + j = b.1.length → b.1.find? (fun k => fitu P b.2 k.2 c P) = (b.1.drop k).find? (fun k => fitu P b.2 k.2 c P) → gG X (d + 3) 8 2 [.ref p, .ref 19, .int (nI c), .int (nI k)] [] (mR s) Q := by
    intro j
    induction j with
    | zero =>
      intro k hk he
      have hk : k = b.1.length := by omega
      subst hk
      rw [List.drop_length] at he
      have e : sy P b c = -1 := by unfold sy; rw [he]; rfl
      rw [e] at hq
      refine g_p t8_2 rfl ?_
      refine g_p t8_3 rfl ?_
      refine r_getr t8_4 hB.1 rfl rfl ?_
      refine r_cv t8_7 hB.2.1.1 rfl ?_
      refine c29L hB.2.1 (by exact hL) ?_
      refine k_v ?_ rfl
      refine n_cge t8_10 (by omega) (by omega) (fun h10 => ?_) (fun h10 => ?_)
      · refine g_p t8_38 rfl ?_
        exact i_ret t8_39 rfl hq
      · exfalso; omega
    | succ j ih =>
      intro k hk he
      have hk2 : k < b.1.length := by omega
      rw [find_drop _ (0, []) b.1 k hk2] at he
      refine g_p t8_2 rfl ?_
      refine g_p t8_3 rfl ?_
      refine r_getr t8_4 hB.1 rfl rfl ?_
      refine r_cv t8_7 hB.2.1.1 rfl ?_
      refine c29L hB.2.1 (by exact hL) ?_
      refine k_v ?_ rfl
      refine n_cge t8_10 (by omega) (by omega) (fun h10 => ?_) (fun h10 => ?_)
      · exfalso; omega
      · refine g_p t8_13 rfl ?_
        refine g_p t8_14 rfl ?_
        refine g_p t8_15 rfl ?_
        refine g_p t8_16 rfl ?_
        refine r_cv t8_17 hB.1 rfl ?_
        refine c9 hF hR hB hT hk2 hc ?_
        refine k_v ?_ rfl
        refine b_eq t8_20 (fun h20 => ?_) (fun h20 => ?_)
        · refine g_incn (n := 1) t8_32 rfl rfl (Nat.le_of_ble_eq_true rfl) (am_s1_3 rfl) ?_
          refine g_goto t8_35 ?_
          exact ih (k + 1) (by omega) (by rw [he]; exact if_neg (by show ¬ fitu P b.2 (bkc b k) c P = true; rw [h20]; decide))
        · refine g_p t8_23 rfl ?_
          refine r_getr t8_24 hB.1 rfl rfl ?_
          refine g_p t8_27 rfl ?_
          refine r_cv t8_28 hB.2.1.1 rfl ?_
          refine c30L hB.2.1 (by exact hL) (by omega) (by omega) ?_
          refine k_v ?_ rfl
          refine i_ret t8_31 ?_ hq
          replace he := he.trans (if_pos (show fitu P b.2 (b.1.getD k (0, [])).2 c P = true from h20))
          unfold sy
          rw [he]
          show nI _ = nI (b.1.getD k (0, [])).1
          congr 1
          simp [List.getD, hk2]
  refine en8 rfl rfl rfl ?_
  refine g_k (n := 0) t8_0 rfl rfl ?_
  refine g_isn t8_1 (Nat.le_of_ble_eq_true rfl) (am_s1_3 rfl) ?_
  exact L b.1.length 0 (by omega) rfl
theorem c7 (hF : Fx s) (hR : CR P s) (hB : Bo s p) (hT : Bt b p s) (hp : p ≠ 19 ∧ ∀ x ∈ rA, x ≠ p + 6) (hq : ∀ s', Fr [p + 6] s s' → Bs P b p s' → Q none (mR s')) : gE X (d + 4) 7 [.ref p, .ref 19] (mR s) Q := by
  have hm := mn_le hR.2.2.1
  have L : ∀ j c : Nat, c + j = mn P → ∀ s', Fr [p + 6] s s' → (∀ x, x < c → ri s' (p + 6) x = sy P b x) → gG X (d + 4) 7 2 [.ref p, .ref 19, .int (nI c)] [] (mR s') Q := by
    intro j
    induction j with
    | zero =>
      intro c hj s' hf hS
      have hj : c = mn P := by omega
      subst hj
      have hF := hF.fr hf
      have hM := (hR.fr hf (fun x hx h => hp.2 x hx (by simpa using h))).2.1
      refine g_p t7_2 rfl ?_
      refine g_p t7_3 rfl ?_
      refine r_cv t7_4 (f19 hF) rfl ?_
      refine c76 (by exact hF) hM ?_
      refine k_v ?_ rfl
      refine n_cge t7_7 (by omega) (by omega) (fun h7 => ?_) (fun h7 => ?_)
      · exact v_ret t7_30 (hq _ hf hS)
      · exfalso; omega
    | succ j ih =>
      intro c hj s' hf hS
      have hF := hF.fr hf
      have hR := hR.fr hf (fun x hx h => hp.2 x hx (by simpa using h))
      have hB := hB.fr hf
      have hT := hT.fr hf (by simp) (by simp) (by simp) (by simp)
      have hM := hR.2.1
      refine g_p t7_2 rfl ?_
      refine g_p t7_3 rfl ?_
      refine r_cv t7_4 (f19 hF) rfl ?_
      refine c76 (by exact hF) hM ?_
      refine k_v ?_ rfl
      refine n_cge t7_7 (by omega) (by omega) (fun h7 => ?_) (fun h7 => ?_)
      · exfalso; omega
      · refine g_p t7_10 rfl ?_
        refine r_getr t7_11 hB.1 rfl rfl ?_
        refine g_p t7_14 rfl ?_
        refine g_p t7_15 rfl ?_
        refine g_p t7_16 rfl ?_
        refine g_p t7_17 rfl ?_
        refine r_cv t7_18 hB.1 rfl ?_
        refine c8 hF hR hB hT (by omega) ?_
        refine k_v ?_ rfl
        refine r_cv t7_21 hB.2.2.2.1 rfl ?_
        refine c31 hB.2.2.2 (by omega) ?_
        refine k_0 ?_
        refine g_incn (n := 1) t7_24 rfl rfl (Nat.le_of_ble_eq_true rfl) (am_s1_2 rfl) ?_
        refine g_goto t7_27 ?_
        refine ih (c + 1) (by omega) _ (hf.wi (by simp)) (fun x hx => ?_)
        by_cases h : x = c
        · subst h; exact ri_wi_eq
        · exact (ri_wi_j h).trans (hS x (by omega))
  refine en7 rfl rfl ?_
  refine g_k (n := 0) t7_0 rfl rfl ?_
  refine g_isn t7_1 (Nat.le_of_ble_eq_true rfl) (am_s1_2 rfl) ?_
  exact L (mn P) 0 (by omega) s Fr.rf (fun x hx => absurd hx (Nat.not_lt_zero x))
end BO
