/-! THE REFERENCE, 2: its books -/
def MB1 (b : Bk) (n : Nat) (s : mM) : Prop := ri s 89 n = nI b.1.length ∧ b.1.length ≤ 8 ∧ ri s 90 n = nI b.2 ∧ b.2 ≤ 5 ∧ ∀ k, k < b.1.length → ri s 87 (8 * n + k) = nI (b.1.getD k (0, [])).1 ∧ ∀ q, q < b.2 → ri s 88 ((8 * n + k) * 5 + q) = nI ((bkc b k).getD q 0) ∧ (bkc b k).getD q 0 < 4
theorem MB1.fm {A B : List Nat} {s s' : mM} {b : Bk} {n : Nat} (h : MB1 b n s) (f : Fr A s s') (h1 : 87 ∉ A) (h2 : 88 ∉ A) (h3 : 89 ∉ A) (h4 : 90 ∉ A) : MB1 b n s' :=
  ⟨(f.ri h3).trans h.1, h.2.1, (f.ri h4).trans h.2.2.1, h.2.2.2.1, fun k hk => ⟨(f.ri h1).trans (h.2.2.2.2 k hk).1, fun q hq => ⟨(f.ri h2).trans ((h.2.2.2.2 k hk).2 q hq).1, ((h.2.2.2.2 k hk).2 q hq).2⟩⟩⟩
def MB (bks : List Bk) (s : mM) : Prop := ri s 80 28 = nI bks.length ∧ bks.length ≤ 3 ∧ ∀ n, n < bks.length → MB1 (bks.getD n nk) n s
theorem MB.fm {A B : List Nat} {s s' : mM} {bks : List Bk} (h : MB bks s) (f : FM A B s s') (h0 : 28 ∉ B) (h1 : 87 ∉ 80 :: A) (h2 : 88 ∉ 80 :: A) (h3 : 89 ∉ 80 :: A) (h4 : 90 ∉ 80 :: A) : MB bks s' :=
  ⟨(f.f h0).trans h.1, h.2.1, fun n hn => (h.2.2 n hn).fm (B := B) f.1 h1 h2 h3 h4⟩
section RH
variable {X : am_X} {d : Nat} {s : mM} {hp : am_H} {Q : Option Value → am_H → Prop} {P c q v r w n : Nat} {x : Int32} {b : Bk} {bks : List Bk}
theorem c231 (hF : Fx s) (m0 : ri s 80 20 = nI P) (hP5 : P ≤ 5) (hB : MB1 b n s) (hn : n < 4) (hc : c < 243) (hq : Q (some (.int (sy P b c))) (mR s)) : gE X (d + 2) 231 [.ref 80, .int (nI n), .int (nI c)] (mR s) Q := by
  obtain ⟨b1, b2, b3, b4, b5⟩ := hB
  have L : ∀ j k : Nat, k + j = b.1.length → ∀ z4 z5 z6, am_nl z4 = true → am_nl z5 = true → b.1.find? (fun k => fitu P b.2 k.2 c P) = (b.1.drop k).find? (fun k => fitu P b.2 k.2 c P) → gG X (d + 2) 231 2 [.ref 80, .int (nI n), .int (nI c), .int (nI k), z4, z5, z6] [] (mR s) Q := by
    intro j
    induction j with
    | zero =>
      intro k hk z4 z5 z6 n4 n5 he
      have hk : k = b.1.length := by omega
      subst hk
      rw [List.drop_length] at he
      have e : sy P b c = -1 := by unfold sy; rw [he]; rfl
      rw [e] at hq
      refine g_p t231_2 rfl ?_
      refine g_p t231_3 rfl ?_
      refine r_getr t231_4 (f80 hF) rfl rfl ?_
      refine g_p t231_7 rfl ?_
      refine r_iale t231_8 (f89 hF) (by decide) (by omega) b1 ?_
      refine n_cge t231_9 (by omega) (by omega) (fun h9 => ?_) (fun h9 => ?_)
      · refine g_p t231_119 rfl ?_
        exact i_ret t231_120 rfl hq
      · exfalso; omega
    | succ j ih =>
      intro k hk z4 z5 z6 n4 n5 he
      have hk2 : k < b.1.length := by omega
      obtain ⟨b6, b7⟩ := b5 k hk2
      rw [find_drop _ (0, []) b.1 k hk2] at he
      have K : ∀ i q : Nat, q + i = P → ∀ z6, gG X (d + 2) 231 18 [.ref 80, .int (nI n), .int (nI c), .int (nI k), .int (bI (fitu P b.2 (bkc b k) c q)), .int (nI q), z6] [] (mR s) Q := by
        intro i
        induction i with
        | zero =>
          intro q hi z6
          have hi : q = P := by omega
          subst hi
          refine g_p t231_18 rfl ?_
          refine g_p t231_20 rfl ?_
          refine r_gete t231_21 (f80 hF) rfl rfl m0 ?_
          refine n_cge t231_24 (by omega) (by omega) (fun h24 => ?_) (fun h24 => ?_)
          · refine g_p t231_96 rfl ?_
            refine b_eq t231_98 (fun h98 => ?_) (fun h98 => ?_)
            · refine g_incn (n := 1) t231_113 rfl rfl (Nat.le_of_ble_eq_true rfl) (am_s1_3 rfl) ?_
              refine g_goto t231_116 ?_
              exact ih (k + 1) (by omega) _ _ _ rfl rfl (by rw [he]; exact if_neg (by show ¬ fitu _ b.2 (bkc b k) c _ = true; rw [h98]; decide))
            · refine g_p t231_101 rfl ?_
              refine r_getr t231_102 (f80 hF) rfl rfl ?_
              refine g_k (n := 8) t231_105 rfl rfl ?_
              refine g_p t231_107 rfl ?_
              refine g_muln t231_108 ?_
              refine g_p t231_109 rfl ?_
              refine g_addn t231_110 ?_
              refine r_iale t231_111 (f87 hF) (by decide) (by omega) b6 ?_
              refine i_ret t231_112 ?_ hq
              replace he := he.trans (if_pos (show fitu _ b.2 (b.1.getD k (0, [])).2 c _ = true from h98))
              unfold sy
              rw [he]
          · exfalso; omega
        | succ i ih2 =>
          intro q hi z6
          have ih2 := ih2 (q + 1) (by omega)
          have hpt := pt_lt P c q
          have J : ∀ g, g < 4 → g = sg b.2 (bkc b k) q → gG X (d + 2) 231 58 [.ref 80, .int (nI n), .int (nI c), .int (nI k), .int (bI (fitu P b.2 (bkc b k) c q)), .int (nI q), z6] [.int (nI g)] (mR s) Q := by
            intro g hg4 hg
            unfold fitu at ih2
            rw [← hg] at ih2
            refine g_is t231_58 (Nat.le_of_ble_eq_true rfl) (am_s1_6 rfl) ?_
            refine g_p t231_60 rfl ?_
            refine b_eq t231_62 (fun h62 => ?_) (fun h62 => ?_)
            · refine g_k (n := 0) t231_87 rfl rfl ?_
              refine g_is t231_88 (Nat.le_of_ble_eq_true rfl) (am_s1_4 rfl) ?_
              refine g_incn (n := 1) t231_90 rfl rfl (Nat.le_of_ble_eq_true rfl) (am_s1_5 rfl) ?_
              refine g_goto t231_93 ?_
              first
                | (rw [h62] at ih2; exact ih2 _)
                | (have u0 := h62
                   rw [u0, h68, fitS_3] at ih2; exact ih2 _)
                | (have u0 := h62
                   rw [u0, fitS_t h80.symm] at ih2; exact ih2 _)
                | (have u0 := h62
                   rw [u0, fitS_f h68 (fun e => h80 e.symm)] at ih2; exact ih2 _)
            · refine g_p t231_65 rfl ?_
              refine g_k (n := 3) t231_67 rfl rfl ?_
              refine n_ceq t231_68 (by omega) (by omega) (fun h68 => ?_) (fun h68 => ?_)
              · refine g_k (n := 1) t231_83 rfl rfl ?_
                refine g_goto t231_84 ?_
                refine g_is t231_88 (Nat.le_of_ble_eq_true rfl) (am_s1_4 rfl) ?_
                refine g_incn (n := 1) t231_90 rfl rfl (Nat.le_of_ble_eq_true rfl) (am_s1_5 rfl) ?_
                refine g_goto t231_93 ?_
                first
                  | (rw [h62] at ih2; exact ih2 _)
                  | (have u0 := h62
                     rw [u0, h68, fitS_3] at ih2; exact ih2 _)
                  | (have u0 := h62
                     rw [u0, fitS_t h80.symm] at ih2; exact ih2 _)
                  | (have u0 := h62
                     rw [u0, fitS_f h68 (fun e => h80 e.symm)] at ih2; exact ih2 _)
              · refine g_p t231_71 rfl ?_
                refine g_p t231_73 rfl ?_
                refine g_p t231_74 rfl ?_
                refine g_p t231_75 rfl ?_
                refine r_cv t231_77 (f80 hF) rfl ?_
                refine c211 (by exact hF) (by exact m0) hP5 (by omega) (by omega) ?_
                refine k_v ?_ rfl
                refine n_cne t231_80 (by omega) (by omega) (fun h80 => ?_) (fun h80 => ?_)
                · refine g_k (n := 0) t231_87 rfl rfl ?_
                  refine g_is t231_88 (Nat.le_of_ble_eq_true rfl) (am_s1_4 rfl) ?_
                  refine g_incn (n := 1) t231_90 rfl rfl (Nat.le_of_ble_eq_true rfl) (am_s1_5 rfl) ?_
                  refine g_goto t231_93 ?_
                  first
                    | (rw [h62] at ih2; exact ih2 _)
                    | (have u0 := h62
                       rw [u0, h68, fitS_3] at ih2; exact ih2 _)
                    | (have u0 := h62
                       rw [u0, fitS_t h80.symm] at ih2; exact ih2 _)
                    | (have u0 := h62
                       rw [u0, fitS_f h68 (fun e => h80 e.symm)] at ih2; exact ih2 _)
                · refine g_k (n := 1) t231_83 rfl rfl ?_
                  refine g_goto t231_84 ?_
                  refine g_is t231_88 (Nat.le_of_ble_eq_true rfl) (am_s1_4 rfl) ?_
                  refine g_incn (n := 1) t231_90 rfl rfl (Nat.le_of_ble_eq_true rfl) (am_s1_5 rfl) ?_
                  refine g_goto t231_93 ?_
                  first
                    | (rw [h62] at ih2; exact ih2 _)
                    | (have u0 := h62
                       rw [u0, h68, fitS_3] at ih2; exact ih2 _)
                    | (have u0 := h62
                       rw [u0, fitS_t h80.symm] at ih2; exact ih2 _)
                    | (have u0 := h62
                       rw [u0, fitS_f h68 (fun e => h80 e.symm)] at ih2; exact ih2 _)
          refine g_p t231_18 rfl ?_
          refine g_p t231_20 rfl ?_
          refine r_gete t231_21 (f80 hF) rfl rfl m0 ?_
          refine n_cge t231_24 (by omega) (by omega) (fun h24 => ?_) (fun h24 => ?_)
          · exfalso; omega
          · refine g_p t231_27 rfl ?_
            refine g_p t231_29 rfl ?_
            refine r_getr t231_30 (f80 hF) rfl rfl ?_
            refine g_p t231_33 rfl ?_
            refine r_iale t231_34 (f90 hF) (by decide) (by omega) b3 ?_
            refine n_cge t231_35 (by omega) (by omega) (fun h35 => ?_) (fun h35 => ?_)
            · refine g_k (n := 0) t231_57 rfl rfl ?_
              first
                | exact J _ (b7 q (Nat.lt_of_not_le h35)).2 (if_pos (Nat.lt_of_not_le h35)).symm
                | exact J 0 (by decide) (if_neg (Nat.not_lt.mpr h35)).symm
            · refine g_p t231_38 rfl ?_
              refine r_getr t231_39 (f80 hF) rfl rfl ?_
              refine g_k (n := 8) t231_42 rfl rfl ?_
              refine g_p t231_44 rfl ?_
              refine g_muln t231_45 ?_
              refine g_p t231_46 rfl ?_
              refine g_addn t231_47 ?_
              refine g_k (n := 5) t231_48 rfl rfl ?_
              refine g_muln t231_49 ?_
              refine g_p t231_50 rfl ?_
              refine g_addn t231_52 ?_
              refine r_iale t231_53 (f88 hF) (by decide) (by omega) (b7 q (Nat.lt_of_not_le h35)).1 ?_
              refine g_goto t231_54 ?_
              first
                | exact J _ (b7 q (Nat.lt_of_not_le h35)).2 (if_pos (Nat.lt_of_not_le h35)).symm
                | exact J 0 (by decide) (if_neg (Nat.not_lt.mpr h35)).symm
      refine g_p t231_2 rfl ?_
      refine g_p t231_3 rfl ?_
      refine r_getr t231_4 (f80 hF) rfl rfl ?_
      refine g_p t231_7 rfl ?_
      refine r_iale t231_8 (f89 hF) (by decide) (by omega) b1 ?_
      refine n_cge t231_9 (by omega) (by omega) (fun h9 => ?_) (fun h9 => ?_)
      · exfalso; omega
      · refine g_k (n := 1) t231_12 rfl rfl ?_
        refine g_is t231_13 (Nat.le_of_ble_eq_true rfl) (am_s1_4 rfl) ?_
        refine g_k (n := 0) t231_15 rfl rfl ?_
        refine g_is t231_16 (Nat.le_of_ble_eq_true rfl) (am_s1_5 rfl) ?_
        exact K P 0 (by omega) _
  refine en231 rfl rfl rfl ?_
  refine g_k (n := 0) t231_0 rfl rfl ?_
  refine g_isn t231_1 (Nat.le_of_ble_eq_true rfl) (am_s1_3 rfl) ?_
  exact L b.1.length 0 (by omega) _ _ _ rfl rfl rfl
theorem bG_M {s : mM} {b : Bk} (h : MB bks s) (h2 : bG P bks x = some b) : 0 < P ∧ ∃ k, k < bks.length ∧ k < 4 ∧ x = nI k ∧ MB1 b k s := by
  obtain ⟨h3, k, hk, e, e2⟩ := bG_t h2 (by have := h.2.1; omega)
  exact ⟨h3, k, hk, by have := h.2.1; omega, e, e2 ▸ h.2.2 k hk⟩
theorem bG_n {k : Nat} (hP0 : 0 < P) (hk : k < bks.length) (hl : bks.length < 2 ^ 31) : bG P bks (nI k) = some (bks.getD k nk) := by
  unfold bG
  rw [decide_eq_true hP0, inN_n hk hl, nI_clamp (by omega)]
  first | rfl | skip
theorem c218B (hF : Fx s) (m0 : ri s 80 20 = nI P) (hP5 : P ≤ 5) (hM : MB bks s) (hq : Q (some (.int (bI (bG P bks x).isSome))) (mR s)) : gE X d 218 [.ref 80, .int x] (mR s) Q := by
  refine c218 hF m0 hP5 hM.1 ?_
  have e : (decide (0 < P) && inN bks.length x) = (bG P bks x).isSome := by
    unfold bG
    cases h : decide (0 < P) && inN bks.length x
    · rw [if_neg (by decide)]; rfl
    · rw [if_pos rfl]; rfl
  rw [e]; exact hq
end RH
