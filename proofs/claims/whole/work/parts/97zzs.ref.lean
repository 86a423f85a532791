/-! THE REFERENCE, 10: what is safe -/
section RS
variable {X : am_X} {d : Nat} {s : mM} {Q : Option Value → am_H → Prop} {P r w pd row day left a c k n : Nat} {x y z : Int32} {b : Bk} {bks : List Bk}
theorem isf_en : isf P r w b y c = ((en P c).filter (std P r w)).all fun t => decide (sy P b t = -1) || decide (sy P b t = y) := by
  unfold isf
  rw [Bool.eq_iff_iff, List.all_eq_true, List.all_eq_true]
  exact ⟨fun h t ht => h t (sn_perm.mem_iff.mpr ht), fun h t ht => h t (sn_perm.mem_iff.mp ht)⟩
theorem c246 (hF : Fx s) (hP5 : P ≤ 5) (m0 : ri s 80 20 = nI P) (p1 : ri s 85 1 = nI r) (p2 : ri s 85 2 = nI w) (hr5 : r ≤ 5) (hw5 : w ≤ 5) (e43 : ri s 80 43 = bI false) (hB1 : MB1 b k s) (hk4 : k < 4) (hc : std P r w c = true) (hy : sy P b c = y) (hq : ∀ s', FM nA nB s s' → Q (some (.int (bI (isf P r w b y c)))) (mR s')) : gE X (d + 5) 246 [.ref 80, .int (nI k), .int (nI c)] (mR s) Q := by
  have hm := mn_le hP5
  have hcN := (std_t hc).1
  obtain ⟨l, hl0⟩ : ∃ l, l = (en P c).filter (std P r w) := ⟨_, rfl⟩
  have hl14 : l.length ≤ 14 := by rw [hl0]; exact sn_len14 hP5 hcN
  have hlm : ∀ t ∈ l, t < mn P := fun t ht => by rw [hl0] at ht; exact (std_t (List.mem_filter.mp ht).2).1
  rw [isf_en, ← hl0] at hq
  have K : ∀ s1 : mM, Fx s1 → FM nA nB s s1 → ML l s1 → ri s1 80 20 = nI P → MB1 b k s1 → ∀ j i : Nat, i + j = l.length → (l.all fun t => decide (sy P b t = -1) || decide (sy P b t = y)) = ((l.drop i).all fun t => decide (sy P b t = -1) || decide (sy P b t = y)) → ∀ z5, gG X (d + 5) 246 15 [.ref 80, .int (nI k), .int (nI c), .int y, .int (nI i), z5] [] (mR s1) Q := by
    intro s1 hF hf hl m0 hB1 j
    have e42 := hl.1
    induction j with
    | zero =>
      intro i hi he z5
      have hi : i = l.length := by omega
      subst hi
      rw [List.drop_length] at he
      refine g_p t246_15 rfl ?_
      refine g_p t246_17 rfl ?_
      refine r_gete t246_18 (f80 hF) rfl rfl e42 ?_
      refine n_cge t246_21 (by omega) (by omega) (fun h21 => ?_) (fun h21 => ?_)
      · refine g_k (n := 1) t246_58 rfl rfl ?_
        exact b_ret t246_59 (by rw [he]; rfl) (hq _ hf)
      · exfalso; omega
    | succ j ih =>
      intro i hi he z5
      have hil : i < l.length := by omega
      have hmm := hlm _ (getD_mem hil)
      rw [all_drop _ 0 hil] at he
      refine g_p t246_15 rfl ?_
      refine g_p t246_17 rfl ?_
      refine r_gete t246_18 (f80 hF) rfl rfl e42 ?_
      refine n_cge t246_21 (by omega) (by omega) (fun h21 => ?_) (fun h21 => ?_)
      · exfalso; omega
      · refine g_p t246_24 rfl ?_
        refine g_p t246_25 rfl ?_
        refine g_p t246_26 rfl ?_
        refine r_getr t246_27 (f80 hF) rfl rfl ?_
        refine g_p t246_30 rfl ?_
        refine r_iale t246_32 (f97 hF) (by decide) (by omega) (hl.2 i hil) ?_
        refine r_cv t246_33 (f80 hF) rfl ?_
        refine c231 (by exact hF) (by exact m0) hP5 (by exact hB1) hk4 (by omega) ?_
        refine k_v ?_ rfl
        refine g_is t246_36 (Nat.le_of_ble_eq_true rfl) (am_s1_5 rfl) ?_
        refine g_p t246_38 rfl ?_
        refine g_p t246_40 rfl ?_
        refine g_ceq t246_41 (fun h41 => ?_) (fun h41 => ?_)
        · refine g_incn (n := 1) t246_52 rfl rfl (Nat.le_of_ble_eq_true rfl) (am_s1_4 rfl) ?_
          refine g_goto t246_55 ?_
          refine ih (i + 1) (by omega) ?_ _
          rw [he]
          first
            | (have u0 : sy P b (l.getD i 0) = -1 := h41
               rw [decide_eq_true u0, Bool.true_or, Bool.true_and])
            | (have u0 : sy P b (l.getD i 0) = y := h47
               rw [decide_eq_true u0, Bool.or_true, Bool.true_and])
        · refine g_p t246_44 rfl ?_
          refine g_p t246_46 rfl ?_
          refine g_ceq t246_47 (fun h47 => ?_) (fun h47 => ?_)
          · refine g_incn (n := 1) t246_52 rfl rfl (Nat.le_of_ble_eq_true rfl) (am_s1_4 rfl) ?_
            refine g_goto t246_55 ?_
            refine ih (i + 1) (by omega) ?_ _
            rw [he]
            first
              | (have u0 : sy P b (l.getD i 0) = -1 := h41
                 rw [decide_eq_true u0, Bool.true_or, Bool.true_and])
              | (have u0 : sy P b (l.getD i 0) = y := h47
                 rw [decide_eq_true u0, Bool.or_true, Bool.true_and])
          · refine g_k (n := 0) t246_50 rfl rfl ?_
            exact b_ret t246_51 (by rw [he, decide_eq_false h41, decide_eq_false h47]; rfl) (hq _ hf)
  refine en246 rfl rfl rfl ?_
  refine g_p t246_0 rfl ?_
  refine g_p t246_1 rfl ?_
  refine g_p t246_2 rfl ?_
  refine r_cv t246_3 (f80 hF) rfl ?_
  refine c231 (by exact hF) (by exact m0) hP5 (by exact hB1) hk4 (by omega) ?_
  rw [hy]
  refine k_v ?_ rfl
  refine g_isn t246_6 (Nat.le_of_ble_eq_true rfl) (am_s1_3 rfl) ?_
  refine g_p t246_7 rfl ?_
  refine g_p t246_8 rfl ?_
  refine r_cv t246_9 (f80 hF) rfl ?_
  refine c233n (by exact hF) hP5 (by exact m0) (by exact p1) (by exact p2) hr5 hw5 hc (by exact e43) (fun s1 f1 hl => ?_)
  refine k_0 ?_
  have hF := Fx.fr (by exact hF) f1.1
  have m0 := (f1.f (i := 20) (by decide)).trans m0
  have e43 := (f1.f (i := 43) (by decide)).trans e43
  have p1 := (f1.g (p := 85) (i := 1) (by decide)).trans p1
  have p2 := (f1.g (p := 85) (i := 2) (by decide)).trans p2
  refine g_k (n := 0) t246_12 rfl rfl ?_
  refine g_is t246_13 (Nat.le_of_ble_eq_true rfl) (am_s1_4 rfl) ?_
  exact K s1 hF f1 (by rw [hl0]; exact hl) m0 (hB1.fm (A := 80 :: nA) (B := nB) f1.1 (by decide) (by decide) (by decide) (by decide)) l.length 0 (by omega) rfl _
theorem c247t (hF : Fx s) (hP5 : P ≤ 5) (hW : MW P r w pd row day left s) (hr5 : r ≤ 5) (hw5 : w ≤ 5) (e43 : ri s 80 43 = bI false) (hM : MB bks s) (hg : bG P bks x = some b) (hy : isL y = true) (hz : ¬ z < -1) (hq : ∀ s', FM nA (0 :: nB) s s' → Q (some (.int (sfv P r w b y z))) (mR s')) : gE X (d + 6) 247 [.ref 80, .int x, .int y, .int z] (mR s) Q := by
  obtain ⟨m0, e21, e33, e34, e35, p1, p2⟩ := id hW
  have hm := mn_le hP5
  obtain ⟨hP0, k, hk, hk4, rfl, hB1⟩ := bG_M hM hg
  have K : ∀ j c : Nat, c + j = mn P → ¬ inN (sfl P r w b y c).length z = true → ∀ s', FM nA (0 :: nB) s s' → gG X (d + 6) 247 33 [.ref 80, .int (nI k), .int y, .int z, .int (nI (sfl P r w b y c).length), .int (nI c)] [] (mR s') Q := by
    intro j
    induction j with
    | zero =>
      intro c hj hn s' hf
      have hj : c = mn P := by omega
      subst hj
      have hsl := sfl_len (P := P) (r := r) (w := w) (b := b) (y := y) (mn P)
      have hF := hF.fr hf.1
      have m0 := (hf.f (i := 20) (by decide)).trans m0
      have p1 := (hf.g (p := 85) (i := 1) (by decide)).trans p1
      have p2 := (hf.g (p := 85) (i := 2) (by decide)).trans p2
      have e43 := (hf.f (i := 43) (by decide)).trans e43
      have hB1 := hB1.fm (A := 80 :: nA) (B := 0 :: nB) hf.1 (by decide) (by decide) (by decide) (by decide)
      refine g_p t247_33 rfl ?_
      refine g_p t247_35 rfl ?_
      refine r_cv t247_36 (f80 hF) rfl ?_
      refine c209 (by exact hF) (by exact m0) hP5 hP0 ?_
      refine k_v ?_ rfl
      refine n_cge t247_39 (by omega) (by omega) (fun h39 => ?_) (fun h39 => ?_)
      · refine g_p t247_97 rfl ?_
        refine g_p t247_98 rfl ?_
        refine g_cne t247_99 (fun h99 => ?_) (fun h99 => ?_)
        · refine g_p t247_107 rfl ?_
          first
            | (have uu : z = -1 := h99; exact i_ret t247_108 (by unfold sfv; rw [if_pos uu]) (hq _ hf))
            | (have uu : ¬ z = -1 := h99; exact i_ret t247_108 (by unfold sfv; rw [if_neg uu, if_neg hn]) (hq _ hf))
        · refine g_p t247_102 rfl ?_
          refine g_goto t247_104 ?_
          first
            | (have uu : z = -1 := h99; exact i_ret t247_108 (by unfold sfv; rw [if_pos uu]) (hq _ hf))
            | (have uu : ¬ z = -1 := h99; exact i_ret t247_108 (by unfold sfv; rw [if_neg uu, if_neg hn]) (hq _ hf))
      · exfalso; omega
    | succ j ih =>
      intro c hj hn s' hf
      have hcN : c < mn P := by omega
      have hsl := sfl_len (P := P) (r := r) (w := w) (b := b) (y := y) c
      have hF := hF.fr hf.1
      have m0 := (hf.f (i := 20) (by decide)).trans m0
      have p1 := (hf.g (p := 85) (i := 1) (by decide)).trans p1
      have p2 := (hf.g (p := 85) (i := 2) (by decide)).trans p2
      have e43 := (hf.f (i := 43) (by decide)).trans e43
      have hB1 := hB1.fm (A := 80 :: nA) (B := 0 :: nB) hf.1 (by decide) (by decide) (by decide) (by decide)
      refine g_p t247_33 rfl ?_
      refine g_p t247_35 rfl ?_
      refine r_cv t247_36 (f80 hF) rfl ?_
      refine c209 (by exact hF) (by exact m0) hP5 hP0 ?_
      refine k_v ?_ rfl
      refine n_cge t247_39 (by omega) (by omega) (fun h39 => ?_) (fun h39 => ?_)
      · exfalso; omega
      · refine g_p t247_42 rfl ?_
        refine g_p t247_43 rfl ?_
        refine r_cv t247_45 (f80 hF) rfl ?_
        refine c214 (by exact hF) (by exact m0) hP5 (by exact p1) (by exact p2) hr5 hw5 (by omega) ?_
        refine k_v ?_ rfl
        refine b_eq t247_48 (fun h48 => ?_) (fun h48 => ?_)
        · refine g_incn (n := 1) t247_91 rfl rfl (Nat.le_of_ble_eq_true rfl) (am_s1_5 rfl) ?_
          refine g_goto t247_94 ?_
          first
            | (have u0 := h78
               have hs1 : (std P r w c && decide (sy P b c = y) && isf P r w b y c) = true := by rw [h48, decide_eq_true h59, h69]; rfl
               have e : (sfl P r w b y (c + 1)).length = (sfl P r w b y c).length + 1 := by rw [sfl_s, if_pos hs1, List.length_append]; rfl
               have this := ih (c + 1) (by omega) (fun h => by
                 rw [e] at h
                 obtain ⟨i, i1, i2⟩ := inN_t h (by omega)
                 by_cases h9 : i = (sfl P r w b y c).length
                 · subst h9; exact u0 i2.symm
                 · exact hn (by rw [i2]; exact inN_n (by omega) (by omega))) _ (hf.tr (f1.mono (by decide) (by decide)))
               rw [e] at this
               exact this)
            | (have e : sfl P r w b y (c + 1) = sfl P r w b y c := by
                 have hs1 : (std P r w c && decide (sy P b c = y) && isf P r w b y c) = false := by
                   first
                     | (have u0 := h69; rw [u0, Bool.and_false])
                     | (have u0 := h59; rw [decide_eq_false u0, Bool.and_false]; rfl)
                     | (have u0 := h48; rw [u0]; rfl)
                 rw [sfl_s, hs1]
                 exact List.append_nil _
               have this := ih (c + 1) (by omega) (by rw [e]; exact hn)
               rw [e] at this
               first
                 | exact this _ (hf.tr (f1.mono (by decide) (by decide)))
                 | exact this _ hf)
        · refine g_p t247_51 rfl ?_
          refine g_p t247_52 rfl ?_
          refine g_p t247_53 rfl ?_
          refine r_cv t247_55 (f80 hF) rfl ?_
          refine c231 (by exact hF) (by exact m0) hP5 (by exact hB1) hk4 (by omega) ?_
          refine k_v ?_ rfl
          refine g_p t247_58 rfl ?_
          refine g_cne t247_59 (fun h59 => ?_) (fun h59 => ?_)
          · refine g_incn (n := 1) t247_91 rfl rfl (Nat.le_of_ble_eq_true rfl) (am_s1_5 rfl) ?_
            refine g_goto t247_94 ?_
            first
              | (have u0 := h78
                 have hs1 : (std P r w c && decide (sy P b c = y) && isf P r w b y c) = true := by rw [h48, decide_eq_true h59, h69]; rfl
                 have e : (sfl P r w b y (c + 1)).length = (sfl P r w b y c).length + 1 := by rw [sfl_s, if_pos hs1, List.length_append]; rfl
                 have this := ih (c + 1) (by omega) (fun h => by
                   rw [e] at h
                   obtain ⟨i, i1, i2⟩ := inN_t h (by omega)
                   by_cases h9 : i = (sfl P r w b y c).length
                   · subst h9; exact u0 i2.symm
                   · exact hn (by rw [i2]; exact inN_n (by omega) (by omega))) _ (hf.tr (f1.mono (by decide) (by decide)))
                 rw [e] at this
                 exact this)
              | (have e : sfl P r w b y (c + 1) = sfl P r w b y c := by
                   have hs1 : (std P r w c && decide (sy P b c = y) && isf P r w b y c) = false := by
                     first
                       | (have u0 := h69; rw [u0, Bool.and_false])
                       | (have u0 := h59; rw [decide_eq_false u0, Bool.and_false]; rfl)
                       | (have u0 := h48; rw [u0]; rfl)
                   rw [sfl_s, hs1]
                   exact List.append_nil _
                 have this := ih (c + 1) (by omega) (by rw [e]; exact hn)
                 rw [e] at this
                 first
                   | exact this _ (hf.tr (f1.mono (by decide) (by decide)))
                   | exact this _ hf)
          · refine g_p t247_62 rfl ?_
            refine g_p t247_63 rfl ?_
            refine g_p t247_64 rfl ?_
            refine r_cv t247_66 (f80 hF) rfl ?_
            refine c246 (by exact hF) hP5 (by exact m0) (by exact p1) (by exact p2) hr5 hw5 (by exact e43) (by exact hB1) hk4 h48 h59 (fun s1 f1 => ?_)
            refine k_v ?_ rfl
            have hF := Fx.fr (by exact hF) f1.1
            have m0 := (f1.f (i := 20) (by decide)).trans m0
            have e43 := (f1.f (i := 43) (by decide)).trans e43
            have p1 := (f1.g (p := 85) (i := 1) (by decide)).trans p1
            have p2 := (f1.g (p := 85) (i := 2) (by decide)).trans p2
            refine b_ne t247_69 (fun h69 => ?_) (fun h69 => ?_)
            · refine g_p t247_75 rfl ?_
              refine g_p t247_77 rfl ?_
              refine g_cne t247_78 (fun h78 => ?_) (fun h78 => ?_)
              · refine g_incn (n := 1) t247_88 rfl rfl (Nat.le_of_ble_eq_true rfl) (am_s1_4 rfl) ?_
                refine g_incn (n := 1) t247_91 rfl rfl (Nat.le_of_ble_eq_true rfl) (am_s1_5 rfl) ?_
                refine g_goto t247_94 ?_
                first
                  | (have u0 := h78
                     have hs1 : (std P r w c && decide (sy P b c = y) && isf P r w b y c) = true := by rw [h48, decide_eq_true h59, h69]; rfl
                     have e : (sfl P r w b y (c + 1)).length = (sfl P r w b y c).length + 1 := by rw [sfl_s, if_pos hs1, List.length_append]; rfl
                     have this := ih (c + 1) (by omega) (fun h => by
                       rw [e] at h
                       obtain ⟨i, i1, i2⟩ := inN_t h (by omega)
                       by_cases h9 : i = (sfl P r w b y c).length
                       · subst h9; exact u0 i2.symm
                       · exact hn (by rw [i2]; exact inN_n (by omega) (by omega))) _ (hf.tr (f1.mono (by decide) (by decide)))
                     rw [e] at this
                     exact this)
                  | (have e : sfl P r w b y (c + 1) = sfl P r w b y c := by
                       have hs1 : (std P r w c && decide (sy P b c = y) && isf P r w b y c) = false := by
                         first
                           | (have u0 := h69; rw [u0, Bool.and_false])
                           | (have u0 := h59; rw [decide_eq_false u0, Bool.and_false]; rfl)
                           | (have u0 := h48; rw [u0]; rfl)
                       rw [sfl_s, hs1]
                       exact List.append_nil _
                     have this := ih (c + 1) (by omega) (by rw [e]; exact hn)
                     rw [e] at this
                     first
                       | exact this _ (hf.tr (f1.mono (by decide) (by decide)))
                       | exact this _ hf)
              · refine g_p t247_81 rfl ?_
                refine g_p t247_82 rfl ?_
                refine r_cv t247_84 (f80 hF) rfl ?_
                refine c215 (by exact hF) (by exact m0) hP5 (by omega) ?_
                refine k_v ?_ rfl
                refine i_ret t247_87 ?_ (hq _ (hf.tr (f1.mono (by decide) (by decide))))
                have hs1 : (std P r w c && decide (sy P b c = y) && isf P r w b y c) = true := by rw [h48, decide_eq_true h59, h69]; rfl
                obtain ⟨t, ht⟩ := sfl_pre (P := P) (r := r) (w := w) (b := b) (y := y) (n := c + 1) (m := mn P) (by omega)
                rw [sfl_s, if_pos hs1, List.append_assoc] at ht
                unfold sfv
                rw [← h78, if_neg (nI_m1 (by omega)), ht]
                rw [if_pos (inN_n (by rw [List.length_append]; simp) (by rw [List.length_append]; simp; have := sfl_len (P := P) (r := r) (w := w) (b := b) (y := y) (mn P); rw [ht] at this; simp at this; omega)), nI_clamp (by omega)]
                rw [List.getD, List.getElem?_append_right (Nat.le_refl _), Nat.sub_self]
                rfl
            · refine g_goto t247_72 ?_
              refine g_incn (n := 1) t247_91 rfl rfl (Nat.le_of_ble_eq_true rfl) (am_s1_5 rfl) ?_
              refine g_goto t247_94 ?_
              first
                | (have u0 := h78
                   have hs1 : (std P r w c && decide (sy P b c = y) && isf P r w b y c) = true := by rw [h48, decide_eq_true h59, h69]; rfl
                   have e : (sfl P r w b y (c + 1)).length = (sfl P r w b y c).length + 1 := by rw [sfl_s, if_pos hs1, List.length_append]; rfl
                   have this := ih (c + 1) (by omega) (fun h => by
                     rw [e] at h
                     obtain ⟨i, i1, i2⟩ := inN_t h (by omega)
                     by_cases h9 : i = (sfl P r w b y c).length
                     · subst h9; exact u0 i2.symm
                     · exact hn (by rw [i2]; exact inN_n (by omega) (by omega))) _ (hf.tr (f1.mono (by decide) (by decide)))
                   rw [e] at this
                   exact this)
                | (have e : sfl P r w b y (c + 1) = sfl P r w b y c := by
                     have hs1 : (std P r w c && decide (sy P b c = y) && isf P r w b y c) = false := by
                       first
                         | (have u0 := h69; rw [u0, Bool.and_false])
                         | (have u0 := h59; rw [decide_eq_false u0, Bool.and_false]; rfl)
                         | (have u0 := h48; rw [u0]; rfl)
                     rw [sfl_s, hs1]
                     exact List.append_nil _
                   have this := ih (c + 1) (by omega) (by rw [e]; exact hn)
                   rw [e] at this
                   first
                     | exact this _ (hf.tr (f1.mono (by decide) (by decide)))
                     | exact this _ hf)
  refine en247 rfl rfl rfl rfl ?_
  refine g_p t247_0 rfl ?_
  refine g_k (n := 0) t247_1 rfl rfl ?_
  refine r_puti t247_2 (f80 hF) rfl rfl ?_
  refine g_p t247_5 rfl ?_
  refine g_p t247_6 rfl ?_
  refine r_cv t247_7 (f80 hF) rfl ?_
  refine c218B (by exact hF) (by exact m0) hP5 (by exact hM) ?_
  refine k_v ?_ rfl
  rw [hg]
  refine b_eq t247_10 (fun h10 => ?_) (fun h10 => ?_)
  · first
      | (have u0 : (some b).isSome = false := h10
         exact absurd u0 (by simp))
      | exact no_b hy h17
      | exact absurd (Int32.not_le.mp h22) hz
  · refine g_p t247_13 rfl ?_
    refine g_cs t247_14 rfl rfl rfl ?_
    refine c237 ?_
    refine k_v ?_ rfl
    refine b_eq t247_17 (fun h17 => ?_) (fun h17 => ?_)
    · first
        | (have u0 : (some b).isSome = false := h10
           exact absurd u0 (by simp))
        | exact no_b hy h17
        | exact absurd (Int32.not_le.mp h22) hz
    · refine g_p t247_20 rfl ?_
      refine g_p t247_21 rfl ?_
      refine g_cge t247_22 (fun h22 => ?_) (fun h22 => ?_)
      · refine g_k (n := 0) t247_27 rfl rfl ?_
        refine g_is t247_28 (Nat.le_of_ble_eq_true rfl) (am_s1_4 rfl) ?_
        refine g_k (n := 0) t247_30 rfl rfl ?_
        refine g_is t247_31 (Nat.le_of_ble_eq_true rfl) (am_s1_5 rfl) ?_
        exact K (mn P) 0 (by omega) (fun h => by
          obtain ⟨i, i1, -⟩ := inN_t (P := 0) (show inN 0 z = true from h) (by decide)
          exact absurd i1 (Nat.not_lt_zero i)) _ (FM.rf.m (by decide))
      · first
          | (have u0 : (some b).isSome = false := h10
             exact absurd u0 (by simp))
          | exact no_b hy h17
          | exact absurd (Int32.not_le.mp h22) hz
theorem c247f (hF : Fx s) (hP5 : P ≤ 5) (hW : MW P r w pd row day left s) (hr5 : r ≤ 5) (hw5 : w ≤ 5) (e43 : ri s 80 43 = bI false) (hM : MB bks s) (hno : ¬ ((bG P bks x).isSome = true ∧ isL y = true ∧ ¬ z < -1)) (hq : Q (some (.int (-1))) (mR (wi s 80 0 (nI 0)))) : gE X (d + 6) 247 [.ref 80, .int x, .int y, .int z] (mR s) Q := by
  obtain ⟨m0, e21, e33, e34, e35, p1, p2⟩ := id hW
  refine en247 rfl rfl rfl rfl ?_
  refine g_p t247_0 rfl ?_
  refine g_k (n := 0) t247_1 rfl rfl ?_
  refine r_puti t247_2 (f80 hF) rfl rfl ?_
  refine g_p t247_5 rfl ?_
  refine g_p t247_6 rfl ?_
  refine r_cv t247_7 (f80 hF) rfl ?_
  refine c218B (by exact hF) (by exact m0) hP5 (by exact hM) ?_
  refine k_v ?_ rfl
  refine b_eq t247_10 (fun h10 => ?_) (fun h10 => ?_)
  · refine g_p t247_25 rfl ?_
    exact i_ret t247_26 rfl hq
  · refine g_p t247_13 rfl ?_
    refine g_cs t247_14 rfl rfl rfl ?_
    refine c237 ?_
    refine k_v ?_ rfl
    refine b_eq t247_17 (fun h17 => ?_) (fun h17 => ?_)
    · refine g_p t247_25 rfl ?_
      exact i_ret t247_26 rfl hq
    · refine g_p t247_20 rfl ?_
      refine g_p t247_21 rfl ?_
      refine g_cge t247_22 (fun h22 => ?_) (fun h22 => ?_)
      · exact absurd ⟨h10, h17, Int32.not_lt.mpr h22⟩ hno
      · refine g_p t247_25 rfl ?_
        exact i_ret t247_26 rfl hq
/-- the least of all told so far -/
def gpl (P r w : Nat) (b : Bk) (v n : Nat) (A : Nat → Nat → Prop) : Prop := (v = 1000 ∨ ∃ a c, gcd2 P r w b a c ∧ v = dst P r w 15 a c) ∧ ∀ a c, A a c → gcd2 P r w b a c → v ≤ dst P r w 15 a c
theorem gpl_end {v : Nat} (hP : P ≤ 5) (h : gpl P r w b v 0 (fun a c => a < mn P ∧ c < mn P)) : GapV P r w b (if v = 1000 then -1 else nI v) := by
  obtain ⟨h1, h2⟩ := h
  rcases h1 with rfl | ⟨a, c, h3, rfl⟩
  · refine Or.inr ⟨fun a c h => ?_, rfl⟩
    have := h2 a c ⟨(std_t h.1).1, (std_t h.2.1).1⟩ h
    have := dst_10 (F := 15) hP h.1 h.2.1
    omega
  · have h4 := dst_10 (F := 15) hP h3.1 h3.2.1
    rw [if_neg (by omega)]
    exact Or.inl ⟨a, c, h3, rfl, fun a' c' h => h2 a' c' ⟨(std_t h.1).1, (std_t h.2.1).1⟩ h⟩
theorem c248t (hF : Fx s) (hP5 : P ≤ 5) (hW : MW P r w pd row day left s) (hr5 : r ≤ 5) (hw5 : w ≤ 5) (e43 : ri s 80 43 = bI false) (hM : MB bks s) (hg : bG P bks x = some b) (hq : ∀ v s', GapV P r w b v → FM hA_ (0 :: nB) s s' → Q (some (.int v)) (mR s')) : gE X (d + 7) 248 [.ref 80, .int x] (mR s) Q := by
  obtain ⟨m0, e21, e33, e34, e35, p1, p2⟩ := id hW
  have hm := mn_le hP5
  obtain ⟨hP0, k, hk, hk4, rfl, hB1⟩ := bG_M hM hg
  have K : ∀ s1 : mM, Fx s1 → FM hA_ (0 :: nB) s s1 → ri s1 80 20 = nI P → ri s1 85 1 = nI r → ri s1 85 2 = nI w → MB1 b k s1 → AP P r w s1 → ∀ j a : Nat, a + j = mn P → ∀ v z4, v ≤ 1000 → gpl P r w b v 0 (fun a' c' => a' < a ∧ c' < mn P) → gG X (d + 7) 248 25 [.ref 80, .int (nI k), .int (nI v), .int (nI a), z4] [] (mR s1) Q := by
    intro s1 hF hf m0 p1 p2 hB1 hAP j
    induction j with
    | zero =>
      intro a hj v z4 hv hl
      have hj : a = mn P := by omega
      subst hj
      have hge := gpl_end hP5 hl
      refine g_p t248_25 rfl ?_
      refine g_p t248_26 rfl ?_
      refine r_cv t248_27 (f80 hF) rfl ?_
      refine c209 (by exact hF) (by exact m0) hP5 hP0 ?_
      refine k_v ?_ rfl
      refine n_cge t248_30 (by omega) (by omega) (fun h30 => ?_) (fun h30 => ?_)
      · refine g_p t248_132 rfl ?_
        refine g_k (n := 1000) t248_133 rfl rfl ?_
        refine n_cne t248_136 (by omega) (by omega) (fun h136 => ?_) (fun h136 => ?_)
        · refine g_p t248_143 rfl ?_
          first
            | (have u0 : v = 1000 := h136
               rw [if_pos u0] at hge
               exact i_ret t248_144 rfl (hq _ _ hge hf))
            | (have u0 : ¬ v = 1000 := h136
               rw [if_neg u0] at hge
               exact i_ret t248_144 rfl (hq _ _ hge hf))
        · refine g_p t248_139 rfl ?_
          refine g_goto t248_140 ?_
          first
            | (have u0 : v = 1000 := h136
               rw [if_pos u0] at hge
               exact i_ret t248_144 rfl (hq _ _ hge hf))
            | (have u0 : ¬ v = 1000 := h136
               rw [if_neg u0] at hge
               exact i_ret t248_144 rfl (hq _ _ hge hf))
      · exfalso; omega
    | succ j ih =>
      intro a hj v z4 hv hl
      have haN : a < mn P := by omega
      have I : ∀ i c : Nat, c + i = mn P → ∀ v, v ≤ 1000 → gpl P r w b v 0 (fun a' c' => (a' < a ∧ c' < mn P) ∨ (a' = a ∧ c' < c)) → gG X (d + 7) 248 36 [.ref 80, .int (nI k), .int (nI v), .int (nI a), .int (nI c)] [] (mR s1) Q := by
        intro i
        induction i with
        | zero =>
          intro c hi v hv hl
          have hi : c = mn P := by omega
          subst hi
          refine g_p t248_36 rfl ?_
          refine g_p t248_38 rfl ?_
          refine r_cv t248_39 (f80 hF) rfl ?_
          refine c209 (by exact hF) (by exact m0) hP5 hP0 ?_
          refine k_v ?_ rfl
          refine n_cge t248_42 (by omega) (by omega) (fun h42 => ?_) (fun h42 => ?_)
          · refine g_incn (n := 1) t248_126 rfl rfl (Nat.le_of_ble_eq_true rfl) (am_s1_3 rfl) ?_
            refine g_goto t248_129 ?_
            refine ih (a + 1) (by omega) _ _ hv ⟨hl.1, fun a' c' h1 h2 => ?_⟩
            by_cases h9 : a' = a
            · exact hl.2 a' c' (Or.inr ⟨h9, h1.2⟩) h2
            · exact hl.2 a' c' (Or.inl ⟨by omega, h1.2⟩) h2
          · exfalso; omega
        | succ i ih2 =>
          intro c hi v hv hl
          have hcN : c < mn P := by omega
          have ih2 := ih2 (c + 1) (by omega)
          have SK : ¬ gcd2 P r w b a c → gpl P r w b v 0 (fun a' c' => (a' < a ∧ c' < mn P) ∨ (a' = a ∧ c' < c + 1)) := fun hn => ⟨hl.1, fun a' c' h1 h2 => by
            rcases h1 with h1 | ⟨h1, h3⟩
            · exact hl.2 a' c' (Or.inl h1) h2
            · subst h1
              by_cases h9 : c' = c
              · subst h9; exact absurd h2 hn
              · exact hl.2 a' c' (Or.inr ⟨rfl, by omega⟩) h2⟩
          refine g_p t248_36 rfl ?_
          refine g_p t248_38 rfl ?_
          refine r_cv t248_39 (f80 hF) rfl ?_
          refine c209 (by exact hF) (by exact m0) hP5 hP0 ?_
          refine k_v ?_ rfl
          refine n_cge t248_42 (by omega) (by omega) (fun h42 => ?_) (fun h42 => ?_)
          · exfalso; omega
          · refine g_p t248_45 rfl ?_
            refine g_p t248_46 rfl ?_
            refine r_cv t248_47 (f80 hF) rfl ?_
            refine c214 (by exact hF) (by exact m0) hP5 (by exact p1) (by exact p2) hr5 hw5 (by omega) ?_
            refine k_v ?_ rfl
            refine b_eq t248_50 (fun h50 => ?_) (fun h50 => ?_)
            · refine g_incn (n := 1) t248_120 rfl rfl (Nat.le_of_ble_eq_true rfl) (am_s1_4 rfl) ?_
              refine g_goto t248_123 ?_
              first
                | (have u0 : ¬ sy P b a = sy P b c := h96
                   have hgc : gcd2 P r w b a c := ⟨h50, h59, h69, h80, u0⟩
                   refine ih2 _ (by omega) ⟨?_, fun a' c' h1 h2 => ?_⟩
                   · rcases Nat.le_total v (dst P r w 15 a c) with h7 | h7
                     · rw [Nat.min_eq_left h7]; exact hl.1
                     · rw [Nat.min_eq_right h7]; exact Or.inr ⟨a, c, hgc, rfl⟩
                   · rcases h1 with h1 | ⟨h1, h3⟩
                     · exact Nat.le_trans (Nat.min_le_left _ _) (hl.2 a' c' (Or.inl h1) h2)
                     · subst h1
                       by_cases h9 : c' = c
                       · subst h9; exact Nat.min_le_right _ _
                       · exact Nat.le_trans (Nat.min_le_left _ _) (hl.2 a' c' (Or.inr ⟨rfl, by omega⟩) h2))
                | (have u0 : sy P b a = sy P b c := h96
                   exact ih2 _ hv (SK (fun h => h.2.2.2.2 u0)))
                | (have u0 : sy P b c = -1 := h80
                   exact ih2 _ hv (SK (fun h => h.2.2.2.1 u0)))
                | (have u0 : sy P b a = -1 := h69
                   exact ih2 _ hv (SK (fun h => h.2.2.1 u0)))
                | (have u0 : std P r w c = false := h59
                   exact ih2 _ hv (SK (fun h => no_b h.2.1 u0)))
                | (have u0 : std P r w a = false := h50
                   exact ih2 _ hv (SK (fun h => no_b h.1 u0)))
            · refine g_p t248_53 rfl ?_
              refine g_p t248_54 rfl ?_
              refine r_cv t248_56 (f80 hF) rfl ?_
              refine c214 (by exact hF) (by exact m0) hP5 (by exact p1) (by exact p2) hr5 hw5 (by omega) ?_
              refine k_v ?_ rfl
              refine b_eq t248_59 (fun h59 => ?_) (fun h59 => ?_)
              · refine g_incn (n := 1) t248_120 rfl rfl (Nat.le_of_ble_eq_true rfl) (am_s1_4 rfl) ?_
                refine g_goto t248_123 ?_
                first
                  | (have u0 : ¬ sy P b a = sy P b c := h96
                     have hgc : gcd2 P r w b a c := ⟨h50, h59, h69, h80, u0⟩
                     refine ih2 _ (by omega) ⟨?_, fun a' c' h1 h2 => ?_⟩
                     · rcases Nat.le_total v (dst P r w 15 a c) with h7 | h7
                       · rw [Nat.min_eq_left h7]; exact hl.1
                       · rw [Nat.min_eq_right h7]; exact Or.inr ⟨a, c, hgc, rfl⟩
                     · rcases h1 with h1 | ⟨h1, h3⟩
                       · exact Nat.le_trans (Nat.min_le_left _ _) (hl.2 a' c' (Or.inl h1) h2)
                       · subst h1
                         by_cases h9 : c' = c
                         · subst h9; exact Nat.min_le_right _ _
                         · exact Nat.le_trans (Nat.min_le_left _ _) (hl.2 a' c' (Or.inr ⟨rfl, by omega⟩) h2))
                  | (have u0 : sy P b a = sy P b c := h96
                     exact ih2 _ hv (SK (fun h => h.2.2.2.2 u0)))
                  | (have u0 : sy P b c = -1 := h80
                     exact ih2 _ hv (SK (fun h => h.2.2.2.1 u0)))
                  | (have u0 : sy P b a = -1 := h69
                     exact ih2 _ hv (SK (fun h => h.2.2.1 u0)))
                  | (have u0 : std P r w c = false := h59
                     exact ih2 _ hv (SK (fun h => no_b h.2.1 u0)))
                  | (have u0 : std P r w a = false := h50
                     exact ih2 _ hv (SK (fun h => no_b h.1 u0)))
              · refine g_p t248_62 rfl ?_
                refine g_p t248_63 rfl ?_
                refine g_p t248_64 rfl ?_
                refine r_cv t248_65 (f80 hF) rfl ?_
                refine c231 (by exact hF) (by exact m0) hP5 (by exact hB1) hk4 (by omega) ?_
                refine k_v ?_ rfl
                refine g_p t248_68 rfl ?_
                refine g_ceq t248_69 (fun h69 => ?_) (fun h69 => ?_)
                · refine g_incn (n := 1) t248_120 rfl rfl (Nat.le_of_ble_eq_true rfl) (am_s1_4 rfl) ?_
                  refine g_goto t248_123 ?_
                  first
                    | (have u0 : ¬ sy P b a = sy P b c := h96
                       have hgc : gcd2 P r w b a c := ⟨h50, h59, h69, h80, u0⟩
                       refine ih2 _ (by omega) ⟨?_, fun a' c' h1 h2 => ?_⟩
                       · rcases Nat.le_total v (dst P r w 15 a c) with h7 | h7
                         · rw [Nat.min_eq_left h7]; exact hl.1
                         · rw [Nat.min_eq_right h7]; exact Or.inr ⟨a, c, hgc, rfl⟩
                       · rcases h1 with h1 | ⟨h1, h3⟩
                         · exact Nat.le_trans (Nat.min_le_left _ _) (hl.2 a' c' (Or.inl h1) h2)
                         · subst h1
                           by_cases h9 : c' = c
                           · subst h9; exact Nat.min_le_right _ _
                           · exact Nat.le_trans (Nat.min_le_left _ _) (hl.2 a' c' (Or.inr ⟨rfl, by omega⟩) h2))
                    | (have u0 : sy P b a = sy P b c := h96
                       exact ih2 _ hv (SK (fun h => h.2.2.2.2 u0)))
                    | (have u0 : sy P b c = -1 := h80
                       exact ih2 _ hv (SK (fun h => h.2.2.2.1 u0)))
                    | (have u0 : sy P b a = -1 := h69
                       exact ih2 _ hv (SK (fun h => h.2.2.1 u0)))
                    | (have u0 : std P r w c = false := h59
                       exact ih2 _ hv (SK (fun h => no_b h.2.1 u0)))
                    | (have u0 : std P r w a = false := h50
                       exact ih2 _ hv (SK (fun h => no_b h.1 u0)))
                · refine g_p t248_72 rfl ?_
                  refine g_p t248_73 rfl ?_
                  refine g_p t248_74 rfl ?_
                  refine r_cv t248_76 (f80 hF) rfl ?_
                  refine c231 (by exact hF) (by exact m0) hP5 (by exact hB1) hk4 (by omega) ?_
                  refine k_v ?_ rfl
                  refine g_p t248_79 rfl ?_
                  refine g_ceq t248_80 (fun h80 => ?_) (fun h80 => ?_)
                  · refine g_incn (n := 1) t248_120 rfl rfl (Nat.le_of_ble_eq_true rfl) (am_s1_4 rfl) ?_
                    refine g_goto t248_123 ?_
                    first
                      | (have u0 : ¬ sy P b a = sy P b c := h96
                         have hgc : gcd2 P r w b a c := ⟨h50, h59, h69, h80, u0⟩
                         refine ih2 _ (by omega) ⟨?_, fun a' c' h1 h2 => ?_⟩
                         · rcases Nat.le_total v (dst P r w 15 a c) with h7 | h7
                           · rw [Nat.min_eq_left h7]; exact hl.1
                           · rw [Nat.min_eq_right h7]; exact Or.inr ⟨a, c, hgc, rfl⟩
                         · rcases h1 with h1 | ⟨h1, h3⟩
                           · exact Nat.le_trans (Nat.min_le_left _ _) (hl.2 a' c' (Or.inl h1) h2)
                           · subst h1
                             by_cases h9 : c' = c
                             · subst h9; exact Nat.min_le_right _ _
                             · exact Nat.le_trans (Nat.min_le_left _ _) (hl.2 a' c' (Or.inr ⟨rfl, by omega⟩) h2))
                      | (have u0 : sy P b a = sy P b c := h96
                         exact ih2 _ hv (SK (fun h => h.2.2.2.2 u0)))
                      | (have u0 : sy P b c = -1 := h80
                         exact ih2 _ hv (SK (fun h => h.2.2.2.1 u0)))
                      | (have u0 : sy P b a = -1 := h69
                         exact ih2 _ hv (SK (fun h => h.2.2.1 u0)))
                      | (have u0 : std P r w c = false := h59
                         exact ih2 _ hv (SK (fun h => no_b h.2.1 u0)))
                      | (have u0 : std P r w a = false := h50
                         exact ih2 _ hv (SK (fun h => no_b h.1 u0)))
                  · refine g_p t248_83 rfl ?_
                    refine g_p t248_84 rfl ?_
                    refine g_p t248_85 rfl ?_
                    refine r_cv t248_86 (f80 hF) rfl ?_
                    refine c231 (by exact hF) (by exact m0) hP5 (by exact hB1) hk4 (by omega) ?_
                    refine k_v ?_ rfl
                    refine g_p t248_89 rfl ?_
                    refine g_p t248_90 rfl ?_
                    refine g_p t248_91 rfl ?_
                    refine r_cv t248_93 (f80 hF) rfl ?_
                    refine c231 (by exact hF) (by exact m0) hP5 (by exact hB1) hk4 (by omega) ?_
                    refine k_v ?_ rfl
                    refine g_cne t248_96 (fun h96 => ?_) (fun h96 => ?_)
                    · refine g_p t248_102 rfl ?_
                      refine g_p t248_103 rfl ?_
                      refine r_getr t248_104 (f80 hF) rfl rfl ?_
                      refine g_k (n := 243) t248_107 rfl rfl ?_
                      refine g_p t248_110 rfl ?_
                      refine g_muln t248_111 ?_
                      refine g_p t248_112 rfl ?_
                      refine g_addn t248_114 ?_
                      refine r_iale t248_115 (f100 hF) (by decide) (by omega) ((hAP a c haN hcN h50).trans (congrArg nI (show dst P r w 1000 a c = dst P r w 15 a c from (d15 hP5).elim (fun h => h.2.2.2) (fun h => absurd ⟨h50, h59⟩ h.1)))) ?_
                      refine g_minn t248_116 (by omega) (by have := dst_10 (F := 15) hP5 h50 h59; omega) (Nat.le_of_ble_eq_true rfl) ?_
                      refine g_isn t248_119 (Nat.le_of_ble_eq_true rfl) (am_s1_2 rfl) ?_
                      refine g_incn (n := 1) t248_120 rfl rfl (Nat.le_of_ble_eq_true rfl) (am_s1_4 rfl) ?_
                      refine g_goto t248_123 ?_
                      first
                        | (have u0 : ¬ sy P b a = sy P b c := h96
                           have hgc : gcd2 P r w b a c := ⟨h50, h59, h69, h80, u0⟩
                           refine ih2 _ (by omega) ⟨?_, fun a' c' h1 h2 => ?_⟩
                           · rcases Nat.le_total v (dst P r w 15 a c) with h7 | h7
                             · rw [Nat.min_eq_left h7]; exact hl.1
                             · rw [Nat.min_eq_right h7]; exact Or.inr ⟨a, c, hgc, rfl⟩
                           · rcases h1 with h1 | ⟨h1, h3⟩
                             · exact Nat.le_trans (Nat.min_le_left _ _) (hl.2 a' c' (Or.inl h1) h2)
                             · subst h1
                               by_cases h9 : c' = c
                               · subst h9; exact Nat.min_le_right _ _
                               · exact Nat.le_trans (Nat.min_le_left _ _) (hl.2 a' c' (Or.inr ⟨rfl, by omega⟩) h2))
                        | (have u0 : sy P b a = sy P b c := h96
                           exact ih2 _ hv (SK (fun h => h.2.2.2.2 u0)))
                        | (have u0 : sy P b c = -1 := h80
                           exact ih2 _ hv (SK (fun h => h.2.2.2.1 u0)))
                        | (have u0 : sy P b a = -1 := h69
                           exact ih2 _ hv (SK (fun h => h.2.2.1 u0)))
                        | (have u0 : std P r w c = false := h59
                           exact ih2 _ hv (SK (fun h => no_b h.2.1 u0)))
                        | (have u0 : std P r w a = false := h50
                           exact ih2 _ hv (SK (fun h => no_b h.1 u0)))
                    · refine g_goto t248_99 ?_
                      refine g_incn (n := 1) t248_120 rfl rfl (Nat.le_of_ble_eq_true rfl) (am_s1_4 rfl) ?_
                      refine g_goto t248_123 ?_
                      first
                        | (have u0 : ¬ sy P b a = sy P b c := h96
                           have hgc : gcd2 P r w b a c := ⟨h50, h59, h69, h80, u0⟩
                           refine ih2 _ (by omega) ⟨?_, fun a' c' h1 h2 => ?_⟩
                           · rcases Nat.le_total v (dst P r w 15 a c) with h7 | h7
                             · rw [Nat.min_eq_left h7]; exact hl.1
                             · rw [Nat.min_eq_right h7]; exact Or.inr ⟨a, c, hgc, rfl⟩
                           · rcases h1 with h1 | ⟨h1, h3⟩
                             · exact Nat.le_trans (Nat.min_le_left _ _) (hl.2 a' c' (Or.inl h1) h2)
                             · subst h1
                               by_cases h9 : c' = c
                               · subst h9; exact Nat.min_le_right _ _
                               · exact Nat.le_trans (Nat.min_le_left _ _) (hl.2 a' c' (Or.inr ⟨rfl, by omega⟩) h2))
                        | (have u0 : sy P b a = sy P b c := h96
                           exact ih2 _ hv (SK (fun h => h.2.2.2.2 u0)))
                        | (have u0 : sy P b c = -1 := h80
                           exact ih2 _ hv (SK (fun h => h.2.2.2.1 u0)))
                        | (have u0 : sy P b a = -1 := h69
                           exact ih2 _ hv (SK (fun h => h.2.2.1 u0)))
                        | (have u0 : std P r w c = false := h59
                           exact ih2 _ hv (SK (fun h => no_b h.2.1 u0)))
                        | (have u0 : std P r w a = false := h50
                           exact ih2 _ hv (SK (fun h => no_b h.1 u0)))
      refine g_p t248_25 rfl ?_
      refine g_p t248_26 rfl ?_
      refine r_cv t248_27 (f80 hF) rfl ?_
      refine c209 (by exact hF) (by exact m0) hP5 hP0 ?_
      refine k_v ?_ rfl
      refine n_cge t248_30 (by omega) (by omega) (fun h30 => ?_) (fun h30 => ?_)
      · exfalso; omega
      · refine g_k (n := 0) t248_33 rfl rfl ?_
        refine g_is t248_34 (Nat.le_of_ble_eq_true rfl) (am_s1_4 rfl) ?_
        exact I (mn P) 0 (by omega) _ hv ⟨hl.1, fun a' c' h1 h2 => by
          rcases h1 with h1 | ⟨h1, h3⟩
          · exact hl.2 a' c' h1 h2
          · exact absurd h3 (Nat.not_lt_zero _)⟩
  refine en248 rfl rfl ?_
  refine g_p t248_0 rfl ?_
  refine g_k (n := 0) t248_1 rfl rfl ?_
  refine r_puti t248_2 (f80 hF) rfl rfl ?_
  refine g_p t248_5 rfl ?_
  refine g_p t248_6 rfl ?_
  refine r_cv t248_7 (f80 hF) rfl ?_
  refine c218B (by exact hF) (by exact m0) hP5 (by exact hM) ?_
  refine k_v ?_ rfl
  rw [hg]
  refine b_ne t248_10 (fun h10 => ?_) (fun h10 => ?_)
  · refine g_p t248_15 rfl ?_
    refine r_cv t248_16 (f80 hF) rfl ?_
    refine c235 (by exact hF) hP5 hP0 (by exact m0) (by exact p1) (by exact p2) hr5 hw5 (by exact e43) (fun s1 f1 hAP => ?_)
    refine k_0 ?_
    have hF := Fx.fr (by exact hF) f1.1
    have m0 := (f1.f (i := 20) (by decide)).trans m0
    have e33 := (f1.f (i := 33) (by decide)).trans e33
    have e35 := (f1.f (i := 35) (by decide)).trans e35
    have e34 := (f1.f (i := 34) (by decide)).trans e34
    have e21 := (f1.f (i := 21) (by decide)).trans e21
    have p1 := (f1.g (p := 85) (i := 1) (by decide)).trans p1
    have p2 := (f1.g (p := 85) (i := 2) (by decide)).trans p2
    have e43 := (f1.f (i := 43) (by decide)).trans e43
    refine g_k (n := 1000) t248_19 rfl rfl ?_
    refine g_isn t248_22 (Nat.le_of_ble_eq_true rfl) (am_s1_2 rfl) ?_
    refine g_k (n := 0) t248_23 rfl rfl ?_
    refine g_isn t248_24 (Nat.le_of_ble_eq_true rfl) (am_s1_3 rfl) ?_
    exact K s1 hF ((FM.rf.m (by decide)).tr (f1.mono (by decide) (by decide))) m0 p1 p2 (MB1.fm (A := 80 :: hA_) (B := nB) (s := wi s 80 0 (nI 0)) (by exact hB1) f1.1 (by decide) (by decide) (by decide) (by decide)) hAP (mn P) 0 (by omega) 1000 _ (Nat.le_refl _) ⟨Or.inl rfl, fun a' c' h1 _ => absurd h1.1 (Nat.not_lt_zero _)⟩
  · exact absurd h10 (by simp)
theorem c248f (hF : Fx s) (hP5 : P ≤ 5) (hW : MW P r w pd row day left s) (hr5 : r ≤ 5) (hw5 : w ≤ 5) (e43 : ri s 80 43 = bI false) (hM : MB bks s) (hg : bG P bks x = none) (hq : Q (some (.int (-1))) (mR (wi s 80 0 (nI 0)))) : gE X (d + 7) 248 [.ref 80, .int x] (mR s) Q := by
  obtain ⟨m0, e21, e33, e34, e35, p1, p2⟩ := id hW
  refine en248 rfl rfl ?_
  refine g_p t248_0 rfl ?_
  refine g_k (n := 0) t248_1 rfl rfl ?_
  refine r_puti t248_2 (f80 hF) rfl rfl ?_
  refine g_p t248_5 rfl ?_
  refine g_p t248_6 rfl ?_
  refine r_cv t248_7 (f80 hF) rfl ?_
  refine c218B (by exact hF) (by exact m0) hP5 (by exact hM) ?_
  refine k_v ?_ rfl
  rw [hg]
  refine b_ne t248_10 (fun h10 => ?_) (fun h10 => ?_)
  · exact absurd h10 (by decide)
  · refine g_p t248_13 rfl ?_
    exact i_ret t248_14 rfl hq
end RS
