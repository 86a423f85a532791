/-! THE WINDOW, 3; BOOKS -/
section WK
variable {X : am_X} {d : Nat} {s : mM} {Q : Option Value → am_H → Prop} {P r w pd row day left : Nat} {acts : List Act} {di : Nat → Nat} {a : Int32}
theorem c95_41 (hF : Fx s) (hz : ri s 33 1 = nI 0) (hq : ∀ s', Fr [41, 42, 43] s s' → (∀ i, 1 ≤ i → i ≤ 6 → ri s' 41 i = ri s 32 i) → (∀ i, i < 60 → ri s' 43 i = ri s 34 i) → ri s' 42 1 = nI 0 → Q none (mR s')) : gE X (d + 1) 95 [.ref 41, .ref 32] (mR s) Q := by
  refine en95 rfl rfl ?_
  refine g_p t95_0 rfl ?_
  refine g_p t95_1 rfl ?_
  refine r_geti t95_2 (f32 hF) rfl rfl ?_
  refine r_puti t95_5 (f41 hF) rfl rfl ?_
  refine g_p t95_8 rfl ?_
  refine g_p t95_9 rfl ?_
  refine r_geti t95_10 (f32 hF) rfl rfl ?_
  refine r_puti t95_13 (f41 hF) rfl rfl ?_
  refine g_p t95_16 rfl ?_
  refine g_p t95_17 rfl ?_
  refine r_geti t95_18 (f32 hF) rfl rfl ?_
  refine r_puti t95_21 (f41 hF) rfl rfl ?_
  refine g_p t95_24 rfl ?_
  refine g_p t95_25 rfl ?_
  refine r_geti t95_26 (f32 hF) rfl rfl ?_
  refine r_puti t95_29 (f41 hF) rfl rfl ?_
  refine g_p t95_32 rfl ?_
  refine g_p t95_33 rfl ?_
  refine r_geti t95_34 (f32 hF) rfl rfl ?_
  refine r_puti t95_37 (f41 hF) rfl rfl ?_
  refine g_p t95_40 rfl ?_
  refine g_p t95_41 rfl ?_
  refine r_geti t95_42 (f32 hF) rfl rfl ?_
  refine r_puti t95_45 (f41 hF) rfl rfl ?_
  refine g_p t95_48 rfl ?_
  refine r_getr t95_49 (f41 hF) rfl rfl ?_
  refine g_p t95_52 rfl ?_
  refine r_getr t95_53 (f32 hF) rfl rfl ?_
  refine r_cv t95_56 (f42 hF) rfl ?_
  refine c36c (by exact fN42 hF) (by exact fN33 hF) (by decide) (by exact hz) (by decide) (fun s56 fr56 l56 t56 => ?_)
  refine k_0 ?_
  refine v_ret t95_59 (hq _ (Fr.tr (s' := (wi (wi (wi (wi (wi (wi s 41 1 (ri s 32 1)) 41 2 (ri s 32 2)) 41 3 (ri s 32 3)) 41 4 (ri s 32 4)) 41 5 (ri s 32 5)) 41 6 (ri s 32 6))) ((((((Fr.rf.wi (by simp)).wi (by simp)).wi (by simp)).wi (by simp)).wi (by simp)).wi (by simp)) (fr56.mono (by decide))) (fun i h1 h6 => ?_) (fun i hi => t56 i hi) l56)
  rw [fr56.ri (by decide)]
  rcases (show i = 1 ∨ i = 2 ∨ i = 3 ∨ i = 4 ∨ i = 5 ∨ i = 6 by omega) with rfl | rfl | rfl | rfl | rfl | rfl <;> rfl
theorem c95_32 (hF : Fx s) (hz : ri s 42 1 = nI 0) (hq : ∀ s', Fr [32, 33, 34] s s' → (∀ i, 1 ≤ i → i ≤ 6 → ri s' 32 i = ri s 41 i) → (∀ i, i < 60 → ri s' 34 i = ri s 43 i) → ri s' 33 1 = nI 0 → Q none (mR s')) : gE X (d + 1) 95 [.ref 32, .ref 41] (mR s) Q := by
  refine en95 rfl rfl ?_
  refine g_p t95_0 rfl ?_
  refine g_p t95_1 rfl ?_
  refine r_geti t95_2 (f41 hF) rfl rfl ?_
  refine r_puti t95_5 (f32 hF) rfl rfl ?_
  refine g_p t95_8 rfl ?_
  refine g_p t95_9 rfl ?_
  refine r_geti t95_10 (f41 hF) rfl rfl ?_
  refine r_puti t95_13 (f32 hF) rfl rfl ?_
  refine g_p t95_16 rfl ?_
  refine g_p t95_17 rfl ?_
  refine r_geti t95_18 (f41 hF) rfl rfl ?_
  refine r_puti t95_21 (f32 hF) rfl rfl ?_
  refine g_p t95_24 rfl ?_
  refine g_p t95_25 rfl ?_
  refine r_geti t95_26 (f41 hF) rfl rfl ?_
  refine r_puti t95_29 (f32 hF) rfl rfl ?_
  refine g_p t95_32 rfl ?_
  refine g_p t95_33 rfl ?_
  refine r_geti t95_34 (f41 hF) rfl rfl ?_
  refine r_puti t95_37 (f32 hF) rfl rfl ?_
  refine g_p t95_40 rfl ?_
  refine g_p t95_41 rfl ?_
  refine r_geti t95_42 (f41 hF) rfl rfl ?_
  refine r_puti t95_45 (f32 hF) rfl rfl ?_
  refine g_p t95_48 rfl ?_
  refine r_getr t95_49 (f32 hF) rfl rfl ?_
  refine g_p t95_52 rfl ?_
  refine r_getr t95_53 (f41 hF) rfl rfl ?_
  refine r_cv t95_56 (f33 hF) rfl ?_
  refine c36c (by exact fN33 hF) (by exact fN42 hF) (by decide) (by exact hz) (by decide) (fun s56 fr56 l56 t56 => ?_)
  refine k_0 ?_
  refine v_ret t95_59 (hq _ (Fr.tr (s' := (wi (wi (wi (wi (wi (wi s 32 1 (ri s 41 1)) 32 2 (ri s 41 2)) 32 3 (ri s 41 3)) 32 4 (ri s 41 4)) 32 5 (ri s 41 5)) 32 6 (ri s 41 6))) ((((((Fr.rf.wi (by simp)).wi (by simp)).wi (by simp)).wi (by simp)).wi (by simp)).wi (by simp)) (fr56.mono (by decide))) (fun i h1 h6 => ?_) (fun i hi => t56 i hi) l56)
  rw [fr56.ri (by decide)]
  rcases (show i = 1 ∨ i = 2 ∨ i = 3 ∨ i = 4 ∨ i = 5 ∨ i = 6 by omega) with rfl | rfl | rfl | rfl | rfl | rfl <;> rfl
theorem c107 (hF : Fx s) (hR : CR P s) (hW : CW r w pd row day left s) (hr : row < mn P) (hr5 : r ≤ 5) (hw5 : w ≤ 5) {D : Nat} (hD : D < 2 ^ 62) (hq : ∀ s', Fr [32] s s' → CW r w pd (drw P r w row D) day left s' → Q none (mR s')) : gE X (d + 3) 107 [.ref 32, .long (lN D)] (mR s) Q := by
  obtain ⟨e1, e2, e3, e4, e5, e6⟩ := hW
  have hP5 := hR.2.2.1
  have hm := mn_le hP5
  have hnl := nb_len hP5 hr
  have hb := hR.2.2.2.2.2.2.2 row hr
  have hnb : ∀ k, k < (nb P row).length → (nb P row).getD k 0 < 243 := fun k hk => by have := nbD hP5 hr hk; omega
  have hC : D % ((sn P r w row).length + 1) < (sn P r w row).length + 1 := Nat.mod_lt _ (by omega)
  have hsl : (sn P r w row).length ≤ (nb P row).length := List.length_filter_le ..
  have L0 : ∀ s', Fr [32] s s' → CW r w pd (drw P r w row D) day left s' → ∀ k, k ≤ (nb P row).length → ∀ z, gG X (d + 3) 107 86 [.ref 32, .long (lN D), .float 0, .int (nI (sn P r w row).length), .int (nI ((sn P r w row).length + 1)), .int (nI 0), .int (nI row), .int (nI k), z] [] (mR s') Q := by
    intro s' hf hW k hk z
    have hF := hF.fr hf
    have hR := hR.fr hf (by decide)
    have hb := hR.2.2.2.2.2.2.2 row hr
    refine g_p t107_86 rfl ?_
    refine g_p t107_88 rfl ?_
    refine r_getr t107_89 (f32 hF) rfl rfl ?_
    refine g_p t107_92 rfl ?_
    refine r_cv t107_94 (f19 hF) rfl ?_
    refine c81 (by exact hF) (by omega) hb.1 ?_
    refine k_v ?_ rfl
    refine n_cge t107_97 (by omega) (by omega) (fun h97 => ?_) (fun h97 => ?_)
    · exact v_ret t107_147 (hq _ hf hW)
    · refine g_p t107_100 rfl ?_
      refine n_le t107_102 (by omega) (fun h102 => ?_) (fun h102 => ?_)
      · exact v_ret t107_147 (hq _ hf hW)
      · exfalso; omega
  have L2 : ∀ j k : Nat, k + j = (nb P row).length → ∀ ch : Nat, 0 < ch → ch + (flt (std P r w) (nb P row) k).length = D % ((sn P r w row).length + 1) → ∀ z, gG X (d + 3) 107 86 [.ref 32, .long (lN D), .float 0, .int (nI (sn P r w row).length), .int (nI ((sn P r w row).length + 1)), .int (nI ch), .int (nI row), .int (nI k), z] [] (mR s) Q := by
    intro j
    induction j with
    | zero =>
      intro k hk ch hch hC2 z
      have hk : k = (nb P row).length := by omega
      subst hk
      rw [flt_all] at hC2
      have : ((nb P row).filter (std P r w)).length = (sn P r w row).length := rfl
      omega
    | succ j ih =>
      intro k hk ch hch hC2 z
      have hk2 : k < (nb P row).length := by omega
      have hv := hnb k hk2
      obtain ⟨ch, rfl⟩ : ∃ c, ch = c + 1 := ⟨ch - 1, by omega⟩
      refine g_p t107_86 rfl ?_
      refine g_p t107_88 rfl ?_
      refine r_getr t107_89 (f32 hF) rfl rfl ?_
      refine g_p t107_92 rfl ?_
      refine r_cv t107_94 (f19 hF) rfl ?_
      refine c81 (by exact hF) (by omega) hb.1 ?_
      refine k_v ?_ rfl
      refine n_cge t107_97 (by omega) (by omega) (fun h97 => ?_) (fun h97 => ?_)
      · exfalso; omega
      · refine g_p t107_100 rfl ?_
        refine n_le t107_102 (by omega) (fun h102 => ?_) (fun h102 => ?_)
        · exfalso; omega
        · refine g_p t107_105 rfl ?_
          refine r_getr t107_106 (f32 hF) rfl rfl ?_
          refine g_p t107_109 rfl ?_
          refine g_p t107_111 rfl ?_
          refine r_cv t107_113 (f19 hF) rfl ?_
          refine c82 (by exact hF) (by omega) (hb.2 k hk2) ?_
          refine k_v ?_ rfl
          refine g_is t107_116 (Nat.le_of_ble_eq_true rfl) (am_s1_8 rfl) ?_
          refine g_p t107_118 rfl ?_
          refine g_p t107_119 rfl ?_
          refine r_cv t107_121 (f32 hF) rfl ?_
          refine c103 (by exact hF) (by exact hR) (by omega) (by exact e1) (by exact e2) hr5 hw5 ?_
          refine k_v ?_ rfl
          refine b_eq t107_124 (fun h124 => ?_) (fun h124 => ?_)
          · refine g_incn (n := 1) t107_141 rfl rfl (Nat.le_of_ble_eq_true rfl) (am_s1_7 rfl) ?_
            refine g_goto t107_144 ?_
            first
              | exact ih (k + 1) (by omega) _ (by omega) (by rw [flt, if_neg (by rw [h124]; decide), List.append_nil]; omega) _
              | exact ih (k + 1) (by omega) _ (by omega) (by rw [flt, if_pos h124, List.length_append]; simp only [List.length_cons, List.length_nil]; omega) _
              | (subst h132
                 have e : drw P r w row D = (nb P row).getD k 0 := by
                   unfold drw
                   rw [if_neg (by omega), ← hC2, show 0 + 1 + (flt (std P r w) (nb P row) k).length - 1 = (flt (std P r w) (nb P row) k).length by omega]
                   exact flt_at hk2 h124
                 exact L0 (wi s 32 4 (nI ((nb P row).getD k 0))) (Fr.rf.wi (by simp)) ⟨e1, e2, e3, by rw [e]; rfl, e5, e6⟩ (k + 1) (by omega) _)
          · refine g_decn t107_127 rfl rfl (Nat.le_of_ble_eq_true rfl) (am_s1_5 rfl) ?_
            refine g_p t107_130 rfl ?_
            refine n_ne t107_132 (by omega) (fun h132 => ?_) (fun h132 => ?_)
            · refine g_incn (n := 1) t107_141 rfl rfl (Nat.le_of_ble_eq_true rfl) (am_s1_7 rfl) ?_
              refine g_goto t107_144 ?_
              first
                | exact ih (k + 1) (by omega) _ (by omega) (by rw [flt, if_neg (by rw [h124]; decide), List.append_nil]; omega) _
                | exact ih (k + 1) (by omega) _ (by omega) (by rw [flt, if_pos h124, List.length_append]; simp only [List.length_cons, List.length_nil]; omega) _
                | (subst h132
                   have e : drw P r w row D = (nb P row).getD k 0 := by
                     unfold drw
                     rw [if_neg (by omega), ← hC2, show 0 + 1 + (flt (std P r w) (nb P row) k).length - 1 = (flt (std P r w) (nb P row) k).length by omega]
                     exact flt_at hk2 h124
                   exact L0 (wi s 32 4 (nI ((nb P row).getD k 0))) (Fr.rf.wi (by simp)) ⟨e1, e2, e3, by rw [e]; rfl, e5, e6⟩ (k + 1) (by omega) _)
            · refine g_p t107_135 rfl ?_
              refine g_p t107_136 rfl ?_
              refine r_puti t107_138 (f32 hF) rfl rfl ?_
              refine g_incn (n := 1) t107_141 rfl rfl (Nat.le_of_ble_eq_true rfl) (am_s1_7 rfl) ?_
              refine g_goto t107_144 ?_
              first
                | exact ih (k + 1) (by omega) _ (by omega) (by rw [flt, if_neg (by rw [h124]; decide), List.append_nil]; omega) _
                | exact ih (k + 1) (by omega) _ (by omega) (by rw [flt, if_pos h124, List.length_append]; simp only [List.length_cons, List.length_nil]; omega) _
                | (subst h132
                   have e : drw P r w row D = (nb P row).getD k 0 := by
                     unfold drw
                     rw [if_neg (by omega), ← hC2, show 0 + 1 + (flt (std P r w) (nb P row) k).length - 1 = (flt (std P r w) (nb P row) k).length by omega]
                     exact flt_at hk2 h124
                   exact L0 (wi s 32 4 (nI ((nb P row).getD k 0))) (Fr.rf.wi (by simp)) ⟨e1, e2, e3, by rw [e]; rfl, e5, e6⟩ (k + 1) (by omega) _)
  have L1 : ∀ j k : Nat, k + j = (nb P row).length → gG X (d + 3) 107 5 [.ref 32, .long (lN D), .float 0, .int (nI (flt (std P r w) (nb P row) k).length), .int (nI k), .float 0, .float 0, .float 0, .float 0] [] (mR s) Q := by
    intro j
    induction j with
    | zero =>
      intro k hk
      have hk : k = (nb P row).length := by omega
      subst hk
      rw [flt_all]
      show gG X (d + 3) 107 5 [.ref 32, .long (lN D), .float 0, .int (nI (sn P r w row).length), .int (nI (nb P row).length), .float 0, .float 0, .float 0, .float 0] [] (mR s) Q
      refine g_p t107_5 rfl ?_
      refine g_p t107_7 rfl ?_
      refine r_getr t107_8 (f32 hF) rfl rfl ?_
      refine g_p t107_11 rfl ?_
      refine r_gete t107_12 (f32 hF) rfl rfl e4 ?_
      refine r_cv t107_15 (f19 hF) rfl ?_
      refine c81 (by exact hF) (by omega) hb.1 ?_
      refine k_v ?_ rfl
      refine n_cge t107_18 (by omega) (by omega) (fun h18 => ?_) (fun h18 => ?_)
      · refine g_p t107_55 rfl ?_
        refine g_k (n := 1) t107_56 rfl rfl ?_
        refine g_addn t107_57 ?_
        refine g_is t107_58 (Nat.le_of_ble_eq_true rfl) (am_s1_4 rfl) ?_
        refine g_p t107_60 rfl ?_
        refine n_le t107_62 (by omega) (fun h62 => ?_) (fun h62 => ?_)
        · exfalso; omega
        · refine g_p t107_65 rfl ?_
          refine g_p t107_66 rfl ?_
          refine n_i2l t107_68 (by omega) ?_
          refine n_lrem t107_69 (by omega) (by omega) (by omega) ?_
          refine n_l2i t107_70 ?_
          refine g_goto t107_71 ?_
          refine g_is t107_75 (Nat.le_of_ble_eq_true rfl) (am_s1_5 rfl) ?_
          refine g_p t107_77 rfl ?_
          refine r_gete t107_78 (f32 hF) rfl rfl e4 ?_
          refine g_is t107_81 (Nat.le_of_ble_eq_true rfl) (am_s1_6 rfl) ?_
          refine g_k (n := 0) t107_83 rfl rfl ?_
          refine g_is t107_84 (Nat.le_of_ble_eq_true rfl) (am_s1_7 rfl) ?_
          by_cases h0 : D % ((sn P r w row).length + 1) = 0
          · rw [h0]
            exact L0 s Fr.rf (by rw [show drw P r w row D = row from if_pos h0]; exact ⟨e1, e2, e3, e4, e5, e6⟩) 0 (Nat.zero_le _) _
          · exact L2 (nb P row).length 0 (by omega) _ (by omega) (by rw [flt]; rfl) _
      · exfalso; omega
    | succ j ih =>
      intro k hk
      have hk2 : k < (nb P row).length := by omega
      have hv := hnb k hk2
      have hfl := flt_len (p := std P r w) (l := nb P row) k
      refine g_p t107_5 rfl ?_
      refine g_p t107_7 rfl ?_
      refine r_getr t107_8 (f32 hF) rfl rfl ?_
      refine g_p t107_11 rfl ?_
      refine r_gete t107_12 (f32 hF) rfl rfl e4 ?_
      refine r_cv t107_15 (f19 hF) rfl ?_
      refine c81 (by exact hF) (by omega) hb.1 ?_
      refine k_v ?_ rfl
      refine n_cge t107_18 (by omega) (by omega) (fun h18 => ?_) (fun h18 => ?_)
      · exfalso; omega
      · refine g_p t107_21 rfl ?_
        refine g_p t107_22 rfl ?_
        refine g_p t107_23 rfl ?_
        refine r_getr t107_24 (f32 hF) rfl rfl ?_
        refine g_p t107_27 rfl ?_
        refine r_gete t107_28 (f32 hF) rfl rfl e4 ?_
        refine g_p t107_31 rfl ?_
        refine r_cv t107_33 (f19 hF) rfl ?_
        refine c82 (by exact hF) (by omega) (hb.2 k hk2) ?_
        refine k_v ?_ rfl
        refine r_cv t107_36 (f32 hF) rfl ?_
        refine c103 (by exact hF) (by exact hR) (by omega) (by exact e1) (by exact e2) hr5 hw5 ?_
        refine k_v ?_ rfl
        refine b_eq t107_39 (fun h39 => ?_) (fun h39 => ?_)
        · refine g_k (n := 0) t107_46 rfl rfl ?_
          refine g_addn t107_47 ?_
          refine g_isn t107_48 (Nat.le_of_ble_eq_true rfl) (am_s1_3 rfl) ?_
          refine g_incn (n := 1) t107_49 rfl rfl (Nat.le_of_ble_eq_true rfl) (am_s1_4 rfl) ?_
          refine g_goto t107_52 ?_
          have := ih (k + 1) (by omega)
          rw [flt, List.length_append] at this
          first
            | (rw [if_pos h39] at this; exact this)
            | (rw [if_neg (by rw [h39]; decide)] at this; exact this)
        · refine g_k (n := 1) t107_42 rfl rfl ?_
          refine g_goto t107_43 ?_
          refine g_addn t107_47 ?_
          refine g_isn t107_48 (Nat.le_of_ble_eq_true rfl) (am_s1_3 rfl) ?_
          refine g_incn (n := 1) t107_49 rfl rfl (Nat.le_of_ble_eq_true rfl) (am_s1_4 rfl) ?_
          refine g_goto t107_52 ?_
          have := ih (k + 1) (by omega)
          rw [flt, List.length_append] at this
          first
            | (rw [if_pos h39] at this; exact this)
            | (rw [if_neg (by rw [h39]; decide)] at this; exact this)
  refine en107 rfl ?_
  refine g_k (n := 0) t107_0 rfl rfl ?_
  refine g_isn t107_1 (Nat.le_of_ble_eq_true rfl) (am_s1_3 rfl) ?_
  refine g_k (n := 0) t107_2 rfl rfl ?_
  refine g_is t107_3 (Nat.le_of_ble_eq_true rfl) (am_s1_4 rfl) ?_
  exact L1 (nb P row).length 0 (by omega)
end WK
