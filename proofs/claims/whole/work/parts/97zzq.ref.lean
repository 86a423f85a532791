/-! THE REFERENCE, 8: how far the rows are -/
theorem mk_aj {P r w c t : Nat} {rt : Bool} {L : Nat → Nat → Int32} (hc : std P r w c = true) : t ∈ (en P c).filter (mk1 P r w rt L c) ↔ aj P r w (fun c t => !rt || rg P L c t) c t := by
  rw [List.mem_filter]
  unfold mk1 aj
  rw [Bool.and_eq_true]
  exact ⟨fun h => ⟨h.1, hc, h.2.1, h.2.2⟩, fun h => ⟨h.1, h.2.2.1, h.2.2.2⟩⟩
abbrev fA : List Nat := [84, 97, 98, 99]
section RQ
variable {X : am_X} {d : Nat} {s : mM} {Q : Option Value → am_H → Prop} {P a k v r w : Nat} {rt : Bool} {L : Nat → Nat → Int32} {J : mM → Prop}
theorem c234 (hF : Fx s) (hP5 : P ≤ 5) (m0 : ri s 80 20 = nI P) (p1 : ri s 85 1 = nI r) (p2 : ri s 85 2 = nI w) (hr5 : r ≤ 5) (hw5 : w ≤ 5) (ha : std P r w a = true) (e43 : ri s 80 43 = bI rt) (hLO : LO X (d + 3) P rt L J) (hJ : J s) (hq : ∀ s', FM fA nB s s' → J s' → (∀ x, x < mn P → ri s' 98 x = nI (ds (aj P r w (fun c t => !rt || rg P L c t)) 1000 a x)) → Q none (mR s')) : gE X (d + 5) 234 [.ref 80, .int (nI a)] (mR s) Q := by
  have haN := (std_t ha).1
  have hm := mn_le hP5
  obtain ⟨A, hA⟩ : ∃ A, A = aj P r w (fun c t => !rt || rg P L c t) := ⟨_, rfl⟩
  rw [← hA] at hq
  have hb : ∀ n x, lv A a n x → ∃ m, m < 1000 ∧ lv A a m x := by rw [hA]; exact lv_b hP5 Rok_b ha (by decide)
  have OUT : ∀ j h : Nat, h + j = mn P → ∀ s' q f z4 z5, am_nl z4 = true → FM fA nB s s' → J s' → (∀ i, i < q.length → ri s' 99 i = nI (q.getD i 0)) → (∀ x, x < mn P → ri s' 98 x = nI (f x)) → Bf A a (mn P) 1000 q h f → gG X (d + 5) 234 42 [.ref 80, .int (nI a), .int (nI q.length), .int (nI h), z4, z5] [] (mR s') Q := by
    intro j
    induction j with
    | zero =>
      intro h hj s' q f z4 z5 n4 hf hJ hqq hfd hB
      have hql := nd_len _ q hB.1 hB.2.1
      have hhq := hB.2.2.2.2.2.2.1
      have hh : h = q.length := by omega
      subst hh
      refine g_p t234_42 rfl ?_
      refine g_p t234_43 rfl ?_
      refine n_cge t234_44 (by omega) (by omega) (fun h44 => ?_) (fun h44 => ?_)
      · exact v_ret t234_143 (hq _ hf hJ (fun x hx => by rw [hfd x hx, Bf_end hB x hx]))
      · exfalso; omega
    | succ j ih =>
      intro h hj s' q f z4 z5 n4 hf hJ hqq hfd hB
      have hql := nd_len _ q hB.1 hB.2.1
      have hhq := hB.2.2.2.2.2.2.1
      have INN : ∀ c, c < mn P → ∀ nl, nl = (en P c).filter (mk1 P r w rt L c) → ∀ i k : Nat, k + i = nl.length → ∀ s' q f, FM fA nB s s' → J s' → (∀ i, i < q.length → ri s' 99 i = nI (q.getD i 0)) → (∀ x, x < mn P → ri s' 98 x = nI (f x)) → Bf A a (mn P) 1000 q h f → ML nl s' → h < q.length → q.getD h 0 = c → (∀ i, i < k → nl.getD i 0 ∈ q) → gG X (d + 5) 234 64 [.ref 80, .int (nI a), .int (nI q.length), .int (nI h), .int (nI c), .int (nI k)] [] (mR s') Q := by
        intro c hc nl hnl i
        have hnl14 : nl.length ≤ 14 := by rw [hnl]; exact Nat.le_trans (List.length_filter_le _ _) (en_len hP5 hc)
        induction i with
        | zero =>
          intro k hi s' q f hf hJ hqq hfd hB hl hhl hqc hdone
          have hF := hF.fr hf.1
          have e42 := hl.1
          have hk : k = nl.length := by omega
          subst hk
          have hcs : std P r w c = true := lv_std ha (by have := (hB.2.2.2.2.1 c (by rw [← hqc]; exact getD_mem hhl)).1; rw [hA] at this; exact this)
          have hB2 : Bf A a (mn P) 1000 q (h + 1) f := Bf_next hB hhl (fun y hy => by
            rw [hqc, hA] at hy
            have hy2 := (mk_aj hcs).mpr hy
            rw [← hnl] at hy2
            obtain ⟨i, hi, e⟩ := mem_getD hy2
            have := hdone i hi
            rw [e] at this
            exact this)
          have hql := nd_len _ q hB.1 hB.2.1
          refine g_p t234_64 rfl ?_
          refine g_p t234_66 rfl ?_
          refine r_gete t234_67 (f80 hF) rfl rfl e42 ?_
          refine n_cge t234_70 (by omega) (by omega) (fun h70 => ?_) (fun h70 => ?_)
          · refine g_incn (n := 1) t234_137 rfl rfl (Nat.le_of_ble_eq_true rfl) (am_s1_3 rfl) ?_
            refine g_goto t234_140 ?_
            exact ih (h + 1) (by omega) s' q f _ _ rfl hf hJ hqq hfd hB2
          · exfalso; omega
        | succ i ihi =>
          intro k hi s' q f hf hJ hqq hfd hB hl hhl hqc hdone
          have hF := hF.fr hf.1
          have e42 := hl.1
          have hkl : k < nl.length := by omega
          obtain ⟨t, ht⟩ : ∃ t, t = nl.getD k 0 := ⟨_, rfl⟩
          have hcs : std P r w c = true := lv_std ha (by have := (hB.2.2.2.2.1 c (by rw [← hqc]; exact getD_mem hhl)).1; rw [hA] at this; exact this)
          have hAct : A c t := by rw [hA]; exact (mk_aj hcs).mp (by rw [← hnl, ht]; exact getD_mem hkl)
          have htN : t < mn P := by have h9 := hAct; rw [hA] at h9; exact (std_t h9.2.2.1).1
          have hlk := hl.2 k hkl
          rw [← ht] at hlk
          have hft := Bf_le hB hb htN
          have hfc := Bf_le hB hb hc
          have hql := nd_len _ q hB.1 hB.2.1
          by_cases h1000 : f t < 1000
          · have htq : t ∈ q := (hB.2.2.2.1 t htN).mp (by omega)
            refine g_p t234_64 rfl ?_
            refine g_p t234_66 rfl ?_
            refine r_gete t234_67 (f80 hF) rfl rfl e42 ?_
            refine n_cge t234_70 (by omega) (by omega) (fun h70 => ?_) (fun h70 => ?_)
            · exfalso; omega
            · refine g_p t234_73 rfl ?_
              refine r_getr t234_74 (f80 hF) rfl rfl ?_
              refine g_p t234_77 rfl ?_
              refine r_getr t234_78 (f80 hF) rfl rfl ?_
              refine g_p t234_81 rfl ?_
              refine r_iale t234_83 (f97 hF) (by decide) (by omega) hlk ?_
              refine r_iale t234_84 (f98 hF) (by decide) (by omega) (hfd t htN) ?_
              refine g_k (n := 1000) t234_85 rfl rfl ?_
              refine n_cge t234_88 (by omega) (by omega) (fun h88 => ?_) (fun h88 => ?_)
              · exact absurd h1000 (Nat.not_lt.mpr h88)
              · refine g_goto t234_91 ?_
                refine g_incn (n := 1) t234_131 rfl rfl (Nat.le_of_ble_eq_true rfl) (am_s1_5 rfl) ?_
                refine g_goto t234_134 ?_
                exact ihi (k + 1) (by omega) s' q f hf hJ hqq hfd hB hl hhl hqc (fun i hi => by
                  by_cases h9 : i = k
                  · subst h9; rw [← ht]; exact htq
                  · exact hdone i (by omega))
          · have hB2 : Bf A a (mn P) 1000 (q ++ [t]) h (fun x => if x = t then f c + 1 else f x) := Bf_add hB hhl (by rw [hqc]; exact hAct) htN (by omega) hb (fun x _ => by rw [hqc])
            have hql2 := nd_len _ _ hB2.1 hB2.2.1
            rw [List.length_append, List.length_cons, List.length_nil] at hql2
            refine g_p t234_64 rfl ?_
            refine g_p t234_66 rfl ?_
            refine r_gete t234_67 (f80 hF) rfl rfl e42 ?_
            refine n_cge t234_70 (by omega) (by omega) (fun h70 => ?_) (fun h70 => ?_)
            · exfalso; omega
            · refine g_p t234_73 rfl ?_
              refine r_getr t234_74 (f80 hF) rfl rfl ?_
              refine g_p t234_77 rfl ?_
              refine r_getr t234_78 (f80 hF) rfl rfl ?_
              refine g_p t234_81 rfl ?_
              refine r_iale t234_83 (f97 hF) (by decide) (by omega) hlk ?_
              refine r_iale t234_84 (f98 hF) (by decide) (by omega) (hfd t htN) ?_
              refine g_k (n := 1000) t234_85 rfl rfl ?_
              refine n_cge t234_88 (by omega) (by omega) (fun h88 => ?_) (fun h88 => ?_)
              · refine g_p t234_94 rfl ?_
                refine r_getr t234_95 (f80 hF) rfl rfl ?_
                refine g_p t234_98 rfl ?_
                refine r_getr t234_99 (f80 hF) rfl rfl ?_
                refine g_p t234_102 rfl ?_
                refine r_iale t234_104 (f97 hF) (by decide) (by omega) hlk ?_
                refine g_p t234_105 rfl ?_
                refine r_getr t234_106 (f80 hF) rfl rfl ?_
                refine g_p t234_109 rfl ?_
                refine r_iale t234_111 (f98 hF) (by decide) (by omega) (hfd c hc) ?_
                refine g_k (n := 1) t234_112 rfl rfl ?_
                refine g_addn t234_113 ?_
                refine r_iast t234_114 (f98 hF) (by decide) (by omega) ?_
                refine g_p t234_115 rfl ?_
                refine r_getr t234_116 (f80 hF) rfl rfl ?_
                refine g_p t234_119 rfl ?_
                refine g_p t234_120 rfl ?_
                refine r_getr t234_121 (f80 hF) rfl rfl ?_
                refine g_p t234_124 rfl ?_
                refine r_iale t234_126 (f97 hF) (by decide) (by omega) hlk ?_
                refine r_iast t234_127 (f99 hF) (by decide) (by omega) ?_
                refine g_incn (n := 1) t234_128 rfl rfl (Nat.le_of_ble_eq_true rfl) (am_s1_2 rfl) ?_
                refine g_incn (n := 1) t234_131 rfl rfl (Nat.le_of_ble_eq_true rfl) (am_s1_5 rfl) ?_
                refine g_goto t234_134 ?_
                have hf2 := (hf.w (p := 98) (i := t) (v := nI (f c + 1)) (by decide) (by decide)).w (p := 99) (i := q.length) (v := nI t) (by decide) (by decide)
                have := ihi (k + 1) (by omega) _ (q ++ [t]) _ hf2 (hLO.1 _ _ hJ ((FM.rf.w (by decide) (by decide)).w (by decide) (by decide))) (fun i hi => ?_) (fun x hx => ?_) hB2 (hl.fm (A := [98, 99]) (B := []) ((FM.rf.w (by decide) (by decide)).w (by decide) (by decide)) (by decide) (by decide)) (by rw [List.length_append]; omega) (by rw [gD_app1 hhl]; exact hqc) (fun i hi => ?_)
                · rw [List.length_append] at this
                  exact this
                · rw [List.length_append] at hi
                  by_cases h9 : i < q.length
                  · rw [gD_app1 h9, ri_wi_j (Nat.ne_of_lt h9), ri_wi_ne (by decide)]; exact hqq i h9
                  · have h9 : i = q.length := by simp at hi; omega
                    subst h9
                    rw [gD_app2, ri_wi_eq]
                · rw [ri_wi_ne (by decide)]
                  by_cases h9 : x = t
                  · subst h9; rw [ri_wi_eq, if_pos rfl]
                  · rw [ri_wi_j h9, if_neg h9]; exact hfd x hx
                · by_cases h9 : i = k
                  · subst h9; rw [← ht]; simp
                  · exact List.mem_append_left _ (hdone i (by omega))
              · exact absurd (Nat.lt_of_not_le h88) h1000
      by_cases hhl : h < q.length
      · have hqh := hqq h hhl
        have hcq := hB.2.1 _ (getD_mem hhl)
        have hcs : std P r w (q.getD h 0) = true := lv_std ha (by have := (hB.2.2.2.2.1 _ (getD_mem hhl)).1; rw [hA] at this; exact this)
        have hF := hF.fr hf.1
        have m0 := (hf.f (i := 20) (by decide)).trans m0
        have p1 := (hf.g (p := 85) (i := 1) (by decide)).trans p1
        have p2 := (hf.g (p := 85) (i := 2) (by decide)).trans p2
        have e43 := (hf.f (i := 43) (by decide)).trans e43
        refine g_p t234_42 rfl ?_
        refine g_p t234_43 rfl ?_
        refine n_cge t234_44 (by omega) (by omega) (fun h44 => ?_) (fun h44 => ?_)
        · exfalso; omega
        · refine g_p t234_47 rfl ?_
          refine r_getr t234_48 (f80 hF) rfl rfl ?_
          refine g_p t234_51 rfl ?_
          refine r_iale t234_52 (f99 hF) (by decide) (by omega) hqh ?_
          refine g_is t234_53 (Nat.le_of_ble_eq_true rfl) (am_s1_4 rfl) ?_
          refine g_p t234_55 rfl ?_
          refine g_p t234_56 rfl ?_
          refine r_cv t234_58 (f80 hF) rfl ?_
          refine c233 (by exact hF) hP5 (by exact m0) (by exact p1) (by exact p2) hr5 hw5 hcs (by exact e43) hLO (by exact hJ) (fun s1 f1 hJ hl => ?_)
          refine k_0 ?_
          have hF := Fx.fr (by exact hF) f1.1
          have m0 := (f1.f (i := 20) (by decide)).trans m0
          have e43 := (f1.f (i := 43) (by decide)).trans e43
          refine g_k (n := 0) t234_61 rfl rfl ?_
          refine g_is t234_62 (Nat.le_of_ble_eq_true rfl) (am_s1_5 rfl) ?_
          refine INN _ hcq _ rfl _ 0 (Nat.zero_add _) s1 q f (hf.tr (f1.mono (by decide) (by decide))) hJ (fun i hi => ?_) (fun x hx => ?_) hB hl hhl rfl (fun i hi => absurd hi (Nat.not_lt_zero i))
          · exact (f1.g (by decide)).trans (hqq i hi)
          · exact (f1.g (by decide)).trans (hfd x hx)
      · have hh : h = q.length := by omega
        subst hh
        refine g_p t234_42 rfl ?_
        refine g_p t234_43 rfl ?_
        refine n_cge t234_44 (by omega) (by omega) (fun h44 => ?_) (fun h44 => ?_)
        · exact v_ret t234_143 (hq _ hf hJ (fun x hx => by rw [hfd x hx, Bf_end hB x hx]))
        · exfalso; omega
  have FIL : ∀ j k : Nat, k + j = 243 → ∀ s' z3 z4 z5, am_nl z3 = true → am_nl z4 = true → FM fA nB s s' → J s' → (∀ x, x < k → ri s' 98 x = nI 1000) → gG X (d + 5) 234 2 [.ref 80, .int (nI a), .int (nI k), z3, z4, z5] [] (mR s') Q := by
    intro j
    induction j with
    | zero =>
      intro k hk s' z3 z4 z5 n3 n4 hf hJ hx
      have hk : k = 243 := by omega
      subst hk
      have hF := hF.fr hf.1
      refine g_p t234_2 rfl ?_
      refine g_k (n := 243) t234_3 rfl rfl ?_
      refine n_cge t234_6 (by omega) (by omega) (fun h6 => ?_) (fun h6 => ?_)
      · refine g_p t234_24 rfl ?_
        refine r_getr t234_25 (f80 hF) rfl rfl ?_
        refine g_p t234_28 rfl ?_
        refine g_k (n := 0) t234_29 rfl rfl ?_
        refine r_iast t234_30 (f98 hF) (by decide) (by omega) ?_
        refine g_p t234_31 rfl ?_
        refine r_getr t234_32 (f80 hF) rfl rfl ?_
        refine g_k (n := 0) t234_35 rfl rfl ?_
        refine g_p t234_36 rfl ?_
        refine r_iast t234_37 (f99 hF) (by decide) (by omega) ?_
        refine g_k (n := 1) t234_38 rfl rfl ?_
        refine g_isn t234_39 (Nat.le_of_ble_eq_true rfl) (am_s1_2 rfl) ?_
        refine g_k (n := 0) t234_40 rfl rfl ?_
        refine g_isn t234_41 (Nat.le_of_ble_eq_true rfl) (am_s1_3 rfl) ?_
        have hf2 := (hf.w (p := 98) (i := a) (v := nI 0) (by decide) (by decide)).w (p := 99) (i := 0) (v := nI a) (by decide) (by decide)
        refine OUT (mn P) 0 (by omega) _ [a] (fun x => if x = a then 0 else 1000) _ _ n4 hf2 (hLO.1 _ _ hJ ((FM.rf.w (by decide) (by decide)).w (by decide) (by decide))) (fun i hi => ?_) (fun x hx2 => ?_) (Bf_start haN (by decide) (fun x _ => rfl))
        · have hi : i = 0 := by simp at hi; omega
          subst hi
          exact ri_wi_eq
        · rw [ri_wi_ne (by decide)]
          by_cases h9 : x = a
          · subst h9; rw [ri_wi_eq, if_pos rfl]
          · rw [ri_wi_j h9, if_neg h9]; exact hx x (by omega)
      · exfalso; omega
    | succ j ih =>
      intro k hk s' z3 z4 z5 n3 n4 hf hJ hx
      have hF := hF.fr hf.1
      refine g_p t234_2 rfl ?_
      refine g_k (n := 243) t234_3 rfl rfl ?_
      refine n_cge t234_6 (by omega) (by omega) (fun h6 => ?_) (fun h6 => ?_)
      · exfalso; omega
      · refine g_p t234_9 rfl ?_
        refine r_getr t234_10 (f80 hF) rfl rfl ?_
        refine g_p t234_13 rfl ?_
        refine g_k (n := 1000) t234_14 rfl rfl ?_
        refine r_iast t234_17 (f98 hF) (by decide) (by omega) ?_
        refine g_incn (n := 1) t234_18 rfl rfl (Nat.le_of_ble_eq_true rfl) (am_s1_2 rfl) ?_
        refine g_goto t234_21 ?_
        refine ih (k + 1) (by omega) _ _ _ _ n3 n4 (hf.w (by decide) (by decide)) (hLO.1 _ _ hJ (FM.rf.w (by decide) (by decide))) (fun x hx2 => ?_)
        by_cases h9 : x = k
        · subst h9; exact ri_wi_eq
        · exact (ri_wi_j h9).trans (hx x (by omega))
  refine en234 rfl rfl ?_
  refine g_k (n := 0) t234_0 rfl rfl ?_
  refine g_isn t234_1 (Nat.le_of_ble_eq_true rfl) (am_s1_2 rfl) ?_
  exact FIL 243 0 (by omega) s _ _ _ rfl rfl FM.rf hJ (fun x hx => absurd hx (Nat.not_lt_zero x))
end RQ
