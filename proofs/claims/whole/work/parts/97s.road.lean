/-! ROADS, 2 -/
theorem NLz {s : mM} {p : Nat} (h : ri s p 1 = nI 0) : NL s p [] := ⟨h, fun k hk => absurd hk (Nat.not_lt_zero k)⟩
/-- the queue of the roads has some length -/
def CQ (s : mM) : Prop := ∃ n, n ≤ 243 ∧ ri s 55 1 = nI n
theorem CQ.fr {A : List Nat} {s s' : mM} (h : CQ s) (f : Fr A s s') (h2 : 55 ∉ A) : CQ s' := by
  obtain ⟨n, h3, h4⟩ := h
  exact ⟨n, h3, (f.ri h2).trans h4⟩
section RS
variable {X : am_X} {d : Nat} {s : mM} {Q : Option Value → am_H → Prop} {P r w a c t : Nat} {b : Bool} {L : Nat → Nat → Int32} {v : Int32}
set_option maxHeartbeats 1000000 in
theorem c64 (hF : Fx s) (hR : CR P s) (e1 : ri s 32 1 = nI r) (e2 : ri s 32 2 = nI w) (hr5 : r ≤ 5) (hw5 : w ≤ 5) (hL : b = true → CL P L s) (ha : std P r w a = true) (hQ : CQ s)
    (hq : ∀ s', Fr [54, 55, 56] s s' → (∀ x, x < mn P → ri s' 54 x = nI (ds (aj P r w (fun c t => !b || rg P L c t)) 15 a x)) → CQ s' → Q none (mR s')) : gE X (d + 3) 64 [.ref 50, .int (nI a), .int (bI b)] (mR s) Q := by
  have hP5 := hR.2.2.1
  have hm := mn_le hP5
  have haN := (std_t ha).1
  obtain ⟨A, hA⟩ : ∃ A, A = aj P r w (fun c t => !b || rg P L c t) := ⟨_, rfl⟩
  rw [← hA] at hq
  have hb : ∀ n x, lv A a n x → ∃ m, m < 15 ∧ lv A a m x := by rw [hA]; exact lv_b hP5 Rok_b ha (by decide)
  have OUT : ∀ j h : Nat, h + j = mn P → ∀ s' q f z4 z5 z6, am_nl z4 = true → am_nl z5 = true → Fr [54, 55, 56] s s' → NL s' 55 q → (∀ x, x < mn P → ri s' 54 x = nI (f x)) → Bf A a (mn P) 15 q h f → gG X (d + 3) 64 48 [.ref 50, .int (nI a), .int (bI b), .int (nI h), z4, z5, z6] [] (mR s') Q := by
    intro j
    induction j with
    | zero =>
      intro h hj s' q f z4 z5 z6 n4 n5 hf hNL hfd hB
      have hF := hF.fr hf
      have hR := hR.fr hf (by decide)
      have e1 := (hf.ri (p := 32) (i := 1) (by decide)).trans e1
      have e2 := (hf.ri (p := 32) (i := 2) (by decide)).trans e2
      have hql := nd_len _ q hB.1 hB.2.1
      have hhq := hB.2.2.2.2.2.2.1
      have hh : h = q.length := by omega
      subst hh
      refine g_p t64_48 rfl ?_
      refine g_k (n := 243) t64_49 rfl rfl ?_
      refine n_cge t64_52 (by omega) (by omega) (fun h52 => ?_) (fun h52 => ?_)
      · exact v_ret t64_189 (hq _ hf (fun x hx => by rw [hfd x hx, Bf_end hB x hx]) ⟨q.length, by omega, hNL.1⟩)
      · refine g_p t64_55 rfl ?_
        refine g_p t64_56 rfl ?_
        refine r_getr t64_57 (f50 hF) rfl rfl ?_
        refine r_cv t64_60 (f55 hF) rfl ?_
        refine c29L (by exact fN55 hF) (by exact hNL) ?_
        refine k_v ?_ rfl
        refine n_cge t64_63 (by omega) (by omega) (fun h63 => ?_) (fun h63 => ?_)
        · exact v_ret t64_189 (hq _ hf (fun x hx => by rw [hfd x hx, Bf_end hB x hx]) ⟨q.length, by omega, hNL.1⟩)
        · exfalso; omega
    | succ j ih =>
      intro h hj s' q f z4 z5 z6 n4 n5 hf hNL hfd hB
      have hql := nd_len _ q hB.1 hB.2.1
      have hhq := hB.2.2.2.2.2.2.1
      have INN : ∀ c, c < mn P → ∀ i k : Nat, k + i = (nb P c).length → ∀ s' q f z6, Fr [54, 55, 56] s s' → NL s' 55 q → (∀ x, x < mn P → ri s' 54 x = nI (f x)) → Bf A a (mn P) 15 q h f → h < q.length → q.getD h 0 = c → (∀ i, i < k → A c ((nb P c).getD i 0) → (nb P c).getD i 0 ∈ q) → gG X (d + 3) 64 79 [.ref 50, .int (nI a), .int (bI b), .int (nI h), .int (nI c), .int (nI k), z6] [] (mR s') Q := by
        intro c hc i
        have hnl := nb_len hP5 hc
        induction i with
        | zero =>
          intro k hi s' q f z6 hf hNL hfd hB hhl hqc hdone
          have hF := hF.fr hf
          have hR := hR.fr hf (by decide)
          have e1 := (hf.ri (p := 32) (i := 1) (by decide)).trans e1
          have e2 := (hf.ri (p := 32) (i := 2) (by decide)).trans e2
          have hbk := hR.2.2.2.2.2.2.2 c hc
          have hk : k = (nb P c).length := by omega
          subst hk
          have hB2 : Bf A a (mn P) 15 q (h + 1) f := Bf_next hB hhl (fun y hy => by
            rw [hqc] at hy
            have hy2 := hy
            rw [hA] at hy2
            obtain ⟨i, hi, e⟩ := mem_getD (nb_mem.mpr hy2.1)
            have := hdone i hi (by rw [e]; exact hy)
            rw [e] at this
            exact this)
          refine g_p t64_79 rfl ?_
          refine g_p t64_81 rfl ?_
          refine r_getr t64_82 (f50 hF) rfl rfl ?_
          refine g_p t64_85 rfl ?_
          refine r_cv t64_87 (f19 hF) rfl ?_
          refine c81 (by exact hF) (by omega) hbk.1 ?_
          refine k_v ?_ rfl
          refine n_cge t64_90 (by omega) (by omega) (fun h90 => ?_) (fun h90 => ?_)
          · refine g_incn (n := 1) t64_183 rfl rfl (Nat.le_of_ble_eq_true rfl) (am_s1_3 rfl) ?_
            refine g_goto t64_186 ?_
            exact ih (h + 1) (by omega) s' q f _ _ _ rfl rfl hf hNL hfd hB2
          · exfalso; omega
        | succ i ihi =>
          intro k hi s' q f z6 hf hNL hfd hB hhl hqc hdone
          have hF := hF.fr hf
          have hR := hR.fr hf (by decide)
          have e1 := (hf.ri (p := 32) (i := 1) (by decide)).trans e1
          have e2 := (hf.ri (p := 32) (i := 2) (by decide)).trans e2
          have hbk := hR.2.2.2.2.2.2.2 c hc
          have hkl : k < (nb P c).length := by omega
          obtain ⟨t, ht⟩ : ∃ t, t = (nb P c).getD k 0 := ⟨_, rfl⟩
          have htN : t < mn P := by rw [ht]; exact nbD hP5 hc hkl
          have hten : t ∈ en P c := by rw [ht]; exact nb_mem.mp (getD_mem hkl)
          have hcq : c ∈ q := by rw [← hqc]; exact getD_mem hhl
          have hcs : std P r w c = true := lv_std ha (by have := (hB.2.2.2.2.1 c hcq).1; rw [hA] at this; exact this)
          have hft := Bf_le hB hb htN
          have hfc := Bf_le hB hb hc
          have hql := nd_len _ q hB.1 hB.2.1
          have SK : (A c t → t ∈ q) → gG X (d + 3) 64 177 [.ref 50, .int (nI a), .int (bI b), .int (nI h), .int (nI c), .int (nI k), .int (nI t)] [] (mR s') Q := by
            intro hS
            refine g_incn (n := 1) t64_177 rfl rfl (Nat.le_of_ble_eq_true rfl) (am_s1_5 rfl) ?_
            refine g_goto t64_180 ?_
            refine ihi (k + 1) (by omega) s' q f _ hf hNL hfd hB hhl hqc (fun i hi hAi => ?_)
            by_cases h9 : i = k
            · subst h9; rw [← ht]; exact hS (by rw [ht]; exact hAi)
            · exact hdone i (by omega) hAi
          have AD : A c t → f t = 15 → gG X (d + 3) 64 147 [.ref 50, .int (nI a), .int (bI b), .int (nI h), .int (nI c), .int (nI k), .int (nI t)] [] (mR s') Q := by
            intro hAct hft15
            have hB2 : Bf A a (mn P) 15 (q ++ [t]) h (fun x => if x = t then f c + 1 else f x) := Bf_add hB hhl (by rw [hqc]; exact hAct) htN hft15 hb (fun x _ => by rw [hqc])
            have hql2 := nd_len _ _ hB2.1 hB2.2.1
            rw [List.length_append, List.length_cons, List.length_nil] at hql2
            refine g_p t64_147 rfl ?_
            refine r_getr t64_148 (f50 hF) rfl rfl ?_
            refine g_p t64_151 rfl ?_
            refine g_p t64_153 rfl ?_
            refine r_getr t64_154 (f50 hF) rfl rfl ?_
            refine g_p t64_157 rfl ?_
            refine r_cv t64_159 (f53 hF) rfl ?_
            refine c30e (by exact fN53 hF) (by omega) (hfd c hc) ?_
            refine k_v ?_ rfl
            refine g_k (n := 1) t64_162 rfl rfl ?_
            refine g_addn t64_163 ?_
            refine r_cv t64_164 (f53 hF) rfl ?_
            refine c31 (by exact fN53 hF) (by omega) ?_
            refine k_0 ?_
            refine g_p t64_167 rfl ?_
            refine r_getr t64_168 (f50 hF) rfl rfl ?_
            refine g_p t64_171 rfl ?_
            refine r_cv t64_173 (f55 hF) rfl ?_
            refine c33L (by exact fN55 hF) (by exact hNL) (by omega) (fun s173 fr173 hNL => ?_)
            refine k_v ?_ rfl
            have hF := Fx.fr (by exact hF) fr173
            refine g_p t64_176 rfl ?_
            refine g_incn (n := 1) t64_177 rfl rfl (Nat.le_of_ble_eq_true rfl) (am_s1_5 rfl) ?_
            refine g_goto t64_180 ?_
            refine ihi (k + 1) (by omega) _ (q ++ [t]) _ _ ((hf.wi (p := 54) (i := t) (v := nI (f c + 1)) (by simp)).tr (fr173.mono (by decide))) hNL (fun x hx => ?_) hB2 (by rw [List.length_append]; omega) (by rw [gD_app1 hhl]; exact hqc) (fun i hi hAi => ?_)
            · rw [fr173.ri (by decide)]
              by_cases h9 : x = t
              · subst h9; rw [ri_wi_eq, if_pos rfl]
              · rw [ri_wi_j h9, if_neg h9]; exact hfd x hx
            · by_cases h9 : i = k
              · subst h9; rw [← ht]; simp
              · exact List.mem_append_left _ (hdone i (by omega) hAi)
          refine g_p t64_79 rfl ?_
          refine g_p t64_81 rfl ?_
          refine r_getr t64_82 (f50 hF) rfl rfl ?_
          refine g_p t64_85 rfl ?_
          refine r_cv t64_87 (f19 hF) rfl ?_
          refine c81 (by exact hF) (by omega) hbk.1 ?_
          refine k_v ?_ rfl
          refine n_cge t64_90 (by omega) (by omega) (fun h90 => ?_) (fun h90 => ?_)
          · exfalso; omega
          · refine g_p t64_93 rfl ?_
            refine r_getr t64_94 (f50 hF) rfl rfl ?_
            refine g_p t64_97 rfl ?_
            refine g_p t64_99 rfl ?_
            refine r_cv t64_101 (f19 hF) rfl ?_
            refine c82 (by exact hF) (by omega) (hbk.2 k hkl) ?_
            refine k_v ?_ rfl
            rw [← ht]
            refine g_is t64_104 (Nat.le_of_ble_eq_true rfl) (am_s1_6 rfl) ?_
            refine g_p t64_106 rfl ?_
            refine r_getr t64_107 (f50 hF) rfl rfl ?_
            refine g_p t64_110 rfl ?_
            refine r_cv t64_112 (f53 hF) rfl ?_
            refine c30e (by exact fN53 hF) (by omega) (hfd t htN) ?_
            refine k_v ?_ rfl
            refine g_k (n := 15) t64_115 rfl rfl ?_
            refine n_cne t64_117 (by omega) (by omega) (fun h117 => ?_) (fun h117 => ?_)
            · first
                | exact SK (fun _ => (hB.2.2.2.1 t htN).mp h117)
                | exact SK (fun h9 => by rw [hA] at h9; rw [h9.2.2.1] at h129; exact absurd h129 (by decide))
                | exact SK (fun h9 => by rw [hA] at h9; have h9 : (!b || rg P L c t) = true := h9.2.2.2; rw [h133, h144] at h9; exact absurd h9 (by decide))
            · refine g_p t64_120 rfl ?_
              refine r_getr t64_121 (f50 hF) rfl rfl ?_
              refine g_p t64_124 rfl ?_
              refine r_cv t64_126 (f32 hF) rfl ?_
              refine c103 (by exact hF) (by exact hR) (by omega) (by exact e1) (by exact e2) hr5 hw5 ?_
              refine k_v ?_ rfl
              refine b_eq t64_129 (fun h129 => ?_) (fun h129 => ?_)
              · first
                  | exact SK (fun _ => (hB.2.2.2.1 t htN).mp h117)
                  | exact SK (fun h9 => by rw [hA] at h9; rw [h9.2.2.1] at h129; exact absurd h129 (by decide))
                  | exact SK (fun h9 => by rw [hA] at h9; have h9 : (!b || rg P L c t) = true := h9.2.2.2; rw [h133, h144] at h9; exact absurd h9 (by decide))
              · refine g_p t64_132 rfl ?_
                refine b_eq t64_133 (fun h133 => ?_) (fun h133 => ?_)
                · first
                    | exact AD (by rw [hA]; exact ⟨hten, hcs, h129, by show (!b || rg P L c t) = true; rw [h133]; rfl⟩) h117
                    | exact AD (by rw [hA]; exact ⟨hten, hcs, h129, by show (!b || rg P L c t) = true; rw [h133, h144]; rfl⟩) h117
                · refine g_p t64_136 rfl ?_
                  refine g_p t64_137 rfl ?_
                  refine g_p t64_139 rfl ?_
                  refine r_cv t64_141 (f50 hF) rfl ?_
                  refine c65 hF hR ((hL h133).fr hf (by decide)) hc htN ?_
                  refine k_v ?_ rfl
                  refine b_eq t64_144 (fun h144 => ?_) (fun h144 => ?_)
                  · first
                      | exact SK (fun _ => (hB.2.2.2.1 t htN).mp h117)
                      | exact SK (fun h9 => by rw [hA] at h9; rw [h9.2.2.1] at h129; exact absurd h129 (by decide))
                      | exact SK (fun h9 => by rw [hA] at h9; have h9 : (!b || rg P L c t) = true := h9.2.2.2; rw [h133, h144] at h9; exact absurd h9 (by decide))
                  · first
                      | exact AD (by rw [hA]; exact ⟨hten, hcs, h129, by show (!b || rg P L c t) = true; rw [h133]; rfl⟩) h117
                      | exact AD (by rw [hA]; exact ⟨hten, hcs, h129, by show (!b || rg P L c t) = true; rw [h133, h144]; rfl⟩) h117
      have hF := hF.fr hf
      have hR := hR.fr hf (by decide)
      have e1 := (hf.ri (p := 32) (i := 1) (by decide)).trans e1
      have e2 := (hf.ri (p := 32) (i := 2) (by decide)).trans e2
      refine g_p t64_48 rfl ?_
      refine g_k (n := 243) t64_49 rfl rfl ?_
      refine n_cge t64_52 (by omega) (by omega) (fun h52 => ?_) (fun h52 => ?_)
      · refine v_ret t64_189 (hq _ hf (fun x hx => ?_) ⟨q.length, by omega, hNL.1⟩)
        have hh : h = q.length := by omega
        subst hh
        rw [hfd x hx, Bf_end hB x hx]
      · refine g_p t64_55 rfl ?_
        refine g_p t64_56 rfl ?_
        refine r_getr t64_57 (f50 hF) rfl rfl ?_
        refine r_cv t64_60 (f55 hF) rfl ?_
        refine c29L (by exact fN55 hF) (by exact hNL) ?_
        refine k_v ?_ rfl
        refine n_cge t64_63 (by omega) (by omega) (fun h63 => ?_) (fun h63 => ?_)
        · refine v_ret t64_189 (hq _ hf (fun x hx => ?_) ⟨q.length, by omega, hNL.1⟩)
          have hh : h = q.length := by omega
          subst hh
          rw [hfd x hx, Bf_end hB x hx]
        · refine g_p t64_66 rfl ?_
          refine r_getr t64_67 (f50 hF) rfl rfl ?_
          refine g_p t64_70 rfl ?_
          refine r_cv t64_71 (f55 hF) rfl ?_
          refine c30L (by exact fN55 hF) (by exact hNL) (by omega) (by omega) ?_
          refine k_v ?_ rfl
          refine g_is t64_74 (Nat.le_of_ble_eq_true rfl) (am_s1_4 rfl) ?_
          refine g_k (n := 0) t64_76 rfl rfl ?_
          refine g_is t64_77 (Nat.le_of_ble_eq_true rfl) (am_s1_5 rfl) ?_
          exact INN (q.getD h 0) (hB.2.1 _ (getD_mem (by omega))) _ 0 (Nat.zero_add _) s' q f _ hf hNL hfd hB (by omega) rfl (fun i hi => absurd hi (Nat.not_lt_zero i))
  obtain ⟨n0, hn0, hn1⟩ := hQ
  refine en64 rfl rfl rfl ?_
  refine g_p t64_0 rfl ?_
  refine r_getr t64_1 (f50 hF) rfl rfl ?_
  refine g_k (n := 15) t64_4 rfl rfl ?_
  refine r_cv t64_6 (f53 hF) rfl ?_
  refine c32 (by exact fN53 hF) ?_
  refine k_0 ?_
  refine g_p t64_9 rfl ?_
  refine r_getr t64_10 (f50 hF) rfl rfl ?_
  refine g_k (n := 0) t64_13 rfl rfl ?_
  refine r_cv t64_14 (f55 hF) rfl ?_
  refine c34 (by exact fN55 hF) hn1 (by omega) (by omega) ?_
  refine k_0 ?_
  refine g_p t64_17 rfl ?_
  refine r_getr t64_18 (f50 hF) rfl rfl ?_
  refine g_p t64_21 rfl ?_
  refine r_cv t64_22 (f32 hF) rfl ?_
  refine c103 (by exact hF) (by exact hR) (by omega) (by exact e1) (by exact e2) hr5 hw5 ?_
  refine k_v ?_ rfl
  refine b_eq t64_25 (fun h25 => ?_) (fun h25 => ?_)
  · refine g_k (n := 0) t64_46 rfl rfl ?_
    refine g_isn t64_47 (Nat.le_of_ble_eq_true rfl) (am_s1_3 rfl) ?_
    first
      | (rw [ha] at h25; cases h25; done)
      | (refine OUT (mn P) 0 (by omega) s42 [a] (fun x => if x = a then 0 else 15) _ _ _ rfl rfl (((((Fr.rf (A := [54, 55, 56])).wf (p := 54) (by simp)).wi (p := 55) (by simp)).wi (p := 54) (by simp)).tr (fr42.mono (by decide))) hNL (fun x hx => ?_) (Bf_start haN (by decide) (fun x _ => rfl))
         rw [fr42.ri (by decide)]
         by_cases h9 : x = a
         · subst h9; rw [ri_wi_eq, if_pos rfl]
         · rw [ri_wi_j h9, ri_wi_ne (by decide), ri_wf, if_pos rfl, if_neg h9, m_fill, if_pos (by omega)])
  · refine g_p t64_28 rfl ?_
    refine r_getr t64_29 (f50 hF) rfl rfl ?_
    refine g_p t64_32 rfl ?_
    refine g_k (n := 0) t64_33 rfl rfl ?_
    refine r_cv t64_34 (f53 hF) rfl ?_
    refine c31 (by exact fN53 hF) (by omega) ?_
    refine k_0 ?_
    refine g_p t64_37 rfl ?_
    refine r_getr t64_38 (f50 hF) rfl rfl ?_
    refine g_p t64_41 rfl ?_
    refine r_cv t64_42 (f55 hF) rfl ?_
    refine c33L (by exact fN55 hF) (l := []) (by exact NLz rfl) (Nat.zero_lt_succ _) (fun s42 fr42 hNL => ?_)
    refine k_v ?_ rfl
    refine g_p t64_45 rfl ?_
    refine g_k (n := 0) t64_46 rfl rfl ?_
    refine g_isn t64_47 (Nat.le_of_ble_eq_true rfl) (am_s1_3 rfl) ?_
    first
      | (rw [ha] at h25; cases h25; done)
      | (refine OUT (mn P) 0 (by omega) s42 [a] (fun x => if x = a then 0 else 15) _ _ _ rfl rfl (((((Fr.rf (A := [54, 55, 56])).wf (p := 54) (by simp)).wi (p := 55) (by simp)).wi (p := 54) (by simp)).tr (fr42.mono (by decide))) hNL (fun x hx => ?_) (Bf_start haN (by decide) (fun x _ => rfl))
         rw [fr42.ri (by decide)]
         by_cases h9 : x = a
         · subst h9; rw [ri_wi_eq, if_pos rfl]
         · rw [ri_wi_j h9, ri_wi_ne (by decide), ri_wf, if_pos rfl, if_neg h9, m_fill, if_pos (by omega)])
theorem c64n (hF : Fx s) (hR : CR P s) (e1 : ri s 32 1 = nI r) (e2 : ri s 32 2 = nI w) (hr5 : r ≤ 5) (hw5 : w ≤ 5) (haN : a < mn P) (ha : std P r w a = false) (hQ : CQ s)
    (hq : ∀ s', Fr [54, 55, 56] s s' → (∀ x, x < mn P → ri s' 54 x = nI 15) → CQ s' → Q none (mR s')) : gE X (d + 3) 64 [.ref 50, .int (nI a), .int (bI b)] (mR s) Q := by
  have hP5 := hR.2.2.1
  have hm := mn_le hP5
  obtain ⟨n0, hn0, hn1⟩ := hQ
  refine en64 rfl rfl rfl ?_
  refine g_p t64_0 rfl ?_
  refine r_getr t64_1 (f50 hF) rfl rfl ?_
  refine g_k (n := 15) t64_4 rfl rfl ?_
  refine r_cv t64_6 (f53 hF) rfl ?_
  refine c32 (by exact fN53 hF) ?_
  refine k_0 ?_
  refine g_p t64_9 rfl ?_
  refine r_getr t64_10 (f50 hF) rfl rfl ?_
  refine g_k (n := 0) t64_13 rfl rfl ?_
  refine r_cv t64_14 (f55 hF) rfl ?_
  refine c34 (by exact fN55 hF) hn1 (by omega) (by omega) ?_
  refine k_0 ?_
  refine g_p t64_17 rfl ?_
  refine r_getr t64_18 (f50 hF) rfl rfl ?_
  refine g_p t64_21 rfl ?_
  refine r_cv t64_22 (f32 hF) rfl ?_
  refine c103 (by exact hF) (by exact hR) (by omega) (by exact e1) (by exact e2) hr5 hw5 ?_
  refine k_v ?_ rfl
  refine b_eq t64_25 (fun h25 => ?_) (fun h25 => ?_)
  · refine g_k (n := 0) t64_46 rfl rfl ?_
    refine g_isn t64_47 (Nat.le_of_ble_eq_true rfl) (am_s1_3 rfl) ?_
    refine g_p t64_48 rfl ?_
    refine g_k (n := 243) t64_49 rfl rfl ?_
    refine n_cge t64_52 (by omega) (by omega) (fun h52 => ?_) (fun h52 => ?_)
    · first
        | (exfalso; omega)
        | exact v_ret t64_189 (hq _ (((Fr.rf (A := [54, 55, 56])).wf (p := 54) (by simp)).wi (p := 55) (by simp)) (fun x hx => by rw [ri_wi_ne (by decide), ri_wf, if_pos rfl, m_fill, if_pos (by omega)]) ⟨0, Nat.zero_le _, ri_wi_eq⟩)
    · refine g_p t64_55 rfl ?_
      refine g_p t64_56 rfl ?_
      refine r_getr t64_57 (f50 hF) rfl rfl ?_
      refine r_cv t64_60 (f55 hF) rfl ?_
      refine c29e (by exact fN55 hF) rfl ?_
      refine k_v ?_ rfl
      refine n_cge t64_63 (by omega) (by omega) (fun h63 => ?_) (fun h63 => ?_)
      · first
          | (exfalso; omega)
          | exact v_ret t64_189 (hq _ (((Fr.rf (A := [54, 55, 56])).wf (p := 54) (by simp)).wi (p := 55) (by simp)) (fun x hx => by rw [ri_wi_ne (by decide), ri_wf, if_pos rfl, m_fill, if_pos (by omega)]) ⟨0, Nat.zero_le _, ri_wi_eq⟩)
      · exfalso; omega
  · (rw [ha] at h25; cases h25; done)
end RS
