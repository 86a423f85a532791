/-! PLANS, 7: how many rows fit -/
section QA
variable {X : am_X} {d : Nat} {s : mM} {Q : Option Value → am_H → Prop} {P r w pd row day left a c t p n : Nat} {se : List Act} {v : Int32} {b : Bk}
set_option maxHeartbeats 1000000 in
theorem c47 (hF : Fx s) (hR : CR P s) (hW : CW r w pd row day left s) (hr5 : r ≤ 5) (hw5 : w ≤ 5) (hd5 : pd ≤ 5) (hl5 : left ≤ 5) (hQ : CQ s) (hK : KP P r w s) (hS : CS se s) (hse : ∀ t ∈ se, t.1 ≤ 6 ∧ t.2.1 < P ∧ t.2.2 < 3) (hrow : row < mn P) (hn6 : n ≤ 6)
    (hq : ∀ s', FI kA s s' → CQ s' → KP P r w s' → Q (some (.long (lN (sm (cwy P r w row left pd (fun k c => wsn se P k c) n) (mn P))))) (mR s')) : gE X (d + 6) 47 [.ref 61, .int (nI n), .null, .int (nI 0), .int (-1)] (mR s) Q := by
  have hP5 := hR.2.2.1
  have hm := mn_le hP5
  obtain ⟨C, hC⟩ : ∃ C, C = cwy P r w row left pd (fun k c => wsn se P k c) := ⟨_, rfl⟩
  rw [← hC] at hq
  have hC0 : ∀ a, C 0 a = if a = row then 1 else 0 := fun a => by rw [hC]; rfl
  have hCs : ∀ k x, C (k + 1) x = if wsn se P (k + 1) x = true then sm (fun a => if dst P r w 15 a x ≤ (if k + 1 = 1 then left else pd) then C k a else 0) (mn P) else 0 := fun k x => by rw [hC]; rfl
  have hClt : ∀ k, k ≤ 6 → ∀ a, C k a < 2 ^ 62 := fun k hk a => by rw [hC]; exact cwy_lt hP5 hk a
  have SUM : ∀ j x : Nat, x + j = mn P → ∀ s', FI kA s s' → CQ s' → KP P r w s' → (∀ y, y < mn P → rl s' 74 y = lN (C n y)) → gG X (d + 6) 47 192 [.ref 61, .int (nI n), .null, .int (nI 0), .int (-1), .long (lN (sm (C n) x)), .float 0, .int (nI x)] [] (mR s') Q := by
    intro j
    induction j with
    | zero =>
      intro x hj s' hf hQ hK l74
      have hj : x = mn P := by omega
      subst hj
      have hF : Fx s' := by have h := hF.fr hf.fr; exact h
      have hR : CR P s' := by have h := hR.fr hf.fr (by decide); exact h
      have hW : CW r w pd row day left s' := by have h := hW.fr hf.fr (by decide); exact h
      have hS : CS se s' := by have h := hS.fr hf.fr (by decide); exact h
      refine g_p t47_192 rfl ?_
      refine g_p t47_194 rfl ?_
      refine r_getr t47_195 (f61 hF) rfl rfl ?_
      refine r_cv t47_198 (f19 hF) rfl ?_
      refine c76 (by exact hF) hR.2.1 ?_
      refine k_v ?_ rfl
      refine n_cge t47_201 (by omega) (by omega) (fun h201 => ?_) (fun h201 => ?_)
      · refine g_p t47_232 rfl ?_
        exact l_ret t47_234 rfl (hq _ hf hQ hK)
      · exfalso; omega
    | succ j ih =>
      intro x hj s' hf hQ hK l74
      have hxm : x < mn P := by omega
      have hF : Fx s' := by have h := hF.fr hf.fr; exact h
      have hR : CR P s' := by have h := hR.fr hf.fr (by decide); exact h
      have hW : CW r w pd row day left s' := by have h := hW.fr hf.fr (by decide); exact h
      have hS : CS se s' := by have h := hS.fr hf.fr (by decide); exact h
      refine g_p t47_192 rfl ?_
      refine g_p t47_194 rfl ?_
      refine r_getr t47_195 (f61 hF) rfl rfl ?_
      refine r_cv t47_198 (f19 hF) rfl ?_
      refine c76 (by exact hF) hR.2.1 ?_
      refine k_v ?_ rfl
      refine n_cge t47_201 (by omega) (by omega) (fun h201 => ?_) (fun h201 => ?_)
      · exfalso; omega
      · refine g_p t47_204 rfl ?_
        refine g_p t47_206 rfl ?_
        refine r_getr t47_207 (f61 hF) rfl rfl ?_
        refine r_lenl t47_210 (f74 hF) ?_
        refine n_cge t47_211 (by omega) (by omega) (fun h211 => ?_) (fun h211 => ?_)
        · exfalso; omega
        · refine g_p t47_214 rfl ?_
          refine g_p t47_216 rfl ?_
          refine r_getr t47_217 (f61 hF) rfl rfl ?_
          refine g_p t47_220 rfl ?_
          refine r_lald t47_222 (f74 hF) (by decide) (by omega) ?_
          rw [show rl s' 74 x = lN (C n x) from l74 x hxm]
          refine n_ladd t47_223 ?_
          refine g_ls t47_224 (Nat.le_of_ble_eq_true rfl) (am_s2_5 rfl) ?_
          refine g_incn (n := 1) t47_226 rfl rfl (Nat.le_of_ble_eq_true rfl) (am_s1_7 rfl) ?_
          refine g_goto t47_229 ?_
          exact ih (x + 1) (by omega) s' hf hQ hK l74
  have DAY : ∀ u k : Nat, k + u = n → ∀ s' z6 z7, am_nl z6 = true → FI kA s s' → CQ s' → KP P r w s' → (∀ y, y < mn P → rl s' 74 y = lN (C k y)) → gG X (d + 6) 47 46 [.ref 61, .int (nI n), .null, .int (nI 0), .int (-1), .int (nI (k + 1)), z6, z7] [] (mR s') Q := by
    intro u
    induction u with
    | zero =>
      intro k hu s' z6 z7 n6 hf hQ hK l74
      have hu : k = n := by omega
      subst hu
      refine g_p t47_46 rfl ?_
      refine g_p t47_48 rfl ?_
      refine n_cgt t47_49 (by omega) (by omega) (fun h49 => ?_) (fun h49 => ?_)
      · refine g_p t47_186 rfl ?_
        refine g_ls t47_187 (Nat.le_of_ble_eq_true rfl) (am_s2_5 rfl) ?_
        refine g_k (n := 0) t47_189 rfl rfl ?_
        refine g_is t47_190 (Nat.le_of_ble_eq_true rfl) (am_s1_7 rfl) ?_
        exact SUM (mn P) 0 (by omega) s' hf hQ hK l74
      · exfalso; omega
    | succ u ih =>
      intro k hu s' z6 z7 n6 hf hQ hK l74
      have INN : ∀ j x : Nat, x + j = mn P → ∀ s' z7, FI kA s s' → CQ s' → KP P r w s' → (∀ y, y < mn P → rl s' 74 y = lN (C k y)) → (∀ y, y < x → rl s' 75 y = lN (C (k + 1) y)) → gG X (d + 6) 47 55 [.ref 61, .int (nI n), .null, .int (nI 0), .int (-1), .int (nI (k + 1)), .int (nI x), z7] [] (mR s') Q := by
        intro j
        induction j with
        | zero =>
          intro x hj s' z7 hf hQ hK l74 l75
          have hj : x = mn P := by omega
          subst hj
          have hF : Fx s' := by have h := hF.fr hf.fr; exact h
          have hR : CR P s' := by have h := hR.fr hf.fr (by decide); exact h
          have hW : CW r w pd row day left s' := by have h := hW.fr hf.fr (by decide); exact h
          have hS : CS se s' := by have h := hS.fr hf.fr (by decide); exact h
          refine g_p t47_55 rfl ?_
          refine g_p t47_57 rfl ?_
          refine r_getr t47_58 (f61 hF) rfl rfl ?_
          refine r_cv t47_61 (f19 hF) rfl ?_
          refine c76 (by exact hF) hR.2.1 ?_
          refine k_v ?_ rfl
          refine n_cge t47_64 (by omega) (by omega) (fun h64 => ?_) (fun h64 => ?_)
          · refine g_p t47_150 rfl ?_
            refine r_getr t47_151 (f61 hF) rfl rfl ?_
            refine r_lenl t47_154 (f75 hF) ?_
            refine g_p t47_155 rfl ?_
            refine r_getr t47_156 (f61 hF) rfl rfl ?_
            refine r_lenl t47_159 (f74 hF) ?_
            refine g_minn t47_160 (by omega) (by omega) (Nat.le_of_ble_eq_true rfl) ?_
            refine g_is t47_163 (Nat.le_of_ble_eq_true rfl) (am_s1_6 rfl) ?_
            refine g_p t47_165 rfl ?_
            refine r_getr t47_166 (f61 hF) rfl rfl ?_
            refine g_k (n := 0) t47_169 rfl rfl ?_
            refine g_p t47_170 rfl ?_
            refine r_getr t47_171 (f61 hF) rfl rfl ?_
            refine g_k (n := 0) t47_174 rfl rfl ?_
            refine g_p t47_175 rfl ?_
            refine r_cpyl t47_177 (f75 hF) (f74 hF) (by decide) (by decide) (by omega) (by omega) (Nat.le_of_ble_eq_true rfl) ?_
            refine g_incn (n := 1) t47_180 rfl rfl (Nat.le_of_ble_eq_true rfl) (am_s1_5 rfl) ?_
            refine g_goto t47_183 ?_
            refine ih (k + 1) (by omega) _ _ z7 rfl (hf.wg (p := 74)) hQ hK (fun y hy => ?_)
            refine (rl_wg.trans (if_pos rfl)).trans ?_
            rw [pk_cpy_in (Nat.zero_le _) (by omega), Nat.zero_add, Nat.sub_zero]
            exact l75 y hy
          · exfalso; omega
        | succ j ihb =>
          intro x hj s' z7 hf hQ hK l74 l75
          have hxm : x < mn P := by omega
          have hCx := hCs k x
          have hF : Fx s' := by have h := hF.fr hf.fr; exact h
          have hR : CR P s' := by have h := hR.fr hf.fr (by decide); exact h
          have hW : CW r w pd row day left s' := by have h := hW.fr hf.fr (by decide); exact h
          have hS : CS se s' := by have h := hS.fr hf.fr (by decide); exact h
          have hW0 := hW
          obtain ⟨e1, e2, e3, e4, e5, e6⟩ := hW
          refine g_p t47_55 rfl ?_
          refine g_p t47_57 rfl ?_
          refine r_getr t47_58 (f61 hF) rfl rfl ?_
          refine r_cv t47_61 (f19 hF) rfl ?_
          refine c76 (by exact hF) hR.2.1 ?_
          refine k_v ?_ rfl
          refine n_cge t47_64 (by omega) (by omega) (fun h64 => ?_) (fun h64 => ?_)
          · exfalso; omega
          · refine g_p t47_67 rfl ?_
            refine g_p t47_69 rfl ?_
            refine r_getr t47_70 (f61 hF) rfl rfl ?_
            refine r_lenl t47_73 (f75 hF) ?_
            refine n_cge t47_74 (by omega) (by omega) (fun h74 => ?_) (fun h74 => ?_)
            · exfalso; omega
            · refine g_p t47_77 rfl ?_
              refine g_b (b := true) t47_78 rfl ?_
              refine g_k (n := 1) t47_98 rfl rfl ?_
              refine g_goto t47_99 ?_
              refine g_is t47_103 (Nat.le_of_ble_eq_true rfl) (am_s1_7 rfl) ?_
              refine g_p t47_105 rfl ?_
              refine r_getr t47_106 (f61 hF) rfl rfl ?_
              refine g_p t47_109 rfl ?_
              refine g_p t47_111 rfl ?_
              refine n_eq t47_113 (by omega) (fun h113 => ?_) (fun h113 => ?_)
              · refine g_p t47_142 rfl ?_
                refine r_last t47_143 (f75 hF) (by decide) (by omega) ?_
                refine g_incn (n := 1) t47_144 rfl rfl (Nat.le_of_ble_eq_true rfl) (am_s1_6 rfl) ?_
                refine g_goto t47_147 ?_
                first
                  | refine ihb (x + 1) (by omega) _ _ (hf.wl (p := 75)) hQ hK (fun y hy => ?_) (fun y hy => ?_)
                  | refine ihb (x + 1) (by omega) _ _ ((hf.tr (fr136.fi.mono (by decide))).wl (p := 75)) hQ hK (fun y hy => ?_) (fun y hy => ?_)
                · refine (rl_wl.trans (if_neg (fun h => absurd h.1 (by decide)))).trans ?_
                  first
                    | exact l74 y hy
                    | exact (congrFun (congrFun (congrArg Prod.fst fr136.2.1) 74) y).trans (l74 y hy)
                · by_cases h9 : y = x
                  · subst h9
                    refine (rl_wl.trans (if_pos ⟨rfl, rfl⟩)).trans ?_
                    rw [hCx]
                    first
                      | (exfalso; omega)
                      | (have w := h124; rw [w]; rfl)
                  · refine (rl_wl.trans (if_neg (fun h => h9 h.2))).trans ?_
                    first
                      | exact l75 y (by omega)
                      | exact (congrFun (congrFun (congrArg Prod.fst fr136.2.1) 75) y).trans (l75 y (by omega))
              · refine g_p t47_116 rfl ?_
                refine g_p t47_117 rfl ?_
                refine g_p t47_119 rfl ?_
                refine r_cv t47_121 (f61 hF) rfl ?_
                refine c48 (by exact hF) (by exact hR) (by exact hS) hse (by omega) hxm ?_
                refine k_v ?_ rfl
                refine b_eq t47_124 (fun h124 => ?_) (fun h124 => ?_)
                · refine g_p t47_142 rfl ?_
                  refine r_last t47_143 (f75 hF) (by decide) (by omega) ?_
                  refine g_incn (n := 1) t47_144 rfl rfl (Nat.le_of_ble_eq_true rfl) (am_s1_6 rfl) ?_
                  refine g_goto t47_147 ?_
                  first
                    | refine ihb (x + 1) (by omega) _ _ (hf.wl (p := 75)) hQ hK (fun y hy => ?_) (fun y hy => ?_)
                    | refine ihb (x + 1) (by omega) _ _ ((hf.tr (fr136.fi.mono (by decide))).wl (p := 75)) hQ hK (fun y hy => ?_) (fun y hy => ?_)
                  · refine (rl_wl.trans (if_neg (fun h => absurd h.1 (by decide)))).trans ?_
                    first
                      | exact l74 y hy
                      | exact (congrFun (congrFun (congrArg Prod.fst fr136.2.1) 74) y).trans (l74 y hy)
                  · by_cases h9 : y = x
                    · subst h9
                      refine (rl_wl.trans (if_pos ⟨rfl, rfl⟩)).trans ?_
                      rw [hCx]
                      first
                        | (exfalso; omega)
                        | (have w := h124; rw [w]; rfl)
                    · refine (rl_wl.trans (if_neg (fun h => h9 h.2))).trans ?_
                      first
                        | exact l75 y (by omega)
                        | exact (congrFun (congrFun (congrArg Prod.fst fr136.2.1) 75) y).trans (l75 y (by omega))
                · refine g_p t47_127 rfl ?_
                  refine g_p t47_128 rfl ?_
                  refine g_p t47_130 rfl ?_
                  refine g_p t47_131 rfl ?_
                  refine r_cv t47_133 (f61 hF) rfl ?_
                  refine c41 (by exact hF) (by omega) (by exact e3) (by exact e6) ?_
                  refine k_v ?_ rfl
                  refine r_cv t47_136 (f61 hF) rfl ?_
                  refine c49 (by exact hF) (by exact hR) (by exact hW0) hr5 hw5 (by exact hQ) (by exact hK) (by split <;> omega) (fun a ha => ⟨l74 a ha, hClt k (by omega) a⟩) hxm (fun s136 fr136 hQ hK => ?_)
                  refine k_v ?_ rfl
                  have hF := Fx.fr (by exact hF) fr136
                  have e1 := (fr136.ri (p := 32) (i := 1) (by decide)).trans e1
                  have e2 := (fr136.ri (p := 32) (i := 2) (by decide)).trans e2
                  have e3 := (fr136.ri (p := 32) (i := 3) (by decide)).trans e3
                  have e4 := (fr136.ri (p := 32) (i := 4) (by decide)).trans e4
                  have e5 := (fr136.ri (p := 32) (i := 5) (by decide)).trans e5
                  have e6 := (fr136.ri (p := 32) (i := 6) (by decide)).trans e6
                  refine g_goto t47_139 ?_
                  refine r_last t47_143 (f75 hF) (by decide) (by omega) ?_
                  refine g_incn (n := 1) t47_144 rfl rfl (Nat.le_of_ble_eq_true rfl) (am_s1_6 rfl) ?_
                  refine g_goto t47_147 ?_
                  first
                    | refine ihb (x + 1) (by omega) _ _ (hf.wl (p := 75)) hQ hK (fun y hy => ?_) (fun y hy => ?_)
                    | refine ihb (x + 1) (by omega) _ _ ((hf.tr (fr136.fi.mono (by decide))).wl (p := 75)) hQ hK (fun y hy => ?_) (fun y hy => ?_)
                  · refine (rl_wl.trans (if_neg (fun h => absurd h.1 (by decide)))).trans ?_
                    first
                      | exact l74 y hy
                      | exact (congrFun (congrFun (congrArg Prod.fst fr136.2.1) 74) y).trans (l74 y hy)
                  · by_cases h9 : y = x
                    · subst h9
                      refine (rl_wl.trans (if_pos ⟨rfl, rfl⟩)).trans ?_
                      rw [hCx]
                      first
                        | (exfalso; omega)
                        | (have w := h124; rw [w]; rfl)
                    · refine (rl_wl.trans (if_neg (fun h => h9 h.2))).trans ?_
                      first
                        | exact l75 y (by omega)
                        | exact (congrFun (congrFun (congrArg Prod.fst fr136.2.1) 75) y).trans (l75 y (by omega))
      refine g_p t47_46 rfl ?_
      refine g_p t47_48 rfl ?_
      refine n_cgt t47_49 (by omega) (by omega) (fun h49 => ?_) (fun h49 => ?_)
      · exfalso; omega
      · refine g_k (n := 0) t47_52 rfl rfl ?_
        refine g_is t47_53 (Nat.le_of_ble_eq_true rfl) (am_s1_6 rfl) ?_
        exact INN (mn P) 0 (by omega) s' z7 hf hQ hK l74 (fun y hy => absurd hy (Nat.not_lt_zero y))
  have INI : ∀ j x : Nat, x + j = 243 → ∀ s', FI kA s s' → CQ s' → KP P r w s' → (∀ y, y < x → rl s' 74 y = lN (C 0 y)) → gG X (d + 6) 47 3 [.ref 61, .int (nI n), .null, .int (nI 0), .int (-1), .int (nI x), .float 0, .float 0] [] (mR s') Q := by
    intro j
    induction j with
    | zero =>
      intro x hj s' hf hQ hK l74
      have hx : x = 243 := by omega
      subst hx
      have hF : Fx s' := by have h := hF.fr hf.fr; exact h
      have hR : CR P s' := by have h := hR.fr hf.fr (by decide); exact h
      have hW : CW r w pd row day left s' := by have h := hW.fr hf.fr (by decide); exact h
      have hS : CS se s' := by have h := hS.fr hf.fr (by decide); exact h
      refine g_p t47_3 rfl ?_
      refine g_p t47_5 rfl ?_
      refine r_getr t47_6 (f61 hF) rfl rfl ?_
      refine r_lenl t47_9 (f74 hF) ?_
      refine n_cge t47_10 (by omega) (by omega) (fun h10 => ?_) (fun h10 => ?_)
      · refine g_k (n := 1) t47_43 rfl rfl ?_
        refine g_is t47_44 (Nat.le_of_ble_eq_true rfl) (am_s1_5 rfl) ?_
        exact DAY n 0 (by omega) s' _ _ rfl hf hQ hK (fun y hy => l74 y (by omega))
      · exfalso; omega
    | succ j ih =>
      intro x hj s' hf hQ hK l74
      have hF : Fx s' := by have h := hF.fr hf.fr; exact h
      have hR : CR P s' := by have h := hR.fr hf.fr (by decide); exact h
      have hW : CW r w pd row day left s' := by have h := hW.fr hf.fr (by decide); exact h
      have hS : CS se s' := by have h := hS.fr hf.fr (by decide); exact h
      obtain ⟨e1, e2, e3, e4, e5, e6⟩ := hW
      refine g_p t47_3 rfl ?_
      refine g_p t47_5 rfl ?_
      refine r_getr t47_6 (f61 hF) rfl rfl ?_
      refine r_lenl t47_9 (f74 hF) ?_
      refine n_cge t47_10 (by omega) (by omega) (fun h10 => ?_) (fun h10 => ?_)
      · exfalso; omega
      · refine g_p t47_13 rfl ?_
        refine r_getr t47_14 (f61 hF) rfl rfl ?_
        refine g_p t47_17 rfl ?_
        refine g_p t47_19 rfl ?_
        refine g_p t47_21 rfl ?_
        refine r_getr t47_22 (f61 hF) rfl rfl ?_
        refine r_cv t47_25 (f32 hF) rfl ?_
        refine c96 (by exact hF) e4 ?_
        refine k_v ?_ rfl
        refine n_cne t47_28 (by omega) (by omega) (fun h28 => ?_) (fun h28 => ?_)
        · refine g_p t47_35 rfl ?_
          refine r_last t47_36 (f74 hF) (by decide) (by omega) ?_
          refine g_incn (n := 1) t47_37 rfl rfl (Nat.le_of_ble_eq_true rfl) (am_s1_5 rfl) ?_
          refine g_goto t47_40 ?_
          refine ih (x + 1) (by omega) _ (hf.wl (p := 74)) hQ hK (fun y hy => ?_)
          by_cases h9 : y = x
          · subst h9
            refine (rl_wl.trans (if_pos ⟨rfl, rfl⟩)).trans ?_
            rw [hC0]
            first
              | (rw [if_pos h28]; rfl)
              | (rw [if_neg h28]; rfl)
          · exact (rl_wl.trans (if_neg (fun h => h9 h.2))).trans (l74 y (by omega))
        · refine g_p t47_31 rfl ?_
          refine g_goto t47_32 ?_
          refine r_last t47_36 (f74 hF) (by decide) (by omega) ?_
          refine g_incn (n := 1) t47_37 rfl rfl (Nat.le_of_ble_eq_true rfl) (am_s1_5 rfl) ?_
          refine g_goto t47_40 ?_
          refine ih (x + 1) (by omega) _ (hf.wl (p := 74)) hQ hK (fun y hy => ?_)
          by_cases h9 : y = x
          · subst h9
            refine (rl_wl.trans (if_pos ⟨rfl, rfl⟩)).trans ?_
            rw [hC0]
            first
              | (rw [if_pos h28]; rfl)
              | (rw [if_neg h28]; rfl)
          · exact (rl_wl.trans (if_neg (fun h => h9 h.2))).trans (l74 y (by omega))
  refine en47 rfl rfl rfl rfl rfl ?_
  refine g_k (n := 0) t47_0 rfl rfl ?_
  refine g_is t47_1 (Nat.le_of_ble_eq_true rfl) (am_s1_5 rfl) ?_
  exact INI 243 0 rfl s Fr.rf.fi hQ hK (fun y hy => absurd hy (Nat.not_lt_zero y))
set_option maxHeartbeats 1000000 in
theorem c47b (hF : Fx s) (hR : CR P s) (hW : CW r w pd row day left s) (hr5 : r ≤ 5) (hw5 : w ≤ 5) (hd5 : pd ≤ 5) (hl5 : left ≤ 5) (hQ : CQ s) (hK : KP P r w s) (hS : CS se s) (hse : ∀ t ∈ se, t.1 ≤ 6 ∧ t.2.1 < P ∧ t.2.2 < 3) (hrow : row < mn P) (hB : Bo s p) (hBs : Bs P b p s) (hp : 114 ≤ p) {q : Nat} (hq6 : q ≤ 6) (hn6 : n ≤ 6)
    (hq : ∀ s', FI kA s s' → CQ s' → KP P r w s' → Q (some (.long (lN (sm (cwy P r w row left pd (fun k c => (decide (¬ k = q) || decide (sy P b c = v)) && wsn se P k c) n) (mn P))))) (mR s')) : gE X (d + 6) 47 [.ref 61, .int (nI n), .ref p, .int (nI q), .int v] (mR s) Q := by
  have hP5 := hR.2.2.1
  have hm := mn_le hP5
  obtain ⟨C, hC⟩ : ∃ C, C = cwy P r w row left pd (fun k c => (decide (¬ k = q) || decide (sy P b c = v)) && wsn se P k c) := ⟨_, rfl⟩
  rw [← hC] at hq
  have hC0 : ∀ a, C 0 a = if a = row then 1 else 0 := fun a => by rw [hC]; rfl
  have hCs : ∀ k x, C (k + 1) x = if ((decide (¬ k + 1 = q) || decide (sy P b x = v)) && wsn se P (k + 1) x) = true then sm (fun a => if dst P r w 15 a x ≤ (if k + 1 = 1 then left else pd) then C k a else 0) (mn P) else 0 := fun k x => by rw [hC]; rfl
  have hClt : ∀ k, k ≤ 6 → ∀ a, C k a < 2 ^ 62 := fun k hk a => by rw [hC]; exact cwy_lt hP5 hk a
  have SUM : ∀ j x : Nat, x + j = mn P → ∀ s', FI kA s s' → CQ s' → KP P r w s' → (∀ y, y < mn P → rl s' 74 y = lN (C n y)) → gG X (d + 6) 47 192 [.ref 61, .int (nI n), .ref p, .int (nI q), .int v, .long (lN (sm (C n) x)), .float 0, .int (nI x)] [] (mR s') Q := by
    intro j
    induction j with
    | zero =>
      intro x hj s' hf hQ hK l74
      have hj : x = mn P := by omega
      subst hj
      have hF : Fx s' := by have h := hF.fr hf.fr; exact h
      have hR : CR P s' := by have h := hR.fr hf.fr (by decide); exact h
      have hW : CW r w pd row day left s' := by have h := hW.fr hf.fr (by decide); exact h
      have hS : CS se s' := by have h := hS.fr hf.fr (by decide); exact h
      have hB : Bo s' p := by have h := hB.fr hf.fr; exact h
      have hBs : Bs P b p s' := by have h := hBs.fr hf.fr (nin (by decide) (by omega)); exact h
      refine g_p t47_192 rfl ?_
      refine g_p t47_194 rfl ?_
      refine r_getr t47_195 (f61 hF) rfl rfl ?_
      refine r_cv t47_198 (f19 hF) rfl ?_
      refine c76 (by exact hF) hR.2.1 ?_
      refine k_v ?_ rfl
      refine n_cge t47_201 (by omega) (by omega) (fun h201 => ?_) (fun h201 => ?_)
      · refine g_p t47_232 rfl ?_
        exact l_ret t47_234 rfl (hq _ hf hQ hK)
      · exfalso; omega
    | succ j ih =>
      intro x hj s' hf hQ hK l74
      have hxm : x < mn P := by omega
      have hF : Fx s' := by have h := hF.fr hf.fr; exact h
      have hR : CR P s' := by have h := hR.fr hf.fr (by decide); exact h
      have hW : CW r w pd row day left s' := by have h := hW.fr hf.fr (by decide); exact h
      have hS : CS se s' := by have h := hS.fr hf.fr (by decide); exact h
      have hB : Bo s' p := by have h := hB.fr hf.fr; exact h
      have hBs : Bs P b p s' := by have h := hBs.fr hf.fr (nin (by decide) (by omega)); exact h
      refine g_p t47_192 rfl ?_
      refine g_p t47_194 rfl ?_
      refine r_getr t47_195 (f61 hF) rfl rfl ?_
      refine r_cv t47_198 (f19 hF) rfl ?_
      refine c76 (by exact hF) hR.2.1 ?_
      refine k_v ?_ rfl
      refine n_cge t47_201 (by omega) (by omega) (fun h201 => ?_) (fun h201 => ?_)
      · exfalso; omega
      · refine g_p t47_204 rfl ?_
        refine g_p t47_206 rfl ?_
        refine r_getr t47_207 (f61 hF) rfl rfl ?_
        refine r_lenl t47_210 (f74 hF) ?_
        refine n_cge t47_211 (by omega) (by omega) (fun h211 => ?_) (fun h211 => ?_)
        · exfalso; omega
        · refine g_p t47_214 rfl ?_
          refine g_p t47_216 rfl ?_
          refine r_getr t47_217 (f61 hF) rfl rfl ?_
          refine g_p t47_220 rfl ?_
          refine r_lald t47_222 (f74 hF) (by decide) (by omega) ?_
          rw [show rl s' 74 x = lN (C n x) from l74 x hxm]
          refine n_ladd t47_223 ?_
          refine g_ls t47_224 (Nat.le_of_ble_eq_true rfl) (am_s2_5 rfl) ?_
          refine g_incn (n := 1) t47_226 rfl rfl (Nat.le_of_ble_eq_true rfl) (am_s1_7 rfl) ?_
          refine g_goto t47_229 ?_
          exact ih (x + 1) (by omega) s' hf hQ hK l74
  have DAY : ∀ u k : Nat, k + u = n → ∀ s' z6 z7, am_nl z6 = true → FI kA s s' → CQ s' → KP P r w s' → (∀ y, y < mn P → rl s' 74 y = lN (C k y)) → gG X (d + 6) 47 46 [.ref 61, .int (nI n), .ref p, .int (nI q), .int v, .int (nI (k + 1)), z6, z7] [] (mR s') Q := by
    intro u
    induction u with
    | zero =>
      intro k hu s' z6 z7 n6 hf hQ hK l74
      have hu : k = n := by omega
      subst hu
      refine g_p t47_46 rfl ?_
      refine g_p t47_48 rfl ?_
      refine n_cgt t47_49 (by omega) (by omega) (fun h49 => ?_) (fun h49 => ?_)
      · refine g_p t47_186 rfl ?_
        refine g_ls t47_187 (Nat.le_of_ble_eq_true rfl) (am_s2_5 rfl) ?_
        refine g_k (n := 0) t47_189 rfl rfl ?_
        refine g_is t47_190 (Nat.le_of_ble_eq_true rfl) (am_s1_7 rfl) ?_
        exact SUM (mn P) 0 (by omega) s' hf hQ hK l74
      · exfalso; omega
    | succ u ih =>
      intro k hu s' z6 z7 n6 hf hQ hK l74
      have INN : ∀ j x : Nat, x + j = mn P → ∀ s' z7, FI kA s s' → CQ s' → KP P r w s' → (∀ y, y < mn P → rl s' 74 y = lN (C k y)) → (∀ y, y < x → rl s' 75 y = lN (C (k + 1) y)) → gG X (d + 6) 47 55 [.ref 61, .int (nI n), .ref p, .int (nI q), .int v, .int (nI (k + 1)), .int (nI x), z7] [] (mR s') Q := by
        intro j
        induction j with
        | zero =>
          intro x hj s' z7 hf hQ hK l74 l75
          have hj : x = mn P := by omega
          subst hj
          have hF : Fx s' := by have h := hF.fr hf.fr; exact h
          have hR : CR P s' := by have h := hR.fr hf.fr (by decide); exact h
          have hW : CW r w pd row day left s' := by have h := hW.fr hf.fr (by decide); exact h
          have hS : CS se s' := by have h := hS.fr hf.fr (by decide); exact h
          have hB : Bo s' p := by have h := hB.fr hf.fr; exact h
          have hBs : Bs P b p s' := by have h := hBs.fr hf.fr (nin (by decide) (by omega)); exact h
          refine g_p t47_55 rfl ?_
          refine g_p t47_57 rfl ?_
          refine r_getr t47_58 (f61 hF) rfl rfl ?_
          refine r_cv t47_61 (f19 hF) rfl ?_
          refine c76 (by exact hF) hR.2.1 ?_
          refine k_v ?_ rfl
          refine n_cge t47_64 (by omega) (by omega) (fun h64 => ?_) (fun h64 => ?_)
          · refine g_p t47_150 rfl ?_
            refine r_getr t47_151 (f61 hF) rfl rfl ?_
            refine r_lenl t47_154 (f75 hF) ?_
            refine g_p t47_155 rfl ?_
            refine r_getr t47_156 (f61 hF) rfl rfl ?_
            refine r_lenl t47_159 (f74 hF) ?_
            refine g_minn t47_160 (by omega) (by omega) (Nat.le_of_ble_eq_true rfl) ?_
            refine g_is t47_163 (Nat.le_of_ble_eq_true rfl) (am_s1_6 rfl) ?_
            refine g_p t47_165 rfl ?_
            refine r_getr t47_166 (f61 hF) rfl rfl ?_
            refine g_k (n := 0) t47_169 rfl rfl ?_
            refine g_p t47_170 rfl ?_
            refine r_getr t47_171 (f61 hF) rfl rfl ?_
            refine g_k (n := 0) t47_174 rfl rfl ?_
            refine g_p t47_175 rfl ?_
            refine r_cpyl t47_177 (f75 hF) (f74 hF) (by decide) (by decide) (by omega) (by omega) (Nat.le_of_ble_eq_true rfl) ?_
            refine g_incn (n := 1) t47_180 rfl rfl (Nat.le_of_ble_eq_true rfl) (am_s1_5 rfl) ?_
            refine g_goto t47_183 ?_
            refine ih (k + 1) (by omega) _ _ z7 rfl (hf.wg (p := 74)) hQ hK (fun y hy => ?_)
            refine (rl_wg.trans (if_pos rfl)).trans ?_
            rw [pk_cpy_in (Nat.zero_le _) (by omega), Nat.zero_add, Nat.sub_zero]
            exact l75 y hy
          · exfalso; omega
        | succ j ihb =>
          intro x hj s' z7 hf hQ hK l74 l75
          have hxm : x < mn P := by omega
          have hCx := hCs k x
          have hF : Fx s' := by have h := hF.fr hf.fr; exact h
          have hR : CR P s' := by have h := hR.fr hf.fr (by decide); exact h
          have hW : CW r w pd row day left s' := by have h := hW.fr hf.fr (by decide); exact h
          have hS : CS se s' := by have h := hS.fr hf.fr (by decide); exact h
          have hB : Bo s' p := by have h := hB.fr hf.fr; exact h
          have hBs : Bs P b p s' := by have h := hBs.fr hf.fr (nin (by decide) (by omega)); exact h
          have hW0 := hW
          obtain ⟨e1, e2, e3, e4, e5, e6⟩ := hW
          refine g_p t47_55 rfl ?_
          refine g_p t47_57 rfl ?_
          refine r_getr t47_58 (f61 hF) rfl rfl ?_
          refine r_cv t47_61 (f19 hF) rfl ?_
          refine c76 (by exact hF) hR.2.1 ?_
          refine k_v ?_ rfl
          refine n_cge t47_64 (by omega) (by omega) (fun h64 => ?_) (fun h64 => ?_)
          · exfalso; omega
          · refine g_p t47_67 rfl ?_
            refine g_p t47_69 rfl ?_
            refine r_getr t47_70 (f61 hF) rfl rfl ?_
            refine r_lenl t47_73 (f75 hF) ?_
            refine n_cge t47_74 (by omega) (by omega) (fun h74 => ?_) (fun h74 => ?_)
            · exfalso; omega
            · refine g_p t47_77 rfl ?_
              refine g_b (b := false) t47_78 rfl ?_
              refine g_p t47_81 rfl ?_
              refine g_p t47_83 rfl ?_
              refine n_cne t47_84 (by omega) (by omega) (fun h84 => ?_) (fun h84 => ?_)
              · refine g_k (n := 1) t47_98 rfl rfl ?_
                refine g_goto t47_99 ?_
                refine g_is t47_103 (Nat.le_of_ble_eq_true rfl) (am_s1_7 rfl) ?_
                refine g_p t47_105 rfl ?_
                refine r_getr t47_106 (f61 hF) rfl rfl ?_
                refine g_p t47_109 rfl ?_
                refine g_p t47_111 rfl ?_
                refine n_eq t47_113 (by omega) (fun h113 => ?_) (fun h113 => ?_)
                · refine g_p t47_142 rfl ?_
                  refine r_last t47_143 (f75 hF) (by decide) (by omega) ?_
                  refine g_incn (n := 1) t47_144 rfl rfl (Nat.le_of_ble_eq_true rfl) (am_s1_6 rfl) ?_
                  refine g_goto t47_147 ?_
                  first
                    | refine ihb (x + 1) (by omega) _ _ (hf.wl (p := 75)) hQ hK (fun y hy => ?_) (fun y hy => ?_)
                    | refine ihb (x + 1) (by omega) _ _ ((hf.tr (fr136.fi.mono (by decide))).wl (p := 75)) hQ hK (fun y hy => ?_) (fun y hy => ?_)
                  · refine (rl_wl.trans (if_neg (fun h => absurd h.1 (by decide)))).trans ?_
                    first
                      | exact l74 y hy
                      | exact (congrFun (congrFun (congrArg Prod.fst fr136.2.1) 74) y).trans (l74 y hy)
                  · by_cases h9 : y = x
                    · subst h9
                      refine (rl_wl.trans (if_pos ⟨rfl, rfl⟩)).trans ?_
                      rw [hCx]
                      first
                        | (exfalso; omega)
                        | (have w := h124; have u := h95; rw [w, decide_eq_true u, Bool.or_true]; rfl)
                        | (have w := h124; have u := h84; rw [w, decide_eq_true u]; rfl)
                        | (have u := h84; have u2 := h95; rw [decide_eq_false (show ¬ ¬ k + 1 = q from fun h => h u), decide_eq_false u2]; rfl)
                    · refine (rl_wl.trans (if_neg (fun h => h9 h.2))).trans ?_
                      first
                        | exact l75 y (by omega)
                        | exact (congrFun (congrFun (congrArg Prod.fst fr136.2.1) 75) y).trans (l75 y (by omega))
                · refine g_p t47_116 rfl ?_
                  refine g_p t47_117 rfl ?_
                  refine g_p t47_119 rfl ?_
                  refine r_cv t47_121 (f61 hF) rfl ?_
                  refine c48 (by exact hF) (by exact hR) (by exact hS) hse (by omega) hxm ?_
                  refine k_v ?_ rfl
                  refine b_eq t47_124 (fun h124 => ?_) (fun h124 => ?_)
                  · refine g_p t47_142 rfl ?_
                    refine r_last t47_143 (f75 hF) (by decide) (by omega) ?_
                    refine g_incn (n := 1) t47_144 rfl rfl (Nat.le_of_ble_eq_true rfl) (am_s1_6 rfl) ?_
                    refine g_goto t47_147 ?_
                    first
                      | refine ihb (x + 1) (by omega) _ _ (hf.wl (p := 75)) hQ hK (fun y hy => ?_) (fun y hy => ?_)
                      | refine ihb (x + 1) (by omega) _ _ ((hf.tr (fr136.fi.mono (by decide))).wl (p := 75)) hQ hK (fun y hy => ?_) (fun y hy => ?_)
                    · refine (rl_wl.trans (if_neg (fun h => absurd h.1 (by decide)))).trans ?_
                      first
                        | exact l74 y hy
                        | exact (congrFun (congrFun (congrArg Prod.fst fr136.2.1) 74) y).trans (l74 y hy)
                    · by_cases h9 : y = x
                      · subst h9
                        refine (rl_wl.trans (if_pos ⟨rfl, rfl⟩)).trans ?_
                        rw [hCx]
                        first
                          | (exfalso; omega)
                          | (have w := h124; have u := h95; rw [w, decide_eq_true u, Bool.or_true]; rfl)
                          | (have w := h124; have u := h84; rw [w, decide_eq_true u]; rfl)
                          | (have u := h84; have u2 := h95; rw [decide_eq_false (show ¬ ¬ k + 1 = q from fun h => h u), decide_eq_false u2]; rfl)
                      · refine (rl_wl.trans (if_neg (fun h => h9 h.2))).trans ?_
                        first
                          | exact l75 y (by omega)
                          | exact (congrFun (congrFun (congrArg Prod.fst fr136.2.1) 75) y).trans (l75 y (by omega))
                  · refine g_p t47_127 rfl ?_
                    refine g_p t47_128 rfl ?_
                    refine g_p t47_130 rfl ?_
                    refine g_p t47_131 rfl ?_
                    refine r_cv t47_133 (f61 hF) rfl ?_
                    refine c41 (by exact hF) (by omega) (by exact e3) (by exact e6) ?_
                    refine k_v ?_ rfl
                    refine r_cv t47_136 (f61 hF) rfl ?_
                    refine c49 (by exact hF) (by exact hR) (by exact hW0) hr5 hw5 (by exact hQ) (by exact hK) (by split <;> omega) (fun a ha => ⟨l74 a ha, hClt k (by omega) a⟩) hxm (fun s136 fr136 hQ hK => ?_)
                    refine k_v ?_ rfl
                    have hF := Fx.fr (by exact hF) fr136
                    have e1 := (fr136.ri (p := 32) (i := 1) (by decide)).trans e1
                    have e2 := (fr136.ri (p := 32) (i := 2) (by decide)).trans e2
                    have e3 := (fr136.ri (p := 32) (i := 3) (by decide)).trans e3
                    have e4 := (fr136.ri (p := 32) (i := 4) (by decide)).trans e4
                    have e5 := (fr136.ri (p := 32) (i := 5) (by decide)).trans e5
                    have e6 := (fr136.ri (p := 32) (i := 6) (by decide)).trans e6
                    refine g_goto t47_139 ?_
                    refine r_last t47_143 (f75 hF) (by decide) (by omega) ?_
                    refine g_incn (n := 1) t47_144 rfl rfl (Nat.le_of_ble_eq_true rfl) (am_s1_6 rfl) ?_
                    refine g_goto t47_147 ?_
                    first
                      | refine ihb (x + 1) (by omega) _ _ (hf.wl (p := 75)) hQ hK (fun y hy => ?_) (fun y hy => ?_)
                      | refine ihb (x + 1) (by omega) _ _ ((hf.tr (fr136.fi.mono (by decide))).wl (p := 75)) hQ hK (fun y hy => ?_) (fun y hy => ?_)
                    · refine (rl_wl.trans (if_neg (fun h => absurd h.1 (by decide)))).trans ?_
                      first
                        | exact l74 y hy
                        | exact (congrFun (congrFun (congrArg Prod.fst fr136.2.1) 74) y).trans (l74 y hy)
                    · by_cases h9 : y = x
                      · subst h9
                        refine (rl_wl.trans (if_pos ⟨rfl, rfl⟩)).trans ?_
                        rw [hCx]
                        first
                          | (exfalso; omega)
                          | (have w := h124; have u := h95; rw [w, decide_eq_true u, Bool.or_true]; rfl)
                          | (have w := h124; have u := h84; rw [w, decide_eq_true u]; rfl)
                          | (have u := h84; have u2 := h95; rw [decide_eq_false (show ¬ ¬ k + 1 = q from fun h => h u), decide_eq_false u2]; rfl)
                      · refine (rl_wl.trans (if_neg (fun h => h9 h.2))).trans ?_
                        first
                          | exact l75 y (by omega)
                          | exact (congrFun (congrFun (congrArg Prod.fst fr136.2.1) 75) y).trans (l75 y (by omega))
              · refine g_p t47_87 rfl ?_
                refine g_p t47_88 rfl ?_
                refine r_cv t47_90 hB.1 rfl ?_
                refine c10 (by exact hB) (by omega) (by exact hBs x hxm) ?_
                refine k_v ?_ rfl
                refine g_p t47_93 rfl ?_
                refine g_cne t47_95 (fun h95 => ?_) (fun h95 => ?_)
                · refine g_k (n := 0) t47_102 rfl rfl ?_
                  refine g_is t47_103 (Nat.le_of_ble_eq_true rfl) (am_s1_7 rfl) ?_
                  refine g_p t47_105 rfl ?_
                  refine r_getr t47_106 (f61 hF) rfl rfl ?_
                  refine g_p t47_109 rfl ?_
                  refine g_p t47_111 rfl ?_
                  refine n_eq t47_113 (by omega) (fun h113 => ?_) (fun h113 => ?_)
                  · refine g_p t47_142 rfl ?_
                    refine r_last t47_143 (f75 hF) (by decide) (by omega) ?_
                    refine g_incn (n := 1) t47_144 rfl rfl (Nat.le_of_ble_eq_true rfl) (am_s1_6 rfl) ?_
                    refine g_goto t47_147 ?_
                    first
                      | refine ihb (x + 1) (by omega) _ _ (hf.wl (p := 75)) hQ hK (fun y hy => ?_) (fun y hy => ?_)
                      | refine ihb (x + 1) (by omega) _ _ ((hf.tr (fr136.fi.mono (by decide))).wl (p := 75)) hQ hK (fun y hy => ?_) (fun y hy => ?_)
                    · refine (rl_wl.trans (if_neg (fun h => absurd h.1 (by decide)))).trans ?_
                      first
                        | exact l74 y hy
                        | exact (congrFun (congrFun (congrArg Prod.fst fr136.2.1) 74) y).trans (l74 y hy)
                    · by_cases h9 : y = x
                      · subst h9
                        refine (rl_wl.trans (if_pos ⟨rfl, rfl⟩)).trans ?_
                        rw [hCx]
                        first
                          | (exfalso; omega)
                          | (have w := h124; have u := h95; rw [w, decide_eq_true u, Bool.or_true]; rfl)
                          | (have w := h124; have u := h84; rw [w, decide_eq_true u]; rfl)
                          | (have u := h84; have u2 := h95; rw [decide_eq_false (show ¬ ¬ k + 1 = q from fun h => h u), decide_eq_false u2]; rfl)
                      · refine (rl_wl.trans (if_neg (fun h => h9 h.2))).trans ?_
                        first
                          | exact l75 y (by omega)
                          | exact (congrFun (congrFun (congrArg Prod.fst fr136.2.1) 75) y).trans (l75 y (by omega))
                  · refine g_p t47_116 rfl ?_
                    refine g_p t47_117 rfl ?_
                    refine g_p t47_119 rfl ?_
                    refine r_cv t47_121 (f61 hF) rfl ?_
                    refine c48 (by exact hF) (by exact hR) (by exact hS) hse (by omega) hxm ?_
                    refine k_v ?_ rfl
                    refine b_eq t47_124 (fun h124 => ?_) (fun h124 => ?_)
                    · refine g_p t47_142 rfl ?_
                      refine r_last t47_143 (f75 hF) (by decide) (by omega) ?_
                      refine g_incn (n := 1) t47_144 rfl rfl (Nat.le_of_ble_eq_true rfl) (am_s1_6 rfl) ?_
                      refine g_goto t47_147 ?_
                      first
                        | refine ihb (x + 1) (by omega) _ _ (hf.wl (p := 75)) hQ hK (fun y hy => ?_) (fun y hy => ?_)
                        | refine ihb (x + 1) (by omega) _ _ ((hf.tr (fr136.fi.mono (by decide))).wl (p := 75)) hQ hK (fun y hy => ?_) (fun y hy => ?_)
                      · refine (rl_wl.trans (if_neg (fun h => absurd h.1 (by decide)))).trans ?_
                        first
                          | exact l74 y hy
                          | exact (congrFun (congrFun (congrArg Prod.fst fr136.2.1) 74) y).trans (l74 y hy)
                      · by_cases h9 : y = x
                        · subst h9
                          refine (rl_wl.trans (if_pos ⟨rfl, rfl⟩)).trans ?_
                          rw [hCx]
                          first
                            | (exfalso; omega)
                            | (have w := h124; have u := h95; rw [w, decide_eq_true u, Bool.or_true]; rfl)
                            | (have w := h124; have u := h84; rw [w, decide_eq_true u]; rfl)
                            | (have u := h84; have u2 := h95; rw [decide_eq_false (show ¬ ¬ k + 1 = q from fun h => h u), decide_eq_false u2]; rfl)
                        · refine (rl_wl.trans (if_neg (fun h => h9 h.2))).trans ?_
                          first
                            | exact l75 y (by omega)
                            | exact (congrFun (congrFun (congrArg Prod.fst fr136.2.1) 75) y).trans (l75 y (by omega))
                    · refine g_p t47_127 rfl ?_
                      refine g_p t47_128 rfl ?_
                      refine g_p t47_130 rfl ?_
                      refine g_p t47_131 rfl ?_
                      refine r_cv t47_133 (f61 hF) rfl ?_
                      refine c41 (by exact hF) (by omega) (by exact e3) (by exact e6) ?_
                      refine k_v ?_ rfl
                      refine r_cv t47_136 (f61 hF) rfl ?_
                      refine c49 (by exact hF) (by exact hR) (by exact hW0) hr5 hw5 (by exact hQ) (by exact hK) (by split <;> omega) (fun a ha => ⟨l74 a ha, hClt k (by omega) a⟩) hxm (fun s136 fr136 hQ hK => ?_)
                      refine k_v ?_ rfl
                      have hF := Fx.fr (by exact hF) fr136
                      have e1 := (fr136.ri (p := 32) (i := 1) (by decide)).trans e1
                      have e2 := (fr136.ri (p := 32) (i := 2) (by decide)).trans e2
                      have e3 := (fr136.ri (p := 32) (i := 3) (by decide)).trans e3
                      have e4 := (fr136.ri (p := 32) (i := 4) (by decide)).trans e4
                      have e5 := (fr136.ri (p := 32) (i := 5) (by decide)).trans e5
                      have e6 := (fr136.ri (p := 32) (i := 6) (by decide)).trans e6
                      refine g_goto t47_139 ?_
                      refine r_last t47_143 (f75 hF) (by decide) (by omega) ?_
                      refine g_incn (n := 1) t47_144 rfl rfl (Nat.le_of_ble_eq_true rfl) (am_s1_6 rfl) ?_
                      refine g_goto t47_147 ?_
                      first
                        | refine ihb (x + 1) (by omega) _ _ (hf.wl (p := 75)) hQ hK (fun y hy => ?_) (fun y hy => ?_)
                        | refine ihb (x + 1) (by omega) _ _ ((hf.tr (fr136.fi.mono (by decide))).wl (p := 75)) hQ hK (fun y hy => ?_) (fun y hy => ?_)
                      · refine (rl_wl.trans (if_neg (fun h => absurd h.1 (by decide)))).trans ?_
                        first
                          | exact l74 y hy
                          | exact (congrFun (congrFun (congrArg Prod.fst fr136.2.1) 74) y).trans (l74 y hy)
                      · by_cases h9 : y = x
                        · subst h9
                          refine (rl_wl.trans (if_pos ⟨rfl, rfl⟩)).trans ?_
                          rw [hCx]
                          first
                            | (exfalso; omega)
                            | (have w := h124; have u := h95; rw [w, decide_eq_true u, Bool.or_true]; rfl)
                            | (have w := h124; have u := h84; rw [w, decide_eq_true u]; rfl)
                            | (have u := h84; have u2 := h95; rw [decide_eq_false (show ¬ ¬ k + 1 = q from fun h => h u), decide_eq_false u2]; rfl)
                        · refine (rl_wl.trans (if_neg (fun h => h9 h.2))).trans ?_
                          first
                            | exact l75 y (by omega)
                            | exact (congrFun (congrFun (congrArg Prod.fst fr136.2.1) 75) y).trans (l75 y (by omega))
                · refine g_k (n := 1) t47_98 rfl rfl ?_
                  refine g_goto t47_99 ?_
                  refine g_is t47_103 (Nat.le_of_ble_eq_true rfl) (am_s1_7 rfl) ?_
                  refine g_p t47_105 rfl ?_
                  refine r_getr t47_106 (f61 hF) rfl rfl ?_
                  refine g_p t47_109 rfl ?_
                  refine g_p t47_111 rfl ?_
                  refine n_eq t47_113 (by omega) (fun h113 => ?_) (fun h113 => ?_)
                  · refine g_p t47_142 rfl ?_
                    refine r_last t47_143 (f75 hF) (by decide) (by omega) ?_
                    refine g_incn (n := 1) t47_144 rfl rfl (Nat.le_of_ble_eq_true rfl) (am_s1_6 rfl) ?_
                    refine g_goto t47_147 ?_
                    first
                      | refine ihb (x + 1) (by omega) _ _ (hf.wl (p := 75)) hQ hK (fun y hy => ?_) (fun y hy => ?_)
                      | refine ihb (x + 1) (by omega) _ _ ((hf.tr (fr136.fi.mono (by decide))).wl (p := 75)) hQ hK (fun y hy => ?_) (fun y hy => ?_)
                    · refine (rl_wl.trans (if_neg (fun h => absurd h.1 (by decide)))).trans ?_
                      first
                        | exact l74 y hy
                        | exact (congrFun (congrFun (congrArg Prod.fst fr136.2.1) 74) y).trans (l74 y hy)
                    · by_cases h9 : y = x
                      · subst h9
                        refine (rl_wl.trans (if_pos ⟨rfl, rfl⟩)).trans ?_
                        rw [hCx]
                        first
                          | (exfalso; omega)
                          | (have w := h124; have u := h95; rw [w, decide_eq_true u, Bool.or_true]; rfl)
                          | (have w := h124; have u := h84; rw [w, decide_eq_true u]; rfl)
                          | (have u := h84; have u2 := h95; rw [decide_eq_false (show ¬ ¬ k + 1 = q from fun h => h u), decide_eq_false u2]; rfl)
                      · refine (rl_wl.trans (if_neg (fun h => h9 h.2))).trans ?_
                        first
                          | exact l75 y (by omega)
                          | exact (congrFun (congrFun (congrArg Prod.fst fr136.2.1) 75) y).trans (l75 y (by omega))
                  · refine g_p t47_116 rfl ?_
                    refine g_p t47_117 rfl ?_
                    refine g_p t47_119 rfl ?_
                    refine r_cv t47_121 (f61 hF) rfl ?_
                    refine c48 (by exact hF) (by exact hR) (by exact hS) hse (by omega) hxm ?_
                    refine k_v ?_ rfl
                    refine b_eq t47_124 (fun h124 => ?_) (fun h124 => ?_)
                    · refine g_p t47_142 rfl ?_
                      refine r_last t47_143 (f75 hF) (by decide) (by omega) ?_
                      refine g_incn (n := 1) t47_144 rfl rfl (Nat.le_of_ble_eq_true rfl) (am_s1_6 rfl) ?_
                      refine g_goto t47_147 ?_
                      first
                        | refine ihb (x + 1) (by omega) _ _ (hf.wl (p := 75)) hQ hK (fun y hy => ?_) (fun y hy => ?_)
                        | refine ihb (x + 1) (by omega) _ _ ((hf.tr (fr136.fi.mono (by decide))).wl (p := 75)) hQ hK (fun y hy => ?_) (fun y hy => ?_)
                      · refine (rl_wl.trans (if_neg (fun h => absurd h.1 (by decide)))).trans ?_
                        first
                          | exact l74 y hy
                          | exact (congrFun (congrFun (congrArg Prod.fst fr136.2.1) 74) y).trans (l74 y hy)
                      · by_cases h9 : y = x
                        · subst h9
                          refine (rl_wl.trans (if_pos ⟨rfl, rfl⟩)).trans ?_
                          rw [hCx]
                          first
                            | (exfalso; omega)
                            | (have w := h124; have u := h95; rw [w, decide_eq_true u, Bool.or_true]; rfl)
                            | (have w := h124; have u := h84; rw [w, decide_eq_true u]; rfl)
                            | (have u := h84; have u2 := h95; rw [decide_eq_false (show ¬ ¬ k + 1 = q from fun h => h u), decide_eq_false u2]; rfl)
                        · refine (rl_wl.trans (if_neg (fun h => h9 h.2))).trans ?_
                          first
                            | exact l75 y (by omega)
                            | exact (congrFun (congrFun (congrArg Prod.fst fr136.2.1) 75) y).trans (l75 y (by omega))
                    · refine g_p t47_127 rfl ?_
                      refine g_p t47_128 rfl ?_
                      refine g_p t47_130 rfl ?_
                      refine g_p t47_131 rfl ?_
                      refine r_cv t47_133 (f61 hF) rfl ?_
                      refine c41 (by exact hF) (by omega) (by exact e3) (by exact e6) ?_
                      refine k_v ?_ rfl
                      refine r_cv t47_136 (f61 hF) rfl ?_
                      refine c49 (by exact hF) (by exact hR) (by exact hW0) hr5 hw5 (by exact hQ) (by exact hK) (by split <;> omega) (fun a ha => ⟨l74 a ha, hClt k (by omega) a⟩) hxm (fun s136 fr136 hQ hK => ?_)
                      refine k_v ?_ rfl
                      have hF := Fx.fr (by exact hF) fr136
                      have e1 := (fr136.ri (p := 32) (i := 1) (by decide)).trans e1
                      have e2 := (fr136.ri (p := 32) (i := 2) (by decide)).trans e2
                      have e3 := (fr136.ri (p := 32) (i := 3) (by decide)).trans e3
                      have e4 := (fr136.ri (p := 32) (i := 4) (by decide)).trans e4
                      have e5 := (fr136.ri (p := 32) (i := 5) (by decide)).trans e5
                      have e6 := (fr136.ri (p := 32) (i := 6) (by decide)).trans e6
                      refine g_goto t47_139 ?_
                      refine r_last t47_143 (f75 hF) (by decide) (by omega) ?_
                      refine g_incn (n := 1) t47_144 rfl rfl (Nat.le_of_ble_eq_true rfl) (am_s1_6 rfl) ?_
                      refine g_goto t47_147 ?_
                      first
                        | refine ihb (x + 1) (by omega) _ _ (hf.wl (p := 75)) hQ hK (fun y hy => ?_) (fun y hy => ?_)
                        | refine ihb (x + 1) (by omega) _ _ ((hf.tr (fr136.fi.mono (by decide))).wl (p := 75)) hQ hK (fun y hy => ?_) (fun y hy => ?_)
                      · refine (rl_wl.trans (if_neg (fun h => absurd h.1 (by decide)))).trans ?_
                        first
                          | exact l74 y hy
                          | exact (congrFun (congrFun (congrArg Prod.fst fr136.2.1) 74) y).trans (l74 y hy)
                      · by_cases h9 : y = x
                        · subst h9
                          refine (rl_wl.trans (if_pos ⟨rfl, rfl⟩)).trans ?_
                          rw [hCx]
                          first
                            | (exfalso; omega)
                            | (have w := h124; have u := h95; rw [w, decide_eq_true u, Bool.or_true]; rfl)
                            | (have w := h124; have u := h84; rw [w, decide_eq_true u]; rfl)
                            | (have u := h84; have u2 := h95; rw [decide_eq_false (show ¬ ¬ k + 1 = q from fun h => h u), decide_eq_false u2]; rfl)
                        · refine (rl_wl.trans (if_neg (fun h => h9 h.2))).trans ?_
                          first
                            | exact l75 y (by omega)
                            | exact (congrFun (congrFun (congrArg Prod.fst fr136.2.1) 75) y).trans (l75 y (by omega))
      refine g_p t47_46 rfl ?_
      refine g_p t47_48 rfl ?_
      refine n_cgt t47_49 (by omega) (by omega) (fun h49 => ?_) (fun h49 => ?_)
      · exfalso; omega
      · refine g_k (n := 0) t47_52 rfl rfl ?_
        refine g_is t47_53 (Nat.le_of_ble_eq_true rfl) (am_s1_6 rfl) ?_
        exact INN (mn P) 0 (by omega) s' z7 hf hQ hK l74 (fun y hy => absurd hy (Nat.not_lt_zero y))
  have INI : ∀ j x : Nat, x + j = 243 → ∀ s', FI kA s s' → CQ s' → KP P r w s' → (∀ y, y < x → rl s' 74 y = lN (C 0 y)) → gG X (d + 6) 47 3 [.ref 61, .int (nI n), .ref p, .int (nI q), .int v, .int (nI x), .float 0, .float 0] [] (mR s') Q := by
    intro j
    induction j with
    | zero =>
      intro x hj s' hf hQ hK l74
      have hx : x = 243 := by omega
      subst hx
      have hF : Fx s' := by have h := hF.fr hf.fr; exact h
      have hR : CR P s' := by have h := hR.fr hf.fr (by decide); exact h
      have hW : CW r w pd row day left s' := by have h := hW.fr hf.fr (by decide); exact h
      have hS : CS se s' := by have h := hS.fr hf.fr (by decide); exact h
      have hB : Bo s' p := by have h := hB.fr hf.fr; exact h
      have hBs : Bs P b p s' := by have h := hBs.fr hf.fr (nin (by decide) (by omega)); exact h
      refine g_p t47_3 rfl ?_
      refine g_p t47_5 rfl ?_
      refine r_getr t47_6 (f61 hF) rfl rfl ?_
      refine r_lenl t47_9 (f74 hF) ?_
      refine n_cge t47_10 (by omega) (by omega) (fun h10 => ?_) (fun h10 => ?_)
      · refine g_k (n := 1) t47_43 rfl rfl ?_
        refine g_is t47_44 (Nat.le_of_ble_eq_true rfl) (am_s1_5 rfl) ?_
        exact DAY n 0 (by omega) s' _ _ rfl hf hQ hK (fun y hy => l74 y (by omega))
      · exfalso; omega
    | succ j ih =>
      intro x hj s' hf hQ hK l74
      have hF : Fx s' := by have h := hF.fr hf.fr; exact h
      have hR : CR P s' := by have h := hR.fr hf.fr (by decide); exact h
      have hW : CW r w pd row day left s' := by have h := hW.fr hf.fr (by decide); exact h
      have hS : CS se s' := by have h := hS.fr hf.fr (by decide); exact h
      have hB : Bo s' p := by have h := hB.fr hf.fr; exact h
      have hBs : Bs P b p s' := by have h := hBs.fr hf.fr (nin (by decide) (by omega)); exact h
      obtain ⟨e1, e2, e3, e4, e5, e6⟩ := hW
      refine g_p t47_3 rfl ?_
      refine g_p t47_5 rfl ?_
      refine r_getr t47_6 (f61 hF) rfl rfl ?_
      refine r_lenl t47_9 (f74 hF) ?_
      refine n_cge t47_10 (by omega) (by omega) (fun h10 => ?_) (fun h10 => ?_)
      · exfalso; omega
      · refine g_p t47_13 rfl ?_
        refine r_getr t47_14 (f61 hF) rfl rfl ?_
        refine g_p t47_17 rfl ?_
        refine g_p t47_19 rfl ?_
        refine g_p t47_21 rfl ?_
        refine r_getr t47_22 (f61 hF) rfl rfl ?_
        refine r_cv t47_25 (f32 hF) rfl ?_
        refine c96 (by exact hF) e4 ?_
        refine k_v ?_ rfl
        refine n_cne t47_28 (by omega) (by omega) (fun h28 => ?_) (fun h28 => ?_)
        · refine g_p t47_35 rfl ?_
          refine r_last t47_36 (f74 hF) (by decide) (by omega) ?_
          refine g_incn (n := 1) t47_37 rfl rfl (Nat.le_of_ble_eq_true rfl) (am_s1_5 rfl) ?_
          refine g_goto t47_40 ?_
          refine ih (x + 1) (by omega) _ (hf.wl (p := 74)) hQ hK (fun y hy => ?_)
          by_cases h9 : y = x
          · subst h9
            refine (rl_wl.trans (if_pos ⟨rfl, rfl⟩)).trans ?_
            rw [hC0]
            first
              | (rw [if_pos h28]; rfl)
              | (rw [if_neg h28]; rfl)
          · exact (rl_wl.trans (if_neg (fun h => h9 h.2))).trans (l74 y (by omega))
        · refine g_p t47_31 rfl ?_
          refine g_goto t47_32 ?_
          refine r_last t47_36 (f74 hF) (by decide) (by omega) ?_
          refine g_incn (n := 1) t47_37 rfl rfl (Nat.le_of_ble_eq_true rfl) (am_s1_5 rfl) ?_
          refine g_goto t47_40 ?_
          refine ih (x + 1) (by omega) _ (hf.wl (p := 74)) hQ hK (fun y hy => ?_)
          by_cases h9 : y = x
          · subst h9
            refine (rl_wl.trans (if_pos ⟨rfl, rfl⟩)).trans ?_
            rw [hC0]
            first
              | (rw [if_pos h28]; rfl)
              | (rw [if_neg h28]; rfl)
          · exact (rl_wl.trans (if_neg (fun h => h9 h.2))).trans (l74 y (by omega))
  refine en47 rfl rfl rfl rfl rfl ?_
  refine g_k (n := 0) t47_0 rfl rfl ?_
  refine g_is t47_1 (Nat.le_of_ble_eq_true rfl) (am_s1_5 rfl) ?_
  exact INI 243 0 rfl s Fr.rf.fi hQ hK (fun y hy => absurd hy (Nat.not_lt_zero y))
end QA
