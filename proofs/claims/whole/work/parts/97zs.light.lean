/-! LIGHT'S WORTH, 2: conditions -/
abbrev BV : Type := Bool × Ps
def isC (c : Nat) : Bool := c == 61 || c == 60 || c == 62
def cmv (c : Nat) (x y : Int64) : Bool := if c = 61 then decide (x = y) else if c = 60 then decide (x < y) else decide (y < x)
/-- a comparison, its first side given -/
def lcp (t : List Nat) (f : Ps → LV) (x : LV) : BV := if isC (psg t x.2) = true then (cmv (psg t x.2) x.1 (f (pst t x.2)).1, (f (pst t x.2)).2) else (false, pre x.2)
def anl (t : List Nat) (h : Ps → BV) : Nat → BV → BV
  | 0, x => x
  | n + 1, x => if psg t x.2 = 38 then anl t h n (x.1 && (h (pst t x.2)).1, (h (pst t x.2)).2) else x
def orl (t : List Nat) (h : Ps → BV) : Nat → BV → BV
  | 0, x => x
  | n + 1, x => if psg t x.2 = 124 then orl t h n (x.1 || (h (pst t x.2)).1, (h (pst t x.2)).2) else x
/-- a condition: x its first unit, h the others -/
def cnd (t : List Nat) (h : Ps → BV) (x : BV) : BV := orl t (fun τ => anl t h 120 (h τ)) 120 (anl t h 120 x)
/-- a unit: f the sums by depth left -/
def un1 (t : List Nat) (f : Nat → Ps → LV) : Nat → Ps → BV
  | 0, σ => if psg t σ = 33 ∨ psg t σ = 40 then (false, pre σ) else lcp t (f 0) (f 0 σ)
  | e + 1, σ =>
    if psg t σ = 33 then (!(un1 t f e (pst t σ)).1, (un1 t f e (pst t σ)).2)
    else if psg t σ = 40 then ((cnd t (un1 t f e) (un1 t f e (pst t σ))).1, pne t 41 (cnd t (un1 t f e) (un1 t f e (pst t σ))).2)
    else lcp t (f (e + 1)) (f (e + 1) σ)
/-- method y answers f -/
def UnC (X : am_X) (T n : Nat) (t : List Nat) (a : Nat → Int32) (y k d z : Nat) (w : Int64) (f : Ps → BV) : Prop := ∀ (s : mM) (σ : Ps) (Q : Option Value → am_H → Prop), Fx s → RD 15 T n t σ s → (∀ i, 4 ≤ i → i < 8 → ri s 15 i = a i) → (∀ s', FR 15 s s' → RD 15 T n t (f σ).2 s' → Q (some (.int (bI (f σ).1))) (mR s')) → gE X d y [.ref 15, .int (nI k), .int (nI z), .long w] (mR s) Q
section TS
variable {X : am_X} {d : Nat} {s : mM} {hp : am_H} {Q : Option Value → am_H → Prop} {T n k z c : Nat} {t : List Nat} {σ : Ps} {v : Int32} {u w : Int64} {a : Nat → Int32} {f g : Ps → LV} {h1 h2 : Ps → BV}
theorem c27z (hTR : T ≠ 15 ∧ T + 1 ≠ 15) : AtC X T n t a 27 6 (d + 2) (lat t a 0) := by
  intro s σ Q hF hD ha hq
  have hlt := psg_lt hD.1 σ
  refine en27 rfl rfl ?_
  refine g_p t27_0 rfl ?_
  refine r_cv t27_1 (f15 hF) rfl ?_
  refine c52_15 (by exact hF) (by exact hD.2.2) ?_
  refine k_v ?_ rfl
  refine g_isn t27_4 (Nat.le_of_ble_eq_true rfl) (am_s1_2 rfl) ?_
  refine g_p t27_5 rfl ?_
  refine g_k (n := 91) t27_6 rfl rfl ?_
  refine n_cne t27_8 (by omega) (by omega) (fun h8 => ?_) (fun h8 => ?_)
  · exact c27n hTR hF hD ha hq
  · refine g_p t27_11 rfl ?_
    refine g_k (n := 6) t27_12 rfl rfl ?_
    refine n_cge t27_14 (by omega) (by omega) (fun h14 => ?_) (fun h14 => ?_)
    · exact c27n hTR hF hD ha hq
    · exfalso; omega
theorem c27s (hTR : T ≠ 15 ∧ T + 1 ≠ 15) (hk : k < 6) (m24 : AtC X T n t a 24 (k + 1) (d + 1) g) : AtC X T n t a 27 k (d + 2) (fun σ => if psg t σ = 91 then ((g (pst t σ)).1, pne t 93 (g (pst t σ)).2) else atn t a σ) := by
  intro s σ Q hF hD ha hq
  have hlt := psg_lt hD.1 σ
  have hg : FR 15 s s := FR.rf
  by_cases l1 : psg t σ = 91
  · simp only [if_pos l1] at hq
    refine en27 rfl rfl ?_
    refine g_p t27_0 rfl ?_
    refine r_cv t27_1 (f15 hF) rfl ?_
    refine c52_15 (by exact hF) (by exact hD.2.2) ?_
    refine k_v ?_ rfl
    refine g_isn t27_4 (Nat.le_of_ble_eq_true rfl) (am_s1_2 rfl) ?_
    refine g_p t27_5 rfl ?_
    refine g_k (n := 91) t27_6 rfl rfl ?_
    refine n_cne t27_8 (by omega) (by omega) (fun h8 => ?_) (fun h8 => ?_)
    · exfalso; omega
    · refine g_p t27_11 rfl ?_
      refine g_k (n := 6) t27_12 rfl rfl ?_
      refine n_cge t27_14 (by omega) (by omega) (fun h14 => ?_) (fun h14 => ?_)
      · exfalso; omega
      · refine g_p t27_17 rfl ?_
        refine r_cv t27_18 (f15 hF) rfl ?_
        refine c53r_15 (by exact hF) hTR (by exact hD) (Or.inl (by omega)) (fun s18 fr18 hD => ?_)
        have hF := hF.fr fr18.1
        have hg := hg.tr fr18
        refine k_0 ?_
        refine g_p t27_21 rfl ?_
        refine g_p t27_22 rfl ?_
        refine g_k (n := 1) t27_23 rfl rfl ?_
        refine g_addn t27_24 ?_
        refine r_cv t27_25 (f15 hF) rfl ?_
        refine m24 _ _ _ (by exact hF) (by exact hD) (fun i h1 h2 => (hg.2 i (Or.inr h1)).trans (ha i h1 h2)) (fun s25 fr25 hD => ?_)
        have hF := hF.fr fr25.1
        have hg := hg.tr fr25
        refine k_v ?_ rfl
        refine g_lsn t27_28 (Nat.le_of_ble_eq_true rfl) (am_s2_3 rfl) ?_
        refine g_p t27_29 rfl ?_
        refine g_k (n := 93) t27_30 rfl rfl ?_
        refine r_cv t27_32 (f15 hF) rfl ?_
        refine c56_15 (by exact hF) hTR (by exact hD) (w := 93) (by decide) (by decide) (fun s32 fr32 hD => ?_)
        have hF := hF.fr fr32.1
        have hg := hg.tr fr32
        refine k_0 ?_
        refine g_p t27_35 rfl ?_
        exact l_ret t27_36 rfl (hq s32 hg hD)
  · simp only [if_neg l1] at hq
    refine en27 rfl rfl ?_
    refine g_p t27_0 rfl ?_
    refine r_cv t27_1 (f15 hF) rfl ?_
    refine c52_15 (by exact hF) (by exact hD.2.2) ?_
    refine k_v ?_ rfl
    refine g_isn t27_4 (Nat.le_of_ble_eq_true rfl) (am_s1_2 rfl) ?_
    refine g_p t27_5 rfl ?_
    refine g_k (n := 91) t27_6 rfl rfl ?_
    refine n_cne t27_8 (by omega) (by omega) (fun h8 => ?_) (fun h8 => ?_)
    · exact c27n hTR hF hD ha hq
    · exact absurd h8 l1
theorem c27L (hTR : T ≠ 15 ∧ T + 1 ≠ 15) : ∀ (e k d : Nat), k + e = 6 → AtC X T n t a 27 k (d + 3 * e + 2) (lat t a e) := by
  intro e
  induction e with
  | zero =>
    intro k d hk
    have : k = 6 := by omega
    subst this
    exact c27z hTR
  | succ e ih =>
    intro k d hk
    exact c27s (d := d + 3 * e + 3) hTR (by omega) (c24 hTR (c25 hTR (ih (k + 1) d (by omega))))
theorem c24L (hTR : T ≠ 15 ∧ T + 1 ≠ 15) {e k d : Nat} (hk : k + e = 6) : AtC X T n t a 24 k (d + 3 * e + 4) (lsm t (lat t a e)) := c24 hTR (c25 hTR (c27L hTR e k d hk))
theorem c20 (hc : c < 256) (hq : Q (some (.int (bI (isC c)))) hp) : gE X d 20 [.int (nI c)] hp Q := by
  refine en20 rfl ?_
  refine g_p t20_0 rfl ?_
  refine g_k (n := 61) t20_1 rfl rfl ?_
  refine n_ceq t20_3 (by omega) (by omega) (fun h3 => ?_) (fun h3 => ?_)
  · refine g_k (n := 1) t20_18 rfl rfl ?_
    refine g_goto t20_19 ?_
    first
      | (have u0 : ¬ c = 62 := h15
         exact b_ret t20_23 (by
           unfold isC
           rw [beq_eq_false_iff_ne.mpr h3, beq_eq_false_iff_ne.mpr h9, beq_eq_false_iff_ne.mpr u0]; rfl) hq)
      | (have u0 : c = 62 := h15; exact b_ret t20_23 (by subst u0; rfl) hq)
      | (have u0 := h9; exact b_ret t20_23 (by subst u0; rfl) hq)
      | (have u0 := h3; exact b_ret t20_23 (by subst u0; rfl) hq)
  · refine g_p t20_6 rfl ?_
    refine g_k (n := 60) t20_7 rfl rfl ?_
    refine n_ceq t20_9 (by omega) (by omega) (fun h9 => ?_) (fun h9 => ?_)
    · refine g_k (n := 1) t20_18 rfl rfl ?_
      refine g_goto t20_19 ?_
      first
        | (have u0 : ¬ c = 62 := h15
           exact b_ret t20_23 (by
             unfold isC
             rw [beq_eq_false_iff_ne.mpr h3, beq_eq_false_iff_ne.mpr h9, beq_eq_false_iff_ne.mpr u0]; rfl) hq)
        | (have u0 : c = 62 := h15; exact b_ret t20_23 (by subst u0; rfl) hq)
        | (have u0 := h9; exact b_ret t20_23 (by subst u0; rfl) hq)
        | (have u0 := h3; exact b_ret t20_23 (by subst u0; rfl) hq)
    · refine g_p t20_12 rfl ?_
      refine g_k (n := 62) t20_13 rfl rfl ?_
      refine n_cne t20_15 (by omega) (by omega) (fun h15 => ?_) (fun h15 => ?_)
      · refine g_k (n := 0) t20_22 rfl rfl ?_
        first
          | (have u0 : ¬ c = 62 := h15
             exact b_ret t20_23 (by
               unfold isC
               rw [beq_eq_false_iff_ne.mpr h3, beq_eq_false_iff_ne.mpr h9, beq_eq_false_iff_ne.mpr u0]; rfl) hq)
          | (have u0 : c = 62 := h15; exact b_ret t20_23 (by subst u0; rfl) hq)
          | (have u0 := h9; exact b_ret t20_23 (by subst u0; rfl) hq)
          | (have u0 := h3; exact b_ret t20_23 (by subst u0; rfl) hq)
      · refine g_k (n := 1) t20_18 rfl rfl ?_
        refine g_goto t20_19 ?_
        first
          | (have u0 : ¬ c = 62 := h15
             exact b_ret t20_23 (by
               unfold isC
               rw [beq_eq_false_iff_ne.mpr h3, beq_eq_false_iff_ne.mpr h9, beq_eq_false_iff_ne.mpr u0]; rfl) hq)
          | (have u0 : c = 62 := h15; exact b_ret t20_23 (by subst u0; rfl) hq)
          | (have u0 := h9; exact b_ret t20_23 (by subst u0; rfl) hq)
          | (have u0 := h3; exact b_ret t20_23 (by subst u0; rfl) hq)
theorem c23p (hTR : T ≠ 15 ∧ T + 1 ≠ 15) (hk : k ≤ 6) (m24 : AtC X T n t a 24 k (d + 1) f) {z5 z6 z7 z8 z9 z10 : Value} {v2 v5 : Int32} {z3 : Int64} {s0 : mM} (hF : Fx s) (hD : RD 15 T n t σ s) (ha : ∀ i, 4 ≤ i → i < 8 → ri s0 15 i = a i) (hg : FR 15 s0 s) (hq : ∀ s', FR 15 s0 s' → RD 15 T n t (lcp t f (u, σ)).2 s' → Q (some (.int (bI (lcp t f (u, σ)).1))) (mR s')) : gG X (d + 2) 23 98 [.ref 15, .int (nI k), .int v2, .long z3, .float 0, .int v5, z6, z7, z8, z9, z10] [.long u] (mR s) Q := by
  have hlt := psg_lt hD.1 σ
  unfold lcp at hq
  by_cases l1 : isC (psg t σ) = true
  · simp only [if_pos l1] at hq
    have hz : psg t σ ≠ 0 := fun h => by rw [h] at l1; exact absurd l1 (by decide)
    have h3 : psg t σ = 61 ∨ psg t σ = 60 ∨ psg t σ = 62 := by
      unfold isC at l1
      simp only [Bool.or_eq_true, beq_iff_eq] at l1
      omega
    unfold cmv at hq
    refine g_ls t23_98 (Nat.le_of_ble_eq_true rfl) (am_s2_6 rfl) ?_
    refine g_p t23_100 rfl ?_
    refine r_cv t23_101 (f15 hF) rfl ?_
    refine c52_15 (by exact hF) (by exact hD.2.2) ?_
    refine k_v ?_ rfl
    refine g_is t23_104 (Nat.le_of_ble_eq_true rfl) (am_s1_8 rfl) ?_
    refine g_p t23_106 rfl ?_
    refine g_cs t23_108 rfl rfl rfl ?_
    refine c20 hlt ?_
    refine k_v ?_ rfl
    refine b_ne t23_111 (fun h111 => ?_) (fun h111 => ?_)
    · refine g_p t23_120 rfl ?_
      refine r_cv t23_121 (f15 hF) rfl ?_
      refine c53r_15 (by exact hF) hTR (by exact hD) (Or.inl hz) (fun s121 fr121 hD => ?_)
      have hF := hF.fr fr121.1
      have hg := hg.tr fr121
      refine k_0 ?_
      refine g_p t23_124 rfl ?_
      refine g_p t23_125 rfl ?_
      refine r_cv t23_126 (f15 hF) rfl ?_
      refine m24 _ _ _ (by exact hF) (by exact hD) (fun i h1 h2 => (hg.2 i (Or.inr h1)).trans (ha i h1 h2)) (fun s126 fr126 hD => ?_)
      have hF := hF.fr fr126.1
      have hg := hg.tr fr126
      refine k_v ?_ rfl
      refine g_ls t23_129 (Nat.le_of_ble_eq_true rfl) (am_s2_9 rfl) ?_
      refine g_p t23_131 rfl ?_
      refine g_k (n := 61) t23_133 rfl rfl ?_
      refine n_cne t23_135 (by omega) (by omega) (fun h135 => ?_) (fun h135 => ?_)
      · refine g_p t23_152 rfl ?_
        refine g_k (n := 60) t23_154 rfl rfl ?_
        refine n_cne t23_156 (by omega) (by omega) (fun h156 => ?_) (fun h156 => ?_)
        · refine g_p t23_175 rfl ?_
          refine g_p t23_177 rfl ?_
          refine g_p t23_179 rfl ?_
          refine g_le t23_180 (fun h180 => ?_) (fun h180 => ?_)
          · refine g_k (n := 0) t23_187 rfl rfl ?_
            first
              | (have u0 : 0 ≤ lg_cmp u (f (pst t σ)).1 := h164
                 exact b_ret t23_188 (by rw [if_neg h135, if_pos h156, decide_eq_false (fun h => absurd ((lg_cmp_lt _ _).mpr h) (Int32.not_lt.mpr u0))]; rfl) (hq s126 hg hD))
              | (have u0 : ¬ 0 ≤ lg_cmp u (f (pst t σ)).1 := h164
                 exact b_ret t23_188 (by rw [if_neg h135, if_pos h156, decide_eq_true ((lg_cmp_lt _ _).mp (Int32.not_le.mp u0))]; rfl) (hq s126 hg hD))
              | (have u0 : lg_cmp u (f (pst t σ)).1 ≤ 0 := h180
                 exact b_ret t23_188 (by rw [if_neg h135, if_neg h156, decide_eq_false (fun h => absurd ((lg_cmp_gt _ _).mpr h) (Int32.not_lt.mpr u0))]; rfl) (hq s126 hg hD))
              | (have u0 : ¬ lg_cmp u (f (pst t σ)).1 ≤ 0 := h180
                 exact b_ret t23_188 (by rw [if_neg h135, if_neg h156, decide_eq_true ((lg_cmp_gt _ _).mp (Int32.not_le.mp u0))]; rfl) (hq s126 hg hD))
          · refine g_k (n := 1) t23_183 rfl rfl ?_
            refine g_goto t23_184 ?_
            first
              | (have u0 : 0 ≤ lg_cmp u (f (pst t σ)).1 := h164
                 exact b_ret t23_188 (by rw [if_neg h135, if_pos h156, decide_eq_false (fun h => absurd ((lg_cmp_lt _ _).mpr h) (Int32.not_lt.mpr u0))]; rfl) (hq s126 hg hD))
              | (have u0 : ¬ 0 ≤ lg_cmp u (f (pst t σ)).1 := h164
                 exact b_ret t23_188 (by rw [if_neg h135, if_pos h156, decide_eq_true ((lg_cmp_lt _ _).mp (Int32.not_le.mp u0))]; rfl) (hq s126 hg hD))
              | (have u0 : lg_cmp u (f (pst t σ)).1 ≤ 0 := h180
                 exact b_ret t23_188 (by rw [if_neg h135, if_neg h156, decide_eq_false (fun h => absurd ((lg_cmp_gt _ _).mpr h) (Int32.not_lt.mpr u0))]; rfl) (hq s126 hg hD))
              | (have u0 : ¬ lg_cmp u (f (pst t σ)).1 ≤ 0 := h180
                 exact b_ret t23_188 (by rw [if_neg h135, if_neg h156, decide_eq_true ((lg_cmp_gt _ _).mp (Int32.not_le.mp u0))]; rfl) (hq s126 hg hD))
        · refine g_p t23_159 rfl ?_
          refine g_p t23_161 rfl ?_
          refine g_p t23_163 rfl ?_
          refine g_ge t23_164 (fun h164 => ?_) (fun h164 => ?_)
          · refine g_k (n := 0) t23_171 rfl rfl ?_
            refine g_goto t23_172 ?_
            first
              | (have u0 : 0 ≤ lg_cmp u (f (pst t σ)).1 := h164
                 exact b_ret t23_188 (by rw [if_neg h135, if_pos h156, decide_eq_false (fun h => absurd ((lg_cmp_lt _ _).mpr h) (Int32.not_lt.mpr u0))]; rfl) (hq s126 hg hD))
              | (have u0 : ¬ 0 ≤ lg_cmp u (f (pst t σ)).1 := h164
                 exact b_ret t23_188 (by rw [if_neg h135, if_pos h156, decide_eq_true ((lg_cmp_lt _ _).mp (Int32.not_le.mp u0))]; rfl) (hq s126 hg hD))
              | (have u0 : lg_cmp u (f (pst t σ)).1 ≤ 0 := h180
                 exact b_ret t23_188 (by rw [if_neg h135, if_neg h156, decide_eq_false (fun h => absurd ((lg_cmp_gt _ _).mpr h) (Int32.not_lt.mpr u0))]; rfl) (hq s126 hg hD))
              | (have u0 : ¬ lg_cmp u (f (pst t σ)).1 ≤ 0 := h180
                 exact b_ret t23_188 (by rw [if_neg h135, if_neg h156, decide_eq_true ((lg_cmp_gt _ _).mp (Int32.not_le.mp u0))]; rfl) (hq s126 hg hD))
          · refine g_k (n := 1) t23_167 rfl rfl ?_
            refine g_goto t23_168 ?_
            first
              | (have u0 : 0 ≤ lg_cmp u (f (pst t σ)).1 := h164
                 exact b_ret t23_188 (by rw [if_neg h135, if_pos h156, decide_eq_false (fun h => absurd ((lg_cmp_lt _ _).mpr h) (Int32.not_lt.mpr u0))]; rfl) (hq s126 hg hD))
              | (have u0 : ¬ 0 ≤ lg_cmp u (f (pst t σ)).1 := h164
                 exact b_ret t23_188 (by rw [if_neg h135, if_pos h156, decide_eq_true ((lg_cmp_lt _ _).mp (Int32.not_le.mp u0))]; rfl) (hq s126 hg hD))
              | (have u0 : lg_cmp u (f (pst t σ)).1 ≤ 0 := h180
                 exact b_ret t23_188 (by rw [if_neg h135, if_neg h156, decide_eq_false (fun h => absurd ((lg_cmp_gt _ _).mpr h) (Int32.not_lt.mpr u0))]; rfl) (hq s126 hg hD))
              | (have u0 : ¬ lg_cmp u (f (pst t σ)).1 ≤ 0 := h180
                 exact b_ret t23_188 (by rw [if_neg h135, if_neg h156, decide_eq_true ((lg_cmp_gt _ _).mp (Int32.not_le.mp u0))]; rfl) (hq s126 hg hD))
      · refine g_p t23_138 rfl ?_
        refine g_p t23_140 rfl ?_
        refine g_p t23_142 rfl ?_
        refine g_ne t23_143 (fun h143 => ?_) (fun h143 => ?_)
        · refine g_k (n := 0) t23_150 rfl rfl ?_
          first
            | (have u0 : ¬ lg_cmp u (f (pst t σ)).1 = 0 := h143
               exact b_ret t23_151 (by rw [if_pos h135, decide_eq_false (fun h => u0 ((lg_cmp_eq _ _).mpr h))]; rfl) (hq s126 hg hD))
            | exact b_ret t23_151 (by rw [if_pos h135, decide_eq_true ((lg_cmp_eq _ _).mp h143)]; rfl) (hq s126 hg hD)
        · refine g_k (n := 1) t23_146 rfl rfl ?_
          refine g_goto t23_147 ?_
          first
            | (have u0 : ¬ lg_cmp u (f (pst t σ)).1 = 0 := h143
               exact b_ret t23_151 (by rw [if_pos h135, decide_eq_false (fun h => u0 ((lg_cmp_eq _ _).mpr h))]; rfl) (hq s126 hg hD))
            | exact b_ret t23_151 (by rw [if_pos h135, decide_eq_true ((lg_cmp_eq _ _).mp h143)]; rfl) (hq s126 hg hD)
    · exact no_b l1 h111
  · simp only [if_neg l1] at hq
    refine g_ls t23_98 (Nat.le_of_ble_eq_true rfl) (am_s2_6 rfl) ?_
    refine g_p t23_100 rfl ?_
    refine r_cv t23_101 (f15 hF) rfl ?_
    refine c52_15 (by exact hF) (by exact hD.2.2) ?_
    refine k_v ?_ rfl
    refine g_is t23_104 (Nat.le_of_ble_eq_true rfl) (am_s1_8 rfl) ?_
    refine g_p t23_106 rfl ?_
    refine g_cs t23_108 rfl rfl rfl ?_
    refine c20 hlt ?_
    refine k_v ?_ rfl
    refine b_ne t23_111 (fun h111 => ?_) (fun h111 => ?_)
    · exact absurd h111 l1
    · refine g_p t23_114 rfl ?_
      refine r_cv t23_115 (f15 hF) rfl ?_
      refine c59r_15 (by exact hF) hTR (by exact hD)  (fun s115 fr115 hD => ?_)
      have hF := hF.fr fr115.1
      have hg := hg.tr fr115
      refine k_0 ?_
      refine g_k (n := 0) t23_118 rfl rfl ?_
      exact b_ret t23_119 rfl (hq s115 hg hD)
theorem c23b (hTR : T ≠ 15 ∧ T + 1 ≠ 15) (hk : k ≤ 6) (m24 : AtC X T n t a 24 k (d + 1) f) : UnC X T n t a 23 k (d + 2) 1 w (fun σ => lcp t f (w, σ)) := by
  intro s σ Q hF hD ha hq
  have hlt := psg_lt hD.1 σ
  have hg : FR 15 s s := FR.rf
  refine en23 rfl rfl rfl ?_
  refine g_p t23_0 rfl ?_
  refine r_cv t23_1 (f15 hF) rfl ?_
  refine c52_15 (by exact hF) (by exact hD.2.2) ?_
  refine k_v ?_ rfl
  refine g_is t23_4 (Nat.le_of_ble_eq_true rfl) (am_s1_5 rfl) ?_
  refine g_p t23_6 rfl ?_
  refine n_ne t23_7 (by omega) (fun h7 => ?_) (fun h7 => ?_)
  · refine g_p t23_85 rfl ?_
    refine n_eq t23_86 (by omega) (fun h86 => ?_) (fun h86 => ?_)
    · exact absurd h86 (by decide)
    · refine g_p t23_89 rfl ?_
      refine g_goto t23_90 ?_
      exact c23p (z5 := .null) hTR hk m24 hF hD ha hg hq
  · exact absurd h7 (by decide)
theorem c23z (hTR : T ≠ 15 ∧ T + 1 ≠ 15) (m24 : AtC X T n t a 24 6 (d + 1) f) : UnC X T n t a 23 6 (d + 2) 0 w (fun σ => if psg t σ = 33 ∨ psg t σ = 40 then (false, pre σ) else lcp t f (f σ)) := by
  intro s σ Q hF hD ha hq
  have hlt := psg_lt hD.1 σ
  have hg : FR 15 s s := FR.rf
  by_cases l1 : psg t σ = 33 ∨ psg t σ = 40
  · simp only [if_pos l1] at hq
    refine en23 rfl rfl rfl ?_
    refine g_p t23_0 rfl ?_
    refine r_cv t23_1 (f15 hF) rfl ?_
    refine c52_15 (by exact hF) (by exact hD.2.2) ?_
    refine k_v ?_ rfl
    refine g_is t23_4 (Nat.le_of_ble_eq_true rfl) (am_s1_5 rfl) ?_
    refine g_p t23_6 rfl ?_
    refine n_ne t23_7 (by omega) (fun h7 => ?_) (fun h7 => ?_)
    · first
        | (exfalso; omega)
        | exact absurd rfl h7
    · refine g_p t23_10 rfl ?_
      refine g_k (n := 33) t23_12 rfl rfl ?_
      refine n_ceq t23_14 (by omega) (by omega) (fun h14 => ?_) (fun h14 => ?_)
      · refine g_p t23_24 rfl ?_
        refine g_k (n := 6) t23_25 rfl rfl ?_
        refine n_clt t23_27 (by omega) (by omega) (fun h27 => ?_) (fun h27 => ?_)
        · exfalso; omega
        · refine g_p t23_30 rfl ?_
          refine r_cv t23_31 (f15 hF) rfl ?_
          refine c59r_15 (by exact hF) hTR (by exact hD)  (fun s31 fr31 hD => ?_)
          have hF := hF.fr fr31.1
          have hg := hg.tr fr31
          refine k_0 ?_
          refine g_k (n := 0) t23_34 rfl rfl ?_
          exact b_ret t23_35 rfl (hq s31 hg hD)
      · refine g_p t23_17 rfl ?_
        refine g_k (n := 40) t23_19 rfl rfl ?_
        refine n_cne t23_21 (by omega) (by omega) (fun h21 => ?_) (fun h21 => ?_)
        · first
            | (exfalso; omega)
            | exact absurd rfl h7
        · refine g_p t23_24 rfl ?_
          refine g_k (n := 6) t23_25 rfl rfl ?_
          refine n_clt t23_27 (by omega) (by omega) (fun h27 => ?_) (fun h27 => ?_)
          · exfalso; omega
          · refine g_p t23_30 rfl ?_
            refine r_cv t23_31 (f15 hF) rfl ?_
            refine c59r_15 (by exact hF) hTR (by exact hD)  (fun s31 fr31 hD => ?_)
            have hF := hF.fr fr31.1
            have hg := hg.tr fr31
            refine k_0 ?_
            refine g_k (n := 0) t23_34 rfl rfl ?_
            exact b_ret t23_35 rfl (hq s31 hg hD)
  · simp only [if_neg l1] at hq
    refine en23 rfl rfl rfl ?_
    refine g_p t23_0 rfl ?_
    refine r_cv t23_1 (f15 hF) rfl ?_
    refine c52_15 (by exact hF) (by exact hD.2.2) ?_
    refine k_v ?_ rfl
    refine g_is t23_4 (Nat.le_of_ble_eq_true rfl) (am_s1_5 rfl) ?_
    refine g_p t23_6 rfl ?_
    refine n_ne t23_7 (by omega) (fun h7 => ?_) (fun h7 => ?_)
    · refine g_p t23_85 rfl ?_
      refine n_eq t23_86 (by omega) (fun h86 => ?_) (fun h86 => ?_)
      · refine g_p t23_93 rfl ?_
        refine g_p t23_94 rfl ?_
        refine r_cv t23_95 (f15 hF) rfl ?_
        refine m24 _ _ _ (by exact hF) (by exact hD) (fun i h1 h2 => (hg.2 i (Or.inr h1)).trans (ha i h1 h2)) (fun s95 fr95 hD => ?_)
        have hF := hF.fr fr95.1
        have hg := hg.tr fr95
        refine k_v ?_ rfl
        first
          | exact absurd rfl h7
          | exact c23p (z5 := .null) hTR (Nat.le_refl _) m24 hF hD ha hg hq
      · exact absurd rfl h86
    · refine g_p t23_10 rfl ?_
      refine g_k (n := 33) t23_12 rfl rfl ?_
      refine n_ceq t23_14 (by omega) (by omega) (fun h14 => ?_) (fun h14 => ?_)
      · exfalso; omega
      · refine g_p t23_17 rfl ?_
        refine g_k (n := 40) t23_19 rfl rfl ?_
        refine n_cne t23_21 (by omega) (by omega) (fun h21 => ?_) (fun h21 => ?_)
        · refine g_p t23_85 rfl ?_
          refine n_eq t23_86 (by omega) (fun h86 => ?_) (fun h86 => ?_)
          · refine g_p t23_93 rfl ?_
            refine g_p t23_94 rfl ?_
            refine r_cv t23_95 (f15 hF) rfl ?_
            refine m24 _ _ _ (by exact hF) (by exact hD) (fun i h1 h2 => (hg.2 i (Or.inr h1)).trans (ha i h1 h2)) (fun s95 fr95 hD => ?_)
            have hF := hF.fr fr95.1
            have hg := hg.tr fr95
            refine k_v ?_ rfl
            first
              | exact absurd rfl h7
              | exact c23p (z5 := .null) hTR (Nat.le_refl _) m24 hF hD ha hg hq
          · exact absurd rfl h86
        · exfalso; omega
theorem c23s (hTR : T ≠ 15 ∧ T + 1 ≠ 15) (hk : k < 6) (m24 : AtC X T n t a 24 k (d + 1) f) (m23 : UnC X T n t a 23 (k + 1) (d + 1) 0 0 h1) (m21 : UnC X T n t a 21 (k + 1) (d + 1) 0 0 h2) : UnC X T n t a 23 k (d + 2) 0 w (fun σ => if psg t σ = 33 then (!(h1 (pst t σ)).1, (h1 (pst t σ)).2) else if psg t σ = 40 then ((h2 (pst t σ)).1, pne t 41 (h2 (pst t σ)).2) else lcp t f (f σ)) := by
  intro s σ Q hF hD ha hq
  have hlt := psg_lt hD.1 σ
  have hg : FR 15 s s := FR.rf
  by_cases l1 : psg t σ = 33
  · simp only [if_pos l1] at hq
    refine en23 rfl rfl rfl ?_
    refine g_p t23_0 rfl ?_
    refine r_cv t23_1 (f15 hF) rfl ?_
    refine c52_15 (by exact hF) (by exact hD.2.2) ?_
    refine k_v ?_ rfl
    refine g_is t23_4 (Nat.le_of_ble_eq_true rfl) (am_s1_5 rfl) ?_
    refine g_p t23_6 rfl ?_
    refine n_ne t23_7 (by omega) (fun h7 => ?_) (fun h7 => ?_)
    · first
        | (exfalso; omega)
        | exact absurd rfl h7
    · refine g_p t23_10 rfl ?_
      refine g_k (n := 33) t23_12 rfl rfl ?_
      refine n_ceq t23_14 (by omega) (by omega) (fun h14 => ?_) (fun h14 => ?_)
      · refine g_p t23_24 rfl ?_
        refine g_k (n := 6) t23_25 rfl rfl ?_
        refine n_clt t23_27 (by omega) (by omega) (fun h27 => ?_) (fun h27 => ?_)
        · refine g_p t23_36 rfl ?_
          refine r_cv t23_37 (f15 hF) rfl ?_
          refine c53r_15 (by exact hF) hTR (by exact hD) (Or.inl (by omega)) (fun s37 fr37 hD => ?_)
          have hF := hF.fr fr37.1
          have hg := hg.tr fr37
          refine k_0 ?_
          refine g_p t23_40 rfl ?_
          refine g_k (n := 33) t23_42 rfl rfl ?_
          refine n_cne t23_44 (by omega) (by omega) (fun h44 => ?_) (fun h44 => ?_)
          · exfalso; omega
          · refine g_p t23_47 rfl ?_
            refine g_p t23_48 rfl ?_
            refine g_k (n := 1) t23_49 rfl rfl ?_
            refine g_addn t23_50 ?_
            refine g_k (n := 0) t23_51 rfl rfl ?_
            refine g_p t23_52 rfl ?_
            refine r_cv t23_53 (f15 hF) rfl ?_
            refine m23 _ _ _ (by exact hF) (by exact hD) (fun i h1 h2 => (hg.2 i (Or.inr h1)).trans (ha i h1 h2)) (fun s53 fr53 hD => ?_)
            have hF := hF.fr fr53.1
            have hg := hg.tr fr53
            refine k_v ?_ rfl
            refine b_ne t23_56 (fun h56 => ?_) (fun h56 => ?_)
            · refine g_k (n := 0) t23_63 rfl rfl ?_
              exact b_ret t23_64 (by rw [h56]; rfl) (hq s53 hg hD)
            · refine g_k (n := 1) t23_59 rfl rfl ?_
              refine g_goto t23_60 ?_
              exact b_ret t23_64 (by rw [h56]; rfl) (hq s53 hg hD)
        · exfalso; omega
      · exfalso; omega
  · simp only [if_neg l1] at hq
    by_cases l2 : psg t σ = 40
    · simp only [if_pos l2] at hq
      refine en23 rfl rfl rfl ?_
      refine g_p t23_0 rfl ?_
      refine r_cv t23_1 (f15 hF) rfl ?_
      refine c52_15 (by exact hF) (by exact hD.2.2) ?_
      refine k_v ?_ rfl
      refine g_is t23_4 (Nat.le_of_ble_eq_true rfl) (am_s1_5 rfl) ?_
      refine g_p t23_6 rfl ?_
      refine n_ne t23_7 (by omega) (fun h7 => ?_) (fun h7 => ?_)
      · first
          | (exfalso; omega)
          | exact absurd rfl h7
      · refine g_p t23_10 rfl ?_
        refine g_k (n := 33) t23_12 rfl rfl ?_
        refine n_ceq t23_14 (by omega) (by omega) (fun h14 => ?_) (fun h14 => ?_)
        · refine g_p t23_24 rfl ?_
          refine g_k (n := 6) t23_25 rfl rfl ?_
          refine n_clt t23_27 (by omega) (by omega) (fun h27 => ?_) (fun h27 => ?_)
          · refine g_p t23_36 rfl ?_
            refine r_cv t23_37 (f15 hF) rfl ?_
            refine c53r_15 (by exact hF) hTR (by exact hD) (Or.inl (by omega)) (fun s37 fr37 hD => ?_)
            have hF := hF.fr fr37.1
            have hg := hg.tr fr37
            refine k_0 ?_
            refine g_p t23_40 rfl ?_
            refine g_k (n := 33) t23_42 rfl rfl ?_
            refine n_cne t23_44 (by omega) (by omega) (fun h44 => ?_) (fun h44 => ?_)
            · refine g_p t23_65 rfl ?_
              refine g_p t23_66 rfl ?_
              refine g_k (n := 1) t23_67 rfl rfl ?_
              refine g_addn t23_68 ?_
              refine g_k (n := 0) t23_69 rfl rfl ?_
              refine g_p t23_70 rfl ?_
              refine r_cv t23_71 (f15 hF) rfl ?_
              refine m21 _ _ _ (by exact hF) (by exact hD) (fun i h1 h2 => (hg.2 i (Or.inr h1)).trans (ha i h1 h2)) (fun s71 fr71 hD => ?_)
              have hF := hF.fr fr71.1
              have hg := hg.tr fr71
              refine k_v ?_ rfl
              refine g_is t23_74 (Nat.le_of_ble_eq_true rfl) (am_s1_6 rfl) ?_
              refine g_p t23_76 rfl ?_
              refine g_k (n := 41) t23_77 rfl rfl ?_
              refine r_cv t23_79 (f15 hF) rfl ?_
              refine c56_15 (by exact hF) hTR (by exact hD) (w := 41) (by decide) (by decide) (fun s79 fr79 hD => ?_)
              have hF := hF.fr fr79.1
              have hg := hg.tr fr79
              refine k_0 ?_
              refine g_p t23_82 rfl ?_
              exact b_ret t23_84 rfl (hq s79 hg hD)
            · exfalso; omega
          · exfalso; omega
        · refine g_p t23_17 rfl ?_
          refine g_k (n := 40) t23_19 rfl rfl ?_
          refine n_cne t23_21 (by omega) (by omega) (fun h21 => ?_) (fun h21 => ?_)
          · first
              | (exfalso; omega)
              | exact absurd rfl h7
          · refine g_p t23_24 rfl ?_
            refine g_k (n := 6) t23_25 rfl rfl ?_
            refine n_clt t23_27 (by omega) (by omega) (fun h27 => ?_) (fun h27 => ?_)
            · refine g_p t23_36 rfl ?_
              refine r_cv t23_37 (f15 hF) rfl ?_
              refine c53r_15 (by exact hF) hTR (by exact hD) (Or.inl (by omega)) (fun s37 fr37 hD => ?_)
              have hF := hF.fr fr37.1
              have hg := hg.tr fr37
              refine k_0 ?_
              refine g_p t23_40 rfl ?_
              refine g_k (n := 33) t23_42 rfl rfl ?_
              refine n_cne t23_44 (by omega) (by omega) (fun h44 => ?_) (fun h44 => ?_)
              · refine g_p t23_65 rfl ?_
                refine g_p t23_66 rfl ?_
                refine g_k (n := 1) t23_67 rfl rfl ?_
                refine g_addn t23_68 ?_
                refine g_k (n := 0) t23_69 rfl rfl ?_
                refine g_p t23_70 rfl ?_
                refine r_cv t23_71 (f15 hF) rfl ?_
                refine m21 _ _ _ (by exact hF) (by exact hD) (fun i h1 h2 => (hg.2 i (Or.inr h1)).trans (ha i h1 h2)) (fun s71 fr71 hD => ?_)
                have hF := hF.fr fr71.1
                have hg := hg.tr fr71
                refine k_v ?_ rfl
                refine g_is t23_74 (Nat.le_of_ble_eq_true rfl) (am_s1_6 rfl) ?_
                refine g_p t23_76 rfl ?_
                refine g_k (n := 41) t23_77 rfl rfl ?_
                refine r_cv t23_79 (f15 hF) rfl ?_
                refine c56_15 (by exact hF) hTR (by exact hD) (w := 41) (by decide) (by decide) (fun s79 fr79 hD => ?_)
                have hF := hF.fr fr79.1
                have hg := hg.tr fr79
                refine k_0 ?_
                refine g_p t23_82 rfl ?_
                exact b_ret t23_84 rfl (hq s79 hg hD)
              · exfalso; omega
            · exfalso; omega
    · simp only [if_neg l2] at hq
      refine en23 rfl rfl rfl ?_
      refine g_p t23_0 rfl ?_
      refine r_cv t23_1 (f15 hF) rfl ?_
      refine c52_15 (by exact hF) (by exact hD.2.2) ?_
      refine k_v ?_ rfl
      refine g_is t23_4 (Nat.le_of_ble_eq_true rfl) (am_s1_5 rfl) ?_
      refine g_p t23_6 rfl ?_
      refine n_ne t23_7 (by omega) (fun h7 => ?_) (fun h7 => ?_)
      · refine g_p t23_85 rfl ?_
        refine n_eq t23_86 (by omega) (fun h86 => ?_) (fun h86 => ?_)
        · refine g_p t23_93 rfl ?_
          refine g_p t23_94 rfl ?_
          refine r_cv t23_95 (f15 hF) rfl ?_
          refine m24 _ _ _ (by exact hF) (by exact hD) (fun i h1 h2 => (hg.2 i (Or.inr h1)).trans (ha i h1 h2)) (fun s95 fr95 hD => ?_)
          have hF := hF.fr fr95.1
          have hg := hg.tr fr95
          refine k_v ?_ rfl
          first
            | exact absurd rfl h7
            | exact c23p (z5 := .null) hTR (Nat.le_of_lt hk) m24 hF hD ha hg hq
        · exact absurd rfl h86
      · refine g_p t23_10 rfl ?_
        refine g_k (n := 33) t23_12 rfl rfl ?_
        refine n_ceq t23_14 (by omega) (by omega) (fun h14 => ?_) (fun h14 => ?_)
        · exfalso; omega
        · refine g_p t23_17 rfl ?_
          refine g_k (n := 40) t23_19 rfl rfl ?_
          refine n_cne t23_21 (by omega) (by omega) (fun h21 => ?_) (fun h21 => ?_)
          · refine g_p t23_85 rfl ?_
            refine n_eq t23_86 (by omega) (fun h86 => ?_) (fun h86 => ?_)
            · refine g_p t23_93 rfl ?_
              refine g_p t23_94 rfl ?_
              refine r_cv t23_95 (f15 hF) rfl ?_
              refine m24 _ _ _ (by exact hF) (by exact hD) (fun i h1 h2 => (hg.2 i (Or.inr h1)).trans (ha i h1 h2)) (fun s95 fr95 hD => ?_)
              have hF := hF.fr fr95.1
              have hg := hg.tr fr95
              refine k_v ?_ rfl
              first
                | exact absurd rfl h7
                | exact c23p (z5 := .null) hTR (Nat.le_of_lt hk) m24 hF hD ha hg hq
            · exact absurd rfl h86
          · exfalso; omega
theorem c22 (hTR : T ≠ 15 ∧ T + 1 ≠ 15) (h0 : UnC X T n t a 23 k (d + 1) 0 0 h1) (hz : UnC X T n t a 23 k (d + 1) z w h2) : UnC X T n t a 22 k (d + 2) z w (fun σ => anl t h1 120 (h2 σ)) := by
  intro s σ Q hF hD ha hq
  obtain ⟨Z, hZ⟩ : ∃ Z, Z = anl t h1 120 (h2 σ) := ⟨_, rfl⟩
  have hq : ∀ s', FR 15 s s' → RD 15 T n t Z.2 s' → Q (some (.int (bI Z.1))) (mR s') := by rw [hZ]; exact hq
  have K : ∀ (j : Nat) (b : Bool) (τ : Ps) (i : Nat), i + j = 120 → ∀ (z7 : Value) (s' : mM), Z = anl t h1 j (b, τ) → Fx s' → FR 15 s s' → RD 15 T n t τ s' → gG X (d + 2) 22 12 [.ref 15, .int (nI k), .int (nI z), .long w, .float 0, .int (bI b), .int (nI i), z7] [] (mR s') Q := by
    intro j
    induction j with
    | zero =>
      intro b τ i hj z7 s' he hF hg hD
      have he : Z = (b, τ) := he
      rw [he] at hq
      refine g_p t22_12 rfl ?_
      refine g_k (n := 120) t22_14 rfl rfl ?_
      refine n_cge t22_16 (by omega) (by omega) (fun h16 => ?_) (fun h16 => ?_)
      · refine g_p t22_60 rfl ?_
        exact b_ret t22_62 rfl (hq s' hg hD)
      · exfalso; omega
    | succ j ih =>
      intro b τ i hj z7 s' he hF hg hD
      have hlt := psg_lt hD.1 τ
      unfold anl at he
      by_cases l1 : psg t τ = 38
      · rw [if_pos l1] at he
        have hs : psk t 38 τ = pst t τ := if_pos l1
        refine g_p t22_12 rfl ?_
        refine g_k (n := 120) t22_14 rfl rfl ?_
        refine n_cge t22_16 (by omega) (by omega) (fun h16 => ?_) (fun h16 => ?_)
        · first
            | (exfalso; omega)
            | (have u0 := h25; exact no_b (decide_eq_true l1) u0)
        · refine g_p t22_19 rfl ?_
          refine g_k (n := 38) t22_20 rfl rfl ?_
          refine r_cv t22_22 (f15 hF) rfl ?_
          refine c55_15 (by exact hF) hTR (by exact hD) (w := 38) (by decide) (by decide) (fun s22 fr22 hD => ?_)
          have hF := hF.fr fr22.1
          have hg := hg.tr fr22
          rw [hs] at hD
          refine k_v ?_ rfl
          refine b_eq t22_25 (fun h25 => ?_) (fun h25 => ?_)
          · first
              | (exfalso; omega)
              | (have u0 := h25; exact no_b (decide_eq_true l1) u0)
          · refine g_p t22_28 rfl ?_
            refine g_p t22_29 rfl ?_
            refine g_k (n := 0) t22_30 rfl rfl ?_
            refine g_p t22_31 rfl ?_
            refine r_cv t22_32 (f15 hF) rfl ?_
            refine h0 _ _ _ (by exact hF) (by exact hD) (fun i h1 h2 => (hg.2 i (Or.inr h1)).trans (ha i h1 h2)) (fun s32 fr32 hD => ?_)
            have hF := hF.fr fr32.1
            have hg := hg.tr fr32
            refine k_v ?_ rfl
            refine g_is t22_35 (Nat.le_of_ble_eq_true rfl) (am_s1_7 rfl) ?_
            refine g_p t22_37 rfl ?_
            refine b_eq t22_39 (fun h39 => ?_) (fun h39 => ?_)
            · refine g_k (n := 0) t22_51 rfl rfl ?_
              refine g_is t22_52 (Nat.le_of_ble_eq_true rfl) (am_s1_5 rfl) ?_
              refine g_incn (n := 1) t22_54 rfl rfl (Nat.le_of_ble_eq_true rfl) (am_s1_6 rfl) ?_
              refine g_goto t22_57 ?_
              first
                | (have u0 := h44
                   have he2 := he
                   simp only [h39, u0] at he2
                   exact ih _ _ (i + 1) (by omega) _ s32 he2 hF hg hD)
                | (have u0 := h39
                   have he2 := he
                   simp only [u0, Bool.true_or, Bool.false_and] at he2
                   exact ih _ _ (i + 1) (by omega) _ s32 he2 hF hg hD)
            · refine g_p t22_42 rfl ?_
              refine b_eq t22_44 (fun h44 => ?_) (fun h44 => ?_)
              · refine g_k (n := 0) t22_51 rfl rfl ?_
                refine g_is t22_52 (Nat.le_of_ble_eq_true rfl) (am_s1_5 rfl) ?_
                refine g_incn (n := 1) t22_54 rfl rfl (Nat.le_of_ble_eq_true rfl) (am_s1_6 rfl) ?_
                refine g_goto t22_57 ?_
                first
                  | (have u0 := h44
                     have he2 := he
                     simp only [h39, u0] at he2
                     exact ih _ _ (i + 1) (by omega) _ s32 he2 hF hg hD)
                  | (have u0 := h39
                     have he2 := he
                     simp only [u0, Bool.true_or, Bool.false_and] at he2
                     exact ih _ _ (i + 1) (by omega) _ s32 he2 hF hg hD)
              · refine g_k (n := 1) t22_47 rfl rfl ?_
                refine g_goto t22_48 ?_
                refine g_is t22_52 (Nat.le_of_ble_eq_true rfl) (am_s1_5 rfl) ?_
                refine g_incn (n := 1) t22_54 rfl rfl (Nat.le_of_ble_eq_true rfl) (am_s1_6 rfl) ?_
                refine g_goto t22_57 ?_
                first
                  | (have u0 := h44
                     have he2 := he
                     simp only [h39, u0] at he2
                     exact ih _ _ (i + 1) (by omega) _ s32 he2 hF hg hD)
                  | (have u0 := h39
                     have he2 := he
                     simp only [u0, Bool.true_or, Bool.false_and] at he2
                     exact ih _ _ (i + 1) (by omega) _ s32 he2 hF hg hD)
      · rw [if_neg l1] at he
        have he : Z = (b, τ) := he
        rw [he] at hq
        have hs : psk t 38 τ = τ := if_neg l1
        refine g_p t22_12 rfl ?_
        refine g_k (n := 120) t22_14 rfl rfl ?_
        refine n_cge t22_16 (by omega) (by omega) (fun h16 => ?_) (fun h16 => ?_)
        · refine g_p t22_60 rfl ?_
          first
            | (exfalso; omega)
            | exact b_ret t22_62 rfl (hq s22 hg hD)
        · refine g_p t22_19 rfl ?_
          refine g_k (n := 38) t22_20 rfl rfl ?_
          refine r_cv t22_22 (f15 hF) rfl ?_
          refine c55_15 (by exact hF) hTR (by exact hD) (w := 38) (by decide) (by decide) (fun s22 fr22 hD => ?_)
          have hF := hF.fr fr22.1
          have hg := hg.tr fr22
          rw [hs] at hD
          refine k_v ?_ rfl
          refine b_eq t22_25 (fun h25 => ?_) (fun h25 => ?_)
          · refine g_p t22_60 rfl ?_
            first
              | (exfalso; omega)
              | exact b_ret t22_62 rfl (hq s22 hg hD)
          · exact absurd (of_decide_eq_true h25) l1
  have hg : FR 15 s s := FR.rf
  refine en22 rfl rfl rfl ?_
  refine g_p t22_0 rfl ?_
  refine g_p t22_1 rfl ?_
  refine g_p t22_2 rfl ?_
  refine g_p t22_3 rfl ?_
  refine r_cv t22_4 (f15 hF) rfl ?_
  refine hz _ _ _ (by exact hF) (by exact hD) (fun i h1 h2 => (hg.2 i (Or.inr h1)).trans (ha i h1 h2)) (fun s4 fr4 hD => ?_)
  have hF := hF.fr fr4.1
  have hg := hg.tr fr4
  refine k_v ?_ rfl
  refine g_is t22_7 (Nat.le_of_ble_eq_true rfl) (am_s1_5 rfl) ?_
  refine g_k (n := 0) t22_9 rfl rfl ?_
  refine g_is t22_10 (Nat.le_of_ble_eq_true rfl) (am_s1_6 rfl) ?_
  exact K 120 _ _ 0 rfl _ s4 hZ hF hg hD
theorem c21 (hTR : T ≠ 15 ∧ T + 1 ≠ 15) (h0 : UnC X T n t a 22 k (d + 1) 0 0 h1) (hz : UnC X T n t a 22 k (d + 1) z w h2) : UnC X T n t a 21 k (d + 2) z w (fun σ => orl t h1 120 (h2 σ)) := by
  intro s σ Q hF hD ha hq
  obtain ⟨Z, hZ⟩ : ∃ Z, Z = orl t h1 120 (h2 σ) := ⟨_, rfl⟩
  have hq : ∀ s', FR 15 s s' → RD 15 T n t Z.2 s' → Q (some (.int (bI Z.1))) (mR s') := by rw [hZ]; exact hq
  have K : ∀ (j : Nat) (b : Bool) (τ : Ps) (i : Nat), i + j = 120 → ∀ (z7 : Value) (s' : mM), Z = orl t h1 j (b, τ) → Fx s' → FR 15 s s' → RD 15 T n t τ s' → gG X (d + 2) 21 12 [.ref 15, .int (nI k), .int (nI z), .long w, .float 0, .int (bI b), .int (nI i), z7] [] (mR s') Q := by
    intro j
    induction j with
    | zero =>
      intro b τ i hj z7 s' he hF hg hD
      have he : Z = (b, τ) := he
      rw [he] at hq
      refine g_p t21_12 rfl ?_
      refine g_k (n := 120) t21_14 rfl rfl ?_
      refine n_cge t21_16 (by omega) (by omega) (fun h16 => ?_) (fun h16 => ?_)
      · refine g_p t21_60 rfl ?_
        exact b_ret t21_62 rfl (hq s' hg hD)
      · exfalso; omega
    | succ j ih =>
      intro b τ i hj z7 s' he hF hg hD
      have hlt := psg_lt hD.1 τ
      unfold orl at he
      by_cases l1 : psg t τ = 124
      · rw [if_pos l1] at he
        have hs : psk t 124 τ = pst t τ := if_pos l1
        refine g_p t21_12 rfl ?_
        refine g_k (n := 120) t21_14 rfl rfl ?_
        refine n_cge t21_16 (by omega) (by omega) (fun h16 => ?_) (fun h16 => ?_)
        · first
            | (exfalso; omega)
            | (have u0 := h25; exact no_b (decide_eq_true l1) u0)
        · refine g_p t21_19 rfl ?_
          refine g_k (n := 124) t21_20 rfl rfl ?_
          refine r_cv t21_22 (f15 hF) rfl ?_
          refine c55_15 (by exact hF) hTR (by exact hD) (w := 124) (by decide) (by decide) (fun s22 fr22 hD => ?_)
          have hF := hF.fr fr22.1
          have hg := hg.tr fr22
          rw [hs] at hD
          refine k_v ?_ rfl
          refine b_eq t21_25 (fun h25 => ?_) (fun h25 => ?_)
          · first
              | (exfalso; omega)
              | (have u0 := h25; exact no_b (decide_eq_true l1) u0)
          · refine g_p t21_28 rfl ?_
            refine g_p t21_29 rfl ?_
            refine g_k (n := 0) t21_30 rfl rfl ?_
            refine g_p t21_31 rfl ?_
            refine r_cv t21_32 (f15 hF) rfl ?_
            refine h0 _ _ _ (by exact hF) (by exact hD) (fun i h1 h2 => (hg.2 i (Or.inr h1)).trans (ha i h1 h2)) (fun s32 fr32 hD => ?_)
            have hF := hF.fr fr32.1
            have hg := hg.tr fr32
            refine k_v ?_ rfl
            refine g_is t21_35 (Nat.le_of_ble_eq_true rfl) (am_s1_7 rfl) ?_
            refine g_p t21_37 rfl ?_
            refine b_ne t21_39 (fun h39 => ?_) (fun h39 => ?_)
            · refine g_k (n := 1) t21_47 rfl rfl ?_
              refine g_goto t21_48 ?_
              refine g_is t21_52 (Nat.le_of_ble_eq_true rfl) (am_s1_5 rfl) ?_
              refine g_incn (n := 1) t21_54 rfl rfl (Nat.le_of_ble_eq_true rfl) (am_s1_6 rfl) ?_
              refine g_goto t21_57 ?_
              first
                | (have u0 := h44
                   have he2 := he
                   simp only [h39, u0] at he2
                   exact ih _ _ (i + 1) (by omega) _ s32 he2 hF hg hD)
                | (have u0 := h39
                   have he2 := he
                   simp only [u0, Bool.true_or, Bool.false_and] at he2
                   exact ih _ _ (i + 1) (by omega) _ s32 he2 hF hg hD)
            · refine g_p t21_42 rfl ?_
              refine b_eq t21_44 (fun h44 => ?_) (fun h44 => ?_)
              · refine g_k (n := 0) t21_51 rfl rfl ?_
                refine g_is t21_52 (Nat.le_of_ble_eq_true rfl) (am_s1_5 rfl) ?_
                refine g_incn (n := 1) t21_54 rfl rfl (Nat.le_of_ble_eq_true rfl) (am_s1_6 rfl) ?_
                refine g_goto t21_57 ?_
                first
                  | (have u0 := h44
                     have he2 := he
                     simp only [h39, u0] at he2
                     exact ih _ _ (i + 1) (by omega) _ s32 he2 hF hg hD)
                  | (have u0 := h39
                     have he2 := he
                     simp only [u0, Bool.true_or, Bool.false_and] at he2
                     exact ih _ _ (i + 1) (by omega) _ s32 he2 hF hg hD)
              · refine g_k (n := 1) t21_47 rfl rfl ?_
                refine g_goto t21_48 ?_
                refine g_is t21_52 (Nat.le_of_ble_eq_true rfl) (am_s1_5 rfl) ?_
                refine g_incn (n := 1) t21_54 rfl rfl (Nat.le_of_ble_eq_true rfl) (am_s1_6 rfl) ?_
                refine g_goto t21_57 ?_
                first
                  | (have u0 := h44
                     have he2 := he
                     simp only [h39, u0] at he2
                     exact ih _ _ (i + 1) (by omega) _ s32 he2 hF hg hD)
                  | (have u0 := h39
                     have he2 := he
                     simp only [u0, Bool.true_or, Bool.false_and] at he2
                     exact ih _ _ (i + 1) (by omega) _ s32 he2 hF hg hD)
      · rw [if_neg l1] at he
        have he : Z = (b, τ) := he
        rw [he] at hq
        have hs : psk t 124 τ = τ := if_neg l1
        refine g_p t21_12 rfl ?_
        refine g_k (n := 120) t21_14 rfl rfl ?_
        refine n_cge t21_16 (by omega) (by omega) (fun h16 => ?_) (fun h16 => ?_)
        · refine g_p t21_60 rfl ?_
          first
            | (exfalso; omega)
            | exact b_ret t21_62 rfl (hq s22 hg hD)
        · refine g_p t21_19 rfl ?_
          refine g_k (n := 124) t21_20 rfl rfl ?_
          refine r_cv t21_22 (f15 hF) rfl ?_
          refine c55_15 (by exact hF) hTR (by exact hD) (w := 124) (by decide) (by decide) (fun s22 fr22 hD => ?_)
          have hF := hF.fr fr22.1
          have hg := hg.tr fr22
          rw [hs] at hD
          refine k_v ?_ rfl
          refine b_eq t21_25 (fun h25 => ?_) (fun h25 => ?_)
          · refine g_p t21_60 rfl ?_
            first
              | (exfalso; omega)
              | exact b_ret t21_62 rfl (hq s22 hg hD)
          · exact absurd (of_decide_eq_true h25) l1
  have hg : FR 15 s s := FR.rf
  refine en21 rfl rfl rfl ?_
  refine g_p t21_0 rfl ?_
  refine g_p t21_1 rfl ?_
  refine g_p t21_2 rfl ?_
  refine g_p t21_3 rfl ?_
  refine r_cv t21_4 (f15 hF) rfl ?_
  refine hz _ _ _ (by exact hF) (by exact hD) (fun i h1 h2 => (hg.2 i (Or.inr h1)).trans (ha i h1 h2)) (fun s4 fr4 hD => ?_)
  have hF := hF.fr fr4.1
  have hg := hg.tr fr4
  refine k_v ?_ rfl
  refine g_is t21_7 (Nat.le_of_ble_eq_true rfl) (am_s1_5 rfl) ?_
  refine g_k (n := 0) t21_9 rfl rfl ?_
  refine g_is t21_10 (Nat.le_of_ble_eq_true rfl) (am_s1_6 rfl) ?_
  exact K 120 _ _ 0 rfl _ s4 hZ hF hg hD
theorem c23L (hTR : T ≠ 15 ∧ T + 1 ≠ 15) : ∀ (e k d : Nat), k + e = 6 → UnC X T n t a 23 k (d + 3 * e + 5) 0 w (un1 t (fun e => lsm t (lat t a e)) e) := by
  intro e
  induction e generalizing w with
  | zero =>
    intro k d hk
    have : k = 6 := by omega
    subst this
    exact c23z hTR (c24L (d := d) hTR (e := 0) rfl)
  | succ e ih =>
    intro k d hk
    exact c23s (d := d + 3 * e + 6) hTR (by omega) (c24L (d := d) (e := e + 1) hTR (by omega)) (by
      have l9 := ih (w := 0) (k + 1) (d + 2) (by omega)
      rw [show d + 2 + 3 * e + 5 = d + 3 * e + 6 + 1 by omega] at l9
      exact l9) (c21 hTR (c22 hTR (ih (k + 1) d (by omega)) (ih (k + 1) d (by omega))) (c22 hTR (ih (k + 1) d (by omega)) (ih (k + 1) d (by omega))))
/-- conditions at the outside: begun by a worth, and not begun -/
def lse (t : List Nat) (a : Nat → Int32) : Ps → LV := lsm t (lat t a 6)
def lun (t : List Nat) (a : Nat → Int32) : Ps → BV := un1 t (fun e => lsm t (lat t a e)) 6
theorem c24_0 (hTR : T ≠ 15 ∧ T + 1 ≠ 15) : AtC X T n t a 24 0 (d + 22) (lse t a) := c24L (e := 6) (k := 0) hTR rfl
theorem c21_0 (hTR : T ≠ 15 ∧ T + 1 ≠ 15) : UnC X T n t a 21 0 (d + 25) 0 w (fun σ => cnd t (lun t a) (lun t a σ)) := c21 hTR (c22 hTR (c23L hTR 6 0 d rfl) (c23L hTR 6 0 d rfl)) (c22 hTR (c23L hTR 6 0 d rfl) (c23L hTR 6 0 d rfl))
theorem c21_1 (hTR : T ≠ 15 ∧ T + 1 ≠ 15) : UnC X T n t a 21 0 (d + 25) 1 w (fun σ => cnd t (lun t a) (lcp t (lse t a) (w, σ))) := c21 hTR (c22 hTR (c23L hTR 6 0 d rfl) (c23L hTR 6 0 d rfl)) (c22 hTR (c23L hTR 6 0 d rfl) (c23b (d := d + 21) hTR (by decide) (c24L (d := d) (e := 6) (k := 0) hTR rfl)))
end TS
