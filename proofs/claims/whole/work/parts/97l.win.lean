/-! THE WINDOW: FlowerPots$Window -/
theorem CR.fr {A : List Nat} {P : Nat} {s s' : mM} (h : CR P s) (f : Fr A s s') (ha : ∀ p ∈ rA, p ∉ A) : CR P s' := by
  obtain ⟨h1, h2, h3, h4, h5, h6, h7, h8⟩ := h
  refine ⟨(f.ri (ha 19 (by decide))).trans h1, (f.ri (ha 19 (by decide))).trans h2, h3, fun c q hc hq => (f.ri (ha 21 (by decide))).trans (h4 c q hc hq), fun q hq => (f.ri (ha 23 (by decide))).trans (h5 q hq), fun c hc => (f.ri (ha 25 (by decide))).trans (h6 c hc), fun c hc => (f.ri (ha 27 (by decide))).trans (h7 c hc), fun c hc => blk_fr (h8 c hc) (f.ri (ha 29 (by decide))) (fun i _ => f.ri (ha 31 (by decide)))⟩
abbrev Act : Type := Nat × Nat × Nat
def CW (r w pd row day left : Nat) (s : mM) : Prop := ri s 32 1 = nI r ∧ ri s 32 2 = nI w ∧ ri s 32 3 = nI pd ∧ ri s 32 4 = nI row ∧ ri s 32 5 = nI day ∧ ri s 32 6 = nI left
theorem CW.fr {A : List Nat} {r w pd row day left : Nat} {s s' : mM} (h : CW r w pd row day left s) (f : Fr A s s') (ha : 32 ∉ A) : CW r w pd row day left s' := by
  obtain ⟨h1, h2, h3, h4, h5, h6⟩ := h
  exact ⟨(f.ri ha).trans h1, (f.ri ha).trans h2, (f.ri ha).trans h3, (f.ri ha).trans h4, (f.ri ha).trans h5, (f.ri ha).trans h6⟩
def CA (acts : List Act) (s : mM) : Prop := NL s 35 (acts.map fun a => a.1) ∧ NL s 37 (acts.map fun a => a.2.1) ∧ NL s 39 (acts.map fun a => a.2.2) ∧ acts.length ≤ 60
abbrev aA : List Nat := [35, 36, 37, 38, 39, 40]
theorem CA.fr {A : List Nat} {acts : List Act} {s s' : mM} (h : CA acts s) (f : Fr A s s') (ha : ∀ p ∈ aA, p ∉ A) : CA acts s' :=
  ⟨h.1.fr f (ha 35 (by decide)) (ha 36 (by decide)), h.2.1.fr f (ha 37 (by decide)) (ha 38 (by decide)), h.2.2.1.fr f (ha 39 (by decide)) (ha 40 (by decide)), h.2.2.2⟩
/-- the diary of a window whose rows lie at p -/
def CD (p day : Nat) (di : Nat → Nat) (s : mM) : Prop := ∀ k, k < day → ri s p k = nI (di k)
theorem CD.fr {A : List Nat} {p day : Nat} {di : Nat → Nat} {s s' : mM} (h : CD p day di s) (f : Fr A s s') (ha : p ∉ A) : CD p day di s' := fun k hk => (f.ri ha).trans (h k hk)
/-- an act more, sixty at most -/
def act60 (l : List Act) (a : Act) : List Act := if l.length < 60 then l ++ [a] else l.tail ++ [a]
theorem act60_len {l : List Act} {a : Act} (h : l.length ≤ 60) : (act60 l a).length ≤ 60 := by
  unfold act60
  split
  · simp; omega
  · simp; omega
section WI
variable {X : am_X} {d : Nat} {s : mM} {Q : Option Value → am_H → Prop} {P r w pd row day left : Nat} {acts : List Act} {di : Nat → Nat} {a : Int32}
theorem c96 (hF : Fx s) (e : ri s 32 4 = a) (hq : Q (some (.int a)) (mR s)) : gE X d 96 [.ref 32] (mR s) Q := by
  refine en96 rfl ?_
  refine g_p t96_0 rfl ?_
  refine r_gete t96_1 (f32 hF) rfl rfl e ?_
  exact i_ret t96_4 rfl hq
theorem c97 (hF : Fx s) (e : ri s 32 5 = a) (hq : Q (some (.int a)) (mR s)) : gE X d 97 [.ref 32] (mR s) Q := by
  refine en97 rfl ?_
  refine g_p t97_0 rfl ?_
  refine r_gete t97_1 (f32 hF) rfl rfl e ?_
  exact i_ret t97_4 rfl hq
theorem c98 (hF : Fx s) (e : ri s 32 6 = a) (hq : Q (some (.int a)) (mR s)) : gE X d 98 [.ref 32] (mR s) Q := by
  refine en98 rfl ?_
  refine g_p t98_0 rfl ?_
  refine r_gete t98_1 (f32 hF) rfl rfl e ?_
  exact i_ret t98_4 rfl hq
theorem c99 (hF : Fx s) (e : ri s 32 3 = a) (hq : Q (some (.int a)) (mR s)) : gE X d 99 [.ref 32] (mR s) Q := by
  refine en99 rfl ?_
  refine g_p t99_0 rfl ?_
  refine r_gete t99_1 (f32 hF) rfl rfl e ?_
  exact i_ret t99_4 rfl hq
theorem c100 (hF : Fx s) {x : Int32} (e1 : ri s 32 1 = nI r) (e2 : ri s 32 2 = nI w) (hq : Q (some (.int (nI (if x = 1 then r else w)))) (mR s)) : gE X d 100 [.ref 32, .int x] (mR s) Q := by
  refine en100 rfl rfl ?_
  refine g_p t100_0 rfl ?_
  refine g_k (n := 1) t100_1 rfl rfl ?_
  refine g_cne t100_2 (fun h2 => ?_) (fun h2 => ?_)
  · refine g_p t100_12 rfl ?_
    refine r_gete t100_13 (f32 hF) rfl rfl e2 ?_
    exact i_ret t100_16 (by first | (rw [if_neg (show ¬ x = 1 from h2)]) | (rw [if_pos (show x = 1 from h2)])) hq
  · refine g_p t100_5 rfl ?_
    refine r_gete t100_6 (f32 hF) rfl rfl e1 ?_
    refine g_goto t100_9 ?_
    exact i_ret t100_16 (by first | (rw [if_neg (show ¬ x = 1 from h2)]) | (rw [if_pos (show x = 1 from h2)])) hq
theorem c101 (hF : Fx s) (hR : CR P s) {x : Int32} (e1 : ri s 32 1 = nI r) (e2 : ri s 32 2 = nI w) (e4 : ri s 32 4 = nI row) (hr : row < mn P) (hq : Q (some (.int (if x = 1 then nI r - nI (cn P row 1) else nI w - nI (cn P row 2)))) (mR s)) : gE X (d + 2) 101 [.ref 32, .int x] (mR s) Q := by
  refine en101 rfl rfl ?_
  refine g_p t101_0 rfl ?_
  refine g_k (n := 1) t101_1 rfl rfl ?_
  refine g_cne t101_2 (fun h2 => ?_) (fun h2 => ?_)
  · refine g_p t101_24 rfl ?_
    refine r_gete t101_25 (f32 hF) rfl rfl e2 ?_
    refine g_p t101_28 rfl ?_
    refine r_getr t101_29 (f32 hF) rfl rfl ?_
    refine g_p t101_32 rfl ?_
    refine r_gete t101_33 (f32 hF) rfl rfl e4 ?_
    refine r_cv t101_36 (f19 hF) rfl ?_
    refine c79 hF (Nat.lt_of_lt_of_le hr (mn_le hR.2.2.1)) (hR.2.2.2.2.2.2.1 _ hr) ?_
    refine k_v ?_ rfl
    refine g_isub t101_39 ?_
    exact i_ret t101_40 (by first | (rw [if_neg (show ¬ x = 1 from h2)]) | (rw [if_pos (show x = 1 from h2)])) hq
  · refine g_p t101_5 rfl ?_
    refine r_gete t101_6 (f32 hF) rfl rfl e1 ?_
    refine g_p t101_9 rfl ?_
    refine r_getr t101_10 (f32 hF) rfl rfl ?_
    refine g_p t101_13 rfl ?_
    refine r_gete t101_14 (f32 hF) rfl rfl e4 ?_
    refine r_cv t101_17 (f19 hF) rfl ?_
    refine c78 hF (Nat.lt_of_lt_of_le hr (mn_le hR.2.2.1)) (hR.2.2.2.2.2.1 _ hr) ?_
    refine k_v ?_ rfl
    refine g_isub t101_20 ?_
    refine g_goto t101_21 ?_
    exact i_ret t101_40 (by first | (rw [if_neg (show ¬ x = 1 from h2)]) | (rw [if_pos (show x = 1 from h2)])) hq
theorem c102 (hF : Fx s) (hR : CR P s) {q : Nat} (e4 : ri s 32 4 = nI row) (hr : row < mn P) (hqP : q < P) (hq : Q (some (.int (nI (pt P row q)))) (mR s)) : gE X (d + 2) 102 [.ref 32, .int (nI q)] (mR s) Q := by
  refine en102 rfl rfl ?_
  refine g_p t102_0 rfl ?_
  refine r_getr t102_1 (f32 hF) rfl rfl ?_
  refine g_p t102_4 rfl ?_
  refine r_gete t102_5 (f32 hF) rfl rfl e4 ?_
  refine g_p t102_8 rfl ?_
  refine r_cv t102_9 (f19 hF) rfl ?_
  refine c77 (by exact hF) (c5q hR.2.2.1 hr hqP) (hR.2.2.2.1 _ _ hr hqP) ?_
  refine k_v ?_ rfl
  exact i_ret t102_12 rfl hq
theorem c103 (hF : Fx s) (hR : CR P s) {c : Nat} (hc31 : c < 2 ^ 31) (e1 : ri s 32 1 = nI r) (e2 : ri s 32 2 = nI w) (hr31 : r ≤ 5) (hw31 : w ≤ 5) (hq : Q (some (.int (bI (std P r w c)))) (mR s)) : gE X (d + 2) 103 [.ref 32, .int (nI c)] (mR s) Q := by
  have hm := mn_le hR.2.2.1
  have hP5 := hR.2.2.1
  have hn1 := cn_le P c 1
  have hn2 := cn_le P c 2
  refine en103 rfl rfl ?_
  refine g_p t103_0 rfl ?_
  refine n_lt t103_1 (by omega) ?_
  refine g_p t103_4 rfl ?_
  refine g_p t103_5 rfl ?_
  refine r_getr t103_6 (f32 hF) rfl rfl ?_
  refine r_cv t103_9 (f19 hF) rfl ?_
  refine c76 (by exact hF) hR.2.1 ?_
  refine k_v ?_ rfl
  refine n_cge t103_12 (by omega) (by omega) (fun h12 => ?_) (fun h12 => ?_)
  · refine g_k (n := 0) t103_49 rfl rfl ?_
    exact b_ret t103_50 (by first | (rw [std_f1 h12]; rfl) | (rw [std_f2 h27]; rfl) | (rw [std_f3 h42]; rfl) | (rw [std_of (Nat.lt_of_not_le h12) (Nat.le_of_not_lt h27) (Nat.le_of_not_lt h42)]; rfl)) hq
  · refine g_p t103_15 rfl ?_
    refine r_getr t103_16 (f32 hF) rfl rfl ?_
    refine g_p t103_19 rfl ?_
    refine r_cv t103_20 (f19 hF) rfl ?_
    refine c78 hF (Nat.lt_of_lt_of_le (Nat.lt_of_not_le h12) (mn_le hR.2.2.1)) (hR.2.2.2.2.2.1 _ (Nat.lt_of_not_le h12)) ?_
    refine k_v ?_ rfl
    refine g_p t103_23 rfl ?_
    refine r_gete t103_24 (f32 hF) rfl rfl e1 ?_
    refine n_cgt t103_27 (by omega) (by omega) (fun h27 => ?_) (fun h27 => ?_)
    · refine g_k (n := 0) t103_49 rfl rfl ?_
      exact b_ret t103_50 (by first | (rw [std_f1 h12]; rfl) | (rw [std_f2 h27]; rfl) | (rw [std_f3 h42]; rfl) | (rw [std_of (Nat.lt_of_not_le h12) (Nat.le_of_not_lt h27) (Nat.le_of_not_lt h42)]; rfl)) hq
    · refine g_p t103_30 rfl ?_
      refine r_getr t103_31 (f32 hF) rfl rfl ?_
      refine g_p t103_34 rfl ?_
      refine r_cv t103_35 (f19 hF) rfl ?_
      refine c79 hF (Nat.lt_of_lt_of_le (Nat.lt_of_not_le h12) (mn_le hR.2.2.1)) (hR.2.2.2.2.2.2.1 _ (Nat.lt_of_not_le h12)) ?_
      refine k_v ?_ rfl
      refine g_p t103_38 rfl ?_
      refine r_gete t103_39 (f32 hF) rfl rfl e2 ?_
      refine n_cgt t103_42 (by omega) (by omega) (fun h42 => ?_) (fun h42 => ?_)
      · refine g_k (n := 0) t103_49 rfl rfl ?_
        exact b_ret t103_50 (by first | (rw [std_f1 h12]; rfl) | (rw [std_f2 h27]; rfl) | (rw [std_f3 h42]; rfl) | (rw [std_of (Nat.lt_of_not_le h12) (Nat.le_of_not_lt h27) (Nat.le_of_not_lt h42)]; rfl)) hq
      · refine g_k (n := 1) t103_45 rfl rfl ?_
        refine g_goto t103_46 ?_
        exact b_ret t103_50 (by first | (rw [std_f1 h12]; rfl) | (rw [std_f2 h27]; rfl) | (rw [std_f3 h42]; rfl) | (rw [std_of (Nat.lt_of_not_le h12) (Nat.le_of_not_lt h27) (Nat.le_of_not_lt h42)]; rfl)) hq
theorem c103m (hF : Fx s) (hq : Q (some (.int (bI false))) (mR s)) : gE X (d + 2) 103 [.ref 32, .int (-1)] (mR s) Q := by
  refine en103 rfl rfl ?_
  refine g_p t103_0 rfl ?_
  refine g_lt t103_1 (fun h1 => ?_) (fun h1 => ?_)
  · refine g_k (n := 0) t103_49 rfl rfl ?_
    exact b_ret t103_50 rfl hq
  · exact absurd (show (-1 : Int32) < 0 by decide) h1
theorem c105 (hF : Fx s) {x : Int32} (e5 : ri s 32 5 = nI day) (hd : day ≤ 60) (hq : Q (some (.int (bI (decide (x ≤ nI (60 - day)))))) (mR s)) : gE X d 105 [.ref 32, .int x] (mR s) Q := by
  refine en105 rfl rfl ?_
  refine g_p t105_0 rfl ?_
  refine g_k (n := 60) t105_1 rfl rfl ?_
  refine g_p t105_3 rfl ?_
  refine r_gete t105_4 (f32 hF) rfl rfl e5 ?_
  refine g_subn t105_7 (by omega) ?_
  refine g_cgt t105_8 (fun h8 => ?_) (fun h8 => ?_)
  · refine g_k (n := 0) t105_15 rfl rfl ?_
    exact b_ret t105_16 (by first | (rw [decide_eq_false (Int32.not_le.mpr h8)]; rfl) | (rw [decide_eq_true (Int32.not_lt.mp h8)]; rfl)) hq
  · refine g_k (n := 1) t105_11 rfl rfl ?_
    refine g_goto t105_12 ?_
    exact b_ret t105_16 (by first | (rw [decide_eq_false (Int32.not_le.mpr h8)]; rfl) | (rw [decide_eq_true (Int32.not_lt.mp h8)]; rfl)) hq
theorem c109 (hF : Fx s) {x : Int32} (e5 : ri s 32 5 = nI day) (hd : day ≤ 60) (hq : Q (some (.int (bI (inN day x)))) (mR s)) : gE X d 109 [.ref 32, .int x] (mR s) Q := by
  refine en109 rfl rfl ?_
  refine g_p t109_0 rfl ?_
  refine g_lt t109_1 (fun h1 => ?_) (fun h1 => ?_)
  · refine g_k (n := 0) t109_16 rfl rfl ?_
    exact b_ret t109_17 (by first | (rw [inN_f1 h1]; rfl) | (rw [inN_f2 h9]; rfl) | (rw [inN_tt h1 h9]; rfl)) hq
  · refine g_p t109_4 rfl ?_
    refine g_p t109_5 rfl ?_
    refine r_gete t109_6 (f32 hF) rfl rfl e5 ?_
    refine g_cge t109_9 (fun h9 => ?_) (fun h9 => ?_)
    · refine g_k (n := 0) t109_16 rfl rfl ?_
      exact b_ret t109_17 (by first | (rw [inN_f1 h1]; rfl) | (rw [inN_f2 h9]; rfl) | (rw [inN_tt h1 h9]; rfl)) hq
    · refine g_k (n := 1) t109_12 rfl rfl ?_
      refine g_goto t109_13 ?_
      exact b_ret t109_17 (by first | (rw [inN_f1 h1]; rfl) | (rw [inN_f2 h9]; rfl) | (rw [inN_tt h1 h9]; rfl)) hq
theorem c110 (hF : Fx s) {k : Nat} (hD : CD 34 day di s) (hk : k < day) (hd : day ≤ 60) (hq : Q (some (.int (nI (di k)))) (mR s)) : gE X (d + 1) 110 [.ref 32, .int (nI k)] (mR s) Q := by
  refine en110 rfl rfl ?_
  refine g_p t110_0 rfl ?_
  refine r_getr t110_1 (f32 hF) rfl rfl ?_
  refine g_p t110_4 rfl ?_
  refine r_cv t110_5 (f33 hF) rfl ?_
  refine c30e (by exact fN33 hF) (by omega) (hD k hk) ?_
  refine k_v ?_ rfl
  exact i_ret t110_8 rfl hq
theorem c113 (hF : Fx s) (hA : CA acts s) (hq : Q (some (.int (nI acts.length))) (mR s)) : gE X (d + 1) 113 [.ref 32] (mR s) Q := by
  have ha := hA.1
  refine en113 rfl ?_
  refine g_p t113_0 rfl ?_
  refine r_getr t113_1 (f32 hF) rfl rfl ?_
  refine r_cv t113_4 (f35 hF) rfl ?_
  refine c29L (by exact fN35 hF) (by exact ha) ?_
  refine k_v ?_ rfl
  exact i_ret t113_7 (by rw [List.length_map]) hq
theorem c114 (hF : Fx s) (hA : CA acts s) (hq : ∀ s', Fr aA s s' → CA [] s' → Q none (mR s')) : gE X (d + 1) 114 [.ref 32] (mR s) Q := by
  obtain ⟨ha, hb, hc, hl⟩ := hA
  have la : (acts.map fun a => a.1).length = acts.length := List.length_map ..
  have lb : (acts.map fun a => a.2.1).length = acts.length := List.length_map ..
  have lc : (acts.map fun a => a.2.2).length = acts.length := List.length_map ..
  refine en114 rfl ?_
  refine g_p t114_0 rfl ?_
  refine r_getr t114_1 (f32 hF) rfl rfl ?_
  refine g_k (n := 0) t114_4 rfl rfl ?_
  refine r_cv t114_5 (f35 hF) rfl ?_
  refine c34L (by exact fN35 hF) (by exact ha) (by omega) (by omega) (fun s5 fr5 ha => ?_)
  refine k_0 ?_
  have hF := Fx.fr (by exact hF) fr5
  have hb := NL.fr (p := 37) (by exact hb) fr5 (by decide) (by decide)
  have hc := NL.fr (p := 39) (by exact hc) fr5 (by decide) (by decide)
  refine g_p t114_8 rfl ?_
  refine r_getr t114_9 (f32 hF) rfl rfl ?_
  refine g_k (n := 0) t114_12 rfl rfl ?_
  refine r_cv t114_13 (f37 hF) rfl ?_
  refine c34L (by exact fN37 hF) (by exact hb) (by omega) (by omega) (fun s13 fr13 hb => ?_)
  refine k_0 ?_
  have hF := Fx.fr (by exact hF) fr13
  have ha := NL.fr (p := 35) (by exact ha) fr13 (by decide) (by decide)
  have hc := NL.fr (p := 39) (by exact hc) fr13 (by decide) (by decide)
  refine g_p t114_16 rfl ?_
  refine r_getr t114_17 (f32 hF) rfl rfl ?_
  refine g_k (n := 0) t114_20 rfl rfl ?_
  refine r_cv t114_21 (f39 hF) rfl ?_
  refine c34L (by exact fN39 hF) (by exact hc) (by omega) (by omega) (fun s21 fr21 hc => ?_)
  refine k_0 ?_
  have hF := Fx.fr (by exact hF) fr21
  have ha := NL.fr (p := 35) (by exact ha) fr21 (by decide) (by decide)
  have hb := NL.fr (p := 37) (by exact hb) fr21 (by decide) (by decide)
  exact v_ret t114_24 (hq _ ((fr5.mono (by decide)).tr ((fr13.mono (by decide)).tr (fr21.mono (by decide)))) ⟨ha, hb, hc, Nat.zero_le _⟩)
theorem c111 (hF : Fx s) (hA : CA acts s) (e4 : ri s 32 4 = nI row) (e5 : ri s 32 5 = nI day) (e6 : ri s 32 6 = nI left) (hq : ∀ s', Fr aA s s' → CA (act60 acts (row, day, left)) s' → Q none (mR s')) : gE X (d + 1) 111 [.ref 32] (mR s) Q := by
  obtain ⟨ha, hb, hc, hl⟩ := hA
  by_cases h60 : acts.length < 60
  · have la : (acts.map fun a => a.1).length = acts.length := List.length_map ..
    have lb : (acts.map fun a => a.2.1).length = acts.length := List.length_map ..
    have lc : (acts.map fun a => a.2.2).length = acts.length := List.length_map ..
    have e : act60 acts (row, day, left) = acts ++ [(row, day, left)] := if_pos h60
    rw [e] at hq
    refine en111 rfl ?_
    refine g_p t111_0 rfl ?_
    refine r_getr t111_1 (f32 hF) rfl rfl ?_
    refine r_cv t111_4 (f35 hF) rfl ?_
    refine c29L (by exact fN35 hF) (by exact ha) ?_
    refine k_v ?_ rfl
    refine g_k (n := 60) t111_7 rfl rfl ?_
    refine n_clt t111_9 (by omega) (by omega) (fun h9 => ?_) (fun h9 => ?_)
    · refine g_p t111_33 rfl ?_
      refine r_getr t111_34 (f32 hF) rfl rfl ?_
      refine g_p t111_37 rfl ?_
      refine r_gete t111_38 (f32 hF) rfl rfl e4 ?_
      refine r_cv t111_41 (f35 hF) rfl ?_
      refine c33L (by exact fN35 hF) (by exact ha) (by omega) (fun s41 fr41 ha => ?_)
      refine k_v ?_ rfl
      have hF := Fx.fr (by exact hF) fr41
      have e4 := (fr41.ri (p := 32) (i := 4) (by decide)).trans e4
      have e5 := (fr41.ri (p := 32) (i := 5) (by decide)).trans e5
      have e6 := (fr41.ri (p := 32) (i := 6) (by decide)).trans e6
      have hb := NL.fr (p := 37) (by exact hb) fr41 (by decide) (by decide)
      have hc := NL.fr (p := 39) (by exact hc) fr41 (by decide) (by decide)
      refine g_p t111_44 rfl ?_
      refine g_p t111_45 rfl ?_
      refine r_getr t111_46 (f32 hF) rfl rfl ?_
      refine g_p t111_49 rfl ?_
      refine r_gete t111_50 (f32 hF) rfl rfl e5 ?_
      refine r_cv t111_53 (f37 hF) rfl ?_
      refine c33L (by exact fN37 hF) (by exact hb) (by omega) (fun s53 fr53 hb => ?_)
      refine k_v ?_ rfl
      have hF := Fx.fr (by exact hF) fr53
      have e4 := (fr53.ri (p := 32) (i := 4) (by decide)).trans e4
      have e5 := (fr53.ri (p := 32) (i := 5) (by decide)).trans e5
      have e6 := (fr53.ri (p := 32) (i := 6) (by decide)).trans e6
      have ha := NL.fr (p := 35) (by exact ha) fr53 (by decide) (by decide)
      have hc := NL.fr (p := 39) (by exact hc) fr53 (by decide) (by decide)
      refine g_p t111_56 rfl ?_
      refine g_p t111_57 rfl ?_
      refine r_getr t111_58 (f32 hF) rfl rfl ?_
      refine g_p t111_61 rfl ?_
      refine r_gete t111_62 (f32 hF) rfl rfl e6 ?_
      refine r_cv t111_65 (f39 hF) rfl ?_
      refine c33L (by exact fN39 hF) (by exact hc) (by omega) (fun s65 fr65 hc => ?_)
      refine k_v ?_ rfl
      have hF := Fx.fr (by exact hF) fr65
      have e4 := (fr65.ri (p := 32) (i := 4) (by decide)).trans e4
      have e5 := (fr65.ri (p := 32) (i := 5) (by decide)).trans e5
      have e6 := (fr65.ri (p := 32) (i := 6) (by decide)).trans e6
      have ha := NL.fr (p := 35) (by exact ha) fr65 (by decide) (by decide)
      have hb := NL.fr (p := 37) (by exact hb) fr65 (by decide) (by decide)
      refine g_p t111_68 rfl ?_
      exact v_ret t111_69 (hq _ ((fr41.mono (by decide)).tr ((fr53.mono (by decide)).tr (fr65.mono (by decide)))) ⟨by rw [List.map_append]; exact ha, by rw [List.map_append]; exact hb, by rw [List.map_append]; exact hc, by rw [List.length_append]; exact h60⟩)
    · exfalso; omega
  · cases acts with
    | nil => exact absurd (by decide) h60
    | cons b t =>
      have e : act60 (b :: t) (row, day, left) = t ++ [(row, day, left)] := if_neg h60
      rw [e] at hq
      simp only [List.map_cons, List.length_cons] at ha hb hc hl h60
      have la : (t.map fun a => a.1).length = t.length := List.length_map ..
      have lb : (t.map fun a => a.2.1).length = t.length := List.length_map ..
      have lc : (t.map fun a => a.2.2).length = t.length := List.length_map ..
      have lx : (b.1 :: t.map fun a => a.1).length = t.length + 1 := by rw [List.length_cons, la]
      refine en111 rfl ?_
      refine g_p t111_0 rfl ?_
      refine r_getr t111_1 (f32 hF) rfl rfl ?_
      refine r_cv t111_4 (f35 hF) rfl ?_
      refine c29L (by exact fN35 hF) (by exact ha) ?_
      refine k_v ?_ rfl
      refine g_k (n := 60) t111_7 rfl rfl ?_
      refine n_clt t111_9 (by omega) (by omega) (fun h9 => ?_) (fun h9 => ?_)
      · exfalso; omega
      · refine g_p t111_12 rfl ?_
        refine r_getr t111_13 (f32 hF) rfl rfl ?_
        refine r_cv t111_16 (f35 hF) rfl ?_
        refine c35L (by exact fN35 hF) (by exact ha) (by omega) (fun s16 fr16 ha => ?_)
        refine k_0 ?_
        have hF := Fx.fr (by exact hF) fr16
        have e4 := (fr16.ri (p := 32) (i := 4) (by decide)).trans e4
        have e5 := (fr16.ri (p := 32) (i := 5) (by decide)).trans e5
        have e6 := (fr16.ri (p := 32) (i := 6) (by decide)).trans e6
        have hb := NL.fr (p := 37) (by exact hb) fr16 (by decide) (by decide)
        have hc := NL.fr (p := 39) (by exact hc) fr16 (by decide) (by decide)
        refine g_p t111_19 rfl ?_
        refine r_getr t111_20 (f32 hF) rfl rfl ?_
        refine r_cv t111_23 (f37 hF) rfl ?_
        refine c35L (by exact fN37 hF) (by exact hb) (by omega) (fun s23 fr23 hb => ?_)
        refine k_0 ?_
        have hF := Fx.fr (by exact hF) fr23
        have e4 := (fr23.ri (p := 32) (i := 4) (by decide)).trans e4
        have e5 := (fr23.ri (p := 32) (i := 5) (by decide)).trans e5
        have e6 := (fr23.ri (p := 32) (i := 6) (by decide)).trans e6
        have ha := NL.fr (p := 35) (by exact ha) fr23 (by decide) (by decide)
        have hc := NL.fr (p := 39) (by exact hc) fr23 (by decide) (by decide)
        refine g_p t111_26 rfl ?_
        refine r_getr t111_27 (f32 hF) rfl rfl ?_
        refine r_cv t111_30 (f39 hF) rfl ?_
        refine c35L (by exact fN39 hF) (by exact hc) (by omega) (fun s30 fr30 hc => ?_)
        refine k_0 ?_
        have hF := Fx.fr (by exact hF) fr30
        have e4 := (fr30.ri (p := 32) (i := 4) (by decide)).trans e4
        have e5 := (fr30.ri (p := 32) (i := 5) (by decide)).trans e5
        have e6 := (fr30.ri (p := 32) (i := 6) (by decide)).trans e6
        have ha := NL.fr (p := 35) (by exact ha) fr30 (by decide) (by decide)
        have hb := NL.fr (p := 37) (by exact hb) fr30 (by decide) (by decide)
        refine g_p t111_33 rfl ?_
        refine r_getr t111_34 (f32 hF) rfl rfl ?_
        refine g_p t111_37 rfl ?_
        refine r_gete t111_38 (f32 hF) rfl rfl e4 ?_
        refine r_cv t111_41 (f35 hF) rfl ?_
        refine c33L (by exact fN35 hF) (by exact ha) (by omega) (fun s41 fr41 ha => ?_)
        refine k_v ?_ rfl
        have hF := Fx.fr (by exact hF) fr41
        have e4 := (fr41.ri (p := 32) (i := 4) (by decide)).trans e4
        have e5 := (fr41.ri (p := 32) (i := 5) (by decide)).trans e5
        have e6 := (fr41.ri (p := 32) (i := 6) (by decide)).trans e6
        have hb := NL.fr (p := 37) (by exact hb) fr41 (by decide) (by decide)
        have hc := NL.fr (p := 39) (by exact hc) fr41 (by decide) (by decide)
        refine g_p t111_44 rfl ?_
        refine g_p t111_45 rfl ?_
        refine r_getr t111_46 (f32 hF) rfl rfl ?_
        refine g_p t111_49 rfl ?_
        refine r_gete t111_50 (f32 hF) rfl rfl e5 ?_
        refine r_cv t111_53 (f37 hF) rfl ?_
        refine c33L (by exact fN37 hF) (by exact hb) (by omega) (fun s53 fr53 hb => ?_)
        refine k_v ?_ rfl
        have hF := Fx.fr (by exact hF) fr53
        have e4 := (fr53.ri (p := 32) (i := 4) (by decide)).trans e4
        have e5 := (fr53.ri (p := 32) (i := 5) (by decide)).trans e5
        have e6 := (fr53.ri (p := 32) (i := 6) (by decide)).trans e6
        have ha := NL.fr (p := 35) (by exact ha) fr53 (by decide) (by decide)
        have hc := NL.fr (p := 39) (by exact hc) fr53 (by decide) (by decide)
        refine g_p t111_56 rfl ?_
        refine g_p t111_57 rfl ?_
        refine r_getr t111_58 (f32 hF) rfl rfl ?_
        refine g_p t111_61 rfl ?_
        refine r_gete t111_62 (f32 hF) rfl rfl e6 ?_
        refine r_cv t111_65 (f39 hF) rfl ?_
        refine c33L (by exact fN39 hF) (by exact hc) (by omega) (fun s65 fr65 hc => ?_)
        refine k_v ?_ rfl
        have hF := Fx.fr (by exact hF) fr65
        have e4 := (fr65.ri (p := 32) (i := 4) (by decide)).trans e4
        have e5 := (fr65.ri (p := 32) (i := 5) (by decide)).trans e5
        have e6 := (fr65.ri (p := 32) (i := 6) (by decide)).trans e6
        have ha := NL.fr (p := 35) (by exact ha) fr65 (by decide) (by decide)
        have hb := NL.fr (p := 37) (by exact hb) fr65 (by decide) (by decide)
        refine g_p t111_68 rfl ?_
        first
          | (exfalso; omega)
          | exact v_ret t111_69 (hq _ ((fr16.mono (by decide)).tr ((fr23.mono (by decide)).tr ((fr30.mono (by decide)).tr ((fr41.mono (by decide)).tr ((fr53.mono (by decide)).tr (fr65.mono (by decide))))))) ⟨by rw [List.map_append]; exact ha, by rw [List.map_append]; exact hb, by rw [List.map_append]; exact hc, by rw [List.length_append]; simp; omega⟩)
end WI
