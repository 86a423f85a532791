/-! THE REFERENCE, 3: its acts -/
def MW (P r w pd row day left : Nat) (s : mM) : Prop := ri s 80 20 = nI P ∧ ri s 80 21 = nI pd ∧ ri s 80 33 = nI row ∧ ri s 80 34 = nI day ∧ ri s 80 35 = nI left ∧ ri s 85 1 = nI r ∧ ri s 85 2 = nI w
theorem MW.fm {A B : List Nat} {P r w pd row day left : Nat} {s s' : mM} (h : MW P r w pd row day left s) (f : FM A B s s') (h1 : 20 ∉ B) (h2 : 21 ∉ B) (h3 : 33 ∉ B) (h4 : 34 ∉ B) (h5 : 35 ∉ B) (h6 : 85 ∉ 80 :: A) : MW P r w pd row day left s' :=
  ⟨(f.f h1).trans h.1, (f.f h2).trans h.2.1, (f.f h3).trans h.2.2.1, (f.f h4).trans h.2.2.2.1, (f.f h5).trans h.2.2.2.2.1, (f.g h6).trans h.2.2.2.2.2.1, (f.g h6).trans h.2.2.2.2.2.2⟩
abbrev a0 : Act := (0, 0, 0)
def MA (acts : List Act) (s : mM) : Prop := ri s 80 40 = nI acts.length ∧ acts.length ≤ 60 ∧ ∀ k, k < acts.length → ri s 94 k = nI (acts.getD k a0).1 ∧ ri s 95 k = nI (acts.getD k a0).2.2 ∧ ri s 96 k = nI (acts.getD k a0).2.1
theorem MA.fm {A B : List Nat} {acts : List Act} {s s' : mM} (h : MA acts s) (f : FM A B s s') (h1 : 40 ∉ B) (h2 : 94 ∉ 80 :: A) (h3 : 95 ∉ 80 :: A) (h4 : 96 ∉ 80 :: A) : MA acts s' :=
  ⟨(f.f h1).trans h.1, h.2.1, fun k hk => ⟨(f.g h2).trans (h.2.2 k hk).1, (f.g h3).trans (h.2.2 k hk).2.1, (f.g h4).trans (h.2.2 k hk).2.2⟩⟩
theorem gDa1 {α : Type} {l m : List α} {k : Nat} {d : α} (h : k < l.length) : (l ++ m).getD k d = l.getD k d := by simp only [List.getD, List.getElem?_append_left h]
theorem gDa2 {α : Type} {l : List α} {v d : α} : (l ++ [v]).getD l.length d = v := by simp [List.getD]
abbrev mAa : List Nat := [94, 95, 96]
section RK
variable {X : am_X} {d : Nat} {s : mM} {hp : am_H} {Q : Option Value → am_H → Prop} {P c q k v r w pd row day left : Nat} {acts : List Act} {x y : Int32} {di : Nat → Nat} {b : Bk} {bks : List Bk}
theorem c223a (hF : Fx s) (hA : MA acts s) (l60 : acts.length + 1 ≤ 60) (e33 : ri s 80 33 = nI row) (e34 : ri s 80 34 = nI day) (e35 : ri s 80 35 = nI left) {s0 : mM} (hf : FM mAa [40] s0 s) (hq : ∀ s', FM mAa [40] s0 s' → MA (acts ++ [(row, day, left)]) s' → Q none (mR s')) {z : Value} : gG X d 223 75 [.ref 80, z] [] (mR s) Q := by
  have e40 := hA.1
  refine g_p t223_75 rfl ?_
  refine r_getr t223_76 (f80 hF) rfl rfl ?_
  refine g_p t223_79 rfl ?_
  refine r_gete t223_80 (f80 hF) rfl rfl e40 ?_
  refine g_p t223_83 rfl ?_
  refine r_gete t223_84 (f80 hF) rfl rfl e33 ?_
  refine r_iast t223_87 (f94 hF) (by decide) (by omega) ?_
  refine g_p t223_88 rfl ?_
  refine r_getr t223_89 (f80 hF) rfl rfl ?_
  refine g_p t223_92 rfl ?_
  refine r_gete t223_93 (f80 hF) rfl rfl e40 ?_
  refine g_p t223_96 rfl ?_
  refine r_gete t223_97 (f80 hF) rfl rfl e35 ?_
  refine r_iast t223_100 (f95 hF) (by decide) (by omega) ?_
  refine g_p t223_101 rfl ?_
  refine r_getr t223_102 (f80 hF) rfl rfl ?_
  refine g_p t223_105 rfl ?_
  refine r_gete t223_106 (f80 hF) rfl rfl e40 ?_
  refine g_p t223_109 rfl ?_
  refine r_gete t223_110 (f80 hF) rfl rfl e34 ?_
  refine r_iast t223_113 (f96 hF) (by decide) (by omega) ?_
  refine g_p t223_114 rfl ?_
  refine g_p t223_115 rfl ?_
  refine r_gete t223_116 (f80 hF) rfl rfl e40 ?_
  refine g_k (n := 1) t223_119 rfl rfl ?_
  refine g_addn t223_120 ?_
  refine r_puti t223_121 (f80 hF) rfl rfl ?_
  refine v_ret t223_124 (hq _ ((((hf.w (by decide) (by decide)).w (by decide) (by decide)).w (by decide) (by decide)).m (by decide)) ⟨?_, ?_, fun k hk => ?_⟩)
  · rw [List.length_append]; rfl
  · rw [List.length_append]; exact l60
  · rw [List.length_append] at hk
    by_cases h9 : k < acts.length
    · rw [gDa1 h9]
      rw [ri_wi_ne (by decide), ri_wi_ne (by decide), ri_wi_ne (by decide), ri_wi_j (Nat.ne_of_lt h9), ri_wi_ne (by decide), ri_wi_ne (by decide), ri_wi_j (Nat.ne_of_lt h9), ri_wi_ne (by decide), ri_wi_ne (by decide), ri_wi_j (Nat.ne_of_lt h9), ri_wi_ne (by decide), ri_wi_ne (by decide)]
      exact hA.2.2 k h9
    · have h9 : k = acts.length := by simp at hk; omega
      subst h9
      rw [gDa2]
      refine ⟨?_, ?_, ?_⟩
      · rw [ri_wi_ne (by decide), ri_wi_ne (by decide), ri_wi_ne (by decide), ri_wi_eq]
      · rw [ri_wi_ne (by decide), ri_wi_ne (by decide), ri_wi_eq]
      · rw [ri_wi_ne (by decide), ri_wi_eq]
theorem c223 (hF : Fx s) (hA : MA acts s) (e33 : ri s 80 33 = nI row) (e34 : ri s 80 34 = nI day) (e35 : ri s 80 35 = nI left) (hq : ∀ s', FM mAa [40] s s' → MA (act60 acts (row, day, left)) s' → Q none (mR s')) : gE X d 223 [.ref 80] (mR s) Q := by
  have e40 := hA.1
  have h60 := hA.2.1
  by_cases h6 : acts.length < 60
  · have e : act60 acts (row, day, left) = acts ++ [(row, day, left)] := if_pos h6
    rw [e] at hq
    refine en223 rfl ?_
    refine g_p t223_0 rfl ?_
    refine r_gete t223_1 (f80 hF) rfl rfl e40 ?_
    refine g_k (n := 60) t223_4 rfl rfl ?_
    refine n_cne t223_6 (by omega) (by omega) (fun h6 => ?_) (fun h6 => ?_)
    · exact c223a hF hA (by omega) e33 e34 e35 FM.rf hq
    · exfalso; omega
  · cases acts with
    | nil => exact absurd (by decide) h6
    | cons b t =>
      have e : act60 (b :: t) (row, day, left) = t ++ [(row, day, left)] := if_neg h6
      rw [e] at hq
      have lt : t.length = 59 := by simp only [List.length_cons] at h6 h60; omega
      have L : ∀ j k : Nat, k + j = 60 → 0 < k → ∀ s', FM mAa [40] s s' → ri s' 80 40 = ri s 80 40 → (∀ p, p = 94 ∨ p = 95 ∨ p = 96 → ∀ i, ri s' p i = if i + 1 < k then ri s p (i + 1) else ri s p i) → gG X d 223 11 [.ref 80, .int (nI k)] [] (mR s') Q := by
        intro j
        induction j with
        | zero =>
          intro k hk hk0 s' hf e4 hs
          have hk : k = 60 := by omega
          subst hk
          have hF := hF.fr hf.1
          have e33 := (hf.f (i := 33) (by decide)).trans e33
          have e34 := (hf.f (i := 34) (by decide)).trans e34
          have e35 := (hf.f (i := 35) (by decide)).trans e35
          have e40 := e4.trans e40
          refine g_p t223_11 rfl ?_
          refine g_k (n := 60) t223_12 rfl rfl ?_
          refine n_cge t223_14 (by omega) (by omega) (fun h14 => ?_) (fun h14 => ?_)
          · refine g_p t223_65 rfl ?_
            refine g_p t223_66 rfl ?_
            refine r_gete t223_67 (f80 hF) rfl rfl e40 ?_
            refine g_k (n := 1) t223_70 rfl rfl ?_
            refine g_subn t223_71 (by simp) ?_
            refine r_puti t223_72 (f80 hF) rfl rfl ?_
            refine c223a (s := wi s' 80 40 _) (hF.fr (A := [80]) (Fr.rf.wi (by decide))) ?_ (by omega) e33 e34 e35 (hf.m (by decide)) hq
            refine ⟨?_, by omega, fun k hk => ?_⟩
            · rw [ri_wi_eq, List.length_cons]; rfl
            · have h9 := hA.2.2 (k + 1) (by simp; omega)
              rw [ri_wi_ne (by decide), ri_wi_ne (by decide), ri_wi_ne (by decide), hs 94 (Or.inl rfl), hs 95 (Or.inr (Or.inl rfl)), hs 96 (Or.inr (Or.inr rfl)), if_pos (by omega), if_pos (by omega), if_pos (by omega)]
              exact h9
          · exfalso; omega
        | succ j ih =>
          intro k hk hk0 s' hf e4 hs
          have hF := hF.fr hf.1
          refine g_p t223_11 rfl ?_
          refine g_k (n := 60) t223_12 rfl rfl ?_
          refine n_cge t223_14 (by omega) (by omega) (fun h14 => ?_) (fun h14 => ?_)
          · exfalso; omega
          · refine g_p t223_17 rfl ?_
            refine r_getr t223_18 (f80 hF) rfl rfl ?_
            refine g_p t223_21 rfl ?_
            refine g_k (n := 1) t223_22 rfl rfl ?_
            refine g_subn t223_23 (by omega) ?_
            refine g_p t223_24 rfl ?_
            refine r_getr t223_25 (f80 hF) rfl rfl ?_
            refine g_p t223_28 rfl ?_
            refine r_iald t223_29 (f94 hF) (by decide) (by omega) ?_
            refine r_iast t223_30 (f94 hF) (by decide) (by omega) ?_
            refine g_p t223_31 rfl ?_
            refine r_getr t223_32 (f80 hF) rfl rfl ?_
            refine g_p t223_35 rfl ?_
            refine g_k (n := 1) t223_36 rfl rfl ?_
            refine g_subn t223_37 (by omega) ?_
            refine g_p t223_38 rfl ?_
            refine r_getr t223_39 (f80 hF) rfl rfl ?_
            refine g_p t223_42 rfl ?_
            refine r_iald t223_43 (f95 hF) (by decide) (by omega) ?_
            refine r_iast t223_44 (f95 hF) (by decide) (by omega) ?_
            refine g_p t223_45 rfl ?_
            refine r_getr t223_46 (f80 hF) rfl rfl ?_
            refine g_p t223_49 rfl ?_
            refine g_k (n := 1) t223_50 rfl rfl ?_
            refine g_subn t223_51 (by omega) ?_
            refine g_p t223_52 rfl ?_
            refine r_getr t223_53 (f80 hF) rfl rfl ?_
            refine g_p t223_56 rfl ?_
            refine r_iald t223_57 (f96 hF) (by decide) (by omega) ?_
            refine r_iast t223_58 (f96 hF) (by decide) (by omega) ?_
            refine g_incn (n := 1) t223_59 rfl rfl (Nat.le_of_ble_eq_true rfl) (am_s1_1 rfl) ?_
            refine g_goto t223_62 ?_
            refine ih (k + 1) (by omega) (by omega) _ (((hf.w (by decide) (by decide)).w (by decide) (by decide)).w (by decide) (by decide)) e4 (fun p hp i => ?_)
            have h8 := hs p hp
            have hk8 := h8 k
            rw [if_neg (by omega)] at hk8
            have hi8 := h8 i
            by_cases h9 : i = k - 1
            · rw [if_pos (by omega), show i + 1 = k by omega]
              subst h9
              rcases hp with rfl | rfl | rfl
              · rw [ri_wi_ne (by decide), ri_wi_ne (by decide), ri_wi_eq]; exact hk8
              · rw [ri_wi_ne (by decide), ri_wi_eq, ri_wi_ne (by decide)]; exact hk8
              · rw [ri_wi_eq, ri_wi_ne (by decide), ri_wi_ne (by decide)]; exact hk8
            · have h7 : (if i + 1 < k + 1 then ri s p (i + 1) else ri s p i) = if i + 1 < k then ri s p (i + 1) else ri s p i := by
                by_cases h5 : i + 1 < k
                · rw [if_pos h5, if_pos (by omega)]
                · rw [if_neg h5, if_neg (by omega)]
              rw [h7, ri_wi_j h9, ri_wi_j h9, ri_wi_j h9]
              exact hi8
      refine en223 rfl ?_
      refine g_p t223_0 rfl ?_
      refine r_gete t223_1 (f80 hF) rfl rfl e40 ?_
      refine g_k (n := 60) t223_4 rfl rfl ?_
      refine n_cne t223_6 (by omega) (by omega) (fun h6 => ?_) (fun h6 => ?_)
      · exfalso; simp at *; omega
      · refine g_k (n := 1) t223_9 rfl rfl ?_
        refine g_isn t223_10 (Nat.le_of_ble_eq_true rfl) (am_s1_1 rfl) ?_
        exact L 59 1 (by omega) (by omega) s FM.rf rfl (fun p hp i => by rw [if_neg (by omega)])
theorem MW.w0 {s : mM} {v : Int32} (h : MW P r w pd row day left s) : MW P r w pd row day left (wi s 80 0 v) := h
theorem MA.w0 {s : mM} {v : Int32} (h : MA acts s) : MA acts (wi s 80 0 v) := h
abbrev mAb : List Nat := [0, 33, 35, 40]
theorem c224 (hF : Fx s) (hW : MW P r w pd row day left s) (hA : MA acts s) (hl : 0 < left) {s0 : mM} (hf : FM mAa mAb s0 s) (hq : ∀ s', FM mAa mAb s0 s' → MA (act60 acts (row, day, left)) s' → MW P r w pd c day (left - 1) s' → Q (some (.int (nI (left - 1)))) (mR s')) : gE X (d + 1) 224 [.ref 80, .int (nI c)] (mR s) Q := by
  obtain ⟨m0, e21, e33, e34, e35, p1, p2⟩ := hW
  refine en224 rfl rfl ?_
  refine g_p t224_0 rfl ?_
  refine r_cv t224_1 (f80 hF) rfl ?_
  refine c223 (by exact hF) hA e33 e34 e35 (fun s1 f1 hA => ?_)
  refine k_0 ?_
  have hF := Fx.fr (by exact hF) f1.1
  have m0 := (f1.f (i := 20) (by decide)).trans m0
  have e33 := (f1.f (i := 33) (by decide)).trans e33
  have e35 := (f1.f (i := 35) (by decide)).trans e35
  have e34 := (f1.f (i := 34) (by decide)).trans e34
  have e21 := (f1.f (i := 21) (by decide)).trans e21
  have p1 := (f1.g (p := 85) (i := 1) (by decide)).trans p1
  have p2 := (f1.g (p := 85) (i := 2) (by decide)).trans p2
  refine g_p t224_4 rfl ?_
  refine g_p t224_5 rfl ?_
  refine r_puti t224_6 (f80 hF) rfl rfl ?_
  refine g_p t224_9 rfl ?_
  refine g_p t224_10 rfl ?_
  refine r_gete t224_11 (f80 hF) rfl rfl e35 ?_
  refine g_k (n := 1) t224_14 rfl rfl ?_
  refine g_subn t224_15 hl ?_
  refine r_puti t224_16 (f80 hF) rfl rfl ?_
  refine g_p t224_19 rfl ?_
  refine r_gete t224_20 (f80 hF) rfl rfl rfl ?_
  refine i_ret t224_23 rfl (hq _ (hf.tr (((f1.mono (by decide) (by decide)).m (by decide)).m (by decide))) hA ⟨m0, e21, rfl, e34, rfl, p1, p2⟩)
theorem isR_S {x : Int32} : isR 1 2 x = isS x := by
  unfold isR isS
  by_cases h1 : x = 1
  · subst h1; decide
  · by_cases h2 : x = 2
    · subst h2; decide
    · have : ¬ (1 ≤ x ∧ x ≤ 2) := by
        rintro ⟨h3, h4⟩
        have h3 := Int32.le_iff_toInt_le.mp h3
        have h4 := Int32.le_iff_toInt_le.mp h4
        have e1 : (1 : Int32).toInt = 1 := rfl
        have e2 : (2 : Int32).toInt = 2 := rfl
        rw [e1] at h3
        rw [e2] at h4
        have : x.toInt = 1 ∨ x.toInt = 2 := by omega
        rcases this with h | h
        · exact h1 (Int32.toInt_inj.mp h)
        · exact h2 (Int32.toInt_inj.mp h)
      rw [decide_eq_false h1, decide_eq_false h2, ← Bool.decide_and, decide_eq_false this]; rfl
theorem isR_H {x : Int32} : isR 0 1 x = isH x := by
  unfold isR isH
  by_cases h1 : x = 0
  · subst h1; decide
  · by_cases h2 : x = 1
    · subst h2; decide
    · have : ¬ (0 ≤ x ∧ x ≤ 1) := by
        rintro ⟨h3, h4⟩
        have h3 := Int32.le_iff_toInt_le.mp h3
        have h4 := Int32.le_iff_toInt_le.mp h4
        have e1 : (0 : Int32).toInt = 0 := rfl
        have e2 : (1 : Int32).toInt = 1 := rfl
        rw [e1] at h3
        rw [e2] at h4
        have : x.toInt = 0 ∨ x.toInt = 1 := by omega
        rcases this with h | h
        · exact h1 (Int32.toInt_inj.mp h)
        · exact h2 (Int32.toInt_inj.mp h)
      rw [decide_eq_false h1, decide_eq_false h2, ← Bool.decide_and, decide_eq_false this]; rfl
theorem MW.po {s : mM} (h : MW P r w pd row day left s) {k : Nat} (hk : k = 1 ∨ k = 2) : ri s 85 k = nI (if k = 1 then r else w) := by
  obtain ⟨-, -, -, -, -, h1, h2⟩ := h
  rcases hk with rfl | rfl
  · exact h1
  · exact h2
theorem rc {P r w row : Nat} (hst : 0 < P → std P r w row = true) (hP5 : P ≤ 5) (hP0 : 0 < P) : row < 243 := Nat.lt_of_lt_of_le (std_t (hst hP0)).1 (mn_le hP5)
theorem cn_k {P r w row k : Nat} (h : std P r w row = true) (hk : k = 1 ∨ k = 2) : cn P row k ≤ if k = 1 then r else w := by
  obtain ⟨-, h1, h2⟩ := std_t h
  rcases hk with rfl | rfl
  · exact h1
  · exact h2
theorem i_tail {X : am_X} {d y pc nx : Nat} {ls st : List Value} {v : Int32} {s : mM} {Q : Option Value → am_H → Prop} {i : ClassFile.Instr} {r : List Nat} {k : Value} (g : gG X (d + 1) y nx ls (.int v :: st) (mR s) Q) : am_thr (some (.int v)) = false ∧ gG X (d + 1) y nx ls ((some (Value.int v)).toList ++ st) (mR s) Q := ⟨rfl, g⟩
theorem c225t (hF : Fx s) (hP5 : P ≤ 5) (hW : MW P r w pd row day left s) (hA : MA acts s) (hst : 0 < P → std P r w row = true) (hr5 : r ≤ 5) (hw5 : w ≤ 5) (hl5 : left ≤ 5) (hk : PutOK P r w row left x y q k) (hq : ∀ s', FM mAa mAb s s' → MA (act60 acts (row, day, left)) s' → MW P r w pd (wth P row q k) day (left - 1) s' → Q (some (.int (nI (left - 1)))) (mR s')) : gE X (d + 3) 225 [.ref 80, .int x, .int y] (mR s) Q := by
  obtain ⟨rfl, hqP, rfl, hk2, hl0, hp0, hcn⟩ := hk
  have hc := rc hst hP5 (by omega)
  have hpo := hW.po hk2
  have hn := cn_le P row k
  have hcb : (if k = 1 then r else w) ≤ 5 := by split <;> assumption
  obtain ⟨m0, e21, e33, e34, e35, p1, p2⟩ := id hW
  have hin := inN_n hqP (by omega)
  have hsS : isS (nI k) = true := by rcases hk2 with rfl | rfl <;> decide
  refine en225 rfl rfl rfl ?_
  refine g_p t225_0 rfl ?_
  refine g_k (n := 0) t225_1 rfl rfl ?_
  refine r_puti t225_2 (f80 hF) rfl rfl ?_
  refine g_p t225_5 rfl ?_
  refine r_gete t225_6 (f80 hF) rfl rfl e35 ?_
  refine n_eq t225_9 (by omega) (fun h9 => ?_) (fun h9 => ?_)
  · first
      | (exfalso; omega)
      | exact absurd h17 (by decide)
      | exact absurd h29 (by decide)
  · refine g_p t225_12 rfl ?_
    refine g_p t225_13 rfl ?_
    refine r_cv t225_14 (f80 hF) rfl ?_
    refine c217 (by exact hF) (by exact m0) ?_
    refine k_v ?_ rfl
    rw [hin]
    refine b_eq t225_17 (fun h17 => ?_) (fun h17 => ?_)
    · first
        | (exfalso; omega)
        | exact absurd h17 (by decide)
        | exact absurd h29 (by decide)
    · refine g_p t225_20 rfl ?_
      refine g_p t225_21 rfl ?_
      refine g_p t225_22 rfl ?_
      refine g_p t225_23 rfl ?_
      refine g_cs t225_26 rfl rfl rfl ?_
      refine c176i (a := 1) (b := 2) rfl rfl ?_
      refine k_v ?_ rfl
      rw [isR_S, hsS]
      refine b_eq t225_29 (fun h29 => ?_) (fun h29 => ?_)
      · first
          | (exfalso; omega)
          | exact absurd h17 (by decide)
          | exact absurd h29 (by decide)
      · refine g_p t225_32 rfl ?_
        refine g_p t225_33 rfl ?_
        refine r_gete t225_34 (f80 hF) rfl rfl e33 ?_
        refine g_p t225_37 rfl ?_
        refine r_cv t225_38 (f80 hF) rfl ?_
        refine c211 (by exact hF) (by exact m0) hP5 (by omega) (by omega) ?_
        refine k_v ?_ rfl
        rw [hp0]
        refine n_ne t225_41 (by omega) (fun h41 => ?_) (fun h41 => ?_)
        · first
            | (exfalso; omega)
            | exact absurd h17 (by decide)
            | exact absurd h29 (by decide)
        · refine g_p t225_44 rfl ?_
          refine g_p t225_45 rfl ?_
          refine r_gete t225_46 (f80 hF) rfl rfl e33 ?_
          refine g_p t225_49 rfl ?_
          refine r_cv t225_50 (f80 hF) rfl ?_
          refine c213 (by exact hF) (by exact m0) hP5 (by omega) (by omega) ?_
          refine k_v ?_ rfl
          refine g_p t225_53 rfl ?_
          refine r_getr t225_54 (f80 hF) rfl rfl ?_
          refine g_p t225_57 rfl ?_
          refine r_iale t225_58 (f85 hF) (by decide) (by rcases hk2 with rfl | rfl <;> decide) hpo ?_
          refine n_cne t225_59 (by omega) (by omega) (fun h59 => ?_) (fun h59 => ?_)
          · refine g_p t225_64 rfl ?_
            refine g_p t225_65 rfl ?_
            refine g_p t225_66 rfl ?_
            refine r_gete t225_67 (f80 hF) rfl rfl e33 ?_
            refine g_p t225_70 rfl ?_
            refine g_p t225_71 rfl ?_
            refine r_cv t225_72 (f80 hF) rfl ?_
            refine c212 (by exact hF) (by exact m0) hP5 hc hqP ?_
            refine k_v ?_ rfl
            refine r_cv t225_75 (f80 hF) rfl ?_
            refine c224 (by exact hF) (by exact hW.w0) (by exact hA.w0) hl0 (FM.rf.m (by decide)) (fun s1 f1 hA hW => ?_)
            refine k_v ?_ rfl
            exact i_ret t225_78 rfl (hq s1 f1 hA hW)
          · first
              | (exfalso; omega)
              | exact absurd h17 (by decide)
              | exact absurd h29 (by decide)
end RK
