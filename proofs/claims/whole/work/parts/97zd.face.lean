/-! THE FACE, 3: moves, evenings -/
theorem isS_t {y : Int32} (h : isS y = true) : ∃ k, (k = 1 ∨ k = 2) ∧ y = nI k := by
  unfold isS at h
  rw [Bool.or_eq_true, decide_eq_true_eq, decide_eq_true_eq] at h
  rcases h with h | h
  · exact ⟨1, Or.inl rfl, h⟩
  · exact ⟨2, Or.inr rfl, h⟩
theorem isS_n {k : Nat} (h : k = 1 ∨ k = 2) : isS (nI k) = true := by
  rcases h with rfl | rfl <;> decide
theorem no_b {A : Prop} {c : Bool} (h1 : c = true) (h2 : c = false) : A := by rw [h1] at h2; exact absurd h2 (by decide)
section FC
variable {X : am_X} {d : Nat} {s : mM} {Q : Option Value → am_H → Prop} {P r w pd row day left a k q n : Nat} {ps bp wp : List Nat} {x y : Int32} {bks : List Bk} {wds : List (List Nat)} {b : Bk} {acts se : List Act} {di : Nat → Nat}
theorem c101n (hF : Fx s) (hR : CR P s) (e1 : ri s 32 1 = nI r) (e2 : ri s 32 2 = nI w) (e4 : ri s 32 4 = nI row) (hs : std P r w row = true) (hk : k = 1 ∨ k = 2) (hq : Q (some (.int (nI ((if k = 1 then r else w) - cn P row k)))) (mR s)) : gE X (d + 2) 101 [.ref 32, .int (nI k)] (mR s) Q := by
  obtain ⟨h1, h2, h3⟩ := std_t hs
  refine c101 hF hR e1 e2 e4 h1 ?_
  rcases hk with rfl | rfl
  · rw [if_pos (by decide), pk_sub h2]; exact hq
  · rw [if_neg (by decide), pk_sub h3]; exact hq
def PutOK (P r w row left : Nat) (x y : Int32) (q k : Nat) : Prop := x = nI q ∧ q < P ∧ y = nI k ∧ (k = 1 ∨ k = 2) ∧ 0 < left ∧ pt P row q = 0 ∧ cn P row k < (if k = 1 then r else w)
def TakOK (P row left : Nat) (x : Int32) (q : Nat) : Prop := x = nI q ∧ q < P ∧ 0 < left ∧ pt P row q ≠ 0
def MovOK (P row left : Nat) (x y : Int32) (q k : Nat) : Prop := x = nI q ∧ q < P ∧ y = nI k ∧ k < P ∧ 0 < left ∧ pt P row q ≠ 0 ∧ pt P row k = 0
theorem c139t (hF : Fx s) (hR : CR P s) (hW : CW r w pd row day left s) (hA : CA acts s) (hst : 0 < P → std P r w row = true) (hr5 : r ≤ 5) (hw5 : w ≤ 5) (hl5 : left ≤ 5) (hk : PutOK P r w row left x y q k) (hq : ∀ s', Fr wA s s' → CA (act60 acts (row, day, left)) s' → CW r w pd (wth P row q k) day (left - 1) s' → Q (some (.int (nI (left - 1)))) (mR s')) : gE X (d + 3) 139 [.ref 0, .int x, .int y] (mR s) Q := by
  obtain ⟨rfl, hqP, rfl, hk12, hl0, hp0, hc0⟩ := hk
  have hP5 := hR.2.2.1
  have hm := mn_le hP5
  have hPi := hR.1
  have hW0 := hW
  obtain ⟨e1, e2, e3, e4, e5, e6⟩ := hW
  have hs := hst (by omega)
  have hrN := (std_t hs).1
  have hcl := cn_le P row k
  have hcl2 : (if k = 1 then r else w) ≤ 5 := by split <;> omega
  refine en139 rfl rfl rfl ?_
  refine g_p t139_0 rfl ?_
  refine r_getr t139_1 (f0 hF) rfl rfl ?_
  refine g_p t139_4 rfl ?_
  refine r_cv t139_5 (f19 hF) rfl ?_
  refine c75 (by exact hF) hPi hP5 ?_
  refine k_v ?_ rfl
  refine b_eq t139_8 (fun h8 => ?_) (fun h8 => ?_)
  · first
      | exact no_b (inN_n hqP (by omega)) h8
      | exact no_b (isS_n hk12) h15
      | (exfalso; omega)
  · refine g_p t139_11 rfl ?_
    refine g_cs t139_12 rfl rfl rfl ?_
    refine c134 ?_
    refine k_v ?_ rfl
    refine b_eq t139_15 (fun h15 => ?_) (fun h15 => ?_)
    · first
        | exact no_b (inN_n hqP (by omega)) h8
        | exact no_b (isS_n hk12) h15
        | (exfalso; omega)
    · refine g_p t139_18 rfl ?_
      refine r_getr t139_19 (f0 hF) rfl rfl ?_
      refine r_cv t139_22 (f32 hF) rfl ?_
      refine c98 (by exact hF) e6 ?_
      refine k_v ?_ rfl
      refine n_le t139_25 (by omega) (fun h25 => ?_) (fun h25 => ?_)
      · first
          | exact no_b (inN_n hqP (by omega)) h8
          | exact no_b (isS_n hk12) h15
          | (exfalso; omega)
      · refine g_p t139_28 rfl ?_
        refine r_getr t139_29 (f0 hF) rfl rfl ?_
        refine g_p t139_32 rfl ?_
        refine r_cv t139_33 (f32 hF) rfl ?_
        refine c102 (by exact hF) (by exact hR) (by exact e4) hrN hqP ?_
        refine k_v ?_ rfl
        refine n_ne t139_36 (by omega) (fun h36 => ?_) (fun h36 => ?_)
        · first
            | exact no_b (inN_n hqP (by omega)) h8
            | exact no_b (isS_n hk12) h15
            | (exfalso; omega)
        · refine g_p t139_39 rfl ?_
          refine r_getr t139_40 (f0 hF) rfl rfl ?_
          refine g_p t139_43 rfl ?_
          refine r_cv t139_44 (f32 hF) rfl ?_
          refine c101n hF hR e1 e2 e4 hs hk12 ?_
          refine k_v ?_ rfl
          refine n_gt t139_47 (by omega) (fun h47 => ?_) (fun h47 => ?_)
          · refine g_p t139_52 rfl ?_
            refine r_getr t139_53 (f0 hF) rfl rfl ?_
            refine g_p t139_56 rfl ?_
            refine r_getr t139_57 (f0 hF) rfl rfl ?_
            refine g_p t139_60 rfl ?_
            refine r_getr t139_61 (f0 hF) rfl rfl ?_
            refine r_cv t139_64 (f32 hF) rfl ?_
            refine c96 (by exact hF) e4 ?_
            refine k_v ?_ rfl
            refine g_p t139_67 rfl ?_
            refine g_p t139_68 rfl ?_
            refine r_cv t139_69 (f19 hF) rfl ?_
            refine c80 (by exact hF) (c5q hP5 hrN hqP) (by omega) (hR.2.2.2.1 _ _ hrN hqP) (hR.2.2.2.2.1 _ hqP) ?_
            refine k_v ?_ rfl
            refine r_cv t139_72 (f32 hF) rfl ?_
            refine c104 (by exact hF) (by exact hA) (by exact hW0) (by omega) (fun s72 fr72 hA hW1 => ?_)
            refine k_0 ?_
            have hF := Fx.fr (by exact hF) fr72
            refine g_p t139_75 rfl ?_
            refine r_getr t139_76 (f0 hF) rfl rfl ?_
            refine r_cv t139_79 (f32 hF) rfl ?_
            obtain ⟨g1, g2, g3, g4, g5, g6⟩ := hW1
            refine c98 (by exact hF) (by exact g6) ?_
            refine k_v ?_ rfl
            exact i_ret t139_82 rfl (hq s72 fr72 hA ⟨g1, g2, g3, g4, g5, g6⟩)
          · first
              | exact no_b (inN_n hqP (by omega)) h8
              | exact no_b (isS_n hk12) h15
              | (exfalso; omega)
theorem c139f (hF : Fx s) (hR : CR P s) (hW : CW r w pd row day left s) (hA : CA acts s) (hst : 0 < P → std P r w row = true) (hr5 : r ≤ 5) (hw5 : w ≤ 5) (hl5 : left ≤ 5) (hno : ¬ ∃ q k, PutOK P r w row left x y q k) (hq : Q (some (.int (-1))) (mR s)) : gE X (d + 3) 139 [.ref 0, .int x, .int y] (mR s) Q := by
  have hP5 := hR.2.2.1
  have hm := mn_le hP5
  have hPi := hR.1
  have hW0 := hW
  obtain ⟨e1, e2, e3, e4, e5, e6⟩ := hW
  refine en139 rfl rfl rfl ?_
  refine g_p t139_0 rfl ?_
  refine r_getr t139_1 (f0 hF) rfl rfl ?_
  refine g_p t139_4 rfl ?_
  refine r_cv t139_5 (f19 hF) rfl ?_
  refine c75 (by exact hF) hPi hP5 ?_
  refine k_v ?_ rfl
  refine b_eq t139_8 (fun h8 => ?_) (fun h8 => ?_)
  · refine g_p t139_50 rfl ?_
    exact i_ret t139_51 rfl hq
  · obtain ⟨q, hqP, rfl⟩ := inN_t h8 (by omega)
    have hs := hst (by omega)
    have hrN := (std_t hs).1
    have hpt := pt_lt P row q
    refine g_p t139_11 rfl ?_
    refine g_cs t139_12 rfl rfl rfl ?_
    refine c134 ?_
    refine k_v ?_ rfl
    refine b_eq t139_15 (fun h15 => ?_) (fun h15 => ?_)
    · refine g_p t139_50 rfl ?_
      exact i_ret t139_51 rfl hq
    · obtain ⟨k, hk12, rfl⟩ := isS_t h15
      have hcl := cn_le P row k
      have hcl2 : (if k = 1 then r else w) ≤ 5 := by split <;> omega
      refine g_p t139_18 rfl ?_
      refine r_getr t139_19 (f0 hF) rfl rfl ?_
      refine r_cv t139_22 (f32 hF) rfl ?_
      refine c98 (by exact hF) e6 ?_
      refine k_v ?_ rfl
      refine n_le t139_25 (by omega) (fun h25 => ?_) (fun h25 => ?_)
      · refine g_p t139_50 rfl ?_
        exact i_ret t139_51 rfl hq
      · refine g_p t139_28 rfl ?_
        refine r_getr t139_29 (f0 hF) rfl rfl ?_
        refine g_p t139_32 rfl ?_
        refine r_cv t139_33 (f32 hF) rfl ?_
        refine c102 (by exact hF) (by exact hR) (by exact e4) hrN hqP ?_
        refine k_v ?_ rfl
        refine n_ne t139_36 (by omega) (fun h36 => ?_) (fun h36 => ?_)
        · refine g_p t139_50 rfl ?_
          exact i_ret t139_51 rfl hq
        · refine g_p t139_39 rfl ?_
          refine r_getr t139_40 (f0 hF) rfl rfl ?_
          refine g_p t139_43 rfl ?_
          refine r_cv t139_44 (f32 hF) rfl ?_
          refine c101n hF hR e1 e2 e4 hs hk12 ?_
          refine k_v ?_ rfl
          refine n_gt t139_47 (by omega) (fun h47 => ?_) (fun h47 => ?_)
          · exact absurd ⟨q, k, rfl, hqP, rfl, hk12, h25, h36, by omega⟩ hno
          · refine g_p t139_50 rfl ?_
            exact i_ret t139_51 rfl hq
theorem c140t (hF : Fx s) (hR : CR P s) (hW : CW r w pd row day left s) (hA : CA acts s) (hst : 0 < P → std P r w row = true) (hr5 : r ≤ 5) (hw5 : w ≤ 5) (hl5 : left ≤ 5) (hk : TakOK P row left x q) (hq : ∀ s', Fr wA s s' → CA (act60 acts (row, day, left)) s' → CW r w pd (wth P row q 0) day (left - 1) s' → Q (some (.int (nI (left - 1)))) (mR s')) : gE X (d + 3) 140 [.ref 0, .int x] (mR s) Q := by
  obtain ⟨rfl, hqP, hl0, hp0⟩ := hk
  have hP5 := hR.2.2.1
  have hm := mn_le hP5
  have hPi := hR.1
  have hW0 := hW
  obtain ⟨e1, e2, e3, e4, e5, e6⟩ := hW
  have hs := hst (by omega)
  have hrN := (std_t hs).1
  have hpt := pt_lt P row q
  refine en140 rfl rfl ?_
  refine g_p t140_0 rfl ?_
  refine r_getr t140_1 (f0 hF) rfl rfl ?_
  refine g_p t140_4 rfl ?_
  refine r_cv t140_5 (f19 hF) rfl ?_
  refine c75 (by exact hF) hPi hP5 ?_
  refine k_v ?_ rfl
  refine b_eq t140_8 (fun h8 => ?_) (fun h8 => ?_)
  · first
      | exact no_b (inN_n hqP (by omega)) h8
      | (exfalso; omega)
  · refine g_p t140_11 rfl ?_
    refine r_getr t140_12 (f0 hF) rfl rfl ?_
    refine r_cv t140_15 (f32 hF) rfl ?_
    refine c98 (by exact hF) e6 ?_
    refine k_v ?_ rfl
    refine n_le t140_18 (by omega) (fun h18 => ?_) (fun h18 => ?_)
    · first
        | exact no_b (inN_n hqP (by omega)) h8
        | (exfalso; omega)
    · refine g_p t140_21 rfl ?_
      refine r_getr t140_22 (f0 hF) rfl rfl ?_
      refine g_p t140_25 rfl ?_
      refine r_cv t140_26 (f32 hF) rfl ?_
      refine c102 (by exact hF) (by exact hR) (by exact e4) hrN hqP ?_
      refine k_v ?_ rfl
      refine n_ne t140_29 (by omega) (fun h29 => ?_) (fun h29 => ?_)
      · refine g_p t140_34 rfl ?_
        refine r_getr t140_35 (f0 hF) rfl rfl ?_
        refine g_p t140_38 rfl ?_
        refine r_getr t140_39 (f0 hF) rfl rfl ?_
        refine g_p t140_42 rfl ?_
        refine r_getr t140_43 (f0 hF) rfl rfl ?_
        refine r_cv t140_46 (f32 hF) rfl ?_
        refine c96 (by exact hF) e4 ?_
        refine k_v ?_ rfl
        refine g_p t140_49 rfl ?_
        refine g_k (n := 0) t140_50 rfl rfl ?_
        refine r_cv t140_51 (f19 hF) rfl ?_
        refine c80 (by exact hF) (c5q hP5 hrN hqP) (by omega) (hR.2.2.2.1 _ _ hrN hqP) (hR.2.2.2.2.1 _ hqP) ?_
        refine k_v ?_ rfl
        refine r_cv t140_54 (f32 hF) rfl ?_
        refine c104 (by exact hF) (by exact hA) (by exact hW0) (by omega) (fun s54 fr54 hA hW1 => ?_)
        refine k_0 ?_
        have hF := Fx.fr (by exact hF) fr54
        refine g_p t140_57 rfl ?_
        refine r_getr t140_58 (f0 hF) rfl rfl ?_
        refine r_cv t140_61 (f32 hF) rfl ?_
        obtain ⟨g1, g2, g3, g4, g5, g6⟩ := hW1
        refine c98 (by exact hF) (by exact g6) ?_
        refine k_v ?_ rfl
        exact i_ret t140_64 rfl (hq s54 fr54 hA ⟨g1, g2, g3, g4, g5, g6⟩)
      · first
          | exact no_b (inN_n hqP (by omega)) h8
          | (exfalso; omega)
theorem c140f (hF : Fx s) (hR : CR P s) (hW : CW r w pd row day left s) (hA : CA acts s) (hst : 0 < P → std P r w row = true) (hr5 : r ≤ 5) (hw5 : w ≤ 5) (hl5 : left ≤ 5) (hno : ¬ ∃ q, TakOK P row left x q) (hq : Q (some (.int (-1))) (mR s)) : gE X (d + 3) 140 [.ref 0, .int x] (mR s) Q := by
  have hP5 := hR.2.2.1
  have hm := mn_le hP5
  have hPi := hR.1
  have hW0 := hW
  obtain ⟨e1, e2, e3, e4, e5, e6⟩ := hW
  refine en140 rfl rfl ?_
  refine g_p t140_0 rfl ?_
  refine r_getr t140_1 (f0 hF) rfl rfl ?_
  refine g_p t140_4 rfl ?_
  refine r_cv t140_5 (f19 hF) rfl ?_
  refine c75 (by exact hF) hPi hP5 ?_
  refine k_v ?_ rfl
  refine b_eq t140_8 (fun h8 => ?_) (fun h8 => ?_)
  · refine g_p t140_32 rfl ?_
    exact i_ret t140_33 rfl hq
  · obtain ⟨q, hqP, rfl⟩ := inN_t h8 (by omega)
    have hs := hst (by omega)
    have hrN := (std_t hs).1
    have hpt := pt_lt P row q
    refine g_p t140_11 rfl ?_
    refine r_getr t140_12 (f0 hF) rfl rfl ?_
    refine r_cv t140_15 (f32 hF) rfl ?_
    refine c98 (by exact hF) e6 ?_
    refine k_v ?_ rfl
    refine n_le t140_18 (by omega) (fun h18 => ?_) (fun h18 => ?_)
    · refine g_p t140_32 rfl ?_
      exact i_ret t140_33 rfl hq
    · refine g_p t140_21 rfl ?_
      refine r_getr t140_22 (f0 hF) rfl rfl ?_
      refine g_p t140_25 rfl ?_
      refine r_cv t140_26 (f32 hF) rfl ?_
      refine c102 (by exact hF) (by exact hR) (by exact e4) hrN hqP ?_
      refine k_v ?_ rfl
      refine n_ne t140_29 (by omega) (fun h29 => ?_) (fun h29 => ?_)
      · exact absurd ⟨q, rfl, hqP, h18, h29⟩ hno
      · refine g_p t140_32 rfl ?_
        exact i_ret t140_33 rfl hq
theorem c141t (hF : Fx s) (hR : CR P s) (hW : CW r w pd row day left s) (hA : CA acts s) (hst : 0 < P → std P r w row = true) (hr5 : r ≤ 5) (hw5 : w ≤ 5) (hl5 : left ≤ 5) (hk : MovOK P row left x y q k) (hq : ∀ s', Fr wA s s' → CA (act60 acts (row, day, left)) s' → CW r w pd (wth P (wth P row q 0) k (pt P row q)) day (left - 1) s' → Q (some (.int (nI (left - 1)))) (mR s')) : gE X (d + 3) 141 [.ref 0, .int x, .int y] (mR s) Q := by
  obtain ⟨rfl, hqP, rfl, hkP, hl0, hp0, hp1⟩ := hk
  have hP5 := hR.2.2.1
  have hm := mn_le hP5
  have hPi := hR.1
  have hW0 := hW
  obtain ⟨e1, e2, e3, e4, e5, e6⟩ := hW
  have hs := hst (by omega)
  have hrN := (std_t hs).1
  have hpt := pt_lt P row q
  have hpt2 := pt_lt P row k
  have hwN := wth_lt hP5 hrN hqP (show 0 < 3 by decide)
  refine en141 rfl rfl rfl ?_
  refine g_p t141_0 rfl ?_
  refine r_getr t141_1 (f0 hF) rfl rfl ?_
  refine g_p t141_4 rfl ?_
  refine r_cv t141_5 (f19 hF) rfl ?_
  refine c75 (by exact hF) hPi hP5 ?_
  refine k_v ?_ rfl
  refine b_eq t141_8 (fun h8 => ?_) (fun h8 => ?_)
  · first
      | exact no_b (inN_n hqP (by omega)) h8
      | exact no_b (inN_n hkP (by omega)) h19
      | (exfalso; omega)
  · refine g_p t141_11 rfl ?_
    refine r_getr t141_12 (f0 hF) rfl rfl ?_
    refine g_p t141_15 rfl ?_
    refine r_cv t141_16 (f19 hF) rfl ?_
    refine c75 (by exact hF) hPi hP5 ?_
    refine k_v ?_ rfl
    refine b_eq t141_19 (fun h19 => ?_) (fun h19 => ?_)
    · first
        | exact no_b (inN_n hqP (by omega)) h8
        | exact no_b (inN_n hkP (by omega)) h19
        | (exfalso; omega)
    · refine g_p t141_22 rfl ?_
      refine r_getr t141_23 (f0 hF) rfl rfl ?_
      refine r_cv t141_26 (f32 hF) rfl ?_
      refine c98 (by exact hF) e6 ?_
      refine k_v ?_ rfl
      refine n_le t141_29 (by omega) (fun h29 => ?_) (fun h29 => ?_)
      · first
          | exact no_b (inN_n hqP (by omega)) h8
          | exact no_b (inN_n hkP (by omega)) h19
          | (exfalso; omega)
      · refine g_p t141_32 rfl ?_
        refine r_getr t141_33 (f0 hF) rfl rfl ?_
        refine g_p t141_36 rfl ?_
        refine r_cv t141_37 (f32 hF) rfl ?_
        refine c102 (by exact hF) (by exact hR) (by exact e4) hrN hqP ?_
        refine k_v ?_ rfl
        refine n_eq t141_40 (by omega) (fun h40 => ?_) (fun h40 => ?_)
        · first
            | exact no_b (inN_n hqP (by omega)) h8
            | exact no_b (inN_n hkP (by omega)) h19
            | (exfalso; omega)
        · refine g_p t141_43 rfl ?_
          refine r_getr t141_44 (f0 hF) rfl rfl ?_
          refine g_p t141_47 rfl ?_
          refine r_cv t141_48 (f32 hF) rfl ?_
          refine c102 (by exact hF) (by exact hR) (by exact e4) hrN hkP ?_
          refine k_v ?_ rfl
          refine n_eq t141_51 (by omega) (fun h51 => ?_) (fun h51 => ?_)
          · refine g_p t141_56 rfl ?_
            refine r_getr t141_57 (f0 hF) rfl rfl ?_
            refine g_p t141_60 rfl ?_
            refine r_cv t141_61 (f32 hF) rfl ?_
            refine c102 (by exact hF) (by exact hR) (by exact e4) hrN hqP ?_
            refine k_v ?_ rfl
            refine g_isn t141_64 (Nat.le_of_ble_eq_true rfl) (am_s1_3 rfl) ?_
            refine g_p t141_65 rfl ?_
            refine r_getr t141_66 (f0 hF) rfl rfl ?_
            refine g_p t141_69 rfl ?_
            refine r_getr t141_70 (f0 hF) rfl rfl ?_
            refine g_p t141_73 rfl ?_
            refine r_getr t141_74 (f0 hF) rfl rfl ?_
            refine g_p t141_77 rfl ?_
            refine r_getr t141_78 (f0 hF) rfl rfl ?_
            refine r_cv t141_81 (f32 hF) rfl ?_
            refine c96 (by exact hF) e4 ?_
            refine k_v ?_ rfl
            refine g_p t141_84 rfl ?_
            refine g_k (n := 0) t141_85 rfl rfl ?_
            refine r_cv t141_86 (f19 hF) rfl ?_
            refine c80 (by exact hF) (c5q hP5 hrN hqP) (by omega) (hR.2.2.2.1 _ _ hrN hqP) (hR.2.2.2.2.1 _ hqP) ?_
            refine k_v ?_ rfl
            refine g_p t141_89 rfl ?_
            refine g_p t141_90 rfl ?_
            refine r_cv t141_91 (f19 hF) rfl ?_
            refine c80 (by exact hF) (c5q hP5 hwN hkP) (by omega) (hR.2.2.2.1 _ _ hwN hkP) (hR.2.2.2.2.1 _ hkP) ?_
            refine k_v ?_ rfl
            refine r_cv t141_94 (f32 hF) rfl ?_
            refine c104 (by exact hF) (by exact hA) (by exact hW0) (by omega) (fun s94 fr94 hA hW1 => ?_)
            refine k_0 ?_
            have hF := Fx.fr (by exact hF) fr94
            refine g_p t141_97 rfl ?_
            refine r_getr t141_98 (f0 hF) rfl rfl ?_
            refine r_cv t141_101 (f32 hF) rfl ?_
            obtain ⟨g1, g2, g3, g4, g5, g6⟩ := hW1
            refine c98 (by exact hF) (by exact g6) ?_
            refine k_v ?_ rfl
            exact i_ret t141_104 rfl (hq s94 fr94 hA ⟨g1, g2, g3, g4, g5, g6⟩)
          · first
              | exact no_b (inN_n hqP (by omega)) h8
              | exact no_b (inN_n hkP (by omega)) h19
              | (exfalso; omega)
theorem c141f (hF : Fx s) (hR : CR P s) (hW : CW r w pd row day left s) (hA : CA acts s) (hst : 0 < P → std P r w row = true) (hr5 : r ≤ 5) (hw5 : w ≤ 5) (hl5 : left ≤ 5) (hno : ¬ ∃ q k, MovOK P row left x y q k) (hq : Q (some (.int (-1))) (mR s)) : gE X (d + 3) 141 [.ref 0, .int x, .int y] (mR s) Q := by
  have hP5 := hR.2.2.1
  have hm := mn_le hP5
  have hPi := hR.1
  have hW0 := hW
  obtain ⟨e1, e2, e3, e4, e5, e6⟩ := hW
  refine en141 rfl rfl rfl ?_
  refine g_p t141_0 rfl ?_
  refine r_getr t141_1 (f0 hF) rfl rfl ?_
  refine g_p t141_4 rfl ?_
  refine r_cv t141_5 (f19 hF) rfl ?_
  refine c75 (by exact hF) hPi hP5 ?_
  refine k_v ?_ rfl
  refine b_eq t141_8 (fun h8 => ?_) (fun h8 => ?_)
  · refine g_p t141_54 rfl ?_
    exact i_ret t141_55 rfl hq
  · obtain ⟨q, hqP, rfl⟩ := inN_t h8 (by omega)
    have hs := hst (by omega)
    have hrN := (std_t hs).1
    have hpt := pt_lt P row q
    refine g_p t141_11 rfl ?_
    refine r_getr t141_12 (f0 hF) rfl rfl ?_
    refine g_p t141_15 rfl ?_
    refine r_cv t141_16 (f19 hF) rfl ?_
    refine c75 (by exact hF) hPi hP5 ?_
    refine k_v ?_ rfl
    refine b_eq t141_19 (fun h19 => ?_) (fun h19 => ?_)
    · refine g_p t141_54 rfl ?_
      exact i_ret t141_55 rfl hq
    · obtain ⟨k, hkP, rfl⟩ := inN_t h19 (by omega)
      have hpt2 := pt_lt P row k
      refine g_p t141_22 rfl ?_
      refine r_getr t141_23 (f0 hF) rfl rfl ?_
      refine r_cv t141_26 (f32 hF) rfl ?_
      refine c98 (by exact hF) e6 ?_
      refine k_v ?_ rfl
      refine n_le t141_29 (by omega) (fun h29 => ?_) (fun h29 => ?_)
      · refine g_p t141_54 rfl ?_
        exact i_ret t141_55 rfl hq
      · refine g_p t141_32 rfl ?_
        refine r_getr t141_33 (f0 hF) rfl rfl ?_
        refine g_p t141_36 rfl ?_
        refine r_cv t141_37 (f32 hF) rfl ?_
        refine c102 (by exact hF) (by exact hR) (by exact e4) hrN hqP ?_
        refine k_v ?_ rfl
        refine n_eq t141_40 (by omega) (fun h40 => ?_) (fun h40 => ?_)
        · refine g_p t141_54 rfl ?_
          exact i_ret t141_55 rfl hq
        · refine g_p t141_43 rfl ?_
          refine r_getr t141_44 (f0 hF) rfl rfl ?_
          refine g_p t141_47 rfl ?_
          refine r_cv t141_48 (f32 hF) rfl ?_
          refine c102 (by exact hF) (by exact hR) (by exact e4) hrN hkP ?_
          refine k_v ?_ rfl
          refine n_eq t141_51 (by omega) (fun h51 => ?_) (fun h51 => ?_)
          · exact absurd ⟨q, k, rfl, hqP, rfl, hkP, h29, h40, h51⟩ hno
          · refine g_p t141_54 rfl ?_
            exact i_ret t141_55 rfl hq
theorem c143t (hF : Fx s) (hA : CA (acts ++ [(row, day, left)]) s) {row0 day0 left0 : Nat} (hW : CW r w pd row0 day0 left0 s) (hq : ∀ s', Fr wA s s' → CA acts s' → CW r w pd row day left s' → Q (some (.int (nI acts.length))) (mR s')) : gE X (d + 2) 143 [.ref 0] (mR s) Q := by
  refine en143 rfl ?_
  refine g_p t143_0 rfl ?_
  refine r_getr t143_1 (f0 hF) rfl rfl ?_
  refine r_cv t143_4 (f32 hF) rfl ?_
  refine c112 hF hA hW (fun s4 fr4 hA hW => ?_)
  refine k_v ?_ rfl
  exact i_ret t143_7 rfl (hq s4 fr4 hA hW)
theorem c143f (hF : Fx s) (hA : CA [] s) (hq : Q (some (.int (-1))) (mR s)) : gE X (d + 2) 143 [.ref 0] (mR s) Q := by
  refine en143 rfl ?_
  refine g_p t143_0 rfl ?_
  refine r_getr t143_1 (f0 hF) rfl rfl ?_
  refine r_cv t143_4 (f32 hF) rfl ?_
  refine c112f hF hA ?_
  refine k_v ?_ rfl
  exact i_ret t143_7 rfl hq
end FC
