/-! THE FACE: texts given -/
/-- cells below 114 not of A have the same ints -/
def LF (A : List Nat) (s s' : mM) : Prop := ∀ q, q < 114 → q ∉ A → s'.2.1 q = s.2.1 q
theorem LF.fr {A : List Nat} {s s' : mM} (h : LF A s s') : Fr A s (loM s' s) := by
  refine ⟨rfl, rfl, fun q hq => ?_⟩
  show (if q < 114 then s'.2.1 q else s.2.1 q) = _
  by_cases h1 : q < 114
  · rw [if_pos h1]; exact h q h1 hq
  · rw [if_neg h1]
theorem LF.tr {A : List Nat} {s s' s'' : mM} (h : LF A s s') (h2 : LF A s' s'') : LF A s s'' := fun q h1 hq => (h2 q h1 hq).trans (h q h1 hq)
theorem LF.mono {A B : List Nat} {s s' : mM} (h : LF A s s') (hs : ∀ p ∈ A, p ∈ B) : LF B s s' := fun q h1 hq => h q h1 (fun h3 => hq (hs q h3))
theorem Fr.lf {A : List Nat} {s s' : mM} (h : Fr A s s') : LF A s s' := fun q _ hq => h.2.2 q hq
theorem LF.lo {A : List Nat} {s s' : mM} (h : Fr A s (loM s' s)) : LF A s s' := fun q h1 hq => by
  have e := h.2.2 q hq
  rw [show (loM s' s).2.1 q = (if q < 114 then s'.2.1 q else s.2.1 q) from rfl, if_pos h1] at e
  exact e
theorem LF.ri {A : List Nat} {s s' : mM} (h : LF A s s') {q i : Nat} (h1 : q < 114) (h2 : q ∉ A) : ri s' q i = ri s q i := congrFun (h q h1 h2) i
theorem FL.kx {A B : List Nat} {s s' : mM} (f : FL A B s s') (h : ∀ q ∈ A, q ≠ 16 ∧ q ≠ 17 ∧ q ≠ 18 ∧ q < 114) : KX s s' (fun _ => False) := by
  refine ⟨by rw [f.2.1]; exact Nat.le_refl _, fun q hq h1 _ => ⟨by rw [f.1], f.2.2.1 q (fun h2 => ?_)⟩, fun q h => h.elim⟩
  have := h q h2
  omega
theorem CR.kx0 {A : List Nat} {P : Nat} {s s' : mM} (h : CR P s) (f : LF A s s') (ha : ∀ p ∈ rA, p ∉ A) : CR P s' := (show CR P (loM s' s) from h.fr f.fr ha)
theorem CW.kx0 {A : List Nat} {r w pd row day left : Nat} {s s' : mM} (h : CW r w pd row day left s) (f : LF A s s') (ha : 32 ∉ A) : CW r w pd row day left s' := (show CW r w pd row day left (loM s' s) from h.fr f.fr ha)
theorem CA.kx0 {A : List Nat} {acts : List Act} {s s' : mM} (h : CA acts s) (f : LF A s s') (ha : ∀ p ∈ aA, p ∉ A) : CA acts s' := (show CA acts (loM s' s) from h.fr f.fr ha)
theorem CS.kx0 {A : List Nat} {se : List Act} {s s' : mM} (h : CS se s) (f : LF A s s') (ha : ∀ p ∈ [62, 63, 64, 65, 66, 67], p ∉ A) : CS se s' := (show CS se (loM s' s) from h.fr f.fr ha)
theorem CTo.kx0 {A : List Nat} {to : List (Nat × Nat)} {s s' : mM} (h : CTo to s) (f : LF A s s') (ha : ∀ p ∈ [76, 77, 78, 79], p ∉ A) : CTo to s' := (show CTo to (loM s' s) from h.fr f.fr ha)
/-- drafts -/
def Dft (s : mM) : Prop := (∃ l, NL s 6 l ∧ l.length ≤ 8) ∧ (∃ l, NL s 13 l ∧ l.length ≤ 8) ∧ ∃ n, n < 2 ^ 31 ∧ ri s 8 1 = nI n
theorem Dft.lf {A : List Nat} {s s' : mM} (h : Dft s) (f : LF A s s') (h1 : 6 ∉ A ∧ 7 ∉ A ∧ 13 ∉ A ∧ 14 ∉ A ∧ 8 ∉ A) : Dft s' := by
  obtain ⟨⟨l1, a1, a2⟩, ⟨l2, b1, b2⟩, n, c1, c2⟩ := h
  exact ⟨⟨l1, (show NL (loM s' s) 6 l1 from a1.fr f.fr h1.1 h1.2.1), a2⟩, ⟨l2, (show NL (loM s' s) 13 l2 from b1.fr f.fr h1.2.2.1 h1.2.2.2.1), b2⟩, n, c1, (f.ri (by decide) h1.2.2.2.2).trans c2⟩
/-- what a text leaves behind -/
def OUT (A : List Nat) (ho : Option (List Nat)) (s s' : mM) : Prop := Fx s' ∧ LF A s s' ∧ (s.2.2.2.1 ≤ s'.2.2.2.1 ∧ s'.2.2.2.1 ≤ s.2.2.2.1 + 8) ∧ (s'.2.2.2.2.1 ≤ s.2.2.2.2.1 + 8 ∧ s'.2.2.2.2.2 ≤ s.2.2.2.2.2 + 311) ∧ Dft s' ∧ HdN ho s'
section TZT
variable {X : am_X} {d P P0 n : Nat} {s : mM} {hp : am_H} {Q : Option Value → am_H → Prop} {bks : List Bk} {wds lis : List (List Nat)} {bp wp lp t : List Nat} {acts se : List Act} {to : List (Nat × Nat)} {x : Option Nat × Option Nat × Option Nat} {y : Int32} {ho : Option (List Nat)}
theorem c126_0 (hF : Fx s) (hP2 : 2 ≤ P) (hP5 : P ≤ 5) (p4 : ri s 3 4 = nI P) (p5 : ri s 3 5 = oI x.1) (p6 : ri s 3 6 = oI x.2.1) (p7 : ri s 3 7 = oI x.2.2) (hb : bd5 x) (hA : CA acts s) (hS : CS se s) (hT : CTo to s) (hK : KST P0 bks wds lis bp wp lp s)
    (hq : ∀ s', Fx s' → LF sA s s' → s'.2.2.2 = s.2.2.2 → CR P s' → CW (dv2 x.1) (dv2 x.2.1) (dv2 x.2.2) 0 0 (dv2 x.2.2) s' → CA [] s' → CS [] s' → (∀ a, a < 243 → ri s' 58 a = nI 0) → CTo [] s' → ri s' 0 15 = nI 0 → ri s' 0 16 = nI 0 → KST P bks wds lis bp wp lp s' → Q (some (.int (nI P))) (mR s')) : gE X (d + 6) 126 [.ref 0, .int (nI 0)] (mR s) Q := by
  refine en126 rfl rfl ?_
  refine g_p t126_0 rfl ?_
  refine n_ne t126_1 (by omega) (fun h1 => ?_) (fun h1 => ?_)
  · exact absurd rfl h1
  · refine g_p t126_4 rfl ?_
    refine r_cv t126_5 (f0 hF) rfl ?_
    refine c128 hF hP2 hP5 p4 p5 p6 p7 hb hA hS hT hK (fun s5 g1 g2 g3 g4 g5 g6 g7 g8 g9 g10 g11 g12 => ?_)
    refine k_v ?_ rfl
    exact i_ret t126_8 rfl (hq s5 g1 (LF.lo g2) g3 g4 g5 g6 g7 g8 g9 g10 g11 g12)
theorem c124n (hF : Fx s) (hx : inN 4 y = false) (hq : Q (some (.int (-1))) (mR s)) : gE X (d + 1) 124 [.ref 0, .int y] (mR s) Q := by
  refine en124 rfl rfl ?_
  refine g_p t124_0 rfl ?_
  refine g_p t124_1 rfl ?_
  refine r_cv t124_2 (f0 hF) rfl ?_
  refine c123n (by exact hF) hx ?_
  refine k_v ?_ rfl
  refine g_asn t124_5 rfl (Nat.le_of_ble_eq_true rfl) (am_s1_2 rfl) ?_
  refine g_p t124_6 rfl ?_
  refine g_b (b := true) t124_7 rfl ?_
  refine g_p t124_30 rfl ?_
  exact i_ret t124_31 rfl hq
theorem c124_1_full (hF : Fx s) (hK : KST P bks wds lis bp wp lp s) (hl : ¬ bks.length < 3) (hq : Q (some (.int (-1))) (mR s)) : gE X (d + 3) 124 [.ref 0, .int (nI 1)] (mR s) Q := by
  have hlb := hK.1.2.1
  refine en124 rfl rfl ?_
  refine g_p t124_0 rfl ?_
  refine g_p t124_1 rfl ?_
  refine r_cv t124_2 (f0 hF) rfl ?_
  refine c123_1 (by exact hF) ?_
  refine k_v ?_ rfl
  refine g_asn t124_5 rfl (Nat.le_of_ble_eq_true rfl) (am_s1_2 rfl) ?_
  refine g_p t124_6 rfl ?_
  refine g_b (b := false) t124_7 rfl ?_
  refine g_p t124_10 rfl ?_
  refine g_p t124_11 rfl ?_
  refine r_cv t124_12 (f0 hF) rfl ?_
  refine c125 (by exact hF) (by exact hK.1.1) (by exact hK.2.1.1) (by exact hK.2.2.1.1) (by decide) ?_
  rw [show decide ((1 = 1 ∧ 3 ≤ bp.length) ∨ (1 = 2 ∧ 4 ≤ wp.length) ∨ (1 = 3 ∧ 4 ≤ lp.length)) = true from decide_eq_true (by omega)]
  refine k_v ?_ rfl
  refine b_ne t124_15 (fun h15 => ?_) (fun h15 => ?_)
  · refine g_p t124_30 rfl ?_
    exact i_ret t124_31 rfl hq
  · exact absurd h15 (by decide)
theorem c124_2_full (hF : Fx s) (hK : KST P bks wds lis bp wp lp s) (hl : ¬ wds.length < 4) (hq : Q (some (.int (-1))) (mR s)) : gE X (d + 3) 124 [.ref 0, .int (nI 2)] (mR s) Q := by
  have hlb := hK.2.1.2.1
  refine en124 rfl rfl ?_
  refine g_p t124_0 rfl ?_
  refine g_p t124_1 rfl ?_
  refine r_cv t124_2 (f0 hF) rfl ?_
  refine c123_2 (by exact hF) ?_
  refine k_v ?_ rfl
  refine g_asn t124_5 rfl (Nat.le_of_ble_eq_true rfl) (am_s1_2 rfl) ?_
  refine g_p t124_6 rfl ?_
  refine g_b (b := false) t124_7 rfl ?_
  refine g_p t124_10 rfl ?_
  refine g_p t124_11 rfl ?_
  refine r_cv t124_12 (f0 hF) rfl ?_
  refine c125 (by exact hF) (by exact hK.1.1) (by exact hK.2.1.1) (by exact hK.2.2.1.1) (by decide) ?_
  rw [show decide ((2 = 1 ∧ 3 ≤ bp.length) ∨ (2 = 2 ∧ 4 ≤ wp.length) ∨ (2 = 3 ∧ 4 ≤ lp.length)) = true from decide_eq_true (by omega)]
  refine k_v ?_ rfl
  refine b_ne t124_15 (fun h15 => ?_) (fun h15 => ?_)
  · refine g_p t124_30 rfl ?_
    exact i_ret t124_31 rfl hq
  · exact absurd h15 (by decide)
theorem c124_3_full (hF : Fx s) (hK : KST P bks wds lis bp wp lp s) (hl : ¬ lis.length < 4) (hq : Q (some (.int (-1))) (mR s)) : gE X (d + 3) 124 [.ref 0, .int (nI 3)] (mR s) Q := by
  have hlb := hK.2.2.1.2.1
  refine en124 rfl rfl ?_
  refine g_p t124_0 rfl ?_
  refine g_p t124_1 rfl ?_
  refine r_cv t124_2 (f0 hF) rfl ?_
  refine c123_3 (by exact hF) ?_
  refine k_v ?_ rfl
  refine g_asn t124_5 rfl (Nat.le_of_ble_eq_true rfl) (am_s1_2 rfl) ?_
  refine g_p t124_6 rfl ?_
  refine g_b (b := false) t124_7 rfl ?_
  refine g_p t124_10 rfl ?_
  refine g_p t124_11 rfl ?_
  refine r_cv t124_12 (f0 hF) rfl ?_
  refine c125 (by exact hF) (by exact hK.1.1) (by exact hK.2.1.1) (by exact hK.2.2.1.1) (by decide) ?_
  rw [show decide ((3 = 1 ∧ 3 ≤ bp.length) ∨ (3 = 2 ∧ 4 ≤ wp.length) ∨ (3 = 3 ∧ 4 ≤ lp.length)) = true from decide_eq_true (by omega)]
  refine k_v ?_ rfl
  refine b_ne t124_15 (fun h15 => ?_) (fun h15 => ?_)
  · refine g_p t124_30 rfl ?_
    exact i_ret t124_31 rfl hq
  · exact absurd h15 (by decide)
theorem c124_0_bad (hF : Fx s) (hX : TX 1 120 t s) (hK : KST P bks wds lis bp wp lp s) (hDf : Dft s) (hH : HdN ho s) (hbad : ¬ pfv (pfi t (sle t).2) = -1) (hq : ∀ s', OUT [3] ho s s' → s'.2.2.2 = s.2.2.2 → KST P bks wds lis bp wp lp s' → Q (some (.int (-1))) (mR s')) : gE X (d + 30) 124 [.ref 0, .int (nI 0)] (mR s) Q := by
  refine en124 rfl rfl ?_
  refine g_p t124_0 rfl ?_
  refine g_p t124_1 rfl ?_
  refine r_cv t124_2 (f0 hF) rfl ?_
  refine c123_0 (by exact hF) ?_
  refine k_v ?_ rfl
  refine g_asn t124_5 rfl (Nat.le_of_ble_eq_true rfl) (am_s1_2 rfl) ?_
  refine g_p t124_6 rfl ?_
  refine g_b (b := false) t124_7 rfl ?_
  refine g_p t124_10 rfl ?_
  refine g_p t124_11 rfl ?_
  refine r_cv t124_12 (f0 hF) rfl ?_
  refine c125 (by exact hF) (by exact hK.1.1) (by exact hK.2.1.1) (by exact hK.2.2.1.1) (by decide) ?_
  rw [show decide ((0 = 1 ∧ 3 ≤ bp.length) ∨ (0 = 2 ∧ 4 ≤ wp.length) ∨ (0 = 3 ∧ 4 ≤ lp.length)) = false from decide_eq_false (by omega)]
  refine k_v ?_ rfl
  refine b_ne t124_15 (fun h15 => ?_) (fun h15 => ?_)
  · refine g_p t124_30 rfl ?_
    first
      | (have u0 := h27; exact i_ret t124_31 rfl (hq s23 ⟨hF, lf23, ⟨by rw [nx23]; exact Nat.le_refl _, by rw [nx23]; exact Nat.le_add_right _ _⟩, ⟨by rw [nx23]; exact Nat.le_add_right _ _, by rw [nx23]; exact Nat.le_add_right _ _⟩, hD23, hH23⟩ nx23 hK23))
      | exact absurd h15 (by decide)
  · refine g_p t124_18 rfl ?_
    refine g_p t124_19 rfl ?_
    refine r_getr t124_20 (f0 hF) rfl rfl ?_
    refine r_cv t124_23 (f3 hF) rfl ?_
    refine c87 (by exact hF) (by decide) (by exact hX) (fun s23 fr23 q4 q5 q6 q7 hb => ?_)
    have hF := hF.fr fr23
    have lf23 : LF [3] s s23 := fr23.lf
    have nx23 : s23.2.2.2 = s.2.2.2 := by rw [fr23.2.1]
    have k23 : KX s s23 (fun _ => False) := (fr23.fl (B := [])).kx (by decide)
    have hK23 := hK.kx k23
    have hD23 : Dft s23 := hDf.lf lf23 (by decide)
    have hH23 := hH.kx k23 (lf23.ri (by decide) (by decide))
    refine k_v ?_ rfl
    refine g_p t124_26 rfl ?_
    refine g_ceq t124_27 (fun h27 => ?_) (fun h27 => ?_)
    · exact absurd h27 hbad
    · refine g_p t124_30 rfl ?_
      first
        | (have u0 := h27; exact i_ret t124_31 rfl (hq s23 ⟨hF, lf23, ⟨by rw [nx23]; exact Nat.le_refl _, by rw [nx23]; exact Nat.le_add_right _ _⟩, ⟨by rw [nx23]; exact Nat.le_add_right _ _, by rw [nx23]; exact Nat.le_add_right _ _⟩, hD23, hH23⟩ nx23 hK23))
        | exact absurd h15 (by decide)
theorem c124_1_bad (hF : Fx s) (hX : TX 1 120 t s) (hK : KST P bks wds lis bp wp lp s) (hDf : Dft s) (hH : HdN ho s) (hl : bks.length < 3) (hbad : ¬ pfv (pfi t (bke t).2.2) = -1) (hq : ∀ s', OUT [4, 5, 6, 7, 9] ho s s' → s'.2.2.2 = s.2.2.2 → KST P bks wds lis bp wp lp s' → Q (some (.int (-1))) (mR s')) : gE X (d + 30) 124 [.ref 0, .int (nI 1)] (mR s) Q := by
  have hlb := hK.1.2.1
  refine en124 rfl rfl ?_
  refine g_p t124_0 rfl ?_
  refine g_p t124_1 rfl ?_
  refine r_cv t124_2 (f0 hF) rfl ?_
  refine c123_1 (by exact hF) ?_
  refine k_v ?_ rfl
  refine g_asn t124_5 rfl (Nat.le_of_ble_eq_true rfl) (am_s1_2 rfl) ?_
  refine g_p t124_6 rfl ?_
  refine g_b (b := false) t124_7 rfl ?_
  refine g_p t124_10 rfl ?_
  refine g_p t124_11 rfl ?_
  refine r_cv t124_12 (f0 hF) rfl ?_
  refine c125 (by exact hF) (by exact hK.1.1) (by exact hK.2.1.1) (by exact hK.2.2.1.1) (by decide) ?_
  rw [show decide ((1 = 1 ∧ 3 ≤ bp.length) ∨ (1 = 2 ∧ 4 ≤ wp.length) ∨ (1 = 3 ∧ 4 ≤ lp.length)) = false from decide_eq_false (by omega)]
  refine k_v ?_ rfl
  refine b_ne t124_15 (fun h15 => ?_) (fun h15 => ?_)
  · refine g_p t124_30 rfl ?_
    first
      | (have u0 := h27; exact i_ret t124_31 rfl (hq s23 ⟨hF, lf23, ⟨by rw [nx23]; exact Nat.le_refl _, by rw [nx23]; exact Nat.le_add_right _ _⟩, ⟨by rw [nx23]; exact Nat.le_add_right _ _, by rw [nx23]; exact Nat.le_add_right _ _⟩, hD23, hH23⟩ nx23 hK23))
      | exact absurd h15 (by decide)
  · refine g_p t124_18 rfl ?_
    refine g_p t124_19 rfl ?_
    refine r_getr t124_20 (f0 hF) rfl rfl ?_
    refine r_cv t124_23 (f4 hF) rfl ?_
    obtain ⟨l2, hL, hl2⟩ := hDf.1
    refine c12 (by exact hF) (by decide) (by decide) (by exact hX) (by exact hL) hl2 (fun s23 fr23 q4 q5 => ?_)
    have hF := hF.fr fr23
    have lf23 : LF [4, 5, 6, 7, 9] s s23 := fr23.lf
    have nx23 : s23.2.2.2 = s.2.2.2 := by rw [fr23.2.1]
    have k23 : KX s s23 (fun _ => False) := (fr23.fl (B := [])).kx (by decide)
    have hK23 := hK.kx k23
    have hD23 : Dft s23 := by
      obtain ⟨⟨l1, a1, a2⟩, ⟨l3, b1, b2⟩, m, c1, c2⟩ := hDf
      exact ⟨⟨_, q4.1, by rw [List.length_map]; exact bke_len⟩, ⟨l3, b1.fr fr23 (by decide) (by decide), b2⟩, m, c1, (fr23.ri (by decide)).trans c2⟩
    have hH23 := hH.kx k23 (lf23.ri (by decide) (by decide))
    refine k_v ?_ rfl
    refine g_p t124_26 rfl ?_
    refine g_ceq t124_27 (fun h27 => ?_) (fun h27 => ?_)
    · exact absurd h27 hbad
    · refine g_p t124_30 rfl ?_
      first
        | (have u0 := h27; exact i_ret t124_31 rfl (hq s23 ⟨hF, lf23, ⟨by rw [nx23]; exact Nat.le_refl _, by rw [nx23]; exact Nat.le_add_right _ _⟩, ⟨by rw [nx23]; exact Nat.le_add_right _ _, by rw [nx23]; exact Nat.le_add_right _ _⟩, hD23, hH23⟩ nx23 hK23))
        | exact absurd h15 (by decide)
theorem c124_2_bad (hF : Fx s) (hX : TX 1 120 t s) (hK : KST P bks wds lis bp wp lp s) (hDf : Dft s) (hH : HdN ho s) (hl : wds.length < 4) (hbad : ¬ pfv (pfi t (wde t).2) = -1) (hq : ∀ s', OUT [12, 13, 14] ho s s' → s'.2.2.2 = s.2.2.2 → KST P bks wds lis bp wp lp s' → Q (some (.int (-1))) (mR s')) : gE X (d + 30) 124 [.ref 0, .int (nI 2)] (mR s) Q := by
  have hlb := hK.2.1.2.1
  refine en124 rfl rfl ?_
  refine g_p t124_0 rfl ?_
  refine g_p t124_1 rfl ?_
  refine r_cv t124_2 (f0 hF) rfl ?_
  refine c123_2 (by exact hF) ?_
  refine k_v ?_ rfl
  refine g_asn t124_5 rfl (Nat.le_of_ble_eq_true rfl) (am_s1_2 rfl) ?_
  refine g_p t124_6 rfl ?_
  refine g_b (b := false) t124_7 rfl ?_
  refine g_p t124_10 rfl ?_
  refine g_p t124_11 rfl ?_
  refine r_cv t124_12 (f0 hF) rfl ?_
  refine c125 (by exact hF) (by exact hK.1.1) (by exact hK.2.1.1) (by exact hK.2.2.1.1) (by decide) ?_
  rw [show decide ((2 = 1 ∧ 3 ≤ bp.length) ∨ (2 = 2 ∧ 4 ≤ wp.length) ∨ (2 = 3 ∧ 4 ≤ lp.length)) = false from decide_eq_false (by omega)]
  refine k_v ?_ rfl
  refine b_ne t124_15 (fun h15 => ?_) (fun h15 => ?_)
  · refine g_p t124_30 rfl ?_
    first
      | (have u0 := h27; exact i_ret t124_31 rfl (hq s23 ⟨hF, lf23, ⟨by rw [nx23]; exact Nat.le_refl _, by rw [nx23]; exact Nat.le_add_right _ _⟩, ⟨by rw [nx23]; exact Nat.le_add_right _ _, by rw [nx23]; exact Nat.le_add_right _ _⟩, hD23, hH23⟩ nx23 hK23))
      | exact absurd h15 (by decide)
  · refine g_p t124_18 rfl ?_
    refine g_p t124_19 rfl ?_
    refine r_getr t124_20 (f0 hF) rfl rfl ?_
    refine r_cv t124_23 (f12 hF) rfl ?_
    obtain ⟨l2, hL, hl2⟩ := hDf.2.1
    refine c116 (by exact hF) (by decide) (by decide) (by exact hX) (by exact hL) hl2 (fun s23 fr23 q4 q5 => ?_)
    have hF := hF.fr fr23
    have lf23 : LF [12, 13, 14] s s23 := fr23.lf
    have nx23 : s23.2.2.2 = s.2.2.2 := by rw [fr23.2.1]
    have k23 : KX s s23 (fun _ => False) := (fr23.fl (B := [])).kx (by decide)
    have hK23 := hK.kx k23
    have hD23 : Dft s23 := by
      obtain ⟨⟨l1, a1, a2⟩, ⟨l3, b1, b2⟩, m, c1, c2⟩ := hDf
      exact ⟨⟨l1, a1.fr fr23 (by decide) (by decide), a2⟩, ⟨_, q4, q5⟩, m, c1, (fr23.ri (by decide)).trans c2⟩
    have hH23 := hH.kx k23 (lf23.ri (by decide) (by decide))
    refine k_v ?_ rfl
    refine g_p t124_26 rfl ?_
    refine g_ceq t124_27 (fun h27 => ?_) (fun h27 => ?_)
    · exact absurd h27 hbad
    · refine g_p t124_30 rfl ?_
      first
        | (have u0 := h27; exact i_ret t124_31 rfl (hq s23 ⟨hF, lf23, ⟨by rw [nx23]; exact Nat.le_refl _, by rw [nx23]; exact Nat.le_add_right _ _⟩, ⟨by rw [nx23]; exact Nat.le_add_right _ _, by rw [nx23]; exact Nat.le_add_right _ _⟩, hD23, hH23⟩ nx23 hK23))
        | exact absurd h15 (by decide)
theorem c124_3_bad (hF : Fx s) (hX : TX 1 120 t s) (hK : KST P bks wds lis bp wp lp s) (hDf : Dft s) (hH : HdN ho s) (hl : lis.length < 4) (hbad : ¬ pfv (pfi t (lwo t fun _ => nI 0).2) = -1) (hq : ∀ s', OUT [15] ho s s' → s'.2.2.2 = s.2.2.2 → KST P bks wds lis bp wp lp s' → Q (some (.int (-1))) (mR s')) : gE X (d + 30) 124 [.ref 0, .int (nI 3)] (mR s) Q := by
  have hlb := hK.2.2.1.2.1
  refine en124 rfl rfl ?_
  refine g_p t124_0 rfl ?_
  refine g_p t124_1 rfl ?_
  refine r_cv t124_2 (f0 hF) rfl ?_
  refine c123_3 (by exact hF) ?_
  refine k_v ?_ rfl
  refine g_asn t124_5 rfl (Nat.le_of_ble_eq_true rfl) (am_s1_2 rfl) ?_
  refine g_p t124_6 rfl ?_
  refine g_b (b := false) t124_7 rfl ?_
  refine g_p t124_10 rfl ?_
  refine g_p t124_11 rfl ?_
  refine r_cv t124_12 (f0 hF) rfl ?_
  refine c125 (by exact hF) (by exact hK.1.1) (by exact hK.2.1.1) (by exact hK.2.2.1.1) (by decide) ?_
  rw [show decide ((3 = 1 ∧ 3 ≤ bp.length) ∨ (3 = 2 ∧ 4 ≤ wp.length) ∨ (3 = 3 ∧ 4 ≤ lp.length)) = false from decide_eq_false (by omega)]
  refine k_v ?_ rfl
  refine b_ne t124_15 (fun h15 => ?_) (fun h15 => ?_)
  · refine g_p t124_30 rfl ?_
    first
      | (have u0 := h27; exact i_ret t124_31 rfl (hq s23 ⟨hF, lf23, ⟨by rw [nx23]; exact Nat.le_refl _, by rw [nx23]; exact Nat.le_add_right _ _⟩, ⟨by rw [nx23]; exact Nat.le_add_right _ _, by rw [nx23]; exact Nat.le_add_right _ _⟩, hD23, hH23⟩ nx23 hK23))
      | exact absurd h15 (by decide)
  · refine g_p t124_18 rfl ?_
    refine g_p t124_19 rfl ?_
    refine r_getr t124_20 (f0 hF) rfl rfl ?_
    refine r_cv t124_23 (f15 hF) rfl ?_
    refine c17 (by decide) (by exact hF) (by exact hX) (fun s23 fr23 => ?_)
    have hF := fr23.fx hF
    have lf23 : LF [15] s s23 := fun q _ hq => fr23.2.2.1 q hq
    have nx23 : s23.2.2.2 = s.2.2.2 := fr23.2.1
    have k23 : KX s s23 (fun _ => False) := fr23.kx (by decide)
    have hK23 := hK.kx k23
    have hD23 : Dft s23 := hDf.lf lf23 (by decide)
    have hH23 := hH.kx k23 (lf23.ri (by decide) (by decide))
    refine k_v ?_ rfl
    refine g_p t124_26 rfl ?_
    refine g_ceq t124_27 (fun h27 => ?_) (fun h27 => ?_)
    · exact absurd h27 hbad
    · refine g_p t124_30 rfl ?_
      first
        | (have u0 := h27; exact i_ret t124_31 rfl (hq s23 ⟨hF, lf23, ⟨by rw [nx23]; exact Nat.le_refl _, by rw [nx23]; exact Nat.le_add_right _ _⟩, ⟨by rw [nx23]; exact Nat.le_add_right _ _, by rw [nx23]; exact Nat.le_add_right _ _⟩, hD23, hH23⟩ nx23 hK23))
        | exact absurd h15 (by decide)
theorem c124_1_ok (hF : Fx s) (hX : TX 1 120 t s) (hK : KST P bks wds lis bp wp lp s) (hDf : Dft s) (hH : HdN ho s) (hR : CR P s) (hl : bks.length < 3) (hN2 : s.2.2.2.1 ≤ 100000) (hok : ∃ p, pfi t (bke t).2.2 = .inl p) (hq : ∀ s', OUT [1, 4, 5, 6, 7, 9, 16] ho s s' → (∃ p2, KST P (bks ++ [((bke t).1, (bke t).2.1)]) wds lis p2 wp lp s') → NL s' 1 [] → Q (some (.int (nI bks.length))) (mR s')) : gE X (d + 30) 124 [.ref 0, .int (nI 1)] (mR s) Q := by
  have hlb := hK.1.2.1
  refine en124 rfl rfl ?_
  refine g_p t124_0 rfl ?_
  refine g_p t124_1 rfl ?_
  refine r_cv t124_2 (f0 hF) rfl ?_
  refine c123_1 (by exact hF) ?_
  refine k_v ?_ rfl
  refine g_asn t124_5 rfl (Nat.le_of_ble_eq_true rfl) (am_s1_2 rfl) ?_
  refine g_p t124_6 rfl ?_
  refine g_b (b := false) t124_7 rfl ?_
  refine g_p t124_10 rfl ?_
  refine g_p t124_11 rfl ?_
  refine r_cv t124_12 (f0 hF) rfl ?_
  refine c125 (by exact hF) (by exact hK.1.1) (by exact hK.2.1.1) (by exact hK.2.2.1.1) (by decide) ?_
  rw [show decide ((1 = 1 ∧ 3 ≤ bp.length) ∨ (1 = 2 ∧ 4 ≤ wp.length) ∨ (1 = 3 ∧ 4 ≤ lp.length)) = false from decide_eq_false (by omega)]
  refine k_v ?_ rfl
  refine b_ne t124_15 (fun h15 => ?_) (fun h15 => ?_)
  · first
      | exact absurd h15 (by decide)
      | (obtain ⟨p0, e0⟩ := hok; have u0 := h27; rw [e0] at u0; exact absurd rfl u0)
  · refine g_p t124_18 rfl ?_
    refine g_p t124_19 rfl ?_
    refine r_getr t124_20 (f0 hF) rfl rfl ?_
    refine r_cv t124_23 (f4 hF) rfl ?_
    obtain ⟨l2, hL, hl2⟩ := hDf.1
    refine c12 (by exact hF) (by decide) (by decide) (by exact hX) (by exact hL) hl2 (fun s23 fr23 q4 q5 => ?_)
    have hF := hF.fr fr23
    have lf23 : LF [4, 5, 6, 7, 9] s s23 := fr23.lf
    have nx23 : s23.2.2.2 = s.2.2.2 := by rw [fr23.2.1]
    have k23 : KX s s23 (fun _ => False) := (fr23.fl (B := [])).kx (by decide)
    have hK23 := hK.kx k23
    have hD23 : Dft s23 := by
      obtain ⟨⟨l1, a1, a2⟩, ⟨l3, b1, b2⟩, m, c1, c2⟩ := hDf
      exact ⟨⟨_, q4.1, by rw [List.length_map]; exact bke_len⟩, ⟨l3, b1.fr fr23 (by decide) (by decide), b2⟩, m, c1, (fr23.ri (by decide)).trans c2⟩
    have hH23 := hH.kx k23 (lf23.ri (by decide) (by decide))
    refine k_v ?_ rfl
    refine g_p t124_26 rfl ?_
    refine g_ceq t124_27 (fun h27 => ?_) (fun h27 => ?_)
    · refine g_p t124_32 rfl ?_
      refine g_p t124_33 rfl ?_
      refine r_cv t124_34 (f0 hF) rfl ?_
      obtain ⟨pp, hpp⟩ := hok
      obtain ⟨b1, b2, b3, b4⟩ := bke_ok hpp
      obtain ⟨m8, hm8, e8⟩ := hD23.2.2
      refine c126_1 (by exact hF) (by exact hR.kx0 lf23 (by decide)) (by exact hK23) (by exact q4) b1 b3 bke_len (by exact q5) (by exact e8) hm8 rfl (by rw [nx23]; exact hN2) hl (fun s34 g1 g2 g3 g4 g5 g6 => ?_)
      obtain ⟨p2, g6⟩ := g6
      have lf34 := LF.lo g2
      have hX34 := (show NL (loM s34 s) 1 t from hX.2.1.fr ((lf23.mono (B := [4, 5, 6, 7, 9, 16]) (by decide)).tr (lf34.mono (by decide))).fr (by decide) (by decide))
      have hF := g1
      refine k_v ?_ rfl
      refine g_isn t124_37 (Nat.le_of_ble_eq_true rfl) (am_s1_3 rfl) ?_
      refine g_p t124_38 rfl ?_
      refine r_getr t124_39 (f0 hF) rfl rfl ?_
      refine g_k (n := 0) t124_42 rfl rfl ?_
      refine r_cv t124_43 (f1 hF) rfl ?_
      refine c34L (fN1 hF) (by exact hX34) (Nat.zero_le _) (by have := hX.2.2.2.1; omega) (fun s43 fr43 L43 => ?_)
      have hF := hF.fr fr43
      refine k_0 ?_
      refine g_p t124_46 rfl ?_
      exact i_ret t124_47 rfl (hq s43 ⟨hF, (lf23.mono (by decide)).tr ((lf34.mono (by decide)).tr (fr43.lf.mono (by decide))), ⟨by rw [fr43.2.1]; have := g3.1; rw [nx23] at this; exact this, by rw [fr43.2.1]; rw [nx23] at g4; omega⟩, ⟨by rw [fr43.2.1]; rw [nx23] at g5; omega, by rw [fr43.2.1]; rw [nx23] at g5; omega⟩, (hD23.lf lf34 (by decide)).lf fr43.lf (by decide), (hH23.kx g3 (lf34.ri (by decide) (by decide))).fr fr43 (fr43.ri (by decide)) (by decide)⟩ ⟨p2, g6.fr fr43 (by decide) (by decide)⟩ L43)
    · first
        | exact absurd h15 (by decide)
        | (obtain ⟨p0, e0⟩ := hok; have u0 := h27; rw [e0] at u0; exact absurd rfl u0)
theorem c124_2_ok (hF : Fx s) (hX : TX 1 120 t s) (hK : KST P bks wds lis bp wp lp s) (hDf : Dft s) (hH : HdN ho s) (hl : wds.length < 4) (hN2 : s.2.2.2.1 ≤ 100000) (hok : ∃ p, pfi t (wde t).2 = .inl p) (hq : ∀ s', OUT [1, 12, 13, 14, 17] ho s s' → (∃ p2, KST P bks (wds ++ [(wde t).1]) lis bp p2 lp s') → NL s' 1 [] → Q (some (.int (nI wds.length))) (mR s')) : gE X (d + 30) 124 [.ref 0, .int (nI 2)] (mR s) Q := by
  have hlb := hK.2.1.2.1
  refine en124 rfl rfl ?_
  refine g_p t124_0 rfl ?_
  refine g_p t124_1 rfl ?_
  refine r_cv t124_2 (f0 hF) rfl ?_
  refine c123_2 (by exact hF) ?_
  refine k_v ?_ rfl
  refine g_asn t124_5 rfl (Nat.le_of_ble_eq_true rfl) (am_s1_2 rfl) ?_
  refine g_p t124_6 rfl ?_
  refine g_b (b := false) t124_7 rfl ?_
  refine g_p t124_10 rfl ?_
  refine g_p t124_11 rfl ?_
  refine r_cv t124_12 (f0 hF) rfl ?_
  refine c125 (by exact hF) (by exact hK.1.1) (by exact hK.2.1.1) (by exact hK.2.2.1.1) (by decide) ?_
  rw [show decide ((2 = 1 ∧ 3 ≤ bp.length) ∨ (2 = 2 ∧ 4 ≤ wp.length) ∨ (2 = 3 ∧ 4 ≤ lp.length)) = false from decide_eq_false (by omega)]
  refine k_v ?_ rfl
  refine b_ne t124_15 (fun h15 => ?_) (fun h15 => ?_)
  · first
      | exact absurd h15 (by decide)
      | (obtain ⟨p0, e0⟩ := hok; have u0 := h27; rw [e0] at u0; exact absurd rfl u0)
  · refine g_p t124_18 rfl ?_
    refine g_p t124_19 rfl ?_
    refine r_getr t124_20 (f0 hF) rfl rfl ?_
    refine r_cv t124_23 (f12 hF) rfl ?_
    obtain ⟨l2, hL, hl2⟩ := hDf.2.1
    refine c116 (by exact hF) (by decide) (by decide) (by exact hX) (by exact hL) hl2 (fun s23 fr23 q4 q5 => ?_)
    have hF := hF.fr fr23
    have lf23 : LF [12, 13, 14] s s23 := fr23.lf
    have nx23 : s23.2.2.2 = s.2.2.2 := by rw [fr23.2.1]
    have k23 : KX s s23 (fun _ => False) := (fr23.fl (B := [])).kx (by decide)
    have hK23 := hK.kx k23
    have hD23 : Dft s23 := by
      obtain ⟨⟨l1, a1, a2⟩, ⟨l3, b1, b2⟩, m, c1, c2⟩ := hDf
      exact ⟨⟨l1, a1.fr fr23 (by decide) (by decide), a2⟩, ⟨_, q4, q5⟩, m, c1, (fr23.ri (by decide)).trans c2⟩
    have hH23 := hH.kx k23 (lf23.ri (by decide) (by decide))
    refine k_v ?_ rfl
    refine g_p t124_26 rfl ?_
    refine g_ceq t124_27 (fun h27 => ?_) (fun h27 => ?_)
    · refine g_p t124_32 rfl ?_
      refine g_p t124_33 rfl ?_
      refine r_cv t124_34 (f0 hF) rfl ?_
      refine c126_2 (by exact hF) (by exact hK23) (by exact q4) wde_len.1 q5 wde_len.2 rfl (by rw [nx23]; exact hN2) hl (fun s34 g1 g2 g3 g4 g5 g6 => ?_)
      obtain ⟨p2, g6⟩ := g6
      have lf34 := LF.lo g2
      have hX34 := (show NL (loM s34 s) 1 t from hX.2.1.fr ((lf23.mono (B := [12, 13, 14, 17]) (by decide)).tr (lf34.mono (by decide))).fr (by decide) (by decide))
      have hF := g1
      refine k_v ?_ rfl
      refine g_isn t124_37 (Nat.le_of_ble_eq_true rfl) (am_s1_3 rfl) ?_
      refine g_p t124_38 rfl ?_
      refine r_getr t124_39 (f0 hF) rfl rfl ?_
      refine g_k (n := 0) t124_42 rfl rfl ?_
      refine r_cv t124_43 (f1 hF) rfl ?_
      refine c34L (fN1 hF) (by exact hX34) (Nat.zero_le _) (by have := hX.2.2.2.1; omega) (fun s43 fr43 L43 => ?_)
      have hF := hF.fr fr43
      refine k_0 ?_
      refine g_p t124_46 rfl ?_
      exact i_ret t124_47 rfl (hq s43 ⟨hF, (lf23.mono (by decide)).tr ((lf34.mono (by decide)).tr (fr43.lf.mono (by decide))), ⟨by rw [fr43.2.1]; have := g3.1; rw [nx23] at this; exact this, by rw [fr43.2.1]; rw [nx23] at g4; omega⟩, ⟨by rw [fr43.2.1]; rw [nx23] at g5; omega, by rw [fr43.2.1]; rw [nx23] at g5; omega⟩, (hD23.lf lf34 (by decide)).lf fr43.lf (by decide), (hH23.kx g3 (lf34.ri (by decide) (by decide))).fr fr43 (fr43.ri (by decide)) (by decide)⟩ ⟨p2, g6.fr fr43 (by decide) (by decide)⟩ L43)
    · first
        | exact absurd h15 (by decide)
        | (obtain ⟨p0, e0⟩ := hok; have u0 := h27; rw [e0] at u0; exact absurd rfl u0)
theorem c124_3_ok (hF : Fx s) (hX : TX 1 120 t s) (hK : KST P bks wds lis bp wp lp s) (hDf : Dft s) (hH : HdN ho s) (hl : lis.length < 4) (hN2 : s.2.2.2.1 ≤ 100000) (hok : ∃ p, pfi t (lwo t fun _ => nI 0).2 = .inl p) (hq : ∀ s', OUT [1, 15, 18] ho s s' → (∃ p2, KST P bks wds (lis ++ [t]) bp wp p2 s') → NL s' 1 [] → Q (some (.int (nI lis.length))) (mR s')) : gE X (d + 30) 124 [.ref 0, .int (nI 3)] (mR s) Q := by
  have hlb := hK.2.2.1.2.1
  refine en124 rfl rfl ?_
  refine g_p t124_0 rfl ?_
  refine g_p t124_1 rfl ?_
  refine r_cv t124_2 (f0 hF) rfl ?_
  refine c123_3 (by exact hF) ?_
  refine k_v ?_ rfl
  refine g_asn t124_5 rfl (Nat.le_of_ble_eq_true rfl) (am_s1_2 rfl) ?_
  refine g_p t124_6 rfl ?_
  refine g_b (b := false) t124_7 rfl ?_
  refine g_p t124_10 rfl ?_
  refine g_p t124_11 rfl ?_
  refine r_cv t124_12 (f0 hF) rfl ?_
  refine c125 (by exact hF) (by exact hK.1.1) (by exact hK.2.1.1) (by exact hK.2.2.1.1) (by decide) ?_
  rw [show decide ((3 = 1 ∧ 3 ≤ bp.length) ∨ (3 = 2 ∧ 4 ≤ wp.length) ∨ (3 = 3 ∧ 4 ≤ lp.length)) = false from decide_eq_false (by omega)]
  refine k_v ?_ rfl
  refine b_ne t124_15 (fun h15 => ?_) (fun h15 => ?_)
  · first
      | exact absurd h15 (by decide)
      | (obtain ⟨p0, e0⟩ := hok; have u0 := h27; rw [e0] at u0; exact absurd rfl u0)
  · refine g_p t124_18 rfl ?_
    refine g_p t124_19 rfl ?_
    refine r_getr t124_20 (f0 hF) rfl rfl ?_
    refine r_cv t124_23 (f15 hF) rfl ?_
    refine c17 (by decide) (by exact hF) (by exact hX) (fun s23 fr23 => ?_)
    have hF := fr23.fx hF
    have lf23 : LF [15] s s23 := fun q _ hq => fr23.2.2.1 q hq
    have nx23 : s23.2.2.2 = s.2.2.2 := fr23.2.1
    have k23 : KX s s23 (fun _ => False) := fr23.kx (by decide)
    have hK23 := hK.kx k23
    have hD23 : Dft s23 := hDf.lf lf23 (by decide)
    have hH23 := hH.kx k23 (lf23.ri (by decide) (by decide))
    refine k_v ?_ rfl
    refine g_p t124_26 rfl ?_
    refine g_ceq t124_27 (fun h27 => ?_) (fun h27 => ?_)
    · refine g_p t124_32 rfl ?_
      refine g_p t124_33 rfl ?_
      refine r_cv t124_34 (f0 hF) rfl ?_
      refine c126_3 (by exact hF) (by exact hK23) (by exact (⟨fN1 hF, (show NL (loM s23 s) 1 t from hX.2.1.fr lf23.fr (by decide) (by decide)), hX.2.2⟩ : TX 1 120 t s23)) rfl (by rw [nx23]; exact hN2) hl (fun s34 g1 g2 g3 g4 g5 g6 => ?_)
      obtain ⟨p2, g6⟩ := g6
      have lf34 := LF.lo g2
      have hX34 := (show NL (loM s34 s) 1 t from hX.2.1.fr ((lf23.mono (B := [15, 18]) (by decide)).tr (lf34.mono (by decide))).fr (by decide) (by decide))
      have hF := g1
      refine k_v ?_ rfl
      refine g_isn t124_37 (Nat.le_of_ble_eq_true rfl) (am_s1_3 rfl) ?_
      refine g_p t124_38 rfl ?_
      refine r_getr t124_39 (f0 hF) rfl rfl ?_
      refine g_k (n := 0) t124_42 rfl rfl ?_
      refine r_cv t124_43 (f1 hF) rfl ?_
      refine c34L (fN1 hF) (by exact hX34) (Nat.zero_le _) (by have := hX.2.2.2.1; omega) (fun s43 fr43 L43 => ?_)
      have hF := hF.fr fr43
      refine k_0 ?_
      refine g_p t124_46 rfl ?_
      exact i_ret t124_47 rfl (hq s43 ⟨hF, (lf23.mono (by decide)).tr ((lf34.mono (by decide)).tr (fr43.lf.mono (by decide))), ⟨by rw [fr43.2.1]; have := g3.1; rw [nx23] at this; exact this, by rw [fr43.2.1]; rw [nx23] at g4; omega⟩, ⟨by rw [fr43.2.1]; rw [nx23] at g5; omega, by rw [fr43.2.1]; rw [nx23] at g5; omega⟩, (hD23.lf lf34 (by decide)).lf fr43.lf (by decide), (hH23.kx g3 (lf34.ri (by decide) (by decide))).fr fr43 (fr43.ri (by decide)) (by decide)⟩ ⟨p2, g6.fr fr43 (by decide) (by decide)⟩ L43)
    · first
        | exact absurd h15 (by decide)
        | (obtain ⟨p0, e0⟩ := hok; have u0 := h27; rw [e0] at u0; exact absurd rfl u0)
theorem c124_0_ok (hF : Fx s) (hX : TX 1 120 t s) (hK : KST P bks wds lis bp wp lp s) (hDf : Dft s) (hH : HdN ho s) (hA : CA acts s) (hS : CS se s) (hT : CTo to s) (hok : ∃ p, pfi t (sle t).2 = .inl p) (hq : ∀ s', OUT (1 :: 3 :: sA) none s s' → s'.2.2.2 = s.2.2.2 → CR (pdv t 2 5 (sl0 t)) s' → CW (dv2 (sle t).1.1) (dv2 (sle t).1.2.1) (dv2 (sle t).1.2.2) 0 0 (dv2 (sle t).1.2.2) s' → CA [] s' → CS [] s' → (∀ a, a < 243 → ri s' 58 a = nI 0) → CTo [] s' → ri s' 0 16 = nI 0 → KST (pdv t 2 5 (sl0 t)) bks wds lis bp wp lp s' → NL s' 1 [] → Q (some (.int (nI (pdv t 2 5 (sl0 t))))) (mR s')) : gE X (d + 30) 124 [.ref 0, .int (nI 0)] (mR s) Q := by
  refine en124 rfl rfl ?_
  refine g_p t124_0 rfl ?_
  refine g_p t124_1 rfl ?_
  refine r_cv t124_2 (f0 hF) rfl ?_
  refine c123_0 (by exact hF) ?_
  refine k_v ?_ rfl
  refine g_asn t124_5 rfl (Nat.le_of_ble_eq_true rfl) (am_s1_2 rfl) ?_
  refine g_p t124_6 rfl ?_
  refine g_b (b := false) t124_7 rfl ?_
  refine g_p t124_10 rfl ?_
  refine g_p t124_11 rfl ?_
  refine r_cv t124_12 (f0 hF) rfl ?_
  refine c125 (by exact hF) (by exact hK.1.1) (by exact hK.2.1.1) (by exact hK.2.2.1.1) (by decide) ?_
  rw [show decide ((0 = 1 ∧ 3 ≤ bp.length) ∨ (0 = 2 ∧ 4 ≤ wp.length) ∨ (0 = 3 ∧ 4 ≤ lp.length)) = false from decide_eq_false (by omega)]
  refine k_v ?_ rfl
  refine b_ne t124_15 (fun h15 => ?_) (fun h15 => ?_)
  · first
      | exact absurd h15 (by decide)
      | (obtain ⟨p0, e0⟩ := hok; have u0 := h27; rw [e0] at u0; exact absurd rfl u0)
  · refine g_p t124_18 rfl ?_
    refine g_p t124_19 rfl ?_
    refine r_getr t124_20 (f0 hF) rfl rfl ?_
    refine r_cv t124_23 (f3 hF) rfl ?_
    refine c87 (by exact hF) (by decide) (by exact hX) (fun s23 fr23 q4 q5 q6 q7 hb => ?_)
    have hF := hF.fr fr23
    have lf23 : LF [3] s s23 := fr23.lf
    have nx23 : s23.2.2.2 = s.2.2.2 := by rw [fr23.2.1]
    have k23 : KX s s23 (fun _ => False) := (fr23.fl (B := [])).kx (by decide)
    have hK23 := hK.kx k23
    have hD23 : Dft s23 := hDf.lf lf23 (by decide)
    have hH23 := hH.kx k23 (lf23.ri (by decide) (by decide))
    refine k_v ?_ rfl
    refine g_p t124_26 rfl ?_
    refine g_ceq t124_27 (fun h27 => ?_) (fun h27 => ?_)
    · refine g_p t124_32 rfl ?_
      refine g_p t124_33 rfl ?_
      refine r_cv t124_34 (f0 hF) rfl ?_
      have a23 := hA.kx0 lf23 (by decide)
      have s23S := hS.kx0 lf23 (by decide)
      have t23 := hT.kx0 lf23 (by decide)
      refine c126_0 (P := pdv t 2 5 (sl0 t)) (by exact hF) (pdv_le (by decide)).1 (pdv_le (by decide)).2 q4 q5 q6 q7 hb (by exact a23) (by exact s23S) (by exact t23) (by exact hK23) (fun s34 g1 lf34 g3 g4 g5 g6 g7 g8 g9 g10 g11 g12 => ?_)
      have hX34 := (show NL (loM s34 s) 1 t from hX.2.1.fr ((lf23.mono (B := 3 :: sA) (by decide)).tr (lf34.mono (by decide))).fr (by decide) (by decide))
      have hF := g1
      refine k_v ?_ rfl
      refine g_isn t124_37 (Nat.le_of_ble_eq_true rfl) (am_s1_3 rfl) ?_
      refine g_p t124_38 rfl ?_
      refine r_getr t124_39 (f0 hF) rfl rfl ?_
      refine g_k (n := 0) t124_42 rfl rfl ?_
      refine r_cv t124_43 (f1 hF) rfl ?_
      refine c34L (fN1 hF) (by exact hX34) (Nat.zero_le _) (by have := hX.2.2.2.1; omega) (fun s43 fr43 L43 => ?_)
      have hF := hF.fr fr43
      refine k_0 ?_
      refine g_p t124_46 rfl ?_
      have nx43 : s43.2.2.2 = s.2.2.2 := by rw [fr43.2.1, g3, nx23]
      have e15 : ri s43 0 15 = nI 0 := (fr43.ri (by decide)).trans g10
      exact i_ret t124_47 rfl (hq s43 ⟨hF, (lf23.mono (by decide)).tr ((lf34.mono (by decide)).tr (fr43.lf.mono (by decide))), ⟨by rw [nx43]; exact Nat.le_refl _, by rw [nx43]; exact Nat.le_add_right _ _⟩, ⟨by rw [nx43]; exact Nat.le_add_right _ _, by rw [nx43]; exact Nat.le_add_right _ _⟩, (hD23.lf lf34 (by decide)).lf fr43.lf (by decide), ⟨e15, fun T hT h => by rw [e15] at h; have := nI_inj (by decide) hT h; omega⟩⟩ nx43 (g4.fr fr43 (by decide)) (g5.fr fr43 (by decide)) (g6.fr fr43 (by decide)) (g7.fr fr43 (by decide)) (fun a ha => (fr43.ri (by decide)).trans (g8 a ha)) (g9.fr fr43 (by decide)) ((fr43.ri (by decide)).trans g11) (g12.fr fr43 (by decide) (by decide)) L43)
    · first
        | exact absurd h15 (by decide)
        | (obtain ⟨p0, e0⟩ := hok; have u0 := h27; rw [e0] at u0; exact absurd rfl u0)
end TZT
