/-! THE FACE, 6 -/
section FG
variable {X : am_X} {d : Nat} {s : mM} {Q : Option Value → am_H → Prop} {P r w pd row day left a k q n p p2 n2 : Nat} {ps bp wp lp : List Nat} {x y z u : Int32} {bks : List Bk} {wds : List (List Nat)} {b : Bk} {acts se : List Act} {to : List (Nat × Nat)} {di : Nat → Nat} {l tp : List Nat}
def WayOK (P : Nat) (x : Int32) (n : Nat) : Prop := 0 < P ∧ x = nI n ∧ 1 ≤ n ∧ n ≤ 6
theorem c161t (hF : Fx s) (hR : CR P s) (hW : CW r w pd row day left s) (hr5 : r ≤ 5) (hw5 : w ≤ 5) (hd5 : pd ≤ 5) (hl5 : left ≤ 5) (hst : 0 < P → std P r w row = true) (hQ : CQ s) (hK : KP P r w s) (hS : CS se s) (hse : ∀ t ∈ se, t.1 ≤ 6 ∧ t.2.1 < P ∧ t.2.2 < 3) (hk : WayOK P x n) (hq : ∀ s', FI kA s s' → CQ s' → KP P r w s' → Q (some (.long (lN (sm (cwy P r w row left pd (fun k c => wsn se P k c) n) (mn P))))) (mR s')) : gE X (d + 7) 161 [.ref 0, .int x] (mR s) Q := by
  obtain ⟨hP0, rfl, h1, h2⟩ := hk
  have hP5 := hR.2.2.1
  have hm := mn_le hP5
  refine en161 rfl rfl ?_
  refine g_p t161_0 rfl ?_
  refine r_cv t161_1 (f0 hF) rfl ?_
  refine c129 (by exact hF) (by exact hR.1) hP5 ?_
  refine k_v ?_ rfl
  refine b_eq t161_4 (fun h4 => ?_) (fun h4 => ?_)
  · first
      | exact no_b (decide_eq_true hP0) h4
      | (exfalso; omega)
  · refine g_p t161_7 rfl ?_
    refine g_k (n := 1) t161_8 rfl rfl ?_
    refine n_clt t161_9 (by omega) (by omega) (fun h9 => ?_) (fun h9 => ?_)
    · first
        | exact no_b (decide_eq_true hP0) h4
        | (exfalso; omega)
    · refine g_p t161_12 rfl ?_
      refine g_k (n := 6) t161_13 rfl rfl ?_
      refine n_cle t161_15 (by omega) (by omega) (fun h15 => ?_) (fun h15 => ?_)
      · refine g_p t161_22 rfl ?_
        refine r_getr t161_23 (f0 hF) rfl rfl ?_
        refine g_p t161_26 rfl ?_
        refine g_p t161_27 rfl ?_
        refine g_k (n := 0) t161_28 rfl rfl ?_
        refine g_p t161_29 rfl ?_
        refine r_cv t161_30 (f61 hF) rfl ?_
        refine c47 (by exact hF) (by exact hR) (by exact hW) hr5 hw5 hd5 hl5 hQ hK hS hse (std_t (hst hP0)).1 h2 (fun s30 fr30 hQ hK => ?_)
        refine k_v ?_ rfl
        exact l_ret t161_33 rfl (hq s30 fr30 hQ hK)
      · first
          | exact no_b (decide_eq_true hP0) h4
          | (exfalso; omega)
theorem c161f (hF : Fx s) (hR : CR P s) (hno : ¬ ∃ n, WayOK P x n) (hq : Q (some (.long (-1))) (mR s)) : gE X (d + 7) 161 [.ref 0, .int x] (mR s) Q := by
  have hP5 := hR.2.2.1
  have hm := mn_le hP5
  refine en161 rfl rfl ?_
  refine g_p t161_0 rfl ?_
  refine r_cv t161_1 (f0 hF) rfl ?_
  refine c129 (by exact hF) (by exact hR.1) hP5 ?_
  refine k_v ?_ rfl
  refine b_eq t161_4 (fun h4 => ?_) (fun h4 => ?_)
  · refine g_p t161_18 rfl ?_
    exact l_ret t161_21 rfl hq
  · refine g_p t161_7 rfl ?_
    refine g_k (n := 1) t161_8 rfl rfl ?_
    refine g_clt t161_9 (fun h9 => ?_) (fun h9 => ?_)
    · refine g_p t161_18 rfl ?_
      exact l_ret t161_21 rfl hq
    · refine g_p t161_12 rfl ?_
      refine g_k (n := 6) t161_13 rfl rfl ?_
      refine g_cle t161_15 (fun h15 => ?_) (fun h15 => ?_)
      · exact absurd (by
          obtain ⟨n, n1, n2, n3⟩ := i_rng (m := 1) (M := 6) (by decide) h9 (by decide) (Int32.not_lt.mpr h15)
          exact ⟨n, of_decide_eq_true h4, n3, n1, n2⟩) hno
      · refine g_p t161_18 rfl ?_
        exact l_ret t161_21 rfl hq
def LikOK (P : Nat) (bo : Option Bk) (y z u : Int32) (n q : Nat) : Prop := bo.isSome = true ∧ y = nI n ∧ 1 ≤ n ∧ n ≤ 6 ∧ z = nI q ∧ 1 ≤ q ∧ q ≤ n ∧ isL0 u = true
theorem c162t (hF : Fx s) (hR : CR P s) (hW : CW r w pd row day left s) (hr5 : r ≤ 5) (hw5 : w ≤ 5) (hd5 : pd ≤ 5) (hl5 : left ≤ 5) (hst : 0 < P → std P r w row = true) (hQ : CQ s) (hK : KP P r w s) (hS : CS se s) (hse : ∀ t ∈ se, t.1 ≤ 6 ∧ t.2.1 < P ∧ t.2.2 < 3) (hB : CBk P bks bp s) (hb3 : bks.length ≤ 3) (hk : LikOK P (bG P bks x) y z u n q) (hg : bG P bks x = some b) (hq : ∀ s', FI kA s s' → CQ s' → KP P r w s' → Q (some (.long (lN (sm (cwy P r w row left pd (fun k c => (decide (¬ k = q) || decide (sy P b c = u)) && wsn se P k c) n) (mn P))))) (mR s')) : gE X (d + 7) 162 [.ref 0, .int x, .int y, .int z, .int u] (mR s) Q := by
  obtain ⟨-, rfl, h1, h2, rfl, h3, h4, h5⟩ := hk
  have hP5 := hR.2.2.1
  have hm := mn_le hP5
  obtain ⟨hP0, k, hk, rfl, rfl⟩ := bG_t hg (by omega)
  obtain ⟨qp, qB, qT, qS, qL⟩ := hB.2.2.1 k hk
  refine en162 rfl rfl rfl rfl rfl ?_
  refine g_p t162_0 rfl ?_
  refine g_p t162_1 rfl ?_
  refine r_cv t162_2 (f0 hF) rfl ?_
  refine c130t (by exact hF) (by exact hR.1) hP5 hP0 (by exact hB) hk ?_
  refine k_v ?_ rfl
  refine g_as t162_5 rfl (Nat.le_of_ble_eq_true rfl) (am_s1_5 rfl) ?_
  refine g_p t162_7 rfl ?_
  refine g_b (b := false) t162_9 rfl ?_
  refine g_p t162_12 rfl ?_
  refine g_k (n := 1) t162_13 rfl rfl ?_
  refine n_clt t162_14 (by omega) (by omega) (fun h14 => ?_) (fun h14 => ?_)
  · first
      | exact no_b h5 h38
      | (exfalso; omega)
  · refine g_p t162_17 rfl ?_
    refine g_k (n := 6) t162_18 rfl rfl ?_
    refine n_cgt t162_20 (by omega) (by omega) (fun h20 => ?_) (fun h20 => ?_)
    · first
        | exact no_b h5 h38
        | (exfalso; omega)
    · refine g_p t162_23 rfl ?_
      refine g_k (n := 1) t162_24 rfl rfl ?_
      refine n_clt t162_25 (by omega) (by omega) (fun h25 => ?_) (fun h25 => ?_)
      · first
          | exact no_b h5 h38
          | (exfalso; omega)
      · refine g_p t162_28 rfl ?_
        refine g_p t162_29 rfl ?_
        refine n_cgt t162_30 (by omega) (by omega) (fun h30 => ?_) (fun h30 => ?_)
        · first
            | exact no_b h5 h38
            | (exfalso; omega)
        · refine g_p t162_33 rfl ?_
          refine g_cs t162_35 rfl rfl rfl ?_
          refine c133 ?_
          refine k_v ?_ rfl
          refine b_ne t162_38 (fun h38 => ?_) (fun h38 => ?_)
          · refine g_p t162_45 rfl ?_
            refine r_getr t162_46 (f0 hF) rfl rfl ?_
            refine g_p t162_49 rfl ?_
            refine g_p t162_50 rfl ?_
            refine g_p t162_52 rfl ?_
            refine g_p t162_53 rfl ?_
            refine r_cv t162_55 (f61 hF) rfl ?_
            refine c47b (by exact hF) (by exact hR) (by exact hW) hr5 hw5 hd5 hl5 hQ hK hS hse (std_t (hst hP0)).1 qB qS qp (by omega) h2 (fun s55 fr55 hQ hK => ?_)
            refine k_v ?_ rfl
            exact l_ret t162_58 rfl (hq s55 fr55 hQ hK)
          · first
              | exact no_b h5 h38
              | (exfalso; omega)
theorem c162f (hF : Fx s) (hR : CR P s) (hB : CBk P bks bp s) (hb3 : bks.length ≤ 3) (hno : ¬ ∃ n q, LikOK P (bG P bks x) y z u n q) (hq : Q (some (.long (-1))) (mR s)) : gE X (d + 7) 162 [.ref 0, .int x, .int y, .int z, .int u] (mR s) Q := by
  have hP5 := hR.2.2.1
  have hm := mn_le hP5
  cases hg : bG P bks x with
  | none =>
    refine en162 rfl rfl rfl rfl rfl ?_
    refine g_p t162_0 rfl ?_
    refine g_p t162_1 rfl ?_
    refine r_cv t162_2 (f0 hF) rfl ?_
    refine c130f (by exact hF) (by exact hR.1) hP5 (by exact hB) (bG_f hg) ?_
    refine k_v ?_ rfl
    refine g_as t162_5 rfl (Nat.le_of_ble_eq_true rfl) (am_s1_5 rfl) ?_
    refine g_p t162_7 rfl ?_
    refine g_b (b := true) t162_9 rfl ?_
    refine g_p t162_41 rfl ?_
    exact l_ret t162_44 rfl hq
  | some b =>
    rw [hg] at hno
    obtain ⟨hP0, k, hk, rfl, rfl⟩ := bG_t hg (by omega)
    obtain ⟨qp, qB, qT, qS, qL⟩ := hB.2.2.1 k hk
    refine en162 rfl rfl rfl rfl rfl ?_
    refine g_p t162_0 rfl ?_
    refine g_p t162_1 rfl ?_
    refine r_cv t162_2 (f0 hF) rfl ?_
    refine c130t (by exact hF) (by exact hR.1) hP5 hP0 (by exact hB) hk ?_
    refine k_v ?_ rfl
    refine g_as t162_5 rfl (Nat.le_of_ble_eq_true rfl) (am_s1_5 rfl) ?_
    refine g_p t162_7 rfl ?_
    refine g_b (b := false) t162_9 rfl ?_
    refine g_p t162_12 rfl ?_
    refine g_k (n := 1) t162_13 rfl rfl ?_
    refine g_clt t162_14 (fun h14 => ?_) (fun h14 => ?_)
    · refine g_p t162_41 rfl ?_
      exact l_ret t162_44 rfl hq
    · refine g_p t162_17 rfl ?_
      refine g_k (n := 6) t162_18 rfl rfl ?_
      refine g_cgt t162_20 (fun h20 => ?_) (fun h20 => ?_)
      · refine g_p t162_41 rfl ?_
        exact l_ret t162_44 rfl hq
      · refine g_p t162_23 rfl ?_
        refine g_k (n := 1) t162_24 rfl rfl ?_
        refine g_clt t162_25 (fun h25 => ?_) (fun h25 => ?_)
        · refine g_p t162_41 rfl ?_
          exact l_ret t162_44 rfl hq
        · refine g_p t162_28 rfl ?_
          refine g_p t162_29 rfl ?_
          refine g_cgt t162_30 (fun h30 => ?_) (fun h30 => ?_)
          · refine g_p t162_41 rfl ?_
            exact l_ret t162_44 rfl hq
          · refine g_p t162_33 rfl ?_
            refine g_cs t162_35 rfl rfl rfl ?_
            refine c133 ?_
            refine k_v ?_ rfl
            refine b_ne t162_38 (fun h38 => ?_) (fun h38 => ?_)
            · exact absurd (by
                obtain ⟨n, n1, n2, n3⟩ := i_rng (m := 1) (M := 6) (by decide) h14 (by decide) h20
                subst n3
                obtain ⟨q, q1, q2, q3⟩ := i_rng (m := 1) (M := n) (by omega) h25 (by decide) h30
                exact ⟨n, q, rfl, rfl, n1, n2, q3, q1, q2, h38⟩) hno
            · refine g_p t162_41 rfl ?_
              exact l_ret t162_44 rfl hq
def FroOK (P r w row : Nat) (x : Int32) (k : Nat) : Prop := 0 < P ∧ x = nI k ∧ (k = 1 ∨ k = 2) ∧ cn P row k < (if k = 1 then r else w)
theorem c168t (hF : Fx s) (hR : CR P s) (hW : CW r w pd row day left s) (hA : CA acts s) (hr5 : r ≤ 5) (hw5 : w ≤ 5) (hst : 0 < P → std P r w row = true) (hk : FroOK P r w row x k)
    (hq : ∀ s', Fr (58 :: wA) s s' → CA [] s' → CW (if k = 1 then r - 1 else r) (if k = 2 then w - 1 else w) pd row day left s' → (∀ a, a < 243 → ri s' 58 a = nI 0) → Q (some (.int (nI ((if k = 1 then r else w) - 1)))) (mR s')) : gE X (d + 3) 168 [.ref 0, .int x] (mR s) Q := by
  obtain ⟨hP0, rfl, hk12, hc0⟩ := hk
  have hP5 := hR.2.2.1
  have hm := mn_le hP5
  have hs := hst hP0
  have hW0 := hW
  obtain ⟨e1, e2, e3, e4, e5, e6⟩ := hW
  have hcl := cn_le P row k
  have hcl2 : (if k = 1 then r else w) ≤ 5 := by split <;> omega
  have hkk : ∀ i, i < 2 ^ 31 → (nI k = nI i ↔ k = i) := fun i hi => nI_eq (by omega) hi
  have hk1 : (nI k = 1) = (k = 1) := propext (hkk 1 (by decide))
  have hk2 : (nI k = 2) = (k = 2) := propext (hkk 2 (by decide))
  refine en168 rfl rfl ?_
  refine g_p t168_0 rfl ?_
  refine r_cv t168_1 (f0 hF) rfl ?_
  refine c129 (by exact hF) (by exact hR.1) hP5 ?_
  refine k_v ?_ rfl
  refine b_eq t168_4 (fun h4 => ?_) (fun h4 => ?_)
  · first
      | exact no_b (decide_eq_true hP0) h4
      | exact no_b (isS_n hk12) h11
      | (exfalso; omega)
  · refine g_p t168_7 rfl ?_
    refine g_cs t168_8 rfl rfl rfl ?_
    refine c134 ?_
    refine k_v ?_ rfl
    refine b_eq t168_11 (fun h11 => ?_) (fun h11 => ?_)
    · first
        | exact no_b (decide_eq_true hP0) h4
        | exact no_b (isS_n hk12) h11
        | (exfalso; omega)
    · refine g_p t168_14 rfl ?_
      refine r_getr t168_15 (f0 hF) rfl rfl ?_
      refine g_p t168_18 rfl ?_
      refine r_cv t168_19 (f32 hF) rfl ?_
      refine c101n hF hR e1 e2 e4 hs hk12 ?_
      refine k_v ?_ rfl
      refine n_gt t168_22 (by omega) (fun h22 => ?_) (fun h22 => ?_)
      · refine g_p t168_27 rfl ?_
        refine r_getr t168_28 (f0 hF) rfl rfl ?_
        refine g_p t168_31 rfl ?_
        refine r_cv t168_32 (f32 hF) rfl ?_
        refine c108 (by exact hF) (by exact hA) (by exact hW0) (fun h => by rw [hk1] at h; rw [if_pos h] at hc0; omega) (fun h => by rw [hk2] at h; rw [if_neg (by omega)] at hc0; omega) (fun s32 fr32 hA hW1 => ?_)
        refine k_0 ?_
        have hF := Fx.fr (by exact hF) fr32
        refine g_p t168_35 rfl ?_
        refine r_getr t168_36 (f0 hF) rfl rfl ?_
        refine r_cv t168_39 (f50 hF) rfl ?_
        refine c62 (by exact hF) (fun s39 fr39 z39 => ?_)
        refine k_0 ?_
        have hF := Fx.fr (by exact hF) fr39
        refine g_p t168_42 rfl ?_
        refine r_getr t168_43 (f0 hF) rfl rfl ?_
        refine g_p t168_46 rfl ?_
        refine r_cv t168_47 (f32 hF) rfl ?_
        have hW2 := hW1.fr fr39 (by decide)
        have hA2 := hA.fr fr39 (by decide)
        obtain ⟨g1, g2, g3, g4, g5, g6⟩ := hW2
        refine c100 (by exact hF) g1 g2 ?_
        refine k_v ?_ rfl
        refine i_ret t168_50 ?_ (hq s39 ((fr32.mono (by decide)).tr (fr39.mono (by decide))) hA2 (by have g : CW _ _ pd row day left s39 := ⟨g1, g2, g3, g4, g5, g6⟩; simp only [hk1, hk2] at g; exact g) z39)
        simp only [hk1, hk2]
        rcases hk12 with rfl | rfl <;> rfl
      · first
          | exact no_b (decide_eq_true hP0) h4
          | exact no_b (isS_n hk12) h11
          | (exfalso; omega)
theorem c168f (hF : Fx s) (hR : CR P s) (hW : CW r w pd row day left s) (hr5 : r ≤ 5) (hw5 : w ≤ 5) (hst : 0 < P → std P r w row = true) (hno : ¬ ∃ k, FroOK P r w row x k) (hq : Q (some (.int (-1))) (mR s)) : gE X (d + 3) 168 [.ref 0, .int x] (mR s) Q := by
  have hP5 := hR.2.2.1
  have hm := mn_le hP5
  obtain ⟨e1, e2, e3, e4, e5, e6⟩ := hW
  refine en168 rfl rfl ?_
  refine g_p t168_0 rfl ?_
  refine r_cv t168_1 (f0 hF) rfl ?_
  refine c129 (by exact hF) (by exact hR.1) hP5 ?_
  refine k_v ?_ rfl
  refine b_eq t168_4 (fun h4 => ?_) (fun h4 => ?_)
  · refine g_p t168_25 rfl ?_
    exact i_ret t168_26 rfl hq
  · refine g_p t168_7 rfl ?_
    refine g_cs t168_8 rfl rfl rfl ?_
    refine c134 ?_
    refine k_v ?_ rfl
    refine b_eq t168_11 (fun h11 => ?_) (fun h11 => ?_)
    · refine g_p t168_25 rfl ?_
      exact i_ret t168_26 rfl hq
    · obtain ⟨k, hk12, rfl⟩ := isS_t h11
      have hs := hst (of_decide_eq_true h4)
      have hcl2 : (if k = 1 then r else w) ≤ 5 := by split <;> omega
      refine g_p t168_14 rfl ?_
      refine r_getr t168_15 (f0 hF) rfl rfl ?_
      refine g_p t168_18 rfl ?_
      refine r_cv t168_19 (f32 hF) rfl ?_
      refine c101n hF hR e1 e2 e4 hs hk12 ?_
      refine k_v ?_ rfl
      refine n_gt t168_22 (by omega) (fun h22 => ?_) (fun h22 => ?_)
      · exact absurd ⟨k, of_decide_eq_true h4, rfl, hk12, by omega⟩ hno
      · refine g_p t168_25 rfl ?_
        exact i_ret t168_26 rfl hq
/-- what the image keeps -/
def CKe (r w pd row day left : Nat) (di : Nat → Nat) (s : mM) : Prop := ri s 41 1 = nI r ∧ ri s 41 2 = nI w ∧ ri s 41 3 = nI pd ∧ ri s 41 4 = nI row ∧ ri s 41 5 = nI day ∧ ri s 41 6 = nI left ∧ CD 43 day di s
theorem CKe.fr {A : List Nat} {r w pd row day left : Nat} {di : Nat → Nat} {s s' : mM} (h : CKe r w pd row day left di s) (f : Fr A s s') (h1 : 41 ∉ A) (h2 : 43 ∉ A) : CKe r w pd row day left di s' := by
  obtain ⟨q1, q2, q3, q4, q5, q6, q7⟩ := h
  exact ⟨(f.ri h1).trans q1, (f.ri h1).trans q2, (f.ri h1).trans q3, (f.ri h1).trans q4, (f.ri h1).trans q5, (f.ri h1).trans q6, q7.fr f h2⟩
theorem c171t (hF : Fx s) (hR : CR P s) (hP0 : 0 < P) (hW : CW r w pd row day left s) (hD : CD 34 day di s) (hd : day ≤ 60) (hz : ri s 33 1 = nI 0) (hq : ∀ s', Fr [0, 41, 42, 43] s s' → ri s' 0 15 = ri s 0 15 → ri s' 0 16 = nI 1 → CKe r w pd row day left di s' → ri s' 42 1 = nI 0 → Q (some (.int (nI day))) (mR s')) : gE X (d + 2) 171 [.ref 0] (mR s) Q := by
  have hP5 := hR.2.2.1
  have hm := mn_le hP5
  obtain ⟨e1, e2, e3, e4, e5, e6⟩ := hW
  refine en171 rfl ?_
  refine g_p t171_0 rfl ?_
  refine r_cv t171_1 (f0 hF) rfl ?_
  refine c129 (by exact hF) (by exact hR.1) hP5 ?_
  refine k_v ?_ rfl
  refine b_ne t171_4 (fun h4 => ?_) (fun h4 => ?_)
  · refine g_p t171_9 rfl ?_
    refine r_getr t171_10 (f0 hF) rfl rfl ?_
    refine g_p t171_13 rfl ?_
    refine r_getr t171_14 (f0 hF) rfl rfl ?_
    refine r_cv t171_17 (f41 hF) rfl ?_
    refine c95_41 hF hz (fun s17 fr17 w17 d17 l17 => ?_)
    refine k_0 ?_
    have hF := Fx.fr (by exact hF) fr17
    have e1 := (fr17.ri (p := 32) (i := 1) (by decide)).trans e1
    have e2 := (fr17.ri (p := 32) (i := 2) (by decide)).trans e2
    have e3 := (fr17.ri (p := 32) (i := 3) (by decide)).trans e3
    have e4 := (fr17.ri (p := 32) (i := 4) (by decide)).trans e4
    have e5 := (fr17.ri (p := 32) (i := 5) (by decide)).trans e5
    have e6 := (fr17.ri (p := 32) (i := 6) (by decide)).trans e6
    refine g_p t171_20 rfl ?_
    refine g_k (n := 1) t171_21 rfl rfl ?_
    refine r_putz t171_22 (f0 hF) rfl rfl (by decide) ?_
    refine g_p t171_25 rfl ?_
    refine r_getr t171_26 (f0 hF) rfl rfl ?_
    refine r_cv t171_29 (f32 hF) rfl ?_
    refine c97 (by exact hF) e5 ?_
    refine k_v ?_ rfl
    refine i_ret t171_32 rfl (hq (wi s17 0 16 (nI 1)) ((fr17.mono (by decide)).wi (by simp)) ((ri_wi_j (by decide)).trans (fr17.ri (by decide))) rfl ⟨?_, ?_, ?_, ?_, ?_, ?_, fun k hk => ?_⟩ l17)
    · exact (w17 1 (by decide) (by decide)).trans ((fr17.ri (by decide)).symm.trans e1)
    · exact (w17 2 (by decide) (by decide)).trans ((fr17.ri (by decide)).symm.trans e2)
    · exact (w17 3 (by decide) (by decide)).trans ((fr17.ri (by decide)).symm.trans e3)
    · exact (w17 4 (by decide) (by decide)).trans ((fr17.ri (by decide)).symm.trans e4)
    · exact (w17 5 (by decide) (by decide)).trans ((fr17.ri (by decide)).symm.trans e5)
    · exact (w17 6 (by decide) (by decide)).trans ((fr17.ri (by decide)).symm.trans e6)
    · exact (d17 k (by omega)).trans (hD k hk)
  · exact no_b (decide_eq_true hP0) h4
theorem c171f (hF : Fx s) (hR : CR 0 s) (hq : Q (some (.int (-1))) (mR s)) : gE X (d + 2) 171 [.ref 0] (mR s) Q := by
  have hP5 := hR.2.2.1
  refine en171 rfl ?_
  refine g_p t171_0 rfl ?_
  refine r_cv t171_1 (f0 hF) rfl ?_
  refine c129 (by exact hF) (by exact hR.1) hP5 ?_
  refine k_v ?_ rfl
  refine b_ne t171_4 (fun h4 => ?_) (fun h4 => ?_)
  · exact no_b h4 (decide_eq_false (by decide))
  · refine g_p t171_7 rfl ?_
    exact i_ret t171_8 rfl hq
theorem c172t (hF : Fx s) (hA : CA acts s) (hi : ri s 0 16 = nI 1) (hk : CKe r w pd row day left di s) (hd : day ≤ 60) (hz : ri s 42 1 = nI 0) (hq : ∀ s', Fr (33 :: 34 :: 58 :: wA) s s' → CA [] s' → CW r w pd row day left s' → CD 34 day di s' → ri s' 33 1 = nI 0 → (∀ a, a < 243 → ri s' 58 a = nI 0) → Q (some (.int (nI day))) (mR s')) : gE X (d + 2) 172 [.ref 0] (mR s) Q := by
  obtain ⟨q1, q2, q3, q4, q5, q6, q7⟩ := hk
  refine en172 rfl ?_
  refine g_p t172_0 rfl ?_
  refine r_gete t172_1 (f0 hF) rfl rfl hi ?_
  refine n_ne t172_4 (by omega) (fun h4 => ?_) (fun h4 => ?_)
  · refine g_p t172_9 rfl ?_
    refine r_getr t172_10 (f0 hF) rfl rfl ?_
    refine g_p t172_13 rfl ?_
    refine r_getr t172_14 (f0 hF) rfl rfl ?_
    refine r_cv t172_17 (f32 hF) rfl ?_
    refine c95_32 hF hz (fun s17 fr17 w17 d17 l17 => ?_)
    refine k_0 ?_
    have hF := Fx.fr (by exact hF) fr17
    have hi := (fr17.ri (p := 0) (i := 16) (by decide)).trans hi
    refine g_p t172_20 rfl ?_
    refine r_getr t172_21 (f0 hF) rfl rfl ?_
    refine r_cv t172_24 (f32 hF) rfl ?_
    refine c114 (by exact hF) (hA.fr fr17 (by decide)) (fun s24 fr24 hA => ?_)
    refine k_0 ?_
    have hF := Fx.fr (by exact hF) fr24
    have hi := (fr24.ri (p := 0) (i := 16) (by decide)).trans hi
    refine g_p t172_27 rfl ?_
    refine r_getr t172_28 (f0 hF) rfl rfl ?_
    refine r_cv t172_31 (f50 hF) rfl ?_
    refine c62 (by exact hF) (fun s31 fr31 z31 => ?_)
    refine k_0 ?_
    have hF := Fx.fr (by exact hF) fr31
    have hi := (fr31.ri (p := 0) (i := 16) (by decide)).trans hi
    refine g_p t172_34 rfl ?_
    refine r_getr t172_35 (f0 hF) rfl rfl ?_
    refine r_cv t172_38 (f32 hF) rfl ?_
    have hW : CW r w pd row day left s17 := ⟨(w17 1 (by decide) (by decide)).trans q1, (w17 2 (by decide) (by decide)).trans q2, (w17 3 (by decide) (by decide)).trans q3, (w17 4 (by decide) (by decide)).trans q4, (w17 5 (by decide) (by decide)).trans q5, (w17 6 (by decide) (by decide)).trans q6⟩
    have hD : CD 34 day di s17 := fun k hk => (d17 k (by omega)).trans (q7 k hk)
    have hW := (hW.fr fr24 (by decide)).fr fr31 (by decide)
    have hD := (hD.fr fr24 (by decide)).fr fr31 (by decide)
    have hW0 := hW
    obtain ⟨e1, e2, e3, e4, e5, e6⟩ := hW
    refine c97 (by exact hF) e5 ?_
    refine k_v ?_ rfl
    exact i_ret t172_41 rfl (hq s31 ((fr17.mono (by decide)).tr ((fr24.mono (by decide)).tr (fr31.mono (by decide)))) (hA.fr fr31 (by decide)) hW0 hD ((fr31.ri (by decide)).trans ((fr24.ri (by decide)).trans l17)) z31)
  · exact absurd h4 (by decide)
theorem c172f (hF : Fx s) (hi : ri s 0 16 = nI 0) (hq : Q (some (.int (-1))) (mR s)) : gE X (d + 2) 172 [.ref 0] (mR s) Q := by
  refine en172 rfl ?_
  refine g_p t172_0 rfl ?_
  refine r_gete t172_1 (f0 hF) rfl rfl hi ?_
  refine n_ne t172_4 (by omega) (fun h4 => ?_) (fun h4 => ?_)
  · exact absurd rfl h4
  · refine g_p t172_7 rfl ?_
    exact i_ret t172_8 rfl hq
end FG
