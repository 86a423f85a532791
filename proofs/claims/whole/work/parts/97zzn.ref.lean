/-! THE REFERENCE, 5: what was seen and told, frost, images, counts -/
def MSe (se : List Act) (s : mM) : Prop := ri s 80 53 = nI se.length ∧ se.length ≤ 12 ∧ ∀ k, k < se.length → ri s 104 k = nI (se.getD k a0).1 ∧ ri s 105 k = nI (se.getD k a0).2.1 ∧ ri s 106 k = nI (se.getD k a0).2.2
theorem MSe.fm {A B : List Nat} {se : List Act} {s s' : mM} (h : MSe se s) (f : FM A B s s') (h1 : 53 ∉ B) (h2 : 104 ∉ 80 :: A) (h3 : 105 ∉ 80 :: A) (h4 : 106 ∉ 80 :: A) : MSe se s' :=
  ⟨(f.f h1).trans h.1, h.2.1, fun k hk => ⟨(f.g h2).trans (h.2.2 k hk).1, (f.g h3).trans (h.2.2 k hk).2.1, (f.g h4).trans (h.2.2 k hk).2.2⟩⟩
def MTo (to : List (Nat × Nat)) (s : mM) : Prop := ri s 80 58 = nI to.length ∧ to.length ≤ 12 ∧ ∀ k, k < to.length → ri s 109 k = nI (to.getD k (0, 0)).1 ∧ ri s 110 k = nI (to.getD k (0, 0)).2
theorem MTo.fm {A B : List Nat} {to : List (Nat × Nat)} {s s' : mM} (h : MTo to s) (f : FM A B s s') (h1 : 58 ∉ B) (h2 : 109 ∉ 80 :: A) (h3 : 110 ∉ 80 :: A) : MTo to s' :=
  ⟨(f.f h1).trans h.1, h.2.1, fun k hk => ⟨(f.g h2).trans (h.2.2 k hk).1, (f.g h3).trans (h.2.2 k hk).2⟩⟩
/-- what the image keeps -/
def MKe (r w row day left : Nat) (di : Nat → Nat) (s : mM) : Prop := ri s 112 1 = nI r ∧ ri s 112 2 = nI w ∧ ri s 80 61 = nI row ∧ ri s 80 62 = nI day ∧ ri s 80 63 = nI left ∧ CD 111 day di s
theorem MKe.fm {A B : List Nat} {r w row day left : Nat} {di : Nat → Nat} {s s' : mM} (h : MKe r w row day left di s) (f : FM A B s s') (h1 : 112 ∉ 80 :: A) (h2 : 61 ∉ B) (h3 : 62 ∉ B) (h4 : 63 ∉ B) (h5 : 111 ∉ 80 :: A) : MKe r w row day left di s' := by
  obtain ⟨q1, q2, q3, q4, q5, q6⟩ := h
  exact ⟨(f.g h1).trans q1, (f.g h1).trans q2, (f.f h2).trans q3, (f.f h3).trans q4, (f.f h4).trans q5, q6.fm f h5⟩
theorem isR_n {a b n : Nat} (hb : b < 2 ^ 31) (h1 : a ≤ n) (h2 : n ≤ b) : isR (nI a) (nI b) (nI n) = true := by
  unfold isR
  rw [decide_eq_true (Int32.not_lt.mp (fun h => by have := (nI_ltI (show n < 2 ^ 31 by omega) (show a < 2 ^ 31 by omega)).mp h; omega)), decide_eq_true (Int32.not_lt.mp (fun h => by have := (nI_ltI hb (show n < 2 ^ 31 by omega)).mp h; omega))]
  rfl
theorem isR_t {a b : Nat} {x : Int32} (hb : b < 2 ^ 31) (ha : a < 2 ^ 31) (h : isR (nI a) (nI b) x = true) : ∃ n, x = nI n ∧ a ≤ n ∧ n ≤ b := by
  unfold isR at h
  rw [Bool.and_eq_true, decide_eq_true_eq, decide_eq_true_eq] at h
  have h0 : ¬ x < 0 := fun h3 => by
    have := Int32.lt_of_le_of_lt h.1 h3
    exact nI_pos ha this
  obtain ⟨n, hn, rfl⟩ := nI_of h0
  exact ⟨n, rfl, Nat.le_of_not_lt (fun h3 => Int32.not_lt.mpr h.1 ((nI_ltI hn ha).mpr h3)), Nat.le_of_not_lt (fun h3 => Int32.not_lt.mpr h.2 ((nI_ltI hb hn).mpr h3))⟩
theorem isR_day {day : Nat} {x : Int32} (h : day ≤ 60) : isR 0 (nI day - nI 1) x = inN day x := by
  cases day with
  | zero =>
    cases hx : inN 0 x
    · unfold isR
      rw [← Bool.decide_and]
      exact decide_eq_false (fun h2 => absurd (Int32.le_trans h2.1 h2.2) (by decide))
    · obtain ⟨q, hq, -⟩ := inN_t hx (by decide); omega
  | succ n => rw [pk_sub (by omega), Nat.add_sub_cancel]; exact isR_inN (by omega)
theorem upu_tb {P a b p : Nat} : ∀ m, (upu P a b m).testBit p = (decide (p < m) && decide (pt P a p ≠ pt P b p)) := by
  intro m
  induction m with
  | zero => simp [upu]
  | succ m ih =>
    have hl := upu_lt (P := P) (a := a) (b := b) m
    unfold upu
    by_cases he : pt P a m = pt P b m
    · rw [if_pos he, Nat.add_zero, ih]
      by_cases hp : p = m
      · subst hp; simp [he]
      · congr 1
        exact decide_eq_decide.mpr (by omega)
    · rw [if_neg he]
      have e : upu P a b m + 2 ^ m = 2 ^ m ||| upu P a b m := by
        have := Nat.two_pow_add_eq_or_of_lt hl 1
        rw [Nat.mul_one] at this
        rw [Nat.add_comm]; exact this
      rw [e, Nat.testBit_or, ih, Nat.testBit_two_pow]
      by_cases hp : p = m
      · subst hp; simp [he]
      · have h1 : decide (m = p) = false := decide_eq_false (fun h => hp h.symm)
        rw [h1, Bool.false_or]
        congr 1
        exact decide_eq_decide.mpr (by omega)
theorem sh_tb : ∀ B, B < 32 → ∀ k, k < 5 → (nI B >>> (nI k &&& 31)) &&& nI 1 = nI (one (B.testBit k)) := by decide +kernel
section RN
variable {X : am_X} {d : Nat} {s : mM} {hp : am_H} {Q : Option Value → am_H → Prop} {P c q k v r w pd row day left n B : Nat} {acts se : List Act} {to : List (Nat × Nat)} {x y z : Int32} {di : Nat → Nat} {b : Bk} {bks : List Bk}
theorem c239 (hF : Fx s) (hP5 : P ≤ 5) (hW : MW P r w pd row day left s) (hr5 : r ≤ 5) (hw5 : w ≤ 5) (hM : MB bks s) (hL : ∀ b ∈ bks, ∀ c ∈ b.1, c.1 < 8) (hq : Q (some (.int (match bG P bks x with
    | some b => nI (lett P r w b (mn P))
    | none => -1))) (mR (wi s 80 0 (nI 0)))) : gE X (d + 4) 239 [.ref 80, .int x] (mR s) Q := by
  have hm := mn_le hP5
  obtain ⟨m0, e21, e33, e34, e35, p1, p2⟩ := id hW
  cases hg : bG P bks x with
  | none =>
    rw [hg] at hq
    refine en239 rfl rfl ?_
    refine g_p t239_0 rfl ?_
    refine g_k (n := 0) t239_1 rfl rfl ?_
    refine r_puti t239_2 (f80 hF) rfl rfl ?_
    refine g_p t239_5 rfl ?_
    refine g_p t239_6 rfl ?_
    refine r_cv t239_7 (f80 hF) rfl ?_
    refine c218B (by exact hF) (by exact m0) hP5 (by exact hM) ?_
    refine k_v ?_ rfl
    rw [hg]
    refine b_ne t239_10 (fun h10 => ?_) (fun h10 => ?_)
    · exact absurd h10 (by decide)
    · refine g_p t239_13 rfl ?_
      exact i_ret t239_14 rfl hq
  | some b =>
    rw [hg] at hq
    obtain ⟨hP0, k, hk, hk4, rfl, hB1⟩ := bG_M hM hg
    have qL : ∀ c ∈ b.1, c.1 < 8 := by
      obtain ⟨-, k2, h2, h3, h4⟩ := bG_t hg (by have := hM.2.1; omega)
      rw [h4]; exact hL _ (by simp [List.getD, h2])
    have K : ∀ j c : Nat, c + j = mn P → ∀ z4, gG X (d + 4) 239 19 [.ref 80, .int (nI k), .int (nI (lett P r w b c)), .int (nI c), z4] [] (mR (wi s 80 0 (nI 0))) Q := by
      intro j
      induction j with
      | zero =>
        intro c hj z4
        have hj : c = mn P := by omega
        subst hj
        refine g_p t239_19 rfl ?_
        refine g_p t239_20 rfl ?_
        refine r_cv t239_21 (f80 hF) rfl ?_
        refine c209 (by exact hF) (by exact m0) hP5 hP0 ?_
        refine k_v ?_ rfl
        refine n_cge t239_24 (by omega) (by omega) (fun h24 => ?_) (fun h24 => ?_)
        · refine g_p t239_70 rfl ?_
          exact i_ret t239_71 rfl hq
        · exfalso; omega
      | succ j ih =>
        intro c hj z4
        have hcN : c < mn P := by omega
        have hlt := lett_lt (P := P) (r := r) (w := w) qL c
        have hc8 : (2 : Nat) ^ 8 = 256 := by decide
        cases hf : b.1.find? (fun k => fitu P b.2 k.2 c P) with
        | none =>
          have e : sy P b c = -1 := by unfold sy; rw [hf]
          have eL : lett P r w b (c + 1) = lett P r w b c := by rw [lett, hf]
          refine g_p t239_19 rfl ?_
          refine g_p t239_20 rfl ?_
          refine r_cv t239_21 (f80 hF) rfl ?_
          refine c209 (by exact hF) (by exact m0) hP5 hP0 ?_
          refine k_v ?_ rfl
          refine n_cge t239_24 (by omega) (by omega) (fun h24 => ?_) (fun h24 => ?_)
          · exfalso; omega
          · refine g_p t239_27 rfl ?_
            refine g_p t239_28 rfl ?_
            refine r_cv t239_29 (f80 hF) rfl ?_
            refine c214 (by exact hF) (by exact m0) hP5 (by exact p1) (by exact p2) hr5 hw5 (by omega) ?_
            refine k_v ?_ rfl
            refine b_eq t239_32 (fun h32 => ?_) (fun h32 => ?_)
            · refine g_p t239_44 rfl ?_
              refine g_is t239_45 (Nat.le_of_ble_eq_true rfl) (am_s1_4 rfl) ?_
              refine g_p t239_47 rfl ?_
              refine g_p t239_48 rfl ?_
              refine g_p t239_50 rfl ?_
              refine g_cne t239_51 (fun h51 => ?_) (fun h51 => ?_)
              · first
                  | (have u0 := e
                     exact absurd rfl h51)
              · refine g_k (n := 0) t239_54 rfl rfl ?_
                refine g_goto t239_55 ?_
                refine g_ior t239_62 ?_
                rw [nI_or (by omega) (by omega), Nat.or_zero]
                refine g_isn t239_63 (Nat.le_of_ble_eq_true rfl) (am_s1_2 rfl) ?_
                refine g_incn (n := 1) t239_64 rfl rfl (Nat.le_of_ble_eq_true rfl) (am_s1_3 rfl) ?_
                refine g_goto t239_67 ?_
                have := ih (c + 1) (by omega) (.int (-1))
                rw [eL] at this
                exact this
            · refine g_p t239_35 rfl ?_
              refine g_p t239_36 rfl ?_
              refine g_p t239_37 rfl ?_
              refine r_cv t239_38 (f80 hF) rfl ?_
              refine c231 (by exact hF) (by exact m0) hP5 (by exact hB1) hk4 (by omega) ?_
              rw [e]
              refine k_v ?_ rfl
              refine g_goto t239_41 ?_
              refine g_is t239_45 (Nat.le_of_ble_eq_true rfl) (am_s1_4 rfl) ?_
              refine g_p t239_47 rfl ?_
              refine g_p t239_48 rfl ?_
              refine g_p t239_50 rfl ?_
              refine g_cne t239_51 (fun h51 => ?_) (fun h51 => ?_)
              · first
                  | (have u0 := e
                     exact absurd rfl h51)
              · refine g_k (n := 0) t239_54 rfl rfl ?_
                refine g_goto t239_55 ?_
                refine g_ior t239_62 ?_
                rw [nI_or (by omega) (by omega), Nat.or_zero]
                refine g_isn t239_63 (Nat.le_of_ble_eq_true rfl) (am_s1_2 rfl) ?_
                refine g_incn (n := 1) t239_64 rfl rfl (Nat.le_of_ble_eq_true rfl) (am_s1_3 rfl) ?_
                refine g_goto t239_67 ?_
                have := ih (c + 1) (by omega) (.int (-1))
                rw [eL] at this
                exact this
        | some u =>
          have hu := qL u (List.mem_of_find?_eq_some hf)
          have hp8 : 2 ^ u.1 ≤ 2 ^ 8 := Nat.pow_le_pow_right (by decide) (by omega)
          have e : sy P b c = nI u.1 := by unfold sy; rw [hf]
          have eL : lett P r w b (c + 1) = if std P r w c = true then lett P r w b c ||| 2 ^ u.1 else lett P r w b c := by rw [lett, hf]
          refine g_p t239_19 rfl ?_
          refine g_p t239_20 rfl ?_
          refine r_cv t239_21 (f80 hF) rfl ?_
          refine c209 (by exact hF) (by exact m0) hP5 hP0 ?_
          refine k_v ?_ rfl
          refine n_cge t239_24 (by omega) (by omega) (fun h24 => ?_) (fun h24 => ?_)
          · exfalso; omega
          · refine g_p t239_27 rfl ?_
            refine g_p t239_28 rfl ?_
            refine r_cv t239_29 (f80 hF) rfl ?_
            refine c214 (by exact hF) (by exact m0) hP5 (by exact p1) (by exact p2) hr5 hw5 (by omega) ?_
            refine k_v ?_ rfl
            refine b_eq t239_32 (fun h32 => ?_) (fun h32 => ?_)
            · refine g_p t239_44 rfl ?_
              refine g_is t239_45 (Nat.le_of_ble_eq_true rfl) (am_s1_4 rfl) ?_
              refine g_p t239_47 rfl ?_
              refine g_p t239_48 rfl ?_
              refine g_p t239_50 rfl ?_
              refine g_cne t239_51 (fun h51 => ?_) (fun h51 => ?_)
              · first
                  | exact absurd rfl h51
                  | (have uu : std P r w c = true := h32
                     rw [if_pos uu] at eL
                     refine g_k (n := 1) t239_58 rfl rfl ?_
                     refine g_p t239_59 rfl ?_
                     refine g_ishl t239_61 ?_
                     rw [shl1 u.1 (by omega)]
                     refine g_ior t239_62 ?_
                     rw [nI_or (by omega) (by omega)]
                     refine g_isn t239_63 (Nat.le_of_ble_eq_true rfl) (am_s1_2 rfl) ?_
                     refine g_incn (n := 1) t239_64 rfl rfl (Nat.le_of_ble_eq_true rfl) (am_s1_3 rfl) ?_
                     refine g_goto t239_67 ?_
                     have := ih (c + 1) (by omega) (.int (nI u.1))
                     rw [eL] at this
                     exact this)
              · first
                  | exact absurd h51 (nI_m1 (by omega))
                  | (have uu : std P r w c = false := h32
                     rw [if_neg (fun h => no_b h uu)] at eL
                     refine g_k (n := 0) t239_54 rfl rfl ?_
                     refine g_goto t239_55 ?_
                     refine g_ior t239_62 ?_
                     rw [nI_or (by omega) (by omega), Nat.or_zero]
                     refine g_isn t239_63 (Nat.le_of_ble_eq_true rfl) (am_s1_2 rfl) ?_
                     refine g_incn (n := 1) t239_64 rfl rfl (Nat.le_of_ble_eq_true rfl) (am_s1_3 rfl) ?_
                     refine g_goto t239_67 ?_
                     have := ih (c + 1) (by omega) (.int (-1))
                     rw [eL] at this
                     exact this)
            · refine g_p t239_35 rfl ?_
              refine g_p t239_36 rfl ?_
              refine g_p t239_37 rfl ?_
              refine r_cv t239_38 (f80 hF) rfl ?_
              refine c231 (by exact hF) (by exact m0) hP5 (by exact hB1) hk4 (by omega) ?_
              rw [e]
              refine k_v ?_ rfl
              refine g_goto t239_41 ?_
              refine g_is t239_45 (Nat.le_of_ble_eq_true rfl) (am_s1_4 rfl) ?_
              refine g_p t239_47 rfl ?_
              refine g_p t239_48 rfl ?_
              refine g_p t239_50 rfl ?_
              refine g_cne t239_51 (fun h51 => ?_) (fun h51 => ?_)
              · first
                  | exact absurd rfl h51
                  | (have uu : std P r w c = true := h32
                     rw [if_pos uu] at eL
                     refine g_k (n := 1) t239_58 rfl rfl ?_
                     refine g_p t239_59 rfl ?_
                     refine g_ishl t239_61 ?_
                     rw [shl1 u.1 (by omega)]
                     refine g_ior t239_62 ?_
                     rw [nI_or (by omega) (by omega)]
                     refine g_isn t239_63 (Nat.le_of_ble_eq_true rfl) (am_s1_2 rfl) ?_
                     refine g_incn (n := 1) t239_64 rfl rfl (Nat.le_of_ble_eq_true rfl) (am_s1_3 rfl) ?_
                     refine g_goto t239_67 ?_
                     have := ih (c + 1) (by omega) (.int (nI u.1))
                     rw [eL] at this
                     exact this)
              · first
                  | exact absurd h51 (nI_m1 (by omega))
                  | (have uu : std P r w c = false := h32
                     rw [if_neg (fun h => no_b h uu)] at eL
                     refine g_k (n := 0) t239_54 rfl rfl ?_
                     refine g_goto t239_55 ?_
                     refine g_ior t239_62 ?_
                     rw [nI_or (by omega) (by omega), Nat.or_zero]
                     refine g_isn t239_63 (Nat.le_of_ble_eq_true rfl) (am_s1_2 rfl) ?_
                     refine g_incn (n := 1) t239_64 rfl rfl (Nat.le_of_ble_eq_true rfl) (am_s1_3 rfl) ?_
                     refine g_goto t239_67 ?_
                     have := ih (c + 1) (by omega) (.int (-1))
                     rw [eL] at this
                     exact this)
    refine en239 rfl rfl ?_
    refine g_p t239_0 rfl ?_
    refine g_k (n := 0) t239_1 rfl rfl ?_
    refine r_puti t239_2 (f80 hF) rfl rfl ?_
    refine g_p t239_5 rfl ?_
    refine g_p t239_6 rfl ?_
    refine r_cv t239_7 (f80 hF) rfl ?_
    refine c218B (by exact hF) (by exact m0) hP5 (by exact hM) ?_
    refine k_v ?_ rfl
    rw [hg]
    refine b_ne t239_10 (fun h10 => ?_) (fun h10 => ?_)
    · refine g_k (n := 0) t239_15 rfl rfl ?_
      refine g_isn t239_16 (Nat.le_of_ble_eq_true rfl) (am_s1_2 rfl) ?_
      refine g_k (n := 0) t239_17 rfl rfl ?_
      refine g_isn t239_18 (Nat.le_of_ble_eq_true rfl) (am_s1_3 rfl) ?_
      exact K (mn P) 0 (by omega) _
    · exact absurd h10 (by simp)
theorem c251t (hF : Fx s) (hP5 : P ≤ 5) (m0 : ri s 80 20 = nI P) (hS : MSe se s) (hk : SeeOK P x y z n q k) (hl : se.length < 12) (hq : ∀ s', FM [104, 105, 106] [0, 53] s s' → MSe (se ++ [(n, q, k)]) s' → Q (some (.int (nI (se.length + 1)))) (mR s')) : gE X (d + 1) 251 [.ref 80, .int x, .int y, .int z] (mR s) Q := by
  obtain ⟨rfl, h1n, hn6, rfl, hqP, rfl, hk2⟩ := hk
  have s1 := hS.1
  have g1 := isR_n (a := 1) (b := 6) (n := n) (by decide) h1n hn6
  have g2 := inN_n hqP (by omega)
  have g3 := isR_n (a := 0) (b := 2) (n := k) (by decide) (by omega) hk2
  refine en251 rfl rfl rfl rfl ?_
  refine g_p t251_0 rfl ?_
  refine g_k (n := 0) t251_1 rfl rfl ?_
  refine r_puti t251_2 (f80 hF) rfl rfl ?_
  refine g_p t251_5 rfl ?_
  refine g_p t251_6 rfl ?_
  refine g_p t251_7 rfl ?_
  refine g_p t251_8 rfl ?_
  refine g_cs t251_11 rfl rfl rfl ?_
  refine c176i (a := nI 1) (b := nI 6) rfl rfl ?_
  refine k_v ?_ rfl
  rw [g1]
  refine b_eq t251_14 (fun h14 => ?_) (fun h14 => ?_)
  · first
      | exact absurd h14 (by decide)
      | exact absurd h22 (by decide)
      | exact absurd h34 (by decide)
      | (exfalso; omega)
  · refine g_p t251_17 rfl ?_
    refine g_p t251_18 rfl ?_
    refine r_cv t251_19 (f80 hF) rfl ?_
    refine c217 (by exact hF) (by exact m0) ?_
    refine k_v ?_ rfl
    rw [g2]
    refine b_eq t251_22 (fun h22 => ?_) (fun h22 => ?_)
    · first
        | exact absurd h14 (by decide)
        | exact absurd h22 (by decide)
        | exact absurd h34 (by decide)
        | (exfalso; omega)
    · refine g_p t251_25 rfl ?_
      refine g_p t251_26 rfl ?_
      refine g_p t251_27 rfl ?_
      refine g_p t251_28 rfl ?_
      refine g_cs t251_31 rfl rfl rfl ?_
      refine c176i (a := nI 0) (b := nI 2) rfl rfl ?_
      refine k_v ?_ rfl
      rw [g3]
      refine b_eq t251_34 (fun h34 => ?_) (fun h34 => ?_)
      · first
          | exact absurd h14 (by decide)
          | exact absurd h22 (by decide)
          | exact absurd h34 (by decide)
          | (exfalso; omega)
      · refine g_p t251_37 rfl ?_
        refine r_gete t251_38 (f80 hF) rfl rfl s1 ?_
        refine g_k (n := 12) t251_41 rfl rfl ?_
        refine n_cne t251_43 (by omega) (by omega) (fun h43 => ?_) (fun h43 => ?_)
        · refine g_p t251_48 rfl ?_
          refine r_getr t251_49 (f80 hF) rfl rfl ?_
          refine g_p t251_52 rfl ?_
          refine r_gete t251_53 (f80 hF) rfl rfl s1 ?_
          refine g_p t251_56 rfl ?_
          refine r_iast t251_57 (f104 hF) (by decide) (by omega) ?_
          refine g_p t251_58 rfl ?_
          refine r_getr t251_59 (f80 hF) rfl rfl ?_
          refine g_p t251_62 rfl ?_
          refine r_gete t251_63 (f80 hF) rfl rfl s1 ?_
          refine g_p t251_66 rfl ?_
          refine r_iast t251_67 (f105 hF) (by decide) (by omega) ?_
          refine g_p t251_68 rfl ?_
          refine r_getr t251_69 (f80 hF) rfl rfl ?_
          refine g_p t251_72 rfl ?_
          refine r_gete t251_73 (f80 hF) rfl rfl s1 ?_
          refine g_p t251_76 rfl ?_
          refine r_iast t251_77 (f106 hF) (by decide) (by omega) ?_
          refine g_p t251_78 rfl ?_
          refine g_p t251_79 rfl ?_
          refine r_gete t251_80 (f80 hF) rfl rfl s1 ?_
          refine g_k (n := 1) t251_83 rfl rfl ?_
          refine g_addn t251_84 ?_
          refine r_puti t251_85 (f80 hF) rfl rfl ?_
          refine g_p t251_88 rfl ?_
          refine r_gete t251_89 (f80 hF) rfl rfl rfl ?_
          refine i_ret t251_92 rfl (hq _ (((((FM.rf.m (by decide)).w (by decide) (by decide)).w (by decide) (by decide)).w (by decide) (by decide)).m (by decide)) ⟨?_, ?_, fun j hj => ?_⟩)
          · rw [List.length_append]; rfl
          · rw [List.length_append]; exact hl
          · rw [List.length_append] at hj
            by_cases h9 : j < se.length
            · rw [gDa1 h9, ri_wi_ne (by decide), ri_wi_ne (by decide), ri_wi_ne (by decide), ri_wi_j (Nat.ne_of_lt h9), ri_wi_ne (by decide), ri_wi_ne (by decide), ri_wi_ne (by decide), ri_wi_j (Nat.ne_of_lt h9), ri_wi_ne (by decide), ri_wi_ne (by decide), ri_wi_ne (by decide), ri_wi_j (Nat.ne_of_lt h9), ri_wi_ne (by decide), ri_wi_ne (by decide), ri_wi_ne (by decide)]
              exact hS.2.2 j h9
            · have h9 : j = se.length := by simp at hj; omega
              subst h9
              rw [gDa2]
              refine ⟨?_, ?_, ?_⟩
              · rw [ri_wi_ne (by decide), ri_wi_ne (by decide), ri_wi_ne (by decide), ri_wi_eq]
              · rw [ri_wi_ne (by decide), ri_wi_ne (by decide), ri_wi_eq]
              · rw [ri_wi_ne (by decide), ri_wi_eq]
        · first
            | exact absurd h14 (by decide)
            | exact absurd h22 (by decide)
            | exact absurd h34 (by decide)
            | (exfalso; omega)
theorem c251f (hF : Fx s) (hP5 : P ≤ 5) (m0 : ri s 80 20 = nI P) (hS : MSe se s) (hno : ¬ (se.length < 12 ∧ ∃ n q k, SeeOK P x y z n q k)) (hq : Q (some (.int (-1))) (mR (wi s 80 0 (nI 0)))) : gE X (d + 1) 251 [.ref 80, .int x, .int y, .int z] (mR s) Q := by
  have s1 := hS.1
  have s2 := hS.2.1
  refine en251 rfl rfl rfl rfl ?_
  refine g_p t251_0 rfl ?_
  refine g_k (n := 0) t251_1 rfl rfl ?_
  refine r_puti t251_2 (f80 hF) rfl rfl ?_
  refine g_p t251_5 rfl ?_
  refine g_p t251_6 rfl ?_
  refine g_p t251_7 rfl ?_
  refine g_p t251_8 rfl ?_
  refine g_cs t251_11 rfl rfl rfl ?_
  refine c176i (a := nI 1) (b := nI 6) rfl rfl ?_
  refine k_v ?_ rfl
  refine b_eq t251_14 (fun h14 => ?_) (fun h14 => ?_)
  · refine g_p t251_46 rfl ?_
    exact i_ret t251_47 rfl hq
  · refine g_p t251_17 rfl ?_
    refine g_p t251_18 rfl ?_
    refine r_cv t251_19 (f80 hF) rfl ?_
    refine c217 (by exact hF) (by exact m0) ?_
    refine k_v ?_ rfl
    refine b_eq t251_22 (fun h22 => ?_) (fun h22 => ?_)
    · refine g_p t251_46 rfl ?_
      exact i_ret t251_47 rfl hq
    · refine g_p t251_25 rfl ?_
      refine g_p t251_26 rfl ?_
      refine g_p t251_27 rfl ?_
      refine g_p t251_28 rfl ?_
      refine g_cs t251_31 rfl rfl rfl ?_
      refine c176i (a := nI 0) (b := nI 2) rfl rfl ?_
      refine k_v ?_ rfl
      refine b_eq t251_34 (fun h34 => ?_) (fun h34 => ?_)
      · refine g_p t251_46 rfl ?_
        exact i_ret t251_47 rfl hq
      · refine g_p t251_37 rfl ?_
        refine r_gete t251_38 (f80 hF) rfl rfl s1 ?_
        refine g_k (n := 12) t251_41 rfl rfl ?_
        refine n_cne t251_43 (by omega) (by omega) (fun h43 => ?_) (fun h43 => ?_)
        · obtain ⟨n, hn, n1, n2⟩ := isR_t (by decide) (by decide) h14
          obtain ⟨q, hqP, hq2⟩ := inN_t h22 (by omega)
          obtain ⟨k, hk, k1, k2⟩ := isR_t (by decide) (by decide) h34
          exact absurd ⟨by omega, n, q, k, hn, n1, n2, hq2, hqP, hk, k2⟩ hno
        · refine g_p t251_46 rfl ?_
          exact i_ret t251_47 rfl hq
theorem c252 (hF : Fx s) (hP5 : P ≤ 5) (m0 : ri s 80 20 = nI P) (hS : MSe se s) (hse : ∀ t ∈ se, t.1 ≤ 6 ∧ t.2.1 < P ∧ t.2.2 < 3) (hk : k < 100) (hc : c < 243) (hq : Q (some (.int (bI (wsn se P k c)))) (mR s)) : gE X (d + 2) 252 [.ref 80, .int (nI k), .int (nI c)] (mR s) Q := by
  have s1 := hS.1
  have s2 := hS.2.1
  have K : ∀ j i : Nat, i + j = se.length → wsn se P k c = ((se.drop i).all fun t => !(t.1 == k) || (pt P c t.2.1 == t.2.2)) → gG X (d + 2) 252 2 [.ref 80, .int (nI k), .int (nI c), .int (nI i)] [] (mR s) Q := by
    intro j
    induction j with
    | zero =>
      intro i hj he
      have hj : i = se.length := by omega
      subst hj
      rw [List.drop_length] at he
      refine g_p t252_2 rfl ?_
      refine g_p t252_3 rfl ?_
      refine r_gete t252_4 (f80 hF) rfl rfl s1 ?_
      refine n_cge t252_7 (by omega) (by omega) (fun h7 => ?_) (fun h7 => ?_)
      · refine g_k (n := 1) t252_48 rfl rfl ?_
        exact b_ret t252_49 (by rw [he]; rfl) hq
      · exfalso; omega
    | succ j ih =>
      intro i hj he
      have hil : i < se.length := by omega
      rw [all_drop _ a0 hil] at he
      obtain ⟨g1, g2, g3⟩ := hS.2.2 i hil
      obtain ⟨t, ht⟩ : ∃ t, t = se.getD i a0 := ⟨_, rfl⟩
      have hm : t ∈ se := by rw [ht]; simp [List.getD, hil]
      obtain ⟨u1, u2, u3⟩ := hse t hm
      rw [← ht] at g1 g2 g3 he
      have hpt := pt_lt P c t.2.1
      refine g_p t252_2 rfl ?_
      refine g_p t252_3 rfl ?_
      refine r_gete t252_4 (f80 hF) rfl rfl s1 ?_
      refine n_cge t252_7 (by omega) (by omega) (fun h7 => ?_) (fun h7 => ?_)
      · exfalso; omega
      · refine g_p t252_10 rfl ?_
        refine r_getr t252_11 (f80 hF) rfl rfl ?_
        refine g_p t252_14 rfl ?_
        refine r_iale t252_15 (f104 hF) (by decide) (by omega) g1 ?_
        refine g_p t252_16 rfl ?_
        refine n_cne t252_17 (by omega) (by omega) (fun h17 => ?_) (fun h17 => ?_)
        · refine g_incn (n := 1) t252_42 rfl rfl (Nat.le_of_ble_eq_true rfl) (am_s1_3 rfl) ?_
          refine g_goto t252_45 ?_
          refine ih (i + 1) (by omega) ?_
          rw [he]
          first
            | (have u0 : pt P c t.2.1 = t.2.2 := h37
               have e2 : (pt P c t.2.1 == t.2.2) = true := by rw [beq_iff_eq]; exact u0
               rw [e2, Bool.or_true, Bool.true_and])
            | (have u0 : ¬ t.1 = k := h17
               have e1 : (t.1 == k) = false := by rw [beq_eq_false_iff_ne]; exact u0
               rw [e1, Bool.not_false, Bool.true_or, Bool.true_and])
        · refine g_p t252_20 rfl ?_
          refine g_p t252_21 rfl ?_
          refine g_p t252_22 rfl ?_
          refine r_getr t252_23 (f80 hF) rfl rfl ?_
          refine g_p t252_26 rfl ?_
          refine r_iale t252_27 (f105 hF) (by decide) (by omega) g2 ?_
          refine r_cv t252_28 (f80 hF) rfl ?_
          refine c211 (by exact hF) (by exact m0) hP5 hc u2 ?_
          refine k_v ?_ rfl
          refine g_p t252_31 rfl ?_
          refine r_getr t252_32 (f80 hF) rfl rfl ?_
          refine g_p t252_35 rfl ?_
          refine r_iale t252_36 (f106 hF) (by decide) (by omega) g3 ?_
          refine n_ceq t252_37 (by omega) (by omega) (fun h37 => ?_) (fun h37 => ?_)
          · refine g_incn (n := 1) t252_42 rfl rfl (Nat.le_of_ble_eq_true rfl) (am_s1_3 rfl) ?_
            refine g_goto t252_45 ?_
            refine ih (i + 1) (by omega) ?_
            rw [he]
            first
              | (have u0 : pt P c t.2.1 = t.2.2 := h37
                 have e2 : (pt P c t.2.1 == t.2.2) = true := by rw [beq_iff_eq]; exact u0
                 rw [e2, Bool.or_true, Bool.true_and])
              | (have u0 : ¬ t.1 = k := h17
                 have e1 : (t.1 == k) = false := by rw [beq_eq_false_iff_ne]; exact u0
                 rw [e1, Bool.not_false, Bool.true_or, Bool.true_and])
          · refine g_k (n := 0) t252_40 rfl rfl ?_
            refine b_ret t252_41 ?_ hq
            have e1 : (t.1 == k) = true := by rw [beq_iff_eq]; first | exact h17 | exact Decidable.not_not.mp h17
            have e2 : (pt P c t.2.1 == t.2.2) = false := by rw [beq_eq_false_iff_ne]; exact h37
            rw [he, e1, e2]; rfl
  refine en252 rfl rfl rfl ?_
  refine g_k (n := 0) t252_0 rfl rfl ?_
  refine g_isn t252_1 (Nat.le_of_ble_eq_true rfl) (am_s1_3 rfl) ?_
  exact K se.length 0 (by omega) rfl
theorem c256t (hF : Fx s) (hP5 : P ≤ 5) (m0 : ri s 80 20 = nI P) (hT : MTo to s) (hk : TelOK P x y c k) (hl : to.length < 12) (hq : ∀ s', FM [109, 110] [0, 58] s s' → MTo (to ++ [(c, k)]) s' → Q (some (.int (nI (to.length + 1)))) (mR s')) : gE X (d + 4) 256 [.ref 80, .int x, .int y] (mR s) Q := by
  obtain ⟨hc, rfl, hk8⟩ := hk
  have hcm := cdO_lt hc
  have hm := mn_le hP5
  have hz2 : cdI P x = nI c := by rw [cdI_cdO, hc]; rfl
  have g1 : isL (nI k) = true := inN_n hk8 (by decide)
  have s1 := hT.1
  refine en256 rfl rfl rfl ?_
  refine g_p t256_0 rfl ?_
  refine g_k (n := 0) t256_1 rfl rfl ?_
  refine r_puti t256_2 (f80 hF) rfl rfl ?_
  refine g_p t256_5 rfl ?_
  refine g_p t256_6 rfl ?_
  refine r_cv t256_7 (f80 hF) rfl ?_
  refine c216 (by exact hF) (by exact m0) hP5 ?_
  refine k_v ?_ rfl
  rw [hz2]
  refine g_isn t256_10 (Nat.le_of_ble_eq_true rfl) (am_s1_3 rfl) ?_
  refine g_p t256_11 rfl ?_
  refine g_p t256_12 rfl ?_
  refine g_ceq t256_13 (fun h13 => ?_) (fun h13 => ?_)
  · first
      | exact absurd h13 (nI_m1 (by omega))
      | exact absurd h20 (by decide)
      | (exfalso; omega)
  · refine g_p t256_16 rfl ?_
    refine g_cs t256_17 rfl rfl rfl ?_
    refine c237 ?_
    refine k_v ?_ rfl
    rw [g1]
    refine b_eq t256_20 (fun h20 => ?_) (fun h20 => ?_)
    · first
        | exact absurd h13 (nI_m1 (by omega))
        | exact absurd h20 (by decide)
        | (exfalso; omega)
    · refine g_p t256_23 rfl ?_
      refine r_gete t256_24 (f80 hF) rfl rfl s1 ?_
      refine g_k (n := 12) t256_27 rfl rfl ?_
      refine n_cne t256_29 (by omega) (by omega) (fun h29 => ?_) (fun h29 => ?_)
      · refine g_p t256_34 rfl ?_
        refine r_getr t256_35 (f80 hF) rfl rfl ?_
        refine g_p t256_38 rfl ?_
        refine r_gete t256_39 (f80 hF) rfl rfl s1 ?_
        refine g_p t256_42 rfl ?_
        refine r_iast t256_43 (f109 hF) (by decide) (by omega) ?_
        refine g_p t256_44 rfl ?_
        refine r_getr t256_45 (f80 hF) rfl rfl ?_
        refine g_p t256_48 rfl ?_
        refine r_gete t256_49 (f80 hF) rfl rfl s1 ?_
        refine g_p t256_52 rfl ?_
        refine r_iast t256_53 (f110 hF) (by decide) (by omega) ?_
        refine g_p t256_54 rfl ?_
        refine g_p t256_55 rfl ?_
        refine r_gete t256_56 (f80 hF) rfl rfl s1 ?_
        refine g_k (n := 1) t256_59 rfl rfl ?_
        refine g_addn t256_60 ?_
        refine r_puti t256_61 (f80 hF) rfl rfl ?_
        refine g_p t256_64 rfl ?_
        refine r_gete t256_65 (f80 hF) rfl rfl rfl ?_
        refine i_ret t256_68 rfl (hq _ ((((FM.rf.m (by decide)).w (by decide) (by decide)).w (by decide) (by decide)).m (by decide)) ⟨?_, ?_, fun j hj => ?_⟩)
        · rw [List.length_append]; rfl
        · rw [List.length_append]; exact hl
        · rw [List.length_append] at hj
          by_cases h9 : j < to.length
          · rw [gDa1 h9, ri_wi_ne (by decide), ri_wi_ne (by decide), ri_wi_j (Nat.ne_of_lt h9), ri_wi_ne (by decide), ri_wi_ne (by decide), ri_wi_j (Nat.ne_of_lt h9), ri_wi_ne (by decide), ri_wi_ne (by decide)]
            exact hT.2.2 j h9
          · have h9 : j = to.length := by simp at hj; omega
            subst h9
            rw [gDa2]
            refine ⟨?_, ?_⟩
            · rw [ri_wi_ne (by decide), ri_wi_ne (by decide), ri_wi_eq]
            · rw [ri_wi_ne (by decide), ri_wi_eq]
      · first
          | exact absurd h13 (nI_m1 (by omega))
          | exact absurd h20 (by decide)
          | (exfalso; omega)
theorem c256f (hF : Fx s) (hP5 : P ≤ 5) (m0 : ri s 80 20 = nI P) (hT : MTo to s) (hno : ¬ (to.length < 12 ∧ ∃ a k, TelOK P x y a k)) (hq : Q (some (.int (-1))) (mR (wi s 80 0 (nI 0)))) : gE X (d + 4) 256 [.ref 80, .int x, .int y] (mR s) Q := by
  have s1 := hT.1
  have s2 := hT.2.1
  have hz2 : cdI P x = coI (cdO P x) := cdI_cdO
  refine en256 rfl rfl rfl ?_
  refine g_p t256_0 rfl ?_
  refine g_k (n := 0) t256_1 rfl rfl ?_
  refine r_puti t256_2 (f80 hF) rfl rfl ?_
  refine g_p t256_5 rfl ?_
  refine g_p t256_6 rfl ?_
  refine r_cv t256_7 (f80 hF) rfl ?_
  refine c216 (by exact hF) (by exact m0) hP5 ?_
  refine k_v ?_ rfl
  rw [hz2]
  refine g_isn t256_10 (Nat.le_of_ble_eq_true rfl) (am_s1_3 rfl) ?_
  refine g_p t256_11 rfl ?_
  refine g_p t256_12 rfl ?_
  refine g_ceq t256_13 (fun h13 => ?_) (fun h13 => ?_)
  · refine g_p t256_32 rfl ?_
    exact i_ret t256_33 rfl hq
  · refine g_p t256_16 rfl ?_
    refine g_cs t256_17 rfl rfl rfl ?_
    refine c237 ?_
    refine k_v ?_ rfl
    refine b_eq t256_20 (fun h20 => ?_) (fun h20 => ?_)
    · refine g_p t256_32 rfl ?_
      exact i_ret t256_33 rfl hq
    · refine g_p t256_23 rfl ?_
      refine r_gete t256_24 (f80 hF) rfl rfl s1 ?_
      refine g_k (n := 12) t256_27 rfl rfl ?_
      refine n_cne t256_29 (by omega) (by omega) (fun h29 => ?_) (fun h29 => ?_)
      · cases hc : cdO P x with
        | none => rw [hc] at h13; exact absurd rfl h13
        | some c =>
          obtain ⟨k, hk, rfl⟩ := inN_t h20 (by decide)
          exact absurd ⟨by omega, c, k, hc, rfl, hk⟩ hno
      · refine g_p t256_32 rfl ?_
        exact i_ret t256_33 rfl hq
theorem c257f (hF : Fx s) (m0 : ri s 80 20 = nI 0) (hq : Q (some (.int (-1))) (mR (wi s 80 0 (nI 0)))) : gE X d 257 [.ref 80] (mR s) Q := by
  refine en257 rfl ?_
  refine g_p t257_0 rfl ?_
  refine g_k (n := 0) t257_1 rfl rfl ?_
  refine r_puti t257_2 (f80 hF) rfl rfl ?_
  refine g_p t257_5 rfl ?_
  refine r_gete t257_6 (f80 hF) rfl rfl m0 ?_
  refine n_ne t257_9 (by omega) (fun h9 => ?_) (fun h9 => ?_)
  · exact absurd rfl h9
  · refine g_p t257_12 rfl ?_
    exact i_ret t257_13 rfl hq
theorem c257t (hF : Fx s) (hP5 : P ≤ 5) (hP0 : 0 < P) (m0 : ri s 80 20 = nI P) (hM : MB bks s) (hT : MTo to s) (hto : ∀ t ∈ to, t.1 < mn P ∧ t.2 < 8) (hq : Q (some (.int (nI (agb P bks to bks.length)))) (mR (wi s 80 0 (nI 0)))) : gE X (d + 4) 257 [.ref 80] (mR s) Q := by
  have hm := mn_le hP5
  have s1 := hT.1
  have s2 := hT.2.1
  have e28 := hM.1
  have hb3 := hM.2.1
  have K : ∀ j i : Nat, i + j = bks.length → ∀ z3 z4, am_nl z3 = true → gG X (d + 4) 257 18 [.ref 80, .int (nI (agb P bks to i)), .int (nI i), z3, z4] [] (mR (wi s 80 0 (nI 0))) Q := by
    intro j
    induction j with
    | zero =>
      intro i hj z3 z4 n3
      have hj : i = bks.length := by omega
      subst hj
      refine g_p t257_18 rfl ?_
      refine g_p t257_19 rfl ?_
      refine r_gete t257_20 (f80 hF) rfl rfl e28 ?_
      refine n_cge t257_23 (by omega) (by omega) (fun h23 => ?_) (fun h23 => ?_)
      · refine g_p t257_98 rfl ?_
        exact i_ret t257_99 rfl hq
      · exfalso; omega
    | succ j ih =>
      intro i hj z3 z4 n3
      have hil : i < bks.length := by omega
      have hb3 := hM.2.1
      have hB1 := hM.2.2 i hil
      have hag := agb_lt (P := P) (bks := bks) (to := to) i
      have hp8 : 2 ^ i ≤ 2 ^ 3 := Nat.pow_le_pow_right (by decide) (by omega)
      have h83 : (2 : Nat) ^ 3 = 8 := by decide
      have ih := ih (i + 1) (by omega)
      have L : ∀ m t : Nat, t + m = to.length → gG X (d + 4) 257 31 [.ref 80, .int (nI (agb P bks to i)), .int (nI i), .int (bI ((to.take t).all fun t => decide (sy P (bks.getD i nk) t.1 = nI t.2))), .int (nI t)] [] (mR (wi s 80 0 (nI 0))) Q := by
        intro m
        induction m with
        | zero =>
          intro t ht
          have ht : t = to.length := by omega
          subst ht
          rw [List.take_length]
          unfold agb tok at ih
          refine g_p t257_31 rfl ?_
          refine g_p t257_33 rfl ?_
          refine r_gete t257_34 (f80 hF) rfl rfl s1 ?_
          refine n_cge t257_37 (by omega) (by omega) (fun h37 => ?_) (fun h37 => ?_)
          · refine g_p t257_78 rfl ?_
            refine g_p t257_79 rfl ?_
            refine b_eq t257_80 (fun h80 => ?_) (fun h80 => ?_)
            · refine g_k (n := 0) t257_89 rfl rfl ?_
              refine g_ior t257_90 ?_
              rw [nI_or (by omega) (by omega)]
              refine g_isn t257_91 (Nat.le_of_ble_eq_true rfl) (am_s1_1 rfl) ?_
              refine g_incn (n := 1) t257_92 rfl rfl (Nat.le_of_ble_eq_true rfl) (am_s1_2 rfl) ?_
              refine g_goto t257_95 ?_
              first
                | (have u0 := h80
                   rw [if_pos u0] at ih
                   exact ih _ _ rfl)
                | (have u0 := h80
                   rw [if_neg (fun h => no_b h u0)] at ih
                   rw [Nat.or_zero]
                   exact ih _ _ rfl)
            · refine g_k (n := 1) t257_83 rfl rfl ?_
              refine g_p t257_84 rfl ?_
              refine g_ishl t257_85 ?_
              rw [shl1 i (by omega)]
              refine g_goto t257_86 ?_
              refine g_ior t257_90 ?_
              rw [nI_or (by omega) (by omega)]
              refine g_isn t257_91 (Nat.le_of_ble_eq_true rfl) (am_s1_1 rfl) ?_
              refine g_incn (n := 1) t257_92 rfl rfl (Nat.le_of_ble_eq_true rfl) (am_s1_2 rfl) ?_
              refine g_goto t257_95 ?_
              first
                | (have u0 := h80
                   rw [if_pos u0] at ih
                   exact ih _ _ rfl)
                | (have u0 := h80
                   rw [if_neg (fun h => no_b h u0)] at ih
                   rw [Nat.or_zero]
                   exact ih _ _ rfl)
          · exfalso; omega
        | succ m ih2 =>
          intro t ht
          have htl : t < to.length := by omega
          obtain ⟨g1, g2⟩ := hT.2.2 t htl
          obtain ⟨u, hu⟩ : ∃ u, u = to.getD t (0, 0) := ⟨_, rfl⟩
          have hmm : u ∈ to := by rw [hu]; simp [List.getD, htl]
          obtain ⟨u1, u2⟩ := hto u hmm
          rw [← hu] at g1 g2
          have ih2 := ih2 (t + 1) (by omega)
          have e : (to.take (t + 1)).all (fun t => decide (sy P (bks.getD i nk) t.1 = nI t.2)) = ((to.take t).all (fun t => decide (sy P (bks.getD i nk) t.1 = nI t.2)) && decide (sy P (bks.getD i nk) u.1 = nI u.2)) := by
            have e2 : to[t] = u := by rw [hu]; simp [List.getD, htl]
            rw [List.take_succ_eq_append_getElem htl, List.all_append, e2]
            simp
          rw [e] at ih2
          refine g_p t257_31 rfl ?_
          refine g_p t257_33 rfl ?_
          refine r_gete t257_34 (f80 hF) rfl rfl s1 ?_
          refine n_cge t257_37 (by omega) (by omega) (fun h37 => ?_) (fun h37 => ?_)
          · exfalso; omega
          · refine g_p t257_40 rfl ?_
            refine b_eq t257_41 (fun h41 => ?_) (fun h41 => ?_)
            · refine g_k (n := 0) t257_70 rfl rfl ?_
              refine g_isn t257_71 (Nat.le_of_ble_eq_true rfl) (am_s1_3 rfl) ?_
              refine g_incn (n := 1) t257_72 rfl rfl (Nat.le_of_ble_eq_true rfl) (am_s1_4 rfl) ?_
              refine g_goto t257_75 ?_
              first
                | (have u0 : sy P (bks.getD i nk) u.1 = nI u.2 := h63
                   rw [h41, decide_eq_true u0] at ih2
                   exact ih2)
                | (have u0 : ¬ sy P (bks.getD i nk) u.1 = nI u.2 := h63
                   rw [decide_eq_false u0, Bool.and_false] at ih2
                   exact ih2)
                | (rw [h41, Bool.false_and] at ih2
                   exact ih2)
            · refine g_p t257_44 rfl ?_
              refine g_p t257_45 rfl ?_
              refine g_p t257_46 rfl ?_
              refine r_getr t257_47 (f80 hF) rfl rfl ?_
              refine g_p t257_50 rfl ?_
              refine r_iale t257_52 (f109 hF) (by decide) (by omega) g1 ?_
              refine r_cv t257_53 (f80 hF) rfl ?_
              refine c231 (by exact hF) (by exact m0) hP5 (by exact hB1) (by omega) (by omega) ?_
              refine k_v ?_ rfl
              refine g_p t257_56 rfl ?_
              refine r_getr t257_57 (f80 hF) rfl rfl ?_
              refine g_p t257_60 rfl ?_
              refine r_iale t257_62 (f110 hF) (by decide) (by omega) g2 ?_
              refine g_cne t257_63 (fun h63 => ?_) (fun h63 => ?_)
              · refine g_k (n := 0) t257_70 rfl rfl ?_
                refine g_isn t257_71 (Nat.le_of_ble_eq_true rfl) (am_s1_3 rfl) ?_
                refine g_incn (n := 1) t257_72 rfl rfl (Nat.le_of_ble_eq_true rfl) (am_s1_4 rfl) ?_
                refine g_goto t257_75 ?_
                first
                  | (have u0 : sy P (bks.getD i nk) u.1 = nI u.2 := h63
                     rw [h41, decide_eq_true u0] at ih2
                     exact ih2)
                  | (have u0 : ¬ sy P (bks.getD i nk) u.1 = nI u.2 := h63
                     rw [decide_eq_false u0, Bool.and_false] at ih2
                     exact ih2)
                  | (rw [h41, Bool.false_and] at ih2
                     exact ih2)
              · refine g_k (n := 1) t257_66 rfl rfl ?_
                refine g_goto t257_67 ?_
                refine g_isn t257_71 (Nat.le_of_ble_eq_true rfl) (am_s1_3 rfl) ?_
                refine g_incn (n := 1) t257_72 rfl rfl (Nat.le_of_ble_eq_true rfl) (am_s1_4 rfl) ?_
                refine g_goto t257_75 ?_
                first
                  | (have u0 : sy P (bks.getD i nk) u.1 = nI u.2 := h63
                     rw [h41, decide_eq_true u0] at ih2
                     exact ih2)
                  | (have u0 : ¬ sy P (bks.getD i nk) u.1 = nI u.2 := h63
                     rw [decide_eq_false u0, Bool.and_false] at ih2
                     exact ih2)
                  | (rw [h41, Bool.false_and] at ih2
                     exact ih2)
      refine g_p t257_18 rfl ?_
      refine g_p t257_19 rfl ?_
      refine r_gete t257_20 (f80 hF) rfl rfl e28 ?_
      refine n_cge t257_23 (by omega) (by omega) (fun h23 => ?_) (fun h23 => ?_)
      · exfalso; omega
      · refine g_k (n := 1) t257_26 rfl rfl ?_
        refine g_isn t257_27 (Nat.le_of_ble_eq_true rfl) (am_s1_3 rfl) ?_
        refine g_k (n := 0) t257_28 rfl rfl ?_
        refine g_is t257_29 (Nat.le_of_ble_eq_true rfl) (am_s1_4 rfl) ?_
        exact L to.length 0 (by omega)
  refine en257 rfl ?_
  refine g_p t257_0 rfl ?_
  refine g_k (n := 0) t257_1 rfl rfl ?_
  refine r_puti t257_2 (f80 hF) rfl rfl ?_
  refine g_p t257_5 rfl ?_
  refine r_gete t257_6 (f80 hF) rfl rfl m0 ?_
  refine n_ne t257_9 (by omega) (fun h9 => ?_) (fun h9 => ?_)
  · refine g_k (n := 0) t257_14 rfl rfl ?_
    refine g_isn t257_15 (Nat.le_of_ble_eq_true rfl) (am_s1_1 rfl) ?_
    refine g_k (n := 0) t257_16 rfl rfl ?_
    refine g_isn t257_17 (Nat.le_of_ble_eq_true rfl) (am_s1_2 rfl) ?_
    exact K bks.length 0 (by omega) _ _ rfl
  · exfalso; omega
theorem c177 (hB : B < 32) (hk : k < 5) (hq : Q (some (.int (bI (B.testBit k)))) hp) : gE X d 177 [.int (nI B), .int (nI k)] hp Q := by
  refine en177 rfl rfl ?_
  refine g_p t177_0 rfl ?_
  refine g_p t177_1 rfl ?_
  refine g_ishr t177_2 ?_
  refine g_k (n := 1) t177_3 rfl rfl ?_
  refine g_iand t177_4 ?_
  rw [sh_tb B hB k hk]
  refine g_k (n := 1) t177_5 rfl rfl ?_
  refine n_cne t177_6 (by cases B.testBit k <;> decide) (by decide) (fun h6 => ?_) (fun h6 => ?_)
  · refine g_k (n := 0) t177_13 rfl rfl ?_
    exact b_ret t177_14 (by
      cases h : B.testBit k
      · first | rfl | (rw [h] at h6; exact absurd h6 (by decide))
      · first | rfl | (rw [h] at h6; exact absurd rfl h6)) hq
  · refine g_k (n := 1) t177_9 rfl rfl ?_
    refine g_goto t177_10 ?_
    exact b_ret t177_14 (by
      cases h : B.testBit k
      · first | rfl | (rw [h] at h6; exact absurd h6 (by decide))
      · first | rfl | (rw [h] at h6; exact absurd rfl h6)) hq
theorem c258 (hF : Fx s) (hP5 : P ≤ 5) (m0 : ri s 80 20 = nI P) (hT : MTo to s) (hto : ∀ t ∈ to, t.1 < mn P ∧ t.2 < 8) (hB : B < 32) {i k : Nat} (hi : i < to.length) (hk : k < to.length) (hq : Q (some (.int (bI (decide (¬ upu P (to.getD i (0, 0)).1 (to.getD k (0, 0)).1 P &&& B = 0))))) (mR s)) : gE X (d + 2) 258 [.ref 80, .int (nI B), .int (nI i), .int (nI k)] (mR s) Q := by
  have hm := mn_le hP5
  have s2 := hT.2.1
  obtain ⟨a, ha⟩ : ∃ a, a = (to.getD i (0, 0)).1 := ⟨_, rfl⟩
  obtain ⟨b, hb⟩ : ∃ b, b = (to.getD k (0, 0)).1 := ⟨_, rfl⟩
  have ha2 : a < mn P := by rw [ha]; exact (hto _ (by simp [List.getD, hi])).1
  have hb2 : b < mn P := by rw [hb]; exact (hto _ (by simp [List.getD, hk])).1
  have g1 := (hT.2.2 i hi).1
  have g2 := (hT.2.2 k hk).1
  rw [← ha, ← hb] at hq
  rw [← ha] at g1
  rw [← hb] at g2
  have K : ∀ j q : Nat, q + j = P → (∀ p, p < q → ¬ (B.testBit p = true ∧ pt P a p ≠ pt P b p)) → gG X (d + 2) 258 3 [.ref 80, .int (nI B), .int (nI i), .int (nI k), .int (nI q)] [] (mR s) Q := by
    intro j
    induction j with
    | zero =>
      intro q hj hn
      have hj : q = P := by omega
      have e : upu P a b P &&& B = 0 := by
        apply Nat.eq_of_testBit_eq
        intro p
        rw [Nat.testBit_and, upu_tb, Nat.zero_testBit]
        by_cases hp : p < P
        · have := hn p (by omega)
          cases hB2 : B.testBit p
          · simp
          · have : pt P a p = pt P b p := Decidable.not_not.mp (fun h => this ⟨hB2, h⟩)
            simp [this]
        · simp [hp]
      rw [e] at hq
      subst hj
      refine g_p t258_3 rfl ?_
      refine g_p t258_5 rfl ?_
      refine r_gete t258_6 (f80 hF) rfl rfl m0 ?_
      refine n_cge t258_9 (by omega) (by omega) (fun h9 => ?_) (fun h9 => ?_)
      · refine g_k (n := 0) t258_56 rfl rfl ?_
        exact b_ret t258_57 rfl hq
      · exfalso; omega
    | succ j ih =>
      intro q hj hn
      have hq5 : q < P := by omega
      have hpa := pt_lt P a q
      have hpb := pt_lt P b q
      refine g_p t258_3 rfl ?_
      refine g_p t258_5 rfl ?_
      refine r_gete t258_6 (f80 hF) rfl rfl m0 ?_
      refine n_cge t258_9 (by omega) (by omega) (fun h9 => ?_) (fun h9 => ?_)
      · exfalso; omega
      · refine g_p t258_12 rfl ?_
        refine g_p t258_13 rfl ?_
        refine g_cs t258_15 rfl rfl rfl ?_
        refine c177 hB (by omega) ?_
        refine k_v ?_ rfl
        refine b_eq t258_18 (fun h18 => ?_) (fun h18 => ?_)
        · refine g_incn (n := 1) t258_50 rfl rfl (Nat.le_of_ble_eq_true rfl) (am_s1_4 rfl) ?_
          refine g_goto t258_53 ?_
          refine ih (q + 1) (by omega) (fun p hp => ?_)
          by_cases h9 : p = q
          · subst h9
            first
              | (have u0 : pt P a p = pt P b p := h45
                 exact fun h => h.2 u0)
              | (have u0 : B.testBit p = false := h18
                 exact fun h => no_b h.1 u0)
          · exact hn p (by omega)
        · refine g_p t258_21 rfl ?_
          refine g_p t258_22 rfl ?_
          refine r_getr t258_23 (f80 hF) rfl rfl ?_
          refine g_p t258_26 rfl ?_
          refine r_iale t258_27 (f109 hF) (by decide) (by omega) g1 ?_
          refine g_p t258_28 rfl ?_
          refine r_cv t258_30 (f80 hF) rfl ?_
          refine c211 (by exact hF) (by exact m0) hP5 (by omega) (by omega) ?_
          refine k_v ?_ rfl
          refine g_p t258_33 rfl ?_
          refine g_p t258_34 rfl ?_
          refine r_getr t258_35 (f80 hF) rfl rfl ?_
          refine g_p t258_38 rfl ?_
          refine r_iale t258_39 (f109 hF) (by decide) (by omega) g2 ?_
          refine g_p t258_40 rfl ?_
          refine r_cv t258_42 (f80 hF) rfl ?_
          refine c211 (by exact hF) (by exact m0) hP5 (by omega) (by omega) ?_
          refine k_v ?_ rfl
          refine n_ceq t258_45 (by omega) (by omega) (fun h45 => ?_) (fun h45 => ?_)
          · refine g_incn (n := 1) t258_50 rfl rfl (Nat.le_of_ble_eq_true rfl) (am_s1_4 rfl) ?_
            refine g_goto t258_53 ?_
            refine ih (q + 1) (by omega) (fun p hp => ?_)
            by_cases h9 : p = q
            · subst h9
              first
                | (have u0 : pt P a p = pt P b p := h45
                   exact fun h => h.2 u0)
                | (have u0 : B.testBit p = false := h18
                   exact fun h => no_b h.1 u0)
            · exact hn p (by omega)
          · refine g_k (n := 1) t258_48 rfl rfl ?_
            refine b_ret t258_49 ?_ hq
            have e9 : ¬ upu P a b P &&& B = 0 := by
              intro e
              have := congrArg (fun x => x.testBit q) e
              simp only [Nat.testBit_and, upu_tb, Nat.zero_testBit] at this
              rw [h18, decide_eq_true hq5, decide_eq_true h45] at this
              exact absurd this (by decide)
            rw [decide_eq_true e9]; rfl
  refine en258 rfl rfl rfl rfl ?_
  refine g_k (n := 0) t258_0 rfl rfl ?_
  refine g_is t258_1 (Nat.le_of_ble_eq_true rfl) (am_s1_4 rfl) ?_
  exact K P 0 (by omega) (fun p hp => absurd hp (Nat.not_lt_zero p))
end RN
