/-! THE FACE, 7: the aunt, slips -/
def saym (P : Nat) (b : Bk) (y : Int32) (l : List Nat) : Nat := (l.filter fun t => decide (sy P b t = y)).length
def isf (P r w : Nat) (b : Bk) (y : Int32) (c : Nat) : Bool := (sn P r w c).all fun t => decide (sy P b t = -1) || decide (sy P b t = y)
def sfl (P r w : Nat) (b : Bk) (y : Int32) (n : Nat) : List Nat := (List.range n).filter fun c => std P r w c && decide (sy P b c = y) && isf P r w b y c
def sfv (P r w : Nat) (b : Bk) (y z : Int32) : Int32 := if z = -1 then nI (sfl P r w b y (mn P)).length else if inN (sfl P r w b y (mn P)).length z = true then nI (dg P ((sfl P r w b y (mn P)).getD z.toNatClampNeg 0)) else -1
theorem saym_app {P : Nat} {b : Bk} {y : Int32} {l m : List Nat} : saym P b y (l ++ m) = saym P b y l + saym P b y m := by unfold saym; rw [List.filter_append, List.length_append]
theorem saym_1 {P : Nat} {b : Bk} {y : Int32} {t : Nat} : saym P b y [t] = one (decide (sy P b t = y)) := by
  unfold saym
  by_cases h : sy P b t = y
  · simp [h, one]
  · simp [h, one]
theorem saym_le {P : Nat} {b : Bk} {y : Int32} {l : List Nat} : saym P b y l ≤ l.length := List.length_filter_le ..
theorem filt_drop {f : Nat → Bool} {l : List Nat} {k : Nat} (h : k < l.length) : (l.drop k).filter f = if f (l.getD k 0) = true then l.getD k 0 :: (l.drop (k + 1)).filter f else (l.drop (k + 1)).filter f := by
  rw [drop_cons h, List.filter_cons]
theorem sfl_s {P r w n : Nat} {b : Bk} {y : Int32} : sfl P r w b y (n + 1) = sfl P r w b y n ++ (if (std P r w n && decide (sy P b n = y) && isf P r w b y n) = true then [n] else []) := by
  unfold sfl
  rw [List.range_succ, List.filter_append, List.filter_cons]
  rfl
theorem sfl_pre {P r w : Nat} {b : Bk} {y : Int32} {n : Nat} : ∀ {m : Nat}, n ≤ m → ∃ t, sfl P r w b y m = sfl P r w b y n ++ t := by
  intro m
  induction m with
  | zero => intro h; exact ⟨[], by rw [show n = 0 by omega]; simp⟩
  | succ m ih =>
    intro h
    by_cases h2 : n = m + 1
    · exact ⟨[], by rw [h2]; simp⟩
    · obtain ⟨t, ht⟩ := ih (by omega)
      exact ⟨_, by rw [sfl_s, ht, List.append_assoc]⟩
theorem sfl_len {P r w : Nat} {b : Bk} {y : Int32} (n : Nat) : (sfl P r w b y n).length ≤ n := by
  unfold sfl
  exact Nat.le_trans (List.length_filter_le ..) (by rw [List.length_range]; exact Nat.le_refl _)
section FH
variable {X : am_X} {d : Nat} {s : mM} {Q : Option Value → am_H → Prop} {P r w pd row day left a c k q n p : Nat} {bp : List Nat} {x y z u : Int32} {bks : List Bk} {b : Bk}
theorem c153t (hF : Fx s) (hR : CR P s) (hW : CW r w pd row day left s) (hr5 : r ≤ 5) (hw5 : w ≤ 5) (hst : 0 < P → std P r w row = true) (hB : CBk P bks bp s) (hb3 : bks.length ≤ 3) (hg : bG P bks x = some b) (h2 : isL0 y = true) (h3 : isH z = true)
    (hq : Q (some (.int (if z = 0 then nI (one (decide (sy P b row = y)) + saym P b y (sn P r w row)) else nI (1 + (sn P r w row).length)))) (mR s)) : gE X (d + 4) 153 [.ref 0, .int x, .int y, .int z] (mR s) Q := by
  have hP5 := hR.2.2.1
  have hm := mn_le hP5
  obtain ⟨hP0, k, hk, rfl, rfl⟩ := bG_t hg (by omega)
  obtain ⟨qp, qB, qT, qS, qL⟩ := hB.2.2.1 k hk
  have hrN := (std_t (hst hP0)).1
  have hnl := nb_len hP5 hrN
  have hbk := hR.2.2.2.2.2.2.2 row hrN
  obtain ⟨e1, e2, e3, e4, e5, e6⟩ := hW
  have K : ∀ j i : Nat, i + j = (nb P row).length → ∀ z8, gG X (d + 4) 153 58 [.ref 0, .int (nI k), .int y, .int z, .ref (bp.getD k 0), .int (nI (1 + (flt (std P r w) (nb P row) i).length)), .int (nI (one (decide (sy P (bks.getD k nk) row = y)) + saym P (bks.getD k nk) y (flt (std P r w) (nb P row) i))), .int (nI i), z8] [] (mR s) Q := by
    intro j
    induction j with
    | zero =>
      intro i hj z8
      have hj : i = (nb P row).length := by omega
      subst hj
      rw [flt_all]
      refine g_p t153_58 rfl ?_
      refine g_p t153_60 rfl ?_
      refine r_getr t153_61 (f0 hF) rfl rfl ?_
      refine g_p t153_64 rfl ?_
      refine r_getr t153_65 (f0 hF) rfl rfl ?_
      refine r_cv t153_68 (f32 hF) rfl ?_
      refine c96 (by exact hF) e4 ?_
      refine k_v ?_ rfl
      refine r_cv t153_71 (f19 hF) rfl ?_
      refine c81 (by exact hF) (by omega) hbk.1 ?_
      refine k_v ?_ rfl
      refine n_cge t153_74 (by omega) (by omega) (fun h74 => ?_) (fun h74 => ?_)
      · refine g_p t153_137 rfl ?_
        refine g_ne t153_138 (fun h138 => ?_) (fun h138 => ?_)
        · refine g_p t153_146 rfl ?_
          first
            | (have uu : z = 0 := h138; exact i_ret t153_148 (by rw [if_pos uu]; rfl) hq)
            | (have uu : ¬ z = 0 := h138; exact i_ret t153_148 (by rw [if_neg uu]; rfl) hq)
        · refine g_p t153_141 rfl ?_
          refine g_goto t153_143 ?_
          first
            | (have uu : z = 0 := h138; exact i_ret t153_148 (by rw [if_pos uu]; rfl) hq)
            | (have uu : ¬ z = 0 := h138; exact i_ret t153_148 (by rw [if_neg uu]; rfl) hq)
      · exfalso; omega
    | succ j ih =>
      intro i hj z8
      have hil : i < (nb P row).length := by omega
      obtain ⟨t, ht⟩ : ∃ t, t = (nb P row).getD i 0 := ⟨_, rfl⟩
      have htN : t < mn P := by rw [ht]; exact nbD hP5 hrN hil
      refine g_p t153_58 rfl ?_
      refine g_p t153_60 rfl ?_
      refine r_getr t153_61 (f0 hF) rfl rfl ?_
      refine g_p t153_64 rfl ?_
      refine r_getr t153_65 (f0 hF) rfl rfl ?_
      refine r_cv t153_68 (f32 hF) rfl ?_
      refine c96 (by exact hF) e4 ?_
      refine k_v ?_ rfl
      refine r_cv t153_71 (f19 hF) rfl ?_
      refine c81 (by exact hF) (by omega) hbk.1 ?_
      refine k_v ?_ rfl
      refine n_cge t153_74 (by omega) (by omega) (fun h74 => ?_) (fun h74 => ?_)
      · exfalso; omega
      · refine g_p t153_77 rfl ?_
        refine r_getr t153_78 (f0 hF) rfl rfl ?_
        refine g_p t153_81 rfl ?_
        refine r_getr t153_82 (f0 hF) rfl rfl ?_
        refine r_cv t153_85 (f32 hF) rfl ?_
        refine c96 (by exact hF) e4 ?_
        refine k_v ?_ rfl
        refine g_p t153_88 rfl ?_
        refine r_cv t153_90 (f19 hF) rfl ?_
        refine c82 (by exact hF) (by omega) (hbk.2 i hil) ?_
        refine k_v ?_ rfl
        rw [← ht]
        refine g_is t153_93 (Nat.le_of_ble_eq_true rfl) (am_s1_8 rfl) ?_
        refine g_p t153_95 rfl ?_
        refine r_getr t153_96 (f0 hF) rfl rfl ?_
        refine g_p t153_99 rfl ?_
        refine r_cv t153_101 (f32 hF) rfl ?_
        refine c103 (by exact hF) (by exact hR) (by omega) (by exact e1) (by exact e2) hr5 hw5 ?_
        refine k_v ?_ rfl
        refine b_eq t153_104 (fun h104 => ?_) (fun h104 => ?_)
        · refine g_incn (n := 1) t153_131 rfl rfl (Nat.le_of_ble_eq_true rfl) (am_s1_7 rfl) ?_
          refine g_goto t153_134 ?_
          have this := ih (i + 1) (by omega) (.int (nI t))
          rw [flt, ← ht] at this
          first
            | (have u0 := h120
               have u1 := h104
               rw [if_pos u1, List.length_append, saym_app, saym_1] at this
               first
                 | (rw [decide_eq_true u0] at this; simp only [List.length_cons, List.length_nil, ← Nat.add_assoc] at this; exact this)
                 | (rw [decide_eq_false u0] at this; simp only [List.length_cons, List.length_nil, ← Nat.add_assoc] at this; exact this)
                 | (rw [decide_eq_false (show ¬ sy P (bks.getD k nk) t = y from u0)] at this; simp only [List.length_cons, List.length_nil, ← Nat.add_assoc] at this; exact this))
            | (have u1 := h104
               rw [if_neg (fun h => no_b h u1), List.append_nil] at this
               exact this)
        · refine g_incn (n := 1) t153_107 rfl rfl (Nat.le_of_ble_eq_true rfl) (am_s1_5 rfl) ?_
          refine g_p t153_110 rfl ?_
          refine g_p t153_112 rfl ?_
          refine g_p t153_114 rfl ?_
          refine r_cv t153_116 qB.1 rfl ?_
          refine c10 (by exact qB) (by omega) (by exact qS t htN) ?_
          refine k_v ?_ rfl
          refine g_p t153_119 rfl ?_
          refine g_cne t153_120 (fun h120 => ?_) (fun h120 => ?_)
          · refine g_k (n := 0) t153_127 rfl rfl ?_
            refine g_addn t153_128 ?_
            refine g_is t153_129 (Nat.le_of_ble_eq_true rfl) (am_s1_6 rfl) ?_
            refine g_incn (n := 1) t153_131 rfl rfl (Nat.le_of_ble_eq_true rfl) (am_s1_7 rfl) ?_
            refine g_goto t153_134 ?_
            have this := ih (i + 1) (by omega) (.int (nI t))
            rw [flt, ← ht] at this
            first
              | (have u0 := h120
                 have u1 := h104
                 rw [if_pos u1, List.length_append, saym_app, saym_1] at this
                 first
                   | (rw [decide_eq_true u0] at this; simp only [List.length_cons, List.length_nil, ← Nat.add_assoc] at this; exact this)
                   | (rw [decide_eq_false u0] at this; simp only [List.length_cons, List.length_nil, ← Nat.add_assoc] at this; exact this)
                   | (rw [decide_eq_false (show ¬ sy P (bks.getD k nk) t = y from u0)] at this; simp only [List.length_cons, List.length_nil, ← Nat.add_assoc] at this; exact this))
              | (have u1 := h104
                 rw [if_neg (fun h => no_b h u1), List.append_nil] at this
                 exact this)
          · refine g_k (n := 1) t153_123 rfl rfl ?_
            refine g_goto t153_124 ?_
            refine g_addn t153_128 ?_
            refine g_is t153_129 (Nat.le_of_ble_eq_true rfl) (am_s1_6 rfl) ?_
            refine g_incn (n := 1) t153_131 rfl rfl (Nat.le_of_ble_eq_true rfl) (am_s1_7 rfl) ?_
            refine g_goto t153_134 ?_
            have this := ih (i + 1) (by omega) (.int (nI t))
            rw [flt, ← ht] at this
            first
              | (have u0 := h120
                 have u1 := h104
                 rw [if_pos u1, List.length_append, saym_app, saym_1] at this
                 first
                   | (rw [decide_eq_true u0] at this; simp only [List.length_cons, List.length_nil, ← Nat.add_assoc] at this; exact this)
                   | (rw [decide_eq_false u0] at this; simp only [List.length_cons, List.length_nil, ← Nat.add_assoc] at this; exact this)
                   | (rw [decide_eq_false (show ¬ sy P (bks.getD k nk) t = y from u0)] at this; simp only [List.length_cons, List.length_nil, ← Nat.add_assoc] at this; exact this))
              | (have u1 := h104
                 rw [if_neg (fun h => no_b h u1), List.append_nil] at this
                 exact this)
  refine en153 rfl rfl rfl rfl ?_
  refine g_p t153_0 rfl ?_
  refine g_p t153_1 rfl ?_
  refine r_cv t153_2 (f0 hF) rfl ?_
  refine c130t (by exact hF) (by exact hR.1) hP5 hP0 (by exact hB) hk ?_
  refine k_v ?_ rfl
  refine g_as t153_5 rfl (Nat.le_of_ble_eq_true rfl) (am_s1_4 rfl) ?_
  refine g_p t153_7 rfl ?_
  refine g_b (b := false) t153_9 rfl ?_
  refine g_p t153_12 rfl ?_
  refine g_cs t153_13 rfl rfl rfl ?_
  refine c133 ?_
  refine k_v ?_ rfl
  refine b_eq t153_16 (fun h16 => ?_) (fun h16 => ?_)
  · first
      | exact no_b h2 h16
      | exact no_b h3 h23
  · refine g_p t153_19 rfl ?_
    refine g_cs t153_20 rfl rfl rfl ?_
    refine c135 ?_
    refine k_v ?_ rfl
    refine b_ne t153_23 (fun h23 => ?_) (fun h23 => ?_)
    · refine g_k (n := 1) t153_29 rfl rfl ?_
      refine g_is t153_30 (Nat.le_of_ble_eq_true rfl) (am_s1_5 rfl) ?_
      refine g_p t153_32 rfl ?_
      refine g_p t153_34 rfl ?_
      refine r_getr t153_35 (f0 hF) rfl rfl ?_
      refine r_cv t153_38 (f32 hF) rfl ?_
      refine c96 (by exact hF) e4 ?_
      refine k_v ?_ rfl
      refine r_cv t153_41 qB.1 rfl ?_
      refine c10 (by exact qB) (by omega) (by exact qS row hrN) ?_
      refine k_v ?_ rfl
      refine g_p t153_44 rfl ?_
      refine g_cne t153_45 (fun h45 => ?_) (fun h45 => ?_)
      · refine g_k (n := 0) t153_52 rfl rfl ?_
        refine g_is t153_53 (Nat.le_of_ble_eq_true rfl) (am_s1_6 rfl) ?_
        refine g_k (n := 0) t153_55 rfl rfl ?_
        refine g_is t153_56 (Nat.le_of_ble_eq_true rfl) (am_s1_7 rfl) ?_
        have this := K (nb P row).length 0 (by omega) (.float 0)
        first
          | (have u0 : sy P (bks.getD k nk) row = y := h45; rw [decide_eq_true u0] at this; exact this)
          | (have u0 : ¬ sy P (bks.getD k nk) row = y := h45; rw [decide_eq_false u0] at this; exact this)
      · refine g_k (n := 1) t153_48 rfl rfl ?_
        refine g_goto t153_49 ?_
        refine g_is t153_53 (Nat.le_of_ble_eq_true rfl) (am_s1_6 rfl) ?_
        refine g_k (n := 0) t153_55 rfl rfl ?_
        refine g_is t153_56 (Nat.le_of_ble_eq_true rfl) (am_s1_7 rfl) ?_
        have this := K (nb P row).length 0 (by omega) (.float 0)
        first
          | (have u0 : sy P (bks.getD k nk) row = y := h45; rw [decide_eq_true u0] at this; exact this)
          | (have u0 : ¬ sy P (bks.getD k nk) row = y := h45; rw [decide_eq_false u0] at this; exact this)
    · first
        | exact no_b h2 h16
        | exact no_b h3 h23
theorem c153f (hF : Fx s) (hR : CR P s) (hB : CBk P bks bp s) (hb3 : bks.length ≤ 3) (hno : ¬ ((bG P bks x).isSome = true ∧ isL0 y = true ∧ isH z = true)) (hq : Q (some (.int (-1000000))) (mR s)) : gE X (d + 4) 153 [.ref 0, .int x, .int y, .int z] (mR s) Q := by
  have hP5 := hR.2.2.1
  have hm := mn_le hP5
  cases hg : bG P bks x with
  | none =>
    refine en153 rfl rfl rfl rfl ?_
    refine g_p t153_0 rfl ?_
    refine g_p t153_1 rfl ?_
    refine r_cv t153_2 (f0 hF) rfl ?_
    refine c130f (by exact hF) (by exact hR.1) hP5 (by exact hB) (bG_f hg) ?_
    refine k_v ?_ rfl
    refine g_as t153_5 rfl (Nat.le_of_ble_eq_true rfl) (am_s1_4 rfl) ?_
    refine g_p t153_7 rfl ?_
    refine g_b (b := true) t153_9 rfl ?_
    refine g_p t153_26 rfl ?_
    exact i_ret t153_28 rfl hq
  | some b =>
    rw [hg] at hno
    obtain ⟨hP0, k, hk, rfl, rfl⟩ := bG_t hg (by omega)
    obtain ⟨qp, qB, qT, qS, qL⟩ := hB.2.2.1 k hk
    refine en153 rfl rfl rfl rfl ?_
    refine g_p t153_0 rfl ?_
    refine g_p t153_1 rfl ?_
    refine r_cv t153_2 (f0 hF) rfl ?_
    refine c130t (by exact hF) (by exact hR.1) hP5 hP0 (by exact hB) hk ?_
    refine k_v ?_ rfl
    refine g_as t153_5 rfl (Nat.le_of_ble_eq_true rfl) (am_s1_4 rfl) ?_
    refine g_p t153_7 rfl ?_
    refine g_b (b := false) t153_9 rfl ?_
    refine g_p t153_12 rfl ?_
    refine g_cs t153_13 rfl rfl rfl ?_
    refine c133 ?_
    refine k_v ?_ rfl
    refine b_eq t153_16 (fun h16 => ?_) (fun h16 => ?_)
    · refine g_p t153_26 rfl ?_
      exact i_ret t153_28 rfl hq
    · refine g_p t153_19 rfl ?_
      refine g_cs t153_20 rfl rfl rfl ?_
      refine c135 ?_
      refine k_v ?_ rfl
      refine b_ne t153_23 (fun h23 => ?_) (fun h23 => ?_)
      · exact absurd ⟨rfl, h16, h23⟩ hno
      · refine g_p t153_26 rfl ?_
        exact i_ret t153_28 rfl hq
theorem c155 (hF : Fx s) (hR : CR P s) (hW : CW r w pd row day left s) (hr5 : r ≤ 5) (hw5 : w ≤ 5) (qB : Bo s p) (qS : Bs P b p s) (hc : c < mn P) (hq : Q (some (.int (bI (isf P r w b y c)))) (mR s)) : gE X (d + 3) 155 [.ref 0, .ref p, .int (nI c), .int y] (mR s) Q := by
  have hP5 := hR.2.2.1
  have hm := mn_le hP5
  have hnl := nb_len hP5 hc
  have hbk := hR.2.2.2.2.2.2.2 c hc
  obtain ⟨e1, e2, e3, e4, e5, e6⟩ := hW
  have K : ∀ j i : Nat, i + j = (nb P c).length → ∀ z5 z6, am_nl z5 = true → isf P r w b y c = (((nb P c).drop i).filter (std P r w)).all (fun t => decide (sy P b t = -1) || decide (sy P b t = y)) → gG X (d + 3) 155 3 [.ref 0, .ref p, .int (nI c), .int y, .int (nI i), z5, z6] [] (mR s) Q := by
    intro j
    induction j with
    | zero =>
      intro i hj z5 z6 n5 he
      have hj : i = (nb P c).length := by omega
      subst hj
      rw [List.drop_length] at he
      refine g_p t155_3 rfl ?_
      refine g_p t155_5 rfl ?_
      refine r_getr t155_6 (f0 hF) rfl rfl ?_
      refine g_p t155_9 rfl ?_
      refine r_cv t155_10 (f19 hF) rfl ?_
      refine c81 (by exact hF) (by omega) hbk.1 ?_
      refine k_v ?_ rfl
      refine n_cge t155_13 (by omega) (by omega) (fun h13 => ?_) (fun h13 => ?_)
      · refine g_k (n := 1) t155_68 rfl rfl ?_
        exact b_ret t155_69 (by rw [he]; rfl) hq
      · exfalso; omega
    | succ j ih =>
      intro i hj z5 z6 n5 he
      have hil : i < (nb P c).length := by omega
      rw [filt_drop hil] at he
      obtain ⟨t, ht⟩ : ∃ t, t = (nb P c).getD i 0 := ⟨_, rfl⟩
      have htN : t < mn P := by rw [ht]; exact nbD hP5 hc hil
      rw [← ht] at he
      refine g_p t155_3 rfl ?_
      refine g_p t155_5 rfl ?_
      refine r_getr t155_6 (f0 hF) rfl rfl ?_
      refine g_p t155_9 rfl ?_
      refine r_cv t155_10 (f19 hF) rfl ?_
      refine c81 (by exact hF) (by omega) hbk.1 ?_
      refine k_v ?_ rfl
      refine n_cge t155_13 (by omega) (by omega) (fun h13 => ?_) (fun h13 => ?_)
      · exfalso; omega
      · refine g_p t155_16 rfl ?_
        refine r_getr t155_17 (f0 hF) rfl rfl ?_
        refine g_p t155_20 rfl ?_
        refine g_p t155_21 rfl ?_
        refine r_cv t155_23 (f19 hF) rfl ?_
        refine c82 (by exact hF) (by omega) (hbk.2 i hil) ?_
        refine k_v ?_ rfl
        rw [← ht]
        refine g_is t155_26 (Nat.le_of_ble_eq_true rfl) (am_s1_5 rfl) ?_
        refine g_p t155_28 rfl ?_
        refine g_p t155_29 rfl ?_
        refine r_cv t155_31 qB.1 rfl ?_
        refine c10 (by exact qB) (by omega) (by exact qS t htN) ?_
        refine k_v ?_ rfl
        refine g_is t155_34 (Nat.le_of_ble_eq_true rfl) (am_s1_6 rfl) ?_
        refine g_p t155_36 rfl ?_
        refine r_getr t155_37 (f0 hF) rfl rfl ?_
        refine g_p t155_40 rfl ?_
        refine r_cv t155_42 (f32 hF) rfl ?_
        refine c103 (by exact hF) (by exact hR) (by omega) (by exact e1) (by exact e2) hr5 hw5 ?_
        refine k_v ?_ rfl
        refine b_eq t155_45 (fun h45 => ?_) (fun h45 => ?_)
        · refine g_incn (n := 1) t155_62 rfl rfl (Nat.le_of_ble_eq_true rfl) (am_s1_4 rfl) ?_
          refine g_goto t155_65 ?_
          refine ih (i + 1) (by omega) _ _ rfl (he.trans ?_)
          first
            | (have u0 := h57; rw [if_pos h45, List.all_cons, decide_eq_true u0, Bool.or_true, Bool.true_and])
            | (have u0 := h51; rw [if_pos h45, List.all_cons, decide_eq_true u0, Bool.true_or, Bool.true_and])
            | (have u0 := h45; rw [if_neg (fun h => no_b h u0)])
        · refine g_p t155_48 rfl ?_
          refine g_p t155_50 rfl ?_
          refine g_ceq t155_51 (fun h51 => ?_) (fun h51 => ?_)
          · refine g_incn (n := 1) t155_62 rfl rfl (Nat.le_of_ble_eq_true rfl) (am_s1_4 rfl) ?_
            refine g_goto t155_65 ?_
            refine ih (i + 1) (by omega) _ _ rfl (he.trans ?_)
            first
              | (have u0 := h57; rw [if_pos h45, List.all_cons, decide_eq_true u0, Bool.or_true, Bool.true_and])
              | (have u0 := h51; rw [if_pos h45, List.all_cons, decide_eq_true u0, Bool.true_or, Bool.true_and])
              | (have u0 := h45; rw [if_neg (fun h => no_b h u0)])
          · refine g_p t155_54 rfl ?_
            refine g_p t155_56 rfl ?_
            refine g_ceq t155_57 (fun h57 => ?_) (fun h57 => ?_)
            · refine g_incn (n := 1) t155_62 rfl rfl (Nat.le_of_ble_eq_true rfl) (am_s1_4 rfl) ?_
              refine g_goto t155_65 ?_
              refine ih (i + 1) (by omega) _ _ rfl (he.trans ?_)
              first
                | (have u0 := h57; rw [if_pos h45, List.all_cons, decide_eq_true u0, Bool.or_true, Bool.true_and])
                | (have u0 := h51; rw [if_pos h45, List.all_cons, decide_eq_true u0, Bool.true_or, Bool.true_and])
                | (have u0 := h45; rw [if_neg (fun h => no_b h u0)])
            · refine g_k (n := 0) t155_60 rfl rfl ?_
              exact b_ret t155_61 (by rw [he, if_pos h45, List.all_cons, decide_eq_false h51, decide_eq_false h57]; rfl) hq
  refine en155 rfl rfl rfl rfl ?_
  refine g_k (n := 0) t155_0 rfl rfl ?_
  refine g_is t155_1 (Nat.le_of_ble_eq_true rfl) (am_s1_4 rfl) ?_
  exact K (nb P c).length 0 (by omega) _ _ rfl rfl
theorem c154t (hF : Fx s) (hR : CR P s) (hW : CW r w pd row day left s) (hr5 : r ≤ 5) (hw5 : w ≤ 5) (hB : CBk P bks bp s) (hb3 : bks.length ≤ 3) (hg : bG P bks x = some b) (hy : isL y = true) (hz : ¬ z < -1) (hq : Q (some (.int (sfv P r w b y z))) (mR s)) : gE X (d + 4) 154 [.ref 0, .int x, .int y, .int z] (mR s) Q := by
  have hP5 := hR.2.2.1
  have hm := mn_le hP5
  obtain ⟨hP0, k, hk, rfl, rfl⟩ := bG_t hg (by omega)
  obtain ⟨qp, qB, qT, qS, qL⟩ := hB.2.2.1 k hk
  have hW0 := hW
  obtain ⟨e1, e2, e3, e4, e5, e6⟩ := hW
  generalize hbb : bks.getD k nk = b at *
  have K : ∀ j c : Nat, c + j = mn P → ¬ inN (sfl P r w b y c).length z = true → gG X (d + 4) 154 32 [.ref 0, .int (nI k), .int y, .int z, .ref (bp.getD k 0), .int (nI (sfl P r w b y c).length), .int (nI c)] [] (mR s) Q := by
    intro j
    induction j with
    | zero =>
      intro c hj hn
      have hj : c = mn P := by omega
      subst hj
      have hsl := sfl_len (P := P) (r := r) (w := w) (b := b) (y := y) (mn P)
      refine g_p t154_32 rfl ?_
      refine g_p t154_34 rfl ?_
      refine r_getr t154_35 (f0 hF) rfl rfl ?_
      refine r_cv t154_38 (f19 hF) rfl ?_
      refine c76 (by exact hF) hR.2.1 ?_
      refine k_v ?_ rfl
      refine n_cge t154_41 (by omega) (by omega) (fun h41 => ?_) (fun h41 => ?_)
      · refine g_p t154_104 rfl ?_
        refine g_p t154_105 rfl ?_
        refine g_cne t154_106 (fun h106 => ?_) (fun h106 => ?_)
        · refine g_p t154_114 rfl ?_
          first
            | (have uu : z = -1 := h106; exact i_ret t154_115 (by unfold sfv; rw [if_pos uu]) hq)
            | (have uu : ¬ z = -1 := h106; exact i_ret t154_115 (by unfold sfv; rw [if_neg uu, if_neg hn]) hq)
        · refine g_p t154_109 rfl ?_
          refine g_goto t154_111 ?_
          first
            | (have uu : z = -1 := h106; exact i_ret t154_115 (by unfold sfv; rw [if_pos uu]) hq)
            | (have uu : ¬ z = -1 := h106; exact i_ret t154_115 (by unfold sfv; rw [if_neg uu, if_neg hn]) hq)
      · exfalso; omega
    | succ j ih =>
      intro c hj hn
      have hcN : c < mn P := by omega
      have hsl := sfl_len (P := P) (r := r) (w := w) (b := b) (y := y) c
      refine g_p t154_32 rfl ?_
      refine g_p t154_34 rfl ?_
      refine r_getr t154_35 (f0 hF) rfl rfl ?_
      refine r_cv t154_38 (f19 hF) rfl ?_
      refine c76 (by exact hF) hR.2.1 ?_
      refine k_v ?_ rfl
      refine n_cge t154_41 (by omega) (by omega) (fun h41 => ?_) (fun h41 => ?_)
      · exfalso; omega
      · refine g_p t154_44 rfl ?_
        refine r_getr t154_45 (f0 hF) rfl rfl ?_
        refine g_p t154_48 rfl ?_
        refine r_cv t154_50 (f32 hF) rfl ?_
        refine c103 (by exact hF) (by exact hR) (by omega) (by exact e1) (by exact e2) hr5 hw5 ?_
        refine k_v ?_ rfl
        refine b_eq t154_53 (fun h53 => ?_) (fun h53 => ?_)
        · refine g_incn (n := 1) t154_98 rfl rfl (Nat.le_of_ble_eq_true rfl) (am_s1_6 rfl) ?_
          refine g_goto t154_101 ?_
          first
            | (have u0 := h82
               have hs1 : (std P r w c && decide (sy P b c = y) && isf P r w b y c) = true := by rw [h53, decide_eq_true h64, h76]; rfl
               have e : (sfl P r w b y (c + 1)).length = (sfl P r w b y c).length + 1 := by rw [sfl_s, if_pos hs1, List.length_append]; rfl
               have this := ih (c + 1) (by omega) (fun h => by
                 rw [e] at h
                 obtain ⟨i, i1, i2⟩ := inN_t h (by omega)
                 by_cases h9 : i = (sfl P r w b y c).length
                 · subst h9; exact u0 i2.symm
                 · exact hn (by rw [i2]; exact inN_n (by omega) (by omega)))
               rw [e] at this
               exact this)
            | (have e : sfl P r w b y (c + 1) = sfl P r w b y c := by
                 have hs1 : (std P r w c && decide (sy P b c = y) && isf P r w b y c) = false := by
                   first
                     | (have u0 := h76; rw [u0, Bool.and_false])
                     | (have u0 := h64; rw [decide_eq_false u0, Bool.and_false]; rfl)
                     | (have u0 := h53; rw [u0]; rfl)
                 rw [sfl_s, hs1]
                 exact List.append_nil _
               have this := ih (c + 1) (by omega) (by rw [e]; exact hn)
               rw [e] at this
               exact this)
        · refine g_p t154_56 rfl ?_
          refine g_p t154_58 rfl ?_
          refine r_cv t154_60 qB.1 rfl ?_
          refine c10 (by exact qB) (by omega) (by exact qS c hcN) ?_
          refine k_v ?_ rfl
          refine g_p t154_63 rfl ?_
          refine g_cne t154_64 (fun h64 => ?_) (fun h64 => ?_)
          · refine g_incn (n := 1) t154_98 rfl rfl (Nat.le_of_ble_eq_true rfl) (am_s1_6 rfl) ?_
            refine g_goto t154_101 ?_
            first
              | (have u0 := h82
                 have hs1 : (std P r w c && decide (sy P b c = y) && isf P r w b y c) = true := by rw [h53, decide_eq_true h64, h76]; rfl
                 have e : (sfl P r w b y (c + 1)).length = (sfl P r w b y c).length + 1 := by rw [sfl_s, if_pos hs1, List.length_append]; rfl
                 have this := ih (c + 1) (by omega) (fun h => by
                   rw [e] at h
                   obtain ⟨i, i1, i2⟩ := inN_t h (by omega)
                   by_cases h9 : i = (sfl P r w b y c).length
                   · subst h9; exact u0 i2.symm
                   · exact hn (by rw [i2]; exact inN_n (by omega) (by omega)))
                 rw [e] at this
                 exact this)
              | (have e : sfl P r w b y (c + 1) = sfl P r w b y c := by
                   have hs1 : (std P r w c && decide (sy P b c = y) && isf P r w b y c) = false := by
                     first
                       | (have u0 := h76; rw [u0, Bool.and_false])
                       | (have u0 := h64; rw [decide_eq_false u0, Bool.and_false]; rfl)
                       | (have u0 := h53; rw [u0]; rfl)
                   rw [sfl_s, hs1]
                   exact List.append_nil _
                 have this := ih (c + 1) (by omega) (by rw [e]; exact hn)
                 rw [e] at this
                 exact this)
          · refine g_p t154_67 rfl ?_
            refine g_p t154_68 rfl ?_
            refine g_p t154_70 rfl ?_
            refine g_p t154_72 rfl ?_
            refine r_cv t154_73 (f0 hF) rfl ?_
            refine c155 (by exact hF) (by exact hR) hW0 hr5 hw5 qB qS hcN ?_
            refine k_v ?_ rfl
            refine b_eq t154_76 (fun h76 => ?_) (fun h76 => ?_)
            · refine g_incn (n := 1) t154_98 rfl rfl (Nat.le_of_ble_eq_true rfl) (am_s1_6 rfl) ?_
              refine g_goto t154_101 ?_
              first
                | (have u0 := h82
                   have hs1 : (std P r w c && decide (sy P b c = y) && isf P r w b y c) = true := by rw [h53, decide_eq_true h64, h76]; rfl
                   have e : (sfl P r w b y (c + 1)).length = (sfl P r w b y c).length + 1 := by rw [sfl_s, if_pos hs1, List.length_append]; rfl
                   have this := ih (c + 1) (by omega) (fun h => by
                     rw [e] at h
                     obtain ⟨i, i1, i2⟩ := inN_t h (by omega)
                     by_cases h9 : i = (sfl P r w b y c).length
                     · subst h9; exact u0 i2.symm
                     · exact hn (by rw [i2]; exact inN_n (by omega) (by omega)))
                   rw [e] at this
                   exact this)
                | (have e : sfl P r w b y (c + 1) = sfl P r w b y c := by
                     have hs1 : (std P r w c && decide (sy P b c = y) && isf P r w b y c) = false := by
                       first
                         | (have u0 := h76; rw [u0, Bool.and_false])
                         | (have u0 := h64; rw [decide_eq_false u0, Bool.and_false]; rfl)
                         | (have u0 := h53; rw [u0]; rfl)
                     rw [sfl_s, hs1]
                     exact List.append_nil _
                   have this := ih (c + 1) (by omega) (by rw [e]; exact hn)
                   rw [e] at this
                   exact this)
            · refine g_p t154_79 rfl ?_
              refine g_p t154_81 rfl ?_
              refine g_cne t154_82 (fun h82 => ?_) (fun h82 => ?_)
              · refine g_incn (n := 1) t154_95 rfl rfl (Nat.le_of_ble_eq_true rfl) (am_s1_5 rfl) ?_
                refine g_incn (n := 1) t154_98 rfl rfl (Nat.le_of_ble_eq_true rfl) (am_s1_6 rfl) ?_
                refine g_goto t154_101 ?_
                first
                  | (have u0 := h82
                     have hs1 : (std P r w c && decide (sy P b c = y) && isf P r w b y c) = true := by rw [h53, decide_eq_true h64, h76]; rfl
                     have e : (sfl P r w b y (c + 1)).length = (sfl P r w b y c).length + 1 := by rw [sfl_s, if_pos hs1, List.length_append]; rfl
                     have this := ih (c + 1) (by omega) (fun h => by
                       rw [e] at h
                       obtain ⟨i, i1, i2⟩ := inN_t h (by omega)
                       by_cases h9 : i = (sfl P r w b y c).length
                       · subst h9; exact u0 i2.symm
                       · exact hn (by rw [i2]; exact inN_n (by omega) (by omega)))
                     rw [e] at this
                     exact this)
                  | (have e : sfl P r w b y (c + 1) = sfl P r w b y c := by
                       have hs1 : (std P r w c && decide (sy P b c = y) && isf P r w b y c) = false := by
                         first
                           | (have u0 := h76; rw [u0, Bool.and_false])
                           | (have u0 := h64; rw [decide_eq_false u0, Bool.and_false]; rfl)
                           | (have u0 := h53; rw [u0]; rfl)
                       rw [sfl_s, hs1]
                       exact List.append_nil _
                     have this := ih (c + 1) (by omega) (by rw [e]; exact hn)
                     rw [e] at this
                     exact this)
              · refine g_p t154_85 rfl ?_
                refine r_getr t154_86 (f0 hF) rfl rfl ?_
                refine g_p t154_89 rfl ?_
                refine r_cv t154_91 (f19 hF) rfl ?_
                refine c85 (by exact hF) (by exact hR.1) hP5 (by exact hR.2.2.2.1) (Or.inl hcN) ?_
                refine k_v ?_ rfl
                refine i_ret t154_94 ?_ hq
                have hs1 : (std P r w c && decide (sy P b c = y) && isf P r w b y c) = true := by rw [h53, decide_eq_true h64, h76]; rfl
                obtain ⟨t, ht⟩ := sfl_pre (P := P) (r := r) (w := w) (b := b) (y := y) (n := c + 1) (m := mn P) (by omega)
                rw [sfl_s, if_pos hs1, List.append_assoc] at ht
                unfold sfv
                rw [← h82, if_neg (nI_m1 (by omega)), ht]
                rw [if_pos (inN_n (by rw [List.length_append]; simp) (by rw [List.length_append]; simp; have := sfl_len (P := P) (r := r) (w := w) (b := b) (y := y) (mn P); rw [ht] at this; simp at this; omega)), nI_clamp (by omega)]
                rw [List.getD, List.getElem?_append_right (Nat.le_refl _), Nat.sub_self]
                rfl
  refine en154 rfl rfl rfl rfl ?_
  refine g_p t154_0 rfl ?_
  refine g_p t154_1 rfl ?_
  refine r_cv t154_2 (f0 hF) rfl ?_
  refine c130t (by exact hF) (by exact hR.1) hP5 hP0 (by exact hB) hk ?_
  refine k_v ?_ rfl
  refine g_as t154_5 rfl (Nat.le_of_ble_eq_true rfl) (am_s1_4 rfl) ?_
  refine g_p t154_7 rfl ?_
  refine g_b (b := false) t154_9 rfl ?_
  refine g_p t154_12 rfl ?_
  refine g_cs t154_13 rfl rfl rfl ?_
  refine c132 ?_
  refine k_v ?_ rfl
  refine b_eq t154_16 (fun h16 => ?_) (fun h16 => ?_)
  · first
      | exact no_b hy h16
      | exact absurd (Int32.not_le.mp h21) hz
  · refine g_p t154_19 rfl ?_
    refine g_p t154_20 rfl ?_
    refine g_cge t154_21 (fun h21 => ?_) (fun h21 => ?_)
    · refine g_k (n := 0) t154_26 rfl rfl ?_
      refine g_is t154_27 (Nat.le_of_ble_eq_true rfl) (am_s1_5 rfl) ?_
      refine g_k (n := 0) t154_29 rfl rfl ?_
      refine g_is t154_30 (Nat.le_of_ble_eq_true rfl) (am_s1_6 rfl) ?_
      exact K (mn P) 0 (by omega) (fun h => by
        obtain ⟨i, i1, -⟩ := inN_t (P := 0) (show inN 0 z = true from h) (by decide)
        exact absurd i1 (Nat.not_lt_zero i))
    · first
        | exact no_b hy h16
        | exact absurd (Int32.not_le.mp h21) hz
theorem c154f (hF : Fx s) (hR : CR P s) (hB : CBk P bks bp s) (hb3 : bks.length ≤ 3) (hno : ¬ ((bG P bks x).isSome = true ∧ isL y = true ∧ ¬ z < -1)) (hq : Q (some (.int (-1))) (mR s)) : gE X (d + 4) 154 [.ref 0, .int x, .int y, .int z] (mR s) Q := by
  have hP5 := hR.2.2.1
  have hm := mn_le hP5
  cases hg : bG P bks x with
  | none =>
    refine en154 rfl rfl rfl rfl ?_
    refine g_p t154_0 rfl ?_
    refine g_p t154_1 rfl ?_
    refine r_cv t154_2 (f0 hF) rfl ?_
    refine c130f (by exact hF) (by exact hR.1) hP5 (by exact hB) (bG_f hg) ?_
    refine k_v ?_ rfl
    refine g_as t154_5 rfl (Nat.le_of_ble_eq_true rfl) (am_s1_4 rfl) ?_
    refine g_p t154_7 rfl ?_
    refine g_b (b := true) t154_9 rfl ?_
    refine g_p t154_24 rfl ?_
    exact i_ret t154_25 rfl hq
  | some b =>
    rw [hg] at hno
    obtain ⟨hP0, k, hk, rfl, rfl⟩ := bG_t hg (by omega)
    obtain ⟨qp, qB, qT, qS, qL⟩ := hB.2.2.1 k hk
    refine en154 rfl rfl rfl rfl ?_
    refine g_p t154_0 rfl ?_
    refine g_p t154_1 rfl ?_
    refine r_cv t154_2 (f0 hF) rfl ?_
    refine c130t (by exact hF) (by exact hR.1) hP5 hP0 (by exact hB) hk ?_
    refine k_v ?_ rfl
    refine g_as t154_5 rfl (Nat.le_of_ble_eq_true rfl) (am_s1_4 rfl) ?_
    refine g_p t154_7 rfl ?_
    refine g_b (b := false) t154_9 rfl ?_
    refine g_p t154_12 rfl ?_
    refine g_cs t154_13 rfl rfl rfl ?_
    refine c132 ?_
    refine k_v ?_ rfl
    refine b_eq t154_16 (fun h16 => ?_) (fun h16 => ?_)
    · refine g_p t154_24 rfl ?_
      exact i_ret t154_25 rfl hq
    · refine g_p t154_19 rfl ?_
      refine g_p t154_20 rfl ?_
      refine g_cge t154_21 (fun h21 => ?_) (fun h21 => ?_)
      · exact absurd ⟨rfl, h16, Int32.not_lt.mpr h21⟩ hno
      · refine g_p t154_24 rfl ?_
        exact i_ret t154_25 rfl hq
end FH
