/-! THE REFERENCE, 30: texts kept -/
/-- cells copied: k of them so far -/
def CPi (p lo src cnt k : Nat) (s s' : mM) : Prop := (∀ i, i < k → ri s' p (lo + i) = ri s p (src + i)) ∧ ∀ i, i < lo ∨ lo + cnt ≤ i → ri s' p i = ri s p i
theorem CPi.n {p lo src cnt k : Nat} {s s' : mM} (h : CPi p lo src cnt k s s') (hk : k < cnt) (hs : src + cnt ≤ lo ∨ lo + cnt ≤ src) : CPi p lo src cnt (k + 1) s (wi s' p (lo + k) (ri s' p (src + k))) := by
  refine ⟨fun i hi => ?_, fun i hi => ?_⟩
  · by_cases h9 : i = k
    · subst h9; rw [ri_wi_eq]; exact h.2 _ (by omega)
    · rw [ri_wi_j (by omega)]; exact h.1 i (by omega)
  · rw [ri_wi_j (by omega)]; exact h.2 i hi
abbrev tB : List Nat := [0, 5, 6, 8, 9, 10, 11, 12, 13, 14, 17, 20, 21, 22, 23, 28, 31, 7, 32, 33, 34, 35, 40, 53, 58, 64]
section RM2
variable {X : am_X} {d : Nat} {s : mM} {hp : am_H} {Q : Option Value → am_H → Prop} {k n w : Nat} {t l : List Nat} {x : Int32} {bks : List Bk} {wds lis : List (List Nat)}
theorem c208n (hF : Fx s) (hx : inN 4 x = false) (hq : Q (some (.int (-1))) (mR (wi s 80 0 (nI 0)))) : gE X (d + 1) 208 [.ref 80, .int x] (mR s) Q := by
  refine en208 rfl rfl ?_
  refine g_p t208_0 rfl ?_
  refine g_k (n := 0) t208_1 rfl rfl ?_
  refine r_puti t208_2 (f80 hF) rfl rfl ?_
  refine g_p t208_5 rfl ?_
  refine g_p t208_6 rfl ?_
  refine g_p t208_7 rfl ?_
  refine g_p t208_8 rfl ?_
  refine g_cs t208_11 rfl rfl rfl ?_
  refine c176i (a := nI 0) (b := nI 3) rfl rfl ?_
  rw [isR_4, hx]
  refine k_v ?_ rfl
  refine b_eq t208_14 (fun h14 => ?_) (fun h14 => ?_)
  · refine g_p t208_34 rfl ?_
    exact i_ret t208_35 rfl hq
  · exact absurd h14 (by decide)
theorem c208_0_bad (hF : Fx s) (hT : MTp t s) (h120 : t.length ≤ 120) (hb : isB t)   (hbad : ¬ pfv (pfi t (sle t).2) = -1) (hq : ∀ s', FM [86] (0 :: sB) s s' → Q (some (.int (-1))) (mR s')) : gE X (d + 6) 208 [.ref 80, .int (nI 0)] (mR s) Q := by
  refine en208 rfl rfl ?_
  refine g_p t208_0 rfl ?_
  refine g_k (n := 0) t208_1 rfl rfl ?_
  refine r_puti t208_2 (f80 hF) rfl rfl ?_
  refine g_p t208_5 rfl ?_
  refine g_p t208_6 rfl ?_
  refine g_p t208_7 rfl ?_
  refine g_p t208_8 rfl ?_
  refine g_cs t208_11 rfl rfl rfl ?_
  refine c176i (a := nI 0) (b := nI 3) rfl rfl ?_
  rw [isR_n (a := 0) (b := 3) (n := 0) (by decide) (by decide) (by decide)]
  refine k_v ?_ rfl
  refine b_eq t208_14 (fun h14 => ?_) (fun h14 => ?_)
  · refine g_p t208_34 rfl ?_
    first
      | (have u0 : true = false := h14
         exact absurd u0 (by decide))
      | (have u0 : true = false := h22
         exact absurd u0 (by decide))
      | exact i_ret t208_35 rfl (hq s1 ((FM.rf.m (by decide)).tr f1))
  · refine g_p t208_17 rfl ?_
    refine g_p t208_18 rfl ?_
    refine r_cv t208_19 (f80 hF) rfl ?_
    refine c207_0 (by exact hF) ?_
    refine k_v ?_ rfl
    refine b_eq t208_22 (fun h22 => ?_) (fun h22 => ?_)
    · refine g_p t208_34 rfl ?_
      first
        | (have u0 : true = false := h14
           exact absurd u0 (by decide))
        | (have u0 : true = false := h22
           exact absurd u0 (by decide))
        | exact i_ret t208_35 rfl (hq s1 ((FM.rf.m (by decide)).tr f1))
    · refine g_p t208_25 rfl ?_
      refine g_p t208_26 rfl ?_
      refine r_cv t208_27 (f80 hF) rfl ?_
      refine c206_0 (d := d) (Fx.fr (A := [80]) hF (Fr.rf.wi (by decide))) (show MTp t (wi s 80 0 (nI 0)) from hT) h120 hb (fun s1 f1 hdat => ?_)
      have hF := Fx.fr (Fx.fr (A := [80]) hF (Fr.rf.wi (p := 80) (i := 0) (v := nI 0) (by decide))) f1.1
      refine k_v ?_ rfl
      refine g_p t208_30 rfl ?_
      refine g_ceq t208_31 (fun h31 => ?_) (fun h31 => ?_)
      · exact absurd h31 hbad
      · refine g_p t208_34 rfl ?_
        first
          | (have u0 : true = false := h14
             exact absurd u0 (by decide))
          | (have u0 : true = false := h22
             exact absurd u0 (by decide))
          | exact i_ret t208_35 rfl (hq s1 ((FM.rf.m (by decide)).tr f1))
theorem c208_1_full (hF : Fx s) (e28 : ri s 80 28 = nI n) (hn : n ≤ 4) (hfull : ¬ n < 3) (hq : Q (some (.int (-1))) (mR (wi s 80 0 (nI 0)))) : gE X (d + 1) 208 [.ref 80, .int (nI 1)] (mR s) Q := by
  refine en208 rfl rfl ?_
  refine g_p t208_0 rfl ?_
  refine g_k (n := 0) t208_1 rfl rfl ?_
  refine r_puti t208_2 (f80 hF) rfl rfl ?_
  refine g_p t208_5 rfl ?_
  refine g_p t208_6 rfl ?_
  refine g_p t208_7 rfl ?_
  refine g_p t208_8 rfl ?_
  refine g_cs t208_11 rfl rfl rfl ?_
  refine c176i (a := nI 0) (b := nI 3) rfl rfl ?_
  rw [isR_n (a := 0) (b := 3) (n := 1) (by decide) (by decide) (by decide)]
  refine k_v ?_ rfl
  refine b_eq t208_14 (fun h14 => ?_) (fun h14 => ?_)
  · refine g_p t208_34 rfl ?_
    exact i_ret t208_35 rfl hq
  · refine g_p t208_17 rfl ?_
    refine g_p t208_18 rfl ?_
    refine r_cv t208_19 (f80 hF) rfl ?_
    refine c207_1 (by exact hF) (by exact e28) (by omega) ?_
    rw [decide_eq_false hfull]
    refine k_v ?_ rfl
    refine b_eq t208_22 (fun h22 => ?_) (fun h22 => ?_)
    · refine g_p t208_34 rfl ?_
      exact i_ret t208_35 rfl hq
    · exact absurd h22 (by decide)
theorem c208_1_bad (hF : Fx s) (hT : MTp t s) (h120 : t.length ≤ 120) (hb : isB t) (e28 : ri s 80 28 = nI n) (hn : n ≤ 4) (hroom : n < 3) (hbad : ¬ pfv (pfi t (bke t).2.2) = -1) (hq : ∀ s', FM bA (0 :: xB) s s' → KB s s' → Q (some (.int (-1))) (mR s')) : gE X (d + 6) 208 [.ref 80, .int (nI 1)] (mR s) Q := by
  refine en208 rfl rfl ?_
  refine g_p t208_0 rfl ?_
  refine g_k (n := 0) t208_1 rfl rfl ?_
  refine r_puti t208_2 (f80 hF) rfl rfl ?_
  refine g_p t208_5 rfl ?_
  refine g_p t208_6 rfl ?_
  refine g_p t208_7 rfl ?_
  refine g_p t208_8 rfl ?_
  refine g_cs t208_11 rfl rfl rfl ?_
  refine c176i (a := nI 0) (b := nI 3) rfl rfl ?_
  rw [isR_n (a := 0) (b := 3) (n := 1) (by decide) (by decide) (by decide)]
  refine k_v ?_ rfl
  refine b_eq t208_14 (fun h14 => ?_) (fun h14 => ?_)
  · refine g_p t208_34 rfl ?_
    first
      | (have u0 : true = false := h14
         exact absurd u0 (by decide))
      | (have u0 : true = false := h22
         exact absurd u0 (by decide))
      | exact i_ret t208_35 rfl (hq s1 ((FM.rf.m (by decide)).tr f1) hkb)
  · refine g_p t208_17 rfl ?_
    refine g_p t208_18 rfl ?_
    refine r_cv t208_19 (f80 hF) rfl ?_
    refine c207_1 (by exact hF) (by exact e28) (by omega) ?_
    rw [decide_eq_true hroom]
    refine k_v ?_ rfl
    refine b_eq t208_22 (fun h22 => ?_) (fun h22 => ?_)
    · refine g_p t208_34 rfl ?_
      first
        | (have u0 : true = false := h14
           exact absurd u0 (by decide))
        | (have u0 : true = false := h22
           exact absurd u0 (by decide))
        | exact i_ret t208_35 rfl (hq s1 ((FM.rf.m (by decide)).tr f1) hkb)
    · refine g_p t208_25 rfl ?_
      refine g_p t208_26 rfl ?_
      refine r_cv t208_27 (f80 hF) rfl ?_
      refine c206_1 (d := d) (Fx.fr (A := [80]) hF (Fr.rf.wi (by decide))) (show MTp t (wi s 80 0 (nI 0)) from hT) h120 hb (fun s1 f1 hkb hdat => ?_)
      have hF := Fx.fr (Fx.fr (A := [80]) hF (Fr.rf.wi (p := 80) (i := 0) (v := nI 0) (by decide))) f1.1
      refine k_v ?_ rfl
      refine g_p t208_30 rfl ?_
      refine g_ceq t208_31 (fun h31 => ?_) (fun h31 => ?_)
      · exact absurd h31 hbad
      · refine g_p t208_34 rfl ?_
        first
          | (have u0 : true = false := h14
             exact absurd u0 (by decide))
          | (have u0 : true = false := h22
             exact absurd u0 (by decide))
          | exact i_ret t208_35 rfl (hq s1 ((FM.rf.m (by decide)).tr f1) hkb)
theorem c208_2_full (hF : Fx s) (e31 : ri s 80 31 = nI n) (hn : n ≤ 4) (hfull : ¬ n < 4) (hq : Q (some (.int (-1))) (mR (wi s 80 0 (nI 0)))) : gE X (d + 1) 208 [.ref 80, .int (nI 2)] (mR s) Q := by
  refine en208 rfl rfl ?_
  refine g_p t208_0 rfl ?_
  refine g_k (n := 0) t208_1 rfl rfl ?_
  refine r_puti t208_2 (f80 hF) rfl rfl ?_
  refine g_p t208_5 rfl ?_
  refine g_p t208_6 rfl ?_
  refine g_p t208_7 rfl ?_
  refine g_p t208_8 rfl ?_
  refine g_cs t208_11 rfl rfl rfl ?_
  refine c176i (a := nI 0) (b := nI 3) rfl rfl ?_
  rw [isR_n (a := 0) (b := 3) (n := 2) (by decide) (by decide) (by decide)]
  refine k_v ?_ rfl
  refine b_eq t208_14 (fun h14 => ?_) (fun h14 => ?_)
  · refine g_p t208_34 rfl ?_
    exact i_ret t208_35 rfl hq
  · refine g_p t208_17 rfl ?_
    refine g_p t208_18 rfl ?_
    refine r_cv t208_19 (f80 hF) rfl ?_
    refine c207_2 (by exact hF) (by exact e31) (by omega) ?_
    rw [decide_eq_false hfull]
    refine k_v ?_ rfl
    refine b_eq t208_22 (fun h22 => ?_) (fun h22 => ?_)
    · refine g_p t208_34 rfl ?_
      exact i_ret t208_35 rfl hq
    · exact absurd h22 (by decide)
theorem c208_2_bad (hF : Fx s) (hT : MTp t s) (h120 : t.length ≤ 120) (hb : isB t) (e31 : ri s 80 31 = nI n) (hn : n ≤ 4) (hroom : n < 4) (hbad : ¬ pfv (pfi t (wde t).2) = -1) (hq : ∀ s', FM [91, 92] (0 :: xB) s s' → ((∀ i, i < 32 → ri s' 91 i = ri s 91 i) ∧ ∀ i, i < 4 → ri s' 92 i = ri s 92 i) → Q (some (.int (-1))) (mR s')) : gE X (d + 6) 208 [.ref 80, .int (nI 2)] (mR s) Q := by
  refine en208 rfl rfl ?_
  refine g_p t208_0 rfl ?_
  refine g_k (n := 0) t208_1 rfl rfl ?_
  refine r_puti t208_2 (f80 hF) rfl rfl ?_
  refine g_p t208_5 rfl ?_
  refine g_p t208_6 rfl ?_
  refine g_p t208_7 rfl ?_
  refine g_p t208_8 rfl ?_
  refine g_cs t208_11 rfl rfl rfl ?_
  refine c176i (a := nI 0) (b := nI 3) rfl rfl ?_
  rw [isR_n (a := 0) (b := 3) (n := 2) (by decide) (by decide) (by decide)]
  refine k_v ?_ rfl
  refine b_eq t208_14 (fun h14 => ?_) (fun h14 => ?_)
  · refine g_p t208_34 rfl ?_
    first
      | (have u0 : true = false := h14
         exact absurd u0 (by decide))
      | (have u0 : true = false := h22
         exact absurd u0 (by decide))
      | exact i_ret t208_35 rfl (hq s1 ((FM.rf.m (by decide)).tr f1) hkb)
  · refine g_p t208_17 rfl ?_
    refine g_p t208_18 rfl ?_
    refine r_cv t208_19 (f80 hF) rfl ?_
    refine c207_2 (by exact hF) (by exact e31) (by omega) ?_
    rw [decide_eq_true hroom]
    refine k_v ?_ rfl
    refine b_eq t208_22 (fun h22 => ?_) (fun h22 => ?_)
    · refine g_p t208_34 rfl ?_
      first
        | (have u0 : true = false := h14
           exact absurd u0 (by decide))
        | (have u0 : true = false := h22
           exact absurd u0 (by decide))
        | exact i_ret t208_35 rfl (hq s1 ((FM.rf.m (by decide)).tr f1) hkb)
    · refine g_p t208_25 rfl ?_
      refine g_p t208_26 rfl ?_
      refine r_cv t208_27 (f80 hF) rfl ?_
      refine c206_2 (d := d) (Fx.fr (A := [80]) hF (Fr.rf.wi (by decide))) (show MTp t (wi s 80 0 (nI 0)) from hT) h120 hb (fun s1 f1 hkb hdat => ?_)
      have hF := Fx.fr (Fx.fr (A := [80]) hF (Fr.rf.wi (p := 80) (i := 0) (v := nI 0) (by decide))) f1.1
      refine k_v ?_ rfl
      refine g_p t208_30 rfl ?_
      refine g_ceq t208_31 (fun h31 => ?_) (fun h31 => ?_)
      · exact absurd h31 hbad
      · refine g_p t208_34 rfl ?_
        first
          | (have u0 : true = false := h14
             exact absurd u0 (by decide))
          | (have u0 : true = false := h22
             exact absurd u0 (by decide))
          | exact i_ret t208_35 rfl (hq s1 ((FM.rf.m (by decide)).tr f1) hkb)
theorem c208_3_full (hF : Fx s) (e7 : ri s 80 7 = nI n) (hn : n ≤ 4) (hfull : ¬ n < 4) (hq : Q (some (.int (-1))) (mR (wi s 80 0 (nI 0)))) : gE X (d + 1) 208 [.ref 80, .int (nI 3)] (mR s) Q := by
  refine en208 rfl rfl ?_
  refine g_p t208_0 rfl ?_
  refine g_k (n := 0) t208_1 rfl rfl ?_
  refine r_puti t208_2 (f80 hF) rfl rfl ?_
  refine g_p t208_5 rfl ?_
  refine g_p t208_6 rfl ?_
  refine g_p t208_7 rfl ?_
  refine g_p t208_8 rfl ?_
  refine g_cs t208_11 rfl rfl rfl ?_
  refine c176i (a := nI 0) (b := nI 3) rfl rfl ?_
  rw [isR_n (a := 0) (b := 3) (n := 3) (by decide) (by decide) (by decide)]
  refine k_v ?_ rfl
  refine b_eq t208_14 (fun h14 => ?_) (fun h14 => ?_)
  · refine g_p t208_34 rfl ?_
    exact i_ret t208_35 rfl hq
  · refine g_p t208_17 rfl ?_
    refine g_p t208_18 rfl ?_
    refine r_cv t208_19 (f80 hF) rfl ?_
    refine c207_3 (by exact hF) (by exact e7) (by omega) ?_
    rw [decide_eq_false hfull]
    refine k_v ?_ rfl
    refine b_eq t208_22 (fun h22 => ?_) (fun h22 => ?_)
    · refine g_p t208_34 rfl ?_
      exact i_ret t208_35 rfl hq
    · exact absurd h22 (by decide)
theorem c208_3_bad (hF : Fx s) (hT : MTp t s) (h120 : t.length ≤ 120) (hb : isB t) (e7 : ri s 80 7 = nI n) (hn : n ≤ 4) (hroom : n < 4) (hbad : ¬ pfv (pfi t (lwo t fun _ => nI 0).2) = -1) (hq : ∀ s', FM [] (0 :: lB) s s' → Q (some (.int (-1))) (mR s')) : gE X (d + 205) 208 [.ref 80, .int (nI 3)] (mR s) Q := by
  refine en208 rfl rfl ?_
  refine g_p t208_0 rfl ?_
  refine g_k (n := 0) t208_1 rfl rfl ?_
  refine r_puti t208_2 (f80 hF) rfl rfl ?_
  refine g_p t208_5 rfl ?_
  refine g_p t208_6 rfl ?_
  refine g_p t208_7 rfl ?_
  refine g_p t208_8 rfl ?_
  refine g_cs t208_11 rfl rfl rfl ?_
  refine c176i (a := nI 0) (b := nI 3) rfl rfl ?_
  rw [isR_n (a := 0) (b := 3) (n := 3) (by decide) (by decide) (by decide)]
  refine k_v ?_ rfl
  refine b_eq t208_14 (fun h14 => ?_) (fun h14 => ?_)
  · refine g_p t208_34 rfl ?_
    first
      | (have u0 : true = false := h14
         exact absurd u0 (by decide))
      | (have u0 : true = false := h22
         exact absurd u0 (by decide))
      | exact i_ret t208_35 rfl (hq s1 ((FM.rf.m (by decide)).tr f1))
  · refine g_p t208_17 rfl ?_
    refine g_p t208_18 rfl ?_
    refine r_cv t208_19 (f80 hF) rfl ?_
    refine c207_3 (by exact hF) (by exact e7) (by omega) ?_
    rw [decide_eq_true hroom]
    refine k_v ?_ rfl
    refine b_eq t208_22 (fun h22 => ?_) (fun h22 => ?_)
    · refine g_p t208_34 rfl ?_
      first
        | (have u0 : true = false := h14
           exact absurd u0 (by decide))
        | (have u0 : true = false := h22
           exact absurd u0 (by decide))
        | exact i_ret t208_35 rfl (hq s1 ((FM.rf.m (by decide)).tr f1))
    · refine g_p t208_25 rfl ?_
      refine g_p t208_26 rfl ?_
      refine r_cv t208_27 (f80 hF) rfl ?_
      refine c206_3 (d := d) (Fx.fr (A := [80]) hF (Fr.rf.wi (by decide))) (show MTp t (wi s 80 0 (nI 0)) from hT) h120 hb (fun s1 f1 _ => ?_)
      have hF := Fx.fr (Fx.fr (A := [80]) hF (Fr.rf.wi (p := 80) (i := 0) (v := nI 0) (by decide))) f1.1
      refine k_v ?_ rfl
      refine g_p t208_30 rfl ?_
      refine g_ceq t208_31 (fun h31 => ?_) (fun h31 => ?_)
      · exact absurd h31 hbad
      · refine g_p t208_34 rfl ?_
        first
          | (have u0 : true = false := h14
             exact absurd u0 (by decide))
          | (have u0 : true = false := h22
             exact absurd u0 (by decide))
          | exact i_ret t208_35 rfl (hq s1 ((FM.rf.m (by decide)).tr f1))
theorem c208_0_ok (hF : Fx s) (hT : MTp t s) (h120 : t.length ≤ 120) (hb : isB t) (hok : ∃ p, pfi t (sle t).2 = .inl p) (hq : ∀ s', FM [85, 86] tB s s' → MW (pdv t 2 5 (sl0 t)) ((sle t).1.1.getD 2) ((sle t).1.2.1.getD 2) ((sle t).1.2.2.getD 2) 0 0 ((sle t).1.2.2.getD 2) s' → MA [] s' → MSe [] s' → MTo [] s' → ri s' 80 64 = nI 0 → ri s' 80 32 = -1 → MTp [] s' → (∀ i, i ≠ 28 → i ≠ 31 → i ≠ 7 → True) → ri s' 80 28 = ri s 80 28 → ri s' 80 31 = ri s 80 31 → ri s' 80 7 = ri s 80 7 → Q (some (.int (nI (pdv t 2 5 (sl0 t))))) (mR s')) : gE X (d + 6) 208 [.ref 80, .int (nI 0)] (mR s) Q := by
  obtain ⟨p, hpp⟩ := hok
  have hpv : pfv (pfi t (sle t).2) = -1 := by rw [hpp]; rfl
  have e6 := hT.1
  refine en208 rfl rfl ?_
  refine g_p t208_0 rfl ?_
  refine g_k (n := 0) t208_1 rfl rfl ?_
  refine r_puti t208_2 (f80 hF) rfl rfl ?_
  refine g_p t208_5 rfl ?_
  refine g_p t208_6 rfl ?_
  refine g_p t208_7 rfl ?_
  refine g_p t208_8 rfl ?_
  refine g_cs t208_11 rfl rfl rfl ?_
  refine c176i (a := nI 0) (b := nI 3) rfl rfl ?_
  rw [isR_n (a := 0) (b := 3) (n := 0) (by decide) (by decide) (by decide)]
  refine k_v ?_ rfl
  refine b_eq t208_14 (fun h14 => ?_) (fun h14 => ?_)
  · first
      | (have u0 : true = false := h14
         exact absurd u0 (by decide))
      | (have u0 : true = false := h22
         exact absurd u0 (by decide))
      | (have u0 : ¬ (-1 : Int32) = -1 := h31
         exact absurd rfl u0)
  · refine g_p t208_17 rfl ?_
    refine g_p t208_18 rfl ?_
    refine r_cv t208_19 (f80 hF) rfl ?_
    refine c207_0 (by exact hF) ?_
    refine k_v ?_ rfl
    refine b_eq t208_22 (fun h22 => ?_) (fun h22 => ?_)
    · first
        | (have u0 : true = false := h14
           exact absurd u0 (by decide))
        | (have u0 : true = false := h22
           exact absurd u0 (by decide))
        | (have u0 : ¬ (-1 : Int32) = -1 := h31
           exact absurd rfl u0)
    · refine g_p t208_25 rfl ?_
      refine g_p t208_26 rfl ?_
      refine r_cv t208_27 (f80 hF) rfl ?_
      refine c206_0 (d := d) (Fx.fr (A := [80]) hF (Fr.rf.wi (by decide))) (show MTp t (wi s 80 0 (nI 0)) from hT) h120 hb (fun s1 f1 hdat => ?_)
      rw [hpv]
      have hF := Fx.fr (Fx.fr (A := [80]) hF (Fr.rf.wi (p := 80) (i := 0) (v := nI 0) (by decide))) f1.1
      obtain ⟨e22, v1, v2, e23⟩ := hdat ⟨p, hpp⟩
      have e6 := (f1.f (i := 6) (by decide)).trans e6
      refine k_v ?_ rfl
      refine g_p t208_30 rfl ?_
      refine g_ceq t208_31 (fun h31 => ?_) (fun h31 => ?_)
      · refine g_p t208_36 rfl ?_
        refine r_gete t208_37 (f80 hF) rfl rfl e6 ?_
        refine g_isn t208_40 (Nat.le_of_ble_eq_true rfl) (am_s1_2 rfl) ?_
        refine g_p t208_41 rfl ?_
        refine g_k (n := 0) t208_42 rfl rfl ?_
        refine r_puti t208_43 (f80 hF) rfl rfl ?_
        refine g_p t208_46 rfl ?_
        refine g_k (n := 1) t208_47 rfl rfl ?_
        refine n_cne t208_48 (by decide) (by decide) (fun _ => ?_) (fun h => absurd h (by decide))
        refine g_p t208_172 rfl ?_
        refine g_k (n := 2) t208_173 rfl rfl ?_
        refine n_cne t208_174 (by decide) (by decide) (fun _ => ?_) (fun h => absurd h (by decide))
        refine g_p t208_246 rfl ?_
        refine g_k (n := 3) t208_247 rfl rfl ?_
        refine n_cne t208_248 (by decide) (by decide) (fun _ => ?_) (fun h => absurd h (by decide))
        refine g_p t208_311 rfl ?_
        refine g_p t208_312 rfl ?_
        refine r_gete t208_313 (f80 hF) rfl rfl e22 ?_
        refine r_puti t208_316 (f80 hF) rfl rfl ?_
        refine g_p t208_319 rfl ?_
        refine r_getr t208_320 (f80 hF) rfl rfl ?_
        refine g_k (n := 1) t208_323 rfl rfl ?_
        refine g_p t208_324 rfl ?_
        refine r_getr t208_325 (f80 hF) rfl rfl ?_
        refine g_k (n := 1) t208_328 rfl rfl ?_
        refine r_iale t208_329 (f86 hF) (by decide) (by omega) v1 ?_
        refine r_iast t208_330 (f85 hF) (by decide) (by omega) ?_
        refine g_p t208_331 rfl ?_
        refine r_getr t208_332 (f80 hF) rfl rfl ?_
        refine g_k (n := 2) t208_335 rfl rfl ?_
        refine g_p t208_336 rfl ?_
        refine r_getr t208_337 (f80 hF) rfl rfl ?_
        refine g_k (n := 2) t208_340 rfl rfl ?_
        refine r_iale t208_341 (f86 hF) (by decide) (by omega) v2 ?_
        refine r_iast t208_342 (f85 hF) (by decide) (by omega) ?_
        refine g_p t208_343 rfl ?_
        refine g_p t208_344 rfl ?_
        refine r_gete t208_345 (f80 hF) rfl rfl e23 ?_
        refine r_puti t208_348 (f80 hF) rfl rfl ?_
        refine g_p t208_351 rfl ?_
        refine g_p t208_352 rfl ?_
        refine r_puti t208_353 (f80 hF) rfl rfl ?_
        refine g_p t208_356 rfl ?_
        refine g_k (n := 0) t208_357 rfl rfl ?_
        refine r_puti t208_358 (f80 hF) rfl rfl ?_
        refine g_p t208_361 rfl ?_
        refine g_k (n := 0) t208_362 rfl rfl ?_
        refine r_puti t208_363 (f80 hF) rfl rfl ?_
        refine g_p t208_366 rfl ?_
        refine g_p t208_367 rfl ?_
        refine r_gete t208_368 (f80 hF) rfl rfl rfl ?_
        refine r_puti t208_371 (f80 hF) rfl rfl ?_
        refine g_p t208_374 rfl ?_
        refine g_k (n := 0) t208_375 rfl rfl ?_
        refine r_puti t208_376 (f80 hF) rfl rfl ?_
        refine g_p t208_379 rfl ?_
        refine g_k (n := 0) t208_380 rfl rfl ?_
        refine r_puti t208_381 (f80 hF) rfl rfl ?_
        refine g_p t208_384 rfl ?_
        refine g_k (n := 0) t208_385 rfl rfl ?_
        refine r_puti t208_386 (f80 hF) rfl rfl ?_
        refine g_p t208_389 rfl ?_
        refine g_k (n := 0) t208_390 rfl rfl ?_
        refine r_putz t208_391 (f80 hF) rfl rfl rfl ?_
        refine g_p t208_394 rfl ?_
        refine r_gete t208_395 (f80 hF) rfl rfl rfl ?_
        refine i_ret t208_398 rfl (hq _ ((((((((((((((FM.tr (FM.rf.m (A := [85, 86]) (B := tB) (i := 0) (v := nI 0) (by decide)) (f1.mono (by decide) (by decide))).m (by decide)).m (by decide)).w (by decide) (by decide)).w (by decide) (by decide)).m (by decide)).m (by decide)).m (by decide)).m (by decide)).m (by decide)).m (by decide)).m (by decide)).m (by decide)).m (by decide)) ⟨rfl, rfl, rfl, rfl, rfl, ?_, ?_⟩ ⟨rfl, by decide, fun k hk => absurd hk (Nat.not_lt_zero k)⟩ ⟨rfl, by decide, fun k hk => absurd hk (Nat.not_lt_zero k)⟩ ⟨rfl, by decide, fun k hk => absurd hk (Nat.not_lt_zero k)⟩ rfl rfl ⟨rfl, fun k hk => absurd hk (Nat.not_lt_zero k)⟩ (fun _ _ _ _ => trivial) (f1.f (i := 28) (by decide)) (f1.f (i := 31) (by decide)) (f1.f (i := 7) (by decide)))
        · rfl
        · rfl
      · first
          | (have u0 : true = false := h14
             exact absurd u0 (by decide))
          | (have u0 : true = false := h22
             exact absurd u0 (by decide))
          | (have u0 : ¬ (-1 : Int32) = -1 := h31
             exact absurd rfl u0)
theorem c208_1_ok (hF : Fx s) (hT : MTp t s) (h120 : t.length ≤ 120) (hb : isB t) (hM : MB bks s) (hroom : bks.length < 3) (hok : ∃ p, pfi t (bke t).2.2 = .inl p) (hq : ∀ s', FM bA tB s s' → MB (bks ++ [((bke t).1, (bke t).2.1)]) s' → MTp [] s' → (∀ i, i ∈ [20, 21, 32, 33, 34, 35, 40, 53, 58, 64, 31, 7] → ri s' 80 i = ri s 80 i) → Q (some (.int (nI bks.length))) (mR s')) : gE X (d + 6) 208 [.ref 80, .int (nI 1)] (mR s) Q := by
  obtain ⟨p, hpp⟩ := hok
  have hpv : pfv (pfi t (bke t).2.2) = -1 := by rw [hpp]; rfl
  obtain ⟨o1, o2, o3, o4⟩ := bke_ok hpp
  have hbl := bke_len (t := t)
  have e6 := hT.1
  have e28 := hM.1
  have L2 : ∀ s1 : mM, KB s s1 → (ri s1 89 3 = nI (bke t).1.length ∧ ri s1 90 3 = nI (bke t).2.1 ∧ DBm (bke t).1 s1) → ∀ m k : Nat, k + m = 40 → ∀ s', Fx s' → FM bA tB s s' → (∀ i, i ∈ [20, 21, 32, 33, 34, 35, 40, 53, 58, 64, 31, 7, 28] → ri s' 80 i = ri s 80 i) → ri s' 80 6 = nI 0 → CPi 87 (8 * bks.length) 24 8 8 s1 s' → CPi 88 (40 * bks.length) 120 40 k s1 s' → (∀ i, ri s' 89 i = ri s1 89 i) → (∀ i, ri s' 90 i = ri s1 90 i) → ∀ z2, am_nl z2 = true → gG X (d + 6) 208 90 [.ref 80, .int (nI 1), z2, .int (nI k)] [] (mR s') Q := by
    intro s1 hkb hdat m
    induction m with
    | zero =>
      intro k hk s' hF hf hsame e60 c1 c2 c3 c4 z2 n2
      have hk : k = 40 := by omega
      subst hk
      have e28 := (hsame 28 (by decide)).trans e28
      refine g_p t208_90 rfl ?_
      refine g_k (n := 40) t208_91 rfl rfl ?_
      refine n_cge t208_93 (by omega) (by omega) (fun h93 => ?_) (fun h93 => ?_)
      · refine g_p t208_125 rfl ?_
        refine r_getr t208_126 (f80 hF) rfl rfl ?_
        refine g_p t208_129 rfl ?_
        refine r_gete t208_130 (f80 hF) rfl rfl e28 ?_
        refine g_p t208_133 rfl ?_
        refine r_getr t208_134 (f80 hF) rfl rfl ?_
        refine g_k (n := 3) t208_137 rfl rfl ?_
        refine r_iale t208_138 (f89 hF) (by decide) (by omega) ((c3 3).trans hdat.1) ?_
        refine r_iast t208_139 (f89 hF) (by decide) (by omega) ?_
        refine g_p t208_140 rfl ?_
        refine r_getr t208_141 (f80 hF) rfl rfl ?_
        refine g_p t208_144 rfl ?_
        refine r_gete t208_145 (f80 hF) rfl rfl e28 ?_
        refine g_p t208_148 rfl ?_
        refine r_getr t208_149 (f80 hF) rfl rfl ?_
        refine g_k (n := 3) t208_152 rfl rfl ?_
        refine r_iale t208_153 (f90 hF) (by decide) (by omega) ((c4 3).trans hdat.2.1) ?_
        refine r_iast t208_154 (f90 hF) (by decide) (by omega) ?_
        refine g_p t208_155 rfl ?_
        refine g_p t208_156 rfl ?_
        refine r_gete t208_157 (f80 hF) rfl rfl e28 ?_
        refine g_k (n := 1) t208_160 rfl rfl ?_
        refine g_addn t208_161 ?_
        refine r_puti t208_162 (f80 hF) rfl rfl ?_
        refine g_p t208_165 rfl ?_
        refine r_gete t208_166 (f80 hF) rfl rfl rfl ?_
        refine g_k (n := 1) t208_169 rfl rfl ?_
        refine g_subn t208_170 (by omega) ?_
        refine i_ret t208_171 (by rw [Nat.add_sub_cancel]) (hq _ (((hf.w (by decide) (by decide)).w (by decide) (by decide)).m (by decide)) ⟨by rw [List.length_append]; rfl, by rw [List.length_append]; exact hroom, fun b hb2 => ?_⟩ ⟨e60, fun k hk => absurd hk (Nat.not_lt_zero k)⟩ (fun i hi => ?_))
        · rw [List.length_append] at hb2
          by_cases h9 : b < bks.length
          · rw [gDa1 h9]
            obtain ⟨q1, q2, q3, q4, q5⟩ := hM.2.2 b h9
            refine ⟨?_, q2, ?_, q4, fun k hk => ⟨?_, fun q hq => ⟨?_, ((q5 k hk).2 q hq).2⟩⟩⟩
            · rw [ri_wi_ne (by decide), ri_wi_ne (by decide), ri_wi_j (Nat.ne_of_lt h9), c3, hkb.2.2.1 b (by omega)]; exact q1
            · rw [ri_wi_ne (by decide), ri_wi_j (Nat.ne_of_lt h9), ri_wi_ne (by decide), c4, hkb.2.2.2 b (by omega)]; exact q3
            · rw [ri_wi_ne (by decide), ri_wi_ne (by decide), ri_wi_ne (by decide), c1.2 _ (by omega), hkb.1 _ (by omega)]; exact (q5 k hk).1
            · rw [ri_wi_ne (by decide), ri_wi_ne (by decide), ri_wi_ne (by decide), c2.2 _ (by omega), hkb.2.1 _ (by omega)]; exact ((q5 k hk).2 q hq).1
          · have h9 : b = bks.length := by simp at hb2; omega
            subst h9
            rw [gDa2]
            refine ⟨?_, hbl, ?_, o3, fun k hk => ?_⟩
            · exact (ri_wi_ne (by decide)).trans ((ri_wi_ne (by decide)).trans ri_wi_eq)
            · exact (ri_wi_ne (by decide)).trans ri_wi_eq
            · have hk : k < (bke t).1.length := hk
              obtain ⟨d1, d2, d3⟩ := hdat.2.2 k hk
              have hmem : (bke t).1.getD k (0, []) ∈ (bke t).1 := by simp [List.getD, hk]
              obtain ⟨g1, g2, g3⟩ := o1 _ hmem
              refine ⟨?_, fun q hq => ?_⟩
              · rw [ri_wi_ne (by decide), ri_wi_ne (by decide), ri_wi_ne (by decide), c1.1 k (by omega)]; exact d1
              · have hq : q < (bke t).2.1 := hq
                have e5 : (8 * bks.length + k) * 5 + q = 40 * bks.length + (k * 5 + q) := by omega
                refine ⟨?_, ?_⟩
                · rw [ri_wi_ne (by decide), ri_wi_ne (by decide), ri_wi_ne (by decide), e5, c2.1 (k * 5 + q) (by omega), show 120 + (k * 5 + q) = (24 + k) * 5 + q by omega]
                  exact d2 q (by omega)
                · show ((bke t).1.getD k (0, [])).2.getD q 0 < 4
                  exact g3 _ (getD_mem (by omega))
        · have hi2 : i ≠ 28 := fun e => by subst e; revert hi; decide
          rw [ri_wi_j hi2, ri_wi_ne (by decide), ri_wi_ne (by decide)]
          exact hsame i (by simp only [List.mem_cons, List.not_mem_nil, or_false] at hi ⊢; omega)
      · exfalso; omega
    | succ m ih =>
      intro k hk s' hF hf hsame e60 c1 c2 c3 c4 z2 n2
      have e28 := (hsame 28 (by decide)).trans e28
      refine g_p t208_90 rfl ?_
      refine g_k (n := 40) t208_91 rfl rfl ?_
      refine n_cge t208_93 (by omega) (by omega) (fun h93 => ?_) (fun h93 => ?_)
      · exfalso; omega
      · refine g_p t208_96 rfl ?_
        refine r_getr t208_97 (f80 hF) rfl rfl ?_
        refine g_k (n := 40) t208_100 rfl rfl ?_
        refine g_p t208_102 rfl ?_
        refine r_gete t208_103 (f80 hF) rfl rfl e28 ?_
        refine g_muln t208_106 ?_
        refine g_p t208_107 rfl ?_
        refine g_addn t208_108 ?_
        refine g_p t208_109 rfl ?_
        refine r_getr t208_110 (f80 hF) rfl rfl ?_
        refine g_k (n := 120) t208_113 rfl rfl ?_
        refine g_p t208_115 rfl ?_
        refine g_addn t208_116 ?_
        refine r_iald t208_117 (f88 hF) (by decide) (by omega) ?_
        refine r_iast t208_118 (f88 hF) (by decide) (by omega) ?_
        refine g_incn (n := 1) t208_119 rfl rfl (Nat.le_of_ble_eq_true rfl) (am_s1_3 n2) ?_
        refine g_goto t208_122 ?_
        have c5 := c2.n (by omega) (Or.inr (by omega))
        exact ih (k + 1) (by omega) _ (Fx.fr (A := [88]) hF (Fr.rf.wi (by decide))) (hf.w (by decide) (by decide)) (fun i hi => by rw [ri_wi_ne (by decide)]; exact hsame i hi) (by exact e60) (by exact c1) c5 (by exact c3) (by exact c4) _ n2
  have L1 : ∀ s1 : mM, KB s s1 → (ri s1 89 3 = nI (bke t).1.length ∧ ri s1 90 3 = nI (bke t).2.1 ∧ DBm (bke t).1 s1) → ∀ m k : Nat, k + m = 8 → ∀ s', Fx s' → FM bA tB s s' → (∀ i, i ∈ [20, 21, 32, 33, 34, 35, 40, 53, 58, 64, 31, 7, 28] → ri s' 80 i = ri s 80 i) → ri s' 80 6 = nI 0 → CPi 87 (8 * bks.length) 24 8 k s1 s' → (∀ i, ri s' 88 i = ri s1 88 i) → (∀ i, ri s' 89 i = ri s1 89 i) → (∀ i, ri s' 90 i = ri s1 90 i) → ∀ z2, am_nl z2 = true → gG X (d + 6) 208 53 [.ref 80, .int (nI 1), z2, .int (nI k)] [] (mR s') Q := by
    intro s1 hkb hdat m
    induction m with
    | zero =>
      intro k hk s' hF hf hsame e60 c1 c2 c3 c4 z2 n2
      have hk : k = 8 := by omega
      subst hk
      refine g_p t208_53 rfl ?_
      refine g_k (n := 8) t208_54 rfl rfl ?_
      refine n_cge t208_56 (by omega) (by omega) (fun h56 => ?_) (fun h56 => ?_)
      · refine g_k (n := 0) t208_88 rfl rfl ?_
        refine g_isn t208_89 (Nat.le_of_ble_eq_true rfl) (am_s1_3 n2) ?_
        exact L2 s1 hkb hdat 40 0 (by omega) s' hF hf hsame e60 c1 ⟨fun i hi => absurd hi (Nat.not_lt_zero i), fun i _ => c2 i⟩ c3 c4 _ n2
      · exfalso; omega
    | succ m ih =>
      intro k hk s' hF hf hsame e60 c1 c2 c3 c4 z2 n2
      have e28 := (hsame 28 (by decide)).trans e28
      refine g_p t208_53 rfl ?_
      refine g_k (n := 8) t208_54 rfl rfl ?_
      refine n_cge t208_56 (by omega) (by omega) (fun h56 => ?_) (fun h56 => ?_)
      · exfalso; omega
      · refine g_p t208_59 rfl ?_
        refine r_getr t208_60 (f80 hF) rfl rfl ?_
        refine g_k (n := 8) t208_63 rfl rfl ?_
        refine g_p t208_65 rfl ?_
        refine r_gete t208_66 (f80 hF) rfl rfl e28 ?_
        refine g_muln t208_69 ?_
        refine g_p t208_70 rfl ?_
        refine g_addn t208_71 ?_
        refine g_p t208_72 rfl ?_
        refine r_getr t208_73 (f80 hF) rfl rfl ?_
        refine g_k (n := 24) t208_76 rfl rfl ?_
        refine g_p t208_78 rfl ?_
        refine g_addn t208_79 ?_
        refine r_iald t208_80 (f87 hF) (by decide) (by omega) ?_
        refine r_iast t208_81 (f87 hF) (by decide) (by omega) ?_
        refine g_incn (n := 1) t208_82 rfl rfl (Nat.le_of_ble_eq_true rfl) (am_s1_3 n2) ?_
        refine g_goto t208_85 ?_
        have c5 := c1.n (by omega) (Or.inr (by omega))
        exact ih (k + 1) (by omega) _ (Fx.fr (A := [87]) hF (Fr.rf.wi (by decide))) (hf.w (by decide) (by decide)) (fun i hi => by rw [ri_wi_ne (by decide)]; exact hsame i hi) (by exact e60) c5 (by exact c2) (by exact c3) (by exact c4) _ n2
  refine en208 rfl rfl ?_
  refine g_p t208_0 rfl ?_
  refine g_k (n := 0) t208_1 rfl rfl ?_
  refine r_puti t208_2 (f80 hF) rfl rfl ?_
  refine g_p t208_5 rfl ?_
  refine g_p t208_6 rfl ?_
  refine g_p t208_7 rfl ?_
  refine g_p t208_8 rfl ?_
  refine g_cs t208_11 rfl rfl rfl ?_
  refine c176i (a := nI 0) (b := nI 3) rfl rfl ?_
  rw [isR_n (a := 0) (b := 3) (n := 1) (by decide) (by decide) (by decide)]
  refine k_v ?_ rfl
  refine b_eq t208_14 (fun h14 => ?_) (fun h14 => ?_)
  · first
      | (have u0 : true = false := h14
         exact absurd u0 (by decide))
      | (have u0 : true = false := h22
         exact absurd u0 (by decide))
      | (have u0 : ¬ (-1 : Int32) = -1 := h31
         exact absurd rfl u0)
  · refine g_p t208_17 rfl ?_
    refine g_p t208_18 rfl ?_
    refine r_cv t208_19 (f80 hF) rfl ?_
    refine c207_1 (by exact hF) (by exact e28) (by omega) ?_
    rw [decide_eq_true hroom]
    refine k_v ?_ rfl
    refine b_eq t208_22 (fun h22 => ?_) (fun h22 => ?_)
    · first
        | (have u0 : true = false := h14
           exact absurd u0 (by decide))
        | (have u0 : true = false := h22
           exact absurd u0 (by decide))
        | (have u0 : ¬ (-1 : Int32) = -1 := h31
           exact absurd rfl u0)
    · refine g_p t208_25 rfl ?_
      refine g_p t208_26 rfl ?_
      refine r_cv t208_27 (f80 hF) rfl ?_
      refine c206_1 (d := d) (Fx.fr (A := [80]) hF (Fr.rf.wi (by decide))) (show MTp t (wi s 80 0 (nI 0)) from hT) h120 hb (fun s1 f1 hkb hdat => ?_)
      rw [hpv]
      have hF := Fx.fr (Fx.fr (A := [80]) hF (Fr.rf.wi (p := 80) (i := 0) (v := nI 0) (by decide))) f1.1
      have e6 := (f1.f (i := 6) (by decide)).trans e6
      refine k_v ?_ rfl
      refine g_p t208_30 rfl ?_
      refine g_ceq t208_31 (fun h31 => ?_) (fun h31 => ?_)
      · refine g_p t208_36 rfl ?_
        refine r_gete t208_37 (f80 hF) rfl rfl e6 ?_
        refine g_isn t208_40 (Nat.le_of_ble_eq_true rfl) (am_s1_2 rfl) ?_
        refine g_p t208_41 rfl ?_
        refine g_k (n := 0) t208_42 rfl rfl ?_
        refine r_puti t208_43 (f80 hF) rfl rfl ?_
        refine g_p t208_46 rfl ?_
        refine g_k (n := 1) t208_47 rfl rfl ?_
        refine n_cne t208_48 (by decide) (by decide) (fun h => absurd rfl h) (fun _ => ?_)
        refine g_k (n := 0) t208_51 rfl rfl ?_
        refine g_isn t208_52 (Nat.le_of_ble_eq_true rfl) (am_s1_3 rfl) ?_
        have hkb2 : KB s (wi s1 80 6 (nI 0)) := hkb
        have hd2 : ri (wi s1 80 6 (nI 0)) 89 3 = nI (bke t).1.length ∧ ri (wi s1 80 6 (nI 0)) 90 3 = nI (bke t).2.1 ∧ DBm (bke t).1 (wi s1 80 6 (nI 0)) := hdat ⟨p, hpp⟩
        refine L1 _ hkb2 hd2 8 0 (by omega) _ (Fx.fr (A := [80]) hF (Fr.rf.wi (by decide))) (((FM.rf.m (A := bA) (B := tB) (i := 0) (v := nI 0) (by decide)).tr (f1.mono (by decide) (by decide))).m (by decide)) (fun i hi => ?_) rfl ⟨fun i hi => absurd hi (Nat.not_lt_zero i), fun i _ => rfl⟩ (fun _ => rfl) (fun _ => rfl) (fun _ => rfl) _ rfl
        have hi2 : i ≠ 6 := fun e => by subst e; revert hi; decide
        have hi3 : i ≠ 0 := fun e => by subst e; revert hi; decide
        rw [ri_wi_j hi2, f1.f (i := i) (by intro h; simp only [List.mem_cons, List.not_mem_nil, or_false] at hi h; omega), ri_wi_j hi3]
      · first
          | (have u0 : true = false := h14
             exact absurd u0 (by decide))
          | (have u0 : true = false := h22
             exact absurd u0 (by decide))
          | (have u0 : ¬ (-1 : Int32) = -1 := h31
             exact absurd rfl u0)
end RM2
