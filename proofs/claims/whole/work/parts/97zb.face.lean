/-! THE FACE, 1: what is asked of arguments; lists of the JDK -/
def isS (x : Int32) : Bool := decide (x = 1) || decide (x = 2)
def isH (x : Int32) : Bool := decide (x = 0) || decide (x = 1)
def isL (x : Int32) : Bool := inN 8 x
def isL0 (x : Int32) : Bool := decide (x = -1) || inN 8 x
/-- a list of the JDK at a holds the cells ps -/
def AL (s : mM) (a : Nat) (ps : List Nat) : Prop := ri s a 2 = nI ps.length ∧ ps.length ≤ 4 ∧ (ps = [] → ri s a 1 = nI 1) ∧ (ps ≠ [] → ∃ e, 114 ≤ e ∧ e + 2 < 2 ^ 31 ∧ ri s a 1 = nI (e + 2) ∧ s.1 e = .inl (4, 10, .inr (.inr (.inr (.inr (fun _ => none))))) ∧ ∀ k, k < ps.length → ri s e k = nI (ps.getD k 0 + 2) ∧ ps.getD k 0 + 2 < 2 ^ 31)
theorem AL.fr {A : List Nat} {s s' : mM} {a : Nat} {ps : List Nat} (h : AL s a ps) (f : Fr A s s') (h1 : a ∉ A) (hA : ∀ x ∈ A, x < 114) : AL s' a ps := by
  obtain ⟨q1, q2, q3, q4⟩ := h
  refine ⟨(f.ri h1).trans q1, q2, fun h => (f.ri h1).trans (q3 h), fun h => ?_⟩
  obtain ⟨e, r1, r2, r3, r4, r5⟩ := q4 h
  exact ⟨e, r1, r2, (f.ri h1).trans r3, by rw [f.1]; exact r4, fun k hk => ⟨(f.ri (nin hA r1)).trans (r5 k hk).1, (r5 k hk).2⟩⟩
section FA
variable {X : am_X} {d : Nat} {s : mM} {hp : am_H} {Q : Option Value → am_H → Prop} {P r w pd row day left a k n : Nat} {ps : List Nat} {x : Int32}
theorem c132 (hq : Q (some (.int (bI (isL x)))) hp) : gE X d 132 [.int x] hp Q := by
  refine en132 rfl ?_
  refine g_p t132_0 rfl ?_
  refine g_lt t132_1 (fun h1 => ?_) (fun h1 => ?_)
  · refine g_k (n := 0) t132_14 rfl rfl ?_
    exact b_ret t132_15 (by unfold isL; first | (rw [inN_f1 h1]; rfl) | (rw [inN_f2 h7]; rfl) | (rw [inN_tt h1 h7]; rfl)) hq
  · refine g_p t132_4 rfl ?_
    refine g_k (n := 8) t132_5 rfl rfl ?_
    refine g_cge t132_7 (fun h7 => ?_) (fun h7 => ?_)
    · refine g_k (n := 0) t132_14 rfl rfl ?_
      exact b_ret t132_15 (by unfold isL; first | (rw [inN_f1 h1]; rfl) | (rw [inN_f2 h7]; rfl) | (rw [inN_tt h1 h7]; rfl)) hq
    · refine g_k (n := 1) t132_10 rfl rfl ?_
      refine g_goto t132_11 ?_
      exact b_ret t132_15 (by unfold isL; first | (rw [inN_f1 h1]; rfl) | (rw [inN_f2 h7]; rfl) | (rw [inN_tt h1 h7]; rfl)) hq
theorem c133 (hq : Q (some (.int (bI (isL0 x)))) hp) : gE X (d + 1) 133 [.int x] hp Q := by
  refine en133 rfl ?_
  refine g_p t133_0 rfl ?_
  refine g_p t133_1 rfl ?_
  refine g_ceq t133_2 (fun h2 => ?_) (fun h2 => ?_)
  · refine g_k (n := 1) t133_12 rfl rfl ?_
    refine g_goto t133_13 ?_
    have e : ∀ z, z = inN 8 x → isL0 x = (decide (x = -1) || z) := fun z hz => by rw [hz]; rfl
    first
      | (have u := h2; exact b_ret t133_17 (by rw [e _ rfl, decide_eq_true u]; rfl) hq)
      | (have u := h9; exact b_ret t133_17 (by rw [e _ u.symm, Bool.or_true]; rfl) hq)
      | (have u := h9; exact b_ret t133_17 (by rw [e _ u.symm, decide_eq_false h2]; rfl) hq)
  · refine g_p t133_5 rfl ?_
    refine g_cs t133_6 rfl rfl rfl ?_
    refine c132 ?_
    refine k_v ?_ rfl
    refine b_eq t133_9 (fun h9 => ?_) (fun h9 => ?_)
    · refine g_k (n := 0) t133_16 rfl rfl ?_
      have e : ∀ z, z = inN 8 x → isL0 x = (decide (x = -1) || z) := fun z hz => by rw [hz]; rfl
      first
        | (have u := h2; exact b_ret t133_17 (by rw [e _ rfl, decide_eq_true u]; rfl) hq)
        | (have u := h9; exact b_ret t133_17 (by rw [e _ u.symm, Bool.or_true]; rfl) hq)
        | (have u := h9; exact b_ret t133_17 (by rw [e _ u.symm, decide_eq_false h2]; rfl) hq)
    · refine g_k (n := 1) t133_12 rfl rfl ?_
      refine g_goto t133_13 ?_
      have e : ∀ z, z = inN 8 x → isL0 x = (decide (x = -1) || z) := fun z hz => by rw [hz]; rfl
      first
        | (have u := h2; exact b_ret t133_17 (by rw [e _ rfl, decide_eq_true u]; rfl) hq)
        | (have u := h9; exact b_ret t133_17 (by rw [e _ u.symm, Bool.or_true]; rfl) hq)
        | (have u := h9; exact b_ret t133_17 (by rw [e _ u.symm, decide_eq_false h2]; rfl) hq)
theorem c134 (hq : Q (some (.int (bI (isS x)))) hp) : gE X d 134 [.int x] hp Q := by
  refine en134 rfl ?_
  refine g_p t134_0 rfl ?_
  refine g_k (n := 1) t134_1 rfl rfl ?_
  refine g_ceq t134_2 (fun h2 => ?_) (fun h2 => ?_)
  · refine g_k (n := 1) t134_10 rfl rfl ?_
    refine g_goto t134_11 ?_
    first
      | (have u : x = 1 := h2; exact b_ret t134_15 (by unfold isS; rw [decide_eq_true u]; rfl) hq)
      | (have u : x = 2 := h7; exact b_ret t134_15 (by unfold isS; rw [decide_eq_true u, Bool.or_true]; rfl) hq)
      | (have u : ¬ x = 2 := h7; have u2 : ¬ x = 1 := h2; exact b_ret t134_15 (by unfold isS; rw [decide_eq_false u, decide_eq_false u2]; rfl) hq)
  · refine g_p t134_5 rfl ?_
    refine g_k (n := 2) t134_6 rfl rfl ?_
    refine g_cne t134_7 (fun h7 => ?_) (fun h7 => ?_)
    · refine g_k (n := 0) t134_14 rfl rfl ?_
      first
        | (have u : x = 1 := h2; exact b_ret t134_15 (by unfold isS; rw [decide_eq_true u]; rfl) hq)
        | (have u : x = 2 := h7; exact b_ret t134_15 (by unfold isS; rw [decide_eq_true u, Bool.or_true]; rfl) hq)
        | (have u : ¬ x = 2 := h7; have u2 : ¬ x = 1 := h2; exact b_ret t134_15 (by unfold isS; rw [decide_eq_false u, decide_eq_false u2]; rfl) hq)
    · refine g_k (n := 1) t134_10 rfl rfl ?_
      refine g_goto t134_11 ?_
      first
        | (have u : x = 1 := h2; exact b_ret t134_15 (by unfold isS; rw [decide_eq_true u]; rfl) hq)
        | (have u : x = 2 := h7; exact b_ret t134_15 (by unfold isS; rw [decide_eq_true u, Bool.or_true]; rfl) hq)
        | (have u : ¬ x = 2 := h7; have u2 : ¬ x = 1 := h2; exact b_ret t134_15 (by unfold isS; rw [decide_eq_false u, decide_eq_false u2]; rfl) hq)
theorem c135 (hq : Q (some (.int (bI (isH x)))) hp) : gE X d 135 [.int x] hp Q := by
  refine en135 rfl ?_
  refine g_p t135_0 rfl ?_
  refine g_eq t135_1 (fun h1 => ?_) (fun h1 => ?_)
  · refine g_k (n := 1) t135_9 rfl rfl ?_
    refine g_goto t135_10 ?_
    first
      | (have u : x = 0 := h1; exact b_ret t135_14 (by unfold isH; rw [decide_eq_true u]; rfl) hq)
      | (have u : x = 1 := h6; exact b_ret t135_14 (by unfold isH; rw [decide_eq_true u, Bool.or_true]; rfl) hq)
      | (have u : ¬ x = 1 := h6; have u2 : ¬ x = 0 := h1; exact b_ret t135_14 (by unfold isH; rw [decide_eq_false u, decide_eq_false u2]; rfl) hq)
  · refine g_p t135_4 rfl ?_
    refine g_k (n := 1) t135_5 rfl rfl ?_
    refine g_cne t135_6 (fun h6 => ?_) (fun h6 => ?_)
    · refine g_k (n := 0) t135_13 rfl rfl ?_
      first
        | (have u : x = 0 := h1; exact b_ret t135_14 (by unfold isH; rw [decide_eq_true u]; rfl) hq)
        | (have u : x = 1 := h6; exact b_ret t135_14 (by unfold isH; rw [decide_eq_true u, Bool.or_true]; rfl) hq)
        | (have u : ¬ x = 1 := h6; have u2 : ¬ x = 0 := h1; exact b_ret t135_14 (by unfold isH; rw [decide_eq_false u, decide_eq_false u2]; rfl) hq)
    · refine g_k (n := 1) t135_9 rfl rfl ?_
      refine g_goto t135_10 ?_
      first
        | (have u : x = 0 := h1; exact b_ret t135_14 (by unfold isH; rw [decide_eq_true u]; rfl) hq)
        | (have u : x = 1 := h6; exact b_ret t135_14 (by unfold isH; rw [decide_eq_true u, Bool.or_true]; rfl) hq)
        | (have u : ¬ x = 1 := h6; have u2 : ¬ x = 0 := h1; exact b_ret t135_14 (by unfold isH; rw [decide_eq_false u, decide_eq_false u2]; rfl) hq)
theorem c129 (hF : Fx s) (hP : ri s 19 0 = nI P) (hP5 : P ≤ 5) (hq : Q (some (.int (bI (decide (0 < P))))) (mR s)) : gE X (d + 1) 129 [.ref 0] (mR s) Q := by
  refine en129 rfl ?_
  refine g_p t129_0 rfl ?_
  refine r_getr t129_1 (f0 hF) rfl rfl ?_
  refine r_cv t129_4 (f19 hF) rfl ?_
  refine c74 (by exact hF) hP ?_
  refine k_v ?_ rfl
  refine n_le t129_7 (by omega) (fun h7 => ?_) (fun h7 => ?_)
  · refine g_k (n := 0) t129_14 rfl rfl ?_
    first
      | (have u : P = 0 := h7; exact b_ret t129_15 (by rw [decide_eq_false (by omega)]; rfl) hq)
      | (have u : 0 < P := h7; exact b_ret t129_15 (by rw [decide_eq_true u]; rfl) hq)
  · refine g_k (n := 1) t129_10 rfl rfl ?_
    refine g_goto t129_11 ?_
    first
      | (have u : P = 0 := h7; exact b_ret t129_15 (by rw [decide_eq_false (by omega)]; rfl) hq)
      | (have u : 0 < P := h7; exact b_ret t129_15 (by rw [decide_eq_true u]; rfl) hq)
theorem c278 (hAo : s.1 a = .inr (0, [.int 0, .retAddr 7, .int 0])) (hA : AL s a ps) (hq : Q (some (.int (nI ps.length))) (mR s)) : gE X d 278 [.ref a] (mR s) Q := by
  have h2 := hA.1
  refine en278 rfl ?_
  refine g_p t278_0 rfl ?_
  refine r_gete t278_1 hAo rfl rfl h2 ?_
  exact i_ret t278_4 rfl hq
theorem c284 (hk : k < n) (hn : n < 2 ^ 31) (hq : Q (some (.int (nI k))) hp) : gE X d 284 [.int (nI k), .int (nI n), .null] hp Q := by
  refine en284 rfl rfl rfl ?_
  refine g_p t284_0 rfl ?_
  refine n_lt t284_1 (by omega) ?_
  refine g_p t284_4 rfl ?_
  refine g_p t284_5 rfl ?_
  refine n_clt t284_6 (by omega) (by omega) (fun h6 => ?_) (fun h6 => ?_)
  · refine g_p t284_16 rfl ?_
    exact i_ret t284_17 rfl hq
  · exfalso; omega
theorem c283 (hk : k < n) (hn : n < 2 ^ 31) (hq : Q (some (.int (nI k))) hp) : gE X (d + 1) 283 [.int (nI k), .int (nI n)] hp Q := by
  refine en283 rfl rfl ?_
  refine g_p t283_0 rfl ?_
  refine g_p t283_1 rfl ?_
  refine g_p t283_2 rfl ?_
  refine g_cs t283_3 rfl rfl rfl ?_
  refine c284 hk hn ?_
  refine k_v ?_ rfl
  exact i_ret t283_6 rfl hq
theorem c279 (hAo : s.1 a = .inr (0, [.int 0, .retAddr 7, .int 0])) (hA : AL s a ps) (hk : k < ps.length) (hq : Q (some (.ref (ps.getD k 0))) (mR s)) : gE X d 279 [.ref a, .int (nI k)] (mR s) Q := by
  have h4 := hA.2.1
  obtain ⟨e, r1, r2, r3, r4, r5⟩ := hA.2.2.2 (fun h => by rw [h] at hk; exact absurd hk (Nat.not_lt_zero k))
  refine en279 rfl rfl ?_
  refine g_p t279_0 rfl ?_
  refine r_getq t279_1 hAo rfl rfl r3 (m_rq_r r2) ?_
  refine g_p t279_4 rfl ?_
  refine r_aald t279_5 r4 (by decide) (by omega) (v := .ref (ps.getD k 0)) (by rw [(r5 k hk).1, m_ro_r (r5 k hk).2]; rfl) ?_
  exact a_ret t279_6 rfl rfl hq
theorem c280 (hAo : s.1 a = .inr (0, [.int 0, .retAddr 7, .int 0])) (hA : AL s a ps) (hk : k < ps.length) (hq : Q (some (.ref (ps.getD k 0))) (mR s)) : gE X (d + 2) 280 [.ref a, .int (nI k)] (mR s) Q := by
  have h2 := hA.1
  have h4 := hA.2.1
  refine en280 rfl rfl ?_
  refine g_p t280_0 rfl ?_
  refine g_p t280_1 rfl ?_
  refine r_gete t280_2 hAo rfl rfl h2 ?_
  refine g_cs t280_5 rfl rfl rfl ?_
  refine c283 hk (by omega) ?_
  refine k_v ?_ rfl
  refine g_p t280_8 rfl ?_
  refine g_p t280_9 rfl ?_
  refine g_p t280_10 rfl ?_
  refine r_cv t280_11 hAo rfl ?_
  refine c279 hAo hA hk ?_
  refine k_v ?_ rfl
  exact a_ret t280_14 rfl rfl hq
end FA
