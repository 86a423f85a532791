/-! THE LAW: the pure run -/
theorem law_ops {X : am_X} : ∀ q, q < 35 → OPL X (opP.getD q 0) := fun q hq => match q, hq with
  | 0, _ => op0
  | 1, _ => op1
  | 2, _ => op2
  | 3, _ => op3
  | 4, _ => op4
  | 5, _ => op5
  | 6, _ => op6
  | 7, _ => op7
  | 8, _ => op8
  | 9, _ => op9
  | 10, _ => op10
  | 11, _ => op11
  | 12, _ => op12
  | 13, _ => op13
  | 14, _ => op14
  | 15, _ => op15
  | 16, _ => op16
  | 17, _ => op17
  | 18, _ => op18
  | 19, _ => op19
  | 20, _ => op20
  | 21, _ => op21
  | 22, _ => op22
  | 23, _ => op23
  | 24, _ => op24
  | 25, _ => op25
  | 26, _ => op26
  | 27, _ => op27
  | 28, _ => op28
  | 29, _ => op29
  | 30, _ => op30
  | 31, _ => op31
  | 32, _ => op32
  | 33, _ => op33
  | 34, _ => op34
  | n + 35, h => absurd h (by omega)
theorem am_pure (X : am_X) (hX : X.1 ≤ 3072) : ∃ (n : Nat) (hp' : am_H), am_ex am_T am_mx am_DF X n 1000 285 0 (am_ent (am_mx 285) [.retAddr 0]) [] am_h0 = some (some (.int 1), hp') ∧ hp'.2.2.1 ≤ 601024 ∧ hp'.2.2.2 ≤ 7293034 := by
  have h := (law_0 (X := X) (d := 700) (Q := fun v hp => v = some (.int 1) ∧ hp.2.2.1 ≤ 601024 ∧ hp.2.2.2 ≤ 7293034) hX law_ops (fun s hL => by
    have h1 := hL.2.1.1
    have h2 := hL.2.1.2.1
    exact ⟨rfl, by show s.2.2.2.2.1 ≤ _; omega, by show s.2.2.2.2.2 ≤ _; omega⟩)).2
  obtain ⟨n, v, hp', e, hv, q1, q2⟩ := h
  subst hv
  exact ⟨n, hp', e, q1, q2⟩
