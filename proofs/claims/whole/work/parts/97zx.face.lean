/-! THE FACE: at, lightAt -/
theorem g_th {X : am_X} {d y pc nx a b : Nat} {ls st : List Value} {hp : am_H} {Q : Option Value → am_H → Prop} {i : ClassFile.Instr} {k : Value} (t : am_T y pc = some (7, i, nx, [a, b], k)) (hc : am_cat st ≤ 8) (q : Q (some (.float 1)) (hp.1, hp.2.1, hp.2.2.1 + a, hp.2.2.2 + b)) : gG X d y pc ls st hp Q := by
  refine ⟨1, some (.float 1), _, ?_, q⟩
  rw [am_ex, t]
  show (if am_cat st ≤ 8 then _ else _) = _
  rw [if_pos hc]
  rfl
/-- after a throw -/
def mth (s : mM) : mM := (s.1, s.2.1, s.2.2.1, s.2.2.2.1, s.2.2.2.2.1 + 1, s.2.2.2.2.2 + 6)
def la (P q day : Nat) (y : Int32) (i : Nat) : Int32 := if i = 4 then nI q else if i = 5 then nI day else if i = 6 then y else nI P
section TX
variable {X : am_X} {d k P n r w pd row day left q : Nat} {s : mM} {hp : am_H} {Q : Option Value → am_H → Prop} {t : List Nat} {x y : Int32}
theorem c136f (hF : Fx s) (hP : ri s 19 0 = nI P) (hP5 : P ≤ 5) (hx : inN P x = false) (hq : Q (some (.float 1)) (mR (mth s))) : gE X (d + 3) 136 [.ref 0, .int x] (mR s) Q := by
  refine en136 rfl rfl ?_
  refine g_p t136_0 rfl ?_
  refine r_getr t136_1 (f0 hF) rfl rfl ?_
  refine g_p t136_4 rfl ?_
  refine r_cv t136_5 (f19 hF) rfl ?_
  refine c75 (by exact hF) (by exact hP) hP5 ?_
  refine k_v ?_ rfl
  refine b_ne t136_8 (fun h8 => ?_) (fun h8 => ?_)
  · exact no_b h8 hx
  · exact g_th t136_11 (Nat.le_of_ble_eq_true rfl) hq
theorem c137f (hF : Fx s) (hP : ri s 19 0 = nI P) (hP5 : P ≤ 5) (hx : ¬ (inN P x = true ∧ isS y = true)) (hq : Q (some (.int (-1000000))) (mR s)) : gE X (d + 28) 137 [.ref 0, .int x, .int y] (mR s) Q := by
  refine en137 rfl rfl rfl ?_
  refine g_p t137_0 rfl ?_
  refine r_getr t137_1 (f0 hF) rfl rfl ?_
  refine g_p t137_4 rfl ?_
  refine r_cv t137_5 (f19 hF) rfl ?_
  refine c75 (by exact hF) (by exact hP) hP5 ?_
  refine k_v ?_ rfl
  refine b_eq t137_8 (fun h8 => ?_) (fun h8 => ?_)
  · refine g_p t137_18 rfl ?_
    exact i_ret t137_20 rfl hq
  · refine g_p t137_11 rfl ?_
    refine g_cs t137_12 rfl rfl rfl ?_
    refine c134 ?_
    refine k_v ?_ rfl
    refine b_ne t137_15 (fun h15 => ?_) (fun h15 => ?_)
    · exact absurd ⟨h8, h15⟩ hx
    · refine g_p t137_18 rfl ?_
      exact i_ret t137_20 rfl hq
theorem c137n (hF : Fx s) (hP : ri s 19 0 = nI P) (hP5 : P ≤ 5) (hx : q < P) (hy : isS y = true) (hh : Hd none s) (hq : Q (some (.int (nI 0))) (mR s)) : gE X (d + 28) 137 [.ref 0, .int (nI q), .int y] (mR s) Q := by
  refine en137 rfl rfl rfl ?_
  refine g_p t137_0 rfl ?_
  refine r_getr t137_1 (f0 hF) rfl rfl ?_
  refine g_p t137_4 rfl ?_
  refine r_cv t137_5 (f19 hF) rfl ?_
  refine c75 (by exact hF) (by exact hP) hP5 ?_
  refine k_v ?_ rfl
  refine b_eq t137_8 (fun h8 => ?_) (fun h8 => ?_)
  · first
      | (have u0 := h15; exact no_b hy u0)
      | exact no_b (inN_n hx (by omega)) h8
  · refine g_p t137_11 rfl ?_
    refine g_cs t137_12 rfl rfl rfl ?_
    refine c134 ?_
    refine k_v ?_ rfl
    refine b_ne t137_15 (fun h15 => ?_) (fun h15 => ?_)
    · refine g_p t137_21 rfl ?_
      refine r_getq t137_22 (f0 hF) rfl rfl hh rfl ?_
      refine g_b (b := false) t137_25 rfl ?_
      refine g_k (n := 0) t137_28 rfl rfl ?_
      refine g_goto t137_29 ?_
      exact i_ret t137_59 rfl hq
    · first
        | (have u0 := h15; exact no_b hy u0)
        | exact no_b (inN_n hx (by omega)) h8
theorem c137t (hF : Fx s) (hP : ri s 19 0 = nI P) (hP5 : P ≤ 5) (hx : q < P) (hy : isS y = true) (hW : CW r w pd row day left s) (hh : Hd (some t) s) (hq : ∀ s', FL [15] [15] s s' → Q (some (.int (lwo t (la P q day y)).1.2.toInt32)) (mR s')) : gE X (d + 28) 137 [.ref 0, .int (nI q), .int y] (mR s) Q := by
  obtain ⟨T, n, h114, hX, hh⟩ := hh
  obtain ⟨e1, e2, e3, e4, e5, e6⟩ := hW
  refine en137 rfl rfl rfl ?_
  refine g_p t137_0 rfl ?_
  refine r_getr t137_1 (f0 hF) rfl rfl ?_
  refine g_p t137_4 rfl ?_
  refine r_cv t137_5 (f19 hF) rfl ?_
  refine c75 (by exact hF) (by exact hP) hP5 ?_
  refine k_v ?_ rfl
  refine b_eq t137_8 (fun h8 => ?_) (fun h8 => ?_)
  · first
      | (have u0 := h15; exact no_b hy u0)
      | exact no_b (inN_n hx (by omega)) h8
  · refine g_p t137_11 rfl ?_
    refine g_cs t137_12 rfl rfl rfl ?_
    refine c134 ?_
    refine k_v ?_ rfl
    refine b_ne t137_15 (fun h15 => ?_) (fun h15 => ?_)
    · refine g_p t137_21 rfl ?_
      refine r_getq t137_22 (f0 hF) rfl rfl hh (m_rq_r hX.2.2.2.2.1) ?_
      refine g_b (b := true) t137_25 rfl ?_
      refine g_p t137_32 rfl ?_
      refine r_getr t137_33 (f0 hF) rfl rfl ?_
      refine g_p t137_36 rfl ?_
      refine r_getq t137_37 (f0 hF) rfl rfl hh (m_rq_r hX.2.2.2.2.1) ?_
      refine g_p t137_40 rfl ?_
      refine g_p t137_41 rfl ?_
      refine r_getr t137_42 (f0 hF) rfl rfl ?_
      refine r_cv t137_45 (f32 hF) rfl ?_
      refine c97 (by exact hF) e5 ?_
      refine k_v ?_ rfl
      refine g_p t137_48 rfl ?_
      refine g_p t137_49 rfl ?_
      refine r_getr t137_50 (f0 hF) rfl rfl ?_
      refine r_cv t137_53 (f19 hF) rfl ?_
      refine c74 (by exact hF) hP ?_
      refine k_v ?_ rfl
      refine r_cv t137_56 (f15 hF) rfl ?_
      refine c18 (a := la P q day y) (by omega) (by exact hF) (by exact hX) (fun s56 fr56 hD => ?_)
      refine k_v ?_ rfl
      exact i_ret t137_59 rfl (hq s56 fr56)
    · first
        | (have u0 := h15; exact no_b hy u0)
        | exact no_b (inN_n hx (by omega)) h8
end TX
