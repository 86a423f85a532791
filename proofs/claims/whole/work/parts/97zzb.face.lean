/-! THE FACE: a text kept, 1 -/
section TZB
variable {X : am_X} {d p k : Nat} {s : mM} {hp : am_H} {Q : Option Value → am_H → Prop} {v : Int32} {o : Option Nat} {l : List Nat}
def dv2 (o : Option Nat) : Nat := o.getD 2
theorem c89 (hF : Fx s) (e : ri s 3 4 = v) (hq : Q (some (.int v)) (mR s)) : gE X d 89 [.ref 3] (mR s) Q := by
  refine en89 rfl ?_
  refine g_p t89_0 rfl ?_
  refine r_gete t89_1 (f3 hF) rfl rfl e ?_
  exact i_ret t89_4 rfl hq
theorem c90 (hF : Fx s) (e : ri s 3 5 = oI o) (hb : ∀ x, o = some x → x ≤ 5) (hq : Q (some (.int (nI (dv2 o)))) (mR s)) : gE X d 90 [.ref 3] (mR s) Q := by
  cases o with
  | none =>
    have e : ri s 3 5 = -1 := e
    refine en90 rfl ?_
    refine g_p t90_0 rfl ?_
    refine r_gete t90_1 (f3 hF) rfl rfl e ?_
    refine g_p t90_4 rfl ?_
    refine g_cne t90_5 (fun h5 => ?_) (fun h5 => ?_)
    · exact absurd rfl h5
    · refine g_k (n := 2) t90_8 rfl rfl ?_
      refine g_goto t90_9 ?_
      exact i_ret t90_16 rfl hq
  | some x =>
    have e : ri s 3 5 = nI x := e
    have := hb x rfl
    refine en90 rfl ?_
    refine g_p t90_0 rfl ?_
    refine r_gete t90_1 (f3 hF) rfl rfl e ?_
    refine g_p t90_4 rfl ?_
    refine g_cne t90_5 (fun h5 => ?_) (fun h5 => ?_)
    · refine g_p t90_12 rfl ?_
      refine r_gete t90_13 (f3 hF) rfl rfl e ?_
      exact i_ret t90_16 rfl hq
    · exact absurd h5 (nI_m1 (by omega))
theorem c91 (hF : Fx s) (e : ri s 3 6 = oI o) (hb : ∀ x, o = some x → x ≤ 5) (hq : Q (some (.int (nI (dv2 o)))) (mR s)) : gE X d 91 [.ref 3] (mR s) Q := by
  cases o with
  | none =>
    have e : ri s 3 6 = -1 := e
    refine en91 rfl ?_
    refine g_p t91_0 rfl ?_
    refine r_gete t91_1 (f3 hF) rfl rfl e ?_
    refine g_p t91_4 rfl ?_
    refine g_cne t91_5 (fun h5 => ?_) (fun h5 => ?_)
    · exact absurd rfl h5
    · refine g_k (n := 2) t91_8 rfl rfl ?_
      refine g_goto t91_9 ?_
      exact i_ret t91_16 rfl hq
  | some x =>
    have e : ri s 3 6 = nI x := e
    have := hb x rfl
    refine en91 rfl ?_
    refine g_p t91_0 rfl ?_
    refine r_gete t91_1 (f3 hF) rfl rfl e ?_
    refine g_p t91_4 rfl ?_
    refine g_cne t91_5 (fun h5 => ?_) (fun h5 => ?_)
    · refine g_p t91_12 rfl ?_
      refine r_gete t91_13 (f3 hF) rfl rfl e ?_
      exact i_ret t91_16 rfl hq
    · exact absurd h5 (nI_m1 (by omega))
theorem c92 (hF : Fx s) (e : ri s 3 7 = oI o) (hb : ∀ x, o = some x → x ≤ 5) (hq : Q (some (.int (nI (dv2 o)))) (mR s)) : gE X d 92 [.ref 3] (mR s) Q := by
  cases o with
  | none =>
    have e : ri s 3 7 = -1 := e
    refine en92 rfl ?_
    refine g_p t92_0 rfl ?_
    refine r_gete t92_1 (f3 hF) rfl rfl e ?_
    refine g_p t92_4 rfl ?_
    refine g_cne t92_5 (fun h5 => ?_) (fun h5 => ?_)
    · exact absurd rfl h5
    · refine g_k (n := 2) t92_8 rfl rfl ?_
      refine g_goto t92_9 ?_
      exact i_ret t92_16 rfl hq
  | some x =>
    have e : ri s 3 7 = nI x := e
    have := hb x rfl
    refine en92 rfl ?_
    refine g_p t92_0 rfl ?_
    refine r_gete t92_1 (f3 hF) rfl rfl e ?_
    refine g_p t92_4 rfl ?_
    refine g_cne t92_5 (fun h5 => ?_) (fun h5 => ?_)
    · refine g_p t92_12 rfl ?_
      refine r_gete t92_13 (f3 hF) rfl rfl e ?_
      exact i_ret t92_16 rfl hq
    · exact absurd h5 (nI_m1 (by omega))
theorem c15 (hF : Fx s) (hq : Q (some (.ref 5)) (mR s)) : gE X d 15 [.ref 4] (mR s) Q := by
  refine en15 rfl ?_
  refine g_p t15_0 rfl ?_
  refine r_getr t15_1 (f4 hF) rfl rfl ?_
  exact a_ret t15_4 rfl rfl hq
theorem c117 (hF : Fx s) (hq : Q (some (.ref 13)) (mR s)) : gE X d 117 [.ref 12] (mR s) Q := by
  refine en117 rfl ?_
  refine g_p t117_0 rfl ?_
  refine r_getr t117_1 (f12 hF) rfl rfl ?_
  exact a_ret t117_4 rfl rfl hq
theorem c6 (hF : Fx s) (qB : Bo s p) (hp : 114 ≤ p) (hL : NL s 6 l) (hl : l.length ≤ 8) (h8 : ri s 8 1 = nI k) (hk : k < 2 ^ 31) (hq : ∀ s', Fr [p, p + 1, p + 2, p + 3, p + 4] s s' → NL s' (p + 1) l → (∀ i, i < 40 → ri s' (p + 4) i = ri s 9 i) → ri s' p 3 = ri s 5 3 → Q none (mR s')) : gE X (d + 1) 6 [.ref p, .ref 5] (mR s) Q := by
  refine en6 rfl rfl ?_
  refine g_p t6_0 rfl ?_
  refine r_getr t6_1 qB.1 rfl rfl ?_
  refine g_p t6_4 rfl ?_
  refine r_getr t6_5 (f5 hF) rfl rfl ?_
  refine r_cv t6_8 qB.2.1.1 rfl ?_
  refine c36L qB.2.1 (by exact fN6 hF) (by omega) (by exact hL) hl hl (fun s8 fr8 hL8 => ?_)
  have hF := hF.fr fr8
  have qB := qB.fr fr8
  have h8 := (fr8.ri (p := 8) (i := 1) (fun h => by simp at h; omega)).trans h8
  refine k_0 ?_
  refine g_p t6_11 rfl ?_
  refine r_getr t6_12 qB.1 rfl rfl ?_
  refine g_p t6_15 rfl ?_
  refine r_getr t6_16 (f5 hF) rfl rfl ?_
  refine r_cv t6_19 qB.2.2.1.1 rfl ?_
  refine c36c qB.2.2.1 (by exact fN8 hF) (by omega) (by exact h8) hk (fun s19 fr19 l19 c19 => ?_)
  have hF := hF.fr fr19
  have qB := qB.fr fr19
  refine k_0 ?_
  refine g_p t6_22 rfl ?_
  refine g_p t6_23 rfl ?_
  refine r_geti t6_24 (f5 hF) rfl rfl ?_
  refine r_puti t6_27 qB.1 rfl rfl ?_
  have n1 : ∀ q, q < 114 → q ∉ [p + 1, p + 1 + 1] := fun q hq h => by simp at h; omega
  have n2 : ∀ q, q < 114 → q ∉ [p + 3, p + 3 + 1] := fun q hq h => by simp at h; omega
  refine v_ret t6_30 (hq _ (((fr8.mono (fun x hx => by simp at hx ⊢; omega)).tr (fr19.mono (fun x hx => by simp at hx ⊢; omega))).wi (by simp)) ?_ (fun i hi => ?_) ?_)
  · exact (hL8.fr fr19 (fun h => by simp only [List.mem_cons, List.not_mem_nil, or_false] at h; omega) (fun h => by simp only [List.mem_cons, List.not_mem_nil, or_false] at h; omega)).fr (Fr.rf.wi (A := [p]) (by simp)) (fun h => by simp only [List.mem_cons, List.not_mem_nil, or_false] at h; omega) (fun h => by simp only [List.mem_cons, List.not_mem_nil, or_false] at h; omega)
  · rw [ri_wi_ne (by omega), c19 i (by omega), fr8.ri (n1 _ (by decide))]
  · rw [ri_wi_eq, fr19.ri (n2 _ (by decide)), fr8.ri (n1 _ (by decide))]
end TZB
