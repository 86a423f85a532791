/-! THE LAW: its loop -/
section LX
variable {X : am_X} {d y pc nx tgt i j : Nat} {ls st : List Value} {hp : am_H} {Q : Option Value → am_H → Prop} {l5 l6 : Value} {s : mM} {r : List Nat} {k : Value}
theorem r_xlen (t : am_T y pc = some (2, .arraylength, nx, r, k)) (g : gG X d y nx ls (.int (nI X.1) :: st) hp Q) : gG X d y pc ls (.retAddr 0 :: st) hp Q := g_h t rfl g
theorem r_xld (t : am_T y pc = some (2, .iaload, nx, r, k)) (hX : X.1 ≤ 3072) {q : Nat} (hq : q < X.1) (g : gG X d y nx ls (.int (X.2 q) :: st) hp Q) : gG X d y pc ls (.int (nI q) :: .retAddr 0 :: st) hp Q := by
  obtain ⟨h1, h2⟩ := am_in_n rfl hq (by omega : X.1 ≤ 65536)
  exact g_h t (by simp only [am_h, am_la2, am_rd, Option.bind_some, am_tk]; rw [if_pos (by rw [h1]; rfl), h2]) g
/-- what one round's case owes -/
def OPL (X : am_X) (pc : Nat) : Prop := ∀ (d i j : Nat) (s : mM) (l5 l6 : Value) (Q : Option Value → am_H → Prop), X.1 ≤ 3072 → i + 6 ≤ X.1 → j ≤ 512 → LI j s → (∀ s' l5 l6, LI (j + 1) s' → gG X (d + 300) 285 1464 [.retAddr 0, .ref 0, .ref 80, .ref 113, .int (nI i), l5, l6] [] (mR s') Q) → gG X (d + 300) 285 pc [.retAddr 0, .ref 0, .ref 80, .ref 113, .int (nI i), l5, l6] [] (mR s) Q
def opP : List Nat := [196, 269, 294, 319, 344, 400, 437, 462, 499, 524, 561, 586, 599, 636, 673, 750, 775, 824, 861, 910, 959, 984, 1021, 1094, 1143, 1169, 1231, 1268, 1281, 1294, 1319, 1388, 1413, 1426, 1439]
theorem opP_sw : ∀ q, q < 35 → am_sw (nI q) [1464, 196, 269, 294, 319, 344, 400, 437, 462, 499, 524, 561, 586, 599, 636, 673, 750, 775, 824, 861, 910, 959, 984, 1021, 1094, 1143, 1169, 1231, 1268, 1281, 1294, 1319, 1388, 1413, 1426, 1439] (.int 0) = opP.getD q 0 := by decide
theorem law_K (hX : X.1 ≤ 3072) (h6 : 6 ≤ X.1) (ops : ∀ q, q < 35 → OPL X (opP.getD q 0)) (hq : ∀ s, LI 512 s → Q (some (.int 1)) (mR s)) : ∀ (m i j : Nat) (s : mM) (l5 l6 : Value), X.1 ≤ i + m → i = 6 * j → i ≤ X.1 → LI j s → gG X (d + 300) 285 23 [.retAddr 0, .ref 0, .ref 80, .ref 113, .int (nI i), l5, l6] [] (mR s) Q := by
  intro m
  induction m using Nat.strongRecOn with
  | ind m ih =>
  intro i j s l5 l6 hm hij hi hL
  have lup : ∀ n j s, LI j s → LI (j + n) s := fun n => by
    induction n with
    | zero => exact fun _ _ h => h
    | succ n ihn => exact fun j s h => (ihn j s h).up
  refine g_p t285_23 rfl ?_
  refine g_p t285_25 rfl ?_
  refine r_xlen t285_26 ?_
  refine g_k (n := 6) t285_27 rfl rfl ?_
  refine g_subn t285_29 h6 ?_
  refine n_cgt t285_30 (by omega) (by omega) (fun h30 => ?_) (fun h30 => ?_)
  · refine g_k (n := 1) t285_1470 rfl rfl ?_
    refine b_ret (c := true) t285_1471 rfl ?_
    have : j ≤ 512 := by omega
    have e : j + (512 - j) = 512 := by omega
    exact hq s (e ▸ lup (512 - j) j s hL)
  · have K : ∀ s' l5 l6, LI (j + 1) s' → gG X (d + 300) 285 1464 [.retAddr 0, .ref 0, .ref 80, .ref 113, .int (nI i), l5, l6] [] (mR s') Q := by
      intro s' l5 l6 hL'
      refine g_incn (n := 6) t285_1464 rfl rfl (Nat.le_of_ble_eq_true rfl) rfl ?_
      refine g_goto t285_1467 ?_
      exact ih (m - 6) (by omega) (i + 6) (j + 1) s' l5 l6 (by omega) (by omega) (by omega) hL'
    refine g_p t285_33 rfl ?_
    refine g_p t285_34 rfl ?_
    refine r_xld t285_36 hX (by omega) ?_
    refine g_k (n := 63) t285_37 rfl rfl ?_
    refine g_iand t285_39 ?_
    by_cases hx : inN 35 (X.2 i &&& nI 63) = true
    · obtain ⟨q, hq35, e⟩ := inN_t hx (by decide)
      rw [e]
      refine g_sw t285_40 (opP_sw q hq35) ?_
      exact ops q hq35 d i j s l5 l6 Q hX (by omega) (by omega) hL K
    · refine g_sw t285_40 (sw_g (n := 35) (by decide) rfl rfl (by cases h : inN 35 (X.2 i &&& nI 63) with
        | true => exact absurd h hx
        | false => rfl)) ?_
      exact K s l5 l6 hL.up
theorem law_s (hX : X.1 ≤ 3072) (ops : ∀ q, q < 35 → OPL X (opP.getD q 0)) (hq : ∀ s, LI 512 s → Q (some (.int 1)) (mR s)) (hL : LI 0 s) : gG X (d + 300) 285 23 [.retAddr 0, .ref 0, .ref 80, .ref 113, .int (nI 0), l5, l6] [] (mR s) Q := by
  by_cases h6 : 6 ≤ X.1
  · exact law_K hX h6 ops hq X.1 0 0 s l5 l6 (by omega) rfl (Nat.zero_le _) hL
  · refine g_p t285_23 rfl ?_
    refine g_p t285_25 rfl ?_
    refine r_xlen t285_26 ?_
    refine g_k (n := 6) t285_27 rfl rfl ?_
    refine g_isub t285_29 ?_
    have hlt : ∀ n, n < 6 → nI n - nI 6 < nI 0 := by decide
    refine g_cgt t285_30 (fun h30 => ?_) (fun h30 => absurd (hlt X.1 (by omega)) h30)
    refine g_k (n := 1) t285_1470 rfl rfl ?_
    refine b_ret (c := true) t285_1471 rfl ?_
    have lup : ∀ n j s, LI j s → LI (j + n) s := fun n => by
      induction n with
      | zero => exact fun _ _ h => h
      | succ n ihn => exact fun j s h => (ihn j s h).up
    have := lup 512 0 s hL
    rw [Nat.zero_add] at this
    exact hq s this
end LX
