/-! CELLS MADE: Numbers -/
/-- a Numbers at p, its row behind it -/
def nmk (s : mM) (p m : Nat) : mM := wr (wn (wi s p 1 (nI 0)) (.inl (0, m, .inl (fun _ => 0))) m) p (.inr (4, [.ref (p + 1), .int 0]))
section TZC
variable {X : am_X} {d p m : Nat} {s : mM} {hp : am_H} {Q : Option Value → am_H → Prop}
theorem c28 (h : s.1 p = .inr (4, [.null, .int 0])) (hn : s.2.2.2.1 = p + 1) (hm : m ≤ 65536) (hq : Q none (mR (nmk s p m))) : gE X d 28 [.ref p, .int (nI m)] (mR s) Q := by
  have hn2 : (wi s p 1 (nI 0)).2.2.2.1 = p + 1 := hn
  refine en28 rfl rfl ?_
  refine g_p t28_0 rfl ?_
  refine g_oi t28_1 (Nat.le_of_ble_eq_true rfl) ?_
  refine g_p t28_4 rfl ?_
  refine g_k (n := 0) t28_5 rfl rfl ?_
  refine r_puti t28_6 h rfl rfl ?_
  refine g_p t28_9 rfl ?_
  refine g_p t28_10 rfl ?_
  refine n_ge t28_11 (by omega) ?_
  refine g_p t28_18 rfl ?_
  refine r_newi t28_19 (by decide) hm ?_
  rw [hn2]
  refine r_putr (f2 := [.ref (p + 1), .int 0]) t28_21 (show (wn (wi s p 1 (nI 0)) (.inl (0, m, .inl (fun _ => 0))) m).1 p = .inr (4, [.null, .int 0]) from (m_up_ne (show p ≠ (wi s p 1 (nI 0)).2.2.2.1 by rw [hn2]; omega)).trans h) rfl rfl rfl rfl rfl ?_
  exact v_ret t28_24 hq
theorem nmk_Nu (hm : m ≤ 65536) (hn : s.2.2.2.1 = p + 1) : Nu (nmk s p m) p m := by
  have hn2 : (wi s p 1 (nI 0)).2.2.2.1 = p + 1 := hn
  refine ⟨m_up_eq, (m_up_ne (show p + 1 ≠ p by omega)).trans ?_, hm⟩
  show m_up _ ((wi s p 1 (nI 0)).2.2.2.1) _ (p + 1) = _
  rw [hn2]; exact m_up_eq
theorem nmk_next (hn : s.2.2.2.1 = p + 1) : (nmk s p m).2.2.2.1 = p + 2 := by
  show (wi s p 1 (nI 0)).2.2.2.1 + 1 = p + 2
  rw [show (wi s p 1 (nI 0)).2.2.2.1 = s.2.2.2.1 from rfl, hn]
theorem nmk_room : (nmk s p m).2.2.2.2 = (s.2.2.2.2.1 + 1, s.2.2.2.2.2 + m) := rfl
theorem nmk_sh (hn : s.2.2.2.1 = p + 1) {q : Nat} (h1 : q ≠ p) (h2 : q ≠ p + 1) : (nmk s p m).1 q = s.1 q := by
  have hn2 : (wi s p 1 (nI 0)).2.2.2.1 = p + 1 := hn
  refine (m_up_ne h1).trans ?_
  show m_up _ ((wi s p 1 (nI 0)).2.2.2.1) _ q = _
  rw [hn2]; exact m_up_ne h2
theorem nmk_ri (hn : s.2.2.2.1 = p + 1) {q i : Nat} (h1 : q ≠ p) (h2 : q ≠ p + 1) : ri (nmk s p m) q i = ri s q i := by
  show m_up (wi s p 1 (nI 0)).2.1 (wi s p 1 (nI 0)).2.2.2.1 _ q i = _
  rw [show (wi s p 1 (nI 0)).2.2.2.1 = s.2.2.2.1 from rfl, hn, m_up_ne h2]
  exact ri_wi_ne h1
end TZC
