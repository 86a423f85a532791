/-! CELLS MADE: a Book -/
def mkN (s : mM) (p m : Nat) : mM := nmk (wn s (.inr (4, [.null, .int 0])) 2) p m
theorem mkN_next {s : mM} {p m : Nat} (hp : s.2.2.2.1 = p) : (mkN s p m).2.2.2.1 = p + 2 := nmk_next (by show s.2.2.2.1 + 1 = p + 1; rw [hp])
theorem mkN_Nu {s : mM} {p m : Nat} (hm : m ≤ 65536) (hp : s.2.2.2.1 = p) : Nu (mkN s p m) p m := nmk_Nu hm (by show s.2.2.2.1 + 1 = p + 1; rw [hp])
def bk1 (s : mM) (p : Nat) : mM := wr (mkN s (p + 1) 8) p (.inr (1, [.ref (p + 1), .null, .null, .int 0]))
def bk2 (s : mM) (p : Nat) : mM := wr (mkN (bk1 s p) (p + 3) 40) p (.inr (1, [.ref (p + 1), .ref (p + 3), .null, .int 0]))
def bk3 (s : mM) (p : Nat) : mM := wr (mkN (bk2 s p) (p + 5) 243) p (.inr (1, [.ref (p + 1), .ref (p + 3), .ref (p + 5), .int 0]))
def bmk (s : mM) (p : Nat) : mM := wi (bk3 s p) p 3 (nI 0)
section TZE
variable {X : am_X} {d p m : Nat} {s : mM} {hp : am_H} {Q : Option Value → am_H → Prop}
theorem bk1_next (hn : s.2.2.2.1 = p + 1) : (bk1 s p).2.2.2.1 = p + 3 := mkN_next hn
theorem bk2_next (hn : s.2.2.2.1 = p + 1) : (bk2 s p).2.2.2.1 = p + 5 := mkN_next (bk1_next hn)
theorem bk3_next (hn : s.2.2.2.1 = p + 1) : (bk3 s p).2.2.2.1 = p + 7 := mkN_next (bk2_next hn)
theorem bk1_p : (bk1 s p).1 p = .inr (1, [.ref (p + 1), .null, .null, .int 0]) := m_up_eq
theorem bk2_p : (bk2 s p).1 p = .inr (1, [.ref (p + 1), .ref (p + 3), .null, .int 0]) := m_up_eq
theorem bk3_p : (bk3 s p).1 p = .inr (1, [.ref (p + 1), .ref (p + 3), .ref (p + 5), .int 0]) := m_up_eq
theorem c0 (h : s.1 p = .inr (1, [.null, .null, .null, .int 0])) (hn : s.2.2.2.1 = p + 1) (hq : Q none (mR (bmk s p))) : gE X (d + 1) 0 [.ref p] (mR s) Q := by
  have n1 := bk1_next hn
  have n2 := bk2_next hn
  refine en0 rfl ?_
  refine g_p t0_0 rfl ?_
  refine g_oi t0_1 (Nat.le_of_ble_eq_true rfl) ?_
  refine g_p t0_4 rfl ?_
  refine r_new (e := .inr (4, [.null, .int 0])) t0_5 rfl ?_
  rw [hn]
  refine g_p t0_8 rfl ?_
  refine g_k (n := 8) t0_9 rfl rfl ?_
  refine g_ci t0_11 rfl rfl rfl ?_
  refine c28 (s := wn s (.inr (4, [.null, .int 0])) 2) (by rw [← hn]; exact m_up_eq) (by show s.2.2.2.1 + 1 = _; rw [hn]) (by decide) ?_
  refine k_0 ?_
  refine r_putr (f2 := [.ref (p + 1), .null, .null, .int 0]) t0_14 (show (mkN s (p + 1) 8).1 p = _ from ((mk_fw hn).2.1 p (by rw [hn]; omega)).trans h) rfl rfl rfl rfl rfl ?_
  show gG X (d + 1) 0 17 [.ref p] [] (mR (bk1 s p)) Q
  refine g_p t0_17 rfl ?_
  refine r_new (e := .inr (4, [.null, .int 0])) t0_18 rfl ?_
  rw [n1]
  refine g_p t0_21 rfl ?_
  refine g_k (n := 40) t0_22 rfl rfl ?_
  refine g_ci t0_24 rfl rfl rfl ?_
  refine c28 (s := wn (bk1 s p) (.inr (4, [.null, .int 0])) 2) (by rw [← n1]; exact m_up_eq) (by show (bk1 s p).2.2.2.1 + 1 = _; rw [n1]) (by decide) ?_
  refine k_0 ?_
  refine r_putr (f2 := [.ref (p + 1), .ref (p + 3), .null, .int 0]) t0_27 (show (mkN (bk1 s p) (p + 3) 40).1 p = _ from ((mk_fw n1).2.1 p (by rw [n1]; omega)).trans bk1_p) rfl rfl rfl rfl rfl ?_
  show gG X (d + 1) 0 30 [.ref p] [] (mR (bk2 s p)) Q
  refine g_p t0_30 rfl ?_
  refine r_new (e := .inr (4, [.null, .int 0])) t0_31 rfl ?_
  rw [n2]
  refine g_p t0_34 rfl ?_
  refine g_k (n := 243) t0_35 rfl rfl ?_
  refine g_ci t0_38 rfl rfl rfl ?_
  refine c28 (s := wn (bk2 s p) (.inr (4, [.null, .int 0])) 2) (by rw [← n2]; exact m_up_eq) (by show (bk2 s p).2.2.2.1 + 1 = _; rw [n2]) (by decide) ?_
  refine k_0 ?_
  refine r_putr (f2 := [.ref (p + 1), .ref (p + 3), .ref (p + 5), .int 0]) t0_41 (show (mkN (bk2 s p) (p + 5) 243).1 p = _ from ((mk_fw n2).2.1 p (by rw [n2]; omega)).trans bk2_p) rfl rfl rfl rfl rfl ?_
  show gG X (d + 1) 0 44 [.ref p] [] (mR (bk3 s p)) Q
  refine g_p t0_44 rfl ?_
  refine g_k (n := 0) t0_45 rfl rfl ?_
  refine r_puti t0_46 bk3_p rfl rfl ?_
  exact v_ret t0_49 hq
end TZE
