/-! CELLS MADE: a Book -/
def mkN (s : mM) (p m : Nat) : mM := nmk (wn s (.inr (4, [.null, .int 0])) 2) p m
theorem mkN_next {s : mM} {p m : Nat} (hp : s.2.2.2.1 = p) : (mkN s p m).2.2.2.1 = p + 2 := nmk_next (by show s.2.2.2.1 + 1 = p + 1; rw [hp])
theorem mkN_Nu {s : mM} {p m : Nat} (hm : m ≤ 65536) (hp : s.2.2.2.1 = p) : Nu (mkN s p m) p m := nmk_Nu hm (by show s.2.2.2.1 + 1 = p + 1; rw [hp])
def bk1 (s : mM) (p : Nat) : mM := wr (mkN s (p + 1) 8) p (.inr (1, [.ref (p + 1), .null, .null, .int 0]))
def bk2 (s : mM) (p : Nat) : mM := wr (mkN (bk1 s p) (p + 3) 40) p (.inr (1, [.ref (p + 1), .ref (p + 3), .null, .int 0]))
def bk3 (s : mM) (p : Nat) : mM := wr (mkN (bk2 s p) (p + 5) 243) p (.inr (1, [.ref (p + 1), .ref (p + 3), .ref (p + 5), .int 0]))
def bmk (s : mM) (p : Nat) : mM := wi (bk3 s p) p 3 (nI 0)
section TZE
variable {X : am_X} {d p m : Nat} {s : mM} {hp : am_H} {Q : Option Value → am_H → Prop}
theorem bk1_next (hn : s.2.2.2.1 = p + 1) : (bk1 s p).2.2.2.1 = p + 3 := mkN_next hn
theorem bk2_next (hn : s.2.2.2.1 = p + 1) : (bk2 s p).2.2.2.1 = p + 5 := mkN_next (bk1_next hn)
theorem bk3_next (hn : s.2.2.2.1 = p + 1) : (bk3 s p).2.2.2.1 = p + 7 := mkN_next (bk2_next hn)
theorem bk1_p : (bk1 s p).1 p = .inr (1, [.ref (p + 1), .null, .null, .int 0]) := m_up_eq
theorem bk2_p : (bk2 s p).1 p = .inr (1, [.ref (p + 1), .ref (p + 3), .null, .int 0]) := m_up_eq
theorem bk3_p : (bk3 s p).1 p = .inr (1, [.ref (p + 1), .ref (p + 3), .ref (p + 5), .int 0]) := m_up_eq
theorem c0 (h : s.1 p = .inr (1, [.null, .null, .null, .int 0])) (hn : s.2.2.2.1 = p + 1) (hq : Q none (mR (bmk s p))) : gE X (d + 1) 0 [.ref p] (mR s) Q := by
  have n1 := bk1_next hn
  have n2 := bk2_next hn
  refine en0 rfl ?_
  refine g_p t0_0 rfl ?_
  refine g_oi t0_1 (Nat.le_of_ble_eq_true rfl) ?_
  refine g_p t0_4 rfl ?_
  refine r_new (e := .inr (4, [.null, .int 0])) t0_5 rfl ?_
  rw [hn]
  refine g_p t0_8 rfl ?_
  refine g_k (n := 8) t0_9 rfl rfl ?_
  refine g_ci t0_11 rfl rfl rfl ?_
  refine c28 (s := wn s (.inr (4, [.null, .int 0])) 2) (by rw [← hn]; exact m_up_eq) (by show s.2.2.2.1 + 1 = _; rw [hn]) (by decide) ?_
  refine k_0 ?_
  refine r_putr (f2 := [.ref (p + 1), .null, .null, .int 0]) t0_14 (show (mkN s (p + 1) 8).1 p = _ from ((mk_fw hn).2.1 p (by rw [hn]; omega)).trans h) rfl rfl rfl rfl rfl ?_
  show gG X (d + 1) 0 17 [.ref p] [] (mR (bk1 s p)) Q
  refine g_p t0_17 rfl ?_
  refine r_new (e := .inr (4, [.null, .int 0])) t0_18 rfl ?_
  rw [n1]
  refine g_p t0_21 rfl ?_
  refine g_k (n := 40) t0_22 rfl rfl ?_
  refine g_ci t0_24 rfl rfl rfl ?_
  refine c28 (s := wn (bk1 s p) (.inr (4, [.null, .int 0])) 2) (by rw [← n1]; exact m_up_eq) (by show (bk1 s p).2.2.2.1 + 1 = _; rw [n1]) (by decide) ?_
  refine k_0 ?_
  refine r_putr (f2 := [.ref (p + 1), .ref (p + 3), .null, .int 0]) t0_27 (show (mkN (bk1 s p) (p + 3) 40).1 p = _ from ((mk_fw n1).2.1 p (by rw [n1]; omega)).trans bk1_p) rfl rfl rfl rfl rfl ?_
  show gG X (d + 1) 0 30 [.ref p] [] (mR (bk2 s p)) Q
  refine g_p t0_30 rfl ?_
  refine r_new (e := .inr (4, [.null, .int 0])) t0_31 rfl ?_
  rw [n2]
  refine g_p t0_34 rfl ?_
  refine g_k (n := 243) t0_35 rfl rfl ?_
  refine g_ci t0_38 rfl rfl rfl ?_
  refine c28 (s := wn (bk2 s p) (.inr (4, [.null, .int 0])) 2) (by rw [← n2]; exact m_up_eq) (by show (bk2 s p).2.2.2.1 + 1 = _; rw [n2]) (by decide) ?_
  refine k_0 ?_
  refine r_putr (f2 := [.ref (p + 1), .ref (p + 3), .ref (p + 5), .int 0]) t0_41 (show (mkN (bk2 s p) (p + 5) 243).1 p = _ from ((mk_fw n2).2.1 p (by rw [n2]; omega)).trans bk2_p) rfl rfl rfl rfl rfl ?_
  show gG X (d + 1) 0 44 [.ref p] [] (mR (bk3 s p)) Q
  refine g_p t0_44 rfl ?_
  refine g_k (n := 0) t0_45 rfl rfl ?_
  refine r_puti t0_46 bk3_p rfl rfl ?_
  exact v_ret t0_49 hq
theorem wr_nu {q n : Nat} {e : am_E} (h : Nu s q n) (h1 : q ≠ p) (h2 : q + 1 ≠ p) : Nu (wr s p e) q n := ⟨(m_up_ne h1).trans h.1, (m_up_ne h2).trans h.2.1, h.2.2⟩
theorem bmk_Bo (hn : s.2.2.2.1 = p + 1) : Bo (bmk s p) p := by
  have n1 := bk1_next hn
  have n2 := bk2_next hn
  have a1 : Nu (bk1 s p) (p + 1) 8 := wr_nu (mkN_Nu (by decide) hn) (by omega) (by omega)
  have a2 : Nu (bk2 s p) (p + 1) 8 := wr_nu ((mk_fw n1).nu (by rw [n1]; omega) a1) (by omega) (by omega)
  have a3 : Nu (bk3 s p) (p + 1) 8 := wr_nu ((mk_fw n2).nu (by rw [n2]; omega) a2) (by omega) (by omega)
  have b2 : Nu (bk2 s p) (p + 3) 40 := wr_nu (mkN_Nu (by decide) n1) (by omega) (by omega)
  have b3 : Nu (bk3 s p) (p + 3) 40 := wr_nu ((mk_fw n2).nu (by rw [n2]; omega) b2) (by omega) (by omega)
  have c3 : Nu (bk3 s p) (p + 5) 243 := wr_nu (mkN_Nu (by decide) n2) (by omega) (by omega)
  exact ⟨bk3_p, a3, b3, c3⟩
theorem wi_nx {i : Nat} {v : Int32} : (wi s p i v).2.2.2 = s.2.2.2 := rfl
theorem wr_nx {e : am_E} : (wr s p e).2 = s.2 := rfl
theorem mkN_room : (mkN s p m).2.2.2.2 = (s.2.2.2.2.1 + 2, s.2.2.2.2.2 + 2 + m) := rfl
theorem bmk_next (hn : s.2.2.2.1 = p + 1) : (bmk s p).2.2.2.1 = p + 7 := by
  unfold bmk
  rw [wi_nx]
  exact bk3_next hn
theorem bmk_room : (bmk s p).2.2.2.2 = (s.2.2.2.2.1 + 2 + 2 + 2, s.2.2.2.2.2 + 2 + 8 + 2 + 40 + 2 + 243) := by
  unfold bmk bk3 bk2 bk1
  simp only [wi_nx, wr_nx, mkN_room]
theorem wn_room {e : am_E} {n : Nat} : (wn s e n).2.2.2.2 = (s.2.2.2.2.1 + 1, s.2.2.2.2.2 + n) := rfl
theorem bmk_ri (hn : s.2.2.2.1 = p + 1) {q : Nat} (hq : q < p ∨ p + 7 ≤ q) : (bmk s p).2.1 q = s.2.1 q := by
  have n1 := bk1_next hn
  have n2 := bk2_next hn
  have h1 : (bk1 s p).2.1 q = s.2.1 q := (mk_fw hn).2.2 q (by simp only [List.mem_cons, List.not_mem_nil, or_false]; omega)
  have h2 : (bk2 s p).2.1 q = (bk1 s p).2.1 q := (mk_fw n1).2.2 q (by simp only [List.mem_cons, List.not_mem_nil, or_false]; omega)
  have h3 : (bk3 s p).2.1 q = (bk2 s p).2.1 q := (mk_fw n2).2.2 q (by simp only [List.mem_cons, List.not_mem_nil, or_false]; omega)
  refine (funext fun i => ri_wi_ne (s := bk3 s p) (p := p) (i := 3) (q := q) (j := i) (by omega)).trans (h3.trans (h2.trans h1))
theorem bmk_sh (hn : s.2.2.2.1 = p + 1) {q : Nat} (hq : q < p) : (bmk s p).1 q = s.1 q := by
  have n1 := bk1_next hn
  have n2 := bk2_next hn
  have h1 : (bk1 s p).1 q = s.1 q := (m_up_ne (by omega)).trans ((mk_fw hn).2.1 q (by rw [hn]; omega))
  have h2 : (bk2 s p).1 q = (bk1 s p).1 q := (m_up_ne (by omega)).trans ((mk_fw n1).2.1 q (by rw [n1]; omega))
  have h3 : (bk3 s p).1 q = (bk2 s p).1 q := (m_up_ne (by omega)).trans ((mk_fw n2).2.1 q (by rw [n2]; omega))
  exact h3.trans (h2.trans h1)
/-- new and begun -/
def mkB (s : mM) (p : Nat) : mM := bmk (wn s (.inr (1, [.null, .null, .null, .int 0])) 4) p
theorem mkB_fw (hp : s.2.2.2.1 = p) : FW [p, p + 1, p + 2, p + 3, p + 4, p + 5, p + 6] s (mkB s p) ∧ Bo (mkB s p) p ∧ (mkB s p).2.2.2.1 = p + 7 ∧ (mkB s p).2.2.2.2 = (s.2.2.2.2.1 + 7, s.2.2.2.2.2 + 301) := by
  have hn : (wn s (.inr (1, [.null, .null, .null, .int 0])) 4).2.2.2.1 = p + 1 := by show s.2.2.2.1 + 1 = p + 1; rw [hp]
  have h7 := bmk_next hn
  refine ⟨⟨?_, fun q hq => ?_, fun q hq => ?_⟩, bmk_Bo hn, h7, (by unfold mkB; rw [bmk_room, wn_room])⟩
  · unfold mkB
    rw [h7, hp]; omega
  · rw [hp] at hq
    exact (bmk_sh hn hq).trans (m_up_ne (by omega))
  · simp only [List.mem_cons, List.not_mem_nil, or_false, not_or] at hq
    exact (bmk_ri hn (by omega)).trans (m_up_ne (by omega))
end TZE
