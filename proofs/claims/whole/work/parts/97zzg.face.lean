/-! LISTS OF THE JDK: added to, the first -/
def rE : am_E := .inl (4, 10, .inr (.inr (.inr (.inr (fun _ => none)))))
/-- a list's row made -/
def gmk (s : mM) (a : Nat) : mM := wi (wn s rE 10) a 1 (nI (s.2.2.2.1 + 2))
section TZG
variable {X : am_X} {d a k m ci : Nat} {s : mM} {hp : am_H} {Q : Option Value → am_H → Prop} {fs : List Value}
theorem c276 (hAo : s.1 a = .inr (0, [.int 0, .retAddr 7, .int 0])) (h1 : ri s a 1 = nI 1) (ha : a < s.2.2.2.1) (he2 : s.2.2.2.1 + 2 < 2 ^ 31) (hq : Q (some (.ref s.2.2.2.1)) (mR (gmk s a))) : gE X d 276 [.ref a, .int (nI 1)] (mR s) Q := by
  have hA2 : (wn s rE 10).1 a = .inr (0, [.int 0, .retAddr 7, .int 0]) := (m_up_ne (by omega)).trans hAo
  refine en276 rfl rfl ?_
  refine g_p t276_0 rfl ?_
  refine r_getq t276_1 hAo rfl rfl h1 (by unfold m_rq; rw [nI_clamp (by decide)]) ?_
  refine g_h t276_4 rfl ?_
  refine g_isn t276_5 (Nat.le_of_ble_eq_true rfl) (am_s1_2 rfl) ?_
  refine g_p t276_6 rfl ?_
  refine g_gt t276_7 (fun h7 => ?_) (fun h7 => ?_)
  · exact absurd h7 (by decide)
  · refine g_p t276_10 rfl ?_
    refine r_getq t276_11 hAo rfl rfl h1 (by unfold m_rq; rw [nI_clamp (by decide)]) ?_
    refine g_h t276_14 rfl ?_
    refine g_b (b := true) t276_17 rfl ?_
    refine g_p t276_45 rfl ?_
    refine g_k (n := 10) t276_46 rfl rfl ?_
    refine g_p t276_48 rfl ?_
    refine g_maxn t276_49 (by omega) (by omega) (Nat.le_of_ble_eq_true rfl) ?_
    refine r_newr (n := 10) t276_52 (by decide) ?_
    refine g_p t276_55 rfl ?_
    refine r_putq (s := wn s rE 10) (a := nI (s.2.2.2.1 + 2)) t276_56 hA2 rfl rfl (m_rq_r he2) ?_
    exact a_ret t276_59 rfl rfl hq
end TZG
