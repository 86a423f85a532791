/-! LISTS OF THE JDK: added to, the first -/
def rE : am_E := .inl (4, 10, .inr (.inr (.inr (.inr (fun _ => none)))))
/-- a list's row made -/
def gmk (s : mM) (a : Nat) : mM := wi (wn s rE 10) a 1 (nI (s.2.2.2.1 + 2))
section TZG
variable {X : am_X} {d a k m ci : Nat} {s : mM} {hp : am_H} {Q : Option Value → am_H → Prop} {fs : List Value}
theorem c276 (hAo : s.1 a = .inr (0, [.int 0, .retAddr 7, .int 0])) (h1 : ri s a 1 = nI 1) (ha : a < s.2.2.2.1) (he2 : s.2.2.2.1 + 2 < 2 ^ 31) (hq : Q (some (.ref s.2.2.2.1)) (mR (gmk s a))) : gE X d 276 [.ref a, .int (nI 1)] (mR s) Q := by
  have hA2 : (wn s rE 10).1 a = .inr (0, [.int 0, .retAddr 7, .int 0]) := (m_up_ne (by omega)).trans hAo
  refine en276 rfl rfl ?_
  refine g_p t276_0 rfl ?_
  refine r_getq t276_1 hAo rfl rfl h1 (by unfold m_rq; rw [nI_clamp (by decide)]) ?_
  refine g_h t276_4 rfl ?_
  refine g_isn t276_5 (Nat.le_of_ble_eq_true rfl) (am_s1_2 rfl) ?_
  refine g_p t276_6 rfl ?_
  refine g_gt t276_7 (fun h7 => ?_) (fun h7 => ?_)
  · exact absurd h7 (by decide)
  · refine g_p t276_10 rfl ?_
    refine r_getq t276_11 hAo rfl rfl h1 (by unfold m_rq; rw [nI_clamp (by decide)]) ?_
    refine g_h t276_14 rfl ?_
    refine g_b (b := true) t276_17 rfl ?_
    refine g_p t276_45 rfl ?_
    refine g_k (n := 10) t276_46 rfl rfl ?_
    refine g_p t276_48 rfl ?_
    refine g_maxn t276_49 (by omega) (by omega) (Nat.le_of_ble_eq_true rfl) ?_
    refine r_newr (n := 10) t276_52 (by decide) ?_
    refine g_p t276_55 rfl ?_
    refine r_putq (s := wn s rE 10) (a := nI (s.2.2.2.1 + 2)) t276_56 hA2 rfl rfl (m_rq_r he2) ?_
    exact a_ret t276_59 rfl rfl hq
theorem c277 (hAo : s.1 a = .inr (0, [.int 0, .retAddr 7, .int 0])) (h1 : ri s a 1 = nI 1) (h2 : ri s a 2 = nI 0) (ha : a < s.2.2.2.1) (he2 : s.2.2.2.1 + 2 < 2 ^ 31) (hq : Q (some (.ref s.2.2.2.1)) (mR (gmk s a))) : gE X (d + 1) 277 [.ref a] (mR s) Q := by
  refine en277 rfl ?_
  refine g_p t277_0 rfl ?_
  refine g_p t277_1 rfl ?_
  refine r_gete t277_2 hAo rfl rfl h2 ?_
  refine g_k (n := 1) t277_5 rfl rfl ?_
  refine g_addn t277_6 ?_
  refine r_cv t277_7 hAo rfl ?_
  refine c276 hAo h1 ha he2 ?_
  refine k_v ?_ rfl
  exact a_ret t277_10 rfl rfl hq
theorem gmk_sh {q : Nat} (hq : q ≠ s.2.2.2.1) : (gmk s a).1 q = s.1 q := m_up_ne hq
theorem gmk_e : (gmk s a).1 s.2.2.2.1 = rE := m_up_eq
theorem c281f (hAo : s.1 a = .inr (0, [.int 0, .retAddr 7, .int 0])) (h1 : ri s a 1 = nI 1) (h2 : ri s a 2 = nI 0) (ha : a < s.2.2.2.1) (he2 : s.2.2.2.1 + 2 < 2 ^ 31) (hm : s.1 m = .inr (ci, fs)) (hmN : m < s.2.2.2.1) (hci : (decide (ci = 1) || decide (ci = 4)) = true) (hm2 : m + 2 < 2 ^ 31) (hq : Q none (mR (wi (wi (gmk s a) s.2.2.2.1 0 (nI (m + 2))) a 2 (nI (0 + 1))))) : gE X (d + 2) 281 [.ref a, .ref m, .retAddr 1, .int (nI 0)] (mR s) Q := by
  have hA2 : (gmk s a).1 a = .inr (0, [.int 0, .retAddr 7, .int 0]) := (gmk_sh (by omega)).trans hAo
  have hmm : (gmk s a).1 m = .inr (ci, fs) := (gmk_sh (by omega)).trans hm
  refine en281 rfl rfl rfl rfl ?_
  refine g_p t281_0 rfl ?_
  refine g_p t281_1 rfl ?_
  refine g_h t281_2 rfl ?_
  refine g_cne t281_3 (fun h3 => absurd rfl h3) (fun _ => ?_)
  refine g_p t281_6 rfl ?_
  refine r_cv t281_7 hAo rfl ?_
  refine c277 hAo h1 h2 ha he2 ?_
  refine k_v ?_ rfl
  refine g_asn t281_10 rfl (Nat.le_of_ble_eq_true rfl) (am_s1_2 rfl) ?_
  skip
  refine g_p t281_11 rfl ?_
  refine g_p t281_12 rfl ?_
  refine g_p t281_13 rfl ?_
  refine r_aast (a := nI (m + 2)) t281_14 gmk_e hmm hci (by decide) (by decide) (by unfold m_ro; rw [nI_clamp hm2]) ?_
  refine g_p t281_15 rfl ?_
  refine g_p t281_16 rfl ?_
  refine g_k (n := 1) t281_17 rfl rfl ?_
  refine g_addn t281_18 ?_
  refine r_puti t281_19 hA2 rfl rfl ?_
  exact v_ret t281_22 hq
theorem c282f (hAo : s.1 a = .inr (0, [.int 0, .retAddr 7, .int 0])) (h1 : ri s a 1 = nI 1) (h2 : ri s a 2 = nI 0) (ha : a < s.2.2.2.1) (he2 : s.2.2.2.1 + 2 < 2 ^ 31) (hm : s.1 m = .inr (ci, fs)) (hmN : m < s.2.2.2.1) (hci : (decide (ci = 1) || decide (ci = 4)) = true) (hm2 : m + 2 < 2 ^ 31) (hq : Q (some (.int (bI true))) (mR (wi (wi (gmk (wi s a 0 (ri s a 0 + nI 1)) a) s.2.2.2.1 0 (nI (m + 2))) a 2 (nI (0 + 1))))) : gE X (d + 3) 282 [.ref a, .ref m] (mR s) Q := by
  refine en282 rfl rfl ?_
  refine g_p t282_0 rfl ?_
  refine g_p t282_1 rfl ?_
  refine r_geti t282_2 hAo rfl rfl ?_
  refine g_k (n := 1) t282_5 rfl rfl ?_
  refine g_iadd t282_6 ?_
  refine r_puti t282_7 hAo rfl rfl ?_
  refine g_p t282_10 rfl ?_
  refine g_p t282_11 rfl ?_
  refine g_p t282_12 rfl ?_
  refine r_getq t282_13 hAo rfl rfl ((ri_wi_j (by decide)).trans h1) (by unfold m_rq; rw [nI_clamp (by decide)]) ?_
  refine g_p t282_16 rfl ?_
  refine r_gete t282_17 hAo rfl rfl ((ri_wi_j (by decide)).trans h2) ?_
  refine r_cv t282_20 hAo rfl ?_
  refine c281f (s := wi s a 0 (ri s a 0 + nI 1)) hAo ((ri_wi_j (by decide)).trans h1) ((ri_wi_j (by decide)).trans h2) ha he2 hm hmN hci hm2 ?_
  refine k_0 ?_
  refine g_k (n := 1) t282_23 rfl rfl ?_
  exact b_ret t282_24 rfl hq
end TZG
