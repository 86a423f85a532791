/-! LISTS OF THE JDK: added to, not the first -/
section TZF
variable {X : am_X} {d a e k m ci : Nat} {s : mM} {hp : am_H} {Q : Option Value → am_H → Prop} {fs : List Value}
theorem c281t (hAo : s.1 a = .inr (0, [.int 0, .retAddr 7, .int 0])) (he : s.1 e = .inl (4, 10, .inr (.inr (.inr (.inr (fun _ => none)))))) (hm : s.1 m = .inr (ci, fs)) (hci : (decide (ci = 1) || decide (ci = 4)) = true) (hm2 : m + 2 < 2 ^ 31) (hk : k < 4) (hq : Q none (mR (wi (wi s e k (nI (m + 2))) a 2 (nI (k + 1))))) : gE X (d + 1) 281 [.ref a, .ref m, .ref e, .int (nI k)] (mR s) Q := by
  refine en281 rfl rfl rfl rfl ?_
  refine g_p t281_0 rfl ?_
  refine g_p t281_1 rfl ?_
  refine r_lenr t281_2 he ?_
  refine n_cne t281_3 (by omega) (by omega) (fun h3 => ?_) (fun h3 => ?_)
  · refine g_p t281_11 rfl ?_
    refine g_p t281_12 rfl ?_
    refine g_p t281_13 rfl ?_
    refine r_aast (a := nI (m + 2)) t281_14 he hm hci (by decide) (by omega) (by unfold m_ro; rw [nI_clamp hm2]) ?_
    refine g_p t281_15 rfl ?_
    refine g_p t281_16 rfl ?_
    refine g_k (n := 1) t281_17 rfl rfl ?_
    refine g_addn t281_18 ?_
    refine r_puti t281_19 hAo rfl rfl ?_
    exact v_ret t281_22 hq
  · exfalso; omega
theorem c282t (hAo : s.1 a = .inr (0, [.int 0, .retAddr 7, .int 0])) (he : s.1 e = .inl (4, 10, .inr (.inr (.inr (.inr (fun _ => none)))))) (h1 : ri s a 1 = nI (e + 2)) (he2 : e + 2 < 2 ^ 31) (h2 : ri s a 2 = nI k) (hm : s.1 m = .inr (ci, fs)) (hci : (decide (ci = 1) || decide (ci = 4)) = true) (hm2 : m + 2 < 2 ^ 31) (hk : k < 4) (hq : Q (some (.int (bI true))) (mR (wi (wi (wi s a 0 (ri s a 0 + nI 1)) e k (nI (m + 2))) a 2 (nI (k + 1))))) : gE X (d + 2) 282 [.ref a, .ref m] (mR s) Q := by
  refine en282 rfl rfl ?_
  refine g_p t282_0 rfl ?_
  refine g_p t282_1 rfl ?_
  refine r_geti t282_2 hAo rfl rfl ?_
  refine g_k (n := 1) t282_5 rfl rfl ?_
  refine g_iadd t282_6 ?_
  refine r_puti t282_7 hAo rfl rfl ?_
  refine g_p t282_10 rfl ?_
  refine g_p t282_11 rfl ?_
  refine g_p t282_12 rfl ?_
  refine r_getq t282_13 hAo rfl rfl ((ri_wi_j (by decide)).trans h1) (m_rq_r he2) ?_
  refine g_p t282_16 rfl ?_
  refine r_gete t282_17 hAo rfl rfl ((ri_wi_j (by decide)).trans h2) ?_
  refine r_cv t282_20 hAo rfl ?_
  refine c281t (by exact hAo) (by exact he) (by exact hm) hci hm2 hk ?_
  refine k_0 ?_
  refine g_k (n := 1) t282_23 rfl rfl ?_
  exact b_ret t282_24 rfl hq
end TZF
