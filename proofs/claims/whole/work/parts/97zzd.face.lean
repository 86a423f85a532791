/-! CELLS MADE: a Numbers copied -/
/-- the same but for ints of A and for cells made since -/
def FW (A : List Nat) (s s' : mM) : Prop := s.2.2.2.1 ≤ s'.2.2.2.1 ∧ (∀ q, q < s.2.2.2.1 → s'.1 q = s.1 q) ∧ ∀ q, q ∉ A → s'.2.1 q = s.2.1 q
def shg (s' s : mM) : mM := (s.1, s'.2.1, s.2.2)
theorem FW.fr {A : List Nat} {s s' : mM} (h : FW A s s') : Fr A s (shg s' s) := ⟨rfl, rfl, h.2.2⟩
theorem FW.tr {A : List Nat} {s s' s'' : mM} (h : FW A s s') (h2 : FW A s' s'') : FW A s s'' := ⟨Nat.le_trans h.1 h2.1, fun q hq => (h2.2.1 q (Nat.lt_of_lt_of_le hq h.1)).trans (h.2.1 q hq), fun q hq => (h2.2.2 q hq).trans (h.2.2 q hq)⟩
theorem FW.mono {A B : List Nat} {s s' : mM} (h : FW A s s') (hs : ∀ p ∈ A, p ∈ B) : FW B s s' := ⟨h.1, h.2.1, fun p hp => h.2.2 p (fun h3 => hp (hs p h3))⟩
theorem Fr.fw {A : List Nat} {s s' : mM} (h : Fr A s s') : FW A s s' := ⟨by rw [h.2.1]; exact Nat.le_refl _, fun q _ => by rw [h.1], h.2.2⟩
theorem FW.fx {A : List Nat} {s s' : mM} (h : FW A s s') (hN : 114 ≤ s.2.2.2.1) (hF : Fx s) : Fx s' := fun p hp => (h.2.1 p (Nat.lt_of_lt_of_le hp hN)).trans (hF p hp)
theorem FW.nu {A : List Nat} {s s' : mM} {p n : Nat} (h : FW A s s') (hp : p + 1 < s.2.2.2.1) (hN : Nu s p n) : Nu s' p n := ⟨(h.2.1 p (by omega)).trans hN.1, (h.2.1 (p + 1) hp).trans hN.2.1, hN.2.2⟩
theorem FW.nl {A : List Nat} {s s' : mM} {p : Nat} {l : List Nat} (h : FW A s s') (h1 : p ∉ A) (h2 : p + 1 ∉ A) (hL : NL s p l) : NL s' p l := (show NL (shg s' s) p l from hL.fr h.fr h1 h2)
theorem wn_fw {s : mM} {e : am_E} {n : Nat} : FW [s.2.2.2.1] s (wn s e n) := ⟨Nat.le_succ _, fun q hq => m_up_ne (by omega), fun q hq => m_up_ne (fun h => hq (by rw [h]; exact List.mem_singleton.mpr rfl))⟩
theorem nmk_fw {s : mM} {p m : Nat} (hn : s.2.2.2.1 = p + 1) : (nmk s p m).2.2.2.1 = p + 2 ∧ (∀ q, q < p → (nmk s p m).1 q = s.1 q) ∧ ∀ q, q ∉ [p, p + 1] → (nmk s p m).2.1 q = s.2.1 q := by
  refine ⟨nmk_next hn, fun q hq => nmk_sh hn (by omega) (by omega), fun q hq => ?_⟩
  simp only [List.mem_cons, List.not_mem_nil, or_false, not_or] at hq
  funext i
  exact nmk_ri hn hq.1 hq.2
/-- new and filled: behind the making of p -/
theorem mk_fw {s : mM} {p m : Nat} (hp : s.2.2.2.1 = p) : FW [p, p + 1] s (nmk (wn s (.inr (4, [.null, .int 0])) 2) p m) := by
  have hn : (wn s (.inr (4, [.null, .int 0])) 2).2.2.2.1 = p + 1 := by show s.2.2.2.1 + 1 = p + 1; rw [hp]
  obtain ⟨h1, h2, h3⟩ := nmk_fw (m := m) hn
  refine ⟨by rw [h1, hp]; omega, fun q hq => ?_, fun q hq => ?_⟩
  · rw [hp] at hq
    exact (h2 q hq).trans (m_up_ne (by omega))
  · refine (h3 q hq).trans (m_up_ne ?_)
    simp only [List.mem_cons, List.not_mem_nil, or_false, not_or] at hq
    rw [hp]; exact hq.1
section TZD
variable {X : am_X} {d p m T n : Nat} {s : mM} {hp : am_H} {Q : Option Value → am_H → Prop} {l : List Nat}
theorem c127 (hN : Nu s T n) (hL : NL s T l) (hn : l.length ≤ n) (h120 : l.length ≤ 120) (hp : s.2.2.2.1 = p) (hT : T + 1 < p) (hq : ∀ s', FW [p, p + 1] s s' → s'.2.2.2.1 = p + 2 → s'.2.2.2.2 = (s.2.2.2.2.1 + 2, s.2.2.2.2.2 + 2 + l.length) → Nu s' p l.length → NL s' p l → Q (some (.ref p)) (mR s')) : gE X (d + 1) 127 [.ref T] (mR s) Q := by
  have hn1 : (wn s (.inr (4, [.null, .int 0])) 2).2.2.2.1 = p + 1 := by show s.2.2.2.1 + 1 = p + 1; rw [hp]
  have h1 : (wn s (.inr (4, [.null, .int 0])) 2).1 p = .inr (4, [.null, .int 0]) := by rw [← hp]; exact m_up_eq
  have w1 : FW [s.2.2.2.1] s (wn s (.inr (4, [.null, .int 0])) 2) := wn_fw
  have hNN : T ∉ [s.2.2.2.1] ∧ T + 1 ∉ [s.2.2.2.1] := by simp only [List.mem_singleton]; omega
  have hN1 := w1.nu (by omega) hN
  have hL1 := w1.nl hNN.1 hNN.2 hL
  have w2 := mk_fw (m := l.length) hp
  have hNM : T ∉ [p, p + 1] ∧ T + 1 ∉ [p, p + 1] := by simp only [List.mem_cons, List.not_mem_nil, or_false]; omega
  have hN2 := w2.nu (by omega) hN
  have hL2 := w2.nl hNM.1 hNM.2 hL
  have hNp : Nu (nmk (wn s (.inr (4, [.null, .int 0])) 2) p l.length) p l.length := nmk_Nu (by omega) hn1
  refine en127 rfl ?_
  refine r_new (e := .inr (4, [.null, .int 0])) t127_0 rfl ?_
  rw [hp]
  refine g_p t127_3 rfl ?_
  refine g_p t127_4 rfl ?_
  refine r_cv t127_5 hN1.1 rfl ?_
  refine c29L hN1 hL1 ?_
  refine k_v ?_ rfl
  refine g_ci t127_8 rfl rfl rfl ?_
  refine c28 h1 hn1 (by omega) ?_
  refine k_0 ?_
  skip
  refine g_asn t127_11 rfl (Nat.le_of_ble_eq_true rfl) (am_s1_1 rfl) ?_
  refine g_p t127_12 rfl ?_
  refine g_p t127_13 rfl ?_
  refine r_cv t127_14 hNp.1 rfl ?_
  refine c36L hNp hN2 (by omega) hL2 (Nat.le_refl _) hn (fun s14 fr14 hL14 => ?_)
  refine k_0 ?_
  refine g_p t127_17 rfl ?_
  exact a_ret t127_18 rfl rfl (hq s14 (w2.tr fr14.fw) (by rw [fr14.2.1]; exact nmk_next hn1) (by rw [fr14.2.1, nmk_room]; rfl) (hNp.fr fr14) hL14)
end TZD
