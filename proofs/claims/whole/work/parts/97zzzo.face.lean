/-! THE FACE: a list added to; a text kept -/
section TZO
variable {X : am_X} {d k P n a m e : Nat} {s : mM} {hp : am_H} {Q : Option Value → am_H → Prop} {ps : List Nat} {ci : Nat} {fs : List Value}
theorem getD_app1 {l : List Nat} {m k : Nat} (h : k < l.length) : (l ++ [m]).getD k 0 = l.getD k 0 := by
  rw [List.getD, List.getD, List.getElem?_append_left h]
theorem getD_app2 {l : List Nat} {m : Nat} : (l ++ [m]).getD l.length 0 = m := by
  rw [List.getD, List.getElem?_append_right (Nat.le_refl _)]; simp
/-- what an addition to the list at a may change -/
def AdA (s : mM) (a : Nat) (A : List Nat) : Prop := ∀ q ∈ A, q = a ∨ q = s.2.2.2.1 ∨ (114 ≤ q ∧ s.1 q = rE ∧ ri s a 1 = nI (q + 2) ∧ q + 2 < 2 ^ 31)
theorem c282 (hAo : s.1 a = .inr (0, [.int 0, .retAddr 7, .int 0])) (ha : a < 114) (hA : AL s a ps) (hl : ps.length < 4) (hN : 114 ≤ s.2.2.2.1) (he2 : s.2.2.2.1 + 2 < 2 ^ 31) (hm : s.1 m = .inr (ci, fs)) (hmN : m < s.2.2.2.1) (hci : (decide (ci = 1) || decide (ci = 4)) = true)
    (hq : ∀ s' A, AdA s a A → FW A s s' → s'.2.2.2.1 ≤ s.2.2.2.1 + 1 → (s'.2.2.2.2.1 ≤ s.2.2.2.2.1 + 1 ∧ s'.2.2.2.2.2 ≤ s.2.2.2.2.2 + 10) → AL s' a (ps ++ [m]) → (ri s' a 1 = ri s a 1 ∨ (ri s' a 1 = nI (s.2.2.2.1 + 2) ∧ s'.2.2.2.1 = s.2.2.2.1 + 1)) → Q (some (.int (bI true))) (mR s')) : gE X (d + 3) 282 [.ref a, .ref m] (mR s) Q := by
  obtain ⟨q1, q2, q3, q4⟩ := hA
  have hla : (ps ++ [m]).length = ps.length + 1 := by rw [List.length_append]; rfl
  by_cases hp : ps = []
  · subst hp
    refine c282f hAo (q3 rfl) q1 (by omega) he2 hm hmN hci (by omega) ?_
    have hS : ∀ q, q < s.2.2.2.1 → (wi (wi (gmk (wi s a 0 (ri s a 0 + nI 1)) a) s.2.2.2.1 0 (nI (m + 2))) a 2 (nI (0 + 1))).1 q = s.1 q := fun q hq => gmk_sh (s := wi s a 0 (ri s a 0 + nI 1)) (a := a) (q := q) (by show q ≠ s.2.2.2.1; omega)
    have r1 : ri (wi (wi (gmk (wi s a 0 (ri s a 0 + nI 1)) a) s.2.2.2.1 0 (nI (m + 2))) a 2 (nI (0 + 1))) a 1 = nI (s.2.2.2.1 + 2) := by
      rw [ri_wi_j (by decide), ri_wi_ne (by omega)]
      unfold gmk
      rw [ri_wi, if_pos ⟨rfl, rfl⟩]; rfl
    refine hq _ [a, s.2.2.2.1] (fun q h => ?_) ⟨Nat.le_succ _, hS, fun q h => ?_⟩ (Nat.le_refl _) ⟨Nat.le_refl _, Nat.le_refl _⟩ ⟨?_, Nat.succ_le_succ (Nat.zero_le _), fun h => absurd h (by simp), fun _ => ⟨s.2.2.2.1, hN, he2, r1, ?_, ?_⟩⟩ (Or.inr ⟨r1, rfl⟩)
    · simp only [List.mem_cons, List.not_mem_nil, or_false] at h
      rcases h with h | h
      · exact Or.inl h
      · exact Or.inr (Or.inl h)
    · simp only [List.mem_cons, List.not_mem_nil, or_false, not_or] at h
      funext i
      show ri (wi (wi (gmk (wi s a 0 (ri s a 0 + nI 1)) a) s.2.2.2.1 0 (nI (m + 2))) a 2 (nI (0 + 1))) q i = ri s q i
      rw [ri_wi_ne h.1, ri_wi_ne h.2]
      unfold gmk
      rw [ri_wi_ne h.1]
      show m_up (wi s a 0 (ri s a 0 + nI 1)).2.1 s.2.2.2.1 _ q i = _
      rw [m_up_ne h.2]
      exact ri_wi_ne h.1
    · rw [ri_wi, if_pos ⟨rfl, rfl⟩]; rfl
    · exact gmk_e (s := wi s a 0 (ri s a 0 + nI 1)) (a := a)
    · intro k hk
      have : k = 0 := by simp at hk; omega
      subst this
      refine ⟨?_, by show m + 2 < _; omega⟩
      rw [ri_wi_ne (by omega), ri_wi, if_pos ⟨rfl, rfl⟩]; rfl
  · obtain ⟨e, g1, g2, g3, g4, g5⟩ := q4 hp
    refine c282t hAo g4 g3 g2 q1 hm hci (by omega) hl ?_
    have r1 : ri (wi (wi (wi s a 0 (ri s a 0 + nI 1)) e ps.length (nI (m + 2))) a 2 (nI (ps.length + 1))) a 1 = ri s a 1 := by
      rw [ri_wi_j (by decide), ri_wi_ne (by omega), ri_wi_j (by decide)]
    refine hq _ [a, e] (fun q h => ?_) ⟨Nat.le_refl _, fun q _ => rfl, fun q h => ?_⟩ (Nat.le_succ _) ⟨Nat.le_succ _, Nat.le_add_right _ _⟩ ⟨?_, by omega, fun h => absurd h (by simp), fun _ => ⟨e, g1, g2, r1.trans g3, g4, ?_⟩⟩ (Or.inl r1)
    · simp only [List.mem_cons, List.not_mem_nil, or_false] at h
      rcases h with h | h
      · exact Or.inl h
      · rw [h]; exact Or.inr (Or.inr ⟨g1, g4, g3, g2⟩)
    · simp only [List.mem_cons, List.not_mem_nil, or_false, not_or] at h
      funext i
      show ri (wi (wi (wi s a 0 (ri s a 0 + nI 1)) e ps.length (nI (m + 2))) a 2 (nI (ps.length + 1))) q i = ri s q i
      rw [ri_wi_ne h.1, ri_wi_ne h.2, ri_wi_ne h.1]
    · rw [ri_wi, if_pos ⟨rfl, rfl⟩, hla]
    · intro k hk
      rw [hla] at hk
      rw [ri_wi_ne (by omega), ri_wi]
      by_cases hkl : k = ps.length
      · subst hkl
        rw [if_pos ⟨rfl, rfl⟩, getD_app2]
        exact ⟨rfl, by omega⟩
      · rw [if_neg (fun h => hkl h.2), ri_wi_ne (by omega), getD_app1 (by omega)]
        exact g5 k (by omega)
end TZO
