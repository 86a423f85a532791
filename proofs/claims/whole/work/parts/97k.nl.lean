/-! LISTS OF NUMBERS in rows of numbers -/
def NL (s : mM) (p : Nat) (l : List Nat) : Prop := ri s p 1 = nI l.length ∧ ∀ k, k < l.length → ri s (p + 1) k = nI (l.getD k 0)
theorem NL.fr {A : List Nat} {s s' : mM} {p : Nat} {l : List Nat} (h : NL s p l) (f : Fr A s s') (h1 : p ∉ A) (h2 : p + 1 ∉ A) : NL s' p l := ⟨(f.ri h1).trans h.1, fun k hk => (f.ri h2).trans (h.2 k hk)⟩
theorem gD_app1 {l m : List Nat} {k : Nat} (h : k < l.length) : (l ++ m).getD k 0 = l.getD k 0 := by simp only [List.getD, List.getElem?_append_left h]
theorem gD_app2 {l : List Nat} {v : Nat} : (l ++ [v]).getD l.length 0 = v := by simp [List.getD]
theorem Nu.fr {A : List Nat} {s s' : mM} {p n : Nat} (h : Nu s p n) (f : Fr A s s') : Nu s' p n := by
  unfold Nu; rw [f.1]; exact h
section NL
variable {X : am_X} {d : Nat} {s : mM} {Q : Option Value → am_H → Prop} {p n : Nat} {l : List Nat}
theorem c29L (h : Nu s p n) (hl : NL s p l) (hq : Q (some (.int (nI l.length))) (mR s)) : gE X d 29 [.ref p] (mR s) Q := c29e h hl.1 hq
theorem c30L (h : Nu s p n) (hl : NL s p l) {k : Nat} (hk : k < l.length) (hn : k < n) (hq : Q (some (.int (nI (l.getD k 0)))) (mR s)) : gE X d 30 [.ref p, .int (nI k)] (mR s) Q := c30e h hn (hl.2 k hk) hq
theorem c33L (h : Nu s p n) (hl : NL s p l) {v : Nat} (hk : l.length < n) (hq : ∀ s', Fr [p, p + 1] s s' → NL s' p (l ++ [v]) → Q (some (.int (bI true))) (mR s')) : gE X d 33 [.ref p, .int (nI v)] (mR s) Q := by
  refine c33 h hl.1 hk (hq _ ((Fr.rf.wi (by simp)).wi (by simp)) ⟨?_, fun k hk2 => ?_⟩)
  · rw [ri_wi_eq, List.length_append]; rfl
  · rw [ri_wi_ne (by omega)]
    simp only [List.length_append, List.length_cons, List.length_nil] at hk2
    by_cases h3 : k < l.length
    · rw [ri_wi_j (by omega), gD_app1 h3]; exact hl.2 k h3
    · rw [show k = l.length by omega, ri_wi_eq, gD_app2]
theorem c33Lf (h : Nu s p n) (hl : NL s p l) {v : Int32} (hk : n ≤ l.length) (hk2 : l.length < 2 ^ 31) (hq : Q (some (.int (bI false))) (mR s)) : gE X d 33 [.ref p, .int v] (mR s) Q := c33f h hl.1 hk hk2 hq
theorem c34L (h : Nu s p n) (hl : NL s p l) {j : Nat} (hj : j ≤ l.length) (hk : l.length < 2 ^ 31) (hq : ∀ s', Fr [p] s s' → NL s' p (l.take j) → Q none (mR s')) : gE X d 34 [.ref p, .int (nI j)] (mR s) Q := by
  refine c34 h hl.1 hj hk (hq _ (Fr.rf.wi (by simp)) ⟨?_, fun k hk2 => ?_⟩)
  · rw [ri_wi_eq, List.length_take, Nat.min_eq_left hj]
  · rw [List.length_take] at hk2
    rw [ri_wi_ne (by omega), hl.2 k (by omega)]
    congr 1
    rw [List.getD, List.getD, List.getElem?_take_of_lt (by omega)]
theorem c35L (h : Nu s p n) {a : Nat} (hl : NL s p (a :: l)) (hk : l.length < n) (hq : ∀ s', Fr [p, p + 1] s s' → NL s' p l → Q none (mR s')) : gE X d 35 [.ref p] (mR s) Q := by
  refine c35 h (k := l.length) hl.1 hk (hq _ ((Fr.rf.wf (by simp)).wi (by simp)) ⟨ri_wi_eq, fun k hk2 => ?_⟩)
  rw [ri_wi_ne (by omega), ri_wf, if_pos rfl, m_cpy_eq, if_pos (by omega)]
  rw [show 1 + (k - 0) = k + 1 by omega]
  exact (hl.2 (k + 1) (by simpa using hk2)).trans rfl
theorem c36L {p2 n2 : Nat} (h : Nu s p n) (h2 : Nu s p2 n2) (hne : p2 ≠ p + 1) (hl : NL s p2 l) (hk : l.length ≤ n) (hk2 : l.length ≤ n2) (hq : ∀ s', Fr [p, p + 1] s s' → NL s' p l → Q none (mR s')) : gE X d 36 [.ref p, .ref p2] (mR s) Q := by
  have := h.2.2
  refine c36 h h2 hne hl.1 (by omega) (hq _ ((Fr.rf.wf (by simp)).wi (by simp)) ⟨?_, fun k hk2 => ?_⟩)
  · rw [ri_wi_eq, Nat.min_eq_left hk]
  · rw [ri_wi_ne (by omega), ri_wf, if_pos rfl, m_cpy_eq, if_pos (by omega), Nat.zero_add, Nat.sub_zero]
    exact hl.2 k hk2
/-- the same of the first cells, whatever the length says -/
theorem c36c {p2 n2 k : Nat} (h : Nu s p n) (h2 : Nu s p2 n2) (hne : p2 ≠ p + 1) (hl : ri s p2 1 = nI k) (hk : k < 2 ^ 31) (hq : ∀ s', Fr [p, p + 1] s s' → ri s' p 1 = nI (min k n) → (∀ i, i < min n n2 → ri s' (p + 1) i = ri s (p2 + 1) i) → Q none (mR s')) : gE X d 36 [.ref p, .ref p2] (mR s) Q := by
  refine c36 h h2 hne hl hk (hq _ ((Fr.rf.wf (by simp)).wi (by simp)) ri_wi_eq (fun i hi => ?_))
  rw [ri_wi_ne (by omega), ri_wf, if_pos rfl, m_cpy_eq, if_pos (by omega), Nat.zero_add, Nat.sub_zero]
end NL
-- what stands and what is inside
section ST
variable {P r w c : Nat}
theorem std_t (h : std P r w c = true) : c < mn P ∧ cn P c 1 ≤ r ∧ cn P c 2 ≤ w := by
  unfold std at h
  simp only [Bool.and_eq_true, decide_eq_true_eq] at h
  exact ⟨h.1.1, h.1.2, h.2⟩
theorem std_of (h1 : c < mn P) (h2 : cn P c 1 ≤ r) (h3 : cn P c 2 ≤ w) : std P r w c = true := by
  unfold std
  rw [decide_eq_true h1, decide_eq_true h2, decide_eq_true h3]; rfl
theorem std_f1 (h : mn P ≤ c) : std P r w c = false := by
  unfold std
  rw [decide_eq_false (by omega)]; rfl
theorem std_f2 (h : r < cn P c 1) : std P r w c = false := by
  unfold std
  rw [decide_eq_false (show ¬ cn P c 1 ≤ r by omega), Bool.and_false]; rfl
theorem std_f3 (h : w < cn P c 2) : std P r w c = false := by
  unfold std
  rw [decide_eq_false (show ¬ cn P c 2 ≤ w by omega), Bool.and_false]
end ST
