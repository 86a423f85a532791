/-! WHAT THE CONSTRUCTORS MAKE -/
def fxG (p : Nat) : am_E := fx.getD p (.inr (999, []))
def XZ : List (Nat × Nat) := [(3, 3), (4, 3), (12, 3), (15, 3), (16, 1), (17, 1), (18, 1), (80, 32), (80, 5)]
/-- N cells made, those of E not yet done, ints 0 but at XZ, there as K says -/
def Mk (N S : Nat) (E : List (Nat × am_E)) (K : List (Nat × Nat × Int32)) (s : mM) : Prop := s.2.2.2 = (N, N, S) ∧ (∀ pe ∈ E, pe.1 < N ∧ s.1 pe.1 = pe.2) ∧ (∀ q, q < N → (∀ pe ∈ E, pe.1 ≠ q) → s.1 q = fxG q) ∧ (∀ q i, (q, i) ∉ XZ → ri s q i = nI 0) ∧ ∀ k ∈ K, k.1 < N ∧ ri s k.1 k.2.1 = k.2.2
section TZU
variable {N S p i n m : Nat} {E : List (Nat × am_E)} {K : List (Nat × Nat × Int32)} {s : mM} {e e0 : am_E} {v : Int32} {u : Int64}
theorem Mk.nx (h : Mk N S E K s) : s.2.2.2.1 = N := by rw [h.1]
theorem Mk.h (h : Mk N S ((p, e) :: E) K s) : s.1 p = e := (h.2.1 (p, e) List.mem_cons_self).2
theorem Mk.h2 {p2 : Nat} {e2 : am_E} (h : Mk N S ((p2, e2) :: (p, e) :: E) K s) : s.1 p = e := (h.2.1 (p, e) (List.mem_cons_of_mem _ List.mem_cons_self)).2
theorem Mk.ints (h : ∀ q i, (q, i) ∉ XZ → ri s q i = nI 0) : ∀ q i, (q, i) ∉ XZ → ri (wn s e n) q i = nI 0 := fun q i hq => by
  show m_up s.2.1 s.2.2.2.1 (fun _ => 0) q i = _
  by_cases h1 : q = s.2.2.2.1
  · rw [h1, m_up_eq]; rfl
  · rw [m_up_ne h1]; exact h q i hq
theorem Mk.kk (hN : s.2.2.2.1 = N) (h : ∀ k ∈ K, k.1 < N ∧ ri s k.1 k.2.1 = k.2.2) : ∀ k ∈ K, k.1 < N + 1 ∧ ri (wn s e n) k.1 k.2.1 = k.2.2 := fun k hk => by
  obtain ⟨a, b⟩ := h k hk
  refine ⟨by omega, ?_⟩
  show m_up s.2.1 s.2.2.2.1 (fun _ => 0) k.1 k.2.1 = _
  rw [m_up_ne (by omega)]; exact b
theorem Mk.rm (h : s.2.2.2 = (N, N, S)) : (wn s e n).2.2.2 = (N + 1, N + 1, S + n) := by
  show (s.2.2.2.1 + 1, s.2.2.2.2.1 + 1, s.2.2.2.2.2 + n) = _
  rw [h]
theorem Mk.new (h : Mk N S E K s) : Mk (N + 1) (S + n) ((N, e) :: E) K (wn s e n) := by
  have hN := h.nx
  obtain ⟨h1, h2, h3, h4, h5⟩ := h
  refine ⟨Mk.rm h1, fun pe hp => ?_, fun q hq hE => ?_, Mk.ints h4, Mk.kk hN h5⟩
  · rcases List.mem_cons.mp hp with g | g
    · subst g
      refine ⟨Nat.lt_succ_self _, ?_⟩
      show m_up s.1 s.2.2.2.1 e N = e
      rw [hN, m_up_eq]
    · obtain ⟨a, b⟩ := h2 pe g
      refine ⟨by omega, ?_⟩
      show m_up s.1 s.2.2.2.1 e pe.1 = _
      rw [m_up_ne (by omega)]; exact b
  · have hne : N ≠ q := hE (N, e) List.mem_cons_self
    show m_up s.1 s.2.2.2.1 e q = _
    rw [m_up_ne (by omega)]
    exact h3 q (by omega) (fun pe hp => hE pe (List.mem_cons_of_mem _ hp))
theorem Mk.pop (h : Mk N S ((p, e) :: E) K s) (he : e = fxG p) : Mk N S E K s := by
  have hh := h.h
  obtain ⟨h1, h2, h3, h4, h5⟩ := h
  refine ⟨h1, fun pe hp => h2 pe (List.mem_cons_of_mem _ hp), fun q hq hE => ?_, h4, h5⟩
  by_cases hqp : q = p
  · rw [hqp, hh, he]
  · exact h3 q hq (fun pe hp => by
      rcases List.mem_cons.mp hp with g | g
      · subst g; exact fun e => hqp e.symm
      · exact hE pe g)
theorem Mk.row (h : Mk N S E K s) (he : e = fxG N) : Mk (N + 1) (S + n) E K (wn s e n) := h.new.pop he
theorem Mk.put (h : Mk N S ((p, e0) :: E) K s) (hE : ∀ pe ∈ E, pe.1 < p) : Mk N S ((p, e) :: E) K (wr s p e) := by
  obtain ⟨h1, h2, h3, h4, h5⟩ := h
  refine ⟨h1, fun pe hp => ?_, fun q hq hE2 => ?_, h4, h5⟩
  · rcases List.mem_cons.mp hp with g | g
    · subst g
      exact ⟨(h2 _ List.mem_cons_self).1, m_up_eq⟩
    · obtain ⟨a, b⟩ := h2 pe (List.mem_cons_of_mem _ g)
      have := hE pe g
      exact ⟨a, (m_up_ne (by omega)).trans b⟩
  · have hne : p ≠ q := hE2 (p, e) List.mem_cons_self
    refine (m_up_ne (fun e => hne e.symm)).trans (h3 q hq (fun pe hp => ?_))
    rcases List.mem_cons.mp hp with g | g
    · subst g; exact hne
    · exact hE2 pe (List.mem_cons_of_mem _ g)
theorem Mk.wx (h : Mk N S E K s) (hx : v = nI 0 ∨ (p, i) ∈ XZ) (hK : ∀ k ∈ K, ¬ (k.1 = p ∧ k.2.1 = i)) : Mk N S E K (wi s p i v) := by
  obtain ⟨h1, h2, h3, h4, h5⟩ := h
  refine ⟨h1, h2, h3, fun q j hq => ?_, fun k hk => ⟨(h5 k hk).1, ?_⟩⟩
  · rw [ri_wi]
    split
    · rename_i hc
      rcases hx with hx | hx
      · exact hx
      · rw [hc.1, hc.2] at hq; exact absurd hx hq
    · exact h4 q j hq
  · rw [ri_wi, if_neg (hK k hk)]; exact (h5 k hk).2
theorem Mk.wk (h : Mk N S E K s) (hp : p < N) (hx : (p, i) ∈ XZ) (hK : ∀ k ∈ K, ¬ (k.1 = p ∧ k.2.1 = i)) : Mk N S E ((p, i, v) :: K) (wi s p i v) := by
  obtain ⟨h1, h2, h3, h4, h5⟩ := h.wx (v := v) (Or.inr hx) hK
  refine ⟨h1, h2, h3, h4, fun k hk => ?_⟩
  rcases List.mem_cons.mp hk with g | g
  · subst g
    exact ⟨hp, by rw [ri_wi, if_pos ⟨rfl, rfl⟩]⟩
  · exact h5 k g
theorem Mk.wL (h : Mk N S E K s) : Mk N S E K (wl s p i u) := h
theorem Mk.sl {S2 : Nat} (h : Mk N S E K s) (e : S = S2) : Mk N S2 E K s := e ▸ h
theorem Mk.num (h : Mk N S E K s) (h1 : fxG N = .inr (4, [.ref (N + 1), .int 0])) (h2 : fxG (N + 1) = .inl (0, m, .inl (fun _ => 0))) (hK : ∀ x ∈ XZ, x.1 ≠ N) : Mk (N + 2) (S + 2 + m) E K (nmk (wn s (.inr (4, [.null, .int 0])) 2) N m) := by
  have a := h.new (e := .inr (4, [.null, .int 0])) (n := 2)
  have b := a.wx (p := N) (i := 1) (v := nI 0) (Or.inl rfl) (fun k hk hc => by have := (h.2.2.2.2 k hk).1; omega)
  have c := b.row (e := .inl (0, m, .inl (fun _ => 0))) (n := m) h2.symm
  exact (c.put (e := .inr (4, [.ref (N + 1), .int 0])) (fun pe hp => (h.2.1 pe hp).1)).pop h1.symm
theorem Mk.ne (h : Mk N S ((p, e) :: E) K s) (hp : N = p + 1) : (∀ pe ∈ E, pe.1 < N) := fun pe hq => (h.2.1 pe (List.mem_cons_of_mem _ hq)).1
end TZU
