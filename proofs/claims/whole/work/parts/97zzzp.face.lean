/-! THE FACE: what is held, and where -/
theorem nI_inj {a b : Nat} (ha : a < 2 ^ 31) (hb : b < 2 ^ 31) (h : nI a = nI b) : a = b := by
  have := congrArg Int32.toNatClampNeg h
  rwa [nI_clamp ha, nI_clamp hb] at this
/-- the cell q kept -/
def Kp (s s' : mM) (q : Nat) : Prop := s'.1 q = s.1 q ∧ s'.2.1 q = s.2.1 q
theorem Kp.ri {s s' : mM} {q i : Nat} (h : Kp s s' q) : ri s' q i = ri s q i := congrFun h.2 i
theorem AL.kp {s s' : mM} {a : Nat} {ps : List Nat} (h : AL s a ps) (ha : Kp s s' a) (he : ∀ e, 114 ≤ e → s.1 e = rE → ri s a 1 = nI (e + 2) → e + 2 < 2 ^ 31 → Kp s s' e) : AL s' a ps := by
  obtain ⟨q1, q2, q3, q4⟩ := h
  refine ⟨ha.ri.trans q1, q2, fun h => ha.ri.trans (q3 h), fun h => ?_⟩
  obtain ⟨e, r1, r2, r3, r4, r5⟩ := q4 h
  have k := he e r1 r4 r3 r2
  exact ⟨e, r1, r2, ha.ri.trans r3, k.1.trans r4, fun i hi => ⟨k.ri.trans (r5 i hi).1, (r5 i hi).2⟩⟩
theorem Nu.kp {s s' : mM} {p n : Nat} (h : Nu s p n) (k1 : Kp s s' p) (k2 : Kp s s' (p + 1)) : Nu s' p n := ⟨k1.1.trans h.1, k2.1.trans h.2.1, h.2.2⟩
theorem NL.kp {s s' : mM} {p : Nat} {l : List Nat} (h : NL s p l) (k1 : Kp s s' p) (k2 : Kp s s' (p + 1)) : NL s' p l := ⟨k1.ri.trans h.1, fun k hk => k2.ri.trans (h.2 k hk)⟩
theorem TX.kp {s s' : mM} {p n : Nat} {t : List Nat} (h : TX p n t s) (k1 : Kp s s' p) (k2 : Kp s s' (p + 1)) : TX p n t s' := ⟨h.1.kp k1 k2, h.2.1.kp k1 k2, h.2.2⟩
theorem Bo.kp {s s' : mM} {p : Nat} (h : Bo s p) (k : ∀ q, p ≤ q → q < p + 7 → Kp s s' q) : Bo s' p := ⟨(k p (by omega) (by omega)).1.trans h.1, h.2.1.kp (k _ (by omega) (by omega)) (k _ (by omega) (by omega)), h.2.2.1.kp (k _ (by omega) (by omega)) (k _ (by omega) (by omega)), h.2.2.2.kp (k _ (by omega) (by omega)) (k _ (by omega) (by omega))⟩
theorem Bt.kp {s s' : mM} {p : Nat} {b : Bk} (h : Bt b p s) (k : ∀ q, p ≤ q → q < p + 7 → Kp s s' q) : Bt b p s' := ⟨h.1.kp (k _ (by omega) (by omega)) (k _ (by omega) (by omega)), (k p (by omega) (by omega)).ri.trans h.2.1, h.2.2.1, h.2.2.2.1, fun i hi q hq => ⟨(k (p + 4) (by omega) (by omega)).ri.trans (h.2.2.2.2 i hi q hq).1, (h.2.2.2.2 i hi q hq).2⟩⟩
theorem Bs.kp {s s' : mM} {p P : Nat} {b : Bk} (h : Bs P b p s) (k : ∀ q, p ≤ q → q < p + 7 → Kp s s' q) : Bs P b p s' := fun c hc => (k (p + 6) (by omega) (by omega)).ri.trans (h c hc)
theorem rE_r {ci : Nat} {fs : List Value} : (Sum.inr (ci, fs) : am_E) ≠ rE := fun h => by cases h
theorem rE_n {n : Nat} {f : Nat → Int32} : (Sum.inl (0, n, .inl f) : am_E) ≠ rE := fun h => by cases h
theorem Nu.ne {s : mM} {p n : Nat} (h : Nu s p n) : s.1 p ≠ rE ∧ s.1 (p + 1) ≠ rE := ⟨by rw [h.1]; exact rE_r, by rw [h.2.1]; exact rE_n⟩
theorem Bo.ne {s : mM} {p : Nat} (h : Bo s p) : ∀ q, p ≤ q → q < p + 7 → s.1 q ≠ rE := by
  intro q h1 h2
  obtain ⟨a, b, c, e⟩ := h
  rcases (show q = p ∨ q = p + 1 ∨ q = p + 1 + 1 ∨ q = p + 3 ∨ q = p + 3 + 1 ∨ q = p + 5 ∨ q = p + 5 + 1 by omega) with h | h | h | h | h | h | h
  · rw [h, a]; exact rE_r
  · rw [h]; exact b.ne.1
  · rw [h]; exact b.ne.2
  · rw [h]; exact c.ne.1
  · rw [h]; exact c.ne.2
  · rw [h]; exact e.ne.1
  · rw [h]; exact e.ne.2
/-- old cells kept, those of E aside: lists or their rows -/
def KX (s s' : mM) (E : Nat → Prop) : Prop := s.2.2.2.1 ≤ s'.2.2.2.1 ∧ (∀ q, q < s.2.2.2.1 → 114 ≤ q ∨ q = 16 ∨ q = 17 ∨ q = 18 → ¬ E q → Kp s s' q) ∧ ∀ q, E q → q < 114 ∨ s.1 q = rE
theorem KX.k {s s' : mM} {E : Nat → Prop} (h : KX s s' E) {q : Nat} (h1 : 114 ≤ q) (h2 : q < s.2.2.2.1) (h3 : s.1 q ≠ rE) : Kp s s' q := h.2.1 q h2 (Or.inl h1) (fun hE => by
  rcases h.2.2 q hE with h | h
  · omega
  · exact h3 h)
theorem KX.nu {s s' : mM} {E : Nat → Prop} (h : KX s s' E) {q n : Nat} (h1 : 114 ≤ q) (h2 : q + 2 ≤ s.2.2.2.1) (h3 : Nu s q n) : Kp s s' q ∧ Kp s s' (q + 1) := ⟨h.k h1 (by omega) h3.ne.1, h.k (by omega) (by omega) h3.ne.2⟩
theorem KX.bo {s s' : mM} {E : Nat → Prop} (h : KX s s' E) {p : Nat} (h1 : 114 ≤ p) (h2 : p + 7 ≤ s.2.2.2.1) (h3 : Bo s p) : ∀ q, p ≤ q → q < p + 7 → Kp s s' q := fun q a b => h.k (by omega) (by omega) (h3.ne q a b)
theorem KX.al {s s' : mM} {E : Nat → Prop} (h : KX s s' E) {a : Nat} {ps : List Nat} (hA : AL s a ps) (ha : a = 16 ∨ a = 17 ∨ a = 18) (hN : 114 ≤ s.2.2.2.1) (h1 : ¬ E a) (h2 : ∀ e, s.1 e = rE → ri s a 1 = nI (e + 2) → e + 2 < 2 ^ 31 → e < s.2.2.2.1 ∧ ¬ E e) : AL s' a ps :=
  hA.kp (h.2.1 a (by omega) (Or.inr ha) h1) (fun e g1 g2 g3 g4 => h.2.1 e (h2 e g2 g3 g4).1 (Or.inl g1) (h2 e g2 g3 g4).2)
/-- lists apart, their rows below the next number -/
def SE (s : mM) : Prop := (∀ a b, (a = 16 ∨ a = 17 ∨ a = 18) → (b = 16 ∨ b = 17 ∨ b = 18) → a ≠ b → ri s a 1 = ri s b 1 → ri s a 1 = nI 1) ∧ ∀ a, (a = 16 ∨ a = 17 ∨ a = 18) → ri s a 1 = nI 1 ∨ ∃ e, 114 ≤ e ∧ e + 2 < 2 ^ 31 ∧ e < s.2.2.2.1 ∧ ri s a 1 = nI (e + 2)
/-- rows of no book -/
def NB (ws : List (List Nat)) (wp : List Nat) (s : mM) : Prop := ∀ k, k < ws.length → ∃ n, n < 243 ∧ Nu s (wp.getD k 0) n
/-- the store -/
def KST (P : Nat) (bks : List Bk) (wds lis : List (List Nat)) (bp wp lp : List Nat) (s : mM) : Prop := CBk P bks bp s ∧ CWl wds wp s ∧ CLt lis lp s ∧ SE s ∧ 114 ≤ s.2.2.2.1 ∧ (∀ k, k < bks.length → bp.getD k 0 + 7 ≤ s.2.2.2.1) ∧ (∀ k, k < wds.length → wp.getD k 0 + 2 ≤ s.2.2.2.1) ∧ (∀ k, k < lis.length → lp.getD k 0 + 2 ≤ s.2.2.2.1) ∧ bks.length ≤ 3 ∧ wds.length ≤ 4 ∧ lis.length ≤ 4 ∧ NB wds wp s ∧ NB lis lp s
def HdN (ho : Option (List Nat)) (s : mM) : Prop := Hd ho s ∧ ∀ T, T + 2 < 2 ^ 31 → ri s 0 15 = nI (T + 2) → T + 2 ≤ s.2.2.2.1
section TZP
variable {P a m : Nat} {s s' : mM} {bks : List Bk} {wds lis : List (List Nat)} {bp wp lp A : List Nat} {E : Nat → Prop} {ho : Option (List Nat)}
theorem SE.row (h : SE s) (ha : a = 16 ∨ a = 17 ∨ a = 18) {e : Nat} (h2 : e + 2 < 2 ^ 31) (h1 : ri s a 1 = nI (e + 2)) : e < s.2.2.2.1 := by
  rcases h.2 a ha with g | ⟨e', g1, g2, g3, g4⟩
  · rw [g] at h1
    have := nI_inj (by decide) h2 h1
    omega
  · rw [g4] at h1
    have := nI_inj g2 h2 h1
    omega
/-- nothing of the store changed -/
theorem KST.kx (h : KST P bks wds lis bp wp lp s) (k : KX s s' (fun _ => False)) : KST P bks wds lis bp wp lp s' := by
  obtain ⟨hB, hW, hL, hS, hNN, b1, b2, b3, l1, l2, l3, n1, n2⟩ := h
  have kk : ∀ a, (a = 16 ∨ a = 17 ∨ a = 18) → Kp s s' a := fun a ha => k.2.1 a (by omega) (Or.inr ha) (fun h => h)
  have ka : ∀ a ps, (a = 16 ∨ a = 17 ∨ a = 18) → AL s a ps → AL s' a ps := fun a ps ha hA => k.al hA ha hNN (fun h => h) (fun e _ g2 g3 => ⟨hS.row ha g3 g2, fun h => h⟩)
  have hN' := k.1
  refine ⟨⟨ka _ _ (Or.inl rfl) hB.1, hB.2.1, fun i hi => ?_, hB.2.2.2⟩, ⟨ka _ _ (Or.inr (Or.inl rfl)) hW.1, hW.2.1, fun i hi => ?_⟩, ⟨ka _ _ (Or.inr (Or.inr rfl)) hL.1, hL.2.1, fun i hi => ?_⟩, ⟨fun a b ha hb hne h => ?_, fun a ha => ?_⟩, by omega, fun i hi => by have := b1 i hi; omega, fun i hi => by have := b2 i hi; omega, fun i hi => by have := b3 i hi; omega, l1, l2, l3, fun i hi => ?_, fun i hi => ?_⟩
  · obtain ⟨r1, r2, r3, r4, r5⟩ := hB.2.2.1 i hi
    have q := k.bo r1 (b1 i hi) r2
    exact ⟨r1, r2.kp q, r3.kp q, r4.kp q, r5⟩
  · obtain ⟨r1, ⟨n, r2, r3⟩, r4, r5⟩ := hW.2.2 i hi
    obtain ⟨q1, q2⟩ := k.nu r1 (b2 i hi) r3
    exact ⟨r1, ⟨n, r2, r3.kp q1 q2⟩, r4.kp q1 q2, r5⟩
  · obtain ⟨r1, n, r2⟩ := hL.2.2 i hi
    obtain ⟨q1, q2⟩ := k.nu r1 (b3 i hi) r2.1
    exact ⟨r1, n, r2.kp q1 q2⟩
  · rw [(kk a ha).ri, (kk b hb).ri] at h
    rw [(kk a ha).ri]
    exact hS.1 a b ha hb hne h
  · rcases hS.2 a ha with g | ⟨e, g1, g2, g3, g4⟩
    · exact Or.inl ((kk a ha).ri.trans g)
    · exact Or.inr ⟨e, g1, g2, by omega, (kk a ha).ri.trans g4⟩
  · obtain ⟨n, r1, r2⟩ := n1 i hi
    obtain ⟨q1, q2⟩ := k.nu (hW.2.2 i hi).1 (b2 i hi) r2
    exact ⟨n, r1, r2.kp q1 q2⟩
  · obtain ⟨n, r1, r2⟩ := n2 i hi
    obtain ⟨q1, q2⟩ := k.nu (hL.2.2 i hi).1 (b3 i hi) r2
    exact ⟨n, r1, r2.kp q1 q2⟩
theorem KST.fr (h : KST P bks wds lis bp wp lp s) (f : Fr A s s') (h1 : 16 ∉ A ∧ 17 ∉ A ∧ 18 ∉ A) (hA : ∀ x ∈ A, x < 114) : KST P bks wds lis bp wp lp s' := by
  refine h.kx ⟨by rw [f.2.1]; exact Nat.le_refl _, fun q _ hq _ => ⟨by rw [f.1], f.2.2 q (fun hA2 => ?_)⟩, fun q h => h.elim⟩
  have := hA q hA2
  rcases hq with h | h | h | h
  · omega
  · subst h; exact h1.1 hA2
  · subst h; exact h1.2.1 hA2
  · subst h; exact h1.2.2 hA2
theorem HdN.kx (h : HdN ho s) (k : KX s s' E) (h0 : ri s' 0 15 = ri s 0 15) : HdN ho s' := by
  refine ⟨?_, fun T hT h1 => by rw [h0] at h1; have := h.2 T hT h1; have := k.1; omega⟩
  cases ho with
  | none => exact h0.trans h.1
  | some t =>
    obtain ⟨T, n, q1, q2, q3⟩ := h.1
    obtain ⟨g1, g2⟩ := k.nu q1 (h.2 T q2.2.2.2.2.1 q3) q2.1
    exact ⟨T, n, q1, q2.kp g1 g2, h0.trans q3⟩
theorem HdN.fr (h : HdN ho s) (f : Fr A s s') (h0 : ri s' 0 15 = ri s 0 15) (hA : ∀ x ∈ A, x < 114) : HdN ho s' := by
  refine h.kx (E := fun q => q < 114) ⟨by rw [f.2.1]; exact Nat.le_refl _, fun q _ _ hE => ⟨by rw [f.1], f.2.2 q (fun hA2 => hE (hA q hA2))⟩, fun q h => Or.inl h⟩ h0
end TZP
