/-! THE FACE: the store added to -/
theorem getD_appB {l : List Bk} {b : Bk} {k : Nat} (h : k < l.length) : (l ++ [b]).getD k nk = l.getD k nk := by
  rw [List.getD, List.getD, List.getElem?_append_left h]
theorem getD_appB2 {l : List Bk} {b : Bk} : (l ++ [b]).getD l.length nk = b := by
  rw [List.getD, List.getElem?_append_right (Nat.le_refl _)]; simp
theorem getD_appL {l : List (List Nat)} {b : List Nat} {k : Nat} (h : k < l.length) : (l ++ [b]).getD k [] = l.getD k [] := by
  rw [List.getD, List.getD, List.getElem?_append_left h]
theorem getD_appL2 {l : List (List Nat)} {b : List Nat} : (l ++ [b]).getD l.length [] = b := by
  rw [List.getD, List.getElem?_append_right (Nat.le_refl _)]; simp
def adE (s : mM) (a q : Nat) : Prop := q = a ∨ (s.1 q = rE ∧ ri s a 1 = nI (q + 2) ∧ q + 2 < 2 ^ 31)
section TZQ
variable {P a p n : Nat} {s s' : mM} {bks : List Bk} {wds lis : List (List Nat)} {bp wp lp A : List Nat} {b : Bk} {w : List Nat}
theorem addK (h1 : AdA s a A) (f : FW A s s') (ha : a < 114) : KX s s' (adE s a) := by
  refine ⟨f.1, fun q hq _ hE => ⟨f.2.1 q hq, f.2.2 q (fun h => ?_)⟩, fun q h => ?_⟩
  · rcases h1 q h with g | g | ⟨_, g2, g3, g4⟩
    · exact hE (Or.inl g)
    · omega
    · exact hE (Or.inr ⟨g2, g3, g4⟩)
  · rcases h with h | h
    · exact Or.inl (by omega)
    · exact Or.inr h.1
theorem SE.add (h : SE s) (k : KX s s' (adE s a)) (hN : 114 ≤ s.2.2.2.1) (ha : a = 16 ∨ a = 17 ∨ a = 18) (h1 : ri s' a 1 = ri s a 1 ∨ (ri s' a 1 = nI (s.2.2.2.1 + 2) ∧ s'.2.2.2.1 = s.2.2.2.1 + 1)) (hN2 : s.2.2.2.1 + 2 < 2 ^ 31) : SE s' := by
  have kk : ∀ b, (b = 16 ∨ b = 17 ∨ b = 18) → b ≠ a → ri s' b 1 = ri s b 1 := fun b hb hne => (k.2.1 b (by omega) (Or.inr hb) (fun hE => by
    rcases hE with g | ⟨g1, g2, g3⟩
    · exact hne g
    · have := h.row ha g3 g2
      rcases h.2 a ha with e1 | ⟨e, e1, e2, e3, e4⟩
      · rw [e1] at g2; have := nI_inj (by decide) g3 g2; omega
      · rw [e4] at g2; have := nI_inj e2 g3 g2; omega)).ri
  have hk := k.1
  refine ⟨fun x y hx hy hne e => ?_, fun x hx => ?_⟩
  · by_cases hxa : x = a
    · have hya : y ≠ a := fun e => hne (hxa.trans e.symm)
      rw [kk y hy hya, hxa] at e
      rcases h1 with h1 | h1
      · rw [hxa, h1]
        rw [h1] at e
        exact h.1 a y ha hy (fun e => hya e.symm) e
      · rw [h1.1] at e
        have := h.row hy hN2 e.symm
        omega
    · rw [kk x hx hxa] at e ⊢
      by_cases hya : y = a
      · rw [hya] at e
        rcases h1 with h1 | h1
        · rw [h1] at e
          exact h.1 x a hx ha hxa e
        · rw [h1.1] at e
          have := h.row hx hN2 e
          omega
      · rw [kk y hy hya] at e
        exact h.1 x y hx hy hne e
  · by_cases hxa : x = a
    · rw [hxa]
      rcases h1 with h1 | h1
      · rcases h.2 a ha with g | ⟨e, g1, g2, g3, g4⟩
        · exact Or.inl (h1.trans g)
        · exact Or.inr ⟨e, g1, g2, by omega, h1.trans g4⟩
      · exact Or.inr ⟨s.2.2.2.1, hN, hN2, by omega, h1.1⟩
    · rw [kk x hx hxa]
      rcases h.2 x hx with g | ⟨e, g1, g2, g3, g4⟩
      · exact Or.inl g
      · exact Or.inr ⟨e, g1, g2, by omega, g4⟩
theorem KX.alo (k : KX s s' (adE s a)) (h : SE s) (hN : 114 ≤ s.2.2.2.1) (ha : a = 16 ∨ a = 17 ∨ a = 18) {x : Nat} {ps : List Nat} (hx : x = 16 ∨ x = 17 ∨ x = 18) (hne : x ≠ a) (hA : AL s x ps) : AL s' x ps := by
  refine k.al hA hx hN (fun hE => ?_) (fun e g1 g2 g3 => ⟨h.row hx g3 g2, fun hE => ?_⟩)
  · rcases hE with g | ⟨g1, g2, g3⟩
    · exact hne g
    · rcases h.2 a ha with e1 | ⟨e, e1, e2, e3, e4⟩
      · rw [e1] at g2; have := nI_inj (by decide) g3 g2; omega
      · rw [e4] at g2; have := nI_inj e2 g3 g2; omega
  · rcases hE with g | ⟨_, g5, g6⟩
    · rcases h.2 x hx with e1 | ⟨e', e1, e2, e3, e4⟩
      · rw [e1] at g2; have := nI_inj (by decide) g3 g2; omega
      · rw [e4] at g2; have := nI_inj e2 g3 g2; omega
    · have := h.1 x a hx ha hne (g2.trans g5.symm)
      rw [this] at g2
      have := nI_inj (by decide) g3 g2
      omega
theorem KST.addB (h : KST P bks wds lis bp wp lp s) (h1 : AdA s 16 A) (f : FW A s s') (hr : ri s' 16 1 = ri s 16 1 ∨ (ri s' 16 1 = nI (s.2.2.2.1 + 2) ∧ s'.2.2.2.1 = s.2.2.2.1 + 1)) (hN2 : s.2.2.2.1 + 2 < 2 ^ 31) (hp : 114 ≤ p) (hAL : AL s' 16 (bp ++ [p])) (qB : Bo s p) (qT : Bt b p s) (qS : Bs P b p s) (q8 : ∀ c ∈ b.1, c.1 < 8) (hpN : p + 7 ≤ s.2.2.2.1) (hsep : ∀ i, i < bks.length → bp.getD i 0 + 7 ≤ p) (hl : bks.length < 3) : KST P (bks ++ [b]) wds lis (bp ++ [p]) wp lp s' := by
  have k := addK h1 f (by decide)
  obtain ⟨hB, hW, hL, hS, hNN, b1, b2, b3, l1, l2, l3, n1, n2⟩ := h
  have BB : ∀ i, i < bks.length → 114 ≤ bp.getD i 0 ∧ Bo s' (bp.getD i 0) ∧ Bt (bks.getD i nk) (bp.getD i 0) s' ∧ Bs P (bks.getD i nk) (bp.getD i 0) s' ∧ ∀ c ∈ (bks.getD i nk).1, c.1 < 8 := fun i hi => by
    obtain ⟨r1, r2, r3, r4, r5⟩ := hB.2.2.1 i hi
    have q := k.bo r1 (b1 i hi) r2
    exact ⟨r1, r2.kp q, r3.kp q, r4.kp q, r5⟩
  have WW : ∀ i, i < wds.length → 114 ≤ wp.getD i 0 ∧ (∃ n, (wds.getD i []).length ≤ n ∧ Nu s' (wp.getD i 0) n) ∧ NL s' (wp.getD i 0) (wds.getD i []) ∧ 0 < (wds.getD i []).length ∧ (wds.getD i []).length ≤ 8 ∧ ∀ x ∈ wds.getD i [], x < 8 := fun i hi => by
    obtain ⟨r1, ⟨n, r2, r3⟩, r4, r5⟩ := hW.2.2 i hi
    obtain ⟨q1, q2⟩ := k.nu r1 (b2 i hi) r3
    exact ⟨r1, ⟨n, r2, r3.kp q1 q2⟩, r4.kp q1 q2, r5⟩
  have LL : ∀ i, i < lis.length → 114 ≤ lp.getD i 0 ∧ ∃ n, TX (lp.getD i 0) n (lis.getD i []) s' := fun i hi => by
    obtain ⟨r1, n, r2⟩ := hL.2.2 i hi
    obtain ⟨q1, q2⟩ := k.nu r1 (b3 i hi) r2.1
    exact ⟨r1, n, r2.kp q1 q2⟩
  have NW : NB wds wp s' := fun i hi => by
    obtain ⟨n, r1, r2⟩ := n1 i hi
    obtain ⟨q1, q2⟩ := k.nu (hW.2.2 i hi).1 (b2 i hi) r2
    exact ⟨n, r1, r2.kp q1 q2⟩
  have NI : NB lis lp s' := fun i hi => by
    obtain ⟨n, r1, r2⟩ := n2 i hi
    obtain ⟨q1, q2⟩ := k.nu (hL.2.2 i hi).1 (b3 i hi) r2
    exact ⟨n, r1, r2.kp q1 q2⟩
  have hN' := k.1
  have q := k.bo hp hpN qB
  have hla : (bks ++ [b]).length = bks.length + 1 := by rw [List.length_append]; rfl
  have hlb := hB.2.1
  refine ⟨⟨hAL, by rw [List.length_append, List.length_append, hlb]; rfl, fun i hi => ?_, fun i j hij hj => ?_⟩, ⟨k.alo hS hNN (Or.inl rfl) (Or.inr (Or.inl rfl)) (by decide) hW.1, hW.2.1, WW⟩, ⟨k.alo hS hNN (Or.inl rfl) (Or.inr (Or.inr rfl)) (by decide) hL.1, hL.2.1, LL⟩, hS.add k hNN (Or.inl rfl) hr hN2, by omega, fun i hi => ?_, fun i hi => by have := b2 i hi; omega, fun i hi => by have := b3 i hi; omega, by omega, l2, l3, NW, NI⟩
  · rw [hla] at hi
    by_cases hil : i < bks.length
    · rw [getD_appB hil, getD_app1 (by omega)]; exact BB i hil
    · have : i = bks.length := by omega
      subst this
      rw [getD_appB2, show bks.length = bp.length from hlb.symm, getD_app2]
      exact ⟨hp, qB.kp q, qT.kp q, qS.kp q, q8⟩
  · rw [hla] at hj
    rw [getD_app1 (l := bp) (by omega)]
    by_cases hjl : j < bks.length
    · rw [getD_app1 (by omega)]; exact hB.2.2.2 i j hij hjl
    · have : j = bks.length := by omega
      subst this
      rw [show bks.length = bp.length from hlb.symm, getD_app2]
      exact hsep i (by omega)
  · rw [hla] at hi
    by_cases hil : i < bks.length
    · rw [getD_app1 (by omega)]; have := b1 i hil; omega
    · have : i = bks.length := by omega
      subst this
      rw [show bks.length = bp.length from hlb.symm, getD_app2]
      omega
theorem KST.addW (h : KST P bks wds lis bp wp lp s) (h1 : AdA s 17 A) (f : FW A s s') (hr : ri s' 17 1 = ri s 17 1 ∨ (ri s' 17 1 = nI (s.2.2.2.1 + 2) ∧ s'.2.2.2.1 = s.2.2.2.1 + 1)) (hN2 : s.2.2.2.1 + 2 < 2 ^ 31) (hp : 114 ≤ p) (hAL : AL s' 17 (wp ++ [p])) (hn : w.length ≤ n) (qN : Nu s p n) (qL : NL s p w) (q0 : 0 < w.length) (q8 : w.length ≤ 8) (q9 : ∀ x ∈ w, x < 8) (hpN : p + 2 ≤ s.2.2.2.1) (hn243 : n < 243) (hl : wds.length < 4) : KST P bks (wds ++ [w]) lis bp (wp ++ [p]) lp s' := by
  have k := addK h1 f (by decide)
  obtain ⟨hB, hW, hL, hS, hNN, b1, b2, b3, l1, l2, l3, n1, n2⟩ := h
  have BB : ∀ i, i < bks.length → 114 ≤ bp.getD i 0 ∧ Bo s' (bp.getD i 0) ∧ Bt (bks.getD i nk) (bp.getD i 0) s' ∧ Bs P (bks.getD i nk) (bp.getD i 0) s' ∧ ∀ c ∈ (bks.getD i nk).1, c.1 < 8 := fun i hi => by
    obtain ⟨r1, r2, r3, r4, r5⟩ := hB.2.2.1 i hi
    have q := k.bo r1 (b1 i hi) r2
    exact ⟨r1, r2.kp q, r3.kp q, r4.kp q, r5⟩
  have WW : ∀ i, i < wds.length → 114 ≤ wp.getD i 0 ∧ (∃ n, (wds.getD i []).length ≤ n ∧ Nu s' (wp.getD i 0) n) ∧ NL s' (wp.getD i 0) (wds.getD i []) ∧ 0 < (wds.getD i []).length ∧ (wds.getD i []).length ≤ 8 ∧ ∀ x ∈ wds.getD i [], x < 8 := fun i hi => by
    obtain ⟨r1, ⟨n, r2, r3⟩, r4, r5⟩ := hW.2.2 i hi
    obtain ⟨q1, q2⟩ := k.nu r1 (b2 i hi) r3
    exact ⟨r1, ⟨n, r2, r3.kp q1 q2⟩, r4.kp q1 q2, r5⟩
  have LL : ∀ i, i < lis.length → 114 ≤ lp.getD i 0 ∧ ∃ n, TX (lp.getD i 0) n (lis.getD i []) s' := fun i hi => by
    obtain ⟨r1, n, r2⟩ := hL.2.2 i hi
    obtain ⟨q1, q2⟩ := k.nu r1 (b3 i hi) r2.1
    exact ⟨r1, n, r2.kp q1 q2⟩
  have NW : NB wds wp s' := fun i hi => by
    obtain ⟨n, r1, r2⟩ := n1 i hi
    obtain ⟨q1, q2⟩ := k.nu (hW.2.2 i hi).1 (b2 i hi) r2
    exact ⟨n, r1, r2.kp q1 q2⟩
  have NI : NB lis lp s' := fun i hi => by
    obtain ⟨n, r1, r2⟩ := n2 i hi
    obtain ⟨q1, q2⟩ := k.nu (hL.2.2 i hi).1 (b3 i hi) r2
    exact ⟨n, r1, r2.kp q1 q2⟩
  have hN' := k.1
  obtain ⟨z1, z2⟩ := k.nu hp hpN qN
  have hla : (wds ++ [w]).length = wds.length + 1 := by rw [List.length_append]; rfl
  have hlb := hW.2.1
  refine ⟨⟨k.alo hS hNN (Or.inr (Or.inl rfl)) (Or.inl rfl) (by decide) hB.1, hB.2.1, BB, hB.2.2.2⟩, ⟨hAL, by rw [List.length_append, List.length_append, hlb]; rfl, fun i hi => ?_⟩, ⟨k.alo hS hNN (Or.inr (Or.inl rfl)) (Or.inr (Or.inr rfl)) (by decide) hL.1, hL.2.1, LL⟩, hS.add k hNN (Or.inr (Or.inl rfl)) hr hN2, by omega, fun i hi => by have := b1 i hi; omega, fun i hi => ?_, fun i hi => by have := b3 i hi; omega, l1, by omega, l3, fun i hi => ?_, NI⟩
  · rw [hla] at hi
    by_cases hil : i < wds.length
    · rw [getD_appL hil, getD_app1 (by omega)]; exact WW i hil
    · have : i = wds.length := by omega
      subst this
      rw [getD_appL2, show wds.length = wp.length from hlb.symm, getD_app2]
      exact ⟨hp, ⟨n, hn, qN.kp z1 z2⟩, qL.kp z1 z2, q0, q8, q9⟩
  · rw [hla] at hi
    by_cases hil : i < wds.length
    · rw [getD_app1 (by omega)]; have := b2 i hil; omega
    · have : i = wds.length := by omega
      subst this
      rw [show wds.length = wp.length from hlb.symm, getD_app2]
      omega
  · rw [hla] at hi
    by_cases hil : i < wds.length
    · rw [getD_app1 (by omega)]; exact NW i hil
    · have : i = wds.length := by omega
      subst this
      rw [show wds.length = wp.length from hlb.symm, getD_app2]
      exact ⟨n, hn243, qN.kp z1 z2⟩
theorem KST.addL (h : KST P bks wds lis bp wp lp s) (h1 : AdA s 18 A) (f : FW A s s') (hr : ri s' 18 1 = ri s 18 1 ∨ (ri s' 18 1 = nI (s.2.2.2.1 + 2) ∧ s'.2.2.2.1 = s.2.2.2.1 + 1)) (hN2 : s.2.2.2.1 + 2 < 2 ^ 31) (hp : 114 ≤ p) (hAL : AL s' 18 (lp ++ [p])) (qX : TX p n w s) (hpN : p + 2 ≤ s.2.2.2.1) (hn243 : n < 243) (hl : lis.length < 4) : KST P bks wds (lis ++ [w]) bp wp (lp ++ [p]) s' := by
  have k := addK h1 f (by decide)
  obtain ⟨hB, hW, hL, hS, hNN, b1, b2, b3, l1, l2, l3, n1, n2⟩ := h
  have BB : ∀ i, i < bks.length → 114 ≤ bp.getD i 0 ∧ Bo s' (bp.getD i 0) ∧ Bt (bks.getD i nk) (bp.getD i 0) s' ∧ Bs P (bks.getD i nk) (bp.getD i 0) s' ∧ ∀ c ∈ (bks.getD i nk).1, c.1 < 8 := fun i hi => by
    obtain ⟨r1, r2, r3, r4, r5⟩ := hB.2.2.1 i hi
    have q := k.bo r1 (b1 i hi) r2
    exact ⟨r1, r2.kp q, r3.kp q, r4.kp q, r5⟩
  have WW : ∀ i, i < wds.length → 114 ≤ wp.getD i 0 ∧ (∃ n, (wds.getD i []).length ≤ n ∧ Nu s' (wp.getD i 0) n) ∧ NL s' (wp.getD i 0) (wds.getD i []) ∧ 0 < (wds.getD i []).length ∧ (wds.getD i []).length ≤ 8 ∧ ∀ x ∈ wds.getD i [], x < 8 := fun i hi => by
    obtain ⟨r1, ⟨n, r2, r3⟩, r4, r5⟩ := hW.2.2 i hi
    obtain ⟨q1, q2⟩ := k.nu r1 (b2 i hi) r3
    exact ⟨r1, ⟨n, r2, r3.kp q1 q2⟩, r4.kp q1 q2, r5⟩
  have LL : ∀ i, i < lis.length → 114 ≤ lp.getD i 0 ∧ ∃ n, TX (lp.getD i 0) n (lis.getD i []) s' := fun i hi => by
    obtain ⟨r1, n, r2⟩ := hL.2.2 i hi
    obtain ⟨q1, q2⟩ := k.nu r1 (b3 i hi) r2.1
    exact ⟨r1, n, r2.kp q1 q2⟩
  have NW : NB wds wp s' := fun i hi => by
    obtain ⟨n, r1, r2⟩ := n1 i hi
    obtain ⟨q1, q2⟩ := k.nu (hW.2.2 i hi).1 (b2 i hi) r2
    exact ⟨n, r1, r2.kp q1 q2⟩
  have NI : NB lis lp s' := fun i hi => by
    obtain ⟨n, r1, r2⟩ := n2 i hi
    obtain ⟨q1, q2⟩ := k.nu (hL.2.2 i hi).1 (b3 i hi) r2
    exact ⟨n, r1, r2.kp q1 q2⟩
  have hN' := k.1
  obtain ⟨z1, z2⟩ := k.nu hp hpN qX.1
  have hla : (lis ++ [w]).length = lis.length + 1 := by rw [List.length_append]; rfl
  have hlb := hL.2.1
  refine ⟨⟨k.alo hS hNN (Or.inr (Or.inr rfl)) (Or.inl rfl) (by decide) hB.1, hB.2.1, BB, hB.2.2.2⟩, ⟨k.alo hS hNN (Or.inr (Or.inr rfl)) (Or.inr (Or.inl rfl)) (by decide) hW.1, hW.2.1, WW⟩, ⟨hAL, by rw [List.length_append, List.length_append, hlb]; rfl, fun i hi => ?_⟩, hS.add k hNN (Or.inr (Or.inr rfl)) hr hN2, by omega, fun i hi => by have := b1 i hi; omega, fun i hi => by have := b2 i hi; omega, fun i hi => ?_, l1, l2, by omega, NW, fun i hi => ?_⟩
  · rw [hla] at hi
    by_cases hil : i < lis.length
    · rw [getD_appL hil, getD_app1 (by omega)]; exact LL i hil
    · have : i = lis.length := by omega
      subst this
      rw [getD_appL2, show lis.length = lp.length from hlb.symm, getD_app2]
      exact ⟨hp, n, qX.kp z1 z2⟩
  · rw [hla] at hi
    by_cases hil : i < lis.length
    · rw [getD_app1 (by omega)]; have := b3 i hil; omega
    · have : i = lis.length := by omega
      subst this
      rw [show lis.length = lp.length from hlb.symm, getD_app2]
      omega
  · rw [hla] at hi
    by_cases hil : i < lis.length
    · rw [getD_app1 (by omega)]; exact NI i hil
    · have : i = lis.length := by omega
      subst this
      rw [show lis.length = lp.length from hlb.symm, getD_app2]
      exact ⟨n, hn243, qX.1.kp z1 z2⟩
end TZQ
