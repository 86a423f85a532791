/-! THE FACE: a sill kept -/
def sA : List Nat := [0] ++ rA ++ wA ++ [58] ++ eA ++ [76, 78]
section TZS
variable {X : am_X} {d P P0 N wd : Nat} {s : mM} {hp : am_H} {Q : Option Value → am_H → Prop} {bks : List Bk} {wds lis : List (List Nat)} {bp wp lp w t : List Nat} {acts se : List Act} {to : List (Nat × Nat)} {x : Option Nat × Option Nat × Option Nat}
theorem mp6 {bp : List Nat} {q : Nat} (h : q ∈ bp.map (· + 6)) : ∃ k, k < bp.length ∧ q = bp.getD k 0 + 6 := by
  obtain ⟨b, hb, e⟩ := List.mem_map.mp h
  obtain ⟨k, hk, hk2⟩ := List.getElem_of_mem hb
  exact ⟨k, hk, by rw [List.getD, List.getElem?_eq_getElem hk, ← e, ← hk2]; rfl⟩
theorem Nu.sh2 {s : mM} {p q n m : Nat} (h1 : Nu s p n) (h2 : Nu s q m) (hnm : n ≠ m) : p ≠ q ∧ p + 1 ≠ q + 1 ∧ p ≠ q + 1 ∧ p + 1 ≠ q := by
  have a1 := h1.1
  have a2 := h1.2.1
  have b1 := h2.1
  have b2 := h2.2.1
  refine ⟨fun e => ?_, fun e => ?_, fun e => ?_, fun e => ?_⟩
  · subst e; rw [a2] at b2; cases b2; exact hnm rfl
  · have e : p = q := by omega
    subst e; rw [a2] at b2; cases b2; exact hnm rfl
  · rw [← e, a1] at b2; cases b2
  · rw [e, b1] at a2; cases a2
theorem c128 (hF : Fx s) (hP2 : 2 ≤ P) (hP5 : P ≤ 5) (p4 : ri s 3 4 = nI P) (p5 : ri s 3 5 = oI x.1) (p6 : ri s 3 6 = oI x.2.1) (p7 : ri s 3 7 = oI x.2.2) (hb : bd5 x) (hA : CA acts s) (hS : CS se s) (hT : CTo to s) (hK : KST P0 bks wds lis bp wp lp s)
    (hq : ∀ s', Fx s' → Fr sA s (loM s' s) → s'.2.2.2 = s.2.2.2 → CR P s' → CW (dv2 x.1) (dv2 x.2.1) (dv2 x.2.2) 0 0 (dv2 x.2.2) s' → CA [] s' → CS [] s' → (∀ a, a < 243 → ri s' 58 a = nI 0) → CTo [] s' → ri s' 0 15 = nI 0 → ri s' 0 16 = nI 0 → KST P bks wds lis bp wp lp s' → Q (some (.int (nI P))) (mR s')) : gE X (d + 5) 128 [.ref 0] (mR s) Q := by
  have l12 := hT.2.2
  refine c128a hF hP2 hP5 p4 p5 p6 p7 hb hA hS hT.1 (by rw [List.length_map]; omega) hT.2.1 (by rw [List.length_map]; omega) (fun s1 hF1 f1 hR1 hW1 hA1 hS1 z1 n1 n2 => ?_)
  have sAl : ∀ y ∈ sA, y < 114 := by decide
  have f2 : Fr [0] s1 (wi (wi s1 0 15 (nI 0)) 0 16 (nI 0)) := (Fr.rf.wi (List.mem_singleton.mpr rfl)).wi (List.mem_singleton.mpr rfl)
  have f3 : Fr sA s (wi (wi s1 0 15 (nI 0)) 0 16 (nI 0)) := Fr.tr f1 (f2.mono (by decide))
  have e15 : ri (wi (wi s1 0 15 (nI 0)) 0 16 (nI 0)) 0 15 = nI 0 := by rw [ri_wi_j (by decide), ri_wi, if_pos ⟨rfl, rfl⟩]
  have e16 : ri (wi (wi s1 0 15 (nI 0)) 0 16 (nI 0)) 0 16 = nI 0 := by rw [ri_wi, if_pos ⟨rfl, rfl⟩]
  generalize wi (wi s1 0 15 (nI 0)) 0 16 (nI 0) = s2 at f2 f3 e15 e16 ⊢
  have hK2 := hK.fr f3 (by decide) sAl
  have hF2 := hF1.fr f2
  have hR2 := hR1.fr f2 (by decide)
  obtain ⟨hB, hW, hL, hSE, hNN, b1, b2, b3, l1, l2, l3, nb1, nb2⟩ := hK2
  refine c128b hF2 hR2 hB.1 hB.2.1 l1 (fun k hk => ⟨(hB.2.2.1 k hk).1, (hB.2.2.1 k hk).2.1, (hB.2.2.1 k hk).2.2.1⟩) hB.2.2.2 (fun s3 f4 hBs => ?_)
  have hlb := hB.2.1
  have big : ∀ q ∈ bp.map (· + 6), 120 ≤ q ∧ s2.1 q ≠ rE ∧ ∀ a n, Nu s2 a n → n < 243 → q ≠ a ∧ q ≠ a + 1 := fun q hq => by
    obtain ⟨k, hk, e⟩ := mp6 hq
    obtain ⟨r1, r2, _⟩ := hB.2.2.1 k (by omega)
    refine ⟨by omega, by rw [e]; exact r2.ne _ (by omega) (by omega), fun a n hn h243 => ?_⟩
    obtain ⟨z1, z2, z3, z4⟩ := hn.sh2 r2.2.2.2 (by omega)
    omega
  have ns : ∀ q, q < 114 → q ∉ bp.map (· + 6) := fun q hq h => by have := (big q h).1; omega
  have nl : ∀ l : List Nat, (∀ y ∈ l, y < 114) → ∀ y ∈ l, y ∉ bp.map (· + 6) := fun l hl y hy => ns y (hl y hy)
  have kp : ∀ q, q ∉ bp.map (· + 6) → Kp s2 s3 q := fun q hq => ⟨by rw [f4.1], f4.2.2 q hq⟩
  have ka : ∀ a ps, a < 114 → AL s2 a ps → AL s3 a ps := fun a ps ha h => h.kp (kp a (ns a ha)) (fun e _ he _ _ => kp e (fun hm => (big e hm).2.1 he))
  have kn : ∀ {a n}, Nu s2 a n → n < 243 → Kp s2 s3 a ∧ Kp s2 s3 (a + 1) := fun {a n} hn h => ⟨kp _ (fun hm => ((big _ hm).2.2 a n hn h).1 rfl), kp _ (fun hm => ((big _ hm).2.2 a n hn h).2 rfl)⟩
  have nx : s3.2.2.2.1 = s2.2.2.2.1 := by rw [f4.2.1]
  refine hq s3 (hF2.fr f4) ?_ (by rw [f4.2.1, f3.2.1]) (hR2.fr f4 (nl _ (by decide))) ((hW1.fr f2 (by decide)).fr f4 (ns _ (by decide))) ((hA1.fr f2 (by decide)).fr f4 (nl _ (by decide))) ((hS1.fr f2 (by decide)).fr f4 (nl _ (by decide))) (fun a ha => (f4.ri (ns _ (by decide))).trans ((f2.ri (by decide)).trans (z1 a ha))) ⟨(n1.fr f2 (by decide) (by decide)).fr f4 (ns _ (by decide)) (ns _ (by decide)), (n2.fr f2 (by decide) (by decide)).fr f4 (ns _ (by decide)) (ns _ (by decide)), Nat.zero_le _⟩ ((f4.ri (ns _ (by decide))).trans e15) ((f4.ri (ns _ (by decide))).trans e16) ?_
  · exact f3.fw.lo2 f4.fw (fun q hq _ => hq) (fun q hq h => absurd hq (ns q h))
  · refine ⟨⟨ka _ _ (by decide) hB.1, hB.2.1, fun i hi => ?_, hB.2.2.2⟩, ⟨ka _ _ (by decide) hW.1, hW.2.1, fun i hi => ?_⟩, ⟨ka _ _ (by decide) hL.1, hL.2.1, fun i hi => ?_⟩, ?_, by rw [nx]; exact hNN, fun i hi => by have := b1 i hi; omega, fun i hi => by have := b2 i hi; omega, fun i hi => by have := b3 i hi; omega, l1, l2, l3, fun i hi => ?_, fun i hi => ?_⟩
    · obtain ⟨r1, r2, r3, r4, r5⟩ := hB.2.2.1 i hi
      have nn : ∀ j, j < 6 → bp.getD i 0 + j ∉ bp.map (· + 6) := fun j hj hm => by
        obtain ⟨k, hk, e⟩ := mp6 hm
        rcases Nat.lt_trichotomy k i with h | h | h
        · have := hB.2.2.2 k i h hi; omega
        · subst h; omega
        · have := hB.2.2.2 i k h (by omega); omega
      exact ⟨r1, r2.fr f4, r3.fr f4 (nn 0 (by decide)) (nn 1 (by decide)) (nn 2 (by decide)) (nn 4 (by decide)), hBs i hi, r5⟩
    · obtain ⟨r1, r2, r4, r5⟩ := hW.2.2 i hi
      obtain ⟨n, r6, r7⟩ := nb1 i hi
      obtain ⟨q1, q2⟩ := kn r7 r6
      obtain ⟨n2, r8, r9⟩ := r2
      exact ⟨r1, ⟨n2, r8, r9.kp q1 q2⟩, r4.kp q1 q2, r5⟩
    · obtain ⟨r1, n, r2⟩ := hL.2.2 i hi
      obtain ⟨n2, r6, r7⟩ := nb2 i hi
      obtain ⟨q1, q2⟩ := kn r7 r6
      exact ⟨r1, n, r2.kp q1 q2⟩
    · have kk : ∀ a, (a = 16 ∨ a = 17 ∨ a = 18) → ri s3 a 1 = ri s2 a 1 := fun a ha => (kp a (ns a (by omega))).ri
      refine ⟨fun a b ha hb hne h => ?_, fun a ha => ?_⟩
      · rw [kk a ha, kk b hb] at h
        rw [kk a ha]
        exact hSE.1 a b ha hb hne h
      · rw [kk a ha, nx]
        exact hSE.2 a ha
    · obtain ⟨n, r6, r7⟩ := nb1 i hi
      obtain ⟨q1, q2⟩ := kn r7 r6
      exact ⟨n, r6, r7.kp q1 q2⟩
    · obtain ⟨n, r6, r7⟩ := nb2 i hi
      obtain ⟨q1, q2⟩ := kn r7 r6
      exact ⟨n, r6, r7.kp q1 q2⟩
end TZS
