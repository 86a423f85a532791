/-! THE LAW: how it is kept -/
section LZ
variable {P r w pd row day left : Nat} {acts : List Act} {di : Nat → Nat} {se : List Act} {to : List (Nat × Nat)} {bks : List Bk} {wds lis : List (List Nat)} {li : Option Nat} {tp : List Nat} {ke : Option K6} {s s' : mM} {A B G : List Nat} {j : Nat} {v : Int32}
theorem MI.cf (h : MI P r w pd row day left acts di se to bks wds lis li tp ke s) (hF : Fx s) (f : Fr A s s') (hA : ∀ x ∈ A, x < 80 ∨ 113 ≤ x) : MI P r w pd row day left acts di se to bks wds lis li tp ke s' := h.kp hF (hF.fr f) (fun q h1 h2 => f.2.2 q (fun hm => by have := hA q hm; omega))
theorem MI.cl (h : MI P r w pd row day left acts di se to bks wds lis li tp ke s) (hF : Fx s) (f : FL A B s s') (hA : ∀ x ∈ A, x < 80 ∨ 113 ≤ x) : MI P r w pd row day left acts di se to bks wds lis li tp ke s' := h.kp hF (f.fx hF) (fun q h1 h2 => f.2.2.1 q (fun hm => by have := hA q hm; omega))
theorem MI.ci (h : MI P r w pd row day left acts di se to bks wds lis li tp ke s) (hF : Fx s) (f : FI A s s') (hA : ∀ x ∈ A, x < 80 ∨ 113 ≤ x) : MI P r w pd row day left acts di se to bks wds lis li tp ke s' := h.kp hF (fun p hp => by rw [f.1]; exact hF p hp) (fun q h1 h2 => f.2.2 q (fun hm => by have := hA q hm; omega))
theorem MI.lf (h : MI P r w pd row day left acts di se to bks wds lis li tp ke s) (hF : Fx s) (hF2 : Fx s') (f : LF A s s') (hA : ∀ x ∈ A, x < 80) : MI P r w pd row day left acts di se to bks wds lis li tp ke s' := h.kp hF hF2 (fun q h1 h2 => by
  by_cases hq : q < 114
  · exact f q hq (fun hm => by have := hA q hm; omega)
  · omega)
def mX : List Nat := [81, 82, 83, 85, 87, 88, 89, 90, 91, 92, 93, 94, 95, 96, 104, 105, 106, 109, 110, 111, 112]
def mF : List Nat := [6, 7, 20, 21, 28, 31, 32, 33, 34, 35, 40, 53, 58, 61, 62, 63, 64]
theorem rke.fm (h : rke ke s) (f : FM A B s s') (hA : ∀ x ∈ [111, 112], x ∉ 80 :: A) (hB : ∀ i ∈ [61, 62, 63, 64], i ∉ B) : rke ke s' := by
  cases ke with
  | none => exact (f.f (hB _ (by decide))).trans h
  | some k => exact ⟨(f.f (hB _ (by decide))).trans h.1, h.2.fm f (hA _ (by decide)) (hB _ (by decide)) (hB _ (by decide)) (hB _ (by decide)) (hA _ (by decide))⟩
theorem MI.fm (h : MI P r w pd row day left acts di se to bks wds lis li tp ke s) (f : FM A B s s') (hA : ∀ x ∈ mX, x ∉ 80 :: A) (hB : ∀ i ∈ mF, i ∉ B) (e43 : ri s' 80 43 = bI false) : MI P r w pd row day left acts di se to bks wds lis li tp ke s' := by
  obtain ⟨⟨x1, x2, x3⟩, ⟨x4, x5, x6⟩, ⟨x7, x8, x9⟩, ⟨x10, x11⟩, x12⟩ := h
  exact ⟨⟨x1.fm f (hB _ (by decide)) (hB _ (by decide)) (hB _ (by decide)) (hB _ (by decide)) (hB _ (by decide)) (hA _ (by decide)), x2.fm f (hB _ (by decide)) (hA _ (by decide)) (hA _ (by decide)) (hA _ (by decide)), x3.fm f (hA _ (by decide))⟩,
    ⟨x4.fm f (hB _ (by decide)) (hA _ (by decide)) (hA _ (by decide)) (hA _ (by decide)), x5.fm f (hB _ (by decide)) (hA _ (by decide)) (hA _ (by decide)), x6.fm f (hB _ (by decide)) (hA _ (by decide))⟩,
    ⟨x7.fm f (hB _ (by decide)) (hA _ (by decide)) (hA _ (by decide)) (hA _ (by decide)) (hA _ (by decide)), x8.fm f (hB _ (by decide)) (hA _ (by decide)) (hA _ (by decide)), x9.fm f (hB _ (by decide)) (hA _ (by decide)) (hA _ (by decide)) (hA _ (by decide))⟩,
    ⟨(f.f (hB _ (by decide))).trans x10, e43⟩, x12.fm f (fun x hx => hA x ((by decide : ∀ x ∈ [111, 112], x ∈ mX) x hx)) (fun x hx => hB x ((by decide : ∀ x ∈ [61, 62, 63, 64], x ∈ mF) x hx))⟩
theorem FM.z : FM [] [0] s (wi s 80 0 v) := FM.rf.m (by decide)
theorem MI.w0 (h : MI P r w pd row day left acts di se to bks wds lis li tp ke s) : MI P r w pd row day left acts di se to bks wds lis li tp ke (wi s 80 0 v) := h.fm FM.z (by decide) (by decide) ((ri_wi_j (by decide)).trans h.2.2.2.1.2)
theorem CI.w0 (h : CI P r w pd row day left acts di se to bks wds lis li tp ke s) : CI P r w pd row day left acts di se to bks wds lis li tp ke (wi s 80 0 v) := h.fm FM.z (fun x hx => absurd hx (List.not_mem_nil))
theorem CI.lgo (h : CI P r w pd row day left acts di se to bks wds lis li tp ke (lgo s' s)) : CI P r w pd row day left acts di se to bks wds lis li tp ke s' := by
  cases ke with
  | none => exact h
  | some x => exact h
theorem MI.lgo (h : MI P r w pd row day left acts di se to bks wds lis li tp ke (lgo s' s)) : MI P r w pd row day left acts di se to bks wds lis li tp ke s' := by
  cases ke with
  | none => exact h
  | some x => exact h
theorem LI.ok (hF : Fx s') (hro : s.2.2.2.2.1 ≤ 114 + 11 * j ∧ s.2.2.2.2.2 ≤ 90000 + 340 * j ∧ s.2.2.2.1 ≤ 114 + 8 * j) (e : s'.2.2.2 = s.2.2.2) (hwf : WF P r w pd row day left acts di se to bks wds lis li tp ke) (hC : CI P r w pd row day left acts di se to bks wds lis li tp ke s') (hM : MI P r w pd row day left acts di se to bks wds lis li tp ke s') : LI (j + 1) s' :=
  ⟨hF, ⟨by rw [e]; have := hro.1; omega, by rw [e]; have := hro.2.1; omega, by rw [e]; have := hro.2.2; omega⟩, P, r, w, pd, row, day, left, acts, di, se, to, bks, wds, lis, li, tp, ke, hwf, hC, hM⟩
theorem Fr.nx {A : List Nat} {s s' : mM} (f : Fr A s s') : s'.2.2.2 = s.2.2.2 := by rw [f.2.1]
/-- the window moved on -/
theorem CI.cW {row' day' left' : Nat} {acts' : List Act} (h : CI P r w pd row day left acts di se to bks wds lis li tp ke s) (f : Fr wA s s') (hd : day' ≤ day) (hA : CA acts' s') (hW : CW r w pd row' day' left' s') : CI P r w pd row' day' left' acts' di se to bks wds lis li tp ke s' := by
  obtain ⟨⟨a1, a2, a3, a4, a5, a6⟩, ⟨b1, b2, b3, b4, b5⟩, ⟨c1, c2, c3⟩, d1, bp, wp, lp, d2⟩ := h
  exact ⟨⟨a1.fr f (by decide), hW, hA, fun k hk => (f.ri (by decide)).trans (a4 k (by omega)), (f.ri (by decide)).trans a5, (f.ri (by decide)).trans a6⟩,
    ⟨b1.fr f (by decide), b2.fr f (by decide), b3.fr f (by decide) (by decide), b4.lf f.lf (by decide), b5.fr f (f.ri (by decide)) (by decide)⟩, ⟨c1.fr f (by decide), c2.fr f (by decide) (by decide), c3.fr f (by decide) (by decide)⟩, d1.fr f (f.ri (by decide)) (by decide) (by decide), bp, wp, lp, d2.fr f (by decide) (by decide)⟩
theorem MI.cW {row' day' left' : Nat} {acts' : List Act} (h : MI P r w pd row day left acts di se to bks wds lis li tp ke s) (f : FM mAa (34 :: mAb) s s') (hd : day' ≤ day) (hA : MA acts' s') (hW : MW P r w pd row' day' left' s') : MI P r w pd row' day' left' acts' di se to bks wds lis li tp ke s' := by
  obtain ⟨⟨x1, x2, x3⟩, ⟨x4, x5, x6⟩, ⟨x7, x8, x9⟩, ⟨x10, x11⟩, x12⟩ := h
  exact ⟨⟨hW, hA, fun k hk => (f.g (by decide)).trans (x3 k (by omega))⟩, ⟨x4.fm f (by decide) (by decide) (by decide) (by decide), x5.fm f (by decide) (by decide) (by decide), x6.fm f (by decide) (by decide)⟩,
    ⟨x7.fm f (by decide) (by decide) (by decide) (by decide) (by decide), x8.fm f (by decide) (by decide) (by decide), x9.fm f (by decide) (by decide) (by decide) (by decide)⟩, ⟨(f.f (by decide)).trans x10, (f.f (by decide)).trans x11⟩, x12.fm f (by decide) (by decide)⟩
theorem MLi.f81 (h : MLi lis s) (f : FM [81] [0, 6] s s') : MLi lis s' := ⟨(f.f (by decide)).trans h.1, h.2.1, fun n hn => by
  obtain ⟨e1, ⟨q4, q5, q6⟩, e3⟩ := h.2.2 n hn
  exact ⟨(f.g (by decide)).trans e1, ⟨fun k hk => (f.g (by decide)).trans (q4 k hk), by rw [f.1.1]; exact q5, q6⟩, e3⟩⟩
/-- the tape -/
theorem CI.tpe {tp' : List Nat} (h : CI P r w pd row day left acts di se to bks wds lis li tp ke s) (f : Fr [1, 2] s s') (hL : NL s' 1 tp') : CI P r w pd row day left acts di se to bks wds lis li tp' ke s' := by
  obtain ⟨⟨a1, a2, a3, a4, a5, a6⟩, ⟨b1, b2, b3, b4, b5⟩, ⟨c1, c2, c3⟩, d1, bp, wp, lp, d2⟩ := h
  exact ⟨⟨a1.fr f (by decide), a2.fr f (by decide), a3.fr f (by decide), fun k hk => (f.ri (by decide)).trans (a4 k hk), (f.ri (by decide)).trans a5, (f.ri (by decide)).trans a6⟩,
    ⟨b1.fr f (by decide), b2.fr f (by decide), hL, b4.lf f.lf (by decide), b5.fr f (f.ri (by decide)) (by decide)⟩, ⟨c1.fr f (by decide), c2.fr f (by decide) (by decide), c3.fr f (by decide) (by decide)⟩, d1.fr f (f.ri (by decide)) (by decide) (by decide), bp, wp, lp, d2.fr f (by decide) (by decide)⟩
theorem MI.tpe {tp' : List Nat} (h : MI P r w pd row day left acts di se to bks wds lis li tp ke s) (f : FM [81] [0, 6] s s') (hL : MTp tp' s') : MI P r w pd row day left acts di se to bks wds lis li tp' ke s' := by
  obtain ⟨⟨x1, x2, x3⟩, ⟨x4, x5, x6⟩, ⟨x7, x8, x9⟩, ⟨x10, x11⟩, x12⟩ := h
  exact ⟨⟨x1.fm f (by decide) (by decide) (by decide) (by decide) (by decide) (by decide), x2.fm f (by decide) (by decide) (by decide) (by decide), x3.fm f (by decide)⟩, ⟨x4.fm f (by decide) (by decide) (by decide) (by decide), x5.fm f (by decide) (by decide) (by decide), hL⟩,
    ⟨x7.fm f (by decide) (by decide) (by decide) (by decide) (by decide), x8.fm f (by decide) (by decide) (by decide), x9.f81 f⟩, ⟨(f.f (by decide)).trans x10, (f.f (by decide)).trans x11⟩, x12.fm f (by decide) (by decide)⟩
end LZ
