/-! THE LAW: what holds between its rounds -/
abbrev K6 : Type := Nat × Nat × Nat × Nat × Nat × (Nat → Nat)
/-- the image of the class -/
def kef (ke : Option K6) (pd : Nat) (s : mM) : Prop := match ke with
  | none => ri s 0 16 = nI 0
  | some k => ri s 0 16 = nI 1 ∧ CKe k.1 k.2.1 pd k.2.2.1 k.2.2.2.1 k.2.2.2.2.1 k.2.2.2.2.2 s
/-- the image of the reference -/
def rke (ke : Option K6) (s : mM) : Prop := match ke with
  | none => ri s 80 64 = nI 0
  | some k => ri s 80 64 = nI 1 ∧ MKe k.1 k.2.1 k.2.2.1 k.2.2.2.1 k.2.2.2.2.1 k.2.2.2.2.2 s
def liI (li : Option Nat) : Int32 := match li with
  | none => -1
  | some l => nI l
/-- the class -/
def CI (P r w pd row day left : Nat) (acts : List Act) (di : Nat → Nat) (se : List Act) (to : List (Nat × Nat)) (bks : List Bk) (wds lis : List (List Nat)) (li : Option Nat) (tp : List Nat) (ke : Option K6) (s : mM) : Prop := (CR P s ∧ CW r w pd row day left s ∧ CA acts s ∧ CD 34 day di s ∧ ri s 33 1 = nI 0 ∧ ri s 42 1 = nI 0) ∧ (CS se s ∧ CTo to s ∧ NL s 1 tp ∧ Dft s ∧ HdN (li.map fun l => lis.getD l []) s) ∧ (CQ s ∧ KP P r w s ∧ CZ s) ∧ kef ke pd s ∧ ∃ bp wp lp, KST P bks wds lis bp wp lp s
/-- the reference -/
def MI (P r w pd row day left : Nat) (acts : List Act) (di : Nat → Nat) (se : List Act) (to : List (Nat × Nat)) (bks : List Bk) (wds lis : List (List Nat)) (li : Option Nat) (tp : List Nat) (ke : Option K6) (s : mM) : Prop := (MW P r w pd row day left s ∧ MA acts s ∧ CD 93 day di s) ∧ (MSe se s ∧ MTo to s ∧ MTp tp s) ∧ (MB bks s ∧ MWl wds s ∧ MLi lis s) ∧ (ri s 80 32 = liI li ∧ ri s 80 43 = bI false) ∧ rke ke s
def aOK (P r w day : Nat) (a : Act) : Prop := (0 < P → std P r w a.1 = true) ∧ (P = 0 → a.1 = 0) ∧ a.2.1 ≤ day ∧ a.2.2 ≤ 5
def kOK (P : Nat) (k : K6) : Prop := 0 < P ∧ k.1 ≤ 5 ∧ k.2.1 ≤ 5 ∧ std P k.1 k.2.1 k.2.2.1 = true ∧ k.2.2.2.1 ≤ 60 ∧ k.2.2.2.2.1 ≤ 5 ∧ ∀ n, n < k.2.2.2.1 → k.2.2.2.2.2 n < mn P
/-- all is in its bounds -/
def WF (P r w pd row day left : Nat) (acts : List Act) (di : Nat → Nat) (se : List Act) (to : List (Nat × Nat)) (bks : List Bk) (wds lis : List (List Nat)) (li : Option Nat) (tp : List Nat) (ke : Option K6) : Prop := ((P = 0 ∨ 2 ≤ P) ∧ P ≤ 5 ∧ r ≤ 5 ∧ w ≤ 5 ∧ pd ≤ 5 ∧ left ≤ 5 ∧ day ≤ 60 ∧ (0 < P → std P r w row = true) ∧ (P = 0 → row = 0)) ∧ ((∀ a ∈ acts, aOK P r w day a) ∧ acts.Pairwise (fun a b => a.2.1 ≤ b.2.1) ∧ ∀ n, n < day → di n < mn P) ∧ ((∀ t ∈ se, t.1 ≤ 6 ∧ t.2.1 < P ∧ t.2.2 < 3) ∧ ∀ t ∈ to, t.1 < mn P ∧ t.2 < 8) ∧ ((∀ l, li = some l → l < lis.length) ∧ tp.length ≤ 120 ∧ isB tp) ∧ ∀ k, ke = some k → kOK P k
def LI (j : Nat) (s : mM) : Prop := Fx s ∧ (s.2.2.2.2.1 ≤ 114 + 11 * j ∧ s.2.2.2.2.2 ≤ 90000 + 340 * j ∧ s.2.2.2.1 ≤ 114 + 8 * j) ∧ ∃ P r w pd row day left acts di se to bks wds lis li tp ke, WF P r w pd row day left acts di se to bks wds lis li tp ke ∧ CI P r w pd row day left acts di se to bks wds lis li tp ke s ∧ MI P r w pd row day left acts di se to bks wds lis li tp ke s
section LAW
variable {P r w pd row day left : Nat} {acts : List Act} {di : Nat → Nat} {se : List Act} {to : List (Nat × Nat)} {bks : List Bk} {wds lis : List (List Nat)} {li : Option Nat} {tp : List Nat} {ke : Option K6} {s s' : mM} {A B G : List Nat}
theorem MI.kp (h : MI P r w pd row day left acts di se to bks wds lis li tp ke s) (hF : Fx s) (hF2 : Fx s') (k : ∀ q, 80 ≤ q → q < 113 → s'.2.1 q = s.2.1 q) : MI P r w pd row day left acts di se to bks wds lis li tp ke s' := by
  have e : ((fun q => if 80 ≤ q ∧ q < 113 then s'.1 q else s.1 q), (fun q => if 80 ≤ q ∧ q < 113 then s'.2.1 q else s.2.1 q), s.2.2) = s := by
    have h1 : (fun q => if 80 ≤ q ∧ q < 113 then s'.2.1 q else s.2.1 q) = s.2.1 := by
      funext q
      by_cases hq : 80 ≤ q ∧ q < 113
      · rw [if_pos hq]; exact k q hq.1 hq.2
      · rw [if_neg hq]
    have h2 : (fun q => if 80 ≤ q ∧ q < 113 then s'.1 q else s.1 q) = s.1 := by
      funext q
      by_cases hq : 80 ≤ q ∧ q < 113
      · rw [if_pos hq, hF q (by omega), hF2 q (by omega)]
      · rw [if_neg hq]
    rw [h1, h2]
  have g : MI P r w pd row day left acts di se to bks wds lis li tp ke ((fun q => if 80 ≤ q ∧ q < 113 then s'.1 q else s.1 q), (fun q => if 80 ≤ q ∧ q < 113 then s'.2.1 q else s.2.1 q), s.2.2) := by rw [e]; exact h
  clear e
  cases ke with
  | none => exact g
  | some x => exact g
theorem CI.cr (h : CI P r w pd row day left acts di se to bks wds lis li tp ke s) : CR P s := h.1.1
theorem kef.fr (h : kef ke pd s) (f : Fr A s s') (h0 : ri s' 0 16 = ri s 0 16) (h1 : 41 ∉ A) (h2 : 43 ∉ A) : kef ke pd s' := by
  cases ke with
  | none => exact h0.trans h
  | some k =>
    obtain ⟨a, b1, b2, b3, b4, b5, b6, b7⟩ := h
    exact ⟨h0.trans a, (f.ri h1).trans b1, (f.ri h1).trans b2, (f.ri h1).trans b3, (f.ri h1).trans b4, (f.ri h1).trans b5, (f.ri h1).trans b6, fun k hk => (f.ri h2).trans (b7 k hk)⟩
/-- what the class reads is kept -/
def cX : List Nat := [0, 1, 2, 6, 7, 8, 13, 14, 16, 17, 18, 33, 34, 41, 42, 43] ++ rA ++ wA ++ eA ++ [76, 77, 78, 79]
theorem CI.cA (h : CI P r w pd row day left acts di se to bks wds lis li tp ke s) (f : Fr A s s') (hA : ∀ x ∈ A, x < 114) (hX : ∀ x ∈ cX, x ∉ A) (hQ : CQ s') (hK : KP P r w s') (hZ : CZ s') : CI P r w pd row day left acts di se to bks wds lis li tp ke s' := by
  obtain ⟨⟨a1, a2, a3, a4, a5, a6⟩, ⟨b1, b2, b3, b4, b5⟩, _, d1, bp, wp, lp, d2⟩ := h
  have m : ∀ l : List Nat, (∀ x ∈ l, x ∈ cX) → ∀ x ∈ l, x ∉ A := fun l hl x hx => hX x (hl x hx)
  exact ⟨⟨a1.fr f (m _ (by decide)), a2.fr f (hX _ (by decide)), a3.fr f (m _ (by decide)), fun k hk => (f.ri (hX _ (by decide))).trans (a4 k hk), (f.ri (hX _ (by decide))).trans a5, (f.ri (hX _ (by decide))).trans a6⟩,
    ⟨b1.fr f (m _ (by decide)), b2.fr f (m _ (by decide)), b3.fr f (hX _ (by decide)) (hX _ (by decide)), b4.lf f.lf ⟨hX _ (by decide), hX _ (by decide), hX _ (by decide), hX _ (by decide), hX _ (by decide)⟩, b5.fr f (f.ri (hX _ (by decide))) hA⟩, ⟨hQ, hK, hZ⟩, d1.fr f (f.ri (hX _ (by decide))) (hX _ (by decide)) (hX _ (by decide)), bp, wp, lp, d2.fr f ⟨hX _ (by decide), hX _ (by decide), hX _ (by decide)⟩ hA⟩
theorem CI.fr (h : CI P r w pd row day left acts di se to bks wds lis li tp ke s) (f : Fr A s s') (hA : ∀ x ∈ A, 80 ≤ x ∧ x < 114) : CI P r w pd row day left acts di se to bks wds lis li tp ke s' := by
  have n : ∀ x, x < 80 → x ∉ A := fun x hx hm => by have := (hA x hm).1; omega
  exact h.cA f (fun x hx => (hA x hx).2) (fun x hx => n x ((by decide : ∀ x ∈ cX, x < 80) x hx)) (h.2.2.1.1.fr f (n _ (by decide))) (h.2.2.1.2.1.fr f (n _ (by decide)) (n _ (by decide))) (h.2.2.1.2.2.fr f (n _ (by decide)) (n _ (by decide)))
theorem CI.fm (h : CI P r w pd row day left acts di se to bks wds lis li tp ke s) (f : FM A B s s') (hA : ∀ x ∈ A, 80 ≤ x ∧ x < 114) : CI P r w pd row day left acts di se to bks wds lis li tp ke s' := h.fr f.1 (fun x hx => by
  rcases List.mem_cons.mp hx with g | g
  · subst g; exact ⟨by decide, by decide⟩
  · exact hA x g)
/-- longs aside -/
theorem CI.lg (h : CI P r w pd row day left acts di se to bks wds lis li tp ke (lgo s' s)) (e1 : s'.1 = s.1) (e2 : s'.2.2.2 = s.2.2.2) : True := trivial
theorem LI.up {j : Nat} (h : LI j s) : LI (j + 1) s := ⟨h.1, ⟨by have := h.2.1.1; omega, by have := h.2.1.2.1; omega, by have := h.2.1.2.2; omega⟩, h.2.2⟩
end LAW
