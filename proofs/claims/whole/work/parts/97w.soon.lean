/-! PLANS, 3: evenings, purely; bits of ints -/
theorem nI_or {x y : Nat} (hx : x < 2 ^ 32) (hy : y < 2 ^ 32) : nI x ||| nI y = nI (x ||| y) := by
  apply Int32.toBitVec_inj.mp
  rw [Int32.toBitVec_or]
  apply BitVec.eq_of_toNat_eq
  rw [BitVec.toNat_or, pk_tn hx, pk_tn hy, pk_tn (Nat.or_lt_two_pow hx hy)]
theorem nI_and {x y : Nat} (hx : x < 2 ^ 32) (hy : y < 2 ^ 32) : nI x &&& nI y = nI (x &&& y) := by
  apply Int32.toBitVec_inj.mp
  rw [Int32.toBitVec_and]
  apply BitVec.eq_of_toNat_eq
  rw [BitVec.toNat_and, pk_tn hx, pk_tn hy, pk_tn (Nat.and_lt_two_pow _ hy)]
theorem shl1 : ∀ i, i < 31 → nI 1 <<< (nI i &&& 31) = nI (2 ^ i) := by decide +kernel
theorem and_pow {B i : Nat} : B &&& 2 ^ i = 0 ↔ B.testBit i = false := by
  constructor
  · intro h
    have h2 : (B &&& 2 ^ i).testBit i = (0 : Nat).testBit i := by rw [h]
    rw [Nat.testBit_and, Nat.testBit_two_pow, Nat.zero_testBit] at h2
    simpa using h2
  · intro h
    apply Nat.eq_of_testBit_eq
    intro k
    rw [Nat.testBit_and, Nat.testBit_two_pow, Nat.zero_testBit]
    by_cases hk : i = k
    · subst hk; rw [h]; rfl
    · simp [hk]
/-- what letters may have been said behind an evening that says x -/
def gob (B : Nat) (x : Int32) (l : List Nat) : Nat → Nat
  | 0 => 0
  | i + 1 => if nI (l.getD i 0) = x ∧ B.testBit i = true then gob B x l i ||| 2 ^ (i + 1) else gob B x l i
def gon (B : Nat) (x : Int32) (l : List Nat) : Nat := if x = -1 then B else gob B x l l.length
theorem gob_lt {B : Nat} {x : Int32} {l : List Nat} (n : Nat) : gob B x l n < 2 ^ (n + 1) := by
  induction n with
  | zero => exact (by decide : 0 < 2)
  | succ n ih =>
    have h1 : gob B x l n < 2 ^ (n + 1 + 1) := Nat.lt_trans ih (Nat.pow_lt_pow_right (by decide) (by omega))
    unfold gob
    split
    · exact Nat.or_lt_two_pow h1 (Nat.pow_lt_pow_right (by decide) (by omega))
    · exact h1
theorem gob_bit {B : Nat} {x : Int32} {l : List Nat} {k : Nat} : ∀ n, (gob B x l n).testBit k = true ↔ ∃ j, k = j + 1 ∧ j < n ∧ nI (l.getD j 0) = x ∧ B.testBit j = true := by
  intro n
  induction n with
  | zero => simp [gob]
  | succ n ih =>
    unfold gob
    split
    · rename_i h
      rw [Nat.testBit_or, Bool.or_eq_true, ih, Nat.testBit_two_pow, decide_eq_true_eq]
      constructor
      · rintro (⟨j, h1, h2, h3⟩ | h1)
        · exact ⟨j, h1, by omega, h3⟩
        · exact ⟨n, h1.symm, by omega, h⟩
      · rintro ⟨j, h1, h2, h3⟩
        by_cases h4 : j = n
        · subst h4; exact Or.inr h1.symm
        · exact Or.inl ⟨j, h1, by omega, h3⟩
    · rename_i h
      rw [ih]
      constructor
      · rintro ⟨j, h1, h2, h3⟩; exact ⟨j, h1, by omega, h3⟩
      · rintro ⟨j, h1, h2, h3⟩
        by_cases h4 : j = n
        · subst h4; exact absurd h3 h
        · exact ⟨j, h1, by omega, h3⟩
theorem gon_lt {B m : Nat} {x : Int32} {l : List Nat} (hB : B < 2 ^ (l.length + 1)) : gon B x l < 2 ^ (l.length + 1) := by
  unfold gon
  split
  · exact hB
  · exact gob_lt _
/-- within days: k letters said, at a -/
def sr (P r w row left pd : Nat) (b : Bk) (l : List Nat) : Nat → Nat → Nat → Prop
  | 0, k, a => k = 0 ∧ a = row
  | n + 1, k, a => ∃ c j, sr P r w row left pd b l n j c ∧ lv (aj P r w (fun _ _ => true)) c (if n = 0 then left else pd) a ∧ ((sy P b a = -1 ∧ k = j) ∨ (¬ sy P b a = -1 ∧ k = j + 1 ∧ j < l.length ∧ nI (l.getD j 0) = sy P b a))
section SR
variable {P r w row left pd : Nat} {b : Bk} {l : List Nat}
theorem sr_std (h : std P r w row = true) : ∀ n k a, sr P r w row left pd b l n k a → std P r w a = true := by
  intro n
  induction n with
  | zero => intro k a h2; rw [h2.2]; exact h
  | succ n ih =>
    intro k a h2
    obtain ⟨c, j, h3, h4, -⟩ := h2
    exact lv_std (ih j c h3) h4
/-- nothing new once: nothing new ever -/
theorem sr_same {n : Nat} (hn : 1 ≤ n) (h : ∀ k a, sr P r w row left pd b l (n + 1) k a ↔ sr P r w row left pd b l n k a) : ∀ m k a, sr P r w row left pd b l (n + m) k a ↔ sr P r w row left pd b l n k a := by
  intro m
  induction m with
  | zero => intro k a; exact Iff.rfl
  | succ m ih =>
    intro k a
    rw [← h k a]
    have e1 : (if n + m = 0 then left else pd) = (if n = 0 then left else pd) := by rw [if_neg (by omega), if_neg (by omega)]
    constructor
    · rintro ⟨c, j, h3, h4⟩
      exact ⟨c, j, (ih j c).mp h3, e1 ▸ h4⟩
    · rintro ⟨c, j, h3, h4⟩
      exact ⟨c, j, (ih j c).mpr h3, e1.symm ▸ h4⟩
/-- the answer -/
def Soon (P r w row left pd : Nat) (b : Bk) (l : List Nat) (v : Int32) : Prop :=
  (∃ n, 1 ≤ n ∧ n ≤ 60 ∧ (∃ a, a < mn P ∧ sr P r w row left pd b l n l.length a) ∧ (∀ m, m < n → ¬ ∃ a, sr P r w row left pd b l m l.length a) ∧ v = nI n) ∨ ((∀ m, m ≤ 60 → ¬ ∃ a, sr P r w row left pd b l m l.length a) ∧ v = -1)
theorem Soon_one {v v' : Int32} (h : Soon P r w row left pd b l v) (h' : Soon P r w row left pd b l v') : v = v' := by
  rcases h with ⟨n, h1, h2, ⟨a, -, h3⟩, h4, rfl⟩ | ⟨h1, rfl⟩
  · rcases h' with ⟨m, g1, g2, ⟨x, -, g3⟩, g4, rfl⟩ | ⟨g1, rfl⟩
    · rcases Nat.lt_trichotomy n m with h5 | h5 | h5
      · exact absurd ⟨a, h3⟩ (g4 n h5)
      · rw [h5]
      · exact absurd ⟨x, g3⟩ (h4 m h5)
    · exact absurd ⟨a, h3⟩ (g1 n h2)
  · rcases h' with ⟨m, g1, g2, ⟨x, -, g3⟩, g4, rfl⟩ | ⟨g1, rfl⟩
    · exact absurd ⟨x, g3⟩ (h1 m g2)
    · rfl
end SR
