/-! THE FACE, 2: books and words by number; rows told -/
def cdO (P : Nat) (x : Int32) : Option Nat := if x < 0 then none else cd P x.toNatClampNeg
theorem cdI_cdO {P : Nat} {x : Int32} : cdI P x = coI (cdO P x) := by
  unfold cdI cdO
  split <;> rfl
theorem cdu_lt {P : Nat} : ∀ (m v a c : Nat), m ≤ P → (∀ z, z < 3 ^ m → a + z * 3 ^ (P - m) < 3 ^ P) → cdu P m v a = some c → c < 3 ^ P := by
  intro m
  induction m with
  | zero =>
    intro v a c _ h h2
    unfold cdu at h2
    split at h2
    · cases h2
      have := h 0 (by decide)
      omega
    · cases h2
  | succ m ih =>
    intro v a c hm h h2
    unfold cdu at h2
    split at h2
    · cases h2
    · rename_i h3
      refine ih _ _ c (by omega) (fun z hz => ?_) h2
      have h4 := h (v / 1 % 1 + z * 3 + v % 10) (by rw [Nat.pow_succ]; have : v / 1 % 1 = 0 := Nat.mod_one _; omega)
      have h5 : v / 1 % 1 = 0 := Nat.mod_one _
      rw [h5, Nat.zero_add] at h4
      unfold wt
      have e : P - m = P - (m + 1) + 1 := by omega
      have e2 : P - 1 - m = P - (m + 1) := by omega
      rw [e2, e, Nat.pow_succ]
      have : (z * 3 + v % 10) * 3 ^ (P - (m + 1)) = z * 3 * 3 ^ (P - (m + 1)) + v % 10 * 3 ^ (P - (m + 1)) := Nat.add_mul ..
      have e3 : z * (3 ^ (P - (m + 1)) * 3) = z * 3 * 3 ^ (P - (m + 1)) := by rw [Nat.mul_assoc, Nat.mul_comm 3]
      rw [e3]
      omega
theorem cd_lt {P v c : Nat} (h : cd P v = some c) : c < mn P := by
  unfold cd at h
  split at h
  · cases h
  · rename_i h0
    unfold mn
    rw [if_neg h0]
    exact cdu_lt P v 0 c (Nat.le_refl _) (fun z hz => by rw [Nat.sub_self]; simpa using hz) h
theorem cdO_lt {P c : Nat} {x : Int32} (h : cdO P x = some c) : c < mn P := by
  unfold cdO at h
  split at h
  · cases h
  · exact cd_lt h
abbrev nk : Bk := ([], 0)
def bG (P : Nat) (bks : List Bk) (x : Int32) : Option Bk := if (decide (0 < P) && inN bks.length x) = true then some (bks.getD x.toNatClampNeg nk) else none
def wG (wds : List (List Nat)) (x : Int32) : Option (List Nat) := if inN wds.length x = true then some (wds.getD x.toNatClampNeg []) else none
def CBk (P : Nat) (bks : List Bk) (bp : List Nat) (s : mM) : Prop := AL s 16 bp ∧ bp.length = bks.length ∧ (∀ k, k < bks.length → 114 ≤ bp.getD k 0 ∧ Bo s (bp.getD k 0) ∧ Bt (bks.getD k nk) (bp.getD k 0) s ∧ Bs P (bks.getD k nk) (bp.getD k 0) s ∧ ∀ c ∈ (bks.getD k nk).1, c.1 < 8) ∧ ∀ i j, i < j → j < bks.length → bp.getD i 0 + 7 ≤ bp.getD j 0
theorem CBk.fr {A : List Nat} {P : Nat} {bks : List Bk} {bp : List Nat} {s s' : mM} (h : CBk P bks bp s) (f : Fr A s s') (h1 : 16 ∉ A) (hA : ∀ x ∈ A, x < 114) : CBk P bks bp s' := by
  obtain ⟨q1, q2, q3, q4⟩ := h
  refine ⟨q1.fr f h1 hA, q2, fun k hk => ?_, q4⟩
  obtain ⟨r1, r2, r3, r4, r5⟩ := q3 k hk
  exact ⟨r1, r2.fr f, r3.fr f (nin hA r1) (nin hA (by omega)) (nin hA (by omega)) (nin hA (by omega)), r4.fr f (nin hA (by omega)), r5⟩
def CWl (wds : List (List Nat)) (wp : List Nat) (s : mM) : Prop := AL s 17 wp ∧ wp.length = wds.length ∧ ∀ k, k < wds.length → 114 ≤ wp.getD k 0 ∧ (∃ n, (wds.getD k []).length ≤ n ∧ Nu s (wp.getD k 0) n) ∧ NL s (wp.getD k 0) (wds.getD k []) ∧ 0 < (wds.getD k []).length ∧ (wds.getD k []).length ≤ 8 ∧ ∀ x ∈ wds.getD k [], x < 8
theorem CWl.fr {A : List Nat} {wds : List (List Nat)} {wp : List Nat} {s s' : mM} (h : CWl wds wp s) (f : Fr A s s') (h1 : 17 ∉ A) (hA : ∀ x ∈ A, x < 114) : CWl wds wp s' := by
  obtain ⟨q1, q2, q3⟩ := h
  refine ⟨q1.fr f h1 hA, q2, fun k hk => ?_⟩
  obtain ⟨r1, ⟨n, r2, r3⟩, r4, r5⟩ := q3 k hk
  exact ⟨r1, ⟨n, r2, r3.fr f⟩, r4.fr f (nin hA r1) (nin hA (by omega)), r5⟩
theorem bG_t {P : Nat} {bks : List Bk} {x : Int32} {b : Bk} (h : bG P bks x = some b) (hl : bks.length < 2 ^ 31) : 0 < P ∧ ∃ k, k < bks.length ∧ x = nI k ∧ b = bks.getD k nk := by
  unfold bG at h
  split at h
  · rename_i h1
    rw [Bool.and_eq_true, decide_eq_true_eq] at h1
    obtain ⟨k, hk, rfl⟩ := inN_t h1.2 hl
    cases h
    exact ⟨h1.1, k, hk, rfl, by rw [nI_clamp (by omega)]⟩
  · cases h
theorem bG_f {P : Nat} {bks : List Bk} {x : Int32} (h : bG P bks x = none) : ¬ (0 < P ∧ inN bks.length x = true) := by
  unfold bG at h
  split at h
  · cases h
  · rename_i h1
    intro h2
    exact h1 (by rw [decide_eq_true h2.1, h2.2]; rfl)
theorem wG_t {wds : List (List Nat)} {x : Int32} {l : List Nat} (h : wG wds x = some l) (hl : wds.length < 2 ^ 31) : ∃ k, k < wds.length ∧ x = nI k ∧ l = wds.getD k [] := by
  unfold wG at h
  split at h
  · rename_i h1
    obtain ⟨k, hk, rfl⟩ := inN_t h1 hl
    cases h
    exact ⟨k, hk, rfl, by rw [nI_clamp (by omega)]⟩
  · cases h
theorem wG_f {wds : List (List Nat)} {x : Int32} (h : wG wds x = none) : ¬ inN wds.length x = true := by
  unfold wG at h
  split at h
  · cases h
  · rename_i h1
    exact h1
section FB
variable {X : am_X} {d : Nat} {s : mM} {Q : Option Value → am_H → Prop} {P r w pd row day left a k n : Nat} {ps bp wp : List Nat} {x : Int32} {bks : List Bk} {wds : List (List Nat)} {b : Bk}
theorem c130t (hF : Fx s) (hP : ri s 19 0 = nI P) (hP5 : P ≤ 5) (hP0 : 0 < P) (hB : CBk P bks bp s) (hk : k < bks.length) (hq : Q (some (.ref (bp.getD k 0))) (mR s)) : gE X (d + 3) 130 [.ref 0, .int (nI k)] (mR s) Q := by
  obtain ⟨q1, q2, q3, q4⟩ := hB
  have q5 := q1.2.1
  obtain ⟨r1, r2, -⟩ := q3 k hk
  refine en130 rfl rfl ?_
  refine g_p t130_0 rfl ?_
  refine r_cv t130_1 (f0 hF) rfl ?_
  refine c129 hF hP hP5 ?_
  refine k_v ?_ rfl
  refine b_eq t130_4 (fun h4 => ?_) (fun h4 => ?_)
  · first
      | (rw [decide_eq_true hP0] at h4; exact absurd h4 (by decide))
      | (exfalso; omega)
  · refine g_p t130_7 rfl ?_
    refine n_lt t130_8 (by omega) ?_
    refine g_p t130_11 rfl ?_
    refine g_p t130_12 rfl ?_
    refine r_getr t130_13 (f0 hF) rfl rfl ?_
    refine r_cv t130_16 (f16 hF) rfl ?_
    refine c278 (by exact f16 hF) q1 ?_
    refine k_v ?_ rfl
    refine n_cge t130_19 (by omega) (by omega) (fun h19 => ?_) (fun h19 => ?_)
    · first
        | (rw [decide_eq_true hP0] at h4; exact absurd h4 (by decide))
        | (exfalso; omega)
    · refine g_p t130_22 rfl ?_
      refine r_getr t130_23 (f0 hF) rfl rfl ?_
      refine g_p t130_26 rfl ?_
      refine r_cv t130_27 (f16 hF) rfl ?_
      refine c280 (by exact f16 hF) q1 (by omega) ?_
      refine k_v ?_ rfl
      refine r_chk t130_30 r2.1 rfl ?_
      refine g_goto t130_33 ?_
      exact a_ret t130_37 rfl rfl hq
theorem c130f (hF : Fx s) (hP : ri s 19 0 = nI P) (hP5 : P ≤ 5) (hB : CBk P bks bp s) (hx : ¬ (0 < P ∧ inN bks.length x = true)) (hq : Q (some .null) (mR s)) : gE X (d + 3) 130 [.ref 0, .int x] (mR s) Q := by
  obtain ⟨q1, q2, q3, q4⟩ := hB
  have q5 := q1.2.1
  refine en130 rfl rfl ?_
  refine g_p t130_0 rfl ?_
  refine r_cv t130_1 (f0 hF) rfl ?_
  refine c129 hF hP hP5 ?_
  refine k_v ?_ rfl
  refine b_eq t130_4 (fun h4 => ?_) (fun h4 => ?_)
  · refine g_p t130_36 rfl ?_
    exact a_ret t130_37 rfl rfl hq
  · refine g_p t130_7 rfl ?_
    refine g_lt t130_8 (fun h8 => ?_) (fun h8 => ?_)
    · refine g_p t130_36 rfl ?_
      exact a_ret t130_37 rfl rfl hq
    · refine g_p t130_11 rfl ?_
      refine g_p t130_12 rfl ?_
      refine r_getr t130_13 (f0 hF) rfl rfl ?_
      refine r_cv t130_16 (f16 hF) rfl ?_
      refine c278 (by exact f16 hF) q1 ?_
      refine k_v ?_ rfl
      refine g_cge t130_19 (fun h19 => ?_) (fun h19 => ?_)
      · refine g_p t130_36 rfl ?_
        exact a_ret t130_37 rfl rfl hq
      · exact absurd ⟨of_decide_eq_true h4, by rw [← q2]; exact inN_tt h8 h19⟩ hx
theorem c131t (hF : Fx s) (hB : CWl wds wp s) (hk : k < wds.length) (hq : Q (some (.ref (wp.getD k 0))) (mR s)) : gE X (d + 3) 131 [.ref 0, .int (nI k)] (mR s) Q := by
  obtain ⟨q1, q2, q3⟩ := hB
  have q5 := q1.2.1
  obtain ⟨r1, ⟨n, r2, r3⟩, -⟩ := q3 k hk
  refine en131 rfl rfl ?_
  refine g_p t131_0 rfl ?_
  refine n_lt t131_1 (by omega) ?_
  refine g_p t131_4 rfl ?_
  refine g_p t131_5 rfl ?_
  refine r_getr t131_6 (f0 hF) rfl rfl ?_
  refine r_cv t131_9 (f17 hF) rfl ?_
  refine c278 (by exact f17 hF) q1 ?_
  refine k_v ?_ rfl
  refine n_cge t131_12 (by omega) (by omega) (fun h12 => ?_) (fun h12 => ?_)
  · exfalso; omega
  · refine g_p t131_15 rfl ?_
    refine r_getr t131_16 (f0 hF) rfl rfl ?_
    refine g_p t131_19 rfl ?_
    refine r_cv t131_20 (f17 hF) rfl ?_
    refine c280 (by exact f17 hF) q1 (by omega) ?_
    refine k_v ?_ rfl
    refine r_chk t131_23 r3.1 rfl ?_
    refine g_goto t131_26 ?_
    exact a_ret t131_30 rfl rfl hq
theorem c131f (hF : Fx s) (hB : CWl wds wp s) (hx : ¬ inN wds.length x = true) (hq : Q (some .null) (mR s)) : gE X (d + 3) 131 [.ref 0, .int x] (mR s) Q := by
  obtain ⟨q1, q2, q3⟩ := hB
  have q5 := q1.2.1
  refine en131 rfl rfl ?_
  refine g_p t131_0 rfl ?_
  refine g_lt t131_1 (fun h1 => ?_) (fun h1 => ?_)
  · refine g_p t131_29 rfl ?_
    exact a_ret t131_30 rfl rfl hq
  · refine g_p t131_4 rfl ?_
    refine g_p t131_5 rfl ?_
    refine r_getr t131_6 (f0 hF) rfl rfl ?_
    refine r_cv t131_9 (f17 hF) rfl ?_
    refine c278 (by exact f17 hF) q1 ?_
    refine k_v ?_ rfl
    refine g_cge t131_12 (fun h12 => ?_) (fun h12 => ?_)
    · refine g_p t131_29 rfl ?_
      exact a_ret t131_30 rfl rfl hq
    · exact absurd (by rw [← q2]; exact inN_tt h1 h12) hx
end FB
