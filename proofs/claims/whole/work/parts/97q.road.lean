/-! ROADS, purely -/
/-- whence a pot goes and of which sort; whither one comes: below m -/
def rgh (P c t : Nat) : Nat → Option (Nat × Nat)
  | 0 => none
  | m + 1 => if pt P c m ≠ 0 ∧ pt P t m = 0 then some (m, pt P c m) else rgh P c t m
def rgt (P c t : Nat) : Nat → Option Nat
  | 0 => none
  | m + 1 => if pt P c m = 0 ∧ pt P t m ≠ 0 then some m else rgt P c t m
/-- a move looks right: not from more light to less -/
def rg (P : Nat) (L : Nat → Nat → Int32) (c t : Nat) : Bool := match rgh P c t P, rgt P c t P with
  | some (h, k), some u => decide (L h k ≤ L u k)
  | _, _ => true
def aj (P r w : Nat) (R : Nat → Nat → Bool) (c t : Nat) : Prop := t ∈ en P c ∧ std P r w c = true ∧ std P r w t = true ∧ R c t = true
def pots (P c : Nat) : Nat := cn P c 1 + cn P c 2
theorem pots_all : ∀ P, P < 6 → ∀ c, c < mn P → (decide (pots P c ≤ 5) && (decide (c = 0) || (List.range P).any fun q => (pt P c q != 0) && (en P c).contains (wth P c q 0) && (en P (wth P c q 0)).contains c && decide (pots P (wth P c q 0) + 1 = pots P c) && decide (cn P (wth P c q 0) 1 ≤ cn P c 1) && decide (cn P (wth P c q 0) 2 ≤ cn P c 2) && decide (wth P c q 0 < mn P) && (rgt P c (wth P c q 0) P).isNone && (rgh P (wth P c q 0) c P).isNone)) = true := dec2 (by decide +kernel)
theorem pots_le {P c : Nat} (hP : P ≤ 5) (hc : c < mn P) : pots P c ≤ 5 := by
  have h := pots_all P (by omega) c hc
  simp only [Bool.and_eq_true, decide_eq_true_eq] at h
  exact h.1
theorem pots_1 {P c : Nat} (hP : P ≤ 5) (hc : c < mn P) (h0 : c ≠ 0) : ∃ x, x ∈ en P c ∧ c ∈ en P x ∧ pots P x + 1 = pots P c ∧ cn P x 1 ≤ cn P c 1 ∧ cn P x 2 ≤ cn P c 2 ∧ x < mn P ∧ rgt P c x P = none ∧ rgh P x c P = none := by
  have h := pots_all P (by omega) c hc
  simp only [Bool.and_eq_true, Bool.or_eq_true, decide_eq_true_eq, List.any_eq_true, List.mem_range, List.contains_iff_mem, Option.isNone_iff_eq_none] at h
  rcases h.2 with h | ⟨q, -, h⟩
  · exact absurd h h0
  · exact ⟨_, h.1.1.1.1.1.1.1.2, h.1.1.1.1.1.1.2, h.1.1.1.1.1.2, h.1.1.1.1.2, h.1.1.1.2, h.1.1.2, h.1.2, h.2⟩
/-- putting out and taking in is right by any light -/
def Rok (P : Nat) (R : Nat → Nat → Bool) : Prop := ∀ c t, rgt P c t P = none ∨ rgh P c t P = none → R c t = true
theorem Rok_t {P : Nat} : Rok P (fun _ _ => true) := fun _ _ _ => rfl
theorem Rok_rg {P : Nat} {L : Nat → Nat → Int32} : Rok P (rg P L) := fun c t h => by
  unfold rg
  rcases h with h | h
  · rw [h]; cases rgh P c t P <;> rfl
  · rw [h]
theorem Rok_b {P : Nat} {L : Nat → Nat → Int32} {b : Bool} : Rok P (fun c t => !b || rg P L c t) := fun c t h => by
  show (!b || rg P L c t) = true
  rw [Rok_rg c t h]; cases b <;> rfl
section RD
variable {P r w a x : Nat} {R : Nat → Nat → Bool}
theorem std_le {c : Nat} (hx : x < mn P) (h1 : cn P x 1 ≤ cn P c 1) (h2 : cn P x 2 ≤ cn P c 2) (h : std P r w c = true) : std P r w x = true := by
  obtain ⟨-, h3, h4⟩ := std_t h
  exact std_of hx (by omega) (by omega)
theorem lv_std {n : Nat} (ha : std P r w a = true) (h : lv (aj P r w R) a n x) : std P r w x = true := by
  induction n generalizing x with
  | zero => rw [show x = a from h]; exact ha
  | succ n ih =>
    rcases h with h | ⟨y, -, h⟩
    · exact ih h
    · exact h.2.2.1
theorem lv_0 (hP : P ≤ 5) (hR : Rok P R) : ∀ k c n, pots P c = k → std P r w c = true → lv (aj P r w R) a n c → lv (aj P r w R) a (n + k) 0 := by
  intro k
  induction k with
  | zero =>
    intro c n hk hc h
    by_cases h0 : c = 0
    · subst h0; exact h
    · obtain ⟨y, -, -, h3, -⟩ := pots_1 hP (std_t hc).1 h0
      omega
  | succ k ih =>
    intro c n hk hc h
    by_cases h0 : c = 0
    · subst h0; exact lv_up h (by omega)
    · obtain ⟨y, h1, h2, h3, h4, h5, h6, h7, h8⟩ := pots_1 hP (std_t hc).1 h0
      have hy := std_le h6 h4 h5 hc
      have := ih y (n + 1) (by omega) hy (Or.inr ⟨c, h, h1, hc, hy, hR c y (Or.inl h7)⟩)
      rw [show n + (k + 1) = n + 1 + k by omega]
      exact this
theorem lv_from0 (hP : P ≤ 5) (hR : Rok P R) {n : Nat} (h : lv (aj P r w R) a n 0) : ∀ k c, pots P c = k → std P r w c = true → lv (aj P r w R) a (n + k) c := by
  intro k
  induction k with
  | zero =>
    intro c hk hc
    by_cases h0 : c = 0
    · subst h0; exact h
    · obtain ⟨y, -, -, h3, -⟩ := pots_1 hP (std_t hc).1 h0
      omega
  | succ k ih =>
    intro c hk hc
    by_cases h0 : c = 0
    · subst h0; exact lv_up h (by omega)
    · obtain ⟨y, h1, h2, h3, h4, h5, h6, h7, h8⟩ := pots_1 hP (std_t hc).1 h0
      have hy := std_le h6 h4 h5 hc
      exact Or.inr ⟨y, ih y (by omega) hy, h2, hy, hc, hR y c (Or.inr h8)⟩
theorem lv_10 (hP : P ≤ 5) (hR : Rok P R) (ha : std P r w a = true) (hx : std P r w x = true) : lv (aj P r w R) a 10 x := by
  have h1 := pots_le hP (std_t ha).1
  have h2 := pots_le hP (std_t hx).1
  have h3 := lv_0 (r := r) (w := w) (a := a) hP hR (pots P a) a 0 rfl ha rfl
  exact lv_up (lv_from0 hP hR h3 (pots P x) x rfl hx) (by omega)
theorem lv_b (hP : P ≤ 5) (hR : Rok P R) (ha : std P r w a = true) {F : Nat} (hF : 10 < F) : ∀ n x, lv (aj P r w R) a n x → ∃ m, m < F ∧ lv (aj P r w R) a m x := fun n x h => ⟨10, hF, lv_10 hP hR ha (lv_std ha h)⟩
theorem ds_10 (hP : P ≤ 5) (hR : Rok P R) (ha : std P r w a = true) (hx : std P r w x = true) {F : Nat} : ds (aj P r w R) F a x ≤ 10 := (ds_yes (F := F) (lv_10 hP hR ha hx)).2 10 (lv_10 hP hR ha hx)
theorem ds_F (hP : P ≤ 5) (hR : Rok P R) (ha : std P r w a = true) (hx : std P r w x = true) {F F' : Nat} : ds (aj P r w R) F a x = ds (aj P r w R) F' a x := by
  obtain ⟨h1, h2⟩ := ds_yes (F := F') (lv_10 hP hR ha hx)
  exact ds_of h1 h2
theorem ds_out (ha : std P r w a = true) (hx : std P r w x = false) {F : Nat} : ds (aj P r w R) F a x = F := ds_no (fun n h => by
  rw [lv_std ha h] at hx; cases hx)
theorem lv_front {A : Nat → Nat → Prop} {b : Nat} (h : A a b) : ∀ n x, lv A b n x → lv A a (n + 1) x := by
  intro n
  induction n with
  | zero => intro x hx; rw [show x = b from hx]; exact Or.inr ⟨a, rfl, h⟩
  | succ n ih =>
    intro x hx
    rcases hx with hx | ⟨y, hy, hyx⟩
    · exact Or.inl (ih x hx)
    · exact Or.inr ⟨y, ih y hy, hyx⟩
theorem lv_sym {A : Nat → Nat → Prop} (hs : ∀ x y, A x y → A y x) : ∀ n a x, lv A a n x → lv A x n a := by
  intro n
  induction n with
  | zero => intro a x h; exact Eq.symm h
  | succ n ih =>
    intro a x h
    rcases h with h | ⟨y, hy, hyx⟩
    · exact Or.inl (ih a x h)
    · exact lv_front (hs y x hyx) n a (ih a y hy)
theorem aj_sym (hP : P ≤ 5) (x y : Nat) (h : aj P r w (fun _ _ => true) x y) : aj P r w (fun _ _ => true) y x := ⟨(en_1 hP (std_t h.2.1).1 h.1).2.1, h.2.2.1, h.2.1, rfl⟩
theorem ds_sym (hP : P ≤ 5) (ha : std P r w a = true) (hx : std P r w x = true) {F : Nat} : ds (aj P r w (fun _ _ => true)) F a x = ds (aj P r w (fun _ _ => true)) F x a := by
  obtain ⟨h1, h2⟩ := ds_yes (F := F) (lv_10 (r := r) (w := w) (R := fun _ _ => true) hP Rok_t hx ha)
  exact ds_of (lv_sym (aj_sym hP) _ _ _ h1) (fun m hm => h2 m (lv_sym (aj_sym hP) _ _ _ hm))
/-- the fewest of all moves; F: a row can't stand -/
noncomputable def dst (P r w F a x : Nat) : Nat := match std P r w a && std P r w x with
  | true => ds (aj P r w (fun _ _ => true)) F a x
  | false => F
theorem dst_f {F : Nat} (h : ¬ (std P r w a = true ∧ std P r w x = true)) : dst P r w F a x = F := by
  unfold dst
  cases h1 : std P r w a <;> cases h2 : std P r w x <;> first | rfl | exact absurd ⟨h1, h2⟩ h
theorem dst_t {F : Nat} (h1 : std P r w a = true) (h2 : std P r w x = true) : dst P r w F a x = ds (aj P r w (fun _ _ => true)) F a x := by unfold dst; rw [h1, h2]; rfl
theorem dst_10 {F : Nat} (hP : P ≤ 5) (h1 : std P r w a = true) (h2 : std P r w x = true) : dst P r w F a x ≤ 10 := by rw [dst_t h1 h2]; exact ds_10 hP Rok_t h1 h2
theorem dst_ds {F : Nat} (h1 : std P r w a = true) : dst P r w F a x = ds (aj P r w (fun _ _ => true)) F a x := by
  cases h2 : std P r w x
  · rw [dst_f (fun h => by rw [h2] at h; exact absurd h.2 (by decide)), ds_out h1 h2]
  · exact dst_t h1 h2
theorem dst_le {F : Nat} (hP : P ≤ 5) (hF : 10 ≤ F) : dst P r w F a x ≤ F := by
  by_cases h : std P r w a = true ∧ std P r w x = true
  · have := dst_10 (F := F) hP h.1 h.2; omega
  · rw [dst_f h]; exact Nat.le_refl _
end RD
-- four bits of an int
def nib (v : Int32) (k : Nat) : Nat := v.toBitVec.toNat / 16 ^ k % 16
theorem nb_x : ∀ k, k < 8 → ∀ x, x < 16 → (nI x <<< (nI (k * 4) &&& 31)).toBitVec = BitVec.ofNat 32 (x <<< (4 * k)) := by decide +kernel
theorem nb_m : ∀ k, k < 8 → ((nI 15 <<< (nI (k * 4) &&& 31)) ^^^ (-1)).toBitVec = BitVec.ofNat 32 (2 ^ 32 - 1 - 15 <<< (4 * k)) := by decide +kernel
theorem nb_mb : ∀ k, k < 8 → ∀ j, j < 32 → (2 ^ 32 - 1 - 15 <<< (4 * k)).testBit j = !(decide (4 * k ≤ j) && decide (j < 4 * k + 4)) := by decide +kernel
theorem nib_tb (v : Int32) {k i : Nat} : (nib v k).testBit i = (decide (i < 4) && v.toBitVec.getLsbD (4 * k + i)) := by
  unfold nib
  rw [show (16 : Nat) = 2 ^ 4 from rfl, ← Nat.pow_mul, Nat.testBit_mod_two_pow, Nat.testBit_div_two_pow]
  rw [show 4 * k + i = i + 4 * k by omega]
  rfl
def setn (v : Int32) (k : Nat) (x : Int32) : Int32 := (v &&& ((nI 15 <<< (nI (k * 4) &&& 31)) ^^^ (-1))) ||| (x <<< (nI (k * 4) &&& 31))
theorem setn_bit (v : Int32) {k x j : Nat} (hk : k < 8) (hx : x < 16) (hj : j < 32) : (setn v k (nI x)).toBitVec.getLsbD j = if 4 * k ≤ j ∧ j < 4 * k + 4 then x.testBit (j - 4 * k) else v.toBitVec.getLsbD j := by
  unfold setn
  rw [Int32.toBitVec_or, Int32.toBitVec_and, nb_x k hk x hx, nb_m k hk, BitVec.getLsbD_or, BitVec.getLsbD_and, BitVec.getLsbD_ofNat, BitVec.getLsbD_ofNat, nb_mb k hk j hj, Nat.testBit_shiftLeft]
  by_cases h1 : 4 * k ≤ j
  · by_cases h2 : j < 4 * k + 4
    · simp [h1, h2, hj]
    · have h3 : x.testBit (j - 4 * k) = false := Nat.testBit_lt_two_pow (Nat.lt_of_lt_of_le hx (Nat.pow_le_pow_right (n := 2) (by decide) (show 4 ≤ j - 4 * k by omega)))
      simp [h1, h2, hj, h3]
  · simp [h1, hj]
theorem nib_lt (v : Int32) (k : Nat) : nib v k < 16 := Nat.mod_lt _ (by decide)
theorem nib_set (v : Int32) {k x k' : Nat} (hk : k < 8) (hx : x < 16) (hk' : k' < 8) : nib (setn v k (nI x)) k' = if k' = k then x else nib v k' := by
  apply Nat.eq_of_testBit_eq
  intro i
  rw [nib_tb]
  by_cases hi : i < 4
  · rw [setn_bit v hk hx (by omega)]
    by_cases h : k' = k
    · subst h
      rw [if_pos rfl, if_pos (by omega), show 4 * k' + i - 4 * k' = i by omega]
      simp [hi]
    · rw [if_neg h, if_neg (by omega), nib_tb]
  · have h1 : x.testBit i = false := Nat.testBit_lt_two_pow (Nat.lt_of_lt_of_le hx (Nat.pow_le_pow_right (n := 2) (by decide) (show 4 ≤ i by omega)))
    have h2 : (nib v k').testBit i = false := Nat.testBit_lt_two_pow (Nat.lt_of_lt_of_le (nib_lt v k') (Nat.pow_le_pow_right (n := 2) (by decide) (show 4 ≤ i by omega)))
    by_cases h : k' = k
    · rw [if_pos h, h1]; simp [hi]
    · rw [if_neg h, h2]; simp [hi]
theorem sh7 : ∀ k, k < 8 → ((nI (k * 4)).toUInt32 &&& Int32.toUInt32 31).toBitVec % 32 = BitVec.ofNat 32 (4 * k) := by decide +kernel
theorem get_nib (v : Int32) {k : Nat} (hk : k < 8) : ((v.toUInt32 >>> ((nI (k * 4)).toUInt32 &&& Int32.toUInt32 31)).toInt32) &&& nI 15 = nI (nib v k) := by
  rw [pk_and _ 4 (by decide), pk_ushr v (nI (k * 4)) (4 * k) (by rw [sh7 k hk]; simp; omega)]
  unfold nib
  rw [show (16 : Nat) = 2 ^ 4 from rfl, ← Nat.pow_mul]
theorem and7 {n : Nat} (h : n < 2 ^ 31) : nI n &&& nI 7 = nI (n % 8) := pk_andN (by omega) 3 (by decide)
theorem shr3 {n : Nat} (h : n < 2 ^ 31) : nI n >>> (nI 3 &&& 31) = nI (n / 8) := pk_shrN h (nI 3 &&& 31) 3 (by decide)
