/-! ROWS OF A SILL, purely: a code to the base 3, place 0 the highest -/
def wt (P q : Nat) : Nat := 3 ^ (P - 1 - q)
def pt (P c q : Nat) : Nat := c / wt P q % 3
def mn (P : Nat) : Nat := if P = 0 then 0 else 3 ^ P
/-- a sum of the first n -/
def sm (f : Nat → Nat) : Nat → Nat
  | 0 => 0
  | n + 1 => sm f n + f n
def one (b : Bool) : Nat := match b with
  | true => 1
  | false => 0
def cn (P c k : Nat) : Nat := sm (fun q => one (pt P c q == k)) P
def wth (P c q v : Nat) : Nat := c + v * wt P q - pt P c q * wt P q
def std (P r w c : Nat) : Bool := decide (c < mn P) && decide (cn P c 1 ≤ r) && decide (cn P c 2 ≤ w)
/-- moves of the pot of place p to the places below m -/
def enm (P c p : Nat) : Nat → List Nat
  | 0 => []
  | q + 1 => enm P c p q ++ (if pt P c q = 0 then [wth P (wth P c p 0) q (pt P c p)] else [])
def enp (P c p : Nat) : List Nat := if pt P c p = 0 then [wth P c p 1, wth P c p 2] else wth P c p 0 :: enm P c p P
def ena (P c : Nat) : Nat → List Nat
  | 0 => []
  | p + 1 => ena P c p ++ enp P c p
def en (P c : Nat) : List Nat := ena P c P
def ins (x : Nat) : List Nat → List Nat
  | [] => [x]
  | y :: t => if y ≤ x then y :: ins x t else x :: y :: t
def isrt (l : List Nat) : List Nat := l.foldl (fun a x => ins x a) []
def nb (P c : Nat) : List Nat := isrt (en P c)
def dgu (P c : Nat) : Nat → Nat
  | 0 => 0
  | n + 1 => dgu P c n * 10 + pt P c n
def dg (P c : Nat) : Nat := dgu P c P
/-- a row told in digits: m places are to be read -/
def cdu (P : Nat) : Nat → Nat → Nat → Option Nat
  | 0, v, a => if v = 0 then some a else none
  | m + 1, v, a => if 2 < v % 10 then none else cdu P m (v / 10) (a + v % 10 * wt P m)
def cd (P v : Nat) : Option Nat := if P = 0 then none else cdu P P v 0
/-- places at which two rows are unlike, as bits -/
def upu (P a b : Nat) : Nat → Nat
  | 0 => 0
  | q + 1 => upu P a b q + (if pt P a q = pt P b q then 0 else 2 ^ q)
/-- a book: clauses of a letter and signs 0 . 1 r 2 w 3 ?, and its width -/
abbrev Bk : Type := List (Nat × List Nat) × Nat
def sg (b : Nat) (l : List Nat) (q : Nat) : Nat := if q < b then l.getD q 0 else 0
def fitu (P wd : Nat) (l : List Nat) (c : Nat) : Nat → Bool
  | 0 => true
  | q + 1 => fitu P wd l c q && (sg wd l q == 3 || sg wd l q == pt P c q)
def sy (P : Nat) (b : Bk) (c : Nat) : Int32 := match b.1.find? (fun k => fitu P b.2 k.2 c P) with
  | some k => nI k.1
  | none => -1
-- facts by reckoning
theorem pt_lt (P c q : Nat) : pt P c q < 3 := Nat.mod_lt _ (by decide)
theorem sm_succ (f : Nat → Nat) (n : Nat) : sm f (n + 1) = sm f n + f n := rfl
theorem sm_le {f : Nat → Nat} (h : ∀ i, f i ≤ 1) (n : Nat) : sm f n ≤ n := by
  induction n with
  | zero => exact Nat.le_refl _
  | succ n ih => have := h n; rw [sm_succ]; omega
theorem one_le (b : Bool) : one b ≤ 1 := by cases b <;> decide
theorem cn_le (P c k : Nat) : cn P c k ≤ P := sm_le (fun _ => one_le _) P
theorem dec2 {N : Nat} {f : Nat → Nat} {p : Nat → Nat → Bool} (h : ((List.range N).all fun P => (List.range (f P)).all fun c => p P c) = true) : ∀ P, P < N → ∀ c, c < f P → p P c = true := by
  intro P hP c hc
  have h1 := List.all_eq_true.mp h P (List.mem_range.mpr hP)
  exact List.all_eq_true.mp h1 c (List.mem_range.mpr hc)
theorem mn_le {P : Nat} (h : P ≤ 5) : mn P ≤ 243 := by
  rcases (show P = 0 ∨ P = 1 ∨ P = 2 ∨ P = 3 ∨ P = 4 ∨ P = 5 by omega) with rfl | rfl | rfl | rfl | rfl | rfl <;> decide
theorem wt_le {P q : Nat} (h : P ≤ 5) : wt P q ≤ 81 := by
  unfold wt
  exact Nat.le_trans (Nat.pow_le_pow_right (by decide) (show P - 1 - q ≤ 4 by omega)) (by decide)
theorem wt_pos (P q : Nat) : 0 < wt P q := Nat.pow_pos (by decide)
theorem pt_wt_le (P c q : Nat) : pt P c q * wt P q ≤ c := Nat.le_trans (Nat.mul_le_mul_right _ (Nat.mod_le _ _)) (Nat.div_mul_le_self c _)
/-- what a change of a place does -/
theorem wth_all : ∀ P, P < 6 → ∀ c, c < mn P → ((List.range P).all fun q => (List.range 3).all fun v => decide (wth P c q v < mn P) && (List.range P).all (fun z => pt P (wth P c q v) z == if z = q then v else pt P c z) && decide (cn P (wth P c q v) 1 + one (pt P c q == 1) = cn P c 1 + one (v == 1)) && decide (cn P (wth P c q v) 2 + one (pt P c q == 2) = cn P c 2 + one (v == 2))) = true := dec2 (by decide +kernel)
theorem wth_1 {P c q v : Nat} (hP : P ≤ 5) (hc : c < mn P) (hq : q < P) (hv : v < 3) : wth P c q v < mn P ∧ (∀ z, z < P → pt P (wth P c q v) z = if z = q then v else pt P c z) ∧ cn P (wth P c q v) 1 + one (pt P c q == 1) = cn P c 1 + one (v == 1) ∧ cn P (wth P c q v) 2 + one (pt P c q == 2) = cn P c 2 + one (v == 2) := by
  have h := List.all_eq_true.mp (List.all_eq_true.mp (wth_all P (by omega) c hc) q (List.mem_range.mpr hq)) v (List.mem_range.mpr hv)
  simp only [Bool.and_eq_true, decide_eq_true_eq, List.all_eq_true, List.mem_range, beq_iff_eq] at h
  exact ⟨h.1.1.1, h.1.1.2, h.1.2, h.2⟩
theorem en_all : ∀ P, P < 6 → ∀ c, c < mn P → (decide ((en P c).length ≤ 14) && (en P c).all (fun t => decide (t < mn P) && (en P t).contains c && !(t == c))) = true := dec2 (by decide +kernel)
theorem en_len {P c : Nat} (hP : P ≤ 5) (hc : c < mn P) : (en P c).length ≤ 14 := by
  have h := en_all P (by omega) c hc
  simp only [Bool.and_eq_true, decide_eq_true_eq] at h
  exact h.1
theorem en_1 {P c t : Nat} (hP : P ≤ 5) (hc : c < mn P) (ht : t ∈ en P c) : t < mn P ∧ c ∈ en P t ∧ t ≠ c := by
  have h := en_all P (by omega) c hc
  simp only [Bool.and_eq_true, decide_eq_true_eq, List.all_eq_true, List.contains_iff_mem, Bool.not_eq_true', beq_eq_false_iff_ne] at h
  have := h.2 t ht
  exact ⟨this.1.1, this.1.2, this.2⟩
theorem ins_len (x : Nat) (l : List Nat) : (ins x l).length = l.length + 1 := by
  induction l with
  | nil => rfl
  | cons y t ih => unfold ins; split <;> simp [ih]
theorem ins_mem {x z : Nat} {l : List Nat} : z ∈ ins x l ↔ z = x ∨ z ∈ l := by
  induction l with
  | nil => simp [ins]
  | cons y t ih =>
    unfold ins
    split
    · simp only [List.mem_cons, ih]
      constructor
      · rintro (h | h | h) <;> simp [h]
      · rintro (h | h | h) <;> simp [h]
    · simp
theorem ins_perm (x : Nat) (l : List Nat) : (ins x l).Perm (x :: l) := by
  induction l with
  | nil => exact List.Perm.refl _
  | cons y t ih =>
    unfold ins
    split
    · exact (List.Perm.cons y ih).trans (List.Perm.swap x y t)
    · exact List.Perm.refl _
theorem ins_srt {x : Nat} {l : List Nat} (h : l.Pairwise (· ≤ ·)) : (ins x l).Pairwise (· ≤ ·) := by
  induction l with
  | nil => simp [ins]
  | cons y t ih =>
    unfold ins
    have h := List.pairwise_cons.mp h
    split
    · rename_i hy
      refine List.pairwise_cons.mpr ⟨fun z hz => ?_, ih h.2⟩
      rcases ins_mem.mp hz with rfl | hz
      · exact hy
      · exact h.1 z hz
    · rename_i hy
      refine List.pairwise_cons.mpr ⟨fun z hz => ?_, List.pairwise_cons.mpr h⟩
      rcases List.mem_cons.mp hz with rfl | hz
      · omega
      · have := h.1 z hz; omega
theorem isrt_go (l : List Nat) : ∀ a : List Nat, (l.foldl (fun a x => ins x a) a).Perm (a ++ l) ∧ (a.Pairwise (· ≤ ·) → (l.foldl (fun a x => ins x a) a).Pairwise (· ≤ ·)) := by
  induction l with
  | nil => intro a; simp
  | cons x t ih =>
    intro a
    obtain ⟨h1, h2⟩ := ih (ins x a)
    refine ⟨h1.trans ?_, fun h => h2 (ins_srt h)⟩
    refine ((ins_perm x a).append_right t).trans ?_
    exact List.perm_middle.symm
theorem isrt_perm (l : List Nat) : (isrt l).Perm l := by simpa [isrt] using (isrt_go l []).1
theorem isrt_srt (l : List Nat) : (isrt l).Pairwise (· ≤ ·) := (isrt_go l []).2 List.Pairwise.nil
theorem nb_mem {P c t : Nat} : t ∈ nb P c ↔ t ∈ en P c := (isrt_perm _).mem_iff
theorem nb_len {P c : Nat} (hP : P ≤ 5) (hc : c < mn P) : (nb P c).length ≤ 14 := by rw [nb, (isrt_perm _).length_eq]; exact en_len hP hc
/-- sorted and alike but for order: the same -/
theorem srt_eq : ∀ {l m : List Nat}, l.Pairwise (· ≤ ·) → m.Pairwise (· ≤ ·) → l.Perm m → l = m := by
  intro l
  induction l with
  | nil => intro m _ _ h; exact (List.Perm.nil_eq h)
  | cons x t ih =>
    intro m h1 h2 h
    cases m with
    | nil => exact absurd h.symm (by simp)
    | cons y u =>
      have h1' := List.pairwise_cons.mp h1
      have h2' := List.pairwise_cons.mp h2
      have hxy : x = y := by
        have hx : x ∈ y :: u := h.mem_iff.mp List.mem_cons_self
        have hy : y ∈ x :: t := h.mem_iff.mpr List.mem_cons_self
        rcases List.mem_cons.mp hx with h3 | h3
        · exact h3
        · rcases List.mem_cons.mp hy with h4 | h4
          · exact h4.symm
          · have := h1'.1 y h4; have := h2'.1 x h3; omega
      subst hxy
      rw [ih h1'.2 h2'.2 (List.Perm.cons_inv h)]
-- places told as ints
def inN (P : Nat) (x : Int32) : Bool := decide (¬ x < 0 ∧ x < nI P)
theorem inN_t {P : Nat} {x : Int32} (h : inN P x = true) (hP : P < 2 ^ 31) : ∃ q, q < P ∧ x = nI q := by
  have h := of_decide_eq_true h
  obtain ⟨q, hq, rfl⟩ := nI_of h.1
  exact ⟨q, (nI_ltI hq hP).mp h.2, rfl⟩
theorem inN_n {P q : Nat} (hq : q < P) (hP : P < 2 ^ 31) : inN P (nI q) = true := decide_eq_true ⟨nI_pos (by omega), (nI_ltI (by omega) hP).mpr hq⟩
