/-! FEWEST MOVES, purely -/
/-- within n steps of A from a -/
def lv (A : Nat → Nat → Prop) (a : Nat) : Nat → Nat → Prop
  | 0, x => x = a
  | n + 1, x => lv A a n x ∨ ∃ y, lv A a n y ∧ A y x
theorem lv_up {A : Nat → Nat → Prop} {a x : Nat} {n m : Nat} (h : lv A a n x) (hm : n ≤ m) : lv A a m x := by
  induction m with
  | zero => rw [show n = 0 by omega] at h; exact h
  | succ m ih =>
    by_cases h2 : n = m + 1
    · rw [← h2]; exact h
    · exact Or.inl (ih (by omega))
noncomputable def ds (A : Nat → Nat → Prop) (F a x : Nat) : Nat := @dite _ (∃ n, lv A a n x) (Classical.propDecidable _) (fun h => Classical.choose (pk_least _ h)) (fun _ => F)
theorem ds_of {A : Nat → Nat → Prop} {F a x n : Nat} (h : lv A a n x) (hm : ∀ m, lv A a m x → n ≤ m) : ds A F a x = n := by
  have h1 : ∃ n, lv A a n x := ⟨n, h⟩
  unfold ds
  rw [dif_pos h1]
  obtain ⟨h2, h3⟩ := Classical.choose_spec (pk_least _ h1)
  have := hm _ h2
  rcases Nat.lt_or_ge n (Classical.choose (pk_least _ h1)) with h4 | h4
  · exact absurd h (h3 n h4)
  · omega
theorem ds_no {A : Nat → Nat → Prop} {F a x : Nat} (h : ∀ n, ¬ lv A a n x) : ds A F a x = F := by
  unfold ds
  rw [dif_neg (fun h2 => h2.elim (fun n hn => h n hn))]
theorem ds_yes {A : Nat → Nat → Prop} {F a x n : Nat} (h : lv A a n x) : lv A a (ds A F a x) x ∧ ∀ m, lv A a m x → ds A F a x ≤ m := by
  obtain ⟨k, h1, h2⟩ := pk_least (fun n => lv A a n x) ⟨n, h⟩
  have h3 : ∀ m, lv A a m x → k ≤ m := fun m hm => by
    rcases Nat.lt_or_ge m k with h4 | h4
    · exact absurd hm (h2 m h4)
    · exact h4
  rw [ds_of h1 h3]
  exact ⟨h1, h3⟩
theorem nd_len : ∀ (N : Nat) (q : List Nat), q.Nodup → (∀ x ∈ q, x < N) → q.length ≤ N := by
  intro N
  induction N with
  | zero => intro q _ h; cases q with
    | nil => exact Nat.le_refl _
    | cons x t => exact absurd (h x List.mem_cons_self) (Nat.not_lt_zero x)
  | succ N ih =>
    intro q hn h
    by_cases hN : N ∈ q
    · have h1 := ih (q.erase N) (hn.erase N) (fun x hx => by
        have h2 := h x (List.mem_of_mem_erase hx)
        have h3 : x ≠ N := fun e => by
          subst e
          exact (List.Nodup.not_mem_erase hn) hx
        omega)
      rw [List.length_erase_of_mem hN] at h1
      omega
    · exact Nat.le_succ_of_le (ih q hn (fun x hx => by
        have h2 := h x hx
        have h3 : x ≠ N := fun e => hN (e ▸ hx)
        omega))
/-- the search: queue q, read up to h; f tells how far -/
def Bf (A : Nat → Nat → Prop) (a N F : Nat) (q : List Nat) (h : Nat) (f : Nat → Nat) : Prop :=
  q.Nodup ∧ (∀ x ∈ q, x < N) ∧ a ∈ q ∧ (∀ x, x < N → (f x ≠ F ↔ x ∈ q)) ∧ (∀ x ∈ q, lv A a (f x) x ∧ ∀ n, lv A a n x → f x ≤ n) ∧
  (∀ i j, i ≤ j → j < q.length → f (q.getD i 0) ≤ f (q.getD j 0)) ∧ h ≤ q.length ∧ (∀ i, i < h → ∀ y, A (q.getD i 0) y → y ∈ q) ∧ (h < q.length → ∀ i, i < q.length → f (q.getD i 0) ≤ f (q.getD h 0) + 1)
theorem Bf_start {A : Nat → Nat → Prop} {a N F : Nat} {f : Nat → Nat} (ha : a < N) (hF : 0 < F) (hf : ∀ x, x < N → f x = if x = a then 0 else F) : Bf A a N F [a] 0 f := by
  have fa : f a = 0 := by rw [hf a ha, if_pos rfl]
  refine ⟨by simp, by simpa using ha, by simp, fun x hx => ?_, fun x hx => ?_, fun i j hij hj => ?_, Nat.zero_le _, fun i hi => absurd hi (Nat.not_lt_zero i), fun _ i hi => ?_⟩
  · rw [hf x hx]
    by_cases h : x = a
    · rw [if_pos h]; simp [h]; omega
    · rw [if_neg h]; simp [h]
  · have h : x = a := by simpa using hx
    subst h
    rw [fa]
    exact ⟨rfl, fun n _ => Nat.zero_le n⟩
  · have hj : j < 1 := hj
    rw [show i = j by omega]; exact Nat.le_refl _
  · have hi : i < 1 := hi
    rw [show i = 0 by omega]; omega
theorem mem_getD {q : List Nat} {x : Nat} (h : x ∈ q) : ∃ i, i < q.length ∧ q.getD i 0 = x := by
  obtain ⟨i, hi, e⟩ := List.mem_iff_getElem.mp h
  exact ⟨i, hi, by rw [gD_lt hi]; exact e⟩
theorem getD_mem {q : List Nat} {i : Nat} (h : i < q.length) : q.getD i 0 ∈ q := by rw [gD_lt h]; exact List.getElem_mem h
/-- what is as near as the head is in the queue already -/
theorem Bf_near {A : Nat → Nat → Prop} {a N F : Nat} {q : List Nat} {h : Nat} {f : Nat → Nat} (B : Bf A a N F q h f) (hh : h < q.length) : ∀ n t, n ≤ f (q.getD h 0) → lv A a n t → t ∈ q := by
  obtain ⟨b1, b2, b3, b4, b5, b6, b7, b8, b9⟩ := B
  intro n
  induction n with
  | zero => intro t _ ht; rw [show t = a from ht]; exact b3
  | succ n ih =>
    intro t hn ht
    rcases ht with ht | ⟨y, hy, hyt⟩
    · exact ih t (by omega) ht
    · have hyq := ih y (by omega) hy
      have hfy := (b5 y hyq).2 n hy
      obtain ⟨i, hi, e⟩ := mem_getD hyq
      rcases Nat.lt_or_ge i h with h1 | h1
      · exact b8 i h1 t (by rw [e]; exact hyt)
      · have := b6 h i h1 hi
        rw [e] at this
        omega
theorem Bf_add {A : Nat → Nat → Prop} {a N F : Nat} {q : List Nat} {h t : Nat} {f g : Nat → Nat} (B : Bf A a N F q h f) (hh : h < q.length) (hA : A (q.getD h 0) t) (ht : t < N) (hf : f t = F) (hb : ∀ n x, lv A a n x → ∃ m, m < F ∧ lv A a m x) (hg : ∀ x, x < N → g x = if x = t then f (q.getD h 0) + 1 else f x) : Bf A a N F (q ++ [t]) h g := by
  have hnear := Bf_near B hh
  obtain ⟨b1, b2, b3, b4, b5, b6, b7, b8, b9⟩ := B
  have htq : t ∉ q := fun h2 => (b4 t ht).mpr h2 hf
  have hc := getD_mem hh
  have hlt : lv A a (f (q.getD h 0) + 1) t := Or.inr ⟨_, (b5 _ hc).1, hA⟩
  have hmin : ∀ n, lv A a n t → f (q.getD h 0) + 1 ≤ n := fun n hn => by
    rcases Nat.lt_or_ge (f (q.getD h 0)) n with h2 | h2
    · exact h2
    · exact absurd (hnear n t h2 hn) htq
  have hlF : f (q.getD h 0) + 1 < F := by
    obtain ⟨m, hm, hm2⟩ := hb _ _ hlt
    have := hmin m hm2
    omega
  have gq : ∀ x ∈ q, g x = f x := fun x hx => by rw [hg x (b2 x hx), if_neg (show ¬ x = t from fun e => htq (e ▸ hx))]
  have gt : g t = f (q.getD h 0) + 1 := by rw [hg t ht, if_pos rfl]
  have gi : ∀ i, i < q.length → (q ++ [t]).getD i 0 = q.getD i 0 := fun i hi => gD_app1 hi
  have gi2 : (q ++ [t]).getD q.length 0 = t := gD_app2
  have gv : ∀ i, i < q.length → g ((q ++ [t]).getD i 0) = f (q.getD i 0) := fun i hi => by rw [gi i hi]; exact gq _ (getD_mem hi)
  have gl : (q ++ [t]).length = q.length + 1 := by simp
  refine ⟨?_, ?_, ?_, ?_, ?_, ?_, ?_, ?_, ?_⟩
  · rw [List.nodup_append]
    exact ⟨b1, by simp, fun x hx y hy => by
      have : y = t := by simpa using hy
      subst this
      exact fun e => htq (e ▸ hx)⟩
  · intro x hx
    rcases List.mem_append.mp hx with h1 | h1
    · exact b2 x h1
    · have : x = t := by simpa using h1
      rw [this]; exact ht
  · exact List.mem_append_left _ b3
  · intro x hx
    rw [List.mem_append, hg x hx]
    by_cases e : x = t
    · subst e
      rw [if_pos rfl]
      exact ⟨fun _ => Or.inr (by simp), fun _ => by omega⟩
    · rw [if_neg e, b4 x hx]; simp [e]
  · intro x hx
    rcases List.mem_append.mp hx with h1 | h1
    · rw [gq x h1]; exact b5 x h1
    · have : x = t := by simpa using h1
      subst this
      rw [gt]
      exact ⟨hlt, hmin⟩
  · intro i j hij hj
    rw [gl] at hj
    by_cases hj2 : j = q.length
    · subst hj2
      by_cases hi2 : i = q.length
      · rw [hi2]; exact Nat.le_refl _
      · rw [gv i (by omega), gi2, gt]; exact b9 hh i (by omega)
    · rw [gv i (by omega), gv j (by omega)]; exact b6 i j hij (by omega)
  · rw [gl]; omega
  · intro i hi y hy
    rw [gi i (by omega)] at hy
    exact List.mem_append_left _ (b8 i hi y hy)
  · intro _ i hi
    rw [gl] at hi
    rw [gv h hh]
    by_cases hi2 : i = q.length
    · rw [hi2, gi2, gt]; exact Nat.le_refl _
    · rw [gv i (by omega)]; exact b9 hh i (by omega)
theorem Bf_next {A : Nat → Nat → Prop} {a N F : Nat} {q : List Nat} {h : Nat} {f : Nat → Nat} (B : Bf A a N F q h f) (hh : h < q.length) (hA : ∀ y, A (q.getD h 0) y → y ∈ q) : Bf A a N F q (h + 1) f := by
  obtain ⟨b1, b2, b3, b4, b5, b6, b7, b8, b9⟩ := B
  refine ⟨b1, b2, b3, b4, b5, b6, hh, fun i hi y hy => ?_, fun h1 i hi => ?_⟩
  · by_cases h2 : i = h
    · subst h2; exact hA y hy
    · exact b8 i (by omega) y hy
  · have h2 := b9 hh i hi
    have h3 := b6 h (h + 1) (by omega) h1
    omega
theorem Bf_end {A : Nat → Nat → Prop} {a N F : Nat} {q : List Nat} {f : Nat → Nat} (B : Bf A a N F q q.length f) : ∀ x, x < N → f x = ds A F a x := by
  obtain ⟨b1, b2, b3, b4, b5, b6, b7, b8, b9⟩ := B
  have hall : ∀ n x, lv A a n x → x ∈ q := by
    intro n
    induction n with
    | zero => intro x hx; rw [show x = a from hx]; exact b3
    | succ n ih =>
      intro x hx
      rcases hx with hx | ⟨y, hy, hyx⟩
      · exact ih x hx
      · obtain ⟨i, hi, e⟩ := mem_getD (ih y hy)
        exact b8 i hi x (by rw [e]; exact hyx)
  intro x hx
  by_cases hq : x ∈ q
  · exact (ds_of (b5 x hq).1 (b5 x hq).2).symm
  · rw [ds_no (fun n hn => hq (hall n x hn))]
    rcases Nat.decEq (f x) F with h | h
    · exact absurd ((b4 x hx).mp h) hq
    · exact h
