/-! SOUNDNESS OF THE ABSTRACT MACHINE, 1: what its values, locals and heap stand for -/
def am_vr (tk : Nat → Value) (ad : Nat → Nat) (nx : Nat) (v w : Value) : Prop := match v with
  | .int x => w = .int x
  | .long x => w = .long x
  | .null => w = .null
  | .ref k => k < nx ∧ w = .ref (ad k)
  | .retAddr j => w = tk j ∧ ((∃ q, tk j = .ref q) ∨ tk j = .null)
  | _ => False
def am_vs (tk : Nat → Value) (ad : Nat → Nat) (nx : Nat) : List Value → List Value → Prop
  | [], w => w = []
  | v :: s, w => ∃ u t, w = u :: t ∧ am_vr tk ad nx v u ∧ am_vs tk ad nx s t
def am_L (tk : Nat → Value) (ad : Nat → Nat) (nx : Nat) (ls : List Value) (nL : Nat) (ls' : Array Slot) : Prop := ls.length = nL ∧ ls'.size = nL ∧ lv_wf ls' ∧ ∀ (i : Nat) (v : Value), ls[i]? = some v → v = .float 0 ∨ ∃ w, am_vr tk ad nx v w ∧ ls'[i]? = some (.val w)
def am_er (tk : Nat → Value) (ad : Nat → Nat) (nx : Nat) (cA : Nat → ClassId) (x : am_E) (e : va_E) : Prop := match x with
  | .inl (t, n, .inl f) => t < 3 ∧ e = .inl (cA t, n, .inl f)
  | .inl (t, n, .inr (.inl f)) => t = 3 ∧ e = .inl (cA 3, n, .inr (.inl f))
  | .inl (t, n, .inr (.inr (.inr (.inr g)))) => t = 4 ∧ ∃ g', e = .inl (cA 4, n, .inr (.inr (.inr (.inr g')))) ∧ ∀ j, (g j = none ∧ g' j = none) ∨ ∃ k, g j = some k ∧ k < nx ∧ g' j = some (ad k)
  | .inr (ci, fs) => ∃ fs', e = .inr (ci, fs') ∧ am_vs tk ad nx fs fs'
  | _ => False
def am_Rl (tk : Nat → Value) (ad : Nat → Nat) (cA : Nat → ClassId) (hp : am_H) (ws : va_W) : Prop := ws.length = hp.2.1 ∧ (∀ k, k < hp.2.1 → ∃ e, ws[k]? = some (ad k, e) ∧ am_er tk ad hp.2.1 cA (hp.1 k) e) ∧ ∀ k, hp.2.1 ≤ k → hp.1 k = .inr (999, [])
theorem am_vr.mono {tk : Nat → Value} {ad ad' : Nat → Nat} {nx nx' : Nat} {v w : Value} (h : am_vr tk ad nx v w) (hn : nx ≤ nx') (ha : ∀ k, k < nx → ad' k = ad k) : am_vr tk ad' nx' v w := by
  cases v <;> simp only [am_vr] at h ⊢ <;> try exact h
  exact ⟨Nat.lt_of_lt_of_le h.1 hn, by rw [ha _ h.1]; exact h.2⟩
theorem am_vs.mono {tk : Nat → Value} {ad ad' : Nat → Nat} {nx nx' : Nat} (hn : nx ≤ nx') (ha : ∀ k, k < nx → ad' k = ad k) : ∀ {s t : List Value}, am_vs tk ad nx s t → am_vs tk ad' nx' s t
  | [], _, h => h
  | _ :: _, _, ⟨u, t, h1, h2, h3⟩ => ⟨u, t, h1, h2.mono hn ha, am_vs.mono hn ha h3⟩
theorem am_L.mono {tk : Nat → Value} {ad ad' : Nat → Nat} {nx nx' nL : Nat} {ls : List Value} {ls' : Array Slot} (h : am_L tk ad nx ls nL ls') (hn : nx ≤ nx') (ha : ∀ k, k < nx → ad' k = ad k) : am_L tk ad' nx' ls nL ls' := by
  refine ⟨h.1, h.2.1, h.2.2.1, fun i v hi => ?_⟩
  rcases h.2.2.2 i v hi with h | ⟨w, h1, h2⟩
  · exact Or.inl h
  · exact Or.inr ⟨w, h1.mono hn ha, h2⟩
theorem am_er.mono {tk : Nat → Value} {ad ad' : Nat → Nat} {nx nx' : Nat} {cA : Nat → ClassId} {x : am_E} {e : va_E} (h : am_er tk ad nx cA x e) (hn : nx ≤ nx') (ha : ∀ k, k < nx → ad' k = ad k) : am_er tk ad' nx' cA x e := by
  rcases x with ⟨t, n, f⟩ | ⟨ci, fs⟩
  · rcases f with f | f | f | f | f <;> simp only [am_er] at h ⊢ <;> try exact h
    obtain ⟨h1, g', h2, h3⟩ := h
    refine ⟨h1, g', h2, fun j => ?_⟩
    rcases h3 j with h | ⟨k, a, b, c⟩
    · exact Or.inl h
    · exact Or.inr ⟨k, a, Nat.lt_of_lt_of_le b hn, by rw [ha _ b]; exact c⟩
  · simp only [am_er] at h ⊢
    obtain ⟨fs', h1, h2⟩ := h
    exact ⟨fs', h1, am_vs.mono hn ha h2⟩
theorem am_vs.get {tk : Nat → Value} {ad : Nat → Nat} {nx : Nat} : ∀ {s t : List Value} {i : Nat} {v : Value}, am_vs tk ad nx s t → s[i]? = some v → ∃ w, t[i]? = some w ∧ am_vr tk ad nx v w
  | [], _, i, v, _, h => by simp at h
  | _ :: _, _, 0, v, ⟨u, t, h1, h2, h3⟩, h => by
    simp at h
    subst h; subst h1
    exact ⟨u, rfl, h2⟩
  | _ :: s, _, i + 1, v, ⟨u, t, h1, h2, h3⟩, h => by
    subst h1
    simp at h
    obtain ⟨w, a, b⟩ := am_vs.get h3 h
    exact ⟨w, by simpa using a, b⟩
theorem am_vs.len {tk : Nat → Value} {ad : Nat → Nat} {nx : Nat} : ∀ {s t : List Value}, am_vs tk ad nx s t → t.length = s.length
  | [], _, h => by rw [h]
  | _ :: _, _, ⟨u, t, h1, h2, h3⟩ => by rw [h1]; simp [am_vs.len h3]
theorem am_vs.set {tk : Nat → Value} {ad : Nat → Nat} {nx : Nat} : ∀ {s t : List Value} (i : Nat) {v w : Value}, am_vs tk ad nx s t → am_vr tk ad nx v w → am_vs tk ad nx (s.set i v) (t.set i w)
  | [], _, i, v, w, h, _ => by rw [h]; simp [am_vs]
  | _ :: _, _, 0, v, w, ⟨u, t, h1, h2, h3⟩, hv => by subst h1; exact ⟨w, t, rfl, hv, h3⟩
  | _ :: s, _, i + 1, v, w, ⟨u, t, h1, h2, h3⟩, hv => by subst h1; exact ⟨u, t.set i w, rfl, h2, am_vs.set i h3 hv⟩
theorem am_vs.app {tk : Nat → Value} {ad : Nat → Nat} {nx : Nat} : ∀ {s t s2 t2 : List Value}, am_vs tk ad nx s t → am_vs tk ad nx s2 t2 → am_vs tk ad nx (s ++ s2) (t ++ t2)
  | [], _, _, _, h, h2 => by rw [h]; exact h2
  | _ :: _, _, _, _, ⟨u, t, h1, h2, h3⟩, h4 => by subst h1; exact ⟨u, _, rfl, h2, am_vs.app h3 h4⟩
theorem am_vs.take {tk : Nat → Value} {ad : Nat → Nat} {nx : Nat} : ∀ (n : Nat) {s t : List Value}, am_vs tk ad nx s t → am_vs tk ad nx (s.take n) (t.take n)
  | 0, _, _, _ => by simp [am_vs]
  | n + 1, [], _, h => by rw [h]; simp [am_vs]
  | n + 1, _ :: _, _, ⟨u, t, h1, h2, h3⟩ => by subst h1; exact ⟨u, _, rfl, h2, am_vs.take n h3⟩
theorem am_vs.drop {tk : Nat → Value} {ad : Nat → Nat} {nx : Nat} : ∀ (n : Nat) {s t : List Value}, am_vs tk ad nx s t → am_vs tk ad nx (s.drop n) (t.drop n)
  | 0, _, _, h => h
  | n + 1, [], _, h => by rw [h]; simp [am_vs]
  | n + 1, _ :: _, _, ⟨u, t, h1, h2, h3⟩ => by subst h1; simpa using am_vs.drop n h3
theorem am_vs.rev {tk : Nat → Value} {ad : Nat → Nat} {nx : Nat} : ∀ {s t : List Value}, am_vs tk ad nx s t → am_vs tk ad nx s.reverse t.reverse
  | [], _, h => by rw [h]; simp [am_vs]
  | v :: s, _, ⟨u, t, h1, h2, h3⟩ => by
    subst h1
    simp only [List.reverse_cons]
    exact am_vs.app (am_vs.rev h3) ⟨u, [], rfl, h2, rfl⟩
theorem am_vr.cat {tk : Nat → Value} {ad : Nat → Nat} {nx : Nat} {v w : Value} (h : am_vr tk ad nx v w) : w.category = v.category := by
  cases v <;> simp only [am_vr] at h
  · rw [h]
  · rw [h]
  · rw [h]
  · rw [h.2]; rfl
  · rcases h with ⟨rfl, ⟨q, h⟩ | h⟩ <;> rw [h] <;> rfl
theorem am_vs.cat {tk : Nat → Value} {ad : Nat → Nat} {nx : Nat} : ∀ {s t : List Value}, am_vs tk ad nx s t → am_cat t = am_cat s
  | [], _, h => by rw [h]
  | _ :: _, _, ⟨u, t, h1, h2, h3⟩ => by
    subst h1
    have := am_vs.cat h3
    simp only [am_cat, List.map_cons, List.sum_cons] at this ⊢
    rw [this, h2.cat]
theorem am_vr.c1 {tk : Nat → Value} {ad : Nat → Nat} {nx : Nat} {v w : Value} (h : am_vr tk ad nx v w) (hc : am_c1 v = true) : w.category = 1 := by
  rw [h.cat]
  cases v <;> simp [am_c1] at hc <;> rfl
/-- all that lies in the locals -/
def am_all (ls : Array Slot) : List (Nat × Value) := (List.range ls.size).filterMap fun (i : Nat) => match ls[i]? with
  | some (.val w) => some (i, w)
  | _ => none
theorem am_all_mem {ls : Array Slot} {i : Nat} {w : Value} : (i, w) ∈ am_all ls ↔ ls[i]? = some (.val w) := by
  simp only [am_all, List.mem_filterMap, List.mem_range]
  constructor
  · rintro ⟨j, hj, h⟩
    split at h
    · rename_i u hu
      simp at h
      obtain ⟨rfl, rfl⟩ := h
      exact hu
    · cases h
  · intro h
    exact ⟨i, (Array.getElem?_eq_some_iff.mp h).1, by rw [h]⟩
theorem am_all_has {tk : Nat → Value} {ad : Nat → Nat} {nx nL : Nat} {ls : List Value} {ls' : Array Slot} (h : am_L tk ad nx ls nL ls') : lv_has ls' nL (am_all ls') := ⟨h.2.1, h.2.2.1, fun q hq => am_all_mem.mp hq⟩
theorem am_cl_len (ls : List Value) (i : Nat) : (am_cl ls i).length = ls.length := by
  unfold am_cl
  split
  · rfl
  · split <;> simp
theorem am_cl_get {tk : Nat → Value} {ad : Nat → Nat} {nx nL : Nat} {ls : List Value} {ls' : Array Slot} (h : am_L tk ad nx ls nL ls') (i j : Nat) (u : Value) (hj : (am_cl ls i)[j]? = some u) :
    u = .float 0 ∨ ∃ w, am_vr tk ad nx u w ∧ ls'[j]? = some (.val w) ∧ (!(j + 1 == i && w.category == 2)) = true := by
  unfold am_cl at hj
  split at hj
  · rcases h.2.2.2 j u hj with h | ⟨w, h1, h2⟩
    · exact Or.inl h
    · exact Or.inr ⟨w, h1, h2, by simp⟩
  · rename_i k
    split at hj
    · rw [List.getElem?_set] at hj
      split at hj
      · split at hj
        · cases hj; exact Or.inl rfl
        · cases hj
      · rename_i hne
        rcases h.2.2.2 j u hj with h | ⟨w, h1, h2⟩
        · exact Or.inl h
        · refine Or.inr ⟨w, h1, h2, ?_⟩
          have : (j + 1 == k + 1) = false := by simp; omega
          rw [this]; rfl
    · rename_i hn
      rcases h.2.2.2 j u hj with h | ⟨w, h1, h2⟩
      · exact Or.inl h
      · by_cases e : j = k
        · subst e
          have hk : ls.getD j (.float 0) = u := by simp [List.getD, hj]
          have hc : w.category = 1 := by
            rw [h1.cat]
            cases u <;> simp only [am_vr] at h1 <;> first | rfl | exact absurd hk (hn _)
          exact Or.inr ⟨w, h1, h2, by simp [hc]⟩
        · refine Or.inr ⟨w, h1, h2, ?_⟩
          have : (j + 1 == k + 1) = false := by simp; omega
          rw [this]; rfl
theorem am_st1 {tk : Nat → Value} {ad : Nat → Nat} {nx nL : Nat} {ls : List Value} {ls' l2 : Array Slot} (h : am_L tk ad nx ls nL ls') {i : Nat} {v w : Value} (hv : am_vr tk ad nx v w) (h2 : lv_has l2 nL ((i, w) :: (am_all ls').filter (fun q => !(q.1 == i) && !(q.1 + 1 == i && q.2.category == 2)))) : am_L tk ad nx (am_s1 ls i v) nL l2 := by
  refine ⟨by simp [am_s1, am_cl_len, h.1], h2.1, h2.2.1, fun j u hj => ?_⟩
  unfold am_s1 at hj
  rw [List.getElem?_set] at hj
  split at hj
  · rename_i e
    split at hj
    · cases hj
      subst e
      exact Or.inr ⟨w, hv, h2.2.2 (i, w) List.mem_cons_self⟩
    · cases hj
  · rename_i e
    rcases am_cl_get h i j u hj with h3 | ⟨z, a, b, c⟩
    · exact Or.inl h3
    · refine Or.inr ⟨z, a, h2.2.2 (j, z) (List.mem_cons_of_mem _ (List.mem_filter.mpr ⟨am_all_mem.mpr b, ?_⟩))⟩
      have : (j == i) = false := by simp; omega
      simp only [this, c]; rfl
theorem am_st2 {tk : Nat → Value} {ad : Nat → Nat} {nx nL : Nat} {ls : List Value} {ls' l2 : Array Slot} (h : am_L tk ad nx ls nL ls') {i : Nat} {v w : Value} (hv : am_vr tk ad nx v w) (h2 : lv_has l2 nL ((i, w) :: (am_all ls').filter (fun q => !(q.1 == i) && (!(q.1 == i + 1) && !(q.1 + 1 == i && q.2.category == 2))))) : am_L tk ad nx (am_s2 ls i v) nL l2 := by
  refine ⟨by simp [am_s2, am_cl_len, h.1], h2.1, h2.2.1, fun j u hj => ?_⟩
  unfold am_s2 at hj
  rw [List.getElem?_set] at hj
  split at hj
  · split at hj
    · cases hj; exact Or.inl rfl
    · cases hj
  · rename_i e1
    rw [List.getElem?_set] at hj
    split at hj
    · rename_i e
      split at hj
      · cases hj
        subst e
        exact Or.inr ⟨w, hv, h2.2.2 (i, w) List.mem_cons_self⟩
      · cases hj
    · rename_i e
      rcases am_cl_get h i j u hj with h3 | ⟨z, a, b, c⟩
      · exact Or.inl h3
      · refine Or.inr ⟨z, a, h2.2.2 (j, z) (List.mem_cons_of_mem _ (List.mem_filter.mpr ⟨am_all_mem.mpr b, ?_⟩))⟩
        have q1 : (j == i) = false := by simp; omega
        have q2 : (j == i + 1) = false := by simp; omega
        simp only [q1, q2, c]; rfl
theorem am_L.at {tk : Nat → Value} {ad : Nat → Nat} {nx nL : Nat} {ls : List Value} {ls' : Array Slot} (h : am_L tk ad nx ls nL ls') {i : Nat} {v : Value} (hv : am_gl ls i = v) (hne : v ≠ .float 0) : ∃ w, am_vr tk ad nx v w ∧ ls'[i]? = some (.val w) := by
  unfold am_gl at hv
  rw [List.getD_eq_getElem?_getD] at hv
  cases hi : ls[i]? with
  | none => rw [hi] at hv; exact absurd hv.symm hne
  | some u =>
    rw [hi] at hv
    rcases h.2.2.2 i u hi with h | h
    · exact absurd (hv.symm.trans h) hne
    · rw [← (show u = v from hv)]; exact h
theorem am_Rl.get {tk : Nat → Value} {ad : Nat → Nat} {cA : Nat → ClassId} {hp : am_H} {ws : va_W} (h : am_Rl tk ad cA hp ws) {k : Nat} (hk : k < hp.2.1) : ∃ e, ws[k]? = some (ad k, e) ∧ am_er tk ad hp.2.1 cA (hp.1 k) e := h.2.1 k hk
theorem am_Rl.set {tk : Nat → Value} {ad : Nat → Nat} {cA : Nat → ClassId} {hp : am_H} {ws : va_W} (h : am_Rl tk ad cA hp ws) {a : Nat} (ha : a < hp.2.1) {x : am_E} {e : va_E} (he : am_er tk ad hp.2.1 cA x e) : am_Rl tk ad cA (am_set hp a x) (ws.set a (ad a, e)) := by
  refine ⟨by simp [am_set, h.1], fun k hk => ?_, fun k hk => ?_⟩
  · by_cases q : k = a
    · subst q
      refine ⟨e, ?_, ?_⟩
      · rw [List.getElem?_set_self (by rw [h.1]; exact ha)]
      · simpa [am_set, am_up] using he
    · obtain ⟨e1, h1, h2⟩ := h.2.1 k hk
      refine ⟨e1, ?_, ?_⟩
      · rw [List.getElem?_set_ne (Ne.symm q)]; exact h1
      · simpa [am_set, am_up, q] using h2
  · have hk : hp.2.1 ≤ k := hk
    have q : ¬ k = a := by omega
    simpa [am_set, am_up, q] using h.2.2 k hk
theorem am_Rl.push {tk : Nat → Value} {ad : Nat → Nat} {cA : Nat → ClassId} {hp : am_H} {ws : va_W} (h : am_Rl tk ad cA hp ws) (q n : Nat) {x : am_E} {e : va_E} (he : am_er tk (fun k => if k = hp.2.1 then q else ad k) (hp.2.1 + 1) cA x e) : am_Rl tk (fun k => if k = hp.2.1 then q else ad k) cA (am_push hp x n) (ws ++ [(q, e)]) := by
  refine ⟨by simp [am_push, h.1], fun k hk => ?_, fun k hk => ?_⟩
  · by_cases z : k = hp.2.1
    · refine ⟨e, ?_, ?_⟩
      · rw [List.getElem?_append_right (by rw [h.1]; omega), h.1, z]; simp
      · simpa [am_push, am_up, z] using he
    · have hk : k < hp.2.1 + 1 := hk
      have hk2 : k < hp.2.1 := by omega
      obtain ⟨e1, h1, h2⟩ := h.2.1 k hk2
      refine ⟨e1, ?_, ?_⟩
      · rw [List.getElem?_append_left (by rw [h.1]; exact hk2), h1]; simp [z]
      · have h3 : am_er tk (fun k => if k = hp.2.1 then q else ad k) (hp.2.1 + 1) cA (hp.1 k) e1 := h2.mono (Nat.le_succ _) (fun j hj => by
          have : ¬ j = hp.2.1 := by omega
          simp [this])
        simpa [am_push, am_up, z] using h3
  · have hk : hp.2.1 + 1 ≤ k := hk
    have z : ¬ k = hp.2.1 := by omega
    simpa [am_push, am_up, z] using h.2.2 k (by omega)
