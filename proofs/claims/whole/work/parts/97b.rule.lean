/-! RULES, 1: 'the abstract machine goes on to an end with Q', and its rules -/
def gG (X : am_X) (d y pc : Nat) (ls st : List Value) (hp : am_H) (Q : Option Value → am_H → Prop) : Prop := ∃ (n : Nat) (v : Option Value) (hp' : am_H), am_ex am_T am_mx am_DF X n d y pc ls st hp = some (v, hp') ∧ Q v hp'
/-- a method's run from its start -/
def gE (X : am_X) (d y : Nat) (vs : List Value) (hp : am_H) (Q : Option Value → am_H → Prop) : Prop := (am_flat vs).length ≤ am_mx y ∧ gG X d y 0 (am_ent (am_mx y) vs) [] hp Q
section GR
variable {X : am_X} {d y pc nx tgt : Nat} {ls l2 st : List Value} {hp : am_H} {Q : Option Value → am_H → Prop} {i : ClassFile.Instr} {r : List Nat} {k : Value} {ix : Nat}
theorem gE.mk {m : Nat} {vs l : List Value} (hm : am_mx y = m) (hl : am_ent m vs = l) (hf : (am_flat vs).length ≤ m) (g : gG X d y 0 l [] hp Q) : gE X d y vs hp Q := by
  subst hm; subst hl
  exact ⟨hf, g⟩
theorem gG.cons {Q2 : Option Value → am_H → Prop} (g : gG X d y pc ls st hp Q) (h : ∀ v hp', Q v hp' → Q2 v hp') : gG X d y pc ls st hp Q2 := by
  obtain ⟨n, v, hp', e, q⟩ := g
  exact ⟨n, v, hp', e, h v hp' q⟩
theorem gE.cons {vs : List Value} {Q2 : Option Value → am_H → Prop} (g : gE X d y vs hp Q) (h : ∀ v hp', Q v hp' → Q2 v hp') : gE X d y vs hp Q2 := ⟨g.1, g.2.cons h⟩
theorem gG.up {d2 : Nat} (g : gG X d y pc ls st hp Q) (h : d ≤ d2) : gG X d2 y pc ls st hp Q := by
  obtain ⟨n, v, hp', e, q⟩ := g
  exact ⟨n, v, hp', am_ex_le _ _ _ _ _ _ _ _ _ _ e (Nat.le_refl _) h, q⟩
theorem gE.up {d2 : Nat} {vs : List Value} (g : gE X d y vs hp Q) (h : d ≤ d2) : gE X d2 y vs hp Q := ⟨g.1, g.2.up h⟩
theorem g_p {s1 : List Value} (t : am_T y pc = some (0, i, nx, r, k)) (h : am_p i k ls st = some (l2, s1)) (g : gG X d y nx l2 s1 hp Q) : gG X d y pc ls st hp Q := by
  obtain ⟨n, v, hp', e, q⟩ := g
  refine ⟨n + 1, v, hp', ?_, q⟩
  rw [am_ex, t]
  show (am_p i k ls st).bind _ = _
  rw [h]
  exact e
theorem g_b {b : Bool} {s1 : List Value} (t : am_T y pc = some (1, i, nx, [tgt], k)) (h : am_b i st = some (b, s1)) (g : gG X d y (if b then tgt else nx) ls s1 hp Q) : gG X d y pc ls st hp Q := by
  obtain ⟨n, v, hp', e, q⟩ := g
  refine ⟨n + 1, v, hp', ?_, q⟩
  rw [am_ex, t]
  show (am_b i st).bind _ = _
  rw [h]
  exact e
theorem g_h {hp1 : am_H} {s1 : List Value} (t : am_T y pc = some (2, i, nx, r, k)) (h : am_h am_DF X i r k st hp = some (s1, hp1)) (g : gG X d y nx ls s1 hp1 Q) : gG X d y pc ls st hp Q := by
  obtain ⟨n, v, hp', e, q⟩ := g
  refine ⟨n + 1, v, hp', ?_, q⟩
  rw [am_ex, t]
  show (am_h am_DF X i r k st hp).bind _ = _
  rw [h]
  exact e
theorem g_c {y2 : Nat} {vs rest : List Value} (t : am_T y pc = some (3, i, nx, r, k)) (h : am_call X i r st hp = some (y2, vs, rest)) (g : gE X d y2 vs hp (fun v hp' => am_thr v = false ∧ gG X (d + 1) y nx ls (v.toList ++ rest) hp' Q)) : gG X (d + 1) y pc ls st hp Q := by
  obtain ⟨hf, n1, v1, hp1, e1, hz, n2, v2, hp2, e2, q⟩ := g
  refine ⟨max n1 n2 + 1, v2, hp2, ?_, q⟩
  rw [am_ex, t]
  show (am_call X i r st hp).bind _ = _
  rw [h]
  show (if (am_flat vs).length ≤ am_mx y2 then _ else _) = _
  rw [if_pos hf, am_ex_le _ _ _ _ _ _ _ _ _ _ e1 (Nat.le_max_left n1 n2) (Nat.le_refl _)]
  show (if am_thr v1 = true then _ else _) = _
  rw [if_neg (by rw [hz]; decide)]
  exact am_ex_le _ _ _ _ _ _ _ _ _ _ e2 (Nat.le_max_right n1 n2) (Nat.le_refl _)
theorem g_r {v : Option Value} (t : am_T y pc = some (4, i, nx, r, k)) (h : am_ret i r st = some v) (q : Q v hp) : gG X d y pc ls st hp Q := by
  refine ⟨1, v, hp, ?_, q⟩
  rw [am_ex, t]
  show (am_ret i r st).bind _ = _
  rw [h]
  rfl
theorem g_sw {x : Int32} (t : am_T y pc = some (5, i, nx, r, k)) (h : am_sw x r k = tgt) (g : gG X d y tgt ls st hp Q) : gG X d y pc ls (.int x :: st) hp Q := by
  obtain ⟨n, v, hp', e, q⟩ := g
  refine ⟨n + 1, v, hp', ?_, q⟩
  rw [am_ex, t]
  show am_ex am_T am_mx am_DF X n d y (am_sw x r k) ls st hp = _
  rw [h]
  exact e
-- reckoning, without a lambda left behind
variable {a b : Int32} {u w : Int64}
theorem g_iadd (t : am_T y pc = some (0, .iadd, nx, r, k)) (g : gG X d y nx ls (.int (a + b) :: st) hp Q) : gG X d y pc ls (.int b :: .int a :: st) hp Q := g_p t rfl g
theorem g_isub (t : am_T y pc = some (0, .isub, nx, r, k)) (g : gG X d y nx ls (.int (a - b) :: st) hp Q) : gG X d y pc ls (.int b :: .int a :: st) hp Q := g_p t rfl g
theorem g_imul (t : am_T y pc = some (0, .imul, nx, r, k)) (g : gG X d y nx ls (.int (a * b) :: st) hp Q) : gG X d y pc ls (.int b :: .int a :: st) hp Q := g_p t rfl g
theorem g_iand (t : am_T y pc = some (0, .iand, nx, r, k)) (g : gG X d y nx ls (.int (a &&& b) :: st) hp Q) : gG X d y pc ls (.int b :: .int a :: st) hp Q := g_p t rfl g
theorem g_ior (t : am_T y pc = some (0, .ior, nx, r, k)) (g : gG X d y nx ls (.int (a ||| b) :: st) hp Q) : gG X d y pc ls (.int b :: .int a :: st) hp Q := g_p t rfl g
theorem g_ixor (t : am_T y pc = some (0, .ixor, nx, r, k)) (g : gG X d y nx ls (.int (a ^^^ b) :: st) hp Q) : gG X d y pc ls (.int b :: .int a :: st) hp Q := g_p t rfl g
theorem g_ishl (t : am_T y pc = some (0, .ishl, nx, r, k)) (g : gG X d y nx ls (.int (a <<< (b &&& 31)) :: st) hp Q) : gG X d y pc ls (.int b :: .int a :: st) hp Q := g_p t rfl g
theorem g_ishr (t : am_T y pc = some (0, .ishr, nx, r, k)) (g : gG X d y nx ls (.int (a >>> (b &&& 31)) :: st) hp Q) : gG X d y pc ls (.int b :: .int a :: st) hp Q := g_p t rfl g
theorem g_iushr (t : am_T y pc = some (0, .iushr, nx, r, k)) (g : gG X d y nx ls (.int ((a.toUInt32 >>> (b.toUInt32 &&& Int32.toUInt32 31)).toInt32) :: st) hp Q) : gG X d y pc ls (.int b :: .int a :: st) hp Q := g_p t rfl g
theorem g_idiv (t : am_T y pc = some (0, .idiv, nx, r, k)) (h : ¬ b = 0) (g : gG X d y nx ls (.int (a / b) :: st) hp Q) : gG X d y pc ls (.int b :: .int a :: st) hp Q := g_p t (by simp only [am_p]; rw [if_neg h]) g
theorem g_irem (t : am_T y pc = some (0, .irem, nx, r, k)) (h : ¬ b = 0) (g : gG X d y nx ls (.int (a - a / b * b) :: st) hp Q) : gG X d y pc ls (.int b :: .int a :: st) hp Q := g_p t (by simp only [am_p]; rw [if_neg h]) g
theorem g_ladd (t : am_T y pc = some (0, .ladd, nx, r, k)) (g : gG X d y nx ls (.long (u + w) :: st) hp Q) : gG X d y pc ls (.long w :: .long u :: st) hp Q := g_p t rfl g
theorem g_lsub (t : am_T y pc = some (0, .lsub, nx, r, k)) (g : gG X d y nx ls (.long (u - w) :: st) hp Q) : gG X d y pc ls (.long w :: .long u :: st) hp Q := g_p t rfl g
theorem g_lmul (t : am_T y pc = some (0, .lmul, nx, r, k)) (g : gG X d y nx ls (.long (u * w) :: st) hp Q) : gG X d y pc ls (.long w :: .long u :: st) hp Q := g_p t rfl g
theorem g_land (t : am_T y pc = some (0, .land, nx, r, k)) (g : gG X d y nx ls (.long (u &&& w) :: st) hp Q) : gG X d y pc ls (.long w :: .long u :: st) hp Q := g_p t rfl g
theorem g_lor (t : am_T y pc = some (0, .lor, nx, r, k)) (g : gG X d y nx ls (.long (u ||| w) :: st) hp Q) : gG X d y pc ls (.long w :: .long u :: st) hp Q := g_p t rfl g
theorem g_ldiv (t : am_T y pc = some (0, .ldiv, nx, r, k)) (h : ¬ w = 0) (g : gG X d y nx ls (.long (u / w) :: st) hp Q) : gG X d y pc ls (.long w :: .long u :: st) hp Q := g_p t (by simp only [am_p]; rw [if_neg h]) g
theorem g_lrem (t : am_T y pc = some (0, .lrem, nx, r, k)) (h : ¬ w = 0) (g : gG X d y nx ls (.long (u - u / w * w) :: st) hp Q) : gG X d y pc ls (.long w :: .long u :: st) hp Q := g_p t (by simp only [am_p]; rw [if_neg h]) g
-- stores: the new locals by name
theorem g_is {j : Nat} (t : am_T y pc = some (0, .istore j, nx, r, k)) (hj : j < ls.length) (hl : am_s1 ls j (.int a) = l2) (g : gG X d y nx l2 st hp Q) : gG X d y pc ls (.int a :: st) hp Q := g_p t (by simp only [am_p, am_si]; rw [if_pos hj, hl]) g
theorem g_isn {j : Fin 4} (t : am_T y pc = some (0, .istore_n j, nx, r, k)) (hj : j.val < ls.length) (hl : am_s1 ls j.val (.int a) = l2) (g : gG X d y nx l2 st hp Q) : gG X d y pc ls (.int a :: st) hp Q := g_p t (by simp only [am_p, am_si]; rw [if_pos hj, hl]) g
theorem g_ls {j : Nat} (t : am_T y pc = some (0, .lstore j, nx, r, k)) (hj : j + 1 < ls.length) (hl : am_s2 ls j (.long u) = l2) (g : gG X d y nx l2 st hp Q) : gG X d y pc ls (.long u :: st) hp Q := g_p t (by simp only [am_p, am_sl]; rw [if_pos hj, hl]) g
theorem g_lsn {j : Fin 4} (t : am_T y pc = some (0, .lstore_n j, nx, r, k)) (hj : j.val + 1 < ls.length) (hl : am_s2 ls j.val (.long u) = l2) (g : gG X d y nx l2 st hp Q) : gG X d y pc ls (.long u :: st) hp Q := g_p t (by simp only [am_p, am_sl]; rw [if_pos hj, hl]) g
theorem g_as {j : Nat} {v : Value} (t : am_T y pc = some (0, .astore j, nx, r, k)) (hv : am_isr v = true) (hj : j < ls.length) (hl : am_s1 ls j v = l2) (g : gG X d y nx l2 st hp Q) : gG X d y pc ls (v :: st) hp Q := g_p t (by cases v <;> simp only [am_isr] at hv <;> first | (cases hv; done) | (simp only [am_p, am_sa]; rw [if_pos hj, hl])) g
theorem g_asn {j : Fin 4} {v : Value} (t : am_T y pc = some (0, .astore_n j, nx, r, k)) (hv : am_isr v = true) (hj : j.val < ls.length) (hl : am_s1 ls j.val v = l2) (g : gG X d y nx l2 st hp Q) : gG X d y pc ls (v :: st) hp Q := g_p t (by cases v <;> simp only [am_isr] at hv <;> first | (cases hv; done) | (simp only [am_p, am_sa]; rw [if_pos hj, hl])) g
theorem g_inc {j : Nat} {n : Int} {c : Int32} (t : am_T y pc = some (0, .iinc j n, nx, r, .int c)) (ha : am_gl ls j = .int a) (hj : j < ls.length) (hl : am_s1 ls j (.int (a + c)) = l2) (g : gG X d y nx l2 st hp Q) : gG X d y pc ls st hp Q := g_p t (by simp only [am_p]; rw [ha]; simp only; rw [if_pos hj, hl]) g
-- branches
theorem g_goto {o : Int} (t : am_T y pc = some (1, .goto o, nx, [tgt], k)) (g : gG X d y tgt ls st hp Q) : gG X d y pc ls st hp Q := g_b t rfl g
theorem g_br {c : Bool} {s1 : List Value} (t : am_T y pc = some (1, i, nx, [tgt], k)) (h : am_b i st = some (c, s1)) (g1 : c = true → gG X d y tgt ls s1 hp Q) (g2 : c = false → gG X d y nx ls s1 hp Q) : gG X d y pc ls st hp Q := g_b t h (by cases c; exact g2 rfl; exact g1 rfl)
theorem g_if {c : ClassFile.Cond} {o : Int} (t : am_T y pc = some (1, .ifCond c o, nx, [tgt], k)) (g1 : am_cmp c a 0 = true → gG X d y tgt ls st hp Q) (g2 : am_cmp c a 0 = false → gG X d y nx ls st hp Q) : gG X d y pc ls (.int a :: st) hp Q := g_br t rfl g1 g2
theorem g_eq {o : Int} (t : am_T y pc = some (1, .ifCond .eq o, nx, [tgt], k)) (g1 : a = 0 → gG X d y tgt ls st hp Q) (g2 : ¬ a = 0 → gG X d y nx ls st hp Q) : gG X d y pc ls (.int a :: st) hp Q := g_if t (fun h => g1 (by simpa [am_cmp] using h)) (fun h => g2 (by simpa [am_cmp] using h))
theorem g_ne {o : Int} (t : am_T y pc = some (1, .ifCond .ne o, nx, [tgt], k)) (g1 : ¬ a = 0 → gG X d y tgt ls st hp Q) (g2 : a = 0 → gG X d y nx ls st hp Q) : gG X d y pc ls (.int a :: st) hp Q := g_if t (fun h => g1 (by simpa [am_cmp] using h)) (fun h => g2 (by simpa [am_cmp] using h))
theorem g_lt {o : Int} (t : am_T y pc = some (1, .ifCond .lt o, nx, [tgt], k)) (g1 : a < 0 → gG X d y tgt ls st hp Q) (g2 : ¬ a < 0 → gG X d y nx ls st hp Q) : gG X d y pc ls (.int a :: st) hp Q := g_if t (fun h => g1 (of_decide_eq_true h)) (fun h => g2 (of_decide_eq_false h))
theorem g_ge {o : Int} (t : am_T y pc = some (1, .ifCond .ge o, nx, [tgt], k)) (g1 : 0 ≤ a → gG X d y tgt ls st hp Q) (g2 : ¬ 0 ≤ a → gG X d y nx ls st hp Q) : gG X d y pc ls (.int a :: st) hp Q := g_if t (fun h => g1 (of_decide_eq_true h)) (fun h => g2 (of_decide_eq_false h))
theorem g_gt {o : Int} (t : am_T y pc = some (1, .ifCond .gt o, nx, [tgt], k)) (g1 : 0 < a → gG X d y tgt ls st hp Q) (g2 : ¬ 0 < a → gG X d y nx ls st hp Q) : gG X d y pc ls (.int a :: st) hp Q := g_if t (fun h => g1 (of_decide_eq_true h)) (fun h => g2 (of_decide_eq_false h))
theorem g_le {o : Int} (t : am_T y pc = some (1, .ifCond .le o, nx, [tgt], k)) (g1 : a ≤ 0 → gG X d y tgt ls st hp Q) (g2 : ¬ a ≤ 0 → gG X d y nx ls st hp Q) : gG X d y pc ls (.int a :: st) hp Q := g_if t (fun h => g1 (of_decide_eq_true h)) (fun h => g2 (of_decide_eq_false h))
theorem g_cm {c : ClassFile.Cond} {o : Int} (t : am_T y pc = some (1, .if_icmp c o, nx, [tgt], k)) (g1 : am_cmp c a b = true → gG X d y tgt ls st hp Q) (g2 : am_cmp c a b = false → gG X d y nx ls st hp Q) : gG X d y pc ls (.int b :: .int a :: st) hp Q := g_br t rfl g1 g2
theorem g_ceq {o : Int} (t : am_T y pc = some (1, .if_icmp .eq o, nx, [tgt], k)) (g1 : a = b → gG X d y tgt ls st hp Q) (g2 : ¬ a = b → gG X d y nx ls st hp Q) : gG X d y pc ls (.int b :: .int a :: st) hp Q := g_cm t (fun h => g1 (by simpa [am_cmp] using h)) (fun h => g2 (by simpa [am_cmp] using h))
theorem g_cne {o : Int} (t : am_T y pc = some (1, .if_icmp .ne o, nx, [tgt], k)) (g1 : ¬ a = b → gG X d y tgt ls st hp Q) (g2 : a = b → gG X d y nx ls st hp Q) : gG X d y pc ls (.int b :: .int a :: st) hp Q := g_cm t (fun h => g1 (by simpa [am_cmp] using h)) (fun h => g2 (by simpa [am_cmp] using h))
theorem g_clt {o : Int} (t : am_T y pc = some (1, .if_icmp .lt o, nx, [tgt], k)) (g1 : a < b → gG X d y tgt ls st hp Q) (g2 : ¬ a < b → gG X d y nx ls st hp Q) : gG X d y pc ls (.int b :: .int a :: st) hp Q := g_cm t (fun h => g1 (of_decide_eq_true h)) (fun h => g2 (of_decide_eq_false h))
theorem g_cge {o : Int} (t : am_T y pc = some (1, .if_icmp .ge o, nx, [tgt], k)) (g1 : b ≤ a → gG X d y tgt ls st hp Q) (g2 : ¬ b ≤ a → gG X d y nx ls st hp Q) : gG X d y pc ls (.int b :: .int a :: st) hp Q := g_cm t (fun h => g1 (of_decide_eq_true h)) (fun h => g2 (of_decide_eq_false h))
theorem g_cgt {o : Int} (t : am_T y pc = some (1, .if_icmp .gt o, nx, [tgt], k)) (g1 : b < a → gG X d y tgt ls st hp Q) (g2 : ¬ b < a → gG X d y nx ls st hp Q) : gG X d y pc ls (.int b :: .int a :: st) hp Q := g_cm t (fun h => g1 (of_decide_eq_true h)) (fun h => g2 (of_decide_eq_false h))
theorem g_cle {o : Int} (t : am_T y pc = some (1, .if_icmp .le o, nx, [tgt], k)) (g1 : a ≤ b → gG X d y tgt ls st hp Q) (g2 : ¬ a ≤ b → gG X d y nx ls st hp Q) : gG X d y pc ls (.int b :: .int a :: st) hp Q := g_cm t (fun h => g1 (of_decide_eq_true h)) (fun h => g2 (of_decide_eq_false h))
-- the heap's own, without memory
theorem g_min (t : am_T y pc = some (2, .invokestatic ix, nx, [0], k)) (hc : am_cat (.int b :: .int a :: st) ≤ 16) (g : gG X d y nx ls (.int (if b < a then b else a) :: st) hp Q) : gG X d y pc ls (.int b :: .int a :: st) hp Q :=
  g_h t (by simp only [am_h]; rw [if_neg (by omega)]; rfl) g
theorem g_max (t : am_T y pc = some (2, .invokestatic ix, nx, [1], k)) (hc : am_cat (.int b :: .int a :: st) ≤ 16) (g : gG X d y nx ls (.int (if a < b then b else a) :: st) hp Q) : gG X d y pc ls (.int b :: .int a :: st) hp Q :=
  g_h t (by simp only [am_h]; rw [if_neg (by omega)]; rfl) g
theorem g_minl (t : am_T y pc = some (2, .invokestatic ix, nx, [2], k)) (hc : am_cat (.long w :: .long u :: st) ≤ 16) (g : gG X d y nx ls (.long (if w < u then w else u) :: st) hp Q) : gG X d y pc ls (.long w :: .long u :: st) hp Q :=
  g_h t (by simp only [am_h]; rw [if_neg (by omega)]; rfl) g
theorem g_maxl (t : am_T y pc = some (2, .invokestatic ix, nx, [3], k)) (hc : am_cat (.long w :: .long u :: st) ≤ 16) (g : gG X d y nx ls (.long (if w < u then u else w) :: st) hp Q) : gG X d y pc ls (.long w :: .long u :: st) hp Q :=
  g_h t (by simp only [am_h]; rw [if_neg (by omega)]; rfl) g
theorem g_oi {p : Nat} (t : am_T y pc = some (2, .invokespecial ix, nx, [], k)) (hc : am_cat st ≤ 8) (g : gG X d y nx ls st hp Q) : gG X d y pc ls (.ref p :: st) hp Q :=
  g_h t (by simp only [am_h]; rw [if_pos hc]) g
theorem g_cs {n y2 : Nat} {vs rest : List Value} (t : am_T y pc = some (3, .invokestatic ix, nx, [n, y2], k)) (hc : (decide (am_cat (st.drop n) ≤ 8) && decide (n ≤ st.length)) = true) (h1 : (st.take n).reverse = vs) (h2 : st.drop n = rest) (g : gE X d y2 vs hp (fun v hp' => am_thr v = false ∧ gG X (d + 1) y nx ls (v.toList ++ rest) hp' Q)) : gG X (d + 1) y pc ls st hp Q := by
  subst h1; subst h2
  refine g_c t ?_ g
  unfold am_call
  split
  · rfl
  · rename_i h9
    exact absurd hc h9
theorem g_ci {n y2 o : Nat} {as rest : List Value} (t : am_T y pc = some (3, .invokespecial ix, nx, [n, y2], k)) (hc : (decide (am_cat (st.drop n) ≤ 8) && decide (n ≤ st.length)) = true) (h1 : (st.take n).reverse = .ref o :: as) (h2 : st.drop n = rest) (g : gE X d y2 (.ref o :: as) hp (fun v hp' => am_thr v = false ∧ gG X (d + 1) y nx ls (v.toList ++ rest) hp' Q)) : gG X (d + 1) y pc ls st hp Q := by
  subst h2
  refine g_c t ?_ g
  unfold am_call
  split
  · simp only [List.headD_cons, h1]
  · rename_i h9
    exact absurd hc h9
-- natural numbers
def bI (b : Bool) : Int32 := match b with
  | true => nI 1
  | false => nI 0
theorem g_k {n : Nat} (t : am_T y pc = some (0, i, nx, r, k)) (h : am_p i k ls st = some (ls, k :: st)) (hk : k = .int (nI n)) (g : gG X d y nx ls (.int (nI n) :: st) hp Q) : gG X d y pc ls st hp Q := by
  subst hk
  exact g_p t h g
variable {m n : Nat}
theorem g_addn (t : am_T y pc = some (0, .iadd, nx, r, k)) (g : gG X d y nx ls (.int (nI (m + n)) :: st) hp Q) : gG X d y pc ls (.int (nI n) :: .int (nI m) :: st) hp Q := g_iadd t (by rw [nI_add]; exact g)
theorem g_subn (t : am_T y pc = some (0, .isub, nx, r, k)) (h : n ≤ m) (g : gG X d y nx ls (.int (nI (m - n)) :: st) hp Q) : gG X d y pc ls (.int (nI n) :: .int (nI m) :: st) hp Q := g_isub t (by rw [pk_sub h]; exact g)
theorem g_muln (t : am_T y pc = some (0, .imul, nx, r, k)) (g : gG X d y nx ls (.int (nI (m * n)) :: st) hp Q) : gG X d y pc ls (.int (nI n) :: .int (nI m) :: st) hp Q := g_imul t (by rw [pk_mul]; exact g)
theorem g_divn (t : am_T y pc = some (0, .idiv, nx, r, k)) (ha : m < 2 ^ 31) (h0 : 0 < n) (hb : n < 2 ^ 31) (g : gG X d y nx ls (.int (nI (m / n)) :: st) hp Q) : gG X d y pc ls (.int (nI n) :: .int (nI m) :: st) hp Q := g_idiv t (nI_ne0 h0 hb) (by rw [pk_div ha h0 hb]; exact g)
theorem g_remn (t : am_T y pc = some (0, .irem, nx, r, k)) (ha : m < 2 ^ 31) (h0 : 0 < n) (hb : n < 2 ^ 31) (g : gG X d y nx ls (.int (nI (m % n)) :: st) hp Q) : gG X d y pc ls (.int (nI n) :: .int (nI m) :: st) hp Q := g_irem t (nI_ne0 h0 hb) (by rw [pk_rem ha h0 hb]; exact g)
theorem g_incn {j : Nat} {z : Int} (t : am_T y pc = some (0, .iinc j z, nx, r, k)) (hk : k = .int (nI n)) (ha : am_gl ls j = .int (nI m)) (hj : j < ls.length) (hl : am_s1 ls j (.int (nI (m + n))) = l2) (g : gG X d y nx l2 st hp Q) : gG X d y pc ls st hp Q := by
  subst hk
  exact g_inc t ha hj (by rw [nI_add]; exact hl) g
theorem g_decn {j : Nat} {z : Int} (t : am_T y pc = some (0, .iinc j z, nx, r, k)) (hk : k = .int (-1)) (ha : am_gl ls j = .int (nI (m + 1))) (hj : j < ls.length) (hl : am_s1 ls j (.int (nI m)) = l2) (g : gG X d y nx l2 st hp Q) : gG X d y pc ls st hp Q := by
  subst hk
  exact g_inc t ha hj (by rw [pk_m1]; exact hl) g
-- compares of natural numbers
theorem n_ceq {o : Int} (t : am_T y pc = some (1, .if_icmp .eq o, nx, [tgt], k)) (ha : m < 2 ^ 31) (hb : n < 2 ^ 31) (g1 : m = n → gG X d y tgt ls st hp Q) (g2 : ¬ m = n → gG X d y nx ls st hp Q) : gG X d y pc ls (.int (nI n) :: .int (nI m) :: st) hp Q := g_ceq t (fun h => g1 ((nI_eq ha hb).mp h)) (fun h => g2 (fun h2 => h ((nI_eq ha hb).mpr h2)))
theorem n_cne {o : Int} (t : am_T y pc = some (1, .if_icmp .ne o, nx, [tgt], k)) (ha : m < 2 ^ 31) (hb : n < 2 ^ 31) (g1 : ¬ m = n → gG X d y tgt ls st hp Q) (g2 : m = n → gG X d y nx ls st hp Q) : gG X d y pc ls (.int (nI n) :: .int (nI m) :: st) hp Q := g_cne t (fun h => g1 (fun h2 => h ((nI_eq ha hb).mpr h2))) (fun h => g2 ((nI_eq ha hb).mp h))
theorem n_clt {o : Int} (t : am_T y pc = some (1, .if_icmp .lt o, nx, [tgt], k)) (ha : m < 2 ^ 31) (hb : n < 2 ^ 31) (g1 : m < n → gG X d y tgt ls st hp Q) (g2 : ¬ m < n → gG X d y nx ls st hp Q) : gG X d y pc ls (.int (nI n) :: .int (nI m) :: st) hp Q := g_clt t (fun h => g1 ((nI_ltI ha hb).mp h)) (fun h => g2 (fun h2 => h ((nI_ltI ha hb).mpr h2)))
theorem n_cge {o : Int} (t : am_T y pc = some (1, .if_icmp .ge o, nx, [tgt], k)) (ha : m < 2 ^ 31) (hb : n < 2 ^ 31) (g1 : n ≤ m → gG X d y tgt ls st hp Q) (g2 : ¬ n ≤ m → gG X d y nx ls st hp Q) : gG X d y pc ls (.int (nI n) :: .int (nI m) :: st) hp Q := g_cge t (fun h => g1 ((nI_leI hb ha).mp h)) (fun h => g2 (fun h2 => h ((nI_leI hb ha).mpr h2)))
theorem n_cgt {o : Int} (t : am_T y pc = some (1, .if_icmp .gt o, nx, [tgt], k)) (ha : m < 2 ^ 31) (hb : n < 2 ^ 31) (g1 : n < m → gG X d y tgt ls st hp Q) (g2 : ¬ n < m → gG X d y nx ls st hp Q) : gG X d y pc ls (.int (nI n) :: .int (nI m) :: st) hp Q := g_cgt t (fun h => g1 ((nI_ltI hb ha).mp h)) (fun h => g2 (fun h2 => h ((nI_ltI hb ha).mpr h2)))
theorem n_cle {o : Int} (t : am_T y pc = some (1, .if_icmp .le o, nx, [tgt], k)) (ha : m < 2 ^ 31) (hb : n < 2 ^ 31) (g1 : m ≤ n → gG X d y tgt ls st hp Q) (g2 : ¬ m ≤ n → gG X d y nx ls st hp Q) : gG X d y pc ls (.int (nI n) :: .int (nI m) :: st) hp Q := g_cle t (fun h => g1 ((nI_leI ha hb).mp h)) (fun h => g2 (fun h2 => h ((nI_leI ha hb).mpr h2)))
theorem n_eq {o : Int} (t : am_T y pc = some (1, .ifCond .eq o, nx, [tgt], k)) (ha : m < 2 ^ 31) (g1 : m = 0 → gG X d y tgt ls st hp Q) (g2 : ¬ m = 0 → gG X d y nx ls st hp Q) : gG X d y pc ls (.int (nI m) :: st) hp Q := g_eq t (fun h => g1 ((nI_eq ha (by decide)).mp (h.trans nI_0.symm))) (fun h => g2 (fun h2 => h (by rw [h2]; exact nI_0)))
theorem n_ne {o : Int} (t : am_T y pc = some (1, .ifCond .ne o, nx, [tgt], k)) (ha : m < 2 ^ 31) (g1 : ¬ m = 0 → gG X d y tgt ls st hp Q) (g2 : m = 0 → gG X d y nx ls st hp Q) : gG X d y pc ls (.int (nI m) :: st) hp Q := g_ne t (fun h => g1 (fun h2 => h (by rw [h2]; exact nI_0))) (fun h => g2 ((nI_eq ha (by decide)).mp (h.trans nI_0.symm)))
theorem n_lt {o : Int} (t : am_T y pc = some (1, .ifCond .lt o, nx, [tgt], k)) (ha : m < 2 ^ 31) (g2 : gG X d y nx ls st hp Q) : gG X d y pc ls (.int (nI m) :: st) hp Q := g_lt t (fun h => absurd h (nI_pos ha)) (fun _ => g2)
theorem n_ge {o : Int} (t : am_T y pc = some (1, .ifCond .ge o, nx, [tgt], k)) (ha : m < 2 ^ 31) (g1 : gG X d y tgt ls st hp Q) : gG X d y pc ls (.int (nI m) :: st) hp Q := g_ge t (fun _ => g1) (fun h => absurd (nI_pos' ha) h)
theorem n_gt {o : Int} (t : am_T y pc = some (1, .ifCond .gt o, nx, [tgt], k)) (ha : m < 2 ^ 31) (g1 : 0 < m → gG X d y tgt ls st hp Q) (g2 : m = 0 → gG X d y nx ls st hp Q) : gG X d y pc ls (.int (nI m) :: st) hp Q := g_gt t (fun h => g1 (by have := (nI_ltI (a := 0) (b := m) (by decide) ha).mp (by rw [nI_0]; exact h); exact this)) (fun h => g2 (by
  rcases Nat.eq_zero_or_pos m with h2 | h2
  · exact h2
  · exact absurd (by rw [← nI_0]; exact (nI_ltI (by decide) ha).mpr h2) h))
theorem n_le {o : Int} (t : am_T y pc = some (1, .ifCond .le o, nx, [tgt], k)) (ha : m < 2 ^ 31) (g1 : m = 0 → gG X d y tgt ls st hp Q) (g2 : 0 < m → gG X d y nx ls st hp Q) : gG X d y pc ls (.int (nI m) :: st) hp Q := g_le t (fun h => g1 (by
  rcases Nat.eq_zero_or_pos m with h2 | h2
  · exact h2
  · exact absurd h (nI_nle h2 ha))) (fun h => g2 (by
  rcases Nat.eq_zero_or_pos m with h2 | h2
  · exact absurd (by rw [h2, nI_0]; decide) h
  · exact h2))
-- truths
theorem b_eq {o : Int} {c : Bool} (t : am_T y pc = some (1, .ifCond .eq o, nx, [tgt], k)) (g1 : c = false → gG X d y tgt ls st hp Q) (g2 : c = true → gG X d y nx ls st hp Q) : gG X d y pc ls (.int (bI c) :: st) hp Q := by
  cases c
  · exact g_eq t (fun _ => g1 rfl) (fun h => absurd nI_0 h)
  · exact g_eq t (fun h => absurd h (by decide)) (fun _ => g2 rfl)
theorem b_ne {o : Int} {c : Bool} (t : am_T y pc = some (1, .ifCond .ne o, nx, [tgt], k)) (g1 : c = true → gG X d y tgt ls st hp Q) (g2 : c = false → gG X d y nx ls st hp Q) : gG X d y pc ls (.int (bI c) :: st) hp Q := by
  cases c
  · exact g_ne t (fun h => absurd nI_0 h) (fun _ => g2 rfl)
  · exact g_ne t (fun _ => g1 rfl) (fun h => absurd h (by decide))
theorem b_ret {c : Bool} {v : Int32} (t : am_T y pc = some (4, .ireturn, nx, [1], k)) (h : v = bI c) (q : Q (some (.int (bI c))) hp) : gG X d y pc ls [.int v] hp Q := by
  subst h
  exact g_r t (by cases c <;> decide) q
theorem i_ret {v v2 : Int32} (t : am_T y pc = some (4, .ireturn, nx, [0], k)) (h : v = v2) (q : Q (some (.int v2)) hp) : gG X d y pc ls [.int v] hp Q := by
  subst h
  exact g_r t rfl q
theorem l_ret {v v2 : Int64} (t : am_T y pc = some (4, .lreturn, nx, r, k)) (h : v = v2) (q : Q (some (.long v2)) hp) : gG X d y pc ls [.long v] hp Q := by
  subst h
  exact g_r t rfl q
theorem a_ret {v v2 : Value} (t : am_T y pc = some (4, .areturn, nx, r, k)) (h : v = v2) (hv : am_isr v2 = true) (q : Q (some v2) hp) : gG X d y pc ls [v] hp Q := by
  subst h
  exact g_r t (by simp only [am_ret]; rw [if_pos hv]) q
theorem v_ret (t : am_T y pc = some (4, .return_, nx, r, k)) (q : Q none hp) : gG X d y pc ls [] hp Q := g_r t rfl q
end GR
-- locals laid
def am_nl (v : Value) : Bool := match v with
  | .long _ => false
  | _ => true
theorem am_cl_eq {ls : List Value} {j : Nat} (h : am_nl (ls.getD j (.float 0)) = true) : am_cl ls (j + 1) = ls := by
  unfold am_cl
  simp only
  split
  · rename_i x hx
    rw [hx] at h
    cases h
  · rfl
theorem am_s1_0 {v0 w : Value} {t : List Value} : am_s1 (v0 :: t) 0 w = w :: t := rfl
theorem am_s2_0 {v0 v1 w : Value} {t : List Value} : am_s2 (v0 :: v1 :: t) 0 w = w :: .float 0 :: t := rfl
theorem am_s1_1 {v0 v1 w : Value} {t : List Value} (h : am_nl v0 = true) : am_s1 (v0 :: v1 :: t) 1 w = v0 :: w :: t := by unfold am_s1; rw [am_cl_eq (ls := v0 :: v1 :: t) (j := 0) h]; rfl
theorem am_s2_1 {v0 v1 v2 w : Value} {t : List Value} (h : am_nl v0 = true) : am_s2 (v0 :: v1 :: v2 :: t) 1 w = v0 :: w :: .float 0 :: t := by unfold am_s2; rw [am_cl_eq (ls := v0 :: v1 :: v2 :: t) (j := 0) h]; rfl
theorem am_s1_2 {v0 v1 v2 w : Value} {t : List Value} (h : am_nl v1 = true) : am_s1 (v0 :: v1 :: v2 :: t) 2 w = v0 :: v1 :: w :: t := by unfold am_s1; rw [am_cl_eq (ls := v0 :: v1 :: v2 :: t) (j := 1) h]; rfl
theorem am_s2_2 {v0 v1 v2 v3 w : Value} {t : List Value} (h : am_nl v1 = true) : am_s2 (v0 :: v1 :: v2 :: v3 :: t) 2 w = v0 :: v1 :: w :: .float 0 :: t := by unfold am_s2; rw [am_cl_eq (ls := v0 :: v1 :: v2 :: v3 :: t) (j := 1) h]; rfl
theorem am_s1_3 {v0 v1 v2 v3 w : Value} {t : List Value} (h : am_nl v2 = true) : am_s1 (v0 :: v1 :: v2 :: v3 :: t) 3 w = v0 :: v1 :: v2 :: w :: t := by unfold am_s1; rw [am_cl_eq (ls := v0 :: v1 :: v2 :: v3 :: t) (j := 2) h]; rfl
theorem am_s2_3 {v0 v1 v2 v3 v4 w : Value} {t : List Value} (h : am_nl v2 = true) : am_s2 (v0 :: v1 :: v2 :: v3 :: v4 :: t) 3 w = v0 :: v1 :: v2 :: w :: .float 0 :: t := by unfold am_s2; rw [am_cl_eq (ls := v0 :: v1 :: v2 :: v3 :: v4 :: t) (j := 2) h]; rfl
theorem am_s1_4 {v0 v1 v2 v3 v4 w : Value} {t : List Value} (h : am_nl v3 = true) : am_s1 (v0 :: v1 :: v2 :: v3 :: v4 :: t) 4 w = v0 :: v1 :: v2 :: v3 :: w :: t := by unfold am_s1; rw [am_cl_eq (ls := v0 :: v1 :: v2 :: v3 :: v4 :: t) (j := 3) h]; rfl
theorem am_s2_4 {v0 v1 v2 v3 v4 v5 w : Value} {t : List Value} (h : am_nl v3 = true) : am_s2 (v0 :: v1 :: v2 :: v3 :: v4 :: v5 :: t) 4 w = v0 :: v1 :: v2 :: v3 :: w :: .float 0 :: t := by unfold am_s2; rw [am_cl_eq (ls := v0 :: v1 :: v2 :: v3 :: v4 :: v5 :: t) (j := 3) h]; rfl
theorem am_s1_5 {v0 v1 v2 v3 v4 v5 w : Value} {t : List Value} (h : am_nl v4 = true) : am_s1 (v0 :: v1 :: v2 :: v3 :: v4 :: v5 :: t) 5 w = v0 :: v1 :: v2 :: v3 :: v4 :: w :: t := by unfold am_s1; rw [am_cl_eq (ls := v0 :: v1 :: v2 :: v3 :: v4 :: v5 :: t) (j := 4) h]; rfl
theorem am_s2_5 {v0 v1 v2 v3 v4 v5 v6 w : Value} {t : List Value} (h : am_nl v4 = true) : am_s2 (v0 :: v1 :: v2 :: v3 :: v4 :: v5 :: v6 :: t) 5 w = v0 :: v1 :: v2 :: v3 :: v4 :: w :: .float 0 :: t := by unfold am_s2; rw [am_cl_eq (ls := v0 :: v1 :: v2 :: v3 :: v4 :: v5 :: v6 :: t) (j := 4) h]; rfl
theorem am_s1_6 {v0 v1 v2 v3 v4 v5 v6 w : Value} {t : List Value} (h : am_nl v5 = true) : am_s1 (v0 :: v1 :: v2 :: v3 :: v4 :: v5 :: v6 :: t) 6 w = v0 :: v1 :: v2 :: v3 :: v4 :: v5 :: w :: t := by unfold am_s1; rw [am_cl_eq (ls := v0 :: v1 :: v2 :: v3 :: v4 :: v5 :: v6 :: t) (j := 5) h]; rfl
theorem am_s2_6 {v0 v1 v2 v3 v4 v5 v6 v7 w : Value} {t : List Value} (h : am_nl v5 = true) : am_s2 (v0 :: v1 :: v2 :: v3 :: v4 :: v5 :: v6 :: v7 :: t) 6 w = v0 :: v1 :: v2 :: v3 :: v4 :: v5 :: w :: .float 0 :: t := by unfold am_s2; rw [am_cl_eq (ls := v0 :: v1 :: v2 :: v3 :: v4 :: v5 :: v6 :: v7 :: t) (j := 5) h]; rfl
theorem am_s1_7 {v0 v1 v2 v3 v4 v5 v6 v7 w : Value} {t : List Value} (h : am_nl v6 = true) : am_s1 (v0 :: v1 :: v2 :: v3 :: v4 :: v5 :: v6 :: v7 :: t) 7 w = v0 :: v1 :: v2 :: v3 :: v4 :: v5 :: v6 :: w :: t := by unfold am_s1; rw [am_cl_eq (ls := v0 :: v1 :: v2 :: v3 :: v4 :: v5 :: v6 :: v7 :: t) (j := 6) h]; rfl
theorem am_s2_7 {v0 v1 v2 v3 v4 v5 v6 v7 v8 w : Value} {t : List Value} (h : am_nl v6 = true) : am_s2 (v0 :: v1 :: v2 :: v3 :: v4 :: v5 :: v6 :: v7 :: v8 :: t) 7 w = v0 :: v1 :: v2 :: v3 :: v4 :: v5 :: v6 :: w :: .float 0 :: t := by unfold am_s2; rw [am_cl_eq (ls := v0 :: v1 :: v2 :: v3 :: v4 :: v5 :: v6 :: v7 :: v8 :: t) (j := 6) h]; rfl
theorem am_s1_8 {v0 v1 v2 v3 v4 v5 v6 v7 v8 w : Value} {t : List Value} (h : am_nl v7 = true) : am_s1 (v0 :: v1 :: v2 :: v3 :: v4 :: v5 :: v6 :: v7 :: v8 :: t) 8 w = v0 :: v1 :: v2 :: v3 :: v4 :: v5 :: v6 :: v7 :: w :: t := by unfold am_s1; rw [am_cl_eq (ls := v0 :: v1 :: v2 :: v3 :: v4 :: v5 :: v6 :: v7 :: v8 :: t) (j := 7) h]; rfl
theorem am_s2_8 {v0 v1 v2 v3 v4 v5 v6 v7 v8 v9 w : Value} {t : List Value} (h : am_nl v7 = true) : am_s2 (v0 :: v1 :: v2 :: v3 :: v4 :: v5 :: v6 :: v7 :: v8 :: v9 :: t) 8 w = v0 :: v1 :: v2 :: v3 :: v4 :: v5 :: v6 :: v7 :: w :: .float 0 :: t := by unfold am_s2; rw [am_cl_eq (ls := v0 :: v1 :: v2 :: v3 :: v4 :: v5 :: v6 :: v7 :: v8 :: v9 :: t) (j := 7) h]; rfl
theorem am_s1_9 {v0 v1 v2 v3 v4 v5 v6 v7 v8 v9 w : Value} {t : List Value} (h : am_nl v8 = true) : am_s1 (v0 :: v1 :: v2 :: v3 :: v4 :: v5 :: v6 :: v7 :: v8 :: v9 :: t) 9 w = v0 :: v1 :: v2 :: v3 :: v4 :: v5 :: v6 :: v7 :: v8 :: w :: t := by unfold am_s1; rw [am_cl_eq (ls := v0 :: v1 :: v2 :: v3 :: v4 :: v5 :: v6 :: v7 :: v8 :: v9 :: t) (j := 8) h]; rfl
theorem am_s2_9 {v0 v1 v2 v3 v4 v5 v6 v7 v8 v9 v10 w : Value} {t : List Value} (h : am_nl v8 = true) : am_s2 (v0 :: v1 :: v2 :: v3 :: v4 :: v5 :: v6 :: v7 :: v8 :: v9 :: v10 :: t) 9 w = v0 :: v1 :: v2 :: v3 :: v4 :: v5 :: v6 :: v7 :: v8 :: w :: .float 0 :: t := by unfold am_s2; rw [am_cl_eq (ls := v0 :: v1 :: v2 :: v3 :: v4 :: v5 :: v6 :: v7 :: v8 :: v9 :: v10 :: t) (j := 8) h]; rfl
theorem am_s1_10 {v0 v1 v2 v3 v4 v5 v6 v7 v8 v9 v10 w : Value} {t : List Value} (h : am_nl v9 = true) : am_s1 (v0 :: v1 :: v2 :: v3 :: v4 :: v5 :: v6 :: v7 :: v8 :: v9 :: v10 :: t) 10 w = v0 :: v1 :: v2 :: v3 :: v4 :: v5 :: v6 :: v7 :: v8 :: v9 :: w :: t := by unfold am_s1; rw [am_cl_eq (ls := v0 :: v1 :: v2 :: v3 :: v4 :: v5 :: v6 :: v7 :: v8 :: v9 :: v10 :: t) (j := 9) h]; rfl
theorem am_s2_10 {v0 v1 v2 v3 v4 v5 v6 v7 v8 v9 v10 v11 w : Value} {t : List Value} (h : am_nl v9 = true) : am_s2 (v0 :: v1 :: v2 :: v3 :: v4 :: v5 :: v6 :: v7 :: v8 :: v9 :: v10 :: v11 :: t) 10 w = v0 :: v1 :: v2 :: v3 :: v4 :: v5 :: v6 :: v7 :: v8 :: v9 :: w :: .float 0 :: t := by unfold am_s2; rw [am_cl_eq (ls := v0 :: v1 :: v2 :: v3 :: v4 :: v5 :: v6 :: v7 :: v8 :: v9 :: v10 :: v11 :: t) (j := 9) h]; rfl
theorem am_s1_11 {v0 v1 v2 v3 v4 v5 v6 v7 v8 v9 v10 v11 w : Value} {t : List Value} (h : am_nl v10 = true) : am_s1 (v0 :: v1 :: v2 :: v3 :: v4 :: v5 :: v6 :: v7 :: v8 :: v9 :: v10 :: v11 :: t) 11 w = v0 :: v1 :: v2 :: v3 :: v4 :: v5 :: v6 :: v7 :: v8 :: v9 :: v10 :: w :: t := by unfold am_s1; rw [am_cl_eq (ls := v0 :: v1 :: v2 :: v3 :: v4 :: v5 :: v6 :: v7 :: v8 :: v9 :: v10 :: v11 :: t) (j := 10) h]; rfl
theorem am_s2_11 {v0 v1 v2 v3 v4 v5 v6 v7 v8 v9 v10 v11 v12 w : Value} {t : List Value} (h : am_nl v10 = true) : am_s2 (v0 :: v1 :: v2 :: v3 :: v4 :: v5 :: v6 :: v7 :: v8 :: v9 :: v10 :: v11 :: v12 :: t) 11 w = v0 :: v1 :: v2 :: v3 :: v4 :: v5 :: v6 :: v7 :: v8 :: v9 :: v10 :: w :: .float 0 :: t := by unfold am_s2; rw [am_cl_eq (ls := v0 :: v1 :: v2 :: v3 :: v4 :: v5 :: v6 :: v7 :: v8 :: v9 :: v10 :: v11 :: v12 :: t) (j := 10) h]; rfl
theorem am_s1_12 {v0 v1 v2 v3 v4 v5 v6 v7 v8 v9 v10 v11 v12 w : Value} {t : List Value} (h : am_nl v11 = true) : am_s1 (v0 :: v1 :: v2 :: v3 :: v4 :: v5 :: v6 :: v7 :: v8 :: v9 :: v10 :: v11 :: v12 :: t) 12 w = v0 :: v1 :: v2 :: v3 :: v4 :: v5 :: v6 :: v7 :: v8 :: v9 :: v10 :: v11 :: w :: t := by unfold am_s1; rw [am_cl_eq (ls := v0 :: v1 :: v2 :: v3 :: v4 :: v5 :: v6 :: v7 :: v8 :: v9 :: v10 :: v11 :: v12 :: t) (j := 11) h]; rfl
theorem am_s2_12 {v0 v1 v2 v3 v4 v5 v6 v7 v8 v9 v10 v11 v12 v13 w : Value} {t : List Value} (h : am_nl v11 = true) : am_s2 (v0 :: v1 :: v2 :: v3 :: v4 :: v5 :: v6 :: v7 :: v8 :: v9 :: v10 :: v11 :: v12 :: v13 :: t) 12 w = v0 :: v1 :: v2 :: v3 :: v4 :: v5 :: v6 :: v7 :: v8 :: v9 :: v10 :: v11 :: w :: .float 0 :: t := by unfold am_s2; rw [am_cl_eq (ls := v0 :: v1 :: v2 :: v3 :: v4 :: v5 :: v6 :: v7 :: v8 :: v9 :: v10 :: v11 :: v12 :: v13 :: t) (j := 11) h]; rfl
-- the heap as memory
section MR
variable {X : am_X} {d y pc nx tgt : Nat} {ls l2 st : List Value} {s : mM} {Q : Option Value → am_H → Prop} {i : ClassFile.Instr} {r : List Nat} {k : Value}
variable {p ci slot n m ix : Nat} {cis : List Nat} {fs f2 : List Value} {v w : Value} {a z : Int32} {u zl : Int64}
theorem r_get (t : am_T y pc = some (2, .getfield ix, nx, slot :: cis, k)) (h : s.1 p = .inr (ci, fs)) (hc : cis.contains ci = true) (hv : fs[slot]? = some w) (e : m_rv w (ri s p slot) (rl s p slot) = v) (g : gG X d y nx ls (v :: st) (mR s) Q) : gG X d y pc ls (.ref p :: st) (mR s) Q := by
  subst e
  refine g_h t ?_ g
  simp only [am_h, am_rd, Option.bind_some, mR_obj h]
  rw [if_pos hc, m_rF_get, hv]
  simp only [Option.map_some, Nat.zero_add, Option.bind_some]
theorem r_geti (t : am_T y pc = some (2, .getfield ix, nx, slot :: cis, k)) (h : s.1 p = .inr (ci, fs)) (hc : cis.contains ci = true) (hv : fs[slot]? = some (.int z)) (g : gG X d y nx ls (.int (ri s p slot) :: st) (mR s) Q) : gG X d y pc ls (.ref p :: st) (mR s) Q := r_get t h hc hv rfl g
theorem r_gete (t : am_T y pc = some (2, .getfield ix, nx, slot :: cis, k)) (h : s.1 p = .inr (ci, fs)) (hc : cis.contains ci = true) (hv : fs[slot]? = some (.int z)) (e : ri s p slot = a) (g : gG X d y nx ls (.int a :: st) (mR s) Q) : gG X d y pc ls (.ref p :: st) (mR s) Q := by
  subst e
  exact r_get t h hc hv rfl g
theorem r_getl (t : am_T y pc = some (2, .getfield ix, nx, slot :: cis, k)) (h : s.1 p = .inr (ci, fs)) (hc : cis.contains ci = true) (hv : fs[slot]? = some (.long zl)) (g : gG X d y nx ls (.long (rl s p slot) :: st) (mR s) Q) : gG X d y pc ls (.ref p :: st) (mR s) Q := r_get t h hc hv rfl g
theorem r_getr (t : am_T y pc = some (2, .getfield ix, nx, slot :: cis, k)) (h : s.1 p = .inr (ci, fs)) (hc : cis.contains ci = true) (hv : fs[slot]? = some (.ref m)) (g : gG X d y nx ls (.ref m :: st) (mR s) Q) : gG X d y pc ls (.ref p :: st) (mR s) Q := r_get t h hc hv rfl g
theorem r_gets (t : am_T y pc = some (2, .getfield ix, nx, slot :: cis, k)) (h : s.1 p = .inr (ci, fs)) (hc : cis.contains ci = true) (hv : fs[slot]? = some w) (hw : m_st w = true) (g : gG X d y nx ls (w :: st) (mR s) Q) : gG X d y pc ls (.ref p :: st) (mR s) Q := r_get t h hc hv (m_rv_st hw) g
theorem r_getq (t : am_T y pc = some (2, .getfield ix, nx, slot :: cis, k)) (h : s.1 p = .inr (ci, fs)) (hc : cis.contains ci = true) (hv : fs[slot]? = some (.retAddr 7)) (e : ri s p slot = a) (e2 : m_rq a = v) (g : gG X d y nx ls (v :: st) (mR s) Q) : gG X d y pc ls (.ref p :: st) (mR s) Q := by
  subst e; subst e2
  exact r_get t h hc hv rfl g
theorem m_lt {fs : List Value} {i : Nat} {v : Value} (h : fs[i]? = some v) : i < fs.length := (List.getElem?_eq_some_iff.mp h).1
theorem r_puti (t : am_T y pc = some (2, .putfield ix, nx, slot :: 0 :: cis, k)) (h : s.1 p = .inr (ci, fs)) (hc : cis.contains ci = true) (hv : fs[slot]? = some (.int z)) (g : gG X d y nx ls st (mR (wi s p slot a)) Q) : gG X d y pc ls (.int a :: .ref p :: st) (mR s) Q := by
  refine g_h t ?_ g
  simp only [am_h, mR_obj h]
  rw [if_pos (by rw [hc, decide_eq_true (by rw [m_rF_len]; exact m_lt hv)]; rfl), mR_wi h hv]
theorem r_putz (t : am_T y pc = some (2, .putfield ix, nx, slot :: 1 :: cis, k)) (h : s.1 p = .inr (ci, fs)) (hc : cis.contains ci = true) (hv : fs[slot]? = some (.int z)) (hf : fits .boolean (.int a) = true) (g : gG X d y nx ls st (mR (wi s p slot a)) Q) : gG X d y pc ls (.int a :: .ref p :: st) (mR s) Q := by
  refine g_h t ?_ g
  simp only [am_h, mR_obj h, am_fit]
  rw [if_pos (by rw [hc, hf, decide_eq_true (by rw [m_rF_len]; exact m_lt hv)]; rfl), mR_wi h hv]
theorem r_putl (t : am_T y pc = some (2, .putfield ix, nx, slot :: 3 :: cis, k)) (h : s.1 p = .inr (ci, fs)) (hc : cis.contains ci = true) (hv : fs[slot]? = some (.long zl)) (g : gG X d y nx ls st (mR (wl s p slot u)) Q) : gG X d y pc ls (.long u :: .ref p :: st) (mR s) Q := by
  refine g_h t ?_ g
  simp only [am_h, mR_obj h]
  rw [if_pos (by rw [hc, decide_eq_true (by rw [m_rF_len]; exact m_lt hv)]; rfl), mR_wl h hv]
theorem m_isrq (x : Int32) : am_isr (m_rq x) = true := by unfold m_rq; split <;> rfl
theorem r_putq (t : am_T y pc = some (2, .putfield ix, nx, slot :: 2 :: cis, k)) (h : s.1 p = .inr (ci, fs)) (hc : cis.contains ci = true) (hv : fs[slot]? = some (.retAddr 7)) (e : m_rq a = v) (g : gG X d y nx ls st (mR (wi s p slot a)) Q) : gG X d y pc ls (v :: .ref p :: st) (mR s) Q := by
  subst e
  refine g_h t ?_ g
  simp only [am_h, mR_obj h]
  rw [if_pos (by rw [hc, show am_fit 2 (m_rq a) = true from m_isrq a, decide_eq_true (by rw [m_rF_len]; exact m_lt hv)]; rfl), mR_wq h hv]
theorem r_putr (t : am_T y pc = some (2, .putfield ix, nx, slot :: 2 :: cis, k)) (h : s.1 p = .inr (ci, fs)) (hc : cis.contains ci = true) (hv : fs[slot]? = some w) (hs : m_st v = true) (hr : am_isr v = true) (h2 : fs.set slot v = f2) (g : gG X d y nx ls st (mR (wr s p (.inr (ci, f2)))) Q) : gG X d y pc ls (v :: .ref p :: st) (mR s) Q := by
  subst h2
  refine g_h t ?_ g
  simp only [am_h, mR_obj h]
  rw [if_pos (by rw [hc, show am_fit 2 v = true from hr, decide_eq_true (by rw [m_rF_len]; exact m_lt hv)]; rfl), mR_ws h hs]
theorem am_in_n {j : Int32} {q : Nat} (hj : j = nI q) (hq : q < n) (hn : n ≤ 65536) : am_in j n = true ∧ j.toNatClampNeg = q := by
  subst hj
  refine ⟨?_, nI_clamp (by omega)⟩
  unfold am_in
  rw [decide_eq_false (nI_in hq (by omega))]
  rfl
variable {f0 : Nat → Int32} {g0 : Nat → Int64} {o0 : Nat → Option Nat} {j : Int32} {q : Nat}
theorem r_iald (t : am_T y pc = some (2, .iaload, nx, [], k)) (h : s.1 p = .inl (0, n, .inl f0)) (hn : n ≤ 65536) (hq : q < n) (g : gG X d y nx ls (.int (ri s p q) :: st) (mR s) Q) : gG X d y pc ls (.int (nI q) :: .ref p :: st) (mR s) Q := by
  obtain ⟨h1, h2⟩ := am_in_n rfl hq hn
  exact g_h t (by simp only [am_h, am_la2, am_rd, Option.bind_some, mR_ints h]; rw [if_pos (by rw [h1]; rfl), h2]) g
theorem r_bald (t : am_T y pc = some (2, .baload, nx, [], k)) (h : s.1 p = .inl (m, n, .inl f0)) (hm : m = 1 ∨ m = 2) (hn : n ≤ 65536) (hq : q < n) (g : gG X d y nx ls (.int (ri s p q) :: st) (mR s) Q) : gG X d y pc ls (.int (nI q) :: .ref p :: st) (mR s) Q := by
  obtain ⟨h1, h2⟩ := am_in_n rfl hq hn
  exact g_h t (by simp only [am_h, am_la2, am_rd, Option.bind_some, mR_ints h]; rw [if_pos (by rw [h1]; rcases hm with rfl | rfl <;> rfl), h2]) g
theorem r_lald (t : am_T y pc = some (2, .laload, nx, [], k)) (h : s.1 p = .inl (3, n, .inr (.inl g0))) (hn : n ≤ 65536) (hq : q < n) (g : gG X d y nx ls (.long (rl s p q) :: st) (mR s) Q) : gG X d y pc ls (.int (nI q) :: .ref p :: st) (mR s) Q := by
  obtain ⟨h1, h2⟩ := am_in_n rfl hq hn
  exact g_h t (by simp only [am_h, mR_longs h]; rw [if_pos (by rw [h1]; rfl), h2]) g
theorem r_iast (t : am_T y pc = some (2, .iastore, nx, [], k)) (h : s.1 p = .inl (0, n, .inl f0)) (hn : n ≤ 65536) (hq : q < n) (g : gG X d y nx ls st (mR (wi s p q a)) Q) : gG X d y pc ls (.int a :: .int (nI q) :: .ref p :: st) (mR s) Q := by
  obtain ⟨h1, h2⟩ := am_in_n rfl hq hn
  exact g_h t (by simp only [am_h, mR_ints h]; rw [if_pos (by rw [h1]; rfl), h2, mR_wf h]; rfl) g
theorem r_bast (t : am_T y pc = some (2, .bastore, nx, [], k)) (h : s.1 p = .inl (1, n, .inl f0)) (hn : n ≤ 65536) (hq : q < n) (g : gG X d y nx ls st (mR (wi s p q (vp_nar .byte a))) Q) : gG X d y pc ls (.int a :: .int (nI q) :: .ref p :: st) (mR s) Q := by
  obtain ⟨h1, h2⟩ := am_in_n rfl hq hn
  exact g_h t (by simp only [am_h, mR_ints h]; rw [if_pos h1, if_pos trivial, h2, mR_wf h]; rfl) g
theorem r_zast (t : am_T y pc = some (2, .bastore, nx, [], k)) (h : s.1 p = .inl (2, n, .inl f0)) (hn : n ≤ 65536) (hq : q < n) (g : gG X d y nx ls st (mR (wi s p q (vp_nar .boolean a))) Q) : gG X d y pc ls (.int a :: .int (nI q) :: .ref p :: st) (mR s) Q := by
  obtain ⟨h1, h2⟩ := am_in_n rfl hq hn
  exact g_h t (by simp only [am_h, mR_ints h]; rw [if_pos h1, if_neg (by decide), if_pos trivial, h2, mR_wf h]; rfl) g
theorem r_last (t : am_T y pc = some (2, .lastore, nx, [], k)) (h : s.1 p = .inl (3, n, .inr (.inl g0))) (hn : n ≤ 65536) (hq : q < n) (g : gG X d y nx ls st (mR (wl s p q u)) Q) : gG X d y pc ls (.long u :: .int (nI q) :: .ref p :: st) (mR s) Q := by
  obtain ⟨h1, h2⟩ := am_in_n rfl hq hn
  exact g_h t (by simp only [am_h, mR_longs h]; rw [if_pos (by rw [h1]; rfl), h2, mR_wg h]; rfl) g
theorem r_leni (t : am_T y pc = some (2, .arraylength, nx, [], k)) (h : s.1 p = .inl (m, n, .inl f0)) (g : gG X d y nx ls (.int (nI n) :: st) (mR s) Q) : gG X d y pc ls (.ref p :: st) (mR s) Q :=
  g_h t (by simp only [am_h, am_rd, Option.bind_some, mR_ints h]; rfl) g
theorem r_lenl (t : am_T y pc = some (2, .arraylength, nx, [], k)) (h : s.1 p = .inl (m, n, .inr (.inl g0))) (g : gG X d y nx ls (.int (nI n) :: st) (mR s) Q) : gG X d y pc ls (.ref p :: st) (mR s) Q :=
  g_h t (by simp only [am_h, am_rd, Option.bind_some, mR_longs h]; rfl) g
theorem r_lenr (t : am_T y pc = some (2, .arraylength, nx, [], k)) (h : s.1 p = .inl (m, n, .inr (.inr (.inr (.inr o0))))) (g : gG X d y nx ls (.int (nI n) :: st) (mR s) Q) : gG X d y pc ls (.ref p :: st) (mR s) Q :=
  g_h t (by simp only [am_h, am_rd, Option.bind_some, mR_refs h]; rfl) g
theorem r_aald (t : am_T y pc = some (2, .aaload, nx, [], k)) (h : s.1 p = .inl (4, n, .inr (.inr (.inr (.inr o0))))) (hn : n ≤ 65536) (hq : q < n) (e : va_rf (m_ro (ri s p q)) = v) (g : gG X d y nx ls (v :: st) (mR s) Q) : gG X d y pc ls (.int (nI q) :: .ref p :: st) (mR s) Q := by
  subst e
  obtain ⟨h1, h2⟩ := am_in_n rfl hq hn
  exact g_h t (by simp only [am_h, mR_refs h]; rw [if_pos (by rw [h1]; rfl), h2]) g
theorem mR_ua {o1 : Nat → Option Nat} (h : s.1 p = .inl (4, n, .inr (.inr (.inr (.inr o1))))) (e : m_ro a = some m) : am_set (mR s) p (.inl (4, n, .inr (.inr (.inr (.inr (va_up (fun i => m_ro (s.2.1 p i)) q (some m))))))) = mR (wi s p q a) := by
  refine Prod.ext ?_ rfl
  funext b
  by_cases hb : b = p
  · subst hb
    simp only [am_set, am_up, mR, wi, wf, m_up, h, m_rE, if_pos]
    congr 7
    funext c
    by_cases hc : c = q
    · subst hc; simp [va_up, upd, e]
    · simp [va_up, upd, hc]
  · simp [am_set, am_up, mR, wi, wf, m_up, hb]
theorem r_aast (t : am_T y pc = some (2, .aastore, nx, [], k)) (h : s.1 p = .inl (4, n, .inr (.inr (.inr (.inr o0))))) (hm : s.1 m = .inr (ci, fs)) (hci : (decide (ci = 1) || decide (ci = 4)) = true) (hn : n ≤ 65536) (hq : q < n) (e : m_ro a = some m) (g : gG X d y nx ls st (mR (wi s p q a)) Q) : gG X d y pc ls (.ref m :: .int (nI q) :: .ref p :: st) (mR s) Q := by
  obtain ⟨h1, h2⟩ := am_in_n rfl hq hn
  exact g_h t (by simp only [am_h, mR_refs h, mR_obj hm]; rw [if_pos (by rw [h1, hci]; rfl), h2, mR_ua h e]) g
theorem r_new {e : am_E} (t : am_T y pc = some (2, .new ix, nx, [ci, n], k)) (hf : m_rE e (fun _ => 0) (fun _ => 0) = .inr (ci, am_DF ci)) (g : gG X d y nx ls (.ref s.2.2.2.1 :: st) (mR (wn s e n)) Q) : gG X d y pc ls st (mR s) Q :=
  g_h t (by simp only [am_h]; rw [mR_wn hf]; rfl) g
theorem r_newi {ta : ClassFile.ArrayType} (t : am_T y pc = some (2, .newarray ta, nx, [m], k)) (hm : ¬ m = 3) (hn : n ≤ 65536) (g : gG X d y nx ls (.ref s.2.2.2.1 :: st) (mR (wn s (.inl (m, n, .inl (fun _ => 0))) n)) Q) : gG X d y pc ls (.int (nI n) :: st) (mR s) Q := by
  refine g_h t ?_ g
  simp only [am_h]
  rw [if_neg (by rw [nI_clamp (by omega)]; intro h; rcases h with h | h; exact nI_pos (n := n) (by omega) h; omega), nI_clamp (by omega), if_neg hm, mR_wn (e := .inl (m, n, .inl (fun _ => 0))) (e2 := .inl (m, n, .inl (fun _ => 0))) rfl]
  rfl
theorem r_newl {ta : ClassFile.ArrayType} (t : am_T y pc = some (2, .newarray ta, nx, [3], k)) (hn : n ≤ 65536) (g : gG X d y nx ls (.ref s.2.2.2.1 :: st) (mR (wn s (.inl (3, n, .inr (.inl (fun _ => 0)))) n)) Q) : gG X d y pc ls (.int (nI n) :: st) (mR s) Q := by
  refine g_h t ?_ g
  simp only [am_h]
  rw [if_neg (by rw [nI_clamp (by omega)]; intro h; rcases h with h | h; exact nI_pos (n := n) (by omega) h; omega), nI_clamp (by omega), if_pos trivial, mR_wn (e := .inl (3, n, .inr (.inl (fun _ => 0)))) (e2 := .inl (3, n, .inr (.inl (fun _ => 0)))) rfl]
  rfl
theorem r_newr (t : am_T y pc = some (2, .anewarray ix, nx, r, k)) (hn : n ≤ 65536) (g : gG X d y nx ls (.ref s.2.2.2.1 :: st) (mR (wn s (.inl (4, n, .inr (.inr (.inr (.inr (fun _ => none)))))) n)) Q) : gG X d y pc ls (.int (nI n) :: st) (mR s) Q := by
  refine g_h t ?_ g
  simp only [am_h]
  rw [if_neg (by rw [nI_clamp (by omega)]; intro h; rcases h with h | h; exact nI_pos (n := n) (by omega) h; omega), nI_clamp (by omega), mR_wn (e := .inl (4, n, .inr (.inr (.inr (.inr (fun _ => none)))))) (by simp only [m_rE, m_ro_0])]
  rfl
theorem r_chk (t : am_T y pc = some (2, .checkcast ix, nx, r, k)) (h : s.1 p = .inr (ci, fs)) (hc : r.contains ci = true) (g : gG X d y nx ls (.ref p :: st) (mR s) Q) : gG X d y pc ls (.ref p :: st) (mR s) Q :=
  g_h t (by simp only [am_h, mR_obj h]; rw [if_pos hc]) g
theorem r_cpyi {p2 n2 a1 a2 c : Nat} {f1 : Nat → Int32} (t : am_T y pc = some (2, .invokestatic ix, nx, [4], k)) (h : s.1 p = .inl (0, n, .inl f0)) (h2 : s.1 p2 = .inl (0, n2, .inl f1)) (hn : n ≤ 65536) (hn2 : n2 ≤ 65536) (b1 : a1 + c ≤ n) (b2 : a2 + c ≤ n2) (hc : am_cat st ≤ 8) (g : gG X d y nx ls st (mR (wf s p2 (va_cpy (s.2.1 p) (s.2.1 p2) a1 a2 c))) Q) : gG X d y pc ls (.int (nI c) :: .int (nI a2) :: .ref p2 :: .int (nI a1) :: .ref p :: st) (mR s) Q := by
  refine g_h t ?_ g
  simp only [am_h, mR_ints h, mR_ints h2]
  rw [if_neg (by
                       show ¬ 16 < am_cat (.int (nI c) :: .int (nI a2) :: .ref p2 :: .int (nI a1) :: .ref p :: st)
                       have e9 : am_cat (.int (nI c) :: .int (nI a2) :: .ref p2 :: .int (nI a1) :: .ref p :: st) = 1 + (1 + (1 + (1 + (1 + am_cat st)))) := by simp [am_cat, Value.category]
                       omega), nI_clamp (by omega), nI_clamp (by omega), nI_clamp (by omega), if_pos ?_, mR_wf h2]
  have h1 : ¬ (nI a1 < 0 ∨ nI a2 < 0 ∨ nI c < 0) := by
    intro h
    rcases h with h | h | h
    · exact nI_pos (n := a1) (by omega) h
    · exact nI_pos (n := a2) (by omega) h
    · exact nI_pos (n := c) (by omega) h
  rw [decide_eq_false h1, decide_eq_true b1, decide_eq_true b2]
  rfl
theorem r_cpyl {p2 n2 a1 a2 c : Nat} {g1 : Nat → Int64} (t : am_T y pc = some (2, .invokestatic ix, nx, [4], k)) (h : s.1 p = .inl (3, n, .inr (.inl g0))) (h2 : s.1 p2 = .inl (3, n2, .inr (.inl g1))) (hn : n ≤ 65536) (hn2 : n2 ≤ 65536) (b1 : a1 + c ≤ n) (b2 : a2 + c ≤ n2) (hc : am_cat st ≤ 8) (g : gG X d y nx ls st (mR (wg s p2 (va_cpy (s.2.2.1 p) (s.2.2.1 p2) a1 a2 c))) Q) : gG X d y pc ls (.int (nI c) :: .int (nI a2) :: .ref p2 :: .int (nI a1) :: .ref p :: st) (mR s) Q := by
  refine g_h t ?_ g
  simp only [am_h, mR_longs h, mR_longs h2]
  rw [if_neg (by
                       show ¬ 16 < am_cat (.int (nI c) :: .int (nI a2) :: .ref p2 :: .int (nI a1) :: .ref p :: st)
                       have e9 : am_cat (.int (nI c) :: .int (nI a2) :: .ref p2 :: .int (nI a1) :: .ref p :: st) = 1 + (1 + (1 + (1 + (1 + am_cat st)))) := by simp [am_cat, Value.category]
                       omega), nI_clamp (by omega), nI_clamp (by omega), nI_clamp (by omega), if_pos ?_, mR_wg h2]
  have h1 : ¬ (nI a1 < 0 ∨ nI a2 < 0 ∨ nI c < 0) := by
    intro h
    rcases h with h | h | h
    · exact nI_pos (n := a1) (by omega) h
    · exact nI_pos (n := a2) (by omega) h
    · exact nI_pos (n := c) (by omega) h
  rw [decide_eq_false h1, decide_eq_true b1, decide_eq_true b2]
  rfl
-- virtual calls
def am_cv (n : Nat) (tb : List Nat) (ci : Nat) (st : List Value) : Option (Nat × List Value × List Value) :=
  if am_cat (st.drop n) ≤ 8 && decide (n ≤ st.length) then (am_sel tb ci).bind fun y => some (y, (st.take n).reverse, st.drop n) else none
theorem r_cv {y2 o : Nat} {tb : List Nat} {as rest : List Value} (t : am_T y pc = some (3, .invokevirtual ix, nx, n :: tb, k)) (ho : s.1 o = .inr (ci, fs)) (h : am_cv n tb ci st = some (y2, .ref o :: as, rest)) (g : gE X d y2 (.ref o :: as) (mR s) (fun v hp' => am_thr v = false ∧ gG X (d + 1) y nx ls (v.toList ++ rest) hp' Q)) : gG X (d + 1) y pc ls st (mR s) Q := by
  refine g_c t ?_ g
  unfold am_cv at h
  unfold am_call
  split at h
  · rename_i hc
    rw [if_pos (show (decide (am_cat (List.drop (List.headD (n :: tb) 0) st) ≤ 8) && decide (List.headD (n :: tb) 0 ≤ st.length)) = true from hc)]
    simp only [List.headD_cons]
    obtain ⟨y3, h1, h2⟩ := Option.bind_eq_some_iff.mp h
    have h3 : (List.take n st).reverse = .ref o :: as := by
      have := congrArg (fun z : Option (Nat × List Value × List Value) => z.map (fun q => q.2.1)) h2
      simpa using this
    simp only [h3, am_rd, Option.bind_some, mR_obj ho, h1]
    rw [h3] at h2
    exact h2
  · cases h
end MR
