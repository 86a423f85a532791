/-! MEMORY: the heap of the abstract machine as a shape, rows of ints and rows of longs; rules over it -/
/-- shape, ints, longs, the next number, cells made, slots made -/
abbrev mM : Type := (Nat → am_E) × (Nat → Nat → Int32) × (Nat → Nat → Int64) × Nat × Nat × Nat
/-- a reference kept as an int: 0 null, 1 the empty array, a + 2 the cell a -/
def m_rq (x : Int32) : Value := match x.toNatClampNeg with
  | 0 => .null
  | 1 => .retAddr 1
  | a + 2 => .ref a
def m_ro (x : Int32) : Option Nat := match x.toNatClampNeg with
  | 0 => none
  | 1 => none
  | a + 2 => some a
def m_rv (v : Value) (x : Int32) (g : Int64) : Value := match v with
  | .int _ => .int x
  | .long _ => .long g
  | .retAddr j => if j = 7 then m_rq x else .retAddr j
  | w => w
def m_rF (fs : List Value) (f : Nat → Int32) (g : Nat → Int64) (i : Nat) : List Value := match fs with
  | [] => []
  | v :: t => m_rv v (f i) (g i) :: m_rF t f g (i + 1)
def m_rE (e : am_E) (f : Nat → Int32) (g : Nat → Int64) : am_E := match e with
  | .inr (ci, fs) => .inr (ci, m_rF fs f g 0)
  | .inl (t, n, c) => .inl (t, n, match c with
    | .inl _ => .inl f
    | .inr (.inl _) => .inr (.inl g)
    | .inr (.inr (.inr (.inr _))) => .inr (.inr (.inr (.inr (fun i => m_ro (f i)))))
    | c => c)
def mR (s : mM) : am_H := (fun p => m_rE (s.1 p) (s.2.1 p) (s.2.2.1 p), s.2.2.2)
abbrev ri (s : mM) (p i : Nat) : Int32 := s.2.1 p i
abbrev rl (s : mM) (p i : Nat) : Int64 := s.2.2.1 p i
def m_up {α : Type} (f : Nat → α) (p : Nat) (v : α) : Nat → α := fun q => if q = p then v else f q
def wf (s : mM) (p : Nat) (f : Nat → Int32) : mM := (s.1, m_up s.2.1 p f, s.2.2)
def wg (s : mM) (p : Nat) (g : Nat → Int64) : mM := (s.1, s.2.1, m_up s.2.2.1 p g, s.2.2.2)
def wi (s : mM) (p i : Nat) (v : Int32) : mM := wf s p (upd (s.2.1 p) i v)
def wl (s : mM) (p i : Nat) (v : Int64) : mM := wg s p (vp_updL (s.2.2.1 p) i v)
/-- a new cell -/
def wn (s : mM) (e : am_E) (n : Nat) : mM := (m_up s.1 s.2.2.2.1 e, m_up s.2.1 s.2.2.2.1 (fun _ => 0), m_up s.2.2.1 s.2.2.2.1 (fun _ => 0), s.2.2.2.1 + 1, s.2.2.2.2.1 + 1, s.2.2.2.2.2 + n)
/-- another shape of a cell -/
def wr (s : mM) (p : Nat) (e : am_E) : mM := (m_up s.1 p e, s.2)
theorem m_up_eq {α : Type} {f : Nat → α} {p : Nat} {v : α} : m_up f p v p = v := by simp [m_up]
theorem m_up_ne {α : Type} {f : Nat → α} {p q : Nat} {v : α} (h : q ≠ p) : m_up f p v q = f q := by simp [m_up, h]
theorem ri_wi {s : mM} {p i q j : Nat} {v : Int32} : ri (wi s p i v) q j = if q = p ∧ j = i then v else ri s q j := by
  by_cases h : q = p
  · subst h
    by_cases h2 : j = i
    · subst h2; simp [ri, wi, wf, m_up, upd]
    · simp [ri, wi, wf, m_up, upd, h2]
  · simp [ri, wi, wf, m_up, h]
theorem ri_wi_ne {s : mM} {p i q j : Nat} {v : Int32} (h : q ≠ p) : ri (wi s p i v) q j = ri s q j := by rw [ri_wi, if_neg (fun h2 => h h2.1)]
theorem ri_wf {s : mM} {p q j : Nat} {f : Nat → Int32} : ri (wf s p f) q j = if q = p then f j else ri s q j := by
  by_cases h : q = p <;> simp [ri, wf, m_up, h]
theorem rl_wi {s : mM} {p i q j : Nat} {v : Int32} : rl (wi s p i v) q j = rl s q j := rfl
theorem rl_wf {s : mM} {p q j : Nat} {f : Nat → Int32} : rl (wf s p f) q j = rl s q j := rfl
theorem ri_wl {s : mM} {p i q j : Nat} {v : Int64} : ri (wl s p i v) q j = ri s q j := rfl
theorem ri_wg {s : mM} {p q j : Nat} {g : Nat → Int64} : ri (wg s p g) q j = ri s q j := rfl
theorem rl_wl {s : mM} {p i q j : Nat} {v : Int64} : rl (wl s p i v) q j = if q = p ∧ j = i then v else rl s q j := by
  by_cases h : q = p
  · subst h
    by_cases h2 : j = i
    · subst h2; simp [rl, wl, wg, m_up, vp_updL]
    · simp [rl, wl, wg, m_up, vp_updL, h2]
  · simp [rl, wl, wg, m_up, h]
theorem rl_wg {s : mM} {p q j : Nat} {g : Nat → Int64} : rl (wg s p g) q j = if q = p then g j else rl s q j := by
  by_cases h : q = p <;> simp [rl, wg, m_up, h]
theorem m_rF_get : ∀ (fs : List Value) (f : Nat → Int32) (g : Nat → Int64) (k i : Nat), (m_rF fs f g k)[i]? = fs[i]?.map fun v => m_rv v (f (k + i)) (g (k + i)) := by
  intro fs
  induction fs with
  | nil => intro f g k i; simp [m_rF]
  | cons v t ih =>
    intro f g k i
    cases i with
    | zero => simp [m_rF]
    | succ i =>
      have e : k + (i + 1) = k + 1 + i := by omega
      simp only [m_rF, List.getElem?_cons_succ, ih, e]
theorem m_rF_len (fs : List Value) (f : Nat → Int32) (g : Nat → Int64) (k : Nat) : (m_rF fs f g k).length = fs.length := by
  induction fs generalizing k with
  | nil => rfl
  | cons v t ih => simp [m_rF, ih]
theorem m_rF_seti {fs : List Value} {f : Nat → Int32} {g : Nat → Int64} {i : Nat} {z x : Int32} (h : fs[i]? = some (.int z)) : (m_rF fs f g 0).set i (.int x) = m_rF fs (upd f i x) g 0 := by
  apply List.ext_getElem?
  intro j
  rw [List.getElem?_set, m_rF_get, m_rF_get, m_rF_len]
  by_cases hj : i = j
  · subst hj
    have := (List.getElem?_eq_some_iff.mp h).1
    rw [if_pos rfl, if_pos this, h]
    simp [m_rv, upd]
  · rw [if_neg hj]
    have hj2 : ¬ (j = i) := by omega
    simp [upd, hj2]
theorem m_rF_setl {fs : List Value} {f : Nat → Int32} {g : Nat → Int64} {i : Nat} {z x : Int64} (h : fs[i]? = some (.long z)) : (m_rF fs f g 0).set i (.long x) = m_rF fs f (vp_updL g i x) 0 := by
  apply List.ext_getElem?
  intro j
  rw [List.getElem?_set, m_rF_get, m_rF_get, m_rF_len]
  by_cases hj : i = j
  · subst hj
    have := (List.getElem?_eq_some_iff.mp h).1
    rw [if_pos rfl, if_pos this, h]
    simp [m_rv, vp_updL]
  · rw [if_neg hj]
    have hj2 : ¬ (j = i) := by omega
    simp [vp_updL, hj2]
theorem m_rq_r {a : Nat} (h : a + 2 < 2 ^ 31) : m_rq (nI (a + 2)) = .ref a := by unfold m_rq; rw [nI_clamp h]
theorem m_rq_0 : m_rq (nI 0) = .null := by unfold m_rq; rw [nI_clamp (by decide)]
theorem m_rq_1 : m_rq (nI 1) = .retAddr 1 := by unfold m_rq; rw [nI_clamp (by decide)]
theorem m_ro_r {a : Nat} (h : a + 2 < 2 ^ 31) : m_ro (nI (a + 2)) = some a := by unfold m_ro; rw [nI_clamp h]
theorem m_ro_0 : m_ro 0 = none := by
  unfold m_ro
  rw [show (0 : Int32) = nI 0 from rfl, nI_clamp (by decide)]
theorem m_rF_setr {fs : List Value} {f : Nat → Int32} {g : Nat → Int64} {i : Nat} {x : Int32} (h : fs[i]? = some (.retAddr 7)) : (m_rF fs f g 0).set i (m_rq x) = m_rF fs (upd f i x) g 0 := by
  apply List.ext_getElem?
  intro j
  rw [List.getElem?_set, m_rF_get, m_rF_get, m_rF_len]
  by_cases hj : i = j
  · subst hj
    have := (List.getElem?_eq_some_iff.mp h).1
    rw [if_pos rfl, if_pos this, h]
    simp [m_rv, upd]
  · rw [if_neg hj]
    have hj2 : ¬ (j = i) := by omega
    simp [upd, hj2]
/-- a field that the shape itself holds: a fixed reference -/
def m_st (v : Value) : Bool := match v with
  | .int _ => false
  | .long _ => false
  | .retAddr j => !decide (j = 7)
  | _ => true
theorem m_rv_st {v : Value} {x : Int32} {g : Int64} (h : m_st v = true) : m_rv v x g = v := by
  cases v <;> simp [m_st, m_rv] at h ⊢
  exact fun h2 => absurd h2 h
theorem m_rF_sets {fs : List Value} {f : Nat → Int32} {g : Nat → Int64} {i : Nat} {v : Value} (h : m_st v = true) : (m_rF fs f g 0).set i v = m_rF (fs.set i v) f g 0 := by
  apply List.ext_getElem?
  intro j
  rw [List.getElem?_set, m_rF_get, m_rF_get, m_rF_len, List.getElem?_set]
  by_cases hj : i = j
  · subst hj
    by_cases hl : i < fs.length
    · simp [hl, m_rv_st h]
    · simp [hl]
  · rw [if_neg hj, if_neg hj]
theorem mR_wf {s : mM} {p t n : Nat} {f : Nat → Int32} {z : Nat → Int32} (h : s.1 p = .inl (t, n, .inl z)) : am_set (mR s) p (.inl (t, n, .inl f)) = mR (wf s p f) := by
  refine Prod.ext ?_ rfl
  funext q
  by_cases hq : q = p
  · subst hq
    simp [am_set, am_up, mR, wf, m_up, h, m_rE]
  · simp [am_set, am_up, mR, wf, m_up, hq]
theorem mR_wg {s : mM} {p t n : Nat} {g : Nat → Int64} {z : Nat → Int64} (h : s.1 p = .inl (t, n, .inr (.inl z))) : am_set (mR s) p (.inl (t, n, .inr (.inl g))) = mR (wg s p g) := by
  refine Prod.ext ?_ rfl
  funext q
  by_cases hq : q = p
  · subst hq
    simp [am_set, am_up, mR, wg, m_up, h, m_rE]
  · simp [am_set, am_up, mR, wg, m_up, hq]
theorem mR_obj {s : mM} {p ci : Nat} {fs : List Value} (h : s.1 p = .inr (ci, fs)) : (mR s).1 p = .inr (ci, m_rF fs (s.2.1 p) (s.2.2.1 p) 0) := by simp [mR, h, m_rE]
theorem mR_ints {s : mM} {p t n : Nat} {z : Nat → Int32} (h : s.1 p = .inl (t, n, .inl z)) : (mR s).1 p = .inl (t, n, .inl (s.2.1 p)) := by simp [mR, h, m_rE]
theorem mR_longs {s : mM} {p t n : Nat} {z : Nat → Int64} (h : s.1 p = .inl (t, n, .inr (.inl z))) : (mR s).1 p = .inl (t, n, .inr (.inl (s.2.2.1 p))) := by simp [mR, h, m_rE]
theorem mR_refs {s : mM} {p t n : Nat} {z : Nat → Option Nat} (h : s.1 p = .inl (t, n, .inr (.inr (.inr (.inr z))))) : (mR s).1 p = .inl (t, n, .inr (.inr (.inr (.inr (fun i => m_ro (s.2.1 p i)))))) := by simp [mR, h, m_rE]
theorem mR_wi {s : mM} {p ci i : Nat} {fs : List Value} {z x : Int32} (h : s.1 p = .inr (ci, fs)) (hi : fs[i]? = some (.int z)) : am_set (mR s) p (.inr (ci, (m_rF fs (s.2.1 p) (s.2.2.1 p) 0).set i (.int x))) = mR (wi s p i x) := by
  rw [m_rF_seti hi]
  refine Prod.ext ?_ rfl
  funext q
  by_cases hq : q = p
  · subst hq
    simp [am_set, am_up, mR, wi, wf, m_up, h, m_rE]
  · simp [am_set, am_up, mR, wi, wf, m_up, hq]
theorem mR_wl {s : mM} {p ci i : Nat} {fs : List Value} {z x : Int64} (h : s.1 p = .inr (ci, fs)) (hi : fs[i]? = some (.long z)) : am_set (mR s) p (.inr (ci, (m_rF fs (s.2.1 p) (s.2.2.1 p) 0).set i (.long x))) = mR (wl s p i x) := by
  rw [m_rF_setl hi]
  refine Prod.ext ?_ rfl
  funext q
  by_cases hq : q = p
  · subst hq
    simp [am_set, am_up, mR, wl, wg, m_up, h, m_rE]
  · simp [am_set, am_up, mR, wl, wg, m_up, hq]
theorem mR_wq {s : mM} {p ci i : Nat} {fs : List Value} {x : Int32} (h : s.1 p = .inr (ci, fs)) (hi : fs[i]? = some (.retAddr 7)) : am_set (mR s) p (.inr (ci, (m_rF fs (s.2.1 p) (s.2.2.1 p) 0).set i (m_rq x))) = mR (wi s p i x) := by
  rw [m_rF_setr hi]
  refine Prod.ext ?_ rfl
  funext q
  by_cases hq : q = p
  · subst hq
    simp [am_set, am_up, mR, wi, wf, m_up, h, m_rE]
  · simp [am_set, am_up, mR, wi, wf, m_up, hq]
theorem mR_ws {s : mM} {p ci i : Nat} {fs : List Value} {v : Value} (h : s.1 p = .inr (ci, fs)) (hv : m_st v = true) : am_set (mR s) p (.inr (ci, (m_rF fs (s.2.1 p) (s.2.2.1 p) 0).set i v)) = mR (wr s p (.inr (ci, fs.set i v))) := by
  rw [m_rF_sets hv]
  refine Prod.ext ?_ rfl
  funext q
  by_cases hq : q = p
  · subst hq
    simp [am_set, am_up, mR, wr, m_up, m_rE]
  · simp [am_set, am_up, mR, wr, m_up, hq]
theorem mR_wn {s : mM} {e e2 : am_E} {n : Nat} (h : m_rE e (fun _ => 0) (fun _ => 0) = e2) : am_push (mR s) e2 n = mR (wn s e n) := by
  subst h
  refine Prod.ext ?_ rfl
  funext q
  by_cases hq : q = s.2.2.2.1
  · subst hq
    simp [am_push, am_up, mR, wn, m_up]
  · simp [am_push, am_up, mR, wn, m_up, hq]
