/-! THE CHECK OF THE TABLES, 3: calls, and the whole -/
noncomputable def am_mpq (y : Nat) : (Nat × Nat) × (Nat × Nat) × (Nat × Nat) × Nat := am_mp.getD y ((99, 0), (99, 0), (99, 0), 99)
noncomputable def am_lk (own : String) (ix : Nat) (p : Nat × Nat) (y : Nat) : Bool := match am_wd p with
  | some (.methodLink o x m) => decide (o = own) && decide (x = ix) && decide (m = (am_Mt y).1)
  | some (.methodLinkNest o x m _) => decide (o = own) && decide (x = ix) && decide (m = (am_Mt y).1)
  | _ => false
theorem am_lk_ok {own : String} {ix y : Nat} {p : Nat × Nat} (h : am_lk own ix p y = true) : Jvm.Cond.methodLink own ix (am_Mt y).1 ∈ lw_tbl ∨ ∃ host, Jvm.Cond.methodLinkNest own ix (am_Mt y).1 host ∈ lw_tbl := by
  unfold am_lk at h
  split at h
  · rename_i o x m hw
    simp only [Bool.and_eq_true, decide_eq_true_eq] at h
    obtain ⟨⟨rfl, rfl⟩, rfl⟩ := h
    exact Or.inl (am_wd_in hw)
  · rename_i o x m host hw
    simp only [Bool.and_eq_true, decide_eq_true_eq] at h
    obtain ⟨⟨rfl, rfl⟩, rfl⟩ := h
    exact Or.inr ⟨host, am_wd_in hw⟩
  · cases h
def am_cnB (ci : Nat) : Option String := if ci = 100 then some "java/lang/String" else (vwCl[ci]?).map (·.1)
theorem am_cnB_ok {ci : Nat} {C : String} (h : am_cnB ci = some C) : am_cn ci C := by
  unfold am_cnB at h
  split at h
  · cases h; exact Or.inr ⟨by assumption, rfl⟩
  · cases hv : vwCl[ci]? with
    | none => rw [hv] at h; cases h
    | some q => rw [hv] at h; cases h; exact Or.inl ⟨q.2.1, q.2.2, hv⟩
def am_dcB (z : MethodName) : Bool := decide (Jvm.Cond.declares z ∈ lw_tbl) || (decide (Jvm.Cond.instanceMethod z ∈ lw_tbl) && lw_tbl.any (fun w => match w with
  | .code z' _ _ _ => decide (z' = z)
  | _ => false))
theorem am_dcB_ok {z : MethodName} (h : am_dcB z = true) : am_dc z := by
  unfold am_dcB at h
  simp only [Bool.or_eq_true, Bool.and_eq_true, decide_eq_true_eq, List.any_eq_true] at h
  rcases h with h | ⟨h1, w, h2, h3⟩
  · exact Or.inr h
  · split at h3
    · simp only [decide_eq_true_eq] at h3
      subst h3
      exact Or.inl ⟨h1, _, _, _, h2⟩
    · cases h3
noncomputable def am_chkV (xn : MethodName) : List Nat → List (Nat × Nat) → Bool
  | c :: y :: t, p :: q :: ps => (match am_cnB c with
    | some C => decide (y < 285) && am_eqw [(am_mpq y).2.2.1] 0 (.instanceMethod (am_Mt y).1) && am_eqw [p] 0 (.selects C xn (am_Mt y).1) && (decide ((am_Mt y).1 = xn) || (match am_wd q with
      | some (.sameMethod a ow b d) => decide (a = xn.cls) && decide (b = xn.name) && decide (d = xn.desc) && decide (ow ≠ "java/lang/invoke/MethodHandle" ∧ ow ≠ "java/lang/invoke/VarHandle") && am_dcB ⟨ow, xn.name, xn.desc⟩
      | _ => false))
    | none => false) && am_chkV xn t ps
  | [], _ => true
  | _, _ => false
theorem am_chkV_ok {xn : MethodName} (hM : ∀ y, y < 285 → am_okM am_Mt am_mx y) : ∀ {tb : List Nat} {ps : List (Nat × Nat)}, am_chkV xn tb ps = true → ∀ ci y, am_sel tb ci = some y → ∃ C, am_cn ci C ∧ am_okM am_Mt am_mx y ∧ Jvm.Cond.instanceMethod (am_Mt y).1 ∈ lw_tbl ∧ Jvm.Cond.selects C xn (am_Mt y).1 ∈ lw_tbl ∧ ((am_Mt y).1 = xn ∨ ∃ ow, Jvm.Cond.sameMethod xn.cls ow xn.name xn.desc ∈ lw_tbl ∧ (ow ≠ "java/lang/invoke/MethodHandle" ∧ ow ≠ "java/lang/invoke/VarHandle") ∧ am_dc ⟨ow, xn.name, xn.desc⟩)
  | [], _, _, ci, y, hs => by simp [am_sel] at hs
  | [_], _, h, ci, y, hs => by simp [am_sel] at hs
  | c :: y0 :: t, [], h, ci, y, hs => by simp [am_chkV] at h
  | c :: y0 :: t, [_], h, ci, y, hs => by simp [am_chkV] at h
  | c :: y0 :: t, p :: q :: ps, h, ci, y, hs => by
    rw [am_chkV, Bool.and_eq_true] at h
    obtain ⟨h1, h2⟩ := h
    unfold am_sel at hs
    split at hs
    · rename_i hc
      cases hs
      subst hc
      split at h1
      · rename_i C hC
        simp only [Bool.and_eq_true, Bool.or_eq_true, decide_eq_true_eq] at h1
        obtain ⟨⟨⟨h3, h4⟩, h5⟩, h6⟩ := h1
        refine ⟨C, am_cnB_ok hC, hM _ h3, am_eqw_in h4, am_eqw_in h5, ?_⟩
        rcases h6 with h6 | h6
        · exact Or.inl h6
        · split at h6
          · rename_i a ow b d hw
            simp only [Bool.and_eq_true, decide_eq_true_eq] at h6
            obtain ⟨⟨⟨⟨rfl, rfl⟩, rfl⟩, h7⟩, h8⟩ := h6
            exact Or.inr ⟨ow, am_wd_in hw, h7, am_dcB_ok h8⟩
          · cases h6
      · cases h1
    · exact am_chkV_ok hM h2 ci y hs
noncomputable def am_chk3 (own : String) (i : ClassFile.Instr) (r : List Nat) (pl : List (Nat × Nat)) : Bool := match i with
  | .invokestatic ix => match r with
    | [n, y] => decide (y < 285) && decide (n = (am_mpq y).2.2.2) && am_lk own ix (pl.getD 0 (99, 0)) y && am_eqw [(am_mpq y).2.2.1] 0 (.static (am_Mt y).1)
    | _ => false
  | .invokespecial ix => match r with
    | [n, y] => decide (y < 285) && decide (n = (am_mpq y).2.2.2 + 1) && am_lk own ix (pl.getD 0 (99, 0)) y && am_eqw [(am_mpq y).2.2.1] 0 (.instanceMethod (am_Mt y).1) && decide ((am_Mt y).1.name = "<init>") && decide ((am_Mt y).2.2 = none)
    | _ => false
  | .invokevirtual ix => match r with
    | n :: tb => match am_wd (pl.getD 0 (99, 0)) with
      | some (.methodLink o x xn) => decide (o = own) && decide (x = ix) && am_chkV xn tb (pl.drop 1) && (match tb with
        | _ :: y :: _ => decide (y < 285) && decide (n = (am_mpq y).2.2.2 + 1) && decide (xn.desc = (am_Mt y).1.desc)
        | _ => false)
      | _ => false
    | _ => false
  | _ => true
theorem am_chk3_ok (hM : ∀ y, y < 285 → am_okM am_Mt am_mx y ∧ am_np (am_Mt y).1.desc (am_mpq y).2.2.2) {own : String} {i : ClassFile.Instr} {r : List Nat} {pl : List (Nat × Nat)} (h : am_chk3 own i r pl = true) : am_ok3 am_Mt am_mx own i r := by
  cases i <;> simp only [am_ok3] <;> simp only [am_chk3] at h
  case invokestatic ix =>
    split at h
    · rename_i n y
      simp only [Bool.and_eq_true, decide_eq_true_eq] at h
      obtain ⟨⟨⟨h1, rfl⟩, h2⟩, h3⟩ := h
      exact ⟨_, y, rfl, ⟨am_lk_ok h2, (hM y h1).1, (hM y h1).2⟩, am_eqw_in h3⟩
    · cases h
  case invokespecial ix =>
    split at h
    · rename_i n y
      simp only [Bool.and_eq_true, decide_eq_true_eq] at h
      obtain ⟨⟨⟨⟨⟨h1, rfl⟩, h2⟩, h3⟩, h4⟩, h5⟩ := h
      exact ⟨_, y, rfl, ⟨am_lk_ok h2, (hM y h1).1, (hM y h1).2⟩, am_eqw_in h3, h4, h5⟩
    · cases h
  case invokevirtual ix =>
    split at h
    · rename_i n tb
      split at h
      · rename_i o x xn hw
        simp only [Bool.and_eq_true, decide_eq_true_eq] at h
        obtain ⟨⟨⟨rfl, rfl⟩, h1⟩, h2⟩ := h
        split at h2
        · rename_i c y t
          simp only [Bool.and_eq_true, decide_eq_true_eq] at h2
          obtain ⟨⟨h3, rfl⟩, h4⟩ := h2
          exact ⟨_, _, xn, rfl, am_wd_in hw, by rw [h4]; exact (hM y h3).2, am_chkV_ok (fun y hy => (hM y hy).1) h1⟩
        · cases h2
      · cases h
    · cases h
def am_chkR (ret : Option FieldType) (i : ClassFile.Instr) (r : List Nat) : Bool := match i with
  | .ireturn => match r with
    | [c] => decide (ret = some (am_ty c))
    | _ => false
  | .lreturn => decide (ret = some .long)
  | .areturn => match ret with
    | some (.object _) => true
    | some (.array _) => true
    | _ => false
  | .return_ => decide (ret = none)
  | _ => true
theorem am_chkR_ok {ret : Option FieldType} {i : ClassFile.Instr} {r : List Nat} (h : am_chkR ret i r = true) : am_okR ret i r := by
  cases i <;> simp only [am_okR] <;> simp only [am_chkR] at h
  case ireturn =>
    split at h
    · exact ⟨_, rfl, by simpa using h⟩
    · cases h
  case lreturn => simpa using h
  case areturn =>
    split at h
    · exact ⟨_, rfl, Or.inl ⟨_, rfl⟩⟩
    · exact ⟨_, rfl, Or.inr ⟨_, rfl⟩⟩
    · cases h
  case return_ => simpa using h
def am_chk5 (pc : Nat) (i : ClassFile.Instr) (r : List Nat) (k : Value) : Bool := match i with
  | .tableswitch dflt lo hi offs => match r, k with
    | d :: ts, .int klo => decide (klo.toInt = lo) && decide (lo + ts.length = hi + 1) && decide ((pc : Int) + dflt = d) && (List.range ts.length).all (fun j => match offs[j]? with
      | some off => decide ((pc : Int) + off = (ts.getD j d : Nat))
      | none => false)
    | _, _ => false
  | _ => false
theorem am_chk5_ok {pc : Nat} {i : ClassFile.Instr} {r : List Nat} {k : Value} (h : am_chk5 pc i r k = true) : am_ok5 pc i r k := by
  cases i <;> simp only [am_chk5] at h <;> try (cases h; done)
  rename_i dflt lo hi offs
  split at h
  · rename_i d ts klo
    simp only [Bool.and_eq_true, decide_eq_true_eq, List.all_eq_true, List.mem_range] at h
    obtain ⟨⟨⟨h1, h2⟩, h3⟩, h4⟩ := h
    refine ⟨d, ts, klo, rfl, rfl, h1, h2, h3, fun j hj => ?_⟩
    have h5 := h4 j hj
    split at h5
    · rename_i off ho
      exact ⟨off, ho, by simpa using h5⟩
    · cases h5
  · cases h
noncomputable def am_chk (y pc : Nat) (t : am_I) (pl : List (Nat × Nat)) : Bool := (if t.1 ≤ 4 then decide (decode (am_Mt y).2.1 pc = .ok (t.2.1, am_len t.2.1)) && decide (t.2.2.1 = pc + am_len t.2.1) else match decode (am_Mt y).2.1 pc with
    | .ok (i, _) => decide (i = t.2.1)
    | _ => false) && (match t.1 with
  | 0 => am_chk0 (am_Mt y).1.cls t.2.1 t.2.2.2.2 pl
  | 1 => am_chk1 pc t.2.1 t.2.2.2.1
  | 2 => am_chk2 (am_Mt y).1.cls (am_Mt y).1.name am_DF t.2.1 t.2.2.2.1 t.2.2.2.2 pl
  | 3 => am_chk3 (am_Mt y).1.cls t.2.1 t.2.2.2.1 pl
  | 4 => am_chkR (am_Mt y).2.2 t.2.1 t.2.2.2.1
  | 5 => am_chk5 pc t.2.1 t.2.2.2.1 t.2.2.2.2
  | _ => true)
theorem am_chk_ok (hM : ∀ y, y < 285 → am_okM am_Mt am_mx y ∧ am_np (am_Mt y).1.desc (am_mpq y).2.2.2) {y pc : Nat} {t : am_I} {pl : List (Nat × Nat)} (h : am_chk y pc t pl = true) : am_ok am_Mt am_mx am_DF y pc t := by
  unfold am_chk at h
  rw [Bool.and_eq_true] at h
  obtain ⟨h1, h2⟩ := h
  obtain ⟨kd, i, nx, r, k⟩ := t
  simp only at h1 h2
  refine ⟨?_, ?_⟩
  · split at h1
    · simp only [Bool.and_eq_true, decide_eq_true_eq] at h1
      exact ⟨_, h1.1, fun _ => ⟨rfl, h1.2⟩⟩
    · rename_i hk
      split at h1
      · rename_i i2 len hd
        simp only [decide_eq_true_eq] at h1
        subst h1
        exact ⟨len, hd, fun h => absurd h hk⟩
      · cases h1
  · clear h1
    rcases kd with _ | _ | _ | _ | _ | _ | kd
    · exact am_chk0_ok h2
    · exact am_chk1_ok h2
    · exact am_chk2_ok h2
    · exact am_chk3_ok hM h2
    · exact am_chkR_ok h2
    · exact am_chk5_ok h2
    · trivial
noncomputable def am_chkL (y : Nat) : List (Nat × am_I) → List (List (Nat × Nat)) → Bool
  | [], _ => true
  | e :: es, p :: ps => am_chk y e.1 e.2 p && am_chkL y es ps
  | _, _ => false
theorem am_chkL_ok {y : Nat} : ∀ {es : List (Nat × am_I)} {ps : List (List (Nat × Nat))}, am_chkL y es ps = true → ∀ e ∈ es, ∃ p, am_chk y e.1 e.2 p = true
  | [], _, _, e, he => by cases he
  | e0 :: es, [], h, e, he => by simp [am_chkL] at h
  | e0 :: es, p :: ps, h, e, he => by
    rw [am_chkL, Bool.and_eq_true] at h
    rcases List.mem_cons.mp he with rfl | he
    · exact ⟨p, h.1⟩
    · exact am_chkL_ok h.2 e he
theorem am_chkL_app {y : Nat} : ∀ {a b : List (Nat × am_I)} {p q : List (List (Nat × Nat))}, p.length = a.length → am_chkL y a p = true → am_chkL y b q = true → am_chkL y (a ++ b) (p ++ q) = true
  | [], b, [], q, _, _, h => h
  | [], b, _ :: _, q, hl, _, _ => by cases hl
  | _ :: _, b, [], q, hl, _, _ => by cases hl
  | e :: a, b, p0 :: p, q, hl, h, k => by
    rw [am_chkL, Bool.and_eq_true] at h
    show am_chkL y (e :: (a ++ b)) (p0 :: (p ++ q)) = true
    rw [am_chkL, Bool.and_eq_true]
    exact ⟨h.1, am_chkL_app (by simpa using hl) h.2 k⟩
