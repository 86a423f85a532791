/-! THE CHECK OF THE TABLES, 2 -/
def am_ch (c : Nat) : List Jvm.Cond := match c with
  | 0 => k2_sels lw_privs
  | 1 => tables_1_1
  | 2 => tables_1_2
  | 3 => tables_1_3
  | 4 => tables_1_4
  | 5 => tables_1_5
  | 6 => tables_1_6
  | 7 => tables_1_7
  | 8 => tables_1_8
  | 9 => tables_1_9
  | _ => []
theorem am_ch_in {c : Nat} {w : Jvm.Cond} (h : w ∈ am_ch c) : w ∈ lw_tbl := by
  unfold lw_tbl tables_1
  unfold am_ch at h
  split at h <;> simp only [List.mem_append] <;> first | (cases h; done) | simp [h]
def am_wd (p : Nat × Nat) : Option Jvm.Cond := (am_ch p.1)[p.2]?
theorem am_wd_in {p : Nat × Nat} {w : Jvm.Cond} (h : am_wd p = some w) : w ∈ lw_tbl := am_ch_in (List.mem_of_getElem? h)
def am_eqw (pl : List (Nat × Nat)) (j : Nat) (w : Jvm.Cond) : Bool := decide (am_wd (pl.getD j (99, 0)) = some w)
theorem am_eqw_in {pl : List (Nat × Nat)} {j : Nat} {w : Jvm.Cond} (h : am_eqw pl j w = true) : w ∈ lw_tbl := am_wd_in (by simpa [am_eqw] using h)
def am_chk0 (own : String) (i : ClassFile.Instr) (k : Value) (pl : List (Nat × Nat)) : Bool := match i with
  | .iconst n => decide (k = .int (Int32.ofInt n))
  | .bipush n => decide (k = .int (Int8.ofInt n).toInt32)
  | .sipush n => decide (k = .int (Int16.ofInt n).toInt32)
  | .lconst n => decide (k = .long (Int64.ofNat (n : Nat)))
  | .iinc _ n => decide (k = .int (Int32.ofInt n))
  | .ldc ix => match k with
    | .int v => am_eqw pl 0 (.constant own ix v)
    | _ => false
  | .ldc_w ix => match k with
    | .int v => am_eqw pl 0 (.constant own ix v)
    | _ => false
  | .ldc2_w ix => match k with
    | .long v => am_eqw pl 0 (.constantLong own ix v)
    | _ => false
  | _ => true
theorem am_chk0_ok {own : String} {i : ClassFile.Instr} {k : Value} {pl : List (Nat × Nat)} (h : am_chk0 own i k pl = true) : am_ok0 own i k := by
  cases i <;> simp only [am_ok0] <;> simp only [am_chk0] at h
  case iconst n => exact ⟨_, by simpa using h, rfl⟩
  case bipush n => exact ⟨_, by simpa using h, rfl⟩
  case sipush n => exact ⟨_, by simpa using h, rfl⟩
  case lconst n => exact ⟨_, by simpa using h, rfl⟩
  case iinc j n => exact ⟨_, by simpa using h, rfl⟩
  case ldc ix => split at h <;> first | (cases h; done) | exact ⟨_, rfl, am_eqw_in h⟩
  case ldc_w ix => split at h <;> first | (cases h; done) | exact ⟨_, rfl, am_eqw_in h⟩
  case ldc2_w ix => split at h <;> first | (cases h; done) | exact ⟨_, rfl, am_eqw_in h⟩
def am_chk1 (pc : Nat) (i : ClassFile.Instr) (r : List Nat) : Bool := match i with
  | .goto o => decide ((pc : Int) + o = r.headD 0)
  | .ifCond _ o => decide ((pc : Int) + o = r.headD 0)
  | .if_icmp _ o => decide ((pc : Int) + o = r.headD 0)
  | .if_acmp _ o => decide ((pc : Int) + o = r.headD 0)
  | .ifnull o => decide ((pc : Int) + o = r.headD 0)
  | .ifnonnull o => decide ((pc : Int) + o = r.headD 0)
  | _ => true
theorem am_chk1_ok {pc : Nat} {i : ClassFile.Instr} {r : List Nat} (h : am_chk1 pc i r = true) : am_ok1 pc i r := by
  cases i <;> simp only [am_ok1] <;> simp only [am_chk1, decide_eq_true_eq] at h <;> exact h
def am_chkG (ref nm ds : String) (slot ci : Nat) : Bool := match vwCl[ci]? with
  | some q => decide (slot < q.2.2) && decide ((q.2.1 slot).2.1 = nm) && decide ((q.2.1 slot).2.2.1 = ds) && (decide ((q.2.1 slot).1 = ref) || decide (Jvm.Cond.sameField ref (q.2.1 slot).1 nm ds ∈ lw_tbl))
  | none => false
theorem am_chkG_ok {ref nm ds : String} {slot ci : Nat} (h : am_chkG ref nm ds slot ci = true) : ∃ C T N, vwCl[ci]? = some (C, T, N) ∧ slot < N ∧ (T slot).2.1 = nm ∧ (T slot).2.2.1 = ds ∧ ((T slot).1 = ref ∨ Jvm.Cond.sameField ref (T slot).1 nm ds ∈ lw_tbl) := by
  unfold am_chkG at h
  split at h
  · rename_i q hq
    simp only [Bool.and_eq_true, Bool.or_eq_true, decide_eq_true_eq] at h
    exact ⟨q.1, q.2.1, q.2.2, hq, h.1.1.1, h.1.1.2, h.1.2, h.2⟩
  · cases h
def am_chkt (ty : Nat) (ft : FieldType) : Bool := match ty, ft with
  | 0, .int => true
  | 1, .boolean => true
  | 3, .long => true
  | 2, .object _ => true
  | 2, .array _ => true
  | _, _ => false
theorem am_chkt_ok {ty : Nat} {ft : FieldType} (h : am_chkt ty ft = true) : am_okt ty ft := by
  unfold am_chkt at h
  split at h
  · rfl
  · rfl
  · rfl
  · exact Or.inl ⟨_, rfl⟩
  · exact Or.inr ⟨_, rfl⟩
  · cases h
def am_chkP (own mname nm ds : String) (slot ci : Nat) : Bool := match vwCl[ci]? with
  | some q => !(q.2.1 slot).2.2.2 || (decide (mname = "<init>") && decide ((q.2.1 slot).1 = own))
  | none => false
def am_chkD (ds : List Value) (T : u_T) (N : Nat) : Bool := (List.range N).all (fun j => match parseFieldDescriptor (T j).2.2.1 with
  | some ft => decide (defaultValue ft = vp_V ds j)
  | none => false) && ds.all (fun v => decide (v = .int 0) || decide (v = .long 0) || decide (v = .null))
theorem am_chkD_ok {DF : Nat → List Value} {ci : Nat} {T : u_T} {N : Nat} (h : am_chkD (DF ci) T N = true) : am_okD DF ci T N := by
  unfold am_chkD at h
  simp only [Bool.and_eq_true, List.all_eq_true, List.mem_range, Bool.or_eq_true, decide_eq_true_eq] at h
  obtain ⟨h1, h2⟩ := h
  refine ⟨⟨fun j => (parseFieldDescriptor (T j).2.2.1).getD .int, fun k hk => ?_, fun j hj => ?_⟩, fun v hv => ?_⟩
  · have := h1 k hk
    split at this
    · rename_i ft hft
      simp [hft]
    · cases this
  · have := h1 j hj
    split at this
    · rename_i ft hft
      simp only [decide_eq_true_eq] at this
      simp [hft, this]
    · cases this
  · rcases h2 v hv with (h | h) | h
    · exact Or.inl h
    · exact Or.inr (Or.inl h)
    · exact Or.inr (Or.inr h)
def am_chk2 (own mname : String) (DF : Nat → List Value) (i : ClassFile.Instr) (r : List Nat) (k : Value) (pl : List (Nat × Nat)) : Bool := match i with
  | .getfield ix => match r with
    | slot :: cis => if cis = [100] then (decide (slot = 0) && am_eqw pl 0 (.fieldLink own ix "java/lang/String" "value" "[B")) || (decide (slot = 1) && am_eqw pl 0 (.fieldLink own ix "java/lang/String" "coder" "B")) else match am_wd (pl.getD 0 (99, 0)) with
      | some (.fieldLink o x ref nm ds) => decide (o = own) && decide (x = ix) && cis.all (fun ci => am_chkG ref nm ds slot ci)
      | some (.fieldLinkNest o x ref nm ds _) => decide (o = own) && decide (x = ix) && cis.all (fun ci => am_chkG ref nm ds slot ci)
      | _ => false
    | _ => false
  | .putfield ix => match r with
    | slot :: ty :: cis => match am_wd (pl.getD 0 (99, 0)) with
      | some (.fieldLink o x ref nm ds) => decide (o = own) && decide (x = ix) && (match parseFieldDescriptor ds with
        | some ft => am_chkt ty ft
        | none => false) && cis.all (fun ci => am_chkG ref nm ds slot ci && am_chkP own mname nm ds slot ci)
      | _ => false
    | _ => false
  | .new ix => match r with
    | [ci, n] => match vwCl[ci]? with
      | some q => decide (n = q.2.2) && am_eqw pl 0 (.classLink own ix q.1) && am_eqw pl 1 (.instantiable q.1 n) && am_eqw pl 2 (.initialized q.1) && am_chkD (DF ci) q.2.1 n
      | none => false
    | _ => false
  | .newarray t => (decide (r = [0]) && decide (t = .int)) || (decide (r = [1]) && decide (t = .byte)) || (decide (r = [2]) && decide (t = .boolean)) || (decide (r = [3]) && decide (t = .long))
  | .anewarray ix => am_eqw pl 0 (.classLink own ix "java/lang/Object")
  | .checkcast ix => match r with
    | [ci] => match vwCl[ci]? with
      | some q => am_eqw pl 0 (.classLink own ix q.1)
      | none => false
    | _ => false
  | .getstatic ix => (decide (k = .retAddr 1) && am_eqw pl 0 (.fieldLink own ix "java/util/ArrayList" "DEFAULTCAPACITY_EMPTY_ELEMENTDATA" "[Ljava/lang/Object;")) || (decide (k = .int 1) && am_eqw pl 0 (.fieldLink own ix "java/lang/String" "COMPACT_STRINGS" "Z")) || (decide (k = .retAddr 6) && am_eqw pl 0 (.fieldLink own ix "jdk/internal/util/Preconditions" "SIOOBE_FORMATTER" "Ljava/util/function/BiFunction;"))
  | .ldc ix => decide (own = "FlowerPotsModel") && ((decide (ix = 26) && decide (k = .retAddr 2)) || (decide (ix = 32) && decide (k = .retAddr 3)))
  | .invokespecial ix => am_eqw pl 0 (.methodLink own ix objectInit)
  | .invokestatic ix => (decide (r = [0]) && am_eqw pl 0 (.methodLink own ix Lib.Math.min.name)) || (decide (r = [1]) && am_eqw pl 0 (.methodLink own ix Lib.Math.max.name)) || (decide (r = [2]) && am_eqw pl 0 (.methodLink own ix Lib.MathLoose.min_long.x)) || (decide (r = [3]) && am_eqw pl 0 (.methodLink own ix Lib.MathLoose.max_long.x)) || (decide (r = [4]) && am_eqw pl 0 (.methodLink own ix arraycopyName))
  | _ => true
set_option maxHeartbeats 1000000 in
theorem am_chk2_ok {own mname : String} {DF : Nat → List Value} {i : ClassFile.Instr} {r : List Nat} {k : Value} {pl : List (Nat × Nat)} (h : am_chk2 own mname DF i r k pl = true) : am_ok2 own mname DF i r k := by
  cases i <;> simp only [am_ok2] <;> simp only [am_chk2] at h
  case getfield ix =>
    split at h
    · rename_i slot cis
      refine ⟨slot, cis, rfl, ?_⟩
      split at h
      · rename_i hc
        simp only [Bool.or_eq_true, Bool.and_eq_true, decide_eq_true_eq] at h
        refine Or.inr ⟨hc, ?_⟩
        rcases h with h | h
        · exact Or.inl ⟨h.1, am_eqw_in h.2⟩
        · exact Or.inr ⟨h.1, am_eqw_in h.2⟩
      · split at h
        · rename_i o x ref nm ds hw
          simp only [Bool.and_eq_true, decide_eq_true_eq, List.all_eq_true] at h
          obtain ⟨⟨rfl, rfl⟩, h⟩ := h
          exact Or.inl ⟨ref, nm, ds, Or.inl (am_wd_in hw), fun ci hci => am_chkG_ok (h ci hci)⟩
        · rename_i o x ref nm ds host hw
          simp only [Bool.and_eq_true, decide_eq_true_eq, List.all_eq_true] at h
          obtain ⟨⟨rfl, rfl⟩, h⟩ := h
          exact Or.inl ⟨ref, nm, ds, Or.inr ⟨host, am_wd_in hw⟩, fun ci hci => am_chkG_ok (h ci hci)⟩
        · cases h
    · cases h
  case putfield ix =>
    split at h
    · rename_i slot ty cis
      refine ⟨slot, ty, cis, rfl, ?_⟩
      split at h
      · rename_i o x ref nm ds hw
        simp only [Bool.and_eq_true, decide_eq_true_eq, List.all_eq_true] at h
        obtain ⟨⟨⟨rfl, rfl⟩, h1⟩, h⟩ := h
        refine ⟨ref, nm, ds, am_wd_in hw, ?_, fun ci hci => ?_⟩
        · split at h1
          · rename_i ft hft
            exact ⟨ft, hft, am_chkt_ok h1⟩
          · cases h1
        · obtain ⟨C, T, N, g1, g2, g3, g4, g5⟩ := am_chkG_ok (h ci hci).1
          refine ⟨C, T, N, g1, g2, g3, g4, g5, ?_⟩
          have h2 := (h ci hci).2
          unfold am_chkP at h2
          rw [g1] at h2
          simp only [Bool.or_eq_true, Bool.and_eq_true, decide_eq_true_eq, Bool.not_eq_true'] at h2
          rcases h2 with h2 | h2
          · exact Or.inl h2
          · cases hf : (T slot).2.2.2 with
            | false => exact Or.inl rfl
            | true => exact Or.inr ⟨rfl, h2⟩
      · cases h
    · cases h
  case new ix =>
    split at h
    · rename_i ci n
      split at h
      · rename_i q hq
        simp only [Bool.and_eq_true, decide_eq_true_eq] at h
        obtain ⟨⟨⟨⟨rfl, h1⟩, h2⟩, h3⟩, h4⟩ := h
        exact ⟨ci, q.1, q.2.1, q.2.2, rfl, hq, am_eqw_in h1, am_eqw_in h2, am_eqw_in h3, am_chkD_ok h4⟩
      · cases h
    · cases h
  case newarray t =>
    simp only [Bool.or_eq_true, Bool.and_eq_true, decide_eq_true_eq] at h
    rcases h with ((h | h) | h) | h
    · exact Or.inl h
    · exact Or.inr (Or.inl h)
    · exact Or.inr (Or.inr (Or.inl h))
    · exact Or.inr (Or.inr (Or.inr h))
  case anewarray ix => exact am_eqw_in h
  case checkcast ix =>
    split at h
    · rename_i ci
      split at h
      · rename_i q hq
        exact ⟨ci, q.1, q.2.1, q.2.2, rfl, hq, am_eqw_in h⟩
      · cases h
    · cases h
  case getstatic ix =>
    simp only [Bool.or_eq_true, Bool.and_eq_true, decide_eq_true_eq] at h
    rcases h with (h | h) | h
    · exact Or.inl ⟨h.1, am_eqw_in h.2⟩
    · exact Or.inr (Or.inl ⟨h.1, am_eqw_in h.2⟩)
    · exact Or.inr (Or.inr ⟨h.1, am_eqw_in h.2⟩)
  case ldc ix =>
    simp only [Bool.or_eq_true, Bool.and_eq_true, decide_eq_true_eq] at h
    exact h
  case invokespecial ix => exact am_eqw_in h
  case invokestatic ix =>
    simp only [Bool.or_eq_true, Bool.and_eq_true, decide_eq_true_eq] at h
    rcases h with (((h | h) | h) | h) | h
    · exact Or.inl ⟨h.1, am_eqw_in h.2⟩
    · exact Or.inr (Or.inl ⟨h.1, am_eqw_in h.2⟩)
    · exact Or.inr (Or.inr (Or.inl ⟨h.1, am_eqw_in h.2⟩))
    · exact Or.inr (Or.inr (Or.inr (Or.inl ⟨h.1, am_eqw_in h.2⟩)))
    · exact Or.inr (Or.inr (Or.inr (Or.inr ⟨h.1, am_eqw_in h.2⟩)))
/-- methods -/
def am_chkM (Mi : am_Mi) (mx : Nat → Nat) (y : Nat) (q : (Nat × Nat) × (Nat × Nat) × (Nat × Nat) × Nat) : Bool :=
  am_eqw [q.2.1] 0 (.initialized (Mi y).1.cls) && plainName (Mi y).1.cls && decide ((Mi y).1.cls ≠ "java/lang/invoke/MethodHandle" ∧ (Mi y).1.cls ≠ "java/lang/invoke/VarHandle") && decide (mx y ≤ 45) && decide ((parseMethodDescriptor (Mi y).1.desc).map (fun d => d.parameters.length) = some q.2.2.2) && (am_eqw [q.2.2.1] 0 (.static (Mi y).1) || am_eqw [q.2.2.1] 0 (.instanceMethod (Mi y).1))
theorem am_chkM_ok {Mi : am_Mi} {mx : Nat → Nat} {y : Nat} {q : (Nat × Nat) × (Nat × Nat) × (Nat × Nat) × Nat} (hcd : Jvm.Cond.code (Mi y).1 (Mi y).2.1 (mx y) (Mi y).2.2 ∈ lw_tbl) (h : am_chkM Mi mx y q = true) : am_okM Mi mx y ∧ am_np (Mi y).1.desc q.2.2.2 ∧ (Jvm.Cond.static (Mi y).1 ∈ lw_tbl ∨ Jvm.Cond.instanceMethod (Mi y).1 ∈ lw_tbl) := by
  unfold am_chkM at h
  simp only [Bool.and_eq_true, Bool.or_eq_true, decide_eq_true_eq] at h
  obtain ⟨⟨⟨⟨⟨h2, h3⟩, h4⟩, h5⟩, h6⟩, h7⟩ := h
  exact ⟨⟨hcd, am_eqw_in h2, h3, h4, h5⟩, h6, h7.elim (fun h => Or.inl (am_eqw_in h)) (fun h => Or.inr (am_eqw_in h))⟩
