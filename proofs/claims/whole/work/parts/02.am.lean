/-! AN ABSTRACT MACHINE: heap cells at their own numbers, values as the machine's, the code as tables. A tenth of the JVM, total and pure. -/
abbrev am_E : Type := (Nat × vp_A) ⊕ (Nat × List Value)
/-- cells, the next number, cells made, slots made -/
abbrev am_H : Type := (Nat → am_E) × Nat × Nat × Nat
/-- kind, instruction, the next place, data, a constant -/
abbrev am_I : Type := Nat × ClassFile.Instr × Nat × List Nat × Value
def am_up (f : Nat → am_E) (a : Nat) (e : am_E) : Nat → am_E := fun b => if b = a then e else f b
def am_gl (ls : List Value) (i : Nat) : Value := ls.getD i (.float 0)
def am_cl (ls : List Value) (i : Nat) : List Value := match i with
  | 0 => ls
  | j + 1 => match ls.getD j (.float 0) with
    | .long _ => ls.set j (.float 0)
    | _ => ls
def am_s1 (ls : List Value) (i : Nat) (v : Value) : List Value := (am_cl ls i).set i v
def am_s2 (ls : List Value) (i : Nat) (v : Value) : List Value := ((am_cl ls i).set i v).set (i + 1) (.float 0)
def am_c1 (v : Value) : Bool := match v with
  | .int _ => true
  | .null => true
  | .ref _ => true
  | .retAddr _ => true
  | _ => false
abbrev am_O : Type := Option (List Value × List Value)
def am_li (v : Value) (ls st : List Value) : am_O := match v with
  | .int x => some (ls, .int x :: st)
  | _ => none
def am_ll (v : Value) (ls st : List Value) : am_O := match v with
  | .long x => some (ls, .long x :: st)
  | _ => none
def am_la (v : Value) (ls st : List Value) : am_O := match v with
  | .ref x => some (ls, .ref x :: st)
  | .retAddr x => some (ls, .retAddr x :: st)
  | .null => some (ls, .null :: st)
  | _ => none
def am_si (i : Nat) (ls st : List Value) : am_O := match st with
  | .int x :: s => if i < ls.length then some (am_s1 ls i (.int x), s) else none
  | _ => none
def am_sl (i : Nat) (ls st : List Value) : am_O := match st with
  | .long x :: s => if i + 1 < ls.length then some (am_s2 ls i (.long x), s) else none
  | _ => none
def am_sa (i : Nat) (ls st : List Value) : am_O := match st with
  | .ref x :: s => if i < ls.length then some (am_s1 ls i (.ref x), s) else none
  | .retAddr x :: s => if i < ls.length then some (am_s1 ls i (.retAddr x), s) else none
  | .null :: s => if i < ls.length then some (am_s1 ls i .null, s) else none
  | _ => none
def am_ii (f : Int32 → Int32 → Int32) (ls st : List Value) : am_O := match st with
  | .int y :: .int x :: s => some (ls, .int (f x y) :: s)
  | _ => none
def am_ll2 (f : Int64 → Int64 → Int64) (ls st : List Value) : am_O := match st with
  | .long y :: .long x :: s => some (ls, .long (f x y) :: s)
  | _ => none
/-- what moves values about and reckons, the heap aside -/
def am_p (i : ClassFile.Instr) (k : Value) (ls st : List Value) : am_O := match i with
  | .iload j => am_li (am_gl ls j) ls st
  | .iload_n j => am_li (am_gl ls j.val) ls st
  | .lload j => am_ll (am_gl ls j) ls st
  | .lload_n j => am_ll (am_gl ls j.val) ls st
  | .aload j => am_la (am_gl ls j) ls st
  | .aload_n j => am_la (am_gl ls j.val) ls st
  | .istore j => am_si j ls st
  | .istore_n j => am_si j.val ls st
  | .lstore j => am_sl j ls st
  | .lstore_n j => am_sl j.val ls st
  | .astore j => am_sa j ls st
  | .astore_n j => am_sa j.val ls st
  | .iconst _ => some (ls, k :: st)
  | .bipush _ => some (ls, k :: st)
  | .sipush _ => some (ls, k :: st)
  | .ldc _ => some (ls, k :: st)
  | .ldc_w _ => some (ls, k :: st)
  | .ldc2_w _ => some (ls, k :: st)
  | .lconst _ => some (ls, k :: st)
  | .aconst_null => some (ls, .null :: st)
  | .iinc j _ => match am_gl ls j, k with
    | .int x, .int c => if j < ls.length then some (am_s1 ls j (.int (x + c)), st) else none
    | _, _ => none
  | .iadd => am_ii (fun x y => x + y) ls st
  | .isub => am_ii (fun x y => x - y) ls st
  | .imul => am_ii (fun x y => x * y) ls st
  | .iand => am_ii (fun x y => x &&& y) ls st
  | .ior => am_ii (fun x y => x ||| y) ls st
  | .ixor => am_ii (fun x y => x ^^^ y) ls st
  | .ishl => am_ii (fun x y => x <<< (y &&& 31)) ls st
  | .ishr => am_ii (fun x y => x >>> (y &&& 31)) ls st
  | .iushr => am_ii (fun x y => (x.toUInt32 >>> (y.toUInt32 &&& Int32.toUInt32 31)).toInt32) ls st
  | .idiv => match st with
    | .int y :: .int x :: s => if y = 0 then none else some (ls, .int (x / y) :: s)
    | _ => none
  | .irem => match st with
    | .int y :: .int x :: s => if y = 0 then none else some (ls, .int (x - x / y * y) :: s)
    | _ => none
  | .ladd => am_ll2 (fun x y => x + y) ls st
  | .lsub => am_ll2 (fun x y => x - y) ls st
  | .lmul => am_ll2 (fun x y => x * y) ls st
  | .land => am_ll2 (fun x y => x &&& y) ls st
  | .lor => am_ll2 (fun x y => x ||| y) ls st
  | .ldiv => match st with
    | .long y :: .long x :: s => if y = 0 then none else some (ls, .long (x / y) :: s)
    | _ => none
  | .lrem => match st with
    | .long y :: .long x :: s => if y = 0 then none else some (ls, .long (x - x / y * y) :: s)
    | _ => none
  | .lshl => match st with
    | .int y :: .long x :: s => some (ls, .long (x <<< (y.toInt64 &&& 63)) :: s)
    | _ => none
  | .lushr => match st with
    | .int y :: .long x :: s => some (ls, .long ((x.toUInt64 >>> (y.toInt64.toUInt64 &&& Int64.toUInt64 63)).toInt64) :: s)
    | _ => none
  | .lcmp => match st with
    | .long y :: .long x :: s => some (ls, .int (lg_cmp x y) :: s)
    | _ => none
  | .i2l => match st with
    | .int x :: s => some (ls, .long x.toInt64 :: s)
    | _ => none
  | .l2i => match st with
    | .long x :: s => some (ls, .int x.toInt32 :: s)
    | _ => none
  | .i2b => match st with
    | .int x :: s => some (ls, .int x.toInt8.toInt32 :: s)
    | _ => none
  | .i2c => match st with
    | .int x :: s => some (ls, .int (x.toUInt32 % 65536).toInt32 :: s)
    | _ => none
  | .dup => match st with
    | v :: s => if am_c1 v then some (ls, v :: v :: s) else none
    | _ => none
  | .pop => match st with
    | v :: s => if am_c1 v then some (ls, s) else none
    | _ => none
  | .dup_x1 => match st with
    | v :: w :: s => if am_c1 v && am_c1 w then some (ls, v :: w :: v :: s) else none
    | _ => none
  | .dup2 => match st with
    | v :: w :: s => if am_c1 v && am_c1 w then some (ls, v :: w :: v :: w :: s) else none
    | _ => none
  | _ => none
def am_cmp (c : ClassFile.Cond) (x y : Int32) : Bool := match c with
  | .eq => decide (x = y)
  | .ne => !decide (x = y)
  | .lt => decide (x < y)
  | .ge => decide (y ≤ x)
  | .gt => decide (y < x)
  | .le => decide (x ≤ y)
def am_isr (v : Value) : Bool := match v with
  | .ref _ => true
  | .null => true
  | .retAddr _ => true
  | _ => false
/-- branches: taken or not -/
def am_b (i : ClassFile.Instr) (st : List Value) : Option (Bool × List Value) := match i with
  | .goto _ => some (true, st)
  | .ifCond c _ => match st with
    | .int x :: s => some (am_cmp c x 0, s)
    | _ => none
  | .if_icmp c _ => match st with
    | .int y :: .int x :: s => some (am_cmp c x y, s)
    | _ => none
  | .ifnull _ => match st with
    | .null :: s => some (true, s)
    | .ref _ :: s => some (false, s)
    | _ => none
  | .ifnonnull _ => match st with
    | .null :: s => some (false, s)
    | .ref _ :: s => some (true, s)
    | _ => none
  | .if_acmp .eq _ => match st with
    | .retAddr y :: .retAddr x :: s => if x = 1 ∧ y = 1 then some (true, s) else none
    | .retAddr y :: .ref _ :: s => if y = 1 then some (false, s) else none
    | _ => none
  | _ => none
/-- what lies outside: the script (its length, its ints) -/
abbrev am_X : Type := Nat × (Nat → Int32)
def am_tk (X : am_X) (j : Nat) : am_E := match j with
  | 0 => .inl (0, X.1, .inl X.2)
  | 1 => .inl (4, 0, .inr (.inr (.inr (.inr (fun _ => none)))))
  | 2 => .inr (100, [.retAddr 4, .int 0])
  | 3 => .inr (100, [.retAddr 5, .int 0])
  | 4 => .inl (1, 1, .inl (fun _ => 121))
  | 5 => .inl (1, 4, .inl (fun i => if i = 0 then 112 else if i = 1 then 100 else if i = 2 then 115 else 110))
  | _ => .inr (999, [])
def am_rd (X : am_X) (hp : am_H) (v : Value) : Option am_E := match v with
  | .ref a => some (hp.1 a)
  | .retAddr j => some (am_tk X j)
  | _ => none
def am_ty (c : Nat) : FieldType := match c with
  | 0 => .int
  | 1 => .boolean
  | 2 => .byte
  | _ => .char
def am_fit (c : Nat) (v : Value) : Bool := match c, v with
  | 0, .int _ => true
  | 1, .int x => fits .boolean (.int x)
  | 2, v => am_isr v
  | 3, .long _ => true
  | _, _ => false
def am_in (i : Int32) (n : Nat) : Bool := !(decide (i < 0 ∨ n ≤ i.toNatClampNeg))
def am_push (hp : am_H) (e : am_E) (n : Nat) : am_H := (am_up hp.1 hp.2.1 e, hp.2.1 + 1, hp.2.2.1 + 1, hp.2.2.2 + n)
def am_set (hp : am_H) (a : Nat) (e : am_E) : am_H := (am_up hp.1 a e, hp.2)
abbrev am_Q : Type := Option (List Value × am_H)
def am_la2 (ts : List Nat) (X : am_X) (st : List Value) (hp : am_H) : am_Q := match st with
  | .int i :: v :: s => (am_rd X hp v).bind fun e => match e with
    | .inl (t', n, .inl f) => if ts.contains t' && am_in i n then some (.int (f i.toNatClampNeg) :: s, hp) else none
    | _ => none
  | _ => none
def am_mm (f : Int32 → Int32 → Int32) (st : List Value) (hp : am_H) : am_Q := match st with
  | .int y :: .int x :: s => some (.int (f x y) :: s, hp)
  | _ => none
def am_ml (f : Int64 → Int64 → Int64) (st : List Value) (hp : am_H) : am_Q := match st with
  | .long y :: .long x :: s => some (.long (f x y) :: s, hp)
  | _ => none
def am_cat (st : List Value) : Nat := (st.map fun v => v.category).sum
/-- what reads and writes the heap; calls whose bodies aren't run here -/
def am_h (DF : Nat → List Value) (X : am_X) (i : ClassFile.Instr) (r : List Nat) (k : Value) (st : List Value) (hp : am_H) : am_Q := match i with
  | .getfield _ => match r, st with
    | slot :: cis, v :: s => (am_rd X hp v).bind fun e => match e with
      | .inr (ci, fs) => if cis.contains ci then (fs[slot]?).bind fun w => some (w :: s, hp) else none
      | _ => none
    | _, _ => none
  | .putfield _ => match r, st with
    | slot :: ty :: cis, w :: .ref a :: s => match hp.1 a with
      | .inr (ci, fs) => if cis.contains ci && am_fit ty w && decide (slot < fs.length) then some (s, am_set hp a (.inr (ci, fs.set slot w))) else none
      | _ => none
    | _, _ => none
  | .iaload => am_la2 [0] X st hp
  | .baload => am_la2 [1, 2] X st hp
  | .laload => match st with
    | .int i :: .ref a :: s => match hp.1 a with
      | .inl (t, n, .inr (.inl f)) => if t = 3 && am_in i n then some (.long (f i.toNatClampNeg) :: s, hp) else none
      | _ => none
    | _ => none
  | .iastore => match st with
    | .int x :: .int i :: .ref a :: s => match hp.1 a with
      | .inl (t, n, .inl f) => if t = 0 && am_in i n then some (s, am_set hp a (.inl (0, n, .inl (upd f i.toNatClampNeg x)))) else none
      | _ => none
    | _ => none
  | .bastore => match st with
    | .int x :: .int i :: .ref a :: s => match hp.1 a with
      | .inl (t, n, .inl f) => if am_in i n then (if t = 1 then some (s, am_set hp a (.inl (1, n, .inl (upd f i.toNatClampNeg (vp_nar .byte x))))) else if t = 2 then some (s, am_set hp a (.inl (2, n, .inl (upd f i.toNatClampNeg (vp_nar .boolean x))))) else none) else none
      | _ => none
    | _ => none
  | .lastore => match st with
    | .long x :: .int i :: .ref a :: s => match hp.1 a with
      | .inl (t, n, .inr (.inl f)) => if t = 3 && am_in i n then some (s, am_set hp a (.inl (3, n, .inr (.inl (vp_updL f i.toNatClampNeg x))))) else none
      | _ => none
    | _ => none
  | .aaload => match st with
    | .int i :: .ref a :: s => match hp.1 a with
      | .inl (t, n, .inr (.inr (.inr (.inr g)))) => if t = 4 && am_in i n then some (va_rf (g i.toNatClampNeg) :: s, hp) else none
      | _ => none
    | _ => none
  | .aastore => match st with
    | .ref q :: .int i :: .ref a :: s => match hp.1 a, hp.1 q with
      | .inl (t, n, .inr (.inr (.inr (.inr g)))), .inr (ci, fs) => if t = 4 && am_in i n && (ci = 1 || ci = 4) then some (s, am_set hp a (.inl (4, n, .inr (.inr (.inr (.inr (va_up g i.toNatClampNeg (some q)))))))) else none
      | _, _ => none
    | _ => none
  | .arraylength => match st with
    | v :: s => (am_rd X hp v).bind fun e => match e with
      | .inl (_, n, _) => some (.int (Int32.ofNat n) :: s, hp)
      | _ => none
    | _ => none
  | .new _ => match r with
    | [ci, n] => some (.ref hp.2.1 :: st, am_push hp (.inr (ci, DF ci)) n)
    | _ => none
  | .newarray _ => match r, st with
    | [t], .int n :: s => if n < 0 ∨ 65536 < n.toNatClampNeg then none else some (.ref hp.2.1 :: s, am_push hp (.inl (t, n.toNatClampNeg, if t = 3 then .inr (.inl (fun _ => 0)) else .inl (fun _ => 0))) n.toNatClampNeg)
    | _, _ => none
  | .anewarray _ => match st with
    | .int n :: s => if n < 0 ∨ 65536 < n.toNatClampNeg then none else some (.ref hp.2.1 :: s, am_push hp (.inl (4, n.toNatClampNeg, .inr (.inr (.inr (.inr (fun _ => none)))))) n.toNatClampNeg)
    | _ => none
  | .checkcast _ => match st with
    | .ref a :: s => match hp.1 a with
      | .inr (ci, _) => if r.contains ci then some (.ref a :: s, hp) else none
      | _ => none
    | _ => none
  | .getstatic _ => some (k :: st, hp)
  | .ldc _ => some (k :: st, hp)
  | .invokespecial _ => match st with
    | .ref _ :: s => if am_cat s ≤ 8 then some (s, hp) else none
    | _ => none
  | .invokestatic _ => if 16 < am_cat st then none else match r with
    | [0] => am_mm (fun x y => if y < x then y else x) st hp
    | [1] => am_mm (fun x y => if x < y then y else x) st hp
    | [2] => am_ml (fun x y => if y < x then y else x) st hp
    | [3] => am_ml (fun x y => if y < x then x else y) st hp
    | [4] => match st with
      | .int n :: .int dp :: .ref a :: .int sp :: .ref a0 :: s => match hp.1 a0, hp.1 a with
        | .inl (t0, n0, .inl f), .inl (t1, n1, .inl g) => if t0 = 0 && t1 = 0 && !(decide (sp < 0 ∨ dp < 0 ∨ n < 0)) && decide (sp.toNatClampNeg + n.toNatClampNeg ≤ n0) && decide (dp.toNatClampNeg + n.toNatClampNeg ≤ n1) then some (s, am_set hp a (.inl (0, n1, .inl (va_cpy f g sp.toNatClampNeg dp.toNatClampNeg n.toNatClampNeg)))) else none
        | .inl (t0, n0, .inr (.inl f)), .inl (t1, n1, .inr (.inl g)) => if t0 = 3 && t1 = 3 && !(decide (sp < 0 ∨ dp < 0 ∨ n < 0)) && decide (sp.toNatClampNeg + n.toNatClampNeg ≤ n0) && decide (dp.toNatClampNeg + n.toNatClampNeg ≤ n1) then some (s, am_set hp a (.inl (3, n1, .inr (.inl (va_cpy f g sp.toNatClampNeg dp.toNatClampNeg n.toNatClampNeg))))) else none
        | _, _ => none
      | _ => none
    | _ => none
  | _ => none
def am_sel (tb : List Nat) (ci : Nat) : Option Nat := match tb with
  | c :: y :: t => if c = ci then some y else am_sel t ci
  | _ => none
/-- a call: whom, with what, what stays -/
def am_call (X : am_X) (i : ClassFile.Instr) (r : List Nat) (st : List Value) (hp : am_H) : Option (Nat × List Value × List Value) :=
  if am_cat (st.drop (r.headD 0)) ≤ 8 && decide (r.headD 0 ≤ st.length) then
    match i with
    | .invokestatic _ => match r with
      | [n, y] => some (y, (st.take n).reverse, st.drop n)
      | _ => none
    | .invokespecial _ => match r, (st.take (r.headD 0)).reverse with
      | [n, y], .ref a :: as => some (y, .ref a :: as, st.drop n)
      | _, _ => none
    | .invokevirtual _ => match r, (st.take (r.headD 0)).reverse with
      | n :: tb, v :: as => (am_rd X hp v).bind fun e => match e with
        | .inr (ci, _) => (am_sel tb ci).bind fun y => some (y, v :: as, st.drop n)
        | _ => none
      | _, _ => none
    | _ => none
  else none
def am_flat (args : List Value) : List Value := match args with
  | [] => []
  | v :: t => match v with
    | .long _ => v :: .float 0 :: am_flat t
    | _ => v :: am_flat t
def am_ent (m : Nat) (args : List Value) : List Value := am_flat args ++ List.replicate (m - (am_flat args).length) (.float 0)
def am_ret (i : ClassFile.Instr) (r : List Nat) (st : List Value) : Option (Option Value) := match i, st with
  | .ireturn, [.int v] => if r.headD 0 = 0 then some (some (.int v)) else if narrow (am_ty (r.headD 0)) (.int v) = .int v then some (some (.int v)) else none
  | .lreturn, [.long v] => some (some (.long v))
  | .areturn, [v] => if am_isr v then some (some v) else none
  | .return_, [] => some none
  | _, _ => none
def am_sw (x : Int32) (r : List Nat) (k : Value) : Nat := match r, k with
  | d :: ts, .int lo => if x.toInt < lo.toInt ∨ lo.toInt + ts.length ≤ x.toInt then d else ts.getD (x.toInt - lo.toInt).toNat d
  | _, _ => 0
abbrev am_R : Type := Option (Option Value × am_H)
abbrev am_Tb : Type := Nat → Nat → Option am_I
/-- a throw, told as a value that nothing else is -/
def am_thr (v : Option Value) : Bool := match v with
  | some (.float _) => true
  | _ => false
def am_ex (T : am_Tb) (mx : Nat → Nat) (DF : Nat → List Value) (X : am_X) : Nat → Nat → Nat → Nat → List Value → List Value → am_H → am_R
  | 0, _, _, _, _, _, _ => none
  | n + 1, d, y, pc, ls, st, hp => (T y pc).bind fun t => match t.1 with
    | 0 => (am_p t.2.1 t.2.2.2.2 ls st).bind fun q => am_ex T mx DF X n d y t.2.2.1 q.1 q.2 hp
    | 1 => (am_b t.2.1 st).bind fun q => am_ex T mx DF X n d y (if q.1 then t.2.2.2.1.headD 0 else t.2.2.1) ls q.2 hp
    | 2 => (am_h DF X t.2.1 t.2.2.2.1 t.2.2.2.2 st hp).bind fun q => am_ex T mx DF X n d y t.2.2.1 ls q.1 q.2
    | 3 => match d with
      | 0 => none
      | d' + 1 => (am_call X t.2.1 t.2.2.2.1 st hp).bind fun q => if (am_flat q.2.1).length ≤ mx q.1 then (am_ex T mx DF X n d' q.1 0 (am_ent (mx q.1) q.2.1) [] hp).bind fun z => if am_thr z.1 then none else am_ex T mx DF X n (d' + 1) y t.2.2.1 ls (z.1.toList ++ q.2.2) z.2 else none
    | 4 => (am_ret t.2.1 t.2.2.2.1 st).bind fun v => some (v, hp)
    | 5 => match st with
      | .int x :: s => am_ex T mx DF X n d y (am_sw x t.2.2.2.1 t.2.2.2.2) ls s hp
      | _ => none
    | 6 => match d, st with
      | d' + 9, .ref o :: .int p0 :: .ref x :: s => if am_cat s ≤ 8 then (am_ex T mx DF X n (d' + 7) (t.2.2.2.1.headD 0) 0 (am_ent (mx (t.2.2.2.1.headD 0)) [.ref x, .int p0]) [] hp).bind fun z => match z.1 with
          | some (.int v) => match z.2.1 o with
            | .inl (t3, m, .inr (.inl f)) => if t3 = 3 && decide (0 < m) then am_ex T mx DF X n (d' + 9) y t.2.2.1 ls (.int 0 :: s) (am_set z.2 o (.inl (3, m, .inr (.inl (vp_updL f 0 v.toInt64))))) else none
            | _ => none
          | some (.float _) => am_ex T mx DF X n (d' + 9) y t.2.2.1 ls (.int 1 :: s) z.2
          | _ => none
        else none
      | _, _ => none
    | _ => if am_cat st ≤ 8 then some (some (.float 1), (hp.1, hp.2.1, hp.2.2.1 + t.2.2.2.1.headD 0, hp.2.2.2 + (t.2.2.2.1.drop 1).headD 0)) else none
theorem am_ex_le {T : am_Tb} {mx : Nat → Nat} {DF : Nat → List Value} {X : am_X} : ∀ (n n' d d' y pc : Nat) (ls st : List Value) (hp : am_H) (r : Option Value × am_H), am_ex T mx DF X n d y pc ls st hp = some r → n ≤ n' → d ≤ d' → am_ex T mx DF X n' d' y pc ls st hp = some r := by
  intro n
  induction n with
  | zero => intro n' d d' y pc ls st hp r h; simp [am_ex] at h
  | succ n ih =>
    intro n' d d' y pc ls st hp r h hn hd
    obtain ⟨n', rfl⟩ : ∃ k, n' = k + 1 := ⟨n' - 1, by omega⟩
    have hn : n ≤ n' := by omega
    rw [am_ex] at h ⊢
    obtain ⟨t, ht, h⟩ := Option.bind_eq_some_iff.mp h
    rw [ht]
    simp only [Option.bind_some]
    obtain ⟨kd, i, nx, dt, k⟩ := t
    simp only at h ⊢
    split at h
    · obtain ⟨q, hq, h⟩ := Option.bind_eq_some_iff.mp h
      exact Option.bind_eq_some_iff.mpr ⟨q, hq, ih _ _ _ _ _ _ _ _ _ h hn hd⟩
    · obtain ⟨q, hq, h⟩ := Option.bind_eq_some_iff.mp h
      exact Option.bind_eq_some_iff.mpr ⟨q, hq, ih _ _ _ _ _ _ _ _ _ h hn hd⟩
    · obtain ⟨q, hq, h⟩ := Option.bind_eq_some_iff.mp h
      exact Option.bind_eq_some_iff.mpr ⟨q, hq, ih _ _ _ _ _ _ _ _ _ h hn hd⟩
    · cases d with
      | zero => simp at h
      | succ d =>
        obtain ⟨d', rfl⟩ : ∃ k, d' = k + 1 := ⟨d' - 1, by omega⟩
        simp only at h ⊢
        obtain ⟨q, hq, h⟩ := Option.bind_eq_some_iff.mp h
        refine Option.bind_eq_some_iff.mpr ⟨q, hq, ?_⟩
        split at h
        · rename_i hc
          rw [if_pos hc]
          obtain ⟨z, hz, h⟩ := Option.bind_eq_some_iff.mp h
          refine Option.bind_eq_some_iff.mpr ⟨z, ih _ _ _ _ _ _ _ _ _ hz hn (by omega), ?_⟩
          split at h
          · cases h
          · rename_i hz2
            rw [if_neg hz2]
            exact ih _ _ _ _ _ _ _ _ _ h hn hd
        · cases h
    · exact h
    · split at h
      · exact ih _ _ _ _ _ _ _ _ _ h hn hd
      · cases h
    · split at h
      · rename_i d0 o p0 x s
        obtain ⟨d1, rfl⟩ : ∃ k, d' = k + 9 := ⟨d' - 9, by omega⟩
        simp only at h ⊢
        split at h
        · rename_i hc
          rw [if_pos hc]
          obtain ⟨z, hz, h⟩ := Option.bind_eq_some_iff.mp h
          refine Option.bind_eq_some_iff.mpr ⟨z, ih _ _ _ _ _ _ _ _ _ hz hn (by omega), ?_⟩
          split at h
          · split at h
            · split at h
              · rename_i hc2
                rw [if_pos hc2]
                exact ih _ _ _ _ _ _ _ _ _ h hn (by omega)
              · cases h
            · cases h
          · exact ih _ _ _ _ _ _ _ _ _ h hn (by omega)
          · cases h
        · cases h
      · cases h
    · exact h
