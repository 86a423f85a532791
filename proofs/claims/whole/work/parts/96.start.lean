/-! THE CLAIM OUT OF ONE WALK OF THE LAW'S BODY. Your part is whole_start (and what it stands on); all else here is the same for every law, but numbers. -/
def R_law : String := "FlowerPotsLaw"
def lw_P (b : Addr) (xs : List Int32) (args : Array Value) (s : State) : Prop := args = #[.ref b] ∧ s.IntsAt b xs ∧ xs.length ≤ 3072 ∧ (Jvm.Cond.and given_1 narrow_1).before args s = true
def lw_Q (_ : Array Value) (s : State) (o : Outcome) (t : State) : Prop := o = .returned (some (.int 1)) ∧ Framed s o t [] 601024 7293034
def lw_Z (below : List Frame) (a : Array Value) (s : State) : State → Prop := fun t => ∃ o, t.status = .running ∧ Ended t below o ∧ lw_Q a s o t
/-- the law's own end, with 1 on the stack, nothing written that was there before, its room as the claim has it -/
theorem lw_ret {p : Program} {l : Launch} {e : Env} {s : State} {m : MethodId} {below : List Frame} {meth : Method} {c : Code} {b : Nat} (hx : p.tables.exec = Jvm.exec) (hb : c.code = code) (hr : meth.sig.returnType = ret) (hlocks : meth.locks = false) {pc : Nat} {H : Heap} {ls : Array Slot} (hdg : decode code pc = .ok (.ireturn, 1)) : W p l e room_1 s m #[Value.ref b] below meth c H [] 601024 7293034 (lw_Z below #[Value.ref b] s) (F0 m pc ls [.int 1]) := by
  intro T hT X
  obtain ⟨fs, hret, hrun, hended, hW, hframe⟩ := X.leave (v := some (.int 1)) (hlocks := hlocks) (fun h => by rw [hr] at h; cases h)
  have hmeth' : T.vm.method? m = some meth := X.method'
  refine ⟨T.setFrames fs, ?_, .returned (some (.int 1)), hrun, hended, rfl, ⟨_, rfl⟩, hW, hframe⟩
  jvm_step X.here [X.here.top, hx, hb, hdg, hmeth', hr, ret, narrow_b1]
  (try refine ⟨rfl, ?_⟩); (try refine ⟨rfl, ?_⟩)
  first | (intro acts; rw [hret _ acts rfl rfl rfl]) | rw [hret _ _ rfl rfl rfl]
  exact Steps.refl _
/-- what holds at the law's entry: the machine, the code, the tables' words (any of lw_tbl by 'hts w (by decide +kernel)'), the script of L ints xs at the cell b, what the Statement gives of the start (any of its parts by flat_of_before) -/
def lw_At (p : Program) (s : State) (m : MethodId) (meth : Method) (c : Code) (b L : Nat) (xs : Nat → Int32) : Prop :=
  p.tables.exec = Jvm.exec ∧ c.code = code ∧ meth.sig.returnType = ret ∧ c.maxLocals = 7 ∧ s.vm.findClass R_law = some m.cls ∧ (∀ w ∈ lw_tbl, w.before #[Value.ref b] s = true) ∧ va_X b L xs s s.heap ∧ b < s.heap.size ∧ meth.locks = false ∧ (Jvm.Cond.and given_1 narrow_1).before #[Value.ref b] s = true
def am_h0 : am_H := (fun _ => .inr (999, []), 0, 0, 0)
theorem am_inst : ∀ q ∈ vwCl, Jvm.Cond.instantiable q.1 q.2.2 ∈ lw_tbl := by
  have h : vwCl.all (fun q => decide (Jvm.Cond.instantiable q.1 q.2.2 ∈ lw_tbl)) = true := by decide +kernel
  intro q hq
  simpa using List.all_eq_true.mp h q hq
theorem am_w_ao : Jvm.Cond.arrayOver (.object "java/lang/Object") ∈ lw_tbl := am_gw (by decide +kernel)
theorem am_w_l1 : Jvm.Cond.laysStatic "java/util/ArrayList" "DEFAULTCAPACITY_EMPTY_ELEMENTDATA" "[Ljava/lang/Object;" ∈ lw_tbl := am_gw (by decide +kernel)
theorem am_w_l2 : Jvm.Cond.laysStatic "java/lang/String" "COMPACT_STRINGS" "Z" ∈ lw_tbl := am_gw (by decide +kernel)
theorem am_w_l3 : Jvm.Cond.laysStatic "jdk/internal/util/Preconditions" "SIOOBE_FORMATTER" "Ljava/util/function/BiFunction;" ∈ lw_tbl := am_gw (by decide +kernel)
theorem am_w_l4 : Jvm.Cond.laysStatic Bundle.tN "UNASSIGNED_STACK" Bundle.steD ∈ lw_tbl := am_gw (by decide +kernel)
theorem am_w_l5 : Jvm.Cond.laysStatic Bundle.tN "SUPPRESSED_SENTINEL" Bundle.listD ∈ lw_tbl := am_gw (by decide +kernel)
theorem am_w_i1 : Jvm.Cond.initialized "java/util/ArrayList" ∈ lw_tbl := am_gw (by decide +kernel)
theorem am_w_i2 : Jvm.Cond.initialized "java/lang/String" ∈ lw_tbl := am_gw (by decide +kernel)
theorem am_w_i3 : Jvm.Cond.initialized "jdk/internal/util/Preconditions" ∈ lw_tbl := am_gw (by decide +kernel)
theorem am_w_i4 : Jvm.Cond.initialized Bundle.tN ∈ lw_tbl := am_gw (by decide +kernel)
theorem am_w_s1 : Jvm.Cond.stringRef "FlowerPotsModel" 26 "y" ∈ lw_tbl := am_gw (by decide +kernel)
theorem am_w_s2 : Jvm.Cond.stringRef "FlowerPotsModel" 32 "pdsn" ∈ lw_tbl := am_gw (by decide +kernel)
theorem am_w_s3 : Jvm.Cond.stringRef "FlowerPots" 212 "no such place" ∈ lw_tbl := am_gw (by decide +kernel)
theorem am_arrc {s : State} {args : Array Value} {ty : FieldType} (h : (Jvm.Cond.arrayClass ty).before args s = true) (hty : ∀ C, ty ≠ .object C) : ∃ c, ArrOfT s c ty ∧ va_RA s c ty := by
  obtain ⟨c, k, comp, h1, h2, h3⟩ := Cond.arrayClass_spec h
  refine ⟨c, fun n z => ⟨fun _ h => (by cases h), k, h2, comp, h3⟩, ?_⟩
  cases ty <;> first | exact h1 | exact absurd rfl (hty _)
theorem am_arro {s : State} {args : Array Value} {n : String} (h : (Jvm.Cond.arrayOver (.object n)).before args s = true) : ∃ c, ArrOfT s c (.object n) ∧ va_RA s c (.object n) := by
  obtain ⟨comp, c, k, h1, -, h2, h3, h4⟩ := Cond.arrayOver_spec h
  exact ⟨c, fun m z => ⟨fun _ h => (by cases h), k, h2, comp, h3⟩, k, comp, h2, h3, h1, h4⟩
set_option maxHeartbeats 4000000 in
set_option maxRecDepth 100000 in
theorem am_entry {s : State} {args : Array Value} {b L : Nat} {xs : Nat → Int32} (hts : ∀ w ∈ lw_tbl, w.before args s = true) (hX : va_X b L xs s s.heap) (hbl : b < s.heap.size) (hgv : (Jvm.Cond.and given_1 narrow_1).before args s = true) :
    ∃ (tk : Nat → Value) (cA dC : Nat → ClassId) (dI : Nat → Nat → Nat), tk 0 = .ref b ∧ am_Cx (L, xs) tk (fun q => s.heap.size ≤ q) cA dC dI s := by
  have hA : ∀ a : Nat, a < s.heap.size → ¬ s.heap.size ≤ a := fun a h => Nat.not_le.mpr h
  have hs := flat_of_before _ hgv
  have hK1 : ∀ k : Nat, ∃ q : ClassId × (Nat → Nat), ∀ r, vwCl[k]? = some r → u_Kn s r.1 r.2.1 r.2.2 q.1 q.2 := by
    intro k
    cases hv : vwCl[k]? with
    | none => exact ⟨(0, fun _ => 0), fun r h => by cases h⟩
    | some r =>
      have hm := List.mem_of_getElem? hv
      obtain ⟨cC, iS, h⟩ := u_known (ws := lw_tbl) hts (fun w hw => (lw_G_mem.mp (am_cls_1 r hm w hw)).1) (hts _ (am_inst r hm))
      exact ⟨(cC, iS), fun r' h' => by cases h'; exact h⟩
  obtain ⟨DD, hDD⟩ := Classical.axiomOfChoice hK1
  obtain ⟨a0, ha0⟩ := am_arrc (hts _ am_w_ai) (fun C h => by cases h)
  obtain ⟨a1, ha1⟩ := am_arrc (hts _ am_w_ab) (fun C h => by cases h)
  obtain ⟨a2, ha2⟩ := am_arrc (hts _ am_w_az) (fun C h => by cases h)
  obtain ⟨a3, ha3⟩ := am_arrc (hts _ am_w_al) (fun C h => by cases h)
  obtain ⟨a4, ha4⟩ := am_arro (hts _ am_w_ao)
  obtain ⟨qE, hqE, hTE⟩ := va_Tof (A := fun q => s.heap.size ≤ q) (N := 0) (f := fun _ => .null) (by decide) (hs (Jvm.Cond.arrayOf (.static "java/util/ArrayList" "DEFAULTCAPACITY_EMPTY_ELEMENTDATA" "[Ljava/lang/Object;") (.object "java/lang/Object")) (by decide +kernel)) (va_eqt (hs (Jvm.Cond.eq (.length (.static "java/util/ArrayList" "DEFAULTCAPACITY_EMPTY_ELEMENTDATA" "[Ljava/lang/Object;")) (.int 0)) (by decide +kernel))) (fun j hj => by omega) hA
  have hZE := va_Zof (hts _ am_w_l1) (hts _ am_w_i1) hqE hA
  have hZC := va_Zof (hts _ am_w_l2) (hts _ am_w_i2) (va_eqi (z := 1) (hs _ (by decide +kernel))) hA
  obtain ⟨z6, hz6, hZ6⟩ : ∃ z6 : Value, (z6 = .null ∨ ∃ q, z6 = .ref q) ∧ va_Z "jdk/internal/util/Preconditions" "SIOOBE_FORMATTER" "Ljava/util/function/BiFunction;" z6 (fun q => s.heap.size ≤ q) s s.heap := by
    rcases va_Zqof (hts _ am_w_l3) (hts _ am_w_i3) (hs (Jvm.Cond.isRef (.static "jdk/internal/util/Preconditions" "SIOOBE_FORMATTER" "Ljava/util/function/BiFunction;")) (by decide +kernel)) hA with h | ⟨t, h⟩
    · exact ⟨_, Or.inl rfl, h⟩
    · exact ⟨_, Or.inr ⟨t, rfl⟩, h⟩
  have hU := vx_Zqof (hts _ am_w_l4) (hts _ am_w_i4) (hs (Jvm.Cond.isRef (.static Bundle.tN "UNASSIGNED_STACK" Bundle.steD)) (by decide +kernel)) hA
  have hN := vx_Zqof (hts _ am_w_l5) (hts _ am_w_i4) (hs (Jvm.Cond.isRef (.static Bundle.tN "SUPPRESSED_SENTINEL" Bundle.listD)) (by decide +kernel)) hA
  obtain ⟨sa, _, _, _, hsa, -⟩ := Cond.exactly_spec (args := args) (first := s) (o := none) (s := s) (idx := []) (t := .string "FlowerPots" 212) (cls := "java/lang/String") (hs _ (by decide +kernel))
  have two : ∀ {P : Nat → Prop}, P 0 → P 1 → ∀ i : Nat, i < 2 → P i := fun h0 h1 i hi => by
    rcases (show i = 0 ∨ i = 1 by omega) with rfl | rfl
    · exact h0
    · exact h1
  obtain ⟨adK, adV, hV, hev⟩ := vk_Sof (args := args) (s := s) (N := 2) (tm := fun i => .string "FlowerPotsModel" (if i = 0 then 26 else 32)) (len := [1, 4]) (byt := [[121], [112, 100, 115, 110]]) (A := fun q => s.heap.size ≤ q)
    (two (by decide) (by decide)) (two (hs _ (by decide +kernel)) (hs _ (by decide +kernel))) (two (hs _ (by decide +kernel)) (hs _ (by decide +kernel))) (two (hs _ (by decide +kernel)) (hs _ (by decide +kernel))) (two (hs _ (by decide +kernel)) (hs _ (by decide +kernel)))
    (two (fun j hj => by rcases (show j = 0 by simpa using hj) with rfl; exact hs _ (by decide +kernel)) (fun j hj => by
      have hj : j < 4 := hj
      rcases (show j = 0 ∨ j = 1 ∨ j = 2 ∨ j = 3 by omega) with rfl | rfl | rfl | rfl
      · exact hs _ (by decide +kernel)
      · exact hs _ (by decide +kernel)
      · exact hs _ (by decide +kernel)
      · exact hs _ (by decide +kernel)))
    (fun i j hi hj hij => by
      rcases (show i = 0 ∧ j = 1 ∨ i = 1 ∧ j = 0 by omega) with ⟨rfl, rfl⟩ | ⟨rfl, rfl⟩
      · exact Or.inl (hs _ (by decide +kernel))
      · exact Or.inr (hs _ (by decide +kernel))) hA
  refine ⟨fun j => match j with | 0 => .ref b | 1 => .ref qE | 2 => .ref (adK 0) | 3 => .ref (adK 1) | 4 => .ref (adV 0) | 5 => .ref (adV 1) | _ => z6, fun j => match j with | 0 => a0 | 1 => a1 | 2 => a2 | 3 => a3 | _ => a4, fun k => (DD k).1, fun k => (DD k).2, rfl, ?_, ?_, ⟨va_AO.of (A := args) (hts _ am_w_ao), hU, hN, sa, vk_R.of (A := args) (hts _ am_w_s3) hsa⟩, ⟨fun c q hq => hDD c q hq, ?_⟩, ?_, fun q h => h⟩
  · intro w hw hg a
    exact word_at (State.WarmedH.refl s) (good_of_word hg) (hts w hw)
  · intro w hw hn
    exact va_Nw.of (by unfold am_nw at hn; split at hn <;> first | rfl | cases hn) (hts w hw)
  · intro k q hk
    have hl := (List.getElem?_eq_some_iff.mp hk).1
    have hl : k < 5 := hl
    rcases (show k = 0 ∨ k = 1 ∨ k = 2 ∨ k = 3 ∨ k = 4 by omega) with rfl | rfl | rfl | rfl | rfl
    · cases hk; exact ha0
    · cases hk; exact ha1
    · cases hk; exact ha2
    · cases hk; exact ha3
    · cases hk; exact ha4
  · have hqz : qE < s.heap.size ∧ ¬ s.heap.size ≤ qE := by
      obtain ⟨cell, h1, -, -, -, -, -, h2⟩ := hTE
      exact ⟨(Array.getElem?_eq_some_iff.mp h1).1, h2⟩
    exact ⟨⟨b, rfl, hX, hbl, hA b hbl⟩, ⟨qE, rfl, hqz.1, hqz.2, hTE, hZE⟩, ⟨adK, adV, hV, rfl, rfl, rfl, rfl, vk_R.of (A := args) (hts _ am_w_s1) (hev 0 (by decide)), vk_R.of (A := args) (hts _ am_w_s2) (hev 1 (by decide))⟩, hZC, hz6, hZ6⟩
theorem am_mt285b : (am_Mt 285).2.1 = code := rfl
set_option maxHeartbeats 4000000 in
theorem whole_start_of (hpure : ∀ X : am_X, X.1 ≤ 3072 → ∃ (n : Nat) (hp' : am_H), am_ex am_T am_mx am_DF X n 1000 285 0 (am_ent (am_mx 285) [.retAddr 0]) [] am_h0 = some (some (.int 1), hp') ∧ hp'.2.2.1 ≤ 601024 ∧ hp'.2.2.2 ≤ 7293034)
    {p : Program} {e : Env} {s : State} {m : MethodId} {below : List Frame} {meth : Method} {c : Code} (l : Launch) (hflags : l.flags = flags0) {b L : Nat} {xs : Nat → Int32} (hL : L ≤ 3072) (C0 : lw_At p s m meth c b L xs) (hmn : meth.name = "law") : W p l e room_1 s m #[Value.ref b] below meth c s.heap [] 0 0 (lw_Z below #[Value.ref b] s) (entryFrame m ([Value.ref b] : List Value).toArray 7) := by
  obtain ⟨hx, hb, hr, hml, hown, hts, hX, hbl, hlocks, hgv⟩ := id C0
  obtain ⟨tk, cA, dC, dI, h0, hC⟩ := am_entry hts hX hbl hgv
  obtain ⟨n, hp', hex, hcl, hsl⟩ := hpure (L, xs) hL
  have hfl : l.stackTraces = false := by
    unfold Launch.stackTraces
    rw [hflags]
    decide +kernel
  rw [lg_entry_eq]
  have hmx : am_mx 285 = 7 := am_mt285.2
  have hvs : am_vs tk (fun _ => 0) am_h0.2.1 [.retAddr 0] [.ref b] := ⟨_, _, rfl, ⟨h0.symm, Or.inl ⟨b, h0⟩⟩, rfl⟩
  have hR : am_Rl tk (fun _ => 0) cA am_h0 [] := ⟨rfl, fun k hk => absurd hk (Nat.not_lt_zero k), fun k _ => rfl⟩
  have hSn := am_sound_all (l := l) (X := (L, xs)) (tk := tk) (A := fun q => s.heap.size ≤ q) (cA := cA) (dC := dC) (dI := dI) hfl n
  have := hSn 1000 285 0 _ [] am_h0 _ hp' hex p e room_1 s m #[Value.ref b] below meth c ⟨hx, by rw [hb]; rfl, by rw [hml, hmx], by rw [am_mt285.1]; exact hown, by rw [hmn]; rfl, by decide, by decide⟩ hC (fun _ => 0) [] s.heap [] _ [] hR (am_ent_L hvs (by rw [hmx]; decide)) rfl (fun k q h => by simp at h) ⟨fun i j p q h => by simp at h, fun k q h => by simp at h⟩ va_S.rf 0 0 (Nat.zero_le _) (Nat.zero_le _) hcl hsl (lw_Z below #[Value.ref b] s)
    (fun ad1 ws1 H1 locs1 pc1 l1 i r st1 st1' hag hR1 hP1 hD1 hS1 hdg hret hok hst => by
      have hcc : (am_Mt 285).2.1 = code := am_mt285b
      rw [hcc] at hdg
      unfold am_ret at hret
      split at hret
      · rename_i v
        obtain ⟨cc, rfl, hrt⟩ := hok
        obtain ⟨w, rfl, hw⟩ := am_vs_1 hst
        simp only [am_vr] at hw
        subst hw
        have hv : v = 1 := by
          split at hret
          · cases hret; rfl
          · split at hret
            · cases hret; rfl
            · cases hret
        subst hv
        refine va_forget (fun q hq => hS1.2.2 q hq) ?_
        refine W.widen (k := 601024) (n := 7293034) hcl hsl ?_
        exact lw_ret hx hb hr hlocks hdg
      · cases hret
      · split at hret
        · rename_i v hv
          cases hret
          simp [am_isr] at hv
        · cases hret
      · cases hret
      · cases hret)
    (fun hthr => by simp [am_thr] at hthr)
  rw [hmx] at this
  exact this
