/-! SOUNDNESS, 10: the call that may throw -/
theorem am_kk6 : (List.range 286).all (fun y => (am_tab y).all (fun e => decide (e.2.1 < 6) || (decide (y = 285) && decide (e = (352, 6, .invokestatic 37, 355, [136], .null))) || (decide (y = 136) && decide (e = (11, 7, .new 210, 14, [1, 6], .null))))) = true := by decide +kernel
theorem am_k6_s {y pc : Nat} {t : am_I} (h : am_T y pc = some t) (hk : ¬ t.1 < 6) : (y = 285 ∧ pc = 352 ∧ t = (6, .invokestatic 37, 355, [136], .null)) ∨ (y = 136 ∧ pc = 11 ∧ t = (7, .new 210, 14, [1, 6], .null)) := by
  unfold am_T at h
  cases hf : (am_tab y).find? (fun e => e.1 == pc) with
  | none => rw [hf] at h; cases h
  | some e =>
    rw [hf] at h
    cases h
    have hm := List.mem_of_find?_eq_some hf
    have hp := List.find?_some hf
    simp only [beq_iff_eq] at hp
    rcases Nat.lt_or_ge y 286 with hy | hy
    · have h1 := List.all_eq_true.mp (List.all_eq_true.mp am_kk6 y (List.mem_range.mpr hy)) e hm
      simp only [Bool.or_eq_true, Bool.and_eq_true, decide_eq_true_eq] at h1
      rcases h1 with (h1 | h1) | h1
      · exact absurd h1 hk
      · obtain ⟨h1, rfl⟩ := h1
        exact Or.inl ⟨h1, hp.symm, rfl⟩
      · obtain ⟨h1, rfl⟩ := h1
        exact Or.inr ⟨h1, hp.symm, rfl⟩
    · rw [am_tab_big hy] at hm
      cases hm
def am_NSE : String := "java/util/NoSuchElementException"
def am_nrx : ByteArray := prog_37_method_4_code
theorem am_nrx0 : decode am_nrx 0 = .ok (.aload_n 0, 1) := by decide +kernel
theorem am_nrx1 : decode am_nrx 1 = .ok (.aload_n 1, 1) := by decide +kernel
theorem am_nrx2 : decode am_nrx 2 = .ok (.invokespecial 13, 3) := by decide +kernel
theorem am_nrx5 : decode am_nrx 5 = .ok (.return_, 1) := by decide +kernel
/-- the words of a throw whose class's constructor has its own bytes: its own link to Y0, then Y0's chain -/
def am_chX (X : String) (ix : Nat) (rx : ByteArray) (Y0 : String) (nr : List String) : List Jvm.Cond := Bundle.passSAtoms X Y0 ix rx ++ Bundle.chainSAtoms Y0 nr
def am_owX (own : String) (ic : Nat) (X : String) (ix : Nat) (rx : ByteArray) (Y0 : String) (nr : List String) : List Jvm.Cond :=
  Bundle.throwableAtoms ++ Bundle.throwableSAtoms ++ am_chX X ix rx Y0 nr ++
  [.methodLink own ic (Bundle.initS X), .instantiable X 6, .selects X Bundle.tFill0 Bundle.tFill0, .selects X Bundle.tFill Bundle.tFill,
   .lays X Bundle.tN "cause" "Ljava/lang/Throwable;", .lays X Bundle.tN "stackTrace" Bundle.steD, .lays X Bundle.tN "suppressedExceptions" Bundle.listD, .lays X Bundle.tN "detailMessage" "Ljava/lang/String;",
   .isRef (.static Bundle.tN "UNASSIGNED_STACK" Bundle.steD), .isRef (.static Bundle.tN "SUPPRESSED_SENTINEL" Bundle.listD),
   .fieldLink Bundle.tN 198 Bundle.tN "backtrace" "Ljava/lang/Object;", .lays Bundle.tN Bundle.tN "backtrace" "Ljava/lang/Object;", .lays X Bundle.tN "backtrace" "Ljava/lang/Object;"]
theorem am_chainX {args : Array Value} {s : State} {pl : Platform} (hpl : pl.magicAccessors = ({} : Platform).magicAccessors) {top : MethodId} (htop : s.methodNamed? (Bundle.initS Bundle.tN) = some top)
    {ix : Nat} {rx : ByteArray} (x0 : decode rx 0 = .ok (.aload_n 0, 1)) (x1 : decode rx 1 = .ok (.aload_n 1, 1)) (x2 : decode rx 2 = .ok (.invokespecial ix, 3)) (x5 : decode rx 5 = .ok (.return_, 1))
    {X Y0 : String} {nr : List String} (hX : Bundle.fit X = true) (hn : ∀ n ∈ Y0 :: nr, Bundle.fit n = true) (h : ∀ c ∈ am_chX X ix rx Y0 nr, c.before args s = true) :
    ∃ (P1 : PassC) (Ps : List PassC), Ps.length = (Y0 :: nr).length ∧ P1.LinksS pl s ∧ (∀ P, P ∈ Ps → P.LinksS pl s) ∧ s.methodNamed? (Bundle.initS X) = some P1.m ∧
      P1.sup = firstOf top (Ps.map (·.toPassT)) ∧ PassesOn top (Ps.map (·.toPassT)) := by
  obtain ⟨P, L, hm, hs⟩ := PassC.ofS_atoms (args := args) (s := s) hpl (Bundle.fit_spec hX).1 (Bundle.fit_spec (hn Y0 List.mem_cons_self)).2 x0 x1 x2 x5 (fun c hc => h c (List.mem_append_left _ hc))
  obtain ⟨P', Ps, hlen, L', hL, hm', hsup, hpass⟩ := Bundle.chainS (args := args) hpl htop nr Y0 (hn Y0 List.mem_cons_self) (fun n hn' => hn n (List.mem_cons_of_mem _ hn')) (fun c hc => h c (List.mem_append_right _ hc))
  refine ⟨P, P' :: Ps, by simp [hlen], L, ?_, hm, Option.some.inj (hs.symm.trans hm'), hsup, hpass⟩
  intro Q hQ
  rcases List.mem_cons.mp hQ with rfl | hQ
  · exact L'
  · exact hL Q hQ
/-- the words of a 'throw new cls(text)', where the first constructor of the chain has its own bytes -/
def am_atX (own : String) (ic : Nat) (cls : String) (ix : Nat) (rx : ByteArray) (Y0 : String) (nr : List String) : List Jvm.Cond := (am_owX own ic cls ix rx Y0 nr).filter vx_no
def am_atW : List Jvm.Cond := am_atX "FlowerPots" 214 am_NSE 13 am_nrx "java/lang/RuntimeException" ["java/lang/Exception"]
theorem am_atW_in : ∀ w ∈ am_atW, w ∈ lw_tbl ∧ (goodWord w = true ∨ am_nw w = true) := by
  have h : am_atW.all (fun w => decide (w ∈ lw_tbl) && (goodWord w || am_nw w)) = true := by decide +kernel
  intro w hw
  have h1 := List.all_eq_true.mp h w hw
  simp only [Bool.and_eq_true, Bool.or_eq_true, decide_eq_true_eq] at h1
  exact h1
theorem am_atW_ot : ∀ w ∈ Jvm.Cond.classLink "FlowerPots" 210 am_NSE :: .initialized am_NSE :: am_atW, vx_ot w = true := by
  have h : (Jvm.Cond.classLink "FlowerPots" 210 am_NSE :: .initialized am_NSE :: am_atW).all vx_ot = true := by decide +kernel
  exact fun w hw => List.all_eq_true.mp h w hw
theorem am_w_e1 : Jvm.Cond.classLink "FlowerPots" 210 am_NSE ∈ lw_tbl := am_gw (by decide +kernel)
theorem am_w_e2 : Jvm.Cond.initialized am_NSE ∈ lw_tbl := am_gw (by decide +kernel)
theorem am_w_e3 : Jvm.Cond.classLink "FlowerPotsLaw" 13 am_NSE ∈ lw_tbl := am_gw (by decide +kernel)
theorem am_w_e4 : Jvm.Cond.castable am_NSE am_NSE ∈ lw_tbl := am_gw (by decide +kernel)
def am_yat : MethodName := ⟨"FlowerPotsLaw", "at", "(LFlowerPots;I[J)I"⟩
theorem am_w_a1 : Jvm.Cond.methodLink "FlowerPotsLaw" 37 am_yat ∈ lw_tbl := am_gw (by decide +kernel)
theorem am_w_a2 : Jvm.Cond.static am_yat ∈ lw_tbl := am_gw (by decide +kernel)
theorem am_w_a3 : Jvm.Cond.codeWith am_yat method_3_code 4 (some .int) [(0, 9, 12, 13)] ∈ lw_tbl := am_gw (by decide +kernel)
theorem am_w_a4 : Jvm.Cond.initialized "FlowerPotsLaw" ∈ lw_tbl := am_gw (by decide +kernel)
theorem am_w_a5 : Jvm.Cond.methodLink "FlowerPotsLaw" 7 (am_Mt 136).1 ∈ lw_tbl := am_gw (by decide +kernel)
theorem am_w_a6 : Jvm.Cond.instanceMethod (am_Mt 136).1 ∈ lw_tbl := am_gw (by decide +kernel)
theorem am_w_a7 : Jvm.Cond.selects "FlowerPots" (am_Mt 136).1 (am_Mt 136).1 ∈ lw_tbl := am_gw (by decide +kernel)
theorem am_np136 : am_np (am_Mt 136).1.desc 1 := by unfold am_np; decide +kernel
theorem am_d136_11 : decode (am_Mt 136).2.1 11 = .ok (.new 210, 3) := by decide +kernel
theorem am_d136_14 : decode (am_Mt 136).2.1 14 = .ok (.dup, 1) := by decide +kernel
theorem am_d136_15 : decode (am_Mt 136).2.1 15 = .ok (.ldc 212, 2) := by decide +kernel
theorem am_d136_17 : decode (am_Mt 136).2.1 17 = .ok (.invokespecial 214, 3) := by decide +kernel
theorem am_d136_20 : decode (am_Mt 136).2.1 20 = .ok (.athrow, 1) := by decide +kernel
theorem am_dat_0 : decode method_3_code 0 = .ok (.aload_n 2, 1) := by decide +kernel
theorem am_dat_1 : decode method_3_code 1 = .ok (.iconst 0, 1) := by decide +kernel
theorem am_dat_2 : decode method_3_code 2 = .ok (.aload_n 0, 1) := by decide +kernel
theorem am_dat_3 : decode method_3_code 3 = .ok (.iload_n 1, 1) := by decide +kernel
theorem am_dat_4 : decode method_3_code 4 = .ok (.invokevirtual 7, 3) := by decide +kernel
theorem am_dat_7 : decode method_3_code 7 = .ok (.i2l, 1) := by decide +kernel
theorem am_dat_8 : decode method_3_code 8 = .ok (.lastore, 1) := by decide +kernel
theorem am_dat_9 : decode method_3_code 9 = .ok (.goto 6, 3) := by decide +kernel
theorem am_dat_12 : decode method_3_code 12 = .ok (.astore_n 3, 1) := by decide +kernel
theorem am_dat_13 : decode method_3_code 13 = .ok (.iconst 1, 1) := by decide +kernel
theorem am_dat_14 : decode method_3_code 14 = .ok (.ireturn, 1) := by decide +kernel
theorem am_dat_15 : decode method_3_code 15 = .ok (.iconst 0, 1) := by decide +kernel
theorem am_dat_16 : decode method_3_code 16 = .ok (.ireturn, 1) := by decide +kernel
set_option maxHeartbeats 1000000 in
/-- from the constructor's call to the end of the throw, where the chain's first constructor has its own bytes -/
theorem am_ctorThrow {p : Program} {l : Launch} {e : Env} {R : Room} {s : State} {m₀ : MethodId} {args : Array Value} {below : List Frame} {meth : Method} {c : Code} {W : State} {locs : List Loc} {cells slots : Nat}
    {ix : Nat} {rx : ByteArray} (x0 : decode rx 0 = .ok (.aload_n 0, 1)) (x1 : decode rx 1 = .ok (.aload_n 1, 1)) (x2 : decode rx 2 = .ok (.invokespecial ix, 3)) (x5 : decode rx 5 = .ok (.return_, 1))
    (X : Stand p l e R s m₀ args below meth c W locs cells slots) (hexec : p.tables.exec = Jvm.exec) (htr : e.platform.stackTraces = false) {own cls : String} {Y0 : String} {nr : List String} {ic : Nat}
    (hown : s.vm.findClass own = some m₀.cls) (hcls : Bundle.fit cls = true) (hnames : ∀ n ∈ Y0 :: nr, Bundle.fit n = true)
    (h : ∀ a ∈ am_owX own ic cls ix rx Y0 nr, a.before args s = true)
    (hlocs : ∀ x ∈ locs, ∀ cell, s.heap[x.base]? = some cell → cell.vm.isStatics = false)
    {a : Addr} {cX : ClassId} {kX : Class} (hfoundX : s.vm.findClass cls = some cX) (hkX : s.vm.classes[cX]? = some kX) (hcell : W.heap[a]? = some (freshCell cX kX)) (hnew : s.heap.size ≤ a)
    {msg : Value} (hmsg : msg.isRef = true)
    {g : JFrame} (hg : g.method = m₀) (hsize : g.locals.size = c.maxLocals) (hlocked : g.locked = none) (hentered : g.entered = []) {rest : List Value} (hstack : g.stack = msg :: .ref a :: .ref a :: rest)
    (hd6 : decode c.code g.pc = .ok (.invokespecial ic, 3)) (hd9 : decode c.code (g.pc + 3) = .ok (.athrow, 1)) (hout : ∀ x ∈ c.exceptionTable.toList, covers x (g.pc + 3) = false)
    (hRframes : (Y0 :: nr).length + 3 < R.frames) (hRlocals : 2 * g.monitorRoom + ((Value.ref a :: rest).map fun v => v.category).sum + (13 * ((Y0 :: nr).length + 1) + 42) ≤ R.locals) (hlocks : meth.locks = false := by first | assumption | exact BodyLoose.notSynchronized (by assumption) | exact Body.notSynchronized (by assumption)) :
    ∃ U : State, Steps p.tables e below (W.setTop g) U ∧ U.status = .running ∧ Ended U below (.threw a) ∧ s.WarmedH U.vm ∧ s.sameButNew ({ U with vm := s.vm } : State) locs cells slots ∧
      ∃ ce, U.heap[a]? = some ce ∧ s.vm.findClass cls = some ce.cls ∧ ce.vm = .none := by
  have howns : e.platform.frameOwnsMonitors = true := by rw [X.admits.platform]
  have hfin : e.platform.finalization = false := by rw [X.admits.platform]
  have hpl : e.platform.magicAccessors = ({} : Platform).magicAccessors := by rw [X.admits.platform]
  have a' : ∀ x, x ∈ am_owX own ic cls ix rx Y0 nr → x.holds args s none s [] = true := fun x hx => h x hx
  obtain ⟨T, Z0, L, -, Y⟩ := ThrowableC.of_atoms (args := args) howns hfin hpl (fun x hx => h x (by simp [am_owX, hx]))
  obtain ⟨Z, M, LZ, LM, hnZ⟩ := Init0T.ofS_atoms (args := args) hpl L Y (fun x hx => h x (by simp [am_owX, hx]))
  obtain ⟨P1, Ps, hlen, L1, hL, hP1m, hlink1, hlink⟩ := am_chainX (args := args) hpl hnZ x0 x1 x2 x5 hcls hnames (fun x hx => h x (by simp [am_owX, hx]))
              
  have hfound : s.vm.findClass cls = some P1.m.cls := findClass_of_methodNamed hP1m
  cases Option.some.inj (hfoundX.symm.trans hfound)
  obtain ⟨c1, kX', hc1, hk, hord, -, -, hn6⟩ := Cond.instantiable_spec (a' (.instantiable cls 6) (by simp [am_owX]))
  cases Option.some.inj (hc1.symm.trans hfound)
  cases Option.some.inj (hkX.symm.trans hk)
  have hsel0 : selectMethod e.platform s.vm P1.m.cls T.fill0 = .method T.fill0 := by
    obtain ⟨c2, r2, m2, q1, q2, q3, q4, -⟩ := Cond.selects_spec (a' (.selects cls Bundle.tFill0 Bundle.tFill0) (by simp [am_owX]))
    cases Option.some.inj (q1.symm.trans hfound)
    cases Option.some.inj (q2.symm.trans (State.methodFound?_of_named Y.fill0 (by decide)))
    cases Option.some.inj (q3.symm.trans Y.fill0)
    rw [Launch.admits_selectMethod X.admits]; exact q4
  have hselF : selectMethod e.platform s.vm P1.m.cls T.fill = .method T.fill := by
    obtain ⟨c2, r2, m2, q1, q2, q3, q4, -⟩ := Cond.selects_spec (a' (.selects cls Bundle.tFill Bundle.tFill) (by simp [am_owX]))
    cases Option.some.inj (q1.symm.trans hfound)
    cases Option.some.inj (q2.symm.trans (State.methodFound?_of_named Y.fill (by decide)))
    cases Option.some.inj (q3.symm.trans Y.fill)
    rw [Launch.admits_selectMethod X.admits]; exact q4
  obtain ⟨cellS0, hcS0, hiss⟩ := Y.statics
  obtain ⟨u0, hu0⟩ := Cond.staticRefV Y.unassigned L.unassignedStatic L.statics hcS0 hiss (a' (.isRef (.static Bundle.tN "UNASSIGNED_STACK" Bundle.steD)) (by simp [am_owX]))
  obtain ⟨sen, hsen⟩ := Cond.staticRefV Y.sentinel L.sentinelStatic L.statics hcS0 hiss (a' (.isRef (.static Bundle.tN "SUPPRESSED_SENTINEL" Bundle.listD)) (by simp [am_owX]))
  obtain ⟨ci198, i198, fB, hk198, hg198, ha198, hsB, -, hnB, htB, hffB⟩ := Cond.ownField (t := .object "java/lang/Object") Y.found L.cls (by decide +kernel) (a' (.fieldLink Bundle.tN 198 Bundle.tN "backtrace" "Ljava/lang/Object;") (by simp [am_owX])) (a' (.lays Bundle.tN Bundle.tN "backtrace" "Ljava/lang/Object;") (by simp [am_owX])) e.platform hpl
  obtain ⟨cellS, hcS', heS, -, hkeep⟩ := X.same.2.2.2.2.2 T.aS cellS0 hcS0
  have hcellS : W.heap[T.aS]? = some cellS := hcS'
  have hout' : ∀ i, (⟨T.aS, i⟩ : Loc) ∉ locs := fun i hmem => by
    have := hlocs _ hmem cellS0 hcS0
    rw [hiss] at this; cases this
  have hknownS : cellS.vm ≠ .unknown := by
    rw [heS]; intro hu
    rw [show cellS0.vm = .unknown from hu] at hiss
    cases hiss
  have hneS : T.aS ≠ a := Nat.ne_of_lt (Nat.lt_of_lt_of_le (Array.getElem?_eq_some_iff.mp hcS0).1 hnew)
  obtain ⟨iM, hffM⟩ := Y.msg
  obtain ⟨tyC, dC, hdC, hdnC⟩ := Cond.laysAt hfound hk Y.cause (a' (.lays cls Bundle.tN "cause" "Ljava/lang/Throwable;") (by simp [am_owX]))
  obtain ⟨tyS, dS, hdS, hdnS⟩ := Cond.laysAt hfound hk Y.stack (a' (.lays cls Bundle.tN "stackTrace" Bundle.steD) (by simp [am_owX]))
  obtain ⟨tyP, dP, hdP, hdnP⟩ := Cond.laysAt hfound hk Y.supp (a' (.lays cls Bundle.tN "suppressedExceptions" Bundle.listD) (by simp [am_owX]))
  obtain ⟨tyM, dM, hdM, hdnM⟩ := Cond.laysAt hfound hk hffM (a' (.lays cls Bundle.tN "detailMessage" "Ljava/lang/String;") (by simp [am_owX]))
  obtain ⟨tyB, dB, hdB, hdnB⟩ := Cond.laysAt hfound hk hffB (a' (.lays cls Bundle.tN "backtrace" "Ljava/lang/Object;") (by simp [am_owX]))
  have bC := Cond.laysApart hdB hdC hdnB hdnC (by rw [hnB, Y.causeName]; decide)
  have bS := Cond.laysApart hdB hdS hdnB hdnS (by rw [hnB, Y.stackName]; decide)
  have bP := Cond.laysApart hdB hdP hdnB hdnP (by rw [hnB, Y.suppName]; decide)
  have hskip : SkipFacts T e.platform s (fun u => u) u0 ((preparedCellV T.toThrowableT (freshCell P1.m.cls kX) a u0 sen).withEntry W.cur) :=
    ⟨{ ci198 := ci198, i198 := i198, fBack := fB }, ⟨hk198, hg198, ha198, hsB⟩, by
      have := fresh_default (c := P1.m.cls) tyB
      rw [htB] at this
      simpa [preparedCellV, Cell.setSlot, Cell.withEntry, Array.getElem?_setIfInBounds, bC, bS, bP, bC.symm, bS.symm, bP.symm, defaultValue] using this, fun _ _ => rfl⟩
                                     
  obtain ⟨tm, methC, cdC, kC, vm₁, hnC, -, -, -, -, -, -, -, hW₁, st1⟩ := Steps.initColdS (tb := p.tables) (e := e) (below := below) (s := s) (U := W) X.here hexec X.warmed hpl hown (t := Bundle.initS cls) rfl rfl (Bundle.fit_spec hcls).2
    (a' (.methodLink own ic (Bundle.initS cls)) (by simp [am_owX])) (h (.instanceMethod (Bundle.initS cls)) (by simp [am_owX, am_chX, Bundle.passSAtoms])) (bytes := rx) (maxL := 2) (h (.code (Bundle.initS cls) rx 2 none) (by simp [am_owX, am_chX, Bundle.passSAtoms]))
    (f := g) hg (a := a) (msg := msg) (rest := .ref a :: rest) hstack hd6
  cases Option.some.inj (hnC.symm.trans hP1m)
  have X₁ := X.noted hW₁
                                 
  obtain ⟨vm₂, X₂, st2⟩ := X₁.ctorMessageOffV hexec (g := { g with stack := .ref a :: rest }) hg hsize T L Z LZ M LM (P1 :: Ps)
    (fun P hP => by rcases List.mem_cons.mp hP with rfl | hP; exact L1; exact hL P hP) ⟨hlink1, hlink⟩ (u0 := u0) (sen := sen) (self := a) hmsg (cell := freshCell P1.m.cls kX) (cellS := cellS)
    hcell (fun _ => by simp) (by simp) rfl rfl hsel0 hselF hcellS hneS hknownS (by rw [hkeep _ (hout' _)]; exact hu0) (by rw [hkeep _ (hout' _)]; exact hsen)
    (Takes.of_laid hk hord tyC (by rw [Y.causeType]; rfl)) (Takes.of_laid hk hord tyS (by rw [Y.stackType]; exact fits_refV_array _ u0)) (Takes.of_laid hk hord tyP (by rw [Y.suppType]; exact fits_refV_object _ sen))
    (Takes.of_laid hk hord tyM (by rw [Y.msgType]; exact fits_refV_object _ ⟨msg, hmsg⟩)) Y.objLocals hskip htr [] hd6
    (by simp only [List.length_cons, hlen]; omega) (by simp only [List.length_cons, hlen]; exact hRlocals)
                                    
  obtain ⟨hwalk, hrun, hended, hWU, hsame⟩ := X₂.athrowLeaves hexec (g := { g with stack := .ref a :: rest, pc := g.pc + 3 }) hg hlocked hentered hout (a := a) (rest := rest) rfl hd9
  have hlt : a < ((W.setVm vm₁).setVm vm₂).heap.size := (Array.getElem?_eq_some_iff.mp hcell).1
  have hU := heapAt_setCell_self (s := (W.setVm vm₁).setVm vm₂) (plainBareV T.toThrowableT (freshCell P1.m.cls kX) a u0 sen msg) hlt
  refine ⟨_, st1 _ (fun acts => ?_), hrun, hended, hWU, hsame.weaken (fun y hy hlt' => ?_) (Nat.le_refl _) (Nat.le_refl _), _, hU, ?_⟩
  · rw [doInvoke_state]
    exact st2 _ hwalk
  · rcases List.mem_append.mp hy with h1 | h1
    · exact h1
    · exfalso
      have hb : y.base = a := by
        simp only [List.mem_cons, List.not_mem_nil, or_false] at h1
        rcases h1 with rfl | rfl | rfl | rfl | rfl <;> rfl
      rw [hb] at hlt'
      exact Nat.not_lt.mpr hnew hlt'
  · exact ⟨hfound, rfl⟩
section AMY
variable {p : Program} {l : Launch} {e : Env} {R : Room} {s : State} {m : MethodId} {args : Array Value} {below : List Frame} {meth : Method} {c : Code} {H : Heap} {locs : List Loc} {cells slots : Nat} {Q : State → Prop}
variable {mc ms : Nat} {free : Addr → Prop} {A0 A1 : Nat → Prop} {H0 : Heap} {a : Array Value} {ls : Array Slot} {st0 rest : List Value}
variable {Qc : Array Value → State → Outcome → State → Prop} {XC : String → State → State → Prop}
/-- 'throw new E("text")': new; dup; ldc; invokespecial; athrow -/
theorem am_throwX {cc : ByteArray} {pc : Nat} (hexec : p.tables.exec = Jvm.exec) (hb : c.code = cc) (hl : l.stackTraces = false) {own cls text : String} {Y0 : String} {nr : List String} {ik is ic mc ms sa : Nat} {A : Nat → Prop}
    {ix : Nat} {rx : ByteArray} (x0 : decode rx 0 = .ok (.aload_n 0, 1)) (x1 : decode rx 1 = .ok (.aload_n 1, 1)) (x2 : decode rx 2 = .ok (.invokespecial ix, 3)) (x5 : decode rx 5 = .ok (.return_, 1))
    (hown : s.vm.findClass own = some m.cls) (hcls : Bundle.fit cls = true) (hnames : ∀ n ∈ Y0 :: nr, Bundle.fit n = true)
    (hk : (Cond.classLink own ik cls).before args s = true) (hini : (Cond.initialized cls).before args s = true) (hstr : vk_R own is text sa s) (hat : ∀ w ∈ am_atX own ic cls ix rx Y0 nr, w.before args s = true)
    (hgood : ∀ w ∈ Cond.classLink own ik cls :: Cond.initialized cls :: am_atX own ic cls ix rx Y0 nr, vx_ot w = true)
    (hU : vx_Zq Bundle.tN "UNASSIGNED_STACK" Bundle.steD A s s.heap) (hN : vx_Zq Bundle.tN "SUPPRESSED_SENTINEL" Bundle.listD A s s.heap) (hS : va_S A s.heap H locs) (hsize : ls.size = c.maxLocals)
    (d0 : decode cc pc = .ok (.new ik, 3)) (d3 : decode cc (pc + 3) = .ok (.dup, 1)) (d4 : decode cc (pc + 4) = .ok (.ldc is, 2)) (d6 : decode cc (pc + 6) = .ok (.invokespecial ic, 3)) (d9 : decode cc (pc + 9) = .ok (.athrow, 1))
    (hout : ∀ x ∈ c.exceptionTable.toList, covers x (pc + 9) = false)
    (hRframes : (Y0 :: nr).length + 3 < R.frames) (hRlocals : (rest.map fun v => v.category).sum + (13 * ((Y0 :: nr).length + 1) + 43) ≤ R.locals) (hRcells : cells + 1 ≤ R.cells) (hRslots : slots + 6 ≤ R.slots) (hlocks : meth.locks = false)
    (hx : ∀ t : State, s.vm.Alike t.vm → H.size ≤ t.heap.size → (∀ q : Nat, q < H.size → t.heap[q]? = H[q]?) → XC cls s t)
    (hf : ∀ z ∈ locs, free z.base) (hc : cells + 1 ≤ mc) (hs : slots + 6 ≤ ms) :
    W p l e R s m args below meth c H locs cells slots (vx_MQ below Qc XC args s mc ms free) (F0 m pc ls rest) := by
  intro T hT X
  have htr : e.platform.stackTraces = false := (show e.platform.stackTraces = l.stackTraces by rw [X.admits.platform]).trans hl
  have Y := vx_rebase X (R' := { frames := R.frames, locals := R.locals, cells := 1, slots := 6 }) (Nat.le_refl _) (Nat.le_refl _) hRcells hRslots
  obtain ⟨s', hA⟩ : ∃ z, z = (T.setVm s.vm).setFrames (.invoking m args :: below) := ⟨_, rfl⟩
  rw [← hA] at Y
  have hvm : s'.vm = s.vm := by rw [hA]; rfl
  have hhp : s'.heap = H := by rw [hA]; exact hT
  have hW0 : s.WarmedH s'.vm := by rw [hvm]; exact State.WarmedH.refl s
  have hat' : ∀ w ∈ am_atX own ic cls ix rx Y0 nr, w.before args s' = true := fun w hw => vx_ot_at hW0 hvm.symm (hgood w (List.mem_cons_of_mem _ (List.mem_cons_of_mem _ hw))) (hat w hw)
  have hk' : (Cond.classLink own ik cls).before args s' = true := vx_ot_at hW0 hvm.symm (hgood _ List.mem_cons_self) hk
  have hini' : (Cond.initialized cls).before args s' = true := vx_ot_at hW0 hvm.symm (hgood _ (List.mem_cons_of_mem _ List.mem_cons_self)) hini
  have hU' : vx_Zq Bundle.tN "UNASSIGNED_STACK" Bundle.steD A s' s'.heap := by rw [hhp]; exact vx_Zq.moved hW0.alike (hU.kept hS.2.1)
  have hN' : vx_Zq Bundle.tN "SUPPRESSED_SENTINEL" Bundle.listD A s' s'.heap := by rw [hhp]; exact vx_Zq.moved hW0.alike (hN.kept hS.2.1)
  have h : ∀ w ∈ am_owX own ic cls ix rx Y0 nr, w.before args s' = true := vx_own hat' (vx_isRefq hU'.1) (vx_isRefq hN'.1) hU'.2.word hN'.2.word
  have hown' : s'.vm.findClass own = some m.cls := by rw [hvm]; exact hown
  have hins : (Cond.instantiable cls 6).before args s' = true := h _ (by simp [am_owX])
  obtain ⟨vm₁, cX, kX, hfX, hkX, -, -, X₁, st1⟩ := Y.newCold hexec (own := own) (C := cls) (index := ik) (n := 6) hown' hk' hins hini'
    (g := F0 m pc ls rest) rfl (by rw [hb]; exact d0) (Nat.le_refl _) (Nat.le_refl _)
  generalize hT1 : (T.setVm vm₁).pushCell { cls := cX, slots := kX.instanceTypes.map defaultValue, vm := .none } = T1 at X₁ st1
  have hcat : (Value.ref T.heap.size).category = 1 := rfl
  have hcellA : T1.heap[T.heap.size]? = some (freshCell cX kX) := by rw [← hT1]; exact State.heap_pushCell_size _ _
  have d3' : decode c.code (pc + 3) = .ok (.dup, 1) := by rw [hb]; exact d3
  have d4' : decode c.code (pc + 4) = .ok (.ldc is, 2) := by rw [hb]; exact d4
  have hstr' : vk_R own is text sa s' := vk_R.warm hW0 hstr
  obtain ⟨U, hsteps, hrun, hend, hW, hsame, ce, hce, hO, hOv⟩ := am_ctorThrow x0 x1 x2 x5 X₁ hexec htr (own := own) (cls := cls) (Y0 := Y0) (nr := nr) (ic := ic) hown' hcls hnames h (fun x hx => nomatch hx) hfX hkX hcellA (by rw [hhp, hT]; exact Nat.le_refl _) (msg := .ref sa) rfl
    (g := { method := m, pc := pc + 6, locals := ls, stack := .ref sa :: .ref T.heap.size :: .ref T.heap.size :: rest, locked := none }) rfl hsize rfl rfl (rest := rest) rfl
    (by rw [hb]; exact d6) (by rw [hb]; exact d9) hout hRframes (by simp only [List.map_cons, List.sum_cons, hcat]; omega) hlocks
  obtain ⟨f1, f2⟩ := vx_frame hsame
  rw [hhp] at f1 f2
  have hWs : s.WarmedH U.vm := State.WarmedH.trans hW0 hW
  have hcl : s.vm.findClass cls = some ce.cls := by
    have h9 := hO
    rw [hvm] at h9
    exact h9
  have hall : s.sameButNew ({ U with vm := s.vm } : State) locs mc ms := by
    subst hA
    obtain ⟨e1, e2⟩ := hsame
    rw [State.setFrames_setFrames] at e1
    have h2 : (T.setVm s.vm).sameButNew ({ U with vm := s.vm } : State) [] (0 + 1) (0 + 6) := ⟨e1, e2⟩
    have h3 := X.same.trans h2
    rw [List.append_nil] at h3
    exact h3.mono hc hs
  refine ⟨U, ?_, .threw T.heap.size, hrun, hend, Or.inr ⟨T.heap.size, rfl, cls, ce, locs, hx U hWs.alike f1 (fun q hq => f2 q hq (fun z hz => nomatch hz)), hce, hOv, hcl, hWs, hall, hf⟩⟩
  refine st1 _ ?_
  show Steps p.tables e below (T1.setTop { method := m, pc := pc + 3, locals := ls, stack := .ref T.heap.size :: rest, locked := none }) _
  jvm_step X₁.here [X₁.here.top, hexec, d3', Value.category]
  exact X₁.ldcString hexec (own := own) (text := text) (index := is) (a := sa) hown' hstr'.1 hstr'.2
    (g := { method := m, pc := pc + 4, locals := ls, stack := .ref T.heap.size :: .ref T.heap.size :: rest, locked := none }) rfl d4' _ hsteps
end AMY
section AMX
variable {X : am_X} {tk : Nat → Value} {A : Nat → Prop} {cA dC : Nat → ClassId} {dI : Nat → Nat → Nat} {l : Launch}
/-- what stands when it has thrown -/
def am_XC (tk : Nat → Value) (A : Nat → Prop) (cA dC : Nat → ClassId) (dI : Nat → Nat → Nat) (ad : Nat → Nat) (nx : Nat) (v : Option Value) (hpz : am_H) : String → State → State → Prop := fun E st t =>
  E = am_NSE ∧ am_thr v = true ∧ ∃ (ad1 : Nat → Nat) (ws1 : va_W), (∀ q, q < nx → ad1 q = ad q) ∧ am_Rl tk ad1 cA hpz ws1 ∧ va_P (dC, dI) vwCl ws1 t.heap ∧ va_D A ws1 ∧ va_F A st t
set_option maxHeartbeats 1000000 in
theorem am_vMet {n : Nat} (ih : am_S am_T am_mx am_DF X tk A cA dC dI am_Mt l n) (hfl : l.stackTraces = false) {d x : Nat} {p0 : Int32} {hp hpz : am_H} {v : Option Value} (hex : am_ex am_T am_mx am_DF X n (d + 7) 136 0 (am_ent (am_mx 136) [.ref x, .int p0]) [] hp = some (v, hpz)) {ad : Nat → Nat} {ws : va_W} (hx : x < hp.2.1) (hR : am_Rl tk ad cA hp ws) (hD : va_D A ws) :
    vx_Met l (am_Mt 136).1 [Jvm.Cond.code (am_Mt 136).1 (am_Mt 136).2.1 (am_mx 136) (am_Mt 136).2.2] (am_rm (d + 7) (hpz.2.2.1 - hp.2.2.1) (hpz.2.2.2 - hp.2.2.2)) (am_Pc X tk A cA dC dI [.ref (ad x), .int p0] 0 ws) (am_Qc tk A cA dC dI ad hp.2.1 v hpz) (am_XC tk A cA dC dI ad hp.2.1 v hpz) (hpz.2.2.1 - hp.2.2.1) (hpz.2.2.2 - hp.2.2.2) A := by
  have hle : am_le hp hpz := am_ex_mn _ _ _ _ _ _ _ _ hex
  refine vx_ofW (cc := (am_Mt 136).2.1) (maxL := am_mx 136) (ret := (am_Mt 136).2.2) (by decide +kernel) rfl ?_
  intro p e s m args below meth c s₁ B hml hno hv1
  obtain ⟨rfl, hC, hP⟩ := hv1
  have hown : s.vm.findClass (am_Mt 136).1.cls = some m.cls := findClass_of_methodNamed B.named
  have hmn : meth.name = (am_Mt 136).1.name := (name_of_methodNamed B.named B.method).1
  rw [lg_entry_eq]
  have h0 : ∀ k, k - k = 0 := fun k => by omega
  have hvs : am_vs tk ad hp.2.1 [.ref x, .int p0] [.ref (ad x), .int p0] := ⟨_, _, rfl, ⟨hx, rfl⟩, _, _, rfl, rfl, rfl⟩
  have hfr : (headSpec [Jvm.Cond.code (am_Mt 136).1 (am_Mt 136).2.1 (am_mx 136) (am_Mt 136).2.2] (am_rm (d + 7) (hpz.2.2.1 - hp.2.2.1) (hpz.2.2.2 - hp.2.2.2))).room.frames = d + 8 := rfl
  have hlo : (headSpec [Jvm.Cond.code (am_Mt 136).1 (am_Mt 136).2.1 (am_mx 136) (am_Mt 136).2.2] (am_rm (d + 7) (hpz.2.2.1 - hp.2.2.1) (hpz.2.2.2 - hp.2.2.2))).room.locals = (d + 8) * 64 := rfl
  have hce : (headSpec [Jvm.Cond.code (am_Mt 136).1 (am_Mt 136).2.1 (am_mx 136) (am_Mt 136).2.2] (am_rm (d + 7) (hpz.2.2.1 - hp.2.2.1) (hpz.2.2.2 - hp.2.2.2))).room.cells = hpz.2.2.1 - hp.2.2.1 := rfl
  have hsl : (headSpec [Jvm.Cond.code (am_Mt 136).1 (am_Mt 136).2.1 (am_mx 136) (am_Mt 136).2.2] (am_rm (d + 7) (hpz.2.2.1 - hp.2.2.1) (hpz.2.2.2 - hp.2.2.2))).room.slots = hpz.2.2.2 - hp.2.2.2 := rfl
  generalize (headSpec [Jvm.Cond.code (am_Mt 136).1 (am_Mt 136).2.1 (am_mx 136) (am_Mt 136).2.2] (am_rm (d + 7) (hpz.2.2.1 - hp.2.2.1) (hpz.2.2.2 - hp.2.2.2))).room = R at hfr hlo hce hsl ⊢
  have hmx : am_mx 136 = 2 := by decide +kernel
  have hfl2 : (am_flat [.ref x, .int p0]).length ≤ am_mx 136 := by rw [hmx]; exact Nat.le_refl 2
  have := ih (d + 7) 136 0 (am_ent (am_mx 136) [.ref x, .int p0]) [] hp v hpz hex p e R s m _ below meth c ⟨B.exec, B.bytes, hml, hown, hmn, by omega, by omega⟩ hC ad ws s.heap [] _ [] hR (am_ent_L hvs hfl2) rfl hP hD va_S.rf hp.2.2.1 hp.2.2.2 (Nat.le_refl _) (Nat.le_refl _) (by omega) (by omega)
    (vx_MQ below (am_Qc tk A cA dC dI ad hp.2.1 v hpz) (am_XC tk A cA dC dI ad hp.2.1 v hpz) ([.ref (ad x), .int p0] : List Value).toArray s (hpz.2.2.1 - hp.2.2.1) (hpz.2.2.2 - hp.2.2.2) A)
    (fun ad1 ws1 H1 locs1 pc1 l1 i r st1 st1' q1 q2 q3 q4 q5 q6 q7 q8 q9 => vx_ret (am_end B.exec B.bytes B.returns B.notSynchronized ad1 ws1 H1 locs1 pc1 l1 i r st1 st1' q1 q2 q3 q4 q5 q6 q7 q8 q9))
    (fun hthr ad1 ws1 H1 locs1 pc1 l1 t hp0 st1 st1' ht hk hcat he hag hR1 hP1 hD1 hS1 hl1 hc1 hs1 hst1 => by
      rcases am_k6_s ht (by omega) with ⟨h, -⟩ | ⟨-, rfl, rfl⟩
      · cases h
      · have he : hpz = (hp0.1, hp0.2.1, hp0.2.2.1 + 1, hp0.2.2.2 + 6) := he
        subst he
        have hcat : (st1'.map fun v => v.category).sum ≤ 8 := by
          have h9 : am_cat st1' ≤ 8 := by rw [hst1.cat]; exact hcat
          exact h9
        have hle1 : hp0.2.2.1 + 1 - hp.2.2.1 ≤ R.cells := by rw [hce]; exact Nat.le_refl _
        have hle2 : hp0.2.2.2 + 6 - hp.2.2.2 ≤ R.slots := by rw [hsl]; exact Nat.le_refl _
        obtain ⟨t1, t2, sa, t3⟩ := hC.2.2.1.2
        have hat : ∀ w ∈ am_atW, w.before ([.ref (ad x), .int p0] : List Value).toArray s = true := fun w hw => by
          obtain ⟨w1, w2⟩ := am_atW_in w hw
          by_cases hg : goodWord w = true
          · exact hC.1 w w1 hg _
          · rcases w2 with w2 | w2
            · exact absurd w2 hg
            · exact va_Nw.use (by unfold am_nw at w2; split at w2 <;> first | rfl | cases w2) (hC.2.1 w w1 w2)
        exact am_throwX (cls := am_NSE) (Y0 := "java/lang/RuntimeException") (nr := ["java/lang/Exception"]) (own := "FlowerPots") (ik := 210) (is := 212) (ic := 214) (sa := sa) B.exec B.bytes hfl am_nrx0 am_nrx1 am_nrx2 am_nrx5 hown (by decide +kernel) (by decide +kernel) (hC.1 _ am_w_e1 rfl _) (hC.1 _ am_w_e2 rfl _) t3 hat am_atW_ot t1 t2 hS1 (by rw [hl1, hml]) am_d136_11 am_d136_14 am_d136_15 am_d136_17 am_d136_20 (fun z hz => (hno z hz).elim) (by rw [hfr]; simp) (by rw [hlo]; simp only [List.length_cons, List.length_nil]; omega) (by omega) (by omega) B.notSynchronized
          (fun t _ hz1 hz2 => ⟨rfl, hthr, ad1, ws1, hag, hR1, hP1.kept (fun k q hk => hz2 q.1 ((hP1 k q hk).lt)), hD1, ⟨Nat.le_trans hS1.1 hz1, fun q h1 h2 => (hz2 q (Nat.lt_of_lt_of_le h1 hS1.1)).trans (hS1.2.1 q h1 h2)⟩⟩) hS1.2.2 (show hp0.2.2.1 - hp.2.2.1 + 1 ≤ hp0.2.2.1 + 1 - hp.2.2.1 by omega) (show hp0.2.2.2 - hp.2.2.2 + 6 ≤ hp0.2.2.2 + 6 - hp.2.2.2 by omega))
  rw [h0, h0] at this
  exact this
end AMX
