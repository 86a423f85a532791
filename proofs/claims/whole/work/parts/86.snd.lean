/-! SOUNDNESS, 7: the induction -/
def am_okM (Mi : am_Mi) (mx : Nat → Nat) (y : Nat) : Prop := Jvm.Cond.code (Mi y).1 (Mi y).2.1 (mx y) (Mi y).2.2 ∈ lw_tbl ∧ Jvm.Cond.initialized (Mi y).1.cls ∈ lw_tbl ∧ plainName (Mi y).1.cls = true ∧ ((Mi y).1.cls ≠ "java/lang/invoke/MethodHandle" ∧ (Mi y).1.cls ≠ "java/lang/invoke/VarHandle") ∧ mx y ≤ 45
def am_np (desc : String) (n : Nat) : Prop := (parseMethodDescriptor desc).map (fun d => d.parameters.length) = some n
def am_okY (Mi : am_Mi) (mx : Nat → Nat) (own : String) (ix y n : Nat) : Prop := (Jvm.Cond.methodLink own ix (Mi y).1 ∈ lw_tbl ∨ ∃ host, Jvm.Cond.methodLinkNest own ix (Mi y).1 host ∈ lw_tbl) ∧ am_okM Mi mx y ∧ am_np (Mi y).1.desc n
def am_cn (ci : Nat) (C : String) : Prop := (∃ T N, vwCl[ci]? = some (C, T, N)) ∨ (ci = 100 ∧ C = "java/lang/String")
def am_dc (z : MethodName) : Prop := (Jvm.Cond.instanceMethod z ∈ lw_tbl ∧ ∃ b m r, Jvm.Cond.code z b m r ∈ lw_tbl) ∨ Jvm.Cond.declares z ∈ lw_tbl
def am_ok3 (Mi : am_Mi) (mx : Nat → Nat) (own : String) (i : ClassFile.Instr) (r : List Nat) : Prop := match i with
  | .invokestatic ix => ∃ n y, r = [n, y] ∧ am_okY Mi mx own ix y n ∧ Jvm.Cond.static (Mi y).1 ∈ lw_tbl
  | .invokespecial ix => ∃ n y, r = [n + 1, y] ∧ am_okY Mi mx own ix y n ∧ Jvm.Cond.instanceMethod (Mi y).1 ∈ lw_tbl ∧ (Mi y).1.name = "<init>" ∧ (Mi y).2.2 = none
  | .invokevirtual ix => ∃ n tb x, r = (n + 1) :: tb ∧ Jvm.Cond.methodLink own ix x ∈ lw_tbl ∧ am_np x.desc n ∧ ∀ ci y, am_sel tb ci = some y → ∃ C, am_cn ci C ∧ am_okM Mi mx y ∧ Jvm.Cond.instanceMethod (Mi y).1 ∈ lw_tbl ∧ Jvm.Cond.selects C x (Mi y).1 ∈ lw_tbl ∧ ((Mi y).1 = x ∨ ∃ ow, Jvm.Cond.sameMethod x.cls ow x.name x.desc ∈ lw_tbl ∧ (ow ≠ "java/lang/invoke/MethodHandle" ∧ ow ≠ "java/lang/invoke/VarHandle") ∧ am_dc ⟨ow, x.name, x.desc⟩)
  | _ => True
def am_okR (ret : Option FieldType) (i : ClassFile.Instr) (r : List Nat) : Prop := match i with
  | .ireturn => ∃ c, r = [c] ∧ ret = some (am_ty c)
  | .lreturn => ret = some .long
  | .areturn => ∃ ft, ret = some ft ∧ ((∃ C, ft = .object C) ∨ ∃ t, ft = .array t)
  | .return_ => ret = none
  | _ => True
def am_ok1 (pc : Nat) (i : ClassFile.Instr) (r : List Nat) : Prop := match i with
  | .goto o => (pc : Int) + o = r.headD 0
  | .ifCond _ o => (pc : Int) + o = r.headD 0
  | .if_icmp _ o => (pc : Int) + o = r.headD 0
  | .if_acmp _ o => (pc : Int) + o = r.headD 0
  | .ifnull o => (pc : Int) + o = r.headD 0
  | .ifnonnull o => (pc : Int) + o = r.headD 0
  | _ => True
def am_ok5 (pc : Nat) (i : ClassFile.Instr) (r : List Nat) (k : Value) : Prop := match i with
  | .tableswitch dflt lo hi offs => ∃ d ts klo, r = d :: ts ∧ k = .int klo ∧ klo.toInt = lo ∧ lo + ts.length = hi + 1 ∧ (pc : Int) + dflt = d ∧ ∀ j, j < ts.length → ∃ off, offs[j]? = some off ∧ (pc : Int) + off = (ts.getD j d : Nat)
  | _ => False
def am_ok (Mi : am_Mi) (mx : Nat → Nat) (DF : Nat → List Value) (y pc : Nat) (t : am_I) : Prop := (∃ len, decode (Mi y).2.1 pc = .ok (t.2.1, len) ∧ (t.1 ≤ 4 → len = am_len t.2.1 ∧ t.2.2.1 = pc + am_len t.2.1)) ∧ match t.1 with
  | 0 => am_ok0 (Mi y).1.cls t.2.1 t.2.2.2.2
  | 1 => am_ok1 pc t.2.1 t.2.2.2.1
  | 2 => am_ok2 (Mi y).1.cls (Mi y).1.name DF t.2.1 t.2.2.2.1 t.2.2.2.2
  | 3 => am_ok3 Mi mx (Mi y).1.cls t.2.1 t.2.2.2.1
  | 4 => am_okR (Mi y).2.2 t.2.1 t.2.2.2.1
  | 5 => am_ok5 pc t.2.1 t.2.2.2.1 t.2.2.2.2
  | _ => True
section AMS
variable (T : am_Tb) (mx : Nat → Nat) (DF : Nat → List Value) (X : am_X) (tk : Nat → Value) (A : Nat → Prop) (cA dC : Nat → ClassId) (dI : Nat → Nat → Nat) (Mi : am_Mi) (l : Launch)
def am_Cm (p : Program) (s : State) (m : MethodId) (meth : Method) (c : Code) (R : Room) (d y : Nat) : Prop := p.tables.exec = Jvm.exec ∧ c.code = (Mi y).2.1 ∧ c.maxLocals = mx y ∧ s.vm.findClass (Mi y).1.cls = some m.cls ∧ meth.name = (Mi y).1.name ∧ d + 1 ≤ R.frames ∧ (d + 1) * 64 ≤ R.locals
def am_RET (p : Program) (e : Env) (R : Room) (s : State) (m : MethodId) (args : Array Value) (below : List Frame) (meth : Method) (c : Code) (y : Nat) (ad : Nat → Nat) (nx : Nat) (v : Option Value) (hp1 : am_H) (c0 s0 : Nat) (Q : State → Prop) : Prop :=
  ∀ (ad1 : Nat → Nat) (ws1 : va_W) (H1 : Heap) (locs1 : List Loc) (pc1 : Nat) (l1 : Array Slot) (i : ClassFile.Instr) (r : List Nat) (st1 st1' : List Value), (∀ q, q < nx → ad1 q = ad q) → am_Rl tk ad1 cA hp1 ws1 → va_P (dC, dI) vwCl ws1 H1 → va_D A ws1 → va_S A s.heap H1 locs1 → decode (Mi y).2.1 pc1 = .ok (i, 1) → am_ret i r st1 = some v → am_okR (Mi y).2.2 i r → am_vs tk ad1 hp1.2.1 st1 st1' → W p l e R s m args below meth c H1 locs1 (hp1.2.2.1 - c0) (hp1.2.2.2 - s0) Q (F0 m pc1 l1 st1')
def am_THR (p : Program) (e : Env) (R : Room) (s : State) (m : MethodId) (args : Array Value) (below : List Frame) (meth : Method) (c : Code) (y : Nat) (ad : Nat → Nat) (nx : Nat) (v : Option Value) (hp1 : am_H) (c0 s0 : Nat) (Q : State → Prop) : Prop :=
  am_thr v = true → ∀ (ad1 : Nat → Nat) (ws1 : va_W) (H1 : Heap) (locs1 : List Loc) (pc1 : Nat) (l1 : Array Slot) (t : am_I) (hp0 : am_H) (st1 st1' : List Value), T y pc1 = some t → ¬ t.1 ≤ 6 → am_cat st1 ≤ 8 → hp1 = (hp0.1, hp0.2.1, hp0.2.2.1 + t.2.2.2.1.headD 0, hp0.2.2.2 + (t.2.2.2.1.drop 1).headD 0) → (∀ q, q < nx → ad1 q = ad q) → am_Rl tk ad1 cA hp0 ws1 → va_P (dC, dI) vwCl ws1 H1 → va_D A ws1 → va_S A s.heap H1 locs1 → l1.size = mx y → c0 ≤ hp0.2.2.1 → s0 ≤ hp0.2.2.2 → am_vs tk ad1 hp0.2.1 st1 st1' → W p l e R s m args below meth c H1 locs1 (hp0.2.2.1 - c0) (hp0.2.2.2 - s0) Q (F0 m pc1 l1 st1')
def am_S (n : Nat) : Prop := ∀ (d y pc : Nat) (ls st : List Value) (hp : am_H) (v : Option Value) (hp1 : am_H), am_ex T mx DF X n d y pc ls st hp = some (v, hp1) →
  ∀ (p : Program) (e : Env) (R : Room) (s : State) (m : MethodId) (args : Array Value) (below : List Frame) (meth : Method) (c : Code), am_Cm mx Mi p s m meth c R d y → am_Cx X tk A cA dC dI s →
  ∀ (ad : Nat → Nat) (ws : va_W) (H : Heap) (locs : List Loc) (ls' : Array Slot) (st' : List Value), am_Rl tk ad cA hp ws → am_L tk ad hp.2.1 ls (mx y) ls' → am_vs tk ad hp.2.1 st st' → va_P (dC, dI) vwCl ws H → va_D A ws → va_S A s.heap H locs →
  ∀ (c0 s0 : Nat), c0 ≤ hp.2.2.1 → s0 ≤ hp.2.2.2 → hp1.2.2.1 - c0 ≤ R.cells → hp1.2.2.2 - s0 ≤ R.slots → ∀ Q : State → Prop, am_RET tk A cA dC dI Mi l p e R s m args below meth c y ad hp.2.1 v hp1 c0 s0 Q → am_THR T mx tk A cA dC dI l p e R s m args below meth c y ad hp.2.1 v hp1 c0 s0 Q →
  W p l e R s m args below meth c H locs (hp.2.2.1 - c0) (hp.2.2.2 - s0) Q (F0 m pc ls' st')
/-- the law's call of a method that may throw: one step, told apart -/
def am_H6 (n : Nat) : Prop := ∀ (y pc : Nat) (t : am_I), T y pc = some t → t.1 = 6 → ∀ (d o x : Nat) (p0 : Int32) (st : List Value) (hp : am_H) (v : Option Value) (hpz hp1 : am_H) (rv : Int32), am_cat st ≤ 8 → am_ex T mx DF X n (d + 7) (t.2.2.2.1.headD 0) 0 (am_ent (mx (t.2.2.2.1.headD 0)) [.ref x, .int p0]) [] hp = some (v, hpz) →
  ((∃ z k f, v = some (.int z) ∧ hpz.1 o = .inl (3, k, .inr (.inl f)) ∧ 0 < k ∧ rv = 0 ∧ hp1 = am_set hpz o (.inl (3, k, .inr (.inl (vp_updL f 0 z.toInt64))))) ∨ (∃ f, v = some (.float f) ∧ rv = 1 ∧ hp1 = hpz)) →
  ∀ (p : Program) (e : Env) (R : Room) (s : State) (m : MethodId) (args : Array Value) (below : List Frame) (meth : Method) (c : Code), am_Cm mx Mi p s m meth c R (d + 9) y → am_Cx X tk A cA dC dI s →
  ∀ (ad : Nat → Nat) (ws : va_W) (H : Heap) (locs : List Loc) (ls' : Array Slot) (st' : List Value), am_Rl tk ad cA hp ws → ls'.size = mx y → am_vs tk ad hp.2.1 (.ref o :: .int p0 :: .ref x :: st) st' → va_P (dC, dI) vwCl ws H → va_D A ws → va_S A s.heap H locs →
  ∀ (c0 s0 : Nat), c0 ≤ hp.2.2.1 → s0 ≤ hp.2.2.2 → hp1.2.2.1 - c0 ≤ R.cells → hp1.2.2.2 - s0 ≤ R.slots → ∀ Q : State → Prop,
  (∀ (ad1 : Nat → Nat) (ws1 : va_W) (H1 : Heap) (locs1 : List Loc) (s1 : List Value), (∀ q, q < hp.2.1 → ad1 q = ad q) → am_Rl tk ad1 cA hp1 ws1 → va_P (dC, dI) vwCl ws1 H1 → va_D A ws1 → va_S A s.heap H1 locs1 → am_vs tk ad1 hp1.2.1 (.int rv :: st) s1 → W p l e R s m args below meth c H1 locs1 (hp1.2.2.1 - c0) (hp1.2.2.2 - s0) Q (F0 m t.2.2.1 ls' s1)) →
  W p l e R s m args below meth c H locs (hp.2.2.1 - c0) (hp.2.2.2 - s0) Q (F0 m pc ls' st')
end AMS
section AMT
variable {T : am_Tb} {mx : Nat → Nat} {DF : Nat → List Value} {X : am_X} {tk : Nat → Value} {A : Nat → Prop} {cA dC : Nat → ClassId} {dI : Nat → Nat → Nat} {Mi : am_Mi} {l : Launch}
theorem am_vs_1 {ad : Nat → Nat} {nx : Nat} {v : Value} {t : List Value} (h : am_vs tk ad nx [v] t) : ∃ w, t = [w] ∧ am_vr tk ad nx v w := by
  obtain ⟨u, t', h1, h2, h3⟩ := h
  simp only [am_vs] at h3
  subst h3
  exact ⟨u, h1, h2⟩
/-- a method's end -/
theorem am_end {p : Program} {e : Env} {R : Room} {s : State} {m : MethodId} {args : Array Value} {below : List Frame} {meth : Method} {c : Code} {y : Nat} {ad : Nat → Nat} {nx : Nat} {v : Option Value} {hp1 : am_H} {c0 s0 : Nat} (hx : p.tables.exec = Jvm.exec) (hb : c.code = (Mi y).2.1) (hr : meth.sig.returnType = (Mi y).2.2) (hlocks : meth.locks = false) :
    am_RET tk A cA dC dI Mi l p e R s m args below meth c y ad nx v hp1 c0 s0 (MQ below (am_Qc tk A cA dC dI ad nx v hp1) args s (hp1.2.2.1 - c0) (hp1.2.2.2 - s0) A) := by
  intro ad1 ws1 H1 locs1 pc1 l1 i r st1 st1' hag hR hP hD hS hdg hret hok hst
  have fin : ∀ (w : Option Value), am_vo tk ad1 hp1.2.1 v w → ∀ t : State, t.heap = H1 → s.WarmedH t.vm → am_Qc tk A cA dC dI ad nx v hp1 args s (.returned w) t := fun w hw t ht _ => ⟨ad1, ws1, w, rfl, hw, hag, hR, by rw [ht]; exact hP, hD, hS.F ht⟩
  unfold am_ret at hret
  split at hret
  · rename_i z
    obtain ⟨cc, rfl, hrt⟩ := hok
    obtain ⟨w, rfl, hw⟩ := am_vs_1 hst
    simp only [am_vr] at hw
    subst hw
    have hn : v = some (.int z) ∧ narrow (am_ty cc) (.int z) = .int z := by
      have hret : (if cc = 0 then some (some (Value.int z)) else if narrow (am_ty cc) (.int z) = .int z then some (some (Value.int z)) else none) = some v := hret
      by_cases h0 : cc = 0
      · rw [if_pos h0] at hret
        subst h0
        cases hret; exact ⟨rfl, rfl⟩
      · rw [if_neg h0] at hret
        by_cases h1 : narrow (am_ty cc) (.int z) = .int z
        · rw [if_pos h1] at hret
          cases hret; exact ⟨rfl, h1⟩
        · rw [if_neg h1] at hret
          cases hret
    obtain ⟨rfl, hn⟩ := hn
    exact W.zret hx hb (by rw [hr]; exact hrt) hn (fin (some (.int z)) ⟨_, rfl, rfl⟩) hS.2.2 hdg hlocks
  · cases hret
    obtain ⟨w, rfl, hw⟩ := am_vs_1 hst
    simp only [am_vr] at hw
    subst hw
    exact W.lret hx hb (by rw [hr]; exact hok) (fin _ ⟨_, rfl, rfl⟩) hS.2.2 hdg hlocks
  · split at hret
    · rename_i hi
      cases hret
      obtain ⟨w, rfl, hw⟩ := am_vs_1 hst
      obtain ⟨ft, h1, h2⟩ := hok
      exact W.aret hx hb (by rw [hr]; exact h1) h2 (am_isr_w hi hw) (fin _ ⟨_, rfl, hw⟩) hS.2.2 hdg hlocks
    · cases hret
  · cases hret
    simp only [am_vs] at hst
    subst hst
    exact W.vret hx hb (by rw [hr]; exact hok) (fin _ rfl) hS.2.2 hdg hlocks
  · cases hret
/-- a callee's contract -/
theorem am_Met {n : Nat} (ih : am_S T mx DF X tk A cA dC dI Mi l n) {d y : Nat} {vs rs : List Value} {hp hp1 : am_H} {v : Option Value} (hex : am_ex T mx DF X n d y 0 (am_ent (mx y) vs) [] hp = some (v, hp1)) (hv : am_thr v = false) {ad : Nat → Nat} {ws : va_W} (hvs : am_vs tk ad hp.2.1 vs rs) (hfl : (am_flat vs).length ≤ mx y) (hR : am_Rl tk ad cA hp ws) (hD : va_D A ws) (hok : am_okM Mi mx y) :
    Met l (Mi y).1 [Jvm.Cond.code (Mi y).1 (Mi y).2.1 (mx y) (Mi y).2.2] (am_rm d (hp1.2.2.1 - hp.2.2.1) (hp1.2.2.2 - hp.2.2.2)) (am_Pc X tk A cA dC dI rs 0 ws) (am_Qc tk A cA dC dI ad hp.2.1 v hp1) (hp1.2.2.1 - hp.2.2.1) (hp1.2.2.2 - hp.2.2.2) A := by
  refine Met.ofW (cc := (Mi y).2.1) (maxL := mx y) (ret := (Mi y).2.2) hok.2.2.1 rfl ?_
  intro p e s m args below meth c s₁ B hml hv1
  obtain ⟨rfl, hC, hP⟩ := hv1
  have hown : s.vm.findClass (Mi y).1.cls = some m.cls := findClass_of_methodNamed B.named
  have hmn : meth.name = (Mi y).1.name := (name_of_methodNamed B.named B.method).1
  rw [lg_entry_eq]
  have h0 : ∀ k, k - k = 0 := fun k => by omega
  have := ih d y 0 (am_ent (mx y) vs) [] hp v hp1 hex p e (headSpec [Jvm.Cond.code (Mi y).1 (Mi y).2.1 (mx y) (Mi y).2.2] (am_rm d (hp1.2.2.1 - hp.2.2.1) (hp1.2.2.2 - hp.2.2.2))).room s m rs.toArray below meth c ⟨B.exec, B.bytes, hml, hown, hmn, Nat.le_refl _, Nat.le_refl _⟩ hC ad ws s.heap [] _ [] hR (am_ent_L hvs hfl) rfl hP hD va_S.rf hp.2.2.1 hp.2.2.2 (Nat.le_refl _) (Nat.le_refl _) (Nat.le_refl _) (Nat.le_refl _) _ (am_end B.exec B.bytes B.returns B.notSynchronized) (fun hz => by rw [hv] at hz; cases hz)
  rw [h0, h0] at this
  exact this
/-- behind a call -/
theorem am_goon {p : Program} {e : Env} {R : Room} {s : State} {m : MethodId} {args : Array Value} {below : List Frame} {meth : Method} {c : Code} {H : Heap} {locs : List Loc} {cells slots mc ms pc : Nat} {ls' : Array Slot} {st0 rest : List Value} {a : Array Value} {ad : Nat → Nat} {nx : Nat} {v : Option Value} {hp1 : am_H} {Q : State → Prop}
    (hr : va_Run p l e R s m args below meth c H locs cells slots mc ms (F0 m pc ls' st0) rest (am_Qc tk A cA dC dI ad nx v hp1 a) A) (hS : va_S A s.heap H locs)
    (kk : ∀ (ad1 : Nat → Nat) (ws1 : va_W) (w : Option Value) (H1 : Heap) (locs1 : List Loc), am_vo tk ad1 hp1.2.1 v w → (∀ q, q < nx → ad1 q = ad q) → am_Rl tk ad1 cA hp1 ws1 → va_P (dC, dI) vwCl ws1 H1 → va_D A ws1 → va_S A s.heap H1 locs1 → W p l e R s m args below meth c H1 locs1 (cells + mc) (slots + ms) Q (F0 m (pc + 3) ls' (w.toList ++ rest))) : W p l e R s m args below meth c H locs cells slots Q (F0 m pc ls' st0) := by
  intro T hT X
  obtain ⟨w, st₀, t, T', L, h0, X', hL, e1, e2, ⟨ad1, ws1, w', hw, hvo, hag, hR, hP, hD, hz, hk⟩, st⟩ := hr T hT X
  cases hw
  rw [h0] at hz hk
  obtain ⟨t2, a1, b1⟩ := kk ad1 ws1 w T'.heap (locs ++ L) hvo hag hR (by rw [e1]; exact hP) hD
    ⟨Nat.le_trans hS.1 (by rw [e1]; exact hz), fun q h1 h2 => by rw [e1, hk q (Nat.lt_of_lt_of_le h1 hS.1) h2]; exact hS.2.1 q h1 h2, fun q hq => by
      rcases List.mem_append.mp hq with h | h
      · exact hS.2.2 q h
      · exact hL q h⟩ T' rfl X'
  exact ⟨t2, st t2 a1, b1⟩
end AMT
