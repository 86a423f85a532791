/-! SOUNDNESS, 5: every instruction of the heap's side -/
def am_okD (DF : Nat → List Value) (ci : Nat) (T : u_T) (N : Nat) : Prop := (∃ ty0 : Nat → FieldType, (∀ k, k < N → parseFieldDescriptor (T k).2.2.1 = some (ty0 k)) ∧ ∀ j, j < N → defaultValue (ty0 j) = vp_V (DF ci) j) ∧ ∀ v ∈ DF ci, v = .int 0 ∨ v = .long 0 ∨ v = .null
def am_ok2 (own mname : String) (DF : Nat → List Value) (i : ClassFile.Instr) (r : List Nat) (k : Value) : Prop := match i with
  | .getfield ix => ∃ slot cis, r = slot :: cis ∧ (am_okG own ix slot cis ∨ (cis = [100] ∧ ((slot = 0 ∧ Jvm.Cond.fieldLink own ix "java/lang/String" "value" "[B" ∈ lw_tbl) ∨ (slot = 1 ∧ Jvm.Cond.fieldLink own ix "java/lang/String" "coder" "B" ∈ lw_tbl))))
  | .putfield ix => ∃ slot ty cis, r = slot :: ty :: cis ∧ am_okP own mname ix slot ty cis
  | .new ix => ∃ ci C T N, r = [ci, N] ∧ vwCl[ci]? = some (C, T, N) ∧ Jvm.Cond.classLink own ix C ∈ lw_tbl ∧ Jvm.Cond.instantiable C N ∈ lw_tbl ∧ Jvm.Cond.initialized C ∈ lw_tbl ∧ am_okD DF ci T N
  | .newarray t => (r = [0] ∧ t = .int) ∨ (r = [1] ∧ t = .byte) ∨ (r = [2] ∧ t = .boolean) ∨ (r = [3] ∧ t = .long)
  | .anewarray ix => Jvm.Cond.classLink own ix "java/lang/Object" ∈ lw_tbl
  | .checkcast ix => ∃ ci C T N, r = [ci] ∧ vwCl[ci]? = some (C, T, N) ∧ Jvm.Cond.classLink own ix C ∈ lw_tbl
  | .getstatic ix => (k = .retAddr 1 ∧ Jvm.Cond.fieldLink own ix "java/util/ArrayList" "DEFAULTCAPACITY_EMPTY_ELEMENTDATA" "[Ljava/lang/Object;" ∈ lw_tbl) ∨ (k = .int 1 ∧ Jvm.Cond.fieldLink own ix "java/lang/String" "COMPACT_STRINGS" "Z" ∈ lw_tbl) ∨ (k = .retAddr 6 ∧ Jvm.Cond.fieldLink own ix "jdk/internal/util/Preconditions" "SIOOBE_FORMATTER" "Ljava/util/function/BiFunction;" ∈ lw_tbl)
  | .ldc ix => own = "FlowerPotsModel" ∧ ((ix = 26 ∧ k = .retAddr 2) ∨ (ix = 32 ∧ k = .retAddr 3))
  | .invokespecial ix => Jvm.Cond.methodLink own ix objectInit ∈ lw_tbl
  | .invokestatic ix => (r = [0] ∧ Jvm.Cond.methodLink own ix Lib.Math.min.name ∈ lw_tbl) ∨ (r = [1] ∧ Jvm.Cond.methodLink own ix Lib.Math.max.name ∈ lw_tbl) ∨ (r = [2] ∧ Jvm.Cond.methodLink own ix Lib.MathLoose.min_long.x ∈ lw_tbl) ∨ (r = [3] ∧ Jvm.Cond.methodLink own ix Lib.MathLoose.max_long.x ∈ lw_tbl) ∨ (r = [4] ∧ Jvm.Cond.methodLink own ix arraycopyName ∈ lw_tbl)
  | _ => True
theorem am_gw {w : Cond} (h : decide (w ∈ lw_tbl) = true) : w ∈ lw_tbl := by simpa using h
theorem am_w_ai : Jvm.Cond.arrayClass .int ∈ lw_tbl := am_gw (by decide +kernel)
theorem am_w_ab : Jvm.Cond.arrayClass .byte ∈ lw_tbl := am_gw (by decide +kernel)
theorem am_w_az : Jvm.Cond.arrayClass .boolean ∈ lw_tbl := am_gw (by decide +kernel)
theorem am_w_al : Jvm.Cond.arrayClass .long ∈ lw_tbl := am_gw (by decide +kernel)
theorem am_w_m0 : Jvm.Cond.static Lib.Math.min.name ∈ lw_tbl := am_gw (by decide +kernel)
theorem am_w_m1 : Jvm.Cond.static Lib.Math.max.name ∈ lw_tbl := am_gw (by decide +kernel)
theorem am_w_m2 : Jvm.Cond.static Lib.MathLoose.min_long.x ∈ lw_tbl := am_gw (by decide +kernel)
theorem am_w_m3 : Jvm.Cond.static Lib.MathLoose.max_long.x ∈ lw_tbl := am_gw (by decide +kernel)
theorem am_w_mi : Jvm.Cond.initialized "java/lang/Math" ∈ lw_tbl := am_gw (by decide +kernel)
theorem am_w_c0 : Jvm.Cond.code Lib.Math.min.name Lib.Math.min.code 2 (some .int) ∈ lw_tbl := am_gw (by decide +kernel)
theorem am_w_c1 : Jvm.Cond.code Lib.Math.max.name Lib.Math.max.code 2 (some .int) ∈ lw_tbl := am_gw (by decide +kernel)
theorem am_w_c2 : Jvm.Cond.code Lib.MathLoose.min_long.x Lib.MathLoose.min_long.code 4 (some .long) ∈ lw_tbl := am_gw (by decide +kernel)
theorem am_w_c3 : Jvm.Cond.code Lib.MathLoose.max_long.x Lib.MathLoose.max_long.code 4 (some .long) ∈ lw_tbl := am_gw (by decide +kernel)
theorem am_w_cn : Jvm.Cond.native arraycopyName ∈ lw_tbl := am_gw (by decide +kernel)
theorem am_w_cs : Jvm.Cond.static arraycopyName ∈ lw_tbl := am_gw (by decide +kernel)
theorem am_w_si : Jvm.Cond.initialized "java/lang/System" ∈ lw_tbl := am_gw (by decide +kernel)
theorem am_w_o1 : Jvm.Cond.instanceMethod objectInit ∈ lw_tbl := am_gw (by decide +kernel)
theorem am_w_o2 : Jvm.Cond.code objectInit ⟨#[0xb1]⟩ 1 none ∈ lw_tbl := am_gw (by decide +kernel)
theorem am_w_k1 : Jvm.Cond.castable "FlowerPots$Book" "java/lang/Object" ∈ lw_tbl := am_gw (by decide +kernel)
theorem am_w_k4 : Jvm.Cond.castable "FlowerPots$Numbers" "java/lang/Object" ∈ lw_tbl := am_gw (by decide +kernel)
theorem am_df_vs {tk : Nat → Value} {ad : Nat → Nat} {nx : Nat} : ∀ {l : List Value}, (∀ v ∈ l, v = .int 0 ∨ v = .long 0 ∨ v = .null) → am_vs tk ad nx l l
  | [], _ => rfl
  | v :: t, h => ⟨v, t, rfl, by rcases h v List.mem_cons_self with rfl | rfl | rfl <;> rfl, am_df_vs fun u hu => h u (List.mem_cons_of_mem _ hu)⟩
section AMI
variable {p : Program} {l : Launch} {e : Env} {R : Room} {s : State} {m : MethodId} {args : Array Value} {below : List Frame} {meth : Method} {c : Code} {H : Heap} {locs : List Loc} {Q : State → Prop}
variable {cc : ByteArray} {pc nL c0 s0 : Nat} {tk : Nat → Value} {ad : Nat → Nat} {st ls : List Value} {ls' : Array Slot} {st' : List Value} {X : am_X} {A : Nat → Prop} {cA : Nat → ClassId} {dC : Nat → ClassId} {dI : Nat → Nat → Nat} {hp : am_H} {ws : va_W} {own mname : String}
set_option maxHeartbeats 8000000 in
theorem am_snd_h (hx : p.tables.exec = Jvm.exec) (hb : c.code = cc) (hml : c.maxLocals = nL) (hown : s.vm.findClass own = some m.cls) (hmn : meth.name = mname) (hts : ∀ w ∈ lw_tbl, goodWord w = true → w.before args s = true) (hnw : ∀ w ∈ lw_tbl, am_nw w = true → va_Nw w s) (hao : va_AO "java/lang/Object" s) (hK : va_K (dC, dI) vwCl (am_tys cA) s) (hP : va_P (dC, dI) vwCl ws H) (hD : va_D A ws) (hS : va_S A s.heap H locs) (hA : ∀ q, s.heap.size ≤ q → A q) (hSt : am_St X tk A s s.heap) (hR : am_Rl tk ad cA hp ws)
    (hfr : 1 ≤ R.frames) (hlo : 64 ≤ R.locals) {DF : Nat → List Value} {i : ClassFile.Instr} {r : List Nat} {k : Value} {st1 : List Value} {hp1 : am_H} (h : am_h DF X i r k st hp = some (st1, hp1)) (hdg : decode cc pc = .ok (i, am_len i)) (hok : am_ok2 own mname DF i r k) (hL : am_L tk ad hp.2.1 ls nL ls') (hst : am_vs tk ad hp.2.1 st st')
    (hc0 : c0 ≤ hp.2.2.1) (hs0 : s0 ≤ hp.2.2.2) (hcl : hp1.2.2.1 - c0 ≤ R.cells) (hsl : hp1.2.2.2 - s0 ≤ R.slots)
    (kk : ∀ (ad1 : Nat → Nat) (ws1 : va_W) (H1 : Heap) (locs1 : List Loc) (s1 : List Value), hp.2.1 ≤ hp1.2.1 → (∀ q, q < hp.2.1 → ad1 q = ad q) → am_Rl tk ad1 cA hp1 ws1 → va_P (dC, dI) vwCl ws1 H1 → va_D A ws1 → va_S A s.heap H1 locs1 → am_vs tk ad1 hp1.2.1 st1 s1 → W p l e R s m args below meth c H1 locs1 (hp1.2.2.1 - c0) (hp1.2.2.2 - s0) Q (F0 m (pc + am_len i) ls' s1)) :
    W p l e R s m args below meth c H locs (hp.2.2.1 - c0) (hp.2.2.2 - s0) Q (F0 m pc ls' st') := by
  have hsz : c.maxLocals = ls'.size := by rw [hml, hL.2.1]
  have new : ∀ (q n : Nat) (x : am_E) (ev : va_E) (H1 : Heap) (z : List Value) (S : List Value), am_er tk (fun k => if k = hp.2.1 then q else ad k) (hp.2.1 + 1) cA x ev → hp1 = am_push hp x n → st1 = .ref hp.2.1 :: S → am_vs tk ad hp.2.1 S z → va_P (dC, dI) vwCl (ws ++ [(q, ev)]) H1 → va_D A (ws ++ [(q, ev)]) → va_S A s.heap H1 locs → W p l e R s m args below meth c H1 locs (hp.2.2.1 - c0 + 1) (hp.2.2.2 - s0 + n) Q (F0 m (pc + am_len i) ls' (.ref q :: z)) := by
    intro q n x ev H1 z S he h1 h2 hz q1 q2 q3
    have hag : ∀ k, k < hp.2.1 → (fun k => if k = hp.2.1 then q else ad k) k = ad k := fun k hk => by
      have : ¬ k = hp.2.1 := by omega
      simp [this]
    subst h1; subst h2
    have := kk (fun k => if k = hp.2.1 then q else ad k) _ H1 locs (.ref q :: z) (Nat.le_succ _) hag (hR.push q n he) q1 q2 q3 ⟨_, _, rfl, ⟨Nat.lt_succ_self _, by simp⟩, am_vs.mono (Nat.le_succ _) hag hz⟩
    have e1 : (am_push hp x n).2.2.1 - c0 = hp.2.2.1 - c0 + 1 := by show hp.2.2.1 + 1 - c0 = _; omega
    have e2 : (am_push hp x n).2.2.2 - s0 = hp.2.2.2 - s0 + n := by show hp.2.2.2 + n - s0 = _; omega
    rw [e1, e2] at this
    exact this
  cases i <;> simp only [am_h] at h <;> try (cases h; done)
  case iaload => exact am_snd_la hx hb hK hP hS hSt hR h hst (Or.inl ⟨rfl, hdg⟩) (fun s1 hs1 e1 => by subst e1; exact kk ad ws H locs s1 (Nat.le_refl _) (fun _ _ => rfl) hR hP hD hS hs1)
  case baload => exact am_snd_la hx hb hK hP hS hSt hR h hst (Or.inr ⟨rfl, hdg⟩) (fun s1 hs1 e1 => by subst e1; exact kk ad ws H locs s1 (Nat.le_refl _) (fun _ _ => rfl) hR hP hD hS hs1)
  case getfield ix =>
    obtain ⟨slot, cis, rfl, hok⟩ := hok
    split at h
    · rename_i sl cs v z e1 
      cases e1
      obtain ⟨x, hrd, h9⟩ := Option.bind_eq_some_iff.mp h
      clear h
      split at h9
      · rename_i ci fs
        split at h9
        · rename_i hc
          obtain ⟨w, hw, h8⟩ := Option.bind_eq_some_iff.mp h9
          cases h8
          obtain ⟨u, t, rfl, hu, hs1⟩ := hst
          have hci : ci ∈ cis := by simpa using hc
          have k1 := fun (w' : Value) (hw' : am_vr tk ad hp.2.1 w w') => kk ad ws H locs (w' :: t) (Nat.le_refl _) (fun _ _ => rfl) hR hP hD hS ⟨w', t, rfl, hw', hs1⟩
          rcases am_rd_s hrd with ⟨a, rfl, ha⟩ | ⟨j, rfl, hj⟩
          · simp only [am_vr] at hu
            obtain ⟨ha2, rfl⟩ := hu
            rcases hok with hok | ⟨rfl, -⟩
            · exact am_snd_get hx hb hown hts hnw hK hP hR ha hci hw hok hdg k1
            · obtain ⟨fs', h6, -⟩ := am_obj hR ha ha2
              obtain ⟨r, h7, -⟩ := hP a _ h6
              simp at hci
              subst hci
              simp [vwCl] at h7
          · simp only [am_vr] at hu
            rw [hu.1]
            rcases hok with hok | ⟨-, hok⟩
            · obtain ⟨_, _, _, -, hok⟩ := hok
              obtain ⟨C, T, N, h7, -⟩ := hok ci hci
              unfold am_tk at hj
              split at hj <;> cases hj <;> simp [vwCl] at h7
            · exact am_snd_str hx hb hown hts hS hSt hj hw hok hdg k1
        · cases h9
      · cases h9
    · cases h
  case putfield ix =>
    obtain ⟨slot, ty, cis, rfl, hok⟩ := hok
    split at h
    · rename_i sl ty' cs w a z e1
      cases e1
      split at h
      · rename_i ci fs ha
        split at h
        · rename_i hc
          cases h
          simp only [Bool.and_eq_true, decide_eq_true_eq] at hc
          obtain ⟨u, t, rfl, hu, hs1⟩ := hst
          obtain ⟨ha2, t2, rfl, hs2⟩ := hs1.r
          exact am_snd_put hx hb hown hts hK hP hD hS hR hmn ha (by simpa using hc.1.1) hc.1.2 hc.2 hu hok hdg (fun ws1 H1 locs1 q0 q1 q2 q3 => kk ad ws1 H1 locs1 t2 (Nat.le_refl _) (fun _ _ => rfl) q0 q1 q2 q3 hs2)
        · cases h
      · cases h
    · cases h
  case laload =>
    split at h
    · split at h
      · rename_i ha
        split at h
        · rename_i hc
          cases h
          simp only [Bool.and_eq_true, decide_eq_true_eq] at hc
          obtain ⟨t, rfl, hs1⟩ := hst.i
          obtain ⟨-, t2, rfl, hs2⟩ := hs1.r
          obtain ⟨-, -, h3⟩ := am_arrL hR ha
          exact va_lald hx hb hK hP _ 3 h3 rfl (am_in_w hc.2) hdg (kk ad ws H locs _ (Nat.le_refl _) (fun _ _ => rfl) hR hP hD hS hs2.pl)
        · cases h
      · cases h
    · cases h
  case iastore =>
    split at h
    · split at h
      · rename_i ha
        split at h
        · rename_i hc
          cases h
          simp only [Bool.and_eq_true, decide_eq_true_eq] at hc
          obtain ⟨rfl, hin⟩ := hc
          obtain ⟨t, rfl, hs1⟩ := hst.i
          obtain ⟨t2, rfl, hs2⟩ := hs1.i
          obtain ⟨-, t3, rfl, hs3⟩ := hs2.r
          obtain ⟨h1, h2, h3⟩ := am_arr hR ha
          exact va_iast hx hb hK hP hD hS _ 0 h3 rfl (am_in_w hin) hdg (fun H1 locs1 q1 q2 q3 => kk ad _ H1 locs1 _ (Nat.le_refl _) (fun _ _ => rfl) (hR.set h1 (And.intro h2 rfl)) q1 q2 q3 hs3)
        · cases h
      · cases h
    · cases h
  case bastore =>
    split at h
    · split at h
      · rename_i ha
        split at h
        · rename_i hin
          split at h
          · rename_i e1
            subst e1
            cases h
            obtain ⟨t, rfl, hs1⟩ := hst.i
            obtain ⟨t2, rfl, hs2⟩ := hs1.i
            obtain ⟨-, t3, rfl, hs3⟩ := hs2.r
            obtain ⟨h1, h2, h3⟩ := am_arr hR ha
            exact va_bast hx hb hK hP hD hS _ 1 h3 rfl (am_in_w hin) hdg (fun H1 locs1 q1 q2 q3 => kk ad _ H1 locs1 _ (Nat.le_refl _) (fun _ _ => rfl) (hR.set h1 (And.intro h2 rfl)) q1 q2 q3 hs3)
          · split at h
            · rename_i e1
              subst e1
              cases h
              obtain ⟨t, rfl, hs1⟩ := hst.i
              obtain ⟨t2, rfl, hs2⟩ := hs1.i
              obtain ⟨-, t3, rfl, hs3⟩ := hs2.r
              obtain ⟨h1, h2, h3⟩ := am_arr hR ha
              exact va_zast hx hb hK hP hD hS _ 2 h3 rfl (am_in_w hin) hdg (fun H1 locs1 q1 q2 q3 => kk ad _ H1 locs1 _ (Nat.le_refl _) (fun _ _ => rfl) (hR.set h1 (And.intro h2 rfl)) q1 q2 q3 hs3)
            · cases h
        · cases h
      · cases h
    · cases h
  case lastore =>
    split at h
    · split at h
      · rename_i ha
        split at h
        · rename_i hc
          cases h
          simp only [Bool.and_eq_true, decide_eq_true_eq] at hc
          obtain ⟨rfl, hin⟩ := hc
          obtain ⟨t, rfl, hs1⟩ := hst.l
          obtain ⟨t2, rfl, hs2⟩ := hs1.i
          obtain ⟨-, t3, rfl, hs3⟩ := hs2.r
          obtain ⟨h1, h2, h3⟩ := am_arrL hR ha
          exact va_last hx hb hK hP hD hS _ 3 h3 rfl (am_in_w hin) hdg (fun H1 locs1 q1 q2 q3 => kk ad _ H1 locs1 _ (Nat.le_refl _) (fun _ _ => rfl) (hR.set h1 (And.intro rfl rfl)) q1 q2 q3 hs3)
        · cases h
      · cases h
    · cases h
  case arraylength =>
    split at h
    · obtain ⟨x, hrd, h9⟩ := Option.bind_eq_some_iff.mp h
      clear h
      split at h9
      · cases h9
        obtain ⟨u, t, rfl, hu, hs1⟩ := hst
        exact am_snd_len hx hb hK hP hS hSt hR hrd hu hdg (kk ad ws H locs _ (Nat.le_refl _) (fun _ _ => rfl) hR hP hD hS hs1.pi)
      · cases h9
    · cases h
  case new ix =>
    obtain ⟨ci, C, T, N, rfl, h1, h2, h3, h4, ⟨ty0, h5, h6⟩, h7⟩ := hok
    cases h
    have hg : ∀ w ∈ lw_G, w.before args s = true := fun w hw => hts w (lw_G_mem.mp hw).1 (lw_G_mem.mp hw).2
    have hcl' : hp.2.2.1 + 1 - c0 ≤ R.cells := hcl
    have hsl' : hp.2.2.2 + N - s0 ≤ R.slots := hsl
    have g1 : hp.2.2.1 - c0 + 1 ≤ R.cells := by omega
    have g2 : hp.2.2.2 - s0 + N ≤ R.slots := by omega
    exact va_new hx hb hg (am_cls_1 _ (List.mem_of_getElem? h1)) ty0 h5 hown (hts _ h2 rfl) (hts _ h3 rfl) (hts _ h4 rfl) hK hP hD hS hA h1 h6 g1 g2 hdg (fun q H1 q1 q2 q3 => new q N _ _ H1 _ _ (by simp only [am_er]; exact ⟨_, rfl, am_df_vs h7⟩) rfl rfl hst q1 q2 q3)
  case newarray t =>
    split at h
    · rename_i tt n z
      split at h
      · cases h
      · rename_i hn
        cases h
        obtain ⟨t2, rfl, hs1⟩ := hst.i
        have hcl' : hp.2.2.1 + 1 - c0 ≤ R.cells := hcl
        have hsl' : hp.2.2.2 + n.toNatClampNeg - s0 ≤ R.slots := hsl
        have hn1 : ¬ n < 0 := fun z => hn (Or.inl z)
        have hn2 : n.toNatClampNeg ≤ 65536 := by
          rcases Nat.lt_or_ge 65536 n.toNatClampNeg with z | z
          · exact absurd (Or.inr z) hn
          · exact z
        rcases hok with ⟨hr, rfl⟩ | ⟨hr, rfl⟩ | ⟨hr, rfl⟩ | ⟨hr, rfl⟩ <;> cases hr
        · exact va_newa hx hb (atype := .int) (hts _ am_w_ai rfl) rfl hK hP hD hS hA (a0 := (n.toNatClampNeg, .inl (fun _ => 0))) (fun _ => rfl) hn1 rfl (Nat.le_trans (Nat.mul_le_mul_right _ hn2) (by decide)) (by omega) (by omega) hdg (fun q cA' H1 k1 q1 q2 q3 => by
            have e1 := am_newK (t := 0) k1 rfl
            subst e1
            exact new q n.toNatClampNeg (.inl (0, n.toNatClampNeg, .inl (fun _ => 0))) (.inl (cA 0, n.toNatClampNeg, .inl (fun _ => 0))) H1 _ _ (And.intro (by decide) rfl) rfl rfl hs1 q1 q2 q3)
        · exact va_newa hx hb (atype := .byte) (hts _ am_w_ab rfl) rfl hK hP hD hS hA (a0 := (n.toNatClampNeg, .inl (fun _ => 0))) (fun _ => rfl) hn1 rfl (Nat.le_trans (Nat.mul_le_mul_right _ hn2) (by decide)) (by omega) (by omega) hdg (fun q cA' H1 k1 q1 q2 q3 => by
            have e1 := am_newK (t := 1) k1 rfl
            subst e1
            exact new q n.toNatClampNeg (.inl (1, n.toNatClampNeg, .inl (fun _ => 0))) (.inl (cA 1, n.toNatClampNeg, .inl (fun _ => 0))) H1 _ _ (And.intro (by decide) rfl) rfl rfl hs1 q1 q2 q3)
        · exact va_newa hx hb (atype := .boolean) (hts _ am_w_az rfl) rfl hK hP hD hS hA (a0 := (n.toNatClampNeg, .inl (fun _ => 0))) (fun _ => rfl) hn1 rfl (Nat.le_trans (Nat.mul_le_mul_right _ hn2) (by decide)) (by omega) (by omega) hdg (fun q cA' H1 k1 q1 q2 q3 => by
            have e1 := am_newK (t := 2) k1 rfl
            subst e1
            exact new q n.toNatClampNeg (.inl (2, n.toNatClampNeg, .inl (fun _ => 0))) (.inl (cA 2, n.toNatClampNeg, .inl (fun _ => 0))) H1 _ _ (And.intro (by decide) rfl) rfl rfl hs1 q1 q2 q3)
        · exact va_newa hx hb (atype := .long) (hts _ am_w_al rfl) rfl hK hP hD hS hA (a0 := (n.toNatClampNeg, .inr (.inl (fun _ => 0)))) (fun _ => rfl) hn1 rfl (Nat.le_trans (Nat.mul_le_mul_right _ hn2) (by decide)) (by omega) (by omega) hdg (fun q cA' H1 k1 q1 q2 q3 => by
            have e1 := am_newK (t := 3) k1 rfl
            subst e1
            exact new q n.toNatClampNeg (.inl (3, n.toNatClampNeg, .inr (.inl (fun _ => 0)))) (.inl (cA 3, n.toNatClampNeg, .inr (.inl (fun _ => 0)))) H1 _ _ (And.intro rfl rfl) rfl rfl hs1 q1 q2 q3)
    · cases h
  case anewarray ix =>
    split at h
    · rename_i n z
      split at h
      · cases h
      · rename_i hn
        cases h
        obtain ⟨t2, rfl, hs1⟩ := hst.i
        have hcl' : hp.2.2.1 + 1 - c0 ≤ R.cells := hcl
        have hsl' : hp.2.2.2 + n.toNatClampNeg - s0 ≤ R.slots := hsl
        have hn1 : ¬ n < 0 := fun z => hn (Or.inl z)
        have hn2 : n.toNatClampNeg ≤ 65536 := by
          rcases Nat.lt_or_ge 65536 n.toNatClampNeg with z | z
          · exact absurd (Or.inr z) hn
          · exact z
        exact va_newq hx hb hown (hts _ hok rfl) hao hK hP hD hS hA hn1 rfl (Nat.le_trans (Nat.mul_le_mul_right _ hn2) (by decide)) (by omega) (by omega) hdg (fun q cA' H1 k1 q1 q2 q3 => by
            have e1 := am_newK (t := 4) k1 rfl
            subst e1
            exact new q n.toNatClampNeg (.inl (4, n.toNatClampNeg, .inr (.inr (.inr (.inr (fun _ => none)))))) (.inl (cA 4, n.toNatClampNeg, .inr (.inr (.inr (.inr (fun _ => none)))))) H1 _ _ (And.intro rfl ⟨_, rfl, fun j => Or.inl ⟨rfl, rfl⟩⟩) rfl rfl hs1 q1 q2 q3)
    · cases h
  case checkcast ix =>
    obtain ⟨ci, C, T, N, rfl, h1, h2⟩ := hok
    split at h
    · split at h
      · rename_i ha
        split at h
        · rename_i hc
          cases h
          simp at hc
          subst hc
          obtain ⟨ha2, t, rfl, hs1⟩ := hst.r
          obtain ⟨fs', h6, -⟩ := am_obj hR ha ha2
          exact va_castS hx hb hown (hts _ h2 rfl) (hK.1 _ _ h1).2 (va_recv hK hP h1 h6) hdg (kk ad ws H locs _ (Nat.le_refl _) (fun _ _ => rfl) hR hP hD hS ⟨_, _, rfl, ⟨ha2, rfl⟩, hs1⟩)
        · cases h
      · cases h
    · cases h
  case getstatic ix =>
    cases h
    have h6 := am_tk_rn hSt (j := 6) (by decide)
    obtain ⟨-, ⟨q, e1, -, -, -, hZ⟩, -, hZ2, -, hZ3⟩ := hSt
    rcases hok with ⟨rfl, hok⟩ | ⟨rfl, hok⟩ | ⟨rfl, hok⟩
    · exact va_gets hx hb hZ hS hown (hts _ hok rfl) (fun _ h => h) hdg (kk ad ws H locs _ (Nat.le_refl _) (fun _ _ => rfl) hR hP hD hS ⟨_, _, rfl, ⟨e1.symm, Or.inl ⟨_, e1⟩⟩, hst⟩)
    · exact va_gets hx hb hZ2 hS hown (hts _ hok rfl) (fun _ h => h) hdg (kk ad ws H locs _ (Nat.le_refl _) (fun _ _ => rfl) hR hP hD hS hst.pi)
    · exact va_gets hx hb hZ3 hS hown (hts _ hok rfl) (fun _ h => h) hdg (kk ad ws H locs _ (Nat.le_refl _) (fun _ _ => rfl) hR hP hD hS ⟨_, _, rfl, ⟨rfl, h6⟩, hst⟩)
  case ldc ix =>
    cases h
    obtain ⟨-, -, ⟨adK, adV, hV, e2, e3, e4, e5, r1, r2⟩, -⟩ := hSt
    obtain ⟨rfl, hok⟩ := hok
    rcases hok with ⟨rfl, rfl⟩ | ⟨rfl, rfl⟩
    · exact va_ldcS hx hb hown r1 hdg (kk ad ws H locs _ (Nat.le_refl _) (fun _ _ => rfl) hR hP hD hS ⟨_, _, rfl, ⟨e2.symm, Or.inl ⟨_, e2⟩⟩, hst⟩)
    · exact va_ldcS hx hb hown r2 hdg (kk ad ws H locs _ (Nat.le_refl _) (fun _ _ => rfl) hR hP hD hS ⟨_, _, rfl, ⟨e3.symm, Or.inl ⟨_, e3⟩⟩, hst⟩)
  case invokespecial ix =>
    split at h
    · split at h
      · rename_i hc
        cases h
        obtain ⟨-, t, rfl, hs1⟩ := hst.r
        have hc2 : am_cat t ≤ 8 := by rw [hs1.cat]; exact hc
        refine W.objInit hx hb hown (hts _ hok rfl) (hts _ am_w_o1 rfl) (hts _ am_w_o2 rfl) rfl (by rw [hsz]) rfl hdg hfr ?_ (kk ad ws H locs _ (Nat.le_refl _) (fun _ _ => rfl) hR hP hD hS hs1)
        have := lv_room (m := m) (pc := pc) (ls := ls') (rest := .ref 0 :: t) hc2
        exact Nat.le_trans (Nat.add_le_add_right this 12) (by omega)
      · cases h
    · cases h
  case aaload =>
    split at h
    · split at h
      · rename_i i0 a z _ t0 n g ha
        split at h
        · rename_i hc
          cases h
          simp only [Bool.and_eq_true, decide_eq_true_eq] at hc
          obtain ⟨t, rfl, hs1⟩ := hst.i
          obtain ⟨-, t2, rfl, hs2⟩ := hs1.r
          obtain ⟨-, -, g', h3, h4⟩ := am_arrQ hR ha
          refine va_aldq hx hb hK hP _ 4 (C := "java/lang/Object") h3 rfl (am_in_w hc.2) hdg (kk ad ws H locs _ (Nat.le_refl _) (fun _ _ => rfl) hR hP hD hS ⟨_, _, rfl, ?_, hs2⟩)
          rcases h4 i0.toNatClampNeg with ⟨h5, h6⟩ | ⟨q, h5, h6, h7⟩
          · rw [h5, h6]; rfl
          · rw [h5, h7]; exact ⟨h6, rfl⟩
        · cases h
      · cases h
    · cases h
  case aastore =>
    split at h
    · split at h
      · rename_i q i0 a z _ _ t0 n g ci fs ha hq
        split at h
        · rename_i hc
          cases h
          simp only [Bool.and_eq_true, Bool.or_eq_true, decide_eq_true_eq] at hc
          obtain ⟨hq2, t, rfl, hs1⟩ := hst.r
          obtain ⟨t2, rfl, hs2⟩ := hs1.i
          obtain ⟨-, t3, rfl, hs3⟩ := hs2.r
          obtain ⟨h1, h2, g', h3, h4⟩ := am_arrQ hR ha
          obtain ⟨fs', h6, -⟩ := am_obj hR hq hq2
          have hany : va_Any "java/lang/Object" s H (ad q) := by
            rcases hc.2 with rfl | rfl
            · exact va_rAny hK hP h6 (r := (RX0, TX0, 4)) rfl (fun comp c0 f1 f2 => by
                obtain ⟨c9, t9, g1, g2, g3⟩ := Cond.castable_spec (va_Nw.use (A := args) rfl (hnw _ am_w_k1 rfl))
                cases f1.symm.trans g2
                cases f2.symm.trans g1
                exact g3)
            · exact va_rAny hK hP h6 (r := (RX3, TX3, 2)) rfl (fun comp c0 f1 f2 => by
                obtain ⟨c9, t9, g1, g2, g3⟩ := Cond.castable_spec (va_Nw.use (A := args) rfl (hnw _ am_w_k4 rfl))
                cases f1.symm.trans g2
                cases f2.symm.trans g1
                exact g3)
          refine va_astqM hx hb hK hP hD hS _ 4 h3 rfl hany (am_in_w hc.1.2) hdg (fun H1 locs1 q1 q2 q3 => kk ad _ H1 locs1 _ (Nat.le_refl _) (fun _ _ => rfl) (hR.set h1 ?_) q1 q2 q3 hs3)
          refine And.intro rfl ⟨_, rfl, fun j => ?_⟩
          unfold va_up
          by_cases e1 : j = i0.toNatClampNeg
          · simp only [e1, if_true]
            exact Or.inr ⟨q, rfl, hq2, rfl⟩
          · simp only [e1, if_false]
            exact h4 j
        · cases h
      · cases h
    · cases h
  case invokestatic ix =>
    split at h
    · cases h
    · rename_i hcat
      have hca : am_cat st' ≤ 16 := by rw [hst.cat]; omega
      have hcl' : hp.2.2.1 - c0 ≤ R.cells ∧ hp.2.2.2 - s0 ≤ R.slots := by
        have : hp1.2 = hp.2 := by
          split at h
          · unfold am_mm at h; split at h <;> cases h; rfl
          · unfold am_mm at h; split at h <;> cases h; rfl
          · unfold am_ml at h; split at h <;> cases h; rfl
          · unfold am_ml at h; split at h <;> cases h; rfl
          · split at h
            · split at h
              · split at h <;> cases h; rfl
              · split at h <;> cases h; rfl
              · cases h
            · cases h
          · cases h
        rw [← this]; exact ⟨hcl, hsl⟩
      rcases hok with ⟨rfl, hok⟩ | ⟨rfl, hok⟩ | ⟨rfl, hok⟩ | ⟨rfl, hok⟩ | ⟨rfl, hok⟩ <;> simp only at h
      · unfold am_mm at h
        split at h
        · cases h
          obtain ⟨t, rfl, hs1⟩ := hst.i
          obtain ⟨t2, rfl, hs2⟩ := hs1.i
          simp only [am_cat, List.map_cons, List.sum_cons] at hca
          exact va_mmin hx hb hsz hown (hts _ hok rfl) (hts _ am_w_m0 rfl) (hts _ am_w_mi rfl) (hts _ am_w_c0 rfl) hfr (by omega) hcl'.1 hcl'.2 hdg (kk ad ws H locs _ (Nat.le_refl _) (fun _ _ => rfl) hR hP hD hS hs2.pi)
        · cases h
      · unfold am_mm at h
        split at h
        · cases h
          obtain ⟨t, rfl, hs1⟩ := hst.i
          obtain ⟨t2, rfl, hs2⟩ := hs1.i
          simp only [am_cat, List.map_cons, List.sum_cons] at hca
          exact va_mmax hx hb hsz hown (hts _ hok rfl) (hts _ am_w_m1 rfl) (hts _ am_w_mi rfl) (hts _ am_w_c1 rfl) hfr (by omega) hcl'.1 hcl'.2 hdg (kk ad ws H locs _ (Nat.le_refl _) (fun _ _ => rfl) hR hP hD hS hs2.pi)
        · cases h
      · unfold am_ml at h
        split at h
        · cases h
          obtain ⟨t, rfl, hs1⟩ := hst.l
          obtain ⟨t2, rfl, hs2⟩ := hs1.l
          simp only [am_cat, List.map_cons, List.sum_cons] at hca
          exact va_mmin_long hx hb hsz hown (hts _ hok rfl) (hts _ am_w_m2 rfl) (hts _ am_w_mi rfl) (hts _ am_w_c2 rfl) hfr (by omega) hcl'.1 hcl'.2 hdg (kk ad ws H locs _ (Nat.le_refl _) (fun _ _ => rfl) hR hP hD hS hs2.pl)
        · cases h
      · unfold am_ml at h
        split at h
        · cases h
          obtain ⟨t, rfl, hs1⟩ := hst.l
          obtain ⟨t2, rfl, hs2⟩ := hs1.l
          simp only [am_cat, List.map_cons, List.sum_cons] at hca
          exact va_mmax_long hx hb hsz hown (hts _ hok rfl) (hts _ am_w_m3 rfl) (hts _ am_w_mi rfl) (hts _ am_w_c3 rfl) hfr (by omega) hcl'.1 hcl'.2 hdg (kk ad ws H locs _ (Nat.le_refl _) (fun _ _ => rfl) hR hP hD hS hs2.pl)
        · cases h
      · split at h
        · rename_i n dp a sp a0 z
          split at h
          · rename_i h0 h1
            split at h
            · rename_i hc
              cases h
              simp only [Bool.and_eq_true, decide_eq_true_eq, Bool.not_eq_true', decide_eq_false_iff_not, not_or] at hc
              obtain ⟨⟨⟨⟨rfl, rfl⟩, g1, g2, g3⟩, g4⟩, g5⟩ := hc
              obtain ⟨t, rfl, hs1⟩ := hst.i
              obtain ⟨t2, rfl, hs2⟩ := hs1.i
              obtain ⟨-, t3, rfl, hs3⟩ := hs2.r
              obtain ⟨t4, rfl, hs4⟩ := hs3.i
              obtain ⟨-, t5, rfl, hs5⟩ := hs4.r
              obtain ⟨-, -, f0⟩ := am_arr hR h0
              obtain ⟨f1, f2, f3⟩ := am_arr hR h1
              simp only [am_cat, List.map_cons, List.sum_cons] at hca
              exact va_copyi hx hb hsz hown (hts _ hok rfl) (hts _ am_w_cn rfl) (hts _ am_w_cs rfl) (hts _ am_w_si rfl) hK hP hD hS a0 a 0 0 f0 f3 (ty := .int) rfl rfl rfl g1 g2 g3 g4 g5 (fun _ _ => rfl) hfr (by simp only [nativeFrameWords]; simp; omega) hdg (fun H1 locs1 q1 q2 q3 => kk ad _ H1 locs1 _ (Nat.le_refl _) (fun _ _ => rfl) (hR.set f1 (And.intro f2 rfl)) q1 q2 q3 hs5)
            · cases h
          · rename_i h0 h1
            split at h
            · rename_i hc
              cases h
              simp only [Bool.and_eq_true, decide_eq_true_eq, Bool.not_eq_true', decide_eq_false_iff_not, not_or] at hc
              obtain ⟨⟨⟨⟨rfl, rfl⟩, g1, g2, g3⟩, g4⟩, g5⟩ := hc
              obtain ⟨t, rfl, hs1⟩ := hst.i
              obtain ⟨t2, rfl, hs2⟩ := hs1.i
              obtain ⟨-, t3, rfl, hs3⟩ := hs2.r
              obtain ⟨t4, rfl, hs4⟩ := hs3.i
              obtain ⟨-, t5, rfl, hs5⟩ := hs4.r
              obtain ⟨-, -, f0⟩ := am_arrL hR h0
              obtain ⟨f1, f2, f3⟩ := am_arrL hR h1
              simp only [am_cat, List.map_cons, List.sum_cons] at hca
              exact va_copyl hx hb hsz hown (hts _ hok rfl) (hts _ am_w_cn rfl) (hts _ am_w_cs rfl) (hts _ am_w_si rfl) hK hP hD hS a0 a 3 3 f0 f3 (ty := .long) rfl rfl rfl g1 g2 g3 g4 g5 (fun _ _ => rfl) hfr (by simp only [nativeFrameWords]; simp; omega) hdg (fun H1 locs1 q1 q2 q3 => kk ad _ H1 locs1 _ (Nat.le_refl _) (fun _ _ => rfl) (hR.set f1 (And.intro rfl rfl)) q1 q2 q3 hs5)
            · cases h
          · cases h
        · cases h
end AMI
