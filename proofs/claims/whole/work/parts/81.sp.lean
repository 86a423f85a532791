/-! SOUNDNESS, 2: what moves values about, branches, switches -/
def am_len (i : ClassFile.Instr) : Nat := match i with
  | .iload _ => 2
  | .lload _ => 2
  | .aload _ => 2
  | .istore _ => 2
  | .lstore _ => 2
  | .astore _ => 2
  | .bipush _ => 2
  | .ldc _ => 2
  | .newarray _ => 2
  | .sipush _ => 3
  | .ldc_w _ => 3
  | .ldc2_w _ => 3
  | .iinc _ _ => 3
  | .goto _ => 3
  | .ifCond _ _ => 3
  | .if_icmp _ _ => 3
  | .if_acmp _ _ => 3
  | .ifnull _ => 3
  | .ifnonnull _ => 3
  | .getfield _ => 3
  | .putfield _ => 3
  | .getstatic _ => 3
  | .new _ => 3
  | .anewarray _ => 3
  | .checkcast _ => 3
  | .invokestatic _ => 3
  | .invokespecial _ => 3
  | .invokevirtual _ => 3
  | _ => 1
def am_ok0 (own : String) (i : ClassFile.Instr) (k : Value) : Prop := match i with
  | .iconst n => ∃ v, k = .int v ∧ Int32.ofInt n = v
  | .bipush n => ∃ v, k = .int v ∧ (Int8.ofInt n).toInt32 = v
  | .sipush n => ∃ v, k = .int v ∧ (Int16.ofInt n).toInt32 = v
  | .lconst n => ∃ v, k = .long v ∧ Int64.ofNat (n : Nat) = v
  | .ldc ix => ∃ v, k = .int v ∧ Jvm.Cond.constant own ix v ∈ lw_tbl
  | .ldc_w ix => ∃ v, k = .int v ∧ Jvm.Cond.constant own ix v ∈ lw_tbl
  | .ldc2_w ix => ∃ v, k = .long v ∧ Jvm.Cond.constantLong own ix v ∈ lw_tbl
  | .iinc _ n => ∃ v, k = .int v ∧ Int32.ofInt n = v
  | _ => True
theorem am_li_s {v : Value} {ls st ls1 st1 : List Value} (h : am_li v ls st = some (ls1, st1)) : ∃ x, v = .int x ∧ ls1 = ls ∧ st1 = .int x :: st := by
  unfold am_li at h
  split at h
  · simp at h; exact ⟨_, rfl, h.1.symm, h.2.symm⟩
  · cases h
theorem am_ll_s {v : Value} {ls st ls1 st1 : List Value} (h : am_ll v ls st = some (ls1, st1)) : ∃ x, v = .long x ∧ ls1 = ls ∧ st1 = .long x :: st := by
  unfold am_ll at h
  split at h
  · simp at h; exact ⟨_, rfl, h.1.symm, h.2.symm⟩
  · cases h
theorem am_la_s {v : Value} {ls st ls1 st1 : List Value} (h : am_la v ls st = some (ls1, st1)) : am_isr v = true ∧ ls1 = ls ∧ st1 = v :: st := by
  unfold am_la at h
  split at h
  · simp at h; exact ⟨rfl, h.1.symm, h.2.symm⟩
  · simp at h; exact ⟨rfl, h.1.symm, h.2.symm⟩
  · simp at h; exact ⟨rfl, h.1.symm, h.2.symm⟩
  · cases h
theorem am_si_s {i : Nat} {ls st ls1 st1 : List Value} (h : am_si i ls st = some (ls1, st1)) : ∃ x, st = .int x :: st1 ∧ i < ls.length ∧ ls1 = am_s1 ls i (.int x) := by
  unfold am_si at h
  split at h
  · split at h
    · simp at h; exact ⟨_, by rw [h.2], by assumption, h.1.symm⟩
    · cases h
  · cases h
theorem am_sl_s {i : Nat} {ls st ls1 st1 : List Value} (h : am_sl i ls st = some (ls1, st1)) : ∃ x, st = .long x :: st1 ∧ i + 1 < ls.length ∧ ls1 = am_s2 ls i (.long x) := by
  unfold am_sl at h
  split at h
  · split at h
    · simp at h; exact ⟨_, by rw [h.2], by assumption, h.1.symm⟩
    · cases h
  · cases h
theorem am_sa_s {i : Nat} {ls st ls1 st1 : List Value} (h : am_sa i ls st = some (ls1, st1)) : ∃ v, am_isr v = true ∧ st = v :: st1 ∧ i < ls.length ∧ ls1 = am_s1 ls i v := by
  unfold am_sa at h
  split at h
  · split at h
    · simp at h; exact ⟨_, rfl, by rw [h.2], by assumption, h.1.symm⟩
    · cases h
  · split at h
    · simp at h; exact ⟨_, rfl, by rw [h.2], by assumption, h.1.symm⟩
    · cases h
  · split at h
    · simp at h; exact ⟨_, rfl, by rw [h.2], by assumption, h.1.symm⟩
    · cases h
  · cases h
theorem am_ii_s {f : Int32 → Int32 → Int32} {ls st ls1 st1 : List Value} (h : am_ii f ls st = some (ls1, st1)) : ∃ x y s, st = .int y :: .int x :: s ∧ ls1 = ls ∧ st1 = .int (f x y) :: s := by
  unfold am_ii at h
  split at h
  · simp at h; exact ⟨_, _, _, rfl, h.1.symm, h.2.symm⟩
  · cases h
theorem am_ll2_s {f : Int64 → Int64 → Int64} {ls st ls1 st1 : List Value} (h : am_ll2 f ls st = some (ls1, st1)) : ∃ x y s, st = .long y :: .long x :: s ∧ ls1 = ls ∧ st1 = .long (f x y) :: s := by
  unfold am_ll2 at h
  split at h
  · simp at h; exact ⟨_, _, _, rfl, h.1.symm, h.2.symm⟩
  · cases h
theorem am_vs.i {tk : Nat → Value} {ad : Nat → Nat} {nx : Nat} {x : Int32} {s t : List Value} (h : am_vs tk ad nx (.int x :: s) t) : ∃ t', t = .int x :: t' ∧ am_vs tk ad nx s t' := by
  obtain ⟨u, t', h1, h2, h3⟩ := h
  simp only [am_vr] at h2
  subst h2
  exact ⟨t', h1, h3⟩
theorem am_vs.l {tk : Nat → Value} {ad : Nat → Nat} {nx : Nat} {x : Int64} {s t : List Value} (h : am_vs tk ad nx (.long x :: s) t) : ∃ t', t = .long x :: t' ∧ am_vs tk ad nx s t' := by
  obtain ⟨u, t', h1, h2, h3⟩ := h
  simp only [am_vr] at h2
  subst h2
  exact ⟨t', h1, h3⟩
theorem am_vs.r {tk : Nat → Value} {ad : Nat → Nat} {nx : Nat} {a : Nat} {s t : List Value} (h : am_vs tk ad nx (.ref a :: s) t) : a < nx ∧ ∃ t', t = .ref (ad a) :: t' ∧ am_vs tk ad nx s t' := by
  obtain ⟨u, t', h1, h2, h3⟩ := h
  simp only [am_vr] at h2
  obtain ⟨h2, h4⟩ := h2
  subst h4
  exact ⟨h2, t', h1, h3⟩
theorem am_vs.pi {tk : Nat → Value} {ad : Nat → Nat} {nx : Nat} {x : Int32} {s t : List Value} (h : am_vs tk ad nx s t) : am_vs tk ad nx (.int x :: s) (.int x :: t) := ⟨_, _, rfl, rfl, h⟩
theorem am_vs.pl {tk : Nat → Value} {ad : Nat → Nat} {nx : Nat} {x : Int64} {s t : List Value} (h : am_vs tk ad nx s t) : am_vs tk ad nx (.long x :: s) (.long x :: t) := ⟨_, _, rfl, rfl, h⟩
theorem am_isr_w {tk : Nat → Value} {ad : Nat → Nat} {nx : Nat} {v w : Value} (hv : am_isr v = true) (h : am_vr tk ad nx v w) : w = .null ∨ ∃ q, w = .ref q := by
  cases v <;> simp [am_isr] at hv
  · exact Or.inl h
  · exact Or.inr ⟨_, h.2⟩
  · rcases h with ⟨rfl, h | h⟩
    · exact Or.inr h
    · exact Or.inl h
theorem am_isr_ne {v : Value} (hv : am_isr v = true) : v ≠ .float 0 := by
  intro h; subst h; cases hv
theorem am_acmp_s {cd : ClassFile.ACond} {o : Int} {st st1 : List Value} {b : Bool} (h : am_b (.if_acmp cd o) st = some (b, st1)) : (cd = .eq ∧ ∃ s, st = .retAddr 1 :: .retAddr 1 :: s ∧ b = true ∧ st1 = s) ∨ (cd = .eq ∧ ∃ a s, st = .retAddr 1 :: .ref a :: s ∧ b = false ∧ st1 = s) := by
  cases cd
  · simp only [am_b] at h
    split at h
    all_goals first
      | (cases h; done)
      | (split at h
         · rename_i hc
           obtain ⟨h1, h2⟩ := hc
           subst h1; subst h2
           cases h
           exact Or.inl ⟨rfl, _, rfl, rfl, rfl⟩
         · cases h)
      | (split at h
         · rename_i hc
           subst hc
           cases h
           exact Or.inr ⟨rfl, _, _, rfl, rfl, rfl⟩
         · cases h)
  · simp [am_b] at h
section AMP
variable {p : Program} {l : Launch} {e : Env} {R : Room} {s : State} {m : MethodId} {args : Array Value} {below : List Frame} {meth : Method} {c : Code} {H : Heap} {locs : List Loc} {cells slots : Nat} {Q : State → Prop}
variable {cc : ByteArray} {pc nL nx : Nat} {tk : Nat → Value} {ad : Nat → Nat} {ls1 st1 ls st : List Value} {ls' : Array Slot} {st' : List Value}
set_option maxHeartbeats 4000000 in
theorem am_snd_p (hx : p.tables.exec = Jvm.exec) (hb : c.code = cc) {own : String} (hown : s.vm.findClass own = some m.cls) (hts : ∀ w ∈ lw_tbl, goodWord w = true → w.before args s = true) {i : ClassFile.Instr} {k : Value} (h : am_p i k ls st = some (ls1, st1)) (hdg : decode cc pc = .ok (i, am_len i)) (hk : am_ok0 own i k) (hL : am_L tk ad nx ls nL ls') (hst : am_vs tk ad nx st st')
    (kk : ∀ (l1 : Array Slot) (s1 : List Value), am_L tk ad nx ls1 nL l1 → am_vs tk ad nx st1 s1 → W p l e R s m args below meth c H locs cells slots Q (F0 m (pc + am_len i) l1 s1)) : W p l e R s m args below meth c H locs cells slots Q (F0 m pc ls' st') := by
  have hlen := hL.1
  cases i <;> simp only [am_p] at h <;> try (cases h; done)
  case iload j =>
    obtain ⟨x, hv, rfl, rfl⟩ := am_li_s h
    obtain ⟨w, h1, h2⟩ := hL.at hv (by simp)
    simp only [am_vr] at h1; subst h1
    exact lv_iload hx hb hdg h2 (kk _ _ hL hst.pi)
  case iload_n j =>
    obtain ⟨x, hv, rfl, rfl⟩ := am_li_s h
    obtain ⟨w, h1, h2⟩ := hL.at hv (by simp)
    simp only [am_vr] at h1; subst h1
    exact lv_iload_n hx hb hdg rfl h2 (kk _ _ hL hst.pi)
  case lload j =>
    obtain ⟨x, hv, rfl, rfl⟩ := am_ll_s h
    obtain ⟨w, h1, h2⟩ := hL.at hv (by simp)
    simp only [am_vr] at h1; subst h1
    exact lv_lload hx hb hdg h2 (kk _ _ hL hst.pl)
  case lload_n j =>
    obtain ⟨x, hv, rfl, rfl⟩ := am_ll_s h
    obtain ⟨w, h1, h2⟩ := hL.at hv (by simp)
    simp only [am_vr] at h1; subst h1
    exact lv_lload_n hx hb hdg rfl h2 (kk _ _ hL hst.pl)
  case aload j =>
    obtain ⟨hr, rfl, rfl⟩ := am_la_s h
    obtain ⟨w, h1, h2⟩ := hL.at rfl (am_isr_ne hr)
    have k1 := kk _ _ hL ⟨_, _, rfl, h1, hst⟩
    rcases am_isr_w hr h1 with rfl | ⟨q, rfl⟩
    · exact lv_aloadN hx hb hdg h2 k1
    · exact lv_aload hx hb hdg h2 k1
  case aload_n j =>
    obtain ⟨hr, rfl, rfl⟩ := am_la_s h
    obtain ⟨w, h1, h2⟩ := hL.at rfl (am_isr_ne hr)
    have k1 := kk _ _ hL ⟨_, _, rfl, h1, hst⟩
    rcases am_isr_w hr h1 with rfl | ⟨q, rfl⟩
    · exact lv_aload_nN hx hb hdg rfl h2 k1
    · exact lv_aload_n hx hb hdg rfl h2 k1
  case istore j =>
    obtain ⟨x, rfl, hj, rfl⟩ := am_si_s h
    obtain ⟨t', rfl, hs1⟩ := hst.i
    exact lv_istore hx hb hdg (am_all_has hL) (by omega) rfl (fun l2 h2 => kk _ _ (am_st1 hL rfl h2) hs1)
  case istore_n j =>
    obtain ⟨x, rfl, hj, rfl⟩ := am_si_s h
    obtain ⟨t', rfl, hs1⟩ := hst.i
    exact lv_istore_n hx hb hdg rfl (am_all_has hL) (by omega) rfl (fun l2 h2 => kk _ _ (am_st1 hL rfl h2) hs1)
  case lstore j =>
    obtain ⟨x, rfl, hj, rfl⟩ := am_sl_s h
    obtain ⟨t', rfl, hs1⟩ := hst.l
    exact lv_lstore hx hb hdg (am_all_has hL) (by omega) rfl (fun l2 h2 => kk _ _ (am_st2 hL rfl h2) hs1)
  case lstore_n j =>
    obtain ⟨x, rfl, hj, rfl⟩ := am_sl_s h
    obtain ⟨t', rfl, hs1⟩ := hst.l
    exact lv_lstore_n hx hb hdg rfl (am_all_has hL) (by omega) rfl (fun l2 h2 => kk _ _ (am_st2 hL rfl h2) hs1)
  case astore j =>
    obtain ⟨v, hr, rfl, hj, rfl⟩ := am_sa_s h
    obtain ⟨w, t', rfl, h1, hs1⟩ := hst
    have hq := am_isr_w hr h1
    have k1 : ∀ l2, lv_has l2 nL ((j, w) :: (am_all ls').filter (fun q => !(q.1 == j) && !(q.1 + 1 == j && q.2.category == 2))) → _ := fun l2 h2 => kk _ _ (am_st1 hL h1 h2) hs1
    rcases hq with rfl | ⟨q, rfl⟩
    · exact lv_astoreN hx hb hdg (am_all_has hL) (by omega) rfl k1
    · exact lv_astore hx hb hdg (am_all_has hL) (by omega) rfl k1
  case astore_n j =>
    obtain ⟨v, hr, rfl, hj, rfl⟩ := am_sa_s h
    obtain ⟨w, t', rfl, h1, hs1⟩ := hst
    have hq := am_isr_w hr h1
    have k1 : ∀ l2, lv_has l2 nL ((j.val, w) :: (am_all ls').filter (fun q => !(q.1 == j.val) && !(q.1 + 1 == j.val && q.2.category == 2))) → _ := fun l2 h2 => kk _ _ (am_st1 hL h1 h2) hs1
    rcases hq with rfl | ⟨q, rfl⟩
    · exact lv_astore_nN hx hb hdg rfl (am_all_has hL) (by omega) rfl k1
    · exact lv_astore_n hx hb hdg rfl (am_all_has hL) (by omega) rfl k1
  case iconst n =>
    obtain ⟨v, rfl, hv⟩ := hk
    simp at h; obtain ⟨rfl, rfl⟩ := h
    exact lv_iconst hx hb hdg hv (kk _ _ hL hst.pi)
  case bipush n =>
    obtain ⟨v, rfl, hv⟩ := hk
    simp at h; obtain ⟨rfl, rfl⟩ := h
    exact lv_bipush hx hb hdg hv (kk _ _ hL hst.pi)
  case sipush n =>
    obtain ⟨v, rfl, hv⟩ := hk
    simp at h; obtain ⟨rfl, rfl⟩ := h
    exact lv_sipush hx hb hdg hv (kk _ _ hL hst.pi)
  case lconst n =>
    obtain ⟨v, rfl, hv⟩ := hk
    simp at h; obtain ⟨rfl, rfl⟩ := h
    exact lv_lconst hx hb hdg hv (kk _ _ hL hst.pl)
  case ldc ix =>
    obtain ⟨v, rfl, hv⟩ := hk
    simp at h; obtain ⟨rfl, rfl⟩ := h
    exact lv_ldc hx hb hown (hts _ hv rfl) hdg (kk _ _ hL hst.pi)
  case ldc_w ix =>
    obtain ⟨v, rfl, hv⟩ := hk
    simp at h; obtain ⟨rfl, rfl⟩ := h
    exact lv_ldcw hx hb hown (hts _ hv rfl) hdg (kk _ _ hL hst.pi)
  case ldc2_w ix =>
    obtain ⟨v, rfl, hv⟩ := hk
    simp at h; obtain ⟨rfl, rfl⟩ := h
    exact lv_ldc2 hx hb hown (hts _ hv rfl) hdg (kk _ _ hL hst.pl)
  case aconst_null =>
    simp at h; obtain ⟨rfl, rfl⟩ := h
    exact lv_null hx hb hdg (kk _ _ hL ⟨_, _, rfl, rfl, hst⟩)
  case iinc j n =>
    obtain ⟨v, rfl, hv⟩ := hk
    split at h
    · rename_i x y e1 e2
      cases e2
      split at h
      · simp at h; obtain ⟨rfl, rfl⟩ := h
        obtain ⟨w, h1, h2⟩ := hL.at e1 (by simp)
        simp only [am_vr] at h1; subst h1
        obtain ⟨q, hq, hq2⟩ := List.getElem_of_mem (am_all_mem.mpr h2)
        exact lv_iinc hx hb hdg (am_all_has hL) (k := q) (List.getElem?_eq_some_iff.mpr ⟨hq, hq2⟩) (by rw [hv]) (by omega) rfl (fun l2 h2 => kk _ _ (am_st1 hL rfl h2) hst)
      · cases h
    · cases h
  case iadd => obtain ⟨x, y, s, rfl, rfl, rfl⟩ := am_ii_s h; obtain ⟨t, rfl, hs1⟩ := hst.i; obtain ⟨t, rfl, hs2⟩ := hs1.i; exact lv_iadd hx hb hdg (kk _ _ hL hs2.pi)
  case isub => obtain ⟨x, y, s, rfl, rfl, rfl⟩ := am_ii_s h; obtain ⟨t, rfl, hs1⟩ := hst.i; obtain ⟨t, rfl, hs2⟩ := hs1.i; exact lv_isub hx hb hdg (kk _ _ hL hs2.pi)
  case imul => obtain ⟨x, y, s, rfl, rfl, rfl⟩ := am_ii_s h; obtain ⟨t, rfl, hs1⟩ := hst.i; obtain ⟨t, rfl, hs2⟩ := hs1.i; exact lv_imul hx hb hdg (kk _ _ hL hs2.pi)
  case iand => obtain ⟨x, y, s, rfl, rfl, rfl⟩ := am_ii_s h; obtain ⟨t, rfl, hs1⟩ := hst.i; obtain ⟨t, rfl, hs2⟩ := hs1.i; exact lv_iand hx hb hdg (kk _ _ hL hs2.pi)
  case ior => obtain ⟨x, y, s, rfl, rfl, rfl⟩ := am_ii_s h; obtain ⟨t, rfl, hs1⟩ := hst.i; obtain ⟨t, rfl, hs2⟩ := hs1.i; exact lv_ior hx hb hdg (kk _ _ hL hs2.pi)
  case ixor => obtain ⟨x, y, s, rfl, rfl, rfl⟩ := am_ii_s h; obtain ⟨t, rfl, hs1⟩ := hst.i; obtain ⟨t, rfl, hs2⟩ := hs1.i; exact lv_ixor hx hb hdg (kk _ _ hL hs2.pi)
  case ishl => obtain ⟨x, y, s, rfl, rfl, rfl⟩ := am_ii_s h; obtain ⟨t, rfl, hs1⟩ := hst.i; obtain ⟨t, rfl, hs2⟩ := hs1.i; exact lv_ishl hx hb hdg (kk _ _ hL hs2.pi)
  case ishr => obtain ⟨x, y, s, rfl, rfl, rfl⟩ := am_ii_s h; obtain ⟨t, rfl, hs1⟩ := hst.i; obtain ⟨t, rfl, hs2⟩ := hs1.i; exact lv_ishr hx hb hdg (kk _ _ hL hs2.pi)
  case iushr => obtain ⟨x, y, s, rfl, rfl, rfl⟩ := am_ii_s h; obtain ⟨t, rfl, hs1⟩ := hst.i; obtain ⟨t, rfl, hs2⟩ := hs1.i; exact lv_iushr hx hb hdg rfl (kk _ _ hL hs2.pi)
  case ladd => obtain ⟨x, y, s, rfl, rfl, rfl⟩ := am_ll2_s h; obtain ⟨t, rfl, hs1⟩ := hst.l; obtain ⟨t, rfl, hs2⟩ := hs1.l; exact lv_ladd hx hb hdg (kk _ _ hL hs2.pl)
  case lsub => obtain ⟨x, y, s, rfl, rfl, rfl⟩ := am_ll2_s h; obtain ⟨t, rfl, hs1⟩ := hst.l; obtain ⟨t, rfl, hs2⟩ := hs1.l; exact lv_lsub hx hb hdg (kk _ _ hL hs2.pl)
  case lmul => obtain ⟨x, y, s, rfl, rfl, rfl⟩ := am_ll2_s h; obtain ⟨t, rfl, hs1⟩ := hst.l; obtain ⟨t, rfl, hs2⟩ := hs1.l; exact lv_lmul hx hb hdg (kk _ _ hL hs2.pl)
  case land => obtain ⟨x, y, s, rfl, rfl, rfl⟩ := am_ll2_s h; obtain ⟨t, rfl, hs1⟩ := hst.l; obtain ⟨t, rfl, hs2⟩ := hs1.l; exact lv_land hx hb hdg (kk _ _ hL hs2.pl)
  case lor => obtain ⟨x, y, s, rfl, rfl, rfl⟩ := am_ll2_s h; obtain ⟨t, rfl, hs1⟩ := hst.l; obtain ⟨t, rfl, hs2⟩ := hs1.l; exact lv_lor hx hb hdg (kk _ _ hL hs2.pl)
  case idiv =>
    split at h
    · split at h
      · cases h
      · simp at h; obtain ⟨rfl, rfl⟩ := h
        obtain ⟨t, rfl, hs1⟩ := hst.i; obtain ⟨t, rfl, hs2⟩ := hs1.i
        exact lv_idiv hx hb hdg (by assumption) (kk _ _ hL hs2.pi)
    · cases h
  case irem =>
    split at h
    · split at h
      · cases h
      · simp at h; obtain ⟨rfl, rfl⟩ := h
        obtain ⟨t, rfl, hs1⟩ := hst.i; obtain ⟨t, rfl, hs2⟩ := hs1.i
        exact lv_irem hx hb hdg (by assumption) (kk _ _ hL hs2.pi)
    · cases h
  case ldiv =>
    split at h
    · split at h
      · cases h
      · simp at h; obtain ⟨rfl, rfl⟩ := h
        obtain ⟨t, rfl, hs1⟩ := hst.l; obtain ⟨t, rfl, hs2⟩ := hs1.l
        exact lv_ldiv hx hb hdg (by assumption) (kk _ _ hL hs2.pl)
    · cases h
  case lrem =>
    split at h
    · split at h
      · cases h
      · simp at h; obtain ⟨rfl, rfl⟩ := h
        obtain ⟨t, rfl, hs1⟩ := hst.l; obtain ⟨t, rfl, hs2⟩ := hs1.l
        exact lv_lrem hx hb hdg (by assumption) (kk _ _ hL hs2.pl)
    · cases h
  case lshl =>
    split at h
    · simp at h; obtain ⟨rfl, rfl⟩ := h
      obtain ⟨t, rfl, hs1⟩ := hst.i; obtain ⟨t, rfl, hs2⟩ := hs1.l
      exact lv_lshl hx hb hdg rfl (kk _ _ hL hs2.pl)
    · cases h
  case lushr =>
    split at h
    · simp at h; obtain ⟨rfl, rfl⟩ := h
      obtain ⟨t, rfl, hs1⟩ := hst.i; obtain ⟨t, rfl, hs2⟩ := hs1.l
      exact lv_lushr hx hb hdg rfl (kk _ _ hL hs2.pl)
    · cases h
  case lcmp =>
    split at h
    · simp at h; obtain ⟨rfl, rfl⟩ := h
      obtain ⟨t, rfl, hs1⟩ := hst.l; obtain ⟨t, rfl, hs2⟩ := hs1.l
      exact W.lcmp hx hb hdg (kk _ _ hL hs2.pi)
    · cases h
  case i2l =>
    split at h
    · simp at h; obtain ⟨rfl, rfl⟩ := h
      obtain ⟨t, rfl, hs1⟩ := hst.i
      exact lv_i2l hx hb hdg rfl (kk _ _ hL hs1.pl)
    · cases h
  case l2i =>
    split at h
    · simp at h; obtain ⟨rfl, rfl⟩ := h
      obtain ⟨t, rfl, hs1⟩ := hst.l
      exact lv_l2i hx hb hdg rfl (kk _ _ hL hs1.pi)
    · cases h
  case i2b =>
    split at h
    · simp at h; obtain ⟨rfl, rfl⟩ := h
      obtain ⟨t, rfl, hs1⟩ := hst.i
      exact lv_i2b hx hb hdg rfl (kk _ _ hL hs1.pi)
    · cases h
  case i2c =>
    split at h
    · simp at h; obtain ⟨rfl, rfl⟩ := h
      obtain ⟨t, rfl, hs1⟩ := hst.i
      exact lv_i2c hx hb hdg rfl (kk _ _ hL hs1.pi)
    · cases h
  case dup =>
    split at h
    · split at h
      · rename_i hc
        simp at h; obtain ⟨rfl, rfl⟩ := h
        obtain ⟨w, t, rfl, h1, hs1⟩ := hst
        exact lv_dup hx hb hdg (h1.c1 hc) (kk _ _ hL ⟨_, _, rfl, h1, _, _, rfl, h1, hs1⟩)
      · cases h
    · cases h
  case pop =>
    split at h
    · split at h
      · rename_i hc
        simp at h; obtain ⟨rfl, rfl⟩ := h
        obtain ⟨w, t, rfl, h1, hs1⟩ := hst
        exact lv_pop hx hb hdg (h1.c1 hc) (kk _ _ hL hs1)
      · cases h
    · cases h
  case dup_x1 =>
    split at h
    · split at h
      · rename_i hc
        simp at h hc; obtain ⟨rfl, rfl⟩ := h
        obtain ⟨w, t, rfl, h1, w2, t2, rfl, h2, hs1⟩ := hst
        exact lv_dup_x1 hx hb hdg (h1.c1 hc.1) (h2.c1 hc.2) (kk _ _ hL ⟨_, _, rfl, h1, _, _, rfl, h2, _, _, rfl, h1, hs1⟩)
      · cases h
    · cases h
  case dup2 =>
    split at h
    · split at h
      · rename_i hc
        simp at h hc; obtain ⟨rfl, rfl⟩ := h
        obtain ⟨w, t, rfl, h1, w2, t2, rfl, h2, hs1⟩ := hst
        exact lv_dup2_11 hx hb hdg (h1.c1 hc.1) (h2.c1 hc.2) (kk _ _ hL ⟨_, _, rfl, h1, _, _, rfl, h2, _, _, rfl, h1, _, _, rfl, h2, hs1⟩)
      · cases h
    · cases h
/-- branches -/
theorem am_snd_b (hx : p.tables.exec = Jvm.exec) (hb : c.code = cc) {i : ClassFile.Instr} {b : Bool} (h : am_b i st = some (b, st1)) (hdg : decode cc pc = .ok (i, am_len i)) {tgt : Nat}
    (ht : match i with | .goto o => (pc : Int) + o = tgt | .ifCond _ o => (pc : Int) + o = tgt | .if_icmp _ o => (pc : Int) + o = tgt | .if_acmp _ o => (pc : Int) + o = tgt | .ifnull o => (pc : Int) + o = tgt | .ifnonnull o => (pc : Int) + o = tgt | _ => True)
    (hne : ∀ a, a < nx → tk 1 ≠ .ref (ad a)) (h1r : ∃ q, tk 1 = .ref q) (hst : am_vs tk ad nx st st')
    (kk : ∀ (s1 : List Value), am_vs tk ad nx st1 s1 → (b = true → W p l e R s m args below meth c H locs cells slots Q (F0 m tgt ls' s1)) ∧ (b = false → W p l e R s m args below meth c H locs cells slots Q (F0 m (pc + am_len i) ls' s1))) : W p l e R s m args below meth c H locs cells slots Q (F0 m pc ls' st') := by
  cases i <;> simp only [am_b] at h <;> try (cases h; done)
  case goto o =>
    simp at h; obtain ⟨rfl, rfl⟩ := h
    exact lv_goto hx hb hdg ht ((kk _ hst).1 rfl)
  case ifCond cd o =>
    split at h
    · simp at h; obtain ⟨rfl, rfl⟩ := h
      obtain ⟨t, rfl, hs1⟩ := hst.i
      have kk := kk _ hs1
      cases cd
      · exact lv_if_eq hx hb hdg ht (fun q => kk.1 (by simp [am_cmp, q])) (fun q => kk.2 (by simp [am_cmp, q]))
      · exact lv_if_ne hx hb hdg ht (fun q => kk.1 (by simp [am_cmp, q])) (fun q => kk.2 (by simp [am_cmp, q]))
      · exact lv_if_lt hx hb hdg ht (fun q => kk.1 (by simp [am_cmp, q])) (fun q => kk.2 (by simp [am_cmp, q]))
      · exact lv_if_ge hx hb hdg ht (fun q => kk.1 (by simp [am_cmp, q])) (fun q => kk.2 (by simp [am_cmp, q]))
      · exact lv_if_gt hx hb hdg ht (fun q => kk.1 (by simp [am_cmp, q])) (fun q => kk.2 (by simp [am_cmp, q]))
      · exact lv_if_le hx hb hdg ht (fun q => kk.1 (by simp [am_cmp, q])) (fun q => kk.2 (by simp [am_cmp, q]))
    · cases h
  case if_icmp cd o =>
    split at h
    · simp at h; obtain ⟨rfl, rfl⟩ := h
      obtain ⟨t, rfl, hs1⟩ := hst.i
      obtain ⟨t, rfl, hs2⟩ := hs1.i
      have kk := kk _ hs2
      cases cd
      · exact lv_icmp_eq hx hb hdg ht (fun q => kk.1 (by simp [am_cmp, q])) (fun q => kk.2 (by simp [am_cmp, q]))
      · exact lv_icmp_ne hx hb hdg ht (fun q => kk.1 (by simp [am_cmp, q])) (fun q => kk.2 (by simp [am_cmp, q]))
      · exact lv_icmp_lt hx hb hdg ht (fun q => kk.1 (by simp [am_cmp, q])) (fun q => kk.2 (by simp [am_cmp, q]))
      · exact lv_icmp_ge hx hb hdg ht (fun q => kk.1 (by simp [am_cmp, q])) (fun q => kk.2 (by simp [am_cmp, q]))
      · exact lv_icmp_gt hx hb hdg ht (fun q => kk.1 (by simp [am_cmp, q])) (fun q => kk.2 (by simp [am_cmp, q]))
      · exact lv_icmp_le hx hb hdg ht (fun q => kk.1 (by simp [am_cmp, q])) (fun q => kk.2 (by simp [am_cmp, q]))
    · cases h
  case ifnull o =>
    split at h
    · simp at h; obtain ⟨rfl, rfl⟩ := h
      obtain ⟨w, t, rfl, h1, hs1⟩ := hst
      simp only [am_vr] at h1; subst h1
      exact lv_ifnullN hx hb hdg ht ((kk _ hs1).1 rfl)
    · simp at h; obtain ⟨rfl, rfl⟩ := h
      obtain ⟨-, t, rfl, hs2⟩ := hst.r
      exact lv_ifnull hx hb hdg ((kk _ hs2).2 rfl)
    · cases h
  case ifnonnull o =>
    split at h
    · simp at h; obtain ⟨rfl, rfl⟩ := h
      obtain ⟨w, t, rfl, h1, hs1⟩ := hst
      simp only [am_vr] at h1; subst h1
      exact lv_ifnonnullN hx hb hdg ((kk _ hs1).2 rfl)
    · simp at h; obtain ⟨rfl, rfl⟩ := h
      obtain ⟨-, t, rfl, hs2⟩ := hst.r
      exact lv_ifnonnull hx hb hdg ht ((kk _ hs2).1 rfl)
    · cases h
  case if_acmp cd o =>
    obtain ⟨q1, hq1⟩ := h1r
    rcases am_acmp_s (o := o) (cd := cd) (by simp only [am_b]; exact h) with ⟨rfl, z, rfl, rfl, rfl⟩ | ⟨rfl, a, z, rfl, rfl, rfl⟩
    · obtain ⟨w, t, rfl, h1, w2, t2, rfl, h2, hs1⟩ := hst
      simp only [am_vr] at h1 h2
      rw [h1.1, h2.1, hq1]
      exact lv_acmp_eq (rx := some q1) (ry := some q1) hx hb hdg ht (fun _ => (kk _ hs1).1 rfl) (fun q => absurd rfl q)
    · obtain ⟨w, t, rfl, h1, hs2⟩ := hst
      obtain ⟨ha, t2, rfl, hs3⟩ := hs2.r
      simp only [am_vr] at h1
      rw [h1.1, hq1]
      exact lv_acmp_eq (rx := some (ad a)) (ry := some q1) hx hb hdg ht (fun q => by cases q; exact absurd hq1 (hne _ ha)) (fun _ => (kk _ hs3).2 rfl)
end AMP
