/-! SOUNDNESS, 3: the heap -/
def lw_G : List Cond := lw_tbl.filter goodWord
theorem lw_G_mem {w : Cond} : w ∈ lw_G ↔ w ∈ lw_tbl ∧ goodWord w = true := by unfold lw_G; exact List.mem_filter
/-- words that aren't good, but stay -/
def am_nw (w : Cond) : Bool := match w with
  | .fieldLinkNest _ _ _ _ _ _ => true
  | .methodLinkNest _ _ _ _ => true
  | .castable _ _ => true
  | .declares _ => true
  | _ => false
theorem am_cls_1 : ∀ q ∈ vwCl, ∀ w ∈ u_ws q.1 q.2.1 q.2.2, w ∈ lw_G := by
  have h : vwCl.all (fun q => (u_ws q.1 q.2.1 q.2.2).all (fun w => decide (w ∈ lw_tbl) && goodWord w)) = true := by decide +kernel
  intro q hq w hw
  have h1 := List.all_eq_true.mp (List.all_eq_true.mp h q hq) w hw
  simp only [Bool.and_eq_true, decide_eq_true_eq] at h1
  exact lw_G_mem.mpr h1
theorem am_cls_2 : ∀ q ∈ vwCl, (∃ ty0 : Nat → FieldType, ∀ k, k < q.2.2 → parseFieldDescriptor (q.2.1 k).2.2.1 = some (ty0 k)) ∧ ∀ a, a < q.2.2 → ∀ b, b < q.2.2 → a ≠ b → (q.2.1 a).2.1 ≠ (q.2.1 b).2.1 := by
  intro q hq
  simp only [vwCl, List.mem_cons, List.not_mem_nil, or_false] at hq
  rcases hq with rfl | rfl | rfl | rfl | rfl | rfl | rfl | rfl | rfl | rfl | rfl | rfl | rfl
  · exact ⟨⟨_, tyJx4a65c_ok⟩, nmJx4a65c⟩
  · exact ⟨⟨_, tyX0_ok⟩, nmX0⟩
  · exact ⟨⟨_, tyX1_ok⟩, nmX1⟩
  · exact ⟨⟨_, tyX2_ok⟩, nmX2⟩
  · exact ⟨⟨_, tyX3_ok⟩, nmX3⟩
  · exact ⟨⟨_, tyX4_ok⟩, nmX4⟩
  · exact ⟨⟨_, tyX6_ok⟩, nmX6⟩
  · exact ⟨⟨_, tyX7_ok⟩, nmX7⟩
  · exact ⟨⟨_, tyX8_ok⟩, nmX8⟩
  · exact ⟨⟨_, tyX9_ok⟩, nmX9⟩
  · exact ⟨⟨_, tyX10_ok⟩, nmX10⟩
  · exact ⟨⟨_, tyX11_ok⟩, nmX11⟩
  · exact ⟨⟨_, tyX12_ok⟩, nmX12⟩
def am_tys (cA : Nat → ClassId) : List (ClassId × FieldType) := [(cA 0, .int), (cA 1, .byte), (cA 2, .boolean), (cA 3, .long), (cA 4, .object "java/lang/Object")]
/-- what lies outside the world, and is only read -/
def am_St (X : am_X) (tk : Nat → Value) (A : Nat → Prop) (s : State) (H : Heap) : Prop :=
  (∃ b, tk 0 = .ref b ∧ va_X b X.1 X.2 s H ∧ b < H.size ∧ ¬ A b) ∧
  (∃ q, tk 1 = .ref q ∧ q < H.size ∧ ¬ A q ∧ va_T (.object "java/lang/Object") q 0 (fun _ => .null) A s H ∧ va_Z "java/util/ArrayList" "DEFAULTCAPACITY_EMPTY_ELEMENTDATA" "[Ljava/lang/Object;" (.ref q) A s H) ∧
  (∃ adK adV : Nat → Nat, vk_S 2 [1, 4] [[121], [112, 100, 115, 110]] adK adV A s H ∧ tk 2 = .ref (adK 0) ∧ tk 3 = .ref (adK 1) ∧ tk 4 = .ref (adV 0) ∧ tk 5 = .ref (adV 1) ∧ vk_R "FlowerPotsModel" 26 "y" (adK 0) s ∧ vk_R "FlowerPotsModel" 32 "pdsn" (adK 1) s) ∧
  va_Z "java/lang/String" "COMPACT_STRINGS" "Z" (.int 1) A s H ∧
  ((tk 6 = .null ∨ ∃ q, tk 6 = .ref q) ∧ va_Z "jdk/internal/util/Preconditions" "SIOOBE_FORMATTER" "Ljava/util/function/BiFunction;" (tk 6) A s H)
theorem am_tk_rn {X : am_X} {tk : Nat → Value} {A : Nat → Prop} {s : State} {H : Heap} (h : am_St X tk A s H) {j : Nat} (hj : j < 7) : (∃ q, tk j = .ref q) ∨ tk j = .null := by
  obtain ⟨⟨b, h0, -⟩, ⟨q, h1, -⟩, ⟨adK, adV, -, h2, h3, h4, h5, -⟩, -, h6, -⟩ := h
  rcases (show j = 0 ∨ j = 1 ∨ j = 2 ∨ j = 3 ∨ j = 4 ∨ j = 5 ∨ j = 6 by omega) with rfl | rfl | rfl | rfl | rfl | rfl | rfl
  · exact Or.inl ⟨_, h0⟩
  · exact Or.inl ⟨_, h1⟩
  · exact Or.inl ⟨_, h2⟩
  · exact Or.inl ⟨_, h3⟩
  · exact Or.inl ⟨_, h4⟩
  · exact Or.inl ⟨_, h5⟩
  · exact h6.symm
def am_okG (own : String) (ix slot : Nat) (cis : List Nat) : Prop := ∃ ref nm ds, ((Jvm.Cond.fieldLink own ix ref nm ds ∈ lw_tbl) ∨ ∃ host, Jvm.Cond.fieldLinkNest own ix ref nm ds host ∈ lw_tbl) ∧ ∀ ci ∈ cis, ∃ C T N, vwCl[ci]? = some (C, T, N) ∧ slot < N ∧ (T slot).2.1 = nm ∧ (T slot).2.2.1 = ds ∧ ((T slot).1 = ref ∨ Jvm.Cond.sameField ref (T slot).1 nm ds ∈ lw_tbl)
def am_okt (ty : Nat) (ft : FieldType) : Prop := match ty with
  | 0 => ft = .int
  | 1 => ft = .boolean
  | 3 => ft = .long
  | _ => (∃ C, ft = .object C) ∨ ∃ t, ft = .array t
def am_okP (own mname : String) (ix slot ty : Nat) (cis : List Nat) : Prop := ∃ ref nm ds, (Jvm.Cond.fieldLink own ix ref nm ds ∈ lw_tbl) ∧ (∃ ft, parseFieldDescriptor ds = some ft ∧ am_okt ty ft) ∧ ∀ ci ∈ cis, ∃ C T N, vwCl[ci]? = some (C, T, N) ∧ slot < N ∧ (T slot).2.1 = nm ∧ (T slot).2.2.1 = ds ∧ ((T slot).1 = ref ∨ Jvm.Cond.sameField ref (T slot).1 nm ds ∈ lw_tbl) ∧ ((T slot).2.2.2 = false ∨ ((T slot).2.2.2 = true ∧ mname = "<init>" ∧ (T slot).1 = own))
theorem am_fit_w {tk : Nat → Value} {ad : Nat → Nat} {nx ty : Nat} {v w : Value} {ft : FieldType} (hf : am_fit ty v = true) (ht : am_okt ty ft) (h : am_vr tk ad nx v w) : narrow ft w = w ∧ fits ft w = true := by
  unfold am_fit at hf
  split at hf
  · simp only [am_okt] at ht; subst ht
    simp only [am_vr] at h; subst h
    exact ⟨rfl, rfl⟩
  · rename_i x
    simp only [am_okt] at ht; subst ht
    simp only [am_vr] at h; subst h
    refine ⟨?_, hf⟩
    simp only [fits, Bool.or_eq_true, beq_iff_eq] at hf
    rcases hf with rfl | rfl <;> decide
  · simp only [am_okt] at ht
    rcases am_isr_w hf h with rfl | ⟨q, rfl⟩ <;> rcases ht with ⟨C, rfl⟩ | ⟨t, rfl⟩ <;> exact ⟨rfl, rfl⟩
  · simp only [am_okt] at ht; subst ht
    simp only [am_vr] at h; subst h
    exact ⟨rfl, rfl⟩
  · cases hf
section AMH
variable {p : Program} {l : Launch} {e : Env} {R : Room} {s : State} {m : MethodId} {args : Array Value} {below : List Frame} {meth : Method} {c : Code} {H : Heap} {locs : List Loc} {cells slots : Nat} {Q : State → Prop}
variable {cc : ByteArray} {pc : Nat} {tk : Nat → Value} {ad : Nat → Nat} {st : List Value} {ls' : Array Slot} {st' : List Value} {X : am_X} {A : Nat → Prop} {cA : Nat → ClassId} {dC : Nat → ClassId} {dI : Nat → Nat → Nat} {hp : am_H} {ws : va_W} {own : String}
theorem am_lt (hR : am_Rl tk ad cA hp ws) {a ci : Nat} {fs : List Value} (h : hp.1 a = .inr (ci, fs)) (hc : ci < 999) : a < hp.2.1 := by
  rcases Nat.lt_or_ge a hp.2.1 with q | q
  · exact q
  · have := hR.2.2 a q
    rw [h] at this
    cases this
    omega
theorem am_ltA (hR : am_Rl tk ad cA hp ws) {a : Nat} {x : Nat × vp_A} (h : hp.1 a = .inl x) : a < hp.2.1 := by
  rcases Nat.lt_or_ge a hp.2.1 with q | q
  · exact q
  · have := hR.2.2 a q
    rw [h] at this
    cases this
theorem am_obj (hR : am_Rl tk ad cA hp ws) {a ci : Nat} {fs : List Value} (h : hp.1 a = .inr (ci, fs)) (ha : a < hp.2.1) : ∃ fs', ws[a]? = some (ad a, .inr (ci, fs')) ∧ am_vs tk ad hp.2.1 fs fs' := by
  obtain ⟨e, h1, h2⟩ := hR.get ha
  rw [h] at h2
  simp only [am_er] at h2
  obtain ⟨fs', rfl, h3⟩ := h2
  exact ⟨fs', h1, h3⟩
set_option maxHeartbeats 1000000 in
theorem am_snd_get (hx : p.tables.exec = Jvm.exec) (hb : c.code = cc) (hown : s.vm.findClass own = some m.cls) (hts : ∀ w ∈ lw_tbl, goodWord w = true → w.before args s = true) (hnw : ∀ w ∈ lw_tbl, am_nw w = true → va_Nw w s) (hK : va_K (dC, dI) vwCl (am_tys cA) s) (hP : va_P (dC, dI) vwCl ws H) (hR : am_Rl tk ad cA hp ws)
    {ix slot a ci : Nat} {cis : List Nat} {fs : List Value} {v : Value} (ho : hp.1 a = .inr (ci, fs)) (hci : ci ∈ cis) (hv : fs[slot]? = some v) (hok : am_okG own ix slot cis) (hdg : decode cc pc = .ok (.getfield ix, 3))
    (kk : ∀ w, am_vr tk ad hp.2.1 v w → W p l e R s m args below meth c H locs cells slots Q (F0 m (pc + 3) ls' (w :: st'))) : W p l e R s m args below meth c H locs cells slots Q (F0 m pc ls' (.ref (ad a) :: st')) := by
  obtain ⟨ref, nm, ds, hlk, hcl⟩ := hok
  obtain ⟨C, T, N, h1, h2, h3, h4, h5⟩ := hcl ci hci
  have ha : a < hp.2.1 := am_lt hR ho (by have := (List.getElem?_eq_some_iff.mp h1).1; simp [vwCl] at this; omega)
  obtain ⟨fs', h6, h7⟩ := am_obj hR ho ha
  obtain ⟨w, h8, h9⟩ := h7.get hv
  have hsame : ∀ x, s.fieldFound? (T slot).1 (T slot).2.1 (T slot).2.2.1 = some x → s.fieldFound? ref (T slot).2.1 (T slot).2.2.1 = some x := by
    rcases h5 with h5 | h5
    · rw [h5]; exact fun _ h => h
    · rw [h3, h4]; exact fun x hx => u_same (hts _ h5 rfl) x hx
  have hin := am_cls_1 _ (List.mem_of_getElem? h1)
  rcases hlk with hlk | ⟨host, hlk⟩
  · exact va_get hx hb (Ts := lw_G) (fun w hw => hts w (lw_G_mem.mp hw).1 (lw_G_mem.mp hw).2) hin hown hK hP a h6 h1 slot h2 (by rw [h3, h4]; exact hts _ hlk rfl) hsame h8 hdg (kk w h9)
  · exact va_getN hx hb (Ts := lw_G) (host := host) (fun w hw => hts w (lw_G_mem.mp hw).1 (lw_G_mem.mp hw).2) hin hown hK hP a h6 h1 slot h2 (by rw [h3, h4]; exact va_Nw.use rfl (hnw _ hlk rfl)) hsame h8 hdg (kk w h9)
set_option maxHeartbeats 1000000 in
theorem am_snd_put (hx : p.tables.exec = Jvm.exec) (hb : c.code = cc) (hown : s.vm.findClass own = some m.cls) (hts : ∀ w ∈ lw_tbl, goodWord w = true → w.before args s = true) (hK : va_K (dC, dI) vwCl (am_tys cA) s) (hP : va_P (dC, dI) vwCl ws H) (hD : va_D A ws) (hS : va_S A s.heap H locs) (hR : am_Rl tk ad cA hp ws)
    {mname : String} (hmn : meth.name = mname) {ix slot ty a ci : Nat} {cis : List Nat} {fs : List Value} {v w : Value} (ho : hp.1 a = .inr (ci, fs)) (hci : ci ∈ cis) (hfit : am_fit ty v = true) (hsl : slot < fs.length) (hvw : am_vr tk ad hp.2.1 v w) (hok : am_okP own mname ix slot ty cis) (hdg : decode cc pc = .ok (.putfield ix, 3))
    (kk : ∀ (ws1 : va_W) (H1 : Heap) (locs1 : List Loc), am_Rl tk ad cA (am_set hp a (.inr (ci, fs.set slot v))) ws1 → va_P (dC, dI) vwCl ws1 H1 → va_D A ws1 → va_S A s.heap H1 locs1 → W p l e R s m args below meth c H1 locs1 cells slots Q (F0 m (pc + 3) ls' st')) : W p l e R s m args below meth c H locs cells slots Q (F0 m pc ls' (w :: .ref (ad a) :: st')) := by
  obtain ⟨ref, nm, ds, hlk, ⟨ft, hft, hft2⟩, hcl⟩ := hok
  obtain ⟨C, T, N, h1, h2, h3, h4, h5, h6⟩ := hcl ci hci
  have ha : a < hp.2.1 := am_lt hR ho (by have := (List.getElem?_eq_some_iff.mp h1).1; simp [vwCl] at this; omega)
  obtain ⟨fs', h7, h8⟩ := am_obj hR ho ha
  have hsame : ∀ x, s.fieldFound? (T slot).1 (T slot).2.1 (T slot).2.2.1 = some x → s.fieldFound? ref (T slot).2.1 (T slot).2.2.1 = some x := by
    rcases h5 with h5 | h5
    · rw [h5]; exact fun _ h => h
    · rw [h3, h4]; exact fun x hx => u_same (hts _ h5 rfl) x hx
  have hm := List.mem_of_getElem? h1
  have hin := am_cls_1 _ hm
  obtain ⟨⟨ty0, hty⟩, hnm⟩ := am_cls_2 _ hm
  obtain ⟨hn, hfi⟩ := am_fit_w hfit hft2 hvw
  have hts2 : ∀ w ∈ lw_G, w.before args s = true := fun w hw => hts w (lw_G_mem.mp hw).1 (lw_G_mem.mp hw).2
  have k2 : ∀ (H1 : Heap) (locs1 : List Loc), va_P (dC, dI) vwCl (ws.set a (ad a, .inr (ci, fs'.set slot w))) H1 → va_D A (ws.set a (ad a, .inr (ci, fs'.set slot w))) → va_S A s.heap H1 locs1 → W p l e R s m args below meth c H1 locs1 cells slots Q (F0 m (pc + 3) ls' st') := fun H1 locs1 q1 q2 q3 =>
    kk _ H1 locs1 (hR.set ha (by simp only [am_er]; exact ⟨_, rfl, h8.set slot hvw⟩)) q1 q2 q3
  rcases h6 with h6 | ⟨h6, h9, h10⟩
  · exact va_put hx hb hts2 hin ty0 hty hnm hown hK hP hD hS a h7 h1 slot h2 (by rw [h3, h4]; exact hts _ hlk rfl) hsame h6 (by rw [h4]; exact hft) hn hfi (by rw [h8.len]; exact hsl) hdg k2
  · exact va_putF hx hb hts2 hin ty0 hty hnm hown hK hP hD hS a h7 h1 slot h2 (by rw [h3, h4]; exact hts _ hlk rfl) hsame h6 (by rw [hmn]; exact h9) h10 (by rw [h4]; exact hft) hn hfi (by rw [h8.len]; exact hsl) hdg k2
end AMH
