/-! SOUNDNESS, 4: arrays, new cells, calls whose bodies aren't run -/
theorem am_in_w {i : Int32} {n : Nat} (h : am_in i n = true) : vp_in i n := by
  unfold am_in at h
  simp only [Bool.not_eq_true', decide_eq_false_iff_not] at h
  exact h
theorem am_rd_s {X : am_X} {hp : am_H} {v : Value} {x : am_E} (h : am_rd X hp v = some x) : (∃ a, v = .ref a ∧ hp.1 a = x) ∨ ∃ j, v = .retAddr j ∧ am_tk X j = x := by
  unfold am_rd at h
  split at h
  · cases h; exact Or.inl ⟨_, rfl, rfl⟩
  · cases h; exact Or.inr ⟨_, rfl, rfl⟩
  · cases h
theorem am_newK {D : va_G} {cA : Nat → ClassId} {s : State} {c' : ClassId} {ty : FieldType} (h : va_K D vwCl (am_tys cA ++ [(c', ty)]) s) {t : Nat} (ht : (am_tys cA)[t]? = some (cA t, ty)) : c' = cA t := by
  have h5 : (am_tys cA).length = 5 := rfl
  have h1 := (h.2 5 (c', ty) (by rw [List.getElem?_append_right (by rw [h5]; omega), h5]; rfl)).2
  have hl := (List.getElem?_eq_some_iff.mp ht).1
  have h2 := (h.2 t (cA t, ty) (by rw [List.getElem?_append_left hl]; exact ht)).2
  cases ty with
  | object C =>
    obtain ⟨kA, comp, -, -, -, a⟩ := h1
    obtain ⟨kA', comp', -, -, -, b⟩ := h2
    exact Option.some.inj (a.symm.trans b)
  | _ => exact Option.some.inj (Eq.trans (Eq.symm h1) h2)
theorem am_K_app {D : va_G} {cA : Nat → ClassId} {s : State} {x : ClassId × FieldType} (h : va_K D vwCl (am_tys cA ++ [x]) s) : va_K D vwCl (am_tys cA) s := ⟨h.1, fun k q hk => h.2 k q (by rw [List.getElem?_append_left (List.getElem?_eq_some_iff.mp hk).1]; exact hk)⟩
theorem am_byt (n : Nat) (f : Nat → Int32) (i : Int32) (h : am_in i n = true) (hn : n < 2 ^ 31) (P : Nat → Prop) (hP : ∀ j, j < n → P j) : P i.toNatClampNeg := by
  obtain ⟨j, h1, h2⟩ := vp_in_of (am_in_w h) hn
  rw [h2, nI_clamp (by omega)]
  exact hP j h1
section AMA
variable {p : Program} {l : Launch} {e : Env} {R : Room} {s : State} {m : MethodId} {args : Array Value} {below : List Frame} {meth : Method} {c : Code} {H : Heap} {locs : List Loc} {cells slots : Nat} {Q : State → Prop}
variable {cc : ByteArray} {pc : Nat} {tk : Nat → Value} {ad : Nat → Nat} {st : List Value} {ls' : Array Slot} {st' : List Value} {X : am_X} {A : Nat → Prop} {cA : Nat → ClassId} {dC : Nat → ClassId} {dI : Nat → Nat → Nat} {hp : am_H} {ws : va_W} {own : String}
theorem am_arr (hR : am_Rl tk ad cA hp ws) {a t n : Nat} {f : Nat → Int32} (h : hp.1 a = .inl (t, n, .inl f)) : a < hp.2.1 ∧ t < 3 ∧ ws[a]? = some (ad a, .inl (cA t, n, .inl f)) := by
  have ha := am_ltA hR h
  obtain ⟨e, h1, h2⟩ := hR.get ha
  rw [h] at h2
  simp only [am_er] at h2
  exact ⟨ha, h2.1, by rw [h1, h2.2]⟩
theorem am_arrL (hR : am_Rl tk ad cA hp ws) {a t n : Nat} {f : Nat → Int64} (h : hp.1 a = .inl (t, n, .inr (.inl f))) : a < hp.2.1 ∧ t = 3 ∧ ws[a]? = some (ad a, .inl (cA 3, n, .inr (.inl f))) := by
  have ha := am_ltA hR h
  obtain ⟨e, h1, h2⟩ := hR.get ha
  rw [h] at h2
  simp only [am_er] at h2
  exact ⟨ha, h2.1, by rw [h1, h2.2]⟩
theorem am_arrQ (hR : am_Rl tk ad cA hp ws) {a t n : Nat} {g : Nat → Option Nat} (h : hp.1 a = .inl (t, n, .inr (.inr (.inr (.inr g))))) : a < hp.2.1 ∧ t = 4 ∧ ∃ g', ws[a]? = some (ad a, .inl (cA 4, n, .inr (.inr (.inr (.inr g'))))) ∧ ∀ j, (g j = none ∧ g' j = none) ∨ ∃ k, g j = some k ∧ k < hp.2.1 ∧ g' j = some (ad k) := by
  have ha := am_ltA hR h
  obtain ⟨e, h1, h2⟩ := hR.get ha
  rw [h] at h2
  simp only [am_er] at h2
  obtain ⟨h2, g', rfl, h3⟩ := h2
  exact ⟨ha, h2, g', h1, h3⟩
set_option maxHeartbeats 1000000 in
theorem am_snd_la (hx : p.tables.exec = Jvm.exec) (hb : c.code = cc) (hK : va_K (dC, dI) vwCl (am_tys cA) s) (hP : va_P (dC, dI) vwCl ws H) (hS : va_S A s.heap H locs) (hSt : am_St X tk A s s.heap) (hR : am_Rl tk ad cA hp ws)
    {ts : List Nat} {st1 : List Value} {hp1 : am_H} (h : am_la2 ts X st hp = some (st1, hp1)) (hst : am_vs tk ad hp.2.1 st st') (hdg : (ts = [0] ∧ decode cc pc = .ok (.iaload, 1)) ∨ (ts = [1, 2] ∧ decode cc pc = .ok (.baload, 1)))
    (kk : ∀ s1, am_vs tk ad hp.2.1 st1 s1 → hp1 = hp → W p l e R s m args below meth c H locs cells slots Q (F0 m (pc + 1) ls' s1)) : W p l e R s m args below meth c H locs cells slots Q (F0 m pc ls' st') := by
  unfold am_la2 at h
  split at h
  · rename_i i v s0
    obtain ⟨x, hrd, h9⟩ := Option.bind_eq_some_iff.mp h
    clear h
    split at h9
    · rename_i t' n f
      split at h9
      · rename_i hc
        simp only [Bool.and_eq_true] at hc
        obtain ⟨ht, hin⟩ := hc
        have hdg : (t' = 0 ∧ decode cc pc = .ok (.iaload, 1)) ∨ ((t' = 1 ∨ t' = 2) ∧ decode cc pc = .ok (.baload, 1)) := by
          rcases hdg with ⟨rfl, hdg⟩ | ⟨rfl, hdg⟩
          · exact Or.inl ⟨by simpa using ht, hdg⟩
          · exact Or.inr ⟨by simpa using ht, hdg⟩
        cases h9
        obtain ⟨z, rfl, hs1⟩ := hst.i
        obtain ⟨w, z, rfl, hw, hs2⟩ := hs1
        have kk := fun (q : Value) (hq : am_vr tk ad hp.2.1 (.int (f i.toNatClampNeg)) q) => kk (q :: z) ⟨q, z, rfl, hq, hs2⟩ rfl
        rcases am_rd_s hrd with ⟨a, rfl, ha⟩ | ⟨j, rfl, hj⟩
        · simp only [am_vr] at hw
          obtain ⟨-, rfl⟩ := hw
          obtain ⟨-, -, h3⟩ := am_arr hR ha
          rcases hdg with ⟨rfl, hdg⟩ | ⟨rfl | rfl, hdg⟩
          · exact va_iald hx hb hK hP a 0 h3 rfl (am_in_w hin) hdg (kk _ rfl)
          · exact va_bald hx hb hK hP a 1 h3 rfl (am_in_w hin) hdg (kk _ rfl)
          · exact va_zald hx hb hK hP a 2 h3 rfl (am_in_w hin) hdg (kk _ rfl)
        · simp only [am_vr] at hw
          obtain ⟨⟨b, e0, hX, hbl, hbA⟩, -, ⟨adK, adV, hV, -, -, e4, e5, -⟩, -⟩ := hSt
          unfold am_tk at hj
          split at hj
          · cases hj
            rw [hw.1, e0]
            rcases hdg with ⟨-, hdg⟩ | ⟨h1 | h1, hdg⟩
            · exact va_sld hx hb hX hbl hbA hS (am_in_w hin) hdg (kk _ rfl)
            · cases h1
            · cases h1
          · cases hj
          · cases hj
          · cases hj
          · cases hj
            rw [hw.1, e4]
            rcases hdg with ⟨h1, hdg⟩ | ⟨h1, hdg⟩
            · cases h1
            · exact va_tb hx hb (hV.1 0 (by omega)).2.2.2 hS (am_in_w hin) (v := .int 121) (am_byt _ (fun _ => 0) i hin (by decide) (fun k => Value.int (([[121], [112, 100, 115, 110]].getD 0 []).getD k 0) = .int 121) (fun k hk => by rcases (show k = 0 by omega) with rfl; rfl)) hdg (kk _ rfl)
          · cases hj
            rw [hw.1, e5]
            rcases hdg with ⟨h1, hdg⟩ | ⟨h1, hdg⟩
            · cases h1
            · exact va_tb hx hb (hV.1 1 (by omega)).2.2.2 hS (am_in_w hin) rfl hdg (kk _ (am_byt _ (fun _ => 0) i hin (by decide) (fun k => Value.int (([[121], [112, 100, 115, 110]].getD 1 []).getD k 0) = .int (if k = 0 then 112 else if k = 1 then 100 else if k = 2 then 115 else 110)) (fun k hk => by rcases (show k = 0 ∨ k = 1 ∨ k = 2 ∨ k = 3 by omega) with rfl | rfl | rfl | rfl <;> rfl)))
          · cases hj
      · cases h9
    · cases h9
  · cases h
set_option maxHeartbeats 1000000 in
theorem am_snd_len (hx : p.tables.exec = Jvm.exec) (hb : c.code = cc) (hK : va_K (dC, dI) vwCl (am_tys cA) s) (hP : va_P (dC, dI) vwCl ws H) (hS : va_S A s.heap H locs) (hSt : am_St X tk A s s.heap) (hR : am_Rl tk ad cA hp ws)
    {v w : Value} {t n : Nat} {f : (Nat → Int32) ⊕ (Nat → Int64) ⊕ (Nat → UInt32) ⊕ (Nat → UInt64) ⊕ (Nat → Option Nat)} (hrd : am_rd X hp v = some (.inl (t, n, f))) (hw : am_vr tk ad hp.2.1 v w) (hdg : decode cc pc = .ok (.arraylength, 1))
    (kk : W p l e R s m args below meth c H locs cells slots Q (F0 m (pc + 1) ls' (.int (Int32.ofNat n) :: st'))) : W p l e R s m args below meth c H locs cells slots Q (F0 m pc ls' (w :: st')) := by
  rcases am_rd_s hrd with ⟨a, rfl, ha⟩ | ⟨j, rfl, hj⟩
  · simp only [am_vr] at hw
    obtain ⟨-, rfl⟩ := hw
    rcases f with f | f | f | f | f
    · obtain ⟨-, h2, h3⟩ := am_arr hR ha
      rcases (show t = 0 ∨ t = 1 ∨ t = 2 by omega) with rfl | rfl | rfl
      · exact va_alen hx hb hK hP a 0 h3 (ty := .int) rfl rfl hdg kk
      · exact va_alen hx hb hK hP a 1 h3 (ty := .byte) rfl rfl hdg kk
      · exact va_alen hx hb hK hP a 2 h3 (ty := .boolean) rfl rfl hdg kk
    · obtain ⟨-, h2, h3⟩ := am_arrL hR ha
      exact va_alen hx hb hK hP a 3 h3 (ty := .long) rfl rfl hdg kk
    · obtain ⟨e, -, h2⟩ := hR.get (am_ltA hR ha); rw [ha] at h2; simp only [am_er] at h2
    · obtain ⟨e, -, h2⟩ := hR.get (am_ltA hR ha); rw [ha] at h2; simp only [am_er] at h2
    · obtain ⟨-, h2, g', h3, -⟩ := am_arrQ hR ha
      exact va_alen hx hb hK hP a 4 h3 (ty := .object "java/lang/Object") rfl rfl hdg kk
  · simp only [am_vr] at hw
    obtain ⟨⟨b, e0, hX, hbl, hbA⟩, ⟨q, e1, -, -, hT, -⟩, ⟨adK, adV, hV, -, -, e4, e5, -⟩, -⟩ := hSt
    unfold am_tk at hj
    split at hj
    · cases hj
      rw [hw.1, e0]
      exact va_slen hx hb hX hbl hbA hS hdg kk
    · cases hj
      rw [hw.1, e1]
      exact va_tlen hx hb hT hS rfl hdg kk
    · cases hj
    · cases hj
    · cases hj
      rw [hw.1, e4]
      exact va_tlen hx hb (hV.1 0 (by omega)).2.2.2 hS rfl hdg kk
    · cases hj
      rw [hw.1, e5]
      exact va_tlen hx hb (hV.1 1 (by omega)).2.2.2 hS rfl hdg kk
    · cases hj
/-- a string's fields -/
theorem am_snd_str (hx : p.tables.exec = Jvm.exec) (hb : c.code = cc) (hown : s.vm.findClass own = some m.cls) (hts : ∀ w ∈ lw_tbl, goodWord w = true → w.before args s = true) (hS : va_S A s.heap H locs) (hSt : am_St X tk A s s.heap) {nx : Nat}
    {j slot ix ci : Nat} {fs : List Value} {v : Value} (hj : am_tk X j = .inr (ci, fs)) (hv : fs[slot]? = some v) (hok : (slot = 0 ∧ Jvm.Cond.fieldLink own ix "java/lang/String" "value" "[B" ∈ lw_tbl) ∨ (slot = 1 ∧ Jvm.Cond.fieldLink own ix "java/lang/String" "coder" "B" ∈ lw_tbl)) (hdg : decode cc pc = .ok (.getfield ix, 3))
    (kk : ∀ w, am_vr tk ad nx v w → W p l e R s m args below meth c H locs cells slots Q (F0 m (pc + 3) ls' (w :: st'))) : W p l e R s m args below meth c H locs cells slots Q (F0 m pc ls' (tk j :: st')) := by
  obtain ⟨-, -, ⟨adK, adV, hV, e2, e3, e4, e5, -⟩, -⟩ := hSt
  unfold am_tk at hj
  split at hj
  · cases hj
  · cases hj
  · cases hj
    rw [e2]
    rcases hok with ⟨rfl, hok⟩ | ⟨rfl, hok⟩
    · cases hv
      exact vk_getf hx hb (hV.1 0 (by omega)).2.2.1 hS hown (hts _ hok rfl) (fun _ h => h) hdg (kk _ ⟨e4.symm, Or.inl ⟨_, e4⟩⟩)
    · cases hv
      exact vk_getf hx hb (hV.1 0 (by omega)).2.1 hS hown (hts _ hok rfl) (fun _ h => h) hdg (kk _ rfl)
  · cases hj
    rw [e3]
    rcases hok with ⟨rfl, hok⟩ | ⟨rfl, hok⟩
    · cases hv
      exact vk_getf hx hb (hV.1 1 (by omega)).2.2.1 hS hown (hts _ hok rfl) (fun _ h => h) hdg (kk _ ⟨e5.symm, Or.inl ⟨_, e5⟩⟩)
    · cases hv
      exact vk_getf hx hb (hV.1 1 (by omega)).2.1 hS hown (hts _ hok rfl) (fun _ h => h) hdg (kk _ rfl)
  · cases hj
  · cases hj
  · cases hj; cases hv
end AMA
