/-! SOUNDNESS, 11: the law's own method with a handler -/
section AMY
variable {X : am_X} {tk : Nat → Value} {A : Nat → Prop} {cA dC : Nat → ClassId} {dI : Nat → Nat → Nat} {l : Launch}
theorem am_goonX {p : Program} {e : Env} {R : Room} {s : State} {m : MethodId} {args : Array Value} {below : List Frame} {meth : Method} {c : Code} {H : Heap} {locs : List Loc} {cells slots mc ms pc : Nat} {ls' : Array Slot} {st0 rest : List Value} {a : Array Value} {ad : Nat → Nat} {nx : Nat} {v : Option Value} {hp1 : am_H} {Q : State → Prop}
    (hr : vx_Run p l e R s m args below meth c H locs cells slots mc ms (F0 m pc ls' st0) rest (am_Qc tk A cA dC dI ad nx v hp1 a) (am_XC tk A cA dC dI ad nx v hp1) A) (hS : va_S A s.heap H locs)
    (kk : ∀ (ad1 : Nat → Nat) (ws1 : va_W) (w : Option Value) (H1 : Heap) (locs1 : List Loc), am_vo tk ad1 hp1.2.1 v w → (∀ q, q < nx → ad1 q = ad q) → am_Rl tk ad1 cA hp1 ws1 → va_P (dC, dI) vwCl ws1 H1 → va_D A ws1 → va_S A s.heap H1 locs1 → W p l e R s m args below meth c H1 locs1 (cells + mc) (slots + ms) Q (F0 m (pc + 3) ls' (w.toList ++ rest)))
    (kx : ∀ (ad1 : Nat → Nat) (ws1 : va_W) (q : Addr) (ce : Cell) (H1 : Heap) (locs1 : List Loc), am_thr v = true → H1[q]? = some ce → ce.vm = .none → s.vm.findClass am_NSE = some ce.cls → (∀ q, q < nx → ad1 q = ad q) → am_Rl tk ad1 cA hp1 ws1 → va_P (dC, dI) vwCl ws1 H1 → va_D A ws1 → va_S A s.heap H1 locs1 → vx_W p l e R s m args below meth c H1 locs1 (cells + mc) (slots + ms) Q (F0 m pc ls' rest) q) : W p l e R s m args below meth c H locs cells slots Q (F0 m pc ls' st0) := by
  intro T hT X
  have hfr : ∀ (t T' : State) (L : List Loc), T'.heap = t.heap → H.size ≤ t.heap.size → (∀ q : Nat, q < H.size → ¬ A q → t.heap[q]? = H[q]?) → (∀ q ∈ L, A q.base) → va_S A s.heap T'.heap (locs ++ L) := fun t T' L e1 hz hk hL =>
    ⟨Nat.le_trans hS.1 (by rw [e1]; exact hz), fun q h1 h2 => by rw [e1, hk q (Nat.lt_of_lt_of_le h1 hS.1) h2]; exact hS.2.1 q h1 h2, fun q hq => by
      rcases List.mem_append.mp hq with h | h
      · exact hS.2.2 q h
      · exact hL q h⟩
  rcases hr T hT X with ⟨w, st₀, t, T', L, h0, X', hL, e1, e2, ⟨ad1, ws1, w', hw, hvo, hag, hR, hP, hD, hz, hk⟩, st⟩ | ⟨q, st₀, t, T', L, E, ce, h0, X', hL, e1, e2, ⟨rfl, hthr, ad1, ws1, hag, hR, hP, hD, hz, hk⟩, hce, hcv, hcl, st⟩
  · cases hw
    rw [h0] at hz hk
    obtain ⟨t2, a1, b1⟩ := kk ad1 ws1 w T'.heap (locs ++ L) hvo hag hR (by rw [e1]; exact hP) hD (hfr t T' L e1 hz hk hL) T' rfl X'
    exact ⟨t2, st t2 a1, b1⟩
  · rw [h0] at hz hk
    obtain ⟨t2, a1, b1⟩ := kx ad1 ws1 q ce T'.heap (locs ++ L) hthr (by rw [e1]; exact hce) hcv hcl hag hR (by rw [e1]; exact hP) hD (hfr t T' L e1 hz hk hL) T' rfl X'
    exact ⟨t2, st.trans a1, b1⟩
set_option maxHeartbeats 2000000 in
theorem am_aMet {n : Nat} (ih : am_S am_T am_mx am_DF X tk A cA dC dI am_Mt l n) (hfl : l.stackTraces = false) {d x o : Nat} {p0 : Int32} {hp hpz hp1 : am_H} {v : Option Value} {rv : Int32} (hex : am_ex am_T am_mx am_DF X n (d + 7) 136 0 (am_ent (am_mx 136) [.ref x, .int p0]) [] hp = some (v, hpz)) {ad : Nat → Nat} {ws : va_W} (hx0 : x < hp.2.1) (ho0 : o < hp.2.1) (hxc : ∃ fs, hp.1 x = .inr (11, fs)) (hR : am_Rl tk ad cA hp ws) (hD : va_D A ws)
    (hres : (∃ z k f, v = some (.int z) ∧ hpz.1 o = .inl (3, k, .inr (.inl f)) ∧ 0 < k ∧ rv = 0 ∧ hp1 = am_set hpz o (.inl (3, k, .inr (.inl (vp_updL f 0 z.toInt64))))) ∨ (∃ f, v = some (.float f) ∧ rv = 1 ∧ hp1 = hpz)) :
    Met l am_yat [Jvm.Cond.codeWith am_yat method_3_code 4 (some .int) [(0, 9, 12, 13)]] (am_rm (d + 8) (hpz.2.2.1 - hp.2.2.1) (hpz.2.2.2 - hp.2.2.2)) (am_Pc X tk A cA dC dI [.ref (ad x), .int p0, .ref (ad o)] 0 ws) (am_Qc tk A cA dC dI ad hp.2.1 (some (.int rv)) hp1) (hpz.2.2.1 - hp.2.2.1) (hpz.2.2.2 - hp.2.2.2) A := by
  have hle : am_le hp hpz := am_ex_mn _ _ _ _ _ _ _ _ hex
  refine va_MetW (cc := method_3_code) (maxL := 4) (ret := some .int) (hh := [(0, 9, 12, 13)]) (by decide +kernel) rfl ?_
  intro p e s m args below meth c s₁ B hml hv1
  obtain ⟨rfl, hC, hP⟩ := hv1
  have hown : s.vm.findClass "FlowerPotsLaw" = some m.cls := findClass_of_methodNamed B.named
  have hxx := B.exec
  have hb := B.bytes
  have hr := B.returns
  have hlocks := B.notSynchronized
  have hcw := atoms_spec (ws := [Jvm.Cond.codeWith am_yat method_3_code 4 (some .int) [(0, 9, 12, 13)]]) B.pre _ (List.mem_singleton.mpr rfl)
  have htab : c.exceptionTable.toList = tableOf [(0, 9, 12, 13)] := vx_table (x := am_yat) B hcw
  rw [lg_entry_eq]
  have hl := lv_entry ([.ref (ad x), .int p0, .ref (ad o)]) (n := 4) (Nat.le_of_ble_eq_true rfl)
  generalize (lg_sl ([.ref (ad x), .int p0, .ref (ad o)]) ++ List.replicate (4 - (lg_sl ([.ref (ad x), .int p0, .ref (ad o)])).length) Slot.unset).toArray = ls at hl ⊢
  have hl : lv_has ls 4 [(0, .ref (ad x)), (1, .int p0), (2, .ref (ad o))] := hl
  have hfr : (headSpec [Jvm.Cond.codeWith am_yat method_3_code 4 (some .int) [(0, 9, 12, 13)]] (am_rm (d + 8) (hpz.2.2.1 - hp.2.2.1) (hpz.2.2.2 - hp.2.2.2))).room.frames = d + 9 := rfl
  have hlo : (headSpec [Jvm.Cond.codeWith am_yat method_3_code 4 (some .int) [(0, 9, 12, 13)]] (am_rm (d + 8) (hpz.2.2.1 - hp.2.2.1) (hpz.2.2.2 - hp.2.2.2))).room.locals = (d + 9) * 64 := rfl
  have hce : (headSpec [Jvm.Cond.codeWith am_yat method_3_code 4 (some .int) [(0, 9, 12, 13)]] (am_rm (d + 8) (hpz.2.2.1 - hp.2.2.1) (hpz.2.2.2 - hp.2.2.2))).room.cells = hpz.2.2.1 - hp.2.2.1 := rfl
  have hsl : (headSpec [Jvm.Cond.codeWith am_yat method_3_code 4 (some .int) [(0, 9, 12, 13)]] (am_rm (d + 8) (hpz.2.2.1 - hp.2.2.1) (hpz.2.2.2 - hp.2.2.2))).room.slots = hpz.2.2.2 - hp.2.2.2 := rfl
  generalize (headSpec [Jvm.Cond.codeWith am_yat method_3_code 4 (some .int) [(0, 9, 12, 13)]] (am_rm (d + 8) (hpz.2.2.1 - hp.2.2.1) (hpz.2.2.2 - hp.2.2.2))).room = R at hfr hlo hce hsl ⊢
  refine lv_aload_n hxx hb am_dat_0 rfl (lv_at hl 2 rfl) ?_
  refine lv_iconst (v := 0) hxx hb am_dat_1 (by decide) ?_
  refine lv_aload_n hxx hb am_dat_2 rfl (lv_at hl 0 rfl) ?_
  refine lv_iload_n hxx hb am_dat_3 rfl (lv_at hl 1 rfl) ?_
  have hMet := am_vMet ih hfl hex hx0 hR hD
  have hM := am_allM 136 (by decide)
  have ha : ([.ref (ad x), .int p0, .ref (ad o)] : List Value).toArray = ([.ref (ad x), .int p0, .ref (ad o)] : List Value).toArray := rfl
  generalize hargs : ([.ref (ad x), .int p0, .ref (ad o)] : List Value).toArray = args
  have hcx : CallFix p m c method_3_code 4 s args lw_G "FlowerPotsLaw" := ⟨hxx, hb, hml, hown, fun w hw => hC.1 w (lw_G_mem.mp hw).1 (lw_G_mem.mp hw).2 args⟩
  obtain ⟨fsx, hfx⟩ := hxc
  obtain ⟨fs', h6, -⟩ := am_obj hR hfx hx0
  have hrun := vx_runV (l := l) (e := e) (R := R) (below := below) (meth := meth) (H := s.heap) (locs := []) (cells := 0) (slots := 0) (As := [.int p0]) (b := ad x) (C := "FlowerPots") (index := 7) (n := 1) (rest := [.int 0, .ref (ad o)]) (g := F0 m 4 ls [.int p0, .ref (ad x), .int 0, .ref (ad o)]) hcx hMet
    ⟨⟨rfl, rfl, by rw [hfr]; exact Nat.le_refl _, by rw [hlo]; show 8 + (2 + 11) + (d + 8) * 64 ≤ (d + 9) * 64; omega, fun w hw a' U hW => by
        simp only [List.mem_singleton] at hw
        subst hw
        exact word_at hW (good_of_word am_goodc) (hC.1 _ hM.1.1 rfl args), List.mem_singleton.mpr rfl, hC.1 _ hM.1.1 rfl args, hC.1 _ hM.1.2.1 rfl args, hM.1.2.2.2.1, am_np_len am_np136, hC.1 _ am_w_a5 rfl args⟩, hC.1 _ am_w_a6 rfl args, hC.1 _ am_w_a7 rfl args⟩
    ⟨am_blind, va_recv hC.2.2.2.1 hP (ci := 11) (q := (RX11, TX11, 17)) rfl h6, (am_pre hC va_S.rf hP).2⟩ rfl rfl hl.1 rfl (lv_room (Nat.le_of_ble_eq_true rfl)) am_dat_4 ⟨by rw [hce]; omega, by rw [hsl]; omega⟩
  refine am_goonX hrun va_S.rf (fun ad1 ws1 w H1 locs1 hvo hag hR1 hP1 hD1 hS1 => ?_) (fun ad1 ws1 q ce H1 locs1 hthr hcell hcv hcl hag hR1 hP1 hD1 hS1 => ?_)
  · rcases hres with ⟨z, k, f, rfl, hz, hk, rfl, rfl⟩ | ⟨f, rfl, -, -⟩
    · obtain ⟨u, rfl, hu⟩ := hvo
      simp only [am_vr] at hu
      subst hu
      obtain ⟨h1, -, h3⟩ := am_arrL hR1 hz
      have hao : ad1 o = ad o := hag o ho0
      refine lv_i2l hxx hb am_dat_7 rfl ?_
      rw [← hao]
      refine va_last hxx hb hC.2.2.2.1 hP1 hD1 hS1 o 3 h3 rfl (i := 0) (by intro h; rcases h with h | h; exact absurd h (by decide); have : (0 : Int32).toNatClampNeg = 0 := rfl; omega) am_dat_8 (fun H2 locs2 q1 q2 q3 => ?_)
      refine lv_goto (tgt := 15) hxx hb am_dat_9 (by decide) ?_
      refine lv_iconst (v := 0) hxx hb am_dat_15 (by decide) ?_
      rw [Nat.zero_add, Nat.zero_add]
      exact W.iret hxx hb (by rw [hr]) (fun t ht _ => ⟨ad1, _, some (.int 0), rfl, ⟨_, rfl, rfl⟩, hag, hR1.set h1 (And.intro rfl rfl), by rw [ht]; exact q1, q2, q3.F ht⟩) q3.2.2 am_dat_16 hlocks
    · obtain ⟨u, rfl, hu⟩ := hvo
      simp only [am_vr] at hu
  · rcases hres with ⟨z, k, f, rfl, -⟩ | ⟨f, rfl, rfl, rfl⟩
    · simp [am_thr] at hthr
    · refine vx_catch (E := am_NSE) (name := am_NSE) hown [] { startPc := 0, endPc := 9, handlerPc := 12, catchType := 13 } [] (by rw [htab]; rfl) (fun z hz => by cases hz) (by decide) (by decide) (hC.1 _ am_w_e3 rfl args) (va_Nw.use rfl (hC.2.1 _ am_w_e4 rfl)) hcell hcv hcl ?_
      refine lv_astore_n (lv' := [(3, .ref q), (0, .ref (ad x)), (1, .int p0), (2, .ref (ad o))]) hxx hb am_dat_12 rfl hl (by decide) rfl (fun ls hl => ?_)
      refine lv_iconst (v := 1) hxx hb am_dat_13 (by decide) ?_
      rw [Nat.zero_add, Nat.zero_add]
      exact W.iret hxx hb (by rw [hr]) (fun t ht _ => ⟨ad1, _, some (.int 1), rfl, ⟨_, rfl, rfl⟩, hag, hR1, by rw [ht]; exact hP1, hD1, hS1.F ht⟩) hS1.2.2 am_dat_14 hlocks
theorem am_at_cls {n d : Nat} {x : Nat} {p0 : Int32} {hp : am_H} {r : Option Value × am_H} (h : am_ex am_T am_mx am_DF X n d 136 0 (am_ent (am_mx 136) [.ref x, .int p0]) [] hp = some r) : ∃ fs, hp.1 x = .inr (11, fs) := by
  have t0 : am_T 136 0 = some (0, .aload_n 0, 1, [], .null) := by decide +kernel
  have t1 : am_T 136 1 = some (2, .getfield 62, 4, [8, 11], .null) := by decide +kernel
  have e0 : am_ent (am_mx 136) [.ref x, .int p0] = [.ref x, .int p0] := by
    have : am_mx 136 = 2 := by decide +kernel
    rw [this]; rfl
  rw [e0] at h
  cases n with
  | zero => simp [am_ex] at h
  | succ n =>
    rw [am_ex, t0] at h
    cases n with
    | zero => simp [am_ex, am_p, am_gl, am_la] at h
    | succ n =>
      have h1 : am_ex am_T am_mx am_DF X (n + 1) d 136 1 [.ref x, .int p0] [.ref x] hp = some r := h
      rw [am_ex, t1] at h1
      obtain ⟨q, hq, -⟩ := Option.bind_eq_some_iff.mp (show (am_h am_DF X (.getfield 62) [8, 11] .null [.ref x] hp).bind _ = some r from h1)
      simp only [am_h, am_rd, Option.bind_some] at hq
      split at hq
      · rename_i ci fs hx
        split at hq
        · rename_i hc
          have hc : ci = 11 := by simpa using hc
          subst hc
          exact ⟨fs, hx⟩
        · cases hq
      · cases hq
theorem am_mt285 : (am_Mt 285).1.cls = "FlowerPotsLaw" ∧ am_mx 285 = 7 := by decide +kernel
theorem am_d285 : decode (am_Mt 285).2.1 352 = .ok (.invokestatic 37, 3) := by decide +kernel
theorem am_np_at : am_np am_yat.desc 3 := by unfold am_np; decide +kernel
set_option maxHeartbeats 2000000 in
theorem am_h6 (hfl : l.stackTraces = false) (n : Nat) (ih : am_S am_T am_mx am_DF X tk A cA dC dI am_Mt l n) : am_H6 am_T am_mx am_DF X tk A cA dC dI am_Mt l n := by
  intro y pc t ht hk d o x p0 st hp v hpz hp1 rv hcat hex hres p e R s m args below meth c hCm hC ad ws H locs ls' st' hR hls hst hP hD hS c0 s0 hc0 hs0 hcl hsl Q kk
  rcases am_k6_s ht (by omega) with ⟨rfl, rfl, rfl⟩ | ⟨-, -, rfl⟩
  · have hex : am_ex am_T am_mx am_DF X n (d + 7) 136 0 (am_ent (am_mx 136) [.ref x, .int p0]) [] hp = some (v, hpz) := hex
    have hle : am_le hp hpz := am_ex_mn _ _ _ _ _ _ _ _ hex
    obtain ⟨hxx, hb, hml, hown, hmn, hfr, hlo⟩ := hCm
    rw [am_mt285.1] at hown
    obtain ⟨ho, t1, rfl, hst1⟩ := hst.r
    obtain ⟨t2, rfl, hst2⟩ := hst1.i
    obtain ⟨hx, t3, rfl, hst3⟩ := hst2.r
    have hc3 : am_cat t3 ≤ 8 := by rw [hst3.cat]; exact hcat
    have h2e : hp1.2 = hpz.2 := by
      rcases hres with ⟨z, k, f, -, -, -, -, rfl⟩ | ⟨f, -, -, rfl⟩ <;> rfl
    have e1 : hp.2.2.1 - c0 + (hpz.2.2.1 - hp.2.2.1) = hp1.2.2.1 - c0 := by rw [h2e]; have := hle.2.1; omega
    have e2 : hp.2.2.2 - s0 + (hpz.2.2.2 - hp.2.2.2) = hp1.2.2.2 - s0 := by rw [h2e]; have := hle.2.2; omega
    have hMet := am_aMet ih hfl hex hx ho (am_at_cls hex) hR hD hres
    have hcx : CallFix p m c (am_Mt 285).2.1 (am_mx 285) s args lw_G "FlowerPotsLaw" := ⟨hxx, hb, hml, hown, fun w hw => hC.1 w (lw_G_mem.mp hw).1 (lw_G_mem.mp hw).2 args⟩
    have hrun := vx_runSW (l := l) (e := e) (R := R) (below := below) (meth := meth) (H := H) (locs := locs) (cells := hp.2.2.1 - c0) (slots := hp.2.2.2 - s0) (As := [.ref (ad x), .int p0, .ref (ad o)]) (index := 37) (n := 3) (rest := t3) (g := F0 m 352 ls' (.ref (ad o) :: .int p0 :: .ref (ad x) :: t3)) hcx hMet
      ⟨⟨rfl, rfl, hfr, by show 8 + (4 + 11) + (d + 8 + 1) * 64 ≤ R.locals; omega, fun w hw a' U hW => by
          simp only [List.mem_singleton] at hw
          subst hw
          exact word_at hW (good_of_word (w := Jvm.Cond.codeWith am_yat method_3_code 4 (some .int) [(0, 9, 12, 13)]) rfl) (hC.1 _ am_w_a3 rfl args), List.mem_singleton.mpr rfl⟩, hC.1 _ am_w_a3 rfl args, hC.1 _ am_w_a4 rfl args, by decide +kernel, am_np_len am_np_at, hC.1 _ am_w_a1 rfl args, hC.1 _ am_w_a2 rfl args⟩
      (am_pre hC hS hP) rfl rfl hls rfl (lv_room hc3) am_d285 ⟨by rw [e1]; exact hcl, by rw [e2]; exact hsl⟩
    refine am_goon hrun hS (fun ad1 ws1 w H1 locs1 hvo hag hR1 hP1 hD1 hS1 => ?_)
    rw [e1, e2]
    have hn : hp.2.1 ≤ hp1.2.1 := by rw [h2e]; exact hle.1
    exact kk ad1 ws1 H1 locs1 _ hag hR1 hP1 hD1 hS1 (am_vo_st hvo (am_vs.mono hn hag hst3))
  · cases hk
theorem am_sound_all (hfl : l.stackTraces = false) : ∀ n, am_S am_T am_mx am_DF X tk A cA dC dI am_Mt l n := am_sound am_T_ok (am_h6 hfl)
end AMY
