/-! SOUNDNESS, 8: the machine does what the abstract one does -/
theorem am_vo_st {tk : Nat → Value} {ad : Nat → Nat} {nx : Nat} {v w : Option Value} {s t : List Value} (h : am_vo tk ad nx v w) (hs : am_vs tk ad nx s t) : am_vs tk ad nx (v.toList ++ s) (w.toList ++ t) := by
  cases v with
  | none => simp only [am_vo] at h; subst h; exact hs
  | some v =>
    obtain ⟨u, rfl, hu⟩ := h
    exact ⟨u, t, rfl, hu, hs⟩
theorem am_blind {X : am_X} {tk : Nat → Value} {A : Nat → Prop} {cA dC : Nat → ClassId} {dI : Nat → Nat → Nat} {rs : List Value} {ws : va_W} : FrameBlind (am_Pc X tk A cA dC dI rs 0 ws) := fun _ _ _ _ q => ⟨q.1, q.2.1.call, q.2.2⟩
section AMU
variable {T : am_Tb} {mx : Nat → Nat} {DF : Nat → List Value} {X : am_X} {tk : Nat → Value} {A : Nat → Prop} {cA dC : Nat → ClassId} {dI : Nat → Nat → Nat} {Mi : am_Mi} {l : Launch}
variable {p : Program} {e : Env} {R : Room} {s : State} {m : MethodId} {args : Array Value} {below : List Frame} {meth : Method} {c : Code} {H : Heap} {locs : List Loc} {Q : State → Prop}
theorem am_pre (hC : am_Cx X tk A cA dC dI s) (hS : va_S A s.heap H locs) {ws : va_W} (hP : va_P (dC, dI) vwCl ws H) {rs : List Value} : PreS s H (am_Pc X tk A cA dC dI rs 0 ws) rs :=
  ⟨am_blind, fun U hU hW => ⟨rfl, hC.go hU hW hS, by rw [hU]; exact hP⟩⟩
theorem am_np_len {desc : String} {n : Nat} (h : am_np desc n) : ∀ sig, parseMethodDescriptor desc = some sig → n = sig.parameters.length := by
  intro sig hs
  unfold am_np at h
  rw [hs] at h
  exact (Option.some.inj h).symm
theorem am_goodc {y : MethodName} {b : ByteArray} {k : Nat} {r : Option FieldType} : goodWord (Jvm.Cond.code y b k r) = true := rfl
set_option maxHeartbeats 2000000 in
/-- one call -/
theorem am_snd_c {n : Nat} (ih : am_S T mx DF X tk A cA dC dI Mi l n) {d y pc : Nat} (hCm : am_Cm mx Mi p s m meth c R (d + 1) y) (hC : am_Cx X tk A cA dC dI s) {ad : Nat → Nat} {ws : va_W} {ls' : Array Slot} {st st' : List Value} {hp hpz : am_H} {c0 s0 : Nat} {z : Option Value} {i : ClassFile.Instr} {r : List Nat} {y2 : Nat} {vs rest : List Value}
    (hR : am_Rl tk ad cA hp ws) (hls : ls'.size = mx y) (hst : am_vs tk ad hp.2.1 st st') (hP : va_P (dC, dI) vwCl ws H) (hD : va_D A ws) (hS : va_S A s.heap H locs) (hc0 : c0 ≤ hp.2.2.1) (hs0 : s0 ≤ hp.2.2.2)
    (hdg : decode (Mi y).2.1 pc = .ok (i, am_len i)) (hok : am_ok3 Mi mx (Mi y).1.cls i r) (hcall : am_call X i r st hp = some (y2, vs, rest)) (hfl : (am_flat vs).length ≤ mx y2) (hex : am_ex T mx DF X n d y2 0 (am_ent (mx y2) vs) [] hp = some (z, hpz)) (hz : am_thr z = false) (hle : am_le hp hpz) (hcl : hpz.2.2.1 - c0 ≤ R.cells) (hsl : hpz.2.2.2 - s0 ≤ R.slots)
    (kk : ∀ (ad1 : Nat → Nat) (ws1 : va_W) (H1 : Heap) (locs1 : List Loc) (s1 : List Value), (∀ q, q < hp.2.1 → ad1 q = ad q) → am_Rl tk ad1 cA hpz ws1 → va_P (dC, dI) vwCl ws1 H1 → va_D A ws1 → va_S A s.heap H1 locs1 → am_vs tk ad1 hpz.2.1 (z.toList ++ rest) s1 → W p l e R s m args below meth c H1 locs1 (hpz.2.2.1 - c0) (hpz.2.2.2 - s0) Q (F0 m (pc + am_len i) ls' s1)) :
    W p l e R s m args below meth c H locs (hp.2.2.1 - c0) (hp.2.2.2 - s0) Q (F0 m pc ls' st') := by
  obtain ⟨hx, hb, hml, hown, hmn, hfr, hlo⟩ := hCm
  have hts := hC.1
  have hnw := hC.2.1
  unfold am_call at hcall
  split at hcall
  · rename_i hcat
    simp only [Bool.and_eq_true, decide_eq_true_eq] at hcat
    have hcat2 : am_cat (st'.drop (r.headD 0)) ≤ 8 := by rw [(hst.drop _).cat]; exact hcat.1
    have hcx : CallFix p m c (Mi y).2.1 (mx y) s args lw_G (Mi y).1.cls := ⟨hx, hb, hml, hown, fun w hw => hts w (lw_G_mem.mp hw).1 (lw_G_mem.mp hw).2 args⟩
    have e1 : hp.2.2.1 - c0 + (hpz.2.2.1 - hp.2.2.1) = hpz.2.2.1 - c0 := by have := hle.2.1; omega
    have e2 : hp.2.2.2 - s0 + (hpz.2.2.2 - hp.2.2.2) = hpz.2.2.2 - s0 := by have := hle.2.2; omega
    have hf : hp.2.2.1 - c0 + (hpz.2.2.1 - hp.2.2.1) ≤ R.cells ∧ hp.2.2.2 - s0 + (hpz.2.2.2 - hp.2.2.2) ≤ R.slots := by rw [e1, e2]; exact ⟨hcl, hsl⟩
    -- what every call asks
    have base : am_okM Mi mx y2 → (am_rm d (hpz.2.2.1 - hp.2.2.1) (hpz.2.2.2 - hp.2.2.2)).frames + 1 ≤ R.frames ∧ 8 + (mx y2 + 11) + (am_rm d (hpz.2.2.1 - hp.2.2.1) (hpz.2.2.2 - hp.2.2.2)).locals ≤ R.locals ∧ (∀ w ∈ [Jvm.Cond.code (Mi y2).1 (Mi y2).2.1 (mx y2) (Mi y2).2.2], ∀ (a' : Array Value) (U : State), s.WarmedH U.vm → w.before a' U = true) ∧ (Jvm.Cond.code (Mi y2).1 (Mi y2).2.1 (mx y2) (Mi y2).2.2).before args s = true ∧ (Jvm.Cond.initialized (Mi y2).1.cls).before args s = true := by
      intro hM
      refine ⟨hfr, ?_, ?_, hts _ hM.1 rfl args, hts _ hM.2.1 rfl args⟩
      · have := hM.2.2.2.2
        simp only [am_rm]
        omega
      · intro w hw a' U hW
        simp only [List.mem_singleton] at hw
        subst hw
        exact word_at hW (good_of_word am_goodc) (hts _ hM.1 rfl args)
    have fin : ∀ (rs rest' : List Value), am_vs tk ad hp.2.1 rest rest' → ∀ (g : va_Run p l e R s m args below meth c H locs (hp.2.2.1 - c0) (hp.2.2.2 - s0) (hpz.2.2.1 - hp.2.2.1) (hpz.2.2.2 - hp.2.2.2) (F0 m pc ls' st') rest' (am_Qc tk A cA dC dI ad hp.2.1 z hpz rs.toArray) A), am_len i = 3 → W p l e R s m args below meth c H locs (hp.2.2.1 - c0) (hp.2.2.2 - s0) Q (F0 m pc ls' st') := by
      intro rs rest' hrest g hl
      refine am_goon g hS (fun ad1 ws1 w H1 locs1 hvo hag hR1 hP1 hD1 hS1 => ?_)
      rw [e1, e2]
      have := kk ad1 ws1 H1 locs1 _ hag hR1 hP1 hD1 hS1 (am_vo_st hvo (am_vs.mono hle.1 hag hrest))
      rw [hl] at this
      exact this
    have hsp : ∀ k, st' = (st'.take k).reverse.reverse ++ st'.drop k := fun k => by rw [List.reverse_reverse, List.take_append_drop]
    split at hcall
    · rename_i ix
      obtain ⟨n0, y0, rfl, ⟨hlk, hM, hnp⟩, hstat⟩ := hok
      cases hcall
      have hvs := (hst.take n0).rev
      have hMet := am_Met ih hex hz hvs hfl hR hD hM
      obtain ⟨b1, b2, b3, b4, b5⟩ := base hM
      have hlen : ((st'.take n0).reverse).length = n0 := by
        have h1 := hst.len
        have h2 : n0 ≤ st.length := hcat.2
        simp; omega
      rcases hlk with hlk | ⟨host, hlk⟩
      · exact fin _ _ (hst.drop n0) (va_runS (As := (st'.take n0).reverse) hcx hMet ⟨⟨rfl, rfl, b1, b2, b3, List.mem_singleton.mpr rfl, b4, b5, hM.2.2.2.1, am_np_len hnp, hts _ hlk rfl args⟩, hts _ hstat rfl args⟩ (am_pre hC hS hP) rfl hlen hls (hsp n0) (lv_room hcat2) hdg hf) rfl
      · exact fin _ _ (hst.drop n0) (va_runSN (As := (st'.take n0).reverse) hcx hMet ⟨⟨⟨rfl, rfl, b1, b2, b3, List.mem_singleton.mpr rfl⟩, b4, b5, hM.2.2.2.1, am_np_len hnp, va_Nw.use rfl (hnw _ hlk rfl)⟩, hts _ hstat rfl args, trivial⟩ (am_pre hC hS hP) rfl hlen hls (hsp n0) (lv_room hcat2) hdg hf) rfl
    · rename_i ix
      obtain ⟨n0, y0, rfl, ⟨hlk, hM, hnp⟩, hinst, hnm, hret⟩ := hok
      split at hcall
      · rename_i n1 y1 a as e5 e6
        cases e5
        cases hcall
        have hvs := (hst.take (n0 + 1)).rev
        have e6 : (List.take (n0 + 1) st).reverse = .ref a :: as := e6
        rw [e6] at hvs
        obtain ⟨ha, As, hAs, hvs2⟩ := hvs.r
        have hvs3 : am_vs tk ad hp.2.1 (.ref a :: as) (.ref (ad a) :: As) := ⟨_, _, rfl, ⟨ha, rfl⟩, hvs2⟩
        have hMet := am_Met ih hex hz hvs3 hfl hR hD hM
        obtain ⟨b1, b2, b3, b4, b5⟩ := base hM
        have hstk : st' = As.reverse ++ .ref (ad a) :: st'.drop (n0 + 1) := by
          have := hsp (n0 + 1)
          rw [hAs] at this
          simpa using this
        have hlen : As.length = n0 := by
          have h1 := hst.len
          have h2 : n0 + 1 ≤ st.length := hcat.2
          have h3 := congrArg List.length hAs
          simp at h3; omega
        rw [hret] at hMet b3 b4
        rcases hlk with hlk | ⟨host, hlk⟩
        · exact fin _ _ (hst.drop (n0 + 1)) (va_runI (As := As) (b := ad a) hcx hMet ⟨⟨rfl, rfl, b1, b2, b3, List.mem_singleton.mpr rfl, b4, b5, hM.2.2.2.1, am_np_len hnp, hts _ hlk rfl args⟩, hnm, hts _ hinst rfl args⟩ (am_pre hC hS hP) rfl hlen hls hstk (lv_room hcat2) hdg hf) rfl
        · exact fin _ _ (hst.drop (n0 + 1)) (va_runIN (As := As) (b := ad a) hcx hMet ⟨⟨⟨rfl, rfl, b1, b2, b3, List.mem_singleton.mpr rfl⟩, b4, b5, hM.2.2.2.1, am_np_len hnp, va_Nw.use rfl (hnw _ hlk rfl)⟩, hnm, hts _ hinst rfl args⟩ (am_pre hC hS hP) rfl hlen hls hstk (lv_room hcat2) hdg hf) rfl
      · cases hcall
    · rename_i ix
      obtain ⟨n0, tb, xn, rfl, hlk, hnp, hsel⟩ := hok
      split at hcall
      · rename_i n1 tb1 v as e5 e6
        cases e5
        obtain ⟨ee, hrd, hc1⟩ := Option.bind_eq_some_iff.mp hcall
        clear hcall
        split at hc1
        · rename_i ci fs
          obtain ⟨y1, hs1, hc2⟩ := Option.bind_eq_some_iff.mp hc1
          cases hc2
          obtain ⟨C, hcn, hM, hinst, hse, hform⟩ := hsel ci y2 hs1
          have hvs := (hst.take (n0 + 1)).rev
          have e6 : (List.take (n0 + 1) st).reverse = v :: as := e6
          rw [e6] at hvs
          obtain ⟨w, As, hAs, hw, hvs2⟩ := hvs
          have hvs3 : am_vs tk ad hp.2.1 (v :: as) (w :: As) := ⟨_, _, rfl, hw, hvs2⟩
          have hrecv : ∃ b, w = .ref b ∧ ∃ cell : Cell, H[b]? = some cell ∧ cell.vm.isStatics = false ∧ s.vm.findClass C = some cell.cls := by
            rcases am_rd_s hrd with ⟨a, rfl, ha⟩ | ⟨j, rfl, hj⟩
            · simp only [am_vr] at hw
              obtain ⟨ha2, rfl⟩ := hw
              obtain ⟨fs', h6, -⟩ := am_obj hR ha ha2
              rcases hcn with ⟨T0, N0, hcl0⟩ | ⟨rfl, rfl⟩
              · exact ⟨_, rfl, va_recv hC.2.2.2.1 hP hcl0 h6⟩
              · obtain ⟨r, h7, -⟩ := hP a _ h6
                simp [vwCl] at h7
            · simp only [am_vr] at hw
              rcases hcn with ⟨T0, N0, hcl0⟩ | ⟨rfl, rfl⟩
              · unfold am_tk at hj
                split at hj <;> cases hj <;> simp [vwCl] at hcl0
              · obtain ⟨-, -, ⟨adK, adV, hV, k2, k3, -⟩, -⟩ := hC.2.2.2.2.1
                unfold am_tk at hj
                split at hj <;> cases hj
                · exact ⟨adK 0, hw.1.trans k2, vk_recv hV (by omega) hS⟩
                · exact ⟨adK 1, hw.1.trans k3, vk_recv hV (by omega) hS⟩
          obtain ⟨b, rfl, hrecv⟩ := hrecv
          have hMet := am_Met ih hex hz hvs3 hfl hR hD hM
          obtain ⟨b1, b2, b3, b4, b5⟩ := base hM
          have hstk : st' = As.reverse ++ .ref b :: st'.drop (n0 + 1) := by
            have := hsp (n0 + 1)
            rw [hAs] at this
            simpa using this
          have hlen : As.length = n0 := by
            have h1 := hst.len
            have h2 : n0 + 1 ≤ st.length := hcat.2
            have h3 := congrArg List.length hAs
            simp at h3; omega
          have hpv : PreV s H C b (am_Pc X tk A cA dC dI (.ref b :: As) 0 ws) As := ⟨am_blind, hrecv, (am_pre hC hS hP).2⟩
          rcases hform with hform | ⟨ow, hsm, how, hdc⟩
          · exact fin _ _ (hst.drop (n0 + 1)) (va_runV (As := As) (b := b) (C := C) hcx hMet ⟨⟨rfl, rfl, b1, b2, b3, List.mem_singleton.mpr rfl, b4, b5, hM.2.2.2.1, by rw [hform]; exact am_np_len hnp, by rw [hform]; exact hts _ hlk rfl args⟩, hts _ hinst rfl args, by have := hts _ hse rfl args; rw [← hform] at this; exact this⟩ hpv rfl hlen hls hstk (lv_room hcat2) hdg hf) rfl
          · have hdcl : va_Decl s ⟨ow, xn.name, xn.desc⟩ := by
              rcases hdc with ⟨q1, bb, mm, rr, q2⟩ | q1
              · exact va_Decl.of (hts _ q1 rfl args) (hts _ q2 rfl args)
              · exact va_Decl.abs (hnw _ q1 rfl)
            exact fin _ _ (hst.drop (n0 + 1)) (va_runU (As := As) (b := b) (C := C) (owner := ow) (x := xn) hcx hMet ⟨⟨rfl, rfl, b1, b2, b3, List.mem_singleton.mpr rfl⟩, b4, b5, how, am_np_len hnp, hts _ hlk rfl args, hts _ hsm rfl args, hdcl, hts _ hse rfl args, hts _ hinst rfl args⟩ hpv rfl hlen hls hstk (lv_room hcat2) hdg hf) rfl
        · cases hc1
      · cases hcall
    · cases hcall
  · cases hcall
end AMU
