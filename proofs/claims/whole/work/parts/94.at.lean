/-! SOUNDNESS, 10: the call that may throw -/
theorem am_kk6 : (List.range 286).all (fun y => (am_tab y).all (fun e => decide (e.2.1 < 6) || (decide (y = 285) && decide (e = (352, 6, .invokestatic 37, 355, [136], .null))) || (decide (y = 136) && decide (e = (11, 7, .new 210, 14, [1, 6], .null))))) = true := by decide +kernel
theorem am_k6_s {y pc : Nat} {t : am_I} (h : am_T y pc = some t) (hk : ¬ t.1 < 6) : (y = 285 ∧ pc = 352 ∧ t = (6, .invokestatic 37, 355, [136], .null)) ∨ (y = 136 ∧ pc = 11 ∧ t = (7, .new 210, 14, [1, 6], .null)) := by
  unfold am_T at h
  cases hf : (am_tab y).find? (fun e => e.1 == pc) with
  | none => rw [hf] at h; cases h
  | some e =>
    rw [hf] at h
    cases h
    have hm := List.mem_of_find?_eq_some hf
    have hp := List.find?_some hf
    simp only [beq_iff_eq] at hp
    rcases Nat.lt_or_ge y 286 with hy | hy
    · have h1 := List.all_eq_true.mp (List.all_eq_true.mp am_kk6 y (List.mem_range.mpr hy)) e hm
      simp only [Bool.or_eq_true, Bool.and_eq_true, decide_eq_true_eq] at h1
      rcases h1 with (h1 | h1) | h1
      · exact absurd h1 hk
      · obtain ⟨h1, rfl⟩ := h1
        exact Or.inl ⟨h1, hp.symm, rfl⟩
      · obtain ⟨h1, rfl⟩ := h1
        exact Or.inr ⟨h1, hp.symm, rfl⟩
    · rw [am_tab_big hy] at hm
      cases hm
def am_NSE : String := "java/util/NoSuchElementException"
def am_atW : List Jvm.Cond := vx_atS "FlowerPots" 214 am_NSE ["java/lang/RuntimeException", "java/lang/Exception"]
theorem am_tst1 : (am_atW.filter goodWord).all (fun w => decide (w ∈ lw_tbl)) = true := by decide +kernel
theorem am_tst2 : (am_atW.filter (fun w => !goodWord w)).all am_nw = true := by decide +kernel
theorem am_tst3 : (am_atW.filter (fun w => !goodWord w)).all (fun w => decide (w ∈ lw_tbl)) = true := by decide +kernel
theorem am_tst4 : (am_atW.filter (fun w => !goodWord w)).length = 1 := by decide +kernel
theorem am_tst5 : (am_atW.filter (fun w => !goodWord w)) = [.castable am_NSE am_NSE] := by decide +kernel
theorem am_atW_in : ∀ w ∈ am_atW, w ∈ lw_tbl ∧ (goodWord w = true ∨ am_nw w = true) := by
  have h : am_atW.all (fun w => decide (w ∈ lw_tbl) && (goodWord w || am_nw w)) = true := by decide +kernel
  intro w hw
  have h1 := List.all_eq_true.mp h w hw
  simp only [Bool.and_eq_true, Bool.or_eq_true, decide_eq_true_eq] at h1
  exact h1
theorem am_w_e1 : Jvm.Cond.classLink "FlowerPots" 210 am_NSE ∈ lw_tbl := am_gw (by decide +kernel)
theorem am_w_e2 : Jvm.Cond.initialized am_NSE ∈ lw_tbl := am_gw (by decide +kernel)
theorem am_w_e3 : Jvm.Cond.classLink "FlowerPotsLaw" 13 am_NSE ∈ lw_tbl := am_gw (by decide +kernel)
theorem am_w_e4 : Jvm.Cond.castable am_NSE am_NSE ∈ lw_tbl := am_gw (by decide +kernel)
def am_yat : MethodName := ⟨"FlowerPotsLaw", "at", "(LFlowerPots;I[J)I"⟩
theorem am_w_a1 : Jvm.Cond.methodLink "FlowerPotsLaw" 37 am_yat ∈ lw_tbl := am_gw (by decide +kernel)
theorem am_w_a2 : Jvm.Cond.static am_yat ∈ lw_tbl := am_gw (by decide +kernel)
theorem am_w_a3 : Jvm.Cond.codeWith am_yat method_3_code 4 (some .int) [(0, 9, 12, 13)] ∈ lw_tbl := am_gw (by decide +kernel)
theorem am_w_a4 : Jvm.Cond.initialized "FlowerPotsLaw" ∈ lw_tbl := am_gw (by decide +kernel)
theorem am_w_a5 : Jvm.Cond.methodLink "FlowerPotsLaw" 7 (am_Mt 136).1 ∈ lw_tbl := am_gw (by decide +kernel)
theorem am_w_a6 : Jvm.Cond.instanceMethod (am_Mt 136).1 ∈ lw_tbl := am_gw (by decide +kernel)
theorem am_w_a7 : Jvm.Cond.selects "FlowerPots" (am_Mt 136).1 (am_Mt 136).1 ∈ lw_tbl := am_gw (by decide +kernel)
theorem am_np136 : am_np (am_Mt 136).1.desc 1 := by unfold am_np; decide +kernel
theorem am_d136_11 : decode (am_Mt 136).2.1 11 = .ok (.new 210, 3) := by decide +kernel
theorem am_d136_14 : decode (am_Mt 136).2.1 14 = .ok (.dup, 1) := by decide +kernel
theorem am_d136_15 : decode (am_Mt 136).2.1 15 = .ok (.ldc 212, 2) := by decide +kernel
theorem am_d136_17 : decode (am_Mt 136).2.1 17 = .ok (.invokespecial 214, 3) := by decide +kernel
theorem am_d136_20 : decode (am_Mt 136).2.1 20 = .ok (.athrow, 1) := by decide +kernel
theorem am_dat_0 : decode method_3_code 0 = .ok (.aload_n 2, 1) := by decide +kernel
theorem am_dat_1 : decode method_3_code 1 = .ok (.iconst 0, 1) := by decide +kernel
theorem am_dat_2 : decode method_3_code 2 = .ok (.aload_n 0, 1) := by decide +kernel
theorem am_dat_3 : decode method_3_code 3 = .ok (.iload_n 1, 1) := by decide +kernel
theorem am_dat_4 : decode method_3_code 4 = .ok (.invokevirtual 7, 3) := by decide +kernel
theorem am_dat_7 : decode method_3_code 7 = .ok (.i2l, 1) := by decide +kernel
theorem am_dat_8 : decode method_3_code 8 = .ok (.lastore, 1) := by decide +kernel
theorem am_dat_9 : decode method_3_code 9 = .ok (.goto 6, 3) := by decide +kernel
theorem am_dat_12 : decode method_3_code 12 = .ok (.astore_n 3, 1) := by decide +kernel
theorem am_dat_13 : decode method_3_code 13 = .ok (.iconst 1, 1) := by decide +kernel
theorem am_dat_14 : decode method_3_code 14 = .ok (.ireturn, 1) := by decide +kernel
theorem am_dat_15 : decode method_3_code 15 = .ok (.iconst 0, 1) := by decide +kernel
theorem am_dat_16 : decode method_3_code 16 = .ok (.ireturn, 1) := by decide +kernel
section AMX
variable {X : am_X} {tk : Nat → Value} {A : Nat → Prop} {cA dC : Nat → ClassId} {dI : Nat → Nat → Nat} {l : Launch}
/-- what stands when it has thrown -/
def am_XC (tk : Nat → Value) (A : Nat → Prop) (cA dC : Nat → ClassId) (dI : Nat → Nat → Nat) (ad : Nat → Nat) (nx : Nat) (v : Option Value) (hpz : am_H) : String → State → State → Prop := fun E st t =>
  E = am_NSE ∧ am_thr v = true ∧ ∃ (ad1 : Nat → Nat) (ws1 : va_W), (∀ q, q < nx → ad1 q = ad q) ∧ am_Rl tk ad1 cA hpz ws1 ∧ va_P (dC, dI) vwCl ws1 t.heap ∧ va_D A ws1 ∧ va_F A st t
set_option maxHeartbeats 1000000 in
theorem am_vMet {n : Nat} (ih : am_S am_T am_mx am_DF X tk A cA dC dI am_Mt l n) (hfl : l.stackTraces = false) {d x : Nat} {p0 : Int32} {hp hpz : am_H} {v : Option Value} (hex : am_ex am_T am_mx am_DF X n (d + 7) 136 0 (am_ent (am_mx 136) [.ref x, .int p0]) [] hp = some (v, hpz)) {ad : Nat → Nat} {ws : va_W} (hx : x < hp.2.1) (hR : am_Rl tk ad cA hp ws) (hD : va_D A ws) :
    vx_Met l (am_Mt 136).1 [Jvm.Cond.code (am_Mt 136).1 (am_Mt 136).2.1 (am_mx 136) (am_Mt 136).2.2] (am_rm (d + 7) (hpz.2.2.1 - hp.2.2.1) (hpz.2.2.2 - hp.2.2.2)) (am_Pc X tk A cA dC dI [.ref (ad x), .int p0] 0 ws) (am_Qc tk A cA dC dI ad hp.2.1 v hpz) (am_XC tk A cA dC dI ad hp.2.1 v hpz) (hpz.2.2.1 - hp.2.2.1) (hpz.2.2.2 - hp.2.2.2) A := by
  have hle : am_le hp hpz := am_ex_mn _ _ _ _ _ _ _ _ hex
  refine vx_ofW (cc := (am_Mt 136).2.1) (maxL := am_mx 136) (ret := (am_Mt 136).2.2) (by decide +kernel) rfl ?_
  intro p e s m args below meth c s₁ B hml hno hv1
  obtain ⟨rfl, hC, hP⟩ := hv1
  have hown : s.vm.findClass (am_Mt 136).1.cls = some m.cls := findClass_of_methodNamed B.named
  have hmn : meth.name = (am_Mt 136).1.name := (name_of_methodNamed B.named B.method).1
  rw [lg_entry_eq]
  have h0 : ∀ k, k - k = 0 := fun k => by omega
  have hvs : am_vs tk ad hp.2.1 [.ref x, .int p0] [.ref (ad x), .int p0] := ⟨_, _, rfl, ⟨hx, rfl⟩, _, _, rfl, rfl, rfl⟩
  have hfr : (headSpec [Jvm.Cond.code (am_Mt 136).1 (am_Mt 136).2.1 (am_mx 136) (am_Mt 136).2.2] (am_rm (d + 7) (hpz.2.2.1 - hp.2.2.1) (hpz.2.2.2 - hp.2.2.2))).room.frames = d + 8 := rfl
  have hlo : (headSpec [Jvm.Cond.code (am_Mt 136).1 (am_Mt 136).2.1 (am_mx 136) (am_Mt 136).2.2] (am_rm (d + 7) (hpz.2.2.1 - hp.2.2.1) (hpz.2.2.2 - hp.2.2.2))).room.locals = (d + 8) * 64 := rfl
  have hce : (headSpec [Jvm.Cond.code (am_Mt 136).1 (am_Mt 136).2.1 (am_mx 136) (am_Mt 136).2.2] (am_rm (d + 7) (hpz.2.2.1 - hp.2.2.1) (hpz.2.2.2 - hp.2.2.2))).room.cells = hpz.2.2.1 - hp.2.2.1 := rfl
  have hsl : (headSpec [Jvm.Cond.code (am_Mt 136).1 (am_Mt 136).2.1 (am_mx 136) (am_Mt 136).2.2] (am_rm (d + 7) (hpz.2.2.1 - hp.2.2.1) (hpz.2.2.2 - hp.2.2.2))).room.slots = hpz.2.2.2 - hp.2.2.2 := rfl
  generalize (headSpec [Jvm.Cond.code (am_Mt 136).1 (am_Mt 136).2.1 (am_mx 136) (am_Mt 136).2.2] (am_rm (d + 7) (hpz.2.2.1 - hp.2.2.1) (hpz.2.2.2 - hp.2.2.2))).room = R at hfr hlo hce hsl ⊢
  have := ih (d + 7) 136 0 (am_ent (am_mx 136) [.ref x, .int p0]) [] hp v hpz hex p e R s m _ below meth c ⟨B.exec, B.bytes, hml, hown, hmn, by omega, by omega⟩ hC ad ws s.heap [] _ [] hR (am_ent_L hvs (by have : am_mx 136 = 2 := by decide +kernel
                                                                                                                                                                                                                                                                  rw [this]; exact Nat.le_refl 2)) rfl hP hD va_S.rf hp.2.2.1 hp.2.2.2 (Nat.le_refl _) (Nat.le_refl _) (by omega) (by omega)
    (vx_MQ below (am_Qc tk A cA dC dI ad hp.2.1 v hpz) (am_XC tk A cA dC dI ad hp.2.1 v hpz) ([.ref (ad x), .int p0] : List Value).toArray s (hpz.2.2.1 - hp.2.2.1) (hpz.2.2.2 - hp.2.2.2) A)
    (fun ad1 ws1 H1 locs1 pc1 l1 i r st1 st1' q1 q2 q3 q4 q5 q6 q7 q8 q9 => vx_ret (am_end B.exec B.bytes B.returns B.notSynchronized ad1 ws1 H1 locs1 pc1 l1 i r st1 st1' q1 q2 q3 q4 q5 q6 q7 q8 q9))
    (fun hthr ad1 ws1 H1 locs1 pc1 l1 t hp0 st1 st1' ht hk hcat he hag hR1 hP1 hD1 hS1 hl1 hc1 hs1 hst1 => by
      rcases am_k6_s ht (by omega) with ⟨h, -⟩ | ⟨-, rfl, rfl⟩
      · cases h
      · have he : hpz = (hp0.1, hp0.2.1, hp0.2.2.1 + 1, hp0.2.2.2 + 6) := he
        subst he
        have hcat : (st1'.map fun v => v.category).sum ≤ 8 := by
          have h9 : am_cat st1' ≤ 8 := by rw [hst1.cat]; exact hcat
          exact h9
        have hle1 : hp0.2.2.1 + 1 - hp.2.2.1 ≤ R.cells := by rw [hce]; exact Nat.le_refl _
        have hle2 : hp0.2.2.2 + 6 - hp.2.2.2 ≤ R.slots := by rw [hsl]; exact Nat.le_refl _
        obtain ⟨t1, t2, sa, t3⟩ := hC.2.2.1.2
        have hat : ∀ w ∈ am_atW, w.before ([.ref (ad x), .int p0] : List Value).toArray s = true := fun w hw => by
          obtain ⟨w1, w2⟩ := am_atW_in w hw
          by_cases hg : goodWord w = true
          · exact hC.1 w w1 hg _
          · rcases w2 with w2 | w2
            · exact absurd w2 hg
            · exact va_Nw.use (by unfold am_nw at w2; split at w2 <;> first | rfl | cases w2) (hC.2.1 w w1 w2)
        exact vx_throwS (cls := am_NSE) (names := ["java/lang/RuntimeException", "java/lang/Exception"]) (own := "FlowerPots") (ik := 210) (is := 212) (ic := 214) (sa := sa) B.exec B.bytes hfl hown (by decide +kernel) (by decide +kernel) (hC.1 _ am_w_e1 rfl _) (hC.1 _ am_w_e2 rfl _) t3 hat (by decide +kernel) t1 t2 hS1 (by rw [hl1, hml]) am_d136_11 am_d136_14 am_d136_15 am_d136_17 am_d136_20 (fun z hz => (hno z hz).elim) (by rw [hfr]; simp) (by rw [hlo]; simp only [List.length_cons, List.length_nil]; omega) (by omega) (by omega) B.notSynchronized
          (fun t _ hz1 hz2 => ⟨rfl, hthr, ad1, ws1, hag, hR1, hP1.kept (fun k q hk => hz2 q.1 ((hP1 k q hk).lt)), hD1, ⟨Nat.le_trans hS1.1 hz1, fun q h1 h2 => (hz2 q (Nat.lt_of_lt_of_le h1 hS1.1)).trans (hS1.2.1 q h1 h2)⟩⟩) hS1.2.2 (show hp0.2.2.1 - hp.2.2.1 + 1 ≤ hp0.2.2.1 + 1 - hp.2.2.1 by omega) (show hp0.2.2.2 - hp.2.2.2 + 6 ≤ hp0.2.2.2 + 6 - hp.2.2.2 by omega))
  rw [h0, h0] at this
  exact this
end AMX
