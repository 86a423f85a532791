/-! THE REFERENCE, 31: words and lights kept -/
section RN2
variable {X : am_X} {d : Nat} {s : mM} {hp : am_H} {Q : Option Value → am_H → Prop} {k n w : Nat} {t l : List Nat} {x : Int32} {bks : List Bk} {wds lis : List (List Nat)}
theorem c208_2_ok (hF : Fx s) (hT : MTp t s) (h120 : t.length ≤ 120) (hb : isB t) (hM : MWl wds s) (hroom : wds.length < 4) (h8 : (wde t).1.length ≤ 8) (hok : ∃ p, pfi t (wde t).2 = .inl p) (hq : ∀ s', FM [91, 92] tB s s' → MWl (wds ++ [(wde t).1]) s' → MTp [] s' → (∀ i, i ∈ [20, 21, 32, 33, 34, 35, 40, 53, 58, 64, 28, 7] → ri s' 80 i = ri s 80 i) → Q (some (.int (nI wds.length))) (mR s')) : gE X (d + 6) 208 [.ref 80, .int (nI 2)] (mR s) Q := by
  obtain ⟨p, hpp⟩ := hok
  have hpv : pfv (pfi t (wde t).2) = -1 := by rw [hpp]; rfl
  obtain ⟨o1, o2⟩ := wde_len (t := t)
  have e6 := hT.1
  have e31 := hM.1
  have L1 : ∀ s1 : mM, ((∀ i, i < 32 → ri s1 91 i = ri s 91 i) ∧ ∀ i, i < 4 → ri s1 92 i = ri s 92 i) → (ri s1 92 4 = nI (wde t).1.length ∧ ∀ k, k < (wde t).1.length → ri s1 91 (32 + k) = nI ((wde t).1.getD k 0)) → ∀ m k : Nat, k + m = 8 → ∀ s', Fx s' → FM [91, 92] tB s s' → (∀ i, i ∈ [20, 21, 32, 33, 34, 35, 40, 53, 58, 64, 28, 31, 7] → ri s' 80 i = ri s 80 i) → ri s' 80 6 = nI 0 → CPi 91 (8 * wds.length) 32 8 k s1 s' → (∀ i, ri s' 92 i = ri s1 92 i) → ∀ z2, am_nl z2 = true → gG X (d + 6) 208 179 [.ref 80, .int (nI 2), z2, .int (nI k)] [] (mR s') Q := by
    intro s1 hkb hdat m
    induction m with
    | zero =>
      intro k hk s' hF hf hsame e60 c1 c3 z2 n2
      have hk : k = 8 := by omega
      subst hk
      have e31 := (hsame 31 (by decide)).trans e31
      refine g_p t208_179 rfl ?_
      refine g_k (n := 8) t208_180 rfl rfl ?_
      refine n_cge t208_182 (by omega) (by omega) (fun h182 => ?_) (fun h182 => ?_)
      · refine g_p t208_214 rfl ?_
        refine r_getr t208_215 (f80 hF) rfl rfl ?_
        refine g_p t208_218 rfl ?_
        refine r_gete t208_219 (f80 hF) rfl rfl e31 ?_
        refine g_p t208_222 rfl ?_
        refine r_getr t208_223 (f80 hF) rfl rfl ?_
        refine g_k (n := 4) t208_226 rfl rfl ?_
        refine r_iale t208_227 (f92 hF) (by decide) (by omega) ((c3 4).trans hdat.1) ?_
        refine r_iast t208_228 (f92 hF) (by decide) (by omega) ?_
        refine g_p t208_229 rfl ?_
        refine g_p t208_230 rfl ?_
        refine r_gete t208_231 (f80 hF) rfl rfl e31 ?_
        refine g_k (n := 1) t208_234 rfl rfl ?_
        refine g_addn t208_235 ?_
        refine r_puti t208_236 (f80 hF) rfl rfl ?_
        refine g_p t208_239 rfl ?_
        refine r_gete t208_240 (f80 hF) rfl rfl rfl ?_
        refine g_k (n := 1) t208_243 rfl rfl ?_
        refine g_subn t208_244 (by omega) ?_
        refine i_ret t208_245 (by rw [Nat.add_sub_cancel]) (hq _ ((hf.w (by decide) (by decide)).m (by decide)) ⟨by rw [List.length_append]; rfl, by rw [List.length_append]; exact hroom, fun b hb2 => ?_⟩ ⟨e60, fun k hk => absurd hk (Nat.not_lt_zero k)⟩ (fun i hi => ?_))
        · rw [List.length_append] at hb2
          by_cases h9 : b < wds.length
          · rw [gDa1 h9]
            obtain ⟨q1, q2, q3, q4⟩ := hM.2.2 b h9
            refine ⟨?_, q2, q3, fun k hk => ⟨?_, (q4 k hk).2⟩⟩
            · rw [ri_wi_ne (by decide), ri_wi_j (Nat.ne_of_lt h9), c3, hkb.2 b (by omega)]; exact q1
            · rw [ri_wi_ne (by decide), ri_wi_ne (by decide), c1.2 _ (by omega), hkb.1 _ (by omega)]; exact (q4 k hk).1
          · have h9 : b = wds.length := by simp at hb2; omega
            subst h9
            rw [gDa2]
            refine ⟨?_, o1, h8, fun k hk => ⟨?_, o2 _ (getD_mem hk)⟩⟩
            · exact (ri_wi_ne (by decide)).trans ri_wi_eq
            · rw [ri_wi_ne (by decide), ri_wi_ne (by decide), c1.1 k (by omega)]; exact hdat.2 k hk
        · have hi2 : i ≠ 31 := fun e => by subst e; revert hi; decide
          rw [ri_wi_j hi2, ri_wi_ne (by decide)]
          exact hsame i (by simp only [List.mem_cons, List.not_mem_nil, or_false] at hi ⊢; omega)
      · exfalso; omega
    | succ m ih =>
      intro k hk s' hF hf hsame e60 c1 c3 z2 n2
      have e31 := (hsame 31 (by decide)).trans e31
      refine g_p t208_179 rfl ?_
      refine g_k (n := 8) t208_180 rfl rfl ?_
      refine n_cge t208_182 (by omega) (by omega) (fun h182 => ?_) (fun h182 => ?_)
      · exfalso; omega
      · refine g_p t208_185 rfl ?_
        refine r_getr t208_186 (f80 hF) rfl rfl ?_
        refine g_k (n := 8) t208_189 rfl rfl ?_
        refine g_p t208_191 rfl ?_
        refine r_gete t208_192 (f80 hF) rfl rfl e31 ?_
        refine g_muln t208_195 ?_
        refine g_p t208_196 rfl ?_
        refine g_addn t208_197 ?_
        refine g_p t208_198 rfl ?_
        refine r_getr t208_199 (f80 hF) rfl rfl ?_
        refine g_k (n := 32) t208_202 rfl rfl ?_
        refine g_p t208_204 rfl ?_
        refine g_addn t208_205 ?_
        refine r_iald t208_206 (f91 hF) (by decide) (by omega) ?_
        refine r_iast t208_207 (f91 hF) (by decide) (by omega) ?_
        refine g_incn (n := 1) t208_208 rfl rfl (Nat.le_of_ble_eq_true rfl) (am_s1_3 n2) ?_
        refine g_goto t208_211 ?_
        have c5 := c1.n (by omega) (Or.inr (by omega))
        exact ih (k + 1) (by omega) _ (Fx.fr (A := [91]) hF (Fr.rf.wi (by decide))) (hf.w (by decide) (by decide)) (fun i hi => by rw [ri_wi_ne (by decide)]; exact hsame i hi) (by exact e60) c5 (by exact c3) _ n2
  refine en208 rfl rfl ?_
  refine g_p t208_0 rfl ?_
  refine g_k (n := 0) t208_1 rfl rfl ?_
  refine r_puti t208_2 (f80 hF) rfl rfl ?_
  refine g_p t208_5 rfl ?_
  refine g_p t208_6 rfl ?_
  refine g_p t208_7 rfl ?_
  refine g_p t208_8 rfl ?_
  refine g_cs t208_11 rfl rfl rfl ?_
  refine c176i (a := nI 0) (b := nI 3) rfl rfl ?_
  rw [isR_n (a := 0) (b := 3) (n := 2) (by decide) (by decide) (by decide)]
  refine k_v ?_ rfl
  refine b_eq t208_14 (fun h14 => ?_) (fun h14 => ?_)
  · first
      | (have u0 : true = false := h14
         exact absurd u0 (by decide))
      | (have u0 : true = false := h22
         exact absurd u0 (by decide))
      | (have u0 : ¬ (-1 : Int32) = -1 := h31
         exact absurd rfl u0)
  · refine g_p t208_17 rfl ?_
    refine g_p t208_18 rfl ?_
    refine r_cv t208_19 (f80 hF) rfl ?_
    refine c207_2 (by exact hF) (by exact e31) (by omega) ?_
    rw [decide_eq_true hroom]
    refine k_v ?_ rfl
    refine b_eq t208_22 (fun h22 => ?_) (fun h22 => ?_)
    · first
        | (have u0 : true = false := h14
           exact absurd u0 (by decide))
        | (have u0 : true = false := h22
           exact absurd u0 (by decide))
        | (have u0 : ¬ (-1 : Int32) = -1 := h31
           exact absurd rfl u0)
    · refine g_p t208_25 rfl ?_
      refine g_p t208_26 rfl ?_
      refine r_cv t208_27 (f80 hF) rfl ?_
      refine c206_2 (d := d) (Fx.fr (A := [80]) hF (Fr.rf.wi (by decide))) (show MTp t (wi s 80 0 (nI 0)) from hT) h120 hb (fun s1 f1 hkb hdat => ?_)
      rw [hpv]
      have hF := Fx.fr (Fx.fr (A := [80]) hF (Fr.rf.wi (p := 80) (i := 0) (v := nI 0) (by decide))) f1.1
      have e6 := (f1.f (i := 6) (by decide)).trans e6
      refine k_v ?_ rfl
      refine g_p t208_30 rfl ?_
      refine g_ceq t208_31 (fun h31 => ?_) (fun h31 => ?_)
      · refine g_p t208_36 rfl ?_
        refine r_gete t208_37 (f80 hF) rfl rfl e6 ?_
        refine g_isn t208_40 (Nat.le_of_ble_eq_true rfl) (am_s1_2 rfl) ?_
        refine g_p t208_41 rfl ?_
        refine g_k (n := 0) t208_42 rfl rfl ?_
        refine r_puti t208_43 (f80 hF) rfl rfl ?_
        refine g_p t208_46 rfl ?_
        refine g_k (n := 1) t208_47 rfl rfl ?_
        refine n_cne t208_48 (by decide) (by decide) (fun _ => ?_) (fun h => absurd h (by decide))
        refine g_p t208_172 rfl ?_
        refine g_k (n := 2) t208_173 rfl rfl ?_
        refine n_cne t208_174 (by decide) (by decide) (fun h => absurd rfl h) (fun _ => ?_)
        refine g_k (n := 0) t208_177 rfl rfl ?_
        refine g_isn t208_178 (Nat.le_of_ble_eq_true rfl) (am_s1_3 rfl) ?_
        refine L1 (wi s1 80 6 (nI 0)) hkb (hdat ⟨p, hpp⟩) 8 0 (by omega) _ (Fx.fr (A := [80]) hF (Fr.rf.wi (by decide))) (((FM.rf.m (A := [91, 92]) (B := tB) (i := 0) (v := nI 0) (by decide)).tr (f1.mono (by decide) (by decide))).m (by decide)) (fun i hi => ?_) rfl ⟨fun i hi => absurd hi (Nat.not_lt_zero i), fun i _ => rfl⟩ (fun _ => rfl) _ rfl
        have hi2 : i ≠ 6 := fun e => by subst e; revert hi; decide
        have hi3 : i ≠ 0 := fun e => by subst e; revert hi; decide
        rw [ri_wi_j hi2, f1.f (i := i) (by intro h; simp only [List.mem_cons, List.not_mem_nil, or_false] at hi h; omega), ri_wi_j hi3]
      · first
          | (have u0 : true = false := h14
             exact absurd u0 (by decide))
          | (have u0 : true = false := h22
             exact absurd u0 (by decide))
          | (have u0 : ¬ (-1 : Int32) = -1 := h31
             exact absurd rfl u0)
theorem c208_3_ok (hF : Fx s) (hT : MTp t s) (h120 : t.length ≤ 120) (hb : isB t) (hM : MLi lis s) (hroom : lis.length < 4) (hok : ∃ p, pfi t (lwo t fun _ => nI 0).2 = .inl p) (hq : ∀ s', FM [82, 83] tB s s' → MLi (lis ++ [t]) s' → MTp [] s' → (∀ i, i ∈ [20, 21, 32, 33, 34, 35, 40, 53, 58, 64, 28, 31] → ri s' 80 i = ri s 80 i) → Q (some (.int (nI lis.length))) (mR s')) : gE X (d + 205) 208 [.ref 80, .int (nI 3)] (mR s) Q := by
  obtain ⟨p, hpp⟩ := hok
  have hpv : pfv (pfi t (lwo t fun _ => nI 0).2) = -1 := by rw [hpp]; rfl
  have e6 := hT.1
  have e7 := hM.1
  have L1 : ∀ m k : Nat, k + m = t.length → ∀ s', Fx s' → FM [82, 83] tB s s' → (∀ i, i ∈ [20, 21, 32, 33, 34, 35, 40, 53, 58, 64, 28, 31, 7] → ri s' 80 i = ri s 80 i) → ri s' 80 6 = nI 0 → (∀ i, i < k → ri s' 82 (120 * lis.length + i) = sb (t.getD i 0)) → (∀ i, i < 120 * lis.length → ri s' 82 i = ri s 82 i) → (∀ i, ri s' 83 i = ri s 83 i) → gG X (d + 205) 208 253 [.ref 80, .int (nI 3), .int (nI t.length), .int (nI k)] [] (mR s') Q := by
    intro m
    induction m with
    | zero =>
      intro k hk s' hF hf hsame e60 c1 c2 c3
      have hk : k = t.length := by omega
      subst hk
      have e7 := (hsame 7 (by decide)).trans e7
      refine g_p t208_253 rfl ?_
      refine g_p t208_254 rfl ?_
      refine n_cge t208_255 (by omega) (by omega) (fun h255 => ?_) (fun h255 => ?_)
      · refine g_p t208_284 rfl ?_
        refine r_getr t208_285 (f80 hF) rfl rfl ?_
        refine g_p t208_288 rfl ?_
        refine r_gete t208_289 (f80 hF) rfl rfl e7 ?_
        refine g_p t208_292 rfl ?_
        refine r_iast t208_293 (f83 hF) (by decide) (by omega) ?_
        refine g_p t208_294 rfl ?_
        refine g_p t208_295 rfl ?_
        refine r_gete t208_296 (f80 hF) rfl rfl e7 ?_
        refine g_k (n := 1) t208_299 rfl rfl ?_
        refine g_addn t208_300 ?_
        refine r_puti t208_301 (f80 hF) rfl rfl ?_
        refine g_p t208_304 rfl ?_
        refine r_gete t208_305 (f80 hF) rfl rfl rfl ?_
        refine g_k (n := 1) t208_308 rfl rfl ?_
        refine g_subn t208_309 (by omega) ?_
        refine i_ret t208_310 (by rw [Nat.add_sub_cancel]) (hq _ ((hf.w (by decide) (by decide)).m (by decide)) ⟨by rw [List.length_append]; rfl, by rw [List.length_append]; exact hroom, fun b hb2 => ?_⟩ ⟨e60, fun k hk => absurd hk (Nat.not_lt_zero k)⟩ (fun i hi => ?_))
        · rw [List.length_append] at hb2
          by_cases h9 : b < lis.length
          · rw [gDa1 h9]
            obtain ⟨q1, ⟨h1, h2, h3, h4, h5, h6, h7⟩, q3⟩ := hM.2.2 b h9
            refine ⟨?_, ⟨fun k hk => ?_, f82 hF, h3, h4, h5, h6, h7⟩, q3⟩
            · rw [ri_wi_ne (by decide), ri_wi_j (Nat.ne_of_lt h9), c3]; exact q1
            · rw [ri_wi_ne (by decide), ri_wi_ne (by decide), c2 _ (by omega)]; exact h1 k hk
          · have h9 : b = lis.length := by simp at hb2; omega
            subst h9
            rw [gDa2]
            refine ⟨(ri_wi_ne (by decide)).trans ri_wi_eq, ⟨fun k hk => ?_, f82 hF, by omega, by decide, Or.inr rfl, h120, hb⟩, fun a => ⟨p, ?_⟩⟩
            · rw [ri_wi_ne (by decide), ri_wi_ne (by decide)]; exact c1 k hk
            · rw [lwo_i (a := a) (a' := fun _ => nI 0)]; exact hpp
        · have hi2 : i ≠ 7 := fun e => by subst e; revert hi; decide
          rw [ri_wi_j hi2, ri_wi_ne (by decide)]
          exact hsame i (by simp only [List.mem_cons, List.not_mem_nil, or_false] at hi ⊢; omega)
      · exfalso; omega
    | succ m ih =>
      intro k hk s' hF hf hsame e60 c1 c2 c3
      have e7 := (hsame 7 (by decide)).trans e7
      have htk := (hf.g (p := 81) (i := k) (by decide)).trans (hT.2 k (by omega))
      refine g_p t208_253 rfl ?_
      refine g_p t208_254 rfl ?_
      refine n_cge t208_255 (by omega) (by omega) (fun h255 => ?_) (fun h255 => ?_)
      · exfalso; omega
      · refine g_p t208_258 rfl ?_
        refine r_getr t208_259 (f80 hF) rfl rfl ?_
        refine g_k (n := 120) t208_262 rfl rfl ?_
        refine g_p t208_264 rfl ?_
        refine r_gete t208_265 (f80 hF) rfl rfl e7 ?_
        refine g_muln t208_268 ?_
        refine g_p t208_269 rfl ?_
        refine g_addn t208_270 ?_
        refine g_p t208_271 rfl ?_
        refine r_getr t208_272 (f80 hF) rfl rfl ?_
        refine g_p t208_275 rfl ?_
        refine r_bale t208_276 (f81 hF) (Or.inl rfl) (by decide) (by omega) htk ?_
        refine r_bast t208_277 (f82 hF) (by decide) (by omega) ?_
        refine g_incn (n := 1) t208_278 rfl rfl (Nat.le_of_ble_eq_true rfl) (am_s1_3 rfl) ?_
        refine g_goto t208_281 ?_
        have e9 : vp_nar .byte (sb (t.getD k 0)) = sb (t.getD k 0) := nar_b _
        rw [e9]
        exact ih (k + 1) (by omega) _ (Fx.fr (A := [82]) hF (Fr.rf.wi (by decide))) (hf.w (by decide) (by decide)) (fun i hi => by rw [ri_wi_ne (by decide)]; exact hsame i hi) (by exact e60) (fun i hi => by
          by_cases h9 : i = k
          · subst h9; exact ri_wi_eq
          · rw [ri_wi_j (by omega)]; exact c1 i (by omega)) (fun i hi => by rw [ri_wi_j (by omega)]; exact c2 i hi) (by exact c3)
  refine en208 rfl rfl ?_
  refine g_p t208_0 rfl ?_
  refine g_k (n := 0) t208_1 rfl rfl ?_
  refine r_puti t208_2 (f80 hF) rfl rfl ?_
  refine g_p t208_5 rfl ?_
  refine g_p t208_6 rfl ?_
  refine g_p t208_7 rfl ?_
  refine g_p t208_8 rfl ?_
  refine g_cs t208_11 rfl rfl rfl ?_
  refine c176i (a := nI 0) (b := nI 3) rfl rfl ?_
  rw [isR_n (a := 0) (b := 3) (n := 3) (by decide) (by decide) (by decide)]
  refine k_v ?_ rfl
  refine b_eq t208_14 (fun h14 => ?_) (fun h14 => ?_)
  · first
      | (have u0 : true = false := h14
         exact absurd u0 (by decide))
      | (have u0 : true = false := h22
         exact absurd u0 (by decide))
      | (have u0 : ¬ (-1 : Int32) = -1 := h31
         exact absurd rfl u0)
  · refine g_p t208_17 rfl ?_
    refine g_p t208_18 rfl ?_
    refine r_cv t208_19 (f80 hF) rfl ?_
    refine c207_3 (by exact hF) (by exact e7) (by omega) ?_
    rw [decide_eq_true hroom]
    refine k_v ?_ rfl
    refine b_eq t208_22 (fun h22 => ?_) (fun h22 => ?_)
    · first
        | (have u0 : true = false := h14
           exact absurd u0 (by decide))
        | (have u0 : true = false := h22
           exact absurd u0 (by decide))
        | (have u0 : ¬ (-1 : Int32) = -1 := h31
           exact absurd rfl u0)
    · refine g_p t208_25 rfl ?_
      refine g_p t208_26 rfl ?_
      refine r_cv t208_27 (f80 hF) rfl ?_
      refine c206_3 (d := d) (Fx.fr (A := [80]) hF (Fr.rf.wi (by decide))) (show MTp t (wi s 80 0 (nI 0)) from hT) h120 hb (fun s1 f1 _ => ?_)
      rw [hpv]
      have hF := Fx.fr (Fx.fr (A := [80]) hF (Fr.rf.wi (p := 80) (i := 0) (v := nI 0) (by decide))) f1.1
      have e6 := (f1.f (i := 6) (by decide)).trans e6
      refine k_v ?_ rfl
      refine g_p t208_30 rfl ?_
      refine g_ceq t208_31 (fun h31 => ?_) (fun h31 => ?_)
      · refine g_p t208_36 rfl ?_
        refine r_gete t208_37 (f80 hF) rfl rfl e6 ?_
        refine g_isn t208_40 (Nat.le_of_ble_eq_true rfl) (am_s1_2 rfl) ?_
        refine g_p t208_41 rfl ?_
        refine g_k (n := 0) t208_42 rfl rfl ?_
        refine r_puti t208_43 (f80 hF) rfl rfl ?_
        refine g_p t208_46 rfl ?_
        refine g_k (n := 1) t208_47 rfl rfl ?_
        refine n_cne t208_48 (by decide) (by decide) (fun _ => ?_) (fun h => absurd h (by decide))
        refine g_p t208_172 rfl ?_
        refine g_k (n := 2) t208_173 rfl rfl ?_
        refine n_cne t208_174 (by decide) (by decide) (fun _ => ?_) (fun h => absurd h (by decide))
        refine g_p t208_246 rfl ?_
        refine g_k (n := 3) t208_247 rfl rfl ?_
        refine n_cne t208_248 (by decide) (by decide) (fun h => absurd rfl h) (fun _ => ?_)
        refine g_k (n := 0) t208_251 rfl rfl ?_
        refine g_isn t208_252 (Nat.le_of_ble_eq_true rfl) (am_s1_3 rfl) ?_
        refine L1 t.length 0 (by omega) _ (Fx.fr (A := [80]) hF (Fr.rf.wi (by decide))) (((FM.rf.m (A := [82, 83]) (B := tB) (i := 0) (v := nI 0) (by decide)).tr (f1.mono (by decide) (by decide))).m (by decide)) (fun i hi => ?_) rfl (fun i hi => absurd hi (Nat.not_lt_zero i)) (fun i _ => f1.g (by decide)) (fun i => f1.g (by decide))
        have hi2 : i ≠ 6 := fun e => by subst e; revert hi; decide
        have hi3 : i ≠ 0 := fun e => by subst e; revert hi; decide
        rw [ri_wi_j hi2, f1.f (i := i) (by intro h; simp only [List.mem_cons, List.not_mem_nil, or_false] at hi h; omega), ri_wi_j hi3]
      · first
          | (have u0 : true = false := h14
             exact absurd u0 (by decide))
          | (have u0 : true = false := h22
             exact absurd u0 (by decide))
          | (have u0 : ¬ (-1 : Int32) = -1 := h31
             exact absurd rfl u0)
theorem c175 (hF : Fx s) (e0 : ri s 80 0 = x) (hq : Q (some (.int x)) (mR s)) : gE X d 175 [.ref 80] (mR s) Q := by
  refine en175 rfl ?_
  refine g_p t175_0 rfl ?_
  refine r_gete t175_1 (f80 hF) rfl rfl e0 ?_
  exact i_ret t175_4 rfl hq
end RN2
