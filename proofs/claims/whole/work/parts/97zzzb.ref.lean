/-! THE REFERENCE, 19: atoms -/
section RB
variable {X : am_X} {d : Nat} {s : mM} {hp : am_H} {Q : Option Value → am_H → Prop} {T nT B k n w : Nat} {t : List Nat} {σ : Ps} {a : Nat → Int32} {V : Prop} {f g : Ps → LV} {u : Int64}
theorem am3_f {x : Nat} (hx : x < 256) (h1 : ¬ x = 112) (h2 : ¬ x = 100) (h3 : ¬ x = 115) (h4 : ¬ x = 110) : am3 (lk x) = false := by
  unfold am3
  rw [decide_eq_false (fun e => h1 ((lk_e hx (by decide) (by decide)).mp e)), decide_eq_false (fun e => h2 ((lk_e hx (by decide) (by decide)).mp e)), decide_eq_false (fun e => h3 ((lk_e hx (by decide) (by decide)).mp e)), decide_eq_false (fun e => h4 ((lk_e hx (by decide) (by decide)).mp e))]
  rfl
theorem c189_112 (hF : Fx s) (hX : MT T nT B t s) {j : Nat} (hS : MS t (.inl j) s) (e12 : ri s 80 12 = nI k) (hL : V → LTm a s) (hc : sgn t j = 112) (hq : ∀ s' v, FM [] rB s s' → RM t (pst t (.inl j)) s' → (ri s' 80 11 = -1 → ri s' 80 12 = nI k ∧ (V → v.toInt64 = (a 4).toInt64 ∧ bd (a 4).toInt64)) → Q (some (.int v)) (mR s')) : gE X (d + 5) 189 [.ref 80] (mR s) Q := by
  have h120 := hX.2.2.2.2.2.2.2.2.1
  have h11 := hS.1
  have hsp := hS.sk
  have hsg := hX.sg j
  have hjl : j + 1 ≤ t.length := sgn_pos (by omega)
  refine en189 rfl ?_
  refine g_p t189_0 rfl ?_
  refine r_cv t189_1 (f80 hF) rfl ?_
  refine c183 (by exact hF) (by exact hX) (by exact hS) (fun s1 f1 hJ => ?_)
  have e10 := hJ.2.2
  rw [hc, show lk 112 = nI 112 from rfl]
  refine k_v ?_ rfl
  have hF := Fx.fr (by exact hF) f1.1
  have h11 := (f1.f (i := 11) (by decide)).trans h11
  have e12 := (f1.f (i := 12) (by decide)).trans e12
  have hX := MT.fm (by exact hX) f1 (by decide) (by decide) (by decide) (by decide) (by decide)
  refine g_isn t189_4 (Nat.le_of_ble_eq_true rfl) (am_s1_1 rfl) ?_
  refine g_h t189_5 rfl ?_
  refine g_p t189_7 rfl ?_
  refine g_cs t189_8 rfl rfl rfl ?_
  refine c178_3 ?_
  rw [show am3 (nI 112) = true from by decide]
  refine k_v ?_ rfl
  refine b_eq t189_11 (fun h11 => ?_) (fun h11 => ?_)
  · exact no_b rfl h11
  · refine g_p t189_14 rfl ?_
    refine g_p t189_15 rfl ?_
    refine r_gete t189_16 (f80 hF) rfl rfl e10 ?_
    refine g_k (n := 1) t189_19 rfl rfl ?_
    refine g_addn t189_20 ?_
    refine r_puti t189_21 (f80 hF) rfl rfl ?_
    refine g_p t189_24 rfl ?_
    refine r_getr t189_25 (f80 hF) rfl rfl ?_
    refine g_p t189_28 rfl ?_
    refine r_iald t189_29 (f84 hF) (by decide) (by omega) ?_
    refine i_ret t189_30 rfl (hq _ _ ((f1.mono (by decide) (by decide)).m (by decide)) (MJ.rm ⟨hJ.1, hjl, rfl⟩) (fun _ => ⟨e12, fun hV => ⟨?_, (hL hV).2.2.2.2 4 (by decide) (by decide)⟩⟩))
    rw [ri_wi_ne (by decide), f1.g (by decide)]
    exact congrArg Int32.toInt64 (hL hV).1
theorem c189_100 (hF : Fx s) (hX : MT T nT B t s) {j : Nat} (hS : MS t (.inl j) s) (e12 : ri s 80 12 = nI k) (hL : V → LTm a s) (hc : sgn t j = 100) (hq : ∀ s' v, FM [] rB s s' → RM t (pst t (.inl j)) s' → (ri s' 80 11 = -1 → ri s' 80 12 = nI k ∧ (V → v.toInt64 = (a 5).toInt64 ∧ bd (a 5).toInt64)) → Q (some (.int v)) (mR s')) : gE X (d + 5) 189 [.ref 80] (mR s) Q := by
  have h120 := hX.2.2.2.2.2.2.2.2.1
  have h11 := hS.1
  have hsp := hS.sk
  have hsg := hX.sg j
  have hjl : j + 1 ≤ t.length := sgn_pos (by omega)
  refine en189 rfl ?_
  refine g_p t189_0 rfl ?_
  refine r_cv t189_1 (f80 hF) rfl ?_
  refine c183 (by exact hF) (by exact hX) (by exact hS) (fun s1 f1 hJ => ?_)
  have e10 := hJ.2.2
  rw [hc, show lk 100 = nI 100 from rfl]
  refine k_v ?_ rfl
  have hF := Fx.fr (by exact hF) f1.1
  have h11 := (f1.f (i := 11) (by decide)).trans h11
  have e12 := (f1.f (i := 12) (by decide)).trans e12
  have hX := MT.fm (by exact hX) f1 (by decide) (by decide) (by decide) (by decide) (by decide)
  refine g_isn t189_4 (Nat.le_of_ble_eq_true rfl) (am_s1_1 rfl) ?_
  refine g_h t189_5 rfl ?_
  refine g_p t189_7 rfl ?_
  refine g_cs t189_8 rfl rfl rfl ?_
  refine c178_3 ?_
  rw [show am3 (nI 100) = true from by decide]
  refine k_v ?_ rfl
  refine b_eq t189_11 (fun h11 => ?_) (fun h11 => ?_)
  · exact no_b rfl h11
  · refine g_p t189_14 rfl ?_
    refine g_p t189_15 rfl ?_
    refine r_gete t189_16 (f80 hF) rfl rfl e10 ?_
    refine g_k (n := 1) t189_19 rfl rfl ?_
    refine g_addn t189_20 ?_
    refine r_puti t189_21 (f80 hF) rfl rfl ?_
    refine g_p t189_24 rfl ?_
    refine r_getr t189_25 (f80 hF) rfl rfl ?_
    refine g_p t189_28 rfl ?_
    refine r_iald t189_29 (f84 hF) (by decide) (by omega) ?_
    refine i_ret t189_30 rfl (hq _ _ ((f1.mono (by decide) (by decide)).m (by decide)) (MJ.rm ⟨hJ.1, hjl, rfl⟩) (fun _ => ⟨e12, fun hV => ⟨?_, (hL hV).2.2.2.2 5 (by decide) (by decide)⟩⟩))
    rw [ri_wi_ne (by decide), f1.g (by decide)]
    exact congrArg Int32.toInt64 (hL hV).2.1
theorem c189_115 (hF : Fx s) (hX : MT T nT B t s) {j : Nat} (hS : MS t (.inl j) s) (e12 : ri s 80 12 = nI k) (hL : V → LTm a s) (hc : sgn t j = 115) (hq : ∀ s' v, FM [] rB s s' → RM t (pst t (.inl j)) s' → (ri s' 80 11 = -1 → ri s' 80 12 = nI k ∧ (V → v.toInt64 = (a 6).toInt64 ∧ bd (a 6).toInt64)) → Q (some (.int v)) (mR s')) : gE X (d + 5) 189 [.ref 80] (mR s) Q := by
  have h120 := hX.2.2.2.2.2.2.2.2.1
  have h11 := hS.1
  have hsp := hS.sk
  have hsg := hX.sg j
  have hjl : j + 1 ≤ t.length := sgn_pos (by omega)
  refine en189 rfl ?_
  refine g_p t189_0 rfl ?_
  refine r_cv t189_1 (f80 hF) rfl ?_
  refine c183 (by exact hF) (by exact hX) (by exact hS) (fun s1 f1 hJ => ?_)
  have e10 := hJ.2.2
  rw [hc, show lk 115 = nI 115 from rfl]
  refine k_v ?_ rfl
  have hF := Fx.fr (by exact hF) f1.1
  have h11 := (f1.f (i := 11) (by decide)).trans h11
  have e12 := (f1.f (i := 12) (by decide)).trans e12
  have hX := MT.fm (by exact hX) f1 (by decide) (by decide) (by decide) (by decide) (by decide)
  refine g_isn t189_4 (Nat.le_of_ble_eq_true rfl) (am_s1_1 rfl) ?_
  refine g_h t189_5 rfl ?_
  refine g_p t189_7 rfl ?_
  refine g_cs t189_8 rfl rfl rfl ?_
  refine c178_3 ?_
  rw [show am3 (nI 115) = true from by decide]
  refine k_v ?_ rfl
  refine b_eq t189_11 (fun h11 => ?_) (fun h11 => ?_)
  · exact no_b rfl h11
  · refine g_p t189_14 rfl ?_
    refine g_p t189_15 rfl ?_
    refine r_gete t189_16 (f80 hF) rfl rfl e10 ?_
    refine g_k (n := 1) t189_19 rfl rfl ?_
    refine g_addn t189_20 ?_
    refine r_puti t189_21 (f80 hF) rfl rfl ?_
    refine g_p t189_24 rfl ?_
    refine r_getr t189_25 (f80 hF) rfl rfl ?_
    refine g_p t189_28 rfl ?_
    refine r_iald t189_29 (f84 hF) (by decide) (by omega) ?_
    refine i_ret t189_30 rfl (hq _ _ ((f1.mono (by decide) (by decide)).m (by decide)) (MJ.rm ⟨hJ.1, hjl, rfl⟩) (fun _ => ⟨e12, fun hV => ⟨?_, (hL hV).2.2.2.2 6 (by decide) (by decide)⟩⟩))
    rw [ri_wi_ne (by decide), f1.g (by decide)]
    exact congrArg Int32.toInt64 (hL hV).2.2.1
theorem c189_110 (hF : Fx s) (hX : MT T nT B t s) {j : Nat} (hS : MS t (.inl j) s) (e12 : ri s 80 12 = nI k) (hL : V → LTm a s) (hc : sgn t j = 110) (hq : ∀ s' v, FM [] rB s s' → RM t (pst t (.inl j)) s' → (ri s' 80 11 = -1 → ri s' 80 12 = nI k ∧ (V → v.toInt64 = (a 7).toInt64 ∧ bd (a 7).toInt64)) → Q (some (.int v)) (mR s')) : gE X (d + 5) 189 [.ref 80] (mR s) Q := by
  have h120 := hX.2.2.2.2.2.2.2.2.1
  have h11 := hS.1
  have hsp := hS.sk
  have hsg := hX.sg j
  have hjl : j + 1 ≤ t.length := sgn_pos (by omega)
  refine en189 rfl ?_
  refine g_p t189_0 rfl ?_
  refine r_cv t189_1 (f80 hF) rfl ?_
  refine c183 (by exact hF) (by exact hX) (by exact hS) (fun s1 f1 hJ => ?_)
  have e10 := hJ.2.2
  rw [hc, show lk 110 = nI 110 from rfl]
  refine k_v ?_ rfl
  have hF := Fx.fr (by exact hF) f1.1
  have h11 := (f1.f (i := 11) (by decide)).trans h11
  have e12 := (f1.f (i := 12) (by decide)).trans e12
  have hX := MT.fm (by exact hX) f1 (by decide) (by decide) (by decide) (by decide) (by decide)
  refine g_isn t189_4 (Nat.le_of_ble_eq_true rfl) (am_s1_1 rfl) ?_
  refine g_h t189_5 rfl ?_
  refine g_p t189_7 rfl ?_
  refine g_cs t189_8 rfl rfl rfl ?_
  refine c178_3 ?_
  rw [show am3 (nI 110) = true from by decide]
  refine k_v ?_ rfl
  refine b_eq t189_11 (fun h11 => ?_) (fun h11 => ?_)
  · exact no_b rfl h11
  · refine g_p t189_14 rfl ?_
    refine g_p t189_15 rfl ?_
    refine r_gete t189_16 (f80 hF) rfl rfl e10 ?_
    refine g_k (n := 1) t189_19 rfl rfl ?_
    refine g_addn t189_20 ?_
    refine r_puti t189_21 (f80 hF) rfl rfl ?_
    refine g_p t189_24 rfl ?_
    refine r_getr t189_25 (f80 hF) rfl rfl ?_
    refine g_p t189_28 rfl ?_
    refine r_iald t189_29 (f84 hF) (by decide) (by omega) ?_
    refine i_ret t189_30 rfl (hq _ _ ((f1.mono (by decide) (by decide)).m (by decide)) (MJ.rm ⟨hJ.1, hjl, rfl⟩) (fun _ => ⟨e12, fun hV => ⟨?_, (hL hV).2.2.2.2 7 (by decide) (by decide)⟩⟩))
    rw [ri_wi_ne (by decide), f1.g (by decide)]
    exact congrArg Int32.toInt64 (hL hV).2.2.2.1
theorem c189_x (hF : Fx s) (hX : MT T nT B t s) {j : Nat} (hS : MS t (.inl j) s) (h1 : ¬ sgn t j = 112) (h2 : ¬ sgn t j = 100) (h3 : ¬ sgn t j = 115) (h4 : ¬ sgn t j = 110) (h5 : ¬ sgn t j = 91) (h6 : ¬ (48 ≤ sgn t j ∧ sgn t j ≤ 57)) (hq : ∀ s', FM [] rB s s' → MS t (.inr j) s' → Q (some (.int (nI 0))) (mR s')) : gE X (d + 5) 189 [.ref 80] (mR s) Q := by
  have h120 := hX.2.2.2.2.2.2.2.2.1
  have h11 := hS.1
  have hsp := hS.sk
  have hsg := hX.sg j
  have hj := hS.2.1
  refine en189 rfl ?_
  refine g_p t189_0 rfl ?_
  refine r_cv t189_1 (f80 hF) rfl ?_
  refine c183 (by exact hF) (by exact hX) (by exact hS) (fun s1 f1 hJ => ?_)
  have e10 := hJ.2.2
  refine k_v ?_ rfl
  have hF := Fx.fr (by exact hF) f1.1
  have h11 := (f1.f (i := 11) (by decide)).trans h11
  have hX := MT.fm (by exact hX) f1 (by decide) (by decide) (by decide) (by decide) (by decide)
  refine g_isn t189_4 (Nat.le_of_ble_eq_true rfl) (am_s1_1 rfl) ?_
  refine g_h t189_5 rfl ?_
  refine g_p t189_7 rfl ?_
  refine g_cs t189_8 rfl rfl rfl ?_
  refine c178_3 ?_
  rw [am3_f hsg h1 h2 h3 h4]
  refine k_v ?_ rfl
  refine b_eq t189_11 (fun h11 => ?_) (fun h11 => ?_)
  · refine g_p t189_31 rfl ?_
    refine g_k (n := 91) t189_32 rfl rfl ?_
    refine g_cne t189_34 (fun h34 => ?_) (fun h34 => ?_)
    · refine g_p t189_74 rfl ?_
      refine r_cv t189_75 (f80 hF) rfl ?_
      refine c187 (by exact hF) (by exact hX) hj (by exact e10) ?_
      rw [← Bool.decide_and, decide_eq_false h6]
      refine k_v ?_ rfl
      refine b_ne t189_78 (fun h78 => ?_) (fun h78 => ?_)
      · refine g_k (n := 0) t189_86 rfl rfl ?_
        refine g_isn t189_87 (Nat.le_of_ble_eq_true rfl) (am_s1_2 rfl) ?_
        refine g_k (n := 0) t189_88 rfl rfl ?_
        refine g_isn t189_89 (Nat.le_of_ble_eq_true rfl) (am_s1_3 rfl) ?_
        refine g_p t189_90 rfl ?_
        refine r_cv t189_91 (f80 hF) rfl ?_
        refine c187 (by exact hF) (by exact hX) hj (by exact e10) ?_
        rw [← Bool.decide_and, decide_eq_false h6]
        refine k_v ?_ rfl
        refine b_eq t189_94 (fun h94 => ?_) (fun h94 => ?_)
        · refine g_p t189_156 rfl ?_
          first
            | exact i_ret t189_157 rfl (hq _ ((f1.mono (by decide) (by decide)).tr (f2.mono (by decide) (by decide))) hE)
            | (have u0 : false = true := h78
               exact absurd u0 (by decide))
        · exact no_b h94 rfl
      · refine g_p t189_81 rfl ?_
        refine r_cv t189_82 (f80 hF) rfl ?_
        refine c184 (by exact hF) hJ (fun s2 f2 hE => ?_)
        have hX := MT.fm (by exact hX) f2 (by decide) (by decide) (by decide) (by decide) (by decide)
        have hF := Fx.fr (by exact hF) f2.1
        have e10 := (f2.f (i := 10) (by decide)).trans e10
        refine k_v ?_ rfl
        refine g_p t189_85 rfl ?_
        refine g_k (n := 0) t189_86 rfl rfl ?_
        refine g_isn t189_87 (Nat.le_of_ble_eq_true rfl) (am_s1_2 rfl) ?_
        refine g_k (n := 0) t189_88 rfl rfl ?_
        refine g_isn t189_89 (Nat.le_of_ble_eq_true rfl) (am_s1_3 rfl) ?_
        refine g_p t189_90 rfl ?_
        refine r_cv t189_91 (f80 hF) rfl ?_
        refine c187 (by exact hF) (by exact hX) hj (by exact e10) ?_
        rw [← Bool.decide_and, decide_eq_false h6]
        refine k_v ?_ rfl
        refine b_eq t189_94 (fun h94 => ?_) (fun h94 => ?_)
        · refine g_p t189_156 rfl ?_
          first
            | exact i_ret t189_157 rfl (hq _ ((f1.mono (by decide) (by decide)).tr (f2.mono (by decide) (by decide))) hE)
            | (have u0 : false = true := h78
               exact absurd u0 (by decide))
        · exact no_b h94 rfl
    · exact absurd ((lk_e hsg (by decide) (by decide)).mp h34) h5
  · exact no_b h11 rfl
theorem c189_d (hF : Fx s) (hX : MT T nT B t s) {j : Nat} (hS : MS t (.inl j) s) (e12 : ri s 80 12 = nI k) (hd : 48 ≤ sgn t j ∧ sgn t j ≤ 57) (hq : ∀ s' v, FM [] rB s s' → RM t (pst t (dgl t 3 (lN (sgn t j - 48), .inl j)).2) s' → (ri s' 80 11 = -1 → ri s' 80 12 = nI k ∧ (V → v.toInt64 = (dgl t 3 (lN (sgn t j - 48), .inl j)).1 ∧ bd (dgl t 3 (lN (sgn t j - 48), .inl j)).1)) → Q (some (.int v)) (mR s')) : gE X (d + 5) 189 [.ref 80] (mR s) Q := by
  have h120 := hX.2.2.2.2.2.2.2.2.1
  have h11 := hS.1
  have hsp := hS.sk
  have hsg := hX.sg j
  have hj := hS.2.1
  have hjl : j + 1 ≤ t.length := sgn_pos (by omega)
  obtain ⟨Z, hZ⟩ : ∃ Z, Z = dgl t 3 (lN (sgn t j - 48), .inl j) := ⟨_, rfl⟩
  rw [← hZ] at hq
  have K : ∀ (m i v q : Nat) (z1 : Int32) (s' : mM), i + m = 4 → v < 10 ^ i → Z = dgl t m (lN v, .inl q) → Fx s' → MT T nT B t s' → FM [] rB s s' → MJ t (q + 1) s' → ri s' 80 12 = nI k → gG X (d + 5) 189 90 [.ref 80, .int z1, .int (nI v), .int (nI i)] [] (mR s') Q := by
    intro m
    have EX : ∀ (m i v q : Nat) (z1 : Int32) (s' : mM), i ≤ 4 → v < 10 ^ i → ¬ (48 ≤ sgn t (q + 1) ∧ sgn t (q + 1) ≤ 57) → Z = dgl t m (lN v, .inl q) → Fx s' → MT T nT B t s' → FM [] rB s s' → MJ t (q + 1) s' → ri s' 80 12 = nI k → gG X (d + 5) 189 90 [.ref 80, .int z1, .int (nI v), .int (nI i)] [] (mR s') Q := by
      intro m i v q z1 s' hi hv hnd he hF hX hf hJ e12
      have he : Z = (lN v, .inl q) := by
        cases m with
        | zero => exact he
        | succ m => exact he.trans (if_neg hnd)
      have hv4 : v < 10 ^ 4 := Nat.lt_of_lt_of_le hv (Nat.pow_le_pow_right (by decide) hi)
      have h104 : (10 : Nat) ^ 4 = 10000 := by decide
      have hl := hJ.2.1
      have e10 := hJ.2.2
      refine g_p t189_90 rfl ?_
      refine r_cv t189_91 (f80 hF) rfl ?_
      refine c187 (by exact hF) (by exact hX) hl (by exact e10) ?_
      rw [← Bool.decide_and, decide_eq_false hnd]
      refine k_v ?_ rfl
      refine b_eq t189_94 (fun h94 => ?_) (fun h94 => ?_)
      · refine g_p t189_156 rfl ?_
        refine i_ret t189_157 rfl (hq s' _ hf ?_ (fun _ => ⟨e12, fun _ => ?_⟩))
        · rw [he]; exact hJ.rm
        · rw [he]
          refine ⟨nI_l (by omega), ?_⟩
          show -1000000 ≤ (lN v).toInt ∧ (lN v).toInt ≤ 1000000
          rw [pk_lT (by omega)]
          omega
      · exact no_b h94 rfl
    induction m with
    | zero =>
      intro i v q z1 s' hi hv he hF hX hf hJ e12
      by_cases hnd : 48 ≤ sgn t (q + 1) ∧ sgn t (q + 1) ≤ 57
      · have hi4 : i = 4 := by omega
        subst hi4
        have he : Z = (lN v, .inl q) := he
        have hl := hJ.2.1
        have e10 := hJ.2.2
        have h11 := hJ.1
        have hsn : skp t (q + 1) = q + 1 := skp_n (fun _ h => by
          have h : sgn t (q + 1) = 32 := h
          omega)
        refine g_p t189_90 rfl ?_
        refine r_cv t189_91 (f80 hF) rfl ?_
        refine c187 (by exact hF) (by exact hX) hl (by exact e10) ?_
        rw [← Bool.decide_and, decide_eq_true hnd]
        refine k_v ?_ rfl
        refine b_eq t189_94 (fun h94 => ?_) (fun h94 => ?_)
        · first
            | (have u0 : true = false := h94
               exact absurd u0 (by decide))
            | (have u0 : ¬ (-1 : Int32) = -1 := h102
               exact absurd rfl u0)
        · refine g_p t189_97 rfl ?_
          refine r_gete t189_98 (f80 hF) rfl rfl h11 ?_
          refine g_p t189_101 rfl ?_
          refine g_cne t189_102 (fun h102 => ?_) (fun h102 => ?_)
          · first
              | (have u0 : true = false := h94
                 exact absurd u0 (by decide))
              | (have u0 : ¬ (-1 : Int32) = -1 := h102
                 exact absurd rfl u0)
          · refine g_p t189_105 rfl ?_
            refine g_k (n := 4) t189_106 rfl rfl ?_
            refine n_cne t189_107 (by omega) (by omega) (fun h107 => ?_) (fun h107 => ?_)
            · exfalso; omega
            · refine g_p t189_110 rfl ?_
              refine r_cv t189_111 (f80 hF) rfl ?_
              refine c184 (by exact hF) hJ (fun s2 f2 hE => ?_)
              refine k_v ?_ rfl
              refine g_p t189_114 rfl ?_
              refine g_k (n := 0) t189_115 rfl rfl ?_
              refine i_ret t189_116 rfl (hq _ _ (hf.tr (f2.mono (by decide) (by decide))) ?_ (fun h => absurd h (hE.ne h120)))
              rw [he]
              refine Or.inr ⟨q + 1, hE, Or.inr ⟨?_, hnd⟩⟩
              show Sum.inl (skp t (q + 1)) = Sum.inl (q + 1)
              rw [hsn]
      · exact EX 0 i v q z1 s' (by omega) hv hnd he hF hX hf hJ e12
    | succ m ih =>
      intro i v q z1 s' hi hv he hF hX hf hJ e12
      by_cases hnd : 48 ≤ sgn t (q + 1) ∧ sgn t (q + 1) ≤ 57
      · have he : Z = dgl t m (lN v * 10 + lN (sgn t (q + 1) - 48), .inl (q + 1)) := he.trans (if_pos hnd)
        have hl := hJ.2.1
        have e10 := hJ.2.2
        have h11 := hJ.1
        have hql : q + 1 < t.length := sgn_pos (by omega)
        have hdv : sb (t.getD (q + 1) 0) = nI (sgn t (q + 1)) := sb_dgt _ (hX.sg (q + 1)) hnd.1 hnd.2
        obtain ⟨c, hc⟩ : ∃ c, c = sgn t (q + 1) := ⟨_, rfl⟩
        rw [← hc] at hdv he hnd
        have hp10 : 10 ^ (i + 1) = 10 ^ i * 10 := Nat.pow_succ 10 i
        have he : Z = dgl t m (lN (10 * v + c - 48), .inl (q + 1)) := by
          rw [he, show (10 : Int64) = lN 10 from rfl, lN_mul, lN_add]
          congr 3
          omega
        obtain ⟨x1, x2, x3, x4, x5, x6, x7, x8, x9, x10⟩ := id hX
        refine g_p t189_90 rfl ?_
        refine r_cv t189_91 (f80 hF) rfl ?_
        refine c187 (by exact hF) (by exact hX) hl (by exact e10) ?_
        rw [← Bool.decide_and, decide_eq_true (hc ▸ hnd)]
        refine k_v ?_ rfl
        refine b_eq t189_94 (fun h94 => ?_) (fun h94 => ?_)
        · first
            | (have u0 : true = false := h94
               exact absurd u0 (by decide))
            | (have u0 : ¬ (-1 : Int32) = -1 := h102
               exact absurd rfl u0)
        · refine g_p t189_97 rfl ?_
          refine r_gete t189_98 (f80 hF) rfl rfl h11 ?_
          refine g_p t189_101 rfl ?_
          refine g_cne t189_102 (fun h102 => ?_) (fun h102 => ?_)
          · first
              | (have u0 : true = false := h94
                 exact absurd u0 (by decide))
              | (have u0 : ¬ (-1 : Int32) = -1 := h102
                 exact absurd rfl u0)
          · refine g_p t189_105 rfl ?_
            refine g_k (n := 4) t189_106 rfl rfl ?_
            refine n_cne t189_107 (by omega) (by omega) (fun h107 => ?_) (fun h107 => ?_)
            · refine g_k (n := 10) t189_117 rfl rfl ?_
              refine g_p t189_119 rfl ?_
              refine g_muln t189_120 ?_
              refine g_p t189_121 rfl ?_
              refine r_getq t189_122 (f80 hF) rfl rfl x1 (m_rq_r (by omega)) ?_
              refine g_p t189_125 rfl ?_
              refine r_gete t189_126 (f80 hF) rfl rfl x2 ?_
              refine g_p t189_129 rfl ?_
              refine r_gete t189_130 (f80 hF) rfl rfl e10 ?_
              refine g_addn t189_133 ?_
              refine r_bale t189_134 (by exact x5) (Or.inl rfl) (by omega) (by omega) ((x4 (q + 1) hql).trans hdv) ?_
              refine g_addn t189_135 ?_
              refine g_k (n := 48) t189_136 rfl rfl ?_
              refine g_subn t189_138 (by omega) ?_
              refine g_isn t189_139 (Nat.le_of_ble_eq_true rfl) (am_s1_2 rfl) ?_
              refine g_p t189_140 rfl ?_
              refine g_p t189_141 rfl ?_
              refine r_gete t189_142 (f80 hF) rfl rfl e10 ?_
              refine g_k (n := 1) t189_145 rfl rfl ?_
              refine g_addn t189_146 ?_
              refine r_puti t189_147 (f80 hF) rfl rfl ?_
              refine g_incn (n := 1) t189_150 rfl rfl (Nat.le_of_ble_eq_true rfl) (am_s1_3 rfl) ?_
              refine g_goto t189_153 ?_
              exact ih (i + 1) _ (q + 1) z1 _ (by omega) (by omega) he (Fx.fr (A := [80]) hF (Fr.rf.wi (by decide))) (MT.w8 hX (by decide) (by decide) (by decide)) (hf.m (by decide)) ⟨h11, hql, rfl⟩ e12
            · exfalso; omega
      · exact EX (m + 1) i v q z1 s' (by omega) hv hnd he hF hX hf hJ e12
  have hdv : sb (t.getD j 0) = nI (sgn t j) := sb_dgt _ hsg hd.1 hd.2
  obtain ⟨c, hc⟩ : ∃ c, c = sgn t j := ⟨_, rfl⟩
  rw [← hc] at hdv hZ
  have hd2 := hd
  rw [← hc] at hd2
  have K0 : ∀ (z1 : Int32) (s' : mM), Fx s' → MT T nT B t s' → FM [] rB s s' → MJ t j s' → ri s' 80 12 = nI k → gG X (d + 5) 189 90 [.ref 80, .int z1, .int (nI 0), .int (nI 0)] [] (mR s') Q := by
    intro z1 s' hF hX hf hJ e12
    have e10 := hJ.2.2
    have h11 := hJ.1
    obtain ⟨x1, x2, x3, x4, x5, x6, x7, x8, x9, x10⟩ := id hX
    refine g_p t189_90 rfl ?_
    refine r_cv t189_91 (f80 hF) rfl ?_
    refine c187 (by exact hF) (by exact hX) hj (by exact e10) ?_
    rw [← Bool.decide_and, decide_eq_true hd]
    refine k_v ?_ rfl
    refine b_eq t189_94 (fun h94 => ?_) (fun h94 => ?_)
    · first
        | (have u0 : true = false := h94
           exact absurd u0 (by decide))
        | (have u0 : ¬ (-1 : Int32) = -1 := h102
           exact absurd rfl u0)
    · refine g_p t189_97 rfl ?_
      refine r_gete t189_98 (f80 hF) rfl rfl h11 ?_
      refine g_p t189_101 rfl ?_
      refine g_cne t189_102 (fun h102 => ?_) (fun h102 => ?_)
      · first
          | (have u0 : true = false := h94
             exact absurd u0 (by decide))
          | (have u0 : ¬ (-1 : Int32) = -1 := h102
             exact absurd rfl u0)
      · refine g_p t189_105 rfl ?_
        refine g_k (n := 4) t189_106 rfl rfl ?_
        refine n_cne t189_107 (by omega) (by omega) (fun h107 => ?_) (fun h107 => ?_)
        · refine g_k (n := 10) t189_117 rfl rfl ?_
          refine g_p t189_119 rfl ?_
          refine g_muln t189_120 ?_
          refine g_p t189_121 rfl ?_
          refine r_getq t189_122 (f80 hF) rfl rfl x1 (m_rq_r (by omega)) ?_
          refine g_p t189_125 rfl ?_
          refine r_gete t189_126 (f80 hF) rfl rfl x2 ?_
          refine g_p t189_129 rfl ?_
          refine r_gete t189_130 (f80 hF) rfl rfl e10 ?_
          refine g_addn t189_133 ?_
          refine r_bale t189_134 (by exact x5) (Or.inl rfl) (by omega) (by omega) ((x4 j hjl).trans hdv) ?_
          refine g_addn t189_135 ?_
          refine g_k (n := 48) t189_136 rfl rfl ?_
          refine g_subn t189_138 (by omega) ?_
          refine g_isn t189_139 (Nat.le_of_ble_eq_true rfl) (am_s1_2 rfl) ?_
          refine g_p t189_140 rfl ?_
          refine g_p t189_141 rfl ?_
          refine r_gete t189_142 (f80 hF) rfl rfl e10 ?_
          refine g_k (n := 1) t189_145 rfl rfl ?_
          refine g_addn t189_146 ?_
          refine r_puti t189_147 (f80 hF) rfl rfl ?_
          refine g_incn (n := 1) t189_150 rfl rfl (Nat.le_of_ble_eq_true rfl) (am_s1_3 rfl) ?_
          refine g_goto t189_153 ?_
          exact K 3 1 _ j z1 _ rfl (by omega) (by rw [hZ]; congr 3; omega) (Fx.fr (A := [80]) hF (Fr.rf.wi (by decide))) (MT.w8 hX (by decide) (by decide) (by decide)) (hf.m (by decide)) ⟨h11, hjl, rfl⟩ e12
        · exfalso; omega
  refine en189 rfl ?_
  refine g_p t189_0 rfl ?_
  refine r_cv t189_1 (f80 hF) rfl ?_
  refine c183 (by exact hF) (by exact hX) (by exact hS) (fun s1 f1 hJ => ?_)
  have e10 := hJ.2.2
  refine k_v ?_ rfl
  have hF := Fx.fr (by exact hF) f1.1
  have h11 := (f1.f (i := 11) (by decide)).trans h11
  have e12 := (f1.f (i := 12) (by decide)).trans e12
  have hX := MT.fm (by exact hX) f1 (by decide) (by decide) (by decide) (by decide) (by decide)
  refine g_isn t189_4 (Nat.le_of_ble_eq_true rfl) (am_s1_1 rfl) ?_
  refine g_h t189_5 rfl ?_
  refine g_p t189_7 rfl ?_
  refine g_cs t189_8 rfl rfl rfl ?_
  refine c178_3 ?_
  rw [am3_f hsg (by omega) (by omega) (by omega) (by omega)]
  refine k_v ?_ rfl
  refine b_eq t189_11 (fun h11 => ?_) (fun h11 => ?_)
  · refine g_p t189_31 rfl ?_
    refine g_k (n := 91) t189_32 rfl rfl ?_
    refine g_cne t189_34 (fun h34 => ?_) (fun h34 => ?_)
    · refine g_p t189_74 rfl ?_
      refine r_cv t189_75 (f80 hF) rfl ?_
      refine c187 (by exact hF) (by exact hX) hj (by exact e10) ?_
      rw [← Bool.decide_and, decide_eq_true hd]
      refine k_v ?_ rfl
      refine b_ne t189_78 (fun h78 => ?_) (fun h78 => ?_)
      · refine g_k (n := 0) t189_86 rfl rfl ?_
        refine g_isn t189_87 (Nat.le_of_ble_eq_true rfl) (am_s1_2 rfl) ?_
        refine g_k (n := 0) t189_88 rfl rfl ?_
        refine g_isn t189_89 (Nat.le_of_ble_eq_true rfl) (am_s1_3 rfl) ?_
        exact K0 _ _ hF hX (f1.mono (by decide) (by decide)) hJ e12
      · exact no_b rfl h78
    · exact absurd ((lk_e hsg (by decide) (by decide)).mp h34) (by omega)
  · exact no_b h11 rfl
end RB
