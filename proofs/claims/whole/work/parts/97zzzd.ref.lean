/-! THE REFERENCE, 21: conditions -/
section RD_
variable {X : am_X} {d : Nat} {s : mM} {hp : am_H} {Q : Option Value → am_H → Prop} {T nT B k n w : Nat} {t : List Nat} {σ : Ps} {a : Nat → Int32} {V : Prop} {f g : Ps → LV} {u : Int64} {h1 h2 : Ps → BV} {v : Int32}
theorem MJ.up {t : List Nat} {j : Nat} {s : mM} (h : MJ t j s) (hl : j < t.length) : MJ t (j + 1) (wi s 80 10 (nI (j + 1))) := ⟨h.1, hl, rfl⟩
theorem c192 {x : Nat} (hx : x < 256) (hq : Q (some (.int (bI (isC x)))) hp) : gE X d 192 [.int (lk x)] hp Q := by
  unfold isC at hq
  refine en192 rfl ?_
  refine g_p t192_0 rfl ?_
  refine g_k (n := 61) t192_1 rfl rfl ?_
  refine g_ceq t192_3 (fun h3 => ?_) (fun h3 => ?_)
  · refine g_k (n := 1) t192_18 rfl rfl ?_
    refine g_goto t192_19 ?_
    exact b_ret t192_23 (by
      first
        | (have u0 : lk x = nI 61 := h3
           rw [beq_iff_eq.mpr ((lk_e hx (by decide) (by decide)).mp u0)]; rfl)
        | (have u0 : lk x = nI 60 := h9
           rw [beq_iff_eq.mpr ((lk_e hx (by decide) (by decide)).mp u0), Bool.or_true]; rfl)
        | (have u0 : lk x = nI 62 := h15
           rw [beq_iff_eq.mpr ((lk_e hx (by decide) (by decide)).mp u0), Bool.or_true]; rfl)
        | (have u0 : ¬ lk x = nI 62 := h15
           rw [beq_eq_false_iff_ne.mpr (fun e => h3 ((lk_e hx (by decide) (by decide)).mpr e)), beq_eq_false_iff_ne.mpr (fun e => h9 ((lk_e hx (by decide) (by decide)).mpr e)), beq_eq_false_iff_ne.mpr (fun e => u0 ((lk_e hx (by decide) (by decide)).mpr e))]; rfl)) hq
  · refine g_p t192_6 rfl ?_
    refine g_k (n := 60) t192_7 rfl rfl ?_
    refine g_ceq t192_9 (fun h9 => ?_) (fun h9 => ?_)
    · refine g_k (n := 1) t192_18 rfl rfl ?_
      refine g_goto t192_19 ?_
      exact b_ret t192_23 (by
        first
          | (have u0 : lk x = nI 61 := h3
             rw [beq_iff_eq.mpr ((lk_e hx (by decide) (by decide)).mp u0)]; rfl)
          | (have u0 : lk x = nI 60 := h9
             rw [beq_iff_eq.mpr ((lk_e hx (by decide) (by decide)).mp u0), Bool.or_true]; rfl)
          | (have u0 : lk x = nI 62 := h15
             rw [beq_iff_eq.mpr ((lk_e hx (by decide) (by decide)).mp u0), Bool.or_true]; rfl)
          | (have u0 : ¬ lk x = nI 62 := h15
             rw [beq_eq_false_iff_ne.mpr (fun e => h3 ((lk_e hx (by decide) (by decide)).mpr e)), beq_eq_false_iff_ne.mpr (fun e => h9 ((lk_e hx (by decide) (by decide)).mpr e)), beq_eq_false_iff_ne.mpr (fun e => u0 ((lk_e hx (by decide) (by decide)).mpr e))]; rfl)) hq
    · refine g_p t192_12 rfl ?_
      refine g_k (n := 62) t192_13 rfl rfl ?_
      refine g_cne t192_15 (fun h15 => ?_) (fun h15 => ?_)
      · refine g_k (n := 0) t192_22 rfl rfl ?_
        exact b_ret t192_23 (by
          first
            | (have u0 : lk x = nI 61 := h3
               rw [beq_iff_eq.mpr ((lk_e hx (by decide) (by decide)).mp u0)]; rfl)
            | (have u0 : lk x = nI 60 := h9
               rw [beq_iff_eq.mpr ((lk_e hx (by decide) (by decide)).mp u0), Bool.or_true]; rfl)
            | (have u0 : lk x = nI 62 := h15
               rw [beq_iff_eq.mpr ((lk_e hx (by decide) (by decide)).mp u0), Bool.or_true]; rfl)
            | (have u0 : ¬ lk x = nI 62 := h15
               rw [beq_eq_false_iff_ne.mpr (fun e => h3 ((lk_e hx (by decide) (by decide)).mpr e)), beq_eq_false_iff_ne.mpr (fun e => h9 ((lk_e hx (by decide) (by decide)).mpr e)), beq_eq_false_iff_ne.mpr (fun e => u0 ((lk_e hx (by decide) (by decide)).mpr e))]; rfl)) hq
      · refine g_k (n := 1) t192_18 rfl rfl ?_
        refine g_goto t192_19 ?_
        exact b_ret t192_23 (by
          first
            | (have u0 : lk x = nI 61 := h3
               rw [beq_iff_eq.mpr ((lk_e hx (by decide) (by decide)).mp u0)]; rfl)
            | (have u0 : lk x = nI 60 := h9
               rw [beq_iff_eq.mpr ((lk_e hx (by decide) (by decide)).mp u0), Bool.or_true]; rfl)
            | (have u0 : lk x = nI 62 := h15
               rw [beq_iff_eq.mpr ((lk_e hx (by decide) (by decide)).mp u0), Bool.or_true]; rfl)
            | (have u0 : ¬ lk x = nI 62 := h15
               rw [beq_eq_false_iff_ne.mpr (fun e => h3 ((lk_e hx (by decide) (by decide)).mpr e)), beq_eq_false_iff_ne.mpr (fun e => h9 ((lk_e hx (by decide) (by decide)).mpr e)), beq_eq_false_iff_ne.mpr (fun e => u0 ((lk_e hx (by decide) (by decide)).mpr e))]; rfl)) hq
theorem c193p (m191 : MC X T nT B t a V 191 k d g) {z1 z2 : Int32} {s0 : mM} {τ : Ps} (hF : Fx s) (hX : MT T nT B t s) (hf : FM [] rB s0 s) (hL : V → LTm a s0) (hR : RM t τ s) (hval : ri s 80 11 = -1 → ri s 80 12 = nI k ∧ (V → v.toInt64 = u)) (hq : ∀ s' c, FM [] rB s0 s' → RM t (lcp t g (u, τ)).2 s' → (ri s' 80 11 = -1 → ri s' 80 12 = nI k ∧ (V → c = (lcp t g (u, τ)).1)) → Q (some (.int (bI c))) (mR s')) : gG X (d + 1) 193 12 [.ref 80, .int z1, .int z2, .float 0, .float 0, .float 0] [.int v] (mR s) Q := by
  have h120 := hX.2.2.2.2.2.2.2.2.1
  rcases hR with ⟨p, rfl, hS⟩ | hD
  · have h11 := hS.1
    have e12 := (hval h11).1
    have hvv := (hval h11).2
    have hsp := hS.sk
    have hsg := hX.sg p
    cases l1 : isC (sgn t p) with
    | true =>
      have hpl : p < t.length := sgn_pos (fun h => by rw [h] at l1; exact absurd l1 (by decide))
      have e : lcp t g (u, .inl p) = (cmv (sgn t p) u (g (pst t (.inl p))).1, (g (pst t (.inl p))).2) := if_pos l1
      rw [e] at hq
      refine g_isn t193_12 (Nat.le_of_ble_eq_true rfl) (am_s1_3 rfl) ?_
      refine g_p t193_13 rfl ?_
      refine r_gete t193_14 (f80 hF) rfl rfl h11 ?_
      refine g_p t193_17 rfl ?_
      refine g_ceq t193_18 (fun h18 => ?_) (fun h18 => ?_)
      · refine g_p t193_23 rfl ?_
        refine r_cv t193_24 (f80 hF) rfl ?_
        refine c183 (by exact hF) (by exact hX) (by exact hS) (fun s1 f1 hJ => ?_)
        have hS := hJ.m2 hsp
        have e10 := hJ.2.2
        have h11 := hJ.1
        refine k_v ?_ rfl
        have hF := Fx.fr (by exact hF) f1.1
        have e12 := (f1.f (i := 12) (by decide)).trans e12
        have hX := MT.fm (by exact hX) f1 (by decide) (by decide) (by decide) (by decide) (by decide)
        have hf := hf.tr (f1.mono (by decide) (by decide))
        refine g_is t193_27 (Nat.le_of_ble_eq_true rfl) (am_s1_4 rfl) ?_
        refine g_p t193_29 rfl ?_
        refine g_cs t193_31 rfl rfl rfl ?_
        refine c192 hsg ?_
        rw [l1]
        refine k_v ?_ rfl
        refine b_ne t193_34 (fun h34 => ?_) (fun h34 => ?_)
        · refine g_p t193_42 rfl ?_
          refine g_p t193_43 rfl ?_
          refine r_gete t193_44 (f80 hF) rfl rfl e10 ?_
          refine g_k (n := 1) t193_47 rfl rfl ?_
          refine g_addn t193_48 ?_
          refine r_puti t193_49 (f80 hF) rfl rfl ?_
          refine g_p t193_52 rfl ?_
          refine r_cv t193_53 (f80 hF) rfl ?_
          have hJ := hJ.up hpl
          have hX := MT.w8 (i := 10) (v := nI (p + 1)) (by exact hX) (by decide) (by decide) (by decide)
          have hf := hf.m (i := 10) (v := nI (p + 1)) (by decide)
          refine m191 _ (skp t (p + 1)) _ (by exact hF) (by exact hX) (by exact hJ.ms) (by exact e12) (fun hV => (hL hV).fm hf (by decide)) (fun s53 v53 f53 hR hv53 => ?_)
          have hX := MT.fm (by exact hX) f53 (by decide) (by decide) (by decide) (by decide) (by decide)
          have hF := Fx.fr (by exact hF) f53.1
          have hf := FM.tr (by exact hf) f53
          refine k_v ?_ rfl
          refine g_is t193_56 (Nat.le_of_ble_eq_true rfl) (am_s1_5 rfl) ?_
          refine g_p t193_58 rfl ?_
          refine g_k (n := 61) t193_60 rfl rfl ?_
          refine g_cne t193_62 (fun h62 => ?_) (fun h62 => ?_)
          · refine g_p t193_79 rfl ?_
            refine g_k (n := 60) t193_81 rfl rfl ?_
            refine g_cne t193_83 (fun h83 => ?_) (fun h83 => ?_)
            · refine g_p t193_100 rfl ?_
              refine g_p t193_101 rfl ?_
              refine g_cle t193_103 (fun h103 => ?_) (fun h103 => ?_)
              · refine g_k (n := 0) t193_110 rfl rfl ?_
                first
                  | (have u0 : v = v53 := h68
                     have e61 : sgn t p = 61 := (lk_e hsg (by decide) (by decide)).mp h62
                     exact b_ret t193_111 rfl (hq s53 true hf hR (fun h => ⟨(hv53 h).1, fun hV => by
                       have q53 : v53.toInt64 = (g (pst t (Sum.inl p))).1 := ((hv53 h).2 hV).1
                       show _ = cmv (sgn t p) u (g (pst t (Sum.inl p))).1
                       rw [cmv, ← q53, ← hvv hV, if_pos e61]; exact (decide_eq_true (i64e.mpr u0)).symm⟩)))
                  | (have u0 : ¬ v = v53 := h68
                     have e61 : sgn t p = 61 := (lk_e hsg (by decide) (by decide)).mp h62
                     exact b_ret t193_111 rfl (hq s53 false hf hR (fun h => ⟨(hv53 h).1, fun hV => by
                       have q53 : v53.toInt64 = (g (pst t (Sum.inl p))).1 := ((hv53 h).2 hV).1
                       show _ = cmv (sgn t p) u (g (pst t (Sum.inl p))).1
                       rw [cmv, ← q53, ← hvv hV, if_pos e61]; exact (decide_eq_false (fun h => u0 (i64e.mp h))).symm⟩)))
                  | (have u0 : v53 ≤ v := h89
                     have n61 : ¬ sgn t p = 61 := fun e => h62 ((lk_e hsg (by decide) (by decide)).mpr e)
                     have e60 : sgn t p = 60 := (lk_e hsg (by decide) (by decide)).mp h83
                     exact b_ret t193_111 rfl (hq s53 false hf hR (fun h => ⟨(hv53 h).1, fun hV => by
                       have q53 : v53.toInt64 = (g (pst t (Sum.inl p))).1 := ((hv53 h).2 hV).1
                       show _ = cmv (sgn t p) u (g (pst t (Sum.inl p))).1
                       rw [cmv, ← q53, ← hvv hV, if_neg n61, if_pos e60]; exact (decide_eq_false (fun h => Int32.not_le.mpr (i64l.mp h) u0)).symm⟩)))
                  | (have u0 : ¬ v53 ≤ v := h89
                     have n61 : ¬ sgn t p = 61 := fun e => h62 ((lk_e hsg (by decide) (by decide)).mpr e)
                     have e60 : sgn t p = 60 := (lk_e hsg (by decide) (by decide)).mp h83
                     exact b_ret t193_111 rfl (hq s53 true hf hR (fun h => ⟨(hv53 h).1, fun hV => by
                       have q53 : v53.toInt64 = (g (pst t (Sum.inl p))).1 := ((hv53 h).2 hV).1
                       show _ = cmv (sgn t p) u (g (pst t (Sum.inl p))).1
                       rw [cmv, ← q53, ← hvv hV, if_neg n61, if_pos e60]; exact (decide_eq_true (i64l.mpr (Int32.not_le.mp u0))).symm⟩)))
                  | (have u0 : v ≤ v53 := h103
                     have n61 : ¬ sgn t p = 61 := fun e => h62 ((lk_e hsg (by decide) (by decide)).mpr e)
                     have n60 : ¬ sgn t p = 60 := fun e => h83 ((lk_e hsg (by decide) (by decide)).mpr e)
                     exact b_ret t193_111 rfl (hq s53 false hf hR (fun h => ⟨(hv53 h).1, fun hV => by
                       have q53 : v53.toInt64 = (g (pst t (Sum.inl p))).1 := ((hv53 h).2 hV).1
                       show _ = cmv (sgn t p) u (g (pst t (Sum.inl p))).1
                       rw [cmv, ← q53, ← hvv hV, if_neg n61, if_neg n60]; exact (decide_eq_false (fun h => Int32.not_le.mpr (i64l.mp h) u0)).symm⟩)))
                  | (have u0 : ¬ v ≤ v53 := h103
                     have n61 : ¬ sgn t p = 61 := fun e => h62 ((lk_e hsg (by decide) (by decide)).mpr e)
                     have n60 : ¬ sgn t p = 60 := fun e => h83 ((lk_e hsg (by decide) (by decide)).mpr e)
                     exact b_ret t193_111 rfl (hq s53 true hf hR (fun h => ⟨(hv53 h).1, fun hV => by
                       have q53 : v53.toInt64 = (g (pst t (Sum.inl p))).1 := ((hv53 h).2 hV).1
                       show _ = cmv (sgn t p) u (g (pst t (Sum.inl p))).1
                       rw [cmv, ← q53, ← hvv hV, if_neg n61, if_neg n60]; exact (decide_eq_true (i64l.mpr (Int32.not_le.mp u0))).symm⟩)))
              · refine g_k (n := 1) t193_106 rfl rfl ?_
                refine g_goto t193_107 ?_
                first
                  | (have u0 : v = v53 := h68
                     have e61 : sgn t p = 61 := (lk_e hsg (by decide) (by decide)).mp h62
                     exact b_ret t193_111 rfl (hq s53 true hf hR (fun h => ⟨(hv53 h).1, fun hV => by
                       have q53 : v53.toInt64 = (g (pst t (Sum.inl p))).1 := ((hv53 h).2 hV).1
                       show _ = cmv (sgn t p) u (g (pst t (Sum.inl p))).1
                       rw [cmv, ← q53, ← hvv hV, if_pos e61]; exact (decide_eq_true (i64e.mpr u0)).symm⟩)))
                  | (have u0 : ¬ v = v53 := h68
                     have e61 : sgn t p = 61 := (lk_e hsg (by decide) (by decide)).mp h62
                     exact b_ret t193_111 rfl (hq s53 false hf hR (fun h => ⟨(hv53 h).1, fun hV => by
                       have q53 : v53.toInt64 = (g (pst t (Sum.inl p))).1 := ((hv53 h).2 hV).1
                       show _ = cmv (sgn t p) u (g (pst t (Sum.inl p))).1
                       rw [cmv, ← q53, ← hvv hV, if_pos e61]; exact (decide_eq_false (fun h => u0 (i64e.mp h))).symm⟩)))
                  | (have u0 : v53 ≤ v := h89
                     have n61 : ¬ sgn t p = 61 := fun e => h62 ((lk_e hsg (by decide) (by decide)).mpr e)
                     have e60 : sgn t p = 60 := (lk_e hsg (by decide) (by decide)).mp h83
                     exact b_ret t193_111 rfl (hq s53 false hf hR (fun h => ⟨(hv53 h).1, fun hV => by
                       have q53 : v53.toInt64 = (g (pst t (Sum.inl p))).1 := ((hv53 h).2 hV).1
                       show _ = cmv (sgn t p) u (g (pst t (Sum.inl p))).1
                       rw [cmv, ← q53, ← hvv hV, if_neg n61, if_pos e60]; exact (decide_eq_false (fun h => Int32.not_le.mpr (i64l.mp h) u0)).symm⟩)))
                  | (have u0 : ¬ v53 ≤ v := h89
                     have n61 : ¬ sgn t p = 61 := fun e => h62 ((lk_e hsg (by decide) (by decide)).mpr e)
                     have e60 : sgn t p = 60 := (lk_e hsg (by decide) (by decide)).mp h83
                     exact b_ret t193_111 rfl (hq s53 true hf hR (fun h => ⟨(hv53 h).1, fun hV => by
                       have q53 : v53.toInt64 = (g (pst t (Sum.inl p))).1 := ((hv53 h).2 hV).1
                       show _ = cmv (sgn t p) u (g (pst t (Sum.inl p))).1
                       rw [cmv, ← q53, ← hvv hV, if_neg n61, if_pos e60]; exact (decide_eq_true (i64l.mpr (Int32.not_le.mp u0))).symm⟩)))
                  | (have u0 : v ≤ v53 := h103
                     have n61 : ¬ sgn t p = 61 := fun e => h62 ((lk_e hsg (by decide) (by decide)).mpr e)
                     have n60 : ¬ sgn t p = 60 := fun e => h83 ((lk_e hsg (by decide) (by decide)).mpr e)
                     exact b_ret t193_111 rfl (hq s53 false hf hR (fun h => ⟨(hv53 h).1, fun hV => by
                       have q53 : v53.toInt64 = (g (pst t (Sum.inl p))).1 := ((hv53 h).2 hV).1
                       show _ = cmv (sgn t p) u (g (pst t (Sum.inl p))).1
                       rw [cmv, ← q53, ← hvv hV, if_neg n61, if_neg n60]; exact (decide_eq_false (fun h => Int32.not_le.mpr (i64l.mp h) u0)).symm⟩)))
                  | (have u0 : ¬ v ≤ v53 := h103
                     have n61 : ¬ sgn t p = 61 := fun e => h62 ((lk_e hsg (by decide) (by decide)).mpr e)
                     have n60 : ¬ sgn t p = 60 := fun e => h83 ((lk_e hsg (by decide) (by decide)).mpr e)
                     exact b_ret t193_111 rfl (hq s53 true hf hR (fun h => ⟨(hv53 h).1, fun hV => by
                       have q53 : v53.toInt64 = (g (pst t (Sum.inl p))).1 := ((hv53 h).2 hV).1
                       show _ = cmv (sgn t p) u (g (pst t (Sum.inl p))).1
                       rw [cmv, ← q53, ← hvv hV, if_neg n61, if_neg n60]; exact (decide_eq_true (i64l.mpr (Int32.not_le.mp u0))).symm⟩)))
            · refine g_p t193_86 rfl ?_
              refine g_p t193_87 rfl ?_
              refine g_cge t193_89 (fun h89 => ?_) (fun h89 => ?_)
              · refine g_k (n := 0) t193_96 rfl rfl ?_
                refine g_goto t193_97 ?_
                first
                  | (have u0 : v = v53 := h68
                     have e61 : sgn t p = 61 := (lk_e hsg (by decide) (by decide)).mp h62
                     exact b_ret t193_111 rfl (hq s53 true hf hR (fun h => ⟨(hv53 h).1, fun hV => by
                       have q53 : v53.toInt64 = (g (pst t (Sum.inl p))).1 := ((hv53 h).2 hV).1
                       show _ = cmv (sgn t p) u (g (pst t (Sum.inl p))).1
                       rw [cmv, ← q53, ← hvv hV, if_pos e61]; exact (decide_eq_true (i64e.mpr u0)).symm⟩)))
                  | (have u0 : ¬ v = v53 := h68
                     have e61 : sgn t p = 61 := (lk_e hsg (by decide) (by decide)).mp h62
                     exact b_ret t193_111 rfl (hq s53 false hf hR (fun h => ⟨(hv53 h).1, fun hV => by
                       have q53 : v53.toInt64 = (g (pst t (Sum.inl p))).1 := ((hv53 h).2 hV).1
                       show _ = cmv (sgn t p) u (g (pst t (Sum.inl p))).1
                       rw [cmv, ← q53, ← hvv hV, if_pos e61]; exact (decide_eq_false (fun h => u0 (i64e.mp h))).symm⟩)))
                  | (have u0 : v53 ≤ v := h89
                     have n61 : ¬ sgn t p = 61 := fun e => h62 ((lk_e hsg (by decide) (by decide)).mpr e)
                     have e60 : sgn t p = 60 := (lk_e hsg (by decide) (by decide)).mp h83
                     exact b_ret t193_111 rfl (hq s53 false hf hR (fun h => ⟨(hv53 h).1, fun hV => by
                       have q53 : v53.toInt64 = (g (pst t (Sum.inl p))).1 := ((hv53 h).2 hV).1
                       show _ = cmv (sgn t p) u (g (pst t (Sum.inl p))).1
                       rw [cmv, ← q53, ← hvv hV, if_neg n61, if_pos e60]; exact (decide_eq_false (fun h => Int32.not_le.mpr (i64l.mp h) u0)).symm⟩)))
                  | (have u0 : ¬ v53 ≤ v := h89
                     have n61 : ¬ sgn t p = 61 := fun e => h62 ((lk_e hsg (by decide) (by decide)).mpr e)
                     have e60 : sgn t p = 60 := (lk_e hsg (by decide) (by decide)).mp h83
                     exact b_ret t193_111 rfl (hq s53 true hf hR (fun h => ⟨(hv53 h).1, fun hV => by
                       have q53 : v53.toInt64 = (g (pst t (Sum.inl p))).1 := ((hv53 h).2 hV).1
                       show _ = cmv (sgn t p) u (g (pst t (Sum.inl p))).1
                       rw [cmv, ← q53, ← hvv hV, if_neg n61, if_pos e60]; exact (decide_eq_true (i64l.mpr (Int32.not_le.mp u0))).symm⟩)))
                  | (have u0 : v ≤ v53 := h103
                     have n61 : ¬ sgn t p = 61 := fun e => h62 ((lk_e hsg (by decide) (by decide)).mpr e)
                     have n60 : ¬ sgn t p = 60 := fun e => h83 ((lk_e hsg (by decide) (by decide)).mpr e)
                     exact b_ret t193_111 rfl (hq s53 false hf hR (fun h => ⟨(hv53 h).1, fun hV => by
                       have q53 : v53.toInt64 = (g (pst t (Sum.inl p))).1 := ((hv53 h).2 hV).1
                       show _ = cmv (sgn t p) u (g (pst t (Sum.inl p))).1
                       rw [cmv, ← q53, ← hvv hV, if_neg n61, if_neg n60]; exact (decide_eq_false (fun h => Int32.not_le.mpr (i64l.mp h) u0)).symm⟩)))
                  | (have u0 : ¬ v ≤ v53 := h103
                     have n61 : ¬ sgn t p = 61 := fun e => h62 ((lk_e hsg (by decide) (by decide)).mpr e)
                     have n60 : ¬ sgn t p = 60 := fun e => h83 ((lk_e hsg (by decide) (by decide)).mpr e)
                     exact b_ret t193_111 rfl (hq s53 true hf hR (fun h => ⟨(hv53 h).1, fun hV => by
                       have q53 : v53.toInt64 = (g (pst t (Sum.inl p))).1 := ((hv53 h).2 hV).1
                       show _ = cmv (sgn t p) u (g (pst t (Sum.inl p))).1
                       rw [cmv, ← q53, ← hvv hV, if_neg n61, if_neg n60]; exact (decide_eq_true (i64l.mpr (Int32.not_le.mp u0))).symm⟩)))
              · refine g_k (n := 1) t193_92 rfl rfl ?_
                refine g_goto t193_93 ?_
                first
                  | (have u0 : v = v53 := h68
                     have e61 : sgn t p = 61 := (lk_e hsg (by decide) (by decide)).mp h62
                     exact b_ret t193_111 rfl (hq s53 true hf hR (fun h => ⟨(hv53 h).1, fun hV => by
                       have q53 : v53.toInt64 = (g (pst t (Sum.inl p))).1 := ((hv53 h).2 hV).1
                       show _ = cmv (sgn t p) u (g (pst t (Sum.inl p))).1
                       rw [cmv, ← q53, ← hvv hV, if_pos e61]; exact (decide_eq_true (i64e.mpr u0)).symm⟩)))
                  | (have u0 : ¬ v = v53 := h68
                     have e61 : sgn t p = 61 := (lk_e hsg (by decide) (by decide)).mp h62
                     exact b_ret t193_111 rfl (hq s53 false hf hR (fun h => ⟨(hv53 h).1, fun hV => by
                       have q53 : v53.toInt64 = (g (pst t (Sum.inl p))).1 := ((hv53 h).2 hV).1
                       show _ = cmv (sgn t p) u (g (pst t (Sum.inl p))).1
                       rw [cmv, ← q53, ← hvv hV, if_pos e61]; exact (decide_eq_false (fun h => u0 (i64e.mp h))).symm⟩)))
                  | (have u0 : v53 ≤ v := h89
                     have n61 : ¬ sgn t p = 61 := fun e => h62 ((lk_e hsg (by decide) (by decide)).mpr e)
                     have e60 : sgn t p = 60 := (lk_e hsg (by decide) (by decide)).mp h83
                     exact b_ret t193_111 rfl (hq s53 false hf hR (fun h => ⟨(hv53 h).1, fun hV => by
                       have q53 : v53.toInt64 = (g (pst t (Sum.inl p))).1 := ((hv53 h).2 hV).1
                       show _ = cmv (sgn t p) u (g (pst t (Sum.inl p))).1
                       rw [cmv, ← q53, ← hvv hV, if_neg n61, if_pos e60]; exact (decide_eq_false (fun h => Int32.not_le.mpr (i64l.mp h) u0)).symm⟩)))
                  | (have u0 : ¬ v53 ≤ v := h89
                     have n61 : ¬ sgn t p = 61 := fun e => h62 ((lk_e hsg (by decide) (by decide)).mpr e)
                     have e60 : sgn t p = 60 := (lk_e hsg (by decide) (by decide)).mp h83
                     exact b_ret t193_111 rfl (hq s53 true hf hR (fun h => ⟨(hv53 h).1, fun hV => by
                       have q53 : v53.toInt64 = (g (pst t (Sum.inl p))).1 := ((hv53 h).2 hV).1
                       show _ = cmv (sgn t p) u (g (pst t (Sum.inl p))).1
                       rw [cmv, ← q53, ← hvv hV, if_neg n61, if_pos e60]; exact (decide_eq_true (i64l.mpr (Int32.not_le.mp u0))).symm⟩)))
                  | (have u0 : v ≤ v53 := h103
                     have n61 : ¬ sgn t p = 61 := fun e => h62 ((lk_e hsg (by decide) (by decide)).mpr e)
                     have n60 : ¬ sgn t p = 60 := fun e => h83 ((lk_e hsg (by decide) (by decide)).mpr e)
                     exact b_ret t193_111 rfl (hq s53 false hf hR (fun h => ⟨(hv53 h).1, fun hV => by
                       have q53 : v53.toInt64 = (g (pst t (Sum.inl p))).1 := ((hv53 h).2 hV).1
                       show _ = cmv (sgn t p) u (g (pst t (Sum.inl p))).1
                       rw [cmv, ← q53, ← hvv hV, if_neg n61, if_neg n60]; exact (decide_eq_false (fun h => Int32.not_le.mpr (i64l.mp h) u0)).symm⟩)))
                  | (have u0 : ¬ v ≤ v53 := h103
                     have n61 : ¬ sgn t p = 61 := fun e => h62 ((lk_e hsg (by decide) (by decide)).mpr e)
                     have n60 : ¬ sgn t p = 60 := fun e => h83 ((lk_e hsg (by decide) (by decide)).mpr e)
                     exact b_ret t193_111 rfl (hq s53 true hf hR (fun h => ⟨(hv53 h).1, fun hV => by
                       have q53 : v53.toInt64 = (g (pst t (Sum.inl p))).1 := ((hv53 h).2 hV).1
                       show _ = cmv (sgn t p) u (g (pst t (Sum.inl p))).1
                       rw [cmv, ← q53, ← hvv hV, if_neg n61, if_neg n60]; exact (decide_eq_true (i64l.mpr (Int32.not_le.mp u0))).symm⟩)))
          · refine g_p t193_65 rfl ?_
            refine g_p t193_66 rfl ?_
            refine g_cne t193_68 (fun h68 => ?_) (fun h68 => ?_)
            · refine g_k (n := 0) t193_75 rfl rfl ?_
              refine g_goto t193_76 ?_
              first
                | (have u0 : v = v53 := h68
                   have e61 : sgn t p = 61 := (lk_e hsg (by decide) (by decide)).mp h62
                   exact b_ret t193_111 rfl (hq s53 true hf hR (fun h => ⟨(hv53 h).1, fun hV => by
                     have q53 : v53.toInt64 = (g (pst t (Sum.inl p))).1 := ((hv53 h).2 hV).1
                     show _ = cmv (sgn t p) u (g (pst t (Sum.inl p))).1
                     rw [cmv, ← q53, ← hvv hV, if_pos e61]; exact (decide_eq_true (i64e.mpr u0)).symm⟩)))
                | (have u0 : ¬ v = v53 := h68
                   have e61 : sgn t p = 61 := (lk_e hsg (by decide) (by decide)).mp h62
                   exact b_ret t193_111 rfl (hq s53 false hf hR (fun h => ⟨(hv53 h).1, fun hV => by
                     have q53 : v53.toInt64 = (g (pst t (Sum.inl p))).1 := ((hv53 h).2 hV).1
                     show _ = cmv (sgn t p) u (g (pst t (Sum.inl p))).1
                     rw [cmv, ← q53, ← hvv hV, if_pos e61]; exact (decide_eq_false (fun h => u0 (i64e.mp h))).symm⟩)))
                | (have u0 : v53 ≤ v := h89
                   have n61 : ¬ sgn t p = 61 := fun e => h62 ((lk_e hsg (by decide) (by decide)).mpr e)
                   have e60 : sgn t p = 60 := (lk_e hsg (by decide) (by decide)).mp h83
                   exact b_ret t193_111 rfl (hq s53 false hf hR (fun h => ⟨(hv53 h).1, fun hV => by
                     have q53 : v53.toInt64 = (g (pst t (Sum.inl p))).1 := ((hv53 h).2 hV).1
                     show _ = cmv (sgn t p) u (g (pst t (Sum.inl p))).1
                     rw [cmv, ← q53, ← hvv hV, if_neg n61, if_pos e60]; exact (decide_eq_false (fun h => Int32.not_le.mpr (i64l.mp h) u0)).symm⟩)))
                | (have u0 : ¬ v53 ≤ v := h89
                   have n61 : ¬ sgn t p = 61 := fun e => h62 ((lk_e hsg (by decide) (by decide)).mpr e)
                   have e60 : sgn t p = 60 := (lk_e hsg (by decide) (by decide)).mp h83
                   exact b_ret t193_111 rfl (hq s53 true hf hR (fun h => ⟨(hv53 h).1, fun hV => by
                     have q53 : v53.toInt64 = (g (pst t (Sum.inl p))).1 := ((hv53 h).2 hV).1
                     show _ = cmv (sgn t p) u (g (pst t (Sum.inl p))).1
                     rw [cmv, ← q53, ← hvv hV, if_neg n61, if_pos e60]; exact (decide_eq_true (i64l.mpr (Int32.not_le.mp u0))).symm⟩)))
                | (have u0 : v ≤ v53 := h103
                   have n61 : ¬ sgn t p = 61 := fun e => h62 ((lk_e hsg (by decide) (by decide)).mpr e)
                   have n60 : ¬ sgn t p = 60 := fun e => h83 ((lk_e hsg (by decide) (by decide)).mpr e)
                   exact b_ret t193_111 rfl (hq s53 false hf hR (fun h => ⟨(hv53 h).1, fun hV => by
                     have q53 : v53.toInt64 = (g (pst t (Sum.inl p))).1 := ((hv53 h).2 hV).1
                     show _ = cmv (sgn t p) u (g (pst t (Sum.inl p))).1
                     rw [cmv, ← q53, ← hvv hV, if_neg n61, if_neg n60]; exact (decide_eq_false (fun h => Int32.not_le.mpr (i64l.mp h) u0)).symm⟩)))
                | (have u0 : ¬ v ≤ v53 := h103
                   have n61 : ¬ sgn t p = 61 := fun e => h62 ((lk_e hsg (by decide) (by decide)).mpr e)
                   have n60 : ¬ sgn t p = 60 := fun e => h83 ((lk_e hsg (by decide) (by decide)).mpr e)
                   exact b_ret t193_111 rfl (hq s53 true hf hR (fun h => ⟨(hv53 h).1, fun hV => by
                     have q53 : v53.toInt64 = (g (pst t (Sum.inl p))).1 := ((hv53 h).2 hV).1
                     show _ = cmv (sgn t p) u (g (pst t (Sum.inl p))).1
                     rw [cmv, ← q53, ← hvv hV, if_neg n61, if_neg n60]; exact (decide_eq_true (i64l.mpr (Int32.not_le.mp u0))).symm⟩)))
            · refine g_k (n := 1) t193_71 rfl rfl ?_
              refine g_goto t193_72 ?_
              first
                | (have u0 : v = v53 := h68
                   have e61 : sgn t p = 61 := (lk_e hsg (by decide) (by decide)).mp h62
                   exact b_ret t193_111 rfl (hq s53 true hf hR (fun h => ⟨(hv53 h).1, fun hV => by
                     have q53 : v53.toInt64 = (g (pst t (Sum.inl p))).1 := ((hv53 h).2 hV).1
                     show _ = cmv (sgn t p) u (g (pst t (Sum.inl p))).1
                     rw [cmv, ← q53, ← hvv hV, if_pos e61]; exact (decide_eq_true (i64e.mpr u0)).symm⟩)))
                | (have u0 : ¬ v = v53 := h68
                   have e61 : sgn t p = 61 := (lk_e hsg (by decide) (by decide)).mp h62
                   exact b_ret t193_111 rfl (hq s53 false hf hR (fun h => ⟨(hv53 h).1, fun hV => by
                     have q53 : v53.toInt64 = (g (pst t (Sum.inl p))).1 := ((hv53 h).2 hV).1
                     show _ = cmv (sgn t p) u (g (pst t (Sum.inl p))).1
                     rw [cmv, ← q53, ← hvv hV, if_pos e61]; exact (decide_eq_false (fun h => u0 (i64e.mp h))).symm⟩)))
                | (have u0 : v53 ≤ v := h89
                   have n61 : ¬ sgn t p = 61 := fun e => h62 ((lk_e hsg (by decide) (by decide)).mpr e)
                   have e60 : sgn t p = 60 := (lk_e hsg (by decide) (by decide)).mp h83
                   exact b_ret t193_111 rfl (hq s53 false hf hR (fun h => ⟨(hv53 h).1, fun hV => by
                     have q53 : v53.toInt64 = (g (pst t (Sum.inl p))).1 := ((hv53 h).2 hV).1
                     show _ = cmv (sgn t p) u (g (pst t (Sum.inl p))).1
                     rw [cmv, ← q53, ← hvv hV, if_neg n61, if_pos e60]; exact (decide_eq_false (fun h => Int32.not_le.mpr (i64l.mp h) u0)).symm⟩)))
                | (have u0 : ¬ v53 ≤ v := h89
                   have n61 : ¬ sgn t p = 61 := fun e => h62 ((lk_e hsg (by decide) (by decide)).mpr e)
                   have e60 : sgn t p = 60 := (lk_e hsg (by decide) (by decide)).mp h83
                   exact b_ret t193_111 rfl (hq s53 true hf hR (fun h => ⟨(hv53 h).1, fun hV => by
                     have q53 : v53.toInt64 = (g (pst t (Sum.inl p))).1 := ((hv53 h).2 hV).1
                     show _ = cmv (sgn t p) u (g (pst t (Sum.inl p))).1
                     rw [cmv, ← q53, ← hvv hV, if_neg n61, if_pos e60]; exact (decide_eq_true (i64l.mpr (Int32.not_le.mp u0))).symm⟩)))
                | (have u0 : v ≤ v53 := h103
                   have n61 : ¬ sgn t p = 61 := fun e => h62 ((lk_e hsg (by decide) (by decide)).mpr e)
                   have n60 : ¬ sgn t p = 60 := fun e => h83 ((lk_e hsg (by decide) (by decide)).mpr e)
                   exact b_ret t193_111 rfl (hq s53 false hf hR (fun h => ⟨(hv53 h).1, fun hV => by
                     have q53 : v53.toInt64 = (g (pst t (Sum.inl p))).1 := ((hv53 h).2 hV).1
                     show _ = cmv (sgn t p) u (g (pst t (Sum.inl p))).1
                     rw [cmv, ← q53, ← hvv hV, if_neg n61, if_neg n60]; exact (decide_eq_false (fun h => Int32.not_le.mpr (i64l.mp h) u0)).symm⟩)))
                | (have u0 : ¬ v ≤ v53 := h103
                   have n61 : ¬ sgn t p = 61 := fun e => h62 ((lk_e hsg (by decide) (by decide)).mpr e)
                   have n60 : ¬ sgn t p = 60 := fun e => h83 ((lk_e hsg (by decide) (by decide)).mpr e)
                   exact b_ret t193_111 rfl (hq s53 true hf hR (fun h => ⟨(hv53 h).1, fun hV => by
                     have q53 : v53.toInt64 = (g (pst t (Sum.inl p))).1 := ((hv53 h).2 hV).1
                     show _ = cmv (sgn t p) u (g (pst t (Sum.inl p))).1
                     rw [cmv, ← q53, ← hvv hV, if_neg n61, if_neg n60]; exact (decide_eq_true (i64l.mpr (Int32.not_le.mp u0))).symm⟩)))
        · exact no_b rfl h34
      · exact absurd rfl h18
    | false =>
      have e : lcp t g (u, .inl p) = (false, pre (.inl p)) := if_neg (by show ¬ isC (sgn t p) = true; rw [l1]; decide)
      rw [e] at hq
      refine g_isn t193_12 (Nat.le_of_ble_eq_true rfl) (am_s1_3 rfl) ?_
      refine g_p t193_13 rfl ?_
      refine r_gete t193_14 (f80 hF) rfl rfl h11 ?_
      refine g_p t193_17 rfl ?_
      refine g_ceq t193_18 (fun h18 => ?_) (fun h18 => ?_)
      · refine g_p t193_23 rfl ?_
        refine r_cv t193_24 (f80 hF) rfl ?_
        refine c183 (by exact hF) (by exact hX) (by exact hS) (fun s1 f1 hJ => ?_)
        have hS := hJ.m2 hsp
        have e10 := hJ.2.2
        have h11 := hJ.1
        refine k_v ?_ rfl
        have hF := Fx.fr (by exact hF) f1.1
        have e12 := (f1.f (i := 12) (by decide)).trans e12
        have hX := MT.fm (by exact hX) f1 (by decide) (by decide) (by decide) (by decide) (by decide)
        have hf := hf.tr (f1.mono (by decide) (by decide))
        refine g_is t193_27 (Nat.le_of_ble_eq_true rfl) (am_s1_4 rfl) ?_
        refine g_p t193_29 rfl ?_
        refine g_cs t193_31 rfl rfl rfl ?_
        refine c192 hsg ?_
        rw [l1]
        refine k_v ?_ rfl
        refine b_ne t193_34 (fun h34 => ?_) (fun h34 => ?_)
        · exact no_b h34 rfl
        · refine g_p t193_37 rfl ?_
          refine r_cv t193_38 (f80 hF) rfl ?_
          refine c184 (by exact hF) hJ (fun s2 f2 hE => ?_)
          refine k_v ?_ rfl
          exact b_ret t193_41 rfl (hq _ false (hf.tr (f2.mono (by decide) (by decide))) hE.rr (fun h => absurd h (hE.ne h120)))
      · exact absurd rfl h18
  · have h11 := hD.fl h120
    have e : lcp t g (u, τ) = (false, pre τ) := if_neg (fun h => by
      have h9 := hD.psg
      unfold isC at h
      simp only [Bool.or_eq_true, beq_iff_eq] at h
      have h : (psg t τ = 61 ∨ psg t τ = 60) ∨ psg t τ = 62 := h
      omega)
    rw [e] at hq
    refine g_isn t193_12 (Nat.le_of_ble_eq_true rfl) (am_s1_3 rfl) ?_
    refine g_p t193_13 rfl ?_
    refine r_geti t193_14 (f80 hF) rfl rfl ?_
    refine g_p t193_17 rfl ?_
    refine g_ceq t193_18 (fun h18 => ?_) (fun h18 => ?_)
    · exact absurd h18 h11
    · refine g_k (n := 0) t193_21 rfl rfl ?_
      exact b_ret t193_22 rfl (hq s false hf (Or.inr hD.pr) (fun h => absurd h h11))
theorem c193f (m191 : MC X T nT B t a V 191 k d g) : MU X T nT B t a V 193 k (d + 1) [.int (nI 0), .int (nI 0)] (fun σ => lcp t g (g σ)) := by
  intro s j Q hF hX hS e12 hL hq
  refine en193 rfl rfl rfl ?_
  refine g_p t193_0 rfl ?_
  refine n_eq t193_1 (by omega) (fun h1 => ?_) (fun h1 => ?_)
  · refine g_p t193_8 rfl ?_
    refine r_cv t193_9 (f80 hF) rfl ?_
    refine m191 _ j _ (by exact hF) (by exact hX) hS e12 hL (fun s9 v9 f9 hR hv9 => ?_)
    have hX := hX.fm f9 (by decide) (by decide) (by decide) (by decide) (by decide)
    have hF := hF.fr f9.1
    refine k_v ?_ rfl
    exact c193p m191 hF hX f9 hL hR (fun h => ⟨(hv9 h).1, fun hV => ((hv9 h).2 hV).1⟩) hq
  · exact absurd rfl h1
theorem c193t (m191 : MC X T nT B t a V 191 k d g) (hv : V → v.toInt64 = u) : MU X T nT B t a V 193 k (d + 1) [.int (nI 1), .int v] (fun σ => lcp t g (u, σ)) := by
  intro s j Q hF hX hS e12 hL hq
  refine en193 rfl rfl rfl ?_
  refine g_p t193_0 rfl ?_
  refine n_eq t193_1 (by omega) (fun h1 => ?_) (fun h1 => ?_)
  · exact absurd h1 (by decide)
  · refine g_p t193_4 rfl ?_
    refine g_goto t193_5 ?_
    exact c193p m191 hF hX FM.rf hL (Or.inl ⟨j, rfl, hS⟩) (fun _ => ⟨e12, hv⟩) hq
theorem c194z (m193 : MU X T nT B t a V 193 6 (d + 4) [.int (nI 0), .int (nI 0)] (fun σ => lcp t f (f σ))) : MU X T nT B t a V 194 6 (d + 5) [] (fun σ => if psg t σ = 33 ∨ psg t σ = 40 then (false, pre σ) else lcp t f (f σ)) := by
  intro s p Q hF hX hS e12 hL hq
  have h120 := hX.2.2.2.2.2.2.2.2.1
  have h11 := hS.1
  have hsp := hS.sk
  have hsg := hX.sg p
  have hf : FM [] rB s s := FM.rf
  by_cases l1 : sgn t p = 33 ∨ sgn t p = 40
  · simp only [if_pos (show psg t (Sum.inl p) = 33 ∨ psg t (Sum.inl p) = 40 from l1)] at hq
    refine en194 rfl ?_
    refine g_p t194_0 rfl ?_
    refine r_cv t194_1 (f80 hF) rfl ?_
    refine c183 (by exact hF) (by exact hX) (by exact hS) (fun s1 f1 hJ => ?_)
    have hS := hJ.m2 hsp
    have e10 := hJ.2.2
    have h11 := hJ.1
    refine k_v ?_ rfl
    have hF := Fx.fr (by exact hF) f1.1
    have e12 := (f1.f (i := 12) (by decide)).trans e12
    have hX := MT.fm (by exact hX) f1 (by decide) (by decide) (by decide) (by decide) (by decide)
    have hf := hf.tr (f1.mono (by decide) (by decide))
    refine g_isn t194_4 (Nat.le_of_ble_eq_true rfl) (am_s1_1 rfl) ?_
    refine g_p t194_5 rfl ?_
    refine g_k (n := 33) t194_6 rfl rfl ?_
    refine g_cne t194_8 (fun h8 => ?_) (fun h8 => ?_)
    · refine g_p t194_45 rfl ?_
      refine g_k (n := 40) t194_46 rfl rfl ?_
      refine g_cne t194_48 (fun h48 => ?_) (fun h48 => ?_)
      · exact l1.elim (fun e => absurd ((lk_e hsg (by decide) (by decide)).mpr e) h8) (fun e => absurd ((lk_e hsg (by decide) (by decide)).mpr e) h48)
      · refine g_p t194_51 rfl ?_
        refine r_cv t194_52 (f80 hF) rfl ?_
        refine c185f (by exact hF) hJ (by exact e12) (fun s2 f2 hE => ?_)
        refine k_v ?_ rfl
        refine b_ne t194_55 (fun h55 => ?_) (fun h55 => ?_)
        · exact no_b h55 rfl
        · refine g_k (n := 0) t194_58 rfl rfl ?_
          exact b_ret t194_59 rfl (hq _ false (hf.tr (f2.mono (by decide) (by decide))) hE.rr (fun h => absurd h (hE.ne h120)))
    · refine g_p t194_11 rfl ?_
      refine r_cv t194_12 (f80 hF) rfl ?_
      refine c185f (by exact hF) hJ (by exact e12) (fun s2 f2 hE => ?_)
      refine k_v ?_ rfl
      refine b_ne t194_15 (fun h15 => ?_) (fun h15 => ?_)
      · exact no_b h15 rfl
      · refine g_k (n := 0) t194_18 rfl rfl ?_
        exact b_ret t194_19 rfl (hq _ false (hf.tr (f2.mono (by decide) (by decide))) hE.rr (fun h => absurd h (hE.ne h120)))
  · simp only [if_neg (show ¬ (psg t (Sum.inl p) = 33 ∨ psg t (Sum.inl p) = 40) from l1)] at hq
    refine en194 rfl ?_
    refine g_p t194_0 rfl ?_
    refine r_cv t194_1 (f80 hF) rfl ?_
    refine c183 (by exact hF) (by exact hX) (by exact hS) (fun s1 f1 hJ => ?_)
    have hS := hJ.m2 hsp
    have e10 := hJ.2.2
    have h11 := hJ.1
    refine k_v ?_ rfl
    have hF := Fx.fr (by exact hF) f1.1
    have e12 := (f1.f (i := 12) (by decide)).trans e12
    have hX := MT.fm (by exact hX) f1 (by decide) (by decide) (by decide) (by decide) (by decide)
    have hf := hf.tr (f1.mono (by decide) (by decide))
    refine g_isn t194_4 (Nat.le_of_ble_eq_true rfl) (am_s1_1 rfl) ?_
    refine g_p t194_5 rfl ?_
    refine g_k (n := 33) t194_6 rfl rfl ?_
    refine g_cne t194_8 (fun h8 => ?_) (fun h8 => ?_)
    · refine g_p t194_45 rfl ?_
      refine g_k (n := 40) t194_46 rfl rfl ?_
      refine g_cne t194_48 (fun h48 => ?_) (fun h48 => ?_)
      · refine g_p t194_90 rfl ?_
        refine g_k (n := 0) t194_91 rfl rfl ?_
        refine g_k (n := 0) t194_92 rfl rfl ?_
        refine r_cv t194_93 (f80 hF) rfl ?_
        refine m193 _ p _ (by exact hF) (by exact hX) (by exact hS) (by exact e12) (fun hV => (hL hV).fm hf (by decide)) (fun s93 v93 f93 hR hv93 => ?_)
        refine k_v ?_ rfl
        exact b_ret t194_96 rfl (hq s93 v93 (hf.tr f93) hR hv93)
      · exact absurd (Or.inr ((lk_e hsg (by decide) (by decide)).mp h48)) l1
    · exact absurd (Or.inl ((lk_e hsg (by decide) (by decide)).mp h8)) l1
theorem c194s (hk : k < 6) (m193 : MU X T nT B t a V 193 k (d + 4) [.int (nI 0), .int (nI 0)] (fun σ => lcp t f (f σ))) (m194 : MU X T nT B t a V 194 (k + 1) (d + 4) [] h1) (m196 : MU X T nT B t a V 196 (k + 1) (d + 4) [.int (nI 0), .int (nI 0)] h2) : MU X T nT B t a V 194 k (d + 5) [] (fun σ => if psg t σ = 33 then (!(h1 (pst t σ)).1, (h1 (pst t σ)).2) else if psg t σ = 40 then ((h2 (pst t σ)).1, pne t 41 (h2 (pst t σ)).2) else lcp t f (f σ)) := by
  intro s p Q hF hX hS e12 hL hq
  have h120 := hX.2.2.2.2.2.2.2.2.1
  have h11 := hS.1
  have hsp := hS.sk
  have hsg := hX.sg p
  have hf : FM [] rB s s := FM.rf
  by_cases l1 : sgn t p = 33
  · simp only [if_pos (show psg t (Sum.inl p) = 33 from l1)] at hq
    have hpl : p < t.length := sgn_pos (by omega)
    refine en194 rfl ?_
    refine g_p t194_0 rfl ?_
    refine r_cv t194_1 (f80 hF) rfl ?_
    refine c183 (by exact hF) (by exact hX) (by exact hS) (fun s1 f1 hJ => ?_)
    have hS := hJ.m2 hsp
    have e10 := hJ.2.2
    have h11 := hJ.1
    refine k_v ?_ rfl
    have hF := Fx.fr (by exact hF) f1.1
    have e12 := (f1.f (i := 12) (by decide)).trans e12
    have hX := MT.fm (by exact hX) f1 (by decide) (by decide) (by decide) (by decide) (by decide)
    have hf := hf.tr (f1.mono (by decide) (by decide))
    refine g_isn t194_4 (Nat.le_of_ble_eq_true rfl) (am_s1_1 rfl) ?_
    refine g_p t194_5 rfl ?_
    refine g_k (n := 33) t194_6 rfl rfl ?_
    refine g_cne t194_8 (fun h8 => ?_) (fun h8 => ?_)
    · exact absurd ((lk_e hsg (by decide) (by decide)).mpr l1) h8
    · refine g_p t194_11 rfl ?_
      refine r_cv t194_12 (f80 hF) rfl ?_
      refine c185t (by exact hF) hJ hpl h120 (by exact e12) hk (fun s12 f12 hJ e12 => ?_)
      have h11 := hJ.1
      refine k_v ?_ rfl
      have hF := Fx.fr (by exact hF) f12.1
      have hX := MT.fm (by exact hX) f12 (by decide) (by decide) (by decide) (by decide) (by decide)
      have hf := hf.tr (f12.mono (by decide) (by decide))
      refine b_ne t194_15 (fun h15 => ?_) (fun h15 => ?_)
      · refine g_p t194_20 rfl ?_
        refine r_cv t194_21 (f80 hF) rfl ?_
        refine m194 _ (skp t (p + 1)) _ (by exact hF) (by exact hX) (by exact hJ.ms) (by exact e12) (fun hV => (hL hV).fm hf (by decide)) (fun s21 v21 f21 hR hv21 => ?_)
        have hX := MT.fm (by exact hX) f21 (by decide) (by decide) (by decide) (by decide) (by decide)
        have hF := Fx.fr (by exact hF) f21.1
        have hf := FM.tr (by exact hf) f21
        refine k_v ?_ rfl
        refine g_isn t194_24 (Nat.le_of_ble_eq_true rfl) (am_s1_2 rfl) ?_
        refine g_p t194_25 rfl ?_
        refine g_p t194_26 rfl ?_
        refine r_geti t194_27 (f80 hF) rfl rfl ?_
        refine g_k (n := 1) t194_30 rfl rfl ?_
        refine g_isub t194_31 ?_
        refine r_puti t194_32 (f80 hF) rfl rfl ?_
        refine g_p t194_35 rfl ?_
        refine b_ne t194_36 (fun h36 => ?_) (fun h36 => ?_)
        · refine g_k (n := 0) t194_43 rfl rfl ?_
          first
            | (have u0 : v21 = true := h36
               refine b_ret t194_44 rfl (hq _ false (hf.m (by decide)) (hR.fm (A := []) (B := [12]) (FM.rf.m (by decide)) (by decide) (by decide)) (fun h => ⟨?_, fun hV => ?_⟩))
               · rw [ri_wi_eq, (hv21 h).1, pk_sub (by omega)]; rfl
               · rw [← (show v21 = (h1 (pst t (Sum.inl p))).1 from (hv21 h).2 hV), u0]; rfl)
            | (have u0 : v21 = false := h36
               refine b_ret t194_44 rfl (hq _ true (hf.m (by decide)) (hR.fm (A := []) (B := [12]) (FM.rf.m (by decide)) (by decide) (by decide)) (fun h => ⟨?_, fun hV => ?_⟩))
               · rw [ri_wi_eq, (hv21 h).1, pk_sub (by omega)]; rfl
               · rw [← (show v21 = (h1 (pst t (Sum.inl p))).1 from (hv21 h).2 hV), u0]; rfl)
        · refine g_k (n := 1) t194_39 rfl rfl ?_
          refine g_goto t194_40 ?_
          first
            | (have u0 : v21 = true := h36
               refine b_ret t194_44 rfl (hq _ false (hf.m (by decide)) (hR.fm (A := []) (B := [12]) (FM.rf.m (by decide)) (by decide) (by decide)) (fun h => ⟨?_, fun hV => ?_⟩))
               · rw [ri_wi_eq, (hv21 h).1, pk_sub (by omega)]; rfl
               · rw [← (show v21 = (h1 (pst t (Sum.inl p))).1 from (hv21 h).2 hV), u0]; rfl)
            | (have u0 : v21 = false := h36
               refine b_ret t194_44 rfl (hq _ true (hf.m (by decide)) (hR.fm (A := []) (B := [12]) (FM.rf.m (by decide)) (by decide) (by decide)) (fun h => ⟨?_, fun hV => ?_⟩))
               · rw [ri_wi_eq, (hv21 h).1, pk_sub (by omega)]; rfl
               · rw [← (show v21 = (h1 (pst t (Sum.inl p))).1 from (hv21 h).2 hV), u0]; rfl)
      · exact no_b rfl h15
  · simp only [if_neg (show ¬ psg t (Sum.inl p) = 33 from l1)] at hq
    by_cases l2 : sgn t p = 40
    · simp only [if_pos (show psg t (Sum.inl p) = 40 from l2)] at hq
      have hpl : p < t.length := sgn_pos (by omega)
      refine en194 rfl ?_
      refine g_p t194_0 rfl ?_
      refine r_cv t194_1 (f80 hF) rfl ?_
      refine c183 (by exact hF) (by exact hX) (by exact hS) (fun s1 f1 hJ => ?_)
      have hS := hJ.m2 hsp
      have e10 := hJ.2.2
      have h11 := hJ.1
      refine k_v ?_ rfl
      have hF := Fx.fr (by exact hF) f1.1
      have e12 := (f1.f (i := 12) (by decide)).trans e12
      have hX := MT.fm (by exact hX) f1 (by decide) (by decide) (by decide) (by decide) (by decide)
      have hf := hf.tr (f1.mono (by decide) (by decide))
      refine g_isn t194_4 (Nat.le_of_ble_eq_true rfl) (am_s1_1 rfl) ?_
      refine g_p t194_5 rfl ?_
      refine g_k (n := 33) t194_6 rfl rfl ?_
      refine g_cne t194_8 (fun h8 => ?_) (fun h8 => ?_)
      · refine g_p t194_45 rfl ?_
        refine g_k (n := 40) t194_46 rfl rfl ?_
        refine g_cne t194_48 (fun h48 => ?_) (fun h48 => ?_)
        · exact absurd ((lk_e hsg (by decide) (by decide)).mpr l2) h48
        · refine g_p t194_51 rfl ?_
          refine r_cv t194_52 (f80 hF) rfl ?_
          refine c185t (by exact hF) hJ hpl h120 (by exact e12) hk (fun s52 f52 hJ e12 => ?_)
          have h11 := hJ.1
          refine k_v ?_ rfl
          have hF := Fx.fr (by exact hF) f52.1
          have hX := MT.fm (by exact hX) f52 (by decide) (by decide) (by decide) (by decide) (by decide)
          have hf := hf.tr (f52.mono (by decide) (by decide))
          refine b_ne t194_55 (fun h55 => ?_) (fun h55 => ?_)
          · refine g_p t194_60 rfl ?_
            refine g_k (n := 0) t194_61 rfl rfl ?_
            refine g_k (n := 0) t194_62 rfl rfl ?_
            refine r_cv t194_63 (f80 hF) rfl ?_
            refine m196 _ (skp t (p + 1)) _ (by exact hF) (by exact hX) (by exact hJ.ms) (by exact e12) (fun hV => (hL hV).fm hf (by decide)) (fun s63 v63 f63 hR hv63 => ?_)
            have hX := MT.fm (by exact hX) f63 (by decide) (by decide) (by decide) (by decide) (by decide)
            have hF := Fx.fr (by exact hF) f63.1
            have hf := FM.tr (by exact hf) f63
            refine k_v ?_ rfl
            refine g_isn t194_66 (Nat.le_of_ble_eq_true rfl) (am_s1_2 rfl) ?_
            refine g_p t194_67 rfl ?_
            refine g_k (n := 41) t194_68 rfl rfl ?_
            refine r_cv t194_70 (f80 hF) rfl ?_
            refine c186 (by exact hF) (by exact hX) hR (by decide) (by decide) (by decide) (fun s70 q hu f70 he hc hql hJ3 => ?_) (fun s70 f70 hD _ => ?_)
            · have e12b := (f70.f (i := 12) (by decide)).trans (hv63 hu).1
              have hF := Fx.fr (by exact hF) f70.1
              have hf := hf.tr (f70.mono (by decide) (by decide))
              refine k_v ?_ rfl
              refine b_ne t194_73 (fun h73 => ?_) (fun h73 => ?_)
              · refine g_p t194_78 rfl ?_
                refine g_p t194_79 rfl ?_
                refine r_gete t194_80 (f80 hF) rfl rfl e12b ?_
                refine g_k (n := 1) t194_83 rfl rfl ?_
                refine g_subn t194_84 (by omega) ?_
                refine r_puti t194_85 (f80 hF) rfl rfl ?_
                refine g_p t194_88 rfl ?_
                refine b_ret t194_89 rfl (hq _ v63 (hf.m (by decide)) ?_ (fun _ => ⟨rfl, fun hV => ?_⟩))
                · have he2 : pne t 41 (h2 (pst t (Sum.inl p))).2 = pst t (.inl q) := by
                    rw [show (h2 (pst t (Sum.inl p))).2 = .inl q from he]
                    exact if_pos hc
                  rw [he2]
                  exact (show MJ t (q + 1) (wi s70 80 12 (nI (k + 1 - 1))) from hJ3).rm
                · exact (hv63 hu).2 hV
              · exact no_b rfl h73
            · have hF := Fx.fr (by exact hF) f70.1
              have hf := hf.tr (f70.mono (by decide) (by decide))
              refine k_v ?_ rfl
              refine b_ne t194_73 (fun h73 => ?_) (fun h73 => ?_)
              · exact no_b h73 rfl
              · refine g_k (n := 0) t194_76 rfl rfl ?_
                exact b_ret t194_77 rfl (hq _ false hf (Or.inr hD) (fun h => absurd h (hD.fl h120)))
          · exact no_b rfl h55
      · exact absurd ((lk_e hsg (by decide) (by decide)).mp h8) l1
    · simp only [if_neg (show ¬ psg t (Sum.inl p) = 40 from l2)] at hq
      refine en194 rfl ?_
      refine g_p t194_0 rfl ?_
      refine r_cv t194_1 (f80 hF) rfl ?_
      refine c183 (by exact hF) (by exact hX) (by exact hS) (fun s1 f1 hJ => ?_)
      have hS := hJ.m2 hsp
      have e10 := hJ.2.2
      have h11 := hJ.1
      refine k_v ?_ rfl
      have hF := Fx.fr (by exact hF) f1.1
      have e12 := (f1.f (i := 12) (by decide)).trans e12
      have hX := MT.fm (by exact hX) f1 (by decide) (by decide) (by decide) (by decide) (by decide)
      have hf := hf.tr (f1.mono (by decide) (by decide))
      refine g_isn t194_4 (Nat.le_of_ble_eq_true rfl) (am_s1_1 rfl) ?_
      refine g_p t194_5 rfl ?_
      refine g_k (n := 33) t194_6 rfl rfl ?_
      refine g_cne t194_8 (fun h8 => ?_) (fun h8 => ?_)
      · refine g_p t194_45 rfl ?_
        refine g_k (n := 40) t194_46 rfl rfl ?_
        refine g_cne t194_48 (fun h48 => ?_) (fun h48 => ?_)
        · refine g_p t194_90 rfl ?_
          refine g_k (n := 0) t194_91 rfl rfl ?_
          refine g_k (n := 0) t194_92 rfl rfl ?_
          refine r_cv t194_93 (f80 hF) rfl ?_
          refine m193 _ p _ (by exact hF) (by exact hX) (by exact hS) (by exact e12) (fun hV => (hL hV).fm hf (by decide)) (fun s93 v93 f93 hR hv93 => ?_)
          refine k_v ?_ rfl
          exact b_ret t194_96 rfl (hq s93 v93 (hf.tr f93) hR hv93)
        · exact absurd ((lk_e hsg (by decide) (by decide)).mp h48) l2
      · exact absurd ((lk_e hsg (by decide) (by decide)).mp h8) l1
theorem c195L (hadv : adv h1) (m0 : MU X T nT B t a V 194 k (d + 4) [] h1) {Z : BV} {s0 : mM} {z1 z2 : Int32} (h120 : t.length ≤ 120) (hL : V → LTm a s0) (hq : ∀ s' c, FM [] rB s0 s' → RM t Z.2 s' → (ri s' 80 11 = -1 → ri s' 80 12 = nI k ∧ (V → c = Z.1)) → Q (some (.int (bI c))) (mR s')) : ∀ (j i : Nat), i + j = 120 → ∀ (b b0 : Bool) (τ : Ps) (s' : mM), ∀ {z4}, Z = anl t h1 j (b0, τ) → Fx s' → FM [] rB s0 s' → MT T nT B t s' → RM t τ s' → ple i τ → (ri s' 80 11 = -1 → ri s' 80 12 = nI k ∧ (V → b = b0)) → gG X (d + 5) 195 18 [.ref 80, .int z1, .int z2, .int (bI b), z4] [] (mR s') Q := by
  have EX : ∀ (j i : Nat) (b b0 : Bool) (τ : Ps) (s' : mM), ∀ {z4}, ¬ psg t τ = 38 → Z = anl t h1 j (b0, τ) → Fx s' → FM [] rB s0 s' → MT T nT B t s' → RM t τ s' → (ri s' 80 11 = -1 → ri s' 80 12 = nI k ∧ (V → b = b0)) → gG X (d + 5) 195 18 [.ref 80, .int z1, .int z2, .int (bI b), z4] [] (mR s') Q := by
    intro j i b b0 τ s' z4 n1 he hF hf hX hR hval
    rw [anl_d n1] at he
    rw [he] at hq
    rcases hR with ⟨p, rfl, hS⟩ | hD
    · have h11 := hS.1
      have e12 := (hval h11).1
      have hvv := (hval h11).2
      have hsp := hS.sk
      have hsg := hX.sg p
      have n1 : ¬ sgn t p = 38 := n1
      refine g_p t195_18 rfl ?_
      refine r_gete t195_19 (f80 hF) rfl rfl h11 ?_
      refine g_p t195_22 rfl ?_
      refine g_cne t195_23 (fun h23 => ?_) (fun h23 => ?_)
      · refine g_p t195_69 rfl ?_
        first
          | (have u0 : ¬ (-1 : Int32) = -1 := h23
             exact absurd rfl u0)
          | exact b_ret t195_70 rfl (hq _ b hf (Or.inl ⟨p, rfl, hS⟩) (fun _ => ⟨e12, hvv⟩))
      · refine g_p t195_26 rfl ?_
        refine r_cv t195_27 (f80 hF) rfl ?_
        refine c183 (by exact hF) (by exact hX) (by exact hS) (fun s1 f1 hJ => ?_)
        have hS := hJ.m2 hsp
        have e10 := hJ.2.2
        have h11 := hJ.1
        refine k_v ?_ rfl
        have hF := Fx.fr (by exact hF) f1.1
        have e12 := (f1.f (i := 12) (by decide)).trans e12
        have hX := MT.fm (by exact hX) f1 (by decide) (by decide) (by decide) (by decide) (by decide)
        have hf := hf.tr (f1.mono (by decide) (by decide))
        refine g_k (n := 38) t195_30 rfl rfl ?_
        refine g_cne t195_32 (fun h32 => ?_) (fun h32 => ?_)
        · refine g_p t195_69 rfl ?_
          first
            | (have u0 : ¬ (-1 : Int32) = -1 := h23
               exact absurd rfl u0)
            | exact b_ret t195_70 rfl (hq _ b hf (Or.inl ⟨p, rfl, hS⟩) (fun _ => ⟨e12, hvv⟩))
        · exact absurd ((lk_e hsg (by decide) (by decide)).mp h32) n1
    · have h11 := hD.fl h120
      refine g_p t195_18 rfl ?_
      refine r_geti t195_19 (f80 hF) rfl rfl ?_
      refine g_p t195_22 rfl ?_
      refine g_cne t195_23 (fun h23 => ?_) (fun h23 => ?_)
      · refine g_p t195_69 rfl ?_
        exact b_ret t195_70 rfl (hq s' b hf (Or.inr hD) (fun h => absurd h h11))
      · exact absurd h23 h11
  intro j
  induction j with
  | zero =>
    intro i hi b b0 τ s' z4 he hF hf hX hR hle hval
    have h0 : psg t τ = 0 := by
      cases τ with
      | inl p =>
        have hle : i ≤ p := hle
        show sgn t p = 0
        unfold sgn
        rw [List.getD, List.getElem?_eq_none (by omega)]; rfl
      | inr f => rfl
    exact EX _ i b b0 τ s' (by rw [h0]; decide) he hF hf hX hR hval
  | succ j ih =>
    intro i hi b b0 τ s' z4 he hF hf hX hR hle hval
    have ih : ∀ i, i + j = 120 → ∀ (b : Bool) (b0 : Bool) (τ : Ps), ∀ {s' : mM} {z4}, Z = anl t h1 j (b0, τ) → Fx s' → FM [] rB s0 s' → MT T nT B t s' → RM t τ s' → ple i τ → (ri s' 80 11 = -1 → ri s' 80 12 = nI k ∧ (V → b = b0)) → gG X (d + 5) 195 18 [.ref 80, .int z1, .int z2, .int (bI b), z4] [] (mR s') Q := fun i h b b0 τ s' z4 => ih i h b b0 τ s'
    by_cases l1 : psg t τ = 38
    · rcases hR with ⟨p, rfl, hS⟩ | hD
      · have h11 := hS.1
        have e12 := (hval h11).1
        have hvv := (hval h11).2
        have hsp := hS.sk
        have hsg := hX.sg p
        have l1 : sgn t p = 38 := l1
        have hpl : p < t.length := sgn_pos (by omega)
        have he : Z = anl t h1 j (b0 && (h1 (pst t (.inl p))).1, (h1 (pst t (.inl p))).2) := by
          rw [he, anl, if_pos (show psg t (Sum.inl p) = 38 from l1)]
        refine g_p t195_18 rfl ?_
        refine r_gete t195_19 (f80 hF) rfl rfl h11 ?_
        refine g_p t195_22 rfl ?_
        refine g_cne t195_23 (fun h23 => ?_) (fun h23 => ?_)
        · first
            | (have u0 : ¬ (-1 : Int32) = -1 := h23
               exact absurd rfl u0)
            | exact absurd ((lk_e hsg (by decide) (by decide)).mpr l1) h32
        · refine g_p t195_26 rfl ?_
          refine r_cv t195_27 (f80 hF) rfl ?_
          refine c183 (by exact hF) (by exact hX) (by exact hS) (fun s1 f1 hJ => ?_)
          have hS := hJ.m2 hsp
          have e10 := hJ.2.2
          have h11 := hJ.1
          refine k_v ?_ rfl
          have hF := Fx.fr (by exact hF) f1.1
          have e12 := (f1.f (i := 12) (by decide)).trans e12
          have hX := MT.fm (by exact hX) f1 (by decide) (by decide) (by decide) (by decide) (by decide)
          have hf := hf.tr (f1.mono (by decide) (by decide))
          refine g_k (n := 38) t195_30 rfl rfl ?_
          refine g_cne t195_32 (fun h32 => ?_) (fun h32 => ?_)
          · first
              | (have u0 : ¬ (-1 : Int32) = -1 := h23
                 exact absurd rfl u0)
              | exact absurd ((lk_e hsg (by decide) (by decide)).mpr l1) h32
          · refine g_p t195_35 rfl ?_
            refine g_p t195_36 rfl ?_
            refine r_gete t195_37 (f80 hF) rfl rfl e10 ?_
            refine g_k (n := 1) t195_40 rfl rfl ?_
            refine g_addn t195_41 ?_
            refine r_puti t195_42 (f80 hF) rfl rfl ?_
            refine g_p t195_45 rfl ?_
            refine r_cv t195_46 (f80 hF) rfl ?_
            have hJ := hJ.up hpl
            have hX := MT.w8 (i := 10) (v := nI (p + 1)) (by exact hX) (by decide) (by decide) (by decide)
            have hf := hf.m (i := 10) (v := nI (p + 1)) (by decide)
            refine m0 _ (skp t (p + 1)) _ (by exact hF) (by exact hX) (by exact hJ.ms) (by exact e12) (fun hV => (hL hV).fm hf (by decide)) (fun s46 v46 f46 hR hv46 => ?_)
            have hX := MT.fm (by exact hX) f46 (by decide) (by decide) (by decide) (by decide) (by decide)
            have hF := Fx.fr (by exact hF) f46.1
            have hf := FM.tr (by exact hf) f46
            refine k_v ?_ rfl
            refine g_is t195_49 (Nat.le_of_ble_eq_true rfl) (am_s1_4 rfl) ?_
            refine g_p t195_51 rfl ?_
            refine b_eq t195_52 (fun h52 => ?_) (fun h52 => ?_)
            · refine g_k (n := 0) t195_64 rfl rfl ?_
              refine g_isn t195_65 (Nat.le_of_ble_eq_true rfl) (am_s1_3 rfl) ?_
              refine g_goto t195_66 ?_
              first
                | (have u0 : b = false := h52
                   exact ih (i + 1) (by omega) false _ _ he hF hf hX hR (hadv _ _ (ple_pst hle)) (fun h => ⟨(hv46 h).1, fun hV => by rw [← hvv hV, u0]; rfl⟩))
                | (have u0 : v46 = false := h57
                   exact ih (i + 1) (by omega) false _ _ he hF hf hX hR (hadv _ _ (ple_pst hle)) (fun h => ⟨(hv46 h).1, fun hV => by rw [← (show v46 = (h1 (pst t (Sum.inl p))).1 from (hv46 h).2 hV), u0, Bool.and_false]⟩))
                | (have u0 : v46 = true := h57
                   exact ih (i + 1) (by omega) true _ _ he hF hf hX hR (hadv _ _ (ple_pst hle)) (fun h => ⟨(hv46 h).1, fun hV => by rw [← (show v46 = (h1 (pst t (Sum.inl p))).1 from (hv46 h).2 hV), ← hvv hV, u0, h52]; rfl⟩))
            · refine g_p t195_55 rfl ?_
              refine b_eq t195_57 (fun h57 => ?_) (fun h57 => ?_)
              · refine g_k (n := 0) t195_64 rfl rfl ?_
                refine g_isn t195_65 (Nat.le_of_ble_eq_true rfl) (am_s1_3 rfl) ?_
                refine g_goto t195_66 ?_
                first
                  | (have u0 : b = false := h52
                     exact ih (i + 1) (by omega) false _ _ he hF hf hX hR (hadv _ _ (ple_pst hle)) (fun h => ⟨(hv46 h).1, fun hV => by rw [← hvv hV, u0]; rfl⟩))
                  | (have u0 : v46 = false := h57
                     exact ih (i + 1) (by omega) false _ _ he hF hf hX hR (hadv _ _ (ple_pst hle)) (fun h => ⟨(hv46 h).1, fun hV => by rw [← (show v46 = (h1 (pst t (Sum.inl p))).1 from (hv46 h).2 hV), u0, Bool.and_false]⟩))
                  | (have u0 : v46 = true := h57
                     exact ih (i + 1) (by omega) true _ _ he hF hf hX hR (hadv _ _ (ple_pst hle)) (fun h => ⟨(hv46 h).1, fun hV => by rw [← (show v46 = (h1 (pst t (Sum.inl p))).1 from (hv46 h).2 hV), ← hvv hV, u0, h52]; rfl⟩))
              · refine g_k (n := 1) t195_60 rfl rfl ?_
                refine g_goto t195_61 ?_
                refine g_isn t195_65 (Nat.le_of_ble_eq_true rfl) (am_s1_3 rfl) ?_
                refine g_goto t195_66 ?_
                first
                  | (have u0 : b = false := h52
                     exact ih (i + 1) (by omega) false _ _ he hF hf hX hR (hadv _ _ (ple_pst hle)) (fun h => ⟨(hv46 h).1, fun hV => by rw [← hvv hV, u0]; rfl⟩))
                  | (have u0 : v46 = false := h57
                     exact ih (i + 1) (by omega) false _ _ he hF hf hX hR (hadv _ _ (ple_pst hle)) (fun h => ⟨(hv46 h).1, fun hV => by rw [← (show v46 = (h1 (pst t (Sum.inl p))).1 from (hv46 h).2 hV), u0, Bool.and_false]⟩))
                  | (have u0 : v46 = true := h57
                     exact ih (i + 1) (by omega) true _ _ he hF hf hX hR (hadv _ _ (ple_pst hle)) (fun h => ⟨(hv46 h).1, fun hV => by rw [← (show v46 = (h1 (pst t (Sum.inl p))).1 from (hv46 h).2 hV), ← hvv hV, u0, h52]; rfl⟩))
      · have := hD.psg; omega
    · exact EX _ i b b0 τ s' l1 he hF hf hX hR hval
theorem c196L (hadv : adv h1) (m0 : MU X T nT B t a V 195 k (d + 4) [.int (nI 0), .int (nI 0)] h1) {Z : BV} {s0 : mM} {z1 z2 : Int32} (h120 : t.length ≤ 120) (hL : V → LTm a s0) (hq : ∀ s' c, FM [] rB s0 s' → RM t Z.2 s' → (ri s' 80 11 = -1 → ri s' 80 12 = nI k ∧ (V → c = Z.1)) → Q (some (.int (bI c))) (mR s')) : ∀ (j i : Nat), i + j = 120 → ∀ (b b0 : Bool) (τ : Ps) (s' : mM), ∀ {z4}, Z = orl t h1 j (b0, τ) → Fx s' → FM [] rB s0 s' → MT T nT B t s' → RM t τ s' → ple i τ → (ri s' 80 11 = -1 → ri s' 80 12 = nI k ∧ (V → b = b0)) → gG X (d + 5) 196 7 [.ref 80, .int z1, .int z2, .int (bI b), z4] [] (mR s') Q := by
  have EX : ∀ (j i : Nat) (b b0 : Bool) (τ : Ps) (s' : mM), ∀ {z4}, ¬ psg t τ = 124 → Z = orl t h1 j (b0, τ) → Fx s' → FM [] rB s0 s' → MT T nT B t s' → RM t τ s' → (ri s' 80 11 = -1 → ri s' 80 12 = nI k ∧ (V → b = b0)) → gG X (d + 5) 196 7 [.ref 80, .int z1, .int z2, .int (bI b), z4] [] (mR s') Q := by
    intro j i b b0 τ s' z4 n1 he hF hf hX hR hval
    rw [orl_d n1] at he
    rw [he] at hq
    rcases hR with ⟨p, rfl, hS⟩ | hD
    · have h11 := hS.1
      have e12 := (hval h11).1
      have hvv := (hval h11).2
      have hsp := hS.sk
      have hsg := hX.sg p
      have n1 : ¬ sgn t p = 124 := n1
      refine g_p t196_7 rfl ?_
      refine r_gete t196_8 (f80 hF) rfl rfl h11 ?_
      refine g_p t196_11 rfl ?_
      refine g_cne t196_12 (fun h12 => ?_) (fun h12 => ?_)
      · refine g_p t196_60 rfl ?_
        first
          | (have u0 : ¬ (-1 : Int32) = -1 := h12
             exact absurd rfl u0)
          | exact b_ret t196_61 rfl (hq _ b hf (Or.inl ⟨p, rfl, hS⟩) (fun _ => ⟨e12, hvv⟩))
      · refine g_p t196_15 rfl ?_
        refine r_cv t196_16 (f80 hF) rfl ?_
        refine c183 (by exact hF) (by exact hX) (by exact hS) (fun s1 f1 hJ => ?_)
        have hS := hJ.m2 hsp
        have e10 := hJ.2.2
        have h11 := hJ.1
        refine k_v ?_ rfl
        have hF := Fx.fr (by exact hF) f1.1
        have e12 := (f1.f (i := 12) (by decide)).trans e12
        have hX := MT.fm (by exact hX) f1 (by decide) (by decide) (by decide) (by decide) (by decide)
        have hf := hf.tr (f1.mono (by decide) (by decide))
        refine g_k (n := 124) t196_19 rfl rfl ?_
        refine g_cne t196_21 (fun h21 => ?_) (fun h21 => ?_)
        · refine g_p t196_60 rfl ?_
          first
            | (have u0 : ¬ (-1 : Int32) = -1 := h12
               exact absurd rfl u0)
            | exact b_ret t196_61 rfl (hq _ b hf (Or.inl ⟨p, rfl, hS⟩) (fun _ => ⟨e12, hvv⟩))
        · exact absurd ((lk_e hsg (by decide) (by decide)).mp h21) n1
    · have h11 := hD.fl h120
      refine g_p t196_7 rfl ?_
      refine r_geti t196_8 (f80 hF) rfl rfl ?_
      refine g_p t196_11 rfl ?_
      refine g_cne t196_12 (fun h12 => ?_) (fun h12 => ?_)
      · refine g_p t196_60 rfl ?_
        exact b_ret t196_61 rfl (hq s' b hf (Or.inr hD) (fun h => absurd h h11))
      · exact absurd h12 h11
  intro j
  induction j with
  | zero =>
    intro i hi b b0 τ s' z4 he hF hf hX hR hle hval
    have h0 : psg t τ = 0 := by
      cases τ with
      | inl p =>
        have hle : i ≤ p := hle
        show sgn t p = 0
        unfold sgn
        rw [List.getD, List.getElem?_eq_none (by omega)]; rfl
      | inr f => rfl
    exact EX _ i b b0 τ s' (by rw [h0]; decide) he hF hf hX hR hval
  | succ j ih =>
    intro i hi b b0 τ s' z4 he hF hf hX hR hle hval
    have ih : ∀ i, i + j = 120 → ∀ (b : Bool) (b0 : Bool) (τ : Ps), ∀ {s' : mM} {z4}, Z = orl t h1 j (b0, τ) → Fx s' → FM [] rB s0 s' → MT T nT B t s' → RM t τ s' → ple i τ → (ri s' 80 11 = -1 → ri s' 80 12 = nI k ∧ (V → b = b0)) → gG X (d + 5) 196 7 [.ref 80, .int z1, .int z2, .int (bI b), z4] [] (mR s') Q := fun i h b b0 τ s' z4 => ih i h b b0 τ s'
    by_cases l1 : psg t τ = 124
    · rcases hR with ⟨p, rfl, hS⟩ | hD
      · have h11 := hS.1
        have e12 := (hval h11).1
        have hvv := (hval h11).2
        have hsp := hS.sk
        have hsg := hX.sg p
        have l1 : sgn t p = 124 := l1
        have hpl : p < t.length := sgn_pos (by omega)
        have he : Z = orl t h1 j (b0 || (h1 (pst t (.inl p))).1, (h1 (pst t (.inl p))).2) := by
          rw [he, orl, if_pos (show psg t (Sum.inl p) = 124 from l1)]
        refine g_p t196_7 rfl ?_
        refine r_gete t196_8 (f80 hF) rfl rfl h11 ?_
        refine g_p t196_11 rfl ?_
        refine g_cne t196_12 (fun h12 => ?_) (fun h12 => ?_)
        · first
            | (have u0 : ¬ (-1 : Int32) = -1 := h12
               exact absurd rfl u0)
            | exact absurd ((lk_e hsg (by decide) (by decide)).mpr l1) h21
        · refine g_p t196_15 rfl ?_
          refine r_cv t196_16 (f80 hF) rfl ?_
          refine c183 (by exact hF) (by exact hX) (by exact hS) (fun s1 f1 hJ => ?_)
          have hS := hJ.m2 hsp
          have e10 := hJ.2.2
          have h11 := hJ.1
          refine k_v ?_ rfl
          have hF := Fx.fr (by exact hF) f1.1
          have e12 := (f1.f (i := 12) (by decide)).trans e12
          have hX := MT.fm (by exact hX) f1 (by decide) (by decide) (by decide) (by decide) (by decide)
          have hf := hf.tr (f1.mono (by decide) (by decide))
          refine g_k (n := 124) t196_19 rfl rfl ?_
          refine g_cne t196_21 (fun h21 => ?_) (fun h21 => ?_)
          · first
              | (have u0 : ¬ (-1 : Int32) = -1 := h12
                 exact absurd rfl u0)
              | exact absurd ((lk_e hsg (by decide) (by decide)).mpr l1) h21
          · refine g_p t196_24 rfl ?_
            refine g_p t196_25 rfl ?_
            refine r_gete t196_26 (f80 hF) rfl rfl e10 ?_
            refine g_k (n := 1) t196_29 rfl rfl ?_
            refine g_addn t196_30 ?_
            refine r_puti t196_31 (f80 hF) rfl rfl ?_
            refine g_p t196_34 rfl ?_
            refine g_k (n := 0) t196_35 rfl rfl ?_
            refine g_k (n := 0) t196_36 rfl rfl ?_
            refine r_cv t196_37 (f80 hF) rfl ?_
            have hJ := hJ.up hpl
            have hX := MT.w8 (i := 10) (v := nI (p + 1)) (by exact hX) (by decide) (by decide) (by decide)
            have hf := hf.m (i := 10) (v := nI (p + 1)) (by decide)
            refine m0 _ (skp t (p + 1)) _ (by exact hF) (by exact hX) (by exact hJ.ms) (by exact e12) (fun hV => (hL hV).fm hf (by decide)) (fun s46 v46 f46 hR hv46 => ?_)
            have hX := MT.fm (by exact hX) f46 (by decide) (by decide) (by decide) (by decide) (by decide)
            have hF := Fx.fr (by exact hF) f46.1
            have hf := FM.tr (by exact hf) f46
            refine k_v ?_ rfl
            refine g_is t196_40 (Nat.le_of_ble_eq_true rfl) (am_s1_4 rfl) ?_
            refine g_p t196_42 rfl ?_
            refine b_ne t196_43 (fun h43 => ?_) (fun h43 => ?_)
            · refine g_k (n := 1) t196_51 rfl rfl ?_
              refine g_goto t196_52 ?_
              refine g_isn t196_56 (Nat.le_of_ble_eq_true rfl) (am_s1_3 rfl) ?_
              refine g_goto t196_57 ?_
              first
                | (have u0 : b = true := h43
                   exact ih (i + 1) (by omega) true _ _ he hF hf hX hR (hadv _ _ (ple_pst hle)) (fun h => ⟨(hv46 h).1, fun hV => by rw [← hvv hV, u0]; rfl⟩))
                | (have u0 : v46 = true := h48
                   exact ih (i + 1) (by omega) true _ _ he hF hf hX hR (hadv _ _ (ple_pst hle)) (fun h => ⟨(hv46 h).1, fun hV => by rw [← (show v46 = (h1 (pst t (Sum.inl p))).1 from (hv46 h).2 hV), u0, Bool.or_true]⟩))
                | (have u0 : v46 = false := h48
                   exact ih (i + 1) (by omega) false _ _ he hF hf hX hR (hadv _ _ (ple_pst hle)) (fun h => ⟨(hv46 h).1, fun hV => by rw [← (show v46 = (h1 (pst t (Sum.inl p))).1 from (hv46 h).2 hV), ← hvv hV, u0, h43]; rfl⟩))
            · refine g_p t196_46 rfl ?_
              refine b_eq t196_48 (fun h48 => ?_) (fun h48 => ?_)
              · refine g_k (n := 0) t196_55 rfl rfl ?_
                refine g_isn t196_56 (Nat.le_of_ble_eq_true rfl) (am_s1_3 rfl) ?_
                refine g_goto t196_57 ?_
                first
                  | (have u0 : b = true := h43
                     exact ih (i + 1) (by omega) true _ _ he hF hf hX hR (hadv _ _ (ple_pst hle)) (fun h => ⟨(hv46 h).1, fun hV => by rw [← hvv hV, u0]; rfl⟩))
                  | (have u0 : v46 = true := h48
                     exact ih (i + 1) (by omega) true _ _ he hF hf hX hR (hadv _ _ (ple_pst hle)) (fun h => ⟨(hv46 h).1, fun hV => by rw [← (show v46 = (h1 (pst t (Sum.inl p))).1 from (hv46 h).2 hV), u0, Bool.or_true]⟩))
                  | (have u0 : v46 = false := h48
                     exact ih (i + 1) (by omega) false _ _ he hF hf hX hR (hadv _ _ (ple_pst hle)) (fun h => ⟨(hv46 h).1, fun hV => by rw [← (show v46 = (h1 (pst t (Sum.inl p))).1 from (hv46 h).2 hV), ← hvv hV, u0, h43]; rfl⟩))
              · refine g_k (n := 1) t196_51 rfl rfl ?_
                refine g_goto t196_52 ?_
                refine g_isn t196_56 (Nat.le_of_ble_eq_true rfl) (am_s1_3 rfl) ?_
                refine g_goto t196_57 ?_
                first
                  | (have u0 : b = true := h43
                     exact ih (i + 1) (by omega) true _ _ he hF hf hX hR (hadv _ _ (ple_pst hle)) (fun h => ⟨(hv46 h).1, fun hV => by rw [← hvv hV, u0]; rfl⟩))
                  | (have u0 : v46 = true := h48
                     exact ih (i + 1) (by omega) true _ _ he hF hf hX hR (hadv _ _ (ple_pst hle)) (fun h => ⟨(hv46 h).1, fun hV => by rw [← (show v46 = (h1 (pst t (Sum.inl p))).1 from (hv46 h).2 hV), u0, Bool.or_true]⟩))
                  | (have u0 : v46 = false := h48
                     exact ih (i + 1) (by omega) false _ _ he hF hf hX hR (hadv _ _ (ple_pst hle)) (fun h => ⟨(hv46 h).1, fun hV => by rw [← (show v46 = (h1 (pst t (Sum.inl p))).1 from (hv46 h).2 hV), ← hvv hV, u0, h43]; rfl⟩))
      · have := hD.psg; omega
    · exact EX _ i b b0 τ s' l1 he hF hf hX hR hval
end RD_
