/-! THE REFERENCE, 22: clauses, lights -/
theorem MC.up {X : am_X} {T nT B k d d2 y : Nat} {t : List Nat} {a : Nat → Int32} {V : Prop} {f : Ps → LV} (h : MC X T nT B t a V y k d f) (hd : d ≤ d2) : MC X T nT B t a V y k d2 f := fun s j Q h1 h2 h3 h4 h5 h6 => (h s j Q h1 h2 h3 h4 h5 h6).up hd
theorem MU.up {X : am_X} {T nT B k d d2 y : Nat} {t : List Nat} {a : Nat → Int32} {V : Prop} {args : List Value} {f : Ps → BV} (h : MU X T nT B t a V y k d args f) (hd : d ≤ d2) : MU X T nT B t a V y k d2 args f := fun s j Q h1 h2 h3 h4 h5 h6 => (h s j Q h1 h2 h3 h4 h5 h6).up hd
theorem ple_0 {σ : Ps} : ple 0 σ := by
  cases σ with
  | inl j => exact Nat.zero_le _
  | inr f => trivial
section RE_
variable {X : am_X} {d : Nat} {s : mM} {hp : am_H} {Q : Option Value → am_H → Prop} {T nT B k n w : Nat} {t : List Nat} {σ : Ps} {a : Nat → Int32} {V : Prop} {f g : Ps → LV} {u : Int64} {h1 h2 : Ps → BV} {v : Int32}
theorem c195f (hadv : adv h1) (m0 : MU X T nT B t a V 194 k (d + 4) [] h1)  : MU X T nT B t a V 195 k (d + 5) [.int (nI 0), .int (nI 0)] (fun σ => anl t h1 120 (h1 σ)) := by
  intro s j Q hF hX hS e12 hL hq
  have h120 := hX.2.2.2.2.2.2.2.2.1
  refine en195 rfl rfl rfl ?_
  refine g_p t195_0 rfl ?_
  refine n_eq t195_1 (by omega) (fun h1 => ?_) (fun h1 => ?_)
  · refine g_p t195_13 rfl ?_
    refine r_cv t195_14 (f80 hF) rfl ?_
    refine m0 _ j _ (by exact hF) (by exact hX) (by exact hS) (by exact e12) hL (fun s1 v1 f1 hR hv1 => ?_)
    have hX := hX.fm f1 (by decide) (by decide) (by decide) (by decide) (by decide)
    have hF := hF.fr f1.1
    refine k_v ?_ rfl
    refine g_isn t195_17 (Nat.le_of_ble_eq_true rfl) (am_s1_3 rfl) ?_
    exact c195L hadv m0 h120 hL hq 120 0 rfl v1 _ _ s1 rfl hF f1 hX hR ple_0 hv1
  · exact absurd rfl h1
theorem c195t (hadv : adv h1) (m0 : MU X T nT B t a V 194 k (d + 4) [] h1) (hz : MU X T nT B t a V 193 k (d + 4) [.int (nI 1), .int v] h2) (hadv2 : adv h2) : MU X T nT B t a V 195 k (d + 5) [.int (nI 1), .int v] (fun σ => anl t h1 120 (h2 σ)) := by
  intro s j Q hF hX hS e12 hL hq
  have h120 := hX.2.2.2.2.2.2.2.2.1
  refine en195 rfl rfl rfl ?_
  refine g_p t195_0 rfl ?_
  refine n_eq t195_1 (by omega) (fun h1 => ?_) (fun h1 => ?_)
  · exact absurd h1 (by decide)
  · refine g_p t195_4 rfl ?_
    refine g_k (n := 1) t195_5 rfl rfl ?_
    refine g_p t195_6 rfl ?_
    refine r_cv t195_7 (f80 hF) rfl ?_
    refine hz _ j _ (by exact hF) (by exact hX) (by exact hS) (by exact e12) hL (fun s1 v1 f1 hR hv1 => ?_)
    have hX := hX.fm f1 (by decide) (by decide) (by decide) (by decide) (by decide)
    have hF := hF.fr f1.1
    refine k_v ?_ rfl
    refine g_goto t195_10 ?_
    refine g_isn t195_17 (Nat.le_of_ble_eq_true rfl) (am_s1_3 rfl) ?_
    exact c195L hadv m0 h120 hL hq 120 0 rfl v1 _ _ s1 rfl hF f1 hX hR ple_0 hv1
theorem c196 {z1 z2 : Int32} (hadv : adv h1) (m0 : MU X T nT B t a V 195 k (d + 4) [.int (nI 0), .int (nI 0)] h1) (hz : MU X T nT B t a V 195 k (d + 4) [.int z1, .int z2] h2) : MU X T nT B t a V 196 k (d + 5) [.int z1, .int z2] (fun σ => orl t h1 120 (h2 σ)) := by
  intro s j Q hF hX hS e12 hL hq
  have h120 := hX.2.2.2.2.2.2.2.2.1
  refine en196 rfl rfl rfl ?_
  refine g_p t196_0 rfl ?_
  refine g_p t196_1 rfl ?_
  refine g_p t196_2 rfl ?_
  refine r_cv t196_3 (f80 hF) rfl ?_
  refine hz _ j _ (by exact hF) (by exact hX) (by exact hS) (by exact e12) hL (fun s1 v1 f1 hR hv1 => ?_)
  have hX := hX.fm f1 (by decide) (by decide) (by decide) (by decide) (by decide)
  have hF := hF.fr f1.1
  refine k_v ?_ rfl
  refine g_isn t196_6 (Nat.le_of_ble_eq_true rfl) (am_s1_3 rfl) ?_
  exact c196L hadv m0 h120 hL hq 120 0 rfl v1 _ _ s1 rfl hF f1 hX hR ple_0 hv1
theorem c194L : ∀ (e k : Nat), k + e = 6 → MU X T nT B t a V 194 k (d + 60 + 20 * e) [] (un1 t (fun e => lsm t (lat t a e)) e) := by
  intro e
  induction e with
  | zero =>
    intro k hk
    have : k = 6 := by omega
    subst this
    exact (c194z (d := d + 50) ((c193f (d := d + 7) (c191L (d := d) (e := 0) rfl)).up (by omega))).up (by omega)
  | succ e ih =>
    intro k hk
    have hadv : adv (un1 t (fun e => lsm t (lat t a e)) e) := adv_un1 (fun e => adv_lsm (adv_lat e)) e
    have h4 := ih (k + 1) (by omega)
    have hp : MU X T nT B t a V 195 (k + 1) (d + 60 + 20 * e + 5) [.int (nI 0), .int (nI 0)] (fun σ => anl t (un1 t (fun e => lsm t (lat t a e)) e) 120 (un1 t (fun e => lsm t (lat t a e)) e σ)) := c195f (d := d + 60 + 20 * e) hadv (h4.up (by omega))
    refine (c194s (d := d + 60 + 20 * e + 12) (by omega) ((c193f (c191L (d := d) (e := e + 1) hk)).up (by omega)) (h4.up (by omega)) ((c196 (d := d + 60 + 20 * e + 1) (adv_an hadv) hp hp).up (by omega))).up (by omega)
theorem c191_0 : MC X T nT B t a V 191 0 (d + 200) (lse t a) := (c191L (d := d) (e := 6) rfl).up (by omega)
theorem adv_lun : adv (lun t a) := adv_un1 (fun e => adv_lsm (adv_lat e)) 6
theorem adv_lse : adv (lse t a) := adv_lsm (adv_lat 6)
theorem c196_0 : MU X T nT B t a V 196 0 (d + 200) [.int (nI 0), .int (nI 0)] (fun σ => cnd t (lun t a) (lun t a σ)) := by
  have hp := c195f (d := d + 176) (X := X) (T := T) (nT := nT) (B := B) (t := t) (a := a) (V := V) (k := 0) (h1 := lun t a) adv_lun (c194L (d := d) 6 0 rfl)
  exact (c196 (d := d + 177) (adv_an adv_lun) hp hp).up (by omega)
theorem c196_1 (hv : V → v.toInt64 = u) : MU X T nT B t a V 196 0 (d + 200) [.int (nI 1), .int v] (fun σ => cnd t (lun t a) (lcp t (lse t a) (u, σ))) := by
  have h9 := c194L (X := X) (T := T) (nT := nT) (B := B) (t := t) (a := a) (V := V) (d := d) 6 0 rfl
  have hp := c195f (d := d + 176) (k := 0) (h1 := lun t a) adv_lun h9
  have hp1 := c195t (d := d + 176) (k := 0) (h1 := lun t a) adv_lun h9 ((c193t (v := v) (c191L (d := d) (e := 6) (k := 0) (X := X) (T := T) (nT := nT) (B := B) (t := t) (a := a) (V := V) rfl) hv).up (by omega)) (fun p σ h => adv_lcp adv_lse h)
  exact (c196 (d := d + 177) (adv_an adv_lun) hp hp1).up (by omega)
theorem lat_r {e q : Nat} : (lat t a e (.inr q)).2 = .inr q := by
  cases e with
  | zero => rfl
  | succ e => rfl
theorem lse_r {q : Nat} : (lse t a (.inr q)).2 = .inr q := by
  unfold lse lsm ltm
  obtain ⟨x, y⟩ : ∃ x, lat t a 6 (.inr q) = (x, .inr q) := ⟨_, Prod.ext rfl lat_r⟩
  rw [y, tml_d (by show ¬ (0 : Nat) = 42; decide) (by show ¬ (0 : Nat) = 47; decide), sml_d (by show ¬ (0 : Nat) = 43; decide) (by show ¬ (0 : Nat) = 45; decide)]
theorem lc1_r {q : Nat} : (lc1 t a (.inr q)).2 = .inr q := by
  unfold lc1
  rw [if_neg (show ¬ (psg t (Sum.inr q) = 33 ∨ psg t (Sum.inr q) = 40) from fun h => by
    have h : (0 : Nat) = 33 ∨ (0 : Nat) = 40 := h
    omega)]
  rw [if_neg (by rw [lse_r]; exact (by decide : ¬ isC 0 = true))]
  show (lse t a (.inr q)).2 = _
  exact lse_r
theorem adv_lc1 : adv (lc1 t a) := by
  intro p σ h
  unfold lc1
  split
  · exact adv_lse p _ (ple_pne (adv_cnd adv_lun (adv_lun p σ h)))
  · split
    · exact adv_lse p _ (ple_pne (adv_cnd adv_lun (adv_lcp adv_lse (adv_lse p σ h))))
    · exact adv_lse p σ h
theorem adv_lcl {p : Nat} {σ : Ps} (h : ple p σ) : ple (p + 1) (lcl t a σ).2 := by
  refine adv_lc1 (p + 1) _ (ple_pne ?_)
  unfold pne
  split
  · exact ple_pst h
  · exact ple_pre
abbrev cB : List Nat := [10, 11, 12, 14, 17]
theorem am2_e {x : Nat} (hx : x < 256) : am2 (lk x) = decide (x = 121) := decide_eq_decide.mpr (lk_e hx (by decide) (by decide))
theorem c197 {b0 : Bool} (hF : Fx s) (hX : MT T nT B t s) {j : Nat} (hS : MS t (.inl j) s) (e12 : ri s 80 12 = nI 0) (e13 : ri s 80 13 = nI 121) (e17 : ri s 80 17 = bI b0) (hw : V → (ri s 80 14).toInt64 = u) (hL : V → LTm a s) (hq : ∀ s', FM [] cB s s' → RM t (lcl t a (.inl j)).2 s' → (∃ b, ri s' 80 17 = bI b) → (ri s' 80 11 = -1 → ri s' 80 12 = nI 0 ∧ (V → ri s' 80 17 = bI (b0 || (lcl t a (.inl j)).1.1) ∧ (ri s' 80 14).toInt64 = (if ((lcl t a (.inl j)).1.1 && !b0) = true then (lcl t a (.inl j)).1.2 else u))) → Q none (mR s')) : gE X (d + 202) 197 [.ref 80] (mR s) Q := by
  have h120 := hX.2.2.2.2.2.2.2.2.1
  have h11 := hS.1
  have hsp := hS.sk
  have hsg := hX.sg j
  have hf : FM [] rB s s := FM.rf
  have END : ∀ (Z : LW) (s' : mM) (b : Bool) (v : Int32) (z4 : Int32), sgn t j = 121 → Z = lcl t a (.inl j) → Fx s' → MT T nT B t s' → FM [] rB s s' → RM t Z.2 s' → (ri s' 80 11 = -1 → ri s' 80 12 = nI 0 ∧ (V → b = Z.1.1 ∧ v.toInt64 = Z.1.2)) → gG X (d + 202) 197 134 [.ref 80, .int (lk (sgn t j)), .int (bI b), .int v, .int z4] [] (mR s') Q := by
    intro Z s' b v z4 l121 hZ hF hX hf hR hval
    rw [← hZ] at hq
    have e13 := (hf.f (i := 13) (by decide)).trans e13
    have e17 := (hf.f (i := 17) (by decide)).trans e17
    have e14 := hf.f (i := 14) (by decide)
    by_cases h11 : ri s' 80 11 = -1
    · obtain ⟨e12, hvv⟩ := hval h11
      refine g_p t197_134 rfl ?_
      refine r_gete t197_135 (f80 hF) rfl rfl h11 ?_
      refine g_p t197_138 rfl ?_
      refine g_cne t197_139 (fun h139 => ?_) (fun h139 => ?_)
      · first
          | (have u0 : ¬ (-1 : Int32) = -1 := h139
             exact absurd rfl u0)
          | (have u0 : b0 = true := h146
             refine v_ret t197_161 (hq s' (hf.mono (by decide) (by decide)) hR ⟨b0, e17⟩ (fun _ => ⟨e12, fun hV => ⟨?_, ?_⟩⟩))
             · rw [u0, Bool.true_or, ← u0]; exact e17
             · rw [u0, Bool.not_true, Bool.and_false, if_neg (by decide), e14]; exact hw hV)
          | (have u0 : b = false := h158
             refine v_ret t197_161 (hq s' (hf.mono (by decide) (by decide)) hR ⟨b0, e17⟩ (fun _ => ⟨e12, fun hV => ⟨?_, ?_⟩⟩))
             · rw [← (hvv hV).1, u0, Bool.or_false]; exact e17
             · rw [← (hvv hV).1, u0, Bool.false_and, if_neg (by decide), e14]; exact hw hV)
          | (have u0 : ¬ lk (sgn t j) = nI 121 := h154
             exact absurd ((lk_e hsg (by decide) (by decide)).mpr l121) u0)
      · refine g_p t197_142 rfl ?_
        refine r_gete t197_143 (f80 hF) rfl rfl e17 ?_
        refine b_ne t197_146 (fun h146 => ?_) (fun h146 => ?_)
        · first
            | (have u0 : ¬ (-1 : Int32) = -1 := h139
               exact absurd rfl u0)
            | (have u0 : b0 = true := h146
               refine v_ret t197_161 (hq s' (hf.mono (by decide) (by decide)) hR ⟨b0, e17⟩ (fun _ => ⟨e12, fun hV => ⟨?_, ?_⟩⟩))
               · rw [u0, Bool.true_or, ← u0]; exact e17
               · rw [u0, Bool.not_true, Bool.and_false, if_neg (by decide), e14]; exact hw hV)
            | (have u0 : b = false := h158
               refine v_ret t197_161 (hq s' (hf.mono (by decide) (by decide)) hR ⟨b0, e17⟩ (fun _ => ⟨e12, fun hV => ⟨?_, ?_⟩⟩))
               · rw [← (hvv hV).1, u0, Bool.or_false]; exact e17
               · rw [← (hvv hV).1, u0, Bool.false_and, if_neg (by decide), e14]; exact hw hV)
            | (have u0 : ¬ lk (sgn t j) = nI 121 := h154
               exact absurd ((lk_e hsg (by decide) (by decide)).mpr l121) u0)
        · refine g_p t197_149 rfl ?_
          refine g_p t197_150 rfl ?_
          refine r_gete t197_151 (f80 hF) rfl rfl e13 ?_
          refine g_cne t197_154 (fun h154 => ?_) (fun h154 => ?_)
          · first
              | (have u0 : ¬ (-1 : Int32) = -1 := h139
                 exact absurd rfl u0)
              | (have u0 : b0 = true := h146
                 refine v_ret t197_161 (hq s' (hf.mono (by decide) (by decide)) hR ⟨b0, e17⟩ (fun _ => ⟨e12, fun hV => ⟨?_, ?_⟩⟩))
                 · rw [u0, Bool.true_or, ← u0]; exact e17
                 · rw [u0, Bool.not_true, Bool.and_false, if_neg (by decide), e14]; exact hw hV)
              | (have u0 : b = false := h158
                 refine v_ret t197_161 (hq s' (hf.mono (by decide) (by decide)) hR ⟨b0, e17⟩ (fun _ => ⟨e12, fun hV => ⟨?_, ?_⟩⟩))
                 · rw [← (hvv hV).1, u0, Bool.or_false]; exact e17
                 · rw [← (hvv hV).1, u0, Bool.false_and, if_neg (by decide), e14]; exact hw hV)
              | (have u0 : ¬ lk (sgn t j) = nI 121 := h154
                 exact absurd ((lk_e hsg (by decide) (by decide)).mpr l121) u0)
          · refine g_p t197_157 rfl ?_
            refine b_ne t197_158 (fun h158 => ?_) (fun h158 => ?_)
            · refine g_p t197_162 rfl ?_
              refine g_k (n := 1) t197_163 rfl rfl ?_
              refine r_putz t197_164 (f80 hF) rfl rfl rfl ?_
              refine g_p t197_167 rfl ?_
              refine g_p t197_168 rfl ?_
              refine r_puti t197_169 (f80 hF) rfl rfl ?_
              refine v_ret t197_172 (hq _ ((((hf.mono (by decide) (by decide)).m (i := 17) (v := nI 1) (by decide)).m (i := 14) (v := v) (by decide))) (hR.fm (A := []) (B := [17, 14]) ((FM.rf.m (by decide)).m (by decide)) (by decide) (by decide)) ⟨true, rfl⟩ (fun _ => ⟨e12, fun hV => ⟨?_, ?_⟩⟩))
              · rw [← (hvv hV).1, h158, Bool.or_true]; rfl
              · rw [← (hvv hV).1, h158, h146, if_pos (by decide), ri_wi_eq]; exact (hvv hV).2
            · first
                | (have u0 : ¬ (-1 : Int32) = -1 := h139
                   exact absurd rfl u0)
                | (have u0 : b0 = true := h146
                   refine v_ret t197_161 (hq s' (hf.mono (by decide) (by decide)) hR ⟨b0, e17⟩ (fun _ => ⟨e12, fun hV => ⟨?_, ?_⟩⟩))
                   · rw [u0, Bool.true_or, ← u0]; exact e17
                   · rw [u0, Bool.not_true, Bool.and_false, if_neg (by decide), e14]; exact hw hV)
                | (have u0 : b = false := h158
                   refine v_ret t197_161 (hq s' (hf.mono (by decide) (by decide)) hR ⟨b0, e17⟩ (fun _ => ⟨e12, fun hV => ⟨?_, ?_⟩⟩))
                   · rw [← (hvv hV).1, u0, Bool.or_false]; exact e17
                   · rw [← (hvv hV).1, u0, Bool.false_and, if_neg (by decide), e14]; exact hw hV)
                | (have u0 : ¬ lk (sgn t j) = nI 121 := h154
                   exact absurd ((lk_e hsg (by decide) (by decide)).mpr l121) u0)
    · refine g_p t197_134 rfl ?_
      refine r_geti t197_135 (f80 hF) rfl rfl ?_
      refine g_p t197_138 rfl ?_
      refine g_cne t197_139 (fun h139 => ?_) (fun h139 => ?_)
      · exact v_ret t197_161 (hq s' (hf.mono (by decide) (by decide)) hR ⟨b0, e17⟩ (fun h => absurd h h11))
      · exact absurd h139 h11
  have C3 : sgn t j = 121 → ∀ (p : Nat) (s' : mM) (v : Int32) (z4 : Int32), lcl t a (.inl j) = lc1 t a (.inl p) → ¬ (sgn t p = 33 ∨ sgn t p = 40) → Fx s' → MT T nT B t s' → FM [] rB s s' → RM t (lse t a (.inl p)).2 s' → (ri s' 80 11 = -1 → ri s' 80 12 = nI 0 ∧ (V → v.toInt64 = (lse t a (.inl p)).1)) → gG X (d + 202) 197 94 [.ref 80, .int (lk (sgn t j)), .int (nI 1), .int v, .int z4] [] (mR s') Q := by
    intro l1 p0 s' v z4 eL n33 hF hX hf hR hval
    have hR0 := hR
    rcases hR with ⟨p, hp, hS⟩ | hD
    · have h11 := hS.1
      have e12 := (hval h11).1
      have hvv := (hval h11).2
      have hsp := hS.sk
      have hsg2 := hX.sg p
      cases l2 : isC (sgn t p) with
      | true =>
        have eZ : lcl t a (.inl j) = (((cnd t (lun t a) (lcp t (lse t a) ((lse t a (.inl p0)).1, .inl p))).1, (lse t a (pne t 63 (cnd t (lun t a) (lcp t (lse t a) ((lse t a (.inl p0)).1, .inl p))).2)).1), (lse t a (pne t 63 (cnd t (lun t a) (lcp t (lse t a) ((lse t a (.inl p0)).1, .inl p))).2)).2) := by
          rw [eL]
          unfold lc1
          rw [if_neg (show ¬ (psg t (Sum.inl p0) = 33 ∨ psg t (Sum.inl p0) = 40) from n33), hp, if_pos (show isC (psg t (Sum.inl p)) = true from l2), show lse t a (.inl p0) = ((lse t a (.inl p0)).1, .inl p) from Prod.ext rfl hp]
        refine g_p t197_94 rfl ?_
        refine r_gete t197_95 (f80 hF) rfl rfl h11 ?_
        refine g_p t197_98 rfl ?_
        refine g_cne t197_99 (fun h99 => ?_) (fun h99 => ?_)
        · first
            | (have u0 : ¬ (-1 : Int32) = -1 := h99
               exact absurd rfl u0)
            | (have u0 : true = false := h109
               exact absurd u0 (by decide))
            | (have e9 : pne t 63 (cnd t (lun t a) (lcp t (lse t a) ((lse t a (.inl p0)).1, .inl p))).2 = .inl (skp t (q122 + 1)) := by
                 rw [show (cnd t (lun t a) (lcp t (lse t a) ((lse t a (.inl p0)).1, .inl p))).2 = .inl q122 from he122]
                 exact if_pos hc122
               refine END _ _ v115 v130 _ l1 eZ.symm hF hX hf (by rw [e9]; exact hR) (fun h => ⟨(hv130 h).1, fun hV => ⟨(hv115 hu122).2 hV, ?_⟩⟩)
               rw [e9]
               exact ((hv130 h).2 hV).1)
        · refine g_p t197_102 rfl ?_
          refine r_cv t197_103 (f80 hF) rfl ?_
          refine c183 (by exact hF) (by exact hX) (by exact hS) (fun s103 f103 hJ => ?_)
          have hS := hJ.m2 hsp
          have e10 := hJ.2.2
          have h11 := hJ.1
          refine k_v ?_ rfl
          have hF := Fx.fr (by exact hF) f103.1
          have e12 := (f103.f (i := 12) (by decide)).trans e12
          have hX := MT.fm (by exact hX) f103 (by decide) (by decide) (by decide) (by decide) (by decide)
          have hf := hf.tr (f103.mono (by decide) (by decide))
          refine g_cs t197_106 rfl rfl rfl ?_
          refine c192 hsg2 ?_
          rw [l2]
          refine k_v ?_ rfl
          refine b_eq t197_109 (fun h109 => ?_) (fun h109 => ?_)
          · first
              | (have u0 : ¬ (-1 : Int32) = -1 := h99
                 exact absurd rfl u0)
              | (have u0 : true = false := h109
                 exact absurd u0 (by decide))
              | (have e9 : pne t 63 (cnd t (lun t a) (lcp t (lse t a) ((lse t a (.inl p0)).1, .inl p))).2 = .inl (skp t (q122 + 1)) := by
                   rw [show (cnd t (lun t a) (lcp t (lse t a) ((lse t a (.inl p0)).1, .inl p))).2 = .inl q122 from he122]
                   exact if_pos hc122
                 refine END _ _ v115 v130 _ l1 eZ.symm hF hX hf (by rw [e9]; exact hR) (fun h => ⟨(hv130 h).1, fun hV => ⟨(hv115 hu122).2 hV, ?_⟩⟩)
                 rw [e9]
                 exact ((hv130 h).2 hV).1)
          · refine g_p t197_112 rfl ?_
            refine g_k (n := 1) t197_113 rfl rfl ?_
            refine g_p t197_114 rfl ?_
            refine r_cv t197_115 (f80 hF) rfl ?_
            refine (c196_1 (fun hV => hvv hV)) _ p _ (by exact hF) (by exact hX) (by exact hS) (by exact e12) (fun hV => (hL hV).fm hf (by decide)) (fun s115 v115 f115 hR hv115 => ?_)
            have hX := MT.fm (by exact hX) f115 (by decide) (by decide) (by decide) (by decide) (by decide)
            have hF := Fx.fr (by exact hF) f115.1
            have hf := FM.tr (by exact hf) f115
            refine k_v ?_ rfl
            refine g_isn t197_118 (Nat.le_of_ble_eq_true rfl) (am_s1_2 rfl) ?_
            refine g_p t197_119 rfl ?_
            refine g_k (n := 63) t197_120 rfl rfl ?_
            refine r_cv t197_122 (f80 hF) rfl ?_
            refine c186 (by exact hF) (by exact hX) hR (w := 63) (by decide) (by decide) (by decide) (fun s122 q122 hu122 f122 he122 hc122 hl122 hJ => ?_) (fun s122 f122 hD hr122 => ?_)
            · have h11 := hJ.1
              have hF := Fx.fr (by exact hF) f122.1
              have hX := MT.fm (by exact hX) f122 (by decide) (by decide) (by decide) (by decide) (by decide)
              have hf := hf.tr (f122.mono (by decide) (by decide))
              have hS := hJ.ms
              have e12 := (f122.f (i := 12) (by decide)).trans (hv115 hu122).1
              refine k_v ?_ rfl
              refine b_ne t197_125 (fun h125 => ?_) (fun h125 => ?_)
              · refine g_p t197_129 rfl ?_
                refine r_cv t197_130 (f80 hF) rfl ?_
                refine c191_0 _ _ _ (by exact hF) (by exact hX) (by exact hS) (by exact e12) (fun hV => (hL hV).fm hf (by decide)) (fun s130 v130 f130 hR hv130 => ?_)
                have hX := MT.fm (by exact hX) f130 (by decide) (by decide) (by decide) (by decide) (by decide)
                have hF := Fx.fr (by exact hF) f130.1
                have hf := FM.tr (by exact hf) f130
                refine k_v ?_ rfl
                refine g_isn t197_133 (Nat.le_of_ble_eq_true rfl) (am_s1_3 rfl) ?_
                first
                  | (have u0 : ¬ (-1 : Int32) = -1 := h99
                     exact absurd rfl u0)
                  | (have u0 : true = false := h109
                     exact absurd u0 (by decide))
                  | (have e9 : pne t 63 (cnd t (lun t a) (lcp t (lse t a) ((lse t a (.inl p0)).1, .inl p))).2 = .inl (skp t (q122 + 1)) := by
                       rw [show (cnd t (lun t a) (lcp t (lse t a) ((lse t a (.inl p0)).1, .inl p))).2 = .inl q122 from he122]
                       exact if_pos hc122
                     refine END _ _ v115 v130 _ l1 eZ.symm hF hX hf (by rw [e9]; exact hR) (fun h => ⟨(hv130 h).1, fun hV => ⟨(hv115 hu122).2 hV, ?_⟩⟩)
                     rw [e9]
                     exact ((hv130 h).2 hV).1)
              · exact no_b rfl h125
            · have hF := Fx.fr (by exact hF) f122.1
              have hf := hf.tr (f122.mono (by decide) (by decide))
              refine k_v ?_ rfl
              refine b_ne t197_125 (fun h125 => ?_) (fun h125 => ?_)
              · exact no_b h125 rfl
              · refine v_ret t197_128 (hq _ (hf.mono (by decide) (by decide)) ?_ ⟨b0, (hf.f (i := 17) (by decide)).trans e17⟩ (fun h => absurd h (hD.fl h120)))
                obtain ⟨r, hr⟩ := hr122
                rw [eZ]
                show RM t (lse t a (pne t 63 _)).2 _
                rw [hr] at hD ⊢
                rw [lse_r]
                exact Or.inr hD
      | false =>
        have eZ : lcl t a (.inl j) = ((true, (lse t a (.inl p0)).1), (lse t a (.inl p0)).2) := by
          rw [eL]
          unfold lc1
          rw [if_neg (show ¬ (psg t (Sum.inl p0) = 33 ∨ psg t (Sum.inl p0) = 40) from n33), if_neg (by rw [hp]; show ¬ isC (sgn t p) = true; rw [l2]; decide)]
        refine g_p t197_94 rfl ?_
        refine r_gete t197_95 (f80 hF) rfl rfl h11 ?_
        refine g_p t197_98 rfl ?_
        refine g_cne t197_99 (fun h99 => ?_) (fun h99 => ?_)
        · first
            | (have u0 : ¬ (-1 : Int32) = -1 := h99
               exact absurd rfl u0)
            | exact END _ _ true v _ l1 eZ.symm hF hX hf (by rw [hp]; exact Or.inl ⟨p, rfl, hS⟩) (fun _ => ⟨e12, fun hV => ⟨rfl, hvv hV⟩⟩)
        · refine g_p t197_102 rfl ?_
          refine r_cv t197_103 (f80 hF) rfl ?_
          refine c183 (by exact hF) (by exact hX) (by exact hS) (fun s103 f103 hJ => ?_)
          have hS := hJ.m2 hsp
          have e10 := hJ.2.2
          have h11 := hJ.1
          refine k_v ?_ rfl
          have hF := Fx.fr (by exact hF) f103.1
          have e12 := (f103.f (i := 12) (by decide)).trans e12
          have hX := MT.fm (by exact hX) f103 (by decide) (by decide) (by decide) (by decide) (by decide)
          have hf := hf.tr (f103.mono (by decide) (by decide))
          refine g_cs t197_106 rfl rfl rfl ?_
          refine c192 hsg2 ?_
          rw [l2]
          refine k_v ?_ rfl
          refine b_eq t197_109 (fun h109 => ?_) (fun h109 => ?_)
          · first
              | (have u0 : ¬ (-1 : Int32) = -1 := h99
                 exact absurd rfl u0)
              | exact END _ _ true v _ l1 eZ.symm hF hX hf (by rw [hp]; exact Or.inl ⟨p, rfl, hS⟩) (fun _ => ⟨e12, fun hV => ⟨rfl, hvv hV⟩⟩)
          · exact no_b h109 rfl
    · have h11 := hD.fl h120
      have eZ : lcl t a (.inl j) = ((true, (lse t a (.inl p0)).1), (lse t a (.inl p0)).2) := by
        rw [eL]
        unfold lc1
        rw [if_neg (show ¬ (psg t (Sum.inl p0) = 33 ∨ psg t (Sum.inl p0) = 40) from n33), if_neg (fun h => by
          have h9 := hD.psg
          unfold isC at h
          simp only [Bool.or_eq_true, beq_iff_eq] at h
          have h : (psg t (lse t a (.inl p0)).2 = 61 ∨ psg t (lse t a (.inl p0)).2 = 60) ∨ psg t (lse t a (.inl p0)).2 = 62 := h
          omega)]
      refine g_p t197_94 rfl ?_
      refine r_geti t197_95 (f80 hF) rfl rfl ?_
      refine g_p t197_98 rfl ?_
      refine g_cne t197_99 (fun h99 => ?_) (fun h99 => ?_)
      · exact END _ _ true v _ l1 eZ.symm hF hX hf hR0 (fun h => absurd h h11)
      · exact absurd h99 h11
  have C2 : sgn t j = 121 → ∀ (p : Nat) (s' : mM) (z4 : Value), lcl t a (.inl j) = lc1 t a (.inl p) → Fx s' → MT T nT B t s' → FM [] rB s s' → MS t (.inl p) s' → ri s' 80 12 = nI 0 → gG X (d + 202) 197 44 [.ref 80, .int (lk (sgn t j)), .int (nI 1), .int (nI 0), z4] [] (mR s') Q := by
    intro l1 p s' z4 eL hF hX hf hS e12
    have h11 := hS.1
    have hsp := hS.sk
    have hsg2 := hX.sg p
    by_cases l2 : sgn t p = 33 ∨ sgn t p = 40
    · have eZ : lcl t a (.inl j) = (((cnd t (lun t a) (lun t a (.inl p))).1, (lse t a (pne t 63 (cnd t (lun t a) (lun t a (.inl p))).2)).1), (lse t a (pne t 63 (cnd t (lun t a) (lun t a (.inl p))).2)).2) := by
        rw [eL]; exact if_pos l2
      refine g_p t197_44 rfl ?_
      refine r_cv t197_45 (f80 hF) rfl ?_
      refine c183 (by exact hF) (by exact hX) (by exact hS) (fun s45 f45 hJ => ?_)
      have hS := hJ.m2 hsp
      have e10 := hJ.2.2
      have h11 := hJ.1
      refine k_v ?_ rfl
      have hF := Fx.fr (by exact hF) f45.1
      have e12 := (f45.f (i := 12) (by decide)).trans e12
      have hX := MT.fm (by exact hX) f45 (by decide) (by decide) (by decide) (by decide) (by decide)
      have hf := hf.tr (f45.mono (by decide) (by decide))
      refine g_is t197_48 (Nat.le_of_ble_eq_true rfl) (am_s1_4 rfl) ?_
      refine g_p t197_50 rfl ?_
      refine g_k (n := 33) t197_52 rfl rfl ?_
      refine g_ceq t197_54 (fun h54 => ?_) (fun h54 => ?_)
      · refine g_p t197_64 rfl ?_
        refine g_k (n := 0) t197_65 rfl rfl ?_
        refine g_k (n := 0) t197_66 rfl rfl ?_
        refine r_cv t197_67 (f80 hF) rfl ?_
        refine c196_0 _ p _ (by exact hF) (by exact hX) (by exact hS) (by exact e12) (fun hV => (hL hV).fm hf (by decide)) (fun s67 v67 f67 hR hv67 => ?_)
        have hX := MT.fm (by exact hX) f67 (by decide) (by decide) (by decide) (by decide) (by decide)
        have hF := Fx.fr (by exact hF) f67.1
        have hf := FM.tr (by exact hf) f67
        refine k_v ?_ rfl
        refine g_isn t197_70 (Nat.le_of_ble_eq_true rfl) (am_s1_2 rfl) ?_
        refine g_p t197_71 rfl ?_
        refine g_k (n := 63) t197_72 rfl rfl ?_
        refine r_cv t197_74 (f80 hF) rfl ?_
        refine c186 (by exact hF) (by exact hX) hR (w := 63) (by decide) (by decide) (by decide) (fun s74 q74 hu74 f74 he74 hc74 hl74 hJ => ?_) (fun s74 f74 hD hr74 => ?_)
        · have h11 := hJ.1
          have hF := Fx.fr (by exact hF) f74.1
          have hX := MT.fm (by exact hX) f74 (by decide) (by decide) (by decide) (by decide) (by decide)
          have hf := hf.tr (f74.mono (by decide) (by decide))
          have hS := hJ.ms
          have e12 := (f74.f (i := 12) (by decide)).trans (hv67 hu74).1
          refine k_v ?_ rfl
          refine b_ne t197_77 (fun h77 => ?_) (fun h77 => ?_)
          · refine g_p t197_81 rfl ?_
            refine r_cv t197_82 (f80 hF) rfl ?_
            refine c191_0 _ _ _ (by exact hF) (by exact hX) (by exact hS) (by exact e12) (fun hV => (hL hV).fm hf (by decide)) (fun s82 v82 f82 hR hv82 => ?_)
            have hX := MT.fm (by exact hX) f82 (by decide) (by decide) (by decide) (by decide) (by decide)
            have hF := Fx.fr (by exact hF) f82.1
            have hf := FM.tr (by exact hf) f82
            refine k_v ?_ rfl
            refine g_isn t197_85 (Nat.le_of_ble_eq_true rfl) (am_s1_3 rfl) ?_
            refine g_goto t197_86 ?_
            have e9 : pne t 63 (cnd t (lun t a) (lun t a (.inl p))).2 = .inl (skp t (q74 + 1)) := by
              rw [show (cnd t (lun t a) (lun t a (.inl p))).2 = .inl q74 from he74]
              exact if_pos hc74
            refine END _ _ v67 v82 _ l1 eZ.symm hF hX hf (by rw [e9]; exact hR) (fun h => ⟨(hv82 h).1, fun hV => ⟨(hv67 hu74).2 hV, ?_⟩⟩)
            rw [e9]
            exact ((hv82 h).2 hV).1
          · exact no_b rfl h77
        · have hF := Fx.fr (by exact hF) f74.1
          have hf := hf.tr (f74.mono (by decide) (by decide))
          refine k_v ?_ rfl
          refine b_ne t197_77 (fun h77 => ?_) (fun h77 => ?_)
          · exact no_b h77 rfl
          · refine v_ret t197_80 (hq _ (hf.mono (by decide) (by decide)) ?_ ⟨b0, (hf.f (i := 17) (by decide)).trans e17⟩ (fun h => absurd h (hD.fl h120)))
            obtain ⟨r, hr⟩ := hr74
            rw [eZ]
            show RM t (lse t a (pne t 63 _)).2 _
            rw [hr] at hD ⊢
            rw [lse_r]
            exact Or.inr hD
      · refine g_p t197_57 rfl ?_
        refine g_k (n := 40) t197_59 rfl rfl ?_
        refine g_cne t197_61 (fun h61 => ?_) (fun h61 => ?_)
        · exact l2.elim (fun e => absurd ((lk_e hsg2 (by decide) (by decide)).mpr e) h54) (fun e => absurd ((lk_e hsg2 (by decide) (by decide)).mpr e) h61)
        · refine g_p t197_64 rfl ?_
          refine g_k (n := 0) t197_65 rfl rfl ?_
          refine g_k (n := 0) t197_66 rfl rfl ?_
          refine r_cv t197_67 (f80 hF) rfl ?_
          refine c196_0 _ p _ (by exact hF) (by exact hX) (by exact hS) (by exact e12) (fun hV => (hL hV).fm hf (by decide)) (fun s67 v67 f67 hR hv67 => ?_)
          have hX := MT.fm (by exact hX) f67 (by decide) (by decide) (by decide) (by decide) (by decide)
          have hF := Fx.fr (by exact hF) f67.1
          have hf := FM.tr (by exact hf) f67
          refine k_v ?_ rfl
          refine g_isn t197_70 (Nat.le_of_ble_eq_true rfl) (am_s1_2 rfl) ?_
          refine g_p t197_71 rfl ?_
          refine g_k (n := 63) t197_72 rfl rfl ?_
          refine r_cv t197_74 (f80 hF) rfl ?_
          refine c186 (by exact hF) (by exact hX) hR (w := 63) (by decide) (by decide) (by decide) (fun s74 q74 hu74 f74 he74 hc74 hl74 hJ => ?_) (fun s74 f74 hD hr74 => ?_)
          · have h11 := hJ.1
            have hF := Fx.fr (by exact hF) f74.1
            have hX := MT.fm (by exact hX) f74 (by decide) (by decide) (by decide) (by decide) (by decide)
            have hf := hf.tr (f74.mono (by decide) (by decide))
            have hS := hJ.ms
            have e12 := (f74.f (i := 12) (by decide)).trans (hv67 hu74).1
            refine k_v ?_ rfl
            refine b_ne t197_77 (fun h77 => ?_) (fun h77 => ?_)
            · refine g_p t197_81 rfl ?_
              refine r_cv t197_82 (f80 hF) rfl ?_
              refine c191_0 _ _ _ (by exact hF) (by exact hX) (by exact hS) (by exact e12) (fun hV => (hL hV).fm hf (by decide)) (fun s82 v82 f82 hR hv82 => ?_)
              have hX := MT.fm (by exact hX) f82 (by decide) (by decide) (by decide) (by decide) (by decide)
              have hF := Fx.fr (by exact hF) f82.1
              have hf := FM.tr (by exact hf) f82
              refine k_v ?_ rfl
              refine g_isn t197_85 (Nat.le_of_ble_eq_true rfl) (am_s1_3 rfl) ?_
              refine g_goto t197_86 ?_
              have e9 : pne t 63 (cnd t (lun t a) (lun t a (.inl p))).2 = .inl (skp t (q74 + 1)) := by
                rw [show (cnd t (lun t a) (lun t a (.inl p))).2 = .inl q74 from he74]
                exact if_pos hc74
              refine END _ _ v67 v82 _ l1 eZ.symm hF hX hf (by rw [e9]; exact hR) (fun h => ⟨(hv82 h).1, fun hV => ⟨(hv67 hu74).2 hV, ?_⟩⟩)
              rw [e9]
              exact ((hv82 h).2 hV).1
            · exact no_b rfl h77
          · have hF := Fx.fr (by exact hF) f74.1
            have hf := hf.tr (f74.mono (by decide) (by decide))
            refine k_v ?_ rfl
            refine b_ne t197_77 (fun h77 => ?_) (fun h77 => ?_)
            · exact no_b h77 rfl
            · refine v_ret t197_80 (hq _ (hf.mono (by decide) (by decide)) ?_ ⟨b0, (hf.f (i := 17) (by decide)).trans e17⟩ (fun h => absurd h (hD.fl h120)))
              obtain ⟨r, hr⟩ := hr74
              rw [eZ]
              show RM t (lse t a (pne t 63 _)).2 _
              rw [hr] at hD ⊢
              rw [lse_r]
              exact Or.inr hD
    · refine g_p t197_44 rfl ?_
      refine r_cv t197_45 (f80 hF) rfl ?_
      refine c183 (by exact hF) (by exact hX) (by exact hS) (fun s45 f45 hJ => ?_)
      have hS := hJ.m2 hsp
      have e10 := hJ.2.2
      have h11 := hJ.1
      refine k_v ?_ rfl
      have hF := Fx.fr (by exact hF) f45.1
      have e12 := (f45.f (i := 12) (by decide)).trans e12
      have hX := MT.fm (by exact hX) f45 (by decide) (by decide) (by decide) (by decide) (by decide)
      have hf := hf.tr (f45.mono (by decide) (by decide))
      refine g_is t197_48 (Nat.le_of_ble_eq_true rfl) (am_s1_4 rfl) ?_
      refine g_p t197_50 rfl ?_
      refine g_k (n := 33) t197_52 rfl rfl ?_
      refine g_ceq t197_54 (fun h54 => ?_) (fun h54 => ?_)
      · first
          | (have u0 : lk (sgn t p) = nI 33 := h54
             exact absurd (Or.inl ((lk_e hsg2 (by decide) (by decide)).mp u0)) l2)
          | exact absurd (Or.inr ((lk_e hsg2 (by decide) (by decide)).mp h61)) l2
      · refine g_p t197_57 rfl ?_
        refine g_k (n := 40) t197_59 rfl rfl ?_
        refine g_cne t197_61 (fun h61 => ?_) (fun h61 => ?_)
        · refine g_p t197_89 rfl ?_
          refine r_cv t197_90 (f80 hF) rfl ?_
          refine c191_0 _ p _ (by exact hF) (by exact hX) (by exact hS) (by exact e12) (fun hV => (hL hV).fm hf (by decide)) (fun s90 v90 f90 hR hv90 => ?_)
          have hX := MT.fm (by exact hX) f90 (by decide) (by decide) (by decide) (by decide) (by decide)
          have hF := Fx.fr (by exact hF) f90.1
          have hf := FM.tr (by exact hf) f90
          refine k_v ?_ rfl
          refine g_isn t197_93 (Nat.le_of_ble_eq_true rfl) (am_s1_3 rfl) ?_
          exact C3 l1 p _ v90 _ eL l2 hF hX hf hR (fun h => ⟨(hv90 h).1, fun hV => ((hv90 h).2 hV).1⟩)
        · first
            | (have u0 : lk (sgn t p) = nI 33 := h54
               exact absurd (Or.inl ((lk_e hsg2 (by decide) (by decide)).mp u0)) l2)
            | exact absurd (Or.inr ((lk_e hsg2 (by decide) (by decide)).mp h61)) l2
  by_cases l1 : sgn t j = 121
  · have hjl : j < t.length := sgn_pos (by omega)
    refine en197 rfl ?_
    refine g_p t197_0 rfl ?_
    refine r_cv t197_1 (f80 hF) rfl ?_
    refine c183 (by exact hF) (by exact hX) (by exact hS) (fun s1 f1 hJ => ?_)
    have hS := hJ.m2 hsp
    have e10 := hJ.2.2
    have h11 := hJ.1
    refine k_v ?_ rfl
    have hF := Fx.fr (by exact hF) f1.1
    have e12 := (f1.f (i := 12) (by decide)).trans e12
    have hX := MT.fm (by exact hX) f1 (by decide) (by decide) (by decide) (by decide) (by decide)
    have hf := hf.tr (f1.mono (by decide) (by decide))
    refine g_isn t197_4 (Nat.le_of_ble_eq_true rfl) (am_s1_1 rfl) ?_
    refine g_h t197_5 rfl ?_
    refine g_p t197_7 rfl ?_
    refine g_cs t197_8 rfl rfl rfl ?_
    refine c178_2 ?_
    rw [am2_e hsg, decide_eq_true l1]
    refine k_v ?_ rfl
    refine b_ne t197_11 (fun h11 => ?_) (fun h11 => ?_)
    · refine g_p t197_20 rfl ?_
      refine g_p t197_21 rfl ?_
      refine r_gete t197_22 (f80 hF) rfl rfl e10 ?_
      refine g_k (n := 1) t197_25 rfl rfl ?_
      refine g_addn t197_26 ?_
      refine r_puti t197_27 (f80 hF) rfl rfl ?_
      refine g_p t197_30 rfl ?_
      refine g_k (n := 58) t197_31 rfl rfl ?_
      refine r_cv t197_33 (f80 hF) rfl ?_
      have hR := (hJ.up hjl).rm
      have hX := MT.w8 (i := 10) (v := nI (j + 1)) (by exact hX) (by decide) (by decide) (by decide)
      have hf := hf.m (i := 10) (v := nI (j + 1)) (by decide)
      refine c186 (by exact hF) (by exact hX) hR (w := 58) (by decide) (by decide) (by decide) (fun s33 q33 hu33 f33 he33 hc33 hl33 hJ => ?_) (fun s33 f33 hD hr33 => ?_)
      · have h11 := hJ.1
        have hF := Fx.fr (by exact hF) f33.1
        have hX := MT.fm (by exact hX) f33 (by decide) (by decide) (by decide) (by decide) (by decide)
        have hf := hf.tr (f33.mono (by decide) (by decide))
        have hS := hJ.ms
        have hsp := hS.sk
        obtain ⟨p, hp⟩ : ∃ p, p = skp t (q33 + 1) := ⟨_, rfl⟩
        rw [← hp] at hS hsp
        have hsg2 := hX.sg p
        have e12 := (f33.f (i := 12) (by decide)).trans e12
        have eL : lcl t a (.inl j) = lc1 t a (.inl p) := by
          have e1 : pne t 121 (.inl j) = pst t (.inl j) := if_pos l1
          have e2 : pne t 58 (pst t (.inl j)) = .inl p := by
            rw [he33, hp]; exact if_pos hc33
          unfold lcl
          rw [e1, e2]
        refine k_v ?_ rfl
        refine b_ne t197_36 (fun h36 => ?_) (fun h36 => ?_)
        · refine g_k (n := 1) t197_40 rfl rfl ?_
          refine g_isn t197_41 (Nat.le_of_ble_eq_true rfl) (am_s1_2 rfl) ?_
          refine g_k (n := 0) t197_42 rfl rfl ?_
          refine g_isn t197_43 (Nat.le_of_ble_eq_true rfl) (am_s1_3 rfl) ?_
          exact C2 l1 p _ _ eL hF hX hf hS e12
        · exact no_b rfl h36
      · have hF := Fx.fr (by exact hF) f33.1
        have hf := hf.tr (f33.mono (by decide) (by decide))
        refine k_v ?_ rfl
        refine b_ne t197_36 (fun h36 => ?_) (fun h36 => ?_)
        · exact no_b h36 rfl
        · refine v_ret t197_39 (hq _ (hf.mono (by decide) (by decide)) ?_ ⟨b0, (hf.f (i := 17) (by decide)).trans e17⟩ (fun h => absurd h (hD.fl h120)))
          obtain ⟨r, hr⟩ := hr33
          have e1 : pne t 121 (.inl j) = pst t (.inl j) := if_pos l1
          unfold lcl
          rw [e1]
          rw [hr] at hD ⊢
          rw [lc1_r]
          exact Or.inr hD
    · exact no_b rfl h11
  · refine en197 rfl ?_
    refine g_p t197_0 rfl ?_
    refine r_cv t197_1 (f80 hF) rfl ?_
    refine c183 (by exact hF) (by exact hX) (by exact hS) (fun s1 f1 hJ => ?_)
    have hS := hJ.m2 hsp
    have e10 := hJ.2.2
    have h11 := hJ.1
    refine k_v ?_ rfl
    have hF := Fx.fr (by exact hF) f1.1
    have e12 := (f1.f (i := 12) (by decide)).trans e12
    have hX := MT.fm (by exact hX) f1 (by decide) (by decide) (by decide) (by decide) (by decide)
    have hf := hf.tr (f1.mono (by decide) (by decide))
    refine g_isn t197_4 (Nat.le_of_ble_eq_true rfl) (am_s1_1 rfl) ?_
    refine g_h t197_5 rfl ?_
    refine g_p t197_7 rfl ?_
    refine g_cs t197_8 rfl rfl rfl ?_
    refine c178_2 ?_
    rw [am2_e hsg, decide_eq_false l1]
    refine k_v ?_ rfl
    refine b_ne t197_11 (fun h11 => ?_) (fun h11 => ?_)
    · exact no_b h11 rfl
    · refine g_p t197_14 rfl ?_
      refine r_cv t197_15 (f80 hF) rfl ?_
      refine c184 (by exact hF) hJ (fun s2 f2 hE => ?_)
      refine k_v ?_ rfl
      refine g_p t197_18 rfl ?_
      refine v_ret t197_19 (hq _ ((hf.tr (f2.mono (by decide) (by decide))).mono (by decide) (by decide)) ?_ ⟨b0, (f2.f (i := 17) (by decide)).trans ((f1.f (i := 17) (by decide)).trans e17)⟩ (fun h => absurd h (hE.ne h120)))
      have e1 : pne t 121 (.inl j) = .inr j := if_neg l1
      unfold lcl
      rw [e1]
      show RM t (lc1 t a (.inr j)).2 s2
      rw [lc1_r]
      exact hE.rr
end RE_
