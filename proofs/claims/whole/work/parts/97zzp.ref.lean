/-! THE REFERENCE, 7: the moves from a row -/
theorem rgm_all : ∀ P, P < 6 → ∀ c, c < mn P → ((List.range P).all fun p => (List.range P).all fun q => decide (pt P c p = 0) || decide (pt P c q ≠ 0) || (decide (rgh P c (wth P (wth P c p 0) q (pt P c p)) P = some (p, pt P c p)) && decide (rgt P c (wth P (wth P c p 0) q (pt P c p)) P = some q) && decide (cn P (wth P (wth P c p 0) q (pt P c p)) 1 = cn P c 1) && decide (cn P (wth P (wth P c p 0) q (pt P c p)) 2 = cn P c 2) && decide (wth P (wth P c p 0) q (pt P c p) < mn P))) = true := dec2 (by decide +kernel)
theorem rgm {P c p q : Nat} (hP : P ≤ 5) (hc : c < mn P) (hp : p < P) (hq : q < P) (h1 : ¬ pt P c p = 0) (h2 : pt P c q = 0) : rgh P c (wth P (wth P c p 0) q (pt P c p)) P = some (p, pt P c p) ∧ rgt P c (wth P (wth P c p 0) q (pt P c p)) P = some q ∧ cn P (wth P (wth P c p 0) q (pt P c p)) 1 = cn P c 1 ∧ cn P (wth P (wth P c p 0) q (pt P c p)) 2 = cn P c 2 ∧ wth P (wth P c p 0) q (pt P c p) < mn P := by
  have h := List.all_eq_true.mp (List.all_eq_true.mp (rgm_all P (by omega) c hc) p (List.mem_range.mpr hp)) q (List.mem_range.mpr hq)
  simp only [Bool.or_eq_true, Bool.and_eq_true, decide_eq_true_eq] at h
  rcases h with (h | h) | h
  · exact absurd h h1
  · exact absurd h2 h
  · exact ⟨h.1.1.1.1, h.1.1.1.2, h.1.1.2, h.1.2, h.2⟩
theorem rgp_all : ∀ P, P < 6 → ∀ c, c < mn P → ((List.range P).all fun p => (decide (pt P c p ≠ 0) || (decide (rgh P c (wth P c p 1) P = none) && decide (rgh P c (wth P c p 2) P = none))) && (decide (pt P c p = 0) || decide (rgt P c (wth P c p 0) P = none))) = true := dec2 (by decide +kernel)
theorem rgp {P c p : Nat} (hP : P ≤ 5) (hc : c < mn P) (hp : p < P) : (pt P c p = 0 → rgh P c (wth P c p 1) P = none ∧ rgh P c (wth P c p 2) P = none) ∧ (¬ pt P c p = 0 → rgt P c (wth P c p 0) P = none) := by
  have h := List.all_eq_true.mp (rgp_all P (by omega) c hc) p (List.mem_range.mpr hp)
  simp only [Bool.or_eq_true, Bool.and_eq_true, decide_eq_true_eq] at h
  refine ⟨fun h0 => ?_, fun h0 => ?_⟩
  · rcases h.1 with h1 | h1
    · exact absurd h0 h1
    · exact h1
  · rcases h.2 with h1 | h1
    · exact absurd h1 h0
    · exact h1
/-- whether a move is taken into account -/
def mk1 (P r w : Nat) (rt : Bool) (L : Nat → Nat → Int32) (c t : Nat) : Bool := std P r w t && (!rt || rg P L c t)
theorem rg_n1 {P c t : Nat} {L : Nat → Nat → Int32} (h : rgh P c t P = none) : rg P L c t = true := by unfold rg; rw [h]
theorem rg_n2 {P c t : Nat} {L : Nat → Nat → Int32} (h : rgt P c t P = none) : rg P L c t = true := by unfold rg; rw [h]; cases rgh P c t P <;> rfl
theorem mk_put {P r w c p k : Nat} {rt : Bool} {L : Nat → Nat → Int32} (hP : P ≤ 5) (hc : std P r w c = true) (hp : p < P) (h0 : pt P c p = 0) (hk : k = 1 ∨ k = 2) : mk1 P r w rt L c (wth P c p k) = decide (cn P c k < if k = 1 then r else w) := by
  obtain ⟨h1, h2, h3⟩ := std_t hc
  have hg := (rgp hP h1 hp).1 h0
  have hg : rg P L c (wth P c p k) = true := rg_n1 (by rcases hk with rfl | rfl; exact hg.1; exact hg.2)
  unfold mk1
  rw [hg, Bool.or_true, Bool.and_true]
  obtain ⟨w1, -, w3, w4⟩ := wth_1 (v := k) hP h1 hp (by rcases hk with rfl | rfl <;> decide)
  rw [h0] at w3 w4
  rcases hk with rfl | rfl
  · have w3 : cn P (wth P c p 1) 1 + 0 = cn P c 1 + 1 := w3
    have w4 : cn P (wth P c p 1) 2 + 0 = cn P c 2 + 0 := w4
    show _ = decide (cn P c 1 < r)
    by_cases h : cn P c 1 < r
    · rw [decide_eq_true h]; exact std_of w1 (by omega) (by omega)
    · rw [decide_eq_false h]; exact std_f2 (by omega)
  · have w3 : cn P (wth P c p 2) 1 + 0 = cn P c 1 + 0 := w3
    have w4 : cn P (wth P c p 2) 2 + 0 = cn P c 2 + 1 := w4
    show _ = decide (cn P c 2 < w)
    by_cases h : cn P c 2 < w
    · rw [decide_eq_true h]; exact std_of w1 (by omega) (by omega)
    · rw [decide_eq_false h]; exact std_f3 (by omega)
theorem mk_tak {P r w c p : Nat} {rt : Bool} {L : Nat → Nat → Int32} (hP : P ≤ 5) (hc : std P r w c = true) (hp : p < P) (h0 : ¬ pt P c p = 0) : mk1 P r w rt L c (wth P c p 0) = true := by
  obtain ⟨h1, h2, h3⟩ := std_t hc
  have hg : rg P L c (wth P c p 0) = true := rg_n2 ((rgp hP h1 hp).2 h0)
  obtain ⟨w1, -, w3, w4⟩ := wth_1 (v := 0) hP h1 hp (by decide)
  have w3 : cn P (wth P c p 0) 1 + one (pt P c p == 1) = cn P c 1 + 0 := w3
  have w4 : cn P (wth P c p 0) 2 + one (pt P c p == 2) = cn P c 2 + 0 := w4
  unfold mk1
  rw [hg, Bool.or_true, Bool.and_true]
  exact std_of w1 (by omega) (by omega)
theorem mk_mov {P r w c p q : Nat} {rt : Bool} {L : Nat → Nat → Int32} (hP : P ≤ 5) (hc : std P r w c = true) (hp : p < P) (hq : q < P) (h0 : ¬ pt P c p = 0) (h2 : pt P c q = 0) : mk1 P r w rt L c (wth P (wth P c p 0) q (pt P c p)) = (!rt || decide (L p (pt P c p) ≤ L q (pt P c p))) := by
  obtain ⟨h1, h3, h4⟩ := std_t hc
  obtain ⟨g1, g2, g3, g4, g5⟩ := rgm hP h1 hp hq h0 h2
  unfold mk1
  rw [std_of g5 (by omega) (by omega), Bool.true_and]
  unfold rg
  rw [g1, g2]
theorem enm_l {P c p : Nat} (m : Nat) : (enm P c p m).length ≤ m := by
  induction m with
  | zero => exact Nat.le_refl _
  | succ m ih =>
    unfold enm
    rw [List.length_append]
    split
    · exact Nat.succ_le_succ ih
    · exact Nat.le_succ_of_le ih
theorem enp_l {P c p : Nat} (h : P ≤ 5) : (enp P c p).length ≤ 6 := by
  unfold enp
  split
  · show 2 ≤ 6
    decide
  · have := enm_l (P := P) (c := c) (p := p) P
    rw [List.length_cons]; omega
theorem ena_l {P c : Nat} (h : P ≤ 5) (p : Nat) : (ena P c p).length ≤ 6 * p := by
  induction p with
  | zero => exact Nat.le_refl _
  | succ p ih =>
    unfold ena
    rw [List.length_append]
    have := enp_l (c := c) (p := p) h
    omega
abbrev lB : List Nat := [5, 8, 9, 10, 11, 12, 13, 14, 17]
abbrev nA : List Nat := [84, 97]
abbrev nB : List Nat := [5, 8, 9, 10, 11, 12, 13, 14, 17, 42]
/-- the moves laid -/
def ML (l : List Nat) (s : mM) : Prop := ri s 80 42 = nI l.length ∧ ∀ k, k < l.length → ri s 97 k = nI (l.getD k 0)
theorem ML.fm {A B : List Nat} {l : List Nat} {s s' : mM} (h : ML l s) (f : FM A B s s') (h1 : 42 ∉ B) (h2 : 97 ∉ 80 :: A) : ML l s' := ⟨(f.f h1).trans h.1, fun k hk => (f.g h2).trans (h.2 k hk)⟩
theorem ML.app {l : List Nat} {s : mM} {v : Nat} (h : ML l s) : ML (l ++ [v]) (wi (wi s 97 l.length (nI v)) 80 42 (nI (l.length + 1))) := by
  refine ⟨?_, fun k hk => ?_⟩
  · rw [ri_wi_eq, List.length_append]; rfl
  · rw [List.length_append] at hk
    rw [ri_wi_ne (by decide)]
    by_cases h9 : k < l.length
    · rw [gDa1 h9, ri_wi_j (Nat.ne_of_lt h9)]; exact h.2 k h9
    · have h9 : k = l.length := by simp at hk; omega
      subst h9
      rw [gDa2, ri_wi_eq]
/-- what the light says, while J lasts -/
def LO (X : am_X) (d P : Nat) (rt : Bool) (L : Nat → Nat → Int32) (J : mM → Prop) : Prop := (∀ s s', J s → FM [97, 98, 99] [42] s s' → J s') ∧ (rt = true → ∀ s, Fx s → J s → ∀ q k, q < P → k = 1 ∨ k = 2 → ∀ Q, (∀ s', FM [84] lB s s' → J s' → Q (some (.int (L q k))) (mR s')) → gE X d 220 [.ref 80, .int (nI q), .int (nI k)] (mR s) Q)
theorem fil_app {α : Type} (K : α → Bool) (l : List α) (t : α) : (l ++ [t]).filter K = l.filter K ++ (if K t = true then [t] else []) := by
  rw [List.filter_append]
  congr 1
  cases h : K t <;> simp [h]
section RP
variable {X : am_X} {d : Nat} {s : mM} {Q : Option Value → am_H → Prop} {P c q k v r w : Nat} {rt : Bool} {L : Nat → Nat → Int32} {J : mM → Prop}
theorem c233 (hF : Fx s) (hP5 : P ≤ 5) (m0 : ri s 80 20 = nI P) (p1 : ri s 85 1 = nI r) (p2 : ri s 85 2 = nI w) (hr5 : r ≤ 5) (hw5 : w ≤ 5) (hc : std P r w c = true) (e43 : ri s 80 43 = bI rt) (hLO : LO X (d + 3) P rt L J) (hJ : J s) (hq : ∀ s', FM nA nB s s' → J s' → ML ((en P c).filter (mk1 P r w rt L c)) s' → Q none (mR s')) : gE X (d + 4) 233 [.ref 80, .int (nI c)] (mR s) Q := by
  have hcm := (std_t hc).1
  have hm := mn_le hP5
  have hc3 : c < 243 := by omega
  have O : ∀ j p : Nat, p + j = P → ∀ s' z3 z4, am_nl z3 = true → FM nA nB s s' → J s' → ML ((ena P c p).filter (mk1 P r w rt L c)) s' → gG X (d + 4) 233 7 [.ref 80, .int (nI c), .int (nI p), z3, z4] [] (mR s') Q := by
    intro j
    induction j with
    | zero =>
      intro p hj s' z3 z4 n3 hf hJ hl
      have hj : p = P := by omega
      subst hj
      have hF := hF.fr hf.1
      have m0 := (hf.f (i := 20) (by decide)).trans m0
      have p1 := (hf.g (p := 85) (i := 1) (by decide)).trans p1
      have p2 := (hf.g (p := 85) (i := 2) (by decide)).trans p2
      have e43 := (hf.f (i := 43) (by decide)).trans e43
      have e42 := hl.1
      refine g_p t233_7 rfl ?_
      refine g_p t233_8 rfl ?_
      refine r_gete t233_9 (f80 hF) rfl rfl m0 ?_
      refine n_cge t233_12 (by omega) (by omega) (fun h12 => ?_) (fun h12 => ?_)
      · exact v_ret t233_210 (hq _ hf hJ hl)
      · exfalso; omega
    | succ j ih =>
      intro p hj s' z3 z4 n3 hf hJ hl
      have hpP : p < P := by omega
      have hpt := pt_lt P c p
      have hln := ena_l (c := c) hP5 p
      have ih := ih (p + 1) (by omega)
      have S0 : pt P c p = 0 → ∀ i k, k + i = 3 → 1 ≤ k → ∀ s', FM nA nB s s' → J s' → ML ((ena P c p ++ [wth P c p 1, wth P c p 2].take (k - 1)).filter (mk1 P r w rt L c)) s' → gG X (d + 4) 233 29 [.ref 80, .int (nI c), .int (nI p), .int (nI (pt P c p)), .int (nI k)] [] (mR s') Q := by
        intro hp0 i
        induction i with
        | zero =>
          intro k hk hk1 s' hf hJ hl
          have hk : k = 3 := by omega
          subst hk
          refine g_p t233_29 rfl ?_
          refine g_k (n := 3) t233_31 rfl rfl ?_
          refine n_cge t233_32 (by omega) (by omega) (fun h32 => ?_) (fun h32 => ?_)
          · refine g_goto t233_88 ?_
            refine g_incn (n := 1) t233_204 rfl rfl (Nat.le_of_ble_eq_true rfl) (am_s1_2 rfl) ?_
            refine g_goto t233_207 ?_
            refine ih _ _ _ rfl hf hJ ?_
            unfold ena enp
            rw [if_pos hp0]
            exact hl
          · exfalso; omega
        | succ i ih2 =>
          intro k hk hk1 s' hf hJ hl
          have ih2 := ih2 (k + 1) (by omega) (by omega)
          obtain ⟨l, hle⟩ : ∃ l, l = (ena P c p ++ [wth P c p 1, wth P c p 2].take (k - 1)).filter (mk1 P r w rt L c) := ⟨_, rfl⟩
          have hl6 : l.length < 64 := by
            rw [hle]
            refine Nat.lt_of_le_of_lt (List.length_filter_le _ _) ?_
            rw [List.length_append, List.length_take]
            simp only [List.length_cons, List.length_nil]
            omega
          have hk2 : k = 1 ∨ k = 2 := by omega
          have hmk := mk_put (rt := rt) (L := L) hP5 hc hpP hp0 hk2
          have etk : (ena P c p ++ [wth P c p 1, wth P c p 2].take (k + 1 - 1)).filter (mk1 P r w rt L c) = l ++ (if mk1 P r w rt L c (wth P c p k) = true then [wth P c p k] else []) := by
            rw [hle, ← fil_app, List.append_assoc]
            congr 2
            rcases hk2 with rfl | rfl <;> rfl
          rw [etk] at ih2
          rw [← hle] at hl
          have hF := hF.fr hf.1
          have m0 := (hf.f (i := 20) (by decide)).trans m0
          have p1 := (hf.g (p := 85) (i := 1) (by decide)).trans p1
          have p2 := (hf.g (p := 85) (i := 2) (by decide)).trans p2
          have e43 := (hf.f (i := 43) (by decide)).trans e43
          have e42 := hl.1
          have hn := cn_le P c k
          have hcb : (if k = 1 then r else w) ≤ 5 := by split <;> assumption
          have hck := cn_k hc hk2
          have hpo : ri s' 85 k = nI (if k = 1 then r else w) := by
            rcases hk2 with rfl | rfl
            · exact p1
            · exact p2
          refine g_p t233_29 rfl ?_
          refine g_k (n := 3) t233_31 rfl rfl ?_
          refine n_cge t233_32 (by omega) (by omega) (fun h32 => ?_) (fun h32 => ?_)
          · exfalso; omega
          · refine g_p t233_35 rfl ?_
            refine g_p t233_36 rfl ?_
            refine g_p t233_37 rfl ?_
            refine r_cv t233_39 (f80 hF) rfl ?_
            refine c213 (by exact hF) (by exact m0) hP5 hc3 (by omega) ?_
            refine k_v ?_ rfl
            refine g_p t233_42 rfl ?_
            refine r_getr t233_43 (f80 hF) rfl rfl ?_
            refine g_p t233_46 rfl ?_
            refine r_iale t233_48 (f85 hF) (by decide) (by omega) hpo ?_
            refine n_cne t233_49 (by omega) (by omega) (fun h49 => ?_) (fun h49 => ?_)
            · refine g_p t233_55 rfl ?_
              refine r_getr t233_56 (f80 hF) rfl rfl ?_
              refine g_p t233_59 rfl ?_
              refine r_gete t233_60 (f80 hF) rfl rfl e42 ?_
              refine g_p t233_63 rfl ?_
              refine g_p t233_64 rfl ?_
              refine g_p t233_65 rfl ?_
              refine g_p t233_66 rfl ?_
              refine r_cv t233_68 (f80 hF) rfl ?_
              refine c212 (by exact hF) (by exact m0) hP5 hc3 hpP ?_
              refine k_v ?_ rfl
              refine r_iast t233_71 (f97 hF) (by decide) hl6 ?_
              refine g_p t233_72 rfl ?_
              refine g_p t233_73 rfl ?_
              refine r_gete t233_74 (f80 hF) rfl rfl e42 ?_
              refine g_k (n := 1) t233_77 rfl rfl ?_
              refine g_addn t233_78 ?_
              refine r_puti t233_79 (f80 hF) rfl rfl ?_
              refine g_incn (n := 1) t233_82 rfl rfl (Nat.le_of_ble_eq_true rfl) (am_s1_4 rfl) ?_
              refine g_goto t233_85 ?_
              first
                | (have u0 : ¬ cn P c k = (if k = 1 then r else w) := h49
                   rw [if_pos (by rw [hmk, decide_eq_true_eq]; omega)] at ih2
                   exact ih2 _ ((hf.w (by decide) (by decide)).m (by decide)) (hLO.1 _ _ hJ ((FM.rf.w (by decide) (by decide)).m (by decide))) hl.app)
                | (have u0 : cn P c k = (if k = 1 then r else w) := h49
                   rw [if_neg (by rw [hmk, decide_eq_true_eq]; omega), List.append_nil] at ih2
                   exact ih2 _ hf hJ hl)
            · refine g_goto t233_52 ?_
              refine g_incn (n := 1) t233_82 rfl rfl (Nat.le_of_ble_eq_true rfl) (am_s1_4 rfl) ?_
              refine g_goto t233_85 ?_
              first
                | (have u0 : ¬ cn P c k = (if k = 1 then r else w) := h49
                   rw [if_pos (by rw [hmk, decide_eq_true_eq]; omega)] at ih2
                   exact ih2 _ ((hf.w (by decide) (by decide)).m (by decide)) (hLO.1 _ _ hJ ((FM.rf.w (by decide) (by decide)).m (by decide))) hl.app)
                | (have u0 : cn P c k = (if k = 1 then r else w) := h49
                   rw [if_neg (by rw [hmk, decide_eq_true_eq]; omega), List.append_nil] at ih2
                   exact ih2 _ hf hJ hl)
      have S1 : ¬ pt P c p = 0 → ∀ i q, q + i = P → ∀ s', FM nA nB s s' → J s' → ML ((ena P c p ++ wth P c p 0 :: enm P c p q).filter (mk1 P r w rt L c)) s' → gG X (d + 4) 233 120 [.ref 80, .int (nI c), .int (nI p), .int (nI (pt P c p)), .int (nI q)] [] (mR s') Q := by
        intro hp0 i
        induction i with
        | zero =>
          intro q hi s' hf hJ hl
          have hi : q = P := by omega
          subst hi
          have hF := hF.fr hf.1
          have m0 := (hf.f (i := 20) (by decide)).trans m0
          have p1 := (hf.g (p := 85) (i := 1) (by decide)).trans p1
          have p2 := (hf.g (p := 85) (i := 2) (by decide)).trans p2
          have e43 := (hf.f (i := 43) (by decide)).trans e43
          have e42 := hl.1
          refine g_p t233_120 rfl ?_
          refine g_p t233_122 rfl ?_
          refine r_gete t233_123 (f80 hF) rfl rfl m0 ?_
          refine n_cge t233_126 (by omega) (by omega) (fun h126 => ?_) (fun h126 => ?_)
          · refine g_incn (n := 1) t233_204 rfl rfl (Nat.le_of_ble_eq_true rfl) (am_s1_2 rfl) ?_
            refine g_goto t233_207 ?_
            refine ih _ _ _ rfl hf hJ ?_
            unfold ena enp
            rw [if_neg hp0]
            exact hl
          · exfalso; omega
        | succ i ih2 =>
          intro q hi s' hf hJ hl
          have hqP : q < P := by omega
          have ih2 := ih2 (q + 1) (by omega)
          have hptq := pt_lt P c q
          obtain ⟨l, hle⟩ : ∃ l, l = (ena P c p ++ wth P c p 0 :: enm P c p q).filter (mk1 P r w rt L c) := ⟨_, rfl⟩
          have hl6 : l.length < 64 := by
            rw [hle]
            refine Nat.lt_of_le_of_lt (List.length_filter_le _ _) ?_
            have := enm_l (P := P) (c := c) (p := p) q
            rw [List.length_append, List.length_cons]
            omega
          unfold enm at ih2
          rw [← hle] at hl
          have hF := hF.fr hf.1
          have m0 := (hf.f (i := 20) (by decide)).trans m0
          have p1 := (hf.g (p := 85) (i := 1) (by decide)).trans p1
          have p2 := (hf.g (p := 85) (i := 2) (by decide)).trans p2
          have e43 := (hf.f (i := 43) (by decide)).trans e43
          have e42 := hl.1
          have hk2 : pt P c p = 1 ∨ pt P c p = 2 := by omega
          by_cases hq0 : pt P c q = 0
          · have hmk := mk_mov (rt := rt) (L := L) hP5 hc hpP hqP hp0 hq0
            rw [if_pos hq0, ← List.cons_append, ← List.append_assoc, fil_app, ← hle, hmk] at ih2
            have hqp : p ≠ q := fun e => hp0 (by rw [e]; exact hq0)
            have hw2 : wth P c q (pt P c p) < 243 := Nat.lt_of_lt_of_le (wth_1 hP5 hcm hqP hpt).1 hm
            have hwc := wcm hP5 hcm hpP hqP hqp
            refine g_p t233_120 rfl ?_
            refine g_p t233_122 rfl ?_
            refine r_gete t233_123 (f80 hF) rfl rfl m0 ?_
            refine n_cge t233_126 (by omega) (by omega) (fun h126 => ?_) (fun h126 => ?_)
            · exfalso; omega
            · refine g_p t233_129 rfl ?_
              refine g_p t233_130 rfl ?_
              refine g_p t233_131 rfl ?_
              refine r_cv t233_133 (f80 hF) rfl ?_
              refine c211 (by exact hF) (by exact m0) hP5 hc3 hqP ?_
              refine k_v ?_ rfl
              refine n_ne t233_136 (by omega) (fun h136 => ?_) (fun h136 => ?_)
              · refine g_incn (n := 1) t233_198 rfl rfl (Nat.le_of_ble_eq_true rfl) (am_s1_4 rfl) ?_
                refine g_goto t233_201 ?_
                first
                  | (have u0 : rt = false := h143
                     rw [u0, if_pos (show (!false || _) = true from rfl)] at ih2
                     exact ih2 _ ((hf.w (by decide) (by decide)).m (by decide)) (hLO.1 _ _ hJ ((FM.rf.w (by decide) (by decide)).m (by decide))) hl.app)
                  | (have u0 : L p (pt P c p) ≤ L q (pt P c p) := h159
                     rw [decide_eq_true u0, Bool.or_true, if_pos rfl] at ih2
                     exact ih2 _ ((hf.w (by decide) (by decide)).m (by decide)) (hLO.1 _ _ hJ ((FM.rf.w (by decide) (by decide)).m (by decide))) hl.app)
                  | (have u0 : ¬ L p (pt P c p) ≤ L q (pt P c p) := h159
                     rw [h143, decide_eq_false u0, if_neg (by decide), List.append_nil] at ih2
                     exact ih2 _ hf hJ hl)
                  | (have u0 : ¬ pt P c q = 0 := h136
                     exact absurd hq0 u0)
              · refine g_p t233_139 rfl ?_
                refine r_gete t233_140 (f80 hF) rfl rfl e43 ?_
                refine b_eq t233_143 (fun h143 => ?_) (fun h143 => ?_)
                · refine g_p t233_165 rfl ?_
                  refine r_getr t233_166 (f80 hF) rfl rfl ?_
                  refine g_p t233_169 rfl ?_
                  refine r_gete t233_170 (f80 hF) rfl rfl e42 ?_
                  refine g_p t233_173 rfl ?_
                  refine g_p t233_174 rfl ?_
                  refine g_p t233_175 rfl ?_
                  refine g_p t233_176 rfl ?_
                  refine g_p t233_178 rfl ?_
                  refine r_cv t233_179 (f80 hF) rfl ?_
                  refine c212 (by exact hF) (by exact m0) hP5 hc3 hqP ?_
                  refine k_v ?_ rfl
                  refine g_p t233_182 rfl ?_
                  refine g_k (n := 0) t233_183 rfl rfl ?_
                  refine r_cv t233_184 (f80 hF) rfl ?_
                  refine c212 (by exact hF) (by exact m0) hP5 hw2 hpP ?_
                  refine k_v ?_ rfl
                  rw [hwc]
                  refine r_iast t233_187 (f97 hF) (by decide) hl6 ?_
                  refine g_p t233_188 rfl ?_
                  refine g_p t233_189 rfl ?_
                  refine r_gete t233_190 (f80 hF) rfl rfl e42 ?_
                  refine g_k (n := 1) t233_193 rfl rfl ?_
                  refine g_addn t233_194 ?_
                  refine r_puti t233_195 (f80 hF) rfl rfl ?_
                  refine g_incn (n := 1) t233_198 rfl rfl (Nat.le_of_ble_eq_true rfl) (am_s1_4 rfl) ?_
                  refine g_goto t233_201 ?_
                  first
                    | (have u0 : rt = false := h143
                       rw [u0, if_pos (show (!false || _) = true from rfl)] at ih2
                       exact ih2 _ ((hf.w (by decide) (by decide)).m (by decide)) (hLO.1 _ _ hJ ((FM.rf.w (by decide) (by decide)).m (by decide))) hl.app)
                    | (have u0 : L p (pt P c p) ≤ L q (pt P c p) := h159
                       rw [decide_eq_true u0, Bool.or_true, if_pos rfl] at ih2
                       exact ih2 _ ((hf.w (by decide) (by decide)).m (by decide)) (hLO.1 _ _ hJ ((FM.rf.w (by decide) (by decide)).m (by decide))) hl.app)
                    | (have u0 : ¬ L p (pt P c p) ≤ L q (pt P c p) := h159
                       rw [h143, decide_eq_false u0, if_neg (by decide), List.append_nil] at ih2
                       exact ih2 _ hf hJ hl)
                    | (have u0 : ¬ pt P c q = 0 := h136
                       exact absurd hq0 u0)
                · refine g_p t233_146 rfl ?_
                  refine g_p t233_147 rfl ?_
                  refine g_p t233_149 rfl ?_
                  refine r_cv t233_150 (f80 hF) rfl ?_
                  refine hLO.2 h143 _ (by exact hF) (by exact hJ) _ _ hqP hk2 _ (fun s150 f150 hJ => ?_)
                  refine k_v ?_ rfl
                  have hF := Fx.fr (by exact hF) f150.1
                  have m0 := (f150.f (i := 20) (by decide)).trans m0
                  have e42 := (f150.f (i := 42) (by decide)).trans e42
                  have e43 := (f150.f (i := 43) (by decide)).trans e43
                  have hl := hl.fm f150 (by decide) (by decide)
                  have hf := hf.tr (f150.mono (by decide) (by decide))
                  refine g_p t233_153 rfl ?_
                  refine g_p t233_154 rfl ?_
                  refine g_p t233_155 rfl ?_
                  refine r_cv t233_156 (f80 hF) rfl ?_
                  refine hLO.2 h143 _ (by exact hF) (by exact hJ) _ _ hpP hk2 _ (fun s156 f156 hJ => ?_)
                  refine k_v ?_ rfl
                  have hF := Fx.fr (by exact hF) f156.1
                  have m0 := (f156.f (i := 20) (by decide)).trans m0
                  have e42 := (f156.f (i := 42) (by decide)).trans e42
                  have e43 := (f156.f (i := 43) (by decide)).trans e43
                  have hl := hl.fm f156 (by decide) (by decide)
                  have hf := hf.tr (f156.mono (by decide) (by decide))
                  refine g_cge t233_159 (fun h159 => ?_) (fun h159 => ?_)
                  · refine g_p t233_165 rfl ?_
                    refine r_getr t233_166 (f80 hF) rfl rfl ?_
                    refine g_p t233_169 rfl ?_
                    refine r_gete t233_170 (f80 hF) rfl rfl e42 ?_
                    refine g_p t233_173 rfl ?_
                    refine g_p t233_174 rfl ?_
                    refine g_p t233_175 rfl ?_
                    refine g_p t233_176 rfl ?_
                    refine g_p t233_178 rfl ?_
                    refine r_cv t233_179 (f80 hF) rfl ?_
                    refine c212 (by exact hF) (by exact m0) hP5 hc3 hqP ?_
                    refine k_v ?_ rfl
                    refine g_p t233_182 rfl ?_
                    refine g_k (n := 0) t233_183 rfl rfl ?_
                    refine r_cv t233_184 (f80 hF) rfl ?_
                    refine c212 (by exact hF) (by exact m0) hP5 hw2 hpP ?_
                    refine k_v ?_ rfl
                    rw [hwc]
                    refine r_iast t233_187 (f97 hF) (by decide) hl6 ?_
                    refine g_p t233_188 rfl ?_
                    refine g_p t233_189 rfl ?_
                    refine r_gete t233_190 (f80 hF) rfl rfl e42 ?_
                    refine g_k (n := 1) t233_193 rfl rfl ?_
                    refine g_addn t233_194 ?_
                    refine r_puti t233_195 (f80 hF) rfl rfl ?_
                    refine g_incn (n := 1) t233_198 rfl rfl (Nat.le_of_ble_eq_true rfl) (am_s1_4 rfl) ?_
                    refine g_goto t233_201 ?_
                    first
                      | (have u0 : rt = false := h143
                         rw [u0, if_pos (show (!false || _) = true from rfl)] at ih2
                         exact ih2 _ ((hf.w (by decide) (by decide)).m (by decide)) (hLO.1 _ _ hJ ((FM.rf.w (by decide) (by decide)).m (by decide))) hl.app)
                      | (have u0 : L p (pt P c p) ≤ L q (pt P c p) := h159
                         rw [decide_eq_true u0, Bool.or_true, if_pos rfl] at ih2
                         exact ih2 _ ((hf.w (by decide) (by decide)).m (by decide)) (hLO.1 _ _ hJ ((FM.rf.w (by decide) (by decide)).m (by decide))) hl.app)
                      | (have u0 : ¬ L p (pt P c p) ≤ L q (pt P c p) := h159
                         rw [h143, decide_eq_false u0, if_neg (by decide), List.append_nil] at ih2
                         exact ih2 _ hf hJ hl)
                      | (have u0 : ¬ pt P c q = 0 := h136
                         exact absurd hq0 u0)
                  · refine g_goto t233_162 ?_
                    refine g_incn (n := 1) t233_198 rfl rfl (Nat.le_of_ble_eq_true rfl) (am_s1_4 rfl) ?_
                    refine g_goto t233_201 ?_
                    first
                      | (have u0 : rt = false := h143
                         rw [u0, if_pos (show (!false || _) = true from rfl)] at ih2
                         exact ih2 _ ((hf.w (by decide) (by decide)).m (by decide)) (hLO.1 _ _ hJ ((FM.rf.w (by decide) (by decide)).m (by decide))) hl.app)
                      | (have u0 : L p (pt P c p) ≤ L q (pt P c p) := h159
                         rw [decide_eq_true u0, Bool.or_true, if_pos rfl] at ih2
                         exact ih2 _ ((hf.w (by decide) (by decide)).m (by decide)) (hLO.1 _ _ hJ ((FM.rf.w (by decide) (by decide)).m (by decide))) hl.app)
                      | (have u0 : ¬ L p (pt P c p) ≤ L q (pt P c p) := h159
                         rw [h143, decide_eq_false u0, if_neg (by decide), List.append_nil] at ih2
                         exact ih2 _ hf hJ hl)
                      | (have u0 : ¬ pt P c q = 0 := h136
                         exact absurd hq0 u0)
          · rw [if_neg hq0, List.append_nil, ← hle] at ih2
            refine g_p t233_120 rfl ?_
            refine g_p t233_122 rfl ?_
            refine r_gete t233_123 (f80 hF) rfl rfl m0 ?_
            refine n_cge t233_126 (by omega) (by omega) (fun h126 => ?_) (fun h126 => ?_)
            · exfalso; omega
            · refine g_p t233_129 rfl ?_
              refine g_p t233_130 rfl ?_
              refine g_p t233_131 rfl ?_
              refine r_cv t233_133 (f80 hF) rfl ?_
              refine c211 (by exact hF) (by exact m0) hP5 hc3 hqP ?_
              refine k_v ?_ rfl
              refine n_ne t233_136 (by omega) (fun h136 => ?_) (fun h136 => ?_)
              · refine g_incn (n := 1) t233_198 rfl rfl (Nat.le_of_ble_eq_true rfl) (am_s1_4 rfl) ?_
                refine g_goto t233_201 ?_
                exact ih2 _ hf hJ hl
              · exfalso; omega
      have hF := hF.fr hf.1
      have m0 := (hf.f (i := 20) (by decide)).trans m0
      have p1 := (hf.g (p := 85) (i := 1) (by decide)).trans p1
      have p2 := (hf.g (p := 85) (i := 2) (by decide)).trans p2
      have e43 := (hf.f (i := 43) (by decide)).trans e43
      have e42 := hl.1
      have hl6 : ((ena P c p).filter (mk1 P r w rt L c)).length < 64 := Nat.lt_of_le_of_lt (List.length_filter_le _ _) (by omega)
      refine g_p t233_7 rfl ?_
      refine g_p t233_8 rfl ?_
      refine r_gete t233_9 (f80 hF) rfl rfl m0 ?_
      refine n_cge t233_12 (by omega) (by omega) (fun h12 => ?_) (fun h12 => ?_)
      · exfalso; omega
      · refine g_p t233_15 rfl ?_
        refine g_p t233_16 rfl ?_
        refine g_p t233_17 rfl ?_
        refine r_cv t233_18 (f80 hF) rfl ?_
        refine c211 (by exact hF) (by exact m0) hP5 hc3 hpP ?_
        refine k_v ?_ rfl
        refine g_isn t233_21 (Nat.le_of_ble_eq_true rfl) (am_s1_3 rfl) ?_
        refine g_p t233_22 rfl ?_
        refine n_ne t233_23 (by omega) (fun h23 => ?_) (fun h23 => ?_)
        · refine g_p t233_91 rfl ?_
          refine r_getr t233_92 (f80 hF) rfl rfl ?_
          refine g_p t233_95 rfl ?_
          refine r_gete t233_96 (f80 hF) rfl rfl e42 ?_
          refine g_p t233_99 rfl ?_
          refine g_p t233_100 rfl ?_
          refine g_p t233_101 rfl ?_
          refine g_k (n := 0) t233_102 rfl rfl ?_
          refine r_cv t233_103 (f80 hF) rfl ?_
          refine c212 (by exact hF) (by exact m0) hP5 hc3 hpP ?_
          refine k_v ?_ rfl
          refine r_iast t233_106 (f97 hF) (by decide) hl6 ?_
          refine g_p t233_107 rfl ?_
          refine g_p t233_108 rfl ?_
          refine r_gete t233_109 (f80 hF) rfl rfl e42 ?_
          refine g_k (n := 1) t233_112 rfl rfl ?_
          refine g_addn t233_113 ?_
          refine r_puti t233_114 (f80 hF) rfl rfl ?_
          refine g_k (n := 0) t233_117 rfl rfl ?_
          refine g_is t233_118 (Nat.le_of_ble_eq_true rfl) (am_s1_4 rfl) ?_
          refine S1 h23 P 0 (by omega) _ ((hf.w (by decide) (by decide)).m (by decide)) (hLO.1 _ _ hJ ((FM.rf.w (by decide) (by decide)).m (by decide))) ?_
          show ML ((ena P c p ++ [wth P c p 0]).filter _) _
          rw [fil_app, if_pos (mk_tak hP5 hc hpP h23)]
          exact hl.app
        · refine g_k (n := 1) t233_26 rfl rfl ?_
          refine g_is t233_27 (Nat.le_of_ble_eq_true rfl) (am_s1_4 rfl) ?_
          refine S0 h23 2 1 (by omega) (by omega) _ hf hJ ?_
          show ML ((ena P c p ++ []).filter _) _
          rw [List.append_nil]
          exact hl
  refine en233 rfl rfl ?_
  refine g_p t233_0 rfl ?_
  refine g_k (n := 0) t233_1 rfl rfl ?_
  refine r_puti t233_2 (f80 hF) rfl rfl ?_
  refine g_k (n := 0) t233_5 rfl rfl ?_
  refine g_isn t233_6 (Nat.le_of_ble_eq_true rfl) (am_s1_2 rfl) ?_
  exact O P 0 (by omega) _ _ _ rfl (FM.rf.m (by decide)) (hLO.1 _ _ hJ (FM.rf.m (by decide))) ⟨rfl, fun k hk => absurd hk (Nat.not_lt_zero k)⟩
end RP
