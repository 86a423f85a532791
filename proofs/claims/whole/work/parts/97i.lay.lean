/-! THE ROWS LAID, 2 -/
section LB
variable {X : am_X} {d : Nat} {s : mM} {Q : Option Value → am_H → Prop} {P c q v : Nat} {a : Int32}
theorem isrt_snoc {l : List Nat} {x : Nat} : isrt (l ++ [x]) = ins x (isrt l) := by simp [isrt]
theorem ena_pre : ∀ {m p : Nat}, p ≤ m → ∃ t, ena P c m = ena P c p ++ t := by
  intro m
  induction m with
  | zero => intro p h; exact ⟨[], by rw [show p = 0 by omega]; simp⟩
  | succ m ih =>
    intro p h
    by_cases h2 : p = m + 1
    · exact ⟨[], by rw [h2]; simp⟩
    · obtain ⟨t, ht⟩ := ih (p := p) (by omega)
      exact ⟨t ++ enp P c m, by rw [ena, ht, List.append_assoc]⟩
theorem enm_pre {p : Nat} : ∀ {m q : Nat}, q ≤ m → ∃ t, enm P c p m = enm P c p q ++ t := by
  intro m
  induction m with
  | zero => intro q h; exact ⟨[], by rw [show q = 0 by omega]; simp⟩
  | succ m ih =>
    intro q h
    by_cases h2 : q = m + 1
    · exact ⟨[], by rw [h2]; simp⟩
    · obtain ⟨t, ht⟩ := ih (q := q) (by omega)
      exact ⟨t ++ (if pt P c m = 0 then [wth P (wth P c p 0) m (pt P c p)] else []), by rw [enm, ht, List.append_assoc]⟩
/-- a beginning of the neighbors -/
def Pre (P c : Nat) (l : List Nat) : Prop := ∃ t, en P c = l ++ t
theorem Pre.len {l : List Nat} (h : Pre P c l) (hP : P ≤ 5) (hc : c < mn P) : l.length ≤ 14 := by
  obtain ⟨t, ht⟩ := h
  have := en_len hP hc
  rw [ht, List.length_append] at this
  omega
theorem Pre.mem {l : List Nat} (h : Pre P c l) (hP : P ≤ 5) (hc : c < mn P) : ∀ x ∈ l, x < 243 := fun x hx => by
  obtain ⟨t, ht⟩ := h
  have := (en_1 hP hc (ht ▸ List.mem_append_left t hx : x ∈ en P c)).1
  have := mn_le hP
  omega
theorem isrt_len {l : List Nat} : (isrt l).length = l.length := (isrt_perm l).length_eq
/-- one more neighbor -/
theorem c73p (hF : Fx s) {t : Nat} {l : List Nat} (hP : P ≤ 5) (hc : c < mn P) (hb : blk s c (isrt l)) (hp : Pre P c (l ++ [t])) (hq : ∀ s', Fr [29, 31] s s' → Ob c s s' → blk s' c (isrt (l ++ [t])) → Q none (mR s')) : gE X (d + 1) 73 [.ref 19, .int (nI c), .int (nI t)] (mR s) Q := by
  have h1 := hp.len hP hc
  have h2 := hp.mem hP hc
  have := mn_le hP
  simp only [List.length_append, List.length_cons, List.length_nil] at h1
  exact c73 hF (by omega) (h2 t (by simp)) hb (by rw [isrt_len]; omega) (isrt_srt l) (fun x hx => h2 x (List.mem_append_left _ ((isrt_perm l).mem_iff.mp hx))) (fun s' q1 q2 q3 => hq s' q1 q2 (by rw [isrt_snoc]; exact q3))
theorem CRp.fr {s' : mM} (h : CRp P s) (f : Fr [29, 31] s s') : CRp P s' := fun c q hc hq => by rw [f.ri (by decide)]; exact h c q hc hq
theorem CRw.fr {s' : mM} (h : CRw P s) (f : Fr [29, 31] s s') : CRw P s' := fun q hq => by rw [f.ri (by decide)]; exact h q hq
/-- the world of layNeighbors -/
def Wn (P c : Nat) (s s' : mM) : Prop := Fr [29, 31] s s' ∧ Ob c s s'
theorem wth_lt (hP : P ≤ 5) (hc : c < mn P) {p v : Nat} (hp : p < P) (hv : v < 3) : wth P c p v < mn P := (wth_1 hP hc hp hv).1
theorem c72 (hF : Fx s) (hP : ri s 19 0 = nI P) (hP5 : P ≤ 5) (hp : CRp P s) (hw : CRw P s) (hc : c < mn P) (hq : ∀ s', Wn P c s s' → blk s' c (nb P c) → Q none (mR s')) : gE X (d + 3) 72 [.ref 19, .int (nI c)] (mR s) Q := by
  have hc2 := mn_le hP5
  have L : ∀ k p : Nat, p + k = P → ∀ s' z3 z4 z5, Fx s' → ri s' 19 0 = nI P → CRp P s' → CRw P s' → Wn P c s s' → blk s' c (isrt (ena P c p)) → am_nl z3 = true → am_nl z4 = true → gG X (d + 3) 72 11 [.ref 19, .int (nI c), .int (nI p), z3, z4, z5] [] (mR s') Q := by
    intro k
    induction k with
    | zero =>
      intro p hk s' z3 z4 z5 hF hP hp hw hW hb n3 n4
      have hk : p = P := by omega
      subst hk
      refine g_p t72_11 rfl ?_
      refine g_p t72_12 rfl ?_
      refine r_gete t72_13 (f19 hF) rfl rfl hP ?_
      refine n_cge t72_16 (by omega) (by omega) (fun h16 => ?_) (fun h16 => ?_)
      · exact v_ret t72_121 (hq _ hW hb)
      · exfalso; omega
    | succ k ih =>
      intro p hk s' z3 z4 z5 hF hP hp hw hW hb n3 n4
      have hpP : p < P := by omega
      have hpt := pt_lt P c p
      have hEn : Pre P c (ena P c p ++ enp P c p) := ena_pre (m := P) (p := p + 1) (by omega)
      by_cases h0 : pt P c p = 0
      · have e : enp P c p = [wth P c p 1, wth P c p 2] := if_pos h0
        rw [e] at hEn
        have hE1 : Pre P c (ena P c p ++ [wth P c p 1]) := by
          obtain ⟨t, ht⟩ := hEn
          exact ⟨[wth P c p 2] ++ t, by rw [ht]; simp⟩
        have hE2 : Pre P c ((ena P c p ++ [wth P c p 1]) ++ [wth P c p 2]) := by rw [List.append_assoc]; exact hEn
        refine g_p t72_11 rfl ?_
        refine g_p t72_12 rfl ?_
        refine r_gete t72_13 (f19 hF) rfl rfl hP ?_
        refine n_cge t72_16 (by omega) (by omega) (fun h16 => ?_) (fun h16 => ?_)
        · exfalso; omega
        · refine g_p t72_19 rfl ?_
          refine g_p t72_20 rfl ?_
          refine g_p t72_21 rfl ?_
          refine r_cv t72_22 (f19 hF) rfl ?_
          refine c77 (by exact hF) (c5q hP5 hc hpP) (hp c p hc hpP) ?_
          refine k_v ?_ rfl
          refine g_isn t72_25 (Nat.le_of_ble_eq_true rfl) (am_s1_3 rfl) ?_
          refine g_p t72_26 rfl ?_
          refine n_ne t72_27 (by omega) (fun h27 => ?_) (fun h27 => ?_)
          · exact absurd h0 h27
          · refine g_p t72_30 rfl ?_
            refine g_p t72_31 rfl ?_
            refine g_p t72_32 rfl ?_
            refine g_p t72_33 rfl ?_
            refine g_p t72_34 rfl ?_
            refine g_k (n := 1) t72_35 rfl rfl ?_
            refine r_cv t72_36 (f19 hF) rfl ?_
            refine c80 (by exact hF) (c5q hP5 hc hpP) (by omega) (hp c p hc hpP) (hw p hpP) ?_
            refine k_v ?_ rfl
            refine r_cv t72_39 (f19 hF) rfl ?_
            refine c73p hF hP5 hc hb hE1 (fun s39 f39 o39 b39 => ?_)
            have hF := hF.fr f39
            have hP := (f39.ri (by decide)).trans hP
            have hp := hp.fr f39
            have hw := hw.fr f39
            have hW : Wn P c s s39 := ⟨hW.1.tr f39, hW.2.tr o39⟩
            have hb := b39
            refine k_0 ?_
            refine g_p t72_42 rfl ?_
            refine g_p t72_43 rfl ?_
            refine g_p t72_44 rfl ?_
            refine g_p t72_45 rfl ?_
            refine g_p t72_46 rfl ?_
            refine g_k (n := 2) t72_47 rfl rfl ?_
            refine r_cv t72_48 (f19 hF) rfl ?_
            refine c80 (by exact hF) (c5q hP5 hc hpP) (by omega) (hp c p hc hpP) (hw p hpP) ?_
            refine k_v ?_ rfl
            refine r_cv t72_51 (f19 hF) rfl ?_
            refine c73p hF hP5 hc hb hE2 (fun s51 f51 o51 b51 => ?_)
            have hF := hF.fr f51
            have hP := (f51.ri (by decide)).trans hP
            have hp := hp.fr f51
            have hw := hw.fr f51
            have hW : Wn P c s s51 := ⟨hW.1.tr f51, hW.2.tr o51⟩
            have hb := b51
            refine k_0 ?_
            refine g_goto t72_54 ?_
            refine g_incn (n := 1) t72_115 rfl rfl (Nat.le_of_ble_eq_true rfl) (am_s1_2 rfl) ?_
            refine g_goto t72_118 ?_
            refine ih (p + 1) (by omega) _ _ _ _ hF hP hp hw hW ?_ rfl n4
            rw [ena, e]
            rw [List.append_assoc] at hb
            exact hb
      · have e : enp P c p = wth P c p 0 :: enm P c p P := if_neg h0
        have hE1 : Pre P c (ena P c p ++ [wth P c p 0]) := by
          obtain ⟨t, ht⟩ := hEn
          exact ⟨enm P c p P ++ t, by rw [ht, e]; simp⟩
        have hEq : ∀ q, q < P → pt P c q = 0 → Pre P c ((ena P c p ++ [wth P c p 0] ++ enm P c p q) ++ [wth P (wth P c p 0) q (pt P c p)]) := by
          intro q hq hq0
          obtain ⟨t, ht⟩ := hEn
          obtain ⟨u, hu⟩ := enm_pre (P := P) (c := c) (p := p) (m := P) (q := q + 1) (by omega)
          rw [enm, if_pos hq0] at hu
          exact ⟨u ++ t, by rw [ht, e, hu]; simp⟩
        have M : ∀ j q : Nat, q + j = P → ∀ s', Fx s' → ri s' 19 0 = nI P → CRp P s' → CRw P s' → Wn P c s s' → blk s' c (isrt (ena P c p ++ [wth P c p 0] ++ enm P c p q)) → gG X (d + 3) 72 76 [.ref 19, .int (nI c), .int (nI p), .int (nI (pt P c p)), .int (nI (wth P c p 0)), .int (nI q)] [] (mR s') Q := by
          intro j
          induction j with
          | zero =>
            intro q hj s' hF hP hp hw hW hb
            have hj : q = P := by omega
            subst hj
            refine g_p t72_76 rfl ?_
            refine g_p t72_78 rfl ?_
            refine r_gete t72_79 (f19 hF) rfl rfl hP ?_
            refine n_cge t72_82 (by omega) (by omega) (fun h82 => ?_) (fun h82 => ?_)
            · refine g_incn (n := 1) t72_115 rfl rfl (Nat.le_of_ble_eq_true rfl) (am_s1_2 rfl) ?_
              refine g_goto t72_118 ?_
              refine ih (p + 1) (by omega) _ _ _ _ hF hP hp hw hW ?_ rfl rfl
              rw [ena, e]
              rw [List.append_assoc] at hb
              exact hb
            · exfalso; omega
          | succ j ihj =>
            intro q hj s' hF hP hp hw hW hb
            have hqP : q < P := by omega
            have hptq := pt_lt P c q
            refine g_p t72_76 rfl ?_
            refine g_p t72_78 rfl ?_
            refine r_gete t72_79 (f19 hF) rfl rfl hP ?_
            refine n_cge t72_82 (by omega) (by omega) (fun h82 => ?_) (fun h82 => ?_)
            · exfalso; omega
            · refine g_p t72_85 rfl ?_
              refine g_p t72_86 rfl ?_
              refine g_p t72_87 rfl ?_
              refine r_cv t72_89 (f19 hF) rfl ?_
              refine c77 (by exact hF) (c5q hP5 hc hqP) (hp c q hc hqP) ?_
              refine k_v ?_ rfl
              refine n_ne t72_92 (by omega) (fun h92 => ?_) (fun h92 => ?_)
              · refine g_incn (n := 1) t72_109 rfl rfl (Nat.le_of_ble_eq_true rfl) (am_s1_5 rfl) ?_
                refine g_goto t72_112 ?_
                refine ihj (q + 1) (by omega) _ hF hP hp hw hW ?_
                rw [enm]
                first
                  | (rw [if_pos h92, ← List.append_assoc]; exact hb)
                  | (rw [if_neg h92, List.append_nil]; exact hb)
              · refine g_p t72_95 rfl ?_
                refine g_p t72_96 rfl ?_
                refine g_p t72_97 rfl ?_
                refine g_p t72_98 rfl ?_
                refine g_p t72_100 rfl ?_
                refine g_p t72_102 rfl ?_
                refine r_cv t72_103 (f19 hF) rfl ?_
                refine c80 (by exact hF) (c5q hP5 (wth_lt hP5 hc hpP (by decide)) hqP) (by omega) (hp (wth P c p 0) q (wth_lt hP5 hc hpP (by decide)) hqP) (hw q hqP) ?_
                refine k_v ?_ rfl
                refine r_cv t72_106 (f19 hF) rfl ?_
                refine c73p hF hP5 hc hb (hEq q hqP h92) (fun s106 f106 o106 b106 => ?_)
                have hF := hF.fr f106
                have hP := (f106.ri (by decide)).trans hP
                have hp := hp.fr f106
                have hw := hw.fr f106
                have hW : Wn P c s s106 := ⟨hW.1.tr f106, hW.2.tr o106⟩
                have hb := b106
                refine k_0 ?_
                refine g_incn (n := 1) t72_109 rfl rfl (Nat.le_of_ble_eq_true rfl) (am_s1_5 rfl) ?_
                refine g_goto t72_112 ?_
                refine ihj (q + 1) (by omega) _ hF hP hp hw hW ?_
                rw [enm]
                first
                  | (rw [if_pos h92, ← List.append_assoc]; exact hb)
                  | (rw [if_neg h92, List.append_nil]; exact hb)
        refine g_p t72_11 rfl ?_
        refine g_p t72_12 rfl ?_
        refine r_gete t72_13 (f19 hF) rfl rfl hP ?_
        refine n_cge t72_16 (by omega) (by omega) (fun h16 => ?_) (fun h16 => ?_)
        · exfalso; omega
        · refine g_p t72_19 rfl ?_
          refine g_p t72_20 rfl ?_
          refine g_p t72_21 rfl ?_
          refine r_cv t72_22 (f19 hF) rfl ?_
          refine c77 (by exact hF) (c5q hP5 hc hpP) (hp c p hc hpP) ?_
          refine k_v ?_ rfl
          refine g_isn t72_25 (Nat.le_of_ble_eq_true rfl) (am_s1_3 rfl) ?_
          refine g_p t72_26 rfl ?_
          refine n_ne t72_27 (by omega) (fun h27 => ?_) (fun h27 => ?_)
          · refine g_p t72_57 rfl ?_
            refine g_p t72_58 rfl ?_
            refine g_p t72_59 rfl ?_
            refine g_k (n := 0) t72_60 rfl rfl ?_
            refine r_cv t72_61 (f19 hF) rfl ?_
            refine c80 (by exact hF) (c5q hP5 hc hpP) (by omega) (hp c p hc hpP) (hw p hpP) ?_
            refine k_v ?_ rfl
            refine g_is t72_64 (Nat.le_of_ble_eq_true rfl) (am_s1_4 rfl) ?_
            refine g_p t72_66 rfl ?_
            refine g_p t72_67 rfl ?_
            refine g_p t72_68 rfl ?_
            refine r_cv t72_70 (f19 hF) rfl ?_
            refine c73p hF hP5 hc hb hE1 (fun s70 f70 o70 b70 => ?_)
            have hF := hF.fr f70
            have hP := (f70.ri (by decide)).trans hP
            have hp := hp.fr f70
            have hw := hw.fr f70
            have hW : Wn P c s s70 := ⟨hW.1.tr f70, hW.2.tr o70⟩
            have hb := b70
            refine k_0 ?_
            refine g_k (n := 0) t72_73 rfl rfl ?_
            refine g_is t72_74 (Nat.le_of_ble_eq_true rfl) (am_s1_5 rfl) ?_
            exact M P 0 (by omega) _ hF hP hp hw hW (by rw [enm, List.append_nil]; exact hb)
          · exact absurd h27 h0
  refine en72 rfl rfl ?_
  refine g_p t72_0 rfl ?_
  refine r_getr t72_1 (f19 hF) rfl rfl ?_
  refine g_p t72_4 rfl ?_
  refine g_k (n := 0) t72_5 rfl rfl ?_
  refine r_cv t72_6 (f28 hF) rfl ?_
  refine c31 (by exact fN28 hF) (by omega) ?_
  refine k_0 ?_
  refine g_k (n := 0) t72_9 rfl rfl ?_
  refine g_isn t72_10 (Nat.le_of_ble_eq_true rfl) (am_s1_2 rfl) ?_
  have fr : Fr [29, 31] s (wi s 29 c (nI 0)) := Fr.rf.wi (by simp)
  exact L P 0 (by omega) _ _ _ _ (hF.fr fr) ((fr.ri (by decide)).trans hP) (hp.fr fr) (hw.fr fr) ⟨fr, fun c' h => ri_wi_j h, fun i _ => rfl⟩ ⟨ri_wi_eq, fun k hk => absurd hk (Nat.not_lt_zero k)⟩ rfl rfl
end LB
