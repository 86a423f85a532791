/-! THE ROWS LAID, 3 -/
section LC
variable {X : am_X} {d : Nat} {s : mM} {Q : Option Value → am_H → Prop} {P c q v : Nat} {a : Int32}
def fp1 (P c : Nat) (q : Nat) : Nat := one (pt P c q == 1)
def fp2 (P c : Nat) (q : Nat) : Nat := one (pt P c q == 2)
/-- the pots of a row laid, those of others as they were -/
def Op (c : Nat) (s s' : mM) : Prop := (∀ i, i < c * 5 ∨ c * 5 + 5 ≤ i → ri s' 21 i = ri s 21 i) ∧ (∀ c', c' ≠ c → ri s' 25 c' = ri s 25 c') ∧ ∀ c', c' ≠ c → ri s' 27 c' = ri s 27 c'
theorem pt_down {m : Nat} (hm : m < P) : pt P c m = c / 3 ^ (P - (m + 1)) % 3 := by
  unfold pt wt
  rw [show P - 1 - m = P - (m + 1) by omega]
theorem div3 {m : Nat} (hm : m < P) : c / 3 ^ (P - (m + 1)) / 3 = c / 3 ^ (P - m) := by
  rw [Nat.div_div_eq_div_mul, show P - m = P - (m + 1) + 1 by omega, Nat.pow_succ]
theorem one1 {x k : Nat} (h : x = k) : one (x == k) = 1 := by rw [h]; simp [one]
theorem one0 {x k : Nat} (h : ¬ x = k) : one (x == k) = 0 := by
  have : (x == k) = false := by simpa using h
  rw [this]; rfl
theorem c71 (hF : Fx s) (hP : ri s 19 0 = nI P) (hP0 : 0 < P) (hP5 : P ≤ 5) (hc : c < mn P) (hq : ∀ s', Fr [21, 25, 27] s s' → Op c s s' → (∀ q, q < P → ri s' 21 (c * 5 + q) = nI (pt P c q)) → ri s' 25 c = nI (cn P c 1) → ri s' 27 c = nI (cn P c 2) → Q none (mR s')) : gE X (d + 1) 71 [.ref 19, .int (nI c)] (mR s) Q := by
  have hc2 := mn_le hP5
  have L : ∀ m, m ≤ P → ∀ s' x y z, Fx s' → Fr [21, 25, 27] s s' → Op c s s' → (∀ q, m ≤ q → q < P → ri s' 21 (c * 5 + q) = nI (pt P c q)) → x + sm (fp1 P c) m = cn P c 1 → y + sm (fp2 P c) m = cn P c 2 → gG X (d + 1) 71 15 [.ref 19, .int (nI c), .int (nI x), .int (nI y), .int (nI (c / 3 ^ (P - m))), .int (pm m), z] [] (mR s') Q := by
    intro m
    induction m with
    | zero =>
      intro hm s' x y z hF hf ho hp hx hy
      show gG X (d + 1) 71 15 [.ref 19, .int (nI c), .int (nI x), .int (nI y), .int (nI (c / 3 ^ (P - 0))), .int (-1), z] [] (mR s') Q
      have hx : x = cn P c 1 := hx
      have hy : y = cn P c 2 := hy
      subst hx; subst hy
      refine g_p t71_15 rfl ?_
      refine g_lt t71_17 (fun h17 => ?_) (fun h17 => ?_)
      · refine g_p t71_81 rfl ?_
        refine r_getr t71_82 (f19 hF) rfl rfl ?_
        refine g_p t71_85 rfl ?_
        refine g_p t71_86 rfl ?_
        refine r_cv t71_87 (f24 hF) rfl ?_
        refine c31 (by exact fN24 hF) (by omega) ?_
        refine k_0 ?_
        refine g_p t71_90 rfl ?_
        refine r_getr t71_91 (f19 hF) rfl rfl ?_
        refine g_p t71_94 rfl ?_
        refine g_p t71_95 rfl ?_
        refine r_cv t71_96 (f26 hF) rfl ?_
        refine c31 (by exact fN26 hF) (by omega) ?_
        refine k_0 ?_
        refine v_ret t71_99 (hq _ ((hf.wi (by simp)).wi (by simp)) ⟨fun i hi => ?_, fun c' h => ?_, fun c' h => ?_⟩ (fun q hqP => ?_) ?_ ?_)
        · rw [ri_wi_ne (by decide), ri_wi_ne (by decide)]; exact ho.1 i hi
        · rw [ri_wi_ne (by decide), ri_wi_j h]; exact ho.2.1 c' h
        · rw [ri_wi_j h, ri_wi_ne (by decide)]; exact ho.2.2 c' h
        · rw [ri_wi_ne (by decide), ri_wi_ne (by decide)]; exact hp q (by omega) hqP
        · rw [ri_wi_ne (by decide), ri_wi_eq]
        · rw [ri_wi_eq]
      · exact absurd (show (-1 : Int32) < 0 by decide) h17
    | succ m ih =>
      intro hm s' x y z hF hf ho hp hx hy
      show gG X (d + 1) 71 15 [.ref 19, .int (nI c), .int (nI x), .int (nI y), .int (nI (c / 3 ^ (P - (m + 1)))), .int (nI m), z] [] (mR s') Q
      have hr : c / 3 ^ (P - (m + 1)) ≤ c := Nat.div_le_self _ _
      have hpt := pt_lt P c m
      rw [sm_succ] at hx hy
      refine g_p t71_15 rfl ?_
      refine n_lt t71_17 (by omega) ?_
      refine g_p t71_20 rfl ?_
      refine g_k (n := 3) t71_22 rfl rfl ?_
      refine g_remn t71_23 (by omega) (by decide) (by decide) ?_
      rw [← pt_down (by omega)]
      refine g_is t71_24 (Nat.le_of_ble_eq_true rfl) (am_s1_6 rfl) ?_
      refine g_p t71_26 rfl ?_
      refine r_getr t71_27 (f19 hF) rfl rfl ?_
      refine g_p t71_30 rfl ?_
      refine g_k (n := 5) t71_31 rfl rfl ?_
      refine g_muln t71_32 ?_
      refine g_p t71_33 rfl ?_
      refine g_addn t71_35 ?_
      refine g_p t71_36 rfl ?_
      refine r_cv t71_38 (f20 hF) rfl ?_
      refine c31 (by exact fN20 hF) (by omega) ?_
      refine k_0 ?_
      refine g_p t71_41 rfl ?_
      refine g_p t71_42 rfl ?_
      refine g_k (n := 1) t71_44 rfl rfl ?_
      refine n_cne t71_45 (by omega) (by omega) (fun h45 => ?_) (fun h45 => ?_)
      · refine g_k (n := 0) t71_52 rfl rfl ?_
        refine g_addn t71_53 ?_
        refine g_isn t71_54 (Nat.le_of_ble_eq_true rfl) (am_s1_2 rfl) ?_
        refine g_p t71_55 rfl ?_
        refine g_p t71_56 rfl ?_
        refine g_k (n := 2) t71_58 rfl rfl ?_
        refine n_cne t71_59 (by omega) (by omega) (fun h59 => ?_) (fun h59 => ?_)
        · refine g_k (n := 0) t71_66 rfl rfl ?_
          refine g_addn t71_67 ?_
          refine g_isn t71_68 (Nat.le_of_ble_eq_true rfl) (am_s1_3 rfl) ?_
          refine g_p t71_69 rfl ?_
          refine g_k (n := 3) t71_71 rfl rfl ?_
          refine g_divn t71_72 (by omega) (by decide) (by decide) ?_
          refine g_is t71_73 (Nat.le_of_ble_eq_true rfl) (am_s1_4 rfl) ?_
          refine g_inc t71_75 rfl (Nat.le_of_ble_eq_true rfl) (am_s1_5 rfl) ?_
          refine g_goto t71_78 ?_
          rw [pm_s, div3 (by omega)]
          refine ih (by omega) _ _ _ _ (hF.fr (A := [21, 25, 27]) (Fr.rf.wi (by simp))) (hf.wi (by simp)) ⟨fun i hi => ?_, fun c' h => (ri_wi_ne (by decide)).trans (ho.2.1 c' h), fun c' h => (ri_wi_ne (by decide)).trans (ho.2.2 c' h)⟩ (fun q h3 h4 => ?_) ?_ ?_
          · rw [ri_wi_j (by omega)]; exact ho.1 i hi
          · by_cases h5 : q = m
            · subst h5; rw [ri_wi_eq]
            · rw [ri_wi_j (by omega)]; exact hp q (by omega) h4
          · first
            | (rw [show fp1 P c m = 1 from one1 h45] at hx; omega)
            | (rw [show fp1 P c m = 0 from one0 h45] at hx; omega)
          · first
            | (rw [show fp2 P c m = 1 from one1 h59] at hy; omega)
            | (rw [show fp2 P c m = 0 from one0 h59] at hy; omega)
        · refine g_k (n := 1) t71_62 rfl rfl ?_
          refine g_goto t71_63 ?_
          refine g_addn t71_67 ?_
          refine g_isn t71_68 (Nat.le_of_ble_eq_true rfl) (am_s1_3 rfl) ?_
          refine g_p t71_69 rfl ?_
          refine g_k (n := 3) t71_71 rfl rfl ?_
          refine g_divn t71_72 (by omega) (by decide) (by decide) ?_
          refine g_is t71_73 (Nat.le_of_ble_eq_true rfl) (am_s1_4 rfl) ?_
          refine g_inc t71_75 rfl (Nat.le_of_ble_eq_true rfl) (am_s1_5 rfl) ?_
          refine g_goto t71_78 ?_
          rw [pm_s, div3 (by omega)]
          refine ih (by omega) _ _ _ _ (hF.fr (A := [21, 25, 27]) (Fr.rf.wi (by simp))) (hf.wi (by simp)) ⟨fun i hi => ?_, fun c' h => (ri_wi_ne (by decide)).trans (ho.2.1 c' h), fun c' h => (ri_wi_ne (by decide)).trans (ho.2.2 c' h)⟩ (fun q h3 h4 => ?_) ?_ ?_
          · rw [ri_wi_j (by omega)]; exact ho.1 i hi
          · by_cases h5 : q = m
            · subst h5; rw [ri_wi_eq]
            · rw [ri_wi_j (by omega)]; exact hp q (by omega) h4
          · first
            | (rw [show fp1 P c m = 1 from one1 h45] at hx; omega)
            | (rw [show fp1 P c m = 0 from one0 h45] at hx; omega)
          · first
            | (rw [show fp2 P c m = 1 from one1 h59] at hy; omega)
            | (rw [show fp2 P c m = 0 from one0 h59] at hy; omega)
      · refine g_k (n := 1) t71_48 rfl rfl ?_
        refine g_goto t71_49 ?_
        refine g_addn t71_53 ?_
        refine g_isn t71_54 (Nat.le_of_ble_eq_true rfl) (am_s1_2 rfl) ?_
        refine g_p t71_55 rfl ?_
        refine g_p t71_56 rfl ?_
        refine g_k (n := 2) t71_58 rfl rfl ?_
        refine n_cne t71_59 (by omega) (by omega) (fun h59 => ?_) (fun h59 => ?_)
        · refine g_k (n := 0) t71_66 rfl rfl ?_
          refine g_addn t71_67 ?_
          refine g_isn t71_68 (Nat.le_of_ble_eq_true rfl) (am_s1_3 rfl) ?_
          refine g_p t71_69 rfl ?_
          refine g_k (n := 3) t71_71 rfl rfl ?_
          refine g_divn t71_72 (by omega) (by decide) (by decide) ?_
          refine g_is t71_73 (Nat.le_of_ble_eq_true rfl) (am_s1_4 rfl) ?_
          refine g_inc t71_75 rfl (Nat.le_of_ble_eq_true rfl) (am_s1_5 rfl) ?_
          refine g_goto t71_78 ?_
          rw [pm_s, div3 (by omega)]
          refine ih (by omega) _ _ _ _ (hF.fr (A := [21, 25, 27]) (Fr.rf.wi (by simp))) (hf.wi (by simp)) ⟨fun i hi => ?_, fun c' h => (ri_wi_ne (by decide)).trans (ho.2.1 c' h), fun c' h => (ri_wi_ne (by decide)).trans (ho.2.2 c' h)⟩ (fun q h3 h4 => ?_) ?_ ?_
          · rw [ri_wi_j (by omega)]; exact ho.1 i hi
          · by_cases h5 : q = m
            · subst h5; rw [ri_wi_eq]
            · rw [ri_wi_j (by omega)]; exact hp q (by omega) h4
          · first
            | (rw [show fp1 P c m = 1 from one1 h45] at hx; omega)
            | (rw [show fp1 P c m = 0 from one0 h45] at hx; omega)
          · first
            | (rw [show fp2 P c m = 1 from one1 h59] at hy; omega)
            | (rw [show fp2 P c m = 0 from one0 h59] at hy; omega)
        · refine g_k (n := 1) t71_62 rfl rfl ?_
          refine g_goto t71_63 ?_
          refine g_addn t71_67 ?_
          refine g_isn t71_68 (Nat.le_of_ble_eq_true rfl) (am_s1_3 rfl) ?_
          refine g_p t71_69 rfl ?_
          refine g_k (n := 3) t71_71 rfl rfl ?_
          refine g_divn t71_72 (by omega) (by decide) (by decide) ?_
          refine g_is t71_73 (Nat.le_of_ble_eq_true rfl) (am_s1_4 rfl) ?_
          refine g_inc t71_75 rfl (Nat.le_of_ble_eq_true rfl) (am_s1_5 rfl) ?_
          refine g_goto t71_78 ?_
          rw [pm_s, div3 (by omega)]
          refine ih (by omega) _ _ _ _ (hF.fr (A := [21, 25, 27]) (Fr.rf.wi (by simp))) (hf.wi (by simp)) ⟨fun i hi => ?_, fun c' h => (ri_wi_ne (by decide)).trans (ho.2.1 c' h), fun c' h => (ri_wi_ne (by decide)).trans (ho.2.2 c' h)⟩ (fun q h3 h4 => ?_) ?_ ?_
          · rw [ri_wi_j (by omega)]; exact ho.1 i hi
          · by_cases h5 : q = m
            · subst h5; rw [ri_wi_eq]
            · rw [ri_wi_j (by omega)]; exact hp q (by omega) h4
          · first
            | (rw [show fp1 P c m = 1 from one1 h45] at hx; omega)
            | (rw [show fp1 P c m = 0 from one0 h45] at hx; omega)
          · first
            | (rw [show fp2 P c m = 1 from one1 h59] at hy; omega)
            | (rw [show fp2 P c m = 0 from one0 h59] at hy; omega)
  refine en71 rfl rfl ?_
  refine g_k (n := 0) t71_0 rfl rfl ?_
  refine g_isn t71_1 (Nat.le_of_ble_eq_true rfl) (am_s1_2 rfl) ?_
  refine g_k (n := 0) t71_2 rfl rfl ?_
  refine g_isn t71_3 (Nat.le_of_ble_eq_true rfl) (am_s1_3 rfl) ?_
  refine g_p t71_4 rfl ?_
  refine g_is t71_5 (Nat.le_of_ble_eq_true rfl) (am_s1_4 rfl) ?_
  refine g_p t71_7 rfl ?_
  refine r_gete t71_8 (f19 hF) rfl rfl hP ?_
  refine g_k (n := 1) t71_11 rfl rfl ?_
  refine g_isub t71_12 ?_
  rw [pm_p]
  refine g_is t71_13 (Nat.le_of_ble_eq_true rfl) (am_s1_5 rfl) ?_
  have := L P (Nat.le_refl _) s 0 0 (.float 0) hF Fr.rf ⟨fun _ _ => rfl, fun _ _ => rfl, fun _ _ => rfl⟩ (fun q h1 h2 => absurd h2 (by omega)) (Nat.zero_add _) (Nat.zero_add _)
  rw [Nat.sub_self, Nat.pow_zero, Nat.div_one] at this
  exact this
/-- all tables -/
def CRt (P : Nat) (s : mM) : Prop := CRp P s ∧ CRw P s ∧ (∀ c, c < mn P → ri s 25 c = nI (cn P c 1)) ∧ (∀ c, c < mn P → ri s 27 c = nI (cn P c 2)) ∧ ∀ c, c < mn P → blk s c (nb P c)
def CR (P : Nat) (s : mM) : Prop := ri s 19 0 = nI P ∧ ri s 19 1 = nI (mn P) ∧ P ≤ 5 ∧ CRt P s
abbrev rA : List Nat := [19, 21, 23, 25, 27, 29, 31]
theorem blk_fr {s s' : mM} {l : List Nat} {c : Nat} (h : blk s c l) (e1 : ri s' 29 c = ri s 29 c) (e2 : ∀ i, i < l.length → ri s' 31 (c * 14 + i) = ri s 31 (c * 14 + i)) : blk s' c l := ⟨e1.trans h.1, fun k hk => (e2 k hk).trans (h.2 k hk)⟩
theorem c70 (hF : Fx s) (hP0 : 0 < P) (hP5 : P ≤ 5) (hq : ∀ s', Fr rA s s' → CR P s' → Q none (mR s')) : gE X (d + 4) 70 [.ref 19, .int (nI P)] (mR s) Q := by
  have hc2 := mn_le hP5
  have hm : mn P = 3 ^ P := if_neg (by omega)
  have L3 : ∀ k c : Nat, c + k = mn P → ∀ s' z2, am_nl z2 = true → Fr rA s s' → ri s' 19 0 = nI P → ri s' 19 1 = nI (mn P) → CRp P s' → CRw P s' → (∀ c, c < mn P → ri s' 25 c = nI (cn P c 1)) → (∀ c, c < mn P → ri s' 27 c = nI (cn P c 2)) → (∀ x, x < c → blk s' x (nb P x)) → gG X (d + 4) 70 65 [.ref 19, .int (nI P), z2, .int (nI c)] [] (mR s') Q := by
    intro k
    induction k with
    | zero =>
      intro c hk s' z2 n2 hf hP hM hp hw h1 h2 hb
      have hF := hF.fr hf
      have hk : c = mn P := by omega
      subst hk
      refine g_p t70_65 rfl ?_
      refine g_p t70_66 rfl ?_
      refine r_gete t70_67 (f19 hF) rfl rfl hM ?_
      refine n_cge t70_70 (by omega) (by omega) (fun h70 => ?_) (fun h70 => ?_)
      · exact v_ret t70_84 (hq _ hf ⟨hP, hM, hP5, hp, hw, h1, h2, hb⟩)
      · exfalso; omega
    | succ k ih =>
      intro c hk s' z2 n2 hf hP hM hp hw h1 h2 hb
      have hF := hF.fr hf
      refine g_p t70_65 rfl ?_
      refine g_p t70_66 rfl ?_
      refine r_gete t70_67 (f19 hF) rfl rfl hM ?_
      refine n_cge t70_70 (by omega) (by omega) (fun h70 => ?_) (fun h70 => ?_)
      · exfalso; omega
      · refine g_p t70_73 rfl ?_
        refine g_p t70_74 rfl ?_
        refine r_cv t70_75 (f19 hF) rfl ?_
        refine c72 hF hP hP5 hp hw (by omega) (fun s75 w75 b75 => ?_)
        refine k_0 ?_
        refine g_incn (n := 1) t70_78 rfl rfl (Nat.le_of_ble_eq_true rfl) (am_s1_3 n2) ?_
        refine g_goto t70_81 ?_
        have f2 : Fr [29, 31] s' s75 := w75.1
        refine ih (c + 1) (by omega) _ _ n2 (hf.tr (f2.mono (by decide))) ((f2.ri (by decide)).trans hP) ((f2.ri (by decide)).trans hM) (hp.fr f2) (hw.fr f2) (fun x hx => (f2.ri (by decide)).trans (h1 x hx)) (fun x hx => (f2.ri (by decide)).trans (h2 x hx)) (fun x hx => ?_)
        by_cases h3 : x = c
        · subst h3; exact b75
        · have h4 : x < c := by omega
          have hl := nb_len hP5 (show x < mn P by omega)
          exact blk_fr (hb x h4) (w75.2.1 x h3) (fun i hi => w75.2.2 _ (by omega))
  have L2 : ∀ k c : Nat, c + k = mn P → ∀ s' z2, am_nl z2 = true → Fr rA s s' → ri s' 19 0 = nI P → ri s' 19 1 = nI (mn P) → CRw P s' → (∀ x q, x < c → q < P → ri s' 21 (x * 5 + q) = nI (pt P x q)) → (∀ x, x < c → ri s' 25 x = nI (cn P x 1)) → (∀ x, x < c → ri s' 27 x = nI (cn P x 2)) → gG X (d + 4) 70 44 [.ref 19, .int (nI P), z2, .int (nI c)] [] (mR s') Q := by
    intro k
    induction k with
    | zero =>
      intro c hk s' z2 n2 hf hP hM hw hp h1 h2
      have hF := hF.fr hf
      have hk : c = mn P := by omega
      subst hk
      refine g_p t70_44 rfl ?_
      refine g_p t70_45 rfl ?_
      refine r_gete t70_46 (f19 hF) rfl rfl hM ?_
      refine n_cge t70_49 (by omega) (by omega) (fun h49 => ?_) (fun h49 => ?_)
      · refine g_k (n := 0) t70_63 rfl rfl ?_
        refine g_isn t70_64 (Nat.le_of_ble_eq_true rfl) (am_s1_3 n2) ?_
        exact L3 (mn P) 0 (by omega) _ _ n2 hf hP hM hp hw h1 h2 (fun x hx => absurd hx (Nat.not_lt_zero x))
      · exfalso; omega
    | succ k ih =>
      intro c hk s' z2 n2 hf hP hM hw hp h1 h2
      have hF := hF.fr hf
      refine g_p t70_44 rfl ?_
      refine g_p t70_45 rfl ?_
      refine r_gete t70_46 (f19 hF) rfl rfl hM ?_
      refine n_cge t70_49 (by omega) (by omega) (fun h49 => ?_) (fun h49 => ?_)
      · exfalso; omega
      · refine g_p t70_52 rfl ?_
        refine g_p t70_53 rfl ?_
        refine r_cv t70_54 (f19 hF) rfl ?_
        refine c71 hF hP hP0 hP5 (by omega) (fun s54 f54 o54 p54 r54 w54 => ?_)
        refine k_0 ?_
        refine g_incn (n := 1) t70_57 rfl rfl (Nat.le_of_ble_eq_true rfl) (am_s1_3 n2) ?_
        refine g_goto t70_60 ?_
        refine ih (c + 1) (by omega) _ _ n2 (hf.tr (f54.mono (by decide))) ((f54.ri (by decide)).trans hP) ((f54.ri (by decide)).trans hM) (fun q hq => (f54.ri (by decide)).trans (hw q hq)) (fun x q hx hqP => ?_) (fun x hx => ?_) (fun x hx => ?_)
        · by_cases h3 : x = c
          · subst h3; exact p54 q hqP
          · rw [o54.1 _ (by omega)]; exact hp x q (by omega) hqP
        · by_cases h3 : x = c
          · subst h3; exact r54
          · rw [o54.2.1 _ h3]; exact h1 x (by omega)
        · by_cases h3 : x = c
          · subst h3; exact w54
          · rw [o54.2.2 _ h3]; exact h2 x (by omega)
  have L1 : ∀ m, m ≤ P → ∀ s', Fr rA s s' → ri s' 19 0 = nI P → (∀ q, m ≤ q → q < P → ri s' 23 q = nI (wt P q)) → gG X (d + 4) 70 14 [.ref 19, .int (nI P), .int (nI (3 ^ (P - m))), .int (pm m)] [] (mR s') Q := by
    intro m
    induction m with
    | zero =>
      intro hm2 s' hf hP hw
      have hF := hF.fr hf
      show gG X (d + 4) 70 14 [.ref 19, .int (nI P), .int (nI (3 ^ (P - 0))), .int (-1)] [] (mR s') Q
      rw [Nat.sub_zero, ← hm]
      refine g_p t70_14 rfl ?_
      refine g_lt t70_15 (fun h15 => ?_) (fun h15 => ?_)
      · refine g_p t70_37 rfl ?_
        refine g_p t70_38 rfl ?_
        refine r_puti t70_39 (f19 hF) rfl rfl ?_
        refine g_k (n := 0) t70_42 rfl rfl ?_
        refine g_isn t70_43 (Nat.le_of_ble_eq_true rfl) (am_s1_3 rfl) ?_
        exact L2 (mn P) 0 (by omega) _ _ rfl (hf.wi (by simp)) hP rfl (fun q hqP => hw q (Nat.zero_le _) hqP) (fun x q hx => absurd hx (Nat.not_lt_zero x)) (fun x hx => absurd hx (Nat.not_lt_zero x)) (fun x hx => absurd hx (Nat.not_lt_zero x))
      · exact absurd (show (-1 : Int32) < 0 by decide) h15
    | succ m ih =>
      intro hm2 s' hf hP hw
      have hF := hF.fr hf
      show gG X (d + 4) 70 14 [.ref 19, .int (nI P), .int (nI (3 ^ (P - (m + 1)))), .int (nI m)] [] (mR s') Q
      refine g_p t70_14 rfl ?_
      refine n_lt t70_15 (by omega) ?_
      refine g_p t70_18 rfl ?_
      refine r_getr t70_19 (f19 hF) rfl rfl ?_
      refine g_p t70_22 rfl ?_
      refine g_p t70_23 rfl ?_
      refine r_cv t70_24 (f22 hF) rfl ?_
      refine c31 (by exact fN22 hF) (by omega) ?_
      refine k_0 ?_
      refine g_p t70_27 rfl ?_
      refine g_k (n := 3) t70_28 rfl rfl ?_
      refine g_muln t70_29 ?_
      refine g_isn t70_30 (Nat.le_of_ble_eq_true rfl) (am_s1_2 rfl) ?_
      refine g_inc t70_31 rfl (Nat.le_of_ble_eq_true rfl) (am_s1_3 rfl) ?_
      refine g_goto t70_34 ?_
      rw [pm_s, show 3 ^ (P - (m + 1)) * 3 = 3 ^ (P - m) by rw [← Nat.pow_succ]; congr 1; omega]
      refine ih (by omega) _ (hf.wi (by simp)) hP (fun q h3 h4 => ?_)
      by_cases h5 : q = m
      · subst h5; rw [ri_wi_eq]; unfold wt; rw [show P - 1 - q = P - (q + 1) by omega]
      · rw [ri_wi_j h5]; exact hw q (by omega) h4
  refine en70 rfl rfl ?_
  refine g_p t70_0 rfl ?_
  refine g_p t70_1 rfl ?_
  refine r_puti t70_2 (f19 hF) rfl rfl ?_
  refine g_k (n := 1) t70_5 rfl rfl ?_
  refine g_isn t70_6 (Nat.le_of_ble_eq_true rfl) (am_s1_2 rfl) ?_
  refine g_p t70_7 rfl ?_
  skip
  refine r_gete t70_8 (f19 hF) rfl rfl (show _ = nI P from rfl) ?_
  refine g_k (n := 1) t70_11 rfl rfl ?_
  refine g_isub t70_12 ?_
  rw [pm_p]
  refine g_isn t70_13 (Nat.le_of_ble_eq_true rfl) (am_s1_3 rfl) ?_
  have := L1 P (Nat.le_refl _) (wi s 19 0 (nI P)) (Fr.rf.wi (by simp)) rfl (fun q h1 h2 => absurd h2 (by omega))
  rw [Nat.sub_self, Nat.pow_zero] at this
  exact this
end LC
