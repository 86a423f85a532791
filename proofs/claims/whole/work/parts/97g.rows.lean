/-! THE ROWS: what FlowerPots$Rows answers -/
def pm : Nat → Int32
  | 0 => -1
  | k + 1 => nI k
theorem pm_s (k : Nat) : nI k + (-1) = pm k := by
  cases k with
  | zero => decide
  | succ k => exact pk_m1 k
theorem pm_p {P : Nat} : nI P - nI 1 = pm P := by
  cases P with
  | zero => decide
  | succ k => show _ = nI k; rw [pk_sub (by omega)]; rfl
theorem i_wth {c v p w : Nat} (h : p * w ≤ c) : nI c + (nI v - nI p) * nI w = nI (c + v * w - p * w) := by
  rw [← pk_sub (show p * w ≤ c + v * w by omega), ← nI_add, ← pk_mul, ← pk_mul]
  generalize nI c = x; generalize nI v = y; generalize nI p = z; generalize nI w = u
  grind
theorem or_sh : ∀ q, q < 5 → ∀ u, u < 2 ^ q → nI u ||| (nI 1 <<< (nI q &&& 31)) = nI (u + 2 ^ q) := by decide +kernel
theorem upu_lt {P a b : Nat} (m : Nat) : upu P a b m < 2 ^ m := by
  induction m with
  | zero => exact Nat.zero_lt_one
  | succ m ih =>
    have e : 2 ^ (m + 1) = 2 ^ m * 2 := Nat.pow_succ 2 m
    unfold upu
    split <;> omega
def coI : Option Nat → Int32
  | none => -1
  | some c => nI c
/-- the code of a row that is told as an int -/
def cdI (P : Nat) (x : Int32) : Int32 := if x < 0 then -1 else coI (cd P x.toNatClampNeg)
theorem nI_n {x : Int32} (h : ¬ x < 0) : x = nI x.toNatClampNeg := by
  obtain ⟨j, hj, rfl⟩ := nI_of h
  rw [nI_clamp hj]
theorem cl_lt (x : Int32) : x.toNatClampNeg < 2 ^ 31 := by
  by_cases h : x < 0
  · have h2 : x.toInt < 0 := by simpa using Int32.lt_iff_toInt_lt.mp h
    have : x.toNatClampNeg = 0 := by
      show x.toInt.toNat = 0
      omega
    omega
  · obtain ⟨j, hj, rfl⟩ := nI_of h
    rw [nI_clamp hj]; exact hj
theorem inN_f1 {P : Nat} {x : Int32} (h : x < 0) : inN P x = false := decide_eq_false (fun h2 => h2.1 h)
theorem inN_f2 {P : Nat} {x : Int32} (h : nI P ≤ x) : inN P x = false := decide_eq_false (fun h2 => Int32.not_le.mpr h2.2 h)
theorem inN_tt {P : Nat} {x : Int32} (h : ¬ x < 0) (h2 : ¬ nI P ≤ x) : inN P x = true := decide_eq_true ⟨h, Int32.not_le.mp h2⟩
section RO
variable {X : am_X} {d : Nat} {s : mM} {Q : Option Value → am_H → Prop} {P c q v : Nat} {a : Int32}
theorem c74 (hF : Fx s) (e : ri s 19 0 = a) (hq : Q (some (.int a)) (mR s)) : gE X d 74 [.ref 19] (mR s) Q := by
  refine en74 rfl ?_
  refine g_p t74_0 rfl ?_
  refine r_gete t74_1 (f19 hF) rfl rfl e ?_
  exact i_ret t74_4 rfl hq
theorem c76 (hF : Fx s) (e : ri s 19 1 = a) (hq : Q (some (.int a)) (mR s)) : gE X d 76 [.ref 19] (mR s) Q := by
  refine en76 rfl ?_
  refine g_p t76_0 rfl ?_
  refine r_gete t76_1 (f19 hF) rfl rfl e ?_
  exact i_ret t76_4 rfl hq
theorem c75 (hF : Fx s) {x : Int32} (hP : ri s 19 0 = nI P) (hP5 : P ≤ 5) (hq : Q (some (.int (bI (inN P x)))) (mR s)) : gE X d 75 [.ref 19, .int x] (mR s) Q := by
  refine en75 rfl rfl ?_
  refine g_p t75_0 rfl ?_
  refine g_lt t75_1 (fun h1 => ?_) (fun h1 => ?_)
  · refine g_k (n := 0) t75_16 rfl rfl ?_
    exact b_ret t75_17 (by first | (rw [inN_f1 h1]; rfl) | (rw [inN_f2 h9]; rfl) | (rw [inN_tt h1 h9]; rfl)) hq
  · refine g_p t75_4 rfl ?_
    refine g_p t75_5 rfl ?_
    refine r_gete t75_6 (f19 hF) rfl rfl hP ?_
    refine g_cge t75_9 (fun h9 => ?_) (fun h9 => ?_)
    · refine g_k (n := 0) t75_16 rfl rfl ?_
      exact b_ret t75_17 (by first | (rw [inN_f1 h1]; rfl) | (rw [inN_f2 h9]; rfl) | (rw [inN_tt h1 h9]; rfl)) hq
    · refine g_k (n := 1) t75_12 rfl rfl ?_
      refine g_goto t75_13 ?_
      exact b_ret t75_17 (by first | (rw [inN_f1 h1]; rfl) | (rw [inN_f2 h9]; rfl) | (rw [inN_tt h1 h9]; rfl)) hq
theorem c77 (hF : Fx s) (hb : c * 5 + q < 1215) (e : ri s 21 (c * 5 + q) = a) (hq : Q (some (.int a)) (mR s)) : gE X (d + 1) 77 [.ref 19, .int (nI c), .int (nI q)] (mR s) Q := by
  refine en77 rfl rfl rfl ?_
  refine g_p t77_0 rfl ?_
  refine r_getr t77_1 (f19 hF) rfl rfl ?_
  refine g_p t77_4 rfl ?_
  refine g_k (n := 5) t77_5 rfl rfl ?_
  refine g_muln t77_6 ?_
  refine g_p t77_7 rfl ?_
  refine g_addn t77_8 ?_
  refine r_cv t77_9 (f20 hF) rfl ?_
  refine c30e (by exact fN20 hF) hb e ?_
  refine k_v ?_ rfl
  exact i_ret t77_12 rfl hq
theorem c78 (hF : Fx s) (hb : c < 243) (e : ri s 25 c = a) (hq : Q (some (.int a)) (mR s)) : gE X (d + 1) 78 [.ref 19, .int (nI c)] (mR s) Q := by
  refine en78 rfl rfl ?_
  refine g_p t78_0 rfl ?_
  refine r_getr t78_1 (f19 hF) rfl rfl ?_
  refine g_p t78_4 rfl ?_
  refine r_cv t78_5 (f24 hF) rfl ?_
  refine c30e (by exact fN24 hF) hb e ?_
  refine k_v ?_ rfl
  exact i_ret t78_8 rfl hq
theorem c79 (hF : Fx s) (hb : c < 243) (e : ri s 27 c = a) (hq : Q (some (.int a)) (mR s)) : gE X (d + 1) 79 [.ref 19, .int (nI c)] (mR s) Q := by
  refine en79 rfl rfl ?_
  refine g_p t79_0 rfl ?_
  refine r_getr t79_1 (f19 hF) rfl rfl ?_
  refine g_p t79_4 rfl ?_
  refine r_cv t79_5 (f26 hF) rfl ?_
  refine c30e (by exact fN26 hF) hb e ?_
  refine k_v ?_ rfl
  exact i_ret t79_8 rfl hq
theorem c81 (hF : Fx s) (hb : c < 243) (e : ri s 29 c = a) (hq : Q (some (.int a)) (mR s)) : gE X (d + 1) 81 [.ref 19, .int (nI c)] (mR s) Q := by
  refine en81 rfl rfl ?_
  refine g_p t81_0 rfl ?_
  refine r_getr t81_1 (f19 hF) rfl rfl ?_
  refine g_p t81_4 rfl ?_
  refine r_cv t81_5 (f28 hF) rfl ?_
  refine c30e (by exact fN28 hF) hb e ?_
  refine k_v ?_ rfl
  exact i_ret t81_8 rfl hq
theorem c82 (hF : Fx s) (hb : c * 14 + q < 3402) (e : ri s 31 (c * 14 + q) = a) (hq : Q (some (.int a)) (mR s)) : gE X (d + 1) 82 [.ref 19, .int (nI c), .int (nI q)] (mR s) Q := by
  refine en82 rfl rfl rfl ?_
  refine g_p t82_0 rfl ?_
  refine r_getr t82_1 (f19 hF) rfl rfl ?_
  refine g_p t82_4 rfl ?_
  refine g_k (n := 14) t82_5 rfl rfl ?_
  refine g_muln t82_7 ?_
  refine g_p t82_8 rfl ?_
  refine g_addn t82_9 ?_
  refine r_cv t82_10 (f30 hF) rfl ?_
  refine c30e (by exact fN30 hF) hb e ?_
  refine k_v ?_ rfl
  exact i_ret t82_13 rfl hq
theorem c80 (hF : Fx s) (hb : c * 5 + q < 1215) (hq5 : q < 5) (e : ri s 21 (c * 5 + q) = nI (pt P c q)) (ew : ri s 23 q = nI (wt P q)) (hq : Q (some (.int (nI (wth P c q v)))) (mR s)) : gE X (d + 2) 80 [.ref 19, .int (nI c), .int (nI q), .int (nI v)] (mR s) Q := by
  refine en80 rfl rfl rfl rfl ?_
  refine g_p t80_0 rfl ?_
  refine g_p t80_1 rfl ?_
  refine g_p t80_2 rfl ?_
  refine g_p t80_3 rfl ?_
  refine g_p t80_4 rfl ?_
  refine r_cv t80_5 (f19 hF) rfl ?_
  refine c77 (by exact hF) hb e ?_
  refine k_v ?_ rfl
  refine g_isub t80_8 ?_
  refine g_p t80_9 rfl ?_
  refine r_getr t80_10 (f19 hF) rfl rfl ?_
  refine g_p t80_13 rfl ?_
  refine r_cv t80_14 (f22 hF) rfl ?_
  refine c30e (by exact fN22 hF) hq5 ew ?_
  refine k_v ?_ rfl
  refine g_imul t80_17 ?_
  refine g_iadd t80_18 ?_
  exact i_ret t80_19 (i_wth (pt_wt_le P c q)) hq
/-- the table of pots -/
def CRp (P : Nat) (s : mM) : Prop := ∀ c q, c < mn P → q < P → ri s 21 (c * 5 + q) = nI (pt P c q)
def CRw (P : Nat) (s : mM) : Prop := ∀ q, q < P → ri s 23 q = nI (wt P q)
theorem c5q (hP5 : P ≤ 5) (hc : c < mn P) (hq : q < P) : c * 5 + q < 1215 := by have := mn_le hP5; omega
theorem c83 (hF : Fx s) {b c : Nat} (hP : ri s 19 0 = nI P) (hP5 : P ≤ 5) (hp : CRp P s) (hb : b < mn P) (hc : c < mn P) (hq : Q (some (.int (nI (upu P b c P)))) (mR s)) : gE X (d + 2) 83 [.ref 19, .int (nI b), .int (nI c)] (mR s) Q := by
  have L : ∀ k q : Nat, q + k = P → gG X (d + 2) 83 5 [.ref 19, .int (nI b), .int (nI c), .int (nI (upu P b c q)), .int (nI q)] [] (mR s) Q := by
    intro k
    induction k with
    | zero =>
      intro q hk
      have hk : q = P := by omega
      subst hk
      refine g_p t83_5 rfl ?_
      refine g_p t83_7 rfl ?_
      refine r_gete t83_8 (f19 hF) rfl rfl hP ?_
      refine n_cge t83_11 (by omega) (by omega) (fun h11 => ?_) (fun h11 => ?_)
      · refine g_p t83_44 rfl ?_
        exact i_ret t83_45 rfl hq
      · exfalso; omega
    | succ k ih =>
      intro q hk
      have hqP : q < P := by omega
      refine g_p t83_5 rfl ?_
      refine g_p t83_7 rfl ?_
      refine r_gete t83_8 (f19 hF) rfl rfl hP ?_
      refine n_cge t83_11 (by omega) (by omega) (fun h11 => ?_) (fun h11 => ?_)
      · exfalso; omega
      · refine g_p t83_14 rfl ?_
        refine g_p t83_15 rfl ?_
        refine g_p t83_16 rfl ?_
        refine r_cv t83_18 (f19 hF) rfl ?_
        refine c77 (by exact hF) (c5q hP5 hb hqP) (hp b q hb hqP) ?_
        refine k_v ?_ rfl
        refine g_p t83_21 rfl ?_
        refine g_p t83_22 rfl ?_
        refine g_p t83_23 rfl ?_
        refine r_cv t83_25 (f19 hF) rfl ?_
        refine c77 (by exact hF) (c5q hP5 hc hqP) (hp c q hc hqP) ?_
        refine k_v ?_ rfl
        refine n_ceq t83_28 (Nat.lt_trans (pt_lt _ _ _) (by decide)) (Nat.lt_trans (pt_lt _ _ _) (by decide)) (fun h28 => ?_) (fun h28 => ?_)
        · refine g_incn (n := 1) t83_38 rfl rfl (Nat.le_of_ble_eq_true rfl) (am_s1_4 rfl) ?_
          refine g_goto t83_41 ?_
          have := ih (q + 1) (by omega)
          unfold upu at this
          rw [if_pos h28, Nat.add_zero] at this
          exact this
        · refine g_p t83_31 rfl ?_
          refine g_k (n := 1) t83_32 rfl rfl ?_
          refine g_p t83_33 rfl ?_
          refine g_ishl t83_35 ?_
          refine g_ior t83_36 ?_
          rw [or_sh q (by omega) _ (upu_lt q)]
          refine g_isn t83_37 (Nat.le_of_ble_eq_true rfl) (am_s1_3 rfl) ?_
          refine g_incn (n := 1) t83_38 rfl rfl (Nat.le_of_ble_eq_true rfl) (am_s1_4 rfl) ?_
          refine g_goto t83_41 ?_
          have := ih (q + 1) (by omega)
          unfold upu at this
          rw [if_neg h28] at this
          exact this
  refine en83 rfl rfl rfl ?_
  refine g_k (n := 0) t83_0 rfl rfl ?_
  refine g_isn t83_1 (Nat.le_of_ble_eq_true rfl) (am_s1_3 rfl) ?_
  refine g_k (n := 0) t83_2 rfl rfl ?_
  refine g_is t83_3 (Nat.le_of_ble_eq_true rfl) (am_s1_4 rfl) ?_
  exact L P 0 (by omega)
theorem c85 (hF : Fx s) (hP : ri s 19 0 = nI P) (hP5 : P ≤ 5) (hp : CRp P s) (hc : c < mn P ∨ P = 0) (hq : Q (some (.int (nI (dg P c)))) (mR s)) : gE X (d + 2) 85 [.ref 19, .int (nI c)] (mR s) Q := by
  have L : ∀ k q : Nat, q + k = P → gG X (d + 2) 85 4 [.ref 19, .int (nI c), .int (nI (dgu P c q)), .int (nI q)] [] (mR s) Q := by
    intro k
    induction k with
    | zero =>
      intro q hk
      have hk : q = P := by omega
      subst hk
      refine g_p t85_4 rfl ?_
      refine g_p t85_5 rfl ?_
      refine r_gete t85_6 (f19 hF) rfl rfl hP ?_
      refine n_cge t85_9 (by omega) (by omega) (fun h9 => ?_) (fun h9 => ?_)
      · refine g_p t85_30 rfl ?_
        exact i_ret t85_31 rfl hq
      · exfalso; omega
    | succ k ih =>
      intro q hk
      have hqP : q < P := by omega
      have hc : c < mn P := by rcases hc with h | h <;> omega
      refine g_p t85_4 rfl ?_
      refine g_p t85_5 rfl ?_
      refine r_gete t85_6 (f19 hF) rfl rfl hP ?_
      refine n_cge t85_9 (by omega) (by omega) (fun h9 => ?_) (fun h9 => ?_)
      · exfalso; omega
      · refine g_p t85_12 rfl ?_
        refine g_k (n := 10) t85_13 rfl rfl ?_
        refine g_muln t85_15 ?_
        refine g_p t85_16 rfl ?_
        refine g_p t85_17 rfl ?_
        refine g_p t85_18 rfl ?_
        refine r_cv t85_19 (f19 hF) rfl ?_
        refine c77 (by exact hF) (c5q hP5 hc hqP) (hp c q hc hqP) ?_
        refine k_v ?_ rfl
        refine g_addn t85_22 ?_
        refine g_isn t85_23 (Nat.le_of_ble_eq_true rfl) (am_s1_2 rfl) ?_
        refine g_incn (n := 1) t85_24 rfl rfl (Nat.le_of_ble_eq_true rfl) (am_s1_3 rfl) ?_
        refine g_goto t85_27 ?_
        exact ih (q + 1) (by omega)
  refine en85 rfl rfl ?_
  refine g_k (n := 0) t85_0 rfl rfl ?_
  refine g_isn t85_1 (Nat.le_of_ble_eq_true rfl) (am_s1_2 rfl) ?_
  refine g_k (n := 0) t85_2 rfl rfl ?_
  refine g_isn t85_3 (Nat.le_of_ble_eq_true rfl) (am_s1_3 rfl) ?_
  exact L P 0 (by omega)
theorem c84n (hF : Fx s) (hP : ri s 19 0 = nI P) (hP0 : 0 < P) (hP5 : P ≤ 5) (hw : CRw P s) {v : Nat} (hv : v < 2 ^ 31) (hq : Q (some (.int (coI (cdu P P v 0)))) (mR s)) : gE X (d + 1) 84 [.ref 19, .int (nI v)] (mR s) Q := by
  have L : ∀ m, m ≤ P → ∀ u a : Nat, u < 2 ^ 31 → ∀ z, Q (some (.int (coI (cdu P m u a)))) (mR s) → gG X (d + 1) 84 25 [.ref 19, .int (nI v), .int (nI a), .int (nI u), .int (pm m), z] [] (mR s) Q := by
    intro m
    induction m with
    | zero =>
      intro hm u a hu z hq
      show gG X (d + 1) 84 25 [.ref 19, .int (nI v), .int (nI a), .int (nI u), .int (-1), z] [] (mR s) Q
      refine g_p t84_25 rfl ?_
      refine g_lt t84_27 (fun h27 => ?_) (fun h27 => ?_)
      · refine g_p t84_70 rfl ?_
        refine n_ne t84_71 (by omega) (fun h71 => ?_) (fun h71 => ?_)
        · refine g_p t84_78 rfl ?_
          exact i_ret t84_79 (by unfold cdu; rw [if_neg h71]; rfl) hq
        · refine g_p t84_74 rfl ?_
          refine g_goto t84_75 ?_
          exact i_ret t84_79 (by unfold cdu; rw [if_pos h71]; rfl) hq
      · exact absurd (by decide) h27
    | succ m ih =>
      intro hm u a hu z hq
      show gG X (d + 1) 84 25 [.ref 19, .int (nI v), .int (nI a), .int (nI u), .int (nI m), z] [] (mR s) Q
      unfold cdu at hq
      refine g_p t84_25 rfl ?_
      refine n_lt t84_27 (by omega) ?_
      refine g_p t84_30 rfl ?_
      refine g_k (n := 10) t84_31 rfl rfl ?_
      refine g_remn t84_33 (by omega) (by omega) (by omega) ?_
      refine g_is t84_34 (Nat.le_of_ble_eq_true rfl) (am_s1_5 rfl) ?_
      refine g_p t84_36 rfl ?_
      refine g_k (n := 2) t84_38 rfl rfl ?_
      refine n_cle t84_39 (by omega) (by omega) (fun h39 => ?_) (fun h39 => ?_)
      · rw [if_neg (by omega)] at hq
        refine g_p t84_44 rfl ?_
        refine g_p t84_45 rfl ?_
        refine g_p t84_47 rfl ?_
        refine r_getr t84_48 (f19 hF) rfl rfl ?_
        refine g_p t84_51 rfl ?_
        refine r_cv t84_53 (f22 hF) rfl ?_
        refine c30e (by exact fN22 hF) (by omega) (hw m (by omega)) ?_
        refine k_v ?_ rfl
        refine g_muln t84_56 ?_
        refine g_addn t84_57 ?_
        refine g_isn t84_58 (Nat.le_of_ble_eq_true rfl) (am_s1_2 rfl) ?_
        refine g_p t84_59 rfl ?_
        refine g_k (n := 10) t84_60 rfl rfl ?_
        refine g_divn t84_62 (by omega) (by omega) (by omega) ?_
        refine g_isn t84_63 (Nat.le_of_ble_eq_true rfl) (am_s1_3 rfl) ?_
        refine g_inc t84_64 rfl (Nat.le_of_ble_eq_true rfl) (am_s1_4 rfl) ?_
        refine g_goto t84_67 ?_
        rw [pm_s]
        exact ih (by omega) _ _ (by omega) _ hq
      · refine g_p t84_42 rfl ?_
        exact i_ret t84_43 (by rw [if_pos (by omega)]; rfl) hq
  refine en84 rfl rfl ?_
  refine g_p t84_0 rfl ?_
  refine r_gete t84_1 (f19 hF) rfl rfl hP ?_
  refine n_eq t84_4 (by omega) (fun h4 => ?_) (fun h4 => ?_)
  · exfalso; omega
  · refine g_p t84_7 rfl ?_
    refine n_ge t84_8 (by omega) ?_
    refine g_k (n := 0) t84_13 rfl rfl ?_
    refine g_isn t84_14 (Nat.le_of_ble_eq_true rfl) (am_s1_2 rfl) ?_
    refine g_p t84_15 rfl ?_
    refine g_isn t84_16 (Nat.le_of_ble_eq_true rfl) (am_s1_3 rfl) ?_
    refine g_p t84_17 rfl ?_
    refine r_gete t84_18 (f19 hF) rfl rfl hP ?_
    refine g_k (n := 1) t84_21 rfl rfl ?_
    refine g_isub t84_22 ?_
    rw [pm_p]
    refine g_is t84_23 (Nat.le_of_ble_eq_true rfl) (am_s1_4 rfl) ?_
    exact L P (Nat.le_refl _) v 0 hv _ hq
theorem c84 (hF : Fx s) (hP : ri s 19 0 = nI P) (hP5 : P ≤ 5) (hw : CRw P s) {x : Int32} (hq : Q (some (.int (cdI P x))) (mR s)) : gE X (d + 1) 84 [.ref 19, .int x] (mR s) Q := by
  by_cases hx : x < 0
  · rw [cdI, if_pos hx] at hq
    refine en84 rfl rfl ?_
    refine g_p t84_0 rfl ?_
    refine r_gete t84_1 (f19 hF) rfl rfl hP ?_
    refine n_eq t84_4 (by omega) (fun h4 => ?_) (fun h4 => ?_)
    · refine g_p t84_11 rfl ?_
      exact i_ret t84_12 rfl hq
    · refine g_p t84_7 rfl ?_
      refine g_ge t84_8 (fun h8 => ?_) (fun h8 => ?_)
      · exact absurd (Int32.lt_of_lt_of_le hx h8) (by simp)
      · refine g_p t84_11 rfl ?_
        exact i_ret t84_12 rfl hq
  · rcases Nat.eq_zero_or_pos P with h0 | h0
    · have e : cdI P x = -1 := by rw [cdI, if_neg hx, cd, if_pos h0]; rfl
      rw [e] at hq
      refine en84 rfl rfl ?_
      refine g_p t84_0 rfl ?_
      refine r_gete t84_1 (f19 hF) rfl rfl hP ?_
      refine n_eq t84_4 (by omega) (fun h4 => ?_) (fun h4 => ?_)
      · refine g_p t84_11 rfl ?_
        exact i_ret t84_12 rfl hq
      · exact absurd h0 h4
    · rw [cdI, if_neg hx, cd, if_neg (by omega)] at hq
      rw [nI_n hx]
      exact c84n hF hP h0 hP5 hw (cl_lt x) hq
end RO
