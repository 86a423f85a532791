/-! THE REFERENCE, 1: its rows -/
/-- the same but for ints of the cells A and the fields B of the reference -/
def FM (A B : List Nat) (s s' : mM) : Prop := Fr (80 :: A) s s' ∧ ∀ i, i ∉ B → ri s' 80 i = ri s 80 i
theorem FM.rf {A B : List Nat} {s : mM} : FM A B s s := ⟨Fr.rf, fun _ _ => rfl⟩
theorem FM.tr {A B : List Nat} {s s' s'' : mM} (h : FM A B s s') (h2 : FM A B s' s'') : FM A B s s'' := ⟨h.1.tr h2.1, fun i hi => (h2.2 i hi).trans (h.2 i hi)⟩
theorem FM.mono {A B A2 B2 : List Nat} {s s' : mM} (h : FM A B s s') (hA : ∀ p ∈ A, p ∈ A2) (hB : ∀ p ∈ B, p ∈ B2) : FM A2 B2 s s' := ⟨h.1.mono (fun p hp => by
  rcases List.mem_cons.mp hp with rfl | hp
  · exact List.mem_cons_self
  · exact List.mem_cons_of_mem _ (hA p hp)), fun i hi => h.2 i (fun h3 => hi (hB i h3))⟩
theorem FM.w {A B : List Nat} {s s' : mM} {p i : Nat} {v : Int32} (h : FM A B s s') (hp : p ∈ A) (hn : p ≠ 80) : FM A B s (wi s' p i v) := ⟨h.1.wi (List.mem_cons_of_mem _ hp), fun j hj => (ri_wi_ne (fun e => hn e.symm)).trans (h.2 j hj)⟩
theorem FM.wv {A B : List Nat} {s s' : mM} {p : Nat} {f : Nat → Int32} (h : FM A B s s') (hp : p ∈ A) (hn : p ≠ 80) : FM A B s (wf s' p f) := ⟨h.1.wf (List.mem_cons_of_mem _ hp), fun j hj => by
  have e : ri (wf s' p f) 80 j = ri s' 80 j := by rw [ri_wf, if_neg (fun e => hn e.symm)]
  exact e.trans (h.2 j hj)⟩
theorem FM.m {A B : List Nat} {s s' : mM} {i : Nat} {v : Int32} (h : FM A B s s') (hi : i ∈ B) : FM A B s (wi s' 80 i v) := ⟨h.1.wi List.mem_cons_self, fun j hj => (ri_wi_j (fun e => hj (by rw [e]; exact hi))).trans (h.2 j hj)⟩
theorem FM.f {A B : List Nat} {s s' : mM} (h : FM A B s s') {i : Nat} (hi : i ∉ B) : ri s' 80 i = ri s 80 i := h.2 i hi
theorem FM.g {A B : List Nat} {s s' : mM} (h : FM A B s s') {p i : Nat} (hp : p ∉ 80 :: A) : ri s' p i = ri s p i := h.1.ri hp
def isR (a b x : Int32) : Bool := decide (a ≤ x) && decide (x ≤ b)
theorem le64 {x y : Int32} : x.toInt64 ≤ y.toInt64 ↔ x ≤ y := by rw [Int64.le_iff_toInt_le, Int32.le_iff_toInt_le, Int32.toInt_toInt64, Int32.toInt_toInt64]
theorem isR_inN {n : Nat} {x : Int32} (h : n + 1 < 2 ^ 31) : isR 0 (nI n) x = inN (n + 1) x := by
  by_cases hx : x < 0
  · rw [inN_f1 hx]; unfold isR; rw [decide_eq_false (Int32.not_le.mpr hx)]; rfl
  · obtain ⟨j, hj, rfl⟩ := nI_of hx
    unfold isR
    rw [decide_eq_true (Int32.not_lt.mp hx), Bool.true_and]
    by_cases h2 : j < n + 1
    · rw [inN_n h2 h, decide_eq_true]
      exact Int32.not_lt.mp (fun h3 => by have := (nI_ltI (by omega) hj).mp h3; omega)
    · rw [inN_f2 (Int32.not_lt.mp (fun h3 => h2 ((nI_ltI hj h).mp h3))), decide_eq_false]
      intro h3
      have := (nI_ltI (show n < 2 ^ 31 by omega) hj).mpr (by omega)
      exact Int32.not_le.mpr this h3
theorem wth_sum {P a m d : Nat} (h : a < 3 ^ (P - (m + 1))) : wth P a m d = a + d * wt P m := by
  have e : P - 1 - m = P - (m + 1) := by omega
  have : pt P a m = 0 := by unfold pt wt; rw [e, Nat.div_eq_of_lt h]
  unfold wth
  rw [this, Nat.zero_mul, Nat.sub_zero]
section RF
variable {X : am_X} {d y pc nx : Nat} {ls st : List Value} {s : mM} {Q : Option Value → am_H → Prop} {i : ClassFile.Instr} {r : List Nat} {k : Value} {p n m q : Nat} {a : Int32} {f0 : Nat → Int32} {g0 : Nat → Int64}
theorem r_iale (t : am_T y pc = some (2, .iaload, nx, [], k)) (h : s.1 p = .inl (0, n, .inl f0)) (hn : n ≤ 65536) (hq : q < n) (e : ri s p q = a) (g : gG X d y nx ls (.int a :: st) (mR s) Q) : gG X d y pc ls (.int (nI q) :: .ref p :: st) (mR s) Q := r_iald t h hn hq (by rw [e]; exact g)
theorem r_bale (t : am_T y pc = some (2, .baload, nx, [], k)) (h : s.1 p = .inl (m, n, .inl f0)) (hm : m = 1 ∨ m = 2) (hn : n ≤ 65536) (hq : q < n) (e : ri s p q = a) (g : gG X d y nx ls (.int a :: st) (mR s) Q) : gG X d y pc ls (.int (nI q) :: .ref p :: st) (mR s) Q := r_bald t h hm hn hq (by rw [e]; exact g)
end RF
section RG
variable {X : am_X} {d : Nat} {s : mM} {hp : am_H} {Q : Option Value → am_H → Prop} {P c q v r w n : Nat} {x : Int32} {u lo hi : Int64}
theorem c176 (hq : Q (some (.int (bI (decide (lo ≤ u) && decide (u ≤ hi))))) hp) : gE X d 176 [.long u, .long lo, .long hi] hp Q := by
  refine en176 ?_
  refine g_p t176_0 rfl ?_
  refine g_p t176_1 rfl ?_
  refine g_p t176_2 rfl ?_
  refine g_lt t176_3 (fun h3 => ?_) (fun h3 => ?_)
  · refine g_k (n := 0) t176_17 rfl rfl ?_
    exact b_ret t176_18 (by first | (rw [decide_eq_false (show ¬ lo ≤ u from fun h => absurd ((lg_cmp_lt _ _).mp h3) (Int64.not_lt.mpr h))]; rfl) | (rw [decide_eq_true (show lo ≤ u from Int64.not_lt.mp (fun h => h3 ((lg_cmp_lt _ _).mpr h))), decide_eq_false (show ¬ u ≤ hi from fun h => absurd ((lg_cmp_gt _ _).mp h10) (Int64.not_lt.mpr h))]; rfl) | (rw [decide_eq_true (show lo ≤ u from Int64.not_lt.mp (fun h => h3 ((lg_cmp_lt _ _).mpr h))), decide_eq_true (show u ≤ hi from Int64.not_lt.mp (fun h => h10 ((lg_cmp_gt _ _).mpr h)))]; rfl)) hq
  · refine g_p t176_6 rfl ?_
    refine g_p t176_7 rfl ?_
    refine g_p t176_9 rfl ?_
    refine g_gt t176_10 (fun h10 => ?_) (fun h10 => ?_)
    · refine g_k (n := 0) t176_17 rfl rfl ?_
      exact b_ret t176_18 (by first | (rw [decide_eq_false (show ¬ lo ≤ u from fun h => absurd ((lg_cmp_lt _ _).mp h3) (Int64.not_lt.mpr h))]; rfl) | (rw [decide_eq_true (show lo ≤ u from Int64.not_lt.mp (fun h => h3 ((lg_cmp_lt _ _).mpr h))), decide_eq_false (show ¬ u ≤ hi from fun h => absurd ((lg_cmp_gt _ _).mp h10) (Int64.not_lt.mpr h))]; rfl) | (rw [decide_eq_true (show lo ≤ u from Int64.not_lt.mp (fun h => h3 ((lg_cmp_lt _ _).mpr h))), decide_eq_true (show u ≤ hi from Int64.not_lt.mp (fun h => h10 ((lg_cmp_gt _ _).mpr h)))]; rfl)) hq
    · refine g_k (n := 1) t176_13 rfl rfl ?_
      refine g_goto t176_14 ?_
      exact b_ret t176_18 (by first | (rw [decide_eq_false (show ¬ lo ≤ u from fun h => absurd ((lg_cmp_lt _ _).mp h3) (Int64.not_lt.mpr h))]; rfl) | (rw [decide_eq_true (show lo ≤ u from Int64.not_lt.mp (fun h => h3 ((lg_cmp_lt _ _).mpr h))), decide_eq_false (show ¬ u ≤ hi from fun h => absurd ((lg_cmp_gt _ _).mp h10) (Int64.not_lt.mpr h))]; rfl) | (rw [decide_eq_true (show lo ≤ u from Int64.not_lt.mp (fun h => h3 ((lg_cmp_lt _ _).mpr h))), decide_eq_true (show u ≤ hi from Int64.not_lt.mp (fun h => h10 ((lg_cmp_gt _ _).mpr h)))]; rfl)) hq
theorem c176i {a b : Int32} (ha : lo = a.toInt64) (hb : hi = b.toInt64) (hq : Q (some (.int (bI (isR a b x)))) hp) : gE X d 176 [.long x.toInt64, .long lo, .long hi] hp Q := by
  refine c176 ?_
  rw [ha, hb, decide_eq_decide.mpr le64, decide_eq_decide.mpr le64]
  exact hq
theorem c237 (hq : Q (some (.int (bI (isL x)))) hp) : gE X (d + 1) 237 [.int x] hp Q := by
  refine en237 rfl ?_
  refine g_p t237_0 rfl ?_
  refine g_p t237_1 rfl ?_
  refine g_p t237_2 rfl ?_
  refine g_p t237_3 rfl ?_
  refine g_cs t237_6 rfl rfl rfl ?_
  refine c176i (a := 0) (b := 7) rfl rfl ?_
  refine k_v ?_ rfl
  exact b_ret t237_9 (by unfold isL; rw [show (7 : Int32) = nI 7 from rfl, isR_inN (by decide)]) hq
theorem c209 (hF : Fx s) (m0 : ri s 80 20 = nI P) (hP5 : P ≤ 5) (hP0 : 0 < P) (hq : Q (some (.int (nI (mn P)))) (mR s)) : gE X d 209 [.ref 80] (mR s) Q := by
  have hm : mn P = 3 ^ P := if_neg (by omega)
  rw [hm] at hq
  have L : ∀ k q : Nat, q + k = P → gG X d 209 4 [.ref 80, .int (nI (3 ^ q)), .int (nI q)] [] (mR s) Q := by
    intro k
    induction k with
    | zero =>
      intro q hk
      have hk : q = P := by omega
      subst hk
      refine g_p t209_4 rfl ?_
      refine g_p t209_5 rfl ?_
      refine r_gete t209_6 (f80 hF) rfl rfl m0 ?_
      refine n_cge t209_9 (by omega) (by omega) (fun h9 => ?_) (fun h9 => ?_)
      · refine g_p t209_22 rfl ?_
        exact i_ret t209_23 rfl hq
      · exfalso; omega
    | succ k ih =>
      intro q hk
      refine g_p t209_4 rfl ?_
      refine g_p t209_5 rfl ?_
      refine r_gete t209_6 (f80 hF) rfl rfl m0 ?_
      refine n_cge t209_9 (by omega) (by omega) (fun h9 => ?_) (fun h9 => ?_)
      · exfalso; omega
      · refine g_p t209_12 rfl ?_
        refine g_k (n := 3) t209_13 rfl rfl ?_
        refine g_muln t209_14 ?_
        refine g_isn t209_15 (Nat.le_of_ble_eq_true rfl) (am_s1_1 rfl) ?_
        refine g_incn (n := 1) t209_16 rfl rfl (Nat.le_of_ble_eq_true rfl) (am_s1_2 rfl) ?_
        refine g_goto t209_19 ?_
        have := ih (q + 1) (by omega)
        rw [Nat.pow_succ] at this
        exact this
  refine en209 rfl ?_
  refine g_k (n := 1) t209_0 rfl rfl ?_
  refine g_isn t209_1 (Nat.le_of_ble_eq_true rfl) (am_s1_1 rfl) ?_
  refine g_k (n := 0) t209_2 rfl rfl ?_
  refine g_isn t209_3 (Nat.le_of_ble_eq_true rfl) (am_s1_2 rfl) ?_
  exact L P 0 (by omega)
theorem c210 (hF : Fx s) (m0 : ri s 80 20 = nI P) (hP5 : P ≤ 5) (hqP : q < P) (hq : Q (some (.int (nI (wt P q)))) (mR s)) : gE X d 210 [.ref 80, .int (nI q)] (mR s) Q := by
  have L : ∀ k : Nat, q + k < P → gG X d 210 9 [.ref 80, .int (nI q), .int (nI (3 ^ (P - 1 - (q + k)))), .int (nI (q + k))] [] (mR s) Q := by
    intro k
    induction k with
    | zero =>
      intro hk
      refine g_p t210_9 rfl ?_
      refine g_p t210_10 rfl ?_
      refine n_cle t210_11 (by omega) (by omega) (fun h11 => ?_) (fun h11 => ?_)
      · refine g_p t210_24 rfl ?_
        exact i_ret t210_25 rfl hq
      · exfalso; omega
    | succ k ih =>
      intro hk
      have e : P - 1 - (q + k) = P - 1 - (q + (k + 1)) + 1 := by omega
      have ih := ih (by omega)
      rw [e, Nat.pow_succ] at ih
      refine g_p t210_9 rfl ?_
      refine g_p t210_10 rfl ?_
      refine n_cle t210_11 (by omega) (by omega) (fun h11 => ?_) (fun h11 => ?_)
      · exfalso; omega
      · refine g_p t210_14 rfl ?_
        refine g_k (n := 3) t210_15 rfl rfl ?_
        refine g_muln t210_16 ?_
        refine g_isn t210_17 (Nat.le_of_ble_eq_true rfl) (am_s1_2 rfl) ?_
        refine g_decn t210_18 rfl rfl (Nat.le_of_ble_eq_true rfl) (am_s1_3 rfl) ?_
        refine g_goto t210_21 ?_
        exact ih
  refine en210 rfl rfl ?_
  refine g_k (n := 1) t210_0 rfl rfl ?_
  refine g_isn t210_1 (Nat.le_of_ble_eq_true rfl) (am_s1_2 rfl) ?_
  refine g_p t210_2 rfl ?_
  refine r_gete t210_3 (f80 hF) rfl rfl m0 ?_
  refine g_k (n := 1) t210_6 rfl rfl ?_
  refine g_subn t210_7 (by omega) ?_
  refine g_isn t210_8 (Nat.le_of_ble_eq_true rfl) (am_s1_3 rfl) ?_
  have := L (P - 1 - q) (by omega)
  rw [show q + (P - 1 - q) = P - 1 by omega, Nat.sub_self] at this
  exact this
theorem c211 (hF : Fx s) (m0 : ri s 80 20 = nI P) (hP5 : P ≤ 5) (hc : c < 243) (hqP : q < P) (hq : Q (some (.int (nI (pt P c q)))) (mR s)) : gE X (d + 1) 211 [.ref 80, .int (nI c), .int (nI q)] (mR s) Q := by
  have hw := wt_le (q := q) hP5
  have hw0 := wt_pos P q
  have hd : c / wt P q ≤ c := Nat.div_le_self _ _
  refine en211 rfl rfl rfl ?_
  refine g_p t211_0 rfl ?_
  refine g_p t211_1 rfl ?_
  refine g_p t211_2 rfl ?_
  refine r_cv t211_3 (f80 hF) rfl ?_
  refine c210 (by exact hF) (by exact m0) hP5 hqP ?_
  refine k_v ?_ rfl
  refine g_divn t211_6 (by omega) (by omega) (by omega) ?_
  refine g_k (n := 3) t211_7 rfl rfl ?_
  refine g_remn t211_8 (by omega) (by omega) (by omega) ?_
  exact i_ret t211_9 rfl hq
theorem c212 (hF : Fx s) (m0 : ri s 80 20 = nI P) (hP5 : P ≤ 5) (hc : c < 243) (hqP : q < P) (hq : Q (some (.int (nI (wth P c q v)))) (mR s)) : gE X (d + 2) 212 [.ref 80, .int (nI c), .int (nI q), .int (nI v)] (mR s) Q := by
  refine en212 rfl rfl rfl rfl ?_
  refine g_p t212_0 rfl ?_
  refine g_p t212_1 rfl ?_
  refine g_p t212_2 rfl ?_
  refine g_p t212_3 rfl ?_
  refine g_p t212_4 rfl ?_
  refine r_cv t212_5 (f80 hF) rfl ?_
  refine c211 (by exact hF) (by exact m0) hP5 (by omega) (by omega) ?_
  refine k_v ?_ rfl
  refine g_isub t212_8 ?_
  refine g_p t212_9 rfl ?_
  refine g_p t212_10 rfl ?_
  refine r_cv t212_11 (f80 hF) rfl ?_
  refine c210 (by exact hF) (by exact m0) hP5 (by omega) ?_
  refine k_v ?_ rfl
  refine g_imul t212_14 ?_
  refine g_iadd t212_15 ?_
  exact i_ret t212_16 (i_wth (pt_wt_le P c q)) hq
theorem c213 (hF : Fx s) (m0 : ri s 80 20 = nI P) (hP5 : P ≤ 5) (hc : c < 243) {k : Nat} (hk : k < 3) (hq : Q (some (.int (nI (cn P c k)))) (mR s)) : gE X (d + 2) 213 [.ref 80, .int (nI c), .int (nI k)] (mR s) Q := by
  have L : ∀ j q : Nat, q + j = P → gG X (d + 2) 213 5 [.ref 80, .int (nI c), .int (nI k), .int (nI (sm (fun q => one (pt P c q == k)) q)), .int (nI q)] [] (mR s) Q := by
    intro j
    induction j with
    | zero =>
      intro q hk
      have hk : q = P := by omega
      subst hk
      refine g_p t213_5 rfl ?_
      refine g_p t213_7 rfl ?_
      refine r_gete t213_8 (f80 hF) rfl rfl m0 ?_
      refine n_cge t213_11 (by omega) (by omega) (fun h11 => ?_) (fun h11 => ?_)
      · refine g_p t213_39 rfl ?_
        exact i_ret t213_40 rfl hq
      · exfalso; omega
    | succ j ih =>
      intro q hk
      have hpt := pt_lt P c q
      have ih := ih (q + 1) (by omega)
      rw [sm_succ] at ih
      refine g_p t213_5 rfl ?_
      refine g_p t213_7 rfl ?_
      refine r_gete t213_8 (f80 hF) rfl rfl m0 ?_
      refine n_cge t213_11 (by omega) (by omega) (fun h11 => ?_) (fun h11 => ?_)
      · exfalso; omega
      · refine g_p t213_14 rfl ?_
        refine g_p t213_15 rfl ?_
        refine g_p t213_16 rfl ?_
        refine g_p t213_17 rfl ?_
        refine r_cv t213_19 (f80 hF) rfl ?_
        refine c211 (by exact hF) (by exact m0) hP5 (by omega) (by omega) ?_
        refine k_v ?_ rfl
        refine g_p t213_22 rfl ?_
        refine n_cne t213_23 (by omega) (by omega) (fun h23 => ?_) (fun h23 => ?_)
        · refine g_k (n := 0) t213_30 rfl rfl ?_
          refine g_addn t213_31 ?_
          refine g_isn t213_32 (Nat.le_of_ble_eq_true rfl) (am_s1_3 rfl) ?_
          refine g_incn (n := 1) t213_33 rfl rfl (Nat.le_of_ble_eq_true rfl) (am_s1_4 rfl) ?_
          refine g_goto t213_36 ?_
          first
            | (rw [one0 h23] at ih; exact ih)
            | (rw [one1 h23] at ih; exact ih)
        · refine g_k (n := 1) t213_26 rfl rfl ?_
          refine g_goto t213_27 ?_
          refine g_addn t213_31 ?_
          refine g_isn t213_32 (Nat.le_of_ble_eq_true rfl) (am_s1_3 rfl) ?_
          refine g_incn (n := 1) t213_33 rfl rfl (Nat.le_of_ble_eq_true rfl) (am_s1_4 rfl) ?_
          refine g_goto t213_36 ?_
          first
            | (rw [one0 h23] at ih; exact ih)
            | (rw [one1 h23] at ih; exact ih)
  refine en213 rfl rfl rfl ?_
  refine g_k (n := 0) t213_0 rfl rfl ?_
  refine g_isn t213_1 (Nat.le_of_ble_eq_true rfl) (am_s1_3 rfl) ?_
  refine g_k (n := 0) t213_2 rfl rfl ?_
  refine g_is t213_3 (Nat.le_of_ble_eq_true rfl) (am_s1_4 rfl) ?_
  exact L P 0 (by omega)
theorem c214 (hF : Fx s) (m0 : ri s 80 20 = nI P) (hP5 : P ≤ 5) (p1 : ri s 85 1 = nI r) (p2 : ri s 85 2 = nI w) (hr5 : r ≤ 5) (hw5 : w ≤ 5) (hc : c < mn P) (hq : Q (some (.int (bI (std P r w c)))) (mR s)) : gE X (d + 3) 214 [.ref 80, .int (nI c)] (mR s) Q := by
  have hm := mn_le hP5
  have hn1 := cn_le P c 1
  have hn2 := cn_le P c 2
  refine en214 rfl rfl ?_
  refine g_p t214_0 rfl ?_
  refine g_p t214_1 rfl ?_
  refine g_k (n := 1) t214_2 rfl rfl ?_
  refine r_cv t214_3 (f80 hF) rfl ?_
  refine c213 (by exact hF) (by exact m0) hP5 (by omega) (by omega) ?_
  refine k_v ?_ rfl
  refine g_p t214_6 rfl ?_
  refine r_getr t214_7 (f80 hF) rfl rfl ?_
  refine g_k (n := 1) t214_10 rfl rfl ?_
  refine r_iald t214_11 (f85 hF) (by decide) (by omega) ?_
  rw [p1]
  refine n_cgt t214_12 (by omega) (by omega) (fun h12 => ?_) (fun h12 => ?_)
  · refine g_k (n := 0) t214_34 rfl rfl ?_
    exact b_ret t214_35 (by first | (rw [std_f2 (by omega)]; rfl) | (rw [std_f3 (by omega)]; rfl) | (rw [std_of hc (by omega) (by omega)]; rfl)) hq
  · refine g_p t214_15 rfl ?_
    refine g_p t214_16 rfl ?_
    refine g_k (n := 2) t214_17 rfl rfl ?_
    refine r_cv t214_18 (f80 hF) rfl ?_
    refine c213 (by exact hF) (by exact m0) hP5 (by omega) (by omega) ?_
    refine k_v ?_ rfl
    refine g_p t214_21 rfl ?_
    refine r_getr t214_22 (f80 hF) rfl rfl ?_
    refine g_k (n := 2) t214_25 rfl rfl ?_
    refine r_iald t214_26 (f85 hF) (by decide) (by omega) ?_
    rw [p2]
    refine n_cgt t214_27 (by omega) (by omega) (fun h27 => ?_) (fun h27 => ?_)
    · refine g_k (n := 0) t214_34 rfl rfl ?_
      exact b_ret t214_35 (by first | (rw [std_f2 (by omega)]; rfl) | (rw [std_f3 (by omega)]; rfl) | (rw [std_of hc (by omega) (by omega)]; rfl)) hq
    · refine g_k (n := 1) t214_30 rfl rfl ?_
      refine g_goto t214_31 ?_
      exact b_ret t214_35 (by first | (rw [std_f2 (by omega)]; rfl) | (rw [std_f3 (by omega)]; rfl) | (rw [std_of hc (by omega) (by omega)]; rfl)) hq
theorem c215 (hF : Fx s) (m0 : ri s 80 20 = nI P) (hP5 : P ≤ 5) (hc : c < 243) (hq : Q (some (.int (nI (dg P c)))) (mR s)) : gE X (d + 2) 215 [.ref 80, .int (nI c)] (mR s) Q := by
  have L : ∀ k q : Nat, q + k = P → gG X (d + 2) 215 4 [.ref 80, .int (nI c), .int (nI (dgu P c q)), .int (nI q)] [] (mR s) Q := by
    intro k
    induction k with
    | zero =>
      intro q hk
      have hk : q = P := by omega
      subst hk
      refine g_p t215_4 rfl ?_
      refine g_p t215_5 rfl ?_
      refine r_gete t215_6 (f80 hF) rfl rfl m0 ?_
      refine n_cge t215_9 (by omega) (by omega) (fun h9 => ?_) (fun h9 => ?_)
      · refine g_p t215_30 rfl ?_
        exact i_ret t215_31 rfl hq
      · exfalso; omega
    | succ k ih =>
      intro q hk
      have ih := ih (q + 1) (by omega)
      unfold dgu at ih
      rw [Nat.mul_comm] at ih
      refine g_p t215_4 rfl ?_
      refine g_p t215_5 rfl ?_
      refine r_gete t215_6 (f80 hF) rfl rfl m0 ?_
      refine n_cge t215_9 (by omega) (by omega) (fun h9 => ?_) (fun h9 => ?_)
      · exfalso; omega
      · refine g_k (n := 10) t215_12 rfl rfl ?_
        refine g_p t215_14 rfl ?_
        refine g_muln t215_15 ?_
        refine g_p t215_16 rfl ?_
        refine g_p t215_17 rfl ?_
        refine g_p t215_18 rfl ?_
        refine r_cv t215_19 (f80 hF) rfl ?_
        refine c211 (by exact hF) (by exact m0) hP5 (by omega) (by omega) ?_
        refine k_v ?_ rfl
        refine g_addn t215_22 ?_
        refine g_isn t215_23 (Nat.le_of_ble_eq_true rfl) (am_s1_2 rfl) ?_
        refine g_incn (n := 1) t215_24 rfl rfl (Nat.le_of_ble_eq_true rfl) (am_s1_3 rfl) ?_
        refine g_goto t215_27 ?_
        exact ih
  refine en215 rfl rfl ?_
  refine g_k (n := 0) t215_0 rfl rfl ?_
  refine g_isn t215_1 (Nat.le_of_ble_eq_true rfl) (am_s1_2 rfl) ?_
  refine g_k (n := 0) t215_2 rfl rfl ?_
  refine g_isn t215_3 (Nat.le_of_ble_eq_true rfl) (am_s1_3 rfl) ?_
  exact L P 0 (by omega)
theorem c216n (hF : Fx s) (m0 : ri s 80 20 = nI P) (hP0 : 0 < P) (hP5 : P ≤ 5) {v : Nat} (hv : v < 2 ^ 31) (hq : Q (some (.int (coI (cdu P P v 0)))) (mR s)) : gE X (d + 3) 216 [.ref 80, .int (nI v)] (mR s) Q := by
  have L : ∀ m, m ≤ P → ∀ u a : Nat, u < 2 ^ 31 → a < 3 ^ (P - m) → Q (some (.int (coI (cdu P m u a)))) (mR s) → gG X (d + 3) 216 25 [.ref 80, .int (nI v), .int (nI u), .int (nI a), .int (pm m)] [] (mR s) Q := by
    intro m
    induction m with
    | zero =>
      intro hm u a hu ha hq
      show gG X (d + 3) 216 25 [.ref 80, .int (nI v), .int (nI u), .int (nI a), .int (-1)] [] (mR s) Q
      refine g_p t216_25 rfl ?_
      refine g_lt t216_27 (fun h27 => ?_) (fun h27 => ?_)
      · refine g_p t216_63 rfl ?_
        refine n_ne t216_64 (by omega) (fun h64 => ?_) (fun h64 => ?_)
        · refine g_p t216_71 rfl ?_
          exact i_ret t216_72 (by unfold cdu; first | (rw [if_pos h64]; rfl) | (rw [if_neg h64]; rfl)) hq
        · refine g_p t216_67 rfl ?_
          refine g_goto t216_68 ?_
          exact i_ret t216_72 (by unfold cdu; first | (rw [if_pos h64]; rfl) | (rw [if_neg h64]; rfl)) hq
      · exact absurd (by decide) h27
    | succ m ih =>
      intro hm u a hu ha hq
      show gG X (d + 3) 216 25 [.ref 80, .int (nI v), .int (nI u), .int (nI a), .int (nI m)] [] (mR s) Q
      unfold cdu at hq
      have ha3 : a < 243 := Nat.lt_of_lt_of_le ha (Nat.le_trans (Nat.pow_le_pow_right (by decide) (show P - (m + 1) ≤ 5 by omega)) (by decide))
      have e : P - m = P - (m + 1) + 1 := by omega
      have ep : 3 ^ (P - m) = 3 ^ (P - (m + 1)) * 3 := by rw [e, Nat.pow_succ]
      have ew : wt P m = 3 ^ (P - (m + 1)) := by unfold wt; rw [show P - 1 - m = P - (m + 1) by omega]
      refine g_p t216_25 rfl ?_
      refine n_lt t216_27 (by omega) ?_
      refine g_p t216_30 rfl ?_
      refine g_k (n := 10) t216_31 rfl rfl ?_
      refine g_remn t216_33 (by omega) (by omega) (by omega) ?_
      refine g_k (n := 2) t216_34 rfl rfl ?_
      refine n_cle t216_35 (by omega) (by omega) (fun h35 => ?_) (fun h35 => ?_)
      · rw [if_neg (by omega)] at hq
        refine g_p t216_40 rfl ?_
        refine g_p t216_41 rfl ?_
        refine g_p t216_42 rfl ?_
        refine g_p t216_44 rfl ?_
        refine g_k (n := 10) t216_45 rfl rfl ?_
        refine g_remn t216_47 (by omega) (by omega) (by omega) ?_
        refine r_cv t216_48 (f80 hF) rfl ?_
        refine c212 (by exact hF) (by exact m0) hP5 (by omega) (by omega) ?_
        refine k_v ?_ rfl
        rw [wth_sum ha]
        refine g_isn t216_51 (Nat.le_of_ble_eq_true rfl) (am_s1_3 rfl) ?_
        refine g_p t216_52 rfl ?_
        refine g_k (n := 10) t216_53 rfl rfl ?_
        refine g_divn t216_55 (by omega) (by omega) (by omega) ?_
        refine g_isn t216_56 (Nat.le_of_ble_eq_true rfl) (am_s1_2 rfl) ?_
        refine g_inc t216_57 rfl (Nat.le_of_ble_eq_true rfl) (am_s1_4 rfl) ?_
        refine g_goto t216_60 ?_
        rw [pm_s]
        refine ih (by omega) _ _ (by omega) ?_ hq
        rw [ep, ew]
        have h3 : u % 10 ≤ 2 := by omega
        have : u % 10 * 3 ^ (P - (m + 1)) ≤ 2 * 3 ^ (P - (m + 1)) := Nat.mul_le_mul_right _ h3
        omega
      · refine g_p t216_38 rfl ?_
        exact i_ret t216_39 (by rw [if_pos (by omega)]; rfl) hq
  refine en216 rfl rfl ?_
  refine g_p t216_0 rfl ?_
  refine g_isn t216_1 (Nat.le_of_ble_eq_true rfl) (am_s1_2 rfl) ?_
  refine g_k (n := 0) t216_2 rfl rfl ?_
  refine g_isn t216_3 (Nat.le_of_ble_eq_true rfl) (am_s1_3 rfl) ?_
  refine g_p t216_4 rfl ?_
  refine r_gete t216_5 (f80 hF) rfl rfl m0 ?_
  refine n_eq t216_8 (by omega) (fun h8 => ?_) (fun h8 => ?_)
  · exfalso; omega
  · refine g_p t216_11 rfl ?_
    refine n_ge t216_12 (by omega) ?_
    refine g_p t216_17 rfl ?_
    refine r_gete t216_18 (f80 hF) rfl rfl m0 ?_
    refine g_k (n := 1) t216_21 rfl rfl ?_
    refine g_isub t216_22 ?_
    rw [pm_p]
    refine g_is t216_23 (Nat.le_of_ble_eq_true rfl) (am_s1_4 rfl) ?_
    exact L P (Nat.le_refl _) v 0 hv (Nat.pow_pos (by decide)) hq
theorem c216 (hF : Fx s) (m0 : ri s 80 20 = nI P) (hP5 : P ≤ 5) {x : Int32} (hq : Q (some (.int (cdI P x))) (mR s)) : gE X (d + 3) 216 [.ref 80, .int x] (mR s) Q := by
  by_cases hx : x < 0
  · rw [cdI, if_pos hx] at hq
    refine en216 rfl rfl ?_
    refine g_p t216_0 rfl ?_
    refine g_isn t216_1 (Nat.le_of_ble_eq_true rfl) (am_s1_2 rfl) ?_
    refine g_k (n := 0) t216_2 rfl rfl ?_
    refine g_isn t216_3 (Nat.le_of_ble_eq_true rfl) (am_s1_3 rfl) ?_
    refine g_p t216_4 rfl ?_
    refine r_gete t216_5 (f80 hF) rfl rfl m0 ?_
    refine n_eq t216_8 (by omega) (fun h8 => ?_) (fun h8 => ?_)
    · refine g_p t216_15 rfl ?_
      exact i_ret t216_16 rfl hq
    · refine g_p t216_11 rfl ?_
      refine g_ge t216_12 (fun h12 => ?_) (fun h12 => ?_)
      · exact absurd (Int32.lt_of_lt_of_le hx h12) (by simp)
      · refine g_p t216_15 rfl ?_
        exact i_ret t216_16 rfl hq
  · rcases Nat.eq_zero_or_pos P with h0 | h0
    · have e : cdI P x = -1 := by rw [cdI, if_neg hx, cd, if_pos h0]; rfl
      rw [e] at hq
      refine en216 rfl rfl ?_
      refine g_p t216_0 rfl ?_
      refine g_isn t216_1 (Nat.le_of_ble_eq_true rfl) (am_s1_2 rfl) ?_
      refine g_k (n := 0) t216_2 rfl rfl ?_
      refine g_isn t216_3 (Nat.le_of_ble_eq_true rfl) (am_s1_3 rfl) ?_
      refine g_p t216_4 rfl ?_
      refine r_gete t216_5 (f80 hF) rfl rfl m0 ?_
      refine n_eq t216_8 (by omega) (fun h8 => ?_) (fun h8 => ?_)
      · refine g_p t216_15 rfl ?_
        exact i_ret t216_16 rfl hq
      · exact absurd h0 h8
    · rw [cdI, if_neg hx, cd, if_neg (by omega)] at hq
      rw [nI_n hx]
      exact c216n hF m0 h0 hP5 (cl_lt x) hq
theorem c217 (hF : Fx s) (m0 : ri s 80 20 = nI P) (hq : Q (some (.int (bI (inN P x)))) (mR s)) : gE X d 217 [.ref 80, .int x] (mR s) Q := by
  refine en217 rfl rfl ?_
  refine g_p t217_0 rfl ?_
  refine g_lt t217_1 (fun h1 => ?_) (fun h1 => ?_)
  · refine g_k (n := 0) t217_16 rfl rfl ?_
    exact b_ret t217_17 (by first | (rw [inN_f1 h1]; rfl) | (rw [inN_f2 h9]; rfl) | (rw [inN_tt h1 h9]; rfl)) hq
  · refine g_p t217_4 rfl ?_
    refine g_p t217_5 rfl ?_
    refine r_gete t217_6 (f80 hF) rfl rfl m0 ?_
    refine g_cge t217_9 (fun h9 => ?_) (fun h9 => ?_)
    · refine g_k (n := 0) t217_16 rfl rfl ?_
      exact b_ret t217_17 (by first | (rw [inN_f1 h1]; rfl) | (rw [inN_f2 h9]; rfl) | (rw [inN_tt h1 h9]; rfl)) hq
    · refine g_k (n := 1) t217_12 rfl rfl ?_
      refine g_goto t217_13 ?_
      exact b_ret t217_17 (by first | (rw [inN_f1 h1]; rfl) | (rw [inN_f2 h9]; rfl) | (rw [inN_tt h1 h9]; rfl)) hq
theorem c218 (hF : Fx s) (m0 : ri s 80 20 = nI P) (hP5 : P ≤ 5) (e28 : ri s 80 28 = nI n) (hq : Q (some (.int (bI (decide (0 < P) && inN n x)))) (mR s)) : gE X d 218 [.ref 80, .int x] (mR s) Q := by
  refine en218 rfl rfl ?_
  refine g_p t218_0 rfl ?_
  refine r_gete t218_1 (f80 hF) rfl rfl m0 ?_
  refine n_le t218_4 (by omega) (fun h4 => ?_) (fun h4 => ?_)
  · refine g_k (n := 0) t218_23 rfl rfl ?_
    exact b_ret t218_24 (by first | (rw [decide_eq_false (by omega)]; rfl) | (rw [inN_f1 h8, Bool.and_false]; rfl) | (rw [inN_f2 h16, Bool.and_false]; rfl) | (rw [decide_eq_true (by omega), inN_tt h8 h16]; rfl)) hq
  · refine g_p t218_7 rfl ?_
    refine g_lt t218_8 (fun h8 => ?_) (fun h8 => ?_)
    · refine g_k (n := 0) t218_23 rfl rfl ?_
      exact b_ret t218_24 (by first | (rw [decide_eq_false (by omega)]; rfl) | (rw [inN_f1 h8, Bool.and_false]; rfl) | (rw [inN_f2 h16, Bool.and_false]; rfl) | (rw [decide_eq_true (by omega), inN_tt h8 h16]; rfl)) hq
    · refine g_p t218_11 rfl ?_
      refine g_p t218_12 rfl ?_
      refine r_gete t218_13 (f80 hF) rfl rfl e28 ?_
      refine g_cge t218_16 (fun h16 => ?_) (fun h16 => ?_)
      · refine g_k (n := 0) t218_23 rfl rfl ?_
        exact b_ret t218_24 (by first | (rw [decide_eq_false (by omega)]; rfl) | (rw [inN_f1 h8, Bool.and_false]; rfl) | (rw [inN_f2 h16, Bool.and_false]; rfl) | (rw [decide_eq_true (by omega), inN_tt h8 h16]; rfl)) hq
      · refine g_k (n := 1) t218_19 rfl rfl ?_
        refine g_goto t218_20 ?_
        exact b_ret t218_24 (by first | (rw [decide_eq_false (by omega)]; rfl) | (rw [inN_f1 h8, Bool.and_false]; rfl) | (rw [inN_f2 h16, Bool.and_false]; rfl) | (rw [decide_eq_true (by omega), inN_tt h8 h16]; rfl)) hq
end RG
