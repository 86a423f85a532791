/-! ROWS OF NUMBERS: the contracts of FlowerPots$Numbers -/
section NU
variable {X : am_X} {d : Nat} {s : mM} {Q : Option Value → am_H → Prop} {p n : Nat}
theorem c29 (h : Nu s p n) (hq : Q (some (.int (ri s p 1))) (mR s)) : gE X d 29 [.ref p] (mR s) Q := by
  refine en29 rfl ?_
  refine g_p t29_0 rfl ?_
  refine r_geti t29_1 h.1 rfl rfl ?_
  exact i_ret t29_4 rfl hq
theorem c30 (h : Nu s p n) {j : Nat} (hj : j < n) (hq : Q (some (.int (ri s (p + 1) j))) (mR s)) : gE X d 30 [.ref p, .int (nI j)] (mR s) Q := by
  have hn := h.2.2
  refine en30 rfl rfl ?_
  refine g_p t30_0 rfl ?_
  refine n_lt t30_1 (by omega) ?_
  refine g_p t30_4 rfl ?_
  refine g_p t30_5 rfl ?_
  refine r_getr t30_6 h.1 rfl rfl ?_
  refine r_leni t30_9 h.2.1 ?_
  refine n_cge t30_10 (by omega) (by omega) (fun h10 => ?_) (fun h10 => ?_)
  · exfalso; omega
  · refine g_p t30_13 rfl ?_
    refine r_getr t30_14 h.1 rfl rfl ?_
    refine g_p t30_17 rfl ?_
    refine r_iald t30_18 h.2.1 h.2.2 (by omega) ?_
    refine g_goto t30_19 ?_
    exact i_ret t30_23 rfl hq
theorem c30o (h : Nu s p n) {i : Int32} (hi : i < 0 ∨ nI n ≤ i) (hq : Q (some (.int (nI 0))) (mR s)) : gE X d 30 [.ref p, .int i] (mR s) Q := by
  have hn := h.2.2
  refine en30 rfl rfl ?_
  refine g_p t30_0 rfl ?_
  refine g_lt t30_1 (fun h1 => ?_) (fun h1 => ?_)
  · refine g_k (n := 0) t30_22 rfl rfl ?_
    exact i_ret t30_23 rfl hq
  · refine g_p t30_4 rfl ?_
    refine g_p t30_5 rfl ?_
    refine r_getr t30_6 h.1 rfl rfl ?_
    refine r_leni t30_9 h.2.1 ?_
    refine g_cge t30_10 (fun h10 => ?_) (fun h10 => ?_)
    · refine g_k (n := 0) t30_22 rfl rfl ?_
      exact i_ret t30_23 rfl hq
    · exact absurd hi (fun h => h.elim h1 h10)
theorem c31 (h : Nu s p n) {j : Nat} {v : Int32} (hj : j < n) (hq : Q none (mR (wi s (p + 1) j v))) : gE X d 31 [.ref p, .int (nI j), .int v] (mR s) Q := by
  have hn := h.2.2
  refine en31 rfl rfl rfl ?_
  refine g_p t31_0 rfl ?_
  refine n_lt t31_1 (by omega) ?_
  refine g_p t31_4 rfl ?_
  refine g_p t31_5 rfl ?_
  refine r_getr t31_6 h.1 rfl rfl ?_
  refine r_leni t31_9 h.2.1 ?_
  refine n_cge t31_10 (by omega) (by omega) (fun h10 => ?_) (fun h10 => ?_)
  · first | exact v_ret t31_20 hq | (exfalso; omega)
  · refine g_p t31_13 rfl ?_
    refine r_getr t31_14 h.1 rfl rfl ?_
    refine g_p t31_17 rfl ?_
    refine g_p t31_18 rfl ?_
    refine r_iast t31_19 h.2.1 h.2.2 (by omega) ?_
    first | exact v_ret t31_20 hq | (exfalso; omega)
theorem c31o (h : Nu s p n) {i v : Int32} (hi : i < 0 ∨ nI n ≤ i) (hq : Q none (mR s)) : gE X d 31 [.ref p, .int i, .int v] (mR s) Q := by
  have hn := h.2.2
  refine en31 rfl rfl rfl ?_
  refine g_p t31_0 rfl ?_
  refine g_lt t31_1 (fun h1 => ?_) (fun h1 => ?_)
  · exact v_ret t31_20 hq
  · refine g_p t31_4 rfl ?_
    refine g_p t31_5 rfl ?_
    refine r_getr t31_6 h.1 rfl rfl ?_
    refine r_leni t31_9 h.2.1 ?_
    refine g_cge t31_10 (fun h10 => ?_) (fun h10 => ?_)
    · exact v_ret t31_20 hq
    · exact absurd hi (fun h => h.elim h1 h10)
def m_fill (f : Nat → Int32) (n : Nat) (v : Int32) : Nat → Int32 := fun i => if i < n then v else f i
theorem m_fill_0 {f : Nat → Int32} {v : Int32} : m_fill f 0 v = f := by funext i; simp [m_fill]
theorem m_fill_s {f : Nat → Int32} {n : Nat} {v : Int32} : upd (m_fill f n v) n v = m_fill f (n + 1) v := by
  funext i
  by_cases h : i = n
  · subst h; simp [upd, m_fill]
  · by_cases h2 : i < n
    · have h3 : i < n + 1 := by omega
      simp [upd, m_fill, h, h2, h3]
    · have h3 : ¬ i < n + 1 := by omega
      simp [upd, m_fill, h, h2, h3]
theorem c32 (h : Nu s p n) {v : Int32} (hq : Q none (mR (wf s (p + 1) (m_fill (s.2.1 (p + 1)) n v)))) : gE X d 32 [.ref p, .int v] (mR s) Q := by
  have hn := h.2.2
  have L : ∀ k i : Nat, i + k = n → gG X d 32 2 [.ref p, .int v, .int (nI i)] [] (mR (wf s (p + 1) (m_fill (s.2.1 (p + 1)) i v))) Q := by
    intro k
    induction k with
    | zero =>
      intro i hi
      have hi : i = n := by omega
      subst hi
      refine g_p t32_2 rfl ?_
      refine g_p t32_3 rfl ?_
      refine r_getr t32_4 h.1 rfl rfl ?_
      refine r_leni t32_7 h.2.1 ?_
      refine n_cge t32_8 (by omega) (by omega) (fun h8 => ?_) (fun h8 => ?_)
      · exact v_ret t32_24 hq
      · exfalso; omega
    | succ k ih =>
      intro i hi
      refine g_p t32_2 rfl ?_
      refine g_p t32_3 rfl ?_
      refine r_getr t32_4 h.1 rfl rfl ?_
      refine r_leni t32_7 h.2.1 ?_
      refine n_cge t32_8 (by omega) (by omega) (fun h8 => ?_) (fun h8 => ?_)
      · exfalso; omega
      · refine g_p t32_11 rfl ?_
        refine r_getr t32_12 h.1 rfl rfl ?_
        refine g_p t32_15 rfl ?_
        refine g_p t32_16 rfl ?_
        refine r_iast t32_17 h.2.1 h.2.2 (by omega) ?_
        refine g_incn (n := 1) t32_18 rfl rfl (Nat.le_of_ble_eq_true rfl) (am_s1_2 rfl) ?_
        refine g_goto t32_21 ?_
        have := ih (i + 1) (by omega)
        rw [← m_fill_s, ← wi_wf] at this
        exact this
  refine en32 rfl rfl ?_
  refine g_k (n := 0) t32_0 rfl rfl ?_
  refine g_isn t32_1 (Nat.le_of_ble_eq_true rfl) (am_s1_2 rfl) ?_
  have := L n 0 (by omega)
  rw [m_fill_0, wf_self] at this
  exact this
theorem c33 (h : Nu s p n) {v : Int32} {k : Nat} (hl : ri s p 1 = nI k) (hk : k < n) (hq : Q (some (.int (bI true))) (mR (wi (wi s (p + 1) k v) p 1 (nI (k + 1))))) : gE X d 33 [.ref p, .int v] (mR s) Q := by
  have hn := h.2.2
  refine en33 rfl rfl ?_
  refine g_p t33_0 rfl ?_
  refine r_gete t33_1 h.1 rfl rfl hl ?_
  refine n_lt t33_4 (by omega) ?_
  refine g_p t33_7 rfl ?_
  refine r_gete t33_8 h.1 rfl rfl hl ?_
  refine g_p t33_11 rfl ?_
  refine r_getr t33_12 h.1 rfl rfl ?_
  refine r_leni t33_15 h.2.1 ?_
  refine n_clt t33_16 (by omega) (by omega) (fun h16 => ?_) (fun h16 => ?_)
  · refine g_p t33_21 rfl ?_
    refine r_getr t33_22 h.1 rfl rfl ?_
    refine g_p t33_25 rfl ?_
    refine r_gete t33_26 h.1 rfl rfl hl ?_
    refine g_p t33_29 rfl ?_
    refine r_iast t33_30 h.2.1 h.2.2 (by omega) ?_
    have hl2 : ri (wi s (p + 1) k v) p 1 = nI k := by rw [ri_wi_ne (by omega)]; exact hl
    refine g_p t33_31 rfl ?_
    refine g_p t33_32 rfl ?_
    refine r_gete t33_33 h.1 rfl rfl hl2 ?_
    refine g_k (n := 1) t33_36 rfl rfl ?_
    refine g_addn t33_37 ?_
    refine r_puti t33_38 h.1 rfl rfl ?_
    refine g_k (n := 1) t33_41 rfl rfl ?_
    exact b_ret t33_42 rfl hq
  · exfalso; omega
theorem c33f (h : Nu s p n) {v : Int32} {k : Nat} (hl : ri s p 1 = nI k) (hk : n ≤ k) (hk2 : k < 2 ^ 31) (hq : Q (some (.int (bI false))) (mR s)) : gE X d 33 [.ref p, .int v] (mR s) Q := by
  have hn := h.2.2
  refine en33 rfl rfl ?_
  refine g_p t33_0 rfl ?_
  refine r_gete t33_1 h.1 rfl rfl hl ?_
  refine n_lt t33_4 (by omega) ?_
  refine g_p t33_7 rfl ?_
  refine r_gete t33_8 h.1 rfl rfl hl ?_
  refine g_p t33_11 rfl ?_
  refine r_getr t33_12 h.1 rfl rfl ?_
  refine r_leni t33_15 h.2.1 ?_
  refine n_clt t33_16 (by omega) (by omega) (fun h16 => ?_) (fun h16 => ?_)
  · exfalso; omega
  · refine g_k (n := 0) t33_19 rfl rfl ?_
    exact b_ret t33_20 rfl hq
theorem c34 (h : Nu s p n) {j k : Nat} (hl : ri s p 1 = nI k) (hj : j ≤ k) (hk : k < 2 ^ 31) (hq : Q none (mR (wi s p 1 (nI j)))) : gE X d 34 [.ref p, .int (nI j)] (mR s) Q := by
  refine en34 rfl rfl ?_
  refine g_p t34_0 rfl ?_
  refine n_lt t34_1 (by omega) ?_
  refine g_p t34_4 rfl ?_
  refine g_p t34_5 rfl ?_
  refine r_gete t34_6 h.1 rfl rfl hl ?_
  refine n_cgt t34_9 (by omega) (by omega) (fun h9 => ?_) (fun h9 => ?_)
  · first | exact v_ret t34_17 hq | (exfalso; omega)
  · refine g_p t34_12 rfl ?_
    refine g_p t34_13 rfl ?_
    refine r_puti t34_14 h.1 rfl rfl ?_
    first | exact v_ret t34_17 hq | (exfalso; omega)
theorem m_cpy_eq {f g : Nat → Int32} {a b c i : Nat} : va_cpy f g a b c i = if b ≤ i ∧ i < b + c then f (a + (i - b)) else g i := by
  by_cases h : b ≤ i ∧ i < b + c
  · rw [if_pos h, pk_cpy_in h.1 h.2]
  · rw [if_neg h, pk_cpy_out (by omega)]
theorem c35 (h : Nu s p n) {k : Nat} (hl : ri s p 1 = nI (k + 1)) (hk : k < n) (hq : Q none (mR (wi (wf s (p + 1) (va_cpy (s.2.1 (p + 1)) (s.2.1 (p + 1)) 1 0 k)) p 1 (nI k)))) : gE X d 35 [.ref p] (mR s) Q := by
  have hn := h.2.2
  refine en35 rfl ?_
  refine g_p t35_0 rfl ?_
  refine r_gete t35_1 h.1 rfl rfl hl ?_
  refine n_le t35_4 (by omega) (fun h4 => ?_) (fun h4 => ?_)
  · first | exact v_ret t35_48 hq | (exfalso; omega)
  · refine g_p t35_7 rfl ?_
    refine r_gete t35_8 h.1 rfl rfl hl ?_
    refine g_p t35_11 rfl ?_
    refine r_getr t35_12 h.1 rfl rfl ?_
    refine r_leni t35_15 h.2.1 ?_
    refine n_cgt t35_16 (by omega) (by omega) (fun h16 => ?_) (fun h16 => ?_)
    · first | exact v_ret t35_48 hq | (exfalso; omega)
    · refine g_p t35_19 rfl ?_
      refine r_getr t35_20 h.1 rfl rfl ?_
      refine g_k (n := 1) t35_23 rfl rfl ?_
      refine g_p t35_24 rfl ?_
      refine r_getr t35_25 h.1 rfl rfl ?_
      refine g_k (n := 0) t35_28 rfl rfl ?_
      refine g_p t35_29 rfl ?_
      refine r_gete t35_30 h.1 rfl rfl hl ?_
      refine g_k (n := 1) t35_33 rfl rfl ?_
      refine g_subn t35_34 (by omega) ?_
      refine r_cpyi t35_35 h.2.1 h.2.1 h.2.2 h.2.2 (by omega) (by omega) (Nat.le_of_ble_eq_true rfl) ?_
      have hl2 : ri (wf s (p + 1) (va_cpy (s.2.1 (p + 1)) (s.2.1 (p + 1)) 1 0 k)) p 1 = nI (k + 1) := by rw [ri_wf, if_neg (by omega)]; exact hl
      refine g_p t35_38 rfl ?_
      refine g_p t35_39 rfl ?_
      refine r_gete t35_40 h.1 rfl rfl hl2 ?_
      refine g_k (n := 1) t35_43 rfl rfl ?_
      refine g_subn t35_44 (by omega) ?_
      refine r_puti t35_45 h.1 rfl rfl ?_
      first | exact v_ret t35_48 hq | (exfalso; omega)
theorem c36 {p2 n2 k : Nat} (h : Nu s p n) (h2 : Nu s p2 n2) (hne : p2 ≠ p + 1) (hl : ri s p2 1 = nI k) (hk : k < 2 ^ 31) (hq : Q none (mR (wi (wf s (p + 1) (va_cpy (s.2.1 (p2 + 1)) (s.2.1 (p + 1)) 0 0 (min n n2))) p 1 (nI (min k n))))) : gE X d 36 [.ref p, .ref p2] (mR s) Q := by
  have hn := h.2.2
  have hn2 := h2.2.2
  refine en36 rfl rfl ?_
  refine g_p t36_0 rfl ?_
  refine r_getr t36_1 h.1 rfl rfl ?_
  refine r_leni t36_4 h.2.1 ?_
  refine g_p t36_5 rfl ?_
  refine r_getr t36_6 h2.1 rfl rfl ?_
  refine r_leni t36_9 h2.2.1 ?_
  refine g_minn t36_10 (by omega) (by omega) (Nat.le_of_ble_eq_true rfl) ?_
  refine g_isn t36_13 (Nat.le_of_ble_eq_true rfl) (am_s1_2 rfl) ?_
  refine g_p t36_14 rfl ?_
  refine r_getr t36_15 h2.1 rfl rfl ?_
  refine g_k (n := 0) t36_18 rfl rfl ?_
  refine g_p t36_19 rfl ?_
  refine r_getr t36_20 h.1 rfl rfl ?_
  refine g_k (n := 0) t36_23 rfl rfl ?_
  refine g_p t36_24 rfl ?_
  refine r_cpyi t36_25 h2.2.1 h.2.1 h2.2.2 h.2.2 (by omega) (by omega) (Nat.le_of_ble_eq_true rfl) ?_
  have hl2 : ri (wf s (p + 1) (va_cpy (s.2.1 (p2 + 1)) (s.2.1 (p + 1)) 0 0 (min n n2))) p2 1 = nI k := by rw [ri_wf, if_neg hne]; exact hl
  refine g_p t36_28 rfl ?_
  refine g_p t36_29 rfl ?_
  refine r_gete t36_30 h2.1 rfl rfl hl2 ?_
  refine g_p t36_33 rfl ?_
  refine r_getr t36_34 h.1 rfl rfl ?_
  refine r_leni t36_37 h.2.1 ?_
  refine g_minn t36_38 (by omega) (by omega) (Nat.le_of_ble_eq_true rfl) ?_
  refine r_puti t36_41 h.1 rfl rfl ?_
  exact v_ret t36_44 hq
theorem c29e (h : Nu s p n) {a : Int32} (e : ri s p 1 = a) (hq : Q (some (.int a)) (mR s)) : gE X d 29 [.ref p] (mR s) Q := by
  subst e; exact c29 h hq
theorem c30e (h : Nu s p n) {j : Nat} {a : Int32} (hj : j < n) (e : ri s (p + 1) j = a) (hq : Q (some (.int a)) (mR s)) : gE X d 30 [.ref p, .int (nI j)] (mR s) Q := by
  subst e; exact c30 h hj hq
end NU
