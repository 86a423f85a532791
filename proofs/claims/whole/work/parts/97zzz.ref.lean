/-! THE REFERENCE, 17: texts, the first steps of reading -/
section RZ0
variable {X : am_X} {d : Nat} {s : mM} {hp : am_H} {Q : Option Value → am_H → Prop} {k n : Nat} {v : Int32}
theorem c284k (hk : k < n) (hn : n < 2 ^ 31) (hq : Q (some (.int (nI k))) hp) : gE X d 284 [.int (nI k), .int (nI n), .retAddr 6] hp Q := by
  refine en284 rfl rfl rfl ?_
  refine g_p t284_0 rfl ?_
  refine n_lt t284_1 (by omega) ?_
  refine g_p t284_4 rfl ?_
  refine g_p t284_5 rfl ?_
  refine n_clt t284_6 (by omega) (by omega) (fun h6 => ?_) (fun h6 => ?_)
  · refine g_p t284_16 rfl ?_
    exact i_ret t284_17 rfl hq
  · exfalso; omega
theorem c271k (hk : k < n) (hn : n < 2 ^ 31) (hq : Q none hp) : gE X (d + 1) 271 [.int (nI k), .int (nI n)] hp Q := by
  refine en271 rfl rfl ?_
  refine g_p t271_0 rfl ?_
  refine g_p t271_1 rfl ?_
  refine g_h t271_2 rfl ?_
  refine g_cs t271_5 rfl rfl rfl ?_
  refine c284k hk hn ?_
  refine k_v ?_ rfl
  refine g_p t271_8 rfl ?_
  exact v_ret t271_9 hq
theorem c269_2 (hq : Q (some (.int (nI 0))) hp) : gE X d 269 [.retAddr 2] hp Q := by
  refine en269 rfl ?_
  refine g_h (s1 := [.int (nI 1)]) t269_0 rfl ?_
  refine n_eq t269_3 (by omega) (fun h3 => ?_) (fun h3 => ?_)
  · exact absurd h3 (by decide)
  · refine g_p t269_6 rfl ?_
    refine g_h (s1 := [.int (nI 0)]) t269_7 rfl ?_
    refine g_goto t269_10 ?_
    exact g_r t269_14 rfl hq
theorem c270_2 (hq : Q (some (.int (bI true))) hp) : gE X d 270 [.retAddr 2] hp Q := by
  refine en270 rfl ?_
  refine g_h (s1 := [.int (nI 1)]) t270_0 rfl ?_
  refine n_eq t270_3 (by omega) (fun h3 => ?_) (fun h3 => ?_)
  · first
      | exact absurd h3 (by decide)
      | exact absurd rfl h10
  · refine g_p t270_6 rfl ?_
    refine g_h (s1 := [.int (nI 0)]) t270_7 rfl ?_
    refine n_ne t270_10 (by omega) (fun h10 => ?_) (fun h10 => ?_)
    · first
        | exact absurd h3 (by decide)
        | exact absurd rfl h10
    · refine g_k (n := 1) t270_13 rfl rfl ?_
      refine g_goto t270_14 ?_
      exact b_ret t270_18 rfl hq
theorem c267_2 (hq : Q (some (.int (nI 1))) hp) : gE X (d + 1) 267 [.retAddr 2] hp Q := by
  refine en267 rfl ?_
  refine g_p t267_0 rfl ?_
  refine g_h t267_1 rfl ?_
  refine g_h t267_4 rfl ?_
  refine g_p t267_5 rfl ?_
  refine g_c t267_6 rfl ?_
  refine c269_2 ?_
  refine k_v ?_ rfl
  refine g_ishr t267_9 ?_
  exact i_ret t267_10 (by decide) hq
theorem c272_2_0 (hq : Q (some (.int (nI 121))) hp) : gE X (d + 2) 272 [.retAddr 4, .int (nI 0)] hp Q := by
  refine en272 rfl rfl ?_
  refine g_p t272_0 rfl ?_
  refine g_p t272_1 rfl ?_
  refine g_h t272_2 rfl ?_
  refine g_cs t272_3 rfl rfl rfl ?_
  refine c271k (k := 0) (n := 1) (by decide) (by decide) ?_
  refine k_0 ?_
  refine g_p t272_6 rfl ?_
  refine g_p t272_7 rfl ?_
  refine g_h t272_8 rfl ?_
  refine g_k (n := 255) t272_9 rfl rfl ?_
  refine g_iand t272_12 ?_
  refine g_p t272_13 rfl ?_
  exact g_r t272_14 rfl hq
theorem c268_2_0 (hq : Q (some (.int (nI 121))) hp) : gE X (d + 3) 268 [.retAddr 2, .int (nI 0)] hp Q := by
  refine en268 rfl rfl ?_
  refine g_p t268_0 rfl ?_
  refine g_c t268_1 rfl ?_
  refine c270_2 ?_
  refine k_v ?_ rfl
  refine b_eq t268_4 (fun h4 => ?_) (fun h4 => ?_)
  · exact absurd h4 (by decide)
  · refine g_p t268_7 rfl ?_
    refine g_h t268_8 rfl ?_
    refine g_p t268_11 rfl ?_
    refine g_cs t268_12 rfl rfl rfl ?_
    refine c272_2_0 ?_
    refine k_v ?_ rfl
    exact g_r t268_15 rfl hq
def am2 (v : Int32) : Bool := decide (v = nI 121)
theorem c178_2 (hq : Q (some (.int (bI (am2 v)))) hp) : gE X (d + 4) 178 [.retAddr 2, .int v] hp Q := by
  have K1 : ¬ v = nI 121 → gG X (d + 4) 178 2 [.retAddr 2, .int v, .int (nI 1)] [] hp Q := by
    intro n0
    refine g_p t178_2 rfl ?_
    refine g_p t178_3 rfl ?_
    refine g_c t178_4 rfl ?_
    refine c267_2 ?_
    refine k_v ?_ rfl
    refine n_cge t178_7 (by omega) (by omega) (fun h7 => ?_) (fun h7 => ?_)
    · refine g_k (n := 0) t178_27 rfl rfl ?_
      exact b_ret t178_28 (by unfold am2; rw [decide_eq_false n0]; rfl) hq
    · exfalso; omega
  have K0 : gG X (d + 4) 178 2 [.retAddr 2, .int v, .int (nI 0)] [] hp Q := by
    refine g_p t178_2 rfl ?_
    refine g_p t178_3 rfl ?_
    refine g_c t178_4 rfl ?_
    refine c267_2 ?_
    refine k_v ?_ rfl
    refine n_cge t178_7 (by omega) (by omega) (fun h7 => ?_) (fun h7 => ?_)
    · exfalso; omega
    · refine g_p t178_10 rfl ?_
      refine g_p t178_11 rfl ?_
      refine g_c t178_12 rfl ?_
      refine c268_2_0 ?_
      refine k_v ?_ rfl
      refine g_p t178_15 rfl ?_
      refine g_cne t178_16 (fun h16 => ?_) (fun h16 => ?_)
      · refine g_incn (n := 1) t178_21 rfl rfl (Nat.le_of_ble_eq_true rfl) (am_s1_2 rfl) ?_
        refine g_goto t178_24 ?_
        exact K1  (fun e => h16 e.symm)
      · refine g_k (n := 1) t178_19 rfl rfl ?_
        exact b_ret t178_20 (by unfold am2; rw [decide_eq_true h16.symm]; first | rfl | (simp only [Bool.or_true, Bool.true_or]; rfl)) hq
  refine en178 rfl rfl ?_
  refine g_k (n := 0) t178_0 rfl rfl ?_
  refine g_isn t178_1 (Nat.le_of_ble_eq_true rfl) (am_s1_2 rfl) ?_
  exact K0
theorem c269_3 (hq : Q (some (.int (nI 0))) hp) : gE X d 269 [.retAddr 3] hp Q := by
  refine en269 rfl ?_
  refine g_h (s1 := [.int (nI 1)]) t269_0 rfl ?_
  refine n_eq t269_3 (by omega) (fun h3 => ?_) (fun h3 => ?_)
  · exact absurd h3 (by decide)
  · refine g_p t269_6 rfl ?_
    refine g_h (s1 := [.int (nI 0)]) t269_7 rfl ?_
    refine g_goto t269_10 ?_
    exact g_r t269_14 rfl hq
theorem c270_3 (hq : Q (some (.int (bI true))) hp) : gE X d 270 [.retAddr 3] hp Q := by
  refine en270 rfl ?_
  refine g_h (s1 := [.int (nI 1)]) t270_0 rfl ?_
  refine n_eq t270_3 (by omega) (fun h3 => ?_) (fun h3 => ?_)
  · first
      | exact absurd h3 (by decide)
      | exact absurd rfl h10
  · refine g_p t270_6 rfl ?_
    refine g_h (s1 := [.int (nI 0)]) t270_7 rfl ?_
    refine n_ne t270_10 (by omega) (fun h10 => ?_) (fun h10 => ?_)
    · first
        | exact absurd h3 (by decide)
        | exact absurd rfl h10
    · refine g_k (n := 1) t270_13 rfl rfl ?_
      refine g_goto t270_14 ?_
      exact b_ret t270_18 rfl hq
theorem c267_3 (hq : Q (some (.int (nI 4))) hp) : gE X (d + 1) 267 [.retAddr 3] hp Q := by
  refine en267 rfl ?_
  refine g_p t267_0 rfl ?_
  refine g_h t267_1 rfl ?_
  refine g_h t267_4 rfl ?_
  refine g_p t267_5 rfl ?_
  refine g_c t267_6 rfl ?_
  refine c269_3 ?_
  refine k_v ?_ rfl
  refine g_ishr t267_9 ?_
  exact i_ret t267_10 (by decide) hq
theorem c272_3_0 (hq : Q (some (.int (nI 112))) hp) : gE X (d + 2) 272 [.retAddr 5, .int (nI 0)] hp Q := by
  refine en272 rfl rfl ?_
  refine g_p t272_0 rfl ?_
  refine g_p t272_1 rfl ?_
  refine g_h t272_2 rfl ?_
  refine g_cs t272_3 rfl rfl rfl ?_
  refine c271k (k := 0) (n := 4) (by decide) (by decide) ?_
  refine k_0 ?_
  refine g_p t272_6 rfl ?_
  refine g_p t272_7 rfl ?_
  refine g_h t272_8 rfl ?_
  refine g_k (n := 255) t272_9 rfl rfl ?_
  refine g_iand t272_12 ?_
  refine g_p t272_13 rfl ?_
  exact g_r t272_14 rfl hq
theorem c268_3_0 (hq : Q (some (.int (nI 112))) hp) : gE X (d + 3) 268 [.retAddr 3, .int (nI 0)] hp Q := by
  refine en268 rfl rfl ?_
  refine g_p t268_0 rfl ?_
  refine g_c t268_1 rfl ?_
  refine c270_3 ?_
  refine k_v ?_ rfl
  refine b_eq t268_4 (fun h4 => ?_) (fun h4 => ?_)
  · exact absurd h4 (by decide)
  · refine g_p t268_7 rfl ?_
    refine g_h t268_8 rfl ?_
    refine g_p t268_11 rfl ?_
    refine g_cs t268_12 rfl rfl rfl ?_
    refine c272_3_0 ?_
    refine k_v ?_ rfl
    exact g_r t268_15 rfl hq
theorem c272_3_1 (hq : Q (some (.int (nI 100))) hp) : gE X (d + 2) 272 [.retAddr 5, .int (nI 1)] hp Q := by
  refine en272 rfl rfl ?_
  refine g_p t272_0 rfl ?_
  refine g_p t272_1 rfl ?_
  refine g_h t272_2 rfl ?_
  refine g_cs t272_3 rfl rfl rfl ?_
  refine c271k (k := 1) (n := 4) (by decide) (by decide) ?_
  refine k_0 ?_
  refine g_p t272_6 rfl ?_
  refine g_p t272_7 rfl ?_
  refine g_h t272_8 rfl ?_
  refine g_k (n := 255) t272_9 rfl rfl ?_
  refine g_iand t272_12 ?_
  refine g_p t272_13 rfl ?_
  exact g_r t272_14 rfl hq
theorem c268_3_1 (hq : Q (some (.int (nI 100))) hp) : gE X (d + 3) 268 [.retAddr 3, .int (nI 1)] hp Q := by
  refine en268 rfl rfl ?_
  refine g_p t268_0 rfl ?_
  refine g_c t268_1 rfl ?_
  refine c270_3 ?_
  refine k_v ?_ rfl
  refine b_eq t268_4 (fun h4 => ?_) (fun h4 => ?_)
  · exact absurd h4 (by decide)
  · refine g_p t268_7 rfl ?_
    refine g_h t268_8 rfl ?_
    refine g_p t268_11 rfl ?_
    refine g_cs t268_12 rfl rfl rfl ?_
    refine c272_3_1 ?_
    refine k_v ?_ rfl
    exact g_r t268_15 rfl hq
theorem c272_3_2 (hq : Q (some (.int (nI 115))) hp) : gE X (d + 2) 272 [.retAddr 5, .int (nI 2)] hp Q := by
  refine en272 rfl rfl ?_
  refine g_p t272_0 rfl ?_
  refine g_p t272_1 rfl ?_
  refine g_h t272_2 rfl ?_
  refine g_cs t272_3 rfl rfl rfl ?_
  refine c271k (k := 2) (n := 4) (by decide) (by decide) ?_
  refine k_0 ?_
  refine g_p t272_6 rfl ?_
  refine g_p t272_7 rfl ?_
  refine g_h t272_8 rfl ?_
  refine g_k (n := 255) t272_9 rfl rfl ?_
  refine g_iand t272_12 ?_
  refine g_p t272_13 rfl ?_
  exact g_r t272_14 rfl hq
theorem c268_3_2 (hq : Q (some (.int (nI 115))) hp) : gE X (d + 3) 268 [.retAddr 3, .int (nI 2)] hp Q := by
  refine en268 rfl rfl ?_
  refine g_p t268_0 rfl ?_
  refine g_c t268_1 rfl ?_
  refine c270_3 ?_
  refine k_v ?_ rfl
  refine b_eq t268_4 (fun h4 => ?_) (fun h4 => ?_)
  · exact absurd h4 (by decide)
  · refine g_p t268_7 rfl ?_
    refine g_h t268_8 rfl ?_
    refine g_p t268_11 rfl ?_
    refine g_cs t268_12 rfl rfl rfl ?_
    refine c272_3_2 ?_
    refine k_v ?_ rfl
    exact g_r t268_15 rfl hq
theorem c272_3_3 (hq : Q (some (.int (nI 110))) hp) : gE X (d + 2) 272 [.retAddr 5, .int (nI 3)] hp Q := by
  refine en272 rfl rfl ?_
  refine g_p t272_0 rfl ?_
  refine g_p t272_1 rfl ?_
  refine g_h t272_2 rfl ?_
  refine g_cs t272_3 rfl rfl rfl ?_
  refine c271k (k := 3) (n := 4) (by decide) (by decide) ?_
  refine k_0 ?_
  refine g_p t272_6 rfl ?_
  refine g_p t272_7 rfl ?_
  refine g_h t272_8 rfl ?_
  refine g_k (n := 255) t272_9 rfl rfl ?_
  refine g_iand t272_12 ?_
  refine g_p t272_13 rfl ?_
  exact g_r t272_14 rfl hq
theorem c268_3_3 (hq : Q (some (.int (nI 110))) hp) : gE X (d + 3) 268 [.retAddr 3, .int (nI 3)] hp Q := by
  refine en268 rfl rfl ?_
  refine g_p t268_0 rfl ?_
  refine g_c t268_1 rfl ?_
  refine c270_3 ?_
  refine k_v ?_ rfl
  refine b_eq t268_4 (fun h4 => ?_) (fun h4 => ?_)
  · exact absurd h4 (by decide)
  · refine g_p t268_7 rfl ?_
    refine g_h t268_8 rfl ?_
    refine g_p t268_11 rfl ?_
    refine g_cs t268_12 rfl rfl rfl ?_
    refine c272_3_3 ?_
    refine k_v ?_ rfl
    exact g_r t268_15 rfl hq
def am3 (v : Int32) : Bool := decide (v = nI 112) || decide (v = nI 100) || decide (v = nI 115) || decide (v = nI 110)
theorem c178_3 (hq : Q (some (.int (bI (am3 v)))) hp) : gE X (d + 4) 178 [.retAddr 3, .int v] hp Q := by
  have K4 : ¬ v = nI 112 → ¬ v = nI 100 → ¬ v = nI 115 → ¬ v = nI 110 → gG X (d + 4) 178 2 [.retAddr 3, .int v, .int (nI 4)] [] hp Q := by
    intro n0 n1 n2 n3
    refine g_p t178_2 rfl ?_
    refine g_p t178_3 rfl ?_
    refine g_c t178_4 rfl ?_
    refine c267_3 ?_
    refine k_v ?_ rfl
    refine n_cge t178_7 (by omega) (by omega) (fun h7 => ?_) (fun h7 => ?_)
    · refine g_k (n := 0) t178_27 rfl rfl ?_
      exact b_ret t178_28 (by unfold am3; rw [decide_eq_false n0]; rw [decide_eq_false n1]; rw [decide_eq_false n2]; rw [decide_eq_false n3]; rfl) hq
    · exfalso; omega
  have K3 : ¬ v = nI 112 → ¬ v = nI 100 → ¬ v = nI 115 → gG X (d + 4) 178 2 [.retAddr 3, .int v, .int (nI 3)] [] hp Q := by
    intro n0 n1 n2
    refine g_p t178_2 rfl ?_
    refine g_p t178_3 rfl ?_
    refine g_c t178_4 rfl ?_
    refine c267_3 ?_
    refine k_v ?_ rfl
    refine n_cge t178_7 (by omega) (by omega) (fun h7 => ?_) (fun h7 => ?_)
    · exfalso; omega
    · refine g_p t178_10 rfl ?_
      refine g_p t178_11 rfl ?_
      refine g_c t178_12 rfl ?_
      refine c268_3_3 ?_
      refine k_v ?_ rfl
      refine g_p t178_15 rfl ?_
      refine g_cne t178_16 (fun h16 => ?_) (fun h16 => ?_)
      · refine g_incn (n := 1) t178_21 rfl rfl (Nat.le_of_ble_eq_true rfl) (am_s1_2 rfl) ?_
        refine g_goto t178_24 ?_
        exact K4 n0 n1 n2 (fun e => h16 e.symm)
      · refine g_k (n := 1) t178_19 rfl rfl ?_
        exact b_ret t178_20 (by unfold am3; rw [decide_eq_true h16.symm]; first | rfl | (simp only [Bool.or_true, Bool.true_or]; rfl)) hq
  have K2 : ¬ v = nI 112 → ¬ v = nI 100 → gG X (d + 4) 178 2 [.retAddr 3, .int v, .int (nI 2)] [] hp Q := by
    intro n0 n1
    refine g_p t178_2 rfl ?_
    refine g_p t178_3 rfl ?_
    refine g_c t178_4 rfl ?_
    refine c267_3 ?_
    refine k_v ?_ rfl
    refine n_cge t178_7 (by omega) (by omega) (fun h7 => ?_) (fun h7 => ?_)
    · exfalso; omega
    · refine g_p t178_10 rfl ?_
      refine g_p t178_11 rfl ?_
      refine g_c t178_12 rfl ?_
      refine c268_3_2 ?_
      refine k_v ?_ rfl
      refine g_p t178_15 rfl ?_
      refine g_cne t178_16 (fun h16 => ?_) (fun h16 => ?_)
      · refine g_incn (n := 1) t178_21 rfl rfl (Nat.le_of_ble_eq_true rfl) (am_s1_2 rfl) ?_
        refine g_goto t178_24 ?_
        exact K3 n0 n1 (fun e => h16 e.symm)
      · refine g_k (n := 1) t178_19 rfl rfl ?_
        exact b_ret t178_20 (by unfold am3; rw [decide_eq_true h16.symm]; first | rfl | (simp only [Bool.or_true, Bool.true_or]; rfl)) hq
  have K1 : ¬ v = nI 112 → gG X (d + 4) 178 2 [.retAddr 3, .int v, .int (nI 1)] [] hp Q := by
    intro n0
    refine g_p t178_2 rfl ?_
    refine g_p t178_3 rfl ?_
    refine g_c t178_4 rfl ?_
    refine c267_3 ?_
    refine k_v ?_ rfl
    refine n_cge t178_7 (by omega) (by omega) (fun h7 => ?_) (fun h7 => ?_)
    · exfalso; omega
    · refine g_p t178_10 rfl ?_
      refine g_p t178_11 rfl ?_
      refine g_c t178_12 rfl ?_
      refine c268_3_1 ?_
      refine k_v ?_ rfl
      refine g_p t178_15 rfl ?_
      refine g_cne t178_16 (fun h16 => ?_) (fun h16 => ?_)
      · refine g_incn (n := 1) t178_21 rfl rfl (Nat.le_of_ble_eq_true rfl) (am_s1_2 rfl) ?_
        refine g_goto t178_24 ?_
        exact K2 n0 (fun e => h16 e.symm)
      · refine g_k (n := 1) t178_19 rfl rfl ?_
        exact b_ret t178_20 (by unfold am3; rw [decide_eq_true h16.symm]; first | rfl | (simp only [Bool.or_true, Bool.true_or]; rfl)) hq
  have K0 : gG X (d + 4) 178 2 [.retAddr 3, .int v, .int (nI 0)] [] hp Q := by
    refine g_p t178_2 rfl ?_
    refine g_p t178_3 rfl ?_
    refine g_c t178_4 rfl ?_
    refine c267_3 ?_
    refine k_v ?_ rfl
    refine n_cge t178_7 (by omega) (by omega) (fun h7 => ?_) (fun h7 => ?_)
    · exfalso; omega
    · refine g_p t178_10 rfl ?_
      refine g_p t178_11 rfl ?_
      refine g_c t178_12 rfl ?_
      refine c268_3_0 ?_
      refine k_v ?_ rfl
      refine g_p t178_15 rfl ?_
      refine g_cne t178_16 (fun h16 => ?_) (fun h16 => ?_)
      · refine g_incn (n := 1) t178_21 rfl rfl (Nat.le_of_ble_eq_true rfl) (am_s1_2 rfl) ?_
        refine g_goto t178_24 ?_
        exact K1  (fun e => h16 e.symm)
      · refine g_k (n := 1) t178_19 rfl rfl ?_
        exact b_ret t178_20 (by unfold am3; rw [decide_eq_true h16.symm]; first | rfl | (simp only [Bool.or_true, Bool.true_or]; rfl)) hq
  refine en178 rfl rfl ?_
  refine g_k (n := 0) t178_0 rfl rfl ?_
  refine g_isn t178_1 (Nat.le_of_ble_eq_true rfl) (am_s1_2 rfl) ?_
  exact K0
end RZ0
def sb (x : Nat) : Int32 := (nI x).toInt8.toInt32
theorem sb_and : ∀ x, x < 256 → sb x &&& nI 255 = nI x := by decide +kernel
theorem sb_32 : ∀ x, x < 256 → (sb x = nI 32 ↔ x = 32) := by decide +kernel
theorem sb_lt : ∀ x, x < 256 → (sb x < nI 48 ↔ x < 48 ∨ 128 ≤ x) := by decide +kernel
theorem sb_gt : ∀ x, x < 256 → (nI 57 < sb x ↔ 57 < x ∧ x < 128) := by decide +kernel
theorem sb_dgt : ∀ x, x < 256 → 48 ≤ x → x ≤ 57 → sb x = nI x := by decide +kernel
theorem skp_skp {t : List Nat} : ∀ m i, t.length ≤ i + m → skp t (skp t i) = skp t i := by
  intro m
  induction m with
  | zero =>
    intro i h
    have e : skp t i = i := skp_n (fun h2 => by omega)
    rw [e, e]
  | succ m ih =>
    intro i h
    by_cases h1 : i < t.length ∧ t.getD i 0 = 32
    · rw [skp_b h1.1 h1.2]; exact ih (i + 1) (by omega)
    · have e : skp t i = i := skp_n (fun h2 h3 => h1 ⟨h2, h3⟩)
      rw [e, e]
theorem skp_s {t : List Nat} {i j : Nat} (h : skp t i = j) : skp t j = j := by rw [← h]; exact skp_skp t.length i (by omega)
theorem skp_ge {t : List Nat} {i : Nat} : i ≤ skp t i := by unfold skp; omega
/-- the text t, held in T from B on -/
def MT (T nT B : Nat) (t : List Nat) (s : mM) : Prop := ri s 80 5 = nI (T + 2) ∧ ri s 80 8 = nI B ∧ ri s 80 9 = nI t.length ∧ (∀ k, k < t.length → ri s T (B + k) = sb (t.getD k 0)) ∧ s.1 T = .inl (1, nT, .inl (fun _ => 0)) ∧ B + 120 ≤ nT ∧ nT ≤ 480 ∧ (T = 81 ∨ T = 82) ∧ t.length ≤ 120 ∧ ∀ x ∈ t, x < 256 ∧ x ≠ 0
theorem MT.fm {A B' : List Nat} {T nT B : Nat} {t : List Nat} {s s' : mM} (h : MT T nT B t s) (f : FM A B' s s') (h1 : 5 ∉ B') (h2 : 8 ∉ B') (h3 : 9 ∉ B') (h4 : 81 ∉ 80 :: A) (h5 : 82 ∉ 80 :: A) : MT T nT B t s' := by
  obtain ⟨q1, q2, q3, q4, q5, q6, q7, q8, q9⟩ := h
  exact ⟨(f.f h1).trans q1, (f.f h2).trans q2, (f.f h3).trans q3, fun k hk => (f.g (by rcases q8 with e | e <;> (rw [e]; assumption))).trans (q4 k hk), by rw [f.1.1]; exact q5, q6, q7, q8, q9⟩
def MS (t : List Nat) (σ : Ps) (s : mM) : Prop := match σ with
  | .inl j => ri s 80 11 = -1 ∧ j ≤ t.length ∧ ∃ i, i ≤ j ∧ skp t i = j ∧ ri s 80 10 = nI i
  | .inr f => ri s 80 11 = nI f ∧ f ≤ t.length ∧ ∃ i, i ≤ t.length ∧ ri s 80 10 = nI i
/-- right at j -/
def MJ (t : List Nat) (j : Nat) (s : mM) : Prop := ri s 80 11 = -1 ∧ j ≤ t.length ∧ ri s 80 10 = nI j
theorem MJ.ms {t : List Nat} {j : Nat} {s : mM} (h : MJ t j s) : MS t (.inl (skp t j)) s := ⟨h.1, (skp_le h.2.1).2, j, skp_ge, rfl, h.2.2⟩
theorem MS.fm {A B : List Nat} {t : List Nat} {σ : Ps} {s s' : mM} (h : MS t σ s) (f : FM A B s s') (h1 : 10 ∉ B) (h2 : 11 ∉ B) : MS t σ s' := by
  cases σ with
  | inl j => exact ⟨(f.f h2).trans h.1, h.2.1, h.2.2.elim (fun i hi => ⟨i, hi.1, hi.2.1, (f.f h1).trans hi.2.2⟩)⟩
  | inr g => exact ⟨(f.f h2).trans h.1, h.2.1, h.2.2.elim (fun i hi => ⟨i, hi.1, (f.f h1).trans hi.2⟩)⟩
theorem MJ.fm {A B : List Nat} {t : List Nat} {j : Nat} {s s' : mM} (h : MJ t j s) (f : FM A B s s') (h1 : 10 ∉ B) (h2 : 11 ∉ B) : MJ t j s' := ⟨(f.f h2).trans h.1, h.2.1, (f.f h1).trans h.2.2⟩
/-- a fault that stands, or one to come at a digit -/
def Dd (t : List Nat) (σ : Ps) (s : mM) : Prop := ∃ f, MS t (.inr f) s ∧ (σ = .inr f ∨ (σ = .inl f ∧ 48 ≤ sgn t f ∧ sgn t f ≤ 57))
theorem Dd.fm {A B : List Nat} {t : List Nat} {σ : Ps} {s s' : mM} (h : Dd t σ s) (f : FM A B s s') (h1 : 10 ∉ B) (h2 : 11 ∉ B) : Dd t σ s' := h.elim (fun g hg => ⟨g, hg.1.fm f h1 h2, hg.2⟩)
theorem Dd.psg {t : List Nat} {σ : Ps} {s : mM} (h : Dd t σ s) : psg t σ = 0 ∨ (48 ≤ psg t σ ∧ psg t σ ≤ 57) := by
  obtain ⟨f, -, rfl | ⟨rfl, h1⟩⟩ := h
  · exact Or.inl rfl
  · exact Or.inr h1
theorem Dd.fl {t : List Nat} {σ : Ps} {s : mM} (h : Dd t σ s) (hl : t.length ≤ 120) : ¬ ri s 80 11 = -1 := by
  obtain ⟨f, h1, -⟩ := h
  rw [h1.1]; exact nI_m1 (by have := h1.2.1; omega)
theorem Dd.pr {t : List Nat} {σ : Ps} {s : mM} (h : Dd t σ s) : Dd t (pre σ) s := by
  obtain ⟨f, h1, rfl | ⟨rfl, h2⟩⟩ := h
  · exact ⟨f, h1, Or.inl rfl⟩
  · exact ⟨f, h1, Or.inl rfl⟩
theorem Dd.pn {t : List Nat} {σ : Ps} {s : mM} {w : Nat} (h : Dd t σ s) (hw : w ≠ 0) (hw2 : ¬ (48 ≤ w ∧ w ≤ 57)) : Dd t (pne t w σ) s := by
  have : pne t w σ = pre σ := if_neg (fun e => by rcases h.psg with h1 | h1 <;> omega)
  rw [this]; exact h.pr
theorem pne_dd {t : List Nat} {σ : Ps} {s : mM} {w : Nat} (h : Dd t σ s) (hw : w ≠ 0) (hw2 : ¬ (48 ≤ w ∧ w ≤ 57)) : ∃ f, pne t w σ = .inr f := by
  rw [show pne t w σ = pre σ from if_neg (fun e => by rcases h.psg with h1 | h1 <;> omega)]
  exact pre_r
def RM (t : List Nat) (σ : Ps) (s : mM) : Prop := (∃ j, σ = .inl j ∧ MS t (.inl j) s) ∨ Dd t σ s
theorem RM.fm {A B : List Nat} {t : List Nat} {σ : Ps} {s s' : mM} (h : RM t σ s) (f : FM A B s s') (h1 : 10 ∉ B) (h2 : 11 ∉ B) : RM t σ s' := h.imp (fun ⟨j, e, g⟩ => ⟨j, e, g.fm f h1 h2⟩) (fun g => g.fm f h1 h2)
theorem RM_e {t : List Nat} {j : Nat} {s : mM} (h : MJ t j s) : RM t (pre (.inl j)) (wi s 80 11 (nI j)) := Or.inr ⟨j, ⟨rfl, h.2.1, j, h.2.1, h.2.2⟩, Or.inl rfl⟩
/-- what a look sees -/
def lk (x : Nat) : Int32 := if x = 0 then -1 else nI x
theorem lk_e {x w : Nat} (hx : x < 256) (hw : w < 256) (hw0 : w ≠ 0) : lk x = nI w ↔ x = w := by
  unfold lk
  by_cases h : x = 0
  · rw [if_pos h]
    exact ⟨fun e => absurd e.symm (nI_m1 (by omega)), fun e => by omega⟩
  · rw [if_neg h]
    constructor
    · intro e
      have h1 := congrArg Int32.toNatClampNeg e
      rw [nI_clamp (show x < 2 ^ 31 by omega), nI_clamp (show w < 2 ^ 31 by omega)] at h1
      exact h1
    · intro e; rw [e]
theorem lk_m {x : Nat} (hx : x < 256) : lk x = -1 ↔ x = 0 := by
  unfold lk
  by_cases h : x = 0
  · rw [if_pos h]; exact ⟨fun _ => h, fun _ => rfl⟩
  · rw [if_neg h]; exact ⟨fun e => absurd e (nI_m1 (by omega)), fun e => absurd e h⟩
theorem MT.sg {T nT B : Nat} {t : List Nat} {s : mM} (h : MT T nT B t s) (j : Nat) : sgn t j < 256 := by
  unfold sgn
  rcases Nat.lt_or_ge j t.length with h1 | h1
  · rw [gD_lt h1]; exact (h.2.2.2.2.2.2.2.2.2 _ (List.getElem_mem h1)).1
  · rw [List.getD, List.getElem?_eq_none h1]; decide
theorem MT.sz {T nT B : Nat} {t : List Nat} {s : mM} (h : MT T nT B t s) {j : Nat} (hj : j < t.length) : sgn t j ≠ 0 := by
  unfold sgn
  rw [gD_lt hj]; exact (h.2.2.2.2.2.2.2.2.2 _ (List.getElem_mem hj)).2
section RZ
variable {X : am_X} {d : Nat} {s : mM} {hp : am_H} {Q : Option Value → am_H → Prop} {T nT B k n w : Nat} {t : List Nat} {σ : Ps}
theorem c183 (hF : Fx s) (hX : MT T nT B t s) {j : Nat} (hS : MS t (.inl j) s) (hq : ∀ s', FM [] [10] s s' → MJ t j s' → Q (some (.int (lk (sgn t j)))) (mR s')) : gE X d 183 [.ref 80] (mR s) Q := by
  obtain ⟨h11, hj, i0, hi0, hs0, e10⟩ := hS
  have K : ∀ m i : Nat, i + m = j → ∀ s', FM [] [10] s s' → skp t i = j → ri s' 80 10 = nI i → gG X d 183 0 [.ref 80] [] (mR s') Q := by
    intro m
    induction m with
    | zero =>
      intro i hi s' hf hs e10
      have hi : i = j := by omega
      subst hi
      have hF := hF.fr hf.1
      have hX := hX.fm hf (by decide) (by decide) (by decide) (by decide) (by decide)
      have h11 := (hf.f (i := 11) (by decide)).trans h11
      have hsl : i < t.length → sgn t i ≠ 32 := fun h1 h2 => by
        have h3 : t.getD i 0 = 32 := h2
        rw [skp_b h1 h3] at hs
        have := skp_ge (t := t) (i := i + 1)
        omega
      have hsg : t.getD i 0 < 256 := hX.sg i
      obtain ⟨x1, x2, x3, x4, x5, x6, x7, x8, x9, x10⟩ := id hX
      refine g_p t183_0 rfl ?_
      refine r_gete t183_1 (f80 hF) rfl rfl e10 ?_
      refine g_p t183_4 rfl ?_
      refine r_gete t183_5 (f80 hF) rfl rfl x3 ?_
      refine n_cge t183_8 (by omega) (by omega) (fun h8 => ?_) (fun h8 => ?_)
      · refine g_p t183_43 rfl ?_
        refine r_gete t183_44 (f80 hF) rfl rfl e10 ?_
        refine g_p t183_47 rfl ?_
        refine r_gete t183_48 (f80 hF) rfl rfl x3 ?_
        refine n_cge t183_51 (by omega) (by omega) (fun h51 => ?_) (fun h51 => ?_)
        · refine g_p t183_75 rfl ?_
          first
            | (have u0 : t.length ≤ i := h51
               refine i_ret t183_76 ?_ (hq s' hf ⟨h11, hj, e10⟩)
               have : sgn t i = 0 := by unfold sgn; rw [List.getD, List.getElem?_eq_none u0]; rfl
               rw [this]; rfl)
            | (have u0 : ¬ t.length ≤ i := h51
               refine i_ret t183_76 ?_ (hq s' hf ⟨h11, hj, e10⟩)
               rw [lk, if_neg (hX.sz (by omega))]; rfl)
        · refine g_p t183_54 rfl ?_
          refine r_getq t183_55 (f80 hF) rfl rfl x1 (m_rq_r (by omega)) ?_
          refine g_p t183_58 rfl ?_
          refine r_gete t183_59 (f80 hF) rfl rfl x2 ?_
          refine g_p t183_62 rfl ?_
          refine r_gete t183_63 (f80 hF) rfl rfl e10 ?_
          refine g_addn t183_66 ?_
          refine r_bale t183_67 (by exact x5) (Or.inl rfl) (by omega) (by omega) (x4 i (by omega)) ?_
          refine g_k (n := 255) t183_68 rfl rfl ?_
          refine g_iand t183_71 ?_
          rw [sb_and _ hsg]
          refine g_goto t183_72 ?_
          first
            | (have u0 : t.length ≤ i := h51
               refine i_ret t183_76 ?_ (hq s' hf ⟨h11, hj, e10⟩)
               have : sgn t i = 0 := by unfold sgn; rw [List.getD, List.getElem?_eq_none u0]; rfl
               rw [this]; rfl)
            | (have u0 : ¬ t.length ≤ i := h51
               refine i_ret t183_76 ?_ (hq s' hf ⟨h11, hj, e10⟩)
               rw [lk, if_neg (hX.sz (by omega))]; rfl)
      · refine g_p t183_11 rfl ?_
        refine r_getq t183_12 (f80 hF) rfl rfl x1 (m_rq_r (by omega)) ?_
        refine g_p t183_15 rfl ?_
        refine r_gete t183_16 (f80 hF) rfl rfl x2 ?_
        refine g_p t183_19 rfl ?_
        refine r_gete t183_20 (f80 hF) rfl rfl e10 ?_
        refine g_addn t183_23 ?_
        refine r_bale t183_24 (by exact x5) (Or.inl rfl) (by omega) (by omega) (x4 i (by omega)) ?_
        refine g_k (n := 32) t183_25 rfl rfl ?_
        refine g_cne t183_27 (fun h27 => ?_) (fun h27 => ?_)
        · refine g_p t183_43 rfl ?_
          refine r_gete t183_44 (f80 hF) rfl rfl e10 ?_
          refine g_p t183_47 rfl ?_
          refine r_gete t183_48 (f80 hF) rfl rfl x3 ?_
          refine n_cge t183_51 (by omega) (by omega) (fun h51 => ?_) (fun h51 => ?_)
          · refine g_p t183_75 rfl ?_
            first
              | (have u0 : t.length ≤ i := h51
                 refine i_ret t183_76 ?_ (hq s' hf ⟨h11, hj, e10⟩)
                 have : sgn t i = 0 := by unfold sgn; rw [List.getD, List.getElem?_eq_none u0]; rfl
                 rw [this]; rfl)
              | (have u0 : ¬ t.length ≤ i := h51
                 refine i_ret t183_76 ?_ (hq s' hf ⟨h11, hj, e10⟩)
                 rw [lk, if_neg (hX.sz (by omega))]; rfl)
          · refine g_p t183_54 rfl ?_
            refine r_getq t183_55 (f80 hF) rfl rfl x1 (m_rq_r (by omega)) ?_
            refine g_p t183_58 rfl ?_
            refine r_gete t183_59 (f80 hF) rfl rfl x2 ?_
            refine g_p t183_62 rfl ?_
            refine r_gete t183_63 (f80 hF) rfl rfl e10 ?_
            refine g_addn t183_66 ?_
            refine r_bale t183_67 (by exact x5) (Or.inl rfl) (by omega) (by omega) (x4 i (by omega)) ?_
            refine g_k (n := 255) t183_68 rfl rfl ?_
            refine g_iand t183_71 ?_
            rw [sb_and _ hsg]
            refine g_goto t183_72 ?_
            first
              | (have u0 : t.length ≤ i := h51
                 refine i_ret t183_76 ?_ (hq s' hf ⟨h11, hj, e10⟩)
                 have : sgn t i = 0 := by unfold sgn; rw [List.getD, List.getElem?_eq_none u0]; rfl
                 rw [this]; rfl)
              | (have u0 : ¬ t.length ≤ i := h51
                 refine i_ret t183_76 ?_ (hq s' hf ⟨h11, hj, e10⟩)
                 rw [lk, if_neg (hX.sz (by omega))]; rfl)
        · exact absurd ((sb_32 _ hsg).mp h27) (hsl (by omega))
    | succ m ih =>
      intro i hi s' hf hs e10
      have hF := hF.fr hf.1
      have hX := hX.fm hf (by decide) (by decide) (by decide) (by decide) (by decide)
      have h32 : t.getD i 0 = 32 := by
        by_cases h : t.getD i 0 = 32
        · exact h
        · have := skp_n (t := t) (i := i) (fun _ => h); omega
      obtain ⟨x1, x2, x3, x4, x5, x6, x7, x8, x9, x10⟩ := id hX
      refine g_p t183_0 rfl ?_
      refine r_gete t183_1 (f80 hF) rfl rfl e10 ?_
      refine g_p t183_4 rfl ?_
      refine r_gete t183_5 (f80 hF) rfl rfl x3 ?_
      refine n_cge t183_8 (by omega) (by omega) (fun h8 => ?_) (fun h8 => ?_)
      · first
          | (exfalso; omega)
          | exact absurd ((sb_32 _ (by rw [h32]; decide)).mpr h32) h27
      · refine g_p t183_11 rfl ?_
        refine r_getq t183_12 (f80 hF) rfl rfl x1 (m_rq_r (by omega)) ?_
        refine g_p t183_15 rfl ?_
        refine r_gete t183_16 (f80 hF) rfl rfl x2 ?_
        refine g_p t183_19 rfl ?_
        refine r_gete t183_20 (f80 hF) rfl rfl e10 ?_
        refine g_addn t183_23 ?_
        refine r_bale t183_24 (by exact x5) (Or.inl rfl) (by omega) (by omega) (x4 i (by omega)) ?_
        refine g_k (n := 32) t183_25 rfl rfl ?_
        refine g_cne t183_27 (fun h27 => ?_) (fun h27 => ?_)
        · first
            | (exfalso; omega)
            | exact absurd ((sb_32 _ (by rw [h32]; decide)).mpr h32) h27
        · refine g_p t183_30 rfl ?_
          refine g_p t183_31 rfl ?_
          refine r_gete t183_32 (f80 hF) rfl rfl e10 ?_
          refine g_k (n := 1) t183_35 rfl rfl ?_
          refine g_addn t183_36 ?_
          refine r_puti t183_37 (f80 hF) rfl rfl ?_
          refine g_goto t183_40 ?_
          exact ih (i + 1) (by omega) _ (hf.m (by decide)) (by rw [← skp_b (by omega) h32]; exact hs) rfl
  refine en183 rfl ?_
  exact K (j - i0) i0 (by omega) s FM.rf hs0 e10
theorem c184 (hF : Fx s) {j : Nat} (hJ : MJ t j s) (hq : ∀ s', FM [] [11] s s' → MS t (.inr j) s' → Q (some (.int (bI false))) (mR s')) : gE X d 184 [.ref 80] (mR s) Q := by
  obtain ⟨h11, hj, e10⟩ := hJ
  refine en184 rfl ?_
  refine g_p t184_0 rfl ?_
  refine r_gete t184_1 (f80 hF) rfl rfl h11 ?_
  refine g_p t184_4 rfl ?_
  refine g_cne t184_5 (fun h5 => ?_) (fun h5 => ?_)
  · refine g_k (n := 0) t184_16 rfl rfl ?_
    first
      | (have u0 : ¬ (-1 : Int32) = -1 := h5
         exact absurd rfl u0)
      | exact b_ret t184_17 rfl (hq _ (FM.rf.m (by decide)) ⟨rfl, hj, j, hj, e10⟩)
  · refine g_p t184_8 rfl ?_
    refine g_p t184_9 rfl ?_
    refine r_gete t184_10 (f80 hF) rfl rfl e10 ?_
    refine r_puti t184_13 (f80 hF) rfl rfl ?_
    refine g_k (n := 0) t184_16 rfl rfl ?_
    first
      | (have u0 : ¬ (-1 : Int32) = -1 := h5
         exact absurd rfl u0)
      | exact b_ret t184_17 rfl (hq _ (FM.rf.m (by decide)) ⟨rfl, hj, j, hj, e10⟩)
theorem c184f (hF : Fx s) (h11 : ¬ ri s 80 11 = -1) (hq : Q (some (.int (bI false))) (mR s)) : gE X d 184 [.ref 80] (mR s) Q := by
  refine en184 rfl ?_
  refine g_p t184_0 rfl ?_
  refine r_geti t184_1 (f80 hF) rfl rfl ?_
  refine g_p t184_4 rfl ?_
  refine g_cne t184_5 (fun h5 => ?_) (fun h5 => ?_)
  · refine g_k (n := 0) t184_16 rfl rfl ?_
    exact b_ret t184_17 rfl hq
  · exact absurd h5 h11
theorem c185f (hF : Fx s) {j : Nat} (hJ : MJ t j s) (e12 : ri s 80 12 = nI 6) (hq : ∀ s', FM [] [11] s s' → MS t (.inr j) s' → Q (some (.int (bI false))) (mR s')) : gE X (d + 1) 185 [.ref 80] (mR s) Q := by
  refine en185 rfl ?_
  refine g_p t185_0 rfl ?_
  refine r_gete t185_1 (f80 hF) rfl rfl e12 ?_
  refine g_k (n := 6) t185_4 rfl rfl ?_
  refine n_cne t185_6 (by omega) (by omega) (fun h6 => ?_) (fun h6 => ?_)
  · exfalso; omega
  · refine g_p t185_9 rfl ?_
    refine r_cv t185_10 (f80 hF) rfl ?_
    refine c184 (by exact hF) hJ (fun s1 f1 h1 => ?_)
    refine k_v ?_ rfl
    exact b_ret t185_13 rfl (hq _ f1 h1)
theorem c185t (hF : Fx s) {j : Nat} (hJ : MJ t j s) (hl : j < t.length) (h120 : t.length ≤ 120) (e12 : ri s 80 12 = nI k) (hk : k < 6) (hq : ∀ s', FM [] [10, 12] s s' → MJ t (j + 1) s' → ri s' 80 12 = nI (k + 1) → Q (some (.int (bI true))) (mR s')) : gE X (d + 1) 185 [.ref 80] (mR s) Q := by
  obtain ⟨h11, hj, e10⟩ := hJ
  refine en185 rfl ?_
  refine g_p t185_0 rfl ?_
  refine r_gete t185_1 (f80 hF) rfl rfl e12 ?_
  refine g_k (n := 6) t185_4 rfl rfl ?_
  refine n_cne t185_6 (by omega) (by omega) (fun h6 => ?_) (fun h6 => ?_)
  · refine g_p t185_14 rfl ?_
    refine g_p t185_15 rfl ?_
    refine r_gete t185_16 (f80 hF) rfl rfl e12 ?_
    refine g_k (n := 1) t185_19 rfl rfl ?_
    refine g_addn t185_20 ?_
    refine r_puti t185_21 (f80 hF) rfl rfl ?_
    refine g_p t185_24 rfl ?_
    refine g_p t185_25 rfl ?_
    refine r_gete t185_26 (f80 hF) rfl rfl e10 ?_
    refine g_k (n := 1) t185_29 rfl rfl ?_
    refine g_addn t185_30 ?_
    refine r_puti t185_31 (f80 hF) rfl rfl ?_
    refine g_k (n := 1) t185_34 rfl rfl ?_
    exact b_ret t185_35 rfl (hq _ ((FM.rf.m (by decide)).m (by decide)) ⟨h11, hl, rfl⟩ rfl)
  · exfalso; omega
theorem c186 (hF : Fx s) (hX : MT T nT B t s) (hS : RM t σ s) (hw0 : w ≠ 0) (hw : w < 256) (hwd : ¬ (48 ≤ w ∧ w ≤ 57)) (ht : ∀ s' j, ri s 80 11 = -1 → FM [] [10, 11] s s' → σ = .inl j → sgn t j = w → j < t.length → MJ t (j + 1) s' → Q (some (.int (bI true))) (mR s')) (hq : ∀ s', FM [] [10, 11] s s' → Dd t (pne t w σ) s' → (∃ f, pne t w σ = .inr f) → Q (some (.int (bI false))) (mR s')) : gE X (d + 1) 186 [.ref 80, .int (nI w)] (mR s) Q := by
  have h120 := hX.2.2.2.2.2.2.2.2.1
  rcases hS with ⟨j, rfl, hS⟩ | hS
  · have h11 := hS.1
    have hsg := hX.sg j
    refine en186 rfl rfl ?_
    refine g_p t186_0 rfl ?_
    refine r_gete t186_1 (f80 hF) rfl rfl h11 ?_
    refine g_p t186_4 rfl ?_
    refine g_cne t186_5 (fun h5 => ?_) (fun h5 => ?_)
    · exact absurd rfl h5
    · refine g_p t186_8 rfl ?_
      refine r_cv t186_9 (f80 hF) rfl ?_
      refine c183 (by exact hF) hX hS (fun s1 f1 hJ => ?_)
      have e10 := hJ.2.2
      refine k_v ?_ rfl
      have hF := Fx.fr (by exact hF) f1.1
      have h11 := (f1.f (i := 11) (by decide)).trans h11
      refine g_p t186_12 rfl ?_
      refine g_ceq t186_13 (fun h13 => ?_) (fun h13 => ?_)
      · refine g_p t186_21 rfl ?_
        refine g_p t186_22 rfl ?_
        refine r_gete t186_23 (f80 hF) rfl rfl e10 ?_
        refine g_k (n := 1) t186_26 rfl rfl ?_
        refine g_addn t186_27 ?_
        refine r_puti t186_28 (f80 hF) rfl rfl ?_
        refine g_k (n := 1) t186_31 rfl rfl ?_
        have hsj : sgn t j = w := (lk_e hsg hw hw0).mp h13
        have hjl : j < t.length := sgn_pos (by omega)
        exact b_ret t186_32 rfl (ht _ j hS.1 ((f1.mono (by decide) (by decide)).m (by decide)) rfl hsj hjl ⟨hJ.1, hjl, rfl⟩)
      · refine g_p t186_16 rfl ?_
        refine r_cv t186_17 (f80 hF) rfl ?_
        refine c184 (by exact hF) hJ (fun s2 f2 h2 => ?_)
        refine k_v ?_ rfl
        first
          | (have u0 : ¬ (-1 : Int32) = -1 := h5
             exact absurd rfl u0)
          | (have u0 : ¬ lk (sgn t j) = nI w := h13
             refine b_ret t186_20 rfl (hq _ ((f1.mono (by decide) (by decide)).tr (f2.mono (by decide) (by decide))) ?_ ?_)
             · have : pne t w (.inl j) = .inr j := if_neg (fun e => u0 ((lk_e hsg hw hw0).mpr e))
               rw [this]
               exact ⟨j, h2, Or.inl rfl⟩
             · exact ⟨j, if_neg (fun e => u0 ((lk_e hsg hw hw0).mpr e))⟩)
  · have h11 := hS.fl h120
    refine en186 rfl rfl ?_
    refine g_p t186_0 rfl ?_
    refine r_geti t186_1 (f80 hF) rfl rfl ?_
    refine g_p t186_4 rfl ?_
    refine g_cne t186_5 (fun h5 => ?_) (fun h5 => ?_)
    · refine g_p t186_16 rfl ?_
      refine r_cv t186_17 (f80 hF) rfl ?_
      refine c184f (by exact hF) h11 ?_
      refine k_v ?_ rfl
      exact b_ret t186_20 rfl (hq _ FM.rf (hS.pn hw0 hwd) (pne_dd hS hw0 hwd))
    · exact absurd h5 h11
theorem c187 (hF : Fx s) (hX : MT T nT B t s) {j : Nat} (hj : j ≤ t.length) (e10 : ri s 80 10 = nI j) (hq : Q (some (.int (bI (decide (48 ≤ sgn t j) && decide (sgn t j ≤ 57))))) (mR s)) : gE X d 187 [.ref 80] (mR s) Q := by
  have hsg : t.getD j 0 < 256 := hX.sg j
  obtain ⟨x1, x2, x3, x4, x5, x6, x7, x8, x9, x10⟩ := id hX
  refine en187 rfl ?_
  refine g_p t187_0 rfl ?_
  refine r_gete t187_1 (f80 hF) rfl rfl e10 ?_
  refine g_p t187_4 rfl ?_
  refine r_gete t187_5 (f80 hF) rfl rfl x3 ?_
  refine n_cge t187_8 (by omega) (by omega) (fun h8 => ?_) (fun h8 => ?_)
  · refine g_k (n := 0) t187_53 rfl rfl ?_
    exact b_ret t187_54 (by
      first
        | (have u0 : t.length ≤ j := h8
           have : sgn t j = 0 := by unfold sgn; rw [List.getD, List.getElem?_eq_none u0]; rfl
           rw [this]; rfl)
        | (have u0 : sb (t.getD j 0) < nI 48 := h27
           have h9 := (sb_lt _ hsg).mp u0
           rw [← Bool.decide_and, decide_eq_false (by show ¬ (48 ≤ t.getD j 0 ∧ t.getD j 0 ≤ 57); omega)]; rfl)
        | (have u0 : ¬ sb (t.getD j 0) < nI 48 := h27
           have u1 : nI 57 < sb (t.getD j 0) := h46
           have h9 := (sb_gt _ hsg).mp u1
           rw [← Bool.decide_and, decide_eq_false (by show ¬ (48 ≤ t.getD j 0 ∧ t.getD j 0 ≤ 57); omega)]; rfl)
        | (have u0 : ¬ sb (t.getD j 0) < nI 48 := h27
           have u1 : ¬ nI 57 < sb (t.getD j 0) := h46
           have h8 : ¬ (t.getD j 0 < 48 ∨ 128 ≤ t.getD j 0) := fun h => u0 ((sb_lt _ hsg).mpr h)
           have h9 : ¬ (57 < t.getD j 0 ∧ t.getD j 0 < 128) := fun h => u1 ((sb_gt _ hsg).mpr h)
           rw [← Bool.decide_and, decide_eq_true (by show (48 ≤ t.getD j 0 ∧ t.getD j 0 ≤ 57); omega)]; rfl)) hq
  · refine g_p t187_11 rfl ?_
    refine r_getq t187_12 (f80 hF) rfl rfl x1 (m_rq_r (by omega)) ?_
    refine g_p t187_15 rfl ?_
    refine r_gete t187_16 (f80 hF) rfl rfl x2 ?_
    refine g_p t187_19 rfl ?_
    refine r_gete t187_20 (f80 hF) rfl rfl e10 ?_
    refine g_addn t187_23 ?_
    refine r_bale t187_24 (by exact x5) (Or.inl rfl) (by omega) (by omega) (x4 j (by omega)) ?_
    refine g_k (n := 48) t187_25 rfl rfl ?_
    refine g_clt t187_27 (fun h27 => ?_) (fun h27 => ?_)
    · refine g_k (n := 0) t187_53 rfl rfl ?_
      exact b_ret t187_54 (by
        first
          | (have u0 : t.length ≤ j := h8
             have : sgn t j = 0 := by unfold sgn; rw [List.getD, List.getElem?_eq_none u0]; rfl
             rw [this]; rfl)
          | (have u0 : sb (t.getD j 0) < nI 48 := h27
             have h9 := (sb_lt _ hsg).mp u0
             rw [← Bool.decide_and, decide_eq_false (by show ¬ (48 ≤ t.getD j 0 ∧ t.getD j 0 ≤ 57); omega)]; rfl)
          | (have u0 : ¬ sb (t.getD j 0) < nI 48 := h27
             have u1 : nI 57 < sb (t.getD j 0) := h46
             have h9 := (sb_gt _ hsg).mp u1
             rw [← Bool.decide_and, decide_eq_false (by show ¬ (48 ≤ t.getD j 0 ∧ t.getD j 0 ≤ 57); omega)]; rfl)
          | (have u0 : ¬ sb (t.getD j 0) < nI 48 := h27
             have u1 : ¬ nI 57 < sb (t.getD j 0) := h46
             have h8 : ¬ (t.getD j 0 < 48 ∨ 128 ≤ t.getD j 0) := fun h => u0 ((sb_lt _ hsg).mpr h)
             have h9 : ¬ (57 < t.getD j 0 ∧ t.getD j 0 < 128) := fun h => u1 ((sb_gt _ hsg).mpr h)
             rw [← Bool.decide_and, decide_eq_true (by show (48 ≤ t.getD j 0 ∧ t.getD j 0 ≤ 57); omega)]; rfl)) hq
    · refine g_p t187_30 rfl ?_
      refine r_getq t187_31 (f80 hF) rfl rfl x1 (m_rq_r (by omega)) ?_
      refine g_p t187_34 rfl ?_
      refine r_gete t187_35 (f80 hF) rfl rfl x2 ?_
      refine g_p t187_38 rfl ?_
      refine r_gete t187_39 (f80 hF) rfl rfl e10 ?_
      refine g_addn t187_42 ?_
      refine r_bale t187_43 (by exact x5) (Or.inl rfl) (by omega) (by omega) (x4 j (by omega)) ?_
      refine g_k (n := 57) t187_44 rfl rfl ?_
      refine g_cgt t187_46 (fun h46 => ?_) (fun h46 => ?_)
      · refine g_k (n := 0) t187_53 rfl rfl ?_
        exact b_ret t187_54 (by
          first
            | (have u0 : t.length ≤ j := h8
               have : sgn t j = 0 := by unfold sgn; rw [List.getD, List.getElem?_eq_none u0]; rfl
               rw [this]; rfl)
            | (have u0 : sb (t.getD j 0) < nI 48 := h27
               have h9 := (sb_lt _ hsg).mp u0
               rw [← Bool.decide_and, decide_eq_false (by show ¬ (48 ≤ t.getD j 0 ∧ t.getD j 0 ≤ 57); omega)]; rfl)
            | (have u0 : ¬ sb (t.getD j 0) < nI 48 := h27
               have u1 : nI 57 < sb (t.getD j 0) := h46
               have h9 := (sb_gt _ hsg).mp u1
               rw [← Bool.decide_and, decide_eq_false (by show ¬ (48 ≤ t.getD j 0 ∧ t.getD j 0 ≤ 57); omega)]; rfl)
            | (have u0 : ¬ sb (t.getD j 0) < nI 48 := h27
               have u1 : ¬ nI 57 < sb (t.getD j 0) := h46
               have h8 : ¬ (t.getD j 0 < 48 ∨ 128 ≤ t.getD j 0) := fun h => u0 ((sb_lt _ hsg).mpr h)
               have h9 : ¬ (57 < t.getD j 0 ∧ t.getD j 0 < 128) := fun h => u1 ((sb_gt _ hsg).mpr h)
               rw [← Bool.decide_and, decide_eq_true (by show (48 ≤ t.getD j 0 ∧ t.getD j 0 ≤ 57); omega)]; rfl)) hq
      · refine g_k (n := 1) t187_49 rfl rfl ?_
        refine g_goto t187_50 ?_
        exact b_ret t187_54 (by
          first
            | (have u0 : t.length ≤ j := h8
               have : sgn t j = 0 := by unfold sgn; rw [List.getD, List.getElem?_eq_none u0]; rfl
               rw [this]; rfl)
            | (have u0 : sb (t.getD j 0) < nI 48 := h27
               have h9 := (sb_lt _ hsg).mp u0
               rw [← Bool.decide_and, decide_eq_false (by show ¬ (48 ≤ t.getD j 0 ∧ t.getD j 0 ≤ 57); omega)]; rfl)
            | (have u0 : ¬ sb (t.getD j 0) < nI 48 := h27
               have u1 : nI 57 < sb (t.getD j 0) := h46
               have h9 := (sb_gt _ hsg).mp u1
               rw [← Bool.decide_and, decide_eq_false (by show ¬ (48 ≤ t.getD j 0 ∧ t.getD j 0 ≤ 57); omega)]; rfl)
            | (have u0 : ¬ sb (t.getD j 0) < nI 48 := h27
               have u1 : ¬ nI 57 < sb (t.getD j 0) := h46
               have h8 : ¬ (t.getD j 0 < 48 ∨ 128 ≤ t.getD j 0) := fun h => u0 ((sb_lt _ hsg).mpr h)
               have h9 : ¬ (57 < t.getD j 0 ∧ t.getD j 0 < 128) := fun h => u1 ((sb_gt _ hsg).mpr h)
               rw [← Bool.decide_and, decide_eq_true (by show (48 ≤ t.getD j 0 ∧ t.getD j 0 ≤ 57); omega)]; rfl)) hq
end RZ
