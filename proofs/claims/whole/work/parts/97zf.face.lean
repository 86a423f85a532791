/-! THE FACE, 5 -/
section FE
variable {X : am_X} {d : Nat} {s : mM} {Q : Option Value → am_H → Prop} {P r w pd row day left a k q n p p2 n2 : Nat} {ps bp wp : List Nat} {x y z u : Int32} {bks : List Bk} {wds : List (List Nat)} {b : Bk} {acts se : List Act} {to : List (Nat × Nat)} {di : Nat → Nat} {l : List Nat}
theorem c142t (hF : Fx s) (hR : CR P s) (hW : CW r w pd row day left s) (hA : CA acts s) (hD : CD 34 day di s) (hB : CBk P bks bp s) (hb3 : bks.length ≤ 3) (hg : bG P bks x = some b) (hrow : row < mn P) (hd : day < 60)
    (hq : ∀ s', Fr (34 :: wA) s s' → CA (act60 acts (row, day, left)) s' → CW r w pd row (day + 1) pd s' → CD 34 (day + 1) (fun k => if k = day then row else di k) s' → Q (some (.int (sy P b row))) (mR s')) : gE X (d + 4) 142 [.ref 0, .int x] (mR s) Q := by
  have hP5 := hR.2.2.1
  have hm := mn_le hP5
  obtain ⟨hP0, k, hk, rfl, rfl⟩ := bG_t hg (by omega)
  obtain ⟨qp, qB, qT, qS, qL⟩ := hB.2.2.1 k hk
  have hW0 := hW
  obtain ⟨e1, e2, e3, e4, e5, e6⟩ := hW
  refine en142 rfl rfl ?_
  refine g_p t142_0 rfl ?_
  refine g_p t142_1 rfl ?_
  refine r_cv t142_2 (f0 hF) rfl ?_
  refine c130t (by exact hF) (by exact hR.1) hP5 hP0 (by exact hB) hk ?_
  refine k_v ?_ rfl
  refine g_asn t142_5 rfl (Nat.le_of_ble_eq_true rfl) (am_s1_2 rfl) ?_
  refine g_p t142_6 rfl ?_
  refine g_b (b := false) t142_7 rfl ?_
  refine g_p t142_10 rfl ?_
  refine r_getr t142_11 (f0 hF) rfl rfl ?_
  refine g_k (n := 1) t142_14 rfl rfl ?_
  refine r_cv t142_15 (f32 hF) rfl ?_
  refine c105 (by exact hF) (by exact e5) (by omega) ?_
  refine k_v ?_ rfl
  refine b_ne t142_18 (fun h18 => ?_) (fun h18 => ?_)
  · refine g_p t142_24 rfl ?_
    refine g_p t142_25 rfl ?_
    refine r_getr t142_26 (f0 hF) rfl rfl ?_
    refine r_cv t142_29 (f32 hF) rfl ?_
    refine c96 (by exact hF) e4 ?_
    refine k_v ?_ rfl
    refine r_cv t142_32 qB.1 rfl ?_
    refine c10 (by exact qB) (by omega) (by exact qS _ hrow) ?_
    refine k_v ?_ rfl
    refine g_isn t142_35 (Nat.le_of_ble_eq_true rfl) (am_s1_3 rfl) ?_
    refine g_p t142_36 rfl ?_
    refine r_getr t142_37 (f0 hF) rfl rfl ?_
    refine r_cv t142_40 (f32 hF) rfl ?_
    refine c106 (by exact hF) (by exact hA) (by exact hW0) (by exact hD) hd (fun s40 fr40 hA hW hD => ?_)
    refine k_0 ?_
    refine g_p t142_43 rfl ?_
    exact i_ret t142_44 rfl (hq s40 fr40 hA hW hD)
  · exact no_b (decide_eq_true (nI_le (show 1 ≤ 60 - day by omega) (by omega))) h18
theorem c142f (hF : Fx s) (hR : CR P s) (hW : CW r w pd row day left s) (hB : CBk P bks bp s) (hb3 : bks.length ≤ 3) (hd : day ≤ 60) (hno : ¬ ((bG P bks x).isSome = true ∧ day < 60)) (hq : Q (some (.int (-1000000))) (mR s)) : gE X (d + 4) 142 [.ref 0, .int x] (mR s) Q := by
  have hP5 := hR.2.2.1
  have hm := mn_le hP5
  obtain ⟨e1, e2, e3, e4, e5, e6⟩ := hW
  cases hg : bG P bks x with
  | none =>
    refine en142 rfl rfl ?_
    refine g_p t142_0 rfl ?_
    refine g_p t142_1 rfl ?_
    refine r_cv t142_2 (f0 hF) rfl ?_
    refine c130f (by exact hF) (by exact hR.1) hP5 (by exact hB) (bG_f hg) ?_
    refine k_v ?_ rfl
    refine g_asn t142_5 rfl (Nat.le_of_ble_eq_true rfl) (am_s1_2 rfl) ?_
    refine g_p t142_6 rfl ?_
    refine g_b (b := true) t142_7 rfl ?_
    refine g_p t142_21 rfl ?_
    exact i_ret t142_23 rfl hq
  | some b =>
    rw [hg] at hno
    have hd60 : day = 60 := by
      have : ¬ day < 60 := fun h => hno ⟨rfl, h⟩
      omega
    subst hd60
    obtain ⟨hP0, k, hk, rfl, rfl⟩ := bG_t hg (by omega)
    obtain ⟨qp, qB, qT, qS, qL⟩ := hB.2.2.1 k hk
    refine en142 rfl rfl ?_
    refine g_p t142_0 rfl ?_
    refine g_p t142_1 rfl ?_
    refine r_cv t142_2 (f0 hF) rfl ?_
    refine c130t (by exact hF) (by exact hR.1) hP5 hP0 (by exact hB) hk ?_
    refine k_v ?_ rfl
    refine g_asn t142_5 rfl (Nat.le_of_ble_eq_true rfl) (am_s1_2 rfl) ?_
    refine g_p t142_6 rfl ?_
    refine g_b (b := false) t142_7 rfl ?_
    refine g_p t142_10 rfl ?_
    refine r_getr t142_11 (f0 hF) rfl rfl ?_
    refine g_k (n := 1) t142_14 rfl rfl ?_
    refine r_cv t142_15 (f32 hF) rfl ?_
    refine c105 (by exact hF) (by exact e5) (by omega) ?_
    refine k_v ?_ rfl
    refine b_ne t142_18 (fun h18 => ?_) (fun h18 => ?_)
    · exact no_b h18 (decide_eq_false (by decide))
    · refine g_p t142_21 rfl ?_
      exact i_ret t142_23 rfl hq
theorem isH_t {y : Int32} (h : isH y = true) : y = 0 ∨ y = 1 := by
  unfold isH at h
  rw [Bool.or_eq_true, decide_eq_true_eq, decide_eq_true_eq] at h
  exact h
theorem c151t (hF : Fx s) (hR : CR P s) (hW : CW r w pd row day left s) (hr5 : r ≤ 5) (hw5 : w ≤ 5) (hd5 : pd ≤ 5) (hl5 : left ≤ 5) (hst : 0 < P → std P r w row = true) (hQ : CQ s) (hK : KP P r w s) (hZ : CZ s) (hB : CBk P bks bp s) (hb3 : bks.length ≤ 3) (hWl : CWl wds wp s) (hw4 : wds.length ≤ 4) (hg : bG P bks x = some b) (hg2 : wG wds y = some l) (hh : isH z = true)
    (hq : ∀ s', Fr pA s s' → CQ s' → KP P r w s' → CZ s' → Q (some (.int (wrd P z (bw P r w row left (cst P r w pd b l) (mn P))))) (mR s')) : gE X (d + 7) 151 [.ref 0, .int x, .int y, .int z] (mR s) Q := by
  have hP5 := hR.2.2.1
  have hm := mn_le hP5
  obtain ⟨hP0, k, hk, rfl, rfl⟩ := bG_t hg (by omega)
  obtain ⟨qp, qB, qT, qS, qL⟩ := hB.2.2.1 k hk
  obtain ⟨k2, hk2, rfl, rfl⟩ := wG_t hg2 (by omega)
  obtain ⟨wq, ⟨n2, wn, qN⟩, wl, w0, w8, wx⟩ := hWl.2.2 k2 hk2
  refine en151 rfl rfl rfl rfl ?_
  refine g_p t151_0 rfl ?_
  refine g_p t151_1 rfl ?_
  refine r_cv t151_2 (f0 hF) rfl ?_
  refine c130t (by exact hF) (by exact hR.1) hP5 hP0 (by exact hB) hk ?_
  refine k_v ?_ rfl
  refine g_as t151_5 rfl (Nat.le_of_ble_eq_true rfl) (am_s1_4 rfl) ?_
  refine g_p t151_7 rfl ?_
  refine g_p t151_8 rfl ?_
  refine r_cv t151_9 (f0 hF) rfl ?_
  refine c131t (by exact hF) (by exact hWl) hk2 ?_
  refine k_v ?_ rfl
  refine g_as t151_12 rfl (Nat.le_of_ble_eq_true rfl) (am_s1_5 rfl) ?_
  refine g_p t151_14 rfl ?_
  refine g_b (b := false) t151_16 rfl ?_
  refine g_p t151_19 rfl ?_
  refine g_b (b := false) t151_21 rfl ?_
  refine g_p t151_24 rfl ?_
  refine g_cs t151_25 rfl rfl rfl ?_
  refine c135 ?_
  refine k_v ?_ rfl
  refine b_ne t151_28 (fun h28 => ?_) (fun h28 => ?_)
  · refine g_p t151_33 rfl ?_
    refine r_getr t151_34 (f0 hF) rfl rfl ?_
    refine g_p t151_37 rfl ?_
    refine g_p t151_39 rfl ?_
    refine g_p t151_41 rfl ?_
    refine r_cv t151_42 (f61 hF) rfl ?_
    refine c42 (by exact hF) (by exact hR) (by exact hW) hr5 hw5 hd5 (by exact hQ) (by exact hK) qp wq (by exact qB) (by exact qS) (by exact qN) (by exact wl) wx wn w8 w0 hZ (std_t (hst hP0)).1 hl5 (isH_t hh) (fun s42 fr42 hQ hK hZ => ?_)
    refine k_v ?_ rfl
    exact i_ret t151_45 rfl (hq s42 fr42 hQ hK hZ)
  · exact no_b hh h28
theorem c151f (hF : Fx s) (hR : CR P s) (hB : CBk P bks bp s) (hb3 : bks.length ≤ 3) (hWl : CWl wds wp s) (hw4 : wds.length ≤ 4) (hno : ¬ ((bG P bks x).isSome = true ∧ (wG wds y).isSome = true ∧ isH z = true)) (hq : Q (some (.int (-1))) (mR s)) : gE X (d + 7) 151 [.ref 0, .int x, .int y, .int z] (mR s) Q := by
  have hP5 := hR.2.2.1
  have hm := mn_le hP5
  cases hg : bG P bks x with
  | none =>
    cases hg2 : wG wds y with
    | none =>
      refine en151 rfl rfl rfl rfl ?_
      refine g_p t151_0 rfl ?_
      refine g_p t151_1 rfl ?_
      refine r_cv t151_2 (f0 hF) rfl ?_
      refine c130f (by exact hF) (by exact hR.1) hP5 (by exact hB) (bG_f hg) ?_
      refine k_v ?_ rfl
      refine g_as t151_5 rfl (Nat.le_of_ble_eq_true rfl) (am_s1_4 rfl) ?_
      refine g_p t151_7 rfl ?_
      refine g_p t151_8 rfl ?_
      refine r_cv t151_9 (f0 hF) rfl ?_
      refine c131f (by exact hF) (by exact hWl) (wG_f hg2) ?_
      refine k_v ?_ rfl
      refine g_as t151_12 rfl (Nat.le_of_ble_eq_true rfl) (am_s1_5 rfl) ?_
      refine g_p t151_14 rfl ?_
      refine g_b (b := true) t151_16 rfl ?_
      refine g_p t151_31 rfl ?_
      exact i_ret t151_32 rfl hq
    | some l =>
      obtain ⟨k2, hk2, rfl, rfl⟩ := wG_t hg2 (by omega)
      obtain ⟨wq, ⟨n2, wn, qN⟩, wl, w0, w8, wx⟩ := hWl.2.2 k2 hk2
      refine en151 rfl rfl rfl rfl ?_
      refine g_p t151_0 rfl ?_
      refine g_p t151_1 rfl ?_
      refine r_cv t151_2 (f0 hF) rfl ?_
      refine c130f (by exact hF) (by exact hR.1) hP5 (by exact hB) (bG_f hg) ?_
      refine k_v ?_ rfl
      refine g_as t151_5 rfl (Nat.le_of_ble_eq_true rfl) (am_s1_4 rfl) ?_
      refine g_p t151_7 rfl ?_
      refine g_p t151_8 rfl ?_
      refine r_cv t151_9 (f0 hF) rfl ?_
      refine c131t (by exact hF) (by exact hWl) hk2 ?_
      refine k_v ?_ rfl
      refine g_as t151_12 rfl (Nat.le_of_ble_eq_true rfl) (am_s1_5 rfl) ?_
      refine g_p t151_14 rfl ?_
      refine g_b (b := true) t151_16 rfl ?_
      refine g_p t151_31 rfl ?_
      exact i_ret t151_32 rfl hq
  | some b =>
    rw [hg] at hno
    obtain ⟨hP0, k, hk, rfl, rfl⟩ := bG_t hg (by omega)
    obtain ⟨qp, qB, qT, qS, qL⟩ := hB.2.2.1 k hk
    cases hg2 : wG wds y with
    | none =>
      refine en151 rfl rfl rfl rfl ?_
      refine g_p t151_0 rfl ?_
      refine g_p t151_1 rfl ?_
      refine r_cv t151_2 (f0 hF) rfl ?_
      refine c130t (by exact hF) (by exact hR.1) hP5 hP0 (by exact hB) hk ?_
      refine k_v ?_ rfl
      refine g_as t151_5 rfl (Nat.le_of_ble_eq_true rfl) (am_s1_4 rfl) ?_
      refine g_p t151_7 rfl ?_
      refine g_p t151_8 rfl ?_
      refine r_cv t151_9 (f0 hF) rfl ?_
      refine c131f (by exact hF) (by exact hWl) (wG_f hg2) ?_
      refine k_v ?_ rfl
      refine g_as t151_12 rfl (Nat.le_of_ble_eq_true rfl) (am_s1_5 rfl) ?_
      refine g_p t151_14 rfl ?_
      refine g_b (b := false) t151_16 rfl ?_
      refine g_p t151_19 rfl ?_
      refine g_b (b := true) t151_21 rfl ?_
      refine g_p t151_31 rfl ?_
      exact i_ret t151_32 rfl hq
    | some l =>
      rw [hg2] at hno
      obtain ⟨k2, hk2, rfl, rfl⟩ := wG_t hg2 (by omega)
      obtain ⟨wq, ⟨n2, wn, qN⟩, wl, w0, w8, wx⟩ := hWl.2.2 k2 hk2
      refine en151 rfl rfl rfl rfl ?_
      refine g_p t151_0 rfl ?_
      refine g_p t151_1 rfl ?_
      refine r_cv t151_2 (f0 hF) rfl ?_
      refine c130t (by exact hF) (by exact hR.1) hP5 hP0 (by exact hB) hk ?_
      refine k_v ?_ rfl
      refine g_as t151_5 rfl (Nat.le_of_ble_eq_true rfl) (am_s1_4 rfl) ?_
      refine g_p t151_7 rfl ?_
      refine g_p t151_8 rfl ?_
      refine r_cv t151_9 (f0 hF) rfl ?_
      refine c131t (by exact hF) (by exact hWl) hk2 ?_
      refine k_v ?_ rfl
      refine g_as t151_12 rfl (Nat.le_of_ble_eq_true rfl) (am_s1_5 rfl) ?_
      refine g_p t151_14 rfl ?_
      refine g_b (b := false) t151_16 rfl ?_
      refine g_p t151_19 rfl ?_
      refine g_b (b := false) t151_21 rfl ?_
      refine g_p t151_24 rfl ?_
      refine g_cs t151_25 rfl rfl rfl ?_
      refine c135 ?_
      refine k_v ?_ rfl
      refine b_ne t151_28 (fun h28 => ?_) (fun h28 => ?_)
      · exact absurd ⟨rfl, rfl, h28⟩ hno
      · refine g_p t151_31 rfl ?_
        exact i_ret t151_32 rfl hq
theorem c152t (hF : Fx s) (hR : CR P s) (hW : CW r w pd row day left s) (hr5 : r ≤ 5) (hw5 : w ≤ 5) (hd5 : pd ≤ 5) (hl5 : left ≤ 5) (hst : 0 < P → std P r w row = true) (hQ : CQ s) (hK : KP P r w s) (hZ : CZ s) (hB : CBk P bks bp s) (hb3 : bks.length ≤ 3) (hWl : CWl wds wp s) (hw4 : wds.length ≤ 4) (hg : bG P bks x = some b) (hg2 : wG wds y = some l)
    (hq : ∀ v s', Soon P r w row left pd b l v → Fr zA s s' → CZ s' → Q (some (.int v)) (mR s')) : gE X (d + 5) 152 [.ref 0, .int x, .int y] (mR s) Q := by
  have hP5 := hR.2.2.1
  have hm := mn_le hP5
  obtain ⟨hP0, k, hk, rfl, rfl⟩ := bG_t hg (by omega)
  obtain ⟨qp, qB, qT, qS, qL⟩ := hB.2.2.1 k hk
  obtain ⟨k2, hk2, rfl, rfl⟩ := wG_t hg2 (by omega)
  obtain ⟨wq, ⟨n2, wn, qN⟩, wl, w0, w8, wx⟩ := hWl.2.2 k2 hk2
  refine en152 rfl rfl rfl ?_
  refine g_p t152_0 rfl ?_
  refine g_p t152_1 rfl ?_
  refine r_cv t152_2 (f0 hF) rfl ?_
  refine c130t (by exact hF) (by exact hR.1) hP5 hP0 (by exact hB) hk ?_
  refine k_v ?_ rfl
  refine g_asn t152_5 rfl (Nat.le_of_ble_eq_true rfl) (am_s1_3 rfl) ?_
  refine g_p t152_6 rfl ?_
  refine g_p t152_7 rfl ?_
  refine r_cv t152_8 (f0 hF) rfl ?_
  refine c131t (by exact hF) (by exact hWl) hk2 ?_
  refine k_v ?_ rfl
  refine g_as t152_11 rfl (Nat.le_of_ble_eq_true rfl) (am_s1_4 rfl) ?_
  refine g_p t152_13 rfl ?_
  refine g_b (b := false) t152_14 rfl ?_
  refine g_p t152_17 rfl ?_
  refine g_b (b := true) t152_19 rfl ?_
  refine g_p t152_26 rfl ?_
  refine r_getr t152_27 (f0 hF) rfl rfl ?_
  refine g_p t152_30 rfl ?_
  refine g_p t152_31 rfl ?_
  refine r_cv t152_33 (f61 hF) rfl ?_
  refine c44 (by exact hF) (by exact hR) (by exact hW) hr5 hw5 hd5 qp wq (by exact qB) (by exact qS) (by exact qN) (by exact wl) wn w8 w0 (hst hP0) hl5 hZ (fun v s33 hv fr33 hZ => ?_)
  refine k_v ?_ rfl
  exact i_ret t152_36 rfl (hq v s33 hv fr33 hZ)
theorem c152f (hF : Fx s) (hR : CR P s) (hB : CBk P bks bp s) (hb3 : bks.length ≤ 3) (hWl : CWl wds wp s) (hw4 : wds.length ≤ 4) (hno : ¬ ((bG P bks x).isSome = true ∧ (wG wds y).isSome = true)) (hq : Q (some (.int (-1))) (mR s)) : gE X (d + 5) 152 [.ref 0, .int x, .int y] (mR s) Q := by
  have hP5 := hR.2.2.1
  have hm := mn_le hP5
  cases hg : bG P bks x with
  | none =>
    cases hg2 : wG wds y with
    | none =>
      refine en152 rfl rfl rfl ?_
      refine g_p t152_0 rfl ?_
      refine g_p t152_1 rfl ?_
      refine r_cv t152_2 (f0 hF) rfl ?_
      refine c130f (by exact hF) (by exact hR.1) hP5 (by exact hB) (bG_f hg) ?_
      refine k_v ?_ rfl
      refine g_asn t152_5 rfl (Nat.le_of_ble_eq_true rfl) (am_s1_3 rfl) ?_
      refine g_p t152_6 rfl ?_
      refine g_p t152_7 rfl ?_
      refine r_cv t152_8 (f0 hF) rfl ?_
      refine c131f (by exact hF) (by exact hWl) (wG_f hg2) ?_
      refine k_v ?_ rfl
      refine g_as t152_11 rfl (Nat.le_of_ble_eq_true rfl) (am_s1_4 rfl) ?_
      refine g_p t152_13 rfl ?_
      refine g_b (b := true) t152_14 rfl ?_
      refine g_p t152_22 rfl ?_
      refine g_goto t152_23 ?_
      exact i_ret t152_36 rfl hq
    | some l =>
      obtain ⟨k2, hk2, rfl, rfl⟩ := wG_t hg2 (by omega)
      obtain ⟨wq, ⟨n2, wn, qN⟩, wl, w0, w8, wx⟩ := hWl.2.2 k2 hk2
      refine en152 rfl rfl rfl ?_
      refine g_p t152_0 rfl ?_
      refine g_p t152_1 rfl ?_
      refine r_cv t152_2 (f0 hF) rfl ?_
      refine c130f (by exact hF) (by exact hR.1) hP5 (by exact hB) (bG_f hg) ?_
      refine k_v ?_ rfl
      refine g_asn t152_5 rfl (Nat.le_of_ble_eq_true rfl) (am_s1_3 rfl) ?_
      refine g_p t152_6 rfl ?_
      refine g_p t152_7 rfl ?_
      refine r_cv t152_8 (f0 hF) rfl ?_
      refine c131t (by exact hF) (by exact hWl) hk2 ?_
      refine k_v ?_ rfl
      refine g_as t152_11 rfl (Nat.le_of_ble_eq_true rfl) (am_s1_4 rfl) ?_
      refine g_p t152_13 rfl ?_
      refine g_b (b := true) t152_14 rfl ?_
      refine g_p t152_22 rfl ?_
      refine g_goto t152_23 ?_
      exact i_ret t152_36 rfl hq
  | some b =>
    rw [hg] at hno
    obtain ⟨hP0, k, hk, rfl, rfl⟩ := bG_t hg (by omega)
    obtain ⟨qp, qB, qT, qS, qL⟩ := hB.2.2.1 k hk
    cases hg2 : wG wds y with
    | none =>
      refine en152 rfl rfl rfl ?_
      refine g_p t152_0 rfl ?_
      refine g_p t152_1 rfl ?_
      refine r_cv t152_2 (f0 hF) rfl ?_
      refine c130t (by exact hF) (by exact hR.1) hP5 hP0 (by exact hB) hk ?_
      refine k_v ?_ rfl
      refine g_asn t152_5 rfl (Nat.le_of_ble_eq_true rfl) (am_s1_3 rfl) ?_
      refine g_p t152_6 rfl ?_
      refine g_p t152_7 rfl ?_
      refine r_cv t152_8 (f0 hF) rfl ?_
      refine c131f (by exact hF) (by exact hWl) (wG_f hg2) ?_
      refine k_v ?_ rfl
      refine g_as t152_11 rfl (Nat.le_of_ble_eq_true rfl) (am_s1_4 rfl) ?_
      refine g_p t152_13 rfl ?_
      refine g_b (b := false) t152_14 rfl ?_
      refine g_p t152_17 rfl ?_
      refine g_b (b := false) t152_19 rfl ?_
      refine g_p t152_22 rfl ?_
      refine g_goto t152_23 ?_
      exact i_ret t152_36 rfl hq
    | some l =>
      rw [hg2] at hno
      exact absurd ⟨rfl, rfl⟩ hno
def SeeOK (P : Nat) (x y z : Int32) (i q k : Nat) : Prop := x = nI i ∧ 1 ≤ i ∧ i ≤ 6 ∧ y = nI q ∧ q < P ∧ z = nI k ∧ k ≤ 2
theorem i_rng {x : Int32} {m M : Nat} (hM : M < 2 ^ 31) (h1 : ¬ x < nI m) (hm : m < 2 ^ 31) (h2 : ¬ nI M < x) : ∃ i, m ≤ i ∧ i ≤ M ∧ x = nI i := by
  have h0 : ¬ x < 0 := fun h => h1 (Int32.lt_of_lt_of_le h (nI_pos' hm))
  obtain ⟨i, hi, rfl⟩ := nI_of h0
  refine ⟨i, ?_, ?_, rfl⟩
  · rcases Nat.lt_or_ge i m with h | h
    · exact absurd (nI_lt h hm) h1
    · exact h
  · rcases Nat.lt_or_ge M i with h | h
    · exact absurd (nI_lt h hi) h2
    · exact h
theorem c160t (hF : Fx s) (hR : CR P s) (hS : CS se s) (hk : SeeOK P x y z n q k) (hl : se.length < 12) (hq : ∀ s', Fr eA s s' → CS (se ++ [(n, q, k)]) s' → Q (some (.int (nI (se.length + 1)))) (mR s')) : gE X (d + 2) 160 [.ref 0, .int x, .int y, .int z] (mR s) Q := by
  obtain ⟨rfl, h1, h2, rfl, h3, rfl, h4⟩ := hk
  have hP5 := hR.2.2.1
  have hm := mn_le hP5
  have hPi := hR.1
  refine en160 rfl rfl rfl rfl ?_
  refine g_p t160_0 rfl ?_
  refine g_k (n := 1) t160_1 rfl rfl ?_
  refine n_clt t160_2 (by omega) (by omega) (fun h2 => ?_) (fun h2 => ?_)
  · first
      | (exfalso; omega)
      | exact no_b (inN_n h3 (by omega)) h19
  · refine g_p t160_5 rfl ?_
    refine g_k (n := 6) t160_6 rfl rfl ?_
    refine n_cgt t160_8 (by omega) (by omega) (fun h8 => ?_) (fun h8 => ?_)
    · first
        | (exfalso; omega)
        | exact no_b (inN_n h3 (by omega)) h19
    · refine g_p t160_11 rfl ?_
      refine r_getr t160_12 (f0 hF) rfl rfl ?_
      refine g_p t160_15 rfl ?_
      refine r_cv t160_16 (f19 hF) rfl ?_
      refine c75 (by exact hF) hPi hP5 ?_
      refine k_v ?_ rfl
      refine b_eq t160_19 (fun h19 => ?_) (fun h19 => ?_)
      · first
          | (exfalso; omega)
          | exact no_b (inN_n h3 (by omega)) h19
      · refine g_p t160_22 rfl ?_
        refine n_lt t160_23 (by omega) ?_
        refine g_p t160_26 rfl ?_
        refine g_k (n := 2) t160_27 rfl rfl ?_
        refine n_cle t160_28 (by omega) (by omega) (fun h28 => ?_) (fun h28 => ?_)
        · refine g_p t160_33 rfl ?_
          refine r_getr t160_34 (f0 hF) rfl rfl ?_
          refine g_p t160_37 rfl ?_
          refine g_p t160_38 rfl ?_
          refine g_p t160_39 rfl ?_
          refine r_cv t160_40 (f61 hF) rfl ?_
          refine c40 hF hS hl (fun s40 fr40 hS => ?_)
          refine k_v ?_ rfl
          exact i_ret t160_43 rfl (hq s40 fr40 hS)
        · first
            | (exfalso; omega)
            | exact no_b (inN_n h3 (by omega)) h19
theorem c160f (hF : Fx s) (hR : CR P s) (hS : CS se s) (hno : ¬ (se.length < 12 ∧ ∃ n q k, SeeOK P x y z n q k)) (hq : Q (some (.int (-1))) (mR s)) : gE X (d + 2) 160 [.ref 0, .int x, .int y, .int z] (mR s) Q := by
  have hP5 := hR.2.2.1
  have hm := mn_le hP5
  have hPi := hR.1
  refine en160 rfl rfl rfl rfl ?_
  refine g_p t160_0 rfl ?_
  refine g_k (n := 1) t160_1 rfl rfl ?_
  refine g_clt t160_2 (fun h2 => ?_) (fun h2 => ?_)
  · refine g_p t160_31 rfl ?_
    exact i_ret t160_32 rfl hq
  · refine g_p t160_5 rfl ?_
    refine g_k (n := 6) t160_6 rfl rfl ?_
    refine g_cgt t160_8 (fun h8 => ?_) (fun h8 => ?_)
    · refine g_p t160_31 rfl ?_
      exact i_ret t160_32 rfl hq
    · refine g_p t160_11 rfl ?_
      refine r_getr t160_12 (f0 hF) rfl rfl ?_
      refine g_p t160_15 rfl ?_
      refine r_cv t160_16 (f19 hF) rfl ?_
      refine c75 (by exact hF) hPi hP5 ?_
      refine k_v ?_ rfl
      refine b_eq t160_19 (fun h19 => ?_) (fun h19 => ?_)
      · refine g_p t160_31 rfl ?_
        exact i_ret t160_32 rfl hq
      · obtain ⟨q, hqP, hqe⟩ := inN_t h19 (by omega)
        refine g_p t160_22 rfl ?_
        refine g_lt t160_23 (fun h23 => ?_) (fun h23 => ?_)
        · refine g_p t160_31 rfl ?_
          exact i_ret t160_32 rfl hq
        · refine g_p t160_26 rfl ?_
          refine g_k (n := 2) t160_27 rfl rfl ?_
          refine g_cle t160_28 (fun h28 => ?_) (fun h28 => ?_)
          · refine g_p t160_33 rfl ?_
            refine r_getr t160_34 (f0 hF) rfl rfl ?_
            refine g_p t160_37 rfl ?_
            refine g_p t160_38 rfl ?_
            refine g_p t160_39 rfl ?_
            refine r_cv t160_40 (f61 hF) rfl ?_
            have h9 : 12 ≤ se.length := by
              obtain ⟨i, i1, i2, i3⟩ := i_rng (m := 1) (M := 6) (by decide) h2 (by decide) h8
              obtain ⟨k, k1, k2, k3⟩ := i_rng (x := z) (m := 0) (M := 2) (by decide) (fun h => h23 (by rw [nI_0] at h; exact h)) (by decide) (Int32.not_lt.mpr h28)
              rcases Nat.lt_or_ge se.length 12 with h | h
              · exact absurd ⟨h, i, q, k, i3, i1, i2, hqe, hqP, k3, k2⟩ hno
              · exact h
            refine c40f (by exact hF) (by exact hS) h9 ?_
            refine k_v ?_ rfl
            exact i_ret t160_43 rfl hq
          · refine g_p t160_31 rfl ?_
            exact i_ret t160_32 rfl hq
def CTo (to : List (Nat × Nat)) (s : mM) : Prop := NL s 76 (to.map fun a => a.1) ∧ NL s 78 (to.map fun a => a.2) ∧ to.length ≤ 12
theorem CTo.fr {A : List Nat} {to : List (Nat × Nat)} {s s' : mM} (h : CTo to s) (f : Fr A s s') (ha : ∀ p ∈ [76, 77, 78, 79], p ∉ A) : CTo to s' :=
  ⟨h.1.fr f (ha 76 (by decide)) (ha 77 (by decide)), h.2.1.fr f (ha 78 (by decide)) (ha 79 (by decide)), h.2.2⟩
def TelOK (P : Nat) (x y : Int32) (c k : Nat) : Prop := cdO P x = some c ∧ y = nI k ∧ k < 8
theorem c163t (hF : Fx s) (hR : CR P s) (hT : CTo to s) (hk : TelOK P x y a k) (hl : to.length < 12) (hq : ∀ s', Fr [76, 77, 78, 79] s s' → CTo (to ++ [(a, k)]) s' → Q (some (.int (nI (to.length + 1)))) (mR s')) : gE X (d + 2) 163 [.ref 0, .int x, .int y] (mR s) Q := by
  obtain ⟨h1, rfl, h2⟩ := hk
  have hP5 := hR.2.2.1
  have hm := mn_le hP5
  obtain ⟨ta, tb, tl⟩ := hT
  have la : (to.map fun a => a.1).length = to.length := List.length_map ..
  have lb : (to.map fun a => a.2).length = to.length := List.length_map ..
  have e : cdI P x = nI a := by rw [cdI_cdO, h1]; rfl
  have haN := cdO_lt h1
  refine en163 rfl rfl rfl ?_
  refine g_p t163_0 rfl ?_
  refine r_getr t163_1 (f0 hF) rfl rfl ?_
  refine g_p t163_4 rfl ?_
  refine r_cv t163_5 (f19 hF) rfl ?_
  refine c84 (by exact hF) (by exact hR.1) hP5 (by exact hR.2.2.2.2.1) ?_
  rw [e]
  refine k_v ?_ rfl
  refine g_isn t163_8 (Nat.le_of_ble_eq_true rfl) (am_s1_3 rfl) ?_
  refine g_p t163_9 rfl ?_
  refine g_p t163_10 rfl ?_
  refine g_ceq t163_11 (fun h11 => ?_) (fun h11 => ?_)
  · first
      | exact absurd h11 (nI_m1 (by omega))
      | exact no_b (inN_n h2 (by decide)) h18
      | (exfalso; omega)
  · refine g_p t163_14 rfl ?_
    refine g_cs t163_15 rfl rfl rfl ?_
    refine c132 ?_
    refine k_v ?_ rfl
    refine b_eq t163_18 (fun h18 => ?_) (fun h18 => ?_)
    · first
        | exact absurd h11 (nI_m1 (by omega))
        | exact no_b (inN_n h2 (by decide)) h18
        | (exfalso; omega)
    · refine g_p t163_21 rfl ?_
      refine r_getr t163_22 (f0 hF) rfl rfl ?_
      refine r_cv t163_25 (f76 hF) rfl ?_
      refine c29L (by exact fN76 hF) (by exact ta) ?_
      refine k_v ?_ rfl
      refine g_k (n := 12) t163_28 rfl rfl ?_
      refine n_clt t163_30 (by omega) (by omega) (fun h30 => ?_) (fun h30 => ?_)
      · refine g_p t163_35 rfl ?_
        refine r_getr t163_36 (f0 hF) rfl rfl ?_
        refine g_p t163_39 rfl ?_
        refine r_cv t163_40 (f76 hF) rfl ?_
        refine c33L (by exact fN76 hF) (by exact ta) (by omega) (fun s40 fr40 ta => ?_)
        refine k_v ?_ rfl
        have hF := Fx.fr (by exact hF) fr40
        have tb := NL.fr (p := 78) (by exact tb) fr40 (by decide) (by decide)
        refine g_p t163_43 rfl ?_
        refine g_p t163_44 rfl ?_
        refine r_getr t163_45 (f0 hF) rfl rfl ?_
        refine g_p t163_48 rfl ?_
        refine r_cv t163_49 (f78 hF) rfl ?_
        refine c33L (by exact fN78 hF) (by exact tb) (by omega) (fun s49 fr49 tb => ?_)
        refine k_v ?_ rfl
        have hF := Fx.fr (by exact hF) fr49
        have ta := NL.fr (p := 76) (by exact ta) fr49 (by decide) (by decide)
        refine g_p t163_52 rfl ?_
        refine g_p t163_53 rfl ?_
        refine r_getr t163_54 (f0 hF) rfl rfl ?_
        refine r_cv t163_57 (f76 hF) rfl ?_
        refine c29L (by exact fN76 hF) (by exact ta) ?_
        refine k_v ?_ rfl
        refine i_ret t163_60 (by rw [List.length_append, la]; rfl) (hq _ ((fr40.mono (by decide)).tr (fr49.mono (by decide))) ⟨?_, ?_, by rw [List.length_append]; exact hl⟩)
        · rw [List.map_append]; exact ta
        · rw [List.map_append]; exact tb
      · first
          | exact absurd h11 (nI_m1 (by omega))
          | exact no_b (inN_n h2 (by decide)) h18
          | (exfalso; omega)
theorem c163f (hF : Fx s) (hR : CR P s) (hT : CTo to s) (hno : ¬ (to.length < 12 ∧ ∃ a k, TelOK P x y a k)) (hq : Q (some (.int (-1))) (mR s)) : gE X (d + 2) 163 [.ref 0, .int x, .int y] (mR s) Q := by
  have hP5 := hR.2.2.1
  have hm := mn_le hP5
  obtain ⟨ta, tb, tl⟩ := hT
  have la : (to.map fun a => a.1).length = to.length := List.length_map ..
  have lb : (to.map fun a => a.2).length = to.length := List.length_map ..
  cases hc : cdO P x with
  | none =>
    have e : cdI P x = -1 := by rw [cdI_cdO, hc]; rfl
    refine en163 rfl rfl rfl ?_
    refine g_p t163_0 rfl ?_
    refine r_getr t163_1 (f0 hF) rfl rfl ?_
    refine g_p t163_4 rfl ?_
    refine r_cv t163_5 (f19 hF) rfl ?_
    refine c84 (by exact hF) (by exact hR.1) hP5 (by exact hR.2.2.2.2.1) ?_
    rw [e]
    refine k_v ?_ rfl
    refine g_isn t163_8 (Nat.le_of_ble_eq_true rfl) (am_s1_3 rfl) ?_
    refine g_p t163_9 rfl ?_
    refine g_p t163_10 rfl ?_
    refine g_ceq t163_11 (fun h11 => ?_) (fun h11 => ?_)
    · refine g_p t163_33 rfl ?_
      exact i_ret t163_34 rfl hq
    · exact absurd rfl h11
  | some c =>
    have e : cdI P x = nI c := by rw [cdI_cdO, hc]; rfl
    have hcN := cdO_lt hc
    refine en163 rfl rfl rfl ?_
    refine g_p t163_0 rfl ?_
    refine r_getr t163_1 (f0 hF) rfl rfl ?_
    refine g_p t163_4 rfl ?_
    refine r_cv t163_5 (f19 hF) rfl ?_
    refine c84 (by exact hF) (by exact hR.1) hP5 (by exact hR.2.2.2.2.1) ?_
    rw [e]
    refine k_v ?_ rfl
    refine g_isn t163_8 (Nat.le_of_ble_eq_true rfl) (am_s1_3 rfl) ?_
    refine g_p t163_9 rfl ?_
    refine g_p t163_10 rfl ?_
    refine g_ceq t163_11 (fun h11 => ?_) (fun h11 => ?_)
    · refine g_p t163_33 rfl ?_
      exact i_ret t163_34 rfl hq
    · refine g_p t163_14 rfl ?_
      refine g_cs t163_15 rfl rfl rfl ?_
      refine c132 ?_
      refine k_v ?_ rfl
      refine b_eq t163_18 (fun h18 => ?_) (fun h18 => ?_)
      · refine g_p t163_33 rfl ?_
        exact i_ret t163_34 rfl hq
      · refine g_p t163_21 rfl ?_
        refine r_getr t163_22 (f0 hF) rfl rfl ?_
        refine r_cv t163_25 (f76 hF) rfl ?_
        refine c29L (by exact fN76 hF) (by exact ta) ?_
        refine k_v ?_ rfl
        refine g_k (n := 12) t163_28 rfl rfl ?_
        refine n_clt t163_30 (by omega) (by omega) (fun h30 => ?_) (fun h30 => ?_)
        · exact absurd (by
            obtain ⟨k, hk, hke⟩ := inN_t h18 (by decide)
            exact ⟨by omega, c, k, hc, hke, hk⟩) hno
        · refine g_p t163_33 rfl ?_
          exact i_ret t163_34 rfl hq
theorem c170t (hF : Fx s) (hR : CR P s) (hW : CW r w pd row day left s) (hD : CD 34 day di s) (hd : day ≤ 60) (hk : n < day) (hdi : di n < mn P) (hq : Q (some (.int (nI (dg P (di n))))) (mR s)) : gE X (d + 3) 170 [.ref 0, .int (nI n)] (mR s) Q := by
  have hP5 := hR.2.2.1
  have hm := mn_le hP5
  obtain ⟨e1, e2, e3, e4, e5, e6⟩ := hW
  refine en170 rfl rfl ?_
  refine g_p t170_0 rfl ?_
  refine r_getr t170_1 (f0 hF) rfl rfl ?_
  refine g_p t170_4 rfl ?_
  refine r_cv t170_5 (f32 hF) rfl ?_
  refine c109 hF e5 hd ?_
  refine k_v ?_ rfl
  refine b_eq t170_8 (fun h8 => ?_) (fun h8 => ?_)
  · exact no_b (inN_n hk (by omega)) h8
  · refine g_p t170_11 rfl ?_
    refine r_getr t170_12 (f0 hF) rfl rfl ?_
    refine g_p t170_15 rfl ?_
    refine r_getr t170_16 (f0 hF) rfl rfl ?_
    refine g_p t170_19 rfl ?_
    refine r_cv t170_20 (f32 hF) rfl ?_
    refine c110 hF hD hk hd ?_
    refine k_v ?_ rfl
    refine r_cv t170_23 (f19 hF) rfl ?_
    refine c85 hF hR.1 hP5 hR.2.2.2.1 (Or.inl hdi) ?_
    refine k_v ?_ rfl
    refine g_goto t170_26 ?_
    exact i_ret t170_30 rfl hq
theorem c170f (hF : Fx s) (hR : CR P s) (hW : CW r w pd row day left s) (hd : day ≤ 60) (hno : inN day x = false) (hq : Q (some (.int (-1))) (mR s)) : gE X (d + 3) 170 [.ref 0, .int x] (mR s) Q := by
  obtain ⟨e1, e2, e3, e4, e5, e6⟩ := hW
  refine en170 rfl rfl ?_
  refine g_p t170_0 rfl ?_
  refine r_getr t170_1 (f0 hF) rfl rfl ?_
  refine g_p t170_4 rfl ?_
  refine r_cv t170_5 (f32 hF) rfl ?_
  refine c109 hF e5 hd ?_
  refine k_v ?_ rfl
  refine b_eq t170_8 (fun h8 => ?_) (fun h8 => ?_)
  · refine g_p t170_29 rfl ?_
    exact i_ret t170_30 rfl hq
  · exact no_b h8 hno
end FE
