/-! THE REFERENCE, 4: moves, evenings, what is undone -/
theorem wcm_all : ∀ P, P < 6 → ∀ c, c < mn P → ((List.range P).all fun q => (List.range P).all fun k => decide (q = k) || decide (wth P (wth P c k (pt P c q)) q 0 = wth P (wth P c q 0) k (pt P c q))) = true := dec2 (by decide +kernel)
theorem wcm {P c q k : Nat} (hP : P ≤ 5) (hc : c < mn P) (hq : q < P) (hk : k < P) (hn : q ≠ k) : wth P (wth P c k (pt P c q)) q 0 = wth P (wth P c q 0) k (pt P c q) := by
  have h := List.all_eq_true.mp (List.all_eq_true.mp (wcm_all P (by omega) c hc) q (List.mem_range.mpr hq)) k (List.mem_range.mpr hk)
  rw [Bool.or_eq_true, decide_eq_true_eq, decide_eq_true_eq] at h
  rcases h with h | h
  · exact absurd h hn
  · exact h
section RL
variable {X : am_X} {d : Nat} {s : mM} {hp : am_H} {Q : Option Value → am_H → Prop} {P c q k v r w pd row day left : Nat} {acts : List Act} {x y : Int32} {di : Nat → Nat} {b : Bk} {bks : List Bk}
theorem c225f (hF : Fx s) (hP5 : P ≤ 5) (hW : MW P r w pd row day left s) (hA : MA acts s) (hst : 0 < P → std P r w row = true) (hr5 : r ≤ 5) (hw5 : w ≤ 5) (hl5 : left ≤ 5) (hno : ¬ ∃ q k, PutOK P r w row left x y q k) (hq : Q (some (.int (-1))) (mR (wi s 80 0 (nI 0)))) : gE X (d + 3) 225 [.ref 80, .int x, .int y] (mR s) Q := by
  obtain ⟨m0, e21, e33, e34, e35, p1, p2⟩ := id hW
  refine en225 rfl rfl rfl ?_
  refine g_p t225_0 rfl ?_
  refine g_k (n := 0) t225_1 rfl rfl ?_
  refine r_puti t225_2 (f80 hF) rfl rfl ?_
  refine g_p t225_5 rfl ?_
  refine r_gete t225_6 (f80 hF) rfl rfl e35 ?_
  refine n_eq t225_9 (by omega) (fun h9 => ?_) (fun h9 => ?_)
  · refine g_p t225_62 rfl ?_
    exact i_ret t225_63 rfl hq
  · refine g_p t225_12 rfl ?_
    refine g_p t225_13 rfl ?_
    refine r_cv t225_14 (f80 hF) rfl ?_
    refine c217 (by exact hF) (by exact m0) ?_
    refine k_v ?_ rfl
    refine b_eq t225_17 (fun h17 => ?_) (fun h17 => ?_)
    · refine g_p t225_62 rfl ?_
      exact i_ret t225_63 rfl hq
    · obtain ⟨q, hqP, rfl⟩ := inN_t h17 (by omega)
      have hc := rc hst hP5 (by omega)
      have hpt := pt_lt P row q
      refine g_p t225_20 rfl ?_
      refine g_p t225_21 rfl ?_
      refine g_p t225_22 rfl ?_
      refine g_p t225_23 rfl ?_
      refine g_cs t225_26 rfl rfl rfl ?_
      refine c176i (a := 1) (b := 2) rfl rfl ?_
      refine k_v ?_ rfl
      refine b_eq t225_29 (fun h29 => ?_) (fun h29 => ?_)
      · refine g_p t225_62 rfl ?_
        exact i_ret t225_63 rfl hq
      · obtain ⟨k, hk2, rfl⟩ := isS_t (by rw [← isR_S]; exact h29)
        have hpo := hW.po hk2
        have hn := cn_le P row k
        have hcb : (if k = 1 then r else w) ≤ 5 := by split <;> assumption
        have hck := cn_k (hst (by omega)) hk2
        refine g_p t225_32 rfl ?_
        refine g_p t225_33 rfl ?_
        refine r_gete t225_34 (f80 hF) rfl rfl e33 ?_
        refine g_p t225_37 rfl ?_
        refine r_cv t225_38 (f80 hF) rfl ?_
        refine c211 (by exact hF) (by exact m0) hP5 hc hqP ?_
        refine k_v ?_ rfl
        refine n_ne t225_41 (by omega) (fun h41 => ?_) (fun h41 => ?_)
        · refine g_p t225_62 rfl ?_
          exact i_ret t225_63 rfl hq
        · refine g_p t225_44 rfl ?_
          refine g_p t225_45 rfl ?_
          refine r_gete t225_46 (f80 hF) rfl rfl e33 ?_
          refine g_p t225_49 rfl ?_
          refine r_cv t225_50 (f80 hF) rfl ?_
          refine c213 (by exact hF) (by exact m0) hP5 hc (by rcases hk2 with rfl | rfl <;> decide) ?_
          refine k_v ?_ rfl
          refine g_p t225_53 rfl ?_
          refine r_getr t225_54 (f80 hF) rfl rfl ?_
          refine g_p t225_57 rfl ?_
          refine r_iale t225_58 (f85 hF) (by decide) (by rcases hk2 with rfl | rfl <;> decide) hpo ?_
          refine n_cne t225_59 (by omega) (by omega) (fun h59 => ?_) (fun h59 => ?_)
          · exact absurd ⟨q, k, rfl, hqP, rfl, hk2, by omega, h41, by omega⟩ hno
          · refine g_p t225_62 rfl ?_
            exact i_ret t225_63 rfl hq
theorem c226t (hF : Fx s) (hP5 : P ≤ 5) (hW : MW P r w pd row day left s) (hA : MA acts s) (hst : 0 < P → std P r w row = true) (hr5 : r ≤ 5) (hw5 : w ≤ 5) (hl5 : left ≤ 5) (hk : TakOK P row left x q) (hq : ∀ s', FM mAa mAb s s' → MA (act60 acts (row, day, left)) s' → MW P r w pd (wth P row q 0) day (left - 1) s' → Q (some (.int (nI (left - 1)))) (mR s')) : gE X (d + 3) 226 [.ref 80, .int x] (mR s) Q := by
  obtain ⟨rfl, hqP, hl0, hp0⟩ := hk
  have hc := rc hst hP5 (by omega)
  have hpt := pt_lt P row q
  obtain ⟨m0, e21, e33, e34, e35, p1, p2⟩ := id hW
  have hin := inN_n hqP (by omega)
  refine en226 rfl rfl ?_
  refine g_p t226_0 rfl ?_
  refine g_k (n := 0) t226_1 rfl rfl ?_
  refine r_puti t226_2 (f80 hF) rfl rfl ?_
  refine g_p t226_5 rfl ?_
  refine r_gete t226_6 (f80 hF) rfl rfl e35 ?_
  refine n_eq t226_9 (by omega) (fun h9 => ?_) (fun h9 => ?_)
  · first
      | (exfalso; omega)
      | exact absurd h17 (by decide)
  · refine g_p t226_12 rfl ?_
    refine g_p t226_13 rfl ?_
    refine r_cv t226_14 (f80 hF) rfl ?_
    refine c217 (by exact hF) (by exact m0) ?_
    refine k_v ?_ rfl
    rw [hin]
    refine b_eq t226_17 (fun h17 => ?_) (fun h17 => ?_)
    · first
        | (exfalso; omega)
        | exact absurd h17 (by decide)
    · refine g_p t226_20 rfl ?_
      refine g_p t226_21 rfl ?_
      refine r_gete t226_22 (f80 hF) rfl rfl e33 ?_
      refine g_p t226_25 rfl ?_
      refine r_cv t226_26 (f80 hF) rfl ?_
      refine c211 (by exact hF) (by exact m0) hP5 hc hqP ?_
      refine k_v ?_ rfl
      refine n_ne t226_29 (by omega) (fun h29 => ?_) (fun h29 => ?_)
      · refine g_p t226_34 rfl ?_
        refine g_p t226_35 rfl ?_
        refine g_p t226_36 rfl ?_
        refine r_gete t226_37 (f80 hF) rfl rfl e33 ?_
        refine g_p t226_40 rfl ?_
        refine g_k (n := 0) t226_41 rfl rfl ?_
        refine r_cv t226_42 (f80 hF) rfl ?_
        refine c212 (by exact hF) (by exact m0) hP5 hc hqP ?_
        refine k_v ?_ rfl
        refine r_cv t226_45 (f80 hF) rfl ?_
        refine c224 (by exact hF) (by exact hW.w0) (by exact hA.w0) hl0 (FM.rf.m (by decide)) (fun s1 f1 hA hW => ?_)
        refine k_v ?_ rfl
        exact i_ret t226_48 rfl (hq s1 f1 hA hW)
      · first
          | (exfalso; omega)
          | exact absurd h17 (by decide)
theorem c226f (hF : Fx s) (hP5 : P ≤ 5) (hW : MW P r w pd row day left s) (hA : MA acts s) (hst : 0 < P → std P r w row = true) (hr5 : r ≤ 5) (hw5 : w ≤ 5) (hl5 : left ≤ 5) (hno : ¬ ∃ q, TakOK P row left x q) (hq : Q (some (.int (-1))) (mR (wi s 80 0 (nI 0)))) : gE X (d + 3) 226 [.ref 80, .int x] (mR s) Q := by
  obtain ⟨m0, e21, e33, e34, e35, p1, p2⟩ := id hW
  refine en226 rfl rfl ?_
  refine g_p t226_0 rfl ?_
  refine g_k (n := 0) t226_1 rfl rfl ?_
  refine r_puti t226_2 (f80 hF) rfl rfl ?_
  refine g_p t226_5 rfl ?_
  refine r_gete t226_6 (f80 hF) rfl rfl e35 ?_
  refine n_eq t226_9 (by omega) (fun h9 => ?_) (fun h9 => ?_)
  · refine g_p t226_32 rfl ?_
    exact i_ret t226_33 rfl hq
  · refine g_p t226_12 rfl ?_
    refine g_p t226_13 rfl ?_
    refine r_cv t226_14 (f80 hF) rfl ?_
    refine c217 (by exact hF) (by exact m0) ?_
    refine k_v ?_ rfl
    refine b_eq t226_17 (fun h17 => ?_) (fun h17 => ?_)
    · refine g_p t226_32 rfl ?_
      exact i_ret t226_33 rfl hq
    · obtain ⟨q, hqP, rfl⟩ := inN_t h17 (by omega)
      have hc := rc hst hP5 (by omega)
      have hpt := pt_lt P row q
      refine g_p t226_20 rfl ?_
      refine g_p t226_21 rfl ?_
      refine r_gete t226_22 (f80 hF) rfl rfl e33 ?_
      refine g_p t226_25 rfl ?_
      refine r_cv t226_26 (f80 hF) rfl ?_
      refine c211 (by exact hF) (by exact m0) hP5 hc hqP ?_
      refine k_v ?_ rfl
      refine n_ne t226_29 (by omega) (fun h29 => ?_) (fun h29 => ?_)
      · exact absurd ⟨q, rfl, hqP, by omega, h29⟩ hno
      · refine g_p t226_32 rfl ?_
        exact i_ret t226_33 rfl hq
theorem c227t (hF : Fx s) (hP5 : P ≤ 5) (hW : MW P r w pd row day left s) (hA : MA acts s) (hst : 0 < P → std P r w row = true) (hr5 : r ≤ 5) (hw5 : w ≤ 5) (hl5 : left ≤ 5) (hk : MovOK P row left x y q k) (hq : ∀ s', FM mAa mAb s s' → MA (act60 acts (row, day, left)) s' → MW P r w pd (wth P (wth P row q 0) k (pt P row q)) day (left - 1) s' → Q (some (.int (nI (left - 1)))) (mR s')) : gE X (d + 3) 227 [.ref 80, .int x, .int y] (mR s) Q := by
  obtain ⟨rfl, hqP, rfl, hkP, hl0, hp0, hp1⟩ := hk
  have hc := rc hst hP5 (by omega)
  have hpt := pt_lt P row q
  have hpt2 := pt_lt P row k
  have hcm := (std_t (hst (by omega))).1
  have hc2 : wth P row k (pt P row q) < 243 := Nat.lt_of_lt_of_le (wth_1 hP5 hcm hkP hpt).1 (mn_le hP5)
  have hqk : q ≠ k := fun e => hp0 (by rw [e]; exact hp1)
  rw [← wcm hP5 hcm hqP hkP hqk] at hq
  obtain ⟨m0, e21, e33, e34, e35, p1, p2⟩ := id hW
  have hin := inN_n hqP (by omega)
  have hin2 := inN_n hkP (by omega)
  refine en227 rfl rfl rfl ?_
  refine g_p t227_0 rfl ?_
  refine g_k (n := 0) t227_1 rfl rfl ?_
  refine r_puti t227_2 (f80 hF) rfl rfl ?_
  refine g_p t227_5 rfl ?_
  refine r_gete t227_6 (f80 hF) rfl rfl e35 ?_
  refine n_eq t227_9 (by omega) (fun h9 => ?_) (fun h9 => ?_)
  · first
      | (exfalso; omega)
      | exact absurd h17 (by decide)
      | exact absurd h25 (by decide)
  · refine g_p t227_12 rfl ?_
    refine g_p t227_13 rfl ?_
    refine r_cv t227_14 (f80 hF) rfl ?_
    refine c217 (by exact hF) (by exact m0) ?_
    refine k_v ?_ rfl
    rw [hin]
    refine b_eq t227_17 (fun h17 => ?_) (fun h17 => ?_)
    · first
        | (exfalso; omega)
        | exact absurd h17 (by decide)
        | exact absurd h25 (by decide)
    · refine g_p t227_20 rfl ?_
      refine g_p t227_21 rfl ?_
      refine r_cv t227_22 (f80 hF) rfl ?_
      refine c217 (by exact hF) (by exact m0) ?_
      refine k_v ?_ rfl
      rw [hin2]
      refine b_eq t227_25 (fun h25 => ?_) (fun h25 => ?_)
      · first
          | (exfalso; omega)
          | exact absurd h17 (by decide)
          | exact absurd h25 (by decide)
      · refine g_p t227_28 rfl ?_
        refine g_p t227_29 rfl ?_
        refine r_gete t227_30 (f80 hF) rfl rfl e33 ?_
        refine g_p t227_33 rfl ?_
        refine r_cv t227_34 (f80 hF) rfl ?_
        refine c211 (by exact hF) (by exact m0) hP5 hc hqP ?_
        refine k_v ?_ rfl
        refine n_eq t227_37 (by omega) (fun h37 => ?_) (fun h37 => ?_)
        · first
            | (exfalso; omega)
            | exact absurd h17 (by decide)
            | exact absurd h25 (by decide)
        · refine g_p t227_40 rfl ?_
          refine g_p t227_41 rfl ?_
          refine r_gete t227_42 (f80 hF) rfl rfl e33 ?_
          refine g_p t227_45 rfl ?_
          refine r_cv t227_46 (f80 hF) rfl ?_
          refine c211 (by exact hF) (by exact m0) hP5 hc hkP ?_
          refine k_v ?_ rfl
          refine n_eq t227_49 (by omega) (fun h49 => ?_) (fun h49 => ?_)
          · refine g_p t227_54 rfl ?_
            refine g_p t227_55 rfl ?_
            refine g_p t227_56 rfl ?_
            refine g_p t227_57 rfl ?_
            refine r_gete t227_58 (f80 hF) rfl rfl e33 ?_
            refine g_p t227_61 rfl ?_
            refine g_p t227_62 rfl ?_
            refine g_p t227_63 rfl ?_
            refine r_gete t227_64 (f80 hF) rfl rfl e33 ?_
            refine g_p t227_67 rfl ?_
            refine r_cv t227_68 (f80 hF) rfl ?_
            refine c211 (by exact hF) (by exact m0) hP5 hc hqP ?_
            refine k_v ?_ rfl
            refine r_cv t227_71 (f80 hF) rfl ?_
            refine c212 (by exact hF) (by exact m0) hP5 hc hkP ?_
            refine k_v ?_ rfl
            refine g_p t227_74 rfl ?_
            refine g_k (n := 0) t227_75 rfl rfl ?_
            refine r_cv t227_76 (f80 hF) rfl ?_
            refine c212 (by exact hF) (by exact m0) hP5 hc2 hqP ?_
            refine k_v ?_ rfl
            refine r_cv t227_79 (f80 hF) rfl ?_
            refine c224 (by exact hF) (by exact hW.w0) (by exact hA.w0) hl0 (FM.rf.m (by decide)) (fun s1 f1 hA hW => ?_)
            refine k_v ?_ rfl
            exact i_ret t227_82 rfl (hq s1 f1 hA hW)
          · first
              | (exfalso; omega)
              | exact absurd h17 (by decide)
              | exact absurd h25 (by decide)
theorem c227f (hF : Fx s) (hP5 : P ≤ 5) (hW : MW P r w pd row day left s) (hA : MA acts s) (hst : 0 < P → std P r w row = true) (hr5 : r ≤ 5) (hw5 : w ≤ 5) (hl5 : left ≤ 5) (hno : ¬ ∃ q k, MovOK P row left x y q k) (hq : Q (some (.int (-1))) (mR (wi s 80 0 (nI 0)))) : gE X (d + 3) 227 [.ref 80, .int x, .int y] (mR s) Q := by
  obtain ⟨m0, e21, e33, e34, e35, p1, p2⟩ := id hW
  refine en227 rfl rfl rfl ?_
  refine g_p t227_0 rfl ?_
  refine g_k (n := 0) t227_1 rfl rfl ?_
  refine r_puti t227_2 (f80 hF) rfl rfl ?_
  refine g_p t227_5 rfl ?_
  refine r_gete t227_6 (f80 hF) rfl rfl e35 ?_
  refine n_eq t227_9 (by omega) (fun h9 => ?_) (fun h9 => ?_)
  · refine g_p t227_52 rfl ?_
    exact i_ret t227_53 rfl hq
  · refine g_p t227_12 rfl ?_
    refine g_p t227_13 rfl ?_
    refine r_cv t227_14 (f80 hF) rfl ?_
    refine c217 (by exact hF) (by exact m0) ?_
    refine k_v ?_ rfl
    refine b_eq t227_17 (fun h17 => ?_) (fun h17 => ?_)
    · refine g_p t227_52 rfl ?_
      exact i_ret t227_53 rfl hq
    · obtain ⟨q, hqP, rfl⟩ := inN_t h17 (by omega)
      have hc := rc hst hP5 (by omega)
      have hpt := pt_lt P row q
      refine g_p t227_20 rfl ?_
      refine g_p t227_21 rfl ?_
      refine r_cv t227_22 (f80 hF) rfl ?_
      refine c217 (by exact hF) (by exact m0) ?_
      refine k_v ?_ rfl
      refine b_eq t227_25 (fun h25 => ?_) (fun h25 => ?_)
      · refine g_p t227_52 rfl ?_
        exact i_ret t227_53 rfl hq
      · obtain ⟨k, hkP, rfl⟩ := inN_t h25 (by omega)
        have hpt2 := pt_lt P row k
        refine g_p t227_28 rfl ?_
        refine g_p t227_29 rfl ?_
        refine r_gete t227_30 (f80 hF) rfl rfl e33 ?_
        refine g_p t227_33 rfl ?_
        refine r_cv t227_34 (f80 hF) rfl ?_
        refine c211 (by exact hF) (by exact m0) hP5 hc hqP ?_
        refine k_v ?_ rfl
        refine n_eq t227_37 (by omega) (fun h37 => ?_) (fun h37 => ?_)
        · refine g_p t227_52 rfl ?_
          exact i_ret t227_53 rfl hq
        · refine g_p t227_40 rfl ?_
          refine g_p t227_41 rfl ?_
          refine r_gete t227_42 (f80 hF) rfl rfl e33 ?_
          refine g_p t227_45 rfl ?_
          refine r_cv t227_46 (f80 hF) rfl ?_
          refine c211 (by exact hF) (by exact m0) hP5 hc hkP ?_
          refine k_v ?_ rfl
          refine n_eq t227_49 (by omega) (fun h49 => ?_) (fun h49 => ?_)
          · exact absurd ⟨q, k, rfl, hqP, rfl, hkP, by omega, h37, h49⟩ hno
          · refine g_p t227_52 rfl ?_
            exact i_ret t227_53 rfl hq
theorem c228 (hF : Fx s) (hW : MW P r w pd row day left s) (hD : CD 93 day di s) (hd : day < 60) {s0 : mM} {A B : List Nat} (hA93 : 93 ∈ A) (hB34 : 34 ∈ B) (hB35 : 35 ∈ B) (hf : FM A B s0 s) (hq : ∀ s', FM A B s0 s' → FM [93] [34, 35] s s' → MW P r w pd row (day + 1) pd s' → CD 93 (day + 1) (fun k => if k = day then row else di k) s' → Q none (mR s')) : gE X d 228 [.ref 80] (mR s) Q := by
  obtain ⟨m0, e21, e33, e34, e35, p1, p2⟩ := id hW
  refine en228 rfl ?_
  refine g_p t228_0 rfl ?_
  refine r_getr t228_1 (f80 hF) rfl rfl ?_
  refine g_p t228_4 rfl ?_
  refine r_gete t228_5 (f80 hF) rfl rfl e34 ?_
  refine g_p t228_8 rfl ?_
  refine r_gete t228_9 (f80 hF) rfl rfl e33 ?_
  refine r_iast t228_12 (f93 hF) (by decide) (by omega) ?_
  refine g_p t228_13 rfl ?_
  refine g_p t228_14 rfl ?_
  refine r_gete t228_15 (f80 hF) rfl rfl e34 ?_
  refine g_k (n := 1) t228_18 rfl rfl ?_
  refine g_addn t228_19 ?_
  refine r_puti t228_20 (f80 hF) rfl rfl ?_
  refine g_p t228_23 rfl ?_
  refine g_p t228_24 rfl ?_
  refine r_gete t228_25 (f80 hF) rfl rfl e21 ?_
  refine r_puti t228_28 (f80 hF) rfl rfl ?_
  refine v_ret t228_31 (hq _ (((hf.w hA93 (by decide)).m hB34).m hB35) (((FM.rf.w (by decide) (by decide)).m (by decide)).m (by decide)) ⟨m0, e21, e33, rfl, rfl, p1, p2⟩ (fun k hk => ?_))
  show ri _ 93 k = nI (if k = day then row else di k)
  by_cases h9 : k = day
  · rw [if_pos h9, h9, ri_wi_ne (by decide), ri_wi_ne (by decide), ri_wi_eq]
  · rw [if_neg h9, ri_wi_ne (by decide), ri_wi_ne (by decide), ri_wi_j h9]
    exact hD k (by omega)
abbrev mAc : List Nat := [93, 94, 95, 96]
abbrev mAd : List Nat := [0, 34, 35, 40]
theorem CD.fm {A B : List Nat} {p day : Nat} {di : Nat → Nat} {s s' : mM} (h : CD p day di s) (f : FM A B s s') (hp : p ∉ 80 :: A) : CD p day di s' := fun k hk => (f.g hp).trans (h k hk)
theorem c229t (hF : Fx s) (hP5 : P ≤ 5) (hW : MW P r w pd row day left s) (hA : MA acts s) (hD : CD 93 day di s) (hM : MB bks s) (hg : bG P bks x = some b) (hrow : row < mn P) (hd : day < 60)
    (hq : ∀ s', FM mAc mAd s s' → MA (act60 acts (row, day, left)) s' → MW P r w pd row (day + 1) pd s' → CD 93 (day + 1) (fun k => if k = day then row else di k) s' → Q (some (.int (sy P b row))) (mR s')) : gE X (d + 3) 229 [.ref 80, .int x] (mR s) Q := by
  obtain ⟨hP0, k, hk, hk4, rfl, hB1⟩ := bG_M hM hg
  have hc := Nat.lt_of_lt_of_le hrow (mn_le hP5)
  obtain ⟨m0, e21, e33, e34, e35, p1, p2⟩ := id hW
  refine en229 rfl rfl ?_
  refine g_p t229_0 rfl ?_
  refine g_k (n := 0) t229_1 rfl rfl ?_
  refine r_puti t229_2 (f80 hF) rfl rfl ?_
  refine g_p t229_5 rfl ?_
  refine g_p t229_6 rfl ?_
  refine r_cv t229_7 (f80 hF) rfl ?_
  refine c218B (by exact hF) (by exact m0) hP5 (by exact hM) ?_
  refine k_v ?_ rfl
  rw [hg]
  refine b_eq t229_10 (fun h10 => ?_) (fun h10 => ?_)
  · first
      | (exfalso; omega)
      | exact absurd h10 (by simp)
  · refine g_p t229_13 rfl ?_
    refine r_gete t229_14 (f80 hF) rfl rfl e34 ?_
    refine g_k (n := 60) t229_17 rfl rfl ?_
    refine n_cne t229_19 (by omega) (by omega) (fun h19 => ?_) (fun h19 => ?_)
    · refine g_p t229_26 rfl ?_
      refine g_p t229_27 rfl ?_
      refine g_p t229_28 rfl ?_
      refine r_gete t229_29 (f80 hF) rfl rfl e33 ?_
      refine r_cv t229_32 (f80 hF) rfl ?_
      refine c231 (by exact hF) (by exact m0) hP5 (by exact hB1) hk4 hc ?_
      refine k_v ?_ rfl
      refine g_isn t229_35 (Nat.le_of_ble_eq_true rfl) (am_s1_2 rfl) ?_
      refine g_p t229_36 rfl ?_
      refine r_cv t229_37 (f80 hF) rfl ?_
      refine c223 (by exact hF) (by exact hA.w0) (by exact e33) (by exact e34) (by exact e35) (fun s1 f1 hA => ?_)
      refine k_0 ?_
      have hF := Fx.fr (by exact hF) f1.1
      have m0 := (f1.f (i := 20) (by decide)).trans m0
      have e33 := (f1.f (i := 33) (by decide)).trans e33
      have e35 := (f1.f (i := 35) (by decide)).trans e35
      have e34 := (f1.f (i := 34) (by decide)).trans e34
      have e21 := (f1.f (i := 21) (by decide)).trans e21
      have p1 := (f1.g (p := 85) (i := 1) (by decide)).trans p1
      have p2 := (f1.g (p := 85) (i := 2) (by decide)).trans p2
      refine g_p t229_40 rfl ?_
      refine r_cv t229_41 (f80 hF) rfl ?_
      refine c228 (A := mAc) (B := mAd) (by exact hF) (by exact (hW.w0.fm f1 (by decide) (by decide) (by decide) (by decide) (by decide) (by decide))) (by exact ((show CD 93 day di (wi s 80 0 (nI 0)) from hD).fm f1 (by decide))) hd (by decide) (by decide) (by decide) ((FM.rf.m (by decide)).tr (f1.mono (by decide) (by decide))) (fun s2 f2 f3 hW hD => ?_)
      refine k_0 ?_
      refine g_p t229_44 rfl ?_
      exact i_ret t229_45 rfl (hq s2 f2 (hA.fm f3 (by decide) (by decide) (by decide) (by decide)) hW hD)
    · first
        | (exfalso; omega)
        | exact absurd h10 (by simp)
theorem c229f (hF : Fx s) (hP5 : P ≤ 5) (hW : MW P r w pd row day left s) (hM : MB bks s) (hd : day ≤ 60) (hno : ¬ ((bG P bks x).isSome = true ∧ day < 60)) (hq : Q (some (.int (-1000000))) (mR (wi s 80 0 (nI 0)))) : gE X (d + 3) 229 [.ref 80, .int x] (mR s) Q := by
  obtain ⟨m0, e21, e33, e34, e35, p1, p2⟩ := id hW
  refine en229 rfl rfl ?_
  refine g_p t229_0 rfl ?_
  refine g_k (n := 0) t229_1 rfl rfl ?_
  refine r_puti t229_2 (f80 hF) rfl rfl ?_
  refine g_p t229_5 rfl ?_
  refine g_p t229_6 rfl ?_
  refine r_cv t229_7 (f80 hF) rfl ?_
  refine c218B (by exact hF) (by exact m0) hP5 (by exact hM) ?_
  refine k_v ?_ rfl
  refine b_eq t229_10 (fun h10 => ?_) (fun h10 => ?_)
  · refine g_p t229_22 rfl ?_
    exact i_ret t229_25 rfl hq
  · refine g_p t229_13 rfl ?_
    refine r_gete t229_14 (f80 hF) rfl rfl e34 ?_
    refine g_k (n := 60) t229_17 rfl rfl ?_
    refine n_cne t229_19 (by omega) (by omega) (fun h19 => ?_) (fun h19 => ?_)
    · exact absurd ⟨h10, by omega⟩ hno
    · refine g_p t229_22 rfl ?_
      exact i_ret t229_25 rfl hq
theorem c230t (hF : Fx s) (hA : MA (acts ++ [(row, day, left)]) s) {row0 day0 left0 : Nat} (hW : MW P r w pd row0 day0 left0 s) (hq : ∀ s', FM [] [0, 33, 34, 35, 40] s s' → MA acts s' → MW P r w pd row day left s' → Q (some (.int (nI acts.length))) (mR s')) : gE X d 230 [.ref 80] (mR s) Q := by
  obtain ⟨a1, a2, a3⟩ := hA
  rw [List.length_append] at a1 a2
  have a2 : acts.length + 1 ≤ 60 := a2
  have a1 : ri s 80 40 = nI (acts.length + 1) := a1
  obtain ⟨g1, g2, g3⟩ := a3 acts.length (by rw [List.length_append]; exact Nat.lt_succ_self _)
  rw [gDa2] at g1 g2 g3
  obtain ⟨m0, e21, e33, e34, e35, p1, p2⟩ := id hW
  refine en230 rfl ?_
  refine g_p t230_0 rfl ?_
  refine g_k (n := 0) t230_1 rfl rfl ?_
  refine r_puti t230_2 (f80 hF) rfl rfl ?_
  refine g_p t230_5 rfl ?_
  refine r_gete t230_6 (f80 hF) rfl rfl a1 ?_
  refine n_ne t230_9 (by omega) (fun h9 => ?_) (fun h9 => ?_)
  · refine g_p t230_14 rfl ?_
    refine g_p t230_15 rfl ?_
    refine r_gete t230_16 (f80 hF) rfl rfl a1 ?_
    refine g_k (n := 1) t230_19 rfl rfl ?_
    refine g_subn t230_20 (by omega) ?_
    refine r_puti t230_21 (f80 hF) rfl rfl ?_
    refine g_p t230_24 rfl ?_
    refine g_p t230_25 rfl ?_
    refine r_getr t230_26 (f80 hF) rfl rfl ?_
    refine g_p t230_29 rfl ?_
    refine r_gete t230_30 (f80 hF) rfl rfl rfl ?_
    refine r_iale t230_33 (f94 hF) (by decide) (by omega) g1 ?_
    refine r_puti t230_34 (f80 hF) rfl rfl ?_
    refine g_p t230_37 rfl ?_
    refine g_p t230_38 rfl ?_
    refine r_getr t230_39 (f80 hF) rfl rfl ?_
    refine g_p t230_42 rfl ?_
    refine r_gete t230_43 (f80 hF) rfl rfl rfl ?_
    refine r_iale t230_46 (f95 hF) (by decide) (by omega) g2 ?_
    refine r_puti t230_47 (f80 hF) rfl rfl ?_
    refine g_p t230_50 rfl ?_
    refine g_p t230_51 rfl ?_
    refine r_getr t230_52 (f80 hF) rfl rfl ?_
    refine g_p t230_55 rfl ?_
    refine r_gete t230_56 (f80 hF) rfl rfl rfl ?_
    refine r_iale t230_59 (f96 hF) (by decide) (by omega) g3 ?_
    refine r_puti t230_60 (f80 hF) rfl rfl ?_
    refine g_p t230_63 rfl ?_
    refine r_gete t230_64 (f80 hF) rfl rfl rfl ?_
    refine i_ret t230_67 rfl (hq _ (((((FM.rf.m (by decide)).m (by decide)).m (by decide)).m (by decide)).m (by decide)) ⟨rfl, by omega, fun k hk => ?_⟩ ⟨m0, e21, rfl, rfl, rfl, p1, p2⟩)
    have := a3 k (by rw [List.length_append]; exact Nat.lt_succ_of_lt hk)
    rw [gDa1 hk] at this
    exact this
  · exfalso; omega
theorem c230f (hF : Fx s) (hA : MA [] s) (hq : Q (some (.int (-1))) (mR (wi s 80 0 (nI 0)))) : gE X d 230 [.ref 80] (mR s) Q := by
  have a1 : ri s 80 40 = nI 0 := hA.1
  refine en230 rfl ?_
  refine g_p t230_0 rfl ?_
  refine g_k (n := 0) t230_1 rfl rfl ?_
  refine r_puti t230_2 (f80 hF) rfl rfl ?_
  refine g_p t230_5 rfl ?_
  refine r_gete t230_6 (f80 hF) rfl rfl a1 ?_
  refine n_ne t230_9 (by omega) (fun h9 => ?_) (fun h9 => ?_)
  · exfalso; omega
  · refine g_p t230_12 rfl ?_
    exact i_ret t230_13 rfl hq
theorem c219t (hF : Fx s) (hP5 : P ≤ 5) (hW : MW P r w pd row day left s) (hst : 0 < P → std P r w row = true) (hqP : q < P)
    (ht : ∀ s', FM [] [0] s s' → ri s' 80 0 = nI 0 → Q (some (.int (nI (pt P row q)))) (mR s')) : gE X (d + 3) 219 [.ref 80, .int (nI q)] (mR s) Q := by
  have hc := rc hst hP5 (by omega)
  have hin := inN_n hqP (by omega)
  obtain ⟨m0, e21, e33, e34, e35, p1, p2⟩ := id hW
  refine en219 rfl rfl ?_
  refine g_p t219_0 rfl ?_
  refine g_p t219_1 rfl ?_
  refine g_p t219_2 rfl ?_
  refine r_cv t219_3 (f80 hF) rfl ?_
  refine c217 (by exact hF) (by exact m0) ?_
  refine k_v ?_ rfl
  rw [hin]
  refine b_eq t219_6 (fun h6 => ?_) (fun h6 => ?_)
  · exact absurd h6 (by decide)
  · refine g_k (n := 0) t219_9 rfl rfl ?_
    refine g_goto t219_10 ?_
    refine r_puti t219_14 (f80 hF) rfl rfl ?_
    refine g_p t219_17 rfl ?_
    refine r_gete t219_18 (f80 hF) rfl rfl rfl ?_
    refine n_le t219_21 (by omega) (fun h21 => ?_) (fun h21 => ?_)
    · refine g_p t219_28 rfl ?_
      refine g_p t219_29 rfl ?_
      refine r_gete t219_30 (f80 hF) rfl rfl e33 ?_
      refine g_p t219_33 rfl ?_
      refine r_cv t219_34 (f80 hF) rfl ?_
      refine c211 (by exact hF) (by exact m0) hP5 hc hqP ?_
      refine k_v ?_ rfl
      exact i_ret t219_37 rfl (ht _ (FM.rf.m (by decide)) rfl)
    · exfalso; omega
theorem c219f (hF : Fx s) (hP5 : P ≤ 5) (hW : MW P r w pd row day left s) (hx : inN P x = false)
    (ht : ∀ s', FM [] [0] s s' → ri s' 80 0 = nI 1 → Q (some (.int (nI 0))) (mR s')) : gE X (d + 3) 219 [.ref 80, .int x] (mR s) Q := by
  obtain ⟨m0, e21, e33, e34, e35, p1, p2⟩ := id hW
  refine en219 rfl rfl ?_
  refine g_p t219_0 rfl ?_
  refine g_p t219_1 rfl ?_
  refine g_p t219_2 rfl ?_
  refine r_cv t219_3 (f80 hF) rfl ?_
  refine c217 (by exact hF) (by exact m0) ?_
  refine k_v ?_ rfl
  rw [hx]
  refine b_eq t219_6 (fun h6 => ?_) (fun h6 => ?_)
  · refine g_k (n := 1) t219_13 rfl rfl ?_
    refine r_puti t219_14 (f80 hF) rfl rfl ?_
    refine g_p t219_17 rfl ?_
    refine r_gete t219_18 (f80 hF) rfl rfl rfl ?_
    refine n_le t219_21 (by omega) (fun h21 => ?_) (fun h21 => ?_)
    · exfalso; omega
    · refine g_k (n := 0) t219_24 rfl rfl ?_
      refine g_goto t219_25 ?_
      exact i_ret t219_37 rfl (ht _ (FM.rf.m (by decide)) rfl)
  · exact absurd h6 (by decide)
theorem c232 (hF : Fx s) (hP5 : P ≤ 5) (m0 : ri s 80 20 = nI P) (hM : MB bks s) (hq : Q (some (.int (sayv P (bG P bks x) (cdO P y)))) (mR (wi s 80 0 (nI 0)))) : gE X (d + 4) 232 [.ref 80, .int x, .int y] (mR s) Q := by
  cases hz : cdO P y with
  | none =>
    have hz2 : cdI P y = -1 := by rw [cdI_cdO, hz]; rfl
    cases hg : bG P bks x with
    | none =>
      rw [hz, hg] at hq
      refine en232 rfl rfl rfl ?_
      refine g_p t232_0 rfl ?_
      refine g_k (n := 0) t232_1 rfl rfl ?_
      refine r_puti t232_2 (f80 hF) rfl rfl ?_
      refine g_p t232_5 rfl ?_
      refine g_p t232_6 rfl ?_
      refine r_cv t232_7 (f80 hF) rfl ?_
      refine c216 (by exact hF) (by exact m0) hP5 ?_
      refine k_v ?_ rfl
      rw [hz2]
      refine g_isn t232_10 (Nat.le_of_ble_eq_true rfl) (am_s1_3 rfl) ?_
      refine g_p t232_11 rfl ?_
      refine g_p t232_12 rfl ?_
      refine r_cv t232_13 (f80 hF) rfl ?_
      refine c218B (by exact hF) (by exact m0) hP5 (by exact hM) ?_
      refine k_v ?_ rfl
      rw [hg]
      refine b_eq t232_16 (fun h16 => ?_) (fun h16 => ?_)
      · refine g_p t232_33 rfl ?_
        exact i_ret t232_36 rfl hq
      · refine g_p t232_19 rfl ?_
        refine g_p t232_20 rfl ?_
        refine g_ceq t232_21 (fun h21 => ?_) (fun h21 => ?_)
        · refine g_p t232_33 rfl ?_
          exact i_ret t232_36 rfl hq
        · exact absurd rfl h21
    | some b =>
      rw [hz, hg] at hq
      refine en232 rfl rfl rfl ?_
      refine g_p t232_0 rfl ?_
      refine g_k (n := 0) t232_1 rfl rfl ?_
      refine r_puti t232_2 (f80 hF) rfl rfl ?_
      refine g_p t232_5 rfl ?_
      refine g_p t232_6 rfl ?_
      refine r_cv t232_7 (f80 hF) rfl ?_
      refine c216 (by exact hF) (by exact m0) hP5 ?_
      refine k_v ?_ rfl
      rw [hz2]
      refine g_isn t232_10 (Nat.le_of_ble_eq_true rfl) (am_s1_3 rfl) ?_
      refine g_p t232_11 rfl ?_
      refine g_p t232_12 rfl ?_
      refine r_cv t232_13 (f80 hF) rfl ?_
      refine c218B (by exact hF) (by exact m0) hP5 (by exact hM) ?_
      refine k_v ?_ rfl
      rw [hg]
      refine b_eq t232_16 (fun h16 => ?_) (fun h16 => ?_)
      · refine g_p t232_33 rfl ?_
        exact i_ret t232_36 rfl hq
      · refine g_p t232_19 rfl ?_
        refine g_p t232_20 rfl ?_
        refine g_ceq t232_21 (fun h21 => ?_) (fun h21 => ?_)
        · refine g_p t232_33 rfl ?_
          exact i_ret t232_36 rfl hq
        · exact absurd rfl h21
  | some c =>
    have hz2 : cdI P y = nI c := by rw [cdI_cdO, hz]; rfl
    have hcm := cdO_lt hz
    have hc := Nat.lt_of_lt_of_le hcm (mn_le hP5)
    cases hg : bG P bks x with
    | none =>
      rw [hz, hg] at hq
      refine en232 rfl rfl rfl ?_
      refine g_p t232_0 rfl ?_
      refine g_k (n := 0) t232_1 rfl rfl ?_
      refine r_puti t232_2 (f80 hF) rfl rfl ?_
      refine g_p t232_5 rfl ?_
      refine g_p t232_6 rfl ?_
      refine r_cv t232_7 (f80 hF) rfl ?_
      refine c216 (by exact hF) (by exact m0) hP5 ?_
      refine k_v ?_ rfl
      rw [hz2]
      refine g_isn t232_10 (Nat.le_of_ble_eq_true rfl) (am_s1_3 rfl) ?_
      refine g_p t232_11 rfl ?_
      refine g_p t232_12 rfl ?_
      refine r_cv t232_13 (f80 hF) rfl ?_
      refine c218B (by exact hF) (by exact m0) hP5 (by exact hM) ?_
      refine k_v ?_ rfl
      rw [hg]
      refine b_eq t232_16 (fun h16 => ?_) (fun h16 => ?_)
      · refine g_p t232_33 rfl ?_
        exact i_ret t232_36 rfl hq
      · exact absurd h16 (by decide)
    | some b =>
      rw [hz, hg] at hq
      obtain ⟨hP0, k, hk, hk4, rfl, hB1⟩ := bG_M hM hg
      refine en232 rfl rfl rfl ?_
      refine g_p t232_0 rfl ?_
      refine g_k (n := 0) t232_1 rfl rfl ?_
      refine r_puti t232_2 (f80 hF) rfl rfl ?_
      refine g_p t232_5 rfl ?_
      refine g_p t232_6 rfl ?_
      refine r_cv t232_7 (f80 hF) rfl ?_
      refine c216 (by exact hF) (by exact m0) hP5 ?_
      refine k_v ?_ rfl
      rw [hz2]
      refine g_isn t232_10 (Nat.le_of_ble_eq_true rfl) (am_s1_3 rfl) ?_
      refine g_p t232_11 rfl ?_
      refine g_p t232_12 rfl ?_
      refine r_cv t232_13 (f80 hF) rfl ?_
      refine c218B (by exact hF) (by exact m0) hP5 (by exact hM) ?_
      refine k_v ?_ rfl
      rw [hg]
      refine b_eq t232_16 (fun h16 => ?_) (fun h16 => ?_)
      · first
          | (have u0 : (some b).isSome = false := h16
             exact absurd u0 (by simp))
          | exact absurd h21 (nI_m1 (by omega))
      · refine g_p t232_19 rfl ?_
        refine g_p t232_20 rfl ?_
        refine g_ceq t232_21 (fun h21 => ?_) (fun h21 => ?_)
        · first
            | (have u0 : (some b).isSome = false := h16
               exact absurd u0 (by simp))
            | exact absurd h21 (nI_m1 (by omega))
        · refine g_p t232_24 rfl ?_
          refine g_p t232_25 rfl ?_
          refine g_p t232_26 rfl ?_
          refine r_cv t232_27 (f80 hF) rfl ?_
          refine c231 (by exact hF) (by exact m0) hP5 (by exact hB1) hk4 hc ?_
          refine k_v ?_ rfl
          refine g_goto t232_30 ?_
          exact i_ret t232_36 rfl hq
end RL
