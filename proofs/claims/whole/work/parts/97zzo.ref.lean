/-! THE REFERENCE, 6: places apart, frost, images, counts -/
section RO
variable {X : am_X} {d : Nat} {s : mM} {hp : am_H} {Q : Option Value → am_H → Prop} {P c q k v r w pd row day left n B wn ln tl : Nat} {acts se : List Act} {to : List (Nat × Nat)} {x y z : Int32} {di : Nat → Nat} {b : Bk} {bks : List Bk}
theorem c259f (hF : Fx s) (m0 : ri s 80 20 = nI 0) (hq : Q (some (.int (-1))) (mR (wi s 80 0 (nI 0)))) : gE X d 259 [.ref 80] (mR s) Q := by
  refine en259 rfl ?_
  refine g_p t259_0 rfl ?_
  refine g_k (n := 0) t259_1 rfl rfl ?_
  refine r_puti t259_2 (f80 hF) rfl rfl ?_
  refine g_p t259_5 rfl ?_
  refine r_gete t259_6 (f80 hF) rfl rfl m0 ?_
  refine n_ne t259_9 (by omega) (fun h9 => ?_) (fun h9 => ?_)
  · exact absurd rfl h9
  · refine g_p t259_12 rfl ?_
    exact i_ret t259_13 rfl hq
theorem c259t (hF : Fx s) (hP5 : P ≤ 5) (hP0 : 0 < P) (m0 : ri s 80 20 = nI P) (hT : MTo to s) (hto : ∀ t ∈ to, t.1 < mn P ∧ t.2 < 8) (hq : Q (some (.int (coI (apb P to (2 ^ P))))) (mR (wi s 80 0 (nI 0)))) : gE X (d + 3) 259 [.ref 80] (mR s) Q := by
  have hm := mn_le hP5
  have s1 := hT.1
  have s2 := hT.2.1
  have hp5 : 2 ^ P ≤ 2 ^ 5 := Nat.pow_le_pow_right (by decide) hP5
  have h32 : (2 : Nat) ^ 5 = 32 := by decide
  have I : ∀ n, n < 2 ^ P → ∀ bb, am_nl (.int bb) = true → (gG X (d + 3) 259 122 [.ref 80, .int bb, .int (nI n), .int (bI (tpi P to n to.length)), .int (nI to.length), .int (nI 0)] [] (mR (wi s 80 0 (nI 0))) Q) → True := fun _ _ _ _ _ => trivial
  have M2 : ∀ n, n < 2 ^ P → ∀ bb, (∀ z5, gG X (d + 3) 259 122 [.ref 80, .int bb, .int (nI n), .int (bI (tpi P to n to.length)), .int (nI to.length), z5] [] (mR (wi s 80 0 (nI 0))) Q) → ∀ z5, gG X (d + 3) 259 52 [.ref 80, .int bb, .int (nI n), .int (nI 1), .int (nI 0), z5] [] (mR (wi s 80 0 (nI 0))) Q := by
    intro n hn bb hend
    have K : ∀ j i : Nat, i + j = to.length → ∀ z5, gG X (d + 3) 259 52 [.ref 80, .int bb, .int (nI n), .int (bI (tpi P to n i)), .int (nI i), z5] [] (mR (wi s 80 0 (nI 0))) Q := by
      intro j
      induction j with
      | zero =>
        intro i hj z5
        have hj : i = to.length := by omega
        subst hj
        refine g_p t259_52 rfl ?_
        refine g_p t259_54 rfl ?_
        refine r_gete t259_55 (f80 hF) rfl rfl s1 ?_
        refine n_cge t259_58 (by omega) (by omega) (fun h58 => ?_) (fun h58 => ?_)
        · exact hend _
        · exfalso; omega
      | succ j ih =>
        intro i hj z5
        have hil : i < to.length := by omega
        have ih := ih (i + 1) (by omega)
        unfold tpi at ih
        have g1 := (hT.2.2 i hil).2
        have L : ∀ m k : Nat, k + m = i → gG X (d + 3) 259 64 [.ref 80, .int bb, .int (nI n), .int (bI (tpi P to n i && tpk P to n i k)), .int (nI i), .int (nI k)] [] (mR (wi s 80 0 (nI 0))) Q := by
          intro m
          induction m with
          | zero =>
            intro k hk
            have hk : k = i := by omega
            subst hk
            refine g_p t259_64 rfl ?_
            refine g_p t259_66 rfl ?_
            refine n_cge t259_68 (by omega) (by omega) (fun h68 => ?_) (fun h68 => ?_)
            · refine g_incn (n := 1) t259_116 rfl rfl (Nat.le_of_ble_eq_true rfl) (am_s1_4 rfl) ?_
              refine g_goto t259_119 ?_
              exact ih _
            · exfalso; omega
          | succ m ih2 =>
            intro k hk
            have hkl : k < to.length := by omega
            have g2 := (hT.2.2 k hkl).2
            have b1 : (to.getD i (0, 0)).2 < 8 := (hto _ (by simp [List.getD, hil])).2
            have b2 : (to.getD k (0, 0)).2 < 8 := (hto _ (by simp [List.getD, hkl])).2
            have ih2 := ih2 (k + 1) (by omega)
            unfold tpk at ih2
            rw [← Bool.and_assoc] at ih2
            refine g_p t259_64 rfl ?_
            refine g_p t259_66 rfl ?_
            refine n_cge t259_68 (by omega) (by omega) (fun h68 => ?_) (fun h68 => ?_)
            · exfalso; omega
            · refine g_p t259_71 rfl ?_
              refine b_eq t259_72 (fun h72 => ?_) (fun h72 => ?_)
              · refine g_k (n := 0) t259_108 rfl rfl ?_
                refine g_isn t259_109 (Nat.le_of_ble_eq_true rfl) (am_s1_3 rfl) ?_
                refine g_incn (n := 1) t259_110 rfl rfl (Nat.le_of_ble_eq_true rfl) (am_s1_5 rfl) ?_
                refine g_goto t259_113 ?_
                first
                  | (rw [h72, Bool.false_and] at ih2
                     exact ih2)
                  | (have u0 : (to.getD i (0, 0)).2 = (to.getD k (0, 0)).2 := h89
                     rw [h72, Bool.true_and, tp1, decide_eq_true u0, Bool.true_or] at ih2
                     exact ih2)
                  | (have u0 : ¬ (to.getD i (0, 0)).2 = (to.getD k (0, 0)).2 := h89
                     rw [h72, Bool.true_and, tp1, decide_eq_false u0, Bool.false_or, h101] at ih2
                     exact ih2)
              · refine g_p t259_75 rfl ?_
                refine r_getr t259_76 (f80 hF) rfl rfl ?_
                refine g_p t259_79 rfl ?_
                refine r_iale t259_81 (f110 hF) (by decide) (by omega) g1 ?_
                refine g_p t259_82 rfl ?_
                refine r_getr t259_83 (f80 hF) rfl rfl ?_
                refine g_p t259_86 rfl ?_
                refine r_iale t259_88 (f110 hF) (by decide) (by omega) g2 ?_
                refine n_ceq t259_89 (by omega) (by omega) (fun h89 => ?_) (fun h89 => ?_)
                · refine g_k (n := 1) t259_104 rfl rfl ?_
                  refine g_goto t259_105 ?_
                  refine g_isn t259_109 (Nat.le_of_ble_eq_true rfl) (am_s1_3 rfl) ?_
                  refine g_incn (n := 1) t259_110 rfl rfl (Nat.le_of_ble_eq_true rfl) (am_s1_5 rfl) ?_
                  refine g_goto t259_113 ?_
                  first
                    | (rw [h72, Bool.false_and] at ih2
                       exact ih2)
                    | (have u0 : (to.getD i (0, 0)).2 = (to.getD k (0, 0)).2 := h89
                       rw [h72, Bool.true_and, tp1, decide_eq_true u0, Bool.true_or] at ih2
                       exact ih2)
                    | (have u0 : ¬ (to.getD i (0, 0)).2 = (to.getD k (0, 0)).2 := h89
                       rw [h72, Bool.true_and, tp1, decide_eq_false u0, Bool.false_or, h101] at ih2
                       exact ih2)
                · refine g_p t259_92 rfl ?_
                  refine g_p t259_93 rfl ?_
                  refine g_p t259_94 rfl ?_
                  refine g_p t259_96 rfl ?_
                  refine r_cv t259_98 (f80 hF) rfl ?_
                  refine c258 (by exact hF) hP5 (by exact m0) (by exact hT) hto (by omega) hil hkl ?_
                  refine k_v ?_ rfl
                  refine b_eq t259_101 (fun h101 => ?_) (fun h101 => ?_)
                  · refine g_k (n := 0) t259_108 rfl rfl ?_
                    refine g_isn t259_109 (Nat.le_of_ble_eq_true rfl) (am_s1_3 rfl) ?_
                    refine g_incn (n := 1) t259_110 rfl rfl (Nat.le_of_ble_eq_true rfl) (am_s1_5 rfl) ?_
                    refine g_goto t259_113 ?_
                    first
                      | (rw [h72, Bool.false_and] at ih2
                         exact ih2)
                      | (have u0 : (to.getD i (0, 0)).2 = (to.getD k (0, 0)).2 := h89
                         rw [h72, Bool.true_and, tp1, decide_eq_true u0, Bool.true_or] at ih2
                         exact ih2)
                      | (have u0 : ¬ (to.getD i (0, 0)).2 = (to.getD k (0, 0)).2 := h89
                         rw [h72, Bool.true_and, tp1, decide_eq_false u0, Bool.false_or, h101] at ih2
                         exact ih2)
                  · refine g_k (n := 1) t259_104 rfl rfl ?_
                    refine g_goto t259_105 ?_
                    refine g_isn t259_109 (Nat.le_of_ble_eq_true rfl) (am_s1_3 rfl) ?_
                    refine g_incn (n := 1) t259_110 rfl rfl (Nat.le_of_ble_eq_true rfl) (am_s1_5 rfl) ?_
                    refine g_goto t259_113 ?_
                    first
                      | (rw [h72, Bool.false_and] at ih2
                         exact ih2)
                      | (have u0 : (to.getD i (0, 0)).2 = (to.getD k (0, 0)).2 := h89
                         rw [h72, Bool.true_and, tp1, decide_eq_true u0, Bool.true_or] at ih2
                         exact ih2)
                      | (have u0 : ¬ (to.getD i (0, 0)).2 = (to.getD k (0, 0)).2 := h89
                         rw [h72, Bool.true_and, tp1, decide_eq_false u0, Bool.false_or, h101] at ih2
                         exact ih2)
        refine g_p t259_52 rfl ?_
        refine g_p t259_54 rfl ?_
        refine r_gete t259_55 (f80 hF) rfl rfl s1 ?_
        refine n_cge t259_58 (by omega) (by omega) (fun h58 => ?_) (fun h58 => ?_)
        · exfalso; omega
        · refine g_k (n := 0) t259_61 rfl rfl ?_
          refine g_is t259_62 (Nat.le_of_ble_eq_true rfl) (am_s1_5 rfl) ?_
          have := L i 0 (by omega)
          unfold tpk at this
          rw [Bool.and_true] at this
          exact this
    exact K to.length 0 (by omega)
  have K : ∀ j n : Nat, n + j = 2 ^ P → ∀ z3 z4 z5, am_nl z3 = true → am_nl z4 = true → gG X (d + 3) 259 18 [.ref 80, .int (coI (apb P to n)), .int (nI n), z3, z4, z5] [] (mR (wi s 80 0 (nI 0))) Q := by
    intro j
    induction j with
    | zero =>
      intro n hj z3 z4 z5 n3 n4
      have hj : n = 2 ^ P := by omega
      subst hj
      refine g_p t259_18 rfl ?_
      refine g_k (n := 1) t259_19 rfl rfl ?_
      refine g_p t259_20 rfl ?_
      refine r_gete t259_21 (f80 hF) rfl rfl m0 ?_
      refine g_ishl t259_24 ?_
      rw [shl1 P (by omega)]
      refine n_cge t259_25 (by omega) (by omega) (fun h25 => ?_) (fun h25 => ?_)
      · refine g_p t259_134 rfl ?_
        exact i_ret t259_135 rfl hq
      · exfalso; omega
    | succ j ih =>
      intro n hj z3 z4 z5 n3 n4
      have hn : n < 2 ^ P := by omega
      have ih := ih (n + 1) (by omega)
      unfold apb at ih
      have hlt := fun c => apb_lt (P := P) (to := to) n c
      have hpc := pcn_le n
      cases he : apb P to n with
      | none =>
        rw [he] at ih
        show gG X (d + 3) 259 18 [.ref 80, .int (-1), .int (nI n), z3, z4, z5] [] (mR (wi s 80 0 (nI 0))) Q
        refine g_p t259_18 rfl ?_
        refine g_k (n := 1) t259_19 rfl rfl ?_
        refine g_p t259_20 rfl ?_
        refine r_gete t259_21 (f80 hF) rfl rfl m0 ?_
        refine g_ishl t259_24 ?_
        rw [shl1 P (by omega)]
        refine n_cge t259_25 (by omega) (by omega) (fun h25 => ?_) (fun h25 => ?_)
        · exfalso; omega
        · refine g_p t259_28 rfl ?_
          refine g_p t259_29 rfl ?_
          refine g_ceq t259_30 (fun h30 => ?_) (fun h30 => ?_)
          · refine g_k (n := 1) t259_47 rfl rfl ?_
            refine g_isn t259_48 (Nat.le_of_ble_eq_true rfl) (am_s1_3 rfl) ?_
            refine g_k (n := 0) t259_49 rfl rfl ?_
            refine g_is t259_50 (Nat.le_of_ble_eq_true rfl) (am_s1_4 rfl) ?_
            refine M2 n hn (-1) (fun z5 => ?_) _
            refine g_p t259_122 rfl ?_
            refine b_eq t259_123 (fun h123 => ?_) (fun h123 => ?_)
            · rw [if_neg (fun h => no_b h.2 h123)] at ih
              refine g_incn (n := 1) t259_128 rfl rfl (Nat.le_of_ble_eq_true rfl) (am_s1_2 rfl) ?_
              refine g_goto t259_131 ?_
              exact ih _ _ _ rfl rfl
            · rw [if_pos ⟨rfl, h123⟩] at ih
              refine g_p t259_126 rfl ?_
              refine g_isn t259_127 (Nat.le_of_ble_eq_true rfl) (am_s1_1 rfl) ?_
              refine g_incn (n := 1) t259_128 rfl rfl (Nat.le_of_ble_eq_true rfl) (am_s1_2 rfl) ?_
              refine g_goto t259_131 ?_
              exact ih _ _ _ rfl rfl
          · exact absurd rfl h30
      | some m =>
        rw [he] at ih
        have hmn := hlt m he
        have hpc2 := pcn_le m
        show gG X (d + 3) 259 18 [.ref 80, .int (nI m), .int (nI n), z3, z4, z5] [] (mR (wi s 80 0 (nI 0))) Q
        refine g_p t259_18 rfl ?_
        refine g_k (n := 1) t259_19 rfl rfl ?_
        refine g_p t259_20 rfl ?_
        refine r_gete t259_21 (f80 hF) rfl rfl m0 ?_
        refine g_ishl t259_24 ?_
        rw [shl1 P (by omega)]
        refine n_cge t259_25 (by omega) (by omega) (fun h25 => ?_) (fun h25 => ?_)
        · exfalso; omega
        · refine g_p t259_28 rfl ?_
          refine g_p t259_29 rfl ?_
          refine g_ceq t259_30 (fun h30 => ?_) (fun h30 => ?_)
          · refine g_k (n := 1) t259_47 rfl rfl ?_
            refine g_isn t259_48 (Nat.le_of_ble_eq_true rfl) (am_s1_3 rfl) ?_
            refine g_k (n := 0) t259_49 rfl rfl ?_
            refine g_is t259_50 (Nat.le_of_ble_eq_true rfl) (am_s1_4 rfl) ?_
            first
              | exact absurd h30 (nI_m1 (by omega))
              | (have u0 : pcn n < pcn m := h41
                 refine M2 n hn _ (fun z5 => ?_) _
                 refine g_p t259_122 rfl ?_
                 refine b_eq t259_123 (fun h123 => ?_) (fun h123 => ?_)
                 · rw [if_neg (fun h => no_b h.2 h123)] at ih
                   refine g_incn (n := 1) t259_128 rfl rfl (Nat.le_of_ble_eq_true rfl) (am_s1_2 rfl) ?_
                   refine g_goto t259_131 ?_
                   exact ih _ _ _ rfl rfl
                 · rw [if_pos ⟨decide_eq_true u0, h123⟩] at ih
                   refine g_p t259_126 rfl ?_
                   refine g_isn t259_127 (Nat.le_of_ble_eq_true rfl) (am_s1_1 rfl) ?_
                   refine g_incn (n := 1) t259_128 rfl rfl (Nat.le_of_ble_eq_true rfl) (am_s1_2 rfl) ?_
                   refine g_goto t259_131 ?_
                   exact ih _ _ _ rfl rfl)
          · refine g_p t259_33 rfl ?_
            refine g_cs t259_34 rfl rfl rfl ?_
            refine c266 (by omega) ?_
            refine k_v ?_ rfl
            refine g_p t259_37 rfl ?_
            refine g_cs t259_38 rfl rfl rfl ?_
            refine c266 (by omega) ?_
            refine k_v ?_ rfl
            refine n_clt t259_41 (by omega) (by omega) (fun h41 => ?_) (fun h41 => ?_)
            · refine g_k (n := 1) t259_47 rfl rfl ?_
              refine g_isn t259_48 (Nat.le_of_ble_eq_true rfl) (am_s1_3 rfl) ?_
              refine g_k (n := 0) t259_49 rfl rfl ?_
              refine g_is t259_50 (Nat.le_of_ble_eq_true rfl) (am_s1_4 rfl) ?_
              first
                | exact absurd h30 (nI_m1 (by omega))
                | (have u0 : pcn n < pcn m := h41
                   refine M2 n hn _ (fun z5 => ?_) _
                   refine g_p t259_122 rfl ?_
                   refine b_eq t259_123 (fun h123 => ?_) (fun h123 => ?_)
                   · rw [if_neg (fun h => no_b h.2 h123)] at ih
                     refine g_incn (n := 1) t259_128 rfl rfl (Nat.le_of_ble_eq_true rfl) (am_s1_2 rfl) ?_
                     refine g_goto t259_131 ?_
                     exact ih _ _ _ rfl rfl
                   · rw [if_pos ⟨decide_eq_true u0, h123⟩] at ih
                     refine g_p t259_126 rfl ?_
                     refine g_isn t259_127 (Nat.le_of_ble_eq_true rfl) (am_s1_1 rfl) ?_
                     refine g_incn (n := 1) t259_128 rfl rfl (Nat.le_of_ble_eq_true rfl) (am_s1_2 rfl) ?_
                     refine g_goto t259_131 ?_
                     exact ih _ _ _ rfl rfl)
            · refine g_goto t259_44 ?_
              refine g_incn (n := 1) t259_128 rfl rfl (Nat.le_of_ble_eq_true rfl) (am_s1_2 rfl) ?_
              refine g_goto t259_131 ?_
              rw [if_neg (fun h => h41 (of_decide_eq_true h.1))] at ih
              exact ih _ _ _ n3 n4
  refine en259 rfl ?_
  refine g_p t259_0 rfl ?_
  refine g_k (n := 0) t259_1 rfl rfl ?_
  refine r_puti t259_2 (f80 hF) rfl rfl ?_
  refine g_p t259_5 rfl ?_
  refine r_gete t259_6 (f80 hF) rfl rfl m0 ?_
  refine n_ne t259_9 (by omega) (fun h9 => ?_) (fun h9 => ?_)
  · refine g_p t259_14 rfl ?_
    refine g_isn t259_15 (Nat.le_of_ble_eq_true rfl) (am_s1_1 rfl) ?_
    refine g_k (n := 0) t259_16 rfl rfl ?_
    refine g_isn t259_17 (Nat.le_of_ble_eq_true rfl) (am_s1_2 rfl) ?_
    exact K (2 ^ P) 0 (by omega) _ _ _ rfl rfl
  · exfalso; omega
theorem c260t (hF : Fx s) (hP5 : P ≤ 5) (hW : MW P r w pd row day left s) (hst : 0 < P → std P r w row = true) (hr5 : r ≤ 5) (hw5 : w ≤ 5) (hk : FroOK P r w row x k)
    (hq : ∀ s', FM [85] [0, 40] s s' → MA [] s' → MW P (if k = 1 then r - 1 else r) (if k = 2 then w - 1 else w) pd row day left s' → Q (some (.int (nI ((if k = 1 then r else w) - 1)))) (mR s')) : gE X (d + 3) 260 [.ref 80, .int x] (mR s) Q := by
  obtain ⟨hP0, rfl, hk12, hc0⟩ := hk
  have hc := rc hst hP5 hP0
  have hn := cn_le P row k
  obtain ⟨m0, e21, e33, e34, e35, p1, p2⟩ := id hW
  rcases hk12 with rfl | rfl
  · have hc0 : cn P row 1 < r := hc0
    refine en260 rfl rfl ?_
    refine g_p t260_0 rfl ?_
    refine g_k (n := 0) t260_1 rfl rfl ?_
    refine r_puti t260_2 (f80 hF) rfl rfl ?_
    refine g_p t260_5 rfl ?_
    refine r_gete t260_6 (f80 hF) rfl rfl m0 ?_
    refine n_eq t260_9 (by omega) (fun h9 => ?_) (fun h9 => ?_)
    · first
        | exact absurd h21 (by decide)
        | (exfalso; omega)
    · refine g_p t260_12 rfl ?_
      refine g_p t260_13 rfl ?_
      refine g_p t260_14 rfl ?_
      refine g_p t260_15 rfl ?_
      refine g_cs t260_18 rfl rfl rfl ?_
      refine c176i (a := nI 1) (b := nI 2) rfl rfl ?_
      refine k_v ?_ rfl
      rw [show isR (nI 1) (nI 2) (nI 1) = true from by decide]
      refine b_eq t260_21 (fun h21 => ?_) (fun h21 => ?_)
      · first
          | exact absurd h21 (by decide)
          | (exfalso; omega)
      · refine g_p t260_24 rfl ?_
        refine g_p t260_25 rfl ?_
        refine r_gete t260_26 (f80 hF) rfl rfl e33 ?_
        refine g_p t260_29 rfl ?_
        refine r_cv t260_30 (f80 hF) rfl ?_
        refine c213 (by exact hF) (by exact m0) hP5 hc (by decide) ?_
        refine k_v ?_ rfl
        refine g_p t260_33 rfl ?_
        refine r_getr t260_34 (f80 hF) rfl rfl ?_
        refine g_p t260_37 rfl ?_
        refine r_iale t260_38 (f85 hF) (by decide) (by decide) p1 ?_
        refine n_cne t260_39 (by omega) (by omega) (fun h39 => ?_) (fun h39 => ?_)
        · refine g_p t260_44 rfl ?_
          refine r_getr t260_45 (f80 hF) rfl rfl ?_
          refine g_p t260_48 rfl ?_
          refine g_p t260_49 rfl ?_
          refine r_iale t260_50 (f85 hF) (by decide) (by decide) p1 ?_
          refine g_k (n := 1) t260_51 rfl rfl ?_
          refine g_subn t260_52 (by omega) ?_
          refine r_iast t260_53 (f85 hF) (by decide) (by decide) ?_
          refine g_p t260_54 rfl ?_
          refine g_k (n := 0) t260_55 rfl rfl ?_
          refine r_puti t260_56 (f80 hF) rfl rfl ?_
          refine g_p t260_59 rfl ?_
          refine r_getr t260_60 (f80 hF) rfl rfl ?_
          refine g_p t260_63 rfl ?_
          refine r_iale t260_64 (f85 hF) (by decide) (by decide) rfl ?_
          exact i_ret t260_65 rfl (hq _ (((FM.rf.m (by decide)).w (by decide) (by decide)).m (by decide)) ⟨rfl, by decide, fun k hk => absurd hk (by simp)⟩ ⟨m0, e21, e33, e34, e35, rfl, p2⟩)
        · first
            | exact absurd h21 (by decide)
            | (exfalso; omega)
  · have hc0 : cn P row 2 < w := hc0
    refine en260 rfl rfl ?_
    refine g_p t260_0 rfl ?_
    refine g_k (n := 0) t260_1 rfl rfl ?_
    refine r_puti t260_2 (f80 hF) rfl rfl ?_
    refine g_p t260_5 rfl ?_
    refine r_gete t260_6 (f80 hF) rfl rfl m0 ?_
    refine n_eq t260_9 (by omega) (fun h9 => ?_) (fun h9 => ?_)
    · first
        | exact absurd h21 (by decide)
        | (exfalso; omega)
    · refine g_p t260_12 rfl ?_
      refine g_p t260_13 rfl ?_
      refine g_p t260_14 rfl ?_
      refine g_p t260_15 rfl ?_
      refine g_cs t260_18 rfl rfl rfl ?_
      refine c176i (a := nI 1) (b := nI 2) rfl rfl ?_
      refine k_v ?_ rfl
      rw [show isR (nI 1) (nI 2) (nI 2) = true from by decide]
      refine b_eq t260_21 (fun h21 => ?_) (fun h21 => ?_)
      · first
          | exact absurd h21 (by decide)
          | (exfalso; omega)
      · refine g_p t260_24 rfl ?_
        refine g_p t260_25 rfl ?_
        refine r_gete t260_26 (f80 hF) rfl rfl e33 ?_
        refine g_p t260_29 rfl ?_
        refine r_cv t260_30 (f80 hF) rfl ?_
        refine c213 (by exact hF) (by exact m0) hP5 hc (by decide) ?_
        refine k_v ?_ rfl
        refine g_p t260_33 rfl ?_
        refine r_getr t260_34 (f80 hF) rfl rfl ?_
        refine g_p t260_37 rfl ?_
        refine r_iale t260_38 (f85 hF) (by decide) (by decide) p2 ?_
        refine n_cne t260_39 (by omega) (by omega) (fun h39 => ?_) (fun h39 => ?_)
        · refine g_p t260_44 rfl ?_
          refine r_getr t260_45 (f80 hF) rfl rfl ?_
          refine g_p t260_48 rfl ?_
          refine g_p t260_49 rfl ?_
          refine r_iale t260_50 (f85 hF) (by decide) (by decide) p2 ?_
          refine g_k (n := 1) t260_51 rfl rfl ?_
          refine g_subn t260_52 (by omega) ?_
          refine r_iast t260_53 (f85 hF) (by decide) (by decide) ?_
          refine g_p t260_54 rfl ?_
          refine g_k (n := 0) t260_55 rfl rfl ?_
          refine r_puti t260_56 (f80 hF) rfl rfl ?_
          refine g_p t260_59 rfl ?_
          refine r_getr t260_60 (f80 hF) rfl rfl ?_
          refine g_p t260_63 rfl ?_
          refine r_iale t260_64 (f85 hF) (by decide) (by decide) rfl ?_
          exact i_ret t260_65 rfl (hq _ (((FM.rf.m (by decide)).w (by decide) (by decide)).m (by decide)) ⟨rfl, by decide, fun k hk => absurd hk (by simp)⟩ ⟨m0, e21, e33, e34, e35, p1, rfl⟩)
        · first
            | exact absurd h21 (by decide)
            | (exfalso; omega)
theorem c260f (hF : Fx s) (hP5 : P ≤ 5) (hW : MW P r w pd row day left s) (hst : 0 < P → std P r w row = true) (hr5 : r ≤ 5) (hw5 : w ≤ 5) (hno : ¬ ∃ k, FroOK P r w row x k) (hq : Q (some (.int (-1))) (mR (wi s 80 0 (nI 0)))) : gE X (d + 3) 260 [.ref 80, .int x] (mR s) Q := by
  obtain ⟨m0, e21, e33, e34, e35, p1, p2⟩ := id hW
  refine en260 rfl rfl ?_
  refine g_p t260_0 rfl ?_
  refine g_k (n := 0) t260_1 rfl rfl ?_
  refine r_puti t260_2 (f80 hF) rfl rfl ?_
  refine g_p t260_5 rfl ?_
  refine r_gete t260_6 (f80 hF) rfl rfl m0 ?_
  refine n_eq t260_9 (by omega) (fun h9 => ?_) (fun h9 => ?_)
  · refine g_p t260_42 rfl ?_
    exact i_ret t260_43 rfl hq
  · refine g_p t260_12 rfl ?_
    refine g_p t260_13 rfl ?_
    refine g_p t260_14 rfl ?_
    refine g_p t260_15 rfl ?_
    refine g_cs t260_18 rfl rfl rfl ?_
    refine c176i (a := 1) (b := 2) rfl rfl ?_
    refine k_v ?_ rfl
    refine b_eq t260_21 (fun h21 => ?_) (fun h21 => ?_)
    · refine g_p t260_42 rfl ?_
      exact i_ret t260_43 rfl hq
    · obtain ⟨k, hk2, rfl⟩ := isS_t (by rw [← isR_S]; exact h21)
      have hpo := hW.po hk2
      have hn := cn_le P row k
      have hcb : (if k = 1 then r else w) ≤ 5 := by split <;> assumption
      have hck := cn_k (hst (by omega)) hk2
      have hc := rc hst hP5 (by omega)
      refine g_p t260_24 rfl ?_
      refine g_p t260_25 rfl ?_
      refine r_gete t260_26 (f80 hF) rfl rfl e33 ?_
      refine g_p t260_29 rfl ?_
      refine r_cv t260_30 (f80 hF) rfl ?_
      refine c213 (by exact hF) (by exact m0) hP5 hc (by omega) ?_
      refine k_v ?_ rfl
      refine g_p t260_33 rfl ?_
      refine r_getr t260_34 (f80 hF) rfl rfl ?_
      refine g_p t260_37 rfl ?_
      refine r_iale t260_38 (f85 hF) (by decide) (by omega) hpo ?_
      refine n_cne t260_39 (by omega) (by omega) (fun h39 => ?_) (fun h39 => ?_)
      · exact absurd ⟨k, by omega, rfl, hk2, by omega⟩ hno
      · refine g_p t260_42 rfl ?_
        exact i_ret t260_43 rfl hq
theorem c262t (hF : Fx s) (hP5 : P ≤ 5) (hW : MW P r w pd row day left s) (hD : CD 93 day di s) (hd : day ≤ 60) (hk : n < day) (hdi : di n < mn P) (hq : Q (some (.int (nI (dg P (di n))))) (mR (wi s 80 0 (nI 0)))) : gE X (d + 3) 262 [.ref 80, .int (nI n)] (mR s) Q := by
  have hm := mn_le hP5
  have g1 := hD n hk
  have hin := inN_n hk (by omega)
  obtain ⟨m0, e21, e33, e34, e35, p1, p2⟩ := id hW
  refine en262 rfl rfl ?_
  refine g_p t262_0 rfl ?_
  refine g_k (n := 0) t262_1 rfl rfl ?_
  refine r_puti t262_2 (f80 hF) rfl rfl ?_
  refine g_p t262_5 rfl ?_
  refine g_p t262_6 rfl ?_
  refine g_p t262_7 rfl ?_
  refine g_p t262_8 rfl ?_
  refine r_gete t262_9 (f80 hF) rfl rfl e34 ?_
  refine g_k (n := 1) t262_12 rfl rfl ?_
  refine g_isub t262_13 ?_
  refine g_p t262_14 rfl ?_
  refine g_cs t262_15 rfl rfl rfl ?_
  refine c176i (a := 0) (b := nI day - nI 1) rfl rfl ?_
  rw [isR_day hd, hin]
  refine k_v ?_ rfl
  refine b_eq t262_18 (fun h18 => ?_) (fun h18 => ?_)
  · exact absurd h18 (by decide)
  · refine g_p t262_21 rfl ?_
    refine g_p t262_22 rfl ?_
    refine r_getr t262_23 (f80 hF) rfl rfl ?_
    refine g_p t262_26 rfl ?_
    refine r_iale t262_27 (f93 hF) (by decide) (by omega) g1 ?_
    refine r_cv t262_28 (f80 hF) rfl ?_
    refine c215 (by exact hF) (by exact m0) hP5 (by omega) ?_
    refine k_v ?_ rfl
    refine g_goto t262_31 ?_
    exact i_ret t262_35 rfl hq
theorem c262f (hF : Fx s) (hP5 : P ≤ 5) (hW : MW P r w pd row day left s) (hd : day ≤ 60) (hno : inN day x = false) (hq : Q (some (.int (-1))) (mR (wi s 80 0 (nI 0)))) : gE X (d + 3) 262 [.ref 80, .int x] (mR s) Q := by
  obtain ⟨m0, e21, e33, e34, e35, p1, p2⟩ := id hW
  refine en262 rfl rfl ?_
  refine g_p t262_0 rfl ?_
  refine g_k (n := 0) t262_1 rfl rfl ?_
  refine r_puti t262_2 (f80 hF) rfl rfl ?_
  refine g_p t262_5 rfl ?_
  refine g_p t262_6 rfl ?_
  refine g_p t262_7 rfl ?_
  refine g_p t262_8 rfl ?_
  refine r_gete t262_9 (f80 hF) rfl rfl e34 ?_
  refine g_k (n := 1) t262_12 rfl rfl ?_
  refine g_isub t262_13 ?_
  refine g_p t262_14 rfl ?_
  refine g_cs t262_15 rfl rfl rfl ?_
  refine c176i (a := 0) (b := nI day - nI 1) rfl rfl ?_
  rw [isR_day hd, hno]
  refine k_v ?_ rfl
  refine b_eq t262_18 (fun h18 => ?_) (fun h18 => ?_)
  · refine g_p t262_34 rfl ?_
    exact i_ret t262_35 rfl hq
  · exact absurd h18 (by decide)
theorem c263t (hF : Fx s) (hP0 : 0 < P) (hP5 : P ≤ 5) (hW : MW P r w pd row day left s) (hD : CD 93 day di s) (hd60 : day ≤ 60) (hq : ∀ s', FM [111, 112] [0, 61, 62, 63, 64] s s' → ri s' 80 64 = nI 1 → MKe r w row day left di s' → Q (some (.int (nI day))) (mR s')) : gE X d 263 [.ref 80] (mR s) Q := by
  obtain ⟨m0, e21, e33, e34, e35, p1, p2⟩ := id hW
  have K : ∀ j k : Nat, k + j = 60 → ∀ s', FM [111, 112] [0] s s' → ri s' 80 0 = nI 0 → (∀ i, i < k → ri s' 111 i = ri s 93 i) → gG X d 263 16 [.ref 80, .int (nI k)] [] (mR s') Q := by
    intro j
    induction j with
    | zero =>
      intro k hk s' hf h0 hc
      have hk : k = 60 := by omega
      subst hk
      have L : ∀ j k : Nat, k + j = 3 → ∀ s'', FM [111, 112] [0] s s'' → (∀ i, i < 60 → ri s'' 111 i = ri s 93 i) → (∀ i, i < k → ri s'' 112 i = ri s 85 i) → gG X d 263 42 [.ref 80, .int (nI k)] [] (mR s'') Q := by
        intro j
        induction j with
        | zero =>
          intro k hk s'' hf hc hd
          have hk : k = 3 := by omega
          subst hk
          have hF := hF.fr hf.1
          refine g_p t263_42 rfl ?_
          refine g_k (n := 3) t263_43 rfl rfl ?_
          refine n_cge t263_44 (by omega) (by omega) (fun h44 => ?_) (fun h44 => ?_)
          · refine g_p t263_65 rfl ?_
            refine g_p t263_66 rfl ?_
            refine r_gete t263_67 (f80 hF) rfl rfl ((hf.f (i := 33) (by decide)).trans e33) ?_
            refine r_puti t263_70 (f80 hF) rfl rfl ?_
            refine g_p t263_73 rfl ?_
            refine g_p t263_74 rfl ?_
            refine r_gete t263_75 (f80 hF) rfl rfl ((hf.f (i := 34) (by decide)).trans e34) ?_
            refine r_puti t263_78 (f80 hF) rfl rfl ?_
            refine g_p t263_81 rfl ?_
            refine g_p t263_82 rfl ?_
            refine r_gete t263_83 (f80 hF) rfl rfl ((hf.f (i := 35) (by decide)).trans e35) ?_
            refine r_puti t263_86 (f80 hF) rfl rfl ?_
            refine g_p t263_89 rfl ?_
            refine g_k (n := 1) t263_90 rfl rfl ?_
            refine r_putz t263_91 (f80 hF) rfl rfl rfl ?_
            refine g_p t263_94 rfl ?_
            refine r_gete t263_95 (f80 hF) rfl rfl ((hf.f (i := 34) (by decide)).trans e34) ?_
            refine i_ret t263_98 rfl (hq _ (((((hf.mono (by decide) (by decide)).m (by decide)).m (by decide)).m (by decide)).m (by decide)) rfl ⟨(hd 1 (by decide)).trans p1, (hd 2 (by decide)).trans p2, rfl, rfl, rfl, fun k hk => ?_⟩)
            rw [ri_wi_ne (by decide), ri_wi_ne (by decide), ri_wi_ne (by decide), ri_wi_ne (by decide)]
            exact (hc k (by omega)).trans (hD k hk)
          · exfalso; omega
        | succ j ih =>
          intro k hk s'' hf hc hd
          have hF := hF.fr hf.1
          refine g_p t263_42 rfl ?_
          refine g_k (n := 3) t263_43 rfl rfl ?_
          refine n_cge t263_44 (by omega) (by omega) (fun h44 => ?_) (fun h44 => ?_)
          · exfalso; omega
          · refine g_p t263_47 rfl ?_
            refine r_getr t263_48 (f80 hF) rfl rfl ?_
            refine g_p t263_51 rfl ?_
            refine g_p t263_52 rfl ?_
            refine r_getr t263_53 (f80 hF) rfl rfl ?_
            refine g_p t263_56 rfl ?_
            refine r_iald t263_57 (f85 hF) (by decide) (by omega) ?_
            refine r_iast t263_58 (f112 hF) (by decide) (by omega) ?_
            refine g_incn (n := 1) t263_59 rfl rfl (Nat.le_of_ble_eq_true rfl) (am_s1_1 rfl) ?_
            refine g_goto t263_62 ?_
            refine ih (k + 1) (by omega) _ (hf.w (by decide) (by decide)) (fun i hi => (ri_wi_ne (by decide)).trans (hc i hi)) (fun i hi => ?_)
            by_cases h9 : i = k
            · subst h9; exact ri_wi_eq.trans (hf.g (by decide))
            · exact (ri_wi_j h9).trans (hd i (by omega))
      have hF := hF.fr hf.1
      refine g_p t263_16 rfl ?_
      refine g_k (n := 60) t263_17 rfl rfl ?_
      refine n_cge t263_19 (by omega) (by omega) (fun h19 => ?_) (fun h19 => ?_)
      · refine g_k (n := 0) t263_40 rfl rfl ?_
        refine g_isn t263_41 (Nat.le_of_ble_eq_true rfl) (am_s1_1 rfl) ?_
        exact L 3 0 (by omega) _ hf hc (fun i hi => absurd hi (Nat.not_lt_zero i))
      · exfalso; omega
    | succ j ih =>
      intro k hk s' hf h0 hc
      have hF := hF.fr hf.1
      refine g_p t263_16 rfl ?_
      refine g_k (n := 60) t263_17 rfl rfl ?_
      refine n_cge t263_19 (by omega) (by omega) (fun h19 => ?_) (fun h19 => ?_)
      · exfalso; omega
      · refine g_p t263_22 rfl ?_
        refine r_getr t263_23 (f80 hF) rfl rfl ?_
        refine g_p t263_26 rfl ?_
        refine g_p t263_27 rfl ?_
        refine r_getr t263_28 (f80 hF) rfl rfl ?_
        refine g_p t263_31 rfl ?_
        refine r_iald t263_32 (f93 hF) (by decide) (by omega) ?_
        refine r_iast t263_33 (f111 hF) (by decide) (by omega) ?_
        refine g_incn (n := 1) t263_34 rfl rfl (Nat.le_of_ble_eq_true rfl) (am_s1_1 rfl) ?_
        refine g_goto t263_37 ?_
        refine ih (k + 1) (by omega) _ (hf.w (by decide) (by decide)) h0 (fun i hi => ?_)
        by_cases h9 : i = k
        · subst h9; exact ri_wi_eq.trans (hf.g (by decide))
        · exact (ri_wi_j h9).trans (hc i (by omega))
  refine en263 rfl ?_
  refine g_p t263_0 rfl ?_
  refine g_k (n := 0) t263_1 rfl rfl ?_
  refine r_puti t263_2 (f80 hF) rfl rfl ?_
  refine g_p t263_5 rfl ?_
  refine r_gete t263_6 (f80 hF) rfl rfl m0 ?_
  refine n_ne t263_9 (by omega) (fun h9 => ?_) (fun h9 => ?_)
  · refine g_k (n := 0) t263_14 rfl rfl ?_
    refine g_isn t263_15 (Nat.le_of_ble_eq_true rfl) (am_s1_1 rfl) ?_
    exact K 60 0 (by omega) _ (FM.rf.m (by decide)) rfl (fun i hi => absurd hi (Nat.not_lt_zero i))
  · first
      | (exfalso; omega)
      | exact absurd h9 (by decide)
theorem c263f (hF : Fx s) (m0 : ri s 80 20 = nI 0) (hq : Q (some (.int (-1))) (mR (wi s 80 0 (nI 0)))) : gE X d 263 [.ref 80] (mR s) Q := by
  refine en263 rfl ?_
  refine g_p t263_0 rfl ?_
  refine g_k (n := 0) t263_1 rfl rfl ?_
  refine r_puti t263_2 (f80 hF) rfl rfl ?_
  refine g_p t263_5 rfl ?_
  refine r_gete t263_6 (f80 hF) rfl rfl m0 ?_
  refine n_ne t263_9 (by omega) (fun h9 => ?_) (fun h9 => ?_)
  · exact absurd rfl h9
  · refine g_p t263_12 rfl ?_
    exact i_ret t263_13 rfl hq
theorem c264t (hF : Fx s) (hP5 : P ≤ 5) {r0 w0 row0 day0 left0 : Nat} (hW : MW P r0 w0 pd row0 day0 left0 s) (hk : MKe r w row day left di s) (e64 : ri s 80 64 = nI 1) (hd60 : day ≤ 60) (hq : ∀ s', FM [93, 85] [0, 33, 34, 35, 40] s s' → MA [] s' → MW P r w pd row day left s' → CD 93 day di s' → Q (some (.int (nI day))) (mR s')) : gE X d 264 [.ref 80] (mR s) Q := by
  obtain ⟨m0, e21, -, -, -, -, -⟩ := id hW
  obtain ⟨p1, p2, k61, k62, k63, hD⟩ := hk
  have K : ∀ j k : Nat, k + j = 60 → ∀ s', FM [93, 85] [0] s s' → ri s' 80 0 = nI 0 → (∀ i, i < k → ri s' 93 i = ri s 111 i) → gG X d 264 16 [.ref 80, .int (nI k)] [] (mR s') Q := by
    intro j
    induction j with
    | zero =>
      intro k hk s' hf h0 hc
      have hk : k = 60 := by omega
      subst hk
      have L : ∀ j k : Nat, k + j = 3 → ∀ s'', FM [93, 85] [0] s s'' → (∀ i, i < 60 → ri s'' 93 i = ri s 111 i) → (∀ i, i < k → ri s'' 85 i = ri s 112 i) → gG X d 264 42 [.ref 80, .int (nI k)] [] (mR s'') Q := by
        intro j
        induction j with
        | zero =>
          intro k hk s'' hf hc hd
          have hk : k = 3 := by omega
          subst hk
          have hF := hF.fr hf.1
          refine g_p t264_42 rfl ?_
          refine g_k (n := 3) t264_43 rfl rfl ?_
          refine n_cge t264_44 (by omega) (by omega) (fun h44 => ?_) (fun h44 => ?_)
          · refine g_p t264_65 rfl ?_
            refine g_p t264_66 rfl ?_
            refine r_gete t264_67 (f80 hF) rfl rfl ((hf.f (i := 61) (by decide)).trans k61) ?_
            refine r_puti t264_70 (f80 hF) rfl rfl ?_
            refine g_p t264_73 rfl ?_
            refine g_p t264_74 rfl ?_
            refine r_gete t264_75 (f80 hF) rfl rfl ((hf.f (i := 62) (by decide)).trans k62) ?_
            refine r_puti t264_78 (f80 hF) rfl rfl ?_
            refine g_p t264_81 rfl ?_
            refine g_p t264_82 rfl ?_
            refine r_gete t264_83 (f80 hF) rfl rfl ((hf.f (i := 63) (by decide)).trans k63) ?_
            refine r_puti t264_86 (f80 hF) rfl rfl ?_
            refine g_p t264_89 rfl ?_
            refine g_k (n := 0) t264_90 rfl rfl ?_
            refine r_puti t264_91 (f80 hF) rfl rfl ?_
            refine g_p t264_94 rfl ?_
            refine r_gete t264_95 (f80 hF) rfl rfl rfl ?_
            refine i_ret t264_98 rfl (hq _ (((((hf.mono (by decide) (by decide)).m (by decide)).m (by decide)).m (by decide)).m (by decide)) ⟨rfl, by decide, fun k hk => absurd hk (by simp)⟩ ⟨(hf.f (i := 20) (by decide)).trans m0, (hf.f (i := 21) (by decide)).trans e21, rfl, rfl, rfl, (hd 1 (by decide)).trans p1, (hd 2 (by decide)).trans p2⟩ (fun k hk => ?_))
            rw [ri_wi_ne (by decide), ri_wi_ne (by decide), ri_wi_ne (by decide), ri_wi_ne (by decide)]
            exact (hc k (by omega)).trans (hD k hk)
          · exfalso; omega
        | succ j ih =>
          intro k hk s'' hf hc hd
          have hF := hF.fr hf.1
          refine g_p t264_42 rfl ?_
          refine g_k (n := 3) t264_43 rfl rfl ?_
          refine n_cge t264_44 (by omega) (by omega) (fun h44 => ?_) (fun h44 => ?_)
          · exfalso; omega
          · refine g_p t264_47 rfl ?_
            refine r_getr t264_48 (f80 hF) rfl rfl ?_
            refine g_p t264_51 rfl ?_
            refine g_p t264_52 rfl ?_
            refine r_getr t264_53 (f80 hF) rfl rfl ?_
            refine g_p t264_56 rfl ?_
            refine r_iald t264_57 (f112 hF) (by decide) (by omega) ?_
            refine r_iast t264_58 (f85 hF) (by decide) (by omega) ?_
            refine g_incn (n := 1) t264_59 rfl rfl (Nat.le_of_ble_eq_true rfl) (am_s1_1 rfl) ?_
            refine g_goto t264_62 ?_
            refine ih (k + 1) (by omega) _ (hf.w (by decide) (by decide)) (fun i hi => (ri_wi_ne (by decide)).trans (hc i hi)) (fun i hi => ?_)
            by_cases h9 : i = k
            · subst h9; exact ri_wi_eq.trans (hf.g (by decide))
            · exact (ri_wi_j h9).trans (hd i (by omega))
      have hF := hF.fr hf.1
      refine g_p t264_16 rfl ?_
      refine g_k (n := 60) t264_17 rfl rfl ?_
      refine n_cge t264_19 (by omega) (by omega) (fun h19 => ?_) (fun h19 => ?_)
      · refine g_k (n := 0) t264_40 rfl rfl ?_
        refine g_isn t264_41 (Nat.le_of_ble_eq_true rfl) (am_s1_1 rfl) ?_
        exact L 3 0 (by omega) _ hf hc (fun i hi => absurd hi (Nat.not_lt_zero i))
      · exfalso; omega
    | succ j ih =>
      intro k hk s' hf h0 hc
      have hF := hF.fr hf.1
      refine g_p t264_16 rfl ?_
      refine g_k (n := 60) t264_17 rfl rfl ?_
      refine n_cge t264_19 (by omega) (by omega) (fun h19 => ?_) (fun h19 => ?_)
      · exfalso; omega
      · refine g_p t264_22 rfl ?_
        refine r_getr t264_23 (f80 hF) rfl rfl ?_
        refine g_p t264_26 rfl ?_
        refine g_p t264_27 rfl ?_
        refine r_getr t264_28 (f80 hF) rfl rfl ?_
        refine g_p t264_31 rfl ?_
        refine r_iald t264_32 (f111 hF) (by decide) (by omega) ?_
        refine r_iast t264_33 (f93 hF) (by decide) (by omega) ?_
        refine g_incn (n := 1) t264_34 rfl rfl (Nat.le_of_ble_eq_true rfl) (am_s1_1 rfl) ?_
        refine g_goto t264_37 ?_
        refine ih (k + 1) (by omega) _ (hf.w (by decide) (by decide)) h0 (fun i hi => ?_)
        by_cases h9 : i = k
        · subst h9; exact ri_wi_eq.trans (hf.g (by decide))
        · exact (ri_wi_j h9).trans (hc i (by omega))
  refine en264 rfl ?_
  refine g_p t264_0 rfl ?_
  refine g_k (n := 0) t264_1 rfl rfl ?_
  refine r_puti t264_2 (f80 hF) rfl rfl ?_
  refine g_p t264_5 rfl ?_
  refine r_gete t264_6 (f80 hF) rfl rfl e64 ?_
  refine n_ne t264_9 (by omega) (fun h9 => ?_) (fun h9 => ?_)
  · refine g_k (n := 0) t264_14 rfl rfl ?_
    refine g_isn t264_15 (Nat.le_of_ble_eq_true rfl) (am_s1_1 rfl) ?_
    exact K 60 0 (by omega) _ (FM.rf.m (by decide)) rfl (fun i hi => absurd hi (Nat.not_lt_zero i))
  · first
      | (exfalso; omega)
      | exact absurd h9 (by decide)
theorem c264f (hF : Fx s) (e64 : ri s 80 64 = nI 0) (hq : Q (some (.int (-1))) (mR (wi s 80 0 (nI 0)))) : gE X d 264 [.ref 80] (mR s) Q := by
  refine en264 rfl ?_
  refine g_p t264_0 rfl ?_
  refine g_k (n := 0) t264_1 rfl rfl ?_
  refine r_puti t264_2 (f80 hF) rfl rfl ?_
  refine g_p t264_5 rfl ?_
  refine r_gete t264_6 (f80 hF) rfl rfl e64 ?_
  refine n_ne t264_9 (by omega) (fun h9 => ?_) (fun h9 => ?_)
  · exact absurd rfl h9
  · refine g_p t264_12 rfl ?_
    exact i_ret t264_13 rfl hq
theorem c265 (hF : Fx s) (hP5 : P ≤ 5) (hW : MW P r w pd row day left s) (hrow : row < 243) (e28 : ri s 80 28 = nI bks.length) (e31 : ri s 80 31 = nI wn) (e7 : ri s 80 7 = nI ln) (e6 : ri s 80 6 = nI tl) (e40 : ri s 80 40 = nI acts.length) (e53 : ri s 80 53 = nI se.length) (e58 : ri s 80 58 = nI to.length) (hq : Q (some (.int (cntv [P, r, w, pd, left, day, dg P row, bks.length, wn, ln, tl, acts.length, se.length, to.length] y))) (mR (wi s 80 0 (nI 0)))) : gE X (d + 3) 265 [.ref 80, .int y] (mR s) Q := by
  obtain ⟨m0, e21, e33, e34, e35, p1, p2⟩ := id hW
  cases hy : inN 14 y with
  | false =>
    rw [cntv, if_neg (by rw [hy]; decide)] at hq
    refine en265 rfl rfl ?_
    refine g_p t265_0 rfl ?_
    refine g_k (n := 0) t265_1 rfl rfl ?_
    refine r_puti t265_2 (f80 hF) rfl rfl ?_
    refine g_p t265_5 rfl ?_
    refine g_sw t265_6 (sw_f rfl rfl hy) ?_
    refine g_p t265_154 rfl ?_
    exact i_ret t265_157 rfl hq
  | true =>
    rw [cntv, if_pos hy] at hq
    obtain ⟨i, hi, rfl⟩ := inN_t hy (by decide)
    rw [nI_clamp (by omega)] at hq
    rcases (show i = 0 ∨ i = 1 ∨ i = 2 ∨ i = 3 ∨ i = 4 ∨ i = 5 ∨ i = 6 ∨ i = 7 ∨ i = 8 ∨ i = 9 ∨ i = 10 ∨ i = 11 ∨ i = 12 ∨ i = 13 by omega) with rfl | rfl | rfl | rfl | rfl | rfl | rfl | rfl | rfl | rfl | rfl | rfl | rfl | rfl
    · refine en265 rfl rfl ?_
      refine g_p t265_0 rfl ?_
      refine g_k (n := 0) t265_1 rfl rfl ?_
      refine r_puti t265_2 (f80 hF) rfl rfl ?_
      refine g_p t265_5 rfl ?_
      refine g_sw (tgt := 76) t265_6 (by decide) ?_
      refine g_p t265_76 rfl ?_
      refine r_gete t265_77 (f80 hF) rfl rfl m0 ?_
      exact i_ret t265_80 rfl hq
    · refine en265 rfl rfl ?_
      refine g_p t265_0 rfl ?_
      refine g_k (n := 0) t265_1 rfl rfl ?_
      refine r_puti t265_2 (f80 hF) rfl rfl ?_
      refine g_p t265_5 rfl ?_
      refine g_sw (tgt := 81) t265_6 (by decide) ?_
      refine g_p t265_81 rfl ?_
      refine r_getr t265_82 (f80 hF) rfl rfl ?_
      refine g_k (n := 1) t265_85 rfl rfl ?_
      refine r_iale t265_86 (f85 hF) (by decide) (by omega) p1 ?_
      exact i_ret t265_87 rfl hq
    · refine en265 rfl rfl ?_
      refine g_p t265_0 rfl ?_
      refine g_k (n := 0) t265_1 rfl rfl ?_
      refine r_puti t265_2 (f80 hF) rfl rfl ?_
      refine g_p t265_5 rfl ?_
      refine g_sw (tgt := 88) t265_6 (by decide) ?_
      refine g_p t265_88 rfl ?_
      refine r_getr t265_89 (f80 hF) rfl rfl ?_
      refine g_k (n := 2) t265_92 rfl rfl ?_
      refine r_iale t265_93 (f85 hF) (by decide) (by omega) p2 ?_
      exact i_ret t265_94 rfl hq
    · refine en265 rfl rfl ?_
      refine g_p t265_0 rfl ?_
      refine g_k (n := 0) t265_1 rfl rfl ?_
      refine r_puti t265_2 (f80 hF) rfl rfl ?_
      refine g_p t265_5 rfl ?_
      refine g_sw (tgt := 95) t265_6 (by decide) ?_
      refine g_p t265_95 rfl ?_
      refine r_gete t265_96 (f80 hF) rfl rfl e21 ?_
      exact i_ret t265_99 rfl hq
    · refine en265 rfl rfl ?_
      refine g_p t265_0 rfl ?_
      refine g_k (n := 0) t265_1 rfl rfl ?_
      refine r_puti t265_2 (f80 hF) rfl rfl ?_
      refine g_p t265_5 rfl ?_
      refine g_sw (tgt := 100) t265_6 (by decide) ?_
      refine g_p t265_100 rfl ?_
      refine r_gete t265_101 (f80 hF) rfl rfl e35 ?_
      exact i_ret t265_104 rfl hq
    · refine en265 rfl rfl ?_
      refine g_p t265_0 rfl ?_
      refine g_k (n := 0) t265_1 rfl rfl ?_
      refine r_puti t265_2 (f80 hF) rfl rfl ?_
      refine g_p t265_5 rfl ?_
      refine g_sw (tgt := 105) t265_6 (by decide) ?_
      refine g_p t265_105 rfl ?_
      refine r_gete t265_106 (f80 hF) rfl rfl e34 ?_
      exact i_ret t265_109 rfl hq
    · refine en265 rfl rfl ?_
      refine g_p t265_0 rfl ?_
      refine g_k (n := 0) t265_1 rfl rfl ?_
      refine r_puti t265_2 (f80 hF) rfl rfl ?_
      refine g_p t265_5 rfl ?_
      refine g_sw (tgt := 110) t265_6 (by decide) ?_
      refine g_p t265_110 rfl ?_
      refine g_p t265_111 rfl ?_
      refine r_gete t265_112 (f80 hF) rfl rfl e33 ?_
      refine r_cv t265_115 (f80 hF) rfl ?_
      refine c215 (by exact hF) (by exact m0) hP5 (by omega) ?_
      refine k_v ?_ rfl
      exact i_ret t265_118 rfl hq
    · refine en265 rfl rfl ?_
      refine g_p t265_0 rfl ?_
      refine g_k (n := 0) t265_1 rfl rfl ?_
      refine r_puti t265_2 (f80 hF) rfl rfl ?_
      refine g_p t265_5 rfl ?_
      refine g_sw (tgt := 119) t265_6 (by decide) ?_
      refine g_p t265_119 rfl ?_
      refine r_gete t265_120 (f80 hF) rfl rfl e28 ?_
      exact i_ret t265_123 rfl hq
    · refine en265 rfl rfl ?_
      refine g_p t265_0 rfl ?_
      refine g_k (n := 0) t265_1 rfl rfl ?_
      refine r_puti t265_2 (f80 hF) rfl rfl ?_
      refine g_p t265_5 rfl ?_
      refine g_sw (tgt := 124) t265_6 (by decide) ?_
      refine g_p t265_124 rfl ?_
      refine r_gete t265_125 (f80 hF) rfl rfl e31 ?_
      exact i_ret t265_128 rfl hq
    · refine en265 rfl rfl ?_
      refine g_p t265_0 rfl ?_
      refine g_k (n := 0) t265_1 rfl rfl ?_
      refine r_puti t265_2 (f80 hF) rfl rfl ?_
      refine g_p t265_5 rfl ?_
      refine g_sw (tgt := 129) t265_6 (by decide) ?_
      refine g_p t265_129 rfl ?_
      refine r_gete t265_130 (f80 hF) rfl rfl e7 ?_
      exact i_ret t265_133 rfl hq
    · refine en265 rfl rfl ?_
      refine g_p t265_0 rfl ?_
      refine g_k (n := 0) t265_1 rfl rfl ?_
      refine r_puti t265_2 (f80 hF) rfl rfl ?_
      refine g_p t265_5 rfl ?_
      refine g_sw (tgt := 134) t265_6 (by decide) ?_
      refine g_p t265_134 rfl ?_
      refine r_gete t265_135 (f80 hF) rfl rfl e6 ?_
      exact i_ret t265_138 rfl hq
    · refine en265 rfl rfl ?_
      refine g_p t265_0 rfl ?_
      refine g_k (n := 0) t265_1 rfl rfl ?_
      refine r_puti t265_2 (f80 hF) rfl rfl ?_
      refine g_p t265_5 rfl ?_
      refine g_sw (tgt := 139) t265_6 (by decide) ?_
      refine g_p t265_139 rfl ?_
      refine r_gete t265_140 (f80 hF) rfl rfl e40 ?_
      exact i_ret t265_143 rfl hq
    · refine en265 rfl rfl ?_
      refine g_p t265_0 rfl ?_
      refine g_k (n := 0) t265_1 rfl rfl ?_
      refine r_puti t265_2 (f80 hF) rfl rfl ?_
      refine g_p t265_5 rfl ?_
      refine g_sw (tgt := 144) t265_6 (by decide) ?_
      refine g_p t265_144 rfl ?_
      refine r_gete t265_145 (f80 hF) rfl rfl e53 ?_
      exact i_ret t265_148 rfl hq
    · refine en265 rfl rfl ?_
      refine g_p t265_0 rfl ?_
      refine g_k (n := 0) t265_1 rfl rfl ?_
      refine r_puti t265_2 (f80 hF) rfl rfl ?_
      refine g_p t265_5 rfl ?_
      refine g_sw (tgt := 149) t265_6 (by decide) ?_
      refine g_p t265_149 rfl ?_
      refine r_gete t265_150 (f80 hF) rfl rfl e58 ?_
      exact i_ret t265_153 rfl hq
end RO
