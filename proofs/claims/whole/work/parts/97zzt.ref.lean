/-! THE REFERENCE, 11: the nearest row; reading -/
section RT
variable {X : am_X} {d : Nat} {s : mM} {hp : am_H} {Q : Option Value → am_H → Prop} {P r w pd row day left a c k k2 n : Nat} {x y z u x2 y2 : Int32} {b b2 : Bk} {bks : List Bk} {R : Nat → Nat → Bool} {rt : Bool} {L : Nat → Nat → Int32} {J : mM → Prop}
/-- the best so far -/
def nOK (P r w : Nat) (R : Nat → Nat → Bool) (row : Nat) (o : Option Nat × Nat) : Prop := o = (none, 15) ∨ ∃ y, o = (some y, ds (aj P r w R) 15 row y) ∧ std P r w y = true ∧ ds (aj P r w R) 15 row y ≤ 10
theorem nOK_n (hP : P ≤ 5) (hR : Rok P R) (hs : std P r w row = true) {x : Nat} {o : Option Nat × Nat} (h : nOK P r w R row o) {m : Bool} : nOK P r w R row (if m = true ∧ ds (aj P r w R) 15 row x < o.2 then (some x, ds (aj P r w R) 15 row x) else o) := by
  by_cases h1 : m = true ∧ ds (aj P r w R) 15 row x < o.2
  · rw [if_pos h1]
    cases hx : std P r w x with
    | true => exact Or.inr ⟨x, rfl, hx, ds_10 hP hR hs hx⟩
    | false =>
      have h2 := ds_out hs hx (F := 15) (R := R)
      rw [h2] at h1
      rcases h with rfl | ⟨y, rfl, h3, h4⟩
      · exact absurd h1.2 (by decide)
      · have h5 : 15 < ds (aj P r w R) 15 row y := h1.2
        omega
  · rw [if_neg h1]; exact h
theorem c250t (hF : Fx s) (hP5 : P ≤ 5) (hW : MW P r w pd row day left s) (hr5 : r ≤ 5) (hw5 : w ≤ 5) (e43 : ri s 80 43 = bI false) (hst : 0 < P → std P r w row = true) (hM : MB bks s) (hg : bG P bks x = some b) (hg2 : bG P bks x2 = some b2) (hy : isL y = true) (hy2 : isL0 y2 = true) (hz : isH z = true) (hq : ∀ s', FM fA (0 :: nB) s s' → Q (some (.int (nrv P z (nrl (fun c => decide (sy P b c = y) && decide (sy P b2 c = y2)) (ds (aj P r w (fun _ _ => true)) 15 row) (mn P) 0 (none, 15))))) (mR s')) : gE X (d + 6) 250 [.ref 80, .int x, .int y, .int x2, .int y2, .int z] (mR s) Q := by
  obtain ⟨m0, e21, e33, e34, e35, p1, p2⟩ := id hW
  have hm := mn_le hP5
  obtain ⟨hP0, k, hk, hk4, rfl, hB1⟩ := bG_M hM hg
  obtain ⟨-, k2, hk2, hk42, rfl, hB2⟩ := bG_M hM hg2
  have hs := hst hP0
  have hrN := (std_t hs).1
  obtain ⟨R, hR⟩ : ∃ R, R = (fun _ _ => true : Nat → Nat → Bool) := ⟨_, rfl⟩
  have hRok : Rok P R := by rw [hR]; exact Rok_t
  rw [← hR] at hq
  obtain ⟨W, hW2⟩ : ∃ W, W = nrl (fun c => decide (sy P b c = y) && decide (sy P b2 c = y2)) (ds (aj P r w R) 15 row) (mn P) 0 (none, 15) := ⟨_, rfl⟩
  rw [← hW2] at hq
  let Q1 : mM → Prop := fun s1 => FM fA (0 :: nB) s s1
  have K : ∀ s1 : mM, Fx s1 → Q1 s1 → ri s1 80 20 = nI P → ri s1 85 1 = nI r → ri s1 85 2 = nI w → MB1 b k s1 → MB1 b2 k2 s1 → (∀ x, x < mn P → ri s1 98 x = nI (ds (aj P r w R) 1000 row x)) → ∀ (j x : Nat) (o : Option Nat × Nat), x + j = mn P → W = nrl (fun c => decide (sy P b c = y) && decide (sy P b2 c = y2)) (ds (aj P r w R) 15 row) j x o → nOK P r w R row o → gG X (d + 6) 250 70 [.ref 80, .int (nI k), .int y, .int (nI k2), .int y2, .int z, .int (oI o.1), .int (nI x)] [] (mR s1) Q := by
    intro s1 hF hf m0 p1 p2 hB1 hB2 hd j
    induction j with
    | zero =>
      intro x o hj he ho
      have he : W = o := he
      subst he
      rcases ho with rfl | ⟨t, rfl, h3, h4⟩
      · show gG X (d + 6) 250 70 [.ref 80, .int (nI k), .int y, .int (nI k2), .int y2, .int z, .int (-1), .int (nI x)] [] (mR s1) Q
        refine g_p t250_70 rfl ?_
        refine g_p t250_72 rfl ?_
        refine r_cv t250_73 (f80 hF) rfl ?_
        refine c209 (by exact hF) (by exact m0) hP5 hP0 ?_
        refine k_v ?_ rfl
        refine n_cge t250_76 (by omega) (by omega) (fun h76 => ?_) (fun h76 => ?_)
        · refine g_p t250_144 rfl ?_
          refine g_p t250_146 rfl ?_
          refine g_cne t250_147 (fun h147 => ?_) (fun h147 => ?_)
          · exact absurd rfl h147
          · refine g_p t250_150 rfl ?_
            refine g_goto t250_151 ?_
            exact i_ret t250_175 rfl (hq _ hf)
        · exfalso; omega
      · have htN := (std_t h3).1
        have hft : ri s1 98 t = nI (ds (aj P r w R) 15 row t) := by rw [hd t htN, ds_F hP5 hRok hs h3]
        show gG X (d + 6) 250 70 [.ref 80, .int (nI k), .int y, .int (nI k2), .int y2, .int z, .int (nI t), .int (nI x)] [] (mR s1) Q
        refine g_p t250_70 rfl ?_
        refine g_p t250_72 rfl ?_
        refine r_cv t250_73 (f80 hF) rfl ?_
        refine c209 (by exact hF) (by exact m0) hP5 hP0 ?_
        refine k_v ?_ rfl
        refine n_cge t250_76 (by omega) (by omega) (fun h76 => ?_) (fun h76 => ?_)
        · refine g_p t250_144 rfl ?_
          refine g_p t250_146 rfl ?_
          refine g_cne t250_147 (fun h147 => ?_) (fun h147 => ?_)
          · refine g_p t250_154 rfl ?_
            refine g_ne t250_156 (fun h156 => ?_) (fun h156 => ?_)
            · refine g_p t250_169 rfl ?_
              refine g_p t250_170 rfl ?_
              refine r_cv t250_172 (f80 hF) rfl ?_
              refine c215 (by exact hF) (by exact m0) hP5 (by omega) ?_
              refine k_v ?_ rfl
              first
                | (have u0 : z = 0 := h156
                   refine i_ret t250_175 ?_ (hq _ hf)
                   show _ = (if z = 0 then nI _ else nI _)
                   rw [if_pos u0])
                | (have u0 : ¬ z = 0 := h156
                   refine i_ret t250_175 ?_ (hq _ hf)
                   show _ = (if z = 0 then nI _ else nI _)
                   rw [if_neg u0])
            · refine g_p t250_159 rfl ?_
              refine r_getr t250_160 (f80 hF) rfl rfl ?_
              refine g_p t250_163 rfl ?_
              refine r_iale t250_165 (f98 hF) (by decide) (by omega) hft ?_
              refine g_goto t250_166 ?_
              first
                | (have u0 : z = 0 := h156
                   refine i_ret t250_175 ?_ (hq _ hf)
                   show _ = (if z = 0 then nI _ else nI _)
                   rw [if_pos u0])
                | (have u0 : ¬ z = 0 := h156
                   refine i_ret t250_175 ?_ (hq _ hf)
                   show _ = (if z = 0 then nI _ else nI _)
                   rw [if_neg u0])
          · exact absurd h147 (nI_m1 (by omega))
        · exfalso; omega
    | succ j ih =>
      intro x o hj he ho
      have hx : x < mn P := by omega
      have hok := nOK_n (m := (fun c => decide (sy P b c = y) && decide (sy P b2 c = y2)) x) hP5 hRok hs (x := x) ho
      unfold nrl at he
      have ih := ih (x + 1) _ (by omega) he hok
      have hfx := hd x hx
      have out : std P r w x = false → ¬ ds (aj P r w R) 15 row x < o.2 := fun h => by
        rw [ds_out hs h]
        rcases ho with rfl | ⟨t, rfl, h3, h4⟩
        · exact Nat.lt_irrefl _
        · exact Nat.not_lt.mpr (Nat.le_trans h4 (by decide))
      have inn : std P r w x = true → ds (aj P r w R) 1000 row x = ds (aj P r w R) 15 row x ∧ ds (aj P r w R) 15 row x ≤ 10 := fun h => ⟨ds_F hP5 hRok hs h, ds_10 hP5 hRok hs h⟩
      rcases ho with rfl | ⟨t, rfl, h3, h4⟩
      · show gG X (d + 6) 250 70 [.ref 80, .int (nI k), .int y, .int (nI k2), .int y2, .int z, .int (-1), .int (nI x)] [] (mR s1) Q
        refine g_p t250_70 rfl ?_
        refine g_p t250_72 rfl ?_
        refine r_cv t250_73 (f80 hF) rfl ?_
        refine c209 (by exact hF) (by exact m0) hP5 hP0 ?_
        refine k_v ?_ rfl
        refine n_cge t250_76 (by omega) (by omega) (fun h76 => ?_) (fun h76 => ?_)
        · exfalso; omega
        · refine g_p t250_79 rfl ?_
          refine g_p t250_80 rfl ?_
          refine r_cv t250_82 (f80 hF) rfl ?_
          refine c214 (by exact hF) (by exact m0) hP5 (by exact p1) (by exact p2) hr5 hw5 (by omega) ?_
          refine k_v ?_ rfl
          refine b_eq t250_85 (fun h85 => ?_) (fun h85 => ?_)
          · refine g_incn (n := 1) t250_138 rfl rfl (Nat.le_of_ble_eq_true rfl) (am_s1_7 rfl) ?_
            refine g_goto t250_141 ?_
            first
              | (have u0 : std P r w x = false := h85
                 rw [if_neg (fun h => out u0 h.2)] at ih
                 exact ih)
              | (have u0 : ¬ sy P b x = y := h96
                 rw [if_neg (fun h => u0 (of_decide_eq_true ((Bool.and_eq_true _ _).mp h.1).1))] at ih
                 exact ih)
              | (have u0 : ¬ sy P b2 x = y2 := h108
                 rw [if_neg (fun h => u0 (of_decide_eq_true ((Bool.and_eq_true _ _).mp h.1).2))] at ih
                 exact ih)
              | (have u1 := (inn h85).2
                 rw [if_pos ⟨by rw [Bool.and_eq_true]; exact ⟨decide_eq_true h96, decide_eq_true h108⟩, Nat.lt_of_le_of_lt u1 (by decide)⟩] at ih
                 exact ih)
          · refine g_p t250_88 rfl ?_
            refine g_p t250_89 rfl ?_
            refine g_p t250_90 rfl ?_
            refine r_cv t250_92 (f80 hF) rfl ?_
            refine c231 (by exact hF) (by exact m0) hP5 (by exact hB1) hk4 (by omega) ?_
            refine k_v ?_ rfl
            refine g_p t250_95 rfl ?_
            refine g_cne t250_96 (fun h96 => ?_) (fun h96 => ?_)
            · refine g_incn (n := 1) t250_138 rfl rfl (Nat.le_of_ble_eq_true rfl) (am_s1_7 rfl) ?_
              refine g_goto t250_141 ?_
              first
                | (have u0 : std P r w x = false := h85
                   rw [if_neg (fun h => out u0 h.2)] at ih
                   exact ih)
                | (have u0 : ¬ sy P b x = y := h96
                   rw [if_neg (fun h => u0 (of_decide_eq_true ((Bool.and_eq_true _ _).mp h.1).1))] at ih
                   exact ih)
                | (have u0 : ¬ sy P b2 x = y2 := h108
                   rw [if_neg (fun h => u0 (of_decide_eq_true ((Bool.and_eq_true _ _).mp h.1).2))] at ih
                   exact ih)
                | (have u1 := (inn h85).2
                   rw [if_pos ⟨by rw [Bool.and_eq_true]; exact ⟨decide_eq_true h96, decide_eq_true h108⟩, Nat.lt_of_le_of_lt u1 (by decide)⟩] at ih
                   exact ih)
            · refine g_p t250_99 rfl ?_
              refine g_p t250_100 rfl ?_
              refine g_p t250_101 rfl ?_
              refine r_cv t250_103 (f80 hF) rfl ?_
              refine c231 (by exact hF) (by exact m0) hP5 (by exact hB2) hk42 (by omega) ?_
              refine k_v ?_ rfl
              refine g_p t250_106 rfl ?_
              refine g_cne t250_108 (fun h108 => ?_) (fun h108 => ?_)
              · refine g_incn (n := 1) t250_138 rfl rfl (Nat.le_of_ble_eq_true rfl) (am_s1_7 rfl) ?_
                refine g_goto t250_141 ?_
                first
                  | (have u0 : std P r w x = false := h85
                     rw [if_neg (fun h => out u0 h.2)] at ih
                     exact ih)
                  | (have u0 : ¬ sy P b x = y := h96
                     rw [if_neg (fun h => u0 (of_decide_eq_true ((Bool.and_eq_true _ _).mp h.1).1))] at ih
                     exact ih)
                  | (have u0 : ¬ sy P b2 x = y2 := h108
                     rw [if_neg (fun h => u0 (of_decide_eq_true ((Bool.and_eq_true _ _).mp h.1).2))] at ih
                     exact ih)
                  | (have u1 := (inn h85).2
                     rw [if_pos ⟨by rw [Bool.and_eq_true]; exact ⟨decide_eq_true h96, decide_eq_true h108⟩, Nat.lt_of_le_of_lt u1 (by decide)⟩] at ih
                     exact ih)
              · refine g_p t250_111 rfl ?_
                refine g_p t250_113 rfl ?_
                refine g_ceq t250_114 (fun h114 => ?_) (fun h114 => ?_)
                · refine g_p t250_134 rfl ?_
                  refine g_is t250_136 (Nat.le_of_ble_eq_true rfl) (am_s1_6 rfl) ?_
                  refine g_incn (n := 1) t250_138 rfl rfl (Nat.le_of_ble_eq_true rfl) (am_s1_7 rfl) ?_
                  refine g_goto t250_141 ?_
                  first
                    | (have u0 : std P r w x = false := h85
                       rw [if_neg (fun h => out u0 h.2)] at ih
                       exact ih)
                    | (have u0 : ¬ sy P b x = y := h96
                       rw [if_neg (fun h => u0 (of_decide_eq_true ((Bool.and_eq_true _ _).mp h.1).1))] at ih
                       exact ih)
                    | (have u0 : ¬ sy P b2 x = y2 := h108
                       rw [if_neg (fun h => u0 (of_decide_eq_true ((Bool.and_eq_true _ _).mp h.1).2))] at ih
                       exact ih)
                    | (have u1 := (inn h85).2
                       rw [if_pos ⟨by rw [Bool.and_eq_true]; exact ⟨decide_eq_true h96, decide_eq_true h108⟩, Nat.lt_of_le_of_lt u1 (by decide)⟩] at ih
                       exact ih)
                · exact absurd rfl h114
      · have htN := (std_t h3).1
        have hft : ri s1 98 t = nI (ds (aj P r w R) 15 row t) := by rw [hd t htN, ds_F hP5 hRok hs h3]
        show gG X (d + 6) 250 70 [.ref 80, .int (nI k), .int y, .int (nI k2), .int y2, .int z, .int (nI t), .int (nI x)] [] (mR s1) Q
        refine g_p t250_70 rfl ?_
        refine g_p t250_72 rfl ?_
        refine r_cv t250_73 (f80 hF) rfl ?_
        refine c209 (by exact hF) (by exact m0) hP5 hP0 ?_
        refine k_v ?_ rfl
        refine n_cge t250_76 (by omega) (by omega) (fun h76 => ?_) (fun h76 => ?_)
        · exfalso; omega
        · refine g_p t250_79 rfl ?_
          refine g_p t250_80 rfl ?_
          refine r_cv t250_82 (f80 hF) rfl ?_
          refine c214 (by exact hF) (by exact m0) hP5 (by exact p1) (by exact p2) hr5 hw5 (by omega) ?_
          refine k_v ?_ rfl
          refine b_eq t250_85 (fun h85 => ?_) (fun h85 => ?_)
          · refine g_incn (n := 1) t250_138 rfl rfl (Nat.le_of_ble_eq_true rfl) (am_s1_7 rfl) ?_
            refine g_goto t250_141 ?_
            first
              | (have u0 : std P r w x = false := h85
                 rw [if_neg (fun h => out u0 h.2)] at ih
                 exact ih)
              | (have u0 : ¬ sy P b x = y := h96
                 rw [if_neg (fun h => u0 (of_decide_eq_true ((Bool.and_eq_true _ _).mp h.1).1))] at ih
                 exact ih)
              | (have u0 : ¬ sy P b2 x = y2 := h108
                 rw [if_neg (fun h => u0 (of_decide_eq_true ((Bool.and_eq_true _ _).mp h.1).2))] at ih
                 exact ih)
              | (have u0 : ds (aj P r w R) 15 row t ≤ ds (aj P r w R) 1000 row x := h131
                 have u1 := (inn h85).1
                 rw [if_neg (fun h => by have h8 : ds (aj P r w R) 15 row x < ds (aj P r w R) 15 row t := h.2; omega)] at ih
                 exact ih)
              | (have u0 : ¬ ds (aj P r w R) 15 row t ≤ ds (aj P r w R) 1000 row x := h131
                 have u1 := (inn h85).1
                 rw [if_pos ⟨by rw [Bool.and_eq_true]; exact ⟨decide_eq_true h96, decide_eq_true h108⟩, show ds (aj P r w R) 15 row x < ds (aj P r w R) 15 row t by omega⟩] at ih
                 exact ih)
              | exact absurd h114 (nI_m1 (by omega))
          · refine g_p t250_88 rfl ?_
            refine g_p t250_89 rfl ?_
            refine g_p t250_90 rfl ?_
            refine r_cv t250_92 (f80 hF) rfl ?_
            refine c231 (by exact hF) (by exact m0) hP5 (by exact hB1) hk4 (by omega) ?_
            refine k_v ?_ rfl
            refine g_p t250_95 rfl ?_
            refine g_cne t250_96 (fun h96 => ?_) (fun h96 => ?_)
            · refine g_incn (n := 1) t250_138 rfl rfl (Nat.le_of_ble_eq_true rfl) (am_s1_7 rfl) ?_
              refine g_goto t250_141 ?_
              first
                | (have u0 : std P r w x = false := h85
                   rw [if_neg (fun h => out u0 h.2)] at ih
                   exact ih)
                | (have u0 : ¬ sy P b x = y := h96
                   rw [if_neg (fun h => u0 (of_decide_eq_true ((Bool.and_eq_true _ _).mp h.1).1))] at ih
                   exact ih)
                | (have u0 : ¬ sy P b2 x = y2 := h108
                   rw [if_neg (fun h => u0 (of_decide_eq_true ((Bool.and_eq_true _ _).mp h.1).2))] at ih
                   exact ih)
                | (have u0 : ds (aj P r w R) 15 row t ≤ ds (aj P r w R) 1000 row x := h131
                   have u1 := (inn h85).1
                   rw [if_neg (fun h => by have h8 : ds (aj P r w R) 15 row x < ds (aj P r w R) 15 row t := h.2; omega)] at ih
                   exact ih)
                | (have u0 : ¬ ds (aj P r w R) 15 row t ≤ ds (aj P r w R) 1000 row x := h131
                   have u1 := (inn h85).1
                   rw [if_pos ⟨by rw [Bool.and_eq_true]; exact ⟨decide_eq_true h96, decide_eq_true h108⟩, show ds (aj P r w R) 15 row x < ds (aj P r w R) 15 row t by omega⟩] at ih
                   exact ih)
                | exact absurd h114 (nI_m1 (by omega))
            · refine g_p t250_99 rfl ?_
              refine g_p t250_100 rfl ?_
              refine g_p t250_101 rfl ?_
              refine r_cv t250_103 (f80 hF) rfl ?_
              refine c231 (by exact hF) (by exact m0) hP5 (by exact hB2) hk42 (by omega) ?_
              refine k_v ?_ rfl
              refine g_p t250_106 rfl ?_
              refine g_cne t250_108 (fun h108 => ?_) (fun h108 => ?_)
              · refine g_incn (n := 1) t250_138 rfl rfl (Nat.le_of_ble_eq_true rfl) (am_s1_7 rfl) ?_
                refine g_goto t250_141 ?_
                first
                  | (have u0 : std P r w x = false := h85
                     rw [if_neg (fun h => out u0 h.2)] at ih
                     exact ih)
                  | (have u0 : ¬ sy P b x = y := h96
                     rw [if_neg (fun h => u0 (of_decide_eq_true ((Bool.and_eq_true _ _).mp h.1).1))] at ih
                     exact ih)
                  | (have u0 : ¬ sy P b2 x = y2 := h108
                     rw [if_neg (fun h => u0 (of_decide_eq_true ((Bool.and_eq_true _ _).mp h.1).2))] at ih
                     exact ih)
                  | (have u0 : ds (aj P r w R) 15 row t ≤ ds (aj P r w R) 1000 row x := h131
                     have u1 := (inn h85).1
                     rw [if_neg (fun h => by have h8 : ds (aj P r w R) 15 row x < ds (aj P r w R) 15 row t := h.2; omega)] at ih
                     exact ih)
                  | (have u0 : ¬ ds (aj P r w R) 15 row t ≤ ds (aj P r w R) 1000 row x := h131
                     have u1 := (inn h85).1
                     rw [if_pos ⟨by rw [Bool.and_eq_true]; exact ⟨decide_eq_true h96, decide_eq_true h108⟩, show ds (aj P r w R) 15 row x < ds (aj P r w R) 15 row t by omega⟩] at ih
                     exact ih)
                  | exact absurd h114 (nI_m1 (by omega))
              · refine g_p t250_111 rfl ?_
                refine g_p t250_113 rfl ?_
                refine g_ceq t250_114 (fun h114 => ?_) (fun h114 => ?_)
                · refine g_p t250_134 rfl ?_
                  refine g_is t250_136 (Nat.le_of_ble_eq_true rfl) (am_s1_6 rfl) ?_
                  refine g_incn (n := 1) t250_138 rfl rfl (Nat.le_of_ble_eq_true rfl) (am_s1_7 rfl) ?_
                  refine g_goto t250_141 ?_
                  first
                    | (have u0 : std P r w x = false := h85
                       rw [if_neg (fun h => out u0 h.2)] at ih
                       exact ih)
                    | (have u0 : ¬ sy P b x = y := h96
                       rw [if_neg (fun h => u0 (of_decide_eq_true ((Bool.and_eq_true _ _).mp h.1).1))] at ih
                       exact ih)
                    | (have u0 : ¬ sy P b2 x = y2 := h108
                       rw [if_neg (fun h => u0 (of_decide_eq_true ((Bool.and_eq_true _ _).mp h.1).2))] at ih
                       exact ih)
                    | (have u0 : ds (aj P r w R) 15 row t ≤ ds (aj P r w R) 1000 row x := h131
                       have u1 := (inn h85).1
                       rw [if_neg (fun h => by have h8 : ds (aj P r w R) 15 row x < ds (aj P r w R) 15 row t := h.2; omega)] at ih
                       exact ih)
                    | (have u0 : ¬ ds (aj P r w R) 15 row t ≤ ds (aj P r w R) 1000 row x := h131
                       have u1 := (inn h85).1
                       rw [if_pos ⟨by rw [Bool.and_eq_true]; exact ⟨decide_eq_true h96, decide_eq_true h108⟩, show ds (aj P r w R) 15 row x < ds (aj P r w R) 15 row t by omega⟩] at ih
                       exact ih)
                    | exact absurd h114 (nI_m1 (by omega))
                · refine g_p t250_117 rfl ?_
                  refine r_getr t250_118 (f80 hF) rfl rfl ?_
                  refine g_p t250_121 rfl ?_
                  refine r_iale t250_123 (f98 hF) (by decide) (by omega) hfx ?_
                  refine g_p t250_124 rfl ?_
                  refine r_getr t250_125 (f80 hF) rfl rfl ?_
                  refine g_p t250_128 rfl ?_
                  refine r_iale t250_130 (f98 hF) (by decide) (by omega) hft ?_
                  refine n_cge t250_131 (by have := (inn h85).1; have := (inn h85).2; omega) (by omega) (fun h131 => ?_) (fun h131 => ?_)
                  · refine g_incn (n := 1) t250_138 rfl rfl (Nat.le_of_ble_eq_true rfl) (am_s1_7 rfl) ?_
                    refine g_goto t250_141 ?_
                    first
                      | (have u0 : std P r w x = false := h85
                         rw [if_neg (fun h => out u0 h.2)] at ih
                         exact ih)
                      | (have u0 : ¬ sy P b x = y := h96
                         rw [if_neg (fun h => u0 (of_decide_eq_true ((Bool.and_eq_true _ _).mp h.1).1))] at ih
                         exact ih)
                      | (have u0 : ¬ sy P b2 x = y2 := h108
                         rw [if_neg (fun h => u0 (of_decide_eq_true ((Bool.and_eq_true _ _).mp h.1).2))] at ih
                         exact ih)
                      | (have u0 : ds (aj P r w R) 15 row t ≤ ds (aj P r w R) 1000 row x := h131
                         have u1 := (inn h85).1
                         rw [if_neg (fun h => by have h8 : ds (aj P r w R) 15 row x < ds (aj P r w R) 15 row t := h.2; omega)] at ih
                         exact ih)
                      | (have u0 : ¬ ds (aj P r w R) 15 row t ≤ ds (aj P r w R) 1000 row x := h131
                         have u1 := (inn h85).1
                         rw [if_pos ⟨by rw [Bool.and_eq_true]; exact ⟨decide_eq_true h96, decide_eq_true h108⟩, show ds (aj P r w R) 15 row x < ds (aj P r w R) 15 row t by omega⟩] at ih
                         exact ih)
                      | exact absurd h114 (nI_m1 (by omega))
                  · refine g_p t250_134 rfl ?_
                    refine g_is t250_136 (Nat.le_of_ble_eq_true rfl) (am_s1_6 rfl) ?_
                    refine g_incn (n := 1) t250_138 rfl rfl (Nat.le_of_ble_eq_true rfl) (am_s1_7 rfl) ?_
                    refine g_goto t250_141 ?_
                    first
                      | (have u0 : std P r w x = false := h85
                         rw [if_neg (fun h => out u0 h.2)] at ih
                         exact ih)
                      | (have u0 : ¬ sy P b x = y := h96
                         rw [if_neg (fun h => u0 (of_decide_eq_true ((Bool.and_eq_true _ _).mp h.1).1))] at ih
                         exact ih)
                      | (have u0 : ¬ sy P b2 x = y2 := h108
                         rw [if_neg (fun h => u0 (of_decide_eq_true ((Bool.and_eq_true _ _).mp h.1).2))] at ih
                         exact ih)
                      | (have u0 : ds (aj P r w R) 15 row t ≤ ds (aj P r w R) 1000 row x := h131
                         have u1 := (inn h85).1
                         rw [if_neg (fun h => by have h8 : ds (aj P r w R) 15 row x < ds (aj P r w R) 15 row t := h.2; omega)] at ih
                         exact ih)
                      | (have u0 : ¬ ds (aj P r w R) 15 row t ≤ ds (aj P r w R) 1000 row x := h131
                         have u1 := (inn h85).1
                         rw [if_pos ⟨by rw [Bool.and_eq_true]; exact ⟨decide_eq_true h96, decide_eq_true h108⟩, show ds (aj P r w R) 15 row x < ds (aj P r w R) 15 row t by omega⟩] at ih
                         exact ih)
                      | exact absurd h114 (nI_m1 (by omega))
  refine en250 rfl rfl rfl rfl rfl rfl ?_
  refine g_p t250_0 rfl ?_
  refine g_k (n := 0) t250_1 rfl rfl ?_
  refine r_puti t250_2 (f80 hF) rfl rfl ?_
  refine g_p t250_5 rfl ?_
  refine g_p t250_6 rfl ?_
  refine r_cv t250_7 (f80 hF) rfl ?_
  refine c218B (by exact hF) (by exact m0) hP5 (by exact hM) ?_
  refine k_v ?_ rfl
  rw [hg]
  refine b_eq t250_10 (fun h10 => ?_) (fun h10 => ?_)
  · first
      | (have u0 : (some b).isSome = false := h10
         exact absurd u0 (by simp))
      | (have u0 : (some b2).isSome = false := h18
         exact absurd u0 (by simp))
      | exact absurd h25 (by decide)
      | exact absurd h40 (by decide)
      | exact absurd h51 (by decide)
  · refine g_p t250_13 rfl ?_
    refine g_p t250_14 rfl ?_
    refine r_cv t250_15 (f80 hF) rfl ?_
    refine c218B (by exact hF) (by exact m0) hP5 (by exact hM) ?_
    refine k_v ?_ rfl
    rw [hg2]
    refine b_eq t250_18 (fun h18 => ?_) (fun h18 => ?_)
    · first
        | (have u0 : (some b).isSome = false := h10
           exact absurd u0 (by simp))
        | (have u0 : (some b2).isSome = false := h18
           exact absurd u0 (by simp))
        | exact absurd h25 (by decide)
        | exact absurd h40 (by decide)
        | exact absurd h51 (by decide)
    · refine g_p t250_21 rfl ?_
      refine g_cs t250_22 rfl rfl rfl ?_
      refine c237 ?_
      refine k_v ?_ rfl
      rw [hy]
      refine b_eq t250_25 (fun h25 => ?_) (fun h25 => ?_)
      · first
          | (have u0 : (some b).isSome = false := h10
             exact absurd u0 (by simp))
          | (have u0 : (some b2).isSome = false := h18
             exact absurd u0 (by simp))
          | exact absurd h25 (by decide)
          | exact absurd h40 (by decide)
          | exact absurd h51 (by decide)
      · refine g_p t250_28 rfl ?_
        refine g_p t250_30 rfl ?_
        refine g_p t250_31 rfl ?_
        refine g_p t250_34 rfl ?_
        refine g_cs t250_37 rfl rfl rfl ?_
        refine c176i (a := -1) (b := 7) rfl rfl ?_
        rw [isR_L0, hy2]
        refine k_v ?_ rfl
        refine b_eq t250_40 (fun h40 => ?_) (fun h40 => ?_)
        · first
            | (have u0 : (some b).isSome = false := h10
               exact absurd u0 (by simp))
            | (have u0 : (some b2).isSome = false := h18
               exact absurd u0 (by simp))
            | exact absurd h25 (by decide)
            | exact absurd h40 (by decide)
            | exact absurd h51 (by decide)
        · refine g_p t250_43 rfl ?_
          refine g_p t250_45 rfl ?_
          refine g_p t250_46 rfl ?_
          refine g_p t250_47 rfl ?_
          refine g_cs t250_48 rfl rfl rfl ?_
          refine c176i (a := 0) (b := 1) rfl rfl ?_
          rw [isR_H, hz]
          refine k_v ?_ rfl
          refine b_ne t250_51 (fun h51 => ?_) (fun h51 => ?_)
          · refine g_p t250_56 rfl ?_
            refine g_p t250_57 rfl ?_
            refine r_gete t250_58 (f80 hF) rfl rfl e33 ?_
            refine r_cv t250_61 (f80 hF) rfl ?_
            refine c234n (by exact hF) hP5 (by exact m0) (by exact p1) (by exact p2) hr5 hw5 hs (by exact e43) (fun s1 f1 hd => ?_)
            refine k_0 ?_
            have hF := Fx.fr (by exact hF) f1.1
            have m0 := (f1.f (i := 20) (by decide)).trans m0
            have e33 := (f1.f (i := 33) (by decide)).trans e33
            have e35 := (f1.f (i := 35) (by decide)).trans e35
            have e34 := (f1.f (i := 34) (by decide)).trans e34
            have e21 := (f1.f (i := 21) (by decide)).trans e21
            have p1 := (f1.g (p := 85) (i := 1) (by decide)).trans p1
            have p2 := (f1.g (p := 85) (i := 2) (by decide)).trans p2
            have e43 := (f1.f (i := 43) (by decide)).trans e43
            refine g_p t250_64 rfl ?_
            refine g_is t250_65 (Nat.le_of_ble_eq_true rfl) (am_s1_6 rfl) ?_
            refine g_k (n := 0) t250_67 rfl rfl ?_
            refine g_is t250_68 (Nat.le_of_ble_eq_true rfl) (am_s1_7 rfl) ?_
            refine K s1 hF ((FM.rf.m (by decide)).tr (f1.mono (by decide) (by decide))) m0 p1 p2 (MB1.fm (A := 80 :: fA) (B := nB) (s := wi s 80 0 (nI 0)) (by exact hB1) f1.1 (by decide) (by decide) (by decide) (by decide)) (MB1.fm (A := 80 :: fA) (B := nB) (s := wi s 80 0 (nI 0)) (by exact hB2) f1.1 (by decide) (by decide) (by decide) (by decide)) (fun x hx => ?_) (mn P) 0 (none, 15) (by omega) hW2 (Or.inl rfl)
            rw [hd x hx, dst_ds hs, hR]
          · first
              | (have u0 : (some b).isSome = false := h10
                 exact absurd u0 (by simp))
              | (have u0 : (some b2).isSome = false := h18
                 exact absurd u0 (by simp))
              | exact absurd h25 (by decide)
              | exact absurd h40 (by decide)
              | exact absurd h51 (by decide)
theorem c250f (hF : Fx s) (hP5 : P ≤ 5) (hW : MW P r w pd row day left s) (hr5 : r ≤ 5) (hw5 : w ≤ 5) (e43 : ri s 80 43 = bI false) (hM : MB bks s) (hno : ¬ ((bG P bks x).isSome = true ∧ (bG P bks x2).isSome = true ∧ isL y = true ∧ isL0 y2 = true ∧ isH z = true)) (hq : Q (some (.int (-1))) (mR (wi s 80 0 (nI 0)))) : gE X (d + 6) 250 [.ref 80, .int x, .int y, .int x2, .int y2, .int z] (mR s) Q := by
  obtain ⟨m0, e21, e33, e34, e35, p1, p2⟩ := id hW
  refine en250 rfl rfl rfl rfl rfl rfl ?_
  refine g_p t250_0 rfl ?_
  refine g_k (n := 0) t250_1 rfl rfl ?_
  refine r_puti t250_2 (f80 hF) rfl rfl ?_
  refine g_p t250_5 rfl ?_
  refine g_p t250_6 rfl ?_
  refine r_cv t250_7 (f80 hF) rfl ?_
  refine c218B (by exact hF) (by exact m0) hP5 (by exact hM) ?_
  refine k_v ?_ rfl
  refine b_eq t250_10 (fun h10 => ?_) (fun h10 => ?_)
  · refine g_p t250_54 rfl ?_
    exact i_ret t250_55 rfl hq
  · refine g_p t250_13 rfl ?_
    refine g_p t250_14 rfl ?_
    refine r_cv t250_15 (f80 hF) rfl ?_
    refine c218B (by exact hF) (by exact m0) hP5 (by exact hM) ?_
    refine k_v ?_ rfl
    refine b_eq t250_18 (fun h18 => ?_) (fun h18 => ?_)
    · refine g_p t250_54 rfl ?_
      exact i_ret t250_55 rfl hq
    · refine g_p t250_21 rfl ?_
      refine g_cs t250_22 rfl rfl rfl ?_
      refine c237 ?_
      refine k_v ?_ rfl
      refine b_eq t250_25 (fun h25 => ?_) (fun h25 => ?_)
      · refine g_p t250_54 rfl ?_
        exact i_ret t250_55 rfl hq
      · refine g_p t250_28 rfl ?_
        refine g_p t250_30 rfl ?_
        refine g_p t250_31 rfl ?_
        refine g_p t250_34 rfl ?_
        refine g_cs t250_37 rfl rfl rfl ?_
        refine c176i (a := -1) (b := 7) rfl rfl ?_
        rw [isR_L0]
        refine k_v ?_ rfl
        refine b_eq t250_40 (fun h40 => ?_) (fun h40 => ?_)
        · refine g_p t250_54 rfl ?_
          exact i_ret t250_55 rfl hq
        · refine g_p t250_43 rfl ?_
          refine g_p t250_45 rfl ?_
          refine g_p t250_46 rfl ?_
          refine g_p t250_47 rfl ?_
          refine g_cs t250_48 rfl rfl rfl ?_
          refine c176i (a := 0) (b := 1) rfl rfl ?_
          rw [isR_H]
          refine k_v ?_ rfl
          refine b_ne t250_51 (fun h51 => ?_) (fun h51 => ?_)
          · exact absurd ⟨h10, h18, h25, h40, h51⟩ hno
          · refine g_p t250_54 rfl ?_
            exact i_ret t250_55 rfl hq
theorem c238t (hF : Fx s) (hP5 : P ≤ 5) (hW : MW P r w pd row day left s) (hr5 : r ≤ 5) (hw5 : w ≤ 5) (e43 : ri s 80 43 = bI false) (hst : 0 < P → std P r w row = true) (hM : MB bks s) (hg : bG P bks x = some b) (hy : isL y = true) (hz : isH z = true) (hLO : LO X (d + 4) P rt L J) (hJ : J (wi (wi s 80 0 (nI 0)) 80 43 (bI rt))) (hq : ∀ s', FM fA (0 :: 43 :: nB) s s' → ri s' 80 43 = bI false → Q (some (.int (nrv P z (nrl (fun c => decide (sy P b c = y)) (ds (aj P r w (fun c t => !rt || rg P L c t)) 15 row) (mn P) 0 (none, 15))))) (mR s')) : gE X (d + 7) 238 [.ref 80, .int x, .int y, .int (bI rt), .int z] (mR s) Q := by
  obtain ⟨m0, e21, e33, e34, e35, p1, p2⟩ := id hW
  have hm := mn_le hP5
  obtain ⟨hP0, k, hk, hk4, rfl, hB1⟩ := bG_M hM hg
  have hs := hst hP0
  have hrN := (std_t hs).1
  obtain ⟨R, hR⟩ : ∃ R, R = (fun c t => !rt || rg P L c t) := ⟨_, rfl⟩
  have hRok : Rok P R := by rw [hR]; exact Rok_b
  rw [← hR] at hq
  obtain ⟨W, hW2⟩ : ∃ W, W = nrl (fun c => decide (sy P b c = y)) (ds (aj P r w R) 15 row) (mn P) 0 (none, 15) := ⟨_, rfl⟩
  rw [← hW2] at hq
  have hq : ∀ s', (FM fA (0 :: 43 :: nB) s s' ∧ ri s' 80 43 = bI false) → Q (some (.int (nrv P z W))) (mR s') := fun s' h => hq s' h.1 h.2
  let Q1 : mM → Prop := fun s1 => FM fA (0 :: 43 :: nB) s s1 ∧ ri s1 80 43 = bI false
  have K : ∀ s1 : mM, Fx s1 → Q1 s1 → ri s1 80 20 = nI P → ri s1 85 1 = nI r → ri s1 85 2 = nI w → MB1 b k s1 →  (∀ x, x < mn P → ri s1 98 x = nI (ds (aj P r w R) 1000 row x)) → ∀ (j x : Nat) (o : Option Nat × Nat), x + j = mn P → W = nrl (fun c => decide (sy P b c = y)) (ds (aj P r w R) 15 row) j x o → nOK P r w R row o → gG X (d + 7) 238 57 [.ref 80, .int (nI k), .int y, .int (bI rt), .int z, .int (oI o.1), .int (nI x)] [] (mR s1) Q := by
    intro s1 hF hf m0 p1 p2 hB1  hd j
    induction j with
    | zero =>
      intro x o hj he ho
      have he : W = o := he
      subst he
      rcases ho with rfl | ⟨t, rfl, h3, h4⟩
      · show gG X (d + 7) 238 57 [.ref 80, .int (nI k), .int y, .int (bI rt), .int z, .int (-1), .int (nI x)] [] (mR s1) Q
        refine g_p t238_57 rfl ?_
        refine g_p t238_59 rfl ?_
        refine r_cv t238_60 (f80 hF) rfl ?_
        refine c209 (by exact hF) (by exact m0) hP5 hP0 ?_
        refine k_v ?_ rfl
        refine n_cge t238_63 (by omega) (by omega) (fun h63 => ?_) (fun h63 => ?_)
        · refine g_p t238_132 rfl ?_
          refine g_p t238_134 rfl ?_
          refine g_cne t238_135 (fun h135 => ?_) (fun h135 => ?_)
          · exact absurd rfl h135
          · refine g_p t238_138 rfl ?_
            refine g_goto t238_139 ?_
            exact i_ret t238_163 rfl (hq _ hf)
        · exfalso; omega
      · have htN := (std_t h3).1
        have hft : ri s1 98 t = nI (ds (aj P r w R) 15 row t) := by rw [hd t htN, ds_F hP5 hRok hs h3]
        show gG X (d + 7) 238 57 [.ref 80, .int (nI k), .int y, .int (bI rt), .int z, .int (nI t), .int (nI x)] [] (mR s1) Q
        refine g_p t238_57 rfl ?_
        refine g_p t238_59 rfl ?_
        refine r_cv t238_60 (f80 hF) rfl ?_
        refine c209 (by exact hF) (by exact m0) hP5 hP0 ?_
        refine k_v ?_ rfl
        refine n_cge t238_63 (by omega) (by omega) (fun h63 => ?_) (fun h63 => ?_)
        · refine g_p t238_132 rfl ?_
          refine g_p t238_134 rfl ?_
          refine g_cne t238_135 (fun h135 => ?_) (fun h135 => ?_)
          · refine g_p t238_142 rfl ?_
            refine g_ne t238_144 (fun h144 => ?_) (fun h144 => ?_)
            · refine g_p t238_157 rfl ?_
              refine g_p t238_158 rfl ?_
              refine r_cv t238_160 (f80 hF) rfl ?_
              refine c215 (by exact hF) (by exact m0) hP5 (by omega) ?_
              refine k_v ?_ rfl
              first
                | (have u0 : z = 0 := h144
                   refine i_ret t238_163 ?_ (hq _ hf)
                   show _ = (if z = 0 then nI _ else nI _)
                   rw [if_pos u0])
                | (have u0 : ¬ z = 0 := h144
                   refine i_ret t238_163 ?_ (hq _ hf)
                   show _ = (if z = 0 then nI _ else nI _)
                   rw [if_neg u0])
            · refine g_p t238_147 rfl ?_
              refine r_getr t238_148 (f80 hF) rfl rfl ?_
              refine g_p t238_151 rfl ?_
              refine r_iale t238_153 (f98 hF) (by decide) (by omega) hft ?_
              refine g_goto t238_154 ?_
              first
                | (have u0 : z = 0 := h144
                   refine i_ret t238_163 ?_ (hq _ hf)
                   show _ = (if z = 0 then nI _ else nI _)
                   rw [if_pos u0])
                | (have u0 : ¬ z = 0 := h144
                   refine i_ret t238_163 ?_ (hq _ hf)
                   show _ = (if z = 0 then nI _ else nI _)
                   rw [if_neg u0])
          · exact absurd h135 (nI_m1 (by omega))
        · exfalso; omega
    | succ j ih =>
      intro x o hj he ho
      have hx : x < mn P := by omega
      have hok := nOK_n (m := (fun c => decide (sy P b c = y)) x) hP5 hRok hs (x := x) ho
      unfold nrl at he
      have ih := ih (x + 1) _ (by omega) he hok
      have hfx := hd x hx
      have out : std P r w x = false → ¬ ds (aj P r w R) 15 row x < o.2 := fun h => by
        rw [ds_out hs h]
        rcases ho with rfl | ⟨t, rfl, h3, h4⟩
        · exact Nat.lt_irrefl _
        · exact Nat.not_lt.mpr (Nat.le_trans h4 (by decide))
      have inn : std P r w x = true → ds (aj P r w R) 1000 row x = ds (aj P r w R) 15 row x ∧ ds (aj P r w R) 15 row x ≤ 10 := fun h => ⟨ds_F hP5 hRok hs h, ds_10 hP5 hRok hs h⟩
      rcases ho with rfl | ⟨t, rfl, h3, h4⟩
      · show gG X (d + 7) 238 57 [.ref 80, .int (nI k), .int y, .int (bI rt), .int z, .int (-1), .int (nI x)] [] (mR s1) Q
        refine g_p t238_57 rfl ?_
        refine g_p t238_59 rfl ?_
        refine r_cv t238_60 (f80 hF) rfl ?_
        refine c209 (by exact hF) (by exact m0) hP5 hP0 ?_
        refine k_v ?_ rfl
        refine n_cge t238_63 (by omega) (by omega) (fun h63 => ?_) (fun h63 => ?_)
        · exfalso; omega
        · refine g_p t238_66 rfl ?_
          refine g_p t238_67 rfl ?_
          refine r_cv t238_69 (f80 hF) rfl ?_
          refine c214 (by exact hF) (by exact m0) hP5 (by exact p1) (by exact p2) hr5 hw5 (by omega) ?_
          refine k_v ?_ rfl
          refine b_eq t238_72 (fun h72 => ?_) (fun h72 => ?_)
          · refine g_incn (n := 1) t238_126 rfl rfl (Nat.le_of_ble_eq_true rfl) (am_s1_6 rfl) ?_
            refine g_goto t238_129 ?_
            first
              | (have u0 : std P r w x = false := h72
                 rw [if_neg (fun h => out u0 h.2)] at ih
                 exact ih)
              | (have u0 : 1000 ≤ ds (aj P r w R) 1000 row x := h85
                 have u1 := inn h72
                 exfalso; omega)
              | (have u0 : ¬ sy P b x = y := h96
                 rw [if_neg (fun h => u0 (of_decide_eq_true h.1))] at ih
                 exact ih)
              | (have u1 := (inn h72).2
                 rw [if_pos ⟨decide_eq_true h96, Nat.lt_of_le_of_lt u1 (by decide)⟩] at ih
                 exact ih)
          · refine g_p t238_75 rfl ?_
            refine r_getr t238_76 (f80 hF) rfl rfl ?_
            refine g_p t238_79 rfl ?_
            refine r_iale t238_81 (f98 hF) (by decide) (by omega) hfx ?_
            refine g_k (n := 1000) t238_82 rfl rfl ?_
            refine n_cge t238_85 (by have := inn h72; omega) (by omega) (fun h85 => ?_) (fun h85 => ?_)
            · refine g_incn (n := 1) t238_126 rfl rfl (Nat.le_of_ble_eq_true rfl) (am_s1_6 rfl) ?_
              refine g_goto t238_129 ?_
              first
                | (have u0 : std P r w x = false := h72
                   rw [if_neg (fun h => out u0 h.2)] at ih
                   exact ih)
                | (have u0 : 1000 ≤ ds (aj P r w R) 1000 row x := h85
                   have u1 := inn h72
                   exfalso; omega)
                | (have u0 : ¬ sy P b x = y := h96
                   rw [if_neg (fun h => u0 (of_decide_eq_true h.1))] at ih
                   exact ih)
                | (have u1 := (inn h72).2
                   rw [if_pos ⟨decide_eq_true h96, Nat.lt_of_le_of_lt u1 (by decide)⟩] at ih
                   exact ih)
            · refine g_p t238_88 rfl ?_
              refine g_p t238_89 rfl ?_
              refine g_p t238_90 rfl ?_
              refine r_cv t238_92 (f80 hF) rfl ?_
              refine c231 (by exact hF) (by exact m0) hP5 (by exact hB1) hk4 (by omega) ?_
              refine k_v ?_ rfl
              refine g_p t238_95 rfl ?_
              refine g_cne t238_96 (fun h96 => ?_) (fun h96 => ?_)
              · refine g_incn (n := 1) t238_126 rfl rfl (Nat.le_of_ble_eq_true rfl) (am_s1_6 rfl) ?_
                refine g_goto t238_129 ?_
                first
                  | (have u0 : std P r w x = false := h72
                     rw [if_neg (fun h => out u0 h.2)] at ih
                     exact ih)
                  | (have u0 : 1000 ≤ ds (aj P r w R) 1000 row x := h85
                     have u1 := inn h72
                     exfalso; omega)
                  | (have u0 : ¬ sy P b x = y := h96
                     rw [if_neg (fun h => u0 (of_decide_eq_true h.1))] at ih
                     exact ih)
                  | (have u1 := (inn h72).2
                     rw [if_pos ⟨decide_eq_true h96, Nat.lt_of_le_of_lt u1 (by decide)⟩] at ih
                     exact ih)
              · refine g_p t238_99 rfl ?_
                refine g_p t238_101 rfl ?_
                refine g_ceq t238_102 (fun h102 => ?_) (fun h102 => ?_)
                · refine g_p t238_122 rfl ?_
                  refine g_is t238_124 (Nat.le_of_ble_eq_true rfl) (am_s1_5 rfl) ?_
                  refine g_incn (n := 1) t238_126 rfl rfl (Nat.le_of_ble_eq_true rfl) (am_s1_6 rfl) ?_
                  refine g_goto t238_129 ?_
                  first
                    | (have u0 : std P r w x = false := h72
                       rw [if_neg (fun h => out u0 h.2)] at ih
                       exact ih)
                    | (have u0 : 1000 ≤ ds (aj P r w R) 1000 row x := h85
                       have u1 := inn h72
                       exfalso; omega)
                    | (have u0 : ¬ sy P b x = y := h96
                       rw [if_neg (fun h => u0 (of_decide_eq_true h.1))] at ih
                       exact ih)
                    | (have u1 := (inn h72).2
                       rw [if_pos ⟨decide_eq_true h96, Nat.lt_of_le_of_lt u1 (by decide)⟩] at ih
                       exact ih)
                · exact absurd rfl h102
      · have htN := (std_t h3).1
        have hft : ri s1 98 t = nI (ds (aj P r w R) 15 row t) := by rw [hd t htN, ds_F hP5 hRok hs h3]
        show gG X (d + 7) 238 57 [.ref 80, .int (nI k), .int y, .int (bI rt), .int z, .int (nI t), .int (nI x)] [] (mR s1) Q
        refine g_p t238_57 rfl ?_
        refine g_p t238_59 rfl ?_
        refine r_cv t238_60 (f80 hF) rfl ?_
        refine c209 (by exact hF) (by exact m0) hP5 hP0 ?_
        refine k_v ?_ rfl
        refine n_cge t238_63 (by omega) (by omega) (fun h63 => ?_) (fun h63 => ?_)
        · exfalso; omega
        · refine g_p t238_66 rfl ?_
          refine g_p t238_67 rfl ?_
          refine r_cv t238_69 (f80 hF) rfl ?_
          refine c214 (by exact hF) (by exact m0) hP5 (by exact p1) (by exact p2) hr5 hw5 (by omega) ?_
          refine k_v ?_ rfl
          refine b_eq t238_72 (fun h72 => ?_) (fun h72 => ?_)
          · refine g_incn (n := 1) t238_126 rfl rfl (Nat.le_of_ble_eq_true rfl) (am_s1_6 rfl) ?_
            refine g_goto t238_129 ?_
            first
              | (have u0 : std P r w x = false := h72
                 rw [if_neg (fun h => out u0 h.2)] at ih
                 exact ih)
              | (have u0 : 1000 ≤ ds (aj P r w R) 1000 row x := h85
                 have u1 := inn h72
                 exfalso; omega)
              | (have u0 : ¬ sy P b x = y := h96
                 rw [if_neg (fun h => u0 (of_decide_eq_true h.1))] at ih
                 exact ih)
              | (have u0 : ds (aj P r w R) 15 row t ≤ ds (aj P r w R) 1000 row x := h119
                 have u1 := (inn h72).1
                 rw [if_neg (fun h => by have h8 : ds (aj P r w R) 15 row x < ds (aj P r w R) 15 row t := h.2; omega)] at ih
                 exact ih)
              | (have u0 : ¬ ds (aj P r w R) 15 row t ≤ ds (aj P r w R) 1000 row x := h119
                 have u1 := (inn h72).1
                 rw [if_pos ⟨decide_eq_true h96, show ds (aj P r w R) 15 row x < ds (aj P r w R) 15 row t by omega⟩] at ih
                 exact ih)
              | exact absurd h102 (nI_m1 (by omega))
          · refine g_p t238_75 rfl ?_
            refine r_getr t238_76 (f80 hF) rfl rfl ?_
            refine g_p t238_79 rfl ?_
            refine r_iale t238_81 (f98 hF) (by decide) (by omega) hfx ?_
            refine g_k (n := 1000) t238_82 rfl rfl ?_
            refine n_cge t238_85 (by have := inn h72; omega) (by omega) (fun h85 => ?_) (fun h85 => ?_)
            · refine g_incn (n := 1) t238_126 rfl rfl (Nat.le_of_ble_eq_true rfl) (am_s1_6 rfl) ?_
              refine g_goto t238_129 ?_
              first
                | (have u0 : std P r w x = false := h72
                   rw [if_neg (fun h => out u0 h.2)] at ih
                   exact ih)
                | (have u0 : 1000 ≤ ds (aj P r w R) 1000 row x := h85
                   have u1 := inn h72
                   exfalso; omega)
                | (have u0 : ¬ sy P b x = y := h96
                   rw [if_neg (fun h => u0 (of_decide_eq_true h.1))] at ih
                   exact ih)
                | (have u0 : ds (aj P r w R) 15 row t ≤ ds (aj P r w R) 1000 row x := h119
                   have u1 := (inn h72).1
                   rw [if_neg (fun h => by have h8 : ds (aj P r w R) 15 row x < ds (aj P r w R) 15 row t := h.2; omega)] at ih
                   exact ih)
                | (have u0 : ¬ ds (aj P r w R) 15 row t ≤ ds (aj P r w R) 1000 row x := h119
                   have u1 := (inn h72).1
                   rw [if_pos ⟨decide_eq_true h96, show ds (aj P r w R) 15 row x < ds (aj P r w R) 15 row t by omega⟩] at ih
                   exact ih)
                | exact absurd h102 (nI_m1 (by omega))
            · refine g_p t238_88 rfl ?_
              refine g_p t238_89 rfl ?_
              refine g_p t238_90 rfl ?_
              refine r_cv t238_92 (f80 hF) rfl ?_
              refine c231 (by exact hF) (by exact m0) hP5 (by exact hB1) hk4 (by omega) ?_
              refine k_v ?_ rfl
              refine g_p t238_95 rfl ?_
              refine g_cne t238_96 (fun h96 => ?_) (fun h96 => ?_)
              · refine g_incn (n := 1) t238_126 rfl rfl (Nat.le_of_ble_eq_true rfl) (am_s1_6 rfl) ?_
                refine g_goto t238_129 ?_
                first
                  | (have u0 : std P r w x = false := h72
                     rw [if_neg (fun h => out u0 h.2)] at ih
                     exact ih)
                  | (have u0 : 1000 ≤ ds (aj P r w R) 1000 row x := h85
                     have u1 := inn h72
                     exfalso; omega)
                  | (have u0 : ¬ sy P b x = y := h96
                     rw [if_neg (fun h => u0 (of_decide_eq_true h.1))] at ih
                     exact ih)
                  | (have u0 : ds (aj P r w R) 15 row t ≤ ds (aj P r w R) 1000 row x := h119
                     have u1 := (inn h72).1
                     rw [if_neg (fun h => by have h8 : ds (aj P r w R) 15 row x < ds (aj P r w R) 15 row t := h.2; omega)] at ih
                     exact ih)
                  | (have u0 : ¬ ds (aj P r w R) 15 row t ≤ ds (aj P r w R) 1000 row x := h119
                     have u1 := (inn h72).1
                     rw [if_pos ⟨decide_eq_true h96, show ds (aj P r w R) 15 row x < ds (aj P r w R) 15 row t by omega⟩] at ih
                     exact ih)
                  | exact absurd h102 (nI_m1 (by omega))
              · refine g_p t238_99 rfl ?_
                refine g_p t238_101 rfl ?_
                refine g_ceq t238_102 (fun h102 => ?_) (fun h102 => ?_)
                · refine g_p t238_122 rfl ?_
                  refine g_is t238_124 (Nat.le_of_ble_eq_true rfl) (am_s1_5 rfl) ?_
                  refine g_incn (n := 1) t238_126 rfl rfl (Nat.le_of_ble_eq_true rfl) (am_s1_6 rfl) ?_
                  refine g_goto t238_129 ?_
                  first
                    | (have u0 : std P r w x = false := h72
                       rw [if_neg (fun h => out u0 h.2)] at ih
                       exact ih)
                    | (have u0 : 1000 ≤ ds (aj P r w R) 1000 row x := h85
                       have u1 := inn h72
                       exfalso; omega)
                    | (have u0 : ¬ sy P b x = y := h96
                       rw [if_neg (fun h => u0 (of_decide_eq_true h.1))] at ih
                       exact ih)
                    | (have u0 : ds (aj P r w R) 15 row t ≤ ds (aj P r w R) 1000 row x := h119
                       have u1 := (inn h72).1
                       rw [if_neg (fun h => by have h8 : ds (aj P r w R) 15 row x < ds (aj P r w R) 15 row t := h.2; omega)] at ih
                       exact ih)
                    | (have u0 : ¬ ds (aj P r w R) 15 row t ≤ ds (aj P r w R) 1000 row x := h119
                       have u1 := (inn h72).1
                       rw [if_pos ⟨decide_eq_true h96, show ds (aj P r w R) 15 row x < ds (aj P r w R) 15 row t by omega⟩] at ih
                       exact ih)
                    | exact absurd h102 (nI_m1 (by omega))
                · refine g_p t238_105 rfl ?_
                  refine r_getr t238_106 (f80 hF) rfl rfl ?_
                  refine g_p t238_109 rfl ?_
                  refine r_iale t238_111 (f98 hF) (by decide) (by omega) hfx ?_
                  refine g_p t238_112 rfl ?_
                  refine r_getr t238_113 (f80 hF) rfl rfl ?_
                  refine g_p t238_116 rfl ?_
                  refine r_iale t238_118 (f98 hF) (by decide) (by omega) hft ?_
                  refine n_cge t238_119 (by have := (inn h72).1; have := (inn h72).2; omega) (by omega) (fun h119 => ?_) (fun h119 => ?_)
                  · refine g_incn (n := 1) t238_126 rfl rfl (Nat.le_of_ble_eq_true rfl) (am_s1_6 rfl) ?_
                    refine g_goto t238_129 ?_
                    first
                      | (have u0 : std P r w x = false := h72
                         rw [if_neg (fun h => out u0 h.2)] at ih
                         exact ih)
                      | (have u0 : 1000 ≤ ds (aj P r w R) 1000 row x := h85
                         have u1 := inn h72
                         exfalso; omega)
                      | (have u0 : ¬ sy P b x = y := h96
                         rw [if_neg (fun h => u0 (of_decide_eq_true h.1))] at ih
                         exact ih)
                      | (have u0 : ds (aj P r w R) 15 row t ≤ ds (aj P r w R) 1000 row x := h119
                         have u1 := (inn h72).1
                         rw [if_neg (fun h => by have h8 : ds (aj P r w R) 15 row x < ds (aj P r w R) 15 row t := h.2; omega)] at ih
                         exact ih)
                      | (have u0 : ¬ ds (aj P r w R) 15 row t ≤ ds (aj P r w R) 1000 row x := h119
                         have u1 := (inn h72).1
                         rw [if_pos ⟨decide_eq_true h96, show ds (aj P r w R) 15 row x < ds (aj P r w R) 15 row t by omega⟩] at ih
                         exact ih)
                      | exact absurd h102 (nI_m1 (by omega))
                  · refine g_p t238_122 rfl ?_
                    refine g_is t238_124 (Nat.le_of_ble_eq_true rfl) (am_s1_5 rfl) ?_
                    refine g_incn (n := 1) t238_126 rfl rfl (Nat.le_of_ble_eq_true rfl) (am_s1_6 rfl) ?_
                    refine g_goto t238_129 ?_
                    first
                      | (have u0 : std P r w x = false := h72
                         rw [if_neg (fun h => out u0 h.2)] at ih
                         exact ih)
                      | (have u0 : 1000 ≤ ds (aj P r w R) 1000 row x := h85
                         have u1 := inn h72
                         exfalso; omega)
                      | (have u0 : ¬ sy P b x = y := h96
                         rw [if_neg (fun h => u0 (of_decide_eq_true h.1))] at ih
                         exact ih)
                      | (have u0 : ds (aj P r w R) 15 row t ≤ ds (aj P r w R) 1000 row x := h119
                         have u1 := (inn h72).1
                         rw [if_neg (fun h => by have h8 : ds (aj P r w R) 15 row x < ds (aj P r w R) 15 row t := h.2; omega)] at ih
                         exact ih)
                      | (have u0 : ¬ ds (aj P r w R) 15 row t ≤ ds (aj P r w R) 1000 row x := h119
                         have u1 := (inn h72).1
                         rw [if_pos ⟨decide_eq_true h96, show ds (aj P r w R) 15 row x < ds (aj P r w R) 15 row t by omega⟩] at ih
                         exact ih)
                      | exact absurd h102 (nI_m1 (by omega))
  refine en238 rfl rfl rfl rfl rfl ?_
  refine g_p t238_0 rfl ?_
  refine g_k (n := 0) t238_1 rfl rfl ?_
  refine r_puti t238_2 (f80 hF) rfl rfl ?_
  refine g_p t238_5 rfl ?_
  refine g_p t238_6 rfl ?_
  refine r_cv t238_7 (f80 hF) rfl ?_
  refine c218B (by exact hF) (by exact m0) hP5 (by exact hM) ?_
  refine k_v ?_ rfl
  rw [hg]
  refine b_eq t238_10 (fun h10 => ?_) (fun h10 => ?_)
  · first
      | (have u0 : (some b).isSome = false := h10
         exact absurd u0 (by simp))
      | exact absurd h17 (by decide)
      | exact absurd h28 (by decide)
  · refine g_p t238_13 rfl ?_
    refine g_cs t238_14 rfl rfl rfl ?_
    refine c237 ?_
    refine k_v ?_ rfl
    rw [hy]
    refine b_eq t238_17 (fun h17 => ?_) (fun h17 => ?_)
    · first
        | (have u0 : (some b).isSome = false := h10
           exact absurd u0 (by simp))
        | exact absurd h17 (by decide)
        | exact absurd h28 (by decide)
    · refine g_p t238_20 rfl ?_
      refine g_p t238_22 rfl ?_
      refine g_p t238_23 rfl ?_
      refine g_p t238_24 rfl ?_
      refine g_cs t238_25 rfl rfl rfl ?_
      refine c176i (a := 0) (b := 1) rfl rfl ?_
      rw [isR_H, hz]
      refine k_v ?_ rfl
      refine b_ne t238_28 (fun h28 => ?_) (fun h28 => ?_)
      · refine g_p t238_33 rfl ?_
        refine g_p t238_34 rfl ?_
        refine r_putz t238_35 (f80 hF) rfl rfl (by cases rt <;> rfl) ?_
        refine g_p t238_38 rfl ?_
        refine g_p t238_39 rfl ?_
        refine r_gete t238_40 (f80 hF) rfl rfl e33 ?_
        refine r_cv t238_43 (f80 hF) rfl ?_
        refine c234 (d := d + 1) (by exact hF) hP5 (by exact m0) (by exact p1) (by exact p2) hr5 hw5 hs rfl hLO hJ (fun s1 f1 hJ1 hd => ?_)
        refine k_0 ?_
        have hF := Fx.fr (by exact hF) f1.1
        have m0 := (f1.f (i := 20) (by decide)).trans m0
        refine g_p t238_46 rfl ?_
        refine g_k (n := 0) t238_47 rfl rfl ?_
        refine r_putz t238_48 (f80 hF) rfl rfl rfl ?_
        refine g_p t238_51 rfl ?_
        refine g_is t238_52 (Nat.le_of_ble_eq_true rfl) (am_s1_5 rfl) ?_
        refine g_k (n := 0) t238_54 rfl rfl ?_
        refine g_is t238_55 (Nat.le_of_ble_eq_true rfl) (am_s1_6 rfl) ?_
        have hFa := Fx.fr (A := [80]) hF (Fr.rf.wi (p := 80) (i := 43) (v := nI 0) (by decide))
        refine K (wi s1 80 43 (nI 0)) hFa ⟨(((FM.rf.m (by decide)).m (by decide)).tr (f1.mono (by decide) (by decide))).m (by decide), rfl⟩ m0 ((f1.g (p := 85) (i := 1) (by decide)).trans p1) ((f1.g (p := 85) (i := 2) (by decide)).trans p2) (show MB1 b k (wi s1 80 43 (nI 0)) from MB1.fm (A := 80 :: fA) (B := nB) (s := wi (wi s 80 0 (nI 0)) 80 43 (bI rt)) (s' := s1) (by exact hB1) f1.1 (by decide) (by decide) (by decide) (by decide)) (fun x hx => ?_) (mn P) 0 (none, 15) (by omega) hW2 (Or.inl rfl)
        rw [hR]; exact hd x hx
      · first
          | (have u0 : (some b).isSome = false := h10
             exact absurd u0 (by simp))
          | exact absurd h17 (by decide)
          | exact absurd h28 (by decide)
theorem c238f (hF : Fx s) (hP5 : P ≤ 5) (hW : MW P r w pd row day left s) (hr5 : r ≤ 5) (hw5 : w ≤ 5) (e43 : ri s 80 43 = bI false) (hM : MB bks s) (hno : ¬ ((bG P bks x).isSome = true ∧ isL y = true ∧ isH z = true)) (hq : Q (some (.int (-1))) (mR (wi s 80 0 (nI 0)))) : gE X (d + 7) 238 [.ref 80, .int x, .int y, .int u, .int z] (mR s) Q := by
  obtain ⟨m0, e21, e33, e34, e35, p1, p2⟩ := id hW
  refine en238 rfl rfl rfl rfl rfl ?_
  refine g_p t238_0 rfl ?_
  refine g_k (n := 0) t238_1 rfl rfl ?_
  refine r_puti t238_2 (f80 hF) rfl rfl ?_
  refine g_p t238_5 rfl ?_
  refine g_p t238_6 rfl ?_
  refine r_cv t238_7 (f80 hF) rfl ?_
  refine c218B (by exact hF) (by exact m0) hP5 (by exact hM) ?_
  refine k_v ?_ rfl
  refine b_eq t238_10 (fun h10 => ?_) (fun h10 => ?_)
  · refine g_p t238_31 rfl ?_
    exact i_ret t238_32 rfl hq
  · refine g_p t238_13 rfl ?_
    refine g_cs t238_14 rfl rfl rfl ?_
    refine c237 ?_
    refine k_v ?_ rfl
    refine b_eq t238_17 (fun h17 => ?_) (fun h17 => ?_)
    · refine g_p t238_31 rfl ?_
      exact i_ret t238_32 rfl hq
    · refine g_p t238_20 rfl ?_
      refine g_p t238_22 rfl ?_
      refine g_p t238_23 rfl ?_
      refine g_p t238_24 rfl ?_
      refine g_cs t238_25 rfl rfl rfl ?_
      refine c176i (a := 0) (b := 1) rfl rfl ?_
      rw [isR_H]
      refine k_v ?_ rfl
      refine b_ne t238_28 (fun h28 => ?_) (fun h28 => ?_)
      · exact absurd ⟨h10, h17, h28⟩ hno
      · refine g_p t238_31 rfl ?_
        exact i_ret t238_32 rfl hq
end RT
