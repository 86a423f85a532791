/-! THE FACE: nearest, both -/
def lrl (P day : Nat) (ho : Option (List Nat)) (z : Bool) : Nat → Nat → Bool := match ho, z with
  | some t, true => rg P (lwL P day t)
  | _, _ => fun _ _ => true
section TZA
variable {X : am_X} {d : Nat} {s : mM} {hp : am_H} {Q : Option Value → am_H → Prop} {P r w pd row day left a k q n p p2 n2 : Nat} {ps bp wp : List Nat} {x y u v : Int32} {x2 y2 : Int32} {bks : List Bk} {b b2 : Bk} {ho : Option (List Nat)} {z : Bool}
theorem c147u (hF : Fx s) (hR : CR P s) (hW : CW r w pd row day left s) (hr5 : r ≤ 5) (hw5 : w ≤ 5) (hst : std P r w row = true) (hQ : CQ s) (hh : Hd ho s) (hq : ∀ s', FL [15, 52, 54, 55, 56] [15] s s' → (∀ x, x < mn P → ri s' 54 x = nI (ds (aj P r w (lrl P day ho z)) 15 row x)) → CQ s' → Q none (mR s')) : gE X (d + 29) 147 [.ref 0, .int (bI z)] (mR s) Q := by
  cases ho with
  | none => exact c147n (d := d + 25) hF hR hW hr5 hw5 hst hQ hh (L := fun _ _ => 0) (fun s' f l9 hQ => hq s' (f.mono (by decide)).fl l9 hQ)
  | some t =>
    cases z with
    | false => exact c147z (d := d + 25) hF hR hW hr5 hw5 hst hQ (L := fun _ _ => 0) (fun s' f l9 hQ => hq s' (f.mono (by decide)).fl l9 hQ)
    | true => exact c147t hF hR hW hr5 hw5 hst hQ hh (fun s' f l9 hQ => hq s' f l9 hQ)
theorem Rok_lrl : Rok P (lrl P day ho z) := by
  cases ho with
  | none => exact Rok_t
  | some t =>
    cases z with
    | false => exact Rok_t
    | true => exact Rok_rg
theorem c146t (hF : Fx s) (hR : CR P s) (hW : CW r w pd row day left s) (hr5 : r ≤ 5) (hw5 : w ≤ 5) (hst : 0 < P → std P r w row = true) (hQ : CQ s) (hh : Hd ho s) (hB : CBk P bks bp s) (hb3 : bks.length ≤ 3) (hg : bG P bks x = some b) (hy : isL y = true) (hu : isH u = true) (hq : ∀ s', FL [15, 52, 54, 55, 56] [15] s s' → CQ s' → Q (some (.int (nrv P u (nrl (fun c => decide (sy P b c = y)) (ds (aj P r w (lrl P day ho z)) 15 row) (mn P) 0 (none, 15))))) (mR s')) : gE X (d + 30) 146 [.ref 0, .int x, .int y, .int (bI z), .int u] (mR s) Q := by
  have hP5 := hR.2.2.1
  have hm := mn_le hP5
  obtain ⟨hP0, k, hk, rfl, rfl⟩ := bG_t hg (by omega)
  obtain ⟨qp, qB, qT, qS, qL⟩ := hB.2.2.1 k hk
  refine en146 rfl rfl rfl rfl rfl ?_
  refine g_p t146_0 rfl ?_
  refine g_p t146_1 rfl ?_
  refine r_cv t146_2 (f0 hF) rfl ?_
  refine c130t (by exact hF) (by exact hR.1) hP5 hP0 (by exact hB) hk ?_
  refine k_v ?_ rfl
  refine g_as t146_5 rfl (Nat.le_of_ble_eq_true rfl) (am_s1_5 rfl) ?_
  refine g_p t146_7 rfl ?_
  refine g_b (b := false) t146_9 rfl ?_
  refine g_p t146_12 rfl ?_
  refine g_cs t146_13 rfl rfl rfl ?_
  refine c132 ?_
  refine k_v ?_ rfl
  refine b_eq t146_16 (fun h16 => ?_) (fun h16 => ?_)
  · first
      | (have u0 := h24; exact no_b hu u0)
      | exact no_b hy h16
  · refine g_p t146_19 rfl ?_
    refine g_cs t146_21 rfl rfl rfl ?_
    refine c135 ?_
    refine k_v ?_ rfl
    refine b_ne t146_24 (fun h24 => ?_) (fun h24 => ?_)
    · refine g_p t146_29 rfl ?_
      refine g_p t146_30 rfl ?_
      refine r_cv t146_31 (f0 hF) rfl ?_
      refine c147u (z := z) (by exact hF) (by exact hR) (by exact hW) hr5 hw5 (hst hP0) (by exact hQ) (by exact hh) (fun s31 fr31 l9 hQ => ?_)
      have hF := fr31.fx hF
      have hR0 : CR P s31 := (show CR P (lgo s31 s) from hR.fr fr31.fi.fr (by decide))
      have qB0 : Bo s31 (bp.getD k 0) := (show Bo (lgo s31 s) (bp.getD k 0) from qB.fr fr31.fi.fr)
      have qS0 : Bs P (bks.getD k nk) (bp.getD k 0) s31 := (show Bs P (bks.getD k nk) (bp.getD k 0) (lgo s31 s) from qS.fr fr31.fi.fr (nin (by decide) (by omega)))
      
      refine k_0 ?_
      refine g_p t146_34 rfl ?_
      refine g_p t146_35 rfl ?_
      refine g_p t146_37 rfl ?_
      refine g_p t146_38 rfl ?_
      refine g_p t146_39 rfl ?_
      refine g_p t146_40 rfl ?_
      refine r_cv t146_42 (f0 hF) rfl ?_
      refine c148n (by exact hF) (by exact hR0) (by exact qB0) (by exact qS0) (by exact l9) (fun c hc => ds_15 hP5 Rok_lrl (hst hP0)) ?_
      refine k_v ?_ rfl
      exact i_ret t146_45 rfl (hq s31 fr31 hQ)
    · first
        | (have u0 := h24; exact no_b hu u0)
        | exact no_b hy h16
theorem c146f (hF : Fx s) (hR : CR P s) (hB : CBk P bks bp s) (hb3 : bks.length ≤ 3) (hno : ¬ ((bG P bks x).isSome = true ∧ isL y = true ∧ isH u = true)) (hq : Q (some (.int (-1))) (mR s)) : gE X (d + 30) 146 [.ref 0, .int x, .int y, .int v, .int u] (mR s) Q := by
  have hP5 := hR.2.2.1
  have hm := mn_le hP5
  cases hg : bG P bks x with
  | none =>
    refine en146 rfl rfl rfl rfl rfl ?_
    refine g_p t146_0 rfl ?_
    refine g_p t146_1 rfl ?_
    refine r_cv t146_2 (f0 hF) rfl ?_
    refine c130f (by exact hF) (by exact hR.1) hP5 (by exact hB) (bG_f hg) ?_
    refine k_v ?_ rfl
    refine g_as t146_5 rfl (Nat.le_of_ble_eq_true rfl) (am_s1_5 rfl) ?_
    refine g_p t146_7 rfl ?_
    refine g_b (b := true) t146_9 rfl ?_
    refine g_p t146_27 rfl ?_
    exact i_ret t146_28 rfl hq
  | some b =>
    rw [hg] at hno
    obtain ⟨hP0, k, hk, rfl, rfl⟩ := bG_t hg (by omega)
    obtain ⟨qp, qB, qT, qS, qL⟩ := hB.2.2.1 k hk
    refine en146 rfl rfl rfl rfl rfl ?_
    refine g_p t146_0 rfl ?_
    refine g_p t146_1 rfl ?_
    refine r_cv t146_2 (f0 hF) rfl ?_
    refine c130t (by exact hF) (by exact hR.1) hP5 hP0 (by exact hB) hk ?_
    refine k_v ?_ rfl
    refine g_as t146_5 rfl (Nat.le_of_ble_eq_true rfl) (am_s1_5 rfl) ?_
    refine g_p t146_7 rfl ?_
    refine g_b (b := false) t146_9 rfl ?_
    refine g_p t146_12 rfl ?_
    refine g_cs t146_13 rfl rfl rfl ?_
    refine c132 ?_
    refine k_v ?_ rfl
    refine b_eq t146_16 (fun h16 => ?_) (fun h16 => ?_)
    · refine g_p t146_27 rfl ?_
      exact i_ret t146_28 rfl hq
    · refine g_p t146_19 rfl ?_
      refine g_cs t146_21 rfl rfl rfl ?_
      refine c135 ?_
      refine k_v ?_ rfl
      refine b_ne t146_24 (fun h24 => ?_) (fun h24 => ?_)
      · exact absurd ⟨rfl, h16, h24⟩ hno
      · refine g_p t146_27 rfl ?_
        exact i_ret t146_28 rfl hq
theorem c159t (hF : Fx s) (hR : CR P s) (hW : CW r w pd row day left s) (hr5 : r ≤ 5) (hw5 : w ≤ 5) (hst : 0 < P → std P r w row = true) (hQ : CQ s) (hh : Hd ho s) (hB : CBk P bks bp s) (hb3 : bks.length ≤ 3) (hg : bG P bks x = some b) (hg2 : bG P bks x2 = some b2) (hy : isL y = true) (hy2 : isL0 y2 = true) (hu : isH u = true) (hq : ∀ s', FL [15, 52, 54, 55, 56] [15] s s' → CQ s' → Q (some (.int (nrv P u (nrl (fun c => decide (sy P b c = y) && decide (sy P b2 c = y2)) (ds (aj P r w (lrl P day ho false)) 15 row) (mn P) 0 (none, 15))))) (mR s')) : gE X (d + 30) 159 [.ref 0, .int x, .int y, .int x2, .int y2, .int u] (mR s) Q := by
  have hP5 := hR.2.2.1
  have hm := mn_le hP5
  obtain ⟨hP0, k, hk, rfl, rfl⟩ := bG_t hg (by omega)
  obtain ⟨qp, qB, qT, qS, qL⟩ := hB.2.2.1 k hk
  obtain ⟨hP02, k2, hk2, rfl, rfl⟩ := bG_t hg2 (by omega)
  obtain ⟨q2p, q2B, q2T, q2S, q2L⟩ := hB.2.2.1 k2 hk2
  refine en159 rfl rfl rfl rfl rfl rfl ?_
  refine g_p t159_0 rfl ?_
  refine g_p t159_1 rfl ?_
  refine r_cv t159_2 (f0 hF) rfl ?_
  refine c130t (by exact hF) (by exact hR.1) hP5 hP0 (by exact hB) hk ?_
  refine k_v ?_ rfl
  refine g_as t159_5 rfl (Nat.le_of_ble_eq_true rfl) (am_s1_6 rfl) ?_
  refine g_p t159_7 rfl ?_
  refine g_p t159_8 rfl ?_
  refine r_cv t159_9 (f0 hF) rfl ?_
  refine c130t (by exact hF) (by exact hR.1) hP5 hP02 (by exact hB) hk2 ?_
  refine k_v ?_ rfl
  refine g_as t159_12 rfl (Nat.le_of_ble_eq_true rfl) (am_s1_7 rfl) ?_
  refine g_p t159_14 rfl ?_
  refine g_b (b := false) t159_16 rfl ?_
  refine g_p t159_19 rfl ?_
  refine g_b (b := false) t159_21 rfl ?_
  refine g_p t159_24 rfl ?_
  refine g_cs t159_25 rfl rfl rfl ?_
  refine c132 ?_
  refine k_v ?_ rfl
  refine b_eq t159_28 (fun h28 => ?_) (fun h28 => ?_)
  · first
      | (have u0 := h44; exact no_b hu u0)
      | (have u0 := h36; exact no_b hy2 u0)
      | exact no_b hy h28
  · refine g_p t159_31 rfl ?_
    refine g_cs t159_33 rfl rfl rfl ?_
    refine c133 ?_
    refine k_v ?_ rfl
    refine b_eq t159_36 (fun h36 => ?_) (fun h36 => ?_)
    · first
        | (have u0 := h44; exact no_b hu u0)
        | (have u0 := h36; exact no_b hy2 u0)
        | exact no_b hy h28
    · refine g_p t159_39 rfl ?_
      refine g_cs t159_41 rfl rfl rfl ?_
      refine c135 ?_
      refine k_v ?_ rfl
      refine b_ne t159_44 (fun h44 => ?_) (fun h44 => ?_)
      · refine g_p t159_49 rfl ?_
        refine g_k (n := 0) t159_50 rfl rfl ?_
        refine r_cv t159_51 (f0 hF) rfl ?_
        refine c147u (z := false) (by exact hF) (by exact hR) (by exact hW) hr5 hw5 (hst hP0) (by exact hQ) (by exact hh) (fun s51 fr51 l9 hQ => ?_)
        have hF := fr51.fx hF
        have hR0 : CR P s51 := (show CR P (lgo s51 s) from hR.fr fr51.fi.fr (by decide))
        have qB0 : Bo s51 (bp.getD k 0) := (show Bo (lgo s51 s) (bp.getD k 0) from qB.fr fr51.fi.fr)
        have qS0 : Bs P (bks.getD k nk) (bp.getD k 0) s51 := (show Bs P (bks.getD k nk) (bp.getD k 0) (lgo s51 s) from qS.fr fr51.fi.fr (nin (by decide) (by omega)))
        have q2B0 : Bo s51 (bp.getD k2 0) := (show Bo (lgo s51 s) (bp.getD k2 0) from q2B.fr fr51.fi.fr)
        have q2S0 : Bs P (bks.getD k2 nk) (bp.getD k2 0) s51 := (show Bs P (bks.getD k2 nk) (bp.getD k2 0) (lgo s51 s) from q2S.fr fr51.fi.fr (nin (by decide) (by omega)))
        refine k_0 ?_
        refine g_p t159_54 rfl ?_
        refine g_p t159_55 rfl ?_
        refine g_p t159_57 rfl ?_
        refine g_p t159_58 rfl ?_
        refine g_p t159_60 rfl ?_
        refine g_p t159_62 rfl ?_
        refine r_cv t159_64 (f0 hF) rfl ?_
        refine c148b (by exact hF) (by exact hR0) (by exact qB0) (by exact qS0) (by exact q2B0) (by exact q2S0) (by exact l9) (fun c hc => ds_15 hP5 Rok_lrl (hst hP0)) ?_
        refine k_v ?_ rfl
        exact i_ret t159_67 rfl (hq s51 fr51 hQ)
      · first
          | (have u0 := h44; exact no_b hu u0)
          | (have u0 := h36; exact no_b hy2 u0)
          | exact no_b hy h28
theorem c159f (hF : Fx s) (hR : CR P s) (hB : CBk P bks bp s) (hb3 : bks.length ≤ 3) (hno : ¬ ((bG P bks x).isSome = true ∧ (bG P bks x2).isSome = true ∧ isL y = true ∧ isL0 y2 = true ∧ isH u = true)) (hq : Q (some (.int (-1))) (mR s)) : gE X (d + 30) 159 [.ref 0, .int x, .int y, .int x2, .int y2, .int u] (mR s) Q := by
  have hP5 := hR.2.2.1
  have hm := mn_le hP5
  cases hg : bG P bks x with
  | none =>
    cases hg2 : bG P bks x2 with
    | none =>
      refine en159 rfl rfl rfl rfl rfl rfl ?_
      refine g_p t159_0 rfl ?_
      refine g_p t159_1 rfl ?_
      refine r_cv t159_2 (f0 hF) rfl ?_
      refine c130f (by exact hF) (by exact hR.1) hP5 (by exact hB) (bG_f hg) ?_
      refine k_v ?_ rfl
      refine g_as t159_5 rfl (Nat.le_of_ble_eq_true rfl) (am_s1_6 rfl) ?_
      refine g_p t159_7 rfl ?_
      refine g_p t159_8 rfl ?_
      refine r_cv t159_9 (f0 hF) rfl ?_
      refine c130f (by exact hF) (by exact hR.1) hP5 (by exact hB) (bG_f hg2) ?_
      refine k_v ?_ rfl
      refine g_as t159_12 rfl (Nat.le_of_ble_eq_true rfl) (am_s1_7 rfl) ?_
      refine g_p t159_14 rfl ?_
      refine g_b (b := true) t159_16 rfl ?_
      refine g_p t159_47 rfl ?_
      exact i_ret t159_48 rfl hq
    | some b2 =>
      obtain ⟨hP02, k2, hk2, rfl, rfl⟩ := bG_t hg2 (by omega)
      obtain ⟨q2p, q2B, q2T, q2S, q2L⟩ := hB.2.2.1 k2 hk2
      refine en159 rfl rfl rfl rfl rfl rfl ?_
      refine g_p t159_0 rfl ?_
      refine g_p t159_1 rfl ?_
      refine r_cv t159_2 (f0 hF) rfl ?_
      refine c130f (by exact hF) (by exact hR.1) hP5 (by exact hB) (bG_f hg) ?_
      refine k_v ?_ rfl
      refine g_as t159_5 rfl (Nat.le_of_ble_eq_true rfl) (am_s1_6 rfl) ?_
      refine g_p t159_7 rfl ?_
      refine g_p t159_8 rfl ?_
      refine r_cv t159_9 (f0 hF) rfl ?_
      refine c130t (by exact hF) (by exact hR.1) hP5 hP02 (by exact hB) hk2 ?_
      refine k_v ?_ rfl
      refine g_as t159_12 rfl (Nat.le_of_ble_eq_true rfl) (am_s1_7 rfl) ?_
      refine g_p t159_14 rfl ?_
      refine g_b (b := true) t159_16 rfl ?_
      refine g_p t159_47 rfl ?_
      exact i_ret t159_48 rfl hq
  | some b =>
    rw [hg] at hno
    obtain ⟨hP0, k, hk, rfl, rfl⟩ := bG_t hg (by omega)
    obtain ⟨qp, qB, qT, qS, qL⟩ := hB.2.2.1 k hk
    cases hg2 : bG P bks x2 with
    | none =>
      refine en159 rfl rfl rfl rfl rfl rfl ?_
      refine g_p t159_0 rfl ?_
      refine g_p t159_1 rfl ?_
      refine r_cv t159_2 (f0 hF) rfl ?_
      refine c130t (by exact hF) (by exact hR.1) hP5 hP0 (by exact hB) hk ?_
      refine k_v ?_ rfl
      refine g_as t159_5 rfl (Nat.le_of_ble_eq_true rfl) (am_s1_6 rfl) ?_
      refine g_p t159_7 rfl ?_
      refine g_p t159_8 rfl ?_
      refine r_cv t159_9 (f0 hF) rfl ?_
      refine c130f (by exact hF) (by exact hR.1) hP5 (by exact hB) (bG_f hg2) ?_
      refine k_v ?_ rfl
      refine g_as t159_12 rfl (Nat.le_of_ble_eq_true rfl) (am_s1_7 rfl) ?_
      refine g_p t159_14 rfl ?_
      refine g_b (b := false) t159_16 rfl ?_
      refine g_p t159_19 rfl ?_
      refine g_b (b := true) t159_21 rfl ?_
      refine g_p t159_47 rfl ?_
      exact i_ret t159_48 rfl hq
    | some b2 =>
      rw [hg2] at hno
      obtain ⟨hP02, k2, hk2, rfl, rfl⟩ := bG_t hg2 (by omega)
      obtain ⟨q2p, q2B, q2T, q2S, q2L⟩ := hB.2.2.1 k2 hk2
      refine en159 rfl rfl rfl rfl rfl rfl ?_
      refine g_p t159_0 rfl ?_
      refine g_p t159_1 rfl ?_
      refine r_cv t159_2 (f0 hF) rfl ?_
      refine c130t (by exact hF) (by exact hR.1) hP5 hP0 (by exact hB) hk ?_
      refine k_v ?_ rfl
      refine g_as t159_5 rfl (Nat.le_of_ble_eq_true rfl) (am_s1_6 rfl) ?_
      refine g_p t159_7 rfl ?_
      refine g_p t159_8 rfl ?_
      refine r_cv t159_9 (f0 hF) rfl ?_
      refine c130t (by exact hF) (by exact hR.1) hP5 hP02 (by exact hB) hk2 ?_
      refine k_v ?_ rfl
      refine g_as t159_12 rfl (Nat.le_of_ble_eq_true rfl) (am_s1_7 rfl) ?_
      refine g_p t159_14 rfl ?_
      refine g_b (b := false) t159_16 rfl ?_
      refine g_p t159_19 rfl ?_
      refine g_b (b := false) t159_21 rfl ?_
      refine g_p t159_24 rfl ?_
      refine g_cs t159_25 rfl rfl rfl ?_
      refine c132 ?_
      refine k_v ?_ rfl
      refine b_eq t159_28 (fun h28 => ?_) (fun h28 => ?_)
      · refine g_p t159_47 rfl ?_
        exact i_ret t159_48 rfl hq
      · refine g_p t159_31 rfl ?_
        refine g_cs t159_33 rfl rfl rfl ?_
        refine c133 ?_
        refine k_v ?_ rfl
        refine b_eq t159_36 (fun h36 => ?_) (fun h36 => ?_)
        · refine g_p t159_47 rfl ?_
          exact i_ret t159_48 rfl hq
        · refine g_p t159_39 rfl ?_
          refine g_cs t159_41 rfl rfl rfl ?_
          refine c135 ?_
          refine k_v ?_ rfl
          refine b_ne t159_44 (fun h44 => ?_) (fun h44 => ?_)
          · exact absurd ⟨rfl, rfl, h28, h36, h44⟩ hno
          · refine g_p t159_47 rfl ?_
            exact i_ret t159_48 rfl hq
end TZA
