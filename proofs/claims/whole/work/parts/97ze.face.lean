/-! THE FACE, 4: what is said -/
def lett (P r w : Nat) (b : Bk) : Nat → Nat
  | 0 => 0
  | c + 1 => match (b.1.find? fun k => fitu P b.2 k.2 c P) with
    | some k => if std P r w c = true then lett P r w b c ||| 2 ^ k.1 else lett P r w b c
    | none => lett P r w b c
theorem lett_lt {P r w : Nat} {b : Bk} (hb : ∀ c ∈ b.1, c.1 < 8) (n : Nat) : lett P r w b n < 2 ^ 8 := by
  induction n with
  | zero => exact (by decide : 0 < 256)
  | succ n ih =>
    unfold lett
    split
    · rename_i k hk
      split
      · exact Nat.or_lt_two_pow ih (Nat.pow_lt_pow_right (by decide) (hb k (List.mem_of_find?_eq_some hk)))
      · exact ih
    · exact ih
def sayv (P : Nat) (bo : Option Bk) (z : Option Nat) : Int32 := match bo, z with
  | some b, some c => sy P b c
  | _, _ => -1000000
section FD
variable {X : am_X} {d : Nat} {s : mM} {Q : Option Value → am_H → Prop} {P r w pd row day left a k q n p p2 n2 : Nat} {ps bp wp : List Nat} {x y z : Int32} {bks : List Bk} {wds : List (List Nat)} {b : Bk} {acts se : List Act} {di : Nat → Nat} {l : List Nat}
theorem find_lt {P : Nat} {b : Bk} {c : Nat} (hb : ∀ c ∈ b.1, c.1 < 8) : sy P b c = -1 ∨ ∃ l, l < 8 ∧ sy P b c = nI l := by
  unfold sy
  cases h : b.1.find? (fun k => fitu P b.2 k.2 c P) with
  | none => exact Or.inl rfl
  | some k => exact Or.inr ⟨k.1, hb k (List.mem_of_find?_eq_some h), rfl⟩
theorem c144 (hF : Fx s) (hR : CR P s) (hB : CBk P bks bp s) (hb3 : bks.length ≤ 3) (hq : Q (some (.int (sayv P (bG P bks x) (cdO P y)))) (mR s)) : gE X (d + 4) 144 [.ref 0, .int x, .int y] (mR s) Q := by
  have hP5 := hR.2.2.1
  have hm := mn_le hP5
  cases hg : bG P bks x with
  | none =>
    rw [hg] at hq
    refine en144 rfl rfl rfl ?_
    refine g_p t144_0 rfl ?_
    refine g_p t144_1 rfl ?_
    refine r_cv t144_2 (f0 hF) rfl ?_
    refine c130f (by exact hF) (by exact hR.1) hP5 (by exact hB) (bG_f hg) ?_
    refine k_v ?_ rfl
    refine g_asn t144_5 rfl (Nat.le_of_ble_eq_true rfl) (am_s1_3 rfl) ?_
    refine g_p t144_6 rfl ?_
    refine r_getr t144_7 (f0 hF) rfl rfl ?_
    refine g_p t144_10 rfl ?_
    refine r_cv t144_11 (f19 hF) rfl ?_
    refine c84 (by exact hF) (by exact hR.1) hP5 (by exact hR.2.2.2.2.1) ?_
    refine k_v ?_ rfl
    refine g_is t144_14 (Nat.le_of_ble_eq_true rfl) (am_s1_4 rfl) ?_
    refine g_p t144_16 rfl ?_
    refine g_b (b := true) t144_17 rfl ?_
    refine g_p t144_26 rfl ?_
    refine g_goto t144_28 ?_
    exact i_ret t144_37 rfl hq
  | some b =>
    obtain ⟨hP0, k, hk, rfl, rfl⟩ := bG_t hg (by omega)
    obtain ⟨qp, qB, qT, qS, qL⟩ := hB.2.2.1 k hk
    rw [hg] at hq
    cases hc : cdO P y with
    | none =>
      rw [hc] at hq
      have e : cdI P y = -1 := by rw [cdI_cdO, hc]; rfl
      refine en144 rfl rfl rfl ?_
      refine g_p t144_0 rfl ?_
      refine g_p t144_1 rfl ?_
      refine r_cv t144_2 (f0 hF) rfl ?_
      refine c130t (by exact hF) (by exact hR.1) hP5 hP0 (by exact hB) hk ?_
      refine k_v ?_ rfl
      refine g_asn t144_5 rfl (Nat.le_of_ble_eq_true rfl) (am_s1_3 rfl) ?_
      refine g_p t144_6 rfl ?_
      refine r_getr t144_7 (f0 hF) rfl rfl ?_
      refine g_p t144_10 rfl ?_
      refine r_cv t144_11 (f19 hF) rfl ?_
      refine c84 (by exact hF) (by exact hR.1) hP5 (by exact hR.2.2.2.2.1) ?_
      rw [e]
      refine k_v ?_ rfl
      refine g_is t144_14 (Nat.le_of_ble_eq_true rfl) (am_s1_4 rfl) ?_
      refine g_p t144_16 rfl ?_
      refine g_b (b := false) t144_17 rfl ?_
      refine g_p t144_20 rfl ?_
      refine g_p t144_22 rfl ?_
      refine g_cne t144_23 (fun h23 => ?_) (fun h23 => ?_)
      · exact absurd rfl h23
      · refine g_p t144_26 rfl ?_
        refine g_goto t144_28 ?_
        exact i_ret t144_37 rfl hq
    | some c =>
      rw [hc] at hq
      have hcN := cdO_lt hc
      have e : cdI P y = nI c := by rw [cdI_cdO, hc]; rfl
      refine en144 rfl rfl rfl ?_
      refine g_p t144_0 rfl ?_
      refine g_p t144_1 rfl ?_
      refine r_cv t144_2 (f0 hF) rfl ?_
      refine c130t (by exact hF) (by exact hR.1) hP5 hP0 (by exact hB) hk ?_
      refine k_v ?_ rfl
      refine g_asn t144_5 rfl (Nat.le_of_ble_eq_true rfl) (am_s1_3 rfl) ?_
      refine g_p t144_6 rfl ?_
      refine r_getr t144_7 (f0 hF) rfl rfl ?_
      refine g_p t144_10 rfl ?_
      refine r_cv t144_11 (f19 hF) rfl ?_
      refine c84 (by exact hF) (by exact hR.1) hP5 (by exact hR.2.2.2.2.1) ?_
      rw [e]
      refine k_v ?_ rfl
      refine g_is t144_14 (Nat.le_of_ble_eq_true rfl) (am_s1_4 rfl) ?_
      refine g_p t144_16 rfl ?_
      refine g_b (b := false) t144_17 rfl ?_
      refine g_p t144_20 rfl ?_
      refine g_p t144_22 rfl ?_
      refine g_cne t144_23 (fun h23 => ?_) (fun h23 => ?_)
      · refine g_p t144_31 rfl ?_
        refine g_p t144_32 rfl ?_
        refine r_cv t144_34 qB.1 rfl ?_
        refine c10 (by exact qB) (by omega) (by exact qS _ hcN) ?_
        refine k_v ?_ rfl
        exact i_ret t144_37 rfl hq
      · exact absurd h23 (nI_m1 (by omega))
theorem c150 (hF : Fx s) (hR : CR P s) (hW : CW r w pd row day left s) (hr5 : r ≤ 5) (hw5 : w ≤ 5) (qB : Bo s (bp.getD k 0)) (qS : Bs P b (bp.getD k 0) s) (qL : ∀ c ∈ b.1, c.1 < 8) (hq : Q (some (.int (nI (lett P r w b (mn P))))) (mR s)) : gE X (d + 3) 150 [.ref 0, .ref (bp.getD k 0)] (mR s) Q := by
  have hP5 := hR.2.2.1
  have hm := mn_le hP5
  obtain ⟨e1, e2, e3, e4, e5, e6⟩ := hW
  have K : ∀ j c : Nat, c + j = mn P → ∀ z4, gG X (d + 3) 150 4 [.ref 0, .ref (bp.getD k 0), .int (nI (lett P r w b c)), .int (nI c), z4] [] (mR s) Q := by
    intro j
    induction j with
    | zero =>
      intro c hj z4
      have hj : c = mn P := by omega
      subst hj
      refine g_p t150_4 rfl ?_
      refine g_p t150_5 rfl ?_
      refine r_getr t150_6 (f0 hF) rfl rfl ?_
      refine r_cv t150_9 (f19 hF) rfl ?_
      refine c76 (by exact hF) hR.2.1 ?_
      refine k_v ?_ rfl
      refine n_cge t150_12 (by omega) (by omega) (fun h12 => ?_) (fun h12 => ?_)
      · refine g_p t150_52 rfl ?_
        exact i_ret t150_53 rfl hq
      · exfalso; omega
    | succ j ih =>
      intro c hj z4
      have hcN : c < mn P := by omega
      have hlt := lett_lt (P := P) (r := r) (w := w) qL c
      have hc8 : (2 : Nat) ^ 8 = 256 := by decide
      cases hf : b.1.find? (fun k => fitu P b.2 k.2 c P) with
      | none =>
        have e : sy P b c = -1 := by unfold sy; rw [hf]
        have eL : lett P r w b (c + 1) = lett P r w b c := by rw [lett, hf]
        refine g_p t150_4 rfl ?_
        refine g_p t150_5 rfl ?_
        refine r_getr t150_6 (f0 hF) rfl rfl ?_
        refine r_cv t150_9 (f19 hF) rfl ?_
        refine c76 (by exact hF) hR.2.1 ?_
        refine k_v ?_ rfl
        refine n_cge t150_12 (by omega) (by omega) (fun h12 => ?_) (fun h12 => ?_)
        · exfalso; omega
        · refine g_p t150_15 rfl ?_
          refine g_p t150_16 rfl ?_
          refine r_cv t150_17 qB.1 rfl ?_
          refine c10 (by exact qB) (by omega) (by exact (qS c hcN).trans e) ?_
          refine k_v ?_ rfl
          refine g_is t150_20 (Nat.le_of_ble_eq_true rfl) (am_s1_4 rfl) ?_
          refine g_p t150_22 rfl ?_
          refine g_p t150_24 rfl ?_
          refine g_ceq t150_25 (fun h25 => ?_) (fun h25 => ?_)
          · refine g_incn (n := 1) t150_46 rfl rfl (Nat.le_of_ble_eq_true rfl) (am_s1_3 rfl) ?_
            refine g_goto t150_49 ?_
            have := ih (c + 1) (by omega) (.int (-1))
            rw [eL] at this
            exact this
          · exact absurd rfl h25
      | some u =>
        have hu := qL u (List.mem_of_find?_eq_some hf)
        have hp8 : 2 ^ u.1 ≤ 2 ^ 8 := Nat.pow_le_pow_right (by decide) (by omega)
        have e : sy P b c = nI u.1 := by unfold sy; rw [hf]
        have eL : lett P r w b (c + 1) = if std P r w c = true then lett P r w b c ||| 2 ^ u.1 else lett P r w b c := by rw [lett, hf]
        refine g_p t150_4 rfl ?_
        refine g_p t150_5 rfl ?_
        refine r_getr t150_6 (f0 hF) rfl rfl ?_
        refine r_cv t150_9 (f19 hF) rfl ?_
        refine c76 (by exact hF) hR.2.1 ?_
        refine k_v ?_ rfl
        refine n_cge t150_12 (by omega) (by omega) (fun h12 => ?_) (fun h12 => ?_)
        · exfalso; omega
        · refine g_p t150_15 rfl ?_
          refine g_p t150_16 rfl ?_
          refine r_cv t150_17 qB.1 rfl ?_
          refine c10 (by exact qB) (by omega) (by exact (qS c hcN).trans e) ?_
          refine k_v ?_ rfl
          refine g_is t150_20 (Nat.le_of_ble_eq_true rfl) (am_s1_4 rfl) ?_
          refine g_p t150_22 rfl ?_
          refine g_p t150_24 rfl ?_
          refine g_ceq t150_25 (fun h25 => ?_) (fun h25 => ?_)
          · first
              | exact absurd h25 (nI_m1 (by omega))
              | (have uu := h36
                 refine g_incn (n := 1) t150_46 rfl rfl (Nat.le_of_ble_eq_true rfl) (am_s1_3 rfl) ?_
                 refine g_goto t150_49 ?_
                 have := ih (c + 1) (by omega) (.int (nI u.1))
                 rw [eL] at this
                 first
                   | (rw [if_pos uu] at this; exact this)
                   | (rw [if_neg (fun h => no_b h uu)] at this; exact this))
          · refine g_p t150_28 rfl ?_
            refine r_getr t150_29 (f0 hF) rfl rfl ?_
            refine g_p t150_32 rfl ?_
            refine r_cv t150_33 (f32 hF) rfl ?_
            refine c103 (by exact hF) (by exact hR) (by omega) (by exact e1) (by exact e2) hr5 hw5 ?_
            refine k_v ?_ rfl
            refine b_eq t150_36 (fun h36 => ?_) (fun h36 => ?_)
            · first
                | exact absurd h25 (nI_m1 (by omega))
                | (have uu := h36
                   refine g_incn (n := 1) t150_46 rfl rfl (Nat.le_of_ble_eq_true rfl) (am_s1_3 rfl) ?_
                   refine g_goto t150_49 ?_
                   have := ih (c + 1) (by omega) (.int (nI u.1))
                   rw [eL] at this
                   first
                     | (rw [if_pos uu] at this; exact this)
                     | (rw [if_neg (fun h => no_b h uu)] at this; exact this))
            · refine g_p t150_39 rfl ?_
              refine g_k (n := 1) t150_40 rfl rfl ?_
              refine g_p t150_41 rfl ?_
              refine g_ishl t150_43 ?_
              rw [shl1 u.1 (by omega)]
              refine g_ior t150_44 ?_
              rw [nI_or (by omega) (by omega)]
              refine g_isn t150_45 (Nat.le_of_ble_eq_true rfl) (am_s1_2 rfl) ?_
              first
                | exact absurd h25 (nI_m1 (by omega))
                | (have uu := h36
                   refine g_incn (n := 1) t150_46 rfl rfl (Nat.le_of_ble_eq_true rfl) (am_s1_3 rfl) ?_
                   refine g_goto t150_49 ?_
                   have := ih (c + 1) (by omega) (.int (nI u.1))
                   rw [eL] at this
                   first
                     | (rw [if_pos uu] at this; exact this)
                     | (rw [if_neg (fun h => no_b h uu)] at this; exact this))
  refine en150 rfl rfl ?_
  refine g_k (n := 0) t150_0 rfl rfl ?_
  refine g_isn t150_1 (Nat.le_of_ble_eq_true rfl) (am_s1_2 rfl) ?_
  refine g_k (n := 0) t150_2 rfl rfl ?_
  refine g_isn t150_3 (Nat.le_of_ble_eq_true rfl) (am_s1_3 rfl) ?_
  exact K (mn P) 0 (by omega) _
theorem c149 (hF : Fx s) (hR : CR P s) (hW : CW r w pd row day left s) (hr5 : r ≤ 5) (hw5 : w ≤ 5) (hB : CBk P bks bp s) (hb3 : bks.length ≤ 3) (hq : Q (some (.int (match bG P bks x with
    | some b => nI (lett P r w b (mn P))
    | none => -1))) (mR s)) : gE X (d + 4) 149 [.ref 0, .int x] (mR s) Q := by
  have hP5 := hR.2.2.1
  have hm := mn_le hP5
  cases hg : bG P bks x with
  | none =>
    rw [hg] at hq
    refine en149 rfl rfl ?_
    refine g_p t149_0 rfl ?_
    refine g_p t149_1 rfl ?_
    refine r_cv t149_2 (f0 hF) rfl ?_
    refine c130f (by exact hF) (by exact hR.1) hP5 (by exact hB) (bG_f hg) ?_
    refine k_v ?_ rfl
    refine g_asn t149_5 rfl (Nat.le_of_ble_eq_true rfl) (am_s1_2 rfl) ?_
    refine g_p t149_6 rfl ?_
    refine g_b (b := false) t149_7 rfl ?_
    refine g_p t149_10 rfl ?_
    refine g_goto t149_11 ?_
    exact i_ret t149_19 rfl hq
  | some b =>
    obtain ⟨hP0, k, hk, rfl, rfl⟩ := bG_t hg (by omega)
    obtain ⟨qp, qB, qT, qS, qL⟩ := hB.2.2.1 k hk
    rw [hg] at hq
    refine en149 rfl rfl ?_
    refine g_p t149_0 rfl ?_
    refine g_p t149_1 rfl ?_
    refine r_cv t149_2 (f0 hF) rfl ?_
    refine c130t (by exact hF) (by exact hR.1) hP5 hP0 (by exact hB) hk ?_
    refine k_v ?_ rfl
    refine g_asn t149_5 rfl (Nat.le_of_ble_eq_true rfl) (am_s1_2 rfl) ?_
    refine g_p t149_6 rfl ?_
    refine g_b (b := true) t149_7 rfl ?_
    refine g_p t149_14 rfl ?_
    refine g_p t149_15 rfl ?_
    refine r_cv t149_16 (f0 hF) rfl ?_
    refine c150 hF hR hW hr5 hw5 qB qS qL ?_
    refine k_v ?_ rfl
    exact i_ret t149_19 rfl hq
theorem oN {o : Option Nat} (h : o.isSome = false) : o = none := by
  cases o
  · rfl
  · cases h
/-- a row told that can stand -/
def stO (P r w : Nat) (x : Int32) : Option Nat := match cdO P x with
  | some c => if std P r w c = true then some c else none
  | none => none
theorem stO_t {P r w c : Nat} {x : Int32} (h : stO P r w x = some c) : cdI P x = nI c ∧ std P r w c = true := by
  unfold stO at h
  split at h
  · rename_i c' hc
    split at h
    · rename_i hs
      cases h
      exact ⟨by rw [cdI_cdO, hc]; rfl, hs⟩
    · cases h
  · cases h
theorem stO_f {P r w : Nat} {x : Int32} (h : stO P r w x = none) : cdI P x = -1 ∨ ∃ c, c < mn P ∧ cdI P x = nI c ∧ std P r w c = false := by
  unfold stO at h
  split at h
  · rename_i c hc
    split at h
    · cases h
    · rename_i hs
      exact Or.inr ⟨c, cdO_lt hc, by rw [cdI_cdO, hc]; rfl, by simpa using hs⟩
  · rename_i hc
    exact Or.inl (by rw [cdI_cdO, hc]; rfl)
theorem c103o (hF : Fx s) (hR : CR P s) (e1 : ri s 32 1 = nI r) (e2 : ri s 32 2 = nI w) (hr5 : r ≤ 5) (hw5 : w ≤ 5) (hq : Q (some (.int (bI (stO P r w x).isSome))) (mR s)) : gE X (d + 2) 103 [.ref 32, .int (cdI P x)] (mR s) Q := by
  have hm := mn_le hR.2.2.1
  cases h : stO P r w x with
  | none =>
    rw [h] at hq
    rcases stO_f h with h1 | ⟨c, h1, h2, h3⟩
    · rw [h1]; exact c103m hF hq
    · rw [h2]
      refine c103 hF hR (by omega) e1 e2 hr5 hw5 ?_
      rw [h3]; exact hq
  | some c =>
    rw [h] at hq
    obtain ⟨h1, h2⟩ := stO_t h
    have := (std_t h2).1
    rw [h1]
    refine c103 hF hR (by omega) e1 e2 hr5 hw5 ?_
    rw [h2]; exact hq
theorem c145 (hF : Fx s) (hR : CR P s) (hW : CW r w pd row day left s) (hr5 : r ≤ 5) (hw5 : w ≤ 5) (hQ : CQ s) (hK : KP P r w s)
    (hq : ∀ s', Fr kA s s' → CQ s' → KP P r w s' → Q (some (.int (match stO P r w x, stO P r w y with
      | some a, some b => nI (dst P r w 15 a b)
      | _, _ => -1))) (mR s')) : gE X (d + 5) 145 [.ref 0, .int x, .int y] (mR s) Q := by
  have hP5 := hR.2.2.1
  have hm := mn_le hP5
  obtain ⟨e1, e2, e3, e4, e5, e6⟩ := hW
  refine en145 rfl rfl rfl ?_
  refine g_p t145_0 rfl ?_
  refine r_getr t145_1 (f0 hF) rfl rfl ?_
  refine g_p t145_4 rfl ?_
  refine r_cv t145_5 (f19 hF) rfl ?_
  refine c84 (by exact hF) (by exact hR.1) hP5 (by exact hR.2.2.2.2.1) ?_
  refine k_v ?_ rfl
  refine g_isn t145_8 (Nat.le_of_ble_eq_true rfl) (am_s1_3 rfl) ?_
  refine g_p t145_9 rfl ?_
  refine r_getr t145_10 (f0 hF) rfl rfl ?_
  refine g_p t145_13 rfl ?_
  refine r_cv t145_14 (f19 hF) rfl ?_
  refine c84 (by exact hF) (by exact hR.1) hP5 (by exact hR.2.2.2.2.1) ?_
  refine k_v ?_ rfl
  refine g_is t145_17 (Nat.le_of_ble_eq_true rfl) (am_s1_4 rfl) ?_
  refine g_p t145_19 rfl ?_
  refine r_getr t145_20 (f0 hF) rfl rfl ?_
  refine g_p t145_23 rfl ?_
  refine r_cv t145_24 (f32 hF) rfl ?_
  refine c103o (by exact hF) (by exact hR) (by exact e1) (by exact e2) hr5 hw5 ?_
  refine k_v ?_ rfl
  refine b_eq t145_27 (fun h27 => ?_) (fun h27 => ?_)
  · refine g_p t145_55 rfl ?_
    first
      | (have u := ha; have u2 := hb; exact i_ret t145_56 (by rw [u, u2]) (hq s49 fr49 hQ hK))
      | (have u := h39; exact i_ret t145_56 (by rw [oN u]; cases stO P r w x <;> rfl) (hq s Fr.rf hQ hK))
      | (have u := h27; exact i_ret t145_56 (by rw [oN u]) (hq s Fr.rf hQ hK))
  · refine g_p t145_30 rfl ?_
    refine r_getr t145_31 (f0 hF) rfl rfl ?_
    refine g_p t145_34 rfl ?_
    refine r_cv t145_36 (f32 hF) rfl ?_
    refine c103o (by exact hF) (by exact hR) (by exact e1) (by exact e2) hr5 hw5 ?_
    refine k_v ?_ rfl
    refine b_eq t145_39 (fun h39 => ?_) (fun h39 => ?_)
    · refine g_p t145_55 rfl ?_
      first
        | (have u := ha; have u2 := hb; exact i_ret t145_56 (by rw [u, u2]) (hq s49 fr49 hQ hK))
        | (have u := h39; exact i_ret t145_56 (by rw [oN u]; cases stO P r w x <;> rfl) (hq s Fr.rf hQ hK))
        | (have u := h27; exact i_ret t145_56 (by rw [oN u]) (hq s Fr.rf hQ hK))
    · refine g_p t145_42 rfl ?_
      refine r_getr t145_43 (f0 hF) rfl rfl ?_
      refine g_p t145_46 rfl ?_
      refine g_p t145_47 rfl ?_
      refine r_cv t145_49 (f50 hF) rfl ?_
      obtain ⟨a, ha⟩ := Option.isSome_iff_exists.mp h27
      obtain ⟨b, hb⟩ := Option.isSome_iff_exists.mp h39
      rw [(stO_t ha).1, (stO_t hb).1]
      refine c67 (by exact hF) (by exact hR) (by exact e1) (by exact e2) hr5 hw5 (by exact hQ) (by exact hK) (std_t (stO_t ha).2).1 (std_t (stO_t hb).2).1 (fun s49 fr49 hQ hK => ?_)
      refine k_v ?_ rfl
      refine g_goto t145_52 ?_
      first
        | (have u := ha; have u2 := hb; exact i_ret t145_56 (by rw [u, u2]) (hq s49 fr49 hQ hK))
        | (have u := h39; exact i_ret t145_56 (by rw [oN u]; cases stO P r w x <;> rfl) (hq s Fr.rf hQ hK))
        | (have u := h27; exact i_ret t145_56 (by rw [oN u]) (hq s Fr.rf hQ hK))
end FD
