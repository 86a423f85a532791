/-! LIGHT'S WORTH, 3: clauses -/
/-- behind the mark: does it hold, its worth -/
def lc1 (t : List Nat) (a : Nat → Int32) (σ : Ps) : (Bool × Int64) × Ps :=
  if psg t σ = 33 ∨ psg t σ = 40 then (((cnd t (lun t a) (lun t a σ)).1, (lse t a (pne t 63 (cnd t (lun t a) (lun t a σ)).2)).1), (lse t a (pne t 63 (cnd t (lun t a) (lun t a σ)).2)).2)
  else if isC (psg t (lse t a σ).2) = true then (((cnd t (lun t a) (lcp t (lse t a) (lse t a σ))).1, (lse t a (pne t 63 (cnd t (lun t a) (lcp t (lse t a) (lse t a σ))).2)).1), (lse t a (pne t 63 (cnd t (lun t a) (lcp t (lse t a) (lse t a σ))).2)).2)
  else ((true, (lse t a σ).1), (lse t a σ).2)
def lcl (t : List Nat) (a : Nat → Int32) (σ : Ps) : (Bool × Int64) × Ps := lc1 t a (pne t 58 (pne t 121 σ))
abbrev LW : Type := (Bool × Int64) × Ps
def lw1 (t : List Nat) (a : Nat → Int32) (x : LW) : LW := ((x.1.1 || (lcl t a x.2).1.1, if ((lcl t a x.2).1.1 && !x.1.1) = true then (lcl t a x.2).1.2 else x.1.2), (lcl t a x.2).2)
def lwl (t : List Nat) (a : Nat → Int32) : Nat → LW → LW
  | 0, x => x
  | n + 1, x => if psg t (lw1 t a x).2 = 59 then lwl t a n ((lw1 t a x).1, pst t (lw1 t a x).2) else lw1 t a x
def lwo (t : List Nat) (a : Nat → Int32) : LW := lwl t a 120 ((false, 0), .inl (skp t 0))
/-- the same but for ints of A, longs of B -/
def FL (A B : List Nat) (s s' : mM) : Prop := s'.1 = s.1 ∧ s'.2.2.2 = s.2.2.2 ∧ (∀ p, p ∉ A → s'.2.1 p = s.2.1 p) ∧ ∀ p, p ∉ B → s'.2.2.1 p = s.2.2.1 p
theorem Fr.fl {A B : List Nat} {s s' : mM} (h : Fr A s s') : FL A B s s' := ⟨h.1, by rw [h.2.1], h.2.2, fun p _ => by rw [h.2.1]⟩
theorem FL.tr {A B : List Nat} {s s' s'' : mM} (h : FL A B s s') (h2 : FL A B s' s'') : FL A B s s'' := ⟨h2.1.trans h.1, h2.2.1.trans h.2.1, fun p hp => (h2.2.2.1 p hp).trans (h.2.2.1 p hp), fun p hp => (h2.2.2.2 p hp).trans (h.2.2.2 p hp)⟩
theorem FL.fi {A B : List Nat} {s s' : mM} (h : FL A B s s') : FI A s s' := ⟨h.1, h.2.1, h.2.2.1⟩
theorem FL.fx {A B : List Nat} {s s' : mM} (h : FL A B s s') (hF : Fx s) : Fx s' := fun p hp => by rw [h.1]; exact hF p hp
theorem FL.wl {A B : List Nat} {s s' : mM} {p i : Nat} {v : Int64} (h : FL A B s s') (hp : p ∈ B) : FL A B s (wl s' p i v) := ⟨h.1, h.2.1, h.2.2.1, fun q hq => by
  have : q ≠ p := fun e => hq (e ▸ hp)
  show m_up s'.2.2.1 p _ q = _
  unfold m_up
  rw [if_neg this]
  exact h.2.2.2 q hq⟩
theorem rl_fr {A : List Nat} {s s' : mM} {p i : Nat} (h : Fr A s s') : rl s' p i = rl s p i := by unfold rl; rw [h.2.1]
section TT
variable {X : am_X} {d : Nat} {s : mM} {hp : am_H} {Q : Option Value → am_H → Prop} {T n : Nat} {t : List Nat} {σ : Ps} {v : Int64} {a : Nat → Int32} {b : Bool}
theorem c19 (hTR : T ≠ 15 ∧ T + 1 ≠ 15) (hF : Fx s) (hD : RD 15 T n t σ s) (ha : ∀ i, 4 ≤ i → i < 8 → ri s 15 i = a i) (h8 : ri s 15 8 = bI b) (h9 : rl s 15 9 = v) (hq : ∀ s', FL [15] [15] s s' → (∀ i, 4 ≤ i → i < 8 → ri s' 15 i = ri s 15 i) → ri s' 15 8 = bI (b || (lcl t a σ).1.1) → rl s' 15 9 = (if ((lcl t a σ).1.1 && !b) = true then (lcl t a σ).1.2 else v) → RD 15 T n t (lcl t a σ).2 s' → Q none (mR s')) : gE X (d + 26) 19 [.ref 15] (mR s) Q := by
  have hg : FR 15 s s := FR.rf
  unfold lcl at hq
  obtain ⟨σ1, hσ1⟩ : ∃ x, x = pne t 58 (pne t 121 σ) := ⟨_, rfl⟩
  rw [← hσ1] at hq
  have END : ∀ (b1 : Bool) (y : Int64) (τ : Ps) (z4 : Int32) (s' : mM), lc1 t a σ1 = ((b1, y), τ) → Fx s' → FR 15 s s' → RD 15 T n t τ s' → gG X (d + 26) 19 88 [.ref 15, .int (bI b1), .long y, .float 0, .int z4] [] (mR s') Q := by
    intro b1 y τ z4 s' he hF hg hD
    rw [he] at hq
    have e8 : ri s' 15 8 = bI b := (hg.2 8 (Or.inr (by decide))).trans h8
    have e9 : rl s' 15 9 = v := (rl_fr hg.1).trans h9
    refine g_p t19_88 rfl ?_
    refine b_eq t19_89 (fun h89 => ?_) (fun h89 => ?_)
    · first
        | (have u0 : b1 = false := h89
           exact v_ret t19_109 (hq s' hg.1.fl (fun i h1 h2 => hg.2 i (Or.inr h1)) (by rw [u0, Bool.or_false]; exact e8) (by rw [u0]; exact e9) hD))
        | (have u0 : b = true := h96
           exact v_ret t19_109 (hq s' hg.1.fl (fun i h1 h2 => hg.2 i (Or.inr h1)) (by rw [u0, Bool.true_or]; rw [u0] at e8; exact e8) (by rw [u0, Bool.not_true, Bool.and_false]; exact e9) hD))
        | (have u0 : b = false := h96
           exact v_ret t19_109 (hq (wl (wi s' 15 8 (nI 1)) 15 9 y) (FL.wl (Fr.fl (hg.1.wi (by simp))) (by simp)) (fun i h1 h2 => (show ri (wi s' 15 8 (nI 1)) 15 i = ri s 15 i from (ri_wi_j (by omega)).trans (hg.2 i (Or.inr h1)))) (by rw [u0, h89]; show ri (wi s' 15 8 (nI 1)) 15 8 = nI 1; exact ri_wi_eq) (by rw [u0, h89]; exact (rl_wl.trans (if_pos ⟨rfl, rfl⟩))) (show RD 15 T n t τ (wi s' 15 8 (nI 1)) from ⟨hD.1.fr (Fr.rf.wi (A := [15]) (by simp)) (by simp only [List.mem_singleton]; exact hTR.1) (by simp only [List.mem_singleton]; exact hTR.2), (ri_wi_j (by decide)).trans hD.2.1, by
             have h2 := hD.2.2
             cases τ with
             | inl j => exact ⟨(ri_wi_j (by decide)).trans h2.1, (ri_wi_j (by decide)).trans h2.2.1, (ri_wi_j (by decide)).trans h2.2.2.1, h2.2.2.2⟩
             | inr f => exact ⟨(ri_wi_j (by decide)).trans h2.1, (ri_wi_j (by decide)).trans h2.2.1, h2.2.2⟩⟩)))
    · refine g_p t19_92 rfl ?_
      refine r_gete t19_93 (f15 hF) rfl rfl e8 ?_
      refine b_ne t19_96 (fun h96 => ?_) (fun h96 => ?_)
      · first
          | (have u0 : b1 = false := h89
             exact v_ret t19_109 (hq s' hg.1.fl (fun i h1 h2 => hg.2 i (Or.inr h1)) (by rw [u0, Bool.or_false]; exact e8) (by rw [u0]; exact e9) hD))
          | (have u0 : b = true := h96
             exact v_ret t19_109 (hq s' hg.1.fl (fun i h1 h2 => hg.2 i (Or.inr h1)) (by rw [u0, Bool.true_or]; rw [u0] at e8; exact e8) (by rw [u0, Bool.not_true, Bool.and_false]; exact e9) hD))
          | (have u0 : b = false := h96
             exact v_ret t19_109 (hq (wl (wi s' 15 8 (nI 1)) 15 9 y) (FL.wl (Fr.fl (hg.1.wi (by simp))) (by simp)) (fun i h1 h2 => (show ri (wi s' 15 8 (nI 1)) 15 i = ri s 15 i from (ri_wi_j (by omega)).trans (hg.2 i (Or.inr h1)))) (by rw [u0, h89]; show ri (wi s' 15 8 (nI 1)) 15 8 = nI 1; exact ri_wi_eq) (by rw [u0, h89]; exact (rl_wl.trans (if_pos ⟨rfl, rfl⟩))) (show RD 15 T n t τ (wi s' 15 8 (nI 1)) from ⟨hD.1.fr (Fr.rf.wi (A := [15]) (by simp)) (by simp only [List.mem_singleton]; exact hTR.1) (by simp only [List.mem_singleton]; exact hTR.2), (ri_wi_j (by decide)).trans hD.2.1, by
               have h2 := hD.2.2
               cases τ with
               | inl j => exact ⟨(ri_wi_j (by decide)).trans h2.1, (ri_wi_j (by decide)).trans h2.2.1, (ri_wi_j (by decide)).trans h2.2.2.1, h2.2.2.2⟩
               | inr f => exact ⟨(ri_wi_j (by decide)).trans h2.1, (ri_wi_j (by decide)).trans h2.2.1, h2.2.2⟩⟩)))
      · refine g_p t19_99 rfl ?_
        refine g_k (n := 1) t19_100 rfl rfl ?_
        refine r_putz t19_101 (f15 hF) rfl rfl rfl ?_
        refine g_p t19_104 rfl ?_
        refine g_p t19_105 rfl ?_
        refine r_putl t19_106 (f15 hF) rfl rfl ?_
        first
          | (have u0 : b1 = false := h89
             exact v_ret t19_109 (hq s' hg.1.fl (fun i h1 h2 => hg.2 i (Or.inr h1)) (by rw [u0, Bool.or_false]; exact e8) (by rw [u0]; exact e9) hD))
          | (have u0 : b = true := h96
             exact v_ret t19_109 (hq s' hg.1.fl (fun i h1 h2 => hg.2 i (Or.inr h1)) (by rw [u0, Bool.true_or]; rw [u0] at e8; exact e8) (by rw [u0, Bool.not_true, Bool.and_false]; exact e9) hD))
          | (have u0 : b = false := h96
             exact v_ret t19_109 (hq (wl (wi s' 15 8 (nI 1)) 15 9 y) (FL.wl (Fr.fl (hg.1.wi (by simp))) (by simp)) (fun i h1 h2 => (show ri (wi s' 15 8 (nI 1)) 15 i = ri s 15 i from (ri_wi_j (by omega)).trans (hg.2 i (Or.inr h1)))) (by rw [u0, h89]; show ri (wi s' 15 8 (nI 1)) 15 8 = nI 1; exact ri_wi_eq) (by rw [u0, h89]; exact (rl_wl.trans (if_pos ⟨rfl, rfl⟩))) (show RD 15 T n t τ (wi s' 15 8 (nI 1)) from ⟨hD.1.fr (Fr.rf.wi (A := [15]) (by simp)) (by simp only [List.mem_singleton]; exact hTR.1) (by simp only [List.mem_singleton]; exact hTR.2), (ri_wi_j (by decide)).trans hD.2.1, by
               have h2 := hD.2.2
               cases τ with
               | inl j => exact ⟨(ri_wi_j (by decide)).trans h2.1, (ri_wi_j (by decide)).trans h2.2.1, (ri_wi_j (by decide)).trans h2.2.2.1, h2.2.2.2⟩
               | inr f => exact ⟨(ri_wi_j (by decide)).trans h2.1, (ri_wi_j (by decide)).trans h2.2.1, h2.2.2⟩⟩)))
  have m24 : AtC X T n t a 24 0 (d + 3 + 22) (lse t a) := c24_0 hTR
  unfold lc1 at END
  by_cases l1 : psg t σ1 = 33 ∨ psg t σ1 = 40
  · simp only [if_pos l1] at END
    refine en19 rfl ?_
    refine g_p t19_0 rfl ?_
    refine g_k (n := 121) t19_1 rfl rfl ?_
    refine r_cv t19_3 (f15 hF) rfl ?_
    refine c56_15 (by exact hF) hTR (by exact hD) (w := 121) (by decide) (by decide) (fun s3 fr3 hD => ?_)
    have hF := hF.fr fr3.1
    have hg := hg.tr fr3
    refine k_0 ?_
    refine g_p t19_6 rfl ?_
    refine g_k (n := 58) t19_7 rfl rfl ?_
    refine r_cv t19_9 (f15 hF) rfl ?_
    refine c56_15 (by exact hF) hTR (by exact hD) (w := 58) (by decide) (by decide) (fun s9 fr9 hD => ?_)
    have hF := hF.fr fr9.1
    have hg := hg.tr fr9
    rw [← hσ1] at hD
    have hlt := psg_lt hD.1 σ1
    refine k_0 ?_
    refine g_k (n := 1) t19_12 rfl rfl ?_
    refine g_isn t19_13 (Nat.le_of_ble_eq_true rfl) (am_s1_1 rfl) ?_
    refine g_p t19_14 rfl ?_
    refine g_lsn t19_15 (Nat.le_of_ble_eq_true rfl) (am_s2_2 rfl) ?_
    refine g_p t19_16 rfl ?_
    refine r_cv t19_17 (f15 hF) rfl ?_
    refine c52_15 (by exact hF) (by exact hD.2.2) ?_
    refine k_v ?_ rfl
    refine g_k (n := 33) t19_20 rfl rfl ?_
    refine n_ceq t19_22 (by omega) (by omega) (fun h22 => ?_) (fun h22 => ?_)
    · refine g_k (n := 0) t19_38 rfl rfl ?_
      refine g_is t19_39 (Nat.le_of_ble_eq_true rfl) (am_s1_4 rfl) ?_
      refine g_p t19_41 rfl ?_
      refine n_eq t19_43 (by omega) (fun h43 => ?_) (fun h43 => ?_)
      · refine g_p t19_52 rfl ?_
        refine n_eq t19_54 (by omega) (fun h54 => ?_) (fun h54 => ?_)
        · refine g_p t19_67 rfl ?_
          refine g_k (n := 0) t19_68 rfl rfl ?_
          refine g_p t19_69 rfl ?_
          refine g_p t19_71 rfl ?_
          refine r_cv t19_72 (f15 hF) rfl ?_
          refine (c21_0 (d := d) hTR) _ _ _ (by exact hF) (by exact hD) (fun i h1 h2 => (hg.2 i (Or.inr h1)).trans (ha i h1 h2)) (fun s72 fr72 hD => ?_)
          have hF := hF.fr fr72.1
          have hg := hg.tr fr72
          refine k_v ?_ rfl
          refine g_isn t19_75 (Nat.le_of_ble_eq_true rfl) (am_s1_1 rfl) ?_
          refine g_p t19_76 rfl ?_
          refine g_k (n := 63) t19_77 rfl rfl ?_
          refine r_cv t19_79 (f15 hF) rfl ?_
          refine c56_15 (by exact hF) hTR (by exact hD) (w := 63) (by decide) (by decide) (fun s79 fr79 hD => ?_)
          have hF := hF.fr fr79.1
          have hg := hg.tr fr79
          refine k_0 ?_
          refine g_p t19_82 rfl ?_
          refine g_k (n := 0) t19_83 rfl rfl ?_
          refine r_cv t19_84 (f15 hF) rfl ?_
          refine m24 _ _ _ (by exact hF) (by exact hD) (fun i h1 h2 => (hg.2 i (Or.inr h1)).trans (ha i h1 h2)) (fun s84 fr84 hD => ?_)
          have hF := hF.fr fr84.1
          have hg := hg.tr fr84
          refine k_v ?_ rfl
          refine g_lsn t19_87 (Nat.le_of_ble_eq_true rfl) (am_s2_2 rfl) ?_
          exact END _ _ _ _ s84 rfl hF hg hD
        · first
            | (exfalso; omega)
            | exact absurd rfl h54
      · first
          | (exfalso; omega)
          | exact absurd rfl h43
    · refine g_p t19_25 rfl ?_
      refine r_cv t19_26 (f15 hF) rfl ?_
      refine c52_15 (by exact hF) (by exact hD.2.2) ?_
      refine k_v ?_ rfl
      refine g_k (n := 40) t19_29 rfl rfl ?_
      refine n_ceq t19_31 (by omega) (by omega) (fun h31 => ?_) (fun h31 => ?_)
      · refine g_k (n := 0) t19_38 rfl rfl ?_
        refine g_is t19_39 (Nat.le_of_ble_eq_true rfl) (am_s1_4 rfl) ?_
        refine g_p t19_41 rfl ?_
        refine n_eq t19_43 (by omega) (fun h43 => ?_) (fun h43 => ?_)
        · refine g_p t19_52 rfl ?_
          refine n_eq t19_54 (by omega) (fun h54 => ?_) (fun h54 => ?_)
          · refine g_p t19_67 rfl ?_
            refine g_k (n := 0) t19_68 rfl rfl ?_
            refine g_p t19_69 rfl ?_
            refine g_p t19_71 rfl ?_
            refine r_cv t19_72 (f15 hF) rfl ?_
            refine (c21_0 (d := d) hTR) _ _ _ (by exact hF) (by exact hD) (fun i h1 h2 => (hg.2 i (Or.inr h1)).trans (ha i h1 h2)) (fun s72 fr72 hD => ?_)
            have hF := hF.fr fr72.1
            have hg := hg.tr fr72
            refine k_v ?_ rfl
            refine g_isn t19_75 (Nat.le_of_ble_eq_true rfl) (am_s1_1 rfl) ?_
            refine g_p t19_76 rfl ?_
            refine g_k (n := 63) t19_77 rfl rfl ?_
            refine r_cv t19_79 (f15 hF) rfl ?_
            refine c56_15 (by exact hF) hTR (by exact hD) (w := 63) (by decide) (by decide) (fun s79 fr79 hD => ?_)
            have hF := hF.fr fr79.1
            have hg := hg.tr fr79
            refine k_0 ?_
            refine g_p t19_82 rfl ?_
            refine g_k (n := 0) t19_83 rfl rfl ?_
            refine r_cv t19_84 (f15 hF) rfl ?_
            refine m24 _ _ _ (by exact hF) (by exact hD) (fun i h1 h2 => (hg.2 i (Or.inr h1)).trans (ha i h1 h2)) (fun s84 fr84 hD => ?_)
            have hF := hF.fr fr84.1
            have hg := hg.tr fr84
            refine k_v ?_ rfl
            refine g_lsn t19_87 (Nat.le_of_ble_eq_true rfl) (am_s2_2 rfl) ?_
            exact END _ _ _ _ s84 rfl hF hg hD
          · first
              | (exfalso; omega)
              | exact absurd rfl h54
        · first
            | (exfalso; omega)
            | exact absurd rfl h43
      · exfalso; omega
  · simp only [if_neg l1] at END
    by_cases l2 : isC (psg t (lse t a σ1).2) = true
    · simp only [if_pos l2] at END
      refine en19 rfl ?_
      refine g_p t19_0 rfl ?_
      refine g_k (n := 121) t19_1 rfl rfl ?_
      refine r_cv t19_3 (f15 hF) rfl ?_
      refine c56_15 (by exact hF) hTR (by exact hD) (w := 121) (by decide) (by decide) (fun s3 fr3 hD => ?_)
      have hF := hF.fr fr3.1
      have hg := hg.tr fr3
      refine k_0 ?_
      refine g_p t19_6 rfl ?_
      refine g_k (n := 58) t19_7 rfl rfl ?_
      refine r_cv t19_9 (f15 hF) rfl ?_
      refine c56_15 (by exact hF) hTR (by exact hD) (w := 58) (by decide) (by decide) (fun s9 fr9 hD => ?_)
      have hF := hF.fr fr9.1
      have hg := hg.tr fr9
      rw [← hσ1] at hD
      have hlt := psg_lt hD.1 σ1
      refine k_0 ?_
      refine g_k (n := 1) t19_12 rfl rfl ?_
      refine g_isn t19_13 (Nat.le_of_ble_eq_true rfl) (am_s1_1 rfl) ?_
      refine g_p t19_14 rfl ?_
      refine g_lsn t19_15 (Nat.le_of_ble_eq_true rfl) (am_s2_2 rfl) ?_
      refine g_p t19_16 rfl ?_
      refine r_cv t19_17 (f15 hF) rfl ?_
      refine c52_15 (by exact hF) (by exact hD.2.2) ?_
      refine k_v ?_ rfl
      refine g_k (n := 33) t19_20 rfl rfl ?_
      refine n_ceq t19_22 (by omega) (by omega) (fun h22 => ?_) (fun h22 => ?_)
      · exfalso; omega
      · refine g_p t19_25 rfl ?_
        refine r_cv t19_26 (f15 hF) rfl ?_
        refine c52_15 (by exact hF) (by exact hD.2.2) ?_
        refine k_v ?_ rfl
        refine g_k (n := 40) t19_29 rfl rfl ?_
        refine n_ceq t19_31 (by omega) (by omega) (fun h31 => ?_) (fun h31 => ?_)
        · exfalso; omega
        · refine g_k (n := 1) t19_34 rfl rfl ?_
          refine g_goto t19_35 ?_
          refine g_is t19_39 (Nat.le_of_ble_eq_true rfl) (am_s1_4 rfl) ?_
          refine g_p t19_41 rfl ?_
          refine n_eq t19_43 (by omega) (fun h43 => ?_) (fun h43 => ?_)
          · refine g_p t19_52 rfl ?_
            refine n_eq t19_54 (by omega) (fun h54 => ?_) (fun h54 => ?_)
            · refine g_p t19_67 rfl ?_
              refine g_k (n := 0) t19_68 rfl rfl ?_
              refine g_p t19_69 rfl ?_
              refine g_p t19_71 rfl ?_
              refine r_cv t19_72 (f15 hF) rfl ?_
              refine (c21_1 (d := d) hTR) _ _ _ (by exact hF) (by exact hD) (fun i h1 h2 => (hg.2 i (Or.inr h1)).trans (ha i h1 h2)) (fun s72 fr72 hD => ?_)
              have hF := hF.fr fr72.1
              have hg := hg.tr fr72
              refine k_v ?_ rfl
              refine g_isn t19_75 (Nat.le_of_ble_eq_true rfl) (am_s1_1 rfl) ?_
              refine g_p t19_76 rfl ?_
              refine g_k (n := 63) t19_77 rfl rfl ?_
              refine r_cv t19_79 (f15 hF) rfl ?_
              refine c56_15 (by exact hF) hTR (by exact hD) (w := 63) (by decide) (by decide) (fun s79 fr79 hD => ?_)
              have hF := hF.fr fr79.1
              have hg := hg.tr fr79
              refine k_0 ?_
              refine g_p t19_82 rfl ?_
              refine g_k (n := 0) t19_83 rfl rfl ?_
              refine r_cv t19_84 (f15 hF) rfl ?_
              refine m24 _ _ _ (by exact hF) (by exact hD) (fun i h1 h2 => (hg.2 i (Or.inr h1)).trans (ha i h1 h2)) (fun s84 fr84 hD => ?_)
              have hF := hF.fr fr84.1
              have hg := hg.tr fr84
              refine k_v ?_ rfl
              refine g_lsn t19_87 (Nat.le_of_ble_eq_true rfl) (am_s2_2 rfl) ?_
              first
                | (have u0 : (1 : Nat) = 0 := h43; exact absurd u0 (by decide))
                | (have u0 : (1 : Nat) = 0 := h54; exact absurd u0 (by decide))
                | (have u0 := h64; exact no_b l2 u0)
                | exact END _ _ _ _ s84 rfl hF hg hD
            · refine g_p t19_57 rfl ?_
              refine r_cv t19_58 (f15 hF) rfl ?_
              refine c52_15 (by exact hF) (by exact hD.2.2) ?_
              refine k_v ?_ rfl
              refine g_cs t19_61 rfl rfl rfl ?_
              refine c20 (psg_lt hD.1 _) ?_
              refine k_v ?_ rfl
              refine b_eq t19_64 (fun h64 => ?_) (fun h64 => ?_)
              · first
                  | (have u0 : (1 : Nat) = 0 := h43; exact absurd u0 (by decide))
                  | (have u0 : (1 : Nat) = 0 := h54; exact absurd u0 (by decide))
                  | (have u0 := h64; exact no_b l2 u0)
                  | exact END _ _ _ _ s84 rfl hF hg hD
              · refine g_p t19_67 rfl ?_
                refine g_k (n := 0) t19_68 rfl rfl ?_
                refine g_p t19_69 rfl ?_
                refine g_p t19_71 rfl ?_
                refine r_cv t19_72 (f15 hF) rfl ?_
                refine (c21_1 (d := d) hTR) _ _ _ (by exact hF) (by exact hD) (fun i h1 h2 => (hg.2 i (Or.inr h1)).trans (ha i h1 h2)) (fun s72 fr72 hD => ?_)
                have hF := hF.fr fr72.1
                have hg := hg.tr fr72
                refine k_v ?_ rfl
                refine g_isn t19_75 (Nat.le_of_ble_eq_true rfl) (am_s1_1 rfl) ?_
                refine g_p t19_76 rfl ?_
                refine g_k (n := 63) t19_77 rfl rfl ?_
                refine r_cv t19_79 (f15 hF) rfl ?_
                refine c56_15 (by exact hF) hTR (by exact hD) (w := 63) (by decide) (by decide) (fun s79 fr79 hD => ?_)
                have hF := hF.fr fr79.1
                have hg := hg.tr fr79
                refine k_0 ?_
                refine g_p t19_82 rfl ?_
                refine g_k (n := 0) t19_83 rfl rfl ?_
                refine r_cv t19_84 (f15 hF) rfl ?_
                refine m24 _ _ _ (by exact hF) (by exact hD) (fun i h1 h2 => (hg.2 i (Or.inr h1)).trans (ha i h1 h2)) (fun s84 fr84 hD => ?_)
                have hF := hF.fr fr84.1
                have hg := hg.tr fr84
                refine k_v ?_ rfl
                refine g_lsn t19_87 (Nat.le_of_ble_eq_true rfl) (am_s2_2 rfl) ?_
                first
                  | (have u0 : (1 : Nat) = 0 := h43; exact absurd u0 (by decide))
                  | (have u0 : (1 : Nat) = 0 := h54; exact absurd u0 (by decide))
                  | (have u0 := h64; exact no_b l2 u0)
                  | exact END _ _ _ _ s84 rfl hF hg hD
          · refine g_p t19_46 rfl ?_
            refine g_k (n := 0) t19_47 rfl rfl ?_
            refine r_cv t19_48 (f15 hF) rfl ?_
            refine m24 _ _ _ (by exact hF) (by exact hD) (fun i h1 h2 => (hg.2 i (Or.inr h1)).trans (ha i h1 h2)) (fun s48 fr48 hD => ?_)
            have hF := hF.fr fr48.1
            have hg := hg.tr fr48
            refine k_v ?_ rfl
            refine g_lsn t19_51 (Nat.le_of_ble_eq_true rfl) (am_s2_2 rfl) ?_
            refine g_p t19_52 rfl ?_
            refine n_eq t19_54 (by omega) (fun h54 => ?_) (fun h54 => ?_)
            · refine g_p t19_67 rfl ?_
              refine g_k (n := 0) t19_68 rfl rfl ?_
              refine g_p t19_69 rfl ?_
              refine g_p t19_71 rfl ?_
              refine r_cv t19_72 (f15 hF) rfl ?_
              refine (c21_1 (d := d) hTR) _ _ _ (by exact hF) (by exact hD) (fun i h1 h2 => (hg.2 i (Or.inr h1)).trans (ha i h1 h2)) (fun s72 fr72 hD => ?_)
              have hF := hF.fr fr72.1
              have hg := hg.tr fr72
              refine k_v ?_ rfl
              refine g_isn t19_75 (Nat.le_of_ble_eq_true rfl) (am_s1_1 rfl) ?_
              refine g_p t19_76 rfl ?_
              refine g_k (n := 63) t19_77 rfl rfl ?_
              refine r_cv t19_79 (f15 hF) rfl ?_
              refine c56_15 (by exact hF) hTR (by exact hD) (w := 63) (by decide) (by decide) (fun s79 fr79 hD => ?_)
              have hF := hF.fr fr79.1
              have hg := hg.tr fr79
              refine k_0 ?_
              refine g_p t19_82 rfl ?_
              refine g_k (n := 0) t19_83 rfl rfl ?_
              refine r_cv t19_84 (f15 hF) rfl ?_
              refine m24 _ _ _ (by exact hF) (by exact hD) (fun i h1 h2 => (hg.2 i (Or.inr h1)).trans (ha i h1 h2)) (fun s84 fr84 hD => ?_)
              have hF := hF.fr fr84.1
              have hg := hg.tr fr84
              refine k_v ?_ rfl
              refine g_lsn t19_87 (Nat.le_of_ble_eq_true rfl) (am_s2_2 rfl) ?_
              first
                | (have u0 : (1 : Nat) = 0 := h43; exact absurd u0 (by decide))
                | (have u0 : (1 : Nat) = 0 := h54; exact absurd u0 (by decide))
                | (have u0 := h64; exact no_b l2 u0)
                | exact END _ _ _ _ s84 rfl hF hg hD
            · refine g_p t19_57 rfl ?_
              refine r_cv t19_58 (f15 hF) rfl ?_
              refine c52_15 (by exact hF) (by exact hD.2.2) ?_
              refine k_v ?_ rfl
              refine g_cs t19_61 rfl rfl rfl ?_
              refine c20 (psg_lt hD.1 _) ?_
              refine k_v ?_ rfl
              refine b_eq t19_64 (fun h64 => ?_) (fun h64 => ?_)
              · first
                  | (have u0 : (1 : Nat) = 0 := h43; exact absurd u0 (by decide))
                  | (have u0 : (1 : Nat) = 0 := h54; exact absurd u0 (by decide))
                  | (have u0 := h64; exact no_b l2 u0)
                  | exact END _ _ _ _ s84 rfl hF hg hD
              · refine g_p t19_67 rfl ?_
                refine g_k (n := 0) t19_68 rfl rfl ?_
                refine g_p t19_69 rfl ?_
                refine g_p t19_71 rfl ?_
                refine r_cv t19_72 (f15 hF) rfl ?_
                refine (c21_1 (d := d) hTR) _ _ _ (by exact hF) (by exact hD) (fun i h1 h2 => (hg.2 i (Or.inr h1)).trans (ha i h1 h2)) (fun s72 fr72 hD => ?_)
                have hF := hF.fr fr72.1
                have hg := hg.tr fr72
                refine k_v ?_ rfl
                refine g_isn t19_75 (Nat.le_of_ble_eq_true rfl) (am_s1_1 rfl) ?_
                refine g_p t19_76 rfl ?_
                refine g_k (n := 63) t19_77 rfl rfl ?_
                refine r_cv t19_79 (f15 hF) rfl ?_
                refine c56_15 (by exact hF) hTR (by exact hD) (w := 63) (by decide) (by decide) (fun s79 fr79 hD => ?_)
                have hF := hF.fr fr79.1
                have hg := hg.tr fr79
                refine k_0 ?_
                refine g_p t19_82 rfl ?_
                refine g_k (n := 0) t19_83 rfl rfl ?_
                refine r_cv t19_84 (f15 hF) rfl ?_
                refine m24 _ _ _ (by exact hF) (by exact hD) (fun i h1 h2 => (hg.2 i (Or.inr h1)).trans (ha i h1 h2)) (fun s84 fr84 hD => ?_)
                have hF := hF.fr fr84.1
                have hg := hg.tr fr84
                refine k_v ?_ rfl
                refine g_lsn t19_87 (Nat.le_of_ble_eq_true rfl) (am_s2_2 rfl) ?_
                first
                  | (have u0 : (1 : Nat) = 0 := h43; exact absurd u0 (by decide))
                  | (have u0 : (1 : Nat) = 0 := h54; exact absurd u0 (by decide))
                  | (have u0 := h64; exact no_b l2 u0)
                  | exact END _ _ _ _ s84 rfl hF hg hD
    · simp only [if_neg l2] at END
      refine en19 rfl ?_
      refine g_p t19_0 rfl ?_
      refine g_k (n := 121) t19_1 rfl rfl ?_
      refine r_cv t19_3 (f15 hF) rfl ?_
      refine c56_15 (by exact hF) hTR (by exact hD) (w := 121) (by decide) (by decide) (fun s3 fr3 hD => ?_)
      have hF := hF.fr fr3.1
      have hg := hg.tr fr3
      refine k_0 ?_
      refine g_p t19_6 rfl ?_
      refine g_k (n := 58) t19_7 rfl rfl ?_
      refine r_cv t19_9 (f15 hF) rfl ?_
      refine c56_15 (by exact hF) hTR (by exact hD) (w := 58) (by decide) (by decide) (fun s9 fr9 hD => ?_)
      have hF := hF.fr fr9.1
      have hg := hg.tr fr9
      rw [← hσ1] at hD
      have hlt := psg_lt hD.1 σ1
      refine k_0 ?_
      refine g_k (n := 1) t19_12 rfl rfl ?_
      refine g_isn t19_13 (Nat.le_of_ble_eq_true rfl) (am_s1_1 rfl) ?_
      refine g_p t19_14 rfl ?_
      refine g_lsn t19_15 (Nat.le_of_ble_eq_true rfl) (am_s2_2 rfl) ?_
      refine g_p t19_16 rfl ?_
      refine r_cv t19_17 (f15 hF) rfl ?_
      refine c52_15 (by exact hF) (by exact hD.2.2) ?_
      refine k_v ?_ rfl
      refine g_k (n := 33) t19_20 rfl rfl ?_
      refine n_ceq t19_22 (by omega) (by omega) (fun h22 => ?_) (fun h22 => ?_)
      · exfalso; omega
      · refine g_p t19_25 rfl ?_
        refine r_cv t19_26 (f15 hF) rfl ?_
        refine c52_15 (by exact hF) (by exact hD.2.2) ?_
        refine k_v ?_ rfl
        refine g_k (n := 40) t19_29 rfl rfl ?_
        refine n_ceq t19_31 (by omega) (by omega) (fun h31 => ?_) (fun h31 => ?_)
        · exfalso; omega
        · refine g_k (n := 1) t19_34 rfl rfl ?_
          refine g_goto t19_35 ?_
          refine g_is t19_39 (Nat.le_of_ble_eq_true rfl) (am_s1_4 rfl) ?_
          refine g_p t19_41 rfl ?_
          refine n_eq t19_43 (by omega) (fun h43 => ?_) (fun h43 => ?_)
          · refine g_p t19_52 rfl ?_
            refine n_eq t19_54 (by omega) (fun h54 => ?_) (fun h54 => ?_)
            · first
                | (have u0 : (1 : Nat) = 0 := h43; exact absurd u0 (by decide))
                | (have u0 : (1 : Nat) = 0 := h54; exact absurd u0 (by decide))
                | exact absurd h64 l2
            · refine g_p t19_57 rfl ?_
              refine r_cv t19_58 (f15 hF) rfl ?_
              refine c52_15 (by exact hF) (by exact hD.2.2) ?_
              refine k_v ?_ rfl
              refine g_cs t19_61 rfl rfl rfl ?_
              refine c20 (psg_lt hD.1 _) ?_
              refine k_v ?_ rfl
              refine b_eq t19_64 (fun h64 => ?_) (fun h64 => ?_)
              · first
                  | (have u0 : (1 : Nat) = 0 := h43; exact absurd u0 (by decide))
                  | (have u0 : (1 : Nat) = 0 := h54; exact absurd u0 (by decide))
                  | exact END true _ _ _ s48 rfl hF hg hD
              · first
                  | (have u0 : (1 : Nat) = 0 := h43; exact absurd u0 (by decide))
                  | (have u0 : (1 : Nat) = 0 := h54; exact absurd u0 (by decide))
                  | exact absurd h64 l2
          · refine g_p t19_46 rfl ?_
            refine g_k (n := 0) t19_47 rfl rfl ?_
            refine r_cv t19_48 (f15 hF) rfl ?_
            refine m24 _ _ _ (by exact hF) (by exact hD) (fun i h1 h2 => (hg.2 i (Or.inr h1)).trans (ha i h1 h2)) (fun s48 fr48 hD => ?_)
            have hF := hF.fr fr48.1
            have hg := hg.tr fr48
            refine k_v ?_ rfl
            refine g_lsn t19_51 (Nat.le_of_ble_eq_true rfl) (am_s2_2 rfl) ?_
            refine g_p t19_52 rfl ?_
            refine n_eq t19_54 (by omega) (fun h54 => ?_) (fun h54 => ?_)
            · first
                | (have u0 : (1 : Nat) = 0 := h43; exact absurd u0 (by decide))
                | (have u0 : (1 : Nat) = 0 := h54; exact absurd u0 (by decide))
                | exact absurd h64 l2
            · refine g_p t19_57 rfl ?_
              refine r_cv t19_58 (f15 hF) rfl ?_
              refine c52_15 (by exact hF) (by exact hD.2.2) ?_
              refine k_v ?_ rfl
              refine g_cs t19_61 rfl rfl rfl ?_
              refine c20 (psg_lt hD.1 _) ?_
              refine k_v ?_ rfl
              refine b_eq t19_64 (fun h64 => ?_) (fun h64 => ?_)
              · first
                  | (have u0 : (1 : Nat) = 0 := h43; exact absurd u0 (by decide))
                  | (have u0 : (1 : Nat) = 0 := h54; exact absurd u0 (by decide))
                  | exact END true _ _ _ s48 rfl hF hg hD
              · first
                  | (have u0 : (1 : Nat) = 0 := h43; exact absurd u0 (by decide))
                  | (have u0 : (1 : Nat) = 0 := h54; exact absurd u0 (by decide))
                  | exact absurd h64 l2
theorem c18 (hTR : T ≠ 15 ∧ T + 1 ≠ 15) (hF : Fx s) (hX : TX T n t s) (hq : ∀ s', FL [15] [15] s s' → RD 15 T n t (lwo t a).2 s' → Q (some (.int (lwo t a).1.2.toInt32)) (mR s')) : gE X (d + 27) 18 [.ref 15, .ref T, .int (a 4), .int (a 5), .int (a 6), .int (a 7)] (mR s) Q := by
  have END : ∀ (i mo : Nat) (x : LW) (s' : mM), lwo t a = x → (i = 120 ∨ mo = 0) → i ≤ 120 → Fx s' → FL [15] [15] s s' → rl s' 15 9 = x.1.2 → RD 15 T n t x.2 s' → gG X (d + 27) 18 43 [.ref 15, .ref T, .int (a 4), .int (a 5), .int (a 6), .int (a 7), .int (nI mo), .int (nI i)] [] (mR s') Q := by
    intro i mo x s' he hi hi8 hF hf e9 hD
    rw [he] at hq
    rcases hi with hi | hi
    · subst hi
      refine g_p t18_43 rfl ?_
      refine g_k (n := 120) t18_45 rfl rfl ?_
      refine n_cge t18_47 (by omega) (by omega) (fun h47 => ?_) (fun h47 => ?_)
      · refine g_p t18_73 rfl ?_
        refine r_getl t18_74 (f15 hF) rfl rfl ?_
        refine g_p t18_77 rfl ?_
        exact i_ret t18_78 (by rw [e9]) (hq s' hf hD)
      · exfalso; omega
    · subst hi
      refine g_p t18_43 rfl ?_
      refine g_k (n := 120) t18_45 rfl rfl ?_
      refine n_cge t18_47 (by omega) (by omega) (fun h47 => ?_) (fun h47 => ?_)
      · refine g_p t18_73 rfl ?_
        refine r_getl t18_74 (f15 hF) rfl rfl ?_
        refine g_p t18_77 rfl ?_
        exact i_ret t18_78 (by rw [e9]) (hq s' hf hD)
      · refine g_p t18_50 rfl ?_
        refine n_eq t18_52 (by omega) (fun h52 => ?_) (fun h52 => ?_)
        · refine g_p t18_73 rfl ?_
          refine r_getl t18_74 (f15 hF) rfl rfl ?_
          refine g_p t18_77 rfl ?_
          exact i_ret t18_78 (by rw [e9]) (hq s' hf hD)
        · exact absurd rfl h52
  have K : ∀ (j i : Nat) (b : Bool) (v : Int64) (σ : Ps) (s' : mM), lwo t a = lwl t a j ((b, v), σ) → i + j = 120 → Fx s' → FL [15] [15] s s' → (∀ i, 4 ≤ i → i < 8 → ri s' 15 i = a i) → ri s' 15 8 = bI b → rl s' 15 9 = v → RD 15 T n t σ s' → gG X (d + 27) 18 43 [.ref 15, .ref T, .int (a 4), .int (a 5), .int (a 6), .int (a 7), .int (nI 1), .int (nI i)] [] (mR s') Q := by
    intro j
    induction j with
    | zero =>
      intro i b v σ s' he hi hF hf ha e8 e9 hD
      exact END i 1 ((b, v), σ) s' he (Or.inl (by omega)) (by omega) hF hf e9 hD
    | succ j ih =>
      intro i b v σ s' he hi hF hf ha e8 e9 hD
      unfold lwl at he
      by_cases l1 : psg t (lw1 t a ((b, v), σ)).2 = 59
      · rw [if_pos l1] at he
        have hs : psk t 59 (lcl t a σ).2 = pst t (lcl t a σ).2 := if_pos l1
        refine g_p t18_43 rfl ?_
        refine g_k (n := 120) t18_45 rfl rfl ?_
        refine n_cge t18_47 (by omega) (by omega) (fun h47 => ?_) (fun h47 => ?_)
        · first
            | (exfalso; omega)
            | exact absurd h52 (by decide)
        · refine g_p t18_50 rfl ?_
          refine n_eq t18_52 (by omega) (fun h52 => ?_) (fun h52 => ?_)
          · first
              | (exfalso; omega)
              | exact absurd h52 (by decide)
          · refine g_p t18_55 rfl ?_
            refine r_cv t18_56 (f15 hF) rfl ?_
            refine c19 hTR (by exact hF) (by exact hD) ha e8 e9 (fun s56 fr56 o56 e8 e9 hD => ?_)
            have hF := fr56.fx hF
            have hf := hf.tr fr56
            have hg : FR 15 s56 s56 := FR.rf
            refine k_0 ?_
            refine g_p t18_59 rfl ?_
            refine g_k (n := 59) t18_60 rfl rfl ?_
            refine r_cv t18_62 (f15 hF) rfl ?_
            refine c55_15 (by exact hF) hTR (by exact hD) (w := 59) (by decide) (by decide) (fun s62 fr62 hD => ?_)
            have hF := hF.fr fr62.1
            have hg := hg.tr fr62
            rw [hs] at hD
            refine k_v ?_ rfl
            rw [show bI (decide (psg t (lcl t a σ).2 = 59)) = nI 1 by rw [show decide (psg t (lcl t a σ).2 = 59) = true from decide_eq_true l1]; rfl]
            refine g_is t18_65 (Nat.le_of_ble_eq_true rfl) (am_s1_6 rfl) ?_
            refine g_incn (n := 1) t18_67 rfl rfl (Nat.le_of_ble_eq_true rfl) (am_s1_7 rfl) ?_
            refine g_goto t18_70 ?_
            exact ih (i + 1) _ _ _ s62 he (by omega) hF (hf.tr fr62.1.fl) (fun i h1 h2 => ((fr62.2 i (Or.inr h1)).trans (o56 i h1 h2)).trans (ha i h1 h2)) ((fr62.2 8 (Or.inr (by decide))).trans e8) ((rl_fr fr62.1).trans e9) hD
      · rw [if_neg l1] at he
        have hs : psk t 59 (lcl t a σ).2 = (lcl t a σ).2 := if_neg l1
        refine g_p t18_43 rfl ?_
        refine g_k (n := 120) t18_45 rfl rfl ?_
        refine n_cge t18_47 (by omega) (by omega) (fun h47 => ?_) (fun h47 => ?_)
        · first
            | (exfalso; omega)
            | exact absurd h52 (by decide)
        · refine g_p t18_50 rfl ?_
          refine n_eq t18_52 (by omega) (fun h52 => ?_) (fun h52 => ?_)
          · first
              | (exfalso; omega)
              | exact absurd h52 (by decide)
          · refine g_p t18_55 rfl ?_
            refine r_cv t18_56 (f15 hF) rfl ?_
            refine c19 hTR (by exact hF) (by exact hD) ha e8 e9 (fun s56 fr56 o56 e8 e9 hD => ?_)
            have hF := fr56.fx hF
            have hf := hf.tr fr56
            have hg : FR 15 s56 s56 := FR.rf
            refine k_0 ?_
            refine g_p t18_59 rfl ?_
            refine g_k (n := 59) t18_60 rfl rfl ?_
            refine r_cv t18_62 (f15 hF) rfl ?_
            refine c55_15 (by exact hF) hTR (by exact hD) (w := 59) (by decide) (by decide) (fun s62 fr62 hD => ?_)
            have hF := hF.fr fr62.1
            have hg := hg.tr fr62
            rw [hs] at hD
            refine k_v ?_ rfl
            rw [show bI (decide (psg t (lcl t a σ).2 = 59)) = nI 0 by rw [show decide (psg t (lcl t a σ).2 = 59) = false from decide_eq_false l1]; rfl]
            refine g_is t18_65 (Nat.le_of_ble_eq_true rfl) (am_s1_6 rfl) ?_
            refine g_incn (n := 1) t18_67 rfl rfl (Nat.le_of_ble_eq_true rfl) (am_s1_7 rfl) ?_
            refine g_goto t18_70 ?_
            exact END (i + 1) 0 _ s62 he (Or.inr rfl) (by omega) hF (hf.tr fr62.1.fl) ((rl_fr fr62.1).trans e9) hD
  refine en18 rfl rfl rfl rfl rfl rfl ?_
  refine g_p t18_0 rfl ?_
  refine g_p t18_1 rfl ?_
  refine r_puti t18_2 (f15 hF) rfl rfl ?_
  refine g_p t18_5 rfl ?_
  refine g_p t18_6 rfl ?_
  refine r_puti t18_7 (f15 hF) rfl rfl ?_
  refine g_p t18_10 rfl ?_
  refine g_p t18_11 rfl ?_
  refine r_puti t18_13 (f15 hF) rfl rfl ?_
  refine g_p t18_16 rfl ?_
  refine g_p t18_17 rfl ?_
  refine r_puti t18_19 (f15 hF) rfl rfl ?_
  refine g_p t18_22 rfl ?_
  refine g_p t18_23 rfl ?_
  refine r_cv t18_24 (f15 hF) rfl ?_
  have f0 := ((((Fr.rf (A := [15]) (s := s)).wi (p := 15) (i := 4) (v := a 4) (by simp)).wi (p := 15) (i := 5) (v := a 5) (by simp)).wi (p := 15) (i := 6) (v := a 6) (by simp)).wi (p := 15) (i := 7) (v := a 7) (by simp)
  refine c51_15 (by exact hF) hTR (hX.fr f0 (by simp only [List.mem_singleton]; exact hTR.1) (by simp only [List.mem_singleton]; exact hTR.2)) (fun s24 fr24 o24 hD => ?_)
  have hF := Fx.fr (s := wi (wi (wi (wi s 15 4 (a 4)) 15 5 (a 5)) 15 6 (a 6)) 15 7 (a 7)) hF fr24
  refine k_0 ?_
  refine g_p t18_27 rfl ?_
  refine g_k (n := 0) t18_28 rfl rfl ?_
  refine r_putz t18_29 (f15 hF) rfl rfl rfl ?_
  refine g_p t18_32 rfl ?_
  refine g_p t18_33 rfl ?_
  refine r_putl t18_34 (f15 hF) rfl rfl ?_
  refine g_k (n := 1) t18_37 rfl rfl ?_
  refine g_is t18_38 (Nat.le_of_ble_eq_true rfl) (am_s1_6 rfl) ?_
  refine g_k (n := 0) t18_40 rfl rfl ?_
  refine g_is t18_41 (Nat.le_of_ble_eq_true rfl) (am_s1_7 rfl) ?_
  refine K 120 0 false 0 _ (wl (wi s24 15 8 (nI 0)) 15 9 0) rfl rfl hF (FL.wl (Fr.fl ((f0.tr fr24).wi (by simp))) (by simp)) (fun i h1 h2 => ?_) rfl (rl_wl.trans (if_pos ⟨rfl, rfl⟩)) (show RD 15 T n t (.inl (skp t 0)) (wi s24 15 8 (nI 0)) from ⟨hD.1.fr (Fr.rf.wi (A := [15]) (by simp)) (by simp only [List.mem_singleton]; exact hTR.1) (by simp only [List.mem_singleton]; exact hTR.2), (ri_wi_j (by decide)).trans hD.2.1, (ri_wi_j (by decide)).trans hD.2.2.1, (ri_wi_j (by decide)).trans hD.2.2.2.1, (ri_wi_j (by decide)).trans hD.2.2.2.2.1, hD.2.2.2.2.2⟩)
  refine (show ri (wi s24 15 8 (nI 0)) 15 i = ri s24 15 i from ri_wi_j (by omega)).trans ((o24 i h1).trans ?_)
  have h3 : i = 4 ∨ i = 5 ∨ i = 6 ∨ i = 7 := by omega
  rcases h3 with h | h | h | h <;> subst h <;> rfl
theorem c17 (hTR : T ≠ 15 ∧ T + 1 ≠ 15) (hF : Fx s) (hX : TX T n t s) (hq : ∀ s', FL [15] [15] s s' → Q (some (.int (pfv (pfi t (lwo t fun _ => nI 0).2)))) (mR s')) : gE X (d + 28) 17 [.ref 15, .ref T] (mR s) Q := by
  refine en17 rfl rfl ?_
  refine g_p t17_0 rfl ?_
  refine g_p t17_1 rfl ?_
  refine g_k (n := 0) t17_2 rfl rfl ?_
  refine g_k (n := 0) t17_3 rfl rfl ?_
  refine g_k (n := 0) t17_4 rfl rfl ?_
  refine g_k (n := 0) t17_5 rfl rfl ?_
  refine r_cv t17_6 (f15 hF) rfl ?_
  refine c18 (a := fun _ => nI 0) hTR (by exact hF) (by exact hX) (fun s6 fr6 hD => ?_)
  have hF := fr6.fx hF
  have hg : FR 15 s6 s6 := FR.rf
  refine k_v ?_ rfl
  refine g_p t17_9 rfl ?_
  refine g_p t17_10 rfl ?_
  refine r_cv t17_11 (f15 hF) rfl ?_
  refine c60_15 (by exact hF) hTR (by exact hD)  (fun s11 fr11 hD => ?_)
  have hF := hF.fr fr11.1
  have hg := hg.tr fr11
  refine k_v ?_ rfl
  exact i_ret t17_14 rfl (hq s11 (fr6.tr hg.1.fl))
end TT
