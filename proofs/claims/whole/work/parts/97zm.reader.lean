/-! READERS, 2 -/
/-- a reader R over the text t at T, at σ -/
def RD (R T n : Nat) (t : List Nat) (σ : Ps) (s : mM) : Prop := TX T n t s ∧ ri s R 0 = nI (T + 2) ∧ RS R t σ s
theorem RD.up {R T n : Nat} {t : List Nat} {σ σ' : Ps} {s s' : mM} (h : RD R T n t σ s) (hT : T ≠ R ∧ T + 1 ≠ R) (f : FR R s s') (h2 : RS R t σ' s') : RD R T n t σ' s' := ⟨h.1.fr f.1 (by simp only [List.mem_singleton]; exact hT.1) (by simp only [List.mem_singleton]; exact hT.2), (f.2 0 (Or.inl rfl)).trans h.2.1, h2⟩
theorem RD.fr {A : List Nat} {R T n : Nat} {t : List Nat} {σ : Ps} {s s' : mM} (h : RD R T n t σ s) (f : Fr A s s') (h1 : R ∉ A) (h2 : T ∉ A) (h3 : T + 1 ∉ A) : RD R T n t σ s' := ⟨h.1.fr f h2 h3, (f.ri h1).trans h.2.1, h.2.2.fr f h1⟩
section RM
variable {X : am_X} {d : Nat} {s : mM} {hp : am_H} {Q : Option Value → am_H → Prop} {T n w lo hi j : Nat} {t : List Nat} {σ : Ps} {v : Int32}
theorem c51_3 (hF : Fx s) (hTR : T ≠ 3 ∧ T + 1 ≠ 3) (hX : TX T n t s) (hq : ∀ s', Fr [3] s s' → (∀ i, 4 ≤ i → ri s' 3 i = ri s 3 i) → RD 3 T n t (.inl (skp t 0)) s' → Q none (mR s')) : gE X (d + 1) 51 [.ref 3, .ref T] (mR s) Q := by
  refine en51 rfl rfl ?_
  refine g_p t51_0 rfl ?_
  refine g_p t51_1 rfl ?_
  refine r_putq (a := (nI (T + 2))) t51_2 (f3 hF) rfl rfl (m_rq_r hX.2.2.2.2.1) ?_
  refine g_p t51_5 rfl ?_
  refine g_p t51_6 rfl ?_
  refine r_puti t51_7 (f3 hF) rfl rfl ?_
  refine g_p t51_10 rfl ?_
  refine g_p t51_11 rfl ?_
  refine r_puti t51_12 (f3 hF) rfl rfl ?_
  refine g_p t51_15 rfl ?_
  refine r_cv t51_16 (f3 hF) rfl ?_
  have f0 : Fr [3] s (wi (wi (wi s 3 0 (nI (T + 2))) 3 1 (-1)) 3 3 (-1)) := ((Fr.rf.wi (by simp)).wi (by simp)).wi (by simp)
  have hX2 := hX.fr f0 (by simp only [List.mem_singleton]; exact hTR.1) (by simp only [List.mem_singleton]; exact hTR.2)
  refine c53w_3 (m := 0) (by exact hF) (by exact hX2) hTR (by exact rfl) (by exact (show (-1 : Int32) + 1 = nI 0 by decide)) (Nat.zero_le _) (by exact rfl) (fun s16 fr16 rs16 => ?_)
  refine k_0 ?_
  exact v_ret t51_19 (hq s16 (f0.tr fr16.1) (fun i hi => (fr16.2 i (Or.inr hi)).trans ((ri_wi_j (by omega)).trans ((ri_wi_j (by omega)).trans (ri_wi_j (by omega))))) ⟨hX2.fr fr16.1 (by simp only [List.mem_singleton]; exact hTR.1) (by simp only [List.mem_singleton]; exact hTR.2), (fr16.2 0 (Or.inl rfl)).trans rfl, rs16⟩)
theorem c55_3 (hF : Fx s) (hTR : T ≠ 3 ∧ T + 1 ≠ 3) (hD : RD 3 T n t σ s) (hw0 : 0 < w) (hw : w < 2 ^ 31) (hq : ∀ s', FR 3 s s' → RD 3 T n t (psk t w σ) s' → Q (some (.int (bI (decide (psg t σ = w))))) (mR s')) : gE X (d + 1) 55 [.ref 3, .int (nI w)] (mR s) Q := by
  have hlt := psg_lt hD.1 σ
  unfold psk at hq
  by_cases hz : psg t σ = w
  · rw [if_pos hz] at hq
    refine en55 rfl rfl ?_
    refine g_p t55_0 rfl ?_
    refine r_gete t55_1 (f3 hF) rfl rfl (RS_sg hD.2.2) ?_
    refine g_p t55_4 rfl ?_
    refine n_ceq t55_5 (by omega) (by omega) (fun h5 => ?_) (fun h5 => ?_)
    · refine g_p t55_10 rfl ?_
      refine r_cv t55_11 (f3 hF) rfl ?_
      refine c53_3 (by exact hF) (by exact hD.1) hTR (by exact hD.2.1) (by exact hD.2.2) (Or.inl (by omega)) (fun s11 fr11 rs11 => ?_)
      refine k_0 ?_
      refine g_k (n := 1) t55_14 rfl rfl ?_
      exact b_ret t55_15 (by rw [decide_eq_true hz]; rfl) (hq s11 fr11 (hD.up hTR fr11 rs11))
    · exfalso; omega
  · rw [if_neg hz] at hq
    refine en55 rfl rfl ?_
    refine g_p t55_0 rfl ?_
    refine r_gete t55_1 (f3 hF) rfl rfl (RS_sg hD.2.2) ?_
    refine g_p t55_4 rfl ?_
    refine n_ceq t55_5 (by omega) (by omega) (fun h5 => ?_) (fun h5 => ?_)
    · exfalso; omega
    · refine g_k (n := 0) t55_8 rfl rfl ?_
      exact b_ret t55_9 (by rw [decide_eq_false hz]; rfl) (hq s FR.rf hD)
theorem c56_3 (hF : Fx s) (hTR : T ≠ 3 ∧ T + 1 ≠ 3) (hD : RD 3 T n t σ s) (hw0 : 0 < w) (hw : w < 2 ^ 31) (hq : ∀ s', FR 3 s s' → RD 3 T n t (pne t w σ) s' → Q none (mR s')) : gE X (d + 1) 56 [.ref 3, .int (nI w)] (mR s) Q := by
  have hlt := psg_lt hD.1 σ
  unfold pne at hq
  by_cases hz : psg t σ = w
  · rw [if_pos hz] at hq
    refine en56 rfl rfl ?_
    refine g_p t56_0 rfl ?_
    refine r_gete t56_1 (f3 hF) rfl rfl (RS_sg hD.2.2) ?_
    refine g_p t56_4 rfl ?_
    refine n_cne t56_5 (by omega) (by omega) (fun h5 => ?_) (fun h5 => ?_)
    · exfalso; omega
    · refine g_p t56_8 rfl ?_
      refine r_cv t56_9 (f3 hF) rfl ?_
      refine c53_3 (by exact hF) (by exact hD.1) hTR (by exact hD.2.1) (by exact hD.2.2) (Or.inl (by omega)) (fun s9 fr9 rs9 => ?_)
      refine k_0 ?_
      refine g_goto t56_12 ?_
      exact v_ret t56_19 (hq s9 fr9 (hD.up hTR fr9 rs9))
  · rw [if_neg hz] at hq
    refine en56 rfl rfl ?_
    refine g_p t56_0 rfl ?_
    refine r_gete t56_1 (f3 hF) rfl rfl (RS_sg hD.2.2) ?_
    refine g_p t56_4 rfl ?_
    refine n_cne t56_5 (by omega) (by omega) (fun h5 => ?_) (fun h5 => ?_)
    · refine g_p t56_15 rfl ?_
      refine r_cv t56_16 (f3 hF) rfl ?_
      refine c59_3 (by exact hF) (by exact hD.1) hTR (by exact hD.2.1) (by exact hD.2.2) (fun s16 fr16 rs16 => ?_)
      refine k_0 ?_
      exact v_ret t56_19 (hq s16 fr16 (hD.up hTR fr16 rs16))
    · exfalso; omega
theorem c57_3 (hF : Fx s) (hTR : T ≠ 3 ∧ T + 1 ≠ 3) (hD : RD 3 T n t σ s) (hlo : lo ≤ 9) (hhi : hi ≤ 9) (hq : ∀ s', FR 3 s s' → RD 3 T n t (pdg t lo hi σ) s' → Q (some (.int (nI (pdv t lo hi σ)))) (mR s')) : gE X (d + 1) 57 [.ref 3, .int (nI lo), .int (nI hi)] (mR s) Q := by
  have hlt := psg_lt hD.1 σ
  unfold pdv pdg at hq
  rcases Nat.lt_or_ge (psg t σ) 48 with h48 | h48
  · have hneg := pk_sneg (a := psg t σ) (b := 48) (by decide) h48
    rw [if_neg (by omega), if_neg (by omega)] at hq
    refine en57 rfl rfl rfl ?_
    refine g_p t57_0 rfl ?_
    refine r_gete t57_1 (f3 hF) rfl rfl (RS_sg hD.2.2) ?_
    refine g_k (n := 48) t57_4 rfl rfl ?_
    refine g_isub t57_6 ?_
    refine g_isn t57_7 (Nat.le_of_ble_eq_true rfl) (am_s1_3 rfl) ?_
    refine g_p t57_8 rfl ?_
    refine g_p t57_9 rfl ?_
    refine g_clt t57_10 (fun h10 => ?_) (fun h10 => ?_)
    · refine g_p t57_18 rfl ?_
      refine r_cv t57_19 (f3 hF) rfl ?_
      refine c59_3 (by exact hF) (by exact hD.1) hTR (by exact hD.2.1) (by exact hD.2.2) (fun s19 fr19 rs19 => ?_)
      refine k_0 ?_
      refine g_p t57_22 rfl ?_
      exact i_ret t57_23 rfl (hq s19 fr19 (hD.up hTR fr19 rs19))
    · exact absurd (Int32.lt_of_lt_of_le hneg (nI_pos' (by omega))) h10
  · by_cases hz : 48 + lo ≤ psg t σ ∧ psg t σ ≤ 48 + hi
    · rw [if_pos hz, if_pos hz] at hq
      refine en57 rfl rfl rfl ?_
      refine g_p t57_0 rfl ?_
      refine r_gete t57_1 (f3 hF) rfl rfl (RS_sg hD.2.2) ?_
      refine g_k (n := 48) t57_4 rfl rfl ?_
      refine g_subn t57_6 (by omega) ?_
      refine g_isn t57_7 (Nat.le_of_ble_eq_true rfl) (am_s1_3 rfl) ?_
      refine g_p t57_8 rfl ?_
      refine g_p t57_9 rfl ?_
      refine n_clt t57_10 (by omega) (by omega) (fun h10 => ?_) (fun h10 => ?_)
      · exfalso; omega
      · refine g_p t57_13 rfl ?_
        refine g_p t57_14 rfl ?_
        refine n_cle t57_15 (by omega) (by omega) (fun h15 => ?_) (fun h15 => ?_)
        · refine g_p t57_24 rfl ?_
          refine r_cv t57_25 (f3 hF) rfl ?_
          refine c53_3 (by exact hF) (by exact hD.1) hTR (by exact hD.2.1) (by exact hD.2.2) (Or.inl (by omega)) (fun s25 fr25 rs25 => ?_)
          refine k_0 ?_
          refine g_p t57_28 rfl ?_
          exact i_ret t57_29 rfl (hq s25 fr25 (hD.up hTR fr25 rs25))
        · exfalso; omega
    · rw [if_neg hz, if_neg hz] at hq
      refine en57 rfl rfl rfl ?_
      refine g_p t57_0 rfl ?_
      refine r_gete t57_1 (f3 hF) rfl rfl (RS_sg hD.2.2) ?_
      refine g_k (n := 48) t57_4 rfl rfl ?_
      refine g_subn t57_6 (by omega) ?_
      refine g_isn t57_7 (Nat.le_of_ble_eq_true rfl) (am_s1_3 rfl) ?_
      refine g_p t57_8 rfl ?_
      refine g_p t57_9 rfl ?_
      refine n_clt t57_10 (by omega) (by omega) (fun h10 => ?_) (fun h10 => ?_)
      · refine g_p t57_18 rfl ?_
        refine r_cv t57_19 (f3 hF) rfl ?_
        refine c59_3 (by exact hF) (by exact hD.1) hTR (by exact hD.2.1) (by exact hD.2.2) (fun s19 fr19 rs19 => ?_)
        refine k_0 ?_
        refine g_p t57_22 rfl ?_
        exact i_ret t57_23 rfl (hq s19 fr19 (hD.up hTR fr19 rs19))
      · refine g_p t57_13 rfl ?_
        refine g_p t57_14 rfl ?_
        refine n_cle t57_15 (by omega) (by omega) (fun h15 => ?_) (fun h15 => ?_)
        · exfalso; omega
        · refine g_p t57_18 rfl ?_
          refine r_cv t57_19 (f3 hF) rfl ?_
          refine c59_3 (by exact hF) (by exact hD.1) hTR (by exact hD.2.1) (by exact hD.2.2) (fun s19 fr19 rs19 => ?_)
          refine k_0 ?_
          refine g_p t57_22 rfl ?_
          exact i_ret t57_23 rfl (hq s19 fr19 (hD.up hTR fr19 rs19))
theorem c58_3 (hF : Fx s) (hTR : T ≠ 3 ∧ T + 1 ≠ 3) (hD : RD 3 T n t σ s) (hq : ∀ s', FR 3 s s' → RD 3 T n t (plt t σ) s' → Q (some (.int (nI (plv t σ)))) (mR s')) : gE X (d + 1) 58 [.ref 3] (mR s) Q := by
  have hlt := psg_lt hD.1 σ
  unfold plv plt at hq
  rcases Nat.lt_or_ge (psg t σ) 97 with h48 | h48
  · have hneg := pk_sneg (a := psg t σ) (b := 97) (by decide) h48
    rw [if_neg (by omega), if_neg (by omega)] at hq
    refine en58 rfl ?_
    refine g_p t58_0 rfl ?_
    refine r_gete t58_1 (f3 hF) rfl rfl (RS_sg hD.2.2) ?_
    refine g_k (n := 97) t58_4 rfl rfl ?_
    refine g_isub t58_6 ?_
    refine g_isn t58_7 (Nat.le_of_ble_eq_true rfl) (am_s1_1 rfl) ?_
    refine g_p t58_8 rfl ?_
    refine g_cs t58_9 rfl rfl rfl ?_
    refine c132 ?_
    refine k_v ?_ rfl
    refine b_ne t58_12 (fun h12 => ?_) (fun h12 => ?_)
    · exact no_b h12 (inN_f1 hneg)
    · refine g_p t58_15 rfl ?_
      refine r_cv t58_16 (f3 hF) rfl ?_
      refine c59_3 (by exact hF) (by exact hD.1) hTR (by exact hD.2.1) (by exact hD.2.2) (fun s16 fr16 rs16 => ?_)
      refine k_0 ?_
      refine g_k (n := 0) t58_19 rfl rfl ?_
      exact i_ret t58_20 rfl (hq s16 fr16 (hD.up hTR fr16 rs16))
  · by_cases hz : 97 ≤ psg t σ ∧ psg t σ ≤ 104
    · rw [if_pos hz, if_pos hz] at hq
      refine en58 rfl ?_
      refine g_p t58_0 rfl ?_
      refine r_gete t58_1 (f3 hF) rfl rfl (RS_sg hD.2.2) ?_
      refine g_k (n := 97) t58_4 rfl rfl ?_
      refine g_subn t58_6 (by omega) ?_
      refine g_isn t58_7 (Nat.le_of_ble_eq_true rfl) (am_s1_1 rfl) ?_
      refine g_p t58_8 rfl ?_
      refine g_cs t58_9 rfl rfl rfl ?_
      refine c132 ?_
      refine k_v ?_ rfl
      refine b_ne t58_12 (fun h12 => ?_) (fun h12 => ?_)
      · refine g_p t58_21 rfl ?_
        refine r_cv t58_22 (f3 hF) rfl ?_
        refine c53_3 (by exact hF) (by exact hD.1) hTR (by exact hD.2.1) (by exact hD.2.2) (Or.inl (by omega)) (fun s22 fr22 rs22 => ?_)
        refine k_0 ?_
        refine g_p t58_25 rfl ?_
        exact i_ret t58_26 rfl (hq s22 fr22 (hD.up hTR fr22 rs22))
      · exact no_b (inN_n (show psg t σ - 97 < 8 by omega) (by decide)) h12
    · rw [if_neg hz, if_neg hz] at hq
      refine en58 rfl ?_
      refine g_p t58_0 rfl ?_
      refine r_gete t58_1 (f3 hF) rfl rfl (RS_sg hD.2.2) ?_
      refine g_k (n := 97) t58_4 rfl rfl ?_
      refine g_subn t58_6 (by omega) ?_
      refine g_isn t58_7 (Nat.le_of_ble_eq_true rfl) (am_s1_1 rfl) ?_
      refine g_p t58_8 rfl ?_
      refine g_cs t58_9 rfl rfl rfl ?_
      refine c132 ?_
      refine k_v ?_ rfl
      refine b_ne t58_12 (fun h12 => ?_) (fun h12 => ?_)
      · exact no_b h12 (inN_f2 (nI_le (show 8 ≤ psg t σ - 97 by omega) (by omega)))
      · refine g_p t58_15 rfl ?_
        refine r_cv t58_16 (f3 hF) rfl ?_
        refine c59_3 (by exact hF) (by exact hD.1) hTR (by exact hD.2.1) (by exact hD.2.2) (fun s16 fr16 rs16 => ?_)
        refine k_0 ?_
        refine g_k (n := 0) t58_19 rfl rfl ?_
        exact i_ret t58_20 rfl (hq s16 fr16 (hD.up hTR fr16 rs16))
theorem c59r_3 (hF : Fx s) (hTR : T ≠ 3 ∧ T + 1 ≠ 3) (hD : RD 3 T n t σ s) (hq : ∀ s', FR 3 s s' → RD 3 T n t (pre σ) s' → Q none (mR s')) : gE X d 59 [.ref 3] (mR s) Q := c59_3 hF hD.1 hTR hD.2.1 hD.2.2 (fun s' f r => hq s' f (hD.up hTR f r))
theorem c53r_3 (hF : Fx s) (hTR : T ≠ 3 ∧ T + 1 ≠ 3) (hD : RD 3 T n t σ s) (hz : psg t σ ≠ 0 ∨ ∃ f, σ = .inr f) (hq : ∀ s', FR 3 s s' → RD 3 T n t (pst t σ) s' → Q none (mR s')) : gE X d 53 [.ref 3] (mR s) Q := c53_3 hF hD.1 hTR hD.2.1 hD.2.2 hz (fun s' f r => hq s' f (hD.up hTR f r))
theorem c60_3 (hF : Fx s) (hTR : T ≠ 3 ∧ T + 1 ≠ 3) (hD : RD 3 T n t σ s) (hq : ∀ s', FR 3 s s' → RD 3 T n t (pfi t σ) s' → Q (some (.int (pfv (pfi t σ)))) (mR s')) : gE X (d + 1) 60 [.ref 3] (mR s) Q := by
  have hlt := psg_lt hD.1 σ
  have hlen := hD.1.2.2.2.1
  unfold pfi at hq
  by_cases hz : psg t σ = 0
  · rw [if_pos hz] at hq
    have e3 : ri s 3 3 = pfv σ := by
      cases σ with
      | inl j => exact hD.2.2.2.2.1
      | inr f => exact hD.2.2.2.1
    refine en60 rfl ?_
    refine g_p t60_0 rfl ?_
    refine r_gete t60_1 (f3 hF) rfl rfl (RS_sg hD.2.2) ?_
    refine n_eq t60_4 (by omega) (fun h4 => ?_) (fun h4 => ?_)
    · refine g_p t60_11 rfl ?_
      refine r_gete t60_12 (f3 hF) rfl rfl e3 ?_
      exact i_ret t60_15 rfl (hq s FR.rf hD)
    · exact absurd hz h4
  · rw [if_neg hz] at hq
    refine en60 rfl ?_
    refine g_p t60_0 rfl ?_
    refine r_gete t60_1 (f3 hF) rfl rfl (RS_sg hD.2.2) ?_
    refine n_eq t60_4 (by omega) (fun h4 => ?_) (fun h4 => ?_)
    · first
        | exact absurd h4 hz
        | (have e3 : ri s8 3 3 = pfv (pre σ) := by
             cases σ with
             | inl j => exact rs8.2.1
             | inr f => exact rs8.2.1
           have hF := hF.fr fr8.1
           refine g_p t60_11 rfl ?_
           refine r_gete t60_12 (f3 hF) rfl rfl e3 ?_
           exact i_ret t60_15 rfl (hq s8 fr8 (hD.up hTR fr8 rs8)))
    · refine g_p t60_7 rfl ?_
      refine r_cv t60_8 (f3 hF) rfl ?_
      refine c59_3 (by exact hF) (by exact hD.1) hTR (by exact hD.2.1) (by exact hD.2.2) (fun s8 fr8 rs8 => ?_)
      refine k_0 ?_
      first
        | exact absurd h4 hz
        | (have e3 : ri s8 3 3 = pfv (pre σ) := by
             cases σ with
             | inl j => exact rs8.2.1
             | inr f => exact rs8.2.1
           have hF := hF.fr fr8.1
           refine g_p t60_11 rfl ?_
           refine r_gete t60_12 (f3 hF) rfl rfl e3 ?_
           exact i_ret t60_15 rfl (hq s8 fr8 (hD.up hTR fr8 rs8)))
theorem c51_4 (hF : Fx s) (hTR : T ≠ 4 ∧ T + 1 ≠ 4) (hX : TX T n t s) (hq : ∀ s', Fr [4] s s' → (∀ i, 4 ≤ i → ri s' 4 i = ri s 4 i) → RD 4 T n t (.inl (skp t 0)) s' → Q none (mR s')) : gE X (d + 1) 51 [.ref 4, .ref T] (mR s) Q := by
  refine en51 rfl rfl ?_
  refine g_p t51_0 rfl ?_
  refine g_p t51_1 rfl ?_
  refine r_putq (a := (nI (T + 2))) t51_2 (f4 hF) rfl rfl (m_rq_r hX.2.2.2.2.1) ?_
  refine g_p t51_5 rfl ?_
  refine g_p t51_6 rfl ?_
  refine r_puti t51_7 (f4 hF) rfl rfl ?_
  refine g_p t51_10 rfl ?_
  refine g_p t51_11 rfl ?_
  refine r_puti t51_12 (f4 hF) rfl rfl ?_
  refine g_p t51_15 rfl ?_
  refine r_cv t51_16 (f4 hF) rfl ?_
  have f0 : Fr [4] s (wi (wi (wi s 4 0 (nI (T + 2))) 4 1 (-1)) 4 3 (-1)) := ((Fr.rf.wi (by simp)).wi (by simp)).wi (by simp)
  have hX2 := hX.fr f0 (by simp only [List.mem_singleton]; exact hTR.1) (by simp only [List.mem_singleton]; exact hTR.2)
  refine c53w_4 (m := 0) (by exact hF) (by exact hX2) hTR (by exact rfl) (by exact (show (-1 : Int32) + 1 = nI 0 by decide)) (Nat.zero_le _) (by exact rfl) (fun s16 fr16 rs16 => ?_)
  refine k_0 ?_
  exact v_ret t51_19 (hq s16 (f0.tr fr16.1) (fun i hi => (fr16.2 i (Or.inr hi)).trans ((ri_wi_j (by omega)).trans ((ri_wi_j (by omega)).trans (ri_wi_j (by omega))))) ⟨hX2.fr fr16.1 (by simp only [List.mem_singleton]; exact hTR.1) (by simp only [List.mem_singleton]; exact hTR.2), (fr16.2 0 (Or.inl rfl)).trans rfl, rs16⟩)
theorem c55_4 (hF : Fx s) (hTR : T ≠ 4 ∧ T + 1 ≠ 4) (hD : RD 4 T n t σ s) (hw0 : 0 < w) (hw : w < 2 ^ 31) (hq : ∀ s', FR 4 s s' → RD 4 T n t (psk t w σ) s' → Q (some (.int (bI (decide (psg t σ = w))))) (mR s')) : gE X (d + 1) 55 [.ref 4, .int (nI w)] (mR s) Q := by
  have hlt := psg_lt hD.1 σ
  unfold psk at hq
  by_cases hz : psg t σ = w
  · rw [if_pos hz] at hq
    refine en55 rfl rfl ?_
    refine g_p t55_0 rfl ?_
    refine r_gete t55_1 (f4 hF) rfl rfl (RS_sg hD.2.2) ?_
    refine g_p t55_4 rfl ?_
    refine n_ceq t55_5 (by omega) (by omega) (fun h5 => ?_) (fun h5 => ?_)
    · refine g_p t55_10 rfl ?_
      refine r_cv t55_11 (f4 hF) rfl ?_
      refine c53_4 (by exact hF) (by exact hD.1) hTR (by exact hD.2.1) (by exact hD.2.2) (Or.inl (by omega)) (fun s11 fr11 rs11 => ?_)
      refine k_0 ?_
      refine g_k (n := 1) t55_14 rfl rfl ?_
      exact b_ret t55_15 (by rw [decide_eq_true hz]; rfl) (hq s11 fr11 (hD.up hTR fr11 rs11))
    · exfalso; omega
  · rw [if_neg hz] at hq
    refine en55 rfl rfl ?_
    refine g_p t55_0 rfl ?_
    refine r_gete t55_1 (f4 hF) rfl rfl (RS_sg hD.2.2) ?_
    refine g_p t55_4 rfl ?_
    refine n_ceq t55_5 (by omega) (by omega) (fun h5 => ?_) (fun h5 => ?_)
    · exfalso; omega
    · refine g_k (n := 0) t55_8 rfl rfl ?_
      exact b_ret t55_9 (by rw [decide_eq_false hz]; rfl) (hq s FR.rf hD)
theorem c56_4 (hF : Fx s) (hTR : T ≠ 4 ∧ T + 1 ≠ 4) (hD : RD 4 T n t σ s) (hw0 : 0 < w) (hw : w < 2 ^ 31) (hq : ∀ s', FR 4 s s' → RD 4 T n t (pne t w σ) s' → Q none (mR s')) : gE X (d + 1) 56 [.ref 4, .int (nI w)] (mR s) Q := by
  have hlt := psg_lt hD.1 σ
  unfold pne at hq
  by_cases hz : psg t σ = w
  · rw [if_pos hz] at hq
    refine en56 rfl rfl ?_
    refine g_p t56_0 rfl ?_
    refine r_gete t56_1 (f4 hF) rfl rfl (RS_sg hD.2.2) ?_
    refine g_p t56_4 rfl ?_
    refine n_cne t56_5 (by omega) (by omega) (fun h5 => ?_) (fun h5 => ?_)
    · exfalso; omega
    · refine g_p t56_8 rfl ?_
      refine r_cv t56_9 (f4 hF) rfl ?_
      refine c53_4 (by exact hF) (by exact hD.1) hTR (by exact hD.2.1) (by exact hD.2.2) (Or.inl (by omega)) (fun s9 fr9 rs9 => ?_)
      refine k_0 ?_
      refine g_goto t56_12 ?_
      exact v_ret t56_19 (hq s9 fr9 (hD.up hTR fr9 rs9))
  · rw [if_neg hz] at hq
    refine en56 rfl rfl ?_
    refine g_p t56_0 rfl ?_
    refine r_gete t56_1 (f4 hF) rfl rfl (RS_sg hD.2.2) ?_
    refine g_p t56_4 rfl ?_
    refine n_cne t56_5 (by omega) (by omega) (fun h5 => ?_) (fun h5 => ?_)
    · refine g_p t56_15 rfl ?_
      refine r_cv t56_16 (f4 hF) rfl ?_
      refine c59_4 (by exact hF) (by exact hD.1) hTR (by exact hD.2.1) (by exact hD.2.2) (fun s16 fr16 rs16 => ?_)
      refine k_0 ?_
      exact v_ret t56_19 (hq s16 fr16 (hD.up hTR fr16 rs16))
    · exfalso; omega
theorem c57_4 (hF : Fx s) (hTR : T ≠ 4 ∧ T + 1 ≠ 4) (hD : RD 4 T n t σ s) (hlo : lo ≤ 9) (hhi : hi ≤ 9) (hq : ∀ s', FR 4 s s' → RD 4 T n t (pdg t lo hi σ) s' → Q (some (.int (nI (pdv t lo hi σ)))) (mR s')) : gE X (d + 1) 57 [.ref 4, .int (nI lo), .int (nI hi)] (mR s) Q := by
  have hlt := psg_lt hD.1 σ
  unfold pdv pdg at hq
  rcases Nat.lt_or_ge (psg t σ) 48 with h48 | h48
  · have hneg := pk_sneg (a := psg t σ) (b := 48) (by decide) h48
    rw [if_neg (by omega), if_neg (by omega)] at hq
    refine en57 rfl rfl rfl ?_
    refine g_p t57_0 rfl ?_
    refine r_gete t57_1 (f4 hF) rfl rfl (RS_sg hD.2.2) ?_
    refine g_k (n := 48) t57_4 rfl rfl ?_
    refine g_isub t57_6 ?_
    refine g_isn t57_7 (Nat.le_of_ble_eq_true rfl) (am_s1_3 rfl) ?_
    refine g_p t57_8 rfl ?_
    refine g_p t57_9 rfl ?_
    refine g_clt t57_10 (fun h10 => ?_) (fun h10 => ?_)
    · refine g_p t57_18 rfl ?_
      refine r_cv t57_19 (f4 hF) rfl ?_
      refine c59_4 (by exact hF) (by exact hD.1) hTR (by exact hD.2.1) (by exact hD.2.2) (fun s19 fr19 rs19 => ?_)
      refine k_0 ?_
      refine g_p t57_22 rfl ?_
      exact i_ret t57_23 rfl (hq s19 fr19 (hD.up hTR fr19 rs19))
    · exact absurd (Int32.lt_of_lt_of_le hneg (nI_pos' (by omega))) h10
  · by_cases hz : 48 + lo ≤ psg t σ ∧ psg t σ ≤ 48 + hi
    · rw [if_pos hz, if_pos hz] at hq
      refine en57 rfl rfl rfl ?_
      refine g_p t57_0 rfl ?_
      refine r_gete t57_1 (f4 hF) rfl rfl (RS_sg hD.2.2) ?_
      refine g_k (n := 48) t57_4 rfl rfl ?_
      refine g_subn t57_6 (by omega) ?_
      refine g_isn t57_7 (Nat.le_of_ble_eq_true rfl) (am_s1_3 rfl) ?_
      refine g_p t57_8 rfl ?_
      refine g_p t57_9 rfl ?_
      refine n_clt t57_10 (by omega) (by omega) (fun h10 => ?_) (fun h10 => ?_)
      · exfalso; omega
      · refine g_p t57_13 rfl ?_
        refine g_p t57_14 rfl ?_
        refine n_cle t57_15 (by omega) (by omega) (fun h15 => ?_) (fun h15 => ?_)
        · refine g_p t57_24 rfl ?_
          refine r_cv t57_25 (f4 hF) rfl ?_
          refine c53_4 (by exact hF) (by exact hD.1) hTR (by exact hD.2.1) (by exact hD.2.2) (Or.inl (by omega)) (fun s25 fr25 rs25 => ?_)
          refine k_0 ?_
          refine g_p t57_28 rfl ?_
          exact i_ret t57_29 rfl (hq s25 fr25 (hD.up hTR fr25 rs25))
        · exfalso; omega
    · rw [if_neg hz, if_neg hz] at hq
      refine en57 rfl rfl rfl ?_
      refine g_p t57_0 rfl ?_
      refine r_gete t57_1 (f4 hF) rfl rfl (RS_sg hD.2.2) ?_
      refine g_k (n := 48) t57_4 rfl rfl ?_
      refine g_subn t57_6 (by omega) ?_
      refine g_isn t57_7 (Nat.le_of_ble_eq_true rfl) (am_s1_3 rfl) ?_
      refine g_p t57_8 rfl ?_
      refine g_p t57_9 rfl ?_
      refine n_clt t57_10 (by omega) (by omega) (fun h10 => ?_) (fun h10 => ?_)
      · refine g_p t57_18 rfl ?_
        refine r_cv t57_19 (f4 hF) rfl ?_
        refine c59_4 (by exact hF) (by exact hD.1) hTR (by exact hD.2.1) (by exact hD.2.2) (fun s19 fr19 rs19 => ?_)
        refine k_0 ?_
        refine g_p t57_22 rfl ?_
        exact i_ret t57_23 rfl (hq s19 fr19 (hD.up hTR fr19 rs19))
      · refine g_p t57_13 rfl ?_
        refine g_p t57_14 rfl ?_
        refine n_cle t57_15 (by omega) (by omega) (fun h15 => ?_) (fun h15 => ?_)
        · exfalso; omega
        · refine g_p t57_18 rfl ?_
          refine r_cv t57_19 (f4 hF) rfl ?_
          refine c59_4 (by exact hF) (by exact hD.1) hTR (by exact hD.2.1) (by exact hD.2.2) (fun s19 fr19 rs19 => ?_)
          refine k_0 ?_
          refine g_p t57_22 rfl ?_
          exact i_ret t57_23 rfl (hq s19 fr19 (hD.up hTR fr19 rs19))
theorem c58_4 (hF : Fx s) (hTR : T ≠ 4 ∧ T + 1 ≠ 4) (hD : RD 4 T n t σ s) (hq : ∀ s', FR 4 s s' → RD 4 T n t (plt t σ) s' → Q (some (.int (nI (plv t σ)))) (mR s')) : gE X (d + 1) 58 [.ref 4] (mR s) Q := by
  have hlt := psg_lt hD.1 σ
  unfold plv plt at hq
  rcases Nat.lt_or_ge (psg t σ) 97 with h48 | h48
  · have hneg := pk_sneg (a := psg t σ) (b := 97) (by decide) h48
    rw [if_neg (by omega), if_neg (by omega)] at hq
    refine en58 rfl ?_
    refine g_p t58_0 rfl ?_
    refine r_gete t58_1 (f4 hF) rfl rfl (RS_sg hD.2.2) ?_
    refine g_k (n := 97) t58_4 rfl rfl ?_
    refine g_isub t58_6 ?_
    refine g_isn t58_7 (Nat.le_of_ble_eq_true rfl) (am_s1_1 rfl) ?_
    refine g_p t58_8 rfl ?_
    refine g_cs t58_9 rfl rfl rfl ?_
    refine c132 ?_
    refine k_v ?_ rfl
    refine b_ne t58_12 (fun h12 => ?_) (fun h12 => ?_)
    · exact no_b h12 (inN_f1 hneg)
    · refine g_p t58_15 rfl ?_
      refine r_cv t58_16 (f4 hF) rfl ?_
      refine c59_4 (by exact hF) (by exact hD.1) hTR (by exact hD.2.1) (by exact hD.2.2) (fun s16 fr16 rs16 => ?_)
      refine k_0 ?_
      refine g_k (n := 0) t58_19 rfl rfl ?_
      exact i_ret t58_20 rfl (hq s16 fr16 (hD.up hTR fr16 rs16))
  · by_cases hz : 97 ≤ psg t σ ∧ psg t σ ≤ 104
    · rw [if_pos hz, if_pos hz] at hq
      refine en58 rfl ?_
      refine g_p t58_0 rfl ?_
      refine r_gete t58_1 (f4 hF) rfl rfl (RS_sg hD.2.2) ?_
      refine g_k (n := 97) t58_4 rfl rfl ?_
      refine g_subn t58_6 (by omega) ?_
      refine g_isn t58_7 (Nat.le_of_ble_eq_true rfl) (am_s1_1 rfl) ?_
      refine g_p t58_8 rfl ?_
      refine g_cs t58_9 rfl rfl rfl ?_
      refine c132 ?_
      refine k_v ?_ rfl
      refine b_ne t58_12 (fun h12 => ?_) (fun h12 => ?_)
      · refine g_p t58_21 rfl ?_
        refine r_cv t58_22 (f4 hF) rfl ?_
        refine c53_4 (by exact hF) (by exact hD.1) hTR (by exact hD.2.1) (by exact hD.2.2) (Or.inl (by omega)) (fun s22 fr22 rs22 => ?_)
        refine k_0 ?_
        refine g_p t58_25 rfl ?_
        exact i_ret t58_26 rfl (hq s22 fr22 (hD.up hTR fr22 rs22))
      · exact no_b (inN_n (show psg t σ - 97 < 8 by omega) (by decide)) h12
    · rw [if_neg hz, if_neg hz] at hq
      refine en58 rfl ?_
      refine g_p t58_0 rfl ?_
      refine r_gete t58_1 (f4 hF) rfl rfl (RS_sg hD.2.2) ?_
      refine g_k (n := 97) t58_4 rfl rfl ?_
      refine g_subn t58_6 (by omega) ?_
      refine g_isn t58_7 (Nat.le_of_ble_eq_true rfl) (am_s1_1 rfl) ?_
      refine g_p t58_8 rfl ?_
      refine g_cs t58_9 rfl rfl rfl ?_
      refine c132 ?_
      refine k_v ?_ rfl
      refine b_ne t58_12 (fun h12 => ?_) (fun h12 => ?_)
      · exact no_b h12 (inN_f2 (nI_le (show 8 ≤ psg t σ - 97 by omega) (by omega)))
      · refine g_p t58_15 rfl ?_
        refine r_cv t58_16 (f4 hF) rfl ?_
        refine c59_4 (by exact hF) (by exact hD.1) hTR (by exact hD.2.1) (by exact hD.2.2) (fun s16 fr16 rs16 => ?_)
        refine k_0 ?_
        refine g_k (n := 0) t58_19 rfl rfl ?_
        exact i_ret t58_20 rfl (hq s16 fr16 (hD.up hTR fr16 rs16))
theorem c59r_4 (hF : Fx s) (hTR : T ≠ 4 ∧ T + 1 ≠ 4) (hD : RD 4 T n t σ s) (hq : ∀ s', FR 4 s s' → RD 4 T n t (pre σ) s' → Q none (mR s')) : gE X d 59 [.ref 4] (mR s) Q := c59_4 hF hD.1 hTR hD.2.1 hD.2.2 (fun s' f r => hq s' f (hD.up hTR f r))
theorem c53r_4 (hF : Fx s) (hTR : T ≠ 4 ∧ T + 1 ≠ 4) (hD : RD 4 T n t σ s) (hz : psg t σ ≠ 0 ∨ ∃ f, σ = .inr f) (hq : ∀ s', FR 4 s s' → RD 4 T n t (pst t σ) s' → Q none (mR s')) : gE X d 53 [.ref 4] (mR s) Q := c53_4 hF hD.1 hTR hD.2.1 hD.2.2 hz (fun s' f r => hq s' f (hD.up hTR f r))
theorem c60_4 (hF : Fx s) (hTR : T ≠ 4 ∧ T + 1 ≠ 4) (hD : RD 4 T n t σ s) (hq : ∀ s', FR 4 s s' → RD 4 T n t (pfi t σ) s' → Q (some (.int (pfv (pfi t σ)))) (mR s')) : gE X (d + 1) 60 [.ref 4] (mR s) Q := by
  have hlt := psg_lt hD.1 σ
  have hlen := hD.1.2.2.2.1
  unfold pfi at hq
  by_cases hz : psg t σ = 0
  · rw [if_pos hz] at hq
    have e3 : ri s 4 3 = pfv σ := by
      cases σ with
      | inl j => exact hD.2.2.2.2.1
      | inr f => exact hD.2.2.2.1
    refine en60 rfl ?_
    refine g_p t60_0 rfl ?_
    refine r_gete t60_1 (f4 hF) rfl rfl (RS_sg hD.2.2) ?_
    refine n_eq t60_4 (by omega) (fun h4 => ?_) (fun h4 => ?_)
    · refine g_p t60_11 rfl ?_
      refine r_gete t60_12 (f4 hF) rfl rfl e3 ?_
      exact i_ret t60_15 rfl (hq s FR.rf hD)
    · exact absurd hz h4
  · rw [if_neg hz] at hq
    refine en60 rfl ?_
    refine g_p t60_0 rfl ?_
    refine r_gete t60_1 (f4 hF) rfl rfl (RS_sg hD.2.2) ?_
    refine n_eq t60_4 (by omega) (fun h4 => ?_) (fun h4 => ?_)
    · first
        | exact absurd h4 hz
        | (have e3 : ri s8 4 3 = pfv (pre σ) := by
             cases σ with
             | inl j => exact rs8.2.1
             | inr f => exact rs8.2.1
           have hF := hF.fr fr8.1
           refine g_p t60_11 rfl ?_
           refine r_gete t60_12 (f4 hF) rfl rfl e3 ?_
           exact i_ret t60_15 rfl (hq s8 fr8 (hD.up hTR fr8 rs8)))
    · refine g_p t60_7 rfl ?_
      refine r_cv t60_8 (f4 hF) rfl ?_
      refine c59_4 (by exact hF) (by exact hD.1) hTR (by exact hD.2.1) (by exact hD.2.2) (fun s8 fr8 rs8 => ?_)
      refine k_0 ?_
      first
        | exact absurd h4 hz
        | (have e3 : ri s8 4 3 = pfv (pre σ) := by
             cases σ with
             | inl j => exact rs8.2.1
             | inr f => exact rs8.2.1
           have hF := hF.fr fr8.1
           refine g_p t60_11 rfl ?_
           refine r_gete t60_12 (f4 hF) rfl rfl e3 ?_
           exact i_ret t60_15 rfl (hq s8 fr8 (hD.up hTR fr8 rs8)))
theorem c51_12 (hF : Fx s) (hTR : T ≠ 12 ∧ T + 1 ≠ 12) (hX : TX T n t s) (hq : ∀ s', Fr [12] s s' → (∀ i, 4 ≤ i → ri s' 12 i = ri s 12 i) → RD 12 T n t (.inl (skp t 0)) s' → Q none (mR s')) : gE X (d + 1) 51 [.ref 12, .ref T] (mR s) Q := by
  refine en51 rfl rfl ?_
  refine g_p t51_0 rfl ?_
  refine g_p t51_1 rfl ?_
  refine r_putq (a := (nI (T + 2))) t51_2 (f12 hF) rfl rfl (m_rq_r hX.2.2.2.2.1) ?_
  refine g_p t51_5 rfl ?_
  refine g_p t51_6 rfl ?_
  refine r_puti t51_7 (f12 hF) rfl rfl ?_
  refine g_p t51_10 rfl ?_
  refine g_p t51_11 rfl ?_
  refine r_puti t51_12 (f12 hF) rfl rfl ?_
  refine g_p t51_15 rfl ?_
  refine r_cv t51_16 (f12 hF) rfl ?_
  have f0 : Fr [12] s (wi (wi (wi s 12 0 (nI (T + 2))) 12 1 (-1)) 12 3 (-1)) := ((Fr.rf.wi (by simp)).wi (by simp)).wi (by simp)
  have hX2 := hX.fr f0 (by simp only [List.mem_singleton]; exact hTR.1) (by simp only [List.mem_singleton]; exact hTR.2)
  refine c53w_12 (m := 0) (by exact hF) (by exact hX2) hTR (by exact rfl) (by exact (show (-1 : Int32) + 1 = nI 0 by decide)) (Nat.zero_le _) (by exact rfl) (fun s16 fr16 rs16 => ?_)
  refine k_0 ?_
  exact v_ret t51_19 (hq s16 (f0.tr fr16.1) (fun i hi => (fr16.2 i (Or.inr hi)).trans ((ri_wi_j (by omega)).trans ((ri_wi_j (by omega)).trans (ri_wi_j (by omega))))) ⟨hX2.fr fr16.1 (by simp only [List.mem_singleton]; exact hTR.1) (by simp only [List.mem_singleton]; exact hTR.2), (fr16.2 0 (Or.inl rfl)).trans rfl, rs16⟩)
theorem c55_12 (hF : Fx s) (hTR : T ≠ 12 ∧ T + 1 ≠ 12) (hD : RD 12 T n t σ s) (hw0 : 0 < w) (hw : w < 2 ^ 31) (hq : ∀ s', FR 12 s s' → RD 12 T n t (psk t w σ) s' → Q (some (.int (bI (decide (psg t σ = w))))) (mR s')) : gE X (d + 1) 55 [.ref 12, .int (nI w)] (mR s) Q := by
  have hlt := psg_lt hD.1 σ
  unfold psk at hq
  by_cases hz : psg t σ = w
  · rw [if_pos hz] at hq
    refine en55 rfl rfl ?_
    refine g_p t55_0 rfl ?_
    refine r_gete t55_1 (f12 hF) rfl rfl (RS_sg hD.2.2) ?_
    refine g_p t55_4 rfl ?_
    refine n_ceq t55_5 (by omega) (by omega) (fun h5 => ?_) (fun h5 => ?_)
    · refine g_p t55_10 rfl ?_
      refine r_cv t55_11 (f12 hF) rfl ?_
      refine c53_12 (by exact hF) (by exact hD.1) hTR (by exact hD.2.1) (by exact hD.2.2) (Or.inl (by omega)) (fun s11 fr11 rs11 => ?_)
      refine k_0 ?_
      refine g_k (n := 1) t55_14 rfl rfl ?_
      exact b_ret t55_15 (by rw [decide_eq_true hz]; rfl) (hq s11 fr11 (hD.up hTR fr11 rs11))
    · exfalso; omega
  · rw [if_neg hz] at hq
    refine en55 rfl rfl ?_
    refine g_p t55_0 rfl ?_
    refine r_gete t55_1 (f12 hF) rfl rfl (RS_sg hD.2.2) ?_
    refine g_p t55_4 rfl ?_
    refine n_ceq t55_5 (by omega) (by omega) (fun h5 => ?_) (fun h5 => ?_)
    · exfalso; omega
    · refine g_k (n := 0) t55_8 rfl rfl ?_
      exact b_ret t55_9 (by rw [decide_eq_false hz]; rfl) (hq s FR.rf hD)
theorem c56_12 (hF : Fx s) (hTR : T ≠ 12 ∧ T + 1 ≠ 12) (hD : RD 12 T n t σ s) (hw0 : 0 < w) (hw : w < 2 ^ 31) (hq : ∀ s', FR 12 s s' → RD 12 T n t (pne t w σ) s' → Q none (mR s')) : gE X (d + 1) 56 [.ref 12, .int (nI w)] (mR s) Q := by
  have hlt := psg_lt hD.1 σ
  unfold pne at hq
  by_cases hz : psg t σ = w
  · rw [if_pos hz] at hq
    refine en56 rfl rfl ?_
    refine g_p t56_0 rfl ?_
    refine r_gete t56_1 (f12 hF) rfl rfl (RS_sg hD.2.2) ?_
    refine g_p t56_4 rfl ?_
    refine n_cne t56_5 (by omega) (by omega) (fun h5 => ?_) (fun h5 => ?_)
    · exfalso; omega
    · refine g_p t56_8 rfl ?_
      refine r_cv t56_9 (f12 hF) rfl ?_
      refine c53_12 (by exact hF) (by exact hD.1) hTR (by exact hD.2.1) (by exact hD.2.2) (Or.inl (by omega)) (fun s9 fr9 rs9 => ?_)
      refine k_0 ?_
      refine g_goto t56_12 ?_
      exact v_ret t56_19 (hq s9 fr9 (hD.up hTR fr9 rs9))
  · rw [if_neg hz] at hq
    refine en56 rfl rfl ?_
    refine g_p t56_0 rfl ?_
    refine r_gete t56_1 (f12 hF) rfl rfl (RS_sg hD.2.2) ?_
    refine g_p t56_4 rfl ?_
    refine n_cne t56_5 (by omega) (by omega) (fun h5 => ?_) (fun h5 => ?_)
    · refine g_p t56_15 rfl ?_
      refine r_cv t56_16 (f12 hF) rfl ?_
      refine c59_12 (by exact hF) (by exact hD.1) hTR (by exact hD.2.1) (by exact hD.2.2) (fun s16 fr16 rs16 => ?_)
      refine k_0 ?_
      exact v_ret t56_19 (hq s16 fr16 (hD.up hTR fr16 rs16))
    · exfalso; omega
theorem c57_12 (hF : Fx s) (hTR : T ≠ 12 ∧ T + 1 ≠ 12) (hD : RD 12 T n t σ s) (hlo : lo ≤ 9) (hhi : hi ≤ 9) (hq : ∀ s', FR 12 s s' → RD 12 T n t (pdg t lo hi σ) s' → Q (some (.int (nI (pdv t lo hi σ)))) (mR s')) : gE X (d + 1) 57 [.ref 12, .int (nI lo), .int (nI hi)] (mR s) Q := by
  have hlt := psg_lt hD.1 σ
  unfold pdv pdg at hq
  rcases Nat.lt_or_ge (psg t σ) 48 with h48 | h48
  · have hneg := pk_sneg (a := psg t σ) (b := 48) (by decide) h48
    rw [if_neg (by omega), if_neg (by omega)] at hq
    refine en57 rfl rfl rfl ?_
    refine g_p t57_0 rfl ?_
    refine r_gete t57_1 (f12 hF) rfl rfl (RS_sg hD.2.2) ?_
    refine g_k (n := 48) t57_4 rfl rfl ?_
    refine g_isub t57_6 ?_
    refine g_isn t57_7 (Nat.le_of_ble_eq_true rfl) (am_s1_3 rfl) ?_
    refine g_p t57_8 rfl ?_
    refine g_p t57_9 rfl ?_
    refine g_clt t57_10 (fun h10 => ?_) (fun h10 => ?_)
    · refine g_p t57_18 rfl ?_
      refine r_cv t57_19 (f12 hF) rfl ?_
      refine c59_12 (by exact hF) (by exact hD.1) hTR (by exact hD.2.1) (by exact hD.2.2) (fun s19 fr19 rs19 => ?_)
      refine k_0 ?_
      refine g_p t57_22 rfl ?_
      exact i_ret t57_23 rfl (hq s19 fr19 (hD.up hTR fr19 rs19))
    · exact absurd (Int32.lt_of_lt_of_le hneg (nI_pos' (by omega))) h10
  · by_cases hz : 48 + lo ≤ psg t σ ∧ psg t σ ≤ 48 + hi
    · rw [if_pos hz, if_pos hz] at hq
      refine en57 rfl rfl rfl ?_
      refine g_p t57_0 rfl ?_
      refine r_gete t57_1 (f12 hF) rfl rfl (RS_sg hD.2.2) ?_
      refine g_k (n := 48) t57_4 rfl rfl ?_
      refine g_subn t57_6 (by omega) ?_
      refine g_isn t57_7 (Nat.le_of_ble_eq_true rfl) (am_s1_3 rfl) ?_
      refine g_p t57_8 rfl ?_
      refine g_p t57_9 rfl ?_
      refine n_clt t57_10 (by omega) (by omega) (fun h10 => ?_) (fun h10 => ?_)
      · exfalso; omega
      · refine g_p t57_13 rfl ?_
        refine g_p t57_14 rfl ?_
        refine n_cle t57_15 (by omega) (by omega) (fun h15 => ?_) (fun h15 => ?_)
        · refine g_p t57_24 rfl ?_
          refine r_cv t57_25 (f12 hF) rfl ?_
          refine c53_12 (by exact hF) (by exact hD.1) hTR (by exact hD.2.1) (by exact hD.2.2) (Or.inl (by omega)) (fun s25 fr25 rs25 => ?_)
          refine k_0 ?_
          refine g_p t57_28 rfl ?_
          exact i_ret t57_29 rfl (hq s25 fr25 (hD.up hTR fr25 rs25))
        · exfalso; omega
    · rw [if_neg hz, if_neg hz] at hq
      refine en57 rfl rfl rfl ?_
      refine g_p t57_0 rfl ?_
      refine r_gete t57_1 (f12 hF) rfl rfl (RS_sg hD.2.2) ?_
      refine g_k (n := 48) t57_4 rfl rfl ?_
      refine g_subn t57_6 (by omega) ?_
      refine g_isn t57_7 (Nat.le_of_ble_eq_true rfl) (am_s1_3 rfl) ?_
      refine g_p t57_8 rfl ?_
      refine g_p t57_9 rfl ?_
      refine n_clt t57_10 (by omega) (by omega) (fun h10 => ?_) (fun h10 => ?_)
      · refine g_p t57_18 rfl ?_
        refine r_cv t57_19 (f12 hF) rfl ?_
        refine c59_12 (by exact hF) (by exact hD.1) hTR (by exact hD.2.1) (by exact hD.2.2) (fun s19 fr19 rs19 => ?_)
        refine k_0 ?_
        refine g_p t57_22 rfl ?_
        exact i_ret t57_23 rfl (hq s19 fr19 (hD.up hTR fr19 rs19))
      · refine g_p t57_13 rfl ?_
        refine g_p t57_14 rfl ?_
        refine n_cle t57_15 (by omega) (by omega) (fun h15 => ?_) (fun h15 => ?_)
        · exfalso; omega
        · refine g_p t57_18 rfl ?_
          refine r_cv t57_19 (f12 hF) rfl ?_
          refine c59_12 (by exact hF) (by exact hD.1) hTR (by exact hD.2.1) (by exact hD.2.2) (fun s19 fr19 rs19 => ?_)
          refine k_0 ?_
          refine g_p t57_22 rfl ?_
          exact i_ret t57_23 rfl (hq s19 fr19 (hD.up hTR fr19 rs19))
theorem c58_12 (hF : Fx s) (hTR : T ≠ 12 ∧ T + 1 ≠ 12) (hD : RD 12 T n t σ s) (hq : ∀ s', FR 12 s s' → RD 12 T n t (plt t σ) s' → Q (some (.int (nI (plv t σ)))) (mR s')) : gE X (d + 1) 58 [.ref 12] (mR s) Q := by
  have hlt := psg_lt hD.1 σ
  unfold plv plt at hq
  rcases Nat.lt_or_ge (psg t σ) 97 with h48 | h48
  · have hneg := pk_sneg (a := psg t σ) (b := 97) (by decide) h48
    rw [if_neg (by omega), if_neg (by omega)] at hq
    refine en58 rfl ?_
    refine g_p t58_0 rfl ?_
    refine r_gete t58_1 (f12 hF) rfl rfl (RS_sg hD.2.2) ?_
    refine g_k (n := 97) t58_4 rfl rfl ?_
    refine g_isub t58_6 ?_
    refine g_isn t58_7 (Nat.le_of_ble_eq_true rfl) (am_s1_1 rfl) ?_
    refine g_p t58_8 rfl ?_
    refine g_cs t58_9 rfl rfl rfl ?_
    refine c132 ?_
    refine k_v ?_ rfl
    refine b_ne t58_12 (fun h12 => ?_) (fun h12 => ?_)
    · exact no_b h12 (inN_f1 hneg)
    · refine g_p t58_15 rfl ?_
      refine r_cv t58_16 (f12 hF) rfl ?_
      refine c59_12 (by exact hF) (by exact hD.1) hTR (by exact hD.2.1) (by exact hD.2.2) (fun s16 fr16 rs16 => ?_)
      refine k_0 ?_
      refine g_k (n := 0) t58_19 rfl rfl ?_
      exact i_ret t58_20 rfl (hq s16 fr16 (hD.up hTR fr16 rs16))
  · by_cases hz : 97 ≤ psg t σ ∧ psg t σ ≤ 104
    · rw [if_pos hz, if_pos hz] at hq
      refine en58 rfl ?_
      refine g_p t58_0 rfl ?_
      refine r_gete t58_1 (f12 hF) rfl rfl (RS_sg hD.2.2) ?_
      refine g_k (n := 97) t58_4 rfl rfl ?_
      refine g_subn t58_6 (by omega) ?_
      refine g_isn t58_7 (Nat.le_of_ble_eq_true rfl) (am_s1_1 rfl) ?_
      refine g_p t58_8 rfl ?_
      refine g_cs t58_9 rfl rfl rfl ?_
      refine c132 ?_
      refine k_v ?_ rfl
      refine b_ne t58_12 (fun h12 => ?_) (fun h12 => ?_)
      · refine g_p t58_21 rfl ?_
        refine r_cv t58_22 (f12 hF) rfl ?_
        refine c53_12 (by exact hF) (by exact hD.1) hTR (by exact hD.2.1) (by exact hD.2.2) (Or.inl (by omega)) (fun s22 fr22 rs22 => ?_)
        refine k_0 ?_
        refine g_p t58_25 rfl ?_
        exact i_ret t58_26 rfl (hq s22 fr22 (hD.up hTR fr22 rs22))
      · exact no_b (inN_n (show psg t σ - 97 < 8 by omega) (by decide)) h12
    · rw [if_neg hz, if_neg hz] at hq
      refine en58 rfl ?_
      refine g_p t58_0 rfl ?_
      refine r_gete t58_1 (f12 hF) rfl rfl (RS_sg hD.2.2) ?_
      refine g_k (n := 97) t58_4 rfl rfl ?_
      refine g_subn t58_6 (by omega) ?_
      refine g_isn t58_7 (Nat.le_of_ble_eq_true rfl) (am_s1_1 rfl) ?_
      refine g_p t58_8 rfl ?_
      refine g_cs t58_9 rfl rfl rfl ?_
      refine c132 ?_
      refine k_v ?_ rfl
      refine b_ne t58_12 (fun h12 => ?_) (fun h12 => ?_)
      · exact no_b h12 (inN_f2 (nI_le (show 8 ≤ psg t σ - 97 by omega) (by omega)))
      · refine g_p t58_15 rfl ?_
        refine r_cv t58_16 (f12 hF) rfl ?_
        refine c59_12 (by exact hF) (by exact hD.1) hTR (by exact hD.2.1) (by exact hD.2.2) (fun s16 fr16 rs16 => ?_)
        refine k_0 ?_
        refine g_k (n := 0) t58_19 rfl rfl ?_
        exact i_ret t58_20 rfl (hq s16 fr16 (hD.up hTR fr16 rs16))
theorem c59r_12 (hF : Fx s) (hTR : T ≠ 12 ∧ T + 1 ≠ 12) (hD : RD 12 T n t σ s) (hq : ∀ s', FR 12 s s' → RD 12 T n t (pre σ) s' → Q none (mR s')) : gE X d 59 [.ref 12] (mR s) Q := c59_12 hF hD.1 hTR hD.2.1 hD.2.2 (fun s' f r => hq s' f (hD.up hTR f r))
theorem c53r_12 (hF : Fx s) (hTR : T ≠ 12 ∧ T + 1 ≠ 12) (hD : RD 12 T n t σ s) (hz : psg t σ ≠ 0 ∨ ∃ f, σ = .inr f) (hq : ∀ s', FR 12 s s' → RD 12 T n t (pst t σ) s' → Q none (mR s')) : gE X d 53 [.ref 12] (mR s) Q := c53_12 hF hD.1 hTR hD.2.1 hD.2.2 hz (fun s' f r => hq s' f (hD.up hTR f r))
theorem c60_12 (hF : Fx s) (hTR : T ≠ 12 ∧ T + 1 ≠ 12) (hD : RD 12 T n t σ s) (hq : ∀ s', FR 12 s s' → RD 12 T n t (pfi t σ) s' → Q (some (.int (pfv (pfi t σ)))) (mR s')) : gE X (d + 1) 60 [.ref 12] (mR s) Q := by
  have hlt := psg_lt hD.1 σ
  have hlen := hD.1.2.2.2.1
  unfold pfi at hq
  by_cases hz : psg t σ = 0
  · rw [if_pos hz] at hq
    have e3 : ri s 12 3 = pfv σ := by
      cases σ with
      | inl j => exact hD.2.2.2.2.1
      | inr f => exact hD.2.2.2.1
    refine en60 rfl ?_
    refine g_p t60_0 rfl ?_
    refine r_gete t60_1 (f12 hF) rfl rfl (RS_sg hD.2.2) ?_
    refine n_eq t60_4 (by omega) (fun h4 => ?_) (fun h4 => ?_)
    · refine g_p t60_11 rfl ?_
      refine r_gete t60_12 (f12 hF) rfl rfl e3 ?_
      exact i_ret t60_15 rfl (hq s FR.rf hD)
    · exact absurd hz h4
  · rw [if_neg hz] at hq
    refine en60 rfl ?_
    refine g_p t60_0 rfl ?_
    refine r_gete t60_1 (f12 hF) rfl rfl (RS_sg hD.2.2) ?_
    refine n_eq t60_4 (by omega) (fun h4 => ?_) (fun h4 => ?_)
    · first
        | exact absurd h4 hz
        | (have e3 : ri s8 12 3 = pfv (pre σ) := by
             cases σ with
             | inl j => exact rs8.2.1
             | inr f => exact rs8.2.1
           have hF := hF.fr fr8.1
           refine g_p t60_11 rfl ?_
           refine r_gete t60_12 (f12 hF) rfl rfl e3 ?_
           exact i_ret t60_15 rfl (hq s8 fr8 (hD.up hTR fr8 rs8)))
    · refine g_p t60_7 rfl ?_
      refine r_cv t60_8 (f12 hF) rfl ?_
      refine c59_12 (by exact hF) (by exact hD.1) hTR (by exact hD.2.1) (by exact hD.2.2) (fun s8 fr8 rs8 => ?_)
      refine k_0 ?_
      first
        | exact absurd h4 hz
        | (have e3 : ri s8 12 3 = pfv (pre σ) := by
             cases σ with
             | inl j => exact rs8.2.1
             | inr f => exact rs8.2.1
           have hF := hF.fr fr8.1
           refine g_p t60_11 rfl ?_
           refine r_gete t60_12 (f12 hF) rfl rfl e3 ?_
           exact i_ret t60_15 rfl (hq s8 fr8 (hD.up hTR fr8 rs8)))
theorem c51_15 (hF : Fx s) (hTR : T ≠ 15 ∧ T + 1 ≠ 15) (hX : TX T n t s) (hq : ∀ s', Fr [15] s s' → (∀ i, 4 ≤ i → ri s' 15 i = ri s 15 i) → RD 15 T n t (.inl (skp t 0)) s' → Q none (mR s')) : gE X (d + 1) 51 [.ref 15, .ref T] (mR s) Q := by
  refine en51 rfl rfl ?_
  refine g_p t51_0 rfl ?_
  refine g_p t51_1 rfl ?_
  refine r_putq (a := (nI (T + 2))) t51_2 (f15 hF) rfl rfl (m_rq_r hX.2.2.2.2.1) ?_
  refine g_p t51_5 rfl ?_
  refine g_p t51_6 rfl ?_
  refine r_puti t51_7 (f15 hF) rfl rfl ?_
  refine g_p t51_10 rfl ?_
  refine g_p t51_11 rfl ?_
  refine r_puti t51_12 (f15 hF) rfl rfl ?_
  refine g_p t51_15 rfl ?_
  refine r_cv t51_16 (f15 hF) rfl ?_
  have f0 : Fr [15] s (wi (wi (wi s 15 0 (nI (T + 2))) 15 1 (-1)) 15 3 (-1)) := ((Fr.rf.wi (by simp)).wi (by simp)).wi (by simp)
  have hX2 := hX.fr f0 (by simp only [List.mem_singleton]; exact hTR.1) (by simp only [List.mem_singleton]; exact hTR.2)
  refine c53w_15 (m := 0) (by exact hF) (by exact hX2) hTR (by exact rfl) (by exact (show (-1 : Int32) + 1 = nI 0 by decide)) (Nat.zero_le _) (by exact rfl) (fun s16 fr16 rs16 => ?_)
  refine k_0 ?_
  exact v_ret t51_19 (hq s16 (f0.tr fr16.1) (fun i hi => (fr16.2 i (Or.inr hi)).trans ((ri_wi_j (by omega)).trans ((ri_wi_j (by omega)).trans (ri_wi_j (by omega))))) ⟨hX2.fr fr16.1 (by simp only [List.mem_singleton]; exact hTR.1) (by simp only [List.mem_singleton]; exact hTR.2), (fr16.2 0 (Or.inl rfl)).trans rfl, rs16⟩)
theorem c55_15 (hF : Fx s) (hTR : T ≠ 15 ∧ T + 1 ≠ 15) (hD : RD 15 T n t σ s) (hw0 : 0 < w) (hw : w < 2 ^ 31) (hq : ∀ s', FR 15 s s' → RD 15 T n t (psk t w σ) s' → Q (some (.int (bI (decide (psg t σ = w))))) (mR s')) : gE X (d + 1) 55 [.ref 15, .int (nI w)] (mR s) Q := by
  have hlt := psg_lt hD.1 σ
  unfold psk at hq
  by_cases hz : psg t σ = w
  · rw [if_pos hz] at hq
    refine en55 rfl rfl ?_
    refine g_p t55_0 rfl ?_
    refine r_gete t55_1 (f15 hF) rfl rfl (RS_sg hD.2.2) ?_
    refine g_p t55_4 rfl ?_
    refine n_ceq t55_5 (by omega) (by omega) (fun h5 => ?_) (fun h5 => ?_)
    · refine g_p t55_10 rfl ?_
      refine r_cv t55_11 (f15 hF) rfl ?_
      refine c53_15 (by exact hF) (by exact hD.1) hTR (by exact hD.2.1) (by exact hD.2.2) (Or.inl (by omega)) (fun s11 fr11 rs11 => ?_)
      refine k_0 ?_
      refine g_k (n := 1) t55_14 rfl rfl ?_
      exact b_ret t55_15 (by rw [decide_eq_true hz]; rfl) (hq s11 fr11 (hD.up hTR fr11 rs11))
    · exfalso; omega
  · rw [if_neg hz] at hq
    refine en55 rfl rfl ?_
    refine g_p t55_0 rfl ?_
    refine r_gete t55_1 (f15 hF) rfl rfl (RS_sg hD.2.2) ?_
    refine g_p t55_4 rfl ?_
    refine n_ceq t55_5 (by omega) (by omega) (fun h5 => ?_) (fun h5 => ?_)
    · exfalso; omega
    · refine g_k (n := 0) t55_8 rfl rfl ?_
      exact b_ret t55_9 (by rw [decide_eq_false hz]; rfl) (hq s FR.rf hD)
theorem c56_15 (hF : Fx s) (hTR : T ≠ 15 ∧ T + 1 ≠ 15) (hD : RD 15 T n t σ s) (hw0 : 0 < w) (hw : w < 2 ^ 31) (hq : ∀ s', FR 15 s s' → RD 15 T n t (pne t w σ) s' → Q none (mR s')) : gE X (d + 1) 56 [.ref 15, .int (nI w)] (mR s) Q := by
  have hlt := psg_lt hD.1 σ
  unfold pne at hq
  by_cases hz : psg t σ = w
  · rw [if_pos hz] at hq
    refine en56 rfl rfl ?_
    refine g_p t56_0 rfl ?_
    refine r_gete t56_1 (f15 hF) rfl rfl (RS_sg hD.2.2) ?_
    refine g_p t56_4 rfl ?_
    refine n_cne t56_5 (by omega) (by omega) (fun h5 => ?_) (fun h5 => ?_)
    · exfalso; omega
    · refine g_p t56_8 rfl ?_
      refine r_cv t56_9 (f15 hF) rfl ?_
      refine c53_15 (by exact hF) (by exact hD.1) hTR (by exact hD.2.1) (by exact hD.2.2) (Or.inl (by omega)) (fun s9 fr9 rs9 => ?_)
      refine k_0 ?_
      refine g_goto t56_12 ?_
      exact v_ret t56_19 (hq s9 fr9 (hD.up hTR fr9 rs9))
  · rw [if_neg hz] at hq
    refine en56 rfl rfl ?_
    refine g_p t56_0 rfl ?_
    refine r_gete t56_1 (f15 hF) rfl rfl (RS_sg hD.2.2) ?_
    refine g_p t56_4 rfl ?_
    refine n_cne t56_5 (by omega) (by omega) (fun h5 => ?_) (fun h5 => ?_)
    · refine g_p t56_15 rfl ?_
      refine r_cv t56_16 (f15 hF) rfl ?_
      refine c59_15 (by exact hF) (by exact hD.1) hTR (by exact hD.2.1) (by exact hD.2.2) (fun s16 fr16 rs16 => ?_)
      refine k_0 ?_
      exact v_ret t56_19 (hq s16 fr16 (hD.up hTR fr16 rs16))
    · exfalso; omega
theorem c57_15 (hF : Fx s) (hTR : T ≠ 15 ∧ T + 1 ≠ 15) (hD : RD 15 T n t σ s) (hlo : lo ≤ 9) (hhi : hi ≤ 9) (hq : ∀ s', FR 15 s s' → RD 15 T n t (pdg t lo hi σ) s' → Q (some (.int (nI (pdv t lo hi σ)))) (mR s')) : gE X (d + 1) 57 [.ref 15, .int (nI lo), .int (nI hi)] (mR s) Q := by
  have hlt := psg_lt hD.1 σ
  unfold pdv pdg at hq
  rcases Nat.lt_or_ge (psg t σ) 48 with h48 | h48
  · have hneg := pk_sneg (a := psg t σ) (b := 48) (by decide) h48
    rw [if_neg (by omega), if_neg (by omega)] at hq
    refine en57 rfl rfl rfl ?_
    refine g_p t57_0 rfl ?_
    refine r_gete t57_1 (f15 hF) rfl rfl (RS_sg hD.2.2) ?_
    refine g_k (n := 48) t57_4 rfl rfl ?_
    refine g_isub t57_6 ?_
    refine g_isn t57_7 (Nat.le_of_ble_eq_true rfl) (am_s1_3 rfl) ?_
    refine g_p t57_8 rfl ?_
    refine g_p t57_9 rfl ?_
    refine g_clt t57_10 (fun h10 => ?_) (fun h10 => ?_)
    · refine g_p t57_18 rfl ?_
      refine r_cv t57_19 (f15 hF) rfl ?_
      refine c59_15 (by exact hF) (by exact hD.1) hTR (by exact hD.2.1) (by exact hD.2.2) (fun s19 fr19 rs19 => ?_)
      refine k_0 ?_
      refine g_p t57_22 rfl ?_
      exact i_ret t57_23 rfl (hq s19 fr19 (hD.up hTR fr19 rs19))
    · exact absurd (Int32.lt_of_lt_of_le hneg (nI_pos' (by omega))) h10
  · by_cases hz : 48 + lo ≤ psg t σ ∧ psg t σ ≤ 48 + hi
    · rw [if_pos hz, if_pos hz] at hq
      refine en57 rfl rfl rfl ?_
      refine g_p t57_0 rfl ?_
      refine r_gete t57_1 (f15 hF) rfl rfl (RS_sg hD.2.2) ?_
      refine g_k (n := 48) t57_4 rfl rfl ?_
      refine g_subn t57_6 (by omega) ?_
      refine g_isn t57_7 (Nat.le_of_ble_eq_true rfl) (am_s1_3 rfl) ?_
      refine g_p t57_8 rfl ?_
      refine g_p t57_9 rfl ?_
      refine n_clt t57_10 (by omega) (by omega) (fun h10 => ?_) (fun h10 => ?_)
      · exfalso; omega
      · refine g_p t57_13 rfl ?_
        refine g_p t57_14 rfl ?_
        refine n_cle t57_15 (by omega) (by omega) (fun h15 => ?_) (fun h15 => ?_)
        · refine g_p t57_24 rfl ?_
          refine r_cv t57_25 (f15 hF) rfl ?_
          refine c53_15 (by exact hF) (by exact hD.1) hTR (by exact hD.2.1) (by exact hD.2.2) (Or.inl (by omega)) (fun s25 fr25 rs25 => ?_)
          refine k_0 ?_
          refine g_p t57_28 rfl ?_
          exact i_ret t57_29 rfl (hq s25 fr25 (hD.up hTR fr25 rs25))
        · exfalso; omega
    · rw [if_neg hz, if_neg hz] at hq
      refine en57 rfl rfl rfl ?_
      refine g_p t57_0 rfl ?_
      refine r_gete t57_1 (f15 hF) rfl rfl (RS_sg hD.2.2) ?_
      refine g_k (n := 48) t57_4 rfl rfl ?_
      refine g_subn t57_6 (by omega) ?_
      refine g_isn t57_7 (Nat.le_of_ble_eq_true rfl) (am_s1_3 rfl) ?_
      refine g_p t57_8 rfl ?_
      refine g_p t57_9 rfl ?_
      refine n_clt t57_10 (by omega) (by omega) (fun h10 => ?_) (fun h10 => ?_)
      · refine g_p t57_18 rfl ?_
        refine r_cv t57_19 (f15 hF) rfl ?_
        refine c59_15 (by exact hF) (by exact hD.1) hTR (by exact hD.2.1) (by exact hD.2.2) (fun s19 fr19 rs19 => ?_)
        refine k_0 ?_
        refine g_p t57_22 rfl ?_
        exact i_ret t57_23 rfl (hq s19 fr19 (hD.up hTR fr19 rs19))
      · refine g_p t57_13 rfl ?_
        refine g_p t57_14 rfl ?_
        refine n_cle t57_15 (by omega) (by omega) (fun h15 => ?_) (fun h15 => ?_)
        · exfalso; omega
        · refine g_p t57_18 rfl ?_
          refine r_cv t57_19 (f15 hF) rfl ?_
          refine c59_15 (by exact hF) (by exact hD.1) hTR (by exact hD.2.1) (by exact hD.2.2) (fun s19 fr19 rs19 => ?_)
          refine k_0 ?_
          refine g_p t57_22 rfl ?_
          exact i_ret t57_23 rfl (hq s19 fr19 (hD.up hTR fr19 rs19))
theorem c58_15 (hF : Fx s) (hTR : T ≠ 15 ∧ T + 1 ≠ 15) (hD : RD 15 T n t σ s) (hq : ∀ s', FR 15 s s' → RD 15 T n t (plt t σ) s' → Q (some (.int (nI (plv t σ)))) (mR s')) : gE X (d + 1) 58 [.ref 15] (mR s) Q := by
  have hlt := psg_lt hD.1 σ
  unfold plv plt at hq
  rcases Nat.lt_or_ge (psg t σ) 97 with h48 | h48
  · have hneg := pk_sneg (a := psg t σ) (b := 97) (by decide) h48
    rw [if_neg (by omega), if_neg (by omega)] at hq
    refine en58 rfl ?_
    refine g_p t58_0 rfl ?_
    refine r_gete t58_1 (f15 hF) rfl rfl (RS_sg hD.2.2) ?_
    refine g_k (n := 97) t58_4 rfl rfl ?_
    refine g_isub t58_6 ?_
    refine g_isn t58_7 (Nat.le_of_ble_eq_true rfl) (am_s1_1 rfl) ?_
    refine g_p t58_8 rfl ?_
    refine g_cs t58_9 rfl rfl rfl ?_
    refine c132 ?_
    refine k_v ?_ rfl
    refine b_ne t58_12 (fun h12 => ?_) (fun h12 => ?_)
    · exact no_b h12 (inN_f1 hneg)
    · refine g_p t58_15 rfl ?_
      refine r_cv t58_16 (f15 hF) rfl ?_
      refine c59_15 (by exact hF) (by exact hD.1) hTR (by exact hD.2.1) (by exact hD.2.2) (fun s16 fr16 rs16 => ?_)
      refine k_0 ?_
      refine g_k (n := 0) t58_19 rfl rfl ?_
      exact i_ret t58_20 rfl (hq s16 fr16 (hD.up hTR fr16 rs16))
  · by_cases hz : 97 ≤ psg t σ ∧ psg t σ ≤ 104
    · rw [if_pos hz, if_pos hz] at hq
      refine en58 rfl ?_
      refine g_p t58_0 rfl ?_
      refine r_gete t58_1 (f15 hF) rfl rfl (RS_sg hD.2.2) ?_
      refine g_k (n := 97) t58_4 rfl rfl ?_
      refine g_subn t58_6 (by omega) ?_
      refine g_isn t58_7 (Nat.le_of_ble_eq_true rfl) (am_s1_1 rfl) ?_
      refine g_p t58_8 rfl ?_
      refine g_cs t58_9 rfl rfl rfl ?_
      refine c132 ?_
      refine k_v ?_ rfl
      refine b_ne t58_12 (fun h12 => ?_) (fun h12 => ?_)
      · refine g_p t58_21 rfl ?_
        refine r_cv t58_22 (f15 hF) rfl ?_
        refine c53_15 (by exact hF) (by exact hD.1) hTR (by exact hD.2.1) (by exact hD.2.2) (Or.inl (by omega)) (fun s22 fr22 rs22 => ?_)
        refine k_0 ?_
        refine g_p t58_25 rfl ?_
        exact i_ret t58_26 rfl (hq s22 fr22 (hD.up hTR fr22 rs22))
      · exact no_b (inN_n (show psg t σ - 97 < 8 by omega) (by decide)) h12
    · rw [if_neg hz, if_neg hz] at hq
      refine en58 rfl ?_
      refine g_p t58_0 rfl ?_
      refine r_gete t58_1 (f15 hF) rfl rfl (RS_sg hD.2.2) ?_
      refine g_k (n := 97) t58_4 rfl rfl ?_
      refine g_subn t58_6 (by omega) ?_
      refine g_isn t58_7 (Nat.le_of_ble_eq_true rfl) (am_s1_1 rfl) ?_
      refine g_p t58_8 rfl ?_
      refine g_cs t58_9 rfl rfl rfl ?_
      refine c132 ?_
      refine k_v ?_ rfl
      refine b_ne t58_12 (fun h12 => ?_) (fun h12 => ?_)
      · exact no_b h12 (inN_f2 (nI_le (show 8 ≤ psg t σ - 97 by omega) (by omega)))
      · refine g_p t58_15 rfl ?_
        refine r_cv t58_16 (f15 hF) rfl ?_
        refine c59_15 (by exact hF) (by exact hD.1) hTR (by exact hD.2.1) (by exact hD.2.2) (fun s16 fr16 rs16 => ?_)
        refine k_0 ?_
        refine g_k (n := 0) t58_19 rfl rfl ?_
        exact i_ret t58_20 rfl (hq s16 fr16 (hD.up hTR fr16 rs16))
theorem c59r_15 (hF : Fx s) (hTR : T ≠ 15 ∧ T + 1 ≠ 15) (hD : RD 15 T n t σ s) (hq : ∀ s', FR 15 s s' → RD 15 T n t (pre σ) s' → Q none (mR s')) : gE X d 59 [.ref 15] (mR s) Q := c59_15 hF hD.1 hTR hD.2.1 hD.2.2 (fun s' f r => hq s' f (hD.up hTR f r))
theorem c53r_15 (hF : Fx s) (hTR : T ≠ 15 ∧ T + 1 ≠ 15) (hD : RD 15 T n t σ s) (hz : psg t σ ≠ 0 ∨ ∃ f, σ = .inr f) (hq : ∀ s', FR 15 s s' → RD 15 T n t (pst t σ) s' → Q none (mR s')) : gE X d 53 [.ref 15] (mR s) Q := c53_15 hF hD.1 hTR hD.2.1 hD.2.2 hz (fun s' f r => hq s' f (hD.up hTR f r))
theorem c60_15 (hF : Fx s) (hTR : T ≠ 15 ∧ T + 1 ≠ 15) (hD : RD 15 T n t σ s) (hq : ∀ s', FR 15 s s' → RD 15 T n t (pfi t σ) s' → Q (some (.int (pfv (pfi t σ)))) (mR s')) : gE X (d + 1) 60 [.ref 15] (mR s) Q := by
  have hlt := psg_lt hD.1 σ
  have hlen := hD.1.2.2.2.1
  unfold pfi at hq
  by_cases hz : psg t σ = 0
  · rw [if_pos hz] at hq
    have e3 : ri s 15 3 = pfv σ := by
      cases σ with
      | inl j => exact hD.2.2.2.2.1
      | inr f => exact hD.2.2.2.1
    refine en60 rfl ?_
    refine g_p t60_0 rfl ?_
    refine r_gete t60_1 (f15 hF) rfl rfl (RS_sg hD.2.2) ?_
    refine n_eq t60_4 (by omega) (fun h4 => ?_) (fun h4 => ?_)
    · refine g_p t60_11 rfl ?_
      refine r_gete t60_12 (f15 hF) rfl rfl e3 ?_
      exact i_ret t60_15 rfl (hq s FR.rf hD)
    · exact absurd hz h4
  · rw [if_neg hz] at hq
    refine en60 rfl ?_
    refine g_p t60_0 rfl ?_
    refine r_gete t60_1 (f15 hF) rfl rfl (RS_sg hD.2.2) ?_
    refine n_eq t60_4 (by omega) (fun h4 => ?_) (fun h4 => ?_)
    · first
        | exact absurd h4 hz
        | (have e3 : ri s8 15 3 = pfv (pre σ) := by
             cases σ with
             | inl j => exact rs8.2.1
             | inr f => exact rs8.2.1
           have hF := hF.fr fr8.1
           refine g_p t60_11 rfl ?_
           refine r_gete t60_12 (f15 hF) rfl rfl e3 ?_
           exact i_ret t60_15 rfl (hq s8 fr8 (hD.up hTR fr8 rs8)))
    · refine g_p t60_7 rfl ?_
      refine r_cv t60_8 (f15 hF) rfl ?_
      refine c59_15 (by exact hF) (by exact hD.1) hTR (by exact hD.2.1) (by exact hD.2.2) (fun s8 fr8 rs8 => ?_)
      refine k_0 ?_
      first
        | exact absurd h4 hz
        | (have e3 : ri s8 15 3 = pfv (pre σ) := by
             cases σ with
             | inl j => exact rs8.2.1
             | inr f => exact rs8.2.1
           have hF := hF.fr fr8.1
           refine g_p t60_11 rfl ?_
           refine r_gete t60_12 (f15 hF) rfl rfl e3 ?_
           exact i_ret t60_15 rfl (hq s8 fr8 (hD.up hTR fr8 rs8)))
theorem c54 (hF : Fx s) (hD : RD 15 T n t (.inl j) s) (hq : Q (some (.int (bI (decide (48 ≤ sgn t (j + 1) ∧ sgn t (j + 1) ≤ 57))))) (mR s)) : gE X d 54 [.ref 15] (mR s) Q := by
  have hlen := hD.1.2.1.1
  have hl1 := hD.1.2.2.1
  have hl2 := hD.1.2.2.2.1
  have hn := hD.1.1.2.2
  have hp1 := hD.2.2.1
  have hjl := hD.2.2.2.2.2
  have hout : t.length ≤ j + 1 → sgn t (j + 1) = 0 := fun h => by unfold sgn; rw [List.getD, List.getElem?_eq_none h]; rfl
  have hlt := sgn_lt hD.1 (j + 1)
  refine en54 rfl ?_
  refine g_p t54_0 rfl ?_
  refine r_gete t54_1 (f15 hF) rfl rfl hp1 ?_
  refine g_k (n := 1) t54_4 rfl rfl ?_
  refine g_addn t54_5 ?_
  refine g_isn t54_6 (Nat.le_of_ble_eq_true rfl) (am_s1_1 rfl) ?_
  refine g_p t54_7 rfl ?_
  refine r_getq t54_8 (f15 hF) rfl rfl hD.2.1 (m_rq_r hD.1.2.2.2.2.1) ?_
  refine g_b (b := false) t54_11 rfl ?_
  refine g_p t54_14 rfl ?_
  refine n_lt t54_15 (by omega) ?_
  refine g_p t54_18 rfl ?_
  refine g_p t54_19 rfl ?_
  refine r_getq t54_20 (f15 hF) rfl rfl hD.2.1 (m_rq_r hD.1.2.2.2.2.1) ?_
  refine r_gete t54_23 hD.1.1.1 rfl rfl hlen ?_
  refine n_cge t54_26 (by omega) (by omega) (fun h26 => ?_) (fun h26 => ?_)
  · refine g_k (n := 0) t54_73 rfl rfl ?_
    first
      | (have u0 := h66; exact b_ret t54_74 (by rw [decide_eq_true (by omega)]; rfl) hq)
      | (have u0 := h66; exact b_ret t54_74 (by rw [decide_eq_false (by omega)]; rfl) hq)
      | (have u0 := h52; exact b_ret t54_74 (by rw [decide_eq_false (by omega)]; rfl) hq)
      | (have u0 := h26; exact b_ret t54_74 (by rw [hout u0]; rfl) hq)
      | (exfalso; omega)
  · refine g_p t54_29 rfl ?_
    refine g_p t54_30 rfl ?_
    refine r_getq t54_31 (f15 hF) rfl rfl hD.2.1 (m_rq_r hD.1.2.2.2.2.1) ?_
    refine r_getr t54_34 hD.1.1.1 rfl rfl ?_
    refine r_leni t54_37 hD.1.1.2.1 ?_
    refine n_cge t54_38 (by omega) (by omega) (fun h38 => ?_) (fun h38 => ?_)
    · refine g_k (n := 0) t54_73 rfl rfl ?_
      first
        | (have u0 := h66; exact b_ret t54_74 (by rw [decide_eq_true (by omega)]; rfl) hq)
        | (have u0 := h66; exact b_ret t54_74 (by rw [decide_eq_false (by omega)]; rfl) hq)
        | (have u0 := h52; exact b_ret t54_74 (by rw [decide_eq_false (by omega)]; rfl) hq)
        | (have u0 := h26; exact b_ret t54_74 (by rw [hout u0]; rfl) hq)
        | (exfalso; omega)
    · refine g_p t54_41 rfl ?_
      refine r_getq t54_42 (f15 hF) rfl rfl hD.2.1 (m_rq_r hD.1.2.2.2.2.1) ?_
      refine r_getr t54_45 hD.1.1.1 rfl rfl ?_
      refine g_p t54_48 rfl ?_
      refine r_iald t54_49 hD.1.1.2.1 hn (by omega) ?_
      rw [show ri s (T + 1) (j + 1) = nI (sgn t (j + 1)) from hD.1.2.1.2 _ (by omega)]
      refine g_k (n := 48) t54_50 rfl rfl ?_
      refine n_clt t54_52 (by omega) (by omega) (fun h52 => ?_) (fun h52 => ?_)
      · refine g_k (n := 0) t54_73 rfl rfl ?_
        first
          | (have u0 := h66; exact b_ret t54_74 (by rw [decide_eq_true (by omega)]; rfl) hq)
          | (have u0 := h66; exact b_ret t54_74 (by rw [decide_eq_false (by omega)]; rfl) hq)
          | (have u0 := h52; exact b_ret t54_74 (by rw [decide_eq_false (by omega)]; rfl) hq)
          | (have u0 := h26; exact b_ret t54_74 (by rw [hout u0]; rfl) hq)
          | (exfalso; omega)
      · refine g_p t54_55 rfl ?_
        refine r_getq t54_56 (f15 hF) rfl rfl hD.2.1 (m_rq_r hD.1.2.2.2.2.1) ?_
        refine r_getr t54_59 hD.1.1.1 rfl rfl ?_
        refine g_p t54_62 rfl ?_
        refine r_iald t54_63 hD.1.1.2.1 hn (by omega) ?_
        rw [show ri s (T + 1) (j + 1) = nI (sgn t (j + 1)) from hD.1.2.1.2 _ (by omega)]
        refine g_k (n := 57) t54_64 rfl rfl ?_
        refine n_cgt t54_66 (by omega) (by omega) (fun h66 => ?_) (fun h66 => ?_)
        · refine g_k (n := 0) t54_73 rfl rfl ?_
          first
            | (have u0 := h66; exact b_ret t54_74 (by rw [decide_eq_true (by omega)]; rfl) hq)
            | (have u0 := h66; exact b_ret t54_74 (by rw [decide_eq_false (by omega)]; rfl) hq)
            | (have u0 := h52; exact b_ret t54_74 (by rw [decide_eq_false (by omega)]; rfl) hq)
            | (have u0 := h26; exact b_ret t54_74 (by rw [hout u0]; rfl) hq)
            | (exfalso; omega)
        · refine g_k (n := 1) t54_69 rfl rfl ?_
          refine g_goto t54_70 ?_
          first
            | (have u0 := h66; exact b_ret t54_74 (by rw [decide_eq_true (by omega)]; rfl) hq)
            | (have u0 := h66; exact b_ret t54_74 (by rw [decide_eq_false (by omega)]; rfl) hq)
            | (have u0 := h52; exact b_ret t54_74 (by rw [decide_eq_false (by omega)]; rfl) hq)
            | (have u0 := h26; exact b_ret t54_74 (by rw [hout u0]; rfl) hq)
            | (exfalso; omega)
end RM
