/-! THE FACE: feed, end -/
theorem sw_g {x : Int32} {r : List Nat} {d0 : Nat} {k : Value} {n : Nat} (hn : n < 100) (hk : k = .int 0) (hr : r.length = n) (h : inN n x = false) : am_sw x (d0 :: r) k = d0 := by
  subst hk
  have h1 : x.toInt < 0 ∨ (0 : Int) + (n : Nat) ≤ x.toInt := by
    by_cases hx : x < 0
    · left; simpa using Int32.lt_iff_toInt_lt.mp hx
    · right
      obtain ⟨j, hj, rfl⟩ := nI_of hx
      rw [nI_toInt hj]
      rcases Nat.lt_or_ge j n with h2 | h2
      · exact absurd (inN_n h2 (by omega)) (by rw [h]; decide)
      · omega
  unfold am_sw
  simp only
  rw [if_pos (by rw [hr]; exact h1)]
section TV
variable {X : am_X} {d k : Nat} {s : mM} {hp : am_H} {Q : Option Value → am_H → Prop} {l : List Nat} {x x1 x2 x3 x4 x5 : Int32}
theorem c119 (hF : Fx s) (hL : NL s 1 l) (n0 : l.length ≤ 120) (hq : ∀ s', Fr [1, 2] s s' → NL s' 1 (if (l ++ fb x1 ++ fb x2 ++ fb x3 ++ fb x4 ++ fb x5).length ≤ 120 then l ++ fb x1 ++ fb x2 ++ fb x3 ++ fb x4 ++ fb x5 else l) → Q (some (.int (if (l ++ fb x1 ++ fb x2 ++ fb x3 ++ fb x4 ++ fb x5).length ≤ 120 then nI (l ++ fb x1 ++ fb x2 ++ fb x3 ++ fb x4 ++ fb x5).length else -1))) (mR s')) : gE X (d + 2) 119 [.ref 0, .int x1, .int x2, .int x3, .int x4, .int x5] (mR s) Q := by
  have hf : Fr [1, 2] s s := Fr.rf
  have FAIL : ∀ s' l', Fx s' → Fr [1, 2] s s' → NL s' 1 l' → l'.take l.length = l → ¬ (l ++ fb x1 ++ fb x2 ++ fb x3 ++ fb x4 ++ fb x5).length ≤ 120 → l'.length < 2 ^ 31 → gG X (d + 2) 119 55 [.ref 0, .int x1, .int x2, .int x3, .int x4, .int x5, .int (nI l.length), .float 0] [] (mR s') Q := by
    intro s' l' hF hf hL htk hn hb
    rw [if_neg hn, if_neg hn] at hq
    have hle : l.length ≤ l'.length := by
      have h2 := congrArg List.length htk
      rw [List.length_take] at h2
      omega
    refine g_k (n := 0) t119_55 rfl rfl ?_
    refine g_is t119_56 (Nat.le_of_ble_eq_true rfl) (am_s1_7 rfl) ?_
    refine g_p t119_58 rfl ?_
    refine n_ne t119_60 (by omega) (fun h60 => ?_) (fun h60 => ?_)
    · exact absurd rfl h60
    · refine g_p t119_63 rfl ?_
      refine r_getr t119_64 (f0 hF) rfl rfl ?_
      refine g_p t119_67 rfl ?_
      refine r_cv t119_69 (f1 hF) rfl ?_
      refine c34L (by exact fN1 hF) (by exact hL) hle hb (fun s69 fr69 hL => ?_)
      refine k_0 ?_
      have hF := Fx.fr (by exact hF) fr69
      refine g_p t119_72 rfl ?_
      first
        | (rw [htk] at hL
           exact i_ret t119_73 rfl (hq s69 (hf.tr (fr69.mono (by decide))) hL))
  refine en119 rfl rfl rfl rfl rfl rfl ?_
  refine g_p t119_0 rfl ?_
  refine r_getr t119_1 (f0 hF) rfl rfl ?_
  refine r_cv t119_4 (f1 hF) rfl ?_
  refine c29L (by exact fN1 hF) (by exact hL) ?_
  refine k_v ?_ rfl
  refine g_is t119_7 (Nat.le_of_ble_eq_true rfl) (am_s1_6 rfl) ?_
  refine g_p t119_9 rfl ?_
  refine g_p t119_10 rfl ?_
  refine r_cv t119_11 (f0 hF) rfl ?_
  refine c120 (by exact hF) (by exact hL) (by exact n0) (fun s11 l11 fr11 hL n11 i11 k11 => ?_)
  have hF := hF.fr fr11
  have hf := hf.tr fr11
  refine k_v ?_ rfl
  refine b_eq t119_14 (fun h14 => ?_) (fun h14 => ?_)
  · first
      | (have u0 := h48
         have u1 : ¬ ((l ++ fb x1 ++ fb x2 ++ fb x3 ++ fb x4).length + (fb x5).length ≤ 120) := of_decide_eq_false u0
         exact FAIL s45 l45 hF hf hL (tk_pre (tk_pre (tk_pre (tk_pre k45)))) (by
           intro h
           simp only [List.length_append] at h u1
           omega) (Nat.lt_of_le_of_lt n45 (by decide)))
      | (have u0 := h39
         have u1 : ¬ ((l ++ fb x1 ++ fb x2 ++ fb x3).length + (fb x4).length ≤ 120) := of_decide_eq_false u0
         exact FAIL s36 l36 hF hf hL (tk_pre (tk_pre (tk_pre k36))) (by
           intro h
           simp only [List.length_append] at h u1
           omega) (Nat.lt_of_le_of_lt n36 (by decide)))
      | (have u0 := h30
         have u1 : ¬ ((l ++ fb x1 ++ fb x2).length + (fb x3).length ≤ 120) := of_decide_eq_false u0
         exact FAIL s27 l27 hF hf hL (tk_pre (tk_pre k27)) (by
           intro h
           simp only [List.length_append] at h u1
           omega) (Nat.lt_of_le_of_lt n27 (by decide)))
      | (have u0 := h22
         have u1 : ¬ ((l ++ fb x1).length + (fb x2).length ≤ 120) := of_decide_eq_false u0
         exact FAIL s19 l19 hF hf hL (tk_pre k19) (by
           intro h
           simp only [List.length_append] at h u1
           omega) (Nat.lt_of_le_of_lt n19 (by decide)))
      | (have u0 := h14
         have u1 : ¬ (l.length + (fb x1).length ≤ 120) := of_decide_eq_false u0
         exact FAIL s11 l11 hF hf hL k11 (by
           intro h
           simp only [List.length_append] at h u1
           omega) (Nat.lt_of_le_of_lt n11 (by decide)))
  · have e11 := i11 (of_decide_eq_true h14)
    subst e11
    refine g_p t119_17 rfl ?_
    refine g_p t119_18 rfl ?_
    refine r_cv t119_19 (f0 hF) rfl ?_
    refine c120 (by exact hF) (by exact hL) (by exact n11) (fun s19 l19 fr19 hL n19 i19 k19 => ?_)
    have hF := hF.fr fr19
    have hf := hf.tr fr19
    refine k_v ?_ rfl
    refine b_eq t119_22 (fun h22 => ?_) (fun h22 => ?_)
    · first
        | (have u0 := h48
           have u1 : ¬ ((l ++ fb x1 ++ fb x2 ++ fb x3 ++ fb x4).length + (fb x5).length ≤ 120) := of_decide_eq_false u0
           exact FAIL s45 l45 hF hf hL (tk_pre (tk_pre (tk_pre (tk_pre k45)))) (by
             intro h
             simp only [List.length_append] at h u1
             omega) (Nat.lt_of_le_of_lt n45 (by decide)))
        | (have u0 := h39
           have u1 : ¬ ((l ++ fb x1 ++ fb x2 ++ fb x3).length + (fb x4).length ≤ 120) := of_decide_eq_false u0
           exact FAIL s36 l36 hF hf hL (tk_pre (tk_pre (tk_pre k36))) (by
             intro h
             simp only [List.length_append] at h u1
             omega) (Nat.lt_of_le_of_lt n36 (by decide)))
        | (have u0 := h30
           have u1 : ¬ ((l ++ fb x1 ++ fb x2).length + (fb x3).length ≤ 120) := of_decide_eq_false u0
           exact FAIL s27 l27 hF hf hL (tk_pre (tk_pre k27)) (by
             intro h
             simp only [List.length_append] at h u1
             omega) (Nat.lt_of_le_of_lt n27 (by decide)))
        | (have u0 := h22
           have u1 : ¬ ((l ++ fb x1).length + (fb x2).length ≤ 120) := of_decide_eq_false u0
           exact FAIL s19 l19 hF hf hL (tk_pre k19) (by
             intro h
             simp only [List.length_append] at h u1
             omega) (Nat.lt_of_le_of_lt n19 (by decide)))
        | (have u0 := h14
           have u1 : ¬ (l.length + (fb x1).length ≤ 120) := of_decide_eq_false u0
           exact FAIL s11 l11 hF hf hL k11 (by
             intro h
             simp only [List.length_append] at h u1
             omega) (Nat.lt_of_le_of_lt n11 (by decide)))
    · have e19 := i19 (of_decide_eq_true h22)
      subst e19
      refine g_p t119_25 rfl ?_
      refine g_p t119_26 rfl ?_
      refine r_cv t119_27 (f0 hF) rfl ?_
      refine c120 (by exact hF) (by exact hL) (by exact n19) (fun s27 l27 fr27 hL n27 i27 k27 => ?_)
      have hF := hF.fr fr27
      have hf := hf.tr fr27
      refine k_v ?_ rfl
      refine b_eq t119_30 (fun h30 => ?_) (fun h30 => ?_)
      · first
          | (have u0 := h48
             have u1 : ¬ ((l ++ fb x1 ++ fb x2 ++ fb x3 ++ fb x4).length + (fb x5).length ≤ 120) := of_decide_eq_false u0
             exact FAIL s45 l45 hF hf hL (tk_pre (tk_pre (tk_pre (tk_pre k45)))) (by
               intro h
               simp only [List.length_append] at h u1
               omega) (Nat.lt_of_le_of_lt n45 (by decide)))
          | (have u0 := h39
             have u1 : ¬ ((l ++ fb x1 ++ fb x2 ++ fb x3).length + (fb x4).length ≤ 120) := of_decide_eq_false u0
             exact FAIL s36 l36 hF hf hL (tk_pre (tk_pre (tk_pre k36))) (by
               intro h
               simp only [List.length_append] at h u1
               omega) (Nat.lt_of_le_of_lt n36 (by decide)))
          | (have u0 := h30
             have u1 : ¬ ((l ++ fb x1 ++ fb x2).length + (fb x3).length ≤ 120) := of_decide_eq_false u0
             exact FAIL s27 l27 hF hf hL (tk_pre (tk_pre k27)) (by
               intro h
               simp only [List.length_append] at h u1
               omega) (Nat.lt_of_le_of_lt n27 (by decide)))
          | (have u0 := h22
             have u1 : ¬ ((l ++ fb x1).length + (fb x2).length ≤ 120) := of_decide_eq_false u0
             exact FAIL s19 l19 hF hf hL (tk_pre k19) (by
               intro h
               simp only [List.length_append] at h u1
               omega) (Nat.lt_of_le_of_lt n19 (by decide)))
          | (have u0 := h14
             have u1 : ¬ (l.length + (fb x1).length ≤ 120) := of_decide_eq_false u0
             exact FAIL s11 l11 hF hf hL k11 (by
               intro h
               simp only [List.length_append] at h u1
               omega) (Nat.lt_of_le_of_lt n11 (by decide)))
      · have e27 := i27 (of_decide_eq_true h30)
        subst e27
        refine g_p t119_33 rfl ?_
        refine g_p t119_34 rfl ?_
        refine r_cv t119_36 (f0 hF) rfl ?_
        refine c120 (by exact hF) (by exact hL) (by exact n27) (fun s36 l36 fr36 hL n36 i36 k36 => ?_)
        have hF := hF.fr fr36
        have hf := hf.tr fr36
        refine k_v ?_ rfl
        refine b_eq t119_39 (fun h39 => ?_) (fun h39 => ?_)
        · first
            | (have u0 := h48
               have u1 : ¬ ((l ++ fb x1 ++ fb x2 ++ fb x3 ++ fb x4).length + (fb x5).length ≤ 120) := of_decide_eq_false u0
               exact FAIL s45 l45 hF hf hL (tk_pre (tk_pre (tk_pre (tk_pre k45)))) (by
                 intro h
                 simp only [List.length_append] at h u1
                 omega) (Nat.lt_of_le_of_lt n45 (by decide)))
            | (have u0 := h39
               have u1 : ¬ ((l ++ fb x1 ++ fb x2 ++ fb x3).length + (fb x4).length ≤ 120) := of_decide_eq_false u0
               exact FAIL s36 l36 hF hf hL (tk_pre (tk_pre (tk_pre k36))) (by
                 intro h
                 simp only [List.length_append] at h u1
                 omega) (Nat.lt_of_le_of_lt n36 (by decide)))
            | (have u0 := h30
               have u1 : ¬ ((l ++ fb x1 ++ fb x2).length + (fb x3).length ≤ 120) := of_decide_eq_false u0
               exact FAIL s27 l27 hF hf hL (tk_pre (tk_pre k27)) (by
                 intro h
                 simp only [List.length_append] at h u1
                 omega) (Nat.lt_of_le_of_lt n27 (by decide)))
            | (have u0 := h22
               have u1 : ¬ ((l ++ fb x1).length + (fb x2).length ≤ 120) := of_decide_eq_false u0
               exact FAIL s19 l19 hF hf hL (tk_pre k19) (by
                 intro h
                 simp only [List.length_append] at h u1
                 omega) (Nat.lt_of_le_of_lt n19 (by decide)))
            | (have u0 := h14
               have u1 : ¬ (l.length + (fb x1).length ≤ 120) := of_decide_eq_false u0
               exact FAIL s11 l11 hF hf hL k11 (by
                 intro h
                 simp only [List.length_append] at h u1
                 omega) (Nat.lt_of_le_of_lt n11 (by decide)))
        · have e36 := i36 (of_decide_eq_true h39)
          subst e36
          refine g_p t119_42 rfl ?_
          refine g_p t119_43 rfl ?_
          refine r_cv t119_45 (f0 hF) rfl ?_
          refine c120 (by exact hF) (by exact hL) (by exact n36) (fun s45 l45 fr45 hL n45 i45 k45 => ?_)
          have hF := hF.fr fr45
          have hf := hf.tr fr45
          refine k_v ?_ rfl
          refine b_eq t119_48 (fun h48 => ?_) (fun h48 => ?_)
          · first
              | (have u0 := h48
                 have u1 : ¬ ((l ++ fb x1 ++ fb x2 ++ fb x3 ++ fb x4).length + (fb x5).length ≤ 120) := of_decide_eq_false u0
                 exact FAIL s45 l45 hF hf hL (tk_pre (tk_pre (tk_pre (tk_pre k45)))) (by
                   intro h
                   simp only [List.length_append] at h u1
                   omega) (Nat.lt_of_le_of_lt n45 (by decide)))
              | (have u0 := h39
                 have u1 : ¬ ((l ++ fb x1 ++ fb x2 ++ fb x3).length + (fb x4).length ≤ 120) := of_decide_eq_false u0
                 exact FAIL s36 l36 hF hf hL (tk_pre (tk_pre (tk_pre k36))) (by
                   intro h
                   simp only [List.length_append] at h u1
                   omega) (Nat.lt_of_le_of_lt n36 (by decide)))
              | (have u0 := h30
                 have u1 : ¬ ((l ++ fb x1 ++ fb x2).length + (fb x3).length ≤ 120) := of_decide_eq_false u0
                 exact FAIL s27 l27 hF hf hL (tk_pre (tk_pre k27)) (by
                   intro h
                   simp only [List.length_append] at h u1
                   omega) (Nat.lt_of_le_of_lt n27 (by decide)))
              | (have u0 := h22
                 have u1 : ¬ ((l ++ fb x1).length + (fb x2).length ≤ 120) := of_decide_eq_false u0
                 exact FAIL s19 l19 hF hf hL (tk_pre k19) (by
                   intro h
                   simp only [List.length_append] at h u1
                   omega) (Nat.lt_of_le_of_lt n19 (by decide)))
              | (have u0 := h14
                 have u1 : ¬ (l.length + (fb x1).length ≤ 120) := of_decide_eq_false u0
                 exact FAIL s11 l11 hF hf hL k11 (by
                   intro h
                   simp only [List.length_append] at h u1
                   omega) (Nat.lt_of_le_of_lt n11 (by decide)))
          · have e45 := i45 (of_decide_eq_true h48)
            subst e45
            refine g_k (n := 1) t119_51 rfl rfl ?_
            refine g_goto t119_52 ?_
            refine g_is t119_56 (Nat.le_of_ble_eq_true rfl) (am_s1_7 rfl) ?_
            refine g_p t119_58 rfl ?_
            refine n_ne t119_60 (by omega) (fun h60 => ?_) (fun h60 => ?_)
            · refine g_p t119_74 rfl ?_
              refine r_getr t119_75 (f0 hF) rfl rfl ?_
              refine r_cv t119_78 (f1 hF) rfl ?_
              refine c29L (by exact fN1 hF) (by exact hL) ?_
              refine k_v ?_ rfl
              have hle : (l ++ fb x1 ++ fb x2 ++ fb x3 ++ fb x4 ++ fb x5).length ≤ 120 := n45
              rw [if_pos hle] at hq
              exact i_ret t119_81 (by rw [if_pos hle]) (hq s45 hf hL)
            · exact absurd h60 (by decide)
theorem c121t (hF : Fx s) (hL : NL s 1 l) (n0 : l.length ≤ 120) (hk : k ≤ l.length) (hq : ∀ s', Fr [1] s s' → NL s' 1 (l.take k) → Q (some (.int (bI true))) (mR s')) : gE X (d + 1) 121 [.ref 0, .int (nI k)] (mR s) Q := by
  refine en121 rfl rfl ?_
  refine g_p t121_0 rfl ?_
  refine n_lt t121_1 (by omega) ?_
  refine g_p t121_4 rfl ?_
  refine g_p t121_5 rfl ?_
  refine r_getr t121_6 (f0 hF) rfl rfl ?_
  refine r_cv t121_9 (f1 hF) rfl ?_
  refine c29L (by exact fN1 hF) (by exact hL) ?_
  refine k_v ?_ rfl
  refine n_cle t121_12 (by omega) (by omega) (fun h12 => ?_) (fun h12 => ?_)
  · refine g_p t121_17 rfl ?_
    refine r_getr t121_18 (f0 hF) rfl rfl ?_
    refine g_p t121_21 rfl ?_
    refine r_cv t121_22 (f1 hF) rfl ?_
    refine c34L (by exact fN1 hF) (by exact hL) (by omega) (by omega) (fun s22 fr22 hL => ?_)
    refine k_0 ?_
    have hF := Fx.fr (by exact hF) fr22
    refine g_k (n := 1) t121_25 rfl rfl ?_
    exact b_ret t121_26 rfl (hq s22 fr22 hL)
  · exfalso; omega
theorem c121f (hF : Fx s) (hL : NL s 1 l) (n0 : l.length ≤ 120) (hx : x < 0 ∨ nI l.length < x) (hq : Q (some (.int (bI false))) (mR s)) : gE X (d + 1) 121 [.ref 0, .int x] (mR s) Q := by
  refine en121 rfl rfl ?_
  refine g_p t121_0 rfl ?_
  refine g_lt t121_1 (fun h1 => ?_) (fun h1 => ?_)
  · refine g_k (n := 0) t121_15 rfl rfl ?_
    exact b_ret t121_16 rfl hq
  · refine g_p t121_4 rfl ?_
    refine g_p t121_5 rfl ?_
    refine r_getr t121_6 (f0 hF) rfl rfl ?_
    refine r_cv t121_9 (f1 hF) rfl ?_
    refine c29L (by exact fN1 hF) (by exact hL) ?_
    refine k_v ?_ rfl
    refine g_cle t121_12 (fun h12 => ?_) (fun h12 => ?_)
    · rcases hx with h | h
      · exact absurd h h1
      · exact absurd h12 (Int32.not_le.mpr h)
    · refine g_k (n := 0) t121_15 rfl rfl ?_
      exact b_ret t121_16 rfl hq
theorem c123_0 (hF : Fx s) (hq : Q (some (.ref 3)) (mR s)) : gE X d 123 [.ref 0, .int (nI 0)] (mR s) Q := by
  refine en123 rfl rfl ?_
  refine g_p t123_0 rfl ?_
  refine g_sw (tgt := 32) t123_1 (by decide) ?_
  refine g_p t123_32 rfl ?_
  refine r_getr t123_33 (f0 hF) rfl rfl ?_
  exact a_ret t123_36 rfl rfl hq
theorem c123_1 (hF : Fx s) (hq : Q (some (.ref 4)) (mR s)) : gE X d 123 [.ref 0, .int (nI 1)] (mR s) Q := by
  refine en123 rfl rfl ?_
  refine g_p t123_0 rfl ?_
  refine g_sw (tgt := 37) t123_1 (by decide) ?_
  refine g_p t123_37 rfl ?_
  refine r_getr t123_38 (f0 hF) rfl rfl ?_
  exact a_ret t123_41 rfl rfl hq
theorem c123_2 (hF : Fx s) (hq : Q (some (.ref 12)) (mR s)) : gE X d 123 [.ref 0, .int (nI 2)] (mR s) Q := by
  refine en123 rfl rfl ?_
  refine g_p t123_0 rfl ?_
  refine g_sw (tgt := 42) t123_1 (by decide) ?_
  refine g_p t123_42 rfl ?_
  refine r_getr t123_43 (f0 hF) rfl rfl ?_
  exact a_ret t123_46 rfl rfl hq
theorem c123_3 (hF : Fx s) (hq : Q (some (.ref 15)) (mR s)) : gE X d 123 [.ref 0, .int (nI 3)] (mR s) Q := by
  refine en123 rfl rfl ?_
  refine g_p t123_0 rfl ?_
  refine g_sw (tgt := 47) t123_1 (by decide) ?_
  refine g_p t123_47 rfl ?_
  refine r_getr t123_48 (f0 hF) rfl rfl ?_
  exact a_ret t123_51 rfl rfl hq
theorem c123n (hF : Fx s) (hx : inN 4 x = false) (hq : Q (some .null) (mR s)) : gE X d 123 [.ref 0, .int x] (mR s) Q := by
  refine en123 rfl rfl ?_
  refine g_p t123_0 rfl ?_
  refine g_sw t123_1 (sw_g (by decide) rfl rfl hx) ?_
  refine g_p t123_52 rfl ?_
  exact a_ret t123_53 rfl rfl hq
end TV
