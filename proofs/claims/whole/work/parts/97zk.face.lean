/-! THE FACE, 10: days by draws; counts -/
def lcg (x : Int64) : Int64 := x * 6364136223846793005 + 1442695040888963407
def lD (x : Int64) : Nat := x.toUInt64.toNat / 2 ^ 33
theorem lD_lt (x : Int64) : lD x < 2 ^ 31 := by
  unfold lD
  have : x.toUInt64.toNat < 2 ^ 64 := x.toUInt64.toNat_lt
  omega
theorem lush (x : Int64) : (x.toUInt64 >>> ((nI 33).toInt64.toUInt64 &&& Int64.toUInt64 63)).toInt64 = lN (lD x) := by
  have h : ((nI 33).toInt64.toUInt64 &&& Int64.toUInt64 63).toNat % 64 = 33 := by decide
  apply Int64.toBitVec_inj.mp
  apply BitVec.eq_of_toNat_eq
  show (x.toUInt64 >>> ((nI 33).toInt64.toUInt64 &&& Int64.toUInt64 63)).toNat = (BitVec.ofNat 64 (lD x)).toNat
  have := lD_lt x
  rw [UInt64.toNat_shiftRight, h, Nat.shiftRight_eq_div_pow, BitVec.toNat_ofNat, Nat.mod_eq_of_lt (by omega)]
  rfl
/-- the seed behind i draws; the row behind i draws -/
def lx (x : Int64) : Nat → Int64
  | 0 => x
  | i + 1 => lcg (lx x i)
def lrow (P r w row : Nat) (x : Int64) : Nat → Nat
  | 0 => row
  | i + 1 => drw P r w (lrow P r w row x i) (lD (lx x (i + 1)))
def ldi (P r w row day : Nat) (di : Nat → Nat) (x : Int64) (i k : Nat) : Nat := if day ≤ k ∧ k < day + i then lrow P r w row x (k - day + 1) else di k
theorem sn_std {P r w c t : Nat} (hP : P ≤ 5) (hc : c < mn P) (ht : t ∈ sn P r w c) : std P r w t = true := (List.mem_filter.mp ht).2
theorem drw_std {P r w row D : Nat} (h : std P r w row = true) : std P r w (drw P r w row D) = true := by
  unfold drw
  split
  · exact h
  · rename_i h0
    have h1 : D % ((sn P r w row).length + 1) < (sn P r w row).length + 1 := Nat.mod_lt _ (by omega)
    have h2 : D % ((sn P r w row).length + 1) - 1 < (sn P r w row).length := by omega
    exact (List.mem_filter.mp (getD_mem h2)).2
theorem lrow_std {P r w row : Nat} {x : Int64} (h : std P r w row = true) (i : Nat) : std P r w (lrow P r w row x i) = true := by
  induction i with
  | zero => exact h
  | succ i ih => exact drw_std ih
def DrwOK (P day : Nat) (y : Int32) (n : Nat) : Prop := 0 < P ∧ y = nI n ∧ 1 ≤ n ∧ n ≤ 20 ∧ day + n ≤ 60
section FK
variable {X : am_X} {d : Nat} {s : mM} {hp : am_H} {Q : Option Value → am_H → Prop} {P r w pd row day left a c k q n p B : Nat} {bp wp lp ps : List Nat} {y z u : Int32} {x : Int64} {bks : List Bk} {wds : List (List Nat)} {b : Bk} {to : List (Nat × Nat)} {acts se : List Act} {di : Nat → Nat} {tp : List Nat}
theorem c169t (hF : Fx s) (hR : CR P s) (hW : CW r w pd row day left s) (hA : CA acts s) (hD : CD 34 day di s) (hr5 : r ≤ 5) (hw5 : w ≤ 5) (hst : 0 < P → std P r w row = true) (hk : DrwOK P day y n)
    (hq : ∀ s', Fr (34 :: wA) s s' → CA [] s' → CW r w pd (lrow P r w row x n) (day + n) pd s' → CD 34 (day + n) (ldi P r w row day di x n) s' → Q (some (.int (nI (day + n)))) (mR s')) : gE X (d + 4) 169 [.ref 0, .int y, .long x] (mR s) Q := by
  obtain ⟨hP0, rfl, hn1, hn20, hdn⟩ := hk
  have hP5 := hR.2.2.1
  have hm := mn_le hP5
  have hs := hst hP0
  have K : ∀ j i : Nat, i + j = n → ∀ s' ac lf, Fr (34 :: wA) s s' → CA ac s' → CW r w pd (lrow P r w row x i) (day + i) lf s' → CD 34 (day + i) (ldi P r w row day di x i) s' → (0 < i → lf = pd) → gG X (d + 4) 169 37 [.ref 0, .int (nI n), .long x, .float 0, .long (lx x i), .float 0, .int (nI i)] [] (mR s') Q := by
    intro j
    induction j with
    | zero =>
      intro i hj s' ac lf hf hA hW hD hlf
      have hj : i = n := by omega
      subst hj
      have hF := hF.fr hf
      have hlf := hlf (by omega)
      subst hlf
      refine g_p t169_37 rfl ?_
      refine g_p t169_39 rfl ?_
      refine n_cge t169_40 (by omega) (by omega) (fun h40 => ?_) (fun h40 => ?_)
      · refine g_p t169_80 rfl ?_
        refine r_getr t169_81 (f0 hF) rfl rfl ?_
        refine r_cv t169_84 (f32 hF) rfl ?_
        refine c114 (by exact hF) (by exact hA) (fun s84 fr84 hA => ?_)
        refine k_0 ?_
        have hF := Fx.fr (by exact hF) fr84
        refine g_p t169_87 rfl ?_
        refine r_getr t169_88 (f0 hF) rfl rfl ?_
        refine r_cv t169_91 (f32 hF) rfl ?_
        have hW := hW.fr fr84 (by decide)
        have hW0 := hW
        obtain ⟨e1, e2, e3, e4, e5, e6⟩ := hW
        refine c97 (by exact hF) e5 ?_
        refine k_v ?_ rfl
        exact i_ret t169_94 rfl (hq s84 (hf.tr (fr84.mono (by decide))) hA hW0 (hD.fr fr84 (by decide)))
      · exfalso; omega
    | succ j ih =>
      intro i hj s' ac lf hf hA hW hD hlf
      have hF := hF.fr hf
      have hR := hR.fr hf (by decide)
      have hsi := lrow_std (x := x) hs i
      refine g_p t169_37 rfl ?_
      refine g_p t169_39 rfl ?_
      refine n_cge t169_40 (by omega) (by omega) (fun h40 => ?_) (fun h40 => ?_)
      · exfalso; omega
      · refine g_p t169_43 rfl ?_
        refine g_p t169_45 rfl ?_
        refine g_lmul t169_48 ?_
        refine g_p t169_49 rfl ?_
        refine g_ladd t169_52 ?_
        refine g_ls t169_53 (Nat.le_of_ble_eq_true rfl) (am_s2_4 rfl) ?_
        show gG X (d + 4) 169 55 [.ref 0, .int (nI n), .long x, .float 0, .long (lx x (i + 1)), .float 0, .int (nI i)] [] (mR s') Q
        refine g_p t169_55 rfl ?_
        refine r_getr t169_56 (f0 hF) rfl rfl ?_
        refine g_p t169_59 rfl ?_
        refine g_k (n := 33) t169_61 rfl rfl ?_
        refine g_p t169_63 rfl ?_
        rw [lush]
        refine r_cv t169_64 (f32 hF) rfl ?_
        refine c107 (by exact hF) (by exact hR) (by exact hW) (std_t hsi).1 hr5 hw5 (Nat.lt_trans (lD_lt _) (by decide)) (fun s64 fr64 hW => ?_)
        refine k_0 ?_
        have hF := Fx.fr (by exact hF) fr64
        refine g_p t169_67 rfl ?_
        refine r_getr t169_68 (f0 hF) rfl rfl ?_
        refine r_cv t169_71 (f32 hF) rfl ?_
        have hD := hD.fr fr64 (by decide)
        have hA := hA.fr fr64 (by decide)
        refine c106 (by exact hF) hA hW hD (by omega) (fun s71 fr71 hA hW hD => ?_)
        refine k_0 ?_
        refine g_incn (n := 1) t169_74 rfl rfl (Nat.le_of_ble_eq_true rfl) (am_s1_6 rfl) ?_
        refine g_goto t169_77 ?_
        refine ih (i + 1) (by omega) s71 _ pd (hf.tr ((fr64.mono (by decide)).tr fr71)) hA hW (fun k hk => ?_) (fun _ => rfl)
        refine (hD k hk).trans ?_
        show nI (if k = day + i then lrow P r w row x (i + 1) else ldi P r w row day di x i k) = nI (ldi P r w row day di x (i + 1) k)
        unfold ldi
        by_cases h9 : k = day + i
        · subst h9
          rw [if_pos rfl, if_pos (by omega), show day + i - day + 1 = i + 1 by omega]
        · rw [if_neg h9]
          by_cases h8 : day ≤ k ∧ k < day + i
          · rw [if_pos h8, if_pos (by omega)]
          · rw [if_neg h8, if_neg (by omega)]
  have hW0 := hW
  obtain ⟨e1, e2, e3, e4, e5, e6⟩ := hW
  refine en169 rfl rfl ?_
  refine g_p t169_0 rfl ?_
  refine r_cv t169_1 (f0 hF) rfl ?_
  refine c129 (by exact hF) (by exact hR.1) hP5 ?_
  refine k_v ?_ rfl
  refine b_eq t169_4 (fun h4 => ?_) (fun h4 => ?_)
  · first
      | exact no_b (decide_eq_true hP0) h4
      | exact no_b (decide_eq_true (nI_le (show n ≤ 60 - day by omega) (by omega))) h26
      | (exfalso; omega)
  · refine g_p t169_7 rfl ?_
    refine g_k (n := 1) t169_8 rfl rfl ?_
    refine n_clt t169_9 (by omega) (by omega) (fun h9 => ?_) (fun h9 => ?_)
    · first
        | exact no_b (decide_eq_true hP0) h4
        | exact no_b (decide_eq_true (nI_le (show n ≤ 60 - day by omega) (by omega))) h26
        | (exfalso; omega)
    · refine g_p t169_12 rfl ?_
      refine g_k (n := 20) t169_13 rfl rfl ?_
      refine n_cgt t169_15 (by omega) (by omega) (fun h15 => ?_) (fun h15 => ?_)
      · first
          | exact no_b (decide_eq_true hP0) h4
          | exact no_b (decide_eq_true (nI_le (show n ≤ 60 - day by omega) (by omega))) h26
          | (exfalso; omega)
      · refine g_p t169_18 rfl ?_
        refine r_getr t169_19 (f0 hF) rfl rfl ?_
        refine g_p t169_22 rfl ?_
        refine r_cv t169_23 (f32 hF) rfl ?_
        refine c105 (by exact hF) (by exact e5) (by omega) ?_
        refine k_v ?_ rfl
        refine b_ne t169_26 (fun h26 => ?_) (fun h26 => ?_)
        · refine g_p t169_31 rfl ?_
          refine g_ls t169_32 (Nat.le_of_ble_eq_true rfl) (am_s2_4 rfl) ?_
          refine g_k (n := 0) t169_34 rfl rfl ?_
          refine g_is t169_35 (Nat.le_of_ble_eq_true rfl) (am_s1_6 rfl) ?_
          exact K n 0 (by omega) s acts left Fr.rf hA hW0 (fun k hk => (hD k hk).trans (by unfold ldi; rw [if_neg (by omega)])) (fun h => absurd h (by decide))
        · first
            | exact no_b (decide_eq_true hP0) h4
            | exact no_b (decide_eq_true (nI_le (show n ≤ 60 - day by omega) (by omega))) h26
            | (exfalso; omega)
theorem c169f (hF : Fx s) (hR : CR P s) (hW : CW r w pd row day left s) (hd : day ≤ 60) (hno : ¬ ∃ n, DrwOK P day y n) (hq : Q (some (.int (-1))) (mR s)) : gE X (d + 4) 169 [.ref 0, .int y, .long x] (mR s) Q := by
  have hP5 := hR.2.2.1
  have hm := mn_le hP5
  obtain ⟨e1, e2, e3, e4, e5, e6⟩ := hW
  refine en169 rfl rfl ?_
  refine g_p t169_0 rfl ?_
  refine r_cv t169_1 (f0 hF) rfl ?_
  refine c129 (by exact hF) (by exact hR.1) hP5 ?_
  refine k_v ?_ rfl
  refine b_eq t169_4 (fun h4 => ?_) (fun h4 => ?_)
  · refine g_p t169_29 rfl ?_
    exact i_ret t169_30 rfl hq
  · refine g_p t169_7 rfl ?_
    refine g_k (n := 1) t169_8 rfl rfl ?_
    refine g_clt t169_9 (fun h9 => ?_) (fun h9 => ?_)
    · refine g_p t169_29 rfl ?_
      exact i_ret t169_30 rfl hq
    · refine g_p t169_12 rfl ?_
      refine g_k (n := 20) t169_13 rfl rfl ?_
      refine g_cgt t169_15 (fun h15 => ?_) (fun h15 => ?_)
      · refine g_p t169_29 rfl ?_
        exact i_ret t169_30 rfl hq
      · refine g_p t169_18 rfl ?_
        refine r_getr t169_19 (f0 hF) rfl rfl ?_
        refine g_p t169_22 rfl ?_
        refine r_cv t169_23 (f32 hF) rfl ?_
        refine c105 (by exact hF) (by exact e5) (by omega) ?_
        refine k_v ?_ rfl
        refine b_ne t169_26 (fun h26 => ?_) (fun h26 => ?_)
        · exact absurd (by
            obtain ⟨n, n1, n2, n3⟩ := i_rng (m := 1) (M := 20) (by decide) h9 (by decide) h15
            subst n3
            have h9 := of_decide_eq_true h26
            have h8 := (nI_leI (by omega) (by omega)).mp h9
            exact ⟨n, of_decide_eq_true h4, rfl, n1, n2, by omega⟩) hno
        · refine g_p t169_29 rfl ?_
          exact i_ret t169_30 rfl hq
theorem sw_f {x : Int32} {r : List Nat} {d0 : Nat} {k : Value} (hk : k = .int 0) (hr : r.length = 14) (h : inN 14 x = false) : am_sw x (d0 :: r) k = d0 := by
  subst hk
  have h1 : x.toInt < 0 ∨ (0 : Int) + (14 : Nat) ≤ x.toInt := by
    by_cases hx : x < 0
    · left; simpa using Int32.lt_iff_toInt_lt.mp hx
    · right
      obtain ⟨j, hj, rfl⟩ := nI_of hx
      rw [nI_toInt hj]
      rcases Nat.lt_or_ge j 14 with h2 | h2
      · exact absurd (inN_n h2 (by decide)) (by rw [h]; decide)
      · omega
  unfold am_sw
  simp only
  rw [if_pos (by rw [hr]; exact h1)]
def cntv (v : List Nat) (x : Int32) : Int32 := if inN 14 x = true then nI (v.getD x.toNatClampNeg 0) else -1000000
theorem c173 (hF : Fx s) (hR : CR P s) (hW : CW r w pd row day left s) (hA : CA acts s) (hrow : row < mn P ∨ P = 0) (hS : CS se s) (hT : CTo to s) (hB : AL s 16 bp) (hWd : AL s 17 wp) (hL : AL s 18 lp) (ht : NL s 1 tp) (hq : Q (some (.int (cntv [P, r, w, pd, left, day, dg P row, bp.length, wp.length, lp.length, tp.length, acts.length, se.length, to.length] y))) (mR s)) : gE X (d + 3) 173 [.ref 0, .int y] (mR s) Q := by
  have hP5 := hR.2.2.1
  have hm := mn_le hP5
  obtain ⟨e1, e2, e3, e4, e5, e6⟩ := hW
  cases hy : inN 14 y with
  | false =>
    rw [cntv, if_neg (by rw [hy]; decide)] at hq
    refine en173 rfl rfl ?_
    refine g_p t173_0 rfl ?_
    refine g_sw t173_1 (sw_f rfl rfl hy) ?_
    refine g_p t173_184 rfl ?_
    exact i_ret t173_186 rfl hq
  | true =>
    rw [cntv, if_pos hy] at hq
    obtain ⟨i, hi, rfl⟩ := inN_t hy (by decide)
    rw [nI_clamp (by omega)] at hq
    rcases (show i = 0 ∨ i = 1 ∨ i = 2 ∨ i = 3 ∨ i = 4 ∨ i = 5 ∨ i = 6 ∨ i = 7 ∨ i = 8 ∨ i = 9 ∨ i = 10 ∨ i = 11 ∨ i = 12 ∨ i = 13 by omega) with rfl | rfl | rfl | rfl | rfl | rfl | rfl | rfl | rfl | rfl | rfl | rfl | rfl | rfl
    · refine en173 rfl rfl ?_
      refine g_p t173_0 rfl ?_
      refine g_sw (tgt := 72) t173_1 (by decide) ?_
      refine g_p t173_72 rfl ?_
      refine r_getr t173_73 (f0 hF) rfl rfl ?_
      refine r_cv t173_76 (f19 hF) rfl ?_
      refine c74 (by exact hF) hR.1 ?_
      refine k_v ?_ rfl
      exact i_ret t173_79 (by first | rfl | (rw [if_pos (by decide)]; rfl) | (rw [if_neg (by decide)]; rfl)) hq
    · refine en173 rfl rfl ?_
      refine g_p t173_0 rfl ?_
      refine g_sw (tgt := 80) t173_1 (by decide) ?_
      refine g_p t173_80 rfl ?_
      refine r_getr t173_81 (f0 hF) rfl rfl ?_
      refine g_p t173_84 rfl ?_
      refine r_cv t173_85 (f32 hF) rfl ?_
      refine c100 (by exact hF) e1 e2 ?_
      refine k_v ?_ rfl
      exact i_ret t173_88 (by first | rfl | (rw [if_pos (by decide)]; rfl) | (rw [if_neg (by decide)]; rfl)) hq
    · refine en173 rfl rfl ?_
      refine g_p t173_0 rfl ?_
      refine g_sw (tgt := 80) t173_1 (by decide) ?_
      refine g_p t173_80 rfl ?_
      refine r_getr t173_81 (f0 hF) rfl rfl ?_
      refine g_p t173_84 rfl ?_
      refine r_cv t173_85 (f32 hF) rfl ?_
      refine c100 (by exact hF) e1 e2 ?_
      refine k_v ?_ rfl
      exact i_ret t173_88 (by first | rfl | (rw [if_pos (by decide)]; rfl) | (rw [if_neg (by decide)]; rfl)) hq
    · refine en173 rfl rfl ?_
      refine g_p t173_0 rfl ?_
      refine g_sw (tgt := 89) t173_1 (by decide) ?_
      refine g_p t173_89 rfl ?_
      refine r_getr t173_90 (f0 hF) rfl rfl ?_
      refine r_cv t173_93 (f32 hF) rfl ?_
      refine c99 (by exact hF) e3 ?_
      refine k_v ?_ rfl
      exact i_ret t173_96 (by first | rfl | (rw [if_pos (by decide)]; rfl) | (rw [if_neg (by decide)]; rfl)) hq
    · refine en173 rfl rfl ?_
      refine g_p t173_0 rfl ?_
      refine g_sw (tgt := 97) t173_1 (by decide) ?_
      refine g_p t173_97 rfl ?_
      refine r_getr t173_98 (f0 hF) rfl rfl ?_
      refine r_cv t173_101 (f32 hF) rfl ?_
      refine c98 (by exact hF) e6 ?_
      refine k_v ?_ rfl
      exact i_ret t173_104 (by first | rfl | (rw [if_pos (by decide)]; rfl) | (rw [if_neg (by decide)]; rfl)) hq
    · refine en173 rfl rfl ?_
      refine g_p t173_0 rfl ?_
      refine g_sw (tgt := 105) t173_1 (by decide) ?_
      refine g_p t173_105 rfl ?_
      refine r_getr t173_106 (f0 hF) rfl rfl ?_
      refine r_cv t173_109 (f32 hF) rfl ?_
      refine c97 (by exact hF) e5 ?_
      refine k_v ?_ rfl
      exact i_ret t173_112 (by first | rfl | (rw [if_pos (by decide)]; rfl) | (rw [if_neg (by decide)]; rfl)) hq
    · refine en173 rfl rfl ?_
      refine g_p t173_0 rfl ?_
      refine g_sw (tgt := 113) t173_1 (by decide) ?_
      refine g_p t173_113 rfl ?_
      refine r_getr t173_114 (f0 hF) rfl rfl ?_
      refine g_p t173_117 rfl ?_
      refine r_getr t173_118 (f0 hF) rfl rfl ?_
      refine r_cv t173_121 (f32 hF) rfl ?_
      refine c96 (by exact hF) e4 ?_
      refine k_v ?_ rfl
      refine r_cv t173_124 (f19 hF) rfl ?_
      refine c85 (by exact hF) hR.1 hP5 hR.2.2.2.1 hrow ?_
      refine k_v ?_ rfl
      exact i_ret t173_127 (by first | rfl | (rw [if_pos (by decide)]; rfl) | (rw [if_neg (by decide)]; rfl)) hq
    · refine en173 rfl rfl ?_
      refine g_p t173_0 rfl ?_
      refine g_sw (tgt := 128) t173_1 (by decide) ?_
      refine g_p t173_128 rfl ?_
      refine r_getr t173_129 (f0 hF) rfl rfl ?_
      refine r_cv t173_132 (f16 hF) rfl ?_
      refine c278 (by exact f16 hF) hB ?_
      refine k_v ?_ rfl
      exact i_ret t173_135 (by first | rfl | (rw [if_pos (by decide)]; rfl) | (rw [if_neg (by decide)]; rfl)) hq
    · refine en173 rfl rfl ?_
      refine g_p t173_0 rfl ?_
      refine g_sw (tgt := 136) t173_1 (by decide) ?_
      refine g_p t173_136 rfl ?_
      refine r_getr t173_137 (f0 hF) rfl rfl ?_
      refine r_cv t173_140 (f17 hF) rfl ?_
      refine c278 (by exact f17 hF) hWd ?_
      refine k_v ?_ rfl
      exact i_ret t173_143 (by first | rfl | (rw [if_pos (by decide)]; rfl) | (rw [if_neg (by decide)]; rfl)) hq
    · refine en173 rfl rfl ?_
      refine g_p t173_0 rfl ?_
      refine g_sw (tgt := 144) t173_1 (by decide) ?_
      refine g_p t173_144 rfl ?_
      refine r_getr t173_145 (f0 hF) rfl rfl ?_
      refine r_cv t173_148 (f18 hF) rfl ?_
      refine c278 (by exact f18 hF) hL ?_
      refine k_v ?_ rfl
      exact i_ret t173_151 (by first | rfl | (rw [if_pos (by decide)]; rfl) | (rw [if_neg (by decide)]; rfl)) hq
    · refine en173 rfl rfl ?_
      refine g_p t173_0 rfl ?_
      refine g_sw (tgt := 152) t173_1 (by decide) ?_
      refine g_p t173_152 rfl ?_
      refine r_getr t173_153 (f0 hF) rfl rfl ?_
      refine r_cv t173_156 (f1 hF) rfl ?_
      refine c29L (by exact fN1 hF) ht ?_
      refine k_v ?_ rfl
      exact i_ret t173_159 (by first | rfl | (rw [if_pos (by decide)]; rfl) | (rw [if_neg (by decide)]; rfl)) hq
    · refine en173 rfl rfl ?_
      refine g_p t173_0 rfl ?_
      refine g_sw (tgt := 160) t173_1 (by decide) ?_
      refine g_p t173_160 rfl ?_
      refine r_getr t173_161 (f0 hF) rfl rfl ?_
      refine r_cv t173_164 (f32 hF) rfl ?_
      refine c113 (by exact hF) hA ?_
      refine k_v ?_ rfl
      exact i_ret t173_167 (by first | rfl | (rw [if_pos (by decide)]; rfl) | (rw [if_neg (by decide)]; rfl)) hq
    · refine en173 rfl rfl ?_
      refine g_p t173_0 rfl ?_
      refine g_sw (tgt := 168) t173_1 (by decide) ?_
      refine g_p t173_168 rfl ?_
      refine r_getr t173_169 (f0 hF) rfl rfl ?_
      refine r_cv t173_172 (f61 hF) rfl ?_
      refine c39 (by exact hF) hS ?_
      refine k_v ?_ rfl
      exact i_ret t173_175 (by first | rfl | (rw [if_pos (by decide)]; rfl) | (rw [if_neg (by decide)]; rfl)) hq
    · refine en173 rfl rfl ?_
      refine g_p t173_0 rfl ?_
      refine g_sw (tgt := 176) t173_1 (by decide) ?_
      refine g_p t173_176 rfl ?_
      refine r_getr t173_177 (f0 hF) rfl rfl ?_
      refine r_cv t173_180 (f76 hF) rfl ?_
      refine c29L (by exact fN76 hF) hT.1 ?_
      rw [List.length_map]
      refine k_v ?_ rfl
      exact i_ret t173_183 (by first | rfl | (rw [if_pos (by decide)]; rfl) | (rw [if_neg (by decide)]; rfl)) hq
end FK
