/-! THE REFERENCE, 25: the tape -/
theorem sb8 (x : Int32) {j : Nat} (hj : j < 4) : (x >>> (nI (8 * j) &&& 31)) &&& nI 255 = nI (by8 x j) := by
  rw [pk_and _ 8 (by decide)]
  unfold by8
  congr 1
  have e : (x >>> (nI (8 * j) &&& 31)).toBitVec = x.toBitVec.sshiftRight (8 * j) := by
    rw [Int32.toBitVec_shiftRight]
    rcases (show j = 0 ∨ j = 1 ∨ j = 2 ∨ j = 3 by omega) with rfl | rfl | rfl | rfl <;> rfl
  rw [e]
  have h1 := BitVec.toInt_sshiftRight (x := x.toBitVec) (n := 8 * j)
  rw [Int.shiftRight_eq_div_pow] at h1
  have h2 := BitVec.toInt_eq_toNat_bmod (x.toBitVec.sshiftRight (8 * j))
  have h3 := BitVec.toInt_eq_toNat_bmod x.toBitVec
  have h4 := x.toBitVec.isLt
  have h5 := (x.toBitVec.sshiftRight (8 * j)).isLt
  rw [h2, h3, Int.bmod_def, Int.bmod_def] at h1
  rcases (show j = 0 ∨ j = 1 ∨ j = 2 ∨ j = 3 by omega) with rfl | rfl | rfl | rfl <;> simp only [Nat.reduceMul, Nat.reducePow, Int.reducePow, Nat.pow_zero, Nat.div_one] at h1 h2 h3 h4 h5 ⊢ <;> omega
theorem by_b (x : Int32) {j : Nat} (hj : j < 4) : (x >>> (nI (8 * j) &&& 31)).toInt8.toInt32 = sb (by8 x j) := by
  unfold sb
  rw [← sb8 x hj, Int32.toInt8_and]
  have : (nI 255).toInt8 = -1 := by decide
  rw [this, Int8.and_neg_one]
theorem nar_b (z : Int8) : vp_nar .byte z.toInt32 = z.toInt32 := by
  show z.toInt32.toInt8.toInt32 = _
  rw [Int8.toInt8_toInt32]
theorem fbl_ln {x : Int32} : ∀ j, (fbl x j).length ≤ j := by
  intro j
  induction j with
  | zero => exact Nat.le_refl _
  | succ j ih =>
    unfold fbl
    rw [List.length_append]
    split
    · exact Nat.le_trans (Nat.le_of_eq (Nat.zero_add _)) (Nat.le_succ_of_le ih)
    · rw [List.length_singleton]; omega
theorem fb_len {x : Int32} : (fb x).length ≤ 4 := fbl_ln 4
def MTp (l : List Nat) (s : mM) : Prop := ri s 80 6 = nI l.length ∧ ∀ k, k < l.length → ri s 81 k = sb (l.getD k 0)
theorem MTp.fm {A B : List Nat} {l : List Nat} {s s' : mM} (h : MTp l s) (f : FM A B s s') (h1 : 6 ∉ B) (h2 : 81 ∉ 80 :: A) : MTp l s' := ⟨(f.f h1).trans h.1, fun k hk => (f.g h2).trans (h.2 k hk)⟩
theorem MTp.ht {l : List Nat} {s : mM} (h : MTp l s) (hF : Fx s) (hl : l.length ≤ 120) (hb : isB l) : HT 81 120 0 l s := ⟨fun k hk => by rw [Nat.zero_add]; exact h.2 k hk, f81 hF, by decide, by decide, Or.inl rfl, hl, hb⟩
section RH_
variable {X : am_X} {d : Nat} {s : mM} {hp : am_H} {Q : Option Value → am_H → Prop} {k n w : Nat} {t l : List Nat} {x x1 x2 x3 x4 x5 : Int32} {T nT B : Nat}
theorem c179 (hq : Q (some (.int (nI (fb x).length))) hp) : gE X d 179 [.int x] hp Q := by
  have K : ∀ j, j ≤ 4 → ∀ n, n + (fbl x j).length = (fb x).length → gG X d 179 5 [.int x, .int (nI n), .int (kk8 j)] [] hp Q := by
    intro j
    induction j with
    | zero =>
      intro hj n hn
      have hn : n = (fb x).length := hn
      subst hn
      show gG X d 179 5 [.int x, .int (nI (fb x).length), .int (-8)] [] hp Q
      refine g_p t179_5 rfl ?_
      refine g_lt t179_6 (fun h6 => ?_) (fun h6 => ?_)
      · refine g_p t179_33 rfl ?_
        exact i_ret t179_34 rfl hq
      · exact absurd (by decide) h6
    | succ j ih =>
      intro hj n hn
      have hb8 := by8_lt x j
      show gG X d 179 5 [.int x, .int (nI n), .int (nI (8 * j))] [] hp Q
      unfold fbl at hn
      rw [List.length_append] at hn
      refine g_p t179_5 rfl ?_
      refine n_lt t179_6 (by omega) ?_
      refine g_p t179_9 rfl ?_
      refine g_p t179_10 rfl ?_
      refine g_p t179_11 rfl ?_
      refine g_ishr t179_12 ?_
      refine g_k (n := 255) t179_13 rfl rfl ?_
      refine g_iand t179_16 ?_
      rw [sb8 x (by omega)]
      refine n_eq t179_17 (by omega) (fun h17 => ?_) (fun h17 => ?_)
      · refine g_k (n := 0) t179_24 rfl rfl ?_
        refine g_addn t179_25 ?_
        refine g_isn t179_26 (Nat.le_of_ble_eq_true rfl) (am_s1_1 rfl) ?_
        refine g_inc t179_27 rfl (Nat.le_of_ble_eq_true rfl) (am_s1_2 rfl) ?_
        refine g_goto t179_30 ?_
        rw [kk8_s j (by omega)]
        first
          | (have u0 : by8 x j = 0 := h17
             rw [if_pos u0] at hn
             exact ih (by omega) n (by simpa using hn))
          | (have u0 : ¬ by8 x j = 0 := h17
             rw [if_neg u0] at hn
             exact ih (by omega) (n + 1) (by rw [List.length_singleton] at hn; omega))
      · refine g_k (n := 1) t179_20 rfl rfl ?_
        refine g_goto t179_21 ?_
        refine g_addn t179_25 ?_
        refine g_isn t179_26 (Nat.le_of_ble_eq_true rfl) (am_s1_1 rfl) ?_
        refine g_inc t179_27 rfl (Nat.le_of_ble_eq_true rfl) (am_s1_2 rfl) ?_
        refine g_goto t179_30 ?_
        rw [kk8_s j (by omega)]
        first
          | (have u0 : by8 x j = 0 := h17
             rw [if_pos u0] at hn
             exact ih (by omega) n (by simpa using hn))
          | (have u0 : ¬ by8 x j = 0 := h17
             rw [if_neg u0] at hn
             exact ih (by omega) (n + 1) (by rw [List.length_singleton] at hn; omega))
  refine en179 rfl ?_
  refine g_k (n := 0) t179_0 rfl rfl ?_
  refine g_isn t179_1 (Nat.le_of_ble_eq_true rfl) (am_s1_1 rfl) ?_
  refine g_k (n := 24) t179_2 rfl rfl ?_
  refine g_isn t179_4 (Nat.le_of_ble_eq_true rfl) (am_s1_2 rfl) ?_
  exact K 4 (Nat.le_refl _) 0 (Nat.zero_add _)
theorem c180 (hF : Fx s) (hT : MTp l s) (hl : l.length + (fb x).length ≤ 120) (hq : ∀ s', FM [81] [6] s s' → MTp (l ++ fb x) s' → Q none (mR s')) : gE X d 180 [.ref 80, .int x] (mR s) Q := by
  have K : ∀ j, j ≤ 4 → ∀ l' s', l' ++ fbl x j = l ++ fb x → Fx s' → FM [81] [6] s s' → MTp l' s' → gG X d 180 3 [.ref 80, .int x, .int (kk8 j)] [] (mR s') Q := by
    intro j
    induction j with
    | zero =>
      intro hj l' s' he hF hf hT
      have he : l' = l ++ fb x := by rw [← he]; exact (List.append_nil l').symm
      subst he
      show gG X d 180 3 [.ref 80, .int x, .int (-8)] [] (mR s') Q
      refine g_p t180_3 rfl ?_
      refine g_lt t180_4 (fun h4 => ?_) (fun h4 => ?_)
      · exact v_ret t180_49 (hq _ hf hT)
      · exact absurd (by decide) h4
    | succ j ih =>
      intro hj l' s' he hF hf hT
      have hb8 := by8_lt x j
      have e6 := hT.1
      show gG X d 180 3 [.ref 80, .int x, .int (nI (8 * j))] [] (mR s') Q
      unfold fbl at he
      have hlen := congrArg List.length he
      rw [List.length_append, List.length_append, List.length_append] at hlen
      by_cases h0 : by8 x j = 0
      · rw [if_pos h0, List.nil_append] at he
        refine g_p t180_3 rfl ?_
        refine n_lt t180_4 (by omega) ?_
        refine g_p t180_7 rfl ?_
        refine g_p t180_8 rfl ?_
        refine g_ishr t180_9 ?_
        refine g_k (n := 255) t180_10 rfl rfl ?_
        refine g_iand t180_13 ?_
        rw [sb8 x (by omega)]
        refine n_ne t180_14 (by omega) (fun h14 => ?_) (fun h14 => ?_)
        · exact absurd h0 h14
        · refine g_goto t180_17 ?_
          refine g_inc t180_43 rfl (Nat.le_of_ble_eq_true rfl) (am_s1_2 rfl) ?_
          refine g_goto t180_46 ?_
          rw [kk8_s j (by omega)]
          exact ih (by omega) l' s' he hF hf hT
      · rw [if_neg h0, ← List.append_assoc] at he
        rw [if_neg h0, List.length_singleton] at hlen
        refine g_p t180_3 rfl ?_
        refine n_lt t180_4 (by omega) ?_
        refine g_p t180_7 rfl ?_
        refine g_p t180_8 rfl ?_
        refine g_ishr t180_9 ?_
        refine g_k (n := 255) t180_10 rfl rfl ?_
        refine g_iand t180_13 ?_
        rw [sb8 x (by omega)]
        refine n_ne t180_14 (by omega) (fun h14 => ?_) (fun h14 => ?_)
        · refine g_p t180_20 rfl ?_
          refine r_getr t180_21 (f80 hF) rfl rfl ?_
          refine g_p t180_24 rfl ?_
          refine r_gete t180_25 (f80 hF) rfl rfl e6 ?_
          refine g_p t180_28 rfl ?_
          refine g_p t180_29 rfl ?_
          refine g_ishr t180_30 ?_
          refine g_p t180_31 rfl ?_
          rw [by_b x (by omega)]
          refine r_bast t180_32 (f81 hF) (by decide) (by omega) ?_
          refine g_p t180_33 rfl ?_
          refine g_p t180_34 rfl ?_
          refine r_gete t180_35 (f80 hF) rfl rfl e6 ?_
          refine g_k (n := 1) t180_38 rfl rfl ?_
          refine g_addn t180_39 ?_
          refine r_puti t180_40 (f80 hF) rfl rfl ?_
          refine g_inc t180_43 rfl (Nat.le_of_ble_eq_true rfl) (am_s1_2 rfl) ?_
          refine g_goto t180_46 ?_
          rw [kk8_s j (by omega)]
          have e9 : vp_nar .byte (sb (by8 x j)) = sb (by8 x j) := nar_b _
          rw [e9]
          refine ih (by omega) (l' ++ [by8 x j]) _ he (Fx.fr (A := [81, 80]) hF ((Fr.rf.wi (by decide)).wi (by decide))) ((hf.w (by decide) (by decide)).m (by decide)) ⟨?_, fun k hk => ?_⟩
          · rw [ri_wi_eq, List.length_append]; rfl
          · rw [List.length_append] at hk
            rw [ri_wi_ne (by decide)]
            by_cases h9 : k < l'.length
            · rw [gDa1 h9, ri_wi_j (Nat.ne_of_lt h9)]; exact hT.2 k h9
            · have h9 : k = l'.length := by simp at hk; omega
              subst h9
              rw [gDa2, ri_wi_eq]
        · exact absurd h14 h0
  refine en180 rfl rfl ?_
  refine g_k (n := 24) t180_0 rfl rfl ?_
  refine g_isn t180_2 (Nat.le_of_ble_eq_true rfl) (am_s1_2 rfl) ?_
  exact K 4 (Nat.le_refl _) l s rfl hF FM.rf hT
theorem c181 (hF : Fx s) (hT : MTp l s) (n0 : l.length ≤ 120) (hq : ∀ s', FM [81] [0, 6] s s' → MTp (if (l ++ fb x1 ++ fb x2 ++ fb x3 ++ fb x4 ++ fb x5).length ≤ 120 then l ++ fb x1 ++ fb x2 ++ fb x3 ++ fb x4 ++ fb x5 else l) s' → Q (some (.int (if (l ++ fb x1 ++ fb x2 ++ fb x3 ++ fb x4 ++ fb x5).length ≤ 120 then nI (l ++ fb x1 ++ fb x2 ++ fb x3 ++ fb x4 ++ fb x5).length else -1))) (mR s')) : gE X (d + 1) 181 [.ref 80, .int x1, .int x2, .int x3, .int x4, .int x5] (mR s) Q := by
  have e6 := hT.1
  have b1 := fb_len (x := x1)
  have b2 := fb_len (x := x2)
  have b3 := fb_len (x := x3)
  have b4 := fb_len (x := x4)
  have b5 := fb_len (x := x5)
  have hsum : (l ++ fb x1 ++ fb x2 ++ fb x3 ++ fb x4 ++ fb x5).length = l.length + (fb x1).length + (fb x2).length + (fb x3).length + (fb x4).length + (fb x5).length := by simp only [List.length_append]
  by_cases h120 : (l ++ fb x1 ++ fb x2 ++ fb x3 ++ fb x4 ++ fb x5).length ≤ 120
  · rw [if_pos h120, if_pos h120] at hq
    have hT : MTp l (wi s 80 0 (nI 0)) := hT
    have hf : FM [81] [0, 6] s (wi s 80 0 (nI 0)) := FM.rf.m (by decide)
    refine en181 rfl rfl rfl rfl rfl rfl ?_
    refine g_p t181_0 rfl ?_
    refine g_k (n := 0) t181_1 rfl rfl ?_
    refine r_puti t181_2 (f80 hF) rfl rfl ?_
    refine g_p t181_5 rfl ?_
    refine r_gete t181_6 (f80 hF) rfl rfl e6 ?_
    refine g_p t181_9 rfl ?_
    refine g_cs t181_10 rfl rfl rfl ?_
    refine c179 ?_
    refine k_v ?_ rfl
    refine g_addn t181_13 ?_
    refine g_p t181_14 rfl ?_
    refine g_cs t181_15 rfl rfl rfl ?_
    refine c179 ?_
    refine k_v ?_ rfl
    refine g_addn t181_18 ?_
    refine g_p t181_19 rfl ?_
    refine g_cs t181_20 rfl rfl rfl ?_
    refine c179 ?_
    refine k_v ?_ rfl
    refine g_addn t181_23 ?_
    refine g_p t181_24 rfl ?_
    refine g_cs t181_26 rfl rfl rfl ?_
    refine c179 ?_
    refine k_v ?_ rfl
    refine g_addn t181_29 ?_
    refine g_p t181_30 rfl ?_
    refine g_cs t181_32 rfl rfl rfl ?_
    refine c179 ?_
    refine k_v ?_ rfl
    refine g_addn t181_35 ?_
    refine g_k (n := 120) t181_36 rfl rfl ?_
    refine n_cle t181_38 (by omega) (by omega) (fun h38 => ?_) (fun h38 => ?_)
    · refine g_p t181_43 rfl ?_
      refine g_p t181_44 rfl ?_
      refine r_cv t181_45 (f80 hF) rfl ?_
      refine c180 (by exact hF) hT (by simp only [List.length_append] at h120 ⊢; omega) (fun s45 f45 hT => ?_)
      have hf := hf.tr (f45.mono (by decide) (by decide))
      have hF := Fx.fr (by exact hF) f45.1
      refine k_0 ?_
      refine g_p t181_48 rfl ?_
      refine g_p t181_49 rfl ?_
      refine r_cv t181_50 (f80 hF) rfl ?_
      refine c180 (by exact hF) hT (by simp only [List.length_append] at h120 ⊢; omega) (fun s50 f50 hT => ?_)
      have hf := hf.tr (f50.mono (by decide) (by decide))
      have hF := Fx.fr (by exact hF) f50.1
      refine k_0 ?_
      refine g_p t181_53 rfl ?_
      refine g_p t181_54 rfl ?_
      refine r_cv t181_55 (f80 hF) rfl ?_
      refine c180 (by exact hF) hT (by simp only [List.length_append] at h120 ⊢; omega) (fun s55 f55 hT => ?_)
      have hf := hf.tr (f55.mono (by decide) (by decide))
      have hF := Fx.fr (by exact hF) f55.1
      refine k_0 ?_
      refine g_p t181_58 rfl ?_
      refine g_p t181_59 rfl ?_
      refine r_cv t181_61 (f80 hF) rfl ?_
      refine c180 (by exact hF) hT (by simp only [List.length_append] at h120 ⊢; omega) (fun s61 f61 hT => ?_)
      have hf := hf.tr (f61.mono (by decide) (by decide))
      have hF := Fx.fr (by exact hF) f61.1
      refine k_0 ?_
      refine g_p t181_64 rfl ?_
      refine g_p t181_65 rfl ?_
      refine r_cv t181_67 (f80 hF) rfl ?_
      refine c180 (by exact hF) hT (by simp only [List.length_append] at h120 ⊢; omega) (fun s67 f67 hT => ?_)
      have hf := hf.tr (f67.mono (by decide) (by decide))
      have hF := Fx.fr (by exact hF) f67.1
      refine k_0 ?_
      have e6 := hT.1
      refine g_p t181_70 rfl ?_
      refine r_gete t181_71 (f80 hF) rfl rfl e6 ?_
      exact i_ret t181_74 rfl (hq _ hf hT)
    · exfalso; omega
  · rw [if_neg h120, if_neg h120] at hq
    refine en181 rfl rfl rfl rfl rfl rfl ?_
    refine g_p t181_0 rfl ?_
    refine g_k (n := 0) t181_1 rfl rfl ?_
    refine r_puti t181_2 (f80 hF) rfl rfl ?_
    refine g_p t181_5 rfl ?_
    refine r_gete t181_6 (f80 hF) rfl rfl e6 ?_
    refine g_p t181_9 rfl ?_
    refine g_cs t181_10 rfl rfl rfl ?_
    refine c179 ?_
    refine k_v ?_ rfl
    refine g_addn t181_13 ?_
    refine g_p t181_14 rfl ?_
    refine g_cs t181_15 rfl rfl rfl ?_
    refine c179 ?_
    refine k_v ?_ rfl
    refine g_addn t181_18 ?_
    refine g_p t181_19 rfl ?_
    refine g_cs t181_20 rfl rfl rfl ?_
    refine c179 ?_
    refine k_v ?_ rfl
    refine g_addn t181_23 ?_
    refine g_p t181_24 rfl ?_
    refine g_cs t181_26 rfl rfl rfl ?_
    refine c179 ?_
    refine k_v ?_ rfl
    refine g_addn t181_29 ?_
    refine g_p t181_30 rfl ?_
    refine g_cs t181_32 rfl rfl rfl ?_
    refine c179 ?_
    refine k_v ?_ rfl
    refine g_addn t181_35 ?_
    refine g_k (n := 120) t181_36 rfl rfl ?_
    refine n_cle t181_38 (by omega) (by omega) (fun h38 => ?_) (fun h38 => ?_)
    · exfalso; omega
    · refine g_p t181_41 rfl ?_
      exact i_ret t181_42 rfl (hq _ (FM.rf.m (by decide)) hT)
theorem c182t (hF : Fx s) (hT : MTp l s) (n0 : l.length ≤ 120) (hk : k ≤ l.length) (hq : ∀ s', FM [] [0, 6] s s' → MTp (l.take k) s' → Q (some (.int (bI true))) (mR s')) : gE X d 182 [.ref 80, .int (nI k)] (mR s) Q := by
  have e6 := hT.1
  refine en182 rfl rfl ?_
  refine g_p t182_0 rfl ?_
  refine g_k (n := 0) t182_1 rfl rfl ?_
  refine r_puti t182_2 (f80 hF) rfl rfl ?_
  refine g_p t182_5 rfl ?_
  refine n_lt t182_6 (by omega) ?_
  refine g_p t182_9 rfl ?_
  refine g_p t182_10 rfl ?_
  refine r_gete t182_11 (f80 hF) rfl rfl e6 ?_
  refine n_cle t182_14 (by omega) (by omega) (fun h14 => ?_) (fun h14 => ?_)
  · refine g_p t182_19 rfl ?_
    refine g_p t182_20 rfl ?_
    refine r_puti t182_21 (f80 hF) rfl rfl ?_
    refine g_k (n := 1) t182_24 rfl rfl ?_
    refine b_ret t182_25 rfl (hq _ ((FM.rf.m (by decide)).m (by decide)) ⟨?_, fun j hj => ?_⟩)
    · rw [ri_wi_eq, List.length_take, Nat.min_eq_left hk]
    · rw [List.length_take] at hj
      have e : (l.take k).getD j 0 = l.getD j 0 := by rw [List.getD, List.getD, List.getElem?_take_of_lt (by omega)]
      rw [e, ri_wi_ne (by decide), ri_wi_ne (by decide)]
      exact hT.2 j (by omega)
  · exfalso; omega
theorem c182f (hF : Fx s) (hT : MTp l s) (n0 : l.length ≤ 120) (hx : x < 0 ∨ nI l.length < x) (hq : Q (some (.int (bI false))) (mR (wi s 80 0 (nI 0)))) : gE X d 182 [.ref 80, .int x] (mR s) Q := by
  have e6 := hT.1
  refine en182 rfl rfl ?_
  refine g_p t182_0 rfl ?_
  refine g_k (n := 0) t182_1 rfl rfl ?_
  refine r_puti t182_2 (f80 hF) rfl rfl ?_
  refine g_p t182_5 rfl ?_
  refine g_lt t182_6 (fun h6 => ?_) (fun h6 => ?_)
  · refine g_k (n := 0) t182_17 rfl rfl ?_
    exact b_ret t182_18 rfl hq
  · refine g_p t182_9 rfl ?_
    refine g_p t182_10 rfl ?_
    refine r_gete t182_11 (f80 hF) rfl rfl e6 ?_
    refine g_cle t182_14 (fun h14 => ?_) (fun h14 => ?_)
    · exact hx.elim (fun h => absurd h h6) (fun h => absurd h14 (Int32.not_le.mpr h))
    · refine g_k (n := 0) t182_17 rfl rfl ?_
      exact b_ret t182_18 rfl hq
theorem c200t (hF : Fx s) (hX : MT T nT B t s) {j lo hi : Nat} (hS : MS t (.inl j) s) (hhi : hi ≤ 9) (hc : 48 + lo ≤ sgn t j ∧ sgn t j ≤ 48 + hi) (hq : ∀ s', FM [] [10] s s' → MJ t (j + 1) s' → j < t.length → Q (some (.int (nI (sgn t j - 48)))) (mR s')) : gE X (d + 1) 200 [.ref 80, .int (nI lo), .int (nI hi)] (mR s) Q := by
  have h120 := hX.2.2.2.2.2.2.2.2.1
  have hj := hS.2.1
  have hsp := hS.sk
  have hsg := hX.sg j
  have hjl : j < t.length := sgn_pos (by omega)
  have g1 := isR_n (a := lo) (b := hi) (n := sgn t j - 48) (by omega) (by omega) (by omega)
  refine en200 rfl rfl rfl ?_
  refine g_p t200_0 rfl ?_
  refine r_cv t200_1 (f80 hF) rfl ?_
  refine c183 (by exact hF) (by exact hX) (by exact hS) (fun s1 f1 hJ => ?_)
  have hS := hJ.m2 hsp
  have e10 := hJ.2.2
  have h11 := hJ.1
  rw [show lk (sgn t j) = nI (sgn t j) from if_neg (by omega)]
  refine k_v ?_ rfl
  have hF := Fx.fr (by exact hF) f1.1
  have hX := MT.fm (by exact hX) f1 (by decide) (by decide) (by decide) (by decide) (by decide)
  refine g_isn t200_4 (Nat.le_of_ble_eq_true rfl) (am_s1_3 rfl) ?_
  refine g_p t200_5 rfl ?_
  refine r_cv t200_6 (f80 hF) rfl ?_
  refine c187 (by exact hF) (by exact hX) hj (by exact e10) ?_
  rw [← Bool.decide_and, decide_eq_true (show 48 ≤ sgn t j ∧ sgn t j ≤ 57 by omega)]
  refine k_v ?_ rfl
  refine b_eq t200_9 (fun h9 => ?_) (fun h9 => ?_)
  · first
      | exact absurd h9 (by decide)
      | exact absurd h24 (by decide)
  · refine g_p t200_12 rfl ?_
    refine g_k (n := 48) t200_13 rfl rfl ?_
    refine g_subn t200_15 (by omega) ?_
    refine g_p t200_16 rfl ?_
    refine g_p t200_17 rfl ?_
    refine g_p t200_18 rfl ?_
    refine g_p t200_19 rfl ?_
    refine g_p t200_20 rfl ?_
    refine g_cs t200_21 rfl rfl rfl ?_
    refine c176i (a := nI lo) (b := nI hi) rfl rfl ?_
    rw [g1]
    refine k_v ?_ rfl
    refine b_ne t200_24 (fun h24 => ?_) (fun h24 => ?_)
    · refine g_p t200_34 rfl ?_
      refine g_p t200_35 rfl ?_
      refine r_gete t200_36 (f80 hF) rfl rfl e10 ?_
      refine g_k (n := 1) t200_39 rfl rfl ?_
      refine g_addn t200_40 ?_
      refine r_puti t200_41 (f80 hF) rfl rfl ?_
      refine g_p t200_44 rfl ?_
      refine g_k (n := 48) t200_45 rfl rfl ?_
      refine g_subn t200_47 (by omega) ?_
      exact i_ret t200_48 rfl (hq _ (f1.m (by decide)) ⟨h11, hjl, rfl⟩ hjl)
    · first
        | exact absurd h9 (by decide)
        | exact absurd h24 (by decide)
theorem c200f (hF : Fx s) (hX : MT T nT B t s) {j lo hi : Nat} (hS : MS t (.inl j) s) (hhi : hi ≤ 9) (hlo : lo < 2 ^ 31) (hc : ¬ (48 + lo ≤ sgn t j ∧ sgn t j ≤ 48 + hi)) (hq : ∀ s', FM [] [10, 11] s s' → MS t (.inr j) s' → Q (some (.int (-1))) (mR s')) : gE X (d + 1) 200 [.ref 80, .int (nI lo), .int (nI hi)] (mR s) Q := by
  have h120 := hX.2.2.2.2.2.2.2.2.1
  have hj := hS.2.1
  have hsp := hS.sk
  have hsg := hX.sg j
  by_cases hd : 48 ≤ sgn t j ∧ sgn t j ≤ 57
  · have g1 : isR (nI lo) (nI hi) (nI (sgn t j - 48)) = false := by
      cases h : isR (nI lo) (nI hi) (nI (sgn t j - 48)) with
      | false => rfl
      | true =>
        unfold isR at h
        rw [Bool.and_eq_true, decide_eq_true_eq, decide_eq_true_eq] at h
        by_cases h3 : lo ≤ sgn t j - 48
        · exact absurd ((nI_ltI (show hi < 2 ^ 31 by omega) (show sgn t j - 48 < 2 ^ 31 by omega)).mpr (by omega)) (Int32.not_lt.mpr h.2)
        · by_cases h31 : lo < 2 ^ 31
          · exact absurd ((nI_ltI (show sgn t j - 48 < 2 ^ 31 by omega) h31).mpr (by omega)) (Int32.not_lt.mpr h.1)
          · exact absurd hlo h31
    refine en200 rfl rfl rfl ?_
    refine g_p t200_0 rfl ?_
    refine r_cv t200_1 (f80 hF) rfl ?_
    refine c183 (by exact hF) (by exact hX) (by exact hS) (fun s1 f1 hJ => ?_)
    have hS := hJ.m2 hsp
    have e10 := hJ.2.2
    have h11 := hJ.1
    rw [show lk (sgn t j) = nI (sgn t j) from if_neg (by omega)]
    refine k_v ?_ rfl
    have hF := Fx.fr (by exact hF) f1.1
    have hX := MT.fm (by exact hX) f1 (by decide) (by decide) (by decide) (by decide) (by decide)
    refine g_isn t200_4 (Nat.le_of_ble_eq_true rfl) (am_s1_3 rfl) ?_
    refine g_p t200_5 rfl ?_
    refine r_cv t200_6 (f80 hF) rfl ?_
    refine c187 (by exact hF) (by exact hX) hj (by exact e10) ?_
    rw [← Bool.decide_and, decide_eq_true hd]
    refine k_v ?_ rfl
    refine b_eq t200_9 (fun h9 => ?_) (fun h9 => ?_)
    · refine g_p t200_27 rfl ?_
      refine r_cv t200_28 (f80 hF) rfl ?_
      refine c184 (by exact hF) hJ (fun s2 f2 hE => ?_)
      refine k_v ?_ rfl
      refine g_p t200_31 rfl ?_
      refine g_p t200_32 rfl ?_
      first
        | (have u0 : true = false := h9
           exact absurd u0 (by decide))
        | exact i_ret t200_33 rfl (hq _ ((f1.mono (by decide) (by decide)).tr (f2.mono (by decide) (by decide))) hE)
    · refine g_p t200_12 rfl ?_
      refine g_k (n := 48) t200_13 rfl rfl ?_
      refine g_subn t200_15 (by omega) ?_
      refine g_p t200_16 rfl ?_
      refine g_p t200_17 rfl ?_
      refine g_p t200_18 rfl ?_
      refine g_p t200_19 rfl ?_
      refine g_p t200_20 rfl ?_
      refine g_cs t200_21 rfl rfl rfl ?_
      refine c176i (a := nI lo) (b := nI hi) rfl rfl ?_
      rw [g1]
      refine k_v ?_ rfl
      refine b_ne t200_24 (fun h24 => ?_) (fun h24 => ?_)
      · exact absurd h24 (by decide)
      · refine g_p t200_27 rfl ?_
        refine r_cv t200_28 (f80 hF) rfl ?_
        refine c184 (by exact hF) hJ (fun s2 f2 hE => ?_)
        refine k_v ?_ rfl
        refine g_p t200_31 rfl ?_
        refine g_p t200_32 rfl ?_
        first
          | (have u0 : true = false := h9
             exact absurd u0 (by decide))
          | exact i_ret t200_33 rfl (hq _ ((f1.mono (by decide) (by decide)).tr (f2.mono (by decide) (by decide))) hE)
  · refine en200 rfl rfl rfl ?_
    refine g_p t200_0 rfl ?_
    refine r_cv t200_1 (f80 hF) rfl ?_
    refine c183 (by exact hF) (by exact hX) (by exact hS) (fun s1 f1 hJ => ?_)
    have hS := hJ.m2 hsp
    have e10 := hJ.2.2
    have h11 := hJ.1
    refine k_v ?_ rfl
    have hF := Fx.fr (by exact hF) f1.1
    have hX := MT.fm (by exact hX) f1 (by decide) (by decide) (by decide) (by decide) (by decide)
    refine g_isn t200_4 (Nat.le_of_ble_eq_true rfl) (am_s1_3 rfl) ?_
    refine g_p t200_5 rfl ?_
    refine r_cv t200_6 (f80 hF) rfl ?_
    refine c187 (by exact hF) (by exact hX) hj (by exact e10) ?_
    rw [← Bool.decide_and, decide_eq_false hd]
    refine k_v ?_ rfl
    refine b_eq t200_9 (fun h9 => ?_) (fun h9 => ?_)
    · refine g_p t200_27 rfl ?_
      refine r_cv t200_28 (f80 hF) rfl ?_
      refine c184 (by exact hF) hJ (fun s2 f2 hE => ?_)
      refine k_v ?_ rfl
      refine g_p t200_31 rfl ?_
      refine g_p t200_32 rfl ?_
      exact i_ret t200_33 rfl (hq _ ((f1.mono (by decide) (by decide)).tr (f2.mono (by decide) (by decide))) hE)
    · exact no_b h9 rfl
theorem c203 (hF : Fx s) (hX : MT T nT B t s) {j : Nat} (hS : MS t (.inl j) s) (hq : ∀ s', FM [] [10] s s' → MJ t j s' → Q (some (.int (bI (decide (97 ≤ sgn t j ∧ sgn t j ≤ 104))))) (mR s')) : gE X (d + 1) 203 [.ref 80] (mR s) Q := by
  have h120 := hX.2.2.2.2.2.2.2.2.1
  have hj := hS.2.1
  have hsp := hS.sk
  have hsg := hX.sg j
  by_cases h0 : sgn t j = 0
  · have e : decide (97 ≤ sgn t j ∧ sgn t j ≤ 104) = false := decide_eq_false (by omega)
    rw [e] at hq
    refine en203 rfl ?_
    refine g_p t203_0 rfl ?_
    refine r_cv t203_1 (f80 hF) rfl ?_
    refine c183 (by exact hF) (by exact hX) (by exact hS) (fun s1 f1 hJ => ?_)
    have hS := hJ.m2 hsp
    have e10 := hJ.2.2
    have h11 := hJ.1
    rw [show lk (sgn t j) = -1 from if_pos h0]
    refine k_v ?_ rfl
    have hF := Fx.fr (by exact hF) f1.1
    have hX := MT.fm (by exact hX) f1 (by decide) (by decide) (by decide) (by decide) (by decide)
    refine g_isn t203_4 (Nat.le_of_ble_eq_true rfl) (am_s1_1 rfl) ?_
    refine g_p t203_5 rfl ?_
    refine g_k (n := 97) t203_6 rfl rfl ?_
    refine g_clt t203_8 (fun h8 => ?_) (fun h8 => ?_)
    · refine g_k (n := 0) t203_21 rfl rfl ?_
      exact b_ret t203_22 rfl (hq _ f1 hJ)
    · exact absurd (show (-1 : Int32) < nI 97 by decide) h8
  · refine en203 rfl ?_
    refine g_p t203_0 rfl ?_
    refine r_cv t203_1 (f80 hF) rfl ?_
    refine c183 (by exact hF) (by exact hX) (by exact hS) (fun s1 f1 hJ => ?_)
    have hS := hJ.m2 hsp
    have e10 := hJ.2.2
    have h11 := hJ.1
    rw [show lk (sgn t j) = nI (sgn t j) from if_neg h0]
    refine k_v ?_ rfl
    have hF := Fx.fr (by exact hF) f1.1
    have hX := MT.fm (by exact hX) f1 (by decide) (by decide) (by decide) (by decide) (by decide)
    refine g_isn t203_4 (Nat.le_of_ble_eq_true rfl) (am_s1_1 rfl) ?_
    refine g_p t203_5 rfl ?_
    refine g_k (n := 97) t203_6 rfl rfl ?_
    refine n_clt t203_8 (by omega) (by omega) (fun h8 => ?_) (fun h8 => ?_)
    · refine g_k (n := 0) t203_21 rfl rfl ?_
      first
        | (have u0 : sgn t j < 97 := h8
           exact b_ret t203_22 (by rw [decide_eq_false (by omega)]; rfl) (hq _ f1 hJ))
        | (have u0 : 104 < sgn t j := h14
           exact b_ret t203_22 (by rw [decide_eq_false (by omega)]; rfl) (hq _ f1 hJ))
        | (have u0 : ¬ sgn t j < 97 := h8
           have u1 : ¬ 104 < sgn t j := h14
           exact b_ret t203_22 (by rw [decide_eq_true (by omega)]; rfl) (hq _ f1 hJ))
    · refine g_p t203_11 rfl ?_
      refine g_k (n := 104) t203_12 rfl rfl ?_
      refine n_cgt t203_14 (by omega) (by omega) (fun h14 => ?_) (fun h14 => ?_)
      · refine g_k (n := 0) t203_21 rfl rfl ?_
        first
          | (have u0 : sgn t j < 97 := h8
             exact b_ret t203_22 (by rw [decide_eq_false (by omega)]; rfl) (hq _ f1 hJ))
          | (have u0 : 104 < sgn t j := h14
             exact b_ret t203_22 (by rw [decide_eq_false (by omega)]; rfl) (hq _ f1 hJ))
          | (have u0 : ¬ sgn t j < 97 := h8
             have u1 : ¬ 104 < sgn t j := h14
             exact b_ret t203_22 (by rw [decide_eq_true (by omega)]; rfl) (hq _ f1 hJ))
      · refine g_k (n := 1) t203_17 rfl rfl ?_
        refine g_goto t203_18 ?_
        first
          | (have u0 : sgn t j < 97 := h8
             exact b_ret t203_22 (by rw [decide_eq_false (by omega)]; rfl) (hq _ f1 hJ))
          | (have u0 : 104 < sgn t j := h14
             exact b_ret t203_22 (by rw [decide_eq_false (by omega)]; rfl) (hq _ f1 hJ))
          | (have u0 : ¬ sgn t j < 97 := h8
             have u1 : ¬ 104 < sgn t j := h14
             exact b_ret t203_22 (by rw [decide_eq_true (by omega)]; rfl) (hq _ f1 hJ))
end RH_
