/-! THE FACE: the tape -/
def by8 (v : Int32) (k : Nat) : Nat := v.toBitVec.toNat / 256 ^ k % 256
theorem by8_lt (v : Int32) (k : Nat) : by8 v k < 256 := Nat.mod_lt _ (by decide)
theorem sh8 : ∀ k, k < 4 → ((nI (8 * k)).toUInt32 &&& Int32.toUInt32 31).toBitVec % 32 = BitVec.ofNat 32 (8 * k) := by decide +kernel
theorem get_by8 (v : Int32) {k : Nat} (hk : k < 4) : ((v.toUInt32 >>> ((nI (8 * k)).toUInt32 &&& Int32.toUInt32 31)).toInt32) &&& nI 255 = nI (by8 v k) := by
  rw [pk_and _ 8 (by decide), pk_ushr v (nI (8 * k)) (8 * k) (by rw [sh8 k hk]; simp; omega)]
  unfold by8
  rw [show (256 : Nat) = 2 ^ 8 from rfl, ← Nat.pow_mul]
def fbl (x : Int32) : Nat → List Nat
  | 0 => []
  | j + 1 => (if by8 x j = 0 then [] else [by8 x j]) ++ fbl x j
def fb (x : Int32) : List Nat := fbl x 4
def kk8 : Nat → Int32
  | 0 => -8
  | j + 1 => nI (8 * j)
theorem kk8_s : ∀ j, j < 4 → nI (8 * j) + (-8) = kk8 j := by decide +kernel
theorem tk_pre {l2 l a : List Nat} (h : l2.take (l ++ a).length = l ++ a) : l2.take l.length = l := by
  have h2 : (l2.take (l ++ a).length).take l.length = (l ++ a).take l.length := by rw [h]
  rw [List.take_take, List.length_append, Nat.min_eq_left (Nat.le_add_right _ _), List.take_left] at h2
  exact h2
theorem tk_app {l1 l : List Nat} {v : Nat} (h : l1.take l.length = l) : (l1 ++ [v]).take l.length = l := by
  have h3 : l.length ≤ l1.length := by
    have h2 := congrArg List.length h
    rw [List.length_take] at h2
    omega
  rw [List.take_append_of_le_length h3]; exact h
def isB (l : List Nat) : Prop := ∀ x ∈ l, x < 256 ∧ x ≠ 0
theorem fbl_B {x : Int32} : ∀ j, isB (fbl x j) := by
  intro j
  induction j with
  | zero => intro y hy; cases hy
  | succ j ih =>
    intro y hy
    unfold fbl at hy
    rcases List.mem_append.mp hy with h | h
    · split at h
      · cases h
      · rename_i h0
        have : y = by8 x j := by simpa using h
        subst this
        exact ⟨by8_lt x j, h0⟩
    · exact ih y h
section TU
variable {X : am_X} {d : Nat} {s : mM} {Q : Option Value → am_H → Prop} {l : List Nat} {x x1 x2 x3 x4 x5 : Int32}
theorem c120 (hF : Fx s) (hL : NL s 1 l) (hl : l.length ≤ 120) (hq : ∀ s' l', Fr [1, 2] s s' → NL s' 1 l' → l'.length ≤ 120 → (l.length + (fb x).length ≤ 120 → l' = l ++ fb x) → l'.take l.length = l → Q (some (.int (bI (decide (l.length + (fb x).length ≤ 120))))) (mR s')) : gE X (d + 1) 120 [.ref 0, .int x] (mR s) Q := by
  have K : ∀ j, j ≤ 4 → ∀ (b : Bool) (l1 dn : List Nat) (z4 : Value) (s' : mM), Fx s' → Fr [1, 2] s s' → NL s' 1 l1 → l1.length ≤ 120 → l1.take l.length = l → fb x = dn ++ fbl x j → (b = true → l1 = l ++ dn) → (b = false → 120 < l.length + (fb x).length) → gG X (d + 1) 120 5 [.ref 0, .int x, .int (bI b), .int (kk8 j), z4] [] (mR s') Q := by
    intro j
    induction j with
    | zero =>
      intro hj b l1 dn z4 s' hF hf hL h120 htk hdn hb1 hb0
      show gG X (d + 1) 120 5 [.ref 0, .int x, .int (bI b), .int (-8), z4] [] (mR s') Q
      have hdn : fb x = dn := by rw [hdn]; exact List.append_nil dn
      subst hdn
      refine g_p t120_5 rfl ?_
      refine g_lt t120_6 (fun h6 => ?_) (fun h6 => ?_)
      · refine g_p t120_43 rfl ?_
        first
          | skip
        cases b with
        | true =>
          have e := hb1 rfl
          have hle : l.length + (fb x).length ≤ 120 := by rw [e, List.length_append] at h120; exact h120
          have := hq s' l1 hf hL h120 (fun _ => e) htk
          rw [decide_eq_true hle] at this
          exact b_ret t120_44 rfl this
        | false =>
          have e := hb0 rfl
          have := hq s' l1 hf hL h120 (fun h => absurd h (by omega)) htk
          rw [decide_eq_false (by omega)] at this
          exact b_ret t120_44 rfl this
      · exact absurd (show (-8 : Int32) < 0 by decide) h6
    | succ j ih =>
      intro hj b l1 dn z4 s' hF hf hL h120 htk hdn hb1 hb0
      show gG X (d + 1) 120 5 [.ref 0, .int x, .int (bI b), .int (nI (8 * j)), z4] [] (mR s') Q
      have hb8 := by8_lt x j
      unfold fbl at hdn
      by_cases h0 : by8 x j = 0
      · rw [if_pos h0] at hdn
        refine g_p t120_5 rfl ?_
        refine n_lt t120_6 (by omega) ?_
        refine g_p t120_9 rfl ?_
        refine g_p t120_10 rfl ?_
        refine g_iushr t120_11 ?_
        refine g_k (n := 255) t120_12 rfl rfl ?_
        refine g_iand t120_15 ?_
        rw [get_by8 x (by omega)]
        refine g_is t120_16 (Nat.le_of_ble_eq_true rfl) (am_s1_4 rfl) ?_
        refine g_p t120_18 rfl ?_
        refine n_eq t120_20 (by omega) (fun h20 => ?_) (fun h20 => ?_)
        · refine g_inc t120_37 rfl (Nat.le_of_ble_eq_true rfl) (am_s1_3 rfl) ?_
          refine g_goto t120_40 ?_
          rw [kk8_s j (by omega)]
          exact ih (by omega) b l1 dn _ s' hF hf hL h120 htk hdn hb1 hb0
        · exact absurd h0 h20
      · rw [if_neg h0, ← List.append_assoc] at hdn
        by_cases hr : l1.length < 120
        · refine g_p t120_5 rfl ?_
          refine n_lt t120_6 (by omega) ?_
          refine g_p t120_9 rfl ?_
          refine g_p t120_10 rfl ?_
          refine g_iushr t120_11 ?_
          refine g_k (n := 255) t120_12 rfl rfl ?_
          refine g_iand t120_15 ?_
          rw [get_by8 x (by omega)]
          refine g_is t120_16 (Nat.le_of_ble_eq_true rfl) (am_s1_4 rfl) ?_
          refine g_p t120_18 rfl ?_
          refine n_eq t120_20 (by omega) (fun h20 => ?_) (fun h20 => ?_)
          · refine g_inc t120_37 rfl (Nat.le_of_ble_eq_true rfl) (am_s1_3 rfl) ?_
            refine g_goto t120_40 ?_
            rw [kk8_s j (by omega)]
            first
              | exact absurd h20 h0
              | exact ih (by omega) b (l1 ++ [by8 x j]) (dn ++ [by8 x j]) _ s29 hF hf hL (by rw [List.length_append]; exact hr) (tk_app htk) hdn (fun hb => by rw [hb1 hb, List.append_assoc]) hb0
          · refine g_p t120_23 rfl ?_
            refine r_getr t120_24 (f0 hF) rfl rfl ?_
            refine g_p t120_27 rfl ?_
            refine r_cv t120_29 (f1 hF) rfl ?_
            refine c33L (by exact fN1 hF) (by exact hL) hr (fun s29 fr29 hL => ?_)
            have hF := hF.fr fr29
            have hf := hf.tr fr29
            refine k_v ?_ rfl
            refine b_ne t120_32 (fun h32 => ?_) (fun h32 => ?_)
            · refine g_inc t120_37 rfl (Nat.le_of_ble_eq_true rfl) (am_s1_3 rfl) ?_
              refine g_goto t120_40 ?_
              rw [kk8_s j (by omega)]
              first
                | exact absurd h20 h0
                | exact ih (by omega) b (l1 ++ [by8 x j]) (dn ++ [by8 x j]) _ s29 hF hf hL (by rw [List.length_append]; exact hr) (tk_app htk) hdn (fun hb => by rw [hb1 hb, List.append_assoc]) hb0
            · exact no_b rfl h32
        · refine g_p t120_5 rfl ?_
          refine n_lt t120_6 (by omega) ?_
          refine g_p t120_9 rfl ?_
          refine g_p t120_10 rfl ?_
          refine g_iushr t120_11 ?_
          refine g_k (n := 255) t120_12 rfl rfl ?_
          refine g_iand t120_15 ?_
          rw [get_by8 x (by omega)]
          refine g_is t120_16 (Nat.le_of_ble_eq_true rfl) (am_s1_4 rfl) ?_
          refine g_p t120_18 rfl ?_
          refine n_eq t120_20 (by omega) (fun h20 => ?_) (fun h20 => ?_)
          · refine g_inc t120_37 rfl (Nat.le_of_ble_eq_true rfl) (am_s1_3 rfl) ?_
            refine g_goto t120_40 ?_
            rw [kk8_s j (by omega)]
            first
              | exact absurd h20 h0
              | (have u0 : true = false := h32.symm; cases u0)
              | exact ih (by omega) false l1 (dn ++ [by8 x j]) _ s' hF hf hL h120 htk hdn (fun hb => by cases hb) (fun _ => by
                  cases b with
                  | false => exact hb0 rfl
                  | true =>
                    rw [hdn, List.length_append, List.length_append]
                    have e := congrArg List.length (hb1 rfl)
                    rw [List.length_append] at e
                    simp only [List.length_cons, List.length_nil]
                    omega)
          · refine g_p t120_23 rfl ?_
            refine r_getr t120_24 (f0 hF) rfl rfl ?_
            refine g_p t120_27 rfl ?_
            refine r_cv t120_29 (f1 hF) rfl ?_
            refine c33Lf (by exact fN1 hF) (by exact hL) (by omega) (by omega) ?_
            refine k_v ?_ rfl
            refine b_ne t120_32 (fun h32 => ?_) (fun h32 => ?_)
            · refine g_inc t120_37 rfl (Nat.le_of_ble_eq_true rfl) (am_s1_3 rfl) ?_
              refine g_goto t120_40 ?_
              rw [kk8_s j (by omega)]
              first
                | exact absurd h20 h0
                | (have u0 : true = false := h32.symm; cases u0)
                | exact ih (by omega) false l1 (dn ++ [by8 x j]) _ s' hF hf hL h120 htk hdn (fun hb => by cases hb) (fun _ => by
                    cases b with
                    | false => exact hb0 rfl
                    | true =>
                      rw [hdn, List.length_append, List.length_append]
                      have e := congrArg List.length (hb1 rfl)
                      rw [List.length_append] at e
                      simp only [List.length_cons, List.length_nil]
                      omega)
            · refine g_k (n := 0) t120_35 rfl rfl ?_
              refine g_isn t120_36 (Nat.le_of_ble_eq_true rfl) (am_s1_2 rfl) ?_
              refine g_inc t120_37 rfl (Nat.le_of_ble_eq_true rfl) (am_s1_3 rfl) ?_
              refine g_goto t120_40 ?_
              rw [kk8_s j (by omega)]
              first
                | exact absurd h20 h0
                | (have u0 : true = false := h32.symm; cases u0)
                | exact ih (by omega) false l1 (dn ++ [by8 x j]) _ s' hF hf hL h120 htk hdn (fun hb => by cases hb) (fun _ => by
                    cases b with
                    | false => exact hb0 rfl
                    | true =>
                      rw [hdn, List.length_append, List.length_append]
                      have e := congrArg List.length (hb1 rfl)
                      rw [List.length_append] at e
                      simp only [List.length_cons, List.length_nil]
                      omega)
  refine en120 rfl rfl ?_
  refine g_k (n := 1) t120_0 rfl rfl ?_
  refine g_isn t120_1 (Nat.le_of_ble_eq_true rfl) (am_s1_2 rfl) ?_
  refine g_k (n := 24) t120_2 rfl rfl ?_
  refine g_isn t120_4 (Nat.le_of_ble_eq_true rfl) (am_s1_3 rfl) ?_
  exact K 4 (Nat.le_refl _) true l [] _ s hF Fr.rf hL hl List.take_length rfl (fun _ => (List.append_nil l).symm) (fun h => by cases h)
end TU
