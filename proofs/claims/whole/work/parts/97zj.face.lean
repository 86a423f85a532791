/-! THE FACE, 9: what was told; days by draws; counts -/
def tok (P : Nat) (b : Bk) (to : List (Nat × Nat)) : Bool := to.all fun t => decide (sy P b t.1 = nI t.2)
def agb (P : Nat) (bks : List Bk) (to : List (Nat × Nat)) : Nat → Nat
  | 0 => 0
  | i + 1 => if tok P (bks.getD i nk) to = true then agb P bks to i ||| 2 ^ i else agb P bks to i
theorem agb_lt {P : Nat} {bks : List Bk} {to : List (Nat × Nat)} (n : Nat) : agb P bks to n < 2 ^ n := by
  induction n with
  | zero => exact (by decide : 0 < 1)
  | succ n ih =>
    have h1 : agb P bks to n < 2 ^ (n + 1) := Nat.lt_trans ih (Nat.pow_lt_pow_right (by decide) (by omega))
    unfold agb
    split
    · exact Nat.or_lt_two_pow h1 (Nat.pow_lt_pow_right (by decide) (by omega))
    · exact h1
def ush (x : Int32) (k : Nat) : Int32 := (x.toUInt32 >>> ((nI k).toUInt32 &&& Int32.toUInt32 31)).toInt32
def bc1 (x : Int32) : Int32 := x - (ush x 1 &&& nI 1431655765)
def bc2 (x : Int32) : Int32 := (x &&& nI 858993459) + (ush x 2 &&& nI 858993459)
def bc3 (x : Int32) : Int32 := (x + ush x 4) &&& nI 252645135
def bc4 (x : Int32) : Int32 := x + ush x 8
def bc5 (x : Int32) : Int32 := x + ush x 16
def bcx (x : Int32) : Int32 := bc5 (bc4 (bc3 (bc2 (bc1 x)))) &&& nI 63
def pcn (n : Nat) : Nat := n % 2 + n / 2 % 2 + n / 4 % 2 + n / 8 % 2 + n / 16 % 2
theorem bc_all : ∀ n, n < 32 → bcx (nI n) = nI (pcn n) := by decide +kernel
theorem pcn_le (n : Nat) : pcn n ≤ 5 := by unfold pcn; omega
/-- whether bits tell the k-th and the i-th told apart -/
def tp1 (P : Nat) (to : List (Nat × Nat)) (B i k : Nat) : Bool := decide ((to.getD i (0, 0)).2 = (to.getD k (0, 0)).2) || decide (¬ upu P (to.getD i (0, 0)).1 (to.getD k (0, 0)).1 P &&& B = 0)
def tpk (P : Nat) (to : List (Nat × Nat)) (B i : Nat) : Nat → Bool
  | 0 => true
  | k + 1 => tpk P to B i k && tp1 P to B i k
def tpi (P : Nat) (to : List (Nat × Nat)) (B : Nat) : Nat → Bool
  | 0 => true
  | i + 1 => tpi P to B i && tpk P to B i i
theorem tpk_f {P B i : Nat} {to : List (Nat × Nat)} : ∀ {m k : Nat}, k ≤ m → tpk P to B i k = false → tpk P to B i m = false := by
  intro m
  induction m with
  | zero => intro k h h2; rw [show k = 0 by omega] at h2; exact h2
  | succ m ih =>
    intro k h h2
    by_cases h3 : k = m + 1
    · rw [← h3]; exact h2
    · unfold tpk; rw [ih (k := k) (by omega) h2]; rfl
theorem tpi_f {P B : Nat} {to : List (Nat × Nat)} : ∀ {m k : Nat}, k ≤ m → tpi P to B k = false → tpi P to B m = false := by
  intro m
  induction m with
  | zero => intro k h h2; rw [show k = 0 by omega] at h2; exact h2
  | succ m ih =>
    intro k h h2
    by_cases h3 : k = m + 1
    · rw [← h3]; exact h2
    · unfold tpi; rw [ih (k := k) (by omega) h2]; rfl
def apb (P : Nat) (to : List (Nat × Nat)) : Nat → Option Nat
  | 0 => none
  | n + 1 => if (match apb P to n with
    | none => true
    | some m => decide (pcn n < pcn m)) = true ∧ tpi P to n to.length = true then some n else apb P to n
theorem apb_lt {P : Nat} {to : List (Nat × Nat)} : ∀ (n c : Nat), apb P to n = some c → c < n := by
  intro n
  induction n with
  | zero => intro c h; cases h
  | succ n ih =>
    intro c h
    unfold apb at h
    split at h <;> split at h <;> first
      | exact Nat.lt_succ_of_lt (ih c h)
      | (cases h; exact Nat.lt_succ_self _)
section FJ
variable {X : am_X} {d : Nat} {s : mM} {hp : am_H} {Q : Option Value → am_H → Prop} {P r w pd row day left a c k q n p B : Nat} {bp : List Nat} {x y z u : Int32} {bks : List Bk} {b : Bk} {to : List (Nat × Nat)}
theorem c266 (hn : n < 32) (hq : Q (some (.int (nI (pcn n)))) hp) : gE X d 266 [.int (nI n)] hp Q := by
  refine en266 rfl ?_
  refine g_p t266_0 rfl ?_
  refine g_p t266_1 rfl ?_
  refine g_k (n := 1) t266_2 rfl rfl ?_
  refine g_iushr t266_3 ?_
  refine g_k (n := 1431655765) t266_4 rfl rfl ?_
  refine g_iand t266_7 ?_
  refine g_isub t266_8 ?_
  show gG X d 266 9 [.int (nI n)] [.int (bc1 (nI n))] hp Q
  refine g_isn t266_9 (Nat.le_of_ble_eq_true rfl) am_s1_0 ?_
  refine g_p t266_10 rfl ?_
  refine g_k (n := 858993459) t266_11 rfl rfl ?_
  refine g_iand t266_14 ?_
  refine g_p t266_15 rfl ?_
  refine g_k (n := 2) t266_16 rfl rfl ?_
  refine g_iushr t266_17 ?_
  refine g_k (n := 858993459) t266_18 rfl rfl ?_
  refine g_iand t266_21 ?_
  refine g_iadd t266_22 ?_
  show gG X d 266 23 [.int (bc1 (nI n))] [.int (bc2 (bc1 (nI n)))] hp Q
  refine g_isn t266_23 (Nat.le_of_ble_eq_true rfl) am_s1_0 ?_
  refine g_p t266_24 rfl ?_
  refine g_p t266_25 rfl ?_
  refine g_k (n := 4) t266_26 rfl rfl ?_
  refine g_iushr t266_27 ?_
  refine g_iadd t266_28 ?_
  refine g_k (n := 252645135) t266_29 rfl rfl ?_
  refine g_iand t266_32 ?_
  show gG X d 266 33 [.int (bc2 (bc1 (nI n)))] [.int (bc3 (bc2 (bc1 (nI n))))] hp Q
  refine g_isn t266_33 (Nat.le_of_ble_eq_true rfl) am_s1_0 ?_
  refine g_p t266_34 rfl ?_
  refine g_p t266_35 rfl ?_
  refine g_k (n := 8) t266_36 rfl rfl ?_
  refine g_iushr t266_38 ?_
  refine g_iadd t266_39 ?_
  show gG X d 266 40 [.int (bc3 (bc2 (bc1 (nI n))))] [.int (bc4 (bc3 (bc2 (bc1 (nI n)))))] hp Q
  refine g_isn t266_40 (Nat.le_of_ble_eq_true rfl) am_s1_0 ?_
  refine g_p t266_41 rfl ?_
  refine g_p t266_42 rfl ?_
  refine g_k (n := 16) t266_43 rfl rfl ?_
  refine g_iushr t266_45 ?_
  refine g_iadd t266_46 ?_
  show gG X d 266 47 [.int (bc4 (bc3 (bc2 (bc1 (nI n)))))] [.int (bc5 (bc4 (bc3 (bc2 (bc1 (nI n))))))] hp Q
  refine g_isn t266_47 (Nat.le_of_ble_eq_true rfl) am_s1_0 ?_
  refine g_p t266_48 rfl ?_
  refine g_k (n := 63) t266_49 rfl rfl ?_
  refine g_iand t266_51 ?_
  exact i_ret t266_52 (bc_all n hn) hq
theorem c165 (hF : Fx s) (hR : CR P s) (hT : CTo to s) (hto : ∀ t ∈ to, t.1 < mn P ∧ t.2 < 8) (qB : Bo s p) (qS : Bs P b p s) (hq : Q (some (.int (bI (tok P b to)))) (mR s)) : gE X (d + 2) 165 [.ref 0, .ref p] (mR s) Q := by
  have hP5 := hR.2.2.1
  have hm := mn_le hP5
  have hT0 := hT
  obtain ⟨ta, tb, tl⟩ := hT
  have la : (to.map fun a => a.1).length = to.length := List.length_map ..
  have lb : (to.map fun a => a.2).length = to.length := List.length_map ..
  have K : ∀ j i : Nat, i + j = to.length → tok P b to = (to.drop i).all (fun t => decide (sy P b t.1 = nI t.2)) → gG X (d + 2) 165 2 [.ref 0, .ref p, .int (nI i)] [] (mR s) Q := by
    intro j
    induction j with
    | zero =>
      intro i hj he
      have hj : i = to.length := by omega
      subst hj
      rw [List.drop_length] at he
      refine g_p t165_2 rfl ?_
      refine g_p t165_3 rfl ?_
      refine r_getr t165_4 (f0 hF) rfl rfl ?_
      refine r_cv t165_7 (f76 hF) rfl ?_
      refine c29L (by exact fN76 hF) (by exact ta) ?_
      refine k_v ?_ rfl
      refine n_cge t165_10 (by omega) (by omega) (fun h10 => ?_) (fun h10 => ?_)
      · refine g_k (n := 1) t165_44 rfl rfl ?_
        exact b_ret t165_45 (by rw [he]; rfl) hq
      · exfalso; omega
    | succ j ih =>
      intro i hj he
      have hil : i < to.length := by omega
      rw [all_drop _ (0, 0) hil] at he
      obtain ⟨t, ht⟩ : ∃ t, t = to.getD i (0, 0) := ⟨_, rfl⟩
      have et1 : (to.map fun a => a.1).getD i 0 = t.1 := by rw [ht]; exact getD_map hil
      have et2 : (to.map fun a => a.2).getD i 0 = t.2 := by rw [ht]; exact getD_map hil
      have hm1 : t ∈ to := by
        have e : to.getD i (0, 0) = to[i] := by simp [List.getD, hil]
        rw [ht, e]; exact List.getElem_mem hil
      obtain ⟨htN, ht8⟩ := hto t hm1
      rw [← ht] at he
      refine g_p t165_2 rfl ?_
      refine g_p t165_3 rfl ?_
      refine r_getr t165_4 (f0 hF) rfl rfl ?_
      refine r_cv t165_7 (f76 hF) rfl ?_
      refine c29L (by exact fN76 hF) (by exact ta) ?_
      refine k_v ?_ rfl
      refine n_cge t165_10 (by omega) (by omega) (fun h10 => ?_) (fun h10 => ?_)
      · exfalso; omega
      · refine g_p t165_13 rfl ?_
        refine g_p t165_14 rfl ?_
        refine r_getr t165_15 (f0 hF) rfl rfl ?_
        refine g_p t165_18 rfl ?_
        refine r_cv t165_19 (f76 hF) rfl ?_
        refine c30L (by exact fN76 hF) (by exact ta) (by omega) (by omega) ?_
        refine k_v ?_ rfl
        rw [et1]
        refine r_cv t165_22 qB.1 rfl ?_
        refine c10 (by exact qB) (by omega) (by exact qS t.1 htN) ?_
        refine k_v ?_ rfl
        refine g_p t165_25 rfl ?_
        refine r_getr t165_26 (f0 hF) rfl rfl ?_
        refine g_p t165_29 rfl ?_
        refine r_cv t165_30 (f78 hF) rfl ?_
        refine c30L (by exact fN78 hF) (by exact tb) (by omega) (by omega) ?_
        refine k_v ?_ rfl
        rw [et2]
        refine g_ceq t165_33 (fun h33 => ?_) (fun h33 => ?_)
        · refine g_incn (n := 1) t165_38 rfl rfl (Nat.le_of_ble_eq_true rfl) (am_s1_2 rfl) ?_
          refine g_goto t165_41 ?_
          exact ih (i + 1) (by omega) (by rw [he, decide_eq_true h33, Bool.true_and])
        · refine g_k (n := 0) t165_36 rfl rfl ?_
          exact b_ret t165_37 (by rw [he, decide_eq_false h33]; rfl) hq
  refine en165 rfl rfl ?_
  refine g_k (n := 0) t165_0 rfl rfl ?_
  refine g_isn t165_1 (Nat.le_of_ble_eq_true rfl) (am_s1_2 rfl) ?_
  exact K to.length 0 (by omega) rfl
theorem c164t (hF : Fx s) (hR : CR P s) (hP0 : 0 < P) (hB : CBk P bks bp s) (hb3 : bks.length ≤ 3) (hT : CTo to s) (hto : ∀ t ∈ to, t.1 < mn P ∧ t.2 < 8) (hq : Q (some (.int (nI (agb P bks to bks.length)))) (mR s)) : gE X (d + 3) 164 [.ref 0] (mR s) Q := by
  have hP5 := hR.2.2.1
  have hm := mn_le hP5
  obtain ⟨q1, q2, q3, q4⟩ := hB
  have K : ∀ j i : Nat, i + j = bks.length → gG X (d + 3) 164 13 [.ref 0, .int (nI (agb P bks to i)), .int (nI i)] [] (mR s) Q := by
    intro j
    induction j with
    | zero =>
      intro i hj
      have hj : i = bks.length := by omega
      subst hj
      refine g_p t164_13 rfl ?_
      refine g_p t164_14 rfl ?_
      refine r_getr t164_15 (f0 hF) rfl rfl ?_
      refine r_cv t164_18 (f16 hF) rfl ?_
      refine c278 (by exact f16 hF) q1 ?_
      refine k_v ?_ rfl
      refine n_cge t164_21 (by omega) (by omega) (fun h21 => ?_) (fun h21 => ?_)
      · refine g_p t164_54 rfl ?_
        exact i_ret t164_55 rfl hq
      · exfalso; omega
    | succ j ih =>
      intro i hj
      have hil : i < bks.length := by omega
      obtain ⟨qp, qB, qT, qS, qL⟩ := q3 i hil
      have hag := agb_lt (P := P) (bks := bks) (to := to) i
      have hp8 : 2 ^ i ≤ 2 ^ 3 := Nat.pow_le_pow_right (by decide) (by omega)
      have h83 : (2 : Nat) ^ 3 = 8 := by decide
      refine g_p t164_13 rfl ?_
      refine g_p t164_14 rfl ?_
      refine r_getr t164_15 (f0 hF) rfl rfl ?_
      refine r_cv t164_18 (f16 hF) rfl ?_
      refine c278 (by exact f16 hF) q1 ?_
      refine k_v ?_ rfl
      refine n_cge t164_21 (by omega) (by omega) (fun h21 => ?_) (fun h21 => ?_)
      · exfalso; omega
      · refine g_p t164_24 rfl ?_
        refine g_p t164_25 rfl ?_
        refine r_getr t164_26 (f0 hF) rfl rfl ?_
        refine g_p t164_29 rfl ?_
        refine r_cv t164_30 (f16 hF) rfl ?_
        refine c280 (by exact f16 hF) q1 (by omega) ?_
        refine k_v ?_ rfl
        refine r_chk t164_33 qB.1 rfl ?_
        refine r_cv t164_36 (f0 hF) rfl ?_
        refine c165 hF hR hT hto qB qS ?_
        refine k_v ?_ rfl
        refine b_eq t164_39 (fun h39 => ?_) (fun h39 => ?_)
        · refine g_incn (n := 1) t164_48 rfl rfl (Nat.le_of_ble_eq_true rfl) (am_s1_2 rfl) ?_
          refine g_goto t164_51 ?_
          have this := ih (i + 1) (by omega)
          unfold agb at this
          first
            | (have u0 := h39; rw [if_pos u0] at this; exact this)
            | (have u0 := h39; rw [if_neg (fun h => no_b h u0)] at this; exact this)
        · refine g_p t164_42 rfl ?_
          refine g_k (n := 1) t164_43 rfl rfl ?_
          refine g_p t164_44 rfl ?_
          refine g_ishl t164_45 ?_
          rw [shl1 i (by omega)]
          refine g_ior t164_46 ?_
          rw [nI_or (by omega) (by omega)]
          refine g_isn t164_47 (Nat.le_of_ble_eq_true rfl) (am_s1_1 rfl) ?_
          refine g_incn (n := 1) t164_48 rfl rfl (Nat.le_of_ble_eq_true rfl) (am_s1_2 rfl) ?_
          refine g_goto t164_51 ?_
          have this := ih (i + 1) (by omega)
          unfold agb at this
          first
            | (have u0 := h39; rw [if_pos u0] at this; exact this)
            | (have u0 := h39; rw [if_neg (fun h => no_b h u0)] at this; exact this)
  refine en164 rfl ?_
  refine g_p t164_0 rfl ?_
  refine r_cv t164_1 (f0 hF) rfl ?_
  refine c129 (by exact hF) (by exact hR.1) hP5 ?_
  refine k_v ?_ rfl
  refine b_ne t164_4 (fun h4 => ?_) (fun h4 => ?_)
  · refine g_k (n := 0) t164_9 rfl rfl ?_
    refine g_isn t164_10 (Nat.le_of_ble_eq_true rfl) (am_s1_1 rfl) ?_
    refine g_k (n := 0) t164_11 rfl rfl ?_
    refine g_isn t164_12 (Nat.le_of_ble_eq_true rfl) (am_s1_2 rfl) ?_
    exact K bks.length 0 (by omega)
  · exact no_b (decide_eq_true hP0) h4
theorem c164f (hF : Fx s) (hR : CR 0 s) (hq : Q (some (.int (-1))) (mR s)) : gE X (d + 3) 164 [.ref 0] (mR s) Q := by
  have hP5 := hR.2.2.1
  refine en164 rfl ?_
  refine g_p t164_0 rfl ?_
  refine r_cv t164_1 (f0 hF) rfl ?_
  refine c129 (by exact hF) (by exact hR.1) hP5 ?_
  refine k_v ?_ rfl
  refine b_ne t164_4 (fun h4 => ?_) (fun h4 => ?_)
  · exact no_b h4 (decide_eq_false (by decide))
  · refine g_p t164_7 rfl ?_
    exact i_ret t164_8 rfl hq
theorem c167 (hF : Fx s) (hR : CR P s) (hT : CTo to s) (hto : ∀ t ∈ to, t.1 < mn P ∧ t.2 < 8) (hB : B < 32) (hq : Q (some (.int (bI (tpi P to B to.length)))) (mR s)) : gE X (d + 3) 167 [.ref 0, .int (nI B)] (mR s) Q := by
  have hP5 := hR.2.2.1
  have hm := mn_le hP5
  have hT0 := hT
  obtain ⟨ta, tb, tl⟩ := hT
  have la : (to.map fun a => a.1).length = to.length := List.length_map ..
  have lb : (to.map fun a => a.2).length = to.length := List.length_map ..
  have hPi := hR.1
  have h32 : 2 ^ P ≤ 2 ^ 5 := Nat.pow_le_pow_right (by decide) hP5
  have h325 : (2 : Nat) ^ 5 = 32 := by decide
  have K : ∀ j i : Nat, i + j = to.length → tpi P to B i = true → ∀ z3, gG X (d + 3) 167 2 [.ref 0, .int (nI B), .int (nI i), z3] [] (mR s) Q := by
    intro j
    induction j with
    | zero =>
      intro i hj he z3
      have hj : i = to.length := by omega
      subst hj
      refine g_p t167_2 rfl ?_
      refine g_p t167_3 rfl ?_
      refine r_getr t167_4 (f0 hF) rfl rfl ?_
      refine r_cv t167_7 (f76 hF) rfl ?_
      refine c29L (by exact fN76 hF) (by exact ta) ?_
      refine k_v ?_ rfl
      refine n_cge t167_10 (by omega) (by omega) (fun h10 => ?_) (fun h10 => ?_)
      · refine g_k (n := 1) t167_81 rfl rfl ?_
        exact b_ret t167_82 (by rw [he]; rfl) hq
      · exfalso; omega
    | succ j ih =>
      intro i hj he z3
      have hil : i < to.length := by omega
      have M : ∀ u k : Nat, k + u = i → tpk P to B i k = true → gG X (d + 3) 167 15 [.ref 0, .int (nI B), .int (nI i), .int (nI k)] [] (mR s) Q := by
        intro u
        induction u with
        | zero =>
          intro k hu hk
          have hu : k = i := by omega
          subst hu
          refine g_p t167_15 rfl ?_
          refine g_p t167_16 rfl ?_
          refine n_cge t167_17 (by omega) (by omega) (fun h17 => ?_) (fun h17 => ?_)
          · refine g_incn (n := 1) t167_75 rfl rfl (Nat.le_of_ble_eq_true rfl) (am_s1_2 rfl) ?_
            refine g_goto t167_78 ?_
            exact ih (k + 1) (by omega) (by unfold tpi; rw [he, hk]; rfl) _
          · exfalso; omega
        | succ u ihu =>
          intro k hu hk
          obtain ⟨t, ht⟩ : ∃ t, t = to.getD i (0, 0) := ⟨_, rfl⟩
          have et1 : (to.map fun a => a.1).getD i 0 = t.1 := by rw [ht]; exact getD_map hil
          have et2 : (to.map fun a => a.2).getD i 0 = t.2 := by rw [ht]; exact getD_map hil
          have hm1 : t ∈ to := by
            have e : to.getD i (0, 0) = to[i] := by simp [List.getD, hil]
            rw [ht, e]; exact List.getElem_mem hil
          obtain ⟨htN, ht8⟩ := hto t hm1
          obtain ⟨v, hv⟩ : ∃ v, v = to.getD k (0, 0) := ⟨_, rfl⟩
          have hkl : k < to.length := by omega
          have ev1 : (to.map fun a => a.1).getD k 0 = v.1 := by rw [hv]; exact getD_map hkl
          have ev2 : (to.map fun a => a.2).getD k 0 = v.2 := by rw [hv]; exact getD_map hkl
          have hm2 : v ∈ to := by
            have e : to.getD k (0, 0) = to[k] := by simp [List.getD, hkl]
            rw [hv, e]; exact List.getElem_mem hkl
          obtain ⟨hvN, hv8⟩ := hto v hm2
          have hup := upu_lt (P := P) (a := t.1) (b := v.1) P
          have etp : tp1 P to B i k = (decide (t.2 = v.2) || decide (¬ upu P t.1 v.1 P &&& B = 0)) := by unfold tp1; rw [← ht, ← hv]
          refine g_p t167_15 rfl ?_
          refine g_p t167_16 rfl ?_
          refine n_cge t167_17 (by omega) (by omega) (fun h17 => ?_) (fun h17 => ?_)
          · exfalso; omega
          · refine g_p t167_20 rfl ?_
            refine r_getr t167_21 (f0 hF) rfl rfl ?_
            refine g_p t167_24 rfl ?_
            refine r_cv t167_25 (f78 hF) rfl ?_
            refine c30L (by exact fN78 hF) (by exact tb) (by omega) (by omega) ?_
            refine k_v ?_ rfl
            rw [et2]
            refine g_p t167_28 rfl ?_
            refine r_getr t167_29 (f0 hF) rfl rfl ?_
            refine g_p t167_32 rfl ?_
            refine r_cv t167_33 (f78 hF) rfl ?_
            refine c30L (by exact fN78 hF) (by exact tb) (by omega) (by omega) ?_
            refine k_v ?_ rfl
            rw [ev2]
            refine n_ceq t167_36 (by omega) (by omega) (fun h36 => ?_) (fun h36 => ?_)
            · refine g_incn (n := 1) t167_69 rfl rfl (Nat.le_of_ble_eq_true rfl) (am_s1_3 rfl) ?_
              refine g_goto t167_72 ?_
              first
                | (have u0 := h64; exact ihu (k + 1) (by omega) (by unfold tpk; rw [hk, etp, decide_eq_true u0, Bool.or_true]; rfl))
                | (have u0 := h36; exact ihu (k + 1) (by omega) (by unfold tpk; rw [hk, etp, decide_eq_true u0]; rfl))
            · refine g_p t167_39 rfl ?_
              refine r_getr t167_40 (f0 hF) rfl rfl ?_
              refine g_p t167_43 rfl ?_
              refine r_getr t167_44 (f0 hF) rfl rfl ?_
              refine g_p t167_47 rfl ?_
              refine r_cv t167_48 (f76 hF) rfl ?_
              refine c30L (by exact fN76 hF) (by exact ta) (by omega) (by omega) ?_
              refine k_v ?_ rfl
              rw [et1]
              refine g_p t167_51 rfl ?_
              refine r_getr t167_52 (f0 hF) rfl rfl ?_
              refine g_p t167_55 rfl ?_
              refine r_cv t167_56 (f76 hF) rfl ?_
              refine c30L (by exact fN76 hF) (by exact ta) (by omega) (by omega) ?_
              refine k_v ?_ rfl
              rw [ev1]
              refine r_cv t167_59 (f19 hF) rfl ?_
              refine c83 hF hPi hP5 hR.2.2.2.1 htN hvN ?_
              refine k_v ?_ rfl
              refine g_p t167_62 rfl ?_
              refine g_iand t167_63 ?_
              rw [nI_and (by omega) (by omega)]
              refine n_ne t167_64 (Nat.lt_of_le_of_lt Nat.and_le_right (by omega)) (fun h64 => ?_) (fun h64 => ?_)
              · refine g_incn (n := 1) t167_69 rfl rfl (Nat.le_of_ble_eq_true rfl) (am_s1_3 rfl) ?_
                refine g_goto t167_72 ?_
                first
                  | (have u0 := h64; exact ihu (k + 1) (by omega) (by unfold tpk; rw [hk, etp, decide_eq_true u0, Bool.or_true]; rfl))
                  | (have u0 := h36; exact ihu (k + 1) (by omega) (by unfold tpk; rw [hk, etp, decide_eq_true u0]; rfl))
              · refine g_k (n := 0) t167_67 rfl rfl ?_
                exact b_ret t167_68 (by rw [tpi_f (k := i + 1) (by omega) (by unfold tpi; rw [tpk_f (k := k + 1) (by omega) (by unfold tpk; rw [etp, decide_eq_false h36, decide_eq_false (show ¬ ¬ upu P t.1 v.1 P &&& B = 0 from fun h => h h64)]; simp), Bool.and_false])]; rfl) hq
      refine g_p t167_2 rfl ?_
      refine g_p t167_3 rfl ?_
      refine r_getr t167_4 (f0 hF) rfl rfl ?_
      refine r_cv t167_7 (f76 hF) rfl ?_
      refine c29L (by exact fN76 hF) (by exact ta) ?_
      refine k_v ?_ rfl
      refine n_cge t167_10 (by omega) (by omega) (fun h10 => ?_) (fun h10 => ?_)
      · exfalso; omega
      · refine g_k (n := 0) t167_13 rfl rfl ?_
        refine g_isn t167_14 (Nat.le_of_ble_eq_true rfl) (am_s1_3 rfl) ?_
        exact M i 0 (by omega) rfl
  refine en167 rfl rfl ?_
  refine g_k (n := 0) t167_0 rfl rfl ?_
  refine g_isn t167_1 (Nat.le_of_ble_eq_true rfl) (am_s1_2 rfl) ?_
  exact K to.length 0 (by omega) rfl _
theorem c166t (hF : Fx s) (hR : CR P s) (hP0 : 0 < P) (hT : CTo to s) (hto : ∀ t ∈ to, t.1 < mn P ∧ t.2 < 8) (hq : Q (some (.int (coI (apb P to (2 ^ P))))) (mR s)) : gE X (d + 4) 166 [.ref 0] (mR s) Q := by
  have hP5 := hR.2.2.1
  have hm := mn_le hP5
  have hPi := hR.1
  have h32 : 2 ^ P ≤ 2 ^ 5 := Nat.pow_le_pow_right (by decide) hP5
  have h325 : (2 : Nat) ^ 5 = 32 := by decide
  have K : ∀ j n : Nat, n + j = 2 ^ P → ∀ z3, gG X (d + 4) 166 13 [.ref 0, .int (coI (apb P to n)), .int (nI n), z3] [] (mR s) Q := by
    intro j
    induction j with
    | zero =>
      intro n hj z3
      have hj : n = 2 ^ P := by omega
      subst hj
      refine g_p t166_13 rfl ?_
      refine g_k (n := 1) t166_14 rfl rfl ?_
      refine g_p t166_15 rfl ?_
      refine r_getr t166_16 (f0 hF) rfl rfl ?_
      refine r_cv t166_19 (f19 hF) rfl ?_
      refine c74 (by exact hF) hPi ?_
      refine k_v ?_ rfl
      refine g_ishl t166_22 ?_
      rw [shl1 P (by omega)]
      refine n_cge t166_23 (by omega) (by omega) (fun h23 => ?_) (fun h23 => ?_)
      · refine g_p t166_68 rfl ?_
        exact i_ret t166_69 rfl hq
      · exfalso; omega
    | succ j ih =>
      intro n hj z3
      have hn : n < 2 ^ P := by omega
      have hpc := pcn_le n
      have hthis := fun z => ih (n + 1) (by omega) z
      cases hm : apb P to n with
      | none =>
        have e : apb P to (n + 1) = if tpi P to n to.length = true then some n else none := by rw [apb, hm]; simp
        show gG X (d + 4) 166 13 [.ref 0, .int (-1), .int (nI n), z3] [] (mR s) Q
        refine g_p t166_13 rfl ?_
        refine g_k (n := 1) t166_14 rfl rfl ?_
        refine g_p t166_15 rfl ?_
        refine r_getr t166_16 (f0 hF) rfl rfl ?_
        refine r_cv t166_19 (f19 hF) rfl ?_
        refine c74 (by exact hF) hPi ?_
        refine k_v ?_ rfl
        refine g_ishl t166_22 ?_
        rw [shl1 P (by omega)]
        refine n_cge t166_23 (by omega) (by omega) (fun h23 => ?_) (fun h23 => ?_)
        · exfalso; omega
        · refine g_p t166_26 rfl ?_
          refine g_p t166_27 rfl ?_
          refine g_ceq t166_28 (fun h28 => ?_) (fun h28 => ?_)
          · refine g_k (n := 1) t166_42 rfl rfl ?_
            refine g_goto t166_43 ?_
            refine g_isn t166_47 (Nat.le_of_ble_eq_true rfl) (am_s1_3 rfl) ?_
            refine g_p t166_48 rfl ?_
            refine n_eq t166_49 (by omega) (fun h49 => ?_) (fun h49 => ?_)
            · refine g_incn (n := 1) t166_62 rfl rfl (Nat.le_of_ble_eq_true rfl) (am_s1_2 rfl) ?_
              refine g_goto t166_65 ?_
              first
                | (exfalso; omega)
                | (have u0 := h57; have this := hthis (.int (nI 1)); rw [e, if_pos u0] at this; exact this)
                | (have u0 := h57; have this := hthis (.int (nI 1)); rw [e, if_neg (fun h => no_b h u0)] at this; exact this)
            · refine g_p t166_52 rfl ?_
              refine g_p t166_53 rfl ?_
              refine r_cv t166_54 (f0 hF) rfl ?_
              refine c167 hF hR hT hto (by omega) ?_
              refine k_v ?_ rfl
              refine b_eq t166_57 (fun h57 => ?_) (fun h57 => ?_)
              · refine g_incn (n := 1) t166_62 rfl rfl (Nat.le_of_ble_eq_true rfl) (am_s1_2 rfl) ?_
                refine g_goto t166_65 ?_
                first
                  | (exfalso; omega)
                  | (have u0 := h57; have this := hthis (.int (nI 1)); rw [e, if_pos u0] at this; exact this)
                  | (have u0 := h57; have this := hthis (.int (nI 1)); rw [e, if_neg (fun h => no_b h u0)] at this; exact this)
              · refine g_p t166_60 rfl ?_
                refine g_isn t166_61 (Nat.le_of_ble_eq_true rfl) (am_s1_1 rfl) ?_
                refine g_incn (n := 1) t166_62 rfl rfl (Nat.le_of_ble_eq_true rfl) (am_s1_2 rfl) ?_
                refine g_goto t166_65 ?_
                first
                  | (exfalso; omega)
                  | (have u0 := h57; have this := hthis (.int (nI 1)); rw [e, if_pos u0] at this; exact this)
                  | (have u0 := h57; have this := hthis (.int (nI 1)); rw [e, if_neg (fun h => no_b h u0)] at this; exact this)
          · exact absurd rfl h28
      | some m =>
        have hmn := apb_lt n m hm
        have hpm := pcn_le m
        have e : apb P to (n + 1) = if pcn n < pcn m ∧ tpi P to n to.length = true then some n else some m := by rw [apb, hm]; simp
        show gG X (d + 4) 166 13 [.ref 0, .int (nI m), .int (nI n), z3] [] (mR s) Q
        refine g_p t166_13 rfl ?_
        refine g_k (n := 1) t166_14 rfl rfl ?_
        refine g_p t166_15 rfl ?_
        refine r_getr t166_16 (f0 hF) rfl rfl ?_
        refine r_cv t166_19 (f19 hF) rfl ?_
        refine c74 (by exact hF) hPi ?_
        refine k_v ?_ rfl
        refine g_ishl t166_22 ?_
        rw [shl1 P (by omega)]
        refine n_cge t166_23 (by omega) (by omega) (fun h23 => ?_) (fun h23 => ?_)
        · exfalso; omega
        · refine g_p t166_26 rfl ?_
          refine g_p t166_27 rfl ?_
          refine g_ceq t166_28 (fun h28 => ?_) (fun h28 => ?_)
          · refine g_k (n := 1) t166_42 rfl rfl ?_
            refine g_goto t166_43 ?_
            refine g_isn t166_47 (Nat.le_of_ble_eq_true rfl) (am_s1_3 rfl) ?_
            refine g_p t166_48 rfl ?_
            refine n_eq t166_49 (by omega) (fun h49 => ?_) (fun h49 => ?_)
            · refine g_incn (n := 1) t166_62 rfl rfl (Nat.le_of_ble_eq_true rfl) (am_s1_2 rfl) ?_
              refine g_goto t166_65 ?_
              first
                | (exfalso; omega)
                | exact absurd h28 (nI_m1 (by omega))
                | (have u0 := h57; have u1 : ¬ pcn m ≤ pcn n := h39; have this := hthis (.int (nI 1)); rw [e, if_pos ⟨Nat.lt_of_not_le u1, u0⟩] at this; exact this)
                | (have u0 := h57; have u1 : ¬ pcn m ≤ pcn n := h39; have this := hthis (.int (nI 1)); rw [e, if_neg (fun h => no_b h.2 u0)] at this; exact this)
                | (have u1 : pcn m ≤ pcn n := h39; have this := hthis (.int (nI 0)); rw [e, if_neg (fun h => Nat.not_le.mpr h.1 u1)] at this; exact this)
            · refine g_p t166_52 rfl ?_
              refine g_p t166_53 rfl ?_
              refine r_cv t166_54 (f0 hF) rfl ?_
              refine c167 hF hR hT hto (by omega) ?_
              refine k_v ?_ rfl
              refine b_eq t166_57 (fun h57 => ?_) (fun h57 => ?_)
              · refine g_incn (n := 1) t166_62 rfl rfl (Nat.le_of_ble_eq_true rfl) (am_s1_2 rfl) ?_
                refine g_goto t166_65 ?_
                first
                  | (exfalso; omega)
                  | exact absurd h28 (nI_m1 (by omega))
                  | (have u0 := h57; have u1 : ¬ pcn m ≤ pcn n := h39; have this := hthis (.int (nI 1)); rw [e, if_pos ⟨Nat.lt_of_not_le u1, u0⟩] at this; exact this)
                  | (have u0 := h57; have u1 : ¬ pcn m ≤ pcn n := h39; have this := hthis (.int (nI 1)); rw [e, if_neg (fun h => no_b h.2 u0)] at this; exact this)
                  | (have u1 : pcn m ≤ pcn n := h39; have this := hthis (.int (nI 0)); rw [e, if_neg (fun h => Nat.not_le.mpr h.1 u1)] at this; exact this)
              · refine g_p t166_60 rfl ?_
                refine g_isn t166_61 (Nat.le_of_ble_eq_true rfl) (am_s1_1 rfl) ?_
                refine g_incn (n := 1) t166_62 rfl rfl (Nat.le_of_ble_eq_true rfl) (am_s1_2 rfl) ?_
                refine g_goto t166_65 ?_
                first
                  | (exfalso; omega)
                  | exact absurd h28 (nI_m1 (by omega))
                  | (have u0 := h57; have u1 : ¬ pcn m ≤ pcn n := h39; have this := hthis (.int (nI 1)); rw [e, if_pos ⟨Nat.lt_of_not_le u1, u0⟩] at this; exact this)
                  | (have u0 := h57; have u1 : ¬ pcn m ≤ pcn n := h39; have this := hthis (.int (nI 1)); rw [e, if_neg (fun h => no_b h.2 u0)] at this; exact this)
                  | (have u1 : pcn m ≤ pcn n := h39; have this := hthis (.int (nI 0)); rw [e, if_neg (fun h => Nat.not_le.mpr h.1 u1)] at this; exact this)
          · refine g_p t166_31 rfl ?_
            refine g_cs t166_32 rfl rfl rfl ?_
            refine c266 (by omega) ?_
            refine k_v ?_ rfl
            refine g_p t166_35 rfl ?_
            refine g_cs t166_36 rfl rfl rfl ?_
            refine c266 (by omega) ?_
            refine k_v ?_ rfl
            refine n_cge t166_39 (by omega) (by omega) (fun h39 => ?_) (fun h39 => ?_)
            · refine g_k (n := 0) t166_46 rfl rfl ?_
              refine g_isn t166_47 (Nat.le_of_ble_eq_true rfl) (am_s1_3 rfl) ?_
              refine g_p t166_48 rfl ?_
              refine n_eq t166_49 (by omega) (fun h49 => ?_) (fun h49 => ?_)
              · refine g_incn (n := 1) t166_62 rfl rfl (Nat.le_of_ble_eq_true rfl) (am_s1_2 rfl) ?_
                refine g_goto t166_65 ?_
                first
                  | (exfalso; omega)
                  | exact absurd h28 (nI_m1 (by omega))
                  | (have u0 := h57; have u1 : ¬ pcn m ≤ pcn n := h39; have this := hthis (.int (nI 1)); rw [e, if_pos ⟨Nat.lt_of_not_le u1, u0⟩] at this; exact this)
                  | (have u0 := h57; have u1 : ¬ pcn m ≤ pcn n := h39; have this := hthis (.int (nI 1)); rw [e, if_neg (fun h => no_b h.2 u0)] at this; exact this)
                  | (have u1 : pcn m ≤ pcn n := h39; have this := hthis (.int (nI 0)); rw [e, if_neg (fun h => Nat.not_le.mpr h.1 u1)] at this; exact this)
              · refine g_p t166_52 rfl ?_
                refine g_p t166_53 rfl ?_
                refine r_cv t166_54 (f0 hF) rfl ?_
                refine c167 hF hR hT hto (by omega) ?_
                refine k_v ?_ rfl
                refine b_eq t166_57 (fun h57 => ?_) (fun h57 => ?_)
                · refine g_incn (n := 1) t166_62 rfl rfl (Nat.le_of_ble_eq_true rfl) (am_s1_2 rfl) ?_
                  refine g_goto t166_65 ?_
                  first
                    | (exfalso; omega)
                    | exact absurd h28 (nI_m1 (by omega))
                    | (have u0 := h57; have u1 : ¬ pcn m ≤ pcn n := h39; have this := hthis (.int (nI 1)); rw [e, if_pos ⟨Nat.lt_of_not_le u1, u0⟩] at this; exact this)
                    | (have u0 := h57; have u1 : ¬ pcn m ≤ pcn n := h39; have this := hthis (.int (nI 1)); rw [e, if_neg (fun h => no_b h.2 u0)] at this; exact this)
                    | (have u1 : pcn m ≤ pcn n := h39; have this := hthis (.int (nI 0)); rw [e, if_neg (fun h => Nat.not_le.mpr h.1 u1)] at this; exact this)
                · refine g_p t166_60 rfl ?_
                  refine g_isn t166_61 (Nat.le_of_ble_eq_true rfl) (am_s1_1 rfl) ?_
                  refine g_incn (n := 1) t166_62 rfl rfl (Nat.le_of_ble_eq_true rfl) (am_s1_2 rfl) ?_
                  refine g_goto t166_65 ?_
                  first
                    | (exfalso; omega)
                    | exact absurd h28 (nI_m1 (by omega))
                    | (have u0 := h57; have u1 : ¬ pcn m ≤ pcn n := h39; have this := hthis (.int (nI 1)); rw [e, if_pos ⟨Nat.lt_of_not_le u1, u0⟩] at this; exact this)
                    | (have u0 := h57; have u1 : ¬ pcn m ≤ pcn n := h39; have this := hthis (.int (nI 1)); rw [e, if_neg (fun h => no_b h.2 u0)] at this; exact this)
                    | (have u1 : pcn m ≤ pcn n := h39; have this := hthis (.int (nI 0)); rw [e, if_neg (fun h => Nat.not_le.mpr h.1 u1)] at this; exact this)
            · refine g_k (n := 1) t166_42 rfl rfl ?_
              refine g_goto t166_43 ?_
              refine g_isn t166_47 (Nat.le_of_ble_eq_true rfl) (am_s1_3 rfl) ?_
              refine g_p t166_48 rfl ?_
              refine n_eq t166_49 (by omega) (fun h49 => ?_) (fun h49 => ?_)
              · refine g_incn (n := 1) t166_62 rfl rfl (Nat.le_of_ble_eq_true rfl) (am_s1_2 rfl) ?_
                refine g_goto t166_65 ?_
                first
                  | (exfalso; omega)
                  | exact absurd h28 (nI_m1 (by omega))
                  | (have u0 := h57; have u1 : ¬ pcn m ≤ pcn n := h39; have this := hthis (.int (nI 1)); rw [e, if_pos ⟨Nat.lt_of_not_le u1, u0⟩] at this; exact this)
                  | (have u0 := h57; have u1 : ¬ pcn m ≤ pcn n := h39; have this := hthis (.int (nI 1)); rw [e, if_neg (fun h => no_b h.2 u0)] at this; exact this)
                  | (have u1 : pcn m ≤ pcn n := h39; have this := hthis (.int (nI 0)); rw [e, if_neg (fun h => Nat.not_le.mpr h.1 u1)] at this; exact this)
              · refine g_p t166_52 rfl ?_
                refine g_p t166_53 rfl ?_
                refine r_cv t166_54 (f0 hF) rfl ?_
                refine c167 hF hR hT hto (by omega) ?_
                refine k_v ?_ rfl
                refine b_eq t166_57 (fun h57 => ?_) (fun h57 => ?_)
                · refine g_incn (n := 1) t166_62 rfl rfl (Nat.le_of_ble_eq_true rfl) (am_s1_2 rfl) ?_
                  refine g_goto t166_65 ?_
                  first
                    | (exfalso; omega)
                    | exact absurd h28 (nI_m1 (by omega))
                    | (have u0 := h57; have u1 : ¬ pcn m ≤ pcn n := h39; have this := hthis (.int (nI 1)); rw [e, if_pos ⟨Nat.lt_of_not_le u1, u0⟩] at this; exact this)
                    | (have u0 := h57; have u1 : ¬ pcn m ≤ pcn n := h39; have this := hthis (.int (nI 1)); rw [e, if_neg (fun h => no_b h.2 u0)] at this; exact this)
                    | (have u1 : pcn m ≤ pcn n := h39; have this := hthis (.int (nI 0)); rw [e, if_neg (fun h => Nat.not_le.mpr h.1 u1)] at this; exact this)
                · refine g_p t166_60 rfl ?_
                  refine g_isn t166_61 (Nat.le_of_ble_eq_true rfl) (am_s1_1 rfl) ?_
                  refine g_incn (n := 1) t166_62 rfl rfl (Nat.le_of_ble_eq_true rfl) (am_s1_2 rfl) ?_
                  refine g_goto t166_65 ?_
                  first
                    | (exfalso; omega)
                    | exact absurd h28 (nI_m1 (by omega))
                    | (have u0 := h57; have u1 : ¬ pcn m ≤ pcn n := h39; have this := hthis (.int (nI 1)); rw [e, if_pos ⟨Nat.lt_of_not_le u1, u0⟩] at this; exact this)
                    | (have u0 := h57; have u1 : ¬ pcn m ≤ pcn n := h39; have this := hthis (.int (nI 1)); rw [e, if_neg (fun h => no_b h.2 u0)] at this; exact this)
                    | (have u1 : pcn m ≤ pcn n := h39; have this := hthis (.int (nI 0)); rw [e, if_neg (fun h => Nat.not_le.mpr h.1 u1)] at this; exact this)
  refine en166 rfl ?_
  refine g_p t166_0 rfl ?_
  refine r_cv t166_1 (f0 hF) rfl ?_
  refine c129 (by exact hF) (by exact hR.1) hP5 ?_
  refine k_v ?_ rfl
  refine b_ne t166_4 (fun h4 => ?_) (fun h4 => ?_)
  · refine g_p t166_9 rfl ?_
    refine g_isn t166_10 (Nat.le_of_ble_eq_true rfl) (am_s1_1 rfl) ?_
    refine g_k (n := 0) t166_11 rfl rfl ?_
    refine g_isn t166_12 (Nat.le_of_ble_eq_true rfl) (am_s1_2 rfl) ?_
    have := K (2 ^ P) 0 (by omega) (.float 0)
    exact this
  · exact no_b (decide_eq_true hP0) h4
theorem c166f (hF : Fx s) (hR : CR 0 s) (hq : Q (some (.int (-1))) (mR s)) : gE X (d + 4) 166 [.ref 0] (mR s) Q := by
  have hP5 := hR.2.2.1
  refine en166 rfl ?_
  refine g_p t166_0 rfl ?_
  refine r_cv t166_1 (f0 hF) rfl ?_
  refine c129 (by exact hF) (by exact hR.1) hP5 ?_
  refine k_v ?_ rfl
  refine b_ne t166_4 (fun h4 => ?_) (fun h4 => ?_)
  · exact no_b h4 (decide_eq_false (by decide))
  · refine g_p t166_7 rfl ?_
    exact i_ret t166_8 rfl hq
end FJ
