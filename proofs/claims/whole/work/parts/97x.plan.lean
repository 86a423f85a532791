/-! PLANS, 4: the fewest days -/
def orn (B : Nat → Nat) (l : List Nat) (z : Nat) : Nat → Nat
  | 0 => z
  | k + 1 => orn B l z k ||| B (l.getD k 0)
def spr (P r w : Nat) (B : Nat → Nat) (y : Nat) : Nat := if std P r w y = true then orn B (nb P y) (B y) (nb P y).length else 0
theorem orn_lt {B : Nat → Nat} {l : List Nat} {z m : Nat} (hz : z < 2 ^ m) (hB : ∀ i, i < l.length → B (l.getD i 0) < 2 ^ m) : ∀ k, k ≤ l.length → orn B l z k < 2 ^ m := by
  intro k
  induction k with
  | zero => intro _; exact hz
  | succ k ih => intro h; exact Nat.or_lt_two_pow (ih (by omega)) (hB k (by omega))
theorem orn_bit {B : Nat → Nat} {l : List Nat} {z q : Nat} : ∀ k, (orn B l z k).testBit q = true ↔ z.testBit q = true ∨ ∃ i, i < k ∧ (B (l.getD i 0)).testBit q = true := by
  intro k
  induction k with
  | zero => simp [orn]
  | succ k ih =>
    rw [orn, Nat.testBit_or, Bool.or_eq_true, ih]
    constructor
    · rintro ((h | ⟨i, h1, h2⟩) | h)
      · exact Or.inl h
      · exact Or.inr ⟨i, by omega, h2⟩
      · exact Or.inr ⟨k, by omega, h⟩
    · rintro (h | ⟨i, h1, h2⟩)
      · exact Or.inl (Or.inl h)
      · by_cases h3 : i = k
        · subst h3; exact Or.inr h2
        · exact Or.inl (Or.inr ⟨i, by omega, h2⟩)
/-- bits that tell a set: who is reached with how many letters, j moves behind T -/
def rep (P r w m : Nat) (T : Nat → Nat → Prop) (j : Nat) (B : Nat → Nat) : Prop := ∀ a, a < mn P → B a < 2 ^ (m + 1) ∧ ∀ k, (B a).testBit k = true ↔ ∃ c, T k c ∧ lv (aj P r w (fun _ _ => true)) c j a
theorem rep_s {P r w m j : Nat} {T : Nat → Nat → Prop} {B : Nat → Nat} (hP : P ≤ 5) (hT : ∀ k c, T k c → std P r w c = true) (h : rep P r w m T j B) : rep P r w m T (j + 1) (spr P r w B) := by
  intro a ha
  have hnb : ∀ i, i < (nb P a).length → (nb P a).getD i 0 < mn P := fun i hi => nbD hP ha hi
  unfold spr
  by_cases hs : std P r w a = true
  · rw [if_pos hs]
    refine ⟨orn_lt (h a ha).1 (fun i hi => (h _ (hnb i hi)).1) _ (Nat.le_refl _), fun k => ?_⟩
    rw [orn_bit]
    constructor
    · rintro (h1 | ⟨i, hi, h1⟩)
      · obtain ⟨c, h2, h3⟩ := ((h a ha).2 k).mp h1
        exact ⟨c, h2, Or.inl h3⟩
      · obtain ⟨c, h2, h3⟩ := ((h _ (hnb i hi)).2 k).mp h1
        have ht : (nb P a).getD i 0 ∈ en P a := nb_mem.mp (getD_mem hi)
        exact ⟨c, h2, Or.inr ⟨_, h3, (en_1 hP ha ht).2.1, lv_std (hT k c h2) h3, hs, rfl⟩⟩
    · rintro ⟨c, h2, h3 | ⟨y, h3, h4⟩⟩
      · exact Or.inl (((h a ha).2 k).mpr ⟨c, h2, h3⟩)
      · have hyN := (std_t h4.2.1).1
        obtain ⟨i, hi, e⟩ := mem_getD (nb_mem.mpr (en_1 hP hyN h4.1).2.1)
        refine Or.inr ⟨i, hi, ?_⟩
        rw [e]
        exact ((h y hyN).2 k).mpr ⟨c, h2, h3⟩
  · rw [if_neg hs]
    refine ⟨Nat.pow_pos (by decide), fun k => ?_⟩
    rw [Nat.zero_testBit]
    constructor
    · intro h1; cases h1
    · rintro ⟨c, h2, h3⟩
      exact absurd (lv_std (hT k c h2) h3) hs
section PX
variable {X : am_X} {d : Nat} {s : mM} {Q : Option Value → am_H → Prop} {P r w pd row day left a c t p p2 n2 : Nat} {v : Int32} {b : Bk} {l : List Nat}
theorem c46 (hN : Nu s p2 n2) (hl : NL s p2 l) (hll : l.length ≤ n2) (hl8l : l.length ≤ 8) {B : Nat} (hB : B < 2 ^ 9) (hq : Q (some (.int (nI (gon B v l)))) (mR s)) : gE X (d + 1) 46 [.int (nI B), .int v, .ref p2] (mR s) Q := by
  unfold gon at hq
  by_cases hv : v = -1
  · rw [if_pos hv] at hq
    refine en46 rfl rfl rfl ?_
    refine g_p t46_0 rfl ?_
    refine g_p t46_1 rfl ?_
    refine g_cne t46_2 (fun h2 => ?_) (fun h2 => ?_)
    · exact absurd hv h2
    · refine g_p t46_5 rfl ?_
      exact i_ret t46_6 rfl hq
  · rw [if_neg hv] at hq
    have K : ∀ j i : Nat, i + j = l.length → gG X (d + 1) 46 12 [.int (nI B), .int v, .ref p2, .int (nI (gob B v l i)), .int (nI i)] [] (mR s) Q := by
      intro j
      induction j with
      | zero =>
        intro i hj
        have hj : i = l.length := by omega
        subst hj
        refine g_p t46_12 rfl ?_
        refine g_p t46_14 rfl ?_
        refine r_cv t46_15 hN.1 rfl ?_
        refine c29L hN (by exact hl) ?_
        refine k_v ?_ rfl
        refine n_cge t46_18 (by omega) (by omega) (fun h18 => ?_) (fun h18 => ?_)
        · refine g_p t46_55 rfl ?_
          exact i_ret t46_56 rfl hq
        · exfalso; omega
      | succ j ih =>
        intro i hj
        have hil : i < l.length := by omega
        have hp1 : 2 ^ i ≤ 2 ^ 8 := Nat.pow_le_pow_right (by decide) (by omega)
        have hp2 : 2 ^ (i + 1) ≤ 2 ^ 8 := Nat.pow_le_pow_right (by decide) (by omega)
        have hg := gob_lt (B := B) (x := v) (l := l) i
        have hc8 : (2 : Nat) ^ 8 = 256 := by decide
        refine g_p t46_12 rfl ?_
        refine g_p t46_14 rfl ?_
        refine r_cv t46_15 hN.1 rfl ?_
        refine c29L hN (by exact hl) ?_
        refine k_v ?_ rfl
        refine n_cge t46_18 (by omega) (by omega) (fun h18 => ?_) (fun h18 => ?_)
        · exfalso; omega
        · refine g_p t46_21 rfl ?_
          refine g_p t46_22 rfl ?_
          refine r_cv t46_24 hN.1 rfl ?_
          refine c30L hN (by exact hl) (by omega) (by omega) ?_
          refine k_v ?_ rfl
          refine g_p t46_27 rfl ?_
          refine g_cne t46_28 (fun h28 => ?_) (fun h28 => ?_)
          · refine g_incn (n := 1) t46_49 rfl rfl (Nat.le_of_ble_eq_true rfl) (am_s1_4 rfl) ?_
            refine g_goto t46_52 ?_
            have := ih (i + 1) (by omega)
            unfold gob at this
            first
              | (rw [if_neg (fun h => h28 h.1)] at this; exact this)
              | (rw [if_neg (fun h => by have h9 := and_pow.mp h37; rw [h.2] at h9; exact absurd h9 (by decide))] at this; exact this)
              | (have hb : B.testBit i = true := by
                   cases hb : B.testBit i
                   · exact absurd (and_pow.mpr hb) h37
                   · rfl
                 rw [if_pos ⟨h28, hb⟩] at this; exact this)
          · refine g_p t46_31 rfl ?_
            refine g_k (n := 1) t46_32 rfl rfl ?_
            refine g_p t46_33 rfl ?_
            refine g_ishl t46_35 ?_
            rw [shl1 i (by omega)]
            refine g_iand t46_36 ?_
            rw [nI_and (by omega) (by omega)]
            refine n_eq t46_37 (Nat.lt_of_le_of_lt Nat.and_le_left (by omega)) (fun h37 => ?_) (fun h37 => ?_)
            · refine g_incn (n := 1) t46_49 rfl rfl (Nat.le_of_ble_eq_true rfl) (am_s1_4 rfl) ?_
              refine g_goto t46_52 ?_
              have := ih (i + 1) (by omega)
              unfold gob at this
              first
                | (rw [if_neg (fun h => h28 h.1)] at this; exact this)
                | (rw [if_neg (fun h => by have h9 := and_pow.mp h37; rw [h.2] at h9; exact absurd h9 (by decide))] at this; exact this)
                | (have hb : B.testBit i = true := by
                     cases hb : B.testBit i
                     · exact absurd (and_pow.mpr hb) h37
                     · rfl
                   rw [if_pos ⟨h28, hb⟩] at this; exact this)
            · refine g_p t46_40 rfl ?_
              refine g_k (n := 1) t46_41 rfl rfl ?_
              refine g_p t46_42 rfl ?_
              refine g_k (n := 1) t46_44 rfl rfl ?_
              refine g_addn t46_45 ?_
              refine g_ishl t46_46 ?_
              rw [shl1 (i + 1) (by omega)]
              refine g_ior t46_47 ?_
              rw [nI_or (by omega) (by omega)]
              refine g_isn t46_48 (Nat.le_of_ble_eq_true rfl) (am_s1_3 rfl) ?_
              refine g_incn (n := 1) t46_49 rfl rfl (Nat.le_of_ble_eq_true rfl) (am_s1_4 rfl) ?_
              refine g_goto t46_52 ?_
              have := ih (i + 1) (by omega)
              unfold gob at this
              first
                | (rw [if_neg (fun h => h28 h.1)] at this; exact this)
                | (rw [if_neg (fun h => by have h9 := and_pow.mp h37; rw [h.2] at h9; exact absurd h9 (by decide))] at this; exact this)
                | (have hb : B.testBit i = true := by
                     cases hb : B.testBit i
                     · exact absurd (and_pow.mpr hb) h37
                     · rfl
                   rw [if_pos ⟨h28, hb⟩] at this; exact this)
    refine en46 rfl rfl rfl ?_
    refine g_p t46_0 rfl ?_
    refine g_p t46_1 rfl ?_
    refine g_cne t46_2 (fun h2 => ?_) (fun h2 => ?_)
    · refine g_k (n := 0) t46_7 rfl rfl ?_
      refine g_isn t46_8 (Nat.le_of_ble_eq_true rfl) (am_s1_3 rfl) ?_
      refine g_k (n := 0) t46_9 rfl rfl ?_
      refine g_is t46_10 (Nat.le_of_ble_eq_true rfl) (am_s1_4 rfl) ?_
      exact K l.length 0 (by omega)
    · exact absurd h2 hv
theorem c45 (hF : Fx s) (hR : CR P s) (hW : CW r w pd row day left s) (hr5 : r ≤ 5) (hw5 : w ≤ 5) (hZ : CZ s) {B : Nat → Nat} (hB : ∀ y, y < mn P → ri s 69 y = nI (B y) ∧ B y < 2 ^ 9)
    (hq : ∀ s', Fr [68, 69, 70, 71] s s' → CZ s' → (∀ y, y < mn P → ri s' 69 y = nI (spr P r w B y)) → Q none (mR s')) : gE X (d + 3) 45 [.ref 61] (mR s) Q := by
  have hP5 := hR.2.2.1
  have hm := mn_le hP5
  have hc9 : (2 : Nat) ^ 9 = 512 := by decide
  have K : ∀ j x : Nat, x + j = mn P → ∀ s' z2 z3, am_nl z2 = true → Fr [71] s s' → (∀ y, y < x → ri s' 71 y = nI (spr P r w B y)) → gG X (d + 3) 45 2 [.ref 61, .int (nI x), z2, z3] [] (mR s') Q := by
    intro j
    induction j with
    | zero =>
      intro x hj s' z2 z3 n2 hf hth
      have hj : x = mn P := by omega
      subst hj
      have hZ := hZ.fr hf (by decide) (by decide)
      have hF := hF.fr hf
      have hR := hR.fr hf (by decide)
      have hW := hW.fr hf (by decide)
      obtain ⟨e1, e2, e3, e4, e5, e6⟩ := hW
      refine g_p t45_2 rfl ?_
      refine g_p t45_3 rfl ?_
      refine r_getr t45_4 (f61 hF) rfl rfl ?_
      refine r_cv t45_7 (f19 hF) rfl ?_
      refine c76 (by exact hF) hR.2.1 ?_
      refine k_v ?_ rfl
      refine n_cge t45_10 (by omega) (by omega) (fun h10 => ?_) (fun h10 => ?_)
      · refine g_p t45_91 rfl ?_
        refine r_getr t45_92 (f61 hF) rfl rfl ?_
        refine g_p t45_95 rfl ?_
        refine r_getr t45_96 (f61 hF) rfl rfl ?_
        refine r_cv t45_99 (f68 hF) rfl ?_
        refine c36c (by exact fN68 hF) (by exact fN70 hF) (by decide) (by exact hZ.2) (by decide) (fun s99 fr99 l99 t99 => ?_)
        refine k_0 ?_
        exact v_ret t45_102 (hq _ ((hf.mono (by decide)).tr (fr99.mono (by decide))) ⟨l99, (fr99.ri (by decide)).trans hZ.2⟩ (fun y hy => (t99 y (by omega)).trans (hth y hy)))
      · exfalso; omega
    | succ j ih =>
      intro x hj s' z2 z3 n2 hf hth
      have hxm : x < mn P := by omega
      have hnl := nb_len hP5 hxm
      have hF := hF.fr hf
      have hR := hR.fr hf (by decide)
      have hW := hW.fr hf (by decide)
      obtain ⟨e1, e2, e3, e4, e5, e6⟩ := hW
      have hb := hR.2.2.2.2.2.2.2 x hxm
      have hBx := hB x hxm
      have hBi : ∀ i, i < (nb P x).length → (nb P x).getD i 0 < mn P := fun i hi => nbD hP5 hxm hi
      have hfB : ∀ y, y < mn P → ri s' 69 y = nI (B y) := fun y hy => (hf.ri (by decide)).trans (hB y hy).1
      have hol : ∀ k, k ≤ (nb P x).length → orn B (nb P x) (B x) k < 2 ^ 9 := orn_lt hBx.2 (fun i hi => (hB _ (hBi i hi)).2)
      have KI : ∀ i k : Nat, k + i = (nb P x).length → gG X (d + 3) 45 24 [.ref 61, .int (nI x), .int (nI (orn B (nb P x) (B x) k)), .int (nI k)] [] (mR s') Q := by
        intro i
        induction i with
        | zero =>
          intro k hi
          have hk : k = (nb P x).length := by omega
          subst hk
          have := hol _ (Nat.le_refl _)
          refine g_p t45_24 rfl ?_
          refine g_p t45_25 rfl ?_
          refine r_getr t45_26 (f61 hF) rfl rfl ?_
          refine g_p t45_29 rfl ?_
          refine r_cv t45_30 (f19 hF) rfl ?_
          refine c81 (by exact hF) (by omega) hb.1 ?_
          refine k_v ?_ rfl
          refine n_cge t45_33 (by omega) (by omega) (fun h33 => ?_) (fun h33 => ?_)
          · refine g_p t45_61 rfl ?_
            refine r_getr t45_62 (f61 hF) rfl rfl ?_
            refine g_p t45_65 rfl ?_
            refine g_p t45_66 rfl ?_
            refine r_getr t45_67 (f61 hF) rfl rfl ?_
            refine g_p t45_70 rfl ?_
            refine r_cv t45_71 (f32 hF) rfl ?_
            refine c103 (by exact hF) (by exact hR) (by omega) (by exact e1) (by exact e2) hr5 hw5 ?_
            refine k_v ?_ rfl
            refine b_eq t45_74 (fun h74 => ?_) (fun h74 => ?_)
            · refine g_k (n := 0) t45_81 rfl rfl ?_
              refine r_cv t45_82 (f70 hF) rfl ?_
              refine c31 (by exact fN70 hF) (by omega) ?_
              refine k_0 ?_
              refine g_incn (n := 1) t45_85 rfl rfl (Nat.le_of_ble_eq_true rfl) (am_s1_1 rfl) ?_
              refine g_goto t45_88 ?_
              first
                | refine ih (x + 1) (by omega) _ _ _ (by rfl) (hf.wi (p := 71) (i := x) (v := nI (orn B (nb P x) (B x) (nb P x).length)) (by simp)) (fun y hy => ?_)
                | refine ih (x + 1) (by omega) _ _ _ (by rfl) (hf.wi (p := 71) (i := x) (v := nI 0) (by simp)) (fun y hy => ?_)
              by_cases h9 : y = x
              · subst h9
                refine ri_wi_eq.trans ?_
                unfold spr
                first
                  | (rw [if_pos h74])
                  | (rw [if_neg (by rw [h74]; decide)])
              · exact (ri_wi_j h9).trans (hth y (by omega))
            · refine g_p t45_77 rfl ?_
              refine g_goto t45_78 ?_
              refine r_cv t45_82 (f70 hF) rfl ?_
              refine c31 (by exact fN70 hF) (by omega) ?_
              refine k_0 ?_
              refine g_incn (n := 1) t45_85 rfl rfl (Nat.le_of_ble_eq_true rfl) (am_s1_1 rfl) ?_
              refine g_goto t45_88 ?_
              first
                | refine ih (x + 1) (by omega) _ _ _ (by rfl) (hf.wi (p := 71) (i := x) (v := nI (orn B (nb P x) (B x) (nb P x).length)) (by simp)) (fun y hy => ?_)
                | refine ih (x + 1) (by omega) _ _ _ (by rfl) (hf.wi (p := 71) (i := x) (v := nI 0) (by simp)) (fun y hy => ?_)
              by_cases h9 : y = x
              · subst h9
                refine ri_wi_eq.trans ?_
                unfold spr
                first
                  | (rw [if_pos h74])
                  | (rw [if_neg (by rw [h74]; decide)])
              · exact (ri_wi_j h9).trans (hth y (by omega))
          · exfalso; omega
        | succ i ihi =>
          intro k hi
          have hkl : k < (nb P x).length := by omega
          have h1 := hol k (by omega)
          have h2 := hBi k hkl
          have h3 := (hB _ h2).2
          refine g_p t45_24 rfl ?_
          refine g_p t45_25 rfl ?_
          refine r_getr t45_26 (f61 hF) rfl rfl ?_
          refine g_p t45_29 rfl ?_
          refine r_cv t45_30 (f19 hF) rfl ?_
          refine c81 (by exact hF) (by omega) hb.1 ?_
          refine k_v ?_ rfl
          refine n_cge t45_33 (by omega) (by omega) (fun h33 => ?_) (fun h33 => ?_)
          · exfalso; omega
          · refine g_p t45_36 rfl ?_
            refine g_p t45_37 rfl ?_
            refine r_getr t45_38 (f61 hF) rfl rfl ?_
            refine g_p t45_41 rfl ?_
            refine r_getr t45_42 (f61 hF) rfl rfl ?_
            refine g_p t45_45 rfl ?_
            refine g_p t45_46 rfl ?_
            refine r_cv t45_47 (f19 hF) rfl ?_
            refine c82 (by exact hF) (by omega) (hb.2 k hkl) ?_
            refine k_v ?_ rfl
            refine r_cv t45_50 (f68 hF) rfl ?_
            refine c30e (by exact fN68 hF) (by omega) (hfB _ h2) ?_
            refine k_v ?_ rfl
            refine g_ior t45_53 ?_
            rw [nI_or (by omega) (by omega)]
            refine g_isn t45_54 (Nat.le_of_ble_eq_true rfl) (am_s1_2 rfl) ?_
            refine g_incn (n := 1) t45_55 rfl rfl (Nat.le_of_ble_eq_true rfl) (am_s1_3 rfl) ?_
            refine g_goto t45_58 ?_
            exact ihi (k + 1) (by omega)
      refine g_p t45_2 rfl ?_
      refine g_p t45_3 rfl ?_
      refine r_getr t45_4 (f61 hF) rfl rfl ?_
      refine r_cv t45_7 (f19 hF) rfl ?_
      refine c76 (by exact hF) hR.2.1 ?_
      refine k_v ?_ rfl
      refine n_cge t45_10 (by omega) (by omega) (fun h10 => ?_) (fun h10 => ?_)
      · exfalso; omega
      · refine g_p t45_13 rfl ?_
        refine r_getr t45_14 (f61 hF) rfl rfl ?_
        refine g_p t45_17 rfl ?_
        refine r_cv t45_18 (f68 hF) rfl ?_
        refine c30e (by exact fN68 hF) (by omega) (hfB x hxm) ?_
        refine k_v ?_ rfl
        refine g_isn t45_21 (Nat.le_of_ble_eq_true rfl) (am_s1_2 rfl) ?_
        refine g_k (n := 0) t45_22 rfl rfl ?_
        refine g_isn t45_23 (Nat.le_of_ble_eq_true rfl) (am_s1_3 rfl) ?_
        exact KI _ 0 (Nat.zero_add _)
  refine en45 rfl ?_
  refine g_k (n := 0) t45_0 rfl rfl ?_
  refine g_isn t45_1 (Nat.le_of_ble_eq_true rfl) (am_s1_1 rfl) ?_
  exact K (mn P) 0 (by omega) s _ _ rfl Fr.rf (fun y hy => absurd hy (Nat.not_lt_zero y))
end PX
