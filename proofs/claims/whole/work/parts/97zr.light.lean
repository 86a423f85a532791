/-! LIGHT'S WORTH, 1: numbers -/
abbrev LV : Type := Int64 × Ps
/-- between the bounds -/
def w64 (x : Int64) : Int64 := let u := if x < 1000000 then x else 1000000; if u < -1000000 then -1000000 else u
/-- digits behind the first: at most n -/
def dgl (t : List Nat) : Nat → LV → LV
  | 0, x => x
  | n + 1, x => match x.2 with
    | .inl j => if 48 ≤ sgn t (j + 1) ∧ sgn t (j + 1) ≤ 57 then dgl t n (x.1 * 10 + lN (sgn t (j + 1) - 48), .inl (j + 1)) else x
    | .inr _ => x
def atn (t : List Nat) (a : Nat → Int32) (σ : Ps) : LV :=
  if 48 ≤ psg t σ ∧ psg t σ ≤ 57 then ((dgl t 3 (lN (psg t σ - 48), σ)).1, pst t (dgl t 3 (lN (psg t σ - 48), σ)).2)
  else if psg t σ = 112 then ((a 4).toInt64, pst t σ)
  else if psg t σ = 100 then ((a 5).toInt64, pst t σ)
  else if psg t σ = 115 then ((a 6).toInt64, pst t σ)
  else if psg t σ = 110 then ((a 7).toInt64, pst t σ)
  else (0, pre σ)
def tml (t : List Nat) (f : Ps → LV) : Nat → LV → LV
  | 0, x => x
  | n + 1, x =>
    if psg t x.2 = 42 then tml t f n (w64 (x.1 * (f (pst t x.2)).1), (f (pst t x.2)).2)
    else if psg t x.2 = 47 then tml t f n (if (f (pst t x.2)).1 = 0 then 0 else x.1 / (f (pst t x.2)).1, (f (pst t x.2)).2)
    else x
def sml (t : List Nat) (f : Ps → LV) : Nat → LV → LV
  | 0, x => x
  | n + 1, x =>
    if psg t x.2 = 43 then sml t f n (w64 (x.1 + (f (pst t x.2)).1), (f (pst t x.2)).2)
    else if psg t x.2 = 45 then sml t f n (w64 (x.1 - (f (pst t x.2)).1), (f (pst t x.2)).2)
    else x
def ltm (t : List Nat) (f : Ps → LV) (σ : Ps) : LV := tml t f 120 (f σ)
def lsm (t : List Nat) (f : Ps → LV) (σ : Ps) : LV := sml t (ltm t f) 120 (ltm t f σ)
def lat (t : List Nat) (a : Nat → Int32) : Nat → Ps → LV
  | 0, σ => atn t a σ
  | e + 1, σ => if psg t σ = 91 then ((lsm t (lat t a e) (pst t σ)).1, pne t 93 (lsm t (lat t a e) (pst t σ)).2) else atn t a σ
/-- method y answers f -/
def AtC (X : am_X) (T n : Nat) (t : List Nat) (a : Nat → Int32) (y k d : Nat) (f : Ps → LV) : Prop := ∀ (s : mM) (σ : Ps) (Q : Option Value → am_H → Prop), Fx s → RD 15 T n t σ s → (∀ i, 4 ≤ i → i < 8 → ri s 15 i = a i) → (∀ s', FR 15 s s' → RD 15 T n t (f σ).2 s' → Q (some (.long (f σ).1)) (mR s')) → gE X d y [.ref 15, .int (nI k)] (mR s) Q
section TR
variable {X : am_X} {d : Nat} {s : mM} {hp : am_H} {Q : Option Value → am_H → Prop} {T n k : Nat} {t : List Nat} {σ : Ps} {v : Int32} {u : Int64} {a : Nat → Int32} {f g : Ps → LV}
theorem c26 (hq : Q (some (.long (w64 u))) hp) : gE X d 26 [.long u] hp Q := by
  refine en26 ?_
  refine g_p t26_0 rfl ?_
  refine g_p t26_3 rfl ?_
  refine g_p t26_6 rfl ?_
  refine g_minl t26_7 (Nat.le_of_ble_eq_true rfl) ?_
  refine g_maxl t26_10 (Nat.le_of_ble_eq_true rfl) ?_
  exact l_ret t26_13 rfl hq
theorem c25 (hTR : T ≠ 15 ∧ T + 1 ≠ 15) (h27 : AtC X T n t a 27 k d f) : AtC X T n t a 25 k (d + 1) (ltm t f) := by
  intro s σ Q hF hD ha hq
  obtain ⟨Z, hZ⟩ : ∃ Z, Z = tml t f 120 (f σ) := ⟨_, rfl⟩
  have hq : ∀ s', FR 15 s s' → RD 15 T n t Z.2 s' → Q (some (.long Z.1)) (mR s') := by rw [hZ]; exact hq
  have K : ∀ (j : Nat) (w : Int64) (τ : Ps) (i : Nat), i + j = 120 → ∀ (z5 z6 z7 : Value) (s' : mM), Z = tml t f j (w, τ) → Fx s' → FR 15 s s' → RD 15 T n t τ s' → gG X (d + 1) 25 9 [.ref 15, .int (nI k), .long w, .float 0, .int (nI i), z5, z6, z7] [] (mR s') Q := by
    intro j
    induction j with
    | zero =>
      intro w τ i hj z5 z6 z7 s' he hF hg hD
      have he : Z = (w, τ) := he
      rw [he] at hq
      refine g_p t25_9 rfl ?_
      refine g_k (n := 120) t25_11 rfl rfl ?_
      refine n_cge t25_13 (by omega) (by omega) (fun h13 => ?_) (fun h13 => ?_)
      · refine g_p t25_99 rfl ?_
        exact l_ret t25_100 rfl (hq s' hg hD)
      · exfalso; omega
    | succ j ih =>
      intro w τ i hj z5 z6 z7 s' he hF hg hD
      have hlt := psg_lt hD.1 τ
      unfold tml at he
      by_cases l1 : psg t τ = 42
      · rw [if_pos l1] at he
        refine g_p t25_9 rfl ?_
        refine g_k (n := 120) t25_11 rfl rfl ?_
        refine n_cge t25_13 (by omega) (by omega) (fun h13 => ?_) (fun h13 => ?_)
        · exfalso; omega
        · refine g_p t25_16 rfl ?_
          refine r_cv t25_17 (f15 hF) rfl ?_
          refine c52_15 (by exact hF) (by exact hD.2.2) ?_
          refine k_v ?_ rfl
          refine g_k (n := 42) t25_20 rfl rfl ?_
          refine n_ceq t25_22 (by omega) (by omega) (fun h22 => ?_) (fun h22 => ?_)
          · refine g_p t25_34 rfl ?_
            refine r_cv t25_35 (f15 hF) rfl ?_
            refine c52_15 (by exact hF) (by exact hD.2.2) ?_
            refine k_v ?_ rfl
            refine g_k (n := 42) t25_38 rfl rfl ?_
            refine n_cne t25_40 (by omega) (by omega) (fun h40 => ?_) (fun h40 => ?_)
            · exact absurd l1 h40
            · refine g_k (n := 1) t25_43 rfl rfl ?_
              refine g_goto t25_44 ?_
              refine g_is t25_48 (Nat.le_of_ble_eq_true rfl) (am_s1_5 rfl) ?_
              refine g_p t25_50 rfl ?_
              refine r_cv t25_51 (f15 hF) rfl ?_
              refine c53r_15 (by exact hF) hTR (by exact hD) (Or.inl (by omega)) (fun s51 fr51 hD => ?_)
              have hF := hF.fr fr51.1
              have hg := hg.tr fr51
              refine k_0 ?_
              refine g_p t25_54 rfl ?_
              refine g_p t25_55 rfl ?_
              refine r_cv t25_56 (f15 hF) rfl ?_
              refine h27 _ _ _ (by exact hF) (by exact hD) (fun i h1 h2 => (hg.2 i (Or.inr h1)).trans (ha i h1 h2)) (fun s56 fr56 hD => ?_)
              have hF := hF.fr fr56.1
              have hg := hg.tr fr56
              refine k_v ?_ rfl
              refine g_ls t25_59 (Nat.le_of_ble_eq_true rfl) (am_s2_6 rfl) ?_
              refine g_p t25_61 rfl ?_
              refine n_eq t25_63 (by omega) (fun h63 => ?_) (fun h63 => ?_)
              · exact absurd h63 (by decide)
              · refine g_p t25_66 rfl ?_
                refine g_p t25_67 rfl ?_
                refine g_lmul t25_69 ?_
                refine g_cs t25_70 rfl rfl rfl ?_
                refine c26 ?_
                refine k_v ?_ rfl
                refine g_lsn t25_73 (Nat.le_of_ble_eq_true rfl) (am_s2_2 rfl) ?_
                refine g_goto t25_74 ?_
                refine g_incn (n := 1) t25_93 rfl rfl (Nat.le_of_ble_eq_true rfl) (am_s1_4 rfl) ?_
                refine g_goto t25_96 ?_
                exact ih _ _ (i + 1) (by omega) _ _ _ _ he hF hg hD
          · exact absurd l1 h22
      · rw [if_neg l1] at he
        by_cases l2 : psg t τ = 47
        · rw [if_pos l2] at he
          refine g_p t25_9 rfl ?_
          refine g_k (n := 120) t25_11 rfl rfl ?_
          refine n_cge t25_13 (by omega) (by omega) (fun h13 => ?_) (fun h13 => ?_)
          · first
              | (exfalso; omega)
              | skip
          · refine g_p t25_16 rfl ?_
            refine r_cv t25_17 (f15 hF) rfl ?_
            refine c52_15 (by exact hF) (by exact hD.2.2) ?_
            refine k_v ?_ rfl
            refine g_k (n := 42) t25_20 rfl rfl ?_
            refine n_ceq t25_22 (by omega) (by omega) (fun h22 => ?_) (fun h22 => ?_)
            · refine g_p t25_34 rfl ?_
              refine r_cv t25_35 (f15 hF) rfl ?_
              refine c52_15 (by exact hF) (by exact hD.2.2) ?_
              refine k_v ?_ rfl
              refine g_k (n := 42) t25_38 rfl rfl ?_
              refine n_cne t25_40 (by omega) (by omega) (fun h40 => ?_) (fun h40 => ?_)
              · refine g_k (n := 0) t25_47 rfl rfl ?_
                refine g_is t25_48 (Nat.le_of_ble_eq_true rfl) (am_s1_5 rfl) ?_
                refine g_p t25_50 rfl ?_
                refine r_cv t25_51 (f15 hF) rfl ?_
                refine c53r_15 (by exact hF) hTR (by exact hD) (Or.inl (by omega)) (fun s51 fr51 hD => ?_)
                have hF := hF.fr fr51.1
                have hg := hg.tr fr51
                refine k_0 ?_
                refine g_p t25_54 rfl ?_
                refine g_p t25_55 rfl ?_
                refine r_cv t25_56 (f15 hF) rfl ?_
                refine h27 _ _ _ (by exact hF) (by exact hD) (fun i h1 h2 => (hg.2 i (Or.inr h1)).trans (ha i h1 h2)) (fun s56 fr56 hD => ?_)
                have hF := hF.fr fr56.1
                have hg := hg.tr fr56
                refine k_v ?_ rfl
                refine g_ls t25_59 (Nat.le_of_ble_eq_true rfl) (am_s2_6 rfl) ?_
                refine g_p t25_61 rfl ?_
                refine n_eq t25_63 (by omega) (fun h63 => ?_) (fun h63 => ?_)
                · refine g_p t25_77 rfl ?_
                  refine g_p t25_79 rfl ?_
                  refine g_p t25_80 rfl ?_
                  refine g_ne t25_81 (fun h81 => ?_) (fun h81 => ?_)
                  · rw [if_neg (fun h => h81 ((lg_cmp_eq _ _).mpr h))] at he
                    refine g_p t25_88 rfl ?_
                    refine g_p t25_89 rfl ?_
                    refine g_ldiv t25_91 (fun h => h81 ((lg_cmp_eq _ _).mpr h)) ?_
                    refine g_lsn t25_92 (Nat.le_of_ble_eq_true rfl) (am_s2_2 rfl) ?_
                    refine g_incn (n := 1) t25_93 rfl rfl (Nat.le_of_ble_eq_true rfl) (am_s1_4 rfl) ?_
                    refine g_goto t25_96 ?_
                    exact ih _ _ (i + 1) (by omega) _ _ _ _ he hF hg hD
                  · rw [if_pos ((lg_cmp_eq _ _).mp h81)] at he
                    refine g_p t25_84 rfl ?_
                    refine g_goto t25_85 ?_
                    refine g_lsn t25_92 (Nat.le_of_ble_eq_true rfl) (am_s2_2 rfl) ?_
                    refine g_incn (n := 1) t25_93 rfl rfl (Nat.le_of_ble_eq_true rfl) (am_s1_4 rfl) ?_
                    refine g_goto t25_96 ?_
                    exact ih _ _ (i + 1) (by omega) _ _ _ _ he hF hg hD
                · exact absurd rfl h63
              · exfalso; omega
            · refine g_p t25_25 rfl ?_
              refine r_cv t25_26 (f15 hF) rfl ?_
              refine c52_15 (by exact hF) (by exact hD.2.2) ?_
              refine k_v ?_ rfl
              refine g_k (n := 47) t25_29 rfl rfl ?_
              refine n_cne t25_31 (by omega) (by omega) (fun h31 => ?_) (fun h31 => ?_)
              · first
                  | (exfalso; omega)
                  | skip
              · refine g_p t25_34 rfl ?_
                refine r_cv t25_35 (f15 hF) rfl ?_
                refine c52_15 (by exact hF) (by exact hD.2.2) ?_
                refine k_v ?_ rfl
                refine g_k (n := 42) t25_38 rfl rfl ?_
                refine n_cne t25_40 (by omega) (by omega) (fun h40 => ?_) (fun h40 => ?_)
                · refine g_k (n := 0) t25_47 rfl rfl ?_
                  refine g_is t25_48 (Nat.le_of_ble_eq_true rfl) (am_s1_5 rfl) ?_
                  refine g_p t25_50 rfl ?_
                  refine r_cv t25_51 (f15 hF) rfl ?_
                  refine c53r_15 (by exact hF) hTR (by exact hD) (Or.inl (by omega)) (fun s51 fr51 hD => ?_)
                  have hF := hF.fr fr51.1
                  have hg := hg.tr fr51
                  refine k_0 ?_
                  refine g_p t25_54 rfl ?_
                  refine g_p t25_55 rfl ?_
                  refine r_cv t25_56 (f15 hF) rfl ?_
                  refine h27 _ _ _ (by exact hF) (by exact hD) (fun i h1 h2 => (hg.2 i (Or.inr h1)).trans (ha i h1 h2)) (fun s56 fr56 hD => ?_)
                  have hF := hF.fr fr56.1
                  have hg := hg.tr fr56
                  refine k_v ?_ rfl
                  refine g_ls t25_59 (Nat.le_of_ble_eq_true rfl) (am_s2_6 rfl) ?_
                  refine g_p t25_61 rfl ?_
                  refine n_eq t25_63 (by omega) (fun h63 => ?_) (fun h63 => ?_)
                  · refine g_p t25_77 rfl ?_
                    refine g_p t25_79 rfl ?_
                    refine g_p t25_80 rfl ?_
                    refine g_ne t25_81 (fun h81 => ?_) (fun h81 => ?_)
                    · rw [if_neg (fun h => h81 ((lg_cmp_eq _ _).mpr h))] at he
                      refine g_p t25_88 rfl ?_
                      refine g_p t25_89 rfl ?_
                      refine g_ldiv t25_91 (fun h => h81 ((lg_cmp_eq _ _).mpr h)) ?_
                      refine g_lsn t25_92 (Nat.le_of_ble_eq_true rfl) (am_s2_2 rfl) ?_
                      refine g_incn (n := 1) t25_93 rfl rfl (Nat.le_of_ble_eq_true rfl) (am_s1_4 rfl) ?_
                      refine g_goto t25_96 ?_
                      exact ih _ _ (i + 1) (by omega) _ _ _ _ he hF hg hD
                    · rw [if_pos ((lg_cmp_eq _ _).mp h81)] at he
                      refine g_p t25_84 rfl ?_
                      refine g_goto t25_85 ?_
                      refine g_lsn t25_92 (Nat.le_of_ble_eq_true rfl) (am_s2_2 rfl) ?_
                      refine g_incn (n := 1) t25_93 rfl rfl (Nat.le_of_ble_eq_true rfl) (am_s1_4 rfl) ?_
                      refine g_goto t25_96 ?_
                      exact ih _ _ (i + 1) (by omega) _ _ _ _ he hF hg hD
                  · exact absurd rfl h63
                · exfalso; omega
        · rw [if_neg l2] at he
          have he : Z = (w, τ) := he
          rw [he] at hq
          refine g_p t25_9 rfl ?_
          refine g_k (n := 120) t25_11 rfl rfl ?_
          refine n_cge t25_13 (by omega) (by omega) (fun h13 => ?_) (fun h13 => ?_)
          · refine g_p t25_99 rfl ?_
            exact l_ret t25_100 rfl (hq s' hg hD)
          · refine g_p t25_16 rfl ?_
            refine r_cv t25_17 (f15 hF) rfl ?_
            refine c52_15 (by exact hF) (by exact hD.2.2) ?_
            refine k_v ?_ rfl
            refine g_k (n := 42) t25_20 rfl rfl ?_
            refine n_ceq t25_22 (by omega) (by omega) (fun h22 => ?_) (fun h22 => ?_)
            · exfalso; omega
            · refine g_p t25_25 rfl ?_
              refine r_cv t25_26 (f15 hF) rfl ?_
              refine c52_15 (by exact hF) (by exact hD.2.2) ?_
              refine k_v ?_ rfl
              refine g_k (n := 47) t25_29 rfl rfl ?_
              refine n_cne t25_31 (by omega) (by omega) (fun h31 => ?_) (fun h31 => ?_)
              · refine g_p t25_99 rfl ?_
                exact l_ret t25_100 rfl (hq s' hg hD)
              · exfalso; omega
  have hg : FR 15 s s := FR.rf
  refine en25 rfl rfl ?_
  refine g_p t25_0 rfl ?_
  refine g_p t25_1 rfl ?_
  refine r_cv t25_2 (f15 hF) rfl ?_
  refine h27 _ _ _ (by exact hF) (by exact hD) (fun i h1 h2 => (hg.2 i (Or.inr h1)).trans (ha i h1 h2)) (fun s2 fr2 hD => ?_)
  have hF := hF.fr fr2.1
  have hg := hg.tr fr2
  refine k_v ?_ rfl
  refine g_lsn t25_5 (Nat.le_of_ble_eq_true rfl) (am_s2_2 rfl) ?_
  refine g_k (n := 0) t25_6 rfl rfl ?_
  refine g_is t25_7 (Nat.le_of_ble_eq_true rfl) (am_s1_4 rfl) ?_
  exact K 120 _ _ 0 rfl _ _ _ s2 hZ hF hg hD
theorem c24 (hTR : T ≠ 15 ∧ T + 1 ≠ 15) (h25 : AtC X T n t a 25 k d g) : AtC X T n t a 24 k (d + 1) (fun σ => sml t g 120 (g σ)) := by
  intro s σ Q hF hD ha hq
  obtain ⟨Z, hZ⟩ : ∃ Z, Z = sml t g 120 (g σ) := ⟨_, rfl⟩
  have hq : ∀ s', FR 15 s s' → RD 15 T n t Z.2 s' → Q (some (.long Z.1)) (mR s') := by rw [hZ]; exact hq
  have K : ∀ (j : Nat) (w : Int64) (τ : Ps) (i : Nat), i + j = 120 → ∀ (z5 z6 z7 : Value) (s' : mM), Z = sml t g j (w, τ) → Fx s' → FR 15 s s' → RD 15 T n t τ s' → gG X (d + 1) 24 9 [.ref 15, .int (nI k), .long w, .float 0, .int (nI i), z5, z6, z7] [] (mR s') Q := by
    intro j
    induction j with
    | zero =>
      intro w τ i hj z5 z6 z7 s' he hF hg hD
      have he : Z = (w, τ) := he
      rw [he] at hq
      refine g_p t24_9 rfl ?_
      refine g_k (n := 120) t24_11 rfl rfl ?_
      refine n_cge t24_13 (by omega) (by omega) (fun h13 => ?_) (fun h13 => ?_)
      · refine g_p t24_87 rfl ?_
        exact l_ret t24_88 rfl (hq s' hg hD)
      · exfalso; omega
    | succ j ih =>
      intro w τ i hj z5 z6 z7 s' he hF hg hD
      have hlt := psg_lt hD.1 τ
      unfold sml at he
      by_cases l1 : psg t τ = 43
      · rw [if_pos l1] at he
        refine g_p t24_9 rfl ?_
        refine g_k (n := 120) t24_11 rfl rfl ?_
        refine n_cge t24_13 (by omega) (by omega) (fun h13 => ?_) (fun h13 => ?_)
        · exfalso; omega
        · refine g_p t24_16 rfl ?_
          refine r_cv t24_17 (f15 hF) rfl ?_
          refine c52_15 (by exact hF) (by exact hD.2.2) ?_
          refine k_v ?_ rfl
          refine g_k (n := 43) t24_20 rfl rfl ?_
          refine n_ceq t24_22 (by omega) (by omega) (fun h22 => ?_) (fun h22 => ?_)
          · refine g_p t24_34 rfl ?_
            refine r_cv t24_35 (f15 hF) rfl ?_
            refine c52_15 (by exact hF) (by exact hD.2.2) ?_
            refine k_v ?_ rfl
            refine g_k (n := 43) t24_38 rfl rfl ?_
            refine n_cne t24_40 (by omega) (by omega) (fun h40 => ?_) (fun h40 => ?_)
            · exact absurd l1 h40
            · refine g_k (n := 1) t24_43 rfl rfl ?_
              refine g_goto t24_44 ?_
              refine g_is t24_48 (Nat.le_of_ble_eq_true rfl) (am_s1_5 rfl) ?_
              refine g_p t24_50 rfl ?_
              refine r_cv t24_51 (f15 hF) rfl ?_
              refine c53r_15 (by exact hF) hTR (by exact hD) (Or.inl (by omega)) (fun s51 fr51 hD => ?_)
              have hF := hF.fr fr51.1
              have hg := hg.tr fr51
              refine k_0 ?_
              refine g_p t24_54 rfl ?_
              refine g_p t24_55 rfl ?_
              refine r_cv t24_56 (f15 hF) rfl ?_
              refine h25 _ _ _ (by exact hF) (by exact hD) (fun i h1 h2 => (hg.2 i (Or.inr h1)).trans (ha i h1 h2)) (fun s56 fr56 hD => ?_)
              have hF := hF.fr fr56.1
              have hg := hg.tr fr56
              refine k_v ?_ rfl
              refine g_ls t24_59 (Nat.le_of_ble_eq_true rfl) (am_s2_6 rfl) ?_
              refine g_p t24_61 rfl ?_
              refine n_eq t24_63 (by omega) (fun h63 => ?_) (fun h63 => ?_)
              · exact absurd h63 (by decide)
              · refine g_p t24_66 rfl ?_
                refine g_p t24_67 rfl ?_
                refine g_ladd t24_69 ?_
                refine g_goto t24_70 ?_
                refine g_cs t24_77 rfl rfl rfl ?_
                refine c26 ?_
                refine k_v ?_ rfl
                refine g_lsn t24_80 (Nat.le_of_ble_eq_true rfl) (am_s2_2 rfl) ?_
                refine g_incn (n := 1) t24_81 rfl rfl (Nat.le_of_ble_eq_true rfl) (am_s1_4 rfl) ?_
                refine g_goto t24_84 ?_
                exact ih _ _ (i + 1) (by omega) _ _ _ _ he hF hg hD
          · exact absurd l1 h22
      · rw [if_neg l1] at he
        by_cases l2 : psg t τ = 45
        · rw [if_pos l2] at he
          refine g_p t24_9 rfl ?_
          refine g_k (n := 120) t24_11 rfl rfl ?_
          refine n_cge t24_13 (by omega) (by omega) (fun h13 => ?_) (fun h13 => ?_)
          · first
              | (exfalso; omega)
              | skip
          · refine g_p t24_16 rfl ?_
            refine r_cv t24_17 (f15 hF) rfl ?_
            refine c52_15 (by exact hF) (by exact hD.2.2) ?_
            refine k_v ?_ rfl
            refine g_k (n := 43) t24_20 rfl rfl ?_
            refine n_ceq t24_22 (by omega) (by omega) (fun h22 => ?_) (fun h22 => ?_)
            · refine g_p t24_34 rfl ?_
              refine r_cv t24_35 (f15 hF) rfl ?_
              refine c52_15 (by exact hF) (by exact hD.2.2) ?_
              refine k_v ?_ rfl
              refine g_k (n := 43) t24_38 rfl rfl ?_
              refine n_cne t24_40 (by omega) (by omega) (fun h40 => ?_) (fun h40 => ?_)
              · refine g_k (n := 0) t24_47 rfl rfl ?_
                refine g_is t24_48 (Nat.le_of_ble_eq_true rfl) (am_s1_5 rfl) ?_
                refine g_p t24_50 rfl ?_
                refine r_cv t24_51 (f15 hF) rfl ?_
                refine c53r_15 (by exact hF) hTR (by exact hD) (Or.inl (by omega)) (fun s51 fr51 hD => ?_)
                have hF := hF.fr fr51.1
                have hg := hg.tr fr51
                refine k_0 ?_
                refine g_p t24_54 rfl ?_
                refine g_p t24_55 rfl ?_
                refine r_cv t24_56 (f15 hF) rfl ?_
                refine h25 _ _ _ (by exact hF) (by exact hD) (fun i h1 h2 => (hg.2 i (Or.inr h1)).trans (ha i h1 h2)) (fun s56 fr56 hD => ?_)
                have hF := hF.fr fr56.1
                have hg := hg.tr fr56
                refine k_v ?_ rfl
                refine g_ls t24_59 (Nat.le_of_ble_eq_true rfl) (am_s2_6 rfl) ?_
                refine g_p t24_61 rfl ?_
                refine n_eq t24_63 (by omega) (fun h63 => ?_) (fun h63 => ?_)
                · refine g_p t24_73 rfl ?_
                  refine g_p t24_74 rfl ?_
                  refine g_lsub t24_76 ?_
                  refine g_cs t24_77 rfl rfl rfl ?_
                  refine c26 ?_
                  refine k_v ?_ rfl
                  refine g_lsn t24_80 (Nat.le_of_ble_eq_true rfl) (am_s2_2 rfl) ?_
                  refine g_incn (n := 1) t24_81 rfl rfl (Nat.le_of_ble_eq_true rfl) (am_s1_4 rfl) ?_
                  refine g_goto t24_84 ?_
                  exact ih _ _ (i + 1) (by omega) _ _ _ _ he hF hg hD
                · exact absurd rfl h63
              · exfalso; omega
            · refine g_p t24_25 rfl ?_
              refine r_cv t24_26 (f15 hF) rfl ?_
              refine c52_15 (by exact hF) (by exact hD.2.2) ?_
              refine k_v ?_ rfl
              refine g_k (n := 45) t24_29 rfl rfl ?_
              refine n_cne t24_31 (by omega) (by omega) (fun h31 => ?_) (fun h31 => ?_)
              · first
                  | (exfalso; omega)
                  | skip
              · refine g_p t24_34 rfl ?_
                refine r_cv t24_35 (f15 hF) rfl ?_
                refine c52_15 (by exact hF) (by exact hD.2.2) ?_
                refine k_v ?_ rfl
                refine g_k (n := 43) t24_38 rfl rfl ?_
                refine n_cne t24_40 (by omega) (by omega) (fun h40 => ?_) (fun h40 => ?_)
                · refine g_k (n := 0) t24_47 rfl rfl ?_
                  refine g_is t24_48 (Nat.le_of_ble_eq_true rfl) (am_s1_5 rfl) ?_
                  refine g_p t24_50 rfl ?_
                  refine r_cv t24_51 (f15 hF) rfl ?_
                  refine c53r_15 (by exact hF) hTR (by exact hD) (Or.inl (by omega)) (fun s51 fr51 hD => ?_)
                  have hF := hF.fr fr51.1
                  have hg := hg.tr fr51
                  refine k_0 ?_
                  refine g_p t24_54 rfl ?_
                  refine g_p t24_55 rfl ?_
                  refine r_cv t24_56 (f15 hF) rfl ?_
                  refine h25 _ _ _ (by exact hF) (by exact hD) (fun i h1 h2 => (hg.2 i (Or.inr h1)).trans (ha i h1 h2)) (fun s56 fr56 hD => ?_)
                  have hF := hF.fr fr56.1
                  have hg := hg.tr fr56
                  refine k_v ?_ rfl
                  refine g_ls t24_59 (Nat.le_of_ble_eq_true rfl) (am_s2_6 rfl) ?_
                  refine g_p t24_61 rfl ?_
                  refine n_eq t24_63 (by omega) (fun h63 => ?_) (fun h63 => ?_)
                  · refine g_p t24_73 rfl ?_
                    refine g_p t24_74 rfl ?_
                    refine g_lsub t24_76 ?_
                    refine g_cs t24_77 rfl rfl rfl ?_
                    refine c26 ?_
                    refine k_v ?_ rfl
                    refine g_lsn t24_80 (Nat.le_of_ble_eq_true rfl) (am_s2_2 rfl) ?_
                    refine g_incn (n := 1) t24_81 rfl rfl (Nat.le_of_ble_eq_true rfl) (am_s1_4 rfl) ?_
                    refine g_goto t24_84 ?_
                    exact ih _ _ (i + 1) (by omega) _ _ _ _ he hF hg hD
                  · exact absurd rfl h63
                · exfalso; omega
        · rw [if_neg l2] at he
          have he : Z = (w, τ) := he
          rw [he] at hq
          refine g_p t24_9 rfl ?_
          refine g_k (n := 120) t24_11 rfl rfl ?_
          refine n_cge t24_13 (by omega) (by omega) (fun h13 => ?_) (fun h13 => ?_)
          · refine g_p t24_87 rfl ?_
            exact l_ret t24_88 rfl (hq s' hg hD)
          · refine g_p t24_16 rfl ?_
            refine r_cv t24_17 (f15 hF) rfl ?_
            refine c52_15 (by exact hF) (by exact hD.2.2) ?_
            refine k_v ?_ rfl
            refine g_k (n := 43) t24_20 rfl rfl ?_
            refine n_ceq t24_22 (by omega) (by omega) (fun h22 => ?_) (fun h22 => ?_)
            · exfalso; omega
            · refine g_p t24_25 rfl ?_
              refine r_cv t24_26 (f15 hF) rfl ?_
              refine c52_15 (by exact hF) (by exact hD.2.2) ?_
              refine k_v ?_ rfl
              refine g_k (n := 45) t24_29 rfl rfl ?_
              refine n_cne t24_31 (by omega) (by omega) (fun h31 => ?_) (fun h31 => ?_)
              · refine g_p t24_87 rfl ?_
                exact l_ret t24_88 rfl (hq s' hg hD)
              · exfalso; omega
  have hg : FR 15 s s := FR.rf
  refine en24 rfl rfl ?_
  refine g_p t24_0 rfl ?_
  refine g_p t24_1 rfl ?_
  refine r_cv t24_2 (f15 hF) rfl ?_
  refine h25 _ _ _ (by exact hF) (by exact hD) (fun i h1 h2 => (hg.2 i (Or.inr h1)).trans (ha i h1 h2)) (fun s2 fr2 hD => ?_)
  have hF := hF.fr fr2.1
  have hg := hg.tr fr2
  refine k_v ?_ rfl
  refine g_lsn t24_5 (Nat.le_of_ble_eq_true rfl) (am_s2_2 rfl) ?_
  refine g_k (n := 0) t24_6 rfl rfl ?_
  refine g_is t24_7 (Nat.le_of_ble_eq_true rfl) (am_s1_4 rfl) ?_
  exact K 120 _ _ 0 rfl _ _ _ s2 hZ hF hg hD
theorem pst_pre {t : List Nat} {σ : Ps} : pst t (pre σ) = pre σ := by cases σ <;> rfl
theorem pre_r {σ : Ps} : ∃ f, pre σ = .inr f := by cases σ <;> exact ⟨_, rfl⟩
theorem psg_inl {t : List Nat} {σ : Ps} (h : psg t σ ≠ 0) : ∃ j, σ = .inl j := by
  cases σ with
  | inl j => exact ⟨j, rfl⟩
  | inr f => exact absurd rfl h
theorem c27n (hTR : T ≠ 15 ∧ T + 1 ≠ 15) (hF : Fx s) (hD : RD 15 T n t σ s) (ha : ∀ i, 4 ≤ i → i < 8 → ri s 15 i = a i) (hq : ∀ s', FR 15 s s' → RD 15 T n t (atn t a σ).2 s' → Q (some (.long (atn t a σ).1)) (mR s')) : gG X (d + 2) 27 37 [.ref 15, .int (nI k), .int (nI (psg t σ)), .float 0, .float 0, .float 0] [] (mR s) Q := by
  have a4 := ha 4 (by decide) (by decide)
  have a5 := ha 5 (by decide) (by decide)
  have a6 := ha 6 (by decide) (by decide)
  have a7 := ha 7 (by decide) (by decide)
  have hlt := psg_lt hD.1 σ
  have hg : FR 15 s s := FR.rf
  have END : ∀ (w : Int64) (τ : Ps) (z2 z5 : Value) (s' : mM), (psg t τ ≠ 0 ∨ ∃ f, τ = .inr f) → Fx s' → FR 15 s s' → RD 15 T n t τ s' → (∀ s', FR 15 s s' → RD 15 T n t (pst t τ) s' → Q (some (.long w)) (mR s')) → gG X (d + 2) 27 165 [.ref 15, .int (nI k), z2, .long w, .float 0, z5] [] (mR s') Q := by
    intro w τ z2 z5 s' hz hF hg hD hq
    refine g_p t27_165 rfl ?_
    refine r_cv t27_166 (f15 hF) rfl ?_
    refine c53r_15 (by exact hF) hTR (by exact hD) hz (fun s166 fr166 hD => ?_)
    have hF := hF.fr fr166.1
    have hg := hg.tr fr166
    refine k_0 ?_
    refine g_p t27_169 rfl ?_
    exact l_ret t27_170 rfl (hq s166 hg hD)
  unfold atn at hq
  by_cases l1 : 48 ≤ psg t σ ∧ psg t σ ≤ 57
  · rw [if_pos l1] at hq
    obtain ⟨Z, hZ⟩ : ∃ Z, Z = dgl t 3 (lN (psg t σ - 48), σ) := ⟨_, rfl⟩
    rw [← hZ] at hq
    have K : ∀ (j i : Nat) (w : Int64) (q : Nat) (z2 : Int32) (s' : mM), i + j = 4 → Z = dgl t j (w, .inl q) → 48 ≤ sgn t q → Fx s' → FR 15 s s' → RD 15 T n t (.inl q) s' → gG X (d + 2) 27 60 [.ref 15, .int (nI k), .int z2, .long w, .float 0, .int (nI i)] [] (mR s') Q := by
      intro j
      induction j with
      | zero =>
        intro i w q z2 s' hj he h48 hF hg hD
        have he : Z = (w, .inl q) := he
        rw [he] at hq
        refine g_p t27_60 rfl ?_
        refine g_k (n := 4) t27_62 rfl rfl ?_
        refine n_cge t27_63 (by omega) (by omega) (fun h63 => ?_) (fun h63 => ?_)
        · refine g_goto t27_98 ?_
          exact END w (.inl q) _ _ s' (Or.inl (show sgn t q ≠ 0 by omega)) hF hg hD hq
        · exfalso; omega
      | succ j ih =>
        intro i w q z2 s' hj he h48 hF hg hD
        have hl2 := sgn_lt hD.1 (q + 1)
        unfold dgl at he
        by_cases l2 : 48 ≤ sgn t (q + 1) ∧ sgn t (q + 1) ≤ 57
        · have he : Z = dgl t j (w * 10 + lN (sgn t (q + 1) - 48), .inl (q + 1)) := he.trans (if_pos l2)
          have hs : pst t (.inl q) = .inl (q + 1) := congrArg Sum.inl (skp_n (fun _ h => by
            have h : sgn t (q + 1) = 32 := h
            omega))
          refine g_p t27_60 rfl ?_
          refine g_k (n := 4) t27_62 rfl rfl ?_
          refine n_cge t27_63 (by omega) (by omega) (fun h63 => ?_) (fun h63 => ?_)
          · first
              | (exfalso; omega)
              | (have u0 := h70; exact no_b (decide_eq_true l2) u0)
          · refine g_p t27_66 rfl ?_
            refine r_cv t27_67 (f15 hF) rfl ?_
            refine c54 (by exact hF) (by exact hD) ?_
            refine k_v ?_ rfl
            refine b_eq t27_70 (fun h70 => ?_) (fun h70 => ?_)
            · first
                | (exfalso; omega)
                | (have u0 := h70; exact no_b (decide_eq_true l2) u0)
            · refine g_p t27_73 rfl ?_
              refine r_cv t27_74 (f15 hF) rfl ?_
              refine c53r_15 (by exact hF) hTR (by exact hD) (Or.inl (by show sgn t q ≠ 0; omega)) (fun s74 fr74 hD => ?_)
              have hF := hF.fr fr74.1
              have hg := hg.tr fr74
              rw [hs] at hD
              refine k_0 ?_
              refine g_p t27_77 rfl ?_
              refine g_p t27_78 rfl ?_
              refine g_lmul t27_81 ?_
              refine g_p t27_82 rfl ?_
              refine r_cv t27_83 (f15 hF) rfl ?_
              refine c52_15 (by exact hF) (by exact hD.2.2) ?_
              refine k_v ?_ rfl
              refine g_k (n := 48) t27_86 rfl rfl ?_
              refine g_subn t27_88 (show 48 ≤ sgn t (q + 1) by omega) ?_
              refine n_i2l t27_89 (show sgn t (q + 1) - 48 < 2 ^ 31 by omega) ?_
              refine g_ladd t27_90 ?_
              refine g_lsn t27_91 (Nat.le_of_ble_eq_true rfl) (am_s2_3 rfl) ?_
              refine g_incn (n := 1) t27_92 rfl rfl (Nat.le_of_ble_eq_true rfl) (am_s1_5 rfl) ?_
              refine g_goto t27_95 ?_
              exact ih (i + 1) _ _ _ s74 (by omega) he l2.1 hF hg hD
        · have he : Z = (w, .inl q) := he.trans (if_neg l2)
          rw [he] at hq
          refine g_p t27_60 rfl ?_
          refine g_k (n := 4) t27_62 rfl rfl ?_
          refine n_cge t27_63 (by omega) (by omega) (fun h63 => ?_) (fun h63 => ?_)
          · refine g_goto t27_98 ?_
            first
              | (exfalso; omega)
              | exact END w (.inl q) _ _ s' (Or.inl (show sgn t q ≠ 0 by omega)) hF hg hD hq
          · refine g_p t27_66 rfl ?_
            refine r_cv t27_67 (f15 hF) rfl ?_
            refine c54 (by exact hF) (by exact hD) ?_
            refine k_v ?_ rfl
            refine b_eq t27_70 (fun h70 => ?_) (fun h70 => ?_)
            · refine g_goto t27_98 ?_
              first
                | (exfalso; omega)
                | exact END w (.inl q) _ _ s' (Or.inl (show sgn t q ≠ 0 by omega)) hF hg hD hq
            · exact absurd (of_decide_eq_true h70) l2
    obtain ⟨q, rfl⟩ := psg_inl (t := t) (σ := σ) (by omega)
    have hlt : sgn t q < 256 := hlt
    have l1' : 48 ≤ sgn t q ∧ sgn t q ≤ 57 := l1
    have hZ : Z = dgl t 3 (lN (sgn t q - 48), .inl q) := hZ
    show gG X (d + 2) 27 37 [.ref 15, .int (nI k), .int (nI (sgn t q)), .float 0, .float 0, .float 0] [] (mR s) Q
    refine g_p t27_37 rfl ?_
    refine g_lsn t27_38 (Nat.le_of_ble_eq_true rfl) (am_s2_3 rfl) ?_
    refine g_p t27_39 rfl ?_
    refine g_k (n := 48) t27_40 rfl rfl ?_
    refine n_clt t27_42 (by omega) (by omega) (fun h42 => ?_) (fun h42 => ?_)
    · exfalso; omega
    · refine g_p t27_45 rfl ?_
      refine g_k (n := 57) t27_46 rfl rfl ?_
      refine n_cgt t27_48 (by omega) (by omega) (fun h48 => ?_) (fun h48 => ?_)
      · exfalso; omega
      · refine g_p t27_51 rfl ?_
        refine g_k (n := 48) t27_52 rfl rfl ?_
        refine g_subn t27_54 (by omega) ?_
        refine n_i2l t27_55 (by omega) ?_
        refine g_lsn t27_56 (Nat.le_of_ble_eq_true rfl) (am_s2_3 rfl) ?_
        refine g_k (n := 1) t27_57 rfl rfl ?_
        refine g_is t27_58 (Nat.le_of_ble_eq_true rfl) (am_s1_5 rfl) ?_
        exact K 3 1 _ q _ s rfl hZ l1'.1 hF hg hD
  · rw [if_neg l1] at hq
    by_cases c112 : psg t σ = 112
    · rw [if_pos c112] at hq
      refine g_p t27_37 rfl ?_
      refine g_lsn t27_38 (Nat.le_of_ble_eq_true rfl) (am_s2_3 rfl) ?_
      refine g_p t27_39 rfl ?_
      refine g_k (n := 48) t27_40 rfl rfl ?_
      refine n_clt t27_42 (by omega) (by omega) (fun h42 => ?_) (fun h42 => ?_)
      · refine g_p t27_101 rfl ?_
        refine g_k (n := 112) t27_102 rfl rfl ?_
        refine n_cne t27_104 (by omega) (by omega) (fun h104 => ?_) (fun h104 => ?_)
        · exfalso; omega
        · refine g_p t27_107 rfl ?_
          refine r_gete t27_108 (f15 hF) rfl rfl a4 ?_
          refine g_p t27_111 rfl ?_
          refine g_lsn t27_112 (Nat.le_of_ble_eq_true rfl) (am_s2_3 rfl) ?_
          refine g_goto t27_113 ?_
          exact END _ σ _ _ s (Or.inl (by omega)) hF hg hD hq
      · refine g_p t27_45 rfl ?_
        refine g_k (n := 57) t27_46 rfl rfl ?_
        refine n_cgt t27_48 (by omega) (by omega) (fun h48 => ?_) (fun h48 => ?_)
        · refine g_p t27_101 rfl ?_
          refine g_k (n := 112) t27_102 rfl rfl ?_
          refine n_cne t27_104 (by omega) (by omega) (fun h104 => ?_) (fun h104 => ?_)
          · exfalso; omega
          · refine g_p t27_107 rfl ?_
            refine r_gete t27_108 (f15 hF) rfl rfl a4 ?_
            refine g_p t27_111 rfl ?_
            refine g_lsn t27_112 (Nat.le_of_ble_eq_true rfl) (am_s2_3 rfl) ?_
            refine g_goto t27_113 ?_
            exact END _ σ _ _ s (Or.inl (by omega)) hF hg hD hq
        · exact absurd ⟨by omega, by omega⟩ l1
    · rw [if_neg c112] at hq
      by_cases c100 : psg t σ = 100
      · rw [if_pos c100] at hq
        refine g_p t27_37 rfl ?_
        refine g_lsn t27_38 (Nat.le_of_ble_eq_true rfl) (am_s2_3 rfl) ?_
        refine g_p t27_39 rfl ?_
        refine g_k (n := 48) t27_40 rfl rfl ?_
        refine n_clt t27_42 (by omega) (by omega) (fun h42 => ?_) (fun h42 => ?_)
        · refine g_p t27_101 rfl ?_
          refine g_k (n := 112) t27_102 rfl rfl ?_
          refine n_cne t27_104 (by omega) (by omega) (fun h104 => ?_) (fun h104 => ?_)
          · refine g_p t27_116 rfl ?_
            refine g_k (n := 100) t27_117 rfl rfl ?_
            refine n_cne t27_119 (by omega) (by omega) (fun h119 => ?_) (fun h119 => ?_)
            · exfalso; omega
            · refine g_p t27_122 rfl ?_
              refine r_gete t27_123 (f15 hF) rfl rfl a5 ?_
              refine g_p t27_126 rfl ?_
              refine g_lsn t27_127 (Nat.le_of_ble_eq_true rfl) (am_s2_3 rfl) ?_
              refine g_goto t27_128 ?_
              exact END _ σ _ _ s (Or.inl (by omega)) hF hg hD hq
          · exfalso; omega
        · refine g_p t27_45 rfl ?_
          refine g_k (n := 57) t27_46 rfl rfl ?_
          refine n_cgt t27_48 (by omega) (by omega) (fun h48 => ?_) (fun h48 => ?_)
          · refine g_p t27_101 rfl ?_
            refine g_k (n := 112) t27_102 rfl rfl ?_
            refine n_cne t27_104 (by omega) (by omega) (fun h104 => ?_) (fun h104 => ?_)
            · refine g_p t27_116 rfl ?_
              refine g_k (n := 100) t27_117 rfl rfl ?_
              refine n_cne t27_119 (by omega) (by omega) (fun h119 => ?_) (fun h119 => ?_)
              · exfalso; omega
              · refine g_p t27_122 rfl ?_
                refine r_gete t27_123 (f15 hF) rfl rfl a5 ?_
                refine g_p t27_126 rfl ?_
                refine g_lsn t27_127 (Nat.le_of_ble_eq_true rfl) (am_s2_3 rfl) ?_
                refine g_goto t27_128 ?_
                exact END _ σ _ _ s (Or.inl (by omega)) hF hg hD hq
            · exfalso; omega
          · exact absurd ⟨by omega, by omega⟩ l1
      · rw [if_neg c100] at hq
        by_cases c115 : psg t σ = 115
        · rw [if_pos c115] at hq
          refine g_p t27_37 rfl ?_
          refine g_lsn t27_38 (Nat.le_of_ble_eq_true rfl) (am_s2_3 rfl) ?_
          refine g_p t27_39 rfl ?_
          refine g_k (n := 48) t27_40 rfl rfl ?_
          refine n_clt t27_42 (by omega) (by omega) (fun h42 => ?_) (fun h42 => ?_)
          · refine g_p t27_101 rfl ?_
            refine g_k (n := 112) t27_102 rfl rfl ?_
            refine n_cne t27_104 (by omega) (by omega) (fun h104 => ?_) (fun h104 => ?_)
            · refine g_p t27_116 rfl ?_
              refine g_k (n := 100) t27_117 rfl rfl ?_
              refine n_cne t27_119 (by omega) (by omega) (fun h119 => ?_) (fun h119 => ?_)
              · refine g_p t27_131 rfl ?_
                refine g_k (n := 115) t27_132 rfl rfl ?_
                refine n_cne t27_134 (by omega) (by omega) (fun h134 => ?_) (fun h134 => ?_)
                · exfalso; omega
                · refine g_p t27_137 rfl ?_
                  refine r_gete t27_138 (f15 hF) rfl rfl a6 ?_
                  refine g_p t27_141 rfl ?_
                  refine g_lsn t27_142 (Nat.le_of_ble_eq_true rfl) (am_s2_3 rfl) ?_
                  refine g_goto t27_143 ?_
                  exact END _ σ _ _ s (Or.inl (by omega)) hF hg hD hq
              · exfalso; omega
            · exfalso; omega
          · refine g_p t27_45 rfl ?_
            refine g_k (n := 57) t27_46 rfl rfl ?_
            refine n_cgt t27_48 (by omega) (by omega) (fun h48 => ?_) (fun h48 => ?_)
            · refine g_p t27_101 rfl ?_
              refine g_k (n := 112) t27_102 rfl rfl ?_
              refine n_cne t27_104 (by omega) (by omega) (fun h104 => ?_) (fun h104 => ?_)
              · refine g_p t27_116 rfl ?_
                refine g_k (n := 100) t27_117 rfl rfl ?_
                refine n_cne t27_119 (by omega) (by omega) (fun h119 => ?_) (fun h119 => ?_)
                · refine g_p t27_131 rfl ?_
                  refine g_k (n := 115) t27_132 rfl rfl ?_
                  refine n_cne t27_134 (by omega) (by omega) (fun h134 => ?_) (fun h134 => ?_)
                  · exfalso; omega
                  · refine g_p t27_137 rfl ?_
                    refine r_gete t27_138 (f15 hF) rfl rfl a6 ?_
                    refine g_p t27_141 rfl ?_
                    refine g_lsn t27_142 (Nat.le_of_ble_eq_true rfl) (am_s2_3 rfl) ?_
                    refine g_goto t27_143 ?_
                    exact END _ σ _ _ s (Or.inl (by omega)) hF hg hD hq
                · exfalso; omega
              · exfalso; omega
            · exact absurd ⟨by omega, by omega⟩ l1
        · rw [if_neg c115] at hq
          by_cases c110 : psg t σ = 110
          · rw [if_pos c110] at hq
            refine g_p t27_37 rfl ?_
            refine g_lsn t27_38 (Nat.le_of_ble_eq_true rfl) (am_s2_3 rfl) ?_
            refine g_p t27_39 rfl ?_
            refine g_k (n := 48) t27_40 rfl rfl ?_
            refine n_clt t27_42 (by omega) (by omega) (fun h42 => ?_) (fun h42 => ?_)
            · refine g_p t27_101 rfl ?_
              refine g_k (n := 112) t27_102 rfl rfl ?_
              refine n_cne t27_104 (by omega) (by omega) (fun h104 => ?_) (fun h104 => ?_)
              · refine g_p t27_116 rfl ?_
                refine g_k (n := 100) t27_117 rfl rfl ?_
                refine n_cne t27_119 (by omega) (by omega) (fun h119 => ?_) (fun h119 => ?_)
                · refine g_p t27_131 rfl ?_
                  refine g_k (n := 115) t27_132 rfl rfl ?_
                  refine n_cne t27_134 (by omega) (by omega) (fun h134 => ?_) (fun h134 => ?_)
                  · refine g_p t27_146 rfl ?_
                    refine g_k (n := 110) t27_147 rfl rfl ?_
                    refine n_cne t27_149 (by omega) (by omega) (fun h149 => ?_) (fun h149 => ?_)
                    · exfalso; omega
                    · refine g_p t27_152 rfl ?_
                      refine r_gete t27_153 (f15 hF) rfl rfl a7 ?_
                      refine g_p t27_156 rfl ?_
                      refine g_lsn t27_157 (Nat.le_of_ble_eq_true rfl) (am_s2_3 rfl) ?_
                      refine g_goto t27_158 ?_
                      exact END _ σ _ _ s (Or.inl (by omega)) hF hg hD hq
                  · exfalso; omega
                · exfalso; omega
              · exfalso; omega
            · refine g_p t27_45 rfl ?_
              refine g_k (n := 57) t27_46 rfl rfl ?_
              refine n_cgt t27_48 (by omega) (by omega) (fun h48 => ?_) (fun h48 => ?_)
              · refine g_p t27_101 rfl ?_
                refine g_k (n := 112) t27_102 rfl rfl ?_
                refine n_cne t27_104 (by omega) (by omega) (fun h104 => ?_) (fun h104 => ?_)
                · refine g_p t27_116 rfl ?_
                  refine g_k (n := 100) t27_117 rfl rfl ?_
                  refine n_cne t27_119 (by omega) (by omega) (fun h119 => ?_) (fun h119 => ?_)
                  · refine g_p t27_131 rfl ?_
                    refine g_k (n := 115) t27_132 rfl rfl ?_
                    refine n_cne t27_134 (by omega) (by omega) (fun h134 => ?_) (fun h134 => ?_)
                    · refine g_p t27_146 rfl ?_
                      refine g_k (n := 110) t27_147 rfl rfl ?_
                      refine n_cne t27_149 (by omega) (by omega) (fun h149 => ?_) (fun h149 => ?_)
                      · exfalso; omega
                      · refine g_p t27_152 rfl ?_
                        refine r_gete t27_153 (f15 hF) rfl rfl a7 ?_
                        refine g_p t27_156 rfl ?_
                        refine g_lsn t27_157 (Nat.le_of_ble_eq_true rfl) (am_s2_3 rfl) ?_
                        refine g_goto t27_158 ?_
                        exact END _ σ _ _ s (Or.inl (by omega)) hF hg hD hq
                    · exfalso; omega
                  · exfalso; omega
                · exfalso; omega
              · exact absurd ⟨by omega, by omega⟩ l1
          · rw [if_neg c110] at hq
            refine g_p t27_37 rfl ?_
            refine g_lsn t27_38 (Nat.le_of_ble_eq_true rfl) (am_s2_3 rfl) ?_
            refine g_p t27_39 rfl ?_
            refine g_k (n := 48) t27_40 rfl rfl ?_
            refine n_clt t27_42 (by omega) (by omega) (fun h42 => ?_) (fun h42 => ?_)
            · refine g_p t27_101 rfl ?_
              refine g_k (n := 112) t27_102 rfl rfl ?_
              refine n_cne t27_104 (by omega) (by omega) (fun h104 => ?_) (fun h104 => ?_)
              · refine g_p t27_116 rfl ?_
                refine g_k (n := 100) t27_117 rfl rfl ?_
                refine n_cne t27_119 (by omega) (by omega) (fun h119 => ?_) (fun h119 => ?_)
                · refine g_p t27_131 rfl ?_
                  refine g_k (n := 115) t27_132 rfl rfl ?_
                  refine n_cne t27_134 (by omega) (by omega) (fun h134 => ?_) (fun h134 => ?_)
                  · refine g_p t27_146 rfl ?_
                    refine g_k (n := 110) t27_147 rfl rfl ?_
                    refine n_cne t27_149 (by omega) (by omega) (fun h149 => ?_) (fun h149 => ?_)
                    · refine g_p t27_161 rfl ?_
                      refine r_cv t27_162 (f15 hF) rfl ?_
                      refine c59r_15 (by exact hF) hTR (by exact hD)  (fun s162 fr162 hD => ?_)
                      have hF := hF.fr fr162.1
                      have hg := hg.tr fr162
                      refine k_0 ?_
                      exact END _ (pre σ) _ _ s162 (Or.inr pre_r) hF hg hD (fun s' f h => hq s' f (by rw [pst_pre] at h; exact h))
                    · exfalso; omega
                  · exfalso; omega
                · exfalso; omega
              · exfalso; omega
            · refine g_p t27_45 rfl ?_
              refine g_k (n := 57) t27_46 rfl rfl ?_
              refine n_cgt t27_48 (by omega) (by omega) (fun h48 => ?_) (fun h48 => ?_)
              · refine g_p t27_101 rfl ?_
                refine g_k (n := 112) t27_102 rfl rfl ?_
                refine n_cne t27_104 (by omega) (by omega) (fun h104 => ?_) (fun h104 => ?_)
                · refine g_p t27_116 rfl ?_
                  refine g_k (n := 100) t27_117 rfl rfl ?_
                  refine n_cne t27_119 (by omega) (by omega) (fun h119 => ?_) (fun h119 => ?_)
                  · refine g_p t27_131 rfl ?_
                    refine g_k (n := 115) t27_132 rfl rfl ?_
                    refine n_cne t27_134 (by omega) (by omega) (fun h134 => ?_) (fun h134 => ?_)
                    · refine g_p t27_146 rfl ?_
                      refine g_k (n := 110) t27_147 rfl rfl ?_
                      refine n_cne t27_149 (by omega) (by omega) (fun h149 => ?_) (fun h149 => ?_)
                      · refine g_p t27_161 rfl ?_
                        refine r_cv t27_162 (f15 hF) rfl ?_
                        refine c59r_15 (by exact hF) hTR (by exact hD)  (fun s162 fr162 hD => ?_)
                        have hF := hF.fr fr162.1
                        have hg := hg.tr fr162
                        refine k_0 ?_
                        exact END _ (pre σ) _ _ s162 (Or.inr pre_r) hF hg hD (fun s' f h => hq s' f (by rw [pst_pre] at h; exact h))
                      · exfalso; omega
                    · exfalso; omega
                  · exfalso; omega
                · exfalso; omega
              · exact absurd ⟨by omega, by omega⟩ l1
end TR
