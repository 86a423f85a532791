/-! PLANS, 5: the fewest days -/
theorem gon_rep {P r w row left pd n m : Nat} {b : Bk} {l : List Nat} {B : Nat → Nat} (hm : m = l.length) (h : rep P r w m (sr P r w row left pd b l n) (if n = 0 then left else pd) B) {a : Nat} (ha : a < mn P) : gon (B a) (sy P b a) l < 2 ^ (m + 1) ∧ ∀ k, (gon (B a) (sy P b a) l).testBit k = true ↔ sr P r w row left pd b l (n + 1) k a := by
  subst hm
  obtain ⟨h1, h2⟩ := h a ha
  refine ⟨gon_lt (m := l.length) h1, fun k => ?_⟩
  unfold gon
  by_cases hs : sy P b a = -1
  · rw [if_pos hs, h2 k]
    constructor
    · rintro ⟨c, h3, h4⟩; exact ⟨c, k, h3, h4, Or.inl ⟨hs, rfl⟩⟩
    · rintro ⟨c, j, h3, h4, h5 | h5⟩
      · rw [h5.2]; exact ⟨c, h3, h4⟩
      · exact absurd hs h5.1
  · rw [if_neg hs, gob_bit]
    constructor
    · rintro ⟨j, rfl, h4, h5, h6⟩
      obtain ⟨c, h7, h8⟩ := (h2 j).mp h6
      exact ⟨c, j, h7, h8, Or.inr ⟨hs, rfl, h4, h5⟩⟩
    · rintro ⟨c, j, h3, h4, h5 | h5⟩
      · exact absurd h5.1 hs
      · exact ⟨j, h5.2.1, h5.2.2.1, h5.2.2.2, (h2 j).mpr ⟨c, h3, h4⟩⟩
abbrev zA : List Nat := [68, 69, 70, 71, 72, 73]
section PY
variable {X : am_X} {d : Nat} {s : mM} {Q : Option Value → am_H → Prop} {P r w pd row day left a c t p p2 n2 : Nat} {v : Int32} {b : Bk} {l : List Nat}
set_option maxHeartbeats 200000 in
theorem c44 (hF : Fx s) (hR : CR P s) (hW : CW r w pd row day left s) (hr5 : r ≤ 5) (hw5 : w ≤ 5) (hd5 : pd ≤ 5) (hp : 114 ≤ p) (hp2 : 114 ≤ p2) (hB : Bo s p) (hS : Bs P b p s) (hN : Nu s p2 n2) (hl : NL s p2 l) (hll : l.length ≤ n2) (hl8l : l.length ≤ 8) (hl0 : 0 < l.length) (hrow : std P r w row = true) (hle : left ≤ 5) (hZ : CZ s)
    (hq : ∀ v s', Soon P r w row left pd b l v → Fr zA s s' → CZ s' → Q (some (.int v)) (mR s')) : gE X (d + 4) 44 [.ref 61, .ref p, .ref p2] (mR s) Q := by
  have hP5 := hR.2.2.1
  have hm := mn_le hP5
  have hp9 : 2 ^ (l.length + 1) ≤ 2 ^ 9 := Nat.pow_le_pow_right (by decide) (by omega)
  have hp8 : 2 ^ l.length ≤ 2 ^ 8 := Nat.pow_le_pow_right (by decide) (by omega)
  have hc8 : (2 : Nat) ^ 8 = 256 := by decide
  have hc9 : (2 : Nat) ^ 9 = 512 := by decide
  have DAY : ∀ u n : Nat, n + u = 60 → ∀ s' z5 z6 z7 B, am_nl z5 = true → am_nl z6 = true → Fr zA s s' → CZ s' → rep P r w l.length (sr P r w row left pd b l n) 0 B → (∀ y, y < mn P → ri s' 69 y = nI (B y)) → (∀ m, m ≤ n → ¬ ∃ a, sr P r w row left pd b l m l.length a) → gG X (d + 4) 44 33 [.ref 61, .ref p, .ref p2, .int (nI (2 ^ l.length)), .int (nI (n + 1)), z5, z6, z7] [] (mR s') Q := by
    intro u
    induction u with
    | zero =>
      intro n hu s' z5 z6 z7 B n5 n6 hf hZ hrep hfd hno
      have hn : n = 60 := by omega
      subst hn
      refine g_p t44_33 rfl ?_
      refine g_k (n := 60) t44_35 rfl rfl ?_
      refine n_cgt t44_37 (by omega) (by omega) (fun h37 => ?_) (fun h37 => ?_)
      · refine g_p t44_186 rfl ?_
        exact i_ret t44_187 rfl (hq _ s' (Or.inr ⟨hno, rfl⟩) hf hZ)
      · exfalso; omega
    | succ u ihu =>
      intro n hu s' z5 z6 z7 B n5 n6 hf hZ hrep hfd hno
      have hmv : (if n + 1 = 1 then left else pd) = (if n = 0 then left else pd) := by
        by_cases h : n = 0
        · rw [if_pos h, if_pos (by omega)]
        · rw [if_neg h, if_neg (by omega)]
      have hmv5 : (if n = 0 then left else pd) ≤ 5 := by split <;> omega
      obtain ⟨mv, hmve⟩ : ∃ mv, mv = (if n = 0 then left else pd) := ⟨_, rfl⟩
      rw [← hmve] at hmv hmv5
      have hstd : ∀ k c, sr P r w row left pd b l n k c → std P r w c = true := sr_std hrow n
      have COD : ∀ (C : Nat → Nat), rep P r w l.length (sr P r w row left pd b l n) mv C → ∀ j x : Nat, x + j = mn P → ∀ s' z7 g, Fr zA s s' → CZ s' → (∀ y, y < mn P → ri s' 73 y = nI (B y)) → (∀ y, y < x → ri s' 69 y = nI (gon (C y) (sy P b y) l)) → (∀ y, x ≤ y → y < mn P → ri s' 69 y = nI (C y)) → (∀ y, y < x → ¬ sr P r w row left pd b l (n + 1) l.length y) → ((g = 0 ∧ ∀ y, y < x → gon (C y) (sy P b y) l = B y) ∨ (g = 1 ∧ ∃ y, y < x ∧ ¬ gon (C y) (sy P b y) l = B y)) → gG X (d + 4) 44 81 [.ref 61, .ref p, .ref p2, .int (nI (2 ^ l.length)), .int (nI (n + 1)), .int (nI g), .int (nI x), z7] [] (mR s') Q := by
        intro C hC j
        rw [hmve] at hC
        induction j with
        | zero =>
          intro x hj s' z7 g hf hZ hys hlo hhi hnw hg
          have hj : x = mn P := by omega
          subst hj
          have hF := hF.fr hf
          have hR := hR.fr hf (by decide)
          have hW := hW.fr hf (by decide)
          have hB := hB.fr hf
          have hS := hS.fr hf (nin (by decide) (by omega))
          have hN := hN.fr hf
          have hl := hl.fr hf (nin (by decide) (by omega)) (nin (by decide) (by omega))
          have hno2 : ∀ m, m ≤ n + 1 → ¬ ∃ a, sr P r w row left pd b l m l.length a := by
            intro m hm2
            by_cases h : m = n + 1
            · subst h
              rintro ⟨a, ha⟩
              exact hnw a (std_t (sr_std hrow _ _ _ ha)).1 ha
            · exact hno m (by omega)
          have hrep2 : rep P r w l.length (sr P r w row left pd b l (n + 1)) 0 (fun y => gon (C y) (sy P b y) l) := by
            intro a ha
            obtain ⟨h1, h2⟩ := gon_rep rfl hC ha
            refine ⟨h1, fun k => ?_⟩
            rw [h2 k]
            constructor
            · intro h; exact ⟨a, h, rfl⟩
            · rintro ⟨c, h, h3⟩
              rw [show a = c from h3]; exact h
          rcases hg with ⟨rfl, hg⟩ | ⟨rfl, hg⟩
          · have hend : n ≠ 0 → Soon P r w row left pd b l (-1) := by
              intro hn0
              refine Or.inr ⟨fun m hm2 => ?_, rfl⟩
              rcases Nat.lt_or_ge n m with h | h
              · have hsame : ∀ k a, sr P r w row left pd b l (n + 1) k a ↔ sr P r w row left pd b l n k a := by
                  intro k a
                  by_cases ha : a < mn P
                  · have e1 := (hrep2 a ha).2 k
                    have e2 := (hrep a ha).2 k
                    have e3 : gon (C a) (sy P b a) l = B a := hg a ha
                    rw [show (fun y => gon (C y) (sy P b y) l) a = B a from e3] at e1
                    constructor
                    · intro h3
                      obtain ⟨c, h4, h5⟩ := e2.mp (e1.mpr ⟨a, h3, rfl⟩)
                      rw [show a = c from h5]; exact h4
                    · intro h3
                      obtain ⟨c, h4, h5⟩ := e1.mp (e2.mpr ⟨a, h3, rfl⟩)
                      rw [show a = c from h5]; exact h4
                  · constructor
                    · intro h3; exact absurd (std_t (sr_std hrow _ _ _ h3)).1 ha
                    · intro h3; exact absurd (std_t (sr_std hrow _ _ _ h3)).1 ha
                rintro ⟨a, ha⟩
                have := (sr_same (by omega) hsame (m - n) l.length a).mp (by rw [show n + (m - n) = m by omega]; exact ha)
                exact hno n (Nat.le_refl _) ⟨a, this⟩
              · exact hno m h
            refine g_p t44_81 rfl ?_
            refine g_p t44_83 rfl ?_
            refine r_getr t44_84 (f61 hF) rfl rfl ?_
            refine r_cv t44_87 (f19 hF) rfl ?_
            refine c76 (by exact hF) hR.2.1 ?_
            refine k_v ?_ rfl
            refine n_cge t44_90 (by omega) (by omega) (fun h90 => ?_) (fun h90 => ?_)
            · refine g_p t44_167 rfl ?_
              refine n_ne t44_169 (by omega) (fun h169 => ?_) (fun h169 => ?_)
              · refine g_incn (n := 1) t44_180 rfl rfl (Nat.le_of_ble_eq_true rfl) (am_s1_4 rfl) ?_
                refine g_goto t44_183 ?_
                exact ihu (n + 1) (by omega) s' _ _ z7 _ rfl rfl hf hZ hrep2 hlo hno2
              · refine g_p t44_172 rfl ?_
                refine g_k (n := 1) t44_174 rfl rfl ?_
                refine n_cle t44_175 (by omega) (by omega) (fun h175 => ?_) (fun h175 => ?_)
                · refine g_incn (n := 1) t44_180 rfl rfl (Nat.le_of_ble_eq_true rfl) (am_s1_4 rfl) ?_
                  refine g_goto t44_183 ?_
                  exact ihu (n + 1) (by omega) s' _ _ z7 _ rfl rfl hf hZ hrep2 hlo hno2
                · refine g_p t44_178 rfl ?_
                  exact i_ret t44_179 rfl (hq _ s' (hend (by omega)) hf hZ)
            · exfalso; omega
          · refine g_p t44_81 rfl ?_
            refine g_p t44_83 rfl ?_
            refine r_getr t44_84 (f61 hF) rfl rfl ?_
            refine r_cv t44_87 (f19 hF) rfl ?_
            refine c76 (by exact hF) hR.2.1 ?_
            refine k_v ?_ rfl
            refine n_cge t44_90 (by omega) (by omega) (fun h90 => ?_) (fun h90 => ?_)
            · refine g_p t44_167 rfl ?_
              refine n_ne t44_169 (by omega) (fun h169 => ?_) (fun h169 => ?_)
              · refine g_incn (n := 1) t44_180 rfl rfl (Nat.le_of_ble_eq_true rfl) (am_s1_4 rfl) ?_
                refine g_goto t44_183 ?_
                exact ihu (n + 1) (by omega) s' _ _ z7 _ rfl rfl hf hZ hrep2 hlo hno2
              · exfalso; omega
            · exfalso; omega
        | succ j ih =>
          intro x hj s' z7 g hf hZ hys hlo hhi hnw hg
          have hxm : x < mn P := by omega
          have hF := hF.fr hf
          have hR := hR.fr hf (by decide)
          have hW := hW.fr hf (by decide)
          have hB := hB.fr hf
          have hS := hS.fr hf (nin (by decide) (by omega))
          have hN := hN.fr hf
          have hl := hl.fr hf (nin (by decide) (by omega)) (nin (by decide) (by omega))
          obtain ⟨hC1, hC2⟩ := gon_rep rfl hC hxm
          have hCx := (hC x hxm).1
          have hBx := (hrep x hxm).1
          have hwb : gon (C x) (sy P b x) l &&& 2 ^ l.length = 0 ↔ ¬ sr P r w row left pd b l (n + 1) l.length x := by
            rw [and_pow, ← hC2 l.length]
            simp
          rcases hg with ⟨rfl, hg⟩ | ⟨rfl, hg⟩
          · refine g_p t44_81 rfl ?_
            refine g_p t44_83 rfl ?_
            refine r_getr t44_84 (f61 hF) rfl rfl ?_
            refine r_cv t44_87 (f19 hF) rfl ?_
            refine c76 (by exact hF) hR.2.1 ?_
            refine k_v ?_ rfl
            refine n_cge t44_90 (by omega) (by omega) (fun h90 => ?_) (fun h90 => ?_)
            · exfalso; omega
            · refine g_p t44_93 rfl ?_
              refine r_getr t44_94 (f61 hF) rfl rfl ?_
              refine g_p t44_97 rfl ?_
              refine r_cv t44_99 (f68 hF) rfl ?_
              refine c30e (by exact fN68 hF) (by omega) (hhi x (Nat.le_refl _) hxm) ?_
              refine k_v ?_ rfl
              refine g_p t44_102 rfl ?_
              refine g_p t44_103 rfl ?_
              refine r_cv t44_105 hB.1 rfl ?_
              refine c10 (by exact hB) (by omega) (by exact hS x hxm) ?_
              refine k_v ?_ rfl
              refine g_p t44_108 rfl ?_
              refine g_cs t44_109 rfl rfl rfl ?_
              refine c46 (by exact hN) (by exact hl) hll hl8l (by omega) ?_
              refine k_v ?_ rfl
              refine g_is t44_112 (Nat.le_of_ble_eq_true rfl) (am_s1_7 rfl) ?_
              refine g_p t44_114 rfl ?_
              refine g_p t44_116 rfl ?_
              refine g_iand t44_117 ?_
              rw [nI_and (by omega) (by omega)]
              refine n_eq t44_118 (Nat.lt_of_le_of_lt Nat.and_le_left (by omega)) (fun h118 => ?_) (fun h118 => ?_)
              · refine g_p t44_124 rfl ?_
                refine r_getr t44_125 (f61 hF) rfl rfl ?_
                refine g_p t44_128 rfl ?_
                refine g_p t44_130 rfl ?_
                refine r_cv t44_132 (f68 hF) rfl ?_
                refine c31 (by exact fN68 hF) (by omega) ?_
                refine k_0 ?_
                refine g_p t44_135 rfl ?_
                refine n_ne t44_137 (by omega) (fun h137 => ?_) (fun h137 => ?_)
                · refine g_k (n := 1) t44_154 rfl rfl ?_
                  refine g_goto t44_155 ?_
                  refine g_is t44_159 (Nat.le_of_ble_eq_true rfl) (am_s1_5 rfl) ?_
                  refine g_incn (n := 1) t44_161 rfl rfl (Nat.le_of_ble_eq_true rfl) (am_s1_6 rfl) ?_
                  refine g_goto t44_164 ?_
                  have hy1 : ∀ y, y < x + 1 → ri (wi s' 69 x (nI (gon (C x) (sy P b x) l))) 69 y = nI (gon (C y) (sy P b y) l) := fun y hy => by
                    by_cases h9 : y = x
                    · subst h9; exact ri_wi_eq
                    · rw [ri_wi_j h9]; exact hlo y (by omega)
                  have hy2 : ∀ y, x + 1 ≤ y → y < mn P → ri (wi s' 69 x (nI (gon (C x) (sy P b x) l))) 69 y = nI (C y) := fun y hy hym => by
                    rw [ri_wi_j (by omega)]; exact hhi y (by omega) hym
                  have hy3 : ∀ y, y < x + 1 → ¬ sr P r w row left pd b l (n + 1) l.length y := fun y hy => by
                    by_cases h9 : y = x
                    · subst h9; exact hwb.mp h118
                    · exact hnw y (by omega)
                  first
                    | exact absurd rfl h137
                    | exact ih (x + 1) (by omega) (wi s' 69 x (nI (gon (C x) (sy P b x) l))) (.int (nI (gon (C x) (sy P b x) l))) 1 (hf.wi (p := 69) (by simp)) hZ hys hy1 hy2 hy3 (Or.inr ⟨rfl, x, Nat.lt_succ_self x, h151⟩)
                    | exact ih (x + 1) (by omega) (wi s' 69 x (nI (gon (C x) (sy P b x) l))) (.int (nI (gon (C x) (sy P b x) l))) 0 (hf.wi (p := 69) (by simp)) hZ hys hy1 hy2 hy3 (Or.inl ⟨rfl, fun y hy => (Nat.lt_or_eq_of_le (Nat.le_of_lt_succ hy)).elim (fun h => hg y h) (fun h => by subst h; exact h151)⟩)
                · refine g_p t44_140 rfl ?_
                  refine g_p t44_142 rfl ?_
                  refine r_getr t44_143 (f61 hF) rfl rfl ?_
                  refine g_p t44_146 rfl ?_
                  refine r_cv t44_148 (f72 hF) rfl ?_
                  refine c30e (by exact fN72 hF) (by omega) (hys x hxm) ?_
                  refine k_v ?_ rfl
                  refine n_ceq t44_151 (by omega) (by omega) (fun h151 => ?_) (fun h151 => ?_)
                  · refine g_k (n := 0) t44_158 rfl rfl ?_
                    refine g_is t44_159 (Nat.le_of_ble_eq_true rfl) (am_s1_5 rfl) ?_
                    refine g_incn (n := 1) t44_161 rfl rfl (Nat.le_of_ble_eq_true rfl) (am_s1_6 rfl) ?_
                    refine g_goto t44_164 ?_
                    have hy1 : ∀ y, y < x + 1 → ri (wi s' 69 x (nI (gon (C x) (sy P b x) l))) 69 y = nI (gon (C y) (sy P b y) l) := fun y hy => by
                      by_cases h9 : y = x
                      · subst h9; exact ri_wi_eq
                      · rw [ri_wi_j h9]; exact hlo y (by omega)
                    have hy2 : ∀ y, x + 1 ≤ y → y < mn P → ri (wi s' 69 x (nI (gon (C x) (sy P b x) l))) 69 y = nI (C y) := fun y hy hym => by
                      rw [ri_wi_j (by omega)]; exact hhi y (by omega) hym
                    have hy3 : ∀ y, y < x + 1 → ¬ sr P r w row left pd b l (n + 1) l.length y := fun y hy => by
                      by_cases h9 : y = x
                      · subst h9; exact hwb.mp h118
                      · exact hnw y (by omega)
                    first
                      | exact absurd rfl h137
                      | exact ih (x + 1) (by omega) (wi s' 69 x (nI (gon (C x) (sy P b x) l))) (.int (nI (gon (C x) (sy P b x) l))) 1 (hf.wi (p := 69) (by simp)) hZ hys hy1 hy2 hy3 (Or.inr ⟨rfl, x, Nat.lt_succ_self x, h151⟩)
                      | exact ih (x + 1) (by omega) (wi s' 69 x (nI (gon (C x) (sy P b x) l))) (.int (nI (gon (C x) (sy P b x) l))) 0 (hf.wi (p := 69) (by simp)) hZ hys hy1 hy2 hy3 (Or.inl ⟨rfl, fun y hy => (Nat.lt_or_eq_of_le (Nat.le_of_lt_succ hy)).elim (fun h => hg y h) (fun h => by subst h; exact h151)⟩)
                  · refine g_k (n := 1) t44_154 rfl rfl ?_
                    refine g_goto t44_155 ?_
                    refine g_is t44_159 (Nat.le_of_ble_eq_true rfl) (am_s1_5 rfl) ?_
                    refine g_incn (n := 1) t44_161 rfl rfl (Nat.le_of_ble_eq_true rfl) (am_s1_6 rfl) ?_
                    refine g_goto t44_164 ?_
                    have hy1 : ∀ y, y < x + 1 → ri (wi s' 69 x (nI (gon (C x) (sy P b x) l))) 69 y = nI (gon (C y) (sy P b y) l) := fun y hy => by
                      by_cases h9 : y = x
                      · subst h9; exact ri_wi_eq
                      · rw [ri_wi_j h9]; exact hlo y (by omega)
                    have hy2 : ∀ y, x + 1 ≤ y → y < mn P → ri (wi s' 69 x (nI (gon (C x) (sy P b x) l))) 69 y = nI (C y) := fun y hy hym => by
                      rw [ri_wi_j (by omega)]; exact hhi y (by omega) hym
                    have hy3 : ∀ y, y < x + 1 → ¬ sr P r w row left pd b l (n + 1) l.length y := fun y hy => by
                      by_cases h9 : y = x
                      · subst h9; exact hwb.mp h118
                      · exact hnw y (by omega)
                    first
                      | exact absurd rfl h137
                      | exact ih (x + 1) (by omega) (wi s' 69 x (nI (gon (C x) (sy P b x) l))) (.int (nI (gon (C x) (sy P b x) l))) 1 (hf.wi (p := 69) (by simp)) hZ hys hy1 hy2 hy3 (Or.inr ⟨rfl, x, Nat.lt_succ_self x, h151⟩)
                      | exact ih (x + 1) (by omega) (wi s' 69 x (nI (gon (C x) (sy P b x) l))) (.int (nI (gon (C x) (sy P b x) l))) 0 (hf.wi (p := 69) (by simp)) hZ hys hy1 hy2 hy3 (Or.inl ⟨rfl, fun y hy => (Nat.lt_or_eq_of_le (Nat.le_of_lt_succ hy)).elim (fun h => hg y h) (fun h => by subst h; exact h151)⟩)
              · refine g_p t44_121 rfl ?_
                exact i_ret t44_123 rfl (hq _ s' (Or.inl ⟨n + 1, by omega, by omega, ⟨x, hxm, by
                  rcases Classical.em (sr P r w row left pd b l (n + 1) l.length x) with h9 | h9
                  · exact h9
                  · exact absurd (hwb.mpr h9) h118⟩, fun m hm2 => hno m (by omega), rfl⟩) hf hZ)
          · refine g_p t44_81 rfl ?_
            refine g_p t44_83 rfl ?_
            refine r_getr t44_84 (f61 hF) rfl rfl ?_
            refine r_cv t44_87 (f19 hF) rfl ?_
            refine c76 (by exact hF) hR.2.1 ?_
            refine k_v ?_ rfl
            refine n_cge t44_90 (by omega) (by omega) (fun h90 => ?_) (fun h90 => ?_)
            · exfalso; omega
            · refine g_p t44_93 rfl ?_
              refine r_getr t44_94 (f61 hF) rfl rfl ?_
              refine g_p t44_97 rfl ?_
              refine r_cv t44_99 (f68 hF) rfl ?_
              refine c30e (by exact fN68 hF) (by omega) (hhi x (Nat.le_refl _) hxm) ?_
              refine k_v ?_ rfl
              refine g_p t44_102 rfl ?_
              refine g_p t44_103 rfl ?_
              refine r_cv t44_105 hB.1 rfl ?_
              refine c10 (by exact hB) (by omega) (by exact hS x hxm) ?_
              refine k_v ?_ rfl
              refine g_p t44_108 rfl ?_
              refine g_cs t44_109 rfl rfl rfl ?_
              refine c46 (by exact hN) (by exact hl) hll hl8l (by omega) ?_
              refine k_v ?_ rfl
              refine g_is t44_112 (Nat.le_of_ble_eq_true rfl) (am_s1_7 rfl) ?_
              refine g_p t44_114 rfl ?_
              refine g_p t44_116 rfl ?_
              refine g_iand t44_117 ?_
              rw [nI_and (by omega) (by omega)]
              refine n_eq t44_118 (Nat.lt_of_le_of_lt Nat.and_le_left (by omega)) (fun h118 => ?_) (fun h118 => ?_)
              · refine g_p t44_124 rfl ?_
                refine r_getr t44_125 (f61 hF) rfl rfl ?_
                refine g_p t44_128 rfl ?_
                refine g_p t44_130 rfl ?_
                refine r_cv t44_132 (f68 hF) rfl ?_
                refine c31 (by exact fN68 hF) (by omega) ?_
                refine k_0 ?_
                refine g_p t44_135 rfl ?_
                refine n_ne t44_137 (by omega) (fun h137 => ?_) (fun h137 => ?_)
                · refine g_k (n := 1) t44_154 rfl rfl ?_
                  refine g_goto t44_155 ?_
                  refine g_is t44_159 (Nat.le_of_ble_eq_true rfl) (am_s1_5 rfl) ?_
                  refine g_incn (n := 1) t44_161 rfl rfl (Nat.le_of_ble_eq_true rfl) (am_s1_6 rfl) ?_
                  refine g_goto t44_164 ?_
                  have hy1 : ∀ y, y < x + 1 → ri (wi s' 69 x (nI (gon (C x) (sy P b x) l))) 69 y = nI (gon (C y) (sy P b y) l) := fun y hy => by
                    by_cases h9 : y = x
                    · subst h9; exact ri_wi_eq
                    · rw [ri_wi_j h9]; exact hlo y (by omega)
                  have hy2 : ∀ y, x + 1 ≤ y → y < mn P → ri (wi s' 69 x (nI (gon (C x) (sy P b x) l))) 69 y = nI (C y) := fun y hy hym => by
                    rw [ri_wi_j (by omega)]; exact hhi y (by omega) hym
                  have hy3 : ∀ y, y < x + 1 → ¬ sr P r w row left pd b l (n + 1) l.length y := fun y hy => by
                    by_cases h9 : y = x
                    · subst h9; exact hwb.mp h118
                    · exact hnw y (by omega)
                  exact ih (x + 1) (by omega) (wi s' 69 x (nI (gon (C x) (sy P b x) l))) (.int (nI (gon (C x) (sy P b x) l))) 1 (hf.wi (p := 69) (by simp)) hZ hys hy1 hy2 hy3 (Or.inr ⟨rfl, hg.elim (fun y h => ⟨y, Nat.lt_succ_of_lt h.1, h.2⟩)⟩)
                · exact absurd h137 (by decide)
              · refine g_p t44_121 rfl ?_
                exact i_ret t44_123 rfl (hq _ s' (Or.inl ⟨n + 1, by omega, by omega, ⟨x, hxm, by
                  rcases Classical.em (sr P r w row left pd b l (n + 1) l.length x) with h9 | h9
                  · exact h9
                  · exact absurd (hwb.mpr h9) h118⟩, fun m hm2 => hno m (by omega), rfl⟩) hf hZ)
      have MOV : ∀ j i : Nat, i + j = mv → ∀ s' z6 z7 C, am_nl z6 = true → Fr zA s s' → CZ s' → rep P r w l.length (sr P r w row left pd b l n) i C → (∀ y, y < mn P → ri s' 69 y = nI (C y)) → (∀ y, y < mn P → ri s' 73 y = nI (B y)) → gG X (d + 4) 44 54 [.ref 61, .ref p, .ref p2, .int (nI (2 ^ l.length)), .int (nI (n + 1)), .int (nI i), z6, z7] [] (mR s') Q := by
        intro j
        induction j with
        | zero =>
          intro i hj s' z6 z7 C n6 hf hZ hC hfd hys
          have hj : i = mv := by omega
          subst hj
          have hF := hF.fr hf
          have hR := hR.fr hf (by decide)
          have hW := hW.fr hf (by decide)
          have hB := hB.fr hf
          have hS := hS.fr hf (nin (by decide) (by omega))
          have hN := hN.fr hf
          have hl := hl.fr hf (nin (by decide) (by omega)) (nin (by decide) (by omega))
          obtain ⟨e1, e2, e3, e4, e5, e6⟩ := hW
          refine g_p t44_54 rfl ?_
          refine g_p t44_56 rfl ?_
          refine g_p t44_57 rfl ?_
          refine r_cv t44_59 (f61 hF) rfl ?_
          refine c41 (by exact hF) (by omega) (by exact e3) (by exact e6) ?_
          rw [hmv]
          refine k_v ?_ rfl
          refine n_cge t44_62 (by omega) (by omega) (fun h62 => ?_) (fun h62 => ?_)
          · refine g_k (n := 0) t44_75 rfl rfl ?_
            refine g_is t44_76 (Nat.le_of_ble_eq_true rfl) (am_s1_5 rfl) ?_
            refine g_k (n := 0) t44_78 rfl rfl ?_
            refine g_is t44_79 (Nat.le_of_ble_eq_true rfl) (am_s1_6 rfl) ?_
            exact COD C hC (mn P) 0 (by omega) s' z7 0 hf hZ hys (fun y hy => absurd hy (Nat.not_lt_zero y)) (fun y _ hy => hfd y hy) (fun y hy => absurd hy (Nat.not_lt_zero y)) (Or.inl ⟨rfl, fun y hy => absurd hy (Nat.not_lt_zero y)⟩)
          · exfalso; omega
        | succ j ih =>
          intro i hj s' z6 z7 C n6 hf hZ hC hfd hys
          have hF := hF.fr hf
          have hR := hR.fr hf (by decide)
          have hW := hW.fr hf (by decide)
          have hB := hB.fr hf
          have hS := hS.fr hf (nin (by decide) (by omega))
          have hN := hN.fr hf
          have hl := hl.fr hf (nin (by decide) (by omega)) (nin (by decide) (by omega))
          have hW0 := hW
          obtain ⟨e1, e2, e3, e4, e5, e6⟩ := hW
          refine g_p t44_54 rfl ?_
          refine g_p t44_56 rfl ?_
          refine g_p t44_57 rfl ?_
          refine r_cv t44_59 (f61 hF) rfl ?_
          refine c41 (by exact hF) (by omega) (by exact e3) (by exact e6) ?_
          rw [hmv]
          refine k_v ?_ rfl
          refine n_cge t44_62 (by omega) (by omega) (fun h62 => ?_) (fun h62 => ?_)
          · exfalso; omega
          · refine g_p t44_65 rfl ?_
            refine r_cv t44_66 (f61 hF) rfl ?_
            refine c45 (by exact hF) (by exact hR) (by exact hW0) hr5 hw5 (by exact hZ) (fun y hy => ⟨hfd y hy, Nat.lt_of_lt_of_le (hC y hy).1 (by omega)⟩) (fun s66 fr66 hZ h66 => ?_)
            refine k_0 ?_
            refine g_incn (n := 1) t44_69 rfl rfl (Nat.le_of_ble_eq_true rfl) (am_s1_5 rfl) ?_
            refine g_goto t44_72 ?_
            exact ih (i + 1) (by omega) s66 z6 z7 _ n6 (hf.tr (fr66.mono (by decide))) hZ (rep_s hP5 hstd hC) h66 (fun y hy => (fr66.ri (by decide)).trans (hys y hy))
      have hF := hF.fr hf
      have hR := hR.fr hf (by decide)
      have hW := hW.fr hf (by decide)
      have hB := hB.fr hf
      have hS := hS.fr hf (nin (by decide) (by omega))
      have hN := hN.fr hf
      have hl := hl.fr hf (nin (by decide) (by omega)) (nin (by decide) (by omega))
      refine g_p t44_33 rfl ?_
      refine g_k (n := 60) t44_35 rfl rfl ?_
      refine n_cgt t44_37 (by omega) (by omega) (fun h37 => ?_) (fun h37 => ?_)
      · exfalso; omega
      · refine g_p t44_40 rfl ?_
        refine r_getr t44_41 (f61 hF) rfl rfl ?_
        refine g_p t44_44 rfl ?_
        refine r_getr t44_45 (f61 hF) rfl rfl ?_
        refine r_cv t44_48 (f72 hF) rfl ?_
        refine c36c (by exact fN72 hF) (by exact fN68 hF) (by decide) (by exact hZ.1) (by decide) (fun s48 fr48 l48 t48 => ?_)
        refine k_0 ?_
        refine g_k (n := 0) t44_51 rfl rfl ?_
        refine g_is t44_52 (Nat.le_of_ble_eq_true rfl) (am_s1_5 rfl) ?_
        exact MOV mv 0 (by omega) s48 z6 z7 B n6 (hf.tr (fr48.mono (by decide))) (hZ.fr fr48 (by decide) (by decide)) hrep (fun y hy => (fr48.ri (by decide)).trans (hfd y hy)) (fun y hy => (t48 y (by omega)).trans (hfd y hy))
  obtain ⟨e1, e2, e3, e4, e5, e6⟩ := hW
  have hrowN := (std_t hrow).1
  refine en44 rfl rfl rfl ?_
  refine g_k (n := 1) t44_0 rfl rfl ?_
  refine g_p t44_1 rfl ?_
  refine r_cv t44_2 hN.1 rfl ?_
  refine c29L hN (by exact hl) ?_
  refine k_v ?_ rfl
  refine g_ishl t44_5 ?_
  rw [shl1 l.length (by omega)]
  refine g_isn t44_6 (Nat.le_of_ble_eq_true rfl) (am_s1_3 rfl) ?_
  refine g_p t44_7 rfl ?_
  refine r_getr t44_8 (f61 hF) rfl rfl ?_
  refine g_k (n := 0) t44_11 rfl rfl ?_
  refine r_cv t44_12 (f68 hF) rfl ?_
  refine c32f (by exact fN68 hF) (fun s11 fr11 z11 => ?_)
  refine k_0 ?_
  have hF := Fx.fr (by exact hF) fr11
  have e1 := (fr11.ri (p := 32) (i := 1) (by decide)).trans e1
  have e2 := (fr11.ri (p := 32) (i := 2) (by decide)).trans e2
  have e3 := (fr11.ri (p := 32) (i := 3) (by decide)).trans e3
  have e4 := (fr11.ri (p := 32) (i := 4) (by decide)).trans e4
  have e5 := (fr11.ri (p := 32) (i := 5) (by decide)).trans e5
  have e6 := (fr11.ri (p := 32) (i := 6) (by decide)).trans e6
  have hl := NL.fr (p := p2) (by exact hl) fr11 (nin (by decide) (by omega)) (nin (by decide) (by omega))
  refine g_p t44_15 rfl ?_
  refine r_getr t44_16 (f61 hF) rfl rfl ?_
  refine g_p t44_19 rfl ?_
  refine r_getr t44_20 (f61 hF) rfl rfl ?_
  refine r_cv t44_23 (f32 hF) rfl ?_
  refine c96 (by exact hF) e4 ?_
  refine k_v ?_ rfl
  refine g_k (n := 1) t44_26 rfl rfl ?_
  refine r_cv t44_27 (f68 hF) rfl ?_
  refine c31 (by exact fN68 hF) (by omega) ?_
  refine k_0 ?_
  refine g_k (n := 1) t44_30 rfl rfl ?_
  refine g_is t44_31 (Nat.le_of_ble_eq_true rfl) (am_s1_4 rfl) ?_
  refine DAY 60 0 rfl (wi s11 69 row (nI 1)) (.float 0) (.float 0) (.float 0) (fun y => if y = row then 1 else 0) rfl rfl ((fr11.mono (by decide)).wi (p := 69) (by simp)) (show CZ s11 from hZ.fr fr11 (by decide) (by decide)) (fun a ha => ?_) (fun y hy => ?_) (fun m hm2 => ?_)
  · constructor
    · show (if a = row then 1 else 0) < _
      have : 2 ^ 1 ≤ 2 ^ (l.length + 1) := Nat.pow_le_pow_right (by decide) (by omega)
      split <;> omega
    · intro k
      show (if a = row then 1 else 0).testBit k = true ↔ _
      by_cases h9 : a = row
      · rw [if_pos h9]
        constructor
        · intro h
          have hk : k = 0 := by
            rcases Nat.eq_zero_or_pos k with h8 | h8
            · exact h8
            · rw [Nat.testBit_lt_two_pow (Nat.lt_of_lt_of_le (by decide : 1 < 2 ^ 1) (Nat.pow_le_pow_right (by decide) h8))] at h
              exact absurd h (by decide)
          exact ⟨a, ⟨hk, h9⟩, rfl⟩
        · rintro ⟨c, ⟨rfl, -⟩, -⟩; rfl
      · rw [if_neg h9, Nat.zero_testBit]
        constructor
        · intro h; exact absurd h (by decide)
        · rintro ⟨c, ⟨-, h7⟩, h8⟩
          exact absurd ((show a = c from h8).trans h7) h9
  · show _ = nI (if y = row then 1 else 0)
    by_cases h9 : y = row
    · subst h9; rw [if_pos rfl, ri_wi_eq]
    · rw [if_neg h9, ri_wi_j h9]; exact z11 y (by omega)
  · have hm0 : m = 0 := by omega
    subst hm0
    rintro ⟨a, h1, -⟩
    omega
end PY
