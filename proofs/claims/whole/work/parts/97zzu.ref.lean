/-! THE REFERENCE, 12: reading; ways -/
section RU
variable {X : am_X} {d : Nat} {s : mM} {Q : Option Value → am_H → Prop} {P r w pd row day left a c k n l : Nat} {x y z u lt : Int32} {b : Bk} {bks : List Bk} {se : List Act}
def RDOK (ls : Nat) (lt : Int32) (q : Nat × Int32) : Prop := (ls = 1000 ∧ lt = -1 ∧ q = (15, -1)) ∨ (ls = q.1 ∧ ls ≤ 10 ∧ ((∃ l, l < 8 ∧ q.2 = nI l ∧ lt = nI l) ∨ (q.2 = -1 ∧ lt = -2)))
theorem rdA (hP : P ≤ 5) {ls : Nat} (h : std P r w c = false ∨ sy P b c = -1) (g : RDOK ls lt (rd P r w b a c)) : RDOK ls lt (rd P r w b a (c + 1)) := by
  have e : rds P r w b a c = 15 := by
    unfold rds
    split
    · rfl
    · rename_i h9
      rcases h with h | h
      · exact dst_f (fun h2 => no_b h2.2 h)
      · exact absurd h h9
  have hl := rd_le (P := P) (r := r) (w := w) (a := a) (b := b) c
  have : rd P r w b a (c + 1) = rd P r w b a c := by
    rw [rd, e, if_neg (by omega), if_neg (fun h => absurd h.2.1 (by decide))]
  rw [this]; exact g
theorem rdv (hc : std P r w c = true) (ha : std P r w a = true) (hs : ¬ sy P b c = -1) : rds P r w b a c = dst P r w 15 a c := by unfold rds; rw [if_neg hs]
theorem rdB (hP : P ≤ 5) {ls : Nat} (ha : std P r w a = true) (hc : std P r w c = true) (hs : ¬ sy P b c = -1) (he : ls < dst P r w 15 a c) (g : RDOK ls lt (rd P r w b a c)) : RDOK ls lt (rd P r w b a (c + 1)) := by
  have e := rdv hc ha hs
  have h10 := dst_10 (F := 15) hP ha hc
  have : rd P r w b a (c + 1) = rd P r w b a c := by
    rw [rd, e]
    rcases g with ⟨g1, -, -⟩ | ⟨g1, -, -⟩
    · omega
    · rw [if_neg (by omega), if_neg (fun h => by omega)]
  rw [this]; exact g
theorem rdC (hP : P ≤ 5) {ls : Nat} (ha : std P r w a = true) (hc : std P r w c = true) (hl : l < 8) (hs : sy P b c = nI l) (he : dst P r w 15 a c < ls) (g : RDOK ls lt (rd P r w b a c)) : RDOK (dst P r w 15 a c) (sy P b c) (rd P r w b a (c + 1)) := by
  have e := rdv (a := a) hc ha (by rw [hs]; exact nI_m1 (by omega))
  have h10 := dst_10 (F := 15) hP ha hc
  have : rd P r w b a (c + 1) = (dst P r w 15 a c, sy P b c) := by
    rw [rd, e, if_pos (by
      rcases g with ⟨g1, -, g2⟩ | ⟨g1, -, -⟩
      · rw [g2]; exact Nat.lt_of_le_of_lt h10 (by decide)
      · omega)]
  rw [this]; exact Or.inr ⟨rfl, h10, Or.inl ⟨l, hl, hs, hs⟩⟩
theorem rdD (hP : P ≤ 5) {ls : Nat} (ha : std P r w a = true) (hc : std P r w c = true) (hl : l < 8) (hs : sy P b c = nI l) (he : dst P r w 15 a c = ls) (hv : lt = sy P b c) (g : RDOK ls lt (rd P r w b a c)) : RDOK (dst P r w 15 a c) (sy P b c) (rd P r w b a (c + 1)) := by
  have e := rdv (a := a) hc ha (by rw [hs]; exact nI_m1 (by omega))
  have h10 := dst_10 (F := 15) hP ha hc
  have hq : (rd P r w b a c).2 = sy P b c := by
    rcases g with ⟨g1, -, -⟩ | ⟨g1, -, ⟨l2, -, g2, g3⟩ | ⟨-, g3⟩⟩
    · omega
    · rw [g2, ← g3]; exact hv
    · rw [hv, hs] at g3; exact absurd g3 (fun h => nI_pos (show l < 2 ^ 31 by omega) (by rw [h]; decide))
  have : rd P r w b a (c + 1) = rd P r w b a c := by
    rw [rd, e]
    rcases g with ⟨g1, -, -⟩ | ⟨g1, -, -⟩
    · omega
    · rw [if_neg (by omega), if_neg (fun h => h.2.2 hq.symm)]
  rw [this, he, ← hv]; exact g
theorem rdE (hP : P ≤ 5) {ls : Nat} (ha : std P r w a = true) (hc : std P r w c = true) (hl : l < 8) (hs : sy P b c = nI l) (he : dst P r w 15 a c = ls) (hv : ¬ lt = sy P b c) (g : RDOK ls lt (rd P r w b a c)) : RDOK (dst P r w 15 a c) (-2) (rd P r w b a (c + 1)) := by
  have e := rdv (a := a) hc ha (by rw [hs]; exact nI_m1 (by omega))
  have h10 := dst_10 (F := 15) hP ha hc
  have hq : ¬ sy P b c = (rd P r w b a c).2 := by
    rcases g with ⟨g1, -, -⟩ | ⟨g1, -, ⟨l2, -, g2, g3⟩ | ⟨g2, g3⟩⟩
    · omega
    · rw [g2, ← g3]; exact fun h => hv h.symm
    · rw [g2, hs]; exact nI_m1 (by omega)
  have g1 : ls = (rd P r w b a c).1 := by
    rcases g with ⟨g1, -, -⟩ | ⟨g1, -, -⟩
    · omega
    · exact g1
  have : rd P r w b a (c + 1) = ((rd P r w b a c).1, -1) := by
    rw [rd, e, if_neg (by omega), if_pos ⟨by omega, by omega, hq⟩]
  rw [this]; exact Or.inr ⟨by rw [he]; exact g1, h10, Or.inr ⟨rfl, rfl⟩⟩
theorem c249t (hF : Fx s) (hP5 : P ≤ 5) (hW : MW P r w pd row day left s) (hr5 : r ≤ 5) (hw5 : w ≤ 5) (e43 : ri s 80 43 = bI false) (hM : MB bks s) (hL : ∀ b ∈ bks, ∀ c ∈ b.1, c.1 < 8) (hg : bG P bks x = some b) (ha : stO P r w y = some a) (hq : ∀ s', FM fA (0 :: nB) s s' → Q (some (.int (rd P r w b a (mn P)).2)) (mR s')) : gE X (d + 6) 249 [.ref 80, .int x, .int y] (mR s) Q := by
  obtain ⟨m0, e21, e33, e34, e35, p1, p2⟩ := id hW
  have hm := mn_le hP5
  obtain ⟨a1, a2⟩ := stO_t ha
  have haN := (std_t a2).1
  have qL : ∀ c ∈ b.1, c.1 < 8 := by
    obtain ⟨-, k2, h2, h3, h4⟩ := bG_t hg (by have := hM.2.1; omega)
    rw [h4]; exact hL _ (by simp [List.getD, h2])
  obtain ⟨hP0, k, hk, hk4, rfl, hB1⟩ := bG_M hM hg
  have K : ∀ s1 : mM, Fx s1 → FM fA (0 :: nB) s s1 → ri s1 80 20 = nI P → ri s1 85 1 = nI r → ri s1 85 2 = nI w → MB1 b k s1 → (∀ x, x < mn P → ri s1 98 x = nI (dst P r w 1000 a x)) → ∀ (j x ls : Nat) (lt : Int32) z7, x + j = mn P → RDOK ls lt (rd P r w b a x) → gG X (d + 6) 249 52 [.ref 80, .int (nI k), .int y, .int (nI a), .int (nI ls), .int lt, .int (nI x), z7] [] (mR s1) Q := by
    intro s1 hF hf m0 p1 p2 hB1 hd j
    induction j with
    | zero =>
      intro x ls lt z7 hj hok
      have hj : x = mn P := by omega
      subst hj
      refine g_p t249_52 rfl ?_
      refine g_p t249_54 rfl ?_
      refine r_cv t249_55 (f80 hF) rfl ?_
      refine c209 (by exact hF) (by exact m0) hP5 hP0 ?_
      refine k_v ?_ rfl
      refine n_cge t249_58 (by omega) (by omega) (fun h58 => ?_) (fun h58 => ?_)
      · refine g_p t249_168 rfl ?_
        refine g_ge t249_170 (fun h170 => ?_) (fun h170 => ?_)
        · refine g_p t249_177 rfl ?_
          refine i_ret t249_179 ?_ (hq _ hf)
          rcases hok with ⟨h1, h2, h3⟩ | ⟨h1, h2, ⟨l, h4, h5, h6⟩ | ⟨h5, h6⟩⟩
          · first
              | (rw [h3]; done)
              | (have u0 := h170; rw [h2] at u0; exact absurd u0 (by decide))
          · first
              | (rw [h5]; exact h6)
              | (have u0 := h170; rw [h6] at u0; exact absurd (Int32.not_lt.mp (nI_pos (show l < 2 ^ 31 by omega))) u0)
          · first
              | (rw [h5]; done)
              | (have u0 := h170; rw [h6] at u0; exact absurd u0 (by decide))
        · refine g_p t249_173 rfl ?_
          refine g_goto t249_174 ?_
          refine i_ret t249_179 ?_ (hq _ hf)
          rcases hok with ⟨h1, h2, h3⟩ | ⟨h1, h2, ⟨l, h4, h5, h6⟩ | ⟨h5, h6⟩⟩
          · first
              | (rw [h3]; done)
              | (have u0 := h170; rw [h2] at u0; exact absurd u0 (by decide))
          · first
              | (rw [h5]; exact h6)
              | (have u0 := h170; rw [h6] at u0; exact absurd (Int32.not_lt.mp (nI_pos (show l < 2 ^ 31 by omega))) u0)
          · first
              | (rw [h5]; done)
              | (have u0 := h170; rw [h6] at u0; exact absurd u0 (by decide))
      · exfalso; omega
    | succ j ih =>
      intro x ls lt z7 hj hok
      have hx : x < mn P := by omega
      have ih := fun ls lt z7 => ih (x + 1) ls lt z7 (by omega)
      have hfx := hd x hx
      have hb1000 : dst P r w 1000 a x ≤ 1000 := dst_le hP5 (by decide)
      have h1000 : ls ≤ 1000 := by rcases hok with h | h <;> omega
      have inn : std P r w x = true → dst P r w 1000 a x = dst P r w 15 a x ∧ dst P r w 15 a x ≤ 10 := fun h => (d15 hP5).elim (fun g => ⟨g.2.2.2, g.2.2.1⟩) (fun g => absurd ⟨a2, h⟩ g.1)
      have fl : ¬ sy P b x = -1 → ∃ l, l < 8 ∧ sy P b x = nI l := fun h => (find_lt (P := P) (c := x) qL).elim (fun g => absurd g h) id
      refine g_p t249_52 rfl ?_
      refine g_p t249_54 rfl ?_
      refine r_cv t249_55 (f80 hF) rfl ?_
      refine c209 (by exact hF) (by exact m0) hP5 hP0 ?_
      refine k_v ?_ rfl
      refine n_cge t249_58 (by omega) (by omega) (fun h58 => ?_) (fun h58 => ?_)
      · exfalso; omega
      · refine g_p t249_61 rfl ?_
        refine g_p t249_62 rfl ?_
        refine r_cv t249_64 (f80 hF) rfl ?_
        refine c214 (by exact hF) (by exact m0) hP5 (by exact p1) (by exact p2) hr5 hw5 (by omega) ?_
        refine k_v ?_ rfl
        refine b_eq t249_67 (fun h67 => ?_) (fun h67 => ?_)
        · refine g_p t249_80 rfl ?_
          refine g_is t249_81 (Nat.le_of_ble_eq_true rfl) (am_s1_7 rfl) ?_
          refine g_p t249_83 rfl ?_
          refine g_p t249_85 rfl ?_
          refine g_ceq t249_86 (fun h86 => ?_) (fun h86 => ?_)
          · refine g_incn (n := 1) t249_162 rfl rfl (Nat.le_of_ble_eq_true rfl) (am_s1_6 rfl) ?_
            refine g_goto t249_165 ?_
            first
              | (have u0 : std P r w x = false := h67
                 exact ih ls lt _ (rdA hP5 (Or.inl u0) hok))
              | (have u0 : sy P b x = -1 := h86
                 exact ih ls lt _ (rdA hP5 (Or.inr u0) hok))
              | (obtain ⟨l, hl8, h9⟩ := fl h86
                 obtain ⟨i1, i2⟩ := inn h67
                 have u0 : ls < dst P r w 1000 a x := Nat.lt_of_not_le h98
                 exact ih ls lt _ (rdB hP5 a2 h67 h86 (by rw [← i1]; exact u0) hok))
              | (obtain ⟨l, hl8, h9⟩ := fl h86
                 obtain ⟨i1, i2⟩ := inn h67
                 have u0 : dst P r w 1000 a x < ls := h113
                 rw [i1] at u0 ⊢
                 exact ih _ _ _ (rdC hP5 a2 h67 hl8 h9 u0 hok))
              | (obtain ⟨l, hl8, h9⟩ := fl h86
                 obtain ⟨i1, i2⟩ := inn h67
                 have u0 : dst P r w 1000 a x = ls := h140
                 have u1 : lt = sy P b x := h120
                 rw [i1] at u0 ⊢
                 exact ih _ _ _ (rdD hP5 a2 h67 hl8 h9 u0 u1 hok))
              | (obtain ⟨l, hl8, h9⟩ := fl h86
                 obtain ⟨i1, i2⟩ := inn h67
                 have u0 : dst P r w 1000 a x = ls := h140
                 have u1 : ¬ lt = sy P b x := h120
                 rw [i1] at u0 ⊢
                 exact ih _ _ _ (rdE hP5 a2 h67 hl8 h9 u0 u1 hok))
              | (have u2 : ¬ dst P r w 1000 a x = ls := h140
                 have u0 : ¬ dst P r w 1000 a x < ls := h113
                 have u1 : dst P r w 1000 a x ≤ ls := h98
                 exfalso; omega)
              | exact absurd rfl h86
              | exact absurd h146 h86
              | exact absurd rfl h146
          · refine g_p t249_89 rfl ?_
            refine r_getr t249_90 (f80 hF) rfl rfl ?_
            refine g_p t249_93 rfl ?_
            refine r_iale t249_95 (f98 hF) (by decide) (by omega) hfx ?_
            refine g_p t249_96 rfl ?_
            refine n_cle t249_98 (by omega) (by omega) (fun h98 => ?_) (fun h98 => ?_)
            · refine g_p t249_104 rfl ?_
              refine r_getr t249_105 (f80 hF) rfl rfl ?_
              refine g_p t249_108 rfl ?_
              refine r_iale t249_110 (f98 hF) (by decide) (by omega) hfx ?_
              refine g_p t249_111 rfl ?_
              refine n_clt t249_113 (by omega) (by omega) (fun h113 => ?_) (fun h113 => ?_)
              · refine g_p t249_123 rfl ?_
                refine g_goto t249_125 ?_
                refine g_is t249_129 (Nat.le_of_ble_eq_true rfl) (am_s1_5 rfl) ?_
                refine g_p t249_131 rfl ?_
                refine r_getr t249_132 (f80 hF) rfl rfl ?_
                refine g_p t249_135 rfl ?_
                refine r_iale t249_137 (f98 hF) (by decide) (by omega) hfx ?_
                refine g_p t249_138 rfl ?_
                refine n_cne t249_140 (by omega) (by omega) (fun h140 => ?_) (fun h140 => ?_)
                · refine g_p t249_153 rfl ?_
                  refine r_getr t249_154 (f80 hF) rfl rfl ?_
                  refine g_p t249_157 rfl ?_
                  refine r_iale t249_159 (f98 hF) (by decide) (by omega) hfx ?_
                  refine g_is t249_160 (Nat.le_of_ble_eq_true rfl) (am_s1_4 rfl) ?_
                  refine g_incn (n := 1) t249_162 rfl rfl (Nat.le_of_ble_eq_true rfl) (am_s1_6 rfl) ?_
                  refine g_goto t249_165 ?_
                  first
                    | (have u0 : std P r w x = false := h67
                       exact ih ls lt _ (rdA hP5 (Or.inl u0) hok))
                    | (have u0 : sy P b x = -1 := h86
                       exact ih ls lt _ (rdA hP5 (Or.inr u0) hok))
                    | (obtain ⟨l, hl8, h9⟩ := fl h86
                       obtain ⟨i1, i2⟩ := inn h67
                       have u0 : ls < dst P r w 1000 a x := Nat.lt_of_not_le h98
                       exact ih ls lt _ (rdB hP5 a2 h67 h86 (by rw [← i1]; exact u0) hok))
                    | (obtain ⟨l, hl8, h9⟩ := fl h86
                       obtain ⟨i1, i2⟩ := inn h67
                       have u0 : dst P r w 1000 a x < ls := h113
                       rw [i1] at u0 ⊢
                       exact ih _ _ _ (rdC hP5 a2 h67 hl8 h9 u0 hok))
                    | (obtain ⟨l, hl8, h9⟩ := fl h86
                       obtain ⟨i1, i2⟩ := inn h67
                       have u0 : dst P r w 1000 a x = ls := h140
                       have u1 : lt = sy P b x := h120
                       rw [i1] at u0 ⊢
                       exact ih _ _ _ (rdD hP5 a2 h67 hl8 h9 u0 u1 hok))
                    | (obtain ⟨l, hl8, h9⟩ := fl h86
                       obtain ⟨i1, i2⟩ := inn h67
                       have u0 : dst P r w 1000 a x = ls := h140
                       have u1 : ¬ lt = sy P b x := h120
                       rw [i1] at u0 ⊢
                       exact ih _ _ _ (rdE hP5 a2 h67 hl8 h9 u0 u1 hok))
                    | (have u2 : ¬ dst P r w 1000 a x = ls := h140
                       have u0 : ¬ dst P r w 1000 a x < ls := h113
                       have u1 : dst P r w 1000 a x ≤ ls := h98
                       exfalso; omega)
                    | exact absurd rfl h86
                    | exact absurd h146 h86
                    | exact absurd rfl h146
                · refine g_p t249_143 rfl ?_
                  refine g_p t249_145 rfl ?_
                  refine g_cne t249_146 (fun h146 => ?_) (fun h146 => ?_)
                  · refine g_p t249_153 rfl ?_
                    refine r_getr t249_154 (f80 hF) rfl rfl ?_
                    refine g_p t249_157 rfl ?_
                    refine r_iale t249_159 (f98 hF) (by decide) (by omega) hfx ?_
                    refine g_is t249_160 (Nat.le_of_ble_eq_true rfl) (am_s1_4 rfl) ?_
                    refine g_incn (n := 1) t249_162 rfl rfl (Nat.le_of_ble_eq_true rfl) (am_s1_6 rfl) ?_
                    refine g_goto t249_165 ?_
                    first
                      | (have u0 : std P r w x = false := h67
                         exact ih ls lt _ (rdA hP5 (Or.inl u0) hok))
                      | (have u0 : sy P b x = -1 := h86
                         exact ih ls lt _ (rdA hP5 (Or.inr u0) hok))
                      | (obtain ⟨l, hl8, h9⟩ := fl h86
                         obtain ⟨i1, i2⟩ := inn h67
                         have u0 : ls < dst P r w 1000 a x := Nat.lt_of_not_le h98
                         exact ih ls lt _ (rdB hP5 a2 h67 h86 (by rw [← i1]; exact u0) hok))
                      | (obtain ⟨l, hl8, h9⟩ := fl h86
                         obtain ⟨i1, i2⟩ := inn h67
                         have u0 : dst P r w 1000 a x < ls := h113
                         rw [i1] at u0 ⊢
                         exact ih _ _ _ (rdC hP5 a2 h67 hl8 h9 u0 hok))
                      | (obtain ⟨l, hl8, h9⟩ := fl h86
                         obtain ⟨i1, i2⟩ := inn h67
                         have u0 : dst P r w 1000 a x = ls := h140
                         have u1 : lt = sy P b x := h120
                         rw [i1] at u0 ⊢
                         exact ih _ _ _ (rdD hP5 a2 h67 hl8 h9 u0 u1 hok))
                      | (obtain ⟨l, hl8, h9⟩ := fl h86
                         obtain ⟨i1, i2⟩ := inn h67
                         have u0 : dst P r w 1000 a x = ls := h140
                         have u1 : ¬ lt = sy P b x := h120
                         rw [i1] at u0 ⊢
                         exact ih _ _ _ (rdE hP5 a2 h67 hl8 h9 u0 u1 hok))
                      | (have u2 : ¬ dst P r w 1000 a x = ls := h140
                         have u0 : ¬ dst P r w 1000 a x < ls := h113
                         have u1 : dst P r w 1000 a x ≤ ls := h98
                         exfalso; omega)
                      | exact absurd rfl h86
                      | exact absurd h146 h86
                      | exact absurd rfl h146
                  · refine g_p t249_149 rfl ?_
                    refine g_is t249_151 (Nat.le_of_ble_eq_true rfl) (am_s1_5 rfl) ?_
                    refine g_p t249_153 rfl ?_
                    refine r_getr t249_154 (f80 hF) rfl rfl ?_
                    refine g_p t249_157 rfl ?_
                    refine r_iale t249_159 (f98 hF) (by decide) (by omega) hfx ?_
                    refine g_is t249_160 (Nat.le_of_ble_eq_true rfl) (am_s1_4 rfl) ?_
                    refine g_incn (n := 1) t249_162 rfl rfl (Nat.le_of_ble_eq_true rfl) (am_s1_6 rfl) ?_
                    refine g_goto t249_165 ?_
                    first
                      | (have u0 : std P r w x = false := h67
                         exact ih ls lt _ (rdA hP5 (Or.inl u0) hok))
                      | (have u0 : sy P b x = -1 := h86
                         exact ih ls lt _ (rdA hP5 (Or.inr u0) hok))
                      | (obtain ⟨l, hl8, h9⟩ := fl h86
                         obtain ⟨i1, i2⟩ := inn h67
                         have u0 : ls < dst P r w 1000 a x := Nat.lt_of_not_le h98
                         exact ih ls lt _ (rdB hP5 a2 h67 h86 (by rw [← i1]; exact u0) hok))
                      | (obtain ⟨l, hl8, h9⟩ := fl h86
                         obtain ⟨i1, i2⟩ := inn h67
                         have u0 : dst P r w 1000 a x < ls := h113
                         rw [i1] at u0 ⊢
                         exact ih _ _ _ (rdC hP5 a2 h67 hl8 h9 u0 hok))
                      | (obtain ⟨l, hl8, h9⟩ := fl h86
                         obtain ⟨i1, i2⟩ := inn h67
                         have u0 : dst P r w 1000 a x = ls := h140
                         have u1 : lt = sy P b x := h120
                         rw [i1] at u0 ⊢
                         exact ih _ _ _ (rdD hP5 a2 h67 hl8 h9 u0 u1 hok))
                      | (obtain ⟨l, hl8, h9⟩ := fl h86
                         obtain ⟨i1, i2⟩ := inn h67
                         have u0 : dst P r w 1000 a x = ls := h140
                         have u1 : ¬ lt = sy P b x := h120
                         rw [i1] at u0 ⊢
                         exact ih _ _ _ (rdE hP5 a2 h67 hl8 h9 u0 u1 hok))
                      | (have u2 : ¬ dst P r w 1000 a x = ls := h140
                         have u0 : ¬ dst P r w 1000 a x < ls := h113
                         have u1 : dst P r w 1000 a x ≤ ls := h98
                         exfalso; omega)
                      | exact absurd rfl h86
                      | exact absurd h146 h86
                      | exact absurd rfl h146
              · refine g_p t249_116 rfl ?_
                refine g_p t249_118 rfl ?_
                refine g_cne t249_120 (fun h120 => ?_) (fun h120 => ?_)
                · refine g_p t249_128 rfl ?_
                  refine g_is t249_129 (Nat.le_of_ble_eq_true rfl) (am_s1_5 rfl) ?_
                  refine g_p t249_131 rfl ?_
                  refine r_getr t249_132 (f80 hF) rfl rfl ?_
                  refine g_p t249_135 rfl ?_
                  refine r_iale t249_137 (f98 hF) (by decide) (by omega) hfx ?_
                  refine g_p t249_138 rfl ?_
                  refine n_cne t249_140 (by omega) (by omega) (fun h140 => ?_) (fun h140 => ?_)
                  · refine g_p t249_153 rfl ?_
                    refine r_getr t249_154 (f80 hF) rfl rfl ?_
                    refine g_p t249_157 rfl ?_
                    refine r_iale t249_159 (f98 hF) (by decide) (by omega) hfx ?_
                    refine g_is t249_160 (Nat.le_of_ble_eq_true rfl) (am_s1_4 rfl) ?_
                    refine g_incn (n := 1) t249_162 rfl rfl (Nat.le_of_ble_eq_true rfl) (am_s1_6 rfl) ?_
                    refine g_goto t249_165 ?_
                    first
                      | (have u0 : std P r w x = false := h67
                         exact ih ls lt _ (rdA hP5 (Or.inl u0) hok))
                      | (have u0 : sy P b x = -1 := h86
                         exact ih ls lt _ (rdA hP5 (Or.inr u0) hok))
                      | (obtain ⟨l, hl8, h9⟩ := fl h86
                         obtain ⟨i1, i2⟩ := inn h67
                         have u0 : ls < dst P r w 1000 a x := Nat.lt_of_not_le h98
                         exact ih ls lt _ (rdB hP5 a2 h67 h86 (by rw [← i1]; exact u0) hok))
                      | (obtain ⟨l, hl8, h9⟩ := fl h86
                         obtain ⟨i1, i2⟩ := inn h67
                         have u0 : dst P r w 1000 a x < ls := h113
                         rw [i1] at u0 ⊢
                         exact ih _ _ _ (rdC hP5 a2 h67 hl8 h9 u0 hok))
                      | (obtain ⟨l, hl8, h9⟩ := fl h86
                         obtain ⟨i1, i2⟩ := inn h67
                         have u0 : dst P r w 1000 a x = ls := h140
                         have u1 : lt = sy P b x := h120
                         rw [i1] at u0 ⊢
                         exact ih _ _ _ (rdD hP5 a2 h67 hl8 h9 u0 u1 hok))
                      | (obtain ⟨l, hl8, h9⟩ := fl h86
                         obtain ⟨i1, i2⟩ := inn h67
                         have u0 : dst P r w 1000 a x = ls := h140
                         have u1 : ¬ lt = sy P b x := h120
                         rw [i1] at u0 ⊢
                         exact ih _ _ _ (rdE hP5 a2 h67 hl8 h9 u0 u1 hok))
                      | (have u2 : ¬ dst P r w 1000 a x = ls := h140
                         have u0 : ¬ dst P r w 1000 a x < ls := h113
                         have u1 : dst P r w 1000 a x ≤ ls := h98
                         exfalso; omega)
                      | exact absurd rfl h86
                      | exact absurd h146 h86
                      | exact absurd rfl h146
                  · refine g_p t249_143 rfl ?_
                    refine g_p t249_145 rfl ?_
                    refine g_cne t249_146 (fun h146 => ?_) (fun h146 => ?_)
                    · refine g_p t249_153 rfl ?_
                      refine r_getr t249_154 (f80 hF) rfl rfl ?_
                      refine g_p t249_157 rfl ?_
                      refine r_iale t249_159 (f98 hF) (by decide) (by omega) hfx ?_
                      refine g_is t249_160 (Nat.le_of_ble_eq_true rfl) (am_s1_4 rfl) ?_
                      refine g_incn (n := 1) t249_162 rfl rfl (Nat.le_of_ble_eq_true rfl) (am_s1_6 rfl) ?_
                      refine g_goto t249_165 ?_
                      first
                        | (have u0 : std P r w x = false := h67
                           exact ih ls lt _ (rdA hP5 (Or.inl u0) hok))
                        | (have u0 : sy P b x = -1 := h86
                           exact ih ls lt _ (rdA hP5 (Or.inr u0) hok))
                        | (obtain ⟨l, hl8, h9⟩ := fl h86
                           obtain ⟨i1, i2⟩ := inn h67
                           have u0 : ls < dst P r w 1000 a x := Nat.lt_of_not_le h98
                           exact ih ls lt _ (rdB hP5 a2 h67 h86 (by rw [← i1]; exact u0) hok))
                        | (obtain ⟨l, hl8, h9⟩ := fl h86
                           obtain ⟨i1, i2⟩ := inn h67
                           have u0 : dst P r w 1000 a x < ls := h113
                           rw [i1] at u0 ⊢
                           exact ih _ _ _ (rdC hP5 a2 h67 hl8 h9 u0 hok))
                        | (obtain ⟨l, hl8, h9⟩ := fl h86
                           obtain ⟨i1, i2⟩ := inn h67
                           have u0 : dst P r w 1000 a x = ls := h140
                           have u1 : lt = sy P b x := h120
                           rw [i1] at u0 ⊢
                           exact ih _ _ _ (rdD hP5 a2 h67 hl8 h9 u0 u1 hok))
                        | (obtain ⟨l, hl8, h9⟩ := fl h86
                           obtain ⟨i1, i2⟩ := inn h67
                           have u0 : dst P r w 1000 a x = ls := h140
                           have u1 : ¬ lt = sy P b x := h120
                           rw [i1] at u0 ⊢
                           exact ih _ _ _ (rdE hP5 a2 h67 hl8 h9 u0 u1 hok))
                        | (have u2 : ¬ dst P r w 1000 a x = ls := h140
                           have u0 : ¬ dst P r w 1000 a x < ls := h113
                           have u1 : dst P r w 1000 a x ≤ ls := h98
                           exfalso; omega)
                        | exact absurd rfl h86
                        | exact absurd h146 h86
                        | exact absurd rfl h146
                    · refine g_p t249_149 rfl ?_
                      refine g_is t249_151 (Nat.le_of_ble_eq_true rfl) (am_s1_5 rfl) ?_
                      refine g_p t249_153 rfl ?_
                      refine r_getr t249_154 (f80 hF) rfl rfl ?_
                      refine g_p t249_157 rfl ?_
                      refine r_iale t249_159 (f98 hF) (by decide) (by omega) hfx ?_
                      refine g_is t249_160 (Nat.le_of_ble_eq_true rfl) (am_s1_4 rfl) ?_
                      refine g_incn (n := 1) t249_162 rfl rfl (Nat.le_of_ble_eq_true rfl) (am_s1_6 rfl) ?_
                      refine g_goto t249_165 ?_
                      first
                        | (have u0 : std P r w x = false := h67
                           exact ih ls lt _ (rdA hP5 (Or.inl u0) hok))
                        | (have u0 : sy P b x = -1 := h86
                           exact ih ls lt _ (rdA hP5 (Or.inr u0) hok))
                        | (obtain ⟨l, hl8, h9⟩ := fl h86
                           obtain ⟨i1, i2⟩ := inn h67
                           have u0 : ls < dst P r w 1000 a x := Nat.lt_of_not_le h98
                           exact ih ls lt _ (rdB hP5 a2 h67 h86 (by rw [← i1]; exact u0) hok))
                        | (obtain ⟨l, hl8, h9⟩ := fl h86
                           obtain ⟨i1, i2⟩ := inn h67
                           have u0 : dst P r w 1000 a x < ls := h113
                           rw [i1] at u0 ⊢
                           exact ih _ _ _ (rdC hP5 a2 h67 hl8 h9 u0 hok))
                        | (obtain ⟨l, hl8, h9⟩ := fl h86
                           obtain ⟨i1, i2⟩ := inn h67
                           have u0 : dst P r w 1000 a x = ls := h140
                           have u1 : lt = sy P b x := h120
                           rw [i1] at u0 ⊢
                           exact ih _ _ _ (rdD hP5 a2 h67 hl8 h9 u0 u1 hok))
                        | (obtain ⟨l, hl8, h9⟩ := fl h86
                           obtain ⟨i1, i2⟩ := inn h67
                           have u0 : dst P r w 1000 a x = ls := h140
                           have u1 : ¬ lt = sy P b x := h120
                           rw [i1] at u0 ⊢
                           exact ih _ _ _ (rdE hP5 a2 h67 hl8 h9 u0 u1 hok))
                        | (have u2 : ¬ dst P r w 1000 a x = ls := h140
                           have u0 : ¬ dst P r w 1000 a x < ls := h113
                           have u1 : dst P r w 1000 a x ≤ ls := h98
                           exfalso; omega)
                        | exact absurd rfl h86
                        | exact absurd h146 h86
                        | exact absurd rfl h146
                · refine g_p t249_123 rfl ?_
                  refine g_goto t249_125 ?_
                  refine g_is t249_129 (Nat.le_of_ble_eq_true rfl) (am_s1_5 rfl) ?_
                  refine g_p t249_131 rfl ?_
                  refine r_getr t249_132 (f80 hF) rfl rfl ?_
                  refine g_p t249_135 rfl ?_
                  refine r_iale t249_137 (f98 hF) (by decide) (by omega) hfx ?_
                  refine g_p t249_138 rfl ?_
                  refine n_cne t249_140 (by omega) (by omega) (fun h140 => ?_) (fun h140 => ?_)
                  · refine g_p t249_153 rfl ?_
                    refine r_getr t249_154 (f80 hF) rfl rfl ?_
                    refine g_p t249_157 rfl ?_
                    refine r_iale t249_159 (f98 hF) (by decide) (by omega) hfx ?_
                    refine g_is t249_160 (Nat.le_of_ble_eq_true rfl) (am_s1_4 rfl) ?_
                    refine g_incn (n := 1) t249_162 rfl rfl (Nat.le_of_ble_eq_true rfl) (am_s1_6 rfl) ?_
                    refine g_goto t249_165 ?_
                    first
                      | (have u0 : std P r w x = false := h67
                         exact ih ls lt _ (rdA hP5 (Or.inl u0) hok))
                      | (have u0 : sy P b x = -1 := h86
                         exact ih ls lt _ (rdA hP5 (Or.inr u0) hok))
                      | (obtain ⟨l, hl8, h9⟩ := fl h86
                         obtain ⟨i1, i2⟩ := inn h67
                         have u0 : ls < dst P r w 1000 a x := Nat.lt_of_not_le h98
                         exact ih ls lt _ (rdB hP5 a2 h67 h86 (by rw [← i1]; exact u0) hok))
                      | (obtain ⟨l, hl8, h9⟩ := fl h86
                         obtain ⟨i1, i2⟩ := inn h67
                         have u0 : dst P r w 1000 a x < ls := h113
                         rw [i1] at u0 ⊢
                         exact ih _ _ _ (rdC hP5 a2 h67 hl8 h9 u0 hok))
                      | (obtain ⟨l, hl8, h9⟩ := fl h86
                         obtain ⟨i1, i2⟩ := inn h67
                         have u0 : dst P r w 1000 a x = ls := h140
                         have u1 : lt = sy P b x := h120
                         rw [i1] at u0 ⊢
                         exact ih _ _ _ (rdD hP5 a2 h67 hl8 h9 u0 u1 hok))
                      | (obtain ⟨l, hl8, h9⟩ := fl h86
                         obtain ⟨i1, i2⟩ := inn h67
                         have u0 : dst P r w 1000 a x = ls := h140
                         have u1 : ¬ lt = sy P b x := h120
                         rw [i1] at u0 ⊢
                         exact ih _ _ _ (rdE hP5 a2 h67 hl8 h9 u0 u1 hok))
                      | (have u2 : ¬ dst P r w 1000 a x = ls := h140
                         have u0 : ¬ dst P r w 1000 a x < ls := h113
                         have u1 : dst P r w 1000 a x ≤ ls := h98
                         exfalso; omega)
                      | exact absurd rfl h86
                      | exact absurd h146 h86
                      | exact absurd rfl h146
                  · refine g_p t249_143 rfl ?_
                    refine g_p t249_145 rfl ?_
                    refine g_cne t249_146 (fun h146 => ?_) (fun h146 => ?_)
                    · refine g_p t249_153 rfl ?_
                      refine r_getr t249_154 (f80 hF) rfl rfl ?_
                      refine g_p t249_157 rfl ?_
                      refine r_iale t249_159 (f98 hF) (by decide) (by omega) hfx ?_
                      refine g_is t249_160 (Nat.le_of_ble_eq_true rfl) (am_s1_4 rfl) ?_
                      refine g_incn (n := 1) t249_162 rfl rfl (Nat.le_of_ble_eq_true rfl) (am_s1_6 rfl) ?_
                      refine g_goto t249_165 ?_
                      first
                        | (have u0 : std P r w x = false := h67
                           exact ih ls lt _ (rdA hP5 (Or.inl u0) hok))
                        | (have u0 : sy P b x = -1 := h86
                           exact ih ls lt _ (rdA hP5 (Or.inr u0) hok))
                        | (obtain ⟨l, hl8, h9⟩ := fl h86
                           obtain ⟨i1, i2⟩ := inn h67
                           have u0 : ls < dst P r w 1000 a x := Nat.lt_of_not_le h98
                           exact ih ls lt _ (rdB hP5 a2 h67 h86 (by rw [← i1]; exact u0) hok))
                        | (obtain ⟨l, hl8, h9⟩ := fl h86
                           obtain ⟨i1, i2⟩ := inn h67
                           have u0 : dst P r w 1000 a x < ls := h113
                           rw [i1] at u0 ⊢
                           exact ih _ _ _ (rdC hP5 a2 h67 hl8 h9 u0 hok))
                        | (obtain ⟨l, hl8, h9⟩ := fl h86
                           obtain ⟨i1, i2⟩ := inn h67
                           have u0 : dst P r w 1000 a x = ls := h140
                           have u1 : lt = sy P b x := h120
                           rw [i1] at u0 ⊢
                           exact ih _ _ _ (rdD hP5 a2 h67 hl8 h9 u0 u1 hok))
                        | (obtain ⟨l, hl8, h9⟩ := fl h86
                           obtain ⟨i1, i2⟩ := inn h67
                           have u0 : dst P r w 1000 a x = ls := h140
                           have u1 : ¬ lt = sy P b x := h120
                           rw [i1] at u0 ⊢
                           exact ih _ _ _ (rdE hP5 a2 h67 hl8 h9 u0 u1 hok))
                        | (have u2 : ¬ dst P r w 1000 a x = ls := h140
                           have u0 : ¬ dst P r w 1000 a x < ls := h113
                           have u1 : dst P r w 1000 a x ≤ ls := h98
                           exfalso; omega)
                        | exact absurd rfl h86
                        | exact absurd h146 h86
                        | exact absurd rfl h146
                    · refine g_p t249_149 rfl ?_
                      refine g_is t249_151 (Nat.le_of_ble_eq_true rfl) (am_s1_5 rfl) ?_
                      refine g_p t249_153 rfl ?_
                      refine r_getr t249_154 (f80 hF) rfl rfl ?_
                      refine g_p t249_157 rfl ?_
                      refine r_iale t249_159 (f98 hF) (by decide) (by omega) hfx ?_
                      refine g_is t249_160 (Nat.le_of_ble_eq_true rfl) (am_s1_4 rfl) ?_
                      refine g_incn (n := 1) t249_162 rfl rfl (Nat.le_of_ble_eq_true rfl) (am_s1_6 rfl) ?_
                      refine g_goto t249_165 ?_
                      first
                        | (have u0 : std P r w x = false := h67
                           exact ih ls lt _ (rdA hP5 (Or.inl u0) hok))
                        | (have u0 : sy P b x = -1 := h86
                           exact ih ls lt _ (rdA hP5 (Or.inr u0) hok))
                        | (obtain ⟨l, hl8, h9⟩ := fl h86
                           obtain ⟨i1, i2⟩ := inn h67
                           have u0 : ls < dst P r w 1000 a x := Nat.lt_of_not_le h98
                           exact ih ls lt _ (rdB hP5 a2 h67 h86 (by rw [← i1]; exact u0) hok))
                        | (obtain ⟨l, hl8, h9⟩ := fl h86
                           obtain ⟨i1, i2⟩ := inn h67
                           have u0 : dst P r w 1000 a x < ls := h113
                           rw [i1] at u0 ⊢
                           exact ih _ _ _ (rdC hP5 a2 h67 hl8 h9 u0 hok))
                        | (obtain ⟨l, hl8, h9⟩ := fl h86
                           obtain ⟨i1, i2⟩ := inn h67
                           have u0 : dst P r w 1000 a x = ls := h140
                           have u1 : lt = sy P b x := h120
                           rw [i1] at u0 ⊢
                           exact ih _ _ _ (rdD hP5 a2 h67 hl8 h9 u0 u1 hok))
                        | (obtain ⟨l, hl8, h9⟩ := fl h86
                           obtain ⟨i1, i2⟩ := inn h67
                           have u0 : dst P r w 1000 a x = ls := h140
                           have u1 : ¬ lt = sy P b x := h120
                           rw [i1] at u0 ⊢
                           exact ih _ _ _ (rdE hP5 a2 h67 hl8 h9 u0 u1 hok))
                        | (have u2 : ¬ dst P r w 1000 a x = ls := h140
                           have u0 : ¬ dst P r w 1000 a x < ls := h113
                           have u1 : dst P r w 1000 a x ≤ ls := h98
                           exfalso; omega)
                        | exact absurd rfl h86
                        | exact absurd h146 h86
                        | exact absurd rfl h146
            · refine g_goto t249_101 ?_
              refine g_incn (n := 1) t249_162 rfl rfl (Nat.le_of_ble_eq_true rfl) (am_s1_6 rfl) ?_
              refine g_goto t249_165 ?_
              first
                | (have u0 : std P r w x = false := h67
                   exact ih ls lt _ (rdA hP5 (Or.inl u0) hok))
                | (have u0 : sy P b x = -1 := h86
                   exact ih ls lt _ (rdA hP5 (Or.inr u0) hok))
                | (obtain ⟨l, hl8, h9⟩ := fl h86
                   obtain ⟨i1, i2⟩ := inn h67
                   have u0 : ls < dst P r w 1000 a x := Nat.lt_of_not_le h98
                   exact ih ls lt _ (rdB hP5 a2 h67 h86 (by rw [← i1]; exact u0) hok))
                | (obtain ⟨l, hl8, h9⟩ := fl h86
                   obtain ⟨i1, i2⟩ := inn h67
                   have u0 : dst P r w 1000 a x < ls := h113
                   rw [i1] at u0 ⊢
                   exact ih _ _ _ (rdC hP5 a2 h67 hl8 h9 u0 hok))
                | (obtain ⟨l, hl8, h9⟩ := fl h86
                   obtain ⟨i1, i2⟩ := inn h67
                   have u0 : dst P r w 1000 a x = ls := h140
                   have u1 : lt = sy P b x := h120
                   rw [i1] at u0 ⊢
                   exact ih _ _ _ (rdD hP5 a2 h67 hl8 h9 u0 u1 hok))
                | (obtain ⟨l, hl8, h9⟩ := fl h86
                   obtain ⟨i1, i2⟩ := inn h67
                   have u0 : dst P r w 1000 a x = ls := h140
                   have u1 : ¬ lt = sy P b x := h120
                   rw [i1] at u0 ⊢
                   exact ih _ _ _ (rdE hP5 a2 h67 hl8 h9 u0 u1 hok))
                | (have u2 : ¬ dst P r w 1000 a x = ls := h140
                   have u0 : ¬ dst P r w 1000 a x < ls := h113
                   have u1 : dst P r w 1000 a x ≤ ls := h98
                   exfalso; omega)
                | exact absurd rfl h86
                | exact absurd h146 h86
                | exact absurd rfl h146
        · refine g_p t249_70 rfl ?_
          refine g_p t249_71 rfl ?_
          refine g_p t249_72 rfl ?_
          refine r_cv t249_74 (f80 hF) rfl ?_
          refine c231 (by exact hF) (by exact m0) hP5 (by exact hB1) hk4 (by omega) ?_
          refine k_v ?_ rfl
          refine g_goto t249_77 ?_
          refine g_is t249_81 (Nat.le_of_ble_eq_true rfl) (am_s1_7 rfl) ?_
          refine g_p t249_83 rfl ?_
          refine g_p t249_85 rfl ?_
          refine g_ceq t249_86 (fun h86 => ?_) (fun h86 => ?_)
          · refine g_incn (n := 1) t249_162 rfl rfl (Nat.le_of_ble_eq_true rfl) (am_s1_6 rfl) ?_
            refine g_goto t249_165 ?_
            first
              | (have u0 : std P r w x = false := h67
                 exact ih ls lt _ (rdA hP5 (Or.inl u0) hok))
              | (have u0 : sy P b x = -1 := h86
                 exact ih ls lt _ (rdA hP5 (Or.inr u0) hok))
              | (obtain ⟨l, hl8, h9⟩ := fl h86
                 obtain ⟨i1, i2⟩ := inn h67
                 have u0 : ls < dst P r w 1000 a x := Nat.lt_of_not_le h98
                 exact ih ls lt _ (rdB hP5 a2 h67 h86 (by rw [← i1]; exact u0) hok))
              | (obtain ⟨l, hl8, h9⟩ := fl h86
                 obtain ⟨i1, i2⟩ := inn h67
                 have u0 : dst P r w 1000 a x < ls := h113
                 rw [i1] at u0 ⊢
                 exact ih _ _ _ (rdC hP5 a2 h67 hl8 h9 u0 hok))
              | (obtain ⟨l, hl8, h9⟩ := fl h86
                 obtain ⟨i1, i2⟩ := inn h67
                 have u0 : dst P r w 1000 a x = ls := h140
                 have u1 : lt = sy P b x := h120
                 rw [i1] at u0 ⊢
                 exact ih _ _ _ (rdD hP5 a2 h67 hl8 h9 u0 u1 hok))
              | (obtain ⟨l, hl8, h9⟩ := fl h86
                 obtain ⟨i1, i2⟩ := inn h67
                 have u0 : dst P r w 1000 a x = ls := h140
                 have u1 : ¬ lt = sy P b x := h120
                 rw [i1] at u0 ⊢
                 exact ih _ _ _ (rdE hP5 a2 h67 hl8 h9 u0 u1 hok))
              | (have u2 : ¬ dst P r w 1000 a x = ls := h140
                 have u0 : ¬ dst P r w 1000 a x < ls := h113
                 have u1 : dst P r w 1000 a x ≤ ls := h98
                 exfalso; omega)
              | exact absurd rfl h86
              | exact absurd h146 h86
              | exact absurd rfl h146
          · refine g_p t249_89 rfl ?_
            refine r_getr t249_90 (f80 hF) rfl rfl ?_
            refine g_p t249_93 rfl ?_
            refine r_iale t249_95 (f98 hF) (by decide) (by omega) hfx ?_
            refine g_p t249_96 rfl ?_
            refine n_cle t249_98 (by omega) (by omega) (fun h98 => ?_) (fun h98 => ?_)
            · refine g_p t249_104 rfl ?_
              refine r_getr t249_105 (f80 hF) rfl rfl ?_
              refine g_p t249_108 rfl ?_
              refine r_iale t249_110 (f98 hF) (by decide) (by omega) hfx ?_
              refine g_p t249_111 rfl ?_
              refine n_clt t249_113 (by omega) (by omega) (fun h113 => ?_) (fun h113 => ?_)
              · refine g_p t249_123 rfl ?_
                refine g_goto t249_125 ?_
                refine g_is t249_129 (Nat.le_of_ble_eq_true rfl) (am_s1_5 rfl) ?_
                refine g_p t249_131 rfl ?_
                refine r_getr t249_132 (f80 hF) rfl rfl ?_
                refine g_p t249_135 rfl ?_
                refine r_iale t249_137 (f98 hF) (by decide) (by omega) hfx ?_
                refine g_p t249_138 rfl ?_
                refine n_cne t249_140 (by omega) (by omega) (fun h140 => ?_) (fun h140 => ?_)
                · refine g_p t249_153 rfl ?_
                  refine r_getr t249_154 (f80 hF) rfl rfl ?_
                  refine g_p t249_157 rfl ?_
                  refine r_iale t249_159 (f98 hF) (by decide) (by omega) hfx ?_
                  refine g_is t249_160 (Nat.le_of_ble_eq_true rfl) (am_s1_4 rfl) ?_
                  refine g_incn (n := 1) t249_162 rfl rfl (Nat.le_of_ble_eq_true rfl) (am_s1_6 rfl) ?_
                  refine g_goto t249_165 ?_
                  first
                    | (have u0 : std P r w x = false := h67
                       exact ih ls lt _ (rdA hP5 (Or.inl u0) hok))
                    | (have u0 : sy P b x = -1 := h86
                       exact ih ls lt _ (rdA hP5 (Or.inr u0) hok))
                    | (obtain ⟨l, hl8, h9⟩ := fl h86
                       obtain ⟨i1, i2⟩ := inn h67
                       have u0 : ls < dst P r w 1000 a x := Nat.lt_of_not_le h98
                       exact ih ls lt _ (rdB hP5 a2 h67 h86 (by rw [← i1]; exact u0) hok))
                    | (obtain ⟨l, hl8, h9⟩ := fl h86
                       obtain ⟨i1, i2⟩ := inn h67
                       have u0 : dst P r w 1000 a x < ls := h113
                       rw [i1] at u0 ⊢
                       exact ih _ _ _ (rdC hP5 a2 h67 hl8 h9 u0 hok))
                    | (obtain ⟨l, hl8, h9⟩ := fl h86
                       obtain ⟨i1, i2⟩ := inn h67
                       have u0 : dst P r w 1000 a x = ls := h140
                       have u1 : lt = sy P b x := h120
                       rw [i1] at u0 ⊢
                       exact ih _ _ _ (rdD hP5 a2 h67 hl8 h9 u0 u1 hok))
                    | (obtain ⟨l, hl8, h9⟩ := fl h86
                       obtain ⟨i1, i2⟩ := inn h67
                       have u0 : dst P r w 1000 a x = ls := h140
                       have u1 : ¬ lt = sy P b x := h120
                       rw [i1] at u0 ⊢
                       exact ih _ _ _ (rdE hP5 a2 h67 hl8 h9 u0 u1 hok))
                    | (have u2 : ¬ dst P r w 1000 a x = ls := h140
                       have u0 : ¬ dst P r w 1000 a x < ls := h113
                       have u1 : dst P r w 1000 a x ≤ ls := h98
                       exfalso; omega)
                    | exact absurd rfl h86
                    | exact absurd h146 h86
                    | exact absurd rfl h146
                · refine g_p t249_143 rfl ?_
                  refine g_p t249_145 rfl ?_
                  refine g_cne t249_146 (fun h146 => ?_) (fun h146 => ?_)
                  · refine g_p t249_153 rfl ?_
                    refine r_getr t249_154 (f80 hF) rfl rfl ?_
                    refine g_p t249_157 rfl ?_
                    refine r_iale t249_159 (f98 hF) (by decide) (by omega) hfx ?_
                    refine g_is t249_160 (Nat.le_of_ble_eq_true rfl) (am_s1_4 rfl) ?_
                    refine g_incn (n := 1) t249_162 rfl rfl (Nat.le_of_ble_eq_true rfl) (am_s1_6 rfl) ?_
                    refine g_goto t249_165 ?_
                    first
                      | (have u0 : std P r w x = false := h67
                         exact ih ls lt _ (rdA hP5 (Or.inl u0) hok))
                      | (have u0 : sy P b x = -1 := h86
                         exact ih ls lt _ (rdA hP5 (Or.inr u0) hok))
                      | (obtain ⟨l, hl8, h9⟩ := fl h86
                         obtain ⟨i1, i2⟩ := inn h67
                         have u0 : ls < dst P r w 1000 a x := Nat.lt_of_not_le h98
                         exact ih ls lt _ (rdB hP5 a2 h67 h86 (by rw [← i1]; exact u0) hok))
                      | (obtain ⟨l, hl8, h9⟩ := fl h86
                         obtain ⟨i1, i2⟩ := inn h67
                         have u0 : dst P r w 1000 a x < ls := h113
                         rw [i1] at u0 ⊢
                         exact ih _ _ _ (rdC hP5 a2 h67 hl8 h9 u0 hok))
                      | (obtain ⟨l, hl8, h9⟩ := fl h86
                         obtain ⟨i1, i2⟩ := inn h67
                         have u0 : dst P r w 1000 a x = ls := h140
                         have u1 : lt = sy P b x := h120
                         rw [i1] at u0 ⊢
                         exact ih _ _ _ (rdD hP5 a2 h67 hl8 h9 u0 u1 hok))
                      | (obtain ⟨l, hl8, h9⟩ := fl h86
                         obtain ⟨i1, i2⟩ := inn h67
                         have u0 : dst P r w 1000 a x = ls := h140
                         have u1 : ¬ lt = sy P b x := h120
                         rw [i1] at u0 ⊢
                         exact ih _ _ _ (rdE hP5 a2 h67 hl8 h9 u0 u1 hok))
                      | (have u2 : ¬ dst P r w 1000 a x = ls := h140
                         have u0 : ¬ dst P r w 1000 a x < ls := h113
                         have u1 : dst P r w 1000 a x ≤ ls := h98
                         exfalso; omega)
                      | exact absurd rfl h86
                      | exact absurd h146 h86
                      | exact absurd rfl h146
                  · refine g_p t249_149 rfl ?_
                    refine g_is t249_151 (Nat.le_of_ble_eq_true rfl) (am_s1_5 rfl) ?_
                    refine g_p t249_153 rfl ?_
                    refine r_getr t249_154 (f80 hF) rfl rfl ?_
                    refine g_p t249_157 rfl ?_
                    refine r_iale t249_159 (f98 hF) (by decide) (by omega) hfx ?_
                    refine g_is t249_160 (Nat.le_of_ble_eq_true rfl) (am_s1_4 rfl) ?_
                    refine g_incn (n := 1) t249_162 rfl rfl (Nat.le_of_ble_eq_true rfl) (am_s1_6 rfl) ?_
                    refine g_goto t249_165 ?_
                    first
                      | (have u0 : std P r w x = false := h67
                         exact ih ls lt _ (rdA hP5 (Or.inl u0) hok))
                      | (have u0 : sy P b x = -1 := h86
                         exact ih ls lt _ (rdA hP5 (Or.inr u0) hok))
                      | (obtain ⟨l, hl8, h9⟩ := fl h86
                         obtain ⟨i1, i2⟩ := inn h67
                         have u0 : ls < dst P r w 1000 a x := Nat.lt_of_not_le h98
                         exact ih ls lt _ (rdB hP5 a2 h67 h86 (by rw [← i1]; exact u0) hok))
                      | (obtain ⟨l, hl8, h9⟩ := fl h86
                         obtain ⟨i1, i2⟩ := inn h67
                         have u0 : dst P r w 1000 a x < ls := h113
                         rw [i1] at u0 ⊢
                         exact ih _ _ _ (rdC hP5 a2 h67 hl8 h9 u0 hok))
                      | (obtain ⟨l, hl8, h9⟩ := fl h86
                         obtain ⟨i1, i2⟩ := inn h67
                         have u0 : dst P r w 1000 a x = ls := h140
                         have u1 : lt = sy P b x := h120
                         rw [i1] at u0 ⊢
                         exact ih _ _ _ (rdD hP5 a2 h67 hl8 h9 u0 u1 hok))
                      | (obtain ⟨l, hl8, h9⟩ := fl h86
                         obtain ⟨i1, i2⟩ := inn h67
                         have u0 : dst P r w 1000 a x = ls := h140
                         have u1 : ¬ lt = sy P b x := h120
                         rw [i1] at u0 ⊢
                         exact ih _ _ _ (rdE hP5 a2 h67 hl8 h9 u0 u1 hok))
                      | (have u2 : ¬ dst P r w 1000 a x = ls := h140
                         have u0 : ¬ dst P r w 1000 a x < ls := h113
                         have u1 : dst P r w 1000 a x ≤ ls := h98
                         exfalso; omega)
                      | exact absurd rfl h86
                      | exact absurd h146 h86
                      | exact absurd rfl h146
              · refine g_p t249_116 rfl ?_
                refine g_p t249_118 rfl ?_
                refine g_cne t249_120 (fun h120 => ?_) (fun h120 => ?_)
                · refine g_p t249_128 rfl ?_
                  refine g_is t249_129 (Nat.le_of_ble_eq_true rfl) (am_s1_5 rfl) ?_
                  refine g_p t249_131 rfl ?_
                  refine r_getr t249_132 (f80 hF) rfl rfl ?_
                  refine g_p t249_135 rfl ?_
                  refine r_iale t249_137 (f98 hF) (by decide) (by omega) hfx ?_
                  refine g_p t249_138 rfl ?_
                  refine n_cne t249_140 (by omega) (by omega) (fun h140 => ?_) (fun h140 => ?_)
                  · refine g_p t249_153 rfl ?_
                    refine r_getr t249_154 (f80 hF) rfl rfl ?_
                    refine g_p t249_157 rfl ?_
                    refine r_iale t249_159 (f98 hF) (by decide) (by omega) hfx ?_
                    refine g_is t249_160 (Nat.le_of_ble_eq_true rfl) (am_s1_4 rfl) ?_
                    refine g_incn (n := 1) t249_162 rfl rfl (Nat.le_of_ble_eq_true rfl) (am_s1_6 rfl) ?_
                    refine g_goto t249_165 ?_
                    first
                      | (have u0 : std P r w x = false := h67
                         exact ih ls lt _ (rdA hP5 (Or.inl u0) hok))
                      | (have u0 : sy P b x = -1 := h86
                         exact ih ls lt _ (rdA hP5 (Or.inr u0) hok))
                      | (obtain ⟨l, hl8, h9⟩ := fl h86
                         obtain ⟨i1, i2⟩ := inn h67
                         have u0 : ls < dst P r w 1000 a x := Nat.lt_of_not_le h98
                         exact ih ls lt _ (rdB hP5 a2 h67 h86 (by rw [← i1]; exact u0) hok))
                      | (obtain ⟨l, hl8, h9⟩ := fl h86
                         obtain ⟨i1, i2⟩ := inn h67
                         have u0 : dst P r w 1000 a x < ls := h113
                         rw [i1] at u0 ⊢
                         exact ih _ _ _ (rdC hP5 a2 h67 hl8 h9 u0 hok))
                      | (obtain ⟨l, hl8, h9⟩ := fl h86
                         obtain ⟨i1, i2⟩ := inn h67
                         have u0 : dst P r w 1000 a x = ls := h140
                         have u1 : lt = sy P b x := h120
                         rw [i1] at u0 ⊢
                         exact ih _ _ _ (rdD hP5 a2 h67 hl8 h9 u0 u1 hok))
                      | (obtain ⟨l, hl8, h9⟩ := fl h86
                         obtain ⟨i1, i2⟩ := inn h67
                         have u0 : dst P r w 1000 a x = ls := h140
                         have u1 : ¬ lt = sy P b x := h120
                         rw [i1] at u0 ⊢
                         exact ih _ _ _ (rdE hP5 a2 h67 hl8 h9 u0 u1 hok))
                      | (have u2 : ¬ dst P r w 1000 a x = ls := h140
                         have u0 : ¬ dst P r w 1000 a x < ls := h113
                         have u1 : dst P r w 1000 a x ≤ ls := h98
                         exfalso; omega)
                      | exact absurd rfl h86
                      | exact absurd h146 h86
                      | exact absurd rfl h146
                  · refine g_p t249_143 rfl ?_
                    refine g_p t249_145 rfl ?_
                    refine g_cne t249_146 (fun h146 => ?_) (fun h146 => ?_)
                    · refine g_p t249_153 rfl ?_
                      refine r_getr t249_154 (f80 hF) rfl rfl ?_
                      refine g_p t249_157 rfl ?_
                      refine r_iale t249_159 (f98 hF) (by decide) (by omega) hfx ?_
                      refine g_is t249_160 (Nat.le_of_ble_eq_true rfl) (am_s1_4 rfl) ?_
                      refine g_incn (n := 1) t249_162 rfl rfl (Nat.le_of_ble_eq_true rfl) (am_s1_6 rfl) ?_
                      refine g_goto t249_165 ?_
                      first
                        | (have u0 : std P r w x = false := h67
                           exact ih ls lt _ (rdA hP5 (Or.inl u0) hok))
                        | (have u0 : sy P b x = -1 := h86
                           exact ih ls lt _ (rdA hP5 (Or.inr u0) hok))
                        | (obtain ⟨l, hl8, h9⟩ := fl h86
                           obtain ⟨i1, i2⟩ := inn h67
                           have u0 : ls < dst P r w 1000 a x := Nat.lt_of_not_le h98
                           exact ih ls lt _ (rdB hP5 a2 h67 h86 (by rw [← i1]; exact u0) hok))
                        | (obtain ⟨l, hl8, h9⟩ := fl h86
                           obtain ⟨i1, i2⟩ := inn h67
                           have u0 : dst P r w 1000 a x < ls := h113
                           rw [i1] at u0 ⊢
                           exact ih _ _ _ (rdC hP5 a2 h67 hl8 h9 u0 hok))
                        | (obtain ⟨l, hl8, h9⟩ := fl h86
                           obtain ⟨i1, i2⟩ := inn h67
                           have u0 : dst P r w 1000 a x = ls := h140
                           have u1 : lt = sy P b x := h120
                           rw [i1] at u0 ⊢
                           exact ih _ _ _ (rdD hP5 a2 h67 hl8 h9 u0 u1 hok))
                        | (obtain ⟨l, hl8, h9⟩ := fl h86
                           obtain ⟨i1, i2⟩ := inn h67
                           have u0 : dst P r w 1000 a x = ls := h140
                           have u1 : ¬ lt = sy P b x := h120
                           rw [i1] at u0 ⊢
                           exact ih _ _ _ (rdE hP5 a2 h67 hl8 h9 u0 u1 hok))
                        | (have u2 : ¬ dst P r w 1000 a x = ls := h140
                           have u0 : ¬ dst P r w 1000 a x < ls := h113
                           have u1 : dst P r w 1000 a x ≤ ls := h98
                           exfalso; omega)
                        | exact absurd rfl h86
                        | exact absurd h146 h86
                        | exact absurd rfl h146
                    · refine g_p t249_149 rfl ?_
                      refine g_is t249_151 (Nat.le_of_ble_eq_true rfl) (am_s1_5 rfl) ?_
                      refine g_p t249_153 rfl ?_
                      refine r_getr t249_154 (f80 hF) rfl rfl ?_
                      refine g_p t249_157 rfl ?_
                      refine r_iale t249_159 (f98 hF) (by decide) (by omega) hfx ?_
                      refine g_is t249_160 (Nat.le_of_ble_eq_true rfl) (am_s1_4 rfl) ?_
                      refine g_incn (n := 1) t249_162 rfl rfl (Nat.le_of_ble_eq_true rfl) (am_s1_6 rfl) ?_
                      refine g_goto t249_165 ?_
                      first
                        | (have u0 : std P r w x = false := h67
                           exact ih ls lt _ (rdA hP5 (Or.inl u0) hok))
                        | (have u0 : sy P b x = -1 := h86
                           exact ih ls lt _ (rdA hP5 (Or.inr u0) hok))
                        | (obtain ⟨l, hl8, h9⟩ := fl h86
                           obtain ⟨i1, i2⟩ := inn h67
                           have u0 : ls < dst P r w 1000 a x := Nat.lt_of_not_le h98
                           exact ih ls lt _ (rdB hP5 a2 h67 h86 (by rw [← i1]; exact u0) hok))
                        | (obtain ⟨l, hl8, h9⟩ := fl h86
                           obtain ⟨i1, i2⟩ := inn h67
                           have u0 : dst P r w 1000 a x < ls := h113
                           rw [i1] at u0 ⊢
                           exact ih _ _ _ (rdC hP5 a2 h67 hl8 h9 u0 hok))
                        | (obtain ⟨l, hl8, h9⟩ := fl h86
                           obtain ⟨i1, i2⟩ := inn h67
                           have u0 : dst P r w 1000 a x = ls := h140
                           have u1 : lt = sy P b x := h120
                           rw [i1] at u0 ⊢
                           exact ih _ _ _ (rdD hP5 a2 h67 hl8 h9 u0 u1 hok))
                        | (obtain ⟨l, hl8, h9⟩ := fl h86
                           obtain ⟨i1, i2⟩ := inn h67
                           have u0 : dst P r w 1000 a x = ls := h140
                           have u1 : ¬ lt = sy P b x := h120
                           rw [i1] at u0 ⊢
                           exact ih _ _ _ (rdE hP5 a2 h67 hl8 h9 u0 u1 hok))
                        | (have u2 : ¬ dst P r w 1000 a x = ls := h140
                           have u0 : ¬ dst P r w 1000 a x < ls := h113
                           have u1 : dst P r w 1000 a x ≤ ls := h98
                           exfalso; omega)
                        | exact absurd rfl h86
                        | exact absurd h146 h86
                        | exact absurd rfl h146
                · refine g_p t249_123 rfl ?_
                  refine g_goto t249_125 ?_
                  refine g_is t249_129 (Nat.le_of_ble_eq_true rfl) (am_s1_5 rfl) ?_
                  refine g_p t249_131 rfl ?_
                  refine r_getr t249_132 (f80 hF) rfl rfl ?_
                  refine g_p t249_135 rfl ?_
                  refine r_iale t249_137 (f98 hF) (by decide) (by omega) hfx ?_
                  refine g_p t249_138 rfl ?_
                  refine n_cne t249_140 (by omega) (by omega) (fun h140 => ?_) (fun h140 => ?_)
                  · refine g_p t249_153 rfl ?_
                    refine r_getr t249_154 (f80 hF) rfl rfl ?_
                    refine g_p t249_157 rfl ?_
                    refine r_iale t249_159 (f98 hF) (by decide) (by omega) hfx ?_
                    refine g_is t249_160 (Nat.le_of_ble_eq_true rfl) (am_s1_4 rfl) ?_
                    refine g_incn (n := 1) t249_162 rfl rfl (Nat.le_of_ble_eq_true rfl) (am_s1_6 rfl) ?_
                    refine g_goto t249_165 ?_
                    first
                      | (have u0 : std P r w x = false := h67
                         exact ih ls lt _ (rdA hP5 (Or.inl u0) hok))
                      | (have u0 : sy P b x = -1 := h86
                         exact ih ls lt _ (rdA hP5 (Or.inr u0) hok))
                      | (obtain ⟨l, hl8, h9⟩ := fl h86
                         obtain ⟨i1, i2⟩ := inn h67
                         have u0 : ls < dst P r w 1000 a x := Nat.lt_of_not_le h98
                         exact ih ls lt _ (rdB hP5 a2 h67 h86 (by rw [← i1]; exact u0) hok))
                      | (obtain ⟨l, hl8, h9⟩ := fl h86
                         obtain ⟨i1, i2⟩ := inn h67
                         have u0 : dst P r w 1000 a x < ls := h113
                         rw [i1] at u0 ⊢
                         exact ih _ _ _ (rdC hP5 a2 h67 hl8 h9 u0 hok))
                      | (obtain ⟨l, hl8, h9⟩ := fl h86
                         obtain ⟨i1, i2⟩ := inn h67
                         have u0 : dst P r w 1000 a x = ls := h140
                         have u1 : lt = sy P b x := h120
                         rw [i1] at u0 ⊢
                         exact ih _ _ _ (rdD hP5 a2 h67 hl8 h9 u0 u1 hok))
                      | (obtain ⟨l, hl8, h9⟩ := fl h86
                         obtain ⟨i1, i2⟩ := inn h67
                         have u0 : dst P r w 1000 a x = ls := h140
                         have u1 : ¬ lt = sy P b x := h120
                         rw [i1] at u0 ⊢
                         exact ih _ _ _ (rdE hP5 a2 h67 hl8 h9 u0 u1 hok))
                      | (have u2 : ¬ dst P r w 1000 a x = ls := h140
                         have u0 : ¬ dst P r w 1000 a x < ls := h113
                         have u1 : dst P r w 1000 a x ≤ ls := h98
                         exfalso; omega)
                      | exact absurd rfl h86
                      | exact absurd h146 h86
                      | exact absurd rfl h146
                  · refine g_p t249_143 rfl ?_
                    refine g_p t249_145 rfl ?_
                    refine g_cne t249_146 (fun h146 => ?_) (fun h146 => ?_)
                    · refine g_p t249_153 rfl ?_
                      refine r_getr t249_154 (f80 hF) rfl rfl ?_
                      refine g_p t249_157 rfl ?_
                      refine r_iale t249_159 (f98 hF) (by decide) (by omega) hfx ?_
                      refine g_is t249_160 (Nat.le_of_ble_eq_true rfl) (am_s1_4 rfl) ?_
                      refine g_incn (n := 1) t249_162 rfl rfl (Nat.le_of_ble_eq_true rfl) (am_s1_6 rfl) ?_
                      refine g_goto t249_165 ?_
                      first
                        | (have u0 : std P r w x = false := h67
                           exact ih ls lt _ (rdA hP5 (Or.inl u0) hok))
                        | (have u0 : sy P b x = -1 := h86
                           exact ih ls lt _ (rdA hP5 (Or.inr u0) hok))
                        | (obtain ⟨l, hl8, h9⟩ := fl h86
                           obtain ⟨i1, i2⟩ := inn h67
                           have u0 : ls < dst P r w 1000 a x := Nat.lt_of_not_le h98
                           exact ih ls lt _ (rdB hP5 a2 h67 h86 (by rw [← i1]; exact u0) hok))
                        | (obtain ⟨l, hl8, h9⟩ := fl h86
                           obtain ⟨i1, i2⟩ := inn h67
                           have u0 : dst P r w 1000 a x < ls := h113
                           rw [i1] at u0 ⊢
                           exact ih _ _ _ (rdC hP5 a2 h67 hl8 h9 u0 hok))
                        | (obtain ⟨l, hl8, h9⟩ := fl h86
                           obtain ⟨i1, i2⟩ := inn h67
                           have u0 : dst P r w 1000 a x = ls := h140
                           have u1 : lt = sy P b x := h120
                           rw [i1] at u0 ⊢
                           exact ih _ _ _ (rdD hP5 a2 h67 hl8 h9 u0 u1 hok))
                        | (obtain ⟨l, hl8, h9⟩ := fl h86
                           obtain ⟨i1, i2⟩ := inn h67
                           have u0 : dst P r w 1000 a x = ls := h140
                           have u1 : ¬ lt = sy P b x := h120
                           rw [i1] at u0 ⊢
                           exact ih _ _ _ (rdE hP5 a2 h67 hl8 h9 u0 u1 hok))
                        | (have u2 : ¬ dst P r w 1000 a x = ls := h140
                           have u0 : ¬ dst P r w 1000 a x < ls := h113
                           have u1 : dst P r w 1000 a x ≤ ls := h98
                           exfalso; omega)
                        | exact absurd rfl h86
                        | exact absurd h146 h86
                        | exact absurd rfl h146
                    · refine g_p t249_149 rfl ?_
                      refine g_is t249_151 (Nat.le_of_ble_eq_true rfl) (am_s1_5 rfl) ?_
                      refine g_p t249_153 rfl ?_
                      refine r_getr t249_154 (f80 hF) rfl rfl ?_
                      refine g_p t249_157 rfl ?_
                      refine r_iale t249_159 (f98 hF) (by decide) (by omega) hfx ?_
                      refine g_is t249_160 (Nat.le_of_ble_eq_true rfl) (am_s1_4 rfl) ?_
                      refine g_incn (n := 1) t249_162 rfl rfl (Nat.le_of_ble_eq_true rfl) (am_s1_6 rfl) ?_
                      refine g_goto t249_165 ?_
                      first
                        | (have u0 : std P r w x = false := h67
                           exact ih ls lt _ (rdA hP5 (Or.inl u0) hok))
                        | (have u0 : sy P b x = -1 := h86
                           exact ih ls lt _ (rdA hP5 (Or.inr u0) hok))
                        | (obtain ⟨l, hl8, h9⟩ := fl h86
                           obtain ⟨i1, i2⟩ := inn h67
                           have u0 : ls < dst P r w 1000 a x := Nat.lt_of_not_le h98
                           exact ih ls lt _ (rdB hP5 a2 h67 h86 (by rw [← i1]; exact u0) hok))
                        | (obtain ⟨l, hl8, h9⟩ := fl h86
                           obtain ⟨i1, i2⟩ := inn h67
                           have u0 : dst P r w 1000 a x < ls := h113
                           rw [i1] at u0 ⊢
                           exact ih _ _ _ (rdC hP5 a2 h67 hl8 h9 u0 hok))
                        | (obtain ⟨l, hl8, h9⟩ := fl h86
                           obtain ⟨i1, i2⟩ := inn h67
                           have u0 : dst P r w 1000 a x = ls := h140
                           have u1 : lt = sy P b x := h120
                           rw [i1] at u0 ⊢
                           exact ih _ _ _ (rdD hP5 a2 h67 hl8 h9 u0 u1 hok))
                        | (obtain ⟨l, hl8, h9⟩ := fl h86
                           obtain ⟨i1, i2⟩ := inn h67
                           have u0 : dst P r w 1000 a x = ls := h140
                           have u1 : ¬ lt = sy P b x := h120
                           rw [i1] at u0 ⊢
                           exact ih _ _ _ (rdE hP5 a2 h67 hl8 h9 u0 u1 hok))
                        | (have u2 : ¬ dst P r w 1000 a x = ls := h140
                           have u0 : ¬ dst P r w 1000 a x < ls := h113
                           have u1 : dst P r w 1000 a x ≤ ls := h98
                           exfalso; omega)
                        | exact absurd rfl h86
                        | exact absurd h146 h86
                        | exact absurd rfl h146
            · refine g_goto t249_101 ?_
              refine g_incn (n := 1) t249_162 rfl rfl (Nat.le_of_ble_eq_true rfl) (am_s1_6 rfl) ?_
              refine g_goto t249_165 ?_
              first
                | (have u0 : std P r w x = false := h67
                   exact ih ls lt _ (rdA hP5 (Or.inl u0) hok))
                | (have u0 : sy P b x = -1 := h86
                   exact ih ls lt _ (rdA hP5 (Or.inr u0) hok))
                | (obtain ⟨l, hl8, h9⟩ := fl h86
                   obtain ⟨i1, i2⟩ := inn h67
                   have u0 : ls < dst P r w 1000 a x := Nat.lt_of_not_le h98
                   exact ih ls lt _ (rdB hP5 a2 h67 h86 (by rw [← i1]; exact u0) hok))
                | (obtain ⟨l, hl8, h9⟩ := fl h86
                   obtain ⟨i1, i2⟩ := inn h67
                   have u0 : dst P r w 1000 a x < ls := h113
                   rw [i1] at u0 ⊢
                   exact ih _ _ _ (rdC hP5 a2 h67 hl8 h9 u0 hok))
                | (obtain ⟨l, hl8, h9⟩ := fl h86
                   obtain ⟨i1, i2⟩ := inn h67
                   have u0 : dst P r w 1000 a x = ls := h140
                   have u1 : lt = sy P b x := h120
                   rw [i1] at u0 ⊢
                   exact ih _ _ _ (rdD hP5 a2 h67 hl8 h9 u0 u1 hok))
                | (obtain ⟨l, hl8, h9⟩ := fl h86
                   obtain ⟨i1, i2⟩ := inn h67
                   have u0 : dst P r w 1000 a x = ls := h140
                   have u1 : ¬ lt = sy P b x := h120
                   rw [i1] at u0 ⊢
                   exact ih _ _ _ (rdE hP5 a2 h67 hl8 h9 u0 u1 hok))
                | (have u2 : ¬ dst P r w 1000 a x = ls := h140
                   have u0 : ¬ dst P r w 1000 a x < ls := h113
                   have u1 : dst P r w 1000 a x ≤ ls := h98
                   exfalso; omega)
                | exact absurd rfl h86
                | exact absurd h146 h86
                | exact absurd rfl h146
  refine en249 rfl rfl rfl ?_
  refine g_p t249_0 rfl ?_
  refine g_k (n := 0) t249_1 rfl rfl ?_
  refine r_puti t249_2 (f80 hF) rfl rfl ?_
  refine g_p t249_5 rfl ?_
  refine g_p t249_6 rfl ?_
  refine r_cv t249_7 (f80 hF) rfl ?_
  refine c216 (by exact hF) (by exact m0) hP5 ?_
  refine k_v ?_ rfl
  rw [a1]
  refine g_isn t249_10 (Nat.le_of_ble_eq_true rfl) (am_s1_3 rfl) ?_
  refine g_p t249_11 rfl ?_
  refine g_p t249_12 rfl ?_
  refine r_cv t249_13 (f80 hF) rfl ?_
  refine c218B (by exact hF) (by exact m0) hP5 (by exact hM) ?_
  refine k_v ?_ rfl
  rw [hg]
  refine b_eq t249_16 (fun h16 => ?_) (fun h16 => ?_)
  · first
      | (have u0 : (some b).isSome = false := h16
         exact absurd u0 (by simp))
      | exact absurd h21 (nI_m1 (by omega))
      | exact no_b a2 h29
  · refine g_p t249_19 rfl ?_
    refine g_p t249_20 rfl ?_
    refine g_ceq t249_21 (fun h21 => ?_) (fun h21 => ?_)
    · first
        | (have u0 : (some b).isSome = false := h16
           exact absurd u0 (by simp))
        | exact absurd h21 (nI_m1 (by omega))
        | exact no_b a2 h29
    · refine g_p t249_24 rfl ?_
      refine g_p t249_25 rfl ?_
      refine r_cv t249_26 (f80 hF) rfl ?_
      refine c214 (by exact hF) (by exact m0) hP5 (by exact p1) (by exact p2) hr5 hw5 (by omega) ?_
      refine k_v ?_ rfl
      refine b_ne t249_29 (fun h29 => ?_) (fun h29 => ?_)
      · refine g_p t249_36 rfl ?_
        refine g_p t249_37 rfl ?_
        refine r_cv t249_38 (f80 hF) rfl ?_
        refine c234n (by exact hF) hP5 (by exact m0) (by exact p1) (by exact p2) hr5 hw5 a2 (by exact e43) (fun s1 f1 hd => ?_)
        refine k_0 ?_
        have hF := Fx.fr (by exact hF) f1.1
        have m0 := (f1.f (i := 20) (by decide)).trans m0
        have e33 := (f1.f (i := 33) (by decide)).trans e33
        have e35 := (f1.f (i := 35) (by decide)).trans e35
        have e34 := (f1.f (i := 34) (by decide)).trans e34
        have e21 := (f1.f (i := 21) (by decide)).trans e21
        have p1 := (f1.g (p := 85) (i := 1) (by decide)).trans p1
        have p2 := (f1.g (p := 85) (i := 2) (by decide)).trans p2
        have e43 := (f1.f (i := 43) (by decide)).trans e43
        refine g_k (n := 1000) t249_41 rfl rfl ?_
        refine g_is t249_44 (Nat.le_of_ble_eq_true rfl) (am_s1_4 rfl) ?_
        refine g_p t249_46 rfl ?_
        refine g_is t249_47 (Nat.le_of_ble_eq_true rfl) (am_s1_5 rfl) ?_
        refine g_k (n := 0) t249_49 rfl rfl ?_
        refine g_is t249_50 (Nat.le_of_ble_eq_true rfl) (am_s1_6 rfl) ?_
        exact K s1 hF ((FM.rf.m (by decide)).tr (f1.mono (by decide) (by decide))) m0 p1 p2 (MB1.fm (A := 80 :: fA) (B := nB) (s := wi s 80 0 (nI 0)) (by exact hB1) f1.1 (by decide) (by decide) (by decide) (by decide)) hd (mn P) 0 1000 (-1) _ (by omega) (Or.inl ⟨rfl, rfl, rfl⟩)
      · first
          | (have u0 : (some b).isSome = false := h16
             exact absurd u0 (by simp))
          | exact absurd h21 (nI_m1 (by omega))
          | exact no_b a2 h29
theorem c249f (hF : Fx s) (hP5 : P ≤ 5) (hW : MW P r w pd row day left s) (hr5 : r ≤ 5) (hw5 : w ≤ 5) (e43 : ri s 80 43 = bI false) (hM : MB bks s) (hno : ¬ ((bG P bks x).isSome = true ∧ (stO P r w y).isSome = true)) (hq : Q (some (.int (-1000000))) (mR (wi s 80 0 (nI 0)))) : gE X (d + 6) 249 [.ref 80, .int x, .int y] (mR s) Q := by
  obtain ⟨m0, e21, e33, e34, e35, p1, p2⟩ := id hW
  refine en249 rfl rfl rfl ?_
  refine g_p t249_0 rfl ?_
  refine g_k (n := 0) t249_1 rfl rfl ?_
  refine r_puti t249_2 (f80 hF) rfl rfl ?_
  refine g_p t249_5 rfl ?_
  refine g_p t249_6 rfl ?_
  refine r_cv t249_7 (f80 hF) rfl ?_
  refine c216 (by exact hF) (by exact m0) hP5 ?_
  refine k_v ?_ rfl
  refine g_isn t249_10 (Nat.le_of_ble_eq_true rfl) (am_s1_3 rfl) ?_
  refine g_p t249_11 rfl ?_
  refine g_p t249_12 rfl ?_
  refine r_cv t249_13 (f80 hF) rfl ?_
  refine c218B (by exact hF) (by exact m0) hP5 (by exact hM) ?_
  refine k_v ?_ rfl
  refine b_eq t249_16 (fun h16 => ?_) (fun h16 => ?_)
  · refine g_p t249_32 rfl ?_
    exact i_ret t249_35 rfl hq
  · refine g_p t249_19 rfl ?_
    refine g_p t249_20 rfl ?_
    refine g_ceq t249_21 (fun h21 => ?_) (fun h21 => ?_)
    · refine g_p t249_32 rfl ?_
      exact i_ret t249_35 rfl hq
    · refine g_p t249_24 rfl ?_
      refine g_p t249_25 rfl ?_
      refine r_cv t249_26 (f80 hF) rfl ?_
      refine c214o (by exact hF) (by exact m0) hP5 (by exact p1) (by exact p2) hr5 hw5 rfl h21 ?_
      refine k_v ?_ rfl
      refine b_ne t249_29 (fun h29 => ?_) (fun h29 => ?_)
      · exact absurd ⟨h16, h29⟩ hno
      · refine g_p t249_32 rfl ?_
        exact i_ret t249_35 rfl hq
end RU
