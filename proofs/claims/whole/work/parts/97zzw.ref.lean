/-! THE REFERENCE, 14: days by draws; ways asked for -/
theorem FML.mono {A B G A2 B2 : List Nat} {s s' : mM} (h : FML A B G s s') (hA : ∀ p ∈ A, p ∈ A2) (hB : ∀ p ∈ B, p ∈ B2) : FML A2 B2 G s s' := ⟨h.1.mono (fun p hp => by
  rcases List.mem_cons.mp hp with rfl | hp
  · exact List.mem_cons_self
  · exact List.mem_cons_of_mem _ (hA p hp)), fun i hi => h.2 i (fun h3 => hi (hB i h3))⟩
theorem isrt_app {l : List Nat} {x : Nat} : isrt (l ++ [x]) = ins x (isrt l) := by unfold isrt; rw [List.foldl_append]; rfl
theorem isrt_ln {l : List Nat} : (isrt l).length = l.length := (isrt_perm l).length_eq
theorem sn_isrt {P r w c : Nat} : sn P r w c = isrt ((en P c).filter (std P r w)) := by
  refine srt_eq ((isrt_srt _).filter _) (isrt_srt _) ?_
  exact ((isrt_perm _).filter _).trans (isrt_perm _).symm
section RW
variable {X : am_X} {d : Nat} {s : mM} {Q : Option Value → am_H → Prop} {P r w pd row day left a c k n q : Nat} {x y z u : Int32} {b : Bk} {bks : List Bk} {se : List Act} {acts : List Act} {di : Nat → Nat}
theorem srt261 {l : List Nat} (hl14 : l.length ≤ 14) (hv : ∀ t ∈ l, t < 243) {s1 : mM} (hF : Fx s1) {v1 v6 : Value} {x0 x2 : Int64} (n6 : am_nl v6 = true) (hl : ML l s1)
    (hend : ∀ s' i7 z8 z9, am_nl z8 = true → FM [97] [] s1 s' → ML (isrt l) s' → gG X d 261 138 [.ref 80, v1, .long x0, .float 0, .long x2, .float 0, v6, .int (nI i7), z8, z9] [] (mR s') Q) {z8 z9 : Value} (n8 : am_nl z8 = true) : gG X d 261 60 [.ref 80, v1, .long x0, .float 0, .long x2, .float 0, v6, .int (nI 1), z8, z9] [] (mR s1) Q := by
  have O : ∀ j i : Nat, l.length ≤ i + j → 1 ≤ i → i ≤ 20 → ∀ s' z8 z9, am_nl z8 = true → FM [97] [] s1 s' → (∀ j, j < i → j < l.length → ri s' 97 j = nI ((isrt (l.take i)).getD j 0)) → (∀ j, i ≤ j → j < l.length → ri s' 97 j = nI (l.getD j 0)) → gG X d 261 60 [.ref 80, v1, .long x0, .float 0, .long x2, .float 0, v6, .int (nI i), z8, z9] [] (mR s') Q := by
    intro j
    induction j with
    | zero =>
      intro i hi hi1 hi20 s' z8 z9 n8 hf h1 h2
      have e42 := (hf.f (i := 42) (by decide)).trans hl.1
      have hF := hF.fr hf.1
      refine g_p t261_60 rfl ?_
      refine g_p t261_62 rfl ?_
      refine r_gete t261_63 (f80 hF) rfl rfl e42 ?_
      refine n_cge t261_66 (by omega) (by omega) (fun h66 => ?_) (fun h66 => ?_)
      · refine hend _ _ _ _ n8 hf ⟨by rw [isrt_ln]; exact e42, fun k hk => ?_⟩
        rw [isrt_ln] at hk
        have := h1 k (by omega) hk
        rw [List.take_of_length_le (by omega)] at this
        exact this
      · exfalso; omega
    | succ j ih =>
      intro i hi hi1 hi20 s' z8 z9 n8 hf h1 h2
      have e42 := (hf.f (i := 42) (by decide)).trans hl.1
      by_cases hil : i < l.length
      · obtain ⟨m, hm⟩ : ∃ m, m = isrt (l.take i) := ⟨_, rfl⟩
        have hml : m.length = i := by rw [hm, isrt_ln, List.length_take]; omega
        obtain ⟨v, hvv⟩ : ∃ v, v = l.getD i 0 := ⟨_, rfl⟩
        have hv243 : v < 243 := by rw [hvv]; exact hv _ (getD_mem hil)
        have hms : m.Pairwise (· ≤ ·) := by rw [hm]; exact isrt_srt _
        have hmv : ∀ j, j < i → m.getD j 0 < 243 := fun j hj => by
          have h9 : m.getD j 0 ∈ m := getD_mem (by omega)
          rw [hm] at h9 ⊢
          exact hv _ (List.mem_of_mem_take ((isrt_perm _).mem_iff.mp h9))
        have e1 : isrt (l.take (i + 1)) = ins v m := by
          rw [hm, List.take_succ_eq_append_getElem hil, isrt_app, hvv, gD_lt hil]
        have IN : ∀ k, k ≤ i → ∀ s', FM [97] [] s1 s' → (∀ j, j < k → ri s' 97 j = nI (m.getD j 0)) → (∀ j, k < j → j ≤ i → ri s' 97 j = nI (m.getD (j - 1) 0)) → (∀ j, i < j → j < l.length → ri s' 97 j = nI (l.getD j 0)) → (∀ j, k ≤ j → j < i → v < m.getD j 0) → gG X d 261 82 [.ref 80, v1, .long x0, .float 0, .long x2, .float 0, v6, .int (nI i), .int (nI v), .int (nI k)] [] (mR s') Q := by
          have FIN : ∀ k, k ≤ i → (∀ j, j < k → m.getD j 0 ≤ v) → ∀ s', FM [97] [] s1 s' → (∀ j, j < k → ri s' 97 j = nI (m.getD j 0)) → (∀ j, k < j → j ≤ i → ri s' 97 j = nI (m.getD (j - 1) 0)) → (∀ j, i < j → j < l.length → ri s' 97 j = nI (l.getD j 0)) → (∀ j, k ≤ j → j < i → v < m.getD j 0) → gG X d 261 123 [.ref 80, v1, .long x0, .float 0, .long x2, .float 0, v6, .int (nI i), .int (nI v), .int (nI k)] [] (mR s') Q := by
            intro k hk hle s' hf g1 g2 g3 g4
            have hF := hF.fr hf.1
            have e2 : ins v m = m.take k ++ v :: m.drop k := ins_split (by omega) hle (fun j h1 h2 => g4 j h1 (by omega))
            refine g_p t261_123 rfl ?_
            refine r_getr t261_124 (f80 hF) rfl rfl ?_
            refine g_p t261_127 rfl ?_
            refine g_p t261_129 rfl ?_
            refine r_iast t261_131 (f97 hF) (by decide) (by omega) ?_
            refine g_incn (n := 1) t261_132 rfl rfl (Nat.le_of_ble_eq_true rfl) (am_s1_7 n6) ?_
            refine g_goto t261_135 ?_
            refine ih (i + 1) (by omega) (by omega) (by omega) _ _ _ rfl (hf.w (by decide) (by decide)) (fun j h5 h6 => ?_) (fun j h5 h6 => ?_)
            · rw [e1, e2, take_getD (by omega)]
              by_cases h7 : j < k
              · rw [if_pos h7, ri_wi_j (by omega)]; exact g1 j h7
              · rw [if_neg h7]
                by_cases h8 : j = k
                · subst h8; rw [if_pos rfl]; exact ri_wi_eq
                · rw [if_neg h8, ri_wi_j h8]; exact g2 j (by omega) (by omega)
            · rw [ri_wi_j (by omega)]; exact g3 j (by omega) h6
          intro k
          induction k with
          | zero =>
            intro hk s' hf g1 g2 g3 g4
            have hF := hF.fr hf.1
            refine g_p t261_82 rfl ?_
            refine n_le t261_84 (by omega) (fun h84 => ?_) (fun h84 => ?_)
            · exact FIN _ hk (fun j h => absurd h (Nat.not_lt_zero j)) _ hf g1 g2 g3 g4
            · exfalso; omega
          | succ k ihk =>
            intro hk s' hf g1 g2 g3 g4
            have hF := hF.fr hf.1
            have hmk := hmv k (by omega)
            refine g_p t261_82 rfl ?_
            refine n_le t261_84 (by omega) (fun h84 => ?_) (fun h84 => ?_)
            · first
                | (exfalso; omega)
                | (have u0 : m.getD k 0 ≤ v := h98
                   exact FIN _ hk (fun j h5 => Nat.le_trans (srt_getD hms (show j ≤ k by omega) (by omega)) u0) _ hf g1 g2 g3 g4)
            · refine g_p t261_87 rfl ?_
              refine r_getr t261_88 (f80 hF) rfl rfl ?_
              refine g_p t261_91 rfl ?_
              refine g_k (n := 1) t261_93 rfl rfl ?_
              refine g_subn t261_94 (by omega) ?_
              refine r_iale t261_95 (f97 hF) (by decide) (by omega) (g1 k (Nat.lt_succ_self k)) ?_
              refine g_p t261_96 rfl ?_
              refine n_cle t261_98 (by omega) (by omega) (fun h98 => ?_) (fun h98 => ?_)
              · first
                  | (exfalso; omega)
                  | (have u0 : m.getD k 0 ≤ v := h98
                     exact FIN _ hk (fun j h5 => Nat.le_trans (srt_getD hms (show j ≤ k by omega) (by omega)) u0) _ hf g1 g2 g3 g4)
              · refine g_p t261_101 rfl ?_
                refine r_getr t261_102 (f80 hF) rfl rfl ?_
                refine g_p t261_105 rfl ?_
                refine g_p t261_107 rfl ?_
                refine r_getr t261_108 (f80 hF) rfl rfl ?_
                refine g_p t261_111 rfl ?_
                refine g_k (n := 1) t261_113 rfl rfl ?_
                refine g_subn t261_114 (by omega) ?_
                refine r_iale t261_115 (f97 hF) (by decide) (by omega) (g1 k (Nat.lt_succ_self k)) ?_
                refine r_iast t261_116 (f97 hF) (by decide) (by omega) ?_
                refine g_decn t261_117 rfl rfl (Nat.le_of_ble_eq_true rfl) (am_s1_9 rfl) ?_
                refine g_goto t261_120 ?_
                refine ihk (by omega) _ (hf.w (by decide) (by decide)) (fun j h5 => ?_) (fun j h5 h6 => ?_) (fun j h5 h6 => ?_) (fun j h5 h6 => ?_)
                · rw [ri_wi_j (by omega)]; exact g1 j (by omega)
                · by_cases h7 : j = k + 1
                  · subst h7; rw [ri_wi_eq]; rfl
                  · rw [ri_wi_j h7]; exact g2 j (by omega) h6
                · rw [ri_wi_j (by omega)]; exact g3 j h5 h6
                · by_cases h7 : j = k
                  · subst h7; exact Nat.lt_of_not_le h98
                  · exact g4 j (by omega) h6
        have hF := hF.fr hf.1
        refine g_p t261_60 rfl ?_
        refine g_p t261_62 rfl ?_
        refine r_gete t261_63 (f80 hF) rfl rfl e42 ?_
        refine n_cge t261_66 (by omega) (by omega) (fun h66 => ?_) (fun h66 => ?_)
        · exfalso; omega
        · refine g_p t261_69 rfl ?_
          refine r_getr t261_70 (f80 hF) rfl rfl ?_
          refine g_p t261_73 rfl ?_
          refine r_iale t261_75 (f97 hF) (by decide) (by omega) ((h2 i (Nat.le_refl i) hil).trans (congrArg nI hvv.symm)) ?_
          refine g_is t261_76 (Nat.le_of_ble_eq_true rfl) (am_s1_8 rfl) ?_
          refine g_p t261_78 rfl ?_
          refine g_is t261_80 (Nat.le_of_ble_eq_true rfl) (am_s1_9 rfl) ?_
          exact IN i (Nat.le_refl _) _ hf (fun j hj => by rw [hm]; exact h1 j hj (by omega)) (fun j h5 h6 => absurd h5 (by omega)) (fun j h5 h6 => h2 j (by omega) h6) (fun j h5 h6 => absurd h5 (by omega))
      · have hF := hF.fr hf.1
        refine g_p t261_60 rfl ?_
        refine g_p t261_62 rfl ?_
        refine r_gete t261_63 (f80 hF) rfl rfl e42 ?_
        refine n_cge t261_66 (by omega) (by omega) (fun h66 => ?_) (fun h66 => ?_)
        · refine hend _ _ _ _ n8 hf ⟨by rw [isrt_ln]; exact e42, fun k hk => ?_⟩
          rw [isrt_ln] at hk
          have := h1 k (by omega) hk
          rw [List.take_of_length_le (by omega)] at this
          exact this
        · exfalso; omega
  exact O 14 1 (by omega) (by decide) (by decide) s1 _ _ n8 FM.rf (fun j h5 h6 => by
    have h7 : j = 0 := by omega
    subst h7
    rw [hl.2 0 h6]
    cases l with
    | nil => exact absurd h6 (by decide)
    | cons a t => rfl) (fun j _ h6 => hl.2 j h6)
theorem c261t (hF : Fx s) (hP5 : P ≤ 5) (hW : MW P r w pd row day left s) (hr5 : r ≤ 5) (hw5 : w ≤ 5) (e43 : ri s 80 43 = bI false) (hst : 0 < P → std P r w row = true) (hA : MA acts s) (hD : CD 93 day di s) {x : Int64} (hk : DrwOK P day y n)
    (hq : ∀ s', FM [84, 97, 93] (0 :: 33 :: 34 :: 35 :: 40 :: nB) s s' → MA [] s' → MW P r w pd (lrow P r w row x n) (day + n) pd s' → CD 93 (day + n) (ldi P r w row day di x n) s' → Q (some (.int (nI (day + n)))) (mR s')) : gE X (d + 5) 261 [.ref 80, .int y, .long x] (mR s) Q := by
  obtain ⟨hP0, rfl, hn1, hn20, hdn⟩ := hk
  have hm := mn_le hP5
  have hs := hst hP0
  have g1 := isR_n (a := 1) (b := 20) (n := n) (by decide) hn1 hn20
  have K : ∀ j i : Nat, i + j = n → ∀ s' lf z7 z8 z9, am_nl z7 = true → am_nl z8 = true → Fx s' → FM [84, 97, 93] (0 :: 33 :: 34 :: 35 :: 40 :: nB) s s' → MW P r w pd (lrow P r w row x i) (day + i) lf s' → ri s' 80 43 = bI false → CD 93 (day + i) (ldi P r w row day di x i) s' → (0 < i → lf = pd) → gG X (d + 5) 261 43 [.ref 80, .int (nI n), .long x, .float 0, .long (lx x i), .float 0, .int (nI i), z7, z8, z9] [] (mR s') Q := by
    intro j
    induction j with
    | zero =>
      intro i hj s' lf z7 z8 z9 n7 n8 hF hf hW e43 hD hlf
      have hj : i = n := by omega
      subst hj
      have hlf := hlf (by omega)
      subst hlf
      obtain ⟨m0, e21, e33, e34, e35, p1, p2⟩ := id hW
      refine g_p t261_43 rfl ?_
      refine g_p t261_45 rfl ?_
      refine n_cge t261_46 (by omega) (by omega) (fun h46 => ?_) (fun h46 => ?_)
      · refine g_p t261_194 rfl ?_
        refine g_k (n := 0) t261_195 rfl rfl ?_
        refine r_puti t261_196 (f80 hF) rfl rfl ?_
        refine g_p t261_199 rfl ?_
        refine r_gete t261_200 (f80 hF) rfl rfl e34 ?_
        refine i_ret t261_203 rfl (hq _ (hf.m (by decide)) ⟨rfl, by decide, fun k hk => absurd hk (by simp)⟩ ⟨m0, e21, e33, e34, e35, p1, p2⟩ (fun k hk => ?_))
        rw [ri_wi_ne (by decide)]
        exact hD k hk
      · exfalso; omega
    | succ j ih =>
      intro i hj s' lf z7 z8 z9 n7 n8 hF hf hW e43 hD hlf
      have hsi := lrow_std (x := x) hs i
      have hriN := (std_t hsi).1
      have ih := ih (i + 1) (by omega)
      obtain ⟨rw_, hrw⟩ : ∃ v, v = lrow P r w row x i := ⟨_, rfl⟩
      rw [← hrw] at hW hsi hriN
      have hW0 := hW
      obtain ⟨m0, e21, e33, e34, e35, p1, p2⟩ := id hW
      refine g_p t261_43 rfl ?_
      refine g_p t261_45 rfl ?_
      refine n_cge t261_46 (by omega) (by omega) (fun h46 => ?_) (fun h46 => ?_)
      · exfalso; omega
      · refine g_p t261_49 rfl ?_
        refine g_p t261_50 rfl ?_
        refine r_gete t261_51 (f80 hF) rfl rfl e33 ?_
        refine r_cv t261_54 (f80 hF) rfl ?_
        refine c233n (by exact hF) hP5 (by exact m0) (by exact p1) (by exact p2) hr5 hw5 hsi (by exact e43) (fun s1 f1 hl => ?_)
        refine k_0 ?_
        have hF := Fx.fr (by exact hF) f1.1
        have m0 := (f1.f (i := 20) (by decide)).trans m0
        have e33 := (f1.f (i := 33) (by decide)).trans e33
        have e35 := (f1.f (i := 35) (by decide)).trans e35
        have e34 := (f1.f (i := 34) (by decide)).trans e34
        have e21 := (f1.f (i := 21) (by decide)).trans e21
        have p1 := (f1.g (p := 85) (i := 1) (by decide)).trans p1
        have p2 := (f1.g (p := 85) (i := 2) (by decide)).trans p2
        have e43 := (f1.f (i := 43) (by decide)).trans e43
        refine g_k (n := 1) t261_57 rfl rfl ?_
        refine g_is t261_58 (Nat.le_of_ble_eq_true rfl) (am_s1_7 rfl) ?_
        obtain ⟨l, hl0⟩ : ∃ l, l = (en P rw_).filter (std P r w) := ⟨_, rfl⟩
        rw [← hl0] at hl
        have hl14 : l.length ≤ 14 := by rw [hl0]; exact sn_len14 hP5 hriN
        have hlm : ∀ t ∈ l, std P r w t = true := fun t ht => by rw [hl0] at ht; exact (List.mem_filter.mp ht).2
        refine srt261 hl14 (fun t ht => Nat.lt_of_lt_of_le (std_t (hlm t ht)).1 hm) hF rfl hl (fun s2 i7 z8 z9 n8 f2 hl => ?_) n8
        have hF := hF.fr f2.1
        have hsl : isrt l = sn P r w rw_ := by rw [sn_isrt, ← hl0]
        have hsll : (sn P r w rw_).length = l.length := by rw [← hsl, isrt_ln]
        rw [hsl] at hl
        have e42 := hl.1
        have m0 := (f2.f (i := 20) (by decide)).trans m0
        have e34 := (f2.f (i := 34) (by decide)).trans e34
        have PUT : ∀ s3 {rw3 i7 : Nat}, Fx s3 → FM [84, 97, 93] (0 :: 33 :: 34 :: 35 :: 40 :: nB) s s3 → MW P r w pd rw3 (day + i) lf s3 → rw3 = lrow P r w row x (i + 1) → ri s3 80 43 = bI false → CD 93 (day + i) (ldi P r w row day di x i) s3 → ∀ {z8 z9}, am_nl z8 = true → gG X (d + 5) 261 184 [.ref 80, .int (nI n), .long x, .float 0, .long (lx x (i + 1)), .float 0, .int (nI i), .int (nI i7), z8, z9] [] (mR s3) Q := by
          intro s3 rw3 i7 hF hf3 hW3 hrow3 e433 hD3 z8 z9 n8
          refine g_p t261_184 rfl ?_
          refine r_cv t261_185 (f80 hF) rfl ?_
          refine c228 (A := [84, 97, 93]) (B := 0 :: 33 :: 34 :: 35 :: 40 :: nB) (by exact hF) (by exact hW3) hD3 (by omega) (by decide) (by decide) (by decide) hf3 (fun s4 f4 f5 hW4 hD4 => ?_)
          refine k_0 ?_
          refine g_incn (n := 1) t261_188 rfl rfl (Nat.le_of_ble_eq_true rfl) (am_s1_6 rfl) ?_
          refine g_goto t261_191 ?_
          rw [hrow3] at hW4
          refine ih s4 pd _ _ _ rfl n8 (hF.fr f5.1) f4 hW4 ((f5.f (i := 43) (by decide)).trans e433) (fun k hk => ?_) (fun _ => rfl)
          refine (hD4 k hk).trans ?_
          show nI (if k = day + i then rw3 else ldi P r w row day di x i k) = nI (ldi P r w row day di x (i + 1) k)
          unfold ldi
          by_cases h9 : k = day + i
          · subst h9
            rw [if_pos rfl, if_pos (by omega), show day + i - day + 1 = i + 1 by omega]; exact congrArg nI hrow3
          · rw [if_neg h9]
            by_cases h8 : day ≤ k ∧ k < day + i
            · rw [if_pos h8, if_pos (by omega)]
            · rw [if_neg h8, if_neg (by omega)]
        have hdl : 0 < lD (lx x (i + 1)) % (l.length + 1) → lD (lx x (i + 1)) % (l.length + 1) - 1 < (sn P r w rw_).length := fun h => by
          have h9 := Nat.mod_lt (lD (lx x (i + 1))) (show 0 < l.length + 1 by omega)
          omega
        have hsr : ∀ j, j < (sn P r w rw_).length → (sn P r w rw_).getD j 0 < 243 := fun j hj => by
          rw [sn_isrt, ← hl0] at hj ⊢
          exact Nat.lt_of_lt_of_le (std_t (hlm _ ((isrt_perm _).mem_iff.mp (getD_mem hj)))).1 hm
        rw [hsll] at e42
        refine g_p t261_138 rfl ?_
        refine g_p t261_140 rfl ?_
        refine g_lmul t261_143 ?_
        refine g_p t261_144 rfl ?_
        refine g_ladd t261_147 ?_
        refine g_ls t261_148 (Nat.le_of_ble_eq_true rfl) (am_s2_4 rfl) ?_
        refine g_p t261_150 rfl ?_
        refine g_k (n := 33) t261_152 rfl rfl ?_
        refine g_p t261_154 rfl ?_
        rw [lush, show lx x i * 6364136223846793005 + 1442695040888963407 = lx x (i + 1) from rfl]
        refine g_p t261_155 rfl ?_
        refine r_gete t261_156 (f80 hF) rfl rfl e42 ?_
        refine g_k (n := 1) t261_159 rfl rfl ?_
        refine g_addn t261_160 ?_
        refine n_i2l t261_161 (by omega) ?_
        refine n_lrem t261_162 (Nat.lt_trans (lD_lt _) (by decide)) (by omega) (by omega) ?_
        refine n_l2i t261_163 ?_
        refine g_is t261_164 (Nat.le_of_ble_eq_true rfl) (am_s1_7 rfl) ?_
        refine g_p t261_166 rfl ?_
        refine n_le t261_168 (by omega) (fun h168 => ?_) (fun h168 => ?_)
        · first
            | (have u0 : lD (lx x (i + 1)) % (l.length + 1) = 0 := h168
               have u1 : lrow P r w row x (i + 1) = rw_ := by
                 show drw P r w (lrow P r w row x i) (lD (lx x (i + 1))) = rw_
                 rw [← hrw, drw, hsll, if_pos (by omega)]
               exact PUT s2 hF ((hf.tr (f1.mono (by decide) (by decide))).tr (f2.mono (by decide) (by decide))) ((hW0.fm f1 (by decide) (by decide) (by decide) (by decide) (by decide) (by decide)).fm f2 (by decide) (by decide) (by decide) (by decide) (by decide) (by decide)) (by rw [u1]) ((f2.f (i := 43) (by decide)).trans e43) ((hD.fm f1 (by decide)).fm f2 (by decide)) n8)
            | (have u0 : 0 < lD (lx x (i + 1)) % (l.length + 1) := h168
               have u1 : lrow P r w row x (i + 1) = (sn P r w rw_).getD (lD (lx x (i + 1)) % (l.length + 1) - 1) 0 := by
                 show drw P r w (lrow P r w row x i) (lD (lx x (i + 1))) = _
                 rw [← hrw, drw, hsll, if_neg (by omega)]
               have hw2 := ((hW0.fm f1 (by decide) (by decide) (by decide) (by decide) (by decide) (by decide)).fm f2 (by decide) (by decide) (by decide) (by decide) (by decide) (by decide))
               have hD9 := (hD.fm f1 (by decide)).fm f2 (by decide)
               exact PUT _ (hF.fr (A := [80]) (Fr.rf.wi (by decide))) (((hf.tr (f1.mono (by decide) (by decide))).tr (f2.mono (by decide) (by decide))).m (by decide)) (show MW P r w pd _ (day + i) lf (wi s2 80 33 _) from ⟨hw2.1, hw2.2.1, rfl, hw2.2.2.2.1, hw2.2.2.2.2.1, hw2.2.2.2.2.2.1, hw2.2.2.2.2.2.2⟩) u1.symm ((f2.f (i := 43) (by decide)).trans e43) (show CD 93 (day + i) _ (wi s2 80 33 _) from hD9) n8)
        · refine g_p t261_171 rfl ?_
          refine g_p t261_172 rfl ?_
          refine r_getr t261_173 (f80 hF) rfl rfl ?_
          refine g_p t261_176 rfl ?_
          refine g_k (n := 1) t261_178 rfl rfl ?_
          refine g_subn t261_179 (by omega) ?_
          refine r_iale t261_180 (f97 hF) (by decide) (by omega) (hl.2 _ (hdl (by omega))) ?_
          refine r_puti t261_181 (f80 hF) rfl rfl ?_
          first
            | (have u0 : lD (lx x (i + 1)) % (l.length + 1) = 0 := h168
               have u1 : lrow P r w row x (i + 1) = rw_ := by
                 show drw P r w (lrow P r w row x i) (lD (lx x (i + 1))) = rw_
                 rw [← hrw, drw, hsll, if_pos (by omega)]
               exact PUT s2 hF ((hf.tr (f1.mono (by decide) (by decide))).tr (f2.mono (by decide) (by decide))) ((hW0.fm f1 (by decide) (by decide) (by decide) (by decide) (by decide) (by decide)).fm f2 (by decide) (by decide) (by decide) (by decide) (by decide) (by decide)) (by rw [u1]) ((f2.f (i := 43) (by decide)).trans e43) ((hD.fm f1 (by decide)).fm f2 (by decide)) n8)
            | (have u0 : 0 < lD (lx x (i + 1)) % (l.length + 1) := h168
               have u1 : lrow P r w row x (i + 1) = (sn P r w rw_).getD (lD (lx x (i + 1)) % (l.length + 1) - 1) 0 := by
                 show drw P r w (lrow P r w row x i) (lD (lx x (i + 1))) = _
                 rw [← hrw, drw, hsll, if_neg (by omega)]
               have hw2 := ((hW0.fm f1 (by decide) (by decide) (by decide) (by decide) (by decide) (by decide)).fm f2 (by decide) (by decide) (by decide) (by decide) (by decide) (by decide))
               have hD9 := (hD.fm f1 (by decide)).fm f2 (by decide)
               exact PUT _ (hF.fr (A := [80]) (Fr.rf.wi (by decide))) (((hf.tr (f1.mono (by decide) (by decide))).tr (f2.mono (by decide) (by decide))).m (by decide)) (show MW P r w pd _ (day + i) lf (wi s2 80 33 _) from ⟨hw2.1, hw2.2.1, rfl, hw2.2.2.2.1, hw2.2.2.2.2.1, hw2.2.2.2.2.2.1, hw2.2.2.2.2.2.2⟩) u1.symm ((f2.f (i := 43) (by decide)).trans e43) (show CD 93 (day + i) _ (wi s2 80 33 _) from hD9) n8)
  obtain ⟨m0, e21, e33, e34, e35, p1, p2⟩ := id hW
  refine en261 rfl rfl ?_
  refine g_p t261_0 rfl ?_
  refine g_k (n := 0) t261_1 rfl rfl ?_
  refine r_puti t261_2 (f80 hF) rfl rfl ?_
  refine g_p t261_5 rfl ?_
  refine r_gete t261_6 (f80 hF) rfl rfl m0 ?_
  refine n_eq t261_9 (by omega) (fun h9 => ?_) (fun h9 => ?_)
  · first
      | (exfalso; omega)
      | exact absurd h21 (by decide)
  · refine g_p t261_12 rfl ?_
    refine g_p t261_13 rfl ?_
    refine g_p t261_14 rfl ?_
    refine g_p t261_15 rfl ?_
    refine g_cs t261_18 rfl rfl rfl ?_
    refine c176i (a := nI 1) (b := nI 20) rfl rfl ?_
    rw [g1]
    refine k_v ?_ rfl
    refine b_eq t261_21 (fun h21 => ?_) (fun h21 => ?_)
    · first
        | (exfalso; omega)
        | exact absurd h21 (by decide)
    · refine g_p t261_24 rfl ?_
      refine r_gete t261_25 (f80 hF) rfl rfl e34 ?_
      refine g_p t261_28 rfl ?_
      refine g_addn t261_29 ?_
      refine g_k (n := 60) t261_30 rfl rfl ?_
      refine n_cle t261_32 (by omega) (by omega) (fun h32 => ?_) (fun h32 => ?_)
      · refine g_p t261_37 rfl ?_
        refine g_ls t261_38 (Nat.le_of_ble_eq_true rfl) (am_s2_4 rfl) ?_
        refine g_k (n := 0) t261_40 rfl rfl ?_
        refine g_is t261_41 (Nat.le_of_ble_eq_true rfl) (am_s1_6 rfl) ?_
        exact K n 0 (by omega) _ left _ _ _ rfl rfl (Fx.fr (A := [80]) hF (Fr.rf.wi (by decide))) (FM.rf.m (by decide)) (by exact hW.w0) (by exact e43) (fun k hk => (hD k hk).trans (by unfold ldi; rw [if_neg (by omega)])) (fun h => absurd h (by decide))
      · first
          | (exfalso; omega)
          | exact absurd h21 (by decide)
theorem c261f (hF : Fx s) (hP5 : P ≤ 5) (hW : MW P r w pd row day left s) (hd : day ≤ 60) {x : Int64} (hno : ¬ ∃ n, DrwOK P day y n) (hq : Q (some (.int (-1))) (mR (wi s 80 0 (nI 0)))) : gE X d.succ.succ.succ.succ.succ 261 [.ref 80, .int y, .long x] (mR s) Q := by
  obtain ⟨m0, e21, e33, e34, e35, p1, p2⟩ := id hW
  refine en261 rfl rfl ?_
  refine g_p t261_0 rfl ?_
  refine g_k (n := 0) t261_1 rfl rfl ?_
  refine r_puti t261_2 (f80 hF) rfl rfl ?_
  refine g_p t261_5 rfl ?_
  refine r_gete t261_6 (f80 hF) rfl rfl m0 ?_
  refine n_eq t261_9 (by omega) (fun h9 => ?_) (fun h9 => ?_)
  · refine g_p t261_35 rfl ?_
    exact i_ret t261_36 rfl hq
  · refine g_p t261_12 rfl ?_
    refine g_p t261_13 rfl ?_
    refine g_p t261_14 rfl ?_
    refine g_p t261_15 rfl ?_
    refine g_cs t261_18 rfl rfl rfl ?_
    refine c176i (a := nI 1) (b := nI 20) rfl rfl ?_
    refine k_v ?_ rfl
    refine b_eq t261_21 (fun h21 => ?_) (fun h21 => ?_)
    · refine g_p t261_35 rfl ?_
      exact i_ret t261_36 rfl hq
    · obtain ⟨n, rfl, n1, n2⟩ := isR_t (by decide) (by decide) h21
      refine g_p t261_24 rfl ?_
      refine r_gete t261_25 (f80 hF) rfl rfl e34 ?_
      refine g_p t261_28 rfl ?_
      refine g_addn t261_29 ?_
      refine g_k (n := 60) t261_30 rfl rfl ?_
      refine n_cle t261_32 (by omega) (by omega) (fun h32 => ?_) (fun h32 => ?_)
      · exact absurd ⟨n, by omega, rfl, n1, n2, by omega⟩ hno
      · refine g_p t261_35 rfl ?_
        exact i_ret t261_36 rfl hq
theorem c254t (hF : Fx s) (hP5 : P ≤ 5) (hW : MW P r w pd row day left s) (hr5 : r ≤ 5) (hw5 : w ≤ 5) (e43 : ri s 80 43 = bI false) (hst : 0 < P → std P r w row = true) (hl5 : left ≤ 5) (hpd5 : pd ≤ 5) (hS : MSe se s) (hse : ∀ t ∈ se, t.1 ≤ 6 ∧ t.2.1 < P ∧ t.2.2 < 3) (hk : WayOK P x n)
    (hq : ∀ s', FML hA_ (0 :: nB) cG s s' → Q (some (.long (lN (sm (cwy P r w row left pd (fun k c => wsn se P k c) n) (mn P))))) (mR s')) : gE X (d + 8) 254 [.ref 80, .int x] (mR s) Q := by
  obtain ⟨hP0, rfl, hn1, hn6⟩ := hk
  have g1 := isR_n (a := 1) (b := 6) (n := n) (by decide) hn1 hn6
  obtain ⟨m0, e21, e33, e34, e35, p1, p2⟩ := id hW
  refine en254 rfl rfl ?_
  refine g_p t254_0 rfl ?_
  refine g_k (n := 0) t254_1 rfl rfl ?_
  refine r_puti t254_2 (f80 hF) rfl rfl ?_
  refine g_p t254_5 rfl ?_
  refine r_gete t254_6 (f80 hF) rfl rfl m0 ?_
  refine n_le t254_9 (by omega) (fun h9 => ?_) (fun h9 => ?_)
  · first
      | (exfalso; omega)
      | exact absurd h21 (by decide)
  · refine g_p t254_12 rfl ?_
    refine g_p t254_13 rfl ?_
    refine g_p t254_14 rfl ?_
    refine g_p t254_15 rfl ?_
    refine g_cs t254_18 rfl rfl rfl ?_
    refine c176i (a := nI 1) (b := nI 6) rfl rfl ?_
    rw [g1]
    refine k_v ?_ rfl
    refine b_eq t254_21 (fun h21 => ?_) (fun h21 => ?_)
    · first
        | (exfalso; omega)
        | exact absurd h21 (by decide)
    · refine g_p t254_24 rfl ?_
      refine g_p t254_25 rfl ?_
      refine g_p t254_26 rfl ?_
      refine g_k (n := 0) t254_27 rfl rfl ?_
      refine g_k (n := 0) t254_28 rfl rfl ?_
      refine r_cv t254_29 (f80 hF) rfl ?_
      refine c253w (q := 0) (u := nI 0) (n := n) (Fx.fr (A := [80]) hF (Fr.rf.wi (by decide))) hP5 (by exact hW.w0) hr5 hw5 (by exact e43) (hst hP0) hl5 hpd5 hP0 hn6 (by decide) (by exact hS) hse (fun s1 f1 => ?_)
      refine k_v ?_ rfl
      refine g_goto t254_32 ?_
      exact l_ret t254_38 rfl (hq _ ((FM.ml (FM.rf.m (by decide))).tr (f1.mono (by decide) (by decide))))
theorem c254f (hF : Fx s) (hP5 : P ≤ 5) (m0 : ri s 80 20 = nI P) (hno : ¬ ∃ n, WayOK P x n) (hq : Q (some (.long (-1))) (mR (wi s 80 0 (nI 0)))) : gE X (d + 8) 254 [.ref 80, .int x] (mR s) Q := by
  refine en254 rfl rfl ?_
  refine g_p t254_0 rfl ?_
  refine g_k (n := 0) t254_1 rfl rfl ?_
  refine r_puti t254_2 (f80 hF) rfl rfl ?_
  refine g_p t254_5 rfl ?_
  refine r_gete t254_6 (f80 hF) rfl rfl m0 ?_
  refine n_le t254_9 (by omega) (fun h9 => ?_) (fun h9 => ?_)
  · refine g_p t254_35 rfl ?_
    exact l_ret t254_38 rfl hq
  · refine g_p t254_12 rfl ?_
    refine g_p t254_13 rfl ?_
    refine g_p t254_14 rfl ?_
    refine g_p t254_15 rfl ?_
    refine g_cs t254_18 rfl rfl rfl ?_
    refine c176i (a := nI 1) (b := nI 6) rfl rfl ?_
    refine k_v ?_ rfl
    refine b_eq t254_21 (fun h21 => ?_) (fun h21 => ?_)
    · refine g_p t254_35 rfl ?_
      exact l_ret t254_38 rfl hq
    · obtain ⟨n, h1, h2, h3⟩ := isR_t (by decide) (by decide) h21
      exact absurd ⟨n, by omega, h1, h2, h3⟩ hno
theorem c255t (hF : Fx s) (hP5 : P ≤ 5) (hW : MW P r w pd row day left s) (hr5 : r ≤ 5) (hw5 : w ≤ 5) (e43 : ri s 80 43 = bI false) (hst : 0 < P → std P r w row = true) (hl5 : left ≤ 5) (hpd5 : pd ≤ 5) (hS : MSe se s) (hse : ∀ t ∈ se, t.1 ≤ 6 ∧ t.2.1 < P ∧ t.2.2 < 3) (hM : MB bks s) (hk : LikOK P (bG P bks x) y z u n q) (hg : bG P bks x = some b)
    (hq : ∀ s', FML hA_ (0 :: nB) cG s s' → Q (some (.long (lN (sm (cwy P r w row left pd (fun k c => (decide (¬ k = q) || decide (sy P b c = u)) && wsn se P k c) n) (mn P))))) (mR s')) : gE X (d + 8) 255 [.ref 80, .int x, .int y, .int z, .int u] (mR s) Q := by
  obtain ⟨-, rfl, hn1, hn6, rfl, hq1, hq2, hu⟩ := hk
  obtain ⟨hP0, k, hk, hk4, rfl, hB1⟩ := bG_M hM hg
  have g1 := isR_n (a := 1) (b := 6) (n := n) (by decide) hn1 hn6
  have g2 := isR_n (a := 1) (b := n) (n := q) (by omega) hq1 hq2
  obtain ⟨m0, e21, e33, e34, e35, p1, p2⟩ := id hW
  refine en255 rfl rfl rfl rfl rfl ?_
  refine g_p t255_0 rfl ?_
  refine g_k (n := 0) t255_1 rfl rfl ?_
  refine r_puti t255_2 (f80 hF) rfl rfl ?_
  refine g_p t255_5 rfl ?_
  refine g_p t255_6 rfl ?_
  refine r_cv t255_7 (f80 hF) rfl ?_
  refine c218B (by exact hF) (by exact m0) hP5 (by exact hM) ?_
  refine k_v ?_ rfl
  rw [hg]
  refine b_eq t255_10 (fun h10 => ?_) (fun h10 => ?_)
  · first
      | (have u0 : (some b).isSome = false := h10
         exact absurd u0 (by simp))
      | exact absurd h22 (by decide)
      | exact absurd h33 (by decide)
      | exact absurd h48 (by decide)
  · refine g_p t255_13 rfl ?_
    refine g_p t255_14 rfl ?_
    refine g_p t255_15 rfl ?_
    refine g_p t255_16 rfl ?_
    refine g_cs t255_19 rfl rfl rfl ?_
    refine c176i (a := nI 1) (b := nI 6) rfl rfl ?_
    rw [g1]
    refine k_v ?_ rfl
    refine b_eq t255_22 (fun h22 => ?_) (fun h22 => ?_)
    · first
        | (have u0 : (some b).isSome = false := h10
           exact absurd u0 (by simp))
        | exact absurd h22 (by decide)
        | exact absurd h33 (by decide)
        | exact absurd h48 (by decide)
    · refine g_p t255_25 rfl ?_
      refine g_p t255_26 rfl ?_
      refine g_p t255_27 rfl ?_
      refine g_p t255_28 rfl ?_
      refine g_p t255_29 rfl ?_
      refine g_cs t255_30 rfl rfl rfl ?_
      refine c176i (a := nI 1) (b := nI n) rfl rfl ?_
      rw [g2]
      refine k_v ?_ rfl
      refine b_eq t255_33 (fun h33 => ?_) (fun h33 => ?_)
      · first
          | (have u0 : (some b).isSome = false := h10
             exact absurd u0 (by simp))
          | exact absurd h22 (by decide)
          | exact absurd h33 (by decide)
          | exact absurd h48 (by decide)
      · refine g_p t255_36 rfl ?_
        refine g_p t255_38 rfl ?_
        refine g_p t255_39 rfl ?_
        refine g_p t255_42 rfl ?_
        refine g_cs t255_45 rfl rfl rfl ?_
        refine c176i (a := -1) (b := 7) rfl rfl ?_
        rw [isR_L0, hu]
        refine k_v ?_ rfl
        refine b_eq t255_48 (fun h48 => ?_) (fun h48 => ?_)
        · first
            | (have u0 : (some b).isSome = false := h10
               exact absurd u0 (by simp))
            | exact absurd h22 (by decide)
            | exact absurd h33 (by decide)
            | exact absurd h48 (by decide)
        · refine g_p t255_51 rfl ?_
          refine g_p t255_52 rfl ?_
          refine g_p t255_53 rfl ?_
          refine g_p t255_54 rfl ?_
          refine g_p t255_55 rfl ?_
          refine r_cv t255_57 (f80 hF) rfl ?_
          refine c253l (q := q) (u := u) (n := n) (b := b) (Fx.fr (A := [80]) hF (Fr.rf.wi (by decide))) hP5 (by exact hW.w0) hr5 hw5 (by exact e43) (hst hP0) hl5 hpd5 hP0 hn6 (by omega) (by exact hS) hse (by exact hB1) hk4 (by omega) (fun s1 f1 => ?_)
          refine k_v ?_ rfl
          refine g_goto t255_60 ?_
          exact l_ret t255_66 rfl (hq _ ((FM.ml (FM.rf.m (by decide))).tr (f1.mono (by decide) (by decide))))
theorem c255f (hF : Fx s) (hP5 : P ≤ 5) (m0 : ri s 80 20 = nI P) (hM : MB bks s) (hno : ¬ ∃ n q, LikOK P (bG P bks x) y z u n q) (hq : Q (some (.long (-1))) (mR (wi s 80 0 (nI 0)))) : gE X (d + 8) 255 [.ref 80, .int x, .int y, .int z, .int u] (mR s) Q := by
  refine en255 rfl rfl rfl rfl rfl ?_
  refine g_p t255_0 rfl ?_
  refine g_k (n := 0) t255_1 rfl rfl ?_
  refine r_puti t255_2 (f80 hF) rfl rfl ?_
  refine g_p t255_5 rfl ?_
  refine g_p t255_6 rfl ?_
  refine r_cv t255_7 (f80 hF) rfl ?_
  refine c218B (by exact hF) (by exact m0) hP5 (by exact hM) ?_
  refine k_v ?_ rfl
  refine b_eq t255_10 (fun h10 => ?_) (fun h10 => ?_)
  · refine g_p t255_63 rfl ?_
    exact l_ret t255_66 rfl hq
  · refine g_p t255_13 rfl ?_
    refine g_p t255_14 rfl ?_
    refine g_p t255_15 rfl ?_
    refine g_p t255_16 rfl ?_
    refine g_cs t255_19 rfl rfl rfl ?_
    refine c176i (a := nI 1) (b := nI 6) rfl rfl ?_
    refine k_v ?_ rfl
    refine b_eq t255_22 (fun h22 => ?_) (fun h22 => ?_)
    · refine g_p t255_63 rfl ?_
      exact l_ret t255_66 rfl hq
    · refine g_p t255_25 rfl ?_
      refine g_p t255_26 rfl ?_
      refine g_p t255_27 rfl ?_
      refine g_p t255_28 rfl ?_
      refine g_p t255_29 rfl ?_
      refine g_cs t255_30 rfl rfl rfl ?_
      refine c176i (a := nI 1) (b := y) rfl rfl ?_
      refine k_v ?_ rfl
      refine b_eq t255_33 (fun h33 => ?_) (fun h33 => ?_)
      · refine g_p t255_63 rfl ?_
        exact l_ret t255_66 rfl hq
      · refine g_p t255_36 rfl ?_
        refine g_p t255_38 rfl ?_
        refine g_p t255_39 rfl ?_
        refine g_p t255_42 rfl ?_
        refine g_cs t255_45 rfl rfl rfl ?_
        refine c176i (a := -1) (b := 7) rfl rfl ?_
        rw [isR_L0]
        refine k_v ?_ rfl
        refine b_eq t255_48 (fun h48 => ?_) (fun h48 => ?_)
        · refine g_p t255_63 rfl ?_
          exact l_ret t255_66 rfl hq
        · obtain ⟨n, rfl, h2, h3⟩ := isR_t (by decide) (by decide) h22
          obtain ⟨q, h4, h5, h6⟩ := isR_t (by omega) (by decide) h33
          exact absurd ⟨n, q, h10, rfl, h2, h3, h4, h5, h6, h48⟩ hno
end RW
