/-! PLANS, 2: a word at once -/
theorem nin {A : List Nat} {q : Nat} (hA : ∀ x ∈ A, x < 114) (h : 114 ≤ q) : q ∉ A := fun h2 => by have := hA q h2; omega
theorem drop_cons {l : List Nat} {i : Nat} (h : i < l.length) : l.drop i = l.getD i 0 :: l.drop (i + 1) := by
  rw [List.drop_eq_getElem_cons h, gD_lt h]
theorem dst_aa {P r w a F : Nat} (ha : std P r w a = true) : dst P r w F a a = 0 := by
  rw [dst_t ha ha]
  exact ds_of (n := 0) rfl (fun m _ => Nat.zero_le m)
/-- where nothing costs anything, to stay costs nothing -/
theorem onf_0 {P r w pd a : Nat} {f : Nat → Nat} (hf : ∀ y, f y = 0) (ha : std P r w a = true) : ∀ n, a < n → onf P r w pd f a n = 0 := by
  intro n
  induction n with
  | zero => intro h; exact absurd h (Nat.not_lt_zero a)
  | succ n ih =>
    intro h
    unfold onf
    by_cases h2 : a = n
    · subst h2
      rw [dst_aa ha, hf, if_pos (Nat.zero_le _)]
      exact Nat.min_zero _
    · rw [ih (by omega), Nat.zero_min, ite_self]
theorem cst_drop {P r w pd a : Nat} {b : Bk} {l : List Nat} {i : Nat} (h : i < l.length) : cst P r w pd b (l.drop i) a = if std P r w a = true ∧ sy P b a = nI (l.getD i 0) then onf P r w pd (cst P r w pd b (l.drop (i + 1))) a (mn P) else 1000 := by
  rw [drop_cons h, cst.eq_def]
  show (if std P r w a = true ∧ sy P b a = nI (l.getD i 0) then (match l.drop (i + 1) with
    | [] => 0
    | y :: u => onf P r w pd (cst P r w pd b (y :: u)) a (mn P)) else 1000) = _
  by_cases hs : std P r w a = true ∧ sy P b a = nI (l.getD i 0)
  · rw [if_pos hs, if_pos hs]
    by_cases h2 : i + 1 = l.length
    · rw [h2, List.drop_length]
      exact (onf_0 (fun y => rfl) hs.1 _ (std_t hs.1).1).symm
    · rw [drop_cons (show i + 1 < l.length by omega)]
  · rw [if_neg hs, if_neg hs]
theorem c32f {X : am_X} {d : Nat} {s : mM} {Q : Option Value → am_H → Prop} {p n : Nat} {v : Int32} (h : Nu s p n) (hq : ∀ s', Fr [p + 1] s s' → (∀ i, i < n → ri s' (p + 1) i = v) → Q none (mR s')) : gE X d 32 [.ref p, .int v] (mR s) Q :=
  c32 h (hq _ (Fr.rf.wf (by simp)) (fun i hi => by rw [ri_wf, if_pos rfl, m_fill, if_pos hi]))
def CZ (s : mM) : Prop := ri s 68 1 = nI 0 ∧ ri s 70 1 = nI 0
theorem CZ.fr {A : List Nat} {s s' : mM} (h : CZ s) (f : Fr A s s') (h1 : 68 ∉ A) (h2 : 70 ∉ A) : CZ s' := ⟨(f.ri h1).trans h.1, (f.ri h2).trans h.2⟩
abbrev pA : List Nat := [68, 69, 70, 71] ++ kA
section PV
variable {X : am_X} {d : Nat} {s : mM} {Q : Option Value → am_H → Prop} {P r w pd row day left a c t p p2 n2 : Nat} {se : List Act} {v : Int32} {b : Bk} {l : List Nat}
set_option maxHeartbeats 1000000 in
theorem c42 (hF : Fx s) (hR : CR P s) (hW : CW r w pd row day left s) (hr5 : r ≤ 5) (hw5 : w ≤ 5) (hd5 : pd ≤ 5) (hQ : CQ s) (hK : KP P r w s) (hp : 114 ≤ p) (hp2 : 114 ≤ p2) (hB : Bo s p) (hS : Bs P b p s) (hN : Nu s p2 n2) (hl : NL s p2 l) (hl8 : ∀ x ∈ l, x < 8) (hll : l.length ≤ n2) (hl8l : l.length ≤ 8) (hl0 : 0 < l.length) (h70 : CZ s) (hrow : row < mn P) (hle : left ≤ 5) (hv : v = 0 ∨ v = 1)
    (hq : ∀ s', Fr pA s s' → CQ s' → KP P r w s' → CZ s' → Q (some (.int (wrd P v (bw P r w row left (cst P r w pd b l) (mn P))))) (mR s')) : gE X (d + 6) 42 [.ref 61, .ref p, .ref p2, .int v] (mR s) Q := by
  have hP5 := hR.2.2.1
  have hm := mn_le hP5
  have BEST : ∀ j x : Nat, x + j = mn P → ∀ s' z7 z8, Fr pA s s' → CQ s' → KP P r w s' → CZ s' → (∀ y, y < mn P → ri s' 69 y = nI (cst P r w pd b l y)) → gG X (d + 6) 42 130 [.ref 61, .ref p, .ref p2, .int v, .int (tI (bw P r w row left (cst P r w pd b l) x).1), .int (nI (bw P r w row left (cst P r w pd b l) x).2), .int (nI x), z7, z8] [] (mR s') Q := by
    intro j
    induction j with
    | zero =>
      intro x hj s' z7 z8 hf hQ hK hZ hhe
      have hj : x = mn P := by omega
      subst hj
      have hF := hF.fr hf
      have hR := hR.fr hf (by decide)
      have hW := hW.fr hf (by decide)
      obtain ⟨e1, e2, e3, e4, e5, e6⟩ := hW
      have hB := hB.fr hf
      have hS := hS.fr hf (nin (by decide) (by omega))
      have hN := hN.fr hf
      have hl := hl.fr hf (nin (by decide) (by omega)) (nin (by decide) (by omega))
      have hq := hq s' hf hQ hK hZ
      cases hb : bw P r w row left (cst P r w pd b l) (mn P) with
      | mk z u =>
        rw [hb] at hq
        cases z with
        | none =>
          show gG X (d + 6) 42 130 [.ref 61, .ref p, .ref p2, .int v, .int (-1), .int (nI u), .int (nI (mn P)), z7, z8] [] (mR s') Q
          refine g_p t42_130 rfl ?_
          refine g_p t42_132 rfl ?_
          refine r_getr t42_133 (f61 hF) rfl rfl ?_
          refine r_cv t42_136 (f19 hF) rfl ?_
          refine c76 (by exact hF) hR.2.1 ?_
          refine k_v ?_ rfl
          refine n_cge t42_139 (by omega) (by omega) (fun h139 => ?_) (fun h139 => ?_)
          · refine g_p t42_205 rfl ?_
            refine g_p t42_207 rfl ?_
            refine g_cne t42_208 (fun h208 => ?_) (fun h208 => ?_)
            · exact absurd rfl h208
            · refine g_p t42_211 rfl ?_
              exact i_ret t42_212 rfl hq
          · exfalso; omega
        | some g =>
          have hgm : g < mn P := bw_lt _ g (by rw [hb])
          show gG X (d + 6) 42 130 [.ref 61, .ref p, .ref p2, .int v, .int (nI g), .int (nI u), .int (nI (mn P)), z7, z8] [] (mR s') Q
          refine g_p t42_130 rfl ?_
          refine g_p t42_132 rfl ?_
          refine r_getr t42_133 (f61 hF) rfl rfl ?_
          refine r_cv t42_136 (f19 hF) rfl ?_
          refine c76 (by exact hF) hR.2.1 ?_
          refine k_v ?_ rfl
          refine n_cge t42_139 (by omega) (by omega) (fun h139 => ?_) (fun h139 => ?_)
          · refine g_p t42_205 rfl ?_
            refine g_p t42_207 rfl ?_
            refine g_cne t42_208 (fun h208 => ?_) (fun h208 => ?_)
            · refine g_p t42_213 rfl ?_
              refine g_ne t42_214 (fun h214 => ?_) (fun h214 => ?_)
              · refine g_p t42_222 rfl ?_
                refine r_getr t42_223 (f61 hF) rfl rfl ?_
                refine g_p t42_226 rfl ?_
                refine r_cv t42_228 (f19 hF) rfl ?_
                refine c85 (by exact hF) (by exact hR.1) hP5 (by exact hR.2.2.2.1) (Or.inl hgm) ?_
                refine k_v ?_ rfl
                first
                  | exact i_ret t42_231 (by unfold wrd; exact (if_pos h214).symm) hq
                  | exact i_ret t42_231 (by unfold wrd; exact (if_neg h214).symm) hq
              · refine g_p t42_217 rfl ?_
                refine g_goto t42_219 ?_
                first
                  | exact i_ret t42_231 (by unfold wrd; exact (if_pos h214).symm) hq
                  | exact i_ret t42_231 (by unfold wrd; exact (if_neg h214).symm) hq
            · refine g_p t42_211 rfl ?_
              exact absurd h208 (nI_m1 (by omega))
          · exfalso; omega
    | succ j ih =>
      intro x hj s' z7 z8 hf hQ hK hZ hhe
      have hxm : x < mn P := by omega
      have hbl := bw_le (P := P) (r := r) (w := w) (row := row) (left := left) (f := cst P r w pd b l) x
      have hcl := cst_le (P := P) (r := r) (w := w) (pd := pd) (a := x) (b := b) (l := l)
      have hdl := dst_le (P := P) (r := r) (w := w) (a := row) (x := x) hP5 (show 10 ≤ 15 by decide)
      have hhx := hhe x hxm
      have hF := hF.fr hf
      have hR := hR.fr hf (by decide)
      have hW := hW.fr hf (by decide)
      obtain ⟨e1, e2, e3, e4, e5, e6⟩ := hW
      have hB := hB.fr hf
      have hS := hS.fr hf (nin (by decide) (by omega))
      have hN := hN.fr hf
      have hl := hl.fr hf (nin (by decide) (by omega)) (nin (by decide) (by omega))
      refine g_p t42_130 rfl ?_
      refine g_p t42_132 rfl ?_
      refine r_getr t42_133 (f61 hF) rfl rfl ?_
      refine r_cv t42_136 (f19 hF) rfl ?_
      refine c76 (by exact hF) hR.2.1 ?_
      refine k_v ?_ rfl
      refine n_cge t42_139 (by omega) (by omega) (fun h139 => ?_) (fun h139 => ?_)
      · exfalso; omega
      · refine g_p t42_142 rfl ?_
        refine r_getr t42_143 (f61 hF) rfl rfl ?_
        refine g_p t42_146 rfl ?_
        refine r_getr t42_147 (f61 hF) rfl rfl ?_
        refine r_cv t42_150 (f32 hF) rfl ?_
        refine c96 (by exact hF) e4 ?_
        refine k_v ?_ rfl
        refine g_p t42_153 rfl ?_
        refine r_cv t42_155 (f50 hF) rfl ?_
        refine c67 (by exact hF) (by exact hR) (by exact e1) (by exact e2) hr5 hw5 (by exact hQ) (by exact hK) hrow hxm (fun s155 fr155 hQ hK => ?_)
        refine k_v ?_ rfl
        have hF := Fx.fr (by exact hF) fr155
        have e1 := (fr155.ri (p := 32) (i := 1) (by decide)).trans e1
        have e2 := (fr155.ri (p := 32) (i := 2) (by decide)).trans e2
        have e3 := (fr155.ri (p := 32) (i := 3) (by decide)).trans e3
        have e4 := (fr155.ri (p := 32) (i := 4) (by decide)).trans e4
        have e5 := (fr155.ri (p := 32) (i := 5) (by decide)).trans e5
        have e6 := (fr155.ri (p := 32) (i := 6) (by decide)).trans e6
        have hR := CR.fr (by exact hR) fr155 (by decide)
        refine g_is t42_158 (Nat.le_of_ble_eq_true rfl) (am_s1_7 rfl) ?_
        refine g_p t42_160 rfl ?_
        refine g_p t42_162 rfl ?_
        refine r_getr t42_163 (f61 hF) rfl rfl ?_
        refine g_p t42_166 rfl ?_
        refine r_cv t42_168 (f68 hF) rfl ?_
        refine c30e (by exact fN68 hF) (by omega) ((fr155.ri (p := 69) (i := x) (by decide)).trans hhx) ?_
        refine k_v ?_ rfl
        refine g_addn t42_171 ?_
        refine g_is t42_172 (Nat.le_of_ble_eq_true rfl) (am_s1_8 rfl) ?_
        refine g_p t42_174 rfl ?_
        refine g_p t42_176 rfl ?_
        refine g_k (n := 1) t42_177 rfl rfl ?_
        refine r_cv t42_178 (f61 hF) rfl ?_
        refine c41 (by exact hF) (by decide) (by exact e3) (by exact e6) ?_
        rw [if_pos rfl]
        refine k_v ?_ rfl
        refine n_cgt t42_181 (by omega) (by omega) (fun h181 => ?_) (fun h181 => ?_)
        · refine g_incn (n := 1) t42_199 rfl rfl (Nat.le_of_ble_eq_true rfl) (am_s1_6 rfl) ?_
          refine g_goto t42_202 ?_
          have hxx := (bw P r w row left (cst P r w pd b l) x).2
          first
            | (have hc : dst P r w 15 row x ≤ left ∧ dst P r w 15 row x + cst P r w pd b l x < (bw P r w row left (cst P r w pd b l) x).2 := ⟨Nat.le_of_not_lt h181, Nat.lt_of_not_le h188⟩
               have := ih (x + 1) (by omega) s155 (.int (nI (dst P r w 15 row x))) (.int (nI (dst P r w 15 row x + cst P r w pd b l x))) (hf.tr (fr155.mono (by decide))) hQ hK (hZ.fr fr155 (by decide) (by decide)) (fun y hy => (fr155.ri (p := 69) (by decide)).trans (hhe y hy))
               unfold bw at this
               rw [if_pos hc] at this
               exact this)
            | (have hc : ¬ (dst P r w 15 row x ≤ left ∧ dst P r w 15 row x + cst P r w pd b l x < (bw P r w row left (cst P r w pd b l) x).2) := by omega
               have := ih (x + 1) (by omega) s155 (.int (nI (dst P r w 15 row x))) (.int (nI (dst P r w 15 row x + cst P r w pd b l x))) (hf.tr (fr155.mono (by decide))) hQ hK (hZ.fr fr155 (by decide) (by decide)) (fun y hy => (fr155.ri (p := 69) (by decide)).trans (hhe y hy))
               unfold bw at this
               rw [if_neg hc] at this
               exact this)
        · refine g_p t42_184 rfl ?_
          refine g_p t42_186 rfl ?_
          refine n_cge t42_188 (by omega) (by omega) (fun h188 => ?_) (fun h188 => ?_)
          · refine g_incn (n := 1) t42_199 rfl rfl (Nat.le_of_ble_eq_true rfl) (am_s1_6 rfl) ?_
            refine g_goto t42_202 ?_
            have hxx := (bw P r w row left (cst P r w pd b l) x).2
            first
              | (have hc : dst P r w 15 row x ≤ left ∧ dst P r w 15 row x + cst P r w pd b l x < (bw P r w row left (cst P r w pd b l) x).2 := ⟨Nat.le_of_not_lt h181, Nat.lt_of_not_le h188⟩
                 have := ih (x + 1) (by omega) s155 (.int (nI (dst P r w 15 row x))) (.int (nI (dst P r w 15 row x + cst P r w pd b l x))) (hf.tr (fr155.mono (by decide))) hQ hK (hZ.fr fr155 (by decide) (by decide)) (fun y hy => (fr155.ri (p := 69) (by decide)).trans (hhe y hy))
                 unfold bw at this
                 rw [if_pos hc] at this
                 exact this)
              | (have hc : ¬ (dst P r w 15 row x ≤ left ∧ dst P r w 15 row x + cst P r w pd b l x < (bw P r w row left (cst P r w pd b l) x).2) := by omega
                 have := ih (x + 1) (by omega) s155 (.int (nI (dst P r w 15 row x))) (.int (nI (dst P r w 15 row x + cst P r w pd b l x))) (hf.tr (fr155.mono (by decide))) hQ hK (hZ.fr fr155 (by decide) (by decide)) (fun y hy => (fr155.ri (p := 69) (by decide)).trans (hhe y hy))
                 unfold bw at this
                 rw [if_neg hc] at this
                 exact this)
          · refine g_p t42_191 rfl ?_
            refine g_is t42_193 (Nat.le_of_ble_eq_true rfl) (am_s1_4 rfl) ?_
            refine g_p t42_195 rfl ?_
            refine g_is t42_197 (Nat.le_of_ble_eq_true rfl) (am_s1_5 rfl) ?_
            refine g_incn (n := 1) t42_199 rfl rfl (Nat.le_of_ble_eq_true rfl) (am_s1_6 rfl) ?_
            refine g_goto t42_202 ?_
            have hxx := (bw P r w row left (cst P r w pd b l) x).2
            first
              | (have hc : dst P r w 15 row x ≤ left ∧ dst P r w 15 row x + cst P r w pd b l x < (bw P r w row left (cst P r w pd b l) x).2 := ⟨Nat.le_of_not_lt h181, Nat.lt_of_not_le h188⟩
                 have := ih (x + 1) (by omega) s155 (.int (nI (dst P r w 15 row x))) (.int (nI (dst P r w 15 row x + cst P r w pd b l x))) (hf.tr (fr155.mono (by decide))) hQ hK (hZ.fr fr155 (by decide) (by decide)) (fun y hy => (fr155.ri (p := 69) (by decide)).trans (hhe y hy))
                 unfold bw at this
                 rw [if_pos hc] at this
                 exact this)
              | (have hc : ¬ (dst P r w 15 row x ≤ left ∧ dst P r w 15 row x + cst P r w pd b l x < (bw P r w row left (cst P r w pd b l) x).2) := by omega
                 have := ih (x + 1) (by omega) s155 (.int (nI (dst P r w 15 row x))) (.int (nI (dst P r w 15 row x + cst P r w pd b l x))) (hf.tr (fr155.mono (by decide))) hQ hK (hZ.fr fr155 (by decide) (by decide)) (fun y hy => (fr155.ri (p := 69) (by decide)).trans (hhe y hy))
                 unfold bw at this
                 rw [if_neg hc] at this
                 exact this)
  have OUT : ∀ m, m ≤ l.length → ∀ s' z5 z6 z7 z8, Fr pA s s' → CQ s' → KP P r w s' → (∀ y, y < mn P → ri s' 69 y = nI (cst P r w pd b (l.drop m) y)) → CZ s' → gG X (d + 6) 42 16 [.ref 61, .ref p, .ref p2, .int v, .int (pm m), z5, z6, z7, z8] [] (mR s') Q := by
    intro m
    induction m with
    | zero =>
      intro hml s' z5 z6 z7 z8 hf hQ hK hhe ht1
      rw [List.drop_zero] at hhe
      show gG X (d + 6) 42 16 [.ref 61, .ref p, .ref p2, .int v, .int (-1), z5, z6, z7, z8] [] (mR s') Q
      refine g_p t42_16 rfl ?_
      refine g_lt t42_18 (fun h18 => ?_) (fun h18 => ?_)
      · refine g_p t42_119 rfl ?_
        refine g_is t42_120 (Nat.le_of_ble_eq_true rfl) (am_s1_4 rfl) ?_
        refine g_k (n := 1000) t42_122 rfl rfl ?_
        refine g_is t42_125 (Nat.le_of_ble_eq_true rfl) (am_s1_5 rfl) ?_
        refine g_k (n := 0) t42_127 rfl rfl ?_
        refine g_is t42_128 (Nat.le_of_ble_eq_true rfl) (am_s1_6 rfl) ?_
        exact BEST (mn P) 0 (by omega) s' z7 z8 hf hQ hK ht1 hhe
      · exact absurd (show (-1 : Int32) < 0 by decide) h18
    | succ i ihm =>
      intro hml s' z5 z6 z7 z8 hf hQ hK hhe ht1
      have hil : i < l.length := hml
      show gG X (d + 6) 42 16 [.ref 61, .ref p, .ref p2, .int v, .int (nI i), z5, z6, z7, z8] [] (mR s') Q
      have INN : ∀ j x : Nat, x + j = mn P → ∀ s' z6 z7 z8, Fr pA s s' → CQ s' → KP P r w s' → (∀ y, y < mn P → ri s' 69 y = nI (cst P r w pd b (l.drop (i + 1)) y)) → (∀ y, y < x → ri s' 71 y = nI (cst P r w pd b (l.drop i) y)) → CZ s' →
          gG X (d + 6) 42 24 [.ref 61, .ref p, .ref p2, .int v, .int (nI i), .int (nI x), z6, z7, z8] [] (mR s') Q := by
        intro j
        induction j with
        | zero =>
          intro x hj s' z6 z7 z8 hf hQ hK hhe hth ht1
          have hj : x = mn P := by omega
          subst hj
          have hF := hF.fr hf
          have hR := hR.fr hf (by decide)
          have hW := hW.fr hf (by decide)
          obtain ⟨e1, e2, e3, e4, e5, e6⟩ := hW
          have hB := hB.fr hf
          have hS := hS.fr hf (nin (by decide) (by omega))
          have hN := hN.fr hf
          have hl := hl.fr hf (nin (by decide) (by omega)) (nin (by decide) (by omega))
          refine g_p t42_24 rfl ?_
          refine g_p t42_26 rfl ?_
          refine r_getr t42_27 (f61 hF) rfl rfl ?_
          refine r_cv t42_30 (f19 hF) rfl ?_
          refine c76 (by exact hF) hR.2.1 ?_
          refine k_v ?_ rfl
          refine n_cge t42_33 (by omega) (by omega) (fun h33 => ?_) (fun h33 => ?_)
          · refine g_p t42_102 rfl ?_
            refine r_getr t42_103 (f61 hF) rfl rfl ?_
            refine g_p t42_106 rfl ?_
            refine r_getr t42_107 (f61 hF) rfl rfl ?_
            refine r_cv t42_110 (f68 hF) rfl ?_
            refine c36c (by exact fN68 hF) (by exact fN70 hF) (by decide) (by exact ht1.2) (by decide) (fun s110 fr110 l110 t110 => ?_)
            refine k_0 ?_
            refine g_inc t42_113 rfl (Nat.le_of_ble_eq_true rfl) (am_s1_4 rfl) ?_
            rw [pm_s]
            refine g_goto t42_116 ?_
            exact ihm (by omega) s110 _ _ _ _ (hf.tr (fr110.mono (by decide))) (hQ.fr fr110 (by decide)) (hK.fr fr110 (by decide) (by decide)) (fun y hy => (t110 y (by omega)).trans (hth y hy)) ⟨l110, (fr110.ri (by decide)).trans ht1.2⟩
          · exfalso; omega
        | succ j ih =>
          intro x hj s' z6 z7 z8 hf hQ hK hhe hth ht1
          have hxm : x < mn P := by omega
          have hF := hF.fr hf
          have hR := hR.fr hf (by decide)
          have hW := hW.fr hf (by decide)
          obtain ⟨e1, e2, e3, e4, e5, e6⟩ := hW
          have hB := hB.fr hf
          have hS := hS.fr hf (nin (by decide) (by omega))
          have hN := hN.fr hf
          have hl := hl.fr hf (nin (by decide) (by omega)) (nin (by decide) (by omega))
          by_cases hs : std P r w x = true ∧ sy P b x = nI (l.getD i 0)
          · refine g_p t42_24 rfl ?_
            refine g_p t42_26 rfl ?_
            refine r_getr t42_27 (f61 hF) rfl rfl ?_
            refine r_cv t42_30 (f19 hF) rfl ?_
            refine c76 (by exact hF) hR.2.1 ?_
            refine k_v ?_ rfl
            refine n_cge t42_33 (by omega) (by omega) (fun h33 => ?_) (fun h33 => ?_)
            · exfalso; omega
            · refine g_p t42_36 rfl ?_
              refine r_getr t42_37 (f61 hF) rfl rfl ?_
              refine g_p t42_40 rfl ?_
              refine r_cv t42_42 (f32 hF) rfl ?_
              refine c103 (by exact hF) (by exact hR) (by omega) (by exact e1) (by exact e2) hr5 hw5 ?_
              refine k_v ?_ rfl
              refine b_eq t42_45 (fun h45 => ?_) (fun h45 => ?_)
              · first
                  | (rw [hs.1] at h45; exact absurd h45 (by decide))
                  | exact absurd hs.2 h60
              · refine g_p t42_48 rfl ?_
                refine g_p t42_49 rfl ?_
                refine r_cv t42_51 hB.1 rfl ?_
                refine c10 (by exact hB) (by omega) (by exact hS x hxm) ?_
                refine k_v ?_ rfl
                refine g_p t42_54 rfl ?_
                refine g_p t42_55 rfl ?_
                refine r_cv t42_57 hN.1 rfl ?_
                refine c30L hN (by exact hl) (by omega) (by omega) ?_
                refine k_v ?_ rfl
                refine g_cne t42_60 (fun h60 => ?_) (fun h60 => ?_)
                · first
                    | (rw [hs.1] at h45; exact absurd h45 (by decide))
                    | exact absurd hs.2 h60
                · refine g_k (n := 1) t42_63 rfl rfl ?_
                  refine g_goto t42_64 ?_
                  refine g_is t42_68 (Nat.le_of_ble_eq_true rfl) (am_s1_6 rfl) ?_
                  refine g_p t42_70 rfl ?_
                  refine r_getr t42_71 (f61 hF) rfl rfl ?_
                  refine g_p t42_74 rfl ?_
                  refine g_p t42_76 rfl ?_
                  refine n_eq t42_78 (by omega) (fun h78 => ?_) (fun h78 => ?_)
                  · exfalso; omega
                  · refine g_p t42_81 rfl ?_
                    refine g_p t42_82 rfl ?_
                    refine r_cv t42_84 (f61 hF) rfl ?_
                    refine c43 (by exact hF) (by exact hR) (by exact ⟨e1, e2, e3, e4, e5, e6⟩) hr5 hw5 hd5 (by exact hQ) (by exact hK) hxm (f := cst P r w pd b (l.drop (i + 1))) (fun y hy => ⟨hhe y hy, cst_le⟩) (fun s84 fr84 hQ hK => ?_)
                    refine k_v ?_ rfl
                    have hF := Fx.fr (by exact hF) fr84
                    have e1 := (fr84.ri (p := 32) (i := 1) (by decide)).trans e1
                    have e2 := (fr84.ri (p := 32) (i := 2) (by decide)).trans e2
                    have e3 := (fr84.ri (p := 32) (i := 3) (by decide)).trans e3
                    have e4 := (fr84.ri (p := 32) (i := 4) (by decide)).trans e4
                    have e5 := (fr84.ri (p := 32) (i := 5) (by decide)).trans e5
                    have e6 := (fr84.ri (p := 32) (i := 6) (by decide)).trans e6
                    have hl := NL.fr (p := p2) (by exact hl) fr84 (nin (by decide) (by omega)) (nin (by decide) (by omega))
                    refine g_goto t42_87 ?_
                    refine r_cv t42_93 (f70 hF) rfl ?_
                    refine c31 (by exact fN70 hF) (by omega) ?_
                    refine k_0 ?_
                    refine g_incn (n := 1) t42_96 rfl rfl (Nat.le_of_ble_eq_true rfl) (am_s1_5 rfl) ?_
                    refine g_goto t42_99 ?_
                    have e : cst P r w pd b (l.drop i) x = onf P r w pd (cst P r w pd b (l.drop (i + 1))) x (mn P) := by rw [cst_drop hil, if_pos hs]
                    refine ih (x + 1) (by omega) _ _ _ _ ((hf.tr (fr84.mono (by decide))).wi (p := 71) (by simp)) hQ hK (fun y hy => (fr84.ri (p := 69) (by decide)).trans (hhe y hy)) (fun y hy => ?_) (show CZ s84 from ht1.fr fr84 (by decide) (by decide))
                    by_cases h9 : y = x
                    · subst h9; rw [e]; exact ri_wi_eq
                    · exact (ri_wi_j h9).trans ((fr84.ri (p := 71) (by decide)).trans (hth y (by omega)))
          · refine g_p t42_24 rfl ?_
            refine g_p t42_26 rfl ?_
            refine r_getr t42_27 (f61 hF) rfl rfl ?_
            refine r_cv t42_30 (f19 hF) rfl ?_
            refine c76 (by exact hF) hR.2.1 ?_
            refine k_v ?_ rfl
            refine n_cge t42_33 (by omega) (by omega) (fun h33 => ?_) (fun h33 => ?_)
            · exfalso; omega
            · refine g_p t42_36 rfl ?_
              refine r_getr t42_37 (f61 hF) rfl rfl ?_
              refine g_p t42_40 rfl ?_
              refine r_cv t42_42 (f32 hF) rfl ?_
              refine c103 (by exact hF) (by exact hR) (by omega) (by exact e1) (by exact e2) hr5 hw5 ?_
              refine k_v ?_ rfl
              refine b_eq t42_45 (fun h45 => ?_) (fun h45 => ?_)
              · refine g_k (n := 0) t42_67 rfl rfl ?_
                refine g_is t42_68 (Nat.le_of_ble_eq_true rfl) (am_s1_6 rfl) ?_
                refine g_p t42_70 rfl ?_
                refine r_getr t42_71 (f61 hF) rfl rfl ?_
                refine g_p t42_74 rfl ?_
                refine g_p t42_76 rfl ?_
                refine n_eq t42_78 (by omega) (fun h78 => ?_) (fun h78 => ?_)
                · refine g_k (n := 1000) t42_90 rfl rfl ?_
                  refine r_cv t42_93 (f70 hF) rfl ?_
                  refine c31 (by exact fN70 hF) (by omega) ?_
                  refine k_0 ?_
                  refine g_incn (n := 1) t42_96 rfl rfl (Nat.le_of_ble_eq_true rfl) (am_s1_5 rfl) ?_
                  refine g_goto t42_99 ?_
                  have e : cst P r w pd b (l.drop i) x = 1000 := by rw [cst_drop hil, if_neg hs]
                  refine ih (x + 1) (by omega) _ _ _ _ (hf.wi (p := 71) (by simp)) hQ hK (fun y hy => hhe y hy) (fun y hy => ?_) ht1
                  by_cases h9 : y = x
                  · subst h9; rw [e]; exact ri_wi_eq
                  · exact (ri_wi_j h9).trans (hth y (by omega))
                · exfalso; omega
              · refine g_p t42_48 rfl ?_
                refine g_p t42_49 rfl ?_
                refine r_cv t42_51 hB.1 rfl ?_
                refine c10 (by exact hB) (by omega) (by exact hS x hxm) ?_
                refine k_v ?_ rfl
                refine g_p t42_54 rfl ?_
                refine g_p t42_55 rfl ?_
                refine r_cv t42_57 hN.1 rfl ?_
                refine c30L hN (by exact hl) (by omega) (by omega) ?_
                refine k_v ?_ rfl
                refine g_cne t42_60 (fun h60 => ?_) (fun h60 => ?_)
                · refine g_k (n := 0) t42_67 rfl rfl ?_
                  refine g_is t42_68 (Nat.le_of_ble_eq_true rfl) (am_s1_6 rfl) ?_
                  refine g_p t42_70 rfl ?_
                  refine r_getr t42_71 (f61 hF) rfl rfl ?_
                  refine g_p t42_74 rfl ?_
                  refine g_p t42_76 rfl ?_
                  refine n_eq t42_78 (by omega) (fun h78 => ?_) (fun h78 => ?_)
                  · refine g_k (n := 1000) t42_90 rfl rfl ?_
                    refine r_cv t42_93 (f70 hF) rfl ?_
                    refine c31 (by exact fN70 hF) (by omega) ?_
                    refine k_0 ?_
                    refine g_incn (n := 1) t42_96 rfl rfl (Nat.le_of_ble_eq_true rfl) (am_s1_5 rfl) ?_
                    refine g_goto t42_99 ?_
                    have e : cst P r w pd b (l.drop i) x = 1000 := by rw [cst_drop hil, if_neg hs]
                    refine ih (x + 1) (by omega) _ _ _ _ (hf.wi (p := 71) (by simp)) hQ hK (fun y hy => hhe y hy) (fun y hy => ?_) ht1
                    by_cases h9 : y = x
                    · subst h9; rw [e]; exact ri_wi_eq
                    · exact (ri_wi_j h9).trans (hth y (by omega))
                  · exfalso; omega
                · exact absurd ⟨h45, h60⟩ hs
      have hF := hF.fr hf
      have hR := hR.fr hf (by decide)
      have hW := hW.fr hf (by decide)
      obtain ⟨e1, e2, e3, e4, e5, e6⟩ := hW
      have hB := hB.fr hf
      have hS := hS.fr hf (nin (by decide) (by omega))
      have hN := hN.fr hf
      have hl := hl.fr hf (nin (by decide) (by omega)) (nin (by decide) (by omega))
      refine g_p t42_16 rfl ?_
      refine n_lt t42_18 (by omega) ?_
      refine g_k (n := 0) t42_21 rfl rfl ?_
      refine g_is t42_22 (Nat.le_of_ble_eq_true rfl) (am_s1_5 rfl) ?_
      exact INN (mn P) 0 (by omega) s' z6 z7 z8 hf hQ hK hhe (fun y hy => absurd hy (Nat.not_lt_zero y)) ht1
  refine en42 rfl rfl rfl rfl ?_
  refine g_p t42_0 rfl ?_
  refine r_getr t42_1 (f61 hF) rfl rfl ?_
  refine g_k (n := 0) t42_4 rfl rfl ?_
  refine r_cv t42_5 (f68 hF) rfl ?_
  refine c32f (by exact fN68 hF) (fun s5 fr5 z5 => ?_)
  refine k_0 ?_
  have hF := Fx.fr (by exact hF) fr5
  have hl := NL.fr (p := p2) (by exact hl) fr5 (nin (by decide) (by omega)) (nin (by decide) (by omega))
  have hN := hN.fr fr5
  refine g_p t42_8 rfl ?_
  refine r_cv t42_9 hN.1 rfl ?_
  refine c29L hN (by exact hl) ?_
  refine k_v ?_ rfl
  refine g_k (n := 1) t42_12 rfl rfl ?_
  refine g_subn t42_13 (by omega) ?_
  refine g_is t42_14 (Nat.le_of_ble_eq_true rfl) (am_s1_4 rfl) ?_
  obtain ⟨k, hk⟩ : ∃ k, l.length = k + 1 := ⟨l.length - 1, by omega⟩
  have := OUT (k + 1) (by omega) s5 (.float 0) (.float 0) (.float 0) (.float 0) (fr5.mono (by decide)) (hQ.fr fr5 (by decide)) (hK.fr fr5 (by decide) (by decide)) (fun y hy => by
    rw [← hk, List.drop_length]; exact z5 y (by omega)) (h70.fr fr5 (by decide) (by decide))
  rw [hk]
  exact this
end PV
