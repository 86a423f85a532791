/-! PLANS, 2: a word at once -/
theorem nin {A : List Nat} {q : Nat} (hA : ∀ x ∈ A, x < 114) (h : 114 ≤ q) : q ∉ A := fun h2 => by have := hA q h2; omega
theorem drop_cons {l : List Nat} {i : Nat} (h : i < l.length) : l.drop i = l.getD i 0 :: l.drop (i + 1) := by
  rw [List.drop_eq_getElem_cons h, gD_lt h]
theorem cst_drop {P r w pd a : Nat} {b : Bk} {l : List Nat} {i : Nat} (h : i < l.length) : cst P r w pd b (l.drop i) a = if std P r w a = true ∧ sy P b a = nI (l.getD i 0) then (if i + 1 = l.length then 0 else onf P r w pd (cst P r w pd b (l.drop (i + 1))) a (mn P)) else 1000 := by
  rw [drop_cons h, cst.eq_def]
  show (if std P r w a = true ∧ sy P b a = nI (l.getD i 0) then (match l.drop (i + 1) with
    | [] => 0
    | y :: u => onf P r w pd (cst P r w pd b (y :: u)) a (mn P)) else 1000) = _
  by_cases h2 : i + 1 = l.length
  · rw [if_pos h2, h2, List.drop_length]
  · rw [if_neg h2, drop_cons (show i + 1 < l.length by omega)]
theorem c32f {X : am_X} {d : Nat} {s : mM} {Q : Option Value → am_H → Prop} {p n : Nat} {v : Int32} (h : Nu s p n) (hq : ∀ s', Fr [p + 1] s s' → (∀ i, i < n → ri s' (p + 1) i = v) → Q none (mR s')) : gE X d 32 [.ref p, .int v] (mR s) Q :=
  c32 h (hq _ (Fr.rf.wf (by simp)) (fun i hi => by rw [ri_wf, if_pos rfl, m_fill, if_pos hi]))
def CZ (s : mM) : Prop := ri s 68 1 = nI 0 ∧ ri s 70 1 = nI 0
theorem CZ.fr {A : List Nat} {s s' : mM} (h : CZ s) (f : Fr A s s') (h1 : 68 ∉ A) (h2 : 70 ∉ A) : CZ s' := ⟨(f.ri h1).trans h.1, (f.ri h2).trans h.2⟩
abbrev pA : List Nat := [68, 69, 70, 71] ++ kA
section PV
variable {X : am_X} {d : Nat} {s : mM} {Q : Option Value → am_H → Prop} {P r w pd row day left a c t p p2 n2 : Nat} {se : List Act} {v : Int32} {b : Bk} {l : List Nat}
set_option maxHeartbeats 1000000 in
theorem c42 (hF : Fx s) (hR : CR P s) (hW : CW r w pd row day left s) (hr5 : r ≤ 5) (hw5 : w ≤ 5) (hd5 : pd ≤ 5) (hQ : CQ s) (hK : KP P r w s) (hp : 114 ≤ p) (hp2 : 114 ≤ p2) (hB : Bo s p) (hS : Bs P b p s) (hN : Nu s p2 n2) (hl : NL s p2 l) (hl8 : ∀ x ∈ l, x < 8) (hll : l.length ≤ n2) (hl8l : l.length ≤ 8) (hl0 : 0 < l.length) (h70 : CZ s) (hrow : row < mn P) (hle : left ≤ 5) (hv : v = 0 ∨ v = 1)
    (hq : ∀ s', Fr pA s s' → CQ s' → KP P r w s' → CZ s' → Q (some (.int (wrd P v (bw P r w row left (cst P r w pd b l) (mn P))))) (mR s')) : gE X (d + 6) 42 [.ref 61, .ref p, .ref p2, .int v] (mR s) Q := by
  have hP5 := hR.2.2.1
  have hm := mn_le hP5
  have BEST : ∀ j x : Nat, x + j = mn P → ∀ s' z7 z8, am_nl z7 = true → Fr pA s s' → CQ s' → KP P r w s' → CZ s' → (∀ y, y < mn P → ri s' 69 y = nI (cst P r w pd b l y)) → gG X (d + 6) 42 161 [.ref 61, .ref p, .ref p2, .int v, .int (tI (bw P r w row left (cst P r w pd b l) x).1), .int (nI (bw P r w row left (cst P r w pd b l) x).2), .int (nI x), z7, z8] [] (mR s') Q := by
    intro j
    induction j with
    | zero =>
      intro x hj s' z7 z8 n7 hf hQ hK hZ hhe
      have hj : x = mn P := by omega
      subst hj
      have hF := hF.fr hf
      have hR := hR.fr hf (by decide)
      have hW := hW.fr hf (by decide)
      obtain ⟨e1, e2, e3, e4, e5, e6⟩ := hW
      have hB := hB.fr hf
      have hS := hS.fr hf (nin (by decide) (by omega))
      have hN := hN.fr hf
      have hl := hl.fr hf (nin (by decide) (by omega)) (nin (by decide) (by omega))
      have hq := hq s' hf hQ hK hZ
      cases hb : bw P r w row left (cst P r w pd b l) (mn P) with
      | mk z u =>
        rw [hb] at hq
        cases z with
        | none =>
          show gG X (d + 6) 42 161 [.ref 61, .ref p, .ref p2, .int v, .int (-1), .int (nI u), .int (nI (mn P)), z7, z8] [] (mR s') Q
          refine g_p t42_161 rfl ?_
          refine g_p t42_163 rfl ?_
          refine r_getr t42_164 (f61 hF) rfl rfl ?_
          refine r_cv t42_167 (f19 hF) rfl ?_
          refine c76 (by exact hF) hR.2.1 ?_
          refine k_v ?_ rfl
          refine n_cge t42_170 (by omega) (by omega) (fun h170 => ?_) (fun h170 => ?_)
          · refine g_p t42_236 rfl ?_
            refine g_p t42_238 rfl ?_
            refine g_cne t42_239 (fun h239 => ?_) (fun h239 => ?_)
            · exact absurd rfl h239
            · refine g_p t42_242 rfl ?_
              exact i_ret t42_243 rfl hq
          · exfalso; omega
        | some g =>
          have hgm : g < mn P := bw_lt _ g (by rw [hb])
          show gG X (d + 6) 42 161 [.ref 61, .ref p, .ref p2, .int v, .int (nI g), .int (nI u), .int (nI (mn P)), z7, z8] [] (mR s') Q
          refine g_p t42_161 rfl ?_
          refine g_p t42_163 rfl ?_
          refine r_getr t42_164 (f61 hF) rfl rfl ?_
          refine r_cv t42_167 (f19 hF) rfl ?_
          refine c76 (by exact hF) hR.2.1 ?_
          refine k_v ?_ rfl
          refine n_cge t42_170 (by omega) (by omega) (fun h170 => ?_) (fun h170 => ?_)
          · refine g_p t42_236 rfl ?_
            refine g_p t42_238 rfl ?_
            refine g_cne t42_239 (fun h239 => ?_) (fun h239 => ?_)
            · refine g_p t42_244 rfl ?_
              refine g_ne t42_245 (fun h245 => ?_) (fun h245 => ?_)
              · refine g_p t42_253 rfl ?_
                refine r_getr t42_254 (f61 hF) rfl rfl ?_
                refine g_p t42_257 rfl ?_
                refine r_cv t42_259 (f19 hF) rfl ?_
                refine c85 (by exact hF) (by exact hR.1) hP5 (by exact hR.2.2.2.1) (Or.inl hgm) ?_
                refine k_v ?_ rfl
                first
                  | exact i_ret t42_262 (by unfold wrd; exact (if_pos h245).symm) hq
                  | exact i_ret t42_262 (by unfold wrd; exact (if_neg h245).symm) hq
              · refine g_p t42_248 rfl ?_
                refine g_goto t42_250 ?_
                first
                  | exact i_ret t42_262 (by unfold wrd; exact (if_pos h245).symm) hq
                  | exact i_ret t42_262 (by unfold wrd; exact (if_neg h245).symm) hq
            · refine g_p t42_242 rfl ?_
              exact absurd h239 (nI_m1 (by omega))
          · exfalso; omega
    | succ j ih =>
      intro x hj s' z7 z8 n7 hf hQ hK hZ hhe
      have hxm : x < mn P := by omega
      have hbl := bw_le (P := P) (r := r) (w := w) (row := row) (left := left) (f := cst P r w pd b l) x
      have hcl := cst_le (P := P) (r := r) (w := w) (pd := pd) (a := x) (b := b) (l := l)
      have hdl := dst_le (P := P) (r := r) (w := w) (a := row) (x := x) hP5 (show 10 ≤ 15 by decide)
      have hhx := hhe x hxm
      have hF := hF.fr hf
      have hR := hR.fr hf (by decide)
      have hW := hW.fr hf (by decide)
      obtain ⟨e1, e2, e3, e4, e5, e6⟩ := hW
      have hB := hB.fr hf
      have hS := hS.fr hf (nin (by decide) (by omega))
      have hN := hN.fr hf
      have hl := hl.fr hf (nin (by decide) (by omega)) (nin (by decide) (by omega))
      refine g_p t42_161 rfl ?_
      refine g_p t42_163 rfl ?_
      refine r_getr t42_164 (f61 hF) rfl rfl ?_
      refine r_cv t42_167 (f19 hF) rfl ?_
      refine c76 (by exact hF) hR.2.1 ?_
      refine k_v ?_ rfl
      refine n_cge t42_170 (by omega) (by omega) (fun h170 => ?_) (fun h170 => ?_)
      · exfalso; omega
      · refine g_p t42_173 rfl ?_
        refine r_getr t42_174 (f61 hF) rfl rfl ?_
        refine g_p t42_177 rfl ?_
        refine r_getr t42_178 (f61 hF) rfl rfl ?_
        refine r_cv t42_181 (f32 hF) rfl ?_
        refine c96 (by exact hF) e4 ?_
        refine k_v ?_ rfl
        refine g_p t42_184 rfl ?_
        refine r_cv t42_186 (f50 hF) rfl ?_
        refine c67 (by exact hF) (by exact hR) (by exact e1) (by exact e2) hr5 hw5 (by exact hQ) (by exact hK) hrow hxm (fun s186 fr186 hQ hK => ?_)
        refine k_v ?_ rfl
        have hF := Fx.fr (by exact hF) fr186
        have e1 := (fr186.ri (p := 32) (i := 1) (by decide)).trans e1
        have e2 := (fr186.ri (p := 32) (i := 2) (by decide)).trans e2
        have e3 := (fr186.ri (p := 32) (i := 3) (by decide)).trans e3
        have e4 := (fr186.ri (p := 32) (i := 4) (by decide)).trans e4
        have e5 := (fr186.ri (p := 32) (i := 5) (by decide)).trans e5
        have e6 := (fr186.ri (p := 32) (i := 6) (by decide)).trans e6
        have hR := CR.fr (by exact hR) fr186 (by decide)
        refine g_is t42_189 (Nat.le_of_ble_eq_true rfl) (am_s1_7 rfl) ?_
        refine g_p t42_191 rfl ?_
        refine g_p t42_193 rfl ?_
        refine r_getr t42_194 (f61 hF) rfl rfl ?_
        refine g_p t42_197 rfl ?_
        refine r_cv t42_199 (f68 hF) rfl ?_
        refine c30e (by exact fN68 hF) (by omega) ((fr186.ri (p := 69) (i := x) (by decide)).trans hhx) ?_
        refine k_v ?_ rfl
        refine g_addn t42_202 ?_
        refine g_is t42_203 (Nat.le_of_ble_eq_true rfl) (am_s1_8 rfl) ?_
        refine g_p t42_205 rfl ?_
        refine g_p t42_207 rfl ?_
        refine g_k (n := 1) t42_208 rfl rfl ?_
        refine r_cv t42_209 (f61 hF) rfl ?_
        refine c41 (by exact hF) (by decide) (by exact e3) (by exact e6) ?_
        rw [if_pos rfl]
        refine k_v ?_ rfl
        refine n_cgt t42_212 (by omega) (by omega) (fun h212 => ?_) (fun h212 => ?_)
        · refine g_incn (n := 1) t42_230 rfl rfl (Nat.le_of_ble_eq_true rfl) (am_s1_6 rfl) ?_
          refine g_goto t42_233 ?_
          have hxx := (bw P r w row left (cst P r w pd b l) x).2
          first
            | (have hc : dst P r w 15 row x ≤ left ∧ dst P r w 15 row x + cst P r w pd b l x < (bw P r w row left (cst P r w pd b l) x).2 := ⟨Nat.le_of_not_lt h212, Nat.lt_of_not_le h219⟩
               have := ih (x + 1) (by omega) s186 (.int (nI (dst P r w 15 row x))) (.int (nI (dst P r w 15 row x + cst P r w pd b l x))) rfl (hf.tr (fr186.mono (by decide))) hQ hK (hZ.fr fr186 (by decide) (by decide)) (fun y hy => (fr186.ri (p := 69) (by decide)).trans (hhe y hy))
               unfold bw at this
               rw [if_pos hc] at this
               exact this)
            | (have hc : ¬ (dst P r w 15 row x ≤ left ∧ dst P r w 15 row x + cst P r w pd b l x < (bw P r w row left (cst P r w pd b l) x).2) := by omega
               have := ih (x + 1) (by omega) s186 (.int (nI (dst P r w 15 row x))) (.int (nI (dst P r w 15 row x + cst P r w pd b l x))) rfl (hf.tr (fr186.mono (by decide))) hQ hK (hZ.fr fr186 (by decide) (by decide)) (fun y hy => (fr186.ri (p := 69) (by decide)).trans (hhe y hy))
               unfold bw at this
               rw [if_neg hc] at this
               exact this)
        · refine g_p t42_215 rfl ?_
          refine g_p t42_217 rfl ?_
          refine n_cge t42_219 (by omega) (by omega) (fun h219 => ?_) (fun h219 => ?_)
          · refine g_incn (n := 1) t42_230 rfl rfl (Nat.le_of_ble_eq_true rfl) (am_s1_6 rfl) ?_
            refine g_goto t42_233 ?_
            have hxx := (bw P r w row left (cst P r w pd b l) x).2
            first
              | (have hc : dst P r w 15 row x ≤ left ∧ dst P r w 15 row x + cst P r w pd b l x < (bw P r w row left (cst P r w pd b l) x).2 := ⟨Nat.le_of_not_lt h212, Nat.lt_of_not_le h219⟩
                 have := ih (x + 1) (by omega) s186 (.int (nI (dst P r w 15 row x))) (.int (nI (dst P r w 15 row x + cst P r w pd b l x))) rfl (hf.tr (fr186.mono (by decide))) hQ hK (hZ.fr fr186 (by decide) (by decide)) (fun y hy => (fr186.ri (p := 69) (by decide)).trans (hhe y hy))
                 unfold bw at this
                 rw [if_pos hc] at this
                 exact this)
              | (have hc : ¬ (dst P r w 15 row x ≤ left ∧ dst P r w 15 row x + cst P r w pd b l x < (bw P r w row left (cst P r w pd b l) x).2) := by omega
                 have := ih (x + 1) (by omega) s186 (.int (nI (dst P r w 15 row x))) (.int (nI (dst P r w 15 row x + cst P r w pd b l x))) rfl (hf.tr (fr186.mono (by decide))) hQ hK (hZ.fr fr186 (by decide) (by decide)) (fun y hy => (fr186.ri (p := 69) (by decide)).trans (hhe y hy))
                 unfold bw at this
                 rw [if_neg hc] at this
                 exact this)
          · refine g_p t42_222 rfl ?_
            refine g_is t42_224 (Nat.le_of_ble_eq_true rfl) (am_s1_4 rfl) ?_
            refine g_p t42_226 rfl ?_
            refine g_is t42_228 (Nat.le_of_ble_eq_true rfl) (am_s1_5 rfl) ?_
            refine g_incn (n := 1) t42_230 rfl rfl (Nat.le_of_ble_eq_true rfl) (am_s1_6 rfl) ?_
            refine g_goto t42_233 ?_
            have hxx := (bw P r w row left (cst P r w pd b l) x).2
            first
              | (have hc : dst P r w 15 row x ≤ left ∧ dst P r w 15 row x + cst P r w pd b l x < (bw P r w row left (cst P r w pd b l) x).2 := ⟨Nat.le_of_not_lt h212, Nat.lt_of_not_le h219⟩
                 have := ih (x + 1) (by omega) s186 (.int (nI (dst P r w 15 row x))) (.int (nI (dst P r w 15 row x + cst P r w pd b l x))) rfl (hf.tr (fr186.mono (by decide))) hQ hK (hZ.fr fr186 (by decide) (by decide)) (fun y hy => (fr186.ri (p := 69) (by decide)).trans (hhe y hy))
                 unfold bw at this
                 rw [if_pos hc] at this
                 exact this)
              | (have hc : ¬ (dst P r w 15 row x ≤ left ∧ dst P r w 15 row x + cst P r w pd b l x < (bw P r w row left (cst P r w pd b l) x).2) := by omega
                 have := ih (x + 1) (by omega) s186 (.int (nI (dst P r w 15 row x))) (.int (nI (dst P r w 15 row x + cst P r w pd b l x))) rfl (hf.tr (fr186.mono (by decide))) hQ hK (hZ.fr fr186 (by decide) (by decide)) (fun y hy => (fr186.ri (p := 69) (by decide)).trans (hhe y hy))
                 unfold bw at this
                 rw [if_neg hc] at this
                 exact this)
  have OUT : ∀ m, m ≤ l.length → ∀ s' z5 z6 z7 z8, am_nl z5 = true → am_nl z6 = true → am_nl z7 = true → Fr pA s s' → CQ s' → KP P r w s' → (∀ y, y < mn P → ri s' 69 y = nI (cst P r w pd b (l.drop m) y)) → CZ s' → gG X (d + 6) 42 16 [.ref 61, .ref p, .ref p2, .int v, .int (pm m), z5, z6, z7, z8] [] (mR s') Q := by
    intro m
    induction m with
    | zero =>
      intro hml s' z5 z6 z7 z8 n5 n6 n7 hf hQ hK hhe ht1
      rw [List.drop_zero] at hhe
      show gG X (d + 6) 42 16 [.ref 61, .ref p, .ref p2, .int v, .int (-1), z5, z6, z7, z8] [] (mR s') Q
      refine g_p t42_16 rfl ?_
      refine g_lt t42_18 (fun h18 => ?_) (fun h18 => ?_)
      · refine g_p t42_150 rfl ?_
        refine g_is t42_151 (Nat.le_of_ble_eq_true rfl) (am_s1_4 rfl) ?_
        refine g_k (n := 1000) t42_153 rfl rfl ?_
        refine g_is t42_156 (Nat.le_of_ble_eq_true rfl) (am_s1_5 rfl) ?_
        refine g_k (n := 0) t42_158 rfl rfl ?_
        refine g_is t42_159 (Nat.le_of_ble_eq_true rfl) (am_s1_6 rfl) ?_
        exact BEST (mn P) 0 (by omega) s' z7 z8 n7 hf hQ hK ht1 hhe
      · exact absurd (show (-1 : Int32) < 0 by decide) h18
    | succ i ihm =>
      intro hml s' z5 z6 z7 z8 n5 n6 n7 hf hQ hK hhe ht1
      have hil : i < l.length := hml
      show gG X (d + 6) 42 16 [.ref 61, .ref p, .ref p2, .int v, .int (nI i), z5, z6, z7, z8] [] (mR s') Q
      have INN : ∀ lb, (lb = 1 ∧ i + 1 = l.length) ∨ (lb = 0 ∧ i + 1 < l.length) → ∀ j x : Nat, x + j = mn P → ∀ s' z7 z8, am_nl z7 = true → Fr pA s s' → CQ s' → KP P r w s' → (∀ y, y < mn P → ri s' 69 y = nI (cst P r w pd b (l.drop (i + 1)) y)) → (∀ y, y < x → ri s' 71 y = nI (cst P r w pd b (l.drop i) y)) → CZ s' →
          gG X (d + 6) 42 42 [.ref 61, .ref p, .ref p2, .int v, .int (nI i), .int (nI lb), .int (nI x), z7, z8] [] (mR s') Q := by
        intro lb hlb j
        induction j with
        | zero =>
          intro x hj s' z7 z8 n7 hf hQ hK hhe hth ht1
          have hj : x = mn P := by omega
          subst hj
          have hF := hF.fr hf
          have hR := hR.fr hf (by decide)
          have hW := hW.fr hf (by decide)
          obtain ⟨e1, e2, e3, e4, e5, e6⟩ := hW
          have hB := hB.fr hf
          have hS := hS.fr hf (nin (by decide) (by omega))
          have hN := hN.fr hf
          have hl := hl.fr hf (nin (by decide) (by omega)) (nin (by decide) (by omega))
          refine g_p t42_42 rfl ?_
          refine g_p t42_44 rfl ?_
          refine r_getr t42_45 (f61 hF) rfl rfl ?_
          refine r_cv t42_48 (f19 hF) rfl ?_
          refine c76 (by exact hF) hR.2.1 ?_
          refine k_v ?_ rfl
          refine n_cge t42_51 (by omega) (by omega) (fun h51 => ?_) (fun h51 => ?_)
          · refine g_p t42_133 rfl ?_
            refine r_getr t42_134 (f61 hF) rfl rfl ?_
            refine g_p t42_137 rfl ?_
            refine r_getr t42_138 (f61 hF) rfl rfl ?_
            refine r_cv t42_141 (f68 hF) rfl ?_
            refine c36c (by exact fN68 hF) (by exact fN70 hF) (by decide) (by exact ht1.2) (by decide) (fun s141 fr141 l141 t141 => ?_)
            refine k_0 ?_
            refine g_inc t42_144 rfl (Nat.le_of_ble_eq_true rfl) (am_s1_4 rfl) ?_
            rw [pm_s]
            refine g_goto t42_147 ?_
            exact ihm (by omega) s141 _ _ z7 z8 rfl rfl n7 (hf.tr (fr141.mono (by decide))) (hQ.fr fr141 (by decide)) (hK.fr fr141 (by decide) (by decide)) (fun y hy => (t141 y (by omega)).trans (hth y hy)) ⟨l141, (fr141.ri (by decide)).trans ht1.2⟩
          · exfalso; omega
        | succ j ih =>
          intro x hj s' z7 z8 n7 hf hQ hK hhe hth ht1
          have hxm : x < mn P := by omega
          have hF := hF.fr hf
          have hR := hR.fr hf (by decide)
          have hW := hW.fr hf (by decide)
          obtain ⟨e1, e2, e3, e4, e5, e6⟩ := hW
          have hB := hB.fr hf
          have hS := hS.fr hf (nin (by decide) (by omega))
          have hN := hN.fr hf
          have hl := hl.fr hf (nin (by decide) (by omega)) (nin (by decide) (by omega))
          rcases hlb with hlb | hlb
          · by_cases hs : std P r w x = true ∧ sy P b x = nI (l.getD i 0)
            · refine g_p t42_42 rfl ?_
              refine g_p t42_44 rfl ?_
              refine r_getr t42_45 (f61 hF) rfl rfl ?_
              refine r_cv t42_48 (f19 hF) rfl ?_
              refine c76 (by exact hF) hR.2.1 ?_
              refine k_v ?_ rfl
              refine n_cge t42_51 (by omega) (by omega) (fun h51 => ?_) (fun h51 => ?_)
              · exfalso; omega
              · refine g_p t42_54 rfl ?_
                refine r_getr t42_55 (f61 hF) rfl rfl ?_
                refine g_p t42_58 rfl ?_
                refine r_cv t42_60 (f32 hF) rfl ?_
                refine c103 (by exact hF) (by exact hR) (by omega) (by exact e1) (by exact e2) hr5 hw5 ?_
                refine k_v ?_ rfl
                refine b_eq t42_63 (fun h63 => ?_) (fun h63 => ?_)
                · first
                    | (rw [hs.1] at h63; exact absurd h63 (by decide))
                    | exact absurd hs.2 h78
                · refine g_p t42_66 rfl ?_
                  refine g_p t42_67 rfl ?_
                  refine r_cv t42_69 hB.1 rfl ?_
                  refine c10 (by exact hB) (by omega) (by exact hS x hxm) ?_
                  refine k_v ?_ rfl
                  refine g_p t42_72 rfl ?_
                  refine g_p t42_73 rfl ?_
                  refine r_cv t42_75 hN.1 rfl ?_
                  refine c30L hN (by exact hl) (by omega) (by omega) ?_
                  refine k_v ?_ rfl
                  refine g_cne t42_78 (fun h78 => ?_) (fun h78 => ?_)
                  · first
                      | (rw [hs.1] at h63; exact absurd h63 (by decide))
                      | exact absurd hs.2 h78
                  · refine g_k (n := 1) t42_81 rfl rfl ?_
                    refine g_goto t42_82 ?_
                    refine g_is t42_86 (Nat.le_of_ble_eq_true rfl) (am_s1_7 rfl) ?_
                    refine g_p t42_88 rfl ?_
                    refine n_eq t42_90 (by omega) (fun h90 => ?_) (fun h90 => ?_)
                    · exfalso; omega
                    · refine g_k (n := 0) t42_93 rfl rfl ?_
                      refine g_goto t42_94 ?_
                      refine g_is t42_103 (Nat.le_of_ble_eq_true rfl) (am_s1_8 rfl) ?_
                      refine g_p t42_105 rfl ?_
                      refine r_getr t42_106 (f61 hF) rfl rfl ?_
                      refine g_p t42_109 rfl ?_
                      refine g_p t42_111 rfl ?_
                      refine n_eq t42_113 (by omega) (fun h113 => ?_) (fun h113 => ?_)
                      · exfalso; omega
                      · refine g_p t42_116 rfl ?_
                        refine g_goto t42_118 ?_
                        refine r_cv t42_124 (f70 hF) rfl ?_
                        refine c31 (by exact fN70 hF) (by omega) ?_
                        refine k_0 ?_
                        refine g_incn (n := 1) t42_127 rfl rfl (Nat.le_of_ble_eq_true rfl) (am_s1_6 rfl) ?_
                        refine g_goto t42_130 ?_
                        have e : cst P r w pd b (l.drop i) x = 0 := by rw [cst_drop hil, if_pos hs, if_pos (by omega)]
                        refine ih (x + 1) (by omega) _ (.int (nI 1)) (.int (nI 0)) rfl (hf.wi (p := 71) (by simp)) hQ hK (fun y hy => hhe y hy) (fun y hy => ?_) ht1
                        by_cases h9 : y = x
                        · subst h9; rw [e]; exact ri_wi_eq
                        · exact (ri_wi_j h9).trans (hth y (by omega))
            · refine g_p t42_42 rfl ?_
              refine g_p t42_44 rfl ?_
              refine r_getr t42_45 (f61 hF) rfl rfl ?_
              refine r_cv t42_48 (f19 hF) rfl ?_
              refine c76 (by exact hF) hR.2.1 ?_
              refine k_v ?_ rfl
              refine n_cge t42_51 (by omega) (by omega) (fun h51 => ?_) (fun h51 => ?_)
              · exfalso; omega
              · refine g_p t42_54 rfl ?_
                refine r_getr t42_55 (f61 hF) rfl rfl ?_
                refine g_p t42_58 rfl ?_
                refine r_cv t42_60 (f32 hF) rfl ?_
                refine c103 (by exact hF) (by exact hR) (by omega) (by exact e1) (by exact e2) hr5 hw5 ?_
                refine k_v ?_ rfl
                refine b_eq t42_63 (fun h63 => ?_) (fun h63 => ?_)
                · refine g_k (n := 0) t42_85 rfl rfl ?_
                  refine g_is t42_86 (Nat.le_of_ble_eq_true rfl) (am_s1_7 rfl) ?_
                  refine g_p t42_88 rfl ?_
                  refine n_eq t42_90 (by omega) (fun h90 => ?_) (fun h90 => ?_)
                  · exfalso; omega
                  · refine g_k (n := 0) t42_93 rfl rfl ?_
                    refine g_goto t42_94 ?_
                    refine g_is t42_103 (Nat.le_of_ble_eq_true rfl) (am_s1_8 rfl) ?_
                    refine g_p t42_105 rfl ?_
                    refine r_getr t42_106 (f61 hF) rfl rfl ?_
                    refine g_p t42_109 rfl ?_
                    refine g_p t42_111 rfl ?_
                    refine n_eq t42_113 (by omega) (fun h113 => ?_) (fun h113 => ?_)
                    · refine g_k (n := 1000) t42_121 rfl rfl ?_
                      refine r_cv t42_124 (f70 hF) rfl ?_
                      refine c31 (by exact fN70 hF) (by omega) ?_
                      refine k_0 ?_
                      refine g_incn (n := 1) t42_127 rfl rfl (Nat.le_of_ble_eq_true rfl) (am_s1_6 rfl) ?_
                      refine g_goto t42_130 ?_
                      have e : cst P r w pd b (l.drop i) x = 1000 := by rw [cst_drop hil, if_neg hs]
                      refine ih (x + 1) (by omega) _ (.int (nI 0)) (.int (nI 0)) rfl (hf.wi (p := 71) (by simp)) hQ hK (fun y hy => hhe y hy) (fun y hy => ?_) ht1
                      by_cases h9 : y = x
                      · subst h9; rw [e]; exact ri_wi_eq
                      · exact (ri_wi_j h9).trans (hth y (by omega))
                    · exfalso; omega
                · refine g_p t42_66 rfl ?_
                  refine g_p t42_67 rfl ?_
                  refine r_cv t42_69 hB.1 rfl ?_
                  refine c10 (by exact hB) (by omega) (by exact hS x hxm) ?_
                  refine k_v ?_ rfl
                  refine g_p t42_72 rfl ?_
                  refine g_p t42_73 rfl ?_
                  refine r_cv t42_75 hN.1 rfl ?_
                  refine c30L hN (by exact hl) (by omega) (by omega) ?_
                  refine k_v ?_ rfl
                  refine g_cne t42_78 (fun h78 => ?_) (fun h78 => ?_)
                  · refine g_k (n := 0) t42_85 rfl rfl ?_
                    refine g_is t42_86 (Nat.le_of_ble_eq_true rfl) (am_s1_7 rfl) ?_
                    refine g_p t42_88 rfl ?_
                    refine n_eq t42_90 (by omega) (fun h90 => ?_) (fun h90 => ?_)
                    · exfalso; omega
                    · refine g_k (n := 0) t42_93 rfl rfl ?_
                      refine g_goto t42_94 ?_
                      refine g_is t42_103 (Nat.le_of_ble_eq_true rfl) (am_s1_8 rfl) ?_
                      refine g_p t42_105 rfl ?_
                      refine r_getr t42_106 (f61 hF) rfl rfl ?_
                      refine g_p t42_109 rfl ?_
                      refine g_p t42_111 rfl ?_
                      refine n_eq t42_113 (by omega) (fun h113 => ?_) (fun h113 => ?_)
                      · refine g_k (n := 1000) t42_121 rfl rfl ?_
                        refine r_cv t42_124 (f70 hF) rfl ?_
                        refine c31 (by exact fN70 hF) (by omega) ?_
                        refine k_0 ?_
                        refine g_incn (n := 1) t42_127 rfl rfl (Nat.le_of_ble_eq_true rfl) (am_s1_6 rfl) ?_
                        refine g_goto t42_130 ?_
                        have e : cst P r w pd b (l.drop i) x = 1000 := by rw [cst_drop hil, if_neg hs]
                        refine ih (x + 1) (by omega) _ (.int (nI 0)) (.int (nI 0)) rfl (hf.wi (p := 71) (by simp)) hQ hK (fun y hy => hhe y hy) (fun y hy => ?_) ht1
                        by_cases h9 : y = x
                        · subst h9; rw [e]; exact ri_wi_eq
                        · exact (ri_wi_j h9).trans (hth y (by omega))
                      · exfalso; omega
                  · exact absurd ⟨h63, h78⟩ hs
          · by_cases hs : std P r w x = true ∧ sy P b x = nI (l.getD i 0)
            · refine g_p t42_42 rfl ?_
              refine g_p t42_44 rfl ?_
              refine r_getr t42_45 (f61 hF) rfl rfl ?_
              refine r_cv t42_48 (f19 hF) rfl ?_
              refine c76 (by exact hF) hR.2.1 ?_
              refine k_v ?_ rfl
              refine n_cge t42_51 (by omega) (by omega) (fun h51 => ?_) (fun h51 => ?_)
              · exfalso; omega
              · refine g_p t42_54 rfl ?_
                refine r_getr t42_55 (f61 hF) rfl rfl ?_
                refine g_p t42_58 rfl ?_
                refine r_cv t42_60 (f32 hF) rfl ?_
                refine c103 (by exact hF) (by exact hR) (by omega) (by exact e1) (by exact e2) hr5 hw5 ?_
                refine k_v ?_ rfl
                refine b_eq t42_63 (fun h63 => ?_) (fun h63 => ?_)
                · first
                    | (rw [hs.1] at h63; exact absurd h63 (by decide))
                    | exact absurd hs.2 h78
                · refine g_p t42_66 rfl ?_
                  refine g_p t42_67 rfl ?_
                  refine r_cv t42_69 hB.1 rfl ?_
                  refine c10 (by exact hB) (by omega) (by exact hS x hxm) ?_
                  refine k_v ?_ rfl
                  refine g_p t42_72 rfl ?_
                  refine g_p t42_73 rfl ?_
                  refine r_cv t42_75 hN.1 rfl ?_
                  refine c30L hN (by exact hl) (by omega) (by omega) ?_
                  refine k_v ?_ rfl
                  refine g_cne t42_78 (fun h78 => ?_) (fun h78 => ?_)
                  · first
                      | (rw [hs.1] at h63; exact absurd h63 (by decide))
                      | exact absurd hs.2 h78
                  · refine g_k (n := 1) t42_81 rfl rfl ?_
                    refine g_goto t42_82 ?_
                    refine g_is t42_86 (Nat.le_of_ble_eq_true rfl) (am_s1_7 rfl) ?_
                    refine g_p t42_88 rfl ?_
                    refine n_eq t42_90 (by omega) (fun h90 => ?_) (fun h90 => ?_)
                    · refine g_p t42_97 rfl ?_
                      refine g_p t42_98 rfl ?_
                      refine r_cv t42_100 (f61 hF) rfl ?_
                      refine c43 (by exact hF) (by exact hR) (by exact ⟨e1, e2, e3, e4, e5, e6⟩) hr5 hw5 hd5 (by exact hQ) (by exact hK) hxm (f := cst P r w pd b (l.drop (i + 1))) (fun y hy => ⟨hhe y hy, cst_le⟩) (fun s100 fr100 hQ hK => ?_)
                      refine k_v ?_ rfl
                      have hF := Fx.fr (by exact hF) fr100
                      have e1 := (fr100.ri (p := 32) (i := 1) (by decide)).trans e1
                      have e2 := (fr100.ri (p := 32) (i := 2) (by decide)).trans e2
                      have e3 := (fr100.ri (p := 32) (i := 3) (by decide)).trans e3
                      have e4 := (fr100.ri (p := 32) (i := 4) (by decide)).trans e4
                      have e5 := (fr100.ri (p := 32) (i := 5) (by decide)).trans e5
                      have e6 := (fr100.ri (p := 32) (i := 6) (by decide)).trans e6
                      have hl := NL.fr (p := p2) (by exact hl) fr100 (nin (by decide) (by omega)) (nin (by decide) (by omega))
                      refine g_is t42_103 (Nat.le_of_ble_eq_true rfl) (am_s1_8 rfl) ?_
                      refine g_p t42_105 rfl ?_
                      refine r_getr t42_106 (f61 hF) rfl rfl ?_
                      refine g_p t42_109 rfl ?_
                      refine g_p t42_111 rfl ?_
                      refine n_eq t42_113 (by omega) (fun h113 => ?_) (fun h113 => ?_)
                      · exfalso; omega
                      · refine g_p t42_116 rfl ?_
                        refine g_goto t42_118 ?_
                        refine r_cv t42_124 (f70 hF) rfl ?_
                        refine c31 (by exact fN70 hF) (by omega) ?_
                        refine k_0 ?_
                        refine g_incn (n := 1) t42_127 rfl rfl (Nat.le_of_ble_eq_true rfl) (am_s1_6 rfl) ?_
                        refine g_goto t42_130 ?_
                        have e : cst P r w pd b (l.drop i) x = onf P r w pd (cst P r w pd b (l.drop (i + 1))) x (mn P) := by rw [cst_drop hil, if_pos hs, if_neg (by omega)]
                        refine ih (x + 1) (by omega) _ (.int (nI 1)) (.int (nI (onf P r w pd (cst P r w pd b (l.drop (i + 1))) x (mn P)))) rfl ((hf.tr (fr100.mono (by decide))).wi (p := 71) (by simp)) hQ hK (fun y hy => (fr100.ri (p := 69) (by decide)).trans (hhe y hy)) (fun y hy => ?_) (show CZ s100 from ht1.fr fr100 (by decide) (by decide))
                        by_cases h9 : y = x
                        · subst h9; rw [e]; exact ri_wi_eq
                        · exact (ri_wi_j h9).trans ((fr100.ri (p := 71) (by decide)).trans (hth y (by omega)))
                    · exfalso; omega
            · refine g_p t42_42 rfl ?_
              refine g_p t42_44 rfl ?_
              refine r_getr t42_45 (f61 hF) rfl rfl ?_
              refine r_cv t42_48 (f19 hF) rfl ?_
              refine c76 (by exact hF) hR.2.1 ?_
              refine k_v ?_ rfl
              refine n_cge t42_51 (by omega) (by omega) (fun h51 => ?_) (fun h51 => ?_)
              · exfalso; omega
              · refine g_p t42_54 rfl ?_
                refine r_getr t42_55 (f61 hF) rfl rfl ?_
                refine g_p t42_58 rfl ?_
                refine r_cv t42_60 (f32 hF) rfl ?_
                refine c103 (by exact hF) (by exact hR) (by omega) (by exact e1) (by exact e2) hr5 hw5 ?_
                refine k_v ?_ rfl
                refine b_eq t42_63 (fun h63 => ?_) (fun h63 => ?_)
                · refine g_k (n := 0) t42_85 rfl rfl ?_
                  refine g_is t42_86 (Nat.le_of_ble_eq_true rfl) (am_s1_7 rfl) ?_
                  refine g_p t42_88 rfl ?_
                  refine n_eq t42_90 (by omega) (fun h90 => ?_) (fun h90 => ?_)
                  · refine g_p t42_97 rfl ?_
                    refine g_p t42_98 rfl ?_
                    refine r_cv t42_100 (f61 hF) rfl ?_
                    refine c43 (by exact hF) (by exact hR) (by exact ⟨e1, e2, e3, e4, e5, e6⟩) hr5 hw5 hd5 (by exact hQ) (by exact hK) hxm (f := cst P r w pd b (l.drop (i + 1))) (fun y hy => ⟨hhe y hy, cst_le⟩) (fun s100 fr100 hQ hK => ?_)
                    refine k_v ?_ rfl
                    have hF := Fx.fr (by exact hF) fr100
                    have e1 := (fr100.ri (p := 32) (i := 1) (by decide)).trans e1
                    have e2 := (fr100.ri (p := 32) (i := 2) (by decide)).trans e2
                    have e3 := (fr100.ri (p := 32) (i := 3) (by decide)).trans e3
                    have e4 := (fr100.ri (p := 32) (i := 4) (by decide)).trans e4
                    have e5 := (fr100.ri (p := 32) (i := 5) (by decide)).trans e5
                    have e6 := (fr100.ri (p := 32) (i := 6) (by decide)).trans e6
                    have hl := NL.fr (p := p2) (by exact hl) fr100 (nin (by decide) (by omega)) (nin (by decide) (by omega))
                    refine g_is t42_103 (Nat.le_of_ble_eq_true rfl) (am_s1_8 rfl) ?_
                    refine g_p t42_105 rfl ?_
                    refine r_getr t42_106 (f61 hF) rfl rfl ?_
                    refine g_p t42_109 rfl ?_
                    refine g_p t42_111 rfl ?_
                    refine n_eq t42_113 (by omega) (fun h113 => ?_) (fun h113 => ?_)
                    · refine g_k (n := 1000) t42_121 rfl rfl ?_
                      refine r_cv t42_124 (f70 hF) rfl ?_
                      refine c31 (by exact fN70 hF) (by omega) ?_
                      refine k_0 ?_
                      refine g_incn (n := 1) t42_127 rfl rfl (Nat.le_of_ble_eq_true rfl) (am_s1_6 rfl) ?_
                      refine g_goto t42_130 ?_
                      have e : cst P r w pd b (l.drop i) x = 1000 := by rw [cst_drop hil, if_neg hs]
                      refine ih (x + 1) (by omega) _ (.int (nI 0)) (.int (nI (onf P r w pd (cst P r w pd b (l.drop (i + 1))) x (mn P)))) rfl ((hf.tr (fr100.mono (by decide))).wi (p := 71) (by simp)) hQ hK (fun y hy => (fr100.ri (p := 69) (by decide)).trans (hhe y hy)) (fun y hy => ?_) (show CZ s100 from ht1.fr fr100 (by decide) (by decide))
                      by_cases h9 : y = x
                      · subst h9; rw [e]; exact ri_wi_eq
                      · exact (ri_wi_j h9).trans ((fr100.ri (p := 71) (by decide)).trans (hth y (by omega)))
                    · exfalso; omega
                  · exfalso; omega
                · refine g_p t42_66 rfl ?_
                  refine g_p t42_67 rfl ?_
                  refine r_cv t42_69 hB.1 rfl ?_
                  refine c10 (by exact hB) (by omega) (by exact hS x hxm) ?_
                  refine k_v ?_ rfl
                  refine g_p t42_72 rfl ?_
                  refine g_p t42_73 rfl ?_
                  refine r_cv t42_75 hN.1 rfl ?_
                  refine c30L hN (by exact hl) (by omega) (by omega) ?_
                  refine k_v ?_ rfl
                  refine g_cne t42_78 (fun h78 => ?_) (fun h78 => ?_)
                  · refine g_k (n := 0) t42_85 rfl rfl ?_
                    refine g_is t42_86 (Nat.le_of_ble_eq_true rfl) (am_s1_7 rfl) ?_
                    refine g_p t42_88 rfl ?_
                    refine n_eq t42_90 (by omega) (fun h90 => ?_) (fun h90 => ?_)
                    · refine g_p t42_97 rfl ?_
                      refine g_p t42_98 rfl ?_
                      refine r_cv t42_100 (f61 hF) rfl ?_
                      refine c43 (by exact hF) (by exact hR) (by exact ⟨e1, e2, e3, e4, e5, e6⟩) hr5 hw5 hd5 (by exact hQ) (by exact hK) hxm (f := cst P r w pd b (l.drop (i + 1))) (fun y hy => ⟨hhe y hy, cst_le⟩) (fun s100 fr100 hQ hK => ?_)
                      refine k_v ?_ rfl
                      have hF := Fx.fr (by exact hF) fr100
                      have e1 := (fr100.ri (p := 32) (i := 1) (by decide)).trans e1
                      have e2 := (fr100.ri (p := 32) (i := 2) (by decide)).trans e2
                      have e3 := (fr100.ri (p := 32) (i := 3) (by decide)).trans e3
                      have e4 := (fr100.ri (p := 32) (i := 4) (by decide)).trans e4
                      have e5 := (fr100.ri (p := 32) (i := 5) (by decide)).trans e5
                      have e6 := (fr100.ri (p := 32) (i := 6) (by decide)).trans e6
                      have hl := NL.fr (p := p2) (by exact hl) fr100 (nin (by decide) (by omega)) (nin (by decide) (by omega))
                      refine g_is t42_103 (Nat.le_of_ble_eq_true rfl) (am_s1_8 rfl) ?_
                      refine g_p t42_105 rfl ?_
                      refine r_getr t42_106 (f61 hF) rfl rfl ?_
                      refine g_p t42_109 rfl ?_
                      refine g_p t42_111 rfl ?_
                      refine n_eq t42_113 (by omega) (fun h113 => ?_) (fun h113 => ?_)
                      · refine g_k (n := 1000) t42_121 rfl rfl ?_
                        refine r_cv t42_124 (f70 hF) rfl ?_
                        refine c31 (by exact fN70 hF) (by omega) ?_
                        refine k_0 ?_
                        refine g_incn (n := 1) t42_127 rfl rfl (Nat.le_of_ble_eq_true rfl) (am_s1_6 rfl) ?_
                        refine g_goto t42_130 ?_
                        have e : cst P r w pd b (l.drop i) x = 1000 := by rw [cst_drop hil, if_neg hs]
                        refine ih (x + 1) (by omega) _ (.int (nI 0)) (.int (nI (onf P r w pd (cst P r w pd b (l.drop (i + 1))) x (mn P)))) rfl ((hf.tr (fr100.mono (by decide))).wi (p := 71) (by simp)) hQ hK (fun y hy => (fr100.ri (p := 69) (by decide)).trans (hhe y hy)) (fun y hy => ?_) (show CZ s100 from ht1.fr fr100 (by decide) (by decide))
                        by_cases h9 : y = x
                        · subst h9; rw [e]; exact ri_wi_eq
                        · exact (ri_wi_j h9).trans ((fr100.ri (p := 71) (by decide)).trans (hth y (by omega)))
                      · exfalso; omega
                    · exfalso; omega
                  · exact absurd ⟨h63, h78⟩ hs
      have hF := hF.fr hf
      have hR := hR.fr hf (by decide)
      have hW := hW.fr hf (by decide)
      obtain ⟨e1, e2, e3, e4, e5, e6⟩ := hW
      have hB := hB.fr hf
      have hS := hS.fr hf (nin (by decide) (by omega))
      have hN := hN.fr hf
      have hl := hl.fr hf (nin (by decide) (by omega)) (nin (by decide) (by omega))
      refine g_p t42_16 rfl ?_
      refine n_lt t42_18 (by omega) ?_
      refine g_p t42_21 rfl ?_
      refine g_p t42_23 rfl ?_
      refine r_cv t42_24 hN.1 rfl ?_
      refine c29L hN (by exact hl) ?_
      refine k_v ?_ rfl
      refine g_k (n := 1) t42_27 rfl rfl ?_
      refine g_subn t42_28 (by omega) ?_
      refine n_cne t42_29 (by omega) (by omega) (fun h29 => ?_) (fun h29 => ?_)
      · refine g_k (n := 0) t42_36 rfl rfl ?_
        refine g_is t42_37 (Nat.le_of_ble_eq_true rfl) (am_s1_5 rfl) ?_
        refine g_k (n := 0) t42_39 rfl rfl ?_
        refine g_is t42_40 (Nat.le_of_ble_eq_true rfl) (am_s1_6 rfl) ?_
        first
          | exact INN 1 (Or.inl ⟨rfl, by omega⟩) (mn P) 0 (by omega) s' z7 z8 n7 hf hQ hK hhe (fun y hy => absurd hy (Nat.not_lt_zero y)) ht1
          | exact INN 0 (Or.inr ⟨rfl, by omega⟩) (mn P) 0 (by omega) s' z7 z8 n7 hf hQ hK hhe (fun y hy => absurd hy (Nat.not_lt_zero y)) ht1
      · refine g_k (n := 1) t42_32 rfl rfl ?_
        refine g_goto t42_33 ?_
        refine g_is t42_37 (Nat.le_of_ble_eq_true rfl) (am_s1_5 rfl) ?_
        refine g_k (n := 0) t42_39 rfl rfl ?_
        refine g_is t42_40 (Nat.le_of_ble_eq_true rfl) (am_s1_6 rfl) ?_
        first
          | exact INN 1 (Or.inl ⟨rfl, by omega⟩) (mn P) 0 (by omega) s' z7 z8 n7 hf hQ hK hhe (fun y hy => absurd hy (Nat.not_lt_zero y)) ht1
          | exact INN 0 (Or.inr ⟨rfl, by omega⟩) (mn P) 0 (by omega) s' z7 z8 n7 hf hQ hK hhe (fun y hy => absurd hy (Nat.not_lt_zero y)) ht1
  refine en42 rfl rfl rfl rfl ?_
  refine g_p t42_0 rfl ?_
  refine r_getr t42_1 (f61 hF) rfl rfl ?_
  refine g_k (n := 0) t42_4 rfl rfl ?_
  refine r_cv t42_5 (f68 hF) rfl ?_
  refine c32f (by exact fN68 hF) (fun s5 fr5 z5 => ?_)
  refine k_0 ?_
  have hF := Fx.fr (by exact hF) fr5
  have hl := NL.fr (p := p2) (by exact hl) fr5 (nin (by decide) (by omega)) (nin (by decide) (by omega))
  have hN := hN.fr fr5
  refine g_p t42_8 rfl ?_
  refine r_cv t42_9 hN.1 rfl ?_
  refine c29L hN (by exact hl) ?_
  refine k_v ?_ rfl
  refine g_k (n := 1) t42_12 rfl rfl ?_
  refine g_subn t42_13 (by omega) ?_
  refine g_is t42_14 (Nat.le_of_ble_eq_true rfl) (am_s1_4 rfl) ?_
  obtain ⟨k, hk⟩ : ∃ k, l.length = k + 1 := ⟨l.length - 1, by omega⟩
  have := OUT (k + 1) (by omega) s5 (.float 0) (.float 0) (.float 0) (.float 0) rfl rfl rfl (fr5.mono (by decide)) (hQ.fr fr5 (by decide)) (hK.fr fr5 (by decide) (by decide)) (fun y hy => by
    rw [← hk, List.drop_length]; exact z5 y (by omega)) (h70.fr fr5 (by decide) (by decide))
  rw [hk]
  exact this
end PV
