/-! READERS: FlowerPots$Reader -/
def sgn (t : List Nat) (j : Nat) : Nat := t.getD j 0
/-- past the blanks -/
def skp (t : List Nat) (i : Nat) : Nat := i + ((t.drop i).takeWhile fun x => x == 32).length
theorem skp_b {t : List Nat} {i : Nat} (h : i < t.length) (h2 : t.getD i 0 = 32) : skp t i = skp t (i + 1) := by
  unfold skp
  rw [drop_cons h, List.takeWhile_cons, h2]
  simp only [beq_self_eq_true, if_true, List.length_cons]
  omega
theorem skp_n {t : List Nat} {i : Nat} (h : i < t.length → t.getD i 0 ≠ 32) : skp t i = i := by
  unfold skp
  rcases Nat.lt_or_ge i t.length with h2 | h2
  · rw [drop_cons h2, List.takeWhile_cons]
    have : (t.getD i 0 == 32) = false := by simpa using h h2
    rw [this]; rfl
  · rw [List.drop_eq_nil_of_le h2]; rfl
theorem tw_le : ∀ l : List Nat, (l.takeWhile fun x => x == 32).length ≤ l.length := by
  intro l
  induction l with
  | nil => exact Nat.le_refl _
  | cons x u ih =>
    rw [List.takeWhile_cons]
    split
    · simp only [List.length_cons]; omega
    · exact Nat.zero_le _
theorem skp_le {t : List Nat} {i : Nat} (h : i ≤ t.length) : i ≤ skp t i ∧ skp t i ≤ t.length := by
  unfold skp
  have h1 := tw_le (t.drop i)
  rw [List.length_drop] at h1
  omega
abbrev Ps : Type := Nat ⊕ Nat
def psg (t : List Nat) : Ps → Nat
  | .inl j => sgn t j
  | .inr _ => 0
def pst (t : List Nat) : Ps → Ps
  | .inl j => .inl (skp t (j + 1))
  | .inr f => .inr f
def pre : Ps → Ps
  | .inl j => .inr j
  | .inr f => .inr f
def pne (t : List Nat) (w : Nat) (σ : Ps) : Ps := if psg t σ = w then pst t σ else pre σ
def psk (t : List Nat) (w : Nat) (σ : Ps) : Ps := if psg t σ = w then pst t σ else σ
def pfi (t : List Nat) (σ : Ps) : Ps := if psg t σ = 0 then σ else pre σ
def pfv : Ps → Int32
  | .inl _ => -1
  | .inr f => nI f
/-- a digit between bounds -/
def pdv (t : List Nat) (lo hi : Nat) (σ : Ps) : Nat := if 48 + lo ≤ psg t σ ∧ psg t σ ≤ 48 + hi then psg t σ - 48 else lo
def pdg (t : List Nat) (lo hi : Nat) (σ : Ps) : Ps := if 48 + lo ≤ psg t σ ∧ psg t σ ≤ 48 + hi then pst t σ else pre σ
def plv (t : List Nat) (σ : Ps) : Nat := if 97 ≤ psg t σ ∧ psg t σ ≤ 104 then psg t σ - 97 else 0
def plt (t : List Nat) (σ : Ps) : Ps := if 97 ≤ psg t σ ∧ psg t σ ≤ 104 then pst t σ else pre σ
/-- the text at T -/
def TX (T n : Nat) (t : List Nat) (s : mM) : Prop := Nu s T n ∧ NL s T t ∧ t.length ≤ n ∧ t.length ≤ 120 ∧ T + 2 < 2 ^ 31 ∧ ∀ x ∈ t, x < 256 ∧ x ≠ 0
theorem TX.fr {A : List Nat} {T n : Nat} {t : List Nat} {s s' : mM} (h : TX T n t s) (f : Fr A s s') (h1 : T ∉ A) (h2 : T + 1 ∉ A) : TX T n t s' := ⟨h.1.fr f, h.2.1.fr f h1 h2, h.2.2⟩
def RS (R : Nat) (t : List Nat) (σ : Ps) (s : mM) : Prop := match σ with
  | .inl j => ri s R 1 = nI j ∧ ri s R 2 = nI (sgn t j) ∧ ri s R 3 = -1 ∧ j ≤ t.length
  | .inr f => ri s R 2 = nI 0 ∧ ri s R 3 = nI f ∧ f ≤ t.length
theorem RS_sg {R : Nat} {t : List Nat} {σ : Ps} {s : mM} (h : RS R t σ s) : ri s R 2 = nI (psg t σ) := by
  cases σ with
  | inl j => exact h.2.1
  | inr f => exact h.1
theorem RS.fr {A : List Nat} {R : Nat} {t : List Nat} {σ : Ps} {s s' : mM} (h : RS R t σ s) (f : Fr A s s') (h1 : R ∉ A) : RS R t σ s' := by
  cases σ with
  | inl j => exact ⟨(f.ri h1).trans h.1, (f.ri h1).trans h.2.1, (f.ri h1).trans h.2.2.1, h.2.2.2⟩
  | inr g => exact ⟨(f.ri h1).trans h.1, (f.ri h1).trans h.2.1, h.2.2⟩
/-- the same but for position, sign and fault of the reader R -/
def FR (R : Nat) (s s' : mM) : Prop := Fr [R] s s' ∧ ∀ i, i = 0 ∨ 4 ≤ i → ri s' R i = ri s R i
theorem FR.rf {R : Nat} {s : mM} : FR R s s := ⟨Fr.rf, fun _ _ => rfl⟩
theorem FR.tr {R : Nat} {s s' s'' : mM} (h : FR R s s') (h2 : FR R s' s'') : FR R s s'' := ⟨h.1.tr h2.1, fun i hi => (h2.2 i hi).trans (h.2 i hi)⟩
theorem FR.wi {R i : Nat} {s s' : mM} {v : Int32} (h : FR R s s') (h1 : 1 ≤ i) (h3 : i ≤ 3) : FR R s (wi s' R i v) := ⟨h.1.wi (by simp), fun k hk => (ri_wi_j (by omega)).trans (h.2 k hk)⟩
theorem sgn_lt {T n : Nat} {t : List Nat} {s : mM} (h : TX T n t s) (j : Nat) : sgn t j < 256 := by
  unfold sgn
  rcases Nat.lt_or_ge j t.length with h1 | h1
  · rw [gD_lt h1]; exact (h.2.2.2.2.2 _ (List.getElem_mem h1)).1
  · rw [List.getD, List.getElem?_eq_none h1]; decide
theorem psg_lt {T n : Nat} {t : List Nat} {s : mM} (h : TX T n t s) (σ : Ps) : psg t σ < 256 := by
  cases σ with
  | inl j => exact sgn_lt h j
  | inr f => exact (by decide : 0 < 256)
theorem sgn_pos {t : List Nat} {j : Nat} (h : sgn t j ≠ 0) : j < t.length := by
  rcases Nat.lt_or_ge j t.length with h1 | h1
  · exact h1
  · exact absurd (by unfold sgn; rw [List.getD, List.getElem?_eq_none h1]; rfl) h
theorem sgn_nz {T n : Nat} {t : List Nat} {s : mM} (h : TX T n t s) {j : Nat} (hj : j < t.length) : sgn t j = t.getD j 0 ∧ sgn t j ≠ 0 := by
  refine ⟨rfl, ?_⟩
  unfold sgn
  rw [gD_lt hj]; exact (h.2.2.2.2.2 _ (List.getElem_mem hj)).2
section RE
variable {X : am_X} {d : Nat} {s : mM} {hp : am_H} {Q : Option Value → am_H → Prop} {T n : Nat} {t : List Nat} {σ : Ps} {v : Int32}
theorem c52_3 (hF : Fx s) (hS : RS 3 t σ s) (hq : Q (some (.int (nI (psg t σ)))) (mR s)) : gE X d 52 [.ref 3] (mR s) Q := by
  have e := RS_sg hS
  refine en52 rfl ?_
  refine g_p t52_0 rfl ?_
  refine r_gete t52_1 (f3 hF) rfl rfl e ?_
  exact i_ret t52_4 rfl hq
theorem c53w_3 (hF : Fx s) (hX : TX T n t s) (hTR : T ≠ 3 ∧ T + 1 ≠ 3) (hw : ri s 3 0 = nI (T + 2)) {m : Nat} (hv : ri s 3 1 + 1 = nI m) (hm : m ≤ t.length) (hf : ri s 3 3 = -1) (hq : ∀ s', FR 3 s s' → RS 3 t (.inl (skp t m)) s' → Q none (mR s')) : gE X d 53 [.ref 3] (mR s) Q := by
  obtain ⟨x1, x2, x3, x4, x5, x6⟩ := hX
  have hX : TX T n t s := ⟨x1, x2, x3, x4, x5, x6⟩
  have hn := x1.2.2
  have E : ∀ s', FR 3 s s' → ri s' 3 3 = -1 → ri s' 3 1 = nI (skp t m) → skp t m ≤ t.length → gG X d 53 90 [.ref 3, .int (nI t.length)] [] (mR s') Q := by
    intro s' hfr hf h1 hle
    have hF := hF.fr hfr.1
    have hX := hX.fr hfr.1 (by simp only [List.mem_singleton]; exact hTR.1) (by simp only [List.mem_singleton]; exact hTR.2)
    have hw := (hfr.2 0 (Or.inl rfl)).trans hw
    refine g_p t53_90 rfl ?_
    refine g_p t53_91 rfl ?_
    refine r_gete t53_92 (f3 hF) rfl rfl h1 ?_
    refine n_lt t53_95 (by omega) ?_
    refine g_p t53_98 rfl ?_
    refine r_gete t53_99 (f3 hF) rfl rfl h1 ?_
    refine g_p t53_102 rfl ?_
    refine n_cge t53_103 (by omega) (by omega) (fun h103 => ?_) (fun h103 => ?_)
    · refine g_k (n := 0) t53_121 rfl rfl ?_
      refine r_puti t53_122 (f3 hF) rfl rfl ?_
      first
        | (have u0 := h103
           refine v_ret t53_125 (hq _ (hfr.wi (i := 2) (by decide) (by decide)) ⟨h1, ?_, hf, hle⟩)
           refine ri_wi_eq.trans ?_
           first
             | exact hX.2.1.2 _ (Nat.lt_of_not_le u0)
             | (have u1 : t.length ≤ skp t m := u0
                unfold sgn
                rw [List.getD, List.getElem?_eq_none u1]
                rfl))
    · refine g_p t53_106 rfl ?_
      refine r_getq t53_107 (f3 hF) rfl rfl hw (m_rq_r hX.2.2.2.2.1) ?_
      refine r_getr t53_110 hX.1.1 rfl rfl ?_
      refine g_p t53_113 rfl ?_
      refine r_gete t53_114 (f3 hF) rfl rfl h1 ?_
      refine r_iald t53_117 hX.1.2.1 hX.1.2.2 (by omega) ?_
      refine g_goto t53_118 ?_
      refine r_puti t53_122 (f3 hF) rfl rfl ?_
      first
        | (have u0 := h103
           refine v_ret t53_125 (hq _ (hfr.wi (i := 2) (by decide) (by decide)) ⟨h1, ?_, hf, hle⟩)
           refine ri_wi_eq.trans ?_
           first
             | exact hX.2.1.2 _ (Nat.lt_of_not_le u0)
             | (have u1 : t.length ≤ skp t m := u0
                unfold sgn
                rw [List.getD, List.getElem?_eq_none u1]
                rfl))
  have K : ∀ j i : Nat, i + j = t.length → skp t m = skp t i → ∀ s', FR 3 s s' → ri s' 3 3 = -1 → ri s' 3 1 = nI i → gG X d 53 45 [.ref 3, .int (nI t.length)] [] (mR s') Q := by
    intro j
    induction j with
    | zero =>
      intro i hj he s' hfr hf h1
      have hj : i = t.length := by omega
      subst hj
      have hF := hF.fr hfr.1
      have hsk : skp t m = t.length := by rw [he]; exact skp_n (fun h => absurd h (Nat.lt_irrefl _))
      refine g_p t53_45 rfl ?_
      refine r_gete t53_46 (f3 hF) rfl rfl h1 ?_
      refine n_lt t53_49 (by omega) ?_
      refine g_p t53_52 rfl ?_
      refine r_gete t53_53 (f3 hF) rfl rfl h1 ?_
      refine g_p t53_56 rfl ?_
      refine n_cge t53_57 (by omega) (by omega) (fun h57 => ?_) (fun h57 => ?_)
      · exact E s' hfr hf (h1.trans (by rw [hsk])) (by omega)
      · exfalso; omega
    | succ j ih =>
      intro i hj he s' hfr hf h1
      have hil : i < t.length := by omega
      have hF := hF.fr hfr.1
      have hX := hX.fr hfr.1 (by simp only [List.mem_singleton]; exact hTR.1) (by simp only [List.mem_singleton]; exact hTR.2)
      have hw := (hfr.2 0 (Or.inl rfl)).trans hw
      have hti := hX.2.1.2 i hil
      have htl := sgn_lt hX i
      unfold sgn at htl
      refine g_p t53_45 rfl ?_
      refine r_gete t53_46 (f3 hF) rfl rfl h1 ?_
      refine n_lt t53_49 (by omega) ?_
      refine g_p t53_52 rfl ?_
      refine r_gete t53_53 (f3 hF) rfl rfl h1 ?_
      refine g_p t53_56 rfl ?_
      refine n_cge t53_57 (by omega) (by omega) (fun h57 => ?_) (fun h57 => ?_)
      · first
          | (exfalso; omega)
          | exact E s' hfr hf (by rw [h1, he, skp_n (fun _ => h74)]) (by rw [he]; exact (skp_le (by omega)).2)
      · refine g_p t53_60 rfl ?_
        refine r_getq t53_61 (f3 hF) rfl rfl hw (m_rq_r hX.2.2.2.2.1) ?_
        refine r_getr t53_64 hX.1.1 rfl rfl ?_
        refine g_p t53_67 rfl ?_
        refine r_gete t53_68 (f3 hF) rfl rfl h1 ?_
        refine r_iald t53_71 hX.1.2.1 hX.1.2.2 (by omega) ?_
        rw [hti]
        refine g_k (n := 32) t53_72 rfl rfl ?_
        refine n_cne t53_74 (by omega) (by omega) (fun h74 => ?_) (fun h74 => ?_)
        · first
            | (exfalso; omega)
            | exact E s' hfr hf (by rw [h1, he, skp_n (fun _ => h74)]) (by rw [he]; exact (skp_le (by omega)).2)
        · refine g_p t53_77 rfl ?_
          refine g_p t53_78 rfl ?_
          refine r_gete t53_79 (f3 hF) rfl rfl h1 ?_
          refine g_k (n := 1) t53_82 rfl rfl ?_
          refine g_addn t53_83 ?_
          refine r_puti t53_84 (f3 hF) rfl rfl ?_
          refine g_goto t53_87 ?_
          exact ih (i + 1) (by omega) (he.trans (skp_b hil h74)) _ (hfr.wi (i := 1) (by decide) (by decide)) hf rfl
  have hlen := hX.2.1.1
  refine en53 rfl ?_
  refine g_p t53_0 rfl ?_
  refine r_gete t53_1 (f3 hF) rfl rfl hf ?_
  refine g_p t53_4 rfl ?_
  refine g_cne t53_5 (fun h5 => ?_) (fun h5 => ?_)
  · exact absurd rfl h5
  · refine g_p t53_8 rfl ?_
    refine r_getq t53_9 (f3 hF) rfl rfl hw (m_rq_r hX.2.2.2.2.1) ?_
    refine g_b (b := true) t53_12 rfl ?_
    refine g_p t53_16 rfl ?_
    refine g_p t53_17 rfl ?_
    refine r_geti t53_18 (f3 hF) rfl rfl ?_
    refine g_k (n := 1) t53_21 rfl rfl ?_
    refine g_iadd t53_22 ?_
    rw [show ri s 3 1 + nI 1 = nI m from hv]
    refine r_puti t53_23 (f3 hF) rfl rfl ?_
    refine g_p t53_26 rfl ?_
    refine r_getq t53_27 (f3 hF) rfl rfl hw (m_rq_r hX.2.2.2.2.1) ?_
    refine r_gete t53_30 hX.1.1 rfl rfl (show ri (wi s 3 1 (nI m)) T 1 = nI t.length from (ri_wi_ne hTR.1).trans hlen) ?_
    refine g_p t53_33 rfl ?_
    refine r_getq t53_34 (f3 hF) rfl rfl hw (m_rq_r hX.2.2.2.2.1) ?_
    refine r_getr t53_37 hX.1.1 rfl rfl ?_
    refine r_leni t53_40 hX.1.2.1 ?_
    refine g_minn t53_41 (by omega) (by omega) (Nat.le_of_ble_eq_true rfl) ?_
    rw [Nat.min_eq_left x3]
    refine g_isn t53_44 (Nat.le_of_ble_eq_true rfl) (am_s1_1 rfl) ?_
    exact K (t.length - m) m (by omega) rfl _ (FR.rf.wi (i := 1) (by decide) (by decide)) hf rfl
theorem c53_3 (hF : Fx s) (hX : TX T n t s) (hTR : T ≠ 3 ∧ T + 1 ≠ 3) (hw : ri s 3 0 = nI (T + 2)) (hS : RS 3 t σ s) (hz : psg t σ ≠ 0 ∨ ∃ f, σ = .inr f) (hq : ∀ s', FR 3 s s' → RS 3 t (pst t σ) s' → Q none (mR s')) : gE X d 53 [.ref 3] (mR s) Q := by
  cases σ with
  | inl j =>
    have hj : sgn t j ≠ 0 := by
      rcases hz with h | ⟨f, h⟩
      · exact h
      · cases h
    exact c53w_3 hF hX hTR hw (m := j + 1) (by rw [hS.1]; exact nI_1 j) (sgn_pos hj) hS.2.2.1 hq
  | inr f =>
    have hf := hS.2.1
    have hfl := hS.2.2
    have := hX.2.2.2.1
    refine en53 rfl ?_
    refine g_p t53_0 rfl ?_
    refine r_gete t53_1 (f3 hF) rfl rfl hf ?_
    refine g_p t53_4 rfl ?_
    refine g_cne t53_5 (fun h5 => ?_) (fun h5 => ?_)
    · exact v_ret t53_15 (hq _ FR.rf hS)
    · exact absurd h5 (nI_m1 (by omega))
theorem c59_3 (hF : Fx s) (hX : TX T n t s) (hTR : T ≠ 3 ∧ T + 1 ≠ 3) (hw : ri s 3 0 = nI (T + 2)) (hS : RS 3 t σ s) (hq : ∀ s', FR 3 s s' → RS 3 t (pre σ) s' → Q none (mR s')) : gE X d 59 [.ref 3] (mR s) Q := by
  cases σ with
  | inl j =>
    obtain ⟨h1, h2, h3, h4⟩ := hS
    refine en59 rfl ?_
    refine g_p t59_0 rfl ?_
    refine r_gete t59_1 (f3 hF) rfl rfl h3 ?_
    refine g_p t59_4 rfl ?_
    refine g_cne t59_5 (fun h5 => ?_) (fun h5 => ?_)
    · refine g_p t59_16 rfl ?_
      refine g_k (n := 0) t59_17 rfl rfl ?_
      refine r_puti t59_18 (f3 hF) rfl rfl ?_
      first
        | exact absurd rfl h5
        | exact v_ret t59_21 (hq _ ((FR.rf.wi (i := 3) (by decide) (by decide)).wi (i := 2) (by decide) (by decide)) ⟨rfl, rfl, h4⟩)
    · refine g_p t59_8 rfl ?_
      refine g_p t59_9 rfl ?_
      refine r_gete t59_10 (f3 hF) rfl rfl h1 ?_
      refine r_puti t59_13 (f3 hF) rfl rfl ?_
      refine g_p t59_16 rfl ?_
      refine g_k (n := 0) t59_17 rfl rfl ?_
      refine r_puti t59_18 (f3 hF) rfl rfl ?_
      first
        | exact absurd rfl h5
        | exact v_ret t59_21 (hq _ ((FR.rf.wi (i := 3) (by decide) (by decide)).wi (i := 2) (by decide) (by decide)) ⟨rfl, rfl, h4⟩)
  | inr f =>
    obtain ⟨h1, hf, hfl⟩ := hS
    have := hX.2.2.2.1
    refine en59 rfl ?_
    refine g_p t59_0 rfl ?_
    refine r_gete t59_1 (f3 hF) rfl rfl hf ?_
    refine g_p t59_4 rfl ?_
    refine g_cne t59_5 (fun h5 => ?_) (fun h5 => ?_)
    · refine g_p t59_16 rfl ?_
      refine g_k (n := 0) t59_17 rfl rfl ?_
      refine r_puti t59_18 (f3 hF) rfl rfl ?_
      exact v_ret t59_21 (hq _ (FR.rf.wi (i := 2) (by decide) (by decide)) ⟨rfl, hf, hfl⟩)
    · exact absurd h5 (nI_m1 (by omega))
theorem c52_4 (hF : Fx s) (hS : RS 4 t σ s) (hq : Q (some (.int (nI (psg t σ)))) (mR s)) : gE X d 52 [.ref 4] (mR s) Q := by
  have e := RS_sg hS
  refine en52 rfl ?_
  refine g_p t52_0 rfl ?_
  refine r_gete t52_1 (f4 hF) rfl rfl e ?_
  exact i_ret t52_4 rfl hq
theorem c53w_4 (hF : Fx s) (hX : TX T n t s) (hTR : T ≠ 4 ∧ T + 1 ≠ 4) (hw : ri s 4 0 = nI (T + 2)) {m : Nat} (hv : ri s 4 1 + 1 = nI m) (hm : m ≤ t.length) (hf : ri s 4 3 = -1) (hq : ∀ s', FR 4 s s' → RS 4 t (.inl (skp t m)) s' → Q none (mR s')) : gE X d 53 [.ref 4] (mR s) Q := by
  obtain ⟨x1, x2, x3, x4, x5, x6⟩ := hX
  have hX : TX T n t s := ⟨x1, x2, x3, x4, x5, x6⟩
  have hn := x1.2.2
  have E : ∀ s', FR 4 s s' → ri s' 4 3 = -1 → ri s' 4 1 = nI (skp t m) → skp t m ≤ t.length → gG X d 53 90 [.ref 4, .int (nI t.length)] [] (mR s') Q := by
    intro s' hfr hf h1 hle
    have hF := hF.fr hfr.1
    have hX := hX.fr hfr.1 (by simp only [List.mem_singleton]; exact hTR.1) (by simp only [List.mem_singleton]; exact hTR.2)
    have hw := (hfr.2 0 (Or.inl rfl)).trans hw
    refine g_p t53_90 rfl ?_
    refine g_p t53_91 rfl ?_
    refine r_gete t53_92 (f4 hF) rfl rfl h1 ?_
    refine n_lt t53_95 (by omega) ?_
    refine g_p t53_98 rfl ?_
    refine r_gete t53_99 (f4 hF) rfl rfl h1 ?_
    refine g_p t53_102 rfl ?_
    refine n_cge t53_103 (by omega) (by omega) (fun h103 => ?_) (fun h103 => ?_)
    · refine g_k (n := 0) t53_121 rfl rfl ?_
      refine r_puti t53_122 (f4 hF) rfl rfl ?_
      first
        | (have u0 := h103
           refine v_ret t53_125 (hq _ (hfr.wi (i := 2) (by decide) (by decide)) ⟨h1, ?_, hf, hle⟩)
           refine ri_wi_eq.trans ?_
           first
             | exact hX.2.1.2 _ (Nat.lt_of_not_le u0)
             | (have u1 : t.length ≤ skp t m := u0
                unfold sgn
                rw [List.getD, List.getElem?_eq_none u1]
                rfl))
    · refine g_p t53_106 rfl ?_
      refine r_getq t53_107 (f4 hF) rfl rfl hw (m_rq_r hX.2.2.2.2.1) ?_
      refine r_getr t53_110 hX.1.1 rfl rfl ?_
      refine g_p t53_113 rfl ?_
      refine r_gete t53_114 (f4 hF) rfl rfl h1 ?_
      refine r_iald t53_117 hX.1.2.1 hX.1.2.2 (by omega) ?_
      refine g_goto t53_118 ?_
      refine r_puti t53_122 (f4 hF) rfl rfl ?_
      first
        | (have u0 := h103
           refine v_ret t53_125 (hq _ (hfr.wi (i := 2) (by decide) (by decide)) ⟨h1, ?_, hf, hle⟩)
           refine ri_wi_eq.trans ?_
           first
             | exact hX.2.1.2 _ (Nat.lt_of_not_le u0)
             | (have u1 : t.length ≤ skp t m := u0
                unfold sgn
                rw [List.getD, List.getElem?_eq_none u1]
                rfl))
  have K : ∀ j i : Nat, i + j = t.length → skp t m = skp t i → ∀ s', FR 4 s s' → ri s' 4 3 = -1 → ri s' 4 1 = nI i → gG X d 53 45 [.ref 4, .int (nI t.length)] [] (mR s') Q := by
    intro j
    induction j with
    | zero =>
      intro i hj he s' hfr hf h1
      have hj : i = t.length := by omega
      subst hj
      have hF := hF.fr hfr.1
      have hsk : skp t m = t.length := by rw [he]; exact skp_n (fun h => absurd h (Nat.lt_irrefl _))
      refine g_p t53_45 rfl ?_
      refine r_gete t53_46 (f4 hF) rfl rfl h1 ?_
      refine n_lt t53_49 (by omega) ?_
      refine g_p t53_52 rfl ?_
      refine r_gete t53_53 (f4 hF) rfl rfl h1 ?_
      refine g_p t53_56 rfl ?_
      refine n_cge t53_57 (by omega) (by omega) (fun h57 => ?_) (fun h57 => ?_)
      · exact E s' hfr hf (h1.trans (by rw [hsk])) (by omega)
      · exfalso; omega
    | succ j ih =>
      intro i hj he s' hfr hf h1
      have hil : i < t.length := by omega
      have hF := hF.fr hfr.1
      have hX := hX.fr hfr.1 (by simp only [List.mem_singleton]; exact hTR.1) (by simp only [List.mem_singleton]; exact hTR.2)
      have hw := (hfr.2 0 (Or.inl rfl)).trans hw
      have hti := hX.2.1.2 i hil
      have htl := sgn_lt hX i
      unfold sgn at htl
      refine g_p t53_45 rfl ?_
      refine r_gete t53_46 (f4 hF) rfl rfl h1 ?_
      refine n_lt t53_49 (by omega) ?_
      refine g_p t53_52 rfl ?_
      refine r_gete t53_53 (f4 hF) rfl rfl h1 ?_
      refine g_p t53_56 rfl ?_
      refine n_cge t53_57 (by omega) (by omega) (fun h57 => ?_) (fun h57 => ?_)
      · first
          | (exfalso; omega)
          | exact E s' hfr hf (by rw [h1, he, skp_n (fun _ => h74)]) (by rw [he]; exact (skp_le (by omega)).2)
      · refine g_p t53_60 rfl ?_
        refine r_getq t53_61 (f4 hF) rfl rfl hw (m_rq_r hX.2.2.2.2.1) ?_
        refine r_getr t53_64 hX.1.1 rfl rfl ?_
        refine g_p t53_67 rfl ?_
        refine r_gete t53_68 (f4 hF) rfl rfl h1 ?_
        refine r_iald t53_71 hX.1.2.1 hX.1.2.2 (by omega) ?_
        rw [hti]
        refine g_k (n := 32) t53_72 rfl rfl ?_
        refine n_cne t53_74 (by omega) (by omega) (fun h74 => ?_) (fun h74 => ?_)
        · first
            | (exfalso; omega)
            | exact E s' hfr hf (by rw [h1, he, skp_n (fun _ => h74)]) (by rw [he]; exact (skp_le (by omega)).2)
        · refine g_p t53_77 rfl ?_
          refine g_p t53_78 rfl ?_
          refine r_gete t53_79 (f4 hF) rfl rfl h1 ?_
          refine g_k (n := 1) t53_82 rfl rfl ?_
          refine g_addn t53_83 ?_
          refine r_puti t53_84 (f4 hF) rfl rfl ?_
          refine g_goto t53_87 ?_
          exact ih (i + 1) (by omega) (he.trans (skp_b hil h74)) _ (hfr.wi (i := 1) (by decide) (by decide)) hf rfl
  have hlen := hX.2.1.1
  refine en53 rfl ?_
  refine g_p t53_0 rfl ?_
  refine r_gete t53_1 (f4 hF) rfl rfl hf ?_
  refine g_p t53_4 rfl ?_
  refine g_cne t53_5 (fun h5 => ?_) (fun h5 => ?_)
  · exact absurd rfl h5
  · refine g_p t53_8 rfl ?_
    refine r_getq t53_9 (f4 hF) rfl rfl hw (m_rq_r hX.2.2.2.2.1) ?_
    refine g_b (b := true) t53_12 rfl ?_
    refine g_p t53_16 rfl ?_
    refine g_p t53_17 rfl ?_
    refine r_geti t53_18 (f4 hF) rfl rfl ?_
    refine g_k (n := 1) t53_21 rfl rfl ?_
    refine g_iadd t53_22 ?_
    rw [show ri s 4 1 + nI 1 = nI m from hv]
    refine r_puti t53_23 (f4 hF) rfl rfl ?_
    refine g_p t53_26 rfl ?_
    refine r_getq t53_27 (f4 hF) rfl rfl hw (m_rq_r hX.2.2.2.2.1) ?_
    refine r_gete t53_30 hX.1.1 rfl rfl (show ri (wi s 4 1 (nI m)) T 1 = nI t.length from (ri_wi_ne hTR.1).trans hlen) ?_
    refine g_p t53_33 rfl ?_
    refine r_getq t53_34 (f4 hF) rfl rfl hw (m_rq_r hX.2.2.2.2.1) ?_
    refine r_getr t53_37 hX.1.1 rfl rfl ?_
    refine r_leni t53_40 hX.1.2.1 ?_
    refine g_minn t53_41 (by omega) (by omega) (Nat.le_of_ble_eq_true rfl) ?_
    rw [Nat.min_eq_left x3]
    refine g_isn t53_44 (Nat.le_of_ble_eq_true rfl) (am_s1_1 rfl) ?_
    exact K (t.length - m) m (by omega) rfl _ (FR.rf.wi (i := 1) (by decide) (by decide)) hf rfl
theorem c53_4 (hF : Fx s) (hX : TX T n t s) (hTR : T ≠ 4 ∧ T + 1 ≠ 4) (hw : ri s 4 0 = nI (T + 2)) (hS : RS 4 t σ s) (hz : psg t σ ≠ 0 ∨ ∃ f, σ = .inr f) (hq : ∀ s', FR 4 s s' → RS 4 t (pst t σ) s' → Q none (mR s')) : gE X d 53 [.ref 4] (mR s) Q := by
  cases σ with
  | inl j =>
    have hj : sgn t j ≠ 0 := by
      rcases hz with h | ⟨f, h⟩
      · exact h
      · cases h
    exact c53w_4 hF hX hTR hw (m := j + 1) (by rw [hS.1]; exact nI_1 j) (sgn_pos hj) hS.2.2.1 hq
  | inr f =>
    have hf := hS.2.1
    have hfl := hS.2.2
    have := hX.2.2.2.1
    refine en53 rfl ?_
    refine g_p t53_0 rfl ?_
    refine r_gete t53_1 (f4 hF) rfl rfl hf ?_
    refine g_p t53_4 rfl ?_
    refine g_cne t53_5 (fun h5 => ?_) (fun h5 => ?_)
    · exact v_ret t53_15 (hq _ FR.rf hS)
    · exact absurd h5 (nI_m1 (by omega))
theorem c59_4 (hF : Fx s) (hX : TX T n t s) (hTR : T ≠ 4 ∧ T + 1 ≠ 4) (hw : ri s 4 0 = nI (T + 2)) (hS : RS 4 t σ s) (hq : ∀ s', FR 4 s s' → RS 4 t (pre σ) s' → Q none (mR s')) : gE X d 59 [.ref 4] (mR s) Q := by
  cases σ with
  | inl j =>
    obtain ⟨h1, h2, h3, h4⟩ := hS
    refine en59 rfl ?_
    refine g_p t59_0 rfl ?_
    refine r_gete t59_1 (f4 hF) rfl rfl h3 ?_
    refine g_p t59_4 rfl ?_
    refine g_cne t59_5 (fun h5 => ?_) (fun h5 => ?_)
    · refine g_p t59_16 rfl ?_
      refine g_k (n := 0) t59_17 rfl rfl ?_
      refine r_puti t59_18 (f4 hF) rfl rfl ?_
      first
        | exact absurd rfl h5
        | exact v_ret t59_21 (hq _ ((FR.rf.wi (i := 3) (by decide) (by decide)).wi (i := 2) (by decide) (by decide)) ⟨rfl, rfl, h4⟩)
    · refine g_p t59_8 rfl ?_
      refine g_p t59_9 rfl ?_
      refine r_gete t59_10 (f4 hF) rfl rfl h1 ?_
      refine r_puti t59_13 (f4 hF) rfl rfl ?_
      refine g_p t59_16 rfl ?_
      refine g_k (n := 0) t59_17 rfl rfl ?_
      refine r_puti t59_18 (f4 hF) rfl rfl ?_
      first
        | exact absurd rfl h5
        | exact v_ret t59_21 (hq _ ((FR.rf.wi (i := 3) (by decide) (by decide)).wi (i := 2) (by decide) (by decide)) ⟨rfl, rfl, h4⟩)
  | inr f =>
    obtain ⟨h1, hf, hfl⟩ := hS
    have := hX.2.2.2.1
    refine en59 rfl ?_
    refine g_p t59_0 rfl ?_
    refine r_gete t59_1 (f4 hF) rfl rfl hf ?_
    refine g_p t59_4 rfl ?_
    refine g_cne t59_5 (fun h5 => ?_) (fun h5 => ?_)
    · refine g_p t59_16 rfl ?_
      refine g_k (n := 0) t59_17 rfl rfl ?_
      refine r_puti t59_18 (f4 hF) rfl rfl ?_
      exact v_ret t59_21 (hq _ (FR.rf.wi (i := 2) (by decide) (by decide)) ⟨rfl, hf, hfl⟩)
    · exact absurd h5 (nI_m1 (by omega))
theorem c52_12 (hF : Fx s) (hS : RS 12 t σ s) (hq : Q (some (.int (nI (psg t σ)))) (mR s)) : gE X d 52 [.ref 12] (mR s) Q := by
  have e := RS_sg hS
  refine en52 rfl ?_
  refine g_p t52_0 rfl ?_
  refine r_gete t52_1 (f12 hF) rfl rfl e ?_
  exact i_ret t52_4 rfl hq
theorem c53w_12 (hF : Fx s) (hX : TX T n t s) (hTR : T ≠ 12 ∧ T + 1 ≠ 12) (hw : ri s 12 0 = nI (T + 2)) {m : Nat} (hv : ri s 12 1 + 1 = nI m) (hm : m ≤ t.length) (hf : ri s 12 3 = -1) (hq : ∀ s', FR 12 s s' → RS 12 t (.inl (skp t m)) s' → Q none (mR s')) : gE X d 53 [.ref 12] (mR s) Q := by
  obtain ⟨x1, x2, x3, x4, x5, x6⟩ := hX
  have hX : TX T n t s := ⟨x1, x2, x3, x4, x5, x6⟩
  have hn := x1.2.2
  have E : ∀ s', FR 12 s s' → ri s' 12 3 = -1 → ri s' 12 1 = nI (skp t m) → skp t m ≤ t.length → gG X d 53 90 [.ref 12, .int (nI t.length)] [] (mR s') Q := by
    intro s' hfr hf h1 hle
    have hF := hF.fr hfr.1
    have hX := hX.fr hfr.1 (by simp only [List.mem_singleton]; exact hTR.1) (by simp only [List.mem_singleton]; exact hTR.2)
    have hw := (hfr.2 0 (Or.inl rfl)).trans hw
    refine g_p t53_90 rfl ?_
    refine g_p t53_91 rfl ?_
    refine r_gete t53_92 (f12 hF) rfl rfl h1 ?_
    refine n_lt t53_95 (by omega) ?_
    refine g_p t53_98 rfl ?_
    refine r_gete t53_99 (f12 hF) rfl rfl h1 ?_
    refine g_p t53_102 rfl ?_
    refine n_cge t53_103 (by omega) (by omega) (fun h103 => ?_) (fun h103 => ?_)
    · refine g_k (n := 0) t53_121 rfl rfl ?_
      refine r_puti t53_122 (f12 hF) rfl rfl ?_
      first
        | (have u0 := h103
           refine v_ret t53_125 (hq _ (hfr.wi (i := 2) (by decide) (by decide)) ⟨h1, ?_, hf, hle⟩)
           refine ri_wi_eq.trans ?_
           first
             | exact hX.2.1.2 _ (Nat.lt_of_not_le u0)
             | (have u1 : t.length ≤ skp t m := u0
                unfold sgn
                rw [List.getD, List.getElem?_eq_none u1]
                rfl))
    · refine g_p t53_106 rfl ?_
      refine r_getq t53_107 (f12 hF) rfl rfl hw (m_rq_r hX.2.2.2.2.1) ?_
      refine r_getr t53_110 hX.1.1 rfl rfl ?_
      refine g_p t53_113 rfl ?_
      refine r_gete t53_114 (f12 hF) rfl rfl h1 ?_
      refine r_iald t53_117 hX.1.2.1 hX.1.2.2 (by omega) ?_
      refine g_goto t53_118 ?_
      refine r_puti t53_122 (f12 hF) rfl rfl ?_
      first
        | (have u0 := h103
           refine v_ret t53_125 (hq _ (hfr.wi (i := 2) (by decide) (by decide)) ⟨h1, ?_, hf, hle⟩)
           refine ri_wi_eq.trans ?_
           first
             | exact hX.2.1.2 _ (Nat.lt_of_not_le u0)
             | (have u1 : t.length ≤ skp t m := u0
                unfold sgn
                rw [List.getD, List.getElem?_eq_none u1]
                rfl))
  have K : ∀ j i : Nat, i + j = t.length → skp t m = skp t i → ∀ s', FR 12 s s' → ri s' 12 3 = -1 → ri s' 12 1 = nI i → gG X d 53 45 [.ref 12, .int (nI t.length)] [] (mR s') Q := by
    intro j
    induction j with
    | zero =>
      intro i hj he s' hfr hf h1
      have hj : i = t.length := by omega
      subst hj
      have hF := hF.fr hfr.1
      have hsk : skp t m = t.length := by rw [he]; exact skp_n (fun h => absurd h (Nat.lt_irrefl _))
      refine g_p t53_45 rfl ?_
      refine r_gete t53_46 (f12 hF) rfl rfl h1 ?_
      refine n_lt t53_49 (by omega) ?_
      refine g_p t53_52 rfl ?_
      refine r_gete t53_53 (f12 hF) rfl rfl h1 ?_
      refine g_p t53_56 rfl ?_
      refine n_cge t53_57 (by omega) (by omega) (fun h57 => ?_) (fun h57 => ?_)
      · exact E s' hfr hf (h1.trans (by rw [hsk])) (by omega)
      · exfalso; omega
    | succ j ih =>
      intro i hj he s' hfr hf h1
      have hil : i < t.length := by omega
      have hF := hF.fr hfr.1
      have hX := hX.fr hfr.1 (by simp only [List.mem_singleton]; exact hTR.1) (by simp only [List.mem_singleton]; exact hTR.2)
      have hw := (hfr.2 0 (Or.inl rfl)).trans hw
      have hti := hX.2.1.2 i hil
      have htl := sgn_lt hX i
      unfold sgn at htl
      refine g_p t53_45 rfl ?_
      refine r_gete t53_46 (f12 hF) rfl rfl h1 ?_
      refine n_lt t53_49 (by omega) ?_
      refine g_p t53_52 rfl ?_
      refine r_gete t53_53 (f12 hF) rfl rfl h1 ?_
      refine g_p t53_56 rfl ?_
      refine n_cge t53_57 (by omega) (by omega) (fun h57 => ?_) (fun h57 => ?_)
      · first
          | (exfalso; omega)
          | exact E s' hfr hf (by rw [h1, he, skp_n (fun _ => h74)]) (by rw [he]; exact (skp_le (by omega)).2)
      · refine g_p t53_60 rfl ?_
        refine r_getq t53_61 (f12 hF) rfl rfl hw (m_rq_r hX.2.2.2.2.1) ?_
        refine r_getr t53_64 hX.1.1 rfl rfl ?_
        refine g_p t53_67 rfl ?_
        refine r_gete t53_68 (f12 hF) rfl rfl h1 ?_
        refine r_iald t53_71 hX.1.2.1 hX.1.2.2 (by omega) ?_
        rw [hti]
        refine g_k (n := 32) t53_72 rfl rfl ?_
        refine n_cne t53_74 (by omega) (by omega) (fun h74 => ?_) (fun h74 => ?_)
        · first
            | (exfalso; omega)
            | exact E s' hfr hf (by rw [h1, he, skp_n (fun _ => h74)]) (by rw [he]; exact (skp_le (by omega)).2)
        · refine g_p t53_77 rfl ?_
          refine g_p t53_78 rfl ?_
          refine r_gete t53_79 (f12 hF) rfl rfl h1 ?_
          refine g_k (n := 1) t53_82 rfl rfl ?_
          refine g_addn t53_83 ?_
          refine r_puti t53_84 (f12 hF) rfl rfl ?_
          refine g_goto t53_87 ?_
          exact ih (i + 1) (by omega) (he.trans (skp_b hil h74)) _ (hfr.wi (i := 1) (by decide) (by decide)) hf rfl
  have hlen := hX.2.1.1
  refine en53 rfl ?_
  refine g_p t53_0 rfl ?_
  refine r_gete t53_1 (f12 hF) rfl rfl hf ?_
  refine g_p t53_4 rfl ?_
  refine g_cne t53_5 (fun h5 => ?_) (fun h5 => ?_)
  · exact absurd rfl h5
  · refine g_p t53_8 rfl ?_
    refine r_getq t53_9 (f12 hF) rfl rfl hw (m_rq_r hX.2.2.2.2.1) ?_
    refine g_b (b := true) t53_12 rfl ?_
    refine g_p t53_16 rfl ?_
    refine g_p t53_17 rfl ?_
    refine r_geti t53_18 (f12 hF) rfl rfl ?_
    refine g_k (n := 1) t53_21 rfl rfl ?_
    refine g_iadd t53_22 ?_
    rw [show ri s 12 1 + nI 1 = nI m from hv]
    refine r_puti t53_23 (f12 hF) rfl rfl ?_
    refine g_p t53_26 rfl ?_
    refine r_getq t53_27 (f12 hF) rfl rfl hw (m_rq_r hX.2.2.2.2.1) ?_
    refine r_gete t53_30 hX.1.1 rfl rfl (show ri (wi s 12 1 (nI m)) T 1 = nI t.length from (ri_wi_ne hTR.1).trans hlen) ?_
    refine g_p t53_33 rfl ?_
    refine r_getq t53_34 (f12 hF) rfl rfl hw (m_rq_r hX.2.2.2.2.1) ?_
    refine r_getr t53_37 hX.1.1 rfl rfl ?_
    refine r_leni t53_40 hX.1.2.1 ?_
    refine g_minn t53_41 (by omega) (by omega) (Nat.le_of_ble_eq_true rfl) ?_
    rw [Nat.min_eq_left x3]
    refine g_isn t53_44 (Nat.le_of_ble_eq_true rfl) (am_s1_1 rfl) ?_
    exact K (t.length - m) m (by omega) rfl _ (FR.rf.wi (i := 1) (by decide) (by decide)) hf rfl
theorem c53_12 (hF : Fx s) (hX : TX T n t s) (hTR : T ≠ 12 ∧ T + 1 ≠ 12) (hw : ri s 12 0 = nI (T + 2)) (hS : RS 12 t σ s) (hz : psg t σ ≠ 0 ∨ ∃ f, σ = .inr f) (hq : ∀ s', FR 12 s s' → RS 12 t (pst t σ) s' → Q none (mR s')) : gE X d 53 [.ref 12] (mR s) Q := by
  cases σ with
  | inl j =>
    have hj : sgn t j ≠ 0 := by
      rcases hz with h | ⟨f, h⟩
      · exact h
      · cases h
    exact c53w_12 hF hX hTR hw (m := j + 1) (by rw [hS.1]; exact nI_1 j) (sgn_pos hj) hS.2.2.1 hq
  | inr f =>
    have hf := hS.2.1
    have hfl := hS.2.2
    have := hX.2.2.2.1
    refine en53 rfl ?_
    refine g_p t53_0 rfl ?_
    refine r_gete t53_1 (f12 hF) rfl rfl hf ?_
    refine g_p t53_4 rfl ?_
    refine g_cne t53_5 (fun h5 => ?_) (fun h5 => ?_)
    · exact v_ret t53_15 (hq _ FR.rf hS)
    · exact absurd h5 (nI_m1 (by omega))
theorem c59_12 (hF : Fx s) (hX : TX T n t s) (hTR : T ≠ 12 ∧ T + 1 ≠ 12) (hw : ri s 12 0 = nI (T + 2)) (hS : RS 12 t σ s) (hq : ∀ s', FR 12 s s' → RS 12 t (pre σ) s' → Q none (mR s')) : gE X d 59 [.ref 12] (mR s) Q := by
  cases σ with
  | inl j =>
    obtain ⟨h1, h2, h3, h4⟩ := hS
    refine en59 rfl ?_
    refine g_p t59_0 rfl ?_
    refine r_gete t59_1 (f12 hF) rfl rfl h3 ?_
    refine g_p t59_4 rfl ?_
    refine g_cne t59_5 (fun h5 => ?_) (fun h5 => ?_)
    · refine g_p t59_16 rfl ?_
      refine g_k (n := 0) t59_17 rfl rfl ?_
      refine r_puti t59_18 (f12 hF) rfl rfl ?_
      first
        | exact absurd rfl h5
        | exact v_ret t59_21 (hq _ ((FR.rf.wi (i := 3) (by decide) (by decide)).wi (i := 2) (by decide) (by decide)) ⟨rfl, rfl, h4⟩)
    · refine g_p t59_8 rfl ?_
      refine g_p t59_9 rfl ?_
      refine r_gete t59_10 (f12 hF) rfl rfl h1 ?_
      refine r_puti t59_13 (f12 hF) rfl rfl ?_
      refine g_p t59_16 rfl ?_
      refine g_k (n := 0) t59_17 rfl rfl ?_
      refine r_puti t59_18 (f12 hF) rfl rfl ?_
      first
        | exact absurd rfl h5
        | exact v_ret t59_21 (hq _ ((FR.rf.wi (i := 3) (by decide) (by decide)).wi (i := 2) (by decide) (by decide)) ⟨rfl, rfl, h4⟩)
  | inr f =>
    obtain ⟨h1, hf, hfl⟩ := hS
    have := hX.2.2.2.1
    refine en59 rfl ?_
    refine g_p t59_0 rfl ?_
    refine r_gete t59_1 (f12 hF) rfl rfl hf ?_
    refine g_p t59_4 rfl ?_
    refine g_cne t59_5 (fun h5 => ?_) (fun h5 => ?_)
    · refine g_p t59_16 rfl ?_
      refine g_k (n := 0) t59_17 rfl rfl ?_
      refine r_puti t59_18 (f12 hF) rfl rfl ?_
      exact v_ret t59_21 (hq _ (FR.rf.wi (i := 2) (by decide) (by decide)) ⟨rfl, hf, hfl⟩)
    · exact absurd h5 (nI_m1 (by omega))
theorem c52_15 (hF : Fx s) (hS : RS 15 t σ s) (hq : Q (some (.int (nI (psg t σ)))) (mR s)) : gE X d 52 [.ref 15] (mR s) Q := by
  have e := RS_sg hS
  refine en52 rfl ?_
  refine g_p t52_0 rfl ?_
  refine r_gete t52_1 (f15 hF) rfl rfl e ?_
  exact i_ret t52_4 rfl hq
theorem c53w_15 (hF : Fx s) (hX : TX T n t s) (hTR : T ≠ 15 ∧ T + 1 ≠ 15) (hw : ri s 15 0 = nI (T + 2)) {m : Nat} (hv : ri s 15 1 + 1 = nI m) (hm : m ≤ t.length) (hf : ri s 15 3 = -1) (hq : ∀ s', FR 15 s s' → RS 15 t (.inl (skp t m)) s' → Q none (mR s')) : gE X d 53 [.ref 15] (mR s) Q := by
  obtain ⟨x1, x2, x3, x4, x5, x6⟩ := hX
  have hX : TX T n t s := ⟨x1, x2, x3, x4, x5, x6⟩
  have hn := x1.2.2
  have E : ∀ s', FR 15 s s' → ri s' 15 3 = -1 → ri s' 15 1 = nI (skp t m) → skp t m ≤ t.length → gG X d 53 90 [.ref 15, .int (nI t.length)] [] (mR s') Q := by
    intro s' hfr hf h1 hle
    have hF := hF.fr hfr.1
    have hX := hX.fr hfr.1 (by simp only [List.mem_singleton]; exact hTR.1) (by simp only [List.mem_singleton]; exact hTR.2)
    have hw := (hfr.2 0 (Or.inl rfl)).trans hw
    refine g_p t53_90 rfl ?_
    refine g_p t53_91 rfl ?_
    refine r_gete t53_92 (f15 hF) rfl rfl h1 ?_
    refine n_lt t53_95 (by omega) ?_
    refine g_p t53_98 rfl ?_
    refine r_gete t53_99 (f15 hF) rfl rfl h1 ?_
    refine g_p t53_102 rfl ?_
    refine n_cge t53_103 (by omega) (by omega) (fun h103 => ?_) (fun h103 => ?_)
    · refine g_k (n := 0) t53_121 rfl rfl ?_
      refine r_puti t53_122 (f15 hF) rfl rfl ?_
      first
        | (have u0 := h103
           refine v_ret t53_125 (hq _ (hfr.wi (i := 2) (by decide) (by decide)) ⟨h1, ?_, hf, hle⟩)
           refine ri_wi_eq.trans ?_
           first
             | exact hX.2.1.2 _ (Nat.lt_of_not_le u0)
             | (have u1 : t.length ≤ skp t m := u0
                unfold sgn
                rw [List.getD, List.getElem?_eq_none u1]
                rfl))
    · refine g_p t53_106 rfl ?_
      refine r_getq t53_107 (f15 hF) rfl rfl hw (m_rq_r hX.2.2.2.2.1) ?_
      refine r_getr t53_110 hX.1.1 rfl rfl ?_
      refine g_p t53_113 rfl ?_
      refine r_gete t53_114 (f15 hF) rfl rfl h1 ?_
      refine r_iald t53_117 hX.1.2.1 hX.1.2.2 (by omega) ?_
      refine g_goto t53_118 ?_
      refine r_puti t53_122 (f15 hF) rfl rfl ?_
      first
        | (have u0 := h103
           refine v_ret t53_125 (hq _ (hfr.wi (i := 2) (by decide) (by decide)) ⟨h1, ?_, hf, hle⟩)
           refine ri_wi_eq.trans ?_
           first
             | exact hX.2.1.2 _ (Nat.lt_of_not_le u0)
             | (have u1 : t.length ≤ skp t m := u0
                unfold sgn
                rw [List.getD, List.getElem?_eq_none u1]
                rfl))
  have K : ∀ j i : Nat, i + j = t.length → skp t m = skp t i → ∀ s', FR 15 s s' → ri s' 15 3 = -1 → ri s' 15 1 = nI i → gG X d 53 45 [.ref 15, .int (nI t.length)] [] (mR s') Q := by
    intro j
    induction j with
    | zero =>
      intro i hj he s' hfr hf h1
      have hj : i = t.length := by omega
      subst hj
      have hF := hF.fr hfr.1
      have hsk : skp t m = t.length := by rw [he]; exact skp_n (fun h => absurd h (Nat.lt_irrefl _))
      refine g_p t53_45 rfl ?_
      refine r_gete t53_46 (f15 hF) rfl rfl h1 ?_
      refine n_lt t53_49 (by omega) ?_
      refine g_p t53_52 rfl ?_
      refine r_gete t53_53 (f15 hF) rfl rfl h1 ?_
      refine g_p t53_56 rfl ?_
      refine n_cge t53_57 (by omega) (by omega) (fun h57 => ?_) (fun h57 => ?_)
      · exact E s' hfr hf (h1.trans (by rw [hsk])) (by omega)
      · exfalso; omega
    | succ j ih =>
      intro i hj he s' hfr hf h1
      have hil : i < t.length := by omega
      have hF := hF.fr hfr.1
      have hX := hX.fr hfr.1 (by simp only [List.mem_singleton]; exact hTR.1) (by simp only [List.mem_singleton]; exact hTR.2)
      have hw := (hfr.2 0 (Or.inl rfl)).trans hw
      have hti := hX.2.1.2 i hil
      have htl := sgn_lt hX i
      unfold sgn at htl
      refine g_p t53_45 rfl ?_
      refine r_gete t53_46 (f15 hF) rfl rfl h1 ?_
      refine n_lt t53_49 (by omega) ?_
      refine g_p t53_52 rfl ?_
      refine r_gete t53_53 (f15 hF) rfl rfl h1 ?_
      refine g_p t53_56 rfl ?_
      refine n_cge t53_57 (by omega) (by omega) (fun h57 => ?_) (fun h57 => ?_)
      · first
          | (exfalso; omega)
          | exact E s' hfr hf (by rw [h1, he, skp_n (fun _ => h74)]) (by rw [he]; exact (skp_le (by omega)).2)
      · refine g_p t53_60 rfl ?_
        refine r_getq t53_61 (f15 hF) rfl rfl hw (m_rq_r hX.2.2.2.2.1) ?_
        refine r_getr t53_64 hX.1.1 rfl rfl ?_
        refine g_p t53_67 rfl ?_
        refine r_gete t53_68 (f15 hF) rfl rfl h1 ?_
        refine r_iald t53_71 hX.1.2.1 hX.1.2.2 (by omega) ?_
        rw [hti]
        refine g_k (n := 32) t53_72 rfl rfl ?_
        refine n_cne t53_74 (by omega) (by omega) (fun h74 => ?_) (fun h74 => ?_)
        · first
            | (exfalso; omega)
            | exact E s' hfr hf (by rw [h1, he, skp_n (fun _ => h74)]) (by rw [he]; exact (skp_le (by omega)).2)
        · refine g_p t53_77 rfl ?_
          refine g_p t53_78 rfl ?_
          refine r_gete t53_79 (f15 hF) rfl rfl h1 ?_
          refine g_k (n := 1) t53_82 rfl rfl ?_
          refine g_addn t53_83 ?_
          refine r_puti t53_84 (f15 hF) rfl rfl ?_
          refine g_goto t53_87 ?_
          exact ih (i + 1) (by omega) (he.trans (skp_b hil h74)) _ (hfr.wi (i := 1) (by decide) (by decide)) hf rfl
  have hlen := hX.2.1.1
  refine en53 rfl ?_
  refine g_p t53_0 rfl ?_
  refine r_gete t53_1 (f15 hF) rfl rfl hf ?_
  refine g_p t53_4 rfl ?_
  refine g_cne t53_5 (fun h5 => ?_) (fun h5 => ?_)
  · exact absurd rfl h5
  · refine g_p t53_8 rfl ?_
    refine r_getq t53_9 (f15 hF) rfl rfl hw (m_rq_r hX.2.2.2.2.1) ?_
    refine g_b (b := true) t53_12 rfl ?_
    refine g_p t53_16 rfl ?_
    refine g_p t53_17 rfl ?_
    refine r_geti t53_18 (f15 hF) rfl rfl ?_
    refine g_k (n := 1) t53_21 rfl rfl ?_
    refine g_iadd t53_22 ?_
    rw [show ri s 15 1 + nI 1 = nI m from hv]
    refine r_puti t53_23 (f15 hF) rfl rfl ?_
    refine g_p t53_26 rfl ?_
    refine r_getq t53_27 (f15 hF) rfl rfl hw (m_rq_r hX.2.2.2.2.1) ?_
    refine r_gete t53_30 hX.1.1 rfl rfl (show ri (wi s 15 1 (nI m)) T 1 = nI t.length from (ri_wi_ne hTR.1).trans hlen) ?_
    refine g_p t53_33 rfl ?_
    refine r_getq t53_34 (f15 hF) rfl rfl hw (m_rq_r hX.2.2.2.2.1) ?_
    refine r_getr t53_37 hX.1.1 rfl rfl ?_
    refine r_leni t53_40 hX.1.2.1 ?_
    refine g_minn t53_41 (by omega) (by omega) (Nat.le_of_ble_eq_true rfl) ?_
    rw [Nat.min_eq_left x3]
    refine g_isn t53_44 (Nat.le_of_ble_eq_true rfl) (am_s1_1 rfl) ?_
    exact K (t.length - m) m (by omega) rfl _ (FR.rf.wi (i := 1) (by decide) (by decide)) hf rfl
theorem c53_15 (hF : Fx s) (hX : TX T n t s) (hTR : T ≠ 15 ∧ T + 1 ≠ 15) (hw : ri s 15 0 = nI (T + 2)) (hS : RS 15 t σ s) (hz : psg t σ ≠ 0 ∨ ∃ f, σ = .inr f) (hq : ∀ s', FR 15 s s' → RS 15 t (pst t σ) s' → Q none (mR s')) : gE X d 53 [.ref 15] (mR s) Q := by
  cases σ with
  | inl j =>
    have hj : sgn t j ≠ 0 := by
      rcases hz with h | ⟨f, h⟩
      · exact h
      · cases h
    exact c53w_15 hF hX hTR hw (m := j + 1) (by rw [hS.1]; exact nI_1 j) (sgn_pos hj) hS.2.2.1 hq
  | inr f =>
    have hf := hS.2.1
    have hfl := hS.2.2
    have := hX.2.2.2.1
    refine en53 rfl ?_
    refine g_p t53_0 rfl ?_
    refine r_gete t53_1 (f15 hF) rfl rfl hf ?_
    refine g_p t53_4 rfl ?_
    refine g_cne t53_5 (fun h5 => ?_) (fun h5 => ?_)
    · exact v_ret t53_15 (hq _ FR.rf hS)
    · exact absurd h5 (nI_m1 (by omega))
theorem c59_15 (hF : Fx s) (hX : TX T n t s) (hTR : T ≠ 15 ∧ T + 1 ≠ 15) (hw : ri s 15 0 = nI (T + 2)) (hS : RS 15 t σ s) (hq : ∀ s', FR 15 s s' → RS 15 t (pre σ) s' → Q none (mR s')) : gE X d 59 [.ref 15] (mR s) Q := by
  cases σ with
  | inl j =>
    obtain ⟨h1, h2, h3, h4⟩ := hS
    refine en59 rfl ?_
    refine g_p t59_0 rfl ?_
    refine r_gete t59_1 (f15 hF) rfl rfl h3 ?_
    refine g_p t59_4 rfl ?_
    refine g_cne t59_5 (fun h5 => ?_) (fun h5 => ?_)
    · refine g_p t59_16 rfl ?_
      refine g_k (n := 0) t59_17 rfl rfl ?_
      refine r_puti t59_18 (f15 hF) rfl rfl ?_
      first
        | exact absurd rfl h5
        | exact v_ret t59_21 (hq _ ((FR.rf.wi (i := 3) (by decide) (by decide)).wi (i := 2) (by decide) (by decide)) ⟨rfl, rfl, h4⟩)
    · refine g_p t59_8 rfl ?_
      refine g_p t59_9 rfl ?_
      refine r_gete t59_10 (f15 hF) rfl rfl h1 ?_
      refine r_puti t59_13 (f15 hF) rfl rfl ?_
      refine g_p t59_16 rfl ?_
      refine g_k (n := 0) t59_17 rfl rfl ?_
      refine r_puti t59_18 (f15 hF) rfl rfl ?_
      first
        | exact absurd rfl h5
        | exact v_ret t59_21 (hq _ ((FR.rf.wi (i := 3) (by decide) (by decide)).wi (i := 2) (by decide) (by decide)) ⟨rfl, rfl, h4⟩)
  | inr f =>
    obtain ⟨h1, hf, hfl⟩ := hS
    have := hX.2.2.2.1
    refine en59 rfl ?_
    refine g_p t59_0 rfl ?_
    refine r_gete t59_1 (f15 hF) rfl rfl hf ?_
    refine g_p t59_4 rfl ?_
    refine g_cne t59_5 (fun h5 => ?_) (fun h5 => ?_)
    · refine g_p t59_16 rfl ?_
      refine g_k (n := 0) t59_17 rfl rfl ?_
      refine r_puti t59_18 (f15 hF) rfl rfl ?_
      exact v_ret t59_21 (hq _ (FR.rf.wi (i := 2) (by decide) (by decide)) ⟨rfl, hf, hfl⟩)
    · exact absurd h5 (nI_m1 (by omega))
end RE
