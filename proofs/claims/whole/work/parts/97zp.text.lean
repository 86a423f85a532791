/-! TEXTS READ, 3: books -/
abbrev Cl : Type := Nat × List Nat
def bcg (t : List Nat) (fst : Bool) (wd : Nat) (σ : Ps) : List Nat × Ps := cls t (if fst = true then 5 else wd) ([], pne t 61 (plt t σ))
def bce (t : List Nat) (fst : Bool) (wd : Nat) (σ : Ps) : Cl := (plv t σ, (bcg t fst wd σ).1)
def bcw (t : List Nat) (fst : Bool) (wd : Nat) (σ : Ps) : Nat := if fst = true then (bcg t fst wd σ).1.length else wd
def bcp (t : List Nat) (fst : Bool) (wd : Nat) (σ : Ps) : Ps := if (bcg t fst wd σ).1.length < (if fst = true then 2 else wd) then pre (bcg t fst wd σ).2 else (bcg t fst wd σ).2
abbrev Bl : Type := List Cl × Nat × Ps
def bkc1 (t : List Nat) (x : Bl) : Bl := (x.1 ++ [bce t x.1.isEmpty x.2.1 x.2.2], bcw t x.1.isEmpty x.2.1 x.2.2, bcp t x.1.isEmpty x.2.1 x.2.2)
def bkl (t : List Nat) : Nat → Bl → Bl
  | 0, x => x
  | m + 1, x => if m = 0 then bkc1 t x else if psg t (bkc1 t x).2.2 = 59 then bkl t m ((bkc1 t x).1, (bkc1 t x).2.1, pst t (bkc1 t x).2.2) else bkc1 t x
def bke (t : List Nat) : Bl := bkl t 8 ([], 0, .inl (skp t 0))
theorem cls_len {t : List Nat} : ∀ (m : Nat) (x : List Nat × Ps), (cls t m x).1.length ≤ x.1.length + m := by
  intro m
  induction m with
  | zero => intro x; exact Nat.le_refl _
  | succ m ih =>
    intro x
    unfold cls
    split
    · have := ih (x.1 ++ [sgo (psg t x.2)], pst t x.2)
      rw [List.length_append] at this
      simp only [List.length_cons, List.length_nil] at this
      omega
    · omega
theorem cls_4 {t : List Nat} : ∀ (m : Nat) (x : List Nat × Ps), (∀ g ∈ x.1, g < 4) → ∀ g ∈ (cls t m x).1, g < 4 := by
  intro m
  induction m with
  | zero => intro x h; exact h
  | succ m ih =>
    intro x h
    unfold cls
    split
    · rename_i hp
      refine ih _ (fun g hg => ?_)
      rcases List.mem_append.mp hg with h1 | h1
      · exact h g h1
      · have : g = sgo (psg t x.2) := by simpa using h1
        rw [this]; exact (sgo_asc hp).2
    · exact h
def cg (cl : List Cl) (i : Nat) : List Nat := (cl.getD i (0, [])).2
/-- the draft -/
def DB (cl : List Cl) (s : mM) : Prop := NL s 6 (cl.map fun c => c.1) ∧ ∀ i, i < cl.length → ∀ q, q < (cg cl i).length → q < 5 → ri s 9 (i * 5 + q) = nI (asc ((cg cl i).getD q 0))
theorem DB.fr {A : List Nat} {cl : List Cl} {s s' : mM} (h : DB cl s) (f : Fr A s s') (h1 : 6 ∉ A) (h2 : 7 ∉ A) (h3 : 9 ∉ A) : DB cl s' := ⟨h.1.fr f h1 h2, fun i hi q hq hq5 => (f.ri h3).trans (h.2 i hi q hq hq5)⟩
theorem cg_app1 {cl : List Cl} {e : Cl} {i : Nat} (h : i < cl.length) : cg (cl ++ [e]) i = cg cl i := by
  unfold cg
  rw [List.getD, List.getD, List.getElem?_append_left h]
theorem cg_app2 {cl : List Cl} {e : Cl} : cg (cl ++ [e]) cl.length = e.2 := by
  unfold cg
  rw [List.getD, List.getElem?_append_right (Nat.le_refl _), Nat.sub_self]; rfl
section TP
variable {X : am_X} {d : Nat} {s : mM} {hp : am_H} {Q : Option Value → am_H → Prop} {T n c k q wd : Nat} {t l : List Nat} {σ : Ps} {v : Int32} {cl : List Cl}
theorem c14 {c : Nat} (hc : c < 256) (hq : Q (some (.int (bI (isP c)))) hp) : gE X d 14 [.int (nI c)] hp Q := by
  refine en14 rfl ?_
  refine g_p t14_0 rfl ?_
  refine g_k (n := 46) t14_1 rfl rfl ?_
  refine n_ceq t14_3 (by omega) (by omega) (fun h3 => ?_) (fun h3 => ?_)
  · refine g_k (n := 1) t14_24 rfl rfl ?_
    refine g_goto t14_25 ?_
    first
      | (have u0 := h21; exact b_ret t14_29 (by subst u0; rfl) hq)
      | (have u0 := h15; exact b_ret t14_29 (by subst u0; rfl) hq)
      | (have u0 := h9; exact b_ret t14_29 (by subst u0; rfl) hq)
      | (have u0 := h3; exact b_ret t14_29 (by subst u0; rfl) hq)
      | (have u0 : ¬ c = 63 := h21
         exact b_ret t14_29 (by
           unfold isP
           rw [beq_eq_false_iff_ne.mpr h3, beq_eq_false_iff_ne.mpr h9, beq_eq_false_iff_ne.mpr h15, beq_eq_false_iff_ne.mpr u0]; rfl) hq)
  · refine g_p t14_6 rfl ?_
    refine g_k (n := 114) t14_7 rfl rfl ?_
    refine n_ceq t14_9 (by omega) (by omega) (fun h9 => ?_) (fun h9 => ?_)
    · refine g_k (n := 1) t14_24 rfl rfl ?_
      refine g_goto t14_25 ?_
      first
        | (have u0 := h21; exact b_ret t14_29 (by subst u0; rfl) hq)
        | (have u0 := h15; exact b_ret t14_29 (by subst u0; rfl) hq)
        | (have u0 := h9; exact b_ret t14_29 (by subst u0; rfl) hq)
        | (have u0 := h3; exact b_ret t14_29 (by subst u0; rfl) hq)
        | (have u0 : ¬ c = 63 := h21
           exact b_ret t14_29 (by
             unfold isP
             rw [beq_eq_false_iff_ne.mpr h3, beq_eq_false_iff_ne.mpr h9, beq_eq_false_iff_ne.mpr h15, beq_eq_false_iff_ne.mpr u0]; rfl) hq)
    · refine g_p t14_12 rfl ?_
      refine g_k (n := 119) t14_13 rfl rfl ?_
      refine n_ceq t14_15 (by omega) (by omega) (fun h15 => ?_) (fun h15 => ?_)
      · refine g_k (n := 1) t14_24 rfl rfl ?_
        refine g_goto t14_25 ?_
        first
          | (have u0 := h21; exact b_ret t14_29 (by subst u0; rfl) hq)
          | (have u0 := h15; exact b_ret t14_29 (by subst u0; rfl) hq)
          | (have u0 := h9; exact b_ret t14_29 (by subst u0; rfl) hq)
          | (have u0 := h3; exact b_ret t14_29 (by subst u0; rfl) hq)
          | (have u0 : ¬ c = 63 := h21
             exact b_ret t14_29 (by
               unfold isP
               rw [beq_eq_false_iff_ne.mpr h3, beq_eq_false_iff_ne.mpr h9, beq_eq_false_iff_ne.mpr h15, beq_eq_false_iff_ne.mpr u0]; rfl) hq)
      · refine g_p t14_18 rfl ?_
        refine g_k (n := 63) t14_19 rfl rfl ?_
        refine n_cne t14_21 (by omega) (by omega) (fun h21 => ?_) (fun h21 => ?_)
        · refine g_k (n := 0) t14_28 rfl rfl ?_
          first
            | (have u0 := h21; exact b_ret t14_29 (by subst u0; rfl) hq)
            | (have u0 := h15; exact b_ret t14_29 (by subst u0; rfl) hq)
            | (have u0 := h9; exact b_ret t14_29 (by subst u0; rfl) hq)
            | (have u0 := h3; exact b_ret t14_29 (by subst u0; rfl) hq)
            | (have u0 : ¬ c = 63 := h21
               exact b_ret t14_29 (by
                 unfold isP
                 rw [beq_eq_false_iff_ne.mpr h3, beq_eq_false_iff_ne.mpr h9, beq_eq_false_iff_ne.mpr h15, beq_eq_false_iff_ne.mpr u0]; rfl) hq)
        · refine g_k (n := 1) t14_24 rfl rfl ?_
          refine g_goto t14_25 ?_
          first
            | (have u0 := h21; exact b_ret t14_29 (by subst u0; rfl) hq)
            | (have u0 := h15; exact b_ret t14_29 (by subst u0; rfl) hq)
            | (have u0 := h9; exact b_ret t14_29 (by subst u0; rfl) hq)
            | (have u0 := h3; exact b_ret t14_29 (by subst u0; rfl) hq)
            | (have u0 : ¬ c = 63 := h21
               exact b_ret t14_29 (by
                 unfold isP
                 rw [beq_eq_false_iff_ne.mpr h3, beq_eq_false_iff_ne.mpr h9, beq_eq_false_iff_ne.mpr h15, beq_eq_false_iff_ne.mpr u0]; rfl) hq)
theorem c5 (hF : Fx s) (hb : k * 5 + q < 40) (hq : Q none (mR (wi s 9 (k * 5 + q) v))) : gE X (d + 1) 5 [.ref 5, .int (nI k), .int (nI q), .int v] (mR s) Q := by
  refine en5 rfl rfl rfl rfl ?_
  refine g_p t5_0 rfl ?_
  refine r_getr t5_1 (f5 hF) rfl rfl ?_
  refine g_p t5_4 rfl ?_
  refine g_k (n := 5) t5_5 rfl rfl ?_
  refine g_muln t5_6 ?_
  refine g_p t5_7 rfl ?_
  refine g_addn t5_8 ?_
  refine g_p t5_9 rfl ?_
  refine r_cv t5_10 (f8 hF) rfl ?_
  refine c31 (by exact fN8 hF) hb ?_
  refine k_0 ?_
  exact v_ret t5_13 hq
theorem c3 (hF : Fx s) (e : ri s 5 3 = v) (hq : Q (some (.int v)) (mR s)) : gE X d 3 [.ref 5] (mR s) Q := by
  refine en3 rfl ?_
  refine g_p t3_0 rfl ?_
  refine r_gete t3_1 (f5 hF) rfl rfl e ?_
  exact i_ret t3_4 rfl hq
theorem c4 (hF : Fx s) (hq : Q none (mR (wi s 5 3 v))) : gE X d 4 [.ref 5, .int v] (mR s) Q := by
  refine en4 rfl rfl ?_
  refine g_p t4_0 rfl ?_
  refine g_p t4_1 rfl ?_
  refine r_puti t4_2 (f5 hF) rfl rfl ?_
  exact v_ret t4_5 hq
theorem c2 (hF : Fx s) (hL : NL s 6 l) (hl : l.length < 8) (hq : ∀ s', Fr [6, 7] s s' → NL s' 6 (l ++ [k]) → Q none (mR s')) : gE X (d + 1) 2 [.ref 5, .int (nI k)] (mR s) Q := by
  refine en2 rfl rfl ?_
  refine g_p t2_0 rfl ?_
  refine r_getr t2_1 (f5 hF) rfl rfl ?_
  refine g_p t2_4 rfl ?_
  refine r_cv t2_5 (f6 hF) rfl ?_
  refine c33L (by exact fN6 hF) (by exact hL) (by omega) (fun s5 fr5 hL => ?_)
  refine k_v ?_ rfl
  have hF := Fx.fr (by exact hF) fr5
  refine g_p t2_8 rfl ?_
  exact v_ret t2_9 (hq s5 fr5 hL)
theorem c1 (hF : Fx s) (hL : NL s 6 l) (hl : l.length ≤ 8) (hq : ∀ s', Fr [5, 6] s s' → NL s' 6 [] → ri s' 5 3 = nI 0 → Q none (mR s')) : gE X (d + 1) 1 [.ref 5] (mR s) Q := by
  refine en1 rfl ?_
  refine g_p t1_0 rfl ?_
  refine r_getr t1_1 (f5 hF) rfl rfl ?_
  refine g_k (n := 0) t1_4 rfl rfl ?_
  refine r_cv t1_5 (f6 hF) rfl ?_
  refine c34L (by exact fN6 hF) (by exact hL) (by omega) (by omega) (fun s5 fr5 hL => ?_)
  refine k_0 ?_
  have hF := Fx.fr (by exact hF) fr5
  refine g_p t1_8 rfl ?_
  refine g_k (n := 0) t1_9 rfl rfl ?_
  refine r_puti t1_10 (f5 hF) rfl rfl ?_
  exact v_ret t1_13 (hq (wi s5 5 3 (nI 0)) ((fr5.mono (by decide)).wi (by simp)) hL rfl)
theorem c13 (hF : Fx s) (hTR : T ≠ 4 ∧ T + 1 ≠ 4) (hT2 : ∀ x ∈ [5, 6, 7, 9], T ≠ x ∧ T + 1 ≠ x) (hD : RD 4 T n t σ s) (hDB : DB cl s) (hw : ri s 5 3 = nI wd) (hwd : wd ≤ 5) (hc8 : cl.length < 8) (hq : ∀ s', Fr [4, 5, 6, 7, 9] s s' → DB (cl ++ [bce t cl.isEmpty wd σ]) s' → ri s' 5 3 = nI (bcw t cl.isEmpty wd σ) → RD 4 T n t (bcp t cl.isEmpty wd σ) s' → Q none (mR s')) : gE X (d + 2) 13 [.ref 4, .int (nI cl.length)] (mR s) Q := by
  have nT : ∀ A : List Nat, (∀ x ∈ A, x ∈ [5, 6, 7, 9]) → 4 ∉ A ∧ T ∉ A ∧ T + 1 ∉ A := fun A hA => ⟨fun h => absurd (hA _ h) (by decide), fun h => (hT2 _ (hA _ h)).1 rfl, fun h => (hT2 _ (hA _ h)).2 rfl⟩
  have hlm : (cl.map fun c => c.1).length = cl.length := List.length_map ..
  obtain ⟨fst, hfst⟩ : ∃ f, f = cl.isEmpty := ⟨_, rfl⟩
  rw [← hfst] at hq
  have hf0 : fst = true ↔ cl.length = 0 := by rw [hfst]; cases cl <;> simp
  obtain ⟨lo, hlo⟩ : ∃ x, x = (if fst = true then 2 else wd) := ⟨_, rfl⟩
  obtain ⟨hi, hhi⟩ : ∃ x, x = (if fst = true then 5 else wd) := ⟨_, rfl⟩
  have hlo5 : lo ≤ 5 := by rw [hlo]; split <;> omega
  have hhi5 : hi ≤ 5 := by rw [hhi]; split <;> omega
  have hcl : (bcg t fst wd σ).1.length ≤ 5 := by
    have := cls_len (t := t) (if fst = true then 5 else wd) ([], pne t 61 (plt t σ))
    rw [← hhi] at this
    unfold bcg
    rw [← hhi]
    simp only [List.length_nil] at this
    omega
  -- the end
  have END : ∀ s', Fx s' → Fr [4, 5, 6, 7, 9] s s' → DB (cl ++ [bce t fst wd σ]) s' → ri s' 5 3 = nI wd → RD 4 T n t (bcg t fst wd σ).2 s' → gG X (d + 2) 13 92 [.ref 4, .int (nI cl.length), .int (nI lo), .int (nI hi), .int (nI (bcg t fst wd σ).1.length)] [] (mR s') Q := by
    intro s' hF hf hDB hw hD
    unfold bcp bcw at hq
    rw [← hlo] at hq
    by_cases h1 : (bcg t fst wd σ).1.length < lo
    · rw [if_pos h1] at hq
      by_cases h2 : fst = true
      · rw [if_pos h2] at hq
        refine g_p t13_92 rfl ?_
        refine g_p t13_94 rfl ?_
        refine n_cge t13_95 (by omega) (by omega) (fun h95 => ?_) (fun h95 => ?_)
        · refine g_p t13_102 rfl ?_
          refine n_ne t13_103 (by omega) (fun h103 => ?_) (fun h103 => ?_)
          · first
              | (exfalso; have := hf0.mp h2; omega)
              | (exfalso; exact h2 (hf0.mpr h103))
              | (exfalso; omega)
              | exact v_ret t13_115 (hq (wi s99 5 3 (nI (bcg t fst wd σ).1.length)) (hf.wi (by simp)) hDB rfl (hD.fr (Fr.rf.wi (A := [5]) (by simp)) (nT [5] (by decide)).1 (nT [5] (by decide)).2.1 (nT [5] (by decide)).2.2))
              | exact v_ret t13_115 (hq s99 hf hDB hw hD)
              | exact v_ret t13_115 (hq (wi s' 5 3 (nI (bcg t fst wd σ).1.length)) (hf.wi (by simp)) hDB rfl (hD.fr (Fr.rf.wi (A := [5]) (by simp)) (nT [5] (by decide)).1 (nT [5] (by decide)).2.1 (nT [5] (by decide)).2.2))
              | exact v_ret t13_115 (hq s' hf hDB hw hD)
          · refine g_p t13_106 rfl ?_
            refine r_getr t13_107 (f4 hF) rfl rfl ?_
            refine g_p t13_110 rfl ?_
            refine r_cv t13_112 (f5 hF) rfl ?_
            refine c4 (by exact hF) ?_
            refine k_0 ?_
            first
              | (exfalso; have := hf0.mp h2; omega)
              | (exfalso; exact h2 (hf0.mpr h103))
              | (exfalso; omega)
              | exact v_ret t13_115 (hq (wi s99 5 3 (nI (bcg t fst wd σ).1.length)) (hf.wi (by simp)) hDB rfl (hD.fr (Fr.rf.wi (A := [5]) (by simp)) (nT [5] (by decide)).1 (nT [5] (by decide)).2.1 (nT [5] (by decide)).2.2))
              | exact v_ret t13_115 (hq s99 hf hDB hw hD)
              | exact v_ret t13_115 (hq (wi s' 5 3 (nI (bcg t fst wd σ).1.length)) (hf.wi (by simp)) hDB rfl (hD.fr (Fr.rf.wi (A := [5]) (by simp)) (nT [5] (by decide)).1 (nT [5] (by decide)).2.1 (nT [5] (by decide)).2.2))
              | exact v_ret t13_115 (hq s' hf hDB hw hD)
        · refine g_p t13_98 rfl ?_
          refine r_cv t13_99 (f4 hF) rfl ?_
          refine c59r_4 (by exact hF) hTR (by exact hD)  (fun s99 fr99 hD => ?_)
          have hF := hF.fr fr99.1
          have hf := hf.tr (fr99.1.mono (by decide))
          have hw := (fr99.1.ri (p := 5) (i := 3) (by decide)).trans hw
          have hDB := hDB.fr fr99.1 (by decide) (by decide) (by decide)
          refine k_0 ?_
          refine g_p t13_102 rfl ?_
          refine n_ne t13_103 (by omega) (fun h103 => ?_) (fun h103 => ?_)
          · first
              | (exfalso; have := hf0.mp h2; omega)
              | (exfalso; exact h2 (hf0.mpr h103))
              | (exfalso; omega)
              | exact v_ret t13_115 (hq (wi s99 5 3 (nI (bcg t fst wd σ).1.length)) (hf.wi (by simp)) hDB rfl (hD.fr (Fr.rf.wi (A := [5]) (by simp)) (nT [5] (by decide)).1 (nT [5] (by decide)).2.1 (nT [5] (by decide)).2.2))
              | exact v_ret t13_115 (hq s99 hf hDB hw hD)
              | exact v_ret t13_115 (hq (wi s' 5 3 (nI (bcg t fst wd σ).1.length)) (hf.wi (by simp)) hDB rfl (hD.fr (Fr.rf.wi (A := [5]) (by simp)) (nT [5] (by decide)).1 (nT [5] (by decide)).2.1 (nT [5] (by decide)).2.2))
              | exact v_ret t13_115 (hq s' hf hDB hw hD)
          · refine g_p t13_106 rfl ?_
            refine r_getr t13_107 (f4 hF) rfl rfl ?_
            refine g_p t13_110 rfl ?_
            refine r_cv t13_112 (f5 hF) rfl ?_
            refine c4 (by exact hF) ?_
            refine k_0 ?_
            first
              | (exfalso; have := hf0.mp h2; omega)
              | (exfalso; exact h2 (hf0.mpr h103))
              | (exfalso; omega)
              | exact v_ret t13_115 (hq (wi s99 5 3 (nI (bcg t fst wd σ).1.length)) (hf.wi (by simp)) hDB rfl (hD.fr (Fr.rf.wi (A := [5]) (by simp)) (nT [5] (by decide)).1 (nT [5] (by decide)).2.1 (nT [5] (by decide)).2.2))
              | exact v_ret t13_115 (hq s99 hf hDB hw hD)
              | exact v_ret t13_115 (hq (wi s' 5 3 (nI (bcg t fst wd σ).1.length)) (hf.wi (by simp)) hDB rfl (hD.fr (Fr.rf.wi (A := [5]) (by simp)) (nT [5] (by decide)).1 (nT [5] (by decide)).2.1 (nT [5] (by decide)).2.2))
              | exact v_ret t13_115 (hq s' hf hDB hw hD)
      · rw [if_neg h2] at hq
        refine g_p t13_92 rfl ?_
        refine g_p t13_94 rfl ?_
        refine n_cge t13_95 (by omega) (by omega) (fun h95 => ?_) (fun h95 => ?_)
        · refine g_p t13_102 rfl ?_
          refine n_ne t13_103 (by omega) (fun h103 => ?_) (fun h103 => ?_)
          · first
              | (exfalso; have := hf0.mp h2; omega)
              | (exfalso; exact h2 (hf0.mpr h103))
              | (exfalso; omega)
              | exact v_ret t13_115 (hq (wi s99 5 3 (nI (bcg t fst wd σ).1.length)) (hf.wi (by simp)) hDB rfl (hD.fr (Fr.rf.wi (A := [5]) (by simp)) (nT [5] (by decide)).1 (nT [5] (by decide)).2.1 (nT [5] (by decide)).2.2))
              | exact v_ret t13_115 (hq s99 hf hDB hw hD)
              | exact v_ret t13_115 (hq (wi s' 5 3 (nI (bcg t fst wd σ).1.length)) (hf.wi (by simp)) hDB rfl (hD.fr (Fr.rf.wi (A := [5]) (by simp)) (nT [5] (by decide)).1 (nT [5] (by decide)).2.1 (nT [5] (by decide)).2.2))
              | exact v_ret t13_115 (hq s' hf hDB hw hD)
          · refine g_p t13_106 rfl ?_
            refine r_getr t13_107 (f4 hF) rfl rfl ?_
            refine g_p t13_110 rfl ?_
            refine r_cv t13_112 (f5 hF) rfl ?_
            refine c4 (by exact hF) ?_
            refine k_0 ?_
            first
              | (exfalso; have := hf0.mp h2; omega)
              | (exfalso; exact h2 (hf0.mpr h103))
              | (exfalso; omega)
              | exact v_ret t13_115 (hq (wi s99 5 3 (nI (bcg t fst wd σ).1.length)) (hf.wi (by simp)) hDB rfl (hD.fr (Fr.rf.wi (A := [5]) (by simp)) (nT [5] (by decide)).1 (nT [5] (by decide)).2.1 (nT [5] (by decide)).2.2))
              | exact v_ret t13_115 (hq s99 hf hDB hw hD)
              | exact v_ret t13_115 (hq (wi s' 5 3 (nI (bcg t fst wd σ).1.length)) (hf.wi (by simp)) hDB rfl (hD.fr (Fr.rf.wi (A := [5]) (by simp)) (nT [5] (by decide)).1 (nT [5] (by decide)).2.1 (nT [5] (by decide)).2.2))
              | exact v_ret t13_115 (hq s' hf hDB hw hD)
        · refine g_p t13_98 rfl ?_
          refine r_cv t13_99 (f4 hF) rfl ?_
          refine c59r_4 (by exact hF) hTR (by exact hD)  (fun s99 fr99 hD => ?_)
          have hF := hF.fr fr99.1
          have hf := hf.tr (fr99.1.mono (by decide))
          have hw := (fr99.1.ri (p := 5) (i := 3) (by decide)).trans hw
          have hDB := hDB.fr fr99.1 (by decide) (by decide) (by decide)
          refine k_0 ?_
          refine g_p t13_102 rfl ?_
          refine n_ne t13_103 (by omega) (fun h103 => ?_) (fun h103 => ?_)
          · first
              | (exfalso; have := hf0.mp h2; omega)
              | (exfalso; exact h2 (hf0.mpr h103))
              | (exfalso; omega)
              | exact v_ret t13_115 (hq (wi s99 5 3 (nI (bcg t fst wd σ).1.length)) (hf.wi (by simp)) hDB rfl (hD.fr (Fr.rf.wi (A := [5]) (by simp)) (nT [5] (by decide)).1 (nT [5] (by decide)).2.1 (nT [5] (by decide)).2.2))
              | exact v_ret t13_115 (hq s99 hf hDB hw hD)
              | exact v_ret t13_115 (hq (wi s' 5 3 (nI (bcg t fst wd σ).1.length)) (hf.wi (by simp)) hDB rfl (hD.fr (Fr.rf.wi (A := [5]) (by simp)) (nT [5] (by decide)).1 (nT [5] (by decide)).2.1 (nT [5] (by decide)).2.2))
              | exact v_ret t13_115 (hq s' hf hDB hw hD)
          · refine g_p t13_106 rfl ?_
            refine r_getr t13_107 (f4 hF) rfl rfl ?_
            refine g_p t13_110 rfl ?_
            refine r_cv t13_112 (f5 hF) rfl ?_
            refine c4 (by exact hF) ?_
            refine k_0 ?_
            first
              | (exfalso; have := hf0.mp h2; omega)
              | (exfalso; exact h2 (hf0.mpr h103))
              | (exfalso; omega)
              | exact v_ret t13_115 (hq (wi s99 5 3 (nI (bcg t fst wd σ).1.length)) (hf.wi (by simp)) hDB rfl (hD.fr (Fr.rf.wi (A := [5]) (by simp)) (nT [5] (by decide)).1 (nT [5] (by decide)).2.1 (nT [5] (by decide)).2.2))
              | exact v_ret t13_115 (hq s99 hf hDB hw hD)
              | exact v_ret t13_115 (hq (wi s' 5 3 (nI (bcg t fst wd σ).1.length)) (hf.wi (by simp)) hDB rfl (hD.fr (Fr.rf.wi (A := [5]) (by simp)) (nT [5] (by decide)).1 (nT [5] (by decide)).2.1 (nT [5] (by decide)).2.2))
              | exact v_ret t13_115 (hq s' hf hDB hw hD)
    · rw [if_neg h1] at hq
      by_cases h2 : fst = true
      · rw [if_pos h2] at hq
        refine g_p t13_92 rfl ?_
        refine g_p t13_94 rfl ?_
        refine n_cge t13_95 (by omega) (by omega) (fun h95 => ?_) (fun h95 => ?_)
        · refine g_p t13_102 rfl ?_
          refine n_ne t13_103 (by omega) (fun h103 => ?_) (fun h103 => ?_)
          · first
              | (exfalso; have := hf0.mp h2; omega)
              | (exfalso; exact h2 (hf0.mpr h103))
              | (exfalso; omega)
              | exact v_ret t13_115 (hq (wi s99 5 3 (nI (bcg t fst wd σ).1.length)) (hf.wi (by simp)) hDB rfl (hD.fr (Fr.rf.wi (A := [5]) (by simp)) (nT [5] (by decide)).1 (nT [5] (by decide)).2.1 (nT [5] (by decide)).2.2))
              | exact v_ret t13_115 (hq s99 hf hDB hw hD)
              | exact v_ret t13_115 (hq (wi s' 5 3 (nI (bcg t fst wd σ).1.length)) (hf.wi (by simp)) hDB rfl (hD.fr (Fr.rf.wi (A := [5]) (by simp)) (nT [5] (by decide)).1 (nT [5] (by decide)).2.1 (nT [5] (by decide)).2.2))
              | exact v_ret t13_115 (hq s' hf hDB hw hD)
          · refine g_p t13_106 rfl ?_
            refine r_getr t13_107 (f4 hF) rfl rfl ?_
            refine g_p t13_110 rfl ?_
            refine r_cv t13_112 (f5 hF) rfl ?_
            refine c4 (by exact hF) ?_
            refine k_0 ?_
            first
              | (exfalso; have := hf0.mp h2; omega)
              | (exfalso; exact h2 (hf0.mpr h103))
              | (exfalso; omega)
              | exact v_ret t13_115 (hq (wi s99 5 3 (nI (bcg t fst wd σ).1.length)) (hf.wi (by simp)) hDB rfl (hD.fr (Fr.rf.wi (A := [5]) (by simp)) (nT [5] (by decide)).1 (nT [5] (by decide)).2.1 (nT [5] (by decide)).2.2))
              | exact v_ret t13_115 (hq s99 hf hDB hw hD)
              | exact v_ret t13_115 (hq (wi s' 5 3 (nI (bcg t fst wd σ).1.length)) (hf.wi (by simp)) hDB rfl (hD.fr (Fr.rf.wi (A := [5]) (by simp)) (nT [5] (by decide)).1 (nT [5] (by decide)).2.1 (nT [5] (by decide)).2.2))
              | exact v_ret t13_115 (hq s' hf hDB hw hD)
        · refine g_p t13_98 rfl ?_
          refine r_cv t13_99 (f4 hF) rfl ?_
          refine c59r_4 (by exact hF) hTR (by exact hD)  (fun s99 fr99 hD => ?_)
          have hF := hF.fr fr99.1
          have hf := hf.tr (fr99.1.mono (by decide))
          have hw := (fr99.1.ri (p := 5) (i := 3) (by decide)).trans hw
          have hDB := hDB.fr fr99.1 (by decide) (by decide) (by decide)
          refine k_0 ?_
          refine g_p t13_102 rfl ?_
          refine n_ne t13_103 (by omega) (fun h103 => ?_) (fun h103 => ?_)
          · first
              | (exfalso; have := hf0.mp h2; omega)
              | (exfalso; exact h2 (hf0.mpr h103))
              | (exfalso; omega)
              | exact v_ret t13_115 (hq (wi s99 5 3 (nI (bcg t fst wd σ).1.length)) (hf.wi (by simp)) hDB rfl (hD.fr (Fr.rf.wi (A := [5]) (by simp)) (nT [5] (by decide)).1 (nT [5] (by decide)).2.1 (nT [5] (by decide)).2.2))
              | exact v_ret t13_115 (hq s99 hf hDB hw hD)
              | exact v_ret t13_115 (hq (wi s' 5 3 (nI (bcg t fst wd σ).1.length)) (hf.wi (by simp)) hDB rfl (hD.fr (Fr.rf.wi (A := [5]) (by simp)) (nT [5] (by decide)).1 (nT [5] (by decide)).2.1 (nT [5] (by decide)).2.2))
              | exact v_ret t13_115 (hq s' hf hDB hw hD)
          · refine g_p t13_106 rfl ?_
            refine r_getr t13_107 (f4 hF) rfl rfl ?_
            refine g_p t13_110 rfl ?_
            refine r_cv t13_112 (f5 hF) rfl ?_
            refine c4 (by exact hF) ?_
            refine k_0 ?_
            first
              | (exfalso; have := hf0.mp h2; omega)
              | (exfalso; exact h2 (hf0.mpr h103))
              | (exfalso; omega)
              | exact v_ret t13_115 (hq (wi s99 5 3 (nI (bcg t fst wd σ).1.length)) (hf.wi (by simp)) hDB rfl (hD.fr (Fr.rf.wi (A := [5]) (by simp)) (nT [5] (by decide)).1 (nT [5] (by decide)).2.1 (nT [5] (by decide)).2.2))
              | exact v_ret t13_115 (hq s99 hf hDB hw hD)
              | exact v_ret t13_115 (hq (wi s' 5 3 (nI (bcg t fst wd σ).1.length)) (hf.wi (by simp)) hDB rfl (hD.fr (Fr.rf.wi (A := [5]) (by simp)) (nT [5] (by decide)).1 (nT [5] (by decide)).2.1 (nT [5] (by decide)).2.2))
              | exact v_ret t13_115 (hq s' hf hDB hw hD)
      · rw [if_neg h2] at hq
        refine g_p t13_92 rfl ?_
        refine g_p t13_94 rfl ?_
        refine n_cge t13_95 (by omega) (by omega) (fun h95 => ?_) (fun h95 => ?_)
        · refine g_p t13_102 rfl ?_
          refine n_ne t13_103 (by omega) (fun h103 => ?_) (fun h103 => ?_)
          · first
              | (exfalso; have := hf0.mp h2; omega)
              | (exfalso; exact h2 (hf0.mpr h103))
              | (exfalso; omega)
              | exact v_ret t13_115 (hq (wi s99 5 3 (nI (bcg t fst wd σ).1.length)) (hf.wi (by simp)) hDB rfl (hD.fr (Fr.rf.wi (A := [5]) (by simp)) (nT [5] (by decide)).1 (nT [5] (by decide)).2.1 (nT [5] (by decide)).2.2))
              | exact v_ret t13_115 (hq s99 hf hDB hw hD)
              | exact v_ret t13_115 (hq (wi s' 5 3 (nI (bcg t fst wd σ).1.length)) (hf.wi (by simp)) hDB rfl (hD.fr (Fr.rf.wi (A := [5]) (by simp)) (nT [5] (by decide)).1 (nT [5] (by decide)).2.1 (nT [5] (by decide)).2.2))
              | exact v_ret t13_115 (hq s' hf hDB hw hD)
          · refine g_p t13_106 rfl ?_
            refine r_getr t13_107 (f4 hF) rfl rfl ?_
            refine g_p t13_110 rfl ?_
            refine r_cv t13_112 (f5 hF) rfl ?_
            refine c4 (by exact hF) ?_
            refine k_0 ?_
            first
              | (exfalso; have := hf0.mp h2; omega)
              | (exfalso; exact h2 (hf0.mpr h103))
              | (exfalso; omega)
              | exact v_ret t13_115 (hq (wi s99 5 3 (nI (bcg t fst wd σ).1.length)) (hf.wi (by simp)) hDB rfl (hD.fr (Fr.rf.wi (A := [5]) (by simp)) (nT [5] (by decide)).1 (nT [5] (by decide)).2.1 (nT [5] (by decide)).2.2))
              | exact v_ret t13_115 (hq s99 hf hDB hw hD)
              | exact v_ret t13_115 (hq (wi s' 5 3 (nI (bcg t fst wd σ).1.length)) (hf.wi (by simp)) hDB rfl (hD.fr (Fr.rf.wi (A := [5]) (by simp)) (nT [5] (by decide)).1 (nT [5] (by decide)).2.1 (nT [5] (by decide)).2.2))
              | exact v_ret t13_115 (hq s' hf hDB hw hD)
        · refine g_p t13_98 rfl ?_
          refine r_cv t13_99 (f4 hF) rfl ?_
          refine c59r_4 (by exact hF) hTR (by exact hD)  (fun s99 fr99 hD => ?_)
          have hF := hF.fr fr99.1
          have hf := hf.tr (fr99.1.mono (by decide))
          have hw := (fr99.1.ri (p := 5) (i := 3) (by decide)).trans hw
          have hDB := hDB.fr fr99.1 (by decide) (by decide) (by decide)
          refine k_0 ?_
          refine g_p t13_102 rfl ?_
          refine n_ne t13_103 (by omega) (fun h103 => ?_) (fun h103 => ?_)
          · first
              | (exfalso; have := hf0.mp h2; omega)
              | (exfalso; exact h2 (hf0.mpr h103))
              | (exfalso; omega)
              | exact v_ret t13_115 (hq (wi s99 5 3 (nI (bcg t fst wd σ).1.length)) (hf.wi (by simp)) hDB rfl (hD.fr (Fr.rf.wi (A := [5]) (by simp)) (nT [5] (by decide)).1 (nT [5] (by decide)).2.1 (nT [5] (by decide)).2.2))
              | exact v_ret t13_115 (hq s99 hf hDB hw hD)
              | exact v_ret t13_115 (hq (wi s' 5 3 (nI (bcg t fst wd σ).1.length)) (hf.wi (by simp)) hDB rfl (hD.fr (Fr.rf.wi (A := [5]) (by simp)) (nT [5] (by decide)).1 (nT [5] (by decide)).2.1 (nT [5] (by decide)).2.2))
              | exact v_ret t13_115 (hq s' hf hDB hw hD)
          · refine g_p t13_106 rfl ?_
            refine r_getr t13_107 (f4 hF) rfl rfl ?_
            refine g_p t13_110 rfl ?_
            refine r_cv t13_112 (f5 hF) rfl ?_
            refine c4 (by exact hF) ?_
            refine k_0 ?_
            first
              | (exfalso; have := hf0.mp h2; omega)
              | (exfalso; exact h2 (hf0.mpr h103))
              | (exfalso; omega)
              | exact v_ret t13_115 (hq (wi s99 5 3 (nI (bcg t fst wd σ).1.length)) (hf.wi (by simp)) hDB rfl (hD.fr (Fr.rf.wi (A := [5]) (by simp)) (nT [5] (by decide)).1 (nT [5] (by decide)).2.1 (nT [5] (by decide)).2.2))
              | exact v_ret t13_115 (hq s99 hf hDB hw hD)
              | exact v_ret t13_115 (hq (wi s' 5 3 (nI (bcg t fst wd σ).1.length)) (hf.wi (by simp)) hDB rfl (hD.fr (Fr.rf.wi (A := [5]) (by simp)) (nT [5] (by decide)).1 (nT [5] (by decide)).2.1 (nT [5] (by decide)).2.2))
              | exact v_ret t13_115 (hq s' hf hDB hw hD)
  have K : ∀ j g τ s', g.length + j = hi → bcg t fst wd σ = cls t j (g, τ) → (∀ x ∈ g, x < 4) → Fx s' → Fr [4, 5, 6, 7, 9] s s' → NL s' 6 ((cl.map fun c => c.1) ++ [plv t σ]) → (∀ i, i < cl.length → ∀ q, q < (cg cl i).length → q < 5 → ri s' 9 (i * 5 + q) = nI (asc ((cg cl i).getD q 0))) → (∀ q, q < g.length → ri s' 9 (cl.length * 5 + q) = nI (asc (g.getD q 0))) → ri s' 5 3 = nI wd → RD 4 T n t τ s' → gG X (d + 2) 13 52 [.ref 4, .int (nI cl.length), .int (nI lo), .int (nI hi), .int (nI g.length)] [] (mR s') Q := by
    have DBe : ∀ g s', (bcg t fst wd σ).1 = g → NL s' 6 ((cl.map fun c => c.1) ++ [plv t σ]) → (∀ i, i < cl.length → ∀ q, q < (cg cl i).length → q < 5 → ri s' 9 (i * 5 + q) = nI (asc ((cg cl i).getD q 0))) → (∀ q, q < g.length → ri s' 9 (cl.length * 5 + q) = nI (asc (g.getD q 0))) → DB (cl ++ [bce t fst wd σ]) s' := by
      intro g s' hge hL hold hnew
      refine ⟨by rw [List.map_append]; exact hL, fun i hi q hq hq5 => ?_⟩
      by_cases h9 : i = cl.length
      · subst h9
        rw [cg_app2] at hq ⊢
        have e : (bce t fst wd σ).2 = g := hge
        rw [e] at hq ⊢
        exact hnew q hq
      · rw [List.length_append] at hi
        simp only [List.length_cons, List.length_nil] at hi
        rw [cg_app1 (by omega)] at hq ⊢
        exact hold i (by omega) q hq hq5
    intro j
    induction j with
    | zero =>
      intro g τ s' hgl he h4 hF hf hL hold hnew hw hD
      have he : bcg t fst wd σ = (g, τ) := he
      refine g_p t13_52 rfl ?_
      refine g_p t13_54 rfl ?_
      refine n_cge t13_55 (by omega) (by omega) (fun h55 => ?_) (fun h55 => ?_)
      · have := END s' hF hf (DBe g s' (by rw [he]) hL hold hnew) hw (by rw [he]; exact hD)
        rw [he] at this
        exact this
      · exfalso; omega
    | succ j ih =>
      intro g τ s' hgl he h4 hF hf hL hold hnew hw hD
      have hlt := psg_lt hD.1 τ
      unfold cls at he
      by_cases hp : isP (psg t τ) = true
      · rw [if_pos hp] at he
        obtain ⟨ha, ha4⟩ := sgo_asc hp
        have hpz : psg t τ ≠ 0 := fun h => by rw [h] at hp; exact absurd hp (by decide)
        refine g_p t13_52 rfl ?_
        refine g_p t13_54 rfl ?_
        refine n_cge t13_55 (by omega) (by omega) (fun h55 => ?_) (fun h55 => ?_)
        · first
            | (exfalso; omega)
            | exact no_b hp h65
        · refine g_p t13_58 rfl ?_
          refine r_cv t13_59 (f4 hF) rfl ?_
          refine c52_4 (by exact hF) (by exact hD.2.2) ?_
          refine k_v ?_ rfl
          refine g_cs t13_62 rfl rfl rfl ?_
          refine c14 hlt ?_
          refine k_v ?_ rfl
          refine b_eq t13_65 (fun h65 => ?_) (fun h65 => ?_)
          · first
              | (exfalso; omega)
              | exact no_b hp h65
          · refine g_p t13_68 rfl ?_
            refine r_getr t13_69 (f4 hF) rfl rfl ?_
            refine g_p t13_72 rfl ?_
            refine g_p t13_73 rfl ?_
            refine g_p t13_75 rfl ?_
            refine r_cv t13_76 (f4 hF) rfl ?_
            refine c52_4 (by exact hF) (by exact hD.2.2) ?_
            refine k_v ?_ rfl
            refine r_cv t13_79 (f5 hF) rfl ?_
            refine c5 (by exact hF) (by omega) ?_
            refine k_0 ?_
            refine g_incn (n := 1) t13_82 rfl rfl (Nat.le_of_ble_eq_true rfl) (am_s1_4 rfl) ?_
            refine g_p t13_85 rfl ?_
            refine r_cv t13_86 (f4 hF) rfl ?_
            have hD' : RD 4 T n t τ (wi s' 9 (cl.length * 5 + g.length) (nI (psg t τ))) := hD.fr (Fr.rf.wi (A := [9]) (by simp)) (nT [9] (by decide)).1 (nT [9] (by decide)).2.1 (nT [9] (by decide)).2.2
            refine c53r_4 (by exact hF) hTR hD' (Or.inl hpz) (fun s86 fr86 hD => ?_)
            refine k_0 ?_
            refine g_goto t13_89 ?_
            have := ih (g ++ [sgo (psg t τ)]) (pst t τ) s86 (by rw [List.length_append]; simp only [List.length_cons, List.length_nil]; omega) he (fun x hx => by
              rcases List.mem_append.mp hx with h | h
              · exact h4 x h
              · have : x = sgo (psg t τ) := by simpa using h
                rw [this]; exact ha4) (hF.fr (A := [4]) (s := wi s' 9 (cl.length * 5 + g.length) (nI (psg t τ))) fr86.1) ((hf.wi (p := 9) (by simp)).tr (fr86.1.mono (by decide))) (NL.fr (p := 6) (s := wi s' 9 (cl.length * 5 + g.length) (nI (psg t τ))) hL fr86.1 (by decide) (by decide)) (fun i hi q hq hq5 => ?_) (fun q hq => ?_) ((fr86.1.ri (by decide)).trans hw) hD
            · rw [List.length_append] at this; exact this
            · rw [fr86.1.ri (by decide), ri_wi_j (by omega)]; exact hold i hi q hq hq5
            · rw [fr86.1.ri (by decide)]
              rw [List.length_append] at hq
              simp only [List.length_cons, List.length_nil] at hq
              by_cases h9 : q = g.length
              · subst h9; rw [ri_wi_eq, gD_app2, ha]
              · rw [ri_wi_j (by omega), gD_app1 (by omega)]; exact hnew q (by omega)
      · rw [if_neg hp] at he
        refine g_p t13_52 rfl ?_
        refine g_p t13_54 rfl ?_
        refine n_cge t13_55 (by omega) (by omega) (fun h55 => ?_) (fun h55 => ?_)
        · first
            | (exfalso; omega)
            | (have := END s' hF hf (DBe g s' (by rw [he]) hL hold hnew) hw (by rw [he]; exact hD)
               rw [he] at this
               exact this)
        · refine g_p t13_58 rfl ?_
          refine r_cv t13_59 (f4 hF) rfl ?_
          refine c52_4 (by exact hF) (by exact hD.2.2) ?_
          refine k_v ?_ rfl
          refine g_cs t13_62 rfl rfl rfl ?_
          refine c14 hlt ?_
          refine k_v ?_ rfl
          refine b_eq t13_65 (fun h65 => ?_) (fun h65 => ?_)
          · first
              | (exfalso; omega)
              | (have := END s' hF hf (DBe g s' (by rw [he]) hL hold hnew) hw (by rw [he]; exact hD)
                 rw [he] at this
                 exact this)
          · exact absurd h65 hp
  have hf : Fr [4, 5, 6, 7, 9] s s := Fr.rf
  by_cases h2 : fst = true
  · have h20 := hf0.mp h2
    rw [if_pos h2] at hlo hhi
    subst hlo; subst hhi
    refine en13 rfl rfl ?_
    refine g_p t13_0 rfl ?_
    refine r_getr t13_1 (f4 hF) rfl rfl ?_
    refine g_p t13_4 rfl ?_
    refine r_cv t13_5 (f4 hF) rfl ?_
    refine c58_4 (by exact hF) hTR (by exact hD)  (fun s5 fr5 hD => ?_)
    have hF := hF.fr fr5.1
    have hf := hf.tr (fr5.1.mono (by decide))
    have hw := (fr5.1.ri (p := 5) (i := 3) (by decide)).trans hw
    have hDB := hDB.fr fr5.1 (by decide) (by decide) (by decide)
    refine k_v ?_ rfl
    refine r_cv t13_8 (f5 hF) rfl ?_
    refine c2 (by exact hF) (by exact hDB.1) (by omega) (fun s8 fr8 hL => ?_)
    have hF := hF.fr fr8
    have hf := hf.tr (fr8.mono (by decide))
    have hw := (fr8.ri (p := 5) (i := 3) (by decide)).trans hw
    have hold := fun i hi q hq hq5 => (fr8.ri (p := 9) (i := i * 5 + q) (by decide)).trans (hDB.2 i hi q hq hq5)
    obtain ⟨a1, a2, a3⟩ := nT [6, 7] (by decide)
    have hD := hD.fr fr8 a1 a2 a3
    refine k_0 ?_
    refine g_p t13_11 rfl ?_
    refine g_k (n := 61) t13_12 rfl rfl ?_
    refine r_cv t13_14 (f4 hF) rfl ?_
    refine c56_4 (by exact hF) hTR (by exact hD) (w := 61) (by decide) (by decide) (fun s14 fr14 hD => ?_)
    have hF := hF.fr fr14.1
    have hf := hf.tr (fr14.1.mono (by decide))
    have hw := (fr14.1.ri (p := 5) (i := 3) (by decide)).trans hw
    have hL := hL.fr fr14.1 (by decide) (by decide)
    have hold := fun i hi q hq hq5 => (fr14.1.ri (p := 9) (i := i * 5 + q) (by decide)).trans (hold i hi q hq hq5)
    refine k_0 ?_
    refine g_p t13_17 rfl ?_
    refine n_ne t13_18 (by omega) (fun h18 => ?_) (fun h18 => ?_)
    · exact absurd h20 h18
    · refine g_k (n := 2) t13_21 rfl rfl ?_
      refine g_goto t13_22 ?_
      refine g_isn t13_32 (Nat.le_of_ble_eq_true rfl) (am_s1_2 rfl) ?_
      refine g_p t13_33 rfl ?_
      refine n_ne t13_34 (by omega) (fun h34 => ?_) (fun h34 => ?_)
      · exact absurd h20 h34
      · refine g_k (n := 5) t13_37 rfl rfl ?_
        refine g_goto t13_38 ?_
        refine g_isn t13_48 (Nat.le_of_ble_eq_true rfl) (am_s1_3 rfl) ?_
        refine g_k (n := 0) t13_49 rfl rfl ?_
        refine g_is t13_50 (Nat.le_of_ble_eq_true rfl) (am_s1_4 rfl) ?_
        exact K _ [] _ s14 (Nat.zero_add _) (by unfold bcg; rw [if_pos h2]) (fun x hx => by cases hx) hF hf hL hold (fun q hq => absurd hq (Nat.not_lt_zero q)) hw hD
  · have h20 : cl.length ≠ 0 := fun h => h2 (hf0.mpr h)
    rw [if_neg h2] at hlo hhi
    subst hlo; subst hhi
    refine en13 rfl rfl ?_
    refine g_p t13_0 rfl ?_
    refine r_getr t13_1 (f4 hF) rfl rfl ?_
    refine g_p t13_4 rfl ?_
    refine r_cv t13_5 (f4 hF) rfl ?_
    refine c58_4 (by exact hF) hTR (by exact hD)  (fun s5 fr5 hD => ?_)
    have hF := hF.fr fr5.1
    have hf := hf.tr (fr5.1.mono (by decide))
    have hw := (fr5.1.ri (p := 5) (i := 3) (by decide)).trans hw
    have hDB := hDB.fr fr5.1 (by decide) (by decide) (by decide)
    refine k_v ?_ rfl
    refine r_cv t13_8 (f5 hF) rfl ?_
    refine c2 (by exact hF) (by exact hDB.1) (by omega) (fun s8 fr8 hL => ?_)
    have hF := hF.fr fr8
    have hf := hf.tr (fr8.mono (by decide))
    have hw := (fr8.ri (p := 5) (i := 3) (by decide)).trans hw
    have hold := fun i hi q hq hq5 => (fr8.ri (p := 9) (i := i * 5 + q) (by decide)).trans (hDB.2 i hi q hq hq5)
    obtain ⟨a1, a2, a3⟩ := nT [6, 7] (by decide)
    have hD := hD.fr fr8 a1 a2 a3
    refine k_0 ?_
    refine g_p t13_11 rfl ?_
    refine g_k (n := 61) t13_12 rfl rfl ?_
    refine r_cv t13_14 (f4 hF) rfl ?_
    refine c56_4 (by exact hF) hTR (by exact hD) (w := 61) (by decide) (by decide) (fun s14 fr14 hD => ?_)
    have hF := hF.fr fr14.1
    have hf := hf.tr (fr14.1.mono (by decide))
    have hw := (fr14.1.ri (p := 5) (i := 3) (by decide)).trans hw
    have hL := hL.fr fr14.1 (by decide) (by decide)
    have hold := fun i hi q hq hq5 => (fr14.1.ri (p := 9) (i := i * 5 + q) (by decide)).trans (hold i hi q hq hq5)
    refine k_0 ?_
    refine g_p t13_17 rfl ?_
    refine n_ne t13_18 (by omega) (fun h18 => ?_) (fun h18 => ?_)
    · refine g_p t13_25 rfl ?_
      refine r_getr t13_26 (f4 hF) rfl rfl ?_
      refine r_cv t13_29 (f5 hF) rfl ?_
      refine c3 (by exact hF) (by exact hw) ?_
      refine k_v ?_ rfl
      refine g_isn t13_32 (Nat.le_of_ble_eq_true rfl) (am_s1_2 rfl) ?_
      refine g_p t13_33 rfl ?_
      refine n_ne t13_34 (by omega) (fun h34 => ?_) (fun h34 => ?_)
      · refine g_p t13_41 rfl ?_
        refine r_getr t13_42 (f4 hF) rfl rfl ?_
        refine r_cv t13_45 (f5 hF) rfl ?_
        refine c3 (by exact hF) (by exact hw) ?_
        refine k_v ?_ rfl
        refine g_isn t13_48 (Nat.le_of_ble_eq_true rfl) (am_s1_3 rfl) ?_
        refine g_k (n := 0) t13_49 rfl rfl ?_
        refine g_is t13_50 (Nat.le_of_ble_eq_true rfl) (am_s1_4 rfl) ?_
        exact K _ [] _ s14 (Nat.zero_add _) (by unfold bcg; rw [if_neg h2]) (fun x hx => by cases hx) hF hf hL hold (fun q hq => absurd hq (Nat.not_lt_zero q)) hw hD
      · exact absurd h34 h20
    · exact absurd h18 h20
end TP
