/-! THE REFERENCE, 29: faults; what unfaulted texts are -/
theorem wde_len {t : List Nat} : 0 < (wde t).1.length ∧ ∀ x ∈ (wde t).1, x < 8 := by
  have H : ∀ n (x : List Nat × Ps), 0 < x.1.length → (∀ y ∈ x.1, y < 8) → 0 < (wdl t n x).1.length ∧ ∀ y ∈ (wdl t n x).1, y < 8 := by
    intro n
    induction n with
    | zero => intro x h1 h2; exact ⟨h1, h2⟩
    | succ n ih =>
      intro x h1 h2
      unfold wdl
      split
      · exact ⟨h1, h2⟩
      · refine ih _ (by rw [List.length_append]; omega) (fun y hy => ?_)
        rcases List.mem_append.mp hy with h | h
        · exact h2 y h
        · have : y = plv t x.2 := by simpa using h
          rw [this]; exact plv_lt
  exact H 7 _ Nat.zero_lt_one (fun y hy => by
    have : y = plv t (.inl (skp t 0)) := by simpa using hy
    rw [this]; exact plv_lt)
/-- clauses alike in width -/
def gcl (cl : List Cl) (wd : Nat) : Prop := ∀ c ∈ cl, c.1 < 8 ∧ c.2.length = wd ∧ ∀ g ∈ c.2, g < 4
theorem bkl_r {t : List Nat} : ∀ m (x : Bl), (∃ q, x.2.2 = .inr q) → 0 < m → ∃ q, (bkl t m x).2.2 = .inr q := by
  intro m
  cases m with
  | zero => intro x _ h; exact absurd h (by decide)
  | succ m =>
    intro x ⟨q, hq⟩ _
    have e1 : (bkc1 t x).2.2 = .inr q := by
      unfold bkc1 bcp bcg
      show (if (cls t _ ([], pne t 61 (plt t x.2.2))).1.length < _ then pre (cls t _ ([], pne t 61 (plt t x.2.2))).2 else (cls t _ ([], pne t 61 (plt t x.2.2))).2) = .inr q
      rw [hq, show plt t (.inr q) = .inr q from rfl, show pne t 61 (.inr q) = .inr q from rfl, cls_r]
      have h9 : ∀ (c : Prop) [Decidable c], (if c then pre (.inr q) else (.inr q : Ps)) = .inr q := fun c _ => by split <;> rfl
      exact h9 _
    unfold bkl
    split
    · exact ⟨q, e1⟩
    · rw [if_neg (by rw [e1]; show ¬ (0 : Nat) = 59; decide)]; exact ⟨q, e1⟩
theorem bkl_ok {t : List Nat} : ∀ m (x : Bl), 0 < m → gcl x.1 x.2.1 → (0 < x.1.length → 2 ≤ x.2.1 ∧ x.2.1 ≤ 5) → (∃ p, (bkl t m x).2.2 = .inl p) → gcl (bkl t m x).1 (bkl t m x).2.1 ∧ 2 ≤ (bkl t m x).2.1 ∧ (bkl t m x).2.1 ≤ 5 ∧ 0 < (bkl t m x).1.length := by
  intro m
  induction m with
  | zero => intro x h; exact absurd h (by decide)
  | succ m ih =>
    intro x _ hg hw hp
    obtain ⟨y, hy⟩ : ∃ y, y = bkc1 t x := ⟨_, rfl⟩
    have ONE : (∃ p, y.2.2 = .inl p) → gcl y.1 y.2.1 ∧ 2 ≤ y.2.1 ∧ y.2.1 ≤ 5 ∧ 0 < y.1.length := by
      intro ⟨p, hp1⟩
      obtain ⟨cl, wd, σ⟩ := x
      have hemp : cl.isEmpty = decide (cl.length = 0) := by cases cl <;> rfl
      obtain ⟨S, hS⟩ : ∃ S, S = bcg t cl.isEmpty wd σ := ⟨_, rfl⟩
      have hl := cls_len (t := t) (if cl.isEmpty = true then 5 else wd) ([], pne t 61 (plt t σ))
      have h4 := cls_4 (t := t) (if cl.isEmpty = true then 5 else wd) ([], pne t 61 (plt t σ)) (fun g h => absurd h (by simp))
      have hSl : S.1.length ≤ (if cl.isEmpty = true then 5 else wd) := by rw [hS]; unfold bcg; simpa using hl
      have hS4 : ∀ g ∈ S.1, g < 4 := by rw [hS]; exact h4
      have ey : y = (cl ++ [(plv t σ, S.1)], (if cl.isEmpty = true then S.1.length else wd), (if S.1.length < (if cl.isEmpty = true then 2 else wd) then pre S.2 else S.2)) := by
        rw [hy, hS]; rfl
      rw [ey] at hp1 ⊢
      have hp : (if S.1.length < (if cl.isEmpty = true then 2 else wd) then pre S.2 else S.2) = .inl p := hp1
      have hge : ¬ S.1.length < (if cl.isEmpty = true then 2 else wd) := fun h => by
        rw [if_pos h] at hp
        obtain ⟨f, hf⟩ := pre_r (σ := S.2)
        rw [hf] at hp; exact absurd hp (by simp)
      have hwd : (if cl.isEmpty = true then S.1.length else wd) = S.1.length ∧ 2 ≤ S.1.length ∧ S.1.length ≤ 5 := by
        by_cases h0 : cl.length = 0
        · rw [hemp, decide_eq_true h0] at hge hSl ⊢
          have hge : ¬ S.1.length < 2 := hge
          have hSl : S.1.length ≤ 5 := hSl
          exact ⟨rfl, by omega, hSl⟩
        · rw [hemp, decide_eq_false h0] at hge hSl ⊢
          have hge : ¬ S.1.length < wd := hge
          have hSl : S.1.length ≤ wd := hSl
          have hw : 2 ≤ wd ∧ wd ≤ 5 := hw (Nat.pos_of_ne_zero h0)
          exact ⟨show wd = S.1.length by omega, by omega, by omega⟩
      refine ⟨fun c hc => ?_, ?_, ?_, ?_⟩
      · show c.1 < 8 ∧ c.2.length = (if cl.isEmpty = true then S.1.length else wd) ∧ ∀ g ∈ c.2, g < 4
        rw [hwd.1]
        rcases List.mem_append.mp hc with h | h
        · have hc0 : ¬ cl.length = 0 := fun e => by rw [List.length_eq_zero_iff.mp e] at h; exact absurd h (by simp)
          have h9 := hg c h
          have h8 : wd = S.1.length := by
            have := hwd.1
            rw [hemp, decide_eq_false hc0] at this
            exact this
          exact ⟨h9.1, h9.2.1.trans h8, h9.2.2⟩
        · have : c = (plv t σ, S.1) := by simpa using h
          subst this
          exact ⟨plv_lt, rfl, hS4⟩
      · show 2 ≤ (if cl.isEmpty = true then S.1.length else wd)
        rw [hwd.1]; exact hwd.2.1
      · show (if cl.isEmpty = true then S.1.length else wd) ≤ 5
        rw [hwd.1]; exact hwd.2.2
      · show 0 < (cl ++ [(plv t σ, S.1)]).length
        rw [List.length_append]; simp
    have e : bkl t (m + 1) x = (if m = 0 then y else if psg t y.2.2 = 59 then bkl t m (y.1, y.2.1, pst t y.2.2) else y) := by rw [hy]; rfl
    rw [e] at hp ⊢
    by_cases hm : m = 0
    · rw [if_pos hm] at hp ⊢; exact ONE hp
    · rw [if_neg hm] at hp ⊢
      by_cases h59 : psg t y.2.2 = 59
      · rw [if_pos h59] at hp ⊢
        obtain ⟨q, hq⟩ := psg_inl (t := t) (σ := y.2.2) (by omega)
        obtain ⟨o1, o2, o3, o4⟩ := ONE ⟨q, hq⟩
        exact ih _ (Nat.pos_of_ne_zero hm) o1 (fun _ => ⟨o2, o3⟩) hp
      · rw [if_neg h59] at hp ⊢; exact ONE hp
theorem pfi_i {t : List Nat} {σ : Ps} {p : Nat} (h : pfi t σ = .inl p) : σ = .inl p := by
  unfold pfi at h
  split at h
  · exact h
  · obtain ⟨f, hf⟩ := pre_r (σ := σ)
    rw [hf] at h; exact absurd h (by simp)
theorem bke_ok {t : List Nat} {p : Nat} (h : pfi t (bke t).2.2 = .inl p) : gcl (bke t).1 (bke t).2.1 ∧ 2 ≤ (bke t).2.1 ∧ (bke t).2.1 ≤ 5 ∧ 0 < (bke t).1.length := bkl_ok 8 _ (by decide) (fun c hc => absurd hc (by simp)) (fun h => absurd h (Nat.lt_irrefl 0)) ⟨p, pfi_i h⟩
theorem pfv_m {σ : Ps} (h : pfv σ = -1) (hb : ∀ f, σ = .inr f → f < 2 ^ 31) : ∃ p, σ = .inl p := by
  cases σ with
  | inl p => exact ⟨p, rfl⟩
  | inr f => exact absurd h (nI_m1 (hb f rfl))
section RL2
variable {X : am_X} {d : Nat} {s : mM} {hp : am_H} {Q : Option Value → am_H → Prop} {k n w : Nat} {t l : List Nat} {x : Int32} {bks : List Bk} {wds lis : List (List Nat)}
theorem c206_0 (hF : Fx s) (hT : MTp t s) (h120 : t.length ≤ 120) (hb : isB t) (hq : ∀ s', FM [86] (0 :: sB) s s' → ((∃ p, pfi t (sle t).2 = .inl p) → ri s' 80 22 = nI (pdv t 2 5 (sl0 t)) ∧ SV (sle t).1 s') → Q (some (.int (pfv (pfi t (sle t).2)))) (mR s')) : gE X (d + 5) 206 [.ref 80, .int (nI 0)] (mR s) Q := by
  have e6 := hT.1
  refine en206 rfl rfl ?_
  refine g_p t206_0 rfl ?_
  refine g_k (n := 0) t206_1 rfl rfl ?_
  refine r_puti t206_2 (f80 hF) rfl rfl ?_
  refine g_p t206_5 rfl ?_
  refine g_p t206_6 rfl ?_
  refine g_p t206_7 rfl ?_
  refine g_p t206_8 rfl ?_
  refine g_cs t206_11 rfl rfl rfl ?_
  refine c176i (a := nI 0) (b := nI 3) rfl rfl ?_
  rw [isR_n (a := 0) (b := 3) (n := 0) (by decide) (by decide) (by decide)]
  refine k_v ?_ rfl
  refine b_ne t206_14 (fun h14 => ?_) (fun h14 => ?_)
  · refine g_p t206_20 rfl ?_
    refine n_ne t206_21 (by omega) (fun h => absurd rfl h) (fun _ => ?_)
    refine g_p t206_24 rfl ?_
    refine r_cv t206_25 (f80 hF) rfl ?_
    refine c201 (d := d) (Fx.fr (A := [80]) hF (Fr.rf.wi (by decide))) (show MTp t (wi s 80 0 (nI 0)) from hT) h120 hb (fun s1 f1 h1 h2 => ?_)
    have hF := hF.fr ((FM.rf.m (A := [86]) (B := 0 :: sB) (i := 0) (v := nI 0) (by decide)).tr (f1.mono (by decide) (by decide))).1
    refine k_0 ?_
    refine g_p t206_28 rfl ?_
    refine g_k (n := 1) t206_29 rfl rfl ?_
    refine n_cne t206_30 (by decide) (by decide) (fun _ => ?_) (fun h => absurd h (by decide))
    refine g_p t206_37 rfl ?_
    refine g_k (n := 2) t206_38 rfl rfl ?_
    refine n_cne t206_39 (by decide) (by decide) (fun _ => ?_) (fun h => absurd h (by decide))
    refine g_p t206_46 rfl ?_
    refine g_k (n := 3) t206_47 rfl rfl ?_
    refine n_cne t206_48 (by decide) (by decide) (fun _ => ?_) (fun h => absurd h (by decide))
    refine g_p t206_64 rfl ?_
    refine r_gete t206_65 (f80 hF) rfl rfl h1 ?_
    exact i_ret t206_68 rfl (hq s1 ((FM.rf.m (by decide)).tr (f1.mono (by decide) (by decide))) h2)
  · exact absurd h14 (by decide)
theorem c206_1 (hF : Fx s) (hT : MTp t s) (h120 : t.length ≤ 120) (hb : isB t) (hq : ∀ s', FM bA (0 :: xB) s s' → KB s s' → ((∃ p, pfi t (bke t).2.2 = .inl p) → ri s' 89 3 = nI (bke t).1.length ∧ ri s' 90 3 = nI (bke t).2.1 ∧ DBm (bke t).1 s') → Q (some (.int (pfv (pfi t (bke t).2.2)))) (mR s')) : gE X (d + 5) 206 [.ref 80, .int (nI 1)] (mR s) Q := by
  have e6 := hT.1
  refine en206 rfl rfl ?_
  refine g_p t206_0 rfl ?_
  refine g_k (n := 0) t206_1 rfl rfl ?_
  refine r_puti t206_2 (f80 hF) rfl rfl ?_
  refine g_p t206_5 rfl ?_
  refine g_p t206_6 rfl ?_
  refine g_p t206_7 rfl ?_
  refine g_p t206_8 rfl ?_
  refine g_cs t206_11 rfl rfl rfl ?_
  refine c176i (a := nI 0) (b := nI 3) rfl rfl ?_
  rw [isR_n (a := 0) (b := 3) (n := 1) (by decide) (by decide) (by decide)]
  refine k_v ?_ rfl
  refine b_ne t206_14 (fun h14 => ?_) (fun h14 => ?_)
  · refine g_p t206_20 rfl ?_
    refine n_ne t206_21 (by omega) (fun _ => ?_) (fun h => absurd h (by decide))
    refine g_p t206_28 rfl ?_
    refine g_k (n := 1) t206_29 rfl rfl ?_
    refine n_cne t206_30 (by decide) (by decide) (fun h => absurd rfl h) (fun _ => ?_)
    refine g_p t206_33 rfl ?_
    refine r_cv t206_34 (f80 hF) rfl ?_
    refine c204 (d := d) (Fx.fr (A := [80]) hF (Fr.rf.wi (by decide))) (show MTp t (wi s 80 0 (nI 0)) from hT) h120 hb (fun s1 f1 hkb h1 h2 => ?_)
    have hF := hF.fr ((FM.rf.m (A := bA) (B := 0 :: xB) (i := 0) (v := nI 0) (by decide)).tr (f1.mono (by decide) (by decide))).1
    refine k_0 ?_
    refine g_p t206_37 rfl ?_
    refine g_k (n := 2) t206_38 rfl rfl ?_
    refine n_cne t206_39 (by decide) (by decide) (fun _ => ?_) (fun h => absurd h (by decide))
    refine g_p t206_46 rfl ?_
    refine g_k (n := 3) t206_47 rfl rfl ?_
    refine n_cne t206_48 (by decide) (by decide) (fun _ => ?_) (fun h => absurd h (by decide))
    refine g_p t206_64 rfl ?_
    refine r_gete t206_65 (f80 hF) rfl rfl h1 ?_
    exact i_ret t206_68 rfl (hq s1 ((FM.rf.m (by decide)).tr (f1.mono (by decide) (by decide))) hkb h2)
  · exact absurd h14 (by decide)
theorem c206_2 (hF : Fx s) (hT : MTp t s) (h120 : t.length ≤ 120) (hb : isB t) (hq : ∀ s', FM [91, 92] (0 :: xB) s s' → ((∀ i, i < 32 → ri s' 91 i = ri s 91 i) ∧ ∀ i, i < 4 → ri s' 92 i = ri s 92 i) → ((∃ p, pfi t (wde t).2 = .inl p) → ri s' 92 4 = nI (wde t).1.length ∧ ∀ k, k < (wde t).1.length → ri s' 91 (32 + k) = nI ((wde t).1.getD k 0)) → Q (some (.int (pfv (pfi t (wde t).2)))) (mR s')) : gE X (d + 5) 206 [.ref 80, .int (nI 2)] (mR s) Q := by
  have e6 := hT.1
  refine en206 rfl rfl ?_
  refine g_p t206_0 rfl ?_
  refine g_k (n := 0) t206_1 rfl rfl ?_
  refine r_puti t206_2 (f80 hF) rfl rfl ?_
  refine g_p t206_5 rfl ?_
  refine g_p t206_6 rfl ?_
  refine g_p t206_7 rfl ?_
  refine g_p t206_8 rfl ?_
  refine g_cs t206_11 rfl rfl rfl ?_
  refine c176i (a := nI 0) (b := nI 3) rfl rfl ?_
  rw [isR_n (a := 0) (b := 3) (n := 2) (by decide) (by decide) (by decide)]
  refine k_v ?_ rfl
  refine b_ne t206_14 (fun h14 => ?_) (fun h14 => ?_)
  · refine g_p t206_20 rfl ?_
    refine n_ne t206_21 (by omega) (fun _ => ?_) (fun h => absurd h (by decide))
    refine g_p t206_28 rfl ?_
    refine g_k (n := 1) t206_29 rfl rfl ?_
    refine n_cne t206_30 (by decide) (by decide) (fun _ => ?_) (fun h => absurd h (by decide))
    refine g_p t206_37 rfl ?_
    refine g_k (n := 2) t206_38 rfl rfl ?_
    refine n_cne t206_39 (by decide) (by decide) (fun h => absurd rfl h) (fun _ => ?_)
    refine g_p t206_42 rfl ?_
    refine r_cv t206_43 (f80 hF) rfl ?_
    refine c205 (d := d + 1) (Fx.fr (A := [80]) hF (Fr.rf.wi (by decide))) (show MTp t (wi s 80 0 (nI 0)) from hT) h120 hb (fun s1 f1 hkb h1 h2 => ?_)
    have hF := hF.fr ((FM.rf.m (A := [91, 92]) (B := 0 :: xB) (i := 0) (v := nI 0) (by decide)).tr (f1.mono (by decide) (by decide))).1
    refine k_0 ?_
    refine g_p t206_46 rfl ?_
    refine g_k (n := 3) t206_47 rfl rfl ?_
    refine n_cne t206_48 (by decide) (by decide) (fun _ => ?_) (fun h => absurd h (by decide))
    refine g_p t206_64 rfl ?_
    refine r_gete t206_65 (f80 hF) rfl rfl h1 ?_
    exact i_ret t206_68 rfl (hq s1 ((FM.rf.m (by decide)).tr (f1.mono (by decide) (by decide))) hkb h2)
  · exact absurd h14 (by decide)
theorem c206_3 (hF : Fx s) (hT : MTp t s) (h120 : t.length ≤ 120) (hb : isB t) (hq : ∀ s', FM [] (0 :: lB) s s' → True → Q (some (.int (pfv (pfi t (lwo t fun _ => nI 0).2)))) (mR s')) : gE X (d + 204) 206 [.ref 80, .int (nI 3)] (mR s) Q := by
  have e6 := hT.1
  refine en206 rfl rfl ?_
  refine g_p t206_0 rfl ?_
  refine g_k (n := 0) t206_1 rfl rfl ?_
  refine r_puti t206_2 (f80 hF) rfl rfl ?_
  refine g_p t206_5 rfl ?_
  refine g_p t206_6 rfl ?_
  refine g_p t206_7 rfl ?_
  refine g_p t206_8 rfl ?_
  refine g_cs t206_11 rfl rfl rfl ?_
  refine c176i (a := nI 0) (b := nI 3) rfl rfl ?_
  rw [isR_n (a := 0) (b := 3) (n := 3) (by decide) (by decide) (by decide)]
  refine k_v ?_ rfl
  refine b_ne t206_14 (fun h14 => ?_) (fun h14 => ?_)
  · refine g_p t206_20 rfl ?_
    refine n_ne t206_21 (by omega) (fun _ => ?_) (fun h => absurd h (by decide))
    refine g_p t206_28 rfl ?_
    refine g_k (n := 1) t206_29 rfl rfl ?_
    refine n_cne t206_30 (by decide) (by decide) (fun _ => ?_) (fun h => absurd h (by decide))
    refine g_p t206_37 rfl ?_
    refine g_k (n := 2) t206_38 rfl rfl ?_
    refine n_cne t206_39 (by decide) (by decide) (fun _ => ?_) (fun h => absurd h (by decide))
    refine g_p t206_46 rfl ?_
    refine g_k (n := 3) t206_47 rfl rfl ?_
    refine n_cne t206_48 (by decide) (by decide) (fun h => absurd rfl h) (fun _ => ?_)
    refine g_p t206_51 rfl ?_
    refine g_p t206_52 rfl ?_
    refine r_getr t206_53 (f80 hF) rfl rfl ?_
    refine g_k (n := 0) t206_56 rfl rfl ?_
    refine g_p t206_57 rfl ?_
    refine r_gete t206_58 (f80 hF) rfl rfl e6 ?_
    refine r_cv t206_61 (f80 hF) rfl ?_
    refine c199 (d := d) (V := False) (a := fun _ => nI 0) (T := 81) (nT := 120) (B := 0) (Fx.fr (A := [80]) hF (Fr.rf.wi (by decide))) (MTp.ht (s := (wi s 80 0 (nI 0))) hT (Fx.fr (A := [80]) hF (Fr.rf.wi (by decide))) h120 hb) (fun h => h.elim) (fun s1 f1 h1 h2 => ?_)
    have hF := hF.fr ((FM.rf.m (A := []) (B := 0 :: lB) (i := 0) (v := nI 0) (by decide)).tr (f1.mono (by decide) (by decide))).1
    refine k_0 ?_
    refine g_p t206_64 rfl ?_
    refine r_gete t206_65 (f80 hF) rfl rfl h1 ?_
    exact i_ret t206_68 rfl (hq s1 ((FM.rf.m (by decide)).tr (f1.mono (by decide) (by decide))) trivial)
  · exact absurd h14 (by decide)
theorem isR_4 {x : Int32} : isR (nI 0) (nI 3) x = inN 4 x := isR_inN (n := 3) (by decide)
theorem c206n (hF : Fx s) (hx : inN 4 x = false) (hq : Q (some (.int (-2))) (mR (wi s 80 0 (nI 0)))) : gE X (d + 1) 206 [.ref 80, .int x] (mR s) Q := by
  refine en206 rfl rfl ?_
  refine g_p t206_0 rfl ?_
  refine g_k (n := 0) t206_1 rfl rfl ?_
  refine r_puti t206_2 (f80 hF) rfl rfl ?_
  refine g_p t206_5 rfl ?_
  refine g_p t206_6 rfl ?_
  refine g_p t206_7 rfl ?_
  refine g_p t206_8 rfl ?_
  refine g_cs t206_11 rfl rfl rfl ?_
  refine c176i (a := nI 0) (b := nI 3) rfl rfl ?_
  rw [isR_4, hx]
  refine k_v ?_ rfl
  refine b_ne t206_14 (fun h14 => ?_) (fun h14 => ?_)
  · exact absurd h14 (by decide)
  · refine g_p t206_17 rfl ?_
    exact i_ret t206_19 rfl hq
theorem c207_0 (hF : Fx s) (hq : Q (some (.int (bI true))) (mR s)) : gE X d 207 [.ref 80, .int (nI 0)] (mR s) Q := by
  refine en207 rfl rfl ?_
  refine g_p t207_0 rfl ?_
  refine n_eq t207_1 (by omega) (fun _ => ?_) (fun h => absurd rfl h)
  refine g_k (n := 1) t207_43 rfl rfl ?_
  refine g_goto t207_44 ?_
  exact b_ret t207_48 rfl hq
theorem c207_1 (hF : Fx s) (e : ri s 80 28 = nI n) (hn : n ≤ 4) (hq : Q (some (.int (bI (decide (n < 3))))) (mR s)) : gE X d 207 [.ref 80, .int (nI 1)] (mR s) Q := by
  refine en207 rfl rfl ?_
  refine g_p t207_0 rfl ?_
  refine n_eq t207_1 (by omega) (fun h => absurd h (by decide)) (fun _ => ?_)
  refine g_p t207_4 rfl ?_
  refine g_k (n := 1) t207_5 rfl rfl ?_
  refine n_cne t207_6 (by decide) (by decide) (fun h => absurd rfl h) (fun _ => ?_)
  refine g_p t207_9 rfl ?_
  refine r_gete t207_10 (f80 hF) rfl rfl e ?_
  refine g_k (n := 3) t207_13 rfl rfl ?_
  refine n_clt t207_14 (by omega) (by omega) (fun h14 => ?_) (fun h14 => ?_)
  · refine g_k (n := 1) t207_43 rfl rfl ?_
    refine g_goto t207_44 ?_
    first
      | (have u0 : n < 3 := h14
         exact b_ret t207_48 (by rw [decide_eq_true u0]; rfl) hq)
      | (have u0 : ¬ n < 3 := h14
         exact b_ret t207_48 (by rw [decide_eq_false u0]; rfl) hq)
      | (have u0 : 3 ≤ n := h14
         exact b_ret t207_48 (by rw [decide_eq_false (by omega)]; rfl) hq)
      | (have u0 : ¬ 3 ≤ n := h14
         exact b_ret t207_48 (by rw [decide_eq_true (by omega)]; rfl) hq)
  · refine g_p t207_17 rfl ?_
    refine g_k (n := 2) t207_18 rfl rfl ?_
    refine n_cne t207_19 (by decide) (by decide) (fun _ => ?_) (fun h => absurd h (by decide))
    refine g_p t207_30 rfl ?_
    refine g_k (n := 3) t207_31 rfl rfl ?_
    refine n_cne t207_32 (by decide) (by decide) (fun _ => ?_) (fun h => absurd h (by decide))
    refine g_k (n := 0) t207_47 rfl rfl ?_
    first
      | (have u0 : n < 3 := h14
         exact b_ret t207_48 (by rw [decide_eq_true u0]; rfl) hq)
      | (have u0 : ¬ n < 3 := h14
         exact b_ret t207_48 (by rw [decide_eq_false u0]; rfl) hq)
      | (have u0 : 3 ≤ n := h14
         exact b_ret t207_48 (by rw [decide_eq_false (by omega)]; rfl) hq)
      | (have u0 : ¬ 3 ≤ n := h14
         exact b_ret t207_48 (by rw [decide_eq_true (by omega)]; rfl) hq)
theorem c207_2 (hF : Fx s) (e : ri s 80 31 = nI n) (hn : n ≤ 4) (hq : Q (some (.int (bI (decide (n < 4))))) (mR s)) : gE X d 207 [.ref 80, .int (nI 2)] (mR s) Q := by
  refine en207 rfl rfl ?_
  refine g_p t207_0 rfl ?_
  refine n_eq t207_1 (by omega) (fun h => absurd h (by decide)) (fun _ => ?_)
  refine g_p t207_4 rfl ?_
  refine g_k (n := 1) t207_5 rfl rfl ?_
  refine n_cne t207_6 (by decide) (by decide) (fun _ => ?_) (fun h => absurd h (by decide))
  refine g_p t207_17 rfl ?_
  refine g_k (n := 2) t207_18 rfl rfl ?_
  refine n_cne t207_19 (by decide) (by decide) (fun h => absurd rfl h) (fun _ => ?_)
  refine g_p t207_22 rfl ?_
  refine r_gete t207_23 (f80 hF) rfl rfl e ?_
  refine g_k (n := 4) t207_26 rfl rfl ?_
  refine n_clt t207_27 (by omega) (by omega) (fun h27 => ?_) (fun h27 => ?_)
  · refine g_k (n := 1) t207_43 rfl rfl ?_
    refine g_goto t207_44 ?_
    first
      | (have u0 : n < 4 := h27
         exact b_ret t207_48 (by rw [decide_eq_true u0]; rfl) hq)
      | (have u0 : ¬ n < 4 := h27
         exact b_ret t207_48 (by rw [decide_eq_false u0]; rfl) hq)
      | (have u0 : 4 ≤ n := h27
         exact b_ret t207_48 (by rw [decide_eq_false (by omega)]; rfl) hq)
      | (have u0 : ¬ 4 ≤ n := h27
         exact b_ret t207_48 (by rw [decide_eq_true (by omega)]; rfl) hq)
  · refine g_p t207_30 rfl ?_
    refine g_k (n := 3) t207_31 rfl rfl ?_
    refine n_cne t207_32 (by decide) (by decide) (fun _ => ?_) (fun h => absurd h (by decide))
    refine g_k (n := 0) t207_47 rfl rfl ?_
    first
      | (have u0 : n < 4 := h27
         exact b_ret t207_48 (by rw [decide_eq_true u0]; rfl) hq)
      | (have u0 : ¬ n < 4 := h27
         exact b_ret t207_48 (by rw [decide_eq_false u0]; rfl) hq)
      | (have u0 : 4 ≤ n := h27
         exact b_ret t207_48 (by rw [decide_eq_false (by omega)]; rfl) hq)
      | (have u0 : ¬ 4 ≤ n := h27
         exact b_ret t207_48 (by rw [decide_eq_true (by omega)]; rfl) hq)
theorem c207_3 (hF : Fx s) (e : ri s 80 7 = nI n) (hn : n ≤ 4) (hq : Q (some (.int (bI (decide (n < 4))))) (mR s)) : gE X d 207 [.ref 80, .int (nI 3)] (mR s) Q := by
  refine en207 rfl rfl ?_
  refine g_p t207_0 rfl ?_
  refine n_eq t207_1 (by omega) (fun h => absurd h (by decide)) (fun _ => ?_)
  refine g_p t207_4 rfl ?_
  refine g_k (n := 1) t207_5 rfl rfl ?_
  refine n_cne t207_6 (by decide) (by decide) (fun _ => ?_) (fun h => absurd h (by decide))
  refine g_p t207_17 rfl ?_
  refine g_k (n := 2) t207_18 rfl rfl ?_
  refine n_cne t207_19 (by decide) (by decide) (fun _ => ?_) (fun h => absurd h (by decide))
  refine g_p t207_30 rfl ?_
  refine g_k (n := 3) t207_31 rfl rfl ?_
  refine n_cne t207_32 (by decide) (by decide) (fun h => absurd rfl h) (fun _ => ?_)
  refine g_p t207_35 rfl ?_
  refine r_gete t207_36 (f80 hF) rfl rfl e ?_
  refine g_k (n := 4) t207_39 rfl rfl ?_
  refine n_cge t207_40 (by omega) (by omega) (fun h40 => ?_) (fun h40 => ?_)
  · refine g_k (n := 0) t207_47 rfl rfl ?_
    first
      | (have u0 : n < 4 := h40
         exact b_ret t207_48 (by rw [decide_eq_true u0]; rfl) hq)
      | (have u0 : ¬ n < 4 := h40
         exact b_ret t207_48 (by rw [decide_eq_false u0]; rfl) hq)
      | (have u0 : 4 ≤ n := h40
         exact b_ret t207_48 (by rw [decide_eq_false (by omega)]; rfl) hq)
      | (have u0 : ¬ 4 ≤ n := h40
         exact b_ret t207_48 (by rw [decide_eq_true (by omega)]; rfl) hq)
  · refine g_k (n := 1) t207_43 rfl rfl ?_
    refine g_goto t207_44 ?_
    first
      | (have u0 : n < 4 := h40
         exact b_ret t207_48 (by rw [decide_eq_true u0]; rfl) hq)
      | (have u0 : ¬ n < 4 := h40
         exact b_ret t207_48 (by rw [decide_eq_false u0]; rfl) hq)
      | (have u0 : 4 ≤ n := h40
         exact b_ret t207_48 (by rw [decide_eq_false (by omega)]; rfl) hq)
      | (have u0 : ¬ 4 ≤ n := h40
         exact b_ret t207_48 (by rw [decide_eq_true (by omega)]; rfl) hq)
end RL2
