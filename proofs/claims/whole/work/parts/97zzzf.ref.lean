/-! THE REFERENCE, 23: lights -/
section RI_
variable {t : List Nat} {a a' : Nat → Int32}
theorem dgl_i : ∀ n (w w' : Int64) σ, (dgl t n (w, σ)).2 = (dgl t n (w', σ)).2 := by
  intro n
  induction n with
  | zero => intro w w' σ; rfl
  | succ n ih =>
    intro w w' σ
    cases σ with
    | inl j =>
      show (if 48 ≤ sgn t (j + 1) ∧ sgn t (j + 1) ≤ 57 then dgl t n (w * 10 + lN (sgn t (j + 1) - 48), .inl (j + 1)) else (w, .inl j)).2 = (if 48 ≤ sgn t (j + 1) ∧ sgn t (j + 1) ≤ 57 then dgl t n (w' * 10 + lN (sgn t (j + 1) - 48), .inl (j + 1)) else (w', .inl j)).2
      split
      · exact ih _ _ _
      · rfl
    | inr f => rfl
theorem atn_i (σ : Ps) : (atn t a σ).2 = (atn t a' σ).2 := by
  unfold atn
  split
  · rfl
  · split
    · rfl
    · split
      · rfl
      · split
        · rfl
        · split <;> rfl
theorem tml_i {f f' : Ps → LV} (hf : ∀ σ, (f σ).2 = (f' σ).2) : ∀ n (x x' : LV), x.2 = x'.2 → (tml t f n x).2 = (tml t f' n x').2 := by
  intro n
  induction n with
  | zero => intro x x' h; exact h
  | succ n ih =>
    intro x x' h
    unfold tml
    rw [h]
    split
    · exact ih _ _ (hf _)
    · split
      · exact ih _ _ (hf _)
      · exact h
theorem sml_i {f f' : Ps → LV} (hf : ∀ σ, (f σ).2 = (f' σ).2) : ∀ n (x x' : LV), x.2 = x'.2 → (sml t f n x).2 = (sml t f' n x').2 := by
  intro n
  induction n with
  | zero => intro x x' h; exact h
  | succ n ih =>
    intro x x' h
    unfold sml
    rw [h]
    split
    · exact ih _ _ (hf _)
    · split
      · exact ih _ _ (hf _)
      · exact h
theorem lsm_i {f f' : Ps → LV} (hf : ∀ σ, (f σ).2 = (f' σ).2) (σ : Ps) : (lsm t f σ).2 = (lsm t f' σ).2 := sml_i (fun σ => tml_i hf 120 _ _ (hf σ)) 120 _ _ (tml_i hf 120 _ _ (hf σ))
theorem lat_i : ∀ e σ, (lat t a e σ).2 = (lat t a' e σ).2 := by
  intro e
  induction e with
  | zero => exact fun σ => atn_i σ
  | succ e ih =>
    intro σ
    unfold lat
    split
    · show pne t 93 _ = pne t 93 _
      rw [lsm_i ih]
    · exact atn_i σ
theorem lcp_i {f f' : Ps → LV} (hf : ∀ σ, (f σ).2 = (f' σ).2) (x x' : LV) (h : x.2 = x'.2) : (lcp t f x).2 = (lcp t f' x').2 := by
  unfold lcp
  rw [h]
  split
  · exact hf _
  · rfl
theorem anl_i {h1 h1' : Ps → BV} (hf : ∀ σ, (h1 σ).2 = (h1' σ).2) : ∀ n (x x' : BV), x.2 = x'.2 → (anl t h1 n x).2 = (anl t h1' n x').2 := by
  intro n
  induction n with
  | zero => intro x x' h; exact h
  | succ n ih =>
    intro x x' h
    unfold anl
    rw [h]
    split
    · exact ih _ _ (hf _)
    · exact h
theorem orl_i {h1 h1' : Ps → BV} (hf : ∀ σ, (h1 σ).2 = (h1' σ).2) : ∀ n (x x' : BV), x.2 = x'.2 → (orl t h1 n x).2 = (orl t h1' n x').2 := by
  intro n
  induction n with
  | zero => intro x x' h; exact h
  | succ n ih =>
    intro x x' h
    unfold orl
    rw [h]
    split
    · exact ih _ _ (hf _)
    · exact h
theorem cnd_i {h1 h1' : Ps → BV} (hf : ∀ σ, (h1 σ).2 = (h1' σ).2) (x x' : BV) (h : x.2 = x'.2) : (cnd t h1 x).2 = (cnd t h1' x').2 := orl_i (fun σ => anl_i hf 120 _ _ (hf σ)) 120 _ _ (anl_i hf 120 _ _ h)
theorem un1_i {f f' : Nat → Ps → LV} (hf : ∀ e σ, (f e σ).2 = (f' e σ).2) : ∀ e σ, (un1 t f e σ).2 = (un1 t f' e σ).2 := by
  intro e
  induction e with
  | zero =>
    intro σ
    unfold un1
    split
    · rfl
    · exact lcp_i (hf 0) _ _ (hf 0 σ)
  | succ e ih =>
    intro σ
    unfold un1
    split
    · exact ih _
    · split
      · show pne t 41 _ = pne t 41 _
        rw [cnd_i ih _ _ (ih _)]
      · exact lcp_i (hf (e + 1)) _ _ (hf (e + 1) σ)
theorem lse_i (σ : Ps) : (lse t a σ).2 = (lse t a' σ).2 := lsm_i (lat_i 6) σ
theorem lun_i (σ : Ps) : (lun t a σ).2 = (lun t a' σ).2 := un1_i (fun e σ => lsm_i (lat_i e) σ) 6 σ
theorem lc1_i (σ : Ps) : (lc1 t a σ).2 = (lc1 t a' σ).2 := by
  unfold lc1
  split
  · show (lse t a _).2 = (lse t a' _).2
    rw [cnd_i (fun σ => lun_i (a := a) (a' := a') σ) _ _ (lun_i (a := a) (a' := a') σ)]
    exact lse_i _
  · rw [lse_i (a := a) (a' := a') σ]
    split
    · show (lse t a _).2 = (lse t a' _).2
      rw [cnd_i (fun σ => lun_i (a := a) (a' := a') σ) _ _ (lcp_i (fun σ => lse_i (a := a) (a' := a') σ) _ _ (lse_i (a := a) (a' := a') σ))]
      exact lse_i _
    · exact lse_i σ
theorem lcl_i (σ : Ps) : (lcl t a σ).2 = (lcl t a' σ).2 := lc1_i _
theorem lwl_i : ∀ n (x x' : LW), x.2 = x'.2 → (lwl t a n x).2 = (lwl t a' n x').2 := by
  intro n
  induction n with
  | zero => intro x x' h; exact h
  | succ n ih =>
    intro x x' h
    have e : (lw1 t a x).2 = (lw1 t a' x').2 := by
      show (lcl t a x.2).2 = (lcl t a' x'.2).2
      rw [h]; exact lcl_i _
    unfold lwl
    rw [e]
    split
    · exact ih _ _ rfl
    · exact e
theorem lwo_i : (lwo t a).2 = (lwo t a').2 := lwl_i 120 _ _ rfl
end RI_
theorem bI_inj {b c : Bool} (h : bI b = bI c) : b = c := by cases b <;> cases c <;> first | rfl | exact absurd h (by decide)
/-- a text as it is held in T from B on -/
def HT (T nT B : Nat) (t : List Nat) (s : mM) : Prop := (∀ k, k < t.length → ri s T (B + k) = sb (t.getD k 0)) ∧ s.1 T = .inl (1, nT, .inl (fun _ => 0)) ∧ B + 120 ≤ nT ∧ nT ≤ 480 ∧ (T = 81 ∨ T = 82) ∧ t.length ≤ 120 ∧ ∀ x ∈ t, x < 256 ∧ x ≠ 0
theorem HT.fm {A B' : List Nat} {T nT B : Nat} {t : List Nat} {s s' : mM} (h : HT T nT B t s) (f : FM A B' s s') (h4 : 81 ∉ 80 :: A) (h5 : 82 ∉ 80 :: A) : HT T nT B t s' := by
  obtain ⟨q4, q5, q6, q7, q8, q9⟩ := h
  exact ⟨fun k hk => (f.g (by rcases q8 with e | e <;> (rw [e]; assumption))).trans (q4 k hk), by rw [f.1.1]; exact q5, q6, q7, q8, q9⟩
section RF_
variable {X : am_X} {d : Nat} {s : mM} {hp : am_H} {Q : Option Value → am_H → Prop} {T nT B k n w L P day l : Nat} {t : List Nat} {σ : Ps} {a : Nat → Int32} {V : Prop} {u : Int64} {v : Int32} {lis : List (List Nat)}
theorem c198 (hF : Fx s) (hT : T + 2 < 2 ^ 31) (hq : ∀ s', FM [] [5, 8, 9, 10, 11] s s' → ri s' 80 5 = nI (T + 2) → ri s' 80 8 = nI B → ri s' 80 9 = nI L → ri s' 80 10 = nI 0 → ri s' 80 11 = -1 → Q none (mR s')) : gE X d 198 [.ref 80, .ref T, .int (nI B), .int (nI L)] (mR s) Q := by
  refine en198 rfl rfl rfl rfl ?_
  refine g_p t198_0 rfl ?_
  refine g_p t198_1 rfl ?_
  refine r_putq (a := nI (T + 2)) t198_2 (f80 hF) rfl rfl (m_rq_r (by omega)) ?_
  refine g_p t198_5 rfl ?_
  refine g_p t198_6 rfl ?_
  refine r_puti t198_7 (f80 hF) rfl rfl ?_
  refine g_p t198_10 rfl ?_
  refine g_p t198_11 rfl ?_
  refine r_puti t198_12 (f80 hF) rfl rfl ?_
  refine g_p t198_15 rfl ?_
  refine g_k (n := 0) t198_16 rfl rfl ?_
  refine r_puti t198_17 (f80 hF) rfl rfl ?_
  refine g_p t198_20 rfl ?_
  refine g_p t198_21 rfl ?_
  refine r_puti t198_22 (f80 hF) rfl rfl ?_
  exact v_ret t198_25 (hq _ (((((FM.rf.m (by decide)).m (by decide)).m (by decide)).m (by decide)).m (by decide)) rfl rfl rfl rfl rfl)
theorem c199 (hF : Fx s) (hH : HT T nT B t s) (hL : V → LTm a s) (hq : ∀ s', FM [] lB s s' → ri s' 80 11 = pfv (pfi t (lwo t a).2) → (V → (∃ p, pfi t (lwo t a).2 = .inl p) → (ri s' 80 14).toInt64 = (lwo t a).1.2) → Q none (mR s')) : gE X (d + 203) 199 [.ref 80, .ref T, .int (nI B), .int (nI t.length)] (mR s) Q := by
  have h120 := hH.2.2.2.2.2.1
  have hT2 : T + 2 < 2 ^ 31 := by rcases hH.2.2.2.2.1 with e | e <;> omega
  obtain ⟨Z, hZ⟩ : ∃ Z, Z = lwo t a := ⟨_, rfl⟩
  rw [← hZ] at hq
  have EX : ∀ (x : LW) (s' : mM), Z = x → Fx s' → MT T nT B t s' → FM [] lB s s' → RM t x.2 s' → ¬ psg t x.2 = 59 → (ri s' 80 11 = -1 → ri s' 80 12 = nI 0 ∧ (V → ri s' 80 17 = bI x.1.1 ∧ (ri s' 80 14).toInt64 = x.1.2)) → gG X (d + 203) 199 32 [.ref 80, .ref T, .int (nI B), .int (nI t.length)] [] (mR s') Q := by
    intro x s' hZx hF hX hf hR n59 hval
    rw [hZx] at hq
    obtain ⟨⟨xb, xv⟩, τ⟩ := x
    rcases hR with ⟨p, rfl, hS⟩ | hD
    · have h11 := hS.1
      have hsp := hS.sk
      have hsg := hX.sg p
      have n59 : ¬ sgn t p = 59 := n59
      have hS0 := h11
      refine g_p t199_32 rfl ?_
      refine r_gete t199_33 (f80 hF) rfl rfl h11 ?_
      refine g_p t199_36 rfl ?_
      refine g_cne t199_37 (fun h37 => ?_) (fun h37 => ?_)
      · refine g_p t199_66 rfl ?_
        refine r_gete t199_67 (f80 hF) rfl rfl h11 ?_
        refine g_p t199_70 rfl ?_
        refine g_cne t199_71 (fun h71 => ?_) (fun h71 => ?_)
        · first
            | (have u0 : ¬ (-1 : Int32) = -1 := h37
               exact absurd rfl u0)
            | (have u0 : ¬ (-1 : Int32) = -1 := h71
               exact absurd rfl u0)
            | (have u0 : lk (sgn t p) = -1 := h79
               have u1 : sgn t p = 0 := (lk_m hsg).mp u0
               have e1 : pfi t (.inl p) = .inl p := if_pos u1
               refine v_ret t199_87 (hq _ hf (by show _ = pfv (pfi t (.inl p)); rw [e1]; exact h11) (fun hV _ => ?_))
               refine Eq.trans ?_ ((hval hS0).2 hV).2
               exact congrArg Int32.toInt64 (((f75.f (by decide)).trans (f41.f (by decide)))))
            | (have u0 : ¬ lk (sgn t p) = -1 := h79
               have u1 : ¬ sgn t p = 0 := fun e => u0 ((lk_m hsg).mpr e)
               have e1 : pfi t (.inl p) = .inr p := if_neg u1
               refine v_ret t199_87 (hq _ (hf.tr (f2.mono (by decide) (by decide))) (by show _ = pfv (pfi t (.inl p)); rw [e1]; exact hE.1) (fun _ h => ?_))
               obtain ⟨q, hq9⟩ := h
               have hq9 : pfi t (.inl p) = .inl q := hq9
               rw [e1] at hq9; exact absurd hq9 (by simp))
        · refine g_p t199_74 rfl ?_
          refine r_cv t199_75 (f80 hF) rfl ?_
          refine c183 (by exact hF) (by exact hX) (by exact hS) (fun s75 f75 hJ => ?_)
          have hS := hJ.m2 hsp
          have e10 := hJ.2.2
          have h11 := hJ.1
          refine k_v ?_ rfl
          have hF := Fx.fr (by exact hF) f75.1
          have hX := MT.fm (by exact hX) f75 (by decide) (by decide) (by decide) (by decide) (by decide)
          have hf := hf.tr (f75.mono (by decide) (by decide))
          refine g_p t199_78 rfl ?_
          refine g_ceq t199_79 (fun h79 => ?_) (fun h79 => ?_)
          · first
              | (have u0 : ¬ (-1 : Int32) = -1 := h37
                 exact absurd rfl u0)
              | (have u0 : ¬ (-1 : Int32) = -1 := h71
                 exact absurd rfl u0)
              | (have u0 : lk (sgn t p) = -1 := h79
                 have u1 : sgn t p = 0 := (lk_m hsg).mp u0
                 have e1 : pfi t (.inl p) = .inl p := if_pos u1
                 refine v_ret t199_87 (hq _ hf (by show _ = pfv (pfi t (.inl p)); rw [e1]; exact h11) (fun hV _ => ?_))
                 refine Eq.trans ?_ ((hval hS0).2 hV).2
                 exact congrArg Int32.toInt64 (((f75.f (by decide)).trans (f41.f (by decide)))))
              | (have u0 : ¬ lk (sgn t p) = -1 := h79
                 have u1 : ¬ sgn t p = 0 := fun e => u0 ((lk_m hsg).mpr e)
                 have e1 : pfi t (.inl p) = .inr p := if_neg u1
                 refine v_ret t199_87 (hq _ (hf.tr (f2.mono (by decide) (by decide))) (by show _ = pfv (pfi t (.inl p)); rw [e1]; exact hE.1) (fun _ h => ?_))
                 obtain ⟨q, hq9⟩ := h
                 have hq9 : pfi t (.inl p) = .inl q := hq9
                 rw [e1] at hq9; exact absurd hq9 (by simp))
          · refine g_p t199_82 rfl ?_
            refine r_cv t199_83 (f80 hF) rfl ?_
            refine c184 (by exact hF) hJ (fun s2 f2 hE => ?_)
            refine k_v ?_ rfl
            refine g_p t199_86 rfl ?_
            first
              | (have u0 : ¬ (-1 : Int32) = -1 := h37
                 exact absurd rfl u0)
              | (have u0 : ¬ (-1 : Int32) = -1 := h71
                 exact absurd rfl u0)
              | (have u0 : lk (sgn t p) = -1 := h79
                 have u1 : sgn t p = 0 := (lk_m hsg).mp u0
                 have e1 : pfi t (.inl p) = .inl p := if_pos u1
                 refine v_ret t199_87 (hq _ hf (by show _ = pfv (pfi t (.inl p)); rw [e1]; exact h11) (fun hV _ => ?_))
                 refine Eq.trans ?_ ((hval hS0).2 hV).2
                 exact congrArg Int32.toInt64 (((f75.f (by decide)).trans (f41.f (by decide)))))
              | (have u0 : ¬ lk (sgn t p) = -1 := h79
                 have u1 : ¬ sgn t p = 0 := fun e => u0 ((lk_m hsg).mpr e)
                 have e1 : pfi t (.inl p) = .inr p := if_neg u1
                 refine v_ret t199_87 (hq _ (hf.tr (f2.mono (by decide) (by decide))) (by show _ = pfv (pfi t (.inl p)); rw [e1]; exact hE.1) (fun _ h => ?_))
                 obtain ⟨q, hq9⟩ := h
                 have hq9 : pfi t (.inl p) = .inl q := hq9
                 rw [e1] at hq9; exact absurd hq9 (by simp))
      · refine g_p t199_40 rfl ?_
        refine r_cv t199_41 (f80 hF) rfl ?_
        refine c183 (by exact hF) (by exact hX) (by exact hS) (fun s41 f41 hJ => ?_)
        have hS := hJ.m2 hsp
        have e10 := hJ.2.2
        have h11 := hJ.1
        refine k_v ?_ rfl
        have hF := Fx.fr (by exact hF) f41.1
        have hX := MT.fm (by exact hX) f41 (by decide) (by decide) (by decide) (by decide) (by decide)
        have hf := hf.tr (f41.mono (by decide) (by decide))
        refine g_k (n := 59) t199_44 rfl rfl ?_
        refine g_cne t199_46 (fun h46 => ?_) (fun h46 => ?_)
        · refine g_p t199_66 rfl ?_
          refine r_gete t199_67 (f80 hF) rfl rfl h11 ?_
          refine g_p t199_70 rfl ?_
          refine g_cne t199_71 (fun h71 => ?_) (fun h71 => ?_)
          · first
              | (have u0 : ¬ (-1 : Int32) = -1 := h37
                 exact absurd rfl u0)
              | (have u0 : ¬ (-1 : Int32) = -1 := h71
                 exact absurd rfl u0)
              | (have u0 : lk (sgn t p) = -1 := h79
                 have u1 : sgn t p = 0 := (lk_m hsg).mp u0
                 have e1 : pfi t (.inl p) = .inl p := if_pos u1
                 refine v_ret t199_87 (hq _ hf (by show _ = pfv (pfi t (.inl p)); rw [e1]; exact h11) (fun hV _ => ?_))
                 refine Eq.trans ?_ ((hval hS0).2 hV).2
                 exact congrArg Int32.toInt64 (((f75.f (by decide)).trans (f41.f (by decide)))))
              | (have u0 : ¬ lk (sgn t p) = -1 := h79
                 have u1 : ¬ sgn t p = 0 := fun e => u0 ((lk_m hsg).mpr e)
                 have e1 : pfi t (.inl p) = .inr p := if_neg u1
                 refine v_ret t199_87 (hq _ (hf.tr (f2.mono (by decide) (by decide))) (by show _ = pfv (pfi t (.inl p)); rw [e1]; exact hE.1) (fun _ h => ?_))
                 obtain ⟨q, hq9⟩ := h
                 have hq9 : pfi t (.inl p) = .inl q := hq9
                 rw [e1] at hq9; exact absurd hq9 (by simp))
          · refine g_p t199_74 rfl ?_
            refine r_cv t199_75 (f80 hF) rfl ?_
            refine c183 (by exact hF) (by exact hX) (by exact hS) (fun s75 f75 hJ => ?_)
            have hS := hJ.m2 hsp
            have e10 := hJ.2.2
            have h11 := hJ.1
            refine k_v ?_ rfl
            have hF := Fx.fr (by exact hF) f75.1
            have hX := MT.fm (by exact hX) f75 (by decide) (by decide) (by decide) (by decide) (by decide)
            have hf := hf.tr (f75.mono (by decide) (by decide))
            refine g_p t199_78 rfl ?_
            refine g_ceq t199_79 (fun h79 => ?_) (fun h79 => ?_)
            · first
                | (have u0 : ¬ (-1 : Int32) = -1 := h37
                   exact absurd rfl u0)
                | (have u0 : ¬ (-1 : Int32) = -1 := h71
                   exact absurd rfl u0)
                | (have u0 : lk (sgn t p) = -1 := h79
                   have u1 : sgn t p = 0 := (lk_m hsg).mp u0
                   have e1 : pfi t (.inl p) = .inl p := if_pos u1
                   refine v_ret t199_87 (hq _ hf (by show _ = pfv (pfi t (.inl p)); rw [e1]; exact h11) (fun hV _ => ?_))
                   refine Eq.trans ?_ ((hval hS0).2 hV).2
                   exact congrArg Int32.toInt64 (((f75.f (by decide)).trans (f41.f (by decide)))))
                | (have u0 : ¬ lk (sgn t p) = -1 := h79
                   have u1 : ¬ sgn t p = 0 := fun e => u0 ((lk_m hsg).mpr e)
                   have e1 : pfi t (.inl p) = .inr p := if_neg u1
                   refine v_ret t199_87 (hq _ (hf.tr (f2.mono (by decide) (by decide))) (by show _ = pfv (pfi t (.inl p)); rw [e1]; exact hE.1) (fun _ h => ?_))
                   obtain ⟨q, hq9⟩ := h
                   have hq9 : pfi t (.inl p) = .inl q := hq9
                   rw [e1] at hq9; exact absurd hq9 (by simp))
            · refine g_p t199_82 rfl ?_
              refine r_cv t199_83 (f80 hF) rfl ?_
              refine c184 (by exact hF) hJ (fun s2 f2 hE => ?_)
              refine k_v ?_ rfl
              refine g_p t199_86 rfl ?_
              first
                | (have u0 : ¬ (-1 : Int32) = -1 := h37
                   exact absurd rfl u0)
                | (have u0 : ¬ (-1 : Int32) = -1 := h71
                   exact absurd rfl u0)
                | (have u0 : lk (sgn t p) = -1 := h79
                   have u1 : sgn t p = 0 := (lk_m hsg).mp u0
                   have e1 : pfi t (.inl p) = .inl p := if_pos u1
                   refine v_ret t199_87 (hq _ hf (by show _ = pfv (pfi t (.inl p)); rw [e1]; exact h11) (fun hV _ => ?_))
                   refine Eq.trans ?_ ((hval hS0).2 hV).2
                   exact congrArg Int32.toInt64 (((f75.f (by decide)).trans (f41.f (by decide)))))
                | (have u0 : ¬ lk (sgn t p) = -1 := h79
                   have u1 : ¬ sgn t p = 0 := fun e => u0 ((lk_m hsg).mpr e)
                   have e1 : pfi t (.inl p) = .inr p := if_neg u1
                   refine v_ret t199_87 (hq _ (hf.tr (f2.mono (by decide) (by decide))) (by show _ = pfv (pfi t (.inl p)); rw [e1]; exact hE.1) (fun _ h => ?_))
                   obtain ⟨q, hq9⟩ := h
                   have hq9 : pfi t (.inl p) = .inl q := hq9
                   rw [e1] at hq9; exact absurd hq9 (by simp))
        · exact absurd ((lk_e hsg (by decide) (by decide)).mp h46) n59
    · have h11 := hD.fl h120
      refine g_p t199_32 rfl ?_
      refine r_geti t199_33 (f80 hF) rfl rfl ?_
      refine g_p t199_36 rfl ?_
      refine g_cne t199_37 (fun h37 => ?_) (fun h37 => ?_)
      · refine g_p t199_66 rfl ?_
        refine r_geti t199_67 (f80 hF) rfl rfl ?_
        refine g_p t199_70 rfl ?_
        refine g_cne t199_71 (fun h71 => ?_) (fun h71 => ?_)
        · obtain ⟨q, hM, hq1⟩ := hD
          have e1 : pfi t τ = .inr q := by
            rcases hq1 with rfl | ⟨rfl, h1, h2⟩
            · rfl
            · exact if_neg (by show ¬ sgn t q = 0; omega)
          refine v_ret t199_87 (hq _ hf (by show _ = pfv (pfi t τ); rw [e1]; exact hM.1) (fun _ h => ?_))
          obtain ⟨q2, hq9⟩ := h
          have hq9 : pfi t τ = .inl q2 := hq9
          rw [e1] at hq9; exact absurd hq9 (by simp)
        · exact absurd h71 h11
      · exact absurd h37 h11
  have K : ∀ m i : Nat, i + m = 120 → ∀ (x : LW) (s' : mM), Z = (if psg t x.2 = 59 then lwl t a m (x.1, pst t x.2) else x) → Fx s' → MT T nT B t s' → FM [] lB s s' → RM t x.2 s' → ple i x.2 → ri s' 80 13 = nI 121 → (∃ b, ri s' 80 17 = bI b) → (ri s' 80 11 = -1 → ri s' 80 12 = nI 0 ∧ (V → ri s' 80 17 = bI x.1.1 ∧ (ri s' 80 14).toInt64 = x.1.2)) → gG X (d + 203) 199 32 [.ref 80, .ref T, .int (nI B), .int (nI t.length)] [] (mR s') Q := by
    intro m
    induction m with
    | zero =>
      intro i hi x s' he hF hX hf hR hle e13 hb hval
      have h0 : psg t x.2 = 0 := by
        cases hx : x.2 with
        | inl p =>
          rw [hx] at hle
          have hle : i ≤ p := hle
          show sgn t p = 0
          unfold sgn
          rw [List.getD, List.getElem?_eq_none (by omega)]; rfl
        | inr f => rfl
      rw [if_neg (by rw [h0]; decide)] at he
      exact EX x s' he hF hX hf hR (by rw [h0]; decide) hval
    | succ m ih =>
      intro i hi x s' he hF hX hf hR hle e13 hb hval
      by_cases l1 : psg t x.2 = 59
      · rw [if_pos l1] at he
        have hR0 := hR
        rcases hR with ⟨p, hp, hS⟩ | hD
        · have h11 := hS.1
          have hsp := hS.sk
          have hsg := hX.sg p
          obtain ⟨e12, hvv⟩ := hval h11
          obtain ⟨b0, e17⟩ := hb
          have e170 := e17
          have l2 : sgn t p = 59 := by rw [hp] at l1; exact l1
          have hpl : p < t.length := sgn_pos (by omega)
          have he : Z = (if psg t (lw1 t a (x.1, pst t x.2)).2 = 59 then lwl t a m ((lw1 t a (x.1, pst t x.2)).1, pst t (lw1 t a (x.1, pst t x.2)).2) else lw1 t a (x.1, pst t x.2)) := by rw [he]; rfl
          rw [hp] at he hle
          refine g_p t199_32 rfl ?_
          refine r_gete t199_33 (f80 hF) rfl rfl h11 ?_
          refine g_p t199_36 rfl ?_
          refine g_cne t199_37 (fun h37 => ?_) (fun h37 => ?_)
          · first
              | (have u0 : ¬ (-1 : Int32) = -1 := h37
                 exact absurd rfl u0)
              | exact absurd ((lk_e hsg (by decide) (by decide)).mpr l2) h46
          · refine g_p t199_40 rfl ?_
            refine r_cv t199_41 (f80 hF) rfl ?_
            refine c183 (by exact hF) (by exact hX) (by exact hS) (fun s41 f41 hJ => ?_)
            have hS := hJ.m2 hsp
            have e10 := hJ.2.2
            have h11 := hJ.1
            refine k_v ?_ rfl
            have hF := Fx.fr (by exact hF) f41.1
            have e12 := (f41.f (i := 12) (by decide)).trans e12
            have e13 := (f41.f (i := 13) (by decide)).trans e13
            have e17 := (f41.f (i := 17) (by decide)).trans e17
            have hX := MT.fm (by exact hX) f41 (by decide) (by decide) (by decide) (by decide) (by decide)
            have hf := hf.tr (f41.mono (by decide) (by decide))
            refine g_k (n := 59) t199_44 rfl rfl ?_
            refine g_cne t199_46 (fun h46 => ?_) (fun h46 => ?_)
            · first
                | (have u0 : ¬ (-1 : Int32) = -1 := h37
                   exact absurd rfl u0)
                | exact absurd ((lk_e hsg (by decide) (by decide)).mpr l2) h46
            · refine g_p t199_49 rfl ?_
              refine g_p t199_50 rfl ?_
              refine r_gete t199_51 (f80 hF) rfl rfl e10 ?_
              refine g_k (n := 1) t199_54 rfl rfl ?_
              refine g_addn t199_55 ?_
              refine r_puti t199_56 (f80 hF) rfl rfl ?_
              refine g_p t199_59 rfl ?_
              refine r_cv t199_60 (f80 hF) rfl ?_
              have hX := MT.w8 (i := 10) (v := nI (p + 1)) (by exact hX) (by decide) (by decide) (by decide)
              have hJ := hJ.up hpl
              have hf := hf.m (i := 10) (v := nI (p + 1)) (by decide)
              refine c197 (b0 := b0) (u := x.1.2) (V := V) (a := a) (by exact hF) hX hJ.ms (by exact e12) (by exact e13) (by exact e17) (fun hV => (congrArg Int32.toInt64 (f41.f (i := 14) (by decide))).trans (hvv hV).2) (fun hV => (hL hV).fm hf (by decide)) (fun s60 f60 hR hb60 hv60 => ?_)
              have hX := hX.fm f60 (by decide) (by decide) (by decide) (by decide) (by decide)
              have e13 := (f60.f (i := 13) (by decide)).trans e13
              have hf := hf.tr (f60.mono (by decide) (by decide))
              have hF := Fx.fr (by exact hF) f60.1
              refine k_0 ?_
              refine g_goto t199_63 ?_
              refine ih (i + 1) (by omega) (lw1 t a (x.1, pst t (.inl p))) s60 he hF hX hf hR (adv_lcl (ple_m (ple_pst hle) (Nat.le_succ i))) (by exact e13) hb60 (fun h => ⟨(hv60 h).1, fun hV => ?_⟩)
              obtain ⟨q1, q2⟩ := (hv60 h).2 hV
              have hbb : b0 = x.1.1 := bI_inj (e170.symm.trans ((hvv hV).1))
              rw [hbb] at q1 q2
              exact ⟨q1, q2⟩
        · have := hD.psg; omega
      · rw [if_neg l1] at he
        exact EX x s' he hF hX hf hR l1 hval
  refine en199 rfl rfl rfl rfl ?_
  refine g_p t199_0 rfl ?_
  refine g_p t199_1 rfl ?_
  refine g_p t199_2 rfl ?_
  refine g_p t199_3 rfl ?_
  refine r_cv t199_4 (f80 hF) rfl ?_
  refine c198 (by exact hF) hT2 (fun s4 f4 o5 o8 o9 o10 o11 => ?_)
  have hF := hF.fr f4.1
  have hX0 : MT T nT B t s4 := ⟨o5, o8, o9, (hH.fm f4 (by decide) (by decide))⟩
  refine k_0 ?_
  refine g_p t199_7 rfl ?_
  refine g_k (n := 121) t199_8 rfl rfl ?_
  refine r_puti t199_10 (f80 hF) rfl rfl ?_
  refine g_p t199_13 rfl ?_
  refine g_k (n := 0) t199_14 rfl rfl ?_
  refine r_puti t199_15 (f80 hF) rfl rfl ?_
  refine g_p t199_18 rfl ?_
  refine g_k (n := 0) t199_19 rfl rfl ?_
  refine r_putz t199_20 (f80 hF) rfl rfl rfl ?_
  refine g_p t199_23 rfl ?_
  refine g_k (n := 0) t199_24 rfl rfl ?_
  refine r_puti t199_25 (f80 hF) rfl rfl ?_
  refine g_p t199_28 rfl ?_
  refine r_cv t199_29 (f80 hF) rfl ?_
  have hX := (((hX0.w8 (i := 13) (v := nI 121) (by decide) (by decide) (by decide)).w8 (i := 12) (v := nI 0) (by decide) (by decide) (by decide)).w8 (i := 17) (v := nI 0) (by decide) (by decide) (by decide)).w8 (i := 14) (v := nI 0) (by decide) (by decide) (by decide)
  have hf : FM [] lB s (wi (wi (wi (wi s4 80 13 (nI 121)) 80 12 (nI 0)) 80 17 (nI 0)) 80 14 (nI 0)) := ((((f4.mono (by decide) (by decide)).m (by decide)).m (by decide)).m (by decide)).m (by decide)
  have hJ0 : MJ t 0 (wi (wi (wi (wi s4 80 13 (nI 121)) 80 12 (nI 0)) 80 17 (nI 0)) 80 14 (nI 0)) := ⟨o11, Nat.zero_le _, o10⟩
  refine c197 (b0 := false) (u := 0) (V := V) (a := a) (Fx.fr (A := [80]) hF (((((Fr.rf.wi (by decide)).wi (by decide)).wi (by decide)).wi (by decide)))) hX hJ0.ms rfl rfl rfl (fun _ => rfl) (fun hV => (hL hV).fm hf (by decide)) (fun s29 f29 hR hb29 hv29 => ?_)
  have hX := hX.fm f29 (by decide) (by decide) (by decide) (by decide) (by decide)
  have e13 : ri s29 80 13 = nI 121 := f29.f (i := 13) (by decide)
  have hf := hf.tr (f29.mono (by decide) (by decide))
  have hF := Fx.fr (Fx.fr (A := [80]) hF (((((Fr.rf.wi (by decide)).wi (by decide)).wi (by decide)).wi (by decide)))) f29.1
  refine k_0 ?_
  exact K 119 1 rfl (lw1 t a ((false, 0), .inl (skp t 0))) s29 (by rw [hZ]; rfl) hF hX hf hR (adv_lcl (p := 0) (Nat.zero_le _)) e13 hb29 hv29
end RF_
