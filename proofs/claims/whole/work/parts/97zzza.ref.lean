/-! THE REFERENCE, 18: numbers read -/
def ple (p : Nat) : Ps → Prop
  | .inl q => p ≤ q
  | .inr _ => True
theorem ple_m {p q : Nat} {σ : Ps} (h : ple p σ) (hq : q ≤ p) : ple q σ := by
  cases σ with
  | inl j => exact Nat.le_trans hq h
  | inr f => trivial
theorem ple_pst {t : List Nat} {p : Nat} {σ : Ps} (h : ple p σ) : ple (p + 1) (pst t σ) := by
  cases σ with
  | inl j => exact Nat.le_trans (Nat.succ_le_succ h) skp_ge
  | inr f => trivial
theorem ple_pre {p : Nat} {σ : Ps} : ple p (pre σ) := by cases σ <;> trivial
theorem ple_pne {t : List Nat} {p w : Nat} {σ : Ps} (h : ple p σ) : ple p (pne t w σ) := by
  unfold pne
  split
  · exact ple_m (ple_pst h) (Nat.le_succ p)
  · exact ple_pre
/-- never back -/
def adv {α : Type} (f : Ps → α × Ps) : Prop := ∀ p σ, ple p σ → ple p (f σ).2
theorem adv_dgl {t : List Nat} : ∀ n p (x : LV), ple p x.2 → ple p (dgl t n x).2 := by
  intro n
  induction n with
  | zero => intro p x h; exact h
  | succ n ih =>
    intro p x h
    obtain ⟨w, σ⟩ := x
    cases σ with
    | inl j =>
      unfold dgl
      show ple p (if 48 ≤ sgn t (j + 1) ∧ sgn t (j + 1) ≤ 57 then dgl t n (w * 10 + lN (sgn t (j + 1) - 48), .inl (j + 1)) else (w, .inl j)).2
      split
      · exact ih p _ (Nat.le_succ_of_le h)
      · exact h
    | inr f => exact h
theorem adv_atn {t : List Nat} {a : Nat → Int32} : adv (atn t a) := by
  intro p σ h
  have h1 := ple_m (ple_pst (t := t) h) (Nat.le_succ p)
  unfold atn
  split
  · exact ple_m (ple_pst (adv_dgl 3 p _ h)) (Nat.le_succ p)
  · split
    · exact h1
    · split
      · exact h1
      · split
        · exact h1
        · split
          · exact h1
          · exact ple_pre
theorem adv_tml {t : List Nat} {f : Ps → LV} (hf : adv f) : ∀ n p x, ple p x.2 → ple p (tml t f n x).2 := by
  intro n
  induction n with
  | zero => intro p x h; exact h
  | succ n ih =>
    intro p x h
    have h1 := hf p _ (ple_m (ple_pst (t := t) h) (Nat.le_succ p))
    unfold tml
    split
    · exact ih p _ h1
    · split
      · exact ih p _ h1
      · exact h
theorem adv_sml {t : List Nat} {f : Ps → LV} (hf : adv f) : ∀ n p x, ple p x.2 → ple p (sml t f n x).2 := by
  intro n
  induction n with
  | zero => intro p x h; exact h
  | succ n ih =>
    intro p x h
    have h1 := hf p _ (ple_m (ple_pst (t := t) h) (Nat.le_succ p))
    unfold sml
    split
    · exact ih p _ h1
    · split
      · exact ih p _ h1
      · exact h
theorem adv_ltm {t : List Nat} {f : Ps → LV} (hf : adv f) : adv (ltm t f) := fun p σ h => adv_tml hf 120 p _ (hf p σ h)
theorem adv_lsm {t : List Nat} {f : Ps → LV} (hf : adv f) : adv (lsm t f) := fun p σ h => adv_sml (adv_ltm hf) 120 p _ (adv_ltm hf p σ h)
theorem adv_lat {t : List Nat} {a : Nat → Int32} : ∀ e, adv (lat t a e) := by
  intro e
  induction e with
  | zero => exact adv_atn
  | succ e ih =>
    intro p σ h
    unfold lat
    split
    · exact ple_pne (adv_lsm ih p _ (ple_m (ple_pst h) (Nat.le_succ p)))
    · exact adv_atn p σ h
theorem tml_d {t : List Nat} {f : Ps → LV} {w : Int64} {τ : Ps} (h1 : ¬ psg t τ = 42) (h2 : ¬ psg t τ = 47) : ∀ n, tml t f n (w, τ) = (w, τ) := by
  intro n
  cases n with
  | zero => rfl
  | succ n => unfold tml; rw [if_neg h1, if_neg h2]
theorem sml_d {t : List Nat} {f : Ps → LV} {w : Int64} {τ : Ps} (h1 : ¬ psg t τ = 43) (h2 : ¬ psg t τ = 45) : ∀ n, sml t f n (w, τ) = (w, τ) := by
  intro n
  cases n with
  | zero => rfl
  | succ n => unfold sml; rw [if_neg h1, if_neg h2]
/-- between the bounds -/
def bd (x : Int64) : Prop := -1000000 ≤ x.toInt ∧ x.toInt ≤ 1000000
theorem w64_t {x : Int64} : (x.toInt < -1000000 ∧ w64 x = -1000000) ∨ (1000000 ≤ x.toInt ∧ w64 x = 1000000) ∨ (bd x ∧ w64 x = x) := by
  unfold w64 bd
  have e1 : (1000000 : Int64).toInt = 1000000 := rfl
  have e2 : (-1000000 : Int64).toInt = -1000000 := rfl
  by_cases h : x < 1000000
  · rw [if_pos h]
    have h9 := Int64.lt_iff_toInt_lt.mp h
    rw [e1] at h9
    by_cases h2 : x < -1000000
    · have h8 := Int64.lt_iff_toInt_lt.mp h2
      rw [e2] at h8
      exact Or.inl ⟨h8, if_pos h2⟩
    · have h8 : ¬ x.toInt < -1000000 := fun h7 => h2 (Int64.lt_iff_toInt_lt.mpr (by rw [e2]; exact h7))
      exact Or.inr (Or.inr ⟨⟨by omega, by omega⟩, if_neg h2⟩)
  · rw [if_neg h]
    have h9 : ¬ x.toInt < 1000000 := fun h7 => h (Int64.lt_iff_toInt_lt.mpr (by rw [e1]; exact h7))
    exact Or.inr (Or.inl ⟨by omega, if_neg (by decide)⟩)
theorem bd_w {x : Int64} : bd (w64 x) := by
  rcases w64_t (x := x) with ⟨-, h⟩ | ⟨-, h⟩ | ⟨h1, h⟩
  · rw [h]; exact ⟨by decide, by decide⟩
  · rw [h]; exact ⟨by decide, by decide⟩
  · rw [h]; exact h1
theorem w64_id {x : Int64} (h : bd x) : w64 x = x := by
  rcases w64_t (x := x) with ⟨h1, -⟩ | ⟨h1, h2⟩ | ⟨-, h2⟩
  · unfold bd at h; omega
  · rw [h2]
    unfold bd at h
    apply Int64.toInt_inj.mp
    have e1 : (1000000 : Int64).toInt = 1000000 := rfl
    rw [e1]; omega
  · exact h2
theorem bd_r {x : Int64} (h : bd x) : x.toInt32.toInt64 = x := by
  unfold bd at h
  apply Int64.toInt_inj.mp
  rw [Int32.toInt_toInt64, Int64.toInt_toInt32, Int.bmod_def]
  omega
theorem bd_32 {v : Int32} {x : Int64} (h : v.toInt64 = x) : v.toInt = x.toInt := by rw [← h, Int32.toInt_toInt64]
theorem bd_div {x w : Int64} (h : bd x) : bd (x / w) := by
  unfold bd at h ⊢
  rw [Int64.toInt_div, Int.bmod_def]
  have h1 := Int.natAbs_tdiv_le_natAbs x.toInt w.toInt
  omega
theorem bd_0 : bd 0 := ⟨by decide, by decide⟩
abbrev rB : List Nat := [10, 11, 12]
theorem MT.w8 {T nT B : Nat} {t : List Nat} {s : mM} {i : Nat} {v : Int32} (h : MT T nT B t s) (h5 : i ≠ 5) (h8 : i ≠ 8) (h9 : i ≠ 9) : MT T nT B t (wi s 80 i v) := h.fm (A := []) (B' := [i]) (FM.rf.m (by simp)) (by simp; exact fun e => h5 e.symm) (by simp; exact fun e => h8 e.symm) (by simp; exact fun e => h9 e.symm) (by decide) (by decide)
def LTm (a : Nat → Int32) (s : mM) : Prop := ri s 84 112 = a 4 ∧ ri s 84 100 = a 5 ∧ ri s 84 115 = a 6 ∧ ri s 84 110 = a 7 ∧ ∀ i, 4 ≤ i → i < 8 → bd (a i).toInt64
theorem LTm.fm {A B : List Nat} {a : Nat → Int32} {s s' : mM} (h : LTm a s) (f : FM A B s s') (h1 : 84 ∉ 80 :: A) : LTm a s' := ⟨(f.g h1).trans h.1, (f.g h1).trans h.2.1, (f.g h1).trans h.2.2.1, (f.g h1).trans h.2.2.2.1, h.2.2.2.2⟩
theorem MJ.m2 {t : List Nat} {j : Nat} {s : mM} (h : MJ t j s) (hs : skp t j = j) : MS t (.inl j) s := ⟨h.1, h.2.1, j, Nat.le_refl j, hs, h.2.2⟩
theorem MS.sk {t : List Nat} {j : Nat} {s : mM} (h : MS t (.inl j) s) : skp t j = j := by
  obtain ⟨-, -, i, -, h1, -⟩ := h
  exact skp_s h1
theorem MJ.rm {t : List Nat} {j : Nat} {s : mM} (h : MJ t (j + 1) s) : RM t (pst t (.inl j)) s := Or.inl ⟨_, rfl, h.ms⟩
theorem MS.rr {t : List Nat} {j : Nat} {s : mM} (h : MS t (.inr j) s) : RM t (pre (.inl j)) s := Or.inr ⟨j, h, Or.inl rfl⟩
theorem MS.ne {t : List Nat} {j : Nat} {s : mM} (h : MS t (.inr j) s) (hl : t.length ≤ 120) : ¬ ri s 80 11 = -1 := by
  rw [h.1]; exact nI_m1 (by have := h.2.1; omega)
/-- method y of the reference answers f, where the letters are a (if V) -/
def MC (X : am_X) (T nT B : Nat) (t : List Nat) (a : Nat → Int32) (V : Prop) (y k d : Nat) (f : Ps → LV) : Prop := ∀ (s : mM) (j : Nat) (Q : Option Value → am_H → Prop), Fx s → MT T nT B t s → MS t (.inl j) s → ri s 80 12 = nI k → (V → LTm a s) → (∀ s' v, FM [] rB s s' → RM t (f (.inl j)).2 s' → (ri s' 80 11 = -1 → ri s' 80 12 = nI k ∧ (V → v.toInt64 = (f (.inl j)).1 ∧ bd (f (.inl j)).1)) → Q (some (.int v)) (mR s')) → gE X d y [.ref 80] (mR s) Q
section RA
variable {X : am_X} {d : Nat} {s : mM} {hp : am_H} {Q : Option Value → am_H → Prop} {T nT B k n w : Nat} {t : List Nat} {σ : Ps} {a : Nat → Int32} {V : Prop} {f g : Ps → LV} {u : Int64}
theorem c188 (hq : Q (some (.int (w64 u).toInt32)) hp) : gE X d 188 [.long u] hp Q := by
  refine en188 ?_
  refine g_p t188_0 rfl ?_
  refine g_p t188_3 rfl ?_
  refine g_p t188_6 rfl ?_
  refine g_minl t188_7 (Nat.le_of_ble_eq_true rfl) ?_
  refine g_maxl t188_10 (Nat.le_of_ble_eq_true rfl) ?_
  refine g_p t188_13 rfl ?_
  exact i_ret t188_14 rfl hq
theorem c190 (hadv : adv f) (hA : MC X T nT B t a V 189 k (d + 4) f) : MC X T nT B t a V 190 k (d + 5) (ltm t f) := by
  intro s j0 Q hF hX hS e12 hL hq
  obtain ⟨Z, hZ⟩ : ∃ Z, Z = tml t f 120 (f (.inl j0)) := ⟨_, rfl⟩
  have hq : ∀ s' v, FM [] rB s s' → RM t Z.2 s' → (ri s' 80 11 = -1 → ri s' 80 12 = nI k ∧ (V → v.toInt64 = Z.1 ∧ bd Z.1)) → Q (some (.int v)) (mR s') := by rw [hZ]; exact hq
  have h120 := hX.2.2.2.2.2.2.2.2.1
  have EX : ∀ (j i : Nat) (w : Int64) (τ : Ps) (v : Int32) (s' : mM), ∀ {z2 z3 z4}, am_nl z2 = true → ¬ psg t τ = 42 → ¬ psg t τ = 47 → Z = tml t f j (w, τ) → Fx s' → FM [] rB s s' → MT T nT B t s' → RM t τ s' → (ri s' 80 11 = -1 → ri s' 80 12 = nI k ∧ (V → v.toInt64 = w ∧ bd w)) → gG X (d + 5) 190 5 [.ref 80, .int v, z2, z3, z4] [] (mR s') Q := by
    intro j i w τ v s' z2 z3 z4 n2 n42 n47 he hF hf hX hR hval
    rw [tml_d n42 n47] at he
    rw [he] at hq
    rcases hR with ⟨p, rfl, hS⟩ | hD
    · have h11 := hS.1
      have e12 := (hval h11).1
      have hvv := (hval h11).2
      have hsp := hS.sk
      have hsg := hX.sg p
      have n42 : ¬ sgn t p = 42 := n42
      have n47 : ¬ sgn t p = 47 := n47
      refine g_p t190_5 rfl ?_
      refine r_gete t190_6 (f80 hF) rfl rfl h11 ?_
      refine g_p t190_9 rfl ?_
      refine g_cne t190_10 (fun h10 => ?_) (fun h10 => ?_)
      · refine g_p t190_94 rfl ?_
        first
          | (have u0 : ¬ (-1 : Int32) = -1 := h10
             exact absurd rfl u0)
          | exact i_ret t190_95 rfl (hq _ v hf (Or.inl ⟨p, rfl, hS⟩) (fun _ => ⟨e12, hvv⟩))
      · refine g_p t190_13 rfl ?_
        refine r_cv t190_14 (f80 hF) rfl ?_
        refine c183 (by exact hF) (by exact hX) (by exact hS) (fun s14 f14 hJ => ?_)
        have hS := hJ.m2 hsp
        refine k_v ?_ rfl
        have hF := Fx.fr (by exact hF) f14.1
        have h11 := (f14.f (i := 11) (by decide)).trans h11
        have e12 := (f14.f (i := 12) (by decide)).trans e12
        have hX := MT.fm (by exact hX) f14 (by decide) (by decide) (by decide) (by decide) (by decide)
        have hf := hf.tr (f14.mono (by decide) (by decide))
        refine g_k (n := 42) t190_17 rfl rfl ?_
        refine g_ceq t190_19 (fun h19 => ?_) (fun h19 => ?_)
        · first
            | (have u0 : ¬ lk (sgn t p) = nI 42 := h19
               exact absurd ((lk_e hsg (by decide) (by decide)).mp h28) n47)
            | exact absurd ((lk_e hsg (by decide) (by decide)).mp h19) n42
        · refine g_p t190_22 rfl ?_
          refine r_cv t190_23 (f80 hF) rfl ?_
          refine c183 (by exact hF) (by exact hX) (by exact hS) (fun s23 f23 hJ => ?_)
          have hS := hJ.m2 hsp
          refine k_v ?_ rfl
          have hF := Fx.fr (by exact hF) f23.1
          have h11 := (f23.f (i := 11) (by decide)).trans h11
          have e12 := (f23.f (i := 12) (by decide)).trans e12
          have hX := MT.fm (by exact hX) f23 (by decide) (by decide) (by decide) (by decide) (by decide)
          have hf := hf.tr (f23.mono (by decide) (by decide))
          refine g_k (n := 47) t190_26 rfl rfl ?_
          refine g_cne t190_28 (fun h28 => ?_) (fun h28 => ?_)
          · refine g_p t190_94 rfl ?_
            first
              | (have u0 : ¬ (-1 : Int32) = -1 := h10
                 exact absurd rfl u0)
              | exact i_ret t190_95 rfl (hq _ v hf (Or.inl ⟨p, rfl, hS⟩) (fun _ => ⟨e12, hvv⟩))
          · first
              | (have u0 : ¬ lk (sgn t p) = nI 42 := h19
                 exact absurd ((lk_e hsg (by decide) (by decide)).mp h28) n47)
              | exact absurd ((lk_e hsg (by decide) (by decide)).mp h19) n42
    · have h11 := hD.fl h120
      refine g_p t190_5 rfl ?_
      refine r_geti t190_6 (f80 hF) rfl rfl ?_
      refine g_p t190_9 rfl ?_
      refine g_cne t190_10 (fun h10 => ?_) (fun h10 => ?_)
      · refine g_p t190_94 rfl ?_
        exact i_ret t190_95 rfl (hq s' v hf (Or.inr hD) (fun h => absurd h h11))
      · exact absurd h10 h11
  have K : ∀ (j i : Nat), i + j = 120 → ∀ (w : Int64) (τ : Ps) (v : Int32) (s' : mM), ∀ {z2 z3 z4}, am_nl z2 = true → Z = tml t f j (w, τ) → Fx s' → FM [] rB s s' → MT T nT B t s' → RM t τ s' → ple i τ → (ri s' 80 11 = -1 → ri s' 80 12 = nI k ∧ (V → v.toInt64 = w ∧ bd w)) → gG X (d + 5) 190 5 [.ref 80, .int v, z2, z3, z4] [] (mR s') Q := by
    intro j
    induction j with
    | zero =>
      intro i hi w τ v s' z2 z3 z4 n2 he hF hf hX hR hle hval
      have h0 : psg t τ = 0 := by
        cases τ with
        | inl p =>
          have hle : i ≤ p := hle
          show sgn t p = 0
          unfold sgn
          rw [List.getD, List.getElem?_eq_none (by omega)]; rfl
        | inr f => rfl
      exact EX _ i w τ v s' n2 (by rw [h0]; decide) (by rw [h0]; decide) he hF hf hX hR hval
    | succ j ih =>
      intro i hi w τ v s' z2 z3 z4 n2 he hF hf hX hR hle hval
      have ih : ∀ i, i + j = 120 → ∀ (w : Int64) (τ : Ps) (v : Int32) (s' : mM), ∀ {z2 z3 z4}, Z = tml t f j (w, τ) → Fx s' → FM [] rB s s' → MT T nT B t s' → RM t τ s' → ple i τ → (ri s' 80 11 = -1 → ri s' 80 12 = nI k ∧ (V → v.toInt64 = w ∧ bd w)) → am_nl z2 = true → gG X (d + 5) 190 5 [.ref 80, .int v, z2, z3, z4] [] (mR s') Q := fun i h w τ v s' {z2 z3 z4} h1 h2 h3 h4 h5 h6 h7 h8 => ih i h w τ v s' h8 h1 h2 h3 h4 h5 h6 h7
      by_cases l1 : psg t τ = 42
      · rcases hR with ⟨p, rfl, hS⟩ | hD
        · have h11 := hS.1
          have e12 := (hval h11).1
          have hvv := (hval h11).2
          have hsp := hS.sk
          have hsg := hX.sg p
          have l1 : sgn t p = 42 := l1
          have hpl : p + 1 ≤ t.length := sgn_pos (by omega)
          have he : Z = tml t f j (w64 (w * (f (pst t (.inl p))).1), (f (pst t (.inl p))).2) := by
            rw [he, tml, if_pos (show psg t (Sum.inl p) = 42 from l1)]
          refine g_p t190_5 rfl ?_
          refine r_gete t190_6 (f80 hF) rfl rfl h11 ?_
          refine g_p t190_9 rfl ?_
          refine g_cne t190_10 (fun h10 => ?_) (fun h10 => ?_)
          · first
              | (have u0 : ¬ (-1 : Int32) = -1 := h10
                 exact absurd rfl u0)
          · refine g_p t190_13 rfl ?_
            refine r_cv t190_14 (f80 hF) rfl ?_
            refine c183 (by exact hF) (by exact hX) (by exact hS) (fun s14 f14 hJ => ?_)
            have hS := hJ.m2 hsp
            refine k_v ?_ rfl
            have hF := Fx.fr (by exact hF) f14.1
            have h11 := (f14.f (i := 11) (by decide)).trans h11
            have e12 := (f14.f (i := 12) (by decide)).trans e12
            have hX := MT.fm (by exact hX) f14 (by decide) (by decide) (by decide) (by decide) (by decide)
            have hf := hf.tr (f14.mono (by decide) (by decide))
            refine g_k (n := 42) t190_17 rfl rfl ?_
            refine g_ceq t190_19 (fun h19 => ?_) (fun h19 => ?_)
            · refine g_p t190_31 rfl ?_
              refine r_cv t190_32 (f80 hF) rfl ?_
              refine c183 (by exact hF) (by exact hX) (by exact hS) (fun s32 f32 hJ => ?_)
              have hS := hJ.m2 hsp
              refine k_v ?_ rfl
              have hF := Fx.fr (by exact hF) f32.1
              have h11 := (f32.f (i := 11) (by decide)).trans h11
              have e12 := (f32.f (i := 12) (by decide)).trans e12
              have hX := MT.fm (by exact hX) f32 (by decide) (by decide) (by decide) (by decide) (by decide)
              have hf := hf.tr (f32.mono (by decide) (by decide))
              refine g_k (n := 42) t190_35 rfl rfl ?_
              refine g_cne t190_37 (fun h37 => ?_) (fun h37 => ?_)
              · exact absurd ((lk_e hsg (by decide) (by decide)).mpr l1) h37
              · refine g_k (n := 1) t190_40 rfl rfl ?_
                refine g_goto t190_41 ?_
                refine g_isn t190_45 (Nat.le_of_ble_eq_true rfl) (am_s1_2 rfl) ?_
                refine g_p t190_46 rfl ?_
                refine g_p t190_47 rfl ?_
                refine r_gete t190_48 (f80 hF) rfl rfl hJ.2.2 ?_
                refine g_k (n := 1) t190_51 rfl rfl ?_
                refine g_addn t190_52 ?_
                refine r_puti t190_53 (f80 hF) rfl rfl ?_
                refine g_p t190_56 rfl ?_
                refine r_cv t190_57 (f80 hF) rfl ?_
                have hf := (hf.m (i := 10) (v := nI (p + 1)) (by decide))
                have hX := MT.w8 (i := 10) (v := nI (p + 1)) (by exact hX) (by decide) (by decide) (by decide)
                refine hA _ (skp t (p + 1)) _ (by exact hF) (by exact hX) (by exact (MJ.ms ⟨h11, hpl, rfl⟩)) (by exact e12) (fun hV => (hL hV).fm hf (by decide)) (fun s56 v56 f56 hR hv2 => ?_)
                have hF := Fx.fr (by exact hF) f56.1
                have hf := hf.tr f56
                have hX := MT.fm (by exact hX) f56 (by decide) (by decide) (by decide) (by decide) (by decide)
                refine k_v ?_ rfl
                refine g_p t190_60 rfl ?_
                refine g_lsn t190_61 (Nat.le_of_ble_eq_true rfl) (am_s2_3 rfl) ?_
                refine g_p t190_62 rfl ?_
                refine n_eq t190_63 (by omega) (fun h63 => ?_) (fun h63 => ?_)
                · exact absurd h63 (by decide)
                · refine g_p t190_66 rfl ?_
                  refine g_p t190_67 rfl ?_
                  refine g_p t190_68 rfl ?_
                  refine g_lmul t190_69 ?_
                  refine g_goto t190_70 ?_
                  refine g_cs t190_87 rfl rfl rfl ?_
                  refine c188 ?_
                  refine k_v ?_ rfl
                  refine g_isn t190_90 (Nat.le_of_ble_eq_true rfl) (am_s1_1 rfl) ?_
                  refine g_goto t190_91 ?_
                  have q9 : V → ri s56 80 11 = -1 → v56.toInt64 = (f (pst t (.inl p))).1 ∧ bd (f (pst t (.inl p))).1 := fun hV h => (hv2 h).2 hV
                  have hv3 : ri s56 80 11 = -1 → ri s56 80 12 = nI k ∧ (V → (w64 (v.toInt64 * v56.toInt64)).toInt32.toInt64 = (w64 (w * (f (pst t (.inl p))).1)) ∧ bd (w64 (w * (f (pst t (.inl p))).1))) := fun h => ⟨(hv2 h).1, fun hV => by
                    obtain ⟨q1, q2⟩ := q9 hV h
                    obtain ⟨q3, q4⟩ := hvv hV
                    rw [bd_r bd_w, q3, q1]
                    exact ⟨rfl, bd_w⟩⟩
                  exact ih (i + 1) (by omega) _ _ _ _ he hF hf hX hR (hadv _ _ (ple_pst hle)) hv3 rfl
            · exact absurd ((lk_e hsg (by decide) (by decide)).mpr l1) h19
        · have := hD.psg; omega
      · by_cases l2 : psg t τ = 47
        · rcases hR with ⟨p, rfl, hS⟩ | hD
          · have h11 := hS.1
            have e12 := (hval h11).1
            have hvv := (hval h11).2
            have hsp := hS.sk
            have hsg := hX.sg p
            have l1 : ¬ sgn t p = 42 := l1
            have l2 : sgn t p = 47 := l2
            have hpl : p + 1 ≤ t.length := sgn_pos (by omega)
            have he : Z = tml t f j (if (f (pst t (.inl p))).1 = 0 then 0 else w / (f (pst t (.inl p))).1, (f (pst t (.inl p))).2) := by
              rw [he, tml, if_neg (show ¬ psg t (Sum.inl p) = 42 from l1), if_pos (show psg t (Sum.inl p) = 47 from l2)]
            refine g_p t190_5 rfl ?_
            refine r_gete t190_6 (f80 hF) rfl rfl h11 ?_
            refine g_p t190_9 rfl ?_
            refine g_cne t190_10 (fun h10 => ?_) (fun h10 => ?_)
            · first
                | (have u0 : ¬ (-1 : Int32) = -1 := h10
                   exact absurd rfl u0)
                | exact absurd ((lk_e hsg (by decide) (by decide)).mpr l2) h28
            · refine g_p t190_13 rfl ?_
              refine r_cv t190_14 (f80 hF) rfl ?_
              refine c183 (by exact hF) (by exact hX) (by exact hS) (fun s14 f14 hJ => ?_)
              have hS := hJ.m2 hsp
              refine k_v ?_ rfl
              have hF := Fx.fr (by exact hF) f14.1
              have h11 := (f14.f (i := 11) (by decide)).trans h11
              have e12 := (f14.f (i := 12) (by decide)).trans e12
              have hX := MT.fm (by exact hX) f14 (by decide) (by decide) (by decide) (by decide) (by decide)
              have hf := hf.tr (f14.mono (by decide) (by decide))
              refine g_k (n := 42) t190_17 rfl rfl ?_
              refine g_ceq t190_19 (fun h19 => ?_) (fun h19 => ?_)
              · refine g_p t190_31 rfl ?_
                refine r_cv t190_32 (f80 hF) rfl ?_
                refine c183 (by exact hF) (by exact hX) (by exact hS) (fun s32 f32 hJ => ?_)
                have hS := hJ.m2 hsp
                refine k_v ?_ rfl
                have hF := Fx.fr (by exact hF) f32.1
                have h11 := (f32.f (i := 11) (by decide)).trans h11
                have e12 := (f32.f (i := 12) (by decide)).trans e12
                have hX := MT.fm (by exact hX) f32 (by decide) (by decide) (by decide) (by decide) (by decide)
                have hf := hf.tr (f32.mono (by decide) (by decide))
                refine g_k (n := 42) t190_35 rfl rfl ?_
                refine g_cne t190_37 (fun h37 => ?_) (fun h37 => ?_)
                · refine g_k (n := 0) t190_44 rfl rfl ?_
                  refine g_isn t190_45 (Nat.le_of_ble_eq_true rfl) (am_s1_2 rfl) ?_
                  refine g_p t190_46 rfl ?_
                  refine g_p t190_47 rfl ?_
                  refine r_gete t190_48 (f80 hF) rfl rfl hJ.2.2 ?_
                  refine g_k (n := 1) t190_51 rfl rfl ?_
                  refine g_addn t190_52 ?_
                  refine r_puti t190_53 (f80 hF) rfl rfl ?_
                  refine g_p t190_56 rfl ?_
                  refine r_cv t190_57 (f80 hF) rfl ?_
                  have hf := (hf.m (i := 10) (v := nI (p + 1)) (by decide))
                  have hX := MT.w8 (i := 10) (v := nI (p + 1)) (by exact hX) (by decide) (by decide) (by decide)
                  refine hA _ (skp t (p + 1)) _ (by exact hF) (by exact hX) (by exact (MJ.ms ⟨h11, hpl, rfl⟩)) (by exact e12) (fun hV => (hL hV).fm hf (by decide)) (fun s56 v56 f56 hR hv2 => ?_)
                  have hF := Fx.fr (by exact hF) f56.1
                  have hf := hf.tr f56
                  have hX := MT.fm (by exact hX) f56 (by decide) (by decide) (by decide) (by decide) (by decide)
                  refine k_v ?_ rfl
                  refine g_p t190_60 rfl ?_
                  refine g_lsn t190_61 (Nat.le_of_ble_eq_true rfl) (am_s2_3 rfl) ?_
                  refine g_p t190_62 rfl ?_
                  refine n_eq t190_63 (by omega) (fun h63 => ?_) (fun h63 => ?_)
                  · refine g_p t190_73 rfl ?_
                    refine g_p t190_74 rfl ?_
                    refine g_p t190_75 rfl ?_
                    refine g_ne t190_76 (fun h76 => ?_) (fun h76 => ?_)
                    · refine g_p t190_83 rfl ?_
                      refine g_p t190_84 rfl ?_
                      refine g_p t190_85 rfl ?_
                      refine g_ldiv t190_86 (fun h => h76 ((lg_cmp_eq _ _).mpr h)) ?_
                      refine g_cs t190_87 rfl rfl rfl ?_
                      refine c188 ?_
                      refine k_v ?_ rfl
                      refine g_isn t190_90 (Nat.le_of_ble_eq_true rfl) (am_s1_1 rfl) ?_
                      refine g_goto t190_91 ?_
                      first
                        | (have u0 : lg_cmp v56.toInt64 0 = 0 := h76
                           have q9 : V → ri s56 80 11 = -1 → v56.toInt64 = (f (pst t (.inl p))).1 ∧ bd (f (pst t (.inl p))).1 := fun hV h => (hv2 h).2 hV
                           have hv3 : ri s56 80 11 = -1 → ri s56 80 12 = nI k ∧ (V → (w64 (0)).toInt32.toInt64 = (if (f (pst t (.inl p))).1 = 0 then 0 else w / (f (pst t (.inl p))).1) ∧ bd (if (f (pst t (.inl p))).1 = 0 then 0 else w / (f (pst t (.inl p))).1)) := fun h => ⟨(hv2 h).1, fun hV => by
                             obtain ⟨q1, q2⟩ := q9 hV h
                             obtain ⟨q3, q4⟩ := hvv hV
                             have u1 : v56.toInt64 = 0 := (lg_cmp_eq _ _).mp u0
                             rw [q1] at u1
                             rw [if_pos u1, w64_id bd_0]
                             exact ⟨bd_r bd_0, bd_0⟩⟩
                           exact ih (i + 1) (by omega) _ _ _ _ he hF hf hX hR (hadv _ _ (ple_pst hle)) hv3 rfl)
                        | (have u0 : ¬ lg_cmp v56.toInt64 0 = 0 := h76
                           have q9 : V → ri s56 80 11 = -1 → v56.toInt64 = (f (pst t (.inl p))).1 ∧ bd (f (pst t (.inl p))).1 := fun hV h => (hv2 h).2 hV
                           have hv3 : ri s56 80 11 = -1 → ri s56 80 12 = nI k ∧ (V → (w64 (v.toInt64 / v56.toInt64)).toInt32.toInt64 = (if (f (pst t (.inl p))).1 = 0 then 0 else w / (f (pst t (.inl p))).1) ∧ bd (if (f (pst t (.inl p))).1 = 0 then 0 else w / (f (pst t (.inl p))).1)) := fun h => ⟨(hv2 h).1, fun hV => by
                             obtain ⟨q1, q2⟩ := q9 hV h
                             obtain ⟨q3, q4⟩ := hvv hV
                             have u1 : ¬ v56.toInt64 = 0 := fun e => u0 ((lg_cmp_eq _ _).mpr e)
                             rw [q1] at u1
                             rw [if_neg u1, q3, q1, w64_id (bd_div q4)]
                             exact ⟨bd_r (bd_div q4), bd_div q4⟩⟩
                           exact ih (i + 1) (by omega) _ _ _ _ he hF hf hX hR (hadv _ _ (ple_pst hle)) hv3 rfl)
                    · refine g_p t190_79 rfl ?_
                      refine g_goto t190_80 ?_
                      refine g_cs t190_87 rfl rfl rfl ?_
                      refine c188 ?_
                      refine k_v ?_ rfl
                      refine g_isn t190_90 (Nat.le_of_ble_eq_true rfl) (am_s1_1 rfl) ?_
                      refine g_goto t190_91 ?_
                      first
                        | (have u0 : lg_cmp v56.toInt64 0 = 0 := h76
                           have q9 : V → ri s56 80 11 = -1 → v56.toInt64 = (f (pst t (.inl p))).1 ∧ bd (f (pst t (.inl p))).1 := fun hV h => (hv2 h).2 hV
                           have hv3 : ri s56 80 11 = -1 → ri s56 80 12 = nI k ∧ (V → (w64 (0)).toInt32.toInt64 = (if (f (pst t (.inl p))).1 = 0 then 0 else w / (f (pst t (.inl p))).1) ∧ bd (if (f (pst t (.inl p))).1 = 0 then 0 else w / (f (pst t (.inl p))).1)) := fun h => ⟨(hv2 h).1, fun hV => by
                             obtain ⟨q1, q2⟩ := q9 hV h
                             obtain ⟨q3, q4⟩ := hvv hV
                             have u1 : v56.toInt64 = 0 := (lg_cmp_eq _ _).mp u0
                             rw [q1] at u1
                             rw [if_pos u1, w64_id bd_0]
                             exact ⟨bd_r bd_0, bd_0⟩⟩
                           exact ih (i + 1) (by omega) _ _ _ _ he hF hf hX hR (hadv _ _ (ple_pst hle)) hv3 rfl)
                        | (have u0 : ¬ lg_cmp v56.toInt64 0 = 0 := h76
                           have q9 : V → ri s56 80 11 = -1 → v56.toInt64 = (f (pst t (.inl p))).1 ∧ bd (f (pst t (.inl p))).1 := fun hV h => (hv2 h).2 hV
                           have hv3 : ri s56 80 11 = -1 → ri s56 80 12 = nI k ∧ (V → (w64 (v.toInt64 / v56.toInt64)).toInt32.toInt64 = (if (f (pst t (.inl p))).1 = 0 then 0 else w / (f (pst t (.inl p))).1) ∧ bd (if (f (pst t (.inl p))).1 = 0 then 0 else w / (f (pst t (.inl p))).1)) := fun h => ⟨(hv2 h).1, fun hV => by
                             obtain ⟨q1, q2⟩ := q9 hV h
                             obtain ⟨q3, q4⟩ := hvv hV
                             have u1 : ¬ v56.toInt64 = 0 := fun e => u0 ((lg_cmp_eq _ _).mpr e)
                             rw [q1] at u1
                             rw [if_neg u1, q3, q1, w64_id (bd_div q4)]
                             exact ⟨bd_r (bd_div q4), bd_div q4⟩⟩
                           exact ih (i + 1) (by omega) _ _ _ _ he hF hf hX hR (hadv _ _ (ple_pst hle)) hv3 rfl)
                  · exact absurd rfl h63
                · exact absurd ((lk_e hsg (by decide) (by decide)).mp h37) l1
              · refine g_p t190_22 rfl ?_
                refine r_cv t190_23 (f80 hF) rfl ?_
                refine c183 (by exact hF) (by exact hX) (by exact hS) (fun s23 f23 hJ => ?_)
                have hS := hJ.m2 hsp
                refine k_v ?_ rfl
                have hF := Fx.fr (by exact hF) f23.1
                have h11 := (f23.f (i := 11) (by decide)).trans h11
                have e12 := (f23.f (i := 12) (by decide)).trans e12
                have hX := MT.fm (by exact hX) f23 (by decide) (by decide) (by decide) (by decide) (by decide)
                have hf := hf.tr (f23.mono (by decide) (by decide))
                refine g_k (n := 47) t190_26 rfl rfl ?_
                refine g_cne t190_28 (fun h28 => ?_) (fun h28 => ?_)
                · first
                    | (have u0 : ¬ (-1 : Int32) = -1 := h10
                       exact absurd rfl u0)
                    | exact absurd ((lk_e hsg (by decide) (by decide)).mpr l2) h28
                · refine g_p t190_31 rfl ?_
                  refine r_cv t190_32 (f80 hF) rfl ?_
                  refine c183 (by exact hF) (by exact hX) (by exact hS) (fun s32 f32 hJ => ?_)
                  have hS := hJ.m2 hsp
                  refine k_v ?_ rfl
                  have hF := Fx.fr (by exact hF) f32.1
                  have h11 := (f32.f (i := 11) (by decide)).trans h11
                  have e12 := (f32.f (i := 12) (by decide)).trans e12
                  have hX := MT.fm (by exact hX) f32 (by decide) (by decide) (by decide) (by decide) (by decide)
                  have hf := hf.tr (f32.mono (by decide) (by decide))
                  refine g_k (n := 42) t190_35 rfl rfl ?_
                  refine g_cne t190_37 (fun h37 => ?_) (fun h37 => ?_)
                  · refine g_k (n := 0) t190_44 rfl rfl ?_
                    refine g_isn t190_45 (Nat.le_of_ble_eq_true rfl) (am_s1_2 rfl) ?_
                    refine g_p t190_46 rfl ?_
                    refine g_p t190_47 rfl ?_
                    refine r_gete t190_48 (f80 hF) rfl rfl hJ.2.2 ?_
                    refine g_k (n := 1) t190_51 rfl rfl ?_
                    refine g_addn t190_52 ?_
                    refine r_puti t190_53 (f80 hF) rfl rfl ?_
                    refine g_p t190_56 rfl ?_
                    refine r_cv t190_57 (f80 hF) rfl ?_
                    have hf := (hf.m (i := 10) (v := nI (p + 1)) (by decide))
                    have hX := MT.w8 (i := 10) (v := nI (p + 1)) (by exact hX) (by decide) (by decide) (by decide)
                    refine hA _ (skp t (p + 1)) _ (by exact hF) (by exact hX) (by exact (MJ.ms ⟨h11, hpl, rfl⟩)) (by exact e12) (fun hV => (hL hV).fm hf (by decide)) (fun s56 v56 f56 hR hv2 => ?_)
                    have hF := Fx.fr (by exact hF) f56.1
                    have hf := hf.tr f56
                    have hX := MT.fm (by exact hX) f56 (by decide) (by decide) (by decide) (by decide) (by decide)
                    refine k_v ?_ rfl
                    refine g_p t190_60 rfl ?_
                    refine g_lsn t190_61 (Nat.le_of_ble_eq_true rfl) (am_s2_3 rfl) ?_
                    refine g_p t190_62 rfl ?_
                    refine n_eq t190_63 (by omega) (fun h63 => ?_) (fun h63 => ?_)
                    · refine g_p t190_73 rfl ?_
                      refine g_p t190_74 rfl ?_
                      refine g_p t190_75 rfl ?_
                      refine g_ne t190_76 (fun h76 => ?_) (fun h76 => ?_)
                      · refine g_p t190_83 rfl ?_
                        refine g_p t190_84 rfl ?_
                        refine g_p t190_85 rfl ?_
                        refine g_ldiv t190_86 (fun h => h76 ((lg_cmp_eq _ _).mpr h)) ?_
                        refine g_cs t190_87 rfl rfl rfl ?_
                        refine c188 ?_
                        refine k_v ?_ rfl
                        refine g_isn t190_90 (Nat.le_of_ble_eq_true rfl) (am_s1_1 rfl) ?_
                        refine g_goto t190_91 ?_
                        first
                          | (have u0 : lg_cmp v56.toInt64 0 = 0 := h76
                             have q9 : V → ri s56 80 11 = -1 → v56.toInt64 = (f (pst t (.inl p))).1 ∧ bd (f (pst t (.inl p))).1 := fun hV h => (hv2 h).2 hV
                             have hv3 : ri s56 80 11 = -1 → ri s56 80 12 = nI k ∧ (V → (w64 (0)).toInt32.toInt64 = (if (f (pst t (.inl p))).1 = 0 then 0 else w / (f (pst t (.inl p))).1) ∧ bd (if (f (pst t (.inl p))).1 = 0 then 0 else w / (f (pst t (.inl p))).1)) := fun h => ⟨(hv2 h).1, fun hV => by
                               obtain ⟨q1, q2⟩ := q9 hV h
                               obtain ⟨q3, q4⟩ := hvv hV
                               have u1 : v56.toInt64 = 0 := (lg_cmp_eq _ _).mp u0
                               rw [q1] at u1
                               rw [if_pos u1, w64_id bd_0]
                               exact ⟨bd_r bd_0, bd_0⟩⟩
                             exact ih (i + 1) (by omega) _ _ _ _ he hF hf hX hR (hadv _ _ (ple_pst hle)) hv3 rfl)
                          | (have u0 : ¬ lg_cmp v56.toInt64 0 = 0 := h76
                             have q9 : V → ri s56 80 11 = -1 → v56.toInt64 = (f (pst t (.inl p))).1 ∧ bd (f (pst t (.inl p))).1 := fun hV h => (hv2 h).2 hV
                             have hv3 : ri s56 80 11 = -1 → ri s56 80 12 = nI k ∧ (V → (w64 (v.toInt64 / v56.toInt64)).toInt32.toInt64 = (if (f (pst t (.inl p))).1 = 0 then 0 else w / (f (pst t (.inl p))).1) ∧ bd (if (f (pst t (.inl p))).1 = 0 then 0 else w / (f (pst t (.inl p))).1)) := fun h => ⟨(hv2 h).1, fun hV => by
                               obtain ⟨q1, q2⟩ := q9 hV h
                               obtain ⟨q3, q4⟩ := hvv hV
                               have u1 : ¬ v56.toInt64 = 0 := fun e => u0 ((lg_cmp_eq _ _).mpr e)
                               rw [q1] at u1
                               rw [if_neg u1, q3, q1, w64_id (bd_div q4)]
                               exact ⟨bd_r (bd_div q4), bd_div q4⟩⟩
                             exact ih (i + 1) (by omega) _ _ _ _ he hF hf hX hR (hadv _ _ (ple_pst hle)) hv3 rfl)
                      · refine g_p t190_79 rfl ?_
                        refine g_goto t190_80 ?_
                        refine g_cs t190_87 rfl rfl rfl ?_
                        refine c188 ?_
                        refine k_v ?_ rfl
                        refine g_isn t190_90 (Nat.le_of_ble_eq_true rfl) (am_s1_1 rfl) ?_
                        refine g_goto t190_91 ?_
                        first
                          | (have u0 : lg_cmp v56.toInt64 0 = 0 := h76
                             have q9 : V → ri s56 80 11 = -1 → v56.toInt64 = (f (pst t (.inl p))).1 ∧ bd (f (pst t (.inl p))).1 := fun hV h => (hv2 h).2 hV
                             have hv3 : ri s56 80 11 = -1 → ri s56 80 12 = nI k ∧ (V → (w64 (0)).toInt32.toInt64 = (if (f (pst t (.inl p))).1 = 0 then 0 else w / (f (pst t (.inl p))).1) ∧ bd (if (f (pst t (.inl p))).1 = 0 then 0 else w / (f (pst t (.inl p))).1)) := fun h => ⟨(hv2 h).1, fun hV => by
                               obtain ⟨q1, q2⟩ := q9 hV h
                               obtain ⟨q3, q4⟩ := hvv hV
                               have u1 : v56.toInt64 = 0 := (lg_cmp_eq _ _).mp u0
                               rw [q1] at u1
                               rw [if_pos u1, w64_id bd_0]
                               exact ⟨bd_r bd_0, bd_0⟩⟩
                             exact ih (i + 1) (by omega) _ _ _ _ he hF hf hX hR (hadv _ _ (ple_pst hle)) hv3 rfl)
                          | (have u0 : ¬ lg_cmp v56.toInt64 0 = 0 := h76
                             have q9 : V → ri s56 80 11 = -1 → v56.toInt64 = (f (pst t (.inl p))).1 ∧ bd (f (pst t (.inl p))).1 := fun hV h => (hv2 h).2 hV
                             have hv3 : ri s56 80 11 = -1 → ri s56 80 12 = nI k ∧ (V → (w64 (v.toInt64 / v56.toInt64)).toInt32.toInt64 = (if (f (pst t (.inl p))).1 = 0 then 0 else w / (f (pst t (.inl p))).1) ∧ bd (if (f (pst t (.inl p))).1 = 0 then 0 else w / (f (pst t (.inl p))).1)) := fun h => ⟨(hv2 h).1, fun hV => by
                               obtain ⟨q1, q2⟩ := q9 hV h
                               obtain ⟨q3, q4⟩ := hvv hV
                               have u1 : ¬ v56.toInt64 = 0 := fun e => u0 ((lg_cmp_eq _ _).mpr e)
                               rw [q1] at u1
                               rw [if_neg u1, q3, q1, w64_id (bd_div q4)]
                               exact ⟨bd_r (bd_div q4), bd_div q4⟩⟩
                             exact ih (i + 1) (by omega) _ _ _ _ he hF hf hX hR (hadv _ _ (ple_pst hle)) hv3 rfl)
                    · exact absurd rfl h63
                  · exact absurd ((lk_e hsg (by decide) (by decide)).mp h37) l1
          · have := hD.psg; omega
        · exact EX _ i w τ v s' n2 l1 l2 he hF hf hX hR hval
  refine en190 rfl ?_
  refine g_p t190_0 rfl ?_
  refine r_cv t190_1 (f80 hF) rfl ?_
  refine hA _ j0 _ (by exact hF) (by exact hX) (by exact hS) (by exact e12) hL (fun s1 v1 f1 hR hv2 => ?_)
  have hF := Fx.fr (by exact hF) f1.1
  have hX := MT.fm (by exact hX) f1 (by decide) (by decide) (by decide) (by decide) (by decide)
  refine k_v ?_ rfl
  refine g_isn t190_4 (Nat.le_of_ble_eq_true rfl) (am_s1_1 rfl) ?_
  exact K 120 0 rfl _ _ v1 s1 rfl hZ hF f1 hX hR (by cases (f (.inl j0)).2 <;> first | trivial | exact Nat.zero_le _) hv2
theorem c191 (hadv : adv g) (hA : MC X T nT B t a V 190 k (d + 4) g) : MC X T nT B t a V 191 k (d + 5) (fun σ => sml t g 120 (g σ)) := by
  intro s j0 Q hF hX hS e12 hL hq
  obtain ⟨Z, hZ⟩ : ∃ Z, Z = sml t g 120 (g (.inl j0)) := ⟨_, rfl⟩
  have hq : ∀ s' v, FM [] rB s s' → RM t Z.2 s' → (ri s' 80 11 = -1 → ri s' 80 12 = nI k ∧ (V → v.toInt64 = Z.1 ∧ bd Z.1)) → Q (some (.int v)) (mR s') := by rw [hZ]; exact hq
  have h120 := hX.2.2.2.2.2.2.2.2.1
  have EX : ∀ (j i : Nat) (w : Int64) (τ : Ps) (v : Int32) (s' : mM), ∀ {z2 z3 z4}, am_nl z2 = true → ¬ psg t τ = 43 → ¬ psg t τ = 45 → Z = sml t g j (w, τ) → Fx s' → FM [] rB s s' → MT T nT B t s' → RM t τ s' → (ri s' 80 11 = -1 → ri s' 80 12 = nI k ∧ (V → v.toInt64 = w ∧ bd w)) → gG X (d + 5) 191 5 [.ref 80, .int v, z2, z3, z4] [] (mR s') Q := by
    intro j i w τ v s' z2 z3 z4 n2 n42 n47 he hF hf hX hR hval
    rw [sml_d n42 n47] at he
    rw [he] at hq
    rcases hR with ⟨p, rfl, hS⟩ | hD
    · have h11 := hS.1
      have e12 := (hval h11).1
      have hvv := (hval h11).2
      have hsp := hS.sk
      have hsg := hX.sg p
      have n42 : ¬ sgn t p = 43 := n42
      have n47 : ¬ sgn t p = 45 := n47
      refine g_p t191_5 rfl ?_
      refine r_gete t191_6 (f80 hF) rfl rfl h11 ?_
      refine g_p t191_9 rfl ?_
      refine g_cne t191_10 (fun h10 => ?_) (fun h10 => ?_)
      · refine g_p t191_84 rfl ?_
        first
          | (have u0 : ¬ (-1 : Int32) = -1 := h10
             exact absurd rfl u0)
          | exact i_ret t191_85 rfl (hq _ v hf (Or.inl ⟨p, rfl, hS⟩) (fun _ => ⟨e12, hvv⟩))
      · refine g_p t191_13 rfl ?_
        refine r_cv t191_14 (f80 hF) rfl ?_
        refine c183 (by exact hF) (by exact hX) (by exact hS) (fun s14 f14 hJ => ?_)
        have hS := hJ.m2 hsp
        refine k_v ?_ rfl
        have hF := Fx.fr (by exact hF) f14.1
        have h11 := (f14.f (i := 11) (by decide)).trans h11
        have e12 := (f14.f (i := 12) (by decide)).trans e12
        have hX := MT.fm (by exact hX) f14 (by decide) (by decide) (by decide) (by decide) (by decide)
        have hf := hf.tr (f14.mono (by decide) (by decide))
        refine g_k (n := 43) t191_17 rfl rfl ?_
        refine g_ceq t191_19 (fun h19 => ?_) (fun h19 => ?_)
        · first
            | (have u0 : ¬ lk (sgn t p) = nI 43 := h19
               exact absurd ((lk_e hsg (by decide) (by decide)).mp h28) n47)
            | exact absurd ((lk_e hsg (by decide) (by decide)).mp h19) n42
        · refine g_p t191_22 rfl ?_
          refine r_cv t191_23 (f80 hF) rfl ?_
          refine c183 (by exact hF) (by exact hX) (by exact hS) (fun s23 f23 hJ => ?_)
          have hS := hJ.m2 hsp
          refine k_v ?_ rfl
          have hF := Fx.fr (by exact hF) f23.1
          have h11 := (f23.f (i := 11) (by decide)).trans h11
          have e12 := (f23.f (i := 12) (by decide)).trans e12
          have hX := MT.fm (by exact hX) f23 (by decide) (by decide) (by decide) (by decide) (by decide)
          have hf := hf.tr (f23.mono (by decide) (by decide))
          refine g_k (n := 45) t191_26 rfl rfl ?_
          refine g_cne t191_28 (fun h28 => ?_) (fun h28 => ?_)
          · refine g_p t191_84 rfl ?_
            first
              | (have u0 : ¬ (-1 : Int32) = -1 := h10
                 exact absurd rfl u0)
              | exact i_ret t191_85 rfl (hq _ v hf (Or.inl ⟨p, rfl, hS⟩) (fun _ => ⟨e12, hvv⟩))
          · first
              | (have u0 : ¬ lk (sgn t p) = nI 43 := h19
                 exact absurd ((lk_e hsg (by decide) (by decide)).mp h28) n47)
              | exact absurd ((lk_e hsg (by decide) (by decide)).mp h19) n42
    · have h11 := hD.fl h120
      refine g_p t191_5 rfl ?_
      refine r_geti t191_6 (f80 hF) rfl rfl ?_
      refine g_p t191_9 rfl ?_
      refine g_cne t191_10 (fun h10 => ?_) (fun h10 => ?_)
      · refine g_p t191_84 rfl ?_
        exact i_ret t191_85 rfl (hq s' v hf (Or.inr hD) (fun h => absurd h h11))
      · exact absurd h10 h11
  have K : ∀ (j i : Nat), i + j = 120 → ∀ (w : Int64) (τ : Ps) (v : Int32) (s' : mM), ∀ {z2 z3 z4}, am_nl z2 = true → Z = sml t g j (w, τ) → Fx s' → FM [] rB s s' → MT T nT B t s' → RM t τ s' → ple i τ → (ri s' 80 11 = -1 → ri s' 80 12 = nI k ∧ (V → v.toInt64 = w ∧ bd w)) → gG X (d + 5) 191 5 [.ref 80, .int v, z2, z3, z4] [] (mR s') Q := by
    intro j
    induction j with
    | zero =>
      intro i hi w τ v s' z2 z3 z4 n2 he hF hf hX hR hle hval
      have h0 : psg t τ = 0 := by
        cases τ with
        | inl p =>
          have hle : i ≤ p := hle
          show sgn t p = 0
          unfold sgn
          rw [List.getD, List.getElem?_eq_none (by omega)]; rfl
        | inr f => rfl
      exact EX _ i w τ v s' n2 (by rw [h0]; decide) (by rw [h0]; decide) he hF hf hX hR hval
    | succ j ih =>
      intro i hi w τ v s' z2 z3 z4 n2 he hF hf hX hR hle hval
      have ih : ∀ i, i + j = 120 → ∀ (w : Int64) (τ : Ps) (v : Int32) (s' : mM), ∀ {z2 z3 z4}, Z = sml t g j (w, τ) → Fx s' → FM [] rB s s' → MT T nT B t s' → RM t τ s' → ple i τ → (ri s' 80 11 = -1 → ri s' 80 12 = nI k ∧ (V → v.toInt64 = w ∧ bd w)) → am_nl z2 = true → gG X (d + 5) 191 5 [.ref 80, .int v, z2, z3, z4] [] (mR s') Q := fun i h w τ v s' {z2 z3 z4} h1 h2 h3 h4 h5 h6 h7 h8 => ih i h w τ v s' h8 h1 h2 h3 h4 h5 h6 h7
      by_cases l1 : psg t τ = 43
      · rcases hR with ⟨p, rfl, hS⟩ | hD
        · have h11 := hS.1
          have e12 := (hval h11).1
          have hvv := (hval h11).2
          have hsp := hS.sk
          have hsg := hX.sg p
          have l1 : sgn t p = 43 := l1
          have hpl : p + 1 ≤ t.length := sgn_pos (by omega)
          have he : Z = sml t g j (w64 (w + (g (pst t (.inl p))).1), (g (pst t (.inl p))).2) := by
            rw [he, sml, if_pos (show psg t (Sum.inl p) = 43 from l1)]
          refine g_p t191_5 rfl ?_
          refine r_gete t191_6 (f80 hF) rfl rfl h11 ?_
          refine g_p t191_9 rfl ?_
          refine g_cne t191_10 (fun h10 => ?_) (fun h10 => ?_)
          · first
              | (have u0 : ¬ (-1 : Int32) = -1 := h10
                 exact absurd rfl u0)
          · refine g_p t191_13 rfl ?_
            refine r_cv t191_14 (f80 hF) rfl ?_
            refine c183 (by exact hF) (by exact hX) (by exact hS) (fun s14 f14 hJ => ?_)
            have hS := hJ.m2 hsp
            refine k_v ?_ rfl
            have hF := Fx.fr (by exact hF) f14.1
            have h11 := (f14.f (i := 11) (by decide)).trans h11
            have e12 := (f14.f (i := 12) (by decide)).trans e12
            have hX := MT.fm (by exact hX) f14 (by decide) (by decide) (by decide) (by decide) (by decide)
            have hf := hf.tr (f14.mono (by decide) (by decide))
            refine g_k (n := 43) t191_17 rfl rfl ?_
            refine g_ceq t191_19 (fun h19 => ?_) (fun h19 => ?_)
            · refine g_p t191_31 rfl ?_
              refine r_cv t191_32 (f80 hF) rfl ?_
              refine c183 (by exact hF) (by exact hX) (by exact hS) (fun s32 f32 hJ => ?_)
              have hS := hJ.m2 hsp
              refine k_v ?_ rfl
              have hF := Fx.fr (by exact hF) f32.1
              have h11 := (f32.f (i := 11) (by decide)).trans h11
              have e12 := (f32.f (i := 12) (by decide)).trans e12
              have hX := MT.fm (by exact hX) f32 (by decide) (by decide) (by decide) (by decide) (by decide)
              have hf := hf.tr (f32.mono (by decide) (by decide))
              refine g_k (n := 43) t191_35 rfl rfl ?_
              refine g_cne t191_37 (fun h37 => ?_) (fun h37 => ?_)
              · exact absurd ((lk_e hsg (by decide) (by decide)).mpr l1) h37
              · refine g_k (n := 1) t191_40 rfl rfl ?_
                refine g_goto t191_41 ?_
                refine g_isn t191_45 (Nat.le_of_ble_eq_true rfl) (am_s1_2 rfl) ?_
                refine g_p t191_46 rfl ?_
                refine g_p t191_47 rfl ?_
                refine r_gete t191_48 (f80 hF) rfl rfl hJ.2.2 ?_
                refine g_k (n := 1) t191_51 rfl rfl ?_
                refine g_addn t191_52 ?_
                refine r_puti t191_53 (f80 hF) rfl rfl ?_
                refine g_p t191_56 rfl ?_
                refine r_cv t191_57 (f80 hF) rfl ?_
                have hf := (hf.m (i := 10) (v := nI (p + 1)) (by decide))
                have hX := MT.w8 (i := 10) (v := nI (p + 1)) (by exact hX) (by decide) (by decide) (by decide)
                refine hA _ (skp t (p + 1)) _ (by exact hF) (by exact hX) (by exact (MJ.ms ⟨h11, hpl, rfl⟩)) (by exact e12) (fun hV => (hL hV).fm hf (by decide)) (fun s56 v56 f56 hR hv2 => ?_)
                have hF := Fx.fr (by exact hF) f56.1
                have hf := hf.tr f56
                have hX := MT.fm (by exact hX) f56 (by decide) (by decide) (by decide) (by decide) (by decide)
                refine k_v ?_ rfl
                refine g_p t191_60 rfl ?_
                refine g_lsn t191_61 (Nat.le_of_ble_eq_true rfl) (am_s2_3 rfl) ?_
                refine g_p t191_62 rfl ?_
                refine n_eq t191_63 (by omega) (fun h63 => ?_) (fun h63 => ?_)
                · exact absurd h63 (by decide)
                · refine g_p t191_66 rfl ?_
                  refine g_p t191_67 rfl ?_
                  refine g_p t191_68 rfl ?_
                  refine g_ladd t191_69 ?_
                  refine g_goto t191_70 ?_
                  refine g_cs t191_77 rfl rfl rfl ?_
                  refine c188 ?_
                  refine k_v ?_ rfl
                  refine g_isn t191_80 (Nat.le_of_ble_eq_true rfl) (am_s1_1 rfl) ?_
                  refine g_goto t191_81 ?_
                  have q9 : V → ri s56 80 11 = -1 → v56.toInt64 = (g (pst t (.inl p))).1 ∧ bd (g (pst t (.inl p))).1 := fun hV h => (hv2 h).2 hV
                  have hv3 : ri s56 80 11 = -1 → ri s56 80 12 = nI k ∧ (V → (w64 (v.toInt64 + v56.toInt64)).toInt32.toInt64 = (w64 (w + (g (pst t (.inl p))).1)) ∧ bd (w64 (w + (g (pst t (.inl p))).1))) := fun h => ⟨(hv2 h).1, fun hV => by
                    obtain ⟨q1, q2⟩ := q9 hV h
                    obtain ⟨q3, q4⟩ := hvv hV
                    rw [bd_r bd_w, q3, q1]
                    exact ⟨rfl, bd_w⟩⟩
                  exact ih (i + 1) (by omega) _ _ _ _ he hF hf hX hR (hadv _ _ (ple_pst hle)) hv3 rfl
            · exact absurd ((lk_e hsg (by decide) (by decide)).mpr l1) h19
        · have := hD.psg; omega
      · by_cases l2 : psg t τ = 45
        · rcases hR with ⟨p, rfl, hS⟩ | hD
          · have h11 := hS.1
            have e12 := (hval h11).1
            have hvv := (hval h11).2
            have hsp := hS.sk
            have hsg := hX.sg p
            have l1 : ¬ sgn t p = 43 := l1
            have l2 : sgn t p = 45 := l2
            have hpl : p + 1 ≤ t.length := sgn_pos (by omega)
            have he : Z = sml t g j (w64 (w - (g (pst t (.inl p))).1), (g (pst t (.inl p))).2) := by
              rw [he, sml, if_neg (show ¬ psg t (Sum.inl p) = 43 from l1), if_pos (show psg t (Sum.inl p) = 45 from l2)]
            refine g_p t191_5 rfl ?_
            refine r_gete t191_6 (f80 hF) rfl rfl h11 ?_
            refine g_p t191_9 rfl ?_
            refine g_cne t191_10 (fun h10 => ?_) (fun h10 => ?_)
            · first
                | (have u0 : ¬ (-1 : Int32) = -1 := h10
                   exact absurd rfl u0)
                | exact absurd ((lk_e hsg (by decide) (by decide)).mpr l2) h28
            · refine g_p t191_13 rfl ?_
              refine r_cv t191_14 (f80 hF) rfl ?_
              refine c183 (by exact hF) (by exact hX) (by exact hS) (fun s14 f14 hJ => ?_)
              have hS := hJ.m2 hsp
              refine k_v ?_ rfl
              have hF := Fx.fr (by exact hF) f14.1
              have h11 := (f14.f (i := 11) (by decide)).trans h11
              have e12 := (f14.f (i := 12) (by decide)).trans e12
              have hX := MT.fm (by exact hX) f14 (by decide) (by decide) (by decide) (by decide) (by decide)
              have hf := hf.tr (f14.mono (by decide) (by decide))
              refine g_k (n := 43) t191_17 rfl rfl ?_
              refine g_ceq t191_19 (fun h19 => ?_) (fun h19 => ?_)
              · refine g_p t191_31 rfl ?_
                refine r_cv t191_32 (f80 hF) rfl ?_
                refine c183 (by exact hF) (by exact hX) (by exact hS) (fun s32 f32 hJ => ?_)
                have hS := hJ.m2 hsp
                refine k_v ?_ rfl
                have hF := Fx.fr (by exact hF) f32.1
                have h11 := (f32.f (i := 11) (by decide)).trans h11
                have e12 := (f32.f (i := 12) (by decide)).trans e12
                have hX := MT.fm (by exact hX) f32 (by decide) (by decide) (by decide) (by decide) (by decide)
                have hf := hf.tr (f32.mono (by decide) (by decide))
                refine g_k (n := 43) t191_35 rfl rfl ?_
                refine g_cne t191_37 (fun h37 => ?_) (fun h37 => ?_)
                · refine g_k (n := 0) t191_44 rfl rfl ?_
                  refine g_isn t191_45 (Nat.le_of_ble_eq_true rfl) (am_s1_2 rfl) ?_
                  refine g_p t191_46 rfl ?_
                  refine g_p t191_47 rfl ?_
                  refine r_gete t191_48 (f80 hF) rfl rfl hJ.2.2 ?_
                  refine g_k (n := 1) t191_51 rfl rfl ?_
                  refine g_addn t191_52 ?_
                  refine r_puti t191_53 (f80 hF) rfl rfl ?_
                  refine g_p t191_56 rfl ?_
                  refine r_cv t191_57 (f80 hF) rfl ?_
                  have hf := (hf.m (i := 10) (v := nI (p + 1)) (by decide))
                  have hX := MT.w8 (i := 10) (v := nI (p + 1)) (by exact hX) (by decide) (by decide) (by decide)
                  refine hA _ (skp t (p + 1)) _ (by exact hF) (by exact hX) (by exact (MJ.ms ⟨h11, hpl, rfl⟩)) (by exact e12) (fun hV => (hL hV).fm hf (by decide)) (fun s56 v56 f56 hR hv2 => ?_)
                  have hF := Fx.fr (by exact hF) f56.1
                  have hf := hf.tr f56
                  have hX := MT.fm (by exact hX) f56 (by decide) (by decide) (by decide) (by decide) (by decide)
                  refine k_v ?_ rfl
                  refine g_p t191_60 rfl ?_
                  refine g_lsn t191_61 (Nat.le_of_ble_eq_true rfl) (am_s2_3 rfl) ?_
                  refine g_p t191_62 rfl ?_
                  refine n_eq t191_63 (by omega) (fun h63 => ?_) (fun h63 => ?_)
                  · refine g_p t191_73 rfl ?_
                    refine g_p t191_74 rfl ?_
                    refine g_p t191_75 rfl ?_
                    refine g_lsub t191_76 ?_
                    refine g_cs t191_77 rfl rfl rfl ?_
                    refine c188 ?_
                    refine k_v ?_ rfl
                    refine g_isn t191_80 (Nat.le_of_ble_eq_true rfl) (am_s1_1 rfl) ?_
                    refine g_goto t191_81 ?_
                    have q9 : V → ri s56 80 11 = -1 → v56.toInt64 = (g (pst t (.inl p))).1 ∧ bd (g (pst t (.inl p))).1 := fun hV h => (hv2 h).2 hV
                    have hv3 : ri s56 80 11 = -1 → ri s56 80 12 = nI k ∧ (V → (w64 (v.toInt64 - v56.toInt64)).toInt32.toInt64 = (w64 (w - (g (pst t (.inl p))).1)) ∧ bd (w64 (w - (g (pst t (.inl p))).1))) := fun h => ⟨(hv2 h).1, fun hV => by
                      obtain ⟨q1, q2⟩ := q9 hV h
                      obtain ⟨q3, q4⟩ := hvv hV
                      rw [bd_r bd_w, q3, q1]
                      exact ⟨rfl, bd_w⟩⟩
                    exact ih (i + 1) (by omega) _ _ _ _ he hF hf hX hR (hadv _ _ (ple_pst hle)) hv3 rfl
                  · exact absurd rfl h63
                · exact absurd ((lk_e hsg (by decide) (by decide)).mp h37) l1
              · refine g_p t191_22 rfl ?_
                refine r_cv t191_23 (f80 hF) rfl ?_
                refine c183 (by exact hF) (by exact hX) (by exact hS) (fun s23 f23 hJ => ?_)
                have hS := hJ.m2 hsp
                refine k_v ?_ rfl
                have hF := Fx.fr (by exact hF) f23.1
                have h11 := (f23.f (i := 11) (by decide)).trans h11
                have e12 := (f23.f (i := 12) (by decide)).trans e12
                have hX := MT.fm (by exact hX) f23 (by decide) (by decide) (by decide) (by decide) (by decide)
                have hf := hf.tr (f23.mono (by decide) (by decide))
                refine g_k (n := 45) t191_26 rfl rfl ?_
                refine g_cne t191_28 (fun h28 => ?_) (fun h28 => ?_)
                · first
                    | (have u0 : ¬ (-1 : Int32) = -1 := h10
                       exact absurd rfl u0)
                    | exact absurd ((lk_e hsg (by decide) (by decide)).mpr l2) h28
                · refine g_p t191_31 rfl ?_
                  refine r_cv t191_32 (f80 hF) rfl ?_
                  refine c183 (by exact hF) (by exact hX) (by exact hS) (fun s32 f32 hJ => ?_)
                  have hS := hJ.m2 hsp
                  refine k_v ?_ rfl
                  have hF := Fx.fr (by exact hF) f32.1
                  have h11 := (f32.f (i := 11) (by decide)).trans h11
                  have e12 := (f32.f (i := 12) (by decide)).trans e12
                  have hX := MT.fm (by exact hX) f32 (by decide) (by decide) (by decide) (by decide) (by decide)
                  have hf := hf.tr (f32.mono (by decide) (by decide))
                  refine g_k (n := 43) t191_35 rfl rfl ?_
                  refine g_cne t191_37 (fun h37 => ?_) (fun h37 => ?_)
                  · refine g_k (n := 0) t191_44 rfl rfl ?_
                    refine g_isn t191_45 (Nat.le_of_ble_eq_true rfl) (am_s1_2 rfl) ?_
                    refine g_p t191_46 rfl ?_
                    refine g_p t191_47 rfl ?_
                    refine r_gete t191_48 (f80 hF) rfl rfl hJ.2.2 ?_
                    refine g_k (n := 1) t191_51 rfl rfl ?_
                    refine g_addn t191_52 ?_
                    refine r_puti t191_53 (f80 hF) rfl rfl ?_
                    refine g_p t191_56 rfl ?_
                    refine r_cv t191_57 (f80 hF) rfl ?_
                    have hf := (hf.m (i := 10) (v := nI (p + 1)) (by decide))
                    have hX := MT.w8 (i := 10) (v := nI (p + 1)) (by exact hX) (by decide) (by decide) (by decide)
                    refine hA _ (skp t (p + 1)) _ (by exact hF) (by exact hX) (by exact (MJ.ms ⟨h11, hpl, rfl⟩)) (by exact e12) (fun hV => (hL hV).fm hf (by decide)) (fun s56 v56 f56 hR hv2 => ?_)
                    have hF := Fx.fr (by exact hF) f56.1
                    have hf := hf.tr f56
                    have hX := MT.fm (by exact hX) f56 (by decide) (by decide) (by decide) (by decide) (by decide)
                    refine k_v ?_ rfl
                    refine g_p t191_60 rfl ?_
                    refine g_lsn t191_61 (Nat.le_of_ble_eq_true rfl) (am_s2_3 rfl) ?_
                    refine g_p t191_62 rfl ?_
                    refine n_eq t191_63 (by omega) (fun h63 => ?_) (fun h63 => ?_)
                    · refine g_p t191_73 rfl ?_
                      refine g_p t191_74 rfl ?_
                      refine g_p t191_75 rfl ?_
                      refine g_lsub t191_76 ?_
                      refine g_cs t191_77 rfl rfl rfl ?_
                      refine c188 ?_
                      refine k_v ?_ rfl
                      refine g_isn t191_80 (Nat.le_of_ble_eq_true rfl) (am_s1_1 rfl) ?_
                      refine g_goto t191_81 ?_
                      have q9 : V → ri s56 80 11 = -1 → v56.toInt64 = (g (pst t (.inl p))).1 ∧ bd (g (pst t (.inl p))).1 := fun hV h => (hv2 h).2 hV
                      have hv3 : ri s56 80 11 = -1 → ri s56 80 12 = nI k ∧ (V → (w64 (v.toInt64 - v56.toInt64)).toInt32.toInt64 = (w64 (w - (g (pst t (.inl p))).1)) ∧ bd (w64 (w - (g (pst t (.inl p))).1))) := fun h => ⟨(hv2 h).1, fun hV => by
                        obtain ⟨q1, q2⟩ := q9 hV h
                        obtain ⟨q3, q4⟩ := hvv hV
                        rw [bd_r bd_w, q3, q1]
                        exact ⟨rfl, bd_w⟩⟩
                      exact ih (i + 1) (by omega) _ _ _ _ he hF hf hX hR (hadv _ _ (ple_pst hle)) hv3 rfl
                    · exact absurd rfl h63
                  · exact absurd ((lk_e hsg (by decide) (by decide)).mp h37) l1
          · have := hD.psg; omega
        · exact EX _ i w τ v s' n2 l1 l2 he hF hf hX hR hval
  refine en191 rfl ?_
  refine g_p t191_0 rfl ?_
  refine r_cv t191_1 (f80 hF) rfl ?_
  refine hA _ j0 _ (by exact hF) (by exact hX) (by exact hS) (by exact e12) hL (fun s1 v1 f1 hR hv2 => ?_)
  have hF := Fx.fr (by exact hF) f1.1
  have hX := MT.fm (by exact hX) f1 (by decide) (by decide) (by decide) (by decide) (by decide)
  refine k_v ?_ rfl
  refine g_isn t191_4 (Nat.le_of_ble_eq_true rfl) (am_s1_1 rfl) ?_
  exact K 120 0 rfl _ _ v1 s1 rfl hZ hF f1 hX hR (by cases (g (.inl j0)).2 <;> first | trivial | exact Nat.zero_le _) hv2
end RA
