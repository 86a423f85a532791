/-! PLANS, 6: what was seen -/
def wsn (se : List Act) (P k c : Nat) : Bool := se.all fun t => !(t.1 == k) || (pt P c t.2.1 == t.2.2)
/-- in how many ways a row is come to at the end of the k-th day -/
noncomputable def cwy (P r w row left pd : Nat) (ask : Nat → Nat → Bool) : Nat → Nat → Nat
  | 0, a => if a = row then 1 else 0
  | k + 1, b => if ask (k + 1) b = true then sm (fun a => if dst P r w 15 a b ≤ (if k + 1 = 1 then left else pd) then cwy P r w row left pd ask k a else 0) (mn P) else 0
theorem sm_bd {f : Nat → Nat} {B : Nat} : ∀ n, (∀ i, i < n → f i ≤ B) → sm f n ≤ n * B := by
  intro n
  induction n with
  | zero => intro _; simp [sm]
  | succ n ih =>
    intro h
    have h1 := ih (fun i hi => h i (by omega))
    have h2 := h n (by omega)
    rw [sm, Nat.succ_mul]; omega
theorem ite_le' {c : Prop} [Decidable c] {x B : Nat} (h : x ≤ B) : (if c then x else 0) ≤ B := by
  split
  · exact h
  · exact Nat.zero_le _
theorem cwy_le {P r w row left pd : Nat} {ask : Nat → Nat → Bool} (hP : P ≤ 5) : ∀ k a, cwy P r w row left pd ask k a ≤ 243 ^ k := by
  intro k
  induction k with
  | zero => intro a; unfold cwy; split <;> decide
  | succ k ih =>
    intro a
    unfold cwy
    split
    · refine Nat.le_trans (sm_bd (B := 243 ^ k) _ (fun i _ => ?_)) ?_
      · exact ite_le' (ih i)
      · rw [Nat.pow_succ, Nat.mul_comm]; exact Nat.mul_le_mul_left _ (mn_le hP)
    · exact Nat.zero_le _
theorem cwy_lt {P r w row left pd : Nat} {ask : Nat → Nat → Bool} (hP : P ≤ 5) {k : Nat} (hk : k ≤ 6) (a : Nat) : cwy P r w row left pd ask k a < 2 ^ 62 :=
  Nat.lt_of_le_of_lt (cwy_le hP k a) (Nat.lt_of_le_of_lt (Nat.pow_le_pow_right (by decide) hk) (by decide))
theorem lgc0 {x : Nat} (h : x < 2 ^ 62) : lg_cmp (lN x) 0 = 0 ↔ x = 0 := by
  unfold lg_cmp
  have h0 : (0 : Int64) = lN 0 := rfl
  rw [h0]
  constructor
  · intro h2
    split at h2
    · exact absurd h2 (by decide)
    · split at h2
      · rename_i h3
        exact (pk_lEQ (by omega) (by decide)).mp h3
      · exact absurd h2 (by decide)
  · intro h2
    subst h2
    decide
/-- the same but for the ints of the cells A and all longs -/
def FI (A : List Nat) (s s' : mM) : Prop := s'.1 = s.1 ∧ s'.2.2.2 = s.2.2.2 ∧ ∀ p, p ∉ A → s'.2.1 p = s.2.1 p
theorem Fr.fi {A : List Nat} {s s' : mM} (h : Fr A s s') : FI A s s' := ⟨h.1, by rw [h.2.1], h.2.2⟩
theorem FI.tr {A : List Nat} {s s' s'' : mM} (h : FI A s s') (h2 : FI A s' s'') : FI A s s'' := ⟨h2.1.trans h.1, h2.2.1.trans h.2.1, fun p hp => (h2.2.2 p hp).trans (h.2.2 p hp)⟩
theorem FI.mono {A B : List Nat} {s s' : mM} (h : FI A s s') (hs : ∀ p ∈ A, p ∈ B) : FI B s s' := ⟨h.1, h.2.1, fun p hp => h.2.2 p (fun h3 => hp (hs p h3))⟩
theorem FI.wl {A : List Nat} {s s' : mM} {p i : Nat} {v : Int64} (h : FI A s s') : FI A s (wl s' p i v) := h
theorem FI.wg {A : List Nat} {s s' : mM} {p : Nat} {g : Nat → Int64} (h : FI A s s') : FI A s (wg s' p g) := h
/-- the new ints with the old longs -/
def lgo (s' s : mM) : mM := (s'.1, s'.2.1, s.2.2.1, s'.2.2.2)
theorem FI.fr {A : List Nat} {s s' : mM} (h : FI A s s') : Fr A s (lgo s' s) := ⟨h.1, by show (s.2.2.1, s'.2.2.2) = s.2.2; rw [h.2.1], h.2.2⟩
section PZ
variable {X : am_X} {d : Nat} {s : mM} {Q : Option Value → am_H → Prop} {P r w pd row day left a c t p n : Nat} {se : List Act} {v : Int32} {b : Bk}
theorem getD_map {α : Type} {g : α → Nat} {l : List α} {i : Nat} {z : α} (h : i < l.length) : (l.map g).getD i 0 = g (l.getD i z) := by simp [List.getD, h]
theorem all_drop {α : Type} (g : α → Bool) (z : α) {l : List α} {i : Nat} (h : i < l.length) : (l.drop i).all g = (g (l.getD i z) && (l.drop (i + 1)).all g) := by
  rw [List.drop_eq_getElem_cons h, List.all_cons]
  congr 1
  simp [List.getD, h]
theorem c48 (hF : Fx s) (hR : CR P s) (hS : CS se s) (hse : ∀ t ∈ se, t.1 ≤ 6 ∧ t.2.1 < P ∧ t.2.2 < 3) {k : Nat} (hk : k < 2 ^ 31) (hc : c < mn P) (hq : Q (some (.int (bI (wsn se P k c)))) (mR s)) : gE X (d + 2) 48 [.ref 61, .int (nI k), .int (nI c)] (mR s) Q := by
  have hP5 := hR.2.2.1
  obtain ⟨sa, sb, sc, sl⟩ := hS
  have la : (se.map fun a => a.1).length = se.length := List.length_map ..
  have lb : (se.map fun a => a.2.1).length = se.length := List.length_map ..
  have lc : (se.map fun a => a.2.2).length = se.length := List.length_map ..
  have K : ∀ j i : Nat, i + j = se.length → wsn se P k c = (se.drop i).all (fun t => !(t.1 == k) || (pt P c t.2.1 == t.2.2)) → gG X (d + 2) 48 2 [.ref 61, .int (nI k), .int (nI c), .int (nI i)] [] (mR s) Q := by
    intro j
    induction j with
    | zero =>
      intro i hj he
      have hj : i = se.length := by omega
      subst hj
      rw [List.drop_length] at he
      refine g_p t48_2 rfl ?_
      refine g_p t48_3 rfl ?_
      refine r_getr t48_4 (f61 hF) rfl rfl ?_
      refine r_cv t48_7 (f62 hF) rfl ?_
      refine c29L (by exact fN62 hF) (by exact sa) ?_
      refine k_v ?_ rfl
      refine n_cge t48_10 (by omega) (by omega) (fun h10 => ?_) (fun h10 => ?_)
      · refine g_k (n := 1) t48_60 rfl rfl ?_
        exact b_ret t48_61 (by rw [he]; rfl) hq
      · exfalso; omega
    | succ j ih =>
      intro i hj he
      have hil : i < se.length := by omega
      rw [all_drop _ (0, 0, 0) hil] at he
      have hm : se.getD i (0, 0, 0) ∈ se := by
        have e : se.getD i (0, 0, 0) = se[i] := by simp [List.getD, hil]
        rw [e]; exact List.getElem_mem hil
      obtain ⟨h6, hqP, h3⟩ := hse _ hm
      obtain ⟨t, ht⟩ : ∃ t, t = se.getD i (0, 0, 0) := ⟨_, rfl⟩
      have e1 : (se.map fun a => a.1).getD i 0 = t.1 := by rw [ht]; exact getD_map hil
      have e2 : (se.map fun a => a.2.1).getD i 0 = t.2.1 := by rw [ht]; exact getD_map hil
      have e3 : (se.map fun a => a.2.2).getD i 0 = t.2.2 := by rw [ht]; exact getD_map hil
      rw [← ht] at he h6 hqP h3
      have hpt := pt_lt P c t.2.1
      refine g_p t48_2 rfl ?_
      refine g_p t48_3 rfl ?_
      refine r_getr t48_4 (f61 hF) rfl rfl ?_
      refine r_cv t48_7 (f62 hF) rfl ?_
      refine c29L (by exact fN62 hF) (by exact sa) ?_
      refine k_v ?_ rfl
      refine n_cge t48_10 (by omega) (by omega) (fun h10 => ?_) (fun h10 => ?_)
      · exfalso; omega
      · refine g_p t48_13 rfl ?_
        refine r_getr t48_14 (f61 hF) rfl rfl ?_
        refine g_p t48_17 rfl ?_
        refine r_cv t48_18 (f62 hF) rfl ?_
        refine c30L (by exact fN62 hF) (by exact sa) (by omega) (by omega) ?_
        refine k_v ?_ rfl
        rw [e1]
        refine g_p t48_21 rfl ?_
        refine n_cne t48_22 (by omega) (by omega) (fun h22 => ?_) (fun h22 => ?_)
        · refine g_incn (n := 1) t48_54 rfl rfl (Nat.le_of_ble_eq_true rfl) (am_s1_3 rfl) ?_
          refine g_goto t48_57 ?_
          first
            | exact ih (i + 1) (by omega) (by rw [he, show (t.1 == k) = false by simpa using h22]; rfl)
            | exact ih (i + 1) (by omega) (by rw [he, show (pt P c t.2.1 == t.2.2) = true by simpa using h49, Bool.or_true, Bool.true_and])
        · refine g_p t48_25 rfl ?_
          refine r_getr t48_26 (f61 hF) rfl rfl ?_
          refine g_p t48_29 rfl ?_
          refine g_p t48_30 rfl ?_
          refine r_getr t48_31 (f61 hF) rfl rfl ?_
          refine g_p t48_34 rfl ?_
          refine r_cv t48_35 (f64 hF) rfl ?_
          refine c30L (by exact fN64 hF) (by exact sb) (by omega) (by omega) ?_
          refine k_v ?_ rfl
          rw [e2]
          refine r_cv t48_38 (f19 hF) rfl ?_
          refine c77 (by exact hF) (c5q hP5 hc hqP) (hR.2.2.2.1 c _ hc hqP) ?_
          refine k_v ?_ rfl
          refine g_p t48_41 rfl ?_
          refine r_getr t48_42 (f61 hF) rfl rfl ?_
          refine g_p t48_45 rfl ?_
          refine r_cv t48_46 (f66 hF) rfl ?_
          refine c30L (by exact fN66 hF) (by exact sc) (by omega) (by omega) ?_
          refine k_v ?_ rfl
          rw [e3]
          refine n_ceq t48_49 (by omega) (by omega) (fun h49 => ?_) (fun h49 => ?_)
          · refine g_incn (n := 1) t48_54 rfl rfl (Nat.le_of_ble_eq_true rfl) (am_s1_3 rfl) ?_
            refine g_goto t48_57 ?_
            first
              | exact ih (i + 1) (by omega) (by rw [he, show (t.1 == k) = false by simpa using h22]; rfl)
              | exact ih (i + 1) (by omega) (by rw [he, show (pt P c t.2.1 == t.2.2) = true by simpa using h49, Bool.or_true, Bool.true_and])
          · refine g_k (n := 0) t48_52 rfl rfl ?_
            exact b_ret t48_53 (by rw [he, show (t.1 == k) = true by simpa using h22, show (pt P c t.2.1 == t.2.2) = false by simpa using h49]; rfl) hq
  refine en48 rfl rfl rfl ?_
  refine g_k (n := 0) t48_0 rfl rfl ?_
  refine g_isn t48_1 (Nat.le_of_ble_eq_true rfl) (am_s1_3 rfl) ?_
  exact K se.length 0 (by omega) rfl
theorem c49 (hF : Fx s) (hR : CR P s) (hW : CW r w pd row day left s) (hr5 : r ≤ 5) (hw5 : w ≤ 5) (hQ : CQ s) (hK : KP P r w s) {g : Nat → Nat} {mv : Nat} (hmv : mv ≤ 5) (hg : ∀ a, a < mn P → rl s 74 a = lN (g a) ∧ g a < 2 ^ 62) (ht : t < mn P)
    (hq : ∀ s', Fr kA s s' → CQ s' → KP P r w s' → Q (some (.long (lN (sm (fun a => if dst P r w 15 a t ≤ mv then g a else 0) (mn P))))) (mR s')) : gE X (d + 5) 49 [.ref 61, .int (nI t), .int (nI mv)] (mR s) Q := by
  have hP5 := hR.2.2.1
  have hm := mn_le hP5
  obtain ⟨f, hfe⟩ : ∃ f, f = (fun a => if dst P r w 15 a t ≤ mv then g a else 0) := ⟨_, rfl⟩
  rw [← hfe] at hq
  have K : ∀ j x : Nat, x + j = mn P → ∀ s', Fr kA s s' → CQ s' → KP P r w s' → gG X (d + 5) 49 5 [.ref 61, .int (nI t), .int (nI mv), .long (lN (sm f x)), .float 0, .int (nI x)] [] (mR s') Q := by
    intro j
    induction j with
    | zero =>
      intro x hj s' hf hQ hK
      have hj : x = mn P := by omega
      subst hj
      have hF := hF.fr hf
      have hR := hR.fr hf (by decide)
      have hW := hW.fr hf (by decide)
      obtain ⟨e1, e2, e3, e4, e5, e6⟩ := hW
      refine g_p t49_5 rfl ?_
      refine g_p t49_7 rfl ?_
      refine r_getr t49_8 (f61 hF) rfl rfl ?_
      refine r_cv t49_11 (f19 hF) rfl ?_
      refine c76 (by exact hF) hR.2.1 ?_
      refine k_v ?_ rfl
      refine n_cge t49_14 (by omega) (by omega) (fun h14 => ?_) (fun h14 => ?_)
      · refine g_p t49_69 rfl ?_
        exact l_ret t49_70 rfl (hq _ hf hQ hK)
      · exfalso; omega
    | succ j ih =>
      intro x hj s' hf hQ hK
      have hxm : x < mn P := by omega
      have hgx := hg x hxm
      have hlx : rl s' 74 x = lN (g x) := (congrFun (congrFun (congrArg Prod.fst hf.2.1) 74) x).trans hgx.1
      have hdl := dst_le (P := P) (r := r) (w := w) (a := x) (x := t) hP5 (show 10 ≤ 15 by decide)
      have hfx : f x = if dst P r w 15 x t ≤ mv then g x else 0 := by rw [hfe]
      have hF := hF.fr hf
      have hR := hR.fr hf (by decide)
      have hW := hW.fr hf (by decide)
      obtain ⟨e1, e2, e3, e4, e5, e6⟩ := hW
      refine g_p t49_5 rfl ?_
      refine g_p t49_7 rfl ?_
      refine r_getr t49_8 (f61 hF) rfl rfl ?_
      refine r_cv t49_11 (f19 hF) rfl ?_
      refine c76 (by exact hF) hR.2.1 ?_
      refine k_v ?_ rfl
      refine n_cge t49_14 (by omega) (by omega) (fun h14 => ?_) (fun h14 => ?_)
      · exfalso; omega
      · refine g_p t49_17 rfl ?_
        refine g_p t49_19 rfl ?_
        refine r_getr t49_20 (f61 hF) rfl rfl ?_
        refine r_lenl t49_23 (f74 hF) ?_
        refine n_cge t49_24 (by omega) (by omega) (fun h24 => ?_) (fun h24 => ?_)
        · exfalso; omega
        · refine g_p t49_27 rfl ?_
          refine r_getr t49_28 (f61 hF) rfl rfl ?_
          refine g_p t49_31 rfl ?_
          refine r_lald t49_33 (f74 hF) (by decide) (by omega) ?_
          rw [hlx]
          refine g_p t49_34 rfl ?_
          refine g_p t49_35 rfl ?_
          refine g_eq t49_36 (fun h36 => ?_) (fun h36 => ?_)
          · refine g_incn (n := 1) t49_63 rfl rfl (Nat.le_of_ble_eq_true rfl) (am_s1_5 rfl) ?_
            refine g_goto t49_66 ?_
            first
              | (have h0 := (lgc0 hgx.2).mp h36
                 have e : sm f (x + 1) = sm f x := by rw [sm, hfx, h0]; split <;> rfl
                 have := ih (x + 1) (by omega) s' hf hQ hK
                 rw [e] at this
                 exact this)
              | (have e : sm f (x + 1) = sm f x := by rw [sm, hfx, if_neg (Nat.not_le.mpr h50), Nat.add_zero]
                 have := ih (x + 1) (by omega) s46 (hf.tr fr46) hQ hK
                 rw [e] at this
                 exact this)
              | (have e : sm f (x + 1) = sm f x + g x := by rw [sm, hfx, if_pos (Nat.le_of_not_lt h50)]
                 have := ih (x + 1) (by omega) s46 (hf.tr fr46) hQ hK
                 rw [e] at this
                 exact this)
          · refine g_p t49_39 rfl ?_
            refine r_getr t49_40 (f61 hF) rfl rfl ?_
            refine g_p t49_43 rfl ?_
            refine g_p t49_45 rfl ?_
            refine r_cv t49_46 (f50 hF) rfl ?_
            refine c67 (by exact hF) (by exact hR) (by exact e1) (by exact e2) hr5 hw5 (by exact hQ) (by exact hK) hxm ht (fun s46 fr46 hQ hK => ?_)
            refine k_v ?_ rfl
            have hF := Fx.fr (by exact hF) fr46
            have hR := CR.fr (by exact hR) fr46 (by decide)
            refine g_p t49_49 rfl ?_
            refine n_cgt t49_50 (by omega) (by omega) (fun h50 => ?_) (fun h50 => ?_)
            · refine g_incn (n := 1) t49_63 rfl rfl (Nat.le_of_ble_eq_true rfl) (am_s1_5 rfl) ?_
              refine g_goto t49_66 ?_
              first
                | (have h0 := (lgc0 hgx.2).mp h36
                   have e : sm f (x + 1) = sm f x := by rw [sm, hfx, h0]; split <;> rfl
                   have := ih (x + 1) (by omega) s' hf hQ hK
                   rw [e] at this
                   exact this)
                | (have e : sm f (x + 1) = sm f x := by rw [sm, hfx, if_neg (Nat.not_le.mpr h50), Nat.add_zero]
                   have := ih (x + 1) (by omega) s46 (hf.tr fr46) hQ hK
                   rw [e] at this
                   exact this)
                | (have e : sm f (x + 1) = sm f x + g x := by rw [sm, hfx, if_pos (Nat.le_of_not_lt h50)]
                   have := ih (x + 1) (by omega) s46 (hf.tr fr46) hQ hK
                   rw [e] at this
                   exact this)
            · refine g_p t49_53 rfl ?_
              refine g_p t49_54 rfl ?_
              refine r_getr t49_55 (f61 hF) rfl rfl ?_
              refine g_p t49_58 rfl ?_
              refine r_lald t49_60 (f74 hF) (by decide) (by omega) ?_
              rw [show rl s46 74 x = lN (g x) from (congrFun (congrFun (congrArg Prod.fst fr46.2.1) 74) x).trans hlx]
              refine n_ladd t49_61 ?_
              refine g_lsn t49_62 (Nat.le_of_ble_eq_true rfl) (am_s2_3 rfl) ?_
              refine g_incn (n := 1) t49_63 rfl rfl (Nat.le_of_ble_eq_true rfl) (am_s1_5 rfl) ?_
              refine g_goto t49_66 ?_
              first
                | (have h0 := (lgc0 hgx.2).mp h36
                   have e : sm f (x + 1) = sm f x := by rw [sm, hfx, h0]; split <;> rfl
                   have := ih (x + 1) (by omega) s' hf hQ hK
                   rw [e] at this
                   exact this)
                | (have e : sm f (x + 1) = sm f x := by rw [sm, hfx, if_neg (Nat.not_le.mpr h50), Nat.add_zero]
                   have := ih (x + 1) (by omega) s46 (hf.tr fr46) hQ hK
                   rw [e] at this
                   exact this)
                | (have e : sm f (x + 1) = sm f x + g x := by rw [sm, hfx, if_pos (Nat.le_of_not_lt h50)]
                   have := ih (x + 1) (by omega) s46 (hf.tr fr46) hQ hK
                   rw [e] at this
                   exact this)
  refine en49 rfl rfl rfl ?_
  refine g_p t49_0 rfl ?_
  refine g_lsn t49_1 (Nat.le_of_ble_eq_true rfl) (am_s2_3 rfl) ?_
  refine g_k (n := 0) t49_2 rfl rfl ?_
  refine g_is t49_3 (Nat.le_of_ble_eq_true rfl) (am_s1_5 rfl) ?_
  exact K (mn P) 0 (by omega) s Fr.rf hQ hK
end PZ
