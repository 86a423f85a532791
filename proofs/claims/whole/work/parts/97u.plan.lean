/-! PLANS: FlowerPots$Plans -/
def CS (se : List Act) (s : mM) : Prop := NL s 62 (se.map fun a => a.1) ∧ NL s 64 (se.map fun a => a.2.1) ∧ NL s 66 (se.map fun a => a.2.2) ∧ se.length ≤ 12
theorem CS.fr {A : List Nat} {se : List Act} {s s' : mM} (h : CS se s) (f : Fr A s s') (ha : ∀ p ∈ [62, 63, 64, 65, 66, 67], p ∉ A) : CS se s' :=
  ⟨h.1.fr f (ha 62 (by decide)) (ha 63 (by decide)), h.2.1.fr f (ha 64 (by decide)) (ha 65 (by decide)), h.2.2.1.fr f (ha 66 (by decide)) (ha 67 (by decide)), h.2.2.2⟩
abbrev eA : List Nat := [62, 63, 64, 65, 66, 67]
/-- the cheapest of the rows below n, from a on -/
noncomputable def onf (P r w pd : Nat) (f : Nat → Nat) (a : Nat) : Nat → Nat
  | 0 => 1000
  | b + 1 => if dst P r w 15 a b ≤ pd then min (onf P r w pd f a b) (dst P r w 15 a b + f b) else onf P r w pd f a b
theorem onf_le {P r w pd a : Nat} {f : Nat → Nat} (n : Nat) : onf P r w pd f a n ≤ 1000 := by
  induction n with
  | zero => exact Nat.le_refl _
  | succ n ih => unfold onf; split <;> omega
noncomputable def cst (P r w pd : Nat) (b : Bk) : List Nat → Nat → Nat
  | [], _ => 0
  | x :: t, a => if std P r w a = true ∧ sy P b a = nI x then (match t with
    | [] => 0
    | y :: u => onf P r w pd (cst P r w pd b (y :: u)) a (mn P)) else 1000
theorem cst_le {P r w pd a : Nat} {b : Bk} {l : List Nat} : cst P r w pd b l a ≤ 1000 := by
  cases l with
  | nil => exact Nat.zero_le _
  | cons x t =>
    unfold cst
    split
    · cases t with
      | nil => exact Nat.zero_le _
      | cons y u => exact onf_le _
    · exact Nat.le_refl _
/-- the first of the cheapest -/
noncomputable def bw (P r w row left : Nat) (f : Nat → Nat) : Nat → Option Nat × Nat
  | 0 => (none, 1000)
  | c + 1 => if dst P r w 15 row c ≤ left ∧ dst P r w 15 row c + f c < (bw P r w row left f c).2 then (some c, dst P r w 15 row c + f c) else bw P r w row left f c
theorem bw_le {P r w row left : Nat} {f : Nat → Nat} (n : Nat) : (bw P r w row left f n).2 ≤ 1000 := by
  induction n with
  | zero => exact Nat.le_refl _
  | succ n ih =>
    unfold bw
    split
    · rename_i h; exact Nat.le_of_lt (Nat.lt_of_lt_of_le h.2 ih)
    · exact ih
theorem bw_lt {P r w row left : Nat} {f : Nat → Nat} : ∀ (n c : Nat), (bw P r w row left f n).1 = some c → c < n := by
  intro n
  induction n with
  | zero => intro c h; cases h
  | succ n ih =>
    intro c h
    unfold bw at h
    split at h
    · cases h; omega
    · have := ih c h; omega
def wrd (P : Nat) (x : Int32) (z : Option Nat × Nat) : Int32 := match z.1 with
  | none => -1
  | some c => if x = 0 then nI z.2 else nI (dg P c)
section PL
variable {X : am_X} {d : Nat} {s : mM} {Q : Option Value → am_H → Prop} {P r w pd row day left a c t p p2 n2 : Nat} {se : List Act} {v : Int32} {b : Bk} {l : List Nat}
theorem c38 (hF : Fx s) (hS : CS se s) (hq : ∀ s', Fr eA s s' → CS [] s' → Q none (mR s')) : gE X (d + 1) 38 [.ref 61] (mR s) Q := by
  obtain ⟨sa, sb, sc, sl⟩ := hS
  have la : (se.map fun a => a.1).length = se.length := List.length_map ..
  have lb : (se.map fun a => a.2.1).length = se.length := List.length_map ..
  have lc : (se.map fun a => a.2.2).length = se.length := List.length_map ..
  refine en38 rfl ?_
  refine g_p t38_0 rfl ?_
  refine r_getr t38_1 (f61 hF) rfl rfl ?_
  refine g_k (n := 0) t38_4 rfl rfl ?_
  refine r_cv t38_5 (f62 hF) rfl ?_
  refine c34L (by exact fN62 hF) (by exact sa) (by omega) (by omega) (fun s5 fr5 sa => ?_)
  refine k_0 ?_
  have hF := Fx.fr (by exact hF) fr5
  have sb := NL.fr (p := 64) (by exact sb) fr5 (by decide) (by decide)
  have sc := NL.fr (p := 66) (by exact sc) fr5 (by decide) (by decide)
  refine g_p t38_8 rfl ?_
  refine r_getr t38_9 (f61 hF) rfl rfl ?_
  refine g_k (n := 0) t38_12 rfl rfl ?_
  refine r_cv t38_13 (f64 hF) rfl ?_
  refine c34L (by exact fN64 hF) (by exact sb) (by omega) (by omega) (fun s13 fr13 sb => ?_)
  refine k_0 ?_
  have hF := Fx.fr (by exact hF) fr13
  have sa := NL.fr (p := 62) (by exact sa) fr13 (by decide) (by decide)
  have sc := NL.fr (p := 66) (by exact sc) fr13 (by decide) (by decide)
  refine g_p t38_16 rfl ?_
  refine r_getr t38_17 (f61 hF) rfl rfl ?_
  refine g_k (n := 0) t38_20 rfl rfl ?_
  refine r_cv t38_21 (f66 hF) rfl ?_
  refine c34L (by exact fN66 hF) (by exact sc) (by omega) (by omega) (fun s21 fr21 sc => ?_)
  refine k_0 ?_
  have hF := Fx.fr (by exact hF) fr21
  have sa := NL.fr (p := 62) (by exact sa) fr21 (by decide) (by decide)
  have sb := NL.fr (p := 64) (by exact sb) fr21 (by decide) (by decide)
  exact v_ret t38_24 (hq _ ((fr5.mono (by decide)).tr ((fr13.mono (by decide)).tr (fr21.mono (by decide)))) ⟨sa, sb, sc, Nat.zero_le _⟩)
theorem c39 (hF : Fx s) (hS : CS se s) (hq : Q (some (.int (nI se.length))) (mR s)) : gE X (d + 1) 39 [.ref 61] (mR s) Q := by
  have sa := hS.1
  refine en39 rfl ?_
  refine g_p t39_0 rfl ?_
  refine r_getr t39_1 (f61 hF) rfl rfl ?_
  refine r_cv t39_4 (f62 hF) rfl ?_
  refine c29L (by exact fN62 hF) (by exact sa) ?_
  refine k_v ?_ rfl
  exact i_ret t39_7 (by rw [List.length_map]) hq
theorem c40 (hF : Fx s) (hS : CS se s) (hl : se.length < 12) {x y z : Nat} (hq : ∀ s', Fr eA s s' → CS (se ++ [(x, y, z)]) s' → Q (some (.int (nI (se.length + 1)))) (mR s')) : gE X (d + 1) 40 [.ref 61, .int (nI x), .int (nI y), .int (nI z)] (mR s) Q := by
  obtain ⟨sa, sb, sc, sl⟩ := hS
  have la : (se.map fun a => a.1).length = se.length := List.length_map ..
  have lb : (se.map fun a => a.2.1).length = se.length := List.length_map ..
  have lc : (se.map fun a => a.2.2).length = se.length := List.length_map ..
  refine en40 rfl rfl rfl rfl ?_
  refine g_p t40_0 rfl ?_
  refine r_getr t40_1 (f61 hF) rfl rfl ?_
  refine g_p t40_4 rfl ?_
  refine r_cv t40_5 (f62 hF) rfl ?_
  refine c33L (by exact fN62 hF) (by exact sa) (by omega) (fun s5 fr5 sa => ?_)
  refine k_v ?_ rfl
  have hF := Fx.fr (by exact hF) fr5
  have sb := NL.fr (p := 64) (by exact sb) fr5 (by decide) (by decide)
  have sc := NL.fr (p := 66) (by exact sc) fr5 (by decide) (by decide)
  refine b_ne t40_8 (fun h8 => ?_) (fun h8 => ?_)
  · refine g_p t40_13 rfl ?_
    refine r_getr t40_14 (f61 hF) rfl rfl ?_
    refine g_p t40_17 rfl ?_
    refine r_cv t40_18 (f64 hF) rfl ?_
    refine c33L (by exact fN64 hF) (by exact sb) (by omega) (fun s18 fr18 sb => ?_)
    refine k_v ?_ rfl
    have hF := Fx.fr (by exact hF) fr18
    have sa := NL.fr (p := 62) (by exact sa) fr18 (by decide) (by decide)
    have sc := NL.fr (p := 66) (by exact sc) fr18 (by decide) (by decide)
    refine g_p t40_21 rfl ?_
    refine g_p t40_22 rfl ?_
    refine r_getr t40_23 (f61 hF) rfl rfl ?_
    refine g_p t40_26 rfl ?_
    refine r_cv t40_27 (f66 hF) rfl ?_
    refine c33L (by exact fN66 hF) (by exact sc) (by omega) (fun s27 fr27 sc => ?_)
    refine k_v ?_ rfl
    have hF := Fx.fr (by exact hF) fr27
    have sa := NL.fr (p := 62) (by exact sa) fr27 (by decide) (by decide)
    have sb := NL.fr (p := 64) (by exact sb) fr27 (by decide) (by decide)
    refine g_p t40_30 rfl ?_
    refine g_p t40_31 rfl ?_
    refine r_getr t40_32 (f61 hF) rfl rfl ?_
    refine r_cv t40_35 (f62 hF) rfl ?_
    refine c29L (by exact fN62 hF) (by exact sa) ?_
    refine k_v ?_ rfl
    refine i_ret t40_38 (by rw [List.length_append, la]; rfl) (hq _ ((fr5.mono (by decide)).tr ((fr18.mono (by decide)).tr (fr27.mono (by decide)))) ⟨?_, ?_, ?_, by rw [List.length_append]; exact hl⟩)
    · rw [List.map_append]; exact sa
    · rw [List.map_append]; exact sb
    · rw [List.map_append]; exact sc
  · cases h8
theorem c40f (hF : Fx s) (hS : CS se s) (hl : 12 ≤ se.length) {x y z : Int32} (hq : Q (some (.int (-1))) (mR s)) : gE X (d + 1) 40 [.ref 61, .int x, .int y, .int z] (mR s) Q := by
  obtain ⟨sa, sb, sc, sl⟩ := hS
  have la : (se.map fun a => a.1).length = se.length := List.length_map ..
  have lb : (se.map fun a => a.2.1).length = se.length := List.length_map ..
  have lc : (se.map fun a => a.2.2).length = se.length := List.length_map ..
  refine en40 rfl rfl rfl rfl ?_
  refine g_p t40_0 rfl ?_
  refine r_getr t40_1 (f61 hF) rfl rfl ?_
  refine g_p t40_4 rfl ?_
  refine r_cv t40_5 (f62 hF) rfl ?_
  refine c33Lf (by exact fN62 hF) (by exact sa) (by omega) (by omega) ?_
  refine k_v ?_ rfl
  refine b_ne t40_8 (fun h8 => ?_) (fun h8 => ?_)
  · exact absurd h8 (by decide)
  · refine g_p t40_11 rfl ?_
    exact i_ret t40_12 rfl hq
theorem c41 (hF : Fx s) {k : Nat} (hk : k < 2 ^ 31) (e3 : ri s 32 3 = nI pd) (e6 : ri s 32 6 = nI left) (hq : Q (some (.int (nI (if k = 1 then left else pd)))) (mR s)) : gE X (d + 1) 41 [.ref 61, .int (nI k)] (mR s) Q := by
  refine en41 rfl rfl ?_
  refine g_p t41_0 rfl ?_
  refine g_k (n := 1) t41_1 rfl rfl ?_
  refine n_cne t41_2 (by omega) (by omega) (fun h2 => ?_) (fun h2 => ?_)
  · refine g_p t41_15 rfl ?_
    refine r_getr t41_16 (f61 hF) rfl rfl ?_
    refine r_cv t41_19 (f32 hF) rfl ?_
    refine c99 (by exact hF) e3 ?_
    refine k_v ?_ rfl
    exact i_ret t41_22 (by first | (rw [if_pos h2]) | (rw [if_neg h2])) hq
  · refine g_p t41_5 rfl ?_
    refine r_getr t41_6 (f61 hF) rfl rfl ?_
    refine r_cv t41_9 (f32 hF) rfl ?_
    refine c98 (by exact hF) e6 ?_
    refine k_v ?_ rfl
    refine g_goto t41_12 ?_
    exact i_ret t41_22 (by first | (rw [if_pos h2]) | (rw [if_neg h2])) hq
theorem c43 (hF : Fx s) (hR : CR P s) (hW : CW r w pd row day left s) (hr5 : r ≤ 5) (hw5 : w ≤ 5) (hd5 : pd ≤ 5) (hQ : CQ s) (hK : KP P r w s) (ha : a < mn P) {f : Nat → Nat} (hf5 : ∀ x, x < mn P → ri s 69 x = nI (f x) ∧ f x ≤ 1000)
    (hq : ∀ s', Fr kA s s' → CQ s' → KP P r w s' → Q (some (.int (nI (onf P r w pd f a (mn P))))) (mR s')) : gE X (d + 5) 43 [.ref 61, .int (nI a)] (mR s) Q := by
  have hP5 := hR.2.2.1
  have hm := mn_le hP5
  have K : ∀ j x : Nat, x + j = mn P → ∀ s' z4, Fr kA s s' → CQ s' → KP P r w s' → gG X (d + 5) 43 6 [.ref 61, .int (nI a), .int (nI (onf P r w pd f a x)), .int (nI x), z4] [] (mR s') Q := by
    intro j
    induction j with
    | zero =>
      intro x hj s' z4 hf hQ hK
      have hj : x = mn P := by omega
      subst hj
      have hF := hF.fr hf
      have hR := hR.fr hf (by decide)
      have hW := hW.fr hf (by decide)
      obtain ⟨e1, e2, e3, e4, e5, e6⟩ := hW
      refine g_p t43_6 rfl ?_
      refine g_p t43_7 rfl ?_
      refine r_getr t43_8 (f61 hF) rfl rfl ?_
      refine r_cv t43_11 (f19 hF) rfl ?_
      refine c76 (by exact hF) hR.2.1 ?_
      refine k_v ?_ rfl
      refine n_cge t43_14 (by omega) (by omega) (fun h14 => ?_) (fun h14 => ?_)
      · refine g_p t43_74 rfl ?_
        exact i_ret t43_75 rfl (hq _ hf hQ hK)
      · exfalso; omega
    | succ j ih =>
      intro x hj s' z4 hf hQ hK
      have hxm : x < mn P := by omega
      have hfx := hf5 x hxm
      have hfd := (hf.ri (p := 69) (i := x) (by decide)).trans hfx.1
      have hol := onf_le (P := P) (r := r) (w := w) (pd := pd) (a := a) (f := f) x
      have hdl := dst_le (P := P) (r := r) (w := w) (a := a) (x := x) hP5 (show 10 ≤ 15 by decide)
      have hF := hF.fr hf
      have hR := hR.fr hf (by decide)
      have hW := hW.fr hf (by decide)
      obtain ⟨e1, e2, e3, e4, e5, e6⟩ := hW
      refine g_p t43_6 rfl ?_
      refine g_p t43_7 rfl ?_
      refine r_getr t43_8 (f61 hF) rfl rfl ?_
      refine r_cv t43_11 (f19 hF) rfl ?_
      refine c76 (by exact hF) hR.2.1 ?_
      refine k_v ?_ rfl
      refine n_cge t43_14 (by omega) (by omega) (fun h14 => ?_) (fun h14 => ?_)
      · exfalso; omega
      · refine g_p t43_17 rfl ?_
        refine r_getr t43_18 (f61 hF) rfl rfl ?_
        refine g_p t43_21 rfl ?_
        refine r_cv t43_22 (f68 hF) rfl ?_
        refine c30e (by exact fN68 hF) (by omega) hfd ?_
        refine k_v ?_ rfl
        refine g_p t43_25 rfl ?_
        refine n_cge t43_26 (by omega) (by omega) (fun h26 => ?_) (fun h26 => ?_)
        · refine g_incn (n := 1) t43_68 rfl rfl (Nat.le_of_ble_eq_true rfl) (am_s1_3 rfl) ?_
          refine g_goto t43_71 ?_
          first
            | (have := ih (x + 1) (by omega) s' z4 hf hQ hK
               unfold onf at this
               split at this
               · rw [Nat.min_eq_left (by omega)] at this; exact this
               · exact this)
            | (have := ih (x + 1) (by omega) s35 (.int (nI (dst P r w 15 a x))) (hf.tr fr35) hQ hK
               unfold onf at this
               first
                 | (rw [if_neg (by omega)] at this; exact this)
                 | (rw [if_pos (by omega)] at this; exact this))
        · refine g_p t43_29 rfl ?_
          refine r_getr t43_30 (f61 hF) rfl rfl ?_
          refine g_p t43_33 rfl ?_
          refine g_p t43_34 rfl ?_
          refine r_cv t43_35 (f50 hF) rfl ?_
          refine c67 (by exact hF) (by exact hR) (by exact e1) (by exact e2) hr5 hw5 (by exact hQ) (by exact hK) ha hxm (fun s35 fr35 hQ hK => ?_)
          refine k_v ?_ rfl
          have hF := Fx.fr (by exact hF) fr35
          have e1 := (fr35.ri (p := 32) (i := 1) (by decide)).trans e1
          have e2 := (fr35.ri (p := 32) (i := 2) (by decide)).trans e2
          have e3 := (fr35.ri (p := 32) (i := 3) (by decide)).trans e3
          have e4 := (fr35.ri (p := 32) (i := 4) (by decide)).trans e4
          have e5 := (fr35.ri (p := 32) (i := 5) (by decide)).trans e5
          have e6 := (fr35.ri (p := 32) (i := 6) (by decide)).trans e6
          have hR := CR.fr (by exact hR) fr35 (by decide)
          refine g_is t43_38 (Nat.le_of_ble_eq_true rfl) (am_s1_4 rfl) ?_
          refine g_p t43_40 rfl ?_
          refine g_p t43_42 rfl ?_
          refine r_getr t43_43 (f61 hF) rfl rfl ?_
          refine r_cv t43_46 (f32 hF) rfl ?_
          refine c99 (by exact hF) e3 ?_
          refine k_v ?_ rfl
          refine n_cgt t43_49 (by omega) (by omega) (fun h49 => ?_) (fun h49 => ?_)
          · refine g_incn (n := 1) t43_68 rfl rfl (Nat.le_of_ble_eq_true rfl) (am_s1_3 rfl) ?_
            refine g_goto t43_71 ?_
            first
              | (have := ih (x + 1) (by omega) s' z4 hf hQ hK
                 unfold onf at this
                 split at this
                 · rw [Nat.min_eq_left (by omega)] at this; exact this
                 · exact this)
              | (have := ih (x + 1) (by omega) s35 (.int (nI (dst P r w 15 a x))) (hf.tr fr35) hQ hK
                 unfold onf at this
                 first
                   | (rw [if_neg (by omega)] at this; exact this)
                   | (rw [if_pos (by omega)] at this; exact this))
          · refine g_p t43_52 rfl ?_
            refine g_p t43_53 rfl ?_
            refine g_p t43_55 rfl ?_
            refine r_getr t43_56 (f61 hF) rfl rfl ?_
            refine g_p t43_59 rfl ?_
            refine r_cv t43_60 (f68 hF) rfl ?_
            refine c30e (by exact fN68 hF) (by omega) ((fr35.ri (p := 69) (i := x) (by decide)).trans hfd) ?_
            refine k_v ?_ rfl
            refine g_addn t43_63 ?_
            refine g_minn t43_64 (by omega) (by omega) (Nat.le_of_ble_eq_true rfl) ?_
            refine g_isn t43_67 (Nat.le_of_ble_eq_true rfl) (am_s1_2 rfl) ?_
            refine g_incn (n := 1) t43_68 rfl rfl (Nat.le_of_ble_eq_true rfl) (am_s1_3 rfl) ?_
            refine g_goto t43_71 ?_
            first
              | (have := ih (x + 1) (by omega) s' z4 hf hQ hK
                 unfold onf at this
                 split at this
                 · rw [Nat.min_eq_left (by omega)] at this; exact this
                 · exact this)
              | (have := ih (x + 1) (by omega) s35 (.int (nI (dst P r w 15 a x))) (hf.tr fr35) hQ hK
                 unfold onf at this
                 first
                   | (rw [if_neg (by omega)] at this; exact this)
                   | (rw [if_pos (by omega)] at this; exact this))
  refine en43 rfl rfl ?_
  refine g_k (n := 1000) t43_0 rfl rfl ?_
  refine g_isn t43_3 (Nat.le_of_ble_eq_true rfl) (am_s1_2 rfl) ?_
  refine g_k (n := 0) t43_4 rfl rfl ?_
  refine g_isn t43_5 (Nat.le_of_ble_eq_true rfl) (am_s1_3 rfl) ?_
  exact K (mn P) 0 (by omega) s (.float 0) Fr.rf hQ hK
end PL
