/-! THE FACE, 8: the gap, reading -/
def gcd2 (P r w : Nat) (b : Bk) (a c : Nat) : Prop := std P r w a = true ∧ std P r w c = true ∧ sy P b a ≠ -1 ∧ sy P b c ≠ -1 ∧ sy P b a ≠ sy P b c
def GapV (P r w : Nat) (b : Bk) (v : Int32) : Prop := (∃ a c, gcd2 P r w b a c ∧ v = nI (dst P r w 15 a c) ∧ ∀ a' c', gcd2 P r w b a' c' → dst P r w 15 a c ≤ dst P r w 15 a' c') ∨ ((∀ a c, ¬ gcd2 P r w b a c) ∧ v = -1)
noncomputable def un (P r w : Nat) (b : Bk) (c : Nat) : Nat → Nat
  | 0 => 15
  | t + 1 => if ¬ sy P b t = -1 ∧ ¬ sy P b t = sy P b c then min (un P r w b c t) (dst P r w 15 c t) else un P r w b c t
noncomputable def gpm (P r w : Nat) (b : Bk) : Nat → Nat
  | 0 => 15
  | c + 1 => if std P r w c = true ∧ ¬ sy P b c = -1 then min (gpm P r w b c) (un P r w b c c) else gpm P r w b c
theorem un_le {P r w c : Nat} {b : Bk} (t : Nat) : un P r w b c t ≤ 15 := by
  induction t with
  | zero => exact Nat.le_refl _
  | succ t ih => unfold un; split <;> omega
theorem gpm_le {P r w : Nat} {b : Bk} (t : Nat) : gpm P r w b t ≤ 15 := by
  induction t with
  | zero => exact Nat.le_refl _
  | succ t ih => unfold gpm; split <;> omega
theorem un_low {P r w c : Nat} {b : Bk} (n : Nat) : ∀ t, t < n → ¬ sy P b t = -1 → ¬ sy P b t = sy P b c → un P r w b c n ≤ dst P r w 15 c t := by
  induction n with
  | zero => intro t h; omega
  | succ n ih =>
    intro t h h1 h2
    unfold un
    by_cases h3 : t = n
    · subst h3; rw [if_pos ⟨h1, h2⟩]; omega
    · have := ih t (by omega) h1 h2
      split <;> omega
theorem un_is {P r w c : Nat} {b : Bk} (hc : std P r w c = true) (hs : ¬ sy P b c = -1) (n : Nat) : un P r w b c n = 15 ∨ ∃ t, t < n ∧ gcd2 P r w b c t ∧ un P r w b c n = dst P r w 15 c t := by
  induction n with
  | zero => exact Or.inl rfl
  | succ n ih =>
    unfold un
    split
    · rename_i h
      rcases Nat.le_total (un P r w b c n) (dst P r w 15 c n) with h1 | h1
      · rw [Nat.min_eq_left h1]
        rcases ih with h2 | ⟨t, h2, h3⟩
        · exact Or.inl h2
        · exact Or.inr ⟨t, by omega, h3⟩
      · rw [Nat.min_eq_right h1]
        cases hn : std P r w n
        · exact Or.inl (dst_f (fun h => no_b h.2 hn))
        · exact Or.inr ⟨n, by omega, ⟨hc, hn, hs, h.1, fun e => h.2 e.symm⟩, rfl⟩
    · rcases ih with h2 | ⟨t, h2, h3⟩
      · exact Or.inl h2
      · exact Or.inr ⟨t, by omega, h3⟩
theorem gpm_low {P r w : Nat} {b : Bk} (n : Nat) : ∀ a c, a < n → c < a → gcd2 P r w b a c → gpm P r w b n ≤ dst P r w 15 a c := by
  induction n with
  | zero => intro a c h; omega
  | succ n ih =>
    intro a c h1 h2 h3
    unfold gpm
    by_cases h4 : a = n
    · subst h4
      rw [if_pos ⟨h3.1, h3.2.2.1⟩]
      have := un_low (P := P) (r := r) (w := w) (c := a) (b := b) a c h2 h3.2.2.2.1 (fun e => h3.2.2.2.2 e.symm)
      omega
    · have := ih a c (by omega) h2 h3
      split <;> omega
theorem gpm_is {P r w : Nat} {b : Bk} (n : Nat) : gpm P r w b n = 15 ∨ ∃ a c, gcd2 P r w b a c ∧ gpm P r w b n = dst P r w 15 a c := by
  induction n with
  | zero => exact Or.inl rfl
  | succ n ih =>
    unfold gpm
    split
    · rename_i h
      rcases Nat.le_total (gpm P r w b n) (un P r w b n n) with h1 | h1
      · rw [Nat.min_eq_left h1]; exact ih
      · rw [Nat.min_eq_right h1]
        rcases un_is h.1 h.2 n with h2 | ⟨t, -, h3⟩
        · exact Or.inl h2
        · exact Or.inr ⟨n, t, h3⟩
    · exact ih
theorem gcd2_ne {P r w : Nat} {b : Bk} {a c : Nat} (h : gcd2 P r w b a c) : 1 ≤ dst P r w 15 a c := by
  rw [dst_t h.1 h.2.1]
  rcases Nat.eq_zero_or_pos (ds (aj P r w (fun _ _ => true)) 15 a c) with h1 | h1
  · have h2 : ∃ n, lv (aj P r w (fun _ _ => true)) a n c := Classical.byContradiction (fun h2 => by
      rw [ds_no (fun n hn => h2 ⟨n, hn⟩)] at h1
      exact absurd h1 (by decide))
    obtain ⟨n, hn⟩ := h2
    have := (ds_yes (F := 15) hn).1
    rw [h1] at this
    have h3 : c = a := this
    subst h3
    exact absurd rfl h.2.2.2.2
  · exact h1
theorem GapV_of {P r w n m : Nat} {b : Bk} (hP : P ≤ 5) (hm : m = gpm P r w b n) (h : n = mn P ∨ m ≤ 1) : GapV P r w b (if m < 15 then nI m else -1) := by
  subst hm
  rcases gpm_is (P := P) (r := r) (w := w) (b := b) n with h1 | ⟨a, c, h1, h2⟩
  · rw [h1, if_neg (by decide)]
    refine Or.inr ⟨fun a c h2 => ?_, rfl⟩
    rw [h1] at h
    have hn : n = mn P := by rcases h with h | h <;> omega
    subst hn
    have ha := (std_t h2.1).1
    have hc := (std_t h2.2.1).1
    rcases Nat.lt_trichotomy a c with h3 | h3 | h3
    · have h4 := gpm_low (mn P) c a hc h3 ⟨h2.2.1, h2.1, h2.2.2.2.1, h2.2.2.1, fun e => h2.2.2.2.2 e.symm⟩
      have h5 := dst_10 (F := 15) hP h2.2.1 h2.1
      omega
    · subst h3; exact h2.2.2.2.2 rfl
    · have h4 := gpm_low (mn P) a c ha h3 h2
      have h5 := dst_10 (F := 15) hP h2.1 h2.2.1
      omega
  · have h5 := dst_10 (F := 15) hP h1.1 h1.2.1
    rw [h2, if_pos (by omega)]
    refine Or.inl ⟨a, c, h1, rfl, fun a' c' h3 => ?_⟩
    rcases h with h | h
    · subst h
      have ha := (std_t h3.1).1
      have hc := (std_t h3.2.1).1
      rw [← h2]
      rcases Nat.lt_trichotomy a' c' with h4 | h4 | h4
      · have := gpm_low (mn P) c' a' hc h4 ⟨h3.2.1, h3.1, h3.2.2.2.1, h3.2.2.1, fun e => h3.2.2.2.2 e.symm⟩
        have e : dst P r w 15 c' a' = dst P r w 15 a' c' := by rw [dst_t h3.2.1 h3.1, dst_t h3.1 h3.2.1]; exact ds_sym hP h3.2.1 h3.1
        omega
      · subst h4; exact absurd rfl h3.2.2.2.2
      · exact gpm_low (mn P) a' c' ha h4 h3
    · have := gcd2_ne h3
      omega
noncomputable def rds (P r w : Nat) (b : Bk) (a c : Nat) : Nat := if sy P b c = -1 then 15 else dst P r w 15 a c
theorem rds_le {P r w a c : Nat} {b : Bk} (hP : P ≤ 5) : rds P r w b a c ≤ 15 := by
  unfold rds
  split
  · exact Nat.le_refl _
  · exact dst_le hP (by decide)
/-- the nearest letter so far, and how near -/
noncomputable def rd (P r w : Nat) (b : Bk) (a : Nat) : Nat → Nat × Int32
  | 0 => (15, -1)
  | c + 1 => if rds P r w b a c < (rd P r w b a c).1 then (rds P r w b a c, sy P b c) else if rds P r w b a c = (rd P r w b a c).1 ∧ rds P r w b a c < 15 ∧ ¬ sy P b c = (rd P r w b a c).2 then ((rd P r w b a c).1, -1) else rd P r w b a c
theorem rd_le {P r w a : Nat} {b : Bk} (n : Nat) : (rd P r w b a n).1 ≤ 15 := by
  induction n with
  | zero => exact Nat.le_refl _
  | succ n ih =>
    unfold rd
    split
    · rename_i h
      exact Nat.le_of_lt (Nat.lt_of_lt_of_le h ih)
    · split
      · exact ih
      · exact ih
section FI
variable {X : am_X} {d : Nat} {s : mM} {Q : Option Value → am_H → Prop} {P r w pd row day left a c k q n p : Nat} {bp : List Nat} {x y z u : Int32} {bks : List Bk} {b : Bk}
theorem c157 (hF : Fx s) (hR : CR P s) (hW : CW r w pd row day left s) (hr5 : r ≤ 5) (hw5 : w ≤ 5) (hQ : CQ s) (hK : KP P r w s) (hp : 114 ≤ p) (qB : Bo s p) (qS : Bs P b p s) (hc : c < mn P) (hq : ∀ s', Fr kA s s' → CQ s' → KP P r w s' → Q (some (.int (nI (un P r w b c c)))) (mR s')) : gE X (d + 5) 157 [.ref 0, .ref p, .int (nI c)] (mR s) Q := by
  have hP5 := hR.2.2.1
  have hm := mn_le hP5
  have K : ∀ j t : Nat, t + j = c → ∀ s' z6, Fr kA s s' → CQ s' → KP P r w s' → gG X (d + 5) 157 13 [.ref 0, .ref p, .int (nI c), .int (sy P b c), .int (nI (un P r w b c t)), .int (nI t), z6] [] (mR s') Q := by
    intro j
    induction j with
    | zero =>
      intro t hj s' z6 hf hQ hK
      have hj : t = c := by omega
      subst hj
      refine g_p t157_13 rfl ?_
      refine g_p t157_15 rfl ?_
      refine n_cge t157_16 (by omega) (by omega) (fun h16 => ?_) (fun h16 => ?_)
      · refine g_p t157_62 rfl ?_
        exact i_ret t157_64 rfl (hq _ hf hQ hK)
      · exfalso; omega
    | succ j ih =>
      intro t hj s' z6 hf hQ hK
      have htN : t < mn P := by omega
      have hul := un_le (P := P) (r := r) (w := w) (c := c) (b := b) t
      have hdl := dst_le (P := P) (r := r) (w := w) (a := c) (x := t) hP5 (show 10 ≤ 15 by decide)
      have hF := hF.fr hf
      have hR := hR.fr hf (by decide)
      have hW := hW.fr hf (by decide)
      have hW0 := hW
      obtain ⟨e1, e2, e3, e4, e5, e6⟩ := hW
      have qB := qB.fr hf
      have qS := qS.fr hf (nin (by decide) (by omega))
      refine g_p t157_13 rfl ?_
      refine g_p t157_15 rfl ?_
      refine n_cge t157_16 (by omega) (by omega) (fun h16 => ?_) (fun h16 => ?_)
      · exfalso; omega
      · refine g_p t157_19 rfl ?_
        refine g_p t157_20 rfl ?_
        refine r_cv t157_22 qB.1 rfl ?_
        refine c10 (by exact qB) (by omega) (by exact qS t htN) ?_
        refine k_v ?_ rfl
        refine g_is t157_25 (Nat.le_of_ble_eq_true rfl) (am_s1_6 rfl) ?_
        refine g_p t157_27 rfl ?_
        refine g_p t157_29 rfl ?_
        refine g_ceq t157_30 (fun h30 => ?_) (fun h30 => ?_)
        · refine g_incn (n := 1) t157_56 rfl rfl (Nat.le_of_ble_eq_true rfl) (am_s1_5 rfl) ?_
          refine g_goto t157_59 ?_
          first
            | (have u0 := h36
               have this := ih (t + 1) (by omega) s48 (.int (sy P b t)) (hf.tr fr48) hQ hK
               unfold un at this
               rw [if_pos ⟨h30, u0⟩] at this
               exact this)
            | (have this := ih (t + 1) (by omega) s' (.int (sy P b t)) hf hQ hK
               unfold un at this
               first
                 | (have u0 := h36; rw [if_neg (fun h => h.2 u0)] at this; exact this)
                 | (have u0 := h30; rw [if_neg (fun h => h.1 u0)] at this; exact this))
        · refine g_p t157_33 rfl ?_
          refine g_p t157_35 rfl ?_
          refine g_ceq t157_36 (fun h36 => ?_) (fun h36 => ?_)
          · refine g_incn (n := 1) t157_56 rfl rfl (Nat.le_of_ble_eq_true rfl) (am_s1_5 rfl) ?_
            refine g_goto t157_59 ?_
            first
              | (have u0 := h36
                 have this := ih (t + 1) (by omega) s48 (.int (sy P b t)) (hf.tr fr48) hQ hK
                 unfold un at this
                 rw [if_pos ⟨h30, u0⟩] at this
                 exact this)
              | (have this := ih (t + 1) (by omega) s' (.int (sy P b t)) hf hQ hK
                 unfold un at this
                 first
                   | (have u0 := h36; rw [if_neg (fun h => h.2 u0)] at this; exact this)
                   | (have u0 := h30; rw [if_neg (fun h => h.1 u0)] at this; exact this))
          · refine g_p t157_39 rfl ?_
            refine g_p t157_41 rfl ?_
            refine r_getr t157_42 (f0 hF) rfl rfl ?_
            refine g_p t157_45 rfl ?_
            refine g_p t157_46 rfl ?_
            refine r_cv t157_48 (f50 hF) rfl ?_
            refine c67 (by exact hF) (by exact hR) (by exact e1) (by exact e2) hr5 hw5 (by exact hQ) (by exact hK) hc htN (fun s48 fr48 hQ hK => ?_)
            refine k_v ?_ rfl
            have hF := Fx.fr (by exact hF) fr48
            have e1 := (fr48.ri (p := 32) (i := 1) (by decide)).trans e1
            have e2 := (fr48.ri (p := 32) (i := 2) (by decide)).trans e2
            have e3 := (fr48.ri (p := 32) (i := 3) (by decide)).trans e3
            have e4 := (fr48.ri (p := 32) (i := 4) (by decide)).trans e4
            have e5 := (fr48.ri (p := 32) (i := 5) (by decide)).trans e5
            have e6 := (fr48.ri (p := 32) (i := 6) (by decide)).trans e6
            refine g_minn t157_51 (by omega) (by omega) (Nat.le_of_ble_eq_true rfl) ?_
            refine g_is t157_54 (Nat.le_of_ble_eq_true rfl) (am_s1_4 rfl) ?_
            refine g_incn (n := 1) t157_56 rfl rfl (Nat.le_of_ble_eq_true rfl) (am_s1_5 rfl) ?_
            refine g_goto t157_59 ?_
            first
              | (have u0 := h36
                 have this := ih (t + 1) (by omega) s48 (.int (sy P b t)) (hf.tr fr48) hQ hK
                 unfold un at this
                 rw [if_pos ⟨h30, u0⟩] at this
                 exact this)
              | (have this := ih (t + 1) (by omega) s' (.int (sy P b t)) hf hQ hK
                 unfold un at this
                 first
                   | (have u0 := h36; rw [if_neg (fun h => h.2 u0)] at this; exact this)
                   | (have u0 := h30; rw [if_neg (fun h => h.1 u0)] at this; exact this))
  refine en157 rfl rfl rfl ?_
  refine g_p t157_0 rfl ?_
  refine g_p t157_1 rfl ?_
  refine r_cv t157_2 qB.1 rfl ?_
  refine c10 (by exact qB) (by omega) (by exact qS c hc) ?_
  refine k_v ?_ rfl
  refine g_isn t157_5 (Nat.le_of_ble_eq_true rfl) (am_s1_3 rfl) ?_
  refine g_k (n := 15) t157_6 rfl rfl ?_
  refine g_is t157_8 (Nat.le_of_ble_eq_true rfl) (am_s1_4 rfl) ?_
  refine g_k (n := 0) t157_10 rfl rfl ?_
  refine g_is t157_11 (Nat.le_of_ble_eq_true rfl) (am_s1_5 rfl) ?_
  exact K c 0 (by omega) s _ Fr.rf hQ hK
theorem c156t (hF : Fx s) (hR : CR P s) (hW : CW r w pd row day left s) (hr5 : r ≤ 5) (hw5 : w ≤ 5) (hQ : CQ s) (hK : KP P r w s) (hB : CBk P bks bp s) (hb3 : bks.length ≤ 3) (hg : bG P bks x = some b) (hq : ∀ v s', GapV P r w b v → Fr kA s s' → CQ s' → KP P r w s' → Q (some (.int v)) (mR s')) : gE X (d + 6) 156 [.ref 0, .int x] (mR s) Q := by
  have hP5 := hR.2.2.1
  have hm := mn_le hP5
  obtain ⟨hP0, k, hk, rfl, rfl⟩ := bG_t hg (by omega)
  obtain ⟨qp, qB, qT, qS, qL⟩ := hB.2.2.1 k hk
  generalize hbb : bks.getD k nk = b at *
  generalize hpp : bp.getD k 0 = p at *
  have K : ∀ j c : Nat, c + j = mn P → ∀ s', Fr kA s s' → CQ s' → KP P r w s' → gG X (d + 6) 156 18 [.ref 0, .int (nI k), .ref p, .int (nI (gpm P r w b c)), .int (nI c)] [] (mR s') Q := by
    have FIN : ∀ m c, m = gpm P r w b c → (c = mn P ∨ m ≤ 1) → ∀ s', Fr kA s s' → CQ s' → KP P r w s' → gG X (d + 6) 156 75 [.ref 0, .int (nI k), .ref p, .int (nI m), .int (nI c)] [] (mR s') Q := by
      intro m c hm hor s' hf hQ hK
      have hml := gpm_le (P := P) (r := r) (w := w) (b := b) c
      have hv := GapV_of hP5 hm hor
      refine g_p t156_75 rfl ?_
      refine g_k (n := 15) t156_76 rfl rfl ?_
      refine n_cge t156_78 (by omega) (by omega) (fun h78 => ?_) (fun h78 => ?_)
      · refine g_p t156_85 rfl ?_
        first
          | (have u0 : 15 ≤ m := h78; rw [if_neg (by omega)] at hv; exact i_ret t156_86 rfl (hq _ s' hv hf hQ hK))
          | (have u0 : ¬ 15 ≤ m := h78; rw [if_pos (by omega)] at hv; exact i_ret t156_86 rfl (hq _ s' hv hf hQ hK))
      · refine g_p t156_81 rfl ?_
        refine g_goto t156_82 ?_
        first
          | (have u0 : 15 ≤ m := h78; rw [if_neg (by omega)] at hv; exact i_ret t156_86 rfl (hq _ s' hv hf hQ hK))
          | (have u0 : ¬ 15 ≤ m := h78; rw [if_pos (by omega)] at hv; exact i_ret t156_86 rfl (hq _ s' hv hf hQ hK))
    intro j
    induction j with
    | zero =>
      intro c hj s' hf hQ hK
      have hj : c = mn P := by omega
      subst hj
      have hF := hF.fr hf
      have hR := hR.fr hf (by decide)
      have hW := hW.fr hf (by decide)
      have hW0 := hW
      obtain ⟨e1, e2, e3, e4, e5, e6⟩ := hW
      have qB := qB.fr hf
      have qS := qS.fr hf (nin (by decide) (by omega))
      refine g_p t156_18 rfl ?_
      refine g_p t156_20 rfl ?_
      refine r_getr t156_21 (f0 hF) rfl rfl ?_
      refine r_cv t156_24 (f19 hF) rfl ?_
      refine c76 (by exact hF) hR.2.1 ?_
      refine k_v ?_ rfl
      refine n_cge t156_27 (by omega) (by omega) (fun h27 => ?_) (fun h27 => ?_)
      · exact FIN _ _ rfl (Or.inl rfl) s' hf hQ hK
      · exfalso; omega
    | succ j ih =>
      intro c hj s' hf hQ hK
      have hcN : c < mn P := by omega
      have hgl := gpm_le (P := P) (r := r) (w := w) (b := b) c
      have hul := un_le (P := P) (r := r) (w := w) (c := c) (b := b) c
      have hF := hF.fr hf
      have hR := hR.fr hf (by decide)
      have hW := hW.fr hf (by decide)
      have hW0 := hW
      obtain ⟨e1, e2, e3, e4, e5, e6⟩ := hW
      have qB := qB.fr hf
      have qS := qS.fr hf (nin (by decide) (by omega))
      refine g_p t156_18 rfl ?_
      refine g_p t156_20 rfl ?_
      refine r_getr t156_21 (f0 hF) rfl rfl ?_
      refine r_cv t156_24 (f19 hF) rfl ?_
      refine c76 (by exact hF) hR.2.1 ?_
      refine k_v ?_ rfl
      refine n_cge t156_27 (by omega) (by omega) (fun h27 => ?_) (fun h27 => ?_)
      · first
          | (exfalso; omega)
          | exact FIN _ _ rfl (Or.inr h32) s' hf hQ hK
      · refine g_p t156_30 rfl ?_
        refine g_k (n := 1) t156_31 rfl rfl ?_
        refine n_cle t156_32 (by omega) (by omega) (fun h32 => ?_) (fun h32 => ?_)
        · first
            | (exfalso; omega)
            | exact FIN _ _ rfl (Or.inr h32) s' hf hQ hK
        · refine g_p t156_35 rfl ?_
          refine r_getr t156_36 (f0 hF) rfl rfl ?_
          refine g_p t156_39 rfl ?_
          refine r_cv t156_41 (f32 hF) rfl ?_
          refine c103 (by exact hF) (by exact hR) (by omega) (by exact e1) (by exact e2) hr5 hw5 ?_
          refine k_v ?_ rfl
          refine b_eq t156_44 (fun h44 => ?_) (fun h44 => ?_)
          · refine g_incn (n := 1) t156_69 rfl rfl (Nat.le_of_ble_eq_true rfl) (am_s1_4 rfl) ?_
            refine g_goto t156_72 ?_
            first
              | (have u0 := h54
                 have u1 := h44
                 have this := ih (c + 1) (by omega) s62 (hf.tr fr62) hQ hK
                 unfold gpm at this
                 rw [if_pos ⟨u1, u0⟩] at this
                 exact this)
              | (have this := ih (c + 1) (by omega) s' hf hQ hK
                 unfold gpm at this
                 first
                   | (have u0 := h54; rw [if_neg (fun h => h.2 u0)] at this; exact this)
                   | (have u0 := h44; rw [if_neg (fun h => no_b h.1 u0)] at this; exact this))
          · refine g_p t156_47 rfl ?_
            refine g_p t156_48 rfl ?_
            refine r_cv t156_50 qB.1 rfl ?_
            refine c10 (by exact qB) (by omega) (by exact qS c hcN) ?_
            refine k_v ?_ rfl
            refine g_p t156_53 rfl ?_
            refine g_ceq t156_54 (fun h54 => ?_) (fun h54 => ?_)
            · refine g_incn (n := 1) t156_69 rfl rfl (Nat.le_of_ble_eq_true rfl) (am_s1_4 rfl) ?_
              refine g_goto t156_72 ?_
              first
                | (have u0 := h54
                   have u1 := h44
                   have this := ih (c + 1) (by omega) s62 (hf.tr fr62) hQ hK
                   unfold gpm at this
                   rw [if_pos ⟨u1, u0⟩] at this
                   exact this)
                | (have this := ih (c + 1) (by omega) s' hf hQ hK
                   unfold gpm at this
                   first
                     | (have u0 := h54; rw [if_neg (fun h => h.2 u0)] at this; exact this)
                     | (have u0 := h44; rw [if_neg (fun h => no_b h.1 u0)] at this; exact this))
            · refine g_p t156_57 rfl ?_
              refine g_p t156_58 rfl ?_
              refine g_p t156_59 rfl ?_
              refine g_p t156_60 rfl ?_
              refine r_cv t156_62 (f0 hF) rfl ?_
              refine c157 (by exact hF) (by exact hR) (by exact hW0) hr5 hw5 (by exact hQ) (by exact hK) qp (by exact qB) (by exact qS) hcN (fun s62 fr62 hQ hK => ?_)
              refine k_v ?_ rfl
              refine g_minn t156_65 (by omega) (by omega) (Nat.le_of_ble_eq_true rfl) ?_
              refine g_isn t156_68 (Nat.le_of_ble_eq_true rfl) (am_s1_3 rfl) ?_
              refine g_incn (n := 1) t156_69 rfl rfl (Nat.le_of_ble_eq_true rfl) (am_s1_4 rfl) ?_
              refine g_goto t156_72 ?_
              first
                | (have u0 := h54
                   have u1 := h44
                   have this := ih (c + 1) (by omega) s62 (hf.tr fr62) hQ hK
                   unfold gpm at this
                   rw [if_pos ⟨u1, u0⟩] at this
                   exact this)
                | (have this := ih (c + 1) (by omega) s' hf hQ hK
                   unfold gpm at this
                   first
                     | (have u0 := h54; rw [if_neg (fun h => h.2 u0)] at this; exact this)
                     | (have u0 := h44; rw [if_neg (fun h => no_b h.1 u0)] at this; exact this))
  refine en156 rfl rfl ?_
  refine g_p t156_0 rfl ?_
  refine g_p t156_1 rfl ?_
  refine r_cv t156_2 (f0 hF) rfl ?_
  refine c130t (by exact hF) (by exact hR.1) hP5 hP0 (by exact hB) hk ?_
  rw [hpp]
  refine k_v ?_ rfl
  refine g_asn t156_5 rfl (Nat.le_of_ble_eq_true rfl) (am_s1_2 rfl) ?_
  refine g_p t156_6 rfl ?_
  refine g_b (b := true) t156_7 rfl ?_
  refine g_k (n := 15) t156_12 rfl rfl ?_
  refine g_isn t156_14 (Nat.le_of_ble_eq_true rfl) (am_s1_3 rfl) ?_
  refine g_k (n := 0) t156_15 rfl rfl ?_
  refine g_is t156_16 (Nat.le_of_ble_eq_true rfl) (am_s1_4 rfl) ?_
  exact K (mn P) 0 (by omega) s Fr.rf hQ hK
theorem c156f (hF : Fx s) (hR : CR P s) (hB : CBk P bks bp s) (hb3 : bks.length ≤ 3) (hg : bG P bks x = none) (hq : Q (some (.int (-1))) (mR s)) : gE X (d + 6) 156 [.ref 0, .int x] (mR s) Q := by
  have hP5 := hR.2.2.1
  have hm := mn_le hP5
  refine en156 rfl rfl ?_
  refine g_p t156_0 rfl ?_
  refine g_p t156_1 rfl ?_
  refine r_cv t156_2 (f0 hF) rfl ?_
  refine c130f (by exact hF) (by exact hR.1) hP5 (by exact hB) (bG_f hg) ?_
  refine k_v ?_ rfl
  refine g_asn t156_5 rfl (Nat.le_of_ble_eq_true rfl) (am_s1_2 rfl) ?_
  refine g_p t156_6 rfl ?_
  refine g_b (b := false) t156_7 rfl ?_
  refine g_p t156_10 rfl ?_
  exact i_ret t156_11 rfl hq
theorem c158t (hF : Fx s) (hR : CR P s) (hW : CW r w pd row day left s) (hr5 : r ≤ 5) (hw5 : w ≤ 5) (hQ : CQ s) (hK : KP P r w s) (hB : CBk P bks bp s) (hb3 : bks.length ≤ 3) (hg : bG P bks x = some b) (ha : stO P r w y = some a) (hq : ∀ s', Fr kA s s' → CQ s' → KP P r w s' → Q (some (.int (rd P r w b a (mn P)).2)) (mR s')) : gE X (d + 5) 158 [.ref 0, .int x, .int y] (mR s) Q := by
  have hP5 := hR.2.2.1
  have hm := mn_le hP5
  obtain ⟨hP0, k, hk, rfl, rfl⟩ := bG_t hg (by omega)
  obtain ⟨qp, qB, qT, qS, qL⟩ := hB.2.2.1 k hk
  obtain ⟨ea, hsa⟩ := stO_t ha
  have haN := (std_t hsa).1
  have hW0 := hW
  generalize hbb : bks.getD k nk = b at *
  generalize hpp : bp.getD k 0 = p at *
  have K : ∀ j c : Nat, c + j = mn P → ∀ s' z8 z9, am_nl z8 = true → Fr kA s s' → CQ s' → KP P r w s' → gG X (d + 5) 158 45 [.ref 0, .int (nI k), .int y, .ref p, .int (nI a), .int (nI (rd P r w b a c).1), .int (rd P r w b a c).2, .int (nI c), z8, z9] [] (mR s') Q := by
    intro j
    induction j with
    | zero =>
      intro c hj s' z8 z9 n8 hf hQ hK
      have hj : c = mn P := by omega
      subst hj
      have hF := hF.fr hf
      have hR := hR.fr hf (by decide)
      have hW := hW.fr hf (by decide)
      have hW0 := hW
      obtain ⟨e1, e2, e3, e4, e5, e6⟩ := hW
      have qB := qB.fr hf
      have qS := qS.fr hf (nin (by decide) (by omega))
      refine g_p t158_45 rfl ?_
      refine g_p t158_47 rfl ?_
      refine r_getr t158_48 (f0 hF) rfl rfl ?_
      refine r_cv t158_51 (f19 hF) rfl ?_
      refine c76 (by exact hF) hR.2.1 ?_
      refine k_v ?_ rfl
      refine n_cge t158_54 (by omega) (by omega) (fun h54 => ?_) (fun h54 => ?_)
      · refine g_p t158_137 rfl ?_
        exact i_ret t158_139 rfl (hq _ hf hQ hK)
      · exfalso; omega
    | succ j ih =>
      intro c hj s' z8 z9 n8 hf hQ hK
      have hcN : c < mn P := by omega
      have hrl := rd_le (P := P) (r := r) (w := w) (a := a) (b := b) c
      have hsl := rds_le (r := r) (w := w) (a := a) (c := c) (b := b) hP5
      have hF := hF.fr hf
      have hR := hR.fr hf (by decide)
      have hW := hW.fr hf (by decide)
      have hW0 := hW
      obtain ⟨e1, e2, e3, e4, e5, e6⟩ := hW
      have qB := qB.fr hf
      have qS := qS.fr hf (nin (by decide) (by omega))
      have J : ∀ s', Fr kA s s' → CQ s' → KP P r w s' → gG X (d + 5) 158 87 [.ref 0, .int (nI k), .int y, .ref p, .int (nI a), .int (nI (rd P r w b a c).1), .int (rd P r w b a c).2, .int (nI c), .int (sy P b c), z9] [.int (nI (rds P r w b a c))] (mR s') Q := by
        intro s' hf hQ hK
        refine g_is t158_87 (Nat.le_of_ble_eq_true rfl) (am_s1_9 rfl) ?_
        refine g_p t158_89 rfl ?_
        refine g_p t158_91 rfl ?_
        refine n_cge t158_93 (by omega) (by omega) (fun h93 => ?_) (fun h93 => ?_)
        · refine g_p t158_107 rfl ?_
          refine g_p t158_109 rfl ?_
          refine n_cne t158_111 (by omega) (by omega) (fun h111 => ?_) (fun h111 => ?_)
          · refine g_incn (n := 1) t158_131 rfl rfl (Nat.le_of_ble_eq_true rfl) (am_s1_7 rfl) ?_
            refine g_goto t158_134 ?_
            have this := ih (c + 1) (by omega) s' (.int (sy P b c)) (.int (nI (rds P r w b a c))) rfl hf hQ hK
            unfold rd at this
            first
              | (have u0 : ¬ (rd P r w b a c).1 ≤ rds P r w b a c := h93
                 rw [if_pos (by omega)] at this
                 exact this)
              | (have u0 : (rd P r w b a c).1 ≤ rds P r w b a c := h93
                 rw [if_neg (Nat.not_lt.mpr u0)] at this
                 first
                   | (have u1 : ¬ sy P b c = (rd P r w b a c).2 := h125
                      rw [if_pos ⟨h111, Nat.lt_of_not_le h118, u1⟩] at this
                      exact this)
                   | (have u1 : sy P b c = (rd P r w b a c).2 := h125
                      rw [if_neg (fun h => h.2.2 u1)] at this
                      exact this)
                   | (have u1 : 15 ≤ rds P r w b a c := h118
                      rw [if_neg (fun h => Nat.not_le.mpr h.2.1 u1)] at this
                      exact this)
                   | (have u1 : ¬ rds P r w b a c = (rd P r w b a c).1 := h111
                      rw [if_neg (fun h => u1 h.1)] at this
                      exact this))
          · refine g_p t158_114 rfl ?_
            refine g_k (n := 15) t158_116 rfl rfl ?_
            refine n_cge t158_118 (by omega) (by omega) (fun h118 => ?_) (fun h118 => ?_)
            · refine g_incn (n := 1) t158_131 rfl rfl (Nat.le_of_ble_eq_true rfl) (am_s1_7 rfl) ?_
              refine g_goto t158_134 ?_
              have this := ih (c + 1) (by omega) s' (.int (sy P b c)) (.int (nI (rds P r w b a c))) rfl hf hQ hK
              unfold rd at this
              first
                | (have u0 : ¬ (rd P r w b a c).1 ≤ rds P r w b a c := h93
                   rw [if_pos (by omega)] at this
                   exact this)
                | (have u0 : (rd P r w b a c).1 ≤ rds P r w b a c := h93
                   rw [if_neg (Nat.not_lt.mpr u0)] at this
                   first
                     | (have u1 : ¬ sy P b c = (rd P r w b a c).2 := h125
                        rw [if_pos ⟨h111, Nat.lt_of_not_le h118, u1⟩] at this
                        exact this)
                     | (have u1 : sy P b c = (rd P r w b a c).2 := h125
                        rw [if_neg (fun h => h.2.2 u1)] at this
                        exact this)
                     | (have u1 : 15 ≤ rds P r w b a c := h118
                        rw [if_neg (fun h => Nat.not_le.mpr h.2.1 u1)] at this
                        exact this)
                     | (have u1 : ¬ rds P r w b a c = (rd P r w b a c).1 := h111
                        rw [if_neg (fun h => u1 h.1)] at this
                        exact this))
            · refine g_p t158_121 rfl ?_
              refine g_p t158_123 rfl ?_
              refine g_ceq t158_125 (fun h125 => ?_) (fun h125 => ?_)
              · refine g_incn (n := 1) t158_131 rfl rfl (Nat.le_of_ble_eq_true rfl) (am_s1_7 rfl) ?_
                refine g_goto t158_134 ?_
                have this := ih (c + 1) (by omega) s' (.int (sy P b c)) (.int (nI (rds P r w b a c))) rfl hf hQ hK
                unfold rd at this
                first
                  | (have u0 : ¬ (rd P r w b a c).1 ≤ rds P r w b a c := h93
                     rw [if_pos (by omega)] at this
                     exact this)
                  | (have u0 : (rd P r w b a c).1 ≤ rds P r w b a c := h93
                     rw [if_neg (Nat.not_lt.mpr u0)] at this
                     first
                       | (have u1 : ¬ sy P b c = (rd P r w b a c).2 := h125
                          rw [if_pos ⟨h111, Nat.lt_of_not_le h118, u1⟩] at this
                          exact this)
                       | (have u1 : sy P b c = (rd P r w b a c).2 := h125
                          rw [if_neg (fun h => h.2.2 u1)] at this
                          exact this)
                       | (have u1 : 15 ≤ rds P r w b a c := h118
                          rw [if_neg (fun h => Nat.not_le.mpr h.2.1 u1)] at this
                          exact this)
                       | (have u1 : ¬ rds P r w b a c = (rd P r w b a c).1 := h111
                          rw [if_neg (fun h => u1 h.1)] at this
                          exact this))
              · refine g_p t158_128 rfl ?_
                refine g_is t158_129 (Nat.le_of_ble_eq_true rfl) (am_s1_6 rfl) ?_
                refine g_incn (n := 1) t158_131 rfl rfl (Nat.le_of_ble_eq_true rfl) (am_s1_7 rfl) ?_
                refine g_goto t158_134 ?_
                have this := ih (c + 1) (by omega) s' (.int (sy P b c)) (.int (nI (rds P r w b a c))) rfl hf hQ hK
                unfold rd at this
                first
                  | (have u0 : ¬ (rd P r w b a c).1 ≤ rds P r w b a c := h93
                     rw [if_pos (by omega)] at this
                     exact this)
                  | (have u0 : (rd P r w b a c).1 ≤ rds P r w b a c := h93
                     rw [if_neg (Nat.not_lt.mpr u0)] at this
                     first
                       | (have u1 : ¬ sy P b c = (rd P r w b a c).2 := h125
                          rw [if_pos ⟨h111, Nat.lt_of_not_le h118, u1⟩] at this
                          exact this)
                       | (have u1 : sy P b c = (rd P r w b a c).2 := h125
                          rw [if_neg (fun h => h.2.2 u1)] at this
                          exact this)
                       | (have u1 : 15 ≤ rds P r w b a c := h118
                          rw [if_neg (fun h => Nat.not_le.mpr h.2.1 u1)] at this
                          exact this)
                       | (have u1 : ¬ rds P r w b a c = (rd P r w b a c).1 := h111
                          rw [if_neg (fun h => u1 h.1)] at this
                          exact this))
        · refine g_p t158_96 rfl ?_
          refine g_is t158_98 (Nat.le_of_ble_eq_true rfl) (am_s1_5 rfl) ?_
          refine g_p t158_100 rfl ?_
          refine g_is t158_102 (Nat.le_of_ble_eq_true rfl) (am_s1_6 rfl) ?_
          refine g_goto t158_104 ?_
          refine g_incn (n := 1) t158_131 rfl rfl (Nat.le_of_ble_eq_true rfl) (am_s1_7 rfl) ?_
          refine g_goto t158_134 ?_
          have this := ih (c + 1) (by omega) s' (.int (sy P b c)) (.int (nI (rds P r w b a c))) rfl hf hQ hK
          unfold rd at this
          first
            | (have u0 : ¬ (rd P r w b a c).1 ≤ rds P r w b a c := h93
               rw [if_pos (by omega)] at this
               exact this)
            | (have u0 : (rd P r w b a c).1 ≤ rds P r w b a c := h93
               rw [if_neg (Nat.not_lt.mpr u0)] at this
               first
                 | (have u1 : ¬ sy P b c = (rd P r w b a c).2 := h125
                    rw [if_pos ⟨h111, Nat.lt_of_not_le h118, u1⟩] at this
                    exact this)
                 | (have u1 : sy P b c = (rd P r w b a c).2 := h125
                    rw [if_neg (fun h => h.2.2 u1)] at this
                    exact this)
                 | (have u1 : 15 ≤ rds P r w b a c := h118
                    rw [if_neg (fun h => Nat.not_le.mpr h.2.1 u1)] at this
                    exact this)
                 | (have u1 : ¬ rds P r w b a c = (rd P r w b a c).1 := h111
                    rw [if_neg (fun h => u1 h.1)] at this
                    exact this))
      refine g_p t158_45 rfl ?_
      refine g_p t158_47 rfl ?_
      refine r_getr t158_48 (f0 hF) rfl rfl ?_
      refine r_cv t158_51 (f19 hF) rfl ?_
      refine c76 (by exact hF) hR.2.1 ?_
      refine k_v ?_ rfl
      refine n_cge t158_54 (by omega) (by omega) (fun h54 => ?_) (fun h54 => ?_)
      · exfalso; omega
      · refine g_p t158_57 rfl ?_
        refine g_p t158_58 rfl ?_
        refine r_cv t158_60 qB.1 rfl ?_
        refine c10 (by exact qB) (by omega) (by exact qS c hcN) ?_
        refine k_v ?_ rfl
        refine g_is t158_63 (Nat.le_of_ble_eq_true rfl) (am_s1_8 rfl) ?_
        refine g_p t158_65 rfl ?_
        refine g_p t158_67 rfl ?_
        refine g_cne t158_68 (fun h68 => ?_) (fun h68 => ?_)
        · refine g_p t158_76 rfl ?_
          refine r_getr t158_77 (f0 hF) rfl rfl ?_
          refine g_p t158_80 rfl ?_
          refine g_p t158_82 rfl ?_
          refine r_cv t158_84 (f50 hF) rfl ?_
          refine c67 (by exact hF) (by exact hR) (by exact e1) (by exact e2) hr5 hw5 (by exact hQ) (by exact hK) haN hcN (fun s84 fr84 hQ hK => ?_)
          refine k_v ?_ rfl
          have hF := Fx.fr (by exact hF) fr84
          have e1 := (fr84.ri (p := 32) (i := 1) (by decide)).trans e1
          have e2 := (fr84.ri (p := 32) (i := 2) (by decide)).trans e2
          have e3 := (fr84.ri (p := 32) (i := 3) (by decide)).trans e3
          have e4 := (fr84.ri (p := 32) (i := 4) (by decide)).trans e4
          have e5 := (fr84.ri (p := 32) (i := 5) (by decide)).trans e5
          have e6 := (fr84.ri (p := 32) (i := 6) (by decide)).trans e6
          first
            | (have u0 : sy P b c = -1 := h68
               have this := J s' hf hQ hK
               unfold rds at this
               rw [if_pos u0] at this
               exact this)
            | (have u0 : ¬ sy P b c = -1 := h68
               have this := J s84 (hf.tr fr84) hQ hK
               unfold rds at this
               rw [if_neg u0] at this
               exact this)
        · refine g_k (n := 15) t158_71 rfl rfl ?_
          refine g_goto t158_73 ?_
          first
            | (have u0 : sy P b c = -1 := h68
               have this := J s' hf hQ hK
               unfold rds at this
               rw [if_pos u0] at this
               exact this)
            | (have u0 : ¬ sy P b c = -1 := h68
               have this := J s84 (hf.tr fr84) hQ hK
               unfold rds at this
               rw [if_neg u0] at this
               exact this)
  obtain ⟨e1, e2, e3, e4, e5, e6⟩ := hW
  refine en158 rfl rfl rfl ?_
  refine g_p t158_0 rfl ?_
  refine g_p t158_1 rfl ?_
  refine r_cv t158_2 (f0 hF) rfl ?_
  refine c130t (by exact hF) (by exact hR.1) hP5 hP0 (by exact hB) hk ?_
  rw [hpp]
  refine k_v ?_ rfl
  refine g_asn t158_5 rfl (Nat.le_of_ble_eq_true rfl) (am_s1_3 rfl) ?_
  refine g_p t158_6 rfl ?_
  refine r_getr t158_7 (f0 hF) rfl rfl ?_
  refine g_p t158_10 rfl ?_
  refine r_cv t158_11 (f19 hF) rfl ?_
  refine c84 (by exact hF) (by exact hR.1) hP5 (by exact hR.2.2.2.2.1) ?_
  rw [ea]
  refine k_v ?_ rfl
  refine g_is t158_14 (Nat.le_of_ble_eq_true rfl) (am_s1_4 rfl) ?_
  refine g_p t158_16 rfl ?_
  refine g_b (b := false) t158_17 rfl ?_
  refine g_p t158_20 rfl ?_
  refine r_getr t158_21 (f0 hF) rfl rfl ?_
  refine g_p t158_24 rfl ?_
  refine r_cv t158_26 (f32 hF) rfl ?_
  refine c103 (by exact hF) (by exact hR) (by omega) (by exact e1) (by exact e2) hr5 hw5 ?_
  refine k_v ?_ rfl
  refine b_ne t158_29 (fun h29 => ?_) (fun h29 => ?_)
  · refine g_k (n := 15) t158_35 rfl rfl ?_
    refine g_is t158_37 (Nat.le_of_ble_eq_true rfl) (am_s1_5 rfl) ?_
    refine g_p t158_39 rfl ?_
    refine g_is t158_40 (Nat.le_of_ble_eq_true rfl) (am_s1_6 rfl) ?_
    refine g_k (n := 0) t158_42 rfl rfl ?_
    refine g_is t158_43 (Nat.le_of_ble_eq_true rfl) (am_s1_7 rfl) ?_
    exact K (mn P) 0 (by omega) s _ _ rfl Fr.rf hQ hK
  · exact no_b hsa h29
theorem c158f (hF : Fx s) (hR : CR P s) (hW : CW r w pd row day left s) (hr5 : r ≤ 5) (hw5 : w ≤ 5) (hQ : CQ s) (hK : KP P r w s) (hB : CBk P bks bp s) (hb3 : bks.length ≤ 3) (hno : ¬ ((bG P bks x).isSome = true ∧ (stO P r w y).isSome = true)) (hq : Q (some (.int (-1000000))) (mR s)) : gE X (d + 5) 158 [.ref 0, .int x, .int y] (mR s) Q := by
  have hP5 := hR.2.2.1
  have hm := mn_le hP5
  obtain ⟨e1, e2, e3, e4, e5, e6⟩ := hW
  cases hg : bG P bks x with
  | none =>
    refine en158 rfl rfl rfl ?_
    refine g_p t158_0 rfl ?_
    refine g_p t158_1 rfl ?_
    refine r_cv t158_2 (f0 hF) rfl ?_
    refine c130f (by exact hF) (by exact hR.1) hP5 (by exact hB) (bG_f hg) ?_
    refine k_v ?_ rfl
    refine g_asn t158_5 rfl (Nat.le_of_ble_eq_true rfl) (am_s1_3 rfl) ?_
    refine g_p t158_6 rfl ?_
    refine r_getr t158_7 (f0 hF) rfl rfl ?_
    refine g_p t158_10 rfl ?_
    refine r_cv t158_11 (f19 hF) rfl ?_
    refine c84 (by exact hF) (by exact hR.1) hP5 (by exact hR.2.2.2.2.1) ?_
    refine k_v ?_ rfl
    refine g_is t158_14 (Nat.le_of_ble_eq_true rfl) (am_s1_4 rfl) ?_
    refine g_p t158_16 rfl ?_
    refine g_b (b := true) t158_17 rfl ?_
    refine g_p t158_32 rfl ?_
    exact i_ret t158_34 rfl hq
  | some b =>
    rw [hg] at hno
    obtain ⟨hP0, k, hk, rfl, rfl⟩ := bG_t hg (by omega)
    obtain ⟨qp, qB, qT, qS, qL⟩ := hB.2.2.1 k hk
    refine en158 rfl rfl rfl ?_
    refine g_p t158_0 rfl ?_
    refine g_p t158_1 rfl ?_
    refine r_cv t158_2 (f0 hF) rfl ?_
    refine c130t (by exact hF) (by exact hR.1) hP5 hP0 (by exact hB) hk ?_
    refine k_v ?_ rfl
    refine g_asn t158_5 rfl (Nat.le_of_ble_eq_true rfl) (am_s1_3 rfl) ?_
    refine g_p t158_6 rfl ?_
    refine r_getr t158_7 (f0 hF) rfl rfl ?_
    refine g_p t158_10 rfl ?_
    refine r_cv t158_11 (f19 hF) rfl ?_
    refine c84 (by exact hF) (by exact hR.1) hP5 (by exact hR.2.2.2.2.1) ?_
    refine k_v ?_ rfl
    refine g_is t158_14 (Nat.le_of_ble_eq_true rfl) (am_s1_4 rfl) ?_
    refine g_p t158_16 rfl ?_
    refine g_b (b := false) t158_17 rfl ?_
    refine g_p t158_20 rfl ?_
    refine r_getr t158_21 (f0 hF) rfl rfl ?_
    refine g_p t158_24 rfl ?_
    refine r_cv t158_26 (f32 hF) rfl ?_
    refine c103o (by exact hF) (by exact hR) (by exact e1) (by exact e2) hr5 hw5 ?_
    refine k_v ?_ rfl
    refine b_ne t158_29 (fun h29 => ?_) (fun h29 => ?_)
    · exact absurd ⟨rfl, h29⟩ hno
    · refine g_p t158_32 rfl ?_
      exact i_ret t158_34 rfl hq
end FI
