/-! THE WINDOW, 2 -/
section LN
variable {X : am_X} {d y pc nx m n : Nat} {ls st : List Value} {hp : am_H} {Q : Option Value → am_H → Prop} {r : List Nat} {k : Value}
theorem n_ladd (t : am_T y pc = some (0, .ladd, nx, r, k)) (g : gG X d y nx ls (.long (lN (m + n)) :: st) hp Q) : gG X d y pc ls (.long (lN n) :: .long (lN m) :: st) hp Q := g_ladd t (by rw [lN_add]; exact g)
theorem n_lmul (t : am_T y pc = some (0, .lmul, nx, r, k)) (g : gG X d y nx ls (.long (lN (m * n)) :: st) hp Q) : gG X d y pc ls (.long (lN n) :: .long (lN m) :: st) hp Q := g_lmul t (by rw [lN_mul]; exact g)
theorem n_lrem (t : am_T y pc = some (0, .lrem, nx, r, k)) (ha : m < 2 ^ 63) (h0 : 0 < n) (hb : n < 2 ^ 63) (g : gG X d y nx ls (.long (lN (m % n)) :: st) hp Q) : gG X d y pc ls (.long (lN n) :: .long (lN m) :: st) hp Q := g_lrem t (fun h => by
  have := (pk_lEQ hb (show 0 < 2 ^ 63 by decide)).mp (h.trans rfl)
  omega) (by rw [pk_lRem ha h0 hb]; exact g)
theorem n_i2l (t : am_T y pc = some (0, .i2l, nx, r, k)) (h : n < 2 ^ 31) (g : gG X d y nx ls (.long (lN n) :: st) hp Q) : gG X d y pc ls (.int (nI n) :: st) hp Q := g_p t rfl (by rw [nI_l h]; exact g)
theorem n_l2i (t : am_T y pc = some (0, .l2i, nx, r, k)) (g : gG X d y nx ls (.int (nI n) :: st) hp Q) : gG X d y pc ls (.long (lN n) :: st) hp Q := g_p t rfl (by rw [lN_i]; exact g)
end LN
/-- those of the first k that p holds of -/
def flt (p : Nat → Bool) (l : List Nat) : Nat → List Nat
  | 0 => []
  | k + 1 => flt p l k ++ (if p (l.getD k 0) = true then [l.getD k 0] else [])
theorem flt_cons {p : Nat → Bool} {x : Nat} {l : List Nat} (k : Nat) : flt p (x :: l) (k + 1) = (if p x = true then [x] else []) ++ flt p l k := by
  induction k with
  | zero => simp [flt]
  | succ k ih => rw [flt, ih, flt, List.append_assoc]; rfl
theorem flt_all {p : Nat → Bool} : ∀ {l : List Nat}, flt p l l.length = l.filter p := by
  intro l
  induction l with
  | nil => rfl
  | cons x t ih =>
    rw [List.length_cons, flt_cons, ih, List.filter_cons]
    split <;> simp
theorem flt_pre {p : Nat → Bool} {l : List Nat} : ∀ {m k : Nat}, k ≤ m → ∃ t, flt p l m = flt p l k ++ t := by
  intro m
  induction m with
  | zero => intro k h; exact ⟨[], by rw [show k = 0 by omega]; simp⟩
  | succ m ih =>
    intro k h
    by_cases h2 : k = m + 1
    · exact ⟨[], by rw [h2]; simp⟩
    · obtain ⟨t, ht⟩ := ih (k := k) (by omega)
      exact ⟨t ++ (if p (l.getD m 0) = true then [l.getD m 0] else []), by rw [flt, ht, List.append_assoc]⟩
theorem flt_len {p : Nat → Bool} {l : List Nat} (k : Nat) : (flt p l k).length ≤ k := by
  induction k with
  | zero => exact Nat.le_refl _
  | succ k ih => rw [flt, List.length_append]; split <;> simp only [List.length_cons, List.length_nil] <;> omega
/-- the one that is next in the whole -/
theorem flt_at {p : Nat → Bool} {l : List Nat} {k : Nat} (hk : k < l.length) (hp : p (l.getD k 0) = true) : (l.filter p).getD (flt p l k).length 0 = l.getD k 0 := by
  obtain ⟨t, ht⟩ := flt_pre (p := p) (l := l) (m := l.length) (k := k + 1) (by omega)
  rw [flt_all, flt, if_pos hp] at ht
  rw [ht, List.append_assoc, List.getD, List.getElem?_append_right (Nat.le_refl _), Nat.sub_self]
  rfl
theorem flt_lt {p : Nat → Bool} {l : List Nat} {k : Nat} (hk : k < l.length) (hp : p (l.getD k 0) = true) : (flt p l k).length < (l.filter p).length := by
  obtain ⟨t, ht⟩ := flt_pre (p := p) (l := l) (m := l.length) (k := k + 1) (by omega)
  rw [flt_all, flt, if_pos hp] at ht
  rw [ht]; simp only [List.length_append, List.length_cons, List.length_nil]; omega
/-- the standing neighbors, rising -/
def sn (P r w c : Nat) : List Nat := (nb P c).filter (std P r w)
def drw (P r w row D : Nat) : Nat := if D % ((sn P r w row).length + 1) = 0 then row else (sn P r w row).getD (D % ((sn P r w row).length + 1) - 1) 0
theorem nbD {P c k : Nat} (hP : P ≤ 5) (hc : c < mn P) (hk : k < (nb P c).length) : (nb P c).getD k 0 < mn P := by
  rw [gD_lt hk]
  exact (en_1 hP hc (nb_mem.mp (List.getElem_mem hk))).1
abbrev wA : List Nat := 32 :: aA
section WJ
variable {X : am_X} {d : Nat} {s : mM} {Q : Option Value → am_H → Prop} {P r w pd row day left : Nat} {acts : List Act} {di : Nat → Nat} {a : Int32}
theorem c104 (hF : Fx s) (hA : CA acts s) (hW : CW r w pd row day left s) (hl : 0 < left) {c : Nat} (hq : ∀ s', Fr wA s s' → CA (act60 acts (row, day, left)) s' → CW r w pd c day (left - 1) s' → Q none (mR s')) : gE X (d + 2) 104 [.ref 32, .int (nI c)] (mR s) Q := by
  obtain ⟨e1, e2, e3, e4, e5, e6⟩ := hW
  refine en104 rfl rfl ?_
  refine g_p t104_0 rfl ?_
  refine r_cv t104_1 (f32 hF) rfl ?_
  refine c111 (by exact hF) (by exact hA) (by exact e4) (by exact e5) (by exact e6) (fun s1 fr1 hA => ?_)
  refine k_0 ?_
  have hF := Fx.fr (by exact hF) fr1
  have e1 := (fr1.ri (p := 32) (i := 1) (by decide)).trans e1
  have e2 := (fr1.ri (p := 32) (i := 2) (by decide)).trans e2
  have e3 := (fr1.ri (p := 32) (i := 3) (by decide)).trans e3
  have e4 := (fr1.ri (p := 32) (i := 4) (by decide)).trans e4
  have e5 := (fr1.ri (p := 32) (i := 5) (by decide)).trans e5
  have e6 := (fr1.ri (p := 32) (i := 6) (by decide)).trans e6
  refine g_p t104_4 rfl ?_
  refine g_p t104_5 rfl ?_
  refine r_puti t104_6 (f32 hF) rfl rfl ?_
  refine g_p t104_9 rfl ?_
  refine g_p t104_10 rfl ?_
  refine r_gete t104_11 (f32 hF) rfl rfl e6 ?_
  refine g_k (n := 1) t104_14 rfl rfl ?_
  refine g_subn t104_15 (by omega) ?_
  refine r_puti t104_16 (f32 hF) rfl rfl ?_
  exact v_ret t104_19 (hq _ (((fr1.mono (by decide)).wi (by simp)).wi (by simp)) hA ⟨e1, e2, e3, rfl, e5, rfl⟩)
theorem c106 (hF : Fx s) (hA : CA acts s) (hW : CW r w pd row day left s) (hD : CD 34 day di s) (hd : day < 60) (hq : ∀ s', Fr (34 :: wA) s s' → CA (act60 acts (row, day, left)) s' → CW r w pd row (day + 1) pd s' → CD 34 (day + 1) (fun k => if k = day then row else di k) s' → Q none (mR s')) : gE X (d + 2) 106 [.ref 32] (mR s) Q := by
  obtain ⟨e1, e2, e3, e4, e5, e6⟩ := hW
  refine en106 rfl ?_
  refine g_p t106_0 rfl ?_
  refine r_cv t106_1 (f32 hF) rfl ?_
  refine c111 (by exact hF) (by exact hA) (by exact e4) (by exact e5) (by exact e6) (fun s1 fr1 hA => ?_)
  refine k_0 ?_
  have hF := Fx.fr (by exact hF) fr1
  have e1 := (fr1.ri (p := 32) (i := 1) (by decide)).trans e1
  have e2 := (fr1.ri (p := 32) (i := 2) (by decide)).trans e2
  have e3 := (fr1.ri (p := 32) (i := 3) (by decide)).trans e3
  have e4 := (fr1.ri (p := 32) (i := 4) (by decide)).trans e4
  have e5 := (fr1.ri (p := 32) (i := 5) (by decide)).trans e5
  have e6 := (fr1.ri (p := 32) (i := 6) (by decide)).trans e6
  have hD := CD.fr (by exact hD) fr1 (by decide)
  refine g_p t106_4 rfl ?_
  refine r_getr t106_5 (f32 hF) rfl rfl ?_
  refine g_p t106_8 rfl ?_
  refine r_gete t106_9 (f32 hF) rfl rfl e5 ?_
  refine g_p t106_12 rfl ?_
  refine r_gete t106_13 (f32 hF) rfl rfl e4 ?_
  refine r_cv t106_16 (f33 hF) rfl ?_
  refine c31 (by exact fN33 hF) (by omega) ?_
  refine k_0 ?_
  refine g_p t106_19 rfl ?_
  refine g_p t106_20 rfl ?_
  refine r_gete t106_21 (f32 hF) rfl rfl e5 ?_
  refine g_k (n := 1) t106_24 rfl rfl ?_
  refine g_addn t106_25 ?_
  refine r_puti t106_26 (f32 hF) rfl rfl ?_
  refine g_p t106_29 rfl ?_
  refine g_p t106_30 rfl ?_
  refine r_gete t106_31 (f32 hF) rfl rfl e3 ?_
  refine r_puti t106_34 (f32 hF) rfl rfl ?_
  refine v_ret t106_37 (hq _ ((((fr1.mono (by decide)).wi (by simp)).wi (by simp)).wi (by simp)) hA ⟨e1, e2, e3, e4, rfl, rfl⟩ (fun k hk => ?_))
  show ri (wi s1 34 day (nI row)) 34 k = nI (if k = day then row else di k)
  by_cases h : k = day
  · subst h; rw [ri_wi_eq, if_pos rfl]
  · rw [ri_wi_j h, if_neg h]; exact hD k (by omega)
theorem c112f (hF : Fx s) (hA : CA [] s) (hq : Q (some (.int (-1))) (mR s)) : gE X (d + 1) 112 [.ref 32] (mR s) Q := by
  have ha := hA.1
  refine en112 rfl ?_
  refine g_p t112_0 rfl ?_
  refine r_getr t112_1 (f32 hF) rfl rfl ?_
  refine r_cv t112_4 (f35 hF) rfl ?_
  refine c29L (by exact fN35 hF) (by exact ha) ?_
  refine k_v ?_ rfl
  refine g_k (n := 1) t112_7 rfl rfl ?_
  refine g_isub t112_8 ?_
  refine g_isn t112_9 (Nat.le_of_ble_eq_true rfl) (am_s1_1 rfl) ?_
  refine g_p t112_10 rfl ?_
  refine g_ge t112_11 (fun h11 => ?_) (fun h11 => ?_)
  · exact absurd h11 (by decide)
  · refine g_p t112_14 rfl ?_
    exact i_ret t112_15 rfl hq
theorem c112 (hF : Fx s) (hA : CA (acts ++ [(row, day, left)]) s) {row0 day0 left0 : Nat} (hW : CW r w pd row0 day0 left0 s) (hq : ∀ s', Fr wA s s' → CA acts s' → CW r w pd row day left s' → Q (some (.int (nI acts.length))) (mR s')) : gE X (d + 1) 112 [.ref 32] (mR s) Q := by
  obtain ⟨e1, e2, e3, e4, e5, e6⟩ := hW
  obtain ⟨ha, hb, hc, hl⟩ := hA
  simp only [List.map_append, List.map_cons, List.map_nil] at ha hb hc
  have la : (acts.map fun a => a.1).length = acts.length := List.length_map ..
  have lb : (acts.map fun a => a.2.1).length = acts.length := List.length_map ..
  have lc : (acts.map fun a => a.2.2).length = acts.length := List.length_map ..
  have xa : ((acts.map fun a => a.1) ++ [row]).length = acts.length + 1 := by rw [List.length_append, la]; rfl
  have xb : ((acts.map fun a => a.2.1) ++ [day]).length = acts.length + 1 := by rw [List.length_append, lb]; rfl
  have xc : ((acts.map fun a => a.2.2) ++ [left]).length = acts.length + 1 := by rw [List.length_append, lc]; rfl
  simp only [List.length_append, List.length_cons, List.length_nil] at hl
  refine en112 rfl ?_
  refine g_p t112_0 rfl ?_
  refine r_getr t112_1 (f32 hF) rfl rfl ?_
  refine r_cv t112_4 (f35 hF) rfl ?_
  refine c29L (by exact fN35 hF) (by exact ha) ?_
  refine k_v ?_ rfl
  refine g_k (n := 1) t112_7 rfl rfl ?_
  refine g_subn t112_8 (by omega) ?_
  rw [show ((acts.map fun a => a.1) ++ [row]).length - 1 = acts.length by omega]
  refine g_isn t112_9 (Nat.le_of_ble_eq_true rfl) (am_s1_1 rfl) ?_
  refine g_p t112_10 rfl ?_
  refine n_ge t112_11 (by omega) ?_
  refine g_p t112_16 rfl ?_
  refine g_p t112_17 rfl ?_
  refine r_getr t112_18 (f32 hF) rfl rfl ?_
  refine g_p t112_21 rfl ?_
  refine r_cv t112_22 (f35 hF) rfl ?_
  refine c30L (by exact fN35 hF) (by exact ha) (by omega) (by omega) ?_
  refine k_v ?_ rfl
  rw [show ((acts.map fun a => a.1) ++ [row]).getD acts.length 0 = row by rw [← la]; exact gD_app2]
  refine r_puti t112_25 (f32 hF) rfl rfl ?_
  refine g_p t112_28 rfl ?_
  refine g_p t112_29 rfl ?_
  refine r_getr t112_30 (f32 hF) rfl rfl ?_
  refine g_p t112_33 rfl ?_
  refine r_cv t112_34 (f37 hF) rfl ?_
  refine c30L (by exact fN37 hF) (by exact hb) (by omega) (by omega) ?_
  refine k_v ?_ rfl
  rw [show ((acts.map fun a => a.2.1) ++ [day]).getD acts.length 0 = day by rw [← lb]; exact gD_app2]
  refine r_puti t112_37 (f32 hF) rfl rfl ?_
  refine g_p t112_40 rfl ?_
  refine g_p t112_41 rfl ?_
  refine r_getr t112_42 (f32 hF) rfl rfl ?_
  refine g_p t112_45 rfl ?_
  refine r_cv t112_46 (f39 hF) rfl ?_
  refine c30L (by exact fN39 hF) (by exact hc) (by omega) (by omega) ?_
  refine k_v ?_ rfl
  rw [show ((acts.map fun a => a.2.2) ++ [left]).getD acts.length 0 = left by rw [← lc]; exact gD_app2]
  refine r_puti t112_49 (f32 hF) rfl rfl ?_
  have e4 : ri (wi (wi (wi s 32 4 (nI row)) 32 5 (nI day)) 32 6 (nI left)) 32 4 = nI row := rfl
  have e5 : ri (wi (wi (wi s 32 4 (nI row)) 32 5 (nI day)) 32 6 (nI left)) 32 5 = nI day := rfl
  have e6 : ri (wi (wi (wi s 32 4 (nI row)) 32 5 (nI day)) 32 6 (nI left)) 32 6 = nI left := rfl
  refine g_p t112_52 rfl ?_
  refine r_getr t112_53 (f32 hF) rfl rfl ?_
  refine g_p t112_56 rfl ?_
  refine r_cv t112_57 (f35 hF) rfl ?_
  refine c34L (by exact fN35 hF) (by exact ha) (by omega) (by omega) (fun s57 fr57 ha => ?_)
  refine k_0 ?_
  have hF := Fx.fr (by exact hF) fr57
  have e1 := (fr57.ri (p := 32) (i := 1) (by decide)).trans e1
  have e2 := (fr57.ri (p := 32) (i := 2) (by decide)).trans e2
  have e3 := (fr57.ri (p := 32) (i := 3) (by decide)).trans e3
  have e4 := (fr57.ri (p := 32) (i := 4) (by decide)).trans e4
  have e5 := (fr57.ri (p := 32) (i := 5) (by decide)).trans e5
  have e6 := (fr57.ri (p := 32) (i := 6) (by decide)).trans e6
  have hb := NL.fr (p := 37) (by exact hb) fr57 (by decide) (by decide)
  have hc := NL.fr (p := 39) (by exact hc) fr57 (by decide) (by decide)
  refine g_p t112_60 rfl ?_
  refine r_getr t112_61 (f32 hF) rfl rfl ?_
  refine g_p t112_64 rfl ?_
  refine r_cv t112_65 (f37 hF) rfl ?_
  refine c34L (by exact fN37 hF) (by exact hb) (by omega) (by omega) (fun s65 fr65 hb => ?_)
  refine k_0 ?_
  have hF := Fx.fr (by exact hF) fr65
  have e1 := (fr65.ri (p := 32) (i := 1) (by decide)).trans e1
  have e2 := (fr65.ri (p := 32) (i := 2) (by decide)).trans e2
  have e3 := (fr65.ri (p := 32) (i := 3) (by decide)).trans e3
  have e4 := (fr65.ri (p := 32) (i := 4) (by decide)).trans e4
  have e5 := (fr65.ri (p := 32) (i := 5) (by decide)).trans e5
  have e6 := (fr65.ri (p := 32) (i := 6) (by decide)).trans e6
  have ha := NL.fr (p := 35) (by exact ha) fr65 (by decide) (by decide)
  have hc := NL.fr (p := 39) (by exact hc) fr65 (by decide) (by decide)
  refine g_p t112_68 rfl ?_
  refine r_getr t112_69 (f32 hF) rfl rfl ?_
  refine g_p t112_72 rfl ?_
  refine r_cv t112_73 (f39 hF) rfl ?_
  refine c34L (by exact fN39 hF) (by exact hc) (by omega) (by omega) (fun s73 fr73 hc => ?_)
  refine k_0 ?_
  have hF := Fx.fr (by exact hF) fr73
  have e1 := (fr73.ri (p := 32) (i := 1) (by decide)).trans e1
  have e2 := (fr73.ri (p := 32) (i := 2) (by decide)).trans e2
  have e3 := (fr73.ri (p := 32) (i := 3) (by decide)).trans e3
  have e4 := (fr73.ri (p := 32) (i := 4) (by decide)).trans e4
  have e5 := (fr73.ri (p := 32) (i := 5) (by decide)).trans e5
  have e6 := (fr73.ri (p := 32) (i := 6) (by decide)).trans e6
  have ha := NL.fr (p := 35) (by exact ha) fr73 (by decide) (by decide)
  have hb := NL.fr (p := 37) (by exact hb) fr73 (by decide) (by decide)
  refine g_p t112_76 rfl ?_
  refine i_ret t112_77 rfl (hq _ ((((Fr.rf.wi (by simp)).wi (by simp)).wi (by simp)).tr ((fr57.mono (by decide)).tr ((fr65.mono (by decide)).tr (fr73.mono (by decide))))) ⟨?_, ?_, ?_, by omega⟩ ⟨e1, e2, e3, e4, e5, e6⟩)
  · rw [← la, List.take_left] at ha; exact ha
  · rw [← lb, List.take_left] at hb; exact hb
  · rw [← lc, List.take_left] at hc; exact hc
theorem c108 (hF : Fx s) (hA : CA acts s) (hW : CW r w pd row day left s) {x : Int32} (hr : x = 1 → 0 < r) (hw : x = 2 → 0 < w) (hq : ∀ s', Fr wA s s' → CA [] s' → CW (if x = 1 then r - 1 else r) (if x = 2 then w - 1 else w) pd row day left s' → Q none (mR s')) : gE X (d + 2) 108 [.ref 32, .int x] (mR s) Q := by
  obtain ⟨e1, e2, e3, e4, e5, e6⟩ := hW
  refine en108 rfl rfl ?_
  refine g_p t108_0 rfl ?_
  refine g_p t108_1 rfl ?_
  refine r_gete t108_2 (f32 hF) rfl rfl e1 ?_
  refine g_p t108_5 rfl ?_
  refine g_k (n := 1) t108_6 rfl rfl ?_
  refine g_cne t108_7 (fun h7 => ?_) (fun h7 => ?_)
  · refine g_k (n := 0) t108_14 rfl rfl ?_
    refine g_isub t108_15 ?_
    first
      | rw [if_pos (show x = 1 from h7)] at hq
      | rw [if_neg (show ¬ x = 1 from h7)] at hq
    first
      | rw [pk_sub (hr h7)]
      | rw [pk_sub (Nat.zero_le _)]
    refine r_puti t108_16 (f32 hF) rfl rfl ?_
    refine g_p t108_19 rfl ?_
    refine g_p t108_20 rfl ?_
    refine r_gete t108_21 (f32 hF) rfl rfl e2 ?_
    refine g_p t108_24 rfl ?_
    refine g_k (n := 2) t108_25 rfl rfl ?_
    refine g_cne t108_26 (fun h26 => ?_) (fun h26 => ?_)
    · refine g_k (n := 0) t108_33 rfl rfl ?_
      refine g_isub t108_34 ?_
      first
        | rw [if_pos (show x = 2 from h26)] at hq
        | rw [if_neg (show ¬ x = 2 from h26)] at hq
      first
        | rw [pk_sub (hw h26)]
        | rw [pk_sub (Nat.zero_le _)]
      refine r_puti t108_35 (f32 hF) rfl rfl ?_
      refine g_p t108_38 rfl ?_
      refine r_cv t108_39 (f32 hF) rfl ?_
      refine c114 (by exact hF) (by exact hA) (fun s39 fr39 hA => ?_)
      refine k_0 ?_
      have hF := Fx.fr (by exact hF) fr39
      have e3 := (fr39.ri (p := 32) (i := 3) (by decide)).trans e3
      have e4 := (fr39.ri (p := 32) (i := 4) (by decide)).trans e4
      have e5 := (fr39.ri (p := 32) (i := 5) (by decide)).trans e5
      have e6 := (fr39.ri (p := 32) (i := 6) (by decide)).trans e6
      exact v_ret t108_42 (hq _ (((Fr.rf.wi (by simp)).wi (by simp)).tr (fr39.mono (by decide))) hA ⟨(fr39.ri (by decide)).trans rfl, (fr39.ri (by decide)).trans rfl, e3, e4, e5, e6⟩)
    · refine g_k (n := 1) t108_29 rfl rfl ?_
      refine g_goto t108_30 ?_
      refine g_isub t108_34 ?_
      first
        | rw [if_pos (show x = 2 from h26)] at hq
        | rw [if_neg (show ¬ x = 2 from h26)] at hq
      first
        | rw [pk_sub (hw h26)]
        | rw [pk_sub (Nat.zero_le _)]
      refine r_puti t108_35 (f32 hF) rfl rfl ?_
      refine g_p t108_38 rfl ?_
      refine r_cv t108_39 (f32 hF) rfl ?_
      refine c114 (by exact hF) (by exact hA) (fun s39 fr39 hA => ?_)
      refine k_0 ?_
      have hF := Fx.fr (by exact hF) fr39
      have e3 := (fr39.ri (p := 32) (i := 3) (by decide)).trans e3
      have e4 := (fr39.ri (p := 32) (i := 4) (by decide)).trans e4
      have e5 := (fr39.ri (p := 32) (i := 5) (by decide)).trans e5
      have e6 := (fr39.ri (p := 32) (i := 6) (by decide)).trans e6
      exact v_ret t108_42 (hq _ (((Fr.rf.wi (by simp)).wi (by simp)).tr (fr39.mono (by decide))) hA ⟨(fr39.ri (by decide)).trans rfl, (fr39.ri (by decide)).trans rfl, e3, e4, e5, e6⟩)
  · refine g_k (n := 1) t108_10 rfl rfl ?_
    refine g_goto t108_11 ?_
    refine g_isub t108_15 ?_
    first
      | rw [if_pos (show x = 1 from h7)] at hq
      | rw [if_neg (show ¬ x = 1 from h7)] at hq
    first
      | rw [pk_sub (hr h7)]
      | rw [pk_sub (Nat.zero_le _)]
    refine r_puti t108_16 (f32 hF) rfl rfl ?_
    refine g_p t108_19 rfl ?_
    refine g_p t108_20 rfl ?_
    refine r_gete t108_21 (f32 hF) rfl rfl e2 ?_
    refine g_p t108_24 rfl ?_
    refine g_k (n := 2) t108_25 rfl rfl ?_
    refine g_cne t108_26 (fun h26 => ?_) (fun h26 => ?_)
    · refine g_k (n := 0) t108_33 rfl rfl ?_
      refine g_isub t108_34 ?_
      first
        | rw [if_pos (show x = 2 from h26)] at hq
        | rw [if_neg (show ¬ x = 2 from h26)] at hq
      first
        | rw [pk_sub (hw h26)]
        | rw [pk_sub (Nat.zero_le _)]
      refine r_puti t108_35 (f32 hF) rfl rfl ?_
      refine g_p t108_38 rfl ?_
      refine r_cv t108_39 (f32 hF) rfl ?_
      refine c114 (by exact hF) (by exact hA) (fun s39 fr39 hA => ?_)
      refine k_0 ?_
      have hF := Fx.fr (by exact hF) fr39
      have e3 := (fr39.ri (p := 32) (i := 3) (by decide)).trans e3
      have e4 := (fr39.ri (p := 32) (i := 4) (by decide)).trans e4
      have e5 := (fr39.ri (p := 32) (i := 5) (by decide)).trans e5
      have e6 := (fr39.ri (p := 32) (i := 6) (by decide)).trans e6
      exact v_ret t108_42 (hq _ (((Fr.rf.wi (by simp)).wi (by simp)).tr (fr39.mono (by decide))) hA ⟨(fr39.ri (by decide)).trans rfl, (fr39.ri (by decide)).trans rfl, e3, e4, e5, e6⟩)
    · refine g_k (n := 1) t108_29 rfl rfl ?_
      refine g_goto t108_30 ?_
      refine g_isub t108_34 ?_
      first
        | rw [if_pos (show x = 2 from h26)] at hq
        | rw [if_neg (show ¬ x = 2 from h26)] at hq
      first
        | rw [pk_sub (hw h26)]
        | rw [pk_sub (Nat.zero_le _)]
      refine r_puti t108_35 (f32 hF) rfl rfl ?_
      refine g_p t108_38 rfl ?_
      refine r_cv t108_39 (f32 hF) rfl ?_
      refine c114 (by exact hF) (by exact hA) (fun s39 fr39 hA => ?_)
      refine k_0 ?_
      have hF := Fx.fr (by exact hF) fr39
      have e3 := (fr39.ri (p := 32) (i := 3) (by decide)).trans e3
      have e4 := (fr39.ri (p := 32) (i := 4) (by decide)).trans e4
      have e5 := (fr39.ri (p := 32) (i := 5) (by decide)).trans e5
      have e6 := (fr39.ri (p := 32) (i := 6) (by decide)).trans e6
      exact v_ret t108_42 (hq _ (((Fr.rf.wi (by simp)).wi (by simp)).tr (fr39.mono (by decide))) hA ⟨(fr39.ri (by decide)).trans rfl, (fr39.ri (by decide)).trans rfl, e3, e4, e5, e6⟩)
theorem c94 (hF : Fx s) (hA : CA acts s) (hq : ∀ s', Fr wA s s' → CA [] s' → CW r w pd 0 0 pd s' → Q none (mR s')) : gE X (d + 2) 94 [.ref 32, .int (nI r), .int (nI w), .int (nI pd)] (mR s) Q := by
  refine en94 rfl rfl rfl rfl ?_
  refine g_p t94_0 rfl ?_
  refine g_p t94_1 rfl ?_
  refine r_puti t94_2 (f32 hF) rfl rfl ?_
  refine g_p t94_5 rfl ?_
  refine g_p t94_6 rfl ?_
  refine r_puti t94_7 (f32 hF) rfl rfl ?_
  refine g_p t94_10 rfl ?_
  refine g_p t94_11 rfl ?_
  refine r_puti t94_12 (f32 hF) rfl rfl ?_
  refine g_p t94_15 rfl ?_
  refine g_k (n := 0) t94_16 rfl rfl ?_
  refine r_puti t94_17 (f32 hF) rfl rfl ?_
  refine g_p t94_20 rfl ?_
  refine g_k (n := 0) t94_21 rfl rfl ?_
  refine r_puti t94_22 (f32 hF) rfl rfl ?_
  refine g_p t94_25 rfl ?_
  refine g_p t94_26 rfl ?_
  refine r_puti t94_27 (f32 hF) rfl rfl ?_
  refine g_p t94_30 rfl ?_
  refine r_cv t94_31 (f32 hF) rfl ?_
  refine c114 (by exact hF) (by exact hA) (fun s31 fr31 hA => ?_)
  refine k_0 ?_
  have hF := Fx.fr (by exact hF) fr31
  exact v_ret t94_34 (hq _ ((((((( Fr.rf.wi (by simp)).wi (by simp)).wi (by simp)).wi (by simp)).wi (by simp)).wi (by simp)).tr (fr31.mono (by decide))) hA ⟨(fr31.ri (by decide)).trans rfl, (fr31.ri (by decide)).trans rfl, (fr31.ri (by decide)).trans rfl, (fr31.ri (by decide)).trans rfl, (fr31.ri (by decide)).trans rfl, (fr31.ri (by decide)).trans rfl⟩)
end WJ
