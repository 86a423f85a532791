/-! THE REFERENCE, 24: what the light says -/
def MLi (lis : List (List Nat)) (s : mM) : Prop := ri s 80 7 = nI lis.length ∧ lis.length ≤ 4 ∧ ∀ n, n < lis.length → ri s 83 n = nI (lis.getD n []).length ∧ HT 82 480 (120 * n) (lis.getD n []) s ∧ ∀ a, ∃ p, pfi (lis.getD n []) (lwo (lis.getD n []) a).2 = .inl p
theorem MLi.fm {A B : List Nat} {lis : List (List Nat)} {s s' : mM} (h : MLi lis s) (f : FM A B s s') (h0 : 7 ∉ B) (h1 : 81 ∉ 80 :: A) (h2 : 82 ∉ 80 :: A) (h3 : 83 ∉ 80 :: A) : MLi lis s' := ⟨(f.f h0).trans h.1, h.2.1, fun n hn => ⟨(f.g h3).trans (h.2.2 n hn).1, (h.2.2 n hn).2.1.fm f h1 h2, (h.2.2 n hn).2.2⟩⟩
theorem bd_n {n : Nat} (h : n ≤ 1000000) : bd (nI n).toInt64 := by
  rw [nI_l (by omega)]
  show -1000000 ≤ (lN n).toInt ∧ (lN n).toInt ≤ 1000000
  rw [pk_lT (by omega)]
  omega
theorem rg_0 {P c t : Nat} : rg P (fun _ _ => 0) c t = true := by
  unfold rg
  split
  · rfl
  · rfl
section RG_
variable {X : am_X} {d : Nat} {s : mM} {hp : am_H} {Q : Option Value → am_H → Prop} {n w P day l q k r pd row left : Nat} {t : List Nat} {x y : Int32} {lis : List (List Nat)}
theorem c220t (hF : Fx s) (m0 : ri s 80 20 = nI P) (hP5 : P ≤ 5) (e34 : ri s 80 34 = nI day) (hd : day ≤ 60) (hM : MLi lis s) (e32 : ri s 80 32 = nI l) (hl : l < lis.length) (hqP : q < P) (hy : isS y = true) (hq : ∀ s', FM [84] lB s s' → Q (some (.int (lwo (lis.getD l []) (la P q day y)).1.2.toInt32)) (mR s')) : gE X (d + 204) 220 [.ref 80, .int (nI q), .int y] (mR s) Q := by
  obtain ⟨k, hk12, rfl⟩ := isS_t hy
  have h4 := hM.2.1
  obtain ⟨g1, hH, hok⟩ := hM.2.2 l hl
  obtain ⟨t, ht⟩ : ∃ t, t = lis.getD l [] := ⟨_, rfl⟩
  rw [← ht] at g1 hH hok hq
  refine en220 rfl rfl rfl ?_
  refine g_p t220_0 rfl ?_
  refine r_gete t220_1 (f80 hF) rfl rfl e32 ?_
  refine g_p t220_4 rfl ?_
  refine g_cne t220_5 (fun h5 => ?_) (fun h5 => ?_)
  · refine g_p t220_10 rfl ?_
    refine r_getr t220_11 (f80 hF) rfl rfl ?_
    refine g_k (n := 112) t220_14 rfl rfl ?_
    refine g_p t220_16 rfl ?_
    refine r_iast t220_17 (f84 hF) (by decide) (by omega) ?_
    refine g_p t220_18 rfl ?_
    refine r_getr t220_19 (f80 hF) rfl rfl ?_
    refine g_k (n := 100) t220_22 rfl rfl ?_
    refine g_p t220_24 rfl ?_
    refine r_gete t220_25 (f80 hF) rfl rfl e34 ?_
    refine r_iast t220_28 (f84 hF) (by decide) (by omega) ?_
    refine g_p t220_29 rfl ?_
    refine r_getr t220_30 (f80 hF) rfl rfl ?_
    refine g_k (n := 115) t220_33 rfl rfl ?_
    refine g_p t220_35 rfl ?_
    refine r_iast t220_36 (f84 hF) (by decide) (by omega) ?_
    refine g_p t220_37 rfl ?_
    refine r_getr t220_38 (f80 hF) rfl rfl ?_
    refine g_k (n := 110) t220_41 rfl rfl ?_
    refine g_p t220_43 rfl ?_
    refine r_gete t220_44 (f80 hF) rfl rfl m0 ?_
    refine r_iast t220_47 (f84 hF) (by decide) (by omega) ?_
    refine g_p t220_48 rfl ?_
    refine g_p t220_49 rfl ?_
    refine r_getr t220_50 (f80 hF) rfl rfl ?_
    refine g_k (n := 120) t220_53 rfl rfl ?_
    refine g_p t220_55 rfl ?_
    refine r_gete t220_56 (f80 hF) rfl rfl e32 ?_
    refine g_muln t220_59 ?_
    refine g_p t220_60 rfl ?_
    refine r_getr t220_61 (f80 hF) rfl rfl ?_
    refine g_p t220_64 rfl ?_
    refine r_gete t220_65 (f80 hF) rfl rfl e32 ?_
    refine r_iale t220_68 (f83 hF) (by decide) (by omega) g1 ?_
    refine r_cv t220_69 (f80 hF) rfl ?_
    have hH2 : HT 82 480 (120 * l) t (wi (wi (wi (wi s 84 112 (nI q)) 84 100 (nI day)) 84 115 (nI k)) 84 110 (nI P)) := hH.fm (A := [84]) (B' := []) ((((FM.rf.w (by decide) (by decide)).w (by decide) (by decide)).w (by decide) (by decide)).w (by decide) (by decide)) (by decide) (by decide)
    refine c199 (V := True) (a := la P q day (nI k)) (Fx.fr (A := [84]) hF ((((Fr.rf.wi (by decide)).wi (by decide)).wi (by decide)).wi (by decide))) hH2 (fun _ => ⟨rfl, rfl, rfl, rfl, fun i h1 h2 => ?_⟩) (fun s1 f1 hfa hva => ?_)
    · have h9 : i = 4 ∨ i = 5 ∨ i = 6 ∨ i = 7 := by omega
      rcases h9 with rfl | rfl | rfl | rfl
      · exact bd_n (n := q) (by omega)
      · exact bd_n (n := day) (by omega)
      · exact bd_n (n := k) (by omega)
      · exact bd_n (n := P) (by omega)
    have hva := hva trivial (hok _)
    have hF := Fx.fr (Fx.fr (A := [84]) hF ((((Fr.rf.wi (by decide)).wi (by decide)).wi (by decide)).wi (by decide))) f1.1
    refine k_0 ?_
    refine g_p t220_72 rfl ?_
    refine r_geti t220_73 (f80 hF) rfl rfl ?_
    refine i_ret t220_76 ?_ (hq s1 (((((FM.rf.w (by decide) (by decide)).w (by decide) (by decide)).w (by decide) (by decide)).w (by decide) (by decide)).tr (f1.mono (by decide) (by decide))))
    rw [← hva]
    exact (Int32.toInt32_toInt64 _).symm
  · exact absurd h5 (nI_m1 (by omega))
theorem c220n (hF : Fx s) (e32 : ri s 80 32 = -1) (hq : Q (some (.int (nI 0))) (mR s)) : gE X d 220 [.ref 80, .int x, .int y] (mR s) Q := by
  refine en220 rfl rfl rfl ?_
  refine g_p t220_0 rfl ?_
  refine r_gete t220_1 (f80 hF) rfl rfl e32 ?_
  refine g_p t220_4 rfl ?_
  refine g_cne t220_5 (fun h5 => ?_) (fun h5 => ?_)
  · exact absurd rfl h5
  · refine g_k (n := 0) t220_8 rfl rfl ?_
    exact i_ret t220_9 rfl hq
def JL (P day l : Nat) (lis : List (List Nat)) (s : mM) : Prop := MLi lis s ∧ ri s 80 32 = nI l ∧ ri s 80 34 = nI day ∧ ri s 80 20 = nI P
theorem JL.fm {A B : List Nat} {s s' : mM} (h : JL P day l lis s) (f : FM A B s s') (h0 : 7 ∉ B) (h1 : 81 ∉ 80 :: A) (h2 : 82 ∉ 80 :: A) (h3 : 83 ∉ 80 :: A) (h4 : 32 ∉ B) (h5 : 34 ∉ B) (h6 : 20 ∉ B) : JL P day l lis s' := ⟨h.1.fm f h0 h1 h2 h3, (f.f h4).trans h.2.1, (f.f h5).trans h.2.2.1, (f.f h6).trans h.2.2.2⟩
theorem LO_l {rt : Bool} (hP5 : P ≤ 5) (hd : day ≤ 60) (hl : l < lis.length) : LO X (d + 204) P rt (lwL P day (lis.getD l [])) (JL P day l lis) := ⟨fun s s' h f => h.fm f (by decide) (by decide) (by decide) (by decide) (by decide) (by decide) (by decide), fun _ s hF hJ q k hq hk Q hQ => c220t hF hJ.2.2.2 hP5 hJ.2.2.1 hd hJ.1 hJ.2.1 hl hq (isS_n hk) (fun s' f => hQ s' f (hJ.fm f (by decide) (by decide) (by decide) (by decide) (by decide) (by decide) (by decide)))⟩
theorem LO_n {rt : Bool} : LO X d P rt (fun _ _ => 0) (fun s => ri s 80 32 = -1) := ⟨fun s s' h f => (f.f (by decide)).trans h, fun _ s hF hJ q k hq hk Q hQ => c220n hF hJ (hQ s FM.rf hJ)⟩
theorem c221f (hF : Fx s) (m0 : ri s 80 20 = nI P) (hx : ¬ (inN P x = true ∧ isS y = true)) (hq : Q (some (.int (-1000000))) (mR (wi s 80 0 (nI 0)))) : gE X (d + 206) 221 [.ref 80, .int x, .int y] (mR s) Q := by
  refine en221 rfl rfl rfl ?_
  refine g_p t221_0 rfl ?_
  refine g_k (n := 0) t221_1 rfl rfl ?_
  refine r_puti t221_2 (f80 hF) rfl rfl ?_
  refine g_p t221_5 rfl ?_
  refine g_p t221_6 rfl ?_
  refine r_cv t221_7 (f80 hF) rfl ?_
  refine c217 (by exact hF) (by exact m0) ?_
  refine k_v ?_ rfl
  refine b_eq t221_10 (fun h10 => ?_) (fun h10 => ?_)
  · refine g_p t221_34 rfl ?_
    exact i_ret t221_37 rfl hq
  · refine g_p t221_13 rfl ?_
    refine g_p t221_14 rfl ?_
    refine g_p t221_15 rfl ?_
    refine g_p t221_16 rfl ?_
    refine g_cs t221_19 rfl rfl rfl ?_
    refine c176i (a := nI 1) (b := nI 2) rfl rfl ?_
    rw [show isR (nI 1) (nI 2) y = isS y from isR_S]
    refine k_v ?_ rfl
    refine b_eq t221_22 (fun h22 => ?_) (fun h22 => ?_)
    · refine g_p t221_34 rfl ?_
      exact i_ret t221_37 rfl hq
    · exact absurd ⟨h10, h22⟩ hx
theorem c221n (hF : Fx s) (m0 : ri s 80 20 = nI P) (hP5 : P ≤ 5) (hqP : q < P) (hy : isS y = true) (e32 : ri s 80 32 = -1) (hq : Q (some (.int (nI 0))) (mR (wi s 80 0 (nI 0)))) : gE X (d + 206) 221 [.ref 80, .int (nI q), .int y] (mR s) Q := by
  have hin := inN_n hqP (by omega)
  refine en221 rfl rfl rfl ?_
  refine g_p t221_0 rfl ?_
  refine g_k (n := 0) t221_1 rfl rfl ?_
  refine r_puti t221_2 (f80 hF) rfl rfl ?_
  refine g_p t221_5 rfl ?_
  refine g_p t221_6 rfl ?_
  refine r_cv t221_7 (f80 hF) rfl ?_
  refine c217 (by exact hF) (by exact m0) ?_
  refine k_v ?_ rfl
  rw [hin]
  refine b_eq t221_10 (fun h10 => ?_) (fun h10 => ?_)
  · first
      | exact absurd h10 (by decide)
      | exact absurd h22 (by decide)
  · refine g_p t221_13 rfl ?_
    refine g_p t221_14 rfl ?_
    refine g_p t221_15 rfl ?_
    refine g_p t221_16 rfl ?_
    refine g_cs t221_19 rfl rfl rfl ?_
    refine c176i (a := nI 1) (b := nI 2) rfl rfl ?_
    rw [show isR (nI 1) (nI 2) y = isS y from isR_S]
    refine k_v ?_ rfl
    rw [hy]
    refine b_eq t221_22 (fun h22 => ?_) (fun h22 => ?_)
    · first
        | exact absurd h10 (by decide)
        | exact absurd h22 (by decide)
    · refine g_p t221_25 rfl ?_
      refine g_p t221_26 rfl ?_
      refine g_p t221_27 rfl ?_
      refine r_cv t221_28 (f80 hF) rfl ?_
      refine c220n (by exact hF) (by exact e32) ?_
      refine k_v ?_ rfl
      refine g_goto t221_31 ?_
      exact i_ret t221_37 rfl hq
theorem c221t (hF : Fx s) (m0 : ri s 80 20 = nI P) (hP5 : P ≤ 5) (e34 : ri s 80 34 = nI day) (hd : day ≤ 60) (hM : MLi lis s) (e32 : ri s 80 32 = nI l) (hl : l < lis.length) (hqP : q < P) (hy : isS y = true) (hq : ∀ s', FM [84] (0 :: lB) s s' → Q (some (.int (lwo (lis.getD l []) (la P q day y)).1.2.toInt32)) (mR s')) : gE X (d + 206) 221 [.ref 80, .int (nI q), .int y] (mR s) Q := by
  have hin := inN_n hqP (by omega)
  refine en221 rfl rfl rfl ?_
  refine g_p t221_0 rfl ?_
  refine g_k (n := 0) t221_1 rfl rfl ?_
  refine r_puti t221_2 (f80 hF) rfl rfl ?_
  refine g_p t221_5 rfl ?_
  refine g_p t221_6 rfl ?_
  refine r_cv t221_7 (f80 hF) rfl ?_
  refine c217 (by exact hF) (by exact m0) ?_
  refine k_v ?_ rfl
  rw [hin]
  refine b_eq t221_10 (fun h10 => ?_) (fun h10 => ?_)
  · first
      | exact absurd h10 (by decide)
      | exact absurd h22 (by decide)
  · refine g_p t221_13 rfl ?_
    refine g_p t221_14 rfl ?_
    refine g_p t221_15 rfl ?_
    refine g_p t221_16 rfl ?_
    refine g_cs t221_19 rfl rfl rfl ?_
    refine c176i (a := nI 1) (b := nI 2) rfl rfl ?_
    rw [show isR (nI 1) (nI 2) y = isS y from isR_S]
    refine k_v ?_ rfl
    rw [hy]
    refine b_eq t221_22 (fun h22 => ?_) (fun h22 => ?_)
    · first
        | exact absurd h10 (by decide)
        | exact absurd h22 (by decide)
    · refine g_p t221_25 rfl ?_
      refine g_p t221_26 rfl ?_
      refine g_p t221_27 rfl ?_
      refine r_cv t221_28 (f80 hF) rfl ?_
      refine c220t (d := d + 1) (Fx.fr (A := [80]) hF (Fr.rf.wi (by decide))) (by exact m0) hP5 (by exact e34) hd (hM.fm (A := []) (B := [0]) (FM.rf.m (by decide)) (by decide) (by decide) (by decide) (by decide)) (by exact e32) hl hqP hy (fun s1 f1 => ?_)
      refine k_v ?_ rfl
      refine g_goto t221_31 ?_
      exact i_ret t221_37 rfl (hq s1 ((FM.rf.m (by decide)).tr (f1.mono (by decide) (by decide))))
theorem isR_l {n : Nat} {x : Int32} (h : n < 2 ^ 31) : isR 0 (nI n - nI 1) x = inN n x := by
  cases n with
  | zero =>
    cases hx : inN 0 x
    · unfold isR
      rw [← Bool.decide_and]
      exact decide_eq_false (fun h2 => absurd (Int32.le_trans h2.1 h2.2) (by decide))
    · obtain ⟨q, hq, -⟩ := inN_t hx (by decide); omega
  | succ n => rw [pk_sub (by omega), Nat.add_sub_cancel]; exact isR_inN h
theorem c222t (hF : Fx s) (hP0 : 0 < P) (hP5 : P ≤ 5) (m0 : ri s 80 20 = nI P) (e7 : ri s 80 7 = nI lis.length) (h4 : lis.length ≤ 4) (hx : x = -1 ∨ inN lis.length x = true) (hq : ∀ s', FM [] [0, 32] s s' → ri s' 80 32 = x → Q (some (.int (bI true))) (mR s')) : gE X (d + 1) 222 [.ref 80, .int x] (mR s) Q := by
  refine en222 rfl rfl ?_
  refine g_p t222_0 rfl ?_
  refine g_k (n := 0) t222_1 rfl rfl ?_
  refine r_puti t222_2 (f80 hF) rfl rfl ?_
  refine g_p t222_5 rfl ?_
  refine r_gete t222_6 (f80 hF) rfl rfl m0 ?_
  refine n_eq t222_9 (by omega) (fun h9 => ?_) (fun h9 => ?_)
  · first
      | (exfalso; omega)
      | (have u0 : inN lis.length x = false := h30
         exact hx.elim (fun e => absurd e h14) (fun e => no_b e u0))
  · refine g_p t222_12 rfl ?_
    refine g_p t222_13 rfl ?_
    refine g_ceq t222_14 (fun h14 => ?_) (fun h14 => ?_)
    · refine g_p t222_35 rfl ?_
      refine g_p t222_36 rfl ?_
      refine r_puti t222_37 (f80 hF) rfl rfl ?_
      refine g_k (n := 1) t222_40 rfl rfl ?_
      exact b_ret t222_41 rfl (hq _ ((FM.rf.m (by decide)).m (by decide)) rfl)
    · refine g_p t222_17 rfl ?_
      refine g_p t222_18 rfl ?_
      refine g_p t222_19 rfl ?_
      refine g_p t222_20 rfl ?_
      refine r_gete t222_21 (f80 hF) rfl rfl e7 ?_
      refine g_k (n := 1) t222_24 rfl rfl ?_
      refine g_isub t222_25 ?_
      refine g_p t222_26 rfl ?_
      refine g_cs t222_27 rfl rfl rfl ?_
      refine c176i (a := 0) (b := nI lis.length - nI 1) rfl rfl ?_
      rw [isR_l (by omega)]
      refine k_v ?_ rfl
      refine b_ne t222_30 (fun h30 => ?_) (fun h30 => ?_)
      · refine g_p t222_35 rfl ?_
        refine g_p t222_36 rfl ?_
        refine r_puti t222_37 (f80 hF) rfl rfl ?_
        refine g_k (n := 1) t222_40 rfl rfl ?_
        exact b_ret t222_41 rfl (hq _ ((FM.rf.m (by decide)).m (by decide)) rfl)
      · first
          | (exfalso; omega)
          | (have u0 : inN lis.length x = false := h30
             exact hx.elim (fun e => absurd e h14) (fun e => no_b e u0))
theorem c222f (hF : Fx s) (hP5 : P ≤ 5) (m0 : ri s 80 20 = nI P) (e7 : ri s 80 7 = nI lis.length) (h4 : lis.length ≤ 4) (hx : ¬ (0 < P ∧ (x = -1 ∨ inN lis.length x = true))) (hq : Q (some (.int (bI false))) (mR (wi s 80 0 (nI 0)))) : gE X (d + 1) 222 [.ref 80, .int x] (mR s) Q := by
  refine en222 rfl rfl ?_
  refine g_p t222_0 rfl ?_
  refine g_k (n := 0) t222_1 rfl rfl ?_
  refine r_puti t222_2 (f80 hF) rfl rfl ?_
  refine g_p t222_5 rfl ?_
  refine r_gete t222_6 (f80 hF) rfl rfl m0 ?_
  refine n_eq t222_9 (by omega) (fun h9 => ?_) (fun h9 => ?_)
  · refine g_k (n := 0) t222_33 rfl rfl ?_
    exact b_ret t222_34 rfl hq
  · refine g_p t222_12 rfl ?_
    refine g_p t222_13 rfl ?_
    refine g_ceq t222_14 (fun h14 => ?_) (fun h14 => ?_)
    · first
        | (have u0 : x = -1 := h14
           exact absurd ⟨by omega, Or.inl u0⟩ hx)
        | (have u0 : inN lis.length x = true := h30
           exact absurd ⟨by omega, Or.inr u0⟩ hx)
    · refine g_p t222_17 rfl ?_
      refine g_p t222_18 rfl ?_
      refine g_p t222_19 rfl ?_
      refine g_p t222_20 rfl ?_
      refine r_gete t222_21 (f80 hF) rfl rfl e7 ?_
      refine g_k (n := 1) t222_24 rfl rfl ?_
      refine g_isub t222_25 ?_
      refine g_p t222_26 rfl ?_
      refine g_cs t222_27 rfl rfl rfl ?_
      refine c176i (a := 0) (b := nI lis.length - nI 1) rfl rfl ?_
      rw [isR_l (by omega)]
      refine k_v ?_ rfl
      refine b_ne t222_30 (fun h30 => ?_) (fun h30 => ?_)
      · first
          | (have u0 : x = -1 := h14
             exact absurd ⟨by omega, Or.inl u0⟩ hx)
          | (have u0 : inN lis.length x = true := h30
             exact absurd ⟨by omega, Or.inr u0⟩ hx)
      · refine g_k (n := 0) t222_33 rfl rfl ?_
        exact b_ret t222_34 rfl hq
end RG_
