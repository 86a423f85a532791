/-! THE REFERENCE, 16: the soonest -/
noncomputable def dcb (p : Prop) : Bool := @decide p (Classical.propDecidable p)
theorem dcb_t {p : Prop} (h : p) : dcb p = true := @decide_eq_true p (Classical.propDecidable p) h
theorem dcb_f {p : Prop} (h : ¬ p) : dcb p = false := @decide_eq_false p (Classical.propDecidable p) h
theorem dcb_of {p : Prop} (h : dcb p = true) : p := @of_decide_eq_true p (Classical.propDecidable p) h
theorem dcb_no {p : Prop} (h : dcb p = false) : ¬ p := @of_decide_eq_false p (Classical.propDecidable p) h
theorem dcb_i {p q : Prop} (h : p ↔ q) : dcb p = dcb q := by
  by_cases hp : p
  · rw [dcb_t hp, dcb_t (h.mp hp)]
  · rw [dcb_f hp, dcb_f (fun hq => hp (h.mpr hq))]
def GO (P r w : Nat) (b : Bk) (l : List Nat) (lim j a k x : Nat) : Prop := lv (aj P r w (fun _ _ => true)) a lim x ∧ ((sy P b x = -1 ∧ k = j) ∨ (¬ sy P b x = -1 ∧ k = j + 1 ∧ j < l.length ∧ nI (l.getD j 0) = sy P b x))
theorem vnb1 : vp_nar .boolean (nI 1) = bI true := rfl
theorem vnb0 : vp_nar .boolean (nI 0) = bI false := rfl
def TB (P : Nat) (l : List Nat) (p : Nat) (T : Nat → Nat → Prop) (s : mM) : Prop := ∀ k x, k ≤ l.length → x < mn P → ri s p (243 * k + x) = bI (dcb (T k x))
theorem TB.i {P : Nat} {l : List Nat} {p : Nat} {T T2 : Nat → Nat → Prop} {s : mM} (h : TB P l p T s) (hi : ∀ k x, k ≤ l.length → x < mn P → (T k x ↔ T2 k x)) : TB P l p T2 s := fun k x hk hx => by rw [h k x hk hx, dcb_i (hi k x hk hx)]
theorem TB.w {P : Nat} {l : List Nat} {T T2 : Nat → Nat → Prop} {s : mM} {k0 x0 : Nat} (h : TB P l 103 T s) (hP : P ≤ 5) (hx0 : x0 < mn P) (h0 : T2 k0 x0) (hi : ∀ k x, ¬ (k = k0 ∧ x = x0) → (T k x ↔ T2 k x)) : TB P l 103 T2 (wi s 103 (243 * k0 + x0) (bI true)) := fun k x hk hx => by
  have hm := mn_le hP
  by_cases h9 : k = k0 ∧ x = x0
  · obtain ⟨rfl, rfl⟩ := h9
    rw [ri_wi_eq, dcb_t h0]
  · rw [ri_wi_j (fun e => h9 (by omega)), h k x hk hx, dcb_i (hi k x h9)]
section RY
variable {X : am_X} {d : Nat} {s : mM} {hp : am_H} {Q : Option Value → am_H → Prop} {P r w pd row day left a c k n : Nat} {x y z : Int32} {b : Bk} {bks : List Bk} {wds : List (List Nat)} {l : List Nat}
theorem c244 (hF : Fx s) (hP5 : P ≤ 5) (hP0 : 0 < P) (m0 : ri s 80 20 = nI P) (p1 : ri s 85 1 = nI r) (p2 : ri s 85 2 = nI w) (hr5 : r ≤ 5) (hw5 : w ≤ 5) {kb kw lim j : Nat} (hB1 : MB1 b kb s) (hkb4 : kb < 4) (hl1 : MWl1 l kw s) (hkw5 : kw < 5) (hlim : lim ≤ 5) (hAP : AP P r w s) (ha : std P r w a = true) (hj : j < l.length) {T : Nat → Nat → Prop} (hT : TB P l 103 T s)
    (hq : ∀ s', FM [103] [] s s' → TB P l 103 (fun k x => T k x ∨ GO P r w b l lim j a k x) s' → Q none (mR s')) : gE X (d + 4) 244 [.ref 80, .int (nI kb), .int (nI kw), .int (nI j), .int (nI a), .int (nI lim)] (mR s) Q := by
  have hm := mn_le hP5
  have haN := (std_t ha).1
  have hl8 := hl1.2.2.1
  have K : ∀ i x : Nat, x + i = mn P → ∀ s' z7, FM [103] [] s s' → TB P l 103 (fun k x' => T k x' ∨ (x' < x ∧ GO P r w b l lim j a k x')) s' → gG X (d + 4) 244 3 [.ref 80, .int (nI kb), .int (nI kw), .int (nI j), .int (nI a), .int (nI lim), .int (nI x), z7] [] (mR s') Q := by
    intro i
    induction i with
    | zero =>
      intro x hi s' z7 hf hT
      have hi : x = mn P := by omega
      subst hi
      have hF := hF.fr hf.1
      have m0 := (hf.f (i := 20) (by decide)).trans m0
      have p1 := (hf.g (p := 85) (i := 1) (by decide)).trans p1
      have p2 := (hf.g (p := 85) (i := 2) (by decide)).trans p2
      have hAP := hAP.fm hf (by decide)
      have hB1 := MB1.fm (A := 80 :: [103]) (B := []) hB1 hf.1 (by decide) (by decide) (by decide) (by decide)
      have hl1 := hl1.fm hf (by decide) (by decide)
      refine g_p t244_3 rfl ?_
      refine g_p t244_5 rfl ?_
      refine r_cv t244_6 (f80 hF) rfl ?_
      refine c209 (by exact hF) (by exact m0) hP5 hP0 ?_
      refine k_v ?_ rfl
      refine n_cge t244_9 (by omega) (by omega) (fun h9 => ?_) (fun h9 => ?_)
      · exact v_ret t244_110 (hq _ hf (hT.i (fun k x _ hx => ⟨fun h => h.imp id (fun h => h.2), fun h => h.imp id (fun h => ⟨hx, h⟩)⟩)))
      · exfalso; omega
    | succ i ih =>
      intro x hi s' z7 hf hT
      have hx : x < mn P := by omega
      have ih := fun s' z7 => ih (x + 1) (by omega) s' z7
      have hF := hF.fr hf.1
      have m0 := (hf.f (i := 20) (by decide)).trans m0
      have p1 := (hf.g (p := 85) (i := 1) (by decide)).trans p1
      have p2 := (hf.g (p := 85) (i := 2) (by decide)).trans p2
      have hAP := hAP.fm hf (by decide)
      have hB1 := MB1.fm (A := 80 :: [103]) (B := []) hB1 hf.1 (by decide) (by decide) (by decide) (by decide)
      have hl1 := hl1.fm hf (by decide) (by decide)
      have hlj := hl1.2.2.2 j hj
      have hb1000 : dst P r w 1000 a x ≤ 1000 := dst_le hP5 (by decide)
      have SK : (∀ k, ¬ GO P r w b l lim j a k x) → TB P l 103 (fun k x' => T k x' ∨ (x' < x + 1 ∧ GO P r w b l lim j a k x')) s' := fun hn => hT.i (fun k x' _ _ => ⟨fun h => h.imp id (fun h => ⟨by omega, h.2⟩), fun h => h.imp id (fun h => ⟨by
        by_cases h9 : x' = x
        · subst h9; exact absurd h.2 (hn k)
        · omega, h.2⟩)⟩)
      have YES : ∀ k0, GO P r w b l lim j a k0 x → (∀ k, GO P r w b l lim j a k x → k = k0) → TB P l 103 (fun k x' => T k x' ∨ (x' < x + 1 ∧ GO P r w b l lim j a k x')) (wi s' 103 (243 * k0 + x) (bI true)) := fun k0 hg hone => hT.w hP5 hx (Or.inr ⟨Nat.lt_succ_self x, hg⟩) (fun k x' hn => ⟨fun h => h.imp id (fun h => ⟨by omega, h.2⟩), fun h => h.imp id (fun h => ⟨by
        by_cases h9 : x' = x
        · subst h9; exact absurd ⟨hone k h.2, rfl⟩ hn
        · omega, h.2⟩)⟩)
      refine g_p t244_3 rfl ?_
      refine g_p t244_5 rfl ?_
      refine r_cv t244_6 (f80 hF) rfl ?_
      refine c209 (by exact hF) (by exact m0) hP5 hP0 ?_
      refine k_v ?_ rfl
      refine n_cge t244_9 (by omega) (by omega) (fun h9 => ?_) (fun h9 => ?_)
      · exfalso; omega
      · refine g_p t244_12 rfl ?_
        refine g_p t244_13 rfl ?_
        refine r_cv t244_15 (f80 hF) rfl ?_
        refine c214 (by exact hF) (by exact m0) hP5 (by exact p1) (by exact p2) hr5 hw5 (by omega) ?_
        refine k_v ?_ rfl
        refine b_eq t244_18 (fun h18 => ?_) (fun h18 => ?_)
        · refine g_incn (n := 1) t244_104 rfl rfl (Nat.le_of_ble_eq_true rfl) (am_s1_6 rfl) ?_
          refine g_goto t244_107 ?_
          first
            | (have u0 : std P r w x = false := h18
               exact ih _ _ hf (SK (fun k h => no_b (lv_std ha h.1) u0)))
            | (have u0 : ¬ dst P r w 1000 a x ≤ lim := h37
               exact ih _ _ hf (SK (fun k h => u0 ((dst_lv ha h18 hP5).mpr h.1))))
            | (have u0 : sy P b x = -1 := h55
               have u1 : sy P b x = nI (l.getD j 0) := h85
               rw [u0] at u1
               exact absurd u1.symm (nI_m1 (by omega)))
            | (have u0 : sy P b x = -1 := h55
               exact ih _ _ (hf.w (by decide) (by decide)) (YES j ⟨(dst_lv ha h18 hP5).mp h37, Or.inl ⟨u0, rfl⟩⟩ (fun k h => h.2.elim (fun g => g.2) (fun g => absurd u0 g.1))))
            | (have u0 : ¬ sy P b x = -1 := h55
               have u1 : sy P b x = nI (l.getD j 0) := h85
               exact ih _ _ (hf.w (by decide) (by decide)) (YES (j + 1) ⟨(dst_lv ha h18 hP5).mp h37, Or.inr ⟨u0, rfl, hj, u1.symm⟩⟩ (fun k h => h.2.elim (fun g => absurd g.1 u0) (fun g => g.2.1))))
            | (have u0 : ¬ sy P b x = -1 := h55
               have u1 : ¬ sy P b x = nI (l.getD j 0) := h85
               exact ih _ _ hf (SK (fun k h => h.2.elim (fun g => u0 g.1) (fun g => u1 g.2.2.2.symm))))
        · refine g_p t244_21 rfl ?_
          refine r_getr t244_22 (f80 hF) rfl rfl ?_
          refine g_k (n := 243) t244_25 rfl rfl ?_
          refine g_p t244_28 rfl ?_
          refine g_muln t244_30 ?_
          refine g_p t244_31 rfl ?_
          refine g_addn t244_33 ?_
          refine r_iale t244_34 (f100 hF) (by decide) (by omega) (hAP a x haN hx ha) ?_
          refine g_p t244_35 rfl ?_
          refine n_cle t244_37 (by omega) (by omega) (fun h37 => ?_) (fun h37 => ?_)
          · refine g_p t244_43 rfl ?_
            refine g_p t244_44 rfl ?_
            refine g_p t244_45 rfl ?_
            refine r_cv t244_47 (f80 hF) rfl ?_
            refine c231 (by exact hF) (by exact m0) hP5 (by exact hB1) hkb4 (by omega) ?_
            refine k_v ?_ rfl
            refine g_is t244_50 (Nat.le_of_ble_eq_true rfl) (am_s1_7 rfl) ?_
            refine g_p t244_52 rfl ?_
            refine g_p t244_54 rfl ?_
            refine g_cne t244_55 (fun h55 => ?_) (fun h55 => ?_)
            · refine g_p t244_72 rfl ?_
              refine g_p t244_74 rfl ?_
              refine r_getr t244_75 (f80 hF) rfl rfl ?_
              refine g_k (n := 8) t244_78 rfl rfl ?_
              refine g_p t244_80 rfl ?_
              refine g_muln t244_81 ?_
              refine g_p t244_82 rfl ?_
              refine g_addn t244_83 ?_
              refine r_iale t244_84 (f91 hF) (by decide) (by omega) hlj.1 ?_
              refine g_cne t244_85 (fun h85 => ?_) (fun h85 => ?_)
              · refine g_incn (n := 1) t244_104 rfl rfl (Nat.le_of_ble_eq_true rfl) (am_s1_6 rfl) ?_
                refine g_goto t244_107 ?_
                first
                  | (have u0 : std P r w x = false := h18
                     exact ih _ _ hf (SK (fun k h => no_b (lv_std ha h.1) u0)))
                  | (have u0 : ¬ dst P r w 1000 a x ≤ lim := h37
                     exact ih _ _ hf (SK (fun k h => u0 ((dst_lv ha h18 hP5).mpr h.1))))
                  | (have u0 : sy P b x = -1 := h55
                     have u1 : sy P b x = nI (l.getD j 0) := h85
                     rw [u0] at u1
                     exact absurd u1.symm (nI_m1 (by omega)))
                  | (have u0 : sy P b x = -1 := h55
                     exact ih _ _ (hf.w (by decide) (by decide)) (YES j ⟨(dst_lv ha h18 hP5).mp h37, Or.inl ⟨u0, rfl⟩⟩ (fun k h => h.2.elim (fun g => g.2) (fun g => absurd u0 g.1))))
                  | (have u0 : ¬ sy P b x = -1 := h55
                     have u1 : sy P b x = nI (l.getD j 0) := h85
                     exact ih _ _ (hf.w (by decide) (by decide)) (YES (j + 1) ⟨(dst_lv ha h18 hP5).mp h37, Or.inr ⟨u0, rfl, hj, u1.symm⟩⟩ (fun k h => h.2.elim (fun g => absurd g.1 u0) (fun g => g.2.1))))
                  | (have u0 : ¬ sy P b x = -1 := h55
                     have u1 : ¬ sy P b x = nI (l.getD j 0) := h85
                     exact ih _ _ hf (SK (fun k h => h.2.elim (fun g => u0 g.1) (fun g => u1 g.2.2.2.symm))))
              · refine g_p t244_88 rfl ?_
                refine r_getr t244_89 (f80 hF) rfl rfl ?_
                refine g_k (n := 243) t244_92 rfl rfl ?_
                refine g_p t244_95 rfl ?_
                refine g_k (n := 1) t244_96 rfl rfl ?_
                refine g_addn t244_97 ?_
                refine g_muln t244_98 ?_
                refine g_p t244_99 rfl ?_
                refine g_addn t244_101 ?_
                refine g_k (n := 1) t244_102 rfl rfl ?_
                refine r_zast t244_103 (f103 hF) (by decide) (by omega) ?_
                refine g_incn (n := 1) t244_104 rfl rfl (Nat.le_of_ble_eq_true rfl) (am_s1_6 rfl) ?_
                refine g_goto t244_107 ?_
                first
                  | (have u0 : std P r w x = false := h18
                     exact ih _ _ hf (SK (fun k h => no_b (lv_std ha h.1) u0)))
                  | (have u0 : ¬ dst P r w 1000 a x ≤ lim := h37
                     exact ih _ _ hf (SK (fun k h => u0 ((dst_lv ha h18 hP5).mpr h.1))))
                  | (have u0 : sy P b x = -1 := h55
                     have u1 : sy P b x = nI (l.getD j 0) := h85
                     rw [u0] at u1
                     exact absurd u1.symm (nI_m1 (by omega)))
                  | (have u0 : sy P b x = -1 := h55
                     exact ih _ _ (hf.w (by decide) (by decide)) (YES j ⟨(dst_lv ha h18 hP5).mp h37, Or.inl ⟨u0, rfl⟩⟩ (fun k h => h.2.elim (fun g => g.2) (fun g => absurd u0 g.1))))
                  | (have u0 : ¬ sy P b x = -1 := h55
                     have u1 : sy P b x = nI (l.getD j 0) := h85
                     exact ih _ _ (hf.w (by decide) (by decide)) (YES (j + 1) ⟨(dst_lv ha h18 hP5).mp h37, Or.inr ⟨u0, rfl, hj, u1.symm⟩⟩ (fun k h => h.2.elim (fun g => absurd g.1 u0) (fun g => g.2.1))))
                  | (have u0 : ¬ sy P b x = -1 := h55
                     have u1 : ¬ sy P b x = nI (l.getD j 0) := h85
                     exact ih _ _ hf (SK (fun k h => h.2.elim (fun g => u0 g.1) (fun g => u1 g.2.2.2.symm))))
            · refine g_p t244_58 rfl ?_
              refine r_getr t244_59 (f80 hF) rfl rfl ?_
              refine g_k (n := 243) t244_62 rfl rfl ?_
              refine g_p t244_65 rfl ?_
              refine g_muln t244_66 ?_
              refine g_p t244_67 rfl ?_
              refine g_addn t244_69 ?_
              refine g_k (n := 1) t244_70 rfl rfl ?_
              refine r_zast t244_71 (f103 hF) (by decide) (by omega) ?_
              refine g_p t244_72 rfl ?_
              refine g_p t244_74 rfl ?_
              refine r_getr t244_75 (f80 hF) rfl rfl ?_
              refine g_k (n := 8) t244_78 rfl rfl ?_
              refine g_p t244_80 rfl ?_
              refine g_muln t244_81 ?_
              refine g_p t244_82 rfl ?_
              refine g_addn t244_83 ?_
              refine r_iale t244_84 (f91 hF) (by decide) (by omega) hlj.1 ?_
              refine g_cne t244_85 (fun h85 => ?_) (fun h85 => ?_)
              · refine g_incn (n := 1) t244_104 rfl rfl (Nat.le_of_ble_eq_true rfl) (am_s1_6 rfl) ?_
                refine g_goto t244_107 ?_
                first
                  | (have u0 : std P r w x = false := h18
                     exact ih _ _ hf (SK (fun k h => no_b (lv_std ha h.1) u0)))
                  | (have u0 : ¬ dst P r w 1000 a x ≤ lim := h37
                     exact ih _ _ hf (SK (fun k h => u0 ((dst_lv ha h18 hP5).mpr h.1))))
                  | (have u0 : sy P b x = -1 := h55
                     have u1 : sy P b x = nI (l.getD j 0) := h85
                     rw [u0] at u1
                     exact absurd u1.symm (nI_m1 (by omega)))
                  | (have u0 : sy P b x = -1 := h55
                     exact ih _ _ (hf.w (by decide) (by decide)) (YES j ⟨(dst_lv ha h18 hP5).mp h37, Or.inl ⟨u0, rfl⟩⟩ (fun k h => h.2.elim (fun g => g.2) (fun g => absurd u0 g.1))))
                  | (have u0 : ¬ sy P b x = -1 := h55
                     have u1 : sy P b x = nI (l.getD j 0) := h85
                     exact ih _ _ (hf.w (by decide) (by decide)) (YES (j + 1) ⟨(dst_lv ha h18 hP5).mp h37, Or.inr ⟨u0, rfl, hj, u1.symm⟩⟩ (fun k h => h.2.elim (fun g => absurd g.1 u0) (fun g => g.2.1))))
                  | (have u0 : ¬ sy P b x = -1 := h55
                     have u1 : ¬ sy P b x = nI (l.getD j 0) := h85
                     exact ih _ _ hf (SK (fun k h => h.2.elim (fun g => u0 g.1) (fun g => u1 g.2.2.2.symm))))
              · refine g_p t244_88 rfl ?_
                refine r_getr t244_89 (f80 hF) rfl rfl ?_
                refine g_k (n := 243) t244_92 rfl rfl ?_
                refine g_p t244_95 rfl ?_
                refine g_k (n := 1) t244_96 rfl rfl ?_
                refine g_addn t244_97 ?_
                refine g_muln t244_98 ?_
                refine g_p t244_99 rfl ?_
                refine g_addn t244_101 ?_
                refine g_k (n := 1) t244_102 rfl rfl ?_
                refine r_zast t244_103 (f103 hF) (by decide) (by omega) ?_
                refine g_incn (n := 1) t244_104 rfl rfl (Nat.le_of_ble_eq_true rfl) (am_s1_6 rfl) ?_
                refine g_goto t244_107 ?_
                first
                  | (have u0 : std P r w x = false := h18
                     exact ih _ _ hf (SK (fun k h => no_b (lv_std ha h.1) u0)))
                  | (have u0 : ¬ dst P r w 1000 a x ≤ lim := h37
                     exact ih _ _ hf (SK (fun k h => u0 ((dst_lv ha h18 hP5).mpr h.1))))
                  | (have u0 : sy P b x = -1 := h55
                     have u1 : sy P b x = nI (l.getD j 0) := h85
                     rw [u0] at u1
                     exact absurd u1.symm (nI_m1 (by omega)))
                  | (have u0 : sy P b x = -1 := h55
                     exact ih _ _ (hf.w (by decide) (by decide)) (YES j ⟨(dst_lv ha h18 hP5).mp h37, Or.inl ⟨u0, rfl⟩⟩ (fun k h => h.2.elim (fun g => g.2) (fun g => absurd u0 g.1))))
                  | (have u0 : ¬ sy P b x = -1 := h55
                     have u1 : sy P b x = nI (l.getD j 0) := h85
                     exact ih _ _ (hf.w (by decide) (by decide)) (YES (j + 1) ⟨(dst_lv ha h18 hP5).mp h37, Or.inr ⟨u0, rfl, hj, u1.symm⟩⟩ (fun k h => h.2.elim (fun g => absurd g.1 u0) (fun g => g.2.1))))
                  | (have u0 : ¬ sy P b x = -1 := h55
                     have u1 : ¬ sy P b x = nI (l.getD j 0) := h85
                     exact ih _ _ hf (SK (fun k h => h.2.elim (fun g => u0 g.1) (fun g => u1 g.2.2.2.symm))))
          · refine g_goto t244_40 ?_
            refine g_incn (n := 1) t244_104 rfl rfl (Nat.le_of_ble_eq_true rfl) (am_s1_6 rfl) ?_
            refine g_goto t244_107 ?_
            first
              | (have u0 : std P r w x = false := h18
                 exact ih _ _ hf (SK (fun k h => no_b (lv_std ha h.1) u0)))
              | (have u0 : ¬ dst P r w 1000 a x ≤ lim := h37
                 exact ih _ _ hf (SK (fun k h => u0 ((dst_lv ha h18 hP5).mpr h.1))))
              | (have u0 : sy P b x = -1 := h55
                 have u1 : sy P b x = nI (l.getD j 0) := h85
                 rw [u0] at u1
                 exact absurd u1.symm (nI_m1 (by omega)))
              | (have u0 : sy P b x = -1 := h55
                 exact ih _ _ (hf.w (by decide) (by decide)) (YES j ⟨(dst_lv ha h18 hP5).mp h37, Or.inl ⟨u0, rfl⟩⟩ (fun k h => h.2.elim (fun g => g.2) (fun g => absurd u0 g.1))))
              | (have u0 : ¬ sy P b x = -1 := h55
                 have u1 : sy P b x = nI (l.getD j 0) := h85
                 exact ih _ _ (hf.w (by decide) (by decide)) (YES (j + 1) ⟨(dst_lv ha h18 hP5).mp h37, Or.inr ⟨u0, rfl, hj, u1.symm⟩⟩ (fun k h => h.2.elim (fun g => absurd g.1 u0) (fun g => g.2.1))))
              | (have u0 : ¬ sy P b x = -1 := h55
                 have u1 : ¬ sy P b x = nI (l.getD j 0) := h85
                 exact ih _ _ hf (SK (fun k h => h.2.elim (fun g => u0 g.1) (fun g => u1 g.2.2.2.symm))))
  refine en244 rfl rfl rfl rfl rfl rfl ?_
  refine g_k (n := 0) t244_0 rfl rfl ?_
  refine g_is t244_1 (Nat.le_of_ble_eq_true rfl) (am_s1_6 rfl) ?_
  exact K (mn P) 0 (by omega) s _ FM.rf (hT.i (fun k x _ _ => ⟨Or.inl, fun h => h.elim id (fun h => absurd h.1 (Nat.not_lt_zero x))⟩))
abbrev soA : List Nat := [84, 97, 98, 99, 100, 102, 103]
set_option maxHeartbeats 1000000 in
theorem c243t (hF : Fx s) (hP5 : P ≤ 5) (hW : MW P r w pd row day left s) (hr5 : r ≤ 5) (hw5 : w ≤ 5) (e43 : ri s 80 43 = bI false) (hst : 0 < P → std P r w row = true) (hl5 : left ≤ 5) (hpd5 : pd ≤ 5) (hM : MB bks s) (hWl : MWl wds s) (hg : bG P bks x = some b) (hg2 : wG wds y = some l)
    (hq : ∀ v s', Soon P r w row left pd b l v → FM soA (0 :: nB) s s' → Q (some (.int v)) (mR s')) : gE X (d + 7) 243 [.ref 80, .int x, .int y] (mR s) Q := by
  obtain ⟨m0, e21, e33, e34, e35, p1, p2⟩ := id hW
  have hm := mn_le hP5
  obtain ⟨hP0, kb, hkb, hkb4, rfl, hB1⟩ := bG_M hM hg
  obtain ⟨kw, hkw, hkw5, rfl, hl1⟩ := wG_M hWl hg2
  have hs := hst hP0
  have hrN := (std_t hs).1
  have hlen := hl1.2.1
  have hlen8 := hl1.2.2.1
  have DAY : ∀ m n : Nat, n + m = 60 → ∀ s' z5 z6, am_nl z5 = true → FM soA (0 :: nB) s s' → AP P r w s' → TB P l 102 (fun k x => sr P r w row left pd b l n k x) s' → (∀ m, m ≤ n → ¬ ∃ a, sr P r w row left pd b l m l.length a) → gG X (d + 7) 243 72 [.ref 80, .int (nI kb), .int (nI kw), .int (nI l.length), .int (nI (n + 1)), z5, z6] [] (mR s') Q := by
    intro m
    induction m with
    | zero =>
      intro n hn s' z5 z6 n5 hf hAP hR hno
      have hn : n = 60 := by omega
      subst hn
      have hF := hF.fr hf.1
      refine g_p t243_72 rfl ?_
      refine g_k (n := 60) t243_74 rfl rfl ?_
      refine n_cgt t243_76 (by omega) (by omega) (fun h76 => ?_) (fun h76 => ?_)
      · refine g_p t243_255 rfl ?_
        exact i_ret t243_256 rfl (hq _ _ (Or.inr ⟨hno, rfl⟩) hf)
      · exfalso; omega
    | succ m ihd =>
      intro n hn s' z5 z6 n5 hf hAP hR hno
      have ihd := ihd (n + 1) (by omega)
      obtain ⟨lim, hlim⟩ : ∃ v, v = (if n = 0 then left else pd) := ⟨_, rfl⟩
      have hlim5 : lim ≤ 5 := by rw [hlim]; split <;> assumption
      have CHK : ∀ j a : Nat, a + j = mn P → ∀ s' z6, FM soA (0 :: nB) s s' → AP P r w s' → TB P l 102 (fun k x => sr P r w row left pd b l (n + 1) k x) s' → (∀ x, x < a → ¬ sr P r w row left pd b l (n + 1) l.length x) → gG X (d + 7) 243 215 [.ref 80, .int (nI kb), .int (nI kw), .int (nI l.length), .int (nI (n + 1)), .int (nI a), z6] [] (mR s') Q := by
        intro j
        induction j with
        | zero =>
          intro a hj s' z6 hf hAP hR hne
          have hj : a = mn P := by omega
          subst hj
          have hF := hF.fr hf.1
          have m0 := (hf.f (i := 20) (by decide)).trans m0
          have p1 := (hf.g (p := 85) (i := 1) (by decide)).trans p1
          have p2 := (hf.g (p := 85) (i := 2) (by decide)).trans p2
          have e21 := (hf.f (i := 21) (by decide)).trans e21
          have e35 := (hf.f (i := 35) (by decide)).trans e35
          have hB1 := MB1.fm (A := 80 :: soA) (B := []) hB1 hf.1 (by decide) (by decide) (by decide) (by decide)
          have hl1 := hl1.fm hf (by decide) (by decide)
          refine g_p t243_215 rfl ?_
          refine g_p t243_217 rfl ?_
          refine r_cv t243_218 (f80 hF) rfl ?_
          refine c209 (by exact hF) (by exact m0) hP5 hP0 ?_
          refine k_v ?_ rfl
          refine n_cge t243_221 (by omega) (by omega) (fun h221 => ?_) (fun h221 => ?_)
          · refine g_incn (n := 1) t243_249 rfl rfl (Nat.le_of_ble_eq_true rfl) (am_s1_4 rfl) ?_
            refine g_goto t243_252 ?_
            refine ihd _ _ _ rfl hf hAP hR (fun m hm2 => ?_)
            by_cases h9 : m = n + 1
            · subst h9
              rintro ⟨a, ha⟩
              exact hne a (std_t (sr_std hs _ _ _ ha)).1 ha
            · exact hno m (by omega)
          · exfalso; omega
        | succ j ih =>
          intro a hj s' z6 hf hAP hR hne
          have ha : a < mn P := by omega
          have ih := ih (a + 1) (by omega)
          have hRa := hR l.length a (Nat.le_refl _) ha
          have hF := hF.fr hf.1
          have m0 := (hf.f (i := 20) (by decide)).trans m0
          have p1 := (hf.g (p := 85) (i := 1) (by decide)).trans p1
          have p2 := (hf.g (p := 85) (i := 2) (by decide)).trans p2
          have e21 := (hf.f (i := 21) (by decide)).trans e21
          have e35 := (hf.f (i := 35) (by decide)).trans e35
          have hB1 := MB1.fm (A := 80 :: soA) (B := []) hB1 hf.1 (by decide) (by decide) (by decide) (by decide)
          have hl1 := hl1.fm hf (by decide) (by decide)
          refine g_p t243_215 rfl ?_
          refine g_p t243_217 rfl ?_
          refine r_cv t243_218 (f80 hF) rfl ?_
          refine c209 (by exact hF) (by exact m0) hP5 hP0 ?_
          refine k_v ?_ rfl
          refine n_cge t243_221 (by omega) (by omega) (fun h221 => ?_) (fun h221 => ?_)
          · exfalso; omega
          · refine g_p t243_224 rfl ?_
            refine r_getr t243_225 (f80 hF) rfl rfl ?_
            refine g_k (n := 243) t243_228 rfl rfl ?_
            refine g_p t243_231 rfl ?_
            refine g_muln t243_232 ?_
            refine g_p t243_233 rfl ?_
            refine g_addn t243_235 ?_
            refine r_bale t243_236 (f102 hF) (Or.inr rfl) (by decide) (by omega) hRa ?_
            refine b_eq t243_237 (fun h237 => ?_) (fun h237 => ?_)
            · refine g_incn (n := 1) t243_243 rfl rfl (Nat.le_of_ble_eq_true rfl) (am_s1_5 rfl) ?_
              refine g_goto t243_246 ?_
              refine ih _ _ hf hAP hR (fun x hx => ?_)
              by_cases h9 : x = a
              · subst h9; exact dcb_no h237
              · exact hne x (by omega)
            · refine g_p t243_240 rfl ?_
              exact i_ret t243_242 rfl (hq _ _ (Or.inl ⟨n + 1, by omega, by omega, ⟨a, ha, dcb_of h237⟩, fun m hm2 => hno m (by omega), rfl⟩) hf)
      have CPY : ∀ j i : Nat, i + j = 2187 → ∀ s' z6, FM soA (0 :: nB) s s' → AP P r w s' → TB P l 103 (fun k x => sr P r w row left pd b l (n + 1) k x) s' → (∀ x, x < i → ri s' 102 x = vp_nar .boolean (ri s' 103 x)) → gG X (d + 7) 243 184 [.ref 80, .int (nI kb), .int (nI kw), .int (nI l.length), .int (nI (n + 1)), .int (nI i), z6] [] (mR s') Q := by
        intro j
        induction j with
        | zero =>
          intro i hi s' z6 hf hAP hR hcp
          have hi : i = 2187 := by omega
          subst hi
          have hF := hF.fr hf.1
          refine g_p t243_184 rfl ?_
          refine g_k (n := 2187) t243_186 rfl rfl ?_
          refine n_cge t243_189 (by omega) (by omega) (fun h189 => ?_) (fun h189 => ?_)
          · refine g_k (n := 0) t243_212 rfl rfl ?_
            refine g_is t243_213 (Nat.le_of_ble_eq_true rfl) (am_s1_5 rfl) ?_
            refine CHK (mn P) 0 (by omega) _ _ hf hAP (fun k x hk hx => ?_) (fun x hx => absurd hx (Nat.not_lt_zero x))
            rw [hcp _ (by omega), hR k x hk hx]
            cases dcb (sr P r w row left pd b l (n + 1) k x) <;> rfl
          · exfalso; omega
        | succ j ih =>
          intro i hi s' z6 hf hAP hR hcp
          have hF := hF.fr hf.1
          refine g_p t243_184 rfl ?_
          refine g_k (n := 2187) t243_186 rfl rfl ?_
          refine n_cge t243_189 (by omega) (by omega) (fun h189 => ?_) (fun h189 => ?_)
          · exfalso; omega
          · refine g_p t243_192 rfl ?_
            refine r_getr t243_193 (f80 hF) rfl rfl ?_
            refine g_p t243_196 rfl ?_
            refine g_p t243_198 rfl ?_
            refine r_getr t243_199 (f80 hF) rfl rfl ?_
            refine g_p t243_202 rfl ?_
            refine r_bald t243_204 (f103 hF) (Or.inr rfl) (by decide) (by omega) ?_
            refine r_zast t243_205 (f102 hF) (by decide) (by omega) ?_
            refine g_incn (n := 1) t243_206 rfl rfl (Nat.le_of_ble_eq_true rfl) (am_s1_5 rfl) ?_
            refine g_goto t243_209 ?_
            refine ih (i + 1) (by omega) _ _ (hf.w (by decide) (by decide)) (fun a b h1 h2 h3 => by rw [ri_wi_ne (by decide)]; exact hAP a b h1 h2 h3) (fun k x hk hx => by rw [ri_wi_ne (by decide)]; exact hR k x hk hx) (fun x hx => ?_)
            rw [ri_wi_ne (show 103 ≠ 102 by decide)]
            by_cases h9 : x = i
            · subst h9; exact ri_wi_eq
            · rw [ri_wi_j h9]; exact hcp x (by omega)
      have KL : ∀ j k0 : Nat, k0 + j = l.length → ∀ s' z6, FM soA (0 :: nB) s s' → AP P r w s' → TB P l 102 (fun k x => sr P r w row left pd b l n k x) s' → TB P l 103 (fun k x => ∃ j c, (j < k0 ∨ (j = k0 ∧ c < 0)) ∧ c < mn P ∧ sr P r w row left pd b l n j c ∧ GO P r w b l lim j c k x) s' → gG X (d + 7) 243 107 [.ref 80, .int (nI kb), .int (nI kw), .int (nI l.length), .int (nI (n + 1)), .int (nI k0), z6] [] (mR s') Q := by
        intro j
        induction j with
        | zero =>
          intro k0 hj s' z6 hf hAP hR hT
          have hj : k0 = l.length := by omega
          subst hj
          have hF := hF.fr hf.1
          refine g_p t243_107 rfl ?_
          refine g_p t243_109 rfl ?_
          refine n_cge t243_110 (by omega) (by omega) (fun h110 => ?_) (fun h110 => ?_)
          · refine g_k (n := 0) t243_181 rfl rfl ?_
            refine g_is t243_182 (Nat.le_of_ble_eq_true rfl) (am_s1_5 rfl) ?_
            refine CPY 2187 0 (by omega) _ _ hf hAP (hT.i (fun k x hk hx => ⟨?_, ?_⟩)) (fun x hx => absurd hx (Nat.not_lt_zero x))
            · rintro ⟨j, c, -, h2, h3, h4⟩
              exact ⟨c, j, h3, by rw [← hlim]; exact h4.1, h4.2⟩
            · rintro ⟨c, j, h3, h4, h5⟩
              refine ⟨j, c, Or.inl ?_, (std_t (sr_std hs _ _ _ h3)).1, h3, by rw [hlim]; exact h4, h5⟩
              rcases h5 with ⟨h6, h7⟩ | ⟨h6, h7, h8, h9⟩
              · by_cases h9 : j = l.length
                · subst h9; exact absurd ⟨c, h3⟩ (hno n (Nat.le_refl n))
                · omega
              · exact h8
          · exfalso; omega
        | succ j ihk =>
          intro k0 hj s' z6 hf hAP hR hT
          have ihk := ihk (k0 + 1) (by omega)
          have hk0 : k0 < l.length := by omega
          have AL_ : ∀ i a0 : Nat, a0 + i = mn P → ∀ s', FM soA (0 :: nB) s s' → AP P r w s' → TB P l 102 (fun k x => sr P r w row left pd b l n k x) s' → TB P l 103 (fun k x => ∃ j c, (j < k0 ∨ (j = k0 ∧ c < a0)) ∧ c < mn P ∧ sr P r w row left pd b l n j c ∧ GO P r w b l lim j c k x) s' → gG X (d + 7) 243 116 [.ref 80, .int (nI kb), .int (nI kw), .int (nI l.length), .int (nI (n + 1)), .int (nI k0), .int (nI a0)] [] (mR s') Q := by
            intro i
            induction i with
            | zero =>
              intro a0 hi s' hf hAP hR hT
              have hi : a0 = mn P := by omega
              subst hi
              have hF := hF.fr hf.1
              have m0 := (hf.f (i := 20) (by decide)).trans m0
              have p1 := (hf.g (p := 85) (i := 1) (by decide)).trans p1
              have p2 := (hf.g (p := 85) (i := 2) (by decide)).trans p2
              have e21 := (hf.f (i := 21) (by decide)).trans e21
              have e35 := (hf.f (i := 35) (by decide)).trans e35
              have hB1 := MB1.fm (A := 80 :: soA) (B := []) hB1 hf.1 (by decide) (by decide) (by decide) (by decide)
              have hl1 := hl1.fm hf (by decide) (by decide)
              refine g_p t243_116 rfl ?_
              refine g_p t243_118 rfl ?_
              refine r_cv t243_119 (f80 hF) rfl ?_
              refine c209 (by exact hF) (by exact m0) hP5 hP0 ?_
              refine k_v ?_ rfl
              refine n_cge t243_122 (by omega) (by omega) (fun h122 => ?_) (fun h122 => ?_)
              · refine g_incn (n := 1) t243_175 rfl rfl (Nat.le_of_ble_eq_true rfl) (am_s1_5 rfl) ?_
                refine g_goto t243_178 ?_
                refine ihk _ _ hf hAP hR (hT.i (fun k x hk hx => ⟨?_, ?_⟩))
                · rintro ⟨j, c, h1, h2, h3⟩
                  exact ⟨j, c, Or.inl (by omega), h2, h3⟩
                · rintro ⟨j, c, h1, h2, h3⟩
                  exact ⟨j, c, by omega, h2, h3⟩
              · exfalso; omega
            | succ i iha =>
              intro a0 hi s' hf hAP hR hT
              have ha : a0 < mn P := by omega
              have iha := iha (a0 + 1) (by omega)
              have hRa := hR k0 a0 (by omega) ha
              have hF := hF.fr hf.1
              have m0 := (hf.f (i := 20) (by decide)).trans m0
              have p1 := (hf.g (p := 85) (i := 1) (by decide)).trans p1
              have p2 := (hf.g (p := 85) (i := 2) (by decide)).trans p2
              have e21 := (hf.f (i := 21) (by decide)).trans e21
              have e35 := (hf.f (i := 35) (by decide)).trans e35
              have hB1 := MB1.fm (A := 80 :: soA) (B := []) hB1 hf.1 (by decide) (by decide) (by decide) (by decide)
              have hl1 := hl1.fm hf (by decide) (by decide)
              refine g_p t243_116 rfl ?_
              refine g_p t243_118 rfl ?_
              refine r_cv t243_119 (f80 hF) rfl ?_
              refine c209 (by exact hF) (by exact m0) hP5 hP0 ?_
              refine k_v ?_ rfl
              refine n_cge t243_122 (by omega) (by omega) (fun h122 => ?_) (fun h122 => ?_)
              · exfalso; omega
              · refine g_p t243_125 rfl ?_
                refine r_getr t243_126 (f80 hF) rfl rfl ?_
                refine g_k (n := 243) t243_129 rfl rfl ?_
                refine g_p t243_132 rfl ?_
                refine g_muln t243_134 ?_
                refine g_p t243_135 rfl ?_
                refine g_addn t243_137 ?_
                refine r_bale t243_138 (f102 hF) (Or.inr rfl) (by decide) (by omega) hRa ?_
                refine b_eq t243_139 (fun h139 => ?_) (fun h139 => ?_)
                · first
                    | (have u0 : dcb (sr P r w row left pd b l n k0 a0) = false := h139
                       refine g_incn (n := 1) t243_169 rfl rfl (Nat.le_of_ble_eq_true rfl) (am_s1_6 rfl) ?_
                       refine g_goto t243_172 ?_
                       refine iha _ hf hAP hR (hT.i (fun k x hk hx => ⟨?_, ?_⟩))
                       · rintro ⟨j, c, h1, h2, h3⟩
                         exact ⟨j, c, by omega, h2, h3⟩
                       · rintro ⟨j, c, h1, h2, h3⟩
                         refine ⟨j, c, ?_, h2, h3⟩
                         by_cases h9 : j = k0 ∧ c = a0
                         · obtain ⟨rfl, rfl⟩ := h9
                           exact absurd h3.1 (dcb_no u0)
                         · omega)
                    | (refine g_incn (n := 1) t243_169 rfl rfl (Nat.le_of_ble_eq_true rfl) (am_s1_6 rfl) ?_
                       refine g_goto t243_172 ?_
                       refine iha _ (hf.tr (f1.mono (by decide) (by decide))) (hAP.fm f1 (by decide)) (fun k x hk hx => (f1.g (by decide)).trans (hR k x hk hx)) (hT1.i (fun k x hk hx => ⟨?_, ?_⟩))
                       · rintro (⟨j, c, h1, h2, h3⟩ | h4)
                         · exact ⟨j, c, by omega, h2, h3⟩
                         · exact ⟨k0, a0, by omega, ha, dcb_of h139, h4⟩
                       · rintro ⟨j, c, h1, h2, h3⟩
                         by_cases h9 : j = k0 ∧ c = a0
                         · obtain ⟨rfl, rfl⟩ := h9
                           exact Or.inr h3.2
                         · exact Or.inl ⟨j, c, by omega, h2, h3⟩)
                · refine g_p t243_142 rfl ?_
                  refine g_p t243_143 rfl ?_
                  refine g_p t243_144 rfl ?_
                  refine g_p t243_145 rfl ?_
                  refine g_p t243_147 rfl ?_
                  refine g_p t243_149 rfl ?_
                  refine g_k (n := 1) t243_151 rfl rfl ?_
                  refine n_cne t243_152 (by omega) (by omega) (fun h152 => ?_) (fun h152 => ?_)
                  · refine g_p t243_162 rfl ?_
                    refine r_gete t243_163 (f80 hF) rfl rfl e21 ?_
                    refine r_cv t243_166 (f80 hF) rfl ?_
                    first
                      | (have u0 : n + 1 = 1 := h152
                         rw [show nI left = nI lim by rw [hlim, if_pos (by omega)]])
                      | (have u0 : ¬ n + 1 = 1 := h152
                         rw [show nI pd = nI lim by rw [hlim, if_neg (by omega)]])
                    refine c244 (by exact hF) hP5 hP0 (by exact m0) (by exact p1) (by exact p2) hr5 hw5 (by exact hB1) hkb4 (by exact hl1) hkw5 hlim5 (by exact hAP) (sr_std hs _ _ _ (dcb_of h139)) hk0 (by exact hT) (fun s1 f1 hT1 => ?_)
                    refine k_0 ?_
                    first
                      | (have u0 : dcb (sr P r w row left pd b l n k0 a0) = false := h139
                         refine g_incn (n := 1) t243_169 rfl rfl (Nat.le_of_ble_eq_true rfl) (am_s1_6 rfl) ?_
                         refine g_goto t243_172 ?_
                         refine iha _ hf hAP hR (hT.i (fun k x hk hx => ⟨?_, ?_⟩))
                         · rintro ⟨j, c, h1, h2, h3⟩
                           exact ⟨j, c, by omega, h2, h3⟩
                         · rintro ⟨j, c, h1, h2, h3⟩
                           refine ⟨j, c, ?_, h2, h3⟩
                           by_cases h9 : j = k0 ∧ c = a0
                           · obtain ⟨rfl, rfl⟩ := h9
                             exact absurd h3.1 (dcb_no u0)
                           · omega)
                      | (refine g_incn (n := 1) t243_169 rfl rfl (Nat.le_of_ble_eq_true rfl) (am_s1_6 rfl) ?_
                         refine g_goto t243_172 ?_
                         refine iha _ (hf.tr (f1.mono (by decide) (by decide))) (hAP.fm f1 (by decide)) (fun k x hk hx => (f1.g (by decide)).trans (hR k x hk hx)) (hT1.i (fun k x hk hx => ⟨?_, ?_⟩))
                         · rintro (⟨j, c, h1, h2, h3⟩ | h4)
                           · exact ⟨j, c, by omega, h2, h3⟩
                           · exact ⟨k0, a0, by omega, ha, dcb_of h139, h4⟩
                         · rintro ⟨j, c, h1, h2, h3⟩
                           by_cases h9 : j = k0 ∧ c = a0
                           · obtain ⟨rfl, rfl⟩ := h9
                             exact Or.inr h3.2
                           · exact Or.inl ⟨j, c, by omega, h2, h3⟩)
                  · refine g_p t243_155 rfl ?_
                    refine r_gete t243_156 (f80 hF) rfl rfl e35 ?_
                    refine g_goto t243_159 ?_
                    refine r_cv t243_166 (f80 hF) rfl ?_
                    first
                      | (have u0 : n + 1 = 1 := h152
                         rw [show nI left = nI lim by rw [hlim, if_pos (by omega)]])
                      | (have u0 : ¬ n + 1 = 1 := h152
                         rw [show nI pd = nI lim by rw [hlim, if_neg (by omega)]])
                    refine c244 (by exact hF) hP5 hP0 (by exact m0) (by exact p1) (by exact p2) hr5 hw5 (by exact hB1) hkb4 (by exact hl1) hkw5 hlim5 (by exact hAP) (sr_std hs _ _ _ (dcb_of h139)) hk0 (by exact hT) (fun s1 f1 hT1 => ?_)
                    refine k_0 ?_
                    first
                      | (have u0 : dcb (sr P r w row left pd b l n k0 a0) = false := h139
                         refine g_incn (n := 1) t243_169 rfl rfl (Nat.le_of_ble_eq_true rfl) (am_s1_6 rfl) ?_
                         refine g_goto t243_172 ?_
                         refine iha _ hf hAP hR (hT.i (fun k x hk hx => ⟨?_, ?_⟩))
                         · rintro ⟨j, c, h1, h2, h3⟩
                           exact ⟨j, c, by omega, h2, h3⟩
                         · rintro ⟨j, c, h1, h2, h3⟩
                           refine ⟨j, c, ?_, h2, h3⟩
                           by_cases h9 : j = k0 ∧ c = a0
                           · obtain ⟨rfl, rfl⟩ := h9
                             exact absurd h3.1 (dcb_no u0)
                           · omega)
                      | (refine g_incn (n := 1) t243_169 rfl rfl (Nat.le_of_ble_eq_true rfl) (am_s1_6 rfl) ?_
                         refine g_goto t243_172 ?_
                         refine iha _ (hf.tr (f1.mono (by decide) (by decide))) (hAP.fm f1 (by decide)) (fun k x hk hx => (f1.g (by decide)).trans (hR k x hk hx)) (hT1.i (fun k x hk hx => ⟨?_, ?_⟩))
                         · rintro (⟨j, c, h1, h2, h3⟩ | h4)
                           · exact ⟨j, c, by omega, h2, h3⟩
                           · exact ⟨k0, a0, by omega, ha, dcb_of h139, h4⟩
                         · rintro ⟨j, c, h1, h2, h3⟩
                           by_cases h9 : j = k0 ∧ c = a0
                           · obtain ⟨rfl, rfl⟩ := h9
                             exact Or.inr h3.2
                           · exact Or.inl ⟨j, c, by omega, h2, h3⟩)
          have hF := hF.fr hf.1
          refine g_p t243_107 rfl ?_
          refine g_p t243_109 rfl ?_
          refine n_cge t243_110 (by omega) (by omega) (fun h110 => ?_) (fun h110 => ?_)
          · exfalso; omega
          · refine g_k (n := 0) t243_113 rfl rfl ?_
            refine g_is t243_114 (Nat.le_of_ble_eq_true rfl) (am_s1_6 rfl) ?_
            exact AL_ (mn P) 0 (by omega) _ hf hAP hR hT
      have ZER : ∀ j i : Nat, i + j = 2187 → ∀ s' z6, FM soA (0 :: nB) s s' → AP P r w s' → TB P l 102 (fun k x => sr P r w row left pd b l n k x) s' → (∀ x, x < i → ri s' 103 x = bI false) → ∀ {z5}, z5 = Value.int (nI i) → gG X (d + 7) 243 82 [.ref 80, .int (nI kb), .int (nI kw), .int (nI l.length), .int (nI (n + 1)), z5, z6] [] (mR s') Q := by
        intro j
        induction j with
        | zero =>
          intro i hi s' z6 hf hAP hR hz z5 e5
          subst e5
          have hi : i = 2187 := by omega
          subst hi
          have hF := hF.fr hf.1
          refine g_p t243_82 rfl ?_
          refine g_k (n := 2187) t243_84 rfl rfl ?_
          refine n_cge t243_87 (by omega) (by omega) (fun h87 => ?_) (fun h87 => ?_)
          · refine g_k (n := 0) t243_104 rfl rfl ?_
            refine g_is t243_105 (Nat.le_of_ble_eq_true rfl) (am_s1_5 rfl) ?_
            refine KL l.length 0 (by omega) _ _ hf hAP hR (fun k x hk hx => ?_)
            rw [hz _ (by omega), dcb_f]
            rintro ⟨j, c, h1, -⟩
            omega
          · exfalso; omega
        | succ j ih =>
          intro i hi s' z6 hf hAP hR hz z5 e5
          subst e5
          have hF := hF.fr hf.1
          refine g_p t243_82 rfl ?_
          refine g_k (n := 2187) t243_84 rfl rfl ?_
          refine n_cge t243_87 (by omega) (by omega) (fun h87 => ?_) (fun h87 => ?_)
          · exfalso; omega
          · refine g_p t243_90 rfl ?_
            refine r_getr t243_91 (f80 hF) rfl rfl ?_
            refine g_p t243_94 rfl ?_
            refine g_k (n := 0) t243_96 rfl rfl ?_
            refine r_zast t243_97 (f103 hF) (by decide) (by omega) ?_
            refine g_incn (n := 1) t243_98 rfl rfl (Nat.le_of_ble_eq_true rfl) (am_s1_5 rfl) ?_
            refine g_goto t243_101 ?_
            refine ih (i + 1) (by omega) _ _ (hf.w (by decide) (by decide)) (fun a b h1 h2 h3 => by rw [ri_wi_ne (by decide)]; exact hAP a b h1 h2 h3) (fun k x hk hx => by rw [ri_wi_ne (by decide)]; exact hR k x hk hx) (fun x hx => ?_) rfl
            by_cases h9 : x = i
            · subst h9; exact ri_wi_eq
            · rw [ri_wi_j h9]; exact hz x (by omega)
      have hF := hF.fr hf.1
      refine g_p t243_72 rfl ?_
      refine g_k (n := 60) t243_74 rfl rfl ?_
      refine n_cgt t243_76 (by omega) (by omega) (fun h76 => ?_) (fun h76 => ?_)
      · exfalso; omega
      · refine g_k (n := 0) t243_79 rfl rfl ?_
        refine g_is t243_80 (Nat.le_of_ble_eq_true rfl) (am_s1_5 rfl) ?_
        exact ZER 2187 0 (by omega) _ _ hf hAP hR (fun x hx => absurd hx (Nat.not_lt_zero x)) rfl
  have INI : ∀ j i : Nat, i + j = 2187 → ∀ s' z5 z6, am_nl z5 = true → FM soA (0 :: nB) s s' → AP P r w s' → (∀ x, x < i → ri s' 102 x = bI false) → gG X (d + 7) 243 37 [.ref 80, .int (nI kb), .int (nI kw), .int (nI l.length), .int (nI i), z5, z6] [] (mR s') Q := by
    intro j
    induction j with
    | zero =>
      intro i hi s' z5 z6 n5 hf hAP hz
      have hi : i = 2187 := by omega
      subst hi
      have e33 := (hf.f (i := 33) (by decide)).trans e33
      have hF := hF.fr hf.1
      refine g_p t243_37 rfl ?_
      refine g_k (n := 2187) t243_39 rfl rfl ?_
      refine n_cge t243_42 (by omega) (by omega) (fun h42 => ?_) (fun h42 => ?_)
      · refine g_p t243_59 rfl ?_
        refine r_getr t243_60 (f80 hF) rfl rfl ?_
        refine g_p t243_63 rfl ?_
        refine r_gete t243_64 (f80 hF) rfl rfl e33 ?_
        refine g_k (n := 1) t243_67 rfl rfl ?_
        refine r_zast t243_68 (f102 hF) (by decide) (by omega) ?_
        refine g_k (n := 1) t243_69 rfl rfl ?_
        refine g_is t243_70 (Nat.le_of_ble_eq_true rfl) (am_s1_4 rfl) ?_
        refine DAY 60 0 (by omega) _ _ _ n5 (hf.w (by decide) (by decide)) (fun a b h1 h2 h3 => by rw [ri_wi_ne (by decide)]; exact hAP a b h1 h2 h3) (fun k x hk hx => ?_) (fun m hm2 => ?_)
        · by_cases h9 : 243 * k + x = row
          · rw [h9, ri_wi_eq, dcb_t (show sr P r w row left pd b l 0 k x from ⟨by omega, by omega⟩)]; rfl
          · rw [ri_wi_j h9, hz _ (by omega), dcb_f]
            rintro ⟨h1, h2⟩
            exact h9 (by omega)
        · rintro ⟨a, ha⟩
          have h9 : m = 0 := by omega
          subst h9
          have := ha.1
          omega
      · exfalso; omega
    | succ j ih =>
      intro i hi s' z5 z6 n5 hf hAP hz
      have hF := hF.fr hf.1
      refine g_p t243_37 rfl ?_
      refine g_k (n := 2187) t243_39 rfl rfl ?_
      refine n_cge t243_42 (by omega) (by omega) (fun h42 => ?_) (fun h42 => ?_)
      · exfalso; omega
      · refine g_p t243_45 rfl ?_
        refine r_getr t243_46 (f80 hF) rfl rfl ?_
        refine g_p t243_49 rfl ?_
        refine g_k (n := 0) t243_51 rfl rfl ?_
        refine r_zast t243_52 (f102 hF) (by decide) (by omega) ?_
        refine g_incn (n := 1) t243_53 rfl rfl (Nat.le_of_ble_eq_true rfl) (am_s1_4 rfl) ?_
        refine g_goto t243_56 ?_
        refine ih (i + 1) (by omega) _ _ _ n5 (hf.w (by decide) (by decide)) (fun a b h1 h2 h3 => by rw [ri_wi_ne (by decide)]; exact hAP a b h1 h2 h3) (fun x hx => ?_)
        by_cases h9 : x = i
        · subst h9; exact ri_wi_eq
        · rw [ri_wi_j h9]; exact hz x (by omega)
  refine en243 rfl rfl rfl ?_
  refine g_p t243_0 rfl ?_
  refine g_k (n := 0) t243_1 rfl rfl ?_
  refine r_puti t243_2 (f80 hF) rfl rfl ?_
  refine g_p t243_5 rfl ?_
  refine g_p t243_6 rfl ?_
  refine r_cv t243_7 (f80 hF) rfl ?_
  refine c218B (by exact hF) (by exact m0) hP5 (by exact hM) ?_
  refine k_v ?_ rfl
  rw [hg]
  refine b_eq t243_10 (fun h10 => ?_) (fun h10 => ?_)
  · first
      | (have u0 : (some b).isSome = false := h10
         exact absurd u0 (by simp))
      | (have u0 : (some l).isSome = false := h18
         exact absurd u0 (by simp))
  · refine g_p t243_13 rfl ?_
    refine g_p t243_14 rfl ?_
    refine r_cv t243_15 (f80 hF) rfl ?_
    refine c240 (by exact hF) (by exact hWl) ?_
    refine k_v ?_ rfl
    rw [hg2]
    refine b_ne t243_18 (fun h18 => ?_) (fun h18 => ?_)
    · refine g_p t243_23 rfl ?_
      refine r_cv t243_24 (f80 hF) rfl ?_
      refine c235 (by exact hF) hP5 hP0 (by exact m0) (by exact p1) (by exact p2) hr5 hw5 (by exact e43) (fun s1 f1 hAP => ?_)
      refine k_0 ?_
      have hF := Fx.fr (by exact hF) f1.1
      have m0 := (f1.f (i := 20) (by decide)).trans m0
      have e33 := (f1.f (i := 33) (by decide)).trans e33
      have e35 := (f1.f (i := 35) (by decide)).trans e35
      have e34 := (f1.f (i := 34) (by decide)).trans e34
      have e21 := (f1.f (i := 21) (by decide)).trans e21
      have p1 := (f1.g (p := 85) (i := 1) (by decide)).trans p1
      have p2 := (f1.g (p := 85) (i := 2) (by decide)).trans p2
      have e43 := (f1.f (i := 43) (by decide)).trans e43
      refine g_p t243_27 rfl ?_
      refine r_getr t243_28 (f80 hF) rfl rfl ?_
      refine g_p t243_31 rfl ?_
      refine r_iale t243_32 (f92 hF) (by decide) (by omega) ((f1.g (p := 92) (i := kw) (by decide)).trans hl1.1) ?_
      refine g_isn t243_33 (Nat.le_of_ble_eq_true rfl) (am_s1_3 rfl) ?_
      refine g_k (n := 0) t243_34 rfl rfl ?_
      refine g_is t243_35 (Nat.le_of_ble_eq_true rfl) (am_s1_4 rfl) ?_
      exact INI 2187 0 (by omega) s1 _ _ rfl ((FM.rf.m (by decide)).tr (f1.mono (by decide) (by decide))) hAP (fun x hx => absurd hx (Nat.not_lt_zero x))
    · first
        | (have u0 : (some b).isSome = false := h10
           exact absurd u0 (by simp))
        | (have u0 : (some l).isSome = false := h18
           exact absurd u0 (by simp))
theorem c243f (hF : Fx s) (hP5 : P ≤ 5) (hW : MW P r w pd row day left s) (hr5 : r ≤ 5) (hw5 : w ≤ 5) (e43 : ri s 80 43 = bI false) (hM : MB bks s) (hWl : MWl wds s) (hno : ¬ ((bG P bks x).isSome = true ∧ (wG wds y).isSome = true)) (hq : Q (some (.int (-1))) (mR (wi s 80 0 (nI 0)))) : gE X (d + 7) 243 [.ref 80, .int x, .int y] (mR s) Q := by
  obtain ⟨m0, e21, e33, e34, e35, p1, p2⟩ := id hW
  refine en243 rfl rfl rfl ?_
  refine g_p t243_0 rfl ?_
  refine g_k (n := 0) t243_1 rfl rfl ?_
  refine r_puti t243_2 (f80 hF) rfl rfl ?_
  refine g_p t243_5 rfl ?_
  refine g_p t243_6 rfl ?_
  refine r_cv t243_7 (f80 hF) rfl ?_
  refine c218B (by exact hF) (by exact m0) hP5 (by exact hM) ?_
  refine k_v ?_ rfl
  refine b_eq t243_10 (fun h10 => ?_) (fun h10 => ?_)
  · refine g_p t243_21 rfl ?_
    exact i_ret t243_22 rfl hq
  · refine g_p t243_13 rfl ?_
    refine g_p t243_14 rfl ?_
    refine r_cv t243_15 (f80 hF) rfl ?_
    refine c240 (by exact hF) (by exact hWl) ?_
    refine k_v ?_ rfl
    refine b_ne t243_18 (fun h18 => ?_) (fun h18 => ?_)
    · exact absurd ⟨h10, h18⟩ hno
    · refine g_p t243_21 rfl ?_
      exact i_ret t243_22 rfl hq
end RY
