/-! THE REFERENCE, 15: words -/
def MWl1 (l : List Nat) (n : Nat) (s : mM) : Prop := ri s 92 n = nI l.length ∧ 0 < l.length ∧ l.length ≤ 8 ∧ ∀ k, k < l.length → ri s 91 (8 * n + k) = nI (l.getD k 0) ∧ l.getD k 0 < 8
theorem MWl1.fm {A B : List Nat} {s s' : mM} {l : List Nat} {n : Nat} (h : MWl1 l n s) (f : FM A B s s') (h1 : 91 ∉ 80 :: A) (h2 : 92 ∉ 80 :: A) : MWl1 l n s' := ⟨(f.g h2).trans h.1, h.2.1, h.2.2.1, fun k hk => ⟨(f.g h1).trans (h.2.2.2 k hk).1, (h.2.2.2 k hk).2⟩⟩
def MWl (wds : List (List Nat)) (s : mM) : Prop := ri s 80 31 = nI wds.length ∧ wds.length ≤ 4 ∧ ∀ n, n < wds.length → MWl1 (wds.getD n []) n s
theorem MWl.fm {A B : List Nat} {s s' : mM} {wds : List (List Nat)} (h : MWl wds s) (f : FM A B s s') (h0 : 31 ∉ B) (h1 : 91 ∉ 80 :: A) (h2 : 92 ∉ 80 :: A) : MWl wds s' := ⟨(f.f h0).trans h.1, h.2.1, fun n hn => (h.2.2 n hn).fm f h1 h2⟩
theorem wG_M {s : mM} {wds : List (List Nat)} {x : Int32} {l : List Nat} (h : MWl wds s) (h2 : wG wds x = some l) : ∃ k, k < wds.length ∧ k < 5 ∧ x = nI k ∧ MWl1 l k s := by
  obtain ⟨k, hk, e, e2⟩ := wG_t h2 (by have := h.2.1; omega)
  exact ⟨k, hk, by have := h.2.1; omega, e, e2 ▸ h.2.2 k hk⟩
/-- a word's costs as the reference reckons them: behind the last letter nothing is asked -/
theorem cst_dropR {P r w pd a : Nat} {b : Bk} {l : List Nat} {i : Nat} (h : i < l.length) : cst P r w pd b (l.drop i) a = if std P r w a = true ∧ sy P b a = nI (l.getD i 0) then (if i + 1 = l.length then 0 else onf P r w pd (cst P r w pd b (l.drop (i + 1))) a (mn P)) else 1000 := by
  rw [cst_drop h]
  by_cases hs : std P r w a = true ∧ sy P b a = nI (l.getD i 0)
  · rw [if_pos hs, if_pos hs]
    by_cases h2 : i + 1 = l.length
    · rw [if_pos h2, h2, List.drop_length]
      exact onf_0 (fun y => rfl) hs.1 _ (std_t hs.1).1
    · rw [if_neg h2]
  · rw [if_neg hs, if_neg hs]
theorem dst_lv {P r w a x m : Nat} (ha : std P r w a = true) (hx : std P r w x = true) (hP : P ≤ 5) : dst P r w 1000 a x ≤ m ↔ lv (aj P r w (fun _ _ => true)) a m x := by
  rw [dst_t ha hx]
  obtain ⟨h1, h2⟩ := ds_yes (F := 1000) (lv_10 (r := r) (w := w) (R := fun _ _ => true) hP Rok_t ha hx)
  exact ⟨fun h => lv_up h1 h, fun h => h2 m h⟩
section RX
variable {X : am_X} {d : Nat} {s : mM} {hp : am_H} {Q : Option Value → am_H → Prop} {P r w pd row day left a c k n : Nat} {x y z : Int32} {b : Bk} {bks : List Bk} {wds : List (List Nat)} {l : List Nat}
theorem c240 (hF : Fx s) (hM : MWl wds s) (hq : Q (some (.int (bI (wG wds x).isSome))) (mR s)) : gE X d 240 [.ref 80, .int x] (mR s) Q := by
  have e31 := hM.1
  have h4 := hM.2.1
  have e : (wG wds x).isSome = inN wds.length x := by
    unfold wG
    cases inN wds.length x
    · rw [if_neg (by decide)]; rfl
    · rw [if_pos rfl]; rfl
  rw [e] at hq
  refine en240 rfl rfl ?_
  refine g_p t240_0 rfl ?_
  refine g_lt t240_1 (fun h1 => ?_) (fun h1 => ?_)
  · refine g_k (n := 0) t240_16 rfl rfl ?_
    exact b_ret t240_17 (by first | (rw [inN_f1 h1]; rfl) | (rw [inN_f2 h9]; rfl) | (rw [inN_tt h1 h9]; rfl)) hq
  · refine g_p t240_4 rfl ?_
    refine g_p t240_5 rfl ?_
    refine r_gete t240_6 (f80 hF) rfl rfl e31 ?_
    refine g_cge t240_9 (fun h9 => ?_) (fun h9 => ?_)
    · refine g_k (n := 0) t240_16 rfl rfl ?_
      exact b_ret t240_17 (by first | (rw [inN_f1 h1]; rfl) | (rw [inN_f2 h9]; rfl) | (rw [inN_tt h1 h9]; rfl)) hq
    · refine g_k (n := 1) t240_12 rfl rfl ?_
      refine g_goto t240_13 ?_
      exact b_ret t240_17 (by first | (rw [inN_f1 h1]; rfl) | (rw [inN_f2 h9]; rfl) | (rw [inN_tt h1 h9]; rfl)) hq
theorem c242 (hF : Fx s) (hP5 : P ≤ 5) (hP0 : 0 < P) (m0 : ri s 80 20 = nI P) (p1 : ri s 85 1 = nI r) (p2 : ri s 85 2 = nI w) (hr5 : r ≤ 5) (hw5 : w ≤ 5) (hpd5 : pd ≤ 5) (hAP : AP P r w s) (ha : std P r w a = true) {f : Nat → Nat} (hk : k < 9) (hf : ∀ x, x < mn P → ri s 101 (243 * k + x) = nI (f x) ∧ f x ≤ 1000) (hq : Q (some (.int (nI (onf P r w pd f a (mn P))))) (mR s)) : gE X (d + 4) 242 [.ref 80, .int (nI a), .int (nI k), .int (nI pd)] (mR s) Q := by
  have hm := mn_le hP5
  have haN := (std_t ha).1
  have K : ∀ j x : Nat, x + j = mn P → gG X (d + 4) 242 8 [.ref 80, .int (nI a), .int (nI k), .int (nI pd), .int (nI (onf P r w pd f a x)), .int (nI x)] [] (mR s) Q := by
    intro j
    induction j with
    | zero =>
      intro x hj
      have hj : x = mn P := by omega
      subst hj
      refine g_p t242_8 rfl ?_
      refine g_p t242_10 rfl ?_
      refine r_cv t242_11 (f80 hF) rfl ?_
      refine c209 (by exact hF) (by exact m0) hP5 hP0 ?_
      refine k_v ?_ rfl
      refine n_cge t242_14 (by omega) (by omega) (fun h14 => ?_) (fun h14 => ?_)
      · refine g_p t242_83 rfl ?_
        exact i_ret t242_85 rfl hq
      · exfalso; omega
    | succ j ih =>
      intro x hj
      have hx : x < mn P := by omega
      have ih := ih (x + 1) (by omega)
      unfold onf at ih
      have hon := onf_le (P := P) (r := r) (w := w) (pd := pd) (a := a) (f := f) x
      have hb := hf x hx
      have h15 : dst P r w 15 a x ≤ 15 := dst_le hP5 (by decide)
      have h7 := hb.2
      refine g_p t242_8 rfl ?_
      refine g_p t242_10 rfl ?_
      refine r_cv t242_11 (f80 hF) rfl ?_
      refine c209 (by exact hF) (by exact m0) hP5 hP0 ?_
      refine k_v ?_ rfl
      refine n_cge t242_14 (by omega) (by omega) (fun h14 => ?_) (fun h14 => ?_)
      · exfalso; omega
      · refine g_p t242_17 rfl ?_
        refine g_p t242_18 rfl ?_
        refine r_cv t242_20 (f80 hF) rfl ?_
        refine c214 (by exact hF) (by exact m0) hP5 (by exact p1) (by exact p2) hr5 hw5 (by omega) ?_
        refine k_v ?_ rfl
        refine b_eq t242_23 (fun h23 => ?_) (fun h23 => ?_)
        · refine g_incn (n := 1) t242_77 rfl rfl (Nat.le_of_ble_eq_true rfl) (am_s1_5 rfl) ?_
          refine g_goto t242_80 ?_
          first
            | (have u0 : ¬ pd < dst P r w 15 a x := h40
               rw [if_pos (by omega)] at ih
               exact ih)
            | (have u0 : pd < dst P r w 15 a x := h40
               rw [if_neg (by omega)] at ih
               exact ih)
            | (have u0 : std P r w x = false := h23
               rw [if_neg (by rw [dst_f (fun h => no_b h.2 u0)]; omega)] at ih
               exact ih)
        · refine g_p t242_26 rfl ?_
          refine r_getr t242_27 (f80 hF) rfl rfl ?_
          refine g_k (n := 243) t242_30 rfl rfl ?_
          refine g_p t242_33 rfl ?_
          refine g_muln t242_34 ?_
          refine g_p t242_35 rfl ?_
          refine g_addn t242_37 ?_
          refine r_iale t242_38 (f100 hF) (by decide) (by omega) ((hAP a x haN hx ha).trans (congrArg nI (show dst P r w 1000 a x = dst P r w 15 a x from (d15 hP5).elim (fun h => h.2.2.2) (fun h => absurd ⟨ha, h23⟩ h.1)))) ?_
          refine g_p t242_39 rfl ?_
          refine n_cgt t242_40 (by omega) (by omega) (fun h40 => ?_) (fun h40 => ?_)
          · refine g_incn (n := 1) t242_77 rfl rfl (Nat.le_of_ble_eq_true rfl) (am_s1_5 rfl) ?_
            refine g_goto t242_80 ?_
            first
              | (have u0 : ¬ pd < dst P r w 15 a x := h40
                 rw [if_pos (by omega)] at ih
                 exact ih)
              | (have u0 : pd < dst P r w 15 a x := h40
                 rw [if_neg (by omega)] at ih
                 exact ih)
              | (have u0 : std P r w x = false := h23
                 rw [if_neg (by rw [dst_f (fun h => no_b h.2 u0)]; omega)] at ih
                 exact ih)
          · refine g_p t242_43 rfl ?_
            refine g_p t242_45 rfl ?_
            refine r_getr t242_46 (f80 hF) rfl rfl ?_
            refine g_k (n := 243) t242_49 rfl rfl ?_
            refine g_p t242_52 rfl ?_
            refine g_muln t242_53 ?_
            refine g_p t242_54 rfl ?_
            refine g_addn t242_56 ?_
            refine r_iale t242_57 (f100 hF) (by decide) (by omega) ((hAP a x haN hx ha).trans (congrArg nI (show dst P r w 1000 a x = dst P r w 15 a x from (d15 hP5).elim (fun h => h.2.2.2) (fun h => absurd ⟨ha, h23⟩ h.1)))) ?_
            refine g_p t242_58 rfl ?_
            refine r_getr t242_59 (f80 hF) rfl rfl ?_
            refine g_k (n := 243) t242_62 rfl rfl ?_
            refine g_p t242_65 rfl ?_
            refine g_muln t242_66 ?_
            refine g_p t242_67 rfl ?_
            refine g_addn t242_69 ?_
            refine r_iale t242_70 (f101 hF) (by decide) (by omega) hb.1 ?_
            refine g_addn t242_71 ?_
            refine g_minn t242_72 (by omega) (by omega) (Nat.le_of_ble_eq_true rfl) ?_
            refine g_is t242_75 (Nat.le_of_ble_eq_true rfl) (am_s1_4 rfl) ?_
            refine g_incn (n := 1) t242_77 rfl rfl (Nat.le_of_ble_eq_true rfl) (am_s1_5 rfl) ?_
            refine g_goto t242_80 ?_
            first
              | (have u0 : ¬ pd < dst P r w 15 a x := h40
                 rw [if_pos (by omega)] at ih
                 exact ih)
              | (have u0 : pd < dst P r w 15 a x := h40
                 rw [if_neg (by omega)] at ih
                 exact ih)
              | (have u0 : std P r w x = false := h23
                 rw [if_neg (by rw [dst_f (fun h => no_b h.2 u0)]; omega)] at ih
                 exact ih)
  refine en242 rfl rfl rfl rfl ?_
  refine g_k (n := 1000) t242_0 rfl rfl ?_
  refine g_is t242_3 (Nat.le_of_ble_eq_true rfl) (am_s1_4 rfl) ?_
  refine g_k (n := 0) t242_5 rfl rfl ?_
  refine g_is t242_6 (Nat.le_of_ble_eq_true rfl) (am_s1_5 rfl) ?_
  exact K (mn P) 0 (by omega)
abbrev wdA : List Nat := [84, 97, 98, 99, 100, 101]
def CO (P r w pd : Nat) (b : Bk) (l : List Nat) (k : Nat) (s : mM) : Prop := ∀ a, a < mn P → ri s 101 (243 * k + a) = nI (cst P r w pd b (l.drop k) a)
theorem c241t (hF : Fx s) (hP5 : P ≤ 5) (hW : MW P r w pd row day left s) (hr5 : r ≤ 5) (hw5 : w ≤ 5) (e43 : ri s 80 43 = bI false) (hst : 0 < P → std P r w row = true) (hl5 : left ≤ 5) (hpd5 : pd ≤ 5) (hM : MB bks s) (hWl : MWl wds s) (hg : bG P bks x = some b) (hg2 : wG wds y = some l) (hh : isH z = true)
    (hq : ∀ s', FM wdA (0 :: nB) s s' → Q (some (.int (wrd P z (bw P r w row left (cst P r w pd b l) (mn P))))) (mR s')) : gE X (d + 7) 241 [.ref 80, .int x, .int y, .int z] (mR s) Q := by
  obtain ⟨m0, e21, e33, e34, e35, p1, p2⟩ := id hW
  have hm := mn_le hP5
  obtain ⟨hP0, kb, hkb, hkb4, rfl, hB1⟩ := bG_M hM hg
  obtain ⟨kw, hkw, hkw5, rfl, hl1⟩ := wG_M hWl hg2
  have hs := hst hP0
  have hrN := (std_t hs).1
  have hlen := hl1.2.1
  have hlen8 := hl1.2.2.1
  have BST : ∀ s1 : mM, Fx s1 → FM wdA (0 :: nB) s s1 → ri s1 80 20 = nI P → ri s1 80 33 = nI row → ri s1 80 35 = nI left → ri s1 85 1 = nI r → ri s1 85 2 = nI w → AP P r w s1 → CO P r w pd b l 0 s1 → ∀ j c : Nat, c + j = mn P → ∀ z8, gG X (d + 7) 241 172 [.ref 80, .int (nI kb), .int (nI kw), .int z, .int (nI l.length), .int (oI (bw P r w row left (cst P r w pd b l) c).1), .int (nI (bw P r w row left (cst P r w pd b l) c).2), .int (nI c), z8] [] (mR s1) Q := by
    intro s1 hF hf m0 e33 e35 p1 p2 hAP hCO j
    induction j with
    | zero =>
      intro c hj z8
      have hj : c = mn P := by omega
      subst hj
      have hbl := bw_le (P := P) (r := r) (w := w) (row := row) (left := left) (f := cst P r w pd b l) (mn P)
      obtain ⟨W, hW9⟩ : ∃ W, W = bw P r w row left (cst P r w pd b l) (mn P) := ⟨_, rfl⟩
      have hlt := bw_lt (P := P) (r := r) (w := w) (row := row) (left := left) (f := cst P r w pd b l) (mn P)
      rw [← hW9] at hq hbl hlt ⊢
      obtain ⟨o, v⟩ := W
      cases o with
      | none =>
        show gG X (d + 7) 241 172 [.ref 80, .int (nI kb), .int (nI kw), .int z, .int (nI l.length), .int (-1), .int (nI v), .int (nI (mn P)), z8] [] (mR s1) Q
        refine g_p t241_172 rfl ?_
        refine g_p t241_174 rfl ?_
        refine r_cv t241_175 (f80 hF) rfl ?_
        refine c209 (by exact hF) (by exact m0) hP5 hP0 ?_
        refine k_v ?_ rfl
        refine n_cge t241_178 (by omega) (by omega) (fun h178 => ?_) (fun h178 => ?_)
        · refine g_p t241_266 rfl ?_
          refine g_p t241_268 rfl ?_
          refine g_cne t241_269 (fun h269 => ?_) (fun h269 => ?_)
          · exact absurd rfl h269
          · refine g_p t241_272 rfl ?_
            refine g_goto t241_273 ?_
            exact i_ret t241_291 rfl (hq _ hf)
        · exfalso; omega
      | some t =>
        have ht := hlt t rfl
        show gG X (d + 7) 241 172 [.ref 80, .int (nI kb), .int (nI kw), .int z, .int (nI l.length), .int (nI t), .int (nI v), .int (nI (mn P)), z8] [] (mR s1) Q
        refine g_p t241_172 rfl ?_
        refine g_p t241_174 rfl ?_
        refine r_cv t241_175 (f80 hF) rfl ?_
        refine c209 (by exact hF) (by exact m0) hP5 hP0 ?_
        refine k_v ?_ rfl
        refine n_cge t241_178 (by omega) (by omega) (fun h178 => ?_) (fun h178 => ?_)
        · refine g_p t241_266 rfl ?_
          refine g_p t241_268 rfl ?_
          refine g_cne t241_269 (fun h269 => ?_) (fun h269 => ?_)
          · refine g_p t241_276 rfl ?_
            refine g_ne t241_277 (fun h277 => ?_) (fun h277 => ?_)
            · refine g_p t241_285 rfl ?_
              refine g_p t241_286 rfl ?_
              refine r_cv t241_288 (f80 hF) rfl ?_
              refine c215 (by exact hF) (by exact m0) hP5 (by omega) ?_
              refine k_v ?_ rfl
              first
                | (have u0 : z = 0 := h277
                   refine i_ret t241_291 ?_ (hq _ hf)
                   show _ = (if z = 0 then nI _ else nI _)
                   rw [if_pos u0])
                | (have u0 : ¬ z = 0 := h277
                   refine i_ret t241_291 ?_ (hq _ hf)
                   show _ = (if z = 0 then nI _ else nI _)
                   rw [if_neg u0])
            · refine g_p t241_280 rfl ?_
              refine g_goto t241_282 ?_
              first
                | (have u0 : z = 0 := h277
                   refine i_ret t241_291 ?_ (hq _ hf)
                   show _ = (if z = 0 then nI _ else nI _)
                   rw [if_pos u0])
                | (have u0 : ¬ z = 0 := h277
                   refine i_ret t241_291 ?_ (hq _ hf)
                   show _ = (if z = 0 then nI _ else nI _)
                   rw [if_neg u0])
          · exact absurd h269 (nI_m1 (by omega))
        · exfalso; omega
    | succ j ih =>
      intro c hj z8
      have hcN : c < mn P := by omega
      have ih := fun z8 => ih (c + 1) (by omega) z8
      unfold bw at ih
      have hbl := bw_le (P := P) (r := r) (w := w) (row := row) (left := left) (f := cst P r w pd b l) c
      have hc1 := hCO c hcN
      rw [List.drop_zero, Nat.mul_zero, Nat.zero_add] at hc1
      have hcl := cst_le (P := P) (r := r) (w := w) (pd := pd) (a := c) (b := b) (l := l)
      have hap := hAP row c hrN hcN hs
      have hb1000 : dst P r w 1000 row c ≤ 1000 := dst_le hP5 (by decide)
      obtain ⟨W, hW9⟩ : ∃ W, W = bw P r w row left (cst P r w pd b l) c := ⟨_, rfl⟩
      rw [← hW9] at ih hbl ⊢
      refine g_p t241_172 rfl ?_
      refine g_p t241_174 rfl ?_
      refine r_cv t241_175 (f80 hF) rfl ?_
      refine c209 (by exact hF) (by exact m0) hP5 hP0 ?_
      refine k_v ?_ rfl
      refine n_cge t241_178 (by omega) (by omega) (fun h178 => ?_) (fun h178 => ?_)
      · exfalso; omega
      · refine g_p t241_181 rfl ?_
        refine g_p t241_182 rfl ?_
        refine r_cv t241_184 (f80 hF) rfl ?_
        refine c214 (by exact hF) (by exact m0) hP5 (by exact p1) (by exact p2) hr5 hw5 (by omega) ?_
        refine k_v ?_ rfl
        refine b_eq t241_187 (fun h187 => ?_) (fun h187 => ?_)
        · refine g_incn (n := 1) t241_260 rfl rfl (Nat.le_of_ble_eq_true rfl) (am_s1_7 rfl) ?_
          refine g_goto t241_263 ?_
          first
            | (have u0 : std P r w c = false := h187
               have u1 : ¬ (dst P r w 15 row c ≤ left ∧ dst P r w 15 row c + cst P r w pd b l c < W.2) := fun h => by
                 rw [dst_f (fun h2 => no_b h2.2 u0)] at h
                 omega
               rw [if_neg u1] at ih
               exact ih _)
            | (have u9 : dst P r w 1000 row c = dst P r w 15 row c := (d15 hP5).elim (fun h => h.2.2.2) (fun h => absurd ⟨hs, h187⟩ h.1)
               have u0 : ¬ dst P r w 1000 row c ≤ left := h210
               rw [if_neg (fun h => u0 (by rw [u9]; exact h.1))] at ih
               exact ih _)
            | (have u9 : dst P r w 1000 row c = dst P r w 15 row c := (d15 hP5).elim (fun h => h.2.2.2) (fun h => absurd ⟨hs, h187⟩ h.1)
               have u0 : dst P r w 1000 row c ≤ left := h210
               have u1 : dst P r w 1000 row c + cst P r w pd b l c < W.2 := h246
               rw [u9] at u0 u1 ⊢
               rw [if_pos ⟨u0, u1⟩] at ih
               exact ih _)
            | (have u9 : dst P r w 1000 row c = dst P r w 15 row c := (d15 hP5).elim (fun h => h.2.2.2) (fun h => absurd ⟨hs, h187⟩ h.1)
               have u1 : ¬ dst P r w 1000 row c + cst P r w pd b l c < W.2 := h246
               rw [u9] at u1
               rw [if_neg (fun h => u1 h.2)] at ih
               exact ih _)
        · refine g_p t241_190 rfl ?_
          refine r_getr t241_191 (f80 hF) rfl rfl ?_
          refine g_k (n := 243) t241_194 rfl rfl ?_
          refine g_p t241_197 rfl ?_
          refine r_gete t241_198 (f80 hF) rfl rfl e33 ?_
          refine g_muln t241_201 ?_
          refine g_p t241_202 rfl ?_
          refine g_addn t241_204 ?_
          refine r_iale t241_205 (f100 hF) (by decide) (by omega) hap ?_
          refine g_p t241_206 rfl ?_
          refine r_gete t241_207 (f80 hF) rfl rfl e35 ?_
          refine n_cle t241_210 (by omega) (by omega) (fun h210 => ?_) (fun h210 => ?_)
          · refine g_p t241_216 rfl ?_
            refine r_getr t241_217 (f80 hF) rfl rfl ?_
            refine g_k (n := 243) t241_220 rfl rfl ?_
            refine g_p t241_223 rfl ?_
            refine r_gete t241_224 (f80 hF) rfl rfl e33 ?_
            refine g_muln t241_227 ?_
            refine g_p t241_228 rfl ?_
            refine g_addn t241_230 ?_
            refine r_iale t241_231 (f100 hF) (by decide) (by omega) hap ?_
            refine g_p t241_232 rfl ?_
            refine r_getr t241_233 (f80 hF) rfl rfl ?_
            refine g_p t241_236 rfl ?_
            refine r_iale t241_238 (f101 hF) (by decide) (by omega) hc1 ?_
            refine g_addn t241_239 ?_
            refine g_is t241_240 (Nat.le_of_ble_eq_true rfl) (am_s1_8 rfl) ?_
            refine g_p t241_242 rfl ?_
            refine g_p t241_244 rfl ?_
            refine n_clt t241_246 (by omega) (by omega) (fun h246 => ?_) (fun h246 => ?_)
            · refine g_p t241_252 rfl ?_
              refine g_is t241_254 (Nat.le_of_ble_eq_true rfl) (am_s1_5 rfl) ?_
              refine g_p t241_256 rfl ?_
              refine g_is t241_258 (Nat.le_of_ble_eq_true rfl) (am_s1_6 rfl) ?_
              refine g_incn (n := 1) t241_260 rfl rfl (Nat.le_of_ble_eq_true rfl) (am_s1_7 rfl) ?_
              refine g_goto t241_263 ?_
              first
                | (have u0 : std P r w c = false := h187
                   have u1 : ¬ (dst P r w 15 row c ≤ left ∧ dst P r w 15 row c + cst P r w pd b l c < W.2) := fun h => by
                     rw [dst_f (fun h2 => no_b h2.2 u0)] at h
                     omega
                   rw [if_neg u1] at ih
                   exact ih _)
                | (have u9 : dst P r w 1000 row c = dst P r w 15 row c := (d15 hP5).elim (fun h => h.2.2.2) (fun h => absurd ⟨hs, h187⟩ h.1)
                   have u0 : ¬ dst P r w 1000 row c ≤ left := h210
                   rw [if_neg (fun h => u0 (by rw [u9]; exact h.1))] at ih
                   exact ih _)
                | (have u9 : dst P r w 1000 row c = dst P r w 15 row c := (d15 hP5).elim (fun h => h.2.2.2) (fun h => absurd ⟨hs, h187⟩ h.1)
                   have u0 : dst P r w 1000 row c ≤ left := h210
                   have u1 : dst P r w 1000 row c + cst P r w pd b l c < W.2 := h246
                   rw [u9] at u0 u1 ⊢
                   rw [if_pos ⟨u0, u1⟩] at ih
                   exact ih _)
                | (have u9 : dst P r w 1000 row c = dst P r w 15 row c := (d15 hP5).elim (fun h => h.2.2.2) (fun h => absurd ⟨hs, h187⟩ h.1)
                   have u1 : ¬ dst P r w 1000 row c + cst P r w pd b l c < W.2 := h246
                   rw [u9] at u1
                   rw [if_neg (fun h => u1 h.2)] at ih
                   exact ih _)
            · refine g_goto t241_249 ?_
              refine g_incn (n := 1) t241_260 rfl rfl (Nat.le_of_ble_eq_true rfl) (am_s1_7 rfl) ?_
              refine g_goto t241_263 ?_
              first
                | (have u0 : std P r w c = false := h187
                   have u1 : ¬ (dst P r w 15 row c ≤ left ∧ dst P r w 15 row c + cst P r w pd b l c < W.2) := fun h => by
                     rw [dst_f (fun h2 => no_b h2.2 u0)] at h
                     omega
                   rw [if_neg u1] at ih
                   exact ih _)
                | (have u9 : dst P r w 1000 row c = dst P r w 15 row c := (d15 hP5).elim (fun h => h.2.2.2) (fun h => absurd ⟨hs, h187⟩ h.1)
                   have u0 : ¬ dst P r w 1000 row c ≤ left := h210
                   rw [if_neg (fun h => u0 (by rw [u9]; exact h.1))] at ih
                   exact ih _)
                | (have u9 : dst P r w 1000 row c = dst P r w 15 row c := (d15 hP5).elim (fun h => h.2.2.2) (fun h => absurd ⟨hs, h187⟩ h.1)
                   have u0 : dst P r w 1000 row c ≤ left := h210
                   have u1 : dst P r w 1000 row c + cst P r w pd b l c < W.2 := h246
                   rw [u9] at u0 u1 ⊢
                   rw [if_pos ⟨u0, u1⟩] at ih
                   exact ih _)
                | (have u9 : dst P r w 1000 row c = dst P r w 15 row c := (d15 hP5).elim (fun h => h.2.2.2) (fun h => absurd ⟨hs, h187⟩ h.1)
                   have u1 : ¬ dst P r w 1000 row c + cst P r w pd b l c < W.2 := h246
                   rw [u9] at u1
                   rw [if_neg (fun h => u1 h.2)] at ih
                   exact ih _)
          · refine g_goto t241_213 ?_
            refine g_incn (n := 1) t241_260 rfl rfl (Nat.le_of_ble_eq_true rfl) (am_s1_7 rfl) ?_
            refine g_goto t241_263 ?_
            first
              | (have u0 : std P r w c = false := h187
                 have u1 : ¬ (dst P r w 15 row c ≤ left ∧ dst P r w 15 row c + cst P r w pd b l c < W.2) := fun h => by
                   rw [dst_f (fun h2 => no_b h2.2 u0)] at h
                   omega
                 rw [if_neg u1] at ih
                 exact ih _)
              | (have u9 : dst P r w 1000 row c = dst P r w 15 row c := (d15 hP5).elim (fun h => h.2.2.2) (fun h => absurd ⟨hs, h187⟩ h.1)
                 have u0 : ¬ dst P r w 1000 row c ≤ left := h210
                 rw [if_neg (fun h => u0 (by rw [u9]; exact h.1))] at ih
                 exact ih _)
              | (have u9 : dst P r w 1000 row c = dst P r w 15 row c := (d15 hP5).elim (fun h => h.2.2.2) (fun h => absurd ⟨hs, h187⟩ h.1)
                 have u0 : dst P r w 1000 row c ≤ left := h210
                 have u1 : dst P r w 1000 row c + cst P r w pd b l c < W.2 := h246
                 rw [u9] at u0 u1 ⊢
                 rw [if_pos ⟨u0, u1⟩] at ih
                 exact ih _)
              | (have u9 : dst P r w 1000 row c = dst P r w 15 row c := (d15 hP5).elim (fun h => h.2.2.2) (fun h => absurd ⟨hs, h187⟩ h.1)
                 have u1 : ¬ dst P r w 1000 row c + cst P r w pd b l c < W.2 := h246
                 rw [u9] at u1
                 rw [if_neg (fun h => u1 h.2)] at ih
                 exact ih _)
  have TOP : ∀ m, m ≤ l.length → ∀ s' z6 z7 z8, am_nl z6 = true → am_nl z7 = true → FM wdA (0 :: nB) s s' → AP P r w s' → (m < l.length → CO P r w pd b l m s') → gG X (d + 7) 241 51 [.ref 80, .int (nI kb), .int (nI kw), .int z, .int (nI l.length), .int (pm m), z6, z7, z8] [] (mR s') Q := by
    intro m
    induction m with
    | zero =>
      intro hml s' z6 z7 z8 n6 n7 hf hAP hCO
      have hCO := hCO hlen
      have e33 := (hf.f (i := 33) (by decide)).trans e33
      have e35 := (hf.f (i := 35) (by decide)).trans e35
      have hF := hF.fr hf.1
      have m0 := (hf.f (i := 20) (by decide)).trans m0
      have p1 := (hf.g (p := 85) (i := 1) (by decide)).trans p1
      have p2 := (hf.g (p := 85) (i := 2) (by decide)).trans p2
      have e21 := (hf.f (i := 21) (by decide)).trans e21
      have hB1 := MB1.fm (A := 80 :: wdA) (B := []) hB1 hf.1 (by decide) (by decide) (by decide) (by decide)
      have hl1 := hl1.fm hf (by decide) (by decide)
      show gG X (d + 7) 241 51 [.ref 80, .int (nI kb), .int (nI kw), .int z, .int (nI l.length), .int (-1), z6, z7, z8] [] (mR s') Q
      refine g_p t241_51 rfl ?_
      refine g_lt t241_53 (fun h53 => ?_) (fun h53 => ?_)
      · refine g_p t241_161 rfl ?_
        refine g_is t241_162 (Nat.le_of_ble_eq_true rfl) (am_s1_5 rfl) ?_
        refine g_k (n := 1000) t241_164 rfl rfl ?_
        refine g_is t241_167 (Nat.le_of_ble_eq_true rfl) (am_s1_6 rfl) ?_
        refine g_k (n := 0) t241_169 rfl rfl ?_
        refine g_is t241_170 (Nat.le_of_ble_eq_true rfl) (am_s1_7 rfl) ?_
        exact BST _ hF hf m0 e33 e35 p1 p2 hAP hCO (mn P) 0 (by omega) _
      · exact absurd (by decide) h53
    | succ m ihm =>
      intro hml s' z6 z7 z8 n6 n7 hf hAP hCO
      show gG X (d + 7) 241 51 [.ref 80, .int (nI kb), .int (nI kw), .int z, .int (nI l.length), .int (nI m), z6, z7, z8] [] (mR s') Q
      have I : ∀ j a : Nat, a + j = mn P → ∀ s' z7 z8, am_nl z7 = true → FM wdA (0 :: nB) s s' → AP P r w s' → (m + 1 < l.length → CO P r w pd b l (m + 1) s') → (∀ x, x < a → ri s' 101 (243 * m + x) = nI (cst P r w pd b (l.drop m) x)) → gG X (d + 7) 241 59 [.ref 80, .int (nI kb), .int (nI kw), .int z, .int (nI l.length), .int (nI m), .int (nI a), z7, z8] [] (mR s') Q := by
        intro j
        induction j with
        | zero =>
          intro a hj s' z7 z8 n7 hf hAP hCO hpr
          have hj : a = mn P := by omega
          subst hj
          have hF := hF.fr hf.1
          have m0 := (hf.f (i := 20) (by decide)).trans m0
          have p1 := (hf.g (p := 85) (i := 1) (by decide)).trans p1
          have p2 := (hf.g (p := 85) (i := 2) (by decide)).trans p2
          have e21 := (hf.f (i := 21) (by decide)).trans e21
          have hB1 := MB1.fm (A := 80 :: wdA) (B := []) hB1 hf.1 (by decide) (by decide) (by decide) (by decide)
          have hl1 := hl1.fm hf (by decide) (by decide)
          refine g_p t241_59 rfl ?_
          refine g_p t241_61 rfl ?_
          refine r_cv t241_62 (f80 hF) rfl ?_
          refine c209 (by exact hF) (by exact m0) hP5 hP0 ?_
          refine k_v ?_ rfl
          refine n_cge t241_65 (by omega) (by omega) (fun h65 => ?_) (fun h65 => ?_)
          · refine g_inc t241_155 rfl (Nat.le_of_ble_eq_true rfl) (am_s1_5 rfl) ?_
            refine g_goto t241_158 ?_
            rw [pm_s]
            exact ihm (by omega) _ _ _ _ rfl n7 hf hAP (fun _ a ha => hpr a ha)
          · exfalso; omega
        | succ j ih =>
          intro a hj s' z7 z8 n7 hf hAP hCO hpr
          have haN : a < mn P := by omega
          have ih := ih (a + 1) (by omega)
          have hcd := cst_dropR (P := P) (r := r) (w := w) (pd := pd) (a := a) (b := b) (i := m) (by omega : m < l.length)
          have hF := hF.fr hf.1
          have m0 := (hf.f (i := 20) (by decide)).trans m0
          have p1 := (hf.g (p := 85) (i := 1) (by decide)).trans p1
          have p2 := (hf.g (p := 85) (i := 2) (by decide)).trans p2
          have e21 := (hf.f (i := 21) (by decide)).trans e21
          have hB1 := MB1.fm (A := 80 :: wdA) (B := []) hB1 hf.1 (by decide) (by decide) (by decide) (by decide)
          have hl1 := hl1.fm hf (by decide) (by decide)
          have hlm := hl1.2.2.2 m (by omega)
          have ST : ∀ v : Nat, nI v = nI (cst P r w pd b (l.drop m) a) → gG X (d + 7) 241 133 [.ref 80, .int (nI kb), .int (nI kw), .int z, .int (nI l.length), .int (nI m), .int (nI a), .int (nI v), z8] [] (mR s') Q := by
            intro v hv
            refine g_p t241_133 rfl ?_
            refine r_getr t241_134 (f80 hF) rfl rfl ?_
            refine g_k (n := 243) t241_137 rfl rfl ?_
            refine g_p t241_140 rfl ?_
            refine g_muln t241_142 ?_
            refine g_p t241_143 rfl ?_
            refine g_addn t241_145 ?_
            refine g_p t241_146 rfl ?_
            refine r_iast t241_148 (f101 hF) (by decide) (by omega) ?_
            refine g_incn (n := 1) t241_149 rfl rfl (Nat.le_of_ble_eq_true rfl) (am_s1_6 rfl) ?_
            refine g_goto t241_152 ?_
            refine ih _ _ _ rfl (hf.w (by decide) (by decide)) (fun a b h1 h2 h3 => ?_) (fun h a2 ha2 => ?_) (fun x2 hx2 => ?_)
            · rw [ri_wi_ne (by decide)]; exact hAP a b h1 h2 h3
            · rw [ri_wi_j (by omega)]; exact hCO h a2 ha2
            · by_cases h9 : x2 = a
              · subst h9; rw [ri_wi_eq]; exact hv
              · rw [ri_wi_j (by omega)]; exact hpr x2 (by omega)
          refine g_p t241_59 rfl ?_
          refine g_p t241_61 rfl ?_
          refine r_cv t241_62 (f80 hF) rfl ?_
          refine c209 (by exact hF) (by exact m0) hP5 hP0 ?_
          refine k_v ?_ rfl
          refine n_cge t241_65 (by omega) (by omega) (fun h65 => ?_) (fun h65 => ?_)
          · exfalso; omega
          · refine g_k (n := 1000) t241_68 rfl rfl ?_
            refine g_is t241_71 (Nat.le_of_ble_eq_true rfl) (am_s1_7 rfl) ?_
            refine g_p t241_73 rfl ?_
            refine g_p t241_74 rfl ?_
            refine r_cv t241_76 (f80 hF) rfl ?_
            refine c214 (by exact hF) (by exact m0) hP5 (by exact p1) (by exact p2) hr5 hw5 (by omega) ?_
            refine k_v ?_ rfl
            refine b_eq t241_79 (fun h79 => ?_) (fun h79 => ?_)
            · first
                | (have u0 : std P r w a = false := h79
                   refine ST _ ?_
                   rw [hcd, if_neg (fun h => no_b h.1 u0)])
                | (have u0 : ¬ sy P b a = nI (l.getD m 0) := h101
                   refine ST _ ?_
                   rw [hcd, if_neg (fun h => u0 h.2)])
                | (have u0 : m = l.length - 1 := h110
                   refine ST _ ?_
                   rw [hcd, if_pos ⟨h79, h101⟩, if_pos (by omega)])
                | (have u0 : ¬ m = l.length - 1 := h110
                   refine ST _ ?_
                   rw [hcd, if_pos ⟨h79, h101⟩, if_neg (by omega)])
            · refine g_p t241_82 rfl ?_
              refine g_p t241_83 rfl ?_
              refine g_p t241_84 rfl ?_
              refine r_cv t241_86 (f80 hF) rfl ?_
              refine c231 (by exact hF) (by exact m0) hP5 (by exact hB1) hkb4 (by omega) ?_
              refine k_v ?_ rfl
              refine g_p t241_89 rfl ?_
              refine r_getr t241_90 (f80 hF) rfl rfl ?_
              refine g_k (n := 8) t241_93 rfl rfl ?_
              refine g_p t241_95 rfl ?_
              refine g_muln t241_96 ?_
              refine g_p t241_97 rfl ?_
              refine g_addn t241_99 ?_
              refine r_iale t241_100 (f91 hF) (by decide) (by omega) hlm.1 ?_
              refine g_cne t241_101 (fun h101 => ?_) (fun h101 => ?_)
              · first
                  | (have u0 : std P r w a = false := h79
                     refine ST _ ?_
                     rw [hcd, if_neg (fun h => no_b h.1 u0)])
                  | (have u0 : ¬ sy P b a = nI (l.getD m 0) := h101
                     refine ST _ ?_
                     rw [hcd, if_neg (fun h => u0 h.2)])
                  | (have u0 : m = l.length - 1 := h110
                     refine ST _ ?_
                     rw [hcd, if_pos ⟨h79, h101⟩, if_pos (by omega)])
                  | (have u0 : ¬ m = l.length - 1 := h110
                     refine ST _ ?_
                     rw [hcd, if_pos ⟨h79, h101⟩, if_neg (by omega)])
              · refine g_p t241_104 rfl ?_
                refine g_p t241_106 rfl ?_
                refine g_k (n := 1) t241_108 rfl rfl ?_
                refine g_subn t241_109 (by omega) ?_
                refine n_cne t241_110 (by omega) (by omega) (fun h110 => ?_) (fun h110 => ?_)
                · refine g_p t241_117 rfl ?_
                  refine g_p t241_118 rfl ?_
                  refine g_p t241_120 rfl ?_
                  refine g_k (n := 1) t241_122 rfl rfl ?_
                  refine g_addn t241_123 ?_
                  refine g_p t241_124 rfl ?_
                  refine r_gete t241_125 (f80 hF) rfl rfl e21 ?_
                  refine r_cv t241_128 (f80 hF) rfl ?_
                  refine c242 (by exact hF) hP5 hP0 (by exact m0) (by exact p1) (by exact p2) hr5 hw5 hpd5 (by exact hAP) h79 (k := m + 1) (by omega) (fun x hx => ⟨hCO (by have u0 : ¬ m = l.length - 1 := h110; omega) x hx, cst_le⟩) ?_
                  refine k_v ?_ rfl
                  refine g_is t241_131 (Nat.le_of_ble_eq_true rfl) (am_s1_7 rfl) ?_
                  first
                    | (have u0 : std P r w a = false := h79
                       refine ST _ ?_
                       rw [hcd, if_neg (fun h => no_b h.1 u0)])
                    | (have u0 : ¬ sy P b a = nI (l.getD m 0) := h101
                       refine ST _ ?_
                       rw [hcd, if_neg (fun h => u0 h.2)])
                    | (have u0 : m = l.length - 1 := h110
                       refine ST _ ?_
                       rw [hcd, if_pos ⟨h79, h101⟩, if_pos (by omega)])
                    | (have u0 : ¬ m = l.length - 1 := h110
                       refine ST _ ?_
                       rw [hcd, if_pos ⟨h79, h101⟩, if_neg (by omega)])
                · refine g_k (n := 0) t241_113 rfl rfl ?_
                  refine g_goto t241_114 ?_
                  refine g_is t241_131 (Nat.le_of_ble_eq_true rfl) (am_s1_7 rfl) ?_
                  first
                    | (have u0 : std P r w a = false := h79
                       refine ST _ ?_
                       rw [hcd, if_neg (fun h => no_b h.1 u0)])
                    | (have u0 : ¬ sy P b a = nI (l.getD m 0) := h101
                       refine ST _ ?_
                       rw [hcd, if_neg (fun h => u0 h.2)])
                    | (have u0 : m = l.length - 1 := h110
                       refine ST _ ?_
                       rw [hcd, if_pos ⟨h79, h101⟩, if_pos (by omega)])
                    | (have u0 : ¬ m = l.length - 1 := h110
                       refine ST _ ?_
                       rw [hcd, if_pos ⟨h79, h101⟩, if_neg (by omega)])
      have hF := hF.fr hf.1
      have m0 := (hf.f (i := 20) (by decide)).trans m0
      have p1 := (hf.g (p := 85) (i := 1) (by decide)).trans p1
      have p2 := (hf.g (p := 85) (i := 2) (by decide)).trans p2
      have e21 := (hf.f (i := 21) (by decide)).trans e21
      have hB1 := MB1.fm (A := 80 :: wdA) (B := []) hB1 hf.1 (by decide) (by decide) (by decide) (by decide)
      have hl1 := hl1.fm hf (by decide) (by decide)
      refine g_p t241_51 rfl ?_
      refine n_lt t241_53 (by omega) ?_
      refine g_k (n := 0) t241_56 rfl rfl ?_
      refine g_is t241_57 (Nat.le_of_ble_eq_true rfl) (am_s1_6 rfl) ?_
      exact I (mn P) 0 (by omega) _ _ _ n7 hf hAP (fun h => hCO h) (fun x hx => absurd hx (Nat.not_lt_zero x))
  refine en241 rfl rfl rfl rfl ?_
  refine g_p t241_0 rfl ?_
  refine g_k (n := 0) t241_1 rfl rfl ?_
  refine r_puti t241_2 (f80 hF) rfl rfl ?_
  refine g_p t241_5 rfl ?_
  refine g_p t241_6 rfl ?_
  refine r_cv t241_7 (f80 hF) rfl ?_
  refine c218B (by exact hF) (by exact m0) hP5 (by exact hM) ?_
  refine k_v ?_ rfl
  rw [hg]
  refine b_eq t241_10 (fun h10 => ?_) (fun h10 => ?_)
  · first
      | (have u0 : (some b).isSome = false := h10
         exact absurd u0 (by simp))
      | (have u0 : (some l).isSome = false := h18
         exact absurd u0 (by simp))
      | exact absurd h28 (by decide)
  · refine g_p t241_13 rfl ?_
    refine g_p t241_14 rfl ?_
    refine r_cv t241_15 (f80 hF) rfl ?_
    refine c240 (by exact hF) (by exact hWl) ?_
    refine k_v ?_ rfl
    rw [hg2]
    refine b_eq t241_18 (fun h18 => ?_) (fun h18 => ?_)
    · first
        | (have u0 : (some b).isSome = false := h10
           exact absurd u0 (by simp))
        | (have u0 : (some l).isSome = false := h18
           exact absurd u0 (by simp))
        | exact absurd h28 (by decide)
    · refine g_p t241_21 rfl ?_
      refine g_p t241_22 rfl ?_
      refine g_p t241_23 rfl ?_
      refine g_p t241_24 rfl ?_
      refine g_cs t241_25 rfl rfl rfl ?_
      refine c176i (a := 0) (b := 1) rfl rfl ?_
      rw [isR_H, hh]
      refine k_v ?_ rfl
      refine b_ne t241_28 (fun h28 => ?_) (fun h28 => ?_)
      · refine g_p t241_33 rfl ?_
        refine r_cv t241_34 (f80 hF) rfl ?_
        refine c235 (by exact hF) hP5 hP0 (by exact m0) (by exact p1) (by exact p2) hr5 hw5 (by exact e43) (fun s1 f1 hAP => ?_)
        refine k_0 ?_
        have hF := Fx.fr (by exact hF) f1.1
        have m0 := (f1.f (i := 20) (by decide)).trans m0
        have e33 := (f1.f (i := 33) (by decide)).trans e33
        have e35 := (f1.f (i := 35) (by decide)).trans e35
        have e34 := (f1.f (i := 34) (by decide)).trans e34
        have e21 := (f1.f (i := 21) (by decide)).trans e21
        have p1 := (f1.g (p := 85) (i := 1) (by decide)).trans p1
        have p2 := (f1.g (p := 85) (i := 2) (by decide)).trans p2
        have e43 := (f1.f (i := 43) (by decide)).trans e43
        refine g_p t241_37 rfl ?_
        refine r_getr t241_38 (f80 hF) rfl rfl ?_
        refine g_p t241_41 rfl ?_
        refine r_iale t241_42 (f92 hF) (by decide) (by omega) ((f1.g (p := 92) (i := kw) (by decide)).trans hl1.1) ?_
        refine g_is t241_43 (Nat.le_of_ble_eq_true rfl) (am_s1_4 rfl) ?_
        refine g_p t241_45 rfl ?_
        refine g_k (n := 1) t241_47 rfl rfl ?_
        refine g_subn t241_48 (by omega) ?_
        refine g_is t241_49 (Nat.le_of_ble_eq_true rfl) (am_s1_5 rfl) ?_
        have := TOP l.length (Nat.le_refl _) s1 (.float 0) (.float 0) (.float 0) rfl rfl ((FM.rf.m (by decide)).tr (f1.mono (by decide) (by decide))) hAP (fun h => absurd h (Nat.lt_irrefl _))
        rw [← pm_p, pk_sub hlen] at this
        exact this
      · first
          | (have u0 : (some b).isSome = false := h10
             exact absurd u0 (by simp))
          | (have u0 : (some l).isSome = false := h18
             exact absurd u0 (by simp))
          | exact absurd h28 (by decide)
theorem c241f (hF : Fx s) (hP5 : P ≤ 5) (hW : MW P r w pd row day left s) (hr5 : r ≤ 5) (hw5 : w ≤ 5) (e43 : ri s 80 43 = bI false) (hM : MB bks s) (hWl : MWl wds s) (hno : ¬ ((bG P bks x).isSome = true ∧ (wG wds y).isSome = true ∧ isH z = true)) (hq : Q (some (.int (-1))) (mR (wi s 80 0 (nI 0)))) : gE X (d + 7) 241 [.ref 80, .int x, .int y, .int z] (mR s) Q := by
  obtain ⟨m0, e21, e33, e34, e35, p1, p2⟩ := id hW
  refine en241 rfl rfl rfl rfl ?_
  refine g_p t241_0 rfl ?_
  refine g_k (n := 0) t241_1 rfl rfl ?_
  refine r_puti t241_2 (f80 hF) rfl rfl ?_
  refine g_p t241_5 rfl ?_
  refine g_p t241_6 rfl ?_
  refine r_cv t241_7 (f80 hF) rfl ?_
  refine c218B (by exact hF) (by exact m0) hP5 (by exact hM) ?_
  refine k_v ?_ rfl
  refine b_eq t241_10 (fun h10 => ?_) (fun h10 => ?_)
  · refine g_p t241_31 rfl ?_
    exact i_ret t241_32 rfl hq
  · refine g_p t241_13 rfl ?_
    refine g_p t241_14 rfl ?_
    refine r_cv t241_15 (f80 hF) rfl ?_
    refine c240 (by exact hF) (by exact hWl) ?_
    refine k_v ?_ rfl
    refine b_eq t241_18 (fun h18 => ?_) (fun h18 => ?_)
    · refine g_p t241_31 rfl ?_
      exact i_ret t241_32 rfl hq
    · refine g_p t241_21 rfl ?_
      refine g_p t241_22 rfl ?_
      refine g_p t241_23 rfl ?_
      refine g_p t241_24 rfl ?_
      refine g_cs t241_25 rfl rfl rfl ?_
      refine c176i (a := 0) (b := 1) rfl rfl ?_
      rw [isR_H]
      refine k_v ?_ rfl
      refine b_ne t241_28 (fun h28 => ?_) (fun h28 => ?_)
      · exact absurd ⟨h10, h18, h28⟩ hno
      · refine g_p t241_31 rfl ?_
        exact i_ret t241_32 rfl hq
end RX
