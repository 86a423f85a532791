/-! THE REFERENCE, 13: ways that fit -/
def FML (A B G : List Nat) (s s' : mM) : Prop := FL (80 :: A) G s s' ∧ ∀ i, i ∉ B → ri s' 80 i = ri s 80 i
theorem FML.tr {A B G : List Nat} {s s' s'' : mM} (h : FML A B G s s') (h2 : FML A B G s' s'') : FML A B G s s'' := ⟨h.1.tr h2.1, fun i hi => (h2.2 i hi).trans (h.2 i hi)⟩
theorem FM.ml {A B G : List Nat} {s s' : mM} (h : FM A B s s') : FML A B G s s' := ⟨h.1.fl, h.2⟩
theorem FML.fm {A B G : List Nat} {s s' : mM} (h : FML A B G s s') : FM A B s (lgo s' s) := ⟨h.1.fi.fr, h.2⟩
theorem FML.fx {A B G : List Nat} {s s' : mM} (h : FML A B G s s') (hF : Fx s) : Fx s' := h.1.fx hF
theorem FML.wl {A B G : List Nat} {s s' : mM} {p i : Nat} {v : Int64} (h : FML A B G s s') (hp : p ∈ G) : FML A B G s (wl s' p i v) := ⟨h.1.wl hp, h.2⟩
theorem lgle0 {x : Nat} (h : x < 2 ^ 62) : lg_cmp (lN x) 0 ≤ 0 ↔ x = 0 := by
  rw [lg_cmp_le, show (0 : Int64) = lN 0 from rfl, pk_lLE (by omega) (by decide)]
  omega
theorem sm_cut {f : Nat → Nat} {m : Nat} : ∀ n, m ≤ n → sm (fun a => if a < m then f a else 0) n = sm f m := by
  intro n
  induction n with
  | zero => intro h; have : m = 0 := by omega
            subst this; rfl
  | succ n ih =>
    intro h
    by_cases h2 : m = n + 1
    · subst h2
      have : ∀ k, k ≤ n + 1 → sm (fun a => if a < n + 1 then f a else 0) k = sm f k := by
        intro k
        induction k with
        | zero => intro _; rfl
        | succ k ih => intro hk; rw [sm_succ, sm_succ, ih (by omega), if_pos (by omega)]
      exact this (n + 1) (Nat.le_refl _)
    · rw [sm_succ, ih (by omega), if_neg (by omega), Nat.add_zero]
theorem sm_0 {f : Nat → Nat} {n : Nat} (h : ∀ a, a < n → f a = 0) : sm f n = 0 := by
  induction n with
  | zero => rfl
  | succ n ih => rw [sm_succ, ih (fun a ha => h a (by omega)), h n (by omega)]
theorem ite00 {A : Prop} [Decidable A] : (if A then (0 : Nat) else 0) = 0 := by split <;> rfl
theorem rl_wl_eq {s : mM} {p i : Nat} {v : Int64} : rl (wl s p i v) p i = v := by rw [rl_wl, if_pos ⟨rfl, rfl⟩]
theorem rl_wl_j {s : mM} {p q i j : Nat} {v : Int64} (h : j ≠ i) : rl (wl s p i v) q j = rl s q j := by rw [rl_wl, if_neg (fun h2 => h h2.2)]
theorem rl_wl_ne {s : mM} {p i q j : Nat} {v : Int64} (h : q ≠ p) : rl (wl s p i v) q j = rl s q j := by rw [rl_wl, if_neg (fun h2 => h h2.1)]
section RV0
variable {X : am_X} {d y pc nx : Nat} {ls st : List Value} {s : mM} {Q : Option Value → am_H → Prop} {k : Value} {p n q : Nat} {u : Int64} {g0 : Nat → Int64}
theorem r_lale (t : am_T y pc = some (2, .laload, nx, [], k)) (h : s.1 p = .inl (3, n, .inr (.inl g0))) (hn : n ≤ 65536) (hq : q < n) (e : rl s p q = u) (g : gG X d y nx ls (.long u :: st) (mR s) Q) : gG X d y pc ls (.int (nI q) :: .ref p :: st) (mR s) Q := r_lald t h hn hq (by rw [e]; exact g)
end RV0
section RV
variable {X : am_X} {d : Nat} {s : mM} {Q : Option Value → am_H → Prop} {P r w pd row day left a c k kb n q : Nat} {x y z u : Int32} {b : Bk} {bks : List Bk} {se : List Act}
abbrev cG : List Nat := [107, 108]
set_option maxHeartbeats 1000000 in
theorem c253w (hF : Fx s) (hP5 : P ≤ 5) (hW : MW P r w pd row day left s) (hr5 : r ≤ 5) (hw5 : w ≤ 5) (e43 : ri s 80 43 = bI false) (hst : std P r w row = true) (hl5 : left ≤ 5) (hpd5 : pd ≤ 5) (hP0 : 0 < P) (hn6 : n ≤ 6) (hq6 : q ≤ 6) (hS : MSe se s) (hse : ∀ t ∈ se, t.1 ≤ 6 ∧ t.2.1 < P ∧ t.2.2 < 3) 
    (hq : ∀ s', FML hA_ nB cG s s' → Q (some (.long (lN (sm (cwy P r w row left pd (fun k c => wsn se P k c) n) (mn P))))) (mR s')) : gE X (d + 7) 253 [.ref 80, .int (nI n), .int (-1), .int (nI q), .int u] (mR s) Q := by
  obtain ⟨m0, e21, e33, e34, e35, p1, p2⟩ := id hW
  have hm := mn_le hP5
  have hrN := (std_t hst).1
  obtain ⟨C, hC⟩ : ∃ C, C = cwy P r w row left pd (fun k c => wsn se P k c) := ⟨_, rfl⟩
  rw [← hC] at hq
  have hC0 : ∀ a, C 0 a = if a = row then 1 else 0 := fun a => by rw [hC]; rfl
  have hCs : ∀ k x, C (k + 1) x = if (fun k c => wsn se P k c) (k + 1) x = true then sm (fun a => if dst P r w 15 a x ≤ (if k + 1 = 1 then left else pd) then C k a else 0) (mn P) else 0 := fun k x => by rw [hC]; rfl
  have hClt : ∀ k, k ≤ 6 → ∀ a, C k a < 2 ^ 62 := fun k hk a => by rw [hC]; exact cwy_lt hP5 hk a
  have hC0x : ∀ k {x}, std P r w x = false → C (k + 1) x = 0 := fun k x h => by
    rw [hCs]
    have : sm (fun a => if dst P r w 15 a x ≤ (if k + 1 = 1 then left else pd) then C k a else 0) (mn P) = 0 := sm_0 (fun a _ => by
      rw [dst_f (fun h2 => no_b h2.2 h), if_neg (by split <;> omega)])
    rw [this]; split <;> rfl
  have hC0y : ∀ k {x}, std P r w x = false → C k x = 0 := fun k x h => by
    cases k with
    | zero => rw [hC0, if_neg (fun e => no_b hst (by rw [← e]; exact h))]
    | succ k => exact hC0x k h
  have ite_same : ∀ {A B : Prop} [Decidable A] [Decidable B] {x y : Nat}, (A ↔ B) → (if A then x else y) = (if B then x else y) := fun h => by
    split <;> split <;> first | rfl | (rename_i h1 h2; exact absurd (h.mp h1) h2) | (rename_i h1 h2; exact absurd (h.mpr h2) h1)
  have SUM : ∀ s1 : mM, Fx s1 → FML hA_ nB cG s s1 → (∀ a, a < 243 → rl s1 107 a = lN (if a < mn P then C n a else 0)) → ∀ j i : Nat, i + j = 243 → gG X (d + 7) 253 264 [.ref 80, .int (nI n), .int (-1), .int (nI q), .int u, .long (lN (sm (fun a => if a < mn P then C n a else 0) i)), .float 0, .int (nI i)] [] (mR s1) Q := by
    intro s1 hF hf hcn j
    induction j with
    | zero =>
      intro i hi
      have hi : i = 243 := by omega
      subst hi
      refine g_p t253_264 rfl ?_
      refine g_k (n := 243) t253_266 rfl rfl ?_
      refine n_cge t253_269 (by omega) (by omega) (fun h269 => ?_) (fun h269 => ?_)
      · refine g_p t253_290 rfl ?_
        refine l_ret t253_292 ?_ (hq _ hf)
        rw [sm_cut 243 hm]
      · exfalso; omega
    | succ j ih =>
      intro i hi
      have hi3 : i < 243 := by omega
      have ih := ih (i + 1) (by omega)
      rw [sm_succ] at ih
      have hci := hcn i hi3
      refine g_p t253_264 rfl ?_
      refine g_k (n := 243) t253_266 rfl rfl ?_
      refine n_cge t253_269 (by omega) (by omega) (fun h269 => ?_) (fun h269 => ?_)
      · exfalso; omega
      · refine g_p t253_272 rfl ?_
        refine g_p t253_274 rfl ?_
        refine r_getr t253_275 (f80 hF) rfl rfl ?_
        refine g_p t253_278 rfl ?_
        refine r_lale t253_280 (f107 hF) (by decide) (by omega) hci ?_
        refine n_ladd t253_281 ?_
        refine g_ls t253_282 (Nat.le_of_ble_eq_true rfl) (am_s2_5 rfl) ?_
        refine g_incn (n := 1) t253_284 rfl rfl (Nat.le_of_ble_eq_true rfl) (am_s1_7 rfl) ?_
        refine g_goto t253_287 ?_
        exact ih
  have DAY : ∀ j k : Nat, k + j = n → ∀ s' z6 z7, am_nl z6 = true → FML hA_ nB cG s s' → AP P r w s' → (∀ a, a < 243 → rl s' 107 a = lN (if a < mn P then C k a else 0)) → gG X (d + 7) 253 45 [.ref 80, .int (nI n), .int (-1), .int (nI q), .int u, .int (nI (k + 1)), z6, z7] [] (mR s') Q := by
    intro j
    induction j with
    | zero =>
      intro k hk s' z6 z7 n6 hf hAP hcn
      have hk : k = n := by omega
      subst hk
      have hF := hf.fx hF
      refine g_p t253_45 rfl ?_
      refine g_p t253_47 rfl ?_
      refine n_cgt t253_48 (by omega) (by omega) (fun h48 => ?_) (fun h48 => ?_)
      · refine g_p t253_258 rfl ?_
        refine g_ls t253_259 (Nat.le_of_ble_eq_true rfl) (am_s2_5 rfl) ?_
        refine g_k (n := 0) t253_261 rfl rfl ?_
        refine g_is t253_262 (Nat.le_of_ble_eq_true rfl) (am_s1_7 rfl) ?_
        exact SUM _ hF hf hcn 243 0 (by omega)
      · exfalso; omega
    | succ j ihd =>
      intro k hk s' z6 z7 n6 hf hAP hcn
      have ihd := ihd (k + 1) (by omega)
      have hk6 : k < 6 := by omega
      have CPY : ∀ j i : Nat, i + j = 243 → ∀ s' z7, FML hA_ nB cG s s' → AP P r w s' → (∀ a, a < 243 → rl s' 108 a = lN (if a < mn P then C (k + 1) a else 0)) → (∀ a, a < i → rl s' 107 a = lN (if a < mn P then C (k + 1) a else 0)) → gG X (d + 7) 253 224 [.ref 80, .int (nI n), .int (-1), .int (nI q), .int u, .int (nI (k + 1)), .int (nI i), z7] [] (mR s') Q := by
        intro j
        induction j with
        | zero =>
          intro i hi s' z7 hf hAP h108 h107
          have hi : i = 243 := by omega
          subst hi
          have hF := hf.fx hF
          refine g_p t253_224 rfl ?_
          refine g_k (n := 243) t253_226 rfl rfl ?_
          refine n_cge t253_229 (by omega) (by omega) (fun h229 => ?_) (fun h229 => ?_)
          · refine g_incn (n := 1) t253_252 rfl rfl (Nat.le_of_ble_eq_true rfl) (am_s1_5 rfl) ?_
            refine g_goto t253_255 ?_
            exact ihd _ _ _ rfl hf hAP (fun a ha => h107 a ha)
          · exfalso; omega
        | succ j ihc =>
          intro i hi s' z7 hf hAP h108 h107
          have hF := hf.fx hF
          have hi3 : i < 243 := by omega
          have ihc := ihc (i + 1) (by omega)
          refine g_p t253_224 rfl ?_
          refine g_k (n := 243) t253_226 rfl rfl ?_
          refine n_cge t253_229 (by omega) (by omega) (fun h229 => ?_) (fun h229 => ?_)
          · exfalso; omega
          · refine g_p t253_232 rfl ?_
            refine r_getr t253_233 (f80 hF) rfl rfl ?_
            refine g_p t253_236 rfl ?_
            refine g_p t253_238 rfl ?_
            refine r_getr t253_239 (f80 hF) rfl rfl ?_
            refine g_p t253_242 rfl ?_
            refine r_lale t253_244 (f108 hF) (by decide) (by omega) (h108 i hi3) ?_
            refine r_last t253_245 (f107 hF) (by decide) (by omega) ?_
            refine g_incn (n := 1) t253_246 rfl rfl (Nat.le_of_ble_eq_true rfl) (am_s1_6 rfl) ?_
            refine g_goto t253_249 ?_
            refine ihc _ _ (hf.wl (by decide)) hAP (fun a ha => by rw [rl_wl_ne (by decide)]; exact h108 a ha) (fun a ha => ?_)
            by_cases h9 : a = i
            · subst h9; exact rl_wl_eq
            · rw [rl_wl_j h9]; exact h107 a (by omega)
      have ROW : ∀ j x : Nat, x + j = mn P → ∀ s', FML hA_ nB cG s s' → AP P r w s' → (∀ a, a < 243 → rl s' 107 a = lN (if a < mn P then C k a else 0)) → (∀ a, a < 243 → rl s' 108 a = lN (if a < x then C (k + 1) a else 0)) → ∀ z7, gG X (d + 7) 253 79 [.ref 80, .int (nI n), .int (-1), .int (nI q), .int u, .int (nI (k + 1)), .int (nI x), z7] [] (mR s') Q := by
        intro j
        induction j with
        | zero =>
          intro x hj s' hf hAP hcn htt z7
          have hj : x = mn P := by omega
          subst hj
          have hFs := hF
          have hF := hf.fx hF
          have f0 := hf.fm
          have m0 : ri s' 80 20 = nI P := (f0.f (i := 20) (by decide)).trans m0
          have p1 : ri s' 85 1 = nI r := (f0.g (p := 85) (i := 1) (by decide)).trans p1
          have p2 : ri s' 85 2 = nI w := (f0.g (p := 85) (i := 2) (by decide)).trans p2
          have e33 : ri s' 80 33 = nI row := (f0.f (i := 33) (by decide)).trans e33
          have e21 : ri s' 80 21 = nI pd := (f0.f (i := 21) (by decide)).trans e21
          have e35 : ri s' 80 35 = nI left := (f0.f (i := 35) (by decide)).trans e35
          have hS : MSe se s' := by have h := hS.fm f0 (by decide) (by decide) (by decide) (by decide); exact h
          refine g_p t253_79 rfl ?_
          refine g_p t253_81 rfl ?_
          refine r_cv t253_82 (f80 hF) rfl ?_
          refine c209 (by exact hF) (by exact m0) hP5 hP0 ?_
          refine k_v ?_ rfl
          refine n_cge t253_85 (by omega) (by omega) (fun h85 => ?_) (fun h85 => ?_)
          · refine g_k (n := 0) t253_221 rfl rfl ?_
            refine g_is t253_222 (Nat.le_of_ble_eq_true rfl) (am_s1_6 rfl) ?_
            exact CPY 243 0 (by omega) _ _ hf hAP (fun a ha => htt a ha) (fun a ha => absurd ha (Nat.not_lt_zero a))
          · exfalso; omega
        | succ j ihb =>
          intro x hj s' hf hAP hcn htt z7
          have hx : x < mn P := by omega
          have ihb := fun s' f1 h2 h3 h4 z7 => ihb (x + 1) (by omega) s' f1 h2 h3 h4 z7
          have ihb : ∀ s', FML hA_ nB cG s s' → AP P r w s' → (∀ a, a < 243 → rl s' 107 a = lN (if a < mn P then C k a else 0)) → (∀ a, a < 243 → rl s' 108 a = lN (if a < x + 1 then C (k + 1) a else 0)) → ∀ {z7}, gG X (d + 7) 253 79 [.ref 80, .int (nI n), .int (-1), .int (nI q), .int u, .int (nI (k + 1)), .int (nI (x + 1)), z7] [] (mR s') Q := fun s' f1 h2 h3 h4 {z7} => ihb s' f1 h2 h3 h4 z7
          have AL_ : std P r w x = true → (fun k c => wsn se P k c) (k + 1) x = true → gG X (d + 7) 253 134 [.ref 80, .int (nI n), .int (-1), .int (nI q), .int u, .int (nI (k + 1)), .int (nI x), z7] [] (mR s') Q := by
            intro hsx hask
            have hCx := hCs k x
            rw [if_pos hask] at hCx
            have INN : ∀ j a : Nat, a + j = mn P → ∀ s', FML hA_ nB cG s s' → AP P r w s' → (∀ a, a < 243 → rl s' 107 a = lN (if a < mn P then C k a else 0)) → (∀ a, a < 243 → a ≠ x → rl s' 108 a = lN (if a < x then C (k + 1) a else 0)) → rl s' 108 x = lN (sm (fun a => if dst P r w 15 a x ≤ (if k + 1 = 1 then left else pd) then C k a else 0) a) → gG X (d + 7) 253 137 [.ref 80, .int (nI n), .int (-1), .int (nI q), .int u, .int (nI (k + 1)), .int (nI x), .int (nI a)] [] (mR s') Q := by
              intro j
              induction j with
              | zero =>
                intro a hj s' hf hAP hcn htt hxx
                have hj : a = mn P := by omega
                subst hj
                have hFs := hF
                have hF := hf.fx hF
                have f0 := hf.fm
                have m0 : ri s' 80 20 = nI P := (f0.f (i := 20) (by decide)).trans m0
                have p1 : ri s' 85 1 = nI r := (f0.g (p := 85) (i := 1) (by decide)).trans p1
                have p2 : ri s' 85 2 = nI w := (f0.g (p := 85) (i := 2) (by decide)).trans p2
                have e33 : ri s' 80 33 = nI row := (f0.f (i := 33) (by decide)).trans e33
                have e21 : ri s' 80 21 = nI pd := (f0.f (i := 21) (by decide)).trans e21
                have e35 : ri s' 80 35 = nI left := (f0.f (i := 35) (by decide)).trans e35
                have hS : MSe se s' := by have h := hS.fm f0 (by decide) (by decide) (by decide) (by decide); exact h
                refine g_p t253_137 rfl ?_
                refine g_p t253_139 rfl ?_
                refine r_cv t253_140 (f80 hF) rfl ?_
                refine c209 (by exact hF) (by exact m0) hP5 hP0 ?_
                refine k_v ?_ rfl
                refine n_cge t253_143 (by omega) (by omega) (fun h143 => ?_) (fun h143 => ?_)
                · refine g_incn (n := 1) t253_215 rfl rfl (Nat.le_of_ble_eq_true rfl) (am_s1_6 rfl) ?_
                  refine g_goto t253_218 ?_
                  refine ihb _ hf hAP hcn (fun y hy => ?_)
                  by_cases h9 : y = x
                  · subst h9; rw [hxx, if_pos (Nat.lt_succ_self _), hCx]
                  · rw [htt y hy h9]; exact congrArg lN (ite_same (by omega))
                · exfalso; omega
              | succ j iha =>
                intro a hj s' hf hAP hcn htt hxx
                have ha : a < mn P := by omega
                have iha := iha (a + 1) (by omega)
                rw [sm_succ] at iha
                have hca := hcn a (by omega)
                rw [if_pos ha] at hca
                have hCa := hClt k (by omega) a
                have hb1000 : dst P r w 1000 a x ≤ 1000 := dst_le hP5 (by decide)
                have hFs := hF
                have hF := hf.fx hF
                have f0 := hf.fm
                have m0 : ri s' 80 20 = nI P := (f0.f (i := 20) (by decide)).trans m0
                have p1 : ri s' 85 1 = nI r := (f0.g (p := 85) (i := 1) (by decide)).trans p1
                have p2 : ri s' 85 2 = nI w := (f0.g (p := 85) (i := 2) (by decide)).trans p2
                have e33 : ri s' 80 33 = nI row := (f0.f (i := 33) (by decide)).trans e33
                have e21 : ri s' 80 21 = nI pd := (f0.f (i := 21) (by decide)).trans e21
                have e35 : ri s' 80 35 = nI left := (f0.f (i := 35) (by decide)).trans e35
                have hS : MSe se s' := by have h := hS.fm f0 (by decide) (by decide) (by decide) (by decide); exact h
                have C0 : C k a = 0 → gG X (d + 7) 253 209 [.ref 80, .int (nI n), .int (-1), .int (nI q), .int u, .int (nI (k + 1)), .int (nI x), .int (nI a)] [] (mR s') Q := by
                  intro h0
                  refine g_incn (n := 1) t253_209 rfl rfl (Nat.le_of_ble_eq_true rfl) (am_s1_7 rfl) ?_
                  refine g_goto t253_212 ?_
                  refine iha _ hf hAP hcn htt ?_
                  rw [hxx]
                  congr 1
                  rw [h0]
                  have e9 : ∀ A : Prop, ∀ h : Decidable A, (@ite Nat A h 0 0) = 0 := fun A h => by split <;> rfl
                  show _ = _ + _
                  exact ((congrArg (fun z => _ + z) (e9 _ _)).trans (Nat.add_zero _)).symm
                refine g_p t253_137 rfl ?_
                refine g_p t253_139 rfl ?_
                refine r_cv t253_140 (f80 hF) rfl ?_
                refine c209 (by exact hF) (by exact m0) hP5 hP0 ?_
                refine k_v ?_ rfl
                refine n_cge t253_143 (by omega) (by omega) (fun h143 => ?_) (fun h143 => ?_)
                · exfalso; omega
                · refine g_p t253_146 rfl ?_
                  refine r_getr t253_147 (f80 hF) rfl rfl ?_
                  refine g_p t253_150 rfl ?_
                  refine r_lale t253_152 (f107 hF) (by decide) (by omega) hca ?_
                  refine g_p t253_153 rfl ?_
                  refine g_p t253_154 rfl ?_
                  refine g_le t253_155 (fun h155 => ?_) (fun h155 => ?_)
                  · first
                      | (have u0 := h155
                         exact C0 ((lgle0 hCa).mp u0))
                      | (have u1 : k + 1 = 1 := h175
                         have u0 : left < dst P r w 1000 a x := h189
                         have eL : (if k + 1 = 1 then left else pd) = left := if_pos u1
                         have u2 : ¬ dst P r w 15 a x ≤ (if k + 1 = 1 then left else pd) := by
                           rw [eL]
                           rcases d15 (r := r) (w := w) (a := a) (x := x) hP5 with g | g
                           · rw [← g.2.2.2]; omega
                           · rw [g.2.1]; omega
                         rw [if_neg u2, Nat.add_zero] at iha
                         refine g_incn (n := 1) t253_209 rfl rfl (Nat.le_of_ble_eq_true rfl) (am_s1_7 rfl) ?_
                         refine g_goto t253_212 ?_
                         exact iha _ hf hAP hcn htt hxx)
                      | (have u1 : ¬ k + 1 = 1 := h175
                         have u0 : pd < dst P r w 1000 a x := h189
                         have eL : (if k + 1 = 1 then left else pd) = pd := if_neg u1
                         have u2 : ¬ dst P r w 15 a x ≤ (if k + 1 = 1 then left else pd) := by
                           rw [eL]
                           rcases d15 (r := r) (w := w) (a := a) (x := x) hP5 with g | g
                           · rw [← g.2.2.2]; omega
                           · rw [g.2.1]; omega
                         rw [if_neg u2, Nat.add_zero] at iha
                         refine g_incn (n := 1) t253_209 rfl rfl (Nat.le_of_ble_eq_true rfl) (am_s1_7 rfl) ?_
                         refine g_goto t253_212 ?_
                         exact iha _ hf hAP hcn htt hxx)
                      | (have u1 : k + 1 = 1 := h175
                         have u0 : ¬ left < dst P r w 1000 a x := h189
                         have eL : (if k + 1 = 1 then left else pd) = left := if_pos u1
                         have u2 : dst P r w 15 a x ≤ (if k + 1 = 1 then left else pd) := by
                           rw [eL]
                           rcases d15 (r := r) (w := w) (a := a) (x := x) hP5 with g | g
                           · rw [← g.2.2.2]; omega
                           · rw [g.2.2] at u0; omega
                         rw [if_pos u2] at iha
                         refine g_incn (n := 1) t253_209 rfl rfl (Nat.le_of_ble_eq_true rfl) (am_s1_7 rfl) ?_
                         refine g_goto t253_212 ?_
                         exact iha _ (hf.wl (by decide)) hAP (fun a ha => by rw [rl_wl_ne (by decide)]; exact hcn a ha) (fun a ha hn => by rw [rl_wl_j hn]; exact htt a ha hn) rl_wl_eq)
                      | (have u1 : ¬ k + 1 = 1 := h175
                         have u0 : ¬ pd < dst P r w 1000 a x := h189
                         have eL : (if k + 1 = 1 then left else pd) = pd := if_neg u1
                         have u2 : dst P r w 15 a x ≤ (if k + 1 = 1 then left else pd) := by
                           rw [eL]
                           rcases d15 (r := r) (w := w) (a := a) (x := x) hP5 with g | g
                           · rw [← g.2.2.2]; omega
                           · rw [g.2.2] at u0; omega
                         rw [if_pos u2] at iha
                         refine g_incn (n := 1) t253_209 rfl rfl (Nat.le_of_ble_eq_true rfl) (am_s1_7 rfl) ?_
                         refine g_goto t253_212 ?_
                         exact iha _ (hf.wl (by decide)) hAP (fun a ha => by rw [rl_wl_ne (by decide)]; exact hcn a ha) (fun a ha hn => by rw [rl_wl_j hn]; exact htt a ha hn) rl_wl_eq)
                  · refine g_p t253_158 rfl ?_
                    refine r_getr t253_159 (f80 hF) rfl rfl ?_
                    refine g_k (n := 243) t253_162 rfl rfl ?_
                    refine g_p t253_165 rfl ?_
                    refine g_muln t253_167 ?_
                    refine g_p t253_168 rfl ?_
                    refine g_addn t253_170 ?_
                    refine r_iale t253_171 (f100 hF) (by decide) (by omega) (hAP a x ha hx (by cases hsa : std P r w a with
                      | true => rfl
                      | false => exact absurd ((lgle0 hCa).mpr (hC0y k hsa)) h155)) ?_
                    refine g_p t253_172 rfl ?_
                    refine g_k (n := 1) t253_174 rfl rfl ?_
                    refine n_cne t253_175 (by omega) (by omega) (fun h175 => ?_) (fun h175 => ?_)
                    · refine g_p t253_185 rfl ?_
                      refine r_gete t253_186 (f80 hF) rfl rfl e21 ?_
                      refine n_cgt t253_189 (by omega) (by omega) (fun h189 => ?_) (fun h189 => ?_)
                      · first
                          | (have u0 := h155
                             exact C0 ((lgle0 hCa).mp u0))
                          | (have u1 : k + 1 = 1 := h175
                             have u0 : left < dst P r w 1000 a x := h189
                             have eL : (if k + 1 = 1 then left else pd) = left := if_pos u1
                             have u2 : ¬ dst P r w 15 a x ≤ (if k + 1 = 1 then left else pd) := by
                               rw [eL]
                               rcases d15 (r := r) (w := w) (a := a) (x := x) hP5 with g | g
                               · rw [← g.2.2.2]; omega
                               · rw [g.2.1]; omega
                             rw [if_neg u2, Nat.add_zero] at iha
                             refine g_incn (n := 1) t253_209 rfl rfl (Nat.le_of_ble_eq_true rfl) (am_s1_7 rfl) ?_
                             refine g_goto t253_212 ?_
                             exact iha _ hf hAP hcn htt hxx)
                          | (have u1 : ¬ k + 1 = 1 := h175
                             have u0 : pd < dst P r w 1000 a x := h189
                             have eL : (if k + 1 = 1 then left else pd) = pd := if_neg u1
                             have u2 : ¬ dst P r w 15 a x ≤ (if k + 1 = 1 then left else pd) := by
                               rw [eL]
                               rcases d15 (r := r) (w := w) (a := a) (x := x) hP5 with g | g
                               · rw [← g.2.2.2]; omega
                               · rw [g.2.1]; omega
                             rw [if_neg u2, Nat.add_zero] at iha
                             refine g_incn (n := 1) t253_209 rfl rfl (Nat.le_of_ble_eq_true rfl) (am_s1_7 rfl) ?_
                             refine g_goto t253_212 ?_
                             exact iha _ hf hAP hcn htt hxx)
                          | (have u1 : k + 1 = 1 := h175
                             have u0 : ¬ left < dst P r w 1000 a x := h189
                             have eL : (if k + 1 = 1 then left else pd) = left := if_pos u1
                             have u2 : dst P r w 15 a x ≤ (if k + 1 = 1 then left else pd) := by
                               rw [eL]
                               rcases d15 (r := r) (w := w) (a := a) (x := x) hP5 with g | g
                               · rw [← g.2.2.2]; omega
                               · rw [g.2.2] at u0; omega
                             rw [if_pos u2] at iha
                             refine g_incn (n := 1) t253_209 rfl rfl (Nat.le_of_ble_eq_true rfl) (am_s1_7 rfl) ?_
                             refine g_goto t253_212 ?_
                             exact iha _ (hf.wl (by decide)) hAP (fun a ha => by rw [rl_wl_ne (by decide)]; exact hcn a ha) (fun a ha hn => by rw [rl_wl_j hn]; exact htt a ha hn) rl_wl_eq)
                          | (have u1 : ¬ k + 1 = 1 := h175
                             have u0 : ¬ pd < dst P r w 1000 a x := h189
                             have eL : (if k + 1 = 1 then left else pd) = pd := if_neg u1
                             have u2 : dst P r w 15 a x ≤ (if k + 1 = 1 then left else pd) := by
                               rw [eL]
                               rcases d15 (r := r) (w := w) (a := a) (x := x) hP5 with g | g
                               · rw [← g.2.2.2]; omega
                               · rw [g.2.2] at u0; omega
                             rw [if_pos u2] at iha
                             refine g_incn (n := 1) t253_209 rfl rfl (Nat.le_of_ble_eq_true rfl) (am_s1_7 rfl) ?_
                             refine g_goto t253_212 ?_
                             exact iha _ (hf.wl (by decide)) hAP (fun a ha => by rw [rl_wl_ne (by decide)]; exact hcn a ha) (fun a ha hn => by rw [rl_wl_j hn]; exact htt a ha hn) rl_wl_eq)
                      · refine g_p t253_192 rfl ?_
                        refine r_getr t253_193 (f80 hF) rfl rfl ?_
                        refine g_p t253_196 rfl ?_
                        refine g_p t253_198 rfl ?_
                        refine r_lale t253_199 (f108 hF) (by decide) (by omega) hxx ?_
                        refine g_p t253_200 rfl ?_
                        refine r_getr t253_201 (f80 hF) rfl rfl ?_
                        refine g_p t253_204 rfl ?_
                        refine r_lale t253_206 (f107 hF) (by decide) (by omega) hca ?_
                        refine n_ladd t253_207 ?_
                        refine r_last t253_208 (f108 hF) (by decide) (by omega) ?_
                        first
                          | (have u0 := h155
                             exact C0 ((lgle0 hCa).mp u0))
                          | (have u1 : k + 1 = 1 := h175
                             have u0 : left < dst P r w 1000 a x := h189
                             have eL : (if k + 1 = 1 then left else pd) = left := if_pos u1
                             have u2 : ¬ dst P r w 15 a x ≤ (if k + 1 = 1 then left else pd) := by
                               rw [eL]
                               rcases d15 (r := r) (w := w) (a := a) (x := x) hP5 with g | g
                               · rw [← g.2.2.2]; omega
                               · rw [g.2.1]; omega
                             rw [if_neg u2, Nat.add_zero] at iha
                             refine g_incn (n := 1) t253_209 rfl rfl (Nat.le_of_ble_eq_true rfl) (am_s1_7 rfl) ?_
                             refine g_goto t253_212 ?_
                             exact iha _ hf hAP hcn htt hxx)
                          | (have u1 : ¬ k + 1 = 1 := h175
                             have u0 : pd < dst P r w 1000 a x := h189
                             have eL : (if k + 1 = 1 then left else pd) = pd := if_neg u1
                             have u2 : ¬ dst P r w 15 a x ≤ (if k + 1 = 1 then left else pd) := by
                               rw [eL]
                               rcases d15 (r := r) (w := w) (a := a) (x := x) hP5 with g | g
                               · rw [← g.2.2.2]; omega
                               · rw [g.2.1]; omega
                             rw [if_neg u2, Nat.add_zero] at iha
                             refine g_incn (n := 1) t253_209 rfl rfl (Nat.le_of_ble_eq_true rfl) (am_s1_7 rfl) ?_
                             refine g_goto t253_212 ?_
                             exact iha _ hf hAP hcn htt hxx)
                          | (have u1 : k + 1 = 1 := h175
                             have u0 : ¬ left < dst P r w 1000 a x := h189
                             have eL : (if k + 1 = 1 then left else pd) = left := if_pos u1
                             have u2 : dst P r w 15 a x ≤ (if k + 1 = 1 then left else pd) := by
                               rw [eL]
                               rcases d15 (r := r) (w := w) (a := a) (x := x) hP5 with g | g
                               · rw [← g.2.2.2]; omega
                               · rw [g.2.2] at u0; omega
                             rw [if_pos u2] at iha
                             refine g_incn (n := 1) t253_209 rfl rfl (Nat.le_of_ble_eq_true rfl) (am_s1_7 rfl) ?_
                             refine g_goto t253_212 ?_
                             exact iha _ (hf.wl (by decide)) hAP (fun a ha => by rw [rl_wl_ne (by decide)]; exact hcn a ha) (fun a ha hn => by rw [rl_wl_j hn]; exact htt a ha hn) rl_wl_eq)
                          | (have u1 : ¬ k + 1 = 1 := h175
                             have u0 : ¬ pd < dst P r w 1000 a x := h189
                             have eL : (if k + 1 = 1 then left else pd) = pd := if_neg u1
                             have u2 : dst P r w 15 a x ≤ (if k + 1 = 1 then left else pd) := by
                               rw [eL]
                               rcases d15 (r := r) (w := w) (a := a) (x := x) hP5 with g | g
                               · rw [← g.2.2.2]; omega
                               · rw [g.2.2] at u0; omega
                             rw [if_pos u2] at iha
                             refine g_incn (n := 1) t253_209 rfl rfl (Nat.le_of_ble_eq_true rfl) (am_s1_7 rfl) ?_
                             refine g_goto t253_212 ?_
                             exact iha _ (hf.wl (by decide)) hAP (fun a ha => by rw [rl_wl_ne (by decide)]; exact hcn a ha) (fun a ha hn => by rw [rl_wl_j hn]; exact htt a ha hn) rl_wl_eq)
                    · refine g_p t253_178 rfl ?_
                      refine r_gete t253_179 (f80 hF) rfl rfl e35 ?_
                      refine g_goto t253_182 ?_
                      refine n_cgt t253_189 (by omega) (by omega) (fun h189 => ?_) (fun h189 => ?_)
                      · first
                          | (have u0 := h155
                             exact C0 ((lgle0 hCa).mp u0))
                          | (have u1 : k + 1 = 1 := h175
                             have u0 : left < dst P r w 1000 a x := h189
                             have eL : (if k + 1 = 1 then left else pd) = left := if_pos u1
                             have u2 : ¬ dst P r w 15 a x ≤ (if k + 1 = 1 then left else pd) := by
                               rw [eL]
                               rcases d15 (r := r) (w := w) (a := a) (x := x) hP5 with g | g
                               · rw [← g.2.2.2]; omega
                               · rw [g.2.1]; omega
                             rw [if_neg u2, Nat.add_zero] at iha
                             refine g_incn (n := 1) t253_209 rfl rfl (Nat.le_of_ble_eq_true rfl) (am_s1_7 rfl) ?_
                             refine g_goto t253_212 ?_
                             exact iha _ hf hAP hcn htt hxx)
                          | (have u1 : ¬ k + 1 = 1 := h175
                             have u0 : pd < dst P r w 1000 a x := h189
                             have eL : (if k + 1 = 1 then left else pd) = pd := if_neg u1
                             have u2 : ¬ dst P r w 15 a x ≤ (if k + 1 = 1 then left else pd) := by
                               rw [eL]
                               rcases d15 (r := r) (w := w) (a := a) (x := x) hP5 with g | g
                               · rw [← g.2.2.2]; omega
                               · rw [g.2.1]; omega
                             rw [if_neg u2, Nat.add_zero] at iha
                             refine g_incn (n := 1) t253_209 rfl rfl (Nat.le_of_ble_eq_true rfl) (am_s1_7 rfl) ?_
                             refine g_goto t253_212 ?_
                             exact iha _ hf hAP hcn htt hxx)
                          | (have u1 : k + 1 = 1 := h175
                             have u0 : ¬ left < dst P r w 1000 a x := h189
                             have eL : (if k + 1 = 1 then left else pd) = left := if_pos u1
                             have u2 : dst P r w 15 a x ≤ (if k + 1 = 1 then left else pd) := by
                               rw [eL]
                               rcases d15 (r := r) (w := w) (a := a) (x := x) hP5 with g | g
                               · rw [← g.2.2.2]; omega
                               · rw [g.2.2] at u0; omega
                             rw [if_pos u2] at iha
                             refine g_incn (n := 1) t253_209 rfl rfl (Nat.le_of_ble_eq_true rfl) (am_s1_7 rfl) ?_
                             refine g_goto t253_212 ?_
                             exact iha _ (hf.wl (by decide)) hAP (fun a ha => by rw [rl_wl_ne (by decide)]; exact hcn a ha) (fun a ha hn => by rw [rl_wl_j hn]; exact htt a ha hn) rl_wl_eq)
                          | (have u1 : ¬ k + 1 = 1 := h175
                             have u0 : ¬ pd < dst P r w 1000 a x := h189
                             have eL : (if k + 1 = 1 then left else pd) = pd := if_neg u1
                             have u2 : dst P r w 15 a x ≤ (if k + 1 = 1 then left else pd) := by
                               rw [eL]
                               rcases d15 (r := r) (w := w) (a := a) (x := x) hP5 with g | g
                               · rw [← g.2.2.2]; omega
                               · rw [g.2.2] at u0; omega
                             rw [if_pos u2] at iha
                             refine g_incn (n := 1) t253_209 rfl rfl (Nat.le_of_ble_eq_true rfl) (am_s1_7 rfl) ?_
                             refine g_goto t253_212 ?_
                             exact iha _ (hf.wl (by decide)) hAP (fun a ha => by rw [rl_wl_ne (by decide)]; exact hcn a ha) (fun a ha hn => by rw [rl_wl_j hn]; exact htt a ha hn) rl_wl_eq)
                      · refine g_p t253_192 rfl ?_
                        refine r_getr t253_193 (f80 hF) rfl rfl ?_
                        refine g_p t253_196 rfl ?_
                        refine g_p t253_198 rfl ?_
                        refine r_lale t253_199 (f108 hF) (by decide) (by omega) hxx ?_
                        refine g_p t253_200 rfl ?_
                        refine r_getr t253_201 (f80 hF) rfl rfl ?_
                        refine g_p t253_204 rfl ?_
                        refine r_lale t253_206 (f107 hF) (by decide) (by omega) hca ?_
                        refine n_ladd t253_207 ?_
                        refine r_last t253_208 (f108 hF) (by decide) (by omega) ?_
                        first
                          | (have u0 := h155
                             exact C0 ((lgle0 hCa).mp u0))
                          | (have u1 : k + 1 = 1 := h175
                             have u0 : left < dst P r w 1000 a x := h189
                             have eL : (if k + 1 = 1 then left else pd) = left := if_pos u1
                             have u2 : ¬ dst P r w 15 a x ≤ (if k + 1 = 1 then left else pd) := by
                               rw [eL]
                               rcases d15 (r := r) (w := w) (a := a) (x := x) hP5 with g | g
                               · rw [← g.2.2.2]; omega
                               · rw [g.2.1]; omega
                             rw [if_neg u2, Nat.add_zero] at iha
                             refine g_incn (n := 1) t253_209 rfl rfl (Nat.le_of_ble_eq_true rfl) (am_s1_7 rfl) ?_
                             refine g_goto t253_212 ?_
                             exact iha _ hf hAP hcn htt hxx)
                          | (have u1 : ¬ k + 1 = 1 := h175
                             have u0 : pd < dst P r w 1000 a x := h189
                             have eL : (if k + 1 = 1 then left else pd) = pd := if_neg u1
                             have u2 : ¬ dst P r w 15 a x ≤ (if k + 1 = 1 then left else pd) := by
                               rw [eL]
                               rcases d15 (r := r) (w := w) (a := a) (x := x) hP5 with g | g
                               · rw [← g.2.2.2]; omega
                               · rw [g.2.1]; omega
                             rw [if_neg u2, Nat.add_zero] at iha
                             refine g_incn (n := 1) t253_209 rfl rfl (Nat.le_of_ble_eq_true rfl) (am_s1_7 rfl) ?_
                             refine g_goto t253_212 ?_
                             exact iha _ hf hAP hcn htt hxx)
                          | (have u1 : k + 1 = 1 := h175
                             have u0 : ¬ left < dst P r w 1000 a x := h189
                             have eL : (if k + 1 = 1 then left else pd) = left := if_pos u1
                             have u2 : dst P r w 15 a x ≤ (if k + 1 = 1 then left else pd) := by
                               rw [eL]
                               rcases d15 (r := r) (w := w) (a := a) (x := x) hP5 with g | g
                               · rw [← g.2.2.2]; omega
                               · rw [g.2.2] at u0; omega
                             rw [if_pos u2] at iha
                             refine g_incn (n := 1) t253_209 rfl rfl (Nat.le_of_ble_eq_true rfl) (am_s1_7 rfl) ?_
                             refine g_goto t253_212 ?_
                             exact iha _ (hf.wl (by decide)) hAP (fun a ha => by rw [rl_wl_ne (by decide)]; exact hcn a ha) (fun a ha hn => by rw [rl_wl_j hn]; exact htt a ha hn) rl_wl_eq)
                          | (have u1 : ¬ k + 1 = 1 := h175
                             have u0 : ¬ pd < dst P r w 1000 a x := h189
                             have eL : (if k + 1 = 1 then left else pd) = pd := if_neg u1
                             have u2 : dst P r w 15 a x ≤ (if k + 1 = 1 then left else pd) := by
                               rw [eL]
                               rcases d15 (r := r) (w := w) (a := a) (x := x) hP5 with g | g
                               · rw [← g.2.2.2]; omega
                               · rw [g.2.2] at u0; omega
                             rw [if_pos u2] at iha
                             refine g_incn (n := 1) t253_209 rfl rfl (Nat.le_of_ble_eq_true rfl) (am_s1_7 rfl) ?_
                             refine g_goto t253_212 ?_
                             exact iha _ (hf.wl (by decide)) hAP (fun a ha => by rw [rl_wl_ne (by decide)]; exact hcn a ha) (fun a ha hn => by rw [rl_wl_j hn]; exact htt a ha hn) rl_wl_eq)
            refine g_k (n := 0) t253_134 rfl rfl ?_
            refine g_is t253_135 (Nat.le_of_ble_eq_true rfl) (am_s1_7 rfl) ?_
            refine INN (mn P) 0 (by omega) _ hf hAP hcn (fun a ha _ => htt a ha) ?_
            have := htt x (by omega)
            rw [if_neg (Nat.lt_irrefl _)] at this
            exact this
          have hFs := hF
          have hF := hf.fx hF
          have f0 := hf.fm
          have m0 : ri s' 80 20 = nI P := (f0.f (i := 20) (by decide)).trans m0
          have p1 : ri s' 85 1 = nI r := (f0.g (p := 85) (i := 1) (by decide)).trans p1
          have p2 : ri s' 85 2 = nI w := (f0.g (p := 85) (i := 2) (by decide)).trans p2
          have e33 : ri s' 80 33 = nI row := (f0.f (i := 33) (by decide)).trans e33
          have e21 : ri s' 80 21 = nI pd := (f0.f (i := 21) (by decide)).trans e21
          have e35 : ri s' 80 35 = nI left := (f0.f (i := 35) (by decide)).trans e35
          have hS : MSe se s' := by have h := hS.fm f0 (by decide) (by decide) (by decide) (by decide); exact h
          refine g_p t253_79 rfl ?_
          refine g_p t253_81 rfl ?_
          refine r_cv t253_82 (f80 hF) rfl ?_
          refine c209 (by exact hF) (by exact m0) hP5 hP0 ?_
          refine k_v ?_ rfl
          refine n_cge t253_85 (by omega) (by omega) (fun h85 => ?_) (fun h85 => ?_)
          · exfalso; omega
          · refine g_p t253_88 rfl ?_
            refine g_p t253_89 rfl ?_
            refine r_cv t253_91 (f80 hF) rfl ?_
            refine c214 (by exact hF) (by exact m0) hP5 (by exact p1) (by exact p2) hr5 hw5 (by omega) ?_
            refine k_v ?_ rfl
            refine b_eq t253_94 (fun h94 => ?_) (fun h94 => ?_)
            · refine g_incn (n := 1) t253_215 rfl rfl (Nat.le_of_ble_eq_true rfl) (am_s1_6 rfl) ?_
              refine g_goto t253_218 ?_
              first
                | (have u0 : std P r w x = false := h94
                   exact ihb _ hf hAP hcn (fun y hy => by
                     rw [htt y hy]
                     by_cases h9 : y = x
                     · subst h9; rw [if_neg (Nat.lt_irrefl _), if_pos (Nat.lt_succ_self _), hC0x _ u0]
                     · exact congrArg lN (ite_same (by omega))))
                | (have u0 : wsn se P (k + 1) x = false := h105
                   exact ihb _ hf hAP hcn (fun y hy => by
                     rw [htt y hy]
                     by_cases h9 : y = x
                     · subst h9; rw [if_neg (Nat.lt_irrefl _), if_pos (Nat.lt_succ_self _), hCs, if_neg (fun h => no_b h u0)]
                     · exact congrArg lN (ite_same (by omega))))
            · refine g_p t253_97 rfl ?_
              refine g_p t253_98 rfl ?_
              refine g_p t253_100 rfl ?_
              refine r_cv t253_102 (f80 hF) rfl ?_
              refine c252 (by exact hF) hP5 (by exact m0) (by exact hS) hse (by omega) (by omega) ?_
              refine k_v ?_ rfl
              refine b_eq t253_105 (fun h105 => ?_) (fun h105 => ?_)
              · refine g_incn (n := 1) t253_215 rfl rfl (Nat.le_of_ble_eq_true rfl) (am_s1_6 rfl) ?_
                refine g_goto t253_218 ?_
                first
                  | (have u0 : std P r w x = false := h94
                     exact ihb _ hf hAP hcn (fun y hy => by
                       rw [htt y hy]
                       by_cases h9 : y = x
                       · subst h9; rw [if_neg (Nat.lt_irrefl _), if_pos (Nat.lt_succ_self _), hC0x _ u0]
                       · exact congrArg lN (ite_same (by omega))))
                  | (have u0 : wsn se P (k + 1) x = false := h105
                     exact ihb _ hf hAP hcn (fun y hy => by
                       rw [htt y hy]
                       by_cases h9 : y = x
                       · subst h9; rw [if_neg (Nat.lt_irrefl _), if_pos (Nat.lt_succ_self _), hCs, if_neg (fun h => no_b h u0)]
                       · exact congrArg lN (ite_same (by omega))))
              · refine g_p t253_108 rfl ?_
                refine g_p t253_109 rfl ?_
                refine g_ceq t253_110 (fun h110 => ?_) (fun h110 => ?_)
                · exact AL_ h94 h105
                · exact absurd rfl h110
      have ZER : ∀ j i : Nat, i + j = 243 → ∀ s' z7, FML hA_ nB cG s s' → AP P r w s' → (∀ a, a < 243 → rl s' 107 a = lN (if a < mn P then C k a else 0)) → (∀ a, a < i → rl s' 108 a = lN 0) → gG X (d + 7) 253 54 [.ref 80, .int (nI n), .int (-1), .int (nI q), .int u, .int (nI (k + 1)), .int (nI i), z7] [] (mR s') Q := by
        intro j
        induction j with
        | zero =>
          intro i hi s' z7 hf hAP hcn h0
          have hi : i = 243 := by omega
          subst hi
          have hF := hf.fx hF
          refine g_p t253_54 rfl ?_
          refine g_k (n := 243) t253_56 rfl rfl ?_
          refine n_cge t253_59 (by omega) (by omega) (fun h59 => ?_) (fun h59 => ?_)
          · refine g_k (n := 0) t253_76 rfl rfl ?_
            refine g_is t253_77 (Nat.le_of_ble_eq_true rfl) (am_s1_6 rfl) ?_
            exact ROW (mn P) 0 (by omega) _ hf hAP hcn (fun a ha => by rw [if_neg (Nat.not_lt_zero _)]; exact h0 a ha) _
          · exfalso; omega
        | succ j ihz =>
          intro i hi s' z7 hf hAP hcn h0
          have hF := hf.fx hF
          refine g_p t253_54 rfl ?_
          refine g_k (n := 243) t253_56 rfl rfl ?_
          refine n_cge t253_59 (by omega) (by omega) (fun h59 => ?_) (fun h59 => ?_)
          · exfalso; omega
          · refine g_p t253_62 rfl ?_
            refine r_getr t253_63 (f80 hF) rfl rfl ?_
            refine g_p t253_66 rfl ?_
            refine g_p t253_68 rfl ?_
            refine r_last t253_69 (f108 hF) (by decide) (by omega) ?_
            refine g_incn (n := 1) t253_70 rfl rfl (Nat.le_of_ble_eq_true rfl) (am_s1_6 rfl) ?_
            refine g_goto t253_73 ?_
            refine ihz (i + 1) (by omega) _ _ (hf.wl (by decide)) hAP (fun a ha => by rw [rl_wl_ne (by decide)]; exact hcn a ha) (fun a ha => ?_)
            by_cases h9 : a = i
            · subst h9; exact rl_wl_eq
            · rw [rl_wl_j h9]; exact h0 a (by omega)
      have hF := hf.fx hF
      refine g_p t253_45 rfl ?_
      refine g_p t253_47 rfl ?_
      refine n_cgt t253_48 (by omega) (by omega) (fun h48 => ?_) (fun h48 => ?_)
      · exfalso; omega
      · refine g_k (n := 0) t253_51 rfl rfl ?_
        refine g_is t253_52 (Nat.le_of_ble_eq_true rfl) (am_s1_6 rfl) ?_
        exact ZER 243 0 (by omega) _ _ hf hAP hcn (fun a ha => absurd ha (Nat.not_lt_zero a))
  have INI : ∀ j i : Nat, i + j = 243 → ∀ s' z6 z7, am_nl z6 = true → FML hA_ nB cG s s' → AP P r w s' → (∀ a, a < i → rl s' 107 a = lN (if a < mn P then C 0 a else 0)) → gG X (d + 7) 253 7 [.ref 80, .int (nI n), .int (-1), .int (nI q), .int u, .int (nI i), z6, z7] [] (mR s') Q := by
    intro j
    induction j with
    | zero =>
      intro i hi s' z6 z7 n6 hf hAP hcn
      have hi : i = 243 := by omega
      subst hi
      have hF := hf.fx hF
      refine g_p t253_7 rfl ?_
      refine g_k (n := 243) t253_9 rfl rfl ?_
      refine n_cge t253_12 (by omega) (by omega) (fun h12 => ?_) (fun h12 => ?_)
      · refine g_k (n := 1) t253_42 rfl rfl ?_
        refine g_is t253_43 (Nat.le_of_ble_eq_true rfl) (am_s1_5 rfl) ?_
        exact DAY n 0 (by omega) _ _ _ n6 hf hAP (fun a ha => hcn a ha)
      · exfalso; omega
    | succ j ih =>
      intro i hi s' z6 z7 n6 hf hAP hcn
      have hFs := hF
      have hF := hf.fx hF
      have f0 := hf.fm
      have m0 : ri s' 80 20 = nI P := (f0.f (i := 20) (by decide)).trans m0
      have p1 : ri s' 85 1 = nI r := (f0.g (p := 85) (i := 1) (by decide)).trans p1
      have p2 : ri s' 85 2 = nI w := (f0.g (p := 85) (i := 2) (by decide)).trans p2
      have e33 : ri s' 80 33 = nI row := (f0.f (i := 33) (by decide)).trans e33
      have e21 : ri s' 80 21 = nI pd := (f0.f (i := 21) (by decide)).trans e21
      have e35 : ri s' 80 35 = nI left := (f0.f (i := 35) (by decide)).trans e35
      have hS : MSe se s' := by have h := hS.fm f0 (by decide) (by decide) (by decide) (by decide); exact h
      refine g_p t253_7 rfl ?_
      refine g_k (n := 243) t253_9 rfl rfl ?_
      refine n_cge t253_12 (by omega) (by omega) (fun h12 => ?_) (fun h12 => ?_)
      · exfalso; omega
      · refine g_p t253_15 rfl ?_
        refine r_getr t253_16 (f80 hF) rfl rfl ?_
        refine g_p t253_19 rfl ?_
        refine g_p t253_21 rfl ?_
        refine g_p t253_23 rfl ?_
        refine r_gete t253_24 (f80 hF) rfl rfl e33 ?_
        refine n_cne t253_27 (by omega) (by omega) (fun h27 => ?_) (fun h27 => ?_)
        · refine g_p t253_34 rfl ?_
          refine r_last t253_35 (f107 hF) (by decide) (by omega) ?_
          refine g_incn (n := 1) t253_36 rfl rfl (Nat.le_of_ble_eq_true rfl) (am_s1_5 rfl) ?_
          refine g_goto t253_39 ?_
          refine ih (i + 1) (by omega) _ _ _ n6 (hf.wl (by decide)) hAP (fun a ha => ?_)
          by_cases h9 : a = i
          · subst h9
            rw [rl_wl_eq]
            first
              | (have u0 : a = row := h27
                 rw [if_pos (by omega), hC0, if_pos u0]; rfl)
              | (have u0 : ¬ a = row := h27
                 rw [hC0, if_neg u0]
                 split <;> rfl)
          · rw [rl_wl_j h9]; exact hcn a (by omega)
        · refine g_p t253_30 rfl ?_
          refine g_goto t253_31 ?_
          refine r_last t253_35 (f107 hF) (by decide) (by omega) ?_
          refine g_incn (n := 1) t253_36 rfl rfl (Nat.le_of_ble_eq_true rfl) (am_s1_5 rfl) ?_
          refine g_goto t253_39 ?_
          refine ih (i + 1) (by omega) _ _ _ n6 (hf.wl (by decide)) hAP (fun a ha => ?_)
          by_cases h9 : a = i
          · subst h9
            rw [rl_wl_eq]
            first
              | (have u0 : a = row := h27
                 rw [if_pos (by omega), hC0, if_pos u0]; rfl)
              | (have u0 : ¬ a = row := h27
                 rw [hC0, if_neg u0]
                 split <;> rfl)
          · rw [rl_wl_j h9]; exact hcn a (by omega)
  refine en253 rfl rfl rfl rfl rfl ?_
  refine g_p t253_0 rfl ?_
  refine r_cv t253_1 (f80 hF) rfl ?_
  refine c235 (by exact hF) hP5 hP0 (by exact m0) (by exact p1) (by exact p2) hr5 hw5 (by exact e43) (fun s1 f1 hAP => ?_)
  refine k_0 ?_
  have hF := Fx.fr (by exact hF) f1.1
  have m0 := (f1.f (i := 20) (by decide)).trans m0
  have e33 := (f1.f (i := 33) (by decide)).trans e33
  have e35 := (f1.f (i := 35) (by decide)).trans e35
  have e34 := (f1.f (i := 34) (by decide)).trans e34
  have e21 := (f1.f (i := 21) (by decide)).trans e21
  have p1 := (f1.g (p := 85) (i := 1) (by decide)).trans p1
  have p2 := (f1.g (p := 85) (i := 2) (by decide)).trans p2
  have e43 := (f1.f (i := 43) (by decide)).trans e43
  refine g_k (n := 0) t253_4 rfl rfl ?_
  refine g_is t253_5 (Nat.le_of_ble_eq_true rfl) (am_s1_5 rfl) ?_
  exact INI 243 0 (by omega) s1 _ _ rfl f1.ml hAP (fun a ha => absurd ha (Nat.not_lt_zero a))
set_option maxHeartbeats 1000000 in
theorem c253l (hF : Fx s) (hP5 : P ≤ 5) (hW : MW P r w pd row day left s) (hr5 : r ≤ 5) (hw5 : w ≤ 5) (e43 : ri s 80 43 = bI false) (hst : std P r w row = true) (hl5 : left ≤ 5) (hpd5 : pd ≤ 5) (hP0 : 0 < P) (hn6 : n ≤ 6) (hq6 : q ≤ 6) (hS : MSe se s) (hse : ∀ t ∈ se, t.1 ≤ 6 ∧ t.2.1 < P ∧ t.2.2 < 3) (hB1 : MB1 b kb s) (hk4 : kb < 4) (hqn : q ≤ 6)
    (hq : ∀ s', FML hA_ nB cG s s' → Q (some (.long (lN (sm (cwy P r w row left pd (fun k c => (decide (¬ k = q) || decide (sy P b c = u)) && wsn se P k c) n) (mn P))))) (mR s')) : gE X (d + 7) 253 [.ref 80, .int (nI n), .int (nI kb), .int (nI q), .int u] (mR s) Q := by
  obtain ⟨m0, e21, e33, e34, e35, p1, p2⟩ := id hW
  have hm := mn_le hP5
  have hrN := (std_t hst).1
  obtain ⟨C, hC⟩ : ∃ C, C = cwy P r w row left pd (fun k c => (decide (¬ k = q) || decide (sy P b c = u)) && wsn se P k c) := ⟨_, rfl⟩
  rw [← hC] at hq
  have hC0 : ∀ a, C 0 a = if a = row then 1 else 0 := fun a => by rw [hC]; rfl
  have hCs : ∀ k x, C (k + 1) x = if (fun k c => (decide (¬ k = q) || decide (sy P b c = u)) && wsn se P k c) (k + 1) x = true then sm (fun a => if dst P r w 15 a x ≤ (if k + 1 = 1 then left else pd) then C k a else 0) (mn P) else 0 := fun k x => by rw [hC]; rfl
  have hClt : ∀ k, k ≤ 6 → ∀ a, C k a < 2 ^ 62 := fun k hk a => by rw [hC]; exact cwy_lt hP5 hk a
  have hC0x : ∀ k {x}, std P r w x = false → C (k + 1) x = 0 := fun k x h => by
    rw [hCs]
    have : sm (fun a => if dst P r w 15 a x ≤ (if k + 1 = 1 then left else pd) then C k a else 0) (mn P) = 0 := sm_0 (fun a _ => by
      rw [dst_f (fun h2 => no_b h2.2 h), if_neg (by split <;> omega)])
    rw [this]; split <;> rfl
  have hC0y : ∀ k {x}, std P r w x = false → C k x = 0 := fun k x h => by
    cases k with
    | zero => rw [hC0, if_neg (fun e => no_b hst (by rw [← e]; exact h))]
    | succ k => exact hC0x k h
  have ite_same : ∀ {A B : Prop} [Decidable A] [Decidable B] {x y : Nat}, (A ↔ B) → (if A then x else y) = (if B then x else y) := fun h => by
    split <;> split <;> first | rfl | (rename_i h1 h2; exact absurd (h.mp h1) h2) | (rename_i h1 h2; exact absurd (h.mpr h2) h1)
  have SUM : ∀ s1 : mM, Fx s1 → FML hA_ nB cG s s1 → (∀ a, a < 243 → rl s1 107 a = lN (if a < mn P then C n a else 0)) → ∀ j i : Nat, i + j = 243 → gG X (d + 7) 253 264 [.ref 80, .int (nI n), .int (nI kb), .int (nI q), .int u, .long (lN (sm (fun a => if a < mn P then C n a else 0) i)), .float 0, .int (nI i)] [] (mR s1) Q := by
    intro s1 hF hf hcn j
    induction j with
    | zero =>
      intro i hi
      have hi : i = 243 := by omega
      subst hi
      refine g_p t253_264 rfl ?_
      refine g_k (n := 243) t253_266 rfl rfl ?_
      refine n_cge t253_269 (by omega) (by omega) (fun h269 => ?_) (fun h269 => ?_)
      · refine g_p t253_290 rfl ?_
        refine l_ret t253_292 ?_ (hq _ hf)
        rw [sm_cut 243 hm]
      · exfalso; omega
    | succ j ih =>
      intro i hi
      have hi3 : i < 243 := by omega
      have ih := ih (i + 1) (by omega)
      rw [sm_succ] at ih
      have hci := hcn i hi3
      refine g_p t253_264 rfl ?_
      refine g_k (n := 243) t253_266 rfl rfl ?_
      refine n_cge t253_269 (by omega) (by omega) (fun h269 => ?_) (fun h269 => ?_)
      · exfalso; omega
      · refine g_p t253_272 rfl ?_
        refine g_p t253_274 rfl ?_
        refine r_getr t253_275 (f80 hF) rfl rfl ?_
        refine g_p t253_278 rfl ?_
        refine r_lale t253_280 (f107 hF) (by decide) (by omega) hci ?_
        refine n_ladd t253_281 ?_
        refine g_ls t253_282 (Nat.le_of_ble_eq_true rfl) (am_s2_5 rfl) ?_
        refine g_incn (n := 1) t253_284 rfl rfl (Nat.le_of_ble_eq_true rfl) (am_s1_7 rfl) ?_
        refine g_goto t253_287 ?_
        exact ih
  have DAY : ∀ j k : Nat, k + j = n → ∀ s' z6 z7, am_nl z6 = true → FML hA_ nB cG s s' → AP P r w s' → (∀ a, a < 243 → rl s' 107 a = lN (if a < mn P then C k a else 0)) → gG X (d + 7) 253 45 [.ref 80, .int (nI n), .int (nI kb), .int (nI q), .int u, .int (nI (k + 1)), z6, z7] [] (mR s') Q := by
    intro j
    induction j with
    | zero =>
      intro k hk s' z6 z7 n6 hf hAP hcn
      have hk : k = n := by omega
      subst hk
      have hF := hf.fx hF
      refine g_p t253_45 rfl ?_
      refine g_p t253_47 rfl ?_
      refine n_cgt t253_48 (by omega) (by omega) (fun h48 => ?_) (fun h48 => ?_)
      · refine g_p t253_258 rfl ?_
        refine g_ls t253_259 (Nat.le_of_ble_eq_true rfl) (am_s2_5 rfl) ?_
        refine g_k (n := 0) t253_261 rfl rfl ?_
        refine g_is t253_262 (Nat.le_of_ble_eq_true rfl) (am_s1_7 rfl) ?_
        exact SUM _ hF hf hcn 243 0 (by omega)
      · exfalso; omega
    | succ j ihd =>
      intro k hk s' z6 z7 n6 hf hAP hcn
      have ihd := ihd (k + 1) (by omega)
      have hk6 : k < 6 := by omega
      have CPY : ∀ j i : Nat, i + j = 243 → ∀ s' z7, FML hA_ nB cG s s' → AP P r w s' → (∀ a, a < 243 → rl s' 108 a = lN (if a < mn P then C (k + 1) a else 0)) → (∀ a, a < i → rl s' 107 a = lN (if a < mn P then C (k + 1) a else 0)) → gG X (d + 7) 253 224 [.ref 80, .int (nI n), .int (nI kb), .int (nI q), .int u, .int (nI (k + 1)), .int (nI i), z7] [] (mR s') Q := by
        intro j
        induction j with
        | zero =>
          intro i hi s' z7 hf hAP h108 h107
          have hi : i = 243 := by omega
          subst hi
          have hF := hf.fx hF
          refine g_p t253_224 rfl ?_
          refine g_k (n := 243) t253_226 rfl rfl ?_
          refine n_cge t253_229 (by omega) (by omega) (fun h229 => ?_) (fun h229 => ?_)
          · refine g_incn (n := 1) t253_252 rfl rfl (Nat.le_of_ble_eq_true rfl) (am_s1_5 rfl) ?_
            refine g_goto t253_255 ?_
            exact ihd _ _ _ rfl hf hAP (fun a ha => h107 a ha)
          · exfalso; omega
        | succ j ihc =>
          intro i hi s' z7 hf hAP h108 h107
          have hF := hf.fx hF
          have hi3 : i < 243 := by omega
          have ihc := ihc (i + 1) (by omega)
          refine g_p t253_224 rfl ?_
          refine g_k (n := 243) t253_226 rfl rfl ?_
          refine n_cge t253_229 (by omega) (by omega) (fun h229 => ?_) (fun h229 => ?_)
          · exfalso; omega
          · refine g_p t253_232 rfl ?_
            refine r_getr t253_233 (f80 hF) rfl rfl ?_
            refine g_p t253_236 rfl ?_
            refine g_p t253_238 rfl ?_
            refine r_getr t253_239 (f80 hF) rfl rfl ?_
            refine g_p t253_242 rfl ?_
            refine r_lale t253_244 (f108 hF) (by decide) (by omega) (h108 i hi3) ?_
            refine r_last t253_245 (f107 hF) (by decide) (by omega) ?_
            refine g_incn (n := 1) t253_246 rfl rfl (Nat.le_of_ble_eq_true rfl) (am_s1_6 rfl) ?_
            refine g_goto t253_249 ?_
            refine ihc _ _ (hf.wl (by decide)) hAP (fun a ha => by rw [rl_wl_ne (by decide)]; exact h108 a ha) (fun a ha => ?_)
            by_cases h9 : a = i
            · subst h9; exact rl_wl_eq
            · rw [rl_wl_j h9]; exact h107 a (by omega)
      have ROW : ∀ j x : Nat, x + j = mn P → ∀ s', FML hA_ nB cG s s' → AP P r w s' → (∀ a, a < 243 → rl s' 107 a = lN (if a < mn P then C k a else 0)) → (∀ a, a < 243 → rl s' 108 a = lN (if a < x then C (k + 1) a else 0)) → ∀ z7, gG X (d + 7) 253 79 [.ref 80, .int (nI n), .int (nI kb), .int (nI q), .int u, .int (nI (k + 1)), .int (nI x), z7] [] (mR s') Q := by
        intro j
        induction j with
        | zero =>
          intro x hj s' hf hAP hcn htt z7
          have hj : x = mn P := by omega
          subst hj
          have hFs := hF
          have hF := hf.fx hF
          have f0 := hf.fm
          have m0 : ri s' 80 20 = nI P := (f0.f (i := 20) (by decide)).trans m0
          have p1 : ri s' 85 1 = nI r := (f0.g (p := 85) (i := 1) (by decide)).trans p1
          have p2 : ri s' 85 2 = nI w := (f0.g (p := 85) (i := 2) (by decide)).trans p2
          have e33 : ri s' 80 33 = nI row := (f0.f (i := 33) (by decide)).trans e33
          have e21 : ri s' 80 21 = nI pd := (f0.f (i := 21) (by decide)).trans e21
          have e35 : ri s' 80 35 = nI left := (f0.f (i := 35) (by decide)).trans e35
          have hS : MSe se s' := by have h := hS.fm f0 (by decide) (by decide) (by decide) (by decide); exact h
          have hB1 : MB1 b kb s' := by have h := hB1.fm (A := 80 :: hA_) (B := nB) f0.1 (by decide) (by decide) (by decide) (by decide); exact h
          refine g_p t253_79 rfl ?_
          refine g_p t253_81 rfl ?_
          refine r_cv t253_82 (f80 hF) rfl ?_
          refine c209 (by exact hF) (by exact m0) hP5 hP0 ?_
          refine k_v ?_ rfl
          refine n_cge t253_85 (by omega) (by omega) (fun h85 => ?_) (fun h85 => ?_)
          · refine g_k (n := 0) t253_221 rfl rfl ?_
            refine g_is t253_222 (Nat.le_of_ble_eq_true rfl) (am_s1_6 rfl) ?_
            exact CPY 243 0 (by omega) _ _ hf hAP (fun a ha => htt a ha) (fun a ha => absurd ha (Nat.not_lt_zero a))
          · exfalso; omega
        | succ j ihb =>
          intro x hj s' hf hAP hcn htt z7
          have hx : x < mn P := by omega
          have ihb := fun s' f1 h2 h3 h4 z7 => ihb (x + 1) (by omega) s' f1 h2 h3 h4 z7
          have ihb : ∀ s', FML hA_ nB cG s s' → AP P r w s' → (∀ a, a < 243 → rl s' 107 a = lN (if a < mn P then C k a else 0)) → (∀ a, a < 243 → rl s' 108 a = lN (if a < x + 1 then C (k + 1) a else 0)) → ∀ {z7}, gG X (d + 7) 253 79 [.ref 80, .int (nI n), .int (nI kb), .int (nI q), .int u, .int (nI (k + 1)), .int (nI (x + 1)), z7] [] (mR s') Q := fun s' f1 h2 h3 h4 {z7} => ihb s' f1 h2 h3 h4 z7
          have AL_ : std P r w x = true → (fun k c => (decide (¬ k = q) || decide (sy P b c = u)) && wsn se P k c) (k + 1) x = true → gG X (d + 7) 253 134 [.ref 80, .int (nI n), .int (nI kb), .int (nI q), .int u, .int (nI (k + 1)), .int (nI x), z7] [] (mR s') Q := by
            intro hsx hask
            have hCx := hCs k x
            rw [if_pos hask] at hCx
            have INN : ∀ j a : Nat, a + j = mn P → ∀ s', FML hA_ nB cG s s' → AP P r w s' → (∀ a, a < 243 → rl s' 107 a = lN (if a < mn P then C k a else 0)) → (∀ a, a < 243 → a ≠ x → rl s' 108 a = lN (if a < x then C (k + 1) a else 0)) → rl s' 108 x = lN (sm (fun a => if dst P r w 15 a x ≤ (if k + 1 = 1 then left else pd) then C k a else 0) a) → gG X (d + 7) 253 137 [.ref 80, .int (nI n), .int (nI kb), .int (nI q), .int u, .int (nI (k + 1)), .int (nI x), .int (nI a)] [] (mR s') Q := by
              intro j
              induction j with
              | zero =>
                intro a hj s' hf hAP hcn htt hxx
                have hj : a = mn P := by omega
                subst hj
                have hFs := hF
                have hF := hf.fx hF
                have f0 := hf.fm
                have m0 : ri s' 80 20 = nI P := (f0.f (i := 20) (by decide)).trans m0
                have p1 : ri s' 85 1 = nI r := (f0.g (p := 85) (i := 1) (by decide)).trans p1
                have p2 : ri s' 85 2 = nI w := (f0.g (p := 85) (i := 2) (by decide)).trans p2
                have e33 : ri s' 80 33 = nI row := (f0.f (i := 33) (by decide)).trans e33
                have e21 : ri s' 80 21 = nI pd := (f0.f (i := 21) (by decide)).trans e21
                have e35 : ri s' 80 35 = nI left := (f0.f (i := 35) (by decide)).trans e35
                have hS : MSe se s' := by have h := hS.fm f0 (by decide) (by decide) (by decide) (by decide); exact h
                have hB1 : MB1 b kb s' := by have h := hB1.fm (A := 80 :: hA_) (B := nB) f0.1 (by decide) (by decide) (by decide) (by decide); exact h
                refine g_p t253_137 rfl ?_
                refine g_p t253_139 rfl ?_
                refine r_cv t253_140 (f80 hF) rfl ?_
                refine c209 (by exact hF) (by exact m0) hP5 hP0 ?_
                refine k_v ?_ rfl
                refine n_cge t253_143 (by omega) (by omega) (fun h143 => ?_) (fun h143 => ?_)
                · refine g_incn (n := 1) t253_215 rfl rfl (Nat.le_of_ble_eq_true rfl) (am_s1_6 rfl) ?_
                  refine g_goto t253_218 ?_
                  refine ihb _ hf hAP hcn (fun y hy => ?_)
                  by_cases h9 : y = x
                  · subst h9; rw [hxx, if_pos (Nat.lt_succ_self _), hCx]
                  · rw [htt y hy h9]; exact congrArg lN (ite_same (by omega))
                · exfalso; omega
              | succ j iha =>
                intro a hj s' hf hAP hcn htt hxx
                have ha : a < mn P := by omega
                have iha := iha (a + 1) (by omega)
                rw [sm_succ] at iha
                have hca := hcn a (by omega)
                rw [if_pos ha] at hca
                have hCa := hClt k (by omega) a
                have hb1000 : dst P r w 1000 a x ≤ 1000 := dst_le hP5 (by decide)
                have hFs := hF
                have hF := hf.fx hF
                have f0 := hf.fm
                have m0 : ri s' 80 20 = nI P := (f0.f (i := 20) (by decide)).trans m0
                have p1 : ri s' 85 1 = nI r := (f0.g (p := 85) (i := 1) (by decide)).trans p1
                have p2 : ri s' 85 2 = nI w := (f0.g (p := 85) (i := 2) (by decide)).trans p2
                have e33 : ri s' 80 33 = nI row := (f0.f (i := 33) (by decide)).trans e33
                have e21 : ri s' 80 21 = nI pd := (f0.f (i := 21) (by decide)).trans e21
                have e35 : ri s' 80 35 = nI left := (f0.f (i := 35) (by decide)).trans e35
                have hS : MSe se s' := by have h := hS.fm f0 (by decide) (by decide) (by decide) (by decide); exact h
                have hB1 : MB1 b kb s' := by have h := hB1.fm (A := 80 :: hA_) (B := nB) f0.1 (by decide) (by decide) (by decide) (by decide); exact h
                have C0 : C k a = 0 → gG X (d + 7) 253 209 [.ref 80, .int (nI n), .int (nI kb), .int (nI q), .int u, .int (nI (k + 1)), .int (nI x), .int (nI a)] [] (mR s') Q := by
                  intro h0
                  refine g_incn (n := 1) t253_209 rfl rfl (Nat.le_of_ble_eq_true rfl) (am_s1_7 rfl) ?_
                  refine g_goto t253_212 ?_
                  refine iha _ hf hAP hcn htt ?_
                  rw [hxx]
                  congr 1
                  rw [h0]
                  have e9 : ∀ A : Prop, ∀ h : Decidable A, (@ite Nat A h 0 0) = 0 := fun A h => by split <;> rfl
                  show _ = _ + _
                  exact ((congrArg (fun z => _ + z) (e9 _ _)).trans (Nat.add_zero _)).symm
                refine g_p t253_137 rfl ?_
                refine g_p t253_139 rfl ?_
                refine r_cv t253_140 (f80 hF) rfl ?_
                refine c209 (by exact hF) (by exact m0) hP5 hP0 ?_
                refine k_v ?_ rfl
                refine n_cge t253_143 (by omega) (by omega) (fun h143 => ?_) (fun h143 => ?_)
                · exfalso; omega
                · refine g_p t253_146 rfl ?_
                  refine r_getr t253_147 (f80 hF) rfl rfl ?_
                  refine g_p t253_150 rfl ?_
                  refine r_lale t253_152 (f107 hF) (by decide) (by omega) hca ?_
                  refine g_p t253_153 rfl ?_
                  refine g_p t253_154 rfl ?_
                  refine g_le t253_155 (fun h155 => ?_) (fun h155 => ?_)
                  · first
                      | (have u0 := h155
                         exact C0 ((lgle0 hCa).mp u0))
                      | (have u1 : k + 1 = 1 := h175
                         have u0 : left < dst P r w 1000 a x := h189
                         have eL : (if k + 1 = 1 then left else pd) = left := if_pos u1
                         have u2 : ¬ dst P r w 15 a x ≤ (if k + 1 = 1 then left else pd) := by
                           rw [eL]
                           rcases d15 (r := r) (w := w) (a := a) (x := x) hP5 with g | g
                           · rw [← g.2.2.2]; omega
                           · rw [g.2.1]; omega
                         rw [if_neg u2, Nat.add_zero] at iha
                         refine g_incn (n := 1) t253_209 rfl rfl (Nat.le_of_ble_eq_true rfl) (am_s1_7 rfl) ?_
                         refine g_goto t253_212 ?_
                         exact iha _ hf hAP hcn htt hxx)
                      | (have u1 : ¬ k + 1 = 1 := h175
                         have u0 : pd < dst P r w 1000 a x := h189
                         have eL : (if k + 1 = 1 then left else pd) = pd := if_neg u1
                         have u2 : ¬ dst P r w 15 a x ≤ (if k + 1 = 1 then left else pd) := by
                           rw [eL]
                           rcases d15 (r := r) (w := w) (a := a) (x := x) hP5 with g | g
                           · rw [← g.2.2.2]; omega
                           · rw [g.2.1]; omega
                         rw [if_neg u2, Nat.add_zero] at iha
                         refine g_incn (n := 1) t253_209 rfl rfl (Nat.le_of_ble_eq_true rfl) (am_s1_7 rfl) ?_
                         refine g_goto t253_212 ?_
                         exact iha _ hf hAP hcn htt hxx)
                      | (have u1 : k + 1 = 1 := h175
                         have u0 : ¬ left < dst P r w 1000 a x := h189
                         have eL : (if k + 1 = 1 then left else pd) = left := if_pos u1
                         have u2 : dst P r w 15 a x ≤ (if k + 1 = 1 then left else pd) := by
                           rw [eL]
                           rcases d15 (r := r) (w := w) (a := a) (x := x) hP5 with g | g
                           · rw [← g.2.2.2]; omega
                           · rw [g.2.2] at u0; omega
                         rw [if_pos u2] at iha
                         refine g_incn (n := 1) t253_209 rfl rfl (Nat.le_of_ble_eq_true rfl) (am_s1_7 rfl) ?_
                         refine g_goto t253_212 ?_
                         exact iha _ (hf.wl (by decide)) hAP (fun a ha => by rw [rl_wl_ne (by decide)]; exact hcn a ha) (fun a ha hn => by rw [rl_wl_j hn]; exact htt a ha hn) rl_wl_eq)
                      | (have u1 : ¬ k + 1 = 1 := h175
                         have u0 : ¬ pd < dst P r w 1000 a x := h189
                         have eL : (if k + 1 = 1 then left else pd) = pd := if_neg u1
                         have u2 : dst P r w 15 a x ≤ (if k + 1 = 1 then left else pd) := by
                           rw [eL]
                           rcases d15 (r := r) (w := w) (a := a) (x := x) hP5 with g | g
                           · rw [← g.2.2.2]; omega
                           · rw [g.2.2] at u0; omega
                         rw [if_pos u2] at iha
                         refine g_incn (n := 1) t253_209 rfl rfl (Nat.le_of_ble_eq_true rfl) (am_s1_7 rfl) ?_
                         refine g_goto t253_212 ?_
                         exact iha _ (hf.wl (by decide)) hAP (fun a ha => by rw [rl_wl_ne (by decide)]; exact hcn a ha) (fun a ha hn => by rw [rl_wl_j hn]; exact htt a ha hn) rl_wl_eq)
                  · refine g_p t253_158 rfl ?_
                    refine r_getr t253_159 (f80 hF) rfl rfl ?_
                    refine g_k (n := 243) t253_162 rfl rfl ?_
                    refine g_p t253_165 rfl ?_
                    refine g_muln t253_167 ?_
                    refine g_p t253_168 rfl ?_
                    refine g_addn t253_170 ?_
                    refine r_iale t253_171 (f100 hF) (by decide) (by omega) (hAP a x ha hx (by cases hsa : std P r w a with
                      | true => rfl
                      | false => exact absurd ((lgle0 hCa).mpr (hC0y k hsa)) h155)) ?_
                    refine g_p t253_172 rfl ?_
                    refine g_k (n := 1) t253_174 rfl rfl ?_
                    refine n_cne t253_175 (by omega) (by omega) (fun h175 => ?_) (fun h175 => ?_)
                    · refine g_p t253_185 rfl ?_
                      refine r_gete t253_186 (f80 hF) rfl rfl e21 ?_
                      refine n_cgt t253_189 (by omega) (by omega) (fun h189 => ?_) (fun h189 => ?_)
                      · first
                          | (have u0 := h155
                             exact C0 ((lgle0 hCa).mp u0))
                          | (have u1 : k + 1 = 1 := h175
                             have u0 : left < dst P r w 1000 a x := h189
                             have eL : (if k + 1 = 1 then left else pd) = left := if_pos u1
                             have u2 : ¬ dst P r w 15 a x ≤ (if k + 1 = 1 then left else pd) := by
                               rw [eL]
                               rcases d15 (r := r) (w := w) (a := a) (x := x) hP5 with g | g
                               · rw [← g.2.2.2]; omega
                               · rw [g.2.1]; omega
                             rw [if_neg u2, Nat.add_zero] at iha
                             refine g_incn (n := 1) t253_209 rfl rfl (Nat.le_of_ble_eq_true rfl) (am_s1_7 rfl) ?_
                             refine g_goto t253_212 ?_
                             exact iha _ hf hAP hcn htt hxx)
                          | (have u1 : ¬ k + 1 = 1 := h175
                             have u0 : pd < dst P r w 1000 a x := h189
                             have eL : (if k + 1 = 1 then left else pd) = pd := if_neg u1
                             have u2 : ¬ dst P r w 15 a x ≤ (if k + 1 = 1 then left else pd) := by
                               rw [eL]
                               rcases d15 (r := r) (w := w) (a := a) (x := x) hP5 with g | g
                               · rw [← g.2.2.2]; omega
                               · rw [g.2.1]; omega
                             rw [if_neg u2, Nat.add_zero] at iha
                             refine g_incn (n := 1) t253_209 rfl rfl (Nat.le_of_ble_eq_true rfl) (am_s1_7 rfl) ?_
                             refine g_goto t253_212 ?_
                             exact iha _ hf hAP hcn htt hxx)
                          | (have u1 : k + 1 = 1 := h175
                             have u0 : ¬ left < dst P r w 1000 a x := h189
                             have eL : (if k + 1 = 1 then left else pd) = left := if_pos u1
                             have u2 : dst P r w 15 a x ≤ (if k + 1 = 1 then left else pd) := by
                               rw [eL]
                               rcases d15 (r := r) (w := w) (a := a) (x := x) hP5 with g | g
                               · rw [← g.2.2.2]; omega
                               · rw [g.2.2] at u0; omega
                             rw [if_pos u2] at iha
                             refine g_incn (n := 1) t253_209 rfl rfl (Nat.le_of_ble_eq_true rfl) (am_s1_7 rfl) ?_
                             refine g_goto t253_212 ?_
                             exact iha _ (hf.wl (by decide)) hAP (fun a ha => by rw [rl_wl_ne (by decide)]; exact hcn a ha) (fun a ha hn => by rw [rl_wl_j hn]; exact htt a ha hn) rl_wl_eq)
                          | (have u1 : ¬ k + 1 = 1 := h175
                             have u0 : ¬ pd < dst P r w 1000 a x := h189
                             have eL : (if k + 1 = 1 then left else pd) = pd := if_neg u1
                             have u2 : dst P r w 15 a x ≤ (if k + 1 = 1 then left else pd) := by
                               rw [eL]
                               rcases d15 (r := r) (w := w) (a := a) (x := x) hP5 with g | g
                               · rw [← g.2.2.2]; omega
                               · rw [g.2.2] at u0; omega
                             rw [if_pos u2] at iha
                             refine g_incn (n := 1) t253_209 rfl rfl (Nat.le_of_ble_eq_true rfl) (am_s1_7 rfl) ?_
                             refine g_goto t253_212 ?_
                             exact iha _ (hf.wl (by decide)) hAP (fun a ha => by rw [rl_wl_ne (by decide)]; exact hcn a ha) (fun a ha hn => by rw [rl_wl_j hn]; exact htt a ha hn) rl_wl_eq)
                      · refine g_p t253_192 rfl ?_
                        refine r_getr t253_193 (f80 hF) rfl rfl ?_
                        refine g_p t253_196 rfl ?_
                        refine g_p t253_198 rfl ?_
                        refine r_lale t253_199 (f108 hF) (by decide) (by omega) hxx ?_
                        refine g_p t253_200 rfl ?_
                        refine r_getr t253_201 (f80 hF) rfl rfl ?_
                        refine g_p t253_204 rfl ?_
                        refine r_lale t253_206 (f107 hF) (by decide) (by omega) hca ?_
                        refine n_ladd t253_207 ?_
                        refine r_last t253_208 (f108 hF) (by decide) (by omega) ?_
                        first
                          | (have u0 := h155
                             exact C0 ((lgle0 hCa).mp u0))
                          | (have u1 : k + 1 = 1 := h175
                             have u0 : left < dst P r w 1000 a x := h189
                             have eL : (if k + 1 = 1 then left else pd) = left := if_pos u1
                             have u2 : ¬ dst P r w 15 a x ≤ (if k + 1 = 1 then left else pd) := by
                               rw [eL]
                               rcases d15 (r := r) (w := w) (a := a) (x := x) hP5 with g | g
                               · rw [← g.2.2.2]; omega
                               · rw [g.2.1]; omega
                             rw [if_neg u2, Nat.add_zero] at iha
                             refine g_incn (n := 1) t253_209 rfl rfl (Nat.le_of_ble_eq_true rfl) (am_s1_7 rfl) ?_
                             refine g_goto t253_212 ?_
                             exact iha _ hf hAP hcn htt hxx)
                          | (have u1 : ¬ k + 1 = 1 := h175
                             have u0 : pd < dst P r w 1000 a x := h189
                             have eL : (if k + 1 = 1 then left else pd) = pd := if_neg u1
                             have u2 : ¬ dst P r w 15 a x ≤ (if k + 1 = 1 then left else pd) := by
                               rw [eL]
                               rcases d15 (r := r) (w := w) (a := a) (x := x) hP5 with g | g
                               · rw [← g.2.2.2]; omega
                               · rw [g.2.1]; omega
                             rw [if_neg u2, Nat.add_zero] at iha
                             refine g_incn (n := 1) t253_209 rfl rfl (Nat.le_of_ble_eq_true rfl) (am_s1_7 rfl) ?_
                             refine g_goto t253_212 ?_
                             exact iha _ hf hAP hcn htt hxx)
                          | (have u1 : k + 1 = 1 := h175
                             have u0 : ¬ left < dst P r w 1000 a x := h189
                             have eL : (if k + 1 = 1 then left else pd) = left := if_pos u1
                             have u2 : dst P r w 15 a x ≤ (if k + 1 = 1 then left else pd) := by
                               rw [eL]
                               rcases d15 (r := r) (w := w) (a := a) (x := x) hP5 with g | g
                               · rw [← g.2.2.2]; omega
                               · rw [g.2.2] at u0; omega
                             rw [if_pos u2] at iha
                             refine g_incn (n := 1) t253_209 rfl rfl (Nat.le_of_ble_eq_true rfl) (am_s1_7 rfl) ?_
                             refine g_goto t253_212 ?_
                             exact iha _ (hf.wl (by decide)) hAP (fun a ha => by rw [rl_wl_ne (by decide)]; exact hcn a ha) (fun a ha hn => by rw [rl_wl_j hn]; exact htt a ha hn) rl_wl_eq)
                          | (have u1 : ¬ k + 1 = 1 := h175
                             have u0 : ¬ pd < dst P r w 1000 a x := h189
                             have eL : (if k + 1 = 1 then left else pd) = pd := if_neg u1
                             have u2 : dst P r w 15 a x ≤ (if k + 1 = 1 then left else pd) := by
                               rw [eL]
                               rcases d15 (r := r) (w := w) (a := a) (x := x) hP5 with g | g
                               · rw [← g.2.2.2]; omega
                               · rw [g.2.2] at u0; omega
                             rw [if_pos u2] at iha
                             refine g_incn (n := 1) t253_209 rfl rfl (Nat.le_of_ble_eq_true rfl) (am_s1_7 rfl) ?_
                             refine g_goto t253_212 ?_
                             exact iha _ (hf.wl (by decide)) hAP (fun a ha => by rw [rl_wl_ne (by decide)]; exact hcn a ha) (fun a ha hn => by rw [rl_wl_j hn]; exact htt a ha hn) rl_wl_eq)
                    · refine g_p t253_178 rfl ?_
                      refine r_gete t253_179 (f80 hF) rfl rfl e35 ?_
                      refine g_goto t253_182 ?_
                      refine n_cgt t253_189 (by omega) (by omega) (fun h189 => ?_) (fun h189 => ?_)
                      · first
                          | (have u0 := h155
                             exact C0 ((lgle0 hCa).mp u0))
                          | (have u1 : k + 1 = 1 := h175
                             have u0 : left < dst P r w 1000 a x := h189
                             have eL : (if k + 1 = 1 then left else pd) = left := if_pos u1
                             have u2 : ¬ dst P r w 15 a x ≤ (if k + 1 = 1 then left else pd) := by
                               rw [eL]
                               rcases d15 (r := r) (w := w) (a := a) (x := x) hP5 with g | g
                               · rw [← g.2.2.2]; omega
                               · rw [g.2.1]; omega
                             rw [if_neg u2, Nat.add_zero] at iha
                             refine g_incn (n := 1) t253_209 rfl rfl (Nat.le_of_ble_eq_true rfl) (am_s1_7 rfl) ?_
                             refine g_goto t253_212 ?_
                             exact iha _ hf hAP hcn htt hxx)
                          | (have u1 : ¬ k + 1 = 1 := h175
                             have u0 : pd < dst P r w 1000 a x := h189
                             have eL : (if k + 1 = 1 then left else pd) = pd := if_neg u1
                             have u2 : ¬ dst P r w 15 a x ≤ (if k + 1 = 1 then left else pd) := by
                               rw [eL]
                               rcases d15 (r := r) (w := w) (a := a) (x := x) hP5 with g | g
                               · rw [← g.2.2.2]; omega
                               · rw [g.2.1]; omega
                             rw [if_neg u2, Nat.add_zero] at iha
                             refine g_incn (n := 1) t253_209 rfl rfl (Nat.le_of_ble_eq_true rfl) (am_s1_7 rfl) ?_
                             refine g_goto t253_212 ?_
                             exact iha _ hf hAP hcn htt hxx)
                          | (have u1 : k + 1 = 1 := h175
                             have u0 : ¬ left < dst P r w 1000 a x := h189
                             have eL : (if k + 1 = 1 then left else pd) = left := if_pos u1
                             have u2 : dst P r w 15 a x ≤ (if k + 1 = 1 then left else pd) := by
                               rw [eL]
                               rcases d15 (r := r) (w := w) (a := a) (x := x) hP5 with g | g
                               · rw [← g.2.2.2]; omega
                               · rw [g.2.2] at u0; omega
                             rw [if_pos u2] at iha
                             refine g_incn (n := 1) t253_209 rfl rfl (Nat.le_of_ble_eq_true rfl) (am_s1_7 rfl) ?_
                             refine g_goto t253_212 ?_
                             exact iha _ (hf.wl (by decide)) hAP (fun a ha => by rw [rl_wl_ne (by decide)]; exact hcn a ha) (fun a ha hn => by rw [rl_wl_j hn]; exact htt a ha hn) rl_wl_eq)
                          | (have u1 : ¬ k + 1 = 1 := h175
                             have u0 : ¬ pd < dst P r w 1000 a x := h189
                             have eL : (if k + 1 = 1 then left else pd) = pd := if_neg u1
                             have u2 : dst P r w 15 a x ≤ (if k + 1 = 1 then left else pd) := by
                               rw [eL]
                               rcases d15 (r := r) (w := w) (a := a) (x := x) hP5 with g | g
                               · rw [← g.2.2.2]; omega
                               · rw [g.2.2] at u0; omega
                             rw [if_pos u2] at iha
                             refine g_incn (n := 1) t253_209 rfl rfl (Nat.le_of_ble_eq_true rfl) (am_s1_7 rfl) ?_
                             refine g_goto t253_212 ?_
                             exact iha _ (hf.wl (by decide)) hAP (fun a ha => by rw [rl_wl_ne (by decide)]; exact hcn a ha) (fun a ha hn => by rw [rl_wl_j hn]; exact htt a ha hn) rl_wl_eq)
                      · refine g_p t253_192 rfl ?_
                        refine r_getr t253_193 (f80 hF) rfl rfl ?_
                        refine g_p t253_196 rfl ?_
                        refine g_p t253_198 rfl ?_
                        refine r_lale t253_199 (f108 hF) (by decide) (by omega) hxx ?_
                        refine g_p t253_200 rfl ?_
                        refine r_getr t253_201 (f80 hF) rfl rfl ?_
                        refine g_p t253_204 rfl ?_
                        refine r_lale t253_206 (f107 hF) (by decide) (by omega) hca ?_
                        refine n_ladd t253_207 ?_
                        refine r_last t253_208 (f108 hF) (by decide) (by omega) ?_
                        first
                          | (have u0 := h155
                             exact C0 ((lgle0 hCa).mp u0))
                          | (have u1 : k + 1 = 1 := h175
                             have u0 : left < dst P r w 1000 a x := h189
                             have eL : (if k + 1 = 1 then left else pd) = left := if_pos u1
                             have u2 : ¬ dst P r w 15 a x ≤ (if k + 1 = 1 then left else pd) := by
                               rw [eL]
                               rcases d15 (r := r) (w := w) (a := a) (x := x) hP5 with g | g
                               · rw [← g.2.2.2]; omega
                               · rw [g.2.1]; omega
                             rw [if_neg u2, Nat.add_zero] at iha
                             refine g_incn (n := 1) t253_209 rfl rfl (Nat.le_of_ble_eq_true rfl) (am_s1_7 rfl) ?_
                             refine g_goto t253_212 ?_
                             exact iha _ hf hAP hcn htt hxx)
                          | (have u1 : ¬ k + 1 = 1 := h175
                             have u0 : pd < dst P r w 1000 a x := h189
                             have eL : (if k + 1 = 1 then left else pd) = pd := if_neg u1
                             have u2 : ¬ dst P r w 15 a x ≤ (if k + 1 = 1 then left else pd) := by
                               rw [eL]
                               rcases d15 (r := r) (w := w) (a := a) (x := x) hP5 with g | g
                               · rw [← g.2.2.2]; omega
                               · rw [g.2.1]; omega
                             rw [if_neg u2, Nat.add_zero] at iha
                             refine g_incn (n := 1) t253_209 rfl rfl (Nat.le_of_ble_eq_true rfl) (am_s1_7 rfl) ?_
                             refine g_goto t253_212 ?_
                             exact iha _ hf hAP hcn htt hxx)
                          | (have u1 : k + 1 = 1 := h175
                             have u0 : ¬ left < dst P r w 1000 a x := h189
                             have eL : (if k + 1 = 1 then left else pd) = left := if_pos u1
                             have u2 : dst P r w 15 a x ≤ (if k + 1 = 1 then left else pd) := by
                               rw [eL]
                               rcases d15 (r := r) (w := w) (a := a) (x := x) hP5 with g | g
                               · rw [← g.2.2.2]; omega
                               · rw [g.2.2] at u0; omega
                             rw [if_pos u2] at iha
                             refine g_incn (n := 1) t253_209 rfl rfl (Nat.le_of_ble_eq_true rfl) (am_s1_7 rfl) ?_
                             refine g_goto t253_212 ?_
                             exact iha _ (hf.wl (by decide)) hAP (fun a ha => by rw [rl_wl_ne (by decide)]; exact hcn a ha) (fun a ha hn => by rw [rl_wl_j hn]; exact htt a ha hn) rl_wl_eq)
                          | (have u1 : ¬ k + 1 = 1 := h175
                             have u0 : ¬ pd < dst P r w 1000 a x := h189
                             have eL : (if k + 1 = 1 then left else pd) = pd := if_neg u1
                             have u2 : dst P r w 15 a x ≤ (if k + 1 = 1 then left else pd) := by
                               rw [eL]
                               rcases d15 (r := r) (w := w) (a := a) (x := x) hP5 with g | g
                               · rw [← g.2.2.2]; omega
                               · rw [g.2.2] at u0; omega
                             rw [if_pos u2] at iha
                             refine g_incn (n := 1) t253_209 rfl rfl (Nat.le_of_ble_eq_true rfl) (am_s1_7 rfl) ?_
                             refine g_goto t253_212 ?_
                             exact iha _ (hf.wl (by decide)) hAP (fun a ha => by rw [rl_wl_ne (by decide)]; exact hcn a ha) (fun a ha hn => by rw [rl_wl_j hn]; exact htt a ha hn) rl_wl_eq)
            refine g_k (n := 0) t253_134 rfl rfl ?_
            refine g_is t253_135 (Nat.le_of_ble_eq_true rfl) (am_s1_7 rfl) ?_
            refine INN (mn P) 0 (by omega) _ hf hAP hcn (fun a ha _ => htt a ha) ?_
            have := htt x (by omega)
            rw [if_neg (Nat.lt_irrefl _)] at this
            exact this
          have hFs := hF
          have hF := hf.fx hF
          have f0 := hf.fm
          have m0 : ri s' 80 20 = nI P := (f0.f (i := 20) (by decide)).trans m0
          have p1 : ri s' 85 1 = nI r := (f0.g (p := 85) (i := 1) (by decide)).trans p1
          have p2 : ri s' 85 2 = nI w := (f0.g (p := 85) (i := 2) (by decide)).trans p2
          have e33 : ri s' 80 33 = nI row := (f0.f (i := 33) (by decide)).trans e33
          have e21 : ri s' 80 21 = nI pd := (f0.f (i := 21) (by decide)).trans e21
          have e35 : ri s' 80 35 = nI left := (f0.f (i := 35) (by decide)).trans e35
          have hS : MSe se s' := by have h := hS.fm f0 (by decide) (by decide) (by decide) (by decide); exact h
          have hB1 : MB1 b kb s' := by have h := hB1.fm (A := 80 :: hA_) (B := nB) f0.1 (by decide) (by decide) (by decide) (by decide); exact h
          refine g_p t253_79 rfl ?_
          refine g_p t253_81 rfl ?_
          refine r_cv t253_82 (f80 hF) rfl ?_
          refine c209 (by exact hF) (by exact m0) hP5 hP0 ?_
          refine k_v ?_ rfl
          refine n_cge t253_85 (by omega) (by omega) (fun h85 => ?_) (fun h85 => ?_)
          · exfalso; omega
          · refine g_p t253_88 rfl ?_
            refine g_p t253_89 rfl ?_
            refine r_cv t253_91 (f80 hF) rfl ?_
            refine c214 (by exact hF) (by exact m0) hP5 (by exact p1) (by exact p2) hr5 hw5 (by omega) ?_
            refine k_v ?_ rfl
            refine b_eq t253_94 (fun h94 => ?_) (fun h94 => ?_)
            · refine g_incn (n := 1) t253_215 rfl rfl (Nat.le_of_ble_eq_true rfl) (am_s1_6 rfl) ?_
              refine g_goto t253_218 ?_
              first
                | (have u0 : std P r w x = false := h94
                   exact ihb _ hf hAP hcn (fun y hy => by
                     rw [htt y hy]
                     by_cases h9 : y = x
                     · subst h9; rw [if_neg (Nat.lt_irrefl _), if_pos (Nat.lt_succ_self _), hC0x _ u0]
                     · exact congrArg lN (ite_same (by omega))))
                | (have u0 : wsn se P (k + 1) x = false := h105
                   exact ihb _ hf hAP hcn (fun y hy => by
                     rw [htt y hy]
                     by_cases h9 : y = x
                     · subst h9; rw [if_neg (Nat.lt_irrefl _), if_pos (Nat.lt_succ_self _), hCs, if_neg (fun h => no_b ((Bool.and_eq_true _ _).mp h).2 u0)]
                     · exact congrArg lN (ite_same (by omega))))
                | (have u0 : ¬ sy P b x = u := h128
                   have u1 : k + 1 = q := h116
                   exact ihb _ hf hAP hcn (fun y hy => by
                     rw [htt y hy]
                     by_cases h9 : y = x
                     · subst h9; rw [if_neg (Nat.lt_irrefl _), if_pos (Nat.lt_succ_self _), hCs, if_neg (fun h => by
                         have h := ((Bool.and_eq_true _ _).mp h).1
                         rw [decide_eq_false (fun h6 => h6 u1), decide_eq_false u0] at h
                         exact absurd h (by decide))]
                     · exact congrArg lN (ite_same (by omega))))
            · refine g_p t253_97 rfl ?_
              refine g_p t253_98 rfl ?_
              refine g_p t253_100 rfl ?_
              refine r_cv t253_102 (f80 hF) rfl ?_
              refine c252 (by exact hF) hP5 (by exact m0) (by exact hS) hse (by omega) (by omega) ?_
              refine k_v ?_ rfl
              refine b_eq t253_105 (fun h105 => ?_) (fun h105 => ?_)
              · refine g_incn (n := 1) t253_215 rfl rfl (Nat.le_of_ble_eq_true rfl) (am_s1_6 rfl) ?_
                refine g_goto t253_218 ?_
                first
                  | (have u0 : std P r w x = false := h94
                     exact ihb _ hf hAP hcn (fun y hy => by
                       rw [htt y hy]
                       by_cases h9 : y = x
                       · subst h9; rw [if_neg (Nat.lt_irrefl _), if_pos (Nat.lt_succ_self _), hC0x _ u0]
                       · exact congrArg lN (ite_same (by omega))))
                  | (have u0 : wsn se P (k + 1) x = false := h105
                     exact ihb _ hf hAP hcn (fun y hy => by
                       rw [htt y hy]
                       by_cases h9 : y = x
                       · subst h9; rw [if_neg (Nat.lt_irrefl _), if_pos (Nat.lt_succ_self _), hCs, if_neg (fun h => no_b ((Bool.and_eq_true _ _).mp h).2 u0)]
                       · exact congrArg lN (ite_same (by omega))))
                  | (have u0 : ¬ sy P b x = u := h128
                     have u1 : k + 1 = q := h116
                     exact ihb _ hf hAP hcn (fun y hy => by
                       rw [htt y hy]
                       by_cases h9 : y = x
                       · subst h9; rw [if_neg (Nat.lt_irrefl _), if_pos (Nat.lt_succ_self _), hCs, if_neg (fun h => by
                           have h := ((Bool.and_eq_true _ _).mp h).1
                           rw [decide_eq_false (fun h6 => h6 u1), decide_eq_false u0] at h
                           exact absurd h (by decide))]
                       · exact congrArg lN (ite_same (by omega))))
              · refine g_p t253_108 rfl ?_
                refine g_p t253_109 rfl ?_
                refine g_ceq t253_110 (fun h110 => ?_) (fun h110 => ?_)
                · first
                    | exact AL_ h94 (by rw [Bool.and_eq_true]; refine ⟨?_, h105⟩; have u0 : ¬ k + 1 = q := h116; rw [decide_eq_true u0]; rfl)
                    | exact AL_ h94 (by rw [Bool.and_eq_true]; refine ⟨?_, h105⟩; have u0 : sy P b x = u := h128; rw [decide_eq_true u0, Bool.or_true])
                    | exact absurd h110 (nI_m1 (by omega))
                · refine g_p t253_113 rfl ?_
                  refine g_p t253_115 rfl ?_
                  refine n_cne t253_116 (by omega) (by omega) (fun h116 => ?_) (fun h116 => ?_)
                  · first
                      | exact AL_ h94 (by rw [Bool.and_eq_true]; refine ⟨?_, h105⟩; have u0 : ¬ k + 1 = q := h116; rw [decide_eq_true u0]; rfl)
                      | exact AL_ h94 (by rw [Bool.and_eq_true]; refine ⟨?_, h105⟩; have u0 : sy P b x = u := h128; rw [decide_eq_true u0, Bool.or_true])
                      | exact absurd h110 (nI_m1 (by omega))
                  · refine g_p t253_119 rfl ?_
                    refine g_p t253_120 rfl ?_
                    refine g_p t253_121 rfl ?_
                    refine r_cv t253_123 (f80 hF) rfl ?_
                    refine c231 (by exact hF) (by exact m0) hP5 (by exact hB1) hk4 (by omega) ?_
                    refine k_v ?_ rfl
                    refine g_p t253_126 rfl ?_
                    refine g_ceq t253_128 (fun h128 => ?_) (fun h128 => ?_)
                    · first
                        | exact AL_ h94 (by rw [Bool.and_eq_true]; refine ⟨?_, h105⟩; have u0 : ¬ k + 1 = q := h116; rw [decide_eq_true u0]; rfl)
                        | exact AL_ h94 (by rw [Bool.and_eq_true]; refine ⟨?_, h105⟩; have u0 : sy P b x = u := h128; rw [decide_eq_true u0, Bool.or_true])
                        | exact absurd h110 (nI_m1 (by omega))
                    · refine g_goto t253_131 ?_
                      refine g_incn (n := 1) t253_215 rfl rfl (Nat.le_of_ble_eq_true rfl) (am_s1_6 rfl) ?_
                      refine g_goto t253_218 ?_
                      first
                        | (have u0 : std P r w x = false := h94
                           exact ihb _ hf hAP hcn (fun y hy => by
                             rw [htt y hy]
                             by_cases h9 : y = x
                             · subst h9; rw [if_neg (Nat.lt_irrefl _), if_pos (Nat.lt_succ_self _), hC0x _ u0]
                             · exact congrArg lN (ite_same (by omega))))
                        | (have u0 : wsn se P (k + 1) x = false := h105
                           exact ihb _ hf hAP hcn (fun y hy => by
                             rw [htt y hy]
                             by_cases h9 : y = x
                             · subst h9; rw [if_neg (Nat.lt_irrefl _), if_pos (Nat.lt_succ_self _), hCs, if_neg (fun h => no_b ((Bool.and_eq_true _ _).mp h).2 u0)]
                             · exact congrArg lN (ite_same (by omega))))
                        | (have u0 : ¬ sy P b x = u := h128
                           have u1 : k + 1 = q := h116
                           exact ihb _ hf hAP hcn (fun y hy => by
                             rw [htt y hy]
                             by_cases h9 : y = x
                             · subst h9; rw [if_neg (Nat.lt_irrefl _), if_pos (Nat.lt_succ_self _), hCs, if_neg (fun h => by
                                 have h := ((Bool.and_eq_true _ _).mp h).1
                                 rw [decide_eq_false (fun h6 => h6 u1), decide_eq_false u0] at h
                                 exact absurd h (by decide))]
                             · exact congrArg lN (ite_same (by omega))))
      have ZER : ∀ j i : Nat, i + j = 243 → ∀ s' z7, FML hA_ nB cG s s' → AP P r w s' → (∀ a, a < 243 → rl s' 107 a = lN (if a < mn P then C k a else 0)) → (∀ a, a < i → rl s' 108 a = lN 0) → gG X (d + 7) 253 54 [.ref 80, .int (nI n), .int (nI kb), .int (nI q), .int u, .int (nI (k + 1)), .int (nI i), z7] [] (mR s') Q := by
        intro j
        induction j with
        | zero =>
          intro i hi s' z7 hf hAP hcn h0
          have hi : i = 243 := by omega
          subst hi
          have hF := hf.fx hF
          refine g_p t253_54 rfl ?_
          refine g_k (n := 243) t253_56 rfl rfl ?_
          refine n_cge t253_59 (by omega) (by omega) (fun h59 => ?_) (fun h59 => ?_)
          · refine g_k (n := 0) t253_76 rfl rfl ?_
            refine g_is t253_77 (Nat.le_of_ble_eq_true rfl) (am_s1_6 rfl) ?_
            exact ROW (mn P) 0 (by omega) _ hf hAP hcn (fun a ha => by rw [if_neg (Nat.not_lt_zero _)]; exact h0 a ha) _
          · exfalso; omega
        | succ j ihz =>
          intro i hi s' z7 hf hAP hcn h0
          have hF := hf.fx hF
          refine g_p t253_54 rfl ?_
          refine g_k (n := 243) t253_56 rfl rfl ?_
          refine n_cge t253_59 (by omega) (by omega) (fun h59 => ?_) (fun h59 => ?_)
          · exfalso; omega
          · refine g_p t253_62 rfl ?_
            refine r_getr t253_63 (f80 hF) rfl rfl ?_
            refine g_p t253_66 rfl ?_
            refine g_p t253_68 rfl ?_
            refine r_last t253_69 (f108 hF) (by decide) (by omega) ?_
            refine g_incn (n := 1) t253_70 rfl rfl (Nat.le_of_ble_eq_true rfl) (am_s1_6 rfl) ?_
            refine g_goto t253_73 ?_
            refine ihz (i + 1) (by omega) _ _ (hf.wl (by decide)) hAP (fun a ha => by rw [rl_wl_ne (by decide)]; exact hcn a ha) (fun a ha => ?_)
            by_cases h9 : a = i
            · subst h9; exact rl_wl_eq
            · rw [rl_wl_j h9]; exact h0 a (by omega)
      have hF := hf.fx hF
      refine g_p t253_45 rfl ?_
      refine g_p t253_47 rfl ?_
      refine n_cgt t253_48 (by omega) (by omega) (fun h48 => ?_) (fun h48 => ?_)
      · exfalso; omega
      · refine g_k (n := 0) t253_51 rfl rfl ?_
        refine g_is t253_52 (Nat.le_of_ble_eq_true rfl) (am_s1_6 rfl) ?_
        exact ZER 243 0 (by omega) _ _ hf hAP hcn (fun a ha => absurd ha (Nat.not_lt_zero a))
  have INI : ∀ j i : Nat, i + j = 243 → ∀ s' z6 z7, am_nl z6 = true → FML hA_ nB cG s s' → AP P r w s' → (∀ a, a < i → rl s' 107 a = lN (if a < mn P then C 0 a else 0)) → gG X (d + 7) 253 7 [.ref 80, .int (nI n), .int (nI kb), .int (nI q), .int u, .int (nI i), z6, z7] [] (mR s') Q := by
    intro j
    induction j with
    | zero =>
      intro i hi s' z6 z7 n6 hf hAP hcn
      have hi : i = 243 := by omega
      subst hi
      have hF := hf.fx hF
      refine g_p t253_7 rfl ?_
      refine g_k (n := 243) t253_9 rfl rfl ?_
      refine n_cge t253_12 (by omega) (by omega) (fun h12 => ?_) (fun h12 => ?_)
      · refine g_k (n := 1) t253_42 rfl rfl ?_
        refine g_is t253_43 (Nat.le_of_ble_eq_true rfl) (am_s1_5 rfl) ?_
        exact DAY n 0 (by omega) _ _ _ n6 hf hAP (fun a ha => hcn a ha)
      · exfalso; omega
    | succ j ih =>
      intro i hi s' z6 z7 n6 hf hAP hcn
      have hFs := hF
      have hF := hf.fx hF
      have f0 := hf.fm
      have m0 : ri s' 80 20 = nI P := (f0.f (i := 20) (by decide)).trans m0
      have p1 : ri s' 85 1 = nI r := (f0.g (p := 85) (i := 1) (by decide)).trans p1
      have p2 : ri s' 85 2 = nI w := (f0.g (p := 85) (i := 2) (by decide)).trans p2
      have e33 : ri s' 80 33 = nI row := (f0.f (i := 33) (by decide)).trans e33
      have e21 : ri s' 80 21 = nI pd := (f0.f (i := 21) (by decide)).trans e21
      have e35 : ri s' 80 35 = nI left := (f0.f (i := 35) (by decide)).trans e35
      have hS : MSe se s' := by have h := hS.fm f0 (by decide) (by decide) (by decide) (by decide); exact h
      have hB1 : MB1 b kb s' := by have h := hB1.fm (A := 80 :: hA_) (B := nB) f0.1 (by decide) (by decide) (by decide) (by decide); exact h
      refine g_p t253_7 rfl ?_
      refine g_k (n := 243) t253_9 rfl rfl ?_
      refine n_cge t253_12 (by omega) (by omega) (fun h12 => ?_) (fun h12 => ?_)
      · exfalso; omega
      · refine g_p t253_15 rfl ?_
        refine r_getr t253_16 (f80 hF) rfl rfl ?_
        refine g_p t253_19 rfl ?_
        refine g_p t253_21 rfl ?_
        refine g_p t253_23 rfl ?_
        refine r_gete t253_24 (f80 hF) rfl rfl e33 ?_
        refine n_cne t253_27 (by omega) (by omega) (fun h27 => ?_) (fun h27 => ?_)
        · refine g_p t253_34 rfl ?_
          refine r_last t253_35 (f107 hF) (by decide) (by omega) ?_
          refine g_incn (n := 1) t253_36 rfl rfl (Nat.le_of_ble_eq_true rfl) (am_s1_5 rfl) ?_
          refine g_goto t253_39 ?_
          refine ih (i + 1) (by omega) _ _ _ n6 (hf.wl (by decide)) hAP (fun a ha => ?_)
          by_cases h9 : a = i
          · subst h9
            rw [rl_wl_eq]
            first
              | (have u0 : a = row := h27
                 rw [if_pos (by omega), hC0, if_pos u0]; rfl)
              | (have u0 : ¬ a = row := h27
                 rw [hC0, if_neg u0]
                 split <;> rfl)
          · rw [rl_wl_j h9]; exact hcn a (by omega)
        · refine g_p t253_30 rfl ?_
          refine g_goto t253_31 ?_
          refine r_last t253_35 (f107 hF) (by decide) (by omega) ?_
          refine g_incn (n := 1) t253_36 rfl rfl (Nat.le_of_ble_eq_true rfl) (am_s1_5 rfl) ?_
          refine g_goto t253_39 ?_
          refine ih (i + 1) (by omega) _ _ _ n6 (hf.wl (by decide)) hAP (fun a ha => ?_)
          by_cases h9 : a = i
          · subst h9
            rw [rl_wl_eq]
            first
              | (have u0 : a = row := h27
                 rw [if_pos (by omega), hC0, if_pos u0]; rfl)
              | (have u0 : ¬ a = row := h27
                 rw [hC0, if_neg u0]
                 split <;> rfl)
          · rw [rl_wl_j h9]; exact hcn a (by omega)
  refine en253 rfl rfl rfl rfl rfl ?_
  refine g_p t253_0 rfl ?_
  refine r_cv t253_1 (f80 hF) rfl ?_
  refine c235 (by exact hF) hP5 hP0 (by exact m0) (by exact p1) (by exact p2) hr5 hw5 (by exact e43) (fun s1 f1 hAP => ?_)
  refine k_0 ?_
  have hF := Fx.fr (by exact hF) f1.1
  have m0 := (f1.f (i := 20) (by decide)).trans m0
  have e33 := (f1.f (i := 33) (by decide)).trans e33
  have e35 := (f1.f (i := 35) (by decide)).trans e35
  have e34 := (f1.f (i := 34) (by decide)).trans e34
  have e21 := (f1.f (i := 21) (by decide)).trans e21
  have p1 := (f1.g (p := 85) (i := 1) (by decide)).trans p1
  have p2 := (f1.g (p := 85) (i := 2) (by decide)).trans p2
  have e43 := (f1.f (i := 43) (by decide)).trans e43
  refine g_k (n := 0) t253_4 rfl rfl ?_
  refine g_is t253_5 (Nat.le_of_ble_eq_true rfl) (am_s1_5 rfl) ?_
  exact INI 243 0 (by omega) s1 _ _ rfl f1.ml hAP (fun a ha => absurd ha (Nat.not_lt_zero a))
end RV
