/-! THE REFERENCE, 20: conditions read -/
theorem adv_lcp {t : List Nat} {f : Ps → LV} {p : Nat} (hf : adv f) {x : LV} (h : ple p x.2) : ple p (lcp t f x).2 := by
  unfold lcp
  split
  · exact hf p _ (ple_m (ple_pst h) (Nat.le_succ p))
  · exact ple_pre
theorem adv_anl {t : List Nat} {h1 : Ps → BV} (hf : adv h1) : ∀ n p x, ple p x.2 → ple p (anl t h1 n x).2 := by
  intro n
  induction n with
  | zero => intro p x h; exact h
  | succ n ih =>
    intro p x h
    unfold anl
    split
    · exact ih p _ (hf p _ (ple_m (ple_pst h) (Nat.le_succ p)))
    · exact h
theorem adv_orl {t : List Nat} {h1 : Ps → BV} (hf : adv h1) : ∀ n p x, ple p x.2 → ple p (orl t h1 n x).2 := by
  intro n
  induction n with
  | zero => intro p x h; exact h
  | succ n ih =>
    intro p x h
    unfold orl
    split
    · exact ih p _ (hf p _ (ple_m (ple_pst h) (Nat.le_succ p)))
    · exact h
theorem adv_an {t : List Nat} {h1 : Ps → BV} (hf : adv h1) : adv (fun τ => anl t h1 120 (h1 τ)) := fun p σ h => adv_anl hf 120 p _ (hf p σ h)
theorem adv_cnd {t : List Nat} {h1 : Ps → BV} (hf : adv h1) {p : Nat} {x : BV} (h : ple p x.2) : ple p (cnd t h1 x).2 := adv_orl (adv_an hf) 120 p _ (adv_anl hf 120 p _ h)
theorem adv_un1 {t : List Nat} {f : Nat → Ps → LV} (hf : ∀ e, adv (f e)) : ∀ e, adv (un1 t f e) := by
  intro e
  induction e with
  | zero =>
    intro p σ h
    unfold un1
    split
    · exact ple_pre
    · exact adv_lcp (hf 0) (hf 0 p σ h)
  | succ e ih =>
    intro p σ h
    have h1 := ple_m (ple_pst (t := t) h) (Nat.le_succ p)
    unfold un1
    split
    · exact ih p _ h1
    · split
      · exact ple_pne (adv_cnd ih (ih p _ h1))
      · exact adv_lcp (hf (e + 1)) (hf (e + 1) p σ h)
theorem anl_d {t : List Nat} {h1 : Ps → BV} {b : Bool} {τ : Ps} (h : ¬ psg t τ = 38) : ∀ n, anl t h1 n (b, τ) = (b, τ) := by
  intro n
  cases n with
  | zero => rfl
  | succ n => unfold anl; rw [if_neg h]
theorem orl_d {t : List Nat} {h1 : Ps → BV} {b : Bool} {τ : Ps} (h : ¬ psg t τ = 124) : ∀ n, orl t h1 n (b, τ) = (b, τ) := by
  intro n
  cases n with
  | zero => rfl
  | succ n => unfold orl; rw [if_neg h]
/-- method y of the reference answers the condition f -/
def MU (X : am_X) (T nT B : Nat) (t : List Nat) (a : Nat → Int32) (V : Prop) (y k d : Nat) (args : List Value) (f : Ps → BV) : Prop := ∀ (s : mM) (j : Nat) (Q : Option Value → am_H → Prop), Fx s → MT T nT B t s → MS t (.inl j) s → ri s 80 12 = nI k → (V → LTm a s) → (∀ s' c, FM [] rB s s' → RM t (f (.inl j)).2 s' → (ri s' 80 11 = -1 → ri s' 80 12 = nI k ∧ (V → c = (f (.inl j)).1)) → Q (some (.int (bI c))) (mR s')) → gE X d y (.ref 80 :: args) (mR s) Q
theorem i64e {x y : Int32} : x.toInt64 = y.toInt64 ↔ x = y := ⟨fun h => Int32.toInt_inj.mp (by rw [← Int32.toInt_toInt64, ← Int32.toInt_toInt64, h]), fun h => by rw [h]⟩
theorem i64l {x y : Int32} : x.toInt64 < y.toInt64 ↔ x < y := by rw [Int64.lt_iff_toInt_lt, Int32.lt_iff_toInt_lt, Int32.toInt_toInt64, Int32.toInt_toInt64]
section RC
variable {X : am_X} {d : Nat} {s : mM} {hp : am_H} {Q : Option Value → am_H → Prop} {T nT B k n w : Nat} {t : List Nat} {σ : Ps} {a : Nat → Int32} {V : Prop} {f g : Ps → LV} {u : Int64} {h1 h2 : Ps → BV} {v : Int32}
theorem c189n (hF : Fx s) (hX : MT T nT B t s) {j : Nat} (hS : MS t (.inl j) s) (e12 : ri s 80 12 = nI k) (hL : V → LTm a s) (hn : ¬ sgn t j = 91) (hq : ∀ s' v, FM [] rB s s' → RM t (atn t a (.inl j)).2 s' → (ri s' 80 11 = -1 → ri s' 80 12 = nI k ∧ (V → v.toInt64 = (atn t a (.inl j)).1 ∧ bd (atn t a (.inl j)).1)) → Q (some (.int v)) (mR s')) : gE X (d + 5) 189 [.ref 80] (mR s) Q := by
  have h120 := hX.2.2.2.2.2.2.2.2.1
  by_cases hd : 48 ≤ sgn t j ∧ sgn t j ≤ 57
  · have e : atn t a (.inl j) = ((dgl t 3 (lN (sgn t j - 48), .inl j)).1, pst t (dgl t 3 (lN (sgn t j - 48), .inl j)).2) := if_pos hd
    rw [e] at hq
    exact c189_d hF hX hS e12 hd hq
  · have e : atn t a (.inl j) = (if sgn t j = 112 then ((a 4).toInt64, pst t (.inl j)) else if sgn t j = 100 then ((a 5).toInt64, pst t (.inl j)) else if sgn t j = 115 then ((a 6).toInt64, pst t (.inl j)) else if sgn t j = 110 then ((a 7).toInt64, pst t (.inl j)) else (0, pre (.inl j))) := if_neg hd
    rw [e] at hq
    by_cases c1 : sgn t j = 112
    · rw [if_pos c1] at hq; exact c189_112 hF hX hS e12 hL c1 hq
    · rw [if_neg c1] at hq
      by_cases c2 : sgn t j = 100
      · rw [if_pos c2] at hq; exact c189_100 hF hX hS e12 hL c2 hq
      · rw [if_neg c2] at hq
        by_cases c3 : sgn t j = 115
        · rw [if_pos c3] at hq; exact c189_115 hF hX hS e12 hL c3 hq
        · rw [if_neg c3] at hq
          by_cases c4 : sgn t j = 110
          · rw [if_pos c4] at hq; exact c189_110 hF hX hS e12 hL c4 hq
          · rw [if_neg c4] at hq
            exact c189_x hF hX hS c1 c2 c3 c4 hn hd (fun s' f hE => hq s' (nI 0) f hE.rr (fun h => absurd h (hE.ne h120)))
theorem c189z : MC X T nT B t a V 189 6 (d + 5) (lat t a 0) := by
  intro s j Q hF hX hS e12 hL hq
  have h120 := hX.2.2.2.2.2.2.2.2.1
  have h11 := hS.1
  have hsp := hS.sk
  have hsg := hX.sg j
  by_cases l1 : sgn t j = 91
  · have e : lat t a 0 (.inl j) = (0, pre (.inl j)) := by
      show atn t a (.inl j) = _
      unfold atn
      show (if 48 ≤ sgn t j ∧ sgn t j ≤ 57 then _ else if sgn t j = 112 then _ else if sgn t j = 100 then _ else if sgn t j = 115 then _ else if sgn t j = 110 then _ else (0, pre (.inl j))) = _
      rw [if_neg (by omega), if_neg (by omega), if_neg (by omega), if_neg (by omega), if_neg (by omega)]
    rw [e] at hq
    refine en189 rfl ?_
    refine g_p t189_0 rfl ?_
    refine r_cv t189_1 (f80 hF) rfl ?_
    refine c183 (by exact hF) (by exact hX) (by exact hS) (fun s1 f1 hJ => ?_)
    have hS := hJ.m2 hsp
    have e10 := hJ.2.2
    have h11 := hJ.1
    refine k_v ?_ rfl
    have hF := Fx.fr (by exact hF) f1.1
    have e12 := (f1.f (i := 12) (by decide)).trans e12
    have hX := MT.fm (by exact hX) f1 (by decide) (by decide) (by decide) (by decide) (by decide)
    refine g_isn t189_4 (Nat.le_of_ble_eq_true rfl) (am_s1_1 rfl) ?_
    refine g_h t189_5 rfl ?_
    refine g_p t189_7 rfl ?_
    refine g_cs t189_8 rfl rfl rfl ?_
    refine c178_3 ?_
    rw [am3_f hsg (by omega) (by omega) (by omega) (by omega)]
    refine k_v ?_ rfl
    refine b_eq t189_11 (fun h11 => ?_) (fun h11 => ?_)
    · refine g_p t189_31 rfl ?_
      refine g_k (n := 91) t189_32 rfl rfl ?_
      refine g_cne t189_34 (fun h34 => ?_) (fun h34 => ?_)
      · exact absurd ((lk_e hsg (by decide) (by decide)).mpr l1) h34
      · refine g_p t189_37 rfl ?_
        refine r_cv t189_38 (f80 hF) rfl ?_
        refine c185f (by exact hF) hJ (by exact e12) (fun s2 f2 hE => ?_)
        refine k_v ?_ rfl
        refine b_ne t189_41 (fun h41 => ?_) (fun h41 => ?_)
        · exact no_b h41 rfl
        · refine g_k (n := 0) t189_44 rfl rfl ?_
          exact i_ret t189_45 rfl (hq _ _ ((f1.mono (by decide) (by decide)).tr (f2.mono (by decide) (by decide))) hE.rr (fun h => absurd h (hE.ne h120)))
    · exact no_b h11 rfl
  · exact c189n hF hX hS e12 hL l1 hq
theorem c189s (hk : k < 6) (m191 : MC X T nT B t a V 191 (k + 1) (d + 4) g) : MC X T nT B t a V 189 k (d + 5) (fun σ => if psg t σ = 91 then ((g (pst t σ)).1, pne t 93 (g (pst t σ)).2) else atn t a σ) := by
  intro s j Q hF hX hS e12 hL hq
  have h120 := hX.2.2.2.2.2.2.2.2.1
  have h11 := hS.1
  have hsp := hS.sk
  have hsg := hX.sg j
  by_cases l1 : sgn t j = 91
  · have hjl : j < t.length := sgn_pos (by omega)
    simp only [if_pos (show psg t (Sum.inl j) = 91 from l1)] at hq
    refine en189 rfl ?_
    refine g_p t189_0 rfl ?_
    refine r_cv t189_1 (f80 hF) rfl ?_
    refine c183 (by exact hF) (by exact hX) (by exact hS) (fun s1 f1 hJ => ?_)
    have hS := hJ.m2 hsp
    have e10 := hJ.2.2
    have h11 := hJ.1
    refine k_v ?_ rfl
    have hF := Fx.fr (by exact hF) f1.1
    have e12 := (f1.f (i := 12) (by decide)).trans e12
    have hX := MT.fm (by exact hX) f1 (by decide) (by decide) (by decide) (by decide) (by decide)
    refine g_isn t189_4 (Nat.le_of_ble_eq_true rfl) (am_s1_1 rfl) ?_
    refine g_h t189_5 rfl ?_
    refine g_p t189_7 rfl ?_
    refine g_cs t189_8 rfl rfl rfl ?_
    refine c178_3 ?_
    rw [am3_f hsg (by omega) (by omega) (by omega) (by omega)]
    refine k_v ?_ rfl
    refine b_eq t189_11 (fun h11 => ?_) (fun h11 => ?_)
    · refine g_p t189_31 rfl ?_
      refine g_k (n := 91) t189_32 rfl rfl ?_
      refine g_cne t189_34 (fun h34 => ?_) (fun h34 => ?_)
      · exact absurd ((lk_e hsg (by decide) (by decide)).mpr l1) h34
      · refine g_p t189_37 rfl ?_
        refine r_cv t189_38 (f80 hF) rfl ?_
        refine c185t (by exact hF) hJ hjl h120 (by exact e12) hk (fun s38 f38 hJ2 e12 => ?_)
        have h11 := hJ2.1
        refine k_v ?_ rfl
        have hF := Fx.fr (by exact hF) f38.1
        have hX := MT.fm (by exact hX) f38 (by decide) (by decide) (by decide) (by decide) (by decide)
        refine b_ne t189_41 (fun h41 => ?_) (fun h41 => ?_)
        · refine g_p t189_46 rfl ?_
          refine r_cv t189_47 (f80 hF) rfl ?_
          have hf12 : FM [] rB s s38 := (f1.mono (by decide) (by decide)).tr (f38.mono (by decide) (by decide))
          refine m191 _ (skp t (j + 1)) _ (by exact hF) (by exact hX) (by exact hJ2.ms) (by exact e12) (fun hV => (hL hV).fm hf12 (by decide)) (fun s47 v47 f47 hR hv47 => ?_)
          have hX := MT.fm (by exact hX) f47 (by decide) (by decide) (by decide) (by decide) (by decide)
          have hF := Fx.fr (by exact hF) f47.1
          refine k_v ?_ rfl
          refine g_isn t189_50 (Nat.le_of_ble_eq_true rfl) (am_s1_2 rfl) ?_
          refine g_p t189_51 rfl ?_
          refine g_k (n := 93) t189_52 rfl rfl ?_
          refine r_cv t189_54 (f80 hF) rfl ?_
          refine c186 (by exact hF) (by exact hX) hR (by decide) (by decide) (by decide) (fun s54 q h11 f54 he hc hql hJ3 => ?_) (fun s54 f54 hD _ => ?_)
          · have e12b := (f54.f (i := 12) (by decide)).trans (hv47 h11).1
            have hF := Fx.fr (by exact hF) f54.1
            refine k_v ?_ rfl
            refine b_ne t189_57 (fun h57 => ?_) (fun h57 => ?_)
            · refine g_p t189_62 rfl ?_
              refine g_p t189_63 rfl ?_
              refine r_gete t189_64 (f80 hF) rfl rfl e12b ?_
              refine g_k (n := 1) t189_67 rfl rfl ?_
              refine g_subn t189_68 (by omega) ?_
              refine r_puti t189_69 (f80 hF) rfl rfl ?_
              refine g_p t189_72 rfl ?_
              refine i_ret t189_73 rfl (hq _ _ (((FM.tr hf12 (f47.tr (f54.mono (by decide) (by decide))))).m (by decide)) ?_ (fun _ => ⟨rfl, fun hV => ?_⟩))
              · have he2 : pne t 93 (g (pst t (Sum.inl j))).2 = pst t (.inl q) := by
                  rw [show (g (pst t (Sum.inl j))).2 = .inl q from he]
                  exact if_pos hc
                rw [he2]
                exact (show MJ t (q + 1) (wi s54 80 12 (nI (k + 1 - 1))) from hJ3).rm
              · exact (hv47 h11).2 hV
            · exact no_b rfl h57
          · have hF := Fx.fr (by exact hF) f54.1
            refine k_v ?_ rfl
            refine b_ne t189_57 (fun h57 => ?_) (fun h57 => ?_)
            · exact no_b h57 rfl
            · refine g_k (n := 0) t189_60 rfl rfl ?_
              exact i_ret t189_61 rfl (hq _ _ (FM.tr hf12 (f47.tr (f54.mono (by decide) (by decide)))) (Or.inr hD) (fun h => absurd h (hD.fl h120)))
        · exact no_b rfl h41
    · exact no_b h11 rfl
  · simp only [if_neg (show ¬ psg t (Sum.inl j) = 91 from l1)] at hq
    exact c189n hF hX hS e12 hL l1 hq
theorem c189L : ∀ (e k d : Nat), k + e = 6 → MC X T nT B t a V 189 k (d + 3 * e + 5) (lat t a e) := by
  intro e
  induction e with
  | zero =>
    intro k d hk
    have : k = 6 := by omega
    subst this
    exact c189z
  | succ e ih =>
    intro k d hk
    exact c189s (d := d + 3 * e + 3) (by omega) (c191 (d := d + 3 * e + 2) (adv_ltm (adv_lat e)) (c190 (d := d + 3 * e + 1) (adv_lat e) (ih (k + 1) d (by omega))))
theorem c191L {e k d : Nat} (hk : k + e = 6) : MC X T nT B t a V 191 k (d + 3 * e + 7) (lsm t (lat t a e)) := c191 (d := d + 3 * e + 2) (adv_ltm (adv_lat e)) (c190 (d := d + 3 * e + 1) (adv_lat e) (c189L e k d hk))
end RC
