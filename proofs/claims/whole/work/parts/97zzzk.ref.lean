/-! THE REFERENCE, 28: books read -/
section RK2
variable {X : am_X} {d : Nat} {s : mM} {hp : am_H} {Q : Option Value → am_H → Prop} {k n w : Nat} {t l : List Nat}
def sgI (x : Nat) : Int32 := if isP x = true then nI (sgo x) else -1
theorem sgo_4 (x : Nat) : sgo x < 4 := by
  unfold sgo
  split
  · decide
  · split
    · decide
    · split <;> decide
/-- the clauses read so far -/
def DBm (cl : List Cl) (s : mM) : Prop := ∀ i, i < cl.length → ri s 87 (24 + i) = nI (cl.getD i (0, [])).1 ∧ (∀ q, q < (cl.getD i (0, [])).2.length → ri s 88 ((24 + i) * 5 + q) = nI ((cl.getD i (0, [])).2.getD q 0)) ∧ (cl.getD i (0, [])).2.length ≤ 5
theorem DBm.fm {A B : List Nat} {cl : List Cl} {s s' : mM} (h : DBm cl s) (f : FM A B s s') (h1 : 87 ∉ 80 :: A) (h2 : 88 ∉ 80 :: A) : DBm cl s' := fun i hi => ⟨(f.g h1).trans (h i hi).1, fun q hq => (f.g h2).trans ((h i hi).2.1 q hq), (h i hi).2.2⟩
def KB (s s' : mM) : Prop := (∀ i, i < 24 → ri s' 87 i = ri s 87 i) ∧ (∀ i, i < 120 → ri s' 88 i = ri s 88 i) ∧ (∀ i, i < 3 → ri s' 89 i = ri s 89 i) ∧ ∀ i, i < 3 → ri s' 90 i = ri s 90 i
theorem KB.fm {A B : List Nat} {s0 s s' : mM} (h : KB s0 s) (f : FM A B s s') (h1 : 87 ∉ 80 :: A) (h2 : 88 ∉ 80 :: A) (h3 : 89 ∉ 80 :: A) (h4 : 90 ∉ 80 :: A) : KB s0 s' := ⟨fun i hi => (f.g h1).trans (h.1 i hi), fun i hi => (f.g h2).trans (h.2.1 i hi), fun i hi => (f.g h3).trans (h.2.2.1 i hi), fun i hi => (f.g h4).trans (h.2.2.2 i hi)⟩
abbrev bA : List Nat := [87, 88, 89, 90]
theorem c202 {x : Nat} (hx : x < 256) (hq : Q (some (.int (sgI x))) hp) : gE X d 202 [.int (lk x)] hp Q := by
  refine en202 rfl ?_
  refine g_p t202_0 rfl ?_
  refine g_k (n := 46) t202_1 rfl rfl ?_
  refine g_cne t202_3 (fun h3 => ?_) (fun h3 => ?_)
  · refine g_p t202_10 rfl ?_
    refine g_k (n := 114) t202_11 rfl rfl ?_
    refine g_cne t202_13 (fun h13 => ?_) (fun h13 => ?_)
    · refine g_p t202_20 rfl ?_
      refine g_k (n := 119) t202_21 rfl rfl ?_
      refine g_cne t202_23 (fun h23 => ?_) (fun h23 => ?_)
      · refine g_p t202_30 rfl ?_
        refine g_k (n := 63) t202_31 rfl rfl ?_
        refine g_cne t202_33 (fun h33 => ?_) (fun h33 => ?_)
        · refine g_p t202_40 rfl ?_
          exact i_ret t202_41 (by
            unfold sgI
            first
              | (have u0 : lk x = nI 46 := h3
                 have := (lk_e hx (by decide) (by decide)).mp u0
                 subst this; rfl)
              | (have u0 : lk x = nI 114 := h13
                 have := (lk_e hx (by decide) (by decide)).mp u0
                 subst this; rfl)
              | (have u0 : lk x = nI 119 := h23
                 have := (lk_e hx (by decide) (by decide)).mp u0
                 subst this; rfl)
              | (have u0 : lk x = nI 63 := h33
                 have := (lk_e hx (by decide) (by decide)).mp u0
                 subst this; rfl)
              | (have u0 : ¬ lk x = nI 63 := h33
                 rw [if_neg (fun h => by
                   unfold isP at h
                   simp only [Bool.or_eq_true, beq_iff_eq] at h
                   have n1 : ¬ x = 46 := fun e => h3 ((lk_e hx (by decide) (by decide)).mpr e)
                   have n2 : ¬ x = 114 := fun e => h13 ((lk_e hx (by decide) (by decide)).mpr e)
                   have n3 : ¬ x = 119 := fun e => h23 ((lk_e hx (by decide) (by decide)).mpr e)
                   have n4 : ¬ x = 63 := fun e => u0 ((lk_e hx (by decide) (by decide)).mpr e)
                   omega)])) hq
        · refine g_k (n := 3) t202_36 rfl rfl ?_
          refine g_goto t202_37 ?_
          exact i_ret t202_41 (by
            unfold sgI
            first
              | (have u0 : lk x = nI 46 := h3
                 have := (lk_e hx (by decide) (by decide)).mp u0
                 subst this; rfl)
              | (have u0 : lk x = nI 114 := h13
                 have := (lk_e hx (by decide) (by decide)).mp u0
                 subst this; rfl)
              | (have u0 : lk x = nI 119 := h23
                 have := (lk_e hx (by decide) (by decide)).mp u0
                 subst this; rfl)
              | (have u0 : lk x = nI 63 := h33
                 have := (lk_e hx (by decide) (by decide)).mp u0
                 subst this; rfl)
              | (have u0 : ¬ lk x = nI 63 := h33
                 rw [if_neg (fun h => by
                   unfold isP at h
                   simp only [Bool.or_eq_true, beq_iff_eq] at h
                   have n1 : ¬ x = 46 := fun e => h3 ((lk_e hx (by decide) (by decide)).mpr e)
                   have n2 : ¬ x = 114 := fun e => h13 ((lk_e hx (by decide) (by decide)).mpr e)
                   have n3 : ¬ x = 119 := fun e => h23 ((lk_e hx (by decide) (by decide)).mpr e)
                   have n4 : ¬ x = 63 := fun e => u0 ((lk_e hx (by decide) (by decide)).mpr e)
                   omega)])) hq
      · refine g_k (n := 2) t202_26 rfl rfl ?_
        refine g_goto t202_27 ?_
        exact i_ret t202_41 (by
          unfold sgI
          first
            | (have u0 : lk x = nI 46 := h3
               have := (lk_e hx (by decide) (by decide)).mp u0
               subst this; rfl)
            | (have u0 : lk x = nI 114 := h13
               have := (lk_e hx (by decide) (by decide)).mp u0
               subst this; rfl)
            | (have u0 : lk x = nI 119 := h23
               have := (lk_e hx (by decide) (by decide)).mp u0
               subst this; rfl)
            | (have u0 : lk x = nI 63 := h33
               have := (lk_e hx (by decide) (by decide)).mp u0
               subst this; rfl)
            | (have u0 : ¬ lk x = nI 63 := h33
               rw [if_neg (fun h => by
                 unfold isP at h
                 simp only [Bool.or_eq_true, beq_iff_eq] at h
                 have n1 : ¬ x = 46 := fun e => h3 ((lk_e hx (by decide) (by decide)).mpr e)
                 have n2 : ¬ x = 114 := fun e => h13 ((lk_e hx (by decide) (by decide)).mpr e)
                 have n3 : ¬ x = 119 := fun e => h23 ((lk_e hx (by decide) (by decide)).mpr e)
                 have n4 : ¬ x = 63 := fun e => u0 ((lk_e hx (by decide) (by decide)).mpr e)
                 omega)])) hq
    · refine g_k (n := 1) t202_16 rfl rfl ?_
      refine g_goto t202_17 ?_
      exact i_ret t202_41 (by
        unfold sgI
        first
          | (have u0 : lk x = nI 46 := h3
             have := (lk_e hx (by decide) (by decide)).mp u0
             subst this; rfl)
          | (have u0 : lk x = nI 114 := h13
             have := (lk_e hx (by decide) (by decide)).mp u0
             subst this; rfl)
          | (have u0 : lk x = nI 119 := h23
             have := (lk_e hx (by decide) (by decide)).mp u0
             subst this; rfl)
          | (have u0 : lk x = nI 63 := h33
             have := (lk_e hx (by decide) (by decide)).mp u0
             subst this; rfl)
          | (have u0 : ¬ lk x = nI 63 := h33
             rw [if_neg (fun h => by
               unfold isP at h
               simp only [Bool.or_eq_true, beq_iff_eq] at h
               have n1 : ¬ x = 46 := fun e => h3 ((lk_e hx (by decide) (by decide)).mpr e)
               have n2 : ¬ x = 114 := fun e => h13 ((lk_e hx (by decide) (by decide)).mpr e)
               have n3 : ¬ x = 119 := fun e => h23 ((lk_e hx (by decide) (by decide)).mpr e)
               have n4 : ¬ x = 63 := fun e => u0 ((lk_e hx (by decide) (by decide)).mpr e)
               omega)])) hq
  · refine g_k (n := 0) t202_6 rfl rfl ?_
    refine g_goto t202_7 ?_
    exact i_ret t202_41 (by
      unfold sgI
      first
        | (have u0 : lk x = nI 46 := h3
           have := (lk_e hx (by decide) (by decide)).mp u0
           subst this; rfl)
        | (have u0 : lk x = nI 114 := h13
           have := (lk_e hx (by decide) (by decide)).mp u0
           subst this; rfl)
        | (have u0 : lk x = nI 119 := h23
           have := (lk_e hx (by decide) (by decide)).mp u0
           subst this; rfl)
        | (have u0 : lk x = nI 63 := h33
           have := (lk_e hx (by decide) (by decide)).mp u0
           subst this; rfl)
        | (have u0 : ¬ lk x = nI 63 := h33
           rw [if_neg (fun h => by
             unfold isP at h
             simp only [Bool.or_eq_true, beq_iff_eq] at h
             have n1 : ¬ x = 46 := fun e => h3 ((lk_e hx (by decide) (by decide)).mpr e)
             have n2 : ¬ x = 114 := fun e => h13 ((lk_e hx (by decide) (by decide)).mpr e)
             have n3 : ¬ x = 119 := fun e => h23 ((lk_e hx (by decide) (by decide)).mpr e)
             have n4 : ¬ x = 63 := fun e => u0 ((lk_e hx (by decide) (by decide)).mpr e)
             omega)])) hq
set_option maxHeartbeats 1000000 in
theorem c204 (hF : Fx s) (hT : MTp t s) (h120 : t.length ≤ 120) (hb : isB t) (hq : ∀ s', FM bA xB s s' → KB s s' → ri s' 80 11 = pfv (pfi t (bke t).2.2) → ((∃ p, pfi t (bke t).2.2 = .inl p) → ri s' 89 3 = nI (bke t).1.length ∧ ri s' 90 3 = nI (bke t).2.1 ∧ DBm (bke t).1 s') → Q none (mR s')) : gE X (d + 4) 204 [.ref 80] (mR s) Q := by
  have e6 := hT.1
  obtain ⟨Z, hZ⟩ : ∃ Z, Z = bke t := ⟨_, rfl⟩
  rw [← hZ] at hq
  have RED : ∀ (s' : mM) (q : Nat), FM bA xB s s' → KB s s' → pfi t Z.2.2 = .inr q → MS t (.inr q) s' → Q none (mR s') := fun s' q hf hk he hM => hq s' hf hk (by rw [he]; exact hM.1) (fun h => by
    obtain ⟨p, hp⟩ := h
    rw [he] at hp
    exact absurd hp (by simp))
  have END : ∀ (cl : List Cl) (wd j : Nat) (s' : mM) z4, cl.length ≤ 8 → Fx s' → MT 81 120 0 t s' → FM bA xB s s' → KB s s' → DBm cl s' → MJ t j s' → skp t j = j → Z = (cl, wd, .inl j) → gG X (d + 4) 204 217 [.ref 80, .int (nI cl.length), .int (nI wd), .int (nI 0), z4] [] (mR s') Q := by
    intro cl wd j s' z4 hc8 hF hX hf hk hw hJ hsp he
    have hS := hJ.m2 hsp
    have hsg := hX.sg j
    refine g_p t204_217 rfl ?_
    refine r_cv t204_218 (f80 hF) rfl ?_
    refine c183 (by exact hF) (by exact hX) (by exact hS) (fun s218 f218 hJ => ?_)
    have hS := hJ.m2 hsp
    have e10 := hJ.2.2
    have h11 := hJ.1
    refine k_v ?_ rfl
    have hF := Fx.fr (by exact hF) f218.1
    have hX := MT.fm (by exact hX) f218 (by decide) (by decide) (by decide) (by decide) (by decide)
    have hf := hf.tr (f218.mono (by decide) (by decide))
    have hk := hk.fm f218 (by decide) (by decide) (by decide) (by decide)
    have hw := hw.fm f218 (by decide) (by decide)
    refine g_p t204_221 rfl ?_
    refine g_ceq t204_222 (fun h222 => ?_) (fun h222 => ?_)
    · refine g_p t204_231 rfl ?_
      refine r_getr t204_232 (f80 hF) rfl rfl ?_
      refine g_k (n := 3) t204_235 rfl rfl ?_
      refine g_p t204_236 rfl ?_
      refine r_iast t204_237 (f89 hF) (by decide) (by omega) ?_
      refine g_p t204_238 rfl ?_
      refine r_getr t204_239 (f80 hF) rfl rfl ?_
      refine g_k (n := 3) t204_242 rfl rfl ?_
      refine g_p t204_243 rfl ?_
      refine r_iast t204_244 (f90 hF) (by decide) (by omega) ?_
      have u1 : sgn t j = 0 := (lk_m hsg).mp h222
      have e1 : pfi t Z.2.2 = .inl j := by rw [he]; exact if_pos u1
      refine v_ret t204_245 (hq _ ((hf.w (by decide) (by decide)).w (by decide) (by decide)) ⟨fun i hi => hk.1 i hi, fun i hi => hk.2.1 i hi, fun i hi => by rw [ri_wi_ne (by decide), ri_wi_j (by omega)]; exact hk.2.2.1 i hi, fun i hi => by rw [ri_wi_j (by omega), ri_wi_ne (by decide)]; exact hk.2.2.2 i hi⟩ (by rw [e1]; exact h11) (fun _ => ?_))
      rw [he]
      exact ⟨rfl, ri_wi_eq, fun i hi => hw i hi⟩
    · refine g_p t204_225 rfl ?_
      refine r_cv t204_226 (f80 hF) rfl ?_
      refine c184 (by exact hF) hJ (fun s2 f2 hE => ?_)
      have hF := Fx.fr (by exact hF) f2.1
      have hf := hf.tr (f2.mono (by decide) (by decide))
      have hk := hk.fm f2 (by decide) (by decide) (by decide) (by decide)
      refine k_v ?_ rfl
      refine g_p t204_229 rfl ?_
      have u1 : ¬ sgn t j = 0 := fun e => h222 ((lk_m hsg).mpr e)
      exact v_ret t204_230 (RED _ j hf hk (by rw [he]; exact if_neg u1) hE)
  have K : ∀ m (cl : List Cl) (wd j : Nat) (s' : mM) z4, am_nl z4 = true → cl.length + (m + 1) = 8 → (cl.length = 0 → wd = 0) → (0 < cl.length → 2 ≤ wd ∧ wd ≤ 5) → Z = bkl t (m + 1) (cl, wd, .inl j) → Fx s' → MT 81 120 0 t s' → FM bA xB s s' → KB s s' → DBm cl s' → MS t (.inl j) s' → gG X (d + 4) 204 19 [.ref 80, .int (nI cl.length), .int (nI wd), .int (nI 1), z4] [] (mR s') Q := by
    intro m
    induction m with
    | zero =>
      intro cl wd j s' z4 n4 hm hw0 hw1 he hF hX hf hk hw hS
      have hsp := hS.sk
      have hsg := hX.sg j
      obtain ⟨B_, hB_⟩ : ∃ B_, B_ = bkc1 t (cl, wd, .inl j) := ⟨_, rfl⟩
      have he : Z = B_ := by rw [he, hB_]; rfl
      obtain ⟨cap, hcap⟩ : ∃ c, c = (if cl.length = 0 then 5 else wd) := ⟨_, rfl⟩
      obtain ⟨low, hlow⟩ : ∃ c, c = (if cl.length = 0 then 2 else wd) := ⟨_, rfl⟩
      have hcl : cap ≤ 5 ∧ 2 ≤ low ∧ low ≤ cap := by
        by_cases h0 : cl.length = 0
        · rw [hcap, hlow, if_pos h0, if_pos h0]; omega
        · rw [hcap, hlow, if_neg h0, if_neg h0]; have := hw1 (by omega); omega
      have hemp : cl.isEmpty = decide (cl.length = 0) := by cases cl <;> rfl
      have hcapS : (if cl.isEmpty = true then 5 else wd) = cap := by
        rw [hcap, hemp]
        by_cases h0 : cl.length = 0
        · rw [if_pos h0, decide_eq_true h0]; rfl
        · rw [if_neg h0, decide_eq_false h0]; rfl
      have hlowS : (if cl.isEmpty = true then 2 else wd) = low := by
        rw [hlow, hemp]
        by_cases h0 : cl.length = 0
        · rw [if_pos h0, decide_eq_true h0]; rfl
        · rw [if_neg h0, decide_eq_false h0]; rfl
      obtain ⟨S_, hS_⟩ : ∃ S_, S_ = cls t cap ([], pne t 61 (plt t (.inl j))) := ⟨_, rfl⟩
      have hB : B_ = (cl ++ [(plv t (.inl j), S_.1)], (if cl.isEmpty = true then S_.1.length else wd), (if S_.1.length < low then pre S_.2 else S_.2)) := by
        rw [hB_]
        unfold bkc1 bce bcw bcp bcg
        rw [hS_, ← hcapS, ← hlowS]
      have BADZ : ∀ q, S_.2 = .inr q → pfi t Z.2.2 = .inr q := fun q h => by
        have e1 : B_.2.2 = .inr q := by
          rw [hB]
          show (if S_.1.length < low then pre S_.2 else S_.2) = .inr q
          rw [h]
          split <;> rfl
        rw [he]
        rw [e1]; rfl
      have SHORT : ∀ q, S_.2 = .inl q → S_.1.length < low → pfi t Z.2.2 = .inr q := fun q h hlt => by
        have e1 : B_.2.2 = .inr q := by
          rw [hB]
          show (if S_.1.length < low then pre S_.2 else S_.2) = .inr q
          rw [if_pos hlt, h]; rfl
        rw [he]
        rw [e1]; rfl
      have LONG : ∀ q, S_.2 = .inl q → ¬ S_.1.length < low → ¬ sgn t q = 0 → pfi t Z.2.2 = .inr q := fun q h hlt hn => by
        have e1 : B_.2.2 = .inl q := by
          rw [hB]
          show (if S_.1.length < low then pre S_.2 else S_.2) = .inl q
          rw [if_neg hlt, h]
        rw [he]
        rw [e1]; exact if_neg hn
      have TAIL : ∀ (ls : List Nat) (q : Nat) (s' : mM), S_ = (ls, .inl q) → isP (sgn t q) = false → ls.length ≤ cap → Fx s' → MT 81 120 0 t s' → FM bA xB s s' → KB s s' → DBm cl s' → ri s' 87 (24 + cl.length) = nI (plv t (.inl j)) → (∀ i, i < ls.length → ri s' 88 ((24 + cl.length) * 5 + i) = nI (ls.getD i 0)) → MJ t q s' → skp t q = q → gG X (d + 4) 204 143 [.ref 80, .int (nI cl.length), .int (nI wd), .int (nI 1), .int (nI ls.length)] [] (mR s') Q := by
        intro ls q s' hSe hnP hlc hF hX hf hk hw hlet hsig hJ hsp
        have hS := hJ.m2 hsp
        have h11 := hJ.1
        have e10 := hJ.2.2
        have hsg := hX.sg q
        have e2 : S_.2 = .inl q := by rw [hSe]
        have e1 : S_.1 = ls := by rw [hSe]
        refine g_p t204_143 rfl ?_
        refine g_p t204_145 rfl ?_
        refine n_ne t204_146 (by omega) (fun h146 => ?_) (fun h146 => ?_)
        · refine g_p t204_153 rfl ?_
          refine n_cge t204_154 (by omega) (by omega) (fun h154 => ?_) (fun h154 => ?_)
          · refine g_p t204_163 rfl ?_
            refine g_isn t204_165 (Nat.le_of_ble_eq_true rfl) (am_s1_2 rfl) ?_
            refine g_incn (n := 1) t204_166 rfl rfl (Nat.le_of_ble_eq_true rfl) (am_s1_1 rfl) ?_
            refine g_p t204_169 rfl ?_
            refine r_cv t204_170 (f80 hF) rfl ?_
            refine c183 (by exact hF) (by exact hX) (by exact hS) (fun s169 f169 hJ => ?_)
            have hS := hJ.m2 hsp
            have e10 := hJ.2.2
            have h11 := hJ.1
            have hlet : ri s169 87 (24 + cl.length) = nI (plv t (.inl j)) := (f169.g (by decide)).trans hlet
            have hsig : ∀ i, i < ls.length → ri s169 88 ((24 + cl.length) * 5 + i) = nI (ls.getD i 0) := fun i hi => (f169.g (by decide)).trans (hsig i hi)
            refine k_v ?_ rfl
            have hF := Fx.fr (by exact hF) f169.1
            have hX := MT.fm (by exact hX) f169 (by decide) (by decide) (by decide) (by decide) (by decide)
            have hf := hf.tr (f169.mono (by decide) (by decide))
            have hk := hk.fm f169 (by decide) (by decide) (by decide) (by decide)
            have hw := hw.fm f169 (by decide) (by decide)
            refine g_k (n := 59) t204_173 rfl rfl ?_
            refine g_cne t204_175 (fun h175 => ?_) (fun h175 => ?_)
            · refine g_k (n := 0) t204_182 rfl rfl ?_
              first
                | (have u0 : lk (sgn t q) = nI 59 := h175
                   refine g_isn t204_183 (Nat.le_of_ble_eq_true rfl) (am_s1_3 rfl) ?_
                   refine g_p t204_184 rfl ?_
                   refine n_eq t204_185 (by omega) (fun h => absurd h (by decide)) (fun _ => ?_)
                   refine g_p t204_188 rfl ?_
                   refine g_k (n := 8) t204_189 rfl rfl ?_
                   refine n_cne t204_191 (by omega) (by omega) (fun h191 => ?_) (fun h191 => ?_)
                   · exfalso; omega
                   · refine g_p t204_194 rfl ?_
                     refine r_cv t204_195 (f80 hF) rfl ?_
                     refine c184 (by exact hF) hJ (fun s195 f195 hE => ?_)
                     have hF := Fx.fr (by exact hF) f195.1
                     have hf := hf.tr (f195.mono (by decide) (by decide))
                     have hk := hk.fm f195 (by decide) (by decide) (by decide) (by decide)
                     refine k_v ?_ rfl
                     refine g_p t204_198 rfl ?_
                     have hnl : ¬ ls.length < low := by
                       rw [hlow]
                       first
                         | (have u0 : cl.length = 0 := h146
                            rw [if_pos u0]; exact Nat.not_lt.mpr h154)
                         | (have u0 : ¬ cl.length = 0 := h146
                            rw [if_neg u0]; exact Nat.not_lt.mpr h154)
                     have u1 : sgn t q = 59 := (lk_e hsg (by decide) (by decide)).mp h175
                     exact v_ret t204_199 (RED _ q hf hk (LONG q e2 (by rw [e1]; exact hnl) (by omega)) hE))
                | (have u0 : ¬ lk (sgn t q) = nI 59 := h175
                   refine g_isn t204_183 (Nat.le_of_ble_eq_true rfl) (am_s1_3 rfl) ?_
                   refine g_p t204_184 rfl ?_
                   refine n_eq t204_185 (by omega) (fun _ => ?_) (fun h => absurd rfl h)
                   refine g_p t204_200 rfl ?_
                   refine n_eq t204_201 (by omega) (fun _ => ?_) (fun h => absurd rfl h)
                   refine g_goto t204_214 ?_
                   refine g_p t204_19 rfl ?_
                   refine n_eq t204_20 (by omega) (fun _ => ?_) (fun h => absurd rfl h)
                   have hnl : ¬ ls.length < low := by
                     rw [hlow]
                     first
                       | (have u0 : cl.length = 0 := h146
                          rw [if_pos u0]; exact Nat.not_lt.mpr h154)
                       | (have u0 : ¬ cl.length = 0 := h146
                          rw [if_neg u0]; exact Nat.not_lt.mpr h154)
                   have hwd : ls.length = (if cl.isEmpty = true then S_.1.length else wd) := by
                     rw [e1, hemp]
                     by_cases h0 : cl.length = 0
                     · rw [decide_eq_true h0]; rfl
                     · rw [decide_eq_false h0]
                       rw [hcap, if_neg h0] at hlc
                       rw [hlow, if_neg h0] at hnl
                       show ls.length = wd
                       omega
                   have eB : B_ = (cl ++ [(plv t (.inl j), ls)], ls.length, .inl q) := by
                     rw [hB, ← hwd, if_neg (by rw [e1]; exact hnl), e2, e1]
                   have hll : (cl ++ [(plv t (.inl j), ls)]).length = cl.length + 1 := by rw [List.length_append]; rfl
                   have hw2 : DBm (cl ++ [(plv t (.inl j), ls)]) s169 := fun i hi => by
                     rw [hll] at hi
                     by_cases h9 : i < cl.length
                     · rw [gDa1 h9]; exact hw i h9
                     · have h9 : i = cl.length := by omega
                       subst h9
                       rw [gDa2]
                       exact ⟨hlet, hsig, by show ls.length ≤ 5; omega⟩
                   have hn59 : ¬ sgn t q = 59 := fun e => h175 ((lk_e hsg (by decide) (by decide)).mpr e)
                   rw [show nI (cl.length + 1) = nI (cl ++ [(plv t (.inl j), ls)]).length by rw [hll]]
                   exact END (cl ++ [(plv t (.inl j), ls)]) ls.length q s169 _ (by rw [hll]; omega) hF hX hf hk hw2 hJ hsp (by rw [he, eB]))
            · refine g_k (n := 1) t204_178 rfl rfl ?_
              refine g_goto t204_179 ?_
              first
                | (have u0 : lk (sgn t q) = nI 59 := h175
                   refine g_isn t204_183 (Nat.le_of_ble_eq_true rfl) (am_s1_3 rfl) ?_
                   refine g_p t204_184 rfl ?_
                   refine n_eq t204_185 (by omega) (fun h => absurd h (by decide)) (fun _ => ?_)
                   refine g_p t204_188 rfl ?_
                   refine g_k (n := 8) t204_189 rfl rfl ?_
                   refine n_cne t204_191 (by omega) (by omega) (fun h191 => ?_) (fun h191 => ?_)
                   · exfalso; omega
                   · refine g_p t204_194 rfl ?_
                     refine r_cv t204_195 (f80 hF) rfl ?_
                     refine c184 (by exact hF) hJ (fun s195 f195 hE => ?_)
                     have hF := Fx.fr (by exact hF) f195.1
                     have hf := hf.tr (f195.mono (by decide) (by decide))
                     have hk := hk.fm f195 (by decide) (by decide) (by decide) (by decide)
                     refine k_v ?_ rfl
                     refine g_p t204_198 rfl ?_
                     have hnl : ¬ ls.length < low := by
                       rw [hlow]
                       first
                         | (have u0 : cl.length = 0 := h146
                            rw [if_pos u0]; exact Nat.not_lt.mpr h154)
                         | (have u0 : ¬ cl.length = 0 := h146
                            rw [if_neg u0]; exact Nat.not_lt.mpr h154)
                     have u1 : sgn t q = 59 := (lk_e hsg (by decide) (by decide)).mp h175
                     exact v_ret t204_199 (RED _ q hf hk (LONG q e2 (by rw [e1]; exact hnl) (by omega)) hE))
                | (have u0 : ¬ lk (sgn t q) = nI 59 := h175
                   refine g_isn t204_183 (Nat.le_of_ble_eq_true rfl) (am_s1_3 rfl) ?_
                   refine g_p t204_184 rfl ?_
                   refine n_eq t204_185 (by omega) (fun _ => ?_) (fun h => absurd rfl h)
                   refine g_p t204_200 rfl ?_
                   refine n_eq t204_201 (by omega) (fun _ => ?_) (fun h => absurd rfl h)
                   refine g_goto t204_214 ?_
                   refine g_p t204_19 rfl ?_
                   refine n_eq t204_20 (by omega) (fun _ => ?_) (fun h => absurd rfl h)
                   have hnl : ¬ ls.length < low := by
                     rw [hlow]
                     first
                       | (have u0 : cl.length = 0 := h146
                          rw [if_pos u0]; exact Nat.not_lt.mpr h154)
                       | (have u0 : ¬ cl.length = 0 := h146
                          rw [if_neg u0]; exact Nat.not_lt.mpr h154)
                   have hwd : ls.length = (if cl.isEmpty = true then S_.1.length else wd) := by
                     rw [e1, hemp]
                     by_cases h0 : cl.length = 0
                     · rw [decide_eq_true h0]; rfl
                     · rw [decide_eq_false h0]
                       rw [hcap, if_neg h0] at hlc
                       rw [hlow, if_neg h0] at hnl
                       show ls.length = wd
                       omega
                   have eB : B_ = (cl ++ [(plv t (.inl j), ls)], ls.length, .inl q) := by
                     rw [hB, ← hwd, if_neg (by rw [e1]; exact hnl), e2, e1]
                   have hll : (cl ++ [(plv t (.inl j), ls)]).length = cl.length + 1 := by rw [List.length_append]; rfl
                   have hw2 : DBm (cl ++ [(plv t (.inl j), ls)]) s169 := fun i hi => by
                     rw [hll] at hi
                     by_cases h9 : i < cl.length
                     · rw [gDa1 h9]; exact hw i h9
                     · have h9 : i = cl.length := by omega
                       subst h9
                       rw [gDa2]
                       exact ⟨hlet, hsig, by show ls.length ≤ 5; omega⟩
                   have hn59 : ¬ sgn t q = 59 := fun e => h175 ((lk_e hsg (by decide) (by decide)).mpr e)
                   rw [show nI (cl.length + 1) = nI (cl ++ [(plv t (.inl j), ls)]).length by rw [hll]]
                   exact END (cl ++ [(plv t (.inl j), ls)]) ls.length q s169 _ (by rw [hll]; omega) hF hX hf hk hw2 hJ hsp (by rw [he, eB]))
          · refine g_p t204_157 rfl ?_
            refine r_cv t204_158 (f80 hF) rfl ?_
            refine c184 (by exact hF) hJ (fun s158 f158 hE => ?_)
            have hF := Fx.fr (by exact hF) f158.1
            have hf := hf.tr (f158.mono (by decide) (by decide))
            have hk := hk.fm f158 (by decide) (by decide) (by decide) (by decide)
            refine k_v ?_ rfl
            refine g_p t204_161 rfl ?_
            have hlt : ls.length < low := by
              rw [hlow]
              first
                | (have u0 : cl.length = 0 := h146
                   rw [if_pos u0]; exact Nat.lt_of_not_le h154)
                | (have u0 : ¬ cl.length = 0 := h146
                   rw [if_neg u0]; exact Nat.lt_of_not_le h154)
            exact v_ret t204_162 (RED _ q hf hk (SHORT q e2 (by rw [e1]; exact hlt)) hE)
        · refine g_k (n := 2) t204_149 rfl rfl ?_
          refine g_goto t204_150 ?_
          refine n_cge t204_154 (by omega) (by omega) (fun h154 => ?_) (fun h154 => ?_)
          · refine g_p t204_163 rfl ?_
            refine g_isn t204_165 (Nat.le_of_ble_eq_true rfl) (am_s1_2 rfl) ?_
            refine g_incn (n := 1) t204_166 rfl rfl (Nat.le_of_ble_eq_true rfl) (am_s1_1 rfl) ?_
            refine g_p t204_169 rfl ?_
            refine r_cv t204_170 (f80 hF) rfl ?_
            refine c183 (by exact hF) (by exact hX) (by exact hS) (fun s169 f169 hJ => ?_)
            have hS := hJ.m2 hsp
            have e10 := hJ.2.2
            have h11 := hJ.1
            have hlet : ri s169 87 (24 + cl.length) = nI (plv t (.inl j)) := (f169.g (by decide)).trans hlet
            have hsig : ∀ i, i < ls.length → ri s169 88 ((24 + cl.length) * 5 + i) = nI (ls.getD i 0) := fun i hi => (f169.g (by decide)).trans (hsig i hi)
            refine k_v ?_ rfl
            have hF := Fx.fr (by exact hF) f169.1
            have hX := MT.fm (by exact hX) f169 (by decide) (by decide) (by decide) (by decide) (by decide)
            have hf := hf.tr (f169.mono (by decide) (by decide))
            have hk := hk.fm f169 (by decide) (by decide) (by decide) (by decide)
            have hw := hw.fm f169 (by decide) (by decide)
            refine g_k (n := 59) t204_173 rfl rfl ?_
            refine g_cne t204_175 (fun h175 => ?_) (fun h175 => ?_)
            · refine g_k (n := 0) t204_182 rfl rfl ?_
              first
                | (have u0 : lk (sgn t q) = nI 59 := h175
                   refine g_isn t204_183 (Nat.le_of_ble_eq_true rfl) (am_s1_3 rfl) ?_
                   refine g_p t204_184 rfl ?_
                   refine n_eq t204_185 (by omega) (fun h => absurd h (by decide)) (fun _ => ?_)
                   refine g_p t204_188 rfl ?_
                   refine g_k (n := 8) t204_189 rfl rfl ?_
                   refine n_cne t204_191 (by omega) (by omega) (fun h191 => ?_) (fun h191 => ?_)
                   · exfalso; omega
                   · refine g_p t204_194 rfl ?_
                     refine r_cv t204_195 (f80 hF) rfl ?_
                     refine c184 (by exact hF) hJ (fun s195 f195 hE => ?_)
                     have hF := Fx.fr (by exact hF) f195.1
                     have hf := hf.tr (f195.mono (by decide) (by decide))
                     have hk := hk.fm f195 (by decide) (by decide) (by decide) (by decide)
                     refine k_v ?_ rfl
                     refine g_p t204_198 rfl ?_
                     have hnl : ¬ ls.length < low := by
                       rw [hlow]
                       first
                         | (have u0 : cl.length = 0 := h146
                            rw [if_pos u0]; exact Nat.not_lt.mpr h154)
                         | (have u0 : ¬ cl.length = 0 := h146
                            rw [if_neg u0]; exact Nat.not_lt.mpr h154)
                     have u1 : sgn t q = 59 := (lk_e hsg (by decide) (by decide)).mp h175
                     exact v_ret t204_199 (RED _ q hf hk (LONG q e2 (by rw [e1]; exact hnl) (by omega)) hE))
                | (have u0 : ¬ lk (sgn t q) = nI 59 := h175
                   refine g_isn t204_183 (Nat.le_of_ble_eq_true rfl) (am_s1_3 rfl) ?_
                   refine g_p t204_184 rfl ?_
                   refine n_eq t204_185 (by omega) (fun _ => ?_) (fun h => absurd rfl h)
                   refine g_p t204_200 rfl ?_
                   refine n_eq t204_201 (by omega) (fun _ => ?_) (fun h => absurd rfl h)
                   refine g_goto t204_214 ?_
                   refine g_p t204_19 rfl ?_
                   refine n_eq t204_20 (by omega) (fun _ => ?_) (fun h => absurd rfl h)
                   have hnl : ¬ ls.length < low := by
                     rw [hlow]
                     first
                       | (have u0 : cl.length = 0 := h146
                          rw [if_pos u0]; exact Nat.not_lt.mpr h154)
                       | (have u0 : ¬ cl.length = 0 := h146
                          rw [if_neg u0]; exact Nat.not_lt.mpr h154)
                   have hwd : ls.length = (if cl.isEmpty = true then S_.1.length else wd) := by
                     rw [e1, hemp]
                     by_cases h0 : cl.length = 0
                     · rw [decide_eq_true h0]; rfl
                     · rw [decide_eq_false h0]
                       rw [hcap, if_neg h0] at hlc
                       rw [hlow, if_neg h0] at hnl
                       show ls.length = wd
                       omega
                   have eB : B_ = (cl ++ [(plv t (.inl j), ls)], ls.length, .inl q) := by
                     rw [hB, ← hwd, if_neg (by rw [e1]; exact hnl), e2, e1]
                   have hll : (cl ++ [(plv t (.inl j), ls)]).length = cl.length + 1 := by rw [List.length_append]; rfl
                   have hw2 : DBm (cl ++ [(plv t (.inl j), ls)]) s169 := fun i hi => by
                     rw [hll] at hi
                     by_cases h9 : i < cl.length
                     · rw [gDa1 h9]; exact hw i h9
                     · have h9 : i = cl.length := by omega
                       subst h9
                       rw [gDa2]
                       exact ⟨hlet, hsig, by show ls.length ≤ 5; omega⟩
                   have hn59 : ¬ sgn t q = 59 := fun e => h175 ((lk_e hsg (by decide) (by decide)).mpr e)
                   rw [show nI (cl.length + 1) = nI (cl ++ [(plv t (.inl j), ls)]).length by rw [hll]]
                   exact END (cl ++ [(plv t (.inl j), ls)]) ls.length q s169 _ (by rw [hll]; omega) hF hX hf hk hw2 hJ hsp (by rw [he, eB]))
            · refine g_k (n := 1) t204_178 rfl rfl ?_
              refine g_goto t204_179 ?_
              first
                | (have u0 : lk (sgn t q) = nI 59 := h175
                   refine g_isn t204_183 (Nat.le_of_ble_eq_true rfl) (am_s1_3 rfl) ?_
                   refine g_p t204_184 rfl ?_
                   refine n_eq t204_185 (by omega) (fun h => absurd h (by decide)) (fun _ => ?_)
                   refine g_p t204_188 rfl ?_
                   refine g_k (n := 8) t204_189 rfl rfl ?_
                   refine n_cne t204_191 (by omega) (by omega) (fun h191 => ?_) (fun h191 => ?_)
                   · exfalso; omega
                   · refine g_p t204_194 rfl ?_
                     refine r_cv t204_195 (f80 hF) rfl ?_
                     refine c184 (by exact hF) hJ (fun s195 f195 hE => ?_)
                     have hF := Fx.fr (by exact hF) f195.1
                     have hf := hf.tr (f195.mono (by decide) (by decide))
                     have hk := hk.fm f195 (by decide) (by decide) (by decide) (by decide)
                     refine k_v ?_ rfl
                     refine g_p t204_198 rfl ?_
                     have hnl : ¬ ls.length < low := by
                       rw [hlow]
                       first
                         | (have u0 : cl.length = 0 := h146
                            rw [if_pos u0]; exact Nat.not_lt.mpr h154)
                         | (have u0 : ¬ cl.length = 0 := h146
                            rw [if_neg u0]; exact Nat.not_lt.mpr h154)
                     have u1 : sgn t q = 59 := (lk_e hsg (by decide) (by decide)).mp h175
                     exact v_ret t204_199 (RED _ q hf hk (LONG q e2 (by rw [e1]; exact hnl) (by omega)) hE))
                | (have u0 : ¬ lk (sgn t q) = nI 59 := h175
                   refine g_isn t204_183 (Nat.le_of_ble_eq_true rfl) (am_s1_3 rfl) ?_
                   refine g_p t204_184 rfl ?_
                   refine n_eq t204_185 (by omega) (fun _ => ?_) (fun h => absurd rfl h)
                   refine g_p t204_200 rfl ?_
                   refine n_eq t204_201 (by omega) (fun _ => ?_) (fun h => absurd rfl h)
                   refine g_goto t204_214 ?_
                   refine g_p t204_19 rfl ?_
                   refine n_eq t204_20 (by omega) (fun _ => ?_) (fun h => absurd rfl h)
                   have hnl : ¬ ls.length < low := by
                     rw [hlow]
                     first
                       | (have u0 : cl.length = 0 := h146
                          rw [if_pos u0]; exact Nat.not_lt.mpr h154)
                       | (have u0 : ¬ cl.length = 0 := h146
                          rw [if_neg u0]; exact Nat.not_lt.mpr h154)
                   have hwd : ls.length = (if cl.isEmpty = true then S_.1.length else wd) := by
                     rw [e1, hemp]
                     by_cases h0 : cl.length = 0
                     · rw [decide_eq_true h0]; rfl
                     · rw [decide_eq_false h0]
                       rw [hcap, if_neg h0] at hlc
                       rw [hlow, if_neg h0] at hnl
                       show ls.length = wd
                       omega
                   have eB : B_ = (cl ++ [(plv t (.inl j), ls)], ls.length, .inl q) := by
                     rw [hB, ← hwd, if_neg (by rw [e1]; exact hnl), e2, e1]
                   have hll : (cl ++ [(plv t (.inl j), ls)]).length = cl.length + 1 := by rw [List.length_append]; rfl
                   have hw2 : DBm (cl ++ [(plv t (.inl j), ls)]) s169 := fun i hi => by
                     rw [hll] at hi
                     by_cases h9 : i < cl.length
                     · rw [gDa1 h9]; exact hw i h9
                     · have h9 : i = cl.length := by omega
                       subst h9
                       rw [gDa2]
                       exact ⟨hlet, hsig, by show ls.length ≤ 5; omega⟩
                   have hn59 : ¬ sgn t q = 59 := fun e => h175 ((lk_e hsg (by decide) (by decide)).mpr e)
                   rw [show nI (cl.length + 1) = nI (cl ++ [(plv t (.inl j), ls)]).length by rw [hll]]
                   exact END (cl ++ [(plv t (.inl j), ls)]) ls.length q s169 _ (by rw [hll]; omega) hF hX hf hk hw2 hJ hsp (by rw [he, eB]))
          · refine g_p t204_157 rfl ?_
            refine r_cv t204_158 (f80 hF) rfl ?_
            refine c184 (by exact hF) hJ (fun s158 f158 hE => ?_)
            have hF := Fx.fr (by exact hF) f158.1
            have hf := hf.tr (f158.mono (by decide) (by decide))
            have hk := hk.fm f158 (by decide) (by decide) (by decide) (by decide)
            refine k_v ?_ rfl
            refine g_p t204_161 rfl ?_
            have hlt : ls.length < low := by
              rw [hlow]
              first
                | (have u0 : cl.length = 0 := h146
                   rw [if_pos u0]; exact Nat.lt_of_not_le h154)
                | (have u0 : ¬ cl.length = 0 := h146
                   rw [if_neg u0]; exact Nat.lt_of_not_le h154)
            exact v_ret t204_162 (RED _ q hf hk (SHORT q e2 (by rw [e1]; exact hlt)) hE)
      have SIG : ∀ r (ls : List Nat) (q : Nat) (s' : mM), ls.length + r = cap → S_ = cls t r (ls, .inl q) → Fx s' → MT 81 120 0 t s' → FM bA xB s s' → KB s s' → DBm cl s' → ri s' 87 (24 + cl.length) = nI (plv t (.inl j)) → (∀ i, i < ls.length → ri s' 88 ((24 + cl.length) * 5 + i) = nI (ls.getD i 0)) → MS t (.inl q) s' → gG X (d + 4) 204 75 [.ref 80, .int (nI cl.length), .int (nI wd), .int (nI 1), .int (nI ls.length)] [] (mR s') Q := by
        intro r
        induction r with
        | zero =>
          intro ls q s' hr hSe hF hX hf hk hw hlet hsig hS
          have hsp := hS.sk
          have hsg := hX.sg q
          have hSe : S_ = (ls, .inl q) := hSe
          cases hP : isP (sgn t q) with
          | true =>
            have hn0 : ¬ sgn t q = 0 := fun e => by rw [e] at hP; exact absurd hP (by decide)
            have hn59 : ¬ sgn t q = 59 := fun e => by rw [e] at hP; exact absurd hP (by decide)
            refine g_p t204_75 rfl ?_
            refine r_cv t204_76 (f80 hF) rfl ?_
            refine c183 (by exact hF) (by exact hX) (by exact hS) (fun s76 f76 hJ => ?_)
            have hS := hJ.m2 hsp
            have e10 := hJ.2.2
            have h11 := hJ.1
            have hlet : ri s76 87 (24 + cl.length) = nI (plv t (.inl j)) := (f76.g (by decide)).trans hlet
            have hsig : ∀ i, i < ls.length → ri s76 88 ((24 + cl.length) * 5 + i) = nI (ls.getD i 0) := fun i hi => (f76.g (by decide)).trans (hsig i hi)
            refine k_v ?_ rfl
            have hF := Fx.fr (by exact hF) f76.1
            have hX := MT.fm (by exact hX) f76 (by decide) (by decide) (by decide) (by decide) (by decide)
            have hf := hf.tr (f76.mono (by decide) (by decide))
            have hk := hk.fm f76 (by decide) (by decide) (by decide) (by decide)
            have hw := hw.fm f76 (by decide) (by decide)
            refine g_cs t204_79 rfl rfl rfl ?_
            refine c202 hsg ?_
            rw [show sgI (sgn t q) = nI (sgo (sgn t q)) from if_pos hP]
            refine k_v ?_ rfl
            refine g_p t204_82 rfl ?_
            refine g_ceq t204_83 (fun h83 => ?_) (fun h83 => ?_)
            · exact absurd h83 (nI_m1 (by have := sgo_4 (sgn t q); omega))
            · refine g_p t204_86 rfl ?_
              refine g_p t204_88 rfl ?_
              refine n_ne t204_89 (by omega) (fun h89 => ?_) (fun h89 => ?_)
              · refine g_p t204_96 rfl ?_
                refine n_cne t204_97 (by omega) (by omega) (fun h97 => ?_) (fun h97 => ?_)
                · exfalso
                  first
                    | (have u0 : cl.length = 0 := h89
                       rw [hcap, if_pos u0] at hr
                       exact h97 (by omega))
                    | (have u0 : ¬ cl.length = 0 := h89
                       rw [hcap, if_neg u0] at hr
                       exact h97 (by omega))
                · refine g_p t204_100 rfl ?_
                  refine r_cv t204_101 (f80 hF) rfl ?_
                  refine c184 (by exact hF) hJ (fun s101 f101 hE => ?_)
                  have hF := Fx.fr (by exact hF) f101.1
                  have hf := hf.tr (f101.mono (by decide) (by decide))
                  have hk := hk.fm f101 (by decide) (by decide) (by decide) (by decide)
                  refine k_v ?_ rfl
                  refine g_p t204_104 rfl ?_
                  exact v_ret t204_105 (RED _ q hf hk (LONG q (by rw [hSe]) (by rw [hSe]; show ¬ ls.length < low; omega) hn0) hE)
              · refine g_k (n := 5) t204_92 rfl rfl ?_
                refine g_goto t204_93 ?_
                refine n_cne t204_97 (by omega) (by omega) (fun h97 => ?_) (fun h97 => ?_)
                · exfalso
                  first
                    | (have u0 : cl.length = 0 := h89
                       rw [hcap, if_pos u0] at hr
                       exact h97 (by omega))
                    | (have u0 : ¬ cl.length = 0 := h89
                       rw [hcap, if_neg u0] at hr
                       exact h97 (by omega))
                · refine g_p t204_100 rfl ?_
                  refine r_cv t204_101 (f80 hF) rfl ?_
                  refine c184 (by exact hF) hJ (fun s101 f101 hE => ?_)
                  have hF := Fx.fr (by exact hF) f101.1
                  have hf := hf.tr (f101.mono (by decide) (by decide))
                  have hk := hk.fm f101 (by decide) (by decide) (by decide) (by decide)
                  refine k_v ?_ rfl
                  refine g_p t204_104 rfl ?_
                  exact v_ret t204_105 (RED _ q hf hk (LONG q (by rw [hSe]) (by rw [hSe]; show ¬ ls.length < low; omega) hn0) hE)
          | false =>
            refine g_p t204_75 rfl ?_
            refine r_cv t204_76 (f80 hF) rfl ?_
            refine c183 (by exact hF) (by exact hX) (by exact hS) (fun s76 f76 hJ => ?_)
            have hS := hJ.m2 hsp
            have e10 := hJ.2.2
            have h11 := hJ.1
            have hlet : ri s76 87 (24 + cl.length) = nI (plv t (.inl j)) := (f76.g (by decide)).trans hlet
            have hsig : ∀ i, i < ls.length → ri s76 88 ((24 + cl.length) * 5 + i) = nI (ls.getD i 0) := fun i hi => (f76.g (by decide)).trans (hsig i hi)
            refine k_v ?_ rfl
            have hF := Fx.fr (by exact hF) f76.1
            have hX := MT.fm (by exact hX) f76 (by decide) (by decide) (by decide) (by decide) (by decide)
            have hf := hf.tr (f76.mono (by decide) (by decide))
            have hk := hk.fm f76 (by decide) (by decide) (by decide) (by decide)
            have hw := hw.fm f76 (by decide) (by decide)
            refine g_cs t204_79 rfl rfl rfl ?_
            refine c202 hsg ?_
            rw [show sgI (sgn t q) = -1 from if_neg (by rw [hP]; decide)]
            refine k_v ?_ rfl
            refine g_p t204_82 rfl ?_
            refine g_ceq t204_83 (fun h83 => ?_) (fun h83 => ?_)
            · exact TAIL ls q s76 hSe hP (by omega) hF hX hf hk hw hlet hsig hJ hsp
            · exact absurd rfl h83
        | succ r ihr =>
          intro ls q s' hr hSe hF hX hf hk hw hlet hsig hS
          have hsp := hS.sk
          have hsg := hX.sg q
          cases hP : isP (sgn t q) with
          | true =>
            have hSe : S_ = cls t r (ls ++ [sgo (sgn t q)], .inl (skp t (q + 1))) := by
              rw [hSe, cls, if_pos (show isP (psg t (Sum.inl q)) = true from hP)]; rfl
            have hql : q < t.length := sgn_pos (fun e => by rw [e] at hP; exact absurd hP (by decide))
            have hg4 := sgo_4 (sgn t q)
            refine g_p t204_75 rfl ?_
            refine r_cv t204_76 (f80 hF) rfl ?_
            refine c183 (by exact hF) (by exact hX) (by exact hS) (fun s76 f76 hJ => ?_)
            have hS := hJ.m2 hsp
            have e10 := hJ.2.2
            have h11 := hJ.1
            have hlet : ri s76 87 (24 + cl.length) = nI (plv t (.inl j)) := (f76.g (by decide)).trans hlet
            have hsig : ∀ i, i < ls.length → ri s76 88 ((24 + cl.length) * 5 + i) = nI (ls.getD i 0) := fun i hi => (f76.g (by decide)).trans (hsig i hi)
            refine k_v ?_ rfl
            have hF := Fx.fr (by exact hF) f76.1
            have hX := MT.fm (by exact hX) f76 (by decide) (by decide) (by decide) (by decide) (by decide)
            have hf := hf.tr (f76.mono (by decide) (by decide))
            have hk := hk.fm f76 (by decide) (by decide) (by decide) (by decide)
            have hw := hw.fm f76 (by decide) (by decide)
            refine g_cs t204_79 rfl rfl rfl ?_
            refine c202 hsg ?_
            rw [show sgI (sgn t q) = nI (sgo (sgn t q)) from if_pos hP]
            refine k_v ?_ rfl
            refine g_p t204_82 rfl ?_
            refine g_ceq t204_83 (fun h83 => ?_) (fun h83 => ?_)
            · exact absurd h83 (nI_m1 (by omega))
            · refine g_p t204_86 rfl ?_
              refine g_p t204_88 rfl ?_
              refine n_ne t204_89 (by omega) (fun h89 => ?_) (fun h89 => ?_)
              · refine g_p t204_96 rfl ?_
                refine n_cne t204_97 (by omega) (by omega) (fun h97 => ?_) (fun h97 => ?_)
                · refine g_p t204_106 rfl ?_
                  refine r_getr t204_107 (f80 hF) rfl rfl ?_
                  refine g_k (n := 24) t204_110 rfl rfl ?_
                  refine g_p t204_112 rfl ?_
                  refine g_addn t204_113 ?_
                  refine g_k (n := 5) t204_114 rfl rfl ?_
                  refine g_muln t204_115 ?_
                  refine g_p t204_116 rfl ?_
                  refine g_addn t204_118 ?_
                  refine g_p t204_119 rfl ?_
                  refine r_cv t204_120 (f80 hF) rfl ?_
                  refine c183 (by exact hF) (by exact hX) (by exact hS) (fun s120 f120 hJ => ?_)
                  have hS := hJ.m2 hsp
                  have e10 := hJ.2.2
                  have h11 := hJ.1
                  have hlet : ri s120 87 (24 + cl.length) = nI (plv t (.inl j)) := (f120.g (by decide)).trans hlet
                  have hsig : ∀ i, i < ls.length → ri s120 88 ((24 + cl.length) * 5 + i) = nI (ls.getD i 0) := fun i hi => (f120.g (by decide)).trans (hsig i hi)
                  refine k_v ?_ rfl
                  have hF := Fx.fr (by exact hF) f120.1
                  have hX := MT.fm (by exact hX) f120 (by decide) (by decide) (by decide) (by decide) (by decide)
                  have hf := hf.tr (f120.mono (by decide) (by decide))
                  have hk := hk.fm f120 (by decide) (by decide) (by decide) (by decide)
                  have hw := hw.fm f120 (by decide) (by decide)
                  refine g_cs t204_123 rfl rfl rfl ?_
                  refine c202 hsg ?_
                  rw [show sgI (sgn t q) = nI (sgo (sgn t q)) from if_pos hP]
                  refine k_v ?_ rfl
                  refine r_iast t204_126 (f88 hF) (by decide) (by omega) ?_
                  refine g_incn (n := 1) t204_127 rfl rfl (Nat.le_of_ble_eq_true rfl) (am_s1_4 rfl) ?_
                  refine g_p t204_130 rfl ?_
                  refine g_p t204_131 rfl ?_
                  refine r_gete t204_132 (f80 hF) rfl rfl e10 ?_
                  refine g_k (n := 1) t204_135 rfl rfl ?_
                  refine g_addn t204_136 ?_
                  refine r_puti t204_137 (f80 hF) rfl rfl ?_
                  refine g_goto t204_140 ?_
                  have hX2 := MT.w8 (i := 10) (v := nI (q + 1)) (MT.fm (A := [88]) (B' := []) (by exact hX) (FM.rf.w (p := 88) (i := (24 + cl.length) * 5 + ls.length) (v := nI (sgo (sgn t q))) (by decide) (by decide)) (by decide) (by decide) (by decide) (by decide) (by decide)) (by decide) (by decide) (by decide)
                  have hJ2 : MJ t (q + 1) (wi (wi s120 88 ((24 + cl.length) * 5 + ls.length) (nI (sgo (sgn t q)))) 80 10 (nI (q + 1))) := ⟨h11, hql, rfl⟩
                  have hll : (ls ++ [sgo (sgn t q)]).length = ls.length + 1 := by rw [List.length_append]; rfl
                  have hgo := ihr (ls ++ [sgo (sgn t q)]) (skp t (q + 1)) _ (by rw [hll]; omega) hSe (Fx.fr (A := [88, 80]) hF ((Fr.rf.wi (by decide)).wi (by decide))) hX2 ((hf.w (by decide) (by decide)).m (by decide)) ⟨fun i hi => hk.1 i hi, fun i hi => by rw [ri_wi_ne (by decide), ri_wi_j (by omega)]; exact hk.2.1 i hi, fun i hi => hk.2.2.1 i hi, fun i hi => hk.2.2.2 i hi⟩ (fun i hi => ⟨(hw i hi).1, fun q2 hq2 => by
                    have h55 := (hw i hi).2.2
                    rw [ri_wi_ne (by decide), ri_wi_j (by omega)]; exact (hw i hi).2.1 q2 hq2, (hw i hi).2.2⟩) hlet (fun i hi => by
                    rw [hll] at hi
                    rw [ri_wi_ne (by decide)]
                    by_cases h9 : i < ls.length
                    · rw [gDa1 h9, ri_wi_j (by omega)]; exact hsig i h9
                    · have h9 : i = ls.length := by omega
                      subst h9
                      rw [gDa2, ri_wi_eq]) hJ2.ms
                  rw [hll] at hgo
                  exact hgo
                · exfalso
                  first
                    | (have u0 : cl.length = 0 := h89
                       rw [hcap, if_pos u0] at hr
                       omega)
                    | (have u0 : ¬ cl.length = 0 := h89
                       rw [hcap, if_neg u0] at hr
                       omega)
              · refine g_k (n := 5) t204_92 rfl rfl ?_
                refine g_goto t204_93 ?_
                refine n_cne t204_97 (by omega) (by omega) (fun h97 => ?_) (fun h97 => ?_)
                · refine g_p t204_106 rfl ?_
                  refine r_getr t204_107 (f80 hF) rfl rfl ?_
                  refine g_k (n := 24) t204_110 rfl rfl ?_
                  refine g_p t204_112 rfl ?_
                  refine g_addn t204_113 ?_
                  refine g_k (n := 5) t204_114 rfl rfl ?_
                  refine g_muln t204_115 ?_
                  refine g_p t204_116 rfl ?_
                  refine g_addn t204_118 ?_
                  refine g_p t204_119 rfl ?_
                  refine r_cv t204_120 (f80 hF) rfl ?_
                  refine c183 (by exact hF) (by exact hX) (by exact hS) (fun s120 f120 hJ => ?_)
                  have hS := hJ.m2 hsp
                  have e10 := hJ.2.2
                  have h11 := hJ.1
                  have hlet : ri s120 87 (24 + cl.length) = nI (plv t (.inl j)) := (f120.g (by decide)).trans hlet
                  have hsig : ∀ i, i < ls.length → ri s120 88 ((24 + cl.length) * 5 + i) = nI (ls.getD i 0) := fun i hi => (f120.g (by decide)).trans (hsig i hi)
                  refine k_v ?_ rfl
                  have hF := Fx.fr (by exact hF) f120.1
                  have hX := MT.fm (by exact hX) f120 (by decide) (by decide) (by decide) (by decide) (by decide)
                  have hf := hf.tr (f120.mono (by decide) (by decide))
                  have hk := hk.fm f120 (by decide) (by decide) (by decide) (by decide)
                  have hw := hw.fm f120 (by decide) (by decide)
                  refine g_cs t204_123 rfl rfl rfl ?_
                  refine c202 hsg ?_
                  rw [show sgI (sgn t q) = nI (sgo (sgn t q)) from if_pos hP]
                  refine k_v ?_ rfl
                  refine r_iast t204_126 (f88 hF) (by decide) (by omega) ?_
                  refine g_incn (n := 1) t204_127 rfl rfl (Nat.le_of_ble_eq_true rfl) (am_s1_4 rfl) ?_
                  refine g_p t204_130 rfl ?_
                  refine g_p t204_131 rfl ?_
                  refine r_gete t204_132 (f80 hF) rfl rfl e10 ?_
                  refine g_k (n := 1) t204_135 rfl rfl ?_
                  refine g_addn t204_136 ?_
                  refine r_puti t204_137 (f80 hF) rfl rfl ?_
                  refine g_goto t204_140 ?_
                  have hX2 := MT.w8 (i := 10) (v := nI (q + 1)) (MT.fm (A := [88]) (B' := []) (by exact hX) (FM.rf.w (p := 88) (i := (24 + cl.length) * 5 + ls.length) (v := nI (sgo (sgn t q))) (by decide) (by decide)) (by decide) (by decide) (by decide) (by decide) (by decide)) (by decide) (by decide) (by decide)
                  have hJ2 : MJ t (q + 1) (wi (wi s120 88 ((24 + cl.length) * 5 + ls.length) (nI (sgo (sgn t q)))) 80 10 (nI (q + 1))) := ⟨h11, hql, rfl⟩
                  have hll : (ls ++ [sgo (sgn t q)]).length = ls.length + 1 := by rw [List.length_append]; rfl
                  have hgo := ihr (ls ++ [sgo (sgn t q)]) (skp t (q + 1)) _ (by rw [hll]; omega) hSe (Fx.fr (A := [88, 80]) hF ((Fr.rf.wi (by decide)).wi (by decide))) hX2 ((hf.w (by decide) (by decide)).m (by decide)) ⟨fun i hi => hk.1 i hi, fun i hi => by rw [ri_wi_ne (by decide), ri_wi_j (by omega)]; exact hk.2.1 i hi, fun i hi => hk.2.2.1 i hi, fun i hi => hk.2.2.2 i hi⟩ (fun i hi => ⟨(hw i hi).1, fun q2 hq2 => by
                    have h55 := (hw i hi).2.2
                    rw [ri_wi_ne (by decide), ri_wi_j (by omega)]; exact (hw i hi).2.1 q2 hq2, (hw i hi).2.2⟩) hlet (fun i hi => by
                    rw [hll] at hi
                    rw [ri_wi_ne (by decide)]
                    by_cases h9 : i < ls.length
                    · rw [gDa1 h9, ri_wi_j (by omega)]; exact hsig i h9
                    · have h9 : i = ls.length := by omega
                      subst h9
                      rw [gDa2, ri_wi_eq]) hJ2.ms
                  rw [hll] at hgo
                  exact hgo
                · exfalso
                  first
                    | (have u0 : cl.length = 0 := h89
                       rw [hcap, if_pos u0] at hr
                       omega)
                    | (have u0 : ¬ cl.length = 0 := h89
                       rw [hcap, if_neg u0] at hr
                       omega)
          | false =>
            have hSe : S_ = (ls, .inl q) := by
              rw [hSe, cls, if_neg (show ¬ isP (psg t (Sum.inl q)) = true from by rw [show psg t (Sum.inl q) = sgn t q from rfl, hP]; decide)]
            refine g_p t204_75 rfl ?_
            refine r_cv t204_76 (f80 hF) rfl ?_
            refine c183 (by exact hF) (by exact hX) (by exact hS) (fun s76 f76 hJ => ?_)
            have hS := hJ.m2 hsp
            have e10 := hJ.2.2
            have h11 := hJ.1
            have hlet : ri s76 87 (24 + cl.length) = nI (plv t (.inl j)) := (f76.g (by decide)).trans hlet
            have hsig : ∀ i, i < ls.length → ri s76 88 ((24 + cl.length) * 5 + i) = nI (ls.getD i 0) := fun i hi => (f76.g (by decide)).trans (hsig i hi)
            refine k_v ?_ rfl
            have hF := Fx.fr (by exact hF) f76.1
            have hX := MT.fm (by exact hX) f76 (by decide) (by decide) (by decide) (by decide) (by decide)
            have hf := hf.tr (f76.mono (by decide) (by decide))
            have hk := hk.fm f76 (by decide) (by decide) (by decide) (by decide)
            have hw := hw.fm f76 (by decide) (by decide)
            refine g_cs t204_79 rfl rfl rfl ?_
            refine c202 hsg ?_
            rw [show sgI (sgn t q) = -1 from if_neg (by rw [hP]; decide)]
            refine k_v ?_ rfl
            refine g_p t204_82 rfl ?_
            refine g_ceq t204_83 (fun h83 => ?_) (fun h83 => ?_)
            · exact TAIL ls q s76 hSe hP (by omega) hF hX hf hk hw hlet hsig hJ hsp
            · exact absurd rfl h83
      by_cases hc : 97 ≤ sgn t j ∧ sgn t j ≤ 104
      · have hjl : j < t.length := sgn_pos (by omega)
        have hpl : plv t (.inl j) = sgn t j - 97 := if_pos hc
        have hpt : plt t (.inl j) = .inl (skp t (j + 1)) := if_pos hc
        rw [hpt] at hS_
        refine g_p t204_19 rfl ?_
        refine n_eq t204_20 (by omega) (fun h20 => ?_) (fun h20 => ?_)
        · exact absurd h20 (by decide)
        · refine g_p t204_23 rfl ?_
          refine r_cv t204_24 (f80 hF) rfl ?_
          refine c203 (by exact hF) (by exact hX) (by exact hS) (fun s24 f24 hJ => ?_)
          have hS := hJ.m2 hsp
          have e10 := hJ.2.2
          have h11 := hJ.1
          refine k_v ?_ rfl
          have hF := Fx.fr (by exact hF) f24.1
          have hX := MT.fm (by exact hX) f24 (by decide) (by decide) (by decide) (by decide) (by decide)
          have hf := hf.tr (f24.mono (by decide) (by decide))
          have hk := hk.fm f24 (by decide) (by decide) (by decide) (by decide)
          have hw := hw.fm f24 (by decide) (by decide)
          refine b_ne t204_27 (fun h27 => ?_) (fun h27 => ?_)
          · refine g_p t204_36 rfl ?_
            refine r_getr t204_37 (f80 hF) rfl rfl ?_
            refine g_k (n := 24) t204_40 rfl rfl ?_
            refine g_p t204_42 rfl ?_
            refine g_addn t204_43 ?_
            refine g_p t204_44 rfl ?_
            refine r_cv t204_45 (f80 hF) rfl ?_
            refine c183 (by exact hF) (by exact hX) (by exact hS) (fun s45 f45 hJ => ?_)
            have hS := hJ.m2 hsp
            have e10 := hJ.2.2
            have h11 := hJ.1
            rw [show lk (sgn t j) = nI (sgn t j) from if_neg (by omega)]
            refine k_v ?_ rfl
            have hF := Fx.fr (by exact hF) f45.1
            have hX := MT.fm (by exact hX) f45 (by decide) (by decide) (by decide) (by decide) (by decide)
            have hf := hf.tr (f45.mono (by decide) (by decide))
            have hk := hk.fm f45 (by decide) (by decide) (by decide) (by decide)
            have hw := hw.fm f45 (by decide) (by decide)
            refine g_k (n := 97) t204_48 rfl rfl ?_
            refine g_subn t204_50 (by omega) ?_
            refine r_iast t204_51 (f87 hF) (by decide) (by omega) ?_
            refine g_p t204_52 rfl ?_
            refine g_p t204_53 rfl ?_
            refine r_gete t204_54 (f80 hF) rfl rfl e10 ?_
            refine g_k (n := 1) t204_57 rfl rfl ?_
            refine g_addn t204_58 ?_
            refine r_puti t204_59 (f80 hF) rfl rfl ?_
            refine g_p t204_62 rfl ?_
            refine g_k (n := 61) t204_63 rfl rfl ?_
            refine r_cv t204_65 (f80 hF) rfl ?_
            have hJ2 : MJ t (j + 1) (wi (wi s45 87 (24 + cl.length) (nI (sgn t j - 97))) 80 10 (nI (j + 1))) := ⟨h11, hjl, rfl⟩
            have hX := MT.w8 (i := 10) (v := nI (j + 1)) (MT.fm (A := [87]) (B' := []) (by exact hX) (FM.rf.w (p := 87) (i := 24 + cl.length) (v := nI (sgn t j - 97)) (by decide) (by decide)) (by decide) (by decide) (by decide) (by decide) (by decide)) (by decide) (by decide) (by decide)
            have hR := hJ2.rm
            have hf := (hf.w (p := 87) (i := 24 + cl.length) (v := nI (sgn t j - 97)) (by decide) (by decide)).m (i := 10) (v := nI (j + 1)) (by decide)
            have hk : KB s (wi (wi s45 87 (24 + cl.length) (nI (sgn t j - 97))) 80 10 (nI (j + 1))) := ⟨fun i hi => by rw [ri_wi_ne (by decide), ri_wi_j (by omega)]; exact hk.1 i hi, fun i hi => hk.2.1 i hi, fun i hi => hk.2.2.1 i hi, fun i hi => hk.2.2.2 i hi⟩
            have hw : DBm cl (wi (wi s45 87 (24 + cl.length) (nI (sgn t j - 97))) 80 10 (nI (j + 1))) := fun i hi => ⟨by rw [ri_wi_ne (by decide), ri_wi_j (by omega)]; exact (hw i hi).1, (hw i hi).2⟩
            have hlet : ri (wi (wi s45 87 (24 + cl.length) (nI (sgn t j - 97))) 80 10 (nI (j + 1))) 87 (24 + cl.length) = nI (plv t (.inl j)) := by rw [ri_wi_ne (by decide), ri_wi_eq, hpl]
            refine c186 (by exact hF) (by exact hX) hR (w := 61) (by decide) (by decide) (by decide) (fun s65 q65 hu65 f65 he65 hc65 hl65 hJ => ?_) (fun s65 f65 hD hr65 => ?_)
            · have h11 := hJ.1
              have hF := Fx.fr (by exact hF) f65.1
              have hX := MT.fm (by exact hX) f65 (by decide) (by decide) (by decide) (by decide) (by decide)
              have hf := hf.tr (f65.mono (by decide) (by decide))
              have hk := hk.fm f65 (by decide) (by decide) (by decide) (by decide)
              have hw := hw.fm f65 (by decide) (by decide)
              have hlet := (f65.g (p := 87) (i := 24 + cl.length) (by decide)).trans hlet
              have hSe : S_ = cls t cap ([], .inl (skp t (q65 + 1))) := by
                rw [hS_]
                congr 2
                rw [show (.inl (skp t (j + 1)) : Ps) = .inl q65 from he65]
                exact if_pos hc65
              refine k_v ?_ rfl
              refine b_ne t204_68 (fun h68 => ?_) (fun h68 => ?_)
              · refine g_k (n := 0) t204_72 rfl rfl ?_
                refine g_is t204_73 (Nat.le_of_ble_eq_true rfl) (am_s1_4 rfl) ?_
                exact SIG cap [] _ s65 (Nat.zero_add _) hSe hF hX hf hk hw hlet (fun i hi => absurd hi (Nat.not_lt_zero i)) hJ.ms
              · exact no_b rfl h68
            · have hF := Fx.fr (by exact hF) f65.1
              have hf := hf.tr (f65.mono (by decide) (by decide))
              have hk := hk.fm f65 (by decide) (by decide) (by decide) (by decide)
              refine k_v ?_ rfl
              refine b_ne t204_68 (fun h68 => ?_) (fun h68 => ?_)
              · exact no_b h68 rfl
              · obtain ⟨r9, hr9⟩ := hr65
                have hr9 : pne t 61 (.inl (skp t (j + 1))) = .inr r9 := hr9
                have hSe : S_.2 = .inr r9 := by rw [hS_, hr9, cls_r]
                exact v_ret t204_71 (RED _ r9 hf hk (BADZ r9 hSe) (hD.ri hr9))
          · exact absurd hc (of_decide_eq_false h27)
      · have hpt : plt t (.inl j) = .inr j := if_neg hc
        have hSr : S_ = ([], .inr j) := by
          rw [hS_, hpt, show pne t 61 (.inr j) = .inr j from rfl, cls_r]
        refine g_p t204_19 rfl ?_
        refine n_eq t204_20 (by omega) (fun h20 => ?_) (fun h20 => ?_)
        · exact absurd h20 (by decide)
        · refine g_p t204_23 rfl ?_
          refine r_cv t204_24 (f80 hF) rfl ?_
          refine c203 (by exact hF) (by exact hX) (by exact hS) (fun s24 f24 hJ => ?_)
          have hS := hJ.m2 hsp
          have e10 := hJ.2.2
          have h11 := hJ.1
          refine k_v ?_ rfl
          have hF := Fx.fr (by exact hF) f24.1
          have hX := MT.fm (by exact hX) f24 (by decide) (by decide) (by decide) (by decide) (by decide)
          have hf := hf.tr (f24.mono (by decide) (by decide))
          have hk := hk.fm f24 (by decide) (by decide) (by decide) (by decide)
          have hw := hw.fm f24 (by decide) (by decide)
          refine b_ne t204_27 (fun h27 => ?_) (fun h27 => ?_)
          · exact absurd (of_decide_eq_true h27) hc
          · refine g_p t204_30 rfl ?_
            refine r_cv t204_31 (f80 hF) rfl ?_
            refine c184 (by exact hF) hJ (fun s31 f31 hE => ?_)
            have hF := Fx.fr (by exact hF) f31.1
            have hf := hf.tr (f31.mono (by decide) (by decide))
            have hk := hk.fm f31 (by decide) (by decide) (by decide) (by decide)
            refine k_v ?_ rfl
            refine g_p t204_34 rfl ?_
            exact v_ret t204_35 (RED _ j hf hk (BADZ j (by rw [hSr])) hE)
    | succ m ih =>
      intro cl wd j s' z4 n4 hm hw0 hw1 he hF hX hf hk hw hS
      have hsp := hS.sk
      have hsg := hX.sg j
      obtain ⟨B_, hB_⟩ : ∃ B_, B_ = bkc1 t (cl, wd, .inl j) := ⟨_, rfl⟩
      have he : Z = (if psg t B_.2.2 = 59 then bkl t (m + 1) (B_.1, B_.2.1, pst t B_.2.2) else B_) := by rw [he, hB_]; rfl
      obtain ⟨cap, hcap⟩ : ∃ c, c = (if cl.length = 0 then 5 else wd) := ⟨_, rfl⟩
      obtain ⟨low, hlow⟩ : ∃ c, c = (if cl.length = 0 then 2 else wd) := ⟨_, rfl⟩
      have hcl : cap ≤ 5 ∧ 2 ≤ low ∧ low ≤ cap := by
        by_cases h0 : cl.length = 0
        · rw [hcap, hlow, if_pos h0, if_pos h0]; omega
        · rw [hcap, hlow, if_neg h0, if_neg h0]; have := hw1 (by omega); omega
      have hemp : cl.isEmpty = decide (cl.length = 0) := by cases cl <;> rfl
      have hcapS : (if cl.isEmpty = true then 5 else wd) = cap := by
        rw [hcap, hemp]
        by_cases h0 : cl.length = 0
        · rw [if_pos h0, decide_eq_true h0]; rfl
        · rw [if_neg h0, decide_eq_false h0]; rfl
      have hlowS : (if cl.isEmpty = true then 2 else wd) = low := by
        rw [hlow, hemp]
        by_cases h0 : cl.length = 0
        · rw [if_pos h0, decide_eq_true h0]; rfl
        · rw [if_neg h0, decide_eq_false h0]; rfl
      obtain ⟨S_, hS_⟩ : ∃ S_, S_ = cls t cap ([], pne t 61 (plt t (.inl j))) := ⟨_, rfl⟩
      have hB : B_ = (cl ++ [(plv t (.inl j), S_.1)], (if cl.isEmpty = true then S_.1.length else wd), (if S_.1.length < low then pre S_.2 else S_.2)) := by
        rw [hB_]
        unfold bkc1 bce bcw bcp bcg
        rw [hS_, ← hcapS, ← hlowS]
      have BADZ : ∀ q, S_.2 = .inr q → pfi t Z.2.2 = .inr q := fun q h => by
        have e1 : B_.2.2 = .inr q := by
          rw [hB]
          show (if S_.1.length < low then pre S_.2 else S_.2) = .inr q
          rw [h]
          split <;> rfl
        rw [he, e1, if_neg (show ¬ psg t (Sum.inr q) = 59 from by show ¬ (0 : Nat) = 59; decide)]
        rw [e1]; rfl
      have SHORT : ∀ q, S_.2 = .inl q → S_.1.length < low → pfi t Z.2.2 = .inr q := fun q h hlt => by
        have e1 : B_.2.2 = .inr q := by
          rw [hB]
          show (if S_.1.length < low then pre S_.2 else S_.2) = .inr q
          rw [if_pos hlt, h]; rfl
        rw [he, e1, if_neg (show ¬ psg t (Sum.inr q) = 59 from by show ¬ (0 : Nat) = 59; decide)]
        rw [e1]; rfl
      have LONG : ∀ q, S_.2 = .inl q → ¬ S_.1.length < low → ¬ sgn t q = 0 → ¬ sgn t q = 59 → pfi t Z.2.2 = .inr q := fun q h hlt hn hn2 => by
        have e1 : B_.2.2 = .inl q := by
          rw [hB]
          show (if S_.1.length < low then pre S_.2 else S_.2) = .inl q
          rw [if_neg hlt, h]
        rw [he, e1, if_neg (show ¬ psg t (Sum.inl q) = 59 from hn2)]
        rw [e1]; exact if_neg hn
      have TAIL : ∀ (ls : List Nat) (q : Nat) (s' : mM), S_ = (ls, .inl q) → isP (sgn t q) = false → ls.length ≤ cap → Fx s' → MT 81 120 0 t s' → FM bA xB s s' → KB s s' → DBm cl s' → ri s' 87 (24 + cl.length) = nI (plv t (.inl j)) → (∀ i, i < ls.length → ri s' 88 ((24 + cl.length) * 5 + i) = nI (ls.getD i 0)) → MJ t q s' → skp t q = q → gG X (d + 4) 204 143 [.ref 80, .int (nI cl.length), .int (nI wd), .int (nI 1), .int (nI ls.length)] [] (mR s') Q := by
        intro ls q s' hSe hnP hlc hF hX hf hk hw hlet hsig hJ hsp
        have hS := hJ.m2 hsp
        have h11 := hJ.1
        have e10 := hJ.2.2
        have hsg := hX.sg q
        have e2 : S_.2 = .inl q := by rw [hSe]
        have e1 : S_.1 = ls := by rw [hSe]
        refine g_p t204_143 rfl ?_
        refine g_p t204_145 rfl ?_
        refine n_ne t204_146 (by omega) (fun h146 => ?_) (fun h146 => ?_)
        · refine g_p t204_153 rfl ?_
          refine n_cge t204_154 (by omega) (by omega) (fun h154 => ?_) (fun h154 => ?_)
          · refine g_p t204_163 rfl ?_
            refine g_isn t204_165 (Nat.le_of_ble_eq_true rfl) (am_s1_2 rfl) ?_
            refine g_incn (n := 1) t204_166 rfl rfl (Nat.le_of_ble_eq_true rfl) (am_s1_1 rfl) ?_
            refine g_p t204_169 rfl ?_
            refine r_cv t204_170 (f80 hF) rfl ?_
            refine c183 (by exact hF) (by exact hX) (by exact hS) (fun s169 f169 hJ => ?_)
            have hS := hJ.m2 hsp
            have e10 := hJ.2.2
            have h11 := hJ.1
            have hlet : ri s169 87 (24 + cl.length) = nI (plv t (.inl j)) := (f169.g (by decide)).trans hlet
            have hsig : ∀ i, i < ls.length → ri s169 88 ((24 + cl.length) * 5 + i) = nI (ls.getD i 0) := fun i hi => (f169.g (by decide)).trans (hsig i hi)
            refine k_v ?_ rfl
            have hF := Fx.fr (by exact hF) f169.1
            have hX := MT.fm (by exact hX) f169 (by decide) (by decide) (by decide) (by decide) (by decide)
            have hf := hf.tr (f169.mono (by decide) (by decide))
            have hk := hk.fm f169 (by decide) (by decide) (by decide) (by decide)
            have hw := hw.fm f169 (by decide) (by decide)
            refine g_k (n := 59) t204_173 rfl rfl ?_
            refine g_cne t204_175 (fun h175 => ?_) (fun h175 => ?_)
            · refine g_k (n := 0) t204_182 rfl rfl ?_
              first
                | (have u0 : lk (sgn t q) = nI 59 := h175
                   refine g_isn t204_183 (Nat.le_of_ble_eq_true rfl) (am_s1_3 rfl) ?_
                   refine g_p t204_184 rfl ?_
                   refine n_eq t204_185 (by omega) (fun h => absurd h (by decide)) (fun _ => ?_)
                   refine g_p t204_188 rfl ?_
                   refine g_k (n := 8) t204_189 rfl rfl ?_
                   refine n_cne t204_191 (by omega) (by omega) (fun h191 => ?_) (fun h191 => ?_)
                   · refine g_p t204_200 rfl ?_
                     refine n_eq t204_201 (by omega) (fun h => absurd h (by decide)) (fun _ => ?_)
                     refine g_p t204_204 rfl ?_
                     refine g_p t204_205 rfl ?_
                     refine r_gete t204_206 (f80 hF) rfl rfl e10 ?_
                     refine g_k (n := 1) t204_209 rfl rfl ?_
                     refine g_addn t204_210 ?_
                     refine r_puti t204_211 (f80 hF) rfl rfl ?_
                     refine g_goto t204_214 ?_
                     have hnl : ¬ ls.length < low := by
                       rw [hlow]
                       first
                         | (have u0 : cl.length = 0 := h146
                            rw [if_pos u0]; exact Nat.not_lt.mpr h154)
                         | (have u0 : ¬ cl.length = 0 := h146
                            rw [if_neg u0]; exact Nat.not_lt.mpr h154)
                     have hwd : ls.length = (if cl.isEmpty = true then S_.1.length else wd) := by
                       rw [e1, hemp]
                       by_cases h0 : cl.length = 0
                       · rw [decide_eq_true h0]; rfl
                       · rw [decide_eq_false h0]
                         rw [hcap, if_neg h0] at hlc
                         rw [hlow, if_neg h0] at hnl
                         show ls.length = wd
                         omega
                     have eB : B_ = (cl ++ [(plv t (.inl j), ls)], ls.length, .inl q) := by
                       rw [hB, ← hwd, if_neg (by rw [e1]; exact hnl), e2, e1]
                     have hll : (cl ++ [(plv t (.inl j), ls)]).length = cl.length + 1 := by rw [List.length_append]; rfl
                     have hw2 : DBm (cl ++ [(plv t (.inl j), ls)]) s169 := fun i hi => by
                       rw [hll] at hi
                       by_cases h9 : i < cl.length
                       · rw [gDa1 h9]; exact hw i h9
                       · have h9 : i = cl.length := by omega
                         subst h9
                         rw [gDa2]
                         exact ⟨hlet, hsig, by show ls.length ≤ 5; omega⟩
                     have h59 : sgn t q = 59 := (lk_e hsg (by decide) (by decide)).mp h175
                     have hql : q < t.length := sgn_pos (by omega)
                     have hX2 := MT.w8 (i := 10) (v := nI (q + 1)) (by exact hX) (by decide) (by decide) (by decide)
                     have hgo := ih (cl ++ [(plv t (.inl j), ls)]) ls.length (skp t (q + 1)) (wi s169 80 10 (nI (q + 1))) (.int (nI ls.length)) rfl (by rw [hll]; omega) (fun h => absurd h (by rw [hll]; omega)) (fun _ => by omega) (by rw [he, eB]; exact if_pos h59) (Fx.fr (A := [80]) hF (Fr.rf.wi (by decide))) hX2 (hf.m (by decide)) (hk.fm (A := []) (B := [10]) (FM.rf.m (by decide)) (by decide) (by decide) (by decide) (by decide)) (hw2.fm (A := []) (B := [10]) (FM.rf.m (by decide)) (by decide) (by decide)) (hJ.up hql).ms
                     rw [hll] at hgo
                     exact hgo
                   · refine g_p t204_194 rfl ?_
                     refine r_cv t204_195 (f80 hF) rfl ?_
                     refine c184 (by exact hF) hJ (fun s195 f195 hE => ?_)
                     have hF := Fx.fr (by exact hF) f195.1
                     have hf := hf.tr (f195.mono (by decide) (by decide))
                     have hk := hk.fm f195 (by decide) (by decide) (by decide) (by decide)
                     refine k_v ?_ rfl
                     refine g_p t204_198 rfl ?_
                     exfalso; omega)
                | (have u0 : ¬ lk (sgn t q) = nI 59 := h175
                   refine g_isn t204_183 (Nat.le_of_ble_eq_true rfl) (am_s1_3 rfl) ?_
                   refine g_p t204_184 rfl ?_
                   refine n_eq t204_185 (by omega) (fun _ => ?_) (fun h => absurd rfl h)
                   refine g_p t204_200 rfl ?_
                   refine n_eq t204_201 (by omega) (fun _ => ?_) (fun h => absurd rfl h)
                   refine g_goto t204_214 ?_
                   refine g_p t204_19 rfl ?_
                   refine n_eq t204_20 (by omega) (fun _ => ?_) (fun h => absurd rfl h)
                   have hnl : ¬ ls.length < low := by
                     rw [hlow]
                     first
                       | (have u0 : cl.length = 0 := h146
                          rw [if_pos u0]; exact Nat.not_lt.mpr h154)
                       | (have u0 : ¬ cl.length = 0 := h146
                          rw [if_neg u0]; exact Nat.not_lt.mpr h154)
                   have hwd : ls.length = (if cl.isEmpty = true then S_.1.length else wd) := by
                     rw [e1, hemp]
                     by_cases h0 : cl.length = 0
                     · rw [decide_eq_true h0]; rfl
                     · rw [decide_eq_false h0]
                       rw [hcap, if_neg h0] at hlc
                       rw [hlow, if_neg h0] at hnl
                       show ls.length = wd
                       omega
                   have eB : B_ = (cl ++ [(plv t (.inl j), ls)], ls.length, .inl q) := by
                     rw [hB, ← hwd, if_neg (by rw [e1]; exact hnl), e2, e1]
                   have hll : (cl ++ [(plv t (.inl j), ls)]).length = cl.length + 1 := by rw [List.length_append]; rfl
                   have hw2 : DBm (cl ++ [(plv t (.inl j), ls)]) s169 := fun i hi => by
                     rw [hll] at hi
                     by_cases h9 : i < cl.length
                     · rw [gDa1 h9]; exact hw i h9
                     · have h9 : i = cl.length := by omega
                       subst h9
                       rw [gDa2]
                       exact ⟨hlet, hsig, by show ls.length ≤ 5; omega⟩
                   have hn59 : ¬ sgn t q = 59 := fun e => h175 ((lk_e hsg (by decide) (by decide)).mpr e)
                   rw [show nI (cl.length + 1) = nI (cl ++ [(plv t (.inl j), ls)]).length by rw [hll]]
                   exact END (cl ++ [(plv t (.inl j), ls)]) ls.length q s169 _ (by rw [hll]; omega) hF hX hf hk hw2 hJ hsp (by rw [he, eB]; exact if_neg hn59))
            · refine g_k (n := 1) t204_178 rfl rfl ?_
              refine g_goto t204_179 ?_
              first
                | (have u0 : lk (sgn t q) = nI 59 := h175
                   refine g_isn t204_183 (Nat.le_of_ble_eq_true rfl) (am_s1_3 rfl) ?_
                   refine g_p t204_184 rfl ?_
                   refine n_eq t204_185 (by omega) (fun h => absurd h (by decide)) (fun _ => ?_)
                   refine g_p t204_188 rfl ?_
                   refine g_k (n := 8) t204_189 rfl rfl ?_
                   refine n_cne t204_191 (by omega) (by omega) (fun h191 => ?_) (fun h191 => ?_)
                   · refine g_p t204_200 rfl ?_
                     refine n_eq t204_201 (by omega) (fun h => absurd h (by decide)) (fun _ => ?_)
                     refine g_p t204_204 rfl ?_
                     refine g_p t204_205 rfl ?_
                     refine r_gete t204_206 (f80 hF) rfl rfl e10 ?_
                     refine g_k (n := 1) t204_209 rfl rfl ?_
                     refine g_addn t204_210 ?_
                     refine r_puti t204_211 (f80 hF) rfl rfl ?_
                     refine g_goto t204_214 ?_
                     have hnl : ¬ ls.length < low := by
                       rw [hlow]
                       first
                         | (have u0 : cl.length = 0 := h146
                            rw [if_pos u0]; exact Nat.not_lt.mpr h154)
                         | (have u0 : ¬ cl.length = 0 := h146
                            rw [if_neg u0]; exact Nat.not_lt.mpr h154)
                     have hwd : ls.length = (if cl.isEmpty = true then S_.1.length else wd) := by
                       rw [e1, hemp]
                       by_cases h0 : cl.length = 0
                       · rw [decide_eq_true h0]; rfl
                       · rw [decide_eq_false h0]
                         rw [hcap, if_neg h0] at hlc
                         rw [hlow, if_neg h0] at hnl
                         show ls.length = wd
                         omega
                     have eB : B_ = (cl ++ [(plv t (.inl j), ls)], ls.length, .inl q) := by
                       rw [hB, ← hwd, if_neg (by rw [e1]; exact hnl), e2, e1]
                     have hll : (cl ++ [(plv t (.inl j), ls)]).length = cl.length + 1 := by rw [List.length_append]; rfl
                     have hw2 : DBm (cl ++ [(plv t (.inl j), ls)]) s169 := fun i hi => by
                       rw [hll] at hi
                       by_cases h9 : i < cl.length
                       · rw [gDa1 h9]; exact hw i h9
                       · have h9 : i = cl.length := by omega
                         subst h9
                         rw [gDa2]
                         exact ⟨hlet, hsig, by show ls.length ≤ 5; omega⟩
                     have h59 : sgn t q = 59 := (lk_e hsg (by decide) (by decide)).mp h175
                     have hql : q < t.length := sgn_pos (by omega)
                     have hX2 := MT.w8 (i := 10) (v := nI (q + 1)) (by exact hX) (by decide) (by decide) (by decide)
                     have hgo := ih (cl ++ [(plv t (.inl j), ls)]) ls.length (skp t (q + 1)) (wi s169 80 10 (nI (q + 1))) (.int (nI ls.length)) rfl (by rw [hll]; omega) (fun h => absurd h (by rw [hll]; omega)) (fun _ => by omega) (by rw [he, eB]; exact if_pos h59) (Fx.fr (A := [80]) hF (Fr.rf.wi (by decide))) hX2 (hf.m (by decide)) (hk.fm (A := []) (B := [10]) (FM.rf.m (by decide)) (by decide) (by decide) (by decide) (by decide)) (hw2.fm (A := []) (B := [10]) (FM.rf.m (by decide)) (by decide) (by decide)) (hJ.up hql).ms
                     rw [hll] at hgo
                     exact hgo
                   · refine g_p t204_194 rfl ?_
                     refine r_cv t204_195 (f80 hF) rfl ?_
                     refine c184 (by exact hF) hJ (fun s195 f195 hE => ?_)
                     have hF := Fx.fr (by exact hF) f195.1
                     have hf := hf.tr (f195.mono (by decide) (by decide))
                     have hk := hk.fm f195 (by decide) (by decide) (by decide) (by decide)
                     refine k_v ?_ rfl
                     refine g_p t204_198 rfl ?_
                     exfalso; omega)
                | (have u0 : ¬ lk (sgn t q) = nI 59 := h175
                   refine g_isn t204_183 (Nat.le_of_ble_eq_true rfl) (am_s1_3 rfl) ?_
                   refine g_p t204_184 rfl ?_
                   refine n_eq t204_185 (by omega) (fun _ => ?_) (fun h => absurd rfl h)
                   refine g_p t204_200 rfl ?_
                   refine n_eq t204_201 (by omega) (fun _ => ?_) (fun h => absurd rfl h)
                   refine g_goto t204_214 ?_
                   refine g_p t204_19 rfl ?_
                   refine n_eq t204_20 (by omega) (fun _ => ?_) (fun h => absurd rfl h)
                   have hnl : ¬ ls.length < low := by
                     rw [hlow]
                     first
                       | (have u0 : cl.length = 0 := h146
                          rw [if_pos u0]; exact Nat.not_lt.mpr h154)
                       | (have u0 : ¬ cl.length = 0 := h146
                          rw [if_neg u0]; exact Nat.not_lt.mpr h154)
                   have hwd : ls.length = (if cl.isEmpty = true then S_.1.length else wd) := by
                     rw [e1, hemp]
                     by_cases h0 : cl.length = 0
                     · rw [decide_eq_true h0]; rfl
                     · rw [decide_eq_false h0]
                       rw [hcap, if_neg h0] at hlc
                       rw [hlow, if_neg h0] at hnl
                       show ls.length = wd
                       omega
                   have eB : B_ = (cl ++ [(plv t (.inl j), ls)], ls.length, .inl q) := by
                     rw [hB, ← hwd, if_neg (by rw [e1]; exact hnl), e2, e1]
                   have hll : (cl ++ [(plv t (.inl j), ls)]).length = cl.length + 1 := by rw [List.length_append]; rfl
                   have hw2 : DBm (cl ++ [(plv t (.inl j), ls)]) s169 := fun i hi => by
                     rw [hll] at hi
                     by_cases h9 : i < cl.length
                     · rw [gDa1 h9]; exact hw i h9
                     · have h9 : i = cl.length := by omega
                       subst h9
                       rw [gDa2]
                       exact ⟨hlet, hsig, by show ls.length ≤ 5; omega⟩
                   have hn59 : ¬ sgn t q = 59 := fun e => h175 ((lk_e hsg (by decide) (by decide)).mpr e)
                   rw [show nI (cl.length + 1) = nI (cl ++ [(plv t (.inl j), ls)]).length by rw [hll]]
                   exact END (cl ++ [(plv t (.inl j), ls)]) ls.length q s169 _ (by rw [hll]; omega) hF hX hf hk hw2 hJ hsp (by rw [he, eB]; exact if_neg hn59))
          · refine g_p t204_157 rfl ?_
            refine r_cv t204_158 (f80 hF) rfl ?_
            refine c184 (by exact hF) hJ (fun s158 f158 hE => ?_)
            have hF := Fx.fr (by exact hF) f158.1
            have hf := hf.tr (f158.mono (by decide) (by decide))
            have hk := hk.fm f158 (by decide) (by decide) (by decide) (by decide)
            refine k_v ?_ rfl
            refine g_p t204_161 rfl ?_
            have hlt : ls.length < low := by
              rw [hlow]
              first
                | (have u0 : cl.length = 0 := h146
                   rw [if_pos u0]; exact Nat.lt_of_not_le h154)
                | (have u0 : ¬ cl.length = 0 := h146
                   rw [if_neg u0]; exact Nat.lt_of_not_le h154)
            exact v_ret t204_162 (RED _ q hf hk (SHORT q e2 (by rw [e1]; exact hlt)) hE)
        · refine g_k (n := 2) t204_149 rfl rfl ?_
          refine g_goto t204_150 ?_
          refine n_cge t204_154 (by omega) (by omega) (fun h154 => ?_) (fun h154 => ?_)
          · refine g_p t204_163 rfl ?_
            refine g_isn t204_165 (Nat.le_of_ble_eq_true rfl) (am_s1_2 rfl) ?_
            refine g_incn (n := 1) t204_166 rfl rfl (Nat.le_of_ble_eq_true rfl) (am_s1_1 rfl) ?_
            refine g_p t204_169 rfl ?_
            refine r_cv t204_170 (f80 hF) rfl ?_
            refine c183 (by exact hF) (by exact hX) (by exact hS) (fun s169 f169 hJ => ?_)
            have hS := hJ.m2 hsp
            have e10 := hJ.2.2
            have h11 := hJ.1
            have hlet : ri s169 87 (24 + cl.length) = nI (plv t (.inl j)) := (f169.g (by decide)).trans hlet
            have hsig : ∀ i, i < ls.length → ri s169 88 ((24 + cl.length) * 5 + i) = nI (ls.getD i 0) := fun i hi => (f169.g (by decide)).trans (hsig i hi)
            refine k_v ?_ rfl
            have hF := Fx.fr (by exact hF) f169.1
            have hX := MT.fm (by exact hX) f169 (by decide) (by decide) (by decide) (by decide) (by decide)
            have hf := hf.tr (f169.mono (by decide) (by decide))
            have hk := hk.fm f169 (by decide) (by decide) (by decide) (by decide)
            have hw := hw.fm f169 (by decide) (by decide)
            refine g_k (n := 59) t204_173 rfl rfl ?_
            refine g_cne t204_175 (fun h175 => ?_) (fun h175 => ?_)
            · refine g_k (n := 0) t204_182 rfl rfl ?_
              first
                | (have u0 : lk (sgn t q) = nI 59 := h175
                   refine g_isn t204_183 (Nat.le_of_ble_eq_true rfl) (am_s1_3 rfl) ?_
                   refine g_p t204_184 rfl ?_
                   refine n_eq t204_185 (by omega) (fun h => absurd h (by decide)) (fun _ => ?_)
                   refine g_p t204_188 rfl ?_
                   refine g_k (n := 8) t204_189 rfl rfl ?_
                   refine n_cne t204_191 (by omega) (by omega) (fun h191 => ?_) (fun h191 => ?_)
                   · refine g_p t204_200 rfl ?_
                     refine n_eq t204_201 (by omega) (fun h => absurd h (by decide)) (fun _ => ?_)
                     refine g_p t204_204 rfl ?_
                     refine g_p t204_205 rfl ?_
                     refine r_gete t204_206 (f80 hF) rfl rfl e10 ?_
                     refine g_k (n := 1) t204_209 rfl rfl ?_
                     refine g_addn t204_210 ?_
                     refine r_puti t204_211 (f80 hF) rfl rfl ?_
                     refine g_goto t204_214 ?_
                     have hnl : ¬ ls.length < low := by
                       rw [hlow]
                       first
                         | (have u0 : cl.length = 0 := h146
                            rw [if_pos u0]; exact Nat.not_lt.mpr h154)
                         | (have u0 : ¬ cl.length = 0 := h146
                            rw [if_neg u0]; exact Nat.not_lt.mpr h154)
                     have hwd : ls.length = (if cl.isEmpty = true then S_.1.length else wd) := by
                       rw [e1, hemp]
                       by_cases h0 : cl.length = 0
                       · rw [decide_eq_true h0]; rfl
                       · rw [decide_eq_false h0]
                         rw [hcap, if_neg h0] at hlc
                         rw [hlow, if_neg h0] at hnl
                         show ls.length = wd
                         omega
                     have eB : B_ = (cl ++ [(plv t (.inl j), ls)], ls.length, .inl q) := by
                       rw [hB, ← hwd, if_neg (by rw [e1]; exact hnl), e2, e1]
                     have hll : (cl ++ [(plv t (.inl j), ls)]).length = cl.length + 1 := by rw [List.length_append]; rfl
                     have hw2 : DBm (cl ++ [(plv t (.inl j), ls)]) s169 := fun i hi => by
                       rw [hll] at hi
                       by_cases h9 : i < cl.length
                       · rw [gDa1 h9]; exact hw i h9
                       · have h9 : i = cl.length := by omega
                         subst h9
                         rw [gDa2]
                         exact ⟨hlet, hsig, by show ls.length ≤ 5; omega⟩
                     have h59 : sgn t q = 59 := (lk_e hsg (by decide) (by decide)).mp h175
                     have hql : q < t.length := sgn_pos (by omega)
                     have hX2 := MT.w8 (i := 10) (v := nI (q + 1)) (by exact hX) (by decide) (by decide) (by decide)
                     have hgo := ih (cl ++ [(plv t (.inl j), ls)]) ls.length (skp t (q + 1)) (wi s169 80 10 (nI (q + 1))) (.int (nI ls.length)) rfl (by rw [hll]; omega) (fun h => absurd h (by rw [hll]; omega)) (fun _ => by omega) (by rw [he, eB]; exact if_pos h59) (Fx.fr (A := [80]) hF (Fr.rf.wi (by decide))) hX2 (hf.m (by decide)) (hk.fm (A := []) (B := [10]) (FM.rf.m (by decide)) (by decide) (by decide) (by decide) (by decide)) (hw2.fm (A := []) (B := [10]) (FM.rf.m (by decide)) (by decide) (by decide)) (hJ.up hql).ms
                     rw [hll] at hgo
                     exact hgo
                   · refine g_p t204_194 rfl ?_
                     refine r_cv t204_195 (f80 hF) rfl ?_
                     refine c184 (by exact hF) hJ (fun s195 f195 hE => ?_)
                     have hF := Fx.fr (by exact hF) f195.1
                     have hf := hf.tr (f195.mono (by decide) (by decide))
                     have hk := hk.fm f195 (by decide) (by decide) (by decide) (by decide)
                     refine k_v ?_ rfl
                     refine g_p t204_198 rfl ?_
                     exfalso; omega)
                | (have u0 : ¬ lk (sgn t q) = nI 59 := h175
                   refine g_isn t204_183 (Nat.le_of_ble_eq_true rfl) (am_s1_3 rfl) ?_
                   refine g_p t204_184 rfl ?_
                   refine n_eq t204_185 (by omega) (fun _ => ?_) (fun h => absurd rfl h)
                   refine g_p t204_200 rfl ?_
                   refine n_eq t204_201 (by omega) (fun _ => ?_) (fun h => absurd rfl h)
                   refine g_goto t204_214 ?_
                   refine g_p t204_19 rfl ?_
                   refine n_eq t204_20 (by omega) (fun _ => ?_) (fun h => absurd rfl h)
                   have hnl : ¬ ls.length < low := by
                     rw [hlow]
                     first
                       | (have u0 : cl.length = 0 := h146
                          rw [if_pos u0]; exact Nat.not_lt.mpr h154)
                       | (have u0 : ¬ cl.length = 0 := h146
                          rw [if_neg u0]; exact Nat.not_lt.mpr h154)
                   have hwd : ls.length = (if cl.isEmpty = true then S_.1.length else wd) := by
                     rw [e1, hemp]
                     by_cases h0 : cl.length = 0
                     · rw [decide_eq_true h0]; rfl
                     · rw [decide_eq_false h0]
                       rw [hcap, if_neg h0] at hlc
                       rw [hlow, if_neg h0] at hnl
                       show ls.length = wd
                       omega
                   have eB : B_ = (cl ++ [(plv t (.inl j), ls)], ls.length, .inl q) := by
                     rw [hB, ← hwd, if_neg (by rw [e1]; exact hnl), e2, e1]
                   have hll : (cl ++ [(plv t (.inl j), ls)]).length = cl.length + 1 := by rw [List.length_append]; rfl
                   have hw2 : DBm (cl ++ [(plv t (.inl j), ls)]) s169 := fun i hi => by
                     rw [hll] at hi
                     by_cases h9 : i < cl.length
                     · rw [gDa1 h9]; exact hw i h9
                     · have h9 : i = cl.length := by omega
                       subst h9
                       rw [gDa2]
                       exact ⟨hlet, hsig, by show ls.length ≤ 5; omega⟩
                   have hn59 : ¬ sgn t q = 59 := fun e => h175 ((lk_e hsg (by decide) (by decide)).mpr e)
                   rw [show nI (cl.length + 1) = nI (cl ++ [(plv t (.inl j), ls)]).length by rw [hll]]
                   exact END (cl ++ [(plv t (.inl j), ls)]) ls.length q s169 _ (by rw [hll]; omega) hF hX hf hk hw2 hJ hsp (by rw [he, eB]; exact if_neg hn59))
            · refine g_k (n := 1) t204_178 rfl rfl ?_
              refine g_goto t204_179 ?_
              first
                | (have u0 : lk (sgn t q) = nI 59 := h175
                   refine g_isn t204_183 (Nat.le_of_ble_eq_true rfl) (am_s1_3 rfl) ?_
                   refine g_p t204_184 rfl ?_
                   refine n_eq t204_185 (by omega) (fun h => absurd h (by decide)) (fun _ => ?_)
                   refine g_p t204_188 rfl ?_
                   refine g_k (n := 8) t204_189 rfl rfl ?_
                   refine n_cne t204_191 (by omega) (by omega) (fun h191 => ?_) (fun h191 => ?_)
                   · refine g_p t204_200 rfl ?_
                     refine n_eq t204_201 (by omega) (fun h => absurd h (by decide)) (fun _ => ?_)
                     refine g_p t204_204 rfl ?_
                     refine g_p t204_205 rfl ?_
                     refine r_gete t204_206 (f80 hF) rfl rfl e10 ?_
                     refine g_k (n := 1) t204_209 rfl rfl ?_
                     refine g_addn t204_210 ?_
                     refine r_puti t204_211 (f80 hF) rfl rfl ?_
                     refine g_goto t204_214 ?_
                     have hnl : ¬ ls.length < low := by
                       rw [hlow]
                       first
                         | (have u0 : cl.length = 0 := h146
                            rw [if_pos u0]; exact Nat.not_lt.mpr h154)
                         | (have u0 : ¬ cl.length = 0 := h146
                            rw [if_neg u0]; exact Nat.not_lt.mpr h154)
                     have hwd : ls.length = (if cl.isEmpty = true then S_.1.length else wd) := by
                       rw [e1, hemp]
                       by_cases h0 : cl.length = 0
                       · rw [decide_eq_true h0]; rfl
                       · rw [decide_eq_false h0]
                         rw [hcap, if_neg h0] at hlc
                         rw [hlow, if_neg h0] at hnl
                         show ls.length = wd
                         omega
                     have eB : B_ = (cl ++ [(plv t (.inl j), ls)], ls.length, .inl q) := by
                       rw [hB, ← hwd, if_neg (by rw [e1]; exact hnl), e2, e1]
                     have hll : (cl ++ [(plv t (.inl j), ls)]).length = cl.length + 1 := by rw [List.length_append]; rfl
                     have hw2 : DBm (cl ++ [(plv t (.inl j), ls)]) s169 := fun i hi => by
                       rw [hll] at hi
                       by_cases h9 : i < cl.length
                       · rw [gDa1 h9]; exact hw i h9
                       · have h9 : i = cl.length := by omega
                         subst h9
                         rw [gDa2]
                         exact ⟨hlet, hsig, by show ls.length ≤ 5; omega⟩
                     have h59 : sgn t q = 59 := (lk_e hsg (by decide) (by decide)).mp h175
                     have hql : q < t.length := sgn_pos (by omega)
                     have hX2 := MT.w8 (i := 10) (v := nI (q + 1)) (by exact hX) (by decide) (by decide) (by decide)
                     have hgo := ih (cl ++ [(plv t (.inl j), ls)]) ls.length (skp t (q + 1)) (wi s169 80 10 (nI (q + 1))) (.int (nI ls.length)) rfl (by rw [hll]; omega) (fun h => absurd h (by rw [hll]; omega)) (fun _ => by omega) (by rw [he, eB]; exact if_pos h59) (Fx.fr (A := [80]) hF (Fr.rf.wi (by decide))) hX2 (hf.m (by decide)) (hk.fm (A := []) (B := [10]) (FM.rf.m (by decide)) (by decide) (by decide) (by decide) (by decide)) (hw2.fm (A := []) (B := [10]) (FM.rf.m (by decide)) (by decide) (by decide)) (hJ.up hql).ms
                     rw [hll] at hgo
                     exact hgo
                   · refine g_p t204_194 rfl ?_
                     refine r_cv t204_195 (f80 hF) rfl ?_
                     refine c184 (by exact hF) hJ (fun s195 f195 hE => ?_)
                     have hF := Fx.fr (by exact hF) f195.1
                     have hf := hf.tr (f195.mono (by decide) (by decide))
                     have hk := hk.fm f195 (by decide) (by decide) (by decide) (by decide)
                     refine k_v ?_ rfl
                     refine g_p t204_198 rfl ?_
                     exfalso; omega)
                | (have u0 : ¬ lk (sgn t q) = nI 59 := h175
                   refine g_isn t204_183 (Nat.le_of_ble_eq_true rfl) (am_s1_3 rfl) ?_
                   refine g_p t204_184 rfl ?_
                   refine n_eq t204_185 (by omega) (fun _ => ?_) (fun h => absurd rfl h)
                   refine g_p t204_200 rfl ?_
                   refine n_eq t204_201 (by omega) (fun _ => ?_) (fun h => absurd rfl h)
                   refine g_goto t204_214 ?_
                   refine g_p t204_19 rfl ?_
                   refine n_eq t204_20 (by omega) (fun _ => ?_) (fun h => absurd rfl h)
                   have hnl : ¬ ls.length < low := by
                     rw [hlow]
                     first
                       | (have u0 : cl.length = 0 := h146
                          rw [if_pos u0]; exact Nat.not_lt.mpr h154)
                       | (have u0 : ¬ cl.length = 0 := h146
                          rw [if_neg u0]; exact Nat.not_lt.mpr h154)
                   have hwd : ls.length = (if cl.isEmpty = true then S_.1.length else wd) := by
                     rw [e1, hemp]
                     by_cases h0 : cl.length = 0
                     · rw [decide_eq_true h0]; rfl
                     · rw [decide_eq_false h0]
                       rw [hcap, if_neg h0] at hlc
                       rw [hlow, if_neg h0] at hnl
                       show ls.length = wd
                       omega
                   have eB : B_ = (cl ++ [(plv t (.inl j), ls)], ls.length, .inl q) := by
                     rw [hB, ← hwd, if_neg (by rw [e1]; exact hnl), e2, e1]
                   have hll : (cl ++ [(plv t (.inl j), ls)]).length = cl.length + 1 := by rw [List.length_append]; rfl
                   have hw2 : DBm (cl ++ [(plv t (.inl j), ls)]) s169 := fun i hi => by
                     rw [hll] at hi
                     by_cases h9 : i < cl.length
                     · rw [gDa1 h9]; exact hw i h9
                     · have h9 : i = cl.length := by omega
                       subst h9
                       rw [gDa2]
                       exact ⟨hlet, hsig, by show ls.length ≤ 5; omega⟩
                   have hn59 : ¬ sgn t q = 59 := fun e => h175 ((lk_e hsg (by decide) (by decide)).mpr e)
                   rw [show nI (cl.length + 1) = nI (cl ++ [(plv t (.inl j), ls)]).length by rw [hll]]
                   exact END (cl ++ [(plv t (.inl j), ls)]) ls.length q s169 _ (by rw [hll]; omega) hF hX hf hk hw2 hJ hsp (by rw [he, eB]; exact if_neg hn59))
          · refine g_p t204_157 rfl ?_
            refine r_cv t204_158 (f80 hF) rfl ?_
            refine c184 (by exact hF) hJ (fun s158 f158 hE => ?_)
            have hF := Fx.fr (by exact hF) f158.1
            have hf := hf.tr (f158.mono (by decide) (by decide))
            have hk := hk.fm f158 (by decide) (by decide) (by decide) (by decide)
            refine k_v ?_ rfl
            refine g_p t204_161 rfl ?_
            have hlt : ls.length < low := by
              rw [hlow]
              first
                | (have u0 : cl.length = 0 := h146
                   rw [if_pos u0]; exact Nat.lt_of_not_le h154)
                | (have u0 : ¬ cl.length = 0 := h146
                   rw [if_neg u0]; exact Nat.lt_of_not_le h154)
            exact v_ret t204_162 (RED _ q hf hk (SHORT q e2 (by rw [e1]; exact hlt)) hE)
      have SIG : ∀ r (ls : List Nat) (q : Nat) (s' : mM), ls.length + r = cap → S_ = cls t r (ls, .inl q) → Fx s' → MT 81 120 0 t s' → FM bA xB s s' → KB s s' → DBm cl s' → ri s' 87 (24 + cl.length) = nI (plv t (.inl j)) → (∀ i, i < ls.length → ri s' 88 ((24 + cl.length) * 5 + i) = nI (ls.getD i 0)) → MS t (.inl q) s' → gG X (d + 4) 204 75 [.ref 80, .int (nI cl.length), .int (nI wd), .int (nI 1), .int (nI ls.length)] [] (mR s') Q := by
        intro r
        induction r with
        | zero =>
          intro ls q s' hr hSe hF hX hf hk hw hlet hsig hS
          have hsp := hS.sk
          have hsg := hX.sg q
          have hSe : S_ = (ls, .inl q) := hSe
          cases hP : isP (sgn t q) with
          | true =>
            have hn0 : ¬ sgn t q = 0 := fun e => by rw [e] at hP; exact absurd hP (by decide)
            have hn59 : ¬ sgn t q = 59 := fun e => by rw [e] at hP; exact absurd hP (by decide)
            refine g_p t204_75 rfl ?_
            refine r_cv t204_76 (f80 hF) rfl ?_
            refine c183 (by exact hF) (by exact hX) (by exact hS) (fun s76 f76 hJ => ?_)
            have hS := hJ.m2 hsp
            have e10 := hJ.2.2
            have h11 := hJ.1
            have hlet : ri s76 87 (24 + cl.length) = nI (plv t (.inl j)) := (f76.g (by decide)).trans hlet
            have hsig : ∀ i, i < ls.length → ri s76 88 ((24 + cl.length) * 5 + i) = nI (ls.getD i 0) := fun i hi => (f76.g (by decide)).trans (hsig i hi)
            refine k_v ?_ rfl
            have hF := Fx.fr (by exact hF) f76.1
            have hX := MT.fm (by exact hX) f76 (by decide) (by decide) (by decide) (by decide) (by decide)
            have hf := hf.tr (f76.mono (by decide) (by decide))
            have hk := hk.fm f76 (by decide) (by decide) (by decide) (by decide)
            have hw := hw.fm f76 (by decide) (by decide)
            refine g_cs t204_79 rfl rfl rfl ?_
            refine c202 hsg ?_
            rw [show sgI (sgn t q) = nI (sgo (sgn t q)) from if_pos hP]
            refine k_v ?_ rfl
            refine g_p t204_82 rfl ?_
            refine g_ceq t204_83 (fun h83 => ?_) (fun h83 => ?_)
            · exact absurd h83 (nI_m1 (by have := sgo_4 (sgn t q); omega))
            · refine g_p t204_86 rfl ?_
              refine g_p t204_88 rfl ?_
              refine n_ne t204_89 (by omega) (fun h89 => ?_) (fun h89 => ?_)
              · refine g_p t204_96 rfl ?_
                refine n_cne t204_97 (by omega) (by omega) (fun h97 => ?_) (fun h97 => ?_)
                · exfalso
                  first
                    | (have u0 : cl.length = 0 := h89
                       rw [hcap, if_pos u0] at hr
                       exact h97 (by omega))
                    | (have u0 : ¬ cl.length = 0 := h89
                       rw [hcap, if_neg u0] at hr
                       exact h97 (by omega))
                · refine g_p t204_100 rfl ?_
                  refine r_cv t204_101 (f80 hF) rfl ?_
                  refine c184 (by exact hF) hJ (fun s101 f101 hE => ?_)
                  have hF := Fx.fr (by exact hF) f101.1
                  have hf := hf.tr (f101.mono (by decide) (by decide))
                  have hk := hk.fm f101 (by decide) (by decide) (by decide) (by decide)
                  refine k_v ?_ rfl
                  refine g_p t204_104 rfl ?_
                  exact v_ret t204_105 (RED _ q hf hk (LONG q (by rw [hSe]) (by rw [hSe]; show ¬ ls.length < low; omega) hn0 hn59) hE)
              · refine g_k (n := 5) t204_92 rfl rfl ?_
                refine g_goto t204_93 ?_
                refine n_cne t204_97 (by omega) (by omega) (fun h97 => ?_) (fun h97 => ?_)
                · exfalso
                  first
                    | (have u0 : cl.length = 0 := h89
                       rw [hcap, if_pos u0] at hr
                       exact h97 (by omega))
                    | (have u0 : ¬ cl.length = 0 := h89
                       rw [hcap, if_neg u0] at hr
                       exact h97 (by omega))
                · refine g_p t204_100 rfl ?_
                  refine r_cv t204_101 (f80 hF) rfl ?_
                  refine c184 (by exact hF) hJ (fun s101 f101 hE => ?_)
                  have hF := Fx.fr (by exact hF) f101.1
                  have hf := hf.tr (f101.mono (by decide) (by decide))
                  have hk := hk.fm f101 (by decide) (by decide) (by decide) (by decide)
                  refine k_v ?_ rfl
                  refine g_p t204_104 rfl ?_
                  exact v_ret t204_105 (RED _ q hf hk (LONG q (by rw [hSe]) (by rw [hSe]; show ¬ ls.length < low; omega) hn0 hn59) hE)
          | false =>
            refine g_p t204_75 rfl ?_
            refine r_cv t204_76 (f80 hF) rfl ?_
            refine c183 (by exact hF) (by exact hX) (by exact hS) (fun s76 f76 hJ => ?_)
            have hS := hJ.m2 hsp
            have e10 := hJ.2.2
            have h11 := hJ.1
            have hlet : ri s76 87 (24 + cl.length) = nI (plv t (.inl j)) := (f76.g (by decide)).trans hlet
            have hsig : ∀ i, i < ls.length → ri s76 88 ((24 + cl.length) * 5 + i) = nI (ls.getD i 0) := fun i hi => (f76.g (by decide)).trans (hsig i hi)
            refine k_v ?_ rfl
            have hF := Fx.fr (by exact hF) f76.1
            have hX := MT.fm (by exact hX) f76 (by decide) (by decide) (by decide) (by decide) (by decide)
            have hf := hf.tr (f76.mono (by decide) (by decide))
            have hk := hk.fm f76 (by decide) (by decide) (by decide) (by decide)
            have hw := hw.fm f76 (by decide) (by decide)
            refine g_cs t204_79 rfl rfl rfl ?_
            refine c202 hsg ?_
            rw [show sgI (sgn t q) = -1 from if_neg (by rw [hP]; decide)]
            refine k_v ?_ rfl
            refine g_p t204_82 rfl ?_
            refine g_ceq t204_83 (fun h83 => ?_) (fun h83 => ?_)
            · exact TAIL ls q s76 hSe hP (by omega) hF hX hf hk hw hlet hsig hJ hsp
            · exact absurd rfl h83
        | succ r ihr =>
          intro ls q s' hr hSe hF hX hf hk hw hlet hsig hS
          have hsp := hS.sk
          have hsg := hX.sg q
          cases hP : isP (sgn t q) with
          | true =>
            have hSe : S_ = cls t r (ls ++ [sgo (sgn t q)], .inl (skp t (q + 1))) := by
              rw [hSe, cls, if_pos (show isP (psg t (Sum.inl q)) = true from hP)]; rfl
            have hql : q < t.length := sgn_pos (fun e => by rw [e] at hP; exact absurd hP (by decide))
            have hg4 := sgo_4 (sgn t q)
            refine g_p t204_75 rfl ?_
            refine r_cv t204_76 (f80 hF) rfl ?_
            refine c183 (by exact hF) (by exact hX) (by exact hS) (fun s76 f76 hJ => ?_)
            have hS := hJ.m2 hsp
            have e10 := hJ.2.2
            have h11 := hJ.1
            have hlet : ri s76 87 (24 + cl.length) = nI (plv t (.inl j)) := (f76.g (by decide)).trans hlet
            have hsig : ∀ i, i < ls.length → ri s76 88 ((24 + cl.length) * 5 + i) = nI (ls.getD i 0) := fun i hi => (f76.g (by decide)).trans (hsig i hi)
            refine k_v ?_ rfl
            have hF := Fx.fr (by exact hF) f76.1
            have hX := MT.fm (by exact hX) f76 (by decide) (by decide) (by decide) (by decide) (by decide)
            have hf := hf.tr (f76.mono (by decide) (by decide))
            have hk := hk.fm f76 (by decide) (by decide) (by decide) (by decide)
            have hw := hw.fm f76 (by decide) (by decide)
            refine g_cs t204_79 rfl rfl rfl ?_
            refine c202 hsg ?_
            rw [show sgI (sgn t q) = nI (sgo (sgn t q)) from if_pos hP]
            refine k_v ?_ rfl
            refine g_p t204_82 rfl ?_
            refine g_ceq t204_83 (fun h83 => ?_) (fun h83 => ?_)
            · exact absurd h83 (nI_m1 (by omega))
            · refine g_p t204_86 rfl ?_
              refine g_p t204_88 rfl ?_
              refine n_ne t204_89 (by omega) (fun h89 => ?_) (fun h89 => ?_)
              · refine g_p t204_96 rfl ?_
                refine n_cne t204_97 (by omega) (by omega) (fun h97 => ?_) (fun h97 => ?_)
                · refine g_p t204_106 rfl ?_
                  refine r_getr t204_107 (f80 hF) rfl rfl ?_
                  refine g_k (n := 24) t204_110 rfl rfl ?_
                  refine g_p t204_112 rfl ?_
                  refine g_addn t204_113 ?_
                  refine g_k (n := 5) t204_114 rfl rfl ?_
                  refine g_muln t204_115 ?_
                  refine g_p t204_116 rfl ?_
                  refine g_addn t204_118 ?_
                  refine g_p t204_119 rfl ?_
                  refine r_cv t204_120 (f80 hF) rfl ?_
                  refine c183 (by exact hF) (by exact hX) (by exact hS) (fun s120 f120 hJ => ?_)
                  have hS := hJ.m2 hsp
                  have e10 := hJ.2.2
                  have h11 := hJ.1
                  have hlet : ri s120 87 (24 + cl.length) = nI (plv t (.inl j)) := (f120.g (by decide)).trans hlet
                  have hsig : ∀ i, i < ls.length → ri s120 88 ((24 + cl.length) * 5 + i) = nI (ls.getD i 0) := fun i hi => (f120.g (by decide)).trans (hsig i hi)
                  refine k_v ?_ rfl
                  have hF := Fx.fr (by exact hF) f120.1
                  have hX := MT.fm (by exact hX) f120 (by decide) (by decide) (by decide) (by decide) (by decide)
                  have hf := hf.tr (f120.mono (by decide) (by decide))
                  have hk := hk.fm f120 (by decide) (by decide) (by decide) (by decide)
                  have hw := hw.fm f120 (by decide) (by decide)
                  refine g_cs t204_123 rfl rfl rfl ?_
                  refine c202 hsg ?_
                  rw [show sgI (sgn t q) = nI (sgo (sgn t q)) from if_pos hP]
                  refine k_v ?_ rfl
                  refine r_iast t204_126 (f88 hF) (by decide) (by omega) ?_
                  refine g_incn (n := 1) t204_127 rfl rfl (Nat.le_of_ble_eq_true rfl) (am_s1_4 rfl) ?_
                  refine g_p t204_130 rfl ?_
                  refine g_p t204_131 rfl ?_
                  refine r_gete t204_132 (f80 hF) rfl rfl e10 ?_
                  refine g_k (n := 1) t204_135 rfl rfl ?_
                  refine g_addn t204_136 ?_
                  refine r_puti t204_137 (f80 hF) rfl rfl ?_
                  refine g_goto t204_140 ?_
                  have hX2 := MT.w8 (i := 10) (v := nI (q + 1)) (MT.fm (A := [88]) (B' := []) (by exact hX) (FM.rf.w (p := 88) (i := (24 + cl.length) * 5 + ls.length) (v := nI (sgo (sgn t q))) (by decide) (by decide)) (by decide) (by decide) (by decide) (by decide) (by decide)) (by decide) (by decide) (by decide)
                  have hJ2 : MJ t (q + 1) (wi (wi s120 88 ((24 + cl.length) * 5 + ls.length) (nI (sgo (sgn t q)))) 80 10 (nI (q + 1))) := ⟨h11, hql, rfl⟩
                  have hll : (ls ++ [sgo (sgn t q)]).length = ls.length + 1 := by rw [List.length_append]; rfl
                  have hgo := ihr (ls ++ [sgo (sgn t q)]) (skp t (q + 1)) _ (by rw [hll]; omega) hSe (Fx.fr (A := [88, 80]) hF ((Fr.rf.wi (by decide)).wi (by decide))) hX2 ((hf.w (by decide) (by decide)).m (by decide)) ⟨fun i hi => hk.1 i hi, fun i hi => by rw [ri_wi_ne (by decide), ri_wi_j (by omega)]; exact hk.2.1 i hi, fun i hi => hk.2.2.1 i hi, fun i hi => hk.2.2.2 i hi⟩ (fun i hi => ⟨(hw i hi).1, fun q2 hq2 => by
                    have h55 := (hw i hi).2.2
                    rw [ri_wi_ne (by decide), ri_wi_j (by omega)]; exact (hw i hi).2.1 q2 hq2, (hw i hi).2.2⟩) hlet (fun i hi => by
                    rw [hll] at hi
                    rw [ri_wi_ne (by decide)]
                    by_cases h9 : i < ls.length
                    · rw [gDa1 h9, ri_wi_j (by omega)]; exact hsig i h9
                    · have h9 : i = ls.length := by omega
                      subst h9
                      rw [gDa2, ri_wi_eq]) hJ2.ms
                  rw [hll] at hgo
                  exact hgo
                · exfalso
                  first
                    | (have u0 : cl.length = 0 := h89
                       rw [hcap, if_pos u0] at hr
                       omega)
                    | (have u0 : ¬ cl.length = 0 := h89
                       rw [hcap, if_neg u0] at hr
                       omega)
              · refine g_k (n := 5) t204_92 rfl rfl ?_
                refine g_goto t204_93 ?_
                refine n_cne t204_97 (by omega) (by omega) (fun h97 => ?_) (fun h97 => ?_)
                · refine g_p t204_106 rfl ?_
                  refine r_getr t204_107 (f80 hF) rfl rfl ?_
                  refine g_k (n := 24) t204_110 rfl rfl ?_
                  refine g_p t204_112 rfl ?_
                  refine g_addn t204_113 ?_
                  refine g_k (n := 5) t204_114 rfl rfl ?_
                  refine g_muln t204_115 ?_
                  refine g_p t204_116 rfl ?_
                  refine g_addn t204_118 ?_
                  refine g_p t204_119 rfl ?_
                  refine r_cv t204_120 (f80 hF) rfl ?_
                  refine c183 (by exact hF) (by exact hX) (by exact hS) (fun s120 f120 hJ => ?_)
                  have hS := hJ.m2 hsp
                  have e10 := hJ.2.2
                  have h11 := hJ.1
                  have hlet : ri s120 87 (24 + cl.length) = nI (plv t (.inl j)) := (f120.g (by decide)).trans hlet
                  have hsig : ∀ i, i < ls.length → ri s120 88 ((24 + cl.length) * 5 + i) = nI (ls.getD i 0) := fun i hi => (f120.g (by decide)).trans (hsig i hi)
                  refine k_v ?_ rfl
                  have hF := Fx.fr (by exact hF) f120.1
                  have hX := MT.fm (by exact hX) f120 (by decide) (by decide) (by decide) (by decide) (by decide)
                  have hf := hf.tr (f120.mono (by decide) (by decide))
                  have hk := hk.fm f120 (by decide) (by decide) (by decide) (by decide)
                  have hw := hw.fm f120 (by decide) (by decide)
                  refine g_cs t204_123 rfl rfl rfl ?_
                  refine c202 hsg ?_
                  rw [show sgI (sgn t q) = nI (sgo (sgn t q)) from if_pos hP]
                  refine k_v ?_ rfl
                  refine r_iast t204_126 (f88 hF) (by decide) (by omega) ?_
                  refine g_incn (n := 1) t204_127 rfl rfl (Nat.le_of_ble_eq_true rfl) (am_s1_4 rfl) ?_
                  refine g_p t204_130 rfl ?_
                  refine g_p t204_131 rfl ?_
                  refine r_gete t204_132 (f80 hF) rfl rfl e10 ?_
                  refine g_k (n := 1) t204_135 rfl rfl ?_
                  refine g_addn t204_136 ?_
                  refine r_puti t204_137 (f80 hF) rfl rfl ?_
                  refine g_goto t204_140 ?_
                  have hX2 := MT.w8 (i := 10) (v := nI (q + 1)) (MT.fm (A := [88]) (B' := []) (by exact hX) (FM.rf.w (p := 88) (i := (24 + cl.length) * 5 + ls.length) (v := nI (sgo (sgn t q))) (by decide) (by decide)) (by decide) (by decide) (by decide) (by decide) (by decide)) (by decide) (by decide) (by decide)
                  have hJ2 : MJ t (q + 1) (wi (wi s120 88 ((24 + cl.length) * 5 + ls.length) (nI (sgo (sgn t q)))) 80 10 (nI (q + 1))) := ⟨h11, hql, rfl⟩
                  have hll : (ls ++ [sgo (sgn t q)]).length = ls.length + 1 := by rw [List.length_append]; rfl
                  have hgo := ihr (ls ++ [sgo (sgn t q)]) (skp t (q + 1)) _ (by rw [hll]; omega) hSe (Fx.fr (A := [88, 80]) hF ((Fr.rf.wi (by decide)).wi (by decide))) hX2 ((hf.w (by decide) (by decide)).m (by decide)) ⟨fun i hi => hk.1 i hi, fun i hi => by rw [ri_wi_ne (by decide), ri_wi_j (by omega)]; exact hk.2.1 i hi, fun i hi => hk.2.2.1 i hi, fun i hi => hk.2.2.2 i hi⟩ (fun i hi => ⟨(hw i hi).1, fun q2 hq2 => by
                    have h55 := (hw i hi).2.2
                    rw [ri_wi_ne (by decide), ri_wi_j (by omega)]; exact (hw i hi).2.1 q2 hq2, (hw i hi).2.2⟩) hlet (fun i hi => by
                    rw [hll] at hi
                    rw [ri_wi_ne (by decide)]
                    by_cases h9 : i < ls.length
                    · rw [gDa1 h9, ri_wi_j (by omega)]; exact hsig i h9
                    · have h9 : i = ls.length := by omega
                      subst h9
                      rw [gDa2, ri_wi_eq]) hJ2.ms
                  rw [hll] at hgo
                  exact hgo
                · exfalso
                  first
                    | (have u0 : cl.length = 0 := h89
                       rw [hcap, if_pos u0] at hr
                       omega)
                    | (have u0 : ¬ cl.length = 0 := h89
                       rw [hcap, if_neg u0] at hr
                       omega)
          | false =>
            have hSe : S_ = (ls, .inl q) := by
              rw [hSe, cls, if_neg (show ¬ isP (psg t (Sum.inl q)) = true from by rw [show psg t (Sum.inl q) = sgn t q from rfl, hP]; decide)]
            refine g_p t204_75 rfl ?_
            refine r_cv t204_76 (f80 hF) rfl ?_
            refine c183 (by exact hF) (by exact hX) (by exact hS) (fun s76 f76 hJ => ?_)
            have hS := hJ.m2 hsp
            have e10 := hJ.2.2
            have h11 := hJ.1
            have hlet : ri s76 87 (24 + cl.length) = nI (plv t (.inl j)) := (f76.g (by decide)).trans hlet
            have hsig : ∀ i, i < ls.length → ri s76 88 ((24 + cl.length) * 5 + i) = nI (ls.getD i 0) := fun i hi => (f76.g (by decide)).trans (hsig i hi)
            refine k_v ?_ rfl
            have hF := Fx.fr (by exact hF) f76.1
            have hX := MT.fm (by exact hX) f76 (by decide) (by decide) (by decide) (by decide) (by decide)
            have hf := hf.tr (f76.mono (by decide) (by decide))
            have hk := hk.fm f76 (by decide) (by decide) (by decide) (by decide)
            have hw := hw.fm f76 (by decide) (by decide)
            refine g_cs t204_79 rfl rfl rfl ?_
            refine c202 hsg ?_
            rw [show sgI (sgn t q) = -1 from if_neg (by rw [hP]; decide)]
            refine k_v ?_ rfl
            refine g_p t204_82 rfl ?_
            refine g_ceq t204_83 (fun h83 => ?_) (fun h83 => ?_)
            · exact TAIL ls q s76 hSe hP (by omega) hF hX hf hk hw hlet hsig hJ hsp
            · exact absurd rfl h83
      by_cases hc : 97 ≤ sgn t j ∧ sgn t j ≤ 104
      · have hjl : j < t.length := sgn_pos (by omega)
        have hpl : plv t (.inl j) = sgn t j - 97 := if_pos hc
        have hpt : plt t (.inl j) = .inl (skp t (j + 1)) := if_pos hc
        rw [hpt] at hS_
        refine g_p t204_19 rfl ?_
        refine n_eq t204_20 (by omega) (fun h20 => ?_) (fun h20 => ?_)
        · exact absurd h20 (by decide)
        · refine g_p t204_23 rfl ?_
          refine r_cv t204_24 (f80 hF) rfl ?_
          refine c203 (by exact hF) (by exact hX) (by exact hS) (fun s24 f24 hJ => ?_)
          have hS := hJ.m2 hsp
          have e10 := hJ.2.2
          have h11 := hJ.1
          refine k_v ?_ rfl
          have hF := Fx.fr (by exact hF) f24.1
          have hX := MT.fm (by exact hX) f24 (by decide) (by decide) (by decide) (by decide) (by decide)
          have hf := hf.tr (f24.mono (by decide) (by decide))
          have hk := hk.fm f24 (by decide) (by decide) (by decide) (by decide)
          have hw := hw.fm f24 (by decide) (by decide)
          refine b_ne t204_27 (fun h27 => ?_) (fun h27 => ?_)
          · refine g_p t204_36 rfl ?_
            refine r_getr t204_37 (f80 hF) rfl rfl ?_
            refine g_k (n := 24) t204_40 rfl rfl ?_
            refine g_p t204_42 rfl ?_
            refine g_addn t204_43 ?_
            refine g_p t204_44 rfl ?_
            refine r_cv t204_45 (f80 hF) rfl ?_
            refine c183 (by exact hF) (by exact hX) (by exact hS) (fun s45 f45 hJ => ?_)
            have hS := hJ.m2 hsp
            have e10 := hJ.2.2
            have h11 := hJ.1
            rw [show lk (sgn t j) = nI (sgn t j) from if_neg (by omega)]
            refine k_v ?_ rfl
            have hF := Fx.fr (by exact hF) f45.1
            have hX := MT.fm (by exact hX) f45 (by decide) (by decide) (by decide) (by decide) (by decide)
            have hf := hf.tr (f45.mono (by decide) (by decide))
            have hk := hk.fm f45 (by decide) (by decide) (by decide) (by decide)
            have hw := hw.fm f45 (by decide) (by decide)
            refine g_k (n := 97) t204_48 rfl rfl ?_
            refine g_subn t204_50 (by omega) ?_
            refine r_iast t204_51 (f87 hF) (by decide) (by omega) ?_
            refine g_p t204_52 rfl ?_
            refine g_p t204_53 rfl ?_
            refine r_gete t204_54 (f80 hF) rfl rfl e10 ?_
            refine g_k (n := 1) t204_57 rfl rfl ?_
            refine g_addn t204_58 ?_
            refine r_puti t204_59 (f80 hF) rfl rfl ?_
            refine g_p t204_62 rfl ?_
            refine g_k (n := 61) t204_63 rfl rfl ?_
            refine r_cv t204_65 (f80 hF) rfl ?_
            have hJ2 : MJ t (j + 1) (wi (wi s45 87 (24 + cl.length) (nI (sgn t j - 97))) 80 10 (nI (j + 1))) := ⟨h11, hjl, rfl⟩
            have hX := MT.w8 (i := 10) (v := nI (j + 1)) (MT.fm (A := [87]) (B' := []) (by exact hX) (FM.rf.w (p := 87) (i := 24 + cl.length) (v := nI (sgn t j - 97)) (by decide) (by decide)) (by decide) (by decide) (by decide) (by decide) (by decide)) (by decide) (by decide) (by decide)
            have hR := hJ2.rm
            have hf := (hf.w (p := 87) (i := 24 + cl.length) (v := nI (sgn t j - 97)) (by decide) (by decide)).m (i := 10) (v := nI (j + 1)) (by decide)
            have hk : KB s (wi (wi s45 87 (24 + cl.length) (nI (sgn t j - 97))) 80 10 (nI (j + 1))) := ⟨fun i hi => by rw [ri_wi_ne (by decide), ri_wi_j (by omega)]; exact hk.1 i hi, fun i hi => hk.2.1 i hi, fun i hi => hk.2.2.1 i hi, fun i hi => hk.2.2.2 i hi⟩
            have hw : DBm cl (wi (wi s45 87 (24 + cl.length) (nI (sgn t j - 97))) 80 10 (nI (j + 1))) := fun i hi => ⟨by rw [ri_wi_ne (by decide), ri_wi_j (by omega)]; exact (hw i hi).1, (hw i hi).2⟩
            have hlet : ri (wi (wi s45 87 (24 + cl.length) (nI (sgn t j - 97))) 80 10 (nI (j + 1))) 87 (24 + cl.length) = nI (plv t (.inl j)) := by rw [ri_wi_ne (by decide), ri_wi_eq, hpl]
            refine c186 (by exact hF) (by exact hX) hR (w := 61) (by decide) (by decide) (by decide) (fun s65 q65 hu65 f65 he65 hc65 hl65 hJ => ?_) (fun s65 f65 hD hr65 => ?_)
            · have h11 := hJ.1
              have hF := Fx.fr (by exact hF) f65.1
              have hX := MT.fm (by exact hX) f65 (by decide) (by decide) (by decide) (by decide) (by decide)
              have hf := hf.tr (f65.mono (by decide) (by decide))
              have hk := hk.fm f65 (by decide) (by decide) (by decide) (by decide)
              have hw := hw.fm f65 (by decide) (by decide)
              have hlet := (f65.g (p := 87) (i := 24 + cl.length) (by decide)).trans hlet
              have hSe : S_ = cls t cap ([], .inl (skp t (q65 + 1))) := by
                rw [hS_]
                congr 2
                rw [show (.inl (skp t (j + 1)) : Ps) = .inl q65 from he65]
                exact if_pos hc65
              refine k_v ?_ rfl
              refine b_ne t204_68 (fun h68 => ?_) (fun h68 => ?_)
              · refine g_k (n := 0) t204_72 rfl rfl ?_
                refine g_is t204_73 (Nat.le_of_ble_eq_true rfl) (am_s1_4 rfl) ?_
                exact SIG cap [] _ s65 (Nat.zero_add _) hSe hF hX hf hk hw hlet (fun i hi => absurd hi (Nat.not_lt_zero i)) hJ.ms
              · exact no_b rfl h68
            · have hF := Fx.fr (by exact hF) f65.1
              have hf := hf.tr (f65.mono (by decide) (by decide))
              have hk := hk.fm f65 (by decide) (by decide) (by decide) (by decide)
              refine k_v ?_ rfl
              refine b_ne t204_68 (fun h68 => ?_) (fun h68 => ?_)
              · exact no_b h68 rfl
              · obtain ⟨r9, hr9⟩ := hr65
                have hr9 : pne t 61 (.inl (skp t (j + 1))) = .inr r9 := hr9
                have hSe : S_.2 = .inr r9 := by rw [hS_, hr9, cls_r]
                exact v_ret t204_71 (RED _ r9 hf hk (BADZ r9 hSe) (hD.ri hr9))
          · exact absurd hc (of_decide_eq_false h27)
      · have hpt : plt t (.inl j) = .inr j := if_neg hc
        have hSr : S_ = ([], .inr j) := by
          rw [hS_, hpt, show pne t 61 (.inr j) = .inr j from rfl, cls_r]
        refine g_p t204_19 rfl ?_
        refine n_eq t204_20 (by omega) (fun h20 => ?_) (fun h20 => ?_)
        · exact absurd h20 (by decide)
        · refine g_p t204_23 rfl ?_
          refine r_cv t204_24 (f80 hF) rfl ?_
          refine c203 (by exact hF) (by exact hX) (by exact hS) (fun s24 f24 hJ => ?_)
          have hS := hJ.m2 hsp
          have e10 := hJ.2.2
          have h11 := hJ.1
          refine k_v ?_ rfl
          have hF := Fx.fr (by exact hF) f24.1
          have hX := MT.fm (by exact hX) f24 (by decide) (by decide) (by decide) (by decide) (by decide)
          have hf := hf.tr (f24.mono (by decide) (by decide))
          have hk := hk.fm f24 (by decide) (by decide) (by decide) (by decide)
          have hw := hw.fm f24 (by decide) (by decide)
          refine b_ne t204_27 (fun h27 => ?_) (fun h27 => ?_)
          · exact absurd (of_decide_eq_true h27) hc
          · refine g_p t204_30 rfl ?_
            refine r_cv t204_31 (f80 hF) rfl ?_
            refine c184 (by exact hF) hJ (fun s31 f31 hE => ?_)
            have hF := Fx.fr (by exact hF) f31.1
            have hf := hf.tr (f31.mono (by decide) (by decide))
            have hk := hk.fm f31 (by decide) (by decide) (by decide) (by decide)
            refine k_v ?_ rfl
            refine g_p t204_34 rfl ?_
            exact v_ret t204_35 (RED _ j hf hk (BADZ j (by rw [hSr])) hE)
  refine en204 rfl ?_
  refine g_p t204_0 rfl ?_
  refine g_p t204_1 rfl ?_
  refine r_getr t204_2 (f80 hF) rfl rfl ?_
  refine g_k (n := 0) t204_5 rfl rfl ?_
  refine g_p t204_6 rfl ?_
  refine r_gete t204_7 (f80 hF) rfl rfl e6 ?_
  refine r_cv t204_10 (f80 hF) rfl ?_
  refine c198 (T := 81) (B := 0) (L := t.length) (by exact hF) (by decide) (fun s10 f10 o5 o8 o9 o10 o11 => ?_)
  have hF := hF.fr f10.1
  have hX : MT 81 120 0 t s10 := ⟨o5, o8, o9, (hT.ht (by assumption) h120 hb).fm f10 (by decide) (by decide)⟩
  have hJ : MJ t 0 s10 := ⟨o11, Nat.zero_le _, o10⟩
  refine k_0 ?_
  refine g_k (n := 0) t204_13 rfl rfl ?_
  refine g_isn t204_14 (Nat.le_of_ble_eq_true rfl) (am_s1_1 rfl) ?_
  refine g_k (n := 0) t204_15 rfl rfl ?_
  refine g_isn t204_16 (Nat.le_of_ble_eq_true rfl) (am_s1_2 rfl) ?_
  refine g_k (n := 1) t204_17 rfl rfl ?_
  refine g_isn t204_18 (Nat.le_of_ble_eq_true rfl) (am_s1_3 rfl) ?_
  exact K 7 [] 0 (skp t 0) s10 _ rfl rfl (fun _ => rfl) (fun h => absurd h (by decide)) hZ hF hX (f10.mono (by decide) (by decide)) ⟨fun i _ => f10.g (by decide), fun i _ => f10.g (by decide), fun i _ => f10.g (by decide), fun i _ => f10.g (by decide)⟩ (fun i h => absurd h (Nat.not_lt_zero i)) hJ.ms
end RK2
