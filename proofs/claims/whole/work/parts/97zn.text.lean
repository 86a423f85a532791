/-! TEXTS READ, 1: sills and words -/
abbrev Sl : Type := (Option Nat × Option Nat × Option Nat) × Ps
def sit (t : List Nat) (x : Sl) : Sl :=
  if x.1.1 = none ∧ psg t x.2 = 114 then ((some (pdv t 0 5 (pst t x.2)), x.1.2), pdg t 0 5 (pst t x.2))
  else if x.1.2.1 = none ∧ psg t x.2 = 119 then ((x.1.1, some (pdv t 0 5 (pst t x.2)), x.1.2.2), pdg t 0 5 (pst t x.2))
  else if x.1.2.2 = none ∧ psg t x.2 = 100 then ((x.1.1, x.1.2.1, some (pdv t 1 5 (pst t x.2))), pdg t 1 5 (pst t x.2))
  else (x.1, pre x.2)
def sil (t : List Nat) : Nat → Sl → Sl
  | 0, x => x
  | n + 1, x => if psg t x.2 = 0 then x else sil t n (sit t x)
def sl0 (t : List Nat) : Ps := pne t 110 (.inl (skp t 0))
def sle (t : List Nat) : Sl := sil t 3 ((none, none, none), pdg t 2 5 (sl0 t))
theorem pdv_le {t : List Nat} {lo hi : Nat} {σ : Ps} (h : lo ≤ hi) : lo ≤ pdv t lo hi σ ∧ pdv t lo hi σ ≤ hi := by
  unfold pdv
  split <;> omega
theorem plv_lt {t : List Nat} {σ : Ps} : plv t σ < 8 := by
  unfold plv
  split <;> omega
/-- letters of a word behind the first -/
def wdl (t : List Nat) : Nat → List Nat × Ps → List Nat × Ps
  | 0, x => x
  | n + 1, x => if psg t x.2 = 0 then x else wdl t n (x.1 ++ [plv t x.2], plt t x.2)
def wde (t : List Nat) : List Nat × Ps := wdl t 7 ([plv t (.inl (skp t 0))], plt t (.inl (skp t 0)))
def oI : Option Nat → Int32
  | none => -1
  | some c => nI c
section TN
variable {X : am_X} {d : Nat} {s : mM} {Q : Option Value → am_H → Prop} {T n : Nat} {t : List Nat} {σ : Ps} {v : Int32} {r w k : Option Nat}
theorem RD.w3 {T n : Nat} {t : List Nat} {σ : Ps} {s : mM} {i : Nat} {v : Int32} (h : RD 3 T n t σ s) (hT : T ≠ 3 ∧ T + 1 ≠ 3) (hi : 4 ≤ i) : RD 3 T n t σ (wi s 3 i v) :=
  ⟨h.1.fr (Fr.rf.wi (A := [3]) (by simp)) (by simp only [List.mem_singleton]; exact hT.1) (by simp only [List.mem_singleton]; exact hT.2), (ri_wi_j (by omega)).trans h.2.1, by
    have h2 := h.2.2
    cases σ with
    | inl j => exact ⟨(ri_wi_j (by omega)).trans h2.1, (ri_wi_j (by omega)).trans h2.2.1, (ri_wi_j (by omega)).trans h2.2.2.1, h2.2.2.2⟩
    | inr f => exact ⟨(ri_wi_j (by omega)).trans h2.1, (ri_wi_j (by omega)).trans h2.2.1, h2.2.2⟩⟩
theorem oI_n {o : Option Nat} (h : oI o = -1) (hb : ∀ x, o = some x → x < 2 ^ 31) : o = none := by
  cases o with
  | none => rfl
  | some x => exact absurd h (nI_m1 (hb x rfl))
def bd5 (x : Option Nat × Option Nat × Option Nat) : Prop := (∀ y, x.1 = some y → y ≤ 5) ∧ (∀ y, x.2.1 = some y → y ≤ 5) ∧ ∀ y, x.2.2 = some y → 1 ≤ y ∧ y ≤ 5
theorem bd5_0 : bd5 (none, none, none) := ⟨fun _ h => (by cases h), fun _ h => (by cases h), fun _ h => (by cases h)⟩
theorem sit_bd {t : List Nat} {x : Sl} (h : bd5 x.1) : bd5 (sit t x).1 := by
  obtain ⟨h1, h2, h3⟩ := h
  have a1 := pdv_le (t := t) (lo := 0) (hi := 5) (σ := pst t x.2) (by decide)
  have a2 := pdv_le (t := t) (lo := 1) (hi := 5) (σ := pst t x.2) (by decide)
  unfold sit
  split
  · exact ⟨fun y hy => by cases hy; exact a1.2, h2, h3⟩
  · split
    · exact ⟨h1, fun y hy => by cases hy; exact a1.2, h3⟩
    · split
      · exact ⟨h1, h2, fun y hy => by cases hy; exact a2⟩
      · exact ⟨h1, h2, h3⟩
theorem c88 (hF : Fx s) (hTR : T ≠ 3 ∧ T + 1 ≠ 3) (hD : RD 3 T n t σ s) (hb : bd5 (r, w, k)) (p5 : ri s 3 5 = oI r) (p6 : ri s 3 6 = oI w) (p7 : ri s 3 7 = oI k) (hq : ∀ s', Fr [3] s s' → ri s' 3 4 = ri s 3 4 → ri s' 3 5 = oI (sit t ((r, w, k), σ)).1.1 → ri s' 3 6 = oI (sit t ((r, w, k), σ)).1.2.1 → ri s' 3 7 = oI (sit t ((r, w, k), σ)).1.2.2 → RD 3 T n t (sit t ((r, w, k), σ)).2 s' → Q none (mR s')) : gE X (d + 2) 88 [.ref 3] (mR s) Q := by
  have p4 : ri s 3 4 = ri s 3 4 := rfl
  have hf : Fr [3] s s := Fr.rf
  obtain ⟨b1, b2, b3⟩ := hb
  have n1 : r ≠ none → ¬ oI r = -1 := fun h e => h (oI_n e (fun x hx => by have := b1 x hx; omega))
  have n2 : w ≠ none → ¬ oI w = -1 := fun h e => h (oI_n e (fun x hx => by have := b2 x hx; omega))
  have n3 : k ≠ none → ¬ oI k = -1 := fun h e => h (oI_n e (fun x hx => by have := (b3 x hx).2; omega))
  have m1 : r = none → oI r = -1 := fun h => by rw [h]; rfl
  have m2 : w = none → oI w = -1 := fun h => by rw [h]; rfl
  have m3 : k = none → oI k = -1 := fun h => by rw [h]; rfl
  by_cases c1 : r = none ∧ psg t σ = 114
  · have e : sit t ((r, w, k), σ) = ((some (pdv t 0 5 (pst t σ)), w, k), pdg t 0 5 (pst t σ)) := if_pos c1
    rw [e] at hq
    have e2 : psk t 114 σ = pst t σ := if_pos c1.2
    refine en88 rfl ?_
    refine g_p t88_0 rfl ?_
    refine r_gete t88_1 (f3 hF) rfl rfl p5 ?_
    refine g_p t88_4 rfl ?_
    refine g_cne t88_5 (fun h5 => ?_) (fun h5 => ?_)
    · first
        | exact absurd (m1 c1.1) h5
        | exact no_b (decide_eq_true c1.2) h14
    · refine g_p t88_8 rfl ?_
      refine g_k (n := 114) t88_9 rfl rfl ?_
      refine r_cv t88_11 (f3 hF) rfl ?_
      refine c55_3 (by exact hF) hTR (by exact hD) (w := 114) (by decide) (by decide) (fun s11 fr11 hD => ?_)
      have hF := hF.fr fr11.1
      have hf := hf.tr fr11.1
      have p4 := (fr11.2 4 (Or.inr (by decide))).trans p4
      have p5 := (fr11.2 5 (Or.inr (by decide))).trans p5
      have p6 := (fr11.2 6 (Or.inr (by decide))).trans p6
      have p7 := (fr11.2 7 (Or.inr (by decide))).trans p7
      rw [e2] at hD
      refine k_v ?_ rfl
      refine b_eq t88_14 (fun h14 => ?_) (fun h14 => ?_)
      · first
          | exact absurd (m1 c1.1) h5
          | exact no_b (decide_eq_true c1.2) h14
      · refine g_p t88_17 rfl ?_
        refine g_p t88_18 rfl ?_
        refine g_k (n := 0) t88_19 rfl rfl ?_
        refine g_k (n := 5) t88_20 rfl rfl ?_
        refine r_cv t88_21 (f3 hF) rfl ?_
        refine c57_3 (by exact hF) hTR (by exact hD) (lo := 0) (hi := 5) (by decide) (by decide) (fun s21 fr21 hD => ?_)
        have hF := hF.fr fr21.1
        have hf := hf.tr fr21.1
        have p4 := (fr21.2 4 (Or.inr (by decide))).trans p4
        have p6 := (fr21.2 6 (Or.inr (by decide))).trans p6
        have p7 := (fr21.2 7 (Or.inr (by decide))).trans p7
        refine k_v ?_ rfl
        refine r_puti t88_24 (f3 hF) rfl rfl ?_
        have hf := Fr.wi (p := 3) (i := 5) (v := nI (pdv t 0 5 (pst t σ))) hf (by simp)
        refine g_goto t88_27 ?_
        exact v_ret t88_94 (hq _ hf p4 rfl p6 p7 (hD.w3 hTR (by decide)))
  · by_cases c2 : w = none ∧ psg t σ = 119
    · have e : sit t ((r, w, k), σ) = ((r, some (pdv t 0 5 (pst t σ)), k), pdg t 0 5 (pst t σ)) := by unfold sit; rw [if_neg c1, if_pos c2]
      rw [e] at hq
      have e0 : psk t 114 σ = σ := if_neg (fun h => by rw [c2.2] at h; exact absurd h (by decide))
      have e2 : psk t 119 σ = pst t σ := if_pos c2.2
      refine en88 rfl ?_
      refine g_p t88_0 rfl ?_
      refine r_gete t88_1 (f3 hF) rfl rfl p5 ?_
      refine g_p t88_4 rfl ?_
      refine g_cne t88_5 (fun h5 => ?_) (fun h5 => ?_)
      · refine g_p t88_30 rfl ?_
        refine r_gete t88_31 (f3 hF) rfl rfl p6 ?_
        refine g_p t88_34 rfl ?_
        refine g_cne t88_35 (fun h35 => ?_) (fun h35 => ?_)
        · first
            | exact absurd (m2 c2.1) h35
            | exact no_b (decide_eq_true c2.2) h44
        · refine g_p t88_38 rfl ?_
          refine g_k (n := 119) t88_39 rfl rfl ?_
          refine r_cv t88_41 (f3 hF) rfl ?_
          refine c55_3 (by exact hF) hTR (by exact hD) (w := 119) (by decide) (by decide) (fun s41 fr41 hD => ?_)
          have hF := hF.fr fr41.1
          have hf := hf.tr fr41.1
          have p4 := (fr41.2 4 (Or.inr (by decide))).trans p4
          have p5 := (fr41.2 5 (Or.inr (by decide))).trans p5
          have p6 := (fr41.2 6 (Or.inr (by decide))).trans p6
          have p7 := (fr41.2 7 (Or.inr (by decide))).trans p7
          rw [e2] at hD
          refine k_v ?_ rfl
          refine b_eq t88_44 (fun h44 => ?_) (fun h44 => ?_)
          · first
              | exact absurd (m2 c2.1) h35
              | exact no_b (decide_eq_true c2.2) h44
          · refine g_p t88_47 rfl ?_
            refine g_p t88_48 rfl ?_
            refine g_k (n := 0) t88_49 rfl rfl ?_
            refine g_k (n := 5) t88_50 rfl rfl ?_
            refine r_cv t88_51 (f3 hF) rfl ?_
            refine c57_3 (by exact hF) hTR (by exact hD) (lo := 0) (hi := 5) (by decide) (by decide) (fun s51 fr51 hD => ?_)
            have hF := hF.fr fr51.1
            have hf := hf.tr fr51.1
            have p4 := (fr51.2 4 (Or.inr (by decide))).trans p4
            have p5 := (fr51.2 5 (Or.inr (by decide))).trans p5
            have p7 := (fr51.2 7 (Or.inr (by decide))).trans p7
            refine k_v ?_ rfl
            refine r_puti t88_54 (f3 hF) rfl rfl ?_
            have hf := Fr.wi (p := 3) (i := 6) (v := nI (pdv t 0 5 (pst t σ))) hf (by simp)
            refine g_goto t88_57 ?_
            exact v_ret t88_94 (hq _ hf p4 p5 rfl p7 (hD.w3 hTR (by decide)))
      · refine g_p t88_8 rfl ?_
        refine g_k (n := 114) t88_9 rfl rfl ?_
        refine r_cv t88_11 (f3 hF) rfl ?_
        refine c55_3 (by exact hF) hTR (by exact hD) (w := 114) (by decide) (by decide) (fun s11 fr11 hD => ?_)
        have hF := hF.fr fr11.1
        have hf := hf.tr fr11.1
        have p4 := (fr11.2 4 (Or.inr (by decide))).trans p4
        have p5 := (fr11.2 5 (Or.inr (by decide))).trans p5
        have p6 := (fr11.2 6 (Or.inr (by decide))).trans p6
        have p7 := (fr11.2 7 (Or.inr (by decide))).trans p7
        rw [e0] at hD
        refine k_v ?_ rfl
        refine b_eq t88_14 (fun h14 => ?_) (fun h14 => ?_)
        · refine g_p t88_30 rfl ?_
          refine r_gete t88_31 (f3 hF) rfl rfl p6 ?_
          refine g_p t88_34 rfl ?_
          refine g_cne t88_35 (fun h35 => ?_) (fun h35 => ?_)
          · first
              | exact absurd (m2 c2.1) h35
              | exact no_b (decide_eq_true c2.2) h44
          · refine g_p t88_38 rfl ?_
            refine g_k (n := 119) t88_39 rfl rfl ?_
            refine r_cv t88_41 (f3 hF) rfl ?_
            refine c55_3 (by exact hF) hTR (by exact hD) (w := 119) (by decide) (by decide) (fun s41 fr41 hD => ?_)
            have hF := hF.fr fr41.1
            have hf := hf.tr fr41.1
            have p4 := (fr41.2 4 (Or.inr (by decide))).trans p4
            have p5 := (fr41.2 5 (Or.inr (by decide))).trans p5
            have p6 := (fr41.2 6 (Or.inr (by decide))).trans p6
            have p7 := (fr41.2 7 (Or.inr (by decide))).trans p7
            rw [e2] at hD
            refine k_v ?_ rfl
            refine b_eq t88_44 (fun h44 => ?_) (fun h44 => ?_)
            · first
                | exact absurd (m2 c2.1) h35
                | exact no_b (decide_eq_true c2.2) h44
            · refine g_p t88_47 rfl ?_
              refine g_p t88_48 rfl ?_
              refine g_k (n := 0) t88_49 rfl rfl ?_
              refine g_k (n := 5) t88_50 rfl rfl ?_
              refine r_cv t88_51 (f3 hF) rfl ?_
              refine c57_3 (by exact hF) hTR (by exact hD) (lo := 0) (hi := 5) (by decide) (by decide) (fun s51 fr51 hD => ?_)
              have hF := hF.fr fr51.1
              have hf := hf.tr fr51.1
              have p4 := (fr51.2 4 (Or.inr (by decide))).trans p4
              have p5 := (fr51.2 5 (Or.inr (by decide))).trans p5
              have p7 := (fr51.2 7 (Or.inr (by decide))).trans p7
              refine k_v ?_ rfl
              refine r_puti t88_54 (f3 hF) rfl rfl ?_
              have hf := Fr.wi (p := 3) (i := 6) (v := nI (pdv t 0 5 (pst t σ))) hf (by simp)
              refine g_goto t88_57 ?_
              exact v_ret t88_94 (hq _ hf p4 p5 rfl p7 (hD.w3 hTR (by decide)))
        · exact absurd ⟨oI_n h5 (fun x hx => by have := b1 x hx; omega), of_decide_eq_true h14⟩ c1
    · by_cases c3 : k = none ∧ psg t σ = 100
      · have e : sit t ((r, w, k), σ) = ((r, w, some (pdv t 1 5 (pst t σ))), pdg t 1 5 (pst t σ)) := by unfold sit; rw [if_neg c1, if_neg c2, if_pos c3]
        rw [e] at hq
        have e0 : psk t 114 σ = σ := if_neg (fun h => by rw [c3.2] at h; exact absurd h (by decide))
        have e1 : psk t 119 σ = σ := if_neg (fun h => by rw [c3.2] at h; exact absurd h (by decide))
        have e2 : psk t 100 σ = pst t σ := if_pos c3.2
        refine en88 rfl ?_
        refine g_p t88_0 rfl ?_
        refine r_gete t88_1 (f3 hF) rfl rfl p5 ?_
        refine g_p t88_4 rfl ?_
        refine g_cne t88_5 (fun h5 => ?_) (fun h5 => ?_)
        · refine g_p t88_30 rfl ?_
          refine r_gete t88_31 (f3 hF) rfl rfl p6 ?_
          refine g_p t88_34 rfl ?_
          refine g_cne t88_35 (fun h35 => ?_) (fun h35 => ?_)
          · refine g_p t88_60 rfl ?_
            refine r_gete t88_61 (f3 hF) rfl rfl p7 ?_
            refine g_p t88_64 rfl ?_
            refine g_cne t88_65 (fun h65 => ?_) (fun h65 => ?_)
            · first
                | exact absurd (m3 c3.1) h65
                | exact no_b (decide_eq_true c3.2) h74
            · refine g_p t88_68 rfl ?_
              refine g_k (n := 100) t88_69 rfl rfl ?_
              refine r_cv t88_71 (f3 hF) rfl ?_
              refine c55_3 (by exact hF) hTR (by exact hD) (w := 100) (by decide) (by decide) (fun s71 fr71 hD => ?_)
              have hF := hF.fr fr71.1
              have hf := hf.tr fr71.1
              have p4 := (fr71.2 4 (Or.inr (by decide))).trans p4
              have p5 := (fr71.2 5 (Or.inr (by decide))).trans p5
              have p6 := (fr71.2 6 (Or.inr (by decide))).trans p6
              have p7 := (fr71.2 7 (Or.inr (by decide))).trans p7
              rw [e2] at hD
              refine k_v ?_ rfl
              refine b_eq t88_74 (fun h74 => ?_) (fun h74 => ?_)
              · first
                  | exact absurd (m3 c3.1) h65
                  | exact no_b (decide_eq_true c3.2) h74
              · refine g_p t88_77 rfl ?_
                refine g_p t88_78 rfl ?_
                refine g_k (n := 1) t88_79 rfl rfl ?_
                refine g_k (n := 5) t88_80 rfl rfl ?_
                refine r_cv t88_81 (f3 hF) rfl ?_
                refine c57_3 (by exact hF) hTR (by exact hD) (lo := 1) (hi := 5) (by decide) (by decide) (fun s81 fr81 hD => ?_)
                have hF := hF.fr fr81.1
                have hf := hf.tr fr81.1
                have p4 := (fr81.2 4 (Or.inr (by decide))).trans p4
                have p5 := (fr81.2 5 (Or.inr (by decide))).trans p5
                have p6 := (fr81.2 6 (Or.inr (by decide))).trans p6
                refine k_v ?_ rfl
                refine r_puti t88_84 (f3 hF) rfl rfl ?_
                have hf := Fr.wi (p := 3) (i := 7) (v := nI (pdv t 1 5 (pst t σ))) hf (by simp)
                refine g_goto t88_87 ?_
                exact v_ret t88_94 (hq _ hf p4 p5 p6 rfl (hD.w3 hTR (by decide)))
          · refine g_p t88_38 rfl ?_
            refine g_k (n := 119) t88_39 rfl rfl ?_
            refine r_cv t88_41 (f3 hF) rfl ?_
            refine c55_3 (by exact hF) hTR (by exact hD) (w := 119) (by decide) (by decide) (fun s41 fr41 hD => ?_)
            have hF := hF.fr fr41.1
            have hf := hf.tr fr41.1
            have p4 := (fr41.2 4 (Or.inr (by decide))).trans p4
            have p5 := (fr41.2 5 (Or.inr (by decide))).trans p5
            have p6 := (fr41.2 6 (Or.inr (by decide))).trans p6
            have p7 := (fr41.2 7 (Or.inr (by decide))).trans p7
            rw [e1] at hD
            refine k_v ?_ rfl
            refine b_eq t88_44 (fun h44 => ?_) (fun h44 => ?_)
            · refine g_p t88_60 rfl ?_
              refine r_gete t88_61 (f3 hF) rfl rfl p7 ?_
              refine g_p t88_64 rfl ?_
              refine g_cne t88_65 (fun h65 => ?_) (fun h65 => ?_)
              · first
                  | exact absurd (m3 c3.1) h65
                  | exact no_b (decide_eq_true c3.2) h74
              · refine g_p t88_68 rfl ?_
                refine g_k (n := 100) t88_69 rfl rfl ?_
                refine r_cv t88_71 (f3 hF) rfl ?_
                refine c55_3 (by exact hF) hTR (by exact hD) (w := 100) (by decide) (by decide) (fun s71 fr71 hD => ?_)
                have hF := hF.fr fr71.1
                have hf := hf.tr fr71.1
                have p4 := (fr71.2 4 (Or.inr (by decide))).trans p4
                have p5 := (fr71.2 5 (Or.inr (by decide))).trans p5
                have p6 := (fr71.2 6 (Or.inr (by decide))).trans p6
                have p7 := (fr71.2 7 (Or.inr (by decide))).trans p7
                rw [e2] at hD
                refine k_v ?_ rfl
                refine b_eq t88_74 (fun h74 => ?_) (fun h74 => ?_)
                · first
                    | exact absurd (m3 c3.1) h65
                    | exact no_b (decide_eq_true c3.2) h74
                · refine g_p t88_77 rfl ?_
                  refine g_p t88_78 rfl ?_
                  refine g_k (n := 1) t88_79 rfl rfl ?_
                  refine g_k (n := 5) t88_80 rfl rfl ?_
                  refine r_cv t88_81 (f3 hF) rfl ?_
                  refine c57_3 (by exact hF) hTR (by exact hD) (lo := 1) (hi := 5) (by decide) (by decide) (fun s81 fr81 hD => ?_)
                  have hF := hF.fr fr81.1
                  have hf := hf.tr fr81.1
                  have p4 := (fr81.2 4 (Or.inr (by decide))).trans p4
                  have p5 := (fr81.2 5 (Or.inr (by decide))).trans p5
                  have p6 := (fr81.2 6 (Or.inr (by decide))).trans p6
                  refine k_v ?_ rfl
                  refine r_puti t88_84 (f3 hF) rfl rfl ?_
                  have hf := Fr.wi (p := 3) (i := 7) (v := nI (pdv t 1 5 (pst t σ))) hf (by simp)
                  refine g_goto t88_87 ?_
                  exact v_ret t88_94 (hq _ hf p4 p5 p6 rfl (hD.w3 hTR (by decide)))
            · exact absurd ⟨oI_n h35 (fun x hx => by have := b2 x hx; omega), of_decide_eq_true h44⟩ c2
        · refine g_p t88_8 rfl ?_
          refine g_k (n := 114) t88_9 rfl rfl ?_
          refine r_cv t88_11 (f3 hF) rfl ?_
          refine c55_3 (by exact hF) hTR (by exact hD) (w := 114) (by decide) (by decide) (fun s11 fr11 hD => ?_)
          have hF := hF.fr fr11.1
          have hf := hf.tr fr11.1
          have p4 := (fr11.2 4 (Or.inr (by decide))).trans p4
          have p5 := (fr11.2 5 (Or.inr (by decide))).trans p5
          have p6 := (fr11.2 6 (Or.inr (by decide))).trans p6
          have p7 := (fr11.2 7 (Or.inr (by decide))).trans p7
          rw [e0] at hD
          refine k_v ?_ rfl
          refine b_eq t88_14 (fun h14 => ?_) (fun h14 => ?_)
          · refine g_p t88_30 rfl ?_
            refine r_gete t88_31 (f3 hF) rfl rfl p6 ?_
            refine g_p t88_34 rfl ?_
            refine g_cne t88_35 (fun h35 => ?_) (fun h35 => ?_)
            · refine g_p t88_60 rfl ?_
              refine r_gete t88_61 (f3 hF) rfl rfl p7 ?_
              refine g_p t88_64 rfl ?_
              refine g_cne t88_65 (fun h65 => ?_) (fun h65 => ?_)
              · first
                  | exact absurd (m3 c3.1) h65
                  | exact no_b (decide_eq_true c3.2) h74
              · refine g_p t88_68 rfl ?_
                refine g_k (n := 100) t88_69 rfl rfl ?_
                refine r_cv t88_71 (f3 hF) rfl ?_
                refine c55_3 (by exact hF) hTR (by exact hD) (w := 100) (by decide) (by decide) (fun s71 fr71 hD => ?_)
                have hF := hF.fr fr71.1
                have hf := hf.tr fr71.1
                have p4 := (fr71.2 4 (Or.inr (by decide))).trans p4
                have p5 := (fr71.2 5 (Or.inr (by decide))).trans p5
                have p6 := (fr71.2 6 (Or.inr (by decide))).trans p6
                have p7 := (fr71.2 7 (Or.inr (by decide))).trans p7
                rw [e2] at hD
                refine k_v ?_ rfl
                refine b_eq t88_74 (fun h74 => ?_) (fun h74 => ?_)
                · first
                    | exact absurd (m3 c3.1) h65
                    | exact no_b (decide_eq_true c3.2) h74
                · refine g_p t88_77 rfl ?_
                  refine g_p t88_78 rfl ?_
                  refine g_k (n := 1) t88_79 rfl rfl ?_
                  refine g_k (n := 5) t88_80 rfl rfl ?_
                  refine r_cv t88_81 (f3 hF) rfl ?_
                  refine c57_3 (by exact hF) hTR (by exact hD) (lo := 1) (hi := 5) (by decide) (by decide) (fun s81 fr81 hD => ?_)
                  have hF := hF.fr fr81.1
                  have hf := hf.tr fr81.1
                  have p4 := (fr81.2 4 (Or.inr (by decide))).trans p4
                  have p5 := (fr81.2 5 (Or.inr (by decide))).trans p5
                  have p6 := (fr81.2 6 (Or.inr (by decide))).trans p6
                  refine k_v ?_ rfl
                  refine r_puti t88_84 (f3 hF) rfl rfl ?_
                  have hf := Fr.wi (p := 3) (i := 7) (v := nI (pdv t 1 5 (pst t σ))) hf (by simp)
                  refine g_goto t88_87 ?_
                  exact v_ret t88_94 (hq _ hf p4 p5 p6 rfl (hD.w3 hTR (by decide)))
            · refine g_p t88_38 rfl ?_
              refine g_k (n := 119) t88_39 rfl rfl ?_
              refine r_cv t88_41 (f3 hF) rfl ?_
              refine c55_3 (by exact hF) hTR (by exact hD) (w := 119) (by decide) (by decide) (fun s41 fr41 hD => ?_)
              have hF := hF.fr fr41.1
              have hf := hf.tr fr41.1
              have p4 := (fr41.2 4 (Or.inr (by decide))).trans p4
              have p5 := (fr41.2 5 (Or.inr (by decide))).trans p5
              have p6 := (fr41.2 6 (Or.inr (by decide))).trans p6
              have p7 := (fr41.2 7 (Or.inr (by decide))).trans p7
              rw [e1] at hD
              refine k_v ?_ rfl
              refine b_eq t88_44 (fun h44 => ?_) (fun h44 => ?_)
              · refine g_p t88_60 rfl ?_
                refine r_gete t88_61 (f3 hF) rfl rfl p7 ?_
                refine g_p t88_64 rfl ?_
                refine g_cne t88_65 (fun h65 => ?_) (fun h65 => ?_)
                · first
                    | exact absurd (m3 c3.1) h65
                    | exact no_b (decide_eq_true c3.2) h74
                · refine g_p t88_68 rfl ?_
                  refine g_k (n := 100) t88_69 rfl rfl ?_
                  refine r_cv t88_71 (f3 hF) rfl ?_
                  refine c55_3 (by exact hF) hTR (by exact hD) (w := 100) (by decide) (by decide) (fun s71 fr71 hD => ?_)
                  have hF := hF.fr fr71.1
                  have hf := hf.tr fr71.1
                  have p4 := (fr71.2 4 (Or.inr (by decide))).trans p4
                  have p5 := (fr71.2 5 (Or.inr (by decide))).trans p5
                  have p6 := (fr71.2 6 (Or.inr (by decide))).trans p6
                  have p7 := (fr71.2 7 (Or.inr (by decide))).trans p7
                  rw [e2] at hD
                  refine k_v ?_ rfl
                  refine b_eq t88_74 (fun h74 => ?_) (fun h74 => ?_)
                  · first
                      | exact absurd (m3 c3.1) h65
                      | exact no_b (decide_eq_true c3.2) h74
                  · refine g_p t88_77 rfl ?_
                    refine g_p t88_78 rfl ?_
                    refine g_k (n := 1) t88_79 rfl rfl ?_
                    refine g_k (n := 5) t88_80 rfl rfl ?_
                    refine r_cv t88_81 (f3 hF) rfl ?_
                    refine c57_3 (by exact hF) hTR (by exact hD) (lo := 1) (hi := 5) (by decide) (by decide) (fun s81 fr81 hD => ?_)
                    have hF := hF.fr fr81.1
                    have hf := hf.tr fr81.1
                    have p4 := (fr81.2 4 (Or.inr (by decide))).trans p4
                    have p5 := (fr81.2 5 (Or.inr (by decide))).trans p5
                    have p6 := (fr81.2 6 (Or.inr (by decide))).trans p6
                    refine k_v ?_ rfl
                    refine r_puti t88_84 (f3 hF) rfl rfl ?_
                    have hf := Fr.wi (p := 3) (i := 7) (v := nI (pdv t 1 5 (pst t σ))) hf (by simp)
                    refine g_goto t88_87 ?_
                    exact v_ret t88_94 (hq _ hf p4 p5 p6 rfl (hD.w3 hTR (by decide)))
              · exact absurd ⟨oI_n h35 (fun x hx => by have := b2 x hx; omega), of_decide_eq_true h44⟩ c2
          · exact absurd ⟨oI_n h5 (fun x hx => by have := b1 x hx; omega), of_decide_eq_true h14⟩ c1
      · have e : sit t ((r, w, k), σ) = ((r, w, k), pre σ) := by unfold sit; rw [if_neg c1, if_neg c2, if_neg c3]
        rw [e] at hq
        refine en88 rfl ?_
        refine g_p t88_0 rfl ?_
        refine r_gete t88_1 (f3 hF) rfl rfl p5 ?_
        refine g_p t88_4 rfl ?_
        refine g_cne t88_5 (fun h5 => ?_) (fun h5 => ?_)
        · first
            | (have u0 := h14; rw [show psk t 114 σ = σ from if_neg (of_decide_eq_false u0)] at hD)
            | skip
          refine g_p t88_30 rfl ?_
          refine r_gete t88_31 (f3 hF) rfl rfl p6 ?_
          refine g_p t88_34 rfl ?_
          refine g_cne t88_35 (fun h35 => ?_) (fun h35 => ?_)
          · first
              | (have u0 := h44; rw [show psk t 119 σ = σ from if_neg (of_decide_eq_false u0)] at hD)
              | skip
            refine g_p t88_60 rfl ?_
            refine r_gete t88_61 (f3 hF) rfl rfl p7 ?_
            refine g_p t88_64 rfl ?_
            refine g_cne t88_65 (fun h65 => ?_) (fun h65 => ?_)
            · first
                | (have u0 := h74; rw [show psk t 100 σ = σ from if_neg (of_decide_eq_false u0)] at hD)
                | skip
              refine g_p t88_90 rfl ?_
              refine r_cv t88_91 (f3 hF) rfl ?_
              refine c59r_3 (by exact hF) hTR (by exact hD)  (fun s91 fr91 hD => ?_)
              have hF := hF.fr fr91.1
              have hf := hf.tr fr91.1
              have p4 := (fr91.2 4 (Or.inr (by decide))).trans p4
              have p5 := (fr91.2 5 (Or.inr (by decide))).trans p5
              have p6 := (fr91.2 6 (Or.inr (by decide))).trans p6
              have p7 := (fr91.2 7 (Or.inr (by decide))).trans p7
              refine k_0 ?_
              exact v_ret t88_94 (hq _ hf p4 p5 p6 p7 hD)
            · refine g_p t88_68 rfl ?_
              refine g_k (n := 100) t88_69 rfl rfl ?_
              refine r_cv t88_71 (f3 hF) rfl ?_
              refine c55_3 (by exact hF) hTR (by exact hD) (w := 100) (by decide) (by decide) (fun s71 fr71 hD => ?_)
              have hF := hF.fr fr71.1
              have hf := hf.tr fr71.1
              have p4 := (fr71.2 4 (Or.inr (by decide))).trans p4
              have p5 := (fr71.2 5 (Or.inr (by decide))).trans p5
              have p6 := (fr71.2 6 (Or.inr (by decide))).trans p6
              have p7 := (fr71.2 7 (Or.inr (by decide))).trans p7
              refine k_v ?_ rfl
              refine b_eq t88_74 (fun h74 => ?_) (fun h74 => ?_)
              · first
                  | (have u0 := h74; rw [show psk t 100 σ = σ from if_neg (of_decide_eq_false u0)] at hD)
                  | skip
                refine g_p t88_90 rfl ?_
                refine r_cv t88_91 (f3 hF) rfl ?_
                refine c59r_3 (by exact hF) hTR (by exact hD)  (fun s91 fr91 hD => ?_)
                have hF := hF.fr fr91.1
                have hf := hf.tr fr91.1
                have p4 := (fr91.2 4 (Or.inr (by decide))).trans p4
                have p5 := (fr91.2 5 (Or.inr (by decide))).trans p5
                have p6 := (fr91.2 6 (Or.inr (by decide))).trans p6
                have p7 := (fr91.2 7 (Or.inr (by decide))).trans p7
                refine k_0 ?_
                exact v_ret t88_94 (hq _ hf p4 p5 p6 p7 hD)
              · exact absurd ⟨oI_n h65 (fun x hx => by have := (b3 x hx).2; omega), of_decide_eq_true h74⟩ c3
          · refine g_p t88_38 rfl ?_
            refine g_k (n := 119) t88_39 rfl rfl ?_
            refine r_cv t88_41 (f3 hF) rfl ?_
            refine c55_3 (by exact hF) hTR (by exact hD) (w := 119) (by decide) (by decide) (fun s41 fr41 hD => ?_)
            have hF := hF.fr fr41.1
            have hf := hf.tr fr41.1
            have p4 := (fr41.2 4 (Or.inr (by decide))).trans p4
            have p5 := (fr41.2 5 (Or.inr (by decide))).trans p5
            have p6 := (fr41.2 6 (Or.inr (by decide))).trans p6
            have p7 := (fr41.2 7 (Or.inr (by decide))).trans p7
            refine k_v ?_ rfl
            refine b_eq t88_44 (fun h44 => ?_) (fun h44 => ?_)
            · first
                | (have u0 := h44; rw [show psk t 119 σ = σ from if_neg (of_decide_eq_false u0)] at hD)
                | skip
              refine g_p t88_60 rfl ?_
              refine r_gete t88_61 (f3 hF) rfl rfl p7 ?_
              refine g_p t88_64 rfl ?_
              refine g_cne t88_65 (fun h65 => ?_) (fun h65 => ?_)
              · first
                  | (have u0 := h74; rw [show psk t 100 σ = σ from if_neg (of_decide_eq_false u0)] at hD)
                  | skip
                refine g_p t88_90 rfl ?_
                refine r_cv t88_91 (f3 hF) rfl ?_
                refine c59r_3 (by exact hF) hTR (by exact hD)  (fun s91 fr91 hD => ?_)
                have hF := hF.fr fr91.1
                have hf := hf.tr fr91.1
                have p4 := (fr91.2 4 (Or.inr (by decide))).trans p4
                have p5 := (fr91.2 5 (Or.inr (by decide))).trans p5
                have p6 := (fr91.2 6 (Or.inr (by decide))).trans p6
                have p7 := (fr91.2 7 (Or.inr (by decide))).trans p7
                refine k_0 ?_
                exact v_ret t88_94 (hq _ hf p4 p5 p6 p7 hD)
              · refine g_p t88_68 rfl ?_
                refine g_k (n := 100) t88_69 rfl rfl ?_
                refine r_cv t88_71 (f3 hF) rfl ?_
                refine c55_3 (by exact hF) hTR (by exact hD) (w := 100) (by decide) (by decide) (fun s71 fr71 hD => ?_)
                have hF := hF.fr fr71.1
                have hf := hf.tr fr71.1
                have p4 := (fr71.2 4 (Or.inr (by decide))).trans p4
                have p5 := (fr71.2 5 (Or.inr (by decide))).trans p5
                have p6 := (fr71.2 6 (Or.inr (by decide))).trans p6
                have p7 := (fr71.2 7 (Or.inr (by decide))).trans p7
                refine k_v ?_ rfl
                refine b_eq t88_74 (fun h74 => ?_) (fun h74 => ?_)
                · first
                    | (have u0 := h74; rw [show psk t 100 σ = σ from if_neg (of_decide_eq_false u0)] at hD)
                    | skip
                  refine g_p t88_90 rfl ?_
                  refine r_cv t88_91 (f3 hF) rfl ?_
                  refine c59r_3 (by exact hF) hTR (by exact hD)  (fun s91 fr91 hD => ?_)
                  have hF := hF.fr fr91.1
                  have hf := hf.tr fr91.1
                  have p4 := (fr91.2 4 (Or.inr (by decide))).trans p4
                  have p5 := (fr91.2 5 (Or.inr (by decide))).trans p5
                  have p6 := (fr91.2 6 (Or.inr (by decide))).trans p6
                  have p7 := (fr91.2 7 (Or.inr (by decide))).trans p7
                  refine k_0 ?_
                  exact v_ret t88_94 (hq _ hf p4 p5 p6 p7 hD)
                · exact absurd ⟨oI_n h65 (fun x hx => by have := (b3 x hx).2; omega), of_decide_eq_true h74⟩ c3
            · exact absurd ⟨oI_n h35 (fun x hx => by have := b2 x hx; omega), of_decide_eq_true h44⟩ c2
        · refine g_p t88_8 rfl ?_
          refine g_k (n := 114) t88_9 rfl rfl ?_
          refine r_cv t88_11 (f3 hF) rfl ?_
          refine c55_3 (by exact hF) hTR (by exact hD) (w := 114) (by decide) (by decide) (fun s11 fr11 hD => ?_)
          have hF := hF.fr fr11.1
          have hf := hf.tr fr11.1
          have p4 := (fr11.2 4 (Or.inr (by decide))).trans p4
          have p5 := (fr11.2 5 (Or.inr (by decide))).trans p5
          have p6 := (fr11.2 6 (Or.inr (by decide))).trans p6
          have p7 := (fr11.2 7 (Or.inr (by decide))).trans p7
          refine k_v ?_ rfl
          refine b_eq t88_14 (fun h14 => ?_) (fun h14 => ?_)
          · first
              | (have u0 := h14; rw [show psk t 114 σ = σ from if_neg (of_decide_eq_false u0)] at hD)
              | skip
            refine g_p t88_30 rfl ?_
            refine r_gete t88_31 (f3 hF) rfl rfl p6 ?_
            refine g_p t88_34 rfl ?_
            refine g_cne t88_35 (fun h35 => ?_) (fun h35 => ?_)
            · first
                | (have u0 := h44; rw [show psk t 119 σ = σ from if_neg (of_decide_eq_false u0)] at hD)
                | skip
              refine g_p t88_60 rfl ?_
              refine r_gete t88_61 (f3 hF) rfl rfl p7 ?_
              refine g_p t88_64 rfl ?_
              refine g_cne t88_65 (fun h65 => ?_) (fun h65 => ?_)
              · first
                  | (have u0 := h74; rw [show psk t 100 σ = σ from if_neg (of_decide_eq_false u0)] at hD)
                  | skip
                refine g_p t88_90 rfl ?_
                refine r_cv t88_91 (f3 hF) rfl ?_
                refine c59r_3 (by exact hF) hTR (by exact hD)  (fun s91 fr91 hD => ?_)
                have hF := hF.fr fr91.1
                have hf := hf.tr fr91.1
                have p4 := (fr91.2 4 (Or.inr (by decide))).trans p4
                have p5 := (fr91.2 5 (Or.inr (by decide))).trans p5
                have p6 := (fr91.2 6 (Or.inr (by decide))).trans p6
                have p7 := (fr91.2 7 (Or.inr (by decide))).trans p7
                refine k_0 ?_
                exact v_ret t88_94 (hq _ hf p4 p5 p6 p7 hD)
              · refine g_p t88_68 rfl ?_
                refine g_k (n := 100) t88_69 rfl rfl ?_
                refine r_cv t88_71 (f3 hF) rfl ?_
                refine c55_3 (by exact hF) hTR (by exact hD) (w := 100) (by decide) (by decide) (fun s71 fr71 hD => ?_)
                have hF := hF.fr fr71.1
                have hf := hf.tr fr71.1
                have p4 := (fr71.2 4 (Or.inr (by decide))).trans p4
                have p5 := (fr71.2 5 (Or.inr (by decide))).trans p5
                have p6 := (fr71.2 6 (Or.inr (by decide))).trans p6
                have p7 := (fr71.2 7 (Or.inr (by decide))).trans p7
                refine k_v ?_ rfl
                refine b_eq t88_74 (fun h74 => ?_) (fun h74 => ?_)
                · first
                    | (have u0 := h74; rw [show psk t 100 σ = σ from if_neg (of_decide_eq_false u0)] at hD)
                    | skip
                  refine g_p t88_90 rfl ?_
                  refine r_cv t88_91 (f3 hF) rfl ?_
                  refine c59r_3 (by exact hF) hTR (by exact hD)  (fun s91 fr91 hD => ?_)
                  have hF := hF.fr fr91.1
                  have hf := hf.tr fr91.1
                  have p4 := (fr91.2 4 (Or.inr (by decide))).trans p4
                  have p5 := (fr91.2 5 (Or.inr (by decide))).trans p5
                  have p6 := (fr91.2 6 (Or.inr (by decide))).trans p6
                  have p7 := (fr91.2 7 (Or.inr (by decide))).trans p7
                  refine k_0 ?_
                  exact v_ret t88_94 (hq _ hf p4 p5 p6 p7 hD)
                · exact absurd ⟨oI_n h65 (fun x hx => by have := (b3 x hx).2; omega), of_decide_eq_true h74⟩ c3
            · refine g_p t88_38 rfl ?_
              refine g_k (n := 119) t88_39 rfl rfl ?_
              refine r_cv t88_41 (f3 hF) rfl ?_
              refine c55_3 (by exact hF) hTR (by exact hD) (w := 119) (by decide) (by decide) (fun s41 fr41 hD => ?_)
              have hF := hF.fr fr41.1
              have hf := hf.tr fr41.1
              have p4 := (fr41.2 4 (Or.inr (by decide))).trans p4
              have p5 := (fr41.2 5 (Or.inr (by decide))).trans p5
              have p6 := (fr41.2 6 (Or.inr (by decide))).trans p6
              have p7 := (fr41.2 7 (Or.inr (by decide))).trans p7
              refine k_v ?_ rfl
              refine b_eq t88_44 (fun h44 => ?_) (fun h44 => ?_)
              · first
                  | (have u0 := h44; rw [show psk t 119 σ = σ from if_neg (of_decide_eq_false u0)] at hD)
                  | skip
                refine g_p t88_60 rfl ?_
                refine r_gete t88_61 (f3 hF) rfl rfl p7 ?_
                refine g_p t88_64 rfl ?_
                refine g_cne t88_65 (fun h65 => ?_) (fun h65 => ?_)
                · first
                    | (have u0 := h74; rw [show psk t 100 σ = σ from if_neg (of_decide_eq_false u0)] at hD)
                    | skip
                  refine g_p t88_90 rfl ?_
                  refine r_cv t88_91 (f3 hF) rfl ?_
                  refine c59r_3 (by exact hF) hTR (by exact hD)  (fun s91 fr91 hD => ?_)
                  have hF := hF.fr fr91.1
                  have hf := hf.tr fr91.1
                  have p4 := (fr91.2 4 (Or.inr (by decide))).trans p4
                  have p5 := (fr91.2 5 (Or.inr (by decide))).trans p5
                  have p6 := (fr91.2 6 (Or.inr (by decide))).trans p6
                  have p7 := (fr91.2 7 (Or.inr (by decide))).trans p7
                  refine k_0 ?_
                  exact v_ret t88_94 (hq _ hf p4 p5 p6 p7 hD)
                · refine g_p t88_68 rfl ?_
                  refine g_k (n := 100) t88_69 rfl rfl ?_
                  refine r_cv t88_71 (f3 hF) rfl ?_
                  refine c55_3 (by exact hF) hTR (by exact hD) (w := 100) (by decide) (by decide) (fun s71 fr71 hD => ?_)
                  have hF := hF.fr fr71.1
                  have hf := hf.tr fr71.1
                  have p4 := (fr71.2 4 (Or.inr (by decide))).trans p4
                  have p5 := (fr71.2 5 (Or.inr (by decide))).trans p5
                  have p6 := (fr71.2 6 (Or.inr (by decide))).trans p6
                  have p7 := (fr71.2 7 (Or.inr (by decide))).trans p7
                  refine k_v ?_ rfl
                  refine b_eq t88_74 (fun h74 => ?_) (fun h74 => ?_)
                  · first
                      | (have u0 := h74; rw [show psk t 100 σ = σ from if_neg (of_decide_eq_false u0)] at hD)
                      | skip
                    refine g_p t88_90 rfl ?_
                    refine r_cv t88_91 (f3 hF) rfl ?_
                    refine c59r_3 (by exact hF) hTR (by exact hD)  (fun s91 fr91 hD => ?_)
                    have hF := hF.fr fr91.1
                    have hf := hf.tr fr91.1
                    have p4 := (fr91.2 4 (Or.inr (by decide))).trans p4
                    have p5 := (fr91.2 5 (Or.inr (by decide))).trans p5
                    have p6 := (fr91.2 6 (Or.inr (by decide))).trans p6
                    have p7 := (fr91.2 7 (Or.inr (by decide))).trans p7
                    refine k_0 ?_
                    exact v_ret t88_94 (hq _ hf p4 p5 p6 p7 hD)
                  · exact absurd ⟨oI_n h65 (fun x hx => by have := (b3 x hx).2; omega), of_decide_eq_true h74⟩ c3
              · exact absurd ⟨oI_n h35 (fun x hx => by have := b2 x hx; omega), of_decide_eq_true h44⟩ c2
          · exact absurd ⟨oI_n h5 (fun x hx => by have := b1 x hx; omega), of_decide_eq_true h14⟩ c1
theorem c87 (hF : Fx s) (hTR : T ≠ 3 ∧ T + 1 ≠ 3) (hX : TX T n t s) (hq : ∀ s', Fr [3] s s' → ri s' 3 4 = nI (pdv t 2 5 (sl0 t)) → ri s' 3 5 = oI (sle t).1.1 → ri s' 3 6 = oI (sle t).1.2.1 → ri s' 3 7 = oI (sle t).1.2.2 → bd5 (sle t).1 → Q (some (.int (pfv (pfi t (sle t).2)))) (mR s')) : gE X (d + 3) 87 [.ref 3, .ref T] (mR s) Q := by
  have K : ∀ j i : Nat, i + j = 3 → ∀ r w k σ s', sle t = sil t j ((r, w, k), σ) → bd5 (r, w, k) → Fx s' → Fr [3] s s' → ri s' 3 4 = nI (pdv t 2 5 (sl0 t)) → ri s' 3 5 = oI r → ri s' 3 6 = oI w → ri s' 3 7 = oI k → RD 3 T n t σ s' → gG X (d + 3) 87 38 [.ref 3, .ref T, .int (nI i)] [] (mR s') Q := by
    intro j
    induction j with
    | zero =>
      intro i hj r w k σ s' he hb hF hf p4 p5 p6 p7 hD
      have he : sle t = ((r, w, k), σ) := he
      rw [he] at hq
      refine g_p t87_38 rfl ?_
      refine g_k (n := 3) t87_39 rfl rfl ?_
      refine n_cge t87_40 (by omega) (by omega) (fun h40 => ?_) (fun h40 => ?_)
      · refine g_p t87_60 rfl ?_
        refine r_cv t87_61 (f3 hF) rfl ?_
        refine c60_3 (by exact hF) hTR (by exact hD)  (fun s61 fr61 hD => ?_)
        have hF := hF.fr fr61.1
        have hf := hf.tr fr61.1
        have p4 := (fr61.2 4 (Or.inr (by decide))).trans p4
        have p5 := (fr61.2 5 (Or.inr (by decide))).trans p5
        have p6 := (fr61.2 6 (Or.inr (by decide))).trans p6
        have p7 := (fr61.2 7 (Or.inr (by decide))).trans p7
        refine k_v ?_ rfl
        exact i_ret t87_64 rfl (hq s61 hf p4 p5 p6 p7 hb)
      · exfalso; omega
    | succ j ih =>
      intro i hj r w k σ s' he hb hF hf p4 p5 p6 p7 hD
      have hlt := psg_lt hD.1 σ
      unfold sil at he
      by_cases hz : psg t σ = 0
      · rw [if_pos hz] at he
        rw [he] at hq
        refine g_p t87_38 rfl ?_
        refine g_k (n := 3) t87_39 rfl rfl ?_
        refine n_cge t87_40 (by omega) (by omega) (fun h40 => ?_) (fun h40 => ?_)
        · refine g_p t87_60 rfl ?_
          refine r_cv t87_61 (f3 hF) rfl ?_
          refine c60_3 (by exact hF) hTR (by exact hD)  (fun s61 fr61 hD => ?_)
          have hF := hF.fr fr61.1
          have hf := hf.tr fr61.1
          have p4 := (fr61.2 4 (Or.inr (by decide))).trans p4
          have p5 := (fr61.2 5 (Or.inr (by decide))).trans p5
          have p6 := (fr61.2 6 (Or.inr (by decide))).trans p6
          have p7 := (fr61.2 7 (Or.inr (by decide))).trans p7
          refine k_v ?_ rfl
          first
            | (exfalso; omega)
            | exact i_ret t87_64 rfl (hq s61 hf p4 p5 p6 p7 hb)
        · refine g_p t87_43 rfl ?_
          refine r_cv t87_44 (f3 hF) rfl ?_
          refine c52_3 (by exact hF) (by exact hD.2.2) ?_
          refine k_v ?_ rfl
          refine n_eq t87_47 (by omega) (fun h47 => ?_) (fun h47 => ?_)
          · refine g_p t87_60 rfl ?_
            refine r_cv t87_61 (f3 hF) rfl ?_
            refine c60_3 (by exact hF) hTR (by exact hD)  (fun s61 fr61 hD => ?_)
            have hF := hF.fr fr61.1
            have hf := hf.tr fr61.1
            have p4 := (fr61.2 4 (Or.inr (by decide))).trans p4
            have p5 := (fr61.2 5 (Or.inr (by decide))).trans p5
            have p6 := (fr61.2 6 (Or.inr (by decide))).trans p6
            have p7 := (fr61.2 7 (Or.inr (by decide))).trans p7
            refine k_v ?_ rfl
            first
              | (exfalso; omega)
              | exact i_ret t87_64 rfl (hq s61 hf p4 p5 p6 p7 hb)
          · exact absurd hz h47
      · rw [if_neg hz] at he
        refine g_p t87_38 rfl ?_
        refine g_k (n := 3) t87_39 rfl rfl ?_
        refine n_cge t87_40 (by omega) (by omega) (fun h40 => ?_) (fun h40 => ?_)
        · first
            | (exfalso; omega)
            | exact absurd h47 hz
        · refine g_p t87_43 rfl ?_
          refine r_cv t87_44 (f3 hF) rfl ?_
          refine c52_3 (by exact hF) (by exact hD.2.2) ?_
          refine k_v ?_ rfl
          refine n_eq t87_47 (by omega) (fun h47 => ?_) (fun h47 => ?_)
          · first
              | (exfalso; omega)
              | exact absurd h47 hz
          · refine g_p t87_50 rfl ?_
            refine r_cv t87_51 (f3 hF) rfl ?_
            refine c88 (by exact hF) hTR (by exact hD) hb p5 p6 p7 (fun s51 fr51 q4 q5 q6 q7 hD => ?_)
            refine k_0 ?_
            refine g_incn (n := 1) t87_54 rfl rfl (Nat.le_of_ble_eq_true rfl) (am_s1_2 rfl) ?_
            refine g_goto t87_57 ?_
            have hb2 := sit_bd (t := t) (x := ((r, w, k), σ)) hb
            exact ih (i + 1) (by omega) _ _ _ _ s51 he hb2 (hF.fr fr51) (hf.tr fr51) (q4.trans p4) q5 q6 q7 hD
  refine en87 rfl rfl ?_
  refine g_p t87_0 rfl ?_
  refine g_p t87_1 rfl ?_
  refine r_cv t87_2 (f3 hF) rfl ?_
  refine c51_3 (by exact hF) hTR hX (fun s2 fr2 o2 hD => ?_)
  have hF := hF.fr fr2
  have hf : Fr [3] s s2 := fr2
  refine k_0 ?_
  refine g_p t87_5 rfl ?_
  refine g_k (n := 110) t87_6 rfl rfl ?_
  refine r_cv t87_8 (f3 hF) rfl ?_
  refine c56_3 (by exact hF) hTR (by exact hD) (w := 110) (by decide) (by decide) (fun s8 fr8 hD => ?_)
  have hF := hF.fr fr8.1
  have hf := hf.tr fr8.1
  refine k_0 ?_
  refine g_p t87_11 rfl ?_
  refine g_p t87_12 rfl ?_
  refine g_k (n := 2) t87_13 rfl rfl ?_
  refine g_k (n := 5) t87_14 rfl rfl ?_
  refine r_cv t87_15 (f3 hF) rfl ?_
  refine c57_3 (by exact hF) hTR (by exact hD) (lo := 2) (hi := 5) (by decide) (by decide) (fun s15 fr15 hD => ?_)
  have hF := hF.fr fr15.1
  have hf := hf.tr fr15.1
  refine k_v ?_ rfl
  refine r_puti t87_18 (f3 hF) rfl rfl ?_
  refine g_p t87_21 rfl ?_
  refine g_p t87_22 rfl ?_
  refine r_puti t87_23 (f3 hF) rfl rfl ?_
  refine g_p t87_26 rfl ?_
  refine g_p t87_27 rfl ?_
  refine r_puti t87_28 (f3 hF) rfl rfl ?_
  refine g_p t87_31 rfl ?_
  refine g_p t87_32 rfl ?_
  refine r_puti t87_33 (f3 hF) rfl rfl ?_
  refine g_k (n := 0) t87_36 rfl rfl ?_
  refine g_isn t87_37 (Nat.le_of_ble_eq_true rfl) (am_s1_2 rfl) ?_
  exact K 3 0 rfl none none none (pdg t 2 5 (sl0 t)) (wi (wi (wi (wi s15 3 4 (nI (pdv t 2 5 (sl0 t)))) 3 5 (-1)) 3 6 (-1)) 3 7 (-1)) rfl bd5_0 hF ((((hf.wi (by simp)).wi (by simp)).wi (by simp)).wi (by simp)) rfl rfl rfl rfl ((((hD.w3 hTR (by decide)).w3 hTR (by decide)).w3 hTR (by decide)).w3 hTR (by decide))
end TN
