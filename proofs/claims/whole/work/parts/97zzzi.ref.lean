/-! THE REFERENCE, 26: sills read -/
abbrev O3 : Type := Option Nat × Option Nat × Option Nat
def tb (o : O3) : Nat := one o.2.2.isSome + 2 * one o.1.isSome + 4 * one o.2.1.isSome
theorem one_b (b : Bool) : one b = if b = true then 1 else 0 := by cases b <;> rfl
theorem tb_lt (o : O3) : tb o < 32 := by
  have h1 := one_le o.2.2.isSome
  have h2 := one_le o.1.isSome
  have h3 := one_le o.2.1.isSome
  unfold tb
  omega
theorem tb_t (o : O3) : (tb o).testBit 1 = o.1.isSome ∧ (tb o).testBit 2 = o.2.1.isSome ∧ (tb o).testBit 0 = o.2.2.isSome := by
  unfold tb
  cases o.1.isSome <;> cases o.2.1.isSome <;> cases o.2.2.isSome <;> decide
theorem tb_r {o : O3} {v : Nat} (h : o.1.isSome = false) : tb o ||| 2 ^ 1 = tb (some v, o.2) := by
  unfold tb
  show _ = one o.2.2.isSome + 2 * one true + 4 * one o.2.1.isSome
  rw [h]
  cases o.2.1.isSome <;> cases o.2.2.isSome <;> decide
theorem tb_w {o : O3} {v : Nat} (h : o.2.1.isSome = false) : tb o ||| 2 ^ 2 = tb (o.1, some v, o.2.2) := by
  unfold tb
  show _ = one o.2.2.isSome + 2 * one o.1.isSome + 4 * one true
  rw [h]
  cases o.1.isSome <;> cases o.2.2.isSome <;> decide
theorem tb_d {o : O3} {v : Nat} (h : o.2.2.isSome = false) : tb o ||| 2 ^ 0 = tb (o.1, o.2.1, some v) := by
  unfold tb
  show _ = one true + 2 * one o.1.isSome + 4 * one o.2.1.isSome
  rw [h]
  cases o.1.isSome <;> cases o.2.1.isSome <;> decide
def so3 (o : O3) : Nat := one o.1.isSome + one o.2.1.isSome + one o.2.2.isSome
theorem sil_r {t : List Nat} {o : O3} {q : Nat} : ∀ n, sil t n (o, .inr q) = (o, .inr q) := by
  intro n
  cases n with
  | zero => rfl
  | succ n => unfold sil; rw [if_pos (show psg t (Sum.inr q) = 0 from rfl)]
/-- what is held of a sill read so far -/
def SV (o : O3) (s : mM) : Prop := ri s 86 1 = nI (o.1.getD 2) ∧ ri s 86 2 = nI (o.2.1.getD 2) ∧ ri s 80 23 = nI (o.2.2.getD 2)
theorem SV.fm {A B : List Nat} {o : O3} {s s' : mM} (h : SV o s) (f : FM A B s s') (h1 : 23 ∉ B) (h2 : 86 ∉ 80 :: A) : SV o s' := ⟨(f.g h2).trans h.1, (f.g h2).trans h.2.1, (f.f h1).trans h.2.2⟩
abbrev sB : List Nat := [5, 8, 9, 10, 11, 22, 23]
theorem Dd.ri {t : List Nat} {σ : Ps} {s : mM} {f : Nat} (h : Dd t σ s) (e : σ = .inr f) : MS t (.inr f) s := by
  obtain ⟨g, h1, h2 | ⟨h2, -⟩⟩ := h
  · rw [e] at h2; cases h2; exact h1
  · rw [e] at h2; cases h2
section RI2
variable {X : am_X} {d : Nat} {s : mM} {hp : am_H} {Q : Option Value → am_H → Prop} {k n w : Nat} {t l : List Nat}
theorem c201 (hF : Fx s) (hT : MTp t s) (h120 : t.length ≤ 120) (hb : isB t) (hq : ∀ s', FM [86] sB s s' → ri s' 80 11 = pfv (pfi t (sle t).2) → ((∃ p, pfi t (sle t).2 = .inl p) → ri s' 80 22 = nI (pdv t 2 5 (sl0 t)) ∧ SV (sle t).1 s') → Q none (mR s')) : gE X (d + 4) 201 [.ref 80] (mR s) Q := by
  have e6 := hT.1
  obtain ⟨Z, hZ⟩ : ∃ Z, Z = sle t := ⟨_, rfl⟩
  rw [← hZ] at hq
  have RED : ∀ (s' : mM) (q : Nat), FM [86] sB s s' → Z.2 = .inr q → MS t (.inr q) s' → Q none (mR s') := fun s' q hf he hM => hq s' hf (by rw [he]; exact hM.1) (fun h => by
    obtain ⟨p, hp⟩ := h
    rw [he] at hp
    exact absurd hp (by simp [pfi, psg]))
  have RED2 : ∀ (s' : mM) (q : Nat), FM [86] sB s s' → Z.2 = .inl q → ¬ sgn t q = 0 → MS t (.inr q) s' → Q none (mR s') := fun s' q hf he hn hM => by
    have e1 : pfi t Z.2 = .inr q := by rw [he]; exact if_neg hn
    exact hq s' hf (by rw [e1]; exact hM.1) (fun h => by
      obtain ⟨p, hp⟩ := h
      rw [e1] at hp
      exact absurd hp (by simp))
  have END : ∀ (o : O3) (j : Nat) (s' : mM) z1 z2 z3 z4, Fx s' → MT 81 120 0 t s' → FM [86] sB s s' → MJ t j s' → skp t j = j → Z = (o, .inl j) → SV o s' → ri s' 80 22 = nI (pdv t 2 5 (sl0 t)) → gG X (d + 4) 201 195 [.ref 80, z1, z2, z3, z4] [] (mR s') Q := by
    intro o j s' z1 z2 z3 z4 hF hX hf hJ hsp he hv e22
    have hS := hJ.m2 hsp
    have h11 := hJ.1
    have hsg := hX.sg j
    refine g_p t201_195 rfl ?_
    refine r_gete t201_196 (f80 hF) rfl rfl h11 ?_
    refine g_p t201_199 rfl ?_
    refine g_cne t201_200 (fun h200 => ?_) (fun h200 => ?_)
    · first
        | (have u0 : ¬ (-1 : Int32) = -1 := h200
           exact absurd rfl u0)
        | (have u0 : lk (sgn t j) = -1 := h208
           have u1 : sgn t j = 0 := (lk_m hsg).mp u0
           have e1 : pfi t Z.2 = .inl j := by rw [he]; exact if_pos u1
           refine v_ret t201_216 (hq _ hf (by rw [e1]; exact h11) (fun _ => ⟨e22, ?_⟩))
           rw [he]; exact hv)
        | (have u0 : ¬ lk (sgn t j) = -1 := h208
           exact v_ret t201_216 (RED2 _ j (hf.tr (f2.mono (by decide) (by decide))) (by rw [he]) (fun e => u0 ((lk_m hsg).mpr e)) hE))
    · refine g_p t201_203 rfl ?_
      refine r_cv t201_204 (f80 hF) rfl ?_
      refine c183 (by exact hF) (by exact hX) (by exact hS) (fun s204 f204 hJ => ?_)
      have hS := hJ.m2 hsp
      have e10 := hJ.2.2
      have h11 := hJ.1
      refine k_v ?_ rfl
      have hF := Fx.fr (by exact hF) f204.1
      have hX := MT.fm (by exact hX) f204 (by decide) (by decide) (by decide) (by decide) (by decide)
      have hf := hf.tr (f204.mono (by decide) (by decide))
      have hv := hv.fm f204 (by decide) (by decide)
      have e22 := (f204.f (i := 22) (by decide)).trans e22
      refine g_p t201_207 rfl ?_
      refine g_ceq t201_208 (fun h208 => ?_) (fun h208 => ?_)
      · first
          | (have u0 : ¬ (-1 : Int32) = -1 := h200
             exact absurd rfl u0)
          | (have u0 : lk (sgn t j) = -1 := h208
             have u1 : sgn t j = 0 := (lk_m hsg).mp u0
             have e1 : pfi t Z.2 = .inl j := by rw [he]; exact if_pos u1
             refine v_ret t201_216 (hq _ hf (by rw [e1]; exact h11) (fun _ => ⟨e22, ?_⟩))
             rw [he]; exact hv)
          | (have u0 : ¬ lk (sgn t j) = -1 := h208
             exact v_ret t201_216 (RED2 _ j (hf.tr (f2.mono (by decide) (by decide))) (by rw [he]) (fun e => u0 ((lk_m hsg).mpr e)) hE))
      · refine g_p t201_211 rfl ?_
        refine r_cv t201_212 (f80 hF) rfl ?_
        refine c184 (by exact hF) hJ (fun s2 f2 hE => ?_)
        refine k_v ?_ rfl
        refine g_p t201_215 rfl ?_
        first
          | (have u0 : ¬ (-1 : Int32) = -1 := h200
             exact absurd rfl u0)
          | (have u0 : lk (sgn t j) = -1 := h208
             have u1 : sgn t j = 0 := (lk_m hsg).mp u0
             have e1 : pfi t Z.2 = .inl j := by rw [he]; exact if_pos u1
             refine v_ret t201_216 (hq _ hf (by rw [e1]; exact h11) (fun _ => ⟨e22, ?_⟩))
             rw [he]; exact hv)
          | (have u0 : ¬ lk (sgn t j) = -1 := h208
             exact v_ret t201_216 (RED2 _ j (hf.tr (f2.mono (by decide) (by decide))) (by rw [he]) (fun e => u0 ((lk_m hsg).mpr e)) hE))
  have K : ∀ n (o : O3) (j : Nat) (s' : mM) z3 z4, am_nl z3 = true → so3 o + n = 3 → Z = sil t n (o, .inl j) → Fx s' → MT 81 120 0 t s' → FM [86] sB s s' → MJ t j s' → skp t j = j → SV o s' → ri s' 80 22 = nI (pdv t 2 5 (sl0 t)) → gG X (d + 4) 201 71 [.ref 80, .int (nI (tb o)), .int (lk (sgn t j)), z3, z4] [] (mR s') Q := by
    intro n
    induction n with
    | zero =>
      intro o j s' z3 z4 n3 hn he hF hX hf hJ hsp hv e22
      have he : Z = (o, .inl j) := he
      have hsg := hX.sg j
      have o1 := one_le o.1.isSome
      have o2 := one_le o.2.1.isSome
      have o3 := one_le o.2.2.isSome
      have hn : one o.1.isSome + one o.2.1.isSome + one o.2.2.isSome + 0 = 3 := hn
      have sr : o.1.isSome = true := by
        cases h : o.1.isSome with
        | true => rfl
        | false => rw [h] at hn; have : one false = 0 := rfl; omega
      have sw : o.2.1.isSome = true := by
        cases h : o.2.1.isSome with
        | true => rfl
        | false => rw [h] at hn; have : one false = 0 := rfl; omega
      have sd : o.2.2.isSome = true := by
        cases h : o.2.2.isSome with
        | true => rfl
        | false => rw [h] at hn; have : one false = 0 := rfl; omega
      by_cases cr : sgn t j = 114
      · have hc := cr
        have hJl : lk (sgn t j) = nI 114 := by rw [hc]; rfl
        rw [hJl]
        refine g_p t201_71 rfl ?_
        refine g_k (n := 114) t201_72 rfl rfl ?_
        refine n_ceq t201_74 (by omega) (by omega) (fun h74 => ?_) (fun h74 => ?_)
        · refine g_p t201_89 rfl ?_
          refine g_k (n := 114) t201_90 rfl rfl ?_
          refine n_cne t201_92 (by omega) (by omega) (fun h92 => ?_) (fun h92 => ?_)
          · exact absurd rfl h92
          · refine g_k (n := 1) t201_95 rfl rfl ?_
            refine g_goto t201_96 ?_
            refine g_isn t201_110 (Nat.le_of_ble_eq_true rfl) (am_s1_3 rfl) ?_
            refine g_p t201_111 rfl ?_
            refine g_p t201_112 rfl ?_
            refine g_cs t201_113 rfl rfl rfl ?_
            refine c177 (tb_lt o) (by decide) ?_
            rw [(tb_t o).1, sr]
            refine k_v ?_ rfl
            refine b_eq t201_116 (fun h116 => ?_) (fun h116 => ?_)
            · exact no_b rfl h116
            · refine g_p t201_119 rfl ?_
              refine r_cv t201_120 (f80 hF) rfl ?_
              refine c184 (by exact hF) hJ (fun s2 f2 hE => ?_)
              refine k_v ?_ rfl
              refine g_p t201_123 rfl ?_
              exact v_ret t201_124 (RED2 _ j (hf.tr (f2.mono (by decide) (by decide))) (by rw [he]) (by omega) hE)
        · exact absurd rfl h74
      by_cases cw : sgn t j = 119
      · have hc := cw
        have hJl : lk (sgn t j) = nI 119 := by rw [hc]; rfl
        rw [hJl]
        refine g_p t201_71 rfl ?_
        refine g_k (n := 114) t201_72 rfl rfl ?_
        refine n_ceq t201_74 (by omega) (by omega) (fun h74 => ?_) (fun h74 => ?_)
        · refine g_p t201_89 rfl ?_
          refine g_k (n := 114) t201_90 rfl rfl ?_
          refine n_cne t201_92 (by omega) (by omega) (fun h92 => ?_) (fun h92 => ?_)
          · refine g_p t201_99 rfl ?_
            refine g_k (n := 119) t201_100 rfl rfl ?_
            refine n_cne t201_102 (by omega) (by omega) (fun h102 => ?_) (fun h102 => ?_)
            · exact absurd rfl h102
            · refine g_k (n := 2) t201_105 rfl rfl ?_
              refine g_goto t201_106 ?_
              refine g_isn t201_110 (Nat.le_of_ble_eq_true rfl) (am_s1_3 rfl) ?_
              refine g_p t201_111 rfl ?_
              refine g_p t201_112 rfl ?_
              refine g_cs t201_113 rfl rfl rfl ?_
              refine c177 (tb_lt o) (by decide) ?_
              rw [(tb_t o).2.1, sw]
              refine k_v ?_ rfl
              refine b_eq t201_116 (fun h116 => ?_) (fun h116 => ?_)
              · exact no_b rfl h116
              · refine g_p t201_119 rfl ?_
                refine r_cv t201_120 (f80 hF) rfl ?_
                refine c184 (by exact hF) hJ (fun s2 f2 hE => ?_)
                refine k_v ?_ rfl
                refine g_p t201_123 rfl ?_
                exact v_ret t201_124 (RED2 _ j (hf.tr (f2.mono (by decide) (by decide))) (by rw [he]) (by omega) hE)
          · exfalso; omega
        · refine g_p t201_77 rfl ?_
          refine g_k (n := 119) t201_78 rfl rfl ?_
          refine n_ceq t201_80 (by omega) (by omega) (fun h80 => ?_) (fun h80 => ?_)
          · refine g_p t201_89 rfl ?_
            refine g_k (n := 114) t201_90 rfl rfl ?_
            refine n_cne t201_92 (by omega) (by omega) (fun h92 => ?_) (fun h92 => ?_)
            · refine g_p t201_99 rfl ?_
              refine g_k (n := 119) t201_100 rfl rfl ?_
              refine n_cne t201_102 (by omega) (by omega) (fun h102 => ?_) (fun h102 => ?_)
              · exact absurd rfl h102
              · refine g_k (n := 2) t201_105 rfl rfl ?_
                refine g_goto t201_106 ?_
                refine g_isn t201_110 (Nat.le_of_ble_eq_true rfl) (am_s1_3 rfl) ?_
                refine g_p t201_111 rfl ?_
                refine g_p t201_112 rfl ?_
                refine g_cs t201_113 rfl rfl rfl ?_
                refine c177 (tb_lt o) (by decide) ?_
                rw [(tb_t o).2.1, sw]
                refine k_v ?_ rfl
                refine b_eq t201_116 (fun h116 => ?_) (fun h116 => ?_)
                · exact no_b rfl h116
                · refine g_p t201_119 rfl ?_
                  refine r_cv t201_120 (f80 hF) rfl ?_
                  refine c184 (by exact hF) hJ (fun s2 f2 hE => ?_)
                  refine k_v ?_ rfl
                  refine g_p t201_123 rfl ?_
                  exact v_ret t201_124 (RED2 _ j (hf.tr (f2.mono (by decide) (by decide))) (by rw [he]) (by omega) hE)
            · exfalso; omega
          · exact absurd rfl h80
      by_cases cd : sgn t j = 100
      · have hc := cd
        have hJl : lk (sgn t j) = nI 100 := by rw [hc]; rfl
        rw [hJl]
        refine g_p t201_71 rfl ?_
        refine g_k (n := 114) t201_72 rfl rfl ?_
        refine n_ceq t201_74 (by omega) (by omega) (fun h74 => ?_) (fun h74 => ?_)
        · refine g_p t201_89 rfl ?_
          refine g_k (n := 114) t201_90 rfl rfl ?_
          refine n_cne t201_92 (by omega) (by omega) (fun h92 => ?_) (fun h92 => ?_)
          · refine g_p t201_99 rfl ?_
            refine g_k (n := 119) t201_100 rfl rfl ?_
            refine n_cne t201_102 (by omega) (by omega) (fun h102 => ?_) (fun h102 => ?_)
            · refine g_k (n := 0) t201_109 rfl rfl ?_
              refine g_isn t201_110 (Nat.le_of_ble_eq_true rfl) (am_s1_3 rfl) ?_
              refine g_p t201_111 rfl ?_
              refine g_p t201_112 rfl ?_
              refine g_cs t201_113 rfl rfl rfl ?_
              refine c177 (tb_lt o) (by decide) ?_
              rw [(tb_t o).2.2, sd]
              refine k_v ?_ rfl
              refine b_eq t201_116 (fun h116 => ?_) (fun h116 => ?_)
              · exact no_b rfl h116
              · refine g_p t201_119 rfl ?_
                refine r_cv t201_120 (f80 hF) rfl ?_
                refine c184 (by exact hF) hJ (fun s2 f2 hE => ?_)
                refine k_v ?_ rfl
                refine g_p t201_123 rfl ?_
                exact v_ret t201_124 (RED2 _ j (hf.tr (f2.mono (by decide) (by decide))) (by rw [he]) (by omega) hE)
            · exfalso; omega
          · exfalso; omega
        · refine g_p t201_77 rfl ?_
          refine g_k (n := 119) t201_78 rfl rfl ?_
          refine n_ceq t201_80 (by omega) (by omega) (fun h80 => ?_) (fun h80 => ?_)
          · refine g_p t201_89 rfl ?_
            refine g_k (n := 114) t201_90 rfl rfl ?_
            refine n_cne t201_92 (by omega) (by omega) (fun h92 => ?_) (fun h92 => ?_)
            · refine g_p t201_99 rfl ?_
              refine g_k (n := 119) t201_100 rfl rfl ?_
              refine n_cne t201_102 (by omega) (by omega) (fun h102 => ?_) (fun h102 => ?_)
              · refine g_k (n := 0) t201_109 rfl rfl ?_
                refine g_isn t201_110 (Nat.le_of_ble_eq_true rfl) (am_s1_3 rfl) ?_
                refine g_p t201_111 rfl ?_
                refine g_p t201_112 rfl ?_
                refine g_cs t201_113 rfl rfl rfl ?_
                refine c177 (tb_lt o) (by decide) ?_
                rw [(tb_t o).2.2, sd]
                refine k_v ?_ rfl
                refine b_eq t201_116 (fun h116 => ?_) (fun h116 => ?_)
                · exact no_b rfl h116
                · refine g_p t201_119 rfl ?_
                  refine r_cv t201_120 (f80 hF) rfl ?_
                  refine c184 (by exact hF) hJ (fun s2 f2 hE => ?_)
                  refine k_v ?_ rfl
                  refine g_p t201_123 rfl ?_
                  exact v_ret t201_124 (RED2 _ j (hf.tr (f2.mono (by decide) (by decide))) (by rw [he]) (by omega) hE)
              · exfalso; omega
            · exfalso; omega
          · refine g_p t201_83 rfl ?_
            refine g_k (n := 100) t201_84 rfl rfl ?_
            refine n_cne t201_86 (by omega) (by omega) (fun h86 => ?_) (fun h86 => ?_)
            · exact absurd rfl h86
            · refine g_p t201_89 rfl ?_
              refine g_k (n := 114) t201_90 rfl rfl ?_
              refine n_cne t201_92 (by omega) (by omega) (fun h92 => ?_) (fun h92 => ?_)
              · refine g_p t201_99 rfl ?_
                refine g_k (n := 119) t201_100 rfl rfl ?_
                refine n_cne t201_102 (by omega) (by omega) (fun h102 => ?_) (fun h102 => ?_)
                · refine g_k (n := 0) t201_109 rfl rfl ?_
                  refine g_isn t201_110 (Nat.le_of_ble_eq_true rfl) (am_s1_3 rfl) ?_
                  refine g_p t201_111 rfl ?_
                  refine g_p t201_112 rfl ?_
                  refine g_cs t201_113 rfl rfl rfl ?_
                  refine c177 (tb_lt o) (by decide) ?_
                  rw [(tb_t o).2.2, sd]
                  refine k_v ?_ rfl
                  refine b_eq t201_116 (fun h116 => ?_) (fun h116 => ?_)
                  · exact no_b rfl h116
                  · refine g_p t201_119 rfl ?_
                    refine r_cv t201_120 (f80 hF) rfl ?_
                    refine c184 (by exact hF) hJ (fun s2 f2 hE => ?_)
                    refine k_v ?_ rfl
                    refine g_p t201_123 rfl ?_
                    exact v_ret t201_124 (RED2 _ j (hf.tr (f2.mono (by decide) (by decide))) (by rw [he]) (by omega) hE)
                · exfalso; omega
              · exfalso; omega
      refine g_p t201_71 rfl ?_
      refine g_k (n := 114) t201_72 rfl rfl ?_
      refine g_ceq t201_74 (fun h74 => ?_) (fun h74 => ?_)
      · first
          | exact absurd ((lk_e hsg (by decide) (by decide)).mp h74) cr
          | exact absurd ((lk_e hsg (by decide) (by decide)).mp h80) cw
          | exact absurd ((lk_e hsg (by decide) (by decide)).mp h86) cd
      · refine g_p t201_77 rfl ?_
        refine g_k (n := 119) t201_78 rfl rfl ?_
        refine g_ceq t201_80 (fun h80 => ?_) (fun h80 => ?_)
        · first
            | exact absurd ((lk_e hsg (by decide) (by decide)).mp h74) cr
            | exact absurd ((lk_e hsg (by decide) (by decide)).mp h80) cw
            | exact absurd ((lk_e hsg (by decide) (by decide)).mp h86) cd
        · refine g_p t201_83 rfl ?_
          refine g_k (n := 100) t201_84 rfl rfl ?_
          refine g_cne t201_86 (fun h86 => ?_) (fun h86 => ?_)
          · exact END o j s' _ _ _ _ hF hX hf hJ hsp he hv e22
          · first
              | exact absurd ((lk_e hsg (by decide) (by decide)).mp h74) cr
              | exact absurd ((lk_e hsg (by decide) (by decide)).mp h80) cw
              | exact absurd ((lk_e hsg (by decide) (by decide)).mp h86) cd
    | succ n ih =>
      intro o j s' z3 z4 n3 hn he hF hX hf hJ hsp hv e22
      have hsg := hX.sg j
      have e10 := hJ.2.2
      have h11 := hJ.1
      by_cases c0 : sgn t j = 0
      · have he : Z = (o, .inl j) := by rw [he]; exact if_pos c0
        refine g_p t201_71 rfl ?_
        refine g_k (n := 114) t201_72 rfl rfl ?_
        refine g_ceq t201_74 (fun h74 => ?_) (fun h74 => ?_)
        · first
            | exact absurd ((lk_e hsg (by decide) (by decide)).mp h74) (by omega)
            | exact absurd ((lk_e hsg (by decide) (by decide)).mp h80) (by omega)
            | exact absurd ((lk_e hsg (by decide) (by decide)).mp h86) (by omega)
        · refine g_p t201_77 rfl ?_
          refine g_k (n := 119) t201_78 rfl rfl ?_
          refine g_ceq t201_80 (fun h80 => ?_) (fun h80 => ?_)
          · first
              | exact absurd ((lk_e hsg (by decide) (by decide)).mp h74) (by omega)
              | exact absurd ((lk_e hsg (by decide) (by decide)).mp h80) (by omega)
              | exact absurd ((lk_e hsg (by decide) (by decide)).mp h86) (by omega)
          · refine g_p t201_83 rfl ?_
            refine g_k (n := 100) t201_84 rfl rfl ?_
            refine g_cne t201_86 (fun h86 => ?_) (fun h86 => ?_)
            · exact END o j s' _ _ _ _ hF hX hf hJ hsp he hv e22
            · first
                | exact absurd ((lk_e hsg (by decide) (by decide)).mp h74) (by omega)
                | exact absurd ((lk_e hsg (by decide) (by decide)).mp h80) (by omega)
                | exact absurd ((lk_e hsg (by decide) (by decide)).mp h86) (by omega)
      · have he : Z = sil t n (sit t (o, .inl j)) := by rw [he]; exact if_neg c0
        have hjl : j < t.length := sgn_pos c0
        obtain ⟨p, hp⟩ : ∃ p, p = skp t (j + 1) := ⟨_, rfl⟩
        have hpst : pst t (.inl j) = .inl p := by rw [hp]; rfl
        have hspp : skp t p = p := by rw [hp]; exact skp_s rfl
        by_cases cr : sgn t j = 114
        · have hc := cr
          have hJl : lk (sgn t j) = nI 114 := by rw [hc]; rfl
          rw [hJl]
          cases hs : o.1 with
          | some v0 =>
            have he : Z = (o, .inr j) := by
              have e1 : sit t (o, .inl j) = (o, .inr j) := by
                unfold sit
                rw [if_neg (fun h => by have h8 := h.1; rw [show o.1 = some v0 from hs] at h8; cases h8), if_neg (fun h => by have h8 : sgn t j = 119 := h.2; omega), if_neg (fun h => by have h8 : sgn t j = 100 := h.2; omega)]; rfl
              rw [he, e1, sil_r]
            refine g_p t201_71 rfl ?_
            refine g_k (n := 114) t201_72 rfl rfl ?_
            refine n_ceq t201_74 (by omega) (by omega) (fun h74 => ?_) (fun h74 => ?_)
            · refine g_p t201_89 rfl ?_
              refine g_k (n := 114) t201_90 rfl rfl ?_
              refine n_cne t201_92 (by omega) (by omega) (fun h92 => ?_) (fun h92 => ?_)
              · exact absurd rfl h92
              · refine g_k (n := 1) t201_95 rfl rfl ?_
                refine g_goto t201_96 ?_
                refine g_isn t201_110 (Nat.le_of_ble_eq_true rfl) (am_s1_3 rfl) ?_
                refine g_p t201_111 rfl ?_
                refine g_p t201_112 rfl ?_
                refine g_cs t201_113 rfl rfl rfl ?_
                refine c177 (tb_lt o) (by decide) ?_
                rw [(tb_t o).1, show o.1.isSome = true from (by rw [hs]; rfl)]
                refine k_v ?_ rfl
                refine b_eq t201_116 (fun h116 => ?_) (fun h116 => ?_)
                · exact no_b rfl h116
                · refine g_p t201_119 rfl ?_
                  refine r_cv t201_120 (f80 hF) rfl ?_
                  refine c184 (by exact hF) hJ (fun s2 f2 hE => ?_)
                  refine k_v ?_ rfl
                  refine g_p t201_123 rfl ?_
                  exact v_ret t201_124 (RED _ j (hf.tr (f2.mono (by decide) (by decide))) (by rw [he]) hE)
            · exact absurd rfl h74
          | none =>
            have hns : o.1.isSome = false := by rw [hs]; rfl
            by_cases hd : 48 ≤ sgn t p ∧ sgn t p ≤ 53
            · have he : Z = sil t n ((some (sgn t p - 48), o.2), .inl (skp t (p + 1))) := by
                have e1 : sit t (o, .inl j) = ((some (sgn t p - 48), o.2), .inl (skp t (p + 1))) := by
                  unfold sit
                  rw [if_pos ⟨hs, show psg t (Sum.inl j) = 114 from hc⟩]
                  show (((some (pdv t 0 5 (pst t (.inl j))), o.2) : O3), pdg t 0 5 (pst t (.inl j))) = _
                  rw [hpst]
                  have e3 : pdv t 0 5 (.inl p) = sgn t p - 48 := if_pos hd
                  have e4 : pdg t 0 5 (.inl p) = .inl (skp t (p + 1)) := if_pos hd
                  rw [e3, e4]
                rw [he, e1]
              have hn2 : so3 ((some (sgn t p - 48), o.2) : O3) + n = 3 := by
                have h9 : so3 o + (n + 1) = 3 := hn
                unfold so3 at h9 ⊢
                rw [hns] at h9
                simp only [Option.isSome_some] at h9 ⊢
                have a1 : one true = 1 := rfl
                have a0 : one false = 0 := rfl
                omega
              refine g_p t201_71 rfl ?_
              refine g_k (n := 114) t201_72 rfl rfl ?_
              refine n_ceq t201_74 (by omega) (by omega) (fun h74 => ?_) (fun h74 => ?_)
              · refine g_p t201_89 rfl ?_
                refine g_k (n := 114) t201_90 rfl rfl ?_
                refine n_cne t201_92 (by omega) (by omega) (fun h92 => ?_) (fun h92 => ?_)
                · exact absurd rfl h92
                · refine g_k (n := 1) t201_95 rfl rfl ?_
                  refine g_goto t201_96 ?_
                  refine g_isn t201_110 (Nat.le_of_ble_eq_true rfl) (am_s1_3 rfl) ?_
                  refine g_p t201_111 rfl ?_
                  refine g_p t201_112 rfl ?_
                  refine g_cs t201_113 rfl rfl rfl ?_
                  refine c177 (tb_lt o) (by decide) ?_
                  rw [(tb_t o).1, hns]
                  refine k_v ?_ rfl
                  refine b_eq t201_116 (fun h116 => ?_) (fun h116 => ?_)
                  · refine g_p t201_125 rfl ?_
                    refine g_k (n := 1) t201_126 rfl rfl ?_
                    refine g_p t201_127 rfl ?_
                    refine g_ishl t201_128 ?_
                    rw [shl1 1 (by decide)]
                    refine g_ior t201_129 ?_
                    rw [nI_or (by have := tb_lt o; omega) (by decide), tb_r (v := sgn t p - 48) hns]
                    refine g_isn t201_130 (Nat.le_of_ble_eq_true rfl) (am_s1_1 rfl) ?_
                    refine g_p t201_131 rfl ?_
                    refine g_p t201_132 rfl ?_
                    refine r_gete t201_133 (f80 hF) rfl rfl e10 ?_
                    refine g_k (n := 1) t201_136 rfl rfl ?_
                    refine g_addn t201_137 ?_
                    refine r_puti t201_138 (f80 hF) rfl rfl ?_
                    refine g_p t201_141 rfl ?_
                    refine g_p t201_142 rfl ?_
                    refine n_ne t201_143 (by omega) (fun h143 => ?_) (fun h143 => ?_)
                    · refine g_k (n := 0) t201_150 rfl rfl ?_
                      refine g_k (n := 5) t201_151 rfl rfl ?_
                      refine r_cv t201_152 (f80 hF) rfl ?_
                      have hX := MT.w8 (i := 10) (v := nI (j + 1)) (by exact hX) (by decide) (by decide) (by decide)
                      have hJ := hJ.up hjl
                      have hSp : MS t (.inl p) (wi s' 80 10 (nI (j + 1))) := by have h9 := hJ.ms; rw [← hp] at h9; exact h9
                      have hv : SV o (wi s' 80 10 (nI (j + 1))) := hv.fm (A := []) (B := [10]) (FM.rf.m (i := 10) (v := nI (j + 1)) (by decide)) (by decide) (by decide)
                      have hf := hf.m (i := 10) (v := nI (j + 1)) (by decide)
                      refine c200t (by exact hF) (by exact hX) (j := p) (lo := 0) (hi := 5) hSp (by decide) hd (fun s152 f152 hJ hpl => ?_)
                      have h11 := hJ.1
                      refine k_v ?_ rfl
                      have hF := Fx.fr (by exact hF) f152.1
                      have hX := MT.fm (by exact hX) f152 (by decide) (by decide) (by decide) (by decide) (by decide)
                      have hf := hf.tr (f152.mono (by decide) (by decide))
                      have hv := hv.fm f152 (by decide) (by decide)
                      have e22 := (f152.f (i := 22) (by decide)).trans e22
                      refine g_is t201_155 (Nat.le_of_ble_eq_true rfl) (am_s1_4 rfl) ?_
                      refine g_p t201_157 rfl ?_
                      refine r_gete t201_158 (f80 hF) rfl rfl h11 ?_
                      refine g_p t201_161 rfl ?_
                      refine g_ceq t201_162 (fun h162 => ?_) (fun h162 => ?_)
                      · refine g_p t201_166 rfl ?_
                        refine n_ne t201_167 (by omega) (fun h167 => ?_) (fun h167 => ?_)
                        · refine g_p t201_179 rfl ?_
                          refine r_getr t201_180 (f80 hF) rfl rfl ?_
                          refine g_p t201_183 rfl ?_
                          refine g_p t201_184 rfl ?_
                          refine r_iast t201_186 (f86 hF) (by decide) (by omega) ?_
                          refine g_p t201_187 rfl ?_
                          refine r_cv t201_188 (f80 hF) rfl ?_
                          have hf := hf.w (p := 86) (i := 1) (v := nI (sgn t p - 48)) (by decide) (by decide)
                          have hJ : MJ t (p + 1) (wi s152 86 1 (nI (sgn t p - 48))) := hJ
                          have hv : SV (some (sgn t p - 48), o.2) (wi s152 86 1 (nI (sgn t p - 48))) := ⟨ri_wi_eq, (ri_wi_j (by decide)).trans hv.2.1, (ri_wi_ne (by decide)).trans hv.2.2⟩
                          have hX : MT 81 120 0 t (wi s152 86 1 (nI (sgn t p - 48))) := hX.fm (A := [86]) (B' := []) (FM.rf.w (by decide) (by decide)) (by decide) (by decide) (by decide) (by decide) (by decide)
                          have e22 : ri (wi s152 86 1 (nI (sgn t p - 48))) 80 22 = nI (pdv t 2 5 (sl0 t)) := e22
                          have hsp2 : skp t (skp t (p + 1)) = skp t (p + 1) := skp_s rfl
                          have hS := hJ.ms
                          have hsp := hsp2
                          refine c183 (by exact hF) (by exact hX) (by exact hS) (fun s188 f188 hJ => ?_)
                          have hS := hJ.m2 hsp
                          have e10 := hJ.2.2
                          have h11 := hJ.1
                          refine k_v ?_ rfl
                          have hF := Fx.fr (by exact hF) f188.1
                          have hX := MT.fm (by exact hX) f188 (by decide) (by decide) (by decide) (by decide) (by decide)
                          have hf := hf.tr (f188.mono (by decide) (by decide))
                          have hv := hv.fm f188 (by decide) (by decide)
                          have e22 := (f188.f (i := 22) (by decide)).trans e22
                          refine g_isn t201_191 (Nat.le_of_ble_eq_true rfl) (am_s1_2 rfl) ?_
                          refine g_goto t201_192 ?_
                          exact ih _ _ s188 _ _ rfl hn2 he hF hX hf hJ hsp hv e22
                        · exfalso; omega
                      · exact absurd rfl h162
                    · exfalso; omega
                  · exact no_b h116 rfl
              · exact absurd rfl h74
            · have he : ∃ o2, Z = (o2, .inr p) := by
                have e1 : ∃ o2, sit t (o, .inl j) = (o2, .inr p) := by
                  unfold sit
                  rw [if_pos ⟨hs, show psg t (Sum.inl j) = 114 from hc⟩]
                  refine ⟨(some (pdv t 0 5 (pst t (.inl j))), o.2), ?_⟩
                  show (_, pdg t 0 5 (pst t (.inl j))) = _
                  rw [hpst]
                  have e4 : pdg t 0 5 (.inl p) = .inr p := if_neg hd
                  rw [e4]
                obtain ⟨o2, e1⟩ := e1
                exact ⟨o2, by rw [he, e1, sil_r]⟩
              refine g_p t201_71 rfl ?_
              refine g_k (n := 114) t201_72 rfl rfl ?_
              refine n_ceq t201_74 (by omega) (by omega) (fun h74 => ?_) (fun h74 => ?_)
              · refine g_p t201_89 rfl ?_
                refine g_k (n := 114) t201_90 rfl rfl ?_
                refine n_cne t201_92 (by omega) (by omega) (fun h92 => ?_) (fun h92 => ?_)
                · exact absurd rfl h92
                · refine g_k (n := 1) t201_95 rfl rfl ?_
                  refine g_goto t201_96 ?_
                  refine g_isn t201_110 (Nat.le_of_ble_eq_true rfl) (am_s1_3 rfl) ?_
                  refine g_p t201_111 rfl ?_
                  refine g_p t201_112 rfl ?_
                  refine g_cs t201_113 rfl rfl rfl ?_
                  refine c177 (tb_lt o) (by decide) ?_
                  rw [(tb_t o).1, hns]
                  refine k_v ?_ rfl
                  refine b_eq t201_116 (fun h116 => ?_) (fun h116 => ?_)
                  · refine g_p t201_125 rfl ?_
                    refine g_k (n := 1) t201_126 rfl rfl ?_
                    refine g_p t201_127 rfl ?_
                    refine g_ishl t201_128 ?_
                    rw [shl1 1 (by decide)]
                    refine g_ior t201_129 ?_
                    rw [nI_or (by have := tb_lt o; omega) (by decide), tb_r (v := sgn t p - 48) hns]
                    refine g_isn t201_130 (Nat.le_of_ble_eq_true rfl) (am_s1_1 rfl) ?_
                    refine g_p t201_131 rfl ?_
                    refine g_p t201_132 rfl ?_
                    refine r_gete t201_133 (f80 hF) rfl rfl e10 ?_
                    refine g_k (n := 1) t201_136 rfl rfl ?_
                    refine g_addn t201_137 ?_
                    refine r_puti t201_138 (f80 hF) rfl rfl ?_
                    refine g_p t201_141 rfl ?_
                    refine g_p t201_142 rfl ?_
                    refine n_ne t201_143 (by omega) (fun h143 => ?_) (fun h143 => ?_)
                    · refine g_k (n := 0) t201_150 rfl rfl ?_
                      refine g_k (n := 5) t201_151 rfl rfl ?_
                      refine r_cv t201_152 (f80 hF) rfl ?_
                      have hX := MT.w8 (i := 10) (v := nI (j + 1)) (by exact hX) (by decide) (by decide) (by decide)
                      have hJ := hJ.up hjl
                      have hSp : MS t (.inl p) (wi s' 80 10 (nI (j + 1))) := by have h9 := hJ.ms; rw [← hp] at h9; exact h9
                      have hv : SV o (wi s' 80 10 (nI (j + 1))) := hv.fm (A := []) (B := [10]) (FM.rf.m (i := 10) (v := nI (j + 1)) (by decide)) (by decide) (by decide)
                      have hf := hf.m (i := 10) (v := nI (j + 1)) (by decide)
                      refine c200f (by exact hF) (by exact hX) (j := p) (lo := 0) (hi := 5) hSp (by decide) (by decide) hd (fun s152 f152 hE => ?_)
                      have hne := hE.ne h120
                      refine k_v ?_ rfl
                      have hF := Fx.fr (by exact hF) f152.1
                      have hX := MT.fm (by exact hX) f152 (by decide) (by decide) (by decide) (by decide) (by decide)
                      have hf := hf.tr (f152.mono (by decide) (by decide))
                      have hv := hv.fm f152 (by decide) (by decide)
                      have e22 := (f152.f (i := 22) (by decide)).trans e22
                      refine g_is t201_155 (Nat.le_of_ble_eq_true rfl) (am_s1_4 rfl) ?_
                      refine g_p t201_157 rfl ?_
                      refine r_geti t201_158 (f80 hF) rfl rfl ?_
                      refine g_p t201_161 rfl ?_
                      refine g_ceq t201_162 (fun h162 => ?_) (fun h162 => ?_)
                      · exact absurd h162 hne
                      · obtain ⟨o2, he⟩ := he
                        exact v_ret t201_165 (RED _ p hf (by rw [he]) hE)
                    · exfalso; omega
                  · exact no_b h116 rfl
              · exact absurd rfl h74
        by_cases cw : sgn t j = 119
        · have hc := cw
          have hJl : lk (sgn t j) = nI 119 := by rw [hc]; rfl
          rw [hJl]
          cases hs : o.2.1 with
          | some v0 =>
            have he : Z = (o, .inr j) := by
              have e1 : sit t (o, .inl j) = (o, .inr j) := by
                unfold sit
                rw [if_neg (fun h => by have h8 : sgn t j = 114 := h.2; omega), if_neg (fun h => by have h8 := h.1; rw [show o.2.1 = some v0 from hs] at h8; cases h8), if_neg (fun h => by have h8 : sgn t j = 100 := h.2; omega)]; rfl
              rw [he, e1, sil_r]
            refine g_p t201_71 rfl ?_
            refine g_k (n := 114) t201_72 rfl rfl ?_
            refine n_ceq t201_74 (by omega) (by omega) (fun h74 => ?_) (fun h74 => ?_)
            · refine g_p t201_89 rfl ?_
              refine g_k (n := 114) t201_90 rfl rfl ?_
              refine n_cne t201_92 (by omega) (by omega) (fun h92 => ?_) (fun h92 => ?_)
              · refine g_p t201_99 rfl ?_
                refine g_k (n := 119) t201_100 rfl rfl ?_
                refine n_cne t201_102 (by omega) (by omega) (fun h102 => ?_) (fun h102 => ?_)
                · exact absurd rfl h102
                · refine g_k (n := 2) t201_105 rfl rfl ?_
                  refine g_goto t201_106 ?_
                  refine g_isn t201_110 (Nat.le_of_ble_eq_true rfl) (am_s1_3 rfl) ?_
                  refine g_p t201_111 rfl ?_
                  refine g_p t201_112 rfl ?_
                  refine g_cs t201_113 rfl rfl rfl ?_
                  refine c177 (tb_lt o) (by decide) ?_
                  rw [(tb_t o).2.1, show o.2.1.isSome = true from (by rw [hs]; rfl)]
                  refine k_v ?_ rfl
                  refine b_eq t201_116 (fun h116 => ?_) (fun h116 => ?_)
                  · exact no_b rfl h116
                  · refine g_p t201_119 rfl ?_
                    refine r_cv t201_120 (f80 hF) rfl ?_
                    refine c184 (by exact hF) hJ (fun s2 f2 hE => ?_)
                    refine k_v ?_ rfl
                    refine g_p t201_123 rfl ?_
                    exact v_ret t201_124 (RED _ j (hf.tr (f2.mono (by decide) (by decide))) (by rw [he]) hE)
              · exfalso; omega
            · refine g_p t201_77 rfl ?_
              refine g_k (n := 119) t201_78 rfl rfl ?_
              refine n_ceq t201_80 (by omega) (by omega) (fun h80 => ?_) (fun h80 => ?_)
              · refine g_p t201_89 rfl ?_
                refine g_k (n := 114) t201_90 rfl rfl ?_
                refine n_cne t201_92 (by omega) (by omega) (fun h92 => ?_) (fun h92 => ?_)
                · refine g_p t201_99 rfl ?_
                  refine g_k (n := 119) t201_100 rfl rfl ?_
                  refine n_cne t201_102 (by omega) (by omega) (fun h102 => ?_) (fun h102 => ?_)
                  · exact absurd rfl h102
                  · refine g_k (n := 2) t201_105 rfl rfl ?_
                    refine g_goto t201_106 ?_
                    refine g_isn t201_110 (Nat.le_of_ble_eq_true rfl) (am_s1_3 rfl) ?_
                    refine g_p t201_111 rfl ?_
                    refine g_p t201_112 rfl ?_
                    refine g_cs t201_113 rfl rfl rfl ?_
                    refine c177 (tb_lt o) (by decide) ?_
                    rw [(tb_t o).2.1, show o.2.1.isSome = true from (by rw [hs]; rfl)]
                    refine k_v ?_ rfl
                    refine b_eq t201_116 (fun h116 => ?_) (fun h116 => ?_)
                    · exact no_b rfl h116
                    · refine g_p t201_119 rfl ?_
                      refine r_cv t201_120 (f80 hF) rfl ?_
                      refine c184 (by exact hF) hJ (fun s2 f2 hE => ?_)
                      refine k_v ?_ rfl
                      refine g_p t201_123 rfl ?_
                      exact v_ret t201_124 (RED _ j (hf.tr (f2.mono (by decide) (by decide))) (by rw [he]) hE)
                · exfalso; omega
              · exact absurd rfl h80
          | none =>
            have hns : o.2.1.isSome = false := by rw [hs]; rfl
            by_cases hd : 48 ≤ sgn t p ∧ sgn t p ≤ 53
            · have he : Z = sil t n ((o.1, some (sgn t p - 48), o.2.2), .inl (skp t (p + 1))) := by
                have e1 : sit t (o, .inl j) = ((o.1, some (sgn t p - 48), o.2.2), .inl (skp t (p + 1))) := by
                  unfold sit
                  rw [if_neg (fun h => cr h.2)]; rw [if_pos ⟨hs, show psg t (Sum.inl j) = 119 from hc⟩]
                  show (((o.1, some (pdv t 0 5 (pst t (.inl j))), o.2.2) : O3), pdg t 0 5 (pst t (.inl j))) = _
                  rw [hpst]
                  have e3 : pdv t 0 5 (.inl p) = sgn t p - 48 := if_pos hd
                  have e4 : pdg t 0 5 (.inl p) = .inl (skp t (p + 1)) := if_pos hd
                  rw [e3, e4]
                rw [he, e1]
              have hn2 : so3 ((o.1, some (sgn t p - 48), o.2.2) : O3) + n = 3 := by
                have h9 : so3 o + (n + 1) = 3 := hn
                unfold so3 at h9 ⊢
                rw [hns] at h9
                simp only [Option.isSome_some] at h9 ⊢
                have a1 : one true = 1 := rfl
                have a0 : one false = 0 := rfl
                omega
              refine g_p t201_71 rfl ?_
              refine g_k (n := 114) t201_72 rfl rfl ?_
              refine n_ceq t201_74 (by omega) (by omega) (fun h74 => ?_) (fun h74 => ?_)
              · refine g_p t201_89 rfl ?_
                refine g_k (n := 114) t201_90 rfl rfl ?_
                refine n_cne t201_92 (by omega) (by omega) (fun h92 => ?_) (fun h92 => ?_)
                · refine g_p t201_99 rfl ?_
                  refine g_k (n := 119) t201_100 rfl rfl ?_
                  refine n_cne t201_102 (by omega) (by omega) (fun h102 => ?_) (fun h102 => ?_)
                  · exact absurd rfl h102
                  · refine g_k (n := 2) t201_105 rfl rfl ?_
                    refine g_goto t201_106 ?_
                    refine g_isn t201_110 (Nat.le_of_ble_eq_true rfl) (am_s1_3 rfl) ?_
                    refine g_p t201_111 rfl ?_
                    refine g_p t201_112 rfl ?_
                    refine g_cs t201_113 rfl rfl rfl ?_
                    refine c177 (tb_lt o) (by decide) ?_
                    rw [(tb_t o).2.1, hns]
                    refine k_v ?_ rfl
                    refine b_eq t201_116 (fun h116 => ?_) (fun h116 => ?_)
                    · refine g_p t201_125 rfl ?_
                      refine g_k (n := 1) t201_126 rfl rfl ?_
                      refine g_p t201_127 rfl ?_
                      refine g_ishl t201_128 ?_
                      rw [shl1 2 (by decide)]
                      refine g_ior t201_129 ?_
                      rw [nI_or (by have := tb_lt o; omega) (by decide), tb_w (v := sgn t p - 48) hns]
                      refine g_isn t201_130 (Nat.le_of_ble_eq_true rfl) (am_s1_1 rfl) ?_
                      refine g_p t201_131 rfl ?_
                      refine g_p t201_132 rfl ?_
                      refine r_gete t201_133 (f80 hF) rfl rfl e10 ?_
                      refine g_k (n := 1) t201_136 rfl rfl ?_
                      refine g_addn t201_137 ?_
                      refine r_puti t201_138 (f80 hF) rfl rfl ?_
                      refine g_p t201_141 rfl ?_
                      refine g_p t201_142 rfl ?_
                      refine n_ne t201_143 (by omega) (fun h143 => ?_) (fun h143 => ?_)
                      · refine g_k (n := 0) t201_150 rfl rfl ?_
                        refine g_k (n := 5) t201_151 rfl rfl ?_
                        refine r_cv t201_152 (f80 hF) rfl ?_
                        have hX := MT.w8 (i := 10) (v := nI (j + 1)) (by exact hX) (by decide) (by decide) (by decide)
                        have hJ := hJ.up hjl
                        have hSp : MS t (.inl p) (wi s' 80 10 (nI (j + 1))) := by have h9 := hJ.ms; rw [← hp] at h9; exact h9
                        have hv : SV o (wi s' 80 10 (nI (j + 1))) := hv.fm (A := []) (B := [10]) (FM.rf.m (i := 10) (v := nI (j + 1)) (by decide)) (by decide) (by decide)
                        have hf := hf.m (i := 10) (v := nI (j + 1)) (by decide)
                        refine c200t (by exact hF) (by exact hX) (j := p) (lo := 0) (hi := 5) hSp (by decide) hd (fun s152 f152 hJ hpl => ?_)
                        have h11 := hJ.1
                        refine k_v ?_ rfl
                        have hF := Fx.fr (by exact hF) f152.1
                        have hX := MT.fm (by exact hX) f152 (by decide) (by decide) (by decide) (by decide) (by decide)
                        have hf := hf.tr (f152.mono (by decide) (by decide))
                        have hv := hv.fm f152 (by decide) (by decide)
                        have e22 := (f152.f (i := 22) (by decide)).trans e22
                        refine g_is t201_155 (Nat.le_of_ble_eq_true rfl) (am_s1_4 rfl) ?_
                        refine g_p t201_157 rfl ?_
                        refine r_gete t201_158 (f80 hF) rfl rfl h11 ?_
                        refine g_p t201_161 rfl ?_
                        refine g_ceq t201_162 (fun h162 => ?_) (fun h162 => ?_)
                        · refine g_p t201_166 rfl ?_
                          refine n_ne t201_167 (by omega) (fun h167 => ?_) (fun h167 => ?_)
                          · refine g_p t201_179 rfl ?_
                            refine r_getr t201_180 (f80 hF) rfl rfl ?_
                            refine g_p t201_183 rfl ?_
                            refine g_p t201_184 rfl ?_
                            refine r_iast t201_186 (f86 hF) (by decide) (by omega) ?_
                            refine g_p t201_187 rfl ?_
                            refine r_cv t201_188 (f80 hF) rfl ?_
                            have hf := hf.w (p := 86) (i := 2) (v := nI (sgn t p - 48)) (by decide) (by decide)
                            have hJ : MJ t (p + 1) (wi s152 86 2 (nI (sgn t p - 48))) := hJ
                            have hv : SV (o.1, some (sgn t p - 48), o.2.2) (wi s152 86 2 (nI (sgn t p - 48))) := ⟨(ri_wi_j (by decide)).trans hv.1, ri_wi_eq, (ri_wi_ne (by decide)).trans hv.2.2⟩
                            have hX : MT 81 120 0 t (wi s152 86 2 (nI (sgn t p - 48))) := hX.fm (A := [86]) (B' := []) (FM.rf.w (by decide) (by decide)) (by decide) (by decide) (by decide) (by decide) (by decide)
                            have e22 : ri (wi s152 86 2 (nI (sgn t p - 48))) 80 22 = nI (pdv t 2 5 (sl0 t)) := e22
                            have hsp2 : skp t (skp t (p + 1)) = skp t (p + 1) := skp_s rfl
                            have hS := hJ.ms
                            have hsp := hsp2
                            refine c183 (by exact hF) (by exact hX) (by exact hS) (fun s188 f188 hJ => ?_)
                            have hS := hJ.m2 hsp
                            have e10 := hJ.2.2
                            have h11 := hJ.1
                            refine k_v ?_ rfl
                            have hF := Fx.fr (by exact hF) f188.1
                            have hX := MT.fm (by exact hX) f188 (by decide) (by decide) (by decide) (by decide) (by decide)
                            have hf := hf.tr (f188.mono (by decide) (by decide))
                            have hv := hv.fm f188 (by decide) (by decide)
                            have e22 := (f188.f (i := 22) (by decide)).trans e22
                            refine g_isn t201_191 (Nat.le_of_ble_eq_true rfl) (am_s1_2 rfl) ?_
                            refine g_goto t201_192 ?_
                            exact ih _ _ s188 _ _ rfl hn2 he hF hX hf hJ hsp hv e22
                          · exfalso; omega
                        · exact absurd rfl h162
                      · exfalso; omega
                    · exact no_b h116 rfl
                · exfalso; omega
              · refine g_p t201_77 rfl ?_
                refine g_k (n := 119) t201_78 rfl rfl ?_
                refine n_ceq t201_80 (by omega) (by omega) (fun h80 => ?_) (fun h80 => ?_)
                · refine g_p t201_89 rfl ?_
                  refine g_k (n := 114) t201_90 rfl rfl ?_
                  refine n_cne t201_92 (by omega) (by omega) (fun h92 => ?_) (fun h92 => ?_)
                  · refine g_p t201_99 rfl ?_
                    refine g_k (n := 119) t201_100 rfl rfl ?_
                    refine n_cne t201_102 (by omega) (by omega) (fun h102 => ?_) (fun h102 => ?_)
                    · exact absurd rfl h102
                    · refine g_k (n := 2) t201_105 rfl rfl ?_
                      refine g_goto t201_106 ?_
                      refine g_isn t201_110 (Nat.le_of_ble_eq_true rfl) (am_s1_3 rfl) ?_
                      refine g_p t201_111 rfl ?_
                      refine g_p t201_112 rfl ?_
                      refine g_cs t201_113 rfl rfl rfl ?_
                      refine c177 (tb_lt o) (by decide) ?_
                      rw [(tb_t o).2.1, hns]
                      refine k_v ?_ rfl
                      refine b_eq t201_116 (fun h116 => ?_) (fun h116 => ?_)
                      · refine g_p t201_125 rfl ?_
                        refine g_k (n := 1) t201_126 rfl rfl ?_
                        refine g_p t201_127 rfl ?_
                        refine g_ishl t201_128 ?_
                        rw [shl1 2 (by decide)]
                        refine g_ior t201_129 ?_
                        rw [nI_or (by have := tb_lt o; omega) (by decide), tb_w (v := sgn t p - 48) hns]
                        refine g_isn t201_130 (Nat.le_of_ble_eq_true rfl) (am_s1_1 rfl) ?_
                        refine g_p t201_131 rfl ?_
                        refine g_p t201_132 rfl ?_
                        refine r_gete t201_133 (f80 hF) rfl rfl e10 ?_
                        refine g_k (n := 1) t201_136 rfl rfl ?_
                        refine g_addn t201_137 ?_
                        refine r_puti t201_138 (f80 hF) rfl rfl ?_
                        refine g_p t201_141 rfl ?_
                        refine g_p t201_142 rfl ?_
                        refine n_ne t201_143 (by omega) (fun h143 => ?_) (fun h143 => ?_)
                        · refine g_k (n := 0) t201_150 rfl rfl ?_
                          refine g_k (n := 5) t201_151 rfl rfl ?_
                          refine r_cv t201_152 (f80 hF) rfl ?_
                          have hX := MT.w8 (i := 10) (v := nI (j + 1)) (by exact hX) (by decide) (by decide) (by decide)
                          have hJ := hJ.up hjl
                          have hSp : MS t (.inl p) (wi s' 80 10 (nI (j + 1))) := by have h9 := hJ.ms; rw [← hp] at h9; exact h9
                          have hv : SV o (wi s' 80 10 (nI (j + 1))) := hv.fm (A := []) (B := [10]) (FM.rf.m (i := 10) (v := nI (j + 1)) (by decide)) (by decide) (by decide)
                          have hf := hf.m (i := 10) (v := nI (j + 1)) (by decide)
                          refine c200t (by exact hF) (by exact hX) (j := p) (lo := 0) (hi := 5) hSp (by decide) hd (fun s152 f152 hJ hpl => ?_)
                          have h11 := hJ.1
                          refine k_v ?_ rfl
                          have hF := Fx.fr (by exact hF) f152.1
                          have hX := MT.fm (by exact hX) f152 (by decide) (by decide) (by decide) (by decide) (by decide)
                          have hf := hf.tr (f152.mono (by decide) (by decide))
                          have hv := hv.fm f152 (by decide) (by decide)
                          have e22 := (f152.f (i := 22) (by decide)).trans e22
                          refine g_is t201_155 (Nat.le_of_ble_eq_true rfl) (am_s1_4 rfl) ?_
                          refine g_p t201_157 rfl ?_
                          refine r_gete t201_158 (f80 hF) rfl rfl h11 ?_
                          refine g_p t201_161 rfl ?_
                          refine g_ceq t201_162 (fun h162 => ?_) (fun h162 => ?_)
                          · refine g_p t201_166 rfl ?_
                            refine n_ne t201_167 (by omega) (fun h167 => ?_) (fun h167 => ?_)
                            · refine g_p t201_179 rfl ?_
                              refine r_getr t201_180 (f80 hF) rfl rfl ?_
                              refine g_p t201_183 rfl ?_
                              refine g_p t201_184 rfl ?_
                              refine r_iast t201_186 (f86 hF) (by decide) (by omega) ?_
                              refine g_p t201_187 rfl ?_
                              refine r_cv t201_188 (f80 hF) rfl ?_
                              have hf := hf.w (p := 86) (i := 2) (v := nI (sgn t p - 48)) (by decide) (by decide)
                              have hJ : MJ t (p + 1) (wi s152 86 2 (nI (sgn t p - 48))) := hJ
                              have hv : SV (o.1, some (sgn t p - 48), o.2.2) (wi s152 86 2 (nI (sgn t p - 48))) := ⟨(ri_wi_j (by decide)).trans hv.1, ri_wi_eq, (ri_wi_ne (by decide)).trans hv.2.2⟩
                              have hX : MT 81 120 0 t (wi s152 86 2 (nI (sgn t p - 48))) := hX.fm (A := [86]) (B' := []) (FM.rf.w (by decide) (by decide)) (by decide) (by decide) (by decide) (by decide) (by decide)
                              have e22 : ri (wi s152 86 2 (nI (sgn t p - 48))) 80 22 = nI (pdv t 2 5 (sl0 t)) := e22
                              have hsp2 : skp t (skp t (p + 1)) = skp t (p + 1) := skp_s rfl
                              have hS := hJ.ms
                              have hsp := hsp2
                              refine c183 (by exact hF) (by exact hX) (by exact hS) (fun s188 f188 hJ => ?_)
                              have hS := hJ.m2 hsp
                              have e10 := hJ.2.2
                              have h11 := hJ.1
                              refine k_v ?_ rfl
                              have hF := Fx.fr (by exact hF) f188.1
                              have hX := MT.fm (by exact hX) f188 (by decide) (by decide) (by decide) (by decide) (by decide)
                              have hf := hf.tr (f188.mono (by decide) (by decide))
                              have hv := hv.fm f188 (by decide) (by decide)
                              have e22 := (f188.f (i := 22) (by decide)).trans e22
                              refine g_isn t201_191 (Nat.le_of_ble_eq_true rfl) (am_s1_2 rfl) ?_
                              refine g_goto t201_192 ?_
                              exact ih _ _ s188 _ _ rfl hn2 he hF hX hf hJ hsp hv e22
                            · exfalso; omega
                          · exact absurd rfl h162
                        · exfalso; omega
                      · exact no_b h116 rfl
                  · exfalso; omega
                · exact absurd rfl h80
            · have he : ∃ o2, Z = (o2, .inr p) := by
                have e1 : ∃ o2, sit t (o, .inl j) = (o2, .inr p) := by
                  unfold sit
                  rw [if_neg (fun h => cr h.2)]; rw [if_pos ⟨hs, show psg t (Sum.inl j) = 119 from hc⟩]
                  refine ⟨(o.1, some (pdv t 0 5 (pst t (.inl j))), o.2.2), ?_⟩
                  show (_, pdg t 0 5 (pst t (.inl j))) = _
                  rw [hpst]
                  have e4 : pdg t 0 5 (.inl p) = .inr p := if_neg hd
                  rw [e4]
                obtain ⟨o2, e1⟩ := e1
                exact ⟨o2, by rw [he, e1, sil_r]⟩
              refine g_p t201_71 rfl ?_
              refine g_k (n := 114) t201_72 rfl rfl ?_
              refine n_ceq t201_74 (by omega) (by omega) (fun h74 => ?_) (fun h74 => ?_)
              · refine g_p t201_89 rfl ?_
                refine g_k (n := 114) t201_90 rfl rfl ?_
                refine n_cne t201_92 (by omega) (by omega) (fun h92 => ?_) (fun h92 => ?_)
                · refine g_p t201_99 rfl ?_
                  refine g_k (n := 119) t201_100 rfl rfl ?_
                  refine n_cne t201_102 (by omega) (by omega) (fun h102 => ?_) (fun h102 => ?_)
                  · exact absurd rfl h102
                  · refine g_k (n := 2) t201_105 rfl rfl ?_
                    refine g_goto t201_106 ?_
                    refine g_isn t201_110 (Nat.le_of_ble_eq_true rfl) (am_s1_3 rfl) ?_
                    refine g_p t201_111 rfl ?_
                    refine g_p t201_112 rfl ?_
                    refine g_cs t201_113 rfl rfl rfl ?_
                    refine c177 (tb_lt o) (by decide) ?_
                    rw [(tb_t o).2.1, hns]
                    refine k_v ?_ rfl
                    refine b_eq t201_116 (fun h116 => ?_) (fun h116 => ?_)
                    · refine g_p t201_125 rfl ?_
                      refine g_k (n := 1) t201_126 rfl rfl ?_
                      refine g_p t201_127 rfl ?_
                      refine g_ishl t201_128 ?_
                      rw [shl1 2 (by decide)]
                      refine g_ior t201_129 ?_
                      rw [nI_or (by have := tb_lt o; omega) (by decide), tb_w (v := sgn t p - 48) hns]
                      refine g_isn t201_130 (Nat.le_of_ble_eq_true rfl) (am_s1_1 rfl) ?_
                      refine g_p t201_131 rfl ?_
                      refine g_p t201_132 rfl ?_
                      refine r_gete t201_133 (f80 hF) rfl rfl e10 ?_
                      refine g_k (n := 1) t201_136 rfl rfl ?_
                      refine g_addn t201_137 ?_
                      refine r_puti t201_138 (f80 hF) rfl rfl ?_
                      refine g_p t201_141 rfl ?_
                      refine g_p t201_142 rfl ?_
                      refine n_ne t201_143 (by omega) (fun h143 => ?_) (fun h143 => ?_)
                      · refine g_k (n := 0) t201_150 rfl rfl ?_
                        refine g_k (n := 5) t201_151 rfl rfl ?_
                        refine r_cv t201_152 (f80 hF) rfl ?_
                        have hX := MT.w8 (i := 10) (v := nI (j + 1)) (by exact hX) (by decide) (by decide) (by decide)
                        have hJ := hJ.up hjl
                        have hSp : MS t (.inl p) (wi s' 80 10 (nI (j + 1))) := by have h9 := hJ.ms; rw [← hp] at h9; exact h9
                        have hv : SV o (wi s' 80 10 (nI (j + 1))) := hv.fm (A := []) (B := [10]) (FM.rf.m (i := 10) (v := nI (j + 1)) (by decide)) (by decide) (by decide)
                        have hf := hf.m (i := 10) (v := nI (j + 1)) (by decide)
                        refine c200f (by exact hF) (by exact hX) (j := p) (lo := 0) (hi := 5) hSp (by decide) (by decide) hd (fun s152 f152 hE => ?_)
                        have hne := hE.ne h120
                        refine k_v ?_ rfl
                        have hF := Fx.fr (by exact hF) f152.1
                        have hX := MT.fm (by exact hX) f152 (by decide) (by decide) (by decide) (by decide) (by decide)
                        have hf := hf.tr (f152.mono (by decide) (by decide))
                        have hv := hv.fm f152 (by decide) (by decide)
                        have e22 := (f152.f (i := 22) (by decide)).trans e22
                        refine g_is t201_155 (Nat.le_of_ble_eq_true rfl) (am_s1_4 rfl) ?_
                        refine g_p t201_157 rfl ?_
                        refine r_geti t201_158 (f80 hF) rfl rfl ?_
                        refine g_p t201_161 rfl ?_
                        refine g_ceq t201_162 (fun h162 => ?_) (fun h162 => ?_)
                        · exact absurd h162 hne
                        · obtain ⟨o2, he⟩ := he
                          exact v_ret t201_165 (RED _ p hf (by rw [he]) hE)
                      · exfalso; omega
                    · exact no_b h116 rfl
                · exfalso; omega
              · refine g_p t201_77 rfl ?_
                refine g_k (n := 119) t201_78 rfl rfl ?_
                refine n_ceq t201_80 (by omega) (by omega) (fun h80 => ?_) (fun h80 => ?_)
                · refine g_p t201_89 rfl ?_
                  refine g_k (n := 114) t201_90 rfl rfl ?_
                  refine n_cne t201_92 (by omega) (by omega) (fun h92 => ?_) (fun h92 => ?_)
                  · refine g_p t201_99 rfl ?_
                    refine g_k (n := 119) t201_100 rfl rfl ?_
                    refine n_cne t201_102 (by omega) (by omega) (fun h102 => ?_) (fun h102 => ?_)
                    · exact absurd rfl h102
                    · refine g_k (n := 2) t201_105 rfl rfl ?_
                      refine g_goto t201_106 ?_
                      refine g_isn t201_110 (Nat.le_of_ble_eq_true rfl) (am_s1_3 rfl) ?_
                      refine g_p t201_111 rfl ?_
                      refine g_p t201_112 rfl ?_
                      refine g_cs t201_113 rfl rfl rfl ?_
                      refine c177 (tb_lt o) (by decide) ?_
                      rw [(tb_t o).2.1, hns]
                      refine k_v ?_ rfl
                      refine b_eq t201_116 (fun h116 => ?_) (fun h116 => ?_)
                      · refine g_p t201_125 rfl ?_
                        refine g_k (n := 1) t201_126 rfl rfl ?_
                        refine g_p t201_127 rfl ?_
                        refine g_ishl t201_128 ?_
                        rw [shl1 2 (by decide)]
                        refine g_ior t201_129 ?_
                        rw [nI_or (by have := tb_lt o; omega) (by decide), tb_w (v := sgn t p - 48) hns]
                        refine g_isn t201_130 (Nat.le_of_ble_eq_true rfl) (am_s1_1 rfl) ?_
                        refine g_p t201_131 rfl ?_
                        refine g_p t201_132 rfl ?_
                        refine r_gete t201_133 (f80 hF) rfl rfl e10 ?_
                        refine g_k (n := 1) t201_136 rfl rfl ?_
                        refine g_addn t201_137 ?_
                        refine r_puti t201_138 (f80 hF) rfl rfl ?_
                        refine g_p t201_141 rfl ?_
                        refine g_p t201_142 rfl ?_
                        refine n_ne t201_143 (by omega) (fun h143 => ?_) (fun h143 => ?_)
                        · refine g_k (n := 0) t201_150 rfl rfl ?_
                          refine g_k (n := 5) t201_151 rfl rfl ?_
                          refine r_cv t201_152 (f80 hF) rfl ?_
                          have hX := MT.w8 (i := 10) (v := nI (j + 1)) (by exact hX) (by decide) (by decide) (by decide)
                          have hJ := hJ.up hjl
                          have hSp : MS t (.inl p) (wi s' 80 10 (nI (j + 1))) := by have h9 := hJ.ms; rw [← hp] at h9; exact h9
                          have hv : SV o (wi s' 80 10 (nI (j + 1))) := hv.fm (A := []) (B := [10]) (FM.rf.m (i := 10) (v := nI (j + 1)) (by decide)) (by decide) (by decide)
                          have hf := hf.m (i := 10) (v := nI (j + 1)) (by decide)
                          refine c200f (by exact hF) (by exact hX) (j := p) (lo := 0) (hi := 5) hSp (by decide) (by decide) hd (fun s152 f152 hE => ?_)
                          have hne := hE.ne h120
                          refine k_v ?_ rfl
                          have hF := Fx.fr (by exact hF) f152.1
                          have hX := MT.fm (by exact hX) f152 (by decide) (by decide) (by decide) (by decide) (by decide)
                          have hf := hf.tr (f152.mono (by decide) (by decide))
                          have hv := hv.fm f152 (by decide) (by decide)
                          have e22 := (f152.f (i := 22) (by decide)).trans e22
                          refine g_is t201_155 (Nat.le_of_ble_eq_true rfl) (am_s1_4 rfl) ?_
                          refine g_p t201_157 rfl ?_
                          refine r_geti t201_158 (f80 hF) rfl rfl ?_
                          refine g_p t201_161 rfl ?_
                          refine g_ceq t201_162 (fun h162 => ?_) (fun h162 => ?_)
                          · exact absurd h162 hne
                          · obtain ⟨o2, he⟩ := he
                            exact v_ret t201_165 (RED _ p hf (by rw [he]) hE)
                        · exfalso; omega
                      · exact no_b h116 rfl
                  · exfalso; omega
                · exact absurd rfl h80
        by_cases cd : sgn t j = 100
        · have hc := cd
          have hJl : lk (sgn t j) = nI 100 := by rw [hc]; rfl
          rw [hJl]
          cases hs : o.2.2 with
          | some v0 =>
            have he : Z = (o, .inr j) := by
              have e1 : sit t (o, .inl j) = (o, .inr j) := by
                unfold sit
                rw [if_neg (fun h => by have h8 : sgn t j = 114 := h.2; omega), if_neg (fun h => by have h8 : sgn t j = 119 := h.2; omega), if_neg (fun h => by have h8 := h.1; rw [show o.2.2 = some v0 from hs] at h8; cases h8)]; rfl
              rw [he, e1, sil_r]
            refine g_p t201_71 rfl ?_
            refine g_k (n := 114) t201_72 rfl rfl ?_
            refine n_ceq t201_74 (by omega) (by omega) (fun h74 => ?_) (fun h74 => ?_)
            · refine g_p t201_89 rfl ?_
              refine g_k (n := 114) t201_90 rfl rfl ?_
              refine n_cne t201_92 (by omega) (by omega) (fun h92 => ?_) (fun h92 => ?_)
              · refine g_p t201_99 rfl ?_
                refine g_k (n := 119) t201_100 rfl rfl ?_
                refine n_cne t201_102 (by omega) (by omega) (fun h102 => ?_) (fun h102 => ?_)
                · refine g_k (n := 0) t201_109 rfl rfl ?_
                  refine g_isn t201_110 (Nat.le_of_ble_eq_true rfl) (am_s1_3 rfl) ?_
                  refine g_p t201_111 rfl ?_
                  refine g_p t201_112 rfl ?_
                  refine g_cs t201_113 rfl rfl rfl ?_
                  refine c177 (tb_lt o) (by decide) ?_
                  rw [(tb_t o).2.2, show o.2.2.isSome = true from (by rw [hs]; rfl)]
                  refine k_v ?_ rfl
                  refine b_eq t201_116 (fun h116 => ?_) (fun h116 => ?_)
                  · exact no_b rfl h116
                  · refine g_p t201_119 rfl ?_
                    refine r_cv t201_120 (f80 hF) rfl ?_
                    refine c184 (by exact hF) hJ (fun s2 f2 hE => ?_)
                    refine k_v ?_ rfl
                    refine g_p t201_123 rfl ?_
                    exact v_ret t201_124 (RED _ j (hf.tr (f2.mono (by decide) (by decide))) (by rw [he]) hE)
                · exfalso; omega
              · exfalso; omega
            · refine g_p t201_77 rfl ?_
              refine g_k (n := 119) t201_78 rfl rfl ?_
              refine n_ceq t201_80 (by omega) (by omega) (fun h80 => ?_) (fun h80 => ?_)
              · refine g_p t201_89 rfl ?_
                refine g_k (n := 114) t201_90 rfl rfl ?_
                refine n_cne t201_92 (by omega) (by omega) (fun h92 => ?_) (fun h92 => ?_)
                · refine g_p t201_99 rfl ?_
                  refine g_k (n := 119) t201_100 rfl rfl ?_
                  refine n_cne t201_102 (by omega) (by omega) (fun h102 => ?_) (fun h102 => ?_)
                  · refine g_k (n := 0) t201_109 rfl rfl ?_
                    refine g_isn t201_110 (Nat.le_of_ble_eq_true rfl) (am_s1_3 rfl) ?_
                    refine g_p t201_111 rfl ?_
                    refine g_p t201_112 rfl ?_
                    refine g_cs t201_113 rfl rfl rfl ?_
                    refine c177 (tb_lt o) (by decide) ?_
                    rw [(tb_t o).2.2, show o.2.2.isSome = true from (by rw [hs]; rfl)]
                    refine k_v ?_ rfl
                    refine b_eq t201_116 (fun h116 => ?_) (fun h116 => ?_)
                    · exact no_b rfl h116
                    · refine g_p t201_119 rfl ?_
                      refine r_cv t201_120 (f80 hF) rfl ?_
                      refine c184 (by exact hF) hJ (fun s2 f2 hE => ?_)
                      refine k_v ?_ rfl
                      refine g_p t201_123 rfl ?_
                      exact v_ret t201_124 (RED _ j (hf.tr (f2.mono (by decide) (by decide))) (by rw [he]) hE)
                  · exfalso; omega
                · exfalso; omega
              · refine g_p t201_83 rfl ?_
                refine g_k (n := 100) t201_84 rfl rfl ?_
                refine n_cne t201_86 (by omega) (by omega) (fun h86 => ?_) (fun h86 => ?_)
                · exact absurd rfl h86
                · refine g_p t201_89 rfl ?_
                  refine g_k (n := 114) t201_90 rfl rfl ?_
                  refine n_cne t201_92 (by omega) (by omega) (fun h92 => ?_) (fun h92 => ?_)
                  · refine g_p t201_99 rfl ?_
                    refine g_k (n := 119) t201_100 rfl rfl ?_
                    refine n_cne t201_102 (by omega) (by omega) (fun h102 => ?_) (fun h102 => ?_)
                    · refine g_k (n := 0) t201_109 rfl rfl ?_
                      refine g_isn t201_110 (Nat.le_of_ble_eq_true rfl) (am_s1_3 rfl) ?_
                      refine g_p t201_111 rfl ?_
                      refine g_p t201_112 rfl ?_
                      refine g_cs t201_113 rfl rfl rfl ?_
                      refine c177 (tb_lt o) (by decide) ?_
                      rw [(tb_t o).2.2, show o.2.2.isSome = true from (by rw [hs]; rfl)]
                      refine k_v ?_ rfl
                      refine b_eq t201_116 (fun h116 => ?_) (fun h116 => ?_)
                      · exact no_b rfl h116
                      · refine g_p t201_119 rfl ?_
                        refine r_cv t201_120 (f80 hF) rfl ?_
                        refine c184 (by exact hF) hJ (fun s2 f2 hE => ?_)
                        refine k_v ?_ rfl
                        refine g_p t201_123 rfl ?_
                        exact v_ret t201_124 (RED _ j (hf.tr (f2.mono (by decide) (by decide))) (by rw [he]) hE)
                    · exfalso; omega
                  · exfalso; omega
          | none =>
            have hns : o.2.2.isSome = false := by rw [hs]; rfl
            by_cases hd : 49 ≤ sgn t p ∧ sgn t p ≤ 53
            · have he : Z = sil t n ((o.1, o.2.1, some (sgn t p - 48)), .inl (skp t (p + 1))) := by
                have e1 : sit t (o, .inl j) = ((o.1, o.2.1, some (sgn t p - 48)), .inl (skp t (p + 1))) := by
                  unfold sit
                  rw [if_neg (fun h => cr h.2), if_neg (fun h => cw h.2)]; rw [if_pos ⟨hs, show psg t (Sum.inl j) = 100 from hc⟩]
                  show (((o.1, o.2.1, some (pdv t 1 5 (pst t (.inl j)))) : O3), pdg t 1 5 (pst t (.inl j))) = _
                  rw [hpst]
                  have e3 : pdv t 1 5 (.inl p) = sgn t p - 48 := if_pos hd
                  have e4 : pdg t 1 5 (.inl p) = .inl (skp t (p + 1)) := if_pos hd
                  rw [e3, e4]
                rw [he, e1]
              have hn2 : so3 ((o.1, o.2.1, some (sgn t p - 48)) : O3) + n = 3 := by
                have h9 : so3 o + (n + 1) = 3 := hn
                unfold so3 at h9 ⊢
                rw [hns] at h9
                simp only [Option.isSome_some] at h9 ⊢
                have a1 : one true = 1 := rfl
                have a0 : one false = 0 := rfl
                omega
              refine g_p t201_71 rfl ?_
              refine g_k (n := 114) t201_72 rfl rfl ?_
              refine n_ceq t201_74 (by omega) (by omega) (fun h74 => ?_) (fun h74 => ?_)
              · refine g_p t201_89 rfl ?_
                refine g_k (n := 114) t201_90 rfl rfl ?_
                refine n_cne t201_92 (by omega) (by omega) (fun h92 => ?_) (fun h92 => ?_)
                · refine g_p t201_99 rfl ?_
                  refine g_k (n := 119) t201_100 rfl rfl ?_
                  refine n_cne t201_102 (by omega) (by omega) (fun h102 => ?_) (fun h102 => ?_)
                  · refine g_k (n := 0) t201_109 rfl rfl ?_
                    refine g_isn t201_110 (Nat.le_of_ble_eq_true rfl) (am_s1_3 rfl) ?_
                    refine g_p t201_111 rfl ?_
                    refine g_p t201_112 rfl ?_
                    refine g_cs t201_113 rfl rfl rfl ?_
                    refine c177 (tb_lt o) (by decide) ?_
                    rw [(tb_t o).2.2, hns]
                    refine k_v ?_ rfl
                    refine b_eq t201_116 (fun h116 => ?_) (fun h116 => ?_)
                    · refine g_p t201_125 rfl ?_
                      refine g_k (n := 1) t201_126 rfl rfl ?_
                      refine g_p t201_127 rfl ?_
                      refine g_ishl t201_128 ?_
                      rw [shl1 0 (by decide)]
                      refine g_ior t201_129 ?_
                      rw [nI_or (by have := tb_lt o; omega) (by decide), tb_d (v := sgn t p - 48) hns]
                      refine g_isn t201_130 (Nat.le_of_ble_eq_true rfl) (am_s1_1 rfl) ?_
                      refine g_p t201_131 rfl ?_
                      refine g_p t201_132 rfl ?_
                      refine r_gete t201_133 (f80 hF) rfl rfl e10 ?_
                      refine g_k (n := 1) t201_136 rfl rfl ?_
                      refine g_addn t201_137 ?_
                      refine r_puti t201_138 (f80 hF) rfl rfl ?_
                      refine g_p t201_141 rfl ?_
                      refine g_p t201_142 rfl ?_
                      refine n_ne t201_143 (by omega) (fun h143 => ?_) (fun h143 => ?_)
                      · exact absurd rfl h143
                      · refine g_k (n := 1) t201_146 rfl rfl ?_
                        refine g_goto t201_147 ?_
                        refine g_k (n := 5) t201_151 rfl rfl ?_
                        refine r_cv t201_152 (f80 hF) rfl ?_
                        have hX := MT.w8 (i := 10) (v := nI (j + 1)) (by exact hX) (by decide) (by decide) (by decide)
                        have hJ := hJ.up hjl
                        have hSp : MS t (.inl p) (wi s' 80 10 (nI (j + 1))) := by have h9 := hJ.ms; rw [← hp] at h9; exact h9
                        have hv : SV o (wi s' 80 10 (nI (j + 1))) := hv.fm (A := []) (B := [10]) (FM.rf.m (i := 10) (v := nI (j + 1)) (by decide)) (by decide) (by decide)
                        have hf := hf.m (i := 10) (v := nI (j + 1)) (by decide)
                        refine c200t (by exact hF) (by exact hX) (j := p) (lo := 1) (hi := 5) hSp (by decide) hd (fun s152 f152 hJ hpl => ?_)
                        have h11 := hJ.1
                        refine k_v ?_ rfl
                        have hF := Fx.fr (by exact hF) f152.1
                        have hX := MT.fm (by exact hX) f152 (by decide) (by decide) (by decide) (by decide) (by decide)
                        have hf := hf.tr (f152.mono (by decide) (by decide))
                        have hv := hv.fm f152 (by decide) (by decide)
                        have e22 := (f152.f (i := 22) (by decide)).trans e22
                        refine g_is t201_155 (Nat.le_of_ble_eq_true rfl) (am_s1_4 rfl) ?_
                        refine g_p t201_157 rfl ?_
                        refine r_gete t201_158 (f80 hF) rfl rfl h11 ?_
                        refine g_p t201_161 rfl ?_
                        refine g_ceq t201_162 (fun h162 => ?_) (fun h162 => ?_)
                        · refine g_p t201_166 rfl ?_
                          refine n_ne t201_167 (by omega) (fun h167 => ?_) (fun h167 => ?_)
                          · exact absurd rfl h167
                          · refine g_p t201_170 rfl ?_
                            refine g_p t201_171 rfl ?_
                            refine r_puti t201_173 (f80 hF) rfl rfl ?_
                            refine g_goto t201_176 ?_
                            refine g_p t201_187 rfl ?_
                            refine r_cv t201_188 (f80 hF) rfl ?_
                            have hf := hf.m (i := 23) (v := nI (sgn t p - 48)) (by decide)
                            have hJ : MJ t (p + 1) (wi s152 80 23 (nI (sgn t p - 48))) := hJ
                            have hv : SV (o.1, o.2.1, some (sgn t p - 48)) (wi s152 80 23 (nI (sgn t p - 48))) := ⟨(ri_wi_ne (by decide)).trans hv.1, (ri_wi_ne (by decide)).trans hv.2.1, ri_wi_eq⟩
                            have hX : MT 81 120 0 t (wi s152 80 23 (nI (sgn t p - 48))) := hX.w8 (by decide) (by decide) (by decide)
                            have e22 : ri (wi s152 80 23 (nI (sgn t p - 48))) 80 22 = nI (pdv t 2 5 (sl0 t)) := e22
                            have hsp2 : skp t (skp t (p + 1)) = skp t (p + 1) := skp_s rfl
                            have hS := hJ.ms
                            have hsp := hsp2
                            refine c183 (by exact hF) (by exact hX) (by exact hS) (fun s188 f188 hJ => ?_)
                            have hS := hJ.m2 hsp
                            have e10 := hJ.2.2
                            have h11 := hJ.1
                            refine k_v ?_ rfl
                            have hF := Fx.fr (by exact hF) f188.1
                            have hX := MT.fm (by exact hX) f188 (by decide) (by decide) (by decide) (by decide) (by decide)
                            have hf := hf.tr (f188.mono (by decide) (by decide))
                            have hv := hv.fm f188 (by decide) (by decide)
                            have e22 := (f188.f (i := 22) (by decide)).trans e22
                            refine g_isn t201_191 (Nat.le_of_ble_eq_true rfl) (am_s1_2 rfl) ?_
                            refine g_goto t201_192 ?_
                            exact ih _ _ s188 _ _ rfl hn2 he hF hX hf hJ hsp hv e22
                        · exact absurd rfl h162
                    · exact no_b h116 rfl
                  · exfalso; omega
                · exfalso; omega
              · refine g_p t201_77 rfl ?_
                refine g_k (n := 119) t201_78 rfl rfl ?_
                refine n_ceq t201_80 (by omega) (by omega) (fun h80 => ?_) (fun h80 => ?_)
                · refine g_p t201_89 rfl ?_
                  refine g_k (n := 114) t201_90 rfl rfl ?_
                  refine n_cne t201_92 (by omega) (by omega) (fun h92 => ?_) (fun h92 => ?_)
                  · refine g_p t201_99 rfl ?_
                    refine g_k (n := 119) t201_100 rfl rfl ?_
                    refine n_cne t201_102 (by omega) (by omega) (fun h102 => ?_) (fun h102 => ?_)
                    · refine g_k (n := 0) t201_109 rfl rfl ?_
                      refine g_isn t201_110 (Nat.le_of_ble_eq_true rfl) (am_s1_3 rfl) ?_
                      refine g_p t201_111 rfl ?_
                      refine g_p t201_112 rfl ?_
                      refine g_cs t201_113 rfl rfl rfl ?_
                      refine c177 (tb_lt o) (by decide) ?_
                      rw [(tb_t o).2.2, hns]
                      refine k_v ?_ rfl
                      refine b_eq t201_116 (fun h116 => ?_) (fun h116 => ?_)
                      · refine g_p t201_125 rfl ?_
                        refine g_k (n := 1) t201_126 rfl rfl ?_
                        refine g_p t201_127 rfl ?_
                        refine g_ishl t201_128 ?_
                        rw [shl1 0 (by decide)]
                        refine g_ior t201_129 ?_
                        rw [nI_or (by have := tb_lt o; omega) (by decide), tb_d (v := sgn t p - 48) hns]
                        refine g_isn t201_130 (Nat.le_of_ble_eq_true rfl) (am_s1_1 rfl) ?_
                        refine g_p t201_131 rfl ?_
                        refine g_p t201_132 rfl ?_
                        refine r_gete t201_133 (f80 hF) rfl rfl e10 ?_
                        refine g_k (n := 1) t201_136 rfl rfl ?_
                        refine g_addn t201_137 ?_
                        refine r_puti t201_138 (f80 hF) rfl rfl ?_
                        refine g_p t201_141 rfl ?_
                        refine g_p t201_142 rfl ?_
                        refine n_ne t201_143 (by omega) (fun h143 => ?_) (fun h143 => ?_)
                        · exact absurd rfl h143
                        · refine g_k (n := 1) t201_146 rfl rfl ?_
                          refine g_goto t201_147 ?_
                          refine g_k (n := 5) t201_151 rfl rfl ?_
                          refine r_cv t201_152 (f80 hF) rfl ?_
                          have hX := MT.w8 (i := 10) (v := nI (j + 1)) (by exact hX) (by decide) (by decide) (by decide)
                          have hJ := hJ.up hjl
                          have hSp : MS t (.inl p) (wi s' 80 10 (nI (j + 1))) := by have h9 := hJ.ms; rw [← hp] at h9; exact h9
                          have hv : SV o (wi s' 80 10 (nI (j + 1))) := hv.fm (A := []) (B := [10]) (FM.rf.m (i := 10) (v := nI (j + 1)) (by decide)) (by decide) (by decide)
                          have hf := hf.m (i := 10) (v := nI (j + 1)) (by decide)
                          refine c200t (by exact hF) (by exact hX) (j := p) (lo := 1) (hi := 5) hSp (by decide) hd (fun s152 f152 hJ hpl => ?_)
                          have h11 := hJ.1
                          refine k_v ?_ rfl
                          have hF := Fx.fr (by exact hF) f152.1
                          have hX := MT.fm (by exact hX) f152 (by decide) (by decide) (by decide) (by decide) (by decide)
                          have hf := hf.tr (f152.mono (by decide) (by decide))
                          have hv := hv.fm f152 (by decide) (by decide)
                          have e22 := (f152.f (i := 22) (by decide)).trans e22
                          refine g_is t201_155 (Nat.le_of_ble_eq_true rfl) (am_s1_4 rfl) ?_
                          refine g_p t201_157 rfl ?_
                          refine r_gete t201_158 (f80 hF) rfl rfl h11 ?_
                          refine g_p t201_161 rfl ?_
                          refine g_ceq t201_162 (fun h162 => ?_) (fun h162 => ?_)
                          · refine g_p t201_166 rfl ?_
                            refine n_ne t201_167 (by omega) (fun h167 => ?_) (fun h167 => ?_)
                            · exact absurd rfl h167
                            · refine g_p t201_170 rfl ?_
                              refine g_p t201_171 rfl ?_
                              refine r_puti t201_173 (f80 hF) rfl rfl ?_
                              refine g_goto t201_176 ?_
                              refine g_p t201_187 rfl ?_
                              refine r_cv t201_188 (f80 hF) rfl ?_
                              have hf := hf.m (i := 23) (v := nI (sgn t p - 48)) (by decide)
                              have hJ : MJ t (p + 1) (wi s152 80 23 (nI (sgn t p - 48))) := hJ
                              have hv : SV (o.1, o.2.1, some (sgn t p - 48)) (wi s152 80 23 (nI (sgn t p - 48))) := ⟨(ri_wi_ne (by decide)).trans hv.1, (ri_wi_ne (by decide)).trans hv.2.1, ri_wi_eq⟩
                              have hX : MT 81 120 0 t (wi s152 80 23 (nI (sgn t p - 48))) := hX.w8 (by decide) (by decide) (by decide)
                              have e22 : ri (wi s152 80 23 (nI (sgn t p - 48))) 80 22 = nI (pdv t 2 5 (sl0 t)) := e22
                              have hsp2 : skp t (skp t (p + 1)) = skp t (p + 1) := skp_s rfl
                              have hS := hJ.ms
                              have hsp := hsp2
                              refine c183 (by exact hF) (by exact hX) (by exact hS) (fun s188 f188 hJ => ?_)
                              have hS := hJ.m2 hsp
                              have e10 := hJ.2.2
                              have h11 := hJ.1
                              refine k_v ?_ rfl
                              have hF := Fx.fr (by exact hF) f188.1
                              have hX := MT.fm (by exact hX) f188 (by decide) (by decide) (by decide) (by decide) (by decide)
                              have hf := hf.tr (f188.mono (by decide) (by decide))
                              have hv := hv.fm f188 (by decide) (by decide)
                              have e22 := (f188.f (i := 22) (by decide)).trans e22
                              refine g_isn t201_191 (Nat.le_of_ble_eq_true rfl) (am_s1_2 rfl) ?_
                              refine g_goto t201_192 ?_
                              exact ih _ _ s188 _ _ rfl hn2 he hF hX hf hJ hsp hv e22
                          · exact absurd rfl h162
                      · exact no_b h116 rfl
                    · exfalso; omega
                  · exfalso; omega
                · refine g_p t201_83 rfl ?_
                  refine g_k (n := 100) t201_84 rfl rfl ?_
                  refine n_cne t201_86 (by omega) (by omega) (fun h86 => ?_) (fun h86 => ?_)
                  · exact absurd rfl h86
                  · refine g_p t201_89 rfl ?_
                    refine g_k (n := 114) t201_90 rfl rfl ?_
                    refine n_cne t201_92 (by omega) (by omega) (fun h92 => ?_) (fun h92 => ?_)
                    · refine g_p t201_99 rfl ?_
                      refine g_k (n := 119) t201_100 rfl rfl ?_
                      refine n_cne t201_102 (by omega) (by omega) (fun h102 => ?_) (fun h102 => ?_)
                      · refine g_k (n := 0) t201_109 rfl rfl ?_
                        refine g_isn t201_110 (Nat.le_of_ble_eq_true rfl) (am_s1_3 rfl) ?_
                        refine g_p t201_111 rfl ?_
                        refine g_p t201_112 rfl ?_
                        refine g_cs t201_113 rfl rfl rfl ?_
                        refine c177 (tb_lt o) (by decide) ?_
                        rw [(tb_t o).2.2, hns]
                        refine k_v ?_ rfl
                        refine b_eq t201_116 (fun h116 => ?_) (fun h116 => ?_)
                        · refine g_p t201_125 rfl ?_
                          refine g_k (n := 1) t201_126 rfl rfl ?_
                          refine g_p t201_127 rfl ?_
                          refine g_ishl t201_128 ?_
                          rw [shl1 0 (by decide)]
                          refine g_ior t201_129 ?_
                          rw [nI_or (by have := tb_lt o; omega) (by decide), tb_d (v := sgn t p - 48) hns]
                          refine g_isn t201_130 (Nat.le_of_ble_eq_true rfl) (am_s1_1 rfl) ?_
                          refine g_p t201_131 rfl ?_
                          refine g_p t201_132 rfl ?_
                          refine r_gete t201_133 (f80 hF) rfl rfl e10 ?_
                          refine g_k (n := 1) t201_136 rfl rfl ?_
                          refine g_addn t201_137 ?_
                          refine r_puti t201_138 (f80 hF) rfl rfl ?_
                          refine g_p t201_141 rfl ?_
                          refine g_p t201_142 rfl ?_
                          refine n_ne t201_143 (by omega) (fun h143 => ?_) (fun h143 => ?_)
                          · exact absurd rfl h143
                          · refine g_k (n := 1) t201_146 rfl rfl ?_
                            refine g_goto t201_147 ?_
                            refine g_k (n := 5) t201_151 rfl rfl ?_
                            refine r_cv t201_152 (f80 hF) rfl ?_
                            have hX := MT.w8 (i := 10) (v := nI (j + 1)) (by exact hX) (by decide) (by decide) (by decide)
                            have hJ := hJ.up hjl
                            have hSp : MS t (.inl p) (wi s' 80 10 (nI (j + 1))) := by have h9 := hJ.ms; rw [← hp] at h9; exact h9
                            have hv : SV o (wi s' 80 10 (nI (j + 1))) := hv.fm (A := []) (B := [10]) (FM.rf.m (i := 10) (v := nI (j + 1)) (by decide)) (by decide) (by decide)
                            have hf := hf.m (i := 10) (v := nI (j + 1)) (by decide)
                            refine c200t (by exact hF) (by exact hX) (j := p) (lo := 1) (hi := 5) hSp (by decide) hd (fun s152 f152 hJ hpl => ?_)
                            have h11 := hJ.1
                            refine k_v ?_ rfl
                            have hF := Fx.fr (by exact hF) f152.1
                            have hX := MT.fm (by exact hX) f152 (by decide) (by decide) (by decide) (by decide) (by decide)
                            have hf := hf.tr (f152.mono (by decide) (by decide))
                            have hv := hv.fm f152 (by decide) (by decide)
                            have e22 := (f152.f (i := 22) (by decide)).trans e22
                            refine g_is t201_155 (Nat.le_of_ble_eq_true rfl) (am_s1_4 rfl) ?_
                            refine g_p t201_157 rfl ?_
                            refine r_gete t201_158 (f80 hF) rfl rfl h11 ?_
                            refine g_p t201_161 rfl ?_
                            refine g_ceq t201_162 (fun h162 => ?_) (fun h162 => ?_)
                            · refine g_p t201_166 rfl ?_
                              refine n_ne t201_167 (by omega) (fun h167 => ?_) (fun h167 => ?_)
                              · exact absurd rfl h167
                              · refine g_p t201_170 rfl ?_
                                refine g_p t201_171 rfl ?_
                                refine r_puti t201_173 (f80 hF) rfl rfl ?_
                                refine g_goto t201_176 ?_
                                refine g_p t201_187 rfl ?_
                                refine r_cv t201_188 (f80 hF) rfl ?_
                                have hf := hf.m (i := 23) (v := nI (sgn t p - 48)) (by decide)
                                have hJ : MJ t (p + 1) (wi s152 80 23 (nI (sgn t p - 48))) := hJ
                                have hv : SV (o.1, o.2.1, some (sgn t p - 48)) (wi s152 80 23 (nI (sgn t p - 48))) := ⟨(ri_wi_ne (by decide)).trans hv.1, (ri_wi_ne (by decide)).trans hv.2.1, ri_wi_eq⟩
                                have hX : MT 81 120 0 t (wi s152 80 23 (nI (sgn t p - 48))) := hX.w8 (by decide) (by decide) (by decide)
                                have e22 : ri (wi s152 80 23 (nI (sgn t p - 48))) 80 22 = nI (pdv t 2 5 (sl0 t)) := e22
                                have hsp2 : skp t (skp t (p + 1)) = skp t (p + 1) := skp_s rfl
                                have hS := hJ.ms
                                have hsp := hsp2
                                refine c183 (by exact hF) (by exact hX) (by exact hS) (fun s188 f188 hJ => ?_)
                                have hS := hJ.m2 hsp
                                have e10 := hJ.2.2
                                have h11 := hJ.1
                                refine k_v ?_ rfl
                                have hF := Fx.fr (by exact hF) f188.1
                                have hX := MT.fm (by exact hX) f188 (by decide) (by decide) (by decide) (by decide) (by decide)
                                have hf := hf.tr (f188.mono (by decide) (by decide))
                                have hv := hv.fm f188 (by decide) (by decide)
                                have e22 := (f188.f (i := 22) (by decide)).trans e22
                                refine g_isn t201_191 (Nat.le_of_ble_eq_true rfl) (am_s1_2 rfl) ?_
                                refine g_goto t201_192 ?_
                                exact ih _ _ s188 _ _ rfl hn2 he hF hX hf hJ hsp hv e22
                            · exact absurd rfl h162
                        · exact no_b h116 rfl
                      · exfalso; omega
                    · exfalso; omega
            · have he : ∃ o2, Z = (o2, .inr p) := by
                have e1 : ∃ o2, sit t (o, .inl j) = (o2, .inr p) := by
                  unfold sit
                  rw [if_neg (fun h => cr h.2), if_neg (fun h => cw h.2)]; rw [if_pos ⟨hs, show psg t (Sum.inl j) = 100 from hc⟩]
                  refine ⟨(o.1, o.2.1, some (pdv t 1 5 (pst t (.inl j)))), ?_⟩
                  show (_, pdg t 1 5 (pst t (.inl j))) = _
                  rw [hpst]
                  have e4 : pdg t 1 5 (.inl p) = .inr p := if_neg hd
                  rw [e4]
                obtain ⟨o2, e1⟩ := e1
                exact ⟨o2, by rw [he, e1, sil_r]⟩
              refine g_p t201_71 rfl ?_
              refine g_k (n := 114) t201_72 rfl rfl ?_
              refine n_ceq t201_74 (by omega) (by omega) (fun h74 => ?_) (fun h74 => ?_)
              · refine g_p t201_89 rfl ?_
                refine g_k (n := 114) t201_90 rfl rfl ?_
                refine n_cne t201_92 (by omega) (by omega) (fun h92 => ?_) (fun h92 => ?_)
                · refine g_p t201_99 rfl ?_
                  refine g_k (n := 119) t201_100 rfl rfl ?_
                  refine n_cne t201_102 (by omega) (by omega) (fun h102 => ?_) (fun h102 => ?_)
                  · refine g_k (n := 0) t201_109 rfl rfl ?_
                    refine g_isn t201_110 (Nat.le_of_ble_eq_true rfl) (am_s1_3 rfl) ?_
                    refine g_p t201_111 rfl ?_
                    refine g_p t201_112 rfl ?_
                    refine g_cs t201_113 rfl rfl rfl ?_
                    refine c177 (tb_lt o) (by decide) ?_
                    rw [(tb_t o).2.2, hns]
                    refine k_v ?_ rfl
                    refine b_eq t201_116 (fun h116 => ?_) (fun h116 => ?_)
                    · refine g_p t201_125 rfl ?_
                      refine g_k (n := 1) t201_126 rfl rfl ?_
                      refine g_p t201_127 rfl ?_
                      refine g_ishl t201_128 ?_
                      rw [shl1 0 (by decide)]
                      refine g_ior t201_129 ?_
                      rw [nI_or (by have := tb_lt o; omega) (by decide), tb_d (v := sgn t p - 48) hns]
                      refine g_isn t201_130 (Nat.le_of_ble_eq_true rfl) (am_s1_1 rfl) ?_
                      refine g_p t201_131 rfl ?_
                      refine g_p t201_132 rfl ?_
                      refine r_gete t201_133 (f80 hF) rfl rfl e10 ?_
                      refine g_k (n := 1) t201_136 rfl rfl ?_
                      refine g_addn t201_137 ?_
                      refine r_puti t201_138 (f80 hF) rfl rfl ?_
                      refine g_p t201_141 rfl ?_
                      refine g_p t201_142 rfl ?_
                      refine n_ne t201_143 (by omega) (fun h143 => ?_) (fun h143 => ?_)
                      · exact absurd rfl h143
                      · refine g_k (n := 1) t201_146 rfl rfl ?_
                        refine g_goto t201_147 ?_
                        refine g_k (n := 5) t201_151 rfl rfl ?_
                        refine r_cv t201_152 (f80 hF) rfl ?_
                        have hX := MT.w8 (i := 10) (v := nI (j + 1)) (by exact hX) (by decide) (by decide) (by decide)
                        have hJ := hJ.up hjl
                        have hSp : MS t (.inl p) (wi s' 80 10 (nI (j + 1))) := by have h9 := hJ.ms; rw [← hp] at h9; exact h9
                        have hv : SV o (wi s' 80 10 (nI (j + 1))) := hv.fm (A := []) (B := [10]) (FM.rf.m (i := 10) (v := nI (j + 1)) (by decide)) (by decide) (by decide)
                        have hf := hf.m (i := 10) (v := nI (j + 1)) (by decide)
                        refine c200f (by exact hF) (by exact hX) (j := p) (lo := 1) (hi := 5) hSp (by decide) (by decide) hd (fun s152 f152 hE => ?_)
                        have hne := hE.ne h120
                        refine k_v ?_ rfl
                        have hF := Fx.fr (by exact hF) f152.1
                        have hX := MT.fm (by exact hX) f152 (by decide) (by decide) (by decide) (by decide) (by decide)
                        have hf := hf.tr (f152.mono (by decide) (by decide))
                        have hv := hv.fm f152 (by decide) (by decide)
                        have e22 := (f152.f (i := 22) (by decide)).trans e22
                        refine g_is t201_155 (Nat.le_of_ble_eq_true rfl) (am_s1_4 rfl) ?_
                        refine g_p t201_157 rfl ?_
                        refine r_geti t201_158 (f80 hF) rfl rfl ?_
                        refine g_p t201_161 rfl ?_
                        refine g_ceq t201_162 (fun h162 => ?_) (fun h162 => ?_)
                        · exact absurd h162 hne
                        · obtain ⟨o2, he⟩ := he
                          exact v_ret t201_165 (RED _ p hf (by rw [he]) hE)
                    · exact no_b h116 rfl
                  · exfalso; omega
                · exfalso; omega
              · refine g_p t201_77 rfl ?_
                refine g_k (n := 119) t201_78 rfl rfl ?_
                refine n_ceq t201_80 (by omega) (by omega) (fun h80 => ?_) (fun h80 => ?_)
                · refine g_p t201_89 rfl ?_
                  refine g_k (n := 114) t201_90 rfl rfl ?_
                  refine n_cne t201_92 (by omega) (by omega) (fun h92 => ?_) (fun h92 => ?_)
                  · refine g_p t201_99 rfl ?_
                    refine g_k (n := 119) t201_100 rfl rfl ?_
                    refine n_cne t201_102 (by omega) (by omega) (fun h102 => ?_) (fun h102 => ?_)
                    · refine g_k (n := 0) t201_109 rfl rfl ?_
                      refine g_isn t201_110 (Nat.le_of_ble_eq_true rfl) (am_s1_3 rfl) ?_
                      refine g_p t201_111 rfl ?_
                      refine g_p t201_112 rfl ?_
                      refine g_cs t201_113 rfl rfl rfl ?_
                      refine c177 (tb_lt o) (by decide) ?_
                      rw [(tb_t o).2.2, hns]
                      refine k_v ?_ rfl
                      refine b_eq t201_116 (fun h116 => ?_) (fun h116 => ?_)
                      · refine g_p t201_125 rfl ?_
                        refine g_k (n := 1) t201_126 rfl rfl ?_
                        refine g_p t201_127 rfl ?_
                        refine g_ishl t201_128 ?_
                        rw [shl1 0 (by decide)]
                        refine g_ior t201_129 ?_
                        rw [nI_or (by have := tb_lt o; omega) (by decide), tb_d (v := sgn t p - 48) hns]
                        refine g_isn t201_130 (Nat.le_of_ble_eq_true rfl) (am_s1_1 rfl) ?_
                        refine g_p t201_131 rfl ?_
                        refine g_p t201_132 rfl ?_
                        refine r_gete t201_133 (f80 hF) rfl rfl e10 ?_
                        refine g_k (n := 1) t201_136 rfl rfl ?_
                        refine g_addn t201_137 ?_
                        refine r_puti t201_138 (f80 hF) rfl rfl ?_
                        refine g_p t201_141 rfl ?_
                        refine g_p t201_142 rfl ?_
                        refine n_ne t201_143 (by omega) (fun h143 => ?_) (fun h143 => ?_)
                        · exact absurd rfl h143
                        · refine g_k (n := 1) t201_146 rfl rfl ?_
                          refine g_goto t201_147 ?_
                          refine g_k (n := 5) t201_151 rfl rfl ?_
                          refine r_cv t201_152 (f80 hF) rfl ?_
                          have hX := MT.w8 (i := 10) (v := nI (j + 1)) (by exact hX) (by decide) (by decide) (by decide)
                          have hJ := hJ.up hjl
                          have hSp : MS t (.inl p) (wi s' 80 10 (nI (j + 1))) := by have h9 := hJ.ms; rw [← hp] at h9; exact h9
                          have hv : SV o (wi s' 80 10 (nI (j + 1))) := hv.fm (A := []) (B := [10]) (FM.rf.m (i := 10) (v := nI (j + 1)) (by decide)) (by decide) (by decide)
                          have hf := hf.m (i := 10) (v := nI (j + 1)) (by decide)
                          refine c200f (by exact hF) (by exact hX) (j := p) (lo := 1) (hi := 5) hSp (by decide) (by decide) hd (fun s152 f152 hE => ?_)
                          have hne := hE.ne h120
                          refine k_v ?_ rfl
                          have hF := Fx.fr (by exact hF) f152.1
                          have hX := MT.fm (by exact hX) f152 (by decide) (by decide) (by decide) (by decide) (by decide)
                          have hf := hf.tr (f152.mono (by decide) (by decide))
                          have hv := hv.fm f152 (by decide) (by decide)
                          have e22 := (f152.f (i := 22) (by decide)).trans e22
                          refine g_is t201_155 (Nat.le_of_ble_eq_true rfl) (am_s1_4 rfl) ?_
                          refine g_p t201_157 rfl ?_
                          refine r_geti t201_158 (f80 hF) rfl rfl ?_
                          refine g_p t201_161 rfl ?_
                          refine g_ceq t201_162 (fun h162 => ?_) (fun h162 => ?_)
                          · exact absurd h162 hne
                          · obtain ⟨o2, he⟩ := he
                            exact v_ret t201_165 (RED _ p hf (by rw [he]) hE)
                      · exact no_b h116 rfl
                    · exfalso; omega
                  · exfalso; omega
                · refine g_p t201_83 rfl ?_
                  refine g_k (n := 100) t201_84 rfl rfl ?_
                  refine n_cne t201_86 (by omega) (by omega) (fun h86 => ?_) (fun h86 => ?_)
                  · exact absurd rfl h86
                  · refine g_p t201_89 rfl ?_
                    refine g_k (n := 114) t201_90 rfl rfl ?_
                    refine n_cne t201_92 (by omega) (by omega) (fun h92 => ?_) (fun h92 => ?_)
                    · refine g_p t201_99 rfl ?_
                      refine g_k (n := 119) t201_100 rfl rfl ?_
                      refine n_cne t201_102 (by omega) (by omega) (fun h102 => ?_) (fun h102 => ?_)
                      · refine g_k (n := 0) t201_109 rfl rfl ?_
                        refine g_isn t201_110 (Nat.le_of_ble_eq_true rfl) (am_s1_3 rfl) ?_
                        refine g_p t201_111 rfl ?_
                        refine g_p t201_112 rfl ?_
                        refine g_cs t201_113 rfl rfl rfl ?_
                        refine c177 (tb_lt o) (by decide) ?_
                        rw [(tb_t o).2.2, hns]
                        refine k_v ?_ rfl
                        refine b_eq t201_116 (fun h116 => ?_) (fun h116 => ?_)
                        · refine g_p t201_125 rfl ?_
                          refine g_k (n := 1) t201_126 rfl rfl ?_
                          refine g_p t201_127 rfl ?_
                          refine g_ishl t201_128 ?_
                          rw [shl1 0 (by decide)]
                          refine g_ior t201_129 ?_
                          rw [nI_or (by have := tb_lt o; omega) (by decide), tb_d (v := sgn t p - 48) hns]
                          refine g_isn t201_130 (Nat.le_of_ble_eq_true rfl) (am_s1_1 rfl) ?_
                          refine g_p t201_131 rfl ?_
                          refine g_p t201_132 rfl ?_
                          refine r_gete t201_133 (f80 hF) rfl rfl e10 ?_
                          refine g_k (n := 1) t201_136 rfl rfl ?_
                          refine g_addn t201_137 ?_
                          refine r_puti t201_138 (f80 hF) rfl rfl ?_
                          refine g_p t201_141 rfl ?_
                          refine g_p t201_142 rfl ?_
                          refine n_ne t201_143 (by omega) (fun h143 => ?_) (fun h143 => ?_)
                          · exact absurd rfl h143
                          · refine g_k (n := 1) t201_146 rfl rfl ?_
                            refine g_goto t201_147 ?_
                            refine g_k (n := 5) t201_151 rfl rfl ?_
                            refine r_cv t201_152 (f80 hF) rfl ?_
                            have hX := MT.w8 (i := 10) (v := nI (j + 1)) (by exact hX) (by decide) (by decide) (by decide)
                            have hJ := hJ.up hjl
                            have hSp : MS t (.inl p) (wi s' 80 10 (nI (j + 1))) := by have h9 := hJ.ms; rw [← hp] at h9; exact h9
                            have hv : SV o (wi s' 80 10 (nI (j + 1))) := hv.fm (A := []) (B := [10]) (FM.rf.m (i := 10) (v := nI (j + 1)) (by decide)) (by decide) (by decide)
                            have hf := hf.m (i := 10) (v := nI (j + 1)) (by decide)
                            refine c200f (by exact hF) (by exact hX) (j := p) (lo := 1) (hi := 5) hSp (by decide) (by decide) hd (fun s152 f152 hE => ?_)
                            have hne := hE.ne h120
                            refine k_v ?_ rfl
                            have hF := Fx.fr (by exact hF) f152.1
                            have hX := MT.fm (by exact hX) f152 (by decide) (by decide) (by decide) (by decide) (by decide)
                            have hf := hf.tr (f152.mono (by decide) (by decide))
                            have hv := hv.fm f152 (by decide) (by decide)
                            have e22 := (f152.f (i := 22) (by decide)).trans e22
                            refine g_is t201_155 (Nat.le_of_ble_eq_true rfl) (am_s1_4 rfl) ?_
                            refine g_p t201_157 rfl ?_
                            refine r_geti t201_158 (f80 hF) rfl rfl ?_
                            refine g_p t201_161 rfl ?_
                            refine g_ceq t201_162 (fun h162 => ?_) (fun h162 => ?_)
                            · exact absurd h162 hne
                            · obtain ⟨o2, he⟩ := he
                              exact v_ret t201_165 (RED _ p hf (by rw [he]) hE)
                        · exact no_b h116 rfl
                      · exfalso; omega
                    · exfalso; omega
        have he : Z = (o, .inr j) := by
          have e1 : sit t (o, .inl j) = (o, .inr j) := by
            unfold sit
            rw [if_neg (fun h => cr h.2), if_neg (fun h => cw h.2), if_neg (fun h => cd h.2)]; rfl
          rw [he, e1, sil_r]
        refine g_p t201_71 rfl ?_
        refine g_k (n := 114) t201_72 rfl rfl ?_
        refine g_ceq t201_74 (fun h74 => ?_) (fun h74 => ?_)
        · first
            | exact absurd ((lk_e hsg (by decide) (by decide)).mp h74) cr
            | exact absurd ((lk_e hsg (by decide) (by decide)).mp h80) cw
            | exact absurd ((lk_e hsg (by decide) (by decide)).mp h86) cd
        · refine g_p t201_77 rfl ?_
          refine g_k (n := 119) t201_78 rfl rfl ?_
          refine g_ceq t201_80 (fun h80 => ?_) (fun h80 => ?_)
          · first
              | exact absurd ((lk_e hsg (by decide) (by decide)).mp h74) cr
              | exact absurd ((lk_e hsg (by decide) (by decide)).mp h80) cw
              | exact absurd ((lk_e hsg (by decide) (by decide)).mp h86) cd
          · refine g_p t201_83 rfl ?_
            refine g_k (n := 100) t201_84 rfl rfl ?_
            refine g_cne t201_86 (fun h86 => ?_) (fun h86 => ?_)
            · have hS := hJ.m2 hsp
              have u9 : ¬ lk (sgn t j) = -1 := fun e => c0 ((lk_m hsg).mp e)
              refine g_p t201_195 rfl ?_
              refine r_gete t201_196 (f80 hF) rfl rfl h11 ?_
              refine g_p t201_199 rfl ?_
              refine g_cne t201_200 (fun h200 => ?_) (fun h200 => ?_)
              · first
                  | (have u0 : ¬ (-1 : Int32) = -1 := h200
                     exact absurd rfl u0)
                  | (have u0 : lk (sgn t j) = -1 := h208
                     exact absurd u0 u9)
                  | exact v_ret t201_216 (RED _ j (hf.tr (f2.mono (by decide) (by decide))) (by rw [he]) hE)
              · refine g_p t201_203 rfl ?_
                refine r_cv t201_204 (f80 hF) rfl ?_
                refine c183 (by exact hF) (by exact hX) (by exact hS) (fun s204 f204 hJ => ?_)
                have hS := hJ.m2 hsp
                have e10 := hJ.2.2
                have h11 := hJ.1
                refine k_v ?_ rfl
                have hF := Fx.fr (by exact hF) f204.1
                have hX := MT.fm (by exact hX) f204 (by decide) (by decide) (by decide) (by decide) (by decide)
                have hf := hf.tr (f204.mono (by decide) (by decide))
                have hv := hv.fm f204 (by decide) (by decide)
                have e22 := (f204.f (i := 22) (by decide)).trans e22
                refine g_p t201_207 rfl ?_
                refine g_ceq t201_208 (fun h208 => ?_) (fun h208 => ?_)
                · first
                    | (have u0 : ¬ (-1 : Int32) = -1 := h200
                       exact absurd rfl u0)
                    | (have u0 : lk (sgn t j) = -1 := h208
                       exact absurd u0 u9)
                    | exact v_ret t201_216 (RED _ j (hf.tr (f2.mono (by decide) (by decide))) (by rw [he]) hE)
                · refine g_p t201_211 rfl ?_
                  refine r_cv t201_212 (f80 hF) rfl ?_
                  refine c184 (by exact hF) hJ (fun s2 f2 hE => ?_)
                  refine k_v ?_ rfl
                  refine g_p t201_215 rfl ?_
                  first
                    | (have u0 : ¬ (-1 : Int32) = -1 := h200
                       exact absurd rfl u0)
                    | (have u0 : lk (sgn t j) = -1 := h208
                       exact absurd u0 u9)
                    | exact v_ret t201_216 (RED _ j (hf.tr (f2.mono (by decide) (by decide))) (by rw [he]) hE)
            · first
                | exact absurd ((lk_e hsg (by decide) (by decide)).mp h74) cr
                | exact absurd ((lk_e hsg (by decide) (by decide)).mp h80) cw
                | exact absurd ((lk_e hsg (by decide) (by decide)).mp h86) cd
  refine en201 rfl ?_
  refine g_p t201_0 rfl ?_
  refine g_p t201_1 rfl ?_
  refine r_getr t201_2 (f80 hF) rfl rfl ?_
  refine g_k (n := 0) t201_5 rfl rfl ?_
  refine g_p t201_6 rfl ?_
  refine r_gete t201_7 (f80 hF) rfl rfl e6 ?_
  refine r_cv t201_10 (f80 hF) rfl ?_
  refine c198 (T := 81) (B := 0) (L := t.length) (by exact hF) (by decide) (fun s10 f10 o5 o8 o9 o10 o11 => ?_)
  have hF := hF.fr f10.1
  have hX0 : MT 81 120 0 t s10 := ⟨o5, o8, o9, (hT.ht (by assumption) h120 hb).fm f10 (by decide) (by decide)⟩
  refine k_0 ?_
  refine g_p t201_13 rfl ?_
  refine r_getr t201_14 (f80 hF) rfl rfl ?_
  refine g_k (n := 1) t201_17 rfl rfl ?_
  refine g_k (n := 2) t201_18 rfl rfl ?_
  refine r_iast t201_19 (f86 hF) (by decide) (by omega) ?_
  refine g_p t201_20 rfl ?_
  refine r_getr t201_21 (f80 hF) rfl rfl ?_
  refine g_k (n := 2) t201_24 rfl rfl ?_
  refine g_k (n := 2) t201_25 rfl rfl ?_
  refine r_iast t201_26 (f86 hF) (by decide) (by omega) ?_
  refine g_p t201_27 rfl ?_
  refine g_k (n := 2) t201_28 rfl rfl ?_
  refine r_puti t201_29 (f80 hF) rfl rfl ?_
  refine g_p t201_32 rfl ?_
  refine g_k (n := 110) t201_33 rfl rfl ?_
  refine r_cv t201_35 (f80 hF) rfl ?_
  have hX : MT 81 120 0 t (wi (wi (wi s10 86 1 (nI 2)) 86 2 (nI 2)) 80 23 (nI 2)) := ((hX0.fm (A := [86]) (B' := []) ((FM.rf.w (i := 1) (v := nI 2) (by decide) (by decide)).w (i := 2) (v := nI 2) (by decide) (by decide)) (by decide) (by decide) (by decide) (by decide) (by decide))).w8 (by decide) (by decide) (by decide)
  have hf : FM [86] sB s (wi (wi (wi s10 86 1 (nI 2)) 86 2 (nI 2)) 80 23 (nI 2)) := (((f10.mono (by decide) (by decide)).w (by decide) (by decide)).w (by decide) (by decide)).m (by decide)
  have hR : RM t (.inl (skp t 0)) (wi (wi (wi s10 86 1 (nI 2)) 86 2 (nI 2)) 80 23 (nI 2)) := Or.inl ⟨_, rfl, MJ.ms (j := 0) ⟨o11, Nat.zero_le _, o10⟩⟩
  refine c186 (by exact hF) (by exact hX) hR (w := 110) (by decide) (by decide) (by decide) (fun s35 q35 hu35 f35 he35 hc35 hl35 hJ => ?_) (fun s35 f35 hD hr35 => ?_)
  · have h11 := hJ.1
    have hF := Fx.fr (by exact hF) f35.1
    have hX := MT.fm (by exact hX) f35 (by decide) (by decide) (by decide) (by decide) (by decide)
    have hf := hf.tr (f35.mono (by decide) (by decide))
    have hS := hJ.ms
    obtain ⟨p, hp⟩ : ∃ p, p = skp t (q35 + 1) := ⟨_, rfl⟩
    rw [← hp] at hS
    have hSp := hS
    have hspp : skp t p = p := by rw [hp]; exact skp_s rfl
    have e0 : sl0 t = .inl p := by
      unfold sl0
      rw [he35, hp]
      exact if_pos hc35
    have hv : SV (none, none, none) s35 := SV.fm (s := (wi (wi (wi s10 86 1 (nI 2)) 86 2 (nI 2)) 80 23 (nI 2))) ⟨rfl, rfl, rfl⟩ f35 (by decide) (by decide)
    refine k_v ?_ rfl
    refine b_ne t201_38 (fun h38 => ?_) (fun h38 => ?_)
    · by_cases hd : 50 ≤ sgn t p ∧ sgn t p ≤ 53
      · refine g_p t201_42 rfl ?_
        refine g_p t201_43 rfl ?_
        refine g_k (n := 2) t201_44 rfl rfl ?_
        refine g_k (n := 5) t201_45 rfl rfl ?_
        refine r_cv t201_46 (f80 hF) rfl ?_
        refine c200t (by exact hF) (by exact hX) (j := p) (lo := 2) (hi := 5) hSp (by decide) hd (fun s46 f46 hJ hpl => ?_)
        have h11 := hJ.1
        refine k_v ?_ rfl
        have hF := Fx.fr (by exact hF) f46.1
        have hX := MT.fm (by exact hX) f46 (by decide) (by decide) (by decide) (by decide) (by decide)
        have hf := hf.tr (f46.mono (by decide) (by decide))
        have hv := hv.fm f46 (by decide) (by decide)
        refine r_puti t201_49 (f80 hF) rfl rfl ?_
        refine g_k (n := 0) t201_52 rfl rfl ?_
        refine g_isn t201_53 (Nat.le_of_ble_eq_true rfl) (am_s1_1 rfl) ?_
        refine g_p t201_54 rfl ?_
        refine r_gete t201_55 (f80 hF) rfl rfl h11 ?_
        refine g_p t201_58 rfl ?_
        refine g_cne t201_59 (fun h59 => ?_) (fun h59 => ?_)
        · exact absurd rfl h59
        · refine g_p t201_62 rfl ?_
          refine r_cv t201_63 (f80 hF) rfl ?_
          have hJ : MJ t (p + 1) (wi s46 80 22 (nI (sgn t p - 48))) := hJ
          have hX := MT.w8 (i := 22) (v := nI (sgn t p - 48)) (by exact hX) (by decide) (by decide) (by decide)
          have hv : SV (none, none, none) (wi s46 80 22 (nI (sgn t p - 48))) := hv
          have hf := hf.m (i := 22) (v := nI (sgn t p - 48)) (by decide)
          have hS := hJ.ms
          have hsp : skp t (skp t (p + 1)) = skp t (p + 1) := skp_s rfl
          refine c183 (by exact hF) (by exact hX) (by exact hS) (fun s63 f63 hJ => ?_)
          have hS := hJ.m2 hsp
          have e10 := hJ.2.2
          have h11 := hJ.1
          refine k_v ?_ rfl
          have hF := Fx.fr (by exact hF) f63.1
          have hX := MT.fm (by exact hX) f63 (by decide) (by decide) (by decide) (by decide) (by decide)
          have hf := hf.tr (f63.mono (by decide) (by decide))
          have hv := hv.fm f63 (by decide) (by decide)
          refine g_goto t201_66 ?_
          refine g_isn t201_70 (Nat.le_of_ble_eq_true rfl) (am_s1_2 rfl) ?_
          have e3 : pdv t 2 5 (sl0 t) = sgn t p - 48 := by rw [e0]; exact if_pos hd
          have e4 : pdg t 2 5 (sl0 t) = .inl (skp t (p + 1)) := by rw [e0]; exact if_pos hd
          exact K 3 (none, none, none) _ s63 _ _ rfl rfl (by rw [hZ, sle, e4]) hF hX hf hJ hsp hv (by rw [e3]; exact f63.f (by decide))
      · refine g_p t201_42 rfl ?_
        refine g_p t201_43 rfl ?_
        refine g_k (n := 2) t201_44 rfl rfl ?_
        refine g_k (n := 5) t201_45 rfl rfl ?_
        refine r_cv t201_46 (f80 hF) rfl ?_
        refine c200f (by exact hF) (by exact hX) (j := p) (lo := 2) (hi := 5) hSp (by decide) (by decide) hd (fun s46 f46 hE => ?_)
        have hne := hE.ne h120
        refine k_v ?_ rfl
        have hF := Fx.fr (by exact hF) f46.1
        have hX := MT.fm (by exact hX) f46 (by decide) (by decide) (by decide) (by decide) (by decide)
        have hf := hf.tr (f46.mono (by decide) (by decide))
        have hv := hv.fm f46 (by decide) (by decide)
        refine r_puti t201_49 (f80 hF) rfl rfl ?_
        refine g_k (n := 0) t201_52 rfl rfl ?_
        refine g_isn t201_53 (Nat.le_of_ble_eq_true rfl) (am_s1_1 rfl) ?_
        refine g_p t201_54 rfl ?_
        refine r_geti t201_55 (f80 hF) rfl rfl ?_
        refine g_p t201_58 rfl ?_
        refine g_cne t201_59 (fun h59 => ?_) (fun h59 => ?_)
        · refine g_p t201_69 rfl ?_
          refine g_isn t201_70 (Nat.le_of_ble_eq_true rfl) (am_s1_2 rfl) ?_
          refine g_p t201_71 rfl ?_
          refine g_k (n := 114) t201_72 rfl rfl ?_
          refine g_ceq t201_74 (fun h74 => ?_) (fun h74 => ?_)
          · first
              | exact absurd h74 (by decide)
              | exact absurd h80 (by decide)
              | exact absurd h86 (by decide)
          · refine g_p t201_77 rfl ?_
            refine g_k (n := 119) t201_78 rfl rfl ?_
            refine g_ceq t201_80 (fun h80 => ?_) (fun h80 => ?_)
            · first
                | exact absurd h74 (by decide)
                | exact absurd h80 (by decide)
                | exact absurd h86 (by decide)
            · refine g_p t201_83 rfl ?_
              refine g_k (n := 100) t201_84 rfl rfl ?_
              refine g_cne t201_86 (fun h86 => ?_) (fun h86 => ?_)
              · refine g_p t201_195 rfl ?_
                refine r_geti t201_196 (f80 hF) rfl rfl ?_
                refine g_p t201_199 rfl ?_
                refine g_cne t201_200 (fun h200 => ?_) (fun h200 => ?_)
                · have e4 : pdg t 2 5 (sl0 t) = .inr p := by rw [e0]; exact if_neg hd
                  exact v_ret t201_216 (RED _ p (hf.m (by decide)) (by rw [hZ, sle, e4, sil_r]) hE)
                · exact absurd h200 hne
              · first
                  | exact absurd h74 (by decide)
                  | exact absurd h80 (by decide)
                  | exact absurd h86 (by decide)
        · exact absurd h59 hne
    · exact no_b rfl h38
  · have hF := Fx.fr (by exact hF) f35.1
    have hf := hf.tr (f35.mono (by decide) (by decide))
    refine k_v ?_ rfl
    refine b_ne t201_38 (fun h38 => ?_) (fun h38 => ?_)
    · exact no_b h38 rfl
    · obtain ⟨r, hr⟩ := hr35
      have e0 : sl0 t = .inr r := hr
      exact v_ret t201_41 (RED _ r hf (by rw [hZ, sle, e0]; rw [show pdg t 2 5 (.inr r) = .inr r from rfl, sil_r]) (hD.ri hr))
end RI2
