/-! SOUNDNESS, 9: the induction itself -/
section AMV
variable {T : am_Tb} {mx : Nat → Nat} {DF : Nat → List Value} {X : am_X} {tk : Nat → Value} {A : Nat → Prop} {cA dC : Nat → ClassId} {dI : Nat → Nat → Nat} {Mi : am_Mi} {l : Launch}
theorem am_RET.mono {p : Program} {e : Env} {R : Room} {s : State} {m : MethodId} {args : Array Value} {below : List Frame} {meth : Method} {c : Code} {y : Nat} {ad ad1 : Nat → Nat} {nx nx1 : Nat} {v : Option Value} {hp1 : am_H} {c0 s0 : Nat} {Q : State → Prop} (h : am_RET tk A cA dC dI Mi l p e R s m args below meth c y ad nx v hp1 c0 s0 Q) (hn : nx ≤ nx1) (ha : ∀ q, q < nx → ad1 q = ad q) : am_RET tk A cA dC dI Mi l p e R s m args below meth c y ad1 nx1 v hp1 c0 s0 Q :=
  fun ad2 ws1 H1 locs1 pc1 l1 i r st1 st1' hag => h ad2 ws1 H1 locs1 pc1 l1 i r st1 st1' (fun q hq => (hag q (Nat.lt_of_lt_of_le hq hn)).trans (ha q hq))
theorem am_THR.mono {p : Program} {e : Env} {R : Room} {s : State} {m : MethodId} {args : Array Value} {below : List Frame} {meth : Method} {c : Code} {y : Nat} {ad ad1 : Nat → Nat} {nx nx1 : Nat} {v : Option Value} {hp1 : am_H} {c0 s0 : Nat} {Q : State → Prop} (h : am_THR T mx tk A cA dC dI l p e R s m args below meth c y ad nx v hp1 c0 s0 Q) (hn : nx ≤ nx1) (ha : ∀ q, q < nx → ad1 q = ad q) : am_THR T mx tk A cA dC dI l p e R s m args below meth c y ad1 nx1 v hp1 c0 s0 Q :=
  fun hv ad2 ws1 H1 locs1 pc1 l1 t hp0 st1 st1' h1 h2 h3 h4 hag => h hv ad2 ws1 H1 locs1 pc1 l1 t hp0 st1 st1' h1 h2 h3 h4 (fun q hq => (hag q (Nat.lt_of_lt_of_le hq hn)).trans (ha q hq))
set_option maxHeartbeats 2000000 in
theorem am_sound (hT : ∀ y pc t, T y pc = some t → am_ok Mi mx DF y pc t) (h6 : ∀ n, am_S T mx DF X tk A cA dC dI Mi l n → am_H6 T mx DF X tk A cA dC dI Mi l n) : ∀ n, am_S T mx DF X tk A cA dC dI Mi l n := by
  intro n
  induction n with
  | zero => intro d y pc ls st hp v hp1 h; simp [am_ex] at h
  | succ n ih =>
    intro d y pc ls st hp v hp1 h p e R s m args below meth c hCm hC ad ws H locs ls' st' hR hL hst hP hD hS c0 s0 hc0 hs0 hcl hsl Q hRET hTHR
    rw [am_ex] at h
    obtain ⟨t, ht, h1⟩ := Option.bind_eq_some_iff.mp h
    clear h
    obtain ⟨⟨len, hdg, hlen⟩, hok⟩ := hT y pc t ht
    have hCm2 := hCm
    obtain ⟨hx, hb, hml, hown, hmn, hfr, hlo⟩ := hCm2
    have hts : ∀ w ∈ lw_tbl, goodWord w = true → w.before args s = true := fun w h1 h2 => hC.1 w h1 h2 args
    have h64 : 64 ≤ R.locals := by
      have : 1 * 64 ≤ (d + 1) * 64 := Nat.mul_le_mul_right _ (by omega)
      omega
    have hnt : ∀ a, a < hp.2.1 → tk 1 ≠ .ref (ad a) := by
      intro a ha h1
      obtain ⟨-, ⟨q, e1, -, hqA, -⟩, -⟩ := hC.2.2.2.2.1
      obtain ⟨e9, h2, -⟩ := hR.get ha
      rw [e1] at h1
      cases h1
      exact hqA (hD.2 _ _ h2)
    have ht1 : ∃ q, tk 1 = .ref q := by
      obtain ⟨-, ⟨q, e1, -⟩, -⟩ := hC.2.2.2.2.1
      exact ⟨q, e1⟩
    have hid : ∀ q, q < hp.2.1 → ad q = ad q := fun _ _ => rfl
    obtain ⟨kd, i, nx, r, k⟩ := t
    simp only at h1 hdg hlen hok
    split at h1
    · obtain ⟨q, hq, h2⟩ := Option.bind_eq_some_iff.mp h1
      obtain ⟨rfl, hnx⟩ := hlen (by decide)
      refine am_snd_p hx hb hown hts hq hdg hok hL hst (fun l1 s1 hL1 hs1 => ?_)
      rw [← hnx]
      exact ih d y nx _ _ hp v hp1 h2 p e R s m args below meth c hCm hC ad ws H locs l1 s1 hR hL1 hs1 hP hD hS c0 s0 hc0 hs0 hcl hsl Q hRET hTHR
    · obtain ⟨⟨b, st1⟩, hq, h2⟩ := Option.bind_eq_some_iff.mp h1
      obtain ⟨rfl, hnx⟩ := hlen (by decide)
      simp only at h2
      refine am_snd_b hx hb hq hdg (tgt := r.headD 0) (by cases i <;> first | exact hok | trivial) hnt ht1 hst (fun s1 hs1 => ⟨fun hb1 => ?_, fun hb1 => ?_⟩)
      · rw [hb1, if_pos rfl] at h2
        exact ih d y _ _ _ hp v hp1 h2 p e R s m args below meth c hCm hC ad ws H locs ls' s1 hR hL hs1 hP hD hS c0 s0 hc0 hs0 hcl hsl Q hRET hTHR
      · rw [hb1, if_neg (by decide)] at h2
        rw [← hnx]
        exact ih d y _ _ _ hp v hp1 h2 p e R s m args below meth c hCm hC ad ws H locs ls' s1 hR hL hs1 hP hD hS c0 s0 hc0 hs0 hcl hsl Q hRET hTHR
    · obtain ⟨⟨st1, hp2⟩, hq, h2⟩ := Option.bind_eq_some_iff.mp h1
      obtain ⟨rfl, hnx⟩ := hlen (by decide)
      simp only at h2
      have hle := am_h_le hq
      have hle2 := am_ex_mn _ _ _ _ _ _ _ _ h2
      simp only at hle2
      refine am_snd_h hx hb hml hown hmn hts hC.2.1 hC.2.2.1.1 hC.2.2.2.1 hP hD hS hC.2.2.2.2.2 hC.2.2.2.2.1 hR (by omega) h64 hq hdg hok hL hst hc0 hs0 (by have := hle2.2.1; omega) (by have := hle2.2.2; omega) (fun ad1 ws1 H1 locs1 s1 hn hag hR1 hP1 hD1 hS1 hs1 => ?_)
      rw [← hnx]
      exact ih d y nx _ _ hp2 v hp1 h2 p e R s m args below meth c hCm hC ad1 ws1 H1 locs1 ls' s1 hR1 (hL.mono hle.1 hag) hs1 hP1 hD1 hS1 c0 s0 (Nat.le_trans hc0 hle.2.1) (Nat.le_trans hs0 hle.2.2) hcl hsl Q (hRET.mono hle.1 hag) (hTHR.mono hle.1 hag)
    · cases d with
      | zero => simp at h1
      | succ d =>
        simp only at h1
        obtain ⟨⟨y2, vs, rest⟩, hq, h2⟩ := Option.bind_eq_some_iff.mp h1
        obtain ⟨rfl, hnx⟩ := hlen (by decide)
        simp only at h2
        split at h2
        · rename_i hfl
          obtain ⟨⟨z, hpz⟩, hz, h3⟩ := Option.bind_eq_some_iff.mp h2
          simp only at h3
          split at h3
          · cases h3
          · rename_i hthr
            have hthr : am_thr z = false := by simpa using hthr
            have hle : am_le hp hpz := am_ex_mn _ _ _ _ _ _ _ _ hz
            have hle2 : am_le hpz hp1 := am_ex_mn _ _ _ _ _ _ _ _ h3
            refine am_snd_c ih hCm hC hR hL.2.1 hst hP hD hS hc0 hs0 hdg hok hq hfl hz hthr hle (by have := hle2.2.1; omega) (by have := hle2.2.2; omega) (fun ad1 ws1 H1 locs1 s1 hag hR1 hP1 hD1 hS1 hs1 => ?_)
            rw [← hnx]
            exact ih (d + 1) y nx _ _ hpz v hp1 h3 p e R s m args below meth c hCm hC ad1 ws1 H1 locs1 ls' s1 hR1 (hL.mono hle.1 hag) hs1 hP1 hD1 hS1 c0 s0 (Nat.le_trans hc0 hle.2.1) (Nat.le_trans hs0 hle.2.2) hcl hsl Q (hRET.mono hle.1 hag) (hTHR.mono hle.1 hag)
        · cases h2
    · obtain ⟨q, hq, h2⟩ := Option.bind_eq_some_iff.mp h1
      cases h2
      obtain ⟨rfl, hnx⟩ := hlen (by decide)
      have hi1 : am_len i = 1 := by
        unfold am_ret at hq
        split at hq <;> first | rfl | cases hq
      rw [hi1] at hdg
      exact hRET ad ws H locs pc ls' i r st st' hid hR hP hD hS hdg hq hok hst
    · split at h1
      · rename_i x st0
        obtain ⟨t0, rfl, hs1⟩ := hst.i
        have go := fun (z : Nat) (hz : am_sw x r k = z) => by
          have h3 := h1
          rw [hz] at h3
          exact ih d y z _ _ hp v hp1 h3 p e R s m args below meth c hCm hC ad ws H locs ls' t0 hR hL hs1 hP hD hS c0 s0 hc0 hs0 hcl hsl Q hRET hTHR
        cases i <;> simp only [am_ok5] at hok
        rename_i dflt lo hi offs
        obtain ⟨d0, ts, klo, rfl, rfl, rfl, h4, h5, h6⟩ := hok
        by_cases hout : x.toInt < klo.toInt ∨ klo.toInt + ts.length ≤ x.toInt
        · exact lv_tableOut hx hb hdg (by rcases hout with h | h; exact Or.inl h; exact Or.inr (by omega)) h5 (go d0 (by simp only [am_sw]; rw [if_pos hout]))
        · obtain ⟨off, h7, h8⟩ := h6 (x.toInt - klo.toInt).toNat (by omega)
          exact lv_tableIn hx hb hdg (by omega) (by omega) h7 h8 (go _ (by simp only [am_sw]; rw [if_neg hout]))
      · cases h1
    · split at h1
      · rename_i d0 o p0 x st0
        split at h1
        · rename_i hcat
          obtain ⟨⟨z, hpz⟩, hz, h2⟩ := Option.bind_eq_some_iff.mp h1
          simp only at h2
          have hle : am_le hp hpz := am_ex_mn _ _ _ _ _ _ _ _ hz
          split at h2
          · rename_i zv
            split at h2
            · rename_i t3 k3 f3 ho
              split at h2
              · rename_i hc
                simp only [Bool.and_eq_true, decide_eq_true_eq] at hc
                obtain ⟨rfl, hk⟩ := hc
                have hle2 := am_ex_mn _ _ _ _ _ _ _ _ h2
                have hle3 : am_le hpz hp1 := hle2
                refine h6 n ih y pc _ ht rfl d0 o x p0 st0 hp _ hpz _ 0 hcat hz (Or.inl ⟨zv, k3, f3, rfl, ho, hk, rfl, rfl⟩) p e R s m args below meth c hCm hC ad ws H locs ls' st' hR hL.2.1 hst hP hD hS c0 s0 hc0 hs0 (show hpz.2.2.1 - c0 ≤ R.cells by have := hle3.2.1; omega) (show hpz.2.2.2 - s0 ≤ R.slots by have := hle3.2.2; omega) Q (fun ad1 ws1 H1 locs1 s1 hag hR1 hP1 hD1 hS1 hs1 => ?_)
                exact ih (d0 + 9) y nx _ _ _ v hp1 h2 p e R s m args below meth c hCm hC ad1 ws1 H1 locs1 ls' s1 hR1 (hL.mono hle.1 hag) hs1 hP1 hD1 hS1 c0 s0 (Nat.le_trans hc0 hle.2.1) (Nat.le_trans hs0 hle.2.2) hcl hsl Q (hRET.mono hle.1 hag) (hTHR.mono hle.1 hag)
              · cases h2
            · cases h2
          · have hle2 := am_ex_mn _ _ _ _ _ _ _ _ h2
            simp only at hle2
            refine h6 n ih y pc _ ht rfl d0 o x p0 st0 hp _ hpz _ 1 hcat hz (Or.inr ⟨_, rfl, rfl, rfl⟩) p e R s m args below meth c hCm hC ad ws H locs ls' st' hR hL.2.1 hst hP hD hS c0 s0 hc0 hs0 (by have := hle2.2.1; omega) (by have := hle2.2.2; omega) Q (fun ad1 ws1 H1 locs1 s1 hag hR1 hP1 hD1 hS1 hs1 => ?_)
            exact ih (d0 + 9) y nx _ _ _ v hp1 h2 p e R s m args below meth c hCm hC ad1 ws1 H1 locs1 ls' s1 hR1 (hL.mono hle.1 hag) hs1 hP1 hD1 hS1 c0 s0 (Nat.le_trans hc0 hle.2.1) (Nat.le_trans hs0 hle.2.2) hcl hsl Q (hRET.mono hle.1 hag) (hTHR.mono hle.1 hag)
          · cases h2
        · cases h1
      · cases h1
    · rename_i k0 k1 k2 k3 k4 k5 k6
      split at h1
      case isFalse => cases h1
      rename_i hcat7
      cases h1
      refine hTHR rfl ad ws H locs pc ls' _ hp st st' ht ?_ hcat7 rfl hid hR hP hD hS hL.2.1 hc0 hs0 hst
      intro hk
      have hk : kd ≤ 6 := hk
      rcases (show kd = 0 ∨ kd = 1 ∨ kd = 2 ∨ kd = 3 ∨ kd = 4 ∨ kd = 5 ∨ kd = 6 by omega) with h | h | h | h | h | h | h
      · exact k0 h
      · exact k1 h
      · exact k2 h
      · exact k3 h
      · exact k4 h
      · exact k5 h
      · exact k6 h
end AMV
