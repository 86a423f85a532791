/-! THE LAW: its start -/
section LY
variable {X : am_X} {d : Nat} {s : mM} {hp : am_H} {Q : Option Value → am_H → Prop}
theorem LI_0 (h : Mk 114 83874 [] [(80, 32, (-1)), (80, 5, nI 83), (18, 1, nI 1), (17, 1, nI 1), (16, 1, nI 1)] s) : LI 0 s := by
  obtain ⟨h1, h2, h3, z, hk⟩ := h
  have hF : Fx s := fun p hp => h3 p hp (fun pe hm => absurd hm (List.not_mem_nil))
  have k32 : ri s 80 32 = -1 := (hk (80, 32, (-1)) (by simp)).2
  have k16 : ri s 16 1 = nI 1 := (hk (16, 1, nI 1) (by simp)).2
  have k17 : ri s 17 1 = nI 1 := (hk (17, 1, nI 1) (by simp)).2
  have k18 : ri s 18 1 = nI 1 := (hk (18, 1, nI 1) (by simp)).2
  have nl : ∀ p, (p, 1) ∉ XZ → NL s p [] := fun p hp => ⟨z p 1 hp, fun k hk => absurd hk (Nat.not_lt_zero k)⟩
  have al : ∀ a, (a, 2) ∉ XZ → ri s a 1 = nI 1 → AL s a [] := fun a ha h => ⟨z a 2 ha, Nat.zero_le _, fun _ => h, fun h => absurd rfl h⟩
  have m0 : mn 0 = 0 := rfl
  have v0 : ∀ {p : Nat → Prop}, ∀ k, k < 0 → p k := fun k hk => absurd hk (Nat.not_lt_zero k)
  refine ⟨hF, ⟨by rw [h1]; decide, by rw [h1]; show 83874 ≤ _; decide, by rw [h1]; decide⟩, 0, 0, 0, 0, 0, 0, 0, [], fun _ => 0, [], [], [], [], [], none, [], none, ?_, ?_, ?_⟩
  · exact ⟨⟨Or.inl rfl, by decide, by decide, by decide, by decide, by decide, by decide, fun h => absurd h (by decide), fun _ => rfl⟩, ⟨fun a ha => absurd ha (List.not_mem_nil), List.Pairwise.nil, fun n hn => absurd hn (Nat.not_lt_zero n)⟩, ⟨fun a ha => absurd ha (List.not_mem_nil), fun a ha => absurd ha (List.not_mem_nil)⟩, ⟨fun l hl => absurd hl (by simp), Nat.zero_le _, fun x hx => absurd hx (List.not_mem_nil)⟩, fun k hk => absurd hk (by simp)⟩
  · refine ⟨⟨⟨z _ _ (by decide), (z _ _ (by decide)).trans rfl, by decide, ⟨fun c q hc => absurd hc (Nat.not_lt_zero c), fun q hq => absurd hq (Nat.not_lt_zero q), fun c hc => absurd hc (Nat.not_lt_zero c), fun c hc => absurd hc (Nat.not_lt_zero c), fun c hc => absurd hc (Nat.not_lt_zero c)⟩⟩, ⟨z _ _ (by decide), z _ _ (by decide), z _ _ (by decide), z _ _ (by decide), z _ _ (by decide), z _ _ (by decide)⟩, ⟨nl _ (by decide), nl _ (by decide), nl _ (by decide), Nat.zero_le _⟩, fun k hk => absurd hk (Nat.not_lt_zero k), z _ _ (by decide), z _ _ (by decide)⟩,
      ⟨⟨nl _ (by decide), nl _ (by decide), nl _ (by decide), Nat.zero_le _⟩, ⟨nl _ (by decide), nl _ (by decide), Nat.zero_le _⟩, nl _ (by decide), ⟨⟨[], nl _ (by decide), Nat.zero_le _⟩, ⟨[], nl _ (by decide), Nat.zero_le _⟩, 0, by decide, z _ _ (by decide)⟩, z _ _ (by decide), fun T hT h => ?_⟩, ⟨⟨0, by decide, z _ _ (by decide)⟩, fun a ha => absurd ha (Nat.not_lt_zero a), z _ _ (by decide), z _ _ (by decide)⟩, z _ _ (by decide), [], [], [], ?_⟩
    · rw [z _ _ (by decide)] at h
      have := nI_inj (by decide) hT h
      omega
    · refine ⟨⟨al _ (by decide) k16, rfl, fun k hk => absurd hk (Nat.not_lt_zero k), fun i j _ hj => absurd hj (Nat.not_lt_zero j)⟩, ⟨al _ (by decide) k17, rfl, fun k hk => absurd hk (Nat.not_lt_zero k)⟩, ⟨al _ (by decide) k18, rfl, fun k hk => absurd hk (Nat.not_lt_zero k)⟩, ⟨fun a b ha hb hne h => ?_, fun a ha => Or.inl ?_⟩, by rw [h1]; decide, fun k hk => absurd hk (Nat.not_lt_zero k), fun k hk => absurd hk (Nat.not_lt_zero k), fun k hk => absurd hk (Nat.not_lt_zero k), by decide, by decide, by decide, fun k hk => absurd hk (Nat.not_lt_zero k), fun k hk => absurd hk (Nat.not_lt_zero k)⟩
      · rcases ha with rfl | rfl | rfl
        · exact k16
        · exact k17
        · exact k18
      · rcases ha with rfl | rfl | rfl
        · exact k16
        · exact k17
        · exact k18
  · refine ⟨⟨⟨z _ _ (by decide), z _ _ (by decide), z _ _ (by decide), z _ _ (by decide), z _ _ (by decide), z _ _ (by decide), z _ _ (by decide)⟩, ⟨z _ _ (by decide), Nat.zero_le _, fun k hk => absurd hk (Nat.not_lt_zero k)⟩, fun k hk => absurd hk (Nat.not_lt_zero k)⟩, ⟨⟨z _ _ (by decide), Nat.zero_le _, fun k hk => absurd hk (Nat.not_lt_zero k)⟩, ⟨z _ _ (by decide), Nat.zero_le _, fun k hk => absurd hk (Nat.not_lt_zero k)⟩, ⟨z _ _ (by decide), fun k hk => absurd hk (Nat.not_lt_zero k)⟩⟩, ⟨⟨z _ _ (by decide), Nat.zero_le _, fun k hk => absurd hk (Nat.not_lt_zero k)⟩, ⟨z _ _ (by decide), Nat.zero_le _, fun k hk => absurd hk (Nat.not_lt_zero k)⟩, ⟨z _ _ (by decide), Nat.zero_le _, fun k hk => absurd hk (Nat.not_lt_zero k)⟩⟩, ⟨k32, (z _ _ (by decide)).trans rfl⟩, z _ _ (by decide)⟩
def sE : mM := (fun _ => .inr (999, []), fun _ _ => 0, fun _ _ => 0, 0, 0, 0)
theorem Mk_0 : Mk 0 0 [] [] sE := ⟨rfl, fun pe h => absurd h (List.not_mem_nil), fun q hq => absurd hq (Nat.not_lt_zero q), fun _ _ _ => rfl, fun k h => absurd h (List.not_mem_nil)⟩
theorem law_0 (hX : X.1 ≤ 3072) (ops : ∀ q, q < 35 → OPL X (opP.getD q 0)) (hq : ∀ s, LI 512 s → Q (some (.int 1)) (mR s)) : gE X (d + 300) 285 [.retAddr 0] (mR sE) Q := by
  have m0 := Mk_0
  refine en285 rfl ?_
  generalize sE = s0 at m0 ⊢
  refine r_new (e := .inr (11, [.null, .null, .null, .null, .null, .null, .null, .null, .null, .null, .null, .null, .null, .null, .null, .retAddr 7, .int 0])) t285_0 rfl ?_
  rw [m0.nx]
  have m1 := m0.new (e := .inr (11, [.null, .null, .null, .null, .null, .null, .null, .null, .null, .null, .null, .null, .null, .null, .null, .retAddr 7, .int 0])) (n := 17)
  generalize wn s0 (.inr (11, [.null, .null, .null, .null, .null, .null, .null, .null, .null, .null, .null, .null, .null, .null, .null, .retAddr 7, .int 0])) 17 = s1 at m1 ⊢
  refine g_p t285_3 rfl ?_
  refine g_ci t285_4 rfl rfl rfl ?_
  refine m118_0 (fun pe h => absurd h (List.not_mem_nil)) (fun pe h => absurd h (List.not_mem_nil)) m1 (fun s2 m2 => ?_)
  refine k_0 ?_
  refine g_asn t285_7 rfl (Nat.le_of_ble_eq_true rfl) (am_s1_1 rfl) ?_
  refine r_new (e := .inr (12, [.int 0, .null, .null, .null, .null, .retAddr 7, .int 0, .int 0, .int 0, .int 0, .int 0, .int 0, .int 0, .int 0, .int 0, .null, .null, .int 0, .null, .null, .int 0, .int 0, .int 0, .int 0, .null, .null, .null, .null, .int 0, .null, .null, .int 0, .int 0, .int 0, .int 0, .int 0, .null, .null, .null, .null, .int 0, .null, .int 0, .int 0, .null, .null, .null, .null, .null, .null, .null, .null, .null, .int 0, .null, .null, .null, .null, .int 0, .null, .null, .int 0, .int 0, .int 0, .int 0])) t285_8 rfl ?_
  rw [m2.nx]
  have m3 := m2.new (e := .inr (12, [.int 0, .null, .null, .null, .null, .retAddr 7, .int 0, .int 0, .int 0, .int 0, .int 0, .int 0, .int 0, .int 0, .int 0, .null, .null, .int 0, .null, .null, .int 0, .int 0, .int 0, .int 0, .null, .null, .null, .null, .int 0, .null, .null, .int 0, .int 0, .int 0, .int 0, .int 0, .null, .null, .null, .null, .int 0, .null, .int 0, .int 0, .null, .null, .null, .null, .null, .null, .null, .null, .null, .int 0, .null, .null, .null, .null, .int 0, .null, .null, .int 0, .int 0, .int 0, .int 0])) (n := 65)
  generalize wn s2 (.inr (12, [.int 0, .null, .null, .null, .null, .retAddr 7, .int 0, .int 0, .int 0, .int 0, .int 0, .int 0, .int 0, .int 0, .int 0, .null, .null, .int 0, .null, .null, .int 0, .int 0, .int 0, .int 0, .null, .null, .null, .null, .int 0, .null, .null, .int 0, .int 0, .int 0, .int 0, .int 0, .null, .null, .null, .null, .int 0, .null, .int 0, .int 0, .null, .null, .null, .null, .null, .null, .null, .null, .null, .int 0, .null, .null, .null, .null, .int 0, .null, .null, .int 0, .int 0, .int 0, .int 0])) 65 = s3 at m3 ⊢
  refine g_p t285_11 rfl ?_
  refine g_ci t285_12 rfl rfl rfl ?_
  refine m174_80 (fun pe h => absurd h (List.not_mem_nil)) (by decide) m3 (fun s4 m4 => ?_)
  refine k_0 ?_
  refine g_asn t285_15 rfl (Nat.le_of_ble_eq_true rfl) (am_s1_2 rfl) ?_
  refine g_k (n := 1) t285_16 rfl rfl ?_
  refine r_newl t285_17 (by decide) ?_
  rw [m4.nx]
  have m5 := m4.row (e := .inl (3, 1, .inr (.inl (fun _ => 0)))) (n := 1) rfl
  generalize wn s4 (.inl (3, 1, .inr (.inl (fun _ => 0)))) 1 = s5 at m5 ⊢
  refine g_asn t285_19 rfl (Nat.le_of_ble_eq_true rfl) (am_s1_3 rfl) ?_
  refine g_k (n := 0) t285_20 rfl rfl ?_
  refine g_is t285_21 (Nat.le_of_ble_eq_true rfl) (am_s1_4 rfl) ?_
  exact law_s hX ops hq (LI_0 m5)
end LY
