/-! WHAT THE CONSTRUCTORS MAKE, 2 -/
section TZV
variable {X : am_X} {d S : Nat} {E : List (Nat × am_E)} {K : List (Nat × Nat × Int32)} {s : mM} {Q : Option Value → am_H → Prop}
theorem mk_k {K : List (Nat × Nat × Int32)} {p i : Nat} (h : ∀ k ∈ K, k.1 < p) : ∀ k ∈ K, ¬ (k.1 = p ∧ k.2.1 = i) := fun k hk hc => by have := h k hk; omega
theorem mk_lt {N S p a : Nat} {E : List (Nat × am_E)} {K : List (Nat × Nat × Int32)} {s : mM} {e e2 : am_E} (h : Mk N S ((a, e2) :: (p, e) :: E) K s) (hE : ∀ pe ∈ E, pe.1 < p) (hp : p < a) : ∀ pe ∈ (p, e) :: E, pe.1 < a := fun pe hm => by
  rcases List.mem_cons.mp hm with g | g
  · subst g; exact hp
  · have := hE pe g; omega
theorem mk_kt {N S p a : Nat} {E : List (Nat × am_E)} {K K2 : List (Nat × Nat × Int32)} {s : mM} (h : Mk N S E K2 s) (hK : ∀ k ∈ K, k.1 < p) (hp : p < a) : ∀ k ∈ K, k.1 < a := fun k hk => by have := hK k hk; omega
theorem m50_3 (hE : ∀ pe ∈ E, pe.1 < 3) (hK : ∀ k ∈ K, k.1 < 3) (h : Mk 4 S ((3, .inr (8, [.retAddr 7, .int 0, .int 0, .int 0, .int 0, .int 0, .int 0, .int 0])) :: E) K s) (hq : ∀ s', Mk 4 S ((3, .inr (8, [.retAddr 7, .int 0, .int 0, .int 0, .int 0, .int 0, .int 0, .int 0])) :: E) K s' → Q none (mR s')) : gE X d 50 [.ref 3] (mR s) Q := by
  have m0 := h
  refine en50 rfl ?_
  refine g_p t50_0 rfl ?_
  refine g_oi t50_1 (Nat.le_of_ble_eq_true rfl) ?_
  refine g_p t50_4 rfl ?_
  refine g_p t50_5 rfl ?_
  refine r_putq (a := nI 0) t50_6 m0.h rfl rfl rfl ?_
  have m1_ := m0.wx (p := 3) (i := 0) (v := nI 0) (Or.inl rfl) (mk_k hK)
  generalize wi s 3 0 (nI 0) = s1_ at m1_ ⊢
  refine g_p t50_9 rfl ?_
  refine g_k (n := 0) t50_10 rfl rfl ?_
  refine r_puti t50_11 m1_.h rfl rfl ?_
  have m2_ := m1_.wx (p := 3) (i := 1) (v := nI 0) (Or.inl rfl) (mk_k hK)
  generalize wi s1_ 3 1 (nI 0) = s2_ at m2_ ⊢
  refine g_p t50_14 rfl ?_
  refine g_k (n := 0) t50_15 rfl rfl ?_
  refine r_puti t50_16 m2_.h rfl rfl ?_
  have m3_ := m2_.wx (p := 3) (i := 2) (v := nI 0) (Or.inl rfl) (mk_k hK)
  generalize wi s2_ 3 2 (nI 0) = s3_ at m3_ ⊢
  refine g_p t50_19 rfl ?_
  refine g_p t50_20 rfl ?_
  refine r_puti t50_21 m3_.h rfl rfl ?_
  have m4_ := m3_.wx (p := 3) (i := 3) (v := (-1)) (Or.inr (by decide)) (mk_k hK)
  generalize wi s3_ 3 3 ((-1)) = s4_ at m4_ ⊢
  exact v_ret t50_24 (hq s4_ (m4_))
theorem m86_3 (hE : ∀ pe ∈ E, pe.1 < 3) (hK : ∀ k ∈ K, k.1 < 3) (h : Mk 4 S ((3, .inr (8, [.retAddr 7, .int 0, .int 0, .int 0, .int 0, .int 0, .int 0, .int 0])) :: E) K s) (hq : ∀ s', Mk 4 (S + 0) E (K) s' → Q none (mR s')) : gE X (d + 1) 86 [.ref 3] (mR s) Q := by
  have m0 := h
  refine en86 rfl ?_
  refine g_p t86_0 rfl ?_
  refine g_ci t86_1 rfl rfl rfl ?_
  refine m50_3 hE hK m0 (fun s1_ m1_ => ?_)
  refine k_0 ?_
  refine g_p t86_4 rfl ?_
  refine g_k (n := 0) t86_5 rfl rfl ?_
  refine r_puti t86_6 m1_.h rfl rfl ?_
  have m2_ := m1_.wx (p := 3) (i := 4) (v := nI 0) (Or.inl rfl) (mk_k hK)
  generalize wi s1_ 3 4 (nI 0) = s2_ at m2_ ⊢
  refine g_p t86_9 rfl ?_
  refine g_k (n := 0) t86_10 rfl rfl ?_
  refine r_puti t86_11 m2_.h rfl rfl ?_
  have m3_ := m2_.wx (p := 3) (i := 5) (v := nI 0) (Or.inl rfl) (mk_k hK)
  generalize wi s2_ 3 5 (nI 0) = s3_ at m3_ ⊢
  refine g_p t86_14 rfl ?_
  refine g_k (n := 0) t86_15 rfl rfl ?_
  refine r_puti t86_16 m3_.h rfl rfl ?_
  have m4_ := m3_.wx (p := 3) (i := 6) (v := nI 0) (Or.inl rfl) (mk_k hK)
  generalize wi s3_ 3 6 (nI 0) = s4_ at m4_ ⊢
  refine g_p t86_19 rfl ?_
  refine g_k (n := 0) t86_20 rfl rfl ?_
  refine r_puti t86_21 m4_.h rfl rfl ?_
  have m5_ := m4_.wx (p := 3) (i := 7) (v := nI 0) (Or.inl rfl) (mk_k hK)
  generalize wi s4_ 3 7 (nI 0) = s5_ at m5_ ⊢
  exact v_ret t86_24 (hq s5_ (m5_.pop rfl))
theorem m50_4 (hE : ∀ pe ∈ E, pe.1 < 4) (hK : ∀ k ∈ K, k.1 < 4) (h : Mk 5 S ((4, .inr (2, [.retAddr 7, .int 0, .int 0, .int 0, .null])) :: E) K s) (hq : ∀ s', Mk 5 S ((4, .inr (2, [.retAddr 7, .int 0, .int 0, .int 0, .null])) :: E) K s' → Q none (mR s')) : gE X d 50 [.ref 4] (mR s) Q := by
  have m0 := h
  refine en50 rfl ?_
  refine g_p t50_0 rfl ?_
  refine g_oi t50_1 (Nat.le_of_ble_eq_true rfl) ?_
  refine g_p t50_4 rfl ?_
  refine g_p t50_5 rfl ?_
  refine r_putq (a := nI 0) t50_6 m0.h rfl rfl rfl ?_
  have m1_ := m0.wx (p := 4) (i := 0) (v := nI 0) (Or.inl rfl) (mk_k hK)
  generalize wi s 4 0 (nI 0) = s1_ at m1_ ⊢
  refine g_p t50_9 rfl ?_
  refine g_k (n := 0) t50_10 rfl rfl ?_
  refine r_puti t50_11 m1_.h rfl rfl ?_
  have m2_ := m1_.wx (p := 4) (i := 1) (v := nI 0) (Or.inl rfl) (mk_k hK)
  generalize wi s1_ 4 1 (nI 0) = s2_ at m2_ ⊢
  refine g_p t50_14 rfl ?_
  refine g_k (n := 0) t50_15 rfl rfl ?_
  refine r_puti t50_16 m2_.h rfl rfl ?_
  have m3_ := m2_.wx (p := 4) (i := 2) (v := nI 0) (Or.inl rfl) (mk_k hK)
  generalize wi s2_ 4 2 (nI 0) = s3_ at m3_ ⊢
  refine g_p t50_19 rfl ?_
  refine g_p t50_20 rfl ?_
  refine r_puti t50_21 m3_.h rfl rfl ?_
  have m4_ := m3_.wx (p := 4) (i := 3) (v := (-1)) (Or.inr (by decide)) (mk_k hK)
  generalize wi s3_ 4 3 ((-1)) = s4_ at m4_ ⊢
  exact v_ret t50_24 (hq s4_ (m4_))
theorem m0_5 (hE : ∀ pe ∈ E, pe.1 < 5) (hK : ∀ k ∈ K, k.1 < 5) (h : Mk 6 S ((5, .inr (1, [.null, .null, .null, .int 0])) :: E) K s) (hq : ∀ s', Mk 12 (S + 297) E (K) s' → Q none (mR s')) : gE X (d + 1) 0 [.ref 5] (mR s) Q := by
  have m0 := h
  refine en0 rfl ?_
  refine g_p t0_0 rfl ?_
  refine g_oi t0_1 (Nat.le_of_ble_eq_true rfl) ?_
  refine g_p t0_4 rfl ?_
  refine r_new (e := .inr (4, [.null, .int 0])) t0_5 rfl ?_
  rw [m0.nx]
  refine g_p t0_8 rfl ?_
  refine g_k (n := 8) t0_9 rfl rfl ?_
  refine g_ci t0_11 rfl rfl rfl ?_
  refine c28 (s := wn s (.inr (4, [.null, .int 0])) 2) (p := 6) (m0.new (e := .inr (4, [.null, .int 0])) (n := 2)).h (m0.new (e := .inr (4, [.null, .int 0])) (n := 2)).nx (by decide) ?_
  refine k_0 ?_
  have m1_ := m0.num (m := 8) rfl rfl (by decide)
  generalize nmk (wn s (.inr (4, [.null, .int 0])) 2) 6 8 = s1_ at m1_ ⊢
  refine r_putr (f2 := [.ref 6, .null, .null, .int 0]) t0_14 m1_.h rfl rfl rfl rfl rfl ?_
  have m2_ := m1_.put (e := .inr (1, [.ref 6, .null, .null, .int 0])) hE
  generalize wr s1_ 5 (.inr (1, [.ref 6, .null, .null, .int 0])) = s2_ at m2_ ⊢
  refine g_p t0_17 rfl ?_
  refine r_new (e := .inr (4, [.null, .int 0])) t0_18 rfl ?_
  rw [m2_.nx]
  refine g_p t0_21 rfl ?_
  refine g_k (n := 40) t0_22 rfl rfl ?_
  refine g_ci t0_24 rfl rfl rfl ?_
  refine c28 (s := wn s2_ (.inr (4, [.null, .int 0])) 2) (p := 8) (m2_.new (e := .inr (4, [.null, .int 0])) (n := 2)).h (m2_.new (e := .inr (4, [.null, .int 0])) (n := 2)).nx (by decide) ?_
  refine k_0 ?_
  have m3_ := m2_.num (m := 40) rfl rfl (by decide)
  generalize nmk (wn s2_ (.inr (4, [.null, .int 0])) 2) 8 40 = s3_ at m3_ ⊢
  refine r_putr (f2 := [.ref 6, .ref 8, .null, .int 0]) t0_27 m3_.h rfl rfl rfl rfl rfl ?_
  have m4_ := m3_.put (e := .inr (1, [.ref 6, .ref 8, .null, .int 0])) hE
  generalize wr s3_ 5 (.inr (1, [.ref 6, .ref 8, .null, .int 0])) = s4_ at m4_ ⊢
  refine g_p t0_30 rfl ?_
  refine r_new (e := .inr (4, [.null, .int 0])) t0_31 rfl ?_
  rw [m4_.nx]
  refine g_p t0_34 rfl ?_
  refine g_k (n := 243) t0_35 rfl rfl ?_
  refine g_ci t0_38 rfl rfl rfl ?_
  refine c28 (s := wn s4_ (.inr (4, [.null, .int 0])) 2) (p := 10) (m4_.new (e := .inr (4, [.null, .int 0])) (n := 2)).h (m4_.new (e := .inr (4, [.null, .int 0])) (n := 2)).nx (by decide) ?_
  refine k_0 ?_
  have m5_ := m4_.num (m := 243) rfl rfl (by decide)
  generalize nmk (wn s4_ (.inr (4, [.null, .int 0])) 2) 10 243 = s5_ at m5_ ⊢
  refine r_putr (f2 := [.ref 6, .ref 8, .ref 10, .int 0]) t0_41 m5_.h rfl rfl rfl rfl rfl ?_
  have m6_ := m5_.put (e := .inr (1, [.ref 6, .ref 8, .ref 10, .int 0])) hE
  generalize wr s5_ 5 (.inr (1, [.ref 6, .ref 8, .ref 10, .int 0])) = s6_ at m6_ ⊢
  refine g_p t0_44 rfl ?_
  refine g_k (n := 0) t0_45 rfl rfl ?_
  refine r_puti t0_46 m6_.h rfl rfl ?_
  have m7_ := m6_.wx (p := 5) (i := 3) (v := nI 0) (Or.inl rfl) (mk_k hK)
  generalize wi s6_ 5 3 (nI 0) = s7_ at m7_ ⊢
  exact v_ret t0_49 (hq s7_ (m7_.pop rfl))
theorem m11_4 (hE : ∀ pe ∈ E, pe.1 < 4) (hK : ∀ k ∈ K, k.1 < 4) (h : Mk 5 S ((4, .inr (2, [.retAddr 7, .int 0, .int 0, .int 0, .null])) :: E) K s) (hq : ∀ s', Mk 12 (S + 301) E (K) s' → Q none (mR s')) : gE X (d + 2) 11 [.ref 4] (mR s) Q := by
  have m0 := h
  refine en11 rfl ?_
  refine g_p t11_0 rfl ?_
  refine g_ci t11_1 rfl rfl rfl ?_
  refine m50_4 hE hK m0 (fun s1_ m1_ => ?_)
  refine k_0 ?_
  refine g_p t11_4 rfl ?_
  refine r_new (e := .inr (1, [.null, .null, .null, .int 0])) t11_5 rfl ?_
  rw [m1_.nx]
  have m2_ := m1_.new (e := .inr (1, [.null, .null, .null, .int 0])) (n := 4)
  generalize wn s1_ (.inr (1, [.null, .null, .null, .int 0])) 4 = s2_ at m2_ ⊢
  refine g_p t11_8 rfl ?_
  refine g_ci t11_9 rfl rfl rfl ?_
  refine m0_5 (mk_lt m2_ hE (by decide)) (mk_kt m2_ hK (by decide)) m2_ (fun s3_ m3_ => ?_)
  refine k_0 ?_
  refine r_putr (f2 := [.retAddr 7, .int 0, .int 0, .int 0, .ref 5]) t11_12 m3_.h rfl rfl rfl rfl rfl ?_
  have m4_ := m3_.put (e := .inr (2, [.retAddr 7, .int 0, .int 0, .int 0, .ref 5])) hE
  generalize wr s3_ 4 (.inr (2, [.retAddr 7, .int 0, .int 0, .int 0, .ref 5])) = s4_ at m4_ ⊢
  exact v_ret t11_15 (hq s4_ (m4_.pop rfl))
theorem m50_12 (hE : ∀ pe ∈ E, pe.1 < 12) (hK : ∀ k ∈ K, k.1 < 12) (h : Mk 13 S ((12, .inr (10, [.retAddr 7, .int 0, .int 0, .int 0, .null])) :: E) K s) (hq : ∀ s', Mk 13 S ((12, .inr (10, [.retAddr 7, .int 0, .int 0, .int 0, .null])) :: E) K s' → Q none (mR s')) : gE X d 50 [.ref 12] (mR s) Q := by
  have m0 := h
  refine en50 rfl ?_
  refine g_p t50_0 rfl ?_
  refine g_oi t50_1 (Nat.le_of_ble_eq_true rfl) ?_
  refine g_p t50_4 rfl ?_
  refine g_p t50_5 rfl ?_
  refine r_putq (a := nI 0) t50_6 m0.h rfl rfl rfl ?_
  have m1_ := m0.wx (p := 12) (i := 0) (v := nI 0) (Or.inl rfl) (mk_k hK)
  generalize wi s 12 0 (nI 0) = s1_ at m1_ ⊢
  refine g_p t50_9 rfl ?_
  refine g_k (n := 0) t50_10 rfl rfl ?_
  refine r_puti t50_11 m1_.h rfl rfl ?_
  have m2_ := m1_.wx (p := 12) (i := 1) (v := nI 0) (Or.inl rfl) (mk_k hK)
  generalize wi s1_ 12 1 (nI 0) = s2_ at m2_ ⊢
  refine g_p t50_14 rfl ?_
  refine g_k (n := 0) t50_15 rfl rfl ?_
  refine r_puti t50_16 m2_.h rfl rfl ?_
  have m3_ := m2_.wx (p := 12) (i := 2) (v := nI 0) (Or.inl rfl) (mk_k hK)
  generalize wi s2_ 12 2 (nI 0) = s3_ at m3_ ⊢
  refine g_p t50_19 rfl ?_
  refine g_p t50_20 rfl ?_
  refine r_puti t50_21 m3_.h rfl rfl ?_
  have m4_ := m3_.wx (p := 12) (i := 3) (v := (-1)) (Or.inr (by decide)) (mk_k hK)
  generalize wi s3_ 12 3 ((-1)) = s4_ at m4_ ⊢
  exact v_ret t50_24 (hq s4_ (m4_))
theorem m115_12 (hE : ∀ pe ∈ E, pe.1 < 12) (hK : ∀ k ∈ K, k.1 < 12) (h : Mk 13 S ((12, .inr (10, [.retAddr 7, .int 0, .int 0, .int 0, .null])) :: E) K s) (hq : ∀ s', Mk 15 (S + 10) E (K) s' → Q none (mR s')) : gE X (d + 1) 115 [.ref 12] (mR s) Q := by
  have m0 := h
  refine en115 rfl ?_
  refine g_p t115_0 rfl ?_
  refine g_ci t115_1 rfl rfl rfl ?_
  refine m50_12 hE hK m0 (fun s1_ m1_ => ?_)
  refine k_0 ?_
  refine g_p t115_4 rfl ?_
  refine r_new (e := .inr (4, [.null, .int 0])) t115_5 rfl ?_
  rw [m1_.nx]
  refine g_p t115_8 rfl ?_
  refine g_k (n := 8) t115_9 rfl rfl ?_
  refine g_ci t115_11 rfl rfl rfl ?_
  refine c28 (s := wn s1_ (.inr (4, [.null, .int 0])) 2) (p := 13) (m1_.new (e := .inr (4, [.null, .int 0])) (n := 2)).h (m1_.new (e := .inr (4, [.null, .int 0])) (n := 2)).nx (by decide) ?_
  refine k_0 ?_
  have m2_ := m1_.num (m := 8) rfl rfl (by decide)
  generalize nmk (wn s1_ (.inr (4, [.null, .int 0])) 2) 13 8 = s2_ at m2_ ⊢
  refine r_putr (f2 := [.retAddr 7, .int 0, .int 0, .int 0, .ref 13]) t115_14 m2_.h rfl rfl rfl rfl rfl ?_
  have m3_ := m2_.put (e := .inr (10, [.retAddr 7, .int 0, .int 0, .int 0, .ref 13])) hE
  generalize wr s2_ 12 (.inr (10, [.retAddr 7, .int 0, .int 0, .int 0, .ref 13])) = s3_ at m3_ ⊢
  exact v_ret t115_17 (hq s3_ (m3_.pop rfl))
theorem m50_15 (hE : ∀ pe ∈ E, pe.1 < 15) (hK : ∀ k ∈ K, k.1 < 15) (h : Mk 16 S ((15, .inr (3, [.retAddr 7, .int 0, .int 0, .int 0, .int 0, .int 0, .int 0, .int 0, .int 0, .long 0])) :: E) K s) (hq : ∀ s', Mk 16 S ((15, .inr (3, [.retAddr 7, .int 0, .int 0, .int 0, .int 0, .int 0, .int 0, .int 0, .int 0, .long 0])) :: E) K s' → Q none (mR s')) : gE X d 50 [.ref 15] (mR s) Q := by
  have m0 := h
  refine en50 rfl ?_
  refine g_p t50_0 rfl ?_
  refine g_oi t50_1 (Nat.le_of_ble_eq_true rfl) ?_
  refine g_p t50_4 rfl ?_
  refine g_p t50_5 rfl ?_
  refine r_putq (a := nI 0) t50_6 m0.h rfl rfl rfl ?_
  have m1_ := m0.wx (p := 15) (i := 0) (v := nI 0) (Or.inl rfl) (mk_k hK)
  generalize wi s 15 0 (nI 0) = s1_ at m1_ ⊢
  refine g_p t50_9 rfl ?_
  refine g_k (n := 0) t50_10 rfl rfl ?_
  refine r_puti t50_11 m1_.h rfl rfl ?_
  have m2_ := m1_.wx (p := 15) (i := 1) (v := nI 0) (Or.inl rfl) (mk_k hK)
  generalize wi s1_ 15 1 (nI 0) = s2_ at m2_ ⊢
  refine g_p t50_14 rfl ?_
  refine g_k (n := 0) t50_15 rfl rfl ?_
  refine r_puti t50_16 m2_.h rfl rfl ?_
  have m3_ := m2_.wx (p := 15) (i := 2) (v := nI 0) (Or.inl rfl) (mk_k hK)
  generalize wi s2_ 15 2 (nI 0) = s3_ at m3_ ⊢
  refine g_p t50_19 rfl ?_
  refine g_p t50_20 rfl ?_
  refine r_puti t50_21 m3_.h rfl rfl ?_
  have m4_ := m3_.wx (p := 15) (i := 3) (v := (-1)) (Or.inr (by decide)) (mk_k hK)
  generalize wi s3_ 15 3 ((-1)) = s4_ at m4_ ⊢
  exact v_ret t50_24 (hq s4_ (m4_))
theorem m16_15 (hE : ∀ pe ∈ E, pe.1 < 15) (hK : ∀ k ∈ K, k.1 < 15) (h : Mk 16 S ((15, .inr (3, [.retAddr 7, .int 0, .int 0, .int 0, .int 0, .int 0, .int 0, .int 0, .int 0, .long 0])) :: E) K s) (hq : ∀ s', Mk 16 (S + 0) E (K) s' → Q none (mR s')) : gE X (d + 1) 16 [.ref 15] (mR s) Q := by
  have m0 := h
  refine en16 rfl ?_
  refine g_p t16_0 rfl ?_
  refine g_ci t16_1 rfl rfl rfl ?_
  refine m50_15 hE hK m0 (fun s1_ m1_ => ?_)
  refine k_0 ?_
  refine g_p t16_4 rfl ?_
  refine g_k (n := 0) t16_5 rfl rfl ?_
  refine r_puti t16_6 m1_.h rfl rfl ?_
  have m2_ := m1_.wx (p := 15) (i := 4) (v := nI 0) (Or.inl rfl) (mk_k hK)
  generalize wi s1_ 15 4 (nI 0) = s2_ at m2_ ⊢
  refine g_p t16_9 rfl ?_
  refine g_k (n := 0) t16_10 rfl rfl ?_
  refine r_puti t16_11 m2_.h rfl rfl ?_
  have m3_ := m2_.wx (p := 15) (i := 5) (v := nI 0) (Or.inl rfl) (mk_k hK)
  generalize wi s2_ 15 5 (nI 0) = s3_ at m3_ ⊢
  refine g_p t16_14 rfl ?_
  refine g_k (n := 0) t16_15 rfl rfl ?_
  refine r_puti t16_16 m3_.h rfl rfl ?_
  have m4_ := m3_.wx (p := 15) (i := 6) (v := nI 0) (Or.inl rfl) (mk_k hK)
  generalize wi s3_ 15 6 (nI 0) = s4_ at m4_ ⊢
  refine g_p t16_19 rfl ?_
  refine g_k (n := 0) t16_20 rfl rfl ?_
  refine r_puti t16_21 m4_.h rfl rfl ?_
  have m5_ := m4_.wx (p := 15) (i := 7) (v := nI 0) (Or.inl rfl) (mk_k hK)
  generalize wi s4_ 15 7 (nI 0) = s5_ at m5_ ⊢
  refine g_p t16_24 rfl ?_
  refine g_k (n := 0) t16_25 rfl rfl ?_
  refine r_putz t16_26 m5_.h rfl rfl rfl ?_
  have m6_ := m5_.wx (p := 15) (i := 8) (v := nI 0) (Or.inl rfl) (mk_k hK)
  generalize wi s5_ 15 8 (nI 0) = s6_ at m6_ ⊢
  refine g_p t16_29 rfl ?_
  refine g_p t16_30 rfl ?_
  refine r_putl t16_31 m6_.h rfl rfl ?_
  have m7_ := m6_.wL (p := 15) (i := 9) (u := 0)
  generalize wl s6_ 15 9 0 = s7_ at m7_ ⊢
  exact v_ret t16_34 (hq s7_ (m7_.pop rfl))
theorem m69_19 (hE : ∀ pe ∈ E, pe.1 < 19) (hK : ∀ k ∈ K, k.1 < 19) (h : Mk 20 S ((19, .inr (7, [.int 0, .int 0, .null, .null, .null, .null, .null, .null])) :: E) K s) (hq : ∀ s', Mk 32 (S + 5363) E (K) s' → Q none (mR s')) : gE X (d + 1) 69 [.ref 19] (mR s) Q := by
  have m0 := h
  refine en69 rfl ?_
  refine g_p t69_0 rfl ?_
  refine g_oi t69_1 (Nat.le_of_ble_eq_true rfl) ?_
  refine g_p t69_4 rfl ?_
  refine g_k (n := 0) t69_5 rfl rfl ?_
  refine r_puti t69_6 m0.h rfl rfl ?_
  have m1_ := m0.wx (p := 19) (i := 0) (v := nI 0) (Or.inl rfl) (mk_k hK)
  generalize wi s 19 0 (nI 0) = s1_ at m1_ ⊢
  refine g_p t69_9 rfl ?_
  refine g_k (n := 0) t69_10 rfl rfl ?_
  refine r_puti t69_11 m1_.h rfl rfl ?_
  have m2_ := m1_.wx (p := 19) (i := 1) (v := nI 0) (Or.inl rfl) (mk_k hK)
  generalize wi s1_ 19 1 (nI 0) = s2_ at m2_ ⊢
  refine g_p t69_14 rfl ?_
  refine r_new (e := .inr (4, [.null, .int 0])) t69_15 rfl ?_
  rw [m2_.nx]
  refine g_p t69_18 rfl ?_
  refine g_k (n := 1215) t69_19 rfl rfl ?_
  refine g_ci t69_22 rfl rfl rfl ?_
  refine c28 (s := wn s2_ (.inr (4, [.null, .int 0])) 2) (p := 20) (m2_.new (e := .inr (4, [.null, .int 0])) (n := 2)).h (m2_.new (e := .inr (4, [.null, .int 0])) (n := 2)).nx (by decide) ?_
  refine k_0 ?_
  have m3_ := m2_.num (m := 1215) rfl rfl (by decide)
  generalize nmk (wn s2_ (.inr (4, [.null, .int 0])) 2) 20 1215 = s3_ at m3_ ⊢
  refine r_putr (f2 := [.int 0, .int 0, .ref 20, .null, .null, .null, .null, .null]) t69_25 m3_.h rfl rfl rfl rfl rfl ?_
  have m4_ := m3_.put (e := .inr (7, [.int 0, .int 0, .ref 20, .null, .null, .null, .null, .null])) hE
  generalize wr s3_ 19 (.inr (7, [.int 0, .int 0, .ref 20, .null, .null, .null, .null, .null])) = s4_ at m4_ ⊢
  refine g_p t69_28 rfl ?_
  refine r_new (e := .inr (4, [.null, .int 0])) t69_29 rfl ?_
  rw [m4_.nx]
  refine g_p t69_32 rfl ?_
  refine g_k (n := 5) t69_33 rfl rfl ?_
  refine g_ci t69_34 rfl rfl rfl ?_
  refine c28 (s := wn s4_ (.inr (4, [.null, .int 0])) 2) (p := 22) (m4_.new (e := .inr (4, [.null, .int 0])) (n := 2)).h (m4_.new (e := .inr (4, [.null, .int 0])) (n := 2)).nx (by decide) ?_
  refine k_0 ?_
  have m5_ := m4_.num (m := 5) rfl rfl (by decide)
  generalize nmk (wn s4_ (.inr (4, [.null, .int 0])) 2) 22 5 = s5_ at m5_ ⊢
  refine r_putr (f2 := [.int 0, .int 0, .ref 20, .ref 22, .null, .null, .null, .null]) t69_37 m5_.h rfl rfl rfl rfl rfl ?_
  have m6_ := m5_.put (e := .inr (7, [.int 0, .int 0, .ref 20, .ref 22, .null, .null, .null, .null])) hE
  generalize wr s5_ 19 (.inr (7, [.int 0, .int 0, .ref 20, .ref 22, .null, .null, .null, .null])) = s6_ at m6_ ⊢
  refine g_p t69_40 rfl ?_
  refine r_new (e := .inr (4, [.null, .int 0])) t69_41 rfl ?_
  rw [m6_.nx]
  refine g_p t69_44 rfl ?_
  refine g_k (n := 243) t69_45 rfl rfl ?_
  refine g_ci t69_48 rfl rfl rfl ?_
  refine c28 (s := wn s6_ (.inr (4, [.null, .int 0])) 2) (p := 24) (m6_.new (e := .inr (4, [.null, .int 0])) (n := 2)).h (m6_.new (e := .inr (4, [.null, .int 0])) (n := 2)).nx (by decide) ?_
  refine k_0 ?_
  have m7_ := m6_.num (m := 243) rfl rfl (by decide)
  generalize nmk (wn s6_ (.inr (4, [.null, .int 0])) 2) 24 243 = s7_ at m7_ ⊢
  refine r_putr (f2 := [.int 0, .int 0, .ref 20, .ref 22, .ref 24, .null, .null, .null]) t69_51 m7_.h rfl rfl rfl rfl rfl ?_
  have m8_ := m7_.put (e := .inr (7, [.int 0, .int 0, .ref 20, .ref 22, .ref 24, .null, .null, .null])) hE
  generalize wr s7_ 19 (.inr (7, [.int 0, .int 0, .ref 20, .ref 22, .ref 24, .null, .null, .null])) = s8_ at m8_ ⊢
  refine g_p t69_54 rfl ?_
  refine r_new (e := .inr (4, [.null, .int 0])) t69_55 rfl ?_
  rw [m8_.nx]
  refine g_p t69_58 rfl ?_
  refine g_k (n := 243) t69_59 rfl rfl ?_
  refine g_ci t69_62 rfl rfl rfl ?_
  refine c28 (s := wn s8_ (.inr (4, [.null, .int 0])) 2) (p := 26) (m8_.new (e := .inr (4, [.null, .int 0])) (n := 2)).h (m8_.new (e := .inr (4, [.null, .int 0])) (n := 2)).nx (by decide) ?_
  refine k_0 ?_
  have m9_ := m8_.num (m := 243) rfl rfl (by decide)
  generalize nmk (wn s8_ (.inr (4, [.null, .int 0])) 2) 26 243 = s9_ at m9_ ⊢
  refine r_putr (f2 := [.int 0, .int 0, .ref 20, .ref 22, .ref 24, .ref 26, .null, .null]) t69_65 m9_.h rfl rfl rfl rfl rfl ?_
  have m10_ := m9_.put (e := .inr (7, [.int 0, .int 0, .ref 20, .ref 22, .ref 24, .ref 26, .null, .null])) hE
  generalize wr s9_ 19 (.inr (7, [.int 0, .int 0, .ref 20, .ref 22, .ref 24, .ref 26, .null, .null])) = s10_ at m10_ ⊢
  refine g_p t69_68 rfl ?_
  refine r_new (e := .inr (4, [.null, .int 0])) t69_69 rfl ?_
  rw [m10_.nx]
  refine g_p t69_72 rfl ?_
  refine g_k (n := 243) t69_73 rfl rfl ?_
  refine g_ci t69_76 rfl rfl rfl ?_
  refine c28 (s := wn s10_ (.inr (4, [.null, .int 0])) 2) (p := 28) (m10_.new (e := .inr (4, [.null, .int 0])) (n := 2)).h (m10_.new (e := .inr (4, [.null, .int 0])) (n := 2)).nx (by decide) ?_
  refine k_0 ?_
  have m11_ := m10_.num (m := 243) rfl rfl (by decide)
  generalize nmk (wn s10_ (.inr (4, [.null, .int 0])) 2) 28 243 = s11_ at m11_ ⊢
  refine r_putr (f2 := [.int 0, .int 0, .ref 20, .ref 22, .ref 24, .ref 26, .ref 28, .null]) t69_79 m11_.h rfl rfl rfl rfl rfl ?_
  have m12_ := m11_.put (e := .inr (7, [.int 0, .int 0, .ref 20, .ref 22, .ref 24, .ref 26, .ref 28, .null])) hE
  generalize wr s11_ 19 (.inr (7, [.int 0, .int 0, .ref 20, .ref 22, .ref 24, .ref 26, .ref 28, .null])) = s12_ at m12_ ⊢
  refine g_p t69_82 rfl ?_
  refine r_new (e := .inr (4, [.null, .int 0])) t69_83 rfl ?_
  rw [m12_.nx]
  refine g_p t69_86 rfl ?_
  refine g_k (n := 3402) t69_87 rfl rfl ?_
  refine g_ci t69_90 rfl rfl rfl ?_
  refine c28 (s := wn s12_ (.inr (4, [.null, .int 0])) 2) (p := 30) (m12_.new (e := .inr (4, [.null, .int 0])) (n := 2)).h (m12_.new (e := .inr (4, [.null, .int 0])) (n := 2)).nx (by decide) ?_
  refine k_0 ?_
  have m13_ := m12_.num (m := 3402) rfl rfl (by decide)
  generalize nmk (wn s12_ (.inr (4, [.null, .int 0])) 2) 30 3402 = s13_ at m13_ ⊢
  refine r_putr (f2 := [.int 0, .int 0, .ref 20, .ref 22, .ref 24, .ref 26, .ref 28, .ref 30]) t69_93 m13_.h rfl rfl rfl rfl rfl ?_
  have m14_ := m13_.put (e := .inr (7, [.int 0, .int 0, .ref 20, .ref 22, .ref 24, .ref 26, .ref 28, .ref 30])) hE
  generalize wr s13_ 19 (.inr (7, [.int 0, .int 0, .ref 20, .ref 22, .ref 24, .ref 26, .ref 28, .ref 30])) = s14_ at m14_ ⊢
  exact v_ret t69_96 (hq s14_ (m14_.pop rfl))
theorem m93_32 (hE : ∀ pe ∈ E, pe.1 < 32) (hK : ∀ k ∈ K, k.1 < 32) (h : Mk 33 S ((32, .inr (9, [.null, .int 0, .int 0, .int 0, .int 0, .int 0, .int 0, .null, .null, .null, .null])) :: E) K s) (hq : ∀ s', Mk 41 (S + 248) E (K) s' → Q none (mR s')) : gE X (d + 1) 93 [.ref 32, .ref 19] (mR s) Q := by
  have m0 := h
  refine en93 rfl rfl ?_
  refine g_p t93_0 rfl ?_
  refine g_oi t93_1 (Nat.le_of_ble_eq_true rfl) ?_
  refine g_p t93_4 rfl ?_
  refine g_k (n := 0) t93_5 rfl rfl ?_
  refine r_puti t93_6 m0.h rfl rfl ?_
  have m1_ := m0.wx (p := 32) (i := 1) (v := nI 0) (Or.inl rfl) (mk_k hK)
  generalize wi s 32 1 (nI 0) = s1_ at m1_ ⊢
  refine g_p t93_9 rfl ?_
  refine g_k (n := 0) t93_10 rfl rfl ?_
  refine r_puti t93_11 m1_.h rfl rfl ?_
  have m2_ := m1_.wx (p := 32) (i := 2) (v := nI 0) (Or.inl rfl) (mk_k hK)
  generalize wi s1_ 32 2 (nI 0) = s2_ at m2_ ⊢
  refine g_p t93_14 rfl ?_
  refine g_k (n := 0) t93_15 rfl rfl ?_
  refine r_puti t93_16 m2_.h rfl rfl ?_
  have m3_ := m2_.wx (p := 32) (i := 3) (v := nI 0) (Or.inl rfl) (mk_k hK)
  generalize wi s2_ 32 3 (nI 0) = s3_ at m3_ ⊢
  refine g_p t93_19 rfl ?_
  refine g_k (n := 0) t93_20 rfl rfl ?_
  refine r_puti t93_21 m3_.h rfl rfl ?_
  have m4_ := m3_.wx (p := 32) (i := 4) (v := nI 0) (Or.inl rfl) (mk_k hK)
  generalize wi s3_ 32 4 (nI 0) = s4_ at m4_ ⊢
  refine g_p t93_24 rfl ?_
  refine g_k (n := 0) t93_25 rfl rfl ?_
  refine r_puti t93_26 m4_.h rfl rfl ?_
  have m5_ := m4_.wx (p := 32) (i := 5) (v := nI 0) (Or.inl rfl) (mk_k hK)
  generalize wi s4_ 32 5 (nI 0) = s5_ at m5_ ⊢
  refine g_p t93_29 rfl ?_
  refine g_k (n := 0) t93_30 rfl rfl ?_
  refine r_puti t93_31 m5_.h rfl rfl ?_
  have m6_ := m5_.wx (p := 32) (i := 6) (v := nI 0) (Or.inl rfl) (mk_k hK)
  generalize wi s5_ 32 6 (nI 0) = s6_ at m6_ ⊢
  refine g_p t93_34 rfl ?_
  refine r_new (e := .inr (4, [.null, .int 0])) t93_35 rfl ?_
  rw [m6_.nx]
  refine g_p t93_38 rfl ?_
  refine g_k (n := 60) t93_39 rfl rfl ?_
  refine g_ci t93_41 rfl rfl rfl ?_
  refine c28 (s := wn s6_ (.inr (4, [.null, .int 0])) 2) (p := 33) (m6_.new (e := .inr (4, [.null, .int 0])) (n := 2)).h (m6_.new (e := .inr (4, [.null, .int 0])) (n := 2)).nx (by decide) ?_
  refine k_0 ?_
  have m7_ := m6_.num (m := 60) rfl rfl (by decide)
  generalize nmk (wn s6_ (.inr (4, [.null, .int 0])) 2) 33 60 = s7_ at m7_ ⊢
  refine r_putr (f2 := [.null, .int 0, .int 0, .int 0, .int 0, .int 0, .int 0, .ref 33, .null, .null, .null]) t93_44 m7_.h rfl rfl rfl rfl rfl ?_
  have m8_ := m7_.put (e := .inr (9, [.null, .int 0, .int 0, .int 0, .int 0, .int 0, .int 0, .ref 33, .null, .null, .null])) hE
  generalize wr s7_ 32 (.inr (9, [.null, .int 0, .int 0, .int 0, .int 0, .int 0, .int 0, .ref 33, .null, .null, .null])) = s8_ at m8_ ⊢
  refine g_p t93_47 rfl ?_
  refine r_new (e := .inr (4, [.null, .int 0])) t93_48 rfl ?_
  rw [m8_.nx]
  refine g_p t93_51 rfl ?_
  refine g_k (n := 60) t93_52 rfl rfl ?_
  refine g_ci t93_54 rfl rfl rfl ?_
  refine c28 (s := wn s8_ (.inr (4, [.null, .int 0])) 2) (p := 35) (m8_.new (e := .inr (4, [.null, .int 0])) (n := 2)).h (m8_.new (e := .inr (4, [.null, .int 0])) (n := 2)).nx (by decide) ?_
  refine k_0 ?_
  have m9_ := m8_.num (m := 60) rfl rfl (by decide)
  generalize nmk (wn s8_ (.inr (4, [.null, .int 0])) 2) 35 60 = s9_ at m9_ ⊢
  refine r_putr (f2 := [.null, .int 0, .int 0, .int 0, .int 0, .int 0, .int 0, .ref 33, .ref 35, .null, .null]) t93_57 m9_.h rfl rfl rfl rfl rfl ?_
  have m10_ := m9_.put (e := .inr (9, [.null, .int 0, .int 0, .int 0, .int 0, .int 0, .int 0, .ref 33, .ref 35, .null, .null])) hE
  generalize wr s9_ 32 (.inr (9, [.null, .int 0, .int 0, .int 0, .int 0, .int 0, .int 0, .ref 33, .ref 35, .null, .null])) = s10_ at m10_ ⊢
  refine g_p t93_60 rfl ?_
  refine r_new (e := .inr (4, [.null, .int 0])) t93_61 rfl ?_
  rw [m10_.nx]
  refine g_p t93_64 rfl ?_
  refine g_k (n := 60) t93_65 rfl rfl ?_
  refine g_ci t93_67 rfl rfl rfl ?_
  refine c28 (s := wn s10_ (.inr (4, [.null, .int 0])) 2) (p := 37) (m10_.new (e := .inr (4, [.null, .int 0])) (n := 2)).h (m10_.new (e := .inr (4, [.null, .int 0])) (n := 2)).nx (by decide) ?_
  refine k_0 ?_
  have m11_ := m10_.num (m := 60) rfl rfl (by decide)
  generalize nmk (wn s10_ (.inr (4, [.null, .int 0])) 2) 37 60 = s11_ at m11_ ⊢
  refine r_putr (f2 := [.null, .int 0, .int 0, .int 0, .int 0, .int 0, .int 0, .ref 33, .ref 35, .ref 37, .null]) t93_70 m11_.h rfl rfl rfl rfl rfl ?_
  have m12_ := m11_.put (e := .inr (9, [.null, .int 0, .int 0, .int 0, .int 0, .int 0, .int 0, .ref 33, .ref 35, .ref 37, .null])) hE
  generalize wr s11_ 32 (.inr (9, [.null, .int 0, .int 0, .int 0, .int 0, .int 0, .int 0, .ref 33, .ref 35, .ref 37, .null])) = s12_ at m12_ ⊢
  refine g_p t93_73 rfl ?_
  refine r_new (e := .inr (4, [.null, .int 0])) t93_74 rfl ?_
  rw [m12_.nx]
  refine g_p t93_77 rfl ?_
  refine g_k (n := 60) t93_78 rfl rfl ?_
  refine g_ci t93_80 rfl rfl rfl ?_
  refine c28 (s := wn s12_ (.inr (4, [.null, .int 0])) 2) (p := 39) (m12_.new (e := .inr (4, [.null, .int 0])) (n := 2)).h (m12_.new (e := .inr (4, [.null, .int 0])) (n := 2)).nx (by decide) ?_
  refine k_0 ?_
  have m13_ := m12_.num (m := 60) rfl rfl (by decide)
  generalize nmk (wn s12_ (.inr (4, [.null, .int 0])) 2) 39 60 = s13_ at m13_ ⊢
  refine r_putr (f2 := [.null, .int 0, .int 0, .int 0, .int 0, .int 0, .int 0, .ref 33, .ref 35, .ref 37, .ref 39]) t93_83 m13_.h rfl rfl rfl rfl rfl ?_
  have m14_ := m13_.put (e := .inr (9, [.null, .int 0, .int 0, .int 0, .int 0, .int 0, .int 0, .ref 33, .ref 35, .ref 37, .ref 39])) hE
  generalize wr s13_ 32 (.inr (9, [.null, .int 0, .int 0, .int 0, .int 0, .int 0, .int 0, .ref 33, .ref 35, .ref 37, .ref 39])) = s14_ at m14_ ⊢
  refine g_p t93_86 rfl ?_
  refine g_p t93_87 rfl ?_
  refine r_putr (f2 := [.ref 19, .int 0, .int 0, .int 0, .int 0, .int 0, .int 0, .ref 33, .ref 35, .ref 37, .ref 39]) t93_88 m14_.h rfl rfl rfl rfl rfl ?_
  have m15_ := m14_.put (e := .inr (9, [.ref 19, .int 0, .int 0, .int 0, .int 0, .int 0, .int 0, .ref 33, .ref 35, .ref 37, .ref 39])) hE
  generalize wr s14_ 32 (.inr (9, [.ref 19, .int 0, .int 0, .int 0, .int 0, .int 0, .int 0, .ref 33, .ref 35, .ref 37, .ref 39])) = s15_ at m15_ ⊢
  exact v_ret t93_91 (hq s15_ (m15_.pop rfl))
theorem m93_41 (hE : ∀ pe ∈ E, pe.1 < 41) (hK : ∀ k ∈ K, k.1 < 41) (h : Mk 42 S ((41, .inr (9, [.null, .int 0, .int 0, .int 0, .int 0, .int 0, .int 0, .null, .null, .null, .null])) :: E) K s) (hq : ∀ s', Mk 50 (S + 248) E (K) s' → Q none (mR s')) : gE X (d + 1) 93 [.ref 41, .ref 19] (mR s) Q := by
  have m0 := h
  refine en93 rfl rfl ?_
  refine g_p t93_0 rfl ?_
  refine g_oi t93_1 (Nat.le_of_ble_eq_true rfl) ?_
  refine g_p t93_4 rfl ?_
  refine g_k (n := 0) t93_5 rfl rfl ?_
  refine r_puti t93_6 m0.h rfl rfl ?_
  have m1_ := m0.wx (p := 41) (i := 1) (v := nI 0) (Or.inl rfl) (mk_k hK)
  generalize wi s 41 1 (nI 0) = s1_ at m1_ ⊢
  refine g_p t93_9 rfl ?_
  refine g_k (n := 0) t93_10 rfl rfl ?_
  refine r_puti t93_11 m1_.h rfl rfl ?_
  have m2_ := m1_.wx (p := 41) (i := 2) (v := nI 0) (Or.inl rfl) (mk_k hK)
  generalize wi s1_ 41 2 (nI 0) = s2_ at m2_ ⊢
  refine g_p t93_14 rfl ?_
  refine g_k (n := 0) t93_15 rfl rfl ?_
  refine r_puti t93_16 m2_.h rfl rfl ?_
  have m3_ := m2_.wx (p := 41) (i := 3) (v := nI 0) (Or.inl rfl) (mk_k hK)
  generalize wi s2_ 41 3 (nI 0) = s3_ at m3_ ⊢
  refine g_p t93_19 rfl ?_
  refine g_k (n := 0) t93_20 rfl rfl ?_
  refine r_puti t93_21 m3_.h rfl rfl ?_
  have m4_ := m3_.wx (p := 41) (i := 4) (v := nI 0) (Or.inl rfl) (mk_k hK)
  generalize wi s3_ 41 4 (nI 0) = s4_ at m4_ ⊢
  refine g_p t93_24 rfl ?_
  refine g_k (n := 0) t93_25 rfl rfl ?_
  refine r_puti t93_26 m4_.h rfl rfl ?_
  have m5_ := m4_.wx (p := 41) (i := 5) (v := nI 0) (Or.inl rfl) (mk_k hK)
  generalize wi s4_ 41 5 (nI 0) = s5_ at m5_ ⊢
  refine g_p t93_29 rfl ?_
  refine g_k (n := 0) t93_30 rfl rfl ?_
  refine r_puti t93_31 m5_.h rfl rfl ?_
  have m6_ := m5_.wx (p := 41) (i := 6) (v := nI 0) (Or.inl rfl) (mk_k hK)
  generalize wi s5_ 41 6 (nI 0) = s6_ at m6_ ⊢
  refine g_p t93_34 rfl ?_
  refine r_new (e := .inr (4, [.null, .int 0])) t93_35 rfl ?_
  rw [m6_.nx]
  refine g_p t93_38 rfl ?_
  refine g_k (n := 60) t93_39 rfl rfl ?_
  refine g_ci t93_41 rfl rfl rfl ?_
  refine c28 (s := wn s6_ (.inr (4, [.null, .int 0])) 2) (p := 42) (m6_.new (e := .inr (4, [.null, .int 0])) (n := 2)).h (m6_.new (e := .inr (4, [.null, .int 0])) (n := 2)).nx (by decide) ?_
  refine k_0 ?_
  have m7_ := m6_.num (m := 60) rfl rfl (by decide)
  generalize nmk (wn s6_ (.inr (4, [.null, .int 0])) 2) 42 60 = s7_ at m7_ ⊢
  refine r_putr (f2 := [.null, .int 0, .int 0, .int 0, .int 0, .int 0, .int 0, .ref 42, .null, .null, .null]) t93_44 m7_.h rfl rfl rfl rfl rfl ?_
  have m8_ := m7_.put (e := .inr (9, [.null, .int 0, .int 0, .int 0, .int 0, .int 0, .int 0, .ref 42, .null, .null, .null])) hE
  generalize wr s7_ 41 (.inr (9, [.null, .int 0, .int 0, .int 0, .int 0, .int 0, .int 0, .ref 42, .null, .null, .null])) = s8_ at m8_ ⊢
  refine g_p t93_47 rfl ?_
  refine r_new (e := .inr (4, [.null, .int 0])) t93_48 rfl ?_
  rw [m8_.nx]
  refine g_p t93_51 rfl ?_
  refine g_k (n := 60) t93_52 rfl rfl ?_
  refine g_ci t93_54 rfl rfl rfl ?_
  refine c28 (s := wn s8_ (.inr (4, [.null, .int 0])) 2) (p := 44) (m8_.new (e := .inr (4, [.null, .int 0])) (n := 2)).h (m8_.new (e := .inr (4, [.null, .int 0])) (n := 2)).nx (by decide) ?_
  refine k_0 ?_
  have m9_ := m8_.num (m := 60) rfl rfl (by decide)
  generalize nmk (wn s8_ (.inr (4, [.null, .int 0])) 2) 44 60 = s9_ at m9_ ⊢
  refine r_putr (f2 := [.null, .int 0, .int 0, .int 0, .int 0, .int 0, .int 0, .ref 42, .ref 44, .null, .null]) t93_57 m9_.h rfl rfl rfl rfl rfl ?_
  have m10_ := m9_.put (e := .inr (9, [.null, .int 0, .int 0, .int 0, .int 0, .int 0, .int 0, .ref 42, .ref 44, .null, .null])) hE
  generalize wr s9_ 41 (.inr (9, [.null, .int 0, .int 0, .int 0, .int 0, .int 0, .int 0, .ref 42, .ref 44, .null, .null])) = s10_ at m10_ ⊢
  refine g_p t93_60 rfl ?_
  refine r_new (e := .inr (4, [.null, .int 0])) t93_61 rfl ?_
  rw [m10_.nx]
  refine g_p t93_64 rfl ?_
  refine g_k (n := 60) t93_65 rfl rfl ?_
  refine g_ci t93_67 rfl rfl rfl ?_
  refine c28 (s := wn s10_ (.inr (4, [.null, .int 0])) 2) (p := 46) (m10_.new (e := .inr (4, [.null, .int 0])) (n := 2)).h (m10_.new (e := .inr (4, [.null, .int 0])) (n := 2)).nx (by decide) ?_
  refine k_0 ?_
  have m11_ := m10_.num (m := 60) rfl rfl (by decide)
  generalize nmk (wn s10_ (.inr (4, [.null, .int 0])) 2) 46 60 = s11_ at m11_ ⊢
  refine r_putr (f2 := [.null, .int 0, .int 0, .int 0, .int 0, .int 0, .int 0, .ref 42, .ref 44, .ref 46, .null]) t93_70 m11_.h rfl rfl rfl rfl rfl ?_
  have m12_ := m11_.put (e := .inr (9, [.null, .int 0, .int 0, .int 0, .int 0, .int 0, .int 0, .ref 42, .ref 44, .ref 46, .null])) hE
  generalize wr s11_ 41 (.inr (9, [.null, .int 0, .int 0, .int 0, .int 0, .int 0, .int 0, .ref 42, .ref 44, .ref 46, .null])) = s12_ at m12_ ⊢
  refine g_p t93_73 rfl ?_
  refine r_new (e := .inr (4, [.null, .int 0])) t93_74 rfl ?_
  rw [m12_.nx]
  refine g_p t93_77 rfl ?_
  refine g_k (n := 60) t93_78 rfl rfl ?_
  refine g_ci t93_80 rfl rfl rfl ?_
  refine c28 (s := wn s12_ (.inr (4, [.null, .int 0])) 2) (p := 48) (m12_.new (e := .inr (4, [.null, .int 0])) (n := 2)).h (m12_.new (e := .inr (4, [.null, .int 0])) (n := 2)).nx (by decide) ?_
  refine k_0 ?_
  have m13_ := m12_.num (m := 60) rfl rfl (by decide)
  generalize nmk (wn s12_ (.inr (4, [.null, .int 0])) 2) 48 60 = s13_ at m13_ ⊢
  refine r_putr (f2 := [.null, .int 0, .int 0, .int 0, .int 0, .int 0, .int 0, .ref 42, .ref 44, .ref 46, .ref 48]) t93_83 m13_.h rfl rfl rfl rfl rfl ?_
  have m14_ := m13_.put (e := .inr (9, [.null, .int 0, .int 0, .int 0, .int 0, .int 0, .int 0, .ref 42, .ref 44, .ref 46, .ref 48])) hE
  generalize wr s13_ 41 (.inr (9, [.null, .int 0, .int 0, .int 0, .int 0, .int 0, .int 0, .ref 42, .ref 44, .ref 46, .ref 48])) = s14_ at m14_ ⊢
  refine g_p t93_86 rfl ?_
  refine g_p t93_87 rfl ?_
  refine r_putr (f2 := [.ref 19, .int 0, .int 0, .int 0, .int 0, .int 0, .int 0, .ref 42, .ref 44, .ref 46, .ref 48]) t93_88 m14_.h rfl rfl rfl rfl rfl ?_
  have m15_ := m14_.put (e := .inr (9, [.ref 19, .int 0, .int 0, .int 0, .int 0, .int 0, .int 0, .ref 42, .ref 44, .ref 46, .ref 48])) hE
  generalize wr s14_ 41 (.inr (9, [.ref 19, .int 0, .int 0, .int 0, .int 0, .int 0, .int 0, .ref 42, .ref 44, .ref 46, .ref 48])) = s15_ at m15_ ⊢
  exact v_ret t93_91 (hq s15_ (m15_.pop rfl))
theorem m61_50 (hE : ∀ pe ∈ E, pe.1 < 50) (hK : ∀ k ∈ K, k.1 < 50) (h : Mk 51 S ((50, .inr (6, [.null, .null, .null, .null, .null, .null, .null])) :: E) K s) (hq : ∀ s', Mk 61 (S + 8131) E (K) s' → Q none (mR s')) : gE X (d + 1) 61 [.ref 50, .ref 19, .ref 32] (mR s) Q := by
  have m0 := h
  refine en61 rfl rfl rfl ?_
  refine g_p t61_0 rfl ?_
  refine g_oi t61_1 (Nat.le_of_ble_eq_true rfl) ?_
  refine g_p t61_4 rfl ?_
  refine r_new (e := .inr (4, [.null, .int 0])) t61_5 rfl ?_
  rw [m0.nx]
  refine g_p t61_8 rfl ?_
  refine g_k (n := 10) t61_9 rfl rfl ?_
  refine g_ci t61_11 rfl rfl rfl ?_
  refine c28 (s := wn s (.inr (4, [.null, .int 0])) 2) (p := 51) (m0.new (e := .inr (4, [.null, .int 0])) (n := 2)).h (m0.new (e := .inr (4, [.null, .int 0])) (n := 2)).nx (by decide) ?_
  refine k_0 ?_
  have m1_ := m0.num (m := 10) rfl rfl (by decide)
  generalize nmk (wn s (.inr (4, [.null, .int 0])) 2) 51 10 = s1_ at m1_ ⊢
  refine r_putr (f2 := [.null, .null, .ref 51, .null, .null, .null, .null]) t61_14 m1_.h rfl rfl rfl rfl rfl ?_
  have m2_ := m1_.put (e := .inr (6, [.null, .null, .ref 51, .null, .null, .null, .null])) hE
  generalize wr s1_ 50 (.inr (6, [.null, .null, .ref 51, .null, .null, .null, .null])) = s2_ at m2_ ⊢
  refine g_p t61_17 rfl ?_
  refine r_new (e := .inr (4, [.null, .int 0])) t61_18 rfl ?_
  rw [m2_.nx]
  refine g_p t61_21 rfl ?_
  refine g_k (n := 243) t61_22 rfl rfl ?_
  refine g_ci t61_25 rfl rfl rfl ?_
  refine c28 (s := wn s2_ (.inr (4, [.null, .int 0])) 2) (p := 53) (m2_.new (e := .inr (4, [.null, .int 0])) (n := 2)).h (m2_.new (e := .inr (4, [.null, .int 0])) (n := 2)).nx (by decide) ?_
  refine k_0 ?_
  have m3_ := m2_.num (m := 243) rfl rfl (by decide)
  generalize nmk (wn s2_ (.inr (4, [.null, .int 0])) 2) 53 243 = s3_ at m3_ ⊢
  refine r_putr (f2 := [.null, .null, .ref 51, .ref 53, .null, .null, .null]) t61_28 m3_.h rfl rfl rfl rfl rfl ?_
  have m4_ := m3_.put (e := .inr (6, [.null, .null, .ref 51, .ref 53, .null, .null, .null])) hE
  generalize wr s3_ 50 (.inr (6, [.null, .null, .ref 51, .ref 53, .null, .null, .null])) = s4_ at m4_ ⊢
  refine g_p t61_31 rfl ?_
  refine r_new (e := .inr (4, [.null, .int 0])) t61_32 rfl ?_
  rw [m4_.nx]
  refine g_p t61_35 rfl ?_
  refine g_k (n := 243) t61_36 rfl rfl ?_
  refine g_ci t61_39 rfl rfl rfl ?_
  refine c28 (s := wn s4_ (.inr (4, [.null, .int 0])) 2) (p := 55) (m4_.new (e := .inr (4, [.null, .int 0])) (n := 2)).h (m4_.new (e := .inr (4, [.null, .int 0])) (n := 2)).nx (by decide) ?_
  refine k_0 ?_
  have m5_ := m4_.num (m := 243) rfl rfl (by decide)
  generalize nmk (wn s4_ (.inr (4, [.null, .int 0])) 2) 55 243 = s5_ at m5_ ⊢
  refine r_putr (f2 := [.null, .null, .ref 51, .ref 53, .ref 55, .null, .null]) t61_42 m5_.h rfl rfl rfl rfl rfl ?_
  have m6_ := m5_.put (e := .inr (6, [.null, .null, .ref 51, .ref 53, .ref 55, .null, .null])) hE
  generalize wr s5_ 50 (.inr (6, [.null, .null, .ref 51, .ref 53, .ref 55, .null, .null])) = s6_ at m6_ ⊢
  refine g_p t61_45 rfl ?_
  refine r_new (e := .inr (4, [.null, .int 0])) t61_46 rfl ?_
  rw [m6_.nx]
  refine g_p t61_49 rfl ?_
  refine g_k (n := 243) t61_50 rfl rfl ?_
  refine g_ci t61_53 rfl rfl rfl ?_
  refine c28 (s := wn s6_ (.inr (4, [.null, .int 0])) 2) (p := 57) (m6_.new (e := .inr (4, [.null, .int 0])) (n := 2)).h (m6_.new (e := .inr (4, [.null, .int 0])) (n := 2)).nx (by decide) ?_
  refine k_0 ?_
  have m7_ := m6_.num (m := 243) rfl rfl (by decide)
  generalize nmk (wn s6_ (.inr (4, [.null, .int 0])) 2) 57 243 = s7_ at m7_ ⊢
  refine r_putr (f2 := [.null, .null, .ref 51, .ref 53, .ref 55, .ref 57, .null]) t61_56 m7_.h rfl rfl rfl rfl rfl ?_
  have m8_ := m7_.put (e := .inr (6, [.null, .null, .ref 51, .ref 53, .ref 55, .ref 57, .null])) hE
  generalize wr s7_ 50 (.inr (6, [.null, .null, .ref 51, .ref 53, .ref 55, .ref 57, .null])) = s8_ at m8_ ⊢
  refine g_p t61_59 rfl ?_
  refine r_new (e := .inr (4, [.null, .int 0])) t61_60 rfl ?_
  rw [m8_.nx]
  refine g_p t61_63 rfl ?_
  refine g_k (n := 7382) t61_64 rfl rfl ?_
  refine g_ci t61_67 rfl rfl rfl ?_
  refine c28 (s := wn s8_ (.inr (4, [.null, .int 0])) 2) (p := 59) (m8_.new (e := .inr (4, [.null, .int 0])) (n := 2)).h (m8_.new (e := .inr (4, [.null, .int 0])) (n := 2)).nx (by decide) ?_
  refine k_0 ?_
  have m9_ := m8_.num (m := 7382) rfl rfl (by decide)
  generalize nmk (wn s8_ (.inr (4, [.null, .int 0])) 2) 59 7382 = s9_ at m9_ ⊢
  refine r_putr (f2 := [.null, .null, .ref 51, .ref 53, .ref 55, .ref 57, .ref 59]) t61_70 m9_.h rfl rfl rfl rfl rfl ?_
  have m10_ := m9_.put (e := .inr (6, [.null, .null, .ref 51, .ref 53, .ref 55, .ref 57, .ref 59])) hE
  generalize wr s9_ 50 (.inr (6, [.null, .null, .ref 51, .ref 53, .ref 55, .ref 57, .ref 59])) = s10_ at m10_ ⊢
  refine g_p t61_73 rfl ?_
  refine g_p t61_74 rfl ?_
  refine r_putr (f2 := [.ref 19, .null, .ref 51, .ref 53, .ref 55, .ref 57, .ref 59]) t61_75 m10_.h rfl rfl rfl rfl rfl ?_
  have m11_ := m10_.put (e := .inr (6, [.ref 19, .null, .ref 51, .ref 53, .ref 55, .ref 57, .ref 59])) hE
  generalize wr s10_ 50 (.inr (6, [.ref 19, .null, .ref 51, .ref 53, .ref 55, .ref 57, .ref 59])) = s11_ at m11_ ⊢
  refine g_p t61_78 rfl ?_
  refine g_p t61_79 rfl ?_
  refine r_putr (f2 := [.ref 19, .ref 32, .ref 51, .ref 53, .ref 55, .ref 57, .ref 59]) t61_80 m11_.h rfl rfl rfl rfl rfl ?_
  have m12_ := m11_.put (e := .inr (6, [.ref 19, .ref 32, .ref 51, .ref 53, .ref 55, .ref 57, .ref 59])) hE
  generalize wr s11_ 50 (.inr (6, [.ref 19, .ref 32, .ref 51, .ref 53, .ref 55, .ref 57, .ref 59])) = s12_ at m12_ ⊢
  exact v_ret t61_83 (hq s12_ (m12_.pop rfl))
theorem m37_61 (hE : ∀ pe ∈ E, pe.1 < 61) (hK : ∀ k ∈ K, k.1 < 61) (h : Mk 62 S ((61, .inr (5, [.null, .null, .null, .null, .null, .null, .null, .null, .null, .null, .null])) :: E) K s) (hq : ∀ s', Mk 76 (S + 1263) E (K) s' → Q none (mR s')) : gE X (d + 1) 37 [.ref 61, .ref 19, .ref 32, .ref 50] (mR s) Q := by
  have m0 := h
  refine en37 rfl rfl rfl rfl ?_
  refine g_p t37_0 rfl ?_
  refine g_oi t37_1 (Nat.le_of_ble_eq_true rfl) ?_
  refine g_p t37_4 rfl ?_
  refine r_new (e := .inr (4, [.null, .int 0])) t37_5 rfl ?_
  rw [m0.nx]
  refine g_p t37_8 rfl ?_
  refine g_k (n := 12) t37_9 rfl rfl ?_
  refine g_ci t37_11 rfl rfl rfl ?_
  refine c28 (s := wn s (.inr (4, [.null, .int 0])) 2) (p := 62) (m0.new (e := .inr (4, [.null, .int 0])) (n := 2)).h (m0.new (e := .inr (4, [.null, .int 0])) (n := 2)).nx (by decide) ?_
  refine k_0 ?_
  have m1_ := m0.num (m := 12) rfl rfl (by decide)
  generalize nmk (wn s (.inr (4, [.null, .int 0])) 2) 62 12 = s1_ at m1_ ⊢
  refine r_putr (f2 := [.null, .null, .null, .ref 62, .null, .null, .null, .null, .null, .null, .null]) t37_14 m1_.h rfl rfl rfl rfl rfl ?_
  have m2_ := m1_.put (e := .inr (5, [.null, .null, .null, .ref 62, .null, .null, .null, .null, .null, .null, .null])) hE
  generalize wr s1_ 61 (.inr (5, [.null, .null, .null, .ref 62, .null, .null, .null, .null, .null, .null, .null])) = s2_ at m2_ ⊢
  refine g_p t37_17 rfl ?_
  refine r_new (e := .inr (4, [.null, .int 0])) t37_18 rfl ?_
  rw [m2_.nx]
  refine g_p t37_21 rfl ?_
  refine g_k (n := 12) t37_22 rfl rfl ?_
  refine g_ci t37_24 rfl rfl rfl ?_
  refine c28 (s := wn s2_ (.inr (4, [.null, .int 0])) 2) (p := 64) (m2_.new (e := .inr (4, [.null, .int 0])) (n := 2)).h (m2_.new (e := .inr (4, [.null, .int 0])) (n := 2)).nx (by decide) ?_
  refine k_0 ?_
  have m3_ := m2_.num (m := 12) rfl rfl (by decide)
  generalize nmk (wn s2_ (.inr (4, [.null, .int 0])) 2) 64 12 = s3_ at m3_ ⊢
  refine r_putr (f2 := [.null, .null, .null, .ref 62, .ref 64, .null, .null, .null, .null, .null, .null]) t37_27 m3_.h rfl rfl rfl rfl rfl ?_
  have m4_ := m3_.put (e := .inr (5, [.null, .null, .null, .ref 62, .ref 64, .null, .null, .null, .null, .null, .null])) hE
  generalize wr s3_ 61 (.inr (5, [.null, .null, .null, .ref 62, .ref 64, .null, .null, .null, .null, .null, .null])) = s4_ at m4_ ⊢
  refine g_p t37_30 rfl ?_
  refine r_new (e := .inr (4, [.null, .int 0])) t37_31 rfl ?_
  rw [m4_.nx]
  refine g_p t37_34 rfl ?_
  refine g_k (n := 12) t37_35 rfl rfl ?_
  refine g_ci t37_37 rfl rfl rfl ?_
  refine c28 (s := wn s4_ (.inr (4, [.null, .int 0])) 2) (p := 66) (m4_.new (e := .inr (4, [.null, .int 0])) (n := 2)).h (m4_.new (e := .inr (4, [.null, .int 0])) (n := 2)).nx (by decide) ?_
  refine k_0 ?_
  have m5_ := m4_.num (m := 12) rfl rfl (by decide)
  generalize nmk (wn s4_ (.inr (4, [.null, .int 0])) 2) 66 12 = s5_ at m5_ ⊢
  refine r_putr (f2 := [.null, .null, .null, .ref 62, .ref 64, .ref 66, .null, .null, .null, .null, .null]) t37_40 m5_.h rfl rfl rfl rfl rfl ?_
  have m6_ := m5_.put (e := .inr (5, [.null, .null, .null, .ref 62, .ref 64, .ref 66, .null, .null, .null, .null, .null])) hE
  generalize wr s5_ 61 (.inr (5, [.null, .null, .null, .ref 62, .ref 64, .ref 66, .null, .null, .null, .null, .null])) = s6_ at m6_ ⊢
  refine g_p t37_43 rfl ?_
  refine r_new (e := .inr (4, [.null, .int 0])) t37_44 rfl ?_
  rw [m6_.nx]
  refine g_p t37_47 rfl ?_
  refine g_k (n := 243) t37_48 rfl rfl ?_
  refine g_ci t37_51 rfl rfl rfl ?_
  refine c28 (s := wn s6_ (.inr (4, [.null, .int 0])) 2) (p := 68) (m6_.new (e := .inr (4, [.null, .int 0])) (n := 2)).h (m6_.new (e := .inr (4, [.null, .int 0])) (n := 2)).nx (by decide) ?_
  refine k_0 ?_
  have m7_ := m6_.num (m := 243) rfl rfl (by decide)
  generalize nmk (wn s6_ (.inr (4, [.null, .int 0])) 2) 68 243 = s7_ at m7_ ⊢
  refine r_putr (f2 := [.null, .null, .null, .ref 62, .ref 64, .ref 66, .ref 68, .null, .null, .null, .null]) t37_54 m7_.h rfl rfl rfl rfl rfl ?_
  have m8_ := m7_.put (e := .inr (5, [.null, .null, .null, .ref 62, .ref 64, .ref 66, .ref 68, .null, .null, .null, .null])) hE
  generalize wr s7_ 61 (.inr (5, [.null, .null, .null, .ref 62, .ref 64, .ref 66, .ref 68, .null, .null, .null, .null])) = s8_ at m8_ ⊢
  refine g_p t37_57 rfl ?_
  refine r_new (e := .inr (4, [.null, .int 0])) t37_58 rfl ?_
  rw [m8_.nx]
  refine g_p t37_61 rfl ?_
  refine g_k (n := 243) t37_62 rfl rfl ?_
  refine g_ci t37_65 rfl rfl rfl ?_
  refine c28 (s := wn s8_ (.inr (4, [.null, .int 0])) 2) (p := 70) (m8_.new (e := .inr (4, [.null, .int 0])) (n := 2)).h (m8_.new (e := .inr (4, [.null, .int 0])) (n := 2)).nx (by decide) ?_
  refine k_0 ?_
  have m9_ := m8_.num (m := 243) rfl rfl (by decide)
  generalize nmk (wn s8_ (.inr (4, [.null, .int 0])) 2) 70 243 = s9_ at m9_ ⊢
  refine r_putr (f2 := [.null, .null, .null, .ref 62, .ref 64, .ref 66, .ref 68, .ref 70, .null, .null, .null]) t37_68 m9_.h rfl rfl rfl rfl rfl ?_
  have m10_ := m9_.put (e := .inr (5, [.null, .null, .null, .ref 62, .ref 64, .ref 66, .ref 68, .ref 70, .null, .null, .null])) hE
  generalize wr s9_ 61 (.inr (5, [.null, .null, .null, .ref 62, .ref 64, .ref 66, .ref 68, .ref 70, .null, .null, .null])) = s10_ at m10_ ⊢
  refine g_p t37_71 rfl ?_
  refine r_new (e := .inr (4, [.null, .int 0])) t37_72 rfl ?_
  rw [m10_.nx]
  refine g_p t37_75 rfl ?_
  refine g_k (n := 243) t37_76 rfl rfl ?_
  refine g_ci t37_79 rfl rfl rfl ?_
  refine c28 (s := wn s10_ (.inr (4, [.null, .int 0])) 2) (p := 72) (m10_.new (e := .inr (4, [.null, .int 0])) (n := 2)).h (m10_.new (e := .inr (4, [.null, .int 0])) (n := 2)).nx (by decide) ?_
  refine k_0 ?_
  have m11_ := m10_.num (m := 243) rfl rfl (by decide)
  generalize nmk (wn s10_ (.inr (4, [.null, .int 0])) 2) 72 243 = s11_ at m11_ ⊢
  refine r_putr (f2 := [.null, .null, .null, .ref 62, .ref 64, .ref 66, .ref 68, .ref 70, .ref 72, .null, .null]) t37_82 m11_.h rfl rfl rfl rfl rfl ?_
  have m12_ := m11_.put (e := .inr (5, [.null, .null, .null, .ref 62, .ref 64, .ref 66, .ref 68, .ref 70, .ref 72, .null, .null])) hE
  generalize wr s11_ 61 (.inr (5, [.null, .null, .null, .ref 62, .ref 64, .ref 66, .ref 68, .ref 70, .ref 72, .null, .null])) = s12_ at m12_ ⊢
  refine g_p t37_85 rfl ?_
  refine g_k (n := 243) t37_86 rfl rfl ?_
  refine r_newl t37_89 (by decide) ?_
  rw [m12_.nx]
  have m13_ := m12_.row (e := .inl (3, 243, .inr (.inl (fun _ => 0)))) (n := 243) rfl
  generalize wn s12_ (.inl (3, 243, .inr (.inl (fun _ => 0)))) 243 = s13_ at m13_ ⊢
  refine r_putr (f2 := [.null, .null, .null, .ref 62, .ref 64, .ref 66, .ref 68, .ref 70, .ref 72, .ref 74, .null]) t37_91 m13_.h rfl rfl rfl rfl rfl ?_
  have m14_ := m13_.put (e := .inr (5, [.null, .null, .null, .ref 62, .ref 64, .ref 66, .ref 68, .ref 70, .ref 72, .ref 74, .null])) hE
  generalize wr s13_ 61 (.inr (5, [.null, .null, .null, .ref 62, .ref 64, .ref 66, .ref 68, .ref 70, .ref 72, .ref 74, .null])) = s14_ at m14_ ⊢
  refine g_p t37_94 rfl ?_
  refine g_k (n := 243) t37_95 rfl rfl ?_
  refine r_newl t37_98 (by decide) ?_
  rw [m14_.nx]
  have m15_ := m14_.row (e := .inl (3, 243, .inr (.inl (fun _ => 0)))) (n := 243) rfl
  generalize wn s14_ (.inl (3, 243, .inr (.inl (fun _ => 0)))) 243 = s15_ at m15_ ⊢
  refine r_putr (f2 := [.null, .null, .null, .ref 62, .ref 64, .ref 66, .ref 68, .ref 70, .ref 72, .ref 74, .ref 75]) t37_100 m15_.h rfl rfl rfl rfl rfl ?_
  have m16_ := m15_.put (e := .inr (5, [.null, .null, .null, .ref 62, .ref 64, .ref 66, .ref 68, .ref 70, .ref 72, .ref 74, .ref 75])) hE
  generalize wr s15_ 61 (.inr (5, [.null, .null, .null, .ref 62, .ref 64, .ref 66, .ref 68, .ref 70, .ref 72, .ref 74, .ref 75])) = s16_ at m16_ ⊢
  refine g_p t37_103 rfl ?_
  refine g_p t37_104 rfl ?_
  refine r_putr (f2 := [.ref 19, .null, .null, .ref 62, .ref 64, .ref 66, .ref 68, .ref 70, .ref 72, .ref 74, .ref 75]) t37_105 m16_.h rfl rfl rfl rfl rfl ?_
  have m17_ := m16_.put (e := .inr (5, [.ref 19, .null, .null, .ref 62, .ref 64, .ref 66, .ref 68, .ref 70, .ref 72, .ref 74, .ref 75])) hE
  generalize wr s16_ 61 (.inr (5, [.ref 19, .null, .null, .ref 62, .ref 64, .ref 66, .ref 68, .ref 70, .ref 72, .ref 74, .ref 75])) = s17_ at m17_ ⊢
  refine g_p t37_108 rfl ?_
  refine g_p t37_109 rfl ?_
  refine r_putr (f2 := [.ref 19, .ref 32, .null, .ref 62, .ref 64, .ref 66, .ref 68, .ref 70, .ref 72, .ref 74, .ref 75]) t37_110 m17_.h rfl rfl rfl rfl rfl ?_
  have m18_ := m17_.put (e := .inr (5, [.ref 19, .ref 32, .null, .ref 62, .ref 64, .ref 66, .ref 68, .ref 70, .ref 72, .ref 74, .ref 75])) hE
  generalize wr s17_ 61 (.inr (5, [.ref 19, .ref 32, .null, .ref 62, .ref 64, .ref 66, .ref 68, .ref 70, .ref 72, .ref 74, .ref 75])) = s18_ at m18_ ⊢
  refine g_p t37_113 rfl ?_
  refine g_p t37_114 rfl ?_
  refine r_putr (f2 := [.ref 19, .ref 32, .ref 50, .ref 62, .ref 64, .ref 66, .ref 68, .ref 70, .ref 72, .ref 74, .ref 75]) t37_115 m18_.h rfl rfl rfl rfl rfl ?_
  have m19_ := m18_.put (e := .inr (5, [.ref 19, .ref 32, .ref 50, .ref 62, .ref 64, .ref 66, .ref 68, .ref 70, .ref 72, .ref 74, .ref 75])) hE
  generalize wr s18_ 61 (.inr (5, [.ref 19, .ref 32, .ref 50, .ref 62, .ref 64, .ref 66, .ref 68, .ref 70, .ref 72, .ref 74, .ref 75])) = s19_ at m19_ ⊢
  exact v_ret t37_118 (hq s19_ (m19_.pop rfl))
end TZV
