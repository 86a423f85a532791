/-! WHAT THE CONSTRUCTORS MAKE, 2 -/
section TZV
variable {X : am_X} {d S : Nat} {E : List (Nat × am_E)} {K : List (Nat × Nat × Int32)} {s : mM} {Q : Option Value → am_H → Prop}
theorem mk_kc {K : List (Nat × Nat × Int32)} {a q i : Nat} {v : Int32} (h : ∀ k ∈ K, k.1 < a) (hq : q < a) : ∀ k ∈ (q, i, v) :: K, k.1 < a := fun k hk => by
  rcases List.mem_cons.mp hk with g | g
  · subst g; exact hq
  · exact h k g
theorem mk_kd {K : List (Nat × Nat × Int32)} {p i q j : Nat} {v : Int32} (h : ∀ k ∈ K, ¬ (k.1 = p ∧ k.2.1 = i)) (hq : ¬ (q = p ∧ j = i)) : ∀ k ∈ (q, j, v) :: K, ¬ (k.1 = p ∧ k.2.1 = i) := fun k hk => by
  rcases List.mem_cons.mp hk with g | g
  · subst g; exact hq
  · exact h k g
theorem mk_k {K : List (Nat × Nat × Int32)} {p i : Nat} (h : ∀ k ∈ K, k.1 < p) : ∀ k ∈ K, ¬ (k.1 = p ∧ k.2.1 = i) := fun k hk hc => by have := h k hk; omega
theorem mk_lt {N S p a : Nat} {E : List (Nat × am_E)} {K : List (Nat × Nat × Int32)} {s : mM} {e e2 : am_E} (h : Mk N S ((a, e2) :: (p, e) :: E) K s) (hE : ∀ pe ∈ E, pe.1 < p) (hp : p < a) : ∀ pe ∈ (p, e) :: E, pe.1 < a := fun pe hm => by
  rcases List.mem_cons.mp hm with g | g
  · subst g; exact hp
  · have := hE pe g; omega
theorem mk_kt {N S p a : Nat} {E : List (Nat × am_E)} {K K2 : List (Nat × Nat × Int32)} {s : mM} (h : Mk N S E K2 s) (hK : ∀ k ∈ K, k.1 < p) (hp : p < a) : ∀ k ∈ K, k.1 < a := fun k hk => by have := hK k hk; omega
theorem m50_3 (hE : ∀ pe ∈ E, pe.1 < 3) (hK : ∀ k ∈ K, k.1 < 3) (h : Mk 4 S ((3, .inr (8, [.retAddr 7, .int 0, .int 0, .int 0, .int 0, .int 0, .int 0, .int 0])) :: E) K s) (hq : ∀ s', Mk 4 S ((3, .inr (8, [.retAddr 7, .int 0, .int 0, .int 0, .int 0, .int 0, .int 0, .int 0])) :: E) K s' → Q none (mR s')) : gE X d 50 [.ref 3] (mR s) Q := by
  have m0 := h
  refine en50 rfl ?_
  refine g_p t50_0 rfl ?_
  refine g_oi t50_1 (Nat.le_of_ble_eq_true rfl) ?_
  refine g_p t50_4 rfl ?_
  refine g_p t50_5 rfl ?_
  refine r_putq (a := nI 0) t50_6 m0.h rfl rfl rfl ?_
  have m1_ := m0.wx (p := 3) (i := 0) (v := nI 0) (Or.inl rfl) (mk_k hK)
  generalize wi s 3 0 (nI 0) = s1_ at m1_ ⊢
  refine g_p t50_9 rfl ?_
  refine g_k (n := 0) t50_10 rfl rfl ?_
  refine r_puti t50_11 m1_.h rfl rfl ?_
  have m2_ := m1_.wx (p := 3) (i := 1) (v := nI 0) (Or.inl rfl) (mk_k hK)
  generalize wi s1_ 3 1 (nI 0) = s2_ at m2_ ⊢
  refine g_p t50_14 rfl ?_
  refine g_k (n := 0) t50_15 rfl rfl ?_
  refine r_puti t50_16 m2_.h rfl rfl ?_
  have m3_ := m2_.wx (p := 3) (i := 2) (v := nI 0) (Or.inl rfl) (mk_k hK)
  generalize wi s2_ 3 2 (nI 0) = s3_ at m3_ ⊢
  refine g_p t50_19 rfl ?_
  refine g_p t50_20 rfl ?_
  refine r_puti t50_21 m3_.h rfl rfl ?_
  have m4_ := m3_.wx (p := 3) (i := 3) (v := (-1)) (Or.inr (by decide)) (mk_k hK)
  generalize wi s3_ 3 3 ((-1)) = s4_ at m4_ ⊢
  exact v_ret t50_24 (hq s4_ (m4_))
theorem m86_3 (hE : ∀ pe ∈ E, pe.1 < 3) (hK : ∀ k ∈ K, k.1 < 3) (h : Mk 4 S ((3, .inr (8, [.retAddr 7, .int 0, .int 0, .int 0, .int 0, .int 0, .int 0, .int 0])) :: E) K s) (hq : ∀ s', Mk 4 (S + 0) E (K) s' → Q none (mR s')) : gE X (d + 1) 86 [.ref 3] (mR s) Q := by
  have m0 := h
  refine en86 rfl ?_
  refine g_p t86_0 rfl ?_
  refine g_ci t86_1 rfl rfl rfl ?_
  refine m50_3 hE hK m0 (fun s1_ m1_ => ?_)
  refine k_0 ?_
  refine g_p t86_4 rfl ?_
  refine g_k (n := 0) t86_5 rfl rfl ?_
  refine r_puti t86_6 m1_.h rfl rfl ?_
  have m2_ := m1_.wx (p := 3) (i := 4) (v := nI 0) (Or.inl rfl) (mk_k hK)
  generalize wi s1_ 3 4 (nI 0) = s2_ at m2_ ⊢
  refine g_p t86_9 rfl ?_
  refine g_k (n := 0) t86_10 rfl rfl ?_
  refine r_puti t86_11 m2_.h rfl rfl ?_
  have m3_ := m2_.wx (p := 3) (i := 5) (v := nI 0) (Or.inl rfl) (mk_k hK)
  generalize wi s2_ 3 5 (nI 0) = s3_ at m3_ ⊢
  refine g_p t86_14 rfl ?_
  refine g_k (n := 0) t86_15 rfl rfl ?_
  refine r_puti t86_16 m3_.h rfl rfl ?_
  have m4_ := m3_.wx (p := 3) (i := 6) (v := nI 0) (Or.inl rfl) (mk_k hK)
  generalize wi s3_ 3 6 (nI 0) = s4_ at m4_ ⊢
  refine g_p t86_19 rfl ?_
  refine g_k (n := 0) t86_20 rfl rfl ?_
  refine r_puti t86_21 m4_.h rfl rfl ?_
  have m5_ := m4_.wx (p := 3) (i := 7) (v := nI 0) (Or.inl rfl) (mk_k hK)
  generalize wi s4_ 3 7 (nI 0) = s5_ at m5_ ⊢
  exact v_ret t86_24 (hq s5_ ((m5_.pop rfl).sl (by omega)))
theorem m50_4 (hE : ∀ pe ∈ E, pe.1 < 4) (hK : ∀ k ∈ K, k.1 < 4) (h : Mk 5 S ((4, .inr (2, [.retAddr 7, .int 0, .int 0, .int 0, .null])) :: E) K s) (hq : ∀ s', Mk 5 S ((4, .inr (2, [.retAddr 7, .int 0, .int 0, .int 0, .null])) :: E) K s' → Q none (mR s')) : gE X d 50 [.ref 4] (mR s) Q := by
  have m0 := h
  refine en50 rfl ?_
  refine g_p t50_0 rfl ?_
  refine g_oi t50_1 (Nat.le_of_ble_eq_true rfl) ?_
  refine g_p t50_4 rfl ?_
  refine g_p t50_5 rfl ?_
  refine r_putq (a := nI 0) t50_6 m0.h rfl rfl rfl ?_
  have m1_ := m0.wx (p := 4) (i := 0) (v := nI 0) (Or.inl rfl) (mk_k hK)
  generalize wi s 4 0 (nI 0) = s1_ at m1_ ⊢
  refine g_p t50_9 rfl ?_
  refine g_k (n := 0) t50_10 rfl rfl ?_
  refine r_puti t50_11 m1_.h rfl rfl ?_
  have m2_ := m1_.wx (p := 4) (i := 1) (v := nI 0) (Or.inl rfl) (mk_k hK)
  generalize wi s1_ 4 1 (nI 0) = s2_ at m2_ ⊢
  refine g_p t50_14 rfl ?_
  refine g_k (n := 0) t50_15 rfl rfl ?_
  refine r_puti t50_16 m2_.h rfl rfl ?_
  have m3_ := m2_.wx (p := 4) (i := 2) (v := nI 0) (Or.inl rfl) (mk_k hK)
  generalize wi s2_ 4 2 (nI 0) = s3_ at m3_ ⊢
  refine g_p t50_19 rfl ?_
  refine g_p t50_20 rfl ?_
  refine r_puti t50_21 m3_.h rfl rfl ?_
  have m4_ := m3_.wx (p := 4) (i := 3) (v := (-1)) (Or.inr (by decide)) (mk_k hK)
  generalize wi s3_ 4 3 ((-1)) = s4_ at m4_ ⊢
  exact v_ret t50_24 (hq s4_ (m4_))
theorem m0_5 (hE : ∀ pe ∈ E, pe.1 < 5) (hK : ∀ k ∈ K, k.1 < 5) (h : Mk 6 S ((5, .inr (1, [.null, .null, .null, .int 0])) :: E) K s) (hq : ∀ s', Mk 12 (S + 297) E (K) s' → Q none (mR s')) : gE X (d + 1) 0 [.ref 5] (mR s) Q := by
  have m0 := h
  refine en0 rfl ?_
  refine g_p t0_0 rfl ?_
  refine g_oi t0_1 (Nat.le_of_ble_eq_true rfl) ?_
  refine g_p t0_4 rfl ?_
  refine r_new (e := .inr (4, [.null, .int 0])) t0_5 rfl ?_
  rw [m0.nx]
  refine g_p t0_8 rfl ?_
  refine g_k (n := 8) t0_9 rfl rfl ?_
  refine g_ci t0_11 rfl rfl rfl ?_
  refine c28 (s := wn s (.inr (4, [.null, .int 0])) 2) (p := 6) (m0.new (e := .inr (4, [.null, .int 0])) (n := 2)).h (m0.new (e := .inr (4, [.null, .int 0])) (n := 2)).nx (by decide) ?_
  refine k_0 ?_
  have m1_ := m0.num (m := 8) rfl rfl (by decide)
  generalize nmk (wn s (.inr (4, [.null, .int 0])) 2) 6 8 = s1_ at m1_ ⊢
  refine r_putr (f2 := [.ref 6, .null, .null, .int 0]) t0_14 m1_.h rfl rfl rfl rfl rfl ?_
  have m2_ := m1_.put (e := .inr (1, [.ref 6, .null, .null, .int 0])) hE
  generalize wr s1_ 5 (.inr (1, [.ref 6, .null, .null, .int 0])) = s2_ at m2_ ⊢
  refine g_p t0_17 rfl ?_
  refine r_new (e := .inr (4, [.null, .int 0])) t0_18 rfl ?_
  rw [m2_.nx]
  refine g_p t0_21 rfl ?_
  refine g_k (n := 40) t0_22 rfl rfl ?_
  refine g_ci t0_24 rfl rfl rfl ?_
  refine c28 (s := wn s2_ (.inr (4, [.null, .int 0])) 2) (p := 8) (m2_.new (e := .inr (4, [.null, .int 0])) (n := 2)).h (m2_.new (e := .inr (4, [.null, .int 0])) (n := 2)).nx (by decide) ?_
  refine k_0 ?_
  have m3_ := m2_.num (m := 40) rfl rfl (by decide)
  generalize nmk (wn s2_ (.inr (4, [.null, .int 0])) 2) 8 40 = s3_ at m3_ ⊢
  refine r_putr (f2 := [.ref 6, .ref 8, .null, .int 0]) t0_27 m3_.h rfl rfl rfl rfl rfl ?_
  have m4_ := m3_.put (e := .inr (1, [.ref 6, .ref 8, .null, .int 0])) hE
  generalize wr s3_ 5 (.inr (1, [.ref 6, .ref 8, .null, .int 0])) = s4_ at m4_ ⊢
  refine g_p t0_30 rfl ?_
  refine r_new (e := .inr (4, [.null, .int 0])) t0_31 rfl ?_
  rw [m4_.nx]
  refine g_p t0_34 rfl ?_
  refine g_k (n := 243) t0_35 rfl rfl ?_
  refine g_ci t0_38 rfl rfl rfl ?_
  refine c28 (s := wn s4_ (.inr (4, [.null, .int 0])) 2) (p := 10) (m4_.new (e := .inr (4, [.null, .int 0])) (n := 2)).h (m4_.new (e := .inr (4, [.null, .int 0])) (n := 2)).nx (by decide) ?_
  refine k_0 ?_
  have m5_ := m4_.num (m := 243) rfl rfl (by decide)
  generalize nmk (wn s4_ (.inr (4, [.null, .int 0])) 2) 10 243 = s5_ at m5_ ⊢
  refine r_putr (f2 := [.ref 6, .ref 8, .ref 10, .int 0]) t0_41 m5_.h rfl rfl rfl rfl rfl ?_
  have m6_ := m5_.put (e := .inr (1, [.ref 6, .ref 8, .ref 10, .int 0])) hE
  generalize wr s5_ 5 (.inr (1, [.ref 6, .ref 8, .ref 10, .int 0])) = s6_ at m6_ ⊢
  refine g_p t0_44 rfl ?_
  refine g_k (n := 0) t0_45 rfl rfl ?_
  refine r_puti t0_46 m6_.h rfl rfl ?_
  have m7_ := m6_.wx (p := 5) (i := 3) (v := nI 0) (Or.inl rfl) (mk_k hK)
  generalize wi s6_ 5 3 (nI 0) = s7_ at m7_ ⊢
  exact v_ret t0_49 (hq s7_ ((m7_.pop rfl).sl (by omega)))
theorem m11_4 (hE : ∀ pe ∈ E, pe.1 < 4) (hK : ∀ k ∈ K, k.1 < 4) (h : Mk 5 S ((4, .inr (2, [.retAddr 7, .int 0, .int 0, .int 0, .null])) :: E) K s) (hq : ∀ s', Mk 12 (S + 301) E (K) s' → Q none (mR s')) : gE X (d + 2) 11 [.ref 4] (mR s) Q := by
  have m0 := h
  refine en11 rfl ?_
  refine g_p t11_0 rfl ?_
  refine g_ci t11_1 rfl rfl rfl ?_
  refine m50_4 hE hK m0 (fun s1_ m1_ => ?_)
  refine k_0 ?_
  refine g_p t11_4 rfl ?_
  refine r_new (e := .inr (1, [.null, .null, .null, .int 0])) t11_5 rfl ?_
  rw [m1_.nx]
  have m2_ := m1_.new (e := .inr (1, [.null, .null, .null, .int 0])) (n := 4)
  generalize wn s1_ (.inr (1, [.null, .null, .null, .int 0])) 4 = s2_ at m2_ ⊢
  refine g_p t11_8 rfl ?_
  refine g_ci t11_9 rfl rfl rfl ?_
  refine m0_5 (mk_lt m2_ hE (by decide)) (mk_kt m2_ hK (by decide)) m2_ (fun s3_ m3_ => ?_)
  refine k_0 ?_
  refine r_putr (f2 := [.retAddr 7, .int 0, .int 0, .int 0, .ref 5]) t11_12 m3_.h rfl rfl rfl rfl rfl ?_
  have m4_ := m3_.put (e := .inr (2, [.retAddr 7, .int 0, .int 0, .int 0, .ref 5])) hE
  generalize wr s3_ 4 (.inr (2, [.retAddr 7, .int 0, .int 0, .int 0, .ref 5])) = s4_ at m4_ ⊢
  exact v_ret t11_15 (hq s4_ ((m4_.pop rfl).sl (by omega)))
theorem m50_12 (hE : ∀ pe ∈ E, pe.1 < 12) (hK : ∀ k ∈ K, k.1 < 12) (h : Mk 13 S ((12, .inr (10, [.retAddr 7, .int 0, .int 0, .int 0, .null])) :: E) K s) (hq : ∀ s', Mk 13 S ((12, .inr (10, [.retAddr 7, .int 0, .int 0, .int 0, .null])) :: E) K s' → Q none (mR s')) : gE X d 50 [.ref 12] (mR s) Q := by
  have m0 := h
  refine en50 rfl ?_
  refine g_p t50_0 rfl ?_
  refine g_oi t50_1 (Nat.le_of_ble_eq_true rfl) ?_
  refine g_p t50_4 rfl ?_
  refine g_p t50_5 rfl ?_
  refine r_putq (a := nI 0) t50_6 m0.h rfl rfl rfl ?_
  have m1_ := m0.wx (p := 12) (i := 0) (v := nI 0) (Or.inl rfl) (mk_k hK)
  generalize wi s 12 0 (nI 0) = s1_ at m1_ ⊢
  refine g_p t50_9 rfl ?_
  refine g_k (n := 0) t50_10 rfl rfl ?_
  refine r_puti t50_11 m1_.h rfl rfl ?_
  have m2_ := m1_.wx (p := 12) (i := 1) (v := nI 0) (Or.inl rfl) (mk_k hK)
  generalize wi s1_ 12 1 (nI 0) = s2_ at m2_ ⊢
  refine g_p t50_14 rfl ?_
  refine g_k (n := 0) t50_15 rfl rfl ?_
  refine r_puti t50_16 m2_.h rfl rfl ?_
  have m3_ := m2_.wx (p := 12) (i := 2) (v := nI 0) (Or.inl rfl) (mk_k hK)
  generalize wi s2_ 12 2 (nI 0) = s3_ at m3_ ⊢
  refine g_p t50_19 rfl ?_
  refine g_p t50_20 rfl ?_
  refine r_puti t50_21 m3_.h rfl rfl ?_
  have m4_ := m3_.wx (p := 12) (i := 3) (v := (-1)) (Or.inr (by decide)) (mk_k hK)
  generalize wi s3_ 12 3 ((-1)) = s4_ at m4_ ⊢
  exact v_ret t50_24 (hq s4_ (m4_))
theorem m115_12 (hE : ∀ pe ∈ E, pe.1 < 12) (hK : ∀ k ∈ K, k.1 < 12) (h : Mk 13 S ((12, .inr (10, [.retAddr 7, .int 0, .int 0, .int 0, .null])) :: E) K s) (hq : ∀ s', Mk 15 (S + 10) E (K) s' → Q none (mR s')) : gE X (d + 1) 115 [.ref 12] (mR s) Q := by
  have m0 := h
  refine en115 rfl ?_
  refine g_p t115_0 rfl ?_
  refine g_ci t115_1 rfl rfl rfl ?_
  refine m50_12 hE hK m0 (fun s1_ m1_ => ?_)
  refine k_0 ?_
  refine g_p t115_4 rfl ?_
  refine r_new (e := .inr (4, [.null, .int 0])) t115_5 rfl ?_
  rw [m1_.nx]
  refine g_p t115_8 rfl ?_
  refine g_k (n := 8) t115_9 rfl rfl ?_
  refine g_ci t115_11 rfl rfl rfl ?_
  refine c28 (s := wn s1_ (.inr (4, [.null, .int 0])) 2) (p := 13) (m1_.new (e := .inr (4, [.null, .int 0])) (n := 2)).h (m1_.new (e := .inr (4, [.null, .int 0])) (n := 2)).nx (by decide) ?_
  refine k_0 ?_
  have m2_ := m1_.num (m := 8) rfl rfl (by decide)
  generalize nmk (wn s1_ (.inr (4, [.null, .int 0])) 2) 13 8 = s2_ at m2_ ⊢
  refine r_putr (f2 := [.retAddr 7, .int 0, .int 0, .int 0, .ref 13]) t115_14 m2_.h rfl rfl rfl rfl rfl ?_
  have m3_ := m2_.put (e := .inr (10, [.retAddr 7, .int 0, .int 0, .int 0, .ref 13])) hE
  generalize wr s2_ 12 (.inr (10, [.retAddr 7, .int 0, .int 0, .int 0, .ref 13])) = s3_ at m3_ ⊢
  exact v_ret t115_17 (hq s3_ ((m3_.pop rfl).sl (by omega)))
theorem m50_15 (hE : ∀ pe ∈ E, pe.1 < 15) (hK : ∀ k ∈ K, k.1 < 15) (h : Mk 16 S ((15, .inr (3, [.retAddr 7, .int 0, .int 0, .int 0, .int 0, .int 0, .int 0, .int 0, .int 0, .long 0])) :: E) K s) (hq : ∀ s', Mk 16 S ((15, .inr (3, [.retAddr 7, .int 0, .int 0, .int 0, .int 0, .int 0, .int 0, .int 0, .int 0, .long 0])) :: E) K s' → Q none (mR s')) : gE X d 50 [.ref 15] (mR s) Q := by
  have m0 := h
  refine en50 rfl ?_
  refine g_p t50_0 rfl ?_
  refine g_oi t50_1 (Nat.le_of_ble_eq_true rfl) ?_
  refine g_p t50_4 rfl ?_
  refine g_p t50_5 rfl ?_
  refine r_putq (a := nI 0) t50_6 m0.h rfl rfl rfl ?_
  have m1_ := m0.wx (p := 15) (i := 0) (v := nI 0) (Or.inl rfl) (mk_k hK)
  generalize wi s 15 0 (nI 0) = s1_ at m1_ ⊢
  refine g_p t50_9 rfl ?_
  refine g_k (n := 0) t50_10 rfl rfl ?_
  refine r_puti t50_11 m1_.h rfl rfl ?_
  have m2_ := m1_.wx (p := 15) (i := 1) (v := nI 0) (Or.inl rfl) (mk_k hK)
  generalize wi s1_ 15 1 (nI 0) = s2_ at m2_ ⊢
  refine g_p t50_14 rfl ?_
  refine g_k (n := 0) t50_15 rfl rfl ?_
  refine r_puti t50_16 m2_.h rfl rfl ?_
  have m3_ := m2_.wx (p := 15) (i := 2) (v := nI 0) (Or.inl rfl) (mk_k hK)
  generalize wi s2_ 15 2 (nI 0) = s3_ at m3_ ⊢
  refine g_p t50_19 rfl ?_
  refine g_p t50_20 rfl ?_
  refine r_puti t50_21 m3_.h rfl rfl ?_
  have m4_ := m3_.wx (p := 15) (i := 3) (v := (-1)) (Or.inr (by decide)) (mk_k hK)
  generalize wi s3_ 15 3 ((-1)) = s4_ at m4_ ⊢
  exact v_ret t50_24 (hq s4_ (m4_))
theorem m16_15 (hE : ∀ pe ∈ E, pe.1 < 15) (hK : ∀ k ∈ K, k.1 < 15) (h : Mk 16 S ((15, .inr (3, [.retAddr 7, .int 0, .int 0, .int 0, .int 0, .int 0, .int 0, .int 0, .int 0, .long 0])) :: E) K s) (hq : ∀ s', Mk 16 (S + 0) E (K) s' → Q none (mR s')) : gE X (d + 1) 16 [.ref 15] (mR s) Q := by
  have m0 := h
  refine en16 rfl ?_
  refine g_p t16_0 rfl ?_
  refine g_ci t16_1 rfl rfl rfl ?_
  refine m50_15 hE hK m0 (fun s1_ m1_ => ?_)
  refine k_0 ?_
  refine g_p t16_4 rfl ?_
  refine g_k (n := 0) t16_5 rfl rfl ?_
  refine r_puti t16_6 m1_.h rfl rfl ?_
  have m2_ := m1_.wx (p := 15) (i := 4) (v := nI 0) (Or.inl rfl) (mk_k hK)
  generalize wi s1_ 15 4 (nI 0) = s2_ at m2_ ⊢
  refine g_p t16_9 rfl ?_
  refine g_k (n := 0) t16_10 rfl rfl ?_
  refine r_puti t16_11 m2_.h rfl rfl ?_
  have m3_ := m2_.wx (p := 15) (i := 5) (v := nI 0) (Or.inl rfl) (mk_k hK)
  generalize wi s2_ 15 5 (nI 0) = s3_ at m3_ ⊢
  refine g_p t16_14 rfl ?_
  refine g_k (n := 0) t16_15 rfl rfl ?_
  refine r_puti t16_16 m3_.h rfl rfl ?_
  have m4_ := m3_.wx (p := 15) (i := 6) (v := nI 0) (Or.inl rfl) (mk_k hK)
  generalize wi s3_ 15 6 (nI 0) = s4_ at m4_ ⊢
  refine g_p t16_19 rfl ?_
  refine g_k (n := 0) t16_20 rfl rfl ?_
  refine r_puti t16_21 m4_.h rfl rfl ?_
  have m5_ := m4_.wx (p := 15) (i := 7) (v := nI 0) (Or.inl rfl) (mk_k hK)
  generalize wi s4_ 15 7 (nI 0) = s5_ at m5_ ⊢
  refine g_p t16_24 rfl ?_
  refine g_k (n := 0) t16_25 rfl rfl ?_
  refine r_putz t16_26 m5_.h rfl rfl rfl ?_
  have m6_ := m5_.wx (p := 15) (i := 8) (v := nI 0) (Or.inl rfl) (mk_k hK)
  generalize wi s5_ 15 8 (nI 0) = s6_ at m6_ ⊢
  refine g_p t16_29 rfl ?_
  refine g_p t16_30 rfl ?_
  refine r_putl t16_31 m6_.h rfl rfl ?_
  have m7_ := m6_.wL (p := 15) (i := 9) (u := 0)
  generalize wl s6_ 15 9 0 = s7_ at m7_ ⊢
  exact v_ret t16_34 (hq s7_ ((m7_.pop rfl).sl (by omega)))
theorem m273_16 (hE : ∀ pe ∈ E, pe.1 < 16) (hK : ∀ k ∈ K, k.1 < 16) (h : Mk 17 S ((16, .inr (0, [.int 0, .retAddr 7, .int 0])) :: E) K s) (hq : ∀ s', Mk 17 S ((16, .inr (0, [.int 0, .retAddr 7, .int 0])) :: E) K s' → Q none (mR s')) : gE X d 273 [.ref 16] (mR s) Q := by
  have m0 := h
  refine en273 rfl ?_
  refine g_p t273_0 rfl ?_
  refine g_oi t273_1 (Nat.le_of_ble_eq_true rfl) ?_
  exact v_ret t273_4 (hq s (m0))
theorem m274_16 (hE : ∀ pe ∈ E, pe.1 < 16) (hK : ∀ k ∈ K, k.1 < 16) (h : Mk 17 S ((16, .inr (0, [.int 0, .retAddr 7, .int 0])) :: E) K s) (hq : ∀ s', Mk 17 S ((16, .inr (0, [.int 0, .retAddr 7, .int 0])) :: E) K s' → Q none (mR s')) : gE X (d + 1) 274 [.ref 16] (mR s) Q := by
  have m0 := h
  refine en274 rfl ?_
  refine g_p t274_0 rfl ?_
  refine g_ci t274_1 rfl rfl rfl ?_
  refine m273_16 hE hK m0 (fun s1_ m1_ => ?_)
  refine k_0 ?_
  refine g_p t274_4 rfl ?_
  refine g_k (n := 0) t274_5 rfl rfl ?_
  refine r_puti t274_6 m1_.h rfl rfl ?_
  have m2_ := m1_.wx (p := 16) (i := 0) (v := nI 0) (Or.inl rfl) (mk_k hK)
  generalize wi s1_ 16 0 (nI 0) = s2_ at m2_ ⊢
  exact v_ret t274_9 (hq s2_ (m2_))
theorem m275_16 (hE : ∀ pe ∈ E, pe.1 < 16) (hK : ∀ k ∈ K, k.1 < 16) (h : Mk 17 S ((16, .inr (0, [.int 0, .retAddr 7, .int 0])) :: E) K s) (hq : ∀ s', Mk 17 (S + 0) E ((16, 1, nI 1) :: K) s' → Q none (mR s')) : gE X (d + 2) 275 [.ref 16] (mR s) Q := by
  have m0 := h
  refine en275 rfl ?_
  refine g_p t275_0 rfl ?_
  refine g_ci t275_1 rfl rfl rfl ?_
  refine m274_16 hE hK m0 (fun s1_ m1_ => ?_)
  refine k_0 ?_
  refine g_p t275_4 rfl ?_
  refine g_h t275_5 rfl ?_
  refine r_putq (a := nI 1) t275_8 m1_.h rfl rfl rfl ?_
  have m2_ := m1_.wk (p := 16) (i := 1) (v := nI 1) (by decide) (by decide) (mk_k hK)
  generalize wi s1_ 16 1 (nI 1) = s2_ at m2_ ⊢
  exact v_ret t275_11 (hq s2_ ((m2_.pop rfl).sl (by omega)))
theorem m273_17 (hE : ∀ pe ∈ E, pe.1 < 17) (hK : ∀ k ∈ K, k.1 < 17) (h : Mk 18 S ((17, .inr (0, [.int 0, .retAddr 7, .int 0])) :: E) K s) (hq : ∀ s', Mk 18 S ((17, .inr (0, [.int 0, .retAddr 7, .int 0])) :: E) K s' → Q none (mR s')) : gE X d 273 [.ref 17] (mR s) Q := by
  have m0 := h
  refine en273 rfl ?_
  refine g_p t273_0 rfl ?_
  refine g_oi t273_1 (Nat.le_of_ble_eq_true rfl) ?_
  exact v_ret t273_4 (hq s (m0))
theorem m274_17 (hE : ∀ pe ∈ E, pe.1 < 17) (hK : ∀ k ∈ K, k.1 < 17) (h : Mk 18 S ((17, .inr (0, [.int 0, .retAddr 7, .int 0])) :: E) K s) (hq : ∀ s', Mk 18 S ((17, .inr (0, [.int 0, .retAddr 7, .int 0])) :: E) K s' → Q none (mR s')) : gE X (d + 1) 274 [.ref 17] (mR s) Q := by
  have m0 := h
  refine en274 rfl ?_
  refine g_p t274_0 rfl ?_
  refine g_ci t274_1 rfl rfl rfl ?_
  refine m273_17 hE hK m0 (fun s1_ m1_ => ?_)
  refine k_0 ?_
  refine g_p t274_4 rfl ?_
  refine g_k (n := 0) t274_5 rfl rfl ?_
  refine r_puti t274_6 m1_.h rfl rfl ?_
  have m2_ := m1_.wx (p := 17) (i := 0) (v := nI 0) (Or.inl rfl) (mk_k hK)
  generalize wi s1_ 17 0 (nI 0) = s2_ at m2_ ⊢
  exact v_ret t274_9 (hq s2_ (m2_))
theorem m275_17 (hE : ∀ pe ∈ E, pe.1 < 17) (hK : ∀ k ∈ K, k.1 < 17) (h : Mk 18 S ((17, .inr (0, [.int 0, .retAddr 7, .int 0])) :: E) K s) (hq : ∀ s', Mk 18 (S + 0) E ((17, 1, nI 1) :: K) s' → Q none (mR s')) : gE X (d + 2) 275 [.ref 17] (mR s) Q := by
  have m0 := h
  refine en275 rfl ?_
  refine g_p t275_0 rfl ?_
  refine g_ci t275_1 rfl rfl rfl ?_
  refine m274_17 hE hK m0 (fun s1_ m1_ => ?_)
  refine k_0 ?_
  refine g_p t275_4 rfl ?_
  refine g_h t275_5 rfl ?_
  refine r_putq (a := nI 1) t275_8 m1_.h rfl rfl rfl ?_
  have m2_ := m1_.wk (p := 17) (i := 1) (v := nI 1) (by decide) (by decide) (mk_k hK)
  generalize wi s1_ 17 1 (nI 1) = s2_ at m2_ ⊢
  exact v_ret t275_11 (hq s2_ ((m2_.pop rfl).sl (by omega)))
theorem m273_18 (hE : ∀ pe ∈ E, pe.1 < 18) (hK : ∀ k ∈ K, k.1 < 18) (h : Mk 19 S ((18, .inr (0, [.int 0, .retAddr 7, .int 0])) :: E) K s) (hq : ∀ s', Mk 19 S ((18, .inr (0, [.int 0, .retAddr 7, .int 0])) :: E) K s' → Q none (mR s')) : gE X d 273 [.ref 18] (mR s) Q := by
  have m0 := h
  refine en273 rfl ?_
  refine g_p t273_0 rfl ?_
  refine g_oi t273_1 (Nat.le_of_ble_eq_true rfl) ?_
  exact v_ret t273_4 (hq s (m0))
theorem m274_18 (hE : ∀ pe ∈ E, pe.1 < 18) (hK : ∀ k ∈ K, k.1 < 18) (h : Mk 19 S ((18, .inr (0, [.int 0, .retAddr 7, .int 0])) :: E) K s) (hq : ∀ s', Mk 19 S ((18, .inr (0, [.int 0, .retAddr 7, .int 0])) :: E) K s' → Q none (mR s')) : gE X (d + 1) 274 [.ref 18] (mR s) Q := by
  have m0 := h
  refine en274 rfl ?_
  refine g_p t274_0 rfl ?_
  refine g_ci t274_1 rfl rfl rfl ?_
  refine m273_18 hE hK m0 (fun s1_ m1_ => ?_)
  refine k_0 ?_
  refine g_p t274_4 rfl ?_
  refine g_k (n := 0) t274_5 rfl rfl ?_
  refine r_puti t274_6 m1_.h rfl rfl ?_
  have m2_ := m1_.wx (p := 18) (i := 0) (v := nI 0) (Or.inl rfl) (mk_k hK)
  generalize wi s1_ 18 0 (nI 0) = s2_ at m2_ ⊢
  exact v_ret t274_9 (hq s2_ (m2_))
theorem m275_18 (hE : ∀ pe ∈ E, pe.1 < 18) (hK : ∀ k ∈ K, k.1 < 18) (h : Mk 19 S ((18, .inr (0, [.int 0, .retAddr 7, .int 0])) :: E) K s) (hq : ∀ s', Mk 19 (S + 0) E ((18, 1, nI 1) :: K) s' → Q none (mR s')) : gE X (d + 2) 275 [.ref 18] (mR s) Q := by
  have m0 := h
  refine en275 rfl ?_
  refine g_p t275_0 rfl ?_
  refine g_ci t275_1 rfl rfl rfl ?_
  refine m274_18 hE hK m0 (fun s1_ m1_ => ?_)
  refine k_0 ?_
  refine g_p t275_4 rfl ?_
  refine g_h t275_5 rfl ?_
  refine r_putq (a := nI 1) t275_8 m1_.h rfl rfl rfl ?_
  have m2_ := m1_.wk (p := 18) (i := 1) (v := nI 1) (by decide) (by decide) (mk_k hK)
  generalize wi s1_ 18 1 (nI 1) = s2_ at m2_ ⊢
  exact v_ret t275_11 (hq s2_ ((m2_.pop rfl).sl (by omega)))
theorem m69_19 (hE : ∀ pe ∈ E, pe.1 < 19) (hK : ∀ k ∈ K, k.1 < 19) (h : Mk 20 S ((19, .inr (7, [.int 0, .int 0, .null, .null, .null, .null, .null, .null])) :: E) K s) (hq : ∀ s', Mk 32 (S + 5363) E (K) s' → Q none (mR s')) : gE X (d + 1) 69 [.ref 19] (mR s) Q := by
  have m0 := h
  refine en69 rfl ?_
  refine g_p t69_0 rfl ?_
  refine g_oi t69_1 (Nat.le_of_ble_eq_true rfl) ?_
  refine g_p t69_4 rfl ?_
  refine g_k (n := 0) t69_5 rfl rfl ?_
  refine r_puti t69_6 m0.h rfl rfl ?_
  have m1_ := m0.wx (p := 19) (i := 0) (v := nI 0) (Or.inl rfl) (mk_k hK)
  generalize wi s 19 0 (nI 0) = s1_ at m1_ ⊢
  refine g_p t69_9 rfl ?_
  refine g_k (n := 0) t69_10 rfl rfl ?_
  refine r_puti t69_11 m1_.h rfl rfl ?_
  have m2_ := m1_.wx (p := 19) (i := 1) (v := nI 0) (Or.inl rfl) (mk_k hK)
  generalize wi s1_ 19 1 (nI 0) = s2_ at m2_ ⊢
  refine g_p t69_14 rfl ?_
  refine r_new (e := .inr (4, [.null, .int 0])) t69_15 rfl ?_
  rw [m2_.nx]
  refine g_p t69_18 rfl ?_
  refine g_k (n := 1215) t69_19 rfl rfl ?_
  refine g_ci t69_22 rfl rfl rfl ?_
  refine c28 (s := wn s2_ (.inr (4, [.null, .int 0])) 2) (p := 20) (m2_.new (e := .inr (4, [.null, .int 0])) (n := 2)).h (m2_.new (e := .inr (4, [.null, .int 0])) (n := 2)).nx (by decide) ?_
  refine k_0 ?_
  have m3_ := m2_.num (m := 1215) rfl rfl (by decide)
  generalize nmk (wn s2_ (.inr (4, [.null, .int 0])) 2) 20 1215 = s3_ at m3_ ⊢
  refine r_putr (f2 := [.int 0, .int 0, .ref 20, .null, .null, .null, .null, .null]) t69_25 m3_.h rfl rfl rfl rfl rfl ?_
  have m4_ := m3_.put (e := .inr (7, [.int 0, .int 0, .ref 20, .null, .null, .null, .null, .null])) hE
  generalize wr s3_ 19 (.inr (7, [.int 0, .int 0, .ref 20, .null, .null, .null, .null, .null])) = s4_ at m4_ ⊢
  refine g_p t69_28 rfl ?_
  refine r_new (e := .inr (4, [.null, .int 0])) t69_29 rfl ?_
  rw [m4_.nx]
  refine g_p t69_32 rfl ?_
  refine g_k (n := 5) t69_33 rfl rfl ?_
  refine g_ci t69_34 rfl rfl rfl ?_
  refine c28 (s := wn s4_ (.inr (4, [.null, .int 0])) 2) (p := 22) (m4_.new (e := .inr (4, [.null, .int 0])) (n := 2)).h (m4_.new (e := .inr (4, [.null, .int 0])) (n := 2)).nx (by decide) ?_
  refine k_0 ?_
  have m5_ := m4_.num (m := 5) rfl rfl (by decide)
  generalize nmk (wn s4_ (.inr (4, [.null, .int 0])) 2) 22 5 = s5_ at m5_ ⊢
  refine r_putr (f2 := [.int 0, .int 0, .ref 20, .ref 22, .null, .null, .null, .null]) t69_37 m5_.h rfl rfl rfl rfl rfl ?_
  have m6_ := m5_.put (e := .inr (7, [.int 0, .int 0, .ref 20, .ref 22, .null, .null, .null, .null])) hE
  generalize wr s5_ 19 (.inr (7, [.int 0, .int 0, .ref 20, .ref 22, .null, .null, .null, .null])) = s6_ at m6_ ⊢
  refine g_p t69_40 rfl ?_
  refine r_new (e := .inr (4, [.null, .int 0])) t69_41 rfl ?_
  rw [m6_.nx]
  refine g_p t69_44 rfl ?_
  refine g_k (n := 243) t69_45 rfl rfl ?_
  refine g_ci t69_48 rfl rfl rfl ?_
  refine c28 (s := wn s6_ (.inr (4, [.null, .int 0])) 2) (p := 24) (m6_.new (e := .inr (4, [.null, .int 0])) (n := 2)).h (m6_.new (e := .inr (4, [.null, .int 0])) (n := 2)).nx (by decide) ?_
  refine k_0 ?_
  have m7_ := m6_.num (m := 243) rfl rfl (by decide)
  generalize nmk (wn s6_ (.inr (4, [.null, .int 0])) 2) 24 243 = s7_ at m7_ ⊢
  refine r_putr (f2 := [.int 0, .int 0, .ref 20, .ref 22, .ref 24, .null, .null, .null]) t69_51 m7_.h rfl rfl rfl rfl rfl ?_
  have m8_ := m7_.put (e := .inr (7, [.int 0, .int 0, .ref 20, .ref 22, .ref 24, .null, .null, .null])) hE
  generalize wr s7_ 19 (.inr (7, [.int 0, .int 0, .ref 20, .ref 22, .ref 24, .null, .null, .null])) = s8_ at m8_ ⊢
  refine g_p t69_54 rfl ?_
  refine r_new (e := .inr (4, [.null, .int 0])) t69_55 rfl ?_
  rw [m8_.nx]
  refine g_p t69_58 rfl ?_
  refine g_k (n := 243) t69_59 rfl rfl ?_
  refine g_ci t69_62 rfl rfl rfl ?_
  refine c28 (s := wn s8_ (.inr (4, [.null, .int 0])) 2) (p := 26) (m8_.new (e := .inr (4, [.null, .int 0])) (n := 2)).h (m8_.new (e := .inr (4, [.null, .int 0])) (n := 2)).nx (by decide) ?_
  refine k_0 ?_
  have m9_ := m8_.num (m := 243) rfl rfl (by decide)
  generalize nmk (wn s8_ (.inr (4, [.null, .int 0])) 2) 26 243 = s9_ at m9_ ⊢
  refine r_putr (f2 := [.int 0, .int 0, .ref 20, .ref 22, .ref 24, .ref 26, .null, .null]) t69_65 m9_.h rfl rfl rfl rfl rfl ?_
  have m10_ := m9_.put (e := .inr (7, [.int 0, .int 0, .ref 20, .ref 22, .ref 24, .ref 26, .null, .null])) hE
  generalize wr s9_ 19 (.inr (7, [.int 0, .int 0, .ref 20, .ref 22, .ref 24, .ref 26, .null, .null])) = s10_ at m10_ ⊢
  refine g_p t69_68 rfl ?_
  refine r_new (e := .inr (4, [.null, .int 0])) t69_69 rfl ?_
  rw [m10_.nx]
  refine g_p t69_72 rfl ?_
  refine g_k (n := 243) t69_73 rfl rfl ?_
  refine g_ci t69_76 rfl rfl rfl ?_
  refine c28 (s := wn s10_ (.inr (4, [.null, .int 0])) 2) (p := 28) (m10_.new (e := .inr (4, [.null, .int 0])) (n := 2)).h (m10_.new (e := .inr (4, [.null, .int 0])) (n := 2)).nx (by decide) ?_
  refine k_0 ?_
  have m11_ := m10_.num (m := 243) rfl rfl (by decide)
  generalize nmk (wn s10_ (.inr (4, [.null, .int 0])) 2) 28 243 = s11_ at m11_ ⊢
  refine r_putr (f2 := [.int 0, .int 0, .ref 20, .ref 22, .ref 24, .ref 26, .ref 28, .null]) t69_79 m11_.h rfl rfl rfl rfl rfl ?_
  have m12_ := m11_.put (e := .inr (7, [.int 0, .int 0, .ref 20, .ref 22, .ref 24, .ref 26, .ref 28, .null])) hE
  generalize wr s11_ 19 (.inr (7, [.int 0, .int 0, .ref 20, .ref 22, .ref 24, .ref 26, .ref 28, .null])) = s12_ at m12_ ⊢
  refine g_p t69_82 rfl ?_
  refine r_new (e := .inr (4, [.null, .int 0])) t69_83 rfl ?_
  rw [m12_.nx]
  refine g_p t69_86 rfl ?_
  refine g_k (n := 3402) t69_87 rfl rfl ?_
  refine g_ci t69_90 rfl rfl rfl ?_
  refine c28 (s := wn s12_ (.inr (4, [.null, .int 0])) 2) (p := 30) (m12_.new (e := .inr (4, [.null, .int 0])) (n := 2)).h (m12_.new (e := .inr (4, [.null, .int 0])) (n := 2)).nx (by decide) ?_
  refine k_0 ?_
  have m13_ := m12_.num (m := 3402) rfl rfl (by decide)
  generalize nmk (wn s12_ (.inr (4, [.null, .int 0])) 2) 30 3402 = s13_ at m13_ ⊢
  refine r_putr (f2 := [.int 0, .int 0, .ref 20, .ref 22, .ref 24, .ref 26, .ref 28, .ref 30]) t69_93 m13_.h rfl rfl rfl rfl rfl ?_
  have m14_ := m13_.put (e := .inr (7, [.int 0, .int 0, .ref 20, .ref 22, .ref 24, .ref 26, .ref 28, .ref 30])) hE
  generalize wr s13_ 19 (.inr (7, [.int 0, .int 0, .ref 20, .ref 22, .ref 24, .ref 26, .ref 28, .ref 30])) = s14_ at m14_ ⊢
  exact v_ret t69_96 (hq s14_ ((m14_.pop rfl).sl (by omega)))
theorem m93_32 (hE : ∀ pe ∈ E, pe.1 < 32) (hK : ∀ k ∈ K, k.1 < 32) (h : Mk 33 S ((32, .inr (9, [.null, .int 0, .int 0, .int 0, .int 0, .int 0, .int 0, .null, .null, .null, .null])) :: E) K s) (hq : ∀ s', Mk 41 (S + 248) E (K) s' → Q none (mR s')) : gE X (d + 1) 93 [.ref 32, .ref 19] (mR s) Q := by
  have m0 := h
  refine en93 rfl rfl ?_
  refine g_p t93_0 rfl ?_
  refine g_oi t93_1 (Nat.le_of_ble_eq_true rfl) ?_
  refine g_p t93_4 rfl ?_
  refine g_k (n := 0) t93_5 rfl rfl ?_
  refine r_puti t93_6 m0.h rfl rfl ?_
  have m1_ := m0.wx (p := 32) (i := 1) (v := nI 0) (Or.inl rfl) (mk_k hK)
  generalize wi s 32 1 (nI 0) = s1_ at m1_ ⊢
  refine g_p t93_9 rfl ?_
  refine g_k (n := 0) t93_10 rfl rfl ?_
  refine r_puti t93_11 m1_.h rfl rfl ?_
  have m2_ := m1_.wx (p := 32) (i := 2) (v := nI 0) (Or.inl rfl) (mk_k hK)
  generalize wi s1_ 32 2 (nI 0) = s2_ at m2_ ⊢
  refine g_p t93_14 rfl ?_
  refine g_k (n := 0) t93_15 rfl rfl ?_
  refine r_puti t93_16 m2_.h rfl rfl ?_
  have m3_ := m2_.wx (p := 32) (i := 3) (v := nI 0) (Or.inl rfl) (mk_k hK)
  generalize wi s2_ 32 3 (nI 0) = s3_ at m3_ ⊢
  refine g_p t93_19 rfl ?_
  refine g_k (n := 0) t93_20 rfl rfl ?_
  refine r_puti t93_21 m3_.h rfl rfl ?_
  have m4_ := m3_.wx (p := 32) (i := 4) (v := nI 0) (Or.inl rfl) (mk_k hK)
  generalize wi s3_ 32 4 (nI 0) = s4_ at m4_ ⊢
  refine g_p t93_24 rfl ?_
  refine g_k (n := 0) t93_25 rfl rfl ?_
  refine r_puti t93_26 m4_.h rfl rfl ?_
  have m5_ := m4_.wx (p := 32) (i := 5) (v := nI 0) (Or.inl rfl) (mk_k hK)
  generalize wi s4_ 32 5 (nI 0) = s5_ at m5_ ⊢
  refine g_p t93_29 rfl ?_
  refine g_k (n := 0) t93_30 rfl rfl ?_
  refine r_puti t93_31 m5_.h rfl rfl ?_
  have m6_ := m5_.wx (p := 32) (i := 6) (v := nI 0) (Or.inl rfl) (mk_k hK)
  generalize wi s5_ 32 6 (nI 0) = s6_ at m6_ ⊢
  refine g_p t93_34 rfl ?_
  refine r_new (e := .inr (4, [.null, .int 0])) t93_35 rfl ?_
  rw [m6_.nx]
  refine g_p t93_38 rfl ?_
  refine g_k (n := 60) t93_39 rfl rfl ?_
  refine g_ci t93_41 rfl rfl rfl ?_
  refine c28 (s := wn s6_ (.inr (4, [.null, .int 0])) 2) (p := 33) (m6_.new (e := .inr (4, [.null, .int 0])) (n := 2)).h (m6_.new (e := .inr (4, [.null, .int 0])) (n := 2)).nx (by decide) ?_
  refine k_0 ?_
  have m7_ := m6_.num (m := 60) rfl rfl (by decide)
  generalize nmk (wn s6_ (.inr (4, [.null, .int 0])) 2) 33 60 = s7_ at m7_ ⊢
  refine r_putr (f2 := [.null, .int 0, .int 0, .int 0, .int 0, .int 0, .int 0, .ref 33, .null, .null, .null]) t93_44 m7_.h rfl rfl rfl rfl rfl ?_
  have m8_ := m7_.put (e := .inr (9, [.null, .int 0, .int 0, .int 0, .int 0, .int 0, .int 0, .ref 33, .null, .null, .null])) hE
  generalize wr s7_ 32 (.inr (9, [.null, .int 0, .int 0, .int 0, .int 0, .int 0, .int 0, .ref 33, .null, .null, .null])) = s8_ at m8_ ⊢
  refine g_p t93_47 rfl ?_
  refine r_new (e := .inr (4, [.null, .int 0])) t93_48 rfl ?_
  rw [m8_.nx]
  refine g_p t93_51 rfl ?_
  refine g_k (n := 60) t93_52 rfl rfl ?_
  refine g_ci t93_54 rfl rfl rfl ?_
  refine c28 (s := wn s8_ (.inr (4, [.null, .int 0])) 2) (p := 35) (m8_.new (e := .inr (4, [.null, .int 0])) (n := 2)).h (m8_.new (e := .inr (4, [.null, .int 0])) (n := 2)).nx (by decide) ?_
  refine k_0 ?_
  have m9_ := m8_.num (m := 60) rfl rfl (by decide)
  generalize nmk (wn s8_ (.inr (4, [.null, .int 0])) 2) 35 60 = s9_ at m9_ ⊢
  refine r_putr (f2 := [.null, .int 0, .int 0, .int 0, .int 0, .int 0, .int 0, .ref 33, .ref 35, .null, .null]) t93_57 m9_.h rfl rfl rfl rfl rfl ?_
  have m10_ := m9_.put (e := .inr (9, [.null, .int 0, .int 0, .int 0, .int 0, .int 0, .int 0, .ref 33, .ref 35, .null, .null])) hE
  generalize wr s9_ 32 (.inr (9, [.null, .int 0, .int 0, .int 0, .int 0, .int 0, .int 0, .ref 33, .ref 35, .null, .null])) = s10_ at m10_ ⊢
  refine g_p t93_60 rfl ?_
  refine r_new (e := .inr (4, [.null, .int 0])) t93_61 rfl ?_
  rw [m10_.nx]
  refine g_p t93_64 rfl ?_
  refine g_k (n := 60) t93_65 rfl rfl ?_
  refine g_ci t93_67 rfl rfl rfl ?_
  refine c28 (s := wn s10_ (.inr (4, [.null, .int 0])) 2) (p := 37) (m10_.new (e := .inr (4, [.null, .int 0])) (n := 2)).h (m10_.new (e := .inr (4, [.null, .int 0])) (n := 2)).nx (by decide) ?_
  refine k_0 ?_
  have m11_ := m10_.num (m := 60) rfl rfl (by decide)
  generalize nmk (wn s10_ (.inr (4, [.null, .int 0])) 2) 37 60 = s11_ at m11_ ⊢
  refine r_putr (f2 := [.null, .int 0, .int 0, .int 0, .int 0, .int 0, .int 0, .ref 33, .ref 35, .ref 37, .null]) t93_70 m11_.h rfl rfl rfl rfl rfl ?_
  have m12_ := m11_.put (e := .inr (9, [.null, .int 0, .int 0, .int 0, .int 0, .int 0, .int 0, .ref 33, .ref 35, .ref 37, .null])) hE
  generalize wr s11_ 32 (.inr (9, [.null, .int 0, .int 0, .int 0, .int 0, .int 0, .int 0, .ref 33, .ref 35, .ref 37, .null])) = s12_ at m12_ ⊢
  refine g_p t93_73 rfl ?_
  refine r_new (e := .inr (4, [.null, .int 0])) t93_74 rfl ?_
  rw [m12_.nx]
  refine g_p t93_77 rfl ?_
  refine g_k (n := 60) t93_78 rfl rfl ?_
  refine g_ci t93_80 rfl rfl rfl ?_
  refine c28 (s := wn s12_ (.inr (4, [.null, .int 0])) 2) (p := 39) (m12_.new (e := .inr (4, [.null, .int 0])) (n := 2)).h (m12_.new (e := .inr (4, [.null, .int 0])) (n := 2)).nx (by decide) ?_
  refine k_0 ?_
  have m13_ := m12_.num (m := 60) rfl rfl (by decide)
  generalize nmk (wn s12_ (.inr (4, [.null, .int 0])) 2) 39 60 = s13_ at m13_ ⊢
  refine r_putr (f2 := [.null, .int 0, .int 0, .int 0, .int 0, .int 0, .int 0, .ref 33, .ref 35, .ref 37, .ref 39]) t93_83 m13_.h rfl rfl rfl rfl rfl ?_
  have m14_ := m13_.put (e := .inr (9, [.null, .int 0, .int 0, .int 0, .int 0, .int 0, .int 0, .ref 33, .ref 35, .ref 37, .ref 39])) hE
  generalize wr s13_ 32 (.inr (9, [.null, .int 0, .int 0, .int 0, .int 0, .int 0, .int 0, .ref 33, .ref 35, .ref 37, .ref 39])) = s14_ at m14_ ⊢
  refine g_p t93_86 rfl ?_
  refine g_p t93_87 rfl ?_
  refine r_putr (f2 := [.ref 19, .int 0, .int 0, .int 0, .int 0, .int 0, .int 0, .ref 33, .ref 35, .ref 37, .ref 39]) t93_88 m14_.h rfl rfl rfl rfl rfl ?_
  have m15_ := m14_.put (e := .inr (9, [.ref 19, .int 0, .int 0, .int 0, .int 0, .int 0, .int 0, .ref 33, .ref 35, .ref 37, .ref 39])) hE
  generalize wr s14_ 32 (.inr (9, [.ref 19, .int 0, .int 0, .int 0, .int 0, .int 0, .int 0, .ref 33, .ref 35, .ref 37, .ref 39])) = s15_ at m15_ ⊢
  exact v_ret t93_91 (hq s15_ ((m15_.pop rfl).sl (by omega)))
theorem m93_41 (hE : ∀ pe ∈ E, pe.1 < 41) (hK : ∀ k ∈ K, k.1 < 41) (h : Mk 42 S ((41, .inr (9, [.null, .int 0, .int 0, .int 0, .int 0, .int 0, .int 0, .null, .null, .null, .null])) :: E) K s) (hq : ∀ s', Mk 50 (S + 248) E (K) s' → Q none (mR s')) : gE X (d + 1) 93 [.ref 41, .ref 19] (mR s) Q := by
  have m0 := h
  refine en93 rfl rfl ?_
  refine g_p t93_0 rfl ?_
  refine g_oi t93_1 (Nat.le_of_ble_eq_true rfl) ?_
  refine g_p t93_4 rfl ?_
  refine g_k (n := 0) t93_5 rfl rfl ?_
  refine r_puti t93_6 m0.h rfl rfl ?_
  have m1_ := m0.wx (p := 41) (i := 1) (v := nI 0) (Or.inl rfl) (mk_k hK)
  generalize wi s 41 1 (nI 0) = s1_ at m1_ ⊢
  refine g_p t93_9 rfl ?_
  refine g_k (n := 0) t93_10 rfl rfl ?_
  refine r_puti t93_11 m1_.h rfl rfl ?_
  have m2_ := m1_.wx (p := 41) (i := 2) (v := nI 0) (Or.inl rfl) (mk_k hK)
  generalize wi s1_ 41 2 (nI 0) = s2_ at m2_ ⊢
  refine g_p t93_14 rfl ?_
  refine g_k (n := 0) t93_15 rfl rfl ?_
  refine r_puti t93_16 m2_.h rfl rfl ?_
  have m3_ := m2_.wx (p := 41) (i := 3) (v := nI 0) (Or.inl rfl) (mk_k hK)
  generalize wi s2_ 41 3 (nI 0) = s3_ at m3_ ⊢
  refine g_p t93_19 rfl ?_
  refine g_k (n := 0) t93_20 rfl rfl ?_
  refine r_puti t93_21 m3_.h rfl rfl ?_
  have m4_ := m3_.wx (p := 41) (i := 4) (v := nI 0) (Or.inl rfl) (mk_k hK)
  generalize wi s3_ 41 4 (nI 0) = s4_ at m4_ ⊢
  refine g_p t93_24 rfl ?_
  refine g_k (n := 0) t93_25 rfl rfl ?_
  refine r_puti t93_26 m4_.h rfl rfl ?_
  have m5_ := m4_.wx (p := 41) (i := 5) (v := nI 0) (Or.inl rfl) (mk_k hK)
  generalize wi s4_ 41 5 (nI 0) = s5_ at m5_ ⊢
  refine g_p t93_29 rfl ?_
  refine g_k (n := 0) t93_30 rfl rfl ?_
  refine r_puti t93_31 m5_.h rfl rfl ?_
  have m6_ := m5_.wx (p := 41) (i := 6) (v := nI 0) (Or.inl rfl) (mk_k hK)
  generalize wi s5_ 41 6 (nI 0) = s6_ at m6_ ⊢
  refine g_p t93_34 rfl ?_
  refine r_new (e := .inr (4, [.null, .int 0])) t93_35 rfl ?_
  rw [m6_.nx]
  refine g_p t93_38 rfl ?_
  refine g_k (n := 60) t93_39 rfl rfl ?_
  refine g_ci t93_41 rfl rfl rfl ?_
  refine c28 (s := wn s6_ (.inr (4, [.null, .int 0])) 2) (p := 42) (m6_.new (e := .inr (4, [.null, .int 0])) (n := 2)).h (m6_.new (e := .inr (4, [.null, .int 0])) (n := 2)).nx (by decide) ?_
  refine k_0 ?_
  have m7_ := m6_.num (m := 60) rfl rfl (by decide)
  generalize nmk (wn s6_ (.inr (4, [.null, .int 0])) 2) 42 60 = s7_ at m7_ ⊢
  refine r_putr (f2 := [.null, .int 0, .int 0, .int 0, .int 0, .int 0, .int 0, .ref 42, .null, .null, .null]) t93_44 m7_.h rfl rfl rfl rfl rfl ?_
  have m8_ := m7_.put (e := .inr (9, [.null, .int 0, .int 0, .int 0, .int 0, .int 0, .int 0, .ref 42, .null, .null, .null])) hE
  generalize wr s7_ 41 (.inr (9, [.null, .int 0, .int 0, .int 0, .int 0, .int 0, .int 0, .ref 42, .null, .null, .null])) = s8_ at m8_ ⊢
  refine g_p t93_47 rfl ?_
  refine r_new (e := .inr (4, [.null, .int 0])) t93_48 rfl ?_
  rw [m8_.nx]
  refine g_p t93_51 rfl ?_
  refine g_k (n := 60) t93_52 rfl rfl ?_
  refine g_ci t93_54 rfl rfl rfl ?_
  refine c28 (s := wn s8_ (.inr (4, [.null, .int 0])) 2) (p := 44) (m8_.new (e := .inr (4, [.null, .int 0])) (n := 2)).h (m8_.new (e := .inr (4, [.null, .int 0])) (n := 2)).nx (by decide) ?_
  refine k_0 ?_
  have m9_ := m8_.num (m := 60) rfl rfl (by decide)
  generalize nmk (wn s8_ (.inr (4, [.null, .int 0])) 2) 44 60 = s9_ at m9_ ⊢
  refine r_putr (f2 := [.null, .int 0, .int 0, .int 0, .int 0, .int 0, .int 0, .ref 42, .ref 44, .null, .null]) t93_57 m9_.h rfl rfl rfl rfl rfl ?_
  have m10_ := m9_.put (e := .inr (9, [.null, .int 0, .int 0, .int 0, .int 0, .int 0, .int 0, .ref 42, .ref 44, .null, .null])) hE
  generalize wr s9_ 41 (.inr (9, [.null, .int 0, .int 0, .int 0, .int 0, .int 0, .int 0, .ref 42, .ref 44, .null, .null])) = s10_ at m10_ ⊢
  refine g_p t93_60 rfl ?_
  refine r_new (e := .inr (4, [.null, .int 0])) t93_61 rfl ?_
  rw [m10_.nx]
  refine g_p t93_64 rfl ?_
  refine g_k (n := 60) t93_65 rfl rfl ?_
  refine g_ci t93_67 rfl rfl rfl ?_
  refine c28 (s := wn s10_ (.inr (4, [.null, .int 0])) 2) (p := 46) (m10_.new (e := .inr (4, [.null, .int 0])) (n := 2)).h (m10_.new (e := .inr (4, [.null, .int 0])) (n := 2)).nx (by decide) ?_
  refine k_0 ?_
  have m11_ := m10_.num (m := 60) rfl rfl (by decide)
  generalize nmk (wn s10_ (.inr (4, [.null, .int 0])) 2) 46 60 = s11_ at m11_ ⊢
  refine r_putr (f2 := [.null, .int 0, .int 0, .int 0, .int 0, .int 0, .int 0, .ref 42, .ref 44, .ref 46, .null]) t93_70 m11_.h rfl rfl rfl rfl rfl ?_
  have m12_ := m11_.put (e := .inr (9, [.null, .int 0, .int 0, .int 0, .int 0, .int 0, .int 0, .ref 42, .ref 44, .ref 46, .null])) hE
  generalize wr s11_ 41 (.inr (9, [.null, .int 0, .int 0, .int 0, .int 0, .int 0, .int 0, .ref 42, .ref 44, .ref 46, .null])) = s12_ at m12_ ⊢
  refine g_p t93_73 rfl ?_
  refine r_new (e := .inr (4, [.null, .int 0])) t93_74 rfl ?_
  rw [m12_.nx]
  refine g_p t93_77 rfl ?_
  refine g_k (n := 60) t93_78 rfl rfl ?_
  refine g_ci t93_80 rfl rfl rfl ?_
  refine c28 (s := wn s12_ (.inr (4, [.null, .int 0])) 2) (p := 48) (m12_.new (e := .inr (4, [.null, .int 0])) (n := 2)).h (m12_.new (e := .inr (4, [.null, .int 0])) (n := 2)).nx (by decide) ?_
  refine k_0 ?_
  have m13_ := m12_.num (m := 60) rfl rfl (by decide)
  generalize nmk (wn s12_ (.inr (4, [.null, .int 0])) 2) 48 60 = s13_ at m13_ ⊢
  refine r_putr (f2 := [.null, .int 0, .int 0, .int 0, .int 0, .int 0, .int 0, .ref 42, .ref 44, .ref 46, .ref 48]) t93_83 m13_.h rfl rfl rfl rfl rfl ?_
  have m14_ := m13_.put (e := .inr (9, [.null, .int 0, .int 0, .int 0, .int 0, .int 0, .int 0, .ref 42, .ref 44, .ref 46, .ref 48])) hE
  generalize wr s13_ 41 (.inr (9, [.null, .int 0, .int 0, .int 0, .int 0, .int 0, .int 0, .ref 42, .ref 44, .ref 46, .ref 48])) = s14_ at m14_ ⊢
  refine g_p t93_86 rfl ?_
  refine g_p t93_87 rfl ?_
  refine r_putr (f2 := [.ref 19, .int 0, .int 0, .int 0, .int 0, .int 0, .int 0, .ref 42, .ref 44, .ref 46, .ref 48]) t93_88 m14_.h rfl rfl rfl rfl rfl ?_
  have m15_ := m14_.put (e := .inr (9, [.ref 19, .int 0, .int 0, .int 0, .int 0, .int 0, .int 0, .ref 42, .ref 44, .ref 46, .ref 48])) hE
  generalize wr s14_ 41 (.inr (9, [.ref 19, .int 0, .int 0, .int 0, .int 0, .int 0, .int 0, .ref 42, .ref 44, .ref 46, .ref 48])) = s15_ at m15_ ⊢
  exact v_ret t93_91 (hq s15_ ((m15_.pop rfl).sl (by omega)))
theorem m61_50 (hE : ∀ pe ∈ E, pe.1 < 50) (hK : ∀ k ∈ K, k.1 < 50) (h : Mk 51 S ((50, .inr (6, [.null, .null, .null, .null, .null, .null, .null])) :: E) K s) (hq : ∀ s', Mk 61 (S + 8131) E (K) s' → Q none (mR s')) : gE X (d + 1) 61 [.ref 50, .ref 19, .ref 32] (mR s) Q := by
  have m0 := h
  refine en61 rfl rfl rfl ?_
  refine g_p t61_0 rfl ?_
  refine g_oi t61_1 (Nat.le_of_ble_eq_true rfl) ?_
  refine g_p t61_4 rfl ?_
  refine r_new (e := .inr (4, [.null, .int 0])) t61_5 rfl ?_
  rw [m0.nx]
  refine g_p t61_8 rfl ?_
  refine g_k (n := 10) t61_9 rfl rfl ?_
  refine g_ci t61_11 rfl rfl rfl ?_
  refine c28 (s := wn s (.inr (4, [.null, .int 0])) 2) (p := 51) (m0.new (e := .inr (4, [.null, .int 0])) (n := 2)).h (m0.new (e := .inr (4, [.null, .int 0])) (n := 2)).nx (by decide) ?_
  refine k_0 ?_
  have m1_ := m0.num (m := 10) rfl rfl (by decide)
  generalize nmk (wn s (.inr (4, [.null, .int 0])) 2) 51 10 = s1_ at m1_ ⊢
  refine r_putr (f2 := [.null, .null, .ref 51, .null, .null, .null, .null]) t61_14 m1_.h rfl rfl rfl rfl rfl ?_
  have m2_ := m1_.put (e := .inr (6, [.null, .null, .ref 51, .null, .null, .null, .null])) hE
  generalize wr s1_ 50 (.inr (6, [.null, .null, .ref 51, .null, .null, .null, .null])) = s2_ at m2_ ⊢
  refine g_p t61_17 rfl ?_
  refine r_new (e := .inr (4, [.null, .int 0])) t61_18 rfl ?_
  rw [m2_.nx]
  refine g_p t61_21 rfl ?_
  refine g_k (n := 243) t61_22 rfl rfl ?_
  refine g_ci t61_25 rfl rfl rfl ?_
  refine c28 (s := wn s2_ (.inr (4, [.null, .int 0])) 2) (p := 53) (m2_.new (e := .inr (4, [.null, .int 0])) (n := 2)).h (m2_.new (e := .inr (4, [.null, .int 0])) (n := 2)).nx (by decide) ?_
  refine k_0 ?_
  have m3_ := m2_.num (m := 243) rfl rfl (by decide)
  generalize nmk (wn s2_ (.inr (4, [.null, .int 0])) 2) 53 243 = s3_ at m3_ ⊢
  refine r_putr (f2 := [.null, .null, .ref 51, .ref 53, .null, .null, .null]) t61_28 m3_.h rfl rfl rfl rfl rfl ?_
  have m4_ := m3_.put (e := .inr (6, [.null, .null, .ref 51, .ref 53, .null, .null, .null])) hE
  generalize wr s3_ 50 (.inr (6, [.null, .null, .ref 51, .ref 53, .null, .null, .null])) = s4_ at m4_ ⊢
  refine g_p t61_31 rfl ?_
  refine r_new (e := .inr (4, [.null, .int 0])) t61_32 rfl ?_
  rw [m4_.nx]
  refine g_p t61_35 rfl ?_
  refine g_k (n := 243) t61_36 rfl rfl ?_
  refine g_ci t61_39 rfl rfl rfl ?_
  refine c28 (s := wn s4_ (.inr (4, [.null, .int 0])) 2) (p := 55) (m4_.new (e := .inr (4, [.null, .int 0])) (n := 2)).h (m4_.new (e := .inr (4, [.null, .int 0])) (n := 2)).nx (by decide) ?_
  refine k_0 ?_
  have m5_ := m4_.num (m := 243) rfl rfl (by decide)
  generalize nmk (wn s4_ (.inr (4, [.null, .int 0])) 2) 55 243 = s5_ at m5_ ⊢
  refine r_putr (f2 := [.null, .null, .ref 51, .ref 53, .ref 55, .null, .null]) t61_42 m5_.h rfl rfl rfl rfl rfl ?_
  have m6_ := m5_.put (e := .inr (6, [.null, .null, .ref 51, .ref 53, .ref 55, .null, .null])) hE
  generalize wr s5_ 50 (.inr (6, [.null, .null, .ref 51, .ref 53, .ref 55, .null, .null])) = s6_ at m6_ ⊢
  refine g_p t61_45 rfl ?_
  refine r_new (e := .inr (4, [.null, .int 0])) t61_46 rfl ?_
  rw [m6_.nx]
  refine g_p t61_49 rfl ?_
  refine g_k (n := 243) t61_50 rfl rfl ?_
  refine g_ci t61_53 rfl rfl rfl ?_
  refine c28 (s := wn s6_ (.inr (4, [.null, .int 0])) 2) (p := 57) (m6_.new (e := .inr (4, [.null, .int 0])) (n := 2)).h (m6_.new (e := .inr (4, [.null, .int 0])) (n := 2)).nx (by decide) ?_
  refine k_0 ?_
  have m7_ := m6_.num (m := 243) rfl rfl (by decide)
  generalize nmk (wn s6_ (.inr (4, [.null, .int 0])) 2) 57 243 = s7_ at m7_ ⊢
  refine r_putr (f2 := [.null, .null, .ref 51, .ref 53, .ref 55, .ref 57, .null]) t61_56 m7_.h rfl rfl rfl rfl rfl ?_
  have m8_ := m7_.put (e := .inr (6, [.null, .null, .ref 51, .ref 53, .ref 55, .ref 57, .null])) hE
  generalize wr s7_ 50 (.inr (6, [.null, .null, .ref 51, .ref 53, .ref 55, .ref 57, .null])) = s8_ at m8_ ⊢
  refine g_p t61_59 rfl ?_
  refine r_new (e := .inr (4, [.null, .int 0])) t61_60 rfl ?_
  rw [m8_.nx]
  refine g_p t61_63 rfl ?_
  refine g_k (n := 7382) t61_64 rfl rfl ?_
  refine g_ci t61_67 rfl rfl rfl ?_
  refine c28 (s := wn s8_ (.inr (4, [.null, .int 0])) 2) (p := 59) (m8_.new (e := .inr (4, [.null, .int 0])) (n := 2)).h (m8_.new (e := .inr (4, [.null, .int 0])) (n := 2)).nx (by decide) ?_
  refine k_0 ?_
  have m9_ := m8_.num (m := 7382) rfl rfl (by decide)
  generalize nmk (wn s8_ (.inr (4, [.null, .int 0])) 2) 59 7382 = s9_ at m9_ ⊢
  refine r_putr (f2 := [.null, .null, .ref 51, .ref 53, .ref 55, .ref 57, .ref 59]) t61_70 m9_.h rfl rfl rfl rfl rfl ?_
  have m10_ := m9_.put (e := .inr (6, [.null, .null, .ref 51, .ref 53, .ref 55, .ref 57, .ref 59])) hE
  generalize wr s9_ 50 (.inr (6, [.null, .null, .ref 51, .ref 53, .ref 55, .ref 57, .ref 59])) = s10_ at m10_ ⊢
  refine g_p t61_73 rfl ?_
  refine g_p t61_74 rfl ?_
  refine r_putr (f2 := [.ref 19, .null, .ref 51, .ref 53, .ref 55, .ref 57, .ref 59]) t61_75 m10_.h rfl rfl rfl rfl rfl ?_
  have m11_ := m10_.put (e := .inr (6, [.ref 19, .null, .ref 51, .ref 53, .ref 55, .ref 57, .ref 59])) hE
  generalize wr s10_ 50 (.inr (6, [.ref 19, .null, .ref 51, .ref 53, .ref 55, .ref 57, .ref 59])) = s11_ at m11_ ⊢
  refine g_p t61_78 rfl ?_
  refine g_p t61_79 rfl ?_
  refine r_putr (f2 := [.ref 19, .ref 32, .ref 51, .ref 53, .ref 55, .ref 57, .ref 59]) t61_80 m11_.h rfl rfl rfl rfl rfl ?_
  have m12_ := m11_.put (e := .inr (6, [.ref 19, .ref 32, .ref 51, .ref 53, .ref 55, .ref 57, .ref 59])) hE
  generalize wr s11_ 50 (.inr (6, [.ref 19, .ref 32, .ref 51, .ref 53, .ref 55, .ref 57, .ref 59])) = s12_ at m12_ ⊢
  exact v_ret t61_83 (hq s12_ ((m12_.pop rfl).sl (by omega)))
theorem m37_61 (hE : ∀ pe ∈ E, pe.1 < 61) (hK : ∀ k ∈ K, k.1 < 61) (h : Mk 62 S ((61, .inr (5, [.null, .null, .null, .null, .null, .null, .null, .null, .null, .null, .null])) :: E) K s) (hq : ∀ s', Mk 76 (S + 1263) E (K) s' → Q none (mR s')) : gE X (d + 1) 37 [.ref 61, .ref 19, .ref 32, .ref 50] (mR s) Q := by
  have m0 := h
  refine en37 rfl rfl rfl rfl ?_
  refine g_p t37_0 rfl ?_
  refine g_oi t37_1 (Nat.le_of_ble_eq_true rfl) ?_
  refine g_p t37_4 rfl ?_
  refine r_new (e := .inr (4, [.null, .int 0])) t37_5 rfl ?_
  rw [m0.nx]
  refine g_p t37_8 rfl ?_
  refine g_k (n := 12) t37_9 rfl rfl ?_
  refine g_ci t37_11 rfl rfl rfl ?_
  refine c28 (s := wn s (.inr (4, [.null, .int 0])) 2) (p := 62) (m0.new (e := .inr (4, [.null, .int 0])) (n := 2)).h (m0.new (e := .inr (4, [.null, .int 0])) (n := 2)).nx (by decide) ?_
  refine k_0 ?_
  have m1_ := m0.num (m := 12) rfl rfl (by decide)
  generalize nmk (wn s (.inr (4, [.null, .int 0])) 2) 62 12 = s1_ at m1_ ⊢
  refine r_putr (f2 := [.null, .null, .null, .ref 62, .null, .null, .null, .null, .null, .null, .null]) t37_14 m1_.h rfl rfl rfl rfl rfl ?_
  have m2_ := m1_.put (e := .inr (5, [.null, .null, .null, .ref 62, .null, .null, .null, .null, .null, .null, .null])) hE
  generalize wr s1_ 61 (.inr (5, [.null, .null, .null, .ref 62, .null, .null, .null, .null, .null, .null, .null])) = s2_ at m2_ ⊢
  refine g_p t37_17 rfl ?_
  refine r_new (e := .inr (4, [.null, .int 0])) t37_18 rfl ?_
  rw [m2_.nx]
  refine g_p t37_21 rfl ?_
  refine g_k (n := 12) t37_22 rfl rfl ?_
  refine g_ci t37_24 rfl rfl rfl ?_
  refine c28 (s := wn s2_ (.inr (4, [.null, .int 0])) 2) (p := 64) (m2_.new (e := .inr (4, [.null, .int 0])) (n := 2)).h (m2_.new (e := .inr (4, [.null, .int 0])) (n := 2)).nx (by decide) ?_
  refine k_0 ?_
  have m3_ := m2_.num (m := 12) rfl rfl (by decide)
  generalize nmk (wn s2_ (.inr (4, [.null, .int 0])) 2) 64 12 = s3_ at m3_ ⊢
  refine r_putr (f2 := [.null, .null, .null, .ref 62, .ref 64, .null, .null, .null, .null, .null, .null]) t37_27 m3_.h rfl rfl rfl rfl rfl ?_
  have m4_ := m3_.put (e := .inr (5, [.null, .null, .null, .ref 62, .ref 64, .null, .null, .null, .null, .null, .null])) hE
  generalize wr s3_ 61 (.inr (5, [.null, .null, .null, .ref 62, .ref 64, .null, .null, .null, .null, .null, .null])) = s4_ at m4_ ⊢
  refine g_p t37_30 rfl ?_
  refine r_new (e := .inr (4, [.null, .int 0])) t37_31 rfl ?_
  rw [m4_.nx]
  refine g_p t37_34 rfl ?_
  refine g_k (n := 12) t37_35 rfl rfl ?_
  refine g_ci t37_37 rfl rfl rfl ?_
  refine c28 (s := wn s4_ (.inr (4, [.null, .int 0])) 2) (p := 66) (m4_.new (e := .inr (4, [.null, .int 0])) (n := 2)).h (m4_.new (e := .inr (4, [.null, .int 0])) (n := 2)).nx (by decide) ?_
  refine k_0 ?_
  have m5_ := m4_.num (m := 12) rfl rfl (by decide)
  generalize nmk (wn s4_ (.inr (4, [.null, .int 0])) 2) 66 12 = s5_ at m5_ ⊢
  refine r_putr (f2 := [.null, .null, .null, .ref 62, .ref 64, .ref 66, .null, .null, .null, .null, .null]) t37_40 m5_.h rfl rfl rfl rfl rfl ?_
  have m6_ := m5_.put (e := .inr (5, [.null, .null, .null, .ref 62, .ref 64, .ref 66, .null, .null, .null, .null, .null])) hE
  generalize wr s5_ 61 (.inr (5, [.null, .null, .null, .ref 62, .ref 64, .ref 66, .null, .null, .null, .null, .null])) = s6_ at m6_ ⊢
  refine g_p t37_43 rfl ?_
  refine r_new (e := .inr (4, [.null, .int 0])) t37_44 rfl ?_
  rw [m6_.nx]
  refine g_p t37_47 rfl ?_
  refine g_k (n := 243) t37_48 rfl rfl ?_
  refine g_ci t37_51 rfl rfl rfl ?_
  refine c28 (s := wn s6_ (.inr (4, [.null, .int 0])) 2) (p := 68) (m6_.new (e := .inr (4, [.null, .int 0])) (n := 2)).h (m6_.new (e := .inr (4, [.null, .int 0])) (n := 2)).nx (by decide) ?_
  refine k_0 ?_
  have m7_ := m6_.num (m := 243) rfl rfl (by decide)
  generalize nmk (wn s6_ (.inr (4, [.null, .int 0])) 2) 68 243 = s7_ at m7_ ⊢
  refine r_putr (f2 := [.null, .null, .null, .ref 62, .ref 64, .ref 66, .ref 68, .null, .null, .null, .null]) t37_54 m7_.h rfl rfl rfl rfl rfl ?_
  have m8_ := m7_.put (e := .inr (5, [.null, .null, .null, .ref 62, .ref 64, .ref 66, .ref 68, .null, .null, .null, .null])) hE
  generalize wr s7_ 61 (.inr (5, [.null, .null, .null, .ref 62, .ref 64, .ref 66, .ref 68, .null, .null, .null, .null])) = s8_ at m8_ ⊢
  refine g_p t37_57 rfl ?_
  refine r_new (e := .inr (4, [.null, .int 0])) t37_58 rfl ?_
  rw [m8_.nx]
  refine g_p t37_61 rfl ?_
  refine g_k (n := 243) t37_62 rfl rfl ?_
  refine g_ci t37_65 rfl rfl rfl ?_
  refine c28 (s := wn s8_ (.inr (4, [.null, .int 0])) 2) (p := 70) (m8_.new (e := .inr (4, [.null, .int 0])) (n := 2)).h (m8_.new (e := .inr (4, [.null, .int 0])) (n := 2)).nx (by decide) ?_
  refine k_0 ?_
  have m9_ := m8_.num (m := 243) rfl rfl (by decide)
  generalize nmk (wn s8_ (.inr (4, [.null, .int 0])) 2) 70 243 = s9_ at m9_ ⊢
  refine r_putr (f2 := [.null, .null, .null, .ref 62, .ref 64, .ref 66, .ref 68, .ref 70, .null, .null, .null]) t37_68 m9_.h rfl rfl rfl rfl rfl ?_
  have m10_ := m9_.put (e := .inr (5, [.null, .null, .null, .ref 62, .ref 64, .ref 66, .ref 68, .ref 70, .null, .null, .null])) hE
  generalize wr s9_ 61 (.inr (5, [.null, .null, .null, .ref 62, .ref 64, .ref 66, .ref 68, .ref 70, .null, .null, .null])) = s10_ at m10_ ⊢
  refine g_p t37_71 rfl ?_
  refine r_new (e := .inr (4, [.null, .int 0])) t37_72 rfl ?_
  rw [m10_.nx]
  refine g_p t37_75 rfl ?_
  refine g_k (n := 243) t37_76 rfl rfl ?_
  refine g_ci t37_79 rfl rfl rfl ?_
  refine c28 (s := wn s10_ (.inr (4, [.null, .int 0])) 2) (p := 72) (m10_.new (e := .inr (4, [.null, .int 0])) (n := 2)).h (m10_.new (e := .inr (4, [.null, .int 0])) (n := 2)).nx (by decide) ?_
  refine k_0 ?_
  have m11_ := m10_.num (m := 243) rfl rfl (by decide)
  generalize nmk (wn s10_ (.inr (4, [.null, .int 0])) 2) 72 243 = s11_ at m11_ ⊢
  refine r_putr (f2 := [.null, .null, .null, .ref 62, .ref 64, .ref 66, .ref 68, .ref 70, .ref 72, .null, .null]) t37_82 m11_.h rfl rfl rfl rfl rfl ?_
  have m12_ := m11_.put (e := .inr (5, [.null, .null, .null, .ref 62, .ref 64, .ref 66, .ref 68, .ref 70, .ref 72, .null, .null])) hE
  generalize wr s11_ 61 (.inr (5, [.null, .null, .null, .ref 62, .ref 64, .ref 66, .ref 68, .ref 70, .ref 72, .null, .null])) = s12_ at m12_ ⊢
  refine g_p t37_85 rfl ?_
  refine g_k (n := 243) t37_86 rfl rfl ?_
  refine r_newl t37_89 (by decide) ?_
  rw [m12_.nx]
  have m13_ := m12_.row (e := .inl (3, 243, .inr (.inl (fun _ => 0)))) (n := 243) rfl
  generalize wn s12_ (.inl (3, 243, .inr (.inl (fun _ => 0)))) 243 = s13_ at m13_ ⊢
  refine r_putr (f2 := [.null, .null, .null, .ref 62, .ref 64, .ref 66, .ref 68, .ref 70, .ref 72, .ref 74, .null]) t37_91 m13_.h rfl rfl rfl rfl rfl ?_
  have m14_ := m13_.put (e := .inr (5, [.null, .null, .null, .ref 62, .ref 64, .ref 66, .ref 68, .ref 70, .ref 72, .ref 74, .null])) hE
  generalize wr s13_ 61 (.inr (5, [.null, .null, .null, .ref 62, .ref 64, .ref 66, .ref 68, .ref 70, .ref 72, .ref 74, .null])) = s14_ at m14_ ⊢
  refine g_p t37_94 rfl ?_
  refine g_k (n := 243) t37_95 rfl rfl ?_
  refine r_newl t37_98 (by decide) ?_
  rw [m14_.nx]
  have m15_ := m14_.row (e := .inl (3, 243, .inr (.inl (fun _ => 0)))) (n := 243) rfl
  generalize wn s14_ (.inl (3, 243, .inr (.inl (fun _ => 0)))) 243 = s15_ at m15_ ⊢
  refine r_putr (f2 := [.null, .null, .null, .ref 62, .ref 64, .ref 66, .ref 68, .ref 70, .ref 72, .ref 74, .ref 75]) t37_100 m15_.h rfl rfl rfl rfl rfl ?_
  have m16_ := m15_.put (e := .inr (5, [.null, .null, .null, .ref 62, .ref 64, .ref 66, .ref 68, .ref 70, .ref 72, .ref 74, .ref 75])) hE
  generalize wr s15_ 61 (.inr (5, [.null, .null, .null, .ref 62, .ref 64, .ref 66, .ref 68, .ref 70, .ref 72, .ref 74, .ref 75])) = s16_ at m16_ ⊢
  refine g_p t37_103 rfl ?_
  refine g_p t37_104 rfl ?_
  refine r_putr (f2 := [.ref 19, .null, .null, .ref 62, .ref 64, .ref 66, .ref 68, .ref 70, .ref 72, .ref 74, .ref 75]) t37_105 m16_.h rfl rfl rfl rfl rfl ?_
  have m17_ := m16_.put (e := .inr (5, [.ref 19, .null, .null, .ref 62, .ref 64, .ref 66, .ref 68, .ref 70, .ref 72, .ref 74, .ref 75])) hE
  generalize wr s16_ 61 (.inr (5, [.ref 19, .null, .null, .ref 62, .ref 64, .ref 66, .ref 68, .ref 70, .ref 72, .ref 74, .ref 75])) = s17_ at m17_ ⊢
  refine g_p t37_108 rfl ?_
  refine g_p t37_109 rfl ?_
  refine r_putr (f2 := [.ref 19, .ref 32, .null, .ref 62, .ref 64, .ref 66, .ref 68, .ref 70, .ref 72, .ref 74, .ref 75]) t37_110 m17_.h rfl rfl rfl rfl rfl ?_
  have m18_ := m17_.put (e := .inr (5, [.ref 19, .ref 32, .null, .ref 62, .ref 64, .ref 66, .ref 68, .ref 70, .ref 72, .ref 74, .ref 75])) hE
  generalize wr s17_ 61 (.inr (5, [.ref 19, .ref 32, .null, .ref 62, .ref 64, .ref 66, .ref 68, .ref 70, .ref 72, .ref 74, .ref 75])) = s18_ at m18_ ⊢
  refine g_p t37_113 rfl ?_
  refine g_p t37_114 rfl ?_
  refine r_putr (f2 := [.ref 19, .ref 32, .ref 50, .ref 62, .ref 64, .ref 66, .ref 68, .ref 70, .ref 72, .ref 74, .ref 75]) t37_115 m18_.h rfl rfl rfl rfl rfl ?_
  have m19_ := m18_.put (e := .inr (5, [.ref 19, .ref 32, .ref 50, .ref 62, .ref 64, .ref 66, .ref 68, .ref 70, .ref 72, .ref 74, .ref 75])) hE
  generalize wr s18_ 61 (.inr (5, [.ref 19, .ref 32, .ref 50, .ref 62, .ref 64, .ref 66, .ref 68, .ref 70, .ref 72, .ref 74, .ref 75])) = s19_ at m19_ ⊢
  exact v_ret t37_118 (hq s19_ ((m19_.pop rfl).sl (by omega)))
theorem m118_0 (hE : ∀ pe ∈ E, pe.1 < 0) (hK : ∀ k ∈ K, k.1 < 0) (h : Mk 1 S ((0, .inr (11, [.null, .null, .null, .null, .null, .null, .null, .null, .null, .null, .null, .null, .null, .null, .null, .retAddr 7, .int 0])) :: E) K s) (hq : ∀ s', Mk 80 (S + 15799) E ((18, 1, nI 1) :: (17, 1, nI 1) :: (16, 1, nI 1) :: K) s' → Q none (mR s')) : gE X (d + 3) 118 [.ref 0] (mR s) Q := by
  have m0 := h
  refine en118 rfl ?_
  refine g_p t118_0 rfl ?_
  refine g_oi t118_1 (Nat.le_of_ble_eq_true rfl) ?_
  refine g_p t118_4 rfl ?_
  refine r_new (e := .inr (4, [.null, .int 0])) t118_5 rfl ?_
  rw [m0.nx]
  refine g_p t118_8 rfl ?_
  refine g_k (n := 120) t118_9 rfl rfl ?_
  refine g_ci t118_11 rfl rfl rfl ?_
  refine c28 (s := wn s (.inr (4, [.null, .int 0])) 2) (p := 1) (m0.new (e := .inr (4, [.null, .int 0])) (n := 2)).h (m0.new (e := .inr (4, [.null, .int 0])) (n := 2)).nx (by decide) ?_
  refine k_0 ?_
  have m1_ := m0.num (m := 120) rfl rfl (by decide)
  generalize nmk (wn s (.inr (4, [.null, .int 0])) 2) 1 120 = s1_ at m1_ ⊢
  refine r_putr (f2 := [.ref 1, .null, .null, .null, .null, .null, .null, .null, .null, .null, .null, .null, .null, .null, .null, .retAddr 7, .int 0]) t118_14 m1_.h rfl rfl rfl rfl rfl ?_
  have m2_ := m1_.put (e := .inr (11, [.ref 1, .null, .null, .null, .null, .null, .null, .null, .null, .null, .null, .null, .null, .null, .null, .retAddr 7, .int 0])) hE
  generalize wr s1_ 0 (.inr (11, [.ref 1, .null, .null, .null, .null, .null, .null, .null, .null, .null, .null, .null, .null, .null, .null, .retAddr 7, .int 0])) = s2_ at m2_ ⊢
  refine g_p t118_17 rfl ?_
  refine r_new (e := .inr (8, [.retAddr 7, .int 0, .int 0, .int 0, .int 0, .int 0, .int 0, .int 0])) t118_18 rfl ?_
  rw [m2_.nx]
  have m3_ := m2_.new (e := .inr (8, [.retAddr 7, .int 0, .int 0, .int 0, .int 0, .int 0, .int 0, .int 0])) (n := 8)
  generalize wn s2_ (.inr (8, [.retAddr 7, .int 0, .int 0, .int 0, .int 0, .int 0, .int 0, .int 0])) 8 = s3_ at m3_ ⊢
  refine g_p t118_21 rfl ?_
  refine g_ci t118_22 rfl rfl rfl ?_
  refine m86_3 (mk_lt m3_ hE (by decide)) (mk_kt m3_ hK (by decide)) m3_ (fun s4_ m4_ => ?_)
  refine k_0 ?_
  refine r_putr (f2 := [.ref 1, .ref 3, .null, .null, .null, .null, .null, .null, .null, .null, .null, .null, .null, .null, .null, .retAddr 7, .int 0]) t118_25 m4_.h rfl rfl rfl rfl rfl ?_
  have m5_ := m4_.put (e := .inr (11, [.ref 1, .ref 3, .null, .null, .null, .null, .null, .null, .null, .null, .null, .null, .null, .null, .null, .retAddr 7, .int 0])) hE
  generalize wr s4_ 0 (.inr (11, [.ref 1, .ref 3, .null, .null, .null, .null, .null, .null, .null, .null, .null, .null, .null, .null, .null, .retAddr 7, .int 0])) = s5_ at m5_ ⊢
  refine g_p t118_28 rfl ?_
  refine r_new (e := .inr (2, [.retAddr 7, .int 0, .int 0, .int 0, .null])) t118_29 rfl ?_
  rw [m5_.nx]
  have m6_ := m5_.new (e := .inr (2, [.retAddr 7, .int 0, .int 0, .int 0, .null])) (n := 5)
  generalize wn s5_ (.inr (2, [.retAddr 7, .int 0, .int 0, .int 0, .null])) 5 = s6_ at m6_ ⊢
  refine g_p t118_32 rfl ?_
  refine g_ci t118_33 rfl rfl rfl ?_
  refine m11_4 (mk_lt m6_ hE (by decide)) (mk_kt m6_ hK (by decide)) m6_ (fun s7_ m7_ => ?_)
  refine k_0 ?_
  refine r_putr (f2 := [.ref 1, .ref 3, .ref 4, .null, .null, .null, .null, .null, .null, .null, .null, .null, .null, .null, .null, .retAddr 7, .int 0]) t118_36 m7_.h rfl rfl rfl rfl rfl ?_
  have m8_ := m7_.put (e := .inr (11, [.ref 1, .ref 3, .ref 4, .null, .null, .null, .null, .null, .null, .null, .null, .null, .null, .null, .null, .retAddr 7, .int 0])) hE
  generalize wr s7_ 0 (.inr (11, [.ref 1, .ref 3, .ref 4, .null, .null, .null, .null, .null, .null, .null, .null, .null, .null, .null, .null, .retAddr 7, .int 0])) = s8_ at m8_ ⊢
  refine g_p t118_39 rfl ?_
  refine r_new (e := .inr (10, [.retAddr 7, .int 0, .int 0, .int 0, .null])) t118_40 rfl ?_
  rw [m8_.nx]
  have m9_ := m8_.new (e := .inr (10, [.retAddr 7, .int 0, .int 0, .int 0, .null])) (n := 5)
  generalize wn s8_ (.inr (10, [.retAddr 7, .int 0, .int 0, .int 0, .null])) 5 = s9_ at m9_ ⊢
  refine g_p t118_43 rfl ?_
  refine g_ci t118_44 rfl rfl rfl ?_
  refine m115_12 (mk_lt m9_ hE (by decide)) (mk_kt m9_ hK (by decide)) m9_ (fun s10_ m10_ => ?_)
  refine k_0 ?_
  refine r_putr (f2 := [.ref 1, .ref 3, .ref 4, .ref 12, .null, .null, .null, .null, .null, .null, .null, .null, .null, .null, .null, .retAddr 7, .int 0]) t118_47 m10_.h rfl rfl rfl rfl rfl ?_
  have m11_ := m10_.put (e := .inr (11, [.ref 1, .ref 3, .ref 4, .ref 12, .null, .null, .null, .null, .null, .null, .null, .null, .null, .null, .null, .retAddr 7, .int 0])) hE
  generalize wr s10_ 0 (.inr (11, [.ref 1, .ref 3, .ref 4, .ref 12, .null, .null, .null, .null, .null, .null, .null, .null, .null, .null, .null, .retAddr 7, .int 0])) = s11_ at m11_ ⊢
  refine g_p t118_50 rfl ?_
  refine r_new (e := .inr (3, [.retAddr 7, .int 0, .int 0, .int 0, .int 0, .int 0, .int 0, .int 0, .int 0, .long 0])) t118_51 rfl ?_
  rw [m11_.nx]
  have m12_ := m11_.new (e := .inr (3, [.retAddr 7, .int 0, .int 0, .int 0, .int 0, .int 0, .int 0, .int 0, .int 0, .long 0])) (n := 10)
  generalize wn s11_ (.inr (3, [.retAddr 7, .int 0, .int 0, .int 0, .int 0, .int 0, .int 0, .int 0, .int 0, .long 0])) 10 = s12_ at m12_ ⊢
  refine g_p t118_54 rfl ?_
  refine g_ci t118_55 rfl rfl rfl ?_
  refine m16_15 (mk_lt m12_ hE (by decide)) (mk_kt m12_ hK (by decide)) m12_ (fun s13_ m13_ => ?_)
  refine k_0 ?_
  refine r_putr (f2 := [.ref 1, .ref 3, .ref 4, .ref 12, .ref 15, .null, .null, .null, .null, .null, .null, .null, .null, .null, .null, .retAddr 7, .int 0]) t118_58 m13_.h rfl rfl rfl rfl rfl ?_
  have m14_ := m13_.put (e := .inr (11, [.ref 1, .ref 3, .ref 4, .ref 12, .ref 15, .null, .null, .null, .null, .null, .null, .null, .null, .null, .null, .retAddr 7, .int 0])) hE
  generalize wr s13_ 0 (.inr (11, [.ref 1, .ref 3, .ref 4, .ref 12, .ref 15, .null, .null, .null, .null, .null, .null, .null, .null, .null, .null, .retAddr 7, .int 0])) = s14_ at m14_ ⊢
  refine g_p t118_61 rfl ?_
  refine r_new (e := .inr (0, [.int 0, .retAddr 7, .int 0])) t118_62 rfl ?_
  rw [m14_.nx]
  have m15_ := m14_.new (e := .inr (0, [.int 0, .retAddr 7, .int 0])) (n := 3)
  generalize wn s14_ (.inr (0, [.int 0, .retAddr 7, .int 0])) 3 = s15_ at m15_ ⊢
  refine g_p t118_65 rfl ?_
  refine g_ci t118_66 rfl rfl rfl ?_
  refine m275_16 (mk_lt m15_ hE (by decide)) (mk_kt m15_ hK (by decide)) m15_ (fun s16_ m16_ => ?_)
  refine k_0 ?_
  refine r_putr (f2 := [.ref 1, .ref 3, .ref 4, .ref 12, .ref 15, .ref 16, .null, .null, .null, .null, .null, .null, .null, .null, .null, .retAddr 7, .int 0]) t118_69 m16_.h rfl rfl rfl rfl rfl ?_
  have m17_ := m16_.put (e := .inr (11, [.ref 1, .ref 3, .ref 4, .ref 12, .ref 15, .ref 16, .null, .null, .null, .null, .null, .null, .null, .null, .null, .retAddr 7, .int 0])) hE
  generalize wr s16_ 0 (.inr (11, [.ref 1, .ref 3, .ref 4, .ref 12, .ref 15, .ref 16, .null, .null, .null, .null, .null, .null, .null, .null, .null, .retAddr 7, .int 0])) = s17_ at m17_ ⊢
  refine g_p t118_72 rfl ?_
  refine r_new (e := .inr (0, [.int 0, .retAddr 7, .int 0])) t118_73 rfl ?_
  rw [m17_.nx]
  have m18_ := m17_.new (e := .inr (0, [.int 0, .retAddr 7, .int 0])) (n := 3)
  generalize wn s17_ (.inr (0, [.int 0, .retAddr 7, .int 0])) 3 = s18_ at m18_ ⊢
  refine g_p t118_76 rfl ?_
  refine g_ci t118_77 rfl rfl rfl ?_
  refine m275_17 (mk_lt m18_ hE (by decide)) (mk_kc (mk_kt m18_ hK (by decide)) (by decide)) m18_ (fun s19_ m19_ => ?_)
  refine k_0 ?_
  refine r_putr (f2 := [.ref 1, .ref 3, .ref 4, .ref 12, .ref 15, .ref 16, .ref 17, .null, .null, .null, .null, .null, .null, .null, .null, .retAddr 7, .int 0]) t118_80 m19_.h rfl rfl rfl rfl rfl ?_
  have m20_ := m19_.put (e := .inr (11, [.ref 1, .ref 3, .ref 4, .ref 12, .ref 15, .ref 16, .ref 17, .null, .null, .null, .null, .null, .null, .null, .null, .retAddr 7, .int 0])) hE
  generalize wr s19_ 0 (.inr (11, [.ref 1, .ref 3, .ref 4, .ref 12, .ref 15, .ref 16, .ref 17, .null, .null, .null, .null, .null, .null, .null, .null, .retAddr 7, .int 0])) = s20_ at m20_ ⊢
  refine g_p t118_83 rfl ?_
  refine r_new (e := .inr (0, [.int 0, .retAddr 7, .int 0])) t118_84 rfl ?_
  rw [m20_.nx]
  have m21_ := m20_.new (e := .inr (0, [.int 0, .retAddr 7, .int 0])) (n := 3)
  generalize wn s20_ (.inr (0, [.int 0, .retAddr 7, .int 0])) 3 = s21_ at m21_ ⊢
  refine g_p t118_87 rfl ?_
  refine g_ci t118_88 rfl rfl rfl ?_
  refine m275_18 (mk_lt m21_ hE (by decide)) (mk_kc (mk_kc (mk_kt m21_ hK (by decide)) (by decide)) (by decide)) m21_ (fun s22_ m22_ => ?_)
  refine k_0 ?_
  refine r_putr (f2 := [.ref 1, .ref 3, .ref 4, .ref 12, .ref 15, .ref 16, .ref 17, .ref 18, .null, .null, .null, .null, .null, .null, .null, .retAddr 7, .int 0]) t118_91 m22_.h rfl rfl rfl rfl rfl ?_
  have m23_ := m22_.put (e := .inr (11, [.ref 1, .ref 3, .ref 4, .ref 12, .ref 15, .ref 16, .ref 17, .ref 18, .null, .null, .null, .null, .null, .null, .null, .retAddr 7, .int 0])) hE
  generalize wr s22_ 0 (.inr (11, [.ref 1, .ref 3, .ref 4, .ref 12, .ref 15, .ref 16, .ref 17, .ref 18, .null, .null, .null, .null, .null, .null, .null, .retAddr 7, .int 0])) = s23_ at m23_ ⊢
  refine g_p t118_94 rfl ?_
  refine r_new (e := .inr (7, [.int 0, .int 0, .null, .null, .null, .null, .null, .null])) t118_95 rfl ?_
  rw [m23_.nx]
  have m24_ := m23_.new (e := .inr (7, [.int 0, .int 0, .null, .null, .null, .null, .null, .null])) (n := 8)
  generalize wn s23_ (.inr (7, [.int 0, .int 0, .null, .null, .null, .null, .null, .null])) 8 = s24_ at m24_ ⊢
  refine g_p t118_98 rfl ?_
  refine g_ci t118_99 rfl rfl rfl ?_
  refine m69_19 (mk_lt m24_ hE (by decide)) (mk_kc (mk_kc (mk_kc (mk_kt m24_ hK (by decide)) (by decide)) (by decide)) (by decide)) m24_ (fun s25_ m25_ => ?_)
  refine k_0 ?_
  refine r_putr (f2 := [.ref 1, .ref 3, .ref 4, .ref 12, .ref 15, .ref 16, .ref 17, .ref 18, .ref 19, .null, .null, .null, .null, .null, .null, .retAddr 7, .int 0]) t118_102 m25_.h rfl rfl rfl rfl rfl ?_
  have m26_ := m25_.put (e := .inr (11, [.ref 1, .ref 3, .ref 4, .ref 12, .ref 15, .ref 16, .ref 17, .ref 18, .ref 19, .null, .null, .null, .null, .null, .null, .retAddr 7, .int 0])) hE
  generalize wr s25_ 0 (.inr (11, [.ref 1, .ref 3, .ref 4, .ref 12, .ref 15, .ref 16, .ref 17, .ref 18, .ref 19, .null, .null, .null, .null, .null, .null, .retAddr 7, .int 0])) = s26_ at m26_ ⊢
  refine g_p t118_105 rfl ?_
  refine r_new (e := .inr (9, [.null, .int 0, .int 0, .int 0, .int 0, .int 0, .int 0, .null, .null, .null, .null])) t118_106 rfl ?_
  rw [m26_.nx]
  have m27_ := m26_.new (e := .inr (9, [.null, .int 0, .int 0, .int 0, .int 0, .int 0, .int 0, .null, .null, .null, .null])) (n := 11)
  generalize wn s26_ (.inr (9, [.null, .int 0, .int 0, .int 0, .int 0, .int 0, .int 0, .null, .null, .null, .null])) 11 = s27_ at m27_ ⊢
  refine g_p t118_109 rfl ?_
  refine g_p t118_110 rfl ?_
  refine r_getr t118_111 m27_.h2 rfl rfl ?_
  refine g_ci t118_114 rfl rfl rfl ?_
  refine m93_32 (mk_lt m27_ hE (by decide)) (mk_kc (mk_kc (mk_kc (mk_kt m27_ hK (by decide)) (by decide)) (by decide)) (by decide)) m27_ (fun s28_ m28_ => ?_)
  refine k_0 ?_
  refine r_putr (f2 := [.ref 1, .ref 3, .ref 4, .ref 12, .ref 15, .ref 16, .ref 17, .ref 18, .ref 19, .ref 32, .null, .null, .null, .null, .null, .retAddr 7, .int 0]) t118_117 m28_.h rfl rfl rfl rfl rfl ?_
  have m29_ := m28_.put (e := .inr (11, [.ref 1, .ref 3, .ref 4, .ref 12, .ref 15, .ref 16, .ref 17, .ref 18, .ref 19, .ref 32, .null, .null, .null, .null, .null, .retAddr 7, .int 0])) hE
  generalize wr s28_ 0 (.inr (11, [.ref 1, .ref 3, .ref 4, .ref 12, .ref 15, .ref 16, .ref 17, .ref 18, .ref 19, .ref 32, .null, .null, .null, .null, .null, .retAddr 7, .int 0])) = s29_ at m29_ ⊢
  refine g_p t118_120 rfl ?_
  refine r_new (e := .inr (9, [.null, .int 0, .int 0, .int 0, .int 0, .int 0, .int 0, .null, .null, .null, .null])) t118_121 rfl ?_
  rw [m29_.nx]
  have m30_ := m29_.new (e := .inr (9, [.null, .int 0, .int 0, .int 0, .int 0, .int 0, .int 0, .null, .null, .null, .null])) (n := 11)
  generalize wn s29_ (.inr (9, [.null, .int 0, .int 0, .int 0, .int 0, .int 0, .int 0, .null, .null, .null, .null])) 11 = s30_ at m30_ ⊢
  refine g_p t118_124 rfl ?_
  refine g_p t118_125 rfl ?_
  refine r_getr t118_126 m30_.h2 rfl rfl ?_
  refine g_ci t118_129 rfl rfl rfl ?_
  refine m93_41 (mk_lt m30_ hE (by decide)) (mk_kc (mk_kc (mk_kc (mk_kt m30_ hK (by decide)) (by decide)) (by decide)) (by decide)) m30_ (fun s31_ m31_ => ?_)
  refine k_0 ?_
  refine r_putr (f2 := [.ref 1, .ref 3, .ref 4, .ref 12, .ref 15, .ref 16, .ref 17, .ref 18, .ref 19, .ref 32, .ref 41, .null, .null, .null, .null, .retAddr 7, .int 0]) t118_132 m31_.h rfl rfl rfl rfl rfl ?_
  have m32_ := m31_.put (e := .inr (11, [.ref 1, .ref 3, .ref 4, .ref 12, .ref 15, .ref 16, .ref 17, .ref 18, .ref 19, .ref 32, .ref 41, .null, .null, .null, .null, .retAddr 7, .int 0])) hE
  generalize wr s31_ 0 (.inr (11, [.ref 1, .ref 3, .ref 4, .ref 12, .ref 15, .ref 16, .ref 17, .ref 18, .ref 19, .ref 32, .ref 41, .null, .null, .null, .null, .retAddr 7, .int 0])) = s32_ at m32_ ⊢
  refine g_p t118_135 rfl ?_
  refine r_new (e := .inr (6, [.null, .null, .null, .null, .null, .null, .null])) t118_136 rfl ?_
  rw [m32_.nx]
  have m33_ := m32_.new (e := .inr (6, [.null, .null, .null, .null, .null, .null, .null])) (n := 7)
  generalize wn s32_ (.inr (6, [.null, .null, .null, .null, .null, .null, .null])) 7 = s33_ at m33_ ⊢
  refine g_p t118_139 rfl ?_
  refine g_p t118_140 rfl ?_
  refine r_getr t118_141 m33_.h2 rfl rfl ?_
  refine g_p t118_144 rfl ?_
  refine r_getr t118_145 m33_.h2 rfl rfl ?_
  refine g_ci t118_148 rfl rfl rfl ?_
  refine m61_50 (mk_lt m33_ hE (by decide)) (mk_kc (mk_kc (mk_kc (mk_kt m33_ hK (by decide)) (by decide)) (by decide)) (by decide)) m33_ (fun s34_ m34_ => ?_)
  refine k_0 ?_
  refine r_putr (f2 := [.ref 1, .ref 3, .ref 4, .ref 12, .ref 15, .ref 16, .ref 17, .ref 18, .ref 19, .ref 32, .ref 41, .ref 50, .null, .null, .null, .retAddr 7, .int 0]) t118_151 m34_.h rfl rfl rfl rfl rfl ?_
  have m35_ := m34_.put (e := .inr (11, [.ref 1, .ref 3, .ref 4, .ref 12, .ref 15, .ref 16, .ref 17, .ref 18, .ref 19, .ref 32, .ref 41, .ref 50, .null, .null, .null, .retAddr 7, .int 0])) hE
  generalize wr s34_ 0 (.inr (11, [.ref 1, .ref 3, .ref 4, .ref 12, .ref 15, .ref 16, .ref 17, .ref 18, .ref 19, .ref 32, .ref 41, .ref 50, .null, .null, .null, .retAddr 7, .int 0])) = s35_ at m35_ ⊢
  refine g_p t118_154 rfl ?_
  refine r_new (e := .inr (5, [.null, .null, .null, .null, .null, .null, .null, .null, .null, .null, .null])) t118_155 rfl ?_
  rw [m35_.nx]
  have m36_ := m35_.new (e := .inr (5, [.null, .null, .null, .null, .null, .null, .null, .null, .null, .null, .null])) (n := 11)
  generalize wn s35_ (.inr (5, [.null, .null, .null, .null, .null, .null, .null, .null, .null, .null, .null])) 11 = s36_ at m36_ ⊢
  refine g_p t118_158 rfl ?_
  refine g_p t118_159 rfl ?_
  refine r_getr t118_160 m36_.h2 rfl rfl ?_
  refine g_p t118_163 rfl ?_
  refine r_getr t118_164 m36_.h2 rfl rfl ?_
  refine g_p t118_167 rfl ?_
  refine r_getr t118_168 m36_.h2 rfl rfl ?_
  refine g_ci t118_171 rfl rfl rfl ?_
  refine m37_61 (mk_lt m36_ hE (by decide)) (mk_kc (mk_kc (mk_kc (mk_kt m36_ hK (by decide)) (by decide)) (by decide)) (by decide)) m36_ (fun s37_ m37_ => ?_)
  refine k_0 ?_
  refine r_putr (f2 := [.ref 1, .ref 3, .ref 4, .ref 12, .ref 15, .ref 16, .ref 17, .ref 18, .ref 19, .ref 32, .ref 41, .ref 50, .ref 61, .null, .null, .retAddr 7, .int 0]) t118_174 m37_.h rfl rfl rfl rfl rfl ?_
  have m38_ := m37_.put (e := .inr (11, [.ref 1, .ref 3, .ref 4, .ref 12, .ref 15, .ref 16, .ref 17, .ref 18, .ref 19, .ref 32, .ref 41, .ref 50, .ref 61, .null, .null, .retAddr 7, .int 0])) hE
  generalize wr s37_ 0 (.inr (11, [.ref 1, .ref 3, .ref 4, .ref 12, .ref 15, .ref 16, .ref 17, .ref 18, .ref 19, .ref 32, .ref 41, .ref 50, .ref 61, .null, .null, .retAddr 7, .int 0])) = s38_ at m38_ ⊢
  refine g_p t118_177 rfl ?_
  refine r_new (e := .inr (4, [.null, .int 0])) t118_178 rfl ?_
  rw [m38_.nx]
  refine g_p t118_181 rfl ?_
  refine g_k (n := 12) t118_182 rfl rfl ?_
  refine g_ci t118_184 rfl rfl rfl ?_
  refine c28 (s := wn s38_ (.inr (4, [.null, .int 0])) 2) (p := 76) (m38_.new (e := .inr (4, [.null, .int 0])) (n := 2)).h (m38_.new (e := .inr (4, [.null, .int 0])) (n := 2)).nx (by decide) ?_
  refine k_0 ?_
  have m39_ := m38_.num (m := 12) rfl rfl (by decide)
  generalize nmk (wn s38_ (.inr (4, [.null, .int 0])) 2) 76 12 = s39_ at m39_ ⊢
  refine r_putr (f2 := [.ref 1, .ref 3, .ref 4, .ref 12, .ref 15, .ref 16, .ref 17, .ref 18, .ref 19, .ref 32, .ref 41, .ref 50, .ref 61, .ref 76, .null, .retAddr 7, .int 0]) t118_187 m39_.h rfl rfl rfl rfl rfl ?_
  have m40_ := m39_.put (e := .inr (11, [.ref 1, .ref 3, .ref 4, .ref 12, .ref 15, .ref 16, .ref 17, .ref 18, .ref 19, .ref 32, .ref 41, .ref 50, .ref 61, .ref 76, .null, .retAddr 7, .int 0])) hE
  generalize wr s39_ 0 (.inr (11, [.ref 1, .ref 3, .ref 4, .ref 12, .ref 15, .ref 16, .ref 17, .ref 18, .ref 19, .ref 32, .ref 41, .ref 50, .ref 61, .ref 76, .null, .retAddr 7, .int 0])) = s40_ at m40_ ⊢
  refine g_p t118_190 rfl ?_
  refine r_new (e := .inr (4, [.null, .int 0])) t118_191 rfl ?_
  rw [m40_.nx]
  refine g_p t118_194 rfl ?_
  refine g_k (n := 12) t118_195 rfl rfl ?_
  refine g_ci t118_197 rfl rfl rfl ?_
  refine c28 (s := wn s40_ (.inr (4, [.null, .int 0])) 2) (p := 78) (m40_.new (e := .inr (4, [.null, .int 0])) (n := 2)).h (m40_.new (e := .inr (4, [.null, .int 0])) (n := 2)).nx (by decide) ?_
  refine k_0 ?_
  have m41_ := m40_.num (m := 12) rfl rfl (by decide)
  generalize nmk (wn s40_ (.inr (4, [.null, .int 0])) 2) 78 12 = s41_ at m41_ ⊢
  refine r_putr (f2 := [.ref 1, .ref 3, .ref 4, .ref 12, .ref 15, .ref 16, .ref 17, .ref 18, .ref 19, .ref 32, .ref 41, .ref 50, .ref 61, .ref 76, .ref 78, .retAddr 7, .int 0]) t118_200 m41_.h rfl rfl rfl rfl rfl ?_
  have m42_ := m41_.put (e := .inr (11, [.ref 1, .ref 3, .ref 4, .ref 12, .ref 15, .ref 16, .ref 17, .ref 18, .ref 19, .ref 32, .ref 41, .ref 50, .ref 61, .ref 76, .ref 78, .retAddr 7, .int 0])) hE
  generalize wr s41_ 0 (.inr (11, [.ref 1, .ref 3, .ref 4, .ref 12, .ref 15, .ref 16, .ref 17, .ref 18, .ref 19, .ref 32, .ref 41, .ref 50, .ref 61, .ref 76, .ref 78, .retAddr 7, .int 0])) = s42_ at m42_ ⊢
  refine g_p t118_203 rfl ?_
  refine g_p t118_204 rfl ?_
  refine r_putq (a := nI 0) t118_205 m42_.h rfl rfl rfl ?_
  have m43_ := m42_.wx (p := 0) (i := 15) (v := nI 0) (Or.inl rfl) (mk_kd (mk_kd (mk_kd (mk_k hK) (by decide)) (by decide)) (by decide))
  generalize wi s42_ 0 15 (nI 0) = s43_ at m43_ ⊢
  refine g_p t118_208 rfl ?_
  refine g_k (n := 0) t118_209 rfl rfl ?_
  refine r_putz t118_210 m43_.h rfl rfl rfl ?_
  have m44_ := m43_.wx (p := 0) (i := 16) (v := nI 0) (Or.inl rfl) (mk_kd (mk_kd (mk_kd (mk_k hK) (by decide)) (by decide)) (by decide))
  generalize wi s43_ 0 16 (nI 0) = s44_ at m44_ ⊢
  exact v_ret t118_213 (hq s44_ ((m44_.pop rfl).sl (by omega)))
theorem m174_80 (hE : ∀ pe ∈ E, pe.1 < 80) (hK : ∀ k ∈ K, k.1 < 80) (h : Mk 81 S ((80, .inr (12, [.int 0, .null, .null, .null, .null, .retAddr 7, .int 0, .int 0, .int 0, .int 0, .int 0, .int 0, .int 0, .int 0, .int 0, .null, .null, .int 0, .null, .null, .int 0, .int 0, .int 0, .int 0, .null, .null, .null, .null, .int 0, .null, .null, .int 0, .int 0, .int 0, .int 0, .int 0, .null, .null, .null, .null, .int 0, .null, .int 0, .int 0, .null, .null, .null, .null, .null, .null, .null, .null, .null, .int 0, .null, .null, .null, .null, .int 0, .null, .null, .int 0, .int 0, .int 0, .int 0])) :: E) K s) (hq : ∀ s', Mk 113 (S + 67992) E ((80, 32, (-1)) :: (80, 5, nI 83) :: K) s' → Q none (mR s')) : gE X d 174 [.ref 80] (mR s) Q := by
  have m0 := h
  refine en174 rfl ?_
  refine g_p t174_0 rfl ?_
  refine g_oi t174_1 (Nat.le_of_ble_eq_true rfl) ?_
  refine g_p t174_4 rfl ?_
  refine g_k (n := 120) t174_5 rfl rfl ?_
  refine r_newi t174_7 (by decide) (by decide) ?_
  rw [m0.nx]
  have m1_ := m0.row (e := .inl (1, 120, .inl (fun _ => 0))) (n := 120) rfl
  generalize wn s (.inl (1, 120, .inl (fun _ => 0))) 120 = s1_ at m1_ ⊢
  refine r_putr (f2 := [.int 0, .ref 81, .null, .null, .null, .retAddr 7, .int 0, .int 0, .int 0, .int 0, .int 0, .int 0, .int 0, .int 0, .int 0, .null, .null, .int 0, .null, .null, .int 0, .int 0, .int 0, .int 0, .null, .null, .null, .null, .int 0, .null, .null, .int 0, .int 0, .int 0, .int 0, .int 0, .null, .null, .null, .null, .int 0, .null, .int 0, .int 0, .null, .null, .null, .null, .null, .null, .null, .null, .null, .int 0, .null, .null, .null, .null, .int 0, .null, .null, .int 0, .int 0, .int 0, .int 0]) t174_9 m1_.h rfl rfl rfl rfl rfl ?_
  have m2_ := m1_.put (e := .inr (12, [.int 0, .ref 81, .null, .null, .null, .retAddr 7, .int 0, .int 0, .int 0, .int 0, .int 0, .int 0, .int 0, .int 0, .int 0, .null, .null, .int 0, .null, .null, .int 0, .int 0, .int 0, .int 0, .null, .null, .null, .null, .int 0, .null, .null, .int 0, .int 0, .int 0, .int 0, .int 0, .null, .null, .null, .null, .int 0, .null, .int 0, .int 0, .null, .null, .null, .null, .null, .null, .null, .null, .null, .int 0, .null, .null, .null, .null, .int 0, .null, .null, .int 0, .int 0, .int 0, .int 0])) hE
  generalize wr s1_ 80 (.inr (12, [.int 0, .ref 81, .null, .null, .null, .retAddr 7, .int 0, .int 0, .int 0, .int 0, .int 0, .int 0, .int 0, .int 0, .int 0, .null, .null, .int 0, .null, .null, .int 0, .int 0, .int 0, .int 0, .null, .null, .null, .null, .int 0, .null, .null, .int 0, .int 0, .int 0, .int 0, .int 0, .null, .null, .null, .null, .int 0, .null, .int 0, .int 0, .null, .null, .null, .null, .null, .null, .null, .null, .null, .int 0, .null, .null, .null, .null, .int 0, .null, .null, .int 0, .int 0, .int 0, .int 0])) = s2_ at m2_ ⊢
  refine g_p t174_12 rfl ?_
  refine g_k (n := 480) t174_13 rfl rfl ?_
  refine r_newi t174_16 (by decide) (by decide) ?_
  rw [m2_.nx]
  have m3_ := m2_.row (e := .inl (1, 480, .inl (fun _ => 0))) (n := 480) rfl
  generalize wn s2_ (.inl (1, 480, .inl (fun _ => 0))) 480 = s3_ at m3_ ⊢
  refine r_putr (f2 := [.int 0, .ref 81, .ref 82, .null, .null, .retAddr 7, .int 0, .int 0, .int 0, .int 0, .int 0, .int 0, .int 0, .int 0, .int 0, .null, .null, .int 0, .null, .null, .int 0, .int 0, .int 0, .int 0, .null, .null, .null, .null, .int 0, .null, .null, .int 0, .int 0, .int 0, .int 0, .int 0, .null, .null, .null, .null, .int 0, .null, .int 0, .int 0, .null, .null, .null, .null, .null, .null, .null, .null, .null, .int 0, .null, .null, .null, .null, .int 0, .null, .null, .int 0, .int 0, .int 0, .int 0]) t174_18 m3_.h rfl rfl rfl rfl rfl ?_
  have m4_ := m3_.put (e := .inr (12, [.int 0, .ref 81, .ref 82, .null, .null, .retAddr 7, .int 0, .int 0, .int 0, .int 0, .int 0, .int 0, .int 0, .int 0, .int 0, .null, .null, .int 0, .null, .null, .int 0, .int 0, .int 0, .int 0, .null, .null, .null, .null, .int 0, .null, .null, .int 0, .int 0, .int 0, .int 0, .int 0, .null, .null, .null, .null, .int 0, .null, .int 0, .int 0, .null, .null, .null, .null, .null, .null, .null, .null, .null, .int 0, .null, .null, .null, .null, .int 0, .null, .null, .int 0, .int 0, .int 0, .int 0])) hE
  generalize wr s3_ 80 (.inr (12, [.int 0, .ref 81, .ref 82, .null, .null, .retAddr 7, .int 0, .int 0, .int 0, .int 0, .int 0, .int 0, .int 0, .int 0, .int 0, .null, .null, .int 0, .null, .null, .int 0, .int 0, .int 0, .int 0, .null, .null, .null, .null, .int 0, .null, .null, .int 0, .int 0, .int 0, .int 0, .int 0, .null, .null, .null, .null, .int 0, .null, .int 0, .int 0, .null, .null, .null, .null, .null, .null, .null, .null, .null, .int 0, .null, .null, .null, .null, .int 0, .null, .null, .int 0, .int 0, .int 0, .int 0])) = s4_ at m4_ ⊢
  refine g_p t174_21 rfl ?_
  refine g_k (n := 4) t174_22 rfl rfl ?_
  refine r_newi t174_23 (by decide) (by decide) ?_
  rw [m4_.nx]
  have m5_ := m4_.row (e := .inl (0, 4, .inl (fun _ => 0))) (n := 4) rfl
  generalize wn s4_ (.inl (0, 4, .inl (fun _ => 0))) 4 = s5_ at m5_ ⊢
  refine r_putr (f2 := [.int 0, .ref 81, .ref 82, .ref 83, .null, .retAddr 7, .int 0, .int 0, .int 0, .int 0, .int 0, .int 0, .int 0, .int 0, .int 0, .null, .null, .int 0, .null, .null, .int 0, .int 0, .int 0, .int 0, .null, .null, .null, .null, .int 0, .null, .null, .int 0, .int 0, .int 0, .int 0, .int 0, .null, .null, .null, .null, .int 0, .null, .int 0, .int 0, .null, .null, .null, .null, .null, .null, .null, .null, .null, .int 0, .null, .null, .null, .null, .int 0, .null, .null, .int 0, .int 0, .int 0, .int 0]) t174_25 m5_.h rfl rfl rfl rfl rfl ?_
  have m6_ := m5_.put (e := .inr (12, [.int 0, .ref 81, .ref 82, .ref 83, .null, .retAddr 7, .int 0, .int 0, .int 0, .int 0, .int 0, .int 0, .int 0, .int 0, .int 0, .null, .null, .int 0, .null, .null, .int 0, .int 0, .int 0, .int 0, .null, .null, .null, .null, .int 0, .null, .null, .int 0, .int 0, .int 0, .int 0, .int 0, .null, .null, .null, .null, .int 0, .null, .int 0, .int 0, .null, .null, .null, .null, .null, .null, .null, .null, .null, .int 0, .null, .null, .null, .null, .int 0, .null, .null, .int 0, .int 0, .int 0, .int 0])) hE
  generalize wr s5_ 80 (.inr (12, [.int 0, .ref 81, .ref 82, .ref 83, .null, .retAddr 7, .int 0, .int 0, .int 0, .int 0, .int 0, .int 0, .int 0, .int 0, .int 0, .null, .null, .int 0, .null, .null, .int 0, .int 0, .int 0, .int 0, .null, .null, .null, .null, .int 0, .null, .null, .int 0, .int 0, .int 0, .int 0, .int 0, .null, .null, .null, .null, .int 0, .null, .int 0, .int 0, .null, .null, .null, .null, .null, .null, .null, .null, .null, .int 0, .null, .null, .null, .null, .int 0, .null, .null, .int 0, .int 0, .int 0, .int 0])) = s6_ at m6_ ⊢
  refine g_p t174_28 rfl ?_
  refine g_k (n := 128) t174_29 rfl rfl ?_
  refine r_newi t174_32 (by decide) (by decide) ?_
  rw [m6_.nx]
  have m7_ := m6_.row (e := .inl (0, 128, .inl (fun _ => 0))) (n := 128) rfl
  generalize wn s6_ (.inl (0, 128, .inl (fun _ => 0))) 128 = s7_ at m7_ ⊢
  refine r_putr (f2 := [.int 0, .ref 81, .ref 82, .ref 83, .ref 84, .retAddr 7, .int 0, .int 0, .int 0, .int 0, .int 0, .int 0, .int 0, .int 0, .int 0, .null, .null, .int 0, .null, .null, .int 0, .int 0, .int 0, .int 0, .null, .null, .null, .null, .int 0, .null, .null, .int 0, .int 0, .int 0, .int 0, .int 0, .null, .null, .null, .null, .int 0, .null, .int 0, .int 0, .null, .null, .null, .null, .null, .null, .null, .null, .null, .int 0, .null, .null, .null, .null, .int 0, .null, .null, .int 0, .int 0, .int 0, .int 0]) t174_34 m7_.h rfl rfl rfl rfl rfl ?_
  have m8_ := m7_.put (e := .inr (12, [.int 0, .ref 81, .ref 82, .ref 83, .ref 84, .retAddr 7, .int 0, .int 0, .int 0, .int 0, .int 0, .int 0, .int 0, .int 0, .int 0, .null, .null, .int 0, .null, .null, .int 0, .int 0, .int 0, .int 0, .null, .null, .null, .null, .int 0, .null, .null, .int 0, .int 0, .int 0, .int 0, .int 0, .null, .null, .null, .null, .int 0, .null, .int 0, .int 0, .null, .null, .null, .null, .null, .null, .null, .null, .null, .int 0, .null, .null, .null, .null, .int 0, .null, .null, .int 0, .int 0, .int 0, .int 0])) hE
  generalize wr s7_ 80 (.inr (12, [.int 0, .ref 81, .ref 82, .ref 83, .ref 84, .retAddr 7, .int 0, .int 0, .int 0, .int 0, .int 0, .int 0, .int 0, .int 0, .int 0, .null, .null, .int 0, .null, .null, .int 0, .int 0, .int 0, .int 0, .null, .null, .null, .null, .int 0, .null, .null, .int 0, .int 0, .int 0, .int 0, .int 0, .null, .null, .null, .null, .int 0, .null, .int 0, .int 0, .null, .null, .null, .null, .null, .null, .null, .null, .null, .int 0, .null, .null, .null, .null, .int 0, .null, .null, .int 0, .int 0, .int 0, .int 0])) = s8_ at m8_ ⊢
  refine g_p t174_37 rfl ?_
  refine g_p t174_38 rfl ?_
  refine r_getr t174_39 m8_.h rfl rfl ?_
  refine r_putq (a := nI 83) t174_42 m8_.h rfl rfl rfl ?_
  have m9_ := m8_.wk (p := 80) (i := 5) (v := nI 83) (by decide) (by decide) (mk_k hK)
  generalize wi s8_ 80 5 (nI 83) = s9_ at m9_ ⊢
  refine g_p t174_45 rfl ?_
  refine g_h t174_46 rfl ?_
  refine r_putr (f2 := [.int 0, .ref 81, .ref 82, .ref 83, .ref 84, .retAddr 7, .int 0, .int 0, .int 0, .int 0, .int 0, .int 0, .int 0, .int 0, .int 0, .retAddr 2, .null, .int 0, .null, .null, .int 0, .int 0, .int 0, .int 0, .null, .null, .null, .null, .int 0, .null, .null, .int 0, .int 0, .int 0, .int 0, .int 0, .null, .null, .null, .null, .int 0, .null, .int 0, .int 0, .null, .null, .null, .null, .null, .null, .null, .null, .null, .int 0, .null, .null, .null, .null, .int 0, .null, .null, .int 0, .int 0, .int 0, .int 0]) t174_48 m9_.h rfl rfl rfl rfl rfl ?_
  have m10_ := m9_.put (e := .inr (12, [.int 0, .ref 81, .ref 82, .ref 83, .ref 84, .retAddr 7, .int 0, .int 0, .int 0, .int 0, .int 0, .int 0, .int 0, .int 0, .int 0, .retAddr 2, .null, .int 0, .null, .null, .int 0, .int 0, .int 0, .int 0, .null, .null, .null, .null, .int 0, .null, .null, .int 0, .int 0, .int 0, .int 0, .int 0, .null, .null, .null, .null, .int 0, .null, .int 0, .int 0, .null, .null, .null, .null, .null, .null, .null, .null, .null, .int 0, .null, .null, .null, .null, .int 0, .null, .null, .int 0, .int 0, .int 0, .int 0])) hE
  generalize wr s9_ 80 (.inr (12, [.int 0, .ref 81, .ref 82, .ref 83, .ref 84, .retAddr 7, .int 0, .int 0, .int 0, .int 0, .int 0, .int 0, .int 0, .int 0, .int 0, .retAddr 2, .null, .int 0, .null, .null, .int 0, .int 0, .int 0, .int 0, .null, .null, .null, .null, .int 0, .null, .null, .int 0, .int 0, .int 0, .int 0, .int 0, .null, .null, .null, .null, .int 0, .null, .int 0, .int 0, .null, .null, .null, .null, .null, .null, .null, .null, .null, .int 0, .null, .null, .null, .null, .int 0, .null, .null, .int 0, .int 0, .int 0, .int 0])) = s10_ at m10_ ⊢
  refine g_p t174_51 rfl ?_
  refine g_h t174_52 rfl ?_
  refine r_putr (f2 := [.int 0, .ref 81, .ref 82, .ref 83, .ref 84, .retAddr 7, .int 0, .int 0, .int 0, .int 0, .int 0, .int 0, .int 0, .int 0, .int 0, .retAddr 2, .retAddr 3, .int 0, .null, .null, .int 0, .int 0, .int 0, .int 0, .null, .null, .null, .null, .int 0, .null, .null, .int 0, .int 0, .int 0, .int 0, .int 0, .null, .null, .null, .null, .int 0, .null, .int 0, .int 0, .null, .null, .null, .null, .null, .null, .null, .null, .null, .int 0, .null, .null, .null, .null, .int 0, .null, .null, .int 0, .int 0, .int 0, .int 0]) t174_54 m10_.h rfl rfl rfl rfl rfl ?_
  have m11_ := m10_.put (e := .inr (12, [.int 0, .ref 81, .ref 82, .ref 83, .ref 84, .retAddr 7, .int 0, .int 0, .int 0, .int 0, .int 0, .int 0, .int 0, .int 0, .int 0, .retAddr 2, .retAddr 3, .int 0, .null, .null, .int 0, .int 0, .int 0, .int 0, .null, .null, .null, .null, .int 0, .null, .null, .int 0, .int 0, .int 0, .int 0, .int 0, .null, .null, .null, .null, .int 0, .null, .int 0, .int 0, .null, .null, .null, .null, .null, .null, .null, .null, .null, .int 0, .null, .null, .null, .null, .int 0, .null, .null, .int 0, .int 0, .int 0, .int 0])) hE
  generalize wr s10_ 80 (.inr (12, [.int 0, .ref 81, .ref 82, .ref 83, .ref 84, .retAddr 7, .int 0, .int 0, .int 0, .int 0, .int 0, .int 0, .int 0, .int 0, .int 0, .retAddr 2, .retAddr 3, .int 0, .null, .null, .int 0, .int 0, .int 0, .int 0, .null, .null, .null, .null, .int 0, .null, .null, .int 0, .int 0, .int 0, .int 0, .int 0, .null, .null, .null, .null, .int 0, .null, .int 0, .int 0, .null, .null, .null, .null, .null, .null, .null, .null, .null, .int 0, .null, .null, .null, .null, .int 0, .null, .null, .int 0, .int 0, .int 0, .int 0])) = s11_ at m11_ ⊢
  refine g_p t174_57 rfl ?_
  refine g_k (n := 3) t174_58 rfl rfl ?_
  refine r_newi t174_59 (by decide) (by decide) ?_
  rw [m11_.nx]
  have m12_ := m11_.row (e := .inl (0, 3, .inl (fun _ => 0))) (n := 3) rfl
  generalize wn s11_ (.inl (0, 3, .inl (fun _ => 0))) 3 = s12_ at m12_ ⊢
  refine r_putr (f2 := [.int 0, .ref 81, .ref 82, .ref 83, .ref 84, .retAddr 7, .int 0, .int 0, .int 0, .int 0, .int 0, .int 0, .int 0, .int 0, .int 0, .retAddr 2, .retAddr 3, .int 0, .ref 85, .null, .int 0, .int 0, .int 0, .int 0, .null, .null, .null, .null, .int 0, .null, .null, .int 0, .int 0, .int 0, .int 0, .int 0, .null, .null, .null, .null, .int 0, .null, .int 0, .int 0, .null, .null, .null, .null, .null, .null, .null, .null, .null, .int 0, .null, .null, .null, .null, .int 0, .null, .null, .int 0, .int 0, .int 0, .int 0]) t174_61 m12_.h rfl rfl rfl rfl rfl ?_
  have m13_ := m12_.put (e := .inr (12, [.int 0, .ref 81, .ref 82, .ref 83, .ref 84, .retAddr 7, .int 0, .int 0, .int 0, .int 0, .int 0, .int 0, .int 0, .int 0, .int 0, .retAddr 2, .retAddr 3, .int 0, .ref 85, .null, .int 0, .int 0, .int 0, .int 0, .null, .null, .null, .null, .int 0, .null, .null, .int 0, .int 0, .int 0, .int 0, .int 0, .null, .null, .null, .null, .int 0, .null, .int 0, .int 0, .null, .null, .null, .null, .null, .null, .null, .null, .null, .int 0, .null, .null, .null, .null, .int 0, .null, .null, .int 0, .int 0, .int 0, .int 0])) hE
  generalize wr s12_ 80 (.inr (12, [.int 0, .ref 81, .ref 82, .ref 83, .ref 84, .retAddr 7, .int 0, .int 0, .int 0, .int 0, .int 0, .int 0, .int 0, .int 0, .int 0, .retAddr 2, .retAddr 3, .int 0, .ref 85, .null, .int 0, .int 0, .int 0, .int 0, .null, .null, .null, .null, .int 0, .null, .null, .int 0, .int 0, .int 0, .int 0, .int 0, .null, .null, .null, .null, .int 0, .null, .int 0, .int 0, .null, .null, .null, .null, .null, .null, .null, .null, .null, .int 0, .null, .null, .null, .null, .int 0, .null, .null, .int 0, .int 0, .int 0, .int 0])) = s13_ at m13_ ⊢
  refine g_p t174_64 rfl ?_
  refine g_k (n := 3) t174_65 rfl rfl ?_
  refine r_newi t174_66 (by decide) (by decide) ?_
  rw [m13_.nx]
  have m14_ := m13_.row (e := .inl (0, 3, .inl (fun _ => 0))) (n := 3) rfl
  generalize wn s13_ (.inl (0, 3, .inl (fun _ => 0))) 3 = s14_ at m14_ ⊢
  refine r_putr (f2 := [.int 0, .ref 81, .ref 82, .ref 83, .ref 84, .retAddr 7, .int 0, .int 0, .int 0, .int 0, .int 0, .int 0, .int 0, .int 0, .int 0, .retAddr 2, .retAddr 3, .int 0, .ref 85, .ref 86, .int 0, .int 0, .int 0, .int 0, .null, .null, .null, .null, .int 0, .null, .null, .int 0, .int 0, .int 0, .int 0, .int 0, .null, .null, .null, .null, .int 0, .null, .int 0, .int 0, .null, .null, .null, .null, .null, .null, .null, .null, .null, .int 0, .null, .null, .null, .null, .int 0, .null, .null, .int 0, .int 0, .int 0, .int 0]) t174_68 m14_.h rfl rfl rfl rfl rfl ?_
  have m15_ := m14_.put (e := .inr (12, [.int 0, .ref 81, .ref 82, .ref 83, .ref 84, .retAddr 7, .int 0, .int 0, .int 0, .int 0, .int 0, .int 0, .int 0, .int 0, .int 0, .retAddr 2, .retAddr 3, .int 0, .ref 85, .ref 86, .int 0, .int 0, .int 0, .int 0, .null, .null, .null, .null, .int 0, .null, .null, .int 0, .int 0, .int 0, .int 0, .int 0, .null, .null, .null, .null, .int 0, .null, .int 0, .int 0, .null, .null, .null, .null, .null, .null, .null, .null, .null, .int 0, .null, .null, .null, .null, .int 0, .null, .null, .int 0, .int 0, .int 0, .int 0])) hE
  generalize wr s14_ 80 (.inr (12, [.int 0, .ref 81, .ref 82, .ref 83, .ref 84, .retAddr 7, .int 0, .int 0, .int 0, .int 0, .int 0, .int 0, .int 0, .int 0, .int 0, .retAddr 2, .retAddr 3, .int 0, .ref 85, .ref 86, .int 0, .int 0, .int 0, .int 0, .null, .null, .null, .null, .int 0, .null, .null, .int 0, .int 0, .int 0, .int 0, .int 0, .null, .null, .null, .null, .int 0, .null, .int 0, .int 0, .null, .null, .null, .null, .null, .null, .null, .null, .null, .int 0, .null, .null, .null, .null, .int 0, .null, .null, .int 0, .int 0, .int 0, .int 0])) = s15_ at m15_ ⊢
  refine g_p t174_71 rfl ?_
  refine g_k (n := 32) t174_72 rfl rfl ?_
  refine r_newi t174_74 (by decide) (by decide) ?_
  rw [m15_.nx]
  have m16_ := m15_.row (e := .inl (0, 32, .inl (fun _ => 0))) (n := 32) rfl
  generalize wn s15_ (.inl (0, 32, .inl (fun _ => 0))) 32 = s16_ at m16_ ⊢
  refine r_putr (f2 := [.int 0, .ref 81, .ref 82, .ref 83, .ref 84, .retAddr 7, .int 0, .int 0, .int 0, .int 0, .int 0, .int 0, .int 0, .int 0, .int 0, .retAddr 2, .retAddr 3, .int 0, .ref 85, .ref 86, .int 0, .int 0, .int 0, .int 0, .ref 87, .null, .null, .null, .int 0, .null, .null, .int 0, .int 0, .int 0, .int 0, .int 0, .null, .null, .null, .null, .int 0, .null, .int 0, .int 0, .null, .null, .null, .null, .null, .null, .null, .null, .null, .int 0, .null, .null, .null, .null, .int 0, .null, .null, .int 0, .int 0, .int 0, .int 0]) t174_76 m16_.h rfl rfl rfl rfl rfl ?_
  have m17_ := m16_.put (e := .inr (12, [.int 0, .ref 81, .ref 82, .ref 83, .ref 84, .retAddr 7, .int 0, .int 0, .int 0, .int 0, .int 0, .int 0, .int 0, .int 0, .int 0, .retAddr 2, .retAddr 3, .int 0, .ref 85, .ref 86, .int 0, .int 0, .int 0, .int 0, .ref 87, .null, .null, .null, .int 0, .null, .null, .int 0, .int 0, .int 0, .int 0, .int 0, .null, .null, .null, .null, .int 0, .null, .int 0, .int 0, .null, .null, .null, .null, .null, .null, .null, .null, .null, .int 0, .null, .null, .null, .null, .int 0, .null, .null, .int 0, .int 0, .int 0, .int 0])) hE
  generalize wr s16_ 80 (.inr (12, [.int 0, .ref 81, .ref 82, .ref 83, .ref 84, .retAddr 7, .int 0, .int 0, .int 0, .int 0, .int 0, .int 0, .int 0, .int 0, .int 0, .retAddr 2, .retAddr 3, .int 0, .ref 85, .ref 86, .int 0, .int 0, .int 0, .int 0, .ref 87, .null, .null, .null, .int 0, .null, .null, .int 0, .int 0, .int 0, .int 0, .int 0, .null, .null, .null, .null, .int 0, .null, .int 0, .int 0, .null, .null, .null, .null, .null, .null, .null, .null, .null, .int 0, .null, .null, .null, .null, .int 0, .null, .null, .int 0, .int 0, .int 0, .int 0])) = s17_ at m17_ ⊢
  refine g_p t174_79 rfl ?_
  refine g_k (n := 160) t174_80 rfl rfl ?_
  refine r_newi t174_83 (by decide) (by decide) ?_
  rw [m17_.nx]
  have m18_ := m17_.row (e := .inl (0, 160, .inl (fun _ => 0))) (n := 160) rfl
  generalize wn s17_ (.inl (0, 160, .inl (fun _ => 0))) 160 = s18_ at m18_ ⊢
  refine r_putr (f2 := [.int 0, .ref 81, .ref 82, .ref 83, .ref 84, .retAddr 7, .int 0, .int 0, .int 0, .int 0, .int 0, .int 0, .int 0, .int 0, .int 0, .retAddr 2, .retAddr 3, .int 0, .ref 85, .ref 86, .int 0, .int 0, .int 0, .int 0, .ref 87, .ref 88, .null, .null, .int 0, .null, .null, .int 0, .int 0, .int 0, .int 0, .int 0, .null, .null, .null, .null, .int 0, .null, .int 0, .int 0, .null, .null, .null, .null, .null, .null, .null, .null, .null, .int 0, .null, .null, .null, .null, .int 0, .null, .null, .int 0, .int 0, .int 0, .int 0]) t174_85 m18_.h rfl rfl rfl rfl rfl ?_
  have m19_ := m18_.put (e := .inr (12, [.int 0, .ref 81, .ref 82, .ref 83, .ref 84, .retAddr 7, .int 0, .int 0, .int 0, .int 0, .int 0, .int 0, .int 0, .int 0, .int 0, .retAddr 2, .retAddr 3, .int 0, .ref 85, .ref 86, .int 0, .int 0, .int 0, .int 0, .ref 87, .ref 88, .null, .null, .int 0, .null, .null, .int 0, .int 0, .int 0, .int 0, .int 0, .null, .null, .null, .null, .int 0, .null, .int 0, .int 0, .null, .null, .null, .null, .null, .null, .null, .null, .null, .int 0, .null, .null, .null, .null, .int 0, .null, .null, .int 0, .int 0, .int 0, .int 0])) hE
  generalize wr s18_ 80 (.inr (12, [.int 0, .ref 81, .ref 82, .ref 83, .ref 84, .retAddr 7, .int 0, .int 0, .int 0, .int 0, .int 0, .int 0, .int 0, .int 0, .int 0, .retAddr 2, .retAddr 3, .int 0, .ref 85, .ref 86, .int 0, .int 0, .int 0, .int 0, .ref 87, .ref 88, .null, .null, .int 0, .null, .null, .int 0, .int 0, .int 0, .int 0, .int 0, .null, .null, .null, .null, .int 0, .null, .int 0, .int 0, .null, .null, .null, .null, .null, .null, .null, .null, .null, .int 0, .null, .null, .null, .null, .int 0, .null, .null, .int 0, .int 0, .int 0, .int 0])) = s19_ at m19_ ⊢
  refine g_p t174_88 rfl ?_
  refine g_k (n := 4) t174_89 rfl rfl ?_
  refine r_newi t174_90 (by decide) (by decide) ?_
  rw [m19_.nx]
  have m20_ := m19_.row (e := .inl (0, 4, .inl (fun _ => 0))) (n := 4) rfl
  generalize wn s19_ (.inl (0, 4, .inl (fun _ => 0))) 4 = s20_ at m20_ ⊢
  refine r_putr (f2 := [.int 0, .ref 81, .ref 82, .ref 83, .ref 84, .retAddr 7, .int 0, .int 0, .int 0, .int 0, .int 0, .int 0, .int 0, .int 0, .int 0, .retAddr 2, .retAddr 3, .int 0, .ref 85, .ref 86, .int 0, .int 0, .int 0, .int 0, .ref 87, .ref 88, .ref 89, .null, .int 0, .null, .null, .int 0, .int 0, .int 0, .int 0, .int 0, .null, .null, .null, .null, .int 0, .null, .int 0, .int 0, .null, .null, .null, .null, .null, .null, .null, .null, .null, .int 0, .null, .null, .null, .null, .int 0, .null, .null, .int 0, .int 0, .int 0, .int 0]) t174_92 m20_.h rfl rfl rfl rfl rfl ?_
  have m21_ := m20_.put (e := .inr (12, [.int 0, .ref 81, .ref 82, .ref 83, .ref 84, .retAddr 7, .int 0, .int 0, .int 0, .int 0, .int 0, .int 0, .int 0, .int 0, .int 0, .retAddr 2, .retAddr 3, .int 0, .ref 85, .ref 86, .int 0, .int 0, .int 0, .int 0, .ref 87, .ref 88, .ref 89, .null, .int 0, .null, .null, .int 0, .int 0, .int 0, .int 0, .int 0, .null, .null, .null, .null, .int 0, .null, .int 0, .int 0, .null, .null, .null, .null, .null, .null, .null, .null, .null, .int 0, .null, .null, .null, .null, .int 0, .null, .null, .int 0, .int 0, .int 0, .int 0])) hE
  generalize wr s20_ 80 (.inr (12, [.int 0, .ref 81, .ref 82, .ref 83, .ref 84, .retAddr 7, .int 0, .int 0, .int 0, .int 0, .int 0, .int 0, .int 0, .int 0, .int 0, .retAddr 2, .retAddr 3, .int 0, .ref 85, .ref 86, .int 0, .int 0, .int 0, .int 0, .ref 87, .ref 88, .ref 89, .null, .int 0, .null, .null, .int 0, .int 0, .int 0, .int 0, .int 0, .null, .null, .null, .null, .int 0, .null, .int 0, .int 0, .null, .null, .null, .null, .null, .null, .null, .null, .null, .int 0, .null, .null, .null, .null, .int 0, .null, .null, .int 0, .int 0, .int 0, .int 0])) = s21_ at m21_ ⊢
  refine g_p t174_95 rfl ?_
  refine g_k (n := 4) t174_96 rfl rfl ?_
  refine r_newi t174_97 (by decide) (by decide) ?_
  rw [m21_.nx]
  have m22_ := m21_.row (e := .inl (0, 4, .inl (fun _ => 0))) (n := 4) rfl
  generalize wn s21_ (.inl (0, 4, .inl (fun _ => 0))) 4 = s22_ at m22_ ⊢
  refine r_putr (f2 := [.int 0, .ref 81, .ref 82, .ref 83, .ref 84, .retAddr 7, .int 0, .int 0, .int 0, .int 0, .int 0, .int 0, .int 0, .int 0, .int 0, .retAddr 2, .retAddr 3, .int 0, .ref 85, .ref 86, .int 0, .int 0, .int 0, .int 0, .ref 87, .ref 88, .ref 89, .ref 90, .int 0, .null, .null, .int 0, .int 0, .int 0, .int 0, .int 0, .null, .null, .null, .null, .int 0, .null, .int 0, .int 0, .null, .null, .null, .null, .null, .null, .null, .null, .null, .int 0, .null, .null, .null, .null, .int 0, .null, .null, .int 0, .int 0, .int 0, .int 0]) t174_99 m22_.h rfl rfl rfl rfl rfl ?_
  have m23_ := m22_.put (e := .inr (12, [.int 0, .ref 81, .ref 82, .ref 83, .ref 84, .retAddr 7, .int 0, .int 0, .int 0, .int 0, .int 0, .int 0, .int 0, .int 0, .int 0, .retAddr 2, .retAddr 3, .int 0, .ref 85, .ref 86, .int 0, .int 0, .int 0, .int 0, .ref 87, .ref 88, .ref 89, .ref 90, .int 0, .null, .null, .int 0, .int 0, .int 0, .int 0, .int 0, .null, .null, .null, .null, .int 0, .null, .int 0, .int 0, .null, .null, .null, .null, .null, .null, .null, .null, .null, .int 0, .null, .null, .null, .null, .int 0, .null, .null, .int 0, .int 0, .int 0, .int 0])) hE
  generalize wr s22_ 80 (.inr (12, [.int 0, .ref 81, .ref 82, .ref 83, .ref 84, .retAddr 7, .int 0, .int 0, .int 0, .int 0, .int 0, .int 0, .int 0, .int 0, .int 0, .retAddr 2, .retAddr 3, .int 0, .ref 85, .ref 86, .int 0, .int 0, .int 0, .int 0, .ref 87, .ref 88, .ref 89, .ref 90, .int 0, .null, .null, .int 0, .int 0, .int 0, .int 0, .int 0, .null, .null, .null, .null, .int 0, .null, .int 0, .int 0, .null, .null, .null, .null, .null, .null, .null, .null, .null, .int 0, .null, .null, .null, .null, .int 0, .null, .null, .int 0, .int 0, .int 0, .int 0])) = s23_ at m23_ ⊢
  refine g_p t174_102 rfl ?_
  refine g_k (n := 40) t174_103 rfl rfl ?_
  refine r_newi t174_105 (by decide) (by decide) ?_
  rw [m23_.nx]
  have m24_ := m23_.row (e := .inl (0, 40, .inl (fun _ => 0))) (n := 40) rfl
  generalize wn s23_ (.inl (0, 40, .inl (fun _ => 0))) 40 = s24_ at m24_ ⊢
  refine r_putr (f2 := [.int 0, .ref 81, .ref 82, .ref 83, .ref 84, .retAddr 7, .int 0, .int 0, .int 0, .int 0, .int 0, .int 0, .int 0, .int 0, .int 0, .retAddr 2, .retAddr 3, .int 0, .ref 85, .ref 86, .int 0, .int 0, .int 0, .int 0, .ref 87, .ref 88, .ref 89, .ref 90, .int 0, .ref 91, .null, .int 0, .int 0, .int 0, .int 0, .int 0, .null, .null, .null, .null, .int 0, .null, .int 0, .int 0, .null, .null, .null, .null, .null, .null, .null, .null, .null, .int 0, .null, .null, .null, .null, .int 0, .null, .null, .int 0, .int 0, .int 0, .int 0]) t174_107 m24_.h rfl rfl rfl rfl rfl ?_
  have m25_ := m24_.put (e := .inr (12, [.int 0, .ref 81, .ref 82, .ref 83, .ref 84, .retAddr 7, .int 0, .int 0, .int 0, .int 0, .int 0, .int 0, .int 0, .int 0, .int 0, .retAddr 2, .retAddr 3, .int 0, .ref 85, .ref 86, .int 0, .int 0, .int 0, .int 0, .ref 87, .ref 88, .ref 89, .ref 90, .int 0, .ref 91, .null, .int 0, .int 0, .int 0, .int 0, .int 0, .null, .null, .null, .null, .int 0, .null, .int 0, .int 0, .null, .null, .null, .null, .null, .null, .null, .null, .null, .int 0, .null, .null, .null, .null, .int 0, .null, .null, .int 0, .int 0, .int 0, .int 0])) hE
  generalize wr s24_ 80 (.inr (12, [.int 0, .ref 81, .ref 82, .ref 83, .ref 84, .retAddr 7, .int 0, .int 0, .int 0, .int 0, .int 0, .int 0, .int 0, .int 0, .int 0, .retAddr 2, .retAddr 3, .int 0, .ref 85, .ref 86, .int 0, .int 0, .int 0, .int 0, .ref 87, .ref 88, .ref 89, .ref 90, .int 0, .ref 91, .null, .int 0, .int 0, .int 0, .int 0, .int 0, .null, .null, .null, .null, .int 0, .null, .int 0, .int 0, .null, .null, .null, .null, .null, .null, .null, .null, .null, .int 0, .null, .null, .null, .null, .int 0, .null, .null, .int 0, .int 0, .int 0, .int 0])) = s25_ at m25_ ⊢
  refine g_p t174_110 rfl ?_
  refine g_k (n := 5) t174_111 rfl rfl ?_
  refine r_newi t174_112 (by decide) (by decide) ?_
  rw [m25_.nx]
  have m26_ := m25_.row (e := .inl (0, 5, .inl (fun _ => 0))) (n := 5) rfl
  generalize wn s25_ (.inl (0, 5, .inl (fun _ => 0))) 5 = s26_ at m26_ ⊢
  refine r_putr (f2 := [.int 0, .ref 81, .ref 82, .ref 83, .ref 84, .retAddr 7, .int 0, .int 0, .int 0, .int 0, .int 0, .int 0, .int 0, .int 0, .int 0, .retAddr 2, .retAddr 3, .int 0, .ref 85, .ref 86, .int 0, .int 0, .int 0, .int 0, .ref 87, .ref 88, .ref 89, .ref 90, .int 0, .ref 91, .ref 92, .int 0, .int 0, .int 0, .int 0, .int 0, .null, .null, .null, .null, .int 0, .null, .int 0, .int 0, .null, .null, .null, .null, .null, .null, .null, .null, .null, .int 0, .null, .null, .null, .null, .int 0, .null, .null, .int 0, .int 0, .int 0, .int 0]) t174_114 m26_.h rfl rfl rfl rfl rfl ?_
  have m27_ := m26_.put (e := .inr (12, [.int 0, .ref 81, .ref 82, .ref 83, .ref 84, .retAddr 7, .int 0, .int 0, .int 0, .int 0, .int 0, .int 0, .int 0, .int 0, .int 0, .retAddr 2, .retAddr 3, .int 0, .ref 85, .ref 86, .int 0, .int 0, .int 0, .int 0, .ref 87, .ref 88, .ref 89, .ref 90, .int 0, .ref 91, .ref 92, .int 0, .int 0, .int 0, .int 0, .int 0, .null, .null, .null, .null, .int 0, .null, .int 0, .int 0, .null, .null, .null, .null, .null, .null, .null, .null, .null, .int 0, .null, .null, .null, .null, .int 0, .null, .null, .int 0, .int 0, .int 0, .int 0])) hE
  generalize wr s26_ 80 (.inr (12, [.int 0, .ref 81, .ref 82, .ref 83, .ref 84, .retAddr 7, .int 0, .int 0, .int 0, .int 0, .int 0, .int 0, .int 0, .int 0, .int 0, .retAddr 2, .retAddr 3, .int 0, .ref 85, .ref 86, .int 0, .int 0, .int 0, .int 0, .ref 87, .ref 88, .ref 89, .ref 90, .int 0, .ref 91, .ref 92, .int 0, .int 0, .int 0, .int 0, .int 0, .null, .null, .null, .null, .int 0, .null, .int 0, .int 0, .null, .null, .null, .null, .null, .null, .null, .null, .null, .int 0, .null, .null, .null, .null, .int 0, .null, .null, .int 0, .int 0, .int 0, .int 0])) = s27_ at m27_ ⊢
  refine g_p t174_117 rfl ?_
  refine g_p t174_118 rfl ?_
  refine r_puti t174_119 m27_.h rfl rfl ?_
  have m28_ := m27_.wk (p := 80) (i := 32) (v := (-1)) (by decide) (by decide) (mk_kd (mk_k hK) (by decide))
  generalize wi s27_ 80 32 ((-1)) = s28_ at m28_ ⊢
  refine g_p t174_122 rfl ?_
  refine g_k (n := 60) t174_123 rfl rfl ?_
  refine r_newi t174_125 (by decide) (by decide) ?_
  rw [m28_.nx]
  have m29_ := m28_.row (e := .inl (0, 60, .inl (fun _ => 0))) (n := 60) rfl
  generalize wn s28_ (.inl (0, 60, .inl (fun _ => 0))) 60 = s29_ at m29_ ⊢
  refine r_putr (f2 := [.int 0, .ref 81, .ref 82, .ref 83, .ref 84, .retAddr 7, .int 0, .int 0, .int 0, .int 0, .int 0, .int 0, .int 0, .int 0, .int 0, .retAddr 2, .retAddr 3, .int 0, .ref 85, .ref 86, .int 0, .int 0, .int 0, .int 0, .ref 87, .ref 88, .ref 89, .ref 90, .int 0, .ref 91, .ref 92, .int 0, .int 0, .int 0, .int 0, .int 0, .ref 93, .null, .null, .null, .int 0, .null, .int 0, .int 0, .null, .null, .null, .null, .null, .null, .null, .null, .null, .int 0, .null, .null, .null, .null, .int 0, .null, .null, .int 0, .int 0, .int 0, .int 0]) t174_127 m29_.h rfl rfl rfl rfl rfl ?_
  have m30_ := m29_.put (e := .inr (12, [.int 0, .ref 81, .ref 82, .ref 83, .ref 84, .retAddr 7, .int 0, .int 0, .int 0, .int 0, .int 0, .int 0, .int 0, .int 0, .int 0, .retAddr 2, .retAddr 3, .int 0, .ref 85, .ref 86, .int 0, .int 0, .int 0, .int 0, .ref 87, .ref 88, .ref 89, .ref 90, .int 0, .ref 91, .ref 92, .int 0, .int 0, .int 0, .int 0, .int 0, .ref 93, .null, .null, .null, .int 0, .null, .int 0, .int 0, .null, .null, .null, .null, .null, .null, .null, .null, .null, .int 0, .null, .null, .null, .null, .int 0, .null, .null, .int 0, .int 0, .int 0, .int 0])) hE
  generalize wr s29_ 80 (.inr (12, [.int 0, .ref 81, .ref 82, .ref 83, .ref 84, .retAddr 7, .int 0, .int 0, .int 0, .int 0, .int 0, .int 0, .int 0, .int 0, .int 0, .retAddr 2, .retAddr 3, .int 0, .ref 85, .ref 86, .int 0, .int 0, .int 0, .int 0, .ref 87, .ref 88, .ref 89, .ref 90, .int 0, .ref 91, .ref 92, .int 0, .int 0, .int 0, .int 0, .int 0, .ref 93, .null, .null, .null, .int 0, .null, .int 0, .int 0, .null, .null, .null, .null, .null, .null, .null, .null, .null, .int 0, .null, .null, .null, .null, .int 0, .null, .null, .int 0, .int 0, .int 0, .int 0])) = s30_ at m30_ ⊢
  refine g_p t174_130 rfl ?_
  refine g_k (n := 60) t174_131 rfl rfl ?_
  refine r_newi t174_133 (by decide) (by decide) ?_
  rw [m30_.nx]
  have m31_ := m30_.row (e := .inl (0, 60, .inl (fun _ => 0))) (n := 60) rfl
  generalize wn s30_ (.inl (0, 60, .inl (fun _ => 0))) 60 = s31_ at m31_ ⊢
  refine r_putr (f2 := [.int 0, .ref 81, .ref 82, .ref 83, .ref 84, .retAddr 7, .int 0, .int 0, .int 0, .int 0, .int 0, .int 0, .int 0, .int 0, .int 0, .retAddr 2, .retAddr 3, .int 0, .ref 85, .ref 86, .int 0, .int 0, .int 0, .int 0, .ref 87, .ref 88, .ref 89, .ref 90, .int 0, .ref 91, .ref 92, .int 0, .int 0, .int 0, .int 0, .int 0, .ref 93, .ref 94, .null, .null, .int 0, .null, .int 0, .int 0, .null, .null, .null, .null, .null, .null, .null, .null, .null, .int 0, .null, .null, .null, .null, .int 0, .null, .null, .int 0, .int 0, .int 0, .int 0]) t174_135 m31_.h rfl rfl rfl rfl rfl ?_
  have m32_ := m31_.put (e := .inr (12, [.int 0, .ref 81, .ref 82, .ref 83, .ref 84, .retAddr 7, .int 0, .int 0, .int 0, .int 0, .int 0, .int 0, .int 0, .int 0, .int 0, .retAddr 2, .retAddr 3, .int 0, .ref 85, .ref 86, .int 0, .int 0, .int 0, .int 0, .ref 87, .ref 88, .ref 89, .ref 90, .int 0, .ref 91, .ref 92, .int 0, .int 0, .int 0, .int 0, .int 0, .ref 93, .ref 94, .null, .null, .int 0, .null, .int 0, .int 0, .null, .null, .null, .null, .null, .null, .null, .null, .null, .int 0, .null, .null, .null, .null, .int 0, .null, .null, .int 0, .int 0, .int 0, .int 0])) hE
  generalize wr s31_ 80 (.inr (12, [.int 0, .ref 81, .ref 82, .ref 83, .ref 84, .retAddr 7, .int 0, .int 0, .int 0, .int 0, .int 0, .int 0, .int 0, .int 0, .int 0, .retAddr 2, .retAddr 3, .int 0, .ref 85, .ref 86, .int 0, .int 0, .int 0, .int 0, .ref 87, .ref 88, .ref 89, .ref 90, .int 0, .ref 91, .ref 92, .int 0, .int 0, .int 0, .int 0, .int 0, .ref 93, .ref 94, .null, .null, .int 0, .null, .int 0, .int 0, .null, .null, .null, .null, .null, .null, .null, .null, .null, .int 0, .null, .null, .null, .null, .int 0, .null, .null, .int 0, .int 0, .int 0, .int 0])) = s32_ at m32_ ⊢
  refine g_p t174_138 rfl ?_
  refine g_k (n := 60) t174_139 rfl rfl ?_
  refine r_newi t174_141 (by decide) (by decide) ?_
  rw [m32_.nx]
  have m33_ := m32_.row (e := .inl (0, 60, .inl (fun _ => 0))) (n := 60) rfl
  generalize wn s32_ (.inl (0, 60, .inl (fun _ => 0))) 60 = s33_ at m33_ ⊢
  refine r_putr (f2 := [.int 0, .ref 81, .ref 82, .ref 83, .ref 84, .retAddr 7, .int 0, .int 0, .int 0, .int 0, .int 0, .int 0, .int 0, .int 0, .int 0, .retAddr 2, .retAddr 3, .int 0, .ref 85, .ref 86, .int 0, .int 0, .int 0, .int 0, .ref 87, .ref 88, .ref 89, .ref 90, .int 0, .ref 91, .ref 92, .int 0, .int 0, .int 0, .int 0, .int 0, .ref 93, .ref 94, .ref 95, .null, .int 0, .null, .int 0, .int 0, .null, .null, .null, .null, .null, .null, .null, .null, .null, .int 0, .null, .null, .null, .null, .int 0, .null, .null, .int 0, .int 0, .int 0, .int 0]) t174_143 m33_.h rfl rfl rfl rfl rfl ?_
  have m34_ := m33_.put (e := .inr (12, [.int 0, .ref 81, .ref 82, .ref 83, .ref 84, .retAddr 7, .int 0, .int 0, .int 0, .int 0, .int 0, .int 0, .int 0, .int 0, .int 0, .retAddr 2, .retAddr 3, .int 0, .ref 85, .ref 86, .int 0, .int 0, .int 0, .int 0, .ref 87, .ref 88, .ref 89, .ref 90, .int 0, .ref 91, .ref 92, .int 0, .int 0, .int 0, .int 0, .int 0, .ref 93, .ref 94, .ref 95, .null, .int 0, .null, .int 0, .int 0, .null, .null, .null, .null, .null, .null, .null, .null, .null, .int 0, .null, .null, .null, .null, .int 0, .null, .null, .int 0, .int 0, .int 0, .int 0])) hE
  generalize wr s33_ 80 (.inr (12, [.int 0, .ref 81, .ref 82, .ref 83, .ref 84, .retAddr 7, .int 0, .int 0, .int 0, .int 0, .int 0, .int 0, .int 0, .int 0, .int 0, .retAddr 2, .retAddr 3, .int 0, .ref 85, .ref 86, .int 0, .int 0, .int 0, .int 0, .ref 87, .ref 88, .ref 89, .ref 90, .int 0, .ref 91, .ref 92, .int 0, .int 0, .int 0, .int 0, .int 0, .ref 93, .ref 94, .ref 95, .null, .int 0, .null, .int 0, .int 0, .null, .null, .null, .null, .null, .null, .null, .null, .null, .int 0, .null, .null, .null, .null, .int 0, .null, .null, .int 0, .int 0, .int 0, .int 0])) = s34_ at m34_ ⊢
  refine g_p t174_146 rfl ?_
  refine g_k (n := 60) t174_147 rfl rfl ?_
  refine r_newi t174_149 (by decide) (by decide) ?_
  rw [m34_.nx]
  have m35_ := m34_.row (e := .inl (0, 60, .inl (fun _ => 0))) (n := 60) rfl
  generalize wn s34_ (.inl (0, 60, .inl (fun _ => 0))) 60 = s35_ at m35_ ⊢
  refine r_putr (f2 := [.int 0, .ref 81, .ref 82, .ref 83, .ref 84, .retAddr 7, .int 0, .int 0, .int 0, .int 0, .int 0, .int 0, .int 0, .int 0, .int 0, .retAddr 2, .retAddr 3, .int 0, .ref 85, .ref 86, .int 0, .int 0, .int 0, .int 0, .ref 87, .ref 88, .ref 89, .ref 90, .int 0, .ref 91, .ref 92, .int 0, .int 0, .int 0, .int 0, .int 0, .ref 93, .ref 94, .ref 95, .ref 96, .int 0, .null, .int 0, .int 0, .null, .null, .null, .null, .null, .null, .null, .null, .null, .int 0, .null, .null, .null, .null, .int 0, .null, .null, .int 0, .int 0, .int 0, .int 0]) t174_151 m35_.h rfl rfl rfl rfl rfl ?_
  have m36_ := m35_.put (e := .inr (12, [.int 0, .ref 81, .ref 82, .ref 83, .ref 84, .retAddr 7, .int 0, .int 0, .int 0, .int 0, .int 0, .int 0, .int 0, .int 0, .int 0, .retAddr 2, .retAddr 3, .int 0, .ref 85, .ref 86, .int 0, .int 0, .int 0, .int 0, .ref 87, .ref 88, .ref 89, .ref 90, .int 0, .ref 91, .ref 92, .int 0, .int 0, .int 0, .int 0, .int 0, .ref 93, .ref 94, .ref 95, .ref 96, .int 0, .null, .int 0, .int 0, .null, .null, .null, .null, .null, .null, .null, .null, .null, .int 0, .null, .null, .null, .null, .int 0, .null, .null, .int 0, .int 0, .int 0, .int 0])) hE
  generalize wr s35_ 80 (.inr (12, [.int 0, .ref 81, .ref 82, .ref 83, .ref 84, .retAddr 7, .int 0, .int 0, .int 0, .int 0, .int 0, .int 0, .int 0, .int 0, .int 0, .retAddr 2, .retAddr 3, .int 0, .ref 85, .ref 86, .int 0, .int 0, .int 0, .int 0, .ref 87, .ref 88, .ref 89, .ref 90, .int 0, .ref 91, .ref 92, .int 0, .int 0, .int 0, .int 0, .int 0, .ref 93, .ref 94, .ref 95, .ref 96, .int 0, .null, .int 0, .int 0, .null, .null, .null, .null, .null, .null, .null, .null, .null, .int 0, .null, .null, .null, .null, .int 0, .null, .null, .int 0, .int 0, .int 0, .int 0])) = s36_ at m36_ ⊢
  refine g_p t174_154 rfl ?_
  refine g_k (n := 64) t174_155 rfl rfl ?_
  refine r_newi t174_157 (by decide) (by decide) ?_
  rw [m36_.nx]
  have m37_ := m36_.row (e := .inl (0, 64, .inl (fun _ => 0))) (n := 64) rfl
  generalize wn s36_ (.inl (0, 64, .inl (fun _ => 0))) 64 = s37_ at m37_ ⊢
  refine r_putr (f2 := [.int 0, .ref 81, .ref 82, .ref 83, .ref 84, .retAddr 7, .int 0, .int 0, .int 0, .int 0, .int 0, .int 0, .int 0, .int 0, .int 0, .retAddr 2, .retAddr 3, .int 0, .ref 85, .ref 86, .int 0, .int 0, .int 0, .int 0, .ref 87, .ref 88, .ref 89, .ref 90, .int 0, .ref 91, .ref 92, .int 0, .int 0, .int 0, .int 0, .int 0, .ref 93, .ref 94, .ref 95, .ref 96, .int 0, .ref 97, .int 0, .int 0, .null, .null, .null, .null, .null, .null, .null, .null, .null, .int 0, .null, .null, .null, .null, .int 0, .null, .null, .int 0, .int 0, .int 0, .int 0]) t174_159 m37_.h rfl rfl rfl rfl rfl ?_
  have m38_ := m37_.put (e := .inr (12, [.int 0, .ref 81, .ref 82, .ref 83, .ref 84, .retAddr 7, .int 0, .int 0, .int 0, .int 0, .int 0, .int 0, .int 0, .int 0, .int 0, .retAddr 2, .retAddr 3, .int 0, .ref 85, .ref 86, .int 0, .int 0, .int 0, .int 0, .ref 87, .ref 88, .ref 89, .ref 90, .int 0, .ref 91, .ref 92, .int 0, .int 0, .int 0, .int 0, .int 0, .ref 93, .ref 94, .ref 95, .ref 96, .int 0, .ref 97, .int 0, .int 0, .null, .null, .null, .null, .null, .null, .null, .null, .null, .int 0, .null, .null, .null, .null, .int 0, .null, .null, .int 0, .int 0, .int 0, .int 0])) hE
  generalize wr s37_ 80 (.inr (12, [.int 0, .ref 81, .ref 82, .ref 83, .ref 84, .retAddr 7, .int 0, .int 0, .int 0, .int 0, .int 0, .int 0, .int 0, .int 0, .int 0, .retAddr 2, .retAddr 3, .int 0, .ref 85, .ref 86, .int 0, .int 0, .int 0, .int 0, .ref 87, .ref 88, .ref 89, .ref 90, .int 0, .ref 91, .ref 92, .int 0, .int 0, .int 0, .int 0, .int 0, .ref 93, .ref 94, .ref 95, .ref 96, .int 0, .ref 97, .int 0, .int 0, .null, .null, .null, .null, .null, .null, .null, .null, .null, .int 0, .null, .null, .null, .null, .int 0, .null, .null, .int 0, .int 0, .int 0, .int 0])) = s38_ at m38_ ⊢
  refine g_p t174_162 rfl ?_
  refine g_k (n := 243) t174_163 rfl rfl ?_
  refine r_newi t174_166 (by decide) (by decide) ?_
  rw [m38_.nx]
  have m39_ := m38_.row (e := .inl (0, 243, .inl (fun _ => 0))) (n := 243) rfl
  generalize wn s38_ (.inl (0, 243, .inl (fun _ => 0))) 243 = s39_ at m39_ ⊢
  refine r_putr (f2 := [.int 0, .ref 81, .ref 82, .ref 83, .ref 84, .retAddr 7, .int 0, .int 0, .int 0, .int 0, .int 0, .int 0, .int 0, .int 0, .int 0, .retAddr 2, .retAddr 3, .int 0, .ref 85, .ref 86, .int 0, .int 0, .int 0, .int 0, .ref 87, .ref 88, .ref 89, .ref 90, .int 0, .ref 91, .ref 92, .int 0, .int 0, .int 0, .int 0, .int 0, .ref 93, .ref 94, .ref 95, .ref 96, .int 0, .ref 97, .int 0, .int 0, .ref 98, .null, .null, .null, .null, .null, .null, .null, .null, .int 0, .null, .null, .null, .null, .int 0, .null, .null, .int 0, .int 0, .int 0, .int 0]) t174_168 m39_.h rfl rfl rfl rfl rfl ?_
  have m40_ := m39_.put (e := .inr (12, [.int 0, .ref 81, .ref 82, .ref 83, .ref 84, .retAddr 7, .int 0, .int 0, .int 0, .int 0, .int 0, .int 0, .int 0, .int 0, .int 0, .retAddr 2, .retAddr 3, .int 0, .ref 85, .ref 86, .int 0, .int 0, .int 0, .int 0, .ref 87, .ref 88, .ref 89, .ref 90, .int 0, .ref 91, .ref 92, .int 0, .int 0, .int 0, .int 0, .int 0, .ref 93, .ref 94, .ref 95, .ref 96, .int 0, .ref 97, .int 0, .int 0, .ref 98, .null, .null, .null, .null, .null, .null, .null, .null, .int 0, .null, .null, .null, .null, .int 0, .null, .null, .int 0, .int 0, .int 0, .int 0])) hE
  generalize wr s39_ 80 (.inr (12, [.int 0, .ref 81, .ref 82, .ref 83, .ref 84, .retAddr 7, .int 0, .int 0, .int 0, .int 0, .int 0, .int 0, .int 0, .int 0, .int 0, .retAddr 2, .retAddr 3, .int 0, .ref 85, .ref 86, .int 0, .int 0, .int 0, .int 0, .ref 87, .ref 88, .ref 89, .ref 90, .int 0, .ref 91, .ref 92, .int 0, .int 0, .int 0, .int 0, .int 0, .ref 93, .ref 94, .ref 95, .ref 96, .int 0, .ref 97, .int 0, .int 0, .ref 98, .null, .null, .null, .null, .null, .null, .null, .null, .int 0, .null, .null, .null, .null, .int 0, .null, .null, .int 0, .int 0, .int 0, .int 0])) = s40_ at m40_ ⊢
  refine g_p t174_171 rfl ?_
  refine g_k (n := 243) t174_172 rfl rfl ?_
  refine r_newi t174_175 (by decide) (by decide) ?_
  rw [m40_.nx]
  have m41_ := m40_.row (e := .inl (0, 243, .inl (fun _ => 0))) (n := 243) rfl
  generalize wn s40_ (.inl (0, 243, .inl (fun _ => 0))) 243 = s41_ at m41_ ⊢
  refine r_putr (f2 := [.int 0, .ref 81, .ref 82, .ref 83, .ref 84, .retAddr 7, .int 0, .int 0, .int 0, .int 0, .int 0, .int 0, .int 0, .int 0, .int 0, .retAddr 2, .retAddr 3, .int 0, .ref 85, .ref 86, .int 0, .int 0, .int 0, .int 0, .ref 87, .ref 88, .ref 89, .ref 90, .int 0, .ref 91, .ref 92, .int 0, .int 0, .int 0, .int 0, .int 0, .ref 93, .ref 94, .ref 95, .ref 96, .int 0, .ref 97, .int 0, .int 0, .ref 98, .ref 99, .null, .null, .null, .null, .null, .null, .null, .int 0, .null, .null, .null, .null, .int 0, .null, .null, .int 0, .int 0, .int 0, .int 0]) t174_177 m41_.h rfl rfl rfl rfl rfl ?_
  have m42_ := m41_.put (e := .inr (12, [.int 0, .ref 81, .ref 82, .ref 83, .ref 84, .retAddr 7, .int 0, .int 0, .int 0, .int 0, .int 0, .int 0, .int 0, .int 0, .int 0, .retAddr 2, .retAddr 3, .int 0, .ref 85, .ref 86, .int 0, .int 0, .int 0, .int 0, .ref 87, .ref 88, .ref 89, .ref 90, .int 0, .ref 91, .ref 92, .int 0, .int 0, .int 0, .int 0, .int 0, .ref 93, .ref 94, .ref 95, .ref 96, .int 0, .ref 97, .int 0, .int 0, .ref 98, .ref 99, .null, .null, .null, .null, .null, .null, .null, .int 0, .null, .null, .null, .null, .int 0, .null, .null, .int 0, .int 0, .int 0, .int 0])) hE
  generalize wr s41_ 80 (.inr (12, [.int 0, .ref 81, .ref 82, .ref 83, .ref 84, .retAddr 7, .int 0, .int 0, .int 0, .int 0, .int 0, .int 0, .int 0, .int 0, .int 0, .retAddr 2, .retAddr 3, .int 0, .ref 85, .ref 86, .int 0, .int 0, .int 0, .int 0, .ref 87, .ref 88, .ref 89, .ref 90, .int 0, .ref 91, .ref 92, .int 0, .int 0, .int 0, .int 0, .int 0, .ref 93, .ref 94, .ref 95, .ref 96, .int 0, .ref 97, .int 0, .int 0, .ref 98, .ref 99, .null, .null, .null, .null, .null, .null, .null, .int 0, .null, .null, .null, .null, .int 0, .null, .null, .int 0, .int 0, .int 0, .int 0])) = s42_ at m42_ ⊢
  refine g_p t174_180 rfl ?_
  refine g_k (n := 59049) t174_181 rfl rfl ?_
  refine r_newi t174_183 (by decide) (by decide) ?_
  rw [m42_.nx]
  have m43_ := m42_.row (e := .inl (0, 59049, .inl (fun _ => 0))) (n := 59049) rfl
  generalize wn s42_ (.inl (0, 59049, .inl (fun _ => 0))) 59049 = s43_ at m43_ ⊢
  refine r_putr (f2 := [.int 0, .ref 81, .ref 82, .ref 83, .ref 84, .retAddr 7, .int 0, .int 0, .int 0, .int 0, .int 0, .int 0, .int 0, .int 0, .int 0, .retAddr 2, .retAddr 3, .int 0, .ref 85, .ref 86, .int 0, .int 0, .int 0, .int 0, .ref 87, .ref 88, .ref 89, .ref 90, .int 0, .ref 91, .ref 92, .int 0, .int 0, .int 0, .int 0, .int 0, .ref 93, .ref 94, .ref 95, .ref 96, .int 0, .ref 97, .int 0, .int 0, .ref 98, .ref 99, .ref 100, .null, .null, .null, .null, .null, .null, .int 0, .null, .null, .null, .null, .int 0, .null, .null, .int 0, .int 0, .int 0, .int 0]) t174_185 m43_.h rfl rfl rfl rfl rfl ?_
  have m44_ := m43_.put (e := .inr (12, [.int 0, .ref 81, .ref 82, .ref 83, .ref 84, .retAddr 7, .int 0, .int 0, .int 0, .int 0, .int 0, .int 0, .int 0, .int 0, .int 0, .retAddr 2, .retAddr 3, .int 0, .ref 85, .ref 86, .int 0, .int 0, .int 0, .int 0, .ref 87, .ref 88, .ref 89, .ref 90, .int 0, .ref 91, .ref 92, .int 0, .int 0, .int 0, .int 0, .int 0, .ref 93, .ref 94, .ref 95, .ref 96, .int 0, .ref 97, .int 0, .int 0, .ref 98, .ref 99, .ref 100, .null, .null, .null, .null, .null, .null, .int 0, .null, .null, .null, .null, .int 0, .null, .null, .int 0, .int 0, .int 0, .int 0])) hE
  generalize wr s43_ 80 (.inr (12, [.int 0, .ref 81, .ref 82, .ref 83, .ref 84, .retAddr 7, .int 0, .int 0, .int 0, .int 0, .int 0, .int 0, .int 0, .int 0, .int 0, .retAddr 2, .retAddr 3, .int 0, .ref 85, .ref 86, .int 0, .int 0, .int 0, .int 0, .ref 87, .ref 88, .ref 89, .ref 90, .int 0, .ref 91, .ref 92, .int 0, .int 0, .int 0, .int 0, .int 0, .ref 93, .ref 94, .ref 95, .ref 96, .int 0, .ref 97, .int 0, .int 0, .ref 98, .ref 99, .ref 100, .null, .null, .null, .null, .null, .null, .int 0, .null, .null, .null, .null, .int 0, .null, .null, .int 0, .int 0, .int 0, .int 0])) = s44_ at m44_ ⊢
  refine g_p t174_188 rfl ?_
  refine g_k (n := 2187) t174_189 rfl rfl ?_
  refine r_newi t174_192 (by decide) (by decide) ?_
  rw [m44_.nx]
  have m45_ := m44_.row (e := .inl (0, 2187, .inl (fun _ => 0))) (n := 2187) rfl
  generalize wn s44_ (.inl (0, 2187, .inl (fun _ => 0))) 2187 = s45_ at m45_ ⊢
  refine r_putr (f2 := [.int 0, .ref 81, .ref 82, .ref 83, .ref 84, .retAddr 7, .int 0, .int 0, .int 0, .int 0, .int 0, .int 0, .int 0, .int 0, .int 0, .retAddr 2, .retAddr 3, .int 0, .ref 85, .ref 86, .int 0, .int 0, .int 0, .int 0, .ref 87, .ref 88, .ref 89, .ref 90, .int 0, .ref 91, .ref 92, .int 0, .int 0, .int 0, .int 0, .int 0, .ref 93, .ref 94, .ref 95, .ref 96, .int 0, .ref 97, .int 0, .int 0, .ref 98, .ref 99, .ref 100, .ref 101, .null, .null, .null, .null, .null, .int 0, .null, .null, .null, .null, .int 0, .null, .null, .int 0, .int 0, .int 0, .int 0]) t174_194 m45_.h rfl rfl rfl rfl rfl ?_
  have m46_ := m45_.put (e := .inr (12, [.int 0, .ref 81, .ref 82, .ref 83, .ref 84, .retAddr 7, .int 0, .int 0, .int 0, .int 0, .int 0, .int 0, .int 0, .int 0, .int 0, .retAddr 2, .retAddr 3, .int 0, .ref 85, .ref 86, .int 0, .int 0, .int 0, .int 0, .ref 87, .ref 88, .ref 89, .ref 90, .int 0, .ref 91, .ref 92, .int 0, .int 0, .int 0, .int 0, .int 0, .ref 93, .ref 94, .ref 95, .ref 96, .int 0, .ref 97, .int 0, .int 0, .ref 98, .ref 99, .ref 100, .ref 101, .null, .null, .null, .null, .null, .int 0, .null, .null, .null, .null, .int 0, .null, .null, .int 0, .int 0, .int 0, .int 0])) hE
  generalize wr s45_ 80 (.inr (12, [.int 0, .ref 81, .ref 82, .ref 83, .ref 84, .retAddr 7, .int 0, .int 0, .int 0, .int 0, .int 0, .int 0, .int 0, .int 0, .int 0, .retAddr 2, .retAddr 3, .int 0, .ref 85, .ref 86, .int 0, .int 0, .int 0, .int 0, .ref 87, .ref 88, .ref 89, .ref 90, .int 0, .ref 91, .ref 92, .int 0, .int 0, .int 0, .int 0, .int 0, .ref 93, .ref 94, .ref 95, .ref 96, .int 0, .ref 97, .int 0, .int 0, .ref 98, .ref 99, .ref 100, .ref 101, .null, .null, .null, .null, .null, .int 0, .null, .null, .null, .null, .int 0, .null, .null, .int 0, .int 0, .int 0, .int 0])) = s46_ at m46_ ⊢
  refine g_p t174_197 rfl ?_
  refine g_k (n := 2187) t174_198 rfl rfl ?_
  refine r_newi t174_201 (by decide) (by decide) ?_
  rw [m46_.nx]
  have m47_ := m46_.row (e := .inl (2, 2187, .inl (fun _ => 0))) (n := 2187) rfl
  generalize wn s46_ (.inl (2, 2187, .inl (fun _ => 0))) 2187 = s47_ at m47_ ⊢
  refine r_putr (f2 := [.int 0, .ref 81, .ref 82, .ref 83, .ref 84, .retAddr 7, .int 0, .int 0, .int 0, .int 0, .int 0, .int 0, .int 0, .int 0, .int 0, .retAddr 2, .retAddr 3, .int 0, .ref 85, .ref 86, .int 0, .int 0, .int 0, .int 0, .ref 87, .ref 88, .ref 89, .ref 90, .int 0, .ref 91, .ref 92, .int 0, .int 0, .int 0, .int 0, .int 0, .ref 93, .ref 94, .ref 95, .ref 96, .int 0, .ref 97, .int 0, .int 0, .ref 98, .ref 99, .ref 100, .ref 101, .ref 102, .null, .null, .null, .null, .int 0, .null, .null, .null, .null, .int 0, .null, .null, .int 0, .int 0, .int 0, .int 0]) t174_203 m47_.h rfl rfl rfl rfl rfl ?_
  have m48_ := m47_.put (e := .inr (12, [.int 0, .ref 81, .ref 82, .ref 83, .ref 84, .retAddr 7, .int 0, .int 0, .int 0, .int 0, .int 0, .int 0, .int 0, .int 0, .int 0, .retAddr 2, .retAddr 3, .int 0, .ref 85, .ref 86, .int 0, .int 0, .int 0, .int 0, .ref 87, .ref 88, .ref 89, .ref 90, .int 0, .ref 91, .ref 92, .int 0, .int 0, .int 0, .int 0, .int 0, .ref 93, .ref 94, .ref 95, .ref 96, .int 0, .ref 97, .int 0, .int 0, .ref 98, .ref 99, .ref 100, .ref 101, .ref 102, .null, .null, .null, .null, .int 0, .null, .null, .null, .null, .int 0, .null, .null, .int 0, .int 0, .int 0, .int 0])) hE
  generalize wr s47_ 80 (.inr (12, [.int 0, .ref 81, .ref 82, .ref 83, .ref 84, .retAddr 7, .int 0, .int 0, .int 0, .int 0, .int 0, .int 0, .int 0, .int 0, .int 0, .retAddr 2, .retAddr 3, .int 0, .ref 85, .ref 86, .int 0, .int 0, .int 0, .int 0, .ref 87, .ref 88, .ref 89, .ref 90, .int 0, .ref 91, .ref 92, .int 0, .int 0, .int 0, .int 0, .int 0, .ref 93, .ref 94, .ref 95, .ref 96, .int 0, .ref 97, .int 0, .int 0, .ref 98, .ref 99, .ref 100, .ref 101, .ref 102, .null, .null, .null, .null, .int 0, .null, .null, .null, .null, .int 0, .null, .null, .int 0, .int 0, .int 0, .int 0])) = s48_ at m48_ ⊢
  refine g_p t174_206 rfl ?_
  refine g_k (n := 2187) t174_207 rfl rfl ?_
  refine r_newi t174_210 (by decide) (by decide) ?_
  rw [m48_.nx]
  have m49_ := m48_.row (e := .inl (2, 2187, .inl (fun _ => 0))) (n := 2187) rfl
  generalize wn s48_ (.inl (2, 2187, .inl (fun _ => 0))) 2187 = s49_ at m49_ ⊢
  refine r_putr (f2 := [.int 0, .ref 81, .ref 82, .ref 83, .ref 84, .retAddr 7, .int 0, .int 0, .int 0, .int 0, .int 0, .int 0, .int 0, .int 0, .int 0, .retAddr 2, .retAddr 3, .int 0, .ref 85, .ref 86, .int 0, .int 0, .int 0, .int 0, .ref 87, .ref 88, .ref 89, .ref 90, .int 0, .ref 91, .ref 92, .int 0, .int 0, .int 0, .int 0, .int 0, .ref 93, .ref 94, .ref 95, .ref 96, .int 0, .ref 97, .int 0, .int 0, .ref 98, .ref 99, .ref 100, .ref 101, .ref 102, .ref 103, .null, .null, .null, .int 0, .null, .null, .null, .null, .int 0, .null, .null, .int 0, .int 0, .int 0, .int 0]) t174_212 m49_.h rfl rfl rfl rfl rfl ?_
  have m50_ := m49_.put (e := .inr (12, [.int 0, .ref 81, .ref 82, .ref 83, .ref 84, .retAddr 7, .int 0, .int 0, .int 0, .int 0, .int 0, .int 0, .int 0, .int 0, .int 0, .retAddr 2, .retAddr 3, .int 0, .ref 85, .ref 86, .int 0, .int 0, .int 0, .int 0, .ref 87, .ref 88, .ref 89, .ref 90, .int 0, .ref 91, .ref 92, .int 0, .int 0, .int 0, .int 0, .int 0, .ref 93, .ref 94, .ref 95, .ref 96, .int 0, .ref 97, .int 0, .int 0, .ref 98, .ref 99, .ref 100, .ref 101, .ref 102, .ref 103, .null, .null, .null, .int 0, .null, .null, .null, .null, .int 0, .null, .null, .int 0, .int 0, .int 0, .int 0])) hE
  generalize wr s49_ 80 (.inr (12, [.int 0, .ref 81, .ref 82, .ref 83, .ref 84, .retAddr 7, .int 0, .int 0, .int 0, .int 0, .int 0, .int 0, .int 0, .int 0, .int 0, .retAddr 2, .retAddr 3, .int 0, .ref 85, .ref 86, .int 0, .int 0, .int 0, .int 0, .ref 87, .ref 88, .ref 89, .ref 90, .int 0, .ref 91, .ref 92, .int 0, .int 0, .int 0, .int 0, .int 0, .ref 93, .ref 94, .ref 95, .ref 96, .int 0, .ref 97, .int 0, .int 0, .ref 98, .ref 99, .ref 100, .ref 101, .ref 102, .ref 103, .null, .null, .null, .int 0, .null, .null, .null, .null, .int 0, .null, .null, .int 0, .int 0, .int 0, .int 0])) = s50_ at m50_ ⊢
  refine g_p t174_215 rfl ?_
  refine g_k (n := 12) t174_216 rfl rfl ?_
  refine r_newi t174_218 (by decide) (by decide) ?_
  rw [m50_.nx]
  have m51_ := m50_.row (e := .inl (0, 12, .inl (fun _ => 0))) (n := 12) rfl
  generalize wn s50_ (.inl (0, 12, .inl (fun _ => 0))) 12 = s51_ at m51_ ⊢
  refine r_putr (f2 := [.int 0, .ref 81, .ref 82, .ref 83, .ref 84, .retAddr 7, .int 0, .int 0, .int 0, .int 0, .int 0, .int 0, .int 0, .int 0, .int 0, .retAddr 2, .retAddr 3, .int 0, .ref 85, .ref 86, .int 0, .int 0, .int 0, .int 0, .ref 87, .ref 88, .ref 89, .ref 90, .int 0, .ref 91, .ref 92, .int 0, .int 0, .int 0, .int 0, .int 0, .ref 93, .ref 94, .ref 95, .ref 96, .int 0, .ref 97, .int 0, .int 0, .ref 98, .ref 99, .ref 100, .ref 101, .ref 102, .ref 103, .ref 104, .null, .null, .int 0, .null, .null, .null, .null, .int 0, .null, .null, .int 0, .int 0, .int 0, .int 0]) t174_220 m51_.h rfl rfl rfl rfl rfl ?_
  have m52_ := m51_.put (e := .inr (12, [.int 0, .ref 81, .ref 82, .ref 83, .ref 84, .retAddr 7, .int 0, .int 0, .int 0, .int 0, .int 0, .int 0, .int 0, .int 0, .int 0, .retAddr 2, .retAddr 3, .int 0, .ref 85, .ref 86, .int 0, .int 0, .int 0, .int 0, .ref 87, .ref 88, .ref 89, .ref 90, .int 0, .ref 91, .ref 92, .int 0, .int 0, .int 0, .int 0, .int 0, .ref 93, .ref 94, .ref 95, .ref 96, .int 0, .ref 97, .int 0, .int 0, .ref 98, .ref 99, .ref 100, .ref 101, .ref 102, .ref 103, .ref 104, .null, .null, .int 0, .null, .null, .null, .null, .int 0, .null, .null, .int 0, .int 0, .int 0, .int 0])) hE
  generalize wr s51_ 80 (.inr (12, [.int 0, .ref 81, .ref 82, .ref 83, .ref 84, .retAddr 7, .int 0, .int 0, .int 0, .int 0, .int 0, .int 0, .int 0, .int 0, .int 0, .retAddr 2, .retAddr 3, .int 0, .ref 85, .ref 86, .int 0, .int 0, .int 0, .int 0, .ref 87, .ref 88, .ref 89, .ref 90, .int 0, .ref 91, .ref 92, .int 0, .int 0, .int 0, .int 0, .int 0, .ref 93, .ref 94, .ref 95, .ref 96, .int 0, .ref 97, .int 0, .int 0, .ref 98, .ref 99, .ref 100, .ref 101, .ref 102, .ref 103, .ref 104, .null, .null, .int 0, .null, .null, .null, .null, .int 0, .null, .null, .int 0, .int 0, .int 0, .int 0])) = s52_ at m52_ ⊢
  refine g_p t174_223 rfl ?_
  refine g_k (n := 12) t174_224 rfl rfl ?_
  refine r_newi t174_226 (by decide) (by decide) ?_
  rw [m52_.nx]
  have m53_ := m52_.row (e := .inl (0, 12, .inl (fun _ => 0))) (n := 12) rfl
  generalize wn s52_ (.inl (0, 12, .inl (fun _ => 0))) 12 = s53_ at m53_ ⊢
  refine r_putr (f2 := [.int 0, .ref 81, .ref 82, .ref 83, .ref 84, .retAddr 7, .int 0, .int 0, .int 0, .int 0, .int 0, .int 0, .int 0, .int 0, .int 0, .retAddr 2, .retAddr 3, .int 0, .ref 85, .ref 86, .int 0, .int 0, .int 0, .int 0, .ref 87, .ref 88, .ref 89, .ref 90, .int 0, .ref 91, .ref 92, .int 0, .int 0, .int 0, .int 0, .int 0, .ref 93, .ref 94, .ref 95, .ref 96, .int 0, .ref 97, .int 0, .int 0, .ref 98, .ref 99, .ref 100, .ref 101, .ref 102, .ref 103, .ref 104, .ref 105, .null, .int 0, .null, .null, .null, .null, .int 0, .null, .null, .int 0, .int 0, .int 0, .int 0]) t174_228 m53_.h rfl rfl rfl rfl rfl ?_
  have m54_ := m53_.put (e := .inr (12, [.int 0, .ref 81, .ref 82, .ref 83, .ref 84, .retAddr 7, .int 0, .int 0, .int 0, .int 0, .int 0, .int 0, .int 0, .int 0, .int 0, .retAddr 2, .retAddr 3, .int 0, .ref 85, .ref 86, .int 0, .int 0, .int 0, .int 0, .ref 87, .ref 88, .ref 89, .ref 90, .int 0, .ref 91, .ref 92, .int 0, .int 0, .int 0, .int 0, .int 0, .ref 93, .ref 94, .ref 95, .ref 96, .int 0, .ref 97, .int 0, .int 0, .ref 98, .ref 99, .ref 100, .ref 101, .ref 102, .ref 103, .ref 104, .ref 105, .null, .int 0, .null, .null, .null, .null, .int 0, .null, .null, .int 0, .int 0, .int 0, .int 0])) hE
  generalize wr s53_ 80 (.inr (12, [.int 0, .ref 81, .ref 82, .ref 83, .ref 84, .retAddr 7, .int 0, .int 0, .int 0, .int 0, .int 0, .int 0, .int 0, .int 0, .int 0, .retAddr 2, .retAddr 3, .int 0, .ref 85, .ref 86, .int 0, .int 0, .int 0, .int 0, .ref 87, .ref 88, .ref 89, .ref 90, .int 0, .ref 91, .ref 92, .int 0, .int 0, .int 0, .int 0, .int 0, .ref 93, .ref 94, .ref 95, .ref 96, .int 0, .ref 97, .int 0, .int 0, .ref 98, .ref 99, .ref 100, .ref 101, .ref 102, .ref 103, .ref 104, .ref 105, .null, .int 0, .null, .null, .null, .null, .int 0, .null, .null, .int 0, .int 0, .int 0, .int 0])) = s54_ at m54_ ⊢
  refine g_p t174_231 rfl ?_
  refine g_k (n := 12) t174_232 rfl rfl ?_
  refine r_newi t174_234 (by decide) (by decide) ?_
  rw [m54_.nx]
  have m55_ := m54_.row (e := .inl (0, 12, .inl (fun _ => 0))) (n := 12) rfl
  generalize wn s54_ (.inl (0, 12, .inl (fun _ => 0))) 12 = s55_ at m55_ ⊢
  refine r_putr (f2 := [.int 0, .ref 81, .ref 82, .ref 83, .ref 84, .retAddr 7, .int 0, .int 0, .int 0, .int 0, .int 0, .int 0, .int 0, .int 0, .int 0, .retAddr 2, .retAddr 3, .int 0, .ref 85, .ref 86, .int 0, .int 0, .int 0, .int 0, .ref 87, .ref 88, .ref 89, .ref 90, .int 0, .ref 91, .ref 92, .int 0, .int 0, .int 0, .int 0, .int 0, .ref 93, .ref 94, .ref 95, .ref 96, .int 0, .ref 97, .int 0, .int 0, .ref 98, .ref 99, .ref 100, .ref 101, .ref 102, .ref 103, .ref 104, .ref 105, .ref 106, .int 0, .null, .null, .null, .null, .int 0, .null, .null, .int 0, .int 0, .int 0, .int 0]) t174_236 m55_.h rfl rfl rfl rfl rfl ?_
  have m56_ := m55_.put (e := .inr (12, [.int 0, .ref 81, .ref 82, .ref 83, .ref 84, .retAddr 7, .int 0, .int 0, .int 0, .int 0, .int 0, .int 0, .int 0, .int 0, .int 0, .retAddr 2, .retAddr 3, .int 0, .ref 85, .ref 86, .int 0, .int 0, .int 0, .int 0, .ref 87, .ref 88, .ref 89, .ref 90, .int 0, .ref 91, .ref 92, .int 0, .int 0, .int 0, .int 0, .int 0, .ref 93, .ref 94, .ref 95, .ref 96, .int 0, .ref 97, .int 0, .int 0, .ref 98, .ref 99, .ref 100, .ref 101, .ref 102, .ref 103, .ref 104, .ref 105, .ref 106, .int 0, .null, .null, .null, .null, .int 0, .null, .null, .int 0, .int 0, .int 0, .int 0])) hE
  generalize wr s55_ 80 (.inr (12, [.int 0, .ref 81, .ref 82, .ref 83, .ref 84, .retAddr 7, .int 0, .int 0, .int 0, .int 0, .int 0, .int 0, .int 0, .int 0, .int 0, .retAddr 2, .retAddr 3, .int 0, .ref 85, .ref 86, .int 0, .int 0, .int 0, .int 0, .ref 87, .ref 88, .ref 89, .ref 90, .int 0, .ref 91, .ref 92, .int 0, .int 0, .int 0, .int 0, .int 0, .ref 93, .ref 94, .ref 95, .ref 96, .int 0, .ref 97, .int 0, .int 0, .ref 98, .ref 99, .ref 100, .ref 101, .ref 102, .ref 103, .ref 104, .ref 105, .ref 106, .int 0, .null, .null, .null, .null, .int 0, .null, .null, .int 0, .int 0, .int 0, .int 0])) = s56_ at m56_ ⊢
  refine g_p t174_239 rfl ?_
  refine g_k (n := 243) t174_240 rfl rfl ?_
  refine r_newl t174_243 (by decide) ?_
  rw [m56_.nx]
  have m57_ := m56_.row (e := .inl (3, 243, .inr (.inl (fun _ => 0)))) (n := 243) rfl
  generalize wn s56_ (.inl (3, 243, .inr (.inl (fun _ => 0)))) 243 = s57_ at m57_ ⊢
  refine r_putr (f2 := [.int 0, .ref 81, .ref 82, .ref 83, .ref 84, .retAddr 7, .int 0, .int 0, .int 0, .int 0, .int 0, .int 0, .int 0, .int 0, .int 0, .retAddr 2, .retAddr 3, .int 0, .ref 85, .ref 86, .int 0, .int 0, .int 0, .int 0, .ref 87, .ref 88, .ref 89, .ref 90, .int 0, .ref 91, .ref 92, .int 0, .int 0, .int 0, .int 0, .int 0, .ref 93, .ref 94, .ref 95, .ref 96, .int 0, .ref 97, .int 0, .int 0, .ref 98, .ref 99, .ref 100, .ref 101, .ref 102, .ref 103, .ref 104, .ref 105, .ref 106, .int 0, .ref 107, .null, .null, .null, .int 0, .null, .null, .int 0, .int 0, .int 0, .int 0]) t174_245 m57_.h rfl rfl rfl rfl rfl ?_
  have m58_ := m57_.put (e := .inr (12, [.int 0, .ref 81, .ref 82, .ref 83, .ref 84, .retAddr 7, .int 0, .int 0, .int 0, .int 0, .int 0, .int 0, .int 0, .int 0, .int 0, .retAddr 2, .retAddr 3, .int 0, .ref 85, .ref 86, .int 0, .int 0, .int 0, .int 0, .ref 87, .ref 88, .ref 89, .ref 90, .int 0, .ref 91, .ref 92, .int 0, .int 0, .int 0, .int 0, .int 0, .ref 93, .ref 94, .ref 95, .ref 96, .int 0, .ref 97, .int 0, .int 0, .ref 98, .ref 99, .ref 100, .ref 101, .ref 102, .ref 103, .ref 104, .ref 105, .ref 106, .int 0, .ref 107, .null, .null, .null, .int 0, .null, .null, .int 0, .int 0, .int 0, .int 0])) hE
  generalize wr s57_ 80 (.inr (12, [.int 0, .ref 81, .ref 82, .ref 83, .ref 84, .retAddr 7, .int 0, .int 0, .int 0, .int 0, .int 0, .int 0, .int 0, .int 0, .int 0, .retAddr 2, .retAddr 3, .int 0, .ref 85, .ref 86, .int 0, .int 0, .int 0, .int 0, .ref 87, .ref 88, .ref 89, .ref 90, .int 0, .ref 91, .ref 92, .int 0, .int 0, .int 0, .int 0, .int 0, .ref 93, .ref 94, .ref 95, .ref 96, .int 0, .ref 97, .int 0, .int 0, .ref 98, .ref 99, .ref 100, .ref 101, .ref 102, .ref 103, .ref 104, .ref 105, .ref 106, .int 0, .ref 107, .null, .null, .null, .int 0, .null, .null, .int 0, .int 0, .int 0, .int 0])) = s58_ at m58_ ⊢
  refine g_p t174_248 rfl ?_
  refine g_k (n := 243) t174_249 rfl rfl ?_
  refine r_newl t174_252 (by decide) ?_
  rw [m58_.nx]
  have m59_ := m58_.row (e := .inl (3, 243, .inr (.inl (fun _ => 0)))) (n := 243) rfl
  generalize wn s58_ (.inl (3, 243, .inr (.inl (fun _ => 0)))) 243 = s59_ at m59_ ⊢
  refine r_putr (f2 := [.int 0, .ref 81, .ref 82, .ref 83, .ref 84, .retAddr 7, .int 0, .int 0, .int 0, .int 0, .int 0, .int 0, .int 0, .int 0, .int 0, .retAddr 2, .retAddr 3, .int 0, .ref 85, .ref 86, .int 0, .int 0, .int 0, .int 0, .ref 87, .ref 88, .ref 89, .ref 90, .int 0, .ref 91, .ref 92, .int 0, .int 0, .int 0, .int 0, .int 0, .ref 93, .ref 94, .ref 95, .ref 96, .int 0, .ref 97, .int 0, .int 0, .ref 98, .ref 99, .ref 100, .ref 101, .ref 102, .ref 103, .ref 104, .ref 105, .ref 106, .int 0, .ref 107, .ref 108, .null, .null, .int 0, .null, .null, .int 0, .int 0, .int 0, .int 0]) t174_254 m59_.h rfl rfl rfl rfl rfl ?_
  have m60_ := m59_.put (e := .inr (12, [.int 0, .ref 81, .ref 82, .ref 83, .ref 84, .retAddr 7, .int 0, .int 0, .int 0, .int 0, .int 0, .int 0, .int 0, .int 0, .int 0, .retAddr 2, .retAddr 3, .int 0, .ref 85, .ref 86, .int 0, .int 0, .int 0, .int 0, .ref 87, .ref 88, .ref 89, .ref 90, .int 0, .ref 91, .ref 92, .int 0, .int 0, .int 0, .int 0, .int 0, .ref 93, .ref 94, .ref 95, .ref 96, .int 0, .ref 97, .int 0, .int 0, .ref 98, .ref 99, .ref 100, .ref 101, .ref 102, .ref 103, .ref 104, .ref 105, .ref 106, .int 0, .ref 107, .ref 108, .null, .null, .int 0, .null, .null, .int 0, .int 0, .int 0, .int 0])) hE
  generalize wr s59_ 80 (.inr (12, [.int 0, .ref 81, .ref 82, .ref 83, .ref 84, .retAddr 7, .int 0, .int 0, .int 0, .int 0, .int 0, .int 0, .int 0, .int 0, .int 0, .retAddr 2, .retAddr 3, .int 0, .ref 85, .ref 86, .int 0, .int 0, .int 0, .int 0, .ref 87, .ref 88, .ref 89, .ref 90, .int 0, .ref 91, .ref 92, .int 0, .int 0, .int 0, .int 0, .int 0, .ref 93, .ref 94, .ref 95, .ref 96, .int 0, .ref 97, .int 0, .int 0, .ref 98, .ref 99, .ref 100, .ref 101, .ref 102, .ref 103, .ref 104, .ref 105, .ref 106, .int 0, .ref 107, .ref 108, .null, .null, .int 0, .null, .null, .int 0, .int 0, .int 0, .int 0])) = s60_ at m60_ ⊢
  refine g_p t174_257 rfl ?_
  refine g_k (n := 12) t174_258 rfl rfl ?_
  refine r_newi t174_260 (by decide) (by decide) ?_
  rw [m60_.nx]
  have m61_ := m60_.row (e := .inl (0, 12, .inl (fun _ => 0))) (n := 12) rfl
  generalize wn s60_ (.inl (0, 12, .inl (fun _ => 0))) 12 = s61_ at m61_ ⊢
  refine r_putr (f2 := [.int 0, .ref 81, .ref 82, .ref 83, .ref 84, .retAddr 7, .int 0, .int 0, .int 0, .int 0, .int 0, .int 0, .int 0, .int 0, .int 0, .retAddr 2, .retAddr 3, .int 0, .ref 85, .ref 86, .int 0, .int 0, .int 0, .int 0, .ref 87, .ref 88, .ref 89, .ref 90, .int 0, .ref 91, .ref 92, .int 0, .int 0, .int 0, .int 0, .int 0, .ref 93, .ref 94, .ref 95, .ref 96, .int 0, .ref 97, .int 0, .int 0, .ref 98, .ref 99, .ref 100, .ref 101, .ref 102, .ref 103, .ref 104, .ref 105, .ref 106, .int 0, .ref 107, .ref 108, .ref 109, .null, .int 0, .null, .null, .int 0, .int 0, .int 0, .int 0]) t174_262 m61_.h rfl rfl rfl rfl rfl ?_
  have m62_ := m61_.put (e := .inr (12, [.int 0, .ref 81, .ref 82, .ref 83, .ref 84, .retAddr 7, .int 0, .int 0, .int 0, .int 0, .int 0, .int 0, .int 0, .int 0, .int 0, .retAddr 2, .retAddr 3, .int 0, .ref 85, .ref 86, .int 0, .int 0, .int 0, .int 0, .ref 87, .ref 88, .ref 89, .ref 90, .int 0, .ref 91, .ref 92, .int 0, .int 0, .int 0, .int 0, .int 0, .ref 93, .ref 94, .ref 95, .ref 96, .int 0, .ref 97, .int 0, .int 0, .ref 98, .ref 99, .ref 100, .ref 101, .ref 102, .ref 103, .ref 104, .ref 105, .ref 106, .int 0, .ref 107, .ref 108, .ref 109, .null, .int 0, .null, .null, .int 0, .int 0, .int 0, .int 0])) hE
  generalize wr s61_ 80 (.inr (12, [.int 0, .ref 81, .ref 82, .ref 83, .ref 84, .retAddr 7, .int 0, .int 0, .int 0, .int 0, .int 0, .int 0, .int 0, .int 0, .int 0, .retAddr 2, .retAddr 3, .int 0, .ref 85, .ref 86, .int 0, .int 0, .int 0, .int 0, .ref 87, .ref 88, .ref 89, .ref 90, .int 0, .ref 91, .ref 92, .int 0, .int 0, .int 0, .int 0, .int 0, .ref 93, .ref 94, .ref 95, .ref 96, .int 0, .ref 97, .int 0, .int 0, .ref 98, .ref 99, .ref 100, .ref 101, .ref 102, .ref 103, .ref 104, .ref 105, .ref 106, .int 0, .ref 107, .ref 108, .ref 109, .null, .int 0, .null, .null, .int 0, .int 0, .int 0, .int 0])) = s62_ at m62_ ⊢
  refine g_p t174_265 rfl ?_
  refine g_k (n := 12) t174_266 rfl rfl ?_
  refine r_newi t174_268 (by decide) (by decide) ?_
  rw [m62_.nx]
  have m63_ := m62_.row (e := .inl (0, 12, .inl (fun _ => 0))) (n := 12) rfl
  generalize wn s62_ (.inl (0, 12, .inl (fun _ => 0))) 12 = s63_ at m63_ ⊢
  refine r_putr (f2 := [.int 0, .ref 81, .ref 82, .ref 83, .ref 84, .retAddr 7, .int 0, .int 0, .int 0, .int 0, .int 0, .int 0, .int 0, .int 0, .int 0, .retAddr 2, .retAddr 3, .int 0, .ref 85, .ref 86, .int 0, .int 0, .int 0, .int 0, .ref 87, .ref 88, .ref 89, .ref 90, .int 0, .ref 91, .ref 92, .int 0, .int 0, .int 0, .int 0, .int 0, .ref 93, .ref 94, .ref 95, .ref 96, .int 0, .ref 97, .int 0, .int 0, .ref 98, .ref 99, .ref 100, .ref 101, .ref 102, .ref 103, .ref 104, .ref 105, .ref 106, .int 0, .ref 107, .ref 108, .ref 109, .ref 110, .int 0, .null, .null, .int 0, .int 0, .int 0, .int 0]) t174_270 m63_.h rfl rfl rfl rfl rfl ?_
  have m64_ := m63_.put (e := .inr (12, [.int 0, .ref 81, .ref 82, .ref 83, .ref 84, .retAddr 7, .int 0, .int 0, .int 0, .int 0, .int 0, .int 0, .int 0, .int 0, .int 0, .retAddr 2, .retAddr 3, .int 0, .ref 85, .ref 86, .int 0, .int 0, .int 0, .int 0, .ref 87, .ref 88, .ref 89, .ref 90, .int 0, .ref 91, .ref 92, .int 0, .int 0, .int 0, .int 0, .int 0, .ref 93, .ref 94, .ref 95, .ref 96, .int 0, .ref 97, .int 0, .int 0, .ref 98, .ref 99, .ref 100, .ref 101, .ref 102, .ref 103, .ref 104, .ref 105, .ref 106, .int 0, .ref 107, .ref 108, .ref 109, .ref 110, .int 0, .null, .null, .int 0, .int 0, .int 0, .int 0])) hE
  generalize wr s63_ 80 (.inr (12, [.int 0, .ref 81, .ref 82, .ref 83, .ref 84, .retAddr 7, .int 0, .int 0, .int 0, .int 0, .int 0, .int 0, .int 0, .int 0, .int 0, .retAddr 2, .retAddr 3, .int 0, .ref 85, .ref 86, .int 0, .int 0, .int 0, .int 0, .ref 87, .ref 88, .ref 89, .ref 90, .int 0, .ref 91, .ref 92, .int 0, .int 0, .int 0, .int 0, .int 0, .ref 93, .ref 94, .ref 95, .ref 96, .int 0, .ref 97, .int 0, .int 0, .ref 98, .ref 99, .ref 100, .ref 101, .ref 102, .ref 103, .ref 104, .ref 105, .ref 106, .int 0, .ref 107, .ref 108, .ref 109, .ref 110, .int 0, .null, .null, .int 0, .int 0, .int 0, .int 0])) = s64_ at m64_ ⊢
  refine g_p t174_273 rfl ?_
  refine g_k (n := 60) t174_274 rfl rfl ?_
  refine r_newi t174_276 (by decide) (by decide) ?_
  rw [m64_.nx]
  have m65_ := m64_.row (e := .inl (0, 60, .inl (fun _ => 0))) (n := 60) rfl
  generalize wn s64_ (.inl (0, 60, .inl (fun _ => 0))) 60 = s65_ at m65_ ⊢
  refine r_putr (f2 := [.int 0, .ref 81, .ref 82, .ref 83, .ref 84, .retAddr 7, .int 0, .int 0, .int 0, .int 0, .int 0, .int 0, .int 0, .int 0, .int 0, .retAddr 2, .retAddr 3, .int 0, .ref 85, .ref 86, .int 0, .int 0, .int 0, .int 0, .ref 87, .ref 88, .ref 89, .ref 90, .int 0, .ref 91, .ref 92, .int 0, .int 0, .int 0, .int 0, .int 0, .ref 93, .ref 94, .ref 95, .ref 96, .int 0, .ref 97, .int 0, .int 0, .ref 98, .ref 99, .ref 100, .ref 101, .ref 102, .ref 103, .ref 104, .ref 105, .ref 106, .int 0, .ref 107, .ref 108, .ref 109, .ref 110, .int 0, .ref 111, .null, .int 0, .int 0, .int 0, .int 0]) t174_278 m65_.h rfl rfl rfl rfl rfl ?_
  have m66_ := m65_.put (e := .inr (12, [.int 0, .ref 81, .ref 82, .ref 83, .ref 84, .retAddr 7, .int 0, .int 0, .int 0, .int 0, .int 0, .int 0, .int 0, .int 0, .int 0, .retAddr 2, .retAddr 3, .int 0, .ref 85, .ref 86, .int 0, .int 0, .int 0, .int 0, .ref 87, .ref 88, .ref 89, .ref 90, .int 0, .ref 91, .ref 92, .int 0, .int 0, .int 0, .int 0, .int 0, .ref 93, .ref 94, .ref 95, .ref 96, .int 0, .ref 97, .int 0, .int 0, .ref 98, .ref 99, .ref 100, .ref 101, .ref 102, .ref 103, .ref 104, .ref 105, .ref 106, .int 0, .ref 107, .ref 108, .ref 109, .ref 110, .int 0, .ref 111, .null, .int 0, .int 0, .int 0, .int 0])) hE
  generalize wr s65_ 80 (.inr (12, [.int 0, .ref 81, .ref 82, .ref 83, .ref 84, .retAddr 7, .int 0, .int 0, .int 0, .int 0, .int 0, .int 0, .int 0, .int 0, .int 0, .retAddr 2, .retAddr 3, .int 0, .ref 85, .ref 86, .int 0, .int 0, .int 0, .int 0, .ref 87, .ref 88, .ref 89, .ref 90, .int 0, .ref 91, .ref 92, .int 0, .int 0, .int 0, .int 0, .int 0, .ref 93, .ref 94, .ref 95, .ref 96, .int 0, .ref 97, .int 0, .int 0, .ref 98, .ref 99, .ref 100, .ref 101, .ref 102, .ref 103, .ref 104, .ref 105, .ref 106, .int 0, .ref 107, .ref 108, .ref 109, .ref 110, .int 0, .ref 111, .null, .int 0, .int 0, .int 0, .int 0])) = s66_ at m66_ ⊢
  refine g_p t174_281 rfl ?_
  refine g_k (n := 3) t174_282 rfl rfl ?_
  refine r_newi t174_283 (by decide) (by decide) ?_
  rw [m66_.nx]
  have m67_ := m66_.row (e := .inl (0, 3, .inl (fun _ => 0))) (n := 3) rfl
  generalize wn s66_ (.inl (0, 3, .inl (fun _ => 0))) 3 = s67_ at m67_ ⊢
  refine r_putr (f2 := [.int 0, .ref 81, .ref 82, .ref 83, .ref 84, .retAddr 7, .int 0, .int 0, .int 0, .int 0, .int 0, .int 0, .int 0, .int 0, .int 0, .retAddr 2, .retAddr 3, .int 0, .ref 85, .ref 86, .int 0, .int 0, .int 0, .int 0, .ref 87, .ref 88, .ref 89, .ref 90, .int 0, .ref 91, .ref 92, .int 0, .int 0, .int 0, .int 0, .int 0, .ref 93, .ref 94, .ref 95, .ref 96, .int 0, .ref 97, .int 0, .int 0, .ref 98, .ref 99, .ref 100, .ref 101, .ref 102, .ref 103, .ref 104, .ref 105, .ref 106, .int 0, .ref 107, .ref 108, .ref 109, .ref 110, .int 0, .ref 111, .ref 112, .int 0, .int 0, .int 0, .int 0]) t174_285 m67_.h rfl rfl rfl rfl rfl ?_
  have m68_ := m67_.put (e := .inr (12, [.int 0, .ref 81, .ref 82, .ref 83, .ref 84, .retAddr 7, .int 0, .int 0, .int 0, .int 0, .int 0, .int 0, .int 0, .int 0, .int 0, .retAddr 2, .retAddr 3, .int 0, .ref 85, .ref 86, .int 0, .int 0, .int 0, .int 0, .ref 87, .ref 88, .ref 89, .ref 90, .int 0, .ref 91, .ref 92, .int 0, .int 0, .int 0, .int 0, .int 0, .ref 93, .ref 94, .ref 95, .ref 96, .int 0, .ref 97, .int 0, .int 0, .ref 98, .ref 99, .ref 100, .ref 101, .ref 102, .ref 103, .ref 104, .ref 105, .ref 106, .int 0, .ref 107, .ref 108, .ref 109, .ref 110, .int 0, .ref 111, .ref 112, .int 0, .int 0, .int 0, .int 0])) hE
  generalize wr s67_ 80 (.inr (12, [.int 0, .ref 81, .ref 82, .ref 83, .ref 84, .retAddr 7, .int 0, .int 0, .int 0, .int 0, .int 0, .int 0, .int 0, .int 0, .int 0, .retAddr 2, .retAddr 3, .int 0, .ref 85, .ref 86, .int 0, .int 0, .int 0, .int 0, .ref 87, .ref 88, .ref 89, .ref 90, .int 0, .ref 91, .ref 92, .int 0, .int 0, .int 0, .int 0, .int 0, .ref 93, .ref 94, .ref 95, .ref 96, .int 0, .ref 97, .int 0, .int 0, .ref 98, .ref 99, .ref 100, .ref 101, .ref 102, .ref 103, .ref 104, .ref 105, .ref 106, .int 0, .ref 107, .ref 108, .ref 109, .ref 110, .int 0, .ref 111, .ref 112, .int 0, .int 0, .int 0, .int 0])) = s68_ at m68_ ⊢
  exact v_ret t174_288 (hq s68_ ((m68_.pop rfl).sl (by omega)))
end TZV
