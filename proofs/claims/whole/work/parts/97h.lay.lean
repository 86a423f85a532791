/-! THE ROWS LAID: FlowerPots$Rows.lay -/
/-- the same but for the ints of the cells A -/
def Fr (A : List Nat) (s s' : mM) : Prop := s'.1 = s.1 ∧ s'.2.2 = s.2.2 ∧ ∀ p, p ∉ A → s'.2.1 p = s.2.1 p
theorem Fr.rf {A : List Nat} {s : mM} : Fr A s s := ⟨rfl, rfl, fun _ _ => rfl⟩
theorem Fr.tr {A : List Nat} {s s' s'' : mM} (h : Fr A s s') (h2 : Fr A s' s'') : Fr A s s'' := ⟨h2.1.trans h.1, h2.2.1.trans h.2.1, fun p hp => (h2.2.2 p hp).trans (h.2.2 p hp)⟩
theorem Fr.mono {A B : List Nat} {s s' : mM} (h : Fr A s s') (hs : ∀ p ∈ A, p ∈ B) : Fr B s s' := ⟨h.1, h.2.1, fun p hp => h.2.2 p (fun h3 => hp (hs p h3))⟩
theorem Fr.wf {A : List Nat} {s s' : mM} {p : Nat} {f : Nat → Int32} (h : Fr A s s') (hp : p ∈ A) : Fr A s (wf s' p f) := ⟨h.1, h.2.1, fun q hq => by
  have : q ≠ p := fun e => hq (e ▸ hp)
  show m_up s'.2.1 p f q = _
  rw [m_up_ne this]; exact h.2.2 q hq⟩
theorem Fr.wi {A : List Nat} {s s' : mM} {p i : Nat} {v : Int32} (h : Fr A s s') (hp : p ∈ A) : Fr A s (wi s' p i v) := h.wf hp
theorem Fr.ri {A : List Nat} {s s' : mM} (h : Fr A s s') {p i : Nat} (hp : p ∉ A) : ri s' p i = ri s p i := congrFun (h.2.2 p hp) i
theorem Fx.fr {A : List Nat} {s s' : mM} (h : Fx s) (f : Fr A s s') : Fx s' := fun p hp => by rw [f.1]; exact h p hp
theorem ri_wi_eq {s : mM} {p i : Nat} {v : Int32} : ri (wi s p i v) p i = v := by rw [ri_wi, if_pos ⟨rfl, rfl⟩]
theorem ri_wi_j {s : mM} {p q i j : Nat} {v : Int32} (h : j ≠ i) : ri (wi s p i v) q j = ri s q j := by rw [ri_wi, if_neg (fun h2 => h h2.2)]
section LA
variable {X : am_X} {d : Nat} {s : mM} {Q : Option Value → am_H → Prop} {P c q v : Nat} {a : Int32}
/-- the neighbors of a row as they lie in the tables -/
def blk (s : mM) (c : Nat) (l : List Nat) : Prop := ri s 29 c = nI l.length ∧ ∀ k, k < l.length → ri s 31 (c * 14 + k) = nI (l.getD k 0)
/-- those of the others are as they were -/
def Ob (c : Nat) (s s' : mM) : Prop := (∀ c', c' ≠ c → ri s' 29 c' = ri s 29 c') ∧ ∀ i, i < c * 14 ∨ c * 14 + 14 ≤ i → ri s' 31 i = ri s 31 i
theorem Ob.rf : Ob c s s := ⟨fun _ _ => rfl, fun _ _ => rfl⟩
theorem Ob.tr {s' s'' : mM} (h : Ob c s s') (h2 : Ob c s' s'') : Ob c s s'' := ⟨fun x hx => (h2.1 x hx).trans (h.1 x hx), fun x hx => (h2.2 x hx).trans (h.2 x hx)⟩
theorem gD_lt {l : List Nat} {k : Nat} (h : k < l.length) : l.getD k 0 = l[k] := by simp [List.getD, h]
theorem ins_split {x : Nat} : ∀ {l : List Nat} {k : Nat}, k ≤ l.length → (∀ j, j < k → l.getD j 0 ≤ x) → (∀ j, k ≤ j → j < l.length → x < l.getD j 0) → ins x l = l.take k ++ x :: l.drop k := by
  intro l
  induction l with
  | nil => intro k hk _ _; simp [ins]
  | cons y t ih =>
    intro k hk h1 h2
    cases k with
    | zero =>
      have : x < y := h2 0 (Nat.le_refl _) (by simp)
      unfold ins
      rw [if_neg (by omega)]
      rfl
    | succ k =>
      have : y ≤ x := h1 0 (by omega)
      unfold ins
      rw [if_pos this, ih (k := k) (by simpa using hk) (fun j hj => h1 (j + 1) (by omega)) (fun j hj hl => h2 (j + 1) (by omega) (by simpa using hl))]
      rfl
theorem take_getD {x : Nat} {l : List Nat} {k i : Nat} (hk : k ≤ l.length) : (l.take k ++ x :: l.drop k).getD i 0 = if i < k then l.getD i 0 else if i = k then x else l.getD (i - 1) 0 := by
  simp only [List.getD]
  by_cases h : i < k
  · rw [if_pos h, List.getElem?_append_left (by simp; omega), List.getElem?_take_of_lt h]
  · rw [if_neg h, List.getElem?_append_right (by simp; omega)]
    have e : (l.take k).length = k := by simp; omega
    rw [e]
    by_cases h2 : i = k
    · subst h2; simp
    · rw [if_neg h2]
      obtain ⟨j, rfl⟩ : ∃ j, i = k + (j + 1) := ⟨i - k - 1, by omega⟩
      have e2 : k + (j + 1) - k = j + 1 := by omega
      have e3 : k + (j + 1) - 1 = k + j := by omega
      rw [e2, e3, List.getElem?_cons_succ, List.getElem?_drop]
theorem srt_getD {l : List Nat} (h : l.Pairwise (· ≤ ·)) {i j : Nat} (hij : i ≤ j) (hj : j < l.length) : l.getD i 0 ≤ l.getD j 0 := by
  rw [gD_lt (by omega), gD_lt hj]
  rcases Nat.lt_or_eq_of_le hij with h2 | h2
  · exact List.pairwise_iff_getElem.mp h i j (by omega) hj h2
  · subst h2; exact Nat.le_refl _
theorem c73 (hF : Fx s) {t : Nat} {l : List Nat} (hc : c < 243) (ht : t < 243) (hb : blk s c l) (hl : l.length < 14) (hs : l.Pairwise (· ≤ ·)) (h2 : ∀ x ∈ l, x < 243)
    (hq : ∀ s', Fr [29, 31] s s' → Ob c s s' → blk s' c (ins t l) → Q none (mR s')) : gE X (d + 1) 73 [.ref 19, .int (nI c), .int (nI t)] (mR s) Q := by
  have h2 : ∀ j, j < l.length → l.getD j 0 < 243 := fun j hj => by rw [gD_lt hj]; exact h2 _ (List.getElem_mem hj)
  have L : ∀ k, k ≤ l.length → ∀ s', Fr [29, 31] s s' → Ob c s s' → ri s' 29 c = nI (l.length + 1) → (∀ i, i < k → ri s' 31 (c * 14 + i) = nI (l.getD i 0)) → (∀ i, k ≤ i → i < l.length → ri s' 31 (c * 14 + i + 1) = nI (l.getD i 0) ∧ t < l.getD i 0) →
      gG X (d + 1) 73 27 [.ref 19, .int (nI c), .int (nI t), .int (nI (c * 14)), .int (nI k)] [] (mR s') Q := by
    intro k
    have fin : ∀ k, k ≤ l.length → ∀ s', Fr [29, 31] s s' → Ob c s s' → ri s' 29 c = nI (l.length + 1) → (∀ i, i < k → ri s' 31 (c * 14 + i) = nI (l.getD i 0)) → (∀ i, k ≤ i → i < l.length → ri s' 31 (c * 14 + i + 1) = nI (l.getD i 0) ∧ t < l.getD i 0) → (0 < k → l.getD (k - 1) 0 ≤ t) →
        gG X (d + 1) 73 79 [.ref 19, .int (nI c), .int (nI t), .int (nI (c * 14)), .int (nI k)] [] (mR s') Q := by
      intro k hk s' hF2 hO hC29 hlo hhi hlt
      replace hF : Fx s' := hF.fr hF2
      refine g_p t73_79 rfl ?_
      refine r_getr t73_80 (f19 hF) rfl rfl ?_
      refine g_p t73_83 rfl ?_
      refine g_p t73_84 rfl ?_
      refine g_addn t73_86 ?_
      refine g_p t73_87 rfl ?_
      refine r_cv t73_88 (f30 hF) rfl ?_
      refine c31 (by exact fN30 hF) (by omega) ?_
      refine k_0 ?_
      refine v_ret t73_91 (hq _ (hF2.wi (by simp)) ⟨hO.1, fun i hi => ?_⟩ ?_)
      · rw [ri_wi_j (by omega)]; exact hO.2 i hi
      · have e := ins_split (x := t) hk (fun j hj => Nat.le_trans (srt_getD hs (show j ≤ k - 1 by omega) (by omega)) (hlt (by omega))) (fun j hj hj2 => (hhi j hj hj2).2)
        refine ⟨?_, fun i hi => ?_⟩
        · rw [ins_len]; exact hC29
        · rw [ins_len] at hi
          rw [e, take_getD hk]
          by_cases h3 : i < k
          · rw [if_pos h3, ri_wi_j (by omega)]; exact hlo i h3
          · rw [if_neg h3]
            by_cases h4 : i = k
            · subst h4; rw [if_pos rfl, ri_wi_eq]
            · rw [if_neg h4, ri_wi_j (by omega)]
              have := (hhi (i - 1) (by omega) (by omega)).1
              rw [show c * 14 + (i - 1) + 1 = c * 14 + i by omega] at this
              exact this
    induction k with
    | zero =>
      intro hk s' hF2 hO hC29 hlo hhi
      have hF : Fx s' := hF.fr hF2
      refine g_p t73_27 rfl ?_
      refine n_le t73_29 (by omega) (fun h29 => ?_) (fun h29 => ?_)
      · exact fin 0 hk s' hF2 hO hC29 hlo hhi (fun h => absurd h (by decide))
      · exfalso; omega
    | succ k ih =>
      intro hk s' hF2 hO hC29 hlo hhi
      have hF : Fx s' := hF.fr hF2
      have hk1 : c * 14 + (k + 1) - 1 = c * 14 + k := by omega
      have hlk : l.getD k 0 < 243 := h2 k (by omega)
      refine g_p t73_27 rfl ?_
      refine n_le t73_29 (by omega) (fun h29 => ?_) (fun h29 => ?_)
      · first
          | (exfalso; omega)
          | exact fin (k + 1) hk s' hF2 hO hC29 hlo hhi (fun _ => by rw [Nat.add_sub_cancel]; exact h46)
      · refine g_p t73_32 rfl ?_
        refine r_getr t73_33 (f19 hF) rfl rfl ?_
        refine g_p t73_36 rfl ?_
        refine g_p t73_37 rfl ?_
        refine g_addn t73_39 ?_
        refine g_k (n := 1) t73_40 rfl rfl ?_
        refine g_subn t73_41 (by omega) ?_
        refine r_cv t73_42 (f30 hF) rfl ?_
        refine c30e (by exact fN30 hF) (by omega) ((congrArg (ri s' 31) hk1).trans (hlo k (Nat.lt_succ_self k))) ?_
        refine k_v ?_ rfl
        refine g_p t73_45 rfl ?_
        refine n_cle t73_46 (by omega) (by omega) (fun h46 => ?_) (fun h46 => ?_)
        · first
            | (exfalso; omega)
            | exact fin (k + 1) hk s' hF2 hO hC29 hlo hhi (fun _ => by rw [Nat.add_sub_cancel]; exact h46)
        · refine g_p t73_49 rfl ?_
          refine r_getr t73_50 (f19 hF) rfl rfl ?_
          refine g_p t73_53 rfl ?_
          refine g_p t73_54 rfl ?_
          refine g_addn t73_56 ?_
          refine g_p t73_57 rfl ?_
          refine r_getr t73_58 (f19 hF) rfl rfl ?_
          refine g_p t73_61 rfl ?_
          refine g_p t73_62 rfl ?_
          refine g_addn t73_64 ?_
          refine g_k (n := 1) t73_65 rfl rfl ?_
          refine g_subn t73_66 (by omega) ?_
          refine r_cv t73_67 (f30 hF) rfl ?_
          refine c30e (by exact fN30 hF) (by omega) ((congrArg (ri s' 31) hk1).trans (hlo k (Nat.lt_succ_self k))) ?_
          refine k_v ?_ rfl
          refine r_cv t73_70 (f30 hF) rfl ?_
          refine c31 (by exact fN30 hF) (by omega) ?_
          refine k_0 ?_
          refine g_decn t73_73 rfl rfl (Nat.le_of_ble_eq_true rfl) (am_s1_4 rfl) ?_
          refine g_goto t73_76 ?_
          refine ih (by omega) _ (hF2.wi (by simp)) ⟨hO.1, fun i hi => ?_⟩ hC29 (fun i hi => ?_) (fun i hi hi2 => ?_)
          · rw [ri_wi_j (by omega)]; exact hO.2 i hi
          · rw [ri_wi_j (by omega)]; exact hlo i (by omega)
          · by_cases h3 : i = k
            · subst h3
              rw [show c * 14 + i + 1 = c * 14 + (i + 1) by omega, ri_wi_eq]
              exact ⟨rfl, Nat.not_le.mp h46⟩
            · rw [ri_wi_j (by omega)]
              exact hhi i (by omega) hi2
  have hb1 := hb.1
  refine en73 rfl rfl rfl ?_
  refine g_p t73_0 rfl ?_
  refine g_k (n := 14) t73_1 rfl rfl ?_
  refine g_muln t73_3 ?_
  refine g_isn t73_4 (Nat.le_of_ble_eq_true rfl) (am_s1_3 rfl) ?_
  refine g_p t73_5 rfl ?_
  refine r_getr t73_6 (f19 hF) rfl rfl ?_
  refine g_p t73_9 rfl ?_
  refine r_cv t73_10 (f28 hF) rfl ?_
  refine c30e (by exact fN28 hF) (by omega) hb1 ?_
  refine k_v ?_ rfl
  refine g_is t73_13 (Nat.le_of_ble_eq_true rfl) (am_s1_4 rfl) ?_
  refine g_p t73_15 rfl ?_
  refine r_getr t73_16 (f19 hF) rfl rfl ?_
  refine g_p t73_19 rfl ?_
  refine g_p t73_20 rfl ?_
  refine g_k (n := 1) t73_22 rfl rfl ?_
  refine g_addn t73_23 ?_
  refine r_cv t73_24 (f28 hF) rfl ?_
  refine c31 (by exact fN28 hF) (by omega) ?_
  refine k_0 ?_
  refine L l.length (Nat.le_refl _) _ (Fr.rf.wi (by simp)) ⟨fun c' h => ri_wi_j h, fun i _ => rfl⟩ ri_wi_eq (fun i hi => hb.2 i hi) (fun i h3 h4 => absurd h4 (by omega))
end LA
