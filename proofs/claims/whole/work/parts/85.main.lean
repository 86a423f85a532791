/-! SOUNDNESS, 6: calls, returns, the whole machine -/
theorem am_la2_le {ts : List Nat} {X : am_X} {st st1 : List Value} {hp hp1 : am_H} (h : am_la2 ts X st hp = some (st1, hp1)) : hp1 = hp := by
  unfold am_la2 at h
  split at h
  · obtain ⟨x, -, h9⟩ := Option.bind_eq_some_iff.mp h
    split at h9
    · split at h9 <;> cases h9; rfl
    · cases h9
  · cases h
def am_le (hp hp1 : am_H) : Prop := hp.2.1 ≤ hp1.2.1 ∧ hp.2.2.1 ≤ hp1.2.2.1 ∧ hp.2.2.2 ≤ hp1.2.2.2
theorem am_le.rf {hp : am_H} : am_le hp hp := ⟨Nat.le_refl _, Nat.le_refl _, Nat.le_refl _⟩
theorem am_le.tr {a b c : am_H} (h : am_le a b) (k : am_le b c) : am_le a c := ⟨Nat.le_trans h.1 k.1, Nat.le_trans h.2.1 k.2.1, Nat.le_trans h.2.2 k.2.2⟩
theorem am_le.push {hp : am_H} {x : am_E} {n : Nat} : am_le hp (am_push hp x n) := ⟨Nat.le_succ _, Nat.le_succ _, Nat.le_add_right _ _⟩
set_option maxHeartbeats 4000000 in
theorem am_h_le {DF : Nat → List Value} {X : am_X} {i : ClassFile.Instr} {r : List Nat} {k : Value} {st st1 : List Value} {hp hp1 : am_H} (h : am_h DF X i r k st hp = some (st1, hp1)) : am_le hp hp1 := by
  cases i <;> simp only [am_h] at h <;> try (cases h; done)
  case iaload => rw [am_la2_le h]; exact am_le.rf
  case baload => rw [am_la2_le h]; exact am_le.rf
  case getfield ix =>
    split at h
    · obtain ⟨x, -, h9⟩ := Option.bind_eq_some_iff.mp h
      split at h9
      · split at h9
        · obtain ⟨w, -, h8⟩ := Option.bind_eq_some_iff.mp h9
          cases h8; exact am_le.rf
        · cases h9
      · cases h9
    · cases h
  case arraylength =>
    split at h
    · obtain ⟨x, -, h9⟩ := Option.bind_eq_some_iff.mp h
      split at h9
      · cases h9; exact am_le.rf
      · cases h9
    · cases h
  case invokestatic ix =>
    split at h
    · cases h
    · split at h
      · unfold am_mm at h; split at h <;> cases h; exact am_le.rf
      · unfold am_mm at h; split at h <;> cases h; exact am_le.rf
      · unfold am_ml at h; split at h <;> cases h; exact am_le.rf
      · unfold am_ml at h; split at h <;> cases h; exact am_le.rf
      · split at h
        · split at h
          · split at h <;> cases h; exact am_le.rf
          · split at h <;> cases h; exact am_le.rf
          · cases h
        · cases h
      · cases h
  all_goals
    (repeat' (split at h))
    all_goals first
      | (cases h; done)
      | (cases h; exact am_le.rf)
      | (cases h; exact am_le.push)
theorem am_ex_mn {T : am_Tb} {mx : Nat → Nat} {DF : Nat → List Value} {X : am_X} : ∀ (n d y pc : Nat) (ls st : List Value) (hp : am_H) (r : Option Value × am_H), am_ex T mx DF X n d y pc ls st hp = some r → am_le hp r.2 := by
  intro n
  induction n with
  | zero => intro d y pc ls st hp r h; simp [am_ex] at h
  | succ n ih =>
    intro d y pc ls st hp r h
    rw [am_ex] at h
    obtain ⟨t, ht, h⟩ := Option.bind_eq_some_iff.mp h
    obtain ⟨kd, i, nx, dt, k⟩ := t
    simp only at h
    split at h
    · obtain ⟨q, hq, h⟩ := Option.bind_eq_some_iff.mp h
      exact ih _ _ _ _ _ _ _ h
    · obtain ⟨q, hq, h⟩ := Option.bind_eq_some_iff.mp h
      exact ih _ _ _ _ _ _ _ h
    · obtain ⟨q, hq, h⟩ := Option.bind_eq_some_iff.mp h
      exact (am_h_le hq).tr (ih _ _ _ _ _ _ _ h)
    · cases d with
      | zero => simp at h
      | succ d =>
        simp only at h
        obtain ⟨q, hq, h⟩ := Option.bind_eq_some_iff.mp h
        split at h
        · obtain ⟨z, hz, h⟩ := Option.bind_eq_some_iff.mp h
          split at h
          · cases h
          · exact (ih _ _ _ _ _ _ _ hz).tr (ih _ _ _ _ _ _ _ h)
        · cases h
    · obtain ⟨q, hq, h⟩ := Option.bind_eq_some_iff.mp h
      cases h; exact am_le.rf
    · split at h
      · exact ih _ _ _ _ _ _ _ h
      · cases h
    · split at h
      · split at h
        · obtain ⟨z, hz, h⟩ := Option.bind_eq_some_iff.mp h
          have h1 := ih _ _ _ _ _ _ _ hz
          split at h
          · split at h
            · split at h
              · have h2 := ih _ _ _ _ _ _ _ h
                exact h1.tr h2
              · cases h
            · cases h
          · exact h1.tr (ih _ _ _ _ _ _ _ h)
          · cases h
        · cases h
      · cases h
    · split at h
      · cases h
        exact ⟨Nat.le_refl _, Nat.le_add_right _ _, Nat.le_add_right _ _⟩
      · cases h
/-- what a throw needs -/
def am_Th (A : Nat → Prop) (s : State) (H : Heap) : Prop := vx_Zq Bundle.tN "UNASSIGNED_STACK" Bundle.steD A s H ∧ vx_Zq Bundle.tN "SUPPRESSED_SENTINEL" Bundle.listD A s H ∧ ∃ sa, vk_R "FlowerPots" 212 "no such place" sa s
theorem am_Th.go {A : Nat → Prop} {s U : State} {H : Heap} {locs : List Loc} (h : am_Th A s s.heap) (hW : s.WarmedH U.vm) (hS : va_S A s.heap H locs) : am_Th A U H := by
  obtain ⟨h1, h2, sa, h3⟩ := h
  exact ⟨(h1.kept hS.2.1).moved hW.alike, (h2.kept hS.2.1).moved hW.alike, sa, h3.warm hW⟩
/-- what holds of a state at a method's start -/
def am_Cx (X : am_X) (tk : Nat → Value) (A : Nat → Prop) (cA dC : Nat → ClassId) (dI : Nat → Nat → Nat) (s : State) : Prop :=
  (∀ w ∈ lw_tbl, goodWord w = true → ∀ a, w.before a s = true) ∧ (∀ w ∈ lw_tbl, am_nw w = true → va_Nw w s) ∧ (va_AO "java/lang/Object" s ∧ am_Th A s s.heap) ∧ va_K (dC, dI) vwCl (am_tys cA) s ∧ am_St X tk A s s.heap ∧ ∀ q, s.heap.size ≤ q → A q
theorem am_St.go {X : am_X} {tk : Nat → Value} {A : Nat → Prop} {s U : State} {H : Heap} {locs : List Loc} (h : am_St X tk A s s.heap) (hW : s.WarmedH U.vm) (hS : va_S A s.heap H locs) : am_St X tk A U H := by
  have hq : ∀ a : Nat, a < s.heap.size → ¬ A a → H[a]? = s.heap[a]? := hS.2.1
  have hvm := hW.alike
  obtain ⟨⟨b, e0, hX, hbl, hbA⟩, ⟨q, e1, hql, hqA, hT, hZ⟩, ⟨adK, adV, hV, e2, e3, e4, e5, r1, r2⟩, hZ2, h6, hZ3⟩ := h
  exact ⟨⟨b, e0, (hX.kept (hq b hbl hbA)).moved hvm, Nat.lt_of_lt_of_le hbl hS.1, hbA⟩, ⟨q, e1, Nat.lt_of_lt_of_le hql hS.1, hqA, (hT.kept hq).moved hvm, (hZ.kept hq).moved hvm⟩, ⟨adK, adV, (hV.kept hq).moved hvm, e2, e3, e4, e5, r1.warm hW, r2.warm hW⟩, (hZ2.kept hq).moved hvm, h6, (hZ3.kept hq).moved hvm⟩
theorem am_nw_go {w : Cond} {s U : State} (hw : am_nw w = true) (hW : s.WarmedH U.vm) (h : va_Nw w s) : va_Nw w U := by
  unfold am_nw at hw
  split at hw
  · exact h.warmF hW
  · exact h.warmM hW
  · exact h.warmC hW
  · exact h.warmD hW
  · cases hw
theorem am_Cx.go {X : am_X} {tk : Nat → Value} {A : Nat → Prop} {cA dC : Nat → ClassId} {dI : Nat → Nat → Nat} {s U : State} {H : Heap} {locs : List Loc} (h : am_Cx X tk A cA dC dI s) (hU : U.heap = H) (hW : s.WarmedH U.vm) (hS : va_S A s.heap H locs) : am_Cx X tk A cA dC dI U := by
  obtain ⟨h1, h2, h3, h4, h5, h6⟩ := h
  exact ⟨fun w hw hg a => word_at hW (good_of_word hg) (h1 w hw hg #[]), fun w hw hn => am_nw_go hn hW (h2 w hw hn), ⟨h3.1.moved hW.alike, by rw [hU]; exact h3.2.go hW hS⟩, va_K.moved hW.alike h4, by rw [hU]; exact h5.go hW hS, fun q hq => h6 q (Nat.le_trans hS.1 (by rw [hU] at hq; exact hq))⟩
theorem am_Cx.call {X : am_X} {tk : Nat → Value} {A : Nat → Prop} {cA dC : Nat → ClassId} {dI : Nat → Nat → Nat} {U : State} {g : JFrame} {mk : MethodId} {a : Array Value} (h : am_Cx X tk A cA dC dI U) : am_Cx X tk A cA dC dI (U.calling g mk a) :=
  h.go (U := U.calling g mk a) (H := U.heap) (locs := []) rfl (State.WarmedH.refl U) va_S.rf
theorem am_flat_e {tk : Nat → Value} {ad : Nat → Nat} {nx : Nat} : ∀ {vs ws : List Value}, am_vs tk ad nx vs ws → (lg_sl ws).length = (am_flat vs).length ∧ ∀ (i : Nat) (v : Value), (am_flat vs)[i]? = some v → v = .float 0 ∨ ∃ w, am_vr tk ad nx v w ∧ (lg_sl ws)[i]? = some (.val w)
  | [], _, h => by rw [h]; exact ⟨rfl, fun i v hi => by simp [am_flat] at hi⟩
  | v :: vs, _, ⟨w, t, e1, h2, h3⟩ => by
    subst e1
    obtain ⟨i1, i2⟩ := am_flat_e h3
    have hsl : lg_sl (w :: t) = (if w.category = 2 then [Slot.val w, .second] else [.val w]) ++ lg_sl t := rfl
    rw [hsl]
    by_cases hl : ∃ x, v = .long x
    · obtain ⟨x, rfl⟩ := hl
      simp only [am_vr] at h2
      subst h2
      refine ⟨by simp [am_flat, i1, Value.category], fun i u hi => ?_⟩
      have hi : (Value.long x :: .float 0 :: am_flat vs)[i]? = some u := hi
      rcases i with _ | _ | i
      · cases hi; exact Or.inr ⟨_, rfl, rfl⟩
      · cases hi; exact Or.inl rfl
      · exact i2 i u (by simpa using hi)
    · have hf : am_flat (v :: vs) = v :: am_flat vs := by
        cases v <;> first | rfl | exact absurd ⟨_, rfl⟩ hl
      have hc : w.category = 1 := by
        rw [h2.cat]
        cases v <;> simp only [am_vr] at h2 <;> first | rfl | exact absurd ⟨_, rfl⟩ hl
      rw [hf, if_neg (by rw [hc]; decide)]
      refine ⟨by simp [i1], fun i u hi => ?_⟩
      rcases i with _ | i
      · cases hi; exact Or.inr ⟨_, h2, rfl⟩
      · exact i2 i u (by simpa using hi)
theorem am_ent_L {tk : Nat → Value} {ad : Nat → Nat} {nx m : Nat} {vs ws : List Value} (h : am_vs tk ad nx vs ws) (hm : (am_flat vs).length ≤ m) : am_L tk ad nx (am_ent m vs) m ((lg_sl ws ++ List.replicate (m - (lg_sl ws).length) Slot.unset).toArray) := by
  obtain ⟨h1, h2⟩ := am_flat_e h
  have hv := lv_entry ws (n := m) (by rw [h1]; exact hm)
  refine ⟨by simp [am_ent]; omega, hv.1, hv.2.1, fun i v hi => ?_⟩
  unfold am_ent at hi
  by_cases hl : i < (am_flat vs).length
  · rw [List.getElem?_append_left hl] at hi
    rcases h2 i v hi with h | ⟨w, a, b⟩
    · exact Or.inl h
    · refine Or.inr ⟨w, a, ?_⟩
      simp only [List.getElem?_toArray]
      rw [List.getElem?_append_left (by rw [h1]; exact hl)]
      exact b
  · rw [List.getElem?_append_right (by omega)] at hi
    rw [List.getElem?_replicate] at hi
    split at hi
    · cases hi; exact Or.inl rfl
    · cases hi
/-- a method: its name, its bytes, what it returns -/
abbrev am_Mi : Type := Nat → MethodName × ByteArray × Option FieldType
def am_vo (tk : Nat → Value) (ad : Nat → Nat) (nx : Nat) (v w : Option Value) : Prop := match v with
  | none => w = none
  | some v => ∃ u, w = some u ∧ am_vr tk ad nx v u
section AMC
variable (X : am_X) (tk : Nat → Value) (A : Nat → Prop) (cA dC : Nat → ClassId) (dI : Nat → Nat → Nat)
def am_Pc (args : List Value) (sz : Nat) (ws : va_W) : Array Value → State → Prop := va_Pc args (fun U => am_Cx X tk A cA dC dI U ∧ va_P (dC, dI) vwCl ws U.heap)
def am_Qc (ad : Nat → Nat) (nx : Nat) (v : Option Value) (hp1 : am_H) : Array Value → State → Outcome → State → Prop := fun _ st oc t =>
  ∃ (ad1 : Nat → Nat) (ws1 : va_W) (w : Option Value), oc = .returned w ∧ am_vo tk ad1 hp1.2.1 v w ∧ (∀ q, q < nx → ad1 q = ad q) ∧ am_Rl tk ad1 cA hp1 ws1 ∧ va_P (dC, dI) vwCl ws1 t.heap ∧ va_D A ws1 ∧ va_F A st t
def am_rm (d mc ms : Nat) : Room := { frames := d + 1, cells := mc, slots := ms, locals := (d + 1) * 64 }
end AMC
