/-! ENTRIES: each method's start, and the two constructors' cells -/
theorem k_v {X : am_X} {d y nx : Nat} {ls rest : List Value} {v : Value} {hp : am_H} {Q : Option Value → am_H → Prop} (g : gG X (d + 1) y nx ls (v :: rest) hp Q) (h : am_thr (some v) = false) : am_thr (some v) = false ∧ gG X (d + 1) y nx ls ((some v).toList ++ rest) hp Q := ⟨h, g⟩
theorem k_0 {X : am_X} {d y nx : Nat} {ls rest : List Value} {hp : am_H} {Q : Option Value → am_H → Prop} (g : gG X (d + 1) y nx ls rest hp Q) : am_thr none = false ∧ gG X (d + 1) y nx ls ((none : Option Value).toList ++ rest) hp Q := ⟨rfl, g⟩
theorem am_flat_nl {v : Value} {t : List Value} (h : am_nl v = true) : am_flat (v :: t) = v :: am_flat t := by
  cases v <;> first | rfl | cases h
theorem am_flat_l {x : Int64} {t : List Value} : am_flat (.long x :: t) = .long x :: .float 0 :: am_flat t := rfl
section EN
variable {X : am_X} {d : Nat} {hp : am_H} {Q : Option Value → am_H → Prop} {v0 v1 v2 v3 v4 v5 v6 : Value} {x0 x1 x2 x3 x4 x5 x6 : Int64}
theorem en0 (n0 : am_nl v0 = true) (g : gG X d 0 0 [v0] [] hp Q) : gE X d 0 [v0] hp Q := gE.mk (m := 1) (by decide +kernel) (by unfold am_ent; rw [am_flat_nl n0]; rfl) (by rw [am_flat_nl n0]; exact (Nat.le_of_ble_eq_true rfl)) g
theorem en1 (n0 : am_nl v0 = true) (g : gG X d 1 0 [v0] [] hp Q) : gE X d 1 [v0] hp Q := gE.mk (m := 1) (by decide +kernel) (by unfold am_ent; rw [am_flat_nl n0]; rfl) (by rw [am_flat_nl n0]; exact (Nat.le_of_ble_eq_true rfl)) g
theorem en2 (n0 : am_nl v0 = true) (n1 : am_nl v1 = true) (g : gG X d 2 0 [v0, v1] [] hp Q) : gE X d 2 [v0, v1] hp Q := gE.mk (m := 2) (by decide +kernel) (by unfold am_ent; rw [am_flat_nl n0, am_flat_nl n1]; rfl) (by rw [am_flat_nl n0, am_flat_nl n1]; exact (Nat.le_of_ble_eq_true rfl)) g
theorem en3 (n0 : am_nl v0 = true) (g : gG X d 3 0 [v0] [] hp Q) : gE X d 3 [v0] hp Q := gE.mk (m := 1) (by decide +kernel) (by unfold am_ent; rw [am_flat_nl n0]; rfl) (by rw [am_flat_nl n0]; exact (Nat.le_of_ble_eq_true rfl)) g
theorem en4 (n0 : am_nl v0 = true) (n1 : am_nl v1 = true) (g : gG X d 4 0 [v0, v1] [] hp Q) : gE X d 4 [v0, v1] hp Q := gE.mk (m := 2) (by decide +kernel) (by unfold am_ent; rw [am_flat_nl n0, am_flat_nl n1]; rfl) (by rw [am_flat_nl n0, am_flat_nl n1]; exact (Nat.le_of_ble_eq_true rfl)) g
theorem en5 (n0 : am_nl v0 = true) (n1 : am_nl v1 = true) (n2 : am_nl v2 = true) (n3 : am_nl v3 = true) (g : gG X d 5 0 [v0, v1, v2, v3] [] hp Q) : gE X d 5 [v0, v1, v2, v3] hp Q := gE.mk (m := 4) (by decide +kernel) (by unfold am_ent; rw [am_flat_nl n0, am_flat_nl n1, am_flat_nl n2, am_flat_nl n3]; rfl) (by rw [am_flat_nl n0, am_flat_nl n1, am_flat_nl n2, am_flat_nl n3]; exact (Nat.le_of_ble_eq_true rfl)) g
theorem en6 (n0 : am_nl v0 = true) (n1 : am_nl v1 = true) (g : gG X d 6 0 [v0, v1] [] hp Q) : gE X d 6 [v0, v1] hp Q := gE.mk (m := 2) (by decide +kernel) (by unfold am_ent; rw [am_flat_nl n0, am_flat_nl n1]; rfl) (by rw [am_flat_nl n0, am_flat_nl n1]; exact (Nat.le_of_ble_eq_true rfl)) g
theorem en7 (n0 : am_nl v0 = true) (n1 : am_nl v1 = true) (g : gG X d 7 0 [v0, v1, .float 0] [] hp Q) : gE X d 7 [v0, v1] hp Q := gE.mk (m := 3) (by decide +kernel) (by unfold am_ent; rw [am_flat_nl n0, am_flat_nl n1]; rfl) (by rw [am_flat_nl n0, am_flat_nl n1]; exact (Nat.le_of_ble_eq_true rfl)) g
theorem en8 (n0 : am_nl v0 = true) (n1 : am_nl v1 = true) (n2 : am_nl v2 = true) (g : gG X d 8 0 [v0, v1, v2, .float 0] [] hp Q) : gE X d 8 [v0, v1, v2] hp Q := gE.mk (m := 4) (by decide +kernel) (by unfold am_ent; rw [am_flat_nl n0, am_flat_nl n1, am_flat_nl n2]; rfl) (by rw [am_flat_nl n0, am_flat_nl n1, am_flat_nl n2]; exact (Nat.le_of_ble_eq_true rfl)) g
theorem en9 (n0 : am_nl v0 = true) (n1 : am_nl v1 = true) (n2 : am_nl v2 = true) (n3 : am_nl v3 = true) (g : gG X d 9 0 [v0, v1, v2, v3, .float 0, .float 0, .float 0] [] hp Q) : gE X d 9 [v0, v1, v2, v3] hp Q := gE.mk (m := 7) (by decide +kernel) (by unfold am_ent; rw [am_flat_nl n0, am_flat_nl n1, am_flat_nl n2, am_flat_nl n3]; rfl) (by rw [am_flat_nl n0, am_flat_nl n1, am_flat_nl n2, am_flat_nl n3]; exact (Nat.le_of_ble_eq_true rfl)) g
theorem en10 (n0 : am_nl v0 = true) (n1 : am_nl v1 = true) (g : gG X d 10 0 [v0, v1] [] hp Q) : gE X d 10 [v0, v1] hp Q := gE.mk (m := 2) (by decide +kernel) (by unfold am_ent; rw [am_flat_nl n0, am_flat_nl n1]; rfl) (by rw [am_flat_nl n0, am_flat_nl n1]; exact (Nat.le_of_ble_eq_true rfl)) g
theorem en11 (n0 : am_nl v0 = true) (g : gG X d 11 0 [v0] [] hp Q) : gE X d 11 [v0] hp Q := gE.mk (m := 1) (by decide +kernel) (by unfold am_ent; rw [am_flat_nl n0]; rfl) (by rw [am_flat_nl n0]; exact (Nat.le_of_ble_eq_true rfl)) g
theorem en12 (n0 : am_nl v0 = true) (n1 : am_nl v1 = true) (g : gG X d 12 0 [v0, v1, .float 0, .float 0] [] hp Q) : gE X d 12 [v0, v1] hp Q := gE.mk (m := 4) (by decide +kernel) (by unfold am_ent; rw [am_flat_nl n0, am_flat_nl n1]; rfl) (by rw [am_flat_nl n0, am_flat_nl n1]; exact (Nat.le_of_ble_eq_true rfl)) g
theorem en13 (n0 : am_nl v0 = true) (n1 : am_nl v1 = true) (g : gG X d 13 0 [v0, v1, .float 0, .float 0, .float 0] [] hp Q) : gE X d 13 [v0, v1] hp Q := gE.mk (m := 5) (by decide +kernel) (by unfold am_ent; rw [am_flat_nl n0, am_flat_nl n1]; rfl) (by rw [am_flat_nl n0, am_flat_nl n1]; exact (Nat.le_of_ble_eq_true rfl)) g
theorem en14 (n0 : am_nl v0 = true) (g : gG X d 14 0 [v0] [] hp Q) : gE X d 14 [v0] hp Q := gE.mk (m := 1) (by decide +kernel) (by unfold am_ent; rw [am_flat_nl n0]; rfl) (by rw [am_flat_nl n0]; exact (Nat.le_of_ble_eq_true rfl)) g
theorem en15 (n0 : am_nl v0 = true) (g : gG X d 15 0 [v0] [] hp Q) : gE X d 15 [v0] hp Q := gE.mk (m := 1) (by decide +kernel) (by unfold am_ent; rw [am_flat_nl n0]; rfl) (by rw [am_flat_nl n0]; exact (Nat.le_of_ble_eq_true rfl)) g
theorem en16 (n0 : am_nl v0 = true) (g : gG X d 16 0 [v0] [] hp Q) : gE X d 16 [v0] hp Q := gE.mk (m := 1) (by decide +kernel) (by unfold am_ent; rw [am_flat_nl n0]; rfl) (by rw [am_flat_nl n0]; exact (Nat.le_of_ble_eq_true rfl)) g
theorem en17 (n0 : am_nl v0 = true) (n1 : am_nl v1 = true) (g : gG X d 17 0 [v0, v1] [] hp Q) : gE X d 17 [v0, v1] hp Q := gE.mk (m := 2) (by decide +kernel) (by unfold am_ent; rw [am_flat_nl n0, am_flat_nl n1]; rfl) (by rw [am_flat_nl n0, am_flat_nl n1]; exact (Nat.le_of_ble_eq_true rfl)) g
theorem en18 (n0 : am_nl v0 = true) (n1 : am_nl v1 = true) (n2 : am_nl v2 = true) (n3 : am_nl v3 = true) (n4 : am_nl v4 = true) (n5 : am_nl v5 = true) (g : gG X d 18 0 [v0, v1, v2, v3, v4, v5, .float 0, .float 0] [] hp Q) : gE X d 18 [v0, v1, v2, v3, v4, v5] hp Q := gE.mk (m := 8) (by decide +kernel) (by unfold am_ent; rw [am_flat_nl n0, am_flat_nl n1, am_flat_nl n2, am_flat_nl n3, am_flat_nl n4, am_flat_nl n5]; rfl) (by rw [am_flat_nl n0, am_flat_nl n1, am_flat_nl n2, am_flat_nl n3, am_flat_nl n4, am_flat_nl n5]; exact (Nat.le_of_ble_eq_true rfl)) g
theorem en19 (n0 : am_nl v0 = true) (g : gG X d 19 0 [v0, .float 0, .float 0, .float 0, .float 0] [] hp Q) : gE X d 19 [v0] hp Q := gE.mk (m := 5) (by decide +kernel) (by unfold am_ent; rw [am_flat_nl n0]; rfl) (by rw [am_flat_nl n0]; exact (Nat.le_of_ble_eq_true rfl)) g
theorem en20 (n0 : am_nl v0 = true) (g : gG X d 20 0 [v0] [] hp Q) : gE X d 20 [v0] hp Q := gE.mk (m := 1) (by decide +kernel) (by unfold am_ent; rw [am_flat_nl n0]; rfl) (by rw [am_flat_nl n0]; exact (Nat.le_of_ble_eq_true rfl)) g
theorem en21 (n0 : am_nl v0 = true) (n1 : am_nl v1 = true) (n2 : am_nl v2 = true) (g : gG X d 21 0 [v0, v1, v2, .long x3, .float 0, .float 0, .float 0, .float 0] [] hp Q) : gE X d 21 [v0, v1, v2, .long x3] hp Q := gE.mk (m := 8) (by decide +kernel) (by unfold am_ent; rw [am_flat_nl n0, am_flat_nl n1, am_flat_nl n2, am_flat_l]; rfl) (by rw [am_flat_nl n0, am_flat_nl n1, am_flat_nl n2, am_flat_l]; exact (Nat.le_of_ble_eq_true rfl)) g
theorem en22 (n0 : am_nl v0 = true) (n1 : am_nl v1 = true) (n2 : am_nl v2 = true) (g : gG X d 22 0 [v0, v1, v2, .long x3, .float 0, .float 0, .float 0, .float 0] [] hp Q) : gE X d 22 [v0, v1, v2, .long x3] hp Q := gE.mk (m := 8) (by decide +kernel) (by unfold am_ent; rw [am_flat_nl n0, am_flat_nl n1, am_flat_nl n2, am_flat_l]; rfl) (by rw [am_flat_nl n0, am_flat_nl n1, am_flat_nl n2, am_flat_l]; exact (Nat.le_of_ble_eq_true rfl)) g
theorem en23 (n0 : am_nl v0 = true) (n1 : am_nl v1 = true) (n2 : am_nl v2 = true) (g : gG X d 23 0 [v0, v1, v2, .long x3, .float 0, .float 0, .float 0, .float 0, .float 0, .float 0, .float 0] [] hp Q) : gE X d 23 [v0, v1, v2, .long x3] hp Q := gE.mk (m := 11) (by decide +kernel) (by unfold am_ent; rw [am_flat_nl n0, am_flat_nl n1, am_flat_nl n2, am_flat_l]; rfl) (by rw [am_flat_nl n0, am_flat_nl n1, am_flat_nl n2, am_flat_l]; exact (Nat.le_of_ble_eq_true rfl)) g
theorem en24 (n0 : am_nl v0 = true) (n1 : am_nl v1 = true) (g : gG X d 24 0 [v0, v1, .float 0, .float 0, .float 0, .float 0, .float 0, .float 0] [] hp Q) : gE X d 24 [v0, v1] hp Q := gE.mk (m := 8) (by decide +kernel) (by unfold am_ent; rw [am_flat_nl n0, am_flat_nl n1]; rfl) (by rw [am_flat_nl n0, am_flat_nl n1]; exact (Nat.le_of_ble_eq_true rfl)) g
theorem en25 (n0 : am_nl v0 = true) (n1 : am_nl v1 = true) (g : gG X d 25 0 [v0, v1, .float 0, .float 0, .float 0, .float 0, .float 0, .float 0] [] hp Q) : gE X d 25 [v0, v1] hp Q := gE.mk (m := 8) (by decide +kernel) (by unfold am_ent; rw [am_flat_nl n0, am_flat_nl n1]; rfl) (by rw [am_flat_nl n0, am_flat_nl n1]; exact (Nat.le_of_ble_eq_true rfl)) g
theorem en26  (g : gG X d 26 0 [.long x0, .float 0] [] hp Q) : gE X d 26 [.long x0] hp Q := gE.mk (m := 2) (by decide +kernel) (by unfold am_ent; rw [am_flat_l]; rfl) (by rw [am_flat_l]; exact (Nat.le_of_ble_eq_true rfl)) g
theorem en27 (n0 : am_nl v0 = true) (n1 : am_nl v1 = true) (g : gG X d 27 0 [v0, v1, .float 0, .float 0, .float 0, .float 0] [] hp Q) : gE X d 27 [v0, v1] hp Q := gE.mk (m := 6) (by decide +kernel) (by unfold am_ent; rw [am_flat_nl n0, am_flat_nl n1]; rfl) (by rw [am_flat_nl n0, am_flat_nl n1]; exact (Nat.le_of_ble_eq_true rfl)) g
theorem en28 (n0 : am_nl v0 = true) (n1 : am_nl v1 = true) (g : gG X d 28 0 [v0, v1] [] hp Q) : gE X d 28 [v0, v1] hp Q := gE.mk (m := 2) (by decide +kernel) (by unfold am_ent; rw [am_flat_nl n0, am_flat_nl n1]; rfl) (by rw [am_flat_nl n0, am_flat_nl n1]; exact (Nat.le_of_ble_eq_true rfl)) g
theorem en29 (n0 : am_nl v0 = true) (g : gG X d 29 0 [v0] [] hp Q) : gE X d 29 [v0] hp Q := gE.mk (m := 1) (by decide +kernel) (by unfold am_ent; rw [am_flat_nl n0]; rfl) (by rw [am_flat_nl n0]; exact (Nat.le_of_ble_eq_true rfl)) g
theorem en30 (n0 : am_nl v0 = true) (n1 : am_nl v1 = true) (g : gG X d 30 0 [v0, v1] [] hp Q) : gE X d 30 [v0, v1] hp Q := gE.mk (m := 2) (by decide +kernel) (by unfold am_ent; rw [am_flat_nl n0, am_flat_nl n1]; rfl) (by rw [am_flat_nl n0, am_flat_nl n1]; exact (Nat.le_of_ble_eq_true rfl)) g
theorem en31 (n0 : am_nl v0 = true) (n1 : am_nl v1 = true) (n2 : am_nl v2 = true) (g : gG X d 31 0 [v0, v1, v2] [] hp Q) : gE X d 31 [v0, v1, v2] hp Q := gE.mk (m := 3) (by decide +kernel) (by unfold am_ent; rw [am_flat_nl n0, am_flat_nl n1, am_flat_nl n2]; rfl) (by rw [am_flat_nl n0, am_flat_nl n1, am_flat_nl n2]; exact (Nat.le_of_ble_eq_true rfl)) g
theorem en32 (n0 : am_nl v0 = true) (n1 : am_nl v1 = true) (g : gG X d 32 0 [v0, v1, .float 0] [] hp Q) : gE X d 32 [v0, v1] hp Q := gE.mk (m := 3) (by decide +kernel) (by unfold am_ent; rw [am_flat_nl n0, am_flat_nl n1]; rfl) (by rw [am_flat_nl n0, am_flat_nl n1]; exact (Nat.le_of_ble_eq_true rfl)) g
theorem en33 (n0 : am_nl v0 = true) (n1 : am_nl v1 = true) (g : gG X d 33 0 [v0, v1] [] hp Q) : gE X d 33 [v0, v1] hp Q := gE.mk (m := 2) (by decide +kernel) (by unfold am_ent; rw [am_flat_nl n0, am_flat_nl n1]; rfl) (by rw [am_flat_nl n0, am_flat_nl n1]; exact (Nat.le_of_ble_eq_true rfl)) g
theorem en34 (n0 : am_nl v0 = true) (n1 : am_nl v1 = true) (g : gG X d 34 0 [v0, v1] [] hp Q) : gE X d 34 [v0, v1] hp Q := gE.mk (m := 2) (by decide +kernel) (by unfold am_ent; rw [am_flat_nl n0, am_flat_nl n1]; rfl) (by rw [am_flat_nl n0, am_flat_nl n1]; exact (Nat.le_of_ble_eq_true rfl)) g
theorem en35 (n0 : am_nl v0 = true) (g : gG X d 35 0 [v0] [] hp Q) : gE X d 35 [v0] hp Q := gE.mk (m := 1) (by decide +kernel) (by unfold am_ent; rw [am_flat_nl n0]; rfl) (by rw [am_flat_nl n0]; exact (Nat.le_of_ble_eq_true rfl)) g
theorem en36 (n0 : am_nl v0 = true) (n1 : am_nl v1 = true) (g : gG X d 36 0 [v0, v1, .float 0] [] hp Q) : gE X d 36 [v0, v1] hp Q := gE.mk (m := 3) (by decide +kernel) (by unfold am_ent; rw [am_flat_nl n0, am_flat_nl n1]; rfl) (by rw [am_flat_nl n0, am_flat_nl n1]; exact (Nat.le_of_ble_eq_true rfl)) g
theorem en37 (n0 : am_nl v0 = true) (n1 : am_nl v1 = true) (n2 : am_nl v2 = true) (n3 : am_nl v3 = true) (g : gG X d 37 0 [v0, v1, v2, v3] [] hp Q) : gE X d 37 [v0, v1, v2, v3] hp Q := gE.mk (m := 4) (by decide +kernel) (by unfold am_ent; rw [am_flat_nl n0, am_flat_nl n1, am_flat_nl n2, am_flat_nl n3]; rfl) (by rw [am_flat_nl n0, am_flat_nl n1, am_flat_nl n2, am_flat_nl n3]; exact (Nat.le_of_ble_eq_true rfl)) g
theorem en38 (n0 : am_nl v0 = true) (g : gG X d 38 0 [v0] [] hp Q) : gE X d 38 [v0] hp Q := gE.mk (m := 1) (by decide +kernel) (by unfold am_ent; rw [am_flat_nl n0]; rfl) (by rw [am_flat_nl n0]; exact (Nat.le_of_ble_eq_true rfl)) g
theorem en39 (n0 : am_nl v0 = true) (g : gG X d 39 0 [v0] [] hp Q) : gE X d 39 [v0] hp Q := gE.mk (m := 1) (by decide +kernel) (by unfold am_ent; rw [am_flat_nl n0]; rfl) (by rw [am_flat_nl n0]; exact (Nat.le_of_ble_eq_true rfl)) g
theorem en40 (n0 : am_nl v0 = true) (n1 : am_nl v1 = true) (n2 : am_nl v2 = true) (n3 : am_nl v3 = true) (g : gG X d 40 0 [v0, v1, v2, v3] [] hp Q) : gE X d 40 [v0, v1, v2, v3] hp Q := gE.mk (m := 4) (by decide +kernel) (by unfold am_ent; rw [am_flat_nl n0, am_flat_nl n1, am_flat_nl n2, am_flat_nl n3]; rfl) (by rw [am_flat_nl n0, am_flat_nl n1, am_flat_nl n2, am_flat_nl n3]; exact (Nat.le_of_ble_eq_true rfl)) g
theorem en41 (n0 : am_nl v0 = true) (n1 : am_nl v1 = true) (g : gG X d 41 0 [v0, v1] [] hp Q) : gE X d 41 [v0, v1] hp Q := gE.mk (m := 2) (by decide +kernel) (by unfold am_ent; rw [am_flat_nl n0, am_flat_nl n1]; rfl) (by rw [am_flat_nl n0, am_flat_nl n1]; exact (Nat.le_of_ble_eq_true rfl)) g
theorem en42 (n0 : am_nl v0 = true) (n1 : am_nl v1 = true) (n2 : am_nl v2 = true) (n3 : am_nl v3 = true) (g : gG X d 42 0 [v0, v1, v2, v3, .float 0, .float 0, .float 0, .float 0, .float 0] [] hp Q) : gE X d 42 [v0, v1, v2, v3] hp Q := gE.mk (m := 9) (by decide +kernel) (by unfold am_ent; rw [am_flat_nl n0, am_flat_nl n1, am_flat_nl n2, am_flat_nl n3]; rfl) (by rw [am_flat_nl n0, am_flat_nl n1, am_flat_nl n2, am_flat_nl n3]; exact (Nat.le_of_ble_eq_true rfl)) g
theorem en43 (n0 : am_nl v0 = true) (n1 : am_nl v1 = true) (g : gG X d 43 0 [v0, v1, .float 0, .float 0, .float 0] [] hp Q) : gE X d 43 [v0, v1] hp Q := gE.mk (m := 5) (by decide +kernel) (by unfold am_ent; rw [am_flat_nl n0, am_flat_nl n1]; rfl) (by rw [am_flat_nl n0, am_flat_nl n1]; exact (Nat.le_of_ble_eq_true rfl)) g
theorem en44 (n0 : am_nl v0 = true) (n1 : am_nl v1 = true) (n2 : am_nl v2 = true) (g : gG X d 44 0 [v0, v1, v2, .float 0, .float 0, .float 0, .float 0, .float 0] [] hp Q) : gE X d 44 [v0, v1, v2] hp Q := gE.mk (m := 8) (by decide +kernel) (by unfold am_ent; rw [am_flat_nl n0, am_flat_nl n1, am_flat_nl n2]; rfl) (by rw [am_flat_nl n0, am_flat_nl n1, am_flat_nl n2]; exact (Nat.le_of_ble_eq_true rfl)) g
theorem en45 (n0 : am_nl v0 = true) (g : gG X d 45 0 [v0, .float 0, .float 0, .float 0] [] hp Q) : gE X d 45 [v0] hp Q := gE.mk (m := 4) (by decide +kernel) (by unfold am_ent; rw [am_flat_nl n0]; rfl) (by rw [am_flat_nl n0]; exact (Nat.le_of_ble_eq_true rfl)) g
theorem en46 (n0 : am_nl v0 = true) (n1 : am_nl v1 = true) (n2 : am_nl v2 = true) (g : gG X d 46 0 [v0, v1, v2, .float 0, .float 0] [] hp Q) : gE X d 46 [v0, v1, v2] hp Q := gE.mk (m := 5) (by decide +kernel) (by unfold am_ent; rw [am_flat_nl n0, am_flat_nl n1, am_flat_nl n2]; rfl) (by rw [am_flat_nl n0, am_flat_nl n1, am_flat_nl n2]; exact (Nat.le_of_ble_eq_true rfl)) g
theorem en47 (n0 : am_nl v0 = true) (n1 : am_nl v1 = true) (n2 : am_nl v2 = true) (n3 : am_nl v3 = true) (n4 : am_nl v4 = true) (g : gG X d 47 0 [v0, v1, v2, v3, v4, .float 0, .float 0, .float 0] [] hp Q) : gE X d 47 [v0, v1, v2, v3, v4] hp Q := gE.mk (m := 8) (by decide +kernel) (by unfold am_ent; rw [am_flat_nl n0, am_flat_nl n1, am_flat_nl n2, am_flat_nl n3, am_flat_nl n4]; rfl) (by rw [am_flat_nl n0, am_flat_nl n1, am_flat_nl n2, am_flat_nl n3, am_flat_nl n4]; exact (Nat.le_of_ble_eq_true rfl)) g
theorem en48 (n0 : am_nl v0 = true) (n1 : am_nl v1 = true) (n2 : am_nl v2 = true) (g : gG X d 48 0 [v0, v1, v2, .float 0] [] hp Q) : gE X d 48 [v0, v1, v2] hp Q := gE.mk (m := 4) (by decide +kernel) (by unfold am_ent; rw [am_flat_nl n0, am_flat_nl n1, am_flat_nl n2]; rfl) (by rw [am_flat_nl n0, am_flat_nl n1, am_flat_nl n2]; exact (Nat.le_of_ble_eq_true rfl)) g
theorem en49 (n0 : am_nl v0 = true) (n1 : am_nl v1 = true) (n2 : am_nl v2 = true) (g : gG X d 49 0 [v0, v1, v2, .float 0, .float 0, .float 0] [] hp Q) : gE X d 49 [v0, v1, v2] hp Q := gE.mk (m := 6) (by decide +kernel) (by unfold am_ent; rw [am_flat_nl n0, am_flat_nl n1, am_flat_nl n2]; rfl) (by rw [am_flat_nl n0, am_flat_nl n1, am_flat_nl n2]; exact (Nat.le_of_ble_eq_true rfl)) g
theorem en50 (n0 : am_nl v0 = true) (g : gG X d 50 0 [v0] [] hp Q) : gE X d 50 [v0] hp Q := gE.mk (m := 1) (by decide +kernel) (by unfold am_ent; rw [am_flat_nl n0]; rfl) (by rw [am_flat_nl n0]; exact (Nat.le_of_ble_eq_true rfl)) g
theorem en51 (n0 : am_nl v0 = true) (n1 : am_nl v1 = true) (g : gG X d 51 0 [v0, v1] [] hp Q) : gE X d 51 [v0, v1] hp Q := gE.mk (m := 2) (by decide +kernel) (by unfold am_ent; rw [am_flat_nl n0, am_flat_nl n1]; rfl) (by rw [am_flat_nl n0, am_flat_nl n1]; exact (Nat.le_of_ble_eq_true rfl)) g
theorem en52 (n0 : am_nl v0 = true) (g : gG X d 52 0 [v0] [] hp Q) : gE X d 52 [v0] hp Q := gE.mk (m := 1) (by decide +kernel) (by unfold am_ent; rw [am_flat_nl n0]; rfl) (by rw [am_flat_nl n0]; exact (Nat.le_of_ble_eq_true rfl)) g
theorem en53 (n0 : am_nl v0 = true) (g : gG X d 53 0 [v0, .float 0] [] hp Q) : gE X d 53 [v0] hp Q := gE.mk (m := 2) (by decide +kernel) (by unfold am_ent; rw [am_flat_nl n0]; rfl) (by rw [am_flat_nl n0]; exact (Nat.le_of_ble_eq_true rfl)) g
theorem en54 (n0 : am_nl v0 = true) (g : gG X d 54 0 [v0, .float 0] [] hp Q) : gE X d 54 [v0] hp Q := gE.mk (m := 2) (by decide +kernel) (by unfold am_ent; rw [am_flat_nl n0]; rfl) (by rw [am_flat_nl n0]; exact (Nat.le_of_ble_eq_true rfl)) g
theorem en55 (n0 : am_nl v0 = true) (n1 : am_nl v1 = true) (g : gG X d 55 0 [v0, v1] [] hp Q) : gE X d 55 [v0, v1] hp Q := gE.mk (m := 2) (by decide +kernel) (by unfold am_ent; rw [am_flat_nl n0, am_flat_nl n1]; rfl) (by rw [am_flat_nl n0, am_flat_nl n1]; exact (Nat.le_of_ble_eq_true rfl)) g
theorem en56 (n0 : am_nl v0 = true) (n1 : am_nl v1 = true) (g : gG X d 56 0 [v0, v1] [] hp Q) : gE X d 56 [v0, v1] hp Q := gE.mk (m := 2) (by decide +kernel) (by unfold am_ent; rw [am_flat_nl n0, am_flat_nl n1]; rfl) (by rw [am_flat_nl n0, am_flat_nl n1]; exact (Nat.le_of_ble_eq_true rfl)) g
theorem en57 (n0 : am_nl v0 = true) (n1 : am_nl v1 = true) (n2 : am_nl v2 = true) (g : gG X d 57 0 [v0, v1, v2, .float 0] [] hp Q) : gE X d 57 [v0, v1, v2] hp Q := gE.mk (m := 4) (by decide +kernel) (by unfold am_ent; rw [am_flat_nl n0, am_flat_nl n1, am_flat_nl n2]; rfl) (by rw [am_flat_nl n0, am_flat_nl n1, am_flat_nl n2]; exact (Nat.le_of_ble_eq_true rfl)) g
theorem en58 (n0 : am_nl v0 = true) (g : gG X d 58 0 [v0, .float 0] [] hp Q) : gE X d 58 [v0] hp Q := gE.mk (m := 2) (by decide +kernel) (by unfold am_ent; rw [am_flat_nl n0]; rfl) (by rw [am_flat_nl n0]; exact (Nat.le_of_ble_eq_true rfl)) g
theorem en59 (n0 : am_nl v0 = true) (g : gG X d 59 0 [v0] [] hp Q) : gE X d 59 [v0] hp Q := gE.mk (m := 1) (by decide +kernel) (by unfold am_ent; rw [am_flat_nl n0]; rfl) (by rw [am_flat_nl n0]; exact (Nat.le_of_ble_eq_true rfl)) g
theorem en60 (n0 : am_nl v0 = true) (g : gG X d 60 0 [v0] [] hp Q) : gE X d 60 [v0] hp Q := gE.mk (m := 1) (by decide +kernel) (by unfold am_ent; rw [am_flat_nl n0]; rfl) (by rw [am_flat_nl n0]; exact (Nat.le_of_ble_eq_true rfl)) g
theorem en61 (n0 : am_nl v0 = true) (n1 : am_nl v1 = true) (n2 : am_nl v2 = true) (g : gG X d 61 0 [v0, v1, v2] [] hp Q) : gE X d 61 [v0, v1, v2] hp Q := gE.mk (m := 3) (by decide +kernel) (by unfold am_ent; rw [am_flat_nl n0, am_flat_nl n1, am_flat_nl n2]; rfl) (by rw [am_flat_nl n0, am_flat_nl n1, am_flat_nl n2]; exact (Nat.le_of_ble_eq_true rfl)) g
theorem en62 (n0 : am_nl v0 = true) (g : gG X d 62 0 [v0] [] hp Q) : gE X d 62 [v0] hp Q := gE.mk (m := 1) (by decide +kernel) (by unfold am_ent; rw [am_flat_nl n0]; rfl) (by rw [am_flat_nl n0]; exact (Nat.le_of_ble_eq_true rfl)) g
theorem en63 (n0 : am_nl v0 = true) (n1 : am_nl v1 = true) (n2 : am_nl v2 = true) (n3 : am_nl v3 = true) (g : gG X d 63 0 [v0, v1, v2, v3] [] hp Q) : gE X d 63 [v0, v1, v2, v3] hp Q := gE.mk (m := 4) (by decide +kernel) (by unfold am_ent; rw [am_flat_nl n0, am_flat_nl n1, am_flat_nl n2, am_flat_nl n3]; rfl) (by rw [am_flat_nl n0, am_flat_nl n1, am_flat_nl n2, am_flat_nl n3]; exact (Nat.le_of_ble_eq_true rfl)) g
theorem en64 (n0 : am_nl v0 = true) (n1 : am_nl v1 = true) (n2 : am_nl v2 = true) (g : gG X d 64 0 [v0, v1, v2, .float 0, .float 0, .float 0, .float 0] [] hp Q) : gE X d 64 [v0, v1, v2] hp Q := gE.mk (m := 7) (by decide +kernel) (by unfold am_ent; rw [am_flat_nl n0, am_flat_nl n1, am_flat_nl n2]; rfl) (by rw [am_flat_nl n0, am_flat_nl n1, am_flat_nl n2]; exact (Nat.le_of_ble_eq_true rfl)) g
theorem en65 (n0 : am_nl v0 = true) (n1 : am_nl v1 = true) (n2 : am_nl v2 = true) (g : gG X d 65 0 [v0, v1, v2, .float 0, .float 0, .float 0, .float 0, .float 0, .float 0] [] hp Q) : gE X d 65 [v0, v1, v2] hp Q := gE.mk (m := 9) (by decide +kernel) (by unfold am_ent; rw [am_flat_nl n0, am_flat_nl n1, am_flat_nl n2]; rfl) (by rw [am_flat_nl n0, am_flat_nl n1, am_flat_nl n2]; exact (Nat.le_of_ble_eq_true rfl)) g
theorem en66 (n0 : am_nl v0 = true) (n1 : am_nl v1 = true) (g : gG X d 66 0 [v0, v1] [] hp Q) : gE X d 66 [v0, v1] hp Q := gE.mk (m := 2) (by decide +kernel) (by unfold am_ent; rw [am_flat_nl n0, am_flat_nl n1]; rfl) (by rw [am_flat_nl n0, am_flat_nl n1]; exact (Nat.le_of_ble_eq_true rfl)) g
theorem en67 (n0 : am_nl v0 = true) (n1 : am_nl v1 = true) (n2 : am_nl v2 = true) (g : gG X d 67 0 [v0, v1, v2, .float 0] [] hp Q) : gE X d 67 [v0, v1, v2] hp Q := gE.mk (m := 4) (by decide +kernel) (by unfold am_ent; rw [am_flat_nl n0, am_flat_nl n1, am_flat_nl n2]; rfl) (by rw [am_flat_nl n0, am_flat_nl n1, am_flat_nl n2]; exact (Nat.le_of_ble_eq_true rfl)) g
theorem en68 (n0 : am_nl v0 = true) (n1 : am_nl v1 = true) (g : gG X d 68 0 [v0, v1, .float 0, .float 0, .float 0, .float 0] [] hp Q) : gE X d 68 [v0, v1] hp Q := gE.mk (m := 6) (by decide +kernel) (by unfold am_ent; rw [am_flat_nl n0, am_flat_nl n1]; rfl) (by rw [am_flat_nl n0, am_flat_nl n1]; exact (Nat.le_of_ble_eq_true rfl)) g
theorem en69 (n0 : am_nl v0 = true) (g : gG X d 69 0 [v0] [] hp Q) : gE X d 69 [v0] hp Q := gE.mk (m := 1) (by decide +kernel) (by unfold am_ent; rw [am_flat_nl n0]; rfl) (by rw [am_flat_nl n0]; exact (Nat.le_of_ble_eq_true rfl)) g
theorem en70 (n0 : am_nl v0 = true) (n1 : am_nl v1 = true) (g : gG X d 70 0 [v0, v1, .float 0, .float 0] [] hp Q) : gE X d 70 [v0, v1] hp Q := gE.mk (m := 4) (by decide +kernel) (by unfold am_ent; rw [am_flat_nl n0, am_flat_nl n1]; rfl) (by rw [am_flat_nl n0, am_flat_nl n1]; exact (Nat.le_of_ble_eq_true rfl)) g
theorem en71 (n0 : am_nl v0 = true) (n1 : am_nl v1 = true) (g : gG X d 71 0 [v0, v1, .float 0, .float 0, .float 0, .float 0, .float 0] [] hp Q) : gE X d 71 [v0, v1] hp Q := gE.mk (m := 7) (by decide +kernel) (by unfold am_ent; rw [am_flat_nl n0, am_flat_nl n1]; rfl) (by rw [am_flat_nl n0, am_flat_nl n1]; exact (Nat.le_of_ble_eq_true rfl)) g
theorem en72 (n0 : am_nl v0 = true) (n1 : am_nl v1 = true) (g : gG X d 72 0 [v0, v1, .float 0, .float 0, .float 0, .float 0] [] hp Q) : gE X d 72 [v0, v1] hp Q := gE.mk (m := 6) (by decide +kernel) (by unfold am_ent; rw [am_flat_nl n0, am_flat_nl n1]; rfl) (by rw [am_flat_nl n0, am_flat_nl n1]; exact (Nat.le_of_ble_eq_true rfl)) g
theorem en73 (n0 : am_nl v0 = true) (n1 : am_nl v1 = true) (n2 : am_nl v2 = true) (g : gG X d 73 0 [v0, v1, v2, .float 0, .float 0] [] hp Q) : gE X d 73 [v0, v1, v2] hp Q := gE.mk (m := 5) (by decide +kernel) (by unfold am_ent; rw [am_flat_nl n0, am_flat_nl n1, am_flat_nl n2]; rfl) (by rw [am_flat_nl n0, am_flat_nl n1, am_flat_nl n2]; exact (Nat.le_of_ble_eq_true rfl)) g
theorem en74 (n0 : am_nl v0 = true) (g : gG X d 74 0 [v0] [] hp Q) : gE X d 74 [v0] hp Q := gE.mk (m := 1) (by decide +kernel) (by unfold am_ent; rw [am_flat_nl n0]; rfl) (by rw [am_flat_nl n0]; exact (Nat.le_of_ble_eq_true rfl)) g
theorem en75 (n0 : am_nl v0 = true) (n1 : am_nl v1 = true) (g : gG X d 75 0 [v0, v1] [] hp Q) : gE X d 75 [v0, v1] hp Q := gE.mk (m := 2) (by decide +kernel) (by unfold am_ent; rw [am_flat_nl n0, am_flat_nl n1]; rfl) (by rw [am_flat_nl n0, am_flat_nl n1]; exact (Nat.le_of_ble_eq_true rfl)) g
theorem en76 (n0 : am_nl v0 = true) (g : gG X d 76 0 [v0] [] hp Q) : gE X d 76 [v0] hp Q := gE.mk (m := 1) (by decide +kernel) (by unfold am_ent; rw [am_flat_nl n0]; rfl) (by rw [am_flat_nl n0]; exact (Nat.le_of_ble_eq_true rfl)) g
theorem en77 (n0 : am_nl v0 = true) (n1 : am_nl v1 = true) (n2 : am_nl v2 = true) (g : gG X d 77 0 [v0, v1, v2] [] hp Q) : gE X d 77 [v0, v1, v2] hp Q := gE.mk (m := 3) (by decide +kernel) (by unfold am_ent; rw [am_flat_nl n0, am_flat_nl n1, am_flat_nl n2]; rfl) (by rw [am_flat_nl n0, am_flat_nl n1, am_flat_nl n2]; exact (Nat.le_of_ble_eq_true rfl)) g
theorem en78 (n0 : am_nl v0 = true) (n1 : am_nl v1 = true) (g : gG X d 78 0 [v0, v1] [] hp Q) : gE X d 78 [v0, v1] hp Q := gE.mk (m := 2) (by decide +kernel) (by unfold am_ent; rw [am_flat_nl n0, am_flat_nl n1]; rfl) (by rw [am_flat_nl n0, am_flat_nl n1]; exact (Nat.le_of_ble_eq_true rfl)) g
theorem en79 (n0 : am_nl v0 = true) (n1 : am_nl v1 = true) (g : gG X d 79 0 [v0, v1] [] hp Q) : gE X d 79 [v0, v1] hp Q := gE.mk (m := 2) (by decide +kernel) (by unfold am_ent; rw [am_flat_nl n0, am_flat_nl n1]; rfl) (by rw [am_flat_nl n0, am_flat_nl n1]; exact (Nat.le_of_ble_eq_true rfl)) g
theorem en80 (n0 : am_nl v0 = true) (n1 : am_nl v1 = true) (n2 : am_nl v2 = true) (n3 : am_nl v3 = true) (g : gG X d 80 0 [v0, v1, v2, v3] [] hp Q) : gE X d 80 [v0, v1, v2, v3] hp Q := gE.mk (m := 4) (by decide +kernel) (by unfold am_ent; rw [am_flat_nl n0, am_flat_nl n1, am_flat_nl n2, am_flat_nl n3]; rfl) (by rw [am_flat_nl n0, am_flat_nl n1, am_flat_nl n2, am_flat_nl n3]; exact (Nat.le_of_ble_eq_true rfl)) g
theorem en81 (n0 : am_nl v0 = true) (n1 : am_nl v1 = true) (g : gG X d 81 0 [v0, v1] [] hp Q) : gE X d 81 [v0, v1] hp Q := gE.mk (m := 2) (by decide +kernel) (by unfold am_ent; rw [am_flat_nl n0, am_flat_nl n1]; rfl) (by rw [am_flat_nl n0, am_flat_nl n1]; exact (Nat.le_of_ble_eq_true rfl)) g
theorem en82 (n0 : am_nl v0 = true) (n1 : am_nl v1 = true) (n2 : am_nl v2 = true) (g : gG X d 82 0 [v0, v1, v2] [] hp Q) : gE X d 82 [v0, v1, v2] hp Q := gE.mk (m := 3) (by decide +kernel) (by unfold am_ent; rw [am_flat_nl n0, am_flat_nl n1, am_flat_nl n2]; rfl) (by rw [am_flat_nl n0, am_flat_nl n1, am_flat_nl n2]; exact (Nat.le_of_ble_eq_true rfl)) g
theorem en83 (n0 : am_nl v0 = true) (n1 : am_nl v1 = true) (n2 : am_nl v2 = true) (g : gG X d 83 0 [v0, v1, v2, .float 0, .float 0] [] hp Q) : gE X d 83 [v0, v1, v2] hp Q := gE.mk (m := 5) (by decide +kernel) (by unfold am_ent; rw [am_flat_nl n0, am_flat_nl n1, am_flat_nl n2]; rfl) (by rw [am_flat_nl n0, am_flat_nl n1, am_flat_nl n2]; exact (Nat.le_of_ble_eq_true rfl)) g
theorem en84 (n0 : am_nl v0 = true) (n1 : am_nl v1 = true) (g : gG X d 84 0 [v0, v1, .float 0, .float 0, .float 0, .float 0] [] hp Q) : gE X d 84 [v0, v1] hp Q := gE.mk (m := 6) (by decide +kernel) (by unfold am_ent; rw [am_flat_nl n0, am_flat_nl n1]; rfl) (by rw [am_flat_nl n0, am_flat_nl n1]; exact (Nat.le_of_ble_eq_true rfl)) g
theorem en85 (n0 : am_nl v0 = true) (n1 : am_nl v1 = true) (g : gG X d 85 0 [v0, v1, .float 0, .float 0] [] hp Q) : gE X d 85 [v0, v1] hp Q := gE.mk (m := 4) (by decide +kernel) (by unfold am_ent; rw [am_flat_nl n0, am_flat_nl n1]; rfl) (by rw [am_flat_nl n0, am_flat_nl n1]; exact (Nat.le_of_ble_eq_true rfl)) g
theorem en86 (n0 : am_nl v0 = true) (g : gG X d 86 0 [v0] [] hp Q) : gE X d 86 [v0] hp Q := gE.mk (m := 1) (by decide +kernel) (by unfold am_ent; rw [am_flat_nl n0]; rfl) (by rw [am_flat_nl n0]; exact (Nat.le_of_ble_eq_true rfl)) g
theorem en87 (n0 : am_nl v0 = true) (n1 : am_nl v1 = true) (g : gG X d 87 0 [v0, v1, .float 0] [] hp Q) : gE X d 87 [v0, v1] hp Q := gE.mk (m := 3) (by decide +kernel) (by unfold am_ent; rw [am_flat_nl n0, am_flat_nl n1]; rfl) (by rw [am_flat_nl n0, am_flat_nl n1]; exact (Nat.le_of_ble_eq_true rfl)) g
theorem en88 (n0 : am_nl v0 = true) (g : gG X d 88 0 [v0] [] hp Q) : gE X d 88 [v0] hp Q := gE.mk (m := 1) (by decide +kernel) (by unfold am_ent; rw [am_flat_nl n0]; rfl) (by rw [am_flat_nl n0]; exact (Nat.le_of_ble_eq_true rfl)) g
theorem en89 (n0 : am_nl v0 = true) (g : gG X d 89 0 [v0] [] hp Q) : gE X d 89 [v0] hp Q := gE.mk (m := 1) (by decide +kernel) (by unfold am_ent; rw [am_flat_nl n0]; rfl) (by rw [am_flat_nl n0]; exact (Nat.le_of_ble_eq_true rfl)) g
theorem en90 (n0 : am_nl v0 = true) (g : gG X d 90 0 [v0] [] hp Q) : gE X d 90 [v0] hp Q := gE.mk (m := 1) (by decide +kernel) (by unfold am_ent; rw [am_flat_nl n0]; rfl) (by rw [am_flat_nl n0]; exact (Nat.le_of_ble_eq_true rfl)) g
theorem en91 (n0 : am_nl v0 = true) (g : gG X d 91 0 [v0] [] hp Q) : gE X d 91 [v0] hp Q := gE.mk (m := 1) (by decide +kernel) (by unfold am_ent; rw [am_flat_nl n0]; rfl) (by rw [am_flat_nl n0]; exact (Nat.le_of_ble_eq_true rfl)) g
theorem en92 (n0 : am_nl v0 = true) (g : gG X d 92 0 [v0] [] hp Q) : gE X d 92 [v0] hp Q := gE.mk (m := 1) (by decide +kernel) (by unfold am_ent; rw [am_flat_nl n0]; rfl) (by rw [am_flat_nl n0]; exact (Nat.le_of_ble_eq_true rfl)) g
theorem en93 (n0 : am_nl v0 = true) (n1 : am_nl v1 = true) (g : gG X d 93 0 [v0, v1] [] hp Q) : gE X d 93 [v0, v1] hp Q := gE.mk (m := 2) (by decide +kernel) (by unfold am_ent; rw [am_flat_nl n0, am_flat_nl n1]; rfl) (by rw [am_flat_nl n0, am_flat_nl n1]; exact (Nat.le_of_ble_eq_true rfl)) g
theorem en94 (n0 : am_nl v0 = true) (n1 : am_nl v1 = true) (n2 : am_nl v2 = true) (n3 : am_nl v3 = true) (g : gG X d 94 0 [v0, v1, v2, v3] [] hp Q) : gE X d 94 [v0, v1, v2, v3] hp Q := gE.mk (m := 4) (by decide +kernel) (by unfold am_ent; rw [am_flat_nl n0, am_flat_nl n1, am_flat_nl n2, am_flat_nl n3]; rfl) (by rw [am_flat_nl n0, am_flat_nl n1, am_flat_nl n2, am_flat_nl n3]; exact (Nat.le_of_ble_eq_true rfl)) g
theorem en95 (n0 : am_nl v0 = true) (n1 : am_nl v1 = true) (g : gG X d 95 0 [v0, v1] [] hp Q) : gE X d 95 [v0, v1] hp Q := gE.mk (m := 2) (by decide +kernel) (by unfold am_ent; rw [am_flat_nl n0, am_flat_nl n1]; rfl) (by rw [am_flat_nl n0, am_flat_nl n1]; exact (Nat.le_of_ble_eq_true rfl)) g
theorem en96 (n0 : am_nl v0 = true) (g : gG X d 96 0 [v0] [] hp Q) : gE X d 96 [v0] hp Q := gE.mk (m := 1) (by decide +kernel) (by unfold am_ent; rw [am_flat_nl n0]; rfl) (by rw [am_flat_nl n0]; exact (Nat.le_of_ble_eq_true rfl)) g
theorem en97 (n0 : am_nl v0 = true) (g : gG X d 97 0 [v0] [] hp Q) : gE X d 97 [v0] hp Q := gE.mk (m := 1) (by decide +kernel) (by unfold am_ent; rw [am_flat_nl n0]; rfl) (by rw [am_flat_nl n0]; exact (Nat.le_of_ble_eq_true rfl)) g
theorem en98 (n0 : am_nl v0 = true) (g : gG X d 98 0 [v0] [] hp Q) : gE X d 98 [v0] hp Q := gE.mk (m := 1) (by decide +kernel) (by unfold am_ent; rw [am_flat_nl n0]; rfl) (by rw [am_flat_nl n0]; exact (Nat.le_of_ble_eq_true rfl)) g
theorem en99 (n0 : am_nl v0 = true) (g : gG X d 99 0 [v0] [] hp Q) : gE X d 99 [v0] hp Q := gE.mk (m := 1) (by decide +kernel) (by unfold am_ent; rw [am_flat_nl n0]; rfl) (by rw [am_flat_nl n0]; exact (Nat.le_of_ble_eq_true rfl)) g
theorem en100 (n0 : am_nl v0 = true) (n1 : am_nl v1 = true) (g : gG X d 100 0 [v0, v1] [] hp Q) : gE X d 100 [v0, v1] hp Q := gE.mk (m := 2) (by decide +kernel) (by unfold am_ent; rw [am_flat_nl n0, am_flat_nl n1]; rfl) (by rw [am_flat_nl n0, am_flat_nl n1]; exact (Nat.le_of_ble_eq_true rfl)) g
theorem en101 (n0 : am_nl v0 = true) (n1 : am_nl v1 = true) (g : gG X d 101 0 [v0, v1] [] hp Q) : gE X d 101 [v0, v1] hp Q := gE.mk (m := 2) (by decide +kernel) (by unfold am_ent; rw [am_flat_nl n0, am_flat_nl n1]; rfl) (by rw [am_flat_nl n0, am_flat_nl n1]; exact (Nat.le_of_ble_eq_true rfl)) g
theorem en102 (n0 : am_nl v0 = true) (n1 : am_nl v1 = true) (g : gG X d 102 0 [v0, v1] [] hp Q) : gE X d 102 [v0, v1] hp Q := gE.mk (m := 2) (by decide +kernel) (by unfold am_ent; rw [am_flat_nl n0, am_flat_nl n1]; rfl) (by rw [am_flat_nl n0, am_flat_nl n1]; exact (Nat.le_of_ble_eq_true rfl)) g
theorem en103 (n0 : am_nl v0 = true) (n1 : am_nl v1 = true) (g : gG X d 103 0 [v0, v1] [] hp Q) : gE X d 103 [v0, v1] hp Q := gE.mk (m := 2) (by decide +kernel) (by unfold am_ent; rw [am_flat_nl n0, am_flat_nl n1]; rfl) (by rw [am_flat_nl n0, am_flat_nl n1]; exact (Nat.le_of_ble_eq_true rfl)) g
theorem en104 (n0 : am_nl v0 = true) (n1 : am_nl v1 = true) (g : gG X d 104 0 [v0, v1] [] hp Q) : gE X d 104 [v0, v1] hp Q := gE.mk (m := 2) (by decide +kernel) (by unfold am_ent; rw [am_flat_nl n0, am_flat_nl n1]; rfl) (by rw [am_flat_nl n0, am_flat_nl n1]; exact (Nat.le_of_ble_eq_true rfl)) g
theorem en105 (n0 : am_nl v0 = true) (n1 : am_nl v1 = true) (g : gG X d 105 0 [v0, v1] [] hp Q) : gE X d 105 [v0, v1] hp Q := gE.mk (m := 2) (by decide +kernel) (by unfold am_ent; rw [am_flat_nl n0, am_flat_nl n1]; rfl) (by rw [am_flat_nl n0, am_flat_nl n1]; exact (Nat.le_of_ble_eq_true rfl)) g
theorem en106 (n0 : am_nl v0 = true) (g : gG X d 106 0 [v0] [] hp Q) : gE X d 106 [v0] hp Q := gE.mk (m := 1) (by decide +kernel) (by unfold am_ent; rw [am_flat_nl n0]; rfl) (by rw [am_flat_nl n0]; exact (Nat.le_of_ble_eq_true rfl)) g
theorem en107 (n0 : am_nl v0 = true) (g : gG X d 107 0 [v0, .long x1, .float 0, .float 0, .float 0, .float 0, .float 0, .float 0, .float 0] [] hp Q) : gE X d 107 [v0, .long x1] hp Q := gE.mk (m := 9) (by decide +kernel) (by unfold am_ent; rw [am_flat_nl n0, am_flat_l]; rfl) (by rw [am_flat_nl n0, am_flat_l]; exact (Nat.le_of_ble_eq_true rfl)) g
theorem en108 (n0 : am_nl v0 = true) (n1 : am_nl v1 = true) (g : gG X d 108 0 [v0, v1] [] hp Q) : gE X d 108 [v0, v1] hp Q := gE.mk (m := 2) (by decide +kernel) (by unfold am_ent; rw [am_flat_nl n0, am_flat_nl n1]; rfl) (by rw [am_flat_nl n0, am_flat_nl n1]; exact (Nat.le_of_ble_eq_true rfl)) g
theorem en109 (n0 : am_nl v0 = true) (n1 : am_nl v1 = true) (g : gG X d 109 0 [v0, v1] [] hp Q) : gE X d 109 [v0, v1] hp Q := gE.mk (m := 2) (by decide +kernel) (by unfold am_ent; rw [am_flat_nl n0, am_flat_nl n1]; rfl) (by rw [am_flat_nl n0, am_flat_nl n1]; exact (Nat.le_of_ble_eq_true rfl)) g
theorem en110 (n0 : am_nl v0 = true) (n1 : am_nl v1 = true) (g : gG X d 110 0 [v0, v1] [] hp Q) : gE X d 110 [v0, v1] hp Q := gE.mk (m := 2) (by decide +kernel) (by unfold am_ent; rw [am_flat_nl n0, am_flat_nl n1]; rfl) (by rw [am_flat_nl n0, am_flat_nl n1]; exact (Nat.le_of_ble_eq_true rfl)) g
theorem en111 (n0 : am_nl v0 = true) (g : gG X d 111 0 [v0] [] hp Q) : gE X d 111 [v0] hp Q := gE.mk (m := 1) (by decide +kernel) (by unfold am_ent; rw [am_flat_nl n0]; rfl) (by rw [am_flat_nl n0]; exact (Nat.le_of_ble_eq_true rfl)) g
theorem en112 (n0 : am_nl v0 = true) (g : gG X d 112 0 [v0, .float 0] [] hp Q) : gE X d 112 [v0] hp Q := gE.mk (m := 2) (by decide +kernel) (by unfold am_ent; rw [am_flat_nl n0]; rfl) (by rw [am_flat_nl n0]; exact (Nat.le_of_ble_eq_true rfl)) g
theorem en113 (n0 : am_nl v0 = true) (g : gG X d 113 0 [v0] [] hp Q) : gE X d 113 [v0] hp Q := gE.mk (m := 1) (by decide +kernel) (by unfold am_ent; rw [am_flat_nl n0]; rfl) (by rw [am_flat_nl n0]; exact (Nat.le_of_ble_eq_true rfl)) g
theorem en114 (n0 : am_nl v0 = true) (g : gG X d 114 0 [v0] [] hp Q) : gE X d 114 [v0] hp Q := gE.mk (m := 1) (by decide +kernel) (by unfold am_ent; rw [am_flat_nl n0]; rfl) (by rw [am_flat_nl n0]; exact (Nat.le_of_ble_eq_true rfl)) g
theorem en115 (n0 : am_nl v0 = true) (g : gG X d 115 0 [v0] [] hp Q) : gE X d 115 [v0] hp Q := gE.mk (m := 1) (by decide +kernel) (by unfold am_ent; rw [am_flat_nl n0]; rfl) (by rw [am_flat_nl n0]; exact (Nat.le_of_ble_eq_true rfl)) g
theorem en116 (n0 : am_nl v0 = true) (n1 : am_nl v1 = true) (g : gG X d 116 0 [v0, v1, .float 0] [] hp Q) : gE X d 116 [v0, v1] hp Q := gE.mk (m := 3) (by decide +kernel) (by unfold am_ent; rw [am_flat_nl n0, am_flat_nl n1]; rfl) (by rw [am_flat_nl n0, am_flat_nl n1]; exact (Nat.le_of_ble_eq_true rfl)) g
theorem en117 (n0 : am_nl v0 = true) (g : gG X d 117 0 [v0] [] hp Q) : gE X d 117 [v0] hp Q := gE.mk (m := 1) (by decide +kernel) (by unfold am_ent; rw [am_flat_nl n0]; rfl) (by rw [am_flat_nl n0]; exact (Nat.le_of_ble_eq_true rfl)) g
theorem en118 (n0 : am_nl v0 = true) (g : gG X d 118 0 [v0] [] hp Q) : gE X d 118 [v0] hp Q := gE.mk (m := 1) (by decide +kernel) (by unfold am_ent; rw [am_flat_nl n0]; rfl) (by rw [am_flat_nl n0]; exact (Nat.le_of_ble_eq_true rfl)) g
theorem en119 (n0 : am_nl v0 = true) (n1 : am_nl v1 = true) (n2 : am_nl v2 = true) (n3 : am_nl v3 = true) (n4 : am_nl v4 = true) (n5 : am_nl v5 = true) (g : gG X d 119 0 [v0, v1, v2, v3, v4, v5, .float 0, .float 0] [] hp Q) : gE X d 119 [v0, v1, v2, v3, v4, v5] hp Q := gE.mk (m := 8) (by decide +kernel) (by unfold am_ent; rw [am_flat_nl n0, am_flat_nl n1, am_flat_nl n2, am_flat_nl n3, am_flat_nl n4, am_flat_nl n5]; rfl) (by rw [am_flat_nl n0, am_flat_nl n1, am_flat_nl n2, am_flat_nl n3, am_flat_nl n4, am_flat_nl n5]; exact (Nat.le_of_ble_eq_true rfl)) g
theorem en120 (n0 : am_nl v0 = true) (n1 : am_nl v1 = true) (g : gG X d 120 0 [v0, v1, .float 0, .float 0, .float 0] [] hp Q) : gE X d 120 [v0, v1] hp Q := gE.mk (m := 5) (by decide +kernel) (by unfold am_ent; rw [am_flat_nl n0, am_flat_nl n1]; rfl) (by rw [am_flat_nl n0, am_flat_nl n1]; exact (Nat.le_of_ble_eq_true rfl)) g
theorem en121 (n0 : am_nl v0 = true) (n1 : am_nl v1 = true) (g : gG X d 121 0 [v0, v1] [] hp Q) : gE X d 121 [v0, v1] hp Q := gE.mk (m := 2) (by decide +kernel) (by unfold am_ent; rw [am_flat_nl n0, am_flat_nl n1]; rfl) (by rw [am_flat_nl n0, am_flat_nl n1]; exact (Nat.le_of_ble_eq_true rfl)) g
theorem en122 (n0 : am_nl v0 = true) (n1 : am_nl v1 = true) (g : gG X d 122 0 [v0, v1, .float 0] [] hp Q) : gE X d 122 [v0, v1] hp Q := gE.mk (m := 3) (by decide +kernel) (by unfold am_ent; rw [am_flat_nl n0, am_flat_nl n1]; rfl) (by rw [am_flat_nl n0, am_flat_nl n1]; exact (Nat.le_of_ble_eq_true rfl)) g
theorem en123 (n0 : am_nl v0 = true) (n1 : am_nl v1 = true) (g : gG X d 123 0 [v0, v1] [] hp Q) : gE X d 123 [v0, v1] hp Q := gE.mk (m := 2) (by decide +kernel) (by unfold am_ent; rw [am_flat_nl n0, am_flat_nl n1]; rfl) (by rw [am_flat_nl n0, am_flat_nl n1]; exact (Nat.le_of_ble_eq_true rfl)) g
theorem en124 (n0 : am_nl v0 = true) (n1 : am_nl v1 = true) (g : gG X d 124 0 [v0, v1, .float 0, .float 0] [] hp Q) : gE X d 124 [v0, v1] hp Q := gE.mk (m := 4) (by decide +kernel) (by unfold am_ent; rw [am_flat_nl n0, am_flat_nl n1]; rfl) (by rw [am_flat_nl n0, am_flat_nl n1]; exact (Nat.le_of_ble_eq_true rfl)) g
theorem en125 (n0 : am_nl v0 = true) (n1 : am_nl v1 = true) (g : gG X d 125 0 [v0, v1] [] hp Q) : gE X d 125 [v0, v1] hp Q := gE.mk (m := 2) (by decide +kernel) (by unfold am_ent; rw [am_flat_nl n0, am_flat_nl n1]; rfl) (by rw [am_flat_nl n0, am_flat_nl n1]; exact (Nat.le_of_ble_eq_true rfl)) g
theorem en126 (n0 : am_nl v0 = true) (n1 : am_nl v1 = true) (g : gG X d 126 0 [v0, v1, .float 0] [] hp Q) : gE X d 126 [v0, v1] hp Q := gE.mk (m := 3) (by decide +kernel) (by unfold am_ent; rw [am_flat_nl n0, am_flat_nl n1]; rfl) (by rw [am_flat_nl n0, am_flat_nl n1]; exact (Nat.le_of_ble_eq_true rfl)) g
theorem en127 (n0 : am_nl v0 = true) (g : gG X d 127 0 [v0, .float 0] [] hp Q) : gE X d 127 [v0] hp Q := gE.mk (m := 2) (by decide +kernel) (by unfold am_ent; rw [am_flat_nl n0]; rfl) (by rw [am_flat_nl n0]; exact (Nat.le_of_ble_eq_true rfl)) g
theorem en128 (n0 : am_nl v0 = true) (g : gG X d 128 0 [v0, .float 0] [] hp Q) : gE X d 128 [v0] hp Q := gE.mk (m := 2) (by decide +kernel) (by unfold am_ent; rw [am_flat_nl n0]; rfl) (by rw [am_flat_nl n0]; exact (Nat.le_of_ble_eq_true rfl)) g
theorem en129 (n0 : am_nl v0 = true) (g : gG X d 129 0 [v0] [] hp Q) : gE X d 129 [v0] hp Q := gE.mk (m := 1) (by decide +kernel) (by unfold am_ent; rw [am_flat_nl n0]; rfl) (by rw [am_flat_nl n0]; exact (Nat.le_of_ble_eq_true rfl)) g
theorem en130 (n0 : am_nl v0 = true) (n1 : am_nl v1 = true) (g : gG X d 130 0 [v0, v1] [] hp Q) : gE X d 130 [v0, v1] hp Q := gE.mk (m := 2) (by decide +kernel) (by unfold am_ent; rw [am_flat_nl n0, am_flat_nl n1]; rfl) (by rw [am_flat_nl n0, am_flat_nl n1]; exact (Nat.le_of_ble_eq_true rfl)) g
theorem en131 (n0 : am_nl v0 = true) (n1 : am_nl v1 = true) (g : gG X d 131 0 [v0, v1] [] hp Q) : gE X d 131 [v0, v1] hp Q := gE.mk (m := 2) (by decide +kernel) (by unfold am_ent; rw [am_flat_nl n0, am_flat_nl n1]; rfl) (by rw [am_flat_nl n0, am_flat_nl n1]; exact (Nat.le_of_ble_eq_true rfl)) g
theorem en132 (n0 : am_nl v0 = true) (g : gG X d 132 0 [v0] [] hp Q) : gE X d 132 [v0] hp Q := gE.mk (m := 1) (by decide +kernel) (by unfold am_ent; rw [am_flat_nl n0]; rfl) (by rw [am_flat_nl n0]; exact (Nat.le_of_ble_eq_true rfl)) g
theorem en133 (n0 : am_nl v0 = true) (g : gG X d 133 0 [v0] [] hp Q) : gE X d 133 [v0] hp Q := gE.mk (m := 1) (by decide +kernel) (by unfold am_ent; rw [am_flat_nl n0]; rfl) (by rw [am_flat_nl n0]; exact (Nat.le_of_ble_eq_true rfl)) g
theorem en134 (n0 : am_nl v0 = true) (g : gG X d 134 0 [v0] [] hp Q) : gE X d 134 [v0] hp Q := gE.mk (m := 1) (by decide +kernel) (by unfold am_ent; rw [am_flat_nl n0]; rfl) (by rw [am_flat_nl n0]; exact (Nat.le_of_ble_eq_true rfl)) g
theorem en135 (n0 : am_nl v0 = true) (g : gG X d 135 0 [v0] [] hp Q) : gE X d 135 [v0] hp Q := gE.mk (m := 1) (by decide +kernel) (by unfold am_ent; rw [am_flat_nl n0]; rfl) (by rw [am_flat_nl n0]; exact (Nat.le_of_ble_eq_true rfl)) g
theorem en136 (n0 : am_nl v0 = true) (n1 : am_nl v1 = true) (g : gG X d 136 0 [v0, v1] [] hp Q) : gE X d 136 [v0, v1] hp Q := gE.mk (m := 2) (by decide +kernel) (by unfold am_ent; rw [am_flat_nl n0, am_flat_nl n1]; rfl) (by rw [am_flat_nl n0, am_flat_nl n1]; exact (Nat.le_of_ble_eq_true rfl)) g
theorem en137 (n0 : am_nl v0 = true) (n1 : am_nl v1 = true) (n2 : am_nl v2 = true) (g : gG X d 137 0 [v0, v1, v2] [] hp Q) : gE X d 137 [v0, v1, v2] hp Q := gE.mk (m := 3) (by decide +kernel) (by unfold am_ent; rw [am_flat_nl n0, am_flat_nl n1, am_flat_nl n2]; rfl) (by rw [am_flat_nl n0, am_flat_nl n1, am_flat_nl n2]; exact (Nat.le_of_ble_eq_true rfl)) g
theorem en138 (n0 : am_nl v0 = true) (n1 : am_nl v1 = true) (g : gG X d 138 0 [v0, v1] [] hp Q) : gE X d 138 [v0, v1] hp Q := gE.mk (m := 2) (by decide +kernel) (by unfold am_ent; rw [am_flat_nl n0, am_flat_nl n1]; rfl) (by rw [am_flat_nl n0, am_flat_nl n1]; exact (Nat.le_of_ble_eq_true rfl)) g
theorem en139 (n0 : am_nl v0 = true) (n1 : am_nl v1 = true) (n2 : am_nl v2 = true) (g : gG X d 139 0 [v0, v1, v2] [] hp Q) : gE X d 139 [v0, v1, v2] hp Q := gE.mk (m := 3) (by decide +kernel) (by unfold am_ent; rw [am_flat_nl n0, am_flat_nl n1, am_flat_nl n2]; rfl) (by rw [am_flat_nl n0, am_flat_nl n1, am_flat_nl n2]; exact (Nat.le_of_ble_eq_true rfl)) g
theorem en140 (n0 : am_nl v0 = true) (n1 : am_nl v1 = true) (g : gG X d 140 0 [v0, v1] [] hp Q) : gE X d 140 [v0, v1] hp Q := gE.mk (m := 2) (by decide +kernel) (by unfold am_ent; rw [am_flat_nl n0, am_flat_nl n1]; rfl) (by rw [am_flat_nl n0, am_flat_nl n1]; exact (Nat.le_of_ble_eq_true rfl)) g
theorem en141 (n0 : am_nl v0 = true) (n1 : am_nl v1 = true) (n2 : am_nl v2 = true) (g : gG X d 141 0 [v0, v1, v2, .float 0] [] hp Q) : gE X d 141 [v0, v1, v2] hp Q := gE.mk (m := 4) (by decide +kernel) (by unfold am_ent; rw [am_flat_nl n0, am_flat_nl n1, am_flat_nl n2]; rfl) (by rw [am_flat_nl n0, am_flat_nl n1, am_flat_nl n2]; exact (Nat.le_of_ble_eq_true rfl)) g
theorem en142 (n0 : am_nl v0 = true) (n1 : am_nl v1 = true) (g : gG X d 142 0 [v0, v1, .float 0, .float 0] [] hp Q) : gE X d 142 [v0, v1] hp Q := gE.mk (m := 4) (by decide +kernel) (by unfold am_ent; rw [am_flat_nl n0, am_flat_nl n1]; rfl) (by rw [am_flat_nl n0, am_flat_nl n1]; exact (Nat.le_of_ble_eq_true rfl)) g
theorem en143 (n0 : am_nl v0 = true) (g : gG X d 143 0 [v0] [] hp Q) : gE X d 143 [v0] hp Q := gE.mk (m := 1) (by decide +kernel) (by unfold am_ent; rw [am_flat_nl n0]; rfl) (by rw [am_flat_nl n0]; exact (Nat.le_of_ble_eq_true rfl)) g
theorem en144 (n0 : am_nl v0 = true) (n1 : am_nl v1 = true) (n2 : am_nl v2 = true) (g : gG X d 144 0 [v0, v1, v2, .float 0, .float 0] [] hp Q) : gE X d 144 [v0, v1, v2] hp Q := gE.mk (m := 5) (by decide +kernel) (by unfold am_ent; rw [am_flat_nl n0, am_flat_nl n1, am_flat_nl n2]; rfl) (by rw [am_flat_nl n0, am_flat_nl n1, am_flat_nl n2]; exact (Nat.le_of_ble_eq_true rfl)) g
theorem en145 (n0 : am_nl v0 = true) (n1 : am_nl v1 = true) (n2 : am_nl v2 = true) (g : gG X d 145 0 [v0, v1, v2, .float 0, .float 0] [] hp Q) : gE X d 145 [v0, v1, v2] hp Q := gE.mk (m := 5) (by decide +kernel) (by unfold am_ent; rw [am_flat_nl n0, am_flat_nl n1, am_flat_nl n2]; rfl) (by rw [am_flat_nl n0, am_flat_nl n1, am_flat_nl n2]; exact (Nat.le_of_ble_eq_true rfl)) g
theorem en146 (n0 : am_nl v0 = true) (n1 : am_nl v1 = true) (n2 : am_nl v2 = true) (n3 : am_nl v3 = true) (n4 : am_nl v4 = true) (g : gG X d 146 0 [v0, v1, v2, v3, v4, .float 0] [] hp Q) : gE X d 146 [v0, v1, v2, v3, v4] hp Q := gE.mk (m := 6) (by decide +kernel) (by unfold am_ent; rw [am_flat_nl n0, am_flat_nl n1, am_flat_nl n2, am_flat_nl n3, am_flat_nl n4]; rfl) (by rw [am_flat_nl n0, am_flat_nl n1, am_flat_nl n2, am_flat_nl n3, am_flat_nl n4]; exact (Nat.le_of_ble_eq_true rfl)) g
theorem en147 (n0 : am_nl v0 = true) (n1 : am_nl v1 = true) (g : gG X d 147 0 [v0, v1, .float 0, .float 0, .float 0] [] hp Q) : gE X d 147 [v0, v1] hp Q := gE.mk (m := 5) (by decide +kernel) (by unfold am_ent; rw [am_flat_nl n0, am_flat_nl n1]; rfl) (by rw [am_flat_nl n0, am_flat_nl n1]; exact (Nat.le_of_ble_eq_true rfl)) g
theorem en148 (n0 : am_nl v0 = true) (n1 : am_nl v1 = true) (n2 : am_nl v2 = true) (n3 : am_nl v3 = true) (n4 : am_nl v4 = true) (n5 : am_nl v5 = true) (g : gG X d 148 0 [v0, v1, v2, v3, v4, v5, .float 0, .float 0, .float 0, .float 0] [] hp Q) : gE X d 148 [v0, v1, v2, v3, v4, v5] hp Q := gE.mk (m := 10) (by decide +kernel) (by unfold am_ent; rw [am_flat_nl n0, am_flat_nl n1, am_flat_nl n2, am_flat_nl n3, am_flat_nl n4, am_flat_nl n5]; rfl) (by rw [am_flat_nl n0, am_flat_nl n1, am_flat_nl n2, am_flat_nl n3, am_flat_nl n4, am_flat_nl n5]; exact (Nat.le_of_ble_eq_true rfl)) g
theorem en149 (n0 : am_nl v0 = true) (n1 : am_nl v1 = true) (g : gG X d 149 0 [v0, v1, .float 0] [] hp Q) : gE X d 149 [v0, v1] hp Q := gE.mk (m := 3) (by decide +kernel) (by unfold am_ent; rw [am_flat_nl n0, am_flat_nl n1]; rfl) (by rw [am_flat_nl n0, am_flat_nl n1]; exact (Nat.le_of_ble_eq_true rfl)) g
theorem en150 (n0 : am_nl v0 = true) (n1 : am_nl v1 = true) (g : gG X d 150 0 [v0, v1, .float 0, .float 0, .float 0] [] hp Q) : gE X d 150 [v0, v1] hp Q := gE.mk (m := 5) (by decide +kernel) (by unfold am_ent; rw [am_flat_nl n0, am_flat_nl n1]; rfl) (by rw [am_flat_nl n0, am_flat_nl n1]; exact (Nat.le_of_ble_eq_true rfl)) g
theorem en151 (n0 : am_nl v0 = true) (n1 : am_nl v1 = true) (n2 : am_nl v2 = true) (n3 : am_nl v3 = true) (g : gG X d 151 0 [v0, v1, v2, v3, .float 0, .float 0] [] hp Q) : gE X d 151 [v0, v1, v2, v3] hp Q := gE.mk (m := 6) (by decide +kernel) (by unfold am_ent; rw [am_flat_nl n0, am_flat_nl n1, am_flat_nl n2, am_flat_nl n3]; rfl) (by rw [am_flat_nl n0, am_flat_nl n1, am_flat_nl n2, am_flat_nl n3]; exact (Nat.le_of_ble_eq_true rfl)) g
theorem en152 (n0 : am_nl v0 = true) (n1 : am_nl v1 = true) (n2 : am_nl v2 = true) (g : gG X d 152 0 [v0, v1, v2, .float 0, .float 0] [] hp Q) : gE X d 152 [v0, v1, v2] hp Q := gE.mk (m := 5) (by decide +kernel) (by unfold am_ent; rw [am_flat_nl n0, am_flat_nl n1, am_flat_nl n2]; rfl) (by rw [am_flat_nl n0, am_flat_nl n1, am_flat_nl n2]; exact (Nat.le_of_ble_eq_true rfl)) g
theorem en153 (n0 : am_nl v0 = true) (n1 : am_nl v1 = true) (n2 : am_nl v2 = true) (n3 : am_nl v3 = true) (g : gG X d 153 0 [v0, v1, v2, v3, .float 0, .float 0, .float 0, .float 0, .float 0] [] hp Q) : gE X d 153 [v0, v1, v2, v3] hp Q := gE.mk (m := 9) (by decide +kernel) (by unfold am_ent; rw [am_flat_nl n0, am_flat_nl n1, am_flat_nl n2, am_flat_nl n3]; rfl) (by rw [am_flat_nl n0, am_flat_nl n1, am_flat_nl n2, am_flat_nl n3]; exact (Nat.le_of_ble_eq_true rfl)) g
theorem en154 (n0 : am_nl v0 = true) (n1 : am_nl v1 = true) (n2 : am_nl v2 = true) (n3 : am_nl v3 = true) (g : gG X d 154 0 [v0, v1, v2, v3, .float 0, .float 0, .float 0] [] hp Q) : gE X d 154 [v0, v1, v2, v3] hp Q := gE.mk (m := 7) (by decide +kernel) (by unfold am_ent; rw [am_flat_nl n0, am_flat_nl n1, am_flat_nl n2, am_flat_nl n3]; rfl) (by rw [am_flat_nl n0, am_flat_nl n1, am_flat_nl n2, am_flat_nl n3]; exact (Nat.le_of_ble_eq_true rfl)) g
theorem en155 (n0 : am_nl v0 = true) (n1 : am_nl v1 = true) (n2 : am_nl v2 = true) (n3 : am_nl v3 = true) (g : gG X d 155 0 [v0, v1, v2, v3, .float 0, .float 0, .float 0] [] hp Q) : gE X d 155 [v0, v1, v2, v3] hp Q := gE.mk (m := 7) (by decide +kernel) (by unfold am_ent; rw [am_flat_nl n0, am_flat_nl n1, am_flat_nl n2, am_flat_nl n3]; rfl) (by rw [am_flat_nl n0, am_flat_nl n1, am_flat_nl n2, am_flat_nl n3]; exact (Nat.le_of_ble_eq_true rfl)) g
theorem en156 (n0 : am_nl v0 = true) (n1 : am_nl v1 = true) (g : gG X d 156 0 [v0, v1, .float 0, .float 0, .float 0] [] hp Q) : gE X d 156 [v0, v1] hp Q := gE.mk (m := 5) (by decide +kernel) (by unfold am_ent; rw [am_flat_nl n0, am_flat_nl n1]; rfl) (by rw [am_flat_nl n0, am_flat_nl n1]; exact (Nat.le_of_ble_eq_true rfl)) g
theorem en157 (n0 : am_nl v0 = true) (n1 : am_nl v1 = true) (n2 : am_nl v2 = true) (g : gG X d 157 0 [v0, v1, v2, .float 0, .float 0, .float 0, .float 0] [] hp Q) : gE X d 157 [v0, v1, v2] hp Q := gE.mk (m := 7) (by decide +kernel) (by unfold am_ent; rw [am_flat_nl n0, am_flat_nl n1, am_flat_nl n2]; rfl) (by rw [am_flat_nl n0, am_flat_nl n1, am_flat_nl n2]; exact (Nat.le_of_ble_eq_true rfl)) g
theorem en158 (n0 : am_nl v0 = true) (n1 : am_nl v1 = true) (n2 : am_nl v2 = true) (g : gG X d 158 0 [v0, v1, v2, .float 0, .float 0, .float 0, .float 0, .float 0, .float 0, .float 0] [] hp Q) : gE X d 158 [v0, v1, v2] hp Q := gE.mk (m := 10) (by decide +kernel) (by unfold am_ent; rw [am_flat_nl n0, am_flat_nl n1, am_flat_nl n2]; rfl) (by rw [am_flat_nl n0, am_flat_nl n1, am_flat_nl n2]; exact (Nat.le_of_ble_eq_true rfl)) g
theorem en159 (n0 : am_nl v0 = true) (n1 : am_nl v1 = true) (n2 : am_nl v2 = true) (n3 : am_nl v3 = true) (n4 : am_nl v4 = true) (n5 : am_nl v5 = true) (g : gG X d 159 0 [v0, v1, v2, v3, v4, v5, .float 0, .float 0] [] hp Q) : gE X d 159 [v0, v1, v2, v3, v4, v5] hp Q := gE.mk (m := 8) (by decide +kernel) (by unfold am_ent; rw [am_flat_nl n0, am_flat_nl n1, am_flat_nl n2, am_flat_nl n3, am_flat_nl n4, am_flat_nl n5]; rfl) (by rw [am_flat_nl n0, am_flat_nl n1, am_flat_nl n2, am_flat_nl n3, am_flat_nl n4, am_flat_nl n5]; exact (Nat.le_of_ble_eq_true rfl)) g
theorem en160 (n0 : am_nl v0 = true) (n1 : am_nl v1 = true) (n2 : am_nl v2 = true) (n3 : am_nl v3 = true) (g : gG X d 160 0 [v0, v1, v2, v3] [] hp Q) : gE X d 160 [v0, v1, v2, v3] hp Q := gE.mk (m := 4) (by decide +kernel) (by unfold am_ent; rw [am_flat_nl n0, am_flat_nl n1, am_flat_nl n2, am_flat_nl n3]; rfl) (by rw [am_flat_nl n0, am_flat_nl n1, am_flat_nl n2, am_flat_nl n3]; exact (Nat.le_of_ble_eq_true rfl)) g
theorem en161 (n0 : am_nl v0 = true) (n1 : am_nl v1 = true) (g : gG X d 161 0 [v0, v1] [] hp Q) : gE X d 161 [v0, v1] hp Q := gE.mk (m := 2) (by decide +kernel) (by unfold am_ent; rw [am_flat_nl n0, am_flat_nl n1]; rfl) (by rw [am_flat_nl n0, am_flat_nl n1]; exact (Nat.le_of_ble_eq_true rfl)) g
theorem en162 (n0 : am_nl v0 = true) (n1 : am_nl v1 = true) (n2 : am_nl v2 = true) (n3 : am_nl v3 = true) (n4 : am_nl v4 = true) (g : gG X d 162 0 [v0, v1, v2, v3, v4, .float 0] [] hp Q) : gE X d 162 [v0, v1, v2, v3, v4] hp Q := gE.mk (m := 6) (by decide +kernel) (by unfold am_ent; rw [am_flat_nl n0, am_flat_nl n1, am_flat_nl n2, am_flat_nl n3, am_flat_nl n4]; rfl) (by rw [am_flat_nl n0, am_flat_nl n1, am_flat_nl n2, am_flat_nl n3, am_flat_nl n4]; exact (Nat.le_of_ble_eq_true rfl)) g
theorem en163 (n0 : am_nl v0 = true) (n1 : am_nl v1 = true) (n2 : am_nl v2 = true) (g : gG X d 163 0 [v0, v1, v2, .float 0] [] hp Q) : gE X d 163 [v0, v1, v2] hp Q := gE.mk (m := 4) (by decide +kernel) (by unfold am_ent; rw [am_flat_nl n0, am_flat_nl n1, am_flat_nl n2]; rfl) (by rw [am_flat_nl n0, am_flat_nl n1, am_flat_nl n2]; exact (Nat.le_of_ble_eq_true rfl)) g
theorem en164 (n0 : am_nl v0 = true) (g : gG X d 164 0 [v0, .float 0, .float 0] [] hp Q) : gE X d 164 [v0] hp Q := gE.mk (m := 3) (by decide +kernel) (by unfold am_ent; rw [am_flat_nl n0]; rfl) (by rw [am_flat_nl n0]; exact (Nat.le_of_ble_eq_true rfl)) g
theorem en165 (n0 : am_nl v0 = true) (n1 : am_nl v1 = true) (g : gG X d 165 0 [v0, v1, .float 0] [] hp Q) : gE X d 165 [v0, v1] hp Q := gE.mk (m := 3) (by decide +kernel) (by unfold am_ent; rw [am_flat_nl n0, am_flat_nl n1]; rfl) (by rw [am_flat_nl n0, am_flat_nl n1]; exact (Nat.le_of_ble_eq_true rfl)) g
theorem en166 (n0 : am_nl v0 = true) (g : gG X d 166 0 [v0, .float 0, .float 0, .float 0] [] hp Q) : gE X d 166 [v0] hp Q := gE.mk (m := 4) (by decide +kernel) (by unfold am_ent; rw [am_flat_nl n0]; rfl) (by rw [am_flat_nl n0]; exact (Nat.le_of_ble_eq_true rfl)) g
theorem en167 (n0 : am_nl v0 = true) (n1 : am_nl v1 = true) (g : gG X d 167 0 [v0, v1, .float 0, .float 0] [] hp Q) : gE X d 167 [v0, v1] hp Q := gE.mk (m := 4) (by decide +kernel) (by unfold am_ent; rw [am_flat_nl n0, am_flat_nl n1]; rfl) (by rw [am_flat_nl n0, am_flat_nl n1]; exact (Nat.le_of_ble_eq_true rfl)) g
theorem en168 (n0 : am_nl v0 = true) (n1 : am_nl v1 = true) (g : gG X d 168 0 [v0, v1] [] hp Q) : gE X d 168 [v0, v1] hp Q := gE.mk (m := 2) (by decide +kernel) (by unfold am_ent; rw [am_flat_nl n0, am_flat_nl n1]; rfl) (by rw [am_flat_nl n0, am_flat_nl n1]; exact (Nat.le_of_ble_eq_true rfl)) g
theorem en169 (n0 : am_nl v0 = true) (n1 : am_nl v1 = true) (g : gG X d 169 0 [v0, v1, .long x2, .float 0, .float 0, .float 0, .float 0] [] hp Q) : gE X d 169 [v0, v1, .long x2] hp Q := gE.mk (m := 7) (by decide +kernel) (by unfold am_ent; rw [am_flat_nl n0, am_flat_nl n1, am_flat_l]; rfl) (by rw [am_flat_nl n0, am_flat_nl n1, am_flat_l]; exact (Nat.le_of_ble_eq_true rfl)) g
theorem en170 (n0 : am_nl v0 = true) (n1 : am_nl v1 = true) (g : gG X d 170 0 [v0, v1] [] hp Q) : gE X d 170 [v0, v1] hp Q := gE.mk (m := 2) (by decide +kernel) (by unfold am_ent; rw [am_flat_nl n0, am_flat_nl n1]; rfl) (by rw [am_flat_nl n0, am_flat_nl n1]; exact (Nat.le_of_ble_eq_true rfl)) g
theorem en171 (n0 : am_nl v0 = true) (g : gG X d 171 0 [v0] [] hp Q) : gE X d 171 [v0] hp Q := gE.mk (m := 1) (by decide +kernel) (by unfold am_ent; rw [am_flat_nl n0]; rfl) (by rw [am_flat_nl n0]; exact (Nat.le_of_ble_eq_true rfl)) g
theorem en172 (n0 : am_nl v0 = true) (g : gG X d 172 0 [v0] [] hp Q) : gE X d 172 [v0] hp Q := gE.mk (m := 1) (by decide +kernel) (by unfold am_ent; rw [am_flat_nl n0]; rfl) (by rw [am_flat_nl n0]; exact (Nat.le_of_ble_eq_true rfl)) g
theorem en173 (n0 : am_nl v0 = true) (n1 : am_nl v1 = true) (g : gG X d 173 0 [v0, v1] [] hp Q) : gE X d 173 [v0, v1] hp Q := gE.mk (m := 2) (by decide +kernel) (by unfold am_ent; rw [am_flat_nl n0, am_flat_nl n1]; rfl) (by rw [am_flat_nl n0, am_flat_nl n1]; exact (Nat.le_of_ble_eq_true rfl)) g
theorem en174 (n0 : am_nl v0 = true) (g : gG X d 174 0 [v0] [] hp Q) : gE X d 174 [v0] hp Q := gE.mk (m := 1) (by decide +kernel) (by unfold am_ent; rw [am_flat_nl n0]; rfl) (by rw [am_flat_nl n0]; exact (Nat.le_of_ble_eq_true rfl)) g
theorem en175 (n0 : am_nl v0 = true) (g : gG X d 175 0 [v0] [] hp Q) : gE X d 175 [v0] hp Q := gE.mk (m := 1) (by decide +kernel) (by unfold am_ent; rw [am_flat_nl n0]; rfl) (by rw [am_flat_nl n0]; exact (Nat.le_of_ble_eq_true rfl)) g
theorem en176  (g : gG X d 176 0 [.long x0, .float 0, .long x1, .float 0, .long x2, .float 0] [] hp Q) : gE X d 176 [.long x0, .long x1, .long x2] hp Q := gE.mk (m := 6) (by decide +kernel) (by unfold am_ent; rw [am_flat_l, am_flat_l, am_flat_l]; rfl) (by rw [am_flat_l, am_flat_l, am_flat_l]; exact (Nat.le_of_ble_eq_true rfl)) g
theorem en177 (n0 : am_nl v0 = true) (n1 : am_nl v1 = true) (g : gG X d 177 0 [v0, v1] [] hp Q) : gE X d 177 [v0, v1] hp Q := gE.mk (m := 2) (by decide +kernel) (by unfold am_ent; rw [am_flat_nl n0, am_flat_nl n1]; rfl) (by rw [am_flat_nl n0, am_flat_nl n1]; exact (Nat.le_of_ble_eq_true rfl)) g
theorem en178 (n0 : am_nl v0 = true) (n1 : am_nl v1 = true) (g : gG X d 178 0 [v0, v1, .float 0] [] hp Q) : gE X d 178 [v0, v1] hp Q := gE.mk (m := 3) (by decide +kernel) (by unfold am_ent; rw [am_flat_nl n0, am_flat_nl n1]; rfl) (by rw [am_flat_nl n0, am_flat_nl n1]; exact (Nat.le_of_ble_eq_true rfl)) g
theorem en179 (n0 : am_nl v0 = true) (g : gG X d 179 0 [v0, .float 0, .float 0] [] hp Q) : gE X d 179 [v0] hp Q := gE.mk (m := 3) (by decide +kernel) (by unfold am_ent; rw [am_flat_nl n0]; rfl) (by rw [am_flat_nl n0]; exact (Nat.le_of_ble_eq_true rfl)) g
theorem en180 (n0 : am_nl v0 = true) (n1 : am_nl v1 = true) (g : gG X d 180 0 [v0, v1, .float 0] [] hp Q) : gE X d 180 [v0, v1] hp Q := gE.mk (m := 3) (by decide +kernel) (by unfold am_ent; rw [am_flat_nl n0, am_flat_nl n1]; rfl) (by rw [am_flat_nl n0, am_flat_nl n1]; exact (Nat.le_of_ble_eq_true rfl)) g
theorem en181 (n0 : am_nl v0 = true) (n1 : am_nl v1 = true) (n2 : am_nl v2 = true) (n3 : am_nl v3 = true) (n4 : am_nl v4 = true) (n5 : am_nl v5 = true) (g : gG X d 181 0 [v0, v1, v2, v3, v4, v5] [] hp Q) : gE X d 181 [v0, v1, v2, v3, v4, v5] hp Q := gE.mk (m := 6) (by decide +kernel) (by unfold am_ent; rw [am_flat_nl n0, am_flat_nl n1, am_flat_nl n2, am_flat_nl n3, am_flat_nl n4, am_flat_nl n5]; rfl) (by rw [am_flat_nl n0, am_flat_nl n1, am_flat_nl n2, am_flat_nl n3, am_flat_nl n4, am_flat_nl n5]; exact (Nat.le_of_ble_eq_true rfl)) g
theorem en182 (n0 : am_nl v0 = true) (n1 : am_nl v1 = true) (g : gG X d 182 0 [v0, v1] [] hp Q) : gE X d 182 [v0, v1] hp Q := gE.mk (m := 2) (by decide +kernel) (by unfold am_ent; rw [am_flat_nl n0, am_flat_nl n1]; rfl) (by rw [am_flat_nl n0, am_flat_nl n1]; exact (Nat.le_of_ble_eq_true rfl)) g
theorem en183 (n0 : am_nl v0 = true) (g : gG X d 183 0 [v0] [] hp Q) : gE X d 183 [v0] hp Q := gE.mk (m := 1) (by decide +kernel) (by unfold am_ent; rw [am_flat_nl n0]; rfl) (by rw [am_flat_nl n0]; exact (Nat.le_of_ble_eq_true rfl)) g
theorem en184 (n0 : am_nl v0 = true) (g : gG X d 184 0 [v0] [] hp Q) : gE X d 184 [v0] hp Q := gE.mk (m := 1) (by decide +kernel) (by unfold am_ent; rw [am_flat_nl n0]; rfl) (by rw [am_flat_nl n0]; exact (Nat.le_of_ble_eq_true rfl)) g
theorem en185 (n0 : am_nl v0 = true) (g : gG X d 185 0 [v0] [] hp Q) : gE X d 185 [v0] hp Q := gE.mk (m := 1) (by decide +kernel) (by unfold am_ent; rw [am_flat_nl n0]; rfl) (by rw [am_flat_nl n0]; exact (Nat.le_of_ble_eq_true rfl)) g
theorem en186 (n0 : am_nl v0 = true) (n1 : am_nl v1 = true) (g : gG X d 186 0 [v0, v1] [] hp Q) : gE X d 186 [v0, v1] hp Q := gE.mk (m := 2) (by decide +kernel) (by unfold am_ent; rw [am_flat_nl n0, am_flat_nl n1]; rfl) (by rw [am_flat_nl n0, am_flat_nl n1]; exact (Nat.le_of_ble_eq_true rfl)) g
theorem en187 (n0 : am_nl v0 = true) (g : gG X d 187 0 [v0] [] hp Q) : gE X d 187 [v0] hp Q := gE.mk (m := 1) (by decide +kernel) (by unfold am_ent; rw [am_flat_nl n0]; rfl) (by rw [am_flat_nl n0]; exact (Nat.le_of_ble_eq_true rfl)) g
theorem en188  (g : gG X d 188 0 [.long x0, .float 0] [] hp Q) : gE X d 188 [.long x0] hp Q := gE.mk (m := 2) (by decide +kernel) (by unfold am_ent; rw [am_flat_l]; rfl) (by rw [am_flat_l]; exact (Nat.le_of_ble_eq_true rfl)) g
theorem en189 (n0 : am_nl v0 = true) (g : gG X d 189 0 [v0, .float 0, .float 0, .float 0] [] hp Q) : gE X d 189 [v0] hp Q := gE.mk (m := 4) (by decide +kernel) (by unfold am_ent; rw [am_flat_nl n0]; rfl) (by rw [am_flat_nl n0]; exact (Nat.le_of_ble_eq_true rfl)) g
theorem en190 (n0 : am_nl v0 = true) (g : gG X d 190 0 [v0, .float 0, .float 0, .float 0, .float 0] [] hp Q) : gE X d 190 [v0] hp Q := gE.mk (m := 5) (by decide +kernel) (by unfold am_ent; rw [am_flat_nl n0]; rfl) (by rw [am_flat_nl n0]; exact (Nat.le_of_ble_eq_true rfl)) g
theorem en191 (n0 : am_nl v0 = true) (g : gG X d 191 0 [v0, .float 0, .float 0, .float 0, .float 0] [] hp Q) : gE X d 191 [v0] hp Q := gE.mk (m := 5) (by decide +kernel) (by unfold am_ent; rw [am_flat_nl n0]; rfl) (by rw [am_flat_nl n0]; exact (Nat.le_of_ble_eq_true rfl)) g
theorem en192 (n0 : am_nl v0 = true) (g : gG X d 192 0 [v0] [] hp Q) : gE X d 192 [v0] hp Q := gE.mk (m := 1) (by decide +kernel) (by unfold am_ent; rw [am_flat_nl n0]; rfl) (by rw [am_flat_nl n0]; exact (Nat.le_of_ble_eq_true rfl)) g
theorem en193 (n0 : am_nl v0 = true) (n1 : am_nl v1 = true) (n2 : am_nl v2 = true) (g : gG X d 193 0 [v0, v1, v2, .float 0, .float 0, .float 0] [] hp Q) : gE X d 193 [v0, v1, v2] hp Q := gE.mk (m := 6) (by decide +kernel) (by unfold am_ent; rw [am_flat_nl n0, am_flat_nl n1, am_flat_nl n2]; rfl) (by rw [am_flat_nl n0, am_flat_nl n1, am_flat_nl n2]; exact (Nat.le_of_ble_eq_true rfl)) g
theorem en194 (n0 : am_nl v0 = true) (g : gG X d 194 0 [v0, .float 0, .float 0] [] hp Q) : gE X d 194 [v0] hp Q := gE.mk (m := 3) (by decide +kernel) (by unfold am_ent; rw [am_flat_nl n0]; rfl) (by rw [am_flat_nl n0]; exact (Nat.le_of_ble_eq_true rfl)) g
theorem en195 (n0 : am_nl v0 = true) (n1 : am_nl v1 = true) (n2 : am_nl v2 = true) (g : gG X d 195 0 [v0, v1, v2, .float 0, .float 0] [] hp Q) : gE X d 195 [v0, v1, v2] hp Q := gE.mk (m := 5) (by decide +kernel) (by unfold am_ent; rw [am_flat_nl n0, am_flat_nl n1, am_flat_nl n2]; rfl) (by rw [am_flat_nl n0, am_flat_nl n1, am_flat_nl n2]; exact (Nat.le_of_ble_eq_true rfl)) g
theorem en196 (n0 : am_nl v0 = true) (n1 : am_nl v1 = true) (n2 : am_nl v2 = true) (g : gG X d 196 0 [v0, v1, v2, .float 0, .float 0] [] hp Q) : gE X d 196 [v0, v1, v2] hp Q := gE.mk (m := 5) (by decide +kernel) (by unfold am_ent; rw [am_flat_nl n0, am_flat_nl n1, am_flat_nl n2]; rfl) (by rw [am_flat_nl n0, am_flat_nl n1, am_flat_nl n2]; exact (Nat.le_of_ble_eq_true rfl)) g
theorem en197 (n0 : am_nl v0 = true) (g : gG X d 197 0 [v0, .float 0, .float 0, .float 0, .float 0] [] hp Q) : gE X d 197 [v0] hp Q := gE.mk (m := 5) (by decide +kernel) (by unfold am_ent; rw [am_flat_nl n0]; rfl) (by rw [am_flat_nl n0]; exact (Nat.le_of_ble_eq_true rfl)) g
theorem en198 (n0 : am_nl v0 = true) (n1 : am_nl v1 = true) (n2 : am_nl v2 = true) (n3 : am_nl v3 = true) (g : gG X d 198 0 [v0, v1, v2, v3] [] hp Q) : gE X d 198 [v0, v1, v2, v3] hp Q := gE.mk (m := 4) (by decide +kernel) (by unfold am_ent; rw [am_flat_nl n0, am_flat_nl n1, am_flat_nl n2, am_flat_nl n3]; rfl) (by rw [am_flat_nl n0, am_flat_nl n1, am_flat_nl n2, am_flat_nl n3]; exact (Nat.le_of_ble_eq_true rfl)) g
theorem en199 (n0 : am_nl v0 = true) (n1 : am_nl v1 = true) (n2 : am_nl v2 = true) (n3 : am_nl v3 = true) (g : gG X d 199 0 [v0, v1, v2, v3] [] hp Q) : gE X d 199 [v0, v1, v2, v3] hp Q := gE.mk (m := 4) (by decide +kernel) (by unfold am_ent; rw [am_flat_nl n0, am_flat_nl n1, am_flat_nl n2, am_flat_nl n3]; rfl) (by rw [am_flat_nl n0, am_flat_nl n1, am_flat_nl n2, am_flat_nl n3]; exact (Nat.le_of_ble_eq_true rfl)) g
theorem en200 (n0 : am_nl v0 = true) (n1 : am_nl v1 = true) (n2 : am_nl v2 = true) (g : gG X d 200 0 [v0, v1, v2, .float 0] [] hp Q) : gE X d 200 [v0, v1, v2] hp Q := gE.mk (m := 4) (by decide +kernel) (by unfold am_ent; rw [am_flat_nl n0, am_flat_nl n1, am_flat_nl n2]; rfl) (by rw [am_flat_nl n0, am_flat_nl n1, am_flat_nl n2]; exact (Nat.le_of_ble_eq_true rfl)) g
theorem en201 (n0 : am_nl v0 = true) (g : gG X d 201 0 [v0, .float 0, .float 0, .float 0, .float 0] [] hp Q) : gE X d 201 [v0] hp Q := gE.mk (m := 5) (by decide +kernel) (by unfold am_ent; rw [am_flat_nl n0]; rfl) (by rw [am_flat_nl n0]; exact (Nat.le_of_ble_eq_true rfl)) g
theorem en202 (n0 : am_nl v0 = true) (g : gG X d 202 0 [v0] [] hp Q) : gE X d 202 [v0] hp Q := gE.mk (m := 1) (by decide +kernel) (by unfold am_ent; rw [am_flat_nl n0]; rfl) (by rw [am_flat_nl n0]; exact (Nat.le_of_ble_eq_true rfl)) g
theorem en203 (n0 : am_nl v0 = true) (g : gG X d 203 0 [v0, .float 0] [] hp Q) : gE X d 203 [v0] hp Q := gE.mk (m := 2) (by decide +kernel) (by unfold am_ent; rw [am_flat_nl n0]; rfl) (by rw [am_flat_nl n0]; exact (Nat.le_of_ble_eq_true rfl)) g
theorem en204 (n0 : am_nl v0 = true) (g : gG X d 204 0 [v0, .float 0, .float 0, .float 0, .float 0] [] hp Q) : gE X d 204 [v0] hp Q := gE.mk (m := 5) (by decide +kernel) (by unfold am_ent; rw [am_flat_nl n0]; rfl) (by rw [am_flat_nl n0]; exact (Nat.le_of_ble_eq_true rfl)) g
theorem en205 (n0 : am_nl v0 = true) (g : gG X d 205 0 [v0, .float 0] [] hp Q) : gE X d 205 [v0] hp Q := gE.mk (m := 2) (by decide +kernel) (by unfold am_ent; rw [am_flat_nl n0]; rfl) (by rw [am_flat_nl n0]; exact (Nat.le_of_ble_eq_true rfl)) g
theorem en206 (n0 : am_nl v0 = true) (n1 : am_nl v1 = true) (g : gG X d 206 0 [v0, v1] [] hp Q) : gE X d 206 [v0, v1] hp Q := gE.mk (m := 2) (by decide +kernel) (by unfold am_ent; rw [am_flat_nl n0, am_flat_nl n1]; rfl) (by rw [am_flat_nl n0, am_flat_nl n1]; exact (Nat.le_of_ble_eq_true rfl)) g
theorem en207 (n0 : am_nl v0 = true) (n1 : am_nl v1 = true) (g : gG X d 207 0 [v0, v1] [] hp Q) : gE X d 207 [v0, v1] hp Q := gE.mk (m := 2) (by decide +kernel) (by unfold am_ent; rw [am_flat_nl n0, am_flat_nl n1]; rfl) (by rw [am_flat_nl n0, am_flat_nl n1]; exact (Nat.le_of_ble_eq_true rfl)) g
theorem en208 (n0 : am_nl v0 = true) (n1 : am_nl v1 = true) (g : gG X d 208 0 [v0, v1, .float 0, .float 0] [] hp Q) : gE X d 208 [v0, v1] hp Q := gE.mk (m := 4) (by decide +kernel) (by unfold am_ent; rw [am_flat_nl n0, am_flat_nl n1]; rfl) (by rw [am_flat_nl n0, am_flat_nl n1]; exact (Nat.le_of_ble_eq_true rfl)) g
theorem en209 (n0 : am_nl v0 = true) (g : gG X d 209 0 [v0, .float 0, .float 0] [] hp Q) : gE X d 209 [v0] hp Q := gE.mk (m := 3) (by decide +kernel) (by unfold am_ent; rw [am_flat_nl n0]; rfl) (by rw [am_flat_nl n0]; exact (Nat.le_of_ble_eq_true rfl)) g
theorem en210 (n0 : am_nl v0 = true) (n1 : am_nl v1 = true) (g : gG X d 210 0 [v0, v1, .float 0, .float 0] [] hp Q) : gE X d 210 [v0, v1] hp Q := gE.mk (m := 4) (by decide +kernel) (by unfold am_ent; rw [am_flat_nl n0, am_flat_nl n1]; rfl) (by rw [am_flat_nl n0, am_flat_nl n1]; exact (Nat.le_of_ble_eq_true rfl)) g
theorem en211 (n0 : am_nl v0 = true) (n1 : am_nl v1 = true) (n2 : am_nl v2 = true) (g : gG X d 211 0 [v0, v1, v2] [] hp Q) : gE X d 211 [v0, v1, v2] hp Q := gE.mk (m := 3) (by decide +kernel) (by unfold am_ent; rw [am_flat_nl n0, am_flat_nl n1, am_flat_nl n2]; rfl) (by rw [am_flat_nl n0, am_flat_nl n1, am_flat_nl n2]; exact (Nat.le_of_ble_eq_true rfl)) g
theorem en212 (n0 : am_nl v0 = true) (n1 : am_nl v1 = true) (n2 : am_nl v2 = true) (n3 : am_nl v3 = true) (g : gG X d 212 0 [v0, v1, v2, v3] [] hp Q) : gE X d 212 [v0, v1, v2, v3] hp Q := gE.mk (m := 4) (by decide +kernel) (by unfold am_ent; rw [am_flat_nl n0, am_flat_nl n1, am_flat_nl n2, am_flat_nl n3]; rfl) (by rw [am_flat_nl n0, am_flat_nl n1, am_flat_nl n2, am_flat_nl n3]; exact (Nat.le_of_ble_eq_true rfl)) g
theorem en213 (n0 : am_nl v0 = true) (n1 : am_nl v1 = true) (n2 : am_nl v2 = true) (g : gG X d 213 0 [v0, v1, v2, .float 0, .float 0] [] hp Q) : gE X d 213 [v0, v1, v2] hp Q := gE.mk (m := 5) (by decide +kernel) (by unfold am_ent; rw [am_flat_nl n0, am_flat_nl n1, am_flat_nl n2]; rfl) (by rw [am_flat_nl n0, am_flat_nl n1, am_flat_nl n2]; exact (Nat.le_of_ble_eq_true rfl)) g
theorem en214 (n0 : am_nl v0 = true) (n1 : am_nl v1 = true) (g : gG X d 214 0 [v0, v1] [] hp Q) : gE X d 214 [v0, v1] hp Q := gE.mk (m := 2) (by decide +kernel) (by unfold am_ent; rw [am_flat_nl n0, am_flat_nl n1]; rfl) (by rw [am_flat_nl n0, am_flat_nl n1]; exact (Nat.le_of_ble_eq_true rfl)) g
theorem en215 (n0 : am_nl v0 = true) (n1 : am_nl v1 = true) (g : gG X d 215 0 [v0, v1, .float 0, .float 0] [] hp Q) : gE X d 215 [v0, v1] hp Q := gE.mk (m := 4) (by decide +kernel) (by unfold am_ent; rw [am_flat_nl n0, am_flat_nl n1]; rfl) (by rw [am_flat_nl n0, am_flat_nl n1]; exact (Nat.le_of_ble_eq_true rfl)) g
theorem en216 (n0 : am_nl v0 = true) (n1 : am_nl v1 = true) (g : gG X d 216 0 [v0, v1, .float 0, .float 0, .float 0] [] hp Q) : gE X d 216 [v0, v1] hp Q := gE.mk (m := 5) (by decide +kernel) (by unfold am_ent; rw [am_flat_nl n0, am_flat_nl n1]; rfl) (by rw [am_flat_nl n0, am_flat_nl n1]; exact (Nat.le_of_ble_eq_true rfl)) g
theorem en217 (n0 : am_nl v0 = true) (n1 : am_nl v1 = true) (g : gG X d 217 0 [v0, v1] [] hp Q) : gE X d 217 [v0, v1] hp Q := gE.mk (m := 2) (by decide +kernel) (by unfold am_ent; rw [am_flat_nl n0, am_flat_nl n1]; rfl) (by rw [am_flat_nl n0, am_flat_nl n1]; exact (Nat.le_of_ble_eq_true rfl)) g
theorem en218 (n0 : am_nl v0 = true) (n1 : am_nl v1 = true) (g : gG X d 218 0 [v0, v1] [] hp Q) : gE X d 218 [v0, v1] hp Q := gE.mk (m := 2) (by decide +kernel) (by unfold am_ent; rw [am_flat_nl n0, am_flat_nl n1]; rfl) (by rw [am_flat_nl n0, am_flat_nl n1]; exact (Nat.le_of_ble_eq_true rfl)) g
theorem en219 (n0 : am_nl v0 = true) (n1 : am_nl v1 = true) (g : gG X d 219 0 [v0, v1] [] hp Q) : gE X d 219 [v0, v1] hp Q := gE.mk (m := 2) (by decide +kernel) (by unfold am_ent; rw [am_flat_nl n0, am_flat_nl n1]; rfl) (by rw [am_flat_nl n0, am_flat_nl n1]; exact (Nat.le_of_ble_eq_true rfl)) g
theorem en220 (n0 : am_nl v0 = true) (n1 : am_nl v1 = true) (n2 : am_nl v2 = true) (g : gG X d 220 0 [v0, v1, v2] [] hp Q) : gE X d 220 [v0, v1, v2] hp Q := gE.mk (m := 3) (by decide +kernel) (by unfold am_ent; rw [am_flat_nl n0, am_flat_nl n1, am_flat_nl n2]; rfl) (by rw [am_flat_nl n0, am_flat_nl n1, am_flat_nl n2]; exact (Nat.le_of_ble_eq_true rfl)) g
theorem en221 (n0 : am_nl v0 = true) (n1 : am_nl v1 = true) (n2 : am_nl v2 = true) (g : gG X d 221 0 [v0, v1, v2] [] hp Q) : gE X d 221 [v0, v1, v2] hp Q := gE.mk (m := 3) (by decide +kernel) (by unfold am_ent; rw [am_flat_nl n0, am_flat_nl n1, am_flat_nl n2]; rfl) (by rw [am_flat_nl n0, am_flat_nl n1, am_flat_nl n2]; exact (Nat.le_of_ble_eq_true rfl)) g
theorem en222 (n0 : am_nl v0 = true) (n1 : am_nl v1 = true) (g : gG X d 222 0 [v0, v1] [] hp Q) : gE X d 222 [v0, v1] hp Q := gE.mk (m := 2) (by decide +kernel) (by unfold am_ent; rw [am_flat_nl n0, am_flat_nl n1]; rfl) (by rw [am_flat_nl n0, am_flat_nl n1]; exact (Nat.le_of_ble_eq_true rfl)) g
theorem en223 (n0 : am_nl v0 = true) (g : gG X d 223 0 [v0, .float 0] [] hp Q) : gE X d 223 [v0] hp Q := gE.mk (m := 2) (by decide +kernel) (by unfold am_ent; rw [am_flat_nl n0]; rfl) (by rw [am_flat_nl n0]; exact (Nat.le_of_ble_eq_true rfl)) g
theorem en224 (n0 : am_nl v0 = true) (n1 : am_nl v1 = true) (g : gG X d 224 0 [v0, v1] [] hp Q) : gE X d 224 [v0, v1] hp Q := gE.mk (m := 2) (by decide +kernel) (by unfold am_ent; rw [am_flat_nl n0, am_flat_nl n1]; rfl) (by rw [am_flat_nl n0, am_flat_nl n1]; exact (Nat.le_of_ble_eq_true rfl)) g
theorem en225 (n0 : am_nl v0 = true) (n1 : am_nl v1 = true) (n2 : am_nl v2 = true) (g : gG X d 225 0 [v0, v1, v2] [] hp Q) : gE X d 225 [v0, v1, v2] hp Q := gE.mk (m := 3) (by decide +kernel) (by unfold am_ent; rw [am_flat_nl n0, am_flat_nl n1, am_flat_nl n2]; rfl) (by rw [am_flat_nl n0, am_flat_nl n1, am_flat_nl n2]; exact (Nat.le_of_ble_eq_true rfl)) g
theorem en226 (n0 : am_nl v0 = true) (n1 : am_nl v1 = true) (g : gG X d 226 0 [v0, v1] [] hp Q) : gE X d 226 [v0, v1] hp Q := gE.mk (m := 2) (by decide +kernel) (by unfold am_ent; rw [am_flat_nl n0, am_flat_nl n1]; rfl) (by rw [am_flat_nl n0, am_flat_nl n1]; exact (Nat.le_of_ble_eq_true rfl)) g
theorem en227 (n0 : am_nl v0 = true) (n1 : am_nl v1 = true) (n2 : am_nl v2 = true) (g : gG X d 227 0 [v0, v1, v2] [] hp Q) : gE X d 227 [v0, v1, v2] hp Q := gE.mk (m := 3) (by decide +kernel) (by unfold am_ent; rw [am_flat_nl n0, am_flat_nl n1, am_flat_nl n2]; rfl) (by rw [am_flat_nl n0, am_flat_nl n1, am_flat_nl n2]; exact (Nat.le_of_ble_eq_true rfl)) g
theorem en228 (n0 : am_nl v0 = true) (g : gG X d 228 0 [v0] [] hp Q) : gE X d 228 [v0] hp Q := gE.mk (m := 1) (by decide +kernel) (by unfold am_ent; rw [am_flat_nl n0]; rfl) (by rw [am_flat_nl n0]; exact (Nat.le_of_ble_eq_true rfl)) g
theorem en229 (n0 : am_nl v0 = true) (n1 : am_nl v1 = true) (g : gG X d 229 0 [v0, v1, .float 0] [] hp Q) : gE X d 229 [v0, v1] hp Q := gE.mk (m := 3) (by decide +kernel) (by unfold am_ent; rw [am_flat_nl n0, am_flat_nl n1]; rfl) (by rw [am_flat_nl n0, am_flat_nl n1]; exact (Nat.le_of_ble_eq_true rfl)) g
theorem en230 (n0 : am_nl v0 = true) (g : gG X d 230 0 [v0] [] hp Q) : gE X d 230 [v0] hp Q := gE.mk (m := 1) (by decide +kernel) (by unfold am_ent; rw [am_flat_nl n0]; rfl) (by rw [am_flat_nl n0]; exact (Nat.le_of_ble_eq_true rfl)) g
theorem en231 (n0 : am_nl v0 = true) (n1 : am_nl v1 = true) (n2 : am_nl v2 = true) (g : gG X d 231 0 [v0, v1, v2, .float 0, .float 0, .float 0, .float 0] [] hp Q) : gE X d 231 [v0, v1, v2] hp Q := gE.mk (m := 7) (by decide +kernel) (by unfold am_ent; rw [am_flat_nl n0, am_flat_nl n1, am_flat_nl n2]; rfl) (by rw [am_flat_nl n0, am_flat_nl n1, am_flat_nl n2]; exact (Nat.le_of_ble_eq_true rfl)) g
theorem en232 (n0 : am_nl v0 = true) (n1 : am_nl v1 = true) (n2 : am_nl v2 = true) (g : gG X d 232 0 [v0, v1, v2, .float 0] [] hp Q) : gE X d 232 [v0, v1, v2] hp Q := gE.mk (m := 4) (by decide +kernel) (by unfold am_ent; rw [am_flat_nl n0, am_flat_nl n1, am_flat_nl n2]; rfl) (by rw [am_flat_nl n0, am_flat_nl n1, am_flat_nl n2]; exact (Nat.le_of_ble_eq_true rfl)) g
theorem en233 (n0 : am_nl v0 = true) (n1 : am_nl v1 = true) (g : gG X d 233 0 [v0, v1, .float 0, .float 0, .float 0] [] hp Q) : gE X d 233 [v0, v1] hp Q := gE.mk (m := 5) (by decide +kernel) (by unfold am_ent; rw [am_flat_nl n0, am_flat_nl n1]; rfl) (by rw [am_flat_nl n0, am_flat_nl n1]; exact (Nat.le_of_ble_eq_true rfl)) g
theorem en234 (n0 : am_nl v0 = true) (n1 : am_nl v1 = true) (g : gG X d 234 0 [v0, v1, .float 0, .float 0, .float 0, .float 0] [] hp Q) : gE X d 234 [v0, v1] hp Q := gE.mk (m := 6) (by decide +kernel) (by unfold am_ent; rw [am_flat_nl n0, am_flat_nl n1]; rfl) (by rw [am_flat_nl n0, am_flat_nl n1]; exact (Nat.le_of_ble_eq_true rfl)) g
theorem en235 (n0 : am_nl v0 = true) (g : gG X d 235 0 [v0, .float 0, .float 0] [] hp Q) : gE X d 235 [v0] hp Q := gE.mk (m := 3) (by decide +kernel) (by unfold am_ent; rw [am_flat_nl n0]; rfl) (by rw [am_flat_nl n0]; exact (Nat.le_of_ble_eq_true rfl)) g
theorem en236 (n0 : am_nl v0 = true) (n1 : am_nl v1 = true) (n2 : am_nl v2 = true) (g : gG X d 236 0 [v0, v1, v2, .float 0, .float 0] [] hp Q) : gE X d 236 [v0, v1, v2] hp Q := gE.mk (m := 5) (by decide +kernel) (by unfold am_ent; rw [am_flat_nl n0, am_flat_nl n1, am_flat_nl n2]; rfl) (by rw [am_flat_nl n0, am_flat_nl n1, am_flat_nl n2]; exact (Nat.le_of_ble_eq_true rfl)) g
theorem en237 (n0 : am_nl v0 = true) (g : gG X d 237 0 [v0] [] hp Q) : gE X d 237 [v0] hp Q := gE.mk (m := 1) (by decide +kernel) (by unfold am_ent; rw [am_flat_nl n0]; rfl) (by rw [am_flat_nl n0]; exact (Nat.le_of_ble_eq_true rfl)) g
theorem en238 (n0 : am_nl v0 = true) (n1 : am_nl v1 = true) (n2 : am_nl v2 = true) (n3 : am_nl v3 = true) (n4 : am_nl v4 = true) (g : gG X d 238 0 [v0, v1, v2, v3, v4, .float 0, .float 0] [] hp Q) : gE X d 238 [v0, v1, v2, v3, v4] hp Q := gE.mk (m := 7) (by decide +kernel) (by unfold am_ent; rw [am_flat_nl n0, am_flat_nl n1, am_flat_nl n2, am_flat_nl n3, am_flat_nl n4]; rfl) (by rw [am_flat_nl n0, am_flat_nl n1, am_flat_nl n2, am_flat_nl n3, am_flat_nl n4]; exact (Nat.le_of_ble_eq_true rfl)) g
theorem en239 (n0 : am_nl v0 = true) (n1 : am_nl v1 = true) (g : gG X d 239 0 [v0, v1, .float 0, .float 0, .float 0] [] hp Q) : gE X d 239 [v0, v1] hp Q := gE.mk (m := 5) (by decide +kernel) (by unfold am_ent; rw [am_flat_nl n0, am_flat_nl n1]; rfl) (by rw [am_flat_nl n0, am_flat_nl n1]; exact (Nat.le_of_ble_eq_true rfl)) g
theorem en240 (n0 : am_nl v0 = true) (n1 : am_nl v1 = true) (g : gG X d 240 0 [v0, v1] [] hp Q) : gE X d 240 [v0, v1] hp Q := gE.mk (m := 2) (by decide +kernel) (by unfold am_ent; rw [am_flat_nl n0, am_flat_nl n1]; rfl) (by rw [am_flat_nl n0, am_flat_nl n1]; exact (Nat.le_of_ble_eq_true rfl)) g
theorem en241 (n0 : am_nl v0 = true) (n1 : am_nl v1 = true) (n2 : am_nl v2 = true) (n3 : am_nl v3 = true) (g : gG X d 241 0 [v0, v1, v2, v3, .float 0, .float 0, .float 0, .float 0, .float 0] [] hp Q) : gE X d 241 [v0, v1, v2, v3] hp Q := gE.mk (m := 9) (by decide +kernel) (by unfold am_ent; rw [am_flat_nl n0, am_flat_nl n1, am_flat_nl n2, am_flat_nl n3]; rfl) (by rw [am_flat_nl n0, am_flat_nl n1, am_flat_nl n2, am_flat_nl n3]; exact (Nat.le_of_ble_eq_true rfl)) g
theorem en242 (n0 : am_nl v0 = true) (n1 : am_nl v1 = true) (n2 : am_nl v2 = true) (n3 : am_nl v3 = true) (g : gG X d 242 0 [v0, v1, v2, v3, .float 0, .float 0] [] hp Q) : gE X d 242 [v0, v1, v2, v3] hp Q := gE.mk (m := 6) (by decide +kernel) (by unfold am_ent; rw [am_flat_nl n0, am_flat_nl n1, am_flat_nl n2, am_flat_nl n3]; rfl) (by rw [am_flat_nl n0, am_flat_nl n1, am_flat_nl n2, am_flat_nl n3]; exact (Nat.le_of_ble_eq_true rfl)) g
theorem en243 (n0 : am_nl v0 = true) (n1 : am_nl v1 = true) (n2 : am_nl v2 = true) (g : gG X d 243 0 [v0, v1, v2, .float 0, .float 0, .float 0, .float 0] [] hp Q) : gE X d 243 [v0, v1, v2] hp Q := gE.mk (m := 7) (by decide +kernel) (by unfold am_ent; rw [am_flat_nl n0, am_flat_nl n1, am_flat_nl n2]; rfl) (by rw [am_flat_nl n0, am_flat_nl n1, am_flat_nl n2]; exact (Nat.le_of_ble_eq_true rfl)) g
theorem en244 (n0 : am_nl v0 = true) (n1 : am_nl v1 = true) (n2 : am_nl v2 = true) (n3 : am_nl v3 = true) (n4 : am_nl v4 = true) (n5 : am_nl v5 = true) (g : gG X d 244 0 [v0, v1, v2, v3, v4, v5, .float 0, .float 0] [] hp Q) : gE X d 244 [v0, v1, v2, v3, v4, v5] hp Q := gE.mk (m := 8) (by decide +kernel) (by unfold am_ent; rw [am_flat_nl n0, am_flat_nl n1, am_flat_nl n2, am_flat_nl n3, am_flat_nl n4, am_flat_nl n5]; rfl) (by rw [am_flat_nl n0, am_flat_nl n1, am_flat_nl n2, am_flat_nl n3, am_flat_nl n4, am_flat_nl n5]; exact (Nat.le_of_ble_eq_true rfl)) g
theorem en245 (n0 : am_nl v0 = true) (n1 : am_nl v1 = true) (n2 : am_nl v2 = true) (n3 : am_nl v3 = true) (g : gG X d 245 0 [v0, v1, v2, v3, .float 0, .float 0] [] hp Q) : gE X d 245 [v0, v1, v2, v3] hp Q := gE.mk (m := 6) (by decide +kernel) (by unfold am_ent; rw [am_flat_nl n0, am_flat_nl n1, am_flat_nl n2, am_flat_nl n3]; rfl) (by rw [am_flat_nl n0, am_flat_nl n1, am_flat_nl n2, am_flat_nl n3]; exact (Nat.le_of_ble_eq_true rfl)) g
theorem en246 (n0 : am_nl v0 = true) (n1 : am_nl v1 = true) (n2 : am_nl v2 = true) (g : gG X d 246 0 [v0, v1, v2, .float 0, .float 0, .float 0] [] hp Q) : gE X d 246 [v0, v1, v2] hp Q := gE.mk (m := 6) (by decide +kernel) (by unfold am_ent; rw [am_flat_nl n0, am_flat_nl n1, am_flat_nl n2]; rfl) (by rw [am_flat_nl n0, am_flat_nl n1, am_flat_nl n2]; exact (Nat.le_of_ble_eq_true rfl)) g
theorem en247 (n0 : am_nl v0 = true) (n1 : am_nl v1 = true) (n2 : am_nl v2 = true) (n3 : am_nl v3 = true) (g : gG X d 247 0 [v0, v1, v2, v3, .float 0, .float 0] [] hp Q) : gE X d 247 [v0, v1, v2, v3] hp Q := gE.mk (m := 6) (by decide +kernel) (by unfold am_ent; rw [am_flat_nl n0, am_flat_nl n1, am_flat_nl n2, am_flat_nl n3]; rfl) (by rw [am_flat_nl n0, am_flat_nl n1, am_flat_nl n2, am_flat_nl n3]; exact (Nat.le_of_ble_eq_true rfl)) g
theorem en248 (n0 : am_nl v0 = true) (n1 : am_nl v1 = true) (g : gG X d 248 0 [v0, v1, .float 0, .float 0, .float 0] [] hp Q) : gE X d 248 [v0, v1] hp Q := gE.mk (m := 5) (by decide +kernel) (by unfold am_ent; rw [am_flat_nl n0, am_flat_nl n1]; rfl) (by rw [am_flat_nl n0, am_flat_nl n1]; exact (Nat.le_of_ble_eq_true rfl)) g
theorem en249 (n0 : am_nl v0 = true) (n1 : am_nl v1 = true) (n2 : am_nl v2 = true) (g : gG X d 249 0 [v0, v1, v2, .float 0, .float 0, .float 0, .float 0, .float 0] [] hp Q) : gE X d 249 [v0, v1, v2] hp Q := gE.mk (m := 8) (by decide +kernel) (by unfold am_ent; rw [am_flat_nl n0, am_flat_nl n1, am_flat_nl n2]; rfl) (by rw [am_flat_nl n0, am_flat_nl n1, am_flat_nl n2]; exact (Nat.le_of_ble_eq_true rfl)) g
theorem en250 (n0 : am_nl v0 = true) (n1 : am_nl v1 = true) (n2 : am_nl v2 = true) (n3 : am_nl v3 = true) (n4 : am_nl v4 = true) (n5 : am_nl v5 = true) (g : gG X d 250 0 [v0, v1, v2, v3, v4, v5, .float 0, .float 0] [] hp Q) : gE X d 250 [v0, v1, v2, v3, v4, v5] hp Q := gE.mk (m := 8) (by decide +kernel) (by unfold am_ent; rw [am_flat_nl n0, am_flat_nl n1, am_flat_nl n2, am_flat_nl n3, am_flat_nl n4, am_flat_nl n5]; rfl) (by rw [am_flat_nl n0, am_flat_nl n1, am_flat_nl n2, am_flat_nl n3, am_flat_nl n4, am_flat_nl n5]; exact (Nat.le_of_ble_eq_true rfl)) g
theorem en251 (n0 : am_nl v0 = true) (n1 : am_nl v1 = true) (n2 : am_nl v2 = true) (n3 : am_nl v3 = true) (g : gG X d 251 0 [v0, v1, v2, v3] [] hp Q) : gE X d 251 [v0, v1, v2, v3] hp Q := gE.mk (m := 4) (by decide +kernel) (by unfold am_ent; rw [am_flat_nl n0, am_flat_nl n1, am_flat_nl n2, am_flat_nl n3]; rfl) (by rw [am_flat_nl n0, am_flat_nl n1, am_flat_nl n2, am_flat_nl n3]; exact (Nat.le_of_ble_eq_true rfl)) g
theorem en252 (n0 : am_nl v0 = true) (n1 : am_nl v1 = true) (n2 : am_nl v2 = true) (g : gG X d 252 0 [v0, v1, v2, .float 0] [] hp Q) : gE X d 252 [v0, v1, v2] hp Q := gE.mk (m := 4) (by decide +kernel) (by unfold am_ent; rw [am_flat_nl n0, am_flat_nl n1, am_flat_nl n2]; rfl) (by rw [am_flat_nl n0, am_flat_nl n1, am_flat_nl n2]; exact (Nat.le_of_ble_eq_true rfl)) g
theorem en253 (n0 : am_nl v0 = true) (n1 : am_nl v1 = true) (n2 : am_nl v2 = true) (n3 : am_nl v3 = true) (n4 : am_nl v4 = true) (g : gG X d 253 0 [v0, v1, v2, v3, v4, .float 0, .float 0, .float 0] [] hp Q) : gE X d 253 [v0, v1, v2, v3, v4] hp Q := gE.mk (m := 8) (by decide +kernel) (by unfold am_ent; rw [am_flat_nl n0, am_flat_nl n1, am_flat_nl n2, am_flat_nl n3, am_flat_nl n4]; rfl) (by rw [am_flat_nl n0, am_flat_nl n1, am_flat_nl n2, am_flat_nl n3, am_flat_nl n4]; exact (Nat.le_of_ble_eq_true rfl)) g
theorem en254 (n0 : am_nl v0 = true) (n1 : am_nl v1 = true) (g : gG X d 254 0 [v0, v1] [] hp Q) : gE X d 254 [v0, v1] hp Q := gE.mk (m := 2) (by decide +kernel) (by unfold am_ent; rw [am_flat_nl n0, am_flat_nl n1]; rfl) (by rw [am_flat_nl n0, am_flat_nl n1]; exact (Nat.le_of_ble_eq_true rfl)) g
theorem en255 (n0 : am_nl v0 = true) (n1 : am_nl v1 = true) (n2 : am_nl v2 = true) (n3 : am_nl v3 = true) (n4 : am_nl v4 = true) (g : gG X d 255 0 [v0, v1, v2, v3, v4] [] hp Q) : gE X d 255 [v0, v1, v2, v3, v4] hp Q := gE.mk (m := 5) (by decide +kernel) (by unfold am_ent; rw [am_flat_nl n0, am_flat_nl n1, am_flat_nl n2, am_flat_nl n3, am_flat_nl n4]; rfl) (by rw [am_flat_nl n0, am_flat_nl n1, am_flat_nl n2, am_flat_nl n3, am_flat_nl n4]; exact (Nat.le_of_ble_eq_true rfl)) g
theorem en256 (n0 : am_nl v0 = true) (n1 : am_nl v1 = true) (n2 : am_nl v2 = true) (g : gG X d 256 0 [v0, v1, v2, .float 0] [] hp Q) : gE X d 256 [v0, v1, v2] hp Q := gE.mk (m := 4) (by decide +kernel) (by unfold am_ent; rw [am_flat_nl n0, am_flat_nl n1, am_flat_nl n2]; rfl) (by rw [am_flat_nl n0, am_flat_nl n1, am_flat_nl n2]; exact (Nat.le_of_ble_eq_true rfl)) g
theorem en257 (n0 : am_nl v0 = true) (g : gG X d 257 0 [v0, .float 0, .float 0, .float 0, .float 0] [] hp Q) : gE X d 257 [v0] hp Q := gE.mk (m := 5) (by decide +kernel) (by unfold am_ent; rw [am_flat_nl n0]; rfl) (by rw [am_flat_nl n0]; exact (Nat.le_of_ble_eq_true rfl)) g
theorem en258 (n0 : am_nl v0 = true) (n1 : am_nl v1 = true) (n2 : am_nl v2 = true) (n3 : am_nl v3 = true) (g : gG X d 258 0 [v0, v1, v2, v3, .float 0] [] hp Q) : gE X d 258 [v0, v1, v2, v3] hp Q := gE.mk (m := 5) (by decide +kernel) (by unfold am_ent; rw [am_flat_nl n0, am_flat_nl n1, am_flat_nl n2, am_flat_nl n3]; rfl) (by rw [am_flat_nl n0, am_flat_nl n1, am_flat_nl n2, am_flat_nl n3]; exact (Nat.le_of_ble_eq_true rfl)) g
theorem en259 (n0 : am_nl v0 = true) (g : gG X d 259 0 [v0, .float 0, .float 0, .float 0, .float 0, .float 0] [] hp Q) : gE X d 259 [v0] hp Q := gE.mk (m := 6) (by decide +kernel) (by unfold am_ent; rw [am_flat_nl n0]; rfl) (by rw [am_flat_nl n0]; exact (Nat.le_of_ble_eq_true rfl)) g
theorem en260 (n0 : am_nl v0 = true) (n1 : am_nl v1 = true) (g : gG X d 260 0 [v0, v1] [] hp Q) : gE X d 260 [v0, v1] hp Q := gE.mk (m := 2) (by decide +kernel) (by unfold am_ent; rw [am_flat_nl n0, am_flat_nl n1]; rfl) (by rw [am_flat_nl n0, am_flat_nl n1]; exact (Nat.le_of_ble_eq_true rfl)) g
theorem en261 (n0 : am_nl v0 = true) (n1 : am_nl v1 = true) (g : gG X d 261 0 [v0, v1, .long x2, .float 0, .float 0, .float 0, .float 0, .float 0, .float 0, .float 0] [] hp Q) : gE X d 261 [v0, v1, .long x2] hp Q := gE.mk (m := 10) (by decide +kernel) (by unfold am_ent; rw [am_flat_nl n0, am_flat_nl n1, am_flat_l]; rfl) (by rw [am_flat_nl n0, am_flat_nl n1, am_flat_l]; exact (Nat.le_of_ble_eq_true rfl)) g
theorem en262 (n0 : am_nl v0 = true) (n1 : am_nl v1 = true) (g : gG X d 262 0 [v0, v1] [] hp Q) : gE X d 262 [v0, v1] hp Q := gE.mk (m := 2) (by decide +kernel) (by unfold am_ent; rw [am_flat_nl n0, am_flat_nl n1]; rfl) (by rw [am_flat_nl n0, am_flat_nl n1]; exact (Nat.le_of_ble_eq_true rfl)) g
theorem en263 (n0 : am_nl v0 = true) (g : gG X d 263 0 [v0, .float 0] [] hp Q) : gE X d 263 [v0] hp Q := gE.mk (m := 2) (by decide +kernel) (by unfold am_ent; rw [am_flat_nl n0]; rfl) (by rw [am_flat_nl n0]; exact (Nat.le_of_ble_eq_true rfl)) g
theorem en264 (n0 : am_nl v0 = true) (g : gG X d 264 0 [v0, .float 0] [] hp Q) : gE X d 264 [v0] hp Q := gE.mk (m := 2) (by decide +kernel) (by unfold am_ent; rw [am_flat_nl n0]; rfl) (by rw [am_flat_nl n0]; exact (Nat.le_of_ble_eq_true rfl)) g
theorem en265 (n0 : am_nl v0 = true) (n1 : am_nl v1 = true) (g : gG X d 265 0 [v0, v1] [] hp Q) : gE X d 265 [v0, v1] hp Q := gE.mk (m := 2) (by decide +kernel) (by unfold am_ent; rw [am_flat_nl n0, am_flat_nl n1]; rfl) (by rw [am_flat_nl n0, am_flat_nl n1]; exact (Nat.le_of_ble_eq_true rfl)) g
theorem en266 (n0 : am_nl v0 = true) (g : gG X d 266 0 [v0] [] hp Q) : gE X d 266 [v0] hp Q := gE.mk (m := 1) (by decide +kernel) (by unfold am_ent; rw [am_flat_nl n0]; rfl) (by rw [am_flat_nl n0]; exact (Nat.le_of_ble_eq_true rfl)) g
theorem en267 (n0 : am_nl v0 = true) (g : gG X d 267 0 [v0] [] hp Q) : gE X d 267 [v0] hp Q := gE.mk (m := 1) (by decide +kernel) (by unfold am_ent; rw [am_flat_nl n0]; rfl) (by rw [am_flat_nl n0]; exact (Nat.le_of_ble_eq_true rfl)) g
theorem en268 (n0 : am_nl v0 = true) (n1 : am_nl v1 = true) (g : gG X d 268 0 [v0, v1] [] hp Q) : gE X d 268 [v0, v1] hp Q := gE.mk (m := 2) (by decide +kernel) (by unfold am_ent; rw [am_flat_nl n0, am_flat_nl n1]; rfl) (by rw [am_flat_nl n0, am_flat_nl n1]; exact (Nat.le_of_ble_eq_true rfl)) g
theorem en269 (n0 : am_nl v0 = true) (g : gG X d 269 0 [v0] [] hp Q) : gE X d 269 [v0] hp Q := gE.mk (m := 1) (by decide +kernel) (by unfold am_ent; rw [am_flat_nl n0]; rfl) (by rw [am_flat_nl n0]; exact (Nat.le_of_ble_eq_true rfl)) g
theorem en270 (n0 : am_nl v0 = true) (g : gG X d 270 0 [v0] [] hp Q) : gE X d 270 [v0] hp Q := gE.mk (m := 1) (by decide +kernel) (by unfold am_ent; rw [am_flat_nl n0]; rfl) (by rw [am_flat_nl n0]; exact (Nat.le_of_ble_eq_true rfl)) g
theorem en271 (n0 : am_nl v0 = true) (n1 : am_nl v1 = true) (g : gG X d 271 0 [v0, v1] [] hp Q) : gE X d 271 [v0, v1] hp Q := gE.mk (m := 2) (by decide +kernel) (by unfold am_ent; rw [am_flat_nl n0, am_flat_nl n1]; rfl) (by rw [am_flat_nl n0, am_flat_nl n1]; exact (Nat.le_of_ble_eq_true rfl)) g
theorem en272 (n0 : am_nl v0 = true) (n1 : am_nl v1 = true) (g : gG X d 272 0 [v0, v1] [] hp Q) : gE X d 272 [v0, v1] hp Q := gE.mk (m := 2) (by decide +kernel) (by unfold am_ent; rw [am_flat_nl n0, am_flat_nl n1]; rfl) (by rw [am_flat_nl n0, am_flat_nl n1]; exact (Nat.le_of_ble_eq_true rfl)) g
theorem en273 (n0 : am_nl v0 = true) (g : gG X d 273 0 [v0] [] hp Q) : gE X d 273 [v0] hp Q := gE.mk (m := 1) (by decide +kernel) (by unfold am_ent; rw [am_flat_nl n0]; rfl) (by rw [am_flat_nl n0]; exact (Nat.le_of_ble_eq_true rfl)) g
theorem en274 (n0 : am_nl v0 = true) (g : gG X d 274 0 [v0] [] hp Q) : gE X d 274 [v0] hp Q := gE.mk (m := 1) (by decide +kernel) (by unfold am_ent; rw [am_flat_nl n0]; rfl) (by rw [am_flat_nl n0]; exact (Nat.le_of_ble_eq_true rfl)) g
theorem en275 (n0 : am_nl v0 = true) (g : gG X d 275 0 [v0] [] hp Q) : gE X d 275 [v0] hp Q := gE.mk (m := 1) (by decide +kernel) (by unfold am_ent; rw [am_flat_nl n0]; rfl) (by rw [am_flat_nl n0]; exact (Nat.le_of_ble_eq_true rfl)) g
theorem en276 (n0 : am_nl v0 = true) (n1 : am_nl v1 = true) (g : gG X d 276 0 [v0, v1, .float 0, .float 0] [] hp Q) : gE X d 276 [v0, v1] hp Q := gE.mk (m := 4) (by decide +kernel) (by unfold am_ent; rw [am_flat_nl n0, am_flat_nl n1]; rfl) (by rw [am_flat_nl n0, am_flat_nl n1]; exact (Nat.le_of_ble_eq_true rfl)) g
theorem en277 (n0 : am_nl v0 = true) (g : gG X d 277 0 [v0] [] hp Q) : gE X d 277 [v0] hp Q := gE.mk (m := 1) (by decide +kernel) (by unfold am_ent; rw [am_flat_nl n0]; rfl) (by rw [am_flat_nl n0]; exact (Nat.le_of_ble_eq_true rfl)) g
theorem en278 (n0 : am_nl v0 = true) (g : gG X d 278 0 [v0] [] hp Q) : gE X d 278 [v0] hp Q := gE.mk (m := 1) (by decide +kernel) (by unfold am_ent; rw [am_flat_nl n0]; rfl) (by rw [am_flat_nl n0]; exact (Nat.le_of_ble_eq_true rfl)) g
theorem en279 (n0 : am_nl v0 = true) (n1 : am_nl v1 = true) (g : gG X d 279 0 [v0, v1] [] hp Q) : gE X d 279 [v0, v1] hp Q := gE.mk (m := 2) (by decide +kernel) (by unfold am_ent; rw [am_flat_nl n0, am_flat_nl n1]; rfl) (by rw [am_flat_nl n0, am_flat_nl n1]; exact (Nat.le_of_ble_eq_true rfl)) g
theorem en280 (n0 : am_nl v0 = true) (n1 : am_nl v1 = true) (g : gG X d 280 0 [v0, v1] [] hp Q) : gE X d 280 [v0, v1] hp Q := gE.mk (m := 2) (by decide +kernel) (by unfold am_ent; rw [am_flat_nl n0, am_flat_nl n1]; rfl) (by rw [am_flat_nl n0, am_flat_nl n1]; exact (Nat.le_of_ble_eq_true rfl)) g
theorem en281 (n0 : am_nl v0 = true) (n1 : am_nl v1 = true) (n2 : am_nl v2 = true) (n3 : am_nl v3 = true) (g : gG X d 281 0 [v0, v1, v2, v3] [] hp Q) : gE X d 281 [v0, v1, v2, v3] hp Q := gE.mk (m := 4) (by decide +kernel) (by unfold am_ent; rw [am_flat_nl n0, am_flat_nl n1, am_flat_nl n2, am_flat_nl n3]; rfl) (by rw [am_flat_nl n0, am_flat_nl n1, am_flat_nl n2, am_flat_nl n3]; exact (Nat.le_of_ble_eq_true rfl)) g
theorem en282 (n0 : am_nl v0 = true) (n1 : am_nl v1 = true) (g : gG X d 282 0 [v0, v1] [] hp Q) : gE X d 282 [v0, v1] hp Q := gE.mk (m := 2) (by decide +kernel) (by unfold am_ent; rw [am_flat_nl n0, am_flat_nl n1]; rfl) (by rw [am_flat_nl n0, am_flat_nl n1]; exact (Nat.le_of_ble_eq_true rfl)) g
theorem en283 (n0 : am_nl v0 = true) (n1 : am_nl v1 = true) (g : gG X d 283 0 [v0, v1] [] hp Q) : gE X d 283 [v0, v1] hp Q := gE.mk (m := 2) (by decide +kernel) (by unfold am_ent; rw [am_flat_nl n0, am_flat_nl n1]; rfl) (by rw [am_flat_nl n0, am_flat_nl n1]; exact (Nat.le_of_ble_eq_true rfl)) g
theorem en284 (n0 : am_nl v0 = true) (n1 : am_nl v1 = true) (n2 : am_nl v2 = true) (g : gG X d 284 0 [v0, v1, v2] [] hp Q) : gE X d 284 [v0, v1, v2] hp Q := gE.mk (m := 3) (by decide +kernel) (by unfold am_ent; rw [am_flat_nl n0, am_flat_nl n1, am_flat_nl n2]; rfl) (by rw [am_flat_nl n0, am_flat_nl n1, am_flat_nl n2]; exact (Nat.le_of_ble_eq_true rfl)) g
theorem en285 (n0 : am_nl v0 = true) (g : gG X d 285 0 [v0, .float 0, .float 0, .float 0, .float 0, .float 0, .float 0] [] hp Q) : gE X d 285 [v0] hp Q := gE.mk (m := 7) (by decide +kernel) (by unfold am_ent; rw [am_flat_nl n0]; rfl) (by rw [am_flat_nl n0]; exact (Nat.le_of_ble_eq_true rfl)) g
end EN
def fx : List am_E := [.inr (11, [.ref 1, .ref 3, .ref 4, .ref 12, .ref 15, .ref 16, .ref 17, .ref 18, .ref 19, .ref 32, .ref 41, .ref 50, .ref 61, .ref 76, .ref 78, .retAddr 7, .int 0]),
  .inr (4, [.ref 2, .int 0]),
  .inl (0, 120, .inl (fun _ => 0)),
  .inr (8, [.retAddr 7, .int 0, .int 0, .int 0, .int 0, .int 0, .int 0, .int 0]),
  .inr (2, [.retAddr 7, .int 0, .int 0, .int 0, .ref 5]),
  .inr (1, [.ref 6, .ref 8, .ref 10, .int 0]),
  .inr (4, [.ref 7, .int 0]),
  .inl (0, 8, .inl (fun _ => 0)),
  .inr (4, [.ref 9, .int 0]),
  .inl (0, 40, .inl (fun _ => 0)),
  .inr (4, [.ref 11, .int 0]),
  .inl (0, 243, .inl (fun _ => 0)),
  .inr (10, [.retAddr 7, .int 0, .int 0, .int 0, .ref 13]),
  .inr (4, [.ref 14, .int 0]),
  .inl (0, 8, .inl (fun _ => 0)),
  .inr (3, [.retAddr 7, .int 0, .int 0, .int 0, .int 0, .int 0, .int 0, .int 0, .int 0, .long 0]),
  .inr (0, [.int 0, .retAddr 7, .int 0]),
  .inr (0, [.int 0, .retAddr 7, .int 0]),
  .inr (0, [.int 0, .retAddr 7, .int 0]),
  .inr (7, [.int 0, .int 0, .ref 20, .ref 22, .ref 24, .ref 26, .ref 28, .ref 30]),
  .inr (4, [.ref 21, .int 0]),
  .inl (0, 1215, .inl (fun _ => 0)),
  .inr (4, [.ref 23, .int 0]),
  .inl (0, 5, .inl (fun _ => 0)),
  .inr (4, [.ref 25, .int 0]),
  .inl (0, 243, .inl (fun _ => 0)),
  .inr (4, [.ref 27, .int 0]),
  .inl (0, 243, .inl (fun _ => 0)),
  .inr (4, [.ref 29, .int 0]),
  .inl (0, 243, .inl (fun _ => 0)),
  .inr (4, [.ref 31, .int 0]),
  .inl (0, 3402, .inl (fun _ => 0)),
  .inr (9, [.ref 19, .int 0, .int 0, .int 0, .int 0, .int 0, .int 0, .ref 33, .ref 35, .ref 37, .ref 39]),
  .inr (4, [.ref 34, .int 0]),
  .inl (0, 60, .inl (fun _ => 0)),
  .inr (4, [.ref 36, .int 0]),
  .inl (0, 60, .inl (fun _ => 0)),
  .inr (4, [.ref 38, .int 0]),
  .inl (0, 60, .inl (fun _ => 0)),
  .inr (4, [.ref 40, .int 0]),
  .inl (0, 60, .inl (fun _ => 0)),
  .inr (9, [.ref 19, .int 0, .int 0, .int 0, .int 0, .int 0, .int 0, .ref 42, .ref 44, .ref 46, .ref 48]),
  .inr (4, [.ref 43, .int 0]),
  .inl (0, 60, .inl (fun _ => 0)),
  .inr (4, [.ref 45, .int 0]),
  .inl (0, 60, .inl (fun _ => 0)),
  .inr (4, [.ref 47, .int 0]),
  .inl (0, 60, .inl (fun _ => 0)),
  .inr (4, [.ref 49, .int 0]),
  .inl (0, 60, .inl (fun _ => 0)),
  .inr (6, [.ref 19, .ref 32, .ref 51, .ref 53, .ref 55, .ref 57, .ref 59]),
  .inr (4, [.ref 52, .int 0]),
  .inl (0, 10, .inl (fun _ => 0)),
  .inr (4, [.ref 54, .int 0]),
  .inl (0, 243, .inl (fun _ => 0)),
  .inr (4, [.ref 56, .int 0]),
  .inl (0, 243, .inl (fun _ => 0)),
  .inr (4, [.ref 58, .int 0]),
  .inl (0, 243, .inl (fun _ => 0)),
  .inr (4, [.ref 60, .int 0]),
  .inl (0, 7382, .inl (fun _ => 0)),
  .inr (5, [.ref 19, .ref 32, .ref 50, .ref 62, .ref 64, .ref 66, .ref 68, .ref 70, .ref 72, .ref 74, .ref 75]),
  .inr (4, [.ref 63, .int 0]),
  .inl (0, 12, .inl (fun _ => 0)),
  .inr (4, [.ref 65, .int 0]),
  .inl (0, 12, .inl (fun _ => 0)),
  .inr (4, [.ref 67, .int 0]),
  .inl (0, 12, .inl (fun _ => 0)),
  .inr (4, [.ref 69, .int 0]),
  .inl (0, 243, .inl (fun _ => 0)),
  .inr (4, [.ref 71, .int 0]),
  .inl (0, 243, .inl (fun _ => 0)),
  .inr (4, [.ref 73, .int 0]),
  .inl (0, 243, .inl (fun _ => 0)),
  .inl (3, 243, .inr (.inl (fun _ => 0))),
  .inl (3, 243, .inr (.inl (fun _ => 0))),
  .inr (4, [.ref 77, .int 0]),
  .inl (0, 12, .inl (fun _ => 0)),
  .inr (4, [.ref 79, .int 0]),
  .inl (0, 12, .inl (fun _ => 0)),
  .inr (12, [.int 0, .ref 81, .ref 82, .ref 83, .ref 84, .retAddr 7, .int 0, .int 0, .int 0, .int 0, .int 0, .int 0, .int 0, .int 0, .int 0, .retAddr 2, .retAddr 3, .int 0, .ref 85, .ref 86, .int 0, .int 0, .int 0, .int 0, .ref 87, .ref 88, .ref 89, .ref 90, .int 0, .ref 91, .ref 92, .int 0, .int 0, .int 0, .int 0, .int 0, .ref 93, .ref 94, .ref 95, .ref 96, .int 0, .ref 97, .int 0, .int 0, .ref 98, .ref 99, .ref 100, .ref 101, .ref 102, .ref 103, .ref 104, .ref 105, .ref 106, .int 0, .ref 107, .ref 108, .ref 109, .ref 110, .int 0, .ref 111, .ref 112, .int 0, .int 0, .int 0, .int 0]),
  .inl (1, 120, .inl (fun _ => 0)),
  .inl (1, 480, .inl (fun _ => 0)),
  .inl (0, 4, .inl (fun _ => 0)),
  .inl (0, 128, .inl (fun _ => 0)),
  .inl (0, 3, .inl (fun _ => 0)),
  .inl (0, 3, .inl (fun _ => 0)),
  .inl (0, 32, .inl (fun _ => 0)),
  .inl (0, 160, .inl (fun _ => 0)),
  .inl (0, 4, .inl (fun _ => 0)),
  .inl (0, 4, .inl (fun _ => 0)),
  .inl (0, 40, .inl (fun _ => 0)),
  .inl (0, 5, .inl (fun _ => 0)),
  .inl (0, 60, .inl (fun _ => 0)),
  .inl (0, 60, .inl (fun _ => 0)),
  .inl (0, 60, .inl (fun _ => 0)),
  .inl (0, 60, .inl (fun _ => 0)),
  .inl (0, 64, .inl (fun _ => 0)),
  .inl (0, 243, .inl (fun _ => 0)),
  .inl (0, 243, .inl (fun _ => 0)),
  .inl (0, 59049, .inl (fun _ => 0)),
  .inl (0, 2187, .inl (fun _ => 0)),
  .inl (2, 2187, .inl (fun _ => 0)),
  .inl (2, 2187, .inl (fun _ => 0)),
  .inl (0, 12, .inl (fun _ => 0)),
  .inl (0, 12, .inl (fun _ => 0)),
  .inl (0, 12, .inl (fun _ => 0)),
  .inl (3, 243, .inr (.inl (fun _ => 0))),
  .inl (3, 243, .inr (.inl (fun _ => 0))),
  .inl (0, 12, .inl (fun _ => 0)),
  .inl (0, 12, .inl (fun _ => 0)),
  .inl (0, 60, .inl (fun _ => 0)),
  .inl (0, 3, .inl (fun _ => 0)),
  .inl (3, 1, .inr (.inl (fun _ => 0)))]
/-- the shape of the cells that the constructors make -/
def Fx (s : mM) : Prop := ∀ p, p < 114 → s.1 p = fx.getD p (.inr (999, []))
/-- a row of numbers at p -/
def Nu (s : mM) (p n : Nat) : Prop := s.1 p = .inr (4, [.ref (p + 1), .int 0]) ∧ s.1 (p + 1) = .inl (0, n, .inl (fun _ => 0)) ∧ n ≤ 65536
section FX
variable {s : mM}
theorem f0 (h : Fx s) : s.1 0 = .inr (11, [.ref 1, .ref 3, .ref 4, .ref 12, .ref 15, .ref 16, .ref 17, .ref 18, .ref 19, .ref 32, .ref 41, .ref 50, .ref 61, .ref 76, .ref 78, .retAddr 7, .int 0]) := h 0 (Nat.le_of_ble_eq_true rfl)
theorem f1 (h : Fx s) : s.1 1 = .inr (4, [.ref 2, .int 0]) := h 1 (Nat.le_of_ble_eq_true rfl)
theorem f2 (h : Fx s) : s.1 2 = .inl (0, 120, .inl (fun _ => 0)) := h 2 (Nat.le_of_ble_eq_true rfl)
theorem f3 (h : Fx s) : s.1 3 = .inr (8, [.retAddr 7, .int 0, .int 0, .int 0, .int 0, .int 0, .int 0, .int 0]) := h 3 (Nat.le_of_ble_eq_true rfl)
theorem f4 (h : Fx s) : s.1 4 = .inr (2, [.retAddr 7, .int 0, .int 0, .int 0, .ref 5]) := h 4 (Nat.le_of_ble_eq_true rfl)
theorem f5 (h : Fx s) : s.1 5 = .inr (1, [.ref 6, .ref 8, .ref 10, .int 0]) := h 5 (Nat.le_of_ble_eq_true rfl)
theorem f6 (h : Fx s) : s.1 6 = .inr (4, [.ref 7, .int 0]) := h 6 (Nat.le_of_ble_eq_true rfl)
theorem f7 (h : Fx s) : s.1 7 = .inl (0, 8, .inl (fun _ => 0)) := h 7 (Nat.le_of_ble_eq_true rfl)
theorem f8 (h : Fx s) : s.1 8 = .inr (4, [.ref 9, .int 0]) := h 8 (Nat.le_of_ble_eq_true rfl)
theorem f9 (h : Fx s) : s.1 9 = .inl (0, 40, .inl (fun _ => 0)) := h 9 (Nat.le_of_ble_eq_true rfl)
theorem f10 (h : Fx s) : s.1 10 = .inr (4, [.ref 11, .int 0]) := h 10 (Nat.le_of_ble_eq_true rfl)
theorem f11 (h : Fx s) : s.1 11 = .inl (0, 243, .inl (fun _ => 0)) := h 11 (Nat.le_of_ble_eq_true rfl)
theorem f12 (h : Fx s) : s.1 12 = .inr (10, [.retAddr 7, .int 0, .int 0, .int 0, .ref 13]) := h 12 (Nat.le_of_ble_eq_true rfl)
theorem f13 (h : Fx s) : s.1 13 = .inr (4, [.ref 14, .int 0]) := h 13 (Nat.le_of_ble_eq_true rfl)
theorem f14 (h : Fx s) : s.1 14 = .inl (0, 8, .inl (fun _ => 0)) := h 14 (Nat.le_of_ble_eq_true rfl)
theorem f15 (h : Fx s) : s.1 15 = .inr (3, [.retAddr 7, .int 0, .int 0, .int 0, .int 0, .int 0, .int 0, .int 0, .int 0, .long 0]) := h 15 (Nat.le_of_ble_eq_true rfl)
theorem f16 (h : Fx s) : s.1 16 = .inr (0, [.int 0, .retAddr 7, .int 0]) := h 16 (Nat.le_of_ble_eq_true rfl)
theorem f17 (h : Fx s) : s.1 17 = .inr (0, [.int 0, .retAddr 7, .int 0]) := h 17 (Nat.le_of_ble_eq_true rfl)
theorem f18 (h : Fx s) : s.1 18 = .inr (0, [.int 0, .retAddr 7, .int 0]) := h 18 (Nat.le_of_ble_eq_true rfl)
theorem f19 (h : Fx s) : s.1 19 = .inr (7, [.int 0, .int 0, .ref 20, .ref 22, .ref 24, .ref 26, .ref 28, .ref 30]) := h 19 (Nat.le_of_ble_eq_true rfl)
theorem f20 (h : Fx s) : s.1 20 = .inr (4, [.ref 21, .int 0]) := h 20 (Nat.le_of_ble_eq_true rfl)
theorem f21 (h : Fx s) : s.1 21 = .inl (0, 1215, .inl (fun _ => 0)) := h 21 (Nat.le_of_ble_eq_true rfl)
theorem f22 (h : Fx s) : s.1 22 = .inr (4, [.ref 23, .int 0]) := h 22 (Nat.le_of_ble_eq_true rfl)
theorem f23 (h : Fx s) : s.1 23 = .inl (0, 5, .inl (fun _ => 0)) := h 23 (Nat.le_of_ble_eq_true rfl)
theorem f24 (h : Fx s) : s.1 24 = .inr (4, [.ref 25, .int 0]) := h 24 (Nat.le_of_ble_eq_true rfl)
theorem f25 (h : Fx s) : s.1 25 = .inl (0, 243, .inl (fun _ => 0)) := h 25 (Nat.le_of_ble_eq_true rfl)
theorem f26 (h : Fx s) : s.1 26 = .inr (4, [.ref 27, .int 0]) := h 26 (Nat.le_of_ble_eq_true rfl)
theorem f27 (h : Fx s) : s.1 27 = .inl (0, 243, .inl (fun _ => 0)) := h 27 (Nat.le_of_ble_eq_true rfl)
theorem f28 (h : Fx s) : s.1 28 = .inr (4, [.ref 29, .int 0]) := h 28 (Nat.le_of_ble_eq_true rfl)
theorem f29 (h : Fx s) : s.1 29 = .inl (0, 243, .inl (fun _ => 0)) := h 29 (Nat.le_of_ble_eq_true rfl)
theorem f30 (h : Fx s) : s.1 30 = .inr (4, [.ref 31, .int 0]) := h 30 (Nat.le_of_ble_eq_true rfl)
theorem f31 (h : Fx s) : s.1 31 = .inl (0, 3402, .inl (fun _ => 0)) := h 31 (Nat.le_of_ble_eq_true rfl)
theorem f32 (h : Fx s) : s.1 32 = .inr (9, [.ref 19, .int 0, .int 0, .int 0, .int 0, .int 0, .int 0, .ref 33, .ref 35, .ref 37, .ref 39]) := h 32 (Nat.le_of_ble_eq_true rfl)
theorem f33 (h : Fx s) : s.1 33 = .inr (4, [.ref 34, .int 0]) := h 33 (Nat.le_of_ble_eq_true rfl)
theorem f34 (h : Fx s) : s.1 34 = .inl (0, 60, .inl (fun _ => 0)) := h 34 (Nat.le_of_ble_eq_true rfl)
theorem f35 (h : Fx s) : s.1 35 = .inr (4, [.ref 36, .int 0]) := h 35 (Nat.le_of_ble_eq_true rfl)
theorem f36 (h : Fx s) : s.1 36 = .inl (0, 60, .inl (fun _ => 0)) := h 36 (Nat.le_of_ble_eq_true rfl)
theorem f37 (h : Fx s) : s.1 37 = .inr (4, [.ref 38, .int 0]) := h 37 (Nat.le_of_ble_eq_true rfl)
theorem f38 (h : Fx s) : s.1 38 = .inl (0, 60, .inl (fun _ => 0)) := h 38 (Nat.le_of_ble_eq_true rfl)
theorem f39 (h : Fx s) : s.1 39 = .inr (4, [.ref 40, .int 0]) := h 39 (Nat.le_of_ble_eq_true rfl)
theorem f40 (h : Fx s) : s.1 40 = .inl (0, 60, .inl (fun _ => 0)) := h 40 (Nat.le_of_ble_eq_true rfl)
theorem f41 (h : Fx s) : s.1 41 = .inr (9, [.ref 19, .int 0, .int 0, .int 0, .int 0, .int 0, .int 0, .ref 42, .ref 44, .ref 46, .ref 48]) := h 41 (Nat.le_of_ble_eq_true rfl)
theorem f42 (h : Fx s) : s.1 42 = .inr (4, [.ref 43, .int 0]) := h 42 (Nat.le_of_ble_eq_true rfl)
theorem f43 (h : Fx s) : s.1 43 = .inl (0, 60, .inl (fun _ => 0)) := h 43 (Nat.le_of_ble_eq_true rfl)
theorem f44 (h : Fx s) : s.1 44 = .inr (4, [.ref 45, .int 0]) := h 44 (Nat.le_of_ble_eq_true rfl)
theorem f45 (h : Fx s) : s.1 45 = .inl (0, 60, .inl (fun _ => 0)) := h 45 (Nat.le_of_ble_eq_true rfl)
theorem f46 (h : Fx s) : s.1 46 = .inr (4, [.ref 47, .int 0]) := h 46 (Nat.le_of_ble_eq_true rfl)
theorem f47 (h : Fx s) : s.1 47 = .inl (0, 60, .inl (fun _ => 0)) := h 47 (Nat.le_of_ble_eq_true rfl)
theorem f48 (h : Fx s) : s.1 48 = .inr (4, [.ref 49, .int 0]) := h 48 (Nat.le_of_ble_eq_true rfl)
theorem f49 (h : Fx s) : s.1 49 = .inl (0, 60, .inl (fun _ => 0)) := h 49 (Nat.le_of_ble_eq_true rfl)
theorem f50 (h : Fx s) : s.1 50 = .inr (6, [.ref 19, .ref 32, .ref 51, .ref 53, .ref 55, .ref 57, .ref 59]) := h 50 (Nat.le_of_ble_eq_true rfl)
theorem f51 (h : Fx s) : s.1 51 = .inr (4, [.ref 52, .int 0]) := h 51 (Nat.le_of_ble_eq_true rfl)
theorem f52 (h : Fx s) : s.1 52 = .inl (0, 10, .inl (fun _ => 0)) := h 52 (Nat.le_of_ble_eq_true rfl)
theorem f53 (h : Fx s) : s.1 53 = .inr (4, [.ref 54, .int 0]) := h 53 (Nat.le_of_ble_eq_true rfl)
theorem f54 (h : Fx s) : s.1 54 = .inl (0, 243, .inl (fun _ => 0)) := h 54 (Nat.le_of_ble_eq_true rfl)
theorem f55 (h : Fx s) : s.1 55 = .inr (4, [.ref 56, .int 0]) := h 55 (Nat.le_of_ble_eq_true rfl)
theorem f56 (h : Fx s) : s.1 56 = .inl (0, 243, .inl (fun _ => 0)) := h 56 (Nat.le_of_ble_eq_true rfl)
theorem f57 (h : Fx s) : s.1 57 = .inr (4, [.ref 58, .int 0]) := h 57 (Nat.le_of_ble_eq_true rfl)
theorem f58 (h : Fx s) : s.1 58 = .inl (0, 243, .inl (fun _ => 0)) := h 58 (Nat.le_of_ble_eq_true rfl)
theorem f59 (h : Fx s) : s.1 59 = .inr (4, [.ref 60, .int 0]) := h 59 (Nat.le_of_ble_eq_true rfl)
theorem f60 (h : Fx s) : s.1 60 = .inl (0, 7382, .inl (fun _ => 0)) := h 60 (Nat.le_of_ble_eq_true rfl)
theorem f61 (h : Fx s) : s.1 61 = .inr (5, [.ref 19, .ref 32, .ref 50, .ref 62, .ref 64, .ref 66, .ref 68, .ref 70, .ref 72, .ref 74, .ref 75]) := h 61 (Nat.le_of_ble_eq_true rfl)
theorem f62 (h : Fx s) : s.1 62 = .inr (4, [.ref 63, .int 0]) := h 62 (Nat.le_of_ble_eq_true rfl)
theorem f63 (h : Fx s) : s.1 63 = .inl (0, 12, .inl (fun _ => 0)) := h 63 (Nat.le_of_ble_eq_true rfl)
theorem f64 (h : Fx s) : s.1 64 = .inr (4, [.ref 65, .int 0]) := h 64 (Nat.le_of_ble_eq_true rfl)
theorem f65 (h : Fx s) : s.1 65 = .inl (0, 12, .inl (fun _ => 0)) := h 65 (Nat.le_of_ble_eq_true rfl)
theorem f66 (h : Fx s) : s.1 66 = .inr (4, [.ref 67, .int 0]) := h 66 (Nat.le_of_ble_eq_true rfl)
theorem f67 (h : Fx s) : s.1 67 = .inl (0, 12, .inl (fun _ => 0)) := h 67 (Nat.le_of_ble_eq_true rfl)
theorem f68 (h : Fx s) : s.1 68 = .inr (4, [.ref 69, .int 0]) := h 68 (Nat.le_of_ble_eq_true rfl)
theorem f69 (h : Fx s) : s.1 69 = .inl (0, 243, .inl (fun _ => 0)) := h 69 (Nat.le_of_ble_eq_true rfl)
theorem f70 (h : Fx s) : s.1 70 = .inr (4, [.ref 71, .int 0]) := h 70 (Nat.le_of_ble_eq_true rfl)
theorem f71 (h : Fx s) : s.1 71 = .inl (0, 243, .inl (fun _ => 0)) := h 71 (Nat.le_of_ble_eq_true rfl)
theorem f72 (h : Fx s) : s.1 72 = .inr (4, [.ref 73, .int 0]) := h 72 (Nat.le_of_ble_eq_true rfl)
theorem f73 (h : Fx s) : s.1 73 = .inl (0, 243, .inl (fun _ => 0)) := h 73 (Nat.le_of_ble_eq_true rfl)
theorem f74 (h : Fx s) : s.1 74 = .inl (3, 243, .inr (.inl (fun _ => 0))) := h 74 (Nat.le_of_ble_eq_true rfl)
theorem f75 (h : Fx s) : s.1 75 = .inl (3, 243, .inr (.inl (fun _ => 0))) := h 75 (Nat.le_of_ble_eq_true rfl)
theorem f76 (h : Fx s) : s.1 76 = .inr (4, [.ref 77, .int 0]) := h 76 (Nat.le_of_ble_eq_true rfl)
theorem f77 (h : Fx s) : s.1 77 = .inl (0, 12, .inl (fun _ => 0)) := h 77 (Nat.le_of_ble_eq_true rfl)
theorem f78 (h : Fx s) : s.1 78 = .inr (4, [.ref 79, .int 0]) := h 78 (Nat.le_of_ble_eq_true rfl)
theorem f79 (h : Fx s) : s.1 79 = .inl (0, 12, .inl (fun _ => 0)) := h 79 (Nat.le_of_ble_eq_true rfl)
theorem f80 (h : Fx s) : s.1 80 = .inr (12, [.int 0, .ref 81, .ref 82, .ref 83, .ref 84, .retAddr 7, .int 0, .int 0, .int 0, .int 0, .int 0, .int 0, .int 0, .int 0, .int 0, .retAddr 2, .retAddr 3, .int 0, .ref 85, .ref 86, .int 0, .int 0, .int 0, .int 0, .ref 87, .ref 88, .ref 89, .ref 90, .int 0, .ref 91, .ref 92, .int 0, .int 0, .int 0, .int 0, .int 0, .ref 93, .ref 94, .ref 95, .ref 96, .int 0, .ref 97, .int 0, .int 0, .ref 98, .ref 99, .ref 100, .ref 101, .ref 102, .ref 103, .ref 104, .ref 105, .ref 106, .int 0, .ref 107, .ref 108, .ref 109, .ref 110, .int 0, .ref 111, .ref 112, .int 0, .int 0, .int 0, .int 0]) := h 80 (Nat.le_of_ble_eq_true rfl)
theorem f81 (h : Fx s) : s.1 81 = .inl (1, 120, .inl (fun _ => 0)) := h 81 (Nat.le_of_ble_eq_true rfl)
theorem f82 (h : Fx s) : s.1 82 = .inl (1, 480, .inl (fun _ => 0)) := h 82 (Nat.le_of_ble_eq_true rfl)
theorem f83 (h : Fx s) : s.1 83 = .inl (0, 4, .inl (fun _ => 0)) := h 83 (Nat.le_of_ble_eq_true rfl)
theorem f84 (h : Fx s) : s.1 84 = .inl (0, 128, .inl (fun _ => 0)) := h 84 (Nat.le_of_ble_eq_true rfl)
theorem f85 (h : Fx s) : s.1 85 = .inl (0, 3, .inl (fun _ => 0)) := h 85 (Nat.le_of_ble_eq_true rfl)
theorem f86 (h : Fx s) : s.1 86 = .inl (0, 3, .inl (fun _ => 0)) := h 86 (Nat.le_of_ble_eq_true rfl)
theorem f87 (h : Fx s) : s.1 87 = .inl (0, 32, .inl (fun _ => 0)) := h 87 (Nat.le_of_ble_eq_true rfl)
theorem f88 (h : Fx s) : s.1 88 = .inl (0, 160, .inl (fun _ => 0)) := h 88 (Nat.le_of_ble_eq_true rfl)
theorem f89 (h : Fx s) : s.1 89 = .inl (0, 4, .inl (fun _ => 0)) := h 89 (Nat.le_of_ble_eq_true rfl)
theorem f90 (h : Fx s) : s.1 90 = .inl (0, 4, .inl (fun _ => 0)) := h 90 (Nat.le_of_ble_eq_true rfl)
theorem f91 (h : Fx s) : s.1 91 = .inl (0, 40, .inl (fun _ => 0)) := h 91 (Nat.le_of_ble_eq_true rfl)
theorem f92 (h : Fx s) : s.1 92 = .inl (0, 5, .inl (fun _ => 0)) := h 92 (Nat.le_of_ble_eq_true rfl)
theorem f93 (h : Fx s) : s.1 93 = .inl (0, 60, .inl (fun _ => 0)) := h 93 (Nat.le_of_ble_eq_true rfl)
theorem f94 (h : Fx s) : s.1 94 = .inl (0, 60, .inl (fun _ => 0)) := h 94 (Nat.le_of_ble_eq_true rfl)
theorem f95 (h : Fx s) : s.1 95 = .inl (0, 60, .inl (fun _ => 0)) := h 95 (Nat.le_of_ble_eq_true rfl)
theorem f96 (h : Fx s) : s.1 96 = .inl (0, 60, .inl (fun _ => 0)) := h 96 (Nat.le_of_ble_eq_true rfl)
theorem f97 (h : Fx s) : s.1 97 = .inl (0, 64, .inl (fun _ => 0)) := h 97 (Nat.le_of_ble_eq_true rfl)
theorem f98 (h : Fx s) : s.1 98 = .inl (0, 243, .inl (fun _ => 0)) := h 98 (Nat.le_of_ble_eq_true rfl)
theorem f99 (h : Fx s) : s.1 99 = .inl (0, 243, .inl (fun _ => 0)) := h 99 (Nat.le_of_ble_eq_true rfl)
theorem f100 (h : Fx s) : s.1 100 = .inl (0, 59049, .inl (fun _ => 0)) := h 100 (Nat.le_of_ble_eq_true rfl)
theorem f101 (h : Fx s) : s.1 101 = .inl (0, 2187, .inl (fun _ => 0)) := h 101 (Nat.le_of_ble_eq_true rfl)
theorem f102 (h : Fx s) : s.1 102 = .inl (2, 2187, .inl (fun _ => 0)) := h 102 (Nat.le_of_ble_eq_true rfl)
theorem f103 (h : Fx s) : s.1 103 = .inl (2, 2187, .inl (fun _ => 0)) := h 103 (Nat.le_of_ble_eq_true rfl)
theorem f104 (h : Fx s) : s.1 104 = .inl (0, 12, .inl (fun _ => 0)) := h 104 (Nat.le_of_ble_eq_true rfl)
theorem f105 (h : Fx s) : s.1 105 = .inl (0, 12, .inl (fun _ => 0)) := h 105 (Nat.le_of_ble_eq_true rfl)
theorem f106 (h : Fx s) : s.1 106 = .inl (0, 12, .inl (fun _ => 0)) := h 106 (Nat.le_of_ble_eq_true rfl)
theorem f107 (h : Fx s) : s.1 107 = .inl (3, 243, .inr (.inl (fun _ => 0))) := h 107 (Nat.le_of_ble_eq_true rfl)
theorem f108 (h : Fx s) : s.1 108 = .inl (3, 243, .inr (.inl (fun _ => 0))) := h 108 (Nat.le_of_ble_eq_true rfl)
theorem f109 (h : Fx s) : s.1 109 = .inl (0, 12, .inl (fun _ => 0)) := h 109 (Nat.le_of_ble_eq_true rfl)
theorem f110 (h : Fx s) : s.1 110 = .inl (0, 12, .inl (fun _ => 0)) := h 110 (Nat.le_of_ble_eq_true rfl)
theorem f111 (h : Fx s) : s.1 111 = .inl (0, 60, .inl (fun _ => 0)) := h 111 (Nat.le_of_ble_eq_true rfl)
theorem f112 (h : Fx s) : s.1 112 = .inl (0, 3, .inl (fun _ => 0)) := h 112 (Nat.le_of_ble_eq_true rfl)
theorem f113 (h : Fx s) : s.1 113 = .inl (3, 1, .inr (.inl (fun _ => 0))) := h 113 (Nat.le_of_ble_eq_true rfl)
theorem fN1 (h : Fx s) : Nu s 1 120 := ⟨f1 h, f2 h, (Nat.le_of_ble_eq_true rfl)⟩
theorem fN6 (h : Fx s) : Nu s 6 8 := ⟨f6 h, f7 h, (Nat.le_of_ble_eq_true rfl)⟩
theorem fN8 (h : Fx s) : Nu s 8 40 := ⟨f8 h, f9 h, (Nat.le_of_ble_eq_true rfl)⟩
theorem fN10 (h : Fx s) : Nu s 10 243 := ⟨f10 h, f11 h, (Nat.le_of_ble_eq_true rfl)⟩
theorem fN13 (h : Fx s) : Nu s 13 8 := ⟨f13 h, f14 h, (Nat.le_of_ble_eq_true rfl)⟩
theorem fN20 (h : Fx s) : Nu s 20 1215 := ⟨f20 h, f21 h, (Nat.le_of_ble_eq_true rfl)⟩
theorem fN22 (h : Fx s) : Nu s 22 5 := ⟨f22 h, f23 h, (Nat.le_of_ble_eq_true rfl)⟩
theorem fN24 (h : Fx s) : Nu s 24 243 := ⟨f24 h, f25 h, (Nat.le_of_ble_eq_true rfl)⟩
theorem fN26 (h : Fx s) : Nu s 26 243 := ⟨f26 h, f27 h, (Nat.le_of_ble_eq_true rfl)⟩
theorem fN28 (h : Fx s) : Nu s 28 243 := ⟨f28 h, f29 h, (Nat.le_of_ble_eq_true rfl)⟩
theorem fN30 (h : Fx s) : Nu s 30 3402 := ⟨f30 h, f31 h, (Nat.le_of_ble_eq_true rfl)⟩
theorem fN33 (h : Fx s) : Nu s 33 60 := ⟨f33 h, f34 h, (Nat.le_of_ble_eq_true rfl)⟩
theorem fN35 (h : Fx s) : Nu s 35 60 := ⟨f35 h, f36 h, (Nat.le_of_ble_eq_true rfl)⟩
theorem fN37 (h : Fx s) : Nu s 37 60 := ⟨f37 h, f38 h, (Nat.le_of_ble_eq_true rfl)⟩
theorem fN39 (h : Fx s) : Nu s 39 60 := ⟨f39 h, f40 h, (Nat.le_of_ble_eq_true rfl)⟩
theorem fN42 (h : Fx s) : Nu s 42 60 := ⟨f42 h, f43 h, (Nat.le_of_ble_eq_true rfl)⟩
theorem fN44 (h : Fx s) : Nu s 44 60 := ⟨f44 h, f45 h, (Nat.le_of_ble_eq_true rfl)⟩
theorem fN46 (h : Fx s) : Nu s 46 60 := ⟨f46 h, f47 h, (Nat.le_of_ble_eq_true rfl)⟩
theorem fN48 (h : Fx s) : Nu s 48 60 := ⟨f48 h, f49 h, (Nat.le_of_ble_eq_true rfl)⟩
theorem fN51 (h : Fx s) : Nu s 51 10 := ⟨f51 h, f52 h, (Nat.le_of_ble_eq_true rfl)⟩
theorem fN53 (h : Fx s) : Nu s 53 243 := ⟨f53 h, f54 h, (Nat.le_of_ble_eq_true rfl)⟩
theorem fN55 (h : Fx s) : Nu s 55 243 := ⟨f55 h, f56 h, (Nat.le_of_ble_eq_true rfl)⟩
theorem fN57 (h : Fx s) : Nu s 57 243 := ⟨f57 h, f58 h, (Nat.le_of_ble_eq_true rfl)⟩
theorem fN59 (h : Fx s) : Nu s 59 7382 := ⟨f59 h, f60 h, (Nat.le_of_ble_eq_true rfl)⟩
theorem fN62 (h : Fx s) : Nu s 62 12 := ⟨f62 h, f63 h, (Nat.le_of_ble_eq_true rfl)⟩
theorem fN64 (h : Fx s) : Nu s 64 12 := ⟨f64 h, f65 h, (Nat.le_of_ble_eq_true rfl)⟩
theorem fN66 (h : Fx s) : Nu s 66 12 := ⟨f66 h, f67 h, (Nat.le_of_ble_eq_true rfl)⟩
theorem fN68 (h : Fx s) : Nu s 68 243 := ⟨f68 h, f69 h, (Nat.le_of_ble_eq_true rfl)⟩
theorem fN70 (h : Fx s) : Nu s 70 243 := ⟨f70 h, f71 h, (Nat.le_of_ble_eq_true rfl)⟩
theorem fN72 (h : Fx s) : Nu s 72 243 := ⟨f72 h, f73 h, (Nat.le_of_ble_eq_true rfl)⟩
theorem fN76 (h : Fx s) : Nu s 76 12 := ⟨f76 h, f77 h, (Nat.le_of_ble_eq_true rfl)⟩
theorem fN78 (h : Fx s) : Nu s 78 12 := ⟨f78 h, f79 h, (Nat.le_of_ble_eq_true rfl)⟩
end FX
section MN
variable {X : am_X} {d y pc nx ix m n : Nat} {ls st : List Value} {hp : am_H} {Q : Option Value → am_H → Prop} {k : Value}
theorem g_minn (t : am_T y pc = some (2, .invokestatic ix, nx, [0], k)) (ha : m < 2 ^ 31) (hb : n < 2 ^ 31) (hc : am_cat (.int (nI n) :: .int (nI m) :: st) ≤ 16) (g : gG X d y nx ls (.int (nI (min m n)) :: st) hp Q) : gG X d y pc ls (.int (nI n) :: .int (nI m) :: st) hp Q :=
  g_min t hc (by
    by_cases h : n < m
    · rw [if_pos ((nI_ltI hb ha).mpr h), show n = min m n by omega]; exact g
    · rw [if_neg (fun h2 => h ((nI_ltI hb ha).mp h2)), show nI m = nI (min m n) from congrArg nI (by omega)]; exact g)
theorem g_maxn (t : am_T y pc = some (2, .invokestatic ix, nx, [1], k)) (ha : m < 2 ^ 31) (hb : n < 2 ^ 31) (hc : am_cat (.int (nI n) :: .int (nI m) :: st) ≤ 16) (g : gG X d y nx ls (.int (nI (max m n)) :: st) hp Q) : gG X d y pc ls (.int (nI n) :: .int (nI m) :: st) hp Q :=
  g_max t hc (by
    by_cases h : m < n
    · rw [if_pos ((nI_ltI ha hb).mpr h), show n = max m n by omega]; exact g
    · rw [if_neg (fun h2 => h ((nI_ltI ha hb).mp h2)), show nI m = nI (max m n) from congrArg nI (by omega)]; exact g)
end MN
theorem wi_wf {s : mM} {p i : Nat} {f : Nat → Int32} {v : Int32} : wi (wf s p f) p i v = wf s p (upd f i v) := by
  refine Prod.ext rfl (Prod.ext ?_ rfl)
  funext q
  by_cases h : q = p
  · subst h; simp [wi, wf, m_up]
  · simp [wi, wf, m_up, h]
theorem wf_self {s : mM} {p : Nat} : wf s p (s.2.1 p) = s := by
  refine Prod.ext rfl (Prod.ext ?_ rfl)
  funext q
  by_cases h : q = p
  · subst h; simp [wf, m_up]
  · simp [wf, m_up, h]
theorem wf_row {s : mM} {p : Nat} {f : Nat → Int32} : (wf s p f).2.1 p = f := by simp [wf, m_up]
theorem wf_wf {s : mM} {p : Nat} {f g : Nat → Int32} : wf (wf s p f) p g = wf s p g := by
  refine Prod.ext rfl (Prod.ext ?_ rfl)
  funext q
  by_cases h : q = p
  · subst h; simp [wf, m_up]
  · simp [wf, m_up, h]
