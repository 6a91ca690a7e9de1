theorem pp_eq {n : Nat} {x y r1 r2 A B : Int32} (h1 : (in_S n x y → r1 = A) ∧ (¬ in_S n x y → r1 = B)) (h2 : (in_S n x y → r2 = A) ∧ (¬ in_S n x y → r2 = B)) : r1 = r2 := by
  rcases Classical.em (in_S n x y) with h | h
  · rw [h1.1 h, h2.1 h]
  · rw [h1.2 h, h2.2 h]
theorem l_5 {L : Nat} (h5 : L ≤ 5) (h : ¬ nI L - 4 < 1) : L = 5 := by
  rcases (show L = 0 ∨ L = 1 ∨ L = 2 ∨ L = 3 ∨ L = 4 ∨ L = 5 by omega) with rfl | rfl | rfl | rfl | rfl | rfl
  · exact absurd (by decide) h
  · exact absurd (by decide) h
  · exact absurd (by decide) h
  · exact absurd (by decide) h
  · exact absurd (by decide) h
  · rfl
