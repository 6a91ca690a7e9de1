theorem ix_e {a i : Nat} : (64 : Int32) * nI a + nI i = nI (64 * a + i) := by
  rw [show (64 : Int32) = nI 64 from rfl, pk_mul, nI_add]
theorem ix_m {a i : Nat} (ha : a < 40) (hi : i < 64) : vp_in ((64 : Int32) * nI a + nI i) 2560 := by
  rw [ix_e]
  exact vp_in_nI (by omega) (by omega)
theorem ix_x {n a b : Nat} {x y : Int32} (hn : n ≤ 40) (ha : a < n) (hb : b < 64) (ex : x = nI a) (ey : y = nI b) : vp_in ((64 : Int32) * x + y) 2560 := by
  rw [ex, ey]
  exact ix_m (by omega) hb
theorem one_le {n : Nat} (hn : 3 ≤ n ∧ n ≤ 40) : (1 : Int32) ≤ nI n - 2 - 0 := by
  rw [Int32.sub_zero, show (2 : Int32) = nI 2 from rfl, pk_sub (by omega)]
  exact nI_le (a := 1) (by omega) (by omega)
theorem in_none {x : Int32} (h : ¬ x < 0) : (0 : Int32) - 1 < x := by
  have a := Int32.le_iff_toInt_le.mp (Int32.not_lt.mp h)
  refine Int32.lt_iff_toInt_lt.mpr ?_
  have c1 : ((0 : Int32) - 1).toInt = -1 := by decide
  have c0 : (0 : Int32).toInt = 0 := by decide
  rw [c1]; rw [c0] at a; omega
theorem in_by {n : Nat} {x y r1 r2 : Int32} (hn : n ≤ 40) (h0 : 0 < n) (h1 : (r1 = 1 ∧ ¬ x < 0 ∧ ¬ nI n - 1 < x) ∨ (r1 = 0 ∧ (x < 0 ∨ nI n - 1 < x))) (h2 : (r2 = 1 ∧ ¬ y < 0 ∧ ¬ 63 < y) ∨ (r2 = 0 ∧ (y < 0 ∨ 63 < y))) (g1 : ¬ r1 = 0) (g2 : ¬ r2 = 0) : in_S n x y := by
  obtain ⟨-, a1, a2⟩ := h1.resolve_right (fun q => g1 q.1)
  obtain ⟨-, b1, b2⟩ := h2.resolve_right (fun q => g2 q.1)
  obtain ⟨a, ha, ea⟩ := nI_of a1
  obtain ⟨b, hb, eb⟩ := nI_of b1
  have e1 : nI n - 1 = nI (n - 1) := by rw [show (1 : Int32) = nI 1 from rfl, pk_sub h0]
  rw [e1, ea] at a2
  rw [eb] at b2
  refine ⟨a, b, ?_, ?_, ea, eb⟩
  · have : ¬ n - 1 < a := fun q => a2 (nI_lt q ha)
    omega
  · have : ¬ 63 < b := fun q => b2 (nI_lt (a := 63) q hb)
    omega
theorem in_bx {n : Nat} {x y r1 : Int32} (hn : n ≤ 40) (h0 : 0 < n) (h1 : (r1 = 1 ∧ ¬ x < 0 ∧ ¬ nI n - 1 < x) ∨ (r1 = 0 ∧ (x < 0 ∨ nI n - 1 < x))) (g1 : r1 = 0) : ¬ in_S n x y := by
  rintro ⟨a, b, ha, hb, rfl, rfl⟩
  rcases h1 with ⟨q, -⟩ | ⟨-, q | q⟩
  · rw [q] at g1; exact absurd g1 (by decide)
  · exact nI_pos (by omega) q
  · rw [show (1 : Int32) = nI 1 from rfl, pk_sub h0] at q
    exact nI_nlt (a := n - 1) (b := a) (by omega) (by omega) q
theorem in_bz {n : Nat} {x y r2 : Int32} (h2 : (r2 = 1 ∧ ¬ y < 0 ∧ ¬ 63 < y) ∨ (r2 = 0 ∧ (y < 0 ∨ 63 < y))) (g2 : r2 = 0) : ¬ in_S n x y := by
  rintro ⟨a, b, ha, hb, rfl, rfl⟩
  rcases h2 with ⟨q, -⟩ | ⟨-, q | q⟩
  · rw [q] at g2; exact absurd g2 (by decide)
  · exact nI_pos (by omega) q
  · exact nI_nlt (a := 63) (b := b) (by omega) (by omega) q
theorem e_in {x r : Int32} (h : (r = 1 ∧ ¬ x < 0 ∧ ¬ 3 < x) ∨ (r = 0 ∧ (x < 0 ∨ 3 < x))) : (r = 0 → e_end x = -2) ∧ (¬ r = 0 → e_end x = 0) := by
  unfold e_end
  constructor
  · intro g
    rcases h with ⟨q, -⟩ | ⟨-, q | q⟩
    · rw [q] at g; exact absurd g (by decide)
    · rw [if_pos q]
    · by_cases z : x < 0
      · rw [if_pos z]
      · rw [if_neg z, if_neg (Int32.not_le.mpr q)]
  · intro g
    obtain ⟨-, a, b⟩ := h.resolve_right (fun q => g q.1)
    rw [if_neg a, if_pos (Int32.not_lt.mp b)]
theorem cl_p1 {x : Int32} (h : ¬ (3 : Int32) ≤ x) : (3 : Int32) = nI (cl_n x) := by
  unfold cl_n
  rw [if_pos (Int32.not_le.mp h)]
  rfl
theorem cl_p2 {x : Int32} (h : (3 : Int32) ≤ x) (h2 : ¬ x ≤ 40) : (40 : Int32) = nI (cl_n x) := by
  unfold cl_n
  rw [if_neg (Int32.not_lt.mpr h), if_pos (Int32.not_le.mp h2)]
  rfl
theorem cl_p3 {x : Int32} (h : (3 : Int32) ≤ x) (h2 : x ≤ 40) : x = nI (cl_n x) := by
  unfold cl_n
  rw [if_neg (Int32.not_lt.mpr h), if_neg (Int32.not_lt.mpr h2), cl_e x (Int32.not_lt.mpr h)]
theorem n64 (n : Nat) : (64 : Int32) * nI n = nI (64 * n) := by rw [show (64 : Int32) = nI 64 from rfl, pk_mul]
