theorem po_1 {n : Nat} {x y v r1 r2 : Int32} {g : Nat → Int32} (h : in_S n x y) (h1 : (∃ a b : Nat, a < n ∧ b < 64 ∧ x = nI a ∧ y = nI b ∧ r1 = (fun _ : Nat => (0 : Int32)) (a * 64 + b) &&& 255) ∨ (¬ in_S n x y ∧ r1 = -1)) (h2 : (∃ a b : Nat, a < n ∧ b < 64 ∧ x = nI a ∧ y = nI b ∧ g = upd (fun _ : Nat => (0 : Int32)) (a * 64 + b) (r1 ^^^ v).toInt8.toInt32) ∨ (¬ in_S n x y ∧ g = (fun _ : Nat => (0 : Int32)))) (h3 : (∃ a b : Nat, a < n ∧ b < 64 ∧ x = nI a ∧ y = nI b ∧ r2 = g (a * 64 + b) &&& 255) ∨ (¬ in_S n x y ∧ r2 = -1)) (hn : n ≤ 40) : (in_S n x y → r2 = v.toInt8.toInt32 &&& 255) ∧ (¬ in_S n x y → r2 = -1) := by
  refine ⟨fun _ => ?_, fun q => absurd h q⟩
  have e1 : r1 = 0 := z_byte (fun _ => rfl) h h1
  rcases h3 with ⟨a, b, ha, hb, ex, ey, e3⟩ | ⟨q, -⟩
  · rcases h2 with ⟨a2, b2, ha2, hb2, ex2, ey2, e2⟩ | ⟨q, -⟩
    · have ea : a2 = a := (nI_eq (by omega) (by omega)).mp (ex2.symm.trans ex)
      have eb : b2 = b := (nI_eq (by omega) (by omega)).mp (ey2.symm.trans ey)
      rw [e3, e2, ea, eb, pk_us, e1, ex_0]
    · exact absurd h q
  · exact absurd h q
