/-! words on Sectors: a place within, and its index -/
def in_S (n : Nat) (x y : Int32) : Prop := ∃ a b : Nat, a < n ∧ b < 64 ∧ x = nI a ∧ y = nI b
theorem in_S1 {n : Nat} {x y : Int32} (hn : n ≤ 40) (h : x < 0) : ¬ in_S n x y := by
  rintro ⟨a, b, ha, hb, rfl, rfl⟩
  exact nI_pos (by omega) h
theorem in_S2 {n : Nat} {x y : Int32} (hn : n ≤ 40) (h : nI n ≤ x) : ¬ in_S n x y := by
  rintro ⟨a, b, ha, hb, rfl, rfl⟩
  exact nI_ge ha (by omega) h
theorem in_S3 {n : Nat} {x y : Int32} (h : y < 0) : ¬ in_S n x y := by
  rintro ⟨a, b, ha, hb, rfl, rfl⟩
  exact nI_pos (by omega) h
theorem in_S4 {n : Nat} {x y : Int32} (h : 64 ≤ y) : ¬ in_S n x y := by
  rintro ⟨a, b, ha, hb, rfl, rfl⟩
  exact nI_ge (b := 64) hb (by omega) h
theorem in_S5 {n : Nat} {x y : Int32} (hn : n ≤ 40) (h1 : ¬ x < 0) (h2 : ¬ nI n ≤ x) (h3 : ¬ y < 0) (h4 : ¬ 64 ≤ y) : in_S n x y := by
  obtain ⟨a, ha, e, -⟩ := pk_mu h1 h2 (by omega)
  obtain ⟨b, hb, e2, -⟩ := pk_mu (L := 64) h3 h4 (by omega)
  exact ⟨a, b, ha, hb, e, e2⟩
theorem in_Sn {n a b : Nat} {x y : Int32} (ex : x = nI a) (ey : y = nI b) : x * 64 + y = nI (a * 64 + b) := by
  rw [ex, ey, show (64 : Int32) = nI 64 from rfl, pk_mul, nI_add]
theorem in_Si {n a b : Nat} {x y : Int32} (hn : n ≤ 40) (ha : a < n) (hb : b < 64) (ex : x = nI a) (ey : y = nI b) : vp_in (x * 64 + y) (n * 64) := by
  rw [in_Sn (n := n) ex ey]
  exact vp_in_nI (by omega) (by omega)
theorem in_Sc {n a b : Nat} {x y : Int32} (hn : n ≤ 40) (ha : a < n) (hb : b < 64) (ex : x = nI a) (ey : y = nI b) : (x * 64 + y).toNatClampNeg = a * 64 + b := by
  rw [in_Sn (n := n) ex ey]
  exact nI_clamp (by omega)
theorem k_lt {k i : Nat} {K : Int32} (hK : K = nI k) (hk : k < 2 ^ 31) (hi : i < 2 ^ 31) (h : ¬ K ≤ nI i) : i < k := by
  subst hK
  exact Nat.lt_of_not_le fun q => h (nI_le q hi)
theorem k_ge {k i : Nat} {K : Int32} (hK : K = nI k) (hk : k < 2 ^ 31) (hi : i < 2 ^ 31) (h : K ≤ nI i) : k ≤ i := by
  subst hK
  exact (nI_leI hk hi).mp h
theorem z_byte {n : Nat} {f : Nat → Int32} {x y r : Int32} (hz : ∀ j, f j = 0) (h : in_S n x y) (hw : (∃ a b : Nat, a < n ∧ b < 64 ∧ x = nI a ∧ y = nI b ∧ r = f (a * 64 + b) &&& 255) ∨ (¬ in_S n x y ∧ r = -1)) : r = 0 := by
  rcases hw with ⟨a, b, -, -, -, -, e⟩ | ⟨h1, -⟩
  · rw [e, hz]; decide
  · exact absurd h h1
theorem in_Sa {n a b i : Nat} {B : Int32} (hB : B = nI b) (ha : a < n) (hb : b + i < 64) : in_S n (nI a) (B + nI i) := ⟨a, b + i, ha, hb, rfl, by rw [hB, nI_add]⟩
theorem z_put {n : Nat} {f g : Nat → Int32} {x y v : Int32} (hf : sb_Fit f) (hw : (∃ a b : Nat, a < n ∧ b < 64 ∧ x = nI a ∧ y = nI b ∧ g = upd f (a * 64 + b) v.toInt8.toInt32) ∨ (¬ in_S n x y ∧ g = f)) : sb_Fit g := by
  rcases hw with ⟨a, b, -, -, -, -, e⟩ | ⟨-, e⟩
  · rw [e]; exact sb_fitU hf (pk_fb v)
  · rw [e]; exact hf
