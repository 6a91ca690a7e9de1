theorem mq_sameB {D : va_G} {cl : List vw_C} {tys : List (ClassId × FieldType)} {s : State} (hK : va_K D cl tys s) (i j : Nat) {c1 c2 : ClassId} (h1 : tys[i]? = some (c1, .byte)) (h2 : tys[j]? = some (c2, .byte)) : c1 = c2 := by
  have a : s.vm.findClass ("[" ++ FieldType.byte.toString) = some c1 := (hK.2 i _ h1).2
  have b : s.vm.findClass ("[" ++ FieldType.byte.toString) = some c2 := (hK.2 j _ h2).2
  exact Option.some.inj (a.symm.trans b)
theorem mq_sameI {D : va_G} {cl : List vw_C} {tys : List (ClassId × FieldType)} {s : State} (hK : va_K D cl tys s) (i j : Nat) {c1 c2 : ClassId} (h1 : tys[i]? = some (c1, .int)) (h2 : tys[j]? = some (c2, .int)) : c1 = c2 := by
  have a : s.vm.findClass ("[" ++ FieldType.int.toString) = some c1 := (hK.2 i _ h1).2
  have b : s.vm.findClass ("[" ++ FieldType.int.toString) = some c2 := (hK.2 j _ h2).2
  exact Option.some.inj (a.symm.trans b)
theorem tb_out {x : Int32} {k : Nat} (hk : k < 2 ^ 31) (h : ∀ j : Nat, j ≤ k → ¬ x = nI j) : x.toInt < ((0 : Nat) : Int) ∨ ((k : Nat) : Int) < x.toInt := by
  rcases Classical.em (x < 0) with q | q
  · left
    have := Int32.lt_iff_toInt_lt.mp q
    simpa using this
  · obtain ⟨j, hj, e⟩ := nI_of q
    right
    have e2 := nI_toInt hj
    rw [← e] at e2
    rw [e2]
    rcases Nat.lt_or_ge k j with z | z
    · exact_mod_cast z
    · exact absurd e (h j z)
/-- the number of sectors -/
def cl_n (x : Int32) : Nat := if x < 3 then 3 else if 40 < x then 40 else x.toNatClampNeg
theorem cl_b (x : Int32) : 3 ≤ cl_n x ∧ cl_n x ≤ 40 := by
  unfold cl_n
  split
  · omega
  · split
    · omega
    · rename_i h1 h2
      have a := Int32.not_lt.mp h1
      have b := Int32.not_lt.mp h2
      have a' := Int32.le_iff_toInt_le.mp a
      have b' := Int32.le_iff_toInt_le.mp b
      have c1 : (3 : Int32).toInt = 3 := by decide
      have c2 : (40 : Int32).toInt = 40 := by decide
      rw [c1] at a'
      rw [c2] at b'
      show 3 ≤ x.toInt.toNat ∧ x.toInt.toNat ≤ 40
      omega
theorem cl_e (x : Int32) (h1 : ¬ x < 3) : nI x.toNatClampNeg = x := by
  have h0 : ¬ x < 0 := fun q => h1 (by
    have a := Int32.lt_iff_toInt_lt.mp q
    refine Int32.lt_iff_toInt_lt.mpr ?_
    have c1 : (3 : Int32).toInt = 3 := by decide
    have c0 : (0 : Int32).toInt = 0 := by decide
    rw [c1]; rw [c0] at a; omega)
  obtain ⟨j, hj, e⟩ := nI_of h0
  rw [e, nI_clamp hj]
theorem lt_3_40 {x : Int32} (h1 : x < 3) (h2 : 40 < x) : False := by
  have a := Int32.lt_iff_toInt_lt.mp h1
  have b := Int32.lt_iff_toInt_lt.mp h2
  have c1 : (3 : Int32).toInt = 3 := by decide
  have c2 : (40 : Int32).toInt = 40 := by decide
  rw [c1] at a; rw [c2] at b; omega
/-- the class's own clamp -/
theorem cl_1 (x : Int32) : (if (3 : Int32) < (if x < (40 : Int32) then x else (40 : Int32)) then (if x < (40 : Int32) then x else (40 : Int32)) else (3 : Int32)) = nI (cl_n x) := by
  unfold cl_n
  by_cases h1 : x < 3
  · rw [if_pos h1]
    have h2 : x < 40 := by
      have a := Int32.lt_iff_toInt_lt.mp h1
      refine Int32.lt_iff_toInt_lt.mpr ?_
      have c1 : (3 : Int32).toInt = 3 := by decide
      have c2 : (40 : Int32).toInt = 40 := by decide
      rw [c2]; rw [c1] at a; omega
    rw [if_pos h2, if_neg (fun q => absurd (Int32.lt_trans q h1) (Int32.lt_irrefl))]
    rfl
  · rw [if_neg h1]
    by_cases h2 : 40 < x
    · rw [if_pos h2, if_neg (fun q => absurd (Int32.lt_trans q h2) (Int32.lt_irrefl)), if_pos (by decide)]
      rfl
    · rw [if_neg h2, cl_e x h1]
      by_cases h3 : x < 40
      · rw [if_pos h3]
        by_cases h4 : (3 : Int32) < x
        · rw [if_pos h4]
        · rw [if_neg h4]
          exact (Int32.le_antisymm (Int32.not_lt.mp h4) (Int32.not_lt.mp h1)).symm
      · rw [if_neg h3, if_pos (by decide)]
        exact (Int32.le_antisymm (Int32.not_lt.mp h2) (Int32.not_lt.mp h3)).symm
theorem mn_40 {n : Nat} (hn : n ≤ 40) : (if (0 : Int32) < (if nI n < (40 : Int32) then nI n else (40 : Int32)) then (if nI n < (40 : Int32) then nI n else (40 : Int32)) else (0 : Int32)) = nI n := by
  have e : (if nI n < (40 : Int32) then nI n else (40 : Int32)) = nI n := by
    by_cases h : nI n < 40
    · rw [if_pos h]
    · rw [if_neg h]
      have h2 : ¬ n < 40 := fun q => h (nI_lt (b := 40) q (by omega))
      have : n = 40 := by omega
      rw [this]; rfl
  rw [e]
  by_cases h : (0 : Int32) < nI n
  · rw [if_pos h]
  · rw [if_neg h]
    have h2 : n = 0 := by
      rcases Nat.eq_zero_or_pos n with q | q
      · exact q
      · exact absurd (nI_lt (a := 0) q (by omega)) h
    rw [h2]; rfl
