set_option maxHeartbeats 4000000 in
set_option maxRecDepth 100000 in
/-- in -/
theorem ct_X3_in (l : Launch) (dC : Nat → ClassId) (dI : Nat → Nat → Nat) (cB cI : ClassId) (x y z : Int32) (sz : Nat) : mq_I l (dC, dI) vwCl [(cB, .byte), (cI, .int)] yX3_in wsX3_in ({ frames := 0, cells := 0, slots := 0, locals := 0 }) [.int x, .int y, .int z] [] sz (fun (r : Int32) (_u : Unit) => (r = 1 ∧ ¬ x < y ∧ ¬ z < x) ∨ (r = 0 ∧ (x < y ∨ z < x))) (fun (_u : Unit) => []) 0 0 := by
  refine Met.ofW (cc := cX3_in) (maxL := 3) (ret := (some .boolean)) (by decide) rfl ?_
  intro p e s m args below meth c s₁ B hml hv
  obtain ⟨rfl, hsz, hP, hK, hD0, hN⟩ := hv
  have hx := B.exec
  have hb := B.bytes
  have hr := B.returns
  have hts := atoms_spec (ws := wsX3_in) B.pre
  have hown : s.vm.findClass RX3 = some m.cls := findClass_of_methodNamed B.named
  have hlocks := B.notSynchronized
  subst hsz
  have hD := hD0.self (sz := s.heap.size)
  generalize hAe : va_A [] s.heap.size = A at hD ⊢
  have hA : ∀ q : Nat, s.heap.size ≤ q → A q := fun q h => by rw [← hAe]; exact Or.inr h
  have hS : va_S A s.heap s.heap [] := va_S.rf
  have hP : va_P (dC, dI) vwCl [] s.heap := hP
  have hl := lv_entry ([.int x, .int y, .int z]) (n := 3) (Nat.le_of_ble_eq_true rfl)
  rw [lg_entry_eq]
  generalize (lg_sl ([.int x, .int y, .int z]) ++ List.replicate (3 - (lg_sl ([.int x, .int y, .int z])).length) Slot.unset).toArray = ls at hl ⊢
  have hl : lv_has ls 3 [(0, .int x), (1, .int y), (2, .int z)] := hl
  refine lv_iload_n hx hb dX3_in_0 rfl (lv_at hl 0 rfl) ?_
  refine lv_iload_n hx hb dX3_in_1 rfl (lv_at hl 1 rfl) ?_
  refine lv_icmp_lt (tgt := 14) hx hb dX3_in_2 (by decide) (fun c_2 => ?_) (fun c_2 => ?_)
  · skip
    refine lv_iconst (v := 0) hx hb dX3_in_14 (by decide) ?_
    have hP9 := hP.sub (ws' := []) [] rfl
    have hD9 := hD.sub (ws' := []) [] (by decide) rfl
    exact W.zret (v := 0) hx hb hr (by first | rfl | decide) (fun t ht hW => ⟨⟨0, (), rfl, Or.inr ⟨rfl, Or.inl c_2⟩, by rw [ht]; exact hP9, va_K.moved hW.alike hK, by rw [hAe]; exact hD9⟩, hS.F ht⟩) hS.2.2 dX3_in_15
  · skip
    refine lv_iload_n hx hb dX3_in_5 rfl (lv_at hl 0 rfl) ?_
    refine lv_iload_n hx hb dX3_in_6 rfl (lv_at hl 2 rfl) ?_
    refine lv_icmp_gt (tgt := 14) hx hb dX3_in_7 (by decide) (fun c_7 => ?_) (fun c_7 => ?_)
    · skip
      refine lv_iconst (v := 0) hx hb dX3_in_14 (by decide) ?_
      have hP9 := hP.sub (ws' := []) [] rfl
      have hD9 := hD.sub (ws' := []) [] (by decide) rfl
      exact W.zret (v := 0) hx hb hr (by first | rfl | decide) (fun t ht hW => ⟨⟨0, (), rfl, Or.inr ⟨rfl, Or.inr c_7⟩, by rw [ht]; exact hP9, va_K.moved hW.alike hK, by rw [hAe]; exact hD9⟩, hS.F ht⟩) hS.2.2 dX3_in_15
    · skip
      refine lv_iconst (v := 1) hx hb dX3_in_10 (by decide) ?_
      refine lv_goto (tgt := 15) hx hb dX3_in_11 (by decide) ?_
      have hP9 := hP.sub (ws' := []) [] rfl
      have hD9 := hD.sub (ws' := []) [] (by decide) rfl
      exact W.zret (v := 1) hx hb hr (by first | rfl | decide) (fun t ht hW => ⟨⟨1, (), rfl, Or.inl ⟨rfl, c_2, c_7⟩, by rw [ht]; exact hP9, va_K.moved hW.alike hK, by rw [hAe]; exact hD9⟩, hS.F ht⟩) hS.2.2 dX3_in_15
set_option maxHeartbeats 4000000 in
set_option maxRecDepth 100000 in
/-- sumOf -/
theorem ct_X3_sumOf_z (l : Launch) (dC : Nat → ClassId) (dI : Nat → Nat → Nat) (cB cI : ClassId) (h0 m1 m2 m3 m4 m5 m6 m7 m8 m9 : Nat) (n : Nat) (hn : 3 ≤ n ∧ n ≤ 40) (o8 o9 o11 : Int32) (f : Nat → Int32) (hz : ∀ j, f j = 0) (a : Nat) (ha : a < 40) (sz : Nat) : mq_I l (dC, dI) vwCl [(cB, .byte), (cI, .int)] yX3_sumOf wsX3_sumOf ({ frames := 0, cells := 0, slots := 0, locals := 0 }) [.ref h0, .int (nI a)] [(h0, .inr (4, [.int 0, .int (nI n), .ref m1, .ref m2, .ref m3, .ref m4, .int 0, .int 0, .int o8, .int o9, .int 0, .int o11, .int 0, .int 0, .ref m5, .int 0, .int 0, .ref m6, .ref m7, .ref m8, .ref m9])), (m1, .inl (cB, 2560, .inl f))] sz (fun (r : Int32) (_u : Unit) => r = 0) (fun (_u : Unit) => [(h0, .inr (4, [.int 0, .int (nI n), .ref m1, .ref m2, .ref m3, .ref m4, .int 0, .int 0, .int o8, .int o9, .int 0, .int o11, .int 0, .int 0, .ref m5, .int 0, .int 0, .ref m6, .ref m7, .ref m8, .ref m9])), (m1, .inl (cB, 2560, .inl f))]) 0 0 := by
  refine Met.ofW (cc := cX3_sumOf) (maxL := 4) (ret := (some .int)) (by decide) rfl ?_
  intro p e s m args below meth c s₁ B hml hv
  obtain ⟨rfl, hsz, hP, hK, hD0, hN⟩ := hv
  have hx := B.exec
  have hb := B.bytes
  have hr := B.returns
  have hts := atoms_spec (ws := wsX3_sumOf) B.pre
  have hown : s.vm.findClass RX3 = some m.cls := findClass_of_methodNamed B.named
  have hlocks := B.notSynchronized
  have hiX3 : ∀ w ∈ u_ws RX3 TX3 21, w ∈ wsX3_sumOf := by decide +kernel
  subst hsz
  have hD := hD0.self (sz := s.heap.size)
  generalize hAe : va_A [(h0, .inr (4, [.int 0, .int (nI n), .ref m1, .ref m2, .ref m3, .ref m4, .int 0, .int 0, .int o8, .int o9, .int 0, .int o11, .int 0, .int 0, .ref m5, .int 0, .int 0, .ref m6, .ref m7, .ref m8, .ref m9])), (m1, .inl (cB, 2560, .inl f))] s.heap.size = A at hD ⊢
  have hA : ∀ q : Nat, s.heap.size ≤ q → A q := fun q h => by rw [← hAe]; exact Or.inr h
  have hS : va_S A s.heap s.heap [] := va_S.rf
  have hP : va_P (dC, dI) vwCl [(h0, .inr (4, [.int 0, .int (nI n), .ref m1, .ref m2, .ref m3, .ref m4, .int 0, .int 0, .int o8, .int o9, .int 0, .int o11, .int 0, .int 0, .ref m5, .int 0, .int 0, .ref m6, .ref m7, .ref m8, .ref m9])), (m1, .inl (cB, 2560, .inl f))] s.heap := hP
  have hl := lv_entry ([.ref h0, .int (nI a)]) (n := 4) (Nat.le_of_ble_eq_true rfl)
  rw [lg_entry_eq]
  generalize (lg_sl ([.ref h0, .int (nI a)]) ++ List.replicate (4 - (lg_sl ([.ref h0, .int (nI a)])).length) Slot.unset).toArray = ls at hl ⊢
  have hl : lv_has ls 4 [(0, .ref h0), (1, .int (nI a))] := hl
  refine lv_iconst (v := 0) hx hb dX3_sumOf_0 (by decide) ?_
  refine lv_istore_n (lv' := [(2, .int 0), (0, .ref h0), (1, .int (nI a))]) hx hb dX3_sumOf_1 rfl hl (by decide) rfl (fun ls hl => ?_)
  refine lv_iconst (v := 0) hx hb dX3_sumOf_2 (by decide) ?_
  refine lv_istore_n (lv' := [(3, .int 0), (2, .int 0), (0, .ref h0), (1, .int (nI a))]) hx hb dX3_sumOf_3 rfl hl (by decide) rfl (fun ls hl => ?_)
  refine mq_loop 4 4 (σ := Nat) (I := fun i => i ≤ 60) (μ := fun i => 60 - i) (wsf := fun i => [(h0, .inr (4, [.int 0, .int (nI n), .ref m1, .ref m2, .ref m3, .ref m4, .int 0, .int 0, .int o8, .int o9, .int 0, .int o11, .int 0, .int 0, .ref m5, .int 0, .int 0, .ref m6, .ref m7, .ref m8, .ref m9])), (m1, .inl (cB, 2560, .inl f))]) (lvf := fun i => [(0, .ref h0), (1, .int (nI a)), (2, .int 0), (3, .int (nI i))]) (fun i hI_4 ih_4 H locs ls hP hD hS hl => ?_) 0 (by decide) (hP.sub [0, 1] rfl) (hD.sub [0, 1] (by decide) rfl) hS (lv_sub hl [2, 3, 1, 0] rfl)
  skip
  have hI : i ≤ 60 := hI_4
  have hP : va_P (dC, dI) vwCl [(h0, .inr (4, [.int 0, .int (nI n), .ref m1, .ref m2, .ref m3, .ref m4, .int 0, .int 0, .int o8, .int o9, .int 0, .int o11, .int 0, .int 0, .ref m5, .int 0, .int 0, .ref m6, .ref m7, .ref m8, .ref m9])), (m1, .inl (cB, 2560, .inl f))] H := hP
  have hD : va_D A [(h0, .inr (4, [.int 0, .int (nI n), .ref m1, .ref m2, .ref m3, .ref m4, .int 0, .int 0, .int o8, .int o9, .int 0, .int o11, .int 0, .int 0, .ref m5, .int 0, .int 0, .ref m6, .ref m7, .ref m8, .ref m9])), (m1, .inl (cB, 2560, .inl f))] := hD
  have hl : lv_has ls 4 [(0, .ref h0), (1, .int (nI a)), (2, .int 0), (3, .int (nI i))] := hl
  refine lv_iload_n hx hb dX3_sumOf_4 rfl (lv_at hl 3 rfl) ?_
  refine lv_bipush (v := 60) hx hb dX3_sumOf_5 (by decide) ?_
  refine lv_icmp_ge (tgt := 47) hx hb dX3_sumOf_7 (by decide) (fun c_7 => ?_) (fun c_7 => ?_)
  · skip
    refine lv_iload_n hx hb dX3_sumOf_47 rfl (lv_at hl 2 rfl) ?_
    have hP9 := hP.sub (ws' := [(h0, .inr (4, [.int 0, .int (nI n), .ref m1, .ref m2, .ref m3, .ref m4, .int 0, .int 0, .int o8, .int o9, .int 0, .int o11, .int 0, .int 0, .ref m5, .int 0, .int 0, .ref m6, .ref m7, .ref m8, .ref m9])), (m1, .inl (cB, 2560, .inl f))]) [0, 1] rfl
    have hD9 := hD.sub (ws' := [(h0, .inr (4, [.int 0, .int (nI n), .ref m1, .ref m2, .ref m3, .ref m4, .int 0, .int 0, .int o8, .int o9, .int 0, .int o11, .int 0, .int 0, .ref m5, .int 0, .int 0, .ref m6, .ref m7, .ref m8, .ref m9])), (m1, .inl (cB, 2560, .inl f))]) [0, 1] (by decide) rfl
    exact W.iret (v := 0) hx hb hr (fun t ht hW => ⟨⟨0, (), rfl, rfl, by rw [ht]; exact hP9, va_K.moved hW.alike hK, by rw [hAe]; exact hD9⟩, hS.F ht⟩) hS.2.2 dX3_sumOf_48
  · skip
    have hlt : i < 60 := k_lt (k := 60) rfl (by omega) (by omega) c_7
    refine lv_iload_n hx hb dX3_sumOf_10 rfl (lv_at hl 2 rfl) ?_
    refine lv_aload_n hx hb dX3_sumOf_11 rfl (lv_at hl 0 rfl) ?_
    refine va_get (D := (dC, dI)) (ci := 4) (v := .ref m1) (C := RX3) (T := TX3) (N := 21) hx hb hts hiX3 hown hK hP 0 rfl rfl 2 (by decide) (hts (.fieldLink RX3 7 "LibraryDiskModel" "disk" "[B") (by decide +kernel)) (fun _ h9 => h9) rfl dX3_sumOf_12 ?_
    refine lv_bipush (v := 64) hx hb dX3_sumOf_15 (by decide) ?_
    refine lv_iload_n hx hb dX3_sumOf_17 rfl (lv_at hl 1 rfl) ?_
    refine lv_imul hx hb dX3_sumOf_18 ?_
    refine lv_iload_n hx hb dX3_sumOf_19 rfl (lv_at hl 3 rfl) ?_
    refine lv_iadd hx hb dX3_sumOf_20 ?_
    refine va_bald hx hb hK hP 1 0 rfl rfl (ix_m ha (by omega)) dX3_sumOf_21 ?_
    refine lv_sipush (v := 255) hx hb dX3_sumOf_22 (by decide) ?_
    refine lv_iand hx hb dX3_sumOf_25 ?_
    refine lv_ixor hx hb dX3_sumOf_26 ?_
    refine lv_topi (fun x_1 ex_1 => ?_)
    refine lv_istore_n (lv' := [(2, .int x_1), (0, .ref h0), (1, .int (nI a)), (3, .int (nI i))]) hx hb dX3_sumOf_27 rfl hl (by decide) rfl (fun ls hl => ?_)
    obtain rfl : x_1 = 0 := by rw [ex_1, hz]; decide
    refine lv_iload_n hx hb dX3_sumOf_28 rfl (lv_at hl 0 rfl) ?_
    refine lv_bipush (v := 13) hx hb dX3_sumOf_29 (by decide) ?_
    refine lv_ishl hx hb dX3_sumOf_31 ?_
    refine lv_iload_n hx hb dX3_sumOf_32 rfl (lv_at hl 0 rfl) ?_
    refine lv_bipush (v := 19) hx hb dX3_sumOf_33 (by decide) ?_
    refine lv_iushr hx hb dX3_sumOf_35 rfl ?_
    refine lv_ior hx hb dX3_sumOf_36 ?_
    refine lv_ldc (v := (-2048144789)) hx hb hown (hts (.constant RX3 46 (-2048144789)) (by decide +kernel)) dX3_sumOf_37 ?_
    refine lv_imul hx hb dX3_sumOf_39 ?_
    refine lv_topi (fun x_2 ex_2 => ?_)
    refine lv_istore_n (lv' := [(2, .int x_2), (0, .ref h0), (1, .int (nI a)), (3, .int (nI i))]) hx hb dX3_sumOf_40 rfl hl (by decide) rfl (fun ls hl => ?_)
    obtain ⟨x_3, ex_3⟩ : ∃ y : Int32, y = (nI i) + 1 := ⟨_, rfl⟩
    refine lv_iinc (v := x_3) (lv' := [(3, .int x_3), (2, .int x_2), (0, .ref h0), (1, .int (nI a))]) hx hb dX3_sumOf_41 hl (k := 3) rfl (by rw [ex_3]; rfl) (by decide) rfl (fun ls hl => ?_)
    refine lv_goto (tgt := 4) hx hb dX3_sumOf_44 (by decide) ?_
    obtain rfl : x_3 = nI (i + 1) := by rw [ex_3]; exact nI_1 i
    obtain rfl : x_2 = 0 := by rw [ex_2]; decide
    exact ih_4 (i + 1) (show i + 1 ≤ 60 by omega) (show 60 - (i + 1) < 60 - i by omega) _ _ _ (hP.sub [0, 1] rfl) (hD.sub [0, 1] (by decide) rfl) hS (lv_sub hl [2, 3, 1, 0] rfl)
set_option maxHeartbeats 4000000 in
set_option maxRecDepth 100000 in
/-- sumOf -/
theorem ct_X3_sumOf (l : Launch) (dC : Nat → ClassId) (dI : Nat → Nat → Nat) (cB cI : ClassId) (h0 m1 m2 m3 m4 m5 m6 m7 m8 m9 : Nat) (n : Nat) (hn : 3 ≤ n ∧ n ≤ 40) (o8 o9 o11 : Int32) (f : Nat → Int32) (a : Nat) (ha : a < 40) (sz : Nat) : mq_I l (dC, dI) vwCl [(cB, .byte), (cI, .int)] yX3_sumOf wsX3_sumOf ({ frames := 0, cells := 0, slots := 0, locals := 0 }) [.ref h0, .int (nI a)] [(h0, .inr (4, [.int 0, .int (nI n), .ref m1, .ref m2, .ref m3, .ref m4, .int 0, .int 0, .int o8, .int o9, .int 0, .int o11, .int 0, .int 0, .ref m5, .int 0, .int 0, .ref m6, .ref m7, .ref m8, .ref m9])), (m1, .inl (cB, 2560, .inl f))] sz (fun (r : Int32) (_u : Unit) => True) (fun (_u : Unit) => [(h0, .inr (4, [.int 0, .int (nI n), .ref m1, .ref m2, .ref m3, .ref m4, .int 0, .int 0, .int o8, .int o9, .int 0, .int o11, .int 0, .int 0, .ref m5, .int 0, .int 0, .ref m6, .ref m7, .ref m8, .ref m9])), (m1, .inl (cB, 2560, .inl f))]) 0 0 := by
  refine Met.ofW (cc := cX3_sumOf) (maxL := 4) (ret := (some .int)) (by decide) rfl ?_
  intro p e s m args below meth c s₁ B hml hv
  obtain ⟨rfl, hsz, hP, hK, hD0, hN⟩ := hv
  have hx := B.exec
  have hb := B.bytes
  have hr := B.returns
  have hts := atoms_spec (ws := wsX3_sumOf) B.pre
  have hown : s.vm.findClass RX3 = some m.cls := findClass_of_methodNamed B.named
  have hlocks := B.notSynchronized
  have hiX3 : ∀ w ∈ u_ws RX3 TX3 21, w ∈ wsX3_sumOf := by decide +kernel
  subst hsz
  have hD := hD0.self (sz := s.heap.size)
  generalize hAe : va_A [(h0, .inr (4, [.int 0, .int (nI n), .ref m1, .ref m2, .ref m3, .ref m4, .int 0, .int 0, .int o8, .int o9, .int 0, .int o11, .int 0, .int 0, .ref m5, .int 0, .int 0, .ref m6, .ref m7, .ref m8, .ref m9])), (m1, .inl (cB, 2560, .inl f))] s.heap.size = A at hD ⊢
  have hA : ∀ q : Nat, s.heap.size ≤ q → A q := fun q h => by rw [← hAe]; exact Or.inr h
  have hS : va_S A s.heap s.heap [] := va_S.rf
  have hP : va_P (dC, dI) vwCl [(h0, .inr (4, [.int 0, .int (nI n), .ref m1, .ref m2, .ref m3, .ref m4, .int 0, .int 0, .int o8, .int o9, .int 0, .int o11, .int 0, .int 0, .ref m5, .int 0, .int 0, .ref m6, .ref m7, .ref m8, .ref m9])), (m1, .inl (cB, 2560, .inl f))] s.heap := hP
  have hl := lv_entry ([.ref h0, .int (nI a)]) (n := 4) (Nat.le_of_ble_eq_true rfl)
  rw [lg_entry_eq]
  generalize (lg_sl ([.ref h0, .int (nI a)]) ++ List.replicate (4 - (lg_sl ([.ref h0, .int (nI a)])).length) Slot.unset).toArray = ls at hl ⊢
  have hl : lv_has ls 4 [(0, .ref h0), (1, .int (nI a))] := hl
  refine lv_iconst (v := 0) hx hb dX3_sumOf_0 (by decide) ?_
  refine lv_istore_n (lv' := [(2, .int 0), (0, .ref h0), (1, .int (nI a))]) hx hb dX3_sumOf_1 rfl hl (by decide) rfl (fun ls hl => ?_)
  refine lv_iconst (v := 0) hx hb dX3_sumOf_2 (by decide) ?_
  refine lv_istore_n (lv' := [(3, .int 0), (2, .int 0), (0, .ref h0), (1, .int (nI a))]) hx hb dX3_sumOf_3 rfl hl (by decide) rfl (fun ls hl => ?_)
  refine mq_loop 4 4 (σ := Nat × Int32) (I := fun q => q.1 ≤ 60) (μ := fun q => 60 - q.1) (wsf := fun q => [(h0, .inr (4, [.int 0, .int (nI n), .ref m1, .ref m2, .ref m3, .ref m4, .int 0, .int 0, .int o8, .int o9, .int 0, .int o11, .int 0, .int 0, .ref m5, .int 0, .int 0, .ref m6, .ref m7, .ref m8, .ref m9])), (m1, .inl (cB, 2560, .inl f))]) (lvf := fun q => [(0, .ref h0), (1, .int (nI a)), (2, .int q.2), (3, .int (nI q.1))]) (fun q_4 hI_4 ih_4 H locs ls hP hD hS hl => ?_) (0, 0) (by decide) (hP.sub [0, 1] rfl) (hD.sub [0, 1] (by decide) rfl) hS (lv_sub hl [2, 3, 1, 0] rfl)
  obtain ⟨i, z⟩ := q_4
  have hI : i ≤ 60 := hI_4
  have hP : va_P (dC, dI) vwCl [(h0, .inr (4, [.int 0, .int (nI n), .ref m1, .ref m2, .ref m3, .ref m4, .int 0, .int 0, .int o8, .int o9, .int 0, .int o11, .int 0, .int 0, .ref m5, .int 0, .int 0, .ref m6, .ref m7, .ref m8, .ref m9])), (m1, .inl (cB, 2560, .inl f))] H := hP
  have hD : va_D A [(h0, .inr (4, [.int 0, .int (nI n), .ref m1, .ref m2, .ref m3, .ref m4, .int 0, .int 0, .int o8, .int o9, .int 0, .int o11, .int 0, .int 0, .ref m5, .int 0, .int 0, .ref m6, .ref m7, .ref m8, .ref m9])), (m1, .inl (cB, 2560, .inl f))] := hD
  have hl : lv_has ls 4 [(0, .ref h0), (1, .int (nI a)), (2, .int z), (3, .int (nI i))] := hl
  refine lv_iload_n hx hb dX3_sumOf_4 rfl (lv_at hl 3 rfl) ?_
  refine lv_bipush (v := 60) hx hb dX3_sumOf_5 (by decide) ?_
  refine lv_icmp_ge (tgt := 47) hx hb dX3_sumOf_7 (by decide) (fun c_7 => ?_) (fun c_7 => ?_)
  · skip
    refine lv_iload_n hx hb dX3_sumOf_47 rfl (lv_at hl 2 rfl) ?_
    have hP9 := hP.sub (ws' := [(h0, .inr (4, [.int 0, .int (nI n), .ref m1, .ref m2, .ref m3, .ref m4, .int 0, .int 0, .int o8, .int o9, .int 0, .int o11, .int 0, .int 0, .ref m5, .int 0, .int 0, .ref m6, .ref m7, .ref m8, .ref m9])), (m1, .inl (cB, 2560, .inl f))]) [0, 1] rfl
    have hD9 := hD.sub (ws' := [(h0, .inr (4, [.int 0, .int (nI n), .ref m1, .ref m2, .ref m3, .ref m4, .int 0, .int 0, .int o8, .int o9, .int 0, .int o11, .int 0, .int 0, .ref m5, .int 0, .int 0, .ref m6, .ref m7, .ref m8, .ref m9])), (m1, .inl (cB, 2560, .inl f))]) [0, 1] (by decide) rfl
    exact W.iret (v := z) hx hb hr (fun t ht hW => ⟨⟨z, (), rfl, trivial, by rw [ht]; exact hP9, va_K.moved hW.alike hK, by rw [hAe]; exact hD9⟩, hS.F ht⟩) hS.2.2 dX3_sumOf_48
  · skip
    have hlt : i < 60 := k_lt (k := 60) rfl (by omega) (by omega) c_7
    refine lv_iload_n hx hb dX3_sumOf_10 rfl (lv_at hl 2 rfl) ?_
    refine lv_aload_n hx hb dX3_sumOf_11 rfl (lv_at hl 0 rfl) ?_
    refine va_get (D := (dC, dI)) (ci := 4) (v := .ref m1) (C := RX3) (T := TX3) (N := 21) hx hb hts hiX3 hown hK hP 0 rfl rfl 2 (by decide) (hts (.fieldLink RX3 7 "LibraryDiskModel" "disk" "[B") (by decide +kernel)) (fun _ h9 => h9) rfl dX3_sumOf_12 ?_
    refine lv_bipush (v := 64) hx hb dX3_sumOf_15 (by decide) ?_
    refine lv_iload_n hx hb dX3_sumOf_17 rfl (lv_at hl 1 rfl) ?_
    refine lv_imul hx hb dX3_sumOf_18 ?_
    refine lv_iload_n hx hb dX3_sumOf_19 rfl (lv_at hl 3 rfl) ?_
    refine lv_iadd hx hb dX3_sumOf_20 ?_
    refine va_bald hx hb hK hP 1 0 rfl rfl (ix_m ha (by omega)) dX3_sumOf_21 ?_
    refine lv_sipush (v := 255) hx hb dX3_sumOf_22 (by decide) ?_
    refine lv_iand hx hb dX3_sumOf_25 ?_
    refine lv_ixor hx hb dX3_sumOf_26 ?_
    refine lv_topi (fun x_1 ex_1 => ?_)
    refine lv_istore_n (lv' := [(2, .int x_1), (0, .ref h0), (1, .int (nI a)), (3, .int (nI i))]) hx hb dX3_sumOf_27 rfl hl (by decide) rfl (fun ls hl => ?_)
    refine lv_iload_n hx hb dX3_sumOf_28 rfl (lv_at hl 0 rfl) ?_
    refine lv_bipush (v := 13) hx hb dX3_sumOf_29 (by decide) ?_
    refine lv_ishl hx hb dX3_sumOf_31 ?_
    refine lv_iload_n hx hb dX3_sumOf_32 rfl (lv_at hl 0 rfl) ?_
    refine lv_bipush (v := 19) hx hb dX3_sumOf_33 (by decide) ?_
    refine lv_iushr hx hb dX3_sumOf_35 rfl ?_
    refine lv_ior hx hb dX3_sumOf_36 ?_
    refine lv_ldc (v := (-2048144789)) hx hb hown (hts (.constant RX3 46 (-2048144789)) (by decide +kernel)) dX3_sumOf_37 ?_
    refine lv_imul hx hb dX3_sumOf_39 ?_
    refine lv_topi (fun x_2 ex_2 => ?_)
    refine lv_istore_n (lv' := [(2, .int x_2), (0, .ref h0), (1, .int (nI a)), (3, .int (nI i))]) hx hb dX3_sumOf_40 rfl hl (by decide) rfl (fun ls hl => ?_)
    obtain ⟨x_3, ex_3⟩ : ∃ y : Int32, y = (nI i) + 1 := ⟨_, rfl⟩
    refine lv_iinc (v := x_3) (lv' := [(3, .int x_3), (2, .int x_2), (0, .ref h0), (1, .int (nI a))]) hx hb dX3_sumOf_41 hl (k := 3) rfl (by rw [ex_3]; rfl) (by decide) rfl (fun ls hl => ?_)
    refine lv_goto (tgt := 4) hx hb dX3_sumOf_44 (by decide) ?_
    obtain rfl : x_3 = nI (i + 1) := by rw [ex_3]; exact nI_1 i
    exact ih_4 (i + 1, x_2) (show i + 1 ≤ 60 by omega) (show 60 - (i + 1) < 60 - i by omega) _ _ _ (hP.sub [0, 1] rfl) (hD.sub [0, 1] (by decide) rfl) hS (lv_sub hl [2, 3, 1, 0] rfl)
set_option maxHeartbeats 4000000 in
set_option maxRecDepth 100000 in
/-- four, all bytes 0 -/
theorem ct_X3_four_z (l : Launch) (dC : Nat → ClassId) (dI : Nat → Nat → Nat) (cB cI : ClassId) (h0 m1 m2 m3 m4 m5 m6 m7 m8 m9 : Nat) (n : Nat) (hn : 3 ≤ n ∧ n ≤ 40) (f : Nat → Int32) (hz : ∀ j, f j = 0) (k : Nat) (hk : k + 4 ≤ 2560) (sz : Nat) : mq_I l (dC, dI) vwCl [(cB, .byte), (cI, .int)] yX3_four wsX3_four ({ frames := 0, cells := 0, slots := 0, locals := 0 }) [.ref h0, .int (nI k)] [(h0, .inr (4, [.int 0, .int (nI n), .ref m1, .ref m2, .ref m3, .ref m4, .int 0, .int 0, .int 0, .int 0, .int 0, .int 0, .int 0, .int 0, .ref m5, .int 0, .int 0, .ref m6, .ref m7, .ref m8, .ref m9])), (m1, .inl (cB, 2560, .inl f))] sz (fun (r : Int32) (_u : Unit) => r = 0) (fun (_u : Unit) => [(h0, .inr (4, [.int 0, .int (nI n), .ref m1, .ref m2, .ref m3, .ref m4, .int 0, .int 0, .int 0, .int 0, .int 0, .int 0, .int 0, .int 0, .ref m5, .int 0, .int 0, .ref m6, .ref m7, .ref m8, .ref m9])), (m1, .inl (cB, 2560, .inl f))]) 0 0 := by
  refine Met.ofW (cc := cX3_four) (maxL := 4) (ret := (some .int)) (by decide) rfl ?_
  intro p e s m args below meth c s₁ B hml hv
  obtain ⟨rfl, hsz, hP, hK, hD0, hN⟩ := hv
  have hx := B.exec
  have hb := B.bytes
  have hr := B.returns
  have hts := atoms_spec (ws := wsX3_four) B.pre
  have hown : s.vm.findClass RX3 = some m.cls := findClass_of_methodNamed B.named
  have hlocks := B.notSynchronized
  have hiX3 : ∀ w ∈ u_ws RX3 TX3 21, w ∈ wsX3_four := by decide +kernel
  subst hsz
  have hD := hD0.self (sz := s.heap.size)
  generalize hAe : va_A [(h0, .inr (4, [.int 0, .int (nI n), .ref m1, .ref m2, .ref m3, .ref m4, .int 0, .int 0, .int 0, .int 0, .int 0, .int 0, .int 0, .int 0, .ref m5, .int 0, .int 0, .ref m6, .ref m7, .ref m8, .ref m9])), (m1, .inl (cB, 2560, .inl f))] s.heap.size = A at hD ⊢
  have hA : ∀ q : Nat, s.heap.size ≤ q → A q := fun q h => by rw [← hAe]; exact Or.inr h
  have hS : va_S A s.heap s.heap [] := va_S.rf
  have hP : va_P (dC, dI) vwCl [(h0, .inr (4, [.int 0, .int (nI n), .ref m1, .ref m2, .ref m3, .ref m4, .int 0, .int 0, .int 0, .int 0, .int 0, .int 0, .int 0, .int 0, .ref m5, .int 0, .int 0, .ref m6, .ref m7, .ref m8, .ref m9])), (m1, .inl (cB, 2560, .inl f))] s.heap := hP
  have hl := lv_entry ([.ref h0, .int (nI k)]) (n := 4) (Nat.le_of_ble_eq_true rfl)
  rw [lg_entry_eq]
  generalize (lg_sl ([.ref h0, .int (nI k)]) ++ List.replicate (4 - (lg_sl ([.ref h0, .int (nI k)])).length) Slot.unset).toArray = ls at hl ⊢
  have hl : lv_has ls 4 [(0, .ref h0), (1, .int (nI k))] := hl
  refine lv_iconst (v := 0) hx hb dX3_four_0 (by decide) ?_
  refine lv_istore_n (lv' := [(2, .int 0), (0, .ref h0), (1, .int (nI k))]) hx hb dX3_four_1 rfl hl (by decide) rfl (fun ls hl => ?_)
  refine lv_iconst (v := 0) hx hb dX3_four_2 (by decide) ?_
  refine lv_istore_n (lv' := [(3, .int 0), (2, .int 0), (0, .ref h0), (1, .int (nI k))]) hx hb dX3_four_3 rfl hl (by decide) rfl (fun ls hl => ?_)
  refine mq_loop 4 4 (σ := Nat) (I := fun i => i ≤ 4) (μ := fun i => 4 - i) (wsf := fun i => [(h0, .inr (4, [.int 0, .int (nI n), .ref m1, .ref m2, .ref m3, .ref m4, .int 0, .int 0, .int 0, .int 0, .int 0, .int 0, .int 0, .int 0, .ref m5, .int 0, .int 0, .ref m6, .ref m7, .ref m8, .ref m9])), (m1, .inl (cB, 2560, .inl f))]) (lvf := fun i => [(0, .ref h0), (1, .int (nI k)), (2, .int 0), (3, .int (nI i))]) (fun i hI_4 ih_4 H locs ls hP hD hS hl => ?_) 0 (by decide) (hP.sub [0, 1] rfl) (hD.sub [0, 1] (by decide) rfl) hS (lv_sub hl [2, 3, 1, 0] rfl)
  skip
  have hI : i ≤ 4 := hI_4
  have hP : va_P (dC, dI) vwCl [(h0, .inr (4, [.int 0, .int (nI n), .ref m1, .ref m2, .ref m3, .ref m4, .int 0, .int 0, .int 0, .int 0, .int 0, .int 0, .int 0, .int 0, .ref m5, .int 0, .int 0, .ref m6, .ref m7, .ref m8, .ref m9])), (m1, .inl (cB, 2560, .inl f))] H := hP
  have hD : va_D A [(h0, .inr (4, [.int 0, .int (nI n), .ref m1, .ref m2, .ref m3, .ref m4, .int 0, .int 0, .int 0, .int 0, .int 0, .int 0, .int 0, .int 0, .ref m5, .int 0, .int 0, .ref m6, .ref m7, .ref m8, .ref m9])), (m1, .inl (cB, 2560, .inl f))] := hD
  have hl : lv_has ls 4 [(0, .ref h0), (1, .int (nI k)), (2, .int 0), (3, .int (nI i))] := hl
  refine lv_iload_n hx hb dX3_four_4 rfl (lv_at hl 3 rfl) ?_
  refine lv_iconst (v := 4) hx hb dX3_four_5 (by decide) ?_
  refine lv_icmp_ge (tgt := 33) hx hb dX3_four_6 (by decide) (fun c_6 => ?_) (fun c_6 => ?_)
  · skip
    refine lv_iload_n hx hb dX3_four_33 rfl (lv_at hl 2 rfl) ?_
    have hP9 := hP.sub (ws' := [(h0, .inr (4, [.int 0, .int (nI n), .ref m1, .ref m2, .ref m3, .ref m4, .int 0, .int 0, .int 0, .int 0, .int 0, .int 0, .int 0, .int 0, .ref m5, .int 0, .int 0, .ref m6, .ref m7, .ref m8, .ref m9])), (m1, .inl (cB, 2560, .inl f))]) [0, 1] rfl
    have hD9 := hD.sub (ws' := [(h0, .inr (4, [.int 0, .int (nI n), .ref m1, .ref m2, .ref m3, .ref m4, .int 0, .int 0, .int 0, .int 0, .int 0, .int 0, .int 0, .int 0, .ref m5, .int 0, .int 0, .ref m6, .ref m7, .ref m8, .ref m9])), (m1, .inl (cB, 2560, .inl f))]) [0, 1] (by decide) rfl
    exact W.iret (v := 0) hx hb hr (fun t ht hW => ⟨⟨0, (), rfl, rfl, by rw [ht]; exact hP9, va_K.moved hW.alike hK, by rw [hAe]; exact hD9⟩, hS.F ht⟩) hS.2.2 dX3_four_34
  · skip
    have hlt : i < 4 := k_lt (k := 4) rfl (by omega) (by omega) c_6
    refine lv_iload_n hx hb dX3_four_9 rfl (lv_at hl 2 rfl) ?_
    refine lv_bipush (v := 8) hx hb dX3_four_10 (by decide) ?_
    refine lv_ishl hx hb dX3_four_12 ?_
    refine lv_aload_n hx hb dX3_four_13 rfl (lv_at hl 0 rfl) ?_
    refine va_get (D := (dC, dI)) (ci := 4) (v := .ref m1) (C := RX3) (T := TX3) (N := 21) hx hb hts hiX3 hown hK hP 0 rfl rfl 2 (by decide) (hts (.fieldLink RX3 7 "LibraryDiskModel" "disk" "[B") (by decide +kernel)) (fun _ h9 => h9) rfl dX3_four_14 ?_
    refine lv_iload_n hx hb dX3_four_17 rfl (lv_at hl 1 rfl) ?_
    refine lv_iload_n hx hb dX3_four_18 rfl (lv_at hl 3 rfl) ?_
    refine lv_iadd hx hb dX3_four_19 ?_
    refine va_bald hx hb hK hP 1 0 rfl rfl (by rw [nI_add]; exact vp_in_nI (by omega) (by omega)) dX3_four_20 ?_
    refine lv_sipush (v := 255) hx hb dX3_four_21 (by decide) ?_
    refine lv_iand hx hb dX3_four_24 ?_
    refine lv_ior hx hb dX3_four_25 ?_
    refine lv_topi (fun x_1 ex_1 => ?_)
    refine lv_istore_n (lv' := [(2, .int x_1), (0, .ref h0), (1, .int (nI k)), (3, .int (nI i))]) hx hb dX3_four_26 rfl hl (by decide) rfl (fun ls hl => ?_)
    obtain ⟨x_2, ex_2⟩ : ∃ y : Int32, y = (nI i) + 1 := ⟨_, rfl⟩
    refine lv_iinc (v := x_2) (lv' := [(3, .int x_2), (2, .int x_1), (0, .ref h0), (1, .int (nI k))]) hx hb dX3_four_27 hl (k := 3) rfl (by rw [ex_2]; rfl) (by decide) rfl (fun ls hl => ?_)
    refine lv_goto (tgt := 4) hx hb dX3_four_30 (by decide) ?_
    obtain rfl : x_2 = nI (i + 1) := by rw [ex_2]; exact nI_1 i
    obtain rfl : x_1 = 0 := by rw [ex_1, hz]; decide
    exact ih_4 (i + 1) (show i + 1 ≤ 4 by omega) (show 4 - (i + 1) < 4 - i by omega) _ _ _ (hP.sub [0, 1] rfl) (hD.sub [0, 1] (by decide) rfl) hS (lv_sub hl [2, 3, 1, 0] rfl)
set_option maxHeartbeats 4000000 in
set_option maxRecDepth 100000 in
/-- putFour -/
theorem ct_X3_putFour (l : Launch) (dC : Nat → ClassId) (dI : Nat → Nat → Nat) (cB cI : ClassId) (h0 m1 m2 m3 m4 m5 m6 m7 m8 m9 : Nat) (n : Nat) (hn : 3 ≤ n ∧ n ≤ 40) (o8 o9 o11 : Int32) (f : Nat → Int32) (k : Nat) (hk : k + 4 ≤ 2560) (v : Int32) (sz : Nat) : mq_V l (dC, dI) vwCl [(cB, .byte), (cI, .int)] yX3_putFour wsX3_putFour ({ frames := 0, cells := 0, slots := 0, locals := 0 }) [.ref h0, .int (nI k), .int v] [(h0, .inr (4, [.int 0, .int (nI n), .ref m1, .ref m2, .ref m3, .ref m4, .int 0, .int 0, .int o8, .int o9, .int 0, .int o11, .int 0, .int 0, .ref m5, .int 0, .int 0, .ref m6, .ref m7, .ref m8, .ref m9])), (m1, .inl (cB, 2560, .inl f))] sz (fun (g : (Nat → Int32)) => True) (fun (g : (Nat → Int32)) => [(h0, .inr (4, [.int 0, .int (nI n), .ref m1, .ref m2, .ref m3, .ref m4, .int 0, .int 0, .int o8, .int o9, .int 0, .int o11, .int 0, .int 0, .ref m5, .int 0, .int 0, .ref m6, .ref m7, .ref m8, .ref m9])), (m1, .inl (cB, 2560, .inl g))]) 0 0 := by
  refine Met.ofW (cc := cX3_putFour) (maxL := 4) (ret := none) (by decide) rfl ?_
  intro p e s m args below meth c s₁ B hml hv
  obtain ⟨rfl, hsz, hP, hK, hD0, hN⟩ := hv
  have hx := B.exec
  have hb := B.bytes
  have hr := B.returns
  have hts := atoms_spec (ws := wsX3_putFour) B.pre
  have hown : s.vm.findClass RX3 = some m.cls := findClass_of_methodNamed B.named
  have hlocks := B.notSynchronized
  have hiX3 : ∀ w ∈ u_ws RX3 TX3 21, w ∈ wsX3_putFour := by decide +kernel
  subst hsz
  have hD := hD0.self (sz := s.heap.size)
  generalize hAe : va_A [(h0, .inr (4, [.int 0, .int (nI n), .ref m1, .ref m2, .ref m3, .ref m4, .int 0, .int 0, .int o8, .int o9, .int 0, .int o11, .int 0, .int 0, .ref m5, .int 0, .int 0, .ref m6, .ref m7, .ref m8, .ref m9])), (m1, .inl (cB, 2560, .inl f))] s.heap.size = A at hD ⊢
  have hA : ∀ q : Nat, s.heap.size ≤ q → A q := fun q h => by rw [← hAe]; exact Or.inr h
  have hS : va_S A s.heap s.heap [] := va_S.rf
  have hP : va_P (dC, dI) vwCl [(h0, .inr (4, [.int 0, .int (nI n), .ref m1, .ref m2, .ref m3, .ref m4, .int 0, .int 0, .int o8, .int o9, .int 0, .int o11, .int 0, .int 0, .ref m5, .int 0, .int 0, .ref m6, .ref m7, .ref m8, .ref m9])), (m1, .inl (cB, 2560, .inl f))] s.heap := hP
  have hl := lv_entry ([.ref h0, .int (nI k), .int v]) (n := 4) (Nat.le_of_ble_eq_true rfl)
  rw [lg_entry_eq]
  generalize (lg_sl ([.ref h0, .int (nI k), .int v]) ++ List.replicate (4 - (lg_sl ([.ref h0, .int (nI k), .int v])).length) Slot.unset).toArray = ls at hl ⊢
  have hl : lv_has ls 4 [(0, .ref h0), (1, .int (nI k)), (2, .int v)] := hl
  refine lv_iconst (v := 0) hx hb dX3_putFour_0 (by decide) ?_
  refine lv_istore_n (lv' := [(3, .int 0), (0, .ref h0), (1, .int (nI k)), (2, .int v)]) hx hb dX3_putFour_1 rfl hl (by decide) rfl (fun ls hl => ?_)
  refine mq_loop 2 4 (σ := Nat × (Nat → Int32)) (I := fun q => q.1 ≤ 4) (μ := fun q => 4 - q.1) (wsf := fun q => [(h0, .inr (4, [.int 0, .int (nI n), .ref m1, .ref m2, .ref m3, .ref m4, .int 0, .int 0, .int o8, .int o9, .int 0, .int o11, .int 0, .int 0, .ref m5, .int 0, .int 0, .ref m6, .ref m7, .ref m8, .ref m9])), (m1, .inl (cB, 2560, .inl q.2))]) (lvf := fun q => [(0, .ref h0), (1, .int (nI k)), (2, .int v), (3, .int (nI q.1))]) (fun q_2 hI_2 ih_2 H locs ls hP hD hS hl => ?_) (0, f) (Nat.zero_le _) (hP.sub [0, 1] rfl) (hD.sub [0, 1] (by decide) rfl) hS (lv_sub hl [1, 2, 3, 0] rfl)
  obtain ⟨i, g⟩ := q_2
  have hI : i ≤ 4 := hI_2
  have hP : va_P (dC, dI) vwCl [(h0, .inr (4, [.int 0, .int (nI n), .ref m1, .ref m2, .ref m3, .ref m4, .int 0, .int 0, .int o8, .int o9, .int 0, .int o11, .int 0, .int 0, .ref m5, .int 0, .int 0, .ref m6, .ref m7, .ref m8, .ref m9])), (m1, .inl (cB, 2560, .inl g))] H := hP
  have hD : va_D A [(h0, .inr (4, [.int 0, .int (nI n), .ref m1, .ref m2, .ref m3, .ref m4, .int 0, .int 0, .int o8, .int o9, .int 0, .int o11, .int 0, .int 0, .ref m5, .int 0, .int 0, .ref m6, .ref m7, .ref m8, .ref m9])), (m1, .inl (cB, 2560, .inl g))] := hD
  have hl : lv_has ls 4 [(0, .ref h0), (1, .int (nI k)), (2, .int v), (3, .int (nI i))] := hl
  refine lv_iload_n hx hb dX3_putFour_2 rfl (lv_at hl 3 rfl) ?_
  refine lv_iconst (v := 4) hx hb dX3_putFour_3 (by decide) ?_
  refine lv_icmp_ge (tgt := 31) hx hb dX3_putFour_4 (by decide) (fun c_4 => ?_) (fun c_4 => ?_)
  · skip
    have hP9 := hP.sub (ws' := [(h0, .inr (4, [.int 0, .int (nI n), .ref m1, .ref m2, .ref m3, .ref m4, .int 0, .int 0, .int o8, .int o9, .int 0, .int o11, .int 0, .int 0, .ref m5, .int 0, .int 0, .ref m6, .ref m7, .ref m8, .ref m9])), (m1, .inl (cB, 2560, .inl g))]) [0, 1] rfl
    have hD9 := hD.sub (ws' := [(h0, .inr (4, [.int 0, .int (nI n), .ref m1, .ref m2, .ref m3, .ref m4, .int 0, .int 0, .int o8, .int o9, .int 0, .int o11, .int 0, .int 0, .ref m5, .int 0, .int 0, .ref m6, .ref m7, .ref m8, .ref m9])), (m1, .inl (cB, 2560, .inl g))]) [0, 1] (by decide) rfl
    exact W.vret hx hb hr (fun t ht hW => ⟨⟨g, rfl, trivial, by rw [ht]; exact hP9, va_K.moved hW.alike hK, by rw [hAe]; exact hD9⟩, hS.F ht⟩) hS.2.2 dX3_putFour_31
  · skip
    have hlt : i < 4 := k_lt (k := 4) rfl (by omega) (by omega) c_4
    refine lv_aload_n hx hb dX3_putFour_7 rfl (lv_at hl 0 rfl) ?_
    refine va_get (D := (dC, dI)) (ci := 4) (v := .ref m1) (C := RX3) (T := TX3) (N := 21) hx hb hts hiX3 hown hK hP 0 rfl rfl 2 (by decide) (hts (.fieldLink RX3 7 "LibraryDiskModel" "disk" "[B") (by decide +kernel)) (fun _ h9 => h9) rfl dX3_putFour_8 ?_
    refine lv_iload_n hx hb dX3_putFour_11 rfl (lv_at hl 1 rfl) ?_
    refine lv_iload_n hx hb dX3_putFour_12 rfl (lv_at hl 3 rfl) ?_
    refine lv_iadd hx hb dX3_putFour_13 ?_
    refine lv_iload_n hx hb dX3_putFour_14 rfl (lv_at hl 2 rfl) ?_
    refine lv_bipush (v := 24) hx hb dX3_putFour_15 (by decide) ?_
    refine lv_bipush (v := 8) hx hb dX3_putFour_17 (by decide) ?_
    refine lv_iload_n hx hb dX3_putFour_19 rfl (lv_at hl 3 rfl) ?_
    refine lv_imul hx hb dX3_putFour_20 ?_
    refine lv_isub hx hb dX3_putFour_21 ?_
    refine lv_iushr hx hb dX3_putFour_22 rfl ?_
    refine lv_i2b hx hb dX3_putFour_23 rfl ?_
    refine va_bast hx hb hK hP hD hS 1 0 rfl rfl (by rw [nI_add]; exact vp_in_nI (by omega) (by omega)) dX3_putFour_24 (fun H locs hP hD hS => ?_)
    have hP : va_P (dC, dI) vwCl [(h0, .inr (4, [.int 0, .int (nI n), .ref m1, .ref m2, .ref m3, .ref m4, .int 0, .int 0, .int o8, .int o9, .int 0, .int o11, .int 0, .int 0, .ref m5, .int 0, .int 0, .ref m6, .ref m7, .ref m8, .ref m9])), (m1, .inl (cB, 2560, .inl (upd g ((nI k) + (nI i)).toNatClampNeg (vp_nar .byte (((v.toUInt32 >>> (((24 : Int32) - ((8 : Int32) * (nI i)) : Int32).toUInt32 &&& Int32.toUInt32 31)).toInt32).toInt8.toInt32)))))] H := hP
    have hD : va_D A [(h0, .inr (4, [.int 0, .int (nI n), .ref m1, .ref m2, .ref m3, .ref m4, .int 0, .int 0, .int o8, .int o9, .int 0, .int o11, .int 0, .int 0, .ref m5, .int 0, .int 0, .ref m6, .ref m7, .ref m8, .ref m9])), (m1, .inl (cB, 2560, .inl (upd g ((nI k) + (nI i)).toNatClampNeg (vp_nar .byte (((v.toUInt32 >>> (((24 : Int32) - ((8 : Int32) * (nI i)) : Int32).toUInt32 &&& Int32.toUInt32 31)).toInt32).toInt8.toInt32)))))] := hD
    obtain ⟨f_1, ef_1⟩ : ∃ z : Nat → Int32, z = upd g ((nI k) + (nI i)).toNatClampNeg (vp_nar .byte (((v.toUInt32 >>> (((24 : Int32) - ((8 : Int32) * (nI i)) : Int32).toUInt32 &&& Int32.toUInt32 31)).toInt32).toInt8.toInt32)) := ⟨_, rfl⟩
    rw [← ef_1] at hP hD
    obtain ⟨x_2, ex_2⟩ : ∃ y : Int32, y = (nI i) + 1 := ⟨_, rfl⟩
    refine lv_iinc (v := x_2) (lv' := [(3, .int x_2), (0, .ref h0), (1, .int (nI k)), (2, .int v)]) hx hb dX3_putFour_25 hl (k := 3) rfl (by rw [ex_2]; rfl) (by decide) rfl (fun ls hl => ?_)
    refine lv_goto (tgt := 2) hx hb dX3_putFour_28 (by decide) ?_
    obtain rfl : x_2 = nI (i + 1) := by rw [ex_2]; exact nI_1 i
    exact ih_2 (i + 1, f_1) (show i + 1 ≤ 4 by omega) (show 4 - (i + 1) < 4 - i by omega) _ _ _ (hP.sub [0, 1] rfl) (hD.sub [0, 1] (by decide) rfl) hS (lv_sub hl [1, 2, 3, 0] rfl)
set_option maxHeartbeats 4000000 in
set_option maxRecDepth 100000 in
/-- clear -/
theorem ct_X3_clear (l : Launch) (dC : Nat → ClassId) (dI : Nat → Nat → Nat) (cB cI : ClassId) (h0 m1 m2 m3 m4 m5 m6 m7 m8 m9 : Nat) (n : Nat) (hn : 3 ≤ n ∧ n ≤ 40) (o8 o9 o11 : Int32) (f : Nat → Int32) (a : Nat) (ha : a < 40) (sz : Nat) : mq_V l (dC, dI) vwCl [(cB, .byte), (cI, .int)] yX3_clear wsX3_clear ({ frames := 0, cells := 0, slots := 0, locals := 0 }) [.ref h0, .int (nI a)] [(h0, .inr (4, [.int 0, .int (nI n), .ref m1, .ref m2, .ref m3, .ref m4, .int 0, .int 0, .int o8, .int o9, .int 0, .int o11, .int 0, .int 0, .ref m5, .int 0, .int 0, .ref m6, .ref m7, .ref m8, .ref m9])), (m1, .inl (cB, 2560, .inl f))] sz (fun (g : (Nat → Int32)) => True) (fun (g : (Nat → Int32)) => [(h0, .inr (4, [.int 0, .int (nI n), .ref m1, .ref m2, .ref m3, .ref m4, .int 0, .int 0, .int o8, .int o9, .int 0, .int o11, .int 0, .int 0, .ref m5, .int 0, .int 0, .ref m6, .ref m7, .ref m8, .ref m9])), (m1, .inl (cB, 2560, .inl g))]) 0 0 := by
  refine Met.ofW (cc := cX3_clear) (maxL := 3) (ret := none) (by decide) rfl ?_
  intro p e s m args below meth c s₁ B hml hv
  obtain ⟨rfl, hsz, hP, hK, hD0, hN⟩ := hv
  have hx := B.exec
  have hb := B.bytes
  have hr := B.returns
  have hts := atoms_spec (ws := wsX3_clear) B.pre
  have hown : s.vm.findClass RX3 = some m.cls := findClass_of_methodNamed B.named
  have hlocks := B.notSynchronized
  have hiX3 : ∀ w ∈ u_ws RX3 TX3 21, w ∈ wsX3_clear := by decide +kernel
  subst hsz
  have hD := hD0.self (sz := s.heap.size)
  generalize hAe : va_A [(h0, .inr (4, [.int 0, .int (nI n), .ref m1, .ref m2, .ref m3, .ref m4, .int 0, .int 0, .int o8, .int o9, .int 0, .int o11, .int 0, .int 0, .ref m5, .int 0, .int 0, .ref m6, .ref m7, .ref m8, .ref m9])), (m1, .inl (cB, 2560, .inl f))] s.heap.size = A at hD ⊢
  have hA : ∀ q : Nat, s.heap.size ≤ q → A q := fun q h => by rw [← hAe]; exact Or.inr h
  have hS : va_S A s.heap s.heap [] := va_S.rf
  have hP : va_P (dC, dI) vwCl [(h0, .inr (4, [.int 0, .int (nI n), .ref m1, .ref m2, .ref m3, .ref m4, .int 0, .int 0, .int o8, .int o9, .int 0, .int o11, .int 0, .int 0, .ref m5, .int 0, .int 0, .ref m6, .ref m7, .ref m8, .ref m9])), (m1, .inl (cB, 2560, .inl f))] s.heap := hP
  have hl := lv_entry ([.ref h0, .int (nI a)]) (n := 3) (Nat.le_of_ble_eq_true rfl)
  rw [lg_entry_eq]
  generalize (lg_sl ([.ref h0, .int (nI a)]) ++ List.replicate (3 - (lg_sl ([.ref h0, .int (nI a)])).length) Slot.unset).toArray = ls at hl ⊢
  have hl : lv_has ls 3 [(0, .ref h0), (1, .int (nI a))] := hl
  refine lv_iconst (v := 0) hx hb dX3_clear_0 (by decide) ?_
  refine lv_istore_n (lv' := [(2, .int 0), (0, .ref h0), (1, .int (nI a))]) hx hb dX3_clear_1 rfl hl (by decide) rfl (fun ls hl => ?_)
  refine mq_loop 2 3 (σ := Nat × (Nat → Int32)) (I := fun q => q.1 ≤ 64) (μ := fun q => 64 - q.1) (wsf := fun q => [(h0, .inr (4, [.int 0, .int (nI n), .ref m1, .ref m2, .ref m3, .ref m4, .int 0, .int 0, .int o8, .int o9, .int 0, .int o11, .int 0, .int 0, .ref m5, .int 0, .int 0, .ref m6, .ref m7, .ref m8, .ref m9])), (m1, .inl (cB, 2560, .inl q.2))]) (lvf := fun q => [(0, .ref h0), (1, .int (nI a)), (2, .int (nI q.1))]) (fun q_2 hI_2 ih_2 H locs ls hP hD hS hl => ?_) (0, f) (Nat.zero_le _) (hP.sub [0, 1] rfl) (hD.sub [0, 1] (by decide) rfl) hS (lv_sub hl [1, 2, 0] rfl)
  obtain ⟨i, g⟩ := q_2
  have hI : i ≤ 64 := hI_2
  have hP : va_P (dC, dI) vwCl [(h0, .inr (4, [.int 0, .int (nI n), .ref m1, .ref m2, .ref m3, .ref m4, .int 0, .int 0, .int o8, .int o9, .int 0, .int o11, .int 0, .int 0, .ref m5, .int 0, .int 0, .ref m6, .ref m7, .ref m8, .ref m9])), (m1, .inl (cB, 2560, .inl g))] H := hP
  have hD : va_D A [(h0, .inr (4, [.int 0, .int (nI n), .ref m1, .ref m2, .ref m3, .ref m4, .int 0, .int 0, .int o8, .int o9, .int 0, .int o11, .int 0, .int 0, .ref m5, .int 0, .int 0, .ref m6, .ref m7, .ref m8, .ref m9])), (m1, .inl (cB, 2560, .inl g))] := hD
  have hl : lv_has ls 3 [(0, .ref h0), (1, .int (nI a)), (2, .int (nI i))] := hl
  refine lv_iload_n hx hb dX3_clear_2 rfl (lv_at hl 2 rfl) ?_
  refine lv_bipush (v := 64) hx hb dX3_clear_3 (by decide) ?_
  refine lv_icmp_ge (tgt := 26) hx hb dX3_clear_5 (by decide) (fun c_5 => ?_) (fun c_5 => ?_)
  · skip
    have hP9 := hP.sub (ws' := [(h0, .inr (4, [.int 0, .int (nI n), .ref m1, .ref m2, .ref m3, .ref m4, .int 0, .int 0, .int o8, .int o9, .int 0, .int o11, .int 0, .int 0, .ref m5, .int 0, .int 0, .ref m6, .ref m7, .ref m8, .ref m9])), (m1, .inl (cB, 2560, .inl g))]) [0, 1] rfl
    have hD9 := hD.sub (ws' := [(h0, .inr (4, [.int 0, .int (nI n), .ref m1, .ref m2, .ref m3, .ref m4, .int 0, .int 0, .int o8, .int o9, .int 0, .int o11, .int 0, .int 0, .ref m5, .int 0, .int 0, .ref m6, .ref m7, .ref m8, .ref m9])), (m1, .inl (cB, 2560, .inl g))]) [0, 1] (by decide) rfl
    exact W.vret hx hb hr (fun t ht hW => ⟨⟨g, rfl, trivial, by rw [ht]; exact hP9, va_K.moved hW.alike hK, by rw [hAe]; exact hD9⟩, hS.F ht⟩) hS.2.2 dX3_clear_26
  · skip
    have hlt : i < 64 := k_lt (k := 64) rfl (by omega) (by omega) c_5
    refine lv_aload_n hx hb dX3_clear_8 rfl (lv_at hl 0 rfl) ?_
    refine va_get (D := (dC, dI)) (ci := 4) (v := .ref m1) (C := RX3) (T := TX3) (N := 21) hx hb hts hiX3 hown hK hP 0 rfl rfl 2 (by decide) (hts (.fieldLink RX3 7 "LibraryDiskModel" "disk" "[B") (by decide +kernel)) (fun _ h9 => h9) rfl dX3_clear_9 ?_
    refine lv_bipush (v := 64) hx hb dX3_clear_12 (by decide) ?_
    refine lv_iload_n hx hb dX3_clear_14 rfl (lv_at hl 1 rfl) ?_
    refine lv_imul hx hb dX3_clear_15 ?_
    refine lv_iload_n hx hb dX3_clear_16 rfl (lv_at hl 2 rfl) ?_
    refine lv_iadd hx hb dX3_clear_17 ?_
    refine lv_iconst (v := 0) hx hb dX3_clear_18 (by decide) ?_
    refine va_bast hx hb hK hP hD hS 1 0 rfl rfl (ix_m ha (by omega)) dX3_clear_19 (fun H locs hP hD hS => ?_)
    have hP : va_P (dC, dI) vwCl [(h0, .inr (4, [.int 0, .int (nI n), .ref m1, .ref m2, .ref m3, .ref m4, .int 0, .int 0, .int o8, .int o9, .int 0, .int o11, .int 0, .int 0, .ref m5, .int 0, .int 0, .ref m6, .ref m7, .ref m8, .ref m9])), (m1, .inl (cB, 2560, .inl (upd g (((64 : Int32) * (nI a)) + (nI i)).toNatClampNeg (vp_nar .byte 0))))] H := hP
    have hD : va_D A [(h0, .inr (4, [.int 0, .int (nI n), .ref m1, .ref m2, .ref m3, .ref m4, .int 0, .int 0, .int o8, .int o9, .int 0, .int o11, .int 0, .int 0, .ref m5, .int 0, .int 0, .ref m6, .ref m7, .ref m8, .ref m9])), (m1, .inl (cB, 2560, .inl (upd g (((64 : Int32) * (nI a)) + (nI i)).toNatClampNeg (vp_nar .byte 0))))] := hD
    obtain ⟨f_1, ef_1⟩ : ∃ z : Nat → Int32, z = upd g (((64 : Int32) * (nI a)) + (nI i)).toNatClampNeg (vp_nar .byte 0) := ⟨_, rfl⟩
    rw [← ef_1] at hP hD
    obtain ⟨x_2, ex_2⟩ : ∃ y : Int32, y = (nI i) + 1 := ⟨_, rfl⟩
    refine lv_iinc (v := x_2) (lv' := [(2, .int x_2), (0, .ref h0), (1, .int (nI a))]) hx hb dX3_clear_20 hl (k := 2) rfl (by rw [ex_2]; rfl) (by decide) rfl (fun ls hl => ?_)
    refine lv_goto (tgt := 2) hx hb dX3_clear_23 (by decide) ?_
    obtain rfl : x_2 = nI (i + 1) := by rw [ex_2]; exact nI_1 i
    exact ih_2 (i + 1, f_1) (show i + 1 ≤ 64 by omega) (show 64 - (i + 1) < 64 - i by omega) _ _ _ (hP.sub [0, 1] rfl) (hD.sub [0, 1] (by decide) rfl) hS (lv_sub hl [1, 2, 0] rfl)
set_option maxHeartbeats 4000000 in
set_option maxRecDepth 100000 in
/-- seal -/
theorem ct_X3_seal (l : Launch) (dC : Nat → ClassId) (dI : Nat → Nat → Nat) (cB cI : ClassId) (h0 m1 m2 m3 m4 m5 m6 m7 m8 m9 : Nat) (n : Nat) (hn : 3 ≤ n ∧ n ≤ 40) (o8 o9 o11 : Int32) (f : Nat → Int32) (a : Nat) (ha : a < 40) (sz : Nat) : mq_V l (dC, dI) vwCl [(cB, .byte), (cI, .int)] yX3_seal wsX3_seal ({ frames := 1, cells := 0, slots := 0, locals := 23 }) [.ref h0, .int (nI a)] [(h0, .inr (4, [.int 0, .int (nI n), .ref m1, .ref m2, .ref m3, .ref m4, .int 0, .int 0, .int o8, .int o9, .int 0, .int o11, .int 0, .int 0, .ref m5, .int 0, .int 0, .ref m6, .ref m7, .ref m8, .ref m9])), (m1, .inl (cB, 2560, .inl f))] sz (fun (g : (Nat → Int32)) => True) (fun (g : (Nat → Int32)) => [(h0, .inr (4, [.int 0, .int (nI n), .ref m1, .ref m2, .ref m3, .ref m4, .int 0, .int 0, .int o8, .int o9, .int 0, .int o11, .int 0, .int 0, .ref m5, .int 0, .int 0, .ref m6, .ref m7, .ref m8, .ref m9])), (m1, .inl (cB, 2560, .inl g))]) 0 0 := by
  refine Met.ofW (cc := cX3_seal) (maxL := 2) (ret := none) (by decide) rfl ?_
  intro p e s m args below meth c s₁ B hml hv
  obtain ⟨rfl, hsz, hP, hK, hD0, hN⟩ := hv
  have hx := B.exec
  have hb := B.bytes
  have hr := B.returns
  have hts := atoms_spec (ws := wsX3_seal) B.pre
  have hown : s.vm.findClass RX3 = some m.cls := findClass_of_methodNamed B.named
  have hlocks := B.notSynchronized
  subst hsz
  have hD := hD0.self (sz := s.heap.size)
  generalize hAe : va_A [(h0, .inr (4, [.int 0, .int (nI n), .ref m1, .ref m2, .ref m3, .ref m4, .int 0, .int 0, .int o8, .int o9, .int 0, .int o11, .int 0, .int 0, .ref m5, .int 0, .int 0, .ref m6, .ref m7, .ref m8, .ref m9])), (m1, .inl (cB, 2560, .inl f))] s.heap.size = A at hD ⊢
  have hA : ∀ q : Nat, s.heap.size ≤ q → A q := fun q h => by rw [← hAe]; exact Or.inr h
  have hS : va_S A s.heap s.heap [] := va_S.rf
  have hP : va_P (dC, dI) vwCl [(h0, .inr (4, [.int 0, .int (nI n), .ref m1, .ref m2, .ref m3, .ref m4, .int 0, .int 0, .int o8, .int o9, .int 0, .int o11, .int 0, .int 0, .ref m5, .int 0, .int 0, .ref m6, .ref m7, .ref m8, .ref m9])), (m1, .inl (cB, 2560, .inl f))] s.heap := hP
  have hl := lv_entry ([.ref h0, .int (nI a)]) (n := 2) (Nat.le_of_ble_eq_true rfl)
  rw [lg_entry_eq]
  generalize (lg_sl ([.ref h0, .int (nI a)]) ++ List.replicate (2 - (lg_sl ([.ref h0, .int (nI a)])).length) Slot.unset).toArray = ls at hl ⊢
  have hl : lv_has ls 2 [(0, .ref h0), (1, .int (nI a))] := hl
  refine lv_aload_n hx hb dX3_seal_0 rfl (lv_at hl 0 rfl) ?_
  refine lv_bipush (v := 64) hx hb dX3_seal_1 (by decide) ?_
  refine lv_iload_n hx hb dX3_seal_3 rfl (lv_at hl 1 rfl) ?_
  refine lv_imul hx hb dX3_seal_4 ?_
  refine lv_bipush (v := 60) hx hb dX3_seal_5 (by decide) ?_
  refine lv_iadd hx hb dX3_seal_7 ?_
  refine lv_topi (fun x_a ex_a => ?_)
  obtain rfl : x_a = nI (64 * a + 60) := by rw [ex_a]; exact ix_e (i := 60)
  refine lv_aload_n hx hb dX3_seal_8 rfl (lv_at hl 0 rfl) ?_
  refine lv_iload_n hx hb dX3_seal_9 rfl (lv_at hl 1 rfl) ?_
  refine mq_calli (wr := []) (fun (_u : Unit) => [(h0, .inr (4, [.int 0, .int (nI n), .ref m1, .ref m2, .ref m3, .ref m4, .int 0, .int 0, .int o8, .int o9, .int 0, .int o11, .int 0, .int 0, .ref m5, .int 0, .int 0, .ref m6, .ref m7, .ref m8, .ref m9])), (m1, .inl (cB, 2560, .inl f))]) (va_runV (As := [.int (nI a)]) (rest := [.int (nI (64 * a + 60)), .ref h0]) ⟨hx, hb, hml, hown, hts⟩ (ct_X3_sumOf l dC dI cB cI h0 m1 m2 m3 m4 m5 m6 m7 m8 m9 n hn o8 o9 o11 f a ha s.heap.size) (cwV 1 hts gX3_seal_X3_sumOf rfl rfl rfl (by decide +kernel) ⟨Nat.le_of_ble_eq_true rfl, Nat.le_of_ble_eq_true rfl⟩) ⟨mq_blind, va_recv hK hP (ci := 4) (q0 := 0) rfl rfl, mq_pre hK hN hP hD [0, 1] rfl (by decide)⟩ rfl rfl hl.1 rfl (lv_room (Nat.le_of_ble_eq_true rfl)) dX3_seal_10 ⟨Nat.le_of_ble_eq_true rfl, Nat.le_of_ble_eq_true rfl⟩) hP hD hS hA [0, 1] [] [0, 1] rfl rfl (by decide) (by decide) (by decide) (fun _ => rfl) (fun r_1 _ H locs hw_10 hP hD hS => ?_)
  have hP : va_P (dC, dI) vwCl [(h0, .inr (4, [.int 0, .int (nI n), .ref m1, .ref m2, .ref m3, .ref m4, .int 0, .int 0, .int o8, .int o9, .int 0, .int o11, .int 0, .int 0, .ref m5, .int 0, .int 0, .ref m6, .ref m7, .ref m8, .ref m9])), (m1, .inl (cB, 2560, .inl f))] H := hP
  have hD : va_D A [(h0, .inr (4, [.int 0, .int (nI n), .ref m1, .ref m2, .ref m3, .ref m4, .int 0, .int 0, .int o8, .int o9, .int 0, .int o11, .int 0, .int 0, .ref m5, .int 0, .int 0, .ref m6, .ref m7, .ref m8, .ref m9])), (m1, .inl (cB, 2560, .inl f))] := hD
  refine mq_callv (wr := []) (fun (uu_2 : (Nat → Int32)) => [(h0, .inr (4, [.int 0, .int (nI n), .ref m1, .ref m2, .ref m3, .ref m4, .int 0, .int 0, .int o8, .int o9, .int 0, .int o11, .int 0, .int 0, .ref m5, .int 0, .int 0, .ref m6, .ref m7, .ref m8, .ref m9])), (m1, .inl (cB, 2560, .inl uu_2))]) (va_runV (As := [.int (nI (64 * a + 60)), .int r_1]) (rest := []) ⟨hx, hb, hml, hown, hts⟩ (ct_X3_putFour l dC dI cB cI h0 m1 m2 m3 m4 m5 m6 m7 m8 m9 n hn o8 o9 o11 f (64 * a + 60) (by omega) r_1 H.size) (cwV 2 hts gX3_seal_X3_putFour rfl rfl rfl (by decide +kernel) ⟨Nat.le_of_ble_eq_true rfl, Nat.le_of_ble_eq_true rfl⟩) ⟨mq_blind, va_recv hK hP (ci := 4) (q0 := 0) rfl rfl, mq_pre hK hN hP hD [0, 1] rfl (by decide)⟩ rfl rfl hl.1 rfl (lv_room (Nat.le_of_ble_eq_true rfl)) dX3_seal_13 ⟨Nat.le_of_ble_eq_true rfl, Nat.le_of_ble_eq_true rfl⟩) hP hD hS hA [0, 1] [] [0, 1] rfl rfl (by decide) (by decide) (by decide) (fun _ => rfl) (fun u_4 H locs hw_13 hP hD hS => ?_)
  have hP : va_P (dC, dI) vwCl [(h0, .inr (4, [.int 0, .int (nI n), .ref m1, .ref m2, .ref m3, .ref m4, .int 0, .int 0, .int o8, .int o9, .int 0, .int o11, .int 0, .int 0, .ref m5, .int 0, .int 0, .ref m6, .ref m7, .ref m8, .ref m9])), (m1, .inl (cB, 2560, .inl u_4))] H := hP
  have hD : va_D A [(h0, .inr (4, [.int 0, .int (nI n), .ref m1, .ref m2, .ref m3, .ref m4, .int 0, .int 0, .int o8, .int o9, .int 0, .int o11, .int 0, .int 0, .ref m5, .int 0, .int 0, .ref m6, .ref m7, .ref m8, .ref m9])), (m1, .inl (cB, 2560, .inl u_4))] := hD
  have hP9 := hP.sub (ws' := [(h0, .inr (4, [.int 0, .int (nI n), .ref m1, .ref m2, .ref m3, .ref m4, .int 0, .int 0, .int o8, .int o9, .int 0, .int o11, .int 0, .int 0, .ref m5, .int 0, .int 0, .ref m6, .ref m7, .ref m8, .ref m9])), (m1, .inl (cB, 2560, .inl u_4))]) [0, 1] rfl
  have hD9 := hD.sub (ws' := [(h0, .inr (4, [.int 0, .int (nI n), .ref m1, .ref m2, .ref m3, .ref m4, .int 0, .int 0, .int o8, .int o9, .int 0, .int o11, .int 0, .int 0, .ref m5, .int 0, .int 0, .ref m6, .ref m7, .ref m8, .ref m9])), (m1, .inl (cB, 2560, .inl u_4))]) [0, 1] (by decide) rfl
  exact W.vret hx hb hr (fun t ht hW => ⟨⟨u_4, rfl, trivial, by rw [ht]; exact hP9, va_K.moved hW.alike hK, by rw [hAe]; exact hD9⟩, hS.F ht⟩) hS.2.2 dX3_seal_16
set_option maxHeartbeats 4000000 in
set_option maxRecDepth 100000 in
/-- isWhole, all bytes 0 -/
theorem ct_X3_isWhole_z (l : Launch) (dC : Nat → ClassId) (dI : Nat → Nat → Nat) (cB cI : ClassId) (h0 m1 m2 m3 m4 m5 m6 m7 m8 m9 : Nat) (n : Nat) (hn : 3 ≤ n ∧ n ≤ 40) (f : Nat → Int32) (hz : ∀ j, f j = 0) (a : Nat) (ha : a < 40) (sz : Nat) : mq_I l (dC, dI) vwCl [(cB, .byte), (cI, .int)] yX3_isWhole wsX3_isWhole ({ frames := 1, cells := 0, slots := 0, locals := 23 }) [.ref h0, .int (nI a)] [(h0, .inr (4, [.int 0, .int (nI n), .ref m1, .ref m2, .ref m3, .ref m4, .int 0, .int 0, .int 0, .int 0, .int 0, .int 0, .int 0, .int 0, .ref m5, .int 0, .int 0, .ref m6, .ref m7, .ref m8, .ref m9])), (m1, .inl (cB, 2560, .inl f))] sz (fun (r : Int32) (_u : Unit) => r = 1) (fun (_u : Unit) => [(h0, .inr (4, [.int 0, .int (nI n), .ref m1, .ref m2, .ref m3, .ref m4, .int 0, .int 0, .int 0, .int 0, .int 0, .int 0, .int 0, .int 0, .ref m5, .int 0, .int 0, .ref m6, .ref m7, .ref m8, .ref m9])), (m1, .inl (cB, 2560, .inl f))]) 0 0 := by
  refine Met.ofW (cc := cX3_isWhole) (maxL := 2) (ret := (some .boolean)) (by decide) rfl ?_
  intro p e s m args below meth c s₁ B hml hv
  obtain ⟨rfl, hsz, hP, hK, hD0, hN⟩ := hv
  have hx := B.exec
  have hb := B.bytes
  have hr := B.returns
  have hts := atoms_spec (ws := wsX3_isWhole) B.pre
  have hown : s.vm.findClass RX3 = some m.cls := findClass_of_methodNamed B.named
  have hlocks := B.notSynchronized
  subst hsz
  have hD := hD0.self (sz := s.heap.size)
  generalize hAe : va_A [(h0, .inr (4, [.int 0, .int (nI n), .ref m1, .ref m2, .ref m3, .ref m4, .int 0, .int 0, .int 0, .int 0, .int 0, .int 0, .int 0, .int 0, .ref m5, .int 0, .int 0, .ref m6, .ref m7, .ref m8, .ref m9])), (m1, .inl (cB, 2560, .inl f))] s.heap.size = A at hD ⊢
  have hA : ∀ q : Nat, s.heap.size ≤ q → A q := fun q h => by rw [← hAe]; exact Or.inr h
  have hS : va_S A s.heap s.heap [] := va_S.rf
  have hP : va_P (dC, dI) vwCl [(h0, .inr (4, [.int 0, .int (nI n), .ref m1, .ref m2, .ref m3, .ref m4, .int 0, .int 0, .int 0, .int 0, .int 0, .int 0, .int 0, .int 0, .ref m5, .int 0, .int 0, .ref m6, .ref m7, .ref m8, .ref m9])), (m1, .inl (cB, 2560, .inl f))] s.heap := hP
  have hl := lv_entry ([.ref h0, .int (nI a)]) (n := 2) (Nat.le_of_ble_eq_true rfl)
  rw [lg_entry_eq]
  generalize (lg_sl ([.ref h0, .int (nI a)]) ++ List.replicate (2 - (lg_sl ([.ref h0, .int (nI a)])).length) Slot.unset).toArray = ls at hl ⊢
  have hl : lv_has ls 2 [(0, .ref h0), (1, .int (nI a))] := hl
  refine lv_aload_n hx hb dX3_isWhole_0 rfl (lv_at hl 0 rfl) ?_
  refine lv_bipush (v := 64) hx hb dX3_isWhole_1 (by decide) ?_
  refine lv_iload_n hx hb dX3_isWhole_3 rfl (lv_at hl 1 rfl) ?_
  refine lv_imul hx hb dX3_isWhole_4 ?_
  refine lv_bipush (v := 60) hx hb dX3_isWhole_5 (by decide) ?_
  refine lv_iadd hx hb dX3_isWhole_7 ?_
  refine lv_topi (fun x_a ex_a => ?_)
  obtain rfl : x_a = nI (64 * a + 60) := by rw [ex_a]; exact ix_e (i := 60)
  refine mq_calli (wr := []) (fun (_u : Unit) => [(h0, .inr (4, [.int 0, .int (nI n), .ref m1, .ref m2, .ref m3, .ref m4, .int 0, .int 0, .int 0, .int 0, .int 0, .int 0, .int 0, .int 0, .ref m5, .int 0, .int 0, .ref m6, .ref m7, .ref m8, .ref m9])), (m1, .inl (cB, 2560, .inl f))]) (va_runV (As := [.int (nI (64 * a + 60))]) (rest := []) ⟨hx, hb, hml, hown, hts⟩ (ct_X3_four_z l dC dI cB cI h0 m1 m2 m3 m4 m5 m6 m7 m8 m9 n hn f hz (64 * a + 60) (by omega) s.heap.size) (cwV 1 hts gX3_isWhole_X3_four rfl rfl rfl (by decide +kernel) ⟨Nat.le_of_ble_eq_true rfl, Nat.le_of_ble_eq_true rfl⟩) ⟨mq_blind, va_recv hK hP (ci := 4) (q0 := 0) rfl rfl, mq_pre hK hN hP hD [0, 1] rfl (by decide)⟩ rfl rfl hl.1 rfl (lv_room (Nat.le_of_ble_eq_true rfl)) dX3_isWhole_8 ⟨Nat.le_of_ble_eq_true rfl, Nat.le_of_ble_eq_true rfl⟩) hP hD hS hA [0, 1] [] [0, 1] rfl rfl (by decide) (by decide) (by decide) (fun _ => rfl) (fun r_1 _ H locs hw_8 hP hD hS => ?_)
  have hP : va_P (dC, dI) vwCl [(h0, .inr (4, [.int 0, .int (nI n), .ref m1, .ref m2, .ref m3, .ref m4, .int 0, .int 0, .int 0, .int 0, .int 0, .int 0, .int 0, .int 0, .ref m5, .int 0, .int 0, .ref m6, .ref m7, .ref m8, .ref m9])), (m1, .inl (cB, 2560, .inl f))] H := hP
  have hD : va_D A [(h0, .inr (4, [.int 0, .int (nI n), .ref m1, .ref m2, .ref m3, .ref m4, .int 0, .int 0, .int 0, .int 0, .int 0, .int 0, .int 0, .int 0, .ref m5, .int 0, .int 0, .ref m6, .ref m7, .ref m8, .ref m9])), (m1, .inl (cB, 2560, .inl f))] := hD
  refine lv_aload_n hx hb dX3_isWhole_11 rfl (lv_at hl 0 rfl) ?_
  refine lv_iload_n hx hb dX3_isWhole_12 rfl (lv_at hl 1 rfl) ?_
  refine mq_calli (wr := []) (fun (_u : Unit) => [(h0, .inr (4, [.int 0, .int (nI n), .ref m1, .ref m2, .ref m3, .ref m4, .int 0, .int 0, .int 0, .int 0, .int 0, .int 0, .int 0, .int 0, .ref m5, .int 0, .int 0, .ref m6, .ref m7, .ref m8, .ref m9])), (m1, .inl (cB, 2560, .inl f))]) (va_runV (As := [.int (nI a)]) (rest := [.int r_1]) ⟨hx, hb, hml, hown, hts⟩ (ct_X3_sumOf_z l dC dI cB cI h0 m1 m2 m3 m4 m5 m6 m7 m8 m9 n hn 0 0 0 f hz a ha H.size) (cwV 1 hts gX3_isWhole_X3_sumOf rfl rfl rfl (by decide +kernel) ⟨Nat.le_of_ble_eq_true rfl, Nat.le_of_ble_eq_true rfl⟩) ⟨mq_blind, va_recv hK hP (ci := 4) (q0 := 0) rfl rfl, mq_pre hK hN hP hD [0, 1] rfl (by decide)⟩ rfl rfl hl.1 rfl (lv_room (Nat.le_of_ble_eq_true rfl)) dX3_isWhole_13 ⟨Nat.le_of_ble_eq_true rfl, Nat.le_of_ble_eq_true rfl⟩) hP hD hS hA [0, 1] [] [0, 1] rfl rfl (by decide) (by decide) (by decide) (fun _ => rfl) (fun r_2 _ H locs hw_13 hP hD hS => ?_)
  have hP : va_P (dC, dI) vwCl [(h0, .inr (4, [.int 0, .int (nI n), .ref m1, .ref m2, .ref m3, .ref m4, .int 0, .int 0, .int 0, .int 0, .int 0, .int 0, .int 0, .int 0, .ref m5, .int 0, .int 0, .ref m6, .ref m7, .ref m8, .ref m9])), (m1, .inl (cB, 2560, .inl f))] H := hP
  have hD : va_D A [(h0, .inr (4, [.int 0, .int (nI n), .ref m1, .ref m2, .ref m3, .ref m4, .int 0, .int 0, .int 0, .int 0, .int 0, .int 0, .int 0, .int 0, .ref m5, .int 0, .int 0, .ref m6, .ref m7, .ref m8, .ref m9])), (m1, .inl (cB, 2560, .inl f))] := hD
  refine lv_icmp_ne (tgt := 23) hx hb dX3_isWhole_16 (by decide) (fun c_16 => ?_) (fun c_16 => ?_)
  · exact absurd (hw_8.trans hw_13.symm) c_16
  · skip
    refine lv_iconst (v := 1) hx hb dX3_isWhole_19 (by decide) ?_
    refine lv_goto (tgt := 24) hx hb dX3_isWhole_20 (by decide) ?_
    have hP9 := hP.sub (ws' := [(h0, .inr (4, [.int 0, .int (nI n), .ref m1, .ref m2, .ref m3, .ref m4, .int 0, .int 0, .int 0, .int 0, .int 0, .int 0, .int 0, .int 0, .ref m5, .int 0, .int 0, .ref m6, .ref m7, .ref m8, .ref m9])), (m1, .inl (cB, 2560, .inl f))]) [0, 1] rfl
    have hD9 := hD.sub (ws' := [(h0, .inr (4, [.int 0, .int (nI n), .ref m1, .ref m2, .ref m3, .ref m4, .int 0, .int 0, .int 0, .int 0, .int 0, .int 0, .int 0, .int 0, .ref m5, .int 0, .int 0, .ref m6, .ref m7, .ref m8, .ref m9])), (m1, .inl (cB, 2560, .inl f))]) [0, 1] (by decide) rfl
    exact W.zret (v := 1) hx hb hr (by first | rfl | decide) (fun t ht hW => ⟨⟨1, (), rfl, rfl, by rw [ht]; exact hP9, va_K.moved hW.alike hK, by rw [hAe]; exact hD9⟩, hS.F ht⟩) hS.2.2 dX3_isWhole_24
