set_option maxHeartbeats 4000000 in
set_option maxRecDepth 100000 in
/-- Sectors.numberAt at the sum of a sector, all bytes 0 -/
theorem ct_X1_numberAt_z (l : Launch) (dC : Nat → ClassId) (dI : Nat → Nat → Nat) (cB cI : ClassId) (h0 a0 n : Nat) (hn : n ≤ 40) (f : Nat → Int32) (hz : ∀ j, f j = 0) (a : Nat) (ha : a < n) (sz : Nat) : mq_I l (dC, dI) vwCl [(cB, .byte), (cI, .int)] yX1_numberAt wsX1_numberAt ({ frames := 2, cells := 0, slots := 0, locals := 44 }) [.ref h0, .int (nI a), .int 60] [(h0, .inr (2, [.int (nI n), .ref a0])), (a0, .inl (cB, (n * 64), .inl f))] sz (fun (r : Int32) (_u : Unit) => r = 0) (fun (_u : Unit) => [(h0, .inr (2, [.int (nI n), .ref a0])), (a0, .inl (cB, (n * 64), .inl f))]) 0 0 := by
  refine Met.ofW (cc := cX1_numberAt) (maxL := 5) (ret := (some .int)) (by decide) rfl ?_
  intro p e s m args below meth c s₁ B hml hv
  obtain ⟨rfl, hsz, hP, hK, hD0, hN⟩ := hv
  have hx := B.exec
  have hb := B.bytes
  have hr := B.returns
  have hts := atoms_spec (ws := wsX1_numberAt) B.pre
  have hown : s.vm.findClass RX1 = some m.cls := findClass_of_methodNamed B.named
  have hlocks := B.notSynchronized
  subst hsz
  have hD := hD0.self (sz := s.heap.size)
  generalize hAe : va_A [(h0, .inr (2, [.int (nI n), .ref a0])), (a0, .inl (cB, (n * 64), .inl f))] s.heap.size = A at hD ⊢
  have hA : ∀ q : Nat, s.heap.size ≤ q → A q := fun q h => by rw [← hAe]; exact Or.inr h
  have hS : va_S A s.heap s.heap [] := va_S.rf
  have hP : va_P (dC, dI) vwCl [(h0, .inr (2, [.int (nI n), .ref a0])), (a0, .inl (cB, (n * 64), .inl f))] s.heap := hP
  have hl := lv_entry ([.ref h0, .int (nI a), .int 60]) (n := 5) (Nat.le_of_ble_eq_true rfl)
  rw [lg_entry_eq]
  generalize (lg_sl ([.ref h0, .int (nI a), .int 60]) ++ List.replicate (5 - (lg_sl ([.ref h0, .int (nI a), .int 60])).length) Slot.unset).toArray = ls at hl ⊢
  have hl : lv_has ls 5 [(0, .ref h0), (1, .int (nI a)), (2, .int 60)] := hl
  refine lv_iconst (v := 0) hx hb dX1_numberAt_0 (by decide) ?_
  refine lv_istore_n (lv' := [(3, .int 0), (0, .ref h0), (1, .int (nI a)), (2, .int 60)]) hx hb dX1_numberAt_1 rfl hl (by decide) rfl (fun ls hl => ?_)
  refine lv_iconst (v := 0) hx hb dX1_numberAt_2 (by decide) ?_
  refine lv_istore (lv' := [(4, .int 0), (3, .int 0), (0, .ref h0), (1, .int (nI a)), (2, .int 60)]) hx hb dX1_numberAt_3 hl (by decide) rfl (fun ls hl => ?_)
  refine mq_loop 5 5 (σ := Nat) (I := fun i => i ≤ 4) (μ := fun i => 4 - i) (wsf := fun i => [(h0, .inr (2, [.int (nI n), .ref a0])), (a0, .inl (cB, (n * 64), .inl f))]) (lvf := fun i => [(0, .ref h0), (1, .int (nI a)), (2, .int 60), (3, .int 0), (4, .int (nI i))]) (fun i hI_5 ih_5 H locs ls hP hD hS hl => ?_) 0 (by decide) (hP.sub [0, 1] rfl) (hD.sub [0, 1] (by decide) rfl) hS (lv_sub hl [2, 3, 4, 1, 0] rfl)
  skip
  have hI : i ≤ 4 := hI_5
  have hP : va_P (dC, dI) vwCl [(h0, .inr (2, [.int (nI n), .ref a0])), (a0, .inl (cB, (n * 64), .inl f))] H := hP
  have hD : va_D A [(h0, .inr (2, [.int (nI n), .ref a0])), (a0, .inl (cB, (n * 64), .inl f))] := hD
  have hl : lv_has ls 5 [(0, .ref h0), (1, .int (nI a)), (2, .int 60), (3, .int 0), (4, .int (nI i))] := hl
  refine lv_iload hx hb dX1_numberAt_5 (lv_at hl 4 rfl) ?_
  refine lv_iconst (v := 4) hx hb dX1_numberAt_7 (by decide) ?_
  refine lv_icmp_ge (tgt := 36) hx hb dX1_numberAt_8 (by decide) (fun c_8 => ?_) (fun c_8 => ?_)
  · skip
    refine lv_iload_n hx hb dX1_numberAt_36 rfl (lv_at hl 3 rfl) ?_
    have hP9 := hP.sub (ws' := [(h0, .inr (2, [.int (nI n), .ref a0])), (a0, .inl (cB, (n * 64), .inl f))]) [0, 1] rfl
    have hD9 := hD.sub (ws' := [(h0, .inr (2, [.int (nI n), .ref a0])), (a0, .inl (cB, (n * 64), .inl f))]) [0, 1] (by decide) rfl
    exact W.iret (v := 0) hx hb hr (fun t ht hW => ⟨⟨0, (), rfl, rfl, by rw [ht]; exact hP9, va_K.moved hW.alike hK, by rw [hAe]; exact hD9⟩, hS.F ht⟩) hS.2.2 dX1_numberAt_37
  · skip
    have hlt : i < 4 := k_lt (k := 4) rfl (by omega) (by omega) c_8
    refine lv_iload_n hx hb dX1_numberAt_11 rfl (lv_at hl 3 rfl) ?_
    refine lv_bipush (v := 8) hx hb dX1_numberAt_12 (by decide) ?_
    refine lv_ishl hx hb dX1_numberAt_14 ?_
    refine lv_aload_n hx hb dX1_numberAt_15 rfl (lv_at hl 0 rfl) ?_
    refine lv_iload_n hx hb dX1_numberAt_16 rfl (lv_at hl 1 rfl) ?_
    refine lv_iload_n hx hb dX1_numberAt_17 rfl (lv_at hl 2 rfl) ?_
    refine lv_iload hx hb dX1_numberAt_18 (lv_at hl 4 rfl) ?_
    refine lv_iadd hx hb dX1_numberAt_20 ?_
    refine mq_calli (wr := []) (fun (_u : Unit) => [(h0, .inr (2, [.int (nI n), .ref a0])), (a0, .inl (cB, (n * 64), .inl f))]) (va_runV (As := [.int (nI a), .int ((60 : Int32) + (nI i))]) (rest := [.int ((0 : Int32) <<< ((8 : Int32) &&& 31))]) ⟨hx, hb, hml, hown, hts⟩ (ct_X1_byteAt l dC dI cB cI h0 a0 n hn f (nI a) ((60 : Int32) + (nI i)) H.size) (cwV 2 hts gX1_numberAt_X1_byteAt rfl rfl rfl (by decide +kernel) ⟨Nat.le_of_ble_eq_true rfl, Nat.le_of_ble_eq_true rfl⟩) ⟨mq_blind, va_recv hK hP (ci := 2) (q0 := 0) rfl rfl, mq_pre hK hN hP hD [0, 1] rfl (by decide)⟩ rfl rfl hl.1 rfl (lv_room (Nat.le_of_ble_eq_true rfl)) dX1_numberAt_21 ⟨Nat.le_of_ble_eq_true rfl, Nat.le_of_ble_eq_true rfl⟩) hP hD hS hA [0, 1] [] [0, 1] rfl rfl (by decide) (by decide) (by decide) (fun _ => rfl) (fun r_1 _ H locs hw_21 hP hD hS => ?_)
    have hP : va_P (dC, dI) vwCl [(h0, .inr (2, [.int (nI n), .ref a0])), (a0, .inl (cB, (n * 64), .inl f))] H := hP
    have hD : va_D A [(h0, .inr (2, [.int (nI n), .ref a0])), (a0, .inl (cB, (n * 64), .inl f))] := hD
    refine lv_sipush (v := 255) hx hb dX1_numberAt_24 (by decide) ?_
    refine lv_iand hx hb dX1_numberAt_27 ?_
    refine lv_ior hx hb dX1_numberAt_28 ?_
    refine lv_topi (fun x_2 ex_2 => ?_)
    refine lv_istore_n (lv' := [(3, .int x_2), (0, .ref h0), (1, .int (nI a)), (2, .int 60), (4, .int (nI i))]) hx hb dX1_numberAt_29 rfl hl (by decide) rfl (fun ls hl => ?_)
    obtain ⟨x_3, ex_3⟩ : ∃ y : Int32, y = (nI i) + 1 := ⟨_, rfl⟩
    refine lv_iinc (v := x_3) (lv' := [(4, .int x_3), (3, .int x_2), (0, .ref h0), (1, .int (nI a)), (2, .int 60)]) hx hb dX1_numberAt_30 hl (k := 4) rfl (by rw [ex_3]; rfl) (by decide) rfl (fun ls hl => ?_)
    refine lv_goto (tgt := 5) hx hb dX1_numberAt_33 (by decide) ?_
    obtain rfl : x_3 = nI (i + 1) := by rw [ex_3]; exact nI_1 i
    obtain rfl : x_2 = 0 := by rw [ex_2, z_byte hz (in_Sa (b := 60) rfl ha (by omega)) hw_21]; decide
    exact ih_5 (i + 1) (show i + 1 ≤ 4 by omega) (show 4 - (i + 1) < 4 - i by omega) _ _ _ (hP.sub [0, 1] rfl) (hD.sub [0, 1] (by decide) rfl) hS (lv_sub hl [2, 3, 4, 1, 0] rfl)
set_option maxHeartbeats 4000000 in
set_option maxRecDepth 100000 in
/-- Sectors.sumOf, all bytes 0 -/
theorem ct_X1_sumOf_z (l : Launch) (dC : Nat → ClassId) (dI : Nat → Nat → Nat) (cB cI : ClassId) (h0 a0 n : Nat) (hn : n ≤ 40) (f : Nat → Int32) (hz : ∀ j, f j = 0) (a : Nat) (ha : a < n) (sz : Nat) : mq_I l (dC, dI) vwCl [(cB, .byte), (cI, .int)] yX1_sumOf wsX1_sumOf ({ frames := 1, cells := 0, slots := 0, locals := 22 }) [.ref h0, .int (nI a)] [(h0, .inr (2, [.int (nI n), .ref a0])), (a0, .inl (cB, (n * 64), .inl f))] sz (fun (r : Int32) (_u : Unit) => r = 0) (fun (_u : Unit) => [(h0, .inr (2, [.int (nI n), .ref a0])), (a0, .inl (cB, (n * 64), .inl f))]) 0 0 := by
  refine Met.ofW (cc := cX1_sumOf) (maxL := 6) (ret := (some .int)) (by decide) rfl ?_
  intro p e s m args below meth c s₁ B hml hv
  obtain ⟨rfl, hsz, hP, hK, hD0, hN⟩ := hv
  have hx := B.exec
  have hb := B.bytes
  have hr := B.returns
  have hts := atoms_spec (ws := wsX1_sumOf) B.pre
  have hown : s.vm.findClass RX1 = some m.cls := findClass_of_methodNamed B.named
  have hlocks := B.notSynchronized
  have hiX1 : ∀ w ∈ u_ws RX1 TX1 2, w ∈ wsX1_sumOf := by decide +kernel
  subst hsz
  have hD := hD0.self (sz := s.heap.size)
  generalize hAe : va_A [(h0, .inr (2, [.int (nI n), .ref a0])), (a0, .inl (cB, (n * 64), .inl f))] s.heap.size = A at hD ⊢
  have hA : ∀ q : Nat, s.heap.size ≤ q → A q := fun q h => by rw [← hAe]; exact Or.inr h
  have hS : va_S A s.heap s.heap [] := va_S.rf
  have hP : va_P (dC, dI) vwCl [(h0, .inr (2, [.int (nI n), .ref a0])), (a0, .inl (cB, (n * 64), .inl f))] s.heap := hP
  have hl := lv_entry ([.ref h0, .int (nI a)]) (n := 6) (Nat.le_of_ble_eq_true rfl)
  rw [lg_entry_eq]
  generalize (lg_sl ([.ref h0, .int (nI a)]) ++ List.replicate (6 - (lg_sl ([.ref h0, .int (nI a)])).length) Slot.unset).toArray = ls at hl ⊢
  have hl : lv_has ls 6 [(0, .ref h0), (1, .int (nI a))] := hl
  refine lv_iconst (v := 0) hx hb dX1_sumOf_0 (by decide) ?_
  refine lv_istore_n (lv' := [(2, .int 0), (0, .ref h0), (1, .int (nI a))]) hx hb dX1_sumOf_1 rfl hl (by decide) rfl (fun ls hl => ?_)
  refine lv_aload_n hx hb dX1_sumOf_2 rfl (lv_at hl 1 rfl) ?_
  refine lv_iload_n hx hb dX1_sumOf_3 rfl (lv_at hl 2 rfl) ?_
  refine lv_iconst (v := 0) hx hb dX1_sumOf_4 (by decide) ?_
  refine mq_calli (wr := []) (fun (_u : Unit) => [(h0, .inr (2, [.int (nI n), .ref a0])), (a0, .inl (cB, (n * 64), .inl f))]) (va_runV (As := [.int (nI a), .int 0]) (rest := []) ⟨hx, hb, hml, hown, hts⟩ (ct_X1_holds l dC dI cB cI h0 a0 n hn f (nI a) 0 s.heap.size) (cwV 2 hts gX1_sumOf_X1_holds rfl rfl rfl (by decide +kernel) ⟨Nat.le_of_ble_eq_true rfl, Nat.le_of_ble_eq_true rfl⟩) ⟨mq_blind, va_recv hK hP (ci := 2) (q0 := 0) rfl rfl, mq_pre hK hN hP hD [0, 1] rfl (by decide)⟩ rfl rfl hl.1 rfl (lv_room (Nat.le_of_ble_eq_true rfl)) dX1_sumOf_5 ⟨Nat.le_of_ble_eq_true rfl, Nat.le_of_ble_eq_true rfl⟩) hP hD hS hA [0, 1] [] [0, 1] rfl rfl (by decide) (by decide) (by decide) (fun _ => rfl) (fun r_1 _ H locs hw_5 hP hD hS => ?_)
  have hP : va_P (dC, dI) vwCl [(h0, .inr (2, [.int (nI n), .ref a0])), (a0, .inl (cB, (n * 64), .inl f))] H := hP
  have hD : va_D A [(h0, .inr (2, [.int (nI n), .ref a0])), (a0, .inl (cB, (n * 64), .inl f))] := hD
  refine lv_if_ne (tgt := 13) hx hb dX1_sumOf_8 (by decide) (fun c_8 => ?_) (fun c_8 => ?_)
  · skip
    refine lv_iload_n hx hb dX1_sumOf_13 rfl (lv_at hl 2 rfl) ?_
    refine lv_bipush (v := 64) hx hb dX1_sumOf_14 (by decide) ?_
    refine lv_imul hx hb dX1_sumOf_16 ?_
    refine lv_topi (fun x_2 ex_2 => ?_)
    refine lv_istore_n (lv' := [(3, .int x_2), (2, .int 0), (0, .ref h0), (1, .int (nI a))]) hx hb dX1_sumOf_17 rfl hl (by decide) rfl (fun ls hl => ?_)
    obtain rfl : x_2 = nI (a * 64) := by rw [ex_2, show (64 : Int32) = nI 64 from rfl, pk_mul]
    refine lv_iload_n hx hb dX1_sumOf_18 rfl (lv_at hl 0 rfl) ?_
    refine lv_istore (lv' := [(4, .int (nI (a * 64))), (3, .int (nI (a * 64))), (2, .int 0), (0, .ref h0), (1, .int (nI a))]) hx hb dX1_sumOf_19 hl (by decide) rfl (fun ls hl => ?_)
    refine mq_loop 21 6 (σ := Nat) (I := fun i => i ≤ 60) (μ := fun i => 60 - i) (wsf := fun i => [(h0, .inr (2, [.int (nI n), .ref a0])), (a0, .inl (cB, (n * 64), .inl f))]) (lvf := fun i => [(0, .ref h0), (1, .int (nI a)), (2, .int 0), (3, .int (nI (a * 64))), (4, .int (nI (a * 64 + i)))]) (fun i hI_21 ih_21 H locs ls hP hD hS hl => ?_) 0 (Nat.zero_le 60) (hP.sub [0, 1] rfl) (hD.sub [0, 1] (by decide) rfl) hS (lv_sub hl [3, 4, 2, 1, 0] rfl)
    skip
    have hI : i ≤ 60 := hI_21
    have hP : va_P (dC, dI) vwCl [(h0, .inr (2, [.int (nI n), .ref a0])), (a0, .inl (cB, (n * 64), .inl f))] H := hP
    have hD : va_D A [(h0, .inr (2, [.int (nI n), .ref a0])), (a0, .inl (cB, (n * 64), .inl f))] := hD
    have hl : lv_has ls 6 [(0, .ref h0), (1, .int (nI a)), (2, .int 0), (3, .int (nI (a * 64))), (4, .int (nI (a * 64 + i)))] := hl
    refine lv_iload hx hb dX1_sumOf_21 (lv_at hl 4 rfl) ?_
    refine lv_iload_n hx hb dX1_sumOf_23 rfl (lv_at hl 3 rfl) ?_
    refine lv_bipush (v := 60) hx hb dX1_sumOf_24 (by decide) ?_
    refine lv_iadd hx hb dX1_sumOf_26 ?_
    refine lv_icmp_ge (tgt := 66) hx hb dX1_sumOf_27 (by decide) (fun c_27 => ?_) (fun c_27 => ?_)
    · skip
      refine lv_iload_n hx hb dX1_sumOf_66 rfl (lv_at hl 2 rfl) ?_
      have hP9 := hP.sub (ws' := [(h0, .inr (2, [.int (nI n), .ref a0])), (a0, .inl (cB, (n * 64), .inl f))]) [0, 1] rfl
      have hD9 := hD.sub (ws' := [(h0, .inr (2, [.int (nI n), .ref a0])), (a0, .inl (cB, (n * 64), .inl f))]) [0, 1] (by decide) rfl
      exact W.iret (v := 0) hx hb hr (fun t ht hW => ⟨⟨0, (), rfl, rfl, by rw [ht]; exact hP9, va_K.moved hW.alike hK, by rw [hAe]; exact hD9⟩, hS.F ht⟩) hS.2.2 dX1_sumOf_67
    · skip
      have hlt : i < 60 := Nat.lt_of_add_lt_add_left (k_lt (k := a * 64 + 60) (by rw [show (60 : Int32) = nI 60 from rfl, nI_add]) (by omega) (by omega) c_27)
      refine lv_iload_n hx hb dX1_sumOf_30 rfl (lv_at hl 2 rfl) ?_
      refine lv_aload_n hx hb dX1_sumOf_31 rfl (lv_at hl 0 rfl) ?_
      refine va_get (D := (dC, dI)) (ci := 2) (v := .ref a0) (C := RX1) (T := TX1) (N := 2) hx hb hts hiX1 hown hK hP 0 rfl rfl 1 (by decide) (hts (.fieldLink RX1 24 "LibraryDisk$Sectors" "bytes" "[B") (by decide +kernel)) (fun _ h9 => h9) rfl dX1_sumOf_32 ?_
      refine lv_iload hx hb dX1_sumOf_35 (lv_at hl 4 rfl) ?_
      refine va_bald hx hb hK hP 1 0 rfl rfl (vp_in_nI (by omega) (by omega)) dX1_sumOf_37 ?_
      refine lv_sipush (v := 255) hx hb dX1_sumOf_38 (by decide) ?_
      refine lv_iand hx hb dX1_sumOf_41 ?_
      refine lv_ixor hx hb dX1_sumOf_42 ?_
      refine lv_topi (fun x_3 ex_3 => ?_)
      refine lv_istore (lv' := [(5, .int x_3), (0, .ref h0), (1, .int (nI a)), (2, .int 0), (3, .int (nI (a * 64))), (4, .int (nI (a * 64 + i)))]) hx hb dX1_sumOf_43 hl (by decide) rfl (fun ls hl => ?_)
      obtain rfl : x_3 = 0 := by rw [ex_3, hz]; decide
      refine lv_iload hx hb dX1_sumOf_45 (lv_at hl 0 rfl) ?_
      refine lv_bipush (v := 13) hx hb dX1_sumOf_47 (by decide) ?_
      refine lv_ishl hx hb dX1_sumOf_49 ?_
      refine lv_iload hx hb dX1_sumOf_50 (lv_at hl 0 rfl) ?_
      refine lv_bipush (v := 19) hx hb dX1_sumOf_52 (by decide) ?_
      refine lv_iushr hx hb dX1_sumOf_54 rfl ?_
      refine lv_ior hx hb dX1_sumOf_55 ?_
      refine lv_ldc (v := (-2048144789)) hx hb hown (hts (.constant RX1 44 (-2048144789)) (by decide +kernel)) dX1_sumOf_56 ?_
      refine lv_imul hx hb dX1_sumOf_58 ?_
      refine lv_topi (fun x_4 ex_4 => ?_)
      refine lv_istore_n (lv' := [(2, .int x_4), (5, .int 0), (0, .ref h0), (1, .int (nI a)), (3, .int (nI (a * 64))), (4, .int (nI (a * 64 + i)))]) hx hb dX1_sumOf_59 rfl hl (by decide) rfl (fun ls hl => ?_)
      obtain ⟨x_5, ex_5⟩ : ∃ y : Int32, y = (nI (a * 64 + i)) + 1 := ⟨_, rfl⟩
      refine lv_iinc (v := x_5) (lv' := [(4, .int x_5), (2, .int x_4), (5, .int 0), (0, .ref h0), (1, .int (nI a)), (3, .int (nI (a * 64)))]) hx hb dX1_sumOf_60 hl (k := 5) rfl (by rw [ex_5]; rfl) (by decide) rfl (fun ls hl => ?_)
      refine lv_goto (tgt := 21) hx hb dX1_sumOf_63 (by decide) ?_
      obtain rfl : x_5 = nI (a * 64 + (i + 1)) := by rw [ex_5]; exact nI_1 _
      obtain rfl : x_4 = 0 := by rw [ex_4]; decide
      exact ih_21 (i + 1) (show i + 1 ≤ 60 by omega) (show 60 - (i + 1) < 60 - i by omega) _ _ _ (hP.sub [0, 1] rfl) (hD.sub [0, 1] (by decide) rfl) hS (lv_sub hl [3, 4, 1, 5, 0] rfl)
  · exact hw_5.elim (fun q => absurd (q.1.symm.trans c_8) (by decide)) (fun q => absurd (⟨a, 0, ha, by omega, rfl, rfl⟩ : in_S n (nI a) 0) q.2)
set_option maxHeartbeats 4000000 in
set_option maxRecDepth 100000 in
/-- Sectors.sumOf: it returns -/
theorem ct_X1_sumOf (l : Launch) (dC : Nat → ClassId) (dI : Nat → Nat → Nat) (cB cI : ClassId) (h0 a0 n : Nat) (hn : n ≤ 40) (f : Nat → Int32) (a : Nat) (ha : a < n) (sz : Nat) : mq_I l (dC, dI) vwCl [(cB, .byte), (cI, .int)] yX1_sumOf wsX1_sumOf ({ frames := 1, cells := 0, slots := 0, locals := 22 }) [.ref h0, .int (nI a)] [(h0, .inr (2, [.int (nI n), .ref a0])), (a0, .inl (cB, (n * 64), .inl f))] sz (fun (r : Int32) (_u : Unit) => True) (fun (_u : Unit) => [(h0, .inr (2, [.int (nI n), .ref a0])), (a0, .inl (cB, (n * 64), .inl f))]) 0 0 := by
  refine Met.ofW (cc := cX1_sumOf) (maxL := 6) (ret := (some .int)) (by decide) rfl ?_
  intro p e s m args below meth c s₁ B hml hv
  obtain ⟨rfl, hsz, hP, hK, hD0, hN⟩ := hv
  have hx := B.exec
  have hb := B.bytes
  have hr := B.returns
  have hts := atoms_spec (ws := wsX1_sumOf) B.pre
  have hown : s.vm.findClass RX1 = some m.cls := findClass_of_methodNamed B.named
  have hlocks := B.notSynchronized
  have hiX1 : ∀ w ∈ u_ws RX1 TX1 2, w ∈ wsX1_sumOf := by decide +kernel
  subst hsz
  have hD := hD0.self (sz := s.heap.size)
  generalize hAe : va_A [(h0, .inr (2, [.int (nI n), .ref a0])), (a0, .inl (cB, (n * 64), .inl f))] s.heap.size = A at hD ⊢
  have hA : ∀ q : Nat, s.heap.size ≤ q → A q := fun q h => by rw [← hAe]; exact Or.inr h
  have hS : va_S A s.heap s.heap [] := va_S.rf
  have hP : va_P (dC, dI) vwCl [(h0, .inr (2, [.int (nI n), .ref a0])), (a0, .inl (cB, (n * 64), .inl f))] s.heap := hP
  have hl := lv_entry ([.ref h0, .int (nI a)]) (n := 6) (Nat.le_of_ble_eq_true rfl)
  rw [lg_entry_eq]
  generalize (lg_sl ([.ref h0, .int (nI a)]) ++ List.replicate (6 - (lg_sl ([.ref h0, .int (nI a)])).length) Slot.unset).toArray = ls at hl ⊢
  have hl : lv_has ls 6 [(0, .ref h0), (1, .int (nI a))] := hl
  refine lv_iconst (v := 0) hx hb dX1_sumOf_0 (by decide) ?_
  refine lv_istore_n (lv' := [(2, .int 0), (0, .ref h0), (1, .int (nI a))]) hx hb dX1_sumOf_1 rfl hl (by decide) rfl (fun ls hl => ?_)
  refine lv_aload_n hx hb dX1_sumOf_2 rfl (lv_at hl 1 rfl) ?_
  refine lv_iload_n hx hb dX1_sumOf_3 rfl (lv_at hl 2 rfl) ?_
  refine lv_iconst (v := 0) hx hb dX1_sumOf_4 (by decide) ?_
  refine mq_calli (wr := []) (fun (_u : Unit) => [(h0, .inr (2, [.int (nI n), .ref a0])), (a0, .inl (cB, (n * 64), .inl f))]) (va_runV (As := [.int (nI a), .int 0]) (rest := []) ⟨hx, hb, hml, hown, hts⟩ (ct_X1_holds l dC dI cB cI h0 a0 n hn f (nI a) 0 s.heap.size) (cwV 2 hts gX1_sumOf_X1_holds rfl rfl rfl (by decide +kernel) ⟨Nat.le_of_ble_eq_true rfl, Nat.le_of_ble_eq_true rfl⟩) ⟨mq_blind, va_recv hK hP (ci := 2) (q0 := 0) rfl rfl, mq_pre hK hN hP hD [0, 1] rfl (by decide)⟩ rfl rfl hl.1 rfl (lv_room (Nat.le_of_ble_eq_true rfl)) dX1_sumOf_5 ⟨Nat.le_of_ble_eq_true rfl, Nat.le_of_ble_eq_true rfl⟩) hP hD hS hA [0, 1] [] [0, 1] rfl rfl (by decide) (by decide) (by decide) (fun _ => rfl) (fun r_1 _ H locs hw_5 hP hD hS => ?_)
  have hP : va_P (dC, dI) vwCl [(h0, .inr (2, [.int (nI n), .ref a0])), (a0, .inl (cB, (n * 64), .inl f))] H := hP
  have hD : va_D A [(h0, .inr (2, [.int (nI n), .ref a0])), (a0, .inl (cB, (n * 64), .inl f))] := hD
  refine lv_if_ne (tgt := 13) hx hb dX1_sumOf_8 (by decide) (fun c_8 => ?_) (fun c_8 => ?_)
  · skip
    refine lv_iload_n hx hb dX1_sumOf_13 rfl (lv_at hl 2 rfl) ?_
    refine lv_bipush (v := 64) hx hb dX1_sumOf_14 (by decide) ?_
    refine lv_imul hx hb dX1_sumOf_16 ?_
    refine lv_topi (fun x_2 ex_2 => ?_)
    refine lv_istore_n (lv' := [(3, .int x_2), (2, .int 0), (0, .ref h0), (1, .int (nI a))]) hx hb dX1_sumOf_17 rfl hl (by decide) rfl (fun ls hl => ?_)
    obtain rfl : x_2 = nI (a * 64) := by rw [ex_2, show (64 : Int32) = nI 64 from rfl, pk_mul]
    refine lv_iload_n hx hb dX1_sumOf_18 rfl (lv_at hl 0 rfl) ?_
    refine lv_istore (lv' := [(4, .int (nI (a * 64))), (3, .int (nI (a * 64))), (2, .int 0), (0, .ref h0), (1, .int (nI a))]) hx hb dX1_sumOf_19 hl (by decide) rfl (fun ls hl => ?_)
    refine mq_loop 21 6 (σ := Nat × Int32) (I := fun q => q.1 ≤ 60) (μ := fun q => 60 - q.1) (wsf := fun q => [(h0, .inr (2, [.int (nI n), .ref a0])), (a0, .inl (cB, (n * 64), .inl f))]) (lvf := fun q => [(0, .ref h0), (1, .int (nI a)), (2, .int q.2), (3, .int (nI (a * 64))), (4, .int (nI (a * 64 + q.1)))]) (fun q_21 hI_21 ih_21 H locs ls hP hD hS hl => ?_) (0, 0) (Nat.zero_le 60) (hP.sub [0, 1] rfl) (hD.sub [0, 1] (by decide) rfl) hS (lv_sub hl [3, 4, 2, 1, 0] rfl)
    obtain ⟨i, z⟩ := q_21
    have hI : i ≤ 60 := hI_21
    have hP : va_P (dC, dI) vwCl [(h0, .inr (2, [.int (nI n), .ref a0])), (a0, .inl (cB, (n * 64), .inl f))] H := hP
    have hD : va_D A [(h0, .inr (2, [.int (nI n), .ref a0])), (a0, .inl (cB, (n * 64), .inl f))] := hD
    have hl : lv_has ls 6 [(0, .ref h0), (1, .int (nI a)), (2, .int z), (3, .int (nI (a * 64))), (4, .int (nI (a * 64 + i)))] := hl
    refine lv_iload hx hb dX1_sumOf_21 (lv_at hl 4 rfl) ?_
    refine lv_iload_n hx hb dX1_sumOf_23 rfl (lv_at hl 3 rfl) ?_
    refine lv_bipush (v := 60) hx hb dX1_sumOf_24 (by decide) ?_
    refine lv_iadd hx hb dX1_sumOf_26 ?_
    refine lv_icmp_ge (tgt := 66) hx hb dX1_sumOf_27 (by decide) (fun c_27 => ?_) (fun c_27 => ?_)
    · skip
      refine lv_iload_n hx hb dX1_sumOf_66 rfl (lv_at hl 2 rfl) ?_
      have hP9 := hP.sub (ws' := [(h0, .inr (2, [.int (nI n), .ref a0])), (a0, .inl (cB, (n * 64), .inl f))]) [0, 1] rfl
      have hD9 := hD.sub (ws' := [(h0, .inr (2, [.int (nI n), .ref a0])), (a0, .inl (cB, (n * 64), .inl f))]) [0, 1] (by decide) rfl
      exact W.iret (v := z) hx hb hr (fun t ht hW => ⟨⟨z, (), rfl, trivial, by rw [ht]; exact hP9, va_K.moved hW.alike hK, by rw [hAe]; exact hD9⟩, hS.F ht⟩) hS.2.2 dX1_sumOf_67
    · skip
      have hlt : i < 60 := Nat.lt_of_add_lt_add_left (k_lt (k := a * 64 + 60) (by rw [show (60 : Int32) = nI 60 from rfl, nI_add]) (by omega) (by omega) c_27)
      refine lv_iload_n hx hb dX1_sumOf_30 rfl (lv_at hl 2 rfl) ?_
      refine lv_aload_n hx hb dX1_sumOf_31 rfl (lv_at hl 0 rfl) ?_
      refine va_get (D := (dC, dI)) (ci := 2) (v := .ref a0) (C := RX1) (T := TX1) (N := 2) hx hb hts hiX1 hown hK hP 0 rfl rfl 1 (by decide) (hts (.fieldLink RX1 24 "LibraryDisk$Sectors" "bytes" "[B") (by decide +kernel)) (fun _ h9 => h9) rfl dX1_sumOf_32 ?_
      refine lv_iload hx hb dX1_sumOf_35 (lv_at hl 4 rfl) ?_
      refine va_bald hx hb hK hP 1 0 rfl rfl (vp_in_nI (by omega) (by omega)) dX1_sumOf_37 ?_
      refine lv_sipush (v := 255) hx hb dX1_sumOf_38 (by decide) ?_
      refine lv_iand hx hb dX1_sumOf_41 ?_
      refine lv_ixor hx hb dX1_sumOf_42 ?_
      refine lv_topi (fun x_3 ex_3 => ?_)
      refine lv_istore (lv' := [(5, .int x_3), (0, .ref h0), (1, .int (nI a)), (2, .int z), (3, .int (nI (a * 64))), (4, .int (nI (a * 64 + i)))]) hx hb dX1_sumOf_43 hl (by decide) rfl (fun ls hl => ?_)
      refine lv_iload hx hb dX1_sumOf_45 (lv_at hl 0 rfl) ?_
      refine lv_bipush (v := 13) hx hb dX1_sumOf_47 (by decide) ?_
      refine lv_ishl hx hb dX1_sumOf_49 ?_
      refine lv_iload hx hb dX1_sumOf_50 (lv_at hl 0 rfl) ?_
      refine lv_bipush (v := 19) hx hb dX1_sumOf_52 (by decide) ?_
      refine lv_iushr hx hb dX1_sumOf_54 rfl ?_
      refine lv_ior hx hb dX1_sumOf_55 ?_
      refine lv_ldc (v := (-2048144789)) hx hb hown (hts (.constant RX1 44 (-2048144789)) (by decide +kernel)) dX1_sumOf_56 ?_
      refine lv_imul hx hb dX1_sumOf_58 ?_
      refine lv_topi (fun x_4 ex_4 => ?_)
      refine lv_istore_n (lv' := [(2, .int x_4), (5, .int x_3), (0, .ref h0), (1, .int (nI a)), (3, .int (nI (a * 64))), (4, .int (nI (a * 64 + i)))]) hx hb dX1_sumOf_59 rfl hl (by decide) rfl (fun ls hl => ?_)
      obtain ⟨x_5, ex_5⟩ : ∃ y : Int32, y = (nI (a * 64 + i)) + 1 := ⟨_, rfl⟩
      refine lv_iinc (v := x_5) (lv' := [(4, .int x_5), (2, .int x_4), (5, .int x_3), (0, .ref h0), (1, .int (nI a)), (3, .int (nI (a * 64)))]) hx hb dX1_sumOf_60 hl (k := 5) rfl (by rw [ex_5]; rfl) (by decide) rfl (fun ls hl => ?_)
      refine lv_goto (tgt := 21) hx hb dX1_sumOf_63 (by decide) ?_
      obtain rfl : x_5 = nI (a * 64 + (i + 1)) := by rw [ex_5]; exact nI_1 _
      exact ih_21 (i + 1, x_4) (show i + 1 ≤ 60 by omega) (show 60 - (i + 1) < 60 - i by omega) _ _ _ (hP.sub [0, 1] rfl) (hD.sub [0, 1] (by decide) rfl) hS (lv_sub hl [3, 4, 1, 5, 0] rfl)
  · exact hw_5.elim (fun q => absurd (q.1.symm.trans c_8) (by decide)) (fun q => absurd (⟨a, 0, ha, by omega, rfl, rfl⟩ : in_S n (nI a) 0) q.2)
