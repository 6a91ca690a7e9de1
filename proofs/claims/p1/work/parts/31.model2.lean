set_option maxHeartbeats 4000000 in
set_option maxRecDepth 100000 in
/-- isRight: it returns -/
theorem ct_X3_isRight (l : Launch) (dC : Nat → ClassId) (dI : Nat → Nat → Nat) (cB cI : ClassId) (h0 m1 m2 m3 m4 m5 m6 m7 m8 m9 : Nat) (n : Nat) (hn : 3 ≤ n ∧ n ≤ 40) (f : Nat → Int32) (hz : ∀ j, f j = 0) (a : Nat) (ha : a < 40) (sz : Nat) : mq_I l (dC, dI) vwCl [(cB, .byte), (cI, .int)] yX3_isRight wsX3_isRight ({ frames := 2, cells := 0, slots := 0, locals := 44 }) [.ref h0, .int (nI a)] [(h0, .inr (4, [.int 0, .int (nI n), .ref m1, .ref m2, .ref m3, .ref m4, .int 0, .int 0, .int 0, .int 0, .int 0, .int 0, .int 0, .int 0, .ref m5, .int 0, .int 0, .ref m6, .ref m7, .ref m8, .ref m9])), (m1, .inl (cB, 2560, .inl f))] sz (fun (r : Int32) (_u : Unit) => True) (fun (_u : Unit) => [(h0, .inr (4, [.int 0, .int (nI n), .ref m1, .ref m2, .ref m3, .ref m4, .int 0, .int 0, .int 0, .int 0, .int 0, .int 0, .int 0, .int 0, .ref m5, .int 0, .int 0, .ref m6, .ref m7, .ref m8, .ref m9])), (m1, .inl (cB, 2560, .inl f))]) 0 0 := by
  refine Met.ofW (cc := cX3_isRight) (maxL := 2) (ret := (some .boolean)) (by decide) rfl ?_
  intro p e s m args below meth c s₁ B hml hv
  obtain ⟨rfl, hsz, hP, hK, hD0, hN⟩ := hv
  have hx := B.exec
  have hb := B.bytes
  have hr := B.returns
  have hts := atoms_spec (ws := wsX3_isRight) B.pre
  have hown : s.vm.findClass RX3 = some m.cls := findClass_of_methodNamed B.named
  have hlocks := B.notSynchronized
  have hiX3 : ∀ w ∈ u_ws RX3 TX3 21, w ∈ wsX3_isRight := by decide +kernel
  subst hsz
  have hD := hD0.self (sz := s.heap.size)
  generalize hAe : va_A [(h0, .inr (4, [.int 0, .int (nI n), .ref m1, .ref m2, .ref m3, .ref m4, .int 0, .int 0, .int 0, .int 0, .int 0, .int 0, .int 0, .int 0, .ref m5, .int 0, .int 0, .ref m6, .ref m7, .ref m8, .ref m9])), (m1, .inl (cB, 2560, .inl f))] s.heap.size = A at hD ⊢
  have hA : ∀ q : Nat, s.heap.size ≤ q → A q := fun q h => by rw [← hAe]; exact Or.inr h
  have hS : va_S A s.heap s.heap [] := va_S.rf
  have hP : va_P (dC, dI) vwCl [(h0, .inr (4, [.int 0, .int (nI n), .ref m1, .ref m2, .ref m3, .ref m4, .int 0, .int 0, .int 0, .int 0, .int 0, .int 0, .int 0, .int 0, .ref m5, .int 0, .int 0, .ref m6, .ref m7, .ref m8, .ref m9])), (m1, .inl (cB, 2560, .inl f))] s.heap := hP
  have hl := lv_entry ([.ref h0, .int (nI a)]) (n := 2) (Nat.le_of_ble_eq_true rfl)
  rw [lg_entry_eq]
  generalize (lg_sl ([.ref h0, .int (nI a)]) ++ List.replicate (2 - (lg_sl ([.ref h0, .int (nI a)])).length) Slot.unset).toArray = ls at hl ⊢
  have hl : lv_has ls 2 [(0, .ref h0), (1, .int (nI a))] := hl
  refine lv_aload_n hx hb dX3_isRight_0 rfl (lv_at hl 0 rfl) ?_
  refine lv_iload_n hx hb dX3_isRight_1 rfl (lv_at hl 1 rfl) ?_
  refine mq_calli (wr := []) (fun (_u : Unit) => [(h0, .inr (4, [.int 0, .int (nI n), .ref m1, .ref m2, .ref m3, .ref m4, .int 0, .int 0, .int 0, .int 0, .int 0, .int 0, .int 0, .int 0, .ref m5, .int 0, .int 0, .ref m6, .ref m7, .ref m8, .ref m9])), (m1, .inl (cB, 2560, .inl f))]) (va_runV (As := [.int (nI a)]) (rest := []) ⟨hx, hb, hml, hown, hts⟩ (ct_X3_isWhole_z l dC dI cB cI h0 m1 m2 m3 m4 m5 m6 m7 m8 m9 n hn f hz a ha s.heap.size) (cwV 1 hts gX3_isRight_X3_isWhole rfl rfl rfl (by decide +kernel) ⟨Nat.le_of_ble_eq_true rfl, Nat.le_of_ble_eq_true rfl⟩) ⟨mq_blind, va_recv hK hP (ci := 4) (q0 := 0) rfl rfl, mq_pre hK hN hP hD [0, 1] rfl (by decide)⟩ rfl rfl hl.1 rfl (lv_room (Nat.le_of_ble_eq_true rfl)) dX3_isRight_2 ⟨Nat.le_of_ble_eq_true rfl, Nat.le_of_ble_eq_true rfl⟩) hP hD hS hA [0, 1] [] [0, 1] rfl rfl (by decide) (by decide) (by decide) (fun _ => rfl) (fun r_1 _ H locs hw_2 hP hD hS => ?_)
  have hP : va_P (dC, dI) vwCl [(h0, .inr (4, [.int 0, .int (nI n), .ref m1, .ref m2, .ref m3, .ref m4, .int 0, .int 0, .int 0, .int 0, .int 0, .int 0, .int 0, .int 0, .ref m5, .int 0, .int 0, .ref m6, .ref m7, .ref m8, .ref m9])), (m1, .inl (cB, 2560, .inl f))] H := hP
  have hD : va_D A [(h0, .inr (4, [.int 0, .int (nI n), .ref m1, .ref m2, .ref m3, .ref m4, .int 0, .int 0, .int 0, .int 0, .int 0, .int 0, .int 0, .int 0, .ref m5, .int 0, .int 0, .ref m6, .ref m7, .ref m8, .ref m9])), (m1, .inl (cB, 2560, .inl f))] := hD
  refine lv_if_eq (tgt := 35) hx hb dX3_isRight_5 (by decide) (fun c_5 => ?_) (fun c_5 => ?_)
  · skip
    refine lv_iconst (v := 0) hx hb dX3_isRight_35 (by decide) ?_
    have hP9 := hP.sub (ws' := [(h0, .inr (4, [.int 0, .int (nI n), .ref m1, .ref m2, .ref m3, .ref m4, .int 0, .int 0, .int 0, .int 0, .int 0, .int 0, .int 0, .int 0, .ref m5, .int 0, .int 0, .ref m6, .ref m7, .ref m8, .ref m9])), (m1, .inl (cB, 2560, .inl f))]) [0, 1] rfl
    have hD9 := hD.sub (ws' := [(h0, .inr (4, [.int 0, .int (nI n), .ref m1, .ref m2, .ref m3, .ref m4, .int 0, .int 0, .int 0, .int 0, .int 0, .int 0, .int 0, .int 0, .ref m5, .int 0, .int 0, .ref m6, .ref m7, .ref m8, .ref m9])), (m1, .inl (cB, 2560, .inl f))]) [0, 1] (by decide) rfl
    exact W.zret (v := 0) hx hb hr (by first | rfl | decide) (fun t ht hW => ⟨⟨0, (), rfl, trivial, by rw [ht]; exact hP9, va_K.moved hW.alike hK, by rw [hAe]; exact hD9⟩, hS.F ht⟩) hS.2.2 dX3_isRight_36
  · skip
    refine lv_aload_n hx hb dX3_isRight_8 rfl (lv_at hl 0 rfl) ?_
    refine lv_bipush (v := 64) hx hb dX3_isRight_9 (by decide) ?_
    refine lv_iload_n hx hb dX3_isRight_11 rfl (lv_at hl 1 rfl) ?_
    refine lv_imul hx hb dX3_isRight_12 ?_
    refine lv_iconst (v := 4) hx hb dX3_isRight_13 (by decide) ?_
    refine lv_iadd hx hb dX3_isRight_14 ?_
    refine lv_topi (fun x_a ex_a => ?_)
    obtain rfl : x_a = nI (64 * a + 4) := by rw [ex_a]; exact ix_e (i := 4)
    refine mq_calli (wr := []) (fun (_u : Unit) => [(h0, .inr (4, [.int 0, .int (nI n), .ref m1, .ref m2, .ref m3, .ref m4, .int 0, .int 0, .int 0, .int 0, .int 0, .int 0, .int 0, .int 0, .ref m5, .int 0, .int 0, .ref m6, .ref m7, .ref m8, .ref m9])), (m1, .inl (cB, 2560, .inl f))]) (va_runV (As := [.int (nI (64 * a + 4))]) (rest := []) ⟨hx, hb, hml, hown, hts⟩ (ct_X3_four_z l dC dI cB cI h0 m1 m2 m3 m4 m5 m6 m7 m8 m9 n hn f hz (64 * a + 4) (by omega) H.size) (cwV 1 hts gX3_isRight_X3_four rfl rfl rfl (by decide +kernel) ⟨Nat.le_of_ble_eq_true rfl, Nat.le_of_ble_eq_true rfl⟩) ⟨mq_blind, va_recv hK hP (ci := 4) (q0 := 0) rfl rfl, mq_pre hK hN hP hD [0, 1] rfl (by decide)⟩ rfl rfl hl.1 rfl (lv_room (Nat.le_of_ble_eq_true rfl)) dX3_isRight_15 ⟨Nat.le_of_ble_eq_true rfl, Nat.le_of_ble_eq_true rfl⟩) hP hD hS hA [0, 1] [] [0, 1] rfl rfl (by decide) (by decide) (by decide) (fun _ => rfl) (fun r_2 _ H locs hw_15 hP hD hS => ?_)
    have hP : va_P (dC, dI) vwCl [(h0, .inr (4, [.int 0, .int (nI n), .ref m1, .ref m2, .ref m3, .ref m4, .int 0, .int 0, .int 0, .int 0, .int 0, .int 0, .int 0, .int 0, .ref m5, .int 0, .int 0, .ref m6, .ref m7, .ref m8, .ref m9])), (m1, .inl (cB, 2560, .inl f))] H := hP
    have hD : va_D A [(h0, .inr (4, [.int 0, .int (nI n), .ref m1, .ref m2, .ref m3, .ref m4, .int 0, .int 0, .int 0, .int 0, .int 0, .int 0, .int 0, .int 0, .ref m5, .int 0, .int 0, .ref m6, .ref m7, .ref m8, .ref m9])), (m1, .inl (cB, 2560, .inl f))] := hD
    refine lv_iconst (v := 0) hx hb dX3_isRight_18 (by decide) ?_
    refine lv_aload_n hx hb dX3_isRight_19 rfl (lv_at hl 0 rfl) ?_
    refine va_get (D := (dC, dI)) (ci := 4) (v := .int (nI n)) (C := RX3) (T := TX3) (N := 21) hx hb hts hiX3 hown hK hP 0 rfl rfl 1 (by decide) (hts (.fieldLink RX3 39 "LibraryDiskModel" "sectors" "I") (by decide +kernel)) (fun _ h9 => h9) rfl dX3_isRight_20 ?_
    refine lv_iconst (v := 2) hx hb dX3_isRight_23 (by decide) ?_
    refine lv_isub hx hb dX3_isRight_24 ?_
    refine mq_calli (wr := [(h0, .inr (4, [.int 0, .int (nI n), .ref m1, .ref m2, .ref m3, .ref m4, .int 0, .int 0, .int 0, .int 0, .int 0, .int 0, .int 0, .int 0, .ref m5, .int 0, .int 0, .ref m6, .ref m7, .ref m8, .ref m9])), (m1, .inl (cB, 2560, .inl f))]) (fun (_u : Unit) => [(h0, .inr (4, [.int 0, .int (nI n), .ref m1, .ref m2, .ref m3, .ref m4, .int 0, .int 0, .int 0, .int 0, .int 0, .int 0, .int 0, .int 0, .ref m5, .int 0, .int 0, .ref m6, .ref m7, .ref m8, .ref m9])), (m1, .inl (cB, 2560, .inl f))]) (va_runS (As := [.int r_2, .int 0, .int ((nI n) - (2 : Int32))]) (rest := []) ⟨hx, hb, hml, hown, hts⟩ (ct_X3_in l dC dI cB cI r_2 0 ((nI n) - (2 : Int32)) H.size) (va_cwS 3 hts gX3_isRight_X3_in rfl rfl rfl (by decide +kernel) ⟨Nat.le_of_ble_eq_true rfl, Nat.le_of_ble_eq_true rfl⟩) ⟨mq_blind, mq_pre hK hN hP hD [] rfl (by decide)⟩ rfl rfl hl.1 rfl (lv_room (Nat.le_of_ble_eq_true rfl)) dX3_isRight_25 ⟨Nat.le_of_ble_eq_true rfl, Nat.le_of_ble_eq_true rfl⟩) hP hD hS hA [] [0, 1] [0, 1] rfl rfl (by decide) (by decide) (by decide) (fun _ => rfl) (fun r_3 _ H locs hw_25 hP hD hS => ?_)
    have hP : va_P (dC, dI) vwCl [(h0, .inr (4, [.int 0, .int (nI n), .ref m1, .ref m2, .ref m3, .ref m4, .int 0, .int 0, .int 0, .int 0, .int 0, .int 0, .int 0, .int 0, .ref m5, .int 0, .int 0, .ref m6, .ref m7, .ref m8, .ref m9])), (m1, .inl (cB, 2560, .inl f))] H := hP
    have hD : va_D A [(h0, .inr (4, [.int 0, .int (nI n), .ref m1, .ref m2, .ref m3, .ref m4, .int 0, .int 0, .int 0, .int 0, .int 0, .int 0, .int 0, .int 0, .ref m5, .int 0, .int 0, .ref m6, .ref m7, .ref m8, .ref m9])), (m1, .inl (cB, 2560, .inl f))] := hD
    refine lv_if_eq (tgt := 35) hx hb dX3_isRight_28 (by decide) (fun c_28 => ?_) (fun c_28 => ?_)
    · skip
      refine lv_iconst (v := 0) hx hb dX3_isRight_35 (by decide) ?_
      have hP9 := hP.sub (ws' := [(h0, .inr (4, [.int 0, .int (nI n), .ref m1, .ref m2, .ref m3, .ref m4, .int 0, .int 0, .int 0, .int 0, .int 0, .int 0, .int 0, .int 0, .ref m5, .int 0, .int 0, .ref m6, .ref m7, .ref m8, .ref m9])), (m1, .inl (cB, 2560, .inl f))]) [0, 1] rfl
      have hD9 := hD.sub (ws' := [(h0, .inr (4, [.int 0, .int (nI n), .ref m1, .ref m2, .ref m3, .ref m4, .int 0, .int 0, .int 0, .int 0, .int 0, .int 0, .int 0, .int 0, .ref m5, .int 0, .int 0, .ref m6, .ref m7, .ref m8, .ref m9])), (m1, .inl (cB, 2560, .inl f))]) [0, 1] (by decide) rfl
      exact W.zret (v := 0) hx hb hr (by first | rfl | decide) (fun t ht hW => ⟨⟨0, (), rfl, trivial, by rw [ht]; exact hP9, va_K.moved hW.alike hK, by rw [hAe]; exact hD9⟩, hS.F ht⟩) hS.2.2 dX3_isRight_36
    · skip
      refine lv_iconst (v := 1) hx hb dX3_isRight_31 (by decide) ?_
      refine lv_goto (tgt := 36) hx hb dX3_isRight_32 (by decide) ?_
      have hP9 := hP.sub (ws' := [(h0, .inr (4, [.int 0, .int (nI n), .ref m1, .ref m2, .ref m3, .ref m4, .int 0, .int 0, .int 0, .int 0, .int 0, .int 0, .int 0, .int 0, .ref m5, .int 0, .int 0, .ref m6, .ref m7, .ref m8, .ref m9])), (m1, .inl (cB, 2560, .inl f))]) [0, 1] rfl
      have hD9 := hD.sub (ws' := [(h0, .inr (4, [.int 0, .int (nI n), .ref m1, .ref m2, .ref m3, .ref m4, .int 0, .int 0, .int 0, .int 0, .int 0, .int 0, .int 0, .int 0, .ref m5, .int 0, .int 0, .ref m6, .ref m7, .ref m8, .ref m9])), (m1, .inl (cB, 2560, .inl f))]) [0, 1] (by decide) rfl
      exact W.zret (v := 1) hx hb hr (by first | rfl | decide) (fun t ht hW => ⟨⟨1, (), rfl, trivial, by rw [ht]; exact hP9, va_K.moved hW.alike hK, by rw [hAe]; exact hD9⟩, hS.F ht⟩) hS.2.2 dX3_isRight_36
set_option maxHeartbeats 4000000 in
set_option maxRecDepth 100000 in
/-- thrown, fresh -/
theorem ct_X3_thrown (l : Launch) (dC : Nat → ClassId) (dI : Nat → Nat → Nat) (cB cI : ClassId) (h0 m1 m2 m3 m4 m5 m6 m7 m8 m9 : Nat) (n : Nat) (hn : 3 ≤ n ∧ n ≤ 40) (sz : Nat) : mq_I l (dC, dI) vwCl [(cB, .byte), (cI, .int)] yX3_thrown wsX3_thrown ({ frames := 0, cells := 0, slots := 0, locals := 0 }) [.ref h0] [(h0, .inr (4, [.int 0, .int (nI n), .ref m1, .ref m2, .ref m3, .ref m4, .int 0, .int 0, .int 0, .int 0, .int 0, .int 0, .int 0, .int 0, .ref m5, .int 0, .int 0, .ref m6, .ref m7, .ref m8, .ref m9]))] sz (fun (r : Int32) (_u : Unit) => r = 0) (fun (_u : Unit) => []) 0 0 := by
  refine Met.ofW (cc := cX3_thrown) (maxL := 1) (ret := (some .int)) (by decide) rfl ?_
  intro p e s m args below meth c s₁ B hml hv
  obtain ⟨rfl, hsz, hP, hK, hD0, hN⟩ := hv
  have hx := B.exec
  have hb := B.bytes
  have hr := B.returns
  have hts := atoms_spec (ws := wsX3_thrown) B.pre
  have hown : s.vm.findClass RX3 = some m.cls := findClass_of_methodNamed B.named
  have hlocks := B.notSynchronized
  have hiX3 : ∀ w ∈ u_ws RX3 TX3 21, w ∈ wsX3_thrown := by decide +kernel
  subst hsz
  have hD := hD0.self (sz := s.heap.size)
  generalize hAe : va_A [(h0, .inr (4, [.int 0, .int (nI n), .ref m1, .ref m2, .ref m3, .ref m4, .int 0, .int 0, .int 0, .int 0, .int 0, .int 0, .int 0, .int 0, .ref m5, .int 0, .int 0, .ref m6, .ref m7, .ref m8, .ref m9]))] s.heap.size = A at hD ⊢
  have hA : ∀ q : Nat, s.heap.size ≤ q → A q := fun q h => by rw [← hAe]; exact Or.inr h
  have hS : va_S A s.heap s.heap [] := va_S.rf
  have hP : va_P (dC, dI) vwCl [(h0, .inr (4, [.int 0, .int (nI n), .ref m1, .ref m2, .ref m3, .ref m4, .int 0, .int 0, .int 0, .int 0, .int 0, .int 0, .int 0, .int 0, .ref m5, .int 0, .int 0, .ref m6, .ref m7, .ref m8, .ref m9]))] s.heap := hP
  have hl := lv_entry ([.ref h0]) (n := 1) (Nat.le_of_ble_eq_true rfl)
  rw [lg_entry_eq]
  generalize (lg_sl ([.ref h0]) ++ List.replicate (1 - (lg_sl ([.ref h0])).length) Slot.unset).toArray = ls at hl ⊢
  have hl : lv_has ls 1 [(0, .ref h0)] := hl
  refine lv_aload_n hx hb dX3_thrown_0 rfl (lv_at hl 0 rfl) ?_
  refine va_get (D := (dC, dI)) (ci := 4) (v := .int 0) (C := RX3) (T := TX3) (N := 21) hx hb hts hiX3 hown hK hP 0 rfl rfl 0 (by decide) (hts (.fieldLink RX3 43 "LibraryDiskModel" "thrown" "I") (by decide +kernel)) (fun _ h9 => h9) rfl dX3_thrown_1 ?_
  have hP9 := hP.sub (ws' := []) [] rfl
  have hD9 := hD.sub (ws' := []) [] (by decide) rfl
  exact W.iret (v := 0) hx hb hr (fun t ht hW => ⟨⟨0, (), rfl, rfl, by rw [ht]; exact hP9, va_K.moved hW.alike hK, by rw [hAe]; exact hD9⟩, hS.F ht⟩) hS.2.2 dX3_thrown_4
set_option maxHeartbeats 4000000 in
set_option maxRecDepth 100000 in
/-- add, fresh -/
theorem ct_X3_add (l : Launch) (dC : Nat → ClassId) (dI : Nat → Nat → Nat) (cB cI : ClassId) (h0 m1 m2 m3 m4 m5 m6 m7 m8 m9 : Nat) (n : Nat) (hn : 3 ≤ n ∧ n ≤ 40) (f5 : Nat → Int32) (x : Int32) (sz : Nat) : mq_V l (dC, dI) vwCl [(cB, .byte), (cI, .int)] yX3_add wsX3_add ({ frames := 0, cells := 0, slots := 0, locals := 0 }) [.ref h0, .int x] [(h0, .inr (4, [.int 0, .int (nI n), .ref m1, .ref m2, .ref m3, .ref m4, .int 0, .int 0, .int 0, .int 0, .int 0, .int 0, .int 0, .int 0, .ref m5, .int 0, .int 0, .ref m6, .ref m7, .ref m8, .ref m9])), (m5, .inl (cB, 40, .inl f5))] sz (fun (_u : Unit) => True) (fun (_u : Unit) => []) 0 0 := by
  refine Met.ofW (cc := cX3_add) (maxL := 2) (ret := none) (by decide) rfl ?_
  intro p e s m args below meth c s₁ B hml hv
  obtain ⟨rfl, hsz, hP, hK, hD0, hN⟩ := hv
  have hx := B.exec
  have hb := B.bytes
  have hr := B.returns
  have hts := atoms_spec (ws := wsX3_add) B.pre
  have hown : s.vm.findClass RX3 = some m.cls := findClass_of_methodNamed B.named
  have hlocks := B.notSynchronized
  have hiX3 : ∀ w ∈ u_ws RX3 TX3 21, w ∈ wsX3_add := by decide +kernel
  subst hsz
  have hD := hD0.self (sz := s.heap.size)
  generalize hAe : va_A [(h0, .inr (4, [.int 0, .int (nI n), .ref m1, .ref m2, .ref m3, .ref m4, .int 0, .int 0, .int 0, .int 0, .int 0, .int 0, .int 0, .int 0, .ref m5, .int 0, .int 0, .ref m6, .ref m7, .ref m8, .ref m9])), (m5, .inl (cB, 40, .inl f5))] s.heap.size = A at hD ⊢
  have hA : ∀ q : Nat, s.heap.size ≤ q → A q := fun q h => by rw [← hAe]; exact Or.inr h
  have hS : va_S A s.heap s.heap [] := va_S.rf
  have hP : va_P (dC, dI) vwCl [(h0, .inr (4, [.int 0, .int (nI n), .ref m1, .ref m2, .ref m3, .ref m4, .int 0, .int 0, .int 0, .int 0, .int 0, .int 0, .int 0, .int 0, .ref m5, .int 0, .int 0, .ref m6, .ref m7, .ref m8, .ref m9])), (m5, .inl (cB, 40, .inl f5))] s.heap := hP
  have hl := lv_entry ([.ref h0, .int x]) (n := 2) (Nat.le_of_ble_eq_true rfl)
  rw [lg_entry_eq]
  generalize (lg_sl ([.ref h0, .int x]) ++ List.replicate (2 - (lg_sl ([.ref h0, .int x])).length) Slot.unset).toArray = ls at hl ⊢
  have hl : lv_has ls 2 [(0, .ref h0), (1, .int x)] := hl
  refine lv_aload_n hx hb dX3_add_0 rfl (lv_at hl 0 rfl) ?_
  refine lv_iconst (v := 0) hx hb dX3_add_1 (by decide) ?_
  refine va_put (D := (dC, dI)) (ci := 4) (v := .int 0) (ty := .int) (C := RX3) (T := TX3) (N := 21) hx hb hts hiX3 tyX3 tyX3_ok nmX3 hown hK hP hD hS 0 rfl rfl 0 (by decide) (hts (.fieldLink RX3 43 "LibraryDiskModel" "thrown" "I") (by decide +kernel)) (fun _ h9 => h9) rfl (by decide +kernel) rfl rfl (Nat.le_of_ble_eq_true rfl) dX3_add_2 (fun H locs hP hD hS => ?_)
  have hP : va_P (dC, dI) vwCl [(h0, .inr (4, [.int 0, .int (nI n), .ref m1, .ref m2, .ref m3, .ref m4, .int 0, .int 0, .int 0, .int 0, .int 0, .int 0, .int 0, .int 0, .ref m5, .int 0, .int 0, .ref m6, .ref m7, .ref m8, .ref m9])), (m5, .inl (cB, 40, .inl f5))] H := hP
  have hD : va_D A [(h0, .inr (4, [.int 0, .int (nI n), .ref m1, .ref m2, .ref m3, .ref m4, .int 0, .int 0, .int 0, .int 0, .int 0, .int 0, .int 0, .int 0, .ref m5, .int 0, .int 0, .ref m6, .ref m7, .ref m8, .ref m9])), (m5, .inl (cB, 40, .inl f5))] := hD
  refine lv_aload_n hx hb dX3_add_5 rfl (lv_at hl 0 rfl) ?_
  refine va_get (D := (dC, dI)) (ci := 4) (v := .int 0) (C := RX3) (T := TX3) (N := 21) hx hb hts hiX3 hown hK hP 0 rfl rfl 13 (by decide) (hts (.fieldLink RX3 58 "LibraryDiskModel" "collected" "I") (by decide +kernel)) (fun _ h9 => h9) rfl dX3_add_6 ?_
  refine lv_bipush (v := 40) hx hb dX3_add_9 (by decide) ?_
  refine lv_icmp_ne (tgt := 15) hx hb dX3_add_11 (by decide) (fun c_11 => ?_) (fun c_11 => ?_)
  · skip
    refine lv_aload_n hx hb dX3_add_15 rfl (lv_at hl 0 rfl) ?_
    refine va_get (D := (dC, dI)) (ci := 4) (v := .ref m5) (C := RX3) (T := TX3) (N := 21) hx hb hts hiX3 hown hK hP 0 rfl rfl 14 (by decide) (hts (.fieldLink RX3 22 "LibraryDiskModel" "said" "[B") (by decide +kernel)) (fun _ h9 => h9) rfl dX3_add_16 ?_
    refine lv_aload_n hx hb dX3_add_19 rfl (lv_at hl 0 rfl) ?_
    refine va_get (D := (dC, dI)) (ci := 4) (v := .int 0) (C := RX3) (T := TX3) (N := 21) hx hb hts hiX3 hown hK hP 0 rfl rfl 13 (by decide) (hts (.fieldLink RX3 58 "LibraryDiskModel" "collected" "I") (by decide +kernel)) (fun _ h9 => h9) rfl dX3_add_20 ?_
    refine lv_iload_n hx hb dX3_add_23 rfl (lv_at hl 1 rfl) ?_
    refine lv_i2b hx hb dX3_add_24 rfl ?_
    refine va_bast hx hb hK hP hD hS 1 0 rfl rfl (vp_in_nI (n := 0) (by decide) (by decide)) dX3_add_25 (fun H locs hP hD hS => ?_)
    have hP : va_P (dC, dI) vwCl [(h0, .inr (4, [.int 0, .int (nI n), .ref m1, .ref m2, .ref m3, .ref m4, .int 0, .int 0, .int 0, .int 0, .int 0, .int 0, .int 0, .int 0, .ref m5, .int 0, .int 0, .ref m6, .ref m7, .ref m8, .ref m9])), (m5, .inl (cB, 40, .inl (upd f5 (0 : Int32).toNatClampNeg (vp_nar .byte x.toInt8.toInt32))))] H := hP
    have hD : va_D A [(h0, .inr (4, [.int 0, .int (nI n), .ref m1, .ref m2, .ref m3, .ref m4, .int 0, .int 0, .int 0, .int 0, .int 0, .int 0, .int 0, .int 0, .ref m5, .int 0, .int 0, .ref m6, .ref m7, .ref m8, .ref m9])), (m5, .inl (cB, 40, .inl (upd f5 (0 : Int32).toNatClampNeg (vp_nar .byte x.toInt8.toInt32))))] := hD
    obtain ⟨f_1, ef_1⟩ : ∃ z : Nat → Int32, z = upd f5 (0 : Int32).toNatClampNeg (vp_nar .byte x.toInt8.toInt32) := ⟨_, rfl⟩
    rw [← ef_1] at hP hD
    refine lv_aload_n hx hb dX3_add_26 rfl (lv_at hl 0 rfl) ?_
    refine lv_dup hx hb dX3_add_27 rfl ?_
    refine va_get (D := (dC, dI)) (ci := 4) (v := .int 0) (C := RX3) (T := TX3) (N := 21) hx hb hts hiX3 hown hK hP 0 rfl rfl 13 (by decide) (hts (.fieldLink RX3 58 "LibraryDiskModel" "collected" "I") (by decide +kernel)) (fun _ h9 => h9) rfl dX3_add_28 ?_
    refine lv_iconst (v := 1) hx hb dX3_add_31 (by decide) ?_
    refine lv_iadd hx hb dX3_add_32 ?_
    refine lv_topi (fun x_2 ex_2 => ?_)
    refine va_put (D := (dC, dI)) (ci := 4) (v := .int x_2) (ty := .int) (C := RX3) (T := TX3) (N := 21) hx hb hts hiX3 tyX3 tyX3_ok nmX3 hown hK hP hD hS 0 rfl rfl 13 (by decide) (hts (.fieldLink RX3 58 "LibraryDiskModel" "collected" "I") (by decide +kernel)) (fun _ h9 => h9) rfl (by decide +kernel) rfl rfl (Nat.le_of_ble_eq_true rfl) dX3_add_33 (fun H locs hP hD hS => ?_)
    have hP : va_P (dC, dI) vwCl [(h0, .inr (4, [.int 0, .int (nI n), .ref m1, .ref m2, .ref m3, .ref m4, .int 0, .int 0, .int 0, .int 0, .int 0, .int 0, .int 0, .int x_2, .ref m5, .int 0, .int 0, .ref m6, .ref m7, .ref m8, .ref m9])), (m5, .inl (cB, 40, .inl f_1))] H := hP
    have hD : va_D A [(h0, .inr (4, [.int 0, .int (nI n), .ref m1, .ref m2, .ref m3, .ref m4, .int 0, .int 0, .int 0, .int 0, .int 0, .int 0, .int 0, .int x_2, .ref m5, .int 0, .int 0, .ref m6, .ref m7, .ref m8, .ref m9])), (m5, .inl (cB, 40, .inl f_1))] := hD
    have hP9 := hP.sub (ws' := []) [] rfl
    have hD9 := hD.sub (ws' := []) [] (by decide) rfl
    exact W.vret hx hb hr (fun t ht hW => ⟨⟨(), rfl, trivial, by rw [ht]; exact hP9, va_K.moved hW.alike hK, by rw [hAe]; exact hD9⟩, hS.F ht⟩) hS.2.2 dX3_add_36
  · exact absurd c_11 (by decide)
set_option maxHeartbeats 4000000 in
set_option maxRecDepth 100000 in
/-- wants, no rows -/
theorem ct_X3_wants (l : Launch) (dC : Nat → ClassId) (dI : Nat → Nat → Nat) (cB cI : ClassId) (h0 m1 m2 m3 m4 m5 m6 m7 m8 m9 : Nat) (n : Nat) (hn : 3 ≤ n ∧ n ≤ 40) (sz : Nat) : mq_I l (dC, dI) vwCl [(cB, .byte), (cI, .int)] yX3_wants wsX3_wants ({ frames := 0, cells := 0, slots := 0, locals := 0 }) [.ref h0, .int 0] [(h0, .inr (4, [.int 0, .int (nI n), .ref m1, .ref m2, .ref m3, .ref m4, .int 0, .int 0, .int 0, .int 0, .int 0, .int 0, .int 0, .int 0, .ref m5, .int 0, .int 0, .ref m6, .ref m7, .ref m8, .ref m9]))] sz (fun (r : Int32) (_u : Unit) => r = 1) (fun (_u : Unit) => [(h0, .inr (4, [.int 0, .int (nI n), .ref m1, .ref m2, .ref m3, .ref m4, .int 0, .int 0, .int 0, .int 0, .int 0, .int 0, .int 0, .int 0, .ref m5, .int 0, .int 0, .ref m6, .ref m7, .ref m8, .ref m9]))]) 0 0 := by
  refine Met.ofW (cc := cX3_wants) (maxL := 6) (ret := (some .int)) (by decide) rfl ?_
  intro p e s m args below meth c s₁ B hml hv
  obtain ⟨rfl, hsz, hP, hK, hD0, hN⟩ := hv
  have hx := B.exec
  have hb := B.bytes
  have hr := B.returns
  have hts := atoms_spec (ws := wsX3_wants) B.pre
  have hown : s.vm.findClass RX3 = some m.cls := findClass_of_methodNamed B.named
  have hlocks := B.notSynchronized
  have hiX3 : ∀ w ∈ u_ws RX3 TX3 21, w ∈ wsX3_wants := by decide +kernel
  subst hsz
  have hD := hD0.self (sz := s.heap.size)
  generalize hAe : va_A [(h0, .inr (4, [.int 0, .int (nI n), .ref m1, .ref m2, .ref m3, .ref m4, .int 0, .int 0, .int 0, .int 0, .int 0, .int 0, .int 0, .int 0, .ref m5, .int 0, .int 0, .ref m6, .ref m7, .ref m8, .ref m9]))] s.heap.size = A at hD ⊢
  have hA : ∀ q : Nat, s.heap.size ≤ q → A q := fun q h => by rw [← hAe]; exact Or.inr h
  have hS : va_S A s.heap s.heap [] := va_S.rf
  have hP : va_P (dC, dI) vwCl [(h0, .inr (4, [.int 0, .int (nI n), .ref m1, .ref m2, .ref m3, .ref m4, .int 0, .int 0, .int 0, .int 0, .int 0, .int 0, .int 0, .int 0, .ref m5, .int 0, .int 0, .ref m6, .ref m7, .ref m8, .ref m9]))] s.heap := hP
  have hl := lv_entry ([.ref h0, .int 0]) (n := 6) (Nat.le_of_ble_eq_true rfl)
  rw [lg_entry_eq]
  generalize (lg_sl ([.ref h0, .int 0]) ++ List.replicate (6 - (lg_sl ([.ref h0, .int 0])).length) Slot.unset).toArray = ls at hl ⊢
  have hl : lv_has ls 6 [(0, .ref h0), (1, .int 0)] := hl
  refine lv_iconst (v := 0) hx hb dX3_wants_0 (by decide) ?_
  refine lv_istore_n (lv' := [(2, .int 0), (0, .ref h0), (1, .int 0)]) hx hb dX3_wants_1 rfl hl (by decide) rfl (fun ls hl => ?_)
  refine lv_iconst (v := 0) hx hb dX3_wants_2 (by decide) ?_
  refine lv_istore_n (lv' := [(3, .int 0), (2, .int 0), (0, .ref h0), (1, .int 0)]) hx hb dX3_wants_3 rfl hl (by decide) rfl (fun ls hl => ?_)
  refine lv_aload_n hx hb dX3_wants_4 rfl (lv_at hl 2 rfl) ?_
  refine va_get (D := (dC, dI)) (ci := 4) (v := .int 0) (C := RX3) (T := TX3) (N := 21) hx hb hts hiX3 hown hK hP 0 rfl rfl 16 (by decide) (hts (.fieldLink RX3 61 "LibraryDiskModel" "laid" "I") (by decide +kernel)) (fun _ h9 => h9) rfl dX3_wants_5 ?_
  refine lv_istore (lv' := [(4, .int 0), (3, .int 0), (2, .int 0), (0, .ref h0), (1, .int 0)]) hx hb dX3_wants_8 hl (by decide) rfl (fun ls hl => ?_)
  refine lv_iload hx hb dX3_wants_10 (lv_at hl 0 rfl) ?_
  refine lv_aload_n hx hb dX3_wants_12 rfl (lv_at hl 3 rfl) ?_
  refine va_get (D := (dC, dI)) (ci := 4) (v := .int 0) (C := RX3) (T := TX3) (N := 21) hx hb hts hiX3 hown hK hP 0 rfl rfl 15 (by decide) (hts (.fieldLink RX3 64 "LibraryDiskModel" "rows" "I") (by decide +kernel)) (fun _ h9 => h9) rfl dX3_wants_13 ?_
  refine lv_icmp_gt (tgt := 79) hx hb dX3_wants_16 (by decide) (fun c_16 => ?_) (fun c_16 => ?_)
  · exact absurd c_16 (by decide)
  · skip
    refine lv_iconst (v := 2) hx hb dX3_wants_19 (by decide) ?_
    refine lv_iload hx hb dX3_wants_20 (lv_at hl 0 rfl) ?_
    refine lv_aload_n hx hb dX3_wants_22 rfl (lv_at hl 3 rfl) ?_
    refine va_get (D := (dC, dI)) (ci := 4) (v := .int 0) (C := RX3) (T := TX3) (N := 21) hx hb hts hiX3 hown hK hP 0 rfl rfl 15 (by decide) (hts (.fieldLink RX3 64 "LibraryDiskModel" "rows" "I") (by decide +kernel)) (fun _ h9 => h9) rfl dX3_wants_23 ?_
    refine lv_icmp_ne (tgt := 33) hx hb dX3_wants_26 (by decide) (fun c_26 => ?_) (fun c_26 => ?_)
    · exact absurd (by decide) c_26
    · skip
      refine lv_iload_n hx hb dX3_wants_29 rfl (lv_at hl 4 rfl) ?_
      refine lv_goto (tgt := 40) hx hb dX3_wants_30 (by decide) ?_
      refine lv_iadd hx hb dX3_wants_40 ?_
      refine lv_topi (fun x_1 ex_1 => ?_)
      refine lv_istore (lv' := [(5, .int x_1), (4, .int 0), (3, .int 0), (2, .int 0), (0, .ref h0), (1, .int 0)]) hx hb dX3_wants_41 hl (by decide) rfl (fun ls hl => ?_)
      obtain rfl : x_1 = 2 := by rw [ex_1]; decide
      refine lv_iload_n hx hb dX3_wants_43 rfl (lv_at hl 3 rfl) ?_
      refine lv_iload hx hb dX3_wants_44 (lv_at hl 0 rfl) ?_
      refine lv_iload_n hx hb dX3_wants_46 rfl (lv_at hl 2 rfl) ?_
      refine lv_icmp_le (tgt := 54) hx hb dX3_wants_47 (by decide) (fun c_47 => ?_) (fun c_47 => ?_)
      · exact absurd c_47 (by decide)
      · skip
        refine lv_iconst (v := 1) hx hb dX3_wants_50 (by decide) ?_
        refine lv_goto (tgt := 55) hx hb dX3_wants_51 (by decide) ?_
        refine lv_iadd hx hb dX3_wants_55 ?_
        refine lv_topi (fun x_2 ex_2 => ?_)
        refine lv_istore_n (lv' := [(2, .int x_2), (5, .int 2), (4, .int 0), (3, .int 0), (0, .ref h0), (1, .int 0)]) hx hb dX3_wants_56 rfl hl (by decide) rfl (fun ls hl => ?_)
        obtain rfl : x_2 = 1 := by rw [ex_2]; decide
        refine lv_iload hx hb dX3_wants_57 (lv_at hl 1 rfl) ?_
        refine lv_iload_n hx hb dX3_wants_59 rfl (lv_at hl 3 rfl) ?_
        refine lv_icmp_le (tgt := 68) hx hb dX3_wants_60 (by decide) (fun c_60 => ?_) (fun c_60 => ?_)
        · exact absurd c_60 (by decide)
        · skip
          refine lv_bipush (v := 55) hx hb dX3_wants_63 (by decide) ?_
          refine lv_goto (tgt := 69) hx hb dX3_wants_65 (by decide) ?_
          refine lv_iload hx hb dX3_wants_69 (lv_at hl 1 rfl) ?_
          refine lv_isub hx hb dX3_wants_71 ?_
          refine lv_topi (fun x_3 ex_3 => ?_)
          refine lv_istore_n (lv' := [(3, .int x_3), (2, .int 1), (5, .int 2), (4, .int 0), (0, .ref h0), (1, .int 0)]) hx hb dX3_wants_72 rfl hl (by decide) rfl (fun ls hl => ?_)
          obtain rfl : x_3 = 53 := by rw [ex_3]; decide
          obtain ⟨x_4, ex_4⟩ : ∃ y : Int32, y = 0 + 1 := ⟨_, rfl⟩
          refine lv_iinc (v := x_4) (lv' := [(4, .int x_4), (3, .int 53), (2, .int 1), (5, .int 2), (0, .ref h0), (1, .int 0)]) hx hb dX3_wants_73 hl (k := 3) rfl (by rw [ex_4]; rfl) (by decide) rfl (fun ls hl => ?_)
          obtain rfl : x_4 = 1 := by rw [ex_4]; decide
          refine lv_goto (tgt := 10) hx hb dX3_wants_76 (by decide) ?_
          refine lv_iload hx hb dX3_wants_10 (lv_at hl 0 rfl) ?_
          refine lv_aload_n hx hb dX3_wants_12 rfl (lv_at hl 4 rfl) ?_
          refine va_get (D := (dC, dI)) (ci := 4) (v := .int 0) (C := RX3) (T := TX3) (N := 21) hx hb hts hiX3 hown hK hP 0 rfl rfl 15 (by decide) (hts (.fieldLink RX3 64 "LibraryDiskModel" "rows" "I") (by decide +kernel)) (fun _ h9 => h9) rfl dX3_wants_13 ?_
          refine lv_icmp_gt (tgt := 79) hx hb dX3_wants_16 (by decide) (fun c_16 => ?_) (fun c_16 => ?_)
          · skip
            refine lv_iload_n hx hb dX3_wants_79 rfl (lv_at hl 2 rfl) ?_
            have hP9 := hP.sub (ws' := [(h0, .inr (4, [.int 0, .int (nI n), .ref m1, .ref m2, .ref m3, .ref m4, .int 0, .int 0, .int 0, .int 0, .int 0, .int 0, .int 0, .int 0, .ref m5, .int 0, .int 0, .ref m6, .ref m7, .ref m8, .ref m9]))]) [0] rfl
            have hD9 := hD.sub (ws' := [(h0, .inr (4, [.int 0, .int (nI n), .ref m1, .ref m2, .ref m3, .ref m4, .int 0, .int 0, .int 0, .int 0, .int 0, .int 0, .int 0, .int 0, .ref m5, .int 0, .int 0, .ref m6, .ref m7, .ref m8, .ref m9]))]) [0] (by decide) rfl
            exact W.iret (v := 1) hx hb hr (fun t ht hW => ⟨⟨1, (), rfl, rfl, by rw [ht]; exact hP9, va_K.moved hW.alike hK, by rw [hAe]; exact hD9⟩, hS.F ht⟩) hS.2.2 dX3_wants_80
          · exact absurd (by decide) c_16
set_option maxHeartbeats 4000000 in
set_option maxRecDepth 100000 in
/-- end, fresh -/
theorem ct_X3_end (l : Launch) (dC : Nat → ClassId) (dI : Nat → Nat → Nat) (cB cI : ClassId) (h0 m1 m2 m3 m4 m5 m6 m7 m8 m9 : Nat) (n : Nat) (hn : 3 ≤ n ∧ n ≤ 40) (f6 f7 f8 : Nat → Int32) (x : Int32) (sz : Nat) : mq_I l (dC, dI) vwCl [(cB, .byte), (cI, .int)] yX3_end wsX3_end ({ frames := 1, cells := 0, slots := 0, locals := 25 }) [.ref h0, .int x] [(h0, .inr (4, [.int 0, .int (nI n), .ref m1, .ref m2, .ref m3, .ref m4, .int 0, .int 0, .int 0, .int 0, .int 0, .int 0, .int 0, .int 0, .ref m5, .int 0, .int 0, .ref m6, .ref m7, .ref m8, .ref m9])), (m6, .inl (cI, 1100, .inl f6)), (m7, .inl (cI, 1100, .inl f7)), (m8, .inl (cI, 1100, .inl f8))] sz (fun (r : Int32) (_u : Unit) => r = e_end x) (fun (_u : Unit) => []) 0 0 := by
  refine Met.ofW (cc := cX3_end) (maxL := 3) (ret := (some .int)) (by decide) rfl ?_
  intro p e s m args below meth c s₁ B hml hv
  obtain ⟨rfl, hsz, hP, hK, hD0, hN⟩ := hv
  have hx := B.exec
  have hb := B.bytes
  have hr := B.returns
  have hts := atoms_spec (ws := wsX3_end) B.pre
  have hown : s.vm.findClass RX3 = some m.cls := findClass_of_methodNamed B.named
  have hlocks := B.notSynchronized
  have hiX3 : ∀ w ∈ u_ws RX3 TX3 21, w ∈ wsX3_end := by decide +kernel
  subst hsz
  have hD := hD0.self (sz := s.heap.size)
  generalize hAe : va_A [(h0, .inr (4, [.int 0, .int (nI n), .ref m1, .ref m2, .ref m3, .ref m4, .int 0, .int 0, .int 0, .int 0, .int 0, .int 0, .int 0, .int 0, .ref m5, .int 0, .int 0, .ref m6, .ref m7, .ref m8, .ref m9])), (m6, .inl (cI, 1100, .inl f6)), (m7, .inl (cI, 1100, .inl f7)), (m8, .inl (cI, 1100, .inl f8))] s.heap.size = A at hD ⊢
  have hA : ∀ q : Nat, s.heap.size ≤ q → A q := fun q h => by rw [← hAe]; exact Or.inr h
  have hS : va_S A s.heap s.heap [] := va_S.rf
  have hP : va_P (dC, dI) vwCl [(h0, .inr (4, [.int 0, .int (nI n), .ref m1, .ref m2, .ref m3, .ref m4, .int 0, .int 0, .int 0, .int 0, .int 0, .int 0, .int 0, .int 0, .ref m5, .int 0, .int 0, .ref m6, .ref m7, .ref m8, .ref m9])), (m6, .inl (cI, 1100, .inl f6)), (m7, .inl (cI, 1100, .inl f7)), (m8, .inl (cI, 1100, .inl f8))] s.heap := hP
  have hl := lv_entry ([.ref h0, .int x]) (n := 3) (Nat.le_of_ble_eq_true rfl)
  rw [lg_entry_eq]
  generalize (lg_sl ([.ref h0, .int x]) ++ List.replicate (3 - (lg_sl ([.ref h0, .int x])).length) Slot.unset).toArray = ls at hl ⊢
  have hl : lv_has ls 3 [(0, .ref h0), (1, .int x)] := hl
  refine lv_aload_n hx hb dX3_end_0 rfl (lv_at hl 0 rfl) ?_
  refine lv_iconst (v := 0) hx hb dX3_end_1 (by decide) ?_
  refine va_put (D := (dC, dI)) (ci := 4) (v := .int 0) (ty := .int) (C := RX3) (T := TX3) (N := 21) hx hb hts hiX3 tyX3 tyX3_ok nmX3 hown hK hP hD hS 0 rfl rfl 0 (by decide) (hts (.fieldLink RX3 43 "LibraryDiskModel" "thrown" "I") (by decide +kernel)) (fun _ h9 => h9) rfl (by decide +kernel) rfl rfl (Nat.le_of_ble_eq_true rfl) dX3_end_2 (fun H locs hP hD hS => ?_)
  have hP : va_P (dC, dI) vwCl [(h0, .inr (4, [.int 0, .int (nI n), .ref m1, .ref m2, .ref m3, .ref m4, .int 0, .int 0, .int 0, .int 0, .int 0, .int 0, .int 0, .int 0, .ref m5, .int 0, .int 0, .ref m6, .ref m7, .ref m8, .ref m9])), (m6, .inl (cI, 1100, .inl f6)), (m7, .inl (cI, 1100, .inl f7)), (m8, .inl (cI, 1100, .inl f8))] H := hP
  have hD : va_D A [(h0, .inr (4, [.int 0, .int (nI n), .ref m1, .ref m2, .ref m3, .ref m4, .int 0, .int 0, .int 0, .int 0, .int 0, .int 0, .int 0, .int 0, .ref m5, .int 0, .int 0, .ref m6, .ref m7, .ref m8, .ref m9])), (m6, .inl (cI, 1100, .inl f6)), (m7, .inl (cI, 1100, .inl f7)), (m8, .inl (cI, 1100, .inl f8))] := hD
  refine lv_aload_n hx hb dX3_end_5 rfl (lv_at hl 0 rfl) ?_
  refine va_get (D := (dC, dI)) (ci := 4) (v := .int 0) (C := RX3) (T := TX3) (N := 21) hx hb hts hiX3 hown hK hP 0 rfl rfl 7 (by decide) (hts (.fieldLink RX3 67 "LibraryDiskModel" "off" "Z") (by decide +kernel)) (fun _ h9 => h9) rfl dX3_end_6 ?_
  refine lv_if_eq (tgt := 15) hx hb dX3_end_9 (by decide) (fun c_9 => ?_) (fun c_9 => ?_)
  · skip
    refine lv_iload_n hx hb dX3_end_15 rfl (lv_at hl 1 rfl) ?_
    refine lv_iconst (v := 0) hx hb dX3_end_16 (by decide) ?_
    refine lv_iconst (v := 3) hx hb dX3_end_17 (by decide) ?_
    refine mq_calli (wr := [(h0, .inr (4, [.int 0, .int (nI n), .ref m1, .ref m2, .ref m3, .ref m4, .int 0, .int 0, .int 0, .int 0, .int 0, .int 0, .int 0, .int 0, .ref m5, .int 0, .int 0, .ref m6, .ref m7, .ref m8, .ref m9])), (m6, .inl (cI, 1100, .inl f6)), (m7, .inl (cI, 1100, .inl f7)), (m8, .inl (cI, 1100, .inl f8))]) (fun (_u : Unit) => [(h0, .inr (4, [.int 0, .int (nI n), .ref m1, .ref m2, .ref m3, .ref m4, .int 0, .int 0, .int 0, .int 0, .int 0, .int 0, .int 0, .int 0, .ref m5, .int 0, .int 0, .ref m6, .ref m7, .ref m8, .ref m9])), (m6, .inl (cI, 1100, .inl f6)), (m7, .inl (cI, 1100, .inl f7)), (m8, .inl (cI, 1100, .inl f8))]) (va_runS (As := [.int x, .int 0, .int 3]) (rest := []) ⟨hx, hb, hml, hown, hts⟩ (ct_X3_in l dC dI cB cI x 0 3 H.size) (va_cwS 3 hts gX3_end_X3_in rfl rfl rfl (by decide +kernel) ⟨Nat.le_of_ble_eq_true rfl, Nat.le_of_ble_eq_true rfl⟩) ⟨mq_blind, mq_pre hK hN hP hD [] rfl (by decide)⟩ rfl rfl hl.1 rfl (lv_room (Nat.le_of_ble_eq_true rfl)) dX3_end_18 ⟨Nat.le_of_ble_eq_true rfl, Nat.le_of_ble_eq_true rfl⟩) hP hD hS hA [] [0, 1, 2, 3] [0, 1, 2, 3] rfl rfl (by decide) (by decide) (by decide) (fun _ => rfl) (fun r_1 _ H locs hw_18 hP hD hS => ?_)
    have hP : va_P (dC, dI) vwCl [(h0, .inr (4, [.int 0, .int (nI n), .ref m1, .ref m2, .ref m3, .ref m4, .int 0, .int 0, .int 0, .int 0, .int 0, .int 0, .int 0, .int 0, .ref m5, .int 0, .int 0, .ref m6, .ref m7, .ref m8, .ref m9])), (m6, .inl (cI, 1100, .inl f6)), (m7, .inl (cI, 1100, .inl f7)), (m8, .inl (cI, 1100, .inl f8))] H := hP
    have hD : va_D A [(h0, .inr (4, [.int 0, .int (nI n), .ref m1, .ref m2, .ref m3, .ref m4, .int 0, .int 0, .int 0, .int 0, .int 0, .int 0, .int 0, .int 0, .ref m5, .int 0, .int 0, .ref m6, .ref m7, .ref m8, .ref m9])), (m6, .inl (cI, 1100, .inl f6)), (m7, .inl (cI, 1100, .inl f7)), (m8, .inl (cI, 1100, .inl f8))] := hD
    refine lv_if_ne (tgt := 27) hx hb dX3_end_21 (by decide) (fun c_21 => ?_) (fun c_21 => ?_)
    · skip
      refine lv_aload_n hx hb dX3_end_27 rfl (lv_at hl 0 rfl) ?_
      refine va_get (D := (dC, dI)) (ci := 4) (v := .int 0) (C := RX3) (T := TX3) (N := 21) hx hb hts hiX3 hown hK hP 0 rfl rfl 15 (by decide) (hts (.fieldLink RX3 64 "LibraryDiskModel" "rows" "I") (by decide +kernel)) (fun _ h9 => h9) rfl dX3_end_28 ?_
      refine lv_sipush (v := 300) hx hb dX3_end_31 (by decide) ?_
      refine lv_icmp_ge (tgt := 59) hx hb dX3_end_34 (by decide) (fun c_34 => ?_) (fun c_34 => ?_)
      · exact absurd c_34 (by decide)
      · skip
        refine lv_aload_n hx hb dX3_end_37 rfl (lv_at hl 0 rfl) ?_
        refine lv_aload_n hx hb dX3_end_38 rfl (lv_at hl 0 rfl) ?_
        refine va_get (D := (dC, dI)) (ci := 4) (v := .int 0) (C := RX3) (T := TX3) (N := 21) hx hb hts hiX3 hown hK hP 0 rfl rfl 13 (by decide) (hts (.fieldLink RX3 58 "LibraryDiskModel" "collected" "I") (by decide +kernel)) (fun _ h9 => h9) rfl dX3_end_39 ?_
        refine mq_calli (wr := [(m6, .inl (cI, 1100, .inl f6)), (m7, .inl (cI, 1100, .inl f7)), (m8, .inl (cI, 1100, .inl f8))]) (fun (_u : Unit) => [(h0, .inr (4, [.int 0, .int (nI n), .ref m1, .ref m2, .ref m3, .ref m4, .int 0, .int 0, .int 0, .int 0, .int 0, .int 0, .int 0, .int 0, .ref m5, .int 0, .int 0, .ref m6, .ref m7, .ref m8, .ref m9])), (m6, .inl (cI, 1100, .inl f6)), (m7, .inl (cI, 1100, .inl f7)), (m8, .inl (cI, 1100, .inl f8))]) (va_runV (As := [.int 0]) (rest := []) ⟨hx, hb, hml, hown, hts⟩ (ct_X3_wants l dC dI cB cI h0 m1 m2 m3 m4 m5 m6 m7 m8 m9 n hn H.size) (cwV 1 hts gX3_end_X3_wants rfl rfl rfl (by decide +kernel) ⟨Nat.le_of_ble_eq_true rfl, Nat.le_of_ble_eq_true rfl⟩) ⟨mq_blind, va_recv hK hP (ci := 4) (q0 := 0) rfl rfl, mq_pre hK hN hP hD [0] rfl (by decide)⟩ rfl rfl hl.1 rfl (lv_room (Nat.le_of_ble_eq_true rfl)) dX3_end_42 ⟨Nat.le_of_ble_eq_true rfl, Nat.le_of_ble_eq_true rfl⟩) hP hD hS hA [0] [1, 2, 3] [3, 0, 1, 2] rfl rfl (by decide) (by decide) (by decide) (fun _ => rfl) (fun r_2 _ H locs hw_42 hP hD hS => ?_)
        have hP : va_P (dC, dI) vwCl [(h0, .inr (4, [.int 0, .int (nI n), .ref m1, .ref m2, .ref m3, .ref m4, .int 0, .int 0, .int 0, .int 0, .int 0, .int 0, .int 0, .int 0, .ref m5, .int 0, .int 0, .ref m6, .ref m7, .ref m8, .ref m9])), (m6, .inl (cI, 1100, .inl f6)), (m7, .inl (cI, 1100, .inl f7)), (m8, .inl (cI, 1100, .inl f8))] H := hP
        have hD : va_D A [(h0, .inr (4, [.int 0, .int (nI n), .ref m1, .ref m2, .ref m3, .ref m4, .int 0, .int 0, .int 0, .int 0, .int 0, .int 0, .int 0, .int 0, .ref m5, .int 0, .int 0, .ref m6, .ref m7, .ref m8, .ref m9])), (m6, .inl (cI, 1100, .inl f6)), (m7, .inl (cI, 1100, .inl f7)), (m8, .inl (cI, 1100, .inl f8))] := hD
        refine lv_aload_n hx hb dX3_end_45 rfl (lv_at hl 0 rfl) ?_
        refine va_get (D := (dC, dI)) (ci := 4) (v := .int (nI n)) (C := RX3) (T := TX3) (N := 21) hx hb hts hiX3 hown hK hP 0 rfl rfl 1 (by decide) (hts (.fieldLink RX3 39 "LibraryDiskModel" "sectors" "I") (by decide +kernel)) (fun _ h9 => h9) rfl dX3_end_46 ?_
        refine lv_iconst (v := 2) hx hb dX3_end_49 (by decide) ?_
        refine lv_isub hx hb dX3_end_50 ?_
        refine lv_aload_n hx hb dX3_end_51 rfl (lv_at hl 0 rfl) ?_
        refine va_get (D := (dC, dI)) (ci := 4) (v := .int 0) (C := RX3) (T := TX3) (N := 21) hx hb hts hiX3 hown hK hP 0 rfl rfl 9 (by decide) (hts (.fieldLink RX3 78 "LibraryDiskModel" "used" "I") (by decide +kernel)) (fun _ h9 => h9) rfl dX3_end_52 ?_
        refine lv_isub hx hb dX3_end_55 ?_
        refine lv_icmp_le (tgt := 62) hx hb dX3_end_56 (by decide) (fun c_56 => ?_) (fun c_56 => ?_)
        · skip
          refine lv_aload_n hx hb dX3_end_62 rfl (lv_at hl 0 rfl) ?_
          refine va_get (D := (dC, dI)) (ci := 4) (v := .ref m6) (C := RX3) (T := TX3) (N := 21) hx hb hts hiX3 hown hK hP 0 rfl rfl 17 (by decide) (hts (.fieldLink RX3 25 "LibraryDiskModel" "kind" "[I") (by decide +kernel)) (fun _ h9 => h9) rfl dX3_end_63 ?_
          refine lv_aload_n hx hb dX3_end_66 rfl (lv_at hl 0 rfl) ?_
          refine va_get (D := (dC, dI)) (ci := 4) (v := .int 0) (C := RX3) (T := TX3) (N := 21) hx hb hts hiX3 hown hK hP 0 rfl rfl 15 (by decide) (hts (.fieldLink RX3 64 "LibraryDiskModel" "rows" "I") (by decide +kernel)) (fun _ h9 => h9) rfl dX3_end_67 ?_
          refine lv_iload_n hx hb dX3_end_70 rfl (lv_at hl 1 rfl) ?_
          refine va_iast hx hb hK hP hD hS 1 1 rfl rfl (vp_in_nI (n := 0) (by decide) (by decide)) dX3_end_71 (fun H locs hP hD hS => ?_)
          have hP : va_P (dC, dI) vwCl [(h0, .inr (4, [.int 0, .int (nI n), .ref m1, .ref m2, .ref m3, .ref m4, .int 0, .int 0, .int 0, .int 0, .int 0, .int 0, .int 0, .int 0, .ref m5, .int 0, .int 0, .ref m6, .ref m7, .ref m8, .ref m9])), (m6, .inl (cI, 1100, .inl (upd f6 (0 : Int32).toNatClampNeg x))), (m7, .inl (cI, 1100, .inl f7)), (m8, .inl (cI, 1100, .inl f8))] H := hP
          have hD : va_D A [(h0, .inr (4, [.int 0, .int (nI n), .ref m1, .ref m2, .ref m3, .ref m4, .int 0, .int 0, .int 0, .int 0, .int 0, .int 0, .int 0, .int 0, .ref m5, .int 0, .int 0, .ref m6, .ref m7, .ref m8, .ref m9])), (m6, .inl (cI, 1100, .inl (upd f6 (0 : Int32).toNatClampNeg x))), (m7, .inl (cI, 1100, .inl f7)), (m8, .inl (cI, 1100, .inl f8))] := hD
          obtain ⟨f_3, ef_3⟩ : ∃ z : Nat → Int32, z = upd f6 (0 : Int32).toNatClampNeg x := ⟨_, rfl⟩
          rw [← ef_3] at hP hD
          refine lv_aload_n hx hb dX3_end_72 rfl (lv_at hl 0 rfl) ?_
          refine va_get (D := (dC, dI)) (ci := 4) (v := .ref m7) (C := RX3) (T := TX3) (N := 21) hx hb hts hiX3 hown hK hP 0 rfl rfl 18 (by decide) (hts (.fieldLink RX3 29 "LibraryDiskModel" "length" "[I") (by decide +kernel)) (fun _ h9 => h9) rfl dX3_end_73 ?_
          refine lv_aload_n hx hb dX3_end_76 rfl (lv_at hl 0 rfl) ?_
          refine va_get (D := (dC, dI)) (ci := 4) (v := .int 0) (C := RX3) (T := TX3) (N := 21) hx hb hts hiX3 hown hK hP 0 rfl rfl 15 (by decide) (hts (.fieldLink RX3 64 "LibraryDiskModel" "rows" "I") (by decide +kernel)) (fun _ h9 => h9) rfl dX3_end_77 ?_
          refine lv_aload_n hx hb dX3_end_80 rfl (lv_at hl 0 rfl) ?_
          refine va_get (D := (dC, dI)) (ci := 4) (v := .int 0) (C := RX3) (T := TX3) (N := 21) hx hb hts hiX3 hown hK hP 0 rfl rfl 13 (by decide) (hts (.fieldLink RX3 58 "LibraryDiskModel" "collected" "I") (by decide +kernel)) (fun _ h9 => h9) rfl dX3_end_81 ?_
          refine va_iast hx hb hK hP hD hS 2 1 rfl rfl (vp_in_nI (n := 0) (by decide) (by decide)) dX3_end_84 (fun H locs hP hD hS => ?_)
          have hP : va_P (dC, dI) vwCl [(h0, .inr (4, [.int 0, .int (nI n), .ref m1, .ref m2, .ref m3, .ref m4, .int 0, .int 0, .int 0, .int 0, .int 0, .int 0, .int 0, .int 0, .ref m5, .int 0, .int 0, .ref m6, .ref m7, .ref m8, .ref m9])), (m6, .inl (cI, 1100, .inl f_3)), (m7, .inl (cI, 1100, .inl (upd f7 (0 : Int32).toNatClampNeg 0))), (m8, .inl (cI, 1100, .inl f8))] H := hP
          have hD : va_D A [(h0, .inr (4, [.int 0, .int (nI n), .ref m1, .ref m2, .ref m3, .ref m4, .int 0, .int 0, .int 0, .int 0, .int 0, .int 0, .int 0, .int 0, .ref m5, .int 0, .int 0, .ref m6, .ref m7, .ref m8, .ref m9])), (m6, .inl (cI, 1100, .inl f_3)), (m7, .inl (cI, 1100, .inl (upd f7 (0 : Int32).toNatClampNeg 0))), (m8, .inl (cI, 1100, .inl f8))] := hD
          obtain ⟨f_4, ef_4⟩ : ∃ z : Nat → Int32, z = upd f7 (0 : Int32).toNatClampNeg 0 := ⟨_, rfl⟩
          rw [← ef_4] at hP hD
          refine lv_aload_n hx hb dX3_end_85 rfl (lv_at hl 0 rfl) ?_
          refine va_get (D := (dC, dI)) (ci := 4) (v := .ref m8) (C := RX3) (T := TX3) (N := 21) hx hb hts hiX3 hown hK hP 0 rfl rfl 19 (by decide) (hts (.fieldLink RX3 32 "LibraryDiskModel" "sector" "[I") (by decide +kernel)) (fun _ h9 => h9) rfl dX3_end_86 ?_
          refine lv_aload_n hx hb dX3_end_89 rfl (lv_at hl 0 rfl) ?_
          refine va_get (D := (dC, dI)) (ci := 4) (v := .int 0) (C := RX3) (T := TX3) (N := 21) hx hb hts hiX3 hown hK hP 0 rfl rfl 15 (by decide) (hts (.fieldLink RX3 64 "LibraryDiskModel" "rows" "I") (by decide +kernel)) (fun _ h9 => h9) rfl dX3_end_90 ?_
          refine lv_iconst (v := (-1)) hx hb dX3_end_93 (by decide) ?_
          refine va_iast hx hb hK hP hD hS 3 1 rfl rfl (vp_in_nI (n := 0) (by decide) (by decide)) dX3_end_94 (fun H locs hP hD hS => ?_)
          have hP : va_P (dC, dI) vwCl [(h0, .inr (4, [.int 0, .int (nI n), .ref m1, .ref m2, .ref m3, .ref m4, .int 0, .int 0, .int 0, .int 0, .int 0, .int 0, .int 0, .int 0, .ref m5, .int 0, .int 0, .ref m6, .ref m7, .ref m8, .ref m9])), (m6, .inl (cI, 1100, .inl f_3)), (m7, .inl (cI, 1100, .inl f_4)), (m8, .inl (cI, 1100, .inl (upd f8 (0 : Int32).toNatClampNeg (-1))))] H := hP
          have hD : va_D A [(h0, .inr (4, [.int 0, .int (nI n), .ref m1, .ref m2, .ref m3, .ref m4, .int 0, .int 0, .int 0, .int 0, .int 0, .int 0, .int 0, .int 0, .ref m5, .int 0, .int 0, .ref m6, .ref m7, .ref m8, .ref m9])), (m6, .inl (cI, 1100, .inl f_3)), (m7, .inl (cI, 1100, .inl f_4)), (m8, .inl (cI, 1100, .inl (upd f8 (0 : Int32).toNatClampNeg (-1))))] := hD
          obtain ⟨f_5, ef_5⟩ : ∃ z : Nat → Int32, z = upd f8 (0 : Int32).toNatClampNeg (-1) := ⟨_, rfl⟩
          rw [← ef_5] at hP hD
          refine lv_iconst (v := 0) hx hb dX3_end_95 (by decide) ?_
          refine lv_istore_n (lv' := [(2, .int 0), (0, .ref h0), (1, .int x)]) hx hb dX3_end_96 rfl hl (by decide) rfl (fun ls hl => ?_)
          refine lv_iload_n hx hb dX3_end_97 rfl (lv_at hl 0 rfl) ?_
          refine lv_aload_n hx hb dX3_end_98 rfl (lv_at hl 1 rfl) ?_
          refine va_get (D := (dC, dI)) (ci := 4) (v := .int 0) (C := RX3) (T := TX3) (N := 21) hx hb hts hiX3 hown hK hP 0 rfl rfl 13 (by decide) (hts (.fieldLink RX3 58 "LibraryDiskModel" "collected" "I") (by decide +kernel)) (fun _ h9 => h9) rfl dX3_end_99 ?_
          refine lv_icmp_ge (tgt := 131) hx hb dX3_end_102 (by decide) (fun c_102 => ?_) (fun c_102 => ?_)
          · skip
            refine lv_aload_n hx hb dX3_end_131 rfl (lv_at hl 1 rfl) ?_
            refine lv_iconst (v := 0) hx hb dX3_end_132 (by decide) ?_
            refine va_put (D := (dC, dI)) (ci := 4) (v := .int 0) (ty := .int) (C := RX3) (T := TX3) (N := 21) hx hb hts hiX3 tyX3 tyX3_ok nmX3 hown hK hP hD hS 0 rfl rfl 13 (by decide) (hts (.fieldLink RX3 58 "LibraryDiskModel" "collected" "I") (by decide +kernel)) (fun _ h9 => h9) rfl (by decide +kernel) rfl rfl (Nat.le_of_ble_eq_true rfl) dX3_end_133 (fun H locs hP hD hS => ?_)
            have hP : va_P (dC, dI) vwCl [(h0, .inr (4, [.int 0, .int (nI n), .ref m1, .ref m2, .ref m3, .ref m4, .int 0, .int 0, .int 0, .int 0, .int 0, .int 0, .int 0, .int 0, .ref m5, .int 0, .int 0, .ref m6, .ref m7, .ref m8, .ref m9])), (m6, .inl (cI, 1100, .inl f_3)), (m7, .inl (cI, 1100, .inl f_4)), (m8, .inl (cI, 1100, .inl f_5))] H := hP
            have hD : va_D A [(h0, .inr (4, [.int 0, .int (nI n), .ref m1, .ref m2, .ref m3, .ref m4, .int 0, .int 0, .int 0, .int 0, .int 0, .int 0, .int 0, .int 0, .ref m5, .int 0, .int 0, .ref m6, .ref m7, .ref m8, .ref m9])), (m6, .inl (cI, 1100, .inl f_3)), (m7, .inl (cI, 1100, .inl f_4)), (m8, .inl (cI, 1100, .inl f_5))] := hD
            refine lv_aload_n hx hb dX3_end_136 rfl (lv_at hl 1 rfl) ?_
            refine lv_dup hx hb dX3_end_137 rfl ?_
            refine va_get (D := (dC, dI)) (ci := 4) (v := .int 0) (C := RX3) (T := TX3) (N := 21) hx hb hts hiX3 hown hK hP 0 rfl rfl 15 (by decide) (hts (.fieldLink RX3 64 "LibraryDiskModel" "rows" "I") (by decide +kernel)) (fun _ h9 => h9) rfl dX3_end_138 ?_
            refine lv_iconst (v := 1) hx hb dX3_end_141 (by decide) ?_
            refine lv_iadd hx hb dX3_end_142 ?_
            refine lv_topi (fun x_6 ex_6 => ?_)
            refine va_put (D := (dC, dI)) (ci := 4) (v := .int x_6) (ty := .int) (C := RX3) (T := TX3) (N := 21) hx hb hts hiX3 tyX3 tyX3_ok nmX3 hown hK hP hD hS 0 rfl rfl 15 (by decide) (hts (.fieldLink RX3 64 "LibraryDiskModel" "rows" "I") (by decide +kernel)) (fun _ h9 => h9) rfl (by decide +kernel) rfl rfl (Nat.le_of_ble_eq_true rfl) dX3_end_143 (fun H locs hP hD hS => ?_)
            have hP : va_P (dC, dI) vwCl [(h0, .inr (4, [.int 0, .int (nI n), .ref m1, .ref m2, .ref m3, .ref m4, .int 0, .int 0, .int 0, .int 0, .int 0, .int 0, .int 0, .int 0, .ref m5, .int x_6, .int 0, .ref m6, .ref m7, .ref m8, .ref m9])), (m6, .inl (cI, 1100, .inl f_3)), (m7, .inl (cI, 1100, .inl f_4)), (m8, .inl (cI, 1100, .inl f_5))] H := hP
            have hD : va_D A [(h0, .inr (4, [.int 0, .int (nI n), .ref m1, .ref m2, .ref m3, .ref m4, .int 0, .int 0, .int 0, .int 0, .int 0, .int 0, .int 0, .int 0, .ref m5, .int x_6, .int 0, .ref m6, .ref m7, .ref m8, .ref m9])), (m6, .inl (cI, 1100, .inl f_3)), (m7, .inl (cI, 1100, .inl f_4)), (m8, .inl (cI, 1100, .inl f_5))] := hD
            obtain rfl : x_6 = 1 := by rw [ex_6]; decide
            refine lv_aload_n hx hb dX3_end_146 rfl (lv_at hl 1 rfl) ?_
            refine va_get (D := (dC, dI)) (ci := 4) (v := .int 1) (C := RX3) (T := TX3) (N := 21) hx hb hts hiX3 hown hK hP 0 rfl rfl 15 (by decide) (hts (.fieldLink RX3 64 "LibraryDiskModel" "rows" "I") (by decide +kernel)) (fun _ h9 => h9) rfl dX3_end_147 ?_
            refine lv_iconst (v := 1) hx hb dX3_end_150 (by decide) ?_
            refine lv_isub hx hb dX3_end_151 ?_
            have hP9 := hP.sub (ws' := []) [] rfl
            have hD9 := hD.sub (ws' := []) [] (by decide) rfl
            exact W.iret (v := (1 : Int32) - (1 : Int32)) hx hb hr (fun t ht hW => ⟨⟨(1 : Int32) - (1 : Int32), (), rfl, ((e_in hw_18).2 c_21).symm ▸ (by decide), by rw [ht]; exact hP9, va_K.moved hW.alike hK, by rw [hAe]; exact hD9⟩, hS.F ht⟩) hS.2.2 dX3_end_152
          · exact absurd (by decide) c_102
        · exact absurd (by rw [hw_42]; exact one_le hn) c_56
    · skip
      refine lv_bipush (v := (-2)) hx hb dX3_end_24 (by decide) ?_
      have hP9 := hP.sub (ws' := []) [] rfl
      have hD9 := hD.sub (ws' := []) [] (by decide) rfl
      exact W.iret (v := (-2)) hx hb hr (fun t ht hW => ⟨⟨(-2), (), rfl, ((e_in hw_18).1 c_21).symm, by rw [ht]; exact hP9, va_K.moved hW.alike hK, by rw [hAe]; exact hD9⟩, hS.F ht⟩) hS.2.2 dX3_end_26
  · exact absurd (by decide) c_9
set_option maxHeartbeats 4000000 in
set_option maxRecDepth 100000 in
/-- dies, fresh -/
theorem ct_X3_dies (l : Launch) (dC : Nat → ClassId) (dI : Nat → Nat → Nat) (cB cI : ClassId) (h0 m1 m2 m3 m4 m5 m6 m7 m8 m9 : Nat) (n : Nat) (hn : 3 ≤ n ∧ n ≤ 40) (sz : Nat) : mq_V l (dC, dI) vwCl [(cB, .byte), (cI, .int)] yX3_dies wsX3_dies ({ frames := 0, cells := 0, slots := 0, locals := 0 }) [.ref h0] [(h0, .inr (4, [.int 0, .int (nI n), .ref m1, .ref m2, .ref m3, .ref m4, .int 0, .int 0, .int 0, .int 0, .int 0, .int 0, .int 0, .int 0, .ref m5, .int 0, .int 0, .ref m6, .ref m7, .ref m8, .ref m9]))] sz (fun (_u : Unit) => True) (fun (_u : Unit) => []) 0 0 := by
  refine Met.ofW (cc := cX3_dies) (maxL := 1) (ret := none) (by decide) rfl ?_
  intro p e s m args below meth c s₁ B hml hv
  obtain ⟨rfl, hsz, hP, hK, hD0, hN⟩ := hv
  have hx := B.exec
  have hb := B.bytes
  have hr := B.returns
  have hts := atoms_spec (ws := wsX3_dies) B.pre
  have hown : s.vm.findClass RX3 = some m.cls := findClass_of_methodNamed B.named
  have hlocks := B.notSynchronized
  have hiX3 : ∀ w ∈ u_ws RX3 TX3 21, w ∈ wsX3_dies := by decide +kernel
  subst hsz
  have hD := hD0.self (sz := s.heap.size)
  generalize hAe : va_A [(h0, .inr (4, [.int 0, .int (nI n), .ref m1, .ref m2, .ref m3, .ref m4, .int 0, .int 0, .int 0, .int 0, .int 0, .int 0, .int 0, .int 0, .ref m5, .int 0, .int 0, .ref m6, .ref m7, .ref m8, .ref m9]))] s.heap.size = A at hD ⊢
  have hA : ∀ q : Nat, s.heap.size ≤ q → A q := fun q h => by rw [← hAe]; exact Or.inr h
  have hS : va_S A s.heap s.heap [] := va_S.rf
  have hP : va_P (dC, dI) vwCl [(h0, .inr (4, [.int 0, .int (nI n), .ref m1, .ref m2, .ref m3, .ref m4, .int 0, .int 0, .int 0, .int 0, .int 0, .int 0, .int 0, .int 0, .ref m5, .int 0, .int 0, .ref m6, .ref m7, .ref m8, .ref m9]))] s.heap := hP
  have hl := lv_entry ([.ref h0]) (n := 1) (Nat.le_of_ble_eq_true rfl)
  rw [lg_entry_eq]
  generalize (lg_sl ([.ref h0]) ++ List.replicate (1 - (lg_sl ([.ref h0])).length) Slot.unset).toArray = ls at hl ⊢
  have hl : lv_has ls 1 [(0, .ref h0)] := hl
  refine lv_aload_n hx hb dX3_dies_0 rfl (lv_at hl 0 rfl) ?_
  refine lv_iconst (v := 1) hx hb dX3_dies_1 (by decide) ?_
  refine va_put (D := (dC, dI)) (ci := 4) (v := .int 1) (ty := .boolean) (C := RX3) (T := TX3) (N := 21) hx hb hts hiX3 tyX3 tyX3_ok nmX3 hown hK hP hD hS 0 rfl rfl 7 (by decide) (hts (.fieldLink RX3 67 "LibraryDiskModel" "off" "Z") (by decide +kernel)) (fun _ h9 => h9) rfl (by decide +kernel) rfl rfl (Nat.le_of_ble_eq_true rfl) dX3_dies_2 (fun H locs hP hD hS => ?_)
  have hP : va_P (dC, dI) vwCl [(h0, .inr (4, [.int 0, .int (nI n), .ref m1, .ref m2, .ref m3, .ref m4, .int 0, .int 1, .int 0, .int 0, .int 0, .int 0, .int 0, .int 0, .ref m5, .int 0, .int 0, .ref m6, .ref m7, .ref m8, .ref m9]))] H := hP
  have hD : va_D A [(h0, .inr (4, [.int 0, .int (nI n), .ref m1, .ref m2, .ref m3, .ref m4, .int 0, .int 1, .int 0, .int 0, .int 0, .int 0, .int 0, .int 0, .ref m5, .int 0, .int 0, .ref m6, .ref m7, .ref m8, .ref m9]))] := hD
  refine lv_aload_n hx hb dX3_dies_5 rfl (lv_at hl 0 rfl) ?_
  refine lv_iconst (v := 0) hx hb dX3_dies_6 (by decide) ?_
  refine va_put (D := (dC, dI)) (ci := 4) (v := .int 0) (ty := .int) (C := RX3) (T := TX3) (N := 21) hx hb hts hiX3 tyX3 tyX3_ok nmX3 hown hK hP hD hS 0 rfl rfl 15 (by decide) (hts (.fieldLink RX3 64 "LibraryDiskModel" "rows" "I") (by decide +kernel)) (fun _ h9 => h9) rfl (by decide +kernel) rfl rfl (Nat.le_of_ble_eq_true rfl) dX3_dies_7 (fun H locs hP hD hS => ?_)
  have hP : va_P (dC, dI) vwCl [(h0, .inr (4, [.int 0, .int (nI n), .ref m1, .ref m2, .ref m3, .ref m4, .int 0, .int 1, .int 0, .int 0, .int 0, .int 0, .int 0, .int 0, .ref m5, .int 0, .int 0, .ref m6, .ref m7, .ref m8, .ref m9]))] H := hP
  have hD : va_D A [(h0, .inr (4, [.int 0, .int (nI n), .ref m1, .ref m2, .ref m3, .ref m4, .int 0, .int 1, .int 0, .int 0, .int 0, .int 0, .int 0, .int 0, .ref m5, .int 0, .int 0, .ref m6, .ref m7, .ref m8, .ref m9]))] := hD
  refine lv_aload_n hx hb dX3_dies_10 rfl (lv_at hl 0 rfl) ?_
  refine lv_iconst (v := 0) hx hb dX3_dies_11 (by decide) ?_
  refine va_put (D := (dC, dI)) (ci := 4) (v := .int 0) (ty := .int) (C := RX3) (T := TX3) (N := 21) hx hb hts hiX3 tyX3 tyX3_ok nmX3 hown hK hP hD hS 0 rfl rfl 16 (by decide) (hts (.fieldLink RX3 61 "LibraryDiskModel" "laid" "I") (by decide +kernel)) (fun _ h9 => h9) rfl (by decide +kernel) rfl rfl (Nat.le_of_ble_eq_true rfl) dX3_dies_12 (fun H locs hP hD hS => ?_)
  have hP : va_P (dC, dI) vwCl [(h0, .inr (4, [.int 0, .int (nI n), .ref m1, .ref m2, .ref m3, .ref m4, .int 0, .int 1, .int 0, .int 0, .int 0, .int 0, .int 0, .int 0, .ref m5, .int 0, .int 0, .ref m6, .ref m7, .ref m8, .ref m9]))] H := hP
  have hD : va_D A [(h0, .inr (4, [.int 0, .int (nI n), .ref m1, .ref m2, .ref m3, .ref m4, .int 0, .int 1, .int 0, .int 0, .int 0, .int 0, .int 0, .int 0, .ref m5, .int 0, .int 0, .ref m6, .ref m7, .ref m8, .ref m9]))] := hD
  refine lv_aload_n hx hb dX3_dies_15 rfl (lv_at hl 0 rfl) ?_
  refine lv_iconst (v := 0) hx hb dX3_dies_16 (by decide) ?_
  refine va_put (D := (dC, dI)) (ci := 4) (v := .int 0) (ty := .int) (C := RX3) (T := TX3) (N := 21) hx hb hts hiX3 tyX3 tyX3_ok nmX3 hown hK hP hD hS 0 rfl rfl 13 (by decide) (hts (.fieldLink RX3 58 "LibraryDiskModel" "collected" "I") (by decide +kernel)) (fun _ h9 => h9) rfl (by decide +kernel) rfl rfl (Nat.le_of_ble_eq_true rfl) dX3_dies_17 (fun H locs hP hD hS => ?_)
  have hP : va_P (dC, dI) vwCl [(h0, .inr (4, [.int 0, .int (nI n), .ref m1, .ref m2, .ref m3, .ref m4, .int 0, .int 1, .int 0, .int 0, .int 0, .int 0, .int 0, .int 0, .ref m5, .int 0, .int 0, .ref m6, .ref m7, .ref m8, .ref m9]))] H := hP
  have hD : va_D A [(h0, .inr (4, [.int 0, .int (nI n), .ref m1, .ref m2, .ref m3, .ref m4, .int 0, .int 1, .int 0, .int 0, .int 0, .int 0, .int 0, .int 0, .ref m5, .int 0, .int 0, .ref m6, .ref m7, .ref m8, .ref m9]))] := hD
  refine lv_aload_n hx hb dX3_dies_20 rfl (lv_at hl 0 rfl) ?_
  refine lv_iconst (v := 0) hx hb dX3_dies_21 (by decide) ?_
  refine va_put (D := (dC, dI)) (ci := 4) (v := .int 0) (ty := .int) (C := RX3) (T := TX3) (N := 21) hx hb hts hiX3 tyX3 tyX3_ok nmX3 hown hK hP hD hS 0 rfl rfl 10 (by decide) (hts (.fieldLink RX3 98 "LibraryDiskModel" "writes" "I") (by decide +kernel)) (fun _ h9 => h9) rfl (by decide +kernel) rfl rfl (Nat.le_of_ble_eq_true rfl) dX3_dies_22 (fun H locs hP hD hS => ?_)
  have hP : va_P (dC, dI) vwCl [(h0, .inr (4, [.int 0, .int (nI n), .ref m1, .ref m2, .ref m3, .ref m4, .int 0, .int 1, .int 0, .int 0, .int 0, .int 0, .int 0, .int 0, .ref m5, .int 0, .int 0, .ref m6, .ref m7, .ref m8, .ref m9]))] H := hP
  have hD : va_D A [(h0, .inr (4, [.int 0, .int (nI n), .ref m1, .ref m2, .ref m3, .ref m4, .int 0, .int 1, .int 0, .int 0, .int 0, .int 0, .int 0, .int 0, .ref m5, .int 0, .int 0, .ref m6, .ref m7, .ref m8, .ref m9]))] := hD
  have hP9 := hP.sub (ws' := []) [] rfl
  have hD9 := hD.sub (ws' := []) [] (by decide) rfl
  exact W.vret hx hb hr (fun t ht hW => ⟨⟨(), rfl, trivial, by rw [ht]; exact hP9, va_K.moved hW.alike hK, by rw [hAe]; exact hD9⟩, hS.F ht⟩) hS.2.2 dX3_dies_25
set_option maxHeartbeats 4000000 in
set_option maxRecDepth 100000 in
/-- cut, fresh -/
theorem ct_X3_cut (l : Launch) (dC : Nat → ClassId) (dI : Nat → Nat → Nat) (cB cI : ClassId) (h0 m1 m2 m3 m4 m5 m6 m7 m8 m9 : Nat) (n : Nat) (hn : 3 ≤ n ∧ n ≤ 40) (x y : Int32) (sz : Nat) : mq_I l (dC, dI) vwCl [(cB, .byte), (cI, .int)] yX3_cut wsX3_cut ({ frames := 0, cells := 0, slots := 0, locals := 0 }) [.ref h0, .int x, .int y] [(h0, .inr (4, [.int 0, .int (nI n), .ref m1, .ref m2, .ref m3, .ref m4, .int 0, .int 0, .int 0, .int 0, .int 0, .int 0, .int 0, .int 0, .ref m5, .int 0, .int 0, .ref m6, .ref m7, .ref m8, .ref m9]))] sz (fun (r : Int32) (_u : Unit) => r = -3) (fun (_u : Unit) => []) 0 0 := by
  refine Met.ofW (cc := cX3_cut) (maxL := 6) (ret := (some .int)) (by decide) rfl ?_
  intro p e s m args below meth c s₁ B hml hv
  obtain ⟨rfl, hsz, hP, hK, hD0, hN⟩ := hv
  have hx := B.exec
  have hb := B.bytes
  have hr := B.returns
  have hts := atoms_spec (ws := wsX3_cut) B.pre
  have hown : s.vm.findClass RX3 = some m.cls := findClass_of_methodNamed B.named
  have hlocks := B.notSynchronized
  have hiX3 : ∀ w ∈ u_ws RX3 TX3 21, w ∈ wsX3_cut := by decide +kernel
  subst hsz
  have hD := hD0.self (sz := s.heap.size)
  generalize hAe : va_A [(h0, .inr (4, [.int 0, .int (nI n), .ref m1, .ref m2, .ref m3, .ref m4, .int 0, .int 0, .int 0, .int 0, .int 0, .int 0, .int 0, .int 0, .ref m5, .int 0, .int 0, .ref m6, .ref m7, .ref m8, .ref m9]))] s.heap.size = A at hD ⊢
  have hA : ∀ q : Nat, s.heap.size ≤ q → A q := fun q h => by rw [← hAe]; exact Or.inr h
  have hS : va_S A s.heap s.heap [] := va_S.rf
  have hP : va_P (dC, dI) vwCl [(h0, .inr (4, [.int 0, .int (nI n), .ref m1, .ref m2, .ref m3, .ref m4, .int 0, .int 0, .int 0, .int 0, .int 0, .int 0, .int 0, .int 0, .ref m5, .int 0, .int 0, .ref m6, .ref m7, .ref m8, .ref m9]))] s.heap := hP
  have hl := lv_entry ([.ref h0, .int x, .int y]) (n := 6) (Nat.le_of_ble_eq_true rfl)
  rw [lg_entry_eq]
  generalize (lg_sl ([.ref h0, .int x, .int y]) ++ List.replicate (6 - (lg_sl ([.ref h0, .int x, .int y])).length) Slot.unset).toArray = ls at hl ⊢
  have hl : lv_has ls 6 [(0, .ref h0), (1, .int x), (2, .int y)] := hl
  refine lv_aload_n hx hb dX3_cut_0 rfl (lv_at hl 0 rfl) ?_
  refine lv_iconst (v := 0) hx hb dX3_cut_1 (by decide) ?_
  refine va_put (D := (dC, dI)) (ci := 4) (v := .int 0) (ty := .int) (C := RX3) (T := TX3) (N := 21) hx hb hts hiX3 tyX3 tyX3_ok nmX3 hown hK hP hD hS 0 rfl rfl 0 (by decide) (hts (.fieldLink RX3 43 "LibraryDiskModel" "thrown" "I") (by decide +kernel)) (fun _ h9 => h9) rfl (by decide +kernel) rfl rfl (Nat.le_of_ble_eq_true rfl) dX3_cut_2 (fun H locs hP hD hS => ?_)
  have hP : va_P (dC, dI) vwCl [(h0, .inr (4, [.int 0, .int (nI n), .ref m1, .ref m2, .ref m3, .ref m4, .int 0, .int 0, .int 0, .int 0, .int 0, .int 0, .int 0, .int 0, .ref m5, .int 0, .int 0, .ref m6, .ref m7, .ref m8, .ref m9]))] H := hP
  have hD : va_D A [(h0, .inr (4, [.int 0, .int (nI n), .ref m1, .ref m2, .ref m3, .ref m4, .int 0, .int 0, .int 0, .int 0, .int 0, .int 0, .int 0, .int 0, .ref m5, .int 0, .int 0, .ref m6, .ref m7, .ref m8, .ref m9]))] := hD
  refine lv_aload_n hx hb dX3_cut_5 rfl (lv_at hl 0 rfl) ?_
  refine va_get (D := (dC, dI)) (ci := 4) (v := .int 0) (C := RX3) (T := TX3) (N := 21) hx hb hts hiX3 hown hK hP 0 rfl rfl 7 (by decide) (hts (.fieldLink RX3 67 "LibraryDiskModel" "off" "Z") (by decide +kernel)) (fun _ h9 => h9) rfl dX3_cut_6 ?_
  refine lv_if_ne (tgt := 19) hx hb dX3_cut_9 (by decide) (fun c_9 => ?_) (fun c_9 => ?_)
  · exact absurd (by decide) c_9
  · skip
    refine lv_aload_n hx hb dX3_cut_12 rfl (lv_at hl 0 rfl) ?_
    refine va_get (D := (dC, dI)) (ci := 4) (v := .int 0) (C := RX3) (T := TX3) (N := 21) hx hb hts hiX3 hown hK hP 0 rfl rfl 10 (by decide) (hts (.fieldLink RX3 98 "LibraryDiskModel" "writes" "I") (by decide +kernel)) (fun _ h9 => h9) rfl dX3_cut_13 ?_
    refine lv_if_ne (tgt := 22) hx hb dX3_cut_16 (by decide) (fun c_16 => ?_) (fun c_16 => ?_)
    · exact absurd (by decide) c_16
    · skip
      refine lv_bipush (v := (-3)) hx hb dX3_cut_19 (by decide) ?_
      have hP9 := hP.sub (ws' := []) [] rfl
      have hD9 := hD.sub (ws' := []) [] (by decide) rfl
      exact W.iret (v := (-3)) hx hb hr (fun t ht hW => ⟨⟨(-3), (), rfl, rfl, by rw [ht]; exact hP9, va_K.moved hW.alike hK, by rw [hAe]; exact hD9⟩, hS.F ht⟩) hS.2.2 dX3_cut_21
set_option maxHeartbeats 4000000 in
set_option maxRecDepth 100000 in
/-- off, fresh -/
theorem ct_X3_off (l : Launch) (dC : Nat → ClassId) (dI : Nat → Nat → Nat) (cB cI : ClassId) (h0 m1 m2 m3 m4 m5 m6 m7 m8 m9 : Nat) (n : Nat) (hn : 3 ≤ n ∧ n ≤ 40) (sz : Nat) : mq_I l (dC, dI) vwCl [(cB, .byte), (cI, .int)] yX3_off wsX3_off ({ frames := 1, cells := 0, slots := 0, locals := 20 }) [.ref h0] [(h0, .inr (4, [.int 0, .int (nI n), .ref m1, .ref m2, .ref m3, .ref m4, .int 0, .int 0, .int 0, .int 0, .int 0, .int 0, .int 0, .int 0, .ref m5, .int 0, .int 0, .ref m6, .ref m7, .ref m8, .ref m9]))] sz (fun (r : Int32) (_u : Unit) => r = 0) (fun (_u : Unit) => []) 0 0 := by
  refine Met.ofW (cc := cX3_off) (maxL := 2) (ret := (some .int)) (by decide) rfl ?_
  intro p e s m args below meth c s₁ B hml hv
  obtain ⟨rfl, hsz, hP, hK, hD0, hN⟩ := hv
  have hx := B.exec
  have hb := B.bytes
  have hr := B.returns
  have hts := atoms_spec (ws := wsX3_off) B.pre
  have hown : s.vm.findClass RX3 = some m.cls := findClass_of_methodNamed B.named
  have hlocks := B.notSynchronized
  have hiX3 : ∀ w ∈ u_ws RX3 TX3 21, w ∈ wsX3_off := by decide +kernel
  subst hsz
  have hD := hD0.self (sz := s.heap.size)
  generalize hAe : va_A [(h0, .inr (4, [.int 0, .int (nI n), .ref m1, .ref m2, .ref m3, .ref m4, .int 0, .int 0, .int 0, .int 0, .int 0, .int 0, .int 0, .int 0, .ref m5, .int 0, .int 0, .ref m6, .ref m7, .ref m8, .ref m9]))] s.heap.size = A at hD ⊢
  have hA : ∀ q : Nat, s.heap.size ≤ q → A q := fun q h => by rw [← hAe]; exact Or.inr h
  have hS : va_S A s.heap s.heap [] := va_S.rf
  have hP : va_P (dC, dI) vwCl [(h0, .inr (4, [.int 0, .int (nI n), .ref m1, .ref m2, .ref m3, .ref m4, .int 0, .int 0, .int 0, .int 0, .int 0, .int 0, .int 0, .int 0, .ref m5, .int 0, .int 0, .ref m6, .ref m7, .ref m8, .ref m9]))] s.heap := hP
  have hl := lv_entry ([.ref h0]) (n := 2) (Nat.le_of_ble_eq_true rfl)
  rw [lg_entry_eq]
  generalize (lg_sl ([.ref h0]) ++ List.replicate (2 - (lg_sl ([.ref h0])).length) Slot.unset).toArray = ls at hl ⊢
  have hl : lv_has ls 2 [(0, .ref h0)] := hl
  refine lv_aload_n hx hb dX3_off_0 rfl (lv_at hl 0 rfl) ?_
  refine lv_iconst (v := 0) hx hb dX3_off_1 (by decide) ?_
  refine va_put (D := (dC, dI)) (ci := 4) (v := .int 0) (ty := .int) (C := RX3) (T := TX3) (N := 21) hx hb hts hiX3 tyX3 tyX3_ok nmX3 hown hK hP hD hS 0 rfl rfl 0 (by decide) (hts (.fieldLink RX3 43 "LibraryDiskModel" "thrown" "I") (by decide +kernel)) (fun _ h9 => h9) rfl (by decide +kernel) rfl rfl (Nat.le_of_ble_eq_true rfl) dX3_off_2 (fun H locs hP hD hS => ?_)
  have hP : va_P (dC, dI) vwCl [(h0, .inr (4, [.int 0, .int (nI n), .ref m1, .ref m2, .ref m3, .ref m4, .int 0, .int 0, .int 0, .int 0, .int 0, .int 0, .int 0, .int 0, .ref m5, .int 0, .int 0, .ref m6, .ref m7, .ref m8, .ref m9]))] H := hP
  have hD : va_D A [(h0, .inr (4, [.int 0, .int (nI n), .ref m1, .ref m2, .ref m3, .ref m4, .int 0, .int 0, .int 0, .int 0, .int 0, .int 0, .int 0, .int 0, .ref m5, .int 0, .int 0, .ref m6, .ref m7, .ref m8, .ref m9]))] := hD
  refine lv_aload_n hx hb dX3_off_5 rfl (lv_at hl 0 rfl) ?_
  refine va_get (D := (dC, dI)) (ci := 4) (v := .int 0) (C := RX3) (T := TX3) (N := 21) hx hb hts hiX3 hown hK hP 0 rfl rfl 7 (by decide) (hts (.fieldLink RX3 67 "LibraryDiskModel" "off" "Z") (by decide +kernel)) (fun _ h9 => h9) rfl dX3_off_6 ?_
  refine lv_if_eq (tgt := 15) hx hb dX3_off_9 (by decide) (fun c_9 => ?_) (fun c_9 => ?_)
  · skip
    refine lv_aload_n hx hb dX3_off_15 rfl (lv_at hl 0 rfl) ?_
    refine va_get (D := (dC, dI)) (ci := 4) (v := .int 0) (C := RX3) (T := TX3) (N := 21) hx hb hts hiX3 hown hK hP 0 rfl rfl 15 (by decide) (hts (.fieldLink RX3 64 "LibraryDiskModel" "rows" "I") (by decide +kernel)) (fun _ h9 => h9) rfl dX3_off_16 ?_
    refine lv_aload_n hx hb dX3_off_19 rfl (lv_at hl 0 rfl) ?_
    refine va_get (D := (dC, dI)) (ci := 4) (v := .int 0) (C := RX3) (T := TX3) (N := 21) hx hb hts hiX3 hown hK hP 0 rfl rfl 16 (by decide) (hts (.fieldLink RX3 61 "LibraryDiskModel" "laid" "I") (by decide +kernel)) (fun _ h9 => h9) rfl dX3_off_20 ?_
    refine lv_isub hx hb dX3_off_23 ?_
    refine lv_topi (fun x_1 ex_1 => ?_)
    refine lv_istore_n (lv' := [(1, .int x_1), (0, .ref h0)]) hx hb dX3_off_24 rfl hl (by decide) rfl (fun ls hl => ?_)
    refine lv_aload_n hx hb dX3_off_25 rfl (lv_at hl 1 rfl) ?_
    refine mq_callv (wr := []) (fun (_u : Unit) => []) (va_runV (As := []) (rest := []) ⟨hx, hb, hml, hown, hts⟩ (ct_X3_dies l dC dI cB cI h0 m1 m2 m3 m4 m5 m6 m7 m8 m9 n hn H.size) (cwV 0 hts gX3_off_X3_dies rfl rfl rfl (by decide +kernel) ⟨Nat.le_of_ble_eq_true rfl, Nat.le_of_ble_eq_true rfl⟩) ⟨mq_blind, va_recv hK hP (ci := 4) (q0 := 0) rfl rfl, mq_pre hK hN hP hD [0] rfl (by decide)⟩ rfl rfl hl.1 rfl (lv_room (Nat.le_of_ble_eq_true rfl)) dX3_off_26 ⟨Nat.le_of_ble_eq_true rfl, Nat.le_of_ble_eq_true rfl⟩) hP hD hS hA [0] [] [] rfl rfl (by decide) (by decide) (by decide) (fun _ => rfl) (fun _ H locs hw_26 hP hD hS => ?_)
    have hP : va_P (dC, dI) vwCl [] H := hP
    have hD : va_D A [] := hD
    refine lv_iload_n hx hb dX3_off_29 rfl (lv_at hl 0 rfl) ?_
    have hP9 := hP.sub (ws' := []) [] rfl
    have hD9 := hD.sub (ws' := []) [] (by decide) rfl
    exact W.iret (v := x_1) hx hb hr (fun t ht hW => ⟨⟨x_1, (), rfl, by rw [ex_1]; decide, by rw [ht]; exact hP9, va_K.moved hW.alike hK, by rw [hAe]; exact hD9⟩, hS.F ht⟩) hS.2.2 dX3_off_30
  · exact absurd (by decide) c_9
set_option maxHeartbeats 4000000 in
set_option maxRecDepth 100000 in
/-- start, fresh -/
theorem ct_X3_start (l : Launch) (dC : Nat → ClassId) (dI : Nat → Nat → Nat) (cB cI : ClassId) (h0 m1 m2 m3 m4 m5 m6 m7 m8 m9 : Nat) (n : Nat) (hn : 3 ≤ n ∧ n ≤ 40) (f : Nat → Int32) (hz : ∀ j, f j = 0) (sz : Nat) : mq_I l (dC, dI) vwCl [(cB, .byte), (cI, .int)] yX3_start wsX3_start ({ frames := 3, cells := 0, slots := 0, locals := 65 }) [.ref h0] [(h0, .inr (4, [.int 0, .int (nI n), .ref m1, .ref m2, .ref m3, .ref m4, .int 0, .int 0, .int 0, .int 0, .int 0, .int 0, .int 0, .int 0, .ref m5, .int 0, .int 0, .ref m6, .ref m7, .ref m8, .ref m9])), (m1, .inl (cB, 2560, .inl f))] sz (fun (r : Int32) (_u : Unit) => r = -3) (fun (_u : Unit) => []) 0 0 := by
  refine Met.ofW (cc := cX3_start) (maxL := 5) (ret := (some .int)) (by decide) rfl ?_
  intro p e s m args below meth c s₁ B hml hv
  obtain ⟨rfl, hsz, hP, hK, hD0, hN⟩ := hv
  have hx := B.exec
  have hb := B.bytes
  have hr := B.returns
  have hts := atoms_spec (ws := wsX3_start) B.pre
  have hown : s.vm.findClass RX3 = some m.cls := findClass_of_methodNamed B.named
  have hlocks := B.notSynchronized
  have hiX3 : ∀ w ∈ u_ws RX3 TX3 21, w ∈ wsX3_start := by decide +kernel
  subst hsz
  have hD := hD0.self (sz := s.heap.size)
  generalize hAe : va_A [(h0, .inr (4, [.int 0, .int (nI n), .ref m1, .ref m2, .ref m3, .ref m4, .int 0, .int 0, .int 0, .int 0, .int 0, .int 0, .int 0, .int 0, .ref m5, .int 0, .int 0, .ref m6, .ref m7, .ref m8, .ref m9])), (m1, .inl (cB, 2560, .inl f))] s.heap.size = A at hD ⊢
  have hA : ∀ q : Nat, s.heap.size ≤ q → A q := fun q h => by rw [← hAe]; exact Or.inr h
  have hS : va_S A s.heap s.heap [] := va_S.rf
  have hP : va_P (dC, dI) vwCl [(h0, .inr (4, [.int 0, .int (nI n), .ref m1, .ref m2, .ref m3, .ref m4, .int 0, .int 0, .int 0, .int 0, .int 0, .int 0, .int 0, .int 0, .ref m5, .int 0, .int 0, .ref m6, .ref m7, .ref m8, .ref m9])), (m1, .inl (cB, 2560, .inl f))] s.heap := hP
  have hl := lv_entry ([.ref h0]) (n := 5) (Nat.le_of_ble_eq_true rfl)
  rw [lg_entry_eq]
  generalize (lg_sl ([.ref h0]) ++ List.replicate (5 - (lg_sl ([.ref h0])).length) Slot.unset).toArray = ls at hl ⊢
  have hl : lv_has ls 5 [(0, .ref h0)] := hl
  refine lv_aload_n hx hb dX3_start_0 rfl (lv_at hl 0 rfl) ?_
  refine lv_iconst (v := 0) hx hb dX3_start_1 (by decide) ?_
  refine va_put (D := (dC, dI)) (ci := 4) (v := .int 0) (ty := .int) (C := RX3) (T := TX3) (N := 21) hx hb hts hiX3 tyX3 tyX3_ok nmX3 hown hK hP hD hS 0 rfl rfl 0 (by decide) (hts (.fieldLink RX3 43 "LibraryDiskModel" "thrown" "I") (by decide +kernel)) (fun _ h9 => h9) rfl (by decide +kernel) rfl rfl (Nat.le_of_ble_eq_true rfl) dX3_start_2 (fun H locs hP hD hS => ?_)
  have hP : va_P (dC, dI) vwCl [(h0, .inr (4, [.int 0, .int (nI n), .ref m1, .ref m2, .ref m3, .ref m4, .int 0, .int 0, .int 0, .int 0, .int 0, .int 0, .int 0, .int 0, .ref m5, .int 0, .int 0, .ref m6, .ref m7, .ref m8, .ref m9])), (m1, .inl (cB, 2560, .inl f))] H := hP
  have hD : va_D A [(h0, .inr (4, [.int 0, .int (nI n), .ref m1, .ref m2, .ref m3, .ref m4, .int 0, .int 0, .int 0, .int 0, .int 0, .int 0, .int 0, .int 0, .ref m5, .int 0, .int 0, .ref m6, .ref m7, .ref m8, .ref m9])), (m1, .inl (cB, 2560, .inl f))] := hD
  refine lv_aload_n hx hb dX3_start_5 rfl (lv_at hl 0 rfl) ?_
  refine lv_iconst (v := 0) hx hb dX3_start_6 (by decide) ?_
  refine mq_calli (wr := []) (fun (_u : Unit) => [(h0, .inr (4, [.int 0, .int (nI n), .ref m1, .ref m2, .ref m3, .ref m4, .int 0, .int 0, .int 0, .int 0, .int 0, .int 0, .int 0, .int 0, .ref m5, .int 0, .int 0, .ref m6, .ref m7, .ref m8, .ref m9])), (m1, .inl (cB, 2560, .inl f))]) (va_runV (As := [.int 0]) (rest := []) ⟨hx, hb, hml, hown, hts⟩ (ct_X3_isRight l dC dI cB cI h0 m1 m2 m3 m4 m5 m6 m7 m8 m9 n hn f hz 0 (by decide) H.size) (cwV 1 hts gX3_start_X3_isRight rfl rfl rfl (by decide +kernel) ⟨Nat.le_of_ble_eq_true rfl, Nat.le_of_ble_eq_true rfl⟩) ⟨mq_blind, va_recv hK hP (ci := 4) (q0 := 0) rfl rfl, mq_pre hK hN hP hD [0, 1] rfl (by decide)⟩ rfl rfl hl.1 rfl (lv_room (Nat.le_of_ble_eq_true rfl)) dX3_start_7 ⟨Nat.le_of_ble_eq_true rfl, Nat.le_of_ble_eq_true rfl⟩) hP hD hS hA [0, 1] [] [0, 1] rfl rfl (by decide) (by decide) (by decide) (fun _ => rfl) (fun r_1 _ H locs hw_7 hP hD hS => ?_)
  have hP : va_P (dC, dI) vwCl [(h0, .inr (4, [.int 0, .int (nI n), .ref m1, .ref m2, .ref m3, .ref m4, .int 0, .int 0, .int 0, .int 0, .int 0, .int 0, .int 0, .int 0, .ref m5, .int 0, .int 0, .ref m6, .ref m7, .ref m8, .ref m9])), (m1, .inl (cB, 2560, .inl f))] H := hP
  have hD : va_D A [(h0, .inr (4, [.int 0, .int (nI n), .ref m1, .ref m2, .ref m3, .ref m4, .int 0, .int 0, .int 0, .int 0, .int 0, .int 0, .int 0, .int 0, .ref m5, .int 0, .int 0, .ref m6, .ref m7, .ref m8, .ref m9])), (m1, .inl (cB, 2560, .inl f))] := hD
  refine lv_istore_n (lv' := [(1, .int r_1), (0, .ref h0)]) hx hb dX3_start_10 rfl hl (by decide) rfl (fun ls hl => ?_)
  refine lv_aload_n hx hb dX3_start_11 rfl (lv_at hl 1 rfl) ?_
  refine lv_iconst (v := 1) hx hb dX3_start_12 (by decide) ?_
  refine mq_calli (wr := []) (fun (_u : Unit) => [(h0, .inr (4, [.int 0, .int (nI n), .ref m1, .ref m2, .ref m3, .ref m4, .int 0, .int 0, .int 0, .int 0, .int 0, .int 0, .int 0, .int 0, .ref m5, .int 0, .int 0, .ref m6, .ref m7, .ref m8, .ref m9])), (m1, .inl (cB, 2560, .inl f))]) (va_runV (As := [.int 1]) (rest := []) ⟨hx, hb, hml, hown, hts⟩ (ct_X3_isRight l dC dI cB cI h0 m1 m2 m3 m4 m5 m6 m7 m8 m9 n hn f hz 1 (by decide) H.size) (cwV 1 hts gX3_start_X3_isRight rfl rfl rfl (by decide +kernel) ⟨Nat.le_of_ble_eq_true rfl, Nat.le_of_ble_eq_true rfl⟩) ⟨mq_blind, va_recv hK hP (ci := 4) (q0 := 0) rfl rfl, mq_pre hK hN hP hD [0, 1] rfl (by decide)⟩ rfl rfl hl.1 rfl (lv_room (Nat.le_of_ble_eq_true rfl)) dX3_start_13 ⟨Nat.le_of_ble_eq_true rfl, Nat.le_of_ble_eq_true rfl⟩) hP hD hS hA [0, 1] [] [0, 1] rfl rfl (by decide) (by decide) (by decide) (fun _ => rfl) (fun r_2 _ H locs hw_13 hP hD hS => ?_)
  have hP : va_P (dC, dI) vwCl [(h0, .inr (4, [.int 0, .int (nI n), .ref m1, .ref m2, .ref m3, .ref m4, .int 0, .int 0, .int 0, .int 0, .int 0, .int 0, .int 0, .int 0, .ref m5, .int 0, .int 0, .ref m6, .ref m7, .ref m8, .ref m9])), (m1, .inl (cB, 2560, .inl f))] H := hP
  have hD : va_D A [(h0, .inr (4, [.int 0, .int (nI n), .ref m1, .ref m2, .ref m3, .ref m4, .int 0, .int 0, .int 0, .int 0, .int 0, .int 0, .int 0, .int 0, .ref m5, .int 0, .int 0, .ref m6, .ref m7, .ref m8, .ref m9])), (m1, .inl (cB, 2560, .inl f))] := hD
  refine lv_istore_n (lv' := [(2, .int r_2), (1, .int r_1), (0, .ref h0)]) hx hb dX3_start_16 rfl hl (by decide) rfl (fun ls hl => ?_)
  refine lv_aload_n hx hb dX3_start_17 rfl (lv_at hl 2 rfl) ?_
  refine va_get (D := (dC, dI)) (ci := 4) (v := .int 0) (C := RX3) (T := TX3) (N := 21) hx hb hts hiX3 hown hK hP 0 rfl rfl 7 (by decide) (hts (.fieldLink RX3 67 "LibraryDiskModel" "off" "Z") (by decide +kernel)) (fun _ h9 => h9) rfl dX3_start_18 ?_
  refine lv_if_eq (tgt := 32) hx hb dX3_start_21 (by decide) (fun c_21 => ?_) (fun c_21 => ?_)
  · skip
    refine lv_bipush (v := (-3)) hx hb dX3_start_32 (by decide) ?_
    have hP9 := hP.sub (ws' := []) [] rfl
    have hD9 := hD.sub (ws' := []) [] (by decide) rfl
    exact W.iret (v := (-3)) hx hb hr (fun t ht hW => ⟨⟨(-3), (), rfl, rfl, by rw [ht]; exact hP9, va_K.moved hW.alike hK, by rw [hAe]; exact hD9⟩, hS.F ht⟩) hS.2.2 dX3_start_34
  · exact absurd (by decide) c_21
set_option maxHeartbeats 4000000 in
set_option maxRecDepth 100000 in
/-- rows, fresh -/
theorem ct_X3_rows (l : Launch) (dC : Nat → ClassId) (dI : Nat → Nat → Nat) (cB cI : ClassId) (h0 m1 m2 m3 m4 m5 m6 m7 m8 m9 : Nat) (n : Nat) (hn : 3 ≤ n ∧ n ≤ 40) (sz : Nat) : mq_I l (dC, dI) vwCl [(cB, .byte), (cI, .int)] yX3_rows wsX3_rows ({ frames := 0, cells := 0, slots := 0, locals := 0 }) [.ref h0] [(h0, .inr (4, [.int 0, .int (nI n), .ref m1, .ref m2, .ref m3, .ref m4, .int 0, .int 0, .int 0, .int 0, .int 0, .int 0, .int 0, .int 0, .ref m5, .int 0, .int 0, .ref m6, .ref m7, .ref m8, .ref m9]))] sz (fun (r : Int32) (_u : Unit) => r = 0) (fun (_u : Unit) => []) 0 0 := by
  refine Met.ofW (cc := cX3_rows) (maxL := 1) (ret := (some .int)) (by decide) rfl ?_
  intro p e s m args below meth c s₁ B hml hv
  obtain ⟨rfl, hsz, hP, hK, hD0, hN⟩ := hv
  have hx := B.exec
  have hb := B.bytes
  have hr := B.returns
  have hts := atoms_spec (ws := wsX3_rows) B.pre
  have hown : s.vm.findClass RX3 = some m.cls := findClass_of_methodNamed B.named
  have hlocks := B.notSynchronized
  have hiX3 : ∀ w ∈ u_ws RX3 TX3 21, w ∈ wsX3_rows := by decide +kernel
  subst hsz
  have hD := hD0.self (sz := s.heap.size)
  generalize hAe : va_A [(h0, .inr (4, [.int 0, .int (nI n), .ref m1, .ref m2, .ref m3, .ref m4, .int 0, .int 0, .int 0, .int 0, .int 0, .int 0, .int 0, .int 0, .ref m5, .int 0, .int 0, .ref m6, .ref m7, .ref m8, .ref m9]))] s.heap.size = A at hD ⊢
  have hA : ∀ q : Nat, s.heap.size ≤ q → A q := fun q h => by rw [← hAe]; exact Or.inr h
  have hS : va_S A s.heap s.heap [] := va_S.rf
  have hP : va_P (dC, dI) vwCl [(h0, .inr (4, [.int 0, .int (nI n), .ref m1, .ref m2, .ref m3, .ref m4, .int 0, .int 0, .int 0, .int 0, .int 0, .int 0, .int 0, .int 0, .ref m5, .int 0, .int 0, .ref m6, .ref m7, .ref m8, .ref m9]))] s.heap := hP
  have hl := lv_entry ([.ref h0]) (n := 1) (Nat.le_of_ble_eq_true rfl)
  rw [lg_entry_eq]
  generalize (lg_sl ([.ref h0]) ++ List.replicate (1 - (lg_sl ([.ref h0])).length) Slot.unset).toArray = ls at hl ⊢
  have hl : lv_has ls 1 [(0, .ref h0)] := hl
  refine lv_aload_n hx hb dX3_rows_0 rfl (lv_at hl 0 rfl) ?_
  refine lv_iconst (v := 0) hx hb dX3_rows_1 (by decide) ?_
  refine va_put (D := (dC, dI)) (ci := 4) (v := .int 0) (ty := .int) (C := RX3) (T := TX3) (N := 21) hx hb hts hiX3 tyX3 tyX3_ok nmX3 hown hK hP hD hS 0 rfl rfl 0 (by decide) (hts (.fieldLink RX3 43 "LibraryDiskModel" "thrown" "I") (by decide +kernel)) (fun _ h9 => h9) rfl (by decide +kernel) rfl rfl (Nat.le_of_ble_eq_true rfl) dX3_rows_2 (fun H locs hP hD hS => ?_)
  have hP : va_P (dC, dI) vwCl [(h0, .inr (4, [.int 0, .int (nI n), .ref m1, .ref m2, .ref m3, .ref m4, .int 0, .int 0, .int 0, .int 0, .int 0, .int 0, .int 0, .int 0, .ref m5, .int 0, .int 0, .ref m6, .ref m7, .ref m8, .ref m9]))] H := hP
  have hD : va_D A [(h0, .inr (4, [.int 0, .int (nI n), .ref m1, .ref m2, .ref m3, .ref m4, .int 0, .int 0, .int 0, .int 0, .int 0, .int 0, .int 0, .int 0, .ref m5, .int 0, .int 0, .ref m6, .ref m7, .ref m8, .ref m9]))] := hD
  refine lv_aload_n hx hb dX3_rows_5 rfl (lv_at hl 0 rfl) ?_
  refine va_get (D := (dC, dI)) (ci := 4) (v := .int 0) (C := RX3) (T := TX3) (N := 21) hx hb hts hiX3 hown hK hP 0 rfl rfl 15 (by decide) (hts (.fieldLink RX3 64 "LibraryDiskModel" "rows" "I") (by decide +kernel)) (fun _ h9 => h9) rfl dX3_rows_6 ?_
  have hP9 := hP.sub (ws' := []) [] rfl
  have hD9 := hD.sub (ws' := []) [] (by decide) rfl
  exact W.iret (v := 0) hx hb hr (fun t ht hW => ⟨⟨0, (), rfl, rfl, by rw [ht]; exact hP9, va_K.moved hW.alike hK, by rw [hAe]; exact hD9⟩, hS.F ht⟩) hS.2.2 dX3_rows_9
set_option maxHeartbeats 4000000 in
set_option maxRecDepth 100000 in
/-- row, fresh -/
theorem ct_X3_row (l : Launch) (dC : Nat → ClassId) (dI : Nat → Nat → Nat) (cB cI : ClassId) (h0 m1 m2 m3 m4 m5 m6 m7 m8 m9 : Nat) (n : Nat) (hn : 3 ≤ n ∧ n ≤ 40) (x y : Int32) (sz : Nat) : mq_I l (dC, dI) vwCl [(cB, .byte), (cI, .int)] yX3_row wsX3_row ({ frames := 1, cells := 0, slots := 0, locals := 22 }) [.ref h0, .int x, .int y] [(h0, .inr (4, [.int 0, .int (nI n), .ref m1, .ref m2, .ref m3, .ref m4, .int 0, .int 0, .int 0, .int 0, .int 0, .int 0, .int 0, .int 0, .ref m5, .int 0, .int 0, .ref m6, .ref m7, .ref m8, .ref m9]))] sz (fun (r : Int32) (_u : Unit) => r = -1) (fun (_u : Unit) => [(h0, .inr (4, [.int 0, .int (nI n), .ref m1, .ref m2, .ref m3, .ref m4, .int 0, .int 0, .int 0, .int 0, .int 0, .int 0, .int 0, .int 0, .ref m5, .int 0, .int 0, .ref m6, .ref m7, .ref m8, .ref m9]))]) 0 0 := by
  refine Met.ofW (cc := cX3_row) (maxL := 3) (ret := (some .int)) (by decide) rfl ?_
  intro p e s m args below meth c s₁ B hml hv
  obtain ⟨rfl, hsz, hP, hK, hD0, hN⟩ := hv
  have hx := B.exec
  have hb := B.bytes
  have hr := B.returns
  have hts := atoms_spec (ws := wsX3_row) B.pre
  have hown : s.vm.findClass RX3 = some m.cls := findClass_of_methodNamed B.named
  have hlocks := B.notSynchronized
  have hiX3 : ∀ w ∈ u_ws RX3 TX3 21, w ∈ wsX3_row := by decide +kernel
  subst hsz
  have hD := hD0.self (sz := s.heap.size)
  generalize hAe : va_A [(h0, .inr (4, [.int 0, .int (nI n), .ref m1, .ref m2, .ref m3, .ref m4, .int 0, .int 0, .int 0, .int 0, .int 0, .int 0, .int 0, .int 0, .ref m5, .int 0, .int 0, .ref m6, .ref m7, .ref m8, .ref m9]))] s.heap.size = A at hD ⊢
  have hA : ∀ q : Nat, s.heap.size ≤ q → A q := fun q h => by rw [← hAe]; exact Or.inr h
  have hS : va_S A s.heap s.heap [] := va_S.rf
  have hP : va_P (dC, dI) vwCl [(h0, .inr (4, [.int 0, .int (nI n), .ref m1, .ref m2, .ref m3, .ref m4, .int 0, .int 0, .int 0, .int 0, .int 0, .int 0, .int 0, .int 0, .ref m5, .int 0, .int 0, .ref m6, .ref m7, .ref m8, .ref m9]))] s.heap := hP
  have hl := lv_entry ([.ref h0, .int x, .int y]) (n := 3) (Nat.le_of_ble_eq_true rfl)
  rw [lg_entry_eq]
  generalize (lg_sl ([.ref h0, .int x, .int y]) ++ List.replicate (3 - (lg_sl ([.ref h0, .int x, .int y])).length) Slot.unset).toArray = ls at hl ⊢
  have hl : lv_has ls 3 [(0, .ref h0), (1, .int x), (2, .int y)] := hl
  refine lv_aload_n hx hb dX3_row_0 rfl (lv_at hl 0 rfl) ?_
  refine lv_iconst (v := 0) hx hb dX3_row_1 (by decide) ?_
  refine va_put (D := (dC, dI)) (ci := 4) (v := .int 0) (ty := .int) (C := RX3) (T := TX3) (N := 21) hx hb hts hiX3 tyX3 tyX3_ok nmX3 hown hK hP hD hS 0 rfl rfl 0 (by decide) (hts (.fieldLink RX3 43 "LibraryDiskModel" "thrown" "I") (by decide +kernel)) (fun _ h9 => h9) rfl (by decide +kernel) rfl rfl (Nat.le_of_ble_eq_true rfl) dX3_row_2 (fun H locs hP hD hS => ?_)
  have hP : va_P (dC, dI) vwCl [(h0, .inr (4, [.int 0, .int (nI n), .ref m1, .ref m2, .ref m3, .ref m4, .int 0, .int 0, .int 0, .int 0, .int 0, .int 0, .int 0, .int 0, .ref m5, .int 0, .int 0, .ref m6, .ref m7, .ref m8, .ref m9]))] H := hP
  have hD : va_D A [(h0, .inr (4, [.int 0, .int (nI n), .ref m1, .ref m2, .ref m3, .ref m4, .int 0, .int 0, .int 0, .int 0, .int 0, .int 0, .int 0, .int 0, .ref m5, .int 0, .int 0, .ref m6, .ref m7, .ref m8, .ref m9]))] := hD
  refine lv_iload_n hx hb dX3_row_5 rfl (lv_at hl 1 rfl) ?_
  refine lv_iconst (v := 0) hx hb dX3_row_6 (by decide) ?_
  refine lv_aload_n hx hb dX3_row_7 rfl (lv_at hl 0 rfl) ?_
  refine va_get (D := (dC, dI)) (ci := 4) (v := .int 0) (C := RX3) (T := TX3) (N := 21) hx hb hts hiX3 hown hK hP 0 rfl rfl 15 (by decide) (hts (.fieldLink RX3 64 "LibraryDiskModel" "rows" "I") (by decide +kernel)) (fun _ h9 => h9) rfl dX3_row_8 ?_
  refine lv_iconst (v := 1) hx hb dX3_row_11 (by decide) ?_
  refine lv_isub hx hb dX3_row_12 ?_
  refine mq_calli (wr := [(h0, .inr (4, [.int 0, .int (nI n), .ref m1, .ref m2, .ref m3, .ref m4, .int 0, .int 0, .int 0, .int 0, .int 0, .int 0, .int 0, .int 0, .ref m5, .int 0, .int 0, .ref m6, .ref m7, .ref m8, .ref m9]))]) (fun (_u : Unit) => [(h0, .inr (4, [.int 0, .int (nI n), .ref m1, .ref m2, .ref m3, .ref m4, .int 0, .int 0, .int 0, .int 0, .int 0, .int 0, .int 0, .int 0, .ref m5, .int 0, .int 0, .ref m6, .ref m7, .ref m8, .ref m9]))]) (va_runS (As := [.int x, .int 0, .int ((0 : Int32) - (1 : Int32))]) (rest := []) ⟨hx, hb, hml, hown, hts⟩ (ct_X3_in l dC dI cB cI x 0 ((0 : Int32) - (1 : Int32)) H.size) (va_cwS 3 hts gX3_row_X3_in rfl rfl rfl (by decide +kernel) ⟨Nat.le_of_ble_eq_true rfl, Nat.le_of_ble_eq_true rfl⟩) ⟨mq_blind, mq_pre hK hN hP hD [] rfl (by decide)⟩ rfl rfl hl.1 rfl (lv_room (Nat.le_of_ble_eq_true rfl)) dX3_row_13 ⟨Nat.le_of_ble_eq_true rfl, Nat.le_of_ble_eq_true rfl⟩) hP hD hS hA [] [0] [0] rfl rfl (by decide) (by decide) (by decide) (fun _ => rfl) (fun r_1 _ H locs hw_13 hP hD hS => ?_)
  have hP : va_P (dC, dI) vwCl [(h0, .inr (4, [.int 0, .int (nI n), .ref m1, .ref m2, .ref m3, .ref m4, .int 0, .int 0, .int 0, .int 0, .int 0, .int 0, .int 0, .int 0, .ref m5, .int 0, .int 0, .ref m6, .ref m7, .ref m8, .ref m9]))] H := hP
  have hD : va_D A [(h0, .inr (4, [.int 0, .int (nI n), .ref m1, .ref m2, .ref m3, .ref m4, .int 0, .int 0, .int 0, .int 0, .int 0, .int 0, .int 0, .int 0, .ref m5, .int 0, .int 0, .ref m6, .ref m7, .ref m8, .ref m9]))] := hD
  refine lv_if_ne (tgt := 21) hx hb dX3_row_16 (by decide) (fun c_16 => ?_) (fun c_16 => ?_)
  · exact absurd (hw_13.elim (fun q => absurd (in_none q.2.1) q.2.2) (fun q => q.1)) c_16
  · skip
    refine lv_iconst (v := (-1)) hx hb dX3_row_19 (by decide) ?_
    have hP9 := hP.sub (ws' := [(h0, .inr (4, [.int 0, .int (nI n), .ref m1, .ref m2, .ref m3, .ref m4, .int 0, .int 0, .int 0, .int 0, .int 0, .int 0, .int 0, .int 0, .ref m5, .int 0, .int 0, .ref m6, .ref m7, .ref m8, .ref m9]))]) [0] rfl
    have hD9 := hD.sub (ws' := [(h0, .inr (4, [.int 0, .int (nI n), .ref m1, .ref m2, .ref m3, .ref m4, .int 0, .int 0, .int 0, .int 0, .int 0, .int 0, .int 0, .int 0, .ref m5, .int 0, .int 0, .ref m6, .ref m7, .ref m8, .ref m9]))]) [0] (by decide) rfl
    exact W.iret (v := (-1)) hx hb hr (fun t ht hW => ⟨⟨(-1), (), rfl, rfl, by rw [ht]; exact hP9, va_K.moved hW.alike hK, by rw [hAe]; exact hD9⟩, hS.F ht⟩) hS.2.2 dX3_row_20
set_option maxHeartbeats 4000000 in
set_option maxRecDepth 100000 in
/-- at, fresh -/
theorem ct_X3_at (l : Launch) (dC : Nat → ClassId) (dI : Nat → Nat → Nat) (cB cI : ClassId) (h0 m1 m2 m3 m4 m5 m6 m7 m8 m9 : Nat) (n : Nat) (hn : 3 ≤ n ∧ n ≤ 40) (x y : Int32) (sz : Nat) : mq_I l (dC, dI) vwCl [(cB, .byte), (cI, .int)] yX3_at wsX3_at ({ frames := 1, cells := 0, slots := 0, locals := 22 }) [.ref h0, .int x, .int y] [(h0, .inr (4, [.int 0, .int (nI n), .ref m1, .ref m2, .ref m3, .ref m4, .int 0, .int 0, .int 0, .int 0, .int 0, .int 0, .int 0, .int 0, .ref m5, .int 0, .int 0, .ref m6, .ref m7, .ref m8, .ref m9]))] sz (fun (r : Int32) (_u : Unit) => r = -1) (fun (_u : Unit) => [(h0, .inr (4, [.int 0, .int (nI n), .ref m1, .ref m2, .ref m3, .ref m4, .int 0, .int 0, .int 0, .int 0, .int 0, .int 0, .int 0, .int 0, .ref m5, .int 0, .int 0, .ref m6, .ref m7, .ref m8, .ref m9]))]) 0 0 := by
  refine Met.ofW (cc := cX3_at) (maxL := 3) (ret := (some .int)) (by decide) rfl ?_
  intro p e s m args below meth c s₁ B hml hv
  obtain ⟨rfl, hsz, hP, hK, hD0, hN⟩ := hv
  have hx := B.exec
  have hb := B.bytes
  have hr := B.returns
  have hts := atoms_spec (ws := wsX3_at) B.pre
  have hown : s.vm.findClass RX3 = some m.cls := findClass_of_methodNamed B.named
  have hlocks := B.notSynchronized
  have hiX3 : ∀ w ∈ u_ws RX3 TX3 21, w ∈ wsX3_at := by decide +kernel
  subst hsz
  have hD := hD0.self (sz := s.heap.size)
  generalize hAe : va_A [(h0, .inr (4, [.int 0, .int (nI n), .ref m1, .ref m2, .ref m3, .ref m4, .int 0, .int 0, .int 0, .int 0, .int 0, .int 0, .int 0, .int 0, .ref m5, .int 0, .int 0, .ref m6, .ref m7, .ref m8, .ref m9]))] s.heap.size = A at hD ⊢
  have hA : ∀ q : Nat, s.heap.size ≤ q → A q := fun q h => by rw [← hAe]; exact Or.inr h
  have hS : va_S A s.heap s.heap [] := va_S.rf
  have hP : va_P (dC, dI) vwCl [(h0, .inr (4, [.int 0, .int (nI n), .ref m1, .ref m2, .ref m3, .ref m4, .int 0, .int 0, .int 0, .int 0, .int 0, .int 0, .int 0, .int 0, .ref m5, .int 0, .int 0, .ref m6, .ref m7, .ref m8, .ref m9]))] s.heap := hP
  have hl := lv_entry ([.ref h0, .int x, .int y]) (n := 3) (Nat.le_of_ble_eq_true rfl)
  rw [lg_entry_eq]
  generalize (lg_sl ([.ref h0, .int x, .int y]) ++ List.replicate (3 - (lg_sl ([.ref h0, .int x, .int y])).length) Slot.unset).toArray = ls at hl ⊢
  have hl : lv_has ls 3 [(0, .ref h0), (1, .int x), (2, .int y)] := hl
  refine lv_aload_n hx hb dX3_at_0 rfl (lv_at hl 0 rfl) ?_
  refine lv_iconst (v := 0) hx hb dX3_at_1 (by decide) ?_
  refine va_put (D := (dC, dI)) (ci := 4) (v := .int 0) (ty := .int) (C := RX3) (T := TX3) (N := 21) hx hb hts hiX3 tyX3 tyX3_ok nmX3 hown hK hP hD hS 0 rfl rfl 0 (by decide) (hts (.fieldLink RX3 43 "LibraryDiskModel" "thrown" "I") (by decide +kernel)) (fun _ h9 => h9) rfl (by decide +kernel) rfl rfl (Nat.le_of_ble_eq_true rfl) dX3_at_2 (fun H locs hP hD hS => ?_)
  have hP : va_P (dC, dI) vwCl [(h0, .inr (4, [.int 0, .int (nI n), .ref m1, .ref m2, .ref m3, .ref m4, .int 0, .int 0, .int 0, .int 0, .int 0, .int 0, .int 0, .int 0, .ref m5, .int 0, .int 0, .ref m6, .ref m7, .ref m8, .ref m9]))] H := hP
  have hD : va_D A [(h0, .inr (4, [.int 0, .int (nI n), .ref m1, .ref m2, .ref m3, .ref m4, .int 0, .int 0, .int 0, .int 0, .int 0, .int 0, .int 0, .int 0, .ref m5, .int 0, .int 0, .ref m6, .ref m7, .ref m8, .ref m9]))] := hD
  refine lv_iload_n hx hb dX3_at_5 rfl (lv_at hl 1 rfl) ?_
  refine lv_iconst (v := 0) hx hb dX3_at_6 (by decide) ?_
  refine lv_aload_n hx hb dX3_at_7 rfl (lv_at hl 0 rfl) ?_
  refine va_get (D := (dC, dI)) (ci := 4) (v := .int 0) (C := RX3) (T := TX3) (N := 21) hx hb hts hiX3 hown hK hP 0 rfl rfl 15 (by decide) (hts (.fieldLink RX3 64 "LibraryDiskModel" "rows" "I") (by decide +kernel)) (fun _ h9 => h9) rfl dX3_at_8 ?_
  refine lv_iconst (v := 1) hx hb dX3_at_11 (by decide) ?_
  refine lv_isub hx hb dX3_at_12 ?_
  refine mq_calli (wr := [(h0, .inr (4, [.int 0, .int (nI n), .ref m1, .ref m2, .ref m3, .ref m4, .int 0, .int 0, .int 0, .int 0, .int 0, .int 0, .int 0, .int 0, .ref m5, .int 0, .int 0, .ref m6, .ref m7, .ref m8, .ref m9]))]) (fun (_u : Unit) => [(h0, .inr (4, [.int 0, .int (nI n), .ref m1, .ref m2, .ref m3, .ref m4, .int 0, .int 0, .int 0, .int 0, .int 0, .int 0, .int 0, .int 0, .ref m5, .int 0, .int 0, .ref m6, .ref m7, .ref m8, .ref m9]))]) (va_runS (As := [.int x, .int 0, .int ((0 : Int32) - (1 : Int32))]) (rest := []) ⟨hx, hb, hml, hown, hts⟩ (ct_X3_in l dC dI cB cI x 0 ((0 : Int32) - (1 : Int32)) H.size) (va_cwS 3 hts gX3_at_X3_in rfl rfl rfl (by decide +kernel) ⟨Nat.le_of_ble_eq_true rfl, Nat.le_of_ble_eq_true rfl⟩) ⟨mq_blind, mq_pre hK hN hP hD [] rfl (by decide)⟩ rfl rfl hl.1 rfl (lv_room (Nat.le_of_ble_eq_true rfl)) dX3_at_13 ⟨Nat.le_of_ble_eq_true rfl, Nat.le_of_ble_eq_true rfl⟩) hP hD hS hA [] [0] [0] rfl rfl (by decide) (by decide) (by decide) (fun _ => rfl) (fun r_1 _ H locs hw_13 hP hD hS => ?_)
  have hP : va_P (dC, dI) vwCl [(h0, .inr (4, [.int 0, .int (nI n), .ref m1, .ref m2, .ref m3, .ref m4, .int 0, .int 0, .int 0, .int 0, .int 0, .int 0, .int 0, .int 0, .ref m5, .int 0, .int 0, .ref m6, .ref m7, .ref m8, .ref m9]))] H := hP
  have hD : va_D A [(h0, .inr (4, [.int 0, .int (nI n), .ref m1, .ref m2, .ref m3, .ref m4, .int 0, .int 0, .int 0, .int 0, .int 0, .int 0, .int 0, .int 0, .ref m5, .int 0, .int 0, .ref m6, .ref m7, .ref m8, .ref m9]))] := hD
  refine lv_if_ne (tgt := 21) hx hb dX3_at_16 (by decide) (fun c_16 => ?_) (fun c_16 => ?_)
  · exact absurd (hw_13.elim (fun q => absurd (in_none q.2.1) q.2.2) (fun q => q.1)) c_16
  · skip
    refine lv_iconst (v := (-1)) hx hb dX3_at_19 (by decide) ?_
    have hP9 := hP.sub (ws' := [(h0, .inr (4, [.int 0, .int (nI n), .ref m1, .ref m2, .ref m3, .ref m4, .int 0, .int 0, .int 0, .int 0, .int 0, .int 0, .int 0, .int 0, .ref m5, .int 0, .int 0, .ref m6, .ref m7, .ref m8, .ref m9]))]) [0] rfl
    have hD9 := hD.sub (ws' := [(h0, .inr (4, [.int 0, .int (nI n), .ref m1, .ref m2, .ref m3, .ref m4, .int 0, .int 0, .int 0, .int 0, .int 0, .int 0, .int 0, .int 0, .ref m5, .int 0, .int 0, .ref m6, .ref m7, .ref m8, .ref m9]))]) [0] (by decide) rfl
    exact W.iret (v := (-1)) hx hb hr (fun t ht hW => ⟨⟨(-1), (), rfl, rfl, by rw [ht]; exact hP9, va_K.moved hW.alike hK, by rw [hAe]; exact hD9⟩, hS.F ht⟩) hS.2.2 dX3_at_20
set_option maxHeartbeats 4000000 in
set_option maxRecDepth 100000 in
/-- isByte -/
theorem ct_X3_isByte (l : Launch) (dC : Nat → ClassId) (dI : Nat → Nat → Nat) (cB cI : ClassId) (h0 m1 m2 m3 m4 m5 m6 m7 m8 m9 : Nat) (n : Nat) (hn : 3 ≤ n ∧ n ≤ 40) (x y : Int32) (sz : Nat) : mq_I l (dC, dI) vwCl [(cB, .byte), (cI, .int)] yX3_isByte wsX3_isByte ({ frames := 1, cells := 0, slots := 0, locals := 22 }) [.ref h0, .int x, .int y] [(h0, .inr (4, [.int 0, .int (nI n), .ref m1, .ref m2, .ref m3, .ref m4, .int 0, .int 0, .int 0, .int 0, .int 0, .int 0, .int 0, .int 0, .ref m5, .int 0, .int 0, .ref m6, .ref m7, .ref m8, .ref m9]))] sz (fun (r : Int32) (_u : Unit) => (r = 1 ∧ in_S n x y) ∨ (r = 0 ∧ ¬ in_S n x y)) (fun (_u : Unit) => [(h0, .inr (4, [.int 0, .int (nI n), .ref m1, .ref m2, .ref m3, .ref m4, .int 0, .int 0, .int 0, .int 0, .int 0, .int 0, .int 0, .int 0, .ref m5, .int 0, .int 0, .ref m6, .ref m7, .ref m8, .ref m9]))]) 0 0 := by
  refine Met.ofW (cc := cX3_isByte) (maxL := 3) (ret := (some .boolean)) (by decide) rfl ?_
  intro p e s m args below meth c s₁ B hml hv
  obtain ⟨rfl, hsz, hP, hK, hD0, hN⟩ := hv
  have hx := B.exec
  have hb := B.bytes
  have hr := B.returns
  have hts := atoms_spec (ws := wsX3_isByte) B.pre
  have hown : s.vm.findClass RX3 = some m.cls := findClass_of_methodNamed B.named
  have hlocks := B.notSynchronized
  have hiX3 : ∀ w ∈ u_ws RX3 TX3 21, w ∈ wsX3_isByte := by decide +kernel
  subst hsz
  have hD := hD0.self (sz := s.heap.size)
  generalize hAe : va_A [(h0, .inr (4, [.int 0, .int (nI n), .ref m1, .ref m2, .ref m3, .ref m4, .int 0, .int 0, .int 0, .int 0, .int 0, .int 0, .int 0, .int 0, .ref m5, .int 0, .int 0, .ref m6, .ref m7, .ref m8, .ref m9]))] s.heap.size = A at hD ⊢
  have hA : ∀ q : Nat, s.heap.size ≤ q → A q := fun q h => by rw [← hAe]; exact Or.inr h
  have hS : va_S A s.heap s.heap [] := va_S.rf
  have hP : va_P (dC, dI) vwCl [(h0, .inr (4, [.int 0, .int (nI n), .ref m1, .ref m2, .ref m3, .ref m4, .int 0, .int 0, .int 0, .int 0, .int 0, .int 0, .int 0, .int 0, .ref m5, .int 0, .int 0, .ref m6, .ref m7, .ref m8, .ref m9]))] s.heap := hP
  have hl := lv_entry ([.ref h0, .int x, .int y]) (n := 3) (Nat.le_of_ble_eq_true rfl)
  rw [lg_entry_eq]
  generalize (lg_sl ([.ref h0, .int x, .int y]) ++ List.replicate (3 - (lg_sl ([.ref h0, .int x, .int y])).length) Slot.unset).toArray = ls at hl ⊢
  have hl : lv_has ls 3 [(0, .ref h0), (1, .int x), (2, .int y)] := hl
  refine lv_iload_n hx hb dX3_isByte_0 rfl (lv_at hl 1 rfl) ?_
  refine lv_iconst (v := 0) hx hb dX3_isByte_1 (by decide) ?_
  refine lv_aload_n hx hb dX3_isByte_2 rfl (lv_at hl 0 rfl) ?_
  refine va_get (D := (dC, dI)) (ci := 4) (v := .int (nI n)) (C := RX3) (T := TX3) (N := 21) hx hb hts hiX3 hown hK hP 0 rfl rfl 1 (by decide) (hts (.fieldLink RX3 39 "LibraryDiskModel" "sectors" "I") (by decide +kernel)) (fun _ h9 => h9) rfl dX3_isByte_3 ?_
  refine lv_iconst (v := 1) hx hb dX3_isByte_6 (by decide) ?_
  refine lv_isub hx hb dX3_isByte_7 ?_
  refine mq_calli (wr := [(h0, .inr (4, [.int 0, .int (nI n), .ref m1, .ref m2, .ref m3, .ref m4, .int 0, .int 0, .int 0, .int 0, .int 0, .int 0, .int 0, .int 0, .ref m5, .int 0, .int 0, .ref m6, .ref m7, .ref m8, .ref m9]))]) (fun (_u : Unit) => [(h0, .inr (4, [.int 0, .int (nI n), .ref m1, .ref m2, .ref m3, .ref m4, .int 0, .int 0, .int 0, .int 0, .int 0, .int 0, .int 0, .int 0, .ref m5, .int 0, .int 0, .ref m6, .ref m7, .ref m8, .ref m9]))]) (va_runS (As := [.int x, .int 0, .int ((nI n) - (1 : Int32))]) (rest := []) ⟨hx, hb, hml, hown, hts⟩ (ct_X3_in l dC dI cB cI x 0 ((nI n) - (1 : Int32)) s.heap.size) (va_cwS 3 hts gX3_isByte_X3_in rfl rfl rfl (by decide +kernel) ⟨Nat.le_of_ble_eq_true rfl, Nat.le_of_ble_eq_true rfl⟩) ⟨mq_blind, mq_pre hK hN hP hD [] rfl (by decide)⟩ rfl rfl hl.1 rfl (lv_room (Nat.le_of_ble_eq_true rfl)) dX3_isByte_8 ⟨Nat.le_of_ble_eq_true rfl, Nat.le_of_ble_eq_true rfl⟩) hP hD hS hA [] [0] [0] rfl rfl (by decide) (by decide) (by decide) (fun _ => rfl) (fun r_1 _ H locs hw_8 hP hD hS => ?_)
  have hP : va_P (dC, dI) vwCl [(h0, .inr (4, [.int 0, .int (nI n), .ref m1, .ref m2, .ref m3, .ref m4, .int 0, .int 0, .int 0, .int 0, .int 0, .int 0, .int 0, .int 0, .ref m5, .int 0, .int 0, .ref m6, .ref m7, .ref m8, .ref m9]))] H := hP
  have hD : va_D A [(h0, .inr (4, [.int 0, .int (nI n), .ref m1, .ref m2, .ref m3, .ref m4, .int 0, .int 0, .int 0, .int 0, .int 0, .int 0, .int 0, .int 0, .ref m5, .int 0, .int 0, .ref m6, .ref m7, .ref m8, .ref m9]))] := hD
  refine lv_if_eq (tgt := 28) hx hb dX3_isByte_11 (by decide) (fun c_11 => ?_) (fun c_11 => ?_)
  · skip
    refine lv_iconst (v := 0) hx hb dX3_isByte_28 (by decide) ?_
    have hP9 := hP.sub (ws' := [(h0, .inr (4, [.int 0, .int (nI n), .ref m1, .ref m2, .ref m3, .ref m4, .int 0, .int 0, .int 0, .int 0, .int 0, .int 0, .int 0, .int 0, .ref m5, .int 0, .int 0, .ref m6, .ref m7, .ref m8, .ref m9]))]) [0] rfl
    have hD9 := hD.sub (ws' := [(h0, .inr (4, [.int 0, .int (nI n), .ref m1, .ref m2, .ref m3, .ref m4, .int 0, .int 0, .int 0, .int 0, .int 0, .int 0, .int 0, .int 0, .ref m5, .int 0, .int 0, .ref m6, .ref m7, .ref m8, .ref m9]))]) [0] (by decide) rfl
    exact W.zret (v := 0) hx hb hr (by first | rfl | decide) (fun t ht hW => ⟨⟨0, (), rfl, Or.inr ⟨rfl, in_bx hn.2 (by omega) hw_8 c_11⟩, by rw [ht]; exact hP9, va_K.moved hW.alike hK, by rw [hAe]; exact hD9⟩, hS.F ht⟩) hS.2.2 dX3_isByte_29
  · skip
    refine lv_iload_n hx hb dX3_isByte_14 rfl (lv_at hl 2 rfl) ?_
    refine lv_iconst (v := 0) hx hb dX3_isByte_15 (by decide) ?_
    refine lv_bipush (v := 63) hx hb dX3_isByte_16 (by decide) ?_
    refine mq_calli (wr := [(h0, .inr (4, [.int 0, .int (nI n), .ref m1, .ref m2, .ref m3, .ref m4, .int 0, .int 0, .int 0, .int 0, .int 0, .int 0, .int 0, .int 0, .ref m5, .int 0, .int 0, .ref m6, .ref m7, .ref m8, .ref m9]))]) (fun (_u : Unit) => [(h0, .inr (4, [.int 0, .int (nI n), .ref m1, .ref m2, .ref m3, .ref m4, .int 0, .int 0, .int 0, .int 0, .int 0, .int 0, .int 0, .int 0, .ref m5, .int 0, .int 0, .ref m6, .ref m7, .ref m8, .ref m9]))]) (va_runS (As := [.int y, .int 0, .int 63]) (rest := []) ⟨hx, hb, hml, hown, hts⟩ (ct_X3_in l dC dI cB cI y 0 63 H.size) (va_cwS 3 hts gX3_isByte_X3_in rfl rfl rfl (by decide +kernel) ⟨Nat.le_of_ble_eq_true rfl, Nat.le_of_ble_eq_true rfl⟩) ⟨mq_blind, mq_pre hK hN hP hD [] rfl (by decide)⟩ rfl rfl hl.1 rfl (lv_room (Nat.le_of_ble_eq_true rfl)) dX3_isByte_18 ⟨Nat.le_of_ble_eq_true rfl, Nat.le_of_ble_eq_true rfl⟩) hP hD hS hA [] [0] [0] rfl rfl (by decide) (by decide) (by decide) (fun _ => rfl) (fun r_2 _ H locs hw_18 hP hD hS => ?_)
    have hP : va_P (dC, dI) vwCl [(h0, .inr (4, [.int 0, .int (nI n), .ref m1, .ref m2, .ref m3, .ref m4, .int 0, .int 0, .int 0, .int 0, .int 0, .int 0, .int 0, .int 0, .ref m5, .int 0, .int 0, .ref m6, .ref m7, .ref m8, .ref m9]))] H := hP
    have hD : va_D A [(h0, .inr (4, [.int 0, .int (nI n), .ref m1, .ref m2, .ref m3, .ref m4, .int 0, .int 0, .int 0, .int 0, .int 0, .int 0, .int 0, .int 0, .ref m5, .int 0, .int 0, .ref m6, .ref m7, .ref m8, .ref m9]))] := hD
    refine lv_if_eq (tgt := 28) hx hb dX3_isByte_21 (by decide) (fun c_21 => ?_) (fun c_21 => ?_)
    · skip
      refine lv_iconst (v := 0) hx hb dX3_isByte_28 (by decide) ?_
      have hP9 := hP.sub (ws' := [(h0, .inr (4, [.int 0, .int (nI n), .ref m1, .ref m2, .ref m3, .ref m4, .int 0, .int 0, .int 0, .int 0, .int 0, .int 0, .int 0, .int 0, .ref m5, .int 0, .int 0, .ref m6, .ref m7, .ref m8, .ref m9]))]) [0] rfl
      have hD9 := hD.sub (ws' := [(h0, .inr (4, [.int 0, .int (nI n), .ref m1, .ref m2, .ref m3, .ref m4, .int 0, .int 0, .int 0, .int 0, .int 0, .int 0, .int 0, .int 0, .ref m5, .int 0, .int 0, .ref m6, .ref m7, .ref m8, .ref m9]))]) [0] (by decide) rfl
      exact W.zret (v := 0) hx hb hr (by first | rfl | decide) (fun t ht hW => ⟨⟨0, (), rfl, Or.inr ⟨rfl, in_bz hw_18 c_21⟩, by rw [ht]; exact hP9, va_K.moved hW.alike hK, by rw [hAe]; exact hD9⟩, hS.F ht⟩) hS.2.2 dX3_isByte_29
    · skip
      refine lv_iconst (v := 1) hx hb dX3_isByte_24 (by decide) ?_
      refine lv_goto (tgt := 29) hx hb dX3_isByte_25 (by decide) ?_
      have hP9 := hP.sub (ws' := [(h0, .inr (4, [.int 0, .int (nI n), .ref m1, .ref m2, .ref m3, .ref m4, .int 0, .int 0, .int 0, .int 0, .int 0, .int 0, .int 0, .int 0, .ref m5, .int 0, .int 0, .ref m6, .ref m7, .ref m8, .ref m9]))]) [0] rfl
      have hD9 := hD.sub (ws' := [(h0, .inr (4, [.int 0, .int (nI n), .ref m1, .ref m2, .ref m3, .ref m4, .int 0, .int 0, .int 0, .int 0, .int 0, .int 0, .int 0, .int 0, .ref m5, .int 0, .int 0, .ref m6, .ref m7, .ref m8, .ref m9]))]) [0] (by decide) rfl
      exact W.zret (v := 1) hx hb hr (by first | rfl | decide) (fun t ht hW => ⟨⟨1, (), rfl, Or.inl ⟨rfl, in_by hn.2 (by omega) hw_8 hw_18 c_11 c_21⟩, by rw [ht]; exact hP9, va_K.moved hW.alike hK, by rw [hAe]; exact hD9⟩, hS.F ht⟩) hS.2.2 dX3_isByte_29
set_option maxHeartbeats 4000000 in
set_option maxRecDepth 100000 in
/-- peek, fresh -/
theorem ct_X3_peek (l : Launch) (dC : Nat → ClassId) (dI : Nat → Nat → Nat) (cB cI : ClassId) (h0 m1 m2 m3 m4 m5 m6 m7 m8 m9 : Nat) (n : Nat) (hn : 3 ≤ n ∧ n ≤ 40) (x y : Int32) (sz : Nat) : mq_I l (dC, dI) vwCl [(cB, .byte), (cI, .int)] yX3_peek wsX3_peek ({ frames := 2, cells := 0, slots := 0, locals := 44 }) [.ref h0, .int x, .int y] [(h0, .inr (4, [.int 0, .int (nI n), .ref m1, .ref m2, .ref m3, .ref m4, .int 0, .int 0, .int 0, .int 0, .int 0, .int 0, .int 0, .int 0, .ref m5, .int 0, .int 0, .ref m6, .ref m7, .ref m8, .ref m9])), (m1, .inl (cB, 2560, .inl (fun _ => 0)))] sz (fun (r : Int32) (_u : Unit) => (in_S n x y → r = 0) ∧ (¬ in_S n x y → r = -1)) (fun (_u : Unit) => []) 0 0 := by
  refine Met.ofW (cc := cX3_peek) (maxL := 3) (ret := (some .int)) (by decide) rfl ?_
  intro p e s m args below meth c s₁ B hml hv
  obtain ⟨rfl, hsz, hP, hK, hD0, hN⟩ := hv
  have hx := B.exec
  have hb := B.bytes
  have hr := B.returns
  have hts := atoms_spec (ws := wsX3_peek) B.pre
  have hown : s.vm.findClass RX3 = some m.cls := findClass_of_methodNamed B.named
  have hlocks := B.notSynchronized
  have hiX3 : ∀ w ∈ u_ws RX3 TX3 21, w ∈ wsX3_peek := by decide +kernel
  subst hsz
  have hD := hD0.self (sz := s.heap.size)
  generalize hAe : va_A [(h0, .inr (4, [.int 0, .int (nI n), .ref m1, .ref m2, .ref m3, .ref m4, .int 0, .int 0, .int 0, .int 0, .int 0, .int 0, .int 0, .int 0, .ref m5, .int 0, .int 0, .ref m6, .ref m7, .ref m8, .ref m9])), (m1, .inl (cB, 2560, .inl (fun _ => 0)))] s.heap.size = A at hD ⊢
  have hA : ∀ q : Nat, s.heap.size ≤ q → A q := fun q h => by rw [← hAe]; exact Or.inr h
  have hS : va_S A s.heap s.heap [] := va_S.rf
  have hP : va_P (dC, dI) vwCl [(h0, .inr (4, [.int 0, .int (nI n), .ref m1, .ref m2, .ref m3, .ref m4, .int 0, .int 0, .int 0, .int 0, .int 0, .int 0, .int 0, .int 0, .ref m5, .int 0, .int 0, .ref m6, .ref m7, .ref m8, .ref m9])), (m1, .inl (cB, 2560, .inl (fun _ => 0)))] s.heap := hP
  have hl := lv_entry ([.ref h0, .int x, .int y]) (n := 3) (Nat.le_of_ble_eq_true rfl)
  rw [lg_entry_eq]
  generalize (lg_sl ([.ref h0, .int x, .int y]) ++ List.replicate (3 - (lg_sl ([.ref h0, .int x, .int y])).length) Slot.unset).toArray = ls at hl ⊢
  have hl : lv_has ls 3 [(0, .ref h0), (1, .int x), (2, .int y)] := hl
  refine lv_aload_n hx hb dX3_peek_0 rfl (lv_at hl 0 rfl) ?_
  refine lv_iconst (v := 0) hx hb dX3_peek_1 (by decide) ?_
  refine va_put (D := (dC, dI)) (ci := 4) (v := .int 0) (ty := .int) (C := RX3) (T := TX3) (N := 21) hx hb hts hiX3 tyX3 tyX3_ok nmX3 hown hK hP hD hS 0 rfl rfl 0 (by decide) (hts (.fieldLink RX3 43 "LibraryDiskModel" "thrown" "I") (by decide +kernel)) (fun _ h9 => h9) rfl (by decide +kernel) rfl rfl (Nat.le_of_ble_eq_true rfl) dX3_peek_2 (fun H locs hP hD hS => ?_)
  have hP : va_P (dC, dI) vwCl [(h0, .inr (4, [.int 0, .int (nI n), .ref m1, .ref m2, .ref m3, .ref m4, .int 0, .int 0, .int 0, .int 0, .int 0, .int 0, .int 0, .int 0, .ref m5, .int 0, .int 0, .ref m6, .ref m7, .ref m8, .ref m9])), (m1, .inl (cB, 2560, .inl (fun _ => 0)))] H := hP
  have hD : va_D A [(h0, .inr (4, [.int 0, .int (nI n), .ref m1, .ref m2, .ref m3, .ref m4, .int 0, .int 0, .int 0, .int 0, .int 0, .int 0, .int 0, .int 0, .ref m5, .int 0, .int 0, .ref m6, .ref m7, .ref m8, .ref m9])), (m1, .inl (cB, 2560, .inl (fun _ => 0)))] := hD
  refine lv_aload_n hx hb dX3_peek_5 rfl (lv_at hl 0 rfl) ?_
  refine lv_iload_n hx hb dX3_peek_6 rfl (lv_at hl 1 rfl) ?_
  refine lv_iload_n hx hb dX3_peek_7 rfl (lv_at hl 2 rfl) ?_
  refine mq_calli (wr := [(m1, .inl (cB, 2560, .inl (fun _ => 0)))]) (fun (_u : Unit) => [(h0, .inr (4, [.int 0, .int (nI n), .ref m1, .ref m2, .ref m3, .ref m4, .int 0, .int 0, .int 0, .int 0, .int 0, .int 0, .int 0, .int 0, .ref m5, .int 0, .int 0, .ref m6, .ref m7, .ref m8, .ref m9])), (m1, .inl (cB, 2560, .inl (fun _ => 0)))]) (va_runV (As := [.int x, .int y]) (rest := []) ⟨hx, hb, hml, hown, hts⟩ (ct_X3_isByte l dC dI cB cI h0 m1 m2 m3 m4 m5 m6 m7 m8 m9 n hn x y H.size) (cwV 2 hts gX3_peek_X3_isByte rfl rfl rfl (by decide +kernel) ⟨Nat.le_of_ble_eq_true rfl, Nat.le_of_ble_eq_true rfl⟩) ⟨mq_blind, va_recv hK hP (ci := 4) (q0 := 0) rfl rfl, mq_pre hK hN hP hD [0] rfl (by decide)⟩ rfl rfl hl.1 rfl (lv_room (Nat.le_of_ble_eq_true rfl)) dX3_peek_8 ⟨Nat.le_of_ble_eq_true rfl, Nat.le_of_ble_eq_true rfl⟩) hP hD hS hA [0] [1] [1, 0] rfl rfl (by decide) (by decide) (by decide) (fun _ => rfl) (fun r_1 _ H locs hw_8 hP hD hS => ?_)
  have hP : va_P (dC, dI) vwCl [(h0, .inr (4, [.int 0, .int (nI n), .ref m1, .ref m2, .ref m3, .ref m4, .int 0, .int 0, .int 0, .int 0, .int 0, .int 0, .int 0, .int 0, .ref m5, .int 0, .int 0, .ref m6, .ref m7, .ref m8, .ref m9])), (m1, .inl (cB, 2560, .inl (fun _ => 0)))] H := hP
  have hD : va_D A [(h0, .inr (4, [.int 0, .int (nI n), .ref m1, .ref m2, .ref m3, .ref m4, .int 0, .int 0, .int 0, .int 0, .int 0, .int 0, .int 0, .int 0, .ref m5, .int 0, .int 0, .ref m6, .ref m7, .ref m8, .ref m9])), (m1, .inl (cB, 2560, .inl (fun _ => 0)))] := hD
  refine lv_if_eq (tgt := 32) hx hb dX3_peek_11 (by decide) (fun c_11 => ?_) (fun c_11 => ?_)
  · skip
    refine lv_iconst (v := (-1)) hx hb dX3_peek_32 (by decide) ?_
    have hP9 := hP.sub (ws' := []) [] rfl
    have hD9 := hD.sub (ws' := []) [] (by decide) rfl
    exact W.iret (v := (-1)) hx hb hr (fun t ht hW => ⟨⟨(-1), (), rfl, ⟨fun h => absurd h (hw_8.resolve_left (fun q => absurd (q.1.symm.trans c_11) (by decide))).2, fun _ => rfl⟩, by rw [ht]; exact hP9, va_K.moved hW.alike hK, by rw [hAe]; exact hD9⟩, hS.F ht⟩) hS.2.2 dX3_peek_33
  · skip
    obtain ⟨a, b, ha, hb1, ex, ey⟩ := (hw_8.resolve_right (fun q => c_11 q.1)).2
    refine lv_aload_n hx hb dX3_peek_14 rfl (lv_at hl 0 rfl) ?_
    refine va_get (D := (dC, dI)) (ci := 4) (v := .ref m1) (C := RX3) (T := TX3) (N := 21) hx hb hts hiX3 hown hK hP 0 rfl rfl 2 (by decide) (hts (.fieldLink RX3 7 "LibraryDiskModel" "disk" "[B") (by decide +kernel)) (fun _ h9 => h9) rfl dX3_peek_15 ?_
    refine lv_bipush (v := 64) hx hb dX3_peek_18 (by decide) ?_
    refine lv_iload_n hx hb dX3_peek_20 rfl (lv_at hl 1 rfl) ?_
    refine lv_imul hx hb dX3_peek_21 ?_
    refine lv_iload_n hx hb dX3_peek_22 rfl (lv_at hl 2 rfl) ?_
    refine lv_iadd hx hb dX3_peek_23 ?_
    refine va_bald hx hb hK hP 1 0 rfl rfl (ix_x hn.2 ha hb1 ex ey) dX3_peek_24 ?_
    refine lv_sipush (v := 255) hx hb dX3_peek_25 (by decide) ?_
    refine lv_iand hx hb dX3_peek_28 ?_
    refine lv_goto (tgt := 33) hx hb dX3_peek_29 (by decide) ?_
    have hP9 := hP.sub (ws' := []) [] rfl
    have hD9 := hD.sub (ws' := []) [] (by decide) rfl
    exact W.iret (v := ((fun _ => 0) (((64 : Int32) * x) + y).toNatClampNeg) &&& (255 : Int32)) hx hb hr (fun t ht hW => ⟨⟨((fun _ => 0) (((64 : Int32) * x) + y).toNatClampNeg) &&& (255 : Int32), (), rfl, ⟨fun _ => (show (0 : Int32) &&& 255 = 0 by decide), fun h => absurd ⟨a, b, ha, hb1, ex, ey⟩ h⟩, by rw [ht]; exact hP9, va_K.moved hW.alike hK, by rw [hAe]; exact hD9⟩, hS.F ht⟩) hS.2.2 dX3_peek_33
set_option maxHeartbeats 4000000 in
set_option maxRecDepth 100000 in
/-- poke, fresh -/
theorem ct_X3_poke (l : Launch) (dC : Nat → ClassId) (dI : Nat → Nat → Nat) (cB cI : ClassId) (h0 m1 m2 m3 m4 m5 m6 m7 m8 m9 : Nat) (n : Nat) (hn : 3 ≤ n ∧ n ≤ 40) (x y v : Int32) (sz : Nat) : mq_I l (dC, dI) vwCl [(cB, .byte), (cI, .int)] yX3_poke wsX3_poke ({ frames := 2, cells := 0, slots := 0, locals := 44 }) [.ref h0, .int x, .int y, .int v] [(h0, .inr (4, [.int 0, .int (nI n), .ref m1, .ref m2, .ref m3, .ref m4, .int 0, .int 0, .int 0, .int 0, .int 0, .int 0, .int 0, .int 0, .ref m5, .int 0, .int 0, .ref m6, .ref m7, .ref m8, .ref m9])), (m1, .inl (cB, 2560, .inl (fun _ => 0)))] sz (fun (r : Int32) (_u : Unit) => (in_S n x y → r = v.toInt8.toInt32 &&& 255) ∧ (¬ in_S n x y → r = -1)) (fun (_u : Unit) => []) 0 0 := by
  refine Met.ofW (cc := cX3_poke) (maxL := 4) (ret := (some .int)) (by decide) rfl ?_
  intro p e s m args below meth c s₁ B hml hv
  obtain ⟨rfl, hsz, hP, hK, hD0, hN⟩ := hv
  have hx := B.exec
  have hb := B.bytes
  have hr := B.returns
  have hts := atoms_spec (ws := wsX3_poke) B.pre
  have hown : s.vm.findClass RX3 = some m.cls := findClass_of_methodNamed B.named
  have hlocks := B.notSynchronized
  have hiX3 : ∀ w ∈ u_ws RX3 TX3 21, w ∈ wsX3_poke := by decide +kernel
  subst hsz
  have hD := hD0.self (sz := s.heap.size)
  generalize hAe : va_A [(h0, .inr (4, [.int 0, .int (nI n), .ref m1, .ref m2, .ref m3, .ref m4, .int 0, .int 0, .int 0, .int 0, .int 0, .int 0, .int 0, .int 0, .ref m5, .int 0, .int 0, .ref m6, .ref m7, .ref m8, .ref m9])), (m1, .inl (cB, 2560, .inl (fun _ => 0)))] s.heap.size = A at hD ⊢
  have hA : ∀ q : Nat, s.heap.size ≤ q → A q := fun q h => by rw [← hAe]; exact Or.inr h
  have hS : va_S A s.heap s.heap [] := va_S.rf
  have hP : va_P (dC, dI) vwCl [(h0, .inr (4, [.int 0, .int (nI n), .ref m1, .ref m2, .ref m3, .ref m4, .int 0, .int 0, .int 0, .int 0, .int 0, .int 0, .int 0, .int 0, .ref m5, .int 0, .int 0, .ref m6, .ref m7, .ref m8, .ref m9])), (m1, .inl (cB, 2560, .inl (fun _ => 0)))] s.heap := hP
  have hl := lv_entry ([.ref h0, .int x, .int y, .int v]) (n := 4) (Nat.le_of_ble_eq_true rfl)
  rw [lg_entry_eq]
  generalize (lg_sl ([.ref h0, .int x, .int y, .int v]) ++ List.replicate (4 - (lg_sl ([.ref h0, .int x, .int y, .int v])).length) Slot.unset).toArray = ls at hl ⊢
  have hl : lv_has ls 4 [(0, .ref h0), (1, .int x), (2, .int y), (3, .int v)] := hl
  refine lv_aload_n hx hb dX3_poke_0 rfl (lv_at hl 0 rfl) ?_
  refine lv_iconst (v := 0) hx hb dX3_poke_1 (by decide) ?_
  refine va_put (D := (dC, dI)) (ci := 4) (v := .int 0) (ty := .int) (C := RX3) (T := TX3) (N := 21) hx hb hts hiX3 tyX3 tyX3_ok nmX3 hown hK hP hD hS 0 rfl rfl 0 (by decide) (hts (.fieldLink RX3 43 "LibraryDiskModel" "thrown" "I") (by decide +kernel)) (fun _ h9 => h9) rfl (by decide +kernel) rfl rfl (Nat.le_of_ble_eq_true rfl) dX3_poke_2 (fun H locs hP hD hS => ?_)
  have hP : va_P (dC, dI) vwCl [(h0, .inr (4, [.int 0, .int (nI n), .ref m1, .ref m2, .ref m3, .ref m4, .int 0, .int 0, .int 0, .int 0, .int 0, .int 0, .int 0, .int 0, .ref m5, .int 0, .int 0, .ref m6, .ref m7, .ref m8, .ref m9])), (m1, .inl (cB, 2560, .inl (fun _ => 0)))] H := hP
  have hD : va_D A [(h0, .inr (4, [.int 0, .int (nI n), .ref m1, .ref m2, .ref m3, .ref m4, .int 0, .int 0, .int 0, .int 0, .int 0, .int 0, .int 0, .int 0, .ref m5, .int 0, .int 0, .ref m6, .ref m7, .ref m8, .ref m9])), (m1, .inl (cB, 2560, .inl (fun _ => 0)))] := hD
  refine lv_aload_n hx hb dX3_poke_5 rfl (lv_at hl 0 rfl) ?_
  refine lv_iload_n hx hb dX3_poke_6 rfl (lv_at hl 1 rfl) ?_
  refine lv_iload_n hx hb dX3_poke_7 rfl (lv_at hl 2 rfl) ?_
  refine mq_calli (wr := [(m1, .inl (cB, 2560, .inl (fun _ => 0)))]) (fun (_u : Unit) => [(h0, .inr (4, [.int 0, .int (nI n), .ref m1, .ref m2, .ref m3, .ref m4, .int 0, .int 0, .int 0, .int 0, .int 0, .int 0, .int 0, .int 0, .ref m5, .int 0, .int 0, .ref m6, .ref m7, .ref m8, .ref m9])), (m1, .inl (cB, 2560, .inl (fun _ => 0)))]) (va_runV (As := [.int x, .int y]) (rest := []) ⟨hx, hb, hml, hown, hts⟩ (ct_X3_isByte l dC dI cB cI h0 m1 m2 m3 m4 m5 m6 m7 m8 m9 n hn x y H.size) (cwV 2 hts gX3_poke_X3_isByte rfl rfl rfl (by decide +kernel) ⟨Nat.le_of_ble_eq_true rfl, Nat.le_of_ble_eq_true rfl⟩) ⟨mq_blind, va_recv hK hP (ci := 4) (q0 := 0) rfl rfl, mq_pre hK hN hP hD [0] rfl (by decide)⟩ rfl rfl hl.1 rfl (lv_room (Nat.le_of_ble_eq_true rfl)) dX3_poke_8 ⟨Nat.le_of_ble_eq_true rfl, Nat.le_of_ble_eq_true rfl⟩) hP hD hS hA [0] [1] [1, 0] rfl rfl (by decide) (by decide) (by decide) (fun _ => rfl) (fun r_1 _ H locs hw_8 hP hD hS => ?_)
  have hP : va_P (dC, dI) vwCl [(h0, .inr (4, [.int 0, .int (nI n), .ref m1, .ref m2, .ref m3, .ref m4, .int 0, .int 0, .int 0, .int 0, .int 0, .int 0, .int 0, .int 0, .ref m5, .int 0, .int 0, .ref m6, .ref m7, .ref m8, .ref m9])), (m1, .inl (cB, 2560, .inl (fun _ => 0)))] H := hP
  have hD : va_D A [(h0, .inr (4, [.int 0, .int (nI n), .ref m1, .ref m2, .ref m3, .ref m4, .int 0, .int 0, .int 0, .int 0, .int 0, .int 0, .int 0, .int 0, .ref m5, .int 0, .int 0, .ref m6, .ref m7, .ref m8, .ref m9])), (m1, .inl (cB, 2560, .inl (fun _ => 0)))] := hD
  refine lv_if_ne (tgt := 16) hx hb dX3_poke_11 (by decide) (fun c_11 => ?_) (fun c_11 => ?_)
  · skip
    obtain ⟨a, b, ha, hb1, ex, ey⟩ := (hw_8.resolve_right (fun q => c_11 q.1)).2
    refine lv_aload_n hx hb dX3_poke_16 rfl (lv_at hl 0 rfl) ?_
    refine va_get (D := (dC, dI)) (ci := 4) (v := .ref m1) (C := RX3) (T := TX3) (N := 21) hx hb hts hiX3 hown hK hP 0 rfl rfl 2 (by decide) (hts (.fieldLink RX3 7 "LibraryDiskModel" "disk" "[B") (by decide +kernel)) (fun _ h9 => h9) rfl dX3_poke_17 ?_
    refine lv_bipush (v := 64) hx hb dX3_poke_20 (by decide) ?_
    refine lv_iload_n hx hb dX3_poke_22 rfl (lv_at hl 1 rfl) ?_
    refine lv_imul hx hb dX3_poke_23 ?_
    refine lv_iload_n hx hb dX3_poke_24 rfl (lv_at hl 2 rfl) ?_
    refine lv_iadd hx hb dX3_poke_25 ?_
    refine lv_dup2_11 hx hb dX3_poke_26 rfl rfl ?_
    refine va_bald hx hb hK hP 1 0 rfl rfl (ix_x hn.2 ha hb1 ex ey) dX3_poke_27 ?_
    refine lv_iload_n hx hb dX3_poke_28 rfl (lv_at hl 3 rfl) ?_
    refine lv_i2b hx hb dX3_poke_29 rfl ?_
    refine lv_ixor hx hb dX3_poke_30 ?_
    refine lv_i2b hx hb dX3_poke_31 rfl ?_
    refine va_bast hx hb hK hP hD hS 1 0 rfl rfl (ix_x hn.2 ha hb1 ex ey) dX3_poke_32 (fun H locs hP hD hS => ?_)
    have hP : va_P (dC, dI) vwCl [(h0, .inr (4, [.int 0, .int (nI n), .ref m1, .ref m2, .ref m3, .ref m4, .int 0, .int 0, .int 0, .int 0, .int 0, .int 0, .int 0, .int 0, .ref m5, .int 0, .int 0, .ref m6, .ref m7, .ref m8, .ref m9])), (m1, .inl (cB, 2560, .inl (upd (fun _ => 0) (((64 : Int32) * x) + y).toNatClampNeg (vp_nar .byte ((((fun _ => 0) (((64 : Int32) * x) + y).toNatClampNeg) ^^^ v.toInt8.toInt32).toInt8.toInt32)))))] H := hP
    have hD : va_D A [(h0, .inr (4, [.int 0, .int (nI n), .ref m1, .ref m2, .ref m3, .ref m4, .int 0, .int 0, .int 0, .int 0, .int 0, .int 0, .int 0, .int 0, .ref m5, .int 0, .int 0, .ref m6, .ref m7, .ref m8, .ref m9])), (m1, .inl (cB, 2560, .inl (upd (fun _ => 0) (((64 : Int32) * x) + y).toNatClampNeg (vp_nar .byte ((((fun _ => 0) (((64 : Int32) * x) + y).toNatClampNeg) ^^^ v.toInt8.toInt32).toInt8.toInt32)))))] := hD
    obtain ⟨f_2, ef_2⟩ : ∃ z : Nat → Int32, z = upd (fun _ => 0) (((64 : Int32) * x) + y).toNatClampNeg (vp_nar .byte ((((fun _ => 0) (((64 : Int32) * x) + y).toNatClampNeg) ^^^ v.toInt8.toInt32).toInt8.toInt32)) := ⟨_, rfl⟩
    rw [← ef_2] at hP hD
    refine lv_aload_n hx hb dX3_poke_33 rfl (lv_at hl 0 rfl) ?_
    refine va_get (D := (dC, dI)) (ci := 4) (v := .ref m1) (C := RX3) (T := TX3) (N := 21) hx hb hts hiX3 hown hK hP 0 rfl rfl 2 (by decide) (hts (.fieldLink RX3 7 "LibraryDiskModel" "disk" "[B") (by decide +kernel)) (fun _ h9 => h9) rfl dX3_poke_34 ?_
    refine lv_bipush (v := 64) hx hb dX3_poke_37 (by decide) ?_
    refine lv_iload_n hx hb dX3_poke_39 rfl (lv_at hl 1 rfl) ?_
    refine lv_imul hx hb dX3_poke_40 ?_
    refine lv_iload_n hx hb dX3_poke_41 rfl (lv_at hl 2 rfl) ?_
    refine lv_iadd hx hb dX3_poke_42 ?_
    refine va_bald hx hb hK hP 1 0 rfl rfl (ix_x hn.2 ha hb1 ex ey) dX3_poke_43 ?_
    refine lv_sipush (v := 255) hx hb dX3_poke_44 (by decide) ?_
    refine lv_iand hx hb dX3_poke_47 ?_
    have hP9 := hP.sub (ws' := []) [] rfl
    have hD9 := hD.sub (ws' := []) [] (by decide) rfl
    exact W.iret (v := (f_2 (((64 : Int32) * x) + y).toNatClampNeg) &&& (255 : Int32)) hx hb hr (fun t ht hW => ⟨⟨(f_2 (((64 : Int32) * x) + y).toNatClampNeg) &&& (255 : Int32), (), rfl, ⟨fun _ => by rw [ef_2, pk_us, pk_vb, ex_0, to8], fun h => absurd ⟨a, b, ha, hb1, ex, ey⟩ h⟩, by rw [ht]; exact hP9, va_K.moved hW.alike hK, by rw [hAe]; exact hD9⟩, hS.F ht⟩) hS.2.2 dX3_poke_48
  · skip
    refine lv_iconst (v := (-1)) hx hb dX3_poke_14 (by decide) ?_
    have hP9 := hP.sub (ws' := []) [] rfl
    have hD9 := hD.sub (ws' := []) [] (by decide) rfl
    exact W.iret (v := (-1)) hx hb hr (fun t ht hW => ⟨⟨(-1), (), rfl, ⟨fun h => absurd h (hw_8.resolve_left (fun q => absurd (q.1.symm.trans c_11) (by decide))).2, fun _ => rfl⟩, by rw [ht]; exact hP9, va_K.moved hW.alike hK, by rw [hAe]; exact hD9⟩, hS.F ht⟩) hS.2.2 dX3_poke_15
set_option maxHeartbeats 4000000 in
set_option maxRecDepth 100000 in
/-- wrong, fresh -/
theorem ct_X3_wrong (l : Launch) (dC : Nat → ClassId) (dI : Nat → Nat → Nat) (cB cI : ClassId) (h0 m1 m2 m3 m4 m5 m6 m7 m8 m9 : Nat) (n : Nat) (hn : 3 ≤ n ∧ n ≤ 40) (x : Int32) (sz : Nat) : mq_I l (dC, dI) vwCl [(cB, .byte), (cI, .int)] yX3_wrong wsX3_wrong ({ frames := 2, cells := 0, slots := 0, locals := 44 }) [.ref h0, .int x] [(h0, .inr (4, [.int 0, .int (nI n), .ref m1, .ref m2, .ref m3, .ref m4, .int 0, .int 0, .int 0, .int 0, .int 0, .int 0, .int 0, .int 0, .ref m5, .int 0, .int 0, .ref m6, .ref m7, .ref m8, .ref m9])), (m1, .inl (cB, 2560, .inl (fun _ => 0)))] sz (fun (r : Int32) (_u : Unit) => r = -1) (fun (_u : Unit) => []) 0 0 := by
  refine Met.ofW (cc := cX3_wrong) (maxL := 4) (ret := (some .int)) (by decide) rfl ?_
  intro p e s m args below meth c s₁ B hml hv
  obtain ⟨rfl, hsz, hP, hK, hD0, hN⟩ := hv
  have hx := B.exec
  have hb := B.bytes
  have hr := B.returns
  have hts := atoms_spec (ws := wsX3_wrong) B.pre
  have hown : s.vm.findClass RX3 = some m.cls := findClass_of_methodNamed B.named
  have hlocks := B.notSynchronized
  have hiX3 : ∀ w ∈ u_ws RX3 TX3 21, w ∈ wsX3_wrong := by decide +kernel
  subst hsz
  have hD := hD0.self (sz := s.heap.size)
  generalize hAe : va_A [(h0, .inr (4, [.int 0, .int (nI n), .ref m1, .ref m2, .ref m3, .ref m4, .int 0, .int 0, .int 0, .int 0, .int 0, .int 0, .int 0, .int 0, .ref m5, .int 0, .int 0, .ref m6, .ref m7, .ref m8, .ref m9])), (m1, .inl (cB, 2560, .inl (fun _ => 0)))] s.heap.size = A at hD ⊢
  have hA : ∀ q : Nat, s.heap.size ≤ q → A q := fun q h => by rw [← hAe]; exact Or.inr h
  have hS : va_S A s.heap s.heap [] := va_S.rf
  have hP : va_P (dC, dI) vwCl [(h0, .inr (4, [.int 0, .int (nI n), .ref m1, .ref m2, .ref m3, .ref m4, .int 0, .int 0, .int 0, .int 0, .int 0, .int 0, .int 0, .int 0, .ref m5, .int 0, .int 0, .ref m6, .ref m7, .ref m8, .ref m9])), (m1, .inl (cB, 2560, .inl (fun _ => 0)))] s.heap := hP
  have hl := lv_entry ([.ref h0, .int x]) (n := 4) (Nat.le_of_ble_eq_true rfl)
  rw [lg_entry_eq]
  generalize (lg_sl ([.ref h0, .int x]) ++ List.replicate (4 - (lg_sl ([.ref h0, .int x])).length) Slot.unset).toArray = ls at hl ⊢
  have hl : lv_has ls 4 [(0, .ref h0), (1, .int x)] := hl
  refine lv_aload_n hx hb dX3_wrong_0 rfl (lv_at hl 0 rfl) ?_
  refine lv_iconst (v := 0) hx hb dX3_wrong_1 (by decide) ?_
  refine va_put (D := (dC, dI)) (ci := 4) (v := .int 0) (ty := .int) (C := RX3) (T := TX3) (N := 21) hx hb hts hiX3 tyX3 tyX3_ok nmX3 hown hK hP hD hS 0 rfl rfl 0 (by decide) (hts (.fieldLink RX3 43 "LibraryDiskModel" "thrown" "I") (by decide +kernel)) (fun _ h9 => h9) rfl (by decide +kernel) rfl rfl (Nat.le_of_ble_eq_true rfl) dX3_wrong_2 (fun H locs hP hD hS => ?_)
  have hP : va_P (dC, dI) vwCl [(h0, .inr (4, [.int 0, .int (nI n), .ref m1, .ref m2, .ref m3, .ref m4, .int 0, .int 0, .int 0, .int 0, .int 0, .int 0, .int 0, .int 0, .ref m5, .int 0, .int 0, .ref m6, .ref m7, .ref m8, .ref m9])), (m1, .inl (cB, 2560, .inl (fun _ => 0)))] H := hP
  have hD : va_D A [(h0, .inr (4, [.int 0, .int (nI n), .ref m1, .ref m2, .ref m3, .ref m4, .int 0, .int 0, .int 0, .int 0, .int 0, .int 0, .int 0, .int 0, .ref m5, .int 0, .int 0, .ref m6, .ref m7, .ref m8, .ref m9])), (m1, .inl (cB, 2560, .inl (fun _ => 0)))] := hD
  refine lv_iconst (v := 0) hx hb dX3_wrong_5 (by decide) ?_
  refine lv_istore_n (lv' := [(2, .int 0), (0, .ref h0), (1, .int x)]) hx hb dX3_wrong_6 rfl hl (by decide) rfl (fun ls hl => ?_)
  refine lv_iconst (v := 0) hx hb dX3_wrong_7 (by decide) ?_
  refine lv_istore_n (lv' := [(3, .int 0), (2, .int 0), (0, .ref h0), (1, .int x)]) hx hb dX3_wrong_8 rfl hl (by decide) rfl (fun ls hl => ?_)
  refine mq_loop 9 4 (σ := Nat) (I := fun i => i ≤ n) (μ := fun i => n - i) (wsf := fun i => [(h0, .inr (4, [.int 0, .int (nI n), .ref m1, .ref m2, .ref m3, .ref m4, .int 0, .int 0, .int 0, .int 0, .int 0, .int 0, .int 0, .int 0, .ref m5, .int 0, .int 0, .ref m6, .ref m7, .ref m8, .ref m9])), (m1, .inl (cB, 2560, .inl (fun _ => 0)))]) (lvf := fun i => [(0, .ref h0), (1, .int x), (2, .int 0), (3, .int (nI i))]) (fun i hI_9 ih_9 H locs ls hP hD hS hl => ?_) 0 (Nat.zero_le _) (hP.sub [0, 1] rfl) (hD.sub [0, 1] (by decide) rfl) hS (lv_sub hl [2, 3, 1, 0] rfl)
  skip
  have hI : i ≤ n := hI_9
  have hP : va_P (dC, dI) vwCl [(h0, .inr (4, [.int 0, .int (nI n), .ref m1, .ref m2, .ref m3, .ref m4, .int 0, .int 0, .int 0, .int 0, .int 0, .int 0, .int 0, .int 0, .ref m5, .int 0, .int 0, .ref m6, .ref m7, .ref m8, .ref m9])), (m1, .inl (cB, 2560, .inl (fun _ => 0)))] H := hP
  have hD : va_D A [(h0, .inr (4, [.int 0, .int (nI n), .ref m1, .ref m2, .ref m3, .ref m4, .int 0, .int 0, .int 0, .int 0, .int 0, .int 0, .int 0, .int 0, .ref m5, .int 0, .int 0, .ref m6, .ref m7, .ref m8, .ref m9])), (m1, .inl (cB, 2560, .inl (fun _ => 0)))] := hD
  have hl : lv_has ls 4 [(0, .ref h0), (1, .int x), (2, .int 0), (3, .int (nI i))] := hl
  refine lv_iload_n hx hb dX3_wrong_9 rfl (lv_at hl 3 rfl) ?_
  refine lv_aload_n hx hb dX3_wrong_10 rfl (lv_at hl 0 rfl) ?_
  refine va_get (D := (dC, dI)) (ci := 4) (v := .int (nI n)) (C := RX3) (T := TX3) (N := 21) hx hb hts hiX3 hown hK hP 0 rfl rfl 1 (by decide) (hts (.fieldLink RX3 39 "LibraryDiskModel" "sectors" "I") (by decide +kernel)) (fun _ h9 => h9) rfl dX3_wrong_11 ?_
  refine lv_icmp_ge (tgt := 44) hx hb dX3_wrong_14 (by decide) (fun c_14 => ?_) (fun c_14 => ?_)
  · skip
    refine lv_iconst (v := (-1)) hx hb dX3_wrong_44 (by decide) ?_
    have hP9 := hP.sub (ws' := []) [] rfl
    have hD9 := hD.sub (ws' := []) [] (by decide) rfl
    exact W.iret (v := (-1)) hx hb hr (fun t ht hW => ⟨⟨(-1), (), rfl, rfl, by rw [ht]; exact hP9, va_K.moved hW.alike hK, by rw [hAe]; exact hD9⟩, hS.F ht⟩) hS.2.2 dX3_wrong_45
  · skip
    have hlt : i < n := k_lt (k := n) rfl (by omega) (by omega) c_14
    refine lv_aload_n hx hb dX3_wrong_17 rfl (lv_at hl 0 rfl) ?_
    refine lv_iload_n hx hb dX3_wrong_18 rfl (lv_at hl 3 rfl) ?_
    refine mq_calli (wr := []) (fun (_u : Unit) => [(h0, .inr (4, [.int 0, .int (nI n), .ref m1, .ref m2, .ref m3, .ref m4, .int 0, .int 0, .int 0, .int 0, .int 0, .int 0, .int 0, .int 0, .ref m5, .int 0, .int 0, .ref m6, .ref m7, .ref m8, .ref m9])), (m1, .inl (cB, 2560, .inl (fun _ => 0)))]) (va_runV (As := [.int (nI i)]) (rest := []) ⟨hx, hb, hml, hown, hts⟩ (ct_X3_isWhole_z l dC dI cB cI h0 m1 m2 m3 m4 m5 m6 m7 m8 m9 n hn (fun _ => 0) (fun _ => rfl) i (by omega) H.size) (cwV 1 hts gX3_wrong_X3_isWhole rfl rfl rfl (by decide +kernel) ⟨Nat.le_of_ble_eq_true rfl, Nat.le_of_ble_eq_true rfl⟩) ⟨mq_blind, va_recv hK hP (ci := 4) (q0 := 0) rfl rfl, mq_pre hK hN hP hD [0, 1] rfl (by decide)⟩ rfl rfl hl.1 rfl (lv_room (Nat.le_of_ble_eq_true rfl)) dX3_wrong_19 ⟨Nat.le_of_ble_eq_true rfl, Nat.le_of_ble_eq_true rfl⟩) hP hD hS hA [0, 1] [] [0, 1] rfl rfl (by decide) (by decide) (by decide) (fun _ => rfl) (fun r_1 _ H locs hw_19 hP hD hS => ?_)
    have hP : va_P (dC, dI) vwCl [(h0, .inr (4, [.int 0, .int (nI n), .ref m1, .ref m2, .ref m3, .ref m4, .int 0, .int 0, .int 0, .int 0, .int 0, .int 0, .int 0, .int 0, .ref m5, .int 0, .int 0, .ref m6, .ref m7, .ref m8, .ref m9])), (m1, .inl (cB, 2560, .inl (fun _ => 0)))] H := hP
    have hD : va_D A [(h0, .inr (4, [.int 0, .int (nI n), .ref m1, .ref m2, .ref m3, .ref m4, .int 0, .int 0, .int 0, .int 0, .int 0, .int 0, .int 0, .int 0, .ref m5, .int 0, .int 0, .ref m6, .ref m7, .ref m8, .ref m9])), (m1, .inl (cB, 2560, .inl (fun _ => 0)))] := hD
    refine lv_if_eq (tgt := 28) hx hb dX3_wrong_22 (by decide) (fun c_22 => ?_) (fun c_22 => ?_)
    · exact absurd (hw_19.symm.trans c_22) (by decide)
    · skip
      refine lv_goto (tgt := 38) hx hb dX3_wrong_25 (by decide) ?_
      obtain ⟨x_2, ex_2⟩ : ∃ y : Int32, y = (nI i) + 1 := ⟨_, rfl⟩
      refine lv_iinc (v := x_2) (lv' := [(3, .int x_2), (0, .ref h0), (1, .int x), (2, .int 0)]) hx hb dX3_wrong_38 hl (k := 3) rfl (by rw [ex_2]; rfl) (by decide) rfl (fun ls hl => ?_)
      refine lv_goto (tgt := 9) hx hb dX3_wrong_41 (by decide) ?_
      obtain rfl : x_2 = nI (i + 1) := by rw [ex_2]; exact nI_1 i
      exact ih_9 (i + 1) (show i + 1 ≤ n by omega) (show n - (i + 1) < n - i by omega) _ _ _ (hP.sub [0, 1] rfl) (hD.sub [0, 1] (by decide) rfl) hS (lv_sub hl [1, 2, 3, 0] rfl)
set_option maxHeartbeats 4000000 in
set_option maxRecDepth 100000 in
/-- bad, fresh -/
theorem ct_X3_bad (l : Launch) (dC : Nat → ClassId) (dI : Nat → Nat → Nat) (cB cI : ClassId) (h0 m1 m2 m3 m4 m5 m6 m7 m8 m9 : Nat) (n : Nat) (hn : 3 ≤ n ∧ n ≤ 40) (sz : Nat) : mq_I l (dC, dI) vwCl [(cB, .byte), (cI, .int)] yX3_bad wsX3_bad ({ frames := 0, cells := 0, slots := 0, locals := 0 }) [.ref h0] [(h0, .inr (4, [.int 0, .int (nI n), .ref m1, .ref m2, .ref m3, .ref m4, .int 0, .int 0, .int 0, .int 0, .int 0, .int 0, .int 0, .int 0, .ref m5, .int 0, .int 0, .ref m6, .ref m7, .ref m8, .ref m9]))] sz (fun (r : Int32) (_u : Unit) => r = 0) (fun (_u : Unit) => []) 0 0 := by
  refine Met.ofW (cc := cX3_bad) (maxL := 1) (ret := (some .int)) (by decide) rfl ?_
  intro p e s m args below meth c s₁ B hml hv
  obtain ⟨rfl, hsz, hP, hK, hD0, hN⟩ := hv
  have hx := B.exec
  have hb := B.bytes
  have hr := B.returns
  have hts := atoms_spec (ws := wsX3_bad) B.pre
  have hown : s.vm.findClass RX3 = some m.cls := findClass_of_methodNamed B.named
  have hlocks := B.notSynchronized
  have hiX3 : ∀ w ∈ u_ws RX3 TX3 21, w ∈ wsX3_bad := by decide +kernel
  subst hsz
  have hD := hD0.self (sz := s.heap.size)
  generalize hAe : va_A [(h0, .inr (4, [.int 0, .int (nI n), .ref m1, .ref m2, .ref m3, .ref m4, .int 0, .int 0, .int 0, .int 0, .int 0, .int 0, .int 0, .int 0, .ref m5, .int 0, .int 0, .ref m6, .ref m7, .ref m8, .ref m9]))] s.heap.size = A at hD ⊢
  have hA : ∀ q : Nat, s.heap.size ≤ q → A q := fun q h => by rw [← hAe]; exact Or.inr h
  have hS : va_S A s.heap s.heap [] := va_S.rf
  have hP : va_P (dC, dI) vwCl [(h0, .inr (4, [.int 0, .int (nI n), .ref m1, .ref m2, .ref m3, .ref m4, .int 0, .int 0, .int 0, .int 0, .int 0, .int 0, .int 0, .int 0, .ref m5, .int 0, .int 0, .ref m6, .ref m7, .ref m8, .ref m9]))] s.heap := hP
  have hl := lv_entry ([.ref h0]) (n := 1) (Nat.le_of_ble_eq_true rfl)
  rw [lg_entry_eq]
  generalize (lg_sl ([.ref h0]) ++ List.replicate (1 - (lg_sl ([.ref h0])).length) Slot.unset).toArray = ls at hl ⊢
  have hl : lv_has ls 1 [(0, .ref h0)] := hl
  refine lv_aload_n hx hb dX3_bad_0 rfl (lv_at hl 0 rfl) ?_
  refine lv_iconst (v := 0) hx hb dX3_bad_1 (by decide) ?_
  refine va_put (D := (dC, dI)) (ci := 4) (v := .int 0) (ty := .int) (C := RX3) (T := TX3) (N := 21) hx hb hts hiX3 tyX3 tyX3_ok nmX3 hown hK hP hD hS 0 rfl rfl 0 (by decide) (hts (.fieldLink RX3 43 "LibraryDiskModel" "thrown" "I") (by decide +kernel)) (fun _ h9 => h9) rfl (by decide +kernel) rfl rfl (Nat.le_of_ble_eq_true rfl) dX3_bad_2 (fun H locs hP hD hS => ?_)
  have hP : va_P (dC, dI) vwCl [(h0, .inr (4, [.int 0, .int (nI n), .ref m1, .ref m2, .ref m3, .ref m4, .int 0, .int 0, .int 0, .int 0, .int 0, .int 0, .int 0, .int 0, .ref m5, .int 0, .int 0, .ref m6, .ref m7, .ref m8, .ref m9]))] H := hP
  have hD : va_D A [(h0, .inr (4, [.int 0, .int (nI n), .ref m1, .ref m2, .ref m3, .ref m4, .int 0, .int 0, .int 0, .int 0, .int 0, .int 0, .int 0, .int 0, .ref m5, .int 0, .int 0, .ref m6, .ref m7, .ref m8, .ref m9]))] := hD
  refine lv_aload_n hx hb dX3_bad_5 rfl (lv_at hl 0 rfl) ?_
  refine va_get (D := (dC, dI)) (ci := 4) (v := .int 0) (C := RX3) (T := TX3) (N := 21) hx hb hts hiX3 hown hK hP 0 rfl rfl 12 (by decide) (hts (.fieldLink RX3 111 "LibraryDiskModel" "bad" "I") (by decide +kernel)) (fun _ h9 => h9) rfl dX3_bad_6 ?_
  have hP9 := hP.sub (ws' := []) [] rfl
  have hD9 := hD.sub (ws' := []) [] (by decide) rfl
  exact W.iret (v := 0) hx hb hr (fun t ht hW => ⟨⟨0, (), rfl, rfl, by rw [ht]; exact hP9, va_K.moved hW.alike hK, by rw [hAe]; exact hD9⟩, hS.F ht⟩) hS.2.2 dX3_bad_9
set_option maxHeartbeats 4000000 in
set_option maxRecDepth 100000 in
/-- restore, fresh -/
theorem ct_X3_restore (l : Launch) (dC : Nat → ClassId) (dI : Nat → Nat → Nat) (cB cI : ClassId) (h0 m1 m2 m3 m4 m5 m6 m7 m8 m9 : Nat) (n : Nat) (hn : 3 ≤ n ∧ n ≤ 40) (sz : Nat) : mq_I l (dC, dI) vwCl [(cB, .byte), (cI, .int)] yX3_restore wsX3_restore ({ frames := 0, cells := 0, slots := 0, locals := 0 }) [.ref h0] [(h0, .inr (4, [.int 0, .int (nI n), .ref m1, .ref m2, .ref m3, .ref m4, .int 0, .int 0, .int 0, .int 0, .int 0, .int 0, .int 0, .int 0, .ref m5, .int 0, .int 0, .ref m6, .ref m7, .ref m8, .ref m9]))] sz (fun (r : Int32) (_u : Unit) => r = -3) (fun (_u : Unit) => []) 0 0 := by
  refine Met.ofW (cc := cX3_restore) (maxL := 2) (ret := (some .int)) (by decide) rfl ?_
  intro p e s m args below meth c s₁ B hml hv
  obtain ⟨rfl, hsz, hP, hK, hD0, hN⟩ := hv
  have hx := B.exec
  have hb := B.bytes
  have hr := B.returns
  have hts := atoms_spec (ws := wsX3_restore) B.pre
  have hown : s.vm.findClass RX3 = some m.cls := findClass_of_methodNamed B.named
  have hlocks := B.notSynchronized
  have hiX3 : ∀ w ∈ u_ws RX3 TX3 21, w ∈ wsX3_restore := by decide +kernel
  subst hsz
  have hD := hD0.self (sz := s.heap.size)
  generalize hAe : va_A [(h0, .inr (4, [.int 0, .int (nI n), .ref m1, .ref m2, .ref m3, .ref m4, .int 0, .int 0, .int 0, .int 0, .int 0, .int 0, .int 0, .int 0, .ref m5, .int 0, .int 0, .ref m6, .ref m7, .ref m8, .ref m9]))] s.heap.size = A at hD ⊢
  have hA : ∀ q : Nat, s.heap.size ≤ q → A q := fun q h => by rw [← hAe]; exact Or.inr h
  have hS : va_S A s.heap s.heap [] := va_S.rf
  have hP : va_P (dC, dI) vwCl [(h0, .inr (4, [.int 0, .int (nI n), .ref m1, .ref m2, .ref m3, .ref m4, .int 0, .int 0, .int 0, .int 0, .int 0, .int 0, .int 0, .int 0, .ref m5, .int 0, .int 0, .ref m6, .ref m7, .ref m8, .ref m9]))] s.heap := hP
  have hl := lv_entry ([.ref h0]) (n := 2) (Nat.le_of_ble_eq_true rfl)
  rw [lg_entry_eq]
  generalize (lg_sl ([.ref h0]) ++ List.replicate (2 - (lg_sl ([.ref h0])).length) Slot.unset).toArray = ls at hl ⊢
  have hl : lv_has ls 2 [(0, .ref h0)] := hl
  refine lv_aload_n hx hb dX3_restore_0 rfl (lv_at hl 0 rfl) ?_
  refine lv_iconst (v := 0) hx hb dX3_restore_1 (by decide) ?_
  refine va_put (D := (dC, dI)) (ci := 4) (v := .int 0) (ty := .int) (C := RX3) (T := TX3) (N := 21) hx hb hts hiX3 tyX3 tyX3_ok nmX3 hown hK hP hD hS 0 rfl rfl 0 (by decide) (hts (.fieldLink RX3 43 "LibraryDiskModel" "thrown" "I") (by decide +kernel)) (fun _ h9 => h9) rfl (by decide +kernel) rfl rfl (Nat.le_of_ble_eq_true rfl) dX3_restore_2 (fun H locs hP hD hS => ?_)
  have hP : va_P (dC, dI) vwCl [(h0, .inr (4, [.int 0, .int (nI n), .ref m1, .ref m2, .ref m3, .ref m4, .int 0, .int 0, .int 0, .int 0, .int 0, .int 0, .int 0, .int 0, .ref m5, .int 0, .int 0, .ref m6, .ref m7, .ref m8, .ref m9]))] H := hP
  have hD : va_D A [(h0, .inr (4, [.int 0, .int (nI n), .ref m1, .ref m2, .ref m3, .ref m4, .int 0, .int 0, .int 0, .int 0, .int 0, .int 0, .int 0, .int 0, .ref m5, .int 0, .int 0, .ref m6, .ref m7, .ref m8, .ref m9]))] := hD
  refine lv_aload_n hx hb dX3_restore_5 rfl (lv_at hl 0 rfl) ?_
  refine va_get (D := (dC, dI)) (ci := 4) (v := .int 0) (C := RX3) (T := TX3) (N := 21) hx hb hts hiX3 hown hK hP 0 rfl rfl 7 (by decide) (hts (.fieldLink RX3 67 "LibraryDiskModel" "off" "Z") (by decide +kernel)) (fun _ h9 => h9) rfl dX3_restore_6 ?_
  refine lv_if_eq (tgt := 19) hx hb dX3_restore_9 (by decide) (fun c_9 => ?_) (fun c_9 => ?_)
  · skip
    refine lv_bipush (v := (-3)) hx hb dX3_restore_19 (by decide) ?_
    have hP9 := hP.sub (ws' := []) [] rfl
    have hD9 := hD.sub (ws' := []) [] (by decide) rfl
    exact W.iret (v := (-3)) hx hb hr (fun t ht hW => ⟨⟨(-3), (), rfl, rfl, by rw [ht]; exact hP9, va_K.moved hW.alike hK, by rw [hAe]; exact hD9⟩, hS.F ht⟩) hS.2.2 dX3_restore_21
  · exact absurd (by decide) c_9
set_option maxHeartbeats 4000000 in
set_option maxRecDepth 100000 in
/-- differ, fresh -/
theorem ct_X3_differ (l : Launch) (dC : Nat → ClassId) (dI : Nat → Nat → Nat) (cB cI : ClassId) (h0 m1 m2 m3 m4 m5 m6 m7 m8 m9 : Nat) (n : Nat) (hn : 3 ≤ n ∧ n ≤ 40) (sz : Nat) : mq_I l (dC, dI) vwCl [(cB, .byte), (cI, .int)] yX3_differ wsX3_differ ({ frames := 0, cells := 0, slots := 0, locals := 0 }) [.ref h0] [(h0, .inr (4, [.int 0, .int (nI n), .ref m1, .ref m2, .ref m3, .ref m4, .int 0, .int 0, .int 0, .int 0, .int 0, .int 0, .int 0, .int 0, .ref m5, .int 0, .int 0, .ref m6, .ref m7, .ref m8, .ref m9]))] sz (fun (r : Int32) (_u : Unit) => r = -1) (fun (_u : Unit) => []) 0 0 := by
  refine Met.ofW (cc := cX3_differ) (maxL := 5) (ret := (some .int)) (by decide) rfl ?_
  intro p e s m args below meth c s₁ B hml hv
  obtain ⟨rfl, hsz, hP, hK, hD0, hN⟩ := hv
  have hx := B.exec
  have hb := B.bytes
  have hr := B.returns
  have hts := atoms_spec (ws := wsX3_differ) B.pre
  have hown : s.vm.findClass RX3 = some m.cls := findClass_of_methodNamed B.named
  have hlocks := B.notSynchronized
  have hiX3 : ∀ w ∈ u_ws RX3 TX3 21, w ∈ wsX3_differ := by decide +kernel
  subst hsz
  have hD := hD0.self (sz := s.heap.size)
  generalize hAe : va_A [(h0, .inr (4, [.int 0, .int (nI n), .ref m1, .ref m2, .ref m3, .ref m4, .int 0, .int 0, .int 0, .int 0, .int 0, .int 0, .int 0, .int 0, .ref m5, .int 0, .int 0, .ref m6, .ref m7, .ref m8, .ref m9]))] s.heap.size = A at hD ⊢
  have hA : ∀ q : Nat, s.heap.size ≤ q → A q := fun q h => by rw [← hAe]; exact Or.inr h
  have hS : va_S A s.heap s.heap [] := va_S.rf
  have hP : va_P (dC, dI) vwCl [(h0, .inr (4, [.int 0, .int (nI n), .ref m1, .ref m2, .ref m3, .ref m4, .int 0, .int 0, .int 0, .int 0, .int 0, .int 0, .int 0, .int 0, .ref m5, .int 0, .int 0, .ref m6, .ref m7, .ref m8, .ref m9]))] s.heap := hP
  have hl := lv_entry ([.ref h0]) (n := 5) (Nat.le_of_ble_eq_true rfl)
  rw [lg_entry_eq]
  generalize (lg_sl ([.ref h0]) ++ List.replicate (5 - (lg_sl ([.ref h0])).length) Slot.unset).toArray = ls at hl ⊢
  have hl : lv_has ls 5 [(0, .ref h0)] := hl
  refine lv_aload_n hx hb dX3_differ_0 rfl (lv_at hl 0 rfl) ?_
  refine lv_iconst (v := 0) hx hb dX3_differ_1 (by decide) ?_
  refine va_put (D := (dC, dI)) (ci := 4) (v := .int 0) (ty := .int) (C := RX3) (T := TX3) (N := 21) hx hb hts hiX3 tyX3 tyX3_ok nmX3 hown hK hP hD hS 0 rfl rfl 0 (by decide) (hts (.fieldLink RX3 43 "LibraryDiskModel" "thrown" "I") (by decide +kernel)) (fun _ h9 => h9) rfl (by decide +kernel) rfl rfl (Nat.le_of_ble_eq_true rfl) dX3_differ_2 (fun H locs hP hD hS => ?_)
  have hP : va_P (dC, dI) vwCl [(h0, .inr (4, [.int 0, .int (nI n), .ref m1, .ref m2, .ref m3, .ref m4, .int 0, .int 0, .int 0, .int 0, .int 0, .int 0, .int 0, .int 0, .ref m5, .int 0, .int 0, .ref m6, .ref m7, .ref m8, .ref m9]))] H := hP
  have hD : va_D A [(h0, .inr (4, [.int 0, .int (nI n), .ref m1, .ref m2, .ref m3, .ref m4, .int 0, .int 0, .int 0, .int 0, .int 0, .int 0, .int 0, .int 0, .ref m5, .int 0, .int 0, .ref m6, .ref m7, .ref m8, .ref m9]))] := hD
  refine lv_aload_n hx hb dX3_differ_5 rfl (lv_at hl 0 rfl) ?_
  refine va_get (D := (dC, dI)) (ci := 4) (v := .int 0) (C := RX3) (T := TX3) (N := 21) hx hb hts hiX3 hown hK hP 0 rfl rfl 6 (by decide) (hts (.fieldLink RX3 121 "LibraryDiskModel" "backed" "Z") (by decide +kernel)) (fun _ h9 => h9) rfl dX3_differ_6 ?_
  refine lv_if_ne (tgt := 14) hx hb dX3_differ_9 (by decide) (fun c_9 => ?_) (fun c_9 => ?_)
  · exact absurd (by decide) c_9
  · skip
    refine lv_iconst (v := (-1)) hx hb dX3_differ_12 (by decide) ?_
    have hP9 := hP.sub (ws' := []) [] rfl
    have hD9 := hD.sub (ws' := []) [] (by decide) rfl
    exact W.iret (v := (-1)) hx hb hr (fun t ht hW => ⟨⟨(-1), (), rfl, rfl, by rw [ht]; exact hP9, va_K.moved hW.alike hK, by rw [hAe]; exact hD9⟩, hS.F ht⟩) hS.2.2 dX3_differ_13
set_option maxHeartbeats 4000000 in
set_option maxRecDepth 100000 in
/-- state, fresh -/
theorem ct_X3_state (l : Launch) (dC : Nat → ClassId) (dI : Nat → Nat → Nat) (cB cI : ClassId) (h0 m1 m2 m3 m4 m5 m6 m7 m8 m9 : Nat) (n : Nat) (hn : 3 ≤ n ∧ n ≤ 40) (x : Int32) (sz : Nat) : mq_I l (dC, dI) vwCl [(cB, .byte), (cI, .int)] yX3_state wsX3_state ({ frames := 0, cells := 0, slots := 0, locals := 0 }) [.ref h0, .int x] [(h0, .inr (4, [.int 0, .int (nI n), .ref m1, .ref m2, .ref m3, .ref m4, .int 0, .int 0, .int 0, .int 0, .int 0, .int 0, .int 0, .int 0, .ref m5, .int 0, .int 0, .ref m6, .ref m7, .ref m8, .ref m9]))] sz (fun (r : Int32) (_u : Unit) => r = st_of n x) (fun (_u : Unit) => []) 0 0 := by
  refine Met.ofW (cc := cX3_state) (maxL := 2) (ret := (some .int)) (by decide) rfl ?_
  intro p e s m args below meth c s₁ B hml hv
  obtain ⟨rfl, hsz, hP, hK, hD0, hN⟩ := hv
  have hx := B.exec
  have hb := B.bytes
  have hr := B.returns
  have hts := atoms_spec (ws := wsX3_state) B.pre
  have hown : s.vm.findClass RX3 = some m.cls := findClass_of_methodNamed B.named
  have hlocks := B.notSynchronized
  have hiX3 : ∀ w ∈ u_ws RX3 TX3 21, w ∈ wsX3_state := by decide +kernel
  subst hsz
  have hD := hD0.self (sz := s.heap.size)
  generalize hAe : va_A [(h0, .inr (4, [.int 0, .int (nI n), .ref m1, .ref m2, .ref m3, .ref m4, .int 0, .int 0, .int 0, .int 0, .int 0, .int 0, .int 0, .int 0, .ref m5, .int 0, .int 0, .ref m6, .ref m7, .ref m8, .ref m9]))] s.heap.size = A at hD ⊢
  have hA : ∀ q : Nat, s.heap.size ≤ q → A q := fun q h => by rw [← hAe]; exact Or.inr h
  have hS : va_S A s.heap s.heap [] := va_S.rf
  have hP : va_P (dC, dI) vwCl [(h0, .inr (4, [.int 0, .int (nI n), .ref m1, .ref m2, .ref m3, .ref m4, .int 0, .int 0, .int 0, .int 0, .int 0, .int 0, .int 0, .int 0, .ref m5, .int 0, .int 0, .ref m6, .ref m7, .ref m8, .ref m9]))] s.heap := hP
  have hl := lv_entry ([.ref h0, .int x]) (n := 2) (Nat.le_of_ble_eq_true rfl)
  rw [lg_entry_eq]
  generalize (lg_sl ([.ref h0, .int x]) ++ List.replicate (2 - (lg_sl ([.ref h0, .int x])).length) Slot.unset).toArray = ls at hl ⊢
  have hl : lv_has ls 2 [(0, .ref h0), (1, .int x)] := hl
  refine lv_aload_n hx hb dX3_state_0 rfl (lv_at hl 0 rfl) ?_
  refine lv_iconst (v := 0) hx hb dX3_state_1 (by decide) ?_
  refine va_put (D := (dC, dI)) (ci := 4) (v := .int 0) (ty := .int) (C := RX3) (T := TX3) (N := 21) hx hb hts hiX3 tyX3 tyX3_ok nmX3 hown hK hP hD hS 0 rfl rfl 0 (by decide) (hts (.fieldLink RX3 43 "LibraryDiskModel" "thrown" "I") (by decide +kernel)) (fun _ h9 => h9) rfl (by decide +kernel) rfl rfl (Nat.le_of_ble_eq_true rfl) dX3_state_2 (fun H locs hP hD hS => ?_)
  have hP : va_P (dC, dI) vwCl [(h0, .inr (4, [.int 0, .int (nI n), .ref m1, .ref m2, .ref m3, .ref m4, .int 0, .int 0, .int 0, .int 0, .int 0, .int 0, .int 0, .int 0, .ref m5, .int 0, .int 0, .ref m6, .ref m7, .ref m8, .ref m9]))] H := hP
  have hD : va_D A [(h0, .inr (4, [.int 0, .int (nI n), .ref m1, .ref m2, .ref m3, .ref m4, .int 0, .int 0, .int 0, .int 0, .int 0, .int 0, .int 0, .int 0, .ref m5, .int 0, .int 0, .ref m6, .ref m7, .ref m8, .ref m9]))] := hD
  refine lv_iload_n hx hb dX3_state_5 rfl (lv_at hl 1 rfl) ?_
  by_cases hk_0 : x = 0
  · refine lv_tableIn (off := 30) (tgt := 36) hx hb dX3_state_6 (by rw [hk_0]; decide) (by rw [hk_0]; decide) (by rw [hk_0]; rfl) (by decide) ?_
    refine lv_aload_n hx hb dX3_state_36 rfl (lv_at hl 0 rfl) ?_
    refine va_get (D := (dC, dI)) (ci := 4) (v := .int 0) (C := RX3) (T := TX3) (N := 21) hx hb hts hiX3 hown hK hP 0 rfl rfl 8 (by decide) (hts (.fieldLink RX3 85 "LibraryDiskModel" "number" "I") (by decide +kernel)) (fun _ h9 => h9) rfl dX3_state_37 ?_
    have hP9 := hP.sub (ws' := []) [] rfl
    have hD9 := hD.sub (ws' := []) [] (by decide) rfl
    exact W.iret (v := 0) hx hb hr (fun t ht hW => ⟨⟨0, (), rfl, by unfold st_of; rw [if_pos hk_0], by rw [ht]; exact hP9, va_K.moved hW.alike hK, by rw [hAe]; exact hD9⟩, hS.F ht⟩) hS.2.2 dX3_state_40
  by_cases hk_1 : x = 1
  · refine lv_tableIn (off := 35) (tgt := 41) hx hb dX3_state_6 (by rw [hk_1]; decide) (by rw [hk_1]; decide) (by rw [hk_1]; rfl) (by decide) ?_
    refine lv_aload_n hx hb dX3_state_41 rfl (lv_at hl 0 rfl) ?_
    refine va_get (D := (dC, dI)) (ci := 4) (v := .int 0) (C := RX3) (T := TX3) (N := 21) hx hb hts hiX3 hown hK hP 0 rfl rfl 9 (by decide) (hts (.fieldLink RX3 78 "LibraryDiskModel" "used" "I") (by decide +kernel)) (fun _ h9 => h9) rfl dX3_state_42 ?_
    have hP9 := hP.sub (ws' := []) [] rfl
    have hD9 := hD.sub (ws' := []) [] (by decide) rfl
    exact W.iret (v := 0) hx hb hr (fun t ht hW => ⟨⟨0, (), rfl, by unfold st_of; rw [if_neg hk_0, if_pos hk_1], by rw [ht]; exact hP9, va_K.moved hW.alike hK, by rw [hAe]; exact hD9⟩, hS.F ht⟩) hS.2.2 dX3_state_45
  by_cases hk_2 : x = 2
  · refine lv_tableIn (off := 40) (tgt := 46) hx hb dX3_state_6 (by rw [hk_2]; decide) (by rw [hk_2]; decide) (by rw [hk_2]; rfl) (by decide) ?_
    refine lv_aload_n hx hb dX3_state_46 rfl (lv_at hl 0 rfl) ?_
    refine va_get (D := (dC, dI)) (ci := 4) (v := .int 0) (C := RX3) (T := TX3) (N := 21) hx hb hts hiX3 hown hK hP 0 rfl rfl 7 (by decide) (hts (.fieldLink RX3 67 "LibraryDiskModel" "off" "Z") (by decide +kernel)) (fun _ h9 => h9) rfl dX3_state_47 ?_
    refine lv_if_eq (tgt := 57) hx hb dX3_state_50 (by decide) (fun c_50 => ?_) (fun c_50 => ?_)
    · skip
      refine lv_iconst (v := 1) hx hb dX3_state_57 (by decide) ?_
      have hP9 := hP.sub (ws' := []) [] rfl
      have hD9 := hD.sub (ws' := []) [] (by decide) rfl
      exact W.iret (v := 1) hx hb hr (fun t ht hW => ⟨⟨1, (), rfl, by unfold st_of; rw [if_neg hk_0, if_neg hk_1, if_pos hk_2], by rw [ht]; exact hP9, va_K.moved hW.alike hK, by rw [hAe]; exact hD9⟩, hS.F ht⟩) hS.2.2 dX3_state_58
    · exact absurd (by decide) c_50
  by_cases hk_3 : x = 3
  · refine lv_tableIn (off := 53) (tgt := 59) hx hb dX3_state_6 (by rw [hk_3]; decide) (by rw [hk_3]; decide) (by rw [hk_3]; rfl) (by decide) ?_
    refine lv_aload_n hx hb dX3_state_59 rfl (lv_at hl 0 rfl) ?_
    refine va_get (D := (dC, dI)) (ci := 4) (v := .int (nI n)) (C := RX3) (T := TX3) (N := 21) hx hb hts hiX3 hown hK hP 0 rfl rfl 1 (by decide) (hts (.fieldLink RX3 39 "LibraryDiskModel" "sectors" "I") (by decide +kernel)) (fun _ h9 => h9) rfl dX3_state_60 ?_
    have hP9 := hP.sub (ws' := []) [] rfl
    have hD9 := hD.sub (ws' := []) [] (by decide) rfl
    exact W.iret (v := nI n) hx hb hr (fun t ht hW => ⟨⟨nI n, (), rfl, by unfold st_of; rw [if_neg hk_0, if_neg hk_1, if_neg hk_2, if_pos hk_3], by rw [ht]; exact hP9, va_K.moved hW.alike hK, by rw [hAe]; exact hD9⟩, hS.F ht⟩) hS.2.2 dX3_state_63
  refine lv_tableOut (tgt := 64) hx hb dX3_state_6 (tb_out (k := 3) (by decide) (fun j hj => by rcases (show j = 0 ∨ j = 1 ∨ j = 2 ∨ j = 3 by omega) with rfl | rfl | rfl | rfl <;> assumption)) (by decide) ?_
  refine lv_iconst (v := (-1)) hx hb dX3_state_64 (by decide) ?_
  have hP9 := hP.sub (ws' := []) [] rfl
  have hD9 := hD.sub (ws' := []) [] (by decide) rfl
  exact W.iret (v := (-1)) hx hb hr (fun t ht hW => ⟨⟨(-1), (), rfl, by unfold st_of; rw [if_neg hk_0, if_neg hk_1, if_neg hk_2, if_neg hk_3], by rw [ht]; exact hP9, va_K.moved hW.alike hK, by rw [hAe]; exact hD9⟩, hS.F ht⟩) hS.2.2 dX3_state_65
set_option maxHeartbeats 4000000 in
set_option maxRecDepth 100000 in
/-- backup, fresh -/
theorem ct_X3_backup (l : Launch) (dC : Nat → ClassId) (dI : Nat → Nat → Nat) (cB cI : ClassId) (h0 m1 m2 m3 m4 m5 m6 m7 m8 m9 : Nat) (n : Nat) (hn : 3 ≤ n ∧ n ≤ 40) (f f4 : Nat → Int32) (sz : Nat) : mq_I l (dC, dI) vwCl [(cB, .byte), (cI, .int)] yX3_backup wsX3_backup ({ frames := 0, cells := 0, slots := 0, locals := 0 }) [.ref h0] [(h0, .inr (4, [.int 0, .int (nI n), .ref m1, .ref m2, .ref m3, .ref m4, .int 0, .int 0, .int 0, .int 0, .int 0, .int 0, .int 0, .int 0, .ref m5, .int 0, .int 0, .ref m6, .ref m7, .ref m8, .ref m9])), (m1, .inl (cB, 2560, .inl f)), (m4, .inl (cB, 2560, .inl f4))] sz (fun (r : Int32) (_u : Unit) => r = 0) (fun (_u : Unit) => []) 0 0 := by
  refine Met.ofW (cc := cX3_backup) (maxL := 2) (ret := (some .int)) (by decide) rfl ?_
  intro p e s m args below meth c s₁ B hml hv
  obtain ⟨rfl, hsz, hP, hK, hD0, hN⟩ := hv
  have hx := B.exec
  have hb := B.bytes
  have hr := B.returns
  have hts := atoms_spec (ws := wsX3_backup) B.pre
  have hown : s.vm.findClass RX3 = some m.cls := findClass_of_methodNamed B.named
  have hlocks := B.notSynchronized
  have hiX3 : ∀ w ∈ u_ws RX3 TX3 21, w ∈ wsX3_backup := by decide +kernel
  subst hsz
  have hD := hD0.self (sz := s.heap.size)
  generalize hAe : va_A [(h0, .inr (4, [.int 0, .int (nI n), .ref m1, .ref m2, .ref m3, .ref m4, .int 0, .int 0, .int 0, .int 0, .int 0, .int 0, .int 0, .int 0, .ref m5, .int 0, .int 0, .ref m6, .ref m7, .ref m8, .ref m9])), (m1, .inl (cB, 2560, .inl f)), (m4, .inl (cB, 2560, .inl f4))] s.heap.size = A at hD ⊢
  have hA : ∀ q : Nat, s.heap.size ≤ q → A q := fun q h => by rw [← hAe]; exact Or.inr h
  have hS : va_S A s.heap s.heap [] := va_S.rf
  have hP : va_P (dC, dI) vwCl [(h0, .inr (4, [.int 0, .int (nI n), .ref m1, .ref m2, .ref m3, .ref m4, .int 0, .int 0, .int 0, .int 0, .int 0, .int 0, .int 0, .int 0, .ref m5, .int 0, .int 0, .ref m6, .ref m7, .ref m8, .ref m9])), (m1, .inl (cB, 2560, .inl f)), (m4, .inl (cB, 2560, .inl f4))] s.heap := hP
  have hl := lv_entry ([.ref h0]) (n := 2) (Nat.le_of_ble_eq_true rfl)
  rw [lg_entry_eq]
  generalize (lg_sl ([.ref h0]) ++ List.replicate (2 - (lg_sl ([.ref h0])).length) Slot.unset).toArray = ls at hl ⊢
  have hl : lv_has ls 2 [(0, .ref h0)] := hl
  refine lv_aload_n hx hb dX3_backup_0 rfl (lv_at hl 0 rfl) ?_
  refine lv_iconst (v := 0) hx hb dX3_backup_1 (by decide) ?_
  refine va_put (D := (dC, dI)) (ci := 4) (v := .int 0) (ty := .int) (C := RX3) (T := TX3) (N := 21) hx hb hts hiX3 tyX3 tyX3_ok nmX3 hown hK hP hD hS 0 rfl rfl 0 (by decide) (hts (.fieldLink RX3 43 "LibraryDiskModel" "thrown" "I") (by decide +kernel)) (fun _ h9 => h9) rfl (by decide +kernel) rfl rfl (Nat.le_of_ble_eq_true rfl) dX3_backup_2 (fun H locs hP hD hS => ?_)
  have hP : va_P (dC, dI) vwCl [(h0, .inr (4, [.int 0, .int (nI n), .ref m1, .ref m2, .ref m3, .ref m4, .int 0, .int 0, .int 0, .int 0, .int 0, .int 0, .int 0, .int 0, .ref m5, .int 0, .int 0, .ref m6, .ref m7, .ref m8, .ref m9])), (m1, .inl (cB, 2560, .inl f)), (m4, .inl (cB, 2560, .inl f4))] H := hP
  have hD : va_D A [(h0, .inr (4, [.int 0, .int (nI n), .ref m1, .ref m2, .ref m3, .ref m4, .int 0, .int 0, .int 0, .int 0, .int 0, .int 0, .int 0, .int 0, .ref m5, .int 0, .int 0, .ref m6, .ref m7, .ref m8, .ref m9])), (m1, .inl (cB, 2560, .inl f)), (m4, .inl (cB, 2560, .inl f4))] := hD
  refine lv_aload_n hx hb dX3_backup_5 rfl (lv_at hl 0 rfl) ?_
  refine va_get (D := (dC, dI)) (ci := 4) (v := .int 0) (C := RX3) (T := TX3) (N := 21) hx hb hts hiX3 hown hK hP 0 rfl rfl 7 (by decide) (hts (.fieldLink RX3 67 "LibraryDiskModel" "off" "Z") (by decide +kernel)) (fun _ h9 => h9) rfl dX3_backup_6 ?_
  refine lv_if_eq (tgt := 15) hx hb dX3_backup_9 (by decide) (fun c_9 => ?_) (fun c_9 => ?_)
  · skip
    refine lv_iconst (v := 0) hx hb dX3_backup_15 (by decide) ?_
    refine lv_istore_n (lv' := [(1, .int 0), (0, .ref h0)]) hx hb dX3_backup_16 rfl hl (by decide) rfl (fun ls hl => ?_)
    refine mq_loop 17 2 (σ := Nat × (Nat → Int32)) (I := fun q => q.1 ≤ 64 * n) (μ := fun q => 64 * n - q.1) (wsf := fun q => [(h0, .inr (4, [.int 0, .int (nI n), .ref m1, .ref m2, .ref m3, .ref m4, .int 0, .int 0, .int 0, .int 0, .int 0, .int 0, .int 0, .int 0, .ref m5, .int 0, .int 0, .ref m6, .ref m7, .ref m8, .ref m9])), (m1, .inl (cB, 2560, .inl f)), (m4, .inl (cB, 2560, .inl q.2))]) (lvf := fun q => [(0, .ref h0), (1, .int (nI q.1))]) (fun q_17 hI_17 ih_17 H locs ls hP hD hS hl => ?_) (0, f4) (Nat.zero_le _) (hP.sub [0, 1, 2] rfl) (hD.sub [0, 1, 2] (by decide) rfl) hS (lv_sub hl [1, 0] rfl)
    obtain ⟨i, g⟩ := q_17
    have hI : i ≤ 64 * n := hI_17
    have hP : va_P (dC, dI) vwCl [(h0, .inr (4, [.int 0, .int (nI n), .ref m1, .ref m2, .ref m3, .ref m4, .int 0, .int 0, .int 0, .int 0, .int 0, .int 0, .int 0, .int 0, .ref m5, .int 0, .int 0, .ref m6, .ref m7, .ref m8, .ref m9])), (m1, .inl (cB, 2560, .inl f)), (m4, .inl (cB, 2560, .inl g))] H := hP
    have hD : va_D A [(h0, .inr (4, [.int 0, .int (nI n), .ref m1, .ref m2, .ref m3, .ref m4, .int 0, .int 0, .int 0, .int 0, .int 0, .int 0, .int 0, .int 0, .ref m5, .int 0, .int 0, .ref m6, .ref m7, .ref m8, .ref m9])), (m1, .inl (cB, 2560, .inl f)), (m4, .inl (cB, 2560, .inl g))] := hD
    have hl : lv_has ls 2 [(0, .ref h0), (1, .int (nI i))] := hl
    refine lv_iload_n hx hb dX3_backup_17 rfl (lv_at hl 1 rfl) ?_
    refine lv_bipush (v := 64) hx hb dX3_backup_18 (by decide) ?_
    refine lv_aload_n hx hb dX3_backup_20 rfl (lv_at hl 0 rfl) ?_
    refine va_get (D := (dC, dI)) (ci := 4) (v := .int (nI n)) (C := RX3) (T := TX3) (N := 21) hx hb hts hiX3 hown hK hP 0 rfl rfl 1 (by decide) (hts (.fieldLink RX3 39 "LibraryDiskModel" "sectors" "I") (by decide +kernel)) (fun _ h9 => h9) rfl dX3_backup_21 ?_
    refine lv_imul hx hb dX3_backup_24 ?_
    refine lv_icmp_ge (tgt := 46) hx hb dX3_backup_25 (by decide) (fun c_25 => ?_) (fun c_25 => ?_)
    · skip
      refine lv_aload_n hx hb dX3_backup_46 rfl (lv_at hl 0 rfl) ?_
      refine lv_iconst (v := 1) hx hb dX3_backup_47 (by decide) ?_
      refine va_put (D := (dC, dI)) (ci := 4) (v := .int 1) (ty := .boolean) (C := RX3) (T := TX3) (N := 21) hx hb hts hiX3 tyX3 tyX3_ok nmX3 hown hK hP hD hS 0 rfl rfl 6 (by decide) (hts (.fieldLink RX3 121 "LibraryDiskModel" "backed" "Z") (by decide +kernel)) (fun _ h9 => h9) rfl (by decide +kernel) rfl rfl (Nat.le_of_ble_eq_true rfl) dX3_backup_48 (fun H locs hP hD hS => ?_)
      have hP : va_P (dC, dI) vwCl [(h0, .inr (4, [.int 0, .int (nI n), .ref m1, .ref m2, .ref m3, .ref m4, .int 1, .int 0, .int 0, .int 0, .int 0, .int 0, .int 0, .int 0, .ref m5, .int 0, .int 0, .ref m6, .ref m7, .ref m8, .ref m9])), (m1, .inl (cB, 2560, .inl f)), (m4, .inl (cB, 2560, .inl g))] H := hP
      have hD : va_D A [(h0, .inr (4, [.int 0, .int (nI n), .ref m1, .ref m2, .ref m3, .ref m4, .int 1, .int 0, .int 0, .int 0, .int 0, .int 0, .int 0, .int 0, .ref m5, .int 0, .int 0, .ref m6, .ref m7, .ref m8, .ref m9])), (m1, .inl (cB, 2560, .inl f)), (m4, .inl (cB, 2560, .inl g))] := hD
      refine lv_aload_n hx hb dX3_backup_51 rfl (lv_at hl 0 rfl) ?_
      refine va_get (D := (dC, dI)) (ci := 4) (v := .int 0) (C := RX3) (T := TX3) (N := 21) hx hb hts hiX3 hown hK hP 0 rfl rfl 8 (by decide) (hts (.fieldLink RX3 85 "LibraryDiskModel" "number" "I") (by decide +kernel)) (fun _ h9 => h9) rfl dX3_backup_52 ?_
      have hP9 := hP.sub (ws' := []) [] rfl
      have hD9 := hD.sub (ws' := []) [] (by decide) rfl
      exact W.iret (v := 0) hx hb hr (fun t ht hW => ⟨⟨0, (), rfl, rfl, by rw [ht]; exact hP9, va_K.moved hW.alike hK, by rw [hAe]; exact hD9⟩, hS.F ht⟩) hS.2.2 dX3_backup_55
    · skip
      have hlt : i < 64 * n := k_lt (k := 64 * n) (n64 n) (by omega) (by omega) c_25
      refine lv_aload_n hx hb dX3_backup_28 rfl (lv_at hl 0 rfl) ?_
      refine va_get (D := (dC, dI)) (ci := 4) (v := .ref m4) (C := RX3) (T := TX3) (N := 21) hx hb hts hiX3 hown hK hP 0 rfl rfl 5 (by decide) (hts (.fieldLink RX3 19 "LibraryDiskModel" "kept" "[B") (by decide +kernel)) (fun _ h9 => h9) rfl dX3_backup_29 ?_
      refine lv_iload_n hx hb dX3_backup_32 rfl (lv_at hl 1 rfl) ?_
      refine lv_aload_n hx hb dX3_backup_33 rfl (lv_at hl 0 rfl) ?_
      refine va_get (D := (dC, dI)) (ci := 4) (v := .ref m1) (C := RX3) (T := TX3) (N := 21) hx hb hts hiX3 hown hK hP 0 rfl rfl 2 (by decide) (hts (.fieldLink RX3 7 "LibraryDiskModel" "disk" "[B") (by decide +kernel)) (fun _ h9 => h9) rfl dX3_backup_34 ?_
      refine lv_iload_n hx hb dX3_backup_37 rfl (lv_at hl 1 rfl) ?_
      refine va_bald hx hb hK hP 1 0 rfl rfl (vp_in_nI (by omega) (by omega)) dX3_backup_38 ?_
      refine va_bast hx hb hK hP hD hS 2 0 rfl rfl (vp_in_nI (by omega) (by omega)) dX3_backup_39 (fun H locs hP hD hS => ?_)
      have hP : va_P (dC, dI) vwCl [(h0, .inr (4, [.int 0, .int (nI n), .ref m1, .ref m2, .ref m3, .ref m4, .int 0, .int 0, .int 0, .int 0, .int 0, .int 0, .int 0, .int 0, .ref m5, .int 0, .int 0, .ref m6, .ref m7, .ref m8, .ref m9])), (m1, .inl (cB, 2560, .inl f)), (m4, .inl (cB, 2560, .inl (upd g (nI i).toNatClampNeg (vp_nar .byte (f (nI i).toNatClampNeg)))))] H := hP
      have hD : va_D A [(h0, .inr (4, [.int 0, .int (nI n), .ref m1, .ref m2, .ref m3, .ref m4, .int 0, .int 0, .int 0, .int 0, .int 0, .int 0, .int 0, .int 0, .ref m5, .int 0, .int 0, .ref m6, .ref m7, .ref m8, .ref m9])), (m1, .inl (cB, 2560, .inl f)), (m4, .inl (cB, 2560, .inl (upd g (nI i).toNatClampNeg (vp_nar .byte (f (nI i).toNatClampNeg)))))] := hD
      obtain ⟨f_1, ef_1⟩ : ∃ z : Nat → Int32, z = upd g (nI i).toNatClampNeg (vp_nar .byte (f (nI i).toNatClampNeg)) := ⟨_, rfl⟩
      rw [← ef_1] at hP hD
      obtain ⟨x_2, ex_2⟩ : ∃ y : Int32, y = (nI i) + 1 := ⟨_, rfl⟩
      refine lv_iinc (v := x_2) (lv' := [(1, .int x_2), (0, .ref h0)]) hx hb dX3_backup_40 hl (k := 1) rfl (by rw [ex_2]; rfl) (by decide) rfl (fun ls hl => ?_)
      refine lv_goto (tgt := 17) hx hb dX3_backup_43 (by decide) ?_
      obtain rfl : x_2 = nI (i + 1) := by rw [ex_2]; exact nI_1 i
      exact ih_17 (i + 1, f_1) (show i + 1 ≤ 64 * n by omega) (show 64 * n - (i + 1) < 64 * n - i by omega) _ _ _ (hP.sub [0, 1, 2] rfl) (hD.sub [0, 1, 2] (by decide) rfl) hS (lv_sub hl [1, 0] rfl)
  · exact absurd (by decide) c_9
set_option maxHeartbeats 4000000 in
set_option maxRecDepth 100000 in
/-- sync, fresh -/
theorem ct_X3_sync (l : Launch) (dC : Nat → ClassId) (dI : Nat → Nat → Nat) (cB cI : ClassId) (h0 m1 m2 m3 m4 m5 m6 m7 m8 m9 : Nat) (n : Nat) (hn : 3 ≤ n ∧ n ≤ 40) (f f2 f3 : Nat → Int32) (sz : Nat) : mq_I l (dC, dI) vwCl [(cB, .byte), (cI, .int)] yX3_sync wsX3_sync ({ frames := 2, cells := 0, slots := 0, locals := 44 }) [.ref h0] [(h0, .inr (4, [.int 0, .int (nI n), .ref m1, .ref m2, .ref m3, .ref m4, .int 0, .int 0, .int 0, .int 0, .int 0, .int 0, .int 0, .int 0, .ref m5, .int 0, .int 0, .ref m6, .ref m7, .ref m8, .ref m9])), (m1, .inl (cB, 2560, .inl f)), (m2, .inl (cB, 2560, .inl f2)), (m3, .inl (cB, 2560, .inl f3))] sz (fun (r : Int32) (_u : Unit) => r = 1) (fun (_u : Unit) => []) 0 0 := by
  refine Met.ofW (cc := cX3_sync) (maxL := 4) (ret := (some .int)) (by decide) rfl ?_
  intro p e s m args below meth c s₁ B hml hv
  obtain ⟨rfl, hsz, hP, hK, hD0, hN⟩ := hv
  have hx := B.exec
  have hb := B.bytes
  have hr := B.returns
  have hts := atoms_spec (ws := wsX3_sync) B.pre
  have hown : s.vm.findClass RX3 = some m.cls := findClass_of_methodNamed B.named
  have hlocks := B.notSynchronized
  have hiX3 : ∀ w ∈ u_ws RX3 TX3 21, w ∈ wsX3_sync := by decide +kernel
  subst hsz
  have hD := hD0.self (sz := s.heap.size)
  generalize hAe : va_A [(h0, .inr (4, [.int 0, .int (nI n), .ref m1, .ref m2, .ref m3, .ref m4, .int 0, .int 0, .int 0, .int 0, .int 0, .int 0, .int 0, .int 0, .ref m5, .int 0, .int 0, .ref m6, .ref m7, .ref m8, .ref m9])), (m1, .inl (cB, 2560, .inl f)), (m2, .inl (cB, 2560, .inl f2)), (m3, .inl (cB, 2560, .inl f3))] s.heap.size = A at hD ⊢
  have hA : ∀ q : Nat, s.heap.size ≤ q → A q := fun q h => by rw [← hAe]; exact Or.inr h
  have hS : va_S A s.heap s.heap [] := va_S.rf
  have hP : va_P (dC, dI) vwCl [(h0, .inr (4, [.int 0, .int (nI n), .ref m1, .ref m2, .ref m3, .ref m4, .int 0, .int 0, .int 0, .int 0, .int 0, .int 0, .int 0, .int 0, .ref m5, .int 0, .int 0, .ref m6, .ref m7, .ref m8, .ref m9])), (m1, .inl (cB, 2560, .inl f)), (m2, .inl (cB, 2560, .inl f2)), (m3, .inl (cB, 2560, .inl f3))] s.heap := hP
  have hl := lv_entry ([.ref h0]) (n := 4) (Nat.le_of_ble_eq_true rfl)
  rw [lg_entry_eq]
  generalize (lg_sl ([.ref h0]) ++ List.replicate (4 - (lg_sl ([.ref h0])).length) Slot.unset).toArray = ls at hl ⊢
  have hl : lv_has ls 4 [(0, .ref h0)] := hl
  refine lv_aload_n hx hb dX3_sync_0 rfl (lv_at hl 0 rfl) ?_
  refine lv_iconst (v := 0) hx hb dX3_sync_1 (by decide) ?_
  refine va_put (D := (dC, dI)) (ci := 4) (v := .int 0) (ty := .int) (C := RX3) (T := TX3) (N := 21) hx hb hts hiX3 tyX3 tyX3_ok nmX3 hown hK hP hD hS 0 rfl rfl 0 (by decide) (hts (.fieldLink RX3 43 "LibraryDiskModel" "thrown" "I") (by decide +kernel)) (fun _ h9 => h9) rfl (by decide +kernel) rfl rfl (Nat.le_of_ble_eq_true rfl) dX3_sync_2 (fun H locs hP hD hS => ?_)
  have hP : va_P (dC, dI) vwCl [(h0, .inr (4, [.int 0, .int (nI n), .ref m1, .ref m2, .ref m3, .ref m4, .int 0, .int 0, .int 0, .int 0, .int 0, .int 0, .int 0, .int 0, .ref m5, .int 0, .int 0, .ref m6, .ref m7, .ref m8, .ref m9])), (m1, .inl (cB, 2560, .inl f)), (m2, .inl (cB, 2560, .inl f2)), (m3, .inl (cB, 2560, .inl f3))] H := hP
  have hD : va_D A [(h0, .inr (4, [.int 0, .int (nI n), .ref m1, .ref m2, .ref m3, .ref m4, .int 0, .int 0, .int 0, .int 0, .int 0, .int 0, .int 0, .int 0, .ref m5, .int 0, .int 0, .ref m6, .ref m7, .ref m8, .ref m9])), (m1, .inl (cB, 2560, .inl f)), (m2, .inl (cB, 2560, .inl f2)), (m3, .inl (cB, 2560, .inl f3))] := hD
  refine lv_aload_n hx hb dX3_sync_5 rfl (lv_at hl 0 rfl) ?_
  refine va_get (D := (dC, dI)) (ci := 4) (v := .int 0) (C := RX3) (T := TX3) (N := 21) hx hb hts hiX3 hown hK hP 0 rfl rfl 7 (by decide) (hts (.fieldLink RX3 67 "LibraryDiskModel" "off" "Z") (by decide +kernel)) (fun _ h9 => h9) rfl dX3_sync_6 ?_
  refine lv_if_eq (tgt := 15) hx hb dX3_sync_9 (by decide) (fun c_9 => ?_) (fun c_9 => ?_)
  · skip
    refine lv_iconst (v := 0) hx hb dX3_sync_15 (by decide) ?_
    refine lv_istore_n (lv' := [(1, .int 0), (0, .ref h0)]) hx hb dX3_sync_16 rfl hl (by decide) rfl (fun ls hl => ?_)
    refine mq_loop 17 4 (σ := Nat × (Nat → Int32)) (I := fun q => q.1 ≤ 64 * n) (μ := fun q => 64 * n - q.1) (wsf := fun q => [(h0, .inr (4, [.int 0, .int (nI n), .ref m1, .ref m2, .ref m3, .ref m4, .int 0, .int 0, .int 0, .int 0, .int 0, .int 0, .int 0, .int 0, .ref m5, .int 0, .int 0, .ref m6, .ref m7, .ref m8, .ref m9])), (m1, .inl (cB, 2560, .inl f)), (m2, .inl (cB, 2560, .inl q.2)), (m3, .inl (cB, 2560, .inl f3))]) (lvf := fun q => [(0, .ref h0), (1, .int (nI q.1))]) (fun q_17 hI_17 ih_17 H locs ls hP hD hS hl => ?_) (0, f2) (Nat.zero_le _) (hP.sub [0, 1, 2, 3] rfl) (hD.sub [0, 1, 2, 3] (by decide) rfl) hS (lv_sub hl [1, 0] rfl)
    obtain ⟨i, g⟩ := q_17
    have hI : i ≤ 64 * n := hI_17
    have hP : va_P (dC, dI) vwCl [(h0, .inr (4, [.int 0, .int (nI n), .ref m1, .ref m2, .ref m3, .ref m4, .int 0, .int 0, .int 0, .int 0, .int 0, .int 0, .int 0, .int 0, .ref m5, .int 0, .int 0, .ref m6, .ref m7, .ref m8, .ref m9])), (m1, .inl (cB, 2560, .inl f)), (m2, .inl (cB, 2560, .inl g)), (m3, .inl (cB, 2560, .inl f3))] H := hP
    have hD : va_D A [(h0, .inr (4, [.int 0, .int (nI n), .ref m1, .ref m2, .ref m3, .ref m4, .int 0, .int 0, .int 0, .int 0, .int 0, .int 0, .int 0, .int 0, .ref m5, .int 0, .int 0, .ref m6, .ref m7, .ref m8, .ref m9])), (m1, .inl (cB, 2560, .inl f)), (m2, .inl (cB, 2560, .inl g)), (m3, .inl (cB, 2560, .inl f3))] := hD
    have hl : lv_has ls 4 [(0, .ref h0), (1, .int (nI i))] := hl
    refine lv_iload_n hx hb dX3_sync_17 rfl (lv_at hl 1 rfl) ?_
    refine lv_bipush (v := 64) hx hb dX3_sync_18 (by decide) ?_
    refine lv_aload_n hx hb dX3_sync_20 rfl (lv_at hl 0 rfl) ?_
    refine va_get (D := (dC, dI)) (ci := 4) (v := .int (nI n)) (C := RX3) (T := TX3) (N := 21) hx hb hts hiX3 hown hK hP 0 rfl rfl 1 (by decide) (hts (.fieldLink RX3 39 "LibraryDiskModel" "sectors" "I") (by decide +kernel)) (fun _ h9 => h9) rfl dX3_sync_21 ?_
    refine lv_imul hx hb dX3_sync_24 ?_
    refine lv_icmp_ge (tgt := 46) hx hb dX3_sync_25 (by decide) (fun c_25 => ?_) (fun c_25 => ?_)
    · skip
      refine lv_aload_n hx hb dX3_sync_46 rfl (lv_at hl 0 rfl) ?_
      refine lv_dup hx hb dX3_sync_47 rfl ?_
      refine va_get (D := (dC, dI)) (ci := 4) (v := .int 0) (C := RX3) (T := TX3) (N := 21) hx hb hts hiX3 hown hK hP 0 rfl rfl 8 (by decide) (hts (.fieldLink RX3 85 "LibraryDiskModel" "number" "I") (by decide +kernel)) (fun _ h9 => h9) rfl dX3_sync_48 ?_
      refine lv_iconst (v := 1) hx hb dX3_sync_51 (by decide) ?_
      refine lv_iadd hx hb dX3_sync_52 ?_
      refine lv_topi (fun x_1 ex_1 => ?_)
      refine va_put (D := (dC, dI)) (ci := 4) (v := .int x_1) (ty := .int) (C := RX3) (T := TX3) (N := 21) hx hb hts hiX3 tyX3 tyX3_ok nmX3 hown hK hP hD hS 0 rfl rfl 8 (by decide) (hts (.fieldLink RX3 85 "LibraryDiskModel" "number" "I") (by decide +kernel)) (fun _ h9 => h9) rfl (by decide +kernel) rfl rfl (Nat.le_of_ble_eq_true rfl) dX3_sync_53 (fun H locs hP hD hS => ?_)
      have hP : va_P (dC, dI) vwCl [(h0, .inr (4, [.int 0, .int (nI n), .ref m1, .ref m2, .ref m3, .ref m4, .int 0, .int 0, .int x_1, .int 0, .int 0, .int 0, .int 0, .int 0, .ref m5, .int 0, .int 0, .ref m6, .ref m7, .ref m8, .ref m9])), (m1, .inl (cB, 2560, .inl f)), (m2, .inl (cB, 2560, .inl g)), (m3, .inl (cB, 2560, .inl f3))] H := hP
      have hD : va_D A [(h0, .inr (4, [.int 0, .int (nI n), .ref m1, .ref m2, .ref m3, .ref m4, .int 0, .int 0, .int x_1, .int 0, .int 0, .int 0, .int 0, .int 0, .ref m5, .int 0, .int 0, .ref m6, .ref m7, .ref m8, .ref m9])), (m1, .inl (cB, 2560, .inl f)), (m2, .inl (cB, 2560, .inl g)), (m3, .inl (cB, 2560, .inl f3))] := hD
      obtain rfl : x_1 = 1 := by rw [ex_1]; decide
      refine lv_aload_n hx hb dX3_sync_56 rfl (lv_at hl 0 rfl) ?_
      refine lv_iconst (v := 2) hx hb dX3_sync_57 (by decide) ?_
      refine lv_aload_n hx hb dX3_sync_58 rfl (lv_at hl 0 rfl) ?_
      refine va_get (D := (dC, dI)) (ci := 4) (v := .int 0) (C := RX3) (T := TX3) (N := 21) hx hb hts hiX3 hown hK hP 0 rfl rfl 9 (by decide) (hts (.fieldLink RX3 78 "LibraryDiskModel" "used" "I") (by decide +kernel)) (fun _ h9 => h9) rfl dX3_sync_59 ?_
      refine lv_iadd hx hb dX3_sync_62 ?_
      refine lv_topi (fun x_2 ex_2 => ?_)
      refine va_put (D := (dC, dI)) (ci := 4) (v := .int x_2) (ty := .int) (C := RX3) (T := TX3) (N := 21) hx hb hts hiX3 tyX3 tyX3_ok nmX3 hown hK hP hD hS 0 rfl rfl 11 (by decide) (hts (.fieldLink RX3 91 "LibraryDiskModel" "begun" "I") (by decide +kernel)) (fun _ h9 => h9) rfl (by decide +kernel) rfl rfl (Nat.le_of_ble_eq_true rfl) dX3_sync_63 (fun H locs hP hD hS => ?_)
      have hP : va_P (dC, dI) vwCl [(h0, .inr (4, [.int 0, .int (nI n), .ref m1, .ref m2, .ref m3, .ref m4, .int 0, .int 0, .int 1, .int 0, .int 0, .int x_2, .int 0, .int 0, .ref m5, .int 0, .int 0, .ref m6, .ref m7, .ref m8, .ref m9])), (m1, .inl (cB, 2560, .inl f)), (m2, .inl (cB, 2560, .inl g)), (m3, .inl (cB, 2560, .inl f3))] H := hP
      have hD : va_D A [(h0, .inr (4, [.int 0, .int (nI n), .ref m1, .ref m2, .ref m3, .ref m4, .int 0, .int 0, .int 1, .int 0, .int 0, .int x_2, .int 0, .int 0, .ref m5, .int 0, .int 0, .ref m6, .ref m7, .ref m8, .ref m9])), (m1, .inl (cB, 2560, .inl f)), (m2, .inl (cB, 2560, .inl g)), (m3, .inl (cB, 2560, .inl f3))] := hD
      obtain rfl : x_2 = 2 := by rw [ex_2]; decide
      refine lv_aload_n hx hb dX3_sync_66 rfl (lv_at hl 0 rfl) ?_
      refine va_get (D := (dC, dI)) (ci := 4) (v := .int 2) (C := RX3) (T := TX3) (N := 21) hx hb hts hiX3 hown hK hP 0 rfl rfl 11 (by decide) (hts (.fieldLink RX3 91 "LibraryDiskModel" "begun" "I") (by decide +kernel)) (fun _ h9 => h9) rfl dX3_sync_67 ?_
      refine lv_istore_n (lv' := [(1, .int 2), (0, .ref h0)]) hx hb dX3_sync_70 rfl hl (by decide) rfl (fun ls hl => ?_)
      refine lv_aload_n hx hb dX3_sync_71 rfl (lv_at hl 1 rfl) ?_
      refine va_get (D := (dC, dI)) (ci := 4) (v := .int 0) (C := RX3) (T := TX3) (N := 21) hx hb hts hiX3 hown hK hP 0 rfl rfl 16 (by decide) (hts (.fieldLink RX3 61 "LibraryDiskModel" "laid" "I") (by decide +kernel)) (fun _ h9 => h9) rfl dX3_sync_72 ?_
      refine lv_aload_n hx hb dX3_sync_75 rfl (lv_at hl 1 rfl) ?_
      refine va_get (D := (dC, dI)) (ci := 4) (v := .int 0) (C := RX3) (T := TX3) (N := 21) hx hb hts hiX3 hown hK hP 0 rfl rfl 15 (by decide) (hts (.fieldLink RX3 64 "LibraryDiskModel" "rows" "I") (by decide +kernel)) (fun _ h9 => h9) rfl dX3_sync_76 ?_
      refine lv_icmp_ge (tgt := 101) hx hb dX3_sync_79 (by decide) (fun c_79 => ?_) (fun c_79 => ?_)
      · skip
        refine lv_aload_n hx hb dX3_sync_101 rfl (lv_at hl 1 rfl) ?_
        refine lv_iload_n hx hb dX3_sync_102 rfl (lv_at hl 0 rfl) ?_
        refine lv_iconst (v := 2) hx hb dX3_sync_103 (by decide) ?_
        refine lv_isub hx hb dX3_sync_104 ?_
        refine lv_topi (fun x_3 ex_3 => ?_)
        refine va_put (D := (dC, dI)) (ci := 4) (v := .int x_3) (ty := .int) (C := RX3) (T := TX3) (N := 21) hx hb hts hiX3 tyX3 tyX3_ok nmX3 hown hK hP hD hS 0 rfl rfl 9 (by decide) (hts (.fieldLink RX3 78 "LibraryDiskModel" "used" "I") (by decide +kernel)) (fun _ h9 => h9) rfl (by decide +kernel) rfl rfl (Nat.le_of_ble_eq_true rfl) dX3_sync_105 (fun H locs hP hD hS => ?_)
        have hP : va_P (dC, dI) vwCl [(h0, .inr (4, [.int 0, .int (nI n), .ref m1, .ref m2, .ref m3, .ref m4, .int 0, .int 0, .int 1, .int x_3, .int 0, .int 2, .int 0, .int 0, .ref m5, .int 0, .int 0, .ref m6, .ref m7, .ref m8, .ref m9])), (m1, .inl (cB, 2560, .inl f)), (m2, .inl (cB, 2560, .inl g)), (m3, .inl (cB, 2560, .inl f3))] H := hP
        have hD : va_D A [(h0, .inr (4, [.int 0, .int (nI n), .ref m1, .ref m2, .ref m3, .ref m4, .int 0, .int 0, .int 1, .int x_3, .int 0, .int 2, .int 0, .int 0, .ref m5, .int 0, .int 0, .ref m6, .ref m7, .ref m8, .ref m9])), (m1, .inl (cB, 2560, .inl f)), (m2, .inl (cB, 2560, .inl g)), (m3, .inl (cB, 2560, .inl f3))] := hD
        obtain rfl : x_3 = 0 := by rw [ex_3]; decide
        refine lv_aload_n hx hb dX3_sync_108 rfl (lv_at hl 1 rfl) ?_
        refine va_get (D := (dC, dI)) (ci := 4) (v := .int 1) (C := RX3) (T := TX3) (N := 21) hx hb hts hiX3 hown hK hP 0 rfl rfl 8 (by decide) (hts (.fieldLink RX3 85 "LibraryDiskModel" "number" "I") (by decide +kernel)) (fun _ h9 => h9) rfl dX3_sync_109 ?_
        refine lv_iconst (v := 2) hx hb dX3_sync_112 (by decide) ?_
        refine lv_irem hx hb dX3_sync_113 (by decide) ?_
        refine lv_topi (fun x_4 ex_4 => ?_)
        refine lv_if_ne (tgt := 121) hx hb dX3_sync_114 (by decide) (fun c_114 => ?_) (fun c_114 => ?_)
        · skip
          refine lv_iconst (v := 1) hx hb dX3_sync_121 (by decide) ?_
          refine lv_istore_n (lv' := [(2, .int 1), (1, .int 2), (0, .ref h0)]) hx hb dX3_sync_122 rfl hl (by decide) rfl (fun ls hl => ?_)
          refine lv_aload_n hx hb dX3_sync_123 rfl (lv_at hl 2 rfl) ?_
          refine lv_iload_n hx hb dX3_sync_124 rfl (lv_at hl 0 rfl) ?_
          refine mq_callv (wr := [(m2, .inl (cB, 2560, .inl g)), (m3, .inl (cB, 2560, .inl f3))]) (fun (uu_5 : (Nat → Int32)) => [(h0, .inr (4, [.int 0, .int (nI n), .ref m1, .ref m2, .ref m3, .ref m4, .int 0, .int 0, .int 1, .int 0, .int 0, .int 2, .int 0, .int 0, .ref m5, .int 0, .int 0, .ref m6, .ref m7, .ref m8, .ref m9])), (m1, .inl (cB, 2560, .inl uu_5)), (m2, .inl (cB, 2560, .inl g)), (m3, .inl (cB, 2560, .inl f3))]) (va_runV (As := [.int 1]) (rest := []) ⟨hx, hb, hml, hown, hts⟩ (ct_X3_clear l dC dI cB cI h0 m1 m2 m3 m4 m5 m6 m7 m8 m9 n hn 1 0 2 f 1 (by decide) H.size) (cwV 1 hts gX3_sync_X3_clear rfl rfl rfl (by decide +kernel) ⟨Nat.le_of_ble_eq_true rfl, Nat.le_of_ble_eq_true rfl⟩) ⟨mq_blind, va_recv hK hP (ci := 4) (q0 := 0) rfl rfl, mq_pre hK hN hP hD [0, 1] rfl (by decide)⟩ rfl rfl hl.1 rfl (lv_room (Nat.le_of_ble_eq_true rfl)) dX3_sync_125 ⟨Nat.le_of_ble_eq_true rfl, Nat.le_of_ble_eq_true rfl⟩) hP hD hS hA [0, 1] [2, 3] [2, 3, 0, 1] rfl rfl (by decide) (by decide) (by decide) (fun _ => rfl) (fun u_7 H locs hw_125 hP hD hS => ?_)
          have hP : va_P (dC, dI) vwCl [(h0, .inr (4, [.int 0, .int (nI n), .ref m1, .ref m2, .ref m3, .ref m4, .int 0, .int 0, .int 1, .int 0, .int 0, .int 2, .int 0, .int 0, .ref m5, .int 0, .int 0, .ref m6, .ref m7, .ref m8, .ref m9])), (m1, .inl (cB, 2560, .inl u_7)), (m2, .inl (cB, 2560, .inl g)), (m3, .inl (cB, 2560, .inl f3))] H := hP
          have hD : va_D A [(h0, .inr (4, [.int 0, .int (nI n), .ref m1, .ref m2, .ref m3, .ref m4, .int 0, .int 0, .int 1, .int 0, .int 0, .int 2, .int 0, .int 0, .ref m5, .int 0, .int 0, .ref m6, .ref m7, .ref m8, .ref m9])), (m1, .inl (cB, 2560, .inl u_7)), (m2, .inl (cB, 2560, .inl g)), (m3, .inl (cB, 2560, .inl f3))] := hD
          refine lv_aload_n hx hb dX3_sync_128 rfl (lv_at hl 2 rfl) ?_
          refine lv_bipush (v := 64) hx hb dX3_sync_129 (by decide) ?_
          refine lv_iload_n hx hb dX3_sync_131 rfl (lv_at hl 0 rfl) ?_
          refine lv_imul hx hb dX3_sync_132 ?_
          refine lv_topi (fun x_h ex_h => ?_)
          obtain rfl : x_h = nI 64 := by rw [ex_h]; decide
          refine lv_aload_n hx hb dX3_sync_133 rfl (lv_at hl 2 rfl) ?_
          refine va_get (D := (dC, dI)) (ci := 4) (v := .int 1) (C := RX3) (T := TX3) (N := 21) hx hb hts hiX3 hown hK hP 0 rfl rfl 8 (by decide) (hts (.fieldLink RX3 85 "LibraryDiskModel" "number" "I") (by decide +kernel)) (fun _ h9 => h9) rfl dX3_sync_134 ?_
          refine mq_callv (wr := [(m2, .inl (cB, 2560, .inl g)), (m3, .inl (cB, 2560, .inl f3))]) (fun (uu_8 : (Nat → Int32)) => [(h0, .inr (4, [.int 0, .int (nI n), .ref m1, .ref m2, .ref m3, .ref m4, .int 0, .int 0, .int 1, .int 0, .int 0, .int 2, .int 0, .int 0, .ref m5, .int 0, .int 0, .ref m6, .ref m7, .ref m8, .ref m9])), (m1, .inl (cB, 2560, .inl uu_8)), (m2, .inl (cB, 2560, .inl g)), (m3, .inl (cB, 2560, .inl f3))]) (va_runV (As := [.int (nI 64), .int 1]) (rest := []) ⟨hx, hb, hml, hown, hts⟩ (ct_X3_putFour l dC dI cB cI h0 m1 m2 m3 m4 m5 m6 m7 m8 m9 n hn 1 0 2 u_7 64 (by decide) 1 H.size) (cwV 2 hts gX3_sync_X3_putFour rfl rfl rfl (by decide +kernel) ⟨Nat.le_of_ble_eq_true rfl, Nat.le_of_ble_eq_true rfl⟩) ⟨mq_blind, va_recv hK hP (ci := 4) (q0 := 0) rfl rfl, mq_pre hK hN hP hD [0, 1] rfl (by decide)⟩ rfl rfl hl.1 rfl (lv_room (Nat.le_of_ble_eq_true rfl)) dX3_sync_137 ⟨Nat.le_of_ble_eq_true rfl, Nat.le_of_ble_eq_true rfl⟩) hP hD hS hA [0, 1] [2, 3] [2, 3, 0, 1] rfl rfl (by decide) (by decide) (by decide) (fun _ => rfl) (fun u_10 H locs hw_137 hP hD hS => ?_)
          have hP : va_P (dC, dI) vwCl [(h0, .inr (4, [.int 0, .int (nI n), .ref m1, .ref m2, .ref m3, .ref m4, .int 0, .int 0, .int 1, .int 0, .int 0, .int 2, .int 0, .int 0, .ref m5, .int 0, .int 0, .ref m6, .ref m7, .ref m8, .ref m9])), (m1, .inl (cB, 2560, .inl u_10)), (m2, .inl (cB, 2560, .inl g)), (m3, .inl (cB, 2560, .inl f3))] H := hP
          have hD : va_D A [(h0, .inr (4, [.int 0, .int (nI n), .ref m1, .ref m2, .ref m3, .ref m4, .int 0, .int 0, .int 1, .int 0, .int 0, .int 2, .int 0, .int 0, .ref m5, .int 0, .int 0, .ref m6, .ref m7, .ref m8, .ref m9])), (m1, .inl (cB, 2560, .inl u_10)), (m2, .inl (cB, 2560, .inl g)), (m3, .inl (cB, 2560, .inl f3))] := hD
          refine lv_aload_n hx hb dX3_sync_140 rfl (lv_at hl 2 rfl) ?_
          refine lv_bipush (v := 64) hx hb dX3_sync_141 (by decide) ?_
          refine lv_iload_n hx hb dX3_sync_143 rfl (lv_at hl 0 rfl) ?_
          refine lv_imul hx hb dX3_sync_144 ?_
          refine lv_iconst (v := 4) hx hb dX3_sync_145 (by decide) ?_
          refine lv_iadd hx hb dX3_sync_146 ?_
          refine lv_topi (fun x_g ex_g => ?_)
          obtain rfl : x_g = nI 68 := by rw [ex_g]; decide
          refine lv_aload_n hx hb dX3_sync_147 rfl (lv_at hl 2 rfl) ?_
          refine va_get (D := (dC, dI)) (ci := 4) (v := .int 0) (C := RX3) (T := TX3) (N := 21) hx hb hts hiX3 hown hK hP 0 rfl rfl 9 (by decide) (hts (.fieldLink RX3 78 "LibraryDiskModel" "used" "I") (by decide +kernel)) (fun _ h9 => h9) rfl dX3_sync_148 ?_
          refine mq_callv (wr := [(m2, .inl (cB, 2560, .inl g)), (m3, .inl (cB, 2560, .inl f3))]) (fun (uu_11 : (Nat → Int32)) => [(h0, .inr (4, [.int 0, .int (nI n), .ref m1, .ref m2, .ref m3, .ref m4, .int 0, .int 0, .int 1, .int 0, .int 0, .int 2, .int 0, .int 0, .ref m5, .int 0, .int 0, .ref m6, .ref m7, .ref m8, .ref m9])), (m1, .inl (cB, 2560, .inl uu_11)), (m2, .inl (cB, 2560, .inl g)), (m3, .inl (cB, 2560, .inl f3))]) (va_runV (As := [.int (nI 68), .int 0]) (rest := []) ⟨hx, hb, hml, hown, hts⟩ (ct_X3_putFour l dC dI cB cI h0 m1 m2 m3 m4 m5 m6 m7 m8 m9 n hn 1 0 2 u_10 68 (by decide) 0 H.size) (cwV 2 hts gX3_sync_X3_putFour rfl rfl rfl (by decide +kernel) ⟨Nat.le_of_ble_eq_true rfl, Nat.le_of_ble_eq_true rfl⟩) ⟨mq_blind, va_recv hK hP (ci := 4) (q0 := 0) rfl rfl, mq_pre hK hN hP hD [0, 1] rfl (by decide)⟩ rfl rfl hl.1 rfl (lv_room (Nat.le_of_ble_eq_true rfl)) dX3_sync_151 ⟨Nat.le_of_ble_eq_true rfl, Nat.le_of_ble_eq_true rfl⟩) hP hD hS hA [0, 1] [2, 3] [2, 3, 0, 1] rfl rfl (by decide) (by decide) (by decide) (fun _ => rfl) (fun u_13 H locs hw_151 hP hD hS => ?_)
          have hP : va_P (dC, dI) vwCl [(h0, .inr (4, [.int 0, .int (nI n), .ref m1, .ref m2, .ref m3, .ref m4, .int 0, .int 0, .int 1, .int 0, .int 0, .int 2, .int 0, .int 0, .ref m5, .int 0, .int 0, .ref m6, .ref m7, .ref m8, .ref m9])), (m1, .inl (cB, 2560, .inl u_13)), (m2, .inl (cB, 2560, .inl g)), (m3, .inl (cB, 2560, .inl f3))] H := hP
          have hD : va_D A [(h0, .inr (4, [.int 0, .int (nI n), .ref m1, .ref m2, .ref m3, .ref m4, .int 0, .int 0, .int 1, .int 0, .int 0, .int 2, .int 0, .int 0, .ref m5, .int 0, .int 0, .ref m6, .ref m7, .ref m8, .ref m9])), (m1, .inl (cB, 2560, .inl u_13)), (m2, .inl (cB, 2560, .inl g)), (m3, .inl (cB, 2560, .inl f3))] := hD
          refine lv_aload_n hx hb dX3_sync_154 rfl (lv_at hl 2 rfl) ?_
          refine lv_iload_n hx hb dX3_sync_155 rfl (lv_at hl 0 rfl) ?_
          refine mq_callv (wr := [(m2, .inl (cB, 2560, .inl g)), (m3, .inl (cB, 2560, .inl f3))]) (fun (uu_14 : (Nat → Int32)) => [(h0, .inr (4, [.int 0, .int (nI n), .ref m1, .ref m2, .ref m3, .ref m4, .int 0, .int 0, .int 1, .int 0, .int 0, .int 2, .int 0, .int 0, .ref m5, .int 0, .int 0, .ref m6, .ref m7, .ref m8, .ref m9])), (m1, .inl (cB, 2560, .inl uu_14)), (m2, .inl (cB, 2560, .inl g)), (m3, .inl (cB, 2560, .inl f3))]) (va_runV (As := [.int 1]) (rest := []) ⟨hx, hb, hml, hown, hts⟩ (ct_X3_seal l dC dI cB cI h0 m1 m2 m3 m4 m5 m6 m7 m8 m9 n hn 1 0 2 u_13 1 (by decide) H.size) (cwV 1 hts gX3_sync_X3_seal rfl rfl rfl (by decide +kernel) ⟨Nat.le_of_ble_eq_true rfl, Nat.le_of_ble_eq_true rfl⟩) ⟨mq_blind, va_recv hK hP (ci := 4) (q0 := 0) rfl rfl, mq_pre hK hN hP hD [0, 1] rfl (by decide)⟩ rfl rfl hl.1 rfl (lv_room (Nat.le_of_ble_eq_true rfl)) dX3_sync_156 ⟨Nat.le_of_ble_eq_true rfl, Nat.le_of_ble_eq_true rfl⟩) hP hD hS hA [0, 1] [2, 3] [2, 3, 0, 1] rfl rfl (by decide) (by decide) (by decide) (fun _ => rfl) (fun u_16 H locs hw_156 hP hD hS => ?_)
          have hP : va_P (dC, dI) vwCl [(h0, .inr (4, [.int 0, .int (nI n), .ref m1, .ref m2, .ref m3, .ref m4, .int 0, .int 0, .int 1, .int 0, .int 0, .int 2, .int 0, .int 0, .ref m5, .int 0, .int 0, .ref m6, .ref m7, .ref m8, .ref m9])), (m1, .inl (cB, 2560, .inl u_16)), (m2, .inl (cB, 2560, .inl g)), (m3, .inl (cB, 2560, .inl f3))] H := hP
          have hD : va_D A [(h0, .inr (4, [.int 0, .int (nI n), .ref m1, .ref m2, .ref m3, .ref m4, .int 0, .int 0, .int 1, .int 0, .int 0, .int 2, .int 0, .int 0, .ref m5, .int 0, .int 0, .ref m6, .ref m7, .ref m8, .ref m9])), (m1, .inl (cB, 2560, .inl u_16)), (m2, .inl (cB, 2560, .inl g)), (m3, .inl (cB, 2560, .inl f3))] := hD
          refine lv_aload_n hx hb dX3_sync_159 rfl (lv_at hl 2 rfl) ?_
          refine lv_iload_n hx hb dX3_sync_160 rfl (lv_at hl 1 rfl) ?_
          refine lv_aload_n hx hb dX3_sync_161 rfl (lv_at hl 2 rfl) ?_
          refine va_get (D := (dC, dI)) (ci := 4) (v := .int 2) (C := RX3) (T := TX3) (N := 21) hx hb hts hiX3 hown hK hP 0 rfl rfl 11 (by decide) (hts (.fieldLink RX3 91 "LibraryDiskModel" "begun" "I") (by decide +kernel)) (fun _ h9 => h9) rfl dX3_sync_162 ?_
          refine lv_isub hx hb dX3_sync_165 ?_
          refine lv_iconst (v := 1) hx hb dX3_sync_166 (by decide) ?_
          refine lv_iadd hx hb dX3_sync_167 ?_
          refine lv_topi (fun x_17 ex_17 => ?_)
          refine va_put (D := (dC, dI)) (ci := 4) (v := .int x_17) (ty := .int) (C := RX3) (T := TX3) (N := 21) hx hb hts hiX3 tyX3 tyX3_ok nmX3 hown hK hP hD hS 0 rfl rfl 10 (by decide) (hts (.fieldLink RX3 98 "LibraryDiskModel" "writes" "I") (by decide +kernel)) (fun _ h9 => h9) rfl (by decide +kernel) rfl rfl (Nat.le_of_ble_eq_true rfl) dX3_sync_168 (fun H locs hP hD hS => ?_)
          have hP : va_P (dC, dI) vwCl [(h0, .inr (4, [.int 0, .int (nI n), .ref m1, .ref m2, .ref m3, .ref m4, .int 0, .int 0, .int 1, .int 0, .int x_17, .int 2, .int 0, .int 0, .ref m5, .int 0, .int 0, .ref m6, .ref m7, .ref m8, .ref m9])), (m1, .inl (cB, 2560, .inl u_16)), (m2, .inl (cB, 2560, .inl g)), (m3, .inl (cB, 2560, .inl f3))] H := hP
          have hD : va_D A [(h0, .inr (4, [.int 0, .int (nI n), .ref m1, .ref m2, .ref m3, .ref m4, .int 0, .int 0, .int 1, .int 0, .int x_17, .int 2, .int 0, .int 0, .ref m5, .int 0, .int 0, .ref m6, .ref m7, .ref m8, .ref m9])), (m1, .inl (cB, 2560, .inl u_16)), (m2, .inl (cB, 2560, .inl g)), (m3, .inl (cB, 2560, .inl f3))] := hD
          obtain rfl : x_17 = 1 := by rw [ex_17]; decide
          refine lv_iconst (v := 0) hx hb dX3_sync_171 (by decide) ?_
          refine lv_istore_n (lv' := [(3, .int 0), (2, .int 1), (1, .int 2), (0, .ref h0)]) hx hb dX3_sync_172 rfl hl (by decide) rfl (fun ls hl => ?_)
          refine mq_loop 173 4 (σ := Nat × (Nat → Int32)) (I := fun q => q.1 ≤ 64 * n) (μ := fun q => 64 * n - q.1) (wsf := fun q => [(h0, .inr (4, [.int 0, .int (nI n), .ref m1, .ref m2, .ref m3, .ref m4, .int 0, .int 0, .int 1, .int 0, .int 1, .int 2, .int 0, .int 0, .ref m5, .int 0, .int 0, .ref m6, .ref m7, .ref m8, .ref m9])), (m1, .inl (cB, 2560, .inl u_16)), (m3, .inl (cB, 2560, .inl q.2))]) (lvf := fun q => [(0, .ref h0), (3, .int (nI q.1))]) (fun q_173 hI_173 ih_173 H locs ls hP hD hS hl => ?_) (0, f3) (Nat.zero_le _) (hP.sub [0, 1, 3] rfl) (hD.sub [0, 1, 3] (by decide) rfl) hS (lv_sub hl [3, 0] rfl)
          obtain ⟨i, g⟩ := q_173
          have hI : i ≤ 64 * n := hI_173
          have hP : va_P (dC, dI) vwCl [(h0, .inr (4, [.int 0, .int (nI n), .ref m1, .ref m2, .ref m3, .ref m4, .int 0, .int 0, .int 1, .int 0, .int 1, .int 2, .int 0, .int 0, .ref m5, .int 0, .int 0, .ref m6, .ref m7, .ref m8, .ref m9])), (m1, .inl (cB, 2560, .inl u_16)), (m3, .inl (cB, 2560, .inl g))] H := hP
          have hD : va_D A [(h0, .inr (4, [.int 0, .int (nI n), .ref m1, .ref m2, .ref m3, .ref m4, .int 0, .int 0, .int 1, .int 0, .int 1, .int 2, .int 0, .int 0, .ref m5, .int 0, .int 0, .ref m6, .ref m7, .ref m8, .ref m9])), (m1, .inl (cB, 2560, .inl u_16)), (m3, .inl (cB, 2560, .inl g))] := hD
          have hl : lv_has ls 4 [(0, .ref h0), (3, .int (nI i))] := hl
          refine lv_iload_n hx hb dX3_sync_173 rfl (lv_at hl 1 rfl) ?_
          refine lv_bipush (v := 64) hx hb dX3_sync_174 (by decide) ?_
          refine lv_aload_n hx hb dX3_sync_176 rfl (lv_at hl 0 rfl) ?_
          refine va_get (D := (dC, dI)) (ci := 4) (v := .int (nI n)) (C := RX3) (T := TX3) (N := 21) hx hb hts hiX3 hown hK hP 0 rfl rfl 1 (by decide) (hts (.fieldLink RX3 39 "LibraryDiskModel" "sectors" "I") (by decide +kernel)) (fun _ h9 => h9) rfl dX3_sync_177 ?_
          refine lv_imul hx hb dX3_sync_180 ?_
          refine lv_icmp_ge (tgt := 202) hx hb dX3_sync_181 (by decide) (fun c_181 => ?_) (fun c_181 => ?_)
          · skip
            refine lv_aload_n hx hb dX3_sync_202 rfl (lv_at hl 0 rfl) ?_
            refine va_get (D := (dC, dI)) (ci := 4) (v := .int 1) (C := RX3) (T := TX3) (N := 21) hx hb hts hiX3 hown hK hP 0 rfl rfl 10 (by decide) (hts (.fieldLink RX3 98 "LibraryDiskModel" "writes" "I") (by decide +kernel)) (fun _ h9 => h9) rfl dX3_sync_203 ?_
            have hP9 := hP.sub (ws' := []) [] rfl
            have hD9 := hD.sub (ws' := []) [] (by decide) rfl
            exact W.iret (v := 1) hx hb hr (fun t ht hW => ⟨⟨1, (), rfl, rfl, by rw [ht]; exact hP9, va_K.moved hW.alike hK, by rw [hAe]; exact hD9⟩, hS.F ht⟩) hS.2.2 dX3_sync_206
          · skip
            have hlt : i < 64 * n := k_lt (k := 64 * n) (n64 n) (by omega) (by omega) c_181
            refine lv_aload_n hx hb dX3_sync_184 rfl (lv_at hl 0 rfl) ?_
            refine va_get (D := (dC, dI)) (ci := 4) (v := .ref m3) (C := RX3) (T := TX3) (N := 21) hx hb hts hiX3 hown hK hP 0 rfl rfl 4 (by decide) (hts (.fieldLink RX3 16 "LibraryDiskModel" "after" "[B") (by decide +kernel)) (fun _ h9 => h9) rfl dX3_sync_185 ?_
            refine lv_iload_n hx hb dX3_sync_188 rfl (lv_at hl 1 rfl) ?_
            refine lv_aload_n hx hb dX3_sync_189 rfl (lv_at hl 0 rfl) ?_
            refine va_get (D := (dC, dI)) (ci := 4) (v := .ref m1) (C := RX3) (T := TX3) (N := 21) hx hb hts hiX3 hown hK hP 0 rfl rfl 2 (by decide) (hts (.fieldLink RX3 7 "LibraryDiskModel" "disk" "[B") (by decide +kernel)) (fun _ h9 => h9) rfl dX3_sync_190 ?_
            refine lv_iload_n hx hb dX3_sync_193 rfl (lv_at hl 1 rfl) ?_
            refine va_bald hx hb hK hP 1 0 rfl rfl (vp_in_nI (by omega) (by omega)) dX3_sync_194 ?_
            refine va_bast hx hb hK hP hD hS 2 0 rfl rfl (vp_in_nI (by omega) (by omega)) dX3_sync_195 (fun H locs hP hD hS => ?_)
            have hP : va_P (dC, dI) vwCl [(h0, .inr (4, [.int 0, .int (nI n), .ref m1, .ref m2, .ref m3, .ref m4, .int 0, .int 0, .int 1, .int 0, .int 1, .int 2, .int 0, .int 0, .ref m5, .int 0, .int 0, .ref m6, .ref m7, .ref m8, .ref m9])), (m1, .inl (cB, 2560, .inl u_16)), (m3, .inl (cB, 2560, .inl (upd g (nI i).toNatClampNeg (vp_nar .byte (u_16 (nI i).toNatClampNeg)))))] H := hP
            have hD : va_D A [(h0, .inr (4, [.int 0, .int (nI n), .ref m1, .ref m2, .ref m3, .ref m4, .int 0, .int 0, .int 1, .int 0, .int 1, .int 2, .int 0, .int 0, .ref m5, .int 0, .int 0, .ref m6, .ref m7, .ref m8, .ref m9])), (m1, .inl (cB, 2560, .inl u_16)), (m3, .inl (cB, 2560, .inl (upd g (nI i).toNatClampNeg (vp_nar .byte (u_16 (nI i).toNatClampNeg)))))] := hD
            obtain ⟨f_18, ef_18⟩ : ∃ z : Nat → Int32, z = upd g (nI i).toNatClampNeg (vp_nar .byte (u_16 (nI i).toNatClampNeg)) := ⟨_, rfl⟩
            rw [← ef_18] at hP hD
            obtain ⟨x_19, ex_19⟩ : ∃ y : Int32, y = (nI i) + 1 := ⟨_, rfl⟩
            refine lv_iinc (v := x_19) (lv' := [(3, .int x_19), (0, .ref h0)]) hx hb dX3_sync_196 hl (k := 1) rfl (by rw [ex_19]; rfl) (by decide) rfl (fun ls hl => ?_)
            refine lv_goto (tgt := 173) hx hb dX3_sync_199 (by decide) ?_
            obtain rfl : x_19 = nI (i + 1) := by rw [ex_19]; exact nI_1 i
            exact ih_173 (i + 1, f_18) (show i + 1 ≤ 64 * n by omega) (show 64 * n - (i + 1) < 64 * n - i by omega) _ _ _ (hP.sub [0, 1, 2] rfl) (hD.sub [0, 1, 2] (by decide) rfl) hS (lv_sub hl [1, 0] rfl)
        · exact absurd c_114 (by rw [ex_4]; decide)
      · exact absurd (by decide) c_79
    · skip
      have hlt : i < 64 * n := k_lt (k := 64 * n) (n64 n) (by omega) (by omega) c_25
      refine lv_aload_n hx hb dX3_sync_28 rfl (lv_at hl 0 rfl) ?_
      refine va_get (D := (dC, dI)) (ci := 4) (v := .ref m2) (C := RX3) (T := TX3) (N := 21) hx hb hts hiX3 hown hK hP 0 rfl rfl 3 (by decide) (hts (.fieldLink RX3 13 "LibraryDiskModel" "before" "[B") (by decide +kernel)) (fun _ h9 => h9) rfl dX3_sync_29 ?_
      refine lv_iload_n hx hb dX3_sync_32 rfl (lv_at hl 1 rfl) ?_
      refine lv_aload_n hx hb dX3_sync_33 rfl (lv_at hl 0 rfl) ?_
      refine va_get (D := (dC, dI)) (ci := 4) (v := .ref m1) (C := RX3) (T := TX3) (N := 21) hx hb hts hiX3 hown hK hP 0 rfl rfl 2 (by decide) (hts (.fieldLink RX3 7 "LibraryDiskModel" "disk" "[B") (by decide +kernel)) (fun _ h9 => h9) rfl dX3_sync_34 ?_
      refine lv_iload_n hx hb dX3_sync_37 rfl (lv_at hl 1 rfl) ?_
      refine va_bald hx hb hK hP 1 0 rfl rfl (vp_in_nI (by omega) (by omega)) dX3_sync_38 ?_
      refine va_bast hx hb hK hP hD hS 2 0 rfl rfl (vp_in_nI (by omega) (by omega)) dX3_sync_39 (fun H locs hP hD hS => ?_)
      have hP : va_P (dC, dI) vwCl [(h0, .inr (4, [.int 0, .int (nI n), .ref m1, .ref m2, .ref m3, .ref m4, .int 0, .int 0, .int 0, .int 0, .int 0, .int 0, .int 0, .int 0, .ref m5, .int 0, .int 0, .ref m6, .ref m7, .ref m8, .ref m9])), (m1, .inl (cB, 2560, .inl f)), (m2, .inl (cB, 2560, .inl (upd g (nI i).toNatClampNeg (vp_nar .byte (f (nI i).toNatClampNeg))))), (m3, .inl (cB, 2560, .inl f3))] H := hP
      have hD : va_D A [(h0, .inr (4, [.int 0, .int (nI n), .ref m1, .ref m2, .ref m3, .ref m4, .int 0, .int 0, .int 0, .int 0, .int 0, .int 0, .int 0, .int 0, .ref m5, .int 0, .int 0, .ref m6, .ref m7, .ref m8, .ref m9])), (m1, .inl (cB, 2560, .inl f)), (m2, .inl (cB, 2560, .inl (upd g (nI i).toNatClampNeg (vp_nar .byte (f (nI i).toNatClampNeg))))), (m3, .inl (cB, 2560, .inl f3))] := hD
      obtain ⟨f_20, ef_20⟩ : ∃ z : Nat → Int32, z = upd g (nI i).toNatClampNeg (vp_nar .byte (f (nI i).toNatClampNeg)) := ⟨_, rfl⟩
      rw [← ef_20] at hP hD
      obtain ⟨x_21, ex_21⟩ : ∃ y : Int32, y = (nI i) + 1 := ⟨_, rfl⟩
      refine lv_iinc (v := x_21) (lv' := [(1, .int x_21), (0, .ref h0)]) hx hb dX3_sync_40 hl (k := 1) rfl (by rw [ex_21]; rfl) (by decide) rfl (fun ls hl => ?_)
      refine lv_goto (tgt := 17) hx hb dX3_sync_43 (by decide) ?_
      obtain rfl : x_21 = nI (i + 1) := by rw [ex_21]; exact nI_1 i
      exact ih_17 (i + 1, f_20) (show i + 1 ≤ 64 * n by omega) (show 64 * n - (i + 1) < 64 * n - i by omega) _ _ _ (hP.sub [0, 1, 2, 3] rfl) (hD.sub [0, 1, 2, 3] (by decide) rfl) hS (lv_sub hl [1, 0] rfl)
  · exact absurd (by decide) c_9
