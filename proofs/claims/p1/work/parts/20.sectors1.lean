set_option maxHeartbeats 4000000 in
set_option maxRecDepth 100000 in
/-- Sectors.holds -/
theorem ct_X1_holds (l : Launch) (dC : Nat → ClassId) (dI : Nat → Nat → Nat) (cB cI : ClassId) (h0 a0 n : Nat) (hn : n ≤ 40) (f : Nat → Int32) (x y : Int32) (sz : Nat) : mq_I l (dC, dI) vwCl [(cB, .byte), (cI, .int)] yX1_holds wsX1_holds ({ frames := 0, cells := 0, slots := 0, locals := 0 }) [.ref h0, .int x, .int y] [(h0, .inr (2, [.int (nI n), .ref a0])), (a0, .inl (cB, (n * 64), .inl f))] sz (fun (r : Int32) (_u : Unit) => (r = 1 ∧ in_S n x y) ∨ (r = 0 ∧ ¬ in_S n x y)) (fun (_u : Unit) => [(h0, .inr (2, [.int (nI n), .ref a0])), (a0, .inl (cB, (n * 64), .inl f))]) 0 0 := by
  refine Met.ofW (cc := cX1_holds) (maxL := 3) (ret := (some .boolean)) (by decide) rfl ?_
  intro p e s m args below meth c s₁ B hml hv
  obtain ⟨rfl, hsz, hP, hK, hD0, hN⟩ := hv
  have hx := B.exec
  have hb := B.bytes
  have hr := B.returns
  have hts := atoms_spec (ws := wsX1_holds) B.pre
  have hown : s.vm.findClass RX1 = some m.cls := findClass_of_methodNamed B.named
  have hlocks := B.notSynchronized
  have hiX1 : ∀ w ∈ u_ws RX1 TX1 2, w ∈ wsX1_holds := by decide +kernel
  subst hsz
  have hD := hD0.self (sz := s.heap.size)
  generalize hAe : va_A [(h0, .inr (2, [.int (nI n), .ref a0])), (a0, .inl (cB, (n * 64), .inl f))] s.heap.size = A at hD ⊢
  have hA : ∀ q : Nat, s.heap.size ≤ q → A q := fun q h => by rw [← hAe]; exact Or.inr h
  have hS : va_S A s.heap s.heap [] := va_S.rf
  have hP : va_P (dC, dI) vwCl [(h0, .inr (2, [.int (nI n), .ref a0])), (a0, .inl (cB, (n * 64), .inl f))] s.heap := hP
  have hl := lv_entry ([.ref h0, .int x, .int y]) (n := 3) (Nat.le_of_ble_eq_true rfl)
  rw [lg_entry_eq]
  generalize (lg_sl ([.ref h0, .int x, .int y]) ++ List.replicate (3 - (lg_sl ([.ref h0, .int x, .int y])).length) Slot.unset).toArray = ls at hl ⊢
  have hl : lv_has ls 3 [(0, .ref h0), (1, .int x), (2, .int y)] := hl
  refine lv_iload_n hx hb dX1_holds_0 rfl (lv_at hl 1 rfl) ?_
  refine lv_if_lt (tgt := 26) hx hb dX1_holds_1 (by decide) (fun c_1 => ?_) (fun c_1 => ?_)
  · skip
    refine lv_iconst (v := 0) hx hb dX1_holds_26 (by decide) ?_
    have hP9 := hP.sub (ws' := [(h0, .inr (2, [.int (nI n), .ref a0])), (a0, .inl (cB, (n * 64), .inl f))]) [0, 1] rfl
    have hD9 := hD.sub (ws' := [(h0, .inr (2, [.int (nI n), .ref a0])), (a0, .inl (cB, (n * 64), .inl f))]) [0, 1] (by decide) rfl
    exact W.zret (v := 0) hx hb hr (by first | rfl | decide) (fun t ht hW => ⟨⟨0, (), rfl, Or.inr ⟨rfl, in_S1 hn c_1⟩, by rw [ht]; exact hP9, va_K.moved hW.alike hK, by rw [hAe]; exact hD9⟩, hS.F ht⟩) hS.2.2 dX1_holds_27
  · skip
    refine lv_iload_n hx hb dX1_holds_4 rfl (lv_at hl 1 rfl) ?_
    refine lv_aload_n hx hb dX1_holds_5 rfl (lv_at hl 0 rfl) ?_
    refine va_get (D := (dC, dI)) (ci := 2) (v := .int (nI n)) (C := RX1) (T := TX1) (N := 2) hx hb hts hiX1 hown hK hP 0 rfl rfl 0 (by decide) (hts (.fieldLink RX1 18 "LibraryDisk$Sectors" "count" "I") (by decide +kernel)) (fun _ h9 => h9) rfl dX1_holds_6 ?_
    refine lv_icmp_ge (tgt := 26) hx hb dX1_holds_9 (by decide) (fun c_9 => ?_) (fun c_9 => ?_)
    · skip
      refine lv_iconst (v := 0) hx hb dX1_holds_26 (by decide) ?_
      have hP9 := hP.sub (ws' := [(h0, .inr (2, [.int (nI n), .ref a0])), (a0, .inl (cB, (n * 64), .inl f))]) [0, 1] rfl
      have hD9 := hD.sub (ws' := [(h0, .inr (2, [.int (nI n), .ref a0])), (a0, .inl (cB, (n * 64), .inl f))]) [0, 1] (by decide) rfl
      exact W.zret (v := 0) hx hb hr (by first | rfl | decide) (fun t ht hW => ⟨⟨0, (), rfl, Or.inr ⟨rfl, in_S2 hn c_9⟩, by rw [ht]; exact hP9, va_K.moved hW.alike hK, by rw [hAe]; exact hD9⟩, hS.F ht⟩) hS.2.2 dX1_holds_27
    · skip
      refine lv_iload_n hx hb dX1_holds_12 rfl (lv_at hl 2 rfl) ?_
      refine lv_if_lt (tgt := 26) hx hb dX1_holds_13 (by decide) (fun c_13 => ?_) (fun c_13 => ?_)
      · skip
        refine lv_iconst (v := 0) hx hb dX1_holds_26 (by decide) ?_
        have hP9 := hP.sub (ws' := [(h0, .inr (2, [.int (nI n), .ref a0])), (a0, .inl (cB, (n * 64), .inl f))]) [0, 1] rfl
        have hD9 := hD.sub (ws' := [(h0, .inr (2, [.int (nI n), .ref a0])), (a0, .inl (cB, (n * 64), .inl f))]) [0, 1] (by decide) rfl
        exact W.zret (v := 0) hx hb hr (by first | rfl | decide) (fun t ht hW => ⟨⟨0, (), rfl, Or.inr ⟨rfl, in_S3 c_13⟩, by rw [ht]; exact hP9, va_K.moved hW.alike hK, by rw [hAe]; exact hD9⟩, hS.F ht⟩) hS.2.2 dX1_holds_27
      · skip
        refine lv_iload_n hx hb dX1_holds_16 rfl (lv_at hl 2 rfl) ?_
        refine lv_bipush (v := 64) hx hb dX1_holds_17 (by decide) ?_
        refine lv_icmp_ge (tgt := 26) hx hb dX1_holds_19 (by decide) (fun c_19 => ?_) (fun c_19 => ?_)
        · skip
          refine lv_iconst (v := 0) hx hb dX1_holds_26 (by decide) ?_
          have hP9 := hP.sub (ws' := [(h0, .inr (2, [.int (nI n), .ref a0])), (a0, .inl (cB, (n * 64), .inl f))]) [0, 1] rfl
          have hD9 := hD.sub (ws' := [(h0, .inr (2, [.int (nI n), .ref a0])), (a0, .inl (cB, (n * 64), .inl f))]) [0, 1] (by decide) rfl
          exact W.zret (v := 0) hx hb hr (by first | rfl | decide) (fun t ht hW => ⟨⟨0, (), rfl, Or.inr ⟨rfl, in_S4 c_19⟩, by rw [ht]; exact hP9, va_K.moved hW.alike hK, by rw [hAe]; exact hD9⟩, hS.F ht⟩) hS.2.2 dX1_holds_27
        · skip
          refine lv_iconst (v := 1) hx hb dX1_holds_22 (by decide) ?_
          refine lv_goto (tgt := 27) hx hb dX1_holds_23 (by decide) ?_
          have hP9 := hP.sub (ws' := [(h0, .inr (2, [.int (nI n), .ref a0])), (a0, .inl (cB, (n * 64), .inl f))]) [0, 1] rfl
          have hD9 := hD.sub (ws' := [(h0, .inr (2, [.int (nI n), .ref a0])), (a0, .inl (cB, (n * 64), .inl f))]) [0, 1] (by decide) rfl
          exact W.zret (v := 1) hx hb hr (by first | rfl | decide) (fun t ht hW => ⟨⟨1, (), rfl, Or.inl ⟨rfl, in_S5 hn c_1 c_9 c_13 c_19⟩, by rw [ht]; exact hP9, va_K.moved hW.alike hK, by rw [hAe]; exact hD9⟩, hS.F ht⟩) hS.2.2 dX1_holds_27
set_option maxHeartbeats 4000000 in
set_option maxRecDepth 100000 in
/-- Sectors.byteAt -/
theorem ct_X1_byteAt (l : Launch) (dC : Nat → ClassId) (dI : Nat → Nat → Nat) (cB cI : ClassId) (h0 a0 n : Nat) (hn : n ≤ 40) (f : Nat → Int32) (x y : Int32) (sz : Nat) : mq_I l (dC, dI) vwCl [(cB, .byte), (cI, .int)] yX1_byteAt wsX1_byteAt ({ frames := 1, cells := 0, slots := 0, locals := 22 }) [.ref h0, .int x, .int y] [(h0, .inr (2, [.int (nI n), .ref a0])), (a0, .inl (cB, (n * 64), .inl f))] sz (fun (r : Int32) (_u : Unit) => (∃ a b : Nat, a < n ∧ b < 64 ∧ x = nI a ∧ y = nI b ∧ r = f (a * 64 + b) &&& 255) ∨ (¬ in_S n x y ∧ r = -1)) (fun (_u : Unit) => [(h0, .inr (2, [.int (nI n), .ref a0])), (a0, .inl (cB, (n * 64), .inl f))]) 0 0 := by
  refine Met.ofW (cc := cX1_byteAt) (maxL := 3) (ret := (some .int)) (by decide) rfl ?_
  intro p e s m args below meth c s₁ B hml hv
  obtain ⟨rfl, hsz, hP, hK, hD0, hN⟩ := hv
  have hx := B.exec
  have hb := B.bytes
  have hr := B.returns
  have hts := atoms_spec (ws := wsX1_byteAt) B.pre
  have hown : s.vm.findClass RX1 = some m.cls := findClass_of_methodNamed B.named
  have hlocks := B.notSynchronized
  have hiX1 : ∀ w ∈ u_ws RX1 TX1 2, w ∈ wsX1_byteAt := by decide +kernel
  subst hsz
  have hD := hD0.self (sz := s.heap.size)
  generalize hAe : va_A [(h0, .inr (2, [.int (nI n), .ref a0])), (a0, .inl (cB, (n * 64), .inl f))] s.heap.size = A at hD ⊢
  have hA : ∀ q : Nat, s.heap.size ≤ q → A q := fun q h => by rw [← hAe]; exact Or.inr h
  have hS : va_S A s.heap s.heap [] := va_S.rf
  have hP : va_P (dC, dI) vwCl [(h0, .inr (2, [.int (nI n), .ref a0])), (a0, .inl (cB, (n * 64), .inl f))] s.heap := hP
  have hl := lv_entry ([.ref h0, .int x, .int y]) (n := 3) (Nat.le_of_ble_eq_true rfl)
  rw [lg_entry_eq]
  generalize (lg_sl ([.ref h0, .int x, .int y]) ++ List.replicate (3 - (lg_sl ([.ref h0, .int x, .int y])).length) Slot.unset).toArray = ls at hl ⊢
  have hl : lv_has ls 3 [(0, .ref h0), (1, .int x), (2, .int y)] := hl
  refine lv_aload_n hx hb dX1_byteAt_0 rfl (lv_at hl 0 rfl) ?_
  refine lv_iload_n hx hb dX1_byteAt_1 rfl (lv_at hl 1 rfl) ?_
  refine lv_iload_n hx hb dX1_byteAt_2 rfl (lv_at hl 2 rfl) ?_
  refine mq_calli (wr := []) (fun (_u : Unit) => [(h0, .inr (2, [.int (nI n), .ref a0])), (a0, .inl (cB, (n * 64), .inl f))]) (va_runV (As := [.int x, .int y]) (rest := []) ⟨hx, hb, hml, hown, hts⟩ (ct_X1_holds l dC dI cB cI h0 a0 n hn f x y s.heap.size) (cwV 2 hts gX1_byteAt_X1_holds rfl rfl rfl (by decide +kernel) ⟨Nat.le_of_ble_eq_true rfl, Nat.le_of_ble_eq_true rfl⟩) ⟨mq_blind, va_recv hK hP (ci := 2) (q0 := 0) rfl rfl, mq_pre hK hN hP hD [0, 1] rfl (by decide)⟩ rfl rfl hl.1 rfl (lv_room (Nat.le_of_ble_eq_true rfl)) dX1_byteAt_3 ⟨Nat.le_of_ble_eq_true rfl, Nat.le_of_ble_eq_true rfl⟩) hP hD hS hA [0, 1] [] [0, 1] rfl rfl (by decide) (by decide) (by decide) (fun _ => rfl) (fun r_1 _ H locs hw_3 hP hD hS => ?_)
  have hP : va_P (dC, dI) vwCl [(h0, .inr (2, [.int (nI n), .ref a0])), (a0, .inl (cB, (n * 64), .inl f))] H := hP
  have hD : va_D A [(h0, .inr (2, [.int (nI n), .ref a0])), (a0, .inl (cB, (n * 64), .inl f))] := hD
  refine lv_if_eq (tgt := 27) hx hb dX1_byteAt_6 (by decide) (fun c_6 => ?_) (fun c_6 => ?_)
  · skip
    refine lv_iconst (v := (-1)) hx hb dX1_byteAt_27 (by decide) ?_
    have hP9 := hP.sub (ws' := [(h0, .inr (2, [.int (nI n), .ref a0])), (a0, .inl (cB, (n * 64), .inl f))]) [0, 1] rfl
    have hD9 := hD.sub (ws' := [(h0, .inr (2, [.int (nI n), .ref a0])), (a0, .inl (cB, (n * 64), .inl f))]) [0, 1] (by decide) rfl
    exact W.iret (v := (-1)) hx hb hr (fun t ht hW => ⟨⟨(-1), (), rfl, Or.inr ⟨(hw_3.resolve_left (fun q => by rw [q.1] at c_6; exact absurd c_6 (by decide))).2, rfl⟩, by rw [ht]; exact hP9, va_K.moved hW.alike hK, by rw [hAe]; exact hD9⟩, hS.F ht⟩) hS.2.2 dX1_byteAt_28
  · skip
    obtain ⟨a, b, ha, hb1, ex, ey⟩ := (hw_3.resolve_right (fun q => c_6 q.1)).2
    refine lv_aload_n hx hb dX1_byteAt_9 rfl (lv_at hl 0 rfl) ?_
    refine va_get (D := (dC, dI)) (ci := 2) (v := .ref a0) (C := RX1) (T := TX1) (N := 2) hx hb hts hiX1 hown hK hP 0 rfl rfl 1 (by decide) (hts (.fieldLink RX1 24 "LibraryDisk$Sectors" "bytes" "[B") (by decide +kernel)) (fun _ h9 => h9) rfl dX1_byteAt_10 ?_
    refine lv_iload_n hx hb dX1_byteAt_13 rfl (lv_at hl 1 rfl) ?_
    refine lv_bipush (v := 64) hx hb dX1_byteAt_14 (by decide) ?_
    refine lv_imul hx hb dX1_byteAt_16 ?_
    refine lv_iload_n hx hb dX1_byteAt_17 rfl (lv_at hl 2 rfl) ?_
    refine lv_iadd hx hb dX1_byteAt_18 ?_
    refine va_bald hx hb hK hP 1 0 rfl rfl (in_Si hn ha hb1 ex ey) dX1_byteAt_19 ?_
    refine lv_sipush (v := 255) hx hb dX1_byteAt_20 (by decide) ?_
    refine lv_iand hx hb dX1_byteAt_23 ?_
    refine lv_goto (tgt := 28) hx hb dX1_byteAt_24 (by decide) ?_
    have hP9 := hP.sub (ws' := [(h0, .inr (2, [.int (nI n), .ref a0])), (a0, .inl (cB, (n * 64), .inl f))]) [0, 1] rfl
    have hD9 := hD.sub (ws' := [(h0, .inr (2, [.int (nI n), .ref a0])), (a0, .inl (cB, (n * 64), .inl f))]) [0, 1] (by decide) rfl
    exact W.iret (v := (f ((x * (64 : Int32)) + y).toNatClampNeg) &&& (255 : Int32)) hx hb hr (fun t ht hW => ⟨⟨(f ((x * (64 : Int32)) + y).toNatClampNeg) &&& (255 : Int32), (), rfl, Or.inl ⟨a, b, ha, hb1, ex, ey, by rw [in_Sc hn ha hb1 ex ey]⟩, by rw [ht]; exact hP9, va_K.moved hW.alike hK, by rw [hAe]; exact hD9⟩, hS.F ht⟩) hS.2.2 dX1_byteAt_28
set_option maxHeartbeats 4000000 in
set_option maxRecDepth 100000 in
/-- Sectors.put -/
theorem ct_X1_put (l : Launch) (dC : Nat → ClassId) (dI : Nat → Nat → Nat) (cB cI : ClassId) (h0 a0 n : Nat) (hn : n ≤ 40) (f : Nat → Int32) (x y v : Int32) (sz : Nat) : mq_V l (dC, dI) vwCl [(cB, .byte), (cI, .int)] yX1_put wsX1_put ({ frames := 1, cells := 0, slots := 0, locals := 22 }) [.ref h0, .int x, .int y, .int v] [(h0, .inr (2, [.int (nI n), .ref a0])), (a0, .inl (cB, (n * 64), .inl f))] sz (fun (g : (Nat → Int32)) => (∃ a b : Nat, a < n ∧ b < 64 ∧ x = nI a ∧ y = nI b ∧ g = upd f (a * 64 + b) v.toInt8.toInt32) ∨ (¬ in_S n x y ∧ g = f)) (fun (g : (Nat → Int32)) => [(h0, .inr (2, [.int (nI n), .ref a0])), (a0, .inl (cB, (n * 64), .inl g))]) 0 0 := by
  refine Met.ofW (cc := cX1_put) (maxL := 4) (ret := none) (by decide) rfl ?_
  intro p e s m args below meth c s₁ B hml hv
  obtain ⟨rfl, hsz, hP, hK, hD0, hN⟩ := hv
  have hx := B.exec
  have hb := B.bytes
  have hr := B.returns
  have hts := atoms_spec (ws := wsX1_put) B.pre
  have hown : s.vm.findClass RX1 = some m.cls := findClass_of_methodNamed B.named
  have hlocks := B.notSynchronized
  have hiX1 : ∀ w ∈ u_ws RX1 TX1 2, w ∈ wsX1_put := by decide +kernel
  subst hsz
  have hD := hD0.self (sz := s.heap.size)
  generalize hAe : va_A [(h0, .inr (2, [.int (nI n), .ref a0])), (a0, .inl (cB, (n * 64), .inl f))] s.heap.size = A at hD ⊢
  have hA : ∀ q : Nat, s.heap.size ≤ q → A q := fun q h => by rw [← hAe]; exact Or.inr h
  have hS : va_S A s.heap s.heap [] := va_S.rf
  have hP : va_P (dC, dI) vwCl [(h0, .inr (2, [.int (nI n), .ref a0])), (a0, .inl (cB, (n * 64), .inl f))] s.heap := hP
  have hl := lv_entry ([.ref h0, .int x, .int y, .int v]) (n := 4) (Nat.le_of_ble_eq_true rfl)
  rw [lg_entry_eq]
  generalize (lg_sl ([.ref h0, .int x, .int y, .int v]) ++ List.replicate (4 - (lg_sl ([.ref h0, .int x, .int y, .int v])).length) Slot.unset).toArray = ls at hl ⊢
  have hl : lv_has ls 4 [(0, .ref h0), (1, .int x), (2, .int y), (3, .int v)] := hl
  refine lv_aload_n hx hb dX1_put_0 rfl (lv_at hl 0 rfl) ?_
  refine lv_iload_n hx hb dX1_put_1 rfl (lv_at hl 1 rfl) ?_
  refine lv_iload_n hx hb dX1_put_2 rfl (lv_at hl 2 rfl) ?_
  refine mq_calli (wr := []) (fun (_u : Unit) => [(h0, .inr (2, [.int (nI n), .ref a0])), (a0, .inl (cB, (n * 64), .inl f))]) (va_runV (As := [.int x, .int y]) (rest := []) ⟨hx, hb, hml, hown, hts⟩ (ct_X1_holds l dC dI cB cI h0 a0 n hn f x y s.heap.size) (cwV 2 hts gX1_put_X1_holds rfl rfl rfl (by decide +kernel) ⟨Nat.le_of_ble_eq_true rfl, Nat.le_of_ble_eq_true rfl⟩) ⟨mq_blind, va_recv hK hP (ci := 2) (q0 := 0) rfl rfl, mq_pre hK hN hP hD [0, 1] rfl (by decide)⟩ rfl rfl hl.1 rfl (lv_room (Nat.le_of_ble_eq_true rfl)) dX1_put_3 ⟨Nat.le_of_ble_eq_true rfl, Nat.le_of_ble_eq_true rfl⟩) hP hD hS hA [0, 1] [] [0, 1] rfl rfl (by decide) (by decide) (by decide) (fun _ => rfl) (fun r_1 _ H locs hw_3 hP hD hS => ?_)
  have hP : va_P (dC, dI) vwCl [(h0, .inr (2, [.int (nI n), .ref a0])), (a0, .inl (cB, (n * 64), .inl f))] H := hP
  have hD : va_D A [(h0, .inr (2, [.int (nI n), .ref a0])), (a0, .inl (cB, (n * 64), .inl f))] := hD
  refine lv_if_eq (tgt := 22) hx hb dX1_put_6 (by decide) (fun c_6 => ?_) (fun c_6 => ?_)
  · skip
    have hP9 := hP.sub (ws' := [(h0, .inr (2, [.int (nI n), .ref a0])), (a0, .inl (cB, (n * 64), .inl f))]) [0, 1] rfl
    have hD9 := hD.sub (ws' := [(h0, .inr (2, [.int (nI n), .ref a0])), (a0, .inl (cB, (n * 64), .inl f))]) [0, 1] (by decide) rfl
    exact W.vret hx hb hr (fun t ht hW => ⟨⟨f, rfl, Or.inr ⟨(hw_3.resolve_left (fun q => by rw [q.1] at c_6; exact absurd c_6 (by decide))).2, rfl⟩, by rw [ht]; exact hP9, va_K.moved hW.alike hK, by rw [hAe]; exact hD9⟩, hS.F ht⟩) hS.2.2 dX1_put_22
  · skip
    obtain ⟨a, b, ha, hb1, ex, ey⟩ := (hw_3.resolve_right (fun q => c_6 q.1)).2
    refine lv_aload_n hx hb dX1_put_9 rfl (lv_at hl 0 rfl) ?_
    refine va_get (D := (dC, dI)) (ci := 2) (v := .ref a0) (C := RX1) (T := TX1) (N := 2) hx hb hts hiX1 hown hK hP 0 rfl rfl 1 (by decide) (hts (.fieldLink RX1 24 "LibraryDisk$Sectors" "bytes" "[B") (by decide +kernel)) (fun _ h9 => h9) rfl dX1_put_10 ?_
    refine lv_iload_n hx hb dX1_put_13 rfl (lv_at hl 1 rfl) ?_
    refine lv_bipush (v := 64) hx hb dX1_put_14 (by decide) ?_
    refine lv_imul hx hb dX1_put_16 ?_
    refine lv_iload_n hx hb dX1_put_17 rfl (lv_at hl 2 rfl) ?_
    refine lv_iadd hx hb dX1_put_18 ?_
    refine lv_iload_n hx hb dX1_put_19 rfl (lv_at hl 3 rfl) ?_
    refine lv_i2b hx hb dX1_put_20 rfl ?_
    refine va_bast hx hb hK hP hD hS 1 0 rfl rfl (in_Si hn ha hb1 ex ey) dX1_put_21 (fun H locs hP hD hS => ?_)
    have hP : va_P (dC, dI) vwCl [(h0, .inr (2, [.int (nI n), .ref a0])), (a0, .inl (cB, (n * 64), .inl (upd f ((x * (64 : Int32)) + y).toNatClampNeg (vp_nar .byte v.toInt8.toInt32))))] H := hP
    have hD : va_D A [(h0, .inr (2, [.int (nI n), .ref a0])), (a0, .inl (cB, (n * 64), .inl (upd f ((x * (64 : Int32)) + y).toNatClampNeg (vp_nar .byte v.toInt8.toInt32))))] := hD
    obtain ⟨f_2, ef_2⟩ : ∃ z : Nat → Int32, z = upd f ((x * (64 : Int32)) + y).toNatClampNeg (vp_nar .byte v.toInt8.toInt32) := ⟨_, rfl⟩
    rw [← ef_2] at hP hD
    have hP9 := hP.sub (ws' := [(h0, .inr (2, [.int (nI n), .ref a0])), (a0, .inl (cB, (n * 64), .inl f_2))]) [0, 1] rfl
    have hD9 := hD.sub (ws' := [(h0, .inr (2, [.int (nI n), .ref a0])), (a0, .inl (cB, (n * 64), .inl f_2))]) [0, 1] (by decide) rfl
    exact W.vret hx hb hr (fun t ht hW => ⟨⟨f_2, rfl, Or.inl ⟨a, b, ha, hb1, ex, ey, by rw [ef_2, in_Sc hn ha hb1 ex ey, pk_vb]⟩, by rw [ht]; exact hP9, va_K.moved hW.alike hK, by rw [hAe]; exact hD9⟩, hS.F ht⟩) hS.2.2 dX1_put_22
