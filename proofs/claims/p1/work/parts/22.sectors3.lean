set_option maxHeartbeats 4000000 in
set_option maxRecDepth 100000 in
/-- Sectors.sumIsRight, all bytes 0 -/
theorem ct_X1_sumIsRight_z (l : Launch) (dC : Nat → ClassId) (dI : Nat → Nat → Nat) (cB cI : ClassId) (h0 a0 n : Nat) (hn : n ≤ 40) (f : Nat → Int32) (hz : ∀ j, f j = 0) (a : Nat) (ha : a < n) (sz : Nat) : mq_I l (dC, dI) vwCl [(cB, .byte), (cI, .int)] yX1_sumIsRight wsX1_sumIsRight ({ frames := 3, cells := 0, slots := 0, locals := 68 }) [.ref h0, .int (nI a)] [(h0, .inr (2, [.int (nI n), .ref a0])), (a0, .inl (cB, (n * 64), .inl f))] sz (fun (r : Int32) (_u : Unit) => r = 1) (fun (_u : Unit) => [(h0, .inr (2, [.int (nI n), .ref a0])), (a0, .inl (cB, (n * 64), .inl f))]) 0 0 := by
  refine Met.ofW (cc := cX1_sumIsRight) (maxL := 2) (ret := (some .boolean)) (by decide) rfl ?_
  intro p e s m args below meth c s₁ B hml hv
  obtain ⟨rfl, hsz, hP, hK, hD0, hN⟩ := hv
  have hx := B.exec
  have hb := B.bytes
  have hr := B.returns
  have hts := atoms_spec (ws := wsX1_sumIsRight) B.pre
  have hown : s.vm.findClass RX1 = some m.cls := findClass_of_methodNamed B.named
  have hlocks := B.notSynchronized
  subst hsz
  have hD := hD0.self (sz := s.heap.size)
  generalize hAe : va_A [(h0, .inr (2, [.int (nI n), .ref a0])), (a0, .inl (cB, (n * 64), .inl f))] s.heap.size = A at hD ⊢
  have hA : ∀ q : Nat, s.heap.size ≤ q → A q := fun q h => by rw [← hAe]; exact Or.inr h
  have hS : va_S A s.heap s.heap [] := va_S.rf
  have hP : va_P (dC, dI) vwCl [(h0, .inr (2, [.int (nI n), .ref a0])), (a0, .inl (cB, (n * 64), .inl f))] s.heap := hP
  have hl := lv_entry ([.ref h0, .int (nI a)]) (n := 2) (Nat.le_of_ble_eq_true rfl)
  rw [lg_entry_eq]
  generalize (lg_sl ([.ref h0, .int (nI a)]) ++ List.replicate (2 - (lg_sl ([.ref h0, .int (nI a)])).length) Slot.unset).toArray = ls at hl ⊢
  have hl : lv_has ls 2 [(0, .ref h0), (1, .int (nI a))] := hl
  refine lv_aload_n hx hb dX1_sumIsRight_0 rfl (lv_at hl 0 rfl) ?_
  refine lv_iload_n hx hb dX1_sumIsRight_1 rfl (lv_at hl 1 rfl) ?_
  refine lv_bipush (v := 60) hx hb dX1_sumIsRight_2 (by decide) ?_
  refine mq_calli (wr := []) (fun (_u : Unit) => [(h0, .inr (2, [.int (nI n), .ref a0])), (a0, .inl (cB, (n * 64), .inl f))]) (va_runV (As := [.int (nI a), .int 60]) (rest := []) ⟨hx, hb, hml, hown, hts⟩ (ct_X1_numberAt_z l dC dI cB cI h0 a0 n hn f hz a ha s.heap.size) (cwV 2 hts gX1_sumIsRight_X1_numberAt rfl rfl rfl (by decide +kernel) ⟨Nat.le_of_ble_eq_true rfl, Nat.le_of_ble_eq_true rfl⟩) ⟨mq_blind, va_recv hK hP (ci := 2) (q0 := 0) rfl rfl, mq_pre hK hN hP hD [0, 1] rfl (by decide)⟩ rfl rfl hl.1 rfl (lv_room (Nat.le_of_ble_eq_true rfl)) dX1_sumIsRight_4 ⟨Nat.le_of_ble_eq_true rfl, Nat.le_of_ble_eq_true rfl⟩) hP hD hS hA [0, 1] [] [0, 1] rfl rfl (by decide) (by decide) (by decide) (fun _ => rfl) (fun r_1 _ H locs hw_4 hP hD hS => ?_)
  have hP : va_P (dC, dI) vwCl [(h0, .inr (2, [.int (nI n), .ref a0])), (a0, .inl (cB, (n * 64), .inl f))] H := hP
  have hD : va_D A [(h0, .inr (2, [.int (nI n), .ref a0])), (a0, .inl (cB, (n * 64), .inl f))] := hD
  refine lv_aload_n hx hb dX1_sumIsRight_7 rfl (lv_at hl 0 rfl) ?_
  refine lv_iload_n hx hb dX1_sumIsRight_8 rfl (lv_at hl 1 rfl) ?_
  refine mq_calli (wr := []) (fun (_u : Unit) => [(h0, .inr (2, [.int (nI n), .ref a0])), (a0, .inl (cB, (n * 64), .inl f))]) (va_runV (As := [.int (nI a)]) (rest := [.int r_1]) ⟨hx, hb, hml, hown, hts⟩ (ct_X1_sumOf_z l dC dI cB cI h0 a0 n hn f hz a ha H.size) (cwV 1 hts gX1_sumIsRight_X1_sumOf rfl rfl rfl (by decide +kernel) ⟨Nat.le_of_ble_eq_true rfl, Nat.le_of_ble_eq_true rfl⟩) ⟨mq_blind, va_recv hK hP (ci := 2) (q0 := 0) rfl rfl, mq_pre hK hN hP hD [0, 1] rfl (by decide)⟩ rfl rfl hl.1 rfl (lv_room (Nat.le_of_ble_eq_true rfl)) dX1_sumIsRight_9 ⟨Nat.le_of_ble_eq_true rfl, Nat.le_of_ble_eq_true rfl⟩) hP hD hS hA [0, 1] [] [0, 1] rfl rfl (by decide) (by decide) (by decide) (fun _ => rfl) (fun r_2 _ H locs hw_9 hP hD hS => ?_)
  have hP : va_P (dC, dI) vwCl [(h0, .inr (2, [.int (nI n), .ref a0])), (a0, .inl (cB, (n * 64), .inl f))] H := hP
  have hD : va_D A [(h0, .inr (2, [.int (nI n), .ref a0])), (a0, .inl (cB, (n * 64), .inl f))] := hD
  refine lv_icmp_ne (tgt := 19) hx hb dX1_sumIsRight_12 (by decide) (fun c_12 => ?_) (fun c_12 => ?_)
  · exact absurd (hw_4.trans hw_9.symm) c_12
  · skip
    refine lv_iconst (v := 1) hx hb dX1_sumIsRight_15 (by decide) ?_
    refine lv_goto (tgt := 20) hx hb dX1_sumIsRight_16 (by decide) ?_
    have hP9 := hP.sub (ws' := [(h0, .inr (2, [.int (nI n), .ref a0])), (a0, .inl (cB, (n * 64), .inl f))]) [0, 1] rfl
    have hD9 := hD.sub (ws' := [(h0, .inr (2, [.int (nI n), .ref a0])), (a0, .inl (cB, (n * 64), .inl f))]) [0, 1] (by decide) rfl
    exact W.zret (v := 1) hx hb hr (by first | rfl | decide) (fun t ht hW => ⟨⟨1, (), rfl, rfl, by rw [ht]; exact hP9, va_K.moved hW.alike hK, by rw [hAe]; exact hD9⟩, hS.F ht⟩) hS.2.2 dX1_sumIsRight_20
set_option maxHeartbeats 4000000 in
set_option maxRecDepth 100000 in
/-- Sectors.clearSector: bytes stay bytes -/
theorem ct_X1_clearSector (l : Launch) (dC : Nat → ClassId) (dI : Nat → Nat → Nat) (cB cI : ClassId) (h0 a0 n : Nat) (hn : n ≤ 40) (f : Nat → Int32) (hf : sb_Fit f) (x : Int32) (sz : Nat) : mq_V l (dC, dI) vwCl [(cB, .byte), (cI, .int)] yX1_clearSector wsX1_clearSector ({ frames := 2, cells := 0, slots := 0, locals := 45 }) [.ref h0, .int x] [(h0, .inr (2, [.int (nI n), .ref a0])), (a0, .inl (cB, (n * 64), .inl f))] sz (fun (g : (Nat → Int32)) => sb_Fit g) (fun (g : (Nat → Int32)) => [(h0, .inr (2, [.int (nI n), .ref a0])), (a0, .inl (cB, (n * 64), .inl g))]) 0 0 := by
  refine Met.ofW (cc := cX1_clearSector) (maxL := 3) (ret := none) (by decide) rfl ?_
  intro p e s m args below meth c s₁ B hml hv
  obtain ⟨rfl, hsz, hP, hK, hD0, hN⟩ := hv
  have hx := B.exec
  have hb := B.bytes
  have hr := B.returns
  have hts := atoms_spec (ws := wsX1_clearSector) B.pre
  have hown : s.vm.findClass RX1 = some m.cls := findClass_of_methodNamed B.named
  have hlocks := B.notSynchronized
  subst hsz
  have hD := hD0.self (sz := s.heap.size)
  generalize hAe : va_A [(h0, .inr (2, [.int (nI n), .ref a0])), (a0, .inl (cB, (n * 64), .inl f))] s.heap.size = A at hD ⊢
  have hA : ∀ q : Nat, s.heap.size ≤ q → A q := fun q h => by rw [← hAe]; exact Or.inr h
  have hS : va_S A s.heap s.heap [] := va_S.rf
  have hP : va_P (dC, dI) vwCl [(h0, .inr (2, [.int (nI n), .ref a0])), (a0, .inl (cB, (n * 64), .inl f))] s.heap := hP
  have hl := lv_entry ([.ref h0, .int x]) (n := 3) (Nat.le_of_ble_eq_true rfl)
  rw [lg_entry_eq]
  generalize (lg_sl ([.ref h0, .int x]) ++ List.replicate (3 - (lg_sl ([.ref h0, .int x])).length) Slot.unset).toArray = ls at hl ⊢
  have hl : lv_has ls 3 [(0, .ref h0), (1, .int x)] := hl
  refine lv_iconst (v := 0) hx hb dX1_clearSector_0 (by decide) ?_
  refine lv_istore_n (lv' := [(2, .int 0), (0, .ref h0), (1, .int x)]) hx hb dX1_clearSector_1 rfl hl (by decide) rfl (fun ls hl => ?_)
  refine mq_loop 2 3 (σ := Nat × (Nat → Int32)) (I := fun q => q.1 ≤ 64 ∧ sb_Fit q.2) (μ := fun q => 64 - q.1) (wsf := fun q => [(h0, .inr (2, [.int (nI n), .ref a0])), (a0, .inl (cB, (n * 64), .inl q.2))]) (lvf := fun q => [(0, .ref h0), (1, .int x), (2, .int (nI q.1))]) (fun q_2 hI_2 ih_2 H locs ls hP hD hS hl => ?_) (0, f) ⟨Nat.zero_le _, hf⟩ (hP.sub [0, 1] rfl) (hD.sub [0, 1] (by decide) rfl) hS (lv_sub hl [1, 2, 0] rfl)
  obtain ⟨i, g⟩ := q_2
  have hI : i ≤ 64 := hI_2.1
  have hg : sb_Fit g := hI_2.2
  have hP : va_P (dC, dI) vwCl [(h0, .inr (2, [.int (nI n), .ref a0])), (a0, .inl (cB, (n * 64), .inl g))] H := hP
  have hD : va_D A [(h0, .inr (2, [.int (nI n), .ref a0])), (a0, .inl (cB, (n * 64), .inl g))] := hD
  have hl : lv_has ls 3 [(0, .ref h0), (1, .int x), (2, .int (nI i))] := hl
  refine lv_iload_n hx hb dX1_clearSector_2 rfl (lv_at hl 2 rfl) ?_
  refine lv_bipush (v := 64) hx hb dX1_clearSector_3 (by decide) ?_
  refine lv_icmp_ge (tgt := 21) hx hb dX1_clearSector_5 (by decide) (fun c_5 => ?_) (fun c_5 => ?_)
  · skip
    have hP9 := hP.sub (ws' := [(h0, .inr (2, [.int (nI n), .ref a0])), (a0, .inl (cB, (n * 64), .inl g))]) [0, 1] rfl
    have hD9 := hD.sub (ws' := [(h0, .inr (2, [.int (nI n), .ref a0])), (a0, .inl (cB, (n * 64), .inl g))]) [0, 1] (by decide) rfl
    exact W.vret hx hb hr (fun t ht hW => ⟨⟨g, rfl, hg, by rw [ht]; exact hP9, va_K.moved hW.alike hK, by rw [hAe]; exact hD9⟩, hS.F ht⟩) hS.2.2 dX1_clearSector_21
  · skip
    have hlt : i < 64 := k_lt (k := 64) rfl (by omega) (by omega) c_5
    refine lv_aload_n hx hb dX1_clearSector_8 rfl (lv_at hl 0 rfl) ?_
    refine lv_iload_n hx hb dX1_clearSector_9 rfl (lv_at hl 1 rfl) ?_
    refine lv_iload_n hx hb dX1_clearSector_10 rfl (lv_at hl 2 rfl) ?_
    refine lv_iconst (v := 0) hx hb dX1_clearSector_11 (by decide) ?_
    refine mq_callv (wr := []) (fun (uu_1 : (Nat → Int32)) => [(h0, .inr (2, [.int (nI n), .ref a0])), (a0, .inl (cB, (n * 64), .inl uu_1))]) (va_runV (As := [.int x, .int (nI i), .int 0]) (rest := []) ⟨hx, hb, hml, hown, hts⟩ (ct_X1_put l dC dI cB cI h0 a0 n hn g x (nI i) 0 H.size) (cwV 3 hts gX1_clearSector_X1_put rfl rfl rfl (by decide +kernel) ⟨Nat.le_of_ble_eq_true rfl, Nat.le_of_ble_eq_true rfl⟩) ⟨mq_blind, va_recv hK hP (ci := 2) (q0 := 0) rfl rfl, mq_pre hK hN hP hD [0, 1] rfl (by decide)⟩ rfl rfl hl.1 rfl (lv_room (Nat.le_of_ble_eq_true rfl)) dX1_clearSector_12 ⟨Nat.le_of_ble_eq_true rfl, Nat.le_of_ble_eq_true rfl⟩) hP hD hS hA [0, 1] [] [0, 1] rfl rfl (by decide) (by decide) (by decide) (fun _ => rfl) (fun u_3 H locs hw_12 hP hD hS => ?_)
    have hP : va_P (dC, dI) vwCl [(h0, .inr (2, [.int (nI n), .ref a0])), (a0, .inl (cB, (n * 64), .inl u_3))] H := hP
    have hD : va_D A [(h0, .inr (2, [.int (nI n), .ref a0])), (a0, .inl (cB, (n * 64), .inl u_3))] := hD
    obtain ⟨x_4, ex_4⟩ : ∃ y : Int32, y = (nI i) + 1 := ⟨_, rfl⟩
    refine lv_iinc (v := x_4) (lv' := [(2, .int x_4), (0, .ref h0), (1, .int x)]) hx hb dX1_clearSector_15 hl (k := 2) rfl (by rw [ex_4]; rfl) (by decide) rfl (fun ls hl => ?_)
    refine lv_goto (tgt := 2) hx hb dX1_clearSector_18 (by decide) ?_
    obtain rfl : x_4 = nI (i + 1) := by rw [ex_4]; exact nI_1 i
    exact ih_2 (i + 1, u_3) ⟨show i + 1 ≤ 64 by omega, z_put hg hw_12⟩ (show 64 - (i + 1) < 64 - i by omega) _ _ _ (hP.sub [0, 1] rfl) (hD.sub [0, 1] (by decide) rfl) hS (lv_sub hl [1, 2, 0] rfl)
set_option maxHeartbeats 4000000 in
set_option maxRecDepth 100000 in
/-- Sectors.putNumber: bytes stay bytes -/
theorem ct_X1_putNumber (l : Launch) (dC : Nat → ClassId) (dI : Nat → Nat → Nat) (cB cI : ClassId) (h0 a0 n : Nat) (hn : n ≤ 40) (f : Nat → Int32) (hf : sb_Fit f) (x y v : Int32) (sz : Nat) : mq_V l (dC, dI) vwCl [(cB, .byte), (cI, .int)] yX1_putNumber wsX1_putNumber ({ frames := 2, cells := 0, slots := 0, locals := 45 }) [.ref h0, .int x, .int y, .int v] [(h0, .inr (2, [.int (nI n), .ref a0])), (a0, .inl (cB, (n * 64), .inl f))] sz (fun (g : (Nat → Int32)) => sb_Fit g) (fun (g : (Nat → Int32)) => [(h0, .inr (2, [.int (nI n), .ref a0])), (a0, .inl (cB, (n * 64), .inl g))]) 0 0 := by
  refine Met.ofW (cc := cX1_putNumber) (maxL := 5) (ret := none) (by decide) rfl ?_
  intro p e s m args below meth c s₁ B hml hv
  obtain ⟨rfl, hsz, hP, hK, hD0, hN⟩ := hv
  have hx := B.exec
  have hb := B.bytes
  have hr := B.returns
  have hts := atoms_spec (ws := wsX1_putNumber) B.pre
  have hown : s.vm.findClass RX1 = some m.cls := findClass_of_methodNamed B.named
  have hlocks := B.notSynchronized
  subst hsz
  have hD := hD0.self (sz := s.heap.size)
  generalize hAe : va_A [(h0, .inr (2, [.int (nI n), .ref a0])), (a0, .inl (cB, (n * 64), .inl f))] s.heap.size = A at hD ⊢
  have hA : ∀ q : Nat, s.heap.size ≤ q → A q := fun q h => by rw [← hAe]; exact Or.inr h
  have hS : va_S A s.heap s.heap [] := va_S.rf
  have hP : va_P (dC, dI) vwCl [(h0, .inr (2, [.int (nI n), .ref a0])), (a0, .inl (cB, (n * 64), .inl f))] s.heap := hP
  have hl := lv_entry ([.ref h0, .int x, .int y, .int v]) (n := 5) (Nat.le_of_ble_eq_true rfl)
  rw [lg_entry_eq]
  generalize (lg_sl ([.ref h0, .int x, .int y, .int v]) ++ List.replicate (5 - (lg_sl ([.ref h0, .int x, .int y, .int v])).length) Slot.unset).toArray = ls at hl ⊢
  have hl : lv_has ls 5 [(0, .ref h0), (1, .int x), (2, .int y), (3, .int v)] := hl
  refine lv_iconst (v := 0) hx hb dX1_putNumber_0 (by decide) ?_
  refine lv_istore (lv' := [(4, .int 0), (0, .ref h0), (1, .int x), (2, .int y), (3, .int v)]) hx hb dX1_putNumber_1 hl (by decide) rfl (fun ls hl => ?_)
  refine mq_loop 3 5 (σ := Nat × (Nat → Int32)) (I := fun q => q.1 ≤ 4 ∧ sb_Fit q.2) (μ := fun q => 4 - q.1) (wsf := fun q => [(h0, .inr (2, [.int (nI n), .ref a0])), (a0, .inl (cB, (n * 64), .inl q.2))]) (lvf := fun q => [(0, .ref h0), (1, .int x), (2, .int y), (3, .int v), (4, .int (nI q.1))]) (fun q_3 hI_3 ih_3 H locs ls hP hD hS hl => ?_) (0, f) ⟨Nat.zero_le _, hf⟩ (hP.sub [0, 1] rfl) (hD.sub [0, 1] (by decide) rfl) hS (lv_sub hl [1, 2, 3, 4, 0] rfl)
  obtain ⟨i, g⟩ := q_3
  have hI : i ≤ 4 := hI_3.1
  have hg : sb_Fit g := hI_3.2
  have hP : va_P (dC, dI) vwCl [(h0, .inr (2, [.int (nI n), .ref a0])), (a0, .inl (cB, (n * 64), .inl g))] H := hP
  have hD : va_D A [(h0, .inr (2, [.int (nI n), .ref a0])), (a0, .inl (cB, (n * 64), .inl g))] := hD
  have hl : lv_has ls 5 [(0, .ref h0), (1, .int x), (2, .int y), (3, .int v), (4, .int (nI i))] := hl
  refine lv_iload hx hb dX1_putNumber_3 (lv_at hl 4 rfl) ?_
  refine lv_iconst (v := 4) hx hb dX1_putNumber_5 (by decide) ?_
  refine lv_icmp_ge (tgt := 34) hx hb dX1_putNumber_6 (by decide) (fun c_6 => ?_) (fun c_6 => ?_)
  · skip
    have hP9 := hP.sub (ws' := [(h0, .inr (2, [.int (nI n), .ref a0])), (a0, .inl (cB, (n * 64), .inl g))]) [0, 1] rfl
    have hD9 := hD.sub (ws' := [(h0, .inr (2, [.int (nI n), .ref a0])), (a0, .inl (cB, (n * 64), .inl g))]) [0, 1] (by decide) rfl
    exact W.vret hx hb hr (fun t ht hW => ⟨⟨g, rfl, hg, by rw [ht]; exact hP9, va_K.moved hW.alike hK, by rw [hAe]; exact hD9⟩, hS.F ht⟩) hS.2.2 dX1_putNumber_34
  · skip
    have hlt : i < 4 := k_lt (k := 4) rfl (by omega) (by omega) c_6
    refine lv_aload_n hx hb dX1_putNumber_9 rfl (lv_at hl 0 rfl) ?_
    refine lv_iload_n hx hb dX1_putNumber_10 rfl (lv_at hl 1 rfl) ?_
    refine lv_iload_n hx hb dX1_putNumber_11 rfl (lv_at hl 2 rfl) ?_
    refine lv_iload hx hb dX1_putNumber_12 (lv_at hl 4 rfl) ?_
    refine lv_iadd hx hb dX1_putNumber_14 ?_
    refine lv_iload_n hx hb dX1_putNumber_15 rfl (lv_at hl 3 rfl) ?_
    refine lv_bipush (v := 24) hx hb dX1_putNumber_16 (by decide) ?_
    refine lv_bipush (v := 8) hx hb dX1_putNumber_18 (by decide) ?_
    refine lv_iload hx hb dX1_putNumber_20 (lv_at hl 4 rfl) ?_
    refine lv_imul hx hb dX1_putNumber_22 ?_
    refine lv_isub hx hb dX1_putNumber_23 ?_
    refine lv_iushr hx hb dX1_putNumber_24 rfl ?_
    refine mq_callv (wr := []) (fun (uu_1 : (Nat → Int32)) => [(h0, .inr (2, [.int (nI n), .ref a0])), (a0, .inl (cB, (n * 64), .inl uu_1))]) (va_runV (As := [.int x, .int (y + (nI i)), .int ((v.toUInt32 >>> (((24 : Int32) - ((8 : Int32) * (nI i)) : Int32).toUInt32 &&& Int32.toUInt32 31)).toInt32)]) (rest := []) ⟨hx, hb, hml, hown, hts⟩ (ct_X1_put l dC dI cB cI h0 a0 n hn g x (y + (nI i)) ((v.toUInt32 >>> (((24 : Int32) - ((8 : Int32) * (nI i)) : Int32).toUInt32 &&& Int32.toUInt32 31)).toInt32) H.size) (cwV 3 hts gX1_putNumber_X1_put rfl rfl rfl (by decide +kernel) ⟨Nat.le_of_ble_eq_true rfl, Nat.le_of_ble_eq_true rfl⟩) ⟨mq_blind, va_recv hK hP (ci := 2) (q0 := 0) rfl rfl, mq_pre hK hN hP hD [0, 1] rfl (by decide)⟩ rfl rfl hl.1 rfl (lv_room (Nat.le_of_ble_eq_true rfl)) dX1_putNumber_25 ⟨Nat.le_of_ble_eq_true rfl, Nat.le_of_ble_eq_true rfl⟩) hP hD hS hA [0, 1] [] [0, 1] rfl rfl (by decide) (by decide) (by decide) (fun _ => rfl) (fun u_3 H locs hw_25 hP hD hS => ?_)
    have hP : va_P (dC, dI) vwCl [(h0, .inr (2, [.int (nI n), .ref a0])), (a0, .inl (cB, (n * 64), .inl u_3))] H := hP
    have hD : va_D A [(h0, .inr (2, [.int (nI n), .ref a0])), (a0, .inl (cB, (n * 64), .inl u_3))] := hD
    obtain ⟨x_4, ex_4⟩ : ∃ y : Int32, y = (nI i) + 1 := ⟨_, rfl⟩
    refine lv_iinc (v := x_4) (lv' := [(4, .int x_4), (0, .ref h0), (1, .int x), (2, .int y), (3, .int v)]) hx hb dX1_putNumber_28 hl (k := 4) rfl (by rw [ex_4]; rfl) (by decide) rfl (fun ls hl => ?_)
    refine lv_goto (tgt := 3) hx hb dX1_putNumber_31 (by decide) ?_
    obtain rfl : x_4 = nI (i + 1) := by rw [ex_4]; exact nI_1 i
    exact ih_3 (i + 1, u_3) ⟨show i + 1 ≤ 4 by omega, z_put hg hw_25⟩ (show 4 - (i + 1) < 4 - i by omega) _ _ _ (hP.sub [0, 1] rfl) (hD.sub [0, 1] (by decide) rfl) hS (lv_sub hl [1, 2, 3, 4, 0] rfl)
set_option maxHeartbeats 4000000 in
set_option maxRecDepth 100000 in
/-- Sectors.seal: bytes stay bytes -/
theorem ct_X1_seal (l : Launch) (dC : Nat → ClassId) (dI : Nat → Nat → Nat) (cB cI : ClassId) (h0 a0 n : Nat) (hn : n ≤ 40) (f : Nat → Int32) (hf : sb_Fit f) (a : Nat) (ha : a < n) (sz : Nat) : mq_V l (dC, dI) vwCl [(cB, .byte), (cI, .int)] yX1_seal wsX1_seal ({ frames := 3, cells := 0, slots := 0, locals := 69 }) [.ref h0, .int (nI a)] [(h0, .inr (2, [.int (nI n), .ref a0])), (a0, .inl (cB, (n * 64), .inl f))] sz (fun (g : (Nat → Int32)) => sb_Fit g) (fun (g : (Nat → Int32)) => [(h0, .inr (2, [.int (nI n), .ref a0])), (a0, .inl (cB, (n * 64), .inl g))]) 0 0 := by
  refine Met.ofW (cc := cX1_seal) (maxL := 2) (ret := none) (by decide) rfl ?_
  intro p e s m args below meth c s₁ B hml hv
  obtain ⟨rfl, hsz, hP, hK, hD0, hN⟩ := hv
  have hx := B.exec
  have hb := B.bytes
  have hr := B.returns
  have hts := atoms_spec (ws := wsX1_seal) B.pre
  have hown : s.vm.findClass RX1 = some m.cls := findClass_of_methodNamed B.named
  have hlocks := B.notSynchronized
  subst hsz
  have hD := hD0.self (sz := s.heap.size)
  generalize hAe : va_A [(h0, .inr (2, [.int (nI n), .ref a0])), (a0, .inl (cB, (n * 64), .inl f))] s.heap.size = A at hD ⊢
  have hA : ∀ q : Nat, s.heap.size ≤ q → A q := fun q h => by rw [← hAe]; exact Or.inr h
  have hS : va_S A s.heap s.heap [] := va_S.rf
  have hP : va_P (dC, dI) vwCl [(h0, .inr (2, [.int (nI n), .ref a0])), (a0, .inl (cB, (n * 64), .inl f))] s.heap := hP
  have hl := lv_entry ([.ref h0, .int (nI a)]) (n := 2) (Nat.le_of_ble_eq_true rfl)
  rw [lg_entry_eq]
  generalize (lg_sl ([.ref h0, .int (nI a)]) ++ List.replicate (2 - (lg_sl ([.ref h0, .int (nI a)])).length) Slot.unset).toArray = ls at hl ⊢
  have hl : lv_has ls 2 [(0, .ref h0), (1, .int (nI a))] := hl
  refine lv_aload_n hx hb dX1_seal_0 rfl (lv_at hl 0 rfl) ?_
  refine lv_iload_n hx hb dX1_seal_1 rfl (lv_at hl 1 rfl) ?_
  refine lv_bipush (v := 60) hx hb dX1_seal_2 (by decide) ?_
  refine lv_aload_n hx hb dX1_seal_4 rfl (lv_at hl 0 rfl) ?_
  refine lv_iload_n hx hb dX1_seal_5 rfl (lv_at hl 1 rfl) ?_
  refine mq_calli (wr := []) (fun (_u : Unit) => [(h0, .inr (2, [.int (nI n), .ref a0])), (a0, .inl (cB, (n * 64), .inl f))]) (va_runV (As := [.int (nI a)]) (rest := [.int 60, .int (nI a), .ref h0]) ⟨hx, hb, hml, hown, hts⟩ (ct_X1_sumOf l dC dI cB cI h0 a0 n hn f a ha s.heap.size) (cwV 1 hts gX1_seal_X1_sumOf rfl rfl rfl (by decide +kernel) ⟨Nat.le_of_ble_eq_true rfl, Nat.le_of_ble_eq_true rfl⟩) ⟨mq_blind, va_recv hK hP (ci := 2) (q0 := 0) rfl rfl, mq_pre hK hN hP hD [0, 1] rfl (by decide)⟩ rfl rfl hl.1 rfl (lv_room (Nat.le_of_ble_eq_true rfl)) dX1_seal_6 ⟨Nat.le_of_ble_eq_true rfl, Nat.le_of_ble_eq_true rfl⟩) hP hD hS hA [0, 1] [] [0, 1] rfl rfl (by decide) (by decide) (by decide) (fun _ => rfl) (fun r_1 _ H locs hw_6 hP hD hS => ?_)
  have hP : va_P (dC, dI) vwCl [(h0, .inr (2, [.int (nI n), .ref a0])), (a0, .inl (cB, (n * 64), .inl f))] H := hP
  have hD : va_D A [(h0, .inr (2, [.int (nI n), .ref a0])), (a0, .inl (cB, (n * 64), .inl f))] := hD
  refine mq_callv (wr := []) (fun (uu_2 : (Nat → Int32)) => [(h0, .inr (2, [.int (nI n), .ref a0])), (a0, .inl (cB, (n * 64), .inl uu_2))]) (va_runV (As := [.int (nI a), .int 60, .int r_1]) (rest := []) ⟨hx, hb, hml, hown, hts⟩ (ct_X1_putNumber l dC dI cB cI h0 a0 n hn f hf (nI a) 60 r_1 H.size) (cwV 3 hts gX1_seal_X1_putNumber rfl rfl rfl (by decide +kernel) ⟨Nat.le_of_ble_eq_true rfl, Nat.le_of_ble_eq_true rfl⟩) ⟨mq_blind, va_recv hK hP (ci := 2) (q0 := 0) rfl rfl, mq_pre hK hN hP hD [0, 1] rfl (by decide)⟩ rfl rfl hl.1 rfl (lv_room (Nat.le_of_ble_eq_true rfl)) dX1_seal_9 ⟨Nat.le_of_ble_eq_true rfl, Nat.le_of_ble_eq_true rfl⟩) hP hD hS hA [0, 1] [] [0, 1] rfl rfl (by decide) (by decide) (by decide) (fun _ => rfl) (fun u_4 H locs hw_9 hP hD hS => ?_)
  have hP : va_P (dC, dI) vwCl [(h0, .inr (2, [.int (nI n), .ref a0])), (a0, .inl (cB, (n * 64), .inl u_4))] H := hP
  have hD : va_D A [(h0, .inr (2, [.int (nI n), .ref a0])), (a0, .inl (cB, (n * 64), .inl u_4))] := hD
  have hP9 := hP.sub (ws' := [(h0, .inr (2, [.int (nI n), .ref a0])), (a0, .inl (cB, (n * 64), .inl u_4))]) [0, 1] rfl
  have hD9 := hD.sub (ws' := [(h0, .inr (2, [.int (nI n), .ref a0])), (a0, .inl (cB, (n * 64), .inl u_4))]) [0, 1] (by decide) rfl
  exact W.vret hx hb hr (fun t ht hW => ⟨⟨u_4, rfl, hw_9, by rw [ht]; exact hP9, va_K.moved hW.alike hK, by rw [hAe]; exact hD9⟩, hS.F ht⟩) hS.2.2 dX1_seal_12
