set_option maxHeartbeats 4000000 in
set_option maxRecDepth 100000 in
/-- forgetOpenSectors -/
theorem ct_X2_forgetOpenSectors (l : Launch) (dC : Nat → ClassId) (dI : Nat → Nat → Nat) (cB cI : ClassId) (h0 d1 d2 d3 d4 sh co : Nat) (o8 o9 o11 o13 o14 : Int32) (sz : Nat) : mq_V l (dC, dI) vwCl [(cB, .byte), (cI, .int)] yX2_forgetOpenSectors wsX2_forgetOpenSectors ({ frames := 0, cells := 0, slots := 0, locals := 0 }) [.ref h0] [(h0, .inr (3, [.ref d1, .ref d2, .ref d3, .ref d4, .int 0, .ref sh, .ref co, .int 0, .int o8, .int o9, .int 1, .int o11, .int 0, .int o13, .int o14, .int 0]))] sz (fun (_u : Unit) => True) (fun (_u : Unit) => [(h0, .inr (3, [.ref d1, .ref d2, .ref d3, .ref d4, .int 0, .ref sh, .ref co, .int 0, .int 0, .int 0, .int 1, .int o11, .int 0, .int o13, .int o14, .int 0]))]) 0 0 := by
  refine Met.ofW (cc := cX2_forgetOpenSectors) (maxL := 1) (ret := none) (by decide) rfl ?_
  intro p e s m args below meth c s₁ B hml hv
  obtain ⟨rfl, hsz, hP, hK, hD0, hN⟩ := hv
  have hx := B.exec
  have hb := B.bytes
  have hr := B.returns
  have hts := atoms_spec (ws := wsX2_forgetOpenSectors) B.pre
  have hown : s.vm.findClass RX2 = some m.cls := findClass_of_methodNamed B.named
  have hlocks := B.notSynchronized
  have hiX2 : ∀ w ∈ u_ws RX2 TX2 16, w ∈ wsX2_forgetOpenSectors := by decide +kernel
  subst hsz
  have hD := hD0.self (sz := s.heap.size)
  generalize hAe : va_A [(h0, .inr (3, [.ref d1, .ref d2, .ref d3, .ref d4, .int 0, .ref sh, .ref co, .int 0, .int o8, .int o9, .int 1, .int o11, .int 0, .int o13, .int o14, .int 0]))] s.heap.size = A at hD ⊢
  have hA : ∀ q : Nat, s.heap.size ≤ q → A q := fun q h => by rw [← hAe]; exact Or.inr h
  have hS : va_S A s.heap s.heap [] := va_S.rf
  have hP : va_P (dC, dI) vwCl [(h0, .inr (3, [.ref d1, .ref d2, .ref d3, .ref d4, .int 0, .ref sh, .ref co, .int 0, .int o8, .int o9, .int 1, .int o11, .int 0, .int o13, .int o14, .int 0]))] s.heap := hP
  have hl := lv_entry ([.ref h0]) (n := 1) (Nat.le_of_ble_eq_true rfl)
  rw [lg_entry_eq]
  generalize (lg_sl ([.ref h0]) ++ List.replicate (1 - (lg_sl ([.ref h0])).length) Slot.unset).toArray = ls at hl ⊢
  have hl : lv_has ls 1 [(0, .ref h0)] := hl
  refine lv_aload_n hx hb dX2_forgetOpenSectors_0 rfl (lv_at hl 0 rfl) ?_
  refine lv_iconst (v := 0) hx hb dX2_forgetOpenSectors_1 (by decide) ?_
  refine va_put (D := (dC, dI)) (ci := 3) (v := .int 0) (ty := .int) (C := RX2) (T := TX2) (N := 16) hx hb hts hiX2 tyX2 tyX2_ok nmX2 hown hK hP hD hS 0 rfl rfl 8 (by decide) (hts (.fieldLink RX2 66 "LibraryDisk" "openSectors" "I") (by decide +kernel)) (fun _ h9 => h9) rfl (by decide +kernel) rfl rfl (Nat.le_of_ble_eq_true rfl) dX2_forgetOpenSectors_2 (fun H locs hP hD hS => ?_)
  have hP : va_P (dC, dI) vwCl [(h0, .inr (3, [.ref d1, .ref d2, .ref d3, .ref d4, .int 0, .ref sh, .ref co, .int 0, .int 0, .int o9, .int 1, .int o11, .int 0, .int o13, .int o14, .int 0]))] H := hP
  have hD : va_D A [(h0, .inr (3, [.ref d1, .ref d2, .ref d3, .ref d4, .int 0, .ref sh, .ref co, .int 0, .int 0, .int o9, .int 1, .int o11, .int 0, .int o13, .int o14, .int 0]))] := hD
  refine lv_aload_n hx hb dX2_forgetOpenSectors_5 rfl (lv_at hl 0 rfl) ?_
  refine lv_iconst (v := 0) hx hb dX2_forgetOpenSectors_6 (by decide) ?_
  refine va_put (D := (dC, dI)) (ci := 3) (v := .int 0) (ty := .int) (C := RX2) (T := TX2) (N := 16) hx hb hts hiX2 tyX2 tyX2_ok nmX2 hown hK hP hD hS 0 rfl rfl 9 (by decide) (hts (.fieldLink RX2 171 "LibraryDisk" "openFill" "I") (by decide +kernel)) (fun _ h9 => h9) rfl (by decide +kernel) rfl rfl (Nat.le_of_ble_eq_true rfl) dX2_forgetOpenSectors_7 (fun H locs hP hD hS => ?_)
  have hP : va_P (dC, dI) vwCl [(h0, .inr (3, [.ref d1, .ref d2, .ref d3, .ref d4, .int 0, .ref sh, .ref co, .int 0, .int 0, .int 0, .int 1, .int o11, .int 0, .int o13, .int o14, .int 0]))] H := hP
  have hD : va_D A [(h0, .inr (3, [.ref d1, .ref d2, .ref d3, .ref d4, .int 0, .ref sh, .ref co, .int 0, .int 0, .int 0, .int 1, .int o11, .int 0, .int o13, .int o14, .int 0]))] := hD
  have hP9 := hP.sub (ws' := [(h0, .inr (3, [.ref d1, .ref d2, .ref d3, .ref d4, .int 0, .ref sh, .ref co, .int 0, .int 0, .int 0, .int 1, .int o11, .int 0, .int o13, .int o14, .int 0]))]) [0] rfl
  have hD9 := hD.sub (ws' := [(h0, .inr (3, [.ref d1, .ref d2, .ref d3, .ref d4, .int 0, .ref sh, .ref co, .int 0, .int 0, .int 0, .int 1, .int o11, .int 0, .int o13, .int o14, .int 0]))]) [0] (by decide) rfl
  exact W.vret hx hb hr (fun t ht hW => ⟨⟨(), rfl, trivial, by rw [ht]; exact hP9, va_K.moved hW.alike hK, by rw [hAe]; exact hD9⟩, hS.F ht⟩) hS.2.2 dX2_forgetOpenSectors_10
set_option maxHeartbeats 4000000 in
set_option maxRecDepth 100000 in
/-- layDownRows, no rows -/
theorem ct_X2_layDownRows (l : Launch) (dC : Nat → ClassId) (dI : Nat → Nat → Nat) (cB cI : ClassId) (h0 d1 d2 d3 d4 sh co : Nat) (k1 k2 k3 k4 k5 : Nat) (e1 : Nat) (n : Nat) (hn : 3 ≤ n ∧ n ≤ 40) (o11 o14 : Int32) (sz : Nat) : mq_I l (dC, dI) vwCl [(cB, .byte), (cI, .int)] yX2_layDownRows wsX2_layDownRows ({ frames := 1, cells := 0, slots := 0, locals := 20 }) [.ref h0] [(h0, .inr (3, [.ref d1, .ref d2, .ref d3, .ref d4, .int 0, .ref sh, .ref co, .int 0, .int 0, .int 0, .int 1, .int o11, .int 0, .int 0, .int o14, .int 0])), (d1, .inr (2, [.int (nI n), .ref e1])), (sh, .inr (1, [.ref k1, .ref k2, .ref k3, .ref k4, .ref k5, .int 0, .int 0, .int 0]))] sz (fun (r : Int32) (_u : Unit) => r = 0) (fun (_u : Unit) => [(h0, .inr (3, [.ref d1, .ref d2, .ref d3, .ref d4, .int 0, .ref sh, .ref co, .int 0, .int 0, .int 0, .int 1, .int o11, .int 0, .int 0, .int o14, .int 0])), (d1, .inr (2, [.int (nI n), .ref e1])), (sh, .inr (1, [.ref k1, .ref k2, .ref k3, .ref k4, .ref k5, .int 0, .int 0, .int 0]))]) 0 0 := by
  refine Met.ofW (cc := cX2_layDownRows) (maxL := 3) (ret := (some .int)) (by decide) rfl ?_
  intro p e s m args below meth c s₁ B hml hv
  obtain ⟨rfl, hsz, hP, hK, hD0, hN⟩ := hv
  have hx := B.exec
  have hb := B.bytes
  have hr := B.returns
  have hts := atoms_spec (ws := wsX2_layDownRows) B.pre
  have hown : s.vm.findClass RX2 = some m.cls := findClass_of_methodNamed B.named
  have hlocks := B.notSynchronized
  have hiX0 : ∀ w ∈ u_ws RX0 TX0 8, w ∈ wsX2_layDownRows := by decide +kernel
  have hiX2 : ∀ w ∈ u_ws RX2 TX2 16, w ∈ wsX2_layDownRows := by decide +kernel
  subst hsz
  have hD := hD0.self (sz := s.heap.size)
  generalize hAe : va_A [(h0, .inr (3, [.ref d1, .ref d2, .ref d3, .ref d4, .int 0, .ref sh, .ref co, .int 0, .int 0, .int 0, .int 1, .int o11, .int 0, .int 0, .int o14, .int 0])), (d1, .inr (2, [.int (nI n), .ref e1])), (sh, .inr (1, [.ref k1, .ref k2, .ref k3, .ref k4, .ref k5, .int 0, .int 0, .int 0]))] s.heap.size = A at hD ⊢
  have hA : ∀ q : Nat, s.heap.size ≤ q → A q := fun q h => by rw [← hAe]; exact Or.inr h
  have hS : va_S A s.heap s.heap [] := va_S.rf
  have hP : va_P (dC, dI) vwCl [(h0, .inr (3, [.ref d1, .ref d2, .ref d3, .ref d4, .int 0, .ref sh, .ref co, .int 0, .int 0, .int 0, .int 1, .int o11, .int 0, .int 0, .int o14, .int 0])), (d1, .inr (2, [.int (nI n), .ref e1])), (sh, .inr (1, [.ref k1, .ref k2, .ref k3, .ref k4, .ref k5, .int 0, .int 0, .int 0]))] s.heap := hP
  have hl := lv_entry ([.ref h0]) (n := 3) (Nat.le_of_ble_eq_true rfl)
  rw [lg_entry_eq]
  generalize (lg_sl ([.ref h0]) ++ List.replicate (3 - (lg_sl ([.ref h0])).length) Slot.unset).toArray = ls at hl ⊢
  have hl : lv_has ls 3 [(0, .ref h0)] := hl
  refine lv_aload_n hx hb dX2_layDownRows_0 rfl (lv_at hl 0 rfl) ?_
  refine mq_calli (wr := [(sh, .inr (1, [.ref k1, .ref k2, .ref k3, .ref k4, .ref k5, .int 0, .int 0, .int 0]))]) (fun (_u : Unit) => [(h0, .inr (3, [.ref d1, .ref d2, .ref d3, .ref d4, .int 0, .ref sh, .ref co, .int 0, .int 0, .int 0, .int 1, .int o11, .int 0, .int 0, .int o14, .int 0])), (d1, .inr (2, [.int (nI n), .ref e1])), (sh, .inr (1, [.ref k1, .ref k2, .ref k3, .ref k4, .ref k5, .int 0, .int 0, .int 0]))]) (va_runV (As := []) (rest := []) ⟨hx, hb, hml, hown, hts⟩ (ct_X2_freeSectors l dC dI cB cI h0 d1 d2 d3 d4 sh co e1 n hn 0 0 o11 o14 s.heap.size) (cwV 0 hts gX2_layDownRows_X2_freeSectors rfl rfl rfl (by decide +kernel) ⟨Nat.le_of_ble_eq_true rfl, Nat.le_of_ble_eq_true rfl⟩) ⟨mq_blind, va_recv hK hP (ci := 3) (q0 := 0) rfl rfl, mq_pre hK hN hP hD [0, 1] rfl (by decide)⟩ rfl rfl hl.1 rfl (lv_room (Nat.le_of_ble_eq_true rfl)) dX2_layDownRows_1 ⟨Nat.le_of_ble_eq_true rfl, Nat.le_of_ble_eq_true rfl⟩) hP hD hS hA [0, 1] [2] [1, 2, 0] rfl rfl (by decide) (by decide) (by decide) (fun _ => rfl) (fun r_1 _ H locs hw_1 hP hD hS => ?_)
  have hP : va_P (dC, dI) vwCl [(h0, .inr (3, [.ref d1, .ref d2, .ref d3, .ref d4, .int 0, .ref sh, .ref co, .int 0, .int 0, .int 0, .int 1, .int o11, .int 0, .int 0, .int o14, .int 0])), (d1, .inr (2, [.int (nI n), .ref e1])), (sh, .inr (1, [.ref k1, .ref k2, .ref k3, .ref k4, .ref k5, .int 0, .int 0, .int 0]))] H := hP
  have hD : va_D A [(h0, .inr (3, [.ref d1, .ref d2, .ref d3, .ref d4, .int 0, .ref sh, .ref co, .int 0, .int 0, .int 0, .int 1, .int o11, .int 0, .int 0, .int o14, .int 0])), (d1, .inr (2, [.int (nI n), .ref e1])), (sh, .inr (1, [.ref k1, .ref k2, .ref k3, .ref k4, .ref k5, .int 0, .int 0, .int 0]))] := hD
  refine lv_istore_n (lv' := [(1, .int r_1), (0, .ref h0)]) hx hb dX2_layDownRows_4 rfl hl (by decide) rfl (fun ls hl => ?_)
  refine lv_iconst (v := 0) hx hb dX2_layDownRows_5 (by decide) ?_
  refine lv_istore_n (lv' := [(2, .int 0), (1, .int r_1), (0, .ref h0)]) hx hb dX2_layDownRows_6 rfl hl (by decide) rfl (fun ls hl => ?_)
  refine lv_iload_n hx hb dX2_layDownRows_7 rfl (lv_at hl 0 rfl) ?_
  refine lv_iload_n hx hb dX2_layDownRows_8 rfl (lv_at hl 1 rfl) ?_
  refine lv_icmp_ge (tgt := 45) hx hb dX2_layDownRows_9 (by decide) (fun c_9 => ?_) (fun c_9 => ?_)
  · skip
    refine lv_iload_n hx hb dX2_layDownRows_45 rfl (lv_at hl 0 rfl) ?_
    have hP9 := hP.sub (ws' := [(h0, .inr (3, [.ref d1, .ref d2, .ref d3, .ref d4, .int 0, .ref sh, .ref co, .int 0, .int 0, .int 0, .int 1, .int o11, .int 0, .int 0, .int o14, .int 0])), (d1, .inr (2, [.int (nI n), .ref e1])), (sh, .inr (1, [.ref k1, .ref k2, .ref k3, .ref k4, .ref k5, .int 0, .int 0, .int 0]))]) [0, 1, 2] rfl
    have hD9 := hD.sub (ws' := [(h0, .inr (3, [.ref d1, .ref d2, .ref d3, .ref d4, .int 0, .ref sh, .ref co, .int 0, .int 0, .int 0, .int 1, .int o11, .int 0, .int 0, .int o14, .int 0])), (d1, .inr (2, [.int (nI n), .ref e1])), (sh, .inr (1, [.ref k1, .ref k2, .ref k3, .ref k4, .ref k5, .int 0, .int 0, .int 0]))]) [0, 1, 2] (by decide) rfl
    exact W.iret (v := 0) hx hb hr (fun t ht hW => ⟨⟨0, (), rfl, rfl, by rw [ht]; exact hP9, va_K.moved hW.alike hK, by rw [hAe]; exact hD9⟩, hS.F ht⟩) hS.2.2 dX2_layDownRows_46
  · skip
    refine lv_aload_n hx hb dX2_layDownRows_12 rfl (lv_at hl 2 rfl) ?_
    refine va_get (D := (dC, dI)) (ci := 3) (v := .ref sh) (C := RX2) (T := TX2) (N := 16) hx hb hts hiX2 hown hK hP 0 rfl rfl 5 (by decide) (hts (.fieldLink RX2 39 "LibraryDisk" "shelf" "LLibraryDisk$Rows;") (by decide +kernel)) (fun _ h9 => h9) rfl dX2_layDownRows_13 ?_
    refine va_getN (D := (dC, dI)) (ci := 1) (v := .int 0) (C := RX0) (T := TX0) (N := 8) (host := "LibraryDisk") hx hb hts hiX0 hown hK hP 2 rfl rfl 6 (by decide) (nx_use hN 0 rfl rfl) (fun _ h9 => h9) rfl dX2_layDownRows_16 ?_
    refine lv_aload_n hx hb dX2_layDownRows_19 rfl (lv_at hl 2 rfl) ?_
    refine va_get (D := (dC, dI)) (ci := 3) (v := .ref sh) (C := RX2) (T := TX2) (N := 16) hx hb hts hiX2 hown hK hP 0 rfl rfl 5 (by decide) (hts (.fieldLink RX2 39 "LibraryDisk" "shelf" "LLibraryDisk$Rows;") (by decide +kernel)) (fun _ h9 => h9) rfl dX2_layDownRows_20 ?_
    refine va_getN (D := (dC, dI)) (ci := 1) (v := .int 0) (C := RX0) (T := TX0) (N := 8) (host := "LibraryDisk") hx hb hts hiX0 hown hK hP 2 rfl rfl 5 (by decide) (nx_use hN 5 rfl rfl) (fun _ h9 => h9) rfl dX2_layDownRows_23 ?_
    refine lv_icmp_ge (tgt := 45) hx hb dX2_layDownRows_26 (by decide) (fun c_26 => ?_) (fun c_26 => ?_)
    · skip
      refine lv_iload_n hx hb dX2_layDownRows_45 rfl (lv_at hl 0 rfl) ?_
      have hP9 := hP.sub (ws' := [(h0, .inr (3, [.ref d1, .ref d2, .ref d3, .ref d4, .int 0, .ref sh, .ref co, .int 0, .int 0, .int 0, .int 1, .int o11, .int 0, .int 0, .int o14, .int 0])), (d1, .inr (2, [.int (nI n), .ref e1])), (sh, .inr (1, [.ref k1, .ref k2, .ref k3, .ref k4, .ref k5, .int 0, .int 0, .int 0]))]) [0, 1, 2] rfl
      have hD9 := hD.sub (ws' := [(h0, .inr (3, [.ref d1, .ref d2, .ref d3, .ref d4, .int 0, .ref sh, .ref co, .int 0, .int 0, .int 0, .int 1, .int o11, .int 0, .int 0, .int o14, .int 0])), (d1, .inr (2, [.int (nI n), .ref e1])), (sh, .inr (1, [.ref k1, .ref k2, .ref k3, .ref k4, .ref k5, .int 0, .int 0, .int 0]))]) [0, 1, 2] (by decide) rfl
      exact W.iret (v := 0) hx hb hr (fun t ht hW => ⟨⟨0, (), rfl, rfl, by rw [ht]; exact hP9, va_K.moved hW.alike hK, by rw [hAe]; exact hD9⟩, hS.F ht⟩) hS.2.2 dX2_layDownRows_46
    · exact absurd (by decide) c_26
set_option maxHeartbeats 4000000 in
set_option maxRecDepth 100000 in
/-- headOf -/
theorem ct_X2_headOf (l : Launch) (dC : Nat → ClassId) (dI : Nat → Nat → Nat) (cB cI : ClassId) (x : Int32) (sz : Nat) : mq_I l (dC, dI) vwCl [(cB, .byte), (cI, .int)] yX2_headOf wsX2_headOf ({ frames := 0, cells := 0, slots := 0, locals := 0 }) [.int x] [] sz (fun (r : Int32) (_u : Unit) => r = x &&& 1) (fun (_u : Unit) => []) 0 0 := by
  refine Met.ofW (cc := cX2_headOf) (maxL := 1) (ret := (some .int)) (by decide) rfl ?_
  intro p e s m args below meth c s₁ B hml hv
  obtain ⟨rfl, hsz, hP, hK, hD0, hN⟩ := hv
  have hx := B.exec
  have hb := B.bytes
  have hr := B.returns
  have hts := atoms_spec (ws := wsX2_headOf) B.pre
  have hown : s.vm.findClass RX2 = some m.cls := findClass_of_methodNamed B.named
  have hlocks := B.notSynchronized
  subst hsz
  have hD := hD0.self (sz := s.heap.size)
  generalize hAe : va_A [] s.heap.size = A at hD ⊢
  have hA : ∀ q : Nat, s.heap.size ≤ q → A q := fun q h => by rw [← hAe]; exact Or.inr h
  have hS : va_S A s.heap s.heap [] := va_S.rf
  have hP : va_P (dC, dI) vwCl [] s.heap := hP
  have hl := lv_entry ([.int x]) (n := 1) (Nat.le_of_ble_eq_true rfl)
  rw [lg_entry_eq]
  generalize (lg_sl ([.int x]) ++ List.replicate (1 - (lg_sl ([.int x])).length) Slot.unset).toArray = ls at hl ⊢
  have hl : lv_has ls 1 [(0, .int x)] := hl
  refine lv_iload_n hx hb dX2_headOf_0 rfl (lv_at hl 0 rfl) ?_
  refine lv_iconst (v := 1) hx hb dX2_headOf_1 (by decide) ?_
  refine lv_iand hx hb dX2_headOf_2 ?_
  have hP9 := hP.sub (ws' := []) [] rfl
  have hD9 := hD.sub (ws' := []) [] (by decide) rfl
  exact W.iret (v := x &&& (1 : Int32)) hx hb hr (fun t ht hW => ⟨⟨x &&& (1 : Int32), (), rfl, rfl, by rw [ht]; exact hP9, va_K.moved hW.alike hK, by rw [hAe]; exact hD9⟩, hS.F ht⟩) hS.2.2 dX2_headOf_3
set_option maxHeartbeats 4000000 in
set_option maxRecDepth 100000 in
/-- writeThrough -/
theorem ct_X2_writeThrough (l : Launch) (dC : Nat → ClassId) (dI : Nat → Nat → Nat) (cB cI : ClassId) (h0 d1 d2 d3 d4 sh co : Nat) (e1 e2 e3 : Nat) (n : Nat) (hn : 3 ≤ n ∧ n ≤ 40) (g1 g2 g3 : Nat → Int32) (hf1 : sb_Fit g1) (hf2 : sb_Fit g2) (hf3 : sb_Fit g3) (o11 o14 : Int32) (a : Nat) (ha : a < n) (sz : Nat) : mq_V l (dC, dI) vwCl [(cB, .byte), (cI, .int)] yX2_writeThrough wsX2_writeThrough ({ frames := 4, cells := 0, slots := 0, locals := 90 }) [.ref h0, .int (nI a)] [(h0, .inr (3, [.ref d1, .ref d2, .ref d3, .ref d4, .int 0, .ref sh, .ref co, .int 0, .int 0, .int 0, .int 1, .int o11, .int 0, .int 0, .int o14, .int 0])), (d1, .inr (2, [.int (nI n), .ref e1])), (e1, .inl (cB, (n * 64), .inl g1)), (d2, .inr (2, [.int (nI n), .ref e2])), (e2, .inl (cB, (n * 64), .inl g2)), (d3, .inr (2, [.int (nI n), .ref e3])), (e3, .inl (cB, (n * 64), .inl g3))] sz (fun (_u : Unit) => True) (fun (_u : Unit) => [(h0, .inr (3, [.ref d1, .ref d2, .ref d3, .ref d4, .int 0, .ref sh, .ref co, .int 0, .int 0, .int 0, .int 1, .int o11, .int 0, .int 0, .int o14, .int 0]))]) 0 0 := by
  refine Met.ofW (cc := cX2_writeThrough) (maxL := 2) (ret := none) (by decide) rfl ?_
  intro p e s m args below meth c s₁ B hml hv
  obtain ⟨rfl, hsz, hP, hK, hD0, hN⟩ := hv
  have hx := B.exec
  have hb := B.bytes
  have hr := B.returns
  have hts := atoms_spec (ws := wsX2_writeThrough) B.pre
  have hown : s.vm.findClass RX2 = some m.cls := findClass_of_methodNamed B.named
  have hlocks := B.notSynchronized
  have hiX2 : ∀ w ∈ u_ws RX2 TX2 16, w ∈ wsX2_writeThrough := by decide +kernel
  subst hsz
  have hD := hD0.self (sz := s.heap.size)
  generalize hAe : va_A [(h0, .inr (3, [.ref d1, .ref d2, .ref d3, .ref d4, .int 0, .ref sh, .ref co, .int 0, .int 0, .int 0, .int 1, .int o11, .int 0, .int 0, .int o14, .int 0])), (d1, .inr (2, [.int (nI n), .ref e1])), (e1, .inl (cB, (n * 64), .inl g1)), (d2, .inr (2, [.int (nI n), .ref e2])), (e2, .inl (cB, (n * 64), .inl g2)), (d3, .inr (2, [.int (nI n), .ref e3])), (e3, .inl (cB, (n * 64), .inl g3))] s.heap.size = A at hD ⊢
  have hA : ∀ q : Nat, s.heap.size ≤ q → A q := fun q h => by rw [← hAe]; exact Or.inr h
  have hS : va_S A s.heap s.heap [] := va_S.rf
  have hP : va_P (dC, dI) vwCl [(h0, .inr (3, [.ref d1, .ref d2, .ref d3, .ref d4, .int 0, .ref sh, .ref co, .int 0, .int 0, .int 0, .int 1, .int o11, .int 0, .int 0, .int o14, .int 0])), (d1, .inr (2, [.int (nI n), .ref e1])), (e1, .inl (cB, (n * 64), .inl g1)), (d2, .inr (2, [.int (nI n), .ref e2])), (e2, .inl (cB, (n * 64), .inl g2)), (d3, .inr (2, [.int (nI n), .ref e3])), (e3, .inl (cB, (n * 64), .inl g3))] s.heap := hP
  have hl := lv_entry ([.ref h0, .int (nI a)]) (n := 2) (Nat.le_of_ble_eq_true rfl)
  rw [lg_entry_eq]
  generalize (lg_sl ([.ref h0, .int (nI a)]) ++ List.replicate (2 - (lg_sl ([.ref h0, .int (nI a)])).length) Slot.unset).toArray = ls at hl ⊢
  have hl : lv_has ls 2 [(0, .ref h0), (1, .int (nI a))] := hl
  refine lv_aload_n hx hb dX2_writeThrough_0 rfl (lv_at hl 0 rfl) ?_
  refine va_get (D := (dC, dI)) (ci := 3) (v := .ref d3) (C := RX2) (T := TX2) (N := 16) hx hb hts hiX2 hown hK hP 0 rfl rfl 2 (by decide) (hts (.fieldLink RX2 30 "LibraryDisk" "written" "LLibraryDisk$Sectors;") (by decide +kernel)) (fun _ h9 => h9) rfl dX2_writeThrough_1 ?_
  refine lv_iload_n hx hb dX2_writeThrough_4 rfl (lv_at hl 1 rfl) ?_
  refine mq_callv (wr := [(h0, .inr (3, [.ref d1, .ref d2, .ref d3, .ref d4, .int 0, .ref sh, .ref co, .int 0, .int 0, .int 0, .int 1, .int o11, .int 0, .int 0, .int o14, .int 0])), (d1, .inr (2, [.int (nI n), .ref e1])), (e1, .inl (cB, (n * 64), .inl g1)), (d2, .inr (2, [.int (nI n), .ref e2])), (e2, .inl (cB, (n * 64), .inl g2))]) (fun (uu_1 : (Nat → Int32)) => [(h0, .inr (3, [.ref d1, .ref d2, .ref d3, .ref d4, .int 0, .ref sh, .ref co, .int 0, .int 0, .int 0, .int 1, .int o11, .int 0, .int 0, .int o14, .int 0])), (d1, .inr (2, [.int (nI n), .ref e1])), (e1, .inl (cB, (n * 64), .inl g1)), (d2, .inr (2, [.int (nI n), .ref e2])), (e2, .inl (cB, (n * 64), .inl g2)), (d3, .inr (2, [.int (nI n), .ref e3])), (e3, .inl (cB, (n * 64), .inl uu_1))]) (va_runV (As := [.int (nI a)]) (rest := []) ⟨hx, hb, hml, hown, hts⟩ (ct_X1_seal l dC dI cB cI d3 e3 n hn.2 g3 hf3 a ha s.heap.size) (cwV 1 hts gX2_writeThrough_X1_seal rfl rfl rfl (by decide +kernel) ⟨Nat.le_of_ble_eq_true rfl, Nat.le_of_ble_eq_true rfl⟩) ⟨mq_blind, va_recv hK hP (ci := 2) (q0 := 5) rfl rfl, mq_pre hK hN hP hD [5, 6] rfl (by decide)⟩ rfl rfl hl.1 rfl (lv_room (Nat.le_of_ble_eq_true rfl)) dX2_writeThrough_5 ⟨Nat.le_of_ble_eq_true rfl, Nat.le_of_ble_eq_true rfl⟩) hP hD hS hA [5, 6] [0, 1, 2, 3, 4] [0, 1, 2, 3, 4, 5, 6] rfl rfl (by decide) (by decide) (by decide) (fun _ => rfl) (fun u_3 H locs hw_5 hP hD hS => ?_)
  have hP : va_P (dC, dI) vwCl [(h0, .inr (3, [.ref d1, .ref d2, .ref d3, .ref d4, .int 0, .ref sh, .ref co, .int 0, .int 0, .int 0, .int 1, .int o11, .int 0, .int 0, .int o14, .int 0])), (d1, .inr (2, [.int (nI n), .ref e1])), (e1, .inl (cB, (n * 64), .inl g1)), (d2, .inr (2, [.int (nI n), .ref e2])), (e2, .inl (cB, (n * 64), .inl g2)), (d3, .inr (2, [.int (nI n), .ref e3])), (e3, .inl (cB, (n * 64), .inl u_3))] H := hP
  have hD : va_D A [(h0, .inr (3, [.ref d1, .ref d2, .ref d3, .ref d4, .int 0, .ref sh, .ref co, .int 0, .int 0, .int 0, .int 1, .int o11, .int 0, .int 0, .int o14, .int 0])), (d1, .inr (2, [.int (nI n), .ref e1])), (e1, .inl (cB, (n * 64), .inl g1)), (d2, .inr (2, [.int (nI n), .ref e2])), (e2, .inl (cB, (n * 64), .inl g2)), (d3, .inr (2, [.int (nI n), .ref e3])), (e3, .inl (cB, (n * 64), .inl u_3))] := hD
  refine lv_aload_n hx hb dX2_writeThrough_8 rfl (lv_at hl 0 rfl) ?_
  refine va_get (D := (dC, dI)) (ci := 3) (v := .ref d2) (C := RX2) (T := TX2) (N := 16) hx hb hts hiX2 hown hK hP 0 rfl rfl 1 (by decide) (hts (.fieldLink RX2 27 "LibraryDisk" "before" "LLibraryDisk$Sectors;") (by decide +kernel)) (fun _ h9 => h9) rfl dX2_writeThrough_9 ?_
  refine lv_aload_n hx hb dX2_writeThrough_12 rfl (lv_at hl 0 rfl) ?_
  refine va_get (D := (dC, dI)) (ci := 3) (v := .ref d1) (C := RX2) (T := TX2) (N := 16) hx hb hts hiX2 hown hK hP 0 rfl rfl 0 (by decide) (hts (.fieldLink RX2 23 "LibraryDisk" "disk" "LLibraryDisk$Sectors;") (by decide +kernel)) (fun _ h9 => h9) rfl dX2_writeThrough_13 ?_
  refine lv_iload_n hx hb dX2_writeThrough_16 rfl (lv_at hl 1 rfl) ?_
  refine lv_iconst (v := 0) hx hb dX2_writeThrough_17 (by decide) ?_
  refine lv_bipush (v := 64) hx hb dX2_writeThrough_18 (by decide) ?_
  refine mq_callv (wr := [(h0, .inr (3, [.ref d1, .ref d2, .ref d3, .ref d4, .int 0, .ref sh, .ref co, .int 0, .int 0, .int 0, .int 1, .int o11, .int 0, .int 0, .int o14, .int 0])), (d3, .inr (2, [.int (nI n), .ref e3])), (e3, .inl (cB, (n * 64), .inl u_3))]) (fun (uu_4 : (Nat → Int32)) => [(h0, .inr (3, [.ref d1, .ref d2, .ref d3, .ref d4, .int 0, .ref sh, .ref co, .int 0, .int 0, .int 0, .int 1, .int o11, .int 0, .int 0, .int o14, .int 0])), (d1, .inr (2, [.int (nI n), .ref e1])), (e1, .inl (cB, (n * 64), .inl g1)), (d2, .inr (2, [.int (nI n), .ref e2])), (e2, .inl (cB, (n * 64), .inl uu_4)), (d3, .inr (2, [.int (nI n), .ref e3])), (e3, .inl (cB, (n * 64), .inl u_3))]) (va_runV (As := [.ref d1, .int (nI a), .int 0, .int 64]) (rest := []) ⟨hx, hb, hml, hown, hts⟩ (ct_X1_copyPart l dC dI cB cI d2 e2 d1 e1 n hn.2 g2 g1 hf2 hf1 (nI a) H.size) (cwV 4 hts gX2_writeThrough_X1_copyPart rfl rfl rfl (by decide +kernel) ⟨Nat.le_of_ble_eq_true rfl, Nat.le_of_ble_eq_true rfl⟩) ⟨mq_blind, va_recv hK hP (ci := 2) (q0 := 3) rfl rfl, mq_pre hK hN hP hD [3, 4, 1, 2] rfl (by decide)⟩ rfl rfl hl.1 rfl (lv_room (Nat.le_of_ble_eq_true rfl)) dX2_writeThrough_20 ⟨Nat.le_of_ble_eq_true rfl, Nat.le_of_ble_eq_true rfl⟩) hP hD hS hA [3, 4, 1, 2] [0, 5, 6] [0, 5, 6, 3, 4, 1, 2] rfl rfl (by decide) (by decide) (by decide) (fun _ => rfl) (fun u_6 H locs hw_20 hP hD hS => ?_)
  have hP : va_P (dC, dI) vwCl [(h0, .inr (3, [.ref d1, .ref d2, .ref d3, .ref d4, .int 0, .ref sh, .ref co, .int 0, .int 0, .int 0, .int 1, .int o11, .int 0, .int 0, .int o14, .int 0])), (d1, .inr (2, [.int (nI n), .ref e1])), (e1, .inl (cB, (n * 64), .inl g1)), (d2, .inr (2, [.int (nI n), .ref e2])), (e2, .inl (cB, (n * 64), .inl u_6)), (d3, .inr (2, [.int (nI n), .ref e3])), (e3, .inl (cB, (n * 64), .inl u_3))] H := hP
  have hD : va_D A [(h0, .inr (3, [.ref d1, .ref d2, .ref d3, .ref d4, .int 0, .ref sh, .ref co, .int 0, .int 0, .int 0, .int 1, .int o11, .int 0, .int 0, .int o14, .int 0])), (d1, .inr (2, [.int (nI n), .ref e1])), (e1, .inl (cB, (n * 64), .inl g1)), (d2, .inr (2, [.int (nI n), .ref e2])), (e2, .inl (cB, (n * 64), .inl u_6)), (d3, .inr (2, [.int (nI n), .ref e3])), (e3, .inl (cB, (n * 64), .inl u_3))] := hD
  refine lv_aload_n hx hb dX2_writeThrough_23 rfl (lv_at hl 0 rfl) ?_
  refine va_get (D := (dC, dI)) (ci := 3) (v := .ref d1) (C := RX2) (T := TX2) (N := 16) hx hb hts hiX2 hown hK hP 0 rfl rfl 0 (by decide) (hts (.fieldLink RX2 23 "LibraryDisk" "disk" "LLibraryDisk$Sectors;") (by decide +kernel)) (fun _ h9 => h9) rfl dX2_writeThrough_24 ?_
  refine lv_aload_n hx hb dX2_writeThrough_27 rfl (lv_at hl 0 rfl) ?_
  refine va_get (D := (dC, dI)) (ci := 3) (v := .ref d3) (C := RX2) (T := TX2) (N := 16) hx hb hts hiX2 hown hK hP 0 rfl rfl 2 (by decide) (hts (.fieldLink RX2 30 "LibraryDisk" "written" "LLibraryDisk$Sectors;") (by decide +kernel)) (fun _ h9 => h9) rfl dX2_writeThrough_28 ?_
  refine lv_iload_n hx hb dX2_writeThrough_31 rfl (lv_at hl 1 rfl) ?_
  refine lv_iconst (v := 0) hx hb dX2_writeThrough_32 (by decide) ?_
  refine lv_bipush (v := 64) hx hb dX2_writeThrough_33 (by decide) ?_
  refine mq_callv (wr := [(h0, .inr (3, [.ref d1, .ref d2, .ref d3, .ref d4, .int 0, .ref sh, .ref co, .int 0, .int 0, .int 0, .int 1, .int o11, .int 0, .int 0, .int o14, .int 0])), (d2, .inr (2, [.int (nI n), .ref e2])), (e2, .inl (cB, (n * 64), .inl u_6))]) (fun (uu_7 : (Nat → Int32)) => [(h0, .inr (3, [.ref d1, .ref d2, .ref d3, .ref d4, .int 0, .ref sh, .ref co, .int 0, .int 0, .int 0, .int 1, .int o11, .int 0, .int 0, .int o14, .int 0])), (d1, .inr (2, [.int (nI n), .ref e1])), (e1, .inl (cB, (n * 64), .inl uu_7)), (d2, .inr (2, [.int (nI n), .ref e2])), (e2, .inl (cB, (n * 64), .inl u_6)), (d3, .inr (2, [.int (nI n), .ref e3])), (e3, .inl (cB, (n * 64), .inl u_3))]) (va_runV (As := [.ref d3, .int (nI a), .int 0, .int 64]) (rest := []) ⟨hx, hb, hml, hown, hts⟩ (ct_X1_copyPart l dC dI cB cI d1 e1 d3 e3 n hn.2 g1 u_3 hf1 hw_5 (nI a) H.size) (cwV 4 hts gX2_writeThrough_X1_copyPart rfl rfl rfl (by decide +kernel) ⟨Nat.le_of_ble_eq_true rfl, Nat.le_of_ble_eq_true rfl⟩) ⟨mq_blind, va_recv hK hP (ci := 2) (q0 := 1) rfl rfl, mq_pre hK hN hP hD [1, 2, 5, 6] rfl (by decide)⟩ rfl rfl hl.1 rfl (lv_room (Nat.le_of_ble_eq_true rfl)) dX2_writeThrough_35 ⟨Nat.le_of_ble_eq_true rfl, Nat.le_of_ble_eq_true rfl⟩) hP hD hS hA [1, 2, 5, 6] [0, 3, 4] [0, 3, 4, 1, 2, 5, 6] rfl rfl (by decide) (by decide) (by decide) (fun _ => rfl) (fun u_9 H locs hw_35 hP hD hS => ?_)
  have hP : va_P (dC, dI) vwCl [(h0, .inr (3, [.ref d1, .ref d2, .ref d3, .ref d4, .int 0, .ref sh, .ref co, .int 0, .int 0, .int 0, .int 1, .int o11, .int 0, .int 0, .int o14, .int 0])), (d1, .inr (2, [.int (nI n), .ref e1])), (e1, .inl (cB, (n * 64), .inl u_9)), (d2, .inr (2, [.int (nI n), .ref e2])), (e2, .inl (cB, (n * 64), .inl u_6)), (d3, .inr (2, [.int (nI n), .ref e3])), (e3, .inl (cB, (n * 64), .inl u_3))] H := hP
  have hD : va_D A [(h0, .inr (3, [.ref d1, .ref d2, .ref d3, .ref d4, .int 0, .ref sh, .ref co, .int 0, .int 0, .int 0, .int 1, .int o11, .int 0, .int 0, .int o14, .int 0])), (d1, .inr (2, [.int (nI n), .ref e1])), (e1, .inl (cB, (n * 64), .inl u_9)), (d2, .inr (2, [.int (nI n), .ref e2])), (e2, .inl (cB, (n * 64), .inl u_6)), (d3, .inr (2, [.int (nI n), .ref e3])), (e3, .inl (cB, (n * 64), .inl u_3))] := hD
  have hP9 := hP.sub (ws' := [(h0, .inr (3, [.ref d1, .ref d2, .ref d3, .ref d4, .int 0, .ref sh, .ref co, .int 0, .int 0, .int 0, .int 1, .int o11, .int 0, .int 0, .int o14, .int 0]))]) [0] rfl
  have hD9 := hD.sub (ws' := [(h0, .inr (3, [.ref d1, .ref d2, .ref d3, .ref d4, .int 0, .ref sh, .ref co, .int 0, .int 0, .int 0, .int 1, .int o11, .int 0, .int 0, .int o14, .int 0]))]) [0] (by decide) rfl
  exact W.vret hx hb hr (fun t ht hW => ⟨⟨(), rfl, trivial, by rw [ht]; exact hP9, va_K.moved hW.alike hK, by rw [hAe]; exact hD9⟩, hS.F ht⟩) hS.2.2 dX2_writeThrough_38
set_option maxHeartbeats 4000000 in
set_option maxRecDepth 100000 in
/-- layDownHead of the first sync -/
theorem ct_X2_layDownHead (l : Launch) (dC : Nat → ClassId) (dI : Nat → Nat → Nat) (cB cI : ClassId) (h0 d1 d2 d3 d4 sh co : Nat) (e1 e2 e3 : Nat) (n : Nat) (hn : 3 ≤ n ∧ n ≤ 40) (g1 g2 g3 : Nat → Int32) (hf1 : sb_Fit g1) (hf2 : sb_Fit g2) (hf3 : sb_Fit g3) (o14 : Int32) (sz : Nat) : mq_V l (dC, dI) vwCl [(cB, .byte), (cI, .int)] yX2_layDownHead wsX2_layDownHead ({ frames := 5, cells := 0, slots := 0, locals := 111 }) [.ref h0] [(h0, .inr (3, [.ref d1, .ref d2, .ref d3, .ref d4, .int 0, .ref sh, .ref co, .int 0, .int 0, .int 0, .int 1, .int 1, .int 0, .int 0, .int o14, .int 0])), (d1, .inr (2, [.int (nI n), .ref e1])), (e1, .inl (cB, (n * 64), .inl g1)), (d2, .inr (2, [.int (nI n), .ref e2])), (e2, .inl (cB, (n * 64), .inl g2)), (d3, .inr (2, [.int (nI n), .ref e3])), (e3, .inl (cB, (n * 64), .inl g3))] sz (fun (_u : Unit) => True) (fun (_u : Unit) => [(h0, .inr (3, [.ref d1, .ref d2, .ref d3, .ref d4, .int 0, .ref sh, .ref co, .int 0, .int 0, .int 0, .int 1, .int 1, .int 0, .int 0, .int o14, .int 0]))]) 0 0 := by
  refine Met.ofW (cc := cX2_layDownHead) (maxL := 2) (ret := none) (by decide) rfl ?_
  intro p e s m args below meth c s₁ B hml hv
  obtain ⟨rfl, hsz, hP, hK, hD0, hN⟩ := hv
  have hx := B.exec
  have hb := B.bytes
  have hr := B.returns
  have hts := atoms_spec (ws := wsX2_layDownHead) B.pre
  have hown : s.vm.findClass RX2 = some m.cls := findClass_of_methodNamed B.named
  have hlocks := B.notSynchronized
  have hiX2 : ∀ w ∈ u_ws RX2 TX2 16, w ∈ wsX2_layDownHead := by decide +kernel
  subst hsz
  have hD := hD0.self (sz := s.heap.size)
  generalize hAe : va_A [(h0, .inr (3, [.ref d1, .ref d2, .ref d3, .ref d4, .int 0, .ref sh, .ref co, .int 0, .int 0, .int 0, .int 1, .int 1, .int 0, .int 0, .int o14, .int 0])), (d1, .inr (2, [.int (nI n), .ref e1])), (e1, .inl (cB, (n * 64), .inl g1)), (d2, .inr (2, [.int (nI n), .ref e2])), (e2, .inl (cB, (n * 64), .inl g2)), (d3, .inr (2, [.int (nI n), .ref e3])), (e3, .inl (cB, (n * 64), .inl g3))] s.heap.size = A at hD ⊢
  have hA : ∀ q : Nat, s.heap.size ≤ q → A q := fun q h => by rw [← hAe]; exact Or.inr h
  have hS : va_S A s.heap s.heap [] := va_S.rf
  have hP : va_P (dC, dI) vwCl [(h0, .inr (3, [.ref d1, .ref d2, .ref d3, .ref d4, .int 0, .ref sh, .ref co, .int 0, .int 0, .int 0, .int 1, .int 1, .int 0, .int 0, .int o14, .int 0])), (d1, .inr (2, [.int (nI n), .ref e1])), (e1, .inl (cB, (n * 64), .inl g1)), (d2, .inr (2, [.int (nI n), .ref e2])), (e2, .inl (cB, (n * 64), .inl g2)), (d3, .inr (2, [.int (nI n), .ref e3])), (e3, .inl (cB, (n * 64), .inl g3))] s.heap := hP
  have hl := lv_entry ([.ref h0]) (n := 2) (Nat.le_of_ble_eq_true rfl)
  rw [lg_entry_eq]
  generalize (lg_sl ([.ref h0]) ++ List.replicate (2 - (lg_sl ([.ref h0])).length) Slot.unset).toArray = ls at hl ⊢
  have hl : lv_has ls 2 [(0, .ref h0)] := hl
  refine lv_aload_n hx hb dX2_layDownHead_0 rfl (lv_at hl 0 rfl) ?_
  refine va_get (D := (dC, dI)) (ci := 3) (v := .int 1) (C := RX2) (T := TX2) (N := 16) hx hb hts hiX2 hown hK hP 0 rfl rfl 11 (by decide) (hts (.fieldLink RX2 76 "LibraryDisk" "syncNumber" "I") (by decide +kernel)) (fun _ h9 => h9) rfl dX2_layDownHead_1 ?_
  refine mq_calli (wr := [(h0, .inr (3, [.ref d1, .ref d2, .ref d3, .ref d4, .int 0, .ref sh, .ref co, .int 0, .int 0, .int 0, .int 1, .int 1, .int 0, .int 0, .int o14, .int 0])), (d1, .inr (2, [.int (nI n), .ref e1])), (e1, .inl (cB, (n * 64), .inl g1)), (d2, .inr (2, [.int (nI n), .ref e2])), (e2, .inl (cB, (n * 64), .inl g2)), (d3, .inr (2, [.int (nI n), .ref e3])), (e3, .inl (cB, (n * 64), .inl g3))]) (fun (_u : Unit) => [(h0, .inr (3, [.ref d1, .ref d2, .ref d3, .ref d4, .int 0, .ref sh, .ref co, .int 0, .int 0, .int 0, .int 1, .int 1, .int 0, .int 0, .int o14, .int 0])), (d1, .inr (2, [.int (nI n), .ref e1])), (e1, .inl (cB, (n * 64), .inl g1)), (d2, .inr (2, [.int (nI n), .ref e2])), (e2, .inl (cB, (n * 64), .inl g2)), (d3, .inr (2, [.int (nI n), .ref e3])), (e3, .inl (cB, (n * 64), .inl g3))]) (va_runS (As := [.int 1]) (rest := []) ⟨hx, hb, hml, hown, hts⟩ (ct_X2_headOf l dC dI cB cI 1 s.heap.size) (va_cwS 1 hts gX2_layDownHead_X2_headOf rfl rfl rfl (by decide +kernel) ⟨Nat.le_of_ble_eq_true rfl, Nat.le_of_ble_eq_true rfl⟩) ⟨mq_blind, mq_pre hK hN hP hD [] rfl (by decide)⟩ rfl rfl hl.1 rfl (lv_room (Nat.le_of_ble_eq_true rfl)) dX2_layDownHead_4 ⟨Nat.le_of_ble_eq_true rfl, Nat.le_of_ble_eq_true rfl⟩) hP hD hS hA [] [0, 1, 2, 3, 4, 5, 6] [0, 1, 2, 3, 4, 5, 6] rfl rfl (by decide) (by decide) (by decide) (fun _ => rfl) (fun r_1 _ H locs hw_4 hP hD hS => ?_)
  have hP : va_P (dC, dI) vwCl [(h0, .inr (3, [.ref d1, .ref d2, .ref d3, .ref d4, .int 0, .ref sh, .ref co, .int 0, .int 0, .int 0, .int 1, .int 1, .int 0, .int 0, .int o14, .int 0])), (d1, .inr (2, [.int (nI n), .ref e1])), (e1, .inl (cB, (n * 64), .inl g1)), (d2, .inr (2, [.int (nI n), .ref e2])), (e2, .inl (cB, (n * 64), .inl g2)), (d3, .inr (2, [.int (nI n), .ref e3])), (e3, .inl (cB, (n * 64), .inl g3))] H := hP
  have hD : va_D A [(h0, .inr (3, [.ref d1, .ref d2, .ref d3, .ref d4, .int 0, .ref sh, .ref co, .int 0, .int 0, .int 0, .int 1, .int 1, .int 0, .int 0, .int o14, .int 0])), (d1, .inr (2, [.int (nI n), .ref e1])), (e1, .inl (cB, (n * 64), .inl g1)), (d2, .inr (2, [.int (nI n), .ref e2])), (e2, .inl (cB, (n * 64), .inl g2)), (d3, .inr (2, [.int (nI n), .ref e3])), (e3, .inl (cB, (n * 64), .inl g3))] := hD
  refine lv_istore_n (lv' := [(1, .int r_1), (0, .ref h0)]) hx hb dX2_layDownHead_7 rfl hl (by decide) rfl (fun ls hl => ?_)
  obtain rfl : r_1 = nI 1 := by rw [hw_4]; decide
  refine lv_aload_n hx hb dX2_layDownHead_8 rfl (lv_at hl 1 rfl) ?_
  refine va_get (D := (dC, dI)) (ci := 3) (v := .ref d3) (C := RX2) (T := TX2) (N := 16) hx hb hts hiX2 hown hK hP 0 rfl rfl 2 (by decide) (hts (.fieldLink RX2 30 "LibraryDisk" "written" "LLibraryDisk$Sectors;") (by decide +kernel)) (fun _ h9 => h9) rfl dX2_layDownHead_9 ?_
  refine lv_iload_n hx hb dX2_layDownHead_12 rfl (lv_at hl 0 rfl) ?_
  refine mq_callv (wr := [(h0, .inr (3, [.ref d1, .ref d2, .ref d3, .ref d4, .int 0, .ref sh, .ref co, .int 0, .int 0, .int 0, .int 1, .int 1, .int 0, .int 0, .int o14, .int 0])), (d1, .inr (2, [.int (nI n), .ref e1])), (e1, .inl (cB, (n * 64), .inl g1)), (d2, .inr (2, [.int (nI n), .ref e2])), (e2, .inl (cB, (n * 64), .inl g2))]) (fun (uu_2 : (Nat → Int32)) => [(h0, .inr (3, [.ref d1, .ref d2, .ref d3, .ref d4, .int 0, .ref sh, .ref co, .int 0, .int 0, .int 0, .int 1, .int 1, .int 0, .int 0, .int o14, .int 0])), (d1, .inr (2, [.int (nI n), .ref e1])), (e1, .inl (cB, (n * 64), .inl g1)), (d2, .inr (2, [.int (nI n), .ref e2])), (e2, .inl (cB, (n * 64), .inl g2)), (d3, .inr (2, [.int (nI n), .ref e3])), (e3, .inl (cB, (n * 64), .inl uu_2))]) (va_runV (As := [.int (nI 1)]) (rest := []) ⟨hx, hb, hml, hown, hts⟩ (ct_X1_clearSector l dC dI cB cI d3 e3 n hn.2 g3 hf3 (nI 1) H.size) (cwV 1 hts gX2_layDownHead_X1_clearSector rfl rfl rfl (by decide +kernel) ⟨Nat.le_of_ble_eq_true rfl, Nat.le_of_ble_eq_true rfl⟩) ⟨mq_blind, va_recv hK hP (ci := 2) (q0 := 5) rfl rfl, mq_pre hK hN hP hD [5, 6] rfl (by decide)⟩ rfl rfl hl.1 rfl (lv_room (Nat.le_of_ble_eq_true rfl)) dX2_layDownHead_13 ⟨Nat.le_of_ble_eq_true rfl, Nat.le_of_ble_eq_true rfl⟩) hP hD hS hA [5, 6] [0, 1, 2, 3, 4] [0, 1, 2, 3, 4, 5, 6] rfl rfl (by decide) (by decide) (by decide) (fun _ => rfl) (fun u_4 H locs hw_13 hP hD hS => ?_)
  have hP : va_P (dC, dI) vwCl [(h0, .inr (3, [.ref d1, .ref d2, .ref d3, .ref d4, .int 0, .ref sh, .ref co, .int 0, .int 0, .int 0, .int 1, .int 1, .int 0, .int 0, .int o14, .int 0])), (d1, .inr (2, [.int (nI n), .ref e1])), (e1, .inl (cB, (n * 64), .inl g1)), (d2, .inr (2, [.int (nI n), .ref e2])), (e2, .inl (cB, (n * 64), .inl g2)), (d3, .inr (2, [.int (nI n), .ref e3])), (e3, .inl (cB, (n * 64), .inl u_4))] H := hP
  have hD : va_D A [(h0, .inr (3, [.ref d1, .ref d2, .ref d3, .ref d4, .int 0, .ref sh, .ref co, .int 0, .int 0, .int 0, .int 1, .int 1, .int 0, .int 0, .int o14, .int 0])), (d1, .inr (2, [.int (nI n), .ref e1])), (e1, .inl (cB, (n * 64), .inl g1)), (d2, .inr (2, [.int (nI n), .ref e2])), (e2, .inl (cB, (n * 64), .inl g2)), (d3, .inr (2, [.int (nI n), .ref e3])), (e3, .inl (cB, (n * 64), .inl u_4))] := hD
  refine lv_aload_n hx hb dX2_layDownHead_16 rfl (lv_at hl 1 rfl) ?_
  refine va_get (D := (dC, dI)) (ci := 3) (v := .ref d3) (C := RX2) (T := TX2) (N := 16) hx hb hts hiX2 hown hK hP 0 rfl rfl 2 (by decide) (hts (.fieldLink RX2 30 "LibraryDisk" "written" "LLibraryDisk$Sectors;") (by decide +kernel)) (fun _ h9 => h9) rfl dX2_layDownHead_17 ?_
  refine lv_iload_n hx hb dX2_layDownHead_20 rfl (lv_at hl 0 rfl) ?_
  refine lv_iconst (v := 0) hx hb dX2_layDownHead_21 (by decide) ?_
  refine lv_aload_n hx hb dX2_layDownHead_22 rfl (lv_at hl 1 rfl) ?_
  refine va_get (D := (dC, dI)) (ci := 3) (v := .int 1) (C := RX2) (T := TX2) (N := 16) hx hb hts hiX2 hown hK hP 0 rfl rfl 11 (by decide) (hts (.fieldLink RX2 76 "LibraryDisk" "syncNumber" "I") (by decide +kernel)) (fun _ h9 => h9) rfl dX2_layDownHead_23 ?_
  refine mq_callv (wr := [(h0, .inr (3, [.ref d1, .ref d2, .ref d3, .ref d4, .int 0, .ref sh, .ref co, .int 0, .int 0, .int 0, .int 1, .int 1, .int 0, .int 0, .int o14, .int 0])), (d1, .inr (2, [.int (nI n), .ref e1])), (e1, .inl (cB, (n * 64), .inl g1)), (d2, .inr (2, [.int (nI n), .ref e2])), (e2, .inl (cB, (n * 64), .inl g2))]) (fun (uu_5 : (Nat → Int32)) => [(h0, .inr (3, [.ref d1, .ref d2, .ref d3, .ref d4, .int 0, .ref sh, .ref co, .int 0, .int 0, .int 0, .int 1, .int 1, .int 0, .int 0, .int o14, .int 0])), (d1, .inr (2, [.int (nI n), .ref e1])), (e1, .inl (cB, (n * 64), .inl g1)), (d2, .inr (2, [.int (nI n), .ref e2])), (e2, .inl (cB, (n * 64), .inl g2)), (d3, .inr (2, [.int (nI n), .ref e3])), (e3, .inl (cB, (n * 64), .inl uu_5))]) (va_runV (As := [.int (nI 1), .int 0, .int 1]) (rest := []) ⟨hx, hb, hml, hown, hts⟩ (ct_X1_putNumber l dC dI cB cI d3 e3 n hn.2 u_4 hw_13 (nI 1) 0 1 H.size) (cwV 3 hts gX2_layDownHead_X1_putNumber rfl rfl rfl (by decide +kernel) ⟨Nat.le_of_ble_eq_true rfl, Nat.le_of_ble_eq_true rfl⟩) ⟨mq_blind, va_recv hK hP (ci := 2) (q0 := 5) rfl rfl, mq_pre hK hN hP hD [5, 6] rfl (by decide)⟩ rfl rfl hl.1 rfl (lv_room (Nat.le_of_ble_eq_true rfl)) dX2_layDownHead_26 ⟨Nat.le_of_ble_eq_true rfl, Nat.le_of_ble_eq_true rfl⟩) hP hD hS hA [5, 6] [0, 1, 2, 3, 4] [0, 1, 2, 3, 4, 5, 6] rfl rfl (by decide) (by decide) (by decide) (fun _ => rfl) (fun u_7 H locs hw_26 hP hD hS => ?_)
  have hP : va_P (dC, dI) vwCl [(h0, .inr (3, [.ref d1, .ref d2, .ref d3, .ref d4, .int 0, .ref sh, .ref co, .int 0, .int 0, .int 0, .int 1, .int 1, .int 0, .int 0, .int o14, .int 0])), (d1, .inr (2, [.int (nI n), .ref e1])), (e1, .inl (cB, (n * 64), .inl g1)), (d2, .inr (2, [.int (nI n), .ref e2])), (e2, .inl (cB, (n * 64), .inl g2)), (d3, .inr (2, [.int (nI n), .ref e3])), (e3, .inl (cB, (n * 64), .inl u_7))] H := hP
  have hD : va_D A [(h0, .inr (3, [.ref d1, .ref d2, .ref d3, .ref d4, .int 0, .ref sh, .ref co, .int 0, .int 0, .int 0, .int 1, .int 1, .int 0, .int 0, .int o14, .int 0])), (d1, .inr (2, [.int (nI n), .ref e1])), (e1, .inl (cB, (n * 64), .inl g1)), (d2, .inr (2, [.int (nI n), .ref e2])), (e2, .inl (cB, (n * 64), .inl g2)), (d3, .inr (2, [.int (nI n), .ref e3])), (e3, .inl (cB, (n * 64), .inl u_7))] := hD
  refine lv_aload_n hx hb dX2_layDownHead_29 rfl (lv_at hl 1 rfl) ?_
  refine va_get (D := (dC, dI)) (ci := 3) (v := .ref d3) (C := RX2) (T := TX2) (N := 16) hx hb hts hiX2 hown hK hP 0 rfl rfl 2 (by decide) (hts (.fieldLink RX2 30 "LibraryDisk" "written" "LLibraryDisk$Sectors;") (by decide +kernel)) (fun _ h9 => h9) rfl dX2_layDownHead_30 ?_
  refine lv_iload_n hx hb dX2_layDownHead_33 rfl (lv_at hl 0 rfl) ?_
  refine lv_iconst (v := 4) hx hb dX2_layDownHead_34 (by decide) ?_
  refine lv_aload_n hx hb dX2_layDownHead_35 rfl (lv_at hl 1 rfl) ?_
  refine va_get (D := (dC, dI)) (ci := 3) (v := .int 0) (C := RX2) (T := TX2) (N := 16) hx hb hts hiX2 hown hK hP 0 rfl rfl 12 (by decide) (hts (.fieldLink RX2 79 "LibraryDisk" "logCount" "I") (by decide +kernel)) (fun _ h9 => h9) rfl dX2_layDownHead_36 ?_
  refine mq_callv (wr := [(h0, .inr (3, [.ref d1, .ref d2, .ref d3, .ref d4, .int 0, .ref sh, .ref co, .int 0, .int 0, .int 0, .int 1, .int 1, .int 0, .int 0, .int o14, .int 0])), (d1, .inr (2, [.int (nI n), .ref e1])), (e1, .inl (cB, (n * 64), .inl g1)), (d2, .inr (2, [.int (nI n), .ref e2])), (e2, .inl (cB, (n * 64), .inl g2))]) (fun (uu_8 : (Nat → Int32)) => [(h0, .inr (3, [.ref d1, .ref d2, .ref d3, .ref d4, .int 0, .ref sh, .ref co, .int 0, .int 0, .int 0, .int 1, .int 1, .int 0, .int 0, .int o14, .int 0])), (d1, .inr (2, [.int (nI n), .ref e1])), (e1, .inl (cB, (n * 64), .inl g1)), (d2, .inr (2, [.int (nI n), .ref e2])), (e2, .inl (cB, (n * 64), .inl g2)), (d3, .inr (2, [.int (nI n), .ref e3])), (e3, .inl (cB, (n * 64), .inl uu_8))]) (va_runV (As := [.int (nI 1), .int 4, .int 0]) (rest := []) ⟨hx, hb, hml, hown, hts⟩ (ct_X1_putNumber l dC dI cB cI d3 e3 n hn.2 u_7 hw_26 (nI 1) 4 0 H.size) (cwV 3 hts gX2_layDownHead_X1_putNumber rfl rfl rfl (by decide +kernel) ⟨Nat.le_of_ble_eq_true rfl, Nat.le_of_ble_eq_true rfl⟩) ⟨mq_blind, va_recv hK hP (ci := 2) (q0 := 5) rfl rfl, mq_pre hK hN hP hD [5, 6] rfl (by decide)⟩ rfl rfl hl.1 rfl (lv_room (Nat.le_of_ble_eq_true rfl)) dX2_layDownHead_39 ⟨Nat.le_of_ble_eq_true rfl, Nat.le_of_ble_eq_true rfl⟩) hP hD hS hA [5, 6] [0, 1, 2, 3, 4] [0, 1, 2, 3, 4, 5, 6] rfl rfl (by decide) (by decide) (by decide) (fun _ => rfl) (fun u_10 H locs hw_39 hP hD hS => ?_)
  have hP : va_P (dC, dI) vwCl [(h0, .inr (3, [.ref d1, .ref d2, .ref d3, .ref d4, .int 0, .ref sh, .ref co, .int 0, .int 0, .int 0, .int 1, .int 1, .int 0, .int 0, .int o14, .int 0])), (d1, .inr (2, [.int (nI n), .ref e1])), (e1, .inl (cB, (n * 64), .inl g1)), (d2, .inr (2, [.int (nI n), .ref e2])), (e2, .inl (cB, (n * 64), .inl g2)), (d3, .inr (2, [.int (nI n), .ref e3])), (e3, .inl (cB, (n * 64), .inl u_10))] H := hP
  have hD : va_D A [(h0, .inr (3, [.ref d1, .ref d2, .ref d3, .ref d4, .int 0, .ref sh, .ref co, .int 0, .int 0, .int 0, .int 1, .int 1, .int 0, .int 0, .int o14, .int 0])), (d1, .inr (2, [.int (nI n), .ref e1])), (e1, .inl (cB, (n * 64), .inl g1)), (d2, .inr (2, [.int (nI n), .ref e2])), (e2, .inl (cB, (n * 64), .inl g2)), (d3, .inr (2, [.int (nI n), .ref e3])), (e3, .inl (cB, (n * 64), .inl u_10))] := hD
  refine lv_aload_n hx hb dX2_layDownHead_42 rfl (lv_at hl 1 rfl) ?_
  refine lv_iload_n hx hb dX2_layDownHead_43 rfl (lv_at hl 0 rfl) ?_
  refine mq_callv (wr := []) (fun (_u : Unit) => [(h0, .inr (3, [.ref d1, .ref d2, .ref d3, .ref d4, .int 0, .ref sh, .ref co, .int 0, .int 0, .int 0, .int 1, .int 1, .int 0, .int 0, .int o14, .int 0]))]) (va_runV (As := [.int (nI 1)]) (rest := []) ⟨hx, hb, hml, hown, hts⟩ (ct_X2_writeThrough l dC dI cB cI h0 d1 d2 d3 d4 sh co e1 e2 e3 n hn g1 g2 u_10 hf1 hf2 hw_39 1 o14 1 (show 1 < n by omega) H.size) (cwV 1 hts gX2_layDownHead_X2_writeThrough rfl rfl rfl (by decide +kernel) ⟨Nat.le_of_ble_eq_true rfl, Nat.le_of_ble_eq_true rfl⟩) ⟨mq_blind, va_recv hK hP (ci := 3) (q0 := 0) rfl rfl, mq_pre hK hN hP hD [0, 1, 2, 3, 4, 5, 6] rfl (by decide)⟩ rfl rfl hl.1 rfl (lv_room (Nat.le_of_ble_eq_true rfl)) dX2_layDownHead_44 ⟨Nat.le_of_ble_eq_true rfl, Nat.le_of_ble_eq_true rfl⟩) hP hD hS hA [0, 1, 2, 3, 4, 5, 6] [] [0] rfl rfl (by decide) (by decide) (by decide) (fun _ => rfl) (fun _ H locs hw_44 hP hD hS => ?_)
  have hP : va_P (dC, dI) vwCl [(h0, .inr (3, [.ref d1, .ref d2, .ref d3, .ref d4, .int 0, .ref sh, .ref co, .int 0, .int 0, .int 0, .int 1, .int 1, .int 0, .int 0, .int o14, .int 0]))] H := hP
  have hD : va_D A [(h0, .inr (3, [.ref d1, .ref d2, .ref d3, .ref d4, .int 0, .ref sh, .ref co, .int 0, .int 0, .int 0, .int 1, .int 1, .int 0, .int 0, .int o14, .int 0]))] := hD
  have hP9 := hP.sub (ws' := [(h0, .inr (3, [.ref d1, .ref d2, .ref d3, .ref d4, .int 0, .ref sh, .ref co, .int 0, .int 0, .int 0, .int 1, .int 1, .int 0, .int 0, .int o14, .int 0]))]) [0] rfl
  have hD9 := hD.sub (ws' := [(h0, .inr (3, [.ref d1, .ref d2, .ref d3, .ref d4, .int 0, .ref sh, .ref co, .int 0, .int 0, .int 0, .int 1, .int 1, .int 0, .int 0, .int o14, .int 0]))]) [0] (by decide) rfl
  exact W.vret hx hb hr (fun t ht hW => ⟨⟨(), rfl, trivial, by rw [ht]; exact hP9, va_K.moved hW.alike hK, by rw [hAe]; exact hD9⟩, hS.F ht⟩) hS.2.2 dX2_layDownHead_47
set_option maxHeartbeats 4000000 in
set_option maxRecDepth 100000 in
/-- sync, fresh -/
theorem ct_X2_sync (l : Launch) (dC : Nat → ClassId) (dI : Nat → Nat → Nat) (cB cI : ClassId) (h0 d1 d2 d3 d4 sh co : Nat) (k1 k2 k3 k4 k5 : Nat) (e1 e2 e3 : Nat) (n : Nat) (hn : 3 ≤ n ∧ n ≤ 40) (g1 g2 g3 : Nat → Int32) (hf1 : sb_Fit g1) (hf2 : sb_Fit g2) (hf3 : sb_Fit g3)  (sz : Nat) : mq_I l (dC, dI) vwCl [(cB, .byte), (cI, .int)] yX2_sync wsX2_sync ({ frames := 6, cells := 0, slots := 0, locals := 132 }) [.ref h0] [(h0, .inr (3, [.ref d1, .ref d2, .ref d3, .ref d4, .int 0, .ref sh, .ref co, .int 0, .int 0, .int 0, .int 1, .int 0, .int 0, .int 0, .int 0, .int 0])), (sh, .inr (1, [.ref k1, .ref k2, .ref k3, .ref k4, .ref k5, .int 0, .int 0, .int 0])), (d1, .inr (2, [.int (nI n), .ref e1])), (e1, .inl (cB, (n * 64), .inl g1)), (d2, .inr (2, [.int (nI n), .ref e2])), (e2, .inl (cB, (n * 64), .inl g2)), (d3, .inr (2, [.int (nI n), .ref e3])), (e3, .inl (cB, (n * 64), .inl g3))] sz (fun (r : Int32) (_u : Unit) => r = 1) (fun (_u : Unit) => []) 0 0 := by
  refine Met.ofW (cc := cX2_sync) (maxL := 2) (ret := (some .int)) (by decide) rfl ?_
  intro p e s m args below meth c s₁ B hml hv
  obtain ⟨rfl, hsz, hP, hK, hD0, hN⟩ := hv
  have hx := B.exec
  have hb := B.bytes
  have hr := B.returns
  have hts := atoms_spec (ws := wsX2_sync) B.pre
  have hown : s.vm.findClass RX2 = some m.cls := findClass_of_methodNamed B.named
  have hlocks := B.notSynchronized
  have hiX2 : ∀ w ∈ u_ws RX2 TX2 16, w ∈ wsX2_sync := by decide +kernel
  subst hsz
  have hD := hD0.self (sz := s.heap.size)
  generalize hAe : va_A [(h0, .inr (3, [.ref d1, .ref d2, .ref d3, .ref d4, .int 0, .ref sh, .ref co, .int 0, .int 0, .int 0, .int 1, .int 0, .int 0, .int 0, .int 0, .int 0])), (sh, .inr (1, [.ref k1, .ref k2, .ref k3, .ref k4, .ref k5, .int 0, .int 0, .int 0])), (d1, .inr (2, [.int (nI n), .ref e1])), (e1, .inl (cB, (n * 64), .inl g1)), (d2, .inr (2, [.int (nI n), .ref e2])), (e2, .inl (cB, (n * 64), .inl g2)), (d3, .inr (2, [.int (nI n), .ref e3])), (e3, .inl (cB, (n * 64), .inl g3))] s.heap.size = A at hD ⊢
  have hA : ∀ q : Nat, s.heap.size ≤ q → A q := fun q h => by rw [← hAe]; exact Or.inr h
  have hS : va_S A s.heap s.heap [] := va_S.rf
  have hP : va_P (dC, dI) vwCl [(h0, .inr (3, [.ref d1, .ref d2, .ref d3, .ref d4, .int 0, .ref sh, .ref co, .int 0, .int 0, .int 0, .int 1, .int 0, .int 0, .int 0, .int 0, .int 0])), (sh, .inr (1, [.ref k1, .ref k2, .ref k3, .ref k4, .ref k5, .int 0, .int 0, .int 0])), (d1, .inr (2, [.int (nI n), .ref e1])), (e1, .inl (cB, (n * 64), .inl g1)), (d2, .inr (2, [.int (nI n), .ref e2])), (e2, .inl (cB, (n * 64), .inl g2)), (d3, .inr (2, [.int (nI n), .ref e3])), (e3, .inl (cB, (n * 64), .inl g3))] s.heap := hP
  have hl := lv_entry ([.ref h0]) (n := 2) (Nat.le_of_ble_eq_true rfl)
  rw [lg_entry_eq]
  generalize (lg_sl ([.ref h0]) ++ List.replicate (2 - (lg_sl ([.ref h0])).length) Slot.unset).toArray = ls at hl ⊢
  have hl : lv_has ls 2 [(0, .ref h0)] := hl
  refine lv_aload_n hx hb dX2_sync_0 rfl (lv_at hl 0 rfl) ?_
  refine va_get (D := (dC, dI)) (ci := 3) (v := .int 1) (C := RX2) (T := TX2) (N := 16) hx hb hts hiX2 hown hK hP 0 rfl rfl 10 (by decide) (hts (.fieldLink RX2 47 "LibraryDisk" "on" "Z") (by decide +kernel)) (fun _ h9 => h9) rfl dX2_sync_1 ?_
  refine lv_if_ne (tgt := 10) hx hb dX2_sync_4 (by decide) (fun c_4 => ?_) (fun c_4 => ?_)
  · skip
    refine lv_aload_n hx hb dX2_sync_10 rfl (lv_at hl 0 rfl) ?_
    refine lv_dup hx hb dX2_sync_11 rfl ?_
    refine va_get (D := (dC, dI)) (ci := 3) (v := .int 0) (C := RX2) (T := TX2) (N := 16) hx hb hts hiX2 hown hK hP 0 rfl rfl 11 (by decide) (hts (.fieldLink RX2 76 "LibraryDisk" "syncNumber" "I") (by decide +kernel)) (fun _ h9 => h9) rfl dX2_sync_12 ?_
    refine lv_iconst (v := 1) hx hb dX2_sync_15 (by decide) ?_
    refine lv_iadd hx hb dX2_sync_16 ?_
    refine lv_topi (fun x_1 ex_1 => ?_)
    refine va_put (D := (dC, dI)) (ci := 3) (v := .int x_1) (ty := .int) (C := RX2) (T := TX2) (N := 16) hx hb hts hiX2 tyX2 tyX2_ok nmX2 hown hK hP hD hS 0 rfl rfl 11 (by decide) (hts (.fieldLink RX2 76 "LibraryDisk" "syncNumber" "I") (by decide +kernel)) (fun _ h9 => h9) rfl (by decide +kernel) rfl rfl (Nat.le_of_ble_eq_true rfl) dX2_sync_17 (fun H locs hP hD hS => ?_)
    have hP : va_P (dC, dI) vwCl [(h0, .inr (3, [.ref d1, .ref d2, .ref d3, .ref d4, .int 0, .ref sh, .ref co, .int 0, .int 0, .int 0, .int 1, .int x_1, .int 0, .int 0, .int 0, .int 0])), (sh, .inr (1, [.ref k1, .ref k2, .ref k3, .ref k4, .ref k5, .int 0, .int 0, .int 0])), (d1, .inr (2, [.int (nI n), .ref e1])), (e1, .inl (cB, (n * 64), .inl g1)), (d2, .inr (2, [.int (nI n), .ref e2])), (e2, .inl (cB, (n * 64), .inl g2)), (d3, .inr (2, [.int (nI n), .ref e3])), (e3, .inl (cB, (n * 64), .inl g3))] H := hP
    have hD : va_D A [(h0, .inr (3, [.ref d1, .ref d2, .ref d3, .ref d4, .int 0, .ref sh, .ref co, .int 0, .int 0, .int 0, .int 1, .int x_1, .int 0, .int 0, .int 0, .int 0])), (sh, .inr (1, [.ref k1, .ref k2, .ref k3, .ref k4, .ref k5, .int 0, .int 0, .int 0])), (d1, .inr (2, [.int (nI n), .ref e1])), (e1, .inl (cB, (n * 64), .inl g1)), (d2, .inr (2, [.int (nI n), .ref e2])), (e2, .inl (cB, (n * 64), .inl g2)), (d3, .inr (2, [.int (nI n), .ref e3])), (e3, .inl (cB, (n * 64), .inl g3))] := hD
    obtain rfl : x_1 = 1 := by rw [ex_1]; decide
    refine lv_aload_n hx hb dX2_sync_20 rfl (lv_at hl 0 rfl) ?_
    refine lv_iconst (v := 2) hx hb dX2_sync_21 (by decide) ?_
    refine lv_aload_n hx hb dX2_sync_22 rfl (lv_at hl 0 rfl) ?_
    refine va_get (D := (dC, dI)) (ci := 3) (v := .int 0) (C := RX2) (T := TX2) (N := 16) hx hb hts hiX2 hown hK hP 0 rfl rfl 12 (by decide) (hts (.fieldLink RX2 79 "LibraryDisk" "logCount" "I") (by decide +kernel)) (fun _ h9 => h9) rfl dX2_sync_23 ?_
    refine lv_iadd hx hb dX2_sync_26 ?_
    refine lv_topi (fun x_2 ex_2 => ?_)
    refine va_put (D := (dC, dI)) (ci := 3) (v := .int x_2) (ty := .int) (C := RX2) (T := TX2) (N := 16) hx hb hts hiX2 tyX2 tyX2_ok nmX2 hown hK hP hD hS 0 rfl rfl 14 (by decide) (hts (.fieldLink RX2 82 "LibraryDisk" "syncFirstSector" "I") (by decide +kernel)) (fun _ h9 => h9) rfl (by decide +kernel) rfl rfl (Nat.le_of_ble_eq_true rfl) dX2_sync_27 (fun H locs hP hD hS => ?_)
    have hP : va_P (dC, dI) vwCl [(h0, .inr (3, [.ref d1, .ref d2, .ref d3, .ref d4, .int 0, .ref sh, .ref co, .int 0, .int 0, .int 0, .int 1, .int 1, .int 0, .int 0, .int x_2, .int 0])), (sh, .inr (1, [.ref k1, .ref k2, .ref k3, .ref k4, .ref k5, .int 0, .int 0, .int 0])), (d1, .inr (2, [.int (nI n), .ref e1])), (e1, .inl (cB, (n * 64), .inl g1)), (d2, .inr (2, [.int (nI n), .ref e2])), (e2, .inl (cB, (n * 64), .inl g2)), (d3, .inr (2, [.int (nI n), .ref e3])), (e3, .inl (cB, (n * 64), .inl g3))] H := hP
    have hD : va_D A [(h0, .inr (3, [.ref d1, .ref d2, .ref d3, .ref d4, .int 0, .ref sh, .ref co, .int 0, .int 0, .int 0, .int 1, .int 1, .int 0, .int 0, .int x_2, .int 0])), (sh, .inr (1, [.ref k1, .ref k2, .ref k3, .ref k4, .ref k5, .int 0, .int 0, .int 0])), (d1, .inr (2, [.int (nI n), .ref e1])), (e1, .inl (cB, (n * 64), .inl g1)), (d2, .inr (2, [.int (nI n), .ref e2])), (e2, .inl (cB, (n * 64), .inl g2)), (d3, .inr (2, [.int (nI n), .ref e3])), (e3, .inl (cB, (n * 64), .inl g3))] := hD
    refine lv_aload_n hx hb dX2_sync_30 rfl (lv_at hl 0 rfl) ?_
    refine mq_calli (wr := [(e1, .inl (cB, (n * 64), .inl g1)), (d2, .inr (2, [.int (nI n), .ref e2])), (e2, .inl (cB, (n * 64), .inl g2)), (d3, .inr (2, [.int (nI n), .ref e3])), (e3, .inl (cB, (n * 64), .inl g3))]) (fun (_u : Unit) => [(h0, .inr (3, [.ref d1, .ref d2, .ref d3, .ref d4, .int 0, .ref sh, .ref co, .int 0, .int 0, .int 0, .int 1, .int 1, .int 0, .int 0, .int x_2, .int 0])), (sh, .inr (1, [.ref k1, .ref k2, .ref k3, .ref k4, .ref k5, .int 0, .int 0, .int 0])), (d1, .inr (2, [.int (nI n), .ref e1])), (e1, .inl (cB, (n * 64), .inl g1)), (d2, .inr (2, [.int (nI n), .ref e2])), (e2, .inl (cB, (n * 64), .inl g2)), (d3, .inr (2, [.int (nI n), .ref e3])), (e3, .inl (cB, (n * 64), .inl g3))]) (va_runV (As := []) (rest := []) ⟨hx, hb, hml, hown, hts⟩ (ct_X2_layDownRows l dC dI cB cI h0 d1 d2 d3 d4 sh co k1 k2 k3 k4 k5 e1 n hn 1 x_2 H.size) (cwV 0 hts gX2_sync_X2_layDownRows rfl rfl rfl (by decide +kernel) ⟨Nat.le_of_ble_eq_true rfl, Nat.le_of_ble_eq_true rfl⟩) ⟨mq_blind, va_recv hK hP (ci := 3) (q0 := 0) rfl rfl, mq_pre hK hN hP hD [0, 2, 1] rfl (by decide)⟩ rfl rfl hl.1 rfl (lv_room (Nat.le_of_ble_eq_true rfl)) dX2_sync_31 ⟨Nat.le_of_ble_eq_true rfl, Nat.le_of_ble_eq_true rfl⟩) hP hD hS hA [0, 2, 1] [3, 4, 5, 6, 7] [5, 7, 6, 0, 1, 2, 3, 4] rfl rfl (by decide) (by decide) (by decide) (fun _ => rfl) (fun r_3 _ H locs hw_31 hP hD hS => ?_)
    have hP : va_P (dC, dI) vwCl [(h0, .inr (3, [.ref d1, .ref d2, .ref d3, .ref d4, .int 0, .ref sh, .ref co, .int 0, .int 0, .int 0, .int 1, .int 1, .int 0, .int 0, .int x_2, .int 0])), (sh, .inr (1, [.ref k1, .ref k2, .ref k3, .ref k4, .ref k5, .int 0, .int 0, .int 0])), (d1, .inr (2, [.int (nI n), .ref e1])), (e1, .inl (cB, (n * 64), .inl g1)), (d2, .inr (2, [.int (nI n), .ref e2])), (e2, .inl (cB, (n * 64), .inl g2)), (d3, .inr (2, [.int (nI n), .ref e3])), (e3, .inl (cB, (n * 64), .inl g3))] H := hP
    have hD : va_D A [(h0, .inr (3, [.ref d1, .ref d2, .ref d3, .ref d4, .int 0, .ref sh, .ref co, .int 0, .int 0, .int 0, .int 1, .int 1, .int 0, .int 0, .int x_2, .int 0])), (sh, .inr (1, [.ref k1, .ref k2, .ref k3, .ref k4, .ref k5, .int 0, .int 0, .int 0])), (d1, .inr (2, [.int (nI n), .ref e1])), (e1, .inl (cB, (n * 64), .inl g1)), (d2, .inr (2, [.int (nI n), .ref e2])), (e2, .inl (cB, (n * 64), .inl g2)), (d3, .inr (2, [.int (nI n), .ref e3])), (e3, .inl (cB, (n * 64), .inl g3))] := hD
    refine lv_istore_n (lv' := [(1, .int r_3), (0, .ref h0)]) hx hb dX2_sync_34 rfl hl (by decide) rfl (fun ls hl => ?_)
    obtain rfl : r_3 = 0 := hw_31
    refine lv_aload_n hx hb dX2_sync_35 rfl (lv_at hl 1 rfl) ?_
    refine lv_dup hx hb dX2_sync_36 rfl ?_
    refine va_get (D := (dC, dI)) (ci := 3) (v := .int 0) (C := RX2) (T := TX2) (N := 16) hx hb hts hiX2 hown hK hP 0 rfl rfl 12 (by decide) (hts (.fieldLink RX2 79 "LibraryDisk" "logCount" "I") (by decide +kernel)) (fun _ h9 => h9) rfl dX2_sync_37 ?_
    refine lv_iload_n hx hb dX2_sync_40 rfl (lv_at hl 0 rfl) ?_
    refine lv_iadd hx hb dX2_sync_41 ?_
    refine lv_topi (fun x_4 ex_4 => ?_)
    refine va_put (D := (dC, dI)) (ci := 3) (v := .int x_4) (ty := .int) (C := RX2) (T := TX2) (N := 16) hx hb hts hiX2 tyX2 tyX2_ok nmX2 hown hK hP hD hS 0 rfl rfl 12 (by decide) (hts (.fieldLink RX2 79 "LibraryDisk" "logCount" "I") (by decide +kernel)) (fun _ h9 => h9) rfl (by decide +kernel) rfl rfl (Nat.le_of_ble_eq_true rfl) dX2_sync_42 (fun H locs hP hD hS => ?_)
    have hP : va_P (dC, dI) vwCl [(h0, .inr (3, [.ref d1, .ref d2, .ref d3, .ref d4, .int 0, .ref sh, .ref co, .int 0, .int 0, .int 0, .int 1, .int 1, .int x_4, .int 0, .int x_2, .int 0])), (sh, .inr (1, [.ref k1, .ref k2, .ref k3, .ref k4, .ref k5, .int 0, .int 0, .int 0])), (d1, .inr (2, [.int (nI n), .ref e1])), (e1, .inl (cB, (n * 64), .inl g1)), (d2, .inr (2, [.int (nI n), .ref e2])), (e2, .inl (cB, (n * 64), .inl g2)), (d3, .inr (2, [.int (nI n), .ref e3])), (e3, .inl (cB, (n * 64), .inl g3))] H := hP
    have hD : va_D A [(h0, .inr (3, [.ref d1, .ref d2, .ref d3, .ref d4, .int 0, .ref sh, .ref co, .int 0, .int 0, .int 0, .int 1, .int 1, .int x_4, .int 0, .int x_2, .int 0])), (sh, .inr (1, [.ref k1, .ref k2, .ref k3, .ref k4, .ref k5, .int 0, .int 0, .int 0])), (d1, .inr (2, [.int (nI n), .ref e1])), (e1, .inl (cB, (n * 64), .inl g1)), (d2, .inr (2, [.int (nI n), .ref e2])), (e2, .inl (cB, (n * 64), .inl g2)), (d3, .inr (2, [.int (nI n), .ref e3])), (e3, .inl (cB, (n * 64), .inl g3))] := hD
    obtain rfl : x_4 = 0 := by rw [ex_4]; decide
    refine lv_aload_n hx hb dX2_sync_45 rfl (lv_at hl 1 rfl) ?_
    refine mq_callv (wr := [(sh, .inr (1, [.ref k1, .ref k2, .ref k3, .ref k4, .ref k5, .int 0, .int 0, .int 0]))]) (fun (_u : Unit) => [(h0, .inr (3, [.ref d1, .ref d2, .ref d3, .ref d4, .int 0, .ref sh, .ref co, .int 0, .int 0, .int 0, .int 1, .int 1, .int 0, .int 0, .int x_2, .int 0])), (sh, .inr (1, [.ref k1, .ref k2, .ref k3, .ref k4, .ref k5, .int 0, .int 0, .int 0]))]) (va_runV (As := []) (rest := []) ⟨hx, hb, hml, hown, hts⟩ (ct_X2_layDownHead l dC dI cB cI h0 d1 d2 d3 d4 sh co e1 e2 e3 n hn g1 g2 g3 hf1 hf2 hf3 x_2 H.size) (cwV 0 hts gX2_sync_X2_layDownHead rfl rfl rfl (by decide +kernel) ⟨Nat.le_of_ble_eq_true rfl, Nat.le_of_ble_eq_true rfl⟩) ⟨mq_blind, va_recv hK hP (ci := 3) (q0 := 0) rfl rfl, mq_pre hK hN hP hD [0, 2, 3, 4, 5, 6, 7] rfl (by decide)⟩ rfl rfl hl.1 rfl (lv_room (Nat.le_of_ble_eq_true rfl)) dX2_sync_46 ⟨Nat.le_of_ble_eq_true rfl, Nat.le_of_ble_eq_true rfl⟩) hP hD hS hA [0, 2, 3, 4, 5, 6, 7] [1] [1, 0] rfl rfl (by decide) (by decide) (by decide) (fun _ => rfl) (fun _ H locs hw_46 hP hD hS => ?_)
    have hP : va_P (dC, dI) vwCl [(h0, .inr (3, [.ref d1, .ref d2, .ref d3, .ref d4, .int 0, .ref sh, .ref co, .int 0, .int 0, .int 0, .int 1, .int 1, .int 0, .int 0, .int x_2, .int 0])), (sh, .inr (1, [.ref k1, .ref k2, .ref k3, .ref k4, .ref k5, .int 0, .int 0, .int 0]))] H := hP
    have hD : va_D A [(h0, .inr (3, [.ref d1, .ref d2, .ref d3, .ref d4, .int 0, .ref sh, .ref co, .int 0, .int 0, .int 0, .int 1, .int 1, .int 0, .int 0, .int x_2, .int 0])), (sh, .inr (1, [.ref k1, .ref k2, .ref k3, .ref k4, .ref k5, .int 0, .int 0, .int 0]))] := hD
    refine lv_aload_n hx hb dX2_sync_49 rfl (lv_at hl 1 rfl) ?_
    refine lv_iload_n hx hb dX2_sync_50 rfl (lv_at hl 0 rfl) ?_
    refine lv_iconst (v := 1) hx hb dX2_sync_51 (by decide) ?_
    refine lv_iadd hx hb dX2_sync_52 ?_
    refine lv_topi (fun x_6 ex_6 => ?_)
    refine va_put (D := (dC, dI)) (ci := 3) (v := .int x_6) (ty := .int) (C := RX2) (T := TX2) (N := 16) hx hb hts hiX2 tyX2 tyX2_ok nmX2 hown hK hP hD hS 0 rfl rfl 13 (by decide) (hts (.fieldLink RX2 91 "LibraryDisk" "syncWrites" "I") (by decide +kernel)) (fun _ h9 => h9) rfl (by decide +kernel) rfl rfl (Nat.le_of_ble_eq_true rfl) dX2_sync_53 (fun H locs hP hD hS => ?_)
    have hP : va_P (dC, dI) vwCl [(h0, .inr (3, [.ref d1, .ref d2, .ref d3, .ref d4, .int 0, .ref sh, .ref co, .int 0, .int 0, .int 0, .int 1, .int 1, .int 0, .int x_6, .int x_2, .int 0])), (sh, .inr (1, [.ref k1, .ref k2, .ref k3, .ref k4, .ref k5, .int 0, .int 0, .int 0]))] H := hP
    have hD : va_D A [(h0, .inr (3, [.ref d1, .ref d2, .ref d3, .ref d4, .int 0, .ref sh, .ref co, .int 0, .int 0, .int 0, .int 1, .int 1, .int 0, .int x_6, .int x_2, .int 0])), (sh, .inr (1, [.ref k1, .ref k2, .ref k3, .ref k4, .ref k5, .int 0, .int 0, .int 0]))] := hD
    refine lv_aload_n hx hb dX2_sync_56 rfl (lv_at hl 1 rfl) ?_
    refine mq_callv (wr := [(sh, .inr (1, [.ref k1, .ref k2, .ref k3, .ref k4, .ref k5, .int 0, .int 0, .int 0]))]) (fun (_u : Unit) => [(h0, .inr (3, [.ref d1, .ref d2, .ref d3, .ref d4, .int 0, .ref sh, .ref co, .int 0, .int 0, .int 0, .int 1, .int 1, .int 0, .int x_6, .int x_2, .int 0])), (sh, .inr (1, [.ref k1, .ref k2, .ref k3, .ref k4, .ref k5, .int 0, .int 0, .int 0]))]) (va_runV (As := []) (rest := []) ⟨hx, hb, hml, hown, hts⟩ (ct_X2_forgetOpenSectors l dC dI cB cI h0 d1 d2 d3 d4 sh co 0 0 1 x_6 x_2 H.size) (cwV 0 hts gX2_sync_X2_forgetOpenSectors rfl rfl rfl (by decide +kernel) ⟨Nat.le_of_ble_eq_true rfl, Nat.le_of_ble_eq_true rfl⟩) ⟨mq_blind, va_recv hK hP (ci := 3) (q0 := 0) rfl rfl, mq_pre hK hN hP hD [0] rfl (by decide)⟩ rfl rfl hl.1 rfl (lv_room (Nat.le_of_ble_eq_true rfl)) dX2_sync_57 ⟨Nat.le_of_ble_eq_true rfl, Nat.le_of_ble_eq_true rfl⟩) hP hD hS hA [0] [1] [1, 0] rfl rfl (by decide) (by decide) (by decide) (fun _ => rfl) (fun _ H locs hw_57 hP hD hS => ?_)
    have hP : va_P (dC, dI) vwCl [(h0, .inr (3, [.ref d1, .ref d2, .ref d3, .ref d4, .int 0, .ref sh, .ref co, .int 0, .int 0, .int 0, .int 1, .int 1, .int 0, .int x_6, .int x_2, .int 0])), (sh, .inr (1, [.ref k1, .ref k2, .ref k3, .ref k4, .ref k5, .int 0, .int 0, .int 0]))] H := hP
    have hD : va_D A [(h0, .inr (3, [.ref d1, .ref d2, .ref d3, .ref d4, .int 0, .ref sh, .ref co, .int 0, .int 0, .int 0, .int 1, .int 1, .int 0, .int x_6, .int x_2, .int 0])), (sh, .inr (1, [.ref k1, .ref k2, .ref k3, .ref k4, .ref k5, .int 0, .int 0, .int 0]))] := hD
    refine lv_aload_n hx hb dX2_sync_60 rfl (lv_at hl 1 rfl) ?_
    refine va_get (D := (dC, dI)) (ci := 3) (v := .int x_6) (C := RX2) (T := TX2) (N := 16) hx hb hts hiX2 hown hK hP 0 rfl rfl 13 (by decide) (hts (.fieldLink RX2 91 "LibraryDisk" "syncWrites" "I") (by decide +kernel)) (fun _ h9 => h9) rfl dX2_sync_61 ?_
    have hP9 := hP.sub (ws' := []) [] rfl
    have hD9 := hD.sub (ws' := []) [] (by decide) rfl
    exact W.iret (v := x_6) hx hb hr (fun t ht hW => ⟨⟨x_6, (), rfl, by rw [ex_6]; decide, by rw [ht]; exact hP9, va_K.moved hW.alike hK, by rw [hAe]; exact hD9⟩, hS.F ht⟩) hS.2.2 dX2_sync_64
  · exact absurd c_4 (by decide)
set_option maxHeartbeats 4000000 in
set_option maxRecDepth 100000 in
/-- cut, fresh -/
theorem ct_X2_cut (l : Launch) (dC : Nat → ClassId) (dI : Nat → Nat → Nat) (cB cI : ClassId) (h0 d1 d2 d3 d4 sh co : Nat) (x y : Int32) (sz : Nat) : mq_I l (dC, dI) vwCl [(cB, .byte), (cI, .int)] yX2_cut wsX2_cut ({ frames := 0, cells := 0, slots := 0, locals := 0 }) [.ref h0, .int x, .int y] [(h0, .inr (3, [.ref d1, .ref d2, .ref d3, .ref d4, .int 0, .ref sh, .ref co, .int 0, .int 0, .int 0, .int 1, .int 0, .int 0, .int 0, .int 0, .int 0]))] sz (fun (r : Int32) (_u : Unit) => r = -3) (fun (_u : Unit) => []) 0 0 := by
  refine Met.ofW (cc := cX2_cut) (maxL := 4) (ret := (some .int)) (by decide) rfl ?_
  intro p e s m args below meth c s₁ B hml hv
  obtain ⟨rfl, hsz, hP, hK, hD0, hN⟩ := hv
  have hx := B.exec
  have hb := B.bytes
  have hr := B.returns
  have hts := atoms_spec (ws := wsX2_cut) B.pre
  have hown : s.vm.findClass RX2 = some m.cls := findClass_of_methodNamed B.named
  have hlocks := B.notSynchronized
  have hiX2 : ∀ w ∈ u_ws RX2 TX2 16, w ∈ wsX2_cut := by decide +kernel
  subst hsz
  have hD := hD0.self (sz := s.heap.size)
  generalize hAe : va_A [(h0, .inr (3, [.ref d1, .ref d2, .ref d3, .ref d4, .int 0, .ref sh, .ref co, .int 0, .int 0, .int 0, .int 1, .int 0, .int 0, .int 0, .int 0, .int 0]))] s.heap.size = A at hD ⊢
  have hA : ∀ q : Nat, s.heap.size ≤ q → A q := fun q h => by rw [← hAe]; exact Or.inr h
  have hS : va_S A s.heap s.heap [] := va_S.rf
  have hP : va_P (dC, dI) vwCl [(h0, .inr (3, [.ref d1, .ref d2, .ref d3, .ref d4, .int 0, .ref sh, .ref co, .int 0, .int 0, .int 0, .int 1, .int 0, .int 0, .int 0, .int 0, .int 0]))] s.heap := hP
  have hl := lv_entry ([.ref h0, .int x, .int y]) (n := 4) (Nat.le_of_ble_eq_true rfl)
  rw [lg_entry_eq]
  generalize (lg_sl ([.ref h0, .int x, .int y]) ++ List.replicate (4 - (lg_sl ([.ref h0, .int x, .int y])).length) Slot.unset).toArray = ls at hl ⊢
  have hl : lv_has ls 4 [(0, .ref h0), (1, .int x), (2, .int y)] := hl
  refine lv_aload_n hx hb dX2_cut_0 rfl (lv_at hl 0 rfl) ?_
  refine va_get (D := (dC, dI)) (ci := 3) (v := .int 1) (C := RX2) (T := TX2) (N := 16) hx hb hts hiX2 hown hK hP 0 rfl rfl 10 (by decide) (hts (.fieldLink RX2 47 "LibraryDisk" "on" "Z") (by decide +kernel)) (fun _ h9 => h9) rfl dX2_cut_1 ?_
  refine lv_if_eq (tgt := 14) hx hb dX2_cut_4 (by decide) (fun c_4 => ?_) (fun c_4 => ?_)
  · exact absurd c_4 (by decide)
  · skip
    refine lv_aload_n hx hb dX2_cut_7 rfl (lv_at hl 0 rfl) ?_
    refine va_get (D := (dC, dI)) (ci := 3) (v := .int 0) (C := RX2) (T := TX2) (N := 16) hx hb hts hiX2 hown hK hP 0 rfl rfl 13 (by decide) (hts (.fieldLink RX2 91 "LibraryDisk" "syncWrites" "I") (by decide +kernel)) (fun _ h9 => h9) rfl dX2_cut_8 ?_
    refine lv_if_ne (tgt := 17) hx hb dX2_cut_11 (by decide) (fun c_11 => ?_) (fun c_11 => ?_)
    · exact absurd (by decide) c_11
    · skip
      refine lv_bipush (v := (-3)) hx hb dX2_cut_14 (by decide) ?_
      have hP9 := hP.sub (ws' := []) [] rfl
      have hD9 := hD.sub (ws' := []) [] (by decide) rfl
      exact W.iret (v := (-3)) hx hb hr (fun t ht hW => ⟨⟨(-3), (), rfl, rfl, by rw [ht]; exact hP9, va_K.moved hW.alike hK, by rw [hAe]; exact hD9⟩, hS.F ht⟩) hS.2.2 dX2_cut_16
set_option maxHeartbeats 4000000 in
set_option maxRecDepth 100000 in
/-- goOff, fresh -/
theorem ct_X2_goOff (l : Launch) (dC : Nat → ClassId) (dI : Nat → Nat → Nat) (cB cI : ClassId) (h0 d1 d2 d3 d4 sh co : Nat) (k1 k2 k3 k4 k5 : Nat)  (sz : Nat) : mq_V l (dC, dI) vwCl [(cB, .byte), (cI, .int)] yX2_goOff wsX2_goOff ({ frames := 1, cells := 0, slots := 0, locals := 20 }) [.ref h0] [(h0, .inr (3, [.ref d1, .ref d2, .ref d3, .ref d4, .int 0, .ref sh, .ref co, .int 0, .int 0, .int 0, .int 1, .int 0, .int 0, .int 0, .int 0, .int 0])), (sh, .inr (1, [.ref k1, .ref k2, .ref k3, .ref k4, .ref k5, .int 0, .int 0, .int 0]))] sz (fun (_u : Unit) => True) (fun (_u : Unit) => []) 0 0 := by
  refine Met.ofW (cc := cX2_goOff) (maxL := 1) (ret := none) (by decide) rfl ?_
  intro p e s m args below meth c s₁ B hml hv
  obtain ⟨rfl, hsz, hP, hK, hD0, hN⟩ := hv
  have hx := B.exec
  have hb := B.bytes
  have hr := B.returns
  have hts := atoms_spec (ws := wsX2_goOff) B.pre
  have hown : s.vm.findClass RX2 = some m.cls := findClass_of_methodNamed B.named
  have hlocks := B.notSynchronized
  have hiX2 : ∀ w ∈ u_ws RX2 TX2 16, w ∈ wsX2_goOff := by decide +kernel
  subst hsz
  have hD := hD0.self (sz := s.heap.size)
  generalize hAe : va_A [(h0, .inr (3, [.ref d1, .ref d2, .ref d3, .ref d4, .int 0, .ref sh, .ref co, .int 0, .int 0, .int 0, .int 1, .int 0, .int 0, .int 0, .int 0, .int 0])), (sh, .inr (1, [.ref k1, .ref k2, .ref k3, .ref k4, .ref k5, .int 0, .int 0, .int 0]))] s.heap.size = A at hD ⊢
  have hA : ∀ q : Nat, s.heap.size ≤ q → A q := fun q h => by rw [← hAe]; exact Or.inr h
  have hS : va_S A s.heap s.heap [] := va_S.rf
  have hP : va_P (dC, dI) vwCl [(h0, .inr (3, [.ref d1, .ref d2, .ref d3, .ref d4, .int 0, .ref sh, .ref co, .int 0, .int 0, .int 0, .int 1, .int 0, .int 0, .int 0, .int 0, .int 0])), (sh, .inr (1, [.ref k1, .ref k2, .ref k3, .ref k4, .ref k5, .int 0, .int 0, .int 0]))] s.heap := hP
  have hl := lv_entry ([.ref h0]) (n := 1) (Nat.le_of_ble_eq_true rfl)
  rw [lg_entry_eq]
  generalize (lg_sl ([.ref h0]) ++ List.replicate (1 - (lg_sl ([.ref h0])).length) Slot.unset).toArray = ls at hl ⊢
  have hl : lv_has ls 1 [(0, .ref h0)] := hl
  refine lv_aload_n hx hb dX2_goOff_0 rfl (lv_at hl 0 rfl) ?_
  refine va_get (D := (dC, dI)) (ci := 3) (v := .ref sh) (C := RX2) (T := TX2) (N := 16) hx hb hts hiX2 hown hK hP 0 rfl rfl 5 (by decide) (hts (.fieldLink RX2 39 "LibraryDisk" "shelf" "LLibraryDisk$Rows;") (by decide +kernel)) (fun _ h9 => h9) rfl dX2_goOff_1 ?_
  refine mq_callv (wr := [(h0, .inr (3, [.ref d1, .ref d2, .ref d3, .ref d4, .int 0, .ref sh, .ref co, .int 0, .int 0, .int 0, .int 1, .int 0, .int 0, .int 0, .int 0, .int 0]))]) (fun (_u : Unit) => [(h0, .inr (3, [.ref d1, .ref d2, .ref d3, .ref d4, .int 0, .ref sh, .ref co, .int 0, .int 0, .int 0, .int 1, .int 0, .int 0, .int 0, .int 0, .int 0])), (sh, .inr (1, [.ref k1, .ref k2, .ref k3, .ref k4, .ref k5, .int 0, .int 0, .int 0]))]) (va_runV (As := []) (rest := []) ⟨hx, hb, hml, hown, hts⟩ (ct_X0_clear l dC dI cB cI sh k1 k2 k3 k4 k5 0 0 0 s.heap.size) (cwV 0 hts gX2_goOff_X0_clear rfl rfl rfl (by decide +kernel) ⟨Nat.le_of_ble_eq_true rfl, Nat.le_of_ble_eq_true rfl⟩) ⟨mq_blind, va_recv hK hP (ci := 1) (q0 := 1) rfl rfl, mq_pre hK hN hP hD [1] rfl (by decide)⟩ rfl rfl hl.1 rfl (lv_room (Nat.le_of_ble_eq_true rfl)) dX2_goOff_4 ⟨Nat.le_of_ble_eq_true rfl, Nat.le_of_ble_eq_true rfl⟩) hP hD hS hA [1] [0] [0, 1] rfl rfl (by decide) (by decide) (by decide) (fun _ => rfl) (fun _ H locs hw_4 hP hD hS => ?_)
  have hP : va_P (dC, dI) vwCl [(h0, .inr (3, [.ref d1, .ref d2, .ref d3, .ref d4, .int 0, .ref sh, .ref co, .int 0, .int 0, .int 0, .int 1, .int 0, .int 0, .int 0, .int 0, .int 0])), (sh, .inr (1, [.ref k1, .ref k2, .ref k3, .ref k4, .ref k5, .int 0, .int 0, .int 0]))] H := hP
  have hD : va_D A [(h0, .inr (3, [.ref d1, .ref d2, .ref d3, .ref d4, .int 0, .ref sh, .ref co, .int 0, .int 0, .int 0, .int 1, .int 0, .int 0, .int 0, .int 0, .int 0])), (sh, .inr (1, [.ref k1, .ref k2, .ref k3, .ref k4, .ref k5, .int 0, .int 0, .int 0]))] := hD
  refine lv_aload_n hx hb dX2_goOff_7 rfl (lv_at hl 0 rfl) ?_
  refine lv_iconst (v := 0) hx hb dX2_goOff_8 (by decide) ?_
  refine va_put (D := (dC, dI)) (ci := 3) (v := .int 0) (ty := .int) (C := RX2) (T := TX2) (N := 16) hx hb hts hiX2 tyX2 tyX2_ok nmX2 hown hK hP hD hS 0 rfl rfl 7 (by decide) (hts (.fieldLink RX2 51 "LibraryDisk" "collectedSize" "I") (by decide +kernel)) (fun _ h9 => h9) rfl (by decide +kernel) rfl rfl (Nat.le_of_ble_eq_true rfl) dX2_goOff_9 (fun H locs hP hD hS => ?_)
  have hP : va_P (dC, dI) vwCl [(h0, .inr (3, [.ref d1, .ref d2, .ref d3, .ref d4, .int 0, .ref sh, .ref co, .int 0, .int 0, .int 0, .int 1, .int 0, .int 0, .int 0, .int 0, .int 0])), (sh, .inr (1, [.ref k1, .ref k2, .ref k3, .ref k4, .ref k5, .int 0, .int 0, .int 0]))] H := hP
  have hD : va_D A [(h0, .inr (3, [.ref d1, .ref d2, .ref d3, .ref d4, .int 0, .ref sh, .ref co, .int 0, .int 0, .int 0, .int 1, .int 0, .int 0, .int 0, .int 0, .int 0])), (sh, .inr (1, [.ref k1, .ref k2, .ref k3, .ref k4, .ref k5, .int 0, .int 0, .int 0]))] := hD
  refine lv_aload_n hx hb dX2_goOff_12 rfl (lv_at hl 0 rfl) ?_
  refine mq_callv (wr := [(sh, .inr (1, [.ref k1, .ref k2, .ref k3, .ref k4, .ref k5, .int 0, .int 0, .int 0]))]) (fun (_u : Unit) => [(h0, .inr (3, [.ref d1, .ref d2, .ref d3, .ref d4, .int 0, .ref sh, .ref co, .int 0, .int 0, .int 0, .int 1, .int 0, .int 0, .int 0, .int 0, .int 0])), (sh, .inr (1, [.ref k1, .ref k2, .ref k3, .ref k4, .ref k5, .int 0, .int 0, .int 0]))]) (va_runV (As := []) (rest := []) ⟨hx, hb, hml, hown, hts⟩ (ct_X2_forgetOpenSectors l dC dI cB cI h0 d1 d2 d3 d4 sh co 0 0 0 0 0 H.size) (cwV 0 hts gX2_goOff_X2_forgetOpenSectors rfl rfl rfl (by decide +kernel) ⟨Nat.le_of_ble_eq_true rfl, Nat.le_of_ble_eq_true rfl⟩) ⟨mq_blind, va_recv hK hP (ci := 3) (q0 := 0) rfl rfl, mq_pre hK hN hP hD [0] rfl (by decide)⟩ rfl rfl hl.1 rfl (lv_room (Nat.le_of_ble_eq_true rfl)) dX2_goOff_13 ⟨Nat.le_of_ble_eq_true rfl, Nat.le_of_ble_eq_true rfl⟩) hP hD hS hA [0] [1] [1, 0] rfl rfl (by decide) (by decide) (by decide) (fun _ => rfl) (fun _ H locs hw_13 hP hD hS => ?_)
  have hP : va_P (dC, dI) vwCl [(h0, .inr (3, [.ref d1, .ref d2, .ref d3, .ref d4, .int 0, .ref sh, .ref co, .int 0, .int 0, .int 0, .int 1, .int 0, .int 0, .int 0, .int 0, .int 0])), (sh, .inr (1, [.ref k1, .ref k2, .ref k3, .ref k4, .ref k5, .int 0, .int 0, .int 0]))] H := hP
  have hD : va_D A [(h0, .inr (3, [.ref d1, .ref d2, .ref d3, .ref d4, .int 0, .ref sh, .ref co, .int 0, .int 0, .int 0, .int 1, .int 0, .int 0, .int 0, .int 0, .int 0])), (sh, .inr (1, [.ref k1, .ref k2, .ref k3, .ref k4, .ref k5, .int 0, .int 0, .int 0]))] := hD
  refine lv_aload_n hx hb dX2_goOff_16 rfl (lv_at hl 0 rfl) ?_
  refine lv_iconst (v := 0) hx hb dX2_goOff_17 (by decide) ?_
  refine va_put (D := (dC, dI)) (ci := 3) (v := .int 0) (ty := .boolean) (C := RX2) (T := TX2) (N := 16) hx hb hts hiX2 tyX2 tyX2_ok nmX2 hown hK hP hD hS 0 rfl rfl 10 (by decide) (hts (.fieldLink RX2 47 "LibraryDisk" "on" "Z") (by decide +kernel)) (fun _ h9 => h9) rfl (by decide +kernel) rfl rfl (Nat.le_of_ble_eq_true rfl) dX2_goOff_18 (fun H locs hP hD hS => ?_)
  have hP : va_P (dC, dI) vwCl [(h0, .inr (3, [.ref d1, .ref d2, .ref d3, .ref d4, .int 0, .ref sh, .ref co, .int 0, .int 0, .int 0, .int 0, .int 0, .int 0, .int 0, .int 0, .int 0])), (sh, .inr (1, [.ref k1, .ref k2, .ref k3, .ref k4, .ref k5, .int 0, .int 0, .int 0]))] H := hP
  have hD : va_D A [(h0, .inr (3, [.ref d1, .ref d2, .ref d3, .ref d4, .int 0, .ref sh, .ref co, .int 0, .int 0, .int 0, .int 0, .int 0, .int 0, .int 0, .int 0, .int 0])), (sh, .inr (1, [.ref k1, .ref k2, .ref k3, .ref k4, .ref k5, .int 0, .int 0, .int 0]))] := hD
  have hP9 := hP.sub (ws' := []) [] rfl
  have hD9 := hD.sub (ws' := []) [] (by decide) rfl
  exact W.vret hx hb hr (fun t ht hW => ⟨⟨(), rfl, trivial, by rw [ht]; exact hP9, va_K.moved hW.alike hK, by rw [hAe]; exact hD9⟩, hS.F ht⟩) hS.2.2 dX2_goOff_21
set_option maxHeartbeats 4000000 in
set_option maxRecDepth 100000 in
/-- off, fresh -/
theorem ct_X2_off (l : Launch) (dC : Nat → ClassId) (dI : Nat → Nat → Nat) (cB cI : ClassId) (h0 d1 d2 d3 d4 sh co : Nat) (k1 k2 k3 k4 k5 : Nat)  (sz : Nat) : mq_I l (dC, dI) vwCl [(cB, .byte), (cI, .int)] yX2_off wsX2_off ({ frames := 2, cells := 0, slots := 0, locals := 40 }) [.ref h0] [(h0, .inr (3, [.ref d1, .ref d2, .ref d3, .ref d4, .int 0, .ref sh, .ref co, .int 0, .int 0, .int 0, .int 1, .int 0, .int 0, .int 0, .int 0, .int 0])), (sh, .inr (1, [.ref k1, .ref k2, .ref k3, .ref k4, .ref k5, .int 0, .int 0, .int 0]))] sz (fun (r : Int32) (_u : Unit) => r = 0) (fun (_u : Unit) => []) 0 0 := by
  refine Met.ofW (cc := cX2_off) (maxL := 2) (ret := (some .int)) (by decide) rfl ?_
  intro p e s m args below meth c s₁ B hml hv
  obtain ⟨rfl, hsz, hP, hK, hD0, hN⟩ := hv
  have hx := B.exec
  have hb := B.bytes
  have hr := B.returns
  have hts := atoms_spec (ws := wsX2_off) B.pre
  have hown : s.vm.findClass RX2 = some m.cls := findClass_of_methodNamed B.named
  have hlocks := B.notSynchronized
  have hiX0 : ∀ w ∈ u_ws RX0 TX0 8, w ∈ wsX2_off := by decide +kernel
  have hiX2 : ∀ w ∈ u_ws RX2 TX2 16, w ∈ wsX2_off := by decide +kernel
  subst hsz
  have hD := hD0.self (sz := s.heap.size)
  generalize hAe : va_A [(h0, .inr (3, [.ref d1, .ref d2, .ref d3, .ref d4, .int 0, .ref sh, .ref co, .int 0, .int 0, .int 0, .int 1, .int 0, .int 0, .int 0, .int 0, .int 0])), (sh, .inr (1, [.ref k1, .ref k2, .ref k3, .ref k4, .ref k5, .int 0, .int 0, .int 0]))] s.heap.size = A at hD ⊢
  have hA : ∀ q : Nat, s.heap.size ≤ q → A q := fun q h => by rw [← hAe]; exact Or.inr h
  have hS : va_S A s.heap s.heap [] := va_S.rf
  have hP : va_P (dC, dI) vwCl [(h0, .inr (3, [.ref d1, .ref d2, .ref d3, .ref d4, .int 0, .ref sh, .ref co, .int 0, .int 0, .int 0, .int 1, .int 0, .int 0, .int 0, .int 0, .int 0])), (sh, .inr (1, [.ref k1, .ref k2, .ref k3, .ref k4, .ref k5, .int 0, .int 0, .int 0]))] s.heap := hP
  have hl := lv_entry ([.ref h0]) (n := 2) (Nat.le_of_ble_eq_true rfl)
  rw [lg_entry_eq]
  generalize (lg_sl ([.ref h0]) ++ List.replicate (2 - (lg_sl ([.ref h0])).length) Slot.unset).toArray = ls at hl ⊢
  have hl : lv_has ls 2 [(0, .ref h0)] := hl
  refine lv_aload_n hx hb dX2_off_0 rfl (lv_at hl 0 rfl) ?_
  refine va_get (D := (dC, dI)) (ci := 3) (v := .int 1) (C := RX2) (T := TX2) (N := 16) hx hb hts hiX2 hown hK hP 0 rfl rfl 10 (by decide) (hts (.fieldLink RX2 47 "LibraryDisk" "on" "Z") (by decide +kernel)) (fun _ h9 => h9) rfl dX2_off_1 ?_
  refine lv_if_ne (tgt := 10) hx hb dX2_off_4 (by decide) (fun c_4 => ?_) (fun c_4 => ?_)
  · skip
    refine lv_aload_n hx hb dX2_off_10 rfl (lv_at hl 0 rfl) ?_
    refine va_get (D := (dC, dI)) (ci := 3) (v := .ref sh) (C := RX2) (T := TX2) (N := 16) hx hb hts hiX2 hown hK hP 0 rfl rfl 5 (by decide) (hts (.fieldLink RX2 39 "LibraryDisk" "shelf" "LLibraryDisk$Rows;") (by decide +kernel)) (fun _ h9 => h9) rfl dX2_off_11 ?_
    refine va_getN (D := (dC, dI)) (ci := 1) (v := .int 0) (C := RX0) (T := TX0) (N := 8) (host := "LibraryDisk") hx hb hts hiX0 hown hK hP 1 rfl rfl 5 (by decide) (nx_use hN 5 rfl rfl) (fun _ h9 => h9) rfl dX2_off_14 ?_
    refine lv_aload_n hx hb dX2_off_17 rfl (lv_at hl 0 rfl) ?_
    refine va_get (D := (dC, dI)) (ci := 3) (v := .ref sh) (C := RX2) (T := TX2) (N := 16) hx hb hts hiX2 hown hK hP 0 rfl rfl 5 (by decide) (hts (.fieldLink RX2 39 "LibraryDisk" "shelf" "LLibraryDisk$Rows;") (by decide +kernel)) (fun _ h9 => h9) rfl dX2_off_18 ?_
    refine va_getN (D := (dC, dI)) (ci := 1) (v := .int 0) (C := RX0) (T := TX0) (N := 8) (host := "LibraryDisk") hx hb hts hiX0 hown hK hP 1 rfl rfl 6 (by decide) (nx_use hN 0 rfl rfl) (fun _ h9 => h9) rfl dX2_off_21 ?_
    refine lv_isub hx hb dX2_off_24 ?_
    refine lv_topi (fun x_1 ex_1 => ?_)
    refine lv_istore_n (lv' := [(1, .int x_1), (0, .ref h0)]) hx hb dX2_off_25 rfl hl (by decide) rfl (fun ls hl => ?_)
    refine lv_aload_n hx hb dX2_off_26 rfl (lv_at hl 1 rfl) ?_
    refine mq_callv (wr := []) (fun (_u : Unit) => []) (va_runV (As := []) (rest := []) ⟨hx, hb, hml, hown, hts⟩ (ct_X2_goOff l dC dI cB cI h0 d1 d2 d3 d4 sh co k1 k2 k3 k4 k5 s.heap.size) (cwV 0 hts gX2_off_X2_goOff rfl rfl rfl (by decide +kernel) ⟨Nat.le_of_ble_eq_true rfl, Nat.le_of_ble_eq_true rfl⟩) ⟨mq_blind, va_recv hK hP (ci := 3) (q0 := 0) rfl rfl, mq_pre hK hN hP hD [0, 1] rfl (by decide)⟩ rfl rfl hl.1 rfl (lv_room (Nat.le_of_ble_eq_true rfl)) dX2_off_27 ⟨Nat.le_of_ble_eq_true rfl, Nat.le_of_ble_eq_true rfl⟩) hP hD hS hA [0, 1] [] [] rfl rfl (by decide) (by decide) (by decide) (fun _ => rfl) (fun _ H locs hw_27 hP hD hS => ?_)
    have hP : va_P (dC, dI) vwCl [] H := hP
    have hD : va_D A [] := hD
    refine lv_iload_n hx hb dX2_off_30 rfl (lv_at hl 0 rfl) ?_
    have hP9 := hP.sub (ws' := []) [] rfl
    have hD9 := hD.sub (ws' := []) [] (by decide) rfl
    exact W.iret (v := x_1) hx hb hr (fun t ht hW => ⟨⟨x_1, (), rfl, by rw [ex_1]; decide, by rw [ht]; exact hP9, va_K.moved hW.alike hK, by rw [hAe]; exact hD9⟩, hS.F ht⟩) hS.2.2 dX2_off_31
  · exact absurd c_4 (by decide)
set_option maxHeartbeats 4000000 in
set_option maxRecDepth 100000 in
/-- start, fresh -/
theorem ct_X2_start (l : Launch) (dC : Nat → ClassId) (dI : Nat → Nat → Nat) (cB cI : ClassId) (h0 d1 d2 d3 d4 sh co : Nat) (sz : Nat) : mq_I l (dC, dI) vwCl [(cB, .byte), (cI, .int)] yX2_start wsX2_start ({ frames := 0, cells := 0, slots := 0, locals := 0 }) [.ref h0] [(h0, .inr (3, [.ref d1, .ref d2, .ref d3, .ref d4, .int 0, .ref sh, .ref co, .int 0, .int 0, .int 0, .int 1, .int 0, .int 0, .int 0, .int 0, .int 0]))] sz (fun (r : Int32) (_u : Unit) => r = -3) (fun (_u : Unit) => []) 0 0 := by
  refine Met.ofW (cc := cX2_start) (maxL := 2) (ret := (some .int)) (by decide) rfl ?_
  intro p e s m args below meth c s₁ B hml hv
  obtain ⟨rfl, hsz, hP, hK, hD0, hN⟩ := hv
  have hx := B.exec
  have hb := B.bytes
  have hr := B.returns
  have hts := atoms_spec (ws := wsX2_start) B.pre
  have hown : s.vm.findClass RX2 = some m.cls := findClass_of_methodNamed B.named
  have hlocks := B.notSynchronized
  have hiX2 : ∀ w ∈ u_ws RX2 TX2 16, w ∈ wsX2_start := by decide +kernel
  subst hsz
  have hD := hD0.self (sz := s.heap.size)
  generalize hAe : va_A [(h0, .inr (3, [.ref d1, .ref d2, .ref d3, .ref d4, .int 0, .ref sh, .ref co, .int 0, .int 0, .int 0, .int 1, .int 0, .int 0, .int 0, .int 0, .int 0]))] s.heap.size = A at hD ⊢
  have hA : ∀ q : Nat, s.heap.size ≤ q → A q := fun q h => by rw [← hAe]; exact Or.inr h
  have hS : va_S A s.heap s.heap [] := va_S.rf
  have hP : va_P (dC, dI) vwCl [(h0, .inr (3, [.ref d1, .ref d2, .ref d3, .ref d4, .int 0, .ref sh, .ref co, .int 0, .int 0, .int 0, .int 1, .int 0, .int 0, .int 0, .int 0, .int 0]))] s.heap := hP
  have hl := lv_entry ([.ref h0]) (n := 2) (Nat.le_of_ble_eq_true rfl)
  rw [lg_entry_eq]
  generalize (lg_sl ([.ref h0]) ++ List.replicate (2 - (lg_sl ([.ref h0])).length) Slot.unset).toArray = ls at hl ⊢
  have hl : lv_has ls 2 [(0, .ref h0)] := hl
  refine lv_aload_n hx hb dX2_start_0 rfl (lv_at hl 0 rfl) ?_
  refine va_get (D := (dC, dI)) (ci := 3) (v := .int 1) (C := RX2) (T := TX2) (N := 16) hx hb hts hiX2 hown hK hP 0 rfl rfl 10 (by decide) (hts (.fieldLink RX2 47 "LibraryDisk" "on" "Z") (by decide +kernel)) (fun _ h9 => h9) rfl dX2_start_1 ?_
  refine lv_if_eq (tgt := 10) hx hb dX2_start_4 (by decide) (fun c_4 => ?_) (fun c_4 => ?_)
  · exact absurd c_4 (by decide)
  · skip
    refine lv_bipush (v := (-3)) hx hb dX2_start_7 (by decide) ?_
    have hP9 := hP.sub (ws' := []) [] rfl
    have hD9 := hD.sub (ws' := []) [] (by decide) rfl
    exact W.iret (v := (-3)) hx hb hr (fun t ht hW => ⟨⟨(-3), (), rfl, rfl, by rw [ht]; exact hP9, va_K.moved hW.alike hK, by rw [hAe]; exact hD9⟩, hS.F ht⟩) hS.2.2 dX2_start_9
set_option maxHeartbeats 4000000 in
set_option maxRecDepth 100000 in
/-- rows, fresh -/
theorem ct_X2_rows (l : Launch) (dC : Nat → ClassId) (dI : Nat → Nat → Nat) (cB cI : ClassId) (h0 d1 d2 d3 d4 sh co : Nat) (k1 k2 k3 k4 k5 : Nat)  (sz : Nat) : mq_I l (dC, dI) vwCl [(cB, .byte), (cI, .int)] yX2_rows wsX2_rows ({ frames := 0, cells := 0, slots := 0, locals := 0 }) [.ref h0] [(h0, .inr (3, [.ref d1, .ref d2, .ref d3, .ref d4, .int 0, .ref sh, .ref co, .int 0, .int 0, .int 0, .int 1, .int 0, .int 0, .int 0, .int 0, .int 0])), (sh, .inr (1, [.ref k1, .ref k2, .ref k3, .ref k4, .ref k5, .int 0, .int 0, .int 0]))] sz (fun (r : Int32) (_u : Unit) => r = 0) (fun (_u : Unit) => []) 0 0 := by
  refine Met.ofW (cc := cX2_rows) (maxL := 1) (ret := (some .int)) (by decide) rfl ?_
  intro p e s m args below meth c s₁ B hml hv
  obtain ⟨rfl, hsz, hP, hK, hD0, hN⟩ := hv
  have hx := B.exec
  have hb := B.bytes
  have hr := B.returns
  have hts := atoms_spec (ws := wsX2_rows) B.pre
  have hown : s.vm.findClass RX2 = some m.cls := findClass_of_methodNamed B.named
  have hlocks := B.notSynchronized
  have hiX0 : ∀ w ∈ u_ws RX0 TX0 8, w ∈ wsX2_rows := by decide +kernel
  have hiX2 : ∀ w ∈ u_ws RX2 TX2 16, w ∈ wsX2_rows := by decide +kernel
  subst hsz
  have hD := hD0.self (sz := s.heap.size)
  generalize hAe : va_A [(h0, .inr (3, [.ref d1, .ref d2, .ref d3, .ref d4, .int 0, .ref sh, .ref co, .int 0, .int 0, .int 0, .int 1, .int 0, .int 0, .int 0, .int 0, .int 0])), (sh, .inr (1, [.ref k1, .ref k2, .ref k3, .ref k4, .ref k5, .int 0, .int 0, .int 0]))] s.heap.size = A at hD ⊢
  have hA : ∀ q : Nat, s.heap.size ≤ q → A q := fun q h => by rw [← hAe]; exact Or.inr h
  have hS : va_S A s.heap s.heap [] := va_S.rf
  have hP : va_P (dC, dI) vwCl [(h0, .inr (3, [.ref d1, .ref d2, .ref d3, .ref d4, .int 0, .ref sh, .ref co, .int 0, .int 0, .int 0, .int 1, .int 0, .int 0, .int 0, .int 0, .int 0])), (sh, .inr (1, [.ref k1, .ref k2, .ref k3, .ref k4, .ref k5, .int 0, .int 0, .int 0]))] s.heap := hP
  have hl := lv_entry ([.ref h0]) (n := 1) (Nat.le_of_ble_eq_true rfl)
  rw [lg_entry_eq]
  generalize (lg_sl ([.ref h0]) ++ List.replicate (1 - (lg_sl ([.ref h0])).length) Slot.unset).toArray = ls at hl ⊢
  have hl : lv_has ls 1 [(0, .ref h0)] := hl
  refine lv_aload_n hx hb dX2_rows_0 rfl (lv_at hl 0 rfl) ?_
  refine va_get (D := (dC, dI)) (ci := 3) (v := .ref sh) (C := RX2) (T := TX2) (N := 16) hx hb hts hiX2 hown hK hP 0 rfl rfl 5 (by decide) (hts (.fieldLink RX2 39 "LibraryDisk" "shelf" "LLibraryDisk$Rows;") (by decide +kernel)) (fun _ h9 => h9) rfl dX2_rows_1 ?_
  refine va_getN (D := (dC, dI)) (ci := 1) (v := .int 0) (C := RX0) (T := TX0) (N := 8) (host := "LibraryDisk") hx hb hts hiX0 hown hK hP 1 rfl rfl 5 (by decide) (nx_use hN 5 rfl rfl) (fun _ h9 => h9) rfl dX2_rows_4 ?_
  have hP9 := hP.sub (ws' := []) [] rfl
  have hD9 := hD.sub (ws' := []) [] (by decide) rfl
  exact W.iret (v := 0) hx hb hr (fun t ht hW => ⟨⟨0, (), rfl, rfl, by rw [ht]; exact hP9, va_K.moved hW.alike hK, by rw [hAe]; exact hD9⟩, hS.F ht⟩) hS.2.2 dX2_rows_7
set_option maxHeartbeats 4000000 in
set_option maxRecDepth 100000 in
/-- row, fresh -/
theorem ct_X2_row (l : Launch) (dC : Nat → ClassId) (dI : Nat → Nat → Nat) (cB cI : ClassId) (h0 d1 d2 d3 d4 sh co : Nat) (k1 k2 k3 k4 k5 : Nat) (x y : Int32) (sz : Nat) : mq_I l (dC, dI) vwCl [(cB, .byte), (cI, .int)] yX2_row wsX2_row ({ frames := 1, cells := 0, slots := 0, locals := 21 }) [.ref h0, .int x, .int y] [(h0, .inr (3, [.ref d1, .ref d2, .ref d3, .ref d4, .int 0, .ref sh, .ref co, .int 0, .int 0, .int 0, .int 1, .int 0, .int 0, .int 0, .int 0, .int 0])), (sh, .inr (1, [.ref k1, .ref k2, .ref k3, .ref k4, .ref k5, .int 0, .int 0, .int 0]))] sz (fun (r : Int32) (_u : Unit) => r = -1) (fun (_u : Unit) => []) 0 0 := by
  refine Met.ofW (cc := cX2_row) (maxL := 3) (ret := (some .int)) (by decide) rfl ?_
  intro p e s m args below meth c s₁ B hml hv
  obtain ⟨rfl, hsz, hP, hK, hD0, hN⟩ := hv
  have hx := B.exec
  have hb := B.bytes
  have hr := B.returns
  have hts := atoms_spec (ws := wsX2_row) B.pre
  have hown : s.vm.findClass RX2 = some m.cls := findClass_of_methodNamed B.named
  have hlocks := B.notSynchronized
  have hiX2 : ∀ w ∈ u_ws RX2 TX2 16, w ∈ wsX2_row := by decide +kernel
  subst hsz
  have hD := hD0.self (sz := s.heap.size)
  generalize hAe : va_A [(h0, .inr (3, [.ref d1, .ref d2, .ref d3, .ref d4, .int 0, .ref sh, .ref co, .int 0, .int 0, .int 0, .int 1, .int 0, .int 0, .int 0, .int 0, .int 0])), (sh, .inr (1, [.ref k1, .ref k2, .ref k3, .ref k4, .ref k5, .int 0, .int 0, .int 0]))] s.heap.size = A at hD ⊢
  have hA : ∀ q : Nat, s.heap.size ≤ q → A q := fun q h => by rw [← hAe]; exact Or.inr h
  have hS : va_S A s.heap s.heap [] := va_S.rf
  have hP : va_P (dC, dI) vwCl [(h0, .inr (3, [.ref d1, .ref d2, .ref d3, .ref d4, .int 0, .ref sh, .ref co, .int 0, .int 0, .int 0, .int 1, .int 0, .int 0, .int 0, .int 0, .int 0])), (sh, .inr (1, [.ref k1, .ref k2, .ref k3, .ref k4, .ref k5, .int 0, .int 0, .int 0]))] s.heap := hP
  have hl := lv_entry ([.ref h0, .int x, .int y]) (n := 3) (Nat.le_of_ble_eq_true rfl)
  rw [lg_entry_eq]
  generalize (lg_sl ([.ref h0, .int x, .int y]) ++ List.replicate (3 - (lg_sl ([.ref h0, .int x, .int y])).length) Slot.unset).toArray = ls at hl ⊢
  have hl : lv_has ls 3 [(0, .ref h0), (1, .int x), (2, .int y)] := hl
  refine lv_aload_n hx hb dX2_row_0 rfl (lv_at hl 0 rfl) ?_
  refine va_get (D := (dC, dI)) (ci := 3) (v := .ref sh) (C := RX2) (T := TX2) (N := 16) hx hb hts hiX2 hown hK hP 0 rfl rfl 5 (by decide) (hts (.fieldLink RX2 39 "LibraryDisk" "shelf" "LLibraryDisk$Rows;") (by decide +kernel)) (fun _ h9 => h9) rfl dX2_row_1 ?_
  refine lv_iload_n hx hb dX2_row_4 rfl (lv_at hl 1 rfl) ?_
  refine mq_calli (wr := [(h0, .inr (3, [.ref d1, .ref d2, .ref d3, .ref d4, .int 0, .ref sh, .ref co, .int 0, .int 0, .int 0, .int 1, .int 0, .int 0, .int 0, .int 0, .int 0]))]) (fun (_u : Unit) => [(h0, .inr (3, [.ref d1, .ref d2, .ref d3, .ref d4, .int 0, .ref sh, .ref co, .int 0, .int 0, .int 0, .int 1, .int 0, .int 0, .int 0, .int 0, .int 0])), (sh, .inr (1, [.ref k1, .ref k2, .ref k3, .ref k4, .ref k5, .int 0, .int 0, .int 0]))]) (va_runV (As := [.int x]) (rest := []) ⟨hx, hb, hml, hown, hts⟩ (ct_X0_holds_0 l dC dI cB cI sh k1 k2 k3 k4 k5 0 0 x s.heap.size) (cwV 1 hts gX2_row_X0_holds rfl rfl rfl (by decide +kernel) ⟨Nat.le_of_ble_eq_true rfl, Nat.le_of_ble_eq_true rfl⟩) ⟨mq_blind, va_recv hK hP (ci := 1) (q0 := 1) rfl rfl, mq_pre hK hN hP hD [1] rfl (by decide)⟩ rfl rfl hl.1 rfl (lv_room (Nat.le_of_ble_eq_true rfl)) dX2_row_5 ⟨Nat.le_of_ble_eq_true rfl, Nat.le_of_ble_eq_true rfl⟩) hP hD hS hA [1] [0] [0, 1] rfl rfl (by decide) (by decide) (by decide) (fun _ => rfl) (fun r_1 _ H locs hw_5 hP hD hS => ?_)
  have hP : va_P (dC, dI) vwCl [(h0, .inr (3, [.ref d1, .ref d2, .ref d3, .ref d4, .int 0, .ref sh, .ref co, .int 0, .int 0, .int 0, .int 1, .int 0, .int 0, .int 0, .int 0, .int 0])), (sh, .inr (1, [.ref k1, .ref k2, .ref k3, .ref k4, .ref k5, .int 0, .int 0, .int 0]))] H := hP
  have hD : va_D A [(h0, .inr (3, [.ref d1, .ref d2, .ref d3, .ref d4, .int 0, .ref sh, .ref co, .int 0, .int 0, .int 0, .int 1, .int 0, .int 0, .int 0, .int 0, .int 0])), (sh, .inr (1, [.ref k1, .ref k2, .ref k3, .ref k4, .ref k5, .int 0, .int 0, .int 0]))] := hD
  refine lv_if_ne (tgt := 13) hx hb dX2_row_8 (by decide) (fun c_8 => ?_) (fun c_8 => ?_)
  · exact absurd hw_5 c_8
  · skip
    refine lv_iconst (v := (-1)) hx hb dX2_row_11 (by decide) ?_
    have hP9 := hP.sub (ws' := []) [] rfl
    have hD9 := hD.sub (ws' := []) [] (by decide) rfl
    exact W.iret (v := (-1)) hx hb hr (fun t ht hW => ⟨⟨(-1), (), rfl, rfl, by rw [ht]; exact hP9, va_K.moved hW.alike hK, by rw [hAe]; exact hD9⟩, hS.F ht⟩) hS.2.2 dX2_row_12
set_option maxHeartbeats 4000000 in
set_option maxRecDepth 100000 in
/-- at, fresh -/
theorem ct_X2_at (l : Launch) (dC : Nat → ClassId) (dI : Nat → Nat → Nat) (cB cI : ClassId) (h0 d1 d2 d3 d4 sh co : Nat) (k1 k2 k3 k4 k5 : Nat) (x y : Int32) (sz : Nat) : mq_I l (dC, dI) vwCl [(cB, .byte), (cI, .int)] yX2_at wsX2_at ({ frames := 1, cells := 0, slots := 0, locals := 21 }) [.ref h0, .int x, .int y] [(h0, .inr (3, [.ref d1, .ref d2, .ref d3, .ref d4, .int 0, .ref sh, .ref co, .int 0, .int 0, .int 0, .int 1, .int 0, .int 0, .int 0, .int 0, .int 0])), (sh, .inr (1, [.ref k1, .ref k2, .ref k3, .ref k4, .ref k5, .int 0, .int 0, .int 0]))] sz (fun (r : Int32) (_u : Unit) => r = -1) (fun (_u : Unit) => []) 0 0 := by
  refine Met.ofW (cc := cX2_at) (maxL := 3) (ret := (some .int)) (by decide) rfl ?_
  intro p e s m args below meth c s₁ B hml hv
  obtain ⟨rfl, hsz, hP, hK, hD0, hN⟩ := hv
  have hx := B.exec
  have hb := B.bytes
  have hr := B.returns
  have hts := atoms_spec (ws := wsX2_at) B.pre
  have hown : s.vm.findClass RX2 = some m.cls := findClass_of_methodNamed B.named
  have hlocks := B.notSynchronized
  have hiX2 : ∀ w ∈ u_ws RX2 TX2 16, w ∈ wsX2_at := by decide +kernel
  subst hsz
  have hD := hD0.self (sz := s.heap.size)
  generalize hAe : va_A [(h0, .inr (3, [.ref d1, .ref d2, .ref d3, .ref d4, .int 0, .ref sh, .ref co, .int 0, .int 0, .int 0, .int 1, .int 0, .int 0, .int 0, .int 0, .int 0])), (sh, .inr (1, [.ref k1, .ref k2, .ref k3, .ref k4, .ref k5, .int 0, .int 0, .int 0]))] s.heap.size = A at hD ⊢
  have hA : ∀ q : Nat, s.heap.size ≤ q → A q := fun q h => by rw [← hAe]; exact Or.inr h
  have hS : va_S A s.heap s.heap [] := va_S.rf
  have hP : va_P (dC, dI) vwCl [(h0, .inr (3, [.ref d1, .ref d2, .ref d3, .ref d4, .int 0, .ref sh, .ref co, .int 0, .int 0, .int 0, .int 1, .int 0, .int 0, .int 0, .int 0, .int 0])), (sh, .inr (1, [.ref k1, .ref k2, .ref k3, .ref k4, .ref k5, .int 0, .int 0, .int 0]))] s.heap := hP
  have hl := lv_entry ([.ref h0, .int x, .int y]) (n := 3) (Nat.le_of_ble_eq_true rfl)
  rw [lg_entry_eq]
  generalize (lg_sl ([.ref h0, .int x, .int y]) ++ List.replicate (3 - (lg_sl ([.ref h0, .int x, .int y])).length) Slot.unset).toArray = ls at hl ⊢
  have hl : lv_has ls 3 [(0, .ref h0), (1, .int x), (2, .int y)] := hl
  refine lv_aload_n hx hb dX2_at_0 rfl (lv_at hl 0 rfl) ?_
  refine va_get (D := (dC, dI)) (ci := 3) (v := .ref sh) (C := RX2) (T := TX2) (N := 16) hx hb hts hiX2 hown hK hP 0 rfl rfl 5 (by decide) (hts (.fieldLink RX2 39 "LibraryDisk" "shelf" "LLibraryDisk$Rows;") (by decide +kernel)) (fun _ h9 => h9) rfl dX2_at_1 ?_
  refine lv_iload_n hx hb dX2_at_4 rfl (lv_at hl 1 rfl) ?_
  refine mq_calli (wr := [(h0, .inr (3, [.ref d1, .ref d2, .ref d3, .ref d4, .int 0, .ref sh, .ref co, .int 0, .int 0, .int 0, .int 1, .int 0, .int 0, .int 0, .int 0, .int 0]))]) (fun (_u : Unit) => [(h0, .inr (3, [.ref d1, .ref d2, .ref d3, .ref d4, .int 0, .ref sh, .ref co, .int 0, .int 0, .int 0, .int 1, .int 0, .int 0, .int 0, .int 0, .int 0])), (sh, .inr (1, [.ref k1, .ref k2, .ref k3, .ref k4, .ref k5, .int 0, .int 0, .int 0]))]) (va_runV (As := [.int x]) (rest := []) ⟨hx, hb, hml, hown, hts⟩ (ct_X0_holds_0 l dC dI cB cI sh k1 k2 k3 k4 k5 0 0 x s.heap.size) (cwV 1 hts gX2_at_X0_holds rfl rfl rfl (by decide +kernel) ⟨Nat.le_of_ble_eq_true rfl, Nat.le_of_ble_eq_true rfl⟩) ⟨mq_blind, va_recv hK hP (ci := 1) (q0 := 1) rfl rfl, mq_pre hK hN hP hD [1] rfl (by decide)⟩ rfl rfl hl.1 rfl (lv_room (Nat.le_of_ble_eq_true rfl)) dX2_at_5 ⟨Nat.le_of_ble_eq_true rfl, Nat.le_of_ble_eq_true rfl⟩) hP hD hS hA [1] [0] [0, 1] rfl rfl (by decide) (by decide) (by decide) (fun _ => rfl) (fun r_1 _ H locs hw_5 hP hD hS => ?_)
  have hP : va_P (dC, dI) vwCl [(h0, .inr (3, [.ref d1, .ref d2, .ref d3, .ref d4, .int 0, .ref sh, .ref co, .int 0, .int 0, .int 0, .int 1, .int 0, .int 0, .int 0, .int 0, .int 0])), (sh, .inr (1, [.ref k1, .ref k2, .ref k3, .ref k4, .ref k5, .int 0, .int 0, .int 0]))] H := hP
  have hD : va_D A [(h0, .inr (3, [.ref d1, .ref d2, .ref d3, .ref d4, .int 0, .ref sh, .ref co, .int 0, .int 0, .int 0, .int 1, .int 0, .int 0, .int 0, .int 0, .int 0])), (sh, .inr (1, [.ref k1, .ref k2, .ref k3, .ref k4, .ref k5, .int 0, .int 0, .int 0]))] := hD
  refine lv_if_ne (tgt := 13) hx hb dX2_at_8 (by decide) (fun c_8 => ?_) (fun c_8 => ?_)
  · exact absurd hw_5 c_8
  · skip
    refine lv_iconst (v := (-1)) hx hb dX2_at_11 (by decide) ?_
    have hP9 := hP.sub (ws' := []) [] rfl
    have hD9 := hD.sub (ws' := []) [] (by decide) rfl
    exact W.iret (v := (-1)) hx hb hr (fun t ht hW => ⟨⟨(-1), (), rfl, rfl, by rw [ht]; exact hP9, va_K.moved hW.alike hK, by rw [hAe]; exact hD9⟩, hS.F ht⟩) hS.2.2 dX2_at_12
set_option maxHeartbeats 4000000 in
set_option maxRecDepth 100000 in
/-- peek, fresh -/
theorem ct_X2_peek (l : Launch) (dC : Nat → ClassId) (dI : Nat → Nat → Nat) (cB cI : ClassId) (h0 d1 d2 d3 d4 sh co : Nat) (e1 : Nat) (n : Nat) (hn : 3 ≤ n ∧ n ≤ 40) (x y : Int32) (sz : Nat) : mq_I l (dC, dI) vwCl [(cB, .byte), (cI, .int)] yX2_peek wsX2_peek ({ frames := 2, cells := 0, slots := 0, locals := 44 }) [.ref h0, .int x, .int y] [(h0, .inr (3, [.ref d1, .ref d2, .ref d3, .ref d4, .int 0, .ref sh, .ref co, .int 0, .int 0, .int 0, .int 1, .int 0, .int 0, .int 0, .int 0, .int 0])), (d1, .inr (2, [.int (nI n), .ref e1])), (e1, .inl (cB, (n * 64), .inl (fun _ => 0)))] sz (fun (r : Int32) (_u : Unit) => (in_S n x y → r = 0) ∧ (¬ in_S n x y → r = -1)) (fun (_u : Unit) => []) 0 0 := by
  refine Met.ofW (cc := cX2_peek) (maxL := 3) (ret := (some .int)) (by decide) rfl ?_
  intro p e s m args below meth c s₁ B hml hv
  obtain ⟨rfl, hsz, hP, hK, hD0, hN⟩ := hv
  have hx := B.exec
  have hb := B.bytes
  have hr := B.returns
  have hts := atoms_spec (ws := wsX2_peek) B.pre
  have hown : s.vm.findClass RX2 = some m.cls := findClass_of_methodNamed B.named
  have hlocks := B.notSynchronized
  have hiX2 : ∀ w ∈ u_ws RX2 TX2 16, w ∈ wsX2_peek := by decide +kernel
  subst hsz
  have hD := hD0.self (sz := s.heap.size)
  generalize hAe : va_A [(h0, .inr (3, [.ref d1, .ref d2, .ref d3, .ref d4, .int 0, .ref sh, .ref co, .int 0, .int 0, .int 0, .int 1, .int 0, .int 0, .int 0, .int 0, .int 0])), (d1, .inr (2, [.int (nI n), .ref e1])), (e1, .inl (cB, (n * 64), .inl (fun _ => 0)))] s.heap.size = A at hD ⊢
  have hA : ∀ q : Nat, s.heap.size ≤ q → A q := fun q h => by rw [← hAe]; exact Or.inr h
  have hS : va_S A s.heap s.heap [] := va_S.rf
  have hP : va_P (dC, dI) vwCl [(h0, .inr (3, [.ref d1, .ref d2, .ref d3, .ref d4, .int 0, .ref sh, .ref co, .int 0, .int 0, .int 0, .int 1, .int 0, .int 0, .int 0, .int 0, .int 0])), (d1, .inr (2, [.int (nI n), .ref e1])), (e1, .inl (cB, (n * 64), .inl (fun _ => 0)))] s.heap := hP
  have hl := lv_entry ([.ref h0, .int x, .int y]) (n := 3) (Nat.le_of_ble_eq_true rfl)
  rw [lg_entry_eq]
  generalize (lg_sl ([.ref h0, .int x, .int y]) ++ List.replicate (3 - (lg_sl ([.ref h0, .int x, .int y])).length) Slot.unset).toArray = ls at hl ⊢
  have hl : lv_has ls 3 [(0, .ref h0), (1, .int x), (2, .int y)] := hl
  refine lv_aload_n hx hb dX2_peek_0 rfl (lv_at hl 0 rfl) ?_
  refine va_get (D := (dC, dI)) (ci := 3) (v := .ref d1) (C := RX2) (T := TX2) (N := 16) hx hb hts hiX2 hown hK hP 0 rfl rfl 0 (by decide) (hts (.fieldLink RX2 23 "LibraryDisk" "disk" "LLibraryDisk$Sectors;") (by decide +kernel)) (fun _ h9 => h9) rfl dX2_peek_1 ?_
  refine lv_iload_n hx hb dX2_peek_4 rfl (lv_at hl 1 rfl) ?_
  refine lv_iload_n hx hb dX2_peek_5 rfl (lv_at hl 2 rfl) ?_
  refine mq_calli (wr := [(h0, .inr (3, [.ref d1, .ref d2, .ref d3, .ref d4, .int 0, .ref sh, .ref co, .int 0, .int 0, .int 0, .int 1, .int 0, .int 0, .int 0, .int 0, .int 0]))]) (fun (_u : Unit) => [(h0, .inr (3, [.ref d1, .ref d2, .ref d3, .ref d4, .int 0, .ref sh, .ref co, .int 0, .int 0, .int 0, .int 1, .int 0, .int 0, .int 0, .int 0, .int 0])), (d1, .inr (2, [.int (nI n), .ref e1])), (e1, .inl (cB, (n * 64), .inl (fun _ => 0)))]) (va_runV (As := [.int x, .int y]) (rest := []) ⟨hx, hb, hml, hown, hts⟩ (ct_X1_byteAt l dC dI cB cI d1 e1 n hn.2 (fun _ => 0) x y s.heap.size) (cwV 2 hts gX2_peek_X1_byteAt rfl rfl rfl (by decide +kernel) ⟨Nat.le_of_ble_eq_true rfl, Nat.le_of_ble_eq_true rfl⟩) ⟨mq_blind, va_recv hK hP (ci := 2) (q0 := 1) rfl rfl, mq_pre hK hN hP hD [1, 2] rfl (by decide)⟩ rfl rfl hl.1 rfl (lv_room (Nat.le_of_ble_eq_true rfl)) dX2_peek_6 ⟨Nat.le_of_ble_eq_true rfl, Nat.le_of_ble_eq_true rfl⟩) hP hD hS hA [1, 2] [0] [0, 1, 2] rfl rfl (by decide) (by decide) (by decide) (fun _ => rfl) (fun r_1 _ H locs hw_6 hP hD hS => ?_)
  have hP : va_P (dC, dI) vwCl [(h0, .inr (3, [.ref d1, .ref d2, .ref d3, .ref d4, .int 0, .ref sh, .ref co, .int 0, .int 0, .int 0, .int 1, .int 0, .int 0, .int 0, .int 0, .int 0])), (d1, .inr (2, [.int (nI n), .ref e1])), (e1, .inl (cB, (n * 64), .inl (fun _ => 0)))] H := hP
  have hD : va_D A [(h0, .inr (3, [.ref d1, .ref d2, .ref d3, .ref d4, .int 0, .ref sh, .ref co, .int 0, .int 0, .int 0, .int 1, .int 0, .int 0, .int 0, .int 0, .int 0])), (d1, .inr (2, [.int (nI n), .ref e1])), (e1, .inl (cB, (n * 64), .inl (fun _ => 0)))] := hD
  have hP9 := hP.sub (ws' := []) [] rfl
  have hD9 := hD.sub (ws' := []) [] (by decide) rfl
  exact W.iret (v := r_1) hx hb hr (fun t ht hW => ⟨⟨r_1, (), rfl, ⟨fun h => z_byte (fun _ => rfl) h hw_6, fun h => (hw_6.resolve_left (fun q => by obtain ⟨a, b, h1, h2, h3, h4, -⟩ := q; exact h ⟨a, b, h1, h2, h3, h4⟩)).2⟩, by rw [ht]; exact hP9, va_K.moved hW.alike hK, by rw [hAe]; exact hD9⟩, hS.F ht⟩) hS.2.2 dX2_peek_9
set_option maxHeartbeats 4000000 in
set_option maxRecDepth 100000 in
/-- poke, fresh -/
theorem ct_X2_poke (l : Launch) (dC : Nat → ClassId) (dI : Nat → Nat → Nat) (cB cI : ClassId) (h0 d1 d2 d3 d4 sh co : Nat) (e1 : Nat) (n : Nat) (hn : 3 ≤ n ∧ n ≤ 40) (x y v : Int32) (sz : Nat) : mq_I l (dC, dI) vwCl [(cB, .byte), (cI, .int)] yX2_poke wsX2_poke ({ frames := 2, cells := 0, slots := 0, locals := 45 }) [.ref h0, .int x, .int y, .int v] [(h0, .inr (3, [.ref d1, .ref d2, .ref d3, .ref d4, .int 0, .ref sh, .ref co, .int 0, .int 0, .int 0, .int 1, .int 0, .int 0, .int 0, .int 0, .int 0])), (d1, .inr (2, [.int (nI n), .ref e1])), (e1, .inl (cB, (n * 64), .inl (fun _ => 0)))] sz (fun (r : Int32) (_u : Unit) => (in_S n x y → r = v.toInt8.toInt32 &&& 255) ∧ (¬ in_S n x y → r = -1)) (fun (_u : Unit) => []) 0 0 := by
  refine Met.ofW (cc := cX2_poke) (maxL := 4) (ret := (some .int)) (by decide) rfl ?_
  intro p e s m args below meth c s₁ B hml hv
  obtain ⟨rfl, hsz, hP, hK, hD0, hN⟩ := hv
  have hx := B.exec
  have hb := B.bytes
  have hr := B.returns
  have hts := atoms_spec (ws := wsX2_poke) B.pre
  have hown : s.vm.findClass RX2 = some m.cls := findClass_of_methodNamed B.named
  have hlocks := B.notSynchronized
  have hiX2 : ∀ w ∈ u_ws RX2 TX2 16, w ∈ wsX2_poke := by decide +kernel
  subst hsz
  have hD := hD0.self (sz := s.heap.size)
  generalize hAe : va_A [(h0, .inr (3, [.ref d1, .ref d2, .ref d3, .ref d4, .int 0, .ref sh, .ref co, .int 0, .int 0, .int 0, .int 1, .int 0, .int 0, .int 0, .int 0, .int 0])), (d1, .inr (2, [.int (nI n), .ref e1])), (e1, .inl (cB, (n * 64), .inl (fun _ => 0)))] s.heap.size = A at hD ⊢
  have hA : ∀ q : Nat, s.heap.size ≤ q → A q := fun q h => by rw [← hAe]; exact Or.inr h
  have hS : va_S A s.heap s.heap [] := va_S.rf
  have hP : va_P (dC, dI) vwCl [(h0, .inr (3, [.ref d1, .ref d2, .ref d3, .ref d4, .int 0, .ref sh, .ref co, .int 0, .int 0, .int 0, .int 1, .int 0, .int 0, .int 0, .int 0, .int 0])), (d1, .inr (2, [.int (nI n), .ref e1])), (e1, .inl (cB, (n * 64), .inl (fun _ => 0)))] s.heap := hP
  have hl := lv_entry ([.ref h0, .int x, .int y, .int v]) (n := 4) (Nat.le_of_ble_eq_true rfl)
  rw [lg_entry_eq]
  generalize (lg_sl ([.ref h0, .int x, .int y, .int v]) ++ List.replicate (4 - (lg_sl ([.ref h0, .int x, .int y, .int v])).length) Slot.unset).toArray = ls at hl ⊢
  have hl : lv_has ls 4 [(0, .ref h0), (1, .int x), (2, .int y), (3, .int v)] := hl
  refine lv_aload_n hx hb dX2_poke_0 rfl (lv_at hl 0 rfl) ?_
  refine va_get (D := (dC, dI)) (ci := 3) (v := .ref d1) (C := RX2) (T := TX2) (N := 16) hx hb hts hiX2 hown hK hP 0 rfl rfl 0 (by decide) (hts (.fieldLink RX2 23 "LibraryDisk" "disk" "LLibraryDisk$Sectors;") (by decide +kernel)) (fun _ h9 => h9) rfl dX2_poke_1 ?_
  refine lv_iload_n hx hb dX2_poke_4 rfl (lv_at hl 1 rfl) ?_
  refine lv_iload_n hx hb dX2_poke_5 rfl (lv_at hl 2 rfl) ?_
  refine mq_calli (wr := [(h0, .inr (3, [.ref d1, .ref d2, .ref d3, .ref d4, .int 0, .ref sh, .ref co, .int 0, .int 0, .int 0, .int 1, .int 0, .int 0, .int 0, .int 0, .int 0]))]) (fun (_u : Unit) => [(h0, .inr (3, [.ref d1, .ref d2, .ref d3, .ref d4, .int 0, .ref sh, .ref co, .int 0, .int 0, .int 0, .int 1, .int 0, .int 0, .int 0, .int 0, .int 0])), (d1, .inr (2, [.int (nI n), .ref e1])), (e1, .inl (cB, (n * 64), .inl (fun _ => 0)))]) (va_runV (As := [.int x, .int y]) (rest := []) ⟨hx, hb, hml, hown, hts⟩ (ct_X1_holds l dC dI cB cI d1 e1 n hn.2 (fun _ => 0) x y s.heap.size) (cwV 2 hts gX2_poke_X1_holds rfl rfl rfl (by decide +kernel) ⟨Nat.le_of_ble_eq_true rfl, Nat.le_of_ble_eq_true rfl⟩) ⟨mq_blind, va_recv hK hP (ci := 2) (q0 := 1) rfl rfl, mq_pre hK hN hP hD [1, 2] rfl (by decide)⟩ rfl rfl hl.1 rfl (lv_room (Nat.le_of_ble_eq_true rfl)) dX2_poke_6 ⟨Nat.le_of_ble_eq_true rfl, Nat.le_of_ble_eq_true rfl⟩) hP hD hS hA [1, 2] [0] [0, 1, 2] rfl rfl (by decide) (by decide) (by decide) (fun _ => rfl) (fun r_1 _ H locs hw_6 hP hD hS => ?_)
  have hP : va_P (dC, dI) vwCl [(h0, .inr (3, [.ref d1, .ref d2, .ref d3, .ref d4, .int 0, .ref sh, .ref co, .int 0, .int 0, .int 0, .int 1, .int 0, .int 0, .int 0, .int 0, .int 0])), (d1, .inr (2, [.int (nI n), .ref e1])), (e1, .inl (cB, (n * 64), .inl (fun _ => 0)))] H := hP
  have hD : va_D A [(h0, .inr (3, [.ref d1, .ref d2, .ref d3, .ref d4, .int 0, .ref sh, .ref co, .int 0, .int 0, .int 0, .int 1, .int 0, .int 0, .int 0, .int 0, .int 0])), (d1, .inr (2, [.int (nI n), .ref e1])), (e1, .inl (cB, (n * 64), .inl (fun _ => 0)))] := hD
  refine lv_if_ne (tgt := 14) hx hb dX2_poke_9 (by decide) (fun c_9 => ?_) (fun c_9 => ?_)
  · skip
    refine lv_aload_n hx hb dX2_poke_14 rfl (lv_at hl 0 rfl) ?_
    refine va_get (D := (dC, dI)) (ci := 3) (v := .ref d1) (C := RX2) (T := TX2) (N := 16) hx hb hts hiX2 hown hK hP 0 rfl rfl 0 (by decide) (hts (.fieldLink RX2 23 "LibraryDisk" "disk" "LLibraryDisk$Sectors;") (by decide +kernel)) (fun _ h9 => h9) rfl dX2_poke_15 ?_
    refine lv_iload_n hx hb dX2_poke_18 rfl (lv_at hl 1 rfl) ?_
    refine lv_iload_n hx hb dX2_poke_19 rfl (lv_at hl 2 rfl) ?_
    refine lv_aload_n hx hb dX2_poke_20 rfl (lv_at hl 0 rfl) ?_
    refine va_get (D := (dC, dI)) (ci := 3) (v := .ref d1) (C := RX2) (T := TX2) (N := 16) hx hb hts hiX2 hown hK hP 0 rfl rfl 0 (by decide) (hts (.fieldLink RX2 23 "LibraryDisk" "disk" "LLibraryDisk$Sectors;") (by decide +kernel)) (fun _ h9 => h9) rfl dX2_poke_21 ?_
    refine lv_iload_n hx hb dX2_poke_24 rfl (lv_at hl 1 rfl) ?_
    refine lv_iload_n hx hb dX2_poke_25 rfl (lv_at hl 2 rfl) ?_
    refine mq_calli (wr := [(h0, .inr (3, [.ref d1, .ref d2, .ref d3, .ref d4, .int 0, .ref sh, .ref co, .int 0, .int 0, .int 0, .int 1, .int 0, .int 0, .int 0, .int 0, .int 0]))]) (fun (_u : Unit) => [(h0, .inr (3, [.ref d1, .ref d2, .ref d3, .ref d4, .int 0, .ref sh, .ref co, .int 0, .int 0, .int 0, .int 1, .int 0, .int 0, .int 0, .int 0, .int 0])), (d1, .inr (2, [.int (nI n), .ref e1])), (e1, .inl (cB, (n * 64), .inl (fun _ => 0)))]) (va_runV (As := [.int x, .int y]) (rest := [.int y, .int x, .ref d1]) ⟨hx, hb, hml, hown, hts⟩ (ct_X1_byteAt l dC dI cB cI d1 e1 n hn.2 (fun _ => 0) x y H.size) (cwV 2 hts gX2_poke_X1_byteAt rfl rfl rfl (by decide +kernel) ⟨Nat.le_of_ble_eq_true rfl, Nat.le_of_ble_eq_true rfl⟩) ⟨mq_blind, va_recv hK hP (ci := 2) (q0 := 1) rfl rfl, mq_pre hK hN hP hD [1, 2] rfl (by decide)⟩ rfl rfl hl.1 rfl (lv_room (Nat.le_of_ble_eq_true rfl)) dX2_poke_26 ⟨Nat.le_of_ble_eq_true rfl, Nat.le_of_ble_eq_true rfl⟩) hP hD hS hA [1, 2] [0] [0, 1, 2] rfl rfl (by decide) (by decide) (by decide) (fun _ => rfl) (fun r_2 _ H locs hw_26 hP hD hS => ?_)
    have hP : va_P (dC, dI) vwCl [(h0, .inr (3, [.ref d1, .ref d2, .ref d3, .ref d4, .int 0, .ref sh, .ref co, .int 0, .int 0, .int 0, .int 1, .int 0, .int 0, .int 0, .int 0, .int 0])), (d1, .inr (2, [.int (nI n), .ref e1])), (e1, .inl (cB, (n * 64), .inl (fun _ => 0)))] H := hP
    have hD : va_D A [(h0, .inr (3, [.ref d1, .ref d2, .ref d3, .ref d4, .int 0, .ref sh, .ref co, .int 0, .int 0, .int 0, .int 1, .int 0, .int 0, .int 0, .int 0, .int 0])), (d1, .inr (2, [.int (nI n), .ref e1])), (e1, .inl (cB, (n * 64), .inl (fun _ => 0)))] := hD
    refine lv_iload_n hx hb dX2_poke_29 rfl (lv_at hl 3 rfl) ?_
    refine lv_ixor hx hb dX2_poke_30 ?_
    refine mq_callv (wr := [(h0, .inr (3, [.ref d1, .ref d2, .ref d3, .ref d4, .int 0, .ref sh, .ref co, .int 0, .int 0, .int 0, .int 1, .int 0, .int 0, .int 0, .int 0, .int 0]))]) (fun (uu_3 : (Nat → Int32)) => [(h0, .inr (3, [.ref d1, .ref d2, .ref d3, .ref d4, .int 0, .ref sh, .ref co, .int 0, .int 0, .int 0, .int 1, .int 0, .int 0, .int 0, .int 0, .int 0])), (d1, .inr (2, [.int (nI n), .ref e1])), (e1, .inl (cB, (n * 64), .inl uu_3))]) (va_runV (As := [.int x, .int y, .int (r_2 ^^^ v)]) (rest := []) ⟨hx, hb, hml, hown, hts⟩ (ct_X1_put l dC dI cB cI d1 e1 n hn.2 (fun _ => 0) x y (r_2 ^^^ v) H.size) (cwV 3 hts gX2_poke_X1_put rfl rfl rfl (by decide +kernel) ⟨Nat.le_of_ble_eq_true rfl, Nat.le_of_ble_eq_true rfl⟩) ⟨mq_blind, va_recv hK hP (ci := 2) (q0 := 1) rfl rfl, mq_pre hK hN hP hD [1, 2] rfl (by decide)⟩ rfl rfl hl.1 rfl (lv_room (Nat.le_of_ble_eq_true rfl)) dX2_poke_31 ⟨Nat.le_of_ble_eq_true rfl, Nat.le_of_ble_eq_true rfl⟩) hP hD hS hA [1, 2] [0] [0, 1, 2] rfl rfl (by decide) (by decide) (by decide) (fun _ => rfl) (fun u_5 H locs hw_31 hP hD hS => ?_)
    have hP : va_P (dC, dI) vwCl [(h0, .inr (3, [.ref d1, .ref d2, .ref d3, .ref d4, .int 0, .ref sh, .ref co, .int 0, .int 0, .int 0, .int 1, .int 0, .int 0, .int 0, .int 0, .int 0])), (d1, .inr (2, [.int (nI n), .ref e1])), (e1, .inl (cB, (n * 64), .inl u_5))] H := hP
    have hD : va_D A [(h0, .inr (3, [.ref d1, .ref d2, .ref d3, .ref d4, .int 0, .ref sh, .ref co, .int 0, .int 0, .int 0, .int 1, .int 0, .int 0, .int 0, .int 0, .int 0])), (d1, .inr (2, [.int (nI n), .ref e1])), (e1, .inl (cB, (n * 64), .inl u_5))] := hD
    refine lv_aload_n hx hb dX2_poke_34 rfl (lv_at hl 0 rfl) ?_
    refine va_get (D := (dC, dI)) (ci := 3) (v := .ref d1) (C := RX2) (T := TX2) (N := 16) hx hb hts hiX2 hown hK hP 0 rfl rfl 0 (by decide) (hts (.fieldLink RX2 23 "LibraryDisk" "disk" "LLibraryDisk$Sectors;") (by decide +kernel)) (fun _ h9 => h9) rfl dX2_poke_35 ?_
    refine lv_iload_n hx hb dX2_poke_38 rfl (lv_at hl 1 rfl) ?_
    refine lv_iload_n hx hb dX2_poke_39 rfl (lv_at hl 2 rfl) ?_
    refine mq_calli (wr := [(h0, .inr (3, [.ref d1, .ref d2, .ref d3, .ref d4, .int 0, .ref sh, .ref co, .int 0, .int 0, .int 0, .int 1, .int 0, .int 0, .int 0, .int 0, .int 0]))]) (fun (_u : Unit) => [(h0, .inr (3, [.ref d1, .ref d2, .ref d3, .ref d4, .int 0, .ref sh, .ref co, .int 0, .int 0, .int 0, .int 1, .int 0, .int 0, .int 0, .int 0, .int 0])), (d1, .inr (2, [.int (nI n), .ref e1])), (e1, .inl (cB, (n * 64), .inl u_5))]) (va_runV (As := [.int x, .int y]) (rest := []) ⟨hx, hb, hml, hown, hts⟩ (ct_X1_byteAt l dC dI cB cI d1 e1 n hn.2 u_5 x y H.size) (cwV 2 hts gX2_poke_X1_byteAt rfl rfl rfl (by decide +kernel) ⟨Nat.le_of_ble_eq_true rfl, Nat.le_of_ble_eq_true rfl⟩) ⟨mq_blind, va_recv hK hP (ci := 2) (q0 := 1) rfl rfl, mq_pre hK hN hP hD [1, 2] rfl (by decide)⟩ rfl rfl hl.1 rfl (lv_room (Nat.le_of_ble_eq_true rfl)) dX2_poke_40 ⟨Nat.le_of_ble_eq_true rfl, Nat.le_of_ble_eq_true rfl⟩) hP hD hS hA [1, 2] [0] [0, 1, 2] rfl rfl (by decide) (by decide) (by decide) (fun _ => rfl) (fun r_6 _ H locs hw_40 hP hD hS => ?_)
    have hP : va_P (dC, dI) vwCl [(h0, .inr (3, [.ref d1, .ref d2, .ref d3, .ref d4, .int 0, .ref sh, .ref co, .int 0, .int 0, .int 0, .int 1, .int 0, .int 0, .int 0, .int 0, .int 0])), (d1, .inr (2, [.int (nI n), .ref e1])), (e1, .inl (cB, (n * 64), .inl u_5))] H := hP
    have hD : va_D A [(h0, .inr (3, [.ref d1, .ref d2, .ref d3, .ref d4, .int 0, .ref sh, .ref co, .int 0, .int 0, .int 0, .int 1, .int 0, .int 0, .int 0, .int 0, .int 0])), (d1, .inr (2, [.int (nI n), .ref e1])), (e1, .inl (cB, (n * 64), .inl u_5))] := hD
    have hP9 := hP.sub (ws' := []) [] rfl
    have hD9 := hD.sub (ws' := []) [] (by decide) rfl
    exact W.iret (v := r_6) hx hb hr (fun t ht hW => ⟨⟨r_6, (), rfl, po_1 (hw_6.resolve_right (fun q => c_9 q.1)).2 hw_26 hw_31 hw_40 hn.2, by rw [ht]; exact hP9, va_K.moved hW.alike hK, by rw [hAe]; exact hD9⟩, hS.F ht⟩) hS.2.2 dX2_poke_43
  · skip
    refine lv_iconst (v := (-1)) hx hb dX2_poke_12 (by decide) ?_
    have hP9 := hP.sub (ws' := []) [] rfl
    have hD9 := hD.sub (ws' := []) [] (by decide) rfl
    exact W.iret (v := (-1)) hx hb hr (fun t ht hW => ⟨⟨(-1), (), rfl, ⟨fun h => absurd h (hw_6.resolve_left (fun q => absurd (q.1.symm.trans c_9) (by decide))).2, fun _ => rfl⟩, by rw [ht]; exact hP9, va_K.moved hW.alike hK, by rw [hAe]; exact hD9⟩, hS.F ht⟩) hS.2.2 dX2_poke_13
set_option maxHeartbeats 4000000 in
set_option maxRecDepth 100000 in
/-- wrong, fresh -/
theorem ct_X2_wrong (l : Launch) (dC : Nat → ClassId) (dI : Nat → Nat → Nat) (cB cI : ClassId) (h0 d1 d2 d3 d4 sh co : Nat) (e1 : Nat) (n : Nat) (hn : 3 ≤ n ∧ n ≤ 40) (x : Int32) (sz : Nat) : mq_I l (dC, dI) vwCl [(cB, .byte), (cI, .int)] yX2_wrong wsX2_wrong ({ frames := 4, cells := 0, slots := 0, locals := 89 }) [.ref h0, .int x] [(h0, .inr (3, [.ref d1, .ref d2, .ref d3, .ref d4, .int 0, .ref sh, .ref co, .int 0, .int 0, .int 0, .int 1, .int 0, .int 0, .int 0, .int 0, .int 0])), (d1, .inr (2, [.int (nI n), .ref e1])), (e1, .inl (cB, (n * 64), .inl (fun _ => 0)))] sz (fun (r : Int32) (_u : Unit) => r = -1) (fun (_u : Unit) => []) 0 0 := by
  refine Met.ofW (cc := cX2_wrong) (maxL := 4) (ret := (some .int)) (by decide) rfl ?_
  intro p e s m args below meth c s₁ B hml hv
  obtain ⟨rfl, hsz, hP, hK, hD0, hN⟩ := hv
  have hx := B.exec
  have hb := B.bytes
  have hr := B.returns
  have hts := atoms_spec (ws := wsX2_wrong) B.pre
  have hown : s.vm.findClass RX2 = some m.cls := findClass_of_methodNamed B.named
  have hlocks := B.notSynchronized
  have hiX1 : ∀ w ∈ u_ws RX1 TX1 2, w ∈ wsX2_wrong := by decide +kernel
  have hiX2 : ∀ w ∈ u_ws RX2 TX2 16, w ∈ wsX2_wrong := by decide +kernel
  subst hsz
  have hD := hD0.self (sz := s.heap.size)
  generalize hAe : va_A [(h0, .inr (3, [.ref d1, .ref d2, .ref d3, .ref d4, .int 0, .ref sh, .ref co, .int 0, .int 0, .int 0, .int 1, .int 0, .int 0, .int 0, .int 0, .int 0])), (d1, .inr (2, [.int (nI n), .ref e1])), (e1, .inl (cB, (n * 64), .inl (fun _ => 0)))] s.heap.size = A at hD ⊢
  have hA : ∀ q : Nat, s.heap.size ≤ q → A q := fun q h => by rw [← hAe]; exact Or.inr h
  have hS : va_S A s.heap s.heap [] := va_S.rf
  have hP : va_P (dC, dI) vwCl [(h0, .inr (3, [.ref d1, .ref d2, .ref d3, .ref d4, .int 0, .ref sh, .ref co, .int 0, .int 0, .int 0, .int 1, .int 0, .int 0, .int 0, .int 0, .int 0])), (d1, .inr (2, [.int (nI n), .ref e1])), (e1, .inl (cB, (n * 64), .inl (fun _ => 0)))] s.heap := hP
  have hl := lv_entry ([.ref h0, .int x]) (n := 4) (Nat.le_of_ble_eq_true rfl)
  rw [lg_entry_eq]
  generalize (lg_sl ([.ref h0, .int x]) ++ List.replicate (4 - (lg_sl ([.ref h0, .int x])).length) Slot.unset).toArray = ls at hl ⊢
  have hl : lv_has ls 4 [(0, .ref h0), (1, .int x)] := hl
  refine lv_iconst (v := 0) hx hb dX2_wrong_0 (by decide) ?_
  refine lv_istore_n (lv' := [(2, .int 0), (0, .ref h0), (1, .int x)]) hx hb dX2_wrong_1 rfl hl (by decide) rfl (fun ls hl => ?_)
  refine lv_iconst (v := 0) hx hb dX2_wrong_2 (by decide) ?_
  refine lv_istore_n (lv' := [(3, .int 0), (2, .int 0), (0, .ref h0), (1, .int x)]) hx hb dX2_wrong_3 rfl hl (by decide) rfl (fun ls hl => ?_)
  refine mq_loop 4 4 (σ := Nat) (I := fun i => i ≤ n) (μ := fun i => n - i) (wsf := fun i => [(h0, .inr (3, [.ref d1, .ref d2, .ref d3, .ref d4, .int 0, .ref sh, .ref co, .int 0, .int 0, .int 0, .int 1, .int 0, .int 0, .int 0, .int 0, .int 0])), (d1, .inr (2, [.int (nI n), .ref e1])), (e1, .inl (cB, (n * 64), .inl (fun _ => 0)))]) (lvf := fun i => [(0, .ref h0), (1, .int x), (2, .int 0), (3, .int (nI i))]) (fun i hI_4 ih_4 H locs ls hP hD hS hl => ?_) 0 (Nat.zero_le _) (hP.sub [0, 1, 2] rfl) (hD.sub [0, 1, 2] (by decide) rfl) hS (lv_sub hl [2, 3, 1, 0] rfl)
  skip
  have hI : i ≤ n := hI_4
  have hP : va_P (dC, dI) vwCl [(h0, .inr (3, [.ref d1, .ref d2, .ref d3, .ref d4, .int 0, .ref sh, .ref co, .int 0, .int 0, .int 0, .int 1, .int 0, .int 0, .int 0, .int 0, .int 0])), (d1, .inr (2, [.int (nI n), .ref e1])), (e1, .inl (cB, (n * 64), .inl (fun _ => 0)))] H := hP
  have hD : va_D A [(h0, .inr (3, [.ref d1, .ref d2, .ref d3, .ref d4, .int 0, .ref sh, .ref co, .int 0, .int 0, .int 0, .int 1, .int 0, .int 0, .int 0, .int 0, .int 0])), (d1, .inr (2, [.int (nI n), .ref e1])), (e1, .inl (cB, (n * 64), .inl (fun _ => 0)))] := hD
  have hl : lv_has ls 4 [(0, .ref h0), (1, .int x), (2, .int 0), (3, .int (nI i))] := hl
  refine lv_iload_n hx hb dX2_wrong_4 rfl (lv_at hl 3 rfl) ?_
  refine lv_aload_n hx hb dX2_wrong_5 rfl (lv_at hl 0 rfl) ?_
  refine va_get (D := (dC, dI)) (ci := 3) (v := .ref d1) (C := RX2) (T := TX2) (N := 16) hx hb hts hiX2 hown hK hP 0 rfl rfl 0 (by decide) (hts (.fieldLink RX2 23 "LibraryDisk" "disk" "LLibraryDisk$Sectors;") (by decide +kernel)) (fun _ h9 => h9) rfl dX2_wrong_6 ?_
  refine va_getN (D := (dC, dI)) (ci := 2) (v := .int (nI n)) (C := RX1) (T := TX1) (N := 2) (host := "LibraryDisk") hx hb hts hiX1 hown hK hP 1 rfl rfl 0 (by decide) (nx_use hN 4 rfl rfl) (fun _ h9 => h9) rfl dX2_wrong_9 ?_
  refine lv_icmp_ge (tgt := 42) hx hb dX2_wrong_12 (by decide) (fun c_12 => ?_) (fun c_12 => ?_)
  · skip
    refine lv_iconst (v := (-1)) hx hb dX2_wrong_42 (by decide) ?_
    have hP9 := hP.sub (ws' := []) [] rfl
    have hD9 := hD.sub (ws' := []) [] (by decide) rfl
    exact W.iret (v := (-1)) hx hb hr (fun t ht hW => ⟨⟨(-1), (), rfl, rfl, by rw [ht]; exact hP9, va_K.moved hW.alike hK, by rw [hAe]; exact hD9⟩, hS.F ht⟩) hS.2.2 dX2_wrong_43
  · skip
    have hlt : i < n := k_lt (k := n) rfl (by omega) (by omega) c_12
    refine lv_aload_n hx hb dX2_wrong_15 rfl (lv_at hl 0 rfl) ?_
    refine va_get (D := (dC, dI)) (ci := 3) (v := .ref d1) (C := RX2) (T := TX2) (N := 16) hx hb hts hiX2 hown hK hP 0 rfl rfl 0 (by decide) (hts (.fieldLink RX2 23 "LibraryDisk" "disk" "LLibraryDisk$Sectors;") (by decide +kernel)) (fun _ h9 => h9) rfl dX2_wrong_16 ?_
    refine lv_iload_n hx hb dX2_wrong_19 rfl (lv_at hl 3 rfl) ?_
    refine mq_calli (wr := [(h0, .inr (3, [.ref d1, .ref d2, .ref d3, .ref d4, .int 0, .ref sh, .ref co, .int 0, .int 0, .int 0, .int 1, .int 0, .int 0, .int 0, .int 0, .int 0]))]) (fun (_u : Unit) => [(h0, .inr (3, [.ref d1, .ref d2, .ref d3, .ref d4, .int 0, .ref sh, .ref co, .int 0, .int 0, .int 0, .int 1, .int 0, .int 0, .int 0, .int 0, .int 0])), (d1, .inr (2, [.int (nI n), .ref e1])), (e1, .inl (cB, (n * 64), .inl (fun _ => 0)))]) (va_runV (As := [.int (nI i)]) (rest := []) ⟨hx, hb, hml, hown, hts⟩ (ct_X1_sumIsRight_z l dC dI cB cI d1 e1 n hn.2 (fun _ => 0) (fun _ => rfl) i hlt H.size) (cwV 1 hts gX2_wrong_X1_sumIsRight rfl rfl rfl (by decide +kernel) ⟨Nat.le_of_ble_eq_true rfl, Nat.le_of_ble_eq_true rfl⟩) ⟨mq_blind, va_recv hK hP (ci := 2) (q0 := 1) rfl rfl, mq_pre hK hN hP hD [1, 2] rfl (by decide)⟩ rfl rfl hl.1 rfl (lv_room (Nat.le_of_ble_eq_true rfl)) dX2_wrong_20 ⟨Nat.le_of_ble_eq_true rfl, Nat.le_of_ble_eq_true rfl⟩) hP hD hS hA [1, 2] [0] [0, 1, 2] rfl rfl (by decide) (by decide) (by decide) (fun _ => rfl) (fun r_1 _ H locs hw_20 hP hD hS => ?_)
    have hP : va_P (dC, dI) vwCl [(h0, .inr (3, [.ref d1, .ref d2, .ref d3, .ref d4, .int 0, .ref sh, .ref co, .int 0, .int 0, .int 0, .int 1, .int 0, .int 0, .int 0, .int 0, .int 0])), (d1, .inr (2, [.int (nI n), .ref e1])), (e1, .inl (cB, (n * 64), .inl (fun _ => 0)))] H := hP
    have hD : va_D A [(h0, .inr (3, [.ref d1, .ref d2, .ref d3, .ref d4, .int 0, .ref sh, .ref co, .int 0, .int 0, .int 0, .int 1, .int 0, .int 0, .int 0, .int 0, .int 0])), (d1, .inr (2, [.int (nI n), .ref e1])), (e1, .inl (cB, (n * 64), .inl (fun _ => 0)))] := hD
    refine lv_if_ne (tgt := 36) hx hb dX2_wrong_23 (by decide) (fun c_23 => ?_) (fun c_23 => ?_)
    · skip
      obtain ⟨x_2, ex_2⟩ : ∃ y : Int32, y = (nI i) + 1 := ⟨_, rfl⟩
      refine lv_iinc (v := x_2) (lv' := [(3, .int x_2), (0, .ref h0), (1, .int x), (2, .int 0)]) hx hb dX2_wrong_36 hl (k := 3) rfl (by rw [ex_2]; rfl) (by decide) rfl (fun ls hl => ?_)
      refine lv_goto (tgt := 4) hx hb dX2_wrong_39 (by decide) ?_
      obtain rfl : x_2 = nI (i + 1) := by rw [ex_2]; exact nI_1 i
      exact ih_4 (i + 1) (show i + 1 ≤ n by omega) (show n - (i + 1) < n - i by omega) _ _ _ (hP.sub [0, 1, 2] rfl) (hD.sub [0, 1, 2] (by decide) rfl) hS (lv_sub hl [1, 2, 3, 0] rfl)
    · exact absurd (hw_20.symm.trans c_23) (by decide)
set_option maxHeartbeats 4000000 in
set_option maxRecDepth 100000 in
/-- bad, fresh -/
theorem ct_X2_bad (l : Launch) (dC : Nat → ClassId) (dI : Nat → Nat → Nat) (cB cI : ClassId) (h0 d1 d2 d3 d4 sh co : Nat) (sz : Nat) : mq_I l (dC, dI) vwCl [(cB, .byte), (cI, .int)] yX2_bad wsX2_bad ({ frames := 0, cells := 0, slots := 0, locals := 0 }) [.ref h0] [(h0, .inr (3, [.ref d1, .ref d2, .ref d3, .ref d4, .int 0, .ref sh, .ref co, .int 0, .int 0, .int 0, .int 1, .int 0, .int 0, .int 0, .int 0, .int 0]))] sz (fun (r : Int32) (_u : Unit) => r = 0) (fun (_u : Unit) => []) 0 0 := by
  refine Met.ofW (cc := cX2_bad) (maxL := 1) (ret := (some .int)) (by decide) rfl ?_
  intro p e s m args below meth c s₁ B hml hv
  obtain ⟨rfl, hsz, hP, hK, hD0, hN⟩ := hv
  have hx := B.exec
  have hb := B.bytes
  have hr := B.returns
  have hts := atoms_spec (ws := wsX2_bad) B.pre
  have hown : s.vm.findClass RX2 = some m.cls := findClass_of_methodNamed B.named
  have hlocks := B.notSynchronized
  have hiX2 : ∀ w ∈ u_ws RX2 TX2 16, w ∈ wsX2_bad := by decide +kernel
  subst hsz
  have hD := hD0.self (sz := s.heap.size)
  generalize hAe : va_A [(h0, .inr (3, [.ref d1, .ref d2, .ref d3, .ref d4, .int 0, .ref sh, .ref co, .int 0, .int 0, .int 0, .int 1, .int 0, .int 0, .int 0, .int 0, .int 0]))] s.heap.size = A at hD ⊢
  have hA : ∀ q : Nat, s.heap.size ≤ q → A q := fun q h => by rw [← hAe]; exact Or.inr h
  have hS : va_S A s.heap s.heap [] := va_S.rf
  have hP : va_P (dC, dI) vwCl [(h0, .inr (3, [.ref d1, .ref d2, .ref d3, .ref d4, .int 0, .ref sh, .ref co, .int 0, .int 0, .int 0, .int 1, .int 0, .int 0, .int 0, .int 0, .int 0]))] s.heap := hP
  have hl := lv_entry ([.ref h0]) (n := 1) (Nat.le_of_ble_eq_true rfl)
  rw [lg_entry_eq]
  generalize (lg_sl ([.ref h0]) ++ List.replicate (1 - (lg_sl ([.ref h0])).length) Slot.unset).toArray = ls at hl ⊢
  have hl : lv_has ls 1 [(0, .ref h0)] := hl
  refine lv_aload_n hx hb dX2_bad_0 rfl (lv_at hl 0 rfl) ?_
  refine va_get (D := (dC, dI)) (ci := 3) (v := .int 0) (C := RX2) (T := TX2) (N := 16) hx hb hts hiX2 hown hK hP 0 rfl rfl 15 (by decide) (hts (.fieldLink RX2 157 "LibraryDisk" "badCount" "I") (by decide +kernel)) (fun _ h9 => h9) rfl dX2_bad_1 ?_
  have hP9 := hP.sub (ws' := []) [] rfl
  have hD9 := hD.sub (ws' := []) [] (by decide) rfl
  exact W.iret (v := 0) hx hb hr (fun t ht hW => ⟨⟨0, (), rfl, rfl, by rw [ht]; exact hP9, va_K.moved hW.alike hK, by rw [hAe]; exact hD9⟩, hS.F ht⟩) hS.2.2 dX2_bad_4
set_option maxHeartbeats 4000000 in
set_option maxRecDepth 100000 in
/-- backup, fresh -/
theorem ct_X2_backup (l : Launch) (dC : Nat → ClassId) (dI : Nat → Nat → Nat) (cB cI : ClassId) (h0 d1 d2 d3 d4 sh co : Nat) (e1 e4 : Nat) (n : Nat) (hn : 3 ≤ n ∧ n ≤ 40) (g1 g4 : Nat → Int32) (hf1 : sb_Fit g1) (hf4 : sb_Fit g4) (sz : Nat) : mq_I l (dC, dI) vwCl [(cB, .byte), (cI, .int)] yX2_backup wsX2_backup ({ frames := 3, cells := 0, slots := 0, locals := 107 }) [.ref h0] [(h0, .inr (3, [.ref d1, .ref d2, .ref d3, .ref d4, .int 0, .ref sh, .ref co, .int 0, .int 0, .int 0, .int 1, .int 0, .int 0, .int 0, .int 0, .int 0])), (d1, .inr (2, [.int (nI n), .ref e1])), (e1, .inl (cB, (n * 64), .inl g1)), (d4, .inr (2, [.int (nI n), .ref e4])), (e4, .inl (cB, (n * 64), .inl g4))] sz (fun (r : Int32) (_u : Unit) => r = 0) (fun (_u : Unit) => []) 0 0 := by
  refine Met.ofW (cc := cX2_backup) (maxL := 1) (ret := (some .int)) (by decide) rfl ?_
  intro p e s m args below meth c s₁ B hml hv
  obtain ⟨rfl, hsz, hP, hK, hD0, hN⟩ := hv
  have hx := B.exec
  have hb := B.bytes
  have hr := B.returns
  have hts := atoms_spec (ws := wsX2_backup) B.pre
  have hown : s.vm.findClass RX2 = some m.cls := findClass_of_methodNamed B.named
  have hlocks := B.notSynchronized
  have hiX2 : ∀ w ∈ u_ws RX2 TX2 16, w ∈ wsX2_backup := by decide +kernel
  subst hsz
  have hD := hD0.self (sz := s.heap.size)
  generalize hAe : va_A [(h0, .inr (3, [.ref d1, .ref d2, .ref d3, .ref d4, .int 0, .ref sh, .ref co, .int 0, .int 0, .int 0, .int 1, .int 0, .int 0, .int 0, .int 0, .int 0])), (d1, .inr (2, [.int (nI n), .ref e1])), (e1, .inl (cB, (n * 64), .inl g1)), (d4, .inr (2, [.int (nI n), .ref e4])), (e4, .inl (cB, (n * 64), .inl g4))] s.heap.size = A at hD ⊢
  have hA : ∀ q : Nat, s.heap.size ≤ q → A q := fun q h => by rw [← hAe]; exact Or.inr h
  have hS : va_S A s.heap s.heap [] := va_S.rf
  have hP : va_P (dC, dI) vwCl [(h0, .inr (3, [.ref d1, .ref d2, .ref d3, .ref d4, .int 0, .ref sh, .ref co, .int 0, .int 0, .int 0, .int 1, .int 0, .int 0, .int 0, .int 0, .int 0])), (d1, .inr (2, [.int (nI n), .ref e1])), (e1, .inl (cB, (n * 64), .inl g1)), (d4, .inr (2, [.int (nI n), .ref e4])), (e4, .inl (cB, (n * 64), .inl g4))] s.heap := hP
  have hl := lv_entry ([.ref h0]) (n := 1) (Nat.le_of_ble_eq_true rfl)
  rw [lg_entry_eq]
  generalize (lg_sl ([.ref h0]) ++ List.replicate (1 - (lg_sl ([.ref h0])).length) Slot.unset).toArray = ls at hl ⊢
  have hl : lv_has ls 1 [(0, .ref h0)] := hl
  refine lv_aload_n hx hb dX2_backup_0 rfl (lv_at hl 0 rfl) ?_
  refine va_get (D := (dC, dI)) (ci := 3) (v := .int 1) (C := RX2) (T := TX2) (N := 16) hx hb hts hiX2 hown hK hP 0 rfl rfl 10 (by decide) (hts (.fieldLink RX2 47 "LibraryDisk" "on" "Z") (by decide +kernel)) (fun _ h9 => h9) rfl dX2_backup_1 ?_
  refine lv_if_ne (tgt := 10) hx hb dX2_backup_4 (by decide) (fun c_4 => ?_) (fun c_4 => ?_)
  · skip
    refine lv_aload_n hx hb dX2_backup_10 rfl (lv_at hl 0 rfl) ?_
    refine va_get (D := (dC, dI)) (ci := 3) (v := .ref d4) (C := RX2) (T := TX2) (N := 16) hx hb hts hiX2 hown hK hP 0 rfl rfl 3 (by decide) (hts (.fieldLink RX2 33 "LibraryDisk" "kept" "LLibraryDisk$Sectors;") (by decide +kernel)) (fun _ h9 => h9) rfl dX2_backup_11 ?_
    refine lv_aload_n hx hb dX2_backup_14 rfl (lv_at hl 0 rfl) ?_
    refine va_get (D := (dC, dI)) (ci := 3) (v := .ref d1) (C := RX2) (T := TX2) (N := 16) hx hb hts hiX2 hown hK hP 0 rfl rfl 0 (by decide) (hts (.fieldLink RX2 23 "LibraryDisk" "disk" "LLibraryDisk$Sectors;") (by decide +kernel)) (fun _ h9 => h9) rfl dX2_backup_15 ?_
    refine mq_callv (wr := [(h0, .inr (3, [.ref d1, .ref d2, .ref d3, .ref d4, .int 0, .ref sh, .ref co, .int 0, .int 0, .int 0, .int 1, .int 0, .int 0, .int 0, .int 0, .int 0]))]) (fun (uu_1 : (Nat → Int32)) => [(h0, .inr (3, [.ref d1, .ref d2, .ref d3, .ref d4, .int 0, .ref sh, .ref co, .int 0, .int 0, .int 0, .int 1, .int 0, .int 0, .int 0, .int 0, .int 0])), (d1, .inr (2, [.int (nI n), .ref e1])), (e1, .inl (cB, (n * 64), .inl g1)), (d4, .inr (2, [.int (nI n), .ref e4])), (e4, .inl (cB, (n * 64), .inl uu_1))]) (va_runV (As := [.ref d1]) (rest := []) ⟨hx, hb, hml, hown, hts⟩ (ct_X1_copyAll l dC dI cB cI d4 e4 d1 e1 n hn.2 g4 g1 hf4 hf1 s.heap.size) (cwV 1 hts gX2_backup_X1_copyAll rfl rfl rfl (by decide +kernel) ⟨Nat.le_of_ble_eq_true rfl, Nat.le_of_ble_eq_true rfl⟩) ⟨mq_blind, va_recv hK hP (ci := 2) (q0 := 3) rfl rfl, mq_pre hK hN hP hD [3, 4, 1, 2] rfl (by decide)⟩ rfl rfl hl.1 rfl (lv_room (Nat.le_of_ble_eq_true rfl)) dX2_backup_18 ⟨Nat.le_of_ble_eq_true rfl, Nat.le_of_ble_eq_true rfl⟩) hP hD hS hA [3, 4, 1, 2] [0] [0, 3, 4, 1, 2] rfl rfl (by decide) (by decide) (by decide) (fun _ => rfl) (fun u_3 H locs hw_18 hP hD hS => ?_)
    have hP : va_P (dC, dI) vwCl [(h0, .inr (3, [.ref d1, .ref d2, .ref d3, .ref d4, .int 0, .ref sh, .ref co, .int 0, .int 0, .int 0, .int 1, .int 0, .int 0, .int 0, .int 0, .int 0])), (d1, .inr (2, [.int (nI n), .ref e1])), (e1, .inl (cB, (n * 64), .inl g1)), (d4, .inr (2, [.int (nI n), .ref e4])), (e4, .inl (cB, (n * 64), .inl u_3))] H := hP
    have hD : va_D A [(h0, .inr (3, [.ref d1, .ref d2, .ref d3, .ref d4, .int 0, .ref sh, .ref co, .int 0, .int 0, .int 0, .int 1, .int 0, .int 0, .int 0, .int 0, .int 0])), (d1, .inr (2, [.int (nI n), .ref e1])), (e1, .inl (cB, (n * 64), .inl g1)), (d4, .inr (2, [.int (nI n), .ref e4])), (e4, .inl (cB, (n * 64), .inl u_3))] := hD
    refine lv_aload_n hx hb dX2_backup_21 rfl (lv_at hl 0 rfl) ?_
    refine lv_iconst (v := 1) hx hb dX2_backup_22 (by decide) ?_
    refine va_put (D := (dC, dI)) (ci := 3) (v := .int 1) (ty := .boolean) (C := RX2) (T := TX2) (N := 16) hx hb hts hiX2 tyX2 tyX2_ok nmX2 hown hK hP hD hS 0 rfl rfl 4 (by decide) (hts (.fieldLink RX2 164 "LibraryDisk" "hasBackup" "Z") (by decide +kernel)) (fun _ h9 => h9) rfl (by decide +kernel) rfl rfl (Nat.le_of_ble_eq_true rfl) dX2_backup_23 (fun H locs hP hD hS => ?_)
    have hP : va_P (dC, dI) vwCl [(h0, .inr (3, [.ref d1, .ref d2, .ref d3, .ref d4, .int 1, .ref sh, .ref co, .int 0, .int 0, .int 0, .int 1, .int 0, .int 0, .int 0, .int 0, .int 0])), (d1, .inr (2, [.int (nI n), .ref e1])), (e1, .inl (cB, (n * 64), .inl g1)), (d4, .inr (2, [.int (nI n), .ref e4])), (e4, .inl (cB, (n * 64), .inl u_3))] H := hP
    have hD : va_D A [(h0, .inr (3, [.ref d1, .ref d2, .ref d3, .ref d4, .int 1, .ref sh, .ref co, .int 0, .int 0, .int 0, .int 1, .int 0, .int 0, .int 0, .int 0, .int 0])), (d1, .inr (2, [.int (nI n), .ref e1])), (e1, .inl (cB, (n * 64), .inl g1)), (d4, .inr (2, [.int (nI n), .ref e4])), (e4, .inl (cB, (n * 64), .inl u_3))] := hD
    refine lv_aload_n hx hb dX2_backup_26 rfl (lv_at hl 0 rfl) ?_
    refine va_get (D := (dC, dI)) (ci := 3) (v := .int 0) (C := RX2) (T := TX2) (N := 16) hx hb hts hiX2 hown hK hP 0 rfl rfl 11 (by decide) (hts (.fieldLink RX2 76 "LibraryDisk" "syncNumber" "I") (by decide +kernel)) (fun _ h9 => h9) rfl dX2_backup_27 ?_
    have hP9 := hP.sub (ws' := []) [] rfl
    have hD9 := hD.sub (ws' := []) [] (by decide) rfl
    exact W.iret (v := 0) hx hb hr (fun t ht hW => ⟨⟨0, (), rfl, rfl, by rw [ht]; exact hP9, va_K.moved hW.alike hK, by rw [hAe]; exact hD9⟩, hS.F ht⟩) hS.2.2 dX2_backup_30
  · exact absurd c_4 (by decide)
set_option maxHeartbeats 4000000 in
set_option maxRecDepth 100000 in
/-- restore, fresh -/
theorem ct_X2_restore (l : Launch) (dC : Nat → ClassId) (dI : Nat → Nat → Nat) (cB cI : ClassId) (h0 d1 d2 d3 d4 sh co : Nat) (sz : Nat) : mq_I l (dC, dI) vwCl [(cB, .byte), (cI, .int)] yX2_restore wsX2_restore ({ frames := 0, cells := 0, slots := 0, locals := 0 }) [.ref h0] [(h0, .inr (3, [.ref d1, .ref d2, .ref d3, .ref d4, .int 0, .ref sh, .ref co, .int 0, .int 0, .int 0, .int 1, .int 0, .int 0, .int 0, .int 0, .int 0]))] sz (fun (r : Int32) (_u : Unit) => r = -3) (fun (_u : Unit) => []) 0 0 := by
  refine Met.ofW (cc := cX2_restore) (maxL := 1) (ret := (some .int)) (by decide) rfl ?_
  intro p e s m args below meth c s₁ B hml hv
  obtain ⟨rfl, hsz, hP, hK, hD0, hN⟩ := hv
  have hx := B.exec
  have hb := B.bytes
  have hr := B.returns
  have hts := atoms_spec (ws := wsX2_restore) B.pre
  have hown : s.vm.findClass RX2 = some m.cls := findClass_of_methodNamed B.named
  have hlocks := B.notSynchronized
  have hiX2 : ∀ w ∈ u_ws RX2 TX2 16, w ∈ wsX2_restore := by decide +kernel
  subst hsz
  have hD := hD0.self (sz := s.heap.size)
  generalize hAe : va_A [(h0, .inr (3, [.ref d1, .ref d2, .ref d3, .ref d4, .int 0, .ref sh, .ref co, .int 0, .int 0, .int 0, .int 1, .int 0, .int 0, .int 0, .int 0, .int 0]))] s.heap.size = A at hD ⊢
  have hA : ∀ q : Nat, s.heap.size ≤ q → A q := fun q h => by rw [← hAe]; exact Or.inr h
  have hS : va_S A s.heap s.heap [] := va_S.rf
  have hP : va_P (dC, dI) vwCl [(h0, .inr (3, [.ref d1, .ref d2, .ref d3, .ref d4, .int 0, .ref sh, .ref co, .int 0, .int 0, .int 0, .int 1, .int 0, .int 0, .int 0, .int 0, .int 0]))] s.heap := hP
  have hl := lv_entry ([.ref h0]) (n := 1) (Nat.le_of_ble_eq_true rfl)
  rw [lg_entry_eq]
  generalize (lg_sl ([.ref h0]) ++ List.replicate (1 - (lg_sl ([.ref h0])).length) Slot.unset).toArray = ls at hl ⊢
  have hl : lv_has ls 1 [(0, .ref h0)] := hl
  refine lv_aload_n hx hb dX2_restore_0 rfl (lv_at hl 0 rfl) ?_
  refine va_get (D := (dC, dI)) (ci := 3) (v := .int 1) (C := RX2) (T := TX2) (N := 16) hx hb hts hiX2 hown hK hP 0 rfl rfl 10 (by decide) (hts (.fieldLink RX2 47 "LibraryDisk" "on" "Z") (by decide +kernel)) (fun _ h9 => h9) rfl dX2_restore_1 ?_
  refine lv_if_ne (tgt := 14) hx hb dX2_restore_4 (by decide) (fun c_4 => ?_) (fun c_4 => ?_)
  · skip
    refine lv_bipush (v := (-3)) hx hb dX2_restore_14 (by decide) ?_
    have hP9 := hP.sub (ws' := []) [] rfl
    have hD9 := hD.sub (ws' := []) [] (by decide) rfl
    exact W.iret (v := (-3)) hx hb hr (fun t ht hW => ⟨⟨(-3), (), rfl, rfl, by rw [ht]; exact hP9, va_K.moved hW.alike hK, by rw [hAe]; exact hD9⟩, hS.F ht⟩) hS.2.2 dX2_restore_16
  · exact absurd c_4 (by decide)
set_option maxHeartbeats 4000000 in
set_option maxRecDepth 100000 in
/-- differ, fresh -/
theorem ct_X2_differ (l : Launch) (dC : Nat → ClassId) (dI : Nat → Nat → Nat) (cB cI : ClassId) (h0 d1 d2 d3 d4 sh co : Nat) (sz : Nat) : mq_I l (dC, dI) vwCl [(cB, .byte), (cI, .int)] yX2_differ wsX2_differ ({ frames := 0, cells := 0, slots := 0, locals := 0 }) [.ref h0] [(h0, .inr (3, [.ref d1, .ref d2, .ref d3, .ref d4, .int 0, .ref sh, .ref co, .int 0, .int 0, .int 0, .int 1, .int 0, .int 0, .int 0, .int 0, .int 0]))] sz (fun (r : Int32) (_u : Unit) => r = -1) (fun (_u : Unit) => []) 0 0 := by
  refine Met.ofW (cc := cX2_differ) (maxL := 3) (ret := (some .int)) (by decide) rfl ?_
  intro p e s m args below meth c s₁ B hml hv
  obtain ⟨rfl, hsz, hP, hK, hD0, hN⟩ := hv
  have hx := B.exec
  have hb := B.bytes
  have hr := B.returns
  have hts := atoms_spec (ws := wsX2_differ) B.pre
  have hown : s.vm.findClass RX2 = some m.cls := findClass_of_methodNamed B.named
  have hlocks := B.notSynchronized
  have hiX2 : ∀ w ∈ u_ws RX2 TX2 16, w ∈ wsX2_differ := by decide +kernel
  subst hsz
  have hD := hD0.self (sz := s.heap.size)
  generalize hAe : va_A [(h0, .inr (3, [.ref d1, .ref d2, .ref d3, .ref d4, .int 0, .ref sh, .ref co, .int 0, .int 0, .int 0, .int 1, .int 0, .int 0, .int 0, .int 0, .int 0]))] s.heap.size = A at hD ⊢
  have hA : ∀ q : Nat, s.heap.size ≤ q → A q := fun q h => by rw [← hAe]; exact Or.inr h
  have hS : va_S A s.heap s.heap [] := va_S.rf
  have hP : va_P (dC, dI) vwCl [(h0, .inr (3, [.ref d1, .ref d2, .ref d3, .ref d4, .int 0, .ref sh, .ref co, .int 0, .int 0, .int 0, .int 1, .int 0, .int 0, .int 0, .int 0, .int 0]))] s.heap := hP
  have hl := lv_entry ([.ref h0]) (n := 3) (Nat.le_of_ble_eq_true rfl)
  rw [lg_entry_eq]
  generalize (lg_sl ([.ref h0]) ++ List.replicate (3 - (lg_sl ([.ref h0])).length) Slot.unset).toArray = ls at hl ⊢
  have hl : lv_has ls 3 [(0, .ref h0)] := hl
  refine lv_aload_n hx hb dX2_differ_0 rfl (lv_at hl 0 rfl) ?_
  refine va_get (D := (dC, dI)) (ci := 3) (v := .int 0) (C := RX2) (T := TX2) (N := 16) hx hb hts hiX2 hown hK hP 0 rfl rfl 4 (by decide) (hts (.fieldLink RX2 164 "LibraryDisk" "hasBackup" "Z") (by decide +kernel)) (fun _ h9 => h9) rfl dX2_differ_1 ?_
  refine lv_if_ne (tgt := 9) hx hb dX2_differ_4 (by decide) (fun c_4 => ?_) (fun c_4 => ?_)
  · exact absurd (by decide) c_4
  · skip
    refine lv_iconst (v := (-1)) hx hb dX2_differ_7 (by decide) ?_
    have hP9 := hP.sub (ws' := []) [] rfl
    have hD9 := hD.sub (ws' := []) [] (by decide) rfl
    exact W.iret (v := (-1)) hx hb hr (fun t ht hW => ⟨⟨(-1), (), rfl, rfl, by rw [ht]; exact hP9, va_K.moved hW.alike hK, by rw [hAe]; exact hD9⟩, hS.F ht⟩) hS.2.2 dX2_differ_8
set_option maxHeartbeats 4000000 in
set_option maxRecDepth 100000 in
/-- state, fresh -/
theorem ct_X2_state (l : Launch) (dC : Nat → ClassId) (dI : Nat → Nat → Nat) (cB cI : ClassId) (h0 d1 d2 d3 d4 sh co : Nat) (e1 : Nat) (n : Nat) (x : Int32) (sz : Nat) : mq_I l (dC, dI) vwCl [(cB, .byte), (cI, .int)] yX2_state wsX2_state ({ frames := 0, cells := 0, slots := 0, locals := 0 }) [.ref h0, .int x] [(h0, .inr (3, [.ref d1, .ref d2, .ref d3, .ref d4, .int 0, .ref sh, .ref co, .int 0, .int 0, .int 0, .int 1, .int 0, .int 0, .int 0, .int 0, .int 0])), (d1, .inr (2, [.int (nI n), .ref e1]))] sz (fun (r : Int32) (_u : Unit) => r = st_of n x) (fun (_u : Unit) => []) 0 0 := by
  refine Met.ofW (cc := cX2_state) (maxL := 2) (ret := (some .int)) (by decide) rfl ?_
  intro p e s m args below meth c s₁ B hml hv
  obtain ⟨rfl, hsz, hP, hK, hD0, hN⟩ := hv
  have hx := B.exec
  have hb := B.bytes
  have hr := B.returns
  have hts := atoms_spec (ws := wsX2_state) B.pre
  have hown : s.vm.findClass RX2 = some m.cls := findClass_of_methodNamed B.named
  have hlocks := B.notSynchronized
  have hiX1 : ∀ w ∈ u_ws RX1 TX1 2, w ∈ wsX2_state := by decide +kernel
  have hiX2 : ∀ w ∈ u_ws RX2 TX2 16, w ∈ wsX2_state := by decide +kernel
  subst hsz
  have hD := hD0.self (sz := s.heap.size)
  generalize hAe : va_A [(h0, .inr (3, [.ref d1, .ref d2, .ref d3, .ref d4, .int 0, .ref sh, .ref co, .int 0, .int 0, .int 0, .int 1, .int 0, .int 0, .int 0, .int 0, .int 0])), (d1, .inr (2, [.int (nI n), .ref e1]))] s.heap.size = A at hD ⊢
  have hA : ∀ q : Nat, s.heap.size ≤ q → A q := fun q h => by rw [← hAe]; exact Or.inr h
  have hS : va_S A s.heap s.heap [] := va_S.rf
  have hP : va_P (dC, dI) vwCl [(h0, .inr (3, [.ref d1, .ref d2, .ref d3, .ref d4, .int 0, .ref sh, .ref co, .int 0, .int 0, .int 0, .int 1, .int 0, .int 0, .int 0, .int 0, .int 0])), (d1, .inr (2, [.int (nI n), .ref e1]))] s.heap := hP
  have hl := lv_entry ([.ref h0, .int x]) (n := 2) (Nat.le_of_ble_eq_true rfl)
  rw [lg_entry_eq]
  generalize (lg_sl ([.ref h0, .int x]) ++ List.replicate (2 - (lg_sl ([.ref h0, .int x])).length) Slot.unset).toArray = ls at hl ⊢
  have hl : lv_has ls 2 [(0, .ref h0), (1, .int x)] := hl
  refine lv_iload_n hx hb dX2_state_0 rfl (lv_at hl 1 rfl) ?_
  by_cases hk_0 : x = 0
  · refine lv_tableIn (off := 31) (tgt := 32) hx hb dX2_state_1 (by rw [hk_0]; decide) (by rw [hk_0]; decide) (by rw [hk_0]; rfl) (by decide) ?_
    refine lv_aload_n hx hb dX2_state_32 rfl (lv_at hl 0 rfl) ?_
    refine va_get (D := (dC, dI)) (ci := 3) (v := .int 0) (C := RX2) (T := TX2) (N := 16) hx hb hts hiX2 hown hK hP 0 rfl rfl 11 (by decide) (hts (.fieldLink RX2 76 "LibraryDisk" "syncNumber" "I") (by decide +kernel)) (fun _ h9 => h9) rfl dX2_state_33 ?_
    have hP9 := hP.sub (ws' := []) [] rfl
    have hD9 := hD.sub (ws' := []) [] (by decide) rfl
    exact W.iret (v := 0) hx hb hr (fun t ht hW => ⟨⟨0, (), rfl, by unfold st_of; rw [if_pos hk_0], by rw [ht]; exact hP9, va_K.moved hW.alike hK, by rw [hAe]; exact hD9⟩, hS.F ht⟩) hS.2.2 dX2_state_36
  by_cases hk_1 : x = 1
  · refine lv_tableIn (off := 36) (tgt := 37) hx hb dX2_state_1 (by rw [hk_1]; decide) (by rw [hk_1]; decide) (by rw [hk_1]; rfl) (by decide) ?_
    refine lv_aload_n hx hb dX2_state_37 rfl (lv_at hl 0 rfl) ?_
    refine va_get (D := (dC, dI)) (ci := 3) (v := .int 0) (C := RX2) (T := TX2) (N := 16) hx hb hts hiX2 hown hK hP 0 rfl rfl 12 (by decide) (hts (.fieldLink RX2 79 "LibraryDisk" "logCount" "I") (by decide +kernel)) (fun _ h9 => h9) rfl dX2_state_38 ?_
    have hP9 := hP.sub (ws' := []) [] rfl
    have hD9 := hD.sub (ws' := []) [] (by decide) rfl
    exact W.iret (v := 0) hx hb hr (fun t ht hW => ⟨⟨0, (), rfl, by unfold st_of; rw [if_neg hk_0, if_pos hk_1], by rw [ht]; exact hP9, va_K.moved hW.alike hK, by rw [hAe]; exact hD9⟩, hS.F ht⟩) hS.2.2 dX2_state_41
  by_cases hk_2 : x = 2
  · refine lv_tableIn (off := 41) (tgt := 42) hx hb dX2_state_1 (by rw [hk_2]; decide) (by rw [hk_2]; decide) (by rw [hk_2]; rfl) (by decide) ?_
    refine lv_aload_n hx hb dX2_state_42 rfl (lv_at hl 0 rfl) ?_
    refine va_get (D := (dC, dI)) (ci := 3) (v := .int 1) (C := RX2) (T := TX2) (N := 16) hx hb hts hiX2 hown hK hP 0 rfl rfl 10 (by decide) (hts (.fieldLink RX2 47 "LibraryDisk" "on" "Z") (by decide +kernel)) (fun _ h9 => h9) rfl dX2_state_43 ?_
    refine lv_if_eq (tgt := 53) hx hb dX2_state_46 (by decide) (fun c_46 => ?_) (fun c_46 => ?_)
    · exact absurd c_46 (by decide)
    · skip
      refine lv_iconst (v := 1) hx hb dX2_state_49 (by decide) ?_
      refine lv_goto (tgt := 54) hx hb dX2_state_50 (by decide) ?_
      have hP9 := hP.sub (ws' := []) [] rfl
      have hD9 := hD.sub (ws' := []) [] (by decide) rfl
      exact W.iret (v := 1) hx hb hr (fun t ht hW => ⟨⟨1, (), rfl, by unfold st_of; rw [if_neg hk_0, if_neg hk_1, if_pos hk_2], by rw [ht]; exact hP9, va_K.moved hW.alike hK, by rw [hAe]; exact hD9⟩, hS.F ht⟩) hS.2.2 dX2_state_54
  by_cases hk_3 : x = 3
  · refine lv_tableIn (off := 54) (tgt := 55) hx hb dX2_state_1 (by rw [hk_3]; decide) (by rw [hk_3]; decide) (by rw [hk_3]; rfl) (by decide) ?_
    refine lv_aload_n hx hb dX2_state_55 rfl (lv_at hl 0 rfl) ?_
    refine va_get (D := (dC, dI)) (ci := 3) (v := .ref d1) (C := RX2) (T := TX2) (N := 16) hx hb hts hiX2 hown hK hP 0 rfl rfl 0 (by decide) (hts (.fieldLink RX2 23 "LibraryDisk" "disk" "LLibraryDisk$Sectors;") (by decide +kernel)) (fun _ h9 => h9) rfl dX2_state_56 ?_
    refine va_getN (D := (dC, dI)) (ci := 2) (v := .int (nI n)) (C := RX1) (T := TX1) (N := 2) (host := "LibraryDisk") hx hb hts hiX1 hown hK hP 1 rfl rfl 0 (by decide) (nx_use hN 4 rfl rfl) (fun _ h9 => h9) rfl dX2_state_59 ?_
    have hP9 := hP.sub (ws' := []) [] rfl
    have hD9 := hD.sub (ws' := []) [] (by decide) rfl
    exact W.iret (v := nI n) hx hb hr (fun t ht hW => ⟨⟨nI n, (), rfl, by unfold st_of; rw [if_neg hk_0, if_neg hk_1, if_neg hk_2, if_pos hk_3], by rw [ht]; exact hP9, va_K.moved hW.alike hK, by rw [hAe]; exact hD9⟩, hS.F ht⟩) hS.2.2 dX2_state_62
  refine lv_tableOut (tgt := 63) hx hb dX2_state_1 (tb_out (k := 3) (by decide) (fun j hj => by rcases (show j = 0 ∨ j = 1 ∨ j = 2 ∨ j = 3 by omega) with rfl | rfl | rfl | rfl <;> assumption)) (by decide) ?_
  refine lv_iconst (v := (-1)) hx hb dX2_state_63 (by decide) ?_
  have hP9 := hP.sub (ws' := []) [] rfl
  have hD9 := hD.sub (ws' := []) [] (by decide) rfl
  exact W.iret (v := (-1)) hx hb hr (fun t ht hW => ⟨⟨(-1), (), rfl, by unfold st_of; rw [if_neg hk_0, if_neg hk_1, if_neg hk_2, if_neg hk_3], by rw [ht]; exact hP9, va_K.moved hW.alike hK, by rw [hAe]; exact hD9⟩, hS.F ht⟩) hS.2.2 dX2_state_64
