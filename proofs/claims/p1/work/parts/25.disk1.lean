set_option maxHeartbeats 4000000 in
set_option maxRecDepth 100000 in
/-- add, fresh -/
theorem ct_X2_add (l : Launch) (dC : Nat → ClassId) (dI : Nat → Nat → Nat) (cB cI : ClassId) (h0 d1 d2 d3 d4 sh co : Nat) (cf : Nat → Int32) (x : Int32) (sz : Nat) : mq_V l (dC, dI) vwCl [(cB, .byte), (cI, .int)] yX2_add wsX2_add ({ frames := 0, cells := 0, slots := 0, locals := 0 }) [.ref h0, .int x] [(h0, .inr (3, [.ref d1, .ref d2, .ref d3, .ref d4, .int 0, .ref sh, .ref co, .int 0, .int 0, .int 0, .int 1, .int 0, .int 0, .int 0, .int 0, .int 0])), (co, .inl (cB, 40, .inl cf))] sz (fun (_u : Unit) => True) (fun (_u : Unit) => []) 0 0 := by
  refine Met.ofW (cc := cX2_add) (maxL := 2) (ret := none) (by decide) rfl ?_
  intro p e s m args below meth c s₁ B hml hv
  obtain ⟨rfl, hsz, hP, hK, hD0, hN⟩ := hv
  have hx := B.exec
  have hb := B.bytes
  have hr := B.returns
  have hts := atoms_spec (ws := wsX2_add) B.pre
  have hown : s.vm.findClass RX2 = some m.cls := findClass_of_methodNamed B.named
  have hlocks := B.notSynchronized
  have hiX2 : ∀ w ∈ u_ws RX2 TX2 16, w ∈ wsX2_add := by decide +kernel
  subst hsz
  have hD := hD0.self (sz := s.heap.size)
  generalize hAe : va_A [(h0, .inr (3, [.ref d1, .ref d2, .ref d3, .ref d4, .int 0, .ref sh, .ref co, .int 0, .int 0, .int 0, .int 1, .int 0, .int 0, .int 0, .int 0, .int 0])), (co, .inl (cB, 40, .inl cf))] s.heap.size = A at hD ⊢
  have hA : ∀ q : Nat, s.heap.size ≤ q → A q := fun q h => by rw [← hAe]; exact Or.inr h
  have hS : va_S A s.heap s.heap [] := va_S.rf
  have hP : va_P (dC, dI) vwCl [(h0, .inr (3, [.ref d1, .ref d2, .ref d3, .ref d4, .int 0, .ref sh, .ref co, .int 0, .int 0, .int 0, .int 1, .int 0, .int 0, .int 0, .int 0, .int 0])), (co, .inl (cB, 40, .inl cf))] s.heap := hP
  have hl := lv_entry ([.ref h0, .int x]) (n := 2) (Nat.le_of_ble_eq_true rfl)
  rw [lg_entry_eq]
  generalize (lg_sl ([.ref h0, .int x]) ++ List.replicate (2 - (lg_sl ([.ref h0, .int x])).length) Slot.unset).toArray = ls at hl ⊢
  have hl : lv_has ls 2 [(0, .ref h0), (1, .int x)] := hl
  refine lv_aload_n hx hb dX2_add_0 rfl (lv_at hl 0 rfl) ?_
  refine va_get (D := (dC, dI)) (ci := 3) (v := .int 0) (C := RX2) (T := TX2) (N := 16) hx hb hts hiX2 hown hK hP 0 rfl rfl 7 (by decide) (hts (.fieldLink RX2 51 "LibraryDisk" "collectedSize" "I") (by decide +kernel)) (fun _ h9 => h9) rfl dX2_add_1 ?_
  refine lv_aload_n hx hb dX2_add_4 rfl (lv_at hl 0 rfl) ?_
  refine va_get (D := (dC, dI)) (ci := 3) (v := .ref co) (C := RX2) (T := TX2) (N := 16) hx hb hts hiX2 hown hK hP 0 rfl rfl 6 (by decide) (hts (.fieldLink RX2 43 "LibraryDisk" "collected" "[B") (by decide +kernel)) (fun _ h9 => h9) rfl dX2_add_5 ?_
  refine va_alen hx hb hK hP 1 0 rfl rfl (v := 40) rfl dX2_add_8 ?_
  refine lv_icmp_lt (tgt := 13) hx hb dX2_add_9 (by decide) (fun c_9 => ?_) (fun c_9 => ?_)
  · skip
    refine lv_aload_n hx hb dX2_add_13 rfl (lv_at hl 0 rfl) ?_
    refine va_get (D := (dC, dI)) (ci := 3) (v := .ref co) (C := RX2) (T := TX2) (N := 16) hx hb hts hiX2 hown hK hP 0 rfl rfl 6 (by decide) (hts (.fieldLink RX2 43 "LibraryDisk" "collected" "[B") (by decide +kernel)) (fun _ h9 => h9) rfl dX2_add_14 ?_
    refine lv_aload_n hx hb dX2_add_17 rfl (lv_at hl 0 rfl) ?_
    refine va_get (D := (dC, dI)) (ci := 3) (v := .int 0) (C := RX2) (T := TX2) (N := 16) hx hb hts hiX2 hown hK hP 0 rfl rfl 7 (by decide) (hts (.fieldLink RX2 51 "LibraryDisk" "collectedSize" "I") (by decide +kernel)) (fun _ h9 => h9) rfl dX2_add_18 ?_
    refine lv_iload_n hx hb dX2_add_21 rfl (lv_at hl 1 rfl) ?_
    refine lv_i2b hx hb dX2_add_22 rfl ?_
    refine va_bast hx hb hK hP hD hS 1 0 rfl rfl (vp_in_nI (n := 0) (by decide) (by decide)) dX2_add_23 (fun H locs hP hD hS => ?_)
    have hP : va_P (dC, dI) vwCl [(h0, .inr (3, [.ref d1, .ref d2, .ref d3, .ref d4, .int 0, .ref sh, .ref co, .int 0, .int 0, .int 0, .int 1, .int 0, .int 0, .int 0, .int 0, .int 0])), (co, .inl (cB, 40, .inl (upd cf (0 : Int32).toNatClampNeg (vp_nar .byte x.toInt8.toInt32))))] H := hP
    have hD : va_D A [(h0, .inr (3, [.ref d1, .ref d2, .ref d3, .ref d4, .int 0, .ref sh, .ref co, .int 0, .int 0, .int 0, .int 1, .int 0, .int 0, .int 0, .int 0, .int 0])), (co, .inl (cB, 40, .inl (upd cf (0 : Int32).toNatClampNeg (vp_nar .byte x.toInt8.toInt32))))] := hD
    obtain ⟨f_1, ef_1⟩ : ∃ z : Nat → Int32, z = upd cf (0 : Int32).toNatClampNeg (vp_nar .byte x.toInt8.toInt32) := ⟨_, rfl⟩
    rw [← ef_1] at hP hD
    refine lv_aload_n hx hb dX2_add_24 rfl (lv_at hl 0 rfl) ?_
    refine lv_dup hx hb dX2_add_25 rfl ?_
    refine va_get (D := (dC, dI)) (ci := 3) (v := .int 0) (C := RX2) (T := TX2) (N := 16) hx hb hts hiX2 hown hK hP 0 rfl rfl 7 (by decide) (hts (.fieldLink RX2 51 "LibraryDisk" "collectedSize" "I") (by decide +kernel)) (fun _ h9 => h9) rfl dX2_add_26 ?_
    refine lv_iconst (v := 1) hx hb dX2_add_29 (by decide) ?_
    refine lv_iadd hx hb dX2_add_30 ?_
    refine lv_topi (fun x_2 ex_2 => ?_)
    refine va_put (D := (dC, dI)) (ci := 3) (v := .int x_2) (ty := .int) (C := RX2) (T := TX2) (N := 16) hx hb hts hiX2 tyX2 tyX2_ok nmX2 hown hK hP hD hS 0 rfl rfl 7 (by decide) (hts (.fieldLink RX2 51 "LibraryDisk" "collectedSize" "I") (by decide +kernel)) (fun _ h9 => h9) rfl (by decide +kernel) rfl rfl (Nat.le_of_ble_eq_true rfl) dX2_add_31 (fun H locs hP hD hS => ?_)
    have hP : va_P (dC, dI) vwCl [(h0, .inr (3, [.ref d1, .ref d2, .ref d3, .ref d4, .int 0, .ref sh, .ref co, .int x_2, .int 0, .int 0, .int 1, .int 0, .int 0, .int 0, .int 0, .int 0])), (co, .inl (cB, 40, .inl f_1))] H := hP
    have hD : va_D A [(h0, .inr (3, [.ref d1, .ref d2, .ref d3, .ref d4, .int 0, .ref sh, .ref co, .int x_2, .int 0, .int 0, .int 1, .int 0, .int 0, .int 0, .int 0, .int 0])), (co, .inl (cB, 40, .inl f_1))] := hD
    have hP9 := hP.sub (ws' := []) [] rfl
    have hD9 := hD.sub (ws' := []) [] (by decide) rfl
    exact W.vret hx hb hr (fun t ht hW => ⟨⟨(), rfl, trivial, by rw [ht]; exact hP9, va_K.moved hW.alike hK, by rw [hAe]; exact hD9⟩, hS.F ht⟩) hS.2.2 dX2_add_34
  · exact absurd (by decide) c_9
set_option maxHeartbeats 4000000 in
set_option maxRecDepth 100000 in
/-- freeSectors, nothing laid -/
theorem ct_X2_freeSectors (l : Launch) (dC : Nat → ClassId) (dI : Nat → Nat → Nat) (cB cI : ClassId) (h0 d1 d2 d3 d4 sh co : Nat) (e1 : Nat) (n : Nat) (hn : 3 ≤ n ∧ n ≤ 40) (o8 o9 o11 o14 : Int32) (sz : Nat) : mq_I l (dC, dI) vwCl [(cB, .byte), (cI, .int)] yX2_freeSectors wsX2_freeSectors ({ frames := 0, cells := 0, slots := 0, locals := 0 }) [.ref h0] [(h0, .inr (3, [.ref d1, .ref d2, .ref d3, .ref d4, .int 0, .ref sh, .ref co, .int 0, .int o8, .int o9, .int 1, .int o11, .int 0, .int 0, .int o14, .int 0])), (d1, .inr (2, [.int (nI n), .ref e1]))] sz (fun (r : Int32) (_u : Unit) => r = nI (n - 2)) (fun (_u : Unit) => [(h0, .inr (3, [.ref d1, .ref d2, .ref d3, .ref d4, .int 0, .ref sh, .ref co, .int 0, .int o8, .int o9, .int 1, .int o11, .int 0, .int 0, .int o14, .int 0])), (d1, .inr (2, [.int (nI n), .ref e1]))]) 0 0 := by
  refine Met.ofW (cc := cX2_freeSectors) (maxL := 1) (ret := (some .int)) (by decide) rfl ?_
  intro p e s m args below meth c s₁ B hml hv
  obtain ⟨rfl, hsz, hP, hK, hD0, hN⟩ := hv
  have hx := B.exec
  have hb := B.bytes
  have hr := B.returns
  have hts := atoms_spec (ws := wsX2_freeSectors) B.pre
  have hown : s.vm.findClass RX2 = some m.cls := findClass_of_methodNamed B.named
  have hlocks := B.notSynchronized
  have hiX1 : ∀ w ∈ u_ws RX1 TX1 2, w ∈ wsX2_freeSectors := by decide +kernel
  have hiX2 : ∀ w ∈ u_ws RX2 TX2 16, w ∈ wsX2_freeSectors := by decide +kernel
  subst hsz
  have hD := hD0.self (sz := s.heap.size)
  generalize hAe : va_A [(h0, .inr (3, [.ref d1, .ref d2, .ref d3, .ref d4, .int 0, .ref sh, .ref co, .int 0, .int o8, .int o9, .int 1, .int o11, .int 0, .int 0, .int o14, .int 0])), (d1, .inr (2, [.int (nI n), .ref e1]))] s.heap.size = A at hD ⊢
  have hA : ∀ q : Nat, s.heap.size ≤ q → A q := fun q h => by rw [← hAe]; exact Or.inr h
  have hS : va_S A s.heap s.heap [] := va_S.rf
  have hP : va_P (dC, dI) vwCl [(h0, .inr (3, [.ref d1, .ref d2, .ref d3, .ref d4, .int 0, .ref sh, .ref co, .int 0, .int o8, .int o9, .int 1, .int o11, .int 0, .int 0, .int o14, .int 0])), (d1, .inr (2, [.int (nI n), .ref e1]))] s.heap := hP
  have hl := lv_entry ([.ref h0]) (n := 1) (Nat.le_of_ble_eq_true rfl)
  rw [lg_entry_eq]
  generalize (lg_sl ([.ref h0]) ++ List.replicate (1 - (lg_sl ([.ref h0])).length) Slot.unset).toArray = ls at hl ⊢
  have hl : lv_has ls 1 [(0, .ref h0)] := hl
  refine lv_aload_n hx hb dX2_freeSectors_0 rfl (lv_at hl 0 rfl) ?_
  refine va_get (D := (dC, dI)) (ci := 3) (v := .ref d1) (C := RX2) (T := TX2) (N := 16) hx hb hts hiX2 hown hK hP 0 rfl rfl 0 (by decide) (hts (.fieldLink RX2 23 "LibraryDisk" "disk" "LLibraryDisk$Sectors;") (by decide +kernel)) (fun _ h9 => h9) rfl dX2_freeSectors_1 ?_
  refine va_getN (D := (dC, dI)) (ci := 2) (v := .int (nI n)) (C := RX1) (T := TX1) (N := 2) (host := "LibraryDisk") hx hb hts hiX1 hown hK hP 1 rfl rfl 0 (by decide) (nx_use hN 4 rfl rfl) (fun _ h9 => h9) rfl dX2_freeSectors_4 ?_
  refine lv_iconst (v := 2) hx hb dX2_freeSectors_7 (by decide) ?_
  refine lv_isub hx hb dX2_freeSectors_8 ?_
  refine lv_aload_n hx hb dX2_freeSectors_9 rfl (lv_at hl 0 rfl) ?_
  refine va_get (D := (dC, dI)) (ci := 3) (v := .int 0) (C := RX2) (T := TX2) (N := 16) hx hb hts hiX2 hown hK hP 0 rfl rfl 12 (by decide) (hts (.fieldLink RX2 79 "LibraryDisk" "logCount" "I") (by decide +kernel)) (fun _ h9 => h9) rfl dX2_freeSectors_10 ?_
  refine lv_isub hx hb dX2_freeSectors_13 ?_
  have hP9 := hP.sub (ws' := [(h0, .inr (3, [.ref d1, .ref d2, .ref d3, .ref d4, .int 0, .ref sh, .ref co, .int 0, .int o8, .int o9, .int 1, .int o11, .int 0, .int 0, .int o14, .int 0])), (d1, .inr (2, [.int (nI n), .ref e1]))]) [0, 1] rfl
  have hD9 := hD.sub (ws' := [(h0, .inr (3, [.ref d1, .ref d2, .ref d3, .ref d4, .int 0, .ref sh, .ref co, .int 0, .int o8, .int o9, .int 1, .int o11, .int 0, .int 0, .int o14, .int 0])), (d1, .inr (2, [.int (nI n), .ref e1]))]) [0, 1] (by decide) rfl
  exact W.iret (v := ((nI n) - (2 : Int32)) - (0 : Int32)) hx hb hr (fun t ht hW => ⟨⟨((nI n) - (2 : Int32)) - (0 : Int32), (), rfl, by rw [Int32.sub_zero, show (2 : Int32) = nI 2 from rfl, pk_sub (by omega)], by rw [ht]; exact hP9, va_K.moved hW.alike hK, by rw [hAe]; exact hD9⟩, hS.F ht⟩) hS.2.2 dX2_freeSectors_14
set_option maxHeartbeats 4000000 in
set_option maxRecDepth 100000 in
/-- needsFreshSector, none open -/
theorem ct_X2_needsFreshSector (l : Launch) (dC : Nat → ClassId) (dI : Nat → Nat → Nat) (cB cI : ClassId) (h0 d1 d2 d3 d4 sh co : Nat) (x : Int32) (sz : Nat) : mq_I l (dC, dI) vwCl [(cB, .byte), (cI, .int)] yX2_needsFreshSector wsX2_needsFreshSector ({ frames := 0, cells := 0, slots := 0, locals := 0 }) [.ref h0, .int x] [(h0, .inr (3, [.ref d1, .ref d2, .ref d3, .ref d4, .int 0, .ref sh, .ref co, .int 0, .int 0, .int 0, .int 1, .int 0, .int 0, .int 0, .int 0, .int 0]))] sz (fun (r : Int32) (_u : Unit) => r = 1) (fun (_u : Unit) => [(h0, .inr (3, [.ref d1, .ref d2, .ref d3, .ref d4, .int 0, .ref sh, .ref co, .int 0, .int 0, .int 0, .int 1, .int 0, .int 0, .int 0, .int 0, .int 0]))]) 0 0 := by
  refine Met.ofW (cc := cX2_needsFreshSector) (maxL := 2) (ret := (some .boolean)) (by decide) rfl ?_
  intro p e s m args below meth c s₁ B hml hv
  obtain ⟨rfl, hsz, hP, hK, hD0, hN⟩ := hv
  have hx := B.exec
  have hb := B.bytes
  have hr := B.returns
  have hts := atoms_spec (ws := wsX2_needsFreshSector) B.pre
  have hown : s.vm.findClass RX2 = some m.cls := findClass_of_methodNamed B.named
  have hlocks := B.notSynchronized
  have hiX2 : ∀ w ∈ u_ws RX2 TX2 16, w ∈ wsX2_needsFreshSector := by decide +kernel
  subst hsz
  have hD := hD0.self (sz := s.heap.size)
  generalize hAe : va_A [(h0, .inr (3, [.ref d1, .ref d2, .ref d3, .ref d4, .int 0, .ref sh, .ref co, .int 0, .int 0, .int 0, .int 1, .int 0, .int 0, .int 0, .int 0, .int 0]))] s.heap.size = A at hD ⊢
  have hA : ∀ q : Nat, s.heap.size ≤ q → A q := fun q h => by rw [← hAe]; exact Or.inr h
  have hS : va_S A s.heap s.heap [] := va_S.rf
  have hP : va_P (dC, dI) vwCl [(h0, .inr (3, [.ref d1, .ref d2, .ref d3, .ref d4, .int 0, .ref sh, .ref co, .int 0, .int 0, .int 0, .int 1, .int 0, .int 0, .int 0, .int 0, .int 0]))] s.heap := hP
  have hl := lv_entry ([.ref h0, .int x]) (n := 2) (Nat.le_of_ble_eq_true rfl)
  rw [lg_entry_eq]
  generalize (lg_sl ([.ref h0, .int x]) ++ List.replicate (2 - (lg_sl ([.ref h0, .int x])).length) Slot.unset).toArray = ls at hl ⊢
  have hl : lv_has ls 2 [(0, .ref h0), (1, .int x)] := hl
  refine lv_aload_n hx hb dX2_needsFreshSector_0 rfl (lv_at hl 0 rfl) ?_
  refine va_get (D := (dC, dI)) (ci := 3) (v := .int 0) (C := RX2) (T := TX2) (N := 16) hx hb hts hiX2 hown hK hP 0 rfl rfl 8 (by decide) (hts (.fieldLink RX2 66 "LibraryDisk" "openSectors" "I") (by decide +kernel)) (fun _ h9 => h9) rfl dX2_needsFreshSector_1 ?_
  refine lv_if_eq (tgt := 18) hx hb dX2_needsFreshSector_4 (by decide) (fun c_4 => ?_) (fun c_4 => ?_)
  · skip
    refine lv_iconst (v := 1) hx hb dX2_needsFreshSector_18 (by decide) ?_
    refine lv_goto (tgt := 23) hx hb dX2_needsFreshSector_19 (by decide) ?_
    have hP9 := hP.sub (ws' := [(h0, .inr (3, [.ref d1, .ref d2, .ref d3, .ref d4, .int 0, .ref sh, .ref co, .int 0, .int 0, .int 0, .int 1, .int 0, .int 0, .int 0, .int 0, .int 0]))]) [0] rfl
    have hD9 := hD.sub (ws' := [(h0, .inr (3, [.ref d1, .ref d2, .ref d3, .ref d4, .int 0, .ref sh, .ref co, .int 0, .int 0, .int 0, .int 1, .int 0, .int 0, .int 0, .int 0, .int 0]))]) [0] (by decide) rfl
    exact W.zret (v := 1) hx hb hr (by first | rfl | decide) (fun t ht hW => ⟨⟨1, (), rfl, rfl, by rw [ht]; exact hP9, va_K.moved hW.alike hK, by rw [hAe]; exact hD9⟩, hS.F ht⟩) hS.2.2 dX2_needsFreshSector_23
  · exact absurd (by decide) c_4
set_option maxHeartbeats 4000000 in
set_option maxRecDepth 100000 in
/-- takeRoom of a fresh sector -/
theorem ct_X2_takeRoom (l : Launch) (dC : Nat → ClassId) (dI : Nat → Nat → Nat) (cB cI : ClassId) (h0 d1 d2 d3 d4 sh co : Nat) (x : Int32) (sz : Nat) : mq_V l (dC, dI) vwCl [(cB, .byte), (cI, .int)] yX2_takeRoom wsX2_takeRoom ({ frames := 0, cells := 0, slots := 0, locals := 0 }) [.ref h0, .int x, .int 1] [(h0, .inr (3, [.ref d1, .ref d2, .ref d3, .ref d4, .int 0, .ref sh, .ref co, .int 0, .int 0, .int 0, .int 1, .int 0, .int 0, .int 0, .int 0, .int 0]))] sz (fun (u : (Int32 × Int32)) => True) (fun (u : (Int32 × Int32)) => [(h0, .inr (3, [.ref d1, .ref d2, .ref d3, .ref d4, .int 0, .ref sh, .ref co, .int 0, .int u.1, .int u.2, .int 1, .int 0, .int 0, .int 0, .int 0, .int 0]))]) 0 0 := by
  refine Met.ofW (cc := cX2_takeRoom) (maxL := 3) (ret := none) (by decide) rfl ?_
  intro p e s m args below meth c s₁ B hml hv
  obtain ⟨rfl, hsz, hP, hK, hD0, hN⟩ := hv
  have hx := B.exec
  have hb := B.bytes
  have hr := B.returns
  have hts := atoms_spec (ws := wsX2_takeRoom) B.pre
  have hown : s.vm.findClass RX2 = some m.cls := findClass_of_methodNamed B.named
  have hlocks := B.notSynchronized
  have hiX2 : ∀ w ∈ u_ws RX2 TX2 16, w ∈ wsX2_takeRoom := by decide +kernel
  subst hsz
  have hD := hD0.self (sz := s.heap.size)
  generalize hAe : va_A [(h0, .inr (3, [.ref d1, .ref d2, .ref d3, .ref d4, .int 0, .ref sh, .ref co, .int 0, .int 0, .int 0, .int 1, .int 0, .int 0, .int 0, .int 0, .int 0]))] s.heap.size = A at hD ⊢
  have hA : ∀ q : Nat, s.heap.size ≤ q → A q := fun q h => by rw [← hAe]; exact Or.inr h
  have hS : va_S A s.heap s.heap [] := va_S.rf
  have hP : va_P (dC, dI) vwCl [(h0, .inr (3, [.ref d1, .ref d2, .ref d3, .ref d4, .int 0, .ref sh, .ref co, .int 0, .int 0, .int 0, .int 1, .int 0, .int 0, .int 0, .int 0, .int 0]))] s.heap := hP
  have hl := lv_entry ([.ref h0, .int x, .int 1]) (n := 3) (Nat.le_of_ble_eq_true rfl)
  rw [lg_entry_eq]
  generalize (lg_sl ([.ref h0, .int x, .int 1]) ++ List.replicate (3 - (lg_sl ([.ref h0, .int x, .int 1])).length) Slot.unset).toArray = ls at hl ⊢
  have hl : lv_has ls 3 [(0, .ref h0), (1, .int x), (2, .int 1)] := hl
  refine lv_iload_n hx hb dX2_takeRoom_0 rfl (lv_at hl 2 rfl) ?_
  refine lv_if_eq (tgt := 19) hx hb dX2_takeRoom_1 (by decide) (fun c_1 => ?_) (fun c_1 => ?_)
  · exact absurd c_1 (by decide)
  · skip
    refine lv_aload_n hx hb dX2_takeRoom_4 rfl (lv_at hl 0 rfl) ?_
    refine lv_dup hx hb dX2_takeRoom_5 rfl ?_
    refine va_get (D := (dC, dI)) (ci := 3) (v := .int 0) (C := RX2) (T := TX2) (N := 16) hx hb hts hiX2 hown hK hP 0 rfl rfl 8 (by decide) (hts (.fieldLink RX2 66 "LibraryDisk" "openSectors" "I") (by decide +kernel)) (fun _ h9 => h9) rfl dX2_takeRoom_6 ?_
    refine lv_iconst (v := 1) hx hb dX2_takeRoom_9 (by decide) ?_
    refine lv_iadd hx hb dX2_takeRoom_10 ?_
    refine lv_topi (fun x_1 ex_1 => ?_)
    refine va_put (D := (dC, dI)) (ci := 3) (v := .int x_1) (ty := .int) (C := RX2) (T := TX2) (N := 16) hx hb hts hiX2 tyX2 tyX2_ok nmX2 hown hK hP hD hS 0 rfl rfl 8 (by decide) (hts (.fieldLink RX2 66 "LibraryDisk" "openSectors" "I") (by decide +kernel)) (fun _ h9 => h9) rfl (by decide +kernel) rfl rfl (Nat.le_of_ble_eq_true rfl) dX2_takeRoom_11 (fun H locs hP hD hS => ?_)
    have hP : va_P (dC, dI) vwCl [(h0, .inr (3, [.ref d1, .ref d2, .ref d3, .ref d4, .int 0, .ref sh, .ref co, .int 0, .int x_1, .int 0, .int 1, .int 0, .int 0, .int 0, .int 0, .int 0]))] H := hP
    have hD : va_D A [(h0, .inr (3, [.ref d1, .ref d2, .ref d3, .ref d4, .int 0, .ref sh, .ref co, .int 0, .int x_1, .int 0, .int 1, .int 0, .int 0, .int 0, .int 0, .int 0]))] := hD
    refine lv_aload_n hx hb dX2_takeRoom_14 rfl (lv_at hl 0 rfl) ?_
    refine lv_iconst (v := 0) hx hb dX2_takeRoom_15 (by decide) ?_
    refine va_put (D := (dC, dI)) (ci := 3) (v := .int 0) (ty := .int) (C := RX2) (T := TX2) (N := 16) hx hb hts hiX2 tyX2 tyX2_ok nmX2 hown hK hP hD hS 0 rfl rfl 9 (by decide) (hts (.fieldLink RX2 171 "LibraryDisk" "openFill" "I") (by decide +kernel)) (fun _ h9 => h9) rfl (by decide +kernel) rfl rfl (Nat.le_of_ble_eq_true rfl) dX2_takeRoom_16 (fun H locs hP hD hS => ?_)
    have hP : va_P (dC, dI) vwCl [(h0, .inr (3, [.ref d1, .ref d2, .ref d3, .ref d4, .int 0, .ref sh, .ref co, .int 0, .int x_1, .int 0, .int 1, .int 0, .int 0, .int 0, .int 0, .int 0]))] H := hP
    have hD : va_D A [(h0, .inr (3, [.ref d1, .ref d2, .ref d3, .ref d4, .int 0, .ref sh, .ref co, .int 0, .int x_1, .int 0, .int 1, .int 0, .int 0, .int 0, .int 0, .int 0]))] := hD
    refine lv_aload_n hx hb dX2_takeRoom_19 rfl (lv_at hl 0 rfl) ?_
    refine lv_dup hx hb dX2_takeRoom_20 rfl ?_
    refine va_get (D := (dC, dI)) (ci := 3) (v := .int 0) (C := RX2) (T := TX2) (N := 16) hx hb hts hiX2 hown hK hP 0 rfl rfl 9 (by decide) (hts (.fieldLink RX2 171 "LibraryDisk" "openFill" "I") (by decide +kernel)) (fun _ h9 => h9) rfl dX2_takeRoom_21 ?_
    refine lv_iload_n hx hb dX2_takeRoom_24 rfl (lv_at hl 1 rfl) ?_
    refine lv_iadd hx hb dX2_takeRoom_25 ?_
    refine lv_topi (fun x_2 ex_2 => ?_)
    refine va_put (D := (dC, dI)) (ci := 3) (v := .int x_2) (ty := .int) (C := RX2) (T := TX2) (N := 16) hx hb hts hiX2 tyX2 tyX2_ok nmX2 hown hK hP hD hS 0 rfl rfl 9 (by decide) (hts (.fieldLink RX2 171 "LibraryDisk" "openFill" "I") (by decide +kernel)) (fun _ h9 => h9) rfl (by decide +kernel) rfl rfl (Nat.le_of_ble_eq_true rfl) dX2_takeRoom_26 (fun H locs hP hD hS => ?_)
    have hP : va_P (dC, dI) vwCl [(h0, .inr (3, [.ref d1, .ref d2, .ref d3, .ref d4, .int 0, .ref sh, .ref co, .int 0, .int x_1, .int x_2, .int 1, .int 0, .int 0, .int 0, .int 0, .int 0]))] H := hP
    have hD : va_D A [(h0, .inr (3, [.ref d1, .ref d2, .ref d3, .ref d4, .int 0, .ref sh, .ref co, .int 0, .int x_1, .int x_2, .int 1, .int 0, .int 0, .int 0, .int 0, .int 0]))] := hD
    have hP9 := hP.sub (ws' := [(h0, .inr (3, [.ref d1, .ref d2, .ref d3, .ref d4, .int 0, .ref sh, .ref co, .int 0, .int x_1, .int x_2, .int 1, .int 0, .int 0, .int 0, .int 0, .int 0]))]) [0] rfl
    have hD9 := hD.sub (ws' := [(h0, .inr (3, [.ref d1, .ref d2, .ref d3, .ref d4, .int 0, .ref sh, .ref co, .int 0, .int x_1, .int x_2, .int 1, .int 0, .int 0, .int 0, .int 0, .int 0]))]) [0] (by decide) rfl
    exact W.vret hx hb hr (fun t ht hW => ⟨⟨(x_1, x_2), rfl, trivial, by rw [ht]; exact hP9, va_K.moved hW.alike hK, by rw [hAe]; exact hD9⟩, hS.F ht⟩) hS.2.2 dX2_takeRoom_29
set_option maxHeartbeats 4000000 in
set_option maxRecDepth 100000 in
/-- shelveCollected, nothing collected -/
theorem ct_X2_shelveCollected (l : Launch) (dC : Nat → ClassId) (dI : Nat → Nat → Nat) (cB cI : ClassId) (h0 d1 d2 d3 d4 sh co : Nat) (k1 k2 k3 k4 k5 : Nat) (mm : Nat) (hm : 0 < mm ∧ mm ≤ 1026) (f1 f2 f3 f4 : Nat → Int32) (o8 o9 : Int32) (x : Int32) (sz : Nat) : mq_V l (dC, dI) vwCl [(cB, .byte), (cI, .int)] yX2_shelveCollected wsX2_shelveCollected ({ frames := 1, cells := 0, slots := 0, locals := 22 }) [.ref h0, .int x] [(h0, .inr (3, [.ref d1, .ref d2, .ref d3, .ref d4, .int 0, .ref sh, .ref co, .int 0, .int o8, .int o9, .int 1, .int 0, .int 0, .int 0, .int 0, .int 0])), (sh, .inr (1, [.ref k1, .ref k2, .ref k3, .ref k4, .ref k5, .int 0, .int 0, .int 0])), (k1, .inl (cI, mm, .inl f1)), (k2, .inl (cI, mm, .inl f2)), (k3, .inl (cI, mm, .inl f3)), (k4, .inl (cI, mm, .inl f4))] sz (fun (_u : Unit) => True) (fun (_u : Unit) => [(h0, .inr (3, [.ref d1, .ref d2, .ref d3, .ref d4, .int 0, .ref sh, .ref co, .int 0, .int o8, .int o9, .int 1, .int 0, .int 0, .int 0, .int 0, .int 0])), (sh, .inr (1, [.ref k1, .ref k2, .ref k3, .ref k4, .ref k5, .int 1, .int 0, .int 0]))]) 0 0 := by
  refine Met.ofW (cc := cX2_shelveCollected) (maxL := 3) (ret := none) (by decide) rfl ?_
  intro p e s m args below meth c s₁ B hml hv
  obtain ⟨rfl, hsz, hP, hK, hD0, hN⟩ := hv
  have hx := B.exec
  have hb := B.bytes
  have hr := B.returns
  have hts := atoms_spec (ws := wsX2_shelveCollected) B.pre
  have hown : s.vm.findClass RX2 = some m.cls := findClass_of_methodNamed B.named
  have hlocks := B.notSynchronized
  have hiX2 : ∀ w ∈ u_ws RX2 TX2 16, w ∈ wsX2_shelveCollected := by decide +kernel
  subst hsz
  have hD := hD0.self (sz := s.heap.size)
  generalize hAe : va_A [(h0, .inr (3, [.ref d1, .ref d2, .ref d3, .ref d4, .int 0, .ref sh, .ref co, .int 0, .int o8, .int o9, .int 1, .int 0, .int 0, .int 0, .int 0, .int 0])), (sh, .inr (1, [.ref k1, .ref k2, .ref k3, .ref k4, .ref k5, .int 0, .int 0, .int 0])), (k1, .inl (cI, mm, .inl f1)), (k2, .inl (cI, mm, .inl f2)), (k3, .inl (cI, mm, .inl f3)), (k4, .inl (cI, mm, .inl f4))] s.heap.size = A at hD ⊢
  have hA : ∀ q : Nat, s.heap.size ≤ q → A q := fun q h => by rw [← hAe]; exact Or.inr h
  have hS : va_S A s.heap s.heap [] := va_S.rf
  have hP : va_P (dC, dI) vwCl [(h0, .inr (3, [.ref d1, .ref d2, .ref d3, .ref d4, .int 0, .ref sh, .ref co, .int 0, .int o8, .int o9, .int 1, .int 0, .int 0, .int 0, .int 0, .int 0])), (sh, .inr (1, [.ref k1, .ref k2, .ref k3, .ref k4, .ref k5, .int 0, .int 0, .int 0])), (k1, .inl (cI, mm, .inl f1)), (k2, .inl (cI, mm, .inl f2)), (k3, .inl (cI, mm, .inl f3)), (k4, .inl (cI, mm, .inl f4))] s.heap := hP
  have hl := lv_entry ([.ref h0, .int x]) (n := 3) (Nat.le_of_ble_eq_true rfl)
  rw [lg_entry_eq]
  generalize (lg_sl ([.ref h0, .int x]) ++ List.replicate (3 - (lg_sl ([.ref h0, .int x])).length) Slot.unset).toArray = ls at hl ⊢
  have hl : lv_has ls 3 [(0, .ref h0), (1, .int x)] := hl
  refine lv_aload_n hx hb dX2_shelveCollected_0 rfl (lv_at hl 0 rfl) ?_
  refine va_get (D := (dC, dI)) (ci := 3) (v := .ref sh) (C := RX2) (T := TX2) (N := 16) hx hb hts hiX2 hown hK hP 0 rfl rfl 5 (by decide) (hts (.fieldLink RX2 39 "LibraryDisk" "shelf" "LLibraryDisk$Rows;") (by decide +kernel)) (fun _ h9 => h9) rfl dX2_shelveCollected_1 ?_
  refine lv_iload_n hx hb dX2_shelveCollected_4 rfl (lv_at hl 1 rfl) ?_
  refine lv_iconst (v := (-1)) hx hb dX2_shelveCollected_5 (by decide) ?_
  refine mq_callv (wr := [(h0, .inr (3, [.ref d1, .ref d2, .ref d3, .ref d4, .int 0, .ref sh, .ref co, .int 0, .int o8, .int o9, .int 1, .int 0, .int 0, .int 0, .int 0, .int 0]))]) (fun (_u : Unit) => [(h0, .inr (3, [.ref d1, .ref d2, .ref d3, .ref d4, .int 0, .ref sh, .ref co, .int 0, .int o8, .int o9, .int 1, .int 0, .int 0, .int 0, .int 0, .int 0])), (sh, .inr (1, [.ref k1, .ref k2, .ref k3, .ref k4, .ref k5, .int 1, .int 0, .int 0]))]) (va_runV (As := [.int x, .int (-1)]) (rest := []) ⟨hx, hb, hml, hown, hts⟩ (ct_X0_open_0 l dC dI cB cI sh k1 k2 k3 k4 k5 mm hm f1 f2 f3 f4 x (-1) s.heap.size) (cwV 2 hts gX2_shelveCollected_X0_open rfl rfl rfl (by decide +kernel) ⟨Nat.le_of_ble_eq_true rfl, Nat.le_of_ble_eq_true rfl⟩) ⟨mq_blind, va_recv hK hP (ci := 1) (q0 := 1) rfl rfl, mq_pre hK hN hP hD [1, 2, 3, 4, 5] rfl (by decide)⟩ rfl rfl hl.1 rfl (lv_room (Nat.le_of_ble_eq_true rfl)) dX2_shelveCollected_6 ⟨Nat.le_of_ble_eq_true rfl, Nat.le_of_ble_eq_true rfl⟩) hP hD hS hA [1, 2, 3, 4, 5] [0] [0, 1] rfl rfl (by decide) (by decide) (by decide) (fun _ => rfl) (fun _ H locs hw_6 hP hD hS => ?_)
  have hP : va_P (dC, dI) vwCl [(h0, .inr (3, [.ref d1, .ref d2, .ref d3, .ref d4, .int 0, .ref sh, .ref co, .int 0, .int o8, .int o9, .int 1, .int 0, .int 0, .int 0, .int 0, .int 0])), (sh, .inr (1, [.ref k1, .ref k2, .ref k3, .ref k4, .ref k5, .int 1, .int 0, .int 0]))] H := hP
  have hD : va_D A [(h0, .inr (3, [.ref d1, .ref d2, .ref d3, .ref d4, .int 0, .ref sh, .ref co, .int 0, .int o8, .int o9, .int 1, .int 0, .int 0, .int 0, .int 0, .int 0])), (sh, .inr (1, [.ref k1, .ref k2, .ref k3, .ref k4, .ref k5, .int 1, .int 0, .int 0]))] := hD
  refine lv_iconst (v := 0) hx hb dX2_shelveCollected_9 (by decide) ?_
  refine lv_istore_n (lv' := [(2, .int 0), (0, .ref h0), (1, .int x)]) hx hb dX2_shelveCollected_10 rfl hl (by decide) rfl (fun ls hl => ?_)
  refine lv_iload_n hx hb dX2_shelveCollected_11 rfl (lv_at hl 0 rfl) ?_
  refine lv_aload_n hx hb dX2_shelveCollected_12 rfl (lv_at hl 1 rfl) ?_
  refine va_get (D := (dC, dI)) (ci := 3) (v := .int 0) (C := RX2) (T := TX2) (N := 16) hx hb hts hiX2 hown hK hP 0 rfl rfl 7 (by decide) (hts (.fieldLink RX2 51 "LibraryDisk" "collectedSize" "I") (by decide +kernel)) (fun _ h9 => h9) rfl dX2_shelveCollected_13 ?_
  refine lv_icmp_ge (tgt := 47) hx hb dX2_shelveCollected_16 (by decide) (fun c_16 => ?_) (fun c_16 => ?_)
  · skip
    refine lv_aload_n hx hb dX2_shelveCollected_47 rfl (lv_at hl 1 rfl) ?_
    refine lv_iconst (v := 0) hx hb dX2_shelveCollected_48 (by decide) ?_
    refine va_put (D := (dC, dI)) (ci := 3) (v := .int 0) (ty := .int) (C := RX2) (T := TX2) (N := 16) hx hb hts hiX2 tyX2 tyX2_ok nmX2 hown hK hP hD hS 0 rfl rfl 7 (by decide) (hts (.fieldLink RX2 51 "LibraryDisk" "collectedSize" "I") (by decide +kernel)) (fun _ h9 => h9) rfl (by decide +kernel) rfl rfl (Nat.le_of_ble_eq_true rfl) dX2_shelveCollected_49 (fun H locs hP hD hS => ?_)
    have hP : va_P (dC, dI) vwCl [(h0, .inr (3, [.ref d1, .ref d2, .ref d3, .ref d4, .int 0, .ref sh, .ref co, .int 0, .int o8, .int o9, .int 1, .int 0, .int 0, .int 0, .int 0, .int 0])), (sh, .inr (1, [.ref k1, .ref k2, .ref k3, .ref k4, .ref k5, .int 1, .int 0, .int 0]))] H := hP
    have hD : va_D A [(h0, .inr (3, [.ref d1, .ref d2, .ref d3, .ref d4, .int 0, .ref sh, .ref co, .int 0, .int o8, .int o9, .int 1, .int 0, .int 0, .int 0, .int 0, .int 0])), (sh, .inr (1, [.ref k1, .ref k2, .ref k3, .ref k4, .ref k5, .int 1, .int 0, .int 0]))] := hD
    have hP9 := hP.sub (ws' := [(h0, .inr (3, [.ref d1, .ref d2, .ref d3, .ref d4, .int 0, .ref sh, .ref co, .int 0, .int o8, .int o9, .int 1, .int 0, .int 0, .int 0, .int 0, .int 0])), (sh, .inr (1, [.ref k1, .ref k2, .ref k3, .ref k4, .ref k5, .int 1, .int 0, .int 0]))]) [0, 1] rfl
    have hD9 := hD.sub (ws' := [(h0, .inr (3, [.ref d1, .ref d2, .ref d3, .ref d4, .int 0, .ref sh, .ref co, .int 0, .int o8, .int o9, .int 1, .int 0, .int 0, .int 0, .int 0, .int 0])), (sh, .inr (1, [.ref k1, .ref k2, .ref k3, .ref k4, .ref k5, .int 1, .int 0, .int 0]))]) [0, 1] (by decide) rfl
    exact W.vret hx hb hr (fun t ht hW => ⟨⟨(), rfl, trivial, by rw [ht]; exact hP9, va_K.moved hW.alike hK, by rw [hAe]; exact hD9⟩, hS.F ht⟩) hS.2.2 dX2_shelveCollected_52
  · exact absurd (by decide) c_16
set_option maxHeartbeats 4000000 in
set_option maxRecDepth 100000 in
/-- end, fresh -/
theorem ct_X2_end (l : Launch) (dC : Nat → ClassId) (dI : Nat → Nat → Nat) (cB cI : ClassId) (h0 d1 d2 d3 d4 sh co : Nat) (k1 k2 k3 k4 k5 : Nat) (mm : Nat) (hm : 0 < mm ∧ mm ≤ 1026) (f1 f2 f3 f4 : Nat → Int32) (e1 : Nat) (n : Nat) (hn : 3 ≤ n ∧ n ≤ 40) (x : Int32) (sz : Nat) : mq_I l (dC, dI) vwCl [(cB, .byte), (cI, .int)] yX2_end wsX2_end ({ frames := 2, cells := 0, slots := 0, locals := 44 }) [.ref h0, .int x] [(h0, .inr (3, [.ref d1, .ref d2, .ref d3, .ref d4, .int 0, .ref sh, .ref co, .int 0, .int 0, .int 0, .int 1, .int 0, .int 0, .int 0, .int 0, .int 0])), (d1, .inr (2, [.int (nI n), .ref e1])), (sh, .inr (1, [.ref k1, .ref k2, .ref k3, .ref k4, .ref k5, .int 0, .int 0, .int 0])), (k1, .inl (cI, mm, .inl f1)), (k2, .inl (cI, mm, .inl f2)), (k3, .inl (cI, mm, .inl f3)), (k4, .inl (cI, mm, .inl f4))] sz (fun (r : Int32) (_u : Unit) => r = e_end x) (fun (_u : Unit) => []) 0 0 := by
  refine Met.ofW (cc := cX2_end) (maxL := 4) (ret := (some .int)) (by decide) rfl ?_
  intro p e s m args below meth c s₁ B hml hv
  obtain ⟨rfl, hsz, hP, hK, hD0, hN⟩ := hv
  have hx := B.exec
  have hb := B.bytes
  have hr := B.returns
  have hts := atoms_spec (ws := wsX2_end) B.pre
  have hown : s.vm.findClass RX2 = some m.cls := findClass_of_methodNamed B.named
  have hlocks := B.notSynchronized
  have hiX0 : ∀ w ∈ u_ws RX0 TX0 8, w ∈ wsX2_end := by decide +kernel
  have hiX2 : ∀ w ∈ u_ws RX2 TX2 16, w ∈ wsX2_end := by decide +kernel
  subst hsz
  have hD := hD0.self (sz := s.heap.size)
  generalize hAe : va_A [(h0, .inr (3, [.ref d1, .ref d2, .ref d3, .ref d4, .int 0, .ref sh, .ref co, .int 0, .int 0, .int 0, .int 1, .int 0, .int 0, .int 0, .int 0, .int 0])), (d1, .inr (2, [.int (nI n), .ref e1])), (sh, .inr (1, [.ref k1, .ref k2, .ref k3, .ref k4, .ref k5, .int 0, .int 0, .int 0])), (k1, .inl (cI, mm, .inl f1)), (k2, .inl (cI, mm, .inl f2)), (k3, .inl (cI, mm, .inl f3)), (k4, .inl (cI, mm, .inl f4))] s.heap.size = A at hD ⊢
  have hA : ∀ q : Nat, s.heap.size ≤ q → A q := fun q h => by rw [← hAe]; exact Or.inr h
  have hS : va_S A s.heap s.heap [] := va_S.rf
  have hP : va_P (dC, dI) vwCl [(h0, .inr (3, [.ref d1, .ref d2, .ref d3, .ref d4, .int 0, .ref sh, .ref co, .int 0, .int 0, .int 0, .int 1, .int 0, .int 0, .int 0, .int 0, .int 0])), (d1, .inr (2, [.int (nI n), .ref e1])), (sh, .inr (1, [.ref k1, .ref k2, .ref k3, .ref k4, .ref k5, .int 0, .int 0, .int 0])), (k1, .inl (cI, mm, .inl f1)), (k2, .inl (cI, mm, .inl f2)), (k3, .inl (cI, mm, .inl f3)), (k4, .inl (cI, mm, .inl f4))] s.heap := hP
  have hl := lv_entry ([.ref h0, .int x]) (n := 4) (Nat.le_of_ble_eq_true rfl)
  rw [lg_entry_eq]
  generalize (lg_sl ([.ref h0, .int x]) ++ List.replicate (4 - (lg_sl ([.ref h0, .int x])).length) Slot.unset).toArray = ls at hl ⊢
  have hl : lv_has ls 4 [(0, .ref h0), (1, .int x)] := hl
  refine lv_aload_n hx hb dX2_end_0 rfl (lv_at hl 0 rfl) ?_
  refine va_get (D := (dC, dI)) (ci := 3) (v := .int 1) (C := RX2) (T := TX2) (N := 16) hx hb hts hiX2 hown hK hP 0 rfl rfl 10 (by decide) (hts (.fieldLink RX2 47 "LibraryDisk" "on" "Z") (by decide +kernel)) (fun _ h9 => h9) rfl dX2_end_1 ?_
  refine lv_if_ne (tgt := 10) hx hb dX2_end_4 (by decide) (fun c_4 => ?_) (fun c_4 => ?_)
  · skip
    refine lv_iload_n hx hb dX2_end_10 rfl (lv_at hl 1 rfl) ?_
    refine lv_if_lt (tgt := 19) hx hb dX2_end_11 (by decide) (fun c_11 => ?_) (fun c_11 => ?_)
    · skip
      refine lv_bipush (v := (-2)) hx hb dX2_end_19 (by decide) ?_
      have hP9 := hP.sub (ws' := []) [] rfl
      have hD9 := hD.sub (ws' := []) [] (by decide) rfl
      exact W.iret (v := (-2)) hx hb hr (fun t ht hW => ⟨⟨(-2), (), rfl, by unfold e_end; rw [if_pos c_11], by rw [ht]; exact hP9, va_K.moved hW.alike hK, by rw [hAe]; exact hD9⟩, hS.F ht⟩) hS.2.2 dX2_end_21
    · skip
      refine lv_iload_n hx hb dX2_end_14 rfl (lv_at hl 1 rfl) ?_
      refine lv_iconst (v := 3) hx hb dX2_end_15 (by decide) ?_
      refine lv_icmp_le (tgt := 22) hx hb dX2_end_16 (by decide) (fun c_16 => ?_) (fun c_16 => ?_)
      · skip
        refine lv_iconst (v := 2) hx hb dX2_end_22 (by decide) ?_
        refine lv_aload_n hx hb dX2_end_23 rfl (lv_at hl 0 rfl) ?_
        refine va_get (D := (dC, dI)) (ci := 3) (v := .int 0) (C := RX2) (T := TX2) (N := 16) hx hb hts hiX2 hown hK hP 0 rfl rfl 7 (by decide) (hts (.fieldLink RX2 51 "LibraryDisk" "collectedSize" "I") (by decide +kernel)) (fun _ h9 => h9) rfl dX2_end_24 ?_
        refine lv_iadd hx hb dX2_end_27 ?_
        refine lv_topi (fun x_1 ex_1 => ?_)
        refine lv_istore_n (lv' := [(2, .int x_1), (0, .ref h0), (1, .int x)]) hx hb dX2_end_28 rfl hl (by decide) rfl (fun ls hl => ?_)
        refine lv_aload_n hx hb dX2_end_29 rfl (lv_at hl 1 rfl) ?_
        refine lv_iload_n hx hb dX2_end_30 rfl (lv_at hl 0 rfl) ?_
        refine mq_calli (wr := [(d1, .inr (2, [.int (nI n), .ref e1])), (sh, .inr (1, [.ref k1, .ref k2, .ref k3, .ref k4, .ref k5, .int 0, .int 0, .int 0])), (k1, .inl (cI, mm, .inl f1)), (k2, .inl (cI, mm, .inl f2)), (k3, .inl (cI, mm, .inl f3)), (k4, .inl (cI, mm, .inl f4))]) (fun (_u : Unit) => [(h0, .inr (3, [.ref d1, .ref d2, .ref d3, .ref d4, .int 0, .ref sh, .ref co, .int 0, .int 0, .int 0, .int 1, .int 0, .int 0, .int 0, .int 0, .int 0])), (d1, .inr (2, [.int (nI n), .ref e1])), (sh, .inr (1, [.ref k1, .ref k2, .ref k3, .ref k4, .ref k5, .int 0, .int 0, .int 0])), (k1, .inl (cI, mm, .inl f1)), (k2, .inl (cI, mm, .inl f2)), (k3, .inl (cI, mm, .inl f3)), (k4, .inl (cI, mm, .inl f4))]) (va_runV (As := [.int x_1]) (rest := []) ⟨hx, hb, hml, hown, hts⟩ (ct_X2_needsFreshSector l dC dI cB cI h0 d1 d2 d3 d4 sh co x_1 s.heap.size) (cwV 1 hts gX2_end_X2_needsFreshSector rfl rfl rfl (by decide +kernel) ⟨Nat.le_of_ble_eq_true rfl, Nat.le_of_ble_eq_true rfl⟩) ⟨mq_blind, va_recv hK hP (ci := 3) (q0 := 0) rfl rfl, mq_pre hK hN hP hD [0] rfl (by decide)⟩ rfl rfl hl.1 rfl (lv_room (Nat.le_of_ble_eq_true rfl)) dX2_end_31 ⟨Nat.le_of_ble_eq_true rfl, Nat.le_of_ble_eq_true rfl⟩) hP hD hS hA [0] [1, 2, 3, 4, 5, 6] [6, 0, 1, 2, 3, 4, 5] rfl rfl (by decide) (by decide) (by decide) (fun _ => rfl) (fun r_2 _ H locs hw_31 hP hD hS => ?_)
        have hP : va_P (dC, dI) vwCl [(h0, .inr (3, [.ref d1, .ref d2, .ref d3, .ref d4, .int 0, .ref sh, .ref co, .int 0, .int 0, .int 0, .int 1, .int 0, .int 0, .int 0, .int 0, .int 0])), (d1, .inr (2, [.int (nI n), .ref e1])), (sh, .inr (1, [.ref k1, .ref k2, .ref k3, .ref k4, .ref k5, .int 0, .int 0, .int 0])), (k1, .inl (cI, mm, .inl f1)), (k2, .inl (cI, mm, .inl f2)), (k3, .inl (cI, mm, .inl f3)), (k4, .inl (cI, mm, .inl f4))] H := hP
        have hD : va_D A [(h0, .inr (3, [.ref d1, .ref d2, .ref d3, .ref d4, .int 0, .ref sh, .ref co, .int 0, .int 0, .int 0, .int 1, .int 0, .int 0, .int 0, .int 0, .int 0])), (d1, .inr (2, [.int (nI n), .ref e1])), (sh, .inr (1, [.ref k1, .ref k2, .ref k3, .ref k4, .ref k5, .int 0, .int 0, .int 0])), (k1, .inl (cI, mm, .inl f1)), (k2, .inl (cI, mm, .inl f2)), (k3, .inl (cI, mm, .inl f3)), (k4, .inl (cI, mm, .inl f4))] := hD
        refine lv_istore_n (lv' := [(3, .int r_2), (2, .int x_1), (0, .ref h0), (1, .int x)]) hx hb dX2_end_34 rfl hl (by decide) rfl (fun ls hl => ?_)
        refine lv_aload_n hx hb dX2_end_35 rfl (lv_at hl 2 rfl) ?_
        refine va_get (D := (dC, dI)) (ci := 3) (v := .ref sh) (C := RX2) (T := TX2) (N := 16) hx hb hts hiX2 hown hK hP 0 rfl rfl 5 (by decide) (hts (.fieldLink RX2 39 "LibraryDisk" "shelf" "LLibraryDisk$Rows;") (by decide +kernel)) (fun _ h9 => h9) rfl dX2_end_36 ?_
        refine va_getN (D := (dC, dI)) (ci := 1) (v := .int 0) (C := RX0) (T := TX0) (N := 8) (host := "LibraryDisk") hx hb hts hiX0 hown hK hP 2 rfl rfl 5 (by decide) (nx_use hN 5 rfl rfl) (fun _ h9 => h9) rfl dX2_end_39 ?_
        refine lv_sipush (v := 300) hx hb dX2_end_42 (by decide) ?_
        refine lv_icmp_ge (tgt := 63) hx hb dX2_end_45 (by decide) (fun c_45 => ?_) (fun c_45 => ?_)
        · exact absurd c_45 (by decide)
        · skip
          refine lv_iload_n hx hb dX2_end_48 rfl (lv_at hl 0 rfl) ?_
          refine lv_if_eq (tgt := 66) hx hb dX2_end_49 (by decide) (fun c_49 => ?_) (fun c_49 => ?_)
          · exact absurd (hw_31.symm.trans c_49) (by decide)
          · skip
            refine lv_aload_n hx hb dX2_end_52 rfl (lv_at hl 2 rfl) ?_
            refine mq_calli (wr := [(sh, .inr (1, [.ref k1, .ref k2, .ref k3, .ref k4, .ref k5, .int 0, .int 0, .int 0])), (k1, .inl (cI, mm, .inl f1)), (k2, .inl (cI, mm, .inl f2)), (k3, .inl (cI, mm, .inl f3)), (k4, .inl (cI, mm, .inl f4))]) (fun (_u : Unit) => [(h0, .inr (3, [.ref d1, .ref d2, .ref d3, .ref d4, .int 0, .ref sh, .ref co, .int 0, .int 0, .int 0, .int 1, .int 0, .int 0, .int 0, .int 0, .int 0])), (d1, .inr (2, [.int (nI n), .ref e1])), (sh, .inr (1, [.ref k1, .ref k2, .ref k3, .ref k4, .ref k5, .int 0, .int 0, .int 0])), (k1, .inl (cI, mm, .inl f1)), (k2, .inl (cI, mm, .inl f2)), (k3, .inl (cI, mm, .inl f3)), (k4, .inl (cI, mm, .inl f4))]) (va_runV (As := []) (rest := []) ⟨hx, hb, hml, hown, hts⟩ (ct_X2_freeSectors l dC dI cB cI h0 d1 d2 d3 d4 sh co e1 n hn 0 0 0 0 H.size) (cwV 0 hts gX2_end_X2_freeSectors rfl rfl rfl (by decide +kernel) ⟨Nat.le_of_ble_eq_true rfl, Nat.le_of_ble_eq_true rfl⟩) ⟨mq_blind, va_recv hK hP (ci := 3) (q0 := 0) rfl rfl, mq_pre hK hN hP hD [0, 1] rfl (by decide)⟩ rfl rfl hl.1 rfl (lv_room (Nat.le_of_ble_eq_true rfl)) dX2_end_53 ⟨Nat.le_of_ble_eq_true rfl, Nat.le_of_ble_eq_true rfl⟩) hP hD hS hA [0, 1] [2, 3, 4, 5, 6] [5, 6, 0, 1, 2, 3, 4] rfl rfl (by decide) (by decide) (by decide) (fun _ => rfl) (fun r_3 _ H locs hw_53 hP hD hS => ?_)
            have hP : va_P (dC, dI) vwCl [(h0, .inr (3, [.ref d1, .ref d2, .ref d3, .ref d4, .int 0, .ref sh, .ref co, .int 0, .int 0, .int 0, .int 1, .int 0, .int 0, .int 0, .int 0, .int 0])), (d1, .inr (2, [.int (nI n), .ref e1])), (sh, .inr (1, [.ref k1, .ref k2, .ref k3, .ref k4, .ref k5, .int 0, .int 0, .int 0])), (k1, .inl (cI, mm, .inl f1)), (k2, .inl (cI, mm, .inl f2)), (k3, .inl (cI, mm, .inl f3)), (k4, .inl (cI, mm, .inl f4))] H := hP
            have hD : va_D A [(h0, .inr (3, [.ref d1, .ref d2, .ref d3, .ref d4, .int 0, .ref sh, .ref co, .int 0, .int 0, .int 0, .int 1, .int 0, .int 0, .int 0, .int 0, .int 0])), (d1, .inr (2, [.int (nI n), .ref e1])), (sh, .inr (1, [.ref k1, .ref k2, .ref k3, .ref k4, .ref k5, .int 0, .int 0, .int 0])), (k1, .inl (cI, mm, .inl f1)), (k2, .inl (cI, mm, .inl f2)), (k3, .inl (cI, mm, .inl f3)), (k4, .inl (cI, mm, .inl f4))] := hD
            refine lv_aload_n hx hb dX2_end_56 rfl (lv_at hl 2 rfl) ?_
            refine va_get (D := (dC, dI)) (ci := 3) (v := .int 0) (C := RX2) (T := TX2) (N := 16) hx hb hts hiX2 hown hK hP 0 rfl rfl 8 (by decide) (hts (.fieldLink RX2 66 "LibraryDisk" "openSectors" "I") (by decide +kernel)) (fun _ h9 => h9) rfl dX2_end_57 ?_
            refine lv_icmp_gt (tgt := 66) hx hb dX2_end_60 (by decide) (fun c_60 => ?_) (fun c_60 => ?_)
            · skip
              obtain rfl : r_2 = 1 := hw_31
              refine lv_aload_n hx hb dX2_end_66 rfl (lv_at hl 2 rfl) ?_
              refine lv_iload_n hx hb dX2_end_67 rfl (lv_at hl 1 rfl) ?_
              refine lv_iload_n hx hb dX2_end_68 rfl (lv_at hl 0 rfl) ?_
              refine mq_callv (wr := [(d1, .inr (2, [.int (nI n), .ref e1])), (sh, .inr (1, [.ref k1, .ref k2, .ref k3, .ref k4, .ref k5, .int 0, .int 0, .int 0])), (k1, .inl (cI, mm, .inl f1)), (k2, .inl (cI, mm, .inl f2)), (k3, .inl (cI, mm, .inl f3)), (k4, .inl (cI, mm, .inl f4))]) (fun (uu_4 : (Int32 × Int32)) => [(h0, .inr (3, [.ref d1, .ref d2, .ref d3, .ref d4, .int 0, .ref sh, .ref co, .int 0, .int uu_4.1, .int uu_4.2, .int 1, .int 0, .int 0, .int 0, .int 0, .int 0])), (d1, .inr (2, [.int (nI n), .ref e1])), (sh, .inr (1, [.ref k1, .ref k2, .ref k3, .ref k4, .ref k5, .int 0, .int 0, .int 0])), (k1, .inl (cI, mm, .inl f1)), (k2, .inl (cI, mm, .inl f2)), (k3, .inl (cI, mm, .inl f3)), (k4, .inl (cI, mm, .inl f4))]) (va_runV (As := [.int x_1, .int 1]) (rest := []) ⟨hx, hb, hml, hown, hts⟩ (ct_X2_takeRoom l dC dI cB cI h0 d1 d2 d3 d4 sh co x_1 H.size) (cwV 2 hts gX2_end_X2_takeRoom rfl rfl rfl (by decide +kernel) ⟨Nat.le_of_ble_eq_true rfl, Nat.le_of_ble_eq_true rfl⟩) ⟨mq_blind, va_recv hK hP (ci := 3) (q0 := 0) rfl rfl, mq_pre hK hN hP hD [0] rfl (by decide)⟩ rfl rfl hl.1 rfl (lv_room (Nat.le_of_ble_eq_true rfl)) dX2_end_69 ⟨Nat.le_of_ble_eq_true rfl, Nat.le_of_ble_eq_true rfl⟩) hP hD hS hA [0] [1, 2, 3, 4, 5, 6] [6, 0, 1, 2, 3, 4, 5] rfl rfl (by decide) (by decide) (by decide) (fun _ => rfl) (fun u_6 H locs hw_69 hP hD hS => ?_)
              have hP : va_P (dC, dI) vwCl [(h0, .inr (3, [.ref d1, .ref d2, .ref d3, .ref d4, .int 0, .ref sh, .ref co, .int 0, .int u_6.1, .int u_6.2, .int 1, .int 0, .int 0, .int 0, .int 0, .int 0])), (d1, .inr (2, [.int (nI n), .ref e1])), (sh, .inr (1, [.ref k1, .ref k2, .ref k3, .ref k4, .ref k5, .int 0, .int 0, .int 0])), (k1, .inl (cI, mm, .inl f1)), (k2, .inl (cI, mm, .inl f2)), (k3, .inl (cI, mm, .inl f3)), (k4, .inl (cI, mm, .inl f4))] H := hP
              have hD : va_D A [(h0, .inr (3, [.ref d1, .ref d2, .ref d3, .ref d4, .int 0, .ref sh, .ref co, .int 0, .int u_6.1, .int u_6.2, .int 1, .int 0, .int 0, .int 0, .int 0, .int 0])), (d1, .inr (2, [.int (nI n), .ref e1])), (sh, .inr (1, [.ref k1, .ref k2, .ref k3, .ref k4, .ref k5, .int 0, .int 0, .int 0])), (k1, .inl (cI, mm, .inl f1)), (k2, .inl (cI, mm, .inl f2)), (k3, .inl (cI, mm, .inl f3)), (k4, .inl (cI, mm, .inl f4))] := hD
              refine lv_aload_n hx hb dX2_end_72 rfl (lv_at hl 2 rfl) ?_
              refine lv_iload_n hx hb dX2_end_73 rfl (lv_at hl 3 rfl) ?_
              refine mq_callv (wr := [(d1, .inr (2, [.int (nI n), .ref e1]))]) (fun (_u : Unit) => [(h0, .inr (3, [.ref d1, .ref d2, .ref d3, .ref d4, .int 0, .ref sh, .ref co, .int 0, .int u_6.1, .int u_6.2, .int 1, .int 0, .int 0, .int 0, .int 0, .int 0])), (d1, .inr (2, [.int (nI n), .ref e1])), (sh, .inr (1, [.ref k1, .ref k2, .ref k3, .ref k4, .ref k5, .int 1, .int 0, .int 0]))]) (va_runV (As := [.int x]) (rest := []) ⟨hx, hb, hml, hown, hts⟩ (ct_X2_shelveCollected l dC dI cB cI h0 d1 d2 d3 d4 sh co k1 k2 k3 k4 k5 mm hm f1 f2 f3 f4 u_6.1 u_6.2 x H.size) (cwV 1 hts gX2_end_X2_shelveCollected rfl rfl rfl (by decide +kernel) ⟨Nat.le_of_ble_eq_true rfl, Nat.le_of_ble_eq_true rfl⟩) ⟨mq_blind, va_recv hK hP (ci := 3) (q0 := 0) rfl rfl, mq_pre hK hN hP hD [0, 2, 3, 4, 5, 6] rfl (by decide)⟩ rfl rfl hl.1 rfl (lv_room (Nat.le_of_ble_eq_true rfl)) dX2_end_74 ⟨Nat.le_of_ble_eq_true rfl, Nat.le_of_ble_eq_true rfl⟩) hP hD hS hA [0, 2, 3, 4, 5, 6] [1] [1, 0, 2] rfl rfl (by decide) (by decide) (by decide) (fun _ => rfl) (fun _ H locs hw_74 hP hD hS => ?_)
              have hP : va_P (dC, dI) vwCl [(h0, .inr (3, [.ref d1, .ref d2, .ref d3, .ref d4, .int 0, .ref sh, .ref co, .int 0, .int u_6.1, .int u_6.2, .int 1, .int 0, .int 0, .int 0, .int 0, .int 0])), (d1, .inr (2, [.int (nI n), .ref e1])), (sh, .inr (1, [.ref k1, .ref k2, .ref k3, .ref k4, .ref k5, .int 1, .int 0, .int 0]))] H := hP
              have hD : va_D A [(h0, .inr (3, [.ref d1, .ref d2, .ref d3, .ref d4, .int 0, .ref sh, .ref co, .int 0, .int u_6.1, .int u_6.2, .int 1, .int 0, .int 0, .int 0, .int 0, .int 0])), (d1, .inr (2, [.int (nI n), .ref e1])), (sh, .inr (1, [.ref k1, .ref k2, .ref k3, .ref k4, .ref k5, .int 1, .int 0, .int 0]))] := hD
              refine lv_aload_n hx hb dX2_end_77 rfl (lv_at hl 2 rfl) ?_
              refine va_get (D := (dC, dI)) (ci := 3) (v := .ref sh) (C := RX2) (T := TX2) (N := 16) hx hb hts hiX2 hown hK hP 0 rfl rfl 5 (by decide) (hts (.fieldLink RX2 39 "LibraryDisk" "shelf" "LLibraryDisk$Rows;") (by decide +kernel)) (fun _ h9 => h9) rfl dX2_end_78 ?_
              refine va_getN (D := (dC, dI)) (ci := 1) (v := .int 1) (C := RX0) (T := TX0) (N := 8) (host := "LibraryDisk") hx hb hts hiX0 hown hK hP 2 rfl rfl 5 (by decide) (nx_use hN 5 rfl rfl) (fun _ h9 => h9) rfl dX2_end_81 ?_
              refine lv_iconst (v := 1) hx hb dX2_end_84 (by decide) ?_
              refine lv_isub hx hb dX2_end_85 ?_
              have hP9 := hP.sub (ws' := []) [] rfl
              have hD9 := hD.sub (ws' := []) [] (by decide) rfl
              exact W.iret (v := (1 : Int32) - (1 : Int32)) hx hb hr (fun t ht hW => ⟨⟨(1 : Int32) - (1 : Int32), (), rfl, by unfold e_end; rw [if_neg c_11, if_pos c_16]; decide, by rw [ht]; exact hP9, va_K.moved hW.alike hK, by rw [hAe]; exact hD9⟩, hS.F ht⟩) hS.2.2 dX2_end_86
            · exact absurd (by rw [hw_53]; exact nI_lt (a := 0) (by omega) (by omega)) c_60
      · skip
        refine lv_bipush (v := (-2)) hx hb dX2_end_19 (by decide) ?_
        have hP9 := hP.sub (ws' := []) [] rfl
        have hD9 := hD.sub (ws' := []) [] (by decide) rfl
        exact W.iret (v := (-2)) hx hb hr (fun t ht hW => ⟨⟨(-2), (), rfl, by unfold e_end; rw [if_neg c_11, if_neg c_16], by rw [ht]; exact hP9, va_K.moved hW.alike hK, by rw [hAe]; exact hD9⟩, hS.F ht⟩) hS.2.2 dX2_end_21
  · exact absurd c_4 (by decide)
