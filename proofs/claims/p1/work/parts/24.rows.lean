set_option maxHeartbeats 4000000 in
set_option maxRecDepth 100000 in
/-- Rows(k) -/
theorem ct_X0_init (l : Launch) (dC : Nat → ClassId) (dI : Nat → Nat → Nat) (cB cI : ClassId) (h0 k : Nat) (hk : k ≤ 38) (sz : Nat) : mq_V l (dC, dI) vwCl [(cB, .byte), (cI, .int)] yX0_init wsX0_init ({ frames := 1, cells := 5, slots := 6194, locals := 14 }) [.ref h0, .int (nI k)] [(h0, .inr (1, [.null, .null, .null, .null, .null, .int 0, .int 0, .int 0]))] sz (fun (u : (Nat → Nat)) => True) (fun (u : (Nat → Nat)) => [(h0, .inr (1, [.ref (u 0), .ref (u 1), .ref (u 2), .ref (u 3), .ref (u 4), .int 0, .int 0, .int 0])), (u 0, .inl (cI, (k * 27), .inl (fun _ => 0))), (u 1, .inl (cI, (k * 27), .inl (fun _ => 0))), (u 2, .inl (cI, (k * 27), .inl (fun _ => 0))), (u 3, .inl (cI, (k * 27), .inl (fun _ => 0))), (u 4, .inl (cB, (k * 55), .inl (fun _ => 0)))]) 5 6194 := by
  refine Met.ofW (cc := cX0_init) (maxL := 4) (ret := none) (by decide) rfl ?_
  intro p e s m args below meth c s₁ B hml hv
  obtain ⟨rfl, hsz, hP, hK, hD0, hN⟩ := hv
  have hx := B.exec
  have hb := B.bytes
  have hr := B.returns
  have hts := atoms_spec (ws := wsX0_init) B.pre
  have hown : s.vm.findClass RX0 = some m.cls := findClass_of_methodNamed B.named
  have hlocks := B.notSynchronized
  have hin : meth.name = "<init>" := (name_of_methodNamed B.named B.method).1
  have hiX0 : ∀ w ∈ u_ws RX0 TX0 8, w ∈ wsX0_init := by decide +kernel
  subst hsz
  have hD := hD0.self (sz := s.heap.size)
  generalize hAe : va_A [(h0, .inr (1, [.null, .null, .null, .null, .null, .int 0, .int 0, .int 0]))] s.heap.size = A at hD ⊢
  have hA : ∀ q : Nat, s.heap.size ≤ q → A q := fun q h => by rw [← hAe]; exact Or.inr h
  have hS : va_S A s.heap s.heap [] := va_S.rf
  have hP : va_P (dC, dI) vwCl [(h0, .inr (1, [.null, .null, .null, .null, .null, .int 0, .int 0, .int 0]))] s.heap := hP
  have hl := lv_entry ([.ref h0, .int (nI k)]) (n := 4) (Nat.le_of_ble_eq_true rfl)
  rw [lg_entry_eq]
  generalize (lg_sl ([.ref h0, .int (nI k)]) ++ List.replicate (4 - (lg_sl ([.ref h0, .int (nI k)])).length) Slot.unset).toArray = ls at hl ⊢
  have hl : lv_has ls 4 [(0, .ref h0), (1, .int (nI k))] := hl
  refine lv_aload_n hx hb dX0_init_0 rfl (lv_at hl 0 rfl) ?_
  refine W.objInit hx hb hown (hts (.methodLink RX0 3 objectInit) (by decide +kernel)) (hts (.instanceMethod objectInit) (by decide +kernel)) (hts _ (by decide +kernel)) rfl (by rw [hml]; exact hl.1) rfl dX0_init_1 (Nat.le_of_ble_eq_true rfl) (Nat.le_of_ble_eq_true rfl) ?_
  refine W.eq (g2 := F0 m 4 ls []) rfl ?_
  refine lv_iconst (v := 0) hx hb dX0_init_4 (by decide) ?_
  refine lv_bipush (v := 40) hx hb dX0_init_5 (by decide) ?_
  refine lv_iload_n hx hb dX0_init_7 rfl (lv_at hl 1 rfl) ?_
  refine va_mmin hx hb (by rw [hml]; exact hl.1.symm) hown (hts (.methodLink RX0 9 Lib.Math.min.name) (by decide +kernel)) (hts (.static Lib.Math.min.name) (by decide +kernel)) (hts (.initialized "java/lang/Math") (by decide +kernel)) (hts (.code Lib.Math.min.name Lib.Math.min.code 2 (some .int)) (by decide +kernel)) (Nat.le_of_ble_eq_true rfl) (Nat.le_of_ble_eq_true rfl) (Nat.zero_le _) (Nat.zero_le _) dX0_init_8 ?_
  refine va_mmax hx hb (by rw [hml]; exact hl.1.symm) hown (hts (.methodLink RX0 15 Lib.Math.max.name) (by decide +kernel)) (hts (.static Lib.Math.max.name) (by decide +kernel)) (hts (.initialized "java/lang/Math") (by decide +kernel)) (hts (.code Lib.Math.max.name Lib.Math.max.code 2 (some .int)) (by decide +kernel)) (Nat.le_of_ble_eq_true rfl) (Nat.le_of_ble_eq_true rfl) (Nat.zero_le _) (Nat.zero_le _) dX0_init_11 ?_
  refine lv_topi (fun x_1 ex_1 => ?_)
  obtain rfl : x_1 = nI k := by rw [ex_1]; exact mn_40 (by omega)
  refine lv_istore_n (lv' := [(2, .int (nI k)), (0, .ref h0), (1, .int (nI k))]) hx hb dX0_init_14 rfl hl (by decide) rfl (fun ls hl => ?_)
  refine lv_iload_n hx hb dX0_init_15 rfl (lv_at hl 0 rfl) ?_
  refine lv_bipush (v := 27) hx hb dX0_init_16 (by decide) ?_
  refine lv_imul hx hb dX0_init_18 ?_
  refine lv_topi (fun x_2 ex_2 => ?_)
  obtain rfl : x_2 = nI (k * 27) := by rw [ex_2, show (27 : Int32) = nI 27 from rfl, pk_mul]
  refine lv_istore_n (lv' := [(3, .int (nI (k * 27))), (2, .int (nI k)), (0, .ref h0), (1, .int (nI k))]) hx hb dX0_init_19 rfl hl (by decide) rfl (fun ls hl => ?_)
  refine lv_aload_n hx hb dX0_init_20 rfl (lv_at hl 2 rfl) ?_
  refine lv_iload_n hx hb dX0_init_21 rfl (lv_at hl 0 rfl) ?_
  refine va_newa (atype := .int) (ty := .int) (a0 := (k * 27, .inl (fun _ => 0))) (N' := (k * 27)) hx hb (hts (.arrayClass .int) (by decide +kernel)) rfl hK hP hD hS hA (fun _ => rfl) (nI_pos (by omega)) (nI_clamp (by omega)) (by show (k * 27) * 4 ≤ 536870912; omega) (by show 0 + 1 ≤ 5; omega) (by show 0 + k * 27 ≤ 6194; omega) dX0_init_22 (fun q_22 cA_22 H hK_22 hP hD hS => ?_)
  obtain rfl : cI = cA_22 := mq_sameI hK_22 1 2 rfl rfl
  have hP : va_P (dC, dI) vwCl [(h0, .inr (1, [.null, .null, .null, .null, .null, .int 0, .int 0, .int 0])), (q_22, .inl (cI, (k * 27), .inl (fun _ => 0)))] H := hP
  have hD : va_D A [(h0, .inr (1, [.null, .null, .null, .null, .null, .int 0, .int 0, .int 0])), (q_22, .inl (cI, (k * 27), .inl (fun _ => 0)))] := hD
  refine W.widen (k := 1) (n := 1026) (by omega) (by omega) ?_
  refine va_putF (D := (dC, dI)) (ci := 1) (v := .ref q_22) (ty := (.array .int)) (C := RX0) (T := TX0) (N := 8) hx hb hts hiX0 tyX0 tyX0_ok nmX0 hown hK hP hD hS 0 rfl rfl 0 (by decide) (hts (.fieldLink RX0 18 "LibraryDisk$Rows" "kinds" "[I") (by decide +kernel)) (fun _ h9 => h9) rfl hin rfl (by decide +kernel) rfl rfl (Nat.le_of_ble_eq_true rfl) dX0_init_24 (fun H locs hP hD hS => ?_)
  have hP : va_P (dC, dI) vwCl [(h0, .inr (1, [.ref q_22, .null, .null, .null, .null, .int 0, .int 0, .int 0])), (q_22, .inl (cI, (k * 27), .inl (fun _ => 0)))] H := hP
  have hD : va_D A [(h0, .inr (1, [.ref q_22, .null, .null, .null, .null, .int 0, .int 0, .int 0])), (q_22, .inl (cI, (k * 27), .inl (fun _ => 0)))] := hD
  refine lv_aload_n hx hb dX0_init_27 rfl (lv_at hl 2 rfl) ?_
  refine lv_iload_n hx hb dX0_init_28 rfl (lv_at hl 0 rfl) ?_
  refine va_newa (atype := .int) (ty := .int) (a0 := (k * 27, .inl (fun _ => 0))) (N' := (k * 27)) hx hb (hts (.arrayClass .int) (by decide +kernel)) rfl hK hP hD hS hA (fun _ => rfl) (nI_pos (by omega)) (nI_clamp (by omega)) (by show (k * 27) * 4 ≤ 536870912; omega) (by show 1 + 1 ≤ 5; omega) (by show 1026 + k * 27 ≤ 6194; omega) dX0_init_29 (fun q_29 cA_29 H hK_29 hP hD hS => ?_)
  obtain rfl : cI = cA_29 := mq_sameI hK_29 1 2 rfl rfl
  have hP : va_P (dC, dI) vwCl [(h0, .inr (1, [.ref q_22, .null, .null, .null, .null, .int 0, .int 0, .int 0])), (q_22, .inl (cI, (k * 27), .inl (fun _ => 0))), (q_29, .inl (cI, (k * 27), .inl (fun _ => 0)))] H := hP
  have hD : va_D A [(h0, .inr (1, [.ref q_22, .null, .null, .null, .null, .int 0, .int 0, .int 0])), (q_22, .inl (cI, (k * 27), .inl (fun _ => 0))), (q_29, .inl (cI, (k * 27), .inl (fun _ => 0)))] := hD
  refine W.widen (k := 2) (n := 2052) (by omega) (by omega) ?_
  refine va_putF (D := (dC, dI)) (ci := 1) (v := .ref q_29) (ty := (.array .int)) (C := RX0) (T := TX0) (N := 8) hx hb hts hiX0 tyX0 tyX0_ok nmX0 hown hK hP hD hS 0 rfl rfl 1 (by decide) (hts (.fieldLink RX0 24 "LibraryDisk$Rows" "sizes" "[I") (by decide +kernel)) (fun _ h9 => h9) rfl hin rfl (by decide +kernel) rfl rfl (Nat.le_of_ble_eq_true rfl) dX0_init_31 (fun H locs hP hD hS => ?_)
  have hP : va_P (dC, dI) vwCl [(h0, .inr (1, [.ref q_22, .ref q_29, .null, .null, .null, .int 0, .int 0, .int 0])), (q_22, .inl (cI, (k * 27), .inl (fun _ => 0))), (q_29, .inl (cI, (k * 27), .inl (fun _ => 0)))] H := hP
  have hD : va_D A [(h0, .inr (1, [.ref q_22, .ref q_29, .null, .null, .null, .int 0, .int 0, .int 0])), (q_22, .inl (cI, (k * 27), .inl (fun _ => 0))), (q_29, .inl (cI, (k * 27), .inl (fun _ => 0)))] := hD
  refine lv_aload_n hx hb dX0_init_34 rfl (lv_at hl 2 rfl) ?_
  refine lv_iload_n hx hb dX0_init_35 rfl (lv_at hl 0 rfl) ?_
  refine va_newa (atype := .int) (ty := .int) (a0 := (k * 27, .inl (fun _ => 0))) (N' := (k * 27)) hx hb (hts (.arrayClass .int) (by decide +kernel)) rfl hK hP hD hS hA (fun _ => rfl) (nI_pos (by omega)) (nI_clamp (by omega)) (by show (k * 27) * 4 ≤ 536870912; omega) (by show 2 + 1 ≤ 5; omega) (by show 2052 + k * 27 ≤ 6194; omega) dX0_init_36 (fun q_36 cA_36 H hK_36 hP hD hS => ?_)
  obtain rfl : cI = cA_36 := mq_sameI hK_36 1 2 rfl rfl
  have hP : va_P (dC, dI) vwCl [(h0, .inr (1, [.ref q_22, .ref q_29, .null, .null, .null, .int 0, .int 0, .int 0])), (q_22, .inl (cI, (k * 27), .inl (fun _ => 0))), (q_29, .inl (cI, (k * 27), .inl (fun _ => 0))), (q_36, .inl (cI, (k * 27), .inl (fun _ => 0)))] H := hP
  have hD : va_D A [(h0, .inr (1, [.ref q_22, .ref q_29, .null, .null, .null, .int 0, .int 0, .int 0])), (q_22, .inl (cI, (k * 27), .inl (fun _ => 0))), (q_29, .inl (cI, (k * 27), .inl (fun _ => 0))), (q_36, .inl (cI, (k * 27), .inl (fun _ => 0)))] := hD
  refine W.widen (k := 3) (n := 3078) (by omega) (by omega) ?_
  refine va_putF (D := (dC, dI)) (ci := 1) (v := .ref q_36) (ty := (.array .int)) (C := RX0) (T := TX0) (N := 8) hx hb hts hiX0 tyX0 tyX0_ok nmX0 hown hK hP hD hS 0 rfl rfl 2 (by decide) (hts (.fieldLink RX0 27 "LibraryDisk$Rows" "places" "[I") (by decide +kernel)) (fun _ h9 => h9) rfl hin rfl (by decide +kernel) rfl rfl (Nat.le_of_ble_eq_true rfl) dX0_init_38 (fun H locs hP hD hS => ?_)
  have hP : va_P (dC, dI) vwCl [(h0, .inr (1, [.ref q_22, .ref q_29, .ref q_36, .null, .null, .int 0, .int 0, .int 0])), (q_22, .inl (cI, (k * 27), .inl (fun _ => 0))), (q_29, .inl (cI, (k * 27), .inl (fun _ => 0))), (q_36, .inl (cI, (k * 27), .inl (fun _ => 0)))] H := hP
  have hD : va_D A [(h0, .inr (1, [.ref q_22, .ref q_29, .ref q_36, .null, .null, .int 0, .int 0, .int 0])), (q_22, .inl (cI, (k * 27), .inl (fun _ => 0))), (q_29, .inl (cI, (k * 27), .inl (fun _ => 0))), (q_36, .inl (cI, (k * 27), .inl (fun _ => 0)))] := hD
  refine lv_aload_n hx hb dX0_init_41 rfl (lv_at hl 2 rfl) ?_
  refine lv_iload_n hx hb dX0_init_42 rfl (lv_at hl 0 rfl) ?_
  refine va_newa (atype := .int) (ty := .int) (a0 := (k * 27, .inl (fun _ => 0))) (N' := (k * 27)) hx hb (hts (.arrayClass .int) (by decide +kernel)) rfl hK hP hD hS hA (fun _ => rfl) (nI_pos (by omega)) (nI_clamp (by omega)) (by show (k * 27) * 4 ≤ 536870912; omega) (by show 3 + 1 ≤ 5; omega) (by show 3078 + k * 27 ≤ 6194; omega) dX0_init_43 (fun q_43 cA_43 H hK_43 hP hD hS => ?_)
  obtain rfl : cI = cA_43 := mq_sameI hK_43 1 2 rfl rfl
  have hP : va_P (dC, dI) vwCl [(h0, .inr (1, [.ref q_22, .ref q_29, .ref q_36, .null, .null, .int 0, .int 0, .int 0])), (q_22, .inl (cI, (k * 27), .inl (fun _ => 0))), (q_29, .inl (cI, (k * 27), .inl (fun _ => 0))), (q_36, .inl (cI, (k * 27), .inl (fun _ => 0))), (q_43, .inl (cI, (k * 27), .inl (fun _ => 0)))] H := hP
  have hD : va_D A [(h0, .inr (1, [.ref q_22, .ref q_29, .ref q_36, .null, .null, .int 0, .int 0, .int 0])), (q_22, .inl (cI, (k * 27), .inl (fun _ => 0))), (q_29, .inl (cI, (k * 27), .inl (fun _ => 0))), (q_36, .inl (cI, (k * 27), .inl (fun _ => 0))), (q_43, .inl (cI, (k * 27), .inl (fun _ => 0)))] := hD
  refine W.widen (k := 4) (n := 4104) (by omega) (by omega) ?_
  refine va_putF (D := (dC, dI)) (ci := 1) (v := .ref q_43) (ty := (.array .int)) (C := RX0) (T := TX0) (N := 8) hx hb hts hiX0 tyX0 tyX0_ok nmX0 hown hK hP hD hS 0 rfl rfl 3 (by decide) (hts (.fieldLink RX0 30 "LibraryDisk$Rows" "starts" "[I") (by decide +kernel)) (fun _ h9 => h9) rfl hin rfl (by decide +kernel) rfl rfl (Nat.le_of_ble_eq_true rfl) dX0_init_45 (fun H locs hP hD hS => ?_)
  have hP : va_P (dC, dI) vwCl [(h0, .inr (1, [.ref q_22, .ref q_29, .ref q_36, .ref q_43, .null, .int 0, .int 0, .int 0])), (q_22, .inl (cI, (k * 27), .inl (fun _ => 0))), (q_29, .inl (cI, (k * 27), .inl (fun _ => 0))), (q_36, .inl (cI, (k * 27), .inl (fun _ => 0))), (q_43, .inl (cI, (k * 27), .inl (fun _ => 0)))] H := hP
  have hD : va_D A [(h0, .inr (1, [.ref q_22, .ref q_29, .ref q_36, .ref q_43, .null, .int 0, .int 0, .int 0])), (q_22, .inl (cI, (k * 27), .inl (fun _ => 0))), (q_29, .inl (cI, (k * 27), .inl (fun _ => 0))), (q_36, .inl (cI, (k * 27), .inl (fun _ => 0))), (q_43, .inl (cI, (k * 27), .inl (fun _ => 0)))] := hD
  refine lv_aload_n hx hb dX0_init_48 rfl (lv_at hl 2 rfl) ?_
  refine lv_iload_n hx hb dX0_init_49 rfl (lv_at hl 1 rfl) ?_
  refine lv_bipush (v := 55) hx hb dX0_init_50 (by decide) ?_
  refine lv_imul hx hb dX0_init_52 ?_
  refine lv_topi (fun x_3 ex_3 => ?_)
  obtain rfl : x_3 = nI (k * 55) := by rw [ex_3, show (55 : Int32) = nI 55 from rfl, pk_mul]
  refine va_newa (atype := .byte) (ty := .byte) (a0 := (k * 55, .inl (fun _ => 0))) (N' := (k * 55)) hx hb (hts (.arrayClass .byte) (by decide +kernel)) rfl hK hP hD hS hA (fun _ => rfl) (nI_pos (by omega)) (nI_clamp (by omega)) (by show (k * 55) * 1 ≤ 536870912; omega) (by show 4 + 1 ≤ 5; omega) (by show 4104 + k * 55 ≤ 6194; omega) dX0_init_53 (fun q_53 cA_53 H hK_53 hP hD hS => ?_)
  obtain rfl : cB = cA_53 := mq_sameB hK_53 0 2 rfl rfl
  have hP : va_P (dC, dI) vwCl [(h0, .inr (1, [.ref q_22, .ref q_29, .ref q_36, .ref q_43, .null, .int 0, .int 0, .int 0])), (q_22, .inl (cI, (k * 27), .inl (fun _ => 0))), (q_29, .inl (cI, (k * 27), .inl (fun _ => 0))), (q_36, .inl (cI, (k * 27), .inl (fun _ => 0))), (q_43, .inl (cI, (k * 27), .inl (fun _ => 0))), (q_53, .inl (cB, (k * 55), .inl (fun _ => 0)))] H := hP
  have hD : va_D A [(h0, .inr (1, [.ref q_22, .ref q_29, .ref q_36, .ref q_43, .null, .int 0, .int 0, .int 0])), (q_22, .inl (cI, (k * 27), .inl (fun _ => 0))), (q_29, .inl (cI, (k * 27), .inl (fun _ => 0))), (q_36, .inl (cI, (k * 27), .inl (fun _ => 0))), (q_43, .inl (cI, (k * 27), .inl (fun _ => 0))), (q_53, .inl (cB, (k * 55), .inl (fun _ => 0)))] := hD
  refine W.widen (k := 5) (n := 6194) (by omega) (by omega) ?_
  refine va_putF (D := (dC, dI)) (ci := 1) (v := .ref q_53) (ty := (.array .byte)) (C := RX0) (T := TX0) (N := 8) hx hb hts hiX0 tyX0 tyX0_ok nmX0 hown hK hP hD hS 0 rfl rfl 4 (by decide) (hts (.fieldLink RX0 33 "LibraryDisk$Rows" "pool" "[B") (by decide +kernel)) (fun _ h9 => h9) rfl hin rfl (by decide +kernel) rfl rfl (Nat.le_of_ble_eq_true rfl) dX0_init_55 (fun H locs hP hD hS => ?_)
  have hP : va_P (dC, dI) vwCl [(h0, .inr (1, [.ref q_22, .ref q_29, .ref q_36, .ref q_43, .ref q_53, .int 0, .int 0, .int 0])), (q_22, .inl (cI, (k * 27), .inl (fun _ => 0))), (q_29, .inl (cI, (k * 27), .inl (fun _ => 0))), (q_36, .inl (cI, (k * 27), .inl (fun _ => 0))), (q_43, .inl (cI, (k * 27), .inl (fun _ => 0))), (q_53, .inl (cB, (k * 55), .inl (fun _ => 0)))] H := hP
  have hD : va_D A [(h0, .inr (1, [.ref q_22, .ref q_29, .ref q_36, .ref q_43, .ref q_53, .int 0, .int 0, .int 0])), (q_22, .inl (cI, (k * 27), .inl (fun _ => 0))), (q_29, .inl (cI, (k * 27), .inl (fun _ => 0))), (q_36, .inl (cI, (k * 27), .inl (fun _ => 0))), (q_43, .inl (cI, (k * 27), .inl (fun _ => 0))), (q_53, .inl (cB, (k * 55), .inl (fun _ => 0)))] := hD
  have hP9 := hP.sub (ws' := [(h0, .inr (1, [.ref q_22, .ref q_29, .ref q_36, .ref q_43, .ref q_53, .int 0, .int 0, .int 0])), (q_22, .inl (cI, (k * 27), .inl (fun _ => 0))), (q_29, .inl (cI, (k * 27), .inl (fun _ => 0))), (q_36, .inl (cI, (k * 27), .inl (fun _ => 0))), (q_43, .inl (cI, (k * 27), .inl (fun _ => 0))), (q_53, .inl (cB, (k * 55), .inl (fun _ => 0)))]) [0, 1, 2, 3, 4, 5] rfl
  have hD9 := hD.sub (ws' := [(h0, .inr (1, [.ref q_22, .ref q_29, .ref q_36, .ref q_43, .ref q_53, .int 0, .int 0, .int 0])), (q_22, .inl (cI, (k * 27), .inl (fun _ => 0))), (q_29, .inl (cI, (k * 27), .inl (fun _ => 0))), (q_36, .inl (cI, (k * 27), .inl (fun _ => 0))), (q_43, .inl (cI, (k * 27), .inl (fun _ => 0))), (q_53, .inl (cB, (k * 55), .inl (fun _ => 0)))]) [0, 1, 2, 3, 4, 5] (by decide) rfl
  refine W.widen (k := 5) (n := 6194) (by omega) (by omega) ?_
  exact W.vret hx hb hr (fun t ht hW => ⟨⟨(fun j => if j = 0 then q_22 else if j = 1 then q_29 else if j = 2 then q_36 else if j = 3 then q_43 else q_53), rfl, trivial, by rw [ht]; exact hP9, va_K.moved hW.alike hK, by rw [hAe]; exact hD9⟩, hS.F ht⟩) hS.2.2 dX0_init_58
set_option maxHeartbeats 4000000 in
set_option maxRecDepth 100000 in
/-- Rows.holds, no rows -/
theorem ct_X0_holds_0 (l : Launch) (dC : Nat → ClassId) (dI : Nat → Nat → Nat) (cB cI : ClassId) (h0 k1 k2 k3 k4 k5 : Nat) (l0 p0 : Int32) (x : Int32) (sz : Nat) : mq_I l (dC, dI) vwCl [(cB, .byte), (cI, .int)] yX0_holds wsX0_holds ({ frames := 0, cells := 0, slots := 0, locals := 0 }) [.ref h0, .int x] [(h0, .inr (1, [.ref k1, .ref k2, .ref k3, .ref k4, .ref k5, .int 0, .int l0, .int p0]))] sz (fun (r : Int32) (_u : Unit) => r = 0) (fun (_u : Unit) => [(h0, .inr (1, [.ref k1, .ref k2, .ref k3, .ref k4, .ref k5, .int 0, .int l0, .int p0]))]) 0 0 := by
  refine Met.ofW (cc := cX0_holds) (maxL := 2) (ret := (some .boolean)) (by decide) rfl ?_
  intro p e s m args below meth c s₁ B hml hv
  obtain ⟨rfl, hsz, hP, hK, hD0, hN⟩ := hv
  have hx := B.exec
  have hb := B.bytes
  have hr := B.returns
  have hts := atoms_spec (ws := wsX0_holds) B.pre
  have hown : s.vm.findClass RX0 = some m.cls := findClass_of_methodNamed B.named
  have hlocks := B.notSynchronized
  have hiX0 : ∀ w ∈ u_ws RX0 TX0 8, w ∈ wsX0_holds := by decide +kernel
  subst hsz
  have hD := hD0.self (sz := s.heap.size)
  generalize hAe : va_A [(h0, .inr (1, [.ref k1, .ref k2, .ref k3, .ref k4, .ref k5, .int 0, .int l0, .int p0]))] s.heap.size = A at hD ⊢
  have hA : ∀ q : Nat, s.heap.size ≤ q → A q := fun q h => by rw [← hAe]; exact Or.inr h
  have hS : va_S A s.heap s.heap [] := va_S.rf
  have hP : va_P (dC, dI) vwCl [(h0, .inr (1, [.ref k1, .ref k2, .ref k3, .ref k4, .ref k5, .int 0, .int l0, .int p0]))] s.heap := hP
  have hl := lv_entry ([.ref h0, .int x]) (n := 2) (Nat.le_of_ble_eq_true rfl)
  rw [lg_entry_eq]
  generalize (lg_sl ([.ref h0, .int x]) ++ List.replicate (2 - (lg_sl ([.ref h0, .int x])).length) Slot.unset).toArray = ls at hl ⊢
  have hl : lv_has ls 2 [(0, .ref h0), (1, .int x)] := hl
  refine lv_iload_n hx hb dX0_holds_0 rfl (lv_at hl 1 rfl) ?_
  refine lv_if_lt (tgt := 16) hx hb dX0_holds_1 (by decide) (fun c_1 => ?_) (fun c_1 => ?_)
  · skip
    refine lv_iconst (v := 0) hx hb dX0_holds_16 (by decide) ?_
    have hP9 := hP.sub (ws' := [(h0, .inr (1, [.ref k1, .ref k2, .ref k3, .ref k4, .ref k5, .int 0, .int l0, .int p0]))]) [0] rfl
    have hD9 := hD.sub (ws' := [(h0, .inr (1, [.ref k1, .ref k2, .ref k3, .ref k4, .ref k5, .int 0, .int l0, .int p0]))]) [0] (by decide) rfl
    exact W.zret (v := 0) hx hb hr (by first | rfl | decide) (fun t ht hW => ⟨⟨0, (), rfl, rfl, by rw [ht]; exact hP9, va_K.moved hW.alike hK, by rw [hAe]; exact hD9⟩, hS.F ht⟩) hS.2.2 dX0_holds_17
  · skip
    refine lv_iload_n hx hb dX0_holds_4 rfl (lv_at hl 1 rfl) ?_
    refine lv_aload_n hx hb dX0_holds_5 rfl (lv_at hl 0 rfl) ?_
    refine va_get (D := (dC, dI)) (ci := 1) (v := .int 0) (C := RX0) (T := TX0) (N := 8) hx hb hts hiX0 hown hK hP 0 rfl rfl 5 (by decide) (hts (.fieldLink RX0 37 "LibraryDisk$Rows" "count" "I") (by decide +kernel)) (fun _ h9 => h9) rfl dX0_holds_6 ?_
    refine lv_icmp_ge (tgt := 16) hx hb dX0_holds_9 (by decide) (fun c_9 => ?_) (fun c_9 => ?_)
    · skip
      refine lv_iconst (v := 0) hx hb dX0_holds_16 (by decide) ?_
      have hP9 := hP.sub (ws' := [(h0, .inr (1, [.ref k1, .ref k2, .ref k3, .ref k4, .ref k5, .int 0, .int l0, .int p0]))]) [0] rfl
      have hD9 := hD.sub (ws' := [(h0, .inr (1, [.ref k1, .ref k2, .ref k3, .ref k4, .ref k5, .int 0, .int l0, .int p0]))]) [0] (by decide) rfl
      exact W.zret (v := 0) hx hb hr (by first | rfl | decide) (fun t ht hW => ⟨⟨0, (), rfl, rfl, by rw [ht]; exact hP9, va_K.moved hW.alike hK, by rw [hAe]; exact hD9⟩, hS.F ht⟩) hS.2.2 dX0_holds_17
    · exact absurd (Int32.not_lt.mp c_1) c_9
set_option maxHeartbeats 4000000 in
set_option maxRecDepth 100000 in
/-- Rows.clear -/
theorem ct_X0_clear (l : Launch) (dC : Nat → ClassId) (dI : Nat → Nat → Nat) (cB cI : ClassId) (h0 k1 k2 k3 k4 k5 : Nat) (c0 l0 p0 : Int32) (sz : Nat) : mq_V l (dC, dI) vwCl [(cB, .byte), (cI, .int)] yX0_clear wsX0_clear ({ frames := 0, cells := 0, slots := 0, locals := 0 }) [.ref h0] [(h0, .inr (1, [.ref k1, .ref k2, .ref k3, .ref k4, .ref k5, .int c0, .int l0, .int p0]))] sz (fun (_u : Unit) => True) (fun (_u : Unit) => [(h0, .inr (1, [.ref k1, .ref k2, .ref k3, .ref k4, .ref k5, .int 0, .int 0, .int 0]))]) 0 0 := by
  refine Met.ofW (cc := cX0_clear) (maxL := 1) (ret := none) (by decide) rfl ?_
  intro p e s m args below meth c s₁ B hml hv
  obtain ⟨rfl, hsz, hP, hK, hD0, hN⟩ := hv
  have hx := B.exec
  have hb := B.bytes
  have hr := B.returns
  have hts := atoms_spec (ws := wsX0_clear) B.pre
  have hown : s.vm.findClass RX0 = some m.cls := findClass_of_methodNamed B.named
  have hlocks := B.notSynchronized
  have hiX0 : ∀ w ∈ u_ws RX0 TX0 8, w ∈ wsX0_clear := by decide +kernel
  subst hsz
  have hD := hD0.self (sz := s.heap.size)
  generalize hAe : va_A [(h0, .inr (1, [.ref k1, .ref k2, .ref k3, .ref k4, .ref k5, .int c0, .int l0, .int p0]))] s.heap.size = A at hD ⊢
  have hA : ∀ q : Nat, s.heap.size ≤ q → A q := fun q h => by rw [← hAe]; exact Or.inr h
  have hS : va_S A s.heap s.heap [] := va_S.rf
  have hP : va_P (dC, dI) vwCl [(h0, .inr (1, [.ref k1, .ref k2, .ref k3, .ref k4, .ref k5, .int c0, .int l0, .int p0]))] s.heap := hP
  have hl := lv_entry ([.ref h0]) (n := 1) (Nat.le_of_ble_eq_true rfl)
  rw [lg_entry_eq]
  generalize (lg_sl ([.ref h0]) ++ List.replicate (1 - (lg_sl ([.ref h0])).length) Slot.unset).toArray = ls at hl ⊢
  have hl : lv_has ls 1 [(0, .ref h0)] := hl
  refine lv_aload_n hx hb dX0_clear_0 rfl (lv_at hl 0 rfl) ?_
  refine lv_iconst (v := 0) hx hb dX0_clear_1 (by decide) ?_
  refine va_put (D := (dC, dI)) (ci := 1) (v := .int 0) (ty := .int) (C := RX0) (T := TX0) (N := 8) hx hb hts hiX0 tyX0 tyX0_ok nmX0 hown hK hP hD hS 0 rfl rfl 5 (by decide) (hts (.fieldLink RX0 37 "LibraryDisk$Rows" "count" "I") (by decide +kernel)) (fun _ h9 => h9) rfl (by decide +kernel) rfl rfl (Nat.le_of_ble_eq_true rfl) dX0_clear_2 (fun H locs hP hD hS => ?_)
  have hP : va_P (dC, dI) vwCl [(h0, .inr (1, [.ref k1, .ref k2, .ref k3, .ref k4, .ref k5, .int 0, .int l0, .int p0]))] H := hP
  have hD : va_D A [(h0, .inr (1, [.ref k1, .ref k2, .ref k3, .ref k4, .ref k5, .int 0, .int l0, .int p0]))] := hD
  refine lv_aload_n hx hb dX0_clear_5 rfl (lv_at hl 0 rfl) ?_
  refine lv_iconst (v := 0) hx hb dX0_clear_6 (by decide) ?_
  refine va_put (D := (dC, dI)) (ci := 1) (v := .int 0) (ty := .int) (C := RX0) (T := TX0) (N := 8) hx hb hts hiX0 tyX0 tyX0_ok nmX0 hown hK hP hD hS 0 rfl rfl 6 (by decide) (hts (.fieldLink RX0 41 "LibraryDisk$Rows" "laid" "I") (by decide +kernel)) (fun _ h9 => h9) rfl (by decide +kernel) rfl rfl (Nat.le_of_ble_eq_true rfl) dX0_clear_7 (fun H locs hP hD hS => ?_)
  have hP : va_P (dC, dI) vwCl [(h0, .inr (1, [.ref k1, .ref k2, .ref k3, .ref k4, .ref k5, .int 0, .int 0, .int p0]))] H := hP
  have hD : va_D A [(h0, .inr (1, [.ref k1, .ref k2, .ref k3, .ref k4, .ref k5, .int 0, .int 0, .int p0]))] := hD
  refine lv_aload_n hx hb dX0_clear_10 rfl (lv_at hl 0 rfl) ?_
  refine lv_iconst (v := 0) hx hb dX0_clear_11 (by decide) ?_
  refine va_put (D := (dC, dI)) (ci := 1) (v := .int 0) (ty := .int) (C := RX0) (T := TX0) (N := 8) hx hb hts hiX0 tyX0 tyX0_ok nmX0 hown hK hP hD hS 0 rfl rfl 7 (by decide) (hts (.fieldLink RX0 44 "LibraryDisk$Rows" "poolSize" "I") (by decide +kernel)) (fun _ h9 => h9) rfl (by decide +kernel) rfl rfl (Nat.le_of_ble_eq_true rfl) dX0_clear_12 (fun H locs hP hD hS => ?_)
  have hP : va_P (dC, dI) vwCl [(h0, .inr (1, [.ref k1, .ref k2, .ref k3, .ref k4, .ref k5, .int 0, .int 0, .int 0]))] H := hP
  have hD : va_D A [(h0, .inr (1, [.ref k1, .ref k2, .ref k3, .ref k4, .ref k5, .int 0, .int 0, .int 0]))] := hD
  have hP9 := hP.sub (ws' := [(h0, .inr (1, [.ref k1, .ref k2, .ref k3, .ref k4, .ref k5, .int 0, .int 0, .int 0]))]) [0] rfl
  have hD9 := hD.sub (ws' := [(h0, .inr (1, [.ref k1, .ref k2, .ref k3, .ref k4, .ref k5, .int 0, .int 0, .int 0]))]) [0] (by decide) rfl
  exact W.vret hx hb hr (fun t ht hW => ⟨⟨(), rfl, trivial, by rw [ht]; exact hP9, va_K.moved hW.alike hK, by rw [hAe]; exact hD9⟩, hS.F ht⟩) hS.2.2 dX0_clear_15
set_option maxHeartbeats 4000000 in
set_option maxRecDepth 100000 in
/-- Rows.open, no rows yet -/
theorem ct_X0_open_0 (l : Launch) (dC : Nat → ClassId) (dI : Nat → Nat → Nat) (cB cI : ClassId) (h0 k1 k2 k3 k4 k5 : Nat) (mm : Nat) (hm : 0 < mm ∧ mm ≤ 1026) (f1 f2 f3 f4 : Nat → Int32) (x y : Int32) (sz : Nat) : mq_V l (dC, dI) vwCl [(cB, .byte), (cI, .int)] yX0_open wsX0_open ({ frames := 0, cells := 0, slots := 0, locals := 0 }) [.ref h0, .int x, .int y] [(h0, .inr (1, [.ref k1, .ref k2, .ref k3, .ref k4, .ref k5, .int 0, .int 0, .int 0])), (k1, .inl (cI, mm, .inl f1)), (k2, .inl (cI, mm, .inl f2)), (k3, .inl (cI, mm, .inl f3)), (k4, .inl (cI, mm, .inl f4))] sz (fun (_u : Unit) => True) (fun (_u : Unit) => [(h0, .inr (1, [.ref k1, .ref k2, .ref k3, .ref k4, .ref k5, .int 1, .int 0, .int 0]))]) 0 0 := by
  refine Met.ofW (cc := cX0_open) (maxL := 3) (ret := none) (by decide) rfl ?_
  intro p e s m args below meth c s₁ B hml hv
  obtain ⟨rfl, hsz, hP, hK, hD0, hN⟩ := hv
  have hx := B.exec
  have hb := B.bytes
  have hr := B.returns
  have hts := atoms_spec (ws := wsX0_open) B.pre
  have hown : s.vm.findClass RX0 = some m.cls := findClass_of_methodNamed B.named
  have hlocks := B.notSynchronized
  have hiX0 : ∀ w ∈ u_ws RX0 TX0 8, w ∈ wsX0_open := by decide +kernel
  subst hsz
  have hD := hD0.self (sz := s.heap.size)
  generalize hAe : va_A [(h0, .inr (1, [.ref k1, .ref k2, .ref k3, .ref k4, .ref k5, .int 0, .int 0, .int 0])), (k1, .inl (cI, mm, .inl f1)), (k2, .inl (cI, mm, .inl f2)), (k3, .inl (cI, mm, .inl f3)), (k4, .inl (cI, mm, .inl f4))] s.heap.size = A at hD ⊢
  have hA : ∀ q : Nat, s.heap.size ≤ q → A q := fun q h => by rw [← hAe]; exact Or.inr h
  have hS : va_S A s.heap s.heap [] := va_S.rf
  have hP : va_P (dC, dI) vwCl [(h0, .inr (1, [.ref k1, .ref k2, .ref k3, .ref k4, .ref k5, .int 0, .int 0, .int 0])), (k1, .inl (cI, mm, .inl f1)), (k2, .inl (cI, mm, .inl f2)), (k3, .inl (cI, mm, .inl f3)), (k4, .inl (cI, mm, .inl f4))] s.heap := hP
  have hl := lv_entry ([.ref h0, .int x, .int y]) (n := 3) (Nat.le_of_ble_eq_true rfl)
  rw [lg_entry_eq]
  generalize (lg_sl ([.ref h0, .int x, .int y]) ++ List.replicate (3 - (lg_sl ([.ref h0, .int x, .int y])).length) Slot.unset).toArray = ls at hl ⊢
  have hl : lv_has ls 3 [(0, .ref h0), (1, .int x), (2, .int y)] := hl
  refine lv_aload_n hx hb dX0_open_0 rfl (lv_at hl 0 rfl) ?_
  refine va_get (D := (dC, dI)) (ci := 1) (v := .int 0) (C := RX0) (T := TX0) (N := 8) hx hb hts hiX0 hown hK hP 0 rfl rfl 5 (by decide) (hts (.fieldLink RX0 37 "LibraryDisk$Rows" "count" "I") (by decide +kernel)) (fun _ h9 => h9) rfl dX0_open_1 ?_
  refine lv_aload_n hx hb dX0_open_4 rfl (lv_at hl 0 rfl) ?_
  refine va_get (D := (dC, dI)) (ci := 1) (v := .ref k1) (C := RX0) (T := TX0) (N := 8) hx hb hts hiX0 hown hK hP 0 rfl rfl 0 (by decide) (hts (.fieldLink RX0 18 "LibraryDisk$Rows" "kinds" "[I") (by decide +kernel)) (fun _ h9 => h9) rfl dX0_open_5 ?_
  refine va_alen hx hb hK hP 1 1 rfl rfl (v := nI mm) rfl dX0_open_8 ?_
  refine lv_icmp_lt (tgt := 13) hx hb dX0_open_9 (by decide) (fun c_9 => ?_) (fun c_9 => ?_)
  · skip
    refine lv_aload_n hx hb dX0_open_13 rfl (lv_at hl 0 rfl) ?_
    refine va_get (D := (dC, dI)) (ci := 1) (v := .ref k1) (C := RX0) (T := TX0) (N := 8) hx hb hts hiX0 hown hK hP 0 rfl rfl 0 (by decide) (hts (.fieldLink RX0 18 "LibraryDisk$Rows" "kinds" "[I") (by decide +kernel)) (fun _ h9 => h9) rfl dX0_open_14 ?_
    refine lv_aload_n hx hb dX0_open_17 rfl (lv_at hl 0 rfl) ?_
    refine va_get (D := (dC, dI)) (ci := 1) (v := .int 0) (C := RX0) (T := TX0) (N := 8) hx hb hts hiX0 hown hK hP 0 rfl rfl 5 (by decide) (hts (.fieldLink RX0 37 "LibraryDisk$Rows" "count" "I") (by decide +kernel)) (fun _ h9 => h9) rfl dX0_open_18 ?_
    refine lv_iload_n hx hb dX0_open_21 rfl (lv_at hl 1 rfl) ?_
    refine va_iast hx hb hK hP hD hS 1 1 rfl rfl (vp_in_nI (n := 0) hm.1 (by omega)) dX0_open_22 (fun H locs hP hD hS => ?_)
    have hP : va_P (dC, dI) vwCl [(h0, .inr (1, [.ref k1, .ref k2, .ref k3, .ref k4, .ref k5, .int 0, .int 0, .int 0])), (k1, .inl (cI, mm, .inl (upd f1 (0 : Int32).toNatClampNeg x))), (k2, .inl (cI, mm, .inl f2)), (k3, .inl (cI, mm, .inl f3)), (k4, .inl (cI, mm, .inl f4))] H := hP
    have hD : va_D A [(h0, .inr (1, [.ref k1, .ref k2, .ref k3, .ref k4, .ref k5, .int 0, .int 0, .int 0])), (k1, .inl (cI, mm, .inl (upd f1 (0 : Int32).toNatClampNeg x))), (k2, .inl (cI, mm, .inl f2)), (k3, .inl (cI, mm, .inl f3)), (k4, .inl (cI, mm, .inl f4))] := hD
    obtain ⟨f_1, ef_1⟩ : ∃ z : Nat → Int32, z = upd f1 (0 : Int32).toNatClampNeg x := ⟨_, rfl⟩
    rw [← ef_1] at hP hD
    refine lv_aload_n hx hb dX0_open_23 rfl (lv_at hl 0 rfl) ?_
    refine va_get (D := (dC, dI)) (ci := 1) (v := .ref k2) (C := RX0) (T := TX0) (N := 8) hx hb hts hiX0 hown hK hP 0 rfl rfl 1 (by decide) (hts (.fieldLink RX0 24 "LibraryDisk$Rows" "sizes" "[I") (by decide +kernel)) (fun _ h9 => h9) rfl dX0_open_24 ?_
    refine lv_aload_n hx hb dX0_open_27 rfl (lv_at hl 0 rfl) ?_
    refine va_get (D := (dC, dI)) (ci := 1) (v := .int 0) (C := RX0) (T := TX0) (N := 8) hx hb hts hiX0 hown hK hP 0 rfl rfl 5 (by decide) (hts (.fieldLink RX0 37 "LibraryDisk$Rows" "count" "I") (by decide +kernel)) (fun _ h9 => h9) rfl dX0_open_28 ?_
    refine lv_iconst (v := 0) hx hb dX0_open_31 (by decide) ?_
    refine va_iast hx hb hK hP hD hS 2 1 rfl rfl (vp_in_nI (n := 0) hm.1 (by omega)) dX0_open_32 (fun H locs hP hD hS => ?_)
    have hP : va_P (dC, dI) vwCl [(h0, .inr (1, [.ref k1, .ref k2, .ref k3, .ref k4, .ref k5, .int 0, .int 0, .int 0])), (k1, .inl (cI, mm, .inl f_1)), (k2, .inl (cI, mm, .inl (upd f2 (0 : Int32).toNatClampNeg 0))), (k3, .inl (cI, mm, .inl f3)), (k4, .inl (cI, mm, .inl f4))] H := hP
    have hD : va_D A [(h0, .inr (1, [.ref k1, .ref k2, .ref k3, .ref k4, .ref k5, .int 0, .int 0, .int 0])), (k1, .inl (cI, mm, .inl f_1)), (k2, .inl (cI, mm, .inl (upd f2 (0 : Int32).toNatClampNeg 0))), (k3, .inl (cI, mm, .inl f3)), (k4, .inl (cI, mm, .inl f4))] := hD
    obtain ⟨f_2, ef_2⟩ : ∃ z : Nat → Int32, z = upd f2 (0 : Int32).toNatClampNeg 0 := ⟨_, rfl⟩
    rw [← ef_2] at hP hD
    refine lv_aload_n hx hb dX0_open_33 rfl (lv_at hl 0 rfl) ?_
    refine va_get (D := (dC, dI)) (ci := 1) (v := .ref k3) (C := RX0) (T := TX0) (N := 8) hx hb hts hiX0 hown hK hP 0 rfl rfl 2 (by decide) (hts (.fieldLink RX0 27 "LibraryDisk$Rows" "places" "[I") (by decide +kernel)) (fun _ h9 => h9) rfl dX0_open_34 ?_
    refine lv_aload_n hx hb dX0_open_37 rfl (lv_at hl 0 rfl) ?_
    refine va_get (D := (dC, dI)) (ci := 1) (v := .int 0) (C := RX0) (T := TX0) (N := 8) hx hb hts hiX0 hown hK hP 0 rfl rfl 5 (by decide) (hts (.fieldLink RX0 37 "LibraryDisk$Rows" "count" "I") (by decide +kernel)) (fun _ h9 => h9) rfl dX0_open_38 ?_
    refine lv_iload_n hx hb dX0_open_41 rfl (lv_at hl 2 rfl) ?_
    refine va_iast hx hb hK hP hD hS 3 1 rfl rfl (vp_in_nI (n := 0) hm.1 (by omega)) dX0_open_42 (fun H locs hP hD hS => ?_)
    have hP : va_P (dC, dI) vwCl [(h0, .inr (1, [.ref k1, .ref k2, .ref k3, .ref k4, .ref k5, .int 0, .int 0, .int 0])), (k1, .inl (cI, mm, .inl f_1)), (k2, .inl (cI, mm, .inl f_2)), (k3, .inl (cI, mm, .inl (upd f3 (0 : Int32).toNatClampNeg y))), (k4, .inl (cI, mm, .inl f4))] H := hP
    have hD : va_D A [(h0, .inr (1, [.ref k1, .ref k2, .ref k3, .ref k4, .ref k5, .int 0, .int 0, .int 0])), (k1, .inl (cI, mm, .inl f_1)), (k2, .inl (cI, mm, .inl f_2)), (k3, .inl (cI, mm, .inl (upd f3 (0 : Int32).toNatClampNeg y))), (k4, .inl (cI, mm, .inl f4))] := hD
    obtain ⟨f_3, ef_3⟩ : ∃ z : Nat → Int32, z = upd f3 (0 : Int32).toNatClampNeg y := ⟨_, rfl⟩
    rw [← ef_3] at hP hD
    refine lv_aload_n hx hb dX0_open_43 rfl (lv_at hl 0 rfl) ?_
    refine va_get (D := (dC, dI)) (ci := 1) (v := .ref k4) (C := RX0) (T := TX0) (N := 8) hx hb hts hiX0 hown hK hP 0 rfl rfl 3 (by decide) (hts (.fieldLink RX0 30 "LibraryDisk$Rows" "starts" "[I") (by decide +kernel)) (fun _ h9 => h9) rfl dX0_open_44 ?_
    refine lv_aload_n hx hb dX0_open_47 rfl (lv_at hl 0 rfl) ?_
    refine va_get (D := (dC, dI)) (ci := 1) (v := .int 0) (C := RX0) (T := TX0) (N := 8) hx hb hts hiX0 hown hK hP 0 rfl rfl 5 (by decide) (hts (.fieldLink RX0 37 "LibraryDisk$Rows" "count" "I") (by decide +kernel)) (fun _ h9 => h9) rfl dX0_open_48 ?_
    refine lv_aload_n hx hb dX0_open_51 rfl (lv_at hl 0 rfl) ?_
    refine va_get (D := (dC, dI)) (ci := 1) (v := .int 0) (C := RX0) (T := TX0) (N := 8) hx hb hts hiX0 hown hK hP 0 rfl rfl 7 (by decide) (hts (.fieldLink RX0 44 "LibraryDisk$Rows" "poolSize" "I") (by decide +kernel)) (fun _ h9 => h9) rfl dX0_open_52 ?_
    refine va_iast hx hb hK hP hD hS 4 1 rfl rfl (vp_in_nI (n := 0) hm.1 (by omega)) dX0_open_55 (fun H locs hP hD hS => ?_)
    have hP : va_P (dC, dI) vwCl [(h0, .inr (1, [.ref k1, .ref k2, .ref k3, .ref k4, .ref k5, .int 0, .int 0, .int 0])), (k1, .inl (cI, mm, .inl f_1)), (k2, .inl (cI, mm, .inl f_2)), (k3, .inl (cI, mm, .inl f_3)), (k4, .inl (cI, mm, .inl (upd f4 (0 : Int32).toNatClampNeg 0)))] H := hP
    have hD : va_D A [(h0, .inr (1, [.ref k1, .ref k2, .ref k3, .ref k4, .ref k5, .int 0, .int 0, .int 0])), (k1, .inl (cI, mm, .inl f_1)), (k2, .inl (cI, mm, .inl f_2)), (k3, .inl (cI, mm, .inl f_3)), (k4, .inl (cI, mm, .inl (upd f4 (0 : Int32).toNatClampNeg 0)))] := hD
    obtain ⟨f_4, ef_4⟩ : ∃ z : Nat → Int32, z = upd f4 (0 : Int32).toNatClampNeg 0 := ⟨_, rfl⟩
    rw [← ef_4] at hP hD
    refine lv_aload_n hx hb dX0_open_56 rfl (lv_at hl 0 rfl) ?_
    refine lv_dup hx hb dX0_open_57 rfl ?_
    refine va_get (D := (dC, dI)) (ci := 1) (v := .int 0) (C := RX0) (T := TX0) (N := 8) hx hb hts hiX0 hown hK hP 0 rfl rfl 5 (by decide) (hts (.fieldLink RX0 37 "LibraryDisk$Rows" "count" "I") (by decide +kernel)) (fun _ h9 => h9) rfl dX0_open_58 ?_
    refine lv_iconst (v := 1) hx hb dX0_open_61 (by decide) ?_
    refine lv_iadd hx hb dX0_open_62 ?_
    refine lv_topi (fun x_5 ex_5 => ?_)
    refine va_put (D := (dC, dI)) (ci := 1) (v := .int x_5) (ty := .int) (C := RX0) (T := TX0) (N := 8) hx hb hts hiX0 tyX0 tyX0_ok nmX0 hown hK hP hD hS 0 rfl rfl 5 (by decide) (hts (.fieldLink RX0 37 "LibraryDisk$Rows" "count" "I") (by decide +kernel)) (fun _ h9 => h9) rfl (by decide +kernel) rfl rfl (Nat.le_of_ble_eq_true rfl) dX0_open_63 (fun H locs hP hD hS => ?_)
    have hP : va_P (dC, dI) vwCl [(h0, .inr (1, [.ref k1, .ref k2, .ref k3, .ref k4, .ref k5, .int x_5, .int 0, .int 0])), (k1, .inl (cI, mm, .inl f_1)), (k2, .inl (cI, mm, .inl f_2)), (k3, .inl (cI, mm, .inl f_3)), (k4, .inl (cI, mm, .inl f_4))] H := hP
    have hD : va_D A [(h0, .inr (1, [.ref k1, .ref k2, .ref k3, .ref k4, .ref k5, .int x_5, .int 0, .int 0])), (k1, .inl (cI, mm, .inl f_1)), (k2, .inl (cI, mm, .inl f_2)), (k3, .inl (cI, mm, .inl f_3)), (k4, .inl (cI, mm, .inl f_4))] := hD
    obtain rfl : x_5 = 1 := by rw [ex_5]; decide
    have hP9 := hP.sub (ws' := [(h0, .inr (1, [.ref k1, .ref k2, .ref k3, .ref k4, .ref k5, .int 1, .int 0, .int 0]))]) [0] rfl
    have hD9 := hD.sub (ws' := [(h0, .inr (1, [.ref k1, .ref k2, .ref k3, .ref k4, .ref k5, .int 1, .int 0, .int 0]))]) [0] (by decide) rfl
    exact W.vret hx hb hr (fun t ht hW => ⟨⟨(), rfl, trivial, by rw [ht]; exact hP9, va_K.moved hW.alike hK, by rw [hAe]; exact hD9⟩, hS.F ht⟩) hS.2.2 dX0_open_66
  · exact absurd (nI_lt (a := 0) hm.1 (by omega)) c_9
