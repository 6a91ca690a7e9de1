set_option maxHeartbeats 4000000 in
set_option maxRecDepth 100000 in
/-- Sectors.copyPart of a whole sector: bytes stay bytes -/
theorem ct_X1_copyPart (l : Launch) (dC : Nat → ClassId) (dI : Nat → Nat → Nat) (cB cI : ClassId) (h0 a0 h1 a1 n : Nat) (hn : n ≤ 40) (f k : Nat → Int32) (hf : sb_Fit f) (hk : sb_Fit k) (x : Int32) (sz : Nat) : mq_V l (dC, dI) vwCl [(cB, .byte), (cI, .int)] yX1_copyPart wsX1_copyPart ({ frames := 1, cells := 0, slots := 0, locals := 60 }) [.ref h0, .ref h1, .int x, .int 0, .int 64] [(h0, .inr (2, [.int (nI n), .ref a0])), (a0, .inl (cB, (n * 64), .inl f)), (h1, .inr (2, [.int (nI n), .ref a1])), (a1, .inl (cB, (n * 64), .inl k))] sz (fun (g : (Nat → Int32)) => sb_Fit g) (fun (g : (Nat → Int32)) => [(h0, .inr (2, [.int (nI n), .ref a0])), (a0, .inl (cB, (n * 64), .inl g)), (h1, .inr (2, [.int (nI n), .ref a1])), (a1, .inl (cB, (n * 64), .inl k))]) 0 0 := by
  refine Met.ofW (cc := cX1_copyPart) (maxL := 6) (ret := none) (by decide) rfl ?_
  intro p e s m args below meth c s₁ B hml hv
  obtain ⟨rfl, hsz, hP, hK, hD0, hN⟩ := hv
  have hx := B.exec
  have hb := B.bytes
  have hr := B.returns
  have hts := atoms_spec (ws := wsX1_copyPart) B.pre
  have hown : s.vm.findClass RX1 = some m.cls := findClass_of_methodNamed B.named
  have hlocks := B.notSynchronized
  have hiX1 : ∀ w ∈ u_ws RX1 TX1 2, w ∈ wsX1_copyPart := by decide +kernel
  subst hsz
  have hD := hD0.self (sz := s.heap.size)
  generalize hAe : va_A [(h0, .inr (2, [.int (nI n), .ref a0])), (a0, .inl (cB, (n * 64), .inl f)), (h1, .inr (2, [.int (nI n), .ref a1])), (a1, .inl (cB, (n * 64), .inl k))] s.heap.size = A at hD ⊢
  have hA : ∀ q : Nat, s.heap.size ≤ q → A q := fun q h => by rw [← hAe]; exact Or.inr h
  have hS : va_S A s.heap s.heap [] := va_S.rf
  have hP : va_P (dC, dI) vwCl [(h0, .inr (2, [.int (nI n), .ref a0])), (a0, .inl (cB, (n * 64), .inl f)), (h1, .inr (2, [.int (nI n), .ref a1])), (a1, .inl (cB, (n * 64), .inl k))] s.heap := hP
  have hl := lv_entry ([.ref h0, .ref h1, .int x, .int 0, .int 64]) (n := 6) (Nat.le_of_ble_eq_true rfl)
  rw [lg_entry_eq]
  generalize (lg_sl ([.ref h0, .ref h1, .int x, .int 0, .int 64]) ++ List.replicate (6 - (lg_sl ([.ref h0, .ref h1, .int x, .int 0, .int 64])).length) Slot.unset).toArray = ls at hl ⊢
  have hl : lv_has ls 6 [(0, .ref h0), (1, .ref h1), (2, .int x), (3, .int 0), (4, .int 64)] := hl
  refine lv_iload_n hx hb dX1_copyPart_0 rfl (lv_at hl 3 rfl) ?_
  refine lv_if_lt (tgt := 34) hx hb dX1_copyPart_1 (by decide) (fun c_1 => ?_) (fun c_1 => ?_)
  · exact absurd c_1 (by decide)
  · skip
    refine lv_iload_n hx hb dX1_copyPart_4 rfl (lv_at hl 3 rfl) ?_
    refine lv_iload hx hb dX1_copyPart_5 (lv_at hl 4 rfl) ?_
    refine lv_icmp_ge (tgt := 34) hx hb dX1_copyPart_7 (by decide) (fun c_7 => ?_) (fun c_7 => ?_)
    · exact absurd c_7 (by decide)
    · skip
      refine lv_aload_n hx hb dX1_copyPart_10 rfl (lv_at hl 0 rfl) ?_
      refine lv_iload_n hx hb dX1_copyPart_11 rfl (lv_at hl 2 rfl) ?_
      refine lv_iload hx hb dX1_copyPart_12 (lv_at hl 4 rfl) ?_
      refine lv_iconst (v := 1) hx hb dX1_copyPart_14 (by decide) ?_
      refine lv_isub hx hb dX1_copyPart_15 ?_
      refine mq_calli (wr := [(h1, .inr (2, [.int (nI n), .ref a1])), (a1, .inl (cB, (n * 64), .inl k))]) (fun (_u : Unit) => [(h0, .inr (2, [.int (nI n), .ref a0])), (a0, .inl (cB, (n * 64), .inl f)), (h1, .inr (2, [.int (nI n), .ref a1])), (a1, .inl (cB, (n * 64), .inl k))]) (va_runV (As := [.int x, .int ((64 : Int32) - (1 : Int32))]) (rest := []) ⟨hx, hb, hml, hown, hts⟩ (ct_X1_holds l dC dI cB cI h0 a0 n hn f x ((64 : Int32) - (1 : Int32)) s.heap.size) (cwV 2 hts gX1_copyPart_X1_holds rfl rfl rfl (by decide +kernel) ⟨Nat.le_of_ble_eq_true rfl, Nat.le_of_ble_eq_true rfl⟩) ⟨mq_blind, va_recv hK hP (ci := 2) (q0 := 0) rfl rfl, mq_pre hK hN hP hD [0, 1] rfl (by decide)⟩ rfl rfl hl.1 rfl (lv_room (Nat.le_of_ble_eq_true rfl)) dX1_copyPart_16 ⟨Nat.le_of_ble_eq_true rfl, Nat.le_of_ble_eq_true rfl⟩) hP hD hS hA [0, 1] [2, 3] [2, 3, 0, 1] rfl rfl (by decide) (by decide) (by decide) (fun _ => rfl) (fun r_1 _ H locs hw_16 hP hD hS => ?_)
      have hP : va_P (dC, dI) vwCl [(h0, .inr (2, [.int (nI n), .ref a0])), (a0, .inl (cB, (n * 64), .inl f)), (h1, .inr (2, [.int (nI n), .ref a1])), (a1, .inl (cB, (n * 64), .inl k))] H := hP
      have hD : va_D A [(h0, .inr (2, [.int (nI n), .ref a0])), (a0, .inl (cB, (n * 64), .inl f)), (h1, .inr (2, [.int (nI n), .ref a1])), (a1, .inl (cB, (n * 64), .inl k))] := hD
      refine lv_if_eq (tgt := 34) hx hb dX1_copyPart_19 (by decide) (fun c_19 => ?_) (fun c_19 => ?_)
      · skip
        have hP9 := hP.sub (ws' := [(h0, .inr (2, [.int (nI n), .ref a0])), (a0, .inl (cB, (n * 64), .inl f)), (h1, .inr (2, [.int (nI n), .ref a1])), (a1, .inl (cB, (n * 64), .inl k))]) [0, 1, 2, 3] rfl
        have hD9 := hD.sub (ws' := [(h0, .inr (2, [.int (nI n), .ref a0])), (a0, .inl (cB, (n * 64), .inl f)), (h1, .inr (2, [.int (nI n), .ref a1])), (a1, .inl (cB, (n * 64), .inl k))]) [0, 1, 2, 3] (by decide) rfl
        exact W.vret hx hb hr (fun t ht hW => ⟨⟨f, rfl, hf, by rw [ht]; exact hP9, va_K.moved hW.alike hK, by rw [hAe]; exact hD9⟩, hS.F ht⟩) hS.2.2 dX1_copyPart_34
      · skip
        refine lv_aload_n hx hb dX1_copyPart_22 rfl (lv_at hl 1 rfl) ?_
        refine lv_iload_n hx hb dX1_copyPart_23 rfl (lv_at hl 2 rfl) ?_
        refine lv_iload hx hb dX1_copyPart_24 (lv_at hl 4 rfl) ?_
        refine lv_iconst (v := 1) hx hb dX1_copyPart_26 (by decide) ?_
        refine lv_isub hx hb dX1_copyPart_27 ?_
        refine mq_calli (wr := [(h0, .inr (2, [.int (nI n), .ref a0])), (a0, .inl (cB, (n * 64), .inl f))]) (fun (_u : Unit) => [(h0, .inr (2, [.int (nI n), .ref a0])), (a0, .inl (cB, (n * 64), .inl f)), (h1, .inr (2, [.int (nI n), .ref a1])), (a1, .inl (cB, (n * 64), .inl k))]) (va_runV (As := [.int x, .int ((64 : Int32) - (1 : Int32))]) (rest := []) ⟨hx, hb, hml, hown, hts⟩ (ct_X1_holds l dC dI cB cI h1 a1 n hn k x ((64 : Int32) - (1 : Int32)) H.size) (cwV 2 hts gX1_copyPart_X1_holds rfl rfl rfl (by decide +kernel) ⟨Nat.le_of_ble_eq_true rfl, Nat.le_of_ble_eq_true rfl⟩) ⟨mq_blind, va_recv hK hP (ci := 2) (q0 := 2) rfl rfl, mq_pre hK hN hP hD [2, 3] rfl (by decide)⟩ rfl rfl hl.1 rfl (lv_room (Nat.le_of_ble_eq_true rfl)) dX1_copyPart_28 ⟨Nat.le_of_ble_eq_true rfl, Nat.le_of_ble_eq_true rfl⟩) hP hD hS hA [2, 3] [0, 1] [0, 1, 2, 3] rfl rfl (by decide) (by decide) (by decide) (fun _ => rfl) (fun r_2 _ H locs hw_28 hP hD hS => ?_)
        have hP : va_P (dC, dI) vwCl [(h0, .inr (2, [.int (nI n), .ref a0])), (a0, .inl (cB, (n * 64), .inl f)), (h1, .inr (2, [.int (nI n), .ref a1])), (a1, .inl (cB, (n * 64), .inl k))] H := hP
        have hD : va_D A [(h0, .inr (2, [.int (nI n), .ref a0])), (a0, .inl (cB, (n * 64), .inl f)), (h1, .inr (2, [.int (nI n), .ref a1])), (a1, .inl (cB, (n * 64), .inl k))] := hD
        refine lv_if_ne (tgt := 35) hx hb dX1_copyPart_31 (by decide) (fun c_31 => ?_) (fun c_31 => ?_)
        · skip
          obtain ⟨a, b, ha, hb1, ex, ey⟩ := ((hw_16.resolve_right (fun q => c_19 q.1)).2)
          refine lv_iload_n hx hb dX1_copyPart_35 rfl (lv_at hl 2 rfl) ?_
          refine lv_bipush (v := 64) hx hb dX1_copyPart_36 (by decide) ?_
          refine lv_imul hx hb dX1_copyPart_38 ?_
          refine lv_iload_n hx hb dX1_copyPart_39 rfl (lv_at hl 3 rfl) ?_
          refine lv_iadd hx hb dX1_copyPart_40 ?_
          refine lv_topi (fun x_3 ex_3 => ?_)
          refine lv_istore (lv' := [(5, .int x_3), (0, .ref h0), (1, .ref h1), (2, .int x), (3, .int 0), (4, .int 64)]) hx hb dX1_copyPart_41 hl (by decide) rfl (fun ls hl => ?_)
          have hx5 : x_3 = nI (a * 64 + 0) := by rw [ex_3, ex, show (64 : Int32) = nI 64 from rfl, pk_mul, show (0 : Int32) = nI 0 from rfl, nI_add]
          refine lv_aload_n hx hb dX1_copyPart_43 rfl (lv_at hl 2 rfl) ?_
          refine va_get (D := (dC, dI)) (ci := 2) (v := .ref a1) (C := RX1) (T := TX1) (N := 2) hx hb hts hiX1 hown hK hP 2 rfl rfl 1 (by decide) (hts (.fieldLink RX1 24 "LibraryDisk$Sectors" "bytes" "[B") (by decide +kernel)) (fun _ h9 => h9) rfl dX1_copyPart_44 ?_
          refine lv_iload hx hb dX1_copyPart_47 (lv_at hl 0 rfl) ?_
          refine lv_aload_n hx hb dX1_copyPart_49 rfl (lv_at hl 1 rfl) ?_
          refine va_get (D := (dC, dI)) (ci := 2) (v := .ref a0) (C := RX1) (T := TX1) (N := 2) hx hb hts hiX1 hown hK hP 0 rfl rfl 1 (by decide) (hts (.fieldLink RX1 24 "LibraryDisk$Sectors" "bytes" "[B") (by decide +kernel)) (fun _ h9 => h9) rfl dX1_copyPart_50 ?_
          refine lv_iload hx hb dX1_copyPart_53 (lv_at hl 0 rfl) ?_
          refine lv_iload hx hb dX1_copyPart_55 (lv_at hl 5 rfl) ?_
          refine lv_iload_n hx hb dX1_copyPart_57 rfl (lv_at hl 4 rfl) ?_
          refine lv_isub hx hb dX1_copyPart_58 ?_
          refine va_copyi (ty := .byte) hx hb (by rw [hml]; exact hl.1.symm) hown (hts (.methodLink RX1 52 arraycopyName) (by decide +kernel)) (hts (.native arraycopyName) (by decide +kernel)) (hts (.static arraycopyName) (by decide +kernel)) (hts (.initialized "java/lang/System") (by decide +kernel)) hK hP hD hS 3 1 0 0 rfl rfl rfl rfl rfl (by rw [hx5]; exact nI_pos (by omega)) (by rw [hx5]; exact nI_pos (by omega)) (by decide) (by rw [hx5, nI_clamp (by omega), show ((64 : Int32) - 0).toNatClampNeg = 64 from by decide]; omega) (by rw [hx5, nI_clamp (by omega), show ((64 : Int32) - 0).toNatClampNeg = 64 from by decide]; omega) (fun i _ => hk _) (Nat.le_of_ble_eq_true rfl) (Nat.le_of_ble_eq_true rfl) dX1_copyPart_59 (fun H locs hP hD hS => ?_)
          have hP : va_P (dC, dI) vwCl [(h0, .inr (2, [.int (nI n), .ref a0])), (a0, .inl (cB, (n * 64), .inl (va_cpy k f (x_3).toNatClampNeg (x_3).toNatClampNeg ((64 : Int32) - (0 : Int32)).toNatClampNeg))), (h1, .inr (2, [.int (nI n), .ref a1])), (a1, .inl (cB, (n * 64), .inl k))] H := hP
          have hD : va_D A [(h0, .inr (2, [.int (nI n), .ref a0])), (a0, .inl (cB, (n * 64), .inl (va_cpy k f (x_3).toNatClampNeg (x_3).toNatClampNeg ((64 : Int32) - (0 : Int32)).toNatClampNeg))), (h1, .inr (2, [.int (nI n), .ref a1])), (a1, .inl (cB, (n * 64), .inl k))] := hD
          obtain ⟨f_4, ef_4⟩ : ∃ z : Nat → Int32, z = va_cpy k f (x_3).toNatClampNeg (x_3).toNatClampNeg ((64 : Int32) - (0 : Int32)).toNatClampNeg := ⟨_, rfl⟩
          rw [← ef_4] at hP hD
          have hP9 := hP.sub (ws' := [(h0, .inr (2, [.int (nI n), .ref a0])), (a0, .inl (cB, (n * 64), .inl f_4)), (h1, .inr (2, [.int (nI n), .ref a1])), (a1, .inl (cB, (n * 64), .inl k))]) [0, 1, 2, 3] rfl
          have hD9 := hD.sub (ws' := [(h0, .inr (2, [.int (nI n), .ref a0])), (a0, .inl (cB, (n * 64), .inl f_4)), (h1, .inr (2, [.int (nI n), .ref a1])), (a1, .inl (cB, (n * 64), .inl k))]) [0, 1, 2, 3] (by decide) rfl
          exact W.vret hx hb hr (fun t ht hW => ⟨⟨f_4, rfl, by rw [ef_4]; exact sb_fitC hk hf, by rw [ht]; exact hP9, va_K.moved hW.alike hK, by rw [hAe]; exact hD9⟩, hS.F ht⟩) hS.2.2 dX1_copyPart_62
        · skip
          have hP9 := hP.sub (ws' := [(h0, .inr (2, [.int (nI n), .ref a0])), (a0, .inl (cB, (n * 64), .inl f)), (h1, .inr (2, [.int (nI n), .ref a1])), (a1, .inl (cB, (n * 64), .inl k))]) [0, 1, 2, 3] rfl
          have hD9 := hD.sub (ws' := [(h0, .inr (2, [.int (nI n), .ref a0])), (a0, .inl (cB, (n * 64), .inl f)), (h1, .inr (2, [.int (nI n), .ref a1])), (a1, .inl (cB, (n * 64), .inl k))]) [0, 1, 2, 3] (by decide) rfl
          exact W.vret hx hb hr (fun t ht hW => ⟨⟨f, rfl, hf, by rw [ht]; exact hP9, va_K.moved hW.alike hK, by rw [hAe]; exact hD9⟩, hS.F ht⟩) hS.2.2 dX1_copyPart_34
set_option maxHeartbeats 4000000 in
set_option maxRecDepth 100000 in
/-- Sectors.copyAll: bytes stay bytes -/
theorem ct_X1_copyAll (l : Launch) (dC : Nat → ClassId) (dI : Nat → Nat → Nat) (cB cI : ClassId) (h0 a0 h1 a1 n : Nat) (hn : n ≤ 40) (f k : Nat → Int32) (hf : sb_Fit f) (hk : sb_Fit k) (sz : Nat) : mq_V l (dC, dI) vwCl [(cB, .byte), (cI, .int)] yX1_copyAll wsX1_copyAll ({ frames := 2, cells := 0, slots := 0, locals := 85 }) [.ref h0, .ref h1] [(h0, .inr (2, [.int (nI n), .ref a0])), (a0, .inl (cB, (n * 64), .inl f)), (h1, .inr (2, [.int (nI n), .ref a1])), (a1, .inl (cB, (n * 64), .inl k))] sz (fun (g : (Nat → Int32)) => sb_Fit g) (fun (g : (Nat → Int32)) => [(h0, .inr (2, [.int (nI n), .ref a0])), (a0, .inl (cB, (n * 64), .inl g)), (h1, .inr (2, [.int (nI n), .ref a1])), (a1, .inl (cB, (n * 64), .inl k))]) 0 0 := by
  refine Met.ofW (cc := cX1_copyAll) (maxL := 3) (ret := none) (by decide) rfl ?_
  intro p e s m args below meth c s₁ B hml hv
  obtain ⟨rfl, hsz, hP, hK, hD0, hN⟩ := hv
  have hx := B.exec
  have hb := B.bytes
  have hr := B.returns
  have hts := atoms_spec (ws := wsX1_copyAll) B.pre
  have hown : s.vm.findClass RX1 = some m.cls := findClass_of_methodNamed B.named
  have hlocks := B.notSynchronized
  have hiX1 : ∀ w ∈ u_ws RX1 TX1 2, w ∈ wsX1_copyAll := by decide +kernel
  subst hsz
  have hD := hD0.self (sz := s.heap.size)
  generalize hAe : va_A [(h0, .inr (2, [.int (nI n), .ref a0])), (a0, .inl (cB, (n * 64), .inl f)), (h1, .inr (2, [.int (nI n), .ref a1])), (a1, .inl (cB, (n * 64), .inl k))] s.heap.size = A at hD ⊢
  have hA : ∀ q : Nat, s.heap.size ≤ q → A q := fun q h => by rw [← hAe]; exact Or.inr h
  have hS : va_S A s.heap s.heap [] := va_S.rf
  have hP : va_P (dC, dI) vwCl [(h0, .inr (2, [.int (nI n), .ref a0])), (a0, .inl (cB, (n * 64), .inl f)), (h1, .inr (2, [.int (nI n), .ref a1])), (a1, .inl (cB, (n * 64), .inl k))] s.heap := hP
  have hl := lv_entry ([.ref h0, .ref h1]) (n := 3) (Nat.le_of_ble_eq_true rfl)
  rw [lg_entry_eq]
  generalize (lg_sl ([.ref h0, .ref h1]) ++ List.replicate (3 - (lg_sl ([.ref h0, .ref h1])).length) Slot.unset).toArray = ls at hl ⊢
  have hl : lv_has ls 3 [(0, .ref h0), (1, .ref h1)] := hl
  refine lv_iconst (v := 0) hx hb dX1_copyAll_0 (by decide) ?_
  refine lv_istore_n (lv' := [(2, .int 0), (0, .ref h0), (1, .ref h1)]) hx hb dX1_copyAll_1 rfl hl (by decide) rfl (fun ls hl => ?_)
  refine mq_loop 2 3 (σ := Nat × (Nat → Int32)) (I := fun q => q.1 ≤ n ∧ sb_Fit q.2) (μ := fun q => n - q.1) (wsf := fun q => [(h0, .inr (2, [.int (nI n), .ref a0])), (a0, .inl (cB, (n * 64), .inl q.2)), (h1, .inr (2, [.int (nI n), .ref a1])), (a1, .inl (cB, (n * 64), .inl k))]) (lvf := fun q => [(0, .ref h0), (1, .ref h1), (2, .int (nI q.1))]) (fun q_2 hI_2 ih_2 H locs ls hP hD hS hl => ?_) (0, f) ⟨Nat.zero_le _, hf⟩ (hP.sub [0, 1, 2, 3] rfl) (hD.sub [0, 1, 2, 3] (by decide) rfl) hS (lv_sub hl [1, 2, 0] rfl)
  obtain ⟨i, g⟩ := q_2
  have hI : i ≤ n := hI_2.1
  have hg : sb_Fit g := hI_2.2
  have hP : va_P (dC, dI) vwCl [(h0, .inr (2, [.int (nI n), .ref a0])), (a0, .inl (cB, (n * 64), .inl g)), (h1, .inr (2, [.int (nI n), .ref a1])), (a1, .inl (cB, (n * 64), .inl k))] H := hP
  have hD : va_D A [(h0, .inr (2, [.int (nI n), .ref a0])), (a0, .inl (cB, (n * 64), .inl g)), (h1, .inr (2, [.int (nI n), .ref a1])), (a1, .inl (cB, (n * 64), .inl k))] := hD
  have hl : lv_has ls 3 [(0, .ref h0), (1, .ref h1), (2, .int (nI i))] := hl
  refine lv_iload_n hx hb dX1_copyAll_2 rfl (lv_at hl 2 rfl) ?_
  refine lv_aload_n hx hb dX1_copyAll_3 rfl (lv_at hl 0 rfl) ?_
  refine va_get (D := (dC, dI)) (ci := 2) (v := .int (nI n)) (C := RX1) (T := TX1) (N := 2) hx hb hts hiX1 hown hK hP 0 rfl rfl 0 (by decide) (hts (.fieldLink RX1 18 "LibraryDisk$Sectors" "count" "I") (by decide +kernel)) (fun _ h9 => h9) rfl dX1_copyAll_4 ?_
  refine lv_icmp_ge (tgt := 25) hx hb dX1_copyAll_7 (by decide) (fun c_7 => ?_) (fun c_7 => ?_)
  · skip
    have hP9 := hP.sub (ws' := [(h0, .inr (2, [.int (nI n), .ref a0])), (a0, .inl (cB, (n * 64), .inl g)), (h1, .inr (2, [.int (nI n), .ref a1])), (a1, .inl (cB, (n * 64), .inl k))]) [0, 1, 2, 3] rfl
    have hD9 := hD.sub (ws' := [(h0, .inr (2, [.int (nI n), .ref a0])), (a0, .inl (cB, (n * 64), .inl g)), (h1, .inr (2, [.int (nI n), .ref a1])), (a1, .inl (cB, (n * 64), .inl k))]) [0, 1, 2, 3] (by decide) rfl
    exact W.vret hx hb hr (fun t ht hW => ⟨⟨g, rfl, hg, by rw [ht]; exact hP9, va_K.moved hW.alike hK, by rw [hAe]; exact hD9⟩, hS.F ht⟩) hS.2.2 dX1_copyAll_25
  · skip
    have hlt : i < n := k_lt (k := n) rfl (by omega) (by omega) c_7
    refine lv_aload_n hx hb dX1_copyAll_10 rfl (lv_at hl 0 rfl) ?_
    refine lv_aload_n hx hb dX1_copyAll_11 rfl (lv_at hl 1 rfl) ?_
    refine lv_iload_n hx hb dX1_copyAll_12 rfl (lv_at hl 2 rfl) ?_
    refine lv_iconst (v := 0) hx hb dX1_copyAll_13 (by decide) ?_
    refine lv_bipush (v := 64) hx hb dX1_copyAll_14 (by decide) ?_
    refine mq_callv (wr := []) (fun (uu_1 : (Nat → Int32)) => [(h0, .inr (2, [.int (nI n), .ref a0])), (a0, .inl (cB, (n * 64), .inl uu_1)), (h1, .inr (2, [.int (nI n), .ref a1])), (a1, .inl (cB, (n * 64), .inl k))]) (va_runV (As := [.ref h1, .int (nI i), .int 0, .int 64]) (rest := []) ⟨hx, hb, hml, hown, hts⟩ (ct_X1_copyPart l dC dI cB cI h0 a0 h1 a1 n hn g k hg hk (nI i) H.size) (cwV 4 hts gX1_copyAll_X1_copyPart rfl rfl rfl (by decide +kernel) ⟨Nat.le_of_ble_eq_true rfl, Nat.le_of_ble_eq_true rfl⟩) ⟨mq_blind, va_recv hK hP (ci := 2) (q0 := 0) rfl rfl, mq_pre hK hN hP hD [0, 1, 2, 3] rfl (by decide)⟩ rfl rfl hl.1 rfl (lv_room (Nat.le_of_ble_eq_true rfl)) dX1_copyAll_16 ⟨Nat.le_of_ble_eq_true rfl, Nat.le_of_ble_eq_true rfl⟩) hP hD hS hA [0, 1, 2, 3] [] [0, 1, 2, 3] rfl rfl (by decide) (by decide) (by decide) (fun _ => rfl) (fun u_3 H locs hw_16 hP hD hS => ?_)
    have hP : va_P (dC, dI) vwCl [(h0, .inr (2, [.int (nI n), .ref a0])), (a0, .inl (cB, (n * 64), .inl u_3)), (h1, .inr (2, [.int (nI n), .ref a1])), (a1, .inl (cB, (n * 64), .inl k))] H := hP
    have hD : va_D A [(h0, .inr (2, [.int (nI n), .ref a0])), (a0, .inl (cB, (n * 64), .inl u_3)), (h1, .inr (2, [.int (nI n), .ref a1])), (a1, .inl (cB, (n * 64), .inl k))] := hD
    obtain ⟨x_4, ex_4⟩ : ∃ y : Int32, y = (nI i) + 1 := ⟨_, rfl⟩
    refine lv_iinc (v := x_4) (lv' := [(2, .int x_4), (0, .ref h0), (1, .ref h1)]) hx hb dX1_copyAll_19 hl (k := 2) rfl (by rw [ex_4]; rfl) (by decide) rfl (fun ls hl => ?_)
    refine lv_goto (tgt := 2) hx hb dX1_copyAll_22 (by decide) ?_
    obtain rfl : x_4 = nI (i + 1) := by rw [ex_4]; exact nI_1 i
    exact ih_2 (i + 1, u_3) ⟨show i + 1 ≤ n by omega, hw_16⟩ (show n - (i + 1) < n - i by omega) _ _ _ (hP.sub [0, 1, 2, 3] rfl) (hD.sub [0, 1, 2, 3] (by decide) rfl) hS (lv_sub hl [1, 2, 0] rfl)
set_option maxHeartbeats 4000000 in
set_option maxRecDepth 100000 in
/-- Sectors(n) -/
theorem ct_X1_init (l : Launch) (dC : Nat → ClassId) (dI : Nat → Nat → Nat) (cB cI : ClassId) (h0 n : Nat) (hn : n ≤ 40) (sz : Nat) : mq_V l (dC, dI) vwCl [(cB, .byte), (cI, .int)] yX1_init wsX1_init ({ frames := 1, cells := 1, slots := 2560, locals := 15 }) [.ref h0, .int (nI n)] [(h0, .inr (2, [.int 0, .null]))] sz (fun (q : Nat) => True) (fun (q : Nat) => [(h0, .inr (2, [.int (nI n), .ref q])), (q, .inl (cB, (n * 64), .inl (fun _ => 0)))]) 1 2560 := by
  refine Met.ofW (cc := cX1_init) (maxL := 2) (ret := none) (by decide) rfl ?_
  intro p e s m args below meth c s₁ B hml hv
  obtain ⟨rfl, hsz, hP, hK, hD0, hN⟩ := hv
  have hx := B.exec
  have hb := B.bytes
  have hr := B.returns
  have hts := atoms_spec (ws := wsX1_init) B.pre
  have hown : s.vm.findClass RX1 = some m.cls := findClass_of_methodNamed B.named
  have hlocks := B.notSynchronized
  have hin : meth.name = "<init>" := (name_of_methodNamed B.named B.method).1
  have hiX1 : ∀ w ∈ u_ws RX1 TX1 2, w ∈ wsX1_init := by decide +kernel
  subst hsz
  have hD := hD0.self (sz := s.heap.size)
  generalize hAe : va_A [(h0, .inr (2, [.int 0, .null]))] s.heap.size = A at hD ⊢
  have hA : ∀ q : Nat, s.heap.size ≤ q → A q := fun q h => by rw [← hAe]; exact Or.inr h
  have hS : va_S A s.heap s.heap [] := va_S.rf
  have hP : va_P (dC, dI) vwCl [(h0, .inr (2, [.int 0, .null]))] s.heap := hP
  have hl := lv_entry ([.ref h0, .int (nI n)]) (n := 2) (Nat.le_of_ble_eq_true rfl)
  rw [lg_entry_eq]
  generalize (lg_sl ([.ref h0, .int (nI n)]) ++ List.replicate (2 - (lg_sl ([.ref h0, .int (nI n)])).length) Slot.unset).toArray = ls at hl ⊢
  have hl : lv_has ls 2 [(0, .ref h0), (1, .int (nI n))] := hl
  refine lv_aload_n hx hb dX1_init_0 rfl (lv_at hl 0 rfl) ?_
  refine W.objInit hx hb hown (hts (.methodLink RX1 3 objectInit) (by decide +kernel)) (hts (.instanceMethod objectInit) (by decide +kernel)) (hts _ (by decide +kernel)) rfl (by rw [hml]; exact hl.1) rfl dX1_init_1 (Nat.le_of_ble_eq_true rfl) (Nat.le_of_ble_eq_true rfl) ?_
  refine W.eq (g2 := F0 m 4 ls []) rfl ?_
  refine lv_aload_n hx hb dX1_init_4 rfl (lv_at hl 0 rfl) ?_
  refine lv_iconst (v := 0) hx hb dX1_init_5 (by decide) ?_
  refine lv_bipush (v := 40) hx hb dX1_init_6 (by decide) ?_
  refine lv_iload_n hx hb dX1_init_8 rfl (lv_at hl 1 rfl) ?_
  refine va_mmin hx hb (by rw [hml]; exact hl.1.symm) hown (hts (.methodLink RX1 9 Lib.Math.min.name) (by decide +kernel)) (hts (.static Lib.Math.min.name) (by decide +kernel)) (hts (.initialized "java/lang/Math") (by decide +kernel)) (hts (.code Lib.Math.min.name Lib.Math.min.code 2 (some .int)) (by decide +kernel)) (Nat.le_of_ble_eq_true rfl) (Nat.le_of_ble_eq_true rfl) (Nat.zero_le _) (Nat.zero_le _) dX1_init_9 ?_
  refine va_mmax hx hb (by rw [hml]; exact hl.1.symm) hown (hts (.methodLink RX1 15 Lib.Math.max.name) (by decide +kernel)) (hts (.static Lib.Math.max.name) (by decide +kernel)) (hts (.initialized "java/lang/Math") (by decide +kernel)) (hts (.code Lib.Math.max.name Lib.Math.max.code 2 (some .int)) (by decide +kernel)) (Nat.le_of_ble_eq_true rfl) (Nat.le_of_ble_eq_true rfl) (Nat.zero_le _) (Nat.zero_le _) dX1_init_12 ?_
  refine lv_topi (fun x_1 ex_1 => ?_)
  obtain rfl : x_1 = nI n := by rw [ex_1]; exact mn_40 hn
  refine va_putF (D := (dC, dI)) (ci := 2) (v := .int (nI n)) (ty := .int) (C := RX1) (T := TX1) (N := 2) hx hb hts hiX1 tyX1 tyX1_ok nmX1 hown hK hP hD hS 0 rfl rfl 0 (by decide) (hts (.fieldLink RX1 18 "LibraryDisk$Sectors" "count" "I") (by decide +kernel)) (fun _ h9 => h9) rfl hin rfl (by decide +kernel) rfl rfl (Nat.le_of_ble_eq_true rfl) dX1_init_15 (fun H locs hP hD hS => ?_)
  have hP : va_P (dC, dI) vwCl [(h0, .inr (2, [.int (nI n), .null]))] H := hP
  have hD : va_D A [(h0, .inr (2, [.int (nI n), .null]))] := hD
  refine lv_aload_n hx hb dX1_init_18 rfl (lv_at hl 0 rfl) ?_
  refine lv_aload_n hx hb dX1_init_19 rfl (lv_at hl 0 rfl) ?_
  refine va_get (D := (dC, dI)) (ci := 2) (v := .int (nI n)) (C := RX1) (T := TX1) (N := 2) hx hb hts hiX1 hown hK hP 0 rfl rfl 0 (by decide) (hts (.fieldLink RX1 18 "LibraryDisk$Sectors" "count" "I") (by decide +kernel)) (fun _ h9 => h9) rfl dX1_init_20 ?_
  refine lv_bipush (v := 64) hx hb dX1_init_23 (by decide) ?_
  refine lv_imul hx hb dX1_init_25 ?_
  refine lv_topi (fun x_2 ex_2 => ?_)
  obtain rfl : x_2 = nI (n * 64) := by rw [ex_2, show (64 : Int32) = nI 64 from rfl, pk_mul]
  refine va_newa (atype := .byte) (ty := .byte) (a0 := (n * 64, .inl (fun _ => 0))) (N' := (n * 64)) hx hb (hts (.arrayClass .byte) (by decide +kernel)) rfl hK hP hD hS hA (fun _ => rfl) (nI_pos (by omega)) (nI_clamp (by omega)) (by show (n * 64) * 1 ≤ 536870912; omega) (by show 0 + 1 ≤ 1; omega) (by show 0 + n * 64 ≤ 2560; omega) dX1_init_26 (fun q_26 cA_26 H hK_26 hP hD hS => ?_)
  obtain rfl : cB = cA_26 := mq_sameB hK_26 0 2 rfl rfl
  have hP : va_P (dC, dI) vwCl [(h0, .inr (2, [.int (nI n), .null])), (q_26, .inl (cB, (n * 64), .inl (fun _ => 0)))] H := hP
  have hD : va_D A [(h0, .inr (2, [.int (nI n), .null])), (q_26, .inl (cB, (n * 64), .inl (fun _ => 0)))] := hD
  refine W.widen (k := 1) (n := 2560) (by omega) (by omega) ?_
  refine va_putF (D := (dC, dI)) (ci := 2) (v := .ref q_26) (ty := (.array .byte)) (C := RX1) (T := TX1) (N := 2) hx hb hts hiX1 tyX1 tyX1_ok nmX1 hown hK hP hD hS 0 rfl rfl 1 (by decide) (hts (.fieldLink RX1 24 "LibraryDisk$Sectors" "bytes" "[B") (by decide +kernel)) (fun _ h9 => h9) rfl hin rfl (by decide +kernel) rfl rfl (Nat.le_of_ble_eq_true rfl) dX1_init_28 (fun H locs hP hD hS => ?_)
  have hP : va_P (dC, dI) vwCl [(h0, .inr (2, [.int (nI n), .ref q_26])), (q_26, .inl (cB, (n * 64), .inl (fun _ => 0)))] H := hP
  have hD : va_D A [(h0, .inr (2, [.int (nI n), .ref q_26])), (q_26, .inl (cB, (n * 64), .inl (fun _ => 0)))] := hD
  have hP9 := hP.sub (ws' := [(h0, .inr (2, [.int (nI n), .ref q_26])), (q_26, .inl (cB, (n * 64), .inl (fun _ => 0)))]) [0, 1] rfl
  have hD9 := hD.sub (ws' := [(h0, .inr (2, [.int (nI n), .ref q_26])), (q_26, .inl (cB, (n * 64), .inl (fun _ => 0)))]) [0, 1] (by decide) rfl
  refine W.widen (k := 1) (n := 2560) (by omega) (by omega) ?_
  exact W.vret hx hb hr (fun t ht hW => ⟨⟨q_26, rfl, trivial, by rw [ht]; exact hP9, va_K.moved hW.alike hK, by rw [hAe]; exact hD9⟩, hS.F ht⟩) hS.2.2 dX1_init_31
