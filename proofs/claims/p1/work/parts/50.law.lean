set_option maxHeartbeats 8000000 in
set_option maxRecDepth 100000 in
/-- the law on scripts of at most five ints: one call on fresh objects -/
theorem p1_start {p : Program} {e : Env} {s : State} {m : MethodId} {below : List Frame} {meth : Method} {c : Code} (l : Launch) {b L : Nat} {xs : Nat → Int32} (hL : L ≤ 5) (C0 : lw_At p s m meth c b L xs) : W p l e room_1 s m #[Value.ref b] below meth c s.heap [] 0 0 (lw_Z below #[Value.ref b] s) (entryFrame m ([Value.ref b] : List Value).toArray 7) := by
  obtain ⟨hx, hb, hr, hml, hown0, hts0, hX, hbl, hlocks, hgv⟩ := id C0
  have hN : nx_W s := nx_law hts0
  have hown : s.vm.findClass RL = some m.cls := hown0
  have hts : ∀ w ∈ wsL_law, w.before #[Value.ref b] s = true := fun w h => hts0 w (wsL_law_in w h)
  obtain ⟨A, hA, hA2⟩ : ∃ A : Nat → Prop, (∀ q : Nat, s.heap.size ≤ q → A q) ∧ (∀ q : Nat, A q → s.heap.size ≤ q) := ⟨fun q => s.heap.size ≤ q, fun _ h => h, fun _ h => h⟩
  have hbA : ¬ A b := fun h => Nat.not_le.mpr hbl (hA2 b h)
  obtain ⟨c0, iS0, hKn0⟩ := u_known (C := RJx00060) (T := TJx00060) (N := 6) (n := 6) hts0 inJx00060 (hts0 (.instantiable RJx00060 6) (by decide +kernel))
  obtain ⟨c1, iS1, hKn1⟩ := u_known (C := RX0) (T := TX0) (N := 8) (n := 8) hts0 inX0 (hts0 (.instantiable RX0 8) (by decide +kernel))
  obtain ⟨c2, iS2, hKn2⟩ := u_known (C := RX1) (T := TX1) (N := 2) (n := 2) hts0 inX1 (hts0 (.instantiable RX1 2) (by decide +kernel))
  obtain ⟨c3, iS3, hKn3⟩ := u_known (C := RX2) (T := TX2) (N := 16) (n := 16) hts0 inX2 (hts0 (.instantiable RX2 16) (by decide +kernel))
  obtain ⟨c4, iS4, hKn4⟩ := u_known (C := RX3) (T := TX3) (N := 21) (n := 21) hts0 inX3 (hts0 (.instantiable RX3 21) (by decide +kernel))
  obtain ⟨dC, dI, hKc⟩ : ∃ (dC : Nat → ClassId) (dI : Nat → Nat → Nat), ∀ (k : Nat) (q : vw_C), vwCl[k]? = some q → u_Kn s q.1 q.2.1 q.2.2 (dC k) (dI k) := by
    refine ⟨fun k => if k = 0 then c0 else if k = 1 then c1 else if k = 2 then c2 else if k = 3 then c3 else c4, fun k => if k = 0 then iS0 else if k = 1 then iS1 else if k = 2 then iS2 else if k = 3 then iS3 else iS4, ?_⟩
    intro k q hq
    match k, hq with
    | 0, hq => cases hq; exact hKn0
    | 1, hq => cases hq; exact hKn1
    | 2, hq => cases hq; exact hKn2
    | 3, hq => cases hq; exact hKn3
    | 4, hq => cases hq; exact hKn4
    | k + 5, hq => simp [vwCl] at hq
  obtain ⟨cB, hB1, hB2⟩ := mq_arr (hts0 (.arrayClass .byte) (by decide +kernel))
  obtain ⟨cI, hI1, hI2⟩ := mq_arr (hts0 (.arrayClass .int) (by decide +kernel))
  have hK : va_K (dC, dI) vwCl [(cB, .byte), (cI, .int)] s := ⟨hKc, fun k q h => by
    match k, h with
    | 0, h => cases h; exact ⟨hB1, hB2⟩
    | 1, h => cases h; exact ⟨hI1, hI2⟩
    | k + 2, h => simp at h⟩
  have hiX2 : ∀ w ∈ u_ws RX2 TX2 16, w ∈ wsL_law := inlX2
  have hiX3 : ∀ w ∈ u_ws RX3 TX3 21, w ∈ wsL_law := inlX3
  have hc := cl_b (c_0 L xs)
  have hS : va_S A s.heap s.heap [] := va_S.rf
  have hP : va_P (dC, dI) vwCl [] s.heap := fun k q h => by simp at h
  have hD : va_D A [] := ⟨fun i j p q h => by simp at h, fun k q h => by simp at h⟩
  have hl := lv_entry ([.ref b]) (n := 7) (Nat.le_of_ble_eq_true rfl)
  rw [lg_entry_eq]
  generalize (lg_sl ([.ref b]) ++ List.replicate (7 - (lg_sl ([.ref b])).length) Slot.unset).toArray = ls at hl ⊢
  have hl : lv_has ls 7 [(0, .ref b)] := hl
  refine va_new (ci := 3) (fs := [.null, .null, .null, .null, .int 0, .null, .null, .int 0, .int 0, .int 0, .int 0, .int 0, .int 0, .int 0, .int 0, .int 0]) (C := RX2) (T := TX2) (N := 16) hx hb hts hiX2 tyX2 tyX2_ok hown (hts (.classLink RL 8 RX2) (by decide +kernel)) (hts (.instantiable RX2 16) (by decide +kernel)) (hts (.initialized RX2) (by decide +kernel)) hK hP hD hS hA rfl (fun j hj => by rcases (show j = 0 ∨ j = 1 ∨ j = 2 ∨ j = 3 ∨ j = 4 ∨ j = 5 ∨ j = 6 ∨ j = 7 ∨ j = 8 ∨ j = 9 ∨ j = 10 ∨ j = 11 ∨ j = 12 ∨ j = 13 ∨ j = 14 ∨ j = 15 by omega) with rfl | rfl | rfl | rfl | rfl | rfl | rfl | rfl | rfl | rfl | rfl | rfl | rfl | rfl | rfl | rfl <;> rfl) (by show 0 + 1 ≤ 600002; omega) (by show 0 + 16 ≤ 7302198; omega) dL_law_0 (fun q_0 H hP hD hS => ?_)
  have hP : va_P (dC, dI) vwCl [(q_0, .inr (3, [.null, .null, .null, .null, .int 0, .null, .null, .int 0, .int 0, .int 0, .int 0, .int 0, .int 0, .int 0, .int 0, .int 0]))] H := hP
  have hD : va_D A [(q_0, .inr (3, [.null, .null, .null, .null, .int 0, .null, .null, .int 0, .int 0, .int 0, .int 0, .int 0, .int 0, .int 0, .int 0, .int 0]))] := hD
  refine W.widen (k := 1) (n := 16) (by omega) (by omega) ?_
  refine lv_dup hx hb dL_law_3 rfl ?_
  refine lv_aload_n hx hb dL_law_4 rfl (lv_at hl 0 rfl) ?_
  refine lv_iconst (v := 0) hx hb dL_law_5 (by decide) ?_
  have hFc : ∀ q, va_A [] H.size q → A q := by
    rintro q (⟨k, e, h⟩ | h)
    · simp at h
    · exact hA q (Nat.le_trans hS.1 h)
  refine va_calli (va_runS (As := [.ref b, .int 0]) (rest := [.ref q_0, .ref q_0]) ⟨hx, hb, hml, hown, hts⟩ (ct_L_cell l b L xs (by omega) H.size) (va_cwS 2 hts gL_law_L_cell rfl rfl rfl (by decide +kernel) ⟨Nat.le_of_ble_eq_true rfl, Nat.le_of_ble_eq_true rfl⟩) ⟨fun a U g mk q => ⟨q.1, q.2.1, va_X.moved (u := U) (U := U.calling g mk a) (Vm.Alike.refl U.vm) q.2.2.1, q.2.2.2⟩, fun U hU hW => ⟨rfl, by rw [hU], by rw [hU]; exact va_X.moved hW.alike (hX.kept (hS.2.1 b hbl hbA)), by rw [hU]; exact Nat.lt_of_lt_of_le hbl hS.1⟩⟩ rfl rfl hl.1 rfl (lv_room (Nat.le_of_ble_eq_true rfl)) dL_law_6 ⟨Nat.le_of_ble_eq_true rfl, Nat.le_of_ble_eq_true rfl⟩) hS (fun q _ h => hFc q h) hFc (fun r_1 _ t H1 locs ht hvm hw hB hz1 hk1 hS => ?_)
  subst hw
  have hP := hP.kept (fun k q hq => hk1 q.1 ((hP k q hq).lt) (fun z => z.elim (fun ⟨k2, e2, h⟩ => by simp at h) (fun h => absurd ((hP k q hq).lt) (Nat.not_lt.mpr h))))
  generalize H1 = H at hP hS ⊢
  have hP : va_P (dC, dI) vwCl [(q_0, .inr (3, [.null, .null, .null, .null, .int 0, .null, .null, .int 0, .int 0, .int 0, .int 0, .int 0, .int 0, .int 0, .int 0, .int 0]))] H := hP
  have hD : va_D A [(q_0, .inr (3, [.null, .null, .null, .null, .int 0, .null, .null, .int 0, .int 0, .int 0, .int 0, .int 0, .int 0, .int 0, .int 0, .int 0]))] := hD
  refine mq_callv (wr := []) (fun (uu_2 : (Nat → Nat)) => [(q_0, .inr (3, [.ref (uu_2 0), .ref (uu_2 2), .ref (uu_2 4), .ref (uu_2 6), .int 0, .ref (uu_2 8), .ref (uu_2 14), .int 0, .int 0, .int 0, .int 1, .int 0, .int 0, .int 0, .int 0, .int 0])), (uu_2 0, .inr (2, [.int (nI (cl_n (c_0 L xs))), .ref (uu_2 1)])), (uu_2 1, .inl (cB, (cl_n (c_0 L xs) * 64), .inl (fun _ => 0))), (uu_2 2, .inr (2, [.int (nI (cl_n (c_0 L xs))), .ref (uu_2 3)])), (uu_2 3, .inl (cB, (cl_n (c_0 L xs) * 64), .inl (fun _ => 0))), (uu_2 4, .inr (2, [.int (nI (cl_n (c_0 L xs))), .ref (uu_2 5)])), (uu_2 5, .inl (cB, (cl_n (c_0 L xs) * 64), .inl (fun _ => 0))), (uu_2 6, .inr (2, [.int (nI (cl_n (c_0 L xs))), .ref (uu_2 7)])), (uu_2 7, .inl (cB, (cl_n (c_0 L xs) * 64), .inl (fun _ => 0))), (uu_2 8, .inr (1, [.ref (uu_2 9), .ref (uu_2 10), .ref (uu_2 11), .ref (uu_2 12), .ref (uu_2 13), .int 0, .int 0, .int 0])), (uu_2 9, .inl (cI, ((cl_n (c_0 L xs) - 2) * 27), .inl (fun _ => 0))), (uu_2 10, .inl (cI, ((cl_n (c_0 L xs) - 2) * 27), .inl (fun _ => 0))), (uu_2 11, .inl (cI, ((cl_n (c_0 L xs) - 2) * 27), .inl (fun _ => 0))), (uu_2 12, .inl (cI, ((cl_n (c_0 L xs) - 2) * 27), .inl (fun _ => 0))), (uu_2 13, .inl (cB, ((cl_n (c_0 L xs) - 2) * 55), .inl (fun _ => 0))), (uu_2 14, .inl (cB, 40, .inl (fun _ => 0)))]) (va_runI (As := [.int (c_0 L xs)]) (rest := [.ref q_0]) ⟨hx, hb, hml, hown, hts⟩ (ct_X2_init l dC dI cB cI q_0 (c_0 L xs) H.size) (cwI 1 hts gL_law_X2_init rfl rfl rfl (hts (.initialized RX2) (by decide +kernel)) (hts (.methodLink RL 21 yX2_init) (by decide +kernel)) (hts (.instanceMethod yX2_init) (by decide +kernel)) rfl (by decide +kernel) ⟨Nat.le_of_ble_eq_true rfl, Nat.le_of_ble_eq_true rfl⟩) ⟨mq_blind, mq_pre hK hN hP hD [0] rfl (by decide)⟩ rfl rfl hl.1 rfl (lv_room (Nat.le_of_ble_eq_true rfl)) dL_law_9 ⟨Nat.le_of_ble_eq_true rfl, Nat.le_of_ble_eq_true rfl⟩) hP hD hS hA [0] [] [0, 1, 2, 3, 4, 5, 6, 7, 8, 9, 10, 11, 12, 13, 14, 15] rfl rfl (by decide) (by decide) (by decide) (fun _ => rfl) (fun u_4 H locs hw_9 hP hD hS => ?_)
  have hP : va_P (dC, dI) vwCl [(q_0, .inr (3, [.ref (u_4 0), .ref (u_4 2), .ref (u_4 4), .ref (u_4 6), .int 0, .ref (u_4 8), .ref (u_4 14), .int 0, .int 0, .int 0, .int 1, .int 0, .int 0, .int 0, .int 0, .int 0])), (u_4 0, .inr (2, [.int (nI (cl_n (c_0 L xs))), .ref (u_4 1)])), (u_4 1, .inl (cB, (cl_n (c_0 L xs) * 64), .inl (fun _ => 0))), (u_4 2, .inr (2, [.int (nI (cl_n (c_0 L xs))), .ref (u_4 3)])), (u_4 3, .inl (cB, (cl_n (c_0 L xs) * 64), .inl (fun _ => 0))), (u_4 4, .inr (2, [.int (nI (cl_n (c_0 L xs))), .ref (u_4 5)])), (u_4 5, .inl (cB, (cl_n (c_0 L xs) * 64), .inl (fun _ => 0))), (u_4 6, .inr (2, [.int (nI (cl_n (c_0 L xs))), .ref (u_4 7)])), (u_4 7, .inl (cB, (cl_n (c_0 L xs) * 64), .inl (fun _ => 0))), (u_4 8, .inr (1, [.ref (u_4 9), .ref (u_4 10), .ref (u_4 11), .ref (u_4 12), .ref (u_4 13), .int 0, .int 0, .int 0])), (u_4 9, .inl (cI, ((cl_n (c_0 L xs) - 2) * 27), .inl (fun _ => 0))), (u_4 10, .inl (cI, ((cl_n (c_0 L xs) - 2) * 27), .inl (fun _ => 0))), (u_4 11, .inl (cI, ((cl_n (c_0 L xs) - 2) * 27), .inl (fun _ => 0))), (u_4 12, .inl (cI, ((cl_n (c_0 L xs) - 2) * 27), .inl (fun _ => 0))), (u_4 13, .inl (cB, ((cl_n (c_0 L xs) - 2) * 55), .inl (fun _ => 0))), (u_4 14, .inl (cB, 40, .inl (fun _ => 0)))] H := hP
  have hD : va_D A [(q_0, .inr (3, [.ref (u_4 0), .ref (u_4 2), .ref (u_4 4), .ref (u_4 6), .int 0, .ref (u_4 8), .ref (u_4 14), .int 0, .int 0, .int 0, .int 1, .int 0, .int 0, .int 0, .int 0, .int 0])), (u_4 0, .inr (2, [.int (nI (cl_n (c_0 L xs))), .ref (u_4 1)])), (u_4 1, .inl (cB, (cl_n (c_0 L xs) * 64), .inl (fun _ => 0))), (u_4 2, .inr (2, [.int (nI (cl_n (c_0 L xs))), .ref (u_4 3)])), (u_4 3, .inl (cB, (cl_n (c_0 L xs) * 64), .inl (fun _ => 0))), (u_4 4, .inr (2, [.int (nI (cl_n (c_0 L xs))), .ref (u_4 5)])), (u_4 5, .inl (cB, (cl_n (c_0 L xs) * 64), .inl (fun _ => 0))), (u_4 6, .inr (2, [.int (nI (cl_n (c_0 L xs))), .ref (u_4 7)])), (u_4 7, .inl (cB, (cl_n (c_0 L xs) * 64), .inl (fun _ => 0))), (u_4 8, .inr (1, [.ref (u_4 9), .ref (u_4 10), .ref (u_4 11), .ref (u_4 12), .ref (u_4 13), .int 0, .int 0, .int 0])), (u_4 9, .inl (cI, ((cl_n (c_0 L xs) - 2) * 27), .inl (fun _ => 0))), (u_4 10, .inl (cI, ((cl_n (c_0 L xs) - 2) * 27), .inl (fun _ => 0))), (u_4 11, .inl (cI, ((cl_n (c_0 L xs) - 2) * 27), .inl (fun _ => 0))), (u_4 12, .inl (cI, ((cl_n (c_0 L xs) - 2) * 27), .inl (fun _ => 0))), (u_4 13, .inl (cB, ((cl_n (c_0 L xs) - 2) * 55), .inl (fun _ => 0))), (u_4 14, .inl (cB, 40, .inl (fun _ => 0)))] := hD
  refine W.widen (k := 16) (n := 16506) (by omega) (by omega) ?_
  refine lv_astore_n (lv' := [(1, .ref q_0), (0, .ref b)]) hx hb dL_law_12 rfl hl (by decide) rfl (fun ls hl => ?_)
  refine va_new (ci := 4) (fs := [.int 0, .int 0, .null, .null, .null, .null, .int 0, .int 0, .int 0, .int 0, .int 0, .int 0, .int 0, .int 0, .null, .int 0, .int 0, .null, .null, .null, .null]) (C := RX3) (T := TX3) (N := 21) hx hb hts hiX3 tyX3 tyX3_ok hown (hts (.classLink RL 24 RX3) (by decide +kernel)) (hts (.instantiable RX3 21) (by decide +kernel)) (hts (.initialized RX3) (by decide +kernel)) hK hP hD hS hA rfl (fun j hj => by rcases (show j = 0 ∨ j = 1 ∨ j = 2 ∨ j = 3 ∨ j = 4 ∨ j = 5 ∨ j = 6 ∨ j = 7 ∨ j = 8 ∨ j = 9 ∨ j = 10 ∨ j = 11 ∨ j = 12 ∨ j = 13 ∨ j = 14 ∨ j = 15 ∨ j = 16 ∨ j = 17 ∨ j = 18 ∨ j = 19 ∨ j = 20 by omega) with rfl | rfl | rfl | rfl | rfl | rfl | rfl | rfl | rfl | rfl | rfl | rfl | rfl | rfl | rfl | rfl | rfl | rfl | rfl | rfl | rfl <;> rfl) (by show 16 + 1 ≤ 600002; omega) (by show 16506 + 21 ≤ 7302198; omega) dL_law_13 (fun q_13 H hP hD hS => ?_)
  have hP : va_P (dC, dI) vwCl [(q_0, .inr (3, [.ref (u_4 0), .ref (u_4 2), .ref (u_4 4), .ref (u_4 6), .int 0, .ref (u_4 8), .ref (u_4 14), .int 0, .int 0, .int 0, .int 1, .int 0, .int 0, .int 0, .int 0, .int 0])), (u_4 0, .inr (2, [.int (nI (cl_n (c_0 L xs))), .ref (u_4 1)])), (u_4 1, .inl (cB, (cl_n (c_0 L xs) * 64), .inl (fun _ => 0))), (u_4 2, .inr (2, [.int (nI (cl_n (c_0 L xs))), .ref (u_4 3)])), (u_4 3, .inl (cB, (cl_n (c_0 L xs) * 64), .inl (fun _ => 0))), (u_4 4, .inr (2, [.int (nI (cl_n (c_0 L xs))), .ref (u_4 5)])), (u_4 5, .inl (cB, (cl_n (c_0 L xs) * 64), .inl (fun _ => 0))), (u_4 6, .inr (2, [.int (nI (cl_n (c_0 L xs))), .ref (u_4 7)])), (u_4 7, .inl (cB, (cl_n (c_0 L xs) * 64), .inl (fun _ => 0))), (u_4 8, .inr (1, [.ref (u_4 9), .ref (u_4 10), .ref (u_4 11), .ref (u_4 12), .ref (u_4 13), .int 0, .int 0, .int 0])), (u_4 9, .inl (cI, ((cl_n (c_0 L xs) - 2) * 27), .inl (fun _ => 0))), (u_4 10, .inl (cI, ((cl_n (c_0 L xs) - 2) * 27), .inl (fun _ => 0))), (u_4 11, .inl (cI, ((cl_n (c_0 L xs) - 2) * 27), .inl (fun _ => 0))), (u_4 12, .inl (cI, ((cl_n (c_0 L xs) - 2) * 27), .inl (fun _ => 0))), (u_4 13, .inl (cB, ((cl_n (c_0 L xs) - 2) * 55), .inl (fun _ => 0))), (u_4 14, .inl (cB, 40, .inl (fun _ => 0))), (q_13, .inr (4, [.int 0, .int 0, .null, .null, .null, .null, .int 0, .int 0, .int 0, .int 0, .int 0, .int 0, .int 0, .int 0, .null, .int 0, .int 0, .null, .null, .null, .null]))] H := hP
  have hD : va_D A [(q_0, .inr (3, [.ref (u_4 0), .ref (u_4 2), .ref (u_4 4), .ref (u_4 6), .int 0, .ref (u_4 8), .ref (u_4 14), .int 0, .int 0, .int 0, .int 1, .int 0, .int 0, .int 0, .int 0, .int 0])), (u_4 0, .inr (2, [.int (nI (cl_n (c_0 L xs))), .ref (u_4 1)])), (u_4 1, .inl (cB, (cl_n (c_0 L xs) * 64), .inl (fun _ => 0))), (u_4 2, .inr (2, [.int (nI (cl_n (c_0 L xs))), .ref (u_4 3)])), (u_4 3, .inl (cB, (cl_n (c_0 L xs) * 64), .inl (fun _ => 0))), (u_4 4, .inr (2, [.int (nI (cl_n (c_0 L xs))), .ref (u_4 5)])), (u_4 5, .inl (cB, (cl_n (c_0 L xs) * 64), .inl (fun _ => 0))), (u_4 6, .inr (2, [.int (nI (cl_n (c_0 L xs))), .ref (u_4 7)])), (u_4 7, .inl (cB, (cl_n (c_0 L xs) * 64), .inl (fun _ => 0))), (u_4 8, .inr (1, [.ref (u_4 9), .ref (u_4 10), .ref (u_4 11), .ref (u_4 12), .ref (u_4 13), .int 0, .int 0, .int 0])), (u_4 9, .inl (cI, ((cl_n (c_0 L xs) - 2) * 27), .inl (fun _ => 0))), (u_4 10, .inl (cI, ((cl_n (c_0 L xs) - 2) * 27), .inl (fun _ => 0))), (u_4 11, .inl (cI, ((cl_n (c_0 L xs) - 2) * 27), .inl (fun _ => 0))), (u_4 12, .inl (cI, ((cl_n (c_0 L xs) - 2) * 27), .inl (fun _ => 0))), (u_4 13, .inl (cB, ((cl_n (c_0 L xs) - 2) * 55), .inl (fun _ => 0))), (u_4 14, .inl (cB, 40, .inl (fun _ => 0))), (q_13, .inr (4, [.int 0, .int 0, .null, .null, .null, .null, .int 0, .int 0, .int 0, .int 0, .int 0, .int 0, .int 0, .int 0, .null, .int 0, .int 0, .null, .null, .null, .null]))] := hD
  refine W.widen (k := 17) (n := 16527) (by omega) (by omega) ?_
  refine lv_dup hx hb dL_law_16 rfl ?_
  refine lv_aload_n hx hb dL_law_17 rfl (lv_at hl 1 rfl) ?_
  refine lv_iconst (v := 0) hx hb dL_law_18 (by decide) ?_
  have hFc : ∀ q, va_A [] H.size q → A q := by
    rintro q (⟨k, e, h⟩ | h)
    · simp at h
    · exact hA q (Nat.le_trans hS.1 h)
  refine va_calli (va_runS (As := [.ref b, .int 0]) (rest := [.ref q_13, .ref q_13]) ⟨hx, hb, hml, hown, hts⟩ (ct_L_cell l b L xs (by omega) H.size) (va_cwS 2 hts gL_law_L_cell rfl rfl rfl (by decide +kernel) ⟨Nat.le_of_ble_eq_true rfl, Nat.le_of_ble_eq_true rfl⟩) ⟨fun a U g mk q => ⟨q.1, q.2.1, va_X.moved (u := U) (U := U.calling g mk a) (Vm.Alike.refl U.vm) q.2.2.1, q.2.2.2⟩, fun U hU hW => ⟨rfl, by rw [hU], by rw [hU]; exact va_X.moved hW.alike (hX.kept (hS.2.1 b hbl hbA)), by rw [hU]; exact Nat.lt_of_lt_of_le hbl hS.1⟩⟩ rfl rfl hl.1 rfl (lv_room (Nat.le_of_ble_eq_true rfl)) dL_law_19 ⟨Nat.le_of_ble_eq_true rfl, Nat.le_of_ble_eq_true rfl⟩) hS (fun q _ h => hFc q h) hFc (fun r_5 _ t H1 locs ht hvm hw hB hz1 hk1 hS => ?_)
  subst hw
  have hP := hP.kept (fun k q hq => hk1 q.1 ((hP k q hq).lt) (fun z => z.elim (fun ⟨k2, e2, h⟩ => by simp at h) (fun h => absurd ((hP k q hq).lt) (Nat.not_lt.mpr h))))
  generalize H1 = H at hP hS ⊢
  have hP : va_P (dC, dI) vwCl [(q_0, .inr (3, [.ref (u_4 0), .ref (u_4 2), .ref (u_4 4), .ref (u_4 6), .int 0, .ref (u_4 8), .ref (u_4 14), .int 0, .int 0, .int 0, .int 1, .int 0, .int 0, .int 0, .int 0, .int 0])), (u_4 0, .inr (2, [.int (nI (cl_n (c_0 L xs))), .ref (u_4 1)])), (u_4 1, .inl (cB, (cl_n (c_0 L xs) * 64), .inl (fun _ => 0))), (u_4 2, .inr (2, [.int (nI (cl_n (c_0 L xs))), .ref (u_4 3)])), (u_4 3, .inl (cB, (cl_n (c_0 L xs) * 64), .inl (fun _ => 0))), (u_4 4, .inr (2, [.int (nI (cl_n (c_0 L xs))), .ref (u_4 5)])), (u_4 5, .inl (cB, (cl_n (c_0 L xs) * 64), .inl (fun _ => 0))), (u_4 6, .inr (2, [.int (nI (cl_n (c_0 L xs))), .ref (u_4 7)])), (u_4 7, .inl (cB, (cl_n (c_0 L xs) * 64), .inl (fun _ => 0))), (u_4 8, .inr (1, [.ref (u_4 9), .ref (u_4 10), .ref (u_4 11), .ref (u_4 12), .ref (u_4 13), .int 0, .int 0, .int 0])), (u_4 9, .inl (cI, ((cl_n (c_0 L xs) - 2) * 27), .inl (fun _ => 0))), (u_4 10, .inl (cI, ((cl_n (c_0 L xs) - 2) * 27), .inl (fun _ => 0))), (u_4 11, .inl (cI, ((cl_n (c_0 L xs) - 2) * 27), .inl (fun _ => 0))), (u_4 12, .inl (cI, ((cl_n (c_0 L xs) - 2) * 27), .inl (fun _ => 0))), (u_4 13, .inl (cB, ((cl_n (c_0 L xs) - 2) * 55), .inl (fun _ => 0))), (u_4 14, .inl (cB, 40, .inl (fun _ => 0))), (q_13, .inr (4, [.int 0, .int 0, .null, .null, .null, .null, .int 0, .int 0, .int 0, .int 0, .int 0, .int 0, .int 0, .int 0, .null, .int 0, .int 0, .null, .null, .null, .null]))] H := hP
  have hD : va_D A [(q_0, .inr (3, [.ref (u_4 0), .ref (u_4 2), .ref (u_4 4), .ref (u_4 6), .int 0, .ref (u_4 8), .ref (u_4 14), .int 0, .int 0, .int 0, .int 1, .int 0, .int 0, .int 0, .int 0, .int 0])), (u_4 0, .inr (2, [.int (nI (cl_n (c_0 L xs))), .ref (u_4 1)])), (u_4 1, .inl (cB, (cl_n (c_0 L xs) * 64), .inl (fun _ => 0))), (u_4 2, .inr (2, [.int (nI (cl_n (c_0 L xs))), .ref (u_4 3)])), (u_4 3, .inl (cB, (cl_n (c_0 L xs) * 64), .inl (fun _ => 0))), (u_4 4, .inr (2, [.int (nI (cl_n (c_0 L xs))), .ref (u_4 5)])), (u_4 5, .inl (cB, (cl_n (c_0 L xs) * 64), .inl (fun _ => 0))), (u_4 6, .inr (2, [.int (nI (cl_n (c_0 L xs))), .ref (u_4 7)])), (u_4 7, .inl (cB, (cl_n (c_0 L xs) * 64), .inl (fun _ => 0))), (u_4 8, .inr (1, [.ref (u_4 9), .ref (u_4 10), .ref (u_4 11), .ref (u_4 12), .ref (u_4 13), .int 0, .int 0, .int 0])), (u_4 9, .inl (cI, ((cl_n (c_0 L xs) - 2) * 27), .inl (fun _ => 0))), (u_4 10, .inl (cI, ((cl_n (c_0 L xs) - 2) * 27), .inl (fun _ => 0))), (u_4 11, .inl (cI, ((cl_n (c_0 L xs) - 2) * 27), .inl (fun _ => 0))), (u_4 12, .inl (cI, ((cl_n (c_0 L xs) - 2) * 27), .inl (fun _ => 0))), (u_4 13, .inl (cB, ((cl_n (c_0 L xs) - 2) * 55), .inl (fun _ => 0))), (u_4 14, .inl (cB, 40, .inl (fun _ => 0))), (q_13, .inr (4, [.int 0, .int 0, .null, .null, .null, .null, .int 0, .int 0, .int 0, .int 0, .int 0, .int 0, .int 0, .int 0, .null, .int 0, .int 0, .null, .null, .null, .null]))] := hD
  refine mq_callv (wr := [(q_0, .inr (3, [.ref (u_4 0), .ref (u_4 2), .ref (u_4 4), .ref (u_4 6), .int 0, .ref (u_4 8), .ref (u_4 14), .int 0, .int 0, .int 0, .int 1, .int 0, .int 0, .int 0, .int 0, .int 0])), (u_4 0, .inr (2, [.int (nI (cl_n (c_0 L xs))), .ref (u_4 1)])), (u_4 1, .inl (cB, (cl_n (c_0 L xs) * 64), .inl (fun _ => 0))), (u_4 2, .inr (2, [.int (nI (cl_n (c_0 L xs))), .ref (u_4 3)])), (u_4 3, .inl (cB, (cl_n (c_0 L xs) * 64), .inl (fun _ => 0))), (u_4 4, .inr (2, [.int (nI (cl_n (c_0 L xs))), .ref (u_4 5)])), (u_4 5, .inl (cB, (cl_n (c_0 L xs) * 64), .inl (fun _ => 0))), (u_4 6, .inr (2, [.int (nI (cl_n (c_0 L xs))), .ref (u_4 7)])), (u_4 7, .inl (cB, (cl_n (c_0 L xs) * 64), .inl (fun _ => 0))), (u_4 8, .inr (1, [.ref (u_4 9), .ref (u_4 10), .ref (u_4 11), .ref (u_4 12), .ref (u_4 13), .int 0, .int 0, .int 0])), (u_4 9, .inl (cI, ((cl_n (c_0 L xs) - 2) * 27), .inl (fun _ => 0))), (u_4 10, .inl (cI, ((cl_n (c_0 L xs) - 2) * 27), .inl (fun _ => 0))), (u_4 11, .inl (cI, ((cl_n (c_0 L xs) - 2) * 27), .inl (fun _ => 0))), (u_4 12, .inl (cI, ((cl_n (c_0 L xs) - 2) * 27), .inl (fun _ => 0))), (u_4 13, .inl (cB, ((cl_n (c_0 L xs) - 2) * 55), .inl (fun _ => 0))), (u_4 14, .inl (cB, 40, .inl (fun _ => 0)))]) (fun (uu_6 : (Nat → Nat)) => [(q_0, .inr (3, [.ref (u_4 0), .ref (u_4 2), .ref (u_4 4), .ref (u_4 6), .int 0, .ref (u_4 8), .ref (u_4 14), .int 0, .int 0, .int 0, .int 1, .int 0, .int 0, .int 0, .int 0, .int 0])), (u_4 0, .inr (2, [.int (nI (cl_n (c_0 L xs))), .ref (u_4 1)])), (u_4 1, .inl (cB, (cl_n (c_0 L xs) * 64), .inl (fun _ => 0))), (u_4 2, .inr (2, [.int (nI (cl_n (c_0 L xs))), .ref (u_4 3)])), (u_4 3, .inl (cB, (cl_n (c_0 L xs) * 64), .inl (fun _ => 0))), (u_4 4, .inr (2, [.int (nI (cl_n (c_0 L xs))), .ref (u_4 5)])), (u_4 5, .inl (cB, (cl_n (c_0 L xs) * 64), .inl (fun _ => 0))), (u_4 6, .inr (2, [.int (nI (cl_n (c_0 L xs))), .ref (u_4 7)])), (u_4 7, .inl (cB, (cl_n (c_0 L xs) * 64), .inl (fun _ => 0))), (u_4 8, .inr (1, [.ref (u_4 9), .ref (u_4 10), .ref (u_4 11), .ref (u_4 12), .ref (u_4 13), .int 0, .int 0, .int 0])), (u_4 9, .inl (cI, ((cl_n (c_0 L xs) - 2) * 27), .inl (fun _ => 0))), (u_4 10, .inl (cI, ((cl_n (c_0 L xs) - 2) * 27), .inl (fun _ => 0))), (u_4 11, .inl (cI, ((cl_n (c_0 L xs) - 2) * 27), .inl (fun _ => 0))), (u_4 12, .inl (cI, ((cl_n (c_0 L xs) - 2) * 27), .inl (fun _ => 0))), (u_4 13, .inl (cB, ((cl_n (c_0 L xs) - 2) * 55), .inl (fun _ => 0))), (u_4 14, .inl (cB, 40, .inl (fun _ => 0))), (q_13, .inr (4, [.int 0, .int (nI (cl_n (c_0 L xs))), .ref (uu_6 0), .ref (uu_6 1), .ref (uu_6 2), .ref (uu_6 3), .int 0, .int 0, .int 0, .int 0, .int 0, .int 0, .int 0, .int 0, .ref (uu_6 4), .int 0, .int 0, .ref (uu_6 5), .ref (uu_6 6), .ref (uu_6 7), .ref (uu_6 8)])), (uu_6 0, .inl (cB, 2560, .inl (fun _ => 0))), (uu_6 1, .inl (cB, 2560, .inl (fun _ => 0))), (uu_6 2, .inl (cB, 2560, .inl (fun _ => 0))), (uu_6 3, .inl (cB, 2560, .inl (fun _ => 0))), (uu_6 4, .inl (cB, 40, .inl (fun _ => 0))), (uu_6 5, .inl (cI, 1100, .inl (fun _ => 0))), (uu_6 6, .inl (cI, 1100, .inl (fun _ => 0))), (uu_6 7, .inl (cI, 1100, .inl (fun _ => 0))), (uu_6 8, .inl (cB, 44000, .inl (fun _ => 0)))]) (va_runI (As := [.int (c_0 L xs)]) (rest := [.ref q_13]) ⟨hx, hb, hml, hown, hts⟩ (ct_X3_init l dC dI cB cI q_13 (c_0 L xs) H.size) (cwI 1 hts gL_law_X3_init rfl rfl rfl (hts (.initialized RX3) (by decide +kernel)) (hts (.methodLink RL 26 yX3_init) (by decide +kernel)) (hts (.instanceMethod yX3_init) (by decide +kernel)) rfl (by decide +kernel) ⟨Nat.le_of_ble_eq_true rfl, Nat.le_of_ble_eq_true rfl⟩) ⟨mq_blind, mq_pre hK hN hP hD [16] rfl (by decide)⟩ rfl rfl hl.1 rfl (lv_room (Nat.le_of_ble_eq_true rfl)) dL_law_22 ⟨Nat.le_of_ble_eq_true rfl, Nat.le_of_ble_eq_true rfl⟩) hP hD hS hA [16] [0, 1, 2, 3, 4, 5, 6, 7, 8, 9, 10, 11, 12, 13, 14, 15] [0, 1, 2, 3, 4, 5, 6, 7, 8, 9, 10, 11, 12, 13, 14, 15, 16, 17, 18, 19, 20, 21, 22, 23, 24, 25] rfl rfl (by decide) (by decide) (by decide) (fun _ => rfl) (fun u_8 H locs hw_22 hP hD hS => ?_)
  have hP : va_P (dC, dI) vwCl [(q_0, .inr (3, [.ref (u_4 0), .ref (u_4 2), .ref (u_4 4), .ref (u_4 6), .int 0, .ref (u_4 8), .ref (u_4 14), .int 0, .int 0, .int 0, .int 1, .int 0, .int 0, .int 0, .int 0, .int 0])), (u_4 0, .inr (2, [.int (nI (cl_n (c_0 L xs))), .ref (u_4 1)])), (u_4 1, .inl (cB, (cl_n (c_0 L xs) * 64), .inl (fun _ => 0))), (u_4 2, .inr (2, [.int (nI (cl_n (c_0 L xs))), .ref (u_4 3)])), (u_4 3, .inl (cB, (cl_n (c_0 L xs) * 64), .inl (fun _ => 0))), (u_4 4, .inr (2, [.int (nI (cl_n (c_0 L xs))), .ref (u_4 5)])), (u_4 5, .inl (cB, (cl_n (c_0 L xs) * 64), .inl (fun _ => 0))), (u_4 6, .inr (2, [.int (nI (cl_n (c_0 L xs))), .ref (u_4 7)])), (u_4 7, .inl (cB, (cl_n (c_0 L xs) * 64), .inl (fun _ => 0))), (u_4 8, .inr (1, [.ref (u_4 9), .ref (u_4 10), .ref (u_4 11), .ref (u_4 12), .ref (u_4 13), .int 0, .int 0, .int 0])), (u_4 9, .inl (cI, ((cl_n (c_0 L xs) - 2) * 27), .inl (fun _ => 0))), (u_4 10, .inl (cI, ((cl_n (c_0 L xs) - 2) * 27), .inl (fun _ => 0))), (u_4 11, .inl (cI, ((cl_n (c_0 L xs) - 2) * 27), .inl (fun _ => 0))), (u_4 12, .inl (cI, ((cl_n (c_0 L xs) - 2) * 27), .inl (fun _ => 0))), (u_4 13, .inl (cB, ((cl_n (c_0 L xs) - 2) * 55), .inl (fun _ => 0))), (u_4 14, .inl (cB, 40, .inl (fun _ => 0))), (q_13, .inr (4, [.int 0, .int (nI (cl_n (c_0 L xs))), .ref (u_8 0), .ref (u_8 1), .ref (u_8 2), .ref (u_8 3), .int 0, .int 0, .int 0, .int 0, .int 0, .int 0, .int 0, .int 0, .ref (u_8 4), .int 0, .int 0, .ref (u_8 5), .ref (u_8 6), .ref (u_8 7), .ref (u_8 8)])), (u_8 0, .inl (cB, 2560, .inl (fun _ => 0))), (u_8 1, .inl (cB, 2560, .inl (fun _ => 0))), (u_8 2, .inl (cB, 2560, .inl (fun _ => 0))), (u_8 3, .inl (cB, 2560, .inl (fun _ => 0))), (u_8 4, .inl (cB, 40, .inl (fun _ => 0))), (u_8 5, .inl (cI, 1100, .inl (fun _ => 0))), (u_8 6, .inl (cI, 1100, .inl (fun _ => 0))), (u_8 7, .inl (cI, 1100, .inl (fun _ => 0))), (u_8 8, .inl (cB, 44000, .inl (fun _ => 0)))] H := hP
  have hD : va_D A [(q_0, .inr (3, [.ref (u_4 0), .ref (u_4 2), .ref (u_4 4), .ref (u_4 6), .int 0, .ref (u_4 8), .ref (u_4 14), .int 0, .int 0, .int 0, .int 1, .int 0, .int 0, .int 0, .int 0, .int 0])), (u_4 0, .inr (2, [.int (nI (cl_n (c_0 L xs))), .ref (u_4 1)])), (u_4 1, .inl (cB, (cl_n (c_0 L xs) * 64), .inl (fun _ => 0))), (u_4 2, .inr (2, [.int (nI (cl_n (c_0 L xs))), .ref (u_4 3)])), (u_4 3, .inl (cB, (cl_n (c_0 L xs) * 64), .inl (fun _ => 0))), (u_4 4, .inr (2, [.int (nI (cl_n (c_0 L xs))), .ref (u_4 5)])), (u_4 5, .inl (cB, (cl_n (c_0 L xs) * 64), .inl (fun _ => 0))), (u_4 6, .inr (2, [.int (nI (cl_n (c_0 L xs))), .ref (u_4 7)])), (u_4 7, .inl (cB, (cl_n (c_0 L xs) * 64), .inl (fun _ => 0))), (u_4 8, .inr (1, [.ref (u_4 9), .ref (u_4 10), .ref (u_4 11), .ref (u_4 12), .ref (u_4 13), .int 0, .int 0, .int 0])), (u_4 9, .inl (cI, ((cl_n (c_0 L xs) - 2) * 27), .inl (fun _ => 0))), (u_4 10, .inl (cI, ((cl_n (c_0 L xs) - 2) * 27), .inl (fun _ => 0))), (u_4 11, .inl (cI, ((cl_n (c_0 L xs) - 2) * 27), .inl (fun _ => 0))), (u_4 12, .inl (cI, ((cl_n (c_0 L xs) - 2) * 27), .inl (fun _ => 0))), (u_4 13, .inl (cB, ((cl_n (c_0 L xs) - 2) * 55), .inl (fun _ => 0))), (u_4 14, .inl (cB, 40, .inl (fun _ => 0))), (q_13, .inr (4, [.int 0, .int (nI (cl_n (c_0 L xs))), .ref (u_8 0), .ref (u_8 1), .ref (u_8 2), .ref (u_8 3), .int 0, .int 0, .int 0, .int 0, .int 0, .int 0, .int 0, .int 0, .ref (u_8 4), .int 0, .int 0, .ref (u_8 5), .ref (u_8 6), .ref (u_8 7), .ref (u_8 8)])), (u_8 0, .inl (cB, 2560, .inl (fun _ => 0))), (u_8 1, .inl (cB, 2560, .inl (fun _ => 0))), (u_8 2, .inl (cB, 2560, .inl (fun _ => 0))), (u_8 3, .inl (cB, 2560, .inl (fun _ => 0))), (u_8 4, .inl (cB, 40, .inl (fun _ => 0))), (u_8 5, .inl (cI, 1100, .inl (fun _ => 0))), (u_8 6, .inl (cI, 1100, .inl (fun _ => 0))), (u_8 7, .inl (cI, 1100, .inl (fun _ => 0))), (u_8 8, .inl (cB, 44000, .inl (fun _ => 0)))] := hD
  refine W.widen (k := 26) (n := 74107) (by omega) (by omega) ?_
  refine lv_astore_n (lv' := [(2, .ref q_13), (1, .ref q_0), (0, .ref b)]) hx hb dL_law_25 rfl hl (by decide) rfl (fun ls hl => ?_)
  refine lv_iconst (v := 1) hx hb dL_law_26 (by decide) ?_
  refine va_newa (atype := .long) (ty := .long) (a0 := (1, .inr (.inl (fun _ => 0)))) (N' := 1) hx hb (hts (.arrayClass .long) (by decide +kernel)) rfl hK hP hD hS hA (fun _ => rfl) (by decide) (by decide) (by decide) (by show 26 + 1 ≤ 600002; omega) (by show 74107 + 1 ≤ 7302198; omega) dL_law_27 (fun q_27 cJ H hK hP hD hS => ?_)
  have hP : va_P (dC, dI) vwCl [(q_0, .inr (3, [.ref (u_4 0), .ref (u_4 2), .ref (u_4 4), .ref (u_4 6), .int 0, .ref (u_4 8), .ref (u_4 14), .int 0, .int 0, .int 0, .int 1, .int 0, .int 0, .int 0, .int 0, .int 0])), (u_4 0, .inr (2, [.int (nI (cl_n (c_0 L xs))), .ref (u_4 1)])), (u_4 1, .inl (cB, (cl_n (c_0 L xs) * 64), .inl (fun _ => 0))), (u_4 2, .inr (2, [.int (nI (cl_n (c_0 L xs))), .ref (u_4 3)])), (u_4 3, .inl (cB, (cl_n (c_0 L xs) * 64), .inl (fun _ => 0))), (u_4 4, .inr (2, [.int (nI (cl_n (c_0 L xs))), .ref (u_4 5)])), (u_4 5, .inl (cB, (cl_n (c_0 L xs) * 64), .inl (fun _ => 0))), (u_4 6, .inr (2, [.int (nI (cl_n (c_0 L xs))), .ref (u_4 7)])), (u_4 7, .inl (cB, (cl_n (c_0 L xs) * 64), .inl (fun _ => 0))), (u_4 8, .inr (1, [.ref (u_4 9), .ref (u_4 10), .ref (u_4 11), .ref (u_4 12), .ref (u_4 13), .int 0, .int 0, .int 0])), (u_4 9, .inl (cI, ((cl_n (c_0 L xs) - 2) * 27), .inl (fun _ => 0))), (u_4 10, .inl (cI, ((cl_n (c_0 L xs) - 2) * 27), .inl (fun _ => 0))), (u_4 11, .inl (cI, ((cl_n (c_0 L xs) - 2) * 27), .inl (fun _ => 0))), (u_4 12, .inl (cI, ((cl_n (c_0 L xs) - 2) * 27), .inl (fun _ => 0))), (u_4 13, .inl (cB, ((cl_n (c_0 L xs) - 2) * 55), .inl (fun _ => 0))), (u_4 14, .inl (cB, 40, .inl (fun _ => 0))), (q_13, .inr (4, [.int 0, .int (nI (cl_n (c_0 L xs))), .ref (u_8 0), .ref (u_8 1), .ref (u_8 2), .ref (u_8 3), .int 0, .int 0, .int 0, .int 0, .int 0, .int 0, .int 0, .int 0, .ref (u_8 4), .int 0, .int 0, .ref (u_8 5), .ref (u_8 6), .ref (u_8 7), .ref (u_8 8)])), (u_8 0, .inl (cB, 2560, .inl (fun _ => 0))), (u_8 1, .inl (cB, 2560, .inl (fun _ => 0))), (u_8 2, .inl (cB, 2560, .inl (fun _ => 0))), (u_8 3, .inl (cB, 2560, .inl (fun _ => 0))), (u_8 4, .inl (cB, 40, .inl (fun _ => 0))), (u_8 5, .inl (cI, 1100, .inl (fun _ => 0))), (u_8 6, .inl (cI, 1100, .inl (fun _ => 0))), (u_8 7, .inl (cI, 1100, .inl (fun _ => 0))), (u_8 8, .inl (cB, 44000, .inl (fun _ => 0))), (q_27, .inl (cJ, 1, .inr (.inl (fun _ => 0))))] H := hP
  have hD : va_D A [(q_0, .inr (3, [.ref (u_4 0), .ref (u_4 2), .ref (u_4 4), .ref (u_4 6), .int 0, .ref (u_4 8), .ref (u_4 14), .int 0, .int 0, .int 0, .int 1, .int 0, .int 0, .int 0, .int 0, .int 0])), (u_4 0, .inr (2, [.int (nI (cl_n (c_0 L xs))), .ref (u_4 1)])), (u_4 1, .inl (cB, (cl_n (c_0 L xs) * 64), .inl (fun _ => 0))), (u_4 2, .inr (2, [.int (nI (cl_n (c_0 L xs))), .ref (u_4 3)])), (u_4 3, .inl (cB, (cl_n (c_0 L xs) * 64), .inl (fun _ => 0))), (u_4 4, .inr (2, [.int (nI (cl_n (c_0 L xs))), .ref (u_4 5)])), (u_4 5, .inl (cB, (cl_n (c_0 L xs) * 64), .inl (fun _ => 0))), (u_4 6, .inr (2, [.int (nI (cl_n (c_0 L xs))), .ref (u_4 7)])), (u_4 7, .inl (cB, (cl_n (c_0 L xs) * 64), .inl (fun _ => 0))), (u_4 8, .inr (1, [.ref (u_4 9), .ref (u_4 10), .ref (u_4 11), .ref (u_4 12), .ref (u_4 13), .int 0, .int 0, .int 0])), (u_4 9, .inl (cI, ((cl_n (c_0 L xs) - 2) * 27), .inl (fun _ => 0))), (u_4 10, .inl (cI, ((cl_n (c_0 L xs) - 2) * 27), .inl (fun _ => 0))), (u_4 11, .inl (cI, ((cl_n (c_0 L xs) - 2) * 27), .inl (fun _ => 0))), (u_4 12, .inl (cI, ((cl_n (c_0 L xs) - 2) * 27), .inl (fun _ => 0))), (u_4 13, .inl (cB, ((cl_n (c_0 L xs) - 2) * 55), .inl (fun _ => 0))), (u_4 14, .inl (cB, 40, .inl (fun _ => 0))), (q_13, .inr (4, [.int 0, .int (nI (cl_n (c_0 L xs))), .ref (u_8 0), .ref (u_8 1), .ref (u_8 2), .ref (u_8 3), .int 0, .int 0, .int 0, .int 0, .int 0, .int 0, .int 0, .int 0, .ref (u_8 4), .int 0, .int 0, .ref (u_8 5), .ref (u_8 6), .ref (u_8 7), .ref (u_8 8)])), (u_8 0, .inl (cB, 2560, .inl (fun _ => 0))), (u_8 1, .inl (cB, 2560, .inl (fun _ => 0))), (u_8 2, .inl (cB, 2560, .inl (fun _ => 0))), (u_8 3, .inl (cB, 2560, .inl (fun _ => 0))), (u_8 4, .inl (cB, 40, .inl (fun _ => 0))), (u_8 5, .inl (cI, 1100, .inl (fun _ => 0))), (u_8 6, .inl (cI, 1100, .inl (fun _ => 0))), (u_8 7, .inl (cI, 1100, .inl (fun _ => 0))), (u_8 8, .inl (cB, 44000, .inl (fun _ => 0))), (q_27, .inl (cJ, 1, .inr (.inl (fun _ => 0))))] := hD
  have hK : va_K (dC, dI) vwCl [(cB, .byte), (cI, .int), (cJ, .long)] s := hK
  refine W.widen (k := 27) (n := 74108) (by omega) (by omega) ?_
  refine lv_astore_n (lv' := [(3, .ref q_27), (2, .ref q_13), (1, .ref q_0), (0, .ref b)]) hx hb dL_law_29 rfl hl (by decide) rfl (fun ls hl => ?_)
  refine lv_iconst (v := 1) hx hb dL_law_30 (by decide) ?_
  refine lv_istore (lv' := [(4, .int 1), (3, .ref q_27), (2, .ref q_13), (1, .ref q_0), (0, .ref b)]) hx hb dL_law_31 hl (by decide) rfl (fun ls hl => ?_)
  refine lv_iload hx hb dL_law_33 (lv_at hl 0 rfl) ?_
  refine lv_aload_n hx hb dL_law_35 rfl (lv_at hl 4 rfl) ?_
  refine va_slen hx hb hX hbl hbA hS dL_law_36 ?_
  refine lv_iconst (v := 4) hx hb dL_law_37 (by decide) ?_
  refine lv_isub hx hb dL_law_38 ?_
  refine lv_icmp_gt (tgt := 568) hx hb dL_law_39 (by decide) (fun c_39 => ?_) (fun c_39 => ?_)
  · skip
    refine lv_iconst (v := 1) hx hb dL_law_568 (by decide) ?_
    refine va_forget (fun q hq => hA2 _ (hS.2.2 q hq)) ?_
    refine W.widen (k := 600002) (n := 7302198) (by omega) (by omega) ?_
    exact lw_ret hx hb hr hlocks dL_law_569
  · skip
    have hL5 : L = 5 := l_5 hL c_39
    refine lv_aload_n hx hb dL_law_42 rfl (lv_at hl 4 rfl) ?_
    refine lv_iload hx hb dL_law_43 (lv_at hl 0 rfl) ?_
    refine lv_topi (fun x_9 ex_9 => ?_)
    obtain rfl : x_9 = nI 1 := by rw [ex_9]; decide
    refine va_sld hx hb hX hbl hbA hS (by rw [hL5]; exact vp_in_nI (n := 1) (by decide) (by decide)) dL_law_45 ?_
    refine lv_bipush (v := 31) hx hb dL_law_46 (by decide) ?_
    refine lv_iand hx hb dL_law_48 ?_
    refine lv_topi (fun x_10 ex_10 => ?_)
    by_cases hk_0 : x_10 = 0
    · refine lv_tableIn (off := 83) (tgt := 132) hx hb dL_law_49 (by rw [hk_0]; decide) (by rw [hk_0]; decide) (by rw [hk_0]; rfl) (by decide) ?_
      have hP := hP.sub (ws' := [(q_0, .inr (3, [.ref (u_4 0), .ref (u_4 2), .ref (u_4 4), .ref (u_4 6), .int 0, .ref (u_4 8), .ref (u_4 14), .int 0, .int 0, .int 0, .int 1, .int 0, .int 0, .int 0, .int 0, .int 0])), (u_4 14, .inl (cB, 40, .inl (fun _ => 0))), (q_13, .inr (4, [.int 0, .int (nI (cl_n (c_0 L xs))), .ref (u_8 0), .ref (u_8 1), .ref (u_8 2), .ref (u_8 3), .int 0, .int 0, .int 0, .int 0, .int 0, .int 0, .int 0, .int 0, .ref (u_8 4), .int 0, .int 0, .ref (u_8 5), .ref (u_8 6), .ref (u_8 7), .ref (u_8 8)])), (u_8 4, .inl (cB, 40, .inl (fun _ => 0)))]) [0, 15, 16, 21] rfl
      have hD := hD.sub (ws' := [(q_0, .inr (3, [.ref (u_4 0), .ref (u_4 2), .ref (u_4 4), .ref (u_4 6), .int 0, .ref (u_4 8), .ref (u_4 14), .int 0, .int 0, .int 0, .int 1, .int 0, .int 0, .int 0, .int 0, .int 0])), (u_4 14, .inl (cB, 40, .inl (fun _ => 0))), (q_13, .inr (4, [.int 0, .int (nI (cl_n (c_0 L xs))), .ref (u_8 0), .ref (u_8 1), .ref (u_8 2), .ref (u_8 3), .int 0, .int 0, .int 0, .int 0, .int 0, .int 0, .int 0, .int 0, .ref (u_8 4), .int 0, .int 0, .ref (u_8 5), .ref (u_8 6), .ref (u_8 7), .ref (u_8 8)])), (u_8 4, .inl (cB, 40, .inl (fun _ => 0)))]) [0, 15, 16, 21] (by decide) rfl
      refine lv_aload_n hx hb dL_law_132 rfl (lv_at hl 3 rfl) ?_
      refine lv_aload_n hx hb dL_law_133 rfl (lv_at hl 4 rfl) ?_
      refine lv_iload hx hb dL_law_134 (lv_at hl 0 rfl) ?_
      refine lv_iconst (v := 1) hx hb dL_law_136 (by decide) ?_
      refine lv_iadd hx hb dL_law_137 ?_
      refine lv_topi (fun x_11 ex_11 => ?_)
      obtain rfl : x_11 = nI 2 := by rw [ex_11]; decide
      refine va_sld hx hb hX hbl hbA hS (by rw [hL5]; exact vp_in_nI (n := 2) (by decide) (by decide)) dL_law_138 ?_
      refine mq_callv (wr := [(q_13, .inr (4, [.int 0, .int (nI (cl_n (c_0 L xs))), .ref (u_8 0), .ref (u_8 1), .ref (u_8 2), .ref (u_8 3), .int 0, .int 0, .int 0, .int 0, .int 0, .int 0, .int 0, .int 0, .ref (u_8 4), .int 0, .int 0, .ref (u_8 5), .ref (u_8 6), .ref (u_8 7), .ref (u_8 8)])), (u_8 4, .inl (cB, 40, .inl (fun _ => 0)))]) (fun (_u : Unit) => [(q_13, .inr (4, [.int 0, .int (nI (cl_n (c_0 L xs))), .ref (u_8 0), .ref (u_8 1), .ref (u_8 2), .ref (u_8 3), .int 0, .int 0, .int 0, .int 0, .int 0, .int 0, .int 0, .int 0, .ref (u_8 4), .int 0, .int 0, .ref (u_8 5), .ref (u_8 6), .ref (u_8 7), .ref (u_8 8)])), (u_8 4, .inl (cB, 40, .inl (fun _ => 0)))]) (va_runV (As := [.int (xs (nI 2).toNatClampNeg)]) (rest := []) ⟨hx, hb, hml, hown, hts⟩ (ct_X2_add l dC dI cB cI q_0 (u_4 0) (u_4 2) (u_4 4) (u_4 6) (u_4 8) (u_4 14) (fun _ => 0) (xs (nI 2).toNatClampNeg) H.size) (cwV 1 hts gL_law_X2_add rfl rfl rfl (by decide +kernel) ⟨Nat.le_of_ble_eq_true rfl, Nat.le_of_ble_eq_true rfl⟩) ⟨mq_blind, va_recv hK hP (ci := 3) (q0 := 0) rfl rfl, mq_pre (hK.sub [0, 1] rfl) hN hP hD [0, 1] rfl (by decide)⟩ rfl rfl hl.1 rfl (lv_room (Nat.le_of_ble_eq_true rfl)) dL_law_139 ⟨Nat.le_of_ble_eq_true rfl, Nat.le_of_ble_eq_true rfl⟩) hP hD hS hA [0, 1] [2, 3] [0, 1] rfl rfl (by decide) (by decide) (by decide) (fun _ => rfl) (fun _ H locs hw_139 hP hD hS => ?_)
      have hP : va_P (dC, dI) vwCl [(q_13, .inr (4, [.int 0, .int (nI (cl_n (c_0 L xs))), .ref (u_8 0), .ref (u_8 1), .ref (u_8 2), .ref (u_8 3), .int 0, .int 0, .int 0, .int 0, .int 0, .int 0, .int 0, .int 0, .ref (u_8 4), .int 0, .int 0, .ref (u_8 5), .ref (u_8 6), .ref (u_8 7), .ref (u_8 8)])), (u_8 4, .inl (cB, 40, .inl (fun _ => 0)))] H := hP
      have hD : va_D A [(q_13, .inr (4, [.int 0, .int (nI (cl_n (c_0 L xs))), .ref (u_8 0), .ref (u_8 1), .ref (u_8 2), .ref (u_8 3), .int 0, .int 0, .int 0, .int 0, .int 0, .int 0, .int 0, .int 0, .ref (u_8 4), .int 0, .int 0, .ref (u_8 5), .ref (u_8 6), .ref (u_8 7), .ref (u_8 8)])), (u_8 4, .inl (cB, 40, .inl (fun _ => 0)))] := hD
      refine lv_aload_n hx hb dL_law_142 rfl (lv_at hl 2 rfl) ?_
      refine lv_aload_n hx hb dL_law_143 rfl (lv_at hl 4 rfl) ?_
      refine lv_iload hx hb dL_law_144 (lv_at hl 0 rfl) ?_
      refine lv_iconst (v := 1) hx hb dL_law_146 (by decide) ?_
      refine lv_iadd hx hb dL_law_147 ?_
      refine lv_topi (fun x_13 ex_13 => ?_)
      obtain rfl : x_13 = nI 2 := by rw [ex_13]; decide
      refine va_sld hx hb hX hbl hbA hS (by rw [hL5]; exact vp_in_nI (n := 2) (by decide) (by decide)) dL_law_148 ?_
      refine mq_callv (wr := []) (fun (_u : Unit) => []) (va_runV (As := [.int (xs (nI 2).toNatClampNeg)]) (rest := []) ⟨hx, hb, hml, hown, hts⟩ (ct_X3_add l dC dI cB cI q_13 (u_8 0) (u_8 1) (u_8 2) (u_8 3) (u_8 4) (u_8 5) (u_8 6) (u_8 7) (u_8 8) (cl_n (c_0 L xs)) hc (fun _ => 0) (xs (nI 2).toNatClampNeg) H.size) (cwV 1 hts gL_law_X3_add rfl rfl rfl (by decide +kernel) ⟨Nat.le_of_ble_eq_true rfl, Nat.le_of_ble_eq_true rfl⟩) ⟨mq_blind, va_recv hK hP (ci := 4) (q0 := 0) rfl rfl, mq_pre (hK.sub [0, 1] rfl) hN hP hD [0, 1] rfl (by decide)⟩ rfl rfl hl.1 rfl (lv_room (Nat.le_of_ble_eq_true rfl)) dL_law_149 ⟨Nat.le_of_ble_eq_true rfl, Nat.le_of_ble_eq_true rfl⟩) hP hD hS hA [0, 1] [] [] rfl rfl (by decide) (by decide) (by decide) (fun _ => rfl) (fun _ H locs hw_149 hP hD hS => ?_)
      have hP : va_P (dC, dI) vwCl [] H := hP
      have hD : va_D A [] := hD
      refine lv_goto (tgt := 562) hx hb dL_law_152 (by decide) ?_
      obtain ⟨x_15, ex_15⟩ : ∃ y : Int32, y = 1 + 4 := ⟨_, rfl⟩
      refine lv_iinc (v := x_15) (lv' := [(4, .int x_15), (3, .ref q_27), (2, .ref q_13), (1, .ref q_0), (0, .ref b)]) hx hb dL_law_562 hl (k := 0) rfl (by rw [ex_15]; rfl) (by decide) rfl (fun ls hl => ?_)
      obtain rfl : x_15 = 5 := by rw [ex_15]; decide
      refine lv_goto (tgt := 33) hx hb dL_law_565 (by decide) ?_
      refine lv_iload hx hb dL_law_33 (lv_at hl 0 rfl) ?_
      refine lv_aload_n hx hb dL_law_35 rfl (lv_at hl 4 rfl) ?_
      refine va_slen hx hb hX hbl hbA hS dL_law_36 ?_
      refine lv_iconst (v := 4) hx hb dL_law_37 (by decide) ?_
      refine lv_isub hx hb dL_law_38 ?_
      refine lv_icmp_gt (tgt := 568) hx hb dL_law_39 (by decide) (fun c_39 => ?_) (fun c_39 => ?_)
      · skip
        refine lv_iconst (v := 1) hx hb dL_law_568 (by decide) ?_
        refine va_forget (fun q hq => hA2 _ (hS.2.2 q hq)) ?_
        refine W.widen (k := 600002) (n := 7302198) (by omega) (by omega) ?_
        exact lw_ret hx hb hr hlocks dL_law_569
      · exact absurd (by show nI L - 4 < 5; rw [hL5]; decide) c_39
    by_cases hk_1 : x_10 = 1
    · refine lv_tableIn (off := 106) (tgt := 155) hx hb dL_law_49 (by rw [hk_1]; decide) (by rw [hk_1]; decide) (by rw [hk_1]; rfl) (by decide) ?_
      have hP := hP.sub (ws' := [(q_0, .inr (3, [.ref (u_4 0), .ref (u_4 2), .ref (u_4 4), .ref (u_4 6), .int 0, .ref (u_4 8), .ref (u_4 14), .int 0, .int 0, .int 0, .int 1, .int 0, .int 0, .int 0, .int 0, .int 0])), (u_4 0, .inr (2, [.int (nI (cl_n (c_0 L xs))), .ref (u_4 1)])), (u_4 8, .inr (1, [.ref (u_4 9), .ref (u_4 10), .ref (u_4 11), .ref (u_4 12), .ref (u_4 13), .int 0, .int 0, .int 0])), (u_4 9, .inl (cI, ((cl_n (c_0 L xs) - 2) * 27), .inl (fun _ => 0))), (u_4 10, .inl (cI, ((cl_n (c_0 L xs) - 2) * 27), .inl (fun _ => 0))), (u_4 11, .inl (cI, ((cl_n (c_0 L xs) - 2) * 27), .inl (fun _ => 0))), (u_4 12, .inl (cI, ((cl_n (c_0 L xs) - 2) * 27), .inl (fun _ => 0))), (q_13, .inr (4, [.int 0, .int (nI (cl_n (c_0 L xs))), .ref (u_8 0), .ref (u_8 1), .ref (u_8 2), .ref (u_8 3), .int 0, .int 0, .int 0, .int 0, .int 0, .int 0, .int 0, .int 0, .ref (u_8 4), .int 0, .int 0, .ref (u_8 5), .ref (u_8 6), .ref (u_8 7), .ref (u_8 8)])), (u_8 5, .inl (cI, 1100, .inl (fun _ => 0))), (u_8 6, .inl (cI, 1100, .inl (fun _ => 0))), (u_8 7, .inl (cI, 1100, .inl (fun _ => 0)))]) [0, 1, 9, 10, 11, 12, 13, 16, 22, 23, 24] rfl
      have hD := hD.sub (ws' := [(q_0, .inr (3, [.ref (u_4 0), .ref (u_4 2), .ref (u_4 4), .ref (u_4 6), .int 0, .ref (u_4 8), .ref (u_4 14), .int 0, .int 0, .int 0, .int 1, .int 0, .int 0, .int 0, .int 0, .int 0])), (u_4 0, .inr (2, [.int (nI (cl_n (c_0 L xs))), .ref (u_4 1)])), (u_4 8, .inr (1, [.ref (u_4 9), .ref (u_4 10), .ref (u_4 11), .ref (u_4 12), .ref (u_4 13), .int 0, .int 0, .int 0])), (u_4 9, .inl (cI, ((cl_n (c_0 L xs) - 2) * 27), .inl (fun _ => 0))), (u_4 10, .inl (cI, ((cl_n (c_0 L xs) - 2) * 27), .inl (fun _ => 0))), (u_4 11, .inl (cI, ((cl_n (c_0 L xs) - 2) * 27), .inl (fun _ => 0))), (u_4 12, .inl (cI, ((cl_n (c_0 L xs) - 2) * 27), .inl (fun _ => 0))), (q_13, .inr (4, [.int 0, .int (nI (cl_n (c_0 L xs))), .ref (u_8 0), .ref (u_8 1), .ref (u_8 2), .ref (u_8 3), .int 0, .int 0, .int 0, .int 0, .int 0, .int 0, .int 0, .int 0, .ref (u_8 4), .int 0, .int 0, .ref (u_8 5), .ref (u_8 6), .ref (u_8 7), .ref (u_8 8)])), (u_8 5, .inl (cI, 1100, .inl (fun _ => 0))), (u_8 6, .inl (cI, 1100, .inl (fun _ => 0))), (u_8 7, .inl (cI, 1100, .inl (fun _ => 0)))]) [0, 1, 9, 10, 11, 12, 13, 16, 22, 23, 24] (by decide) rfl
      refine lv_aload_n hx hb dL_law_155 rfl (lv_at hl 3 rfl) ?_
      refine lv_aload_n hx hb dL_law_156 rfl (lv_at hl 4 rfl) ?_
      refine lv_iload hx hb dL_law_157 (lv_at hl 0 rfl) ?_
      refine lv_iconst (v := 1) hx hb dL_law_159 (by decide) ?_
      refine lv_iadd hx hb dL_law_160 ?_
      refine lv_topi (fun x_16 ex_16 => ?_)
      obtain rfl : x_16 = nI 2 := by rw [ex_16]; decide
      refine va_sld hx hb hX hbl hbA hS (by rw [hL5]; exact vp_in_nI (n := 2) (by decide) (by decide)) dL_law_161 ?_
      refine mq_calli (wr := [(q_13, .inr (4, [.int 0, .int (nI (cl_n (c_0 L xs))), .ref (u_8 0), .ref (u_8 1), .ref (u_8 2), .ref (u_8 3), .int 0, .int 0, .int 0, .int 0, .int 0, .int 0, .int 0, .int 0, .ref (u_8 4), .int 0, .int 0, .ref (u_8 5), .ref (u_8 6), .ref (u_8 7), .ref (u_8 8)])), (u_8 5, .inl (cI, 1100, .inl (fun _ => 0))), (u_8 6, .inl (cI, 1100, .inl (fun _ => 0))), (u_8 7, .inl (cI, 1100, .inl (fun _ => 0)))]) (fun (_u : Unit) => [(q_13, .inr (4, [.int 0, .int (nI (cl_n (c_0 L xs))), .ref (u_8 0), .ref (u_8 1), .ref (u_8 2), .ref (u_8 3), .int 0, .int 0, .int 0, .int 0, .int 0, .int 0, .int 0, .int 0, .ref (u_8 4), .int 0, .int 0, .ref (u_8 5), .ref (u_8 6), .ref (u_8 7), .ref (u_8 8)])), (u_8 5, .inl (cI, 1100, .inl (fun _ => 0))), (u_8 6, .inl (cI, 1100, .inl (fun _ => 0))), (u_8 7, .inl (cI, 1100, .inl (fun _ => 0)))]) (va_runV (As := [.int (xs (nI 2).toNatClampNeg)]) (rest := []) ⟨hx, hb, hml, hown, hts⟩ (ct_X2_end l dC dI cB cI q_0 (u_4 0) (u_4 2) (u_4 4) (u_4 6) (u_4 8) (u_4 14) (u_4 9) (u_4 10) (u_4 11) (u_4 12) (u_4 13) ((cl_n (c_0 L xs) - 2) * 27) (⟨by omega, by omega⟩) (fun _ => 0) (fun _ => 0) (fun _ => 0) (fun _ => 0) (u_4 1) (cl_n (c_0 L xs)) hc (xs (nI 2).toNatClampNeg) H.size) (cwV 1 hts gL_law_X2_end rfl rfl rfl (by decide +kernel) ⟨Nat.le_of_ble_eq_true rfl, Nat.le_of_ble_eq_true rfl⟩) ⟨mq_blind, va_recv hK hP (ci := 3) (q0 := 0) rfl rfl, mq_pre (hK.sub [0, 1] rfl) hN hP hD [0, 1, 2, 3, 4, 5, 6] rfl (by decide)⟩ rfl rfl hl.1 rfl (lv_room (Nat.le_of_ble_eq_true rfl)) dL_law_162 ⟨Nat.le_of_ble_eq_true rfl, Nat.le_of_ble_eq_true rfl⟩) hP hD hS hA [0, 1, 2, 3, 4, 5, 6] [7, 8, 9, 10] [0, 1, 2, 3] rfl rfl (by decide) (by decide) (by decide) (fun _ => rfl) (fun r_17 _ H locs hw_162 hP hD hS => ?_)
      have hP : va_P (dC, dI) vwCl [(q_13, .inr (4, [.int 0, .int (nI (cl_n (c_0 L xs))), .ref (u_8 0), .ref (u_8 1), .ref (u_8 2), .ref (u_8 3), .int 0, .int 0, .int 0, .int 0, .int 0, .int 0, .int 0, .int 0, .ref (u_8 4), .int 0, .int 0, .ref (u_8 5), .ref (u_8 6), .ref (u_8 7), .ref (u_8 8)])), (u_8 5, .inl (cI, 1100, .inl (fun _ => 0))), (u_8 6, .inl (cI, 1100, .inl (fun _ => 0))), (u_8 7, .inl (cI, 1100, .inl (fun _ => 0)))] H := hP
      have hD : va_D A [(q_13, .inr (4, [.int 0, .int (nI (cl_n (c_0 L xs))), .ref (u_8 0), .ref (u_8 1), .ref (u_8 2), .ref (u_8 3), .int 0, .int 0, .int 0, .int 0, .int 0, .int 0, .int 0, .int 0, .ref (u_8 4), .int 0, .int 0, .ref (u_8 5), .ref (u_8 6), .ref (u_8 7), .ref (u_8 8)])), (u_8 5, .inl (cI, 1100, .inl (fun _ => 0))), (u_8 6, .inl (cI, 1100, .inl (fun _ => 0))), (u_8 7, .inl (cI, 1100, .inl (fun _ => 0)))] := hD
      refine lv_aload_n hx hb dL_law_165 rfl (lv_at hl 2 rfl) ?_
      refine lv_aload_n hx hb dL_law_166 rfl (lv_at hl 4 rfl) ?_
      refine lv_iload hx hb dL_law_167 (lv_at hl 0 rfl) ?_
      refine lv_iconst (v := 1) hx hb dL_law_169 (by decide) ?_
      refine lv_iadd hx hb dL_law_170 ?_
      refine lv_topi (fun x_18 ex_18 => ?_)
      obtain rfl : x_18 = nI 2 := by rw [ex_18]; decide
      refine va_sld hx hb hX hbl hbA hS (by rw [hL5]; exact vp_in_nI (n := 2) (by decide) (by decide)) dL_law_171 ?_
      refine mq_calli (wr := []) (fun (_u : Unit) => []) (va_runV (As := [.int (xs (nI 2).toNatClampNeg)]) (rest := [.int r_17]) ⟨hx, hb, hml, hown, hts⟩ (ct_X3_end l dC dI cB cI q_13 (u_8 0) (u_8 1) (u_8 2) (u_8 3) (u_8 4) (u_8 5) (u_8 6) (u_8 7) (u_8 8) (cl_n (c_0 L xs)) hc (fun _ => 0) (fun _ => 0) (fun _ => 0) (xs (nI 2).toNatClampNeg) H.size) (cwV 1 hts gL_law_X3_end rfl rfl rfl (by decide +kernel) ⟨Nat.le_of_ble_eq_true rfl, Nat.le_of_ble_eq_true rfl⟩) ⟨mq_blind, va_recv hK hP (ci := 4) (q0 := 0) rfl rfl, mq_pre (hK.sub [0, 1] rfl) hN hP hD [0, 1, 2, 3] rfl (by decide)⟩ rfl rfl hl.1 rfl (lv_room (Nat.le_of_ble_eq_true rfl)) dL_law_172 ⟨Nat.le_of_ble_eq_true rfl, Nat.le_of_ble_eq_true rfl⟩) hP hD hS hA [0, 1, 2, 3] [] [] rfl rfl (by decide) (by decide) (by decide) (fun _ => rfl) (fun r_19 _ H locs hw_172 hP hD hS => ?_)
      have hP : va_P (dC, dI) vwCl [] H := hP
      have hD : va_D A [] := hD
      refine lv_icmp_eq (tgt := 562) hx hb dL_law_175 (by decide) (fun c_175 => ?_) (fun c_175 => ?_)
      · skip
        obtain ⟨x_20, ex_20⟩ : ∃ y : Int32, y = 1 + 4 := ⟨_, rfl⟩
        refine lv_iinc (v := x_20) (lv' := [(4, .int x_20), (3, .ref q_27), (2, .ref q_13), (1, .ref q_0), (0, .ref b)]) hx hb dL_law_562 hl (k := 0) rfl (by rw [ex_20]; rfl) (by decide) rfl (fun ls hl => ?_)
        obtain rfl : x_20 = 5 := by rw [ex_20]; decide
        refine lv_goto (tgt := 33) hx hb dL_law_565 (by decide) ?_
        refine lv_iload hx hb dL_law_33 (lv_at hl 0 rfl) ?_
        refine lv_aload_n hx hb dL_law_35 rfl (lv_at hl 4 rfl) ?_
        refine va_slen hx hb hX hbl hbA hS dL_law_36 ?_
        refine lv_iconst (v := 4) hx hb dL_law_37 (by decide) ?_
        refine lv_isub hx hb dL_law_38 ?_
        refine lv_icmp_gt (tgt := 568) hx hb dL_law_39 (by decide) (fun c_39 => ?_) (fun c_39 => ?_)
        · skip
          refine lv_iconst (v := 1) hx hb dL_law_568 (by decide) ?_
          refine va_forget (fun q hq => hA2 _ (hS.2.2 q hq)) ?_
          refine W.widen (k := 600002) (n := 7302198) (by omega) (by omega) ?_
          exact lw_ret hx hb hr hlocks dL_law_569
        · exact absurd (by show nI L - 4 < 5; rw [hL5]; decide) c_39
      · exact absurd (hw_162.trans hw_172.symm) c_175
    by_cases hk_2 : x_10 = 2
    · refine lv_tableIn (off := 131) (tgt := 180) hx hb dL_law_49 (by rw [hk_2]; decide) (by rw [hk_2]; decide) (by rw [hk_2]; rfl) (by decide) ?_
      have hP := hP.sub (ws' := [(q_0, .inr (3, [.ref (u_4 0), .ref (u_4 2), .ref (u_4 4), .ref (u_4 6), .int 0, .ref (u_4 8), .ref (u_4 14), .int 0, .int 0, .int 0, .int 1, .int 0, .int 0, .int 0, .int 0, .int 0])), (u_4 0, .inr (2, [.int (nI (cl_n (c_0 L xs))), .ref (u_4 1)])), (u_4 1, .inl (cB, (cl_n (c_0 L xs) * 64), .inl (fun _ => 0))), (u_4 2, .inr (2, [.int (nI (cl_n (c_0 L xs))), .ref (u_4 3)])), (u_4 3, .inl (cB, (cl_n (c_0 L xs) * 64), .inl (fun _ => 0))), (u_4 4, .inr (2, [.int (nI (cl_n (c_0 L xs))), .ref (u_4 5)])), (u_4 5, .inl (cB, (cl_n (c_0 L xs) * 64), .inl (fun _ => 0))), (u_4 8, .inr (1, [.ref (u_4 9), .ref (u_4 10), .ref (u_4 11), .ref (u_4 12), .ref (u_4 13), .int 0, .int 0, .int 0])), (q_13, .inr (4, [.int 0, .int (nI (cl_n (c_0 L xs))), .ref (u_8 0), .ref (u_8 1), .ref (u_8 2), .ref (u_8 3), .int 0, .int 0, .int 0, .int 0, .int 0, .int 0, .int 0, .int 0, .ref (u_8 4), .int 0, .int 0, .ref (u_8 5), .ref (u_8 6), .ref (u_8 7), .ref (u_8 8)])), (u_8 0, .inl (cB, 2560, .inl (fun _ => 0))), (u_8 1, .inl (cB, 2560, .inl (fun _ => 0))), (u_8 2, .inl (cB, 2560, .inl (fun _ => 0)))]) [0, 1, 2, 3, 4, 5, 6, 9, 16, 17, 18, 19] rfl
      have hD := hD.sub (ws' := [(q_0, .inr (3, [.ref (u_4 0), .ref (u_4 2), .ref (u_4 4), .ref (u_4 6), .int 0, .ref (u_4 8), .ref (u_4 14), .int 0, .int 0, .int 0, .int 1, .int 0, .int 0, .int 0, .int 0, .int 0])), (u_4 0, .inr (2, [.int (nI (cl_n (c_0 L xs))), .ref (u_4 1)])), (u_4 1, .inl (cB, (cl_n (c_0 L xs) * 64), .inl (fun _ => 0))), (u_4 2, .inr (2, [.int (nI (cl_n (c_0 L xs))), .ref (u_4 3)])), (u_4 3, .inl (cB, (cl_n (c_0 L xs) * 64), .inl (fun _ => 0))), (u_4 4, .inr (2, [.int (nI (cl_n (c_0 L xs))), .ref (u_4 5)])), (u_4 5, .inl (cB, (cl_n (c_0 L xs) * 64), .inl (fun _ => 0))), (u_4 8, .inr (1, [.ref (u_4 9), .ref (u_4 10), .ref (u_4 11), .ref (u_4 12), .ref (u_4 13), .int 0, .int 0, .int 0])), (q_13, .inr (4, [.int 0, .int (nI (cl_n (c_0 L xs))), .ref (u_8 0), .ref (u_8 1), .ref (u_8 2), .ref (u_8 3), .int 0, .int 0, .int 0, .int 0, .int 0, .int 0, .int 0, .int 0, .ref (u_8 4), .int 0, .int 0, .ref (u_8 5), .ref (u_8 6), .ref (u_8 7), .ref (u_8 8)])), (u_8 0, .inl (cB, 2560, .inl (fun _ => 0))), (u_8 1, .inl (cB, 2560, .inl (fun _ => 0))), (u_8 2, .inl (cB, 2560, .inl (fun _ => 0)))]) [0, 1, 2, 3, 4, 5, 6, 9, 16, 17, 18, 19] (by decide) rfl
      refine lv_aload_n hx hb dL_law_180 rfl (lv_at hl 3 rfl) ?_
      refine mq_calli (wr := [(q_13, .inr (4, [.int 0, .int (nI (cl_n (c_0 L xs))), .ref (u_8 0), .ref (u_8 1), .ref (u_8 2), .ref (u_8 3), .int 0, .int 0, .int 0, .int 0, .int 0, .int 0, .int 0, .int 0, .ref (u_8 4), .int 0, .int 0, .ref (u_8 5), .ref (u_8 6), .ref (u_8 7), .ref (u_8 8)])), (u_8 0, .inl (cB, 2560, .inl (fun _ => 0))), (u_8 1, .inl (cB, 2560, .inl (fun _ => 0))), (u_8 2, .inl (cB, 2560, .inl (fun _ => 0)))]) (fun (_u : Unit) => [(q_13, .inr (4, [.int 0, .int (nI (cl_n (c_0 L xs))), .ref (u_8 0), .ref (u_8 1), .ref (u_8 2), .ref (u_8 3), .int 0, .int 0, .int 0, .int 0, .int 0, .int 0, .int 0, .int 0, .ref (u_8 4), .int 0, .int 0, .ref (u_8 5), .ref (u_8 6), .ref (u_8 7), .ref (u_8 8)])), (u_8 0, .inl (cB, 2560, .inl (fun _ => 0))), (u_8 1, .inl (cB, 2560, .inl (fun _ => 0))), (u_8 2, .inl (cB, 2560, .inl (fun _ => 0)))]) (va_runV (As := []) (rest := []) ⟨hx, hb, hml, hown, hts⟩ (ct_X2_sync l dC dI cB cI q_0 (u_4 0) (u_4 2) (u_4 4) (u_4 6) (u_4 8) (u_4 14) (u_4 9) (u_4 10) (u_4 11) (u_4 12) (u_4 13) (u_4 1) (u_4 3) (u_4 5) (cl_n (c_0 L xs)) hc (fun _ => 0) (fun _ => 0) (fun _ => 0) sb_fit0 sb_fit0 sb_fit0 H.size) (cwV 0 hts gL_law_X2_sync rfl rfl rfl (by decide +kernel) ⟨Nat.le_of_ble_eq_true rfl, Nat.le_of_ble_eq_true rfl⟩) ⟨mq_blind, va_recv hK hP (ci := 3) (q0 := 0) rfl rfl, mq_pre (hK.sub [0, 1] rfl) hN hP hD [0, 7, 1, 2, 3, 4, 5, 6] rfl (by decide)⟩ rfl rfl hl.1 rfl (lv_room (Nat.le_of_ble_eq_true rfl)) dL_law_181 ⟨Nat.le_of_ble_eq_true rfl, Nat.le_of_ble_eq_true rfl⟩) hP hD hS hA [0, 7, 1, 2, 3, 4, 5, 6] [8, 9, 10, 11] [0, 1, 2, 3] rfl rfl (by decide) (by decide) (by decide) (fun _ => rfl) (fun r_21 _ H locs hw_181 hP hD hS => ?_)
      have hP : va_P (dC, dI) vwCl [(q_13, .inr (4, [.int 0, .int (nI (cl_n (c_0 L xs))), .ref (u_8 0), .ref (u_8 1), .ref (u_8 2), .ref (u_8 3), .int 0, .int 0, .int 0, .int 0, .int 0, .int 0, .int 0, .int 0, .ref (u_8 4), .int 0, .int 0, .ref (u_8 5), .ref (u_8 6), .ref (u_8 7), .ref (u_8 8)])), (u_8 0, .inl (cB, 2560, .inl (fun _ => 0))), (u_8 1, .inl (cB, 2560, .inl (fun _ => 0))), (u_8 2, .inl (cB, 2560, .inl (fun _ => 0)))] H := hP
      have hD : va_D A [(q_13, .inr (4, [.int 0, .int (nI (cl_n (c_0 L xs))), .ref (u_8 0), .ref (u_8 1), .ref (u_8 2), .ref (u_8 3), .int 0, .int 0, .int 0, .int 0, .int 0, .int 0, .int 0, .int 0, .ref (u_8 4), .int 0, .int 0, .ref (u_8 5), .ref (u_8 6), .ref (u_8 7), .ref (u_8 8)])), (u_8 0, .inl (cB, 2560, .inl (fun _ => 0))), (u_8 1, .inl (cB, 2560, .inl (fun _ => 0))), (u_8 2, .inl (cB, 2560, .inl (fun _ => 0)))] := hD
      refine lv_aload_n hx hb dL_law_184 rfl (lv_at hl 2 rfl) ?_
      refine mq_calli (wr := []) (fun (_u : Unit) => []) (va_runV (As := []) (rest := [.int r_21]) ⟨hx, hb, hml, hown, hts⟩ (ct_X3_sync l dC dI cB cI q_13 (u_8 0) (u_8 1) (u_8 2) (u_8 3) (u_8 4) (u_8 5) (u_8 6) (u_8 7) (u_8 8) (cl_n (c_0 L xs)) hc (fun _ => 0) (fun _ => 0) (fun _ => 0) H.size) (cwV 0 hts gL_law_X3_sync rfl rfl rfl (by decide +kernel) ⟨Nat.le_of_ble_eq_true rfl, Nat.le_of_ble_eq_true rfl⟩) ⟨mq_blind, va_recv hK hP (ci := 4) (q0 := 0) rfl rfl, mq_pre (hK.sub [0, 1] rfl) hN hP hD [0, 1, 2, 3] rfl (by decide)⟩ rfl rfl hl.1 rfl (lv_room (Nat.le_of_ble_eq_true rfl)) dL_law_185 ⟨Nat.le_of_ble_eq_true rfl, Nat.le_of_ble_eq_true rfl⟩) hP hD hS hA [0, 1, 2, 3] [] [] rfl rfl (by decide) (by decide) (by decide) (fun _ => rfl) (fun r_22 _ H locs hw_185 hP hD hS => ?_)
      have hP : va_P (dC, dI) vwCl [] H := hP
      have hD : va_D A [] := hD
      refine lv_icmp_eq (tgt := 562) hx hb dL_law_188 (by decide) (fun c_188 => ?_) (fun c_188 => ?_)
      · skip
        obtain ⟨x_23, ex_23⟩ : ∃ y : Int32, y = 1 + 4 := ⟨_, rfl⟩
        refine lv_iinc (v := x_23) (lv' := [(4, .int x_23), (3, .ref q_27), (2, .ref q_13), (1, .ref q_0), (0, .ref b)]) hx hb dL_law_562 hl (k := 0) rfl (by rw [ex_23]; rfl) (by decide) rfl (fun ls hl => ?_)
        obtain rfl : x_23 = 5 := by rw [ex_23]; decide
        refine lv_goto (tgt := 33) hx hb dL_law_565 (by decide) ?_
        refine lv_iload hx hb dL_law_33 (lv_at hl 0 rfl) ?_
        refine lv_aload_n hx hb dL_law_35 rfl (lv_at hl 4 rfl) ?_
        refine va_slen hx hb hX hbl hbA hS dL_law_36 ?_
        refine lv_iconst (v := 4) hx hb dL_law_37 (by decide) ?_
        refine lv_isub hx hb dL_law_38 ?_
        refine lv_icmp_gt (tgt := 568) hx hb dL_law_39 (by decide) (fun c_39 => ?_) (fun c_39 => ?_)
        · skip
          refine lv_iconst (v := 1) hx hb dL_law_568 (by decide) ?_
          refine va_forget (fun q hq => hA2 _ (hS.2.2 q hq)) ?_
          refine W.widen (k := 600002) (n := 7302198) (by omega) (by omega) ?_
          exact lw_ret hx hb hr hlocks dL_law_569
        · exact absurd (by show nI L - 4 < 5; rw [hL5]; decide) c_39
      · exact absurd (hw_181.trans hw_185.symm) c_188
    by_cases hk_3 : x_10 = 3
    · refine lv_tableIn (off := 144) (tgt := 193) hx hb dL_law_49 (by rw [hk_3]; decide) (by rw [hk_3]; decide) (by rw [hk_3]; rfl) (by decide) ?_
      have hP := hP.sub (ws' := [(q_0, .inr (3, [.ref (u_4 0), .ref (u_4 2), .ref (u_4 4), .ref (u_4 6), .int 0, .ref (u_4 8), .ref (u_4 14), .int 0, .int 0, .int 0, .int 1, .int 0, .int 0, .int 0, .int 0, .int 0])), (q_13, .inr (4, [.int 0, .int (nI (cl_n (c_0 L xs))), .ref (u_8 0), .ref (u_8 1), .ref (u_8 2), .ref (u_8 3), .int 0, .int 0, .int 0, .int 0, .int 0, .int 0, .int 0, .int 0, .ref (u_8 4), .int 0, .int 0, .ref (u_8 5), .ref (u_8 6), .ref (u_8 7), .ref (u_8 8)]))]) [0, 16] rfl
      have hD := hD.sub (ws' := [(q_0, .inr (3, [.ref (u_4 0), .ref (u_4 2), .ref (u_4 4), .ref (u_4 6), .int 0, .ref (u_4 8), .ref (u_4 14), .int 0, .int 0, .int 0, .int 1, .int 0, .int 0, .int 0, .int 0, .int 0])), (q_13, .inr (4, [.int 0, .int (nI (cl_n (c_0 L xs))), .ref (u_8 0), .ref (u_8 1), .ref (u_8 2), .ref (u_8 3), .int 0, .int 0, .int 0, .int 0, .int 0, .int 0, .int 0, .int 0, .ref (u_8 4), .int 0, .int 0, .ref (u_8 5), .ref (u_8 6), .ref (u_8 7), .ref (u_8 8)]))]) [0, 16] (by decide) rfl
      refine lv_aload_n hx hb dL_law_193 rfl (lv_at hl 3 rfl) ?_
      refine lv_aload_n hx hb dL_law_194 rfl (lv_at hl 4 rfl) ?_
      refine lv_iload hx hb dL_law_195 (lv_at hl 0 rfl) ?_
      refine lv_iconst (v := 1) hx hb dL_law_197 (by decide) ?_
      refine lv_iadd hx hb dL_law_198 ?_
      refine lv_topi (fun x_24 ex_24 => ?_)
      obtain rfl : x_24 = nI 2 := by rw [ex_24]; decide
      refine va_sld hx hb hX hbl hbA hS (by rw [hL5]; exact vp_in_nI (n := 2) (by decide) (by decide)) dL_law_199 ?_
      refine lv_aload_n hx hb dL_law_200 rfl (lv_at hl 4 rfl) ?_
      refine lv_iload hx hb dL_law_201 (lv_at hl 0 rfl) ?_
      refine lv_iconst (v := 2) hx hb dL_law_203 (by decide) ?_
      refine lv_iadd hx hb dL_law_204 ?_
      refine lv_topi (fun x_25 ex_25 => ?_)
      obtain rfl : x_25 = nI 3 := by rw [ex_25]; decide
      refine va_sld hx hb hX hbl hbA hS (by rw [hL5]; exact vp_in_nI (n := 3) (by decide) (by decide)) dL_law_205 ?_
      refine mq_calli (wr := [(q_13, .inr (4, [.int 0, .int (nI (cl_n (c_0 L xs))), .ref (u_8 0), .ref (u_8 1), .ref (u_8 2), .ref (u_8 3), .int 0, .int 0, .int 0, .int 0, .int 0, .int 0, .int 0, .int 0, .ref (u_8 4), .int 0, .int 0, .ref (u_8 5), .ref (u_8 6), .ref (u_8 7), .ref (u_8 8)]))]) (fun (_u : Unit) => [(q_13, .inr (4, [.int 0, .int (nI (cl_n (c_0 L xs))), .ref (u_8 0), .ref (u_8 1), .ref (u_8 2), .ref (u_8 3), .int 0, .int 0, .int 0, .int 0, .int 0, .int 0, .int 0, .int 0, .ref (u_8 4), .int 0, .int 0, .ref (u_8 5), .ref (u_8 6), .ref (u_8 7), .ref (u_8 8)]))]) (va_runV (As := [.int (xs (nI 2).toNatClampNeg), .int (xs (nI 3).toNatClampNeg)]) (rest := []) ⟨hx, hb, hml, hown, hts⟩ (ct_X2_cut l dC dI cB cI q_0 (u_4 0) (u_4 2) (u_4 4) (u_4 6) (u_4 8) (u_4 14) (xs (nI 2).toNatClampNeg) (xs (nI 3).toNatClampNeg) H.size) (cwV 2 hts gL_law_X2_cut rfl rfl rfl (by decide +kernel) ⟨Nat.le_of_ble_eq_true rfl, Nat.le_of_ble_eq_true rfl⟩) ⟨mq_blind, va_recv hK hP (ci := 3) (q0 := 0) rfl rfl, mq_pre (hK.sub [0, 1] rfl) hN hP hD [0] rfl (by decide)⟩ rfl rfl hl.1 rfl (lv_room (Nat.le_of_ble_eq_true rfl)) dL_law_206 ⟨Nat.le_of_ble_eq_true rfl, Nat.le_of_ble_eq_true rfl⟩) hP hD hS hA [0] [1] [0] rfl rfl (by decide) (by decide) (by decide) (fun _ => rfl) (fun r_26 _ H locs hw_206 hP hD hS => ?_)
      have hP : va_P (dC, dI) vwCl [(q_13, .inr (4, [.int 0, .int (nI (cl_n (c_0 L xs))), .ref (u_8 0), .ref (u_8 1), .ref (u_8 2), .ref (u_8 3), .int 0, .int 0, .int 0, .int 0, .int 0, .int 0, .int 0, .int 0, .ref (u_8 4), .int 0, .int 0, .ref (u_8 5), .ref (u_8 6), .ref (u_8 7), .ref (u_8 8)]))] H := hP
      have hD : va_D A [(q_13, .inr (4, [.int 0, .int (nI (cl_n (c_0 L xs))), .ref (u_8 0), .ref (u_8 1), .ref (u_8 2), .ref (u_8 3), .int 0, .int 0, .int 0, .int 0, .int 0, .int 0, .int 0, .int 0, .ref (u_8 4), .int 0, .int 0, .ref (u_8 5), .ref (u_8 6), .ref (u_8 7), .ref (u_8 8)]))] := hD
      refine lv_aload_n hx hb dL_law_209 rfl (lv_at hl 2 rfl) ?_
      refine lv_aload_n hx hb dL_law_210 rfl (lv_at hl 4 rfl) ?_
      refine lv_iload hx hb dL_law_211 (lv_at hl 0 rfl) ?_
      refine lv_iconst (v := 1) hx hb dL_law_213 (by decide) ?_
      refine lv_iadd hx hb dL_law_214 ?_
      refine lv_topi (fun x_27 ex_27 => ?_)
      obtain rfl : x_27 = nI 2 := by rw [ex_27]; decide
      refine va_sld hx hb hX hbl hbA hS (by rw [hL5]; exact vp_in_nI (n := 2) (by decide) (by decide)) dL_law_215 ?_
      refine lv_aload_n hx hb dL_law_216 rfl (lv_at hl 4 rfl) ?_
      refine lv_iload hx hb dL_law_217 (lv_at hl 0 rfl) ?_
      refine lv_iconst (v := 2) hx hb dL_law_219 (by decide) ?_
      refine lv_iadd hx hb dL_law_220 ?_
      refine lv_topi (fun x_28 ex_28 => ?_)
      obtain rfl : x_28 = nI 3 := by rw [ex_28]; decide
      refine va_sld hx hb hX hbl hbA hS (by rw [hL5]; exact vp_in_nI (n := 3) (by decide) (by decide)) dL_law_221 ?_
      refine mq_calli (wr := []) (fun (_u : Unit) => []) (va_runV (As := [.int (xs (nI 2).toNatClampNeg), .int (xs (nI 3).toNatClampNeg)]) (rest := [.int r_26]) ⟨hx, hb, hml, hown, hts⟩ (ct_X3_cut l dC dI cB cI q_13 (u_8 0) (u_8 1) (u_8 2) (u_8 3) (u_8 4) (u_8 5) (u_8 6) (u_8 7) (u_8 8) (cl_n (c_0 L xs)) hc (xs (nI 2).toNatClampNeg) (xs (nI 3).toNatClampNeg) H.size) (cwV 2 hts gL_law_X3_cut rfl rfl rfl (by decide +kernel) ⟨Nat.le_of_ble_eq_true rfl, Nat.le_of_ble_eq_true rfl⟩) ⟨mq_blind, va_recv hK hP (ci := 4) (q0 := 0) rfl rfl, mq_pre (hK.sub [0, 1] rfl) hN hP hD [0] rfl (by decide)⟩ rfl rfl hl.1 rfl (lv_room (Nat.le_of_ble_eq_true rfl)) dL_law_222 ⟨Nat.le_of_ble_eq_true rfl, Nat.le_of_ble_eq_true rfl⟩) hP hD hS hA [0] [] [] rfl rfl (by decide) (by decide) (by decide) (fun _ => rfl) (fun r_29 _ H locs hw_222 hP hD hS => ?_)
      have hP : va_P (dC, dI) vwCl [] H := hP
      have hD : va_D A [] := hD
      refine lv_icmp_eq (tgt := 562) hx hb dL_law_225 (by decide) (fun c_225 => ?_) (fun c_225 => ?_)
      · skip
        obtain ⟨x_30, ex_30⟩ : ∃ y : Int32, y = 1 + 4 := ⟨_, rfl⟩
        refine lv_iinc (v := x_30) (lv' := [(4, .int x_30), (3, .ref q_27), (2, .ref q_13), (1, .ref q_0), (0, .ref b)]) hx hb dL_law_562 hl (k := 0) rfl (by rw [ex_30]; rfl) (by decide) rfl (fun ls hl => ?_)
        obtain rfl : x_30 = 5 := by rw [ex_30]; decide
        refine lv_goto (tgt := 33) hx hb dL_law_565 (by decide) ?_
        refine lv_iload hx hb dL_law_33 (lv_at hl 0 rfl) ?_
        refine lv_aload_n hx hb dL_law_35 rfl (lv_at hl 4 rfl) ?_
        refine va_slen hx hb hX hbl hbA hS dL_law_36 ?_
        refine lv_iconst (v := 4) hx hb dL_law_37 (by decide) ?_
        refine lv_isub hx hb dL_law_38 ?_
        refine lv_icmp_gt (tgt := 568) hx hb dL_law_39 (by decide) (fun c_39 => ?_) (fun c_39 => ?_)
        · skip
          refine lv_iconst (v := 1) hx hb dL_law_568 (by decide) ?_
          refine va_forget (fun q hq => hA2 _ (hS.2.2 q hq)) ?_
          refine W.widen (k := 600002) (n := 7302198) (by omega) (by omega) ?_
          exact lw_ret hx hb hr hlocks dL_law_569
        · exact absurd (by show nI L - 4 < 5; rw [hL5]; decide) c_39
      · exact absurd (hw_206.trans hw_222.symm) c_225
    by_cases hk_4 : x_10 = 4
    · refine lv_tableIn (off := 181) (tgt := 230) hx hb dL_law_49 (by rw [hk_4]; decide) (by rw [hk_4]; decide) (by rw [hk_4]; rfl) (by decide) ?_
      have hP := hP.sub (ws' := [(q_0, .inr (3, [.ref (u_4 0), .ref (u_4 2), .ref (u_4 4), .ref (u_4 6), .int 0, .ref (u_4 8), .ref (u_4 14), .int 0, .int 0, .int 0, .int 1, .int 0, .int 0, .int 0, .int 0, .int 0])), (u_4 8, .inr (1, [.ref (u_4 9), .ref (u_4 10), .ref (u_4 11), .ref (u_4 12), .ref (u_4 13), .int 0, .int 0, .int 0])), (q_13, .inr (4, [.int 0, .int (nI (cl_n (c_0 L xs))), .ref (u_8 0), .ref (u_8 1), .ref (u_8 2), .ref (u_8 3), .int 0, .int 0, .int 0, .int 0, .int 0, .int 0, .int 0, .int 0, .ref (u_8 4), .int 0, .int 0, .ref (u_8 5), .ref (u_8 6), .ref (u_8 7), .ref (u_8 8)]))]) [0, 9, 16] rfl
      have hD := hD.sub (ws' := [(q_0, .inr (3, [.ref (u_4 0), .ref (u_4 2), .ref (u_4 4), .ref (u_4 6), .int 0, .ref (u_4 8), .ref (u_4 14), .int 0, .int 0, .int 0, .int 1, .int 0, .int 0, .int 0, .int 0, .int 0])), (u_4 8, .inr (1, [.ref (u_4 9), .ref (u_4 10), .ref (u_4 11), .ref (u_4 12), .ref (u_4 13), .int 0, .int 0, .int 0])), (q_13, .inr (4, [.int 0, .int (nI (cl_n (c_0 L xs))), .ref (u_8 0), .ref (u_8 1), .ref (u_8 2), .ref (u_8 3), .int 0, .int 0, .int 0, .int 0, .int 0, .int 0, .int 0, .int 0, .ref (u_8 4), .int 0, .int 0, .ref (u_8 5), .ref (u_8 6), .ref (u_8 7), .ref (u_8 8)]))]) [0, 9, 16] (by decide) rfl
      refine lv_aload_n hx hb dL_law_230 rfl (lv_at hl 3 rfl) ?_
      refine mq_calli (wr := [(q_13, .inr (4, [.int 0, .int (nI (cl_n (c_0 L xs))), .ref (u_8 0), .ref (u_8 1), .ref (u_8 2), .ref (u_8 3), .int 0, .int 0, .int 0, .int 0, .int 0, .int 0, .int 0, .int 0, .ref (u_8 4), .int 0, .int 0, .ref (u_8 5), .ref (u_8 6), .ref (u_8 7), .ref (u_8 8)]))]) (fun (_u : Unit) => [(q_13, .inr (4, [.int 0, .int (nI (cl_n (c_0 L xs))), .ref (u_8 0), .ref (u_8 1), .ref (u_8 2), .ref (u_8 3), .int 0, .int 0, .int 0, .int 0, .int 0, .int 0, .int 0, .int 0, .ref (u_8 4), .int 0, .int 0, .ref (u_8 5), .ref (u_8 6), .ref (u_8 7), .ref (u_8 8)]))]) (va_runV (As := []) (rest := []) ⟨hx, hb, hml, hown, hts⟩ (ct_X2_off l dC dI cB cI q_0 (u_4 0) (u_4 2) (u_4 4) (u_4 6) (u_4 8) (u_4 14) (u_4 9) (u_4 10) (u_4 11) (u_4 12) (u_4 13) H.size) (cwV 0 hts gL_law_X2_off rfl rfl rfl (by decide +kernel) ⟨Nat.le_of_ble_eq_true rfl, Nat.le_of_ble_eq_true rfl⟩) ⟨mq_blind, va_recv hK hP (ci := 3) (q0 := 0) rfl rfl, mq_pre (hK.sub [0, 1] rfl) hN hP hD [0, 1] rfl (by decide)⟩ rfl rfl hl.1 rfl (lv_room (Nat.le_of_ble_eq_true rfl)) dL_law_231 ⟨Nat.le_of_ble_eq_true rfl, Nat.le_of_ble_eq_true rfl⟩) hP hD hS hA [0, 1] [2] [0] rfl rfl (by decide) (by decide) (by decide) (fun _ => rfl) (fun r_31 _ H locs hw_231 hP hD hS => ?_)
      have hP : va_P (dC, dI) vwCl [(q_13, .inr (4, [.int 0, .int (nI (cl_n (c_0 L xs))), .ref (u_8 0), .ref (u_8 1), .ref (u_8 2), .ref (u_8 3), .int 0, .int 0, .int 0, .int 0, .int 0, .int 0, .int 0, .int 0, .ref (u_8 4), .int 0, .int 0, .ref (u_8 5), .ref (u_8 6), .ref (u_8 7), .ref (u_8 8)]))] H := hP
      have hD : va_D A [(q_13, .inr (4, [.int 0, .int (nI (cl_n (c_0 L xs))), .ref (u_8 0), .ref (u_8 1), .ref (u_8 2), .ref (u_8 3), .int 0, .int 0, .int 0, .int 0, .int 0, .int 0, .int 0, .int 0, .ref (u_8 4), .int 0, .int 0, .ref (u_8 5), .ref (u_8 6), .ref (u_8 7), .ref (u_8 8)]))] := hD
      refine lv_aload_n hx hb dL_law_234 rfl (lv_at hl 2 rfl) ?_
      refine mq_calli (wr := []) (fun (_u : Unit) => []) (va_runV (As := []) (rest := [.int r_31]) ⟨hx, hb, hml, hown, hts⟩ (ct_X3_off l dC dI cB cI q_13 (u_8 0) (u_8 1) (u_8 2) (u_8 3) (u_8 4) (u_8 5) (u_8 6) (u_8 7) (u_8 8) (cl_n (c_0 L xs)) hc H.size) (cwV 0 hts gL_law_X3_off rfl rfl rfl (by decide +kernel) ⟨Nat.le_of_ble_eq_true rfl, Nat.le_of_ble_eq_true rfl⟩) ⟨mq_blind, va_recv hK hP (ci := 4) (q0 := 0) rfl rfl, mq_pre (hK.sub [0, 1] rfl) hN hP hD [0] rfl (by decide)⟩ rfl rfl hl.1 rfl (lv_room (Nat.le_of_ble_eq_true rfl)) dL_law_235 ⟨Nat.le_of_ble_eq_true rfl, Nat.le_of_ble_eq_true rfl⟩) hP hD hS hA [0] [] [] rfl rfl (by decide) (by decide) (by decide) (fun _ => rfl) (fun r_32 _ H locs hw_235 hP hD hS => ?_)
      have hP : va_P (dC, dI) vwCl [] H := hP
      have hD : va_D A [] := hD
      refine lv_icmp_eq (tgt := 562) hx hb dL_law_238 (by decide) (fun c_238 => ?_) (fun c_238 => ?_)
      · skip
        obtain ⟨x_33, ex_33⟩ : ∃ y : Int32, y = 1 + 4 := ⟨_, rfl⟩
        refine lv_iinc (v := x_33) (lv' := [(4, .int x_33), (3, .ref q_27), (2, .ref q_13), (1, .ref q_0), (0, .ref b)]) hx hb dL_law_562 hl (k := 0) rfl (by rw [ex_33]; rfl) (by decide) rfl (fun ls hl => ?_)
        obtain rfl : x_33 = 5 := by rw [ex_33]; decide
        refine lv_goto (tgt := 33) hx hb dL_law_565 (by decide) ?_
        refine lv_iload hx hb dL_law_33 (lv_at hl 0 rfl) ?_
        refine lv_aload_n hx hb dL_law_35 rfl (lv_at hl 4 rfl) ?_
        refine va_slen hx hb hX hbl hbA hS dL_law_36 ?_
        refine lv_iconst (v := 4) hx hb dL_law_37 (by decide) ?_
        refine lv_isub hx hb dL_law_38 ?_
        refine lv_icmp_gt (tgt := 568) hx hb dL_law_39 (by decide) (fun c_39 => ?_) (fun c_39 => ?_)
        · skip
          refine lv_iconst (v := 1) hx hb dL_law_568 (by decide) ?_
          refine va_forget (fun q hq => hA2 _ (hS.2.2 q hq)) ?_
          refine W.widen (k := 600002) (n := 7302198) (by omega) (by omega) ?_
          exact lw_ret hx hb hr hlocks dL_law_569
        · exact absurd (by show nI L - 4 < 5; rw [hL5]; decide) c_39
      · exact absurd (hw_231.trans hw_235.symm) c_238
    by_cases hk_5 : x_10 = 5
    · refine lv_tableIn (off := 194) (tgt := 243) hx hb dL_law_49 (by rw [hk_5]; decide) (by rw [hk_5]; decide) (by rw [hk_5]; rfl) (by decide) ?_
      have hP := hP.sub (ws' := [(q_0, .inr (3, [.ref (u_4 0), .ref (u_4 2), .ref (u_4 4), .ref (u_4 6), .int 0, .ref (u_4 8), .ref (u_4 14), .int 0, .int 0, .int 0, .int 1, .int 0, .int 0, .int 0, .int 0, .int 0])), (q_13, .inr (4, [.int 0, .int (nI (cl_n (c_0 L xs))), .ref (u_8 0), .ref (u_8 1), .ref (u_8 2), .ref (u_8 3), .int 0, .int 0, .int 0, .int 0, .int 0, .int 0, .int 0, .int 0, .ref (u_8 4), .int 0, .int 0, .ref (u_8 5), .ref (u_8 6), .ref (u_8 7), .ref (u_8 8)])), (u_8 0, .inl (cB, 2560, .inl (fun _ => 0)))]) [0, 16, 17] rfl
      have hD := hD.sub (ws' := [(q_0, .inr (3, [.ref (u_4 0), .ref (u_4 2), .ref (u_4 4), .ref (u_4 6), .int 0, .ref (u_4 8), .ref (u_4 14), .int 0, .int 0, .int 0, .int 1, .int 0, .int 0, .int 0, .int 0, .int 0])), (q_13, .inr (4, [.int 0, .int (nI (cl_n (c_0 L xs))), .ref (u_8 0), .ref (u_8 1), .ref (u_8 2), .ref (u_8 3), .int 0, .int 0, .int 0, .int 0, .int 0, .int 0, .int 0, .int 0, .ref (u_8 4), .int 0, .int 0, .ref (u_8 5), .ref (u_8 6), .ref (u_8 7), .ref (u_8 8)])), (u_8 0, .inl (cB, 2560, .inl (fun _ => 0)))]) [0, 16, 17] (by decide) rfl
      refine lv_aload_n hx hb dL_law_243 rfl (lv_at hl 3 rfl) ?_
      refine mq_calli (wr := [(q_13, .inr (4, [.int 0, .int (nI (cl_n (c_0 L xs))), .ref (u_8 0), .ref (u_8 1), .ref (u_8 2), .ref (u_8 3), .int 0, .int 0, .int 0, .int 0, .int 0, .int 0, .int 0, .int 0, .ref (u_8 4), .int 0, .int 0, .ref (u_8 5), .ref (u_8 6), .ref (u_8 7), .ref (u_8 8)])), (u_8 0, .inl (cB, 2560, .inl (fun _ => 0)))]) (fun (_u : Unit) => [(q_13, .inr (4, [.int 0, .int (nI (cl_n (c_0 L xs))), .ref (u_8 0), .ref (u_8 1), .ref (u_8 2), .ref (u_8 3), .int 0, .int 0, .int 0, .int 0, .int 0, .int 0, .int 0, .int 0, .ref (u_8 4), .int 0, .int 0, .ref (u_8 5), .ref (u_8 6), .ref (u_8 7), .ref (u_8 8)])), (u_8 0, .inl (cB, 2560, .inl (fun _ => 0)))]) (va_runV (As := []) (rest := []) ⟨hx, hb, hml, hown, hts⟩ (ct_X2_start l dC dI cB cI q_0 (u_4 0) (u_4 2) (u_4 4) (u_4 6) (u_4 8) (u_4 14) H.size) (cwV 0 hts gL_law_X2_start rfl rfl rfl (by decide +kernel) ⟨Nat.le_of_ble_eq_true rfl, Nat.le_of_ble_eq_true rfl⟩) ⟨mq_blind, va_recv hK hP (ci := 3) (q0 := 0) rfl rfl, mq_pre (hK.sub [0, 1] rfl) hN hP hD [0] rfl (by decide)⟩ rfl rfl hl.1 rfl (lv_room (Nat.le_of_ble_eq_true rfl)) dL_law_244 ⟨Nat.le_of_ble_eq_true rfl, Nat.le_of_ble_eq_true rfl⟩) hP hD hS hA [0] [1, 2] [0, 1] rfl rfl (by decide) (by decide) (by decide) (fun _ => rfl) (fun r_34 _ H locs hw_244 hP hD hS => ?_)
      have hP : va_P (dC, dI) vwCl [(q_13, .inr (4, [.int 0, .int (nI (cl_n (c_0 L xs))), .ref (u_8 0), .ref (u_8 1), .ref (u_8 2), .ref (u_8 3), .int 0, .int 0, .int 0, .int 0, .int 0, .int 0, .int 0, .int 0, .ref (u_8 4), .int 0, .int 0, .ref (u_8 5), .ref (u_8 6), .ref (u_8 7), .ref (u_8 8)])), (u_8 0, .inl (cB, 2560, .inl (fun _ => 0)))] H := hP
      have hD : va_D A [(q_13, .inr (4, [.int 0, .int (nI (cl_n (c_0 L xs))), .ref (u_8 0), .ref (u_8 1), .ref (u_8 2), .ref (u_8 3), .int 0, .int 0, .int 0, .int 0, .int 0, .int 0, .int 0, .int 0, .ref (u_8 4), .int 0, .int 0, .ref (u_8 5), .ref (u_8 6), .ref (u_8 7), .ref (u_8 8)])), (u_8 0, .inl (cB, 2560, .inl (fun _ => 0)))] := hD
      refine lv_aload_n hx hb dL_law_247 rfl (lv_at hl 2 rfl) ?_
      refine mq_calli (wr := []) (fun (_u : Unit) => []) (va_runV (As := []) (rest := [.int r_34]) ⟨hx, hb, hml, hown, hts⟩ (ct_X3_start l dC dI cB cI q_13 (u_8 0) (u_8 1) (u_8 2) (u_8 3) (u_8 4) (u_8 5) (u_8 6) (u_8 7) (u_8 8) (cl_n (c_0 L xs)) hc (fun _ => 0) (fun _ => rfl) H.size) (cwV 0 hts gL_law_X3_start rfl rfl rfl (by decide +kernel) ⟨Nat.le_of_ble_eq_true rfl, Nat.le_of_ble_eq_true rfl⟩) ⟨mq_blind, va_recv hK hP (ci := 4) (q0 := 0) rfl rfl, mq_pre (hK.sub [0, 1] rfl) hN hP hD [0, 1] rfl (by decide)⟩ rfl rfl hl.1 rfl (lv_room (Nat.le_of_ble_eq_true rfl)) dL_law_248 ⟨Nat.le_of_ble_eq_true rfl, Nat.le_of_ble_eq_true rfl⟩) hP hD hS hA [0, 1] [] [] rfl rfl (by decide) (by decide) (by decide) (fun _ => rfl) (fun r_35 _ H locs hw_248 hP hD hS => ?_)
      have hP : va_P (dC, dI) vwCl [] H := hP
      have hD : va_D A [] := hD
      refine lv_icmp_eq (tgt := 562) hx hb dL_law_251 (by decide) (fun c_251 => ?_) (fun c_251 => ?_)
      · skip
        obtain ⟨x_36, ex_36⟩ : ∃ y : Int32, y = 1 + 4 := ⟨_, rfl⟩
        refine lv_iinc (v := x_36) (lv' := [(4, .int x_36), (3, .ref q_27), (2, .ref q_13), (1, .ref q_0), (0, .ref b)]) hx hb dL_law_562 hl (k := 0) rfl (by rw [ex_36]; rfl) (by decide) rfl (fun ls hl => ?_)
        obtain rfl : x_36 = 5 := by rw [ex_36]; decide
        refine lv_goto (tgt := 33) hx hb dL_law_565 (by decide) ?_
        refine lv_iload hx hb dL_law_33 (lv_at hl 0 rfl) ?_
        refine lv_aload_n hx hb dL_law_35 rfl (lv_at hl 4 rfl) ?_
        refine va_slen hx hb hX hbl hbA hS dL_law_36 ?_
        refine lv_iconst (v := 4) hx hb dL_law_37 (by decide) ?_
        refine lv_isub hx hb dL_law_38 ?_
        refine lv_icmp_gt (tgt := 568) hx hb dL_law_39 (by decide) (fun c_39 => ?_) (fun c_39 => ?_)
        · skip
          refine lv_iconst (v := 1) hx hb dL_law_568 (by decide) ?_
          refine va_forget (fun q hq => hA2 _ (hS.2.2 q hq)) ?_
          refine W.widen (k := 600002) (n := 7302198) (by omega) (by omega) ?_
          exact lw_ret hx hb hr hlocks dL_law_569
        · exact absurd (by show nI L - 4 < 5; rw [hL5]; decide) c_39
      · exact absurd (hw_244.trans hw_248.symm) c_251
    by_cases hk_6 : x_10 = 6
    · refine lv_tableIn (off := 207) (tgt := 256) hx hb dL_law_49 (by rw [hk_6]; decide) (by rw [hk_6]; decide) (by rw [hk_6]; rfl) (by decide) ?_
      have hP := hP.sub (ws' := [(q_0, .inr (3, [.ref (u_4 0), .ref (u_4 2), .ref (u_4 4), .ref (u_4 6), .int 0, .ref (u_4 8), .ref (u_4 14), .int 0, .int 0, .int 0, .int 1, .int 0, .int 0, .int 0, .int 0, .int 0])), (u_4 8, .inr (1, [.ref (u_4 9), .ref (u_4 10), .ref (u_4 11), .ref (u_4 12), .ref (u_4 13), .int 0, .int 0, .int 0])), (q_13, .inr (4, [.int 0, .int (nI (cl_n (c_0 L xs))), .ref (u_8 0), .ref (u_8 1), .ref (u_8 2), .ref (u_8 3), .int 0, .int 0, .int 0, .int 0, .int 0, .int 0, .int 0, .int 0, .ref (u_8 4), .int 0, .int 0, .ref (u_8 5), .ref (u_8 6), .ref (u_8 7), .ref (u_8 8)]))]) [0, 9, 16] rfl
      have hD := hD.sub (ws' := [(q_0, .inr (3, [.ref (u_4 0), .ref (u_4 2), .ref (u_4 4), .ref (u_4 6), .int 0, .ref (u_4 8), .ref (u_4 14), .int 0, .int 0, .int 0, .int 1, .int 0, .int 0, .int 0, .int 0, .int 0])), (u_4 8, .inr (1, [.ref (u_4 9), .ref (u_4 10), .ref (u_4 11), .ref (u_4 12), .ref (u_4 13), .int 0, .int 0, .int 0])), (q_13, .inr (4, [.int 0, .int (nI (cl_n (c_0 L xs))), .ref (u_8 0), .ref (u_8 1), .ref (u_8 2), .ref (u_8 3), .int 0, .int 0, .int 0, .int 0, .int 0, .int 0, .int 0, .int 0, .ref (u_8 4), .int 0, .int 0, .ref (u_8 5), .ref (u_8 6), .ref (u_8 7), .ref (u_8 8)]))]) [0, 9, 16] (by decide) rfl
      refine lv_aload_n hx hb dL_law_256 rfl (lv_at hl 3 rfl) ?_
      refine mq_calli (wr := [(q_13, .inr (4, [.int 0, .int (nI (cl_n (c_0 L xs))), .ref (u_8 0), .ref (u_8 1), .ref (u_8 2), .ref (u_8 3), .int 0, .int 0, .int 0, .int 0, .int 0, .int 0, .int 0, .int 0, .ref (u_8 4), .int 0, .int 0, .ref (u_8 5), .ref (u_8 6), .ref (u_8 7), .ref (u_8 8)]))]) (fun (_u : Unit) => [(q_13, .inr (4, [.int 0, .int (nI (cl_n (c_0 L xs))), .ref (u_8 0), .ref (u_8 1), .ref (u_8 2), .ref (u_8 3), .int 0, .int 0, .int 0, .int 0, .int 0, .int 0, .int 0, .int 0, .ref (u_8 4), .int 0, .int 0, .ref (u_8 5), .ref (u_8 6), .ref (u_8 7), .ref (u_8 8)]))]) (va_runV (As := []) (rest := []) ⟨hx, hb, hml, hown, hts⟩ (ct_X2_rows l dC dI cB cI q_0 (u_4 0) (u_4 2) (u_4 4) (u_4 6) (u_4 8) (u_4 14) (u_4 9) (u_4 10) (u_4 11) (u_4 12) (u_4 13) H.size) (cwV 0 hts gL_law_X2_rows rfl rfl rfl (by decide +kernel) ⟨Nat.le_of_ble_eq_true rfl, Nat.le_of_ble_eq_true rfl⟩) ⟨mq_blind, va_recv hK hP (ci := 3) (q0 := 0) rfl rfl, mq_pre (hK.sub [0, 1] rfl) hN hP hD [0, 1] rfl (by decide)⟩ rfl rfl hl.1 rfl (lv_room (Nat.le_of_ble_eq_true rfl)) dL_law_257 ⟨Nat.le_of_ble_eq_true rfl, Nat.le_of_ble_eq_true rfl⟩) hP hD hS hA [0, 1] [2] [0] rfl rfl (by decide) (by decide) (by decide) (fun _ => rfl) (fun r_37 _ H locs hw_257 hP hD hS => ?_)
      have hP : va_P (dC, dI) vwCl [(q_13, .inr (4, [.int 0, .int (nI (cl_n (c_0 L xs))), .ref (u_8 0), .ref (u_8 1), .ref (u_8 2), .ref (u_8 3), .int 0, .int 0, .int 0, .int 0, .int 0, .int 0, .int 0, .int 0, .ref (u_8 4), .int 0, .int 0, .ref (u_8 5), .ref (u_8 6), .ref (u_8 7), .ref (u_8 8)]))] H := hP
      have hD : va_D A [(q_13, .inr (4, [.int 0, .int (nI (cl_n (c_0 L xs))), .ref (u_8 0), .ref (u_8 1), .ref (u_8 2), .ref (u_8 3), .int 0, .int 0, .int 0, .int 0, .int 0, .int 0, .int 0, .int 0, .ref (u_8 4), .int 0, .int 0, .ref (u_8 5), .ref (u_8 6), .ref (u_8 7), .ref (u_8 8)]))] := hD
      refine lv_aload_n hx hb dL_law_260 rfl (lv_at hl 2 rfl) ?_
      refine mq_calli (wr := []) (fun (_u : Unit) => []) (va_runV (As := []) (rest := [.int r_37]) ⟨hx, hb, hml, hown, hts⟩ (ct_X3_rows l dC dI cB cI q_13 (u_8 0) (u_8 1) (u_8 2) (u_8 3) (u_8 4) (u_8 5) (u_8 6) (u_8 7) (u_8 8) (cl_n (c_0 L xs)) hc H.size) (cwV 0 hts gL_law_X3_rows rfl rfl rfl (by decide +kernel) ⟨Nat.le_of_ble_eq_true rfl, Nat.le_of_ble_eq_true rfl⟩) ⟨mq_blind, va_recv hK hP (ci := 4) (q0 := 0) rfl rfl, mq_pre (hK.sub [0, 1] rfl) hN hP hD [0] rfl (by decide)⟩ rfl rfl hl.1 rfl (lv_room (Nat.le_of_ble_eq_true rfl)) dL_law_261 ⟨Nat.le_of_ble_eq_true rfl, Nat.le_of_ble_eq_true rfl⟩) hP hD hS hA [0] [] [] rfl rfl (by decide) (by decide) (by decide) (fun _ => rfl) (fun r_38 _ H locs hw_261 hP hD hS => ?_)
      have hP : va_P (dC, dI) vwCl [] H := hP
      have hD : va_D A [] := hD
      refine lv_icmp_eq (tgt := 562) hx hb dL_law_264 (by decide) (fun c_264 => ?_) (fun c_264 => ?_)
      · skip
        obtain ⟨x_39, ex_39⟩ : ∃ y : Int32, y = 1 + 4 := ⟨_, rfl⟩
        refine lv_iinc (v := x_39) (lv' := [(4, .int x_39), (3, .ref q_27), (2, .ref q_13), (1, .ref q_0), (0, .ref b)]) hx hb dL_law_562 hl (k := 0) rfl (by rw [ex_39]; rfl) (by decide) rfl (fun ls hl => ?_)
        obtain rfl : x_39 = 5 := by rw [ex_39]; decide
        refine lv_goto (tgt := 33) hx hb dL_law_565 (by decide) ?_
        refine lv_iload hx hb dL_law_33 (lv_at hl 0 rfl) ?_
        refine lv_aload_n hx hb dL_law_35 rfl (lv_at hl 4 rfl) ?_
        refine va_slen hx hb hX hbl hbA hS dL_law_36 ?_
        refine lv_iconst (v := 4) hx hb dL_law_37 (by decide) ?_
        refine lv_isub hx hb dL_law_38 ?_
        refine lv_icmp_gt (tgt := 568) hx hb dL_law_39 (by decide) (fun c_39 => ?_) (fun c_39 => ?_)
        · skip
          refine lv_iconst (v := 1) hx hb dL_law_568 (by decide) ?_
          refine va_forget (fun q hq => hA2 _ (hS.2.2 q hq)) ?_
          refine W.widen (k := 600002) (n := 7302198) (by omega) (by omega) ?_
          exact lw_ret hx hb hr hlocks dL_law_569
        · exact absurd (by show nI L - 4 < 5; rw [hL5]; decide) c_39
      · exact absurd (hw_257.trans hw_261.symm) c_264
    by_cases hk_7 : x_10 = 7
    · refine lv_tableIn (off := 220) (tgt := 269) hx hb dL_law_49 (by rw [hk_7]; decide) (by rw [hk_7]; decide) (by rw [hk_7]; rfl) (by decide) ?_
      have hP := hP.sub (ws' := [(q_0, .inr (3, [.ref (u_4 0), .ref (u_4 2), .ref (u_4 4), .ref (u_4 6), .int 0, .ref (u_4 8), .ref (u_4 14), .int 0, .int 0, .int 0, .int 1, .int 0, .int 0, .int 0, .int 0, .int 0])), (u_4 8, .inr (1, [.ref (u_4 9), .ref (u_4 10), .ref (u_4 11), .ref (u_4 12), .ref (u_4 13), .int 0, .int 0, .int 0])), (q_13, .inr (4, [.int 0, .int (nI (cl_n (c_0 L xs))), .ref (u_8 0), .ref (u_8 1), .ref (u_8 2), .ref (u_8 3), .int 0, .int 0, .int 0, .int 0, .int 0, .int 0, .int 0, .int 0, .ref (u_8 4), .int 0, .int 0, .ref (u_8 5), .ref (u_8 6), .ref (u_8 7), .ref (u_8 8)]))]) [0, 9, 16] rfl
      have hD := hD.sub (ws' := [(q_0, .inr (3, [.ref (u_4 0), .ref (u_4 2), .ref (u_4 4), .ref (u_4 6), .int 0, .ref (u_4 8), .ref (u_4 14), .int 0, .int 0, .int 0, .int 1, .int 0, .int 0, .int 0, .int 0, .int 0])), (u_4 8, .inr (1, [.ref (u_4 9), .ref (u_4 10), .ref (u_4 11), .ref (u_4 12), .ref (u_4 13), .int 0, .int 0, .int 0])), (q_13, .inr (4, [.int 0, .int (nI (cl_n (c_0 L xs))), .ref (u_8 0), .ref (u_8 1), .ref (u_8 2), .ref (u_8 3), .int 0, .int 0, .int 0, .int 0, .int 0, .int 0, .int 0, .int 0, .ref (u_8 4), .int 0, .int 0, .ref (u_8 5), .ref (u_8 6), .ref (u_8 7), .ref (u_8 8)]))]) [0, 9, 16] (by decide) rfl
      refine lv_aload_n hx hb dL_law_269 rfl (lv_at hl 3 rfl) ?_
      refine lv_aload_n hx hb dL_law_270 rfl (lv_at hl 4 rfl) ?_
      refine lv_iload hx hb dL_law_271 (lv_at hl 0 rfl) ?_
      refine lv_iconst (v := 1) hx hb dL_law_273 (by decide) ?_
      refine lv_iadd hx hb dL_law_274 ?_
      refine lv_topi (fun x_40 ex_40 => ?_)
      obtain rfl : x_40 = nI 2 := by rw [ex_40]; decide
      refine va_sld hx hb hX hbl hbA hS (by rw [hL5]; exact vp_in_nI (n := 2) (by decide) (by decide)) dL_law_275 ?_
      refine lv_aload_n hx hb dL_law_276 rfl (lv_at hl 4 rfl) ?_
      refine lv_iload hx hb dL_law_277 (lv_at hl 0 rfl) ?_
      refine lv_iconst (v := 2) hx hb dL_law_279 (by decide) ?_
      refine lv_iadd hx hb dL_law_280 ?_
      refine lv_topi (fun x_41 ex_41 => ?_)
      obtain rfl : x_41 = nI 3 := by rw [ex_41]; decide
      refine va_sld hx hb hX hbl hbA hS (by rw [hL5]; exact vp_in_nI (n := 3) (by decide) (by decide)) dL_law_281 ?_
      refine mq_calli (wr := [(q_13, .inr (4, [.int 0, .int (nI (cl_n (c_0 L xs))), .ref (u_8 0), .ref (u_8 1), .ref (u_8 2), .ref (u_8 3), .int 0, .int 0, .int 0, .int 0, .int 0, .int 0, .int 0, .int 0, .ref (u_8 4), .int 0, .int 0, .ref (u_8 5), .ref (u_8 6), .ref (u_8 7), .ref (u_8 8)]))]) (fun (_u : Unit) => [(q_13, .inr (4, [.int 0, .int (nI (cl_n (c_0 L xs))), .ref (u_8 0), .ref (u_8 1), .ref (u_8 2), .ref (u_8 3), .int 0, .int 0, .int 0, .int 0, .int 0, .int 0, .int 0, .int 0, .ref (u_8 4), .int 0, .int 0, .ref (u_8 5), .ref (u_8 6), .ref (u_8 7), .ref (u_8 8)]))]) (va_runV (As := [.int (xs (nI 2).toNatClampNeg), .int (xs (nI 3).toNatClampNeg)]) (rest := []) ⟨hx, hb, hml, hown, hts⟩ (ct_X2_row l dC dI cB cI q_0 (u_4 0) (u_4 2) (u_4 4) (u_4 6) (u_4 8) (u_4 14) (u_4 9) (u_4 10) (u_4 11) (u_4 12) (u_4 13) (xs (nI 2).toNatClampNeg) (xs (nI 3).toNatClampNeg) H.size) (cwV 2 hts gL_law_X2_row rfl rfl rfl (by decide +kernel) ⟨Nat.le_of_ble_eq_true rfl, Nat.le_of_ble_eq_true rfl⟩) ⟨mq_blind, va_recv hK hP (ci := 3) (q0 := 0) rfl rfl, mq_pre (hK.sub [0, 1] rfl) hN hP hD [0, 1] rfl (by decide)⟩ rfl rfl hl.1 rfl (lv_room (Nat.le_of_ble_eq_true rfl)) dL_law_282 ⟨Nat.le_of_ble_eq_true rfl, Nat.le_of_ble_eq_true rfl⟩) hP hD hS hA [0, 1] [2] [0] rfl rfl (by decide) (by decide) (by decide) (fun _ => rfl) (fun r_42 _ H locs hw_282 hP hD hS => ?_)
      have hP : va_P (dC, dI) vwCl [(q_13, .inr (4, [.int 0, .int (nI (cl_n (c_0 L xs))), .ref (u_8 0), .ref (u_8 1), .ref (u_8 2), .ref (u_8 3), .int 0, .int 0, .int 0, .int 0, .int 0, .int 0, .int 0, .int 0, .ref (u_8 4), .int 0, .int 0, .ref (u_8 5), .ref (u_8 6), .ref (u_8 7), .ref (u_8 8)]))] H := hP
      have hD : va_D A [(q_13, .inr (4, [.int 0, .int (nI (cl_n (c_0 L xs))), .ref (u_8 0), .ref (u_8 1), .ref (u_8 2), .ref (u_8 3), .int 0, .int 0, .int 0, .int 0, .int 0, .int 0, .int 0, .int 0, .ref (u_8 4), .int 0, .int 0, .ref (u_8 5), .ref (u_8 6), .ref (u_8 7), .ref (u_8 8)]))] := hD
      refine lv_aload_n hx hb dL_law_285 rfl (lv_at hl 2 rfl) ?_
      refine lv_aload_n hx hb dL_law_286 rfl (lv_at hl 4 rfl) ?_
      refine lv_iload hx hb dL_law_287 (lv_at hl 0 rfl) ?_
      refine lv_iconst (v := 1) hx hb dL_law_289 (by decide) ?_
      refine lv_iadd hx hb dL_law_290 ?_
      refine lv_topi (fun x_43 ex_43 => ?_)
      obtain rfl : x_43 = nI 2 := by rw [ex_43]; decide
      refine va_sld hx hb hX hbl hbA hS (by rw [hL5]; exact vp_in_nI (n := 2) (by decide) (by decide)) dL_law_291 ?_
      refine lv_aload_n hx hb dL_law_292 rfl (lv_at hl 4 rfl) ?_
      refine lv_iload hx hb dL_law_293 (lv_at hl 0 rfl) ?_
      refine lv_iconst (v := 2) hx hb dL_law_295 (by decide) ?_
      refine lv_iadd hx hb dL_law_296 ?_
      refine lv_topi (fun x_44 ex_44 => ?_)
      obtain rfl : x_44 = nI 3 := by rw [ex_44]; decide
      refine va_sld hx hb hX hbl hbA hS (by rw [hL5]; exact vp_in_nI (n := 3) (by decide) (by decide)) dL_law_297 ?_
      refine mq_calli (wr := []) (fun (_u : Unit) => [(q_13, .inr (4, [.int 0, .int (nI (cl_n (c_0 L xs))), .ref (u_8 0), .ref (u_8 1), .ref (u_8 2), .ref (u_8 3), .int 0, .int 0, .int 0, .int 0, .int 0, .int 0, .int 0, .int 0, .ref (u_8 4), .int 0, .int 0, .ref (u_8 5), .ref (u_8 6), .ref (u_8 7), .ref (u_8 8)]))]) (va_runV (As := [.int (xs (nI 2).toNatClampNeg), .int (xs (nI 3).toNatClampNeg)]) (rest := [.int r_42]) ⟨hx, hb, hml, hown, hts⟩ (ct_X3_row l dC dI cB cI q_13 (u_8 0) (u_8 1) (u_8 2) (u_8 3) (u_8 4) (u_8 5) (u_8 6) (u_8 7) (u_8 8) (cl_n (c_0 L xs)) hc (xs (nI 2).toNatClampNeg) (xs (nI 3).toNatClampNeg) H.size) (cwV 2 hts gL_law_X3_row rfl rfl rfl (by decide +kernel) ⟨Nat.le_of_ble_eq_true rfl, Nat.le_of_ble_eq_true rfl⟩) ⟨mq_blind, va_recv hK hP (ci := 4) (q0 := 0) rfl rfl, mq_pre (hK.sub [0, 1] rfl) hN hP hD [0] rfl (by decide)⟩ rfl rfl hl.1 rfl (lv_room (Nat.le_of_ble_eq_true rfl)) dL_law_298 ⟨Nat.le_of_ble_eq_true rfl, Nat.le_of_ble_eq_true rfl⟩) hP hD hS hA [0] [] [0] rfl rfl (by decide) (by decide) (by decide) (fun _ => rfl) (fun r_45 _ H locs hw_298 hP hD hS => ?_)
      have hP : va_P (dC, dI) vwCl [(q_13, .inr (4, [.int 0, .int (nI (cl_n (c_0 L xs))), .ref (u_8 0), .ref (u_8 1), .ref (u_8 2), .ref (u_8 3), .int 0, .int 0, .int 0, .int 0, .int 0, .int 0, .int 0, .int 0, .ref (u_8 4), .int 0, .int 0, .ref (u_8 5), .ref (u_8 6), .ref (u_8 7), .ref (u_8 8)]))] H := hP
      have hD : va_D A [(q_13, .inr (4, [.int 0, .int (nI (cl_n (c_0 L xs))), .ref (u_8 0), .ref (u_8 1), .ref (u_8 2), .ref (u_8 3), .int 0, .int 0, .int 0, .int 0, .int 0, .int 0, .int 0, .int 0, .ref (u_8 4), .int 0, .int 0, .ref (u_8 5), .ref (u_8 6), .ref (u_8 7), .ref (u_8 8)]))] := hD
      refine lv_icmp_eq (tgt := 562) hx hb dL_law_301 (by decide) (fun c_301 => ?_) (fun c_301 => ?_)
      · skip
        obtain ⟨x_46, ex_46⟩ : ∃ y : Int32, y = 1 + 4 := ⟨_, rfl⟩
        refine lv_iinc (v := x_46) (lv' := [(4, .int x_46), (3, .ref q_27), (2, .ref q_13), (1, .ref q_0), (0, .ref b)]) hx hb dL_law_562 hl (k := 0) rfl (by rw [ex_46]; rfl) (by decide) rfl (fun ls hl => ?_)
        obtain rfl : x_46 = 5 := by rw [ex_46]; decide
        refine lv_goto (tgt := 33) hx hb dL_law_565 (by decide) ?_
        refine lv_iload hx hb dL_law_33 (lv_at hl 0 rfl) ?_
        refine lv_aload_n hx hb dL_law_35 rfl (lv_at hl 4 rfl) ?_
        refine va_slen hx hb hX hbl hbA hS dL_law_36 ?_
        refine lv_iconst (v := 4) hx hb dL_law_37 (by decide) ?_
        refine lv_isub hx hb dL_law_38 ?_
        refine lv_icmp_gt (tgt := 568) hx hb dL_law_39 (by decide) (fun c_39 => ?_) (fun c_39 => ?_)
        · skip
          refine lv_iconst (v := 1) hx hb dL_law_568 (by decide) ?_
          refine va_forget (fun q hq => hA2 _ (hS.2.2 q hq)) ?_
          refine W.widen (k := 600002) (n := 7302198) (by omega) (by omega) ?_
          exact lw_ret hx hb hr hlocks dL_law_569
        · exact absurd (by show nI L - 4 < 5; rw [hL5]; decide) c_39
      · exact absurd (hw_282.trans hw_298.symm) c_301
    by_cases hk_8 : x_10 = 8
    · refine lv_tableIn (off := 257) (tgt := 306) hx hb dL_law_49 (by rw [hk_8]; decide) (by rw [hk_8]; decide) (by rw [hk_8]; rfl) (by decide) ?_
      have hP := hP.sub (ws' := [(q_0, .inr (3, [.ref (u_4 0), .ref (u_4 2), .ref (u_4 4), .ref (u_4 6), .int 0, .ref (u_4 8), .ref (u_4 14), .int 0, .int 0, .int 0, .int 1, .int 0, .int 0, .int 0, .int 0, .int 0])), (u_4 8, .inr (1, [.ref (u_4 9), .ref (u_4 10), .ref (u_4 11), .ref (u_4 12), .ref (u_4 13), .int 0, .int 0, .int 0])), (q_13, .inr (4, [.int 0, .int (nI (cl_n (c_0 L xs))), .ref (u_8 0), .ref (u_8 1), .ref (u_8 2), .ref (u_8 3), .int 0, .int 0, .int 0, .int 0, .int 0, .int 0, .int 0, .int 0, .ref (u_8 4), .int 0, .int 0, .ref (u_8 5), .ref (u_8 6), .ref (u_8 7), .ref (u_8 8)])), (q_27, .inl (cJ, 1, .inr (.inl (fun _ => 0))))]) [0, 9, 16, 26] rfl
      have hD := hD.sub (ws' := [(q_0, .inr (3, [.ref (u_4 0), .ref (u_4 2), .ref (u_4 4), .ref (u_4 6), .int 0, .ref (u_4 8), .ref (u_4 14), .int 0, .int 0, .int 0, .int 1, .int 0, .int 0, .int 0, .int 0, .int 0])), (u_4 8, .inr (1, [.ref (u_4 9), .ref (u_4 10), .ref (u_4 11), .ref (u_4 12), .ref (u_4 13), .int 0, .int 0, .int 0])), (q_13, .inr (4, [.int 0, .int (nI (cl_n (c_0 L xs))), .ref (u_8 0), .ref (u_8 1), .ref (u_8 2), .ref (u_8 3), .int 0, .int 0, .int 0, .int 0, .int 0, .int 0, .int 0, .int 0, .ref (u_8 4), .int 0, .int 0, .ref (u_8 5), .ref (u_8 6), .ref (u_8 7), .ref (u_8 8)])), (q_27, .inl (cJ, 1, .inr (.inl (fun _ => 0))))]) [0, 9, 16, 26] (by decide) rfl
      refine lv_aload_n hx hb dL_law_306 rfl (lv_at hl 3 rfl) ?_
      refine lv_aload_n hx hb dL_law_307 rfl (lv_at hl 4 rfl) ?_
      refine lv_iload hx hb dL_law_308 (lv_at hl 0 rfl) ?_
      refine lv_iconst (v := 1) hx hb dL_law_310 (by decide) ?_
      refine lv_iadd hx hb dL_law_311 ?_
      refine lv_topi (fun x_47 ex_47 => ?_)
      obtain rfl : x_47 = nI 2 := by rw [ex_47]; decide
      refine va_sld hx hb hX hbl hbA hS (by rw [hL5]; exact vp_in_nI (n := 2) (by decide) (by decide)) dL_law_312 ?_
      refine lv_aload_n hx hb dL_law_313 rfl (lv_at hl 4 rfl) ?_
      refine lv_iload hx hb dL_law_314 (lv_at hl 0 rfl) ?_
      refine lv_iconst (v := 2) hx hb dL_law_316 (by decide) ?_
      refine lv_iadd hx hb dL_law_317 ?_
      refine lv_topi (fun x_48 ex_48 => ?_)
      obtain rfl : x_48 = nI 3 := by rw [ex_48]; decide
      refine va_sld hx hb hX hbl hbA hS (by rw [hL5]; exact vp_in_nI (n := 3) (by decide) (by decide)) dL_law_318 ?_
      refine lv_aload_n hx hb dL_law_319 rfl (lv_at hl 1 rfl) ?_
      refine mq_calli (wr := [(q_13, .inr (4, [.int 0, .int (nI (cl_n (c_0 L xs))), .ref (u_8 0), .ref (u_8 1), .ref (u_8 2), .ref (u_8 3), .int 0, .int 0, .int 0, .int 0, .int 0, .int 0, .int 0, .int 0, .ref (u_8 4), .int 0, .int 0, .ref (u_8 5), .ref (u_8 6), .ref (u_8 7), .ref (u_8 8)]))]) (fun (uu_49 : (Nat → Int64)) => [(q_13, .inr (4, [.int 0, .int (nI (cl_n (c_0 L xs))), .ref (u_8 0), .ref (u_8 1), .ref (u_8 2), .ref (u_8 3), .int 0, .int 0, .int 0, .int 0, .int 0, .int 0, .int 0, .int 0, .ref (u_8 4), .int 0, .int 0, .ref (u_8 5), .ref (u_8 6), .ref (u_8 7), .ref (u_8 8)])), (q_27, .inl (cJ, 1, .inr (.inl uu_49)))]) (mq_runSW (As := [.ref q_0, .int (xs (nI 2).toNatClampNeg), .int (xs (nI 3).toNatClampNeg), .ref q_27]) (rest := []) 4 ⟨hx, hb, hml, hown, hts⟩ (ct_L_at l dC dI cB cI cJ q_0 (u_4 0) (u_4 2) (u_4 4) (u_4 6) (u_4 8) (u_4 14) (u_4 9) (u_4 10) (u_4 11) (u_4 12) (u_4 13) q_27 (fun _ => 0) (xs (nI 2).toNatClampNeg) (xs (nI 3).toNatClampNeg) H.size) gL_law_L_at rfl rfl rfl (by decide +kernel) ⟨Nat.le_of_ble_eq_true rfl, Nat.le_of_ble_eq_true rfl⟩ ⟨mq_blind, mq_pre hK hN hP hD [0, 1, 3] rfl (by decide)⟩ rfl rfl hl.1 rfl (lv_room (Nat.le_of_ble_eq_true rfl)) dL_law_320 ⟨Nat.le_of_ble_eq_true rfl, Nat.le_of_ble_eq_true rfl⟩) hP hD hS hA [0, 1, 3] [2] [0, 1] rfl rfl (by decide) (by decide) (by decide) (fun _ => rfl) (fun r_50 u_51 H locs hw_320 hP hD hS => ?_)
      have hP : va_P (dC, dI) vwCl [(q_13, .inr (4, [.int 0, .int (nI (cl_n (c_0 L xs))), .ref (u_8 0), .ref (u_8 1), .ref (u_8 2), .ref (u_8 3), .int 0, .int 0, .int 0, .int 0, .int 0, .int 0, .int 0, .int 0, .ref (u_8 4), .int 0, .int 0, .ref (u_8 5), .ref (u_8 6), .ref (u_8 7), .ref (u_8 8)])), (q_27, .inl (cJ, 1, .inr (.inl u_51)))] H := hP
      have hD : va_D A [(q_13, .inr (4, [.int 0, .int (nI (cl_n (c_0 L xs))), .ref (u_8 0), .ref (u_8 1), .ref (u_8 2), .ref (u_8 3), .int 0, .int 0, .int 0, .int 0, .int 0, .int 0, .int 0, .int 0, .ref (u_8 4), .int 0, .int 0, .ref (u_8 5), .ref (u_8 6), .ref (u_8 7), .ref (u_8 8)])), (q_27, .inl (cJ, 1, .inr (.inl u_51)))] := hD
      refine lv_istore (lv' := [(5, .int r_50), (4, .int 1), (3, .ref q_27), (2, .ref q_13), (1, .ref q_0), (0, .ref b)]) hx hb dL_law_323 hl (by decide) rfl (fun ls hl => ?_)
      refine lv_aload_n hx hb dL_law_325 rfl (lv_at hl 3 rfl) ?_
      refine lv_aload_n hx hb dL_law_326 rfl (lv_at hl 5 rfl) ?_
      refine lv_iload hx hb dL_law_327 (lv_at hl 1 rfl) ?_
      refine lv_iconst (v := 1) hx hb dL_law_329 (by decide) ?_
      refine lv_iadd hx hb dL_law_330 ?_
      refine lv_topi (fun x_52 ex_52 => ?_)
      obtain rfl : x_52 = nI 2 := by rw [ex_52]; decide
      refine va_sld hx hb hX hbl hbA hS (by rw [hL5]; exact vp_in_nI (n := 2) (by decide) (by decide)) dL_law_331 ?_
      refine lv_aload_n hx hb dL_law_332 rfl (lv_at hl 5 rfl) ?_
      refine lv_iload hx hb dL_law_333 (lv_at hl 1 rfl) ?_
      refine lv_iconst (v := 2) hx hb dL_law_335 (by decide) ?_
      refine lv_iadd hx hb dL_law_336 ?_
      refine lv_topi (fun x_53 ex_53 => ?_)
      obtain rfl : x_53 = nI 3 := by rw [ex_53]; decide
      refine va_sld hx hb hX hbl hbA hS (by rw [hL5]; exact vp_in_nI (n := 3) (by decide) (by decide)) dL_law_337 ?_
      refine mq_calli (wr := [(q_27, .inl (cJ, 1, .inr (.inl u_51)))]) (fun (_u : Unit) => [(q_13, .inr (4, [.int 0, .int (nI (cl_n (c_0 L xs))), .ref (u_8 0), .ref (u_8 1), .ref (u_8 2), .ref (u_8 3), .int 0, .int 0, .int 0, .int 0, .int 0, .int 0, .int 0, .int 0, .ref (u_8 4), .int 0, .int 0, .ref (u_8 5), .ref (u_8 6), .ref (u_8 7), .ref (u_8 8)])), (q_27, .inl (cJ, 1, .inr (.inl u_51)))]) (va_runV (As := [.int (xs (nI 2).toNatClampNeg), .int (xs (nI 3).toNatClampNeg)]) (rest := []) ⟨hx, hb, hml, hown, hts⟩ (ct_X3_at l dC dI cB cI q_13 (u_8 0) (u_8 1) (u_8 2) (u_8 3) (u_8 4) (u_8 5) (u_8 6) (u_8 7) (u_8 8) (cl_n (c_0 L xs)) hc (xs (nI 2).toNatClampNeg) (xs (nI 3).toNatClampNeg) H.size) (cwV 2 hts gL_law_X3_at rfl rfl rfl (by decide +kernel) ⟨Nat.le_of_ble_eq_true rfl, Nat.le_of_ble_eq_true rfl⟩) ⟨mq_blind, va_recv hK hP (ci := 4) (q0 := 0) rfl rfl, mq_pre (hK.sub [0, 1] rfl) hN hP hD [0] rfl (by decide)⟩ rfl rfl hl.1 rfl (lv_room (Nat.le_of_ble_eq_true rfl)) dL_law_338 ⟨Nat.le_of_ble_eq_true rfl, Nat.le_of_ble_eq_true rfl⟩) hP hD hS hA [0] [1] [1, 0] rfl rfl (by decide) (by decide) (by decide) (fun _ => rfl) (fun r_54 _ H locs hw_338 hP hD hS => ?_)
      have hP : va_P (dC, dI) vwCl [(q_13, .inr (4, [.int 0, .int (nI (cl_n (c_0 L xs))), .ref (u_8 0), .ref (u_8 1), .ref (u_8 2), .ref (u_8 3), .int 0, .int 0, .int 0, .int 0, .int 0, .int 0, .int 0, .int 0, .ref (u_8 4), .int 0, .int 0, .ref (u_8 5), .ref (u_8 6), .ref (u_8 7), .ref (u_8 8)])), (q_27, .inl (cJ, 1, .inr (.inl u_51)))] H := hP
      have hD : va_D A [(q_13, .inr (4, [.int 0, .int (nI (cl_n (c_0 L xs))), .ref (u_8 0), .ref (u_8 1), .ref (u_8 2), .ref (u_8 3), .int 0, .int 0, .int 0, .int 0, .int 0, .int 0, .int 0, .int 0, .ref (u_8 4), .int 0, .int 0, .ref (u_8 5), .ref (u_8 6), .ref (u_8 7), .ref (u_8 8)])), (q_27, .inl (cJ, 1, .inr (.inl u_51)))] := hD
      refine lv_istore (lv' := [(6, .int r_54), (5, .int r_50), (4, .int 1), (3, .ref q_27), (2, .ref q_13), (1, .ref q_0), (0, .ref b)]) hx hb dL_law_341 hl (by decide) rfl (fun ls hl => ?_)
      refine lv_aload_n hx hb dL_law_343 rfl (lv_at hl 4 rfl) ?_
      refine mq_calli (wr := [(q_27, .inl (cJ, 1, .inr (.inl u_51)))]) (fun (_u : Unit) => [(q_27, .inl (cJ, 1, .inr (.inl u_51)))]) (va_runV (As := []) (rest := []) ⟨hx, hb, hml, hown, hts⟩ (ct_X3_thrown l dC dI cB cI q_13 (u_8 0) (u_8 1) (u_8 2) (u_8 3) (u_8 4) (u_8 5) (u_8 6) (u_8 7) (u_8 8) (cl_n (c_0 L xs)) hc H.size) (cwV 0 hts gL_law_X3_thrown rfl rfl rfl (by decide +kernel) ⟨Nat.le_of_ble_eq_true rfl, Nat.le_of_ble_eq_true rfl⟩) ⟨mq_blind, va_recv hK hP (ci := 4) (q0 := 0) rfl rfl, mq_pre (hK.sub [0, 1] rfl) hN hP hD [0] rfl (by decide)⟩ rfl rfl hl.1 rfl (lv_room (Nat.le_of_ble_eq_true rfl)) dL_law_344 ⟨Nat.le_of_ble_eq_true rfl, Nat.le_of_ble_eq_true rfl⟩) hP hD hS hA [0] [1] [0] rfl rfl (by decide) (by decide) (by decide) (fun _ => rfl) (fun r_55 _ H locs hw_344 hP hD hS => ?_)
      have hP : va_P (dC, dI) vwCl [(q_27, .inl (cJ, 1, .inr (.inl u_51)))] H := hP
      have hD : va_D A [(q_27, .inl (cJ, 1, .inr (.inl u_51)))] := hD
      refine lv_iload hx hb dL_law_347 (lv_at hl 1 rfl) ?_
      refine lv_icmp_eq (tgt := 354) hx hb dL_law_349 (by decide) (fun c_349 => ?_) (fun c_349 => ?_)
      · skip
        refine lv_iload hx hb dL_law_354 (lv_at hl 1 rfl) ?_
        refine lv_if_ne (tgt := 371) hx hb dL_law_356 (by decide) (fun c_356 => ?_) (fun c_356 => ?_)
        · exact absurd hw_320.1 c_356
        · skip
          refine lv_aload_n hx hb dL_law_359 rfl (lv_at hl 3 rfl) ?_
          refine lv_iconst (v := 0) hx hb dL_law_360 (by decide) ?_
          refine va_lald hx hb hK hP 0 2 rfl rfl (vp_in_nI (n := 0) (by decide) (by decide)) dL_law_361 ?_
          refine lv_iload hx hb dL_law_362 (lv_at hl 0 rfl) ?_
          refine lv_i2l hx hb dL_law_364 rfl ?_
          refine W.lcmp hx hb dL_law_365 ?_
          refine lv_topi (fun x_56 ex_56 => ?_)
          refine lv_if_eq (tgt := 371) hx hb dL_law_366 (by decide) (fun c_366 => ?_) (fun c_366 => ?_)
          · skip
            refine lv_goto (tgt := 562) hx hb dL_law_371 (by decide) ?_
            obtain ⟨x_57, ex_57⟩ : ∃ y : Int32, y = 1 + 4 := ⟨_, rfl⟩
            refine lv_iinc (v := x_57) (lv' := [(4, .int x_57), (6, .int r_54), (5, .int r_50), (3, .ref q_27), (2, .ref q_13), (1, .ref q_0), (0, .ref b)]) hx hb dL_law_562 hl (k := 2) rfl (by rw [ex_57]; rfl) (by decide) rfl (fun ls hl => ?_)
            obtain rfl : x_57 = 5 := by rw [ex_57]; decide
            refine lv_goto (tgt := 33) hx hb dL_law_565 (by decide) ?_
            refine lv_iload hx hb dL_law_33 (lv_at hl 0 rfl) ?_
            refine lv_aload_n hx hb dL_law_35 rfl (lv_at hl 6 rfl) ?_
            refine va_slen hx hb hX hbl hbA hS dL_law_36 ?_
            refine lv_iconst (v := 4) hx hb dL_law_37 (by decide) ?_
            refine lv_isub hx hb dL_law_38 ?_
            refine lv_icmp_gt (tgt := 568) hx hb dL_law_39 (by decide) (fun c_39 => ?_) (fun c_39 => ?_)
            · skip
              refine lv_iconst (v := 1) hx hb dL_law_568 (by decide) ?_
              refine va_forget (fun q hq => hA2 _ (hS.2.2 q hq)) ?_
              refine W.widen (k := 600002) (n := 7302198) (by omega) (by omega) ?_
              exact lw_ret hx hb hr hlocks dL_law_569
            · exact absurd (by show nI L - 4 < 5; rw [hL5]; decide) c_39
          · exact absurd (by rw [ex_56, show (u_51 : Nat → Int64) (0 : Int32).toNatClampNeg = -1 from hw_320.2, hw_338]; decide) c_366
      · exact absurd (hw_344.trans hw_320.1.symm) c_349
    by_cases hk_9 : x_10 = 9
    · refine lv_tableIn (off := 325) (tgt := 374) hx hb dL_law_49 (by rw [hk_9]; decide) (by rw [hk_9]; decide) (by rw [hk_9]; rfl) (by decide) ?_
      have hP := hP.sub (ws' := [(q_0, .inr (3, [.ref (u_4 0), .ref (u_4 2), .ref (u_4 4), .ref (u_4 6), .int 0, .ref (u_4 8), .ref (u_4 14), .int 0, .int 0, .int 0, .int 1, .int 0, .int 0, .int 0, .int 0, .int 0])), (u_4 0, .inr (2, [.int (nI (cl_n (c_0 L xs))), .ref (u_4 1)])), (u_4 1, .inl (cB, (cl_n (c_0 L xs) * 64), .inl (fun _ => 0))), (q_13, .inr (4, [.int 0, .int (nI (cl_n (c_0 L xs))), .ref (u_8 0), .ref (u_8 1), .ref (u_8 2), .ref (u_8 3), .int 0, .int 0, .int 0, .int 0, .int 0, .int 0, .int 0, .int 0, .ref (u_8 4), .int 0, .int 0, .ref (u_8 5), .ref (u_8 6), .ref (u_8 7), .ref (u_8 8)])), (u_8 0, .inl (cB, 2560, .inl (fun _ => 0)))]) [0, 1, 2, 16, 17] rfl
      have hD := hD.sub (ws' := [(q_0, .inr (3, [.ref (u_4 0), .ref (u_4 2), .ref (u_4 4), .ref (u_4 6), .int 0, .ref (u_4 8), .ref (u_4 14), .int 0, .int 0, .int 0, .int 1, .int 0, .int 0, .int 0, .int 0, .int 0])), (u_4 0, .inr (2, [.int (nI (cl_n (c_0 L xs))), .ref (u_4 1)])), (u_4 1, .inl (cB, (cl_n (c_0 L xs) * 64), .inl (fun _ => 0))), (q_13, .inr (4, [.int 0, .int (nI (cl_n (c_0 L xs))), .ref (u_8 0), .ref (u_8 1), .ref (u_8 2), .ref (u_8 3), .int 0, .int 0, .int 0, .int 0, .int 0, .int 0, .int 0, .int 0, .ref (u_8 4), .int 0, .int 0, .ref (u_8 5), .ref (u_8 6), .ref (u_8 7), .ref (u_8 8)])), (u_8 0, .inl (cB, 2560, .inl (fun _ => 0)))]) [0, 1, 2, 16, 17] (by decide) rfl
      refine lv_aload_n hx hb dL_law_374 rfl (lv_at hl 3 rfl) ?_
      refine lv_aload_n hx hb dL_law_375 rfl (lv_at hl 4 rfl) ?_
      refine lv_iload hx hb dL_law_376 (lv_at hl 0 rfl) ?_
      refine lv_iconst (v := 1) hx hb dL_law_378 (by decide) ?_
      refine lv_iadd hx hb dL_law_379 ?_
      refine lv_topi (fun x_58 ex_58 => ?_)
      obtain rfl : x_58 = nI 2 := by rw [ex_58]; decide
      refine va_sld hx hb hX hbl hbA hS (by rw [hL5]; exact vp_in_nI (n := 2) (by decide) (by decide)) dL_law_380 ?_
      refine lv_aload_n hx hb dL_law_381 rfl (lv_at hl 4 rfl) ?_
      refine lv_iload hx hb dL_law_382 (lv_at hl 0 rfl) ?_
      refine lv_iconst (v := 2) hx hb dL_law_384 (by decide) ?_
      refine lv_iadd hx hb dL_law_385 ?_
      refine lv_topi (fun x_59 ex_59 => ?_)
      obtain rfl : x_59 = nI 3 := by rw [ex_59]; decide
      refine va_sld hx hb hX hbl hbA hS (by rw [hL5]; exact vp_in_nI (n := 3) (by decide) (by decide)) dL_law_386 ?_
      refine lv_aload_n hx hb dL_law_387 rfl (lv_at hl 4 rfl) ?_
      refine lv_iload hx hb dL_law_388 (lv_at hl 0 rfl) ?_
      refine lv_iconst (v := 3) hx hb dL_law_390 (by decide) ?_
      refine lv_iadd hx hb dL_law_391 ?_
      refine lv_topi (fun x_60 ex_60 => ?_)
      obtain rfl : x_60 = nI 4 := by rw [ex_60]; decide
      refine va_sld hx hb hX hbl hbA hS (by rw [hL5]; exact vp_in_nI (n := 4) (by decide) (by decide)) dL_law_392 ?_
      refine mq_calli (wr := [(q_13, .inr (4, [.int 0, .int (nI (cl_n (c_0 L xs))), .ref (u_8 0), .ref (u_8 1), .ref (u_8 2), .ref (u_8 3), .int 0, .int 0, .int 0, .int 0, .int 0, .int 0, .int 0, .int 0, .ref (u_8 4), .int 0, .int 0, .ref (u_8 5), .ref (u_8 6), .ref (u_8 7), .ref (u_8 8)])), (u_8 0, .inl (cB, 2560, .inl (fun _ => 0)))]) (fun (_u : Unit) => [(q_13, .inr (4, [.int 0, .int (nI (cl_n (c_0 L xs))), .ref (u_8 0), .ref (u_8 1), .ref (u_8 2), .ref (u_8 3), .int 0, .int 0, .int 0, .int 0, .int 0, .int 0, .int 0, .int 0, .ref (u_8 4), .int 0, .int 0, .ref (u_8 5), .ref (u_8 6), .ref (u_8 7), .ref (u_8 8)])), (u_8 0, .inl (cB, 2560, .inl (fun _ => 0)))]) (va_runV (As := [.int (xs (nI 2).toNatClampNeg), .int (xs (nI 3).toNatClampNeg), .int (xs (nI 4).toNatClampNeg)]) (rest := []) ⟨hx, hb, hml, hown, hts⟩ (ct_X2_poke l dC dI cB cI q_0 (u_4 0) (u_4 2) (u_4 4) (u_4 6) (u_4 8) (u_4 14) (u_4 1) (cl_n (c_0 L xs)) hc (xs (nI 2).toNatClampNeg) (xs (nI 3).toNatClampNeg) (xs (nI 4).toNatClampNeg) H.size) (cwV 3 hts gL_law_X2_poke rfl rfl rfl (by decide +kernel) ⟨Nat.le_of_ble_eq_true rfl, Nat.le_of_ble_eq_true rfl⟩) ⟨mq_blind, va_recv hK hP (ci := 3) (q0 := 0) rfl rfl, mq_pre (hK.sub [0, 1] rfl) hN hP hD [0, 1, 2] rfl (by decide)⟩ rfl rfl hl.1 rfl (lv_room (Nat.le_of_ble_eq_true rfl)) dL_law_393 ⟨Nat.le_of_ble_eq_true rfl, Nat.le_of_ble_eq_true rfl⟩) hP hD hS hA [0, 1, 2] [3, 4] [0, 1] rfl rfl (by decide) (by decide) (by decide) (fun _ => rfl) (fun r_61 _ H locs hw_393 hP hD hS => ?_)
      have hP : va_P (dC, dI) vwCl [(q_13, .inr (4, [.int 0, .int (nI (cl_n (c_0 L xs))), .ref (u_8 0), .ref (u_8 1), .ref (u_8 2), .ref (u_8 3), .int 0, .int 0, .int 0, .int 0, .int 0, .int 0, .int 0, .int 0, .ref (u_8 4), .int 0, .int 0, .ref (u_8 5), .ref (u_8 6), .ref (u_8 7), .ref (u_8 8)])), (u_8 0, .inl (cB, 2560, .inl (fun _ => 0)))] H := hP
      have hD : va_D A [(q_13, .inr (4, [.int 0, .int (nI (cl_n (c_0 L xs))), .ref (u_8 0), .ref (u_8 1), .ref (u_8 2), .ref (u_8 3), .int 0, .int 0, .int 0, .int 0, .int 0, .int 0, .int 0, .int 0, .ref (u_8 4), .int 0, .int 0, .ref (u_8 5), .ref (u_8 6), .ref (u_8 7), .ref (u_8 8)])), (u_8 0, .inl (cB, 2560, .inl (fun _ => 0)))] := hD
      refine lv_aload_n hx hb dL_law_396 rfl (lv_at hl 2 rfl) ?_
      refine lv_aload_n hx hb dL_law_397 rfl (lv_at hl 4 rfl) ?_
      refine lv_iload hx hb dL_law_398 (lv_at hl 0 rfl) ?_
      refine lv_iconst (v := 1) hx hb dL_law_400 (by decide) ?_
      refine lv_iadd hx hb dL_law_401 ?_
      refine lv_topi (fun x_62 ex_62 => ?_)
      obtain rfl : x_62 = nI 2 := by rw [ex_62]; decide
      refine va_sld hx hb hX hbl hbA hS (by rw [hL5]; exact vp_in_nI (n := 2) (by decide) (by decide)) dL_law_402 ?_
      refine lv_aload_n hx hb dL_law_403 rfl (lv_at hl 4 rfl) ?_
      refine lv_iload hx hb dL_law_404 (lv_at hl 0 rfl) ?_
      refine lv_iconst (v := 2) hx hb dL_law_406 (by decide) ?_
      refine lv_iadd hx hb dL_law_407 ?_
      refine lv_topi (fun x_63 ex_63 => ?_)
      obtain rfl : x_63 = nI 3 := by rw [ex_63]; decide
      refine va_sld hx hb hX hbl hbA hS (by rw [hL5]; exact vp_in_nI (n := 3) (by decide) (by decide)) dL_law_408 ?_
      refine lv_aload_n hx hb dL_law_409 rfl (lv_at hl 4 rfl) ?_
      refine lv_iload hx hb dL_law_410 (lv_at hl 0 rfl) ?_
      refine lv_iconst (v := 3) hx hb dL_law_412 (by decide) ?_
      refine lv_iadd hx hb dL_law_413 ?_
      refine lv_topi (fun x_64 ex_64 => ?_)
      obtain rfl : x_64 = nI 4 := by rw [ex_64]; decide
      refine va_sld hx hb hX hbl hbA hS (by rw [hL5]; exact vp_in_nI (n := 4) (by decide) (by decide)) dL_law_414 ?_
      refine mq_calli (wr := []) (fun (_u : Unit) => []) (va_runV (As := [.int (xs (nI 2).toNatClampNeg), .int (xs (nI 3).toNatClampNeg), .int (xs (nI 4).toNatClampNeg)]) (rest := [.int r_61]) ⟨hx, hb, hml, hown, hts⟩ (ct_X3_poke l dC dI cB cI q_13 (u_8 0) (u_8 1) (u_8 2) (u_8 3) (u_8 4) (u_8 5) (u_8 6) (u_8 7) (u_8 8) (cl_n (c_0 L xs)) hc (xs (nI 2).toNatClampNeg) (xs (nI 3).toNatClampNeg) (xs (nI 4).toNatClampNeg) H.size) (cwV 3 hts gL_law_X3_poke rfl rfl rfl (by decide +kernel) ⟨Nat.le_of_ble_eq_true rfl, Nat.le_of_ble_eq_true rfl⟩) ⟨mq_blind, va_recv hK hP (ci := 4) (q0 := 0) rfl rfl, mq_pre (hK.sub [0, 1] rfl) hN hP hD [0, 1] rfl (by decide)⟩ rfl rfl hl.1 rfl (lv_room (Nat.le_of_ble_eq_true rfl)) dL_law_415 ⟨Nat.le_of_ble_eq_true rfl, Nat.le_of_ble_eq_true rfl⟩) hP hD hS hA [0, 1] [] [] rfl rfl (by decide) (by decide) (by decide) (fun _ => rfl) (fun r_65 _ H locs hw_415 hP hD hS => ?_)
      have hP : va_P (dC, dI) vwCl [] H := hP
      have hD : va_D A [] := hD
      refine lv_icmp_eq (tgt := 562) hx hb dL_law_418 (by decide) (fun c_418 => ?_) (fun c_418 => ?_)
      · skip
        obtain ⟨x_66, ex_66⟩ : ∃ y : Int32, y = 1 + 4 := ⟨_, rfl⟩
        refine lv_iinc (v := x_66) (lv' := [(4, .int x_66), (3, .ref q_27), (2, .ref q_13), (1, .ref q_0), (0, .ref b)]) hx hb dL_law_562 hl (k := 0) rfl (by rw [ex_66]; rfl) (by decide) rfl (fun ls hl => ?_)
        obtain rfl : x_66 = 5 := by rw [ex_66]; decide
        refine lv_goto (tgt := 33) hx hb dL_law_565 (by decide) ?_
        refine lv_iload hx hb dL_law_33 (lv_at hl 0 rfl) ?_
        refine lv_aload_n hx hb dL_law_35 rfl (lv_at hl 4 rfl) ?_
        refine va_slen hx hb hX hbl hbA hS dL_law_36 ?_
        refine lv_iconst (v := 4) hx hb dL_law_37 (by decide) ?_
        refine lv_isub hx hb dL_law_38 ?_
        refine lv_icmp_gt (tgt := 568) hx hb dL_law_39 (by decide) (fun c_39 => ?_) (fun c_39 => ?_)
        · skip
          refine lv_iconst (v := 1) hx hb dL_law_568 (by decide) ?_
          refine va_forget (fun q hq => hA2 _ (hS.2.2 q hq)) ?_
          refine W.widen (k := 600002) (n := 7302198) (by omega) (by omega) ?_
          exact lw_ret hx hb hr hlocks dL_law_569
        · exact absurd (by show nI L - 4 < 5; rw [hL5]; decide) c_39
      · exact absurd (pp_eq hw_393 hw_415) c_418
    by_cases hk_10 : x_10 = 10
    · refine lv_tableIn (off := 374) (tgt := 423) hx hb dL_law_49 (by rw [hk_10]; decide) (by rw [hk_10]; decide) (by rw [hk_10]; rfl) (by decide) ?_
      have hP := hP.sub (ws' := [(q_0, .inr (3, [.ref (u_4 0), .ref (u_4 2), .ref (u_4 4), .ref (u_4 6), .int 0, .ref (u_4 8), .ref (u_4 14), .int 0, .int 0, .int 0, .int 1, .int 0, .int 0, .int 0, .int 0, .int 0])), (u_4 0, .inr (2, [.int (nI (cl_n (c_0 L xs))), .ref (u_4 1)])), (u_4 1, .inl (cB, (cl_n (c_0 L xs) * 64), .inl (fun _ => 0))), (q_13, .inr (4, [.int 0, .int (nI (cl_n (c_0 L xs))), .ref (u_8 0), .ref (u_8 1), .ref (u_8 2), .ref (u_8 3), .int 0, .int 0, .int 0, .int 0, .int 0, .int 0, .int 0, .int 0, .ref (u_8 4), .int 0, .int 0, .ref (u_8 5), .ref (u_8 6), .ref (u_8 7), .ref (u_8 8)])), (u_8 0, .inl (cB, 2560, .inl (fun _ => 0)))]) [0, 1, 2, 16, 17] rfl
      have hD := hD.sub (ws' := [(q_0, .inr (3, [.ref (u_4 0), .ref (u_4 2), .ref (u_4 4), .ref (u_4 6), .int 0, .ref (u_4 8), .ref (u_4 14), .int 0, .int 0, .int 0, .int 1, .int 0, .int 0, .int 0, .int 0, .int 0])), (u_4 0, .inr (2, [.int (nI (cl_n (c_0 L xs))), .ref (u_4 1)])), (u_4 1, .inl (cB, (cl_n (c_0 L xs) * 64), .inl (fun _ => 0))), (q_13, .inr (4, [.int 0, .int (nI (cl_n (c_0 L xs))), .ref (u_8 0), .ref (u_8 1), .ref (u_8 2), .ref (u_8 3), .int 0, .int 0, .int 0, .int 0, .int 0, .int 0, .int 0, .int 0, .ref (u_8 4), .int 0, .int 0, .ref (u_8 5), .ref (u_8 6), .ref (u_8 7), .ref (u_8 8)])), (u_8 0, .inl (cB, 2560, .inl (fun _ => 0)))]) [0, 1, 2, 16, 17] (by decide) rfl
      refine lv_aload_n hx hb dL_law_423 rfl (lv_at hl 3 rfl) ?_
      refine lv_aload_n hx hb dL_law_424 rfl (lv_at hl 4 rfl) ?_
      refine lv_iload hx hb dL_law_425 (lv_at hl 0 rfl) ?_
      refine lv_iconst (v := 1) hx hb dL_law_427 (by decide) ?_
      refine lv_iadd hx hb dL_law_428 ?_
      refine lv_topi (fun x_67 ex_67 => ?_)
      obtain rfl : x_67 = nI 2 := by rw [ex_67]; decide
      refine va_sld hx hb hX hbl hbA hS (by rw [hL5]; exact vp_in_nI (n := 2) (by decide) (by decide)) dL_law_429 ?_
      refine lv_aload_n hx hb dL_law_430 rfl (lv_at hl 4 rfl) ?_
      refine lv_iload hx hb dL_law_431 (lv_at hl 0 rfl) ?_
      refine lv_iconst (v := 2) hx hb dL_law_433 (by decide) ?_
      refine lv_iadd hx hb dL_law_434 ?_
      refine lv_topi (fun x_68 ex_68 => ?_)
      obtain rfl : x_68 = nI 3 := by rw [ex_68]; decide
      refine va_sld hx hb hX hbl hbA hS (by rw [hL5]; exact vp_in_nI (n := 3) (by decide) (by decide)) dL_law_435 ?_
      refine mq_calli (wr := [(q_13, .inr (4, [.int 0, .int (nI (cl_n (c_0 L xs))), .ref (u_8 0), .ref (u_8 1), .ref (u_8 2), .ref (u_8 3), .int 0, .int 0, .int 0, .int 0, .int 0, .int 0, .int 0, .int 0, .ref (u_8 4), .int 0, .int 0, .ref (u_8 5), .ref (u_8 6), .ref (u_8 7), .ref (u_8 8)])), (u_8 0, .inl (cB, 2560, .inl (fun _ => 0)))]) (fun (_u : Unit) => [(q_13, .inr (4, [.int 0, .int (nI (cl_n (c_0 L xs))), .ref (u_8 0), .ref (u_8 1), .ref (u_8 2), .ref (u_8 3), .int 0, .int 0, .int 0, .int 0, .int 0, .int 0, .int 0, .int 0, .ref (u_8 4), .int 0, .int 0, .ref (u_8 5), .ref (u_8 6), .ref (u_8 7), .ref (u_8 8)])), (u_8 0, .inl (cB, 2560, .inl (fun _ => 0)))]) (va_runV (As := [.int (xs (nI 2).toNatClampNeg), .int (xs (nI 3).toNatClampNeg)]) (rest := []) ⟨hx, hb, hml, hown, hts⟩ (ct_X2_peek l dC dI cB cI q_0 (u_4 0) (u_4 2) (u_4 4) (u_4 6) (u_4 8) (u_4 14) (u_4 1) (cl_n (c_0 L xs)) hc (xs (nI 2).toNatClampNeg) (xs (nI 3).toNatClampNeg) H.size) (cwV 2 hts gL_law_X2_peek rfl rfl rfl (by decide +kernel) ⟨Nat.le_of_ble_eq_true rfl, Nat.le_of_ble_eq_true rfl⟩) ⟨mq_blind, va_recv hK hP (ci := 3) (q0 := 0) rfl rfl, mq_pre (hK.sub [0, 1] rfl) hN hP hD [0, 1, 2] rfl (by decide)⟩ rfl rfl hl.1 rfl (lv_room (Nat.le_of_ble_eq_true rfl)) dL_law_436 ⟨Nat.le_of_ble_eq_true rfl, Nat.le_of_ble_eq_true rfl⟩) hP hD hS hA [0, 1, 2] [3, 4] [0, 1] rfl rfl (by decide) (by decide) (by decide) (fun _ => rfl) (fun r_69 _ H locs hw_436 hP hD hS => ?_)
      have hP : va_P (dC, dI) vwCl [(q_13, .inr (4, [.int 0, .int (nI (cl_n (c_0 L xs))), .ref (u_8 0), .ref (u_8 1), .ref (u_8 2), .ref (u_8 3), .int 0, .int 0, .int 0, .int 0, .int 0, .int 0, .int 0, .int 0, .ref (u_8 4), .int 0, .int 0, .ref (u_8 5), .ref (u_8 6), .ref (u_8 7), .ref (u_8 8)])), (u_8 0, .inl (cB, 2560, .inl (fun _ => 0)))] H := hP
      have hD : va_D A [(q_13, .inr (4, [.int 0, .int (nI (cl_n (c_0 L xs))), .ref (u_8 0), .ref (u_8 1), .ref (u_8 2), .ref (u_8 3), .int 0, .int 0, .int 0, .int 0, .int 0, .int 0, .int 0, .int 0, .ref (u_8 4), .int 0, .int 0, .ref (u_8 5), .ref (u_8 6), .ref (u_8 7), .ref (u_8 8)])), (u_8 0, .inl (cB, 2560, .inl (fun _ => 0)))] := hD
      refine lv_aload_n hx hb dL_law_439 rfl (lv_at hl 2 rfl) ?_
      refine lv_aload_n hx hb dL_law_440 rfl (lv_at hl 4 rfl) ?_
      refine lv_iload hx hb dL_law_441 (lv_at hl 0 rfl) ?_
      refine lv_iconst (v := 1) hx hb dL_law_443 (by decide) ?_
      refine lv_iadd hx hb dL_law_444 ?_
      refine lv_topi (fun x_70 ex_70 => ?_)
      obtain rfl : x_70 = nI 2 := by rw [ex_70]; decide
      refine va_sld hx hb hX hbl hbA hS (by rw [hL5]; exact vp_in_nI (n := 2) (by decide) (by decide)) dL_law_445 ?_
      refine lv_aload_n hx hb dL_law_446 rfl (lv_at hl 4 rfl) ?_
      refine lv_iload hx hb dL_law_447 (lv_at hl 0 rfl) ?_
      refine lv_iconst (v := 2) hx hb dL_law_449 (by decide) ?_
      refine lv_iadd hx hb dL_law_450 ?_
      refine lv_topi (fun x_71 ex_71 => ?_)
      obtain rfl : x_71 = nI 3 := by rw [ex_71]; decide
      refine va_sld hx hb hX hbl hbA hS (by rw [hL5]; exact vp_in_nI (n := 3) (by decide) (by decide)) dL_law_451 ?_
      refine mq_calli (wr := []) (fun (_u : Unit) => []) (va_runV (As := [.int (xs (nI 2).toNatClampNeg), .int (xs (nI 3).toNatClampNeg)]) (rest := [.int r_69]) ⟨hx, hb, hml, hown, hts⟩ (ct_X3_peek l dC dI cB cI q_13 (u_8 0) (u_8 1) (u_8 2) (u_8 3) (u_8 4) (u_8 5) (u_8 6) (u_8 7) (u_8 8) (cl_n (c_0 L xs)) hc (xs (nI 2).toNatClampNeg) (xs (nI 3).toNatClampNeg) H.size) (cwV 2 hts gL_law_X3_peek rfl rfl rfl (by decide +kernel) ⟨Nat.le_of_ble_eq_true rfl, Nat.le_of_ble_eq_true rfl⟩) ⟨mq_blind, va_recv hK hP (ci := 4) (q0 := 0) rfl rfl, mq_pre (hK.sub [0, 1] rfl) hN hP hD [0, 1] rfl (by decide)⟩ rfl rfl hl.1 rfl (lv_room (Nat.le_of_ble_eq_true rfl)) dL_law_452 ⟨Nat.le_of_ble_eq_true rfl, Nat.le_of_ble_eq_true rfl⟩) hP hD hS hA [0, 1] [] [] rfl rfl (by decide) (by decide) (by decide) (fun _ => rfl) (fun r_72 _ H locs hw_452 hP hD hS => ?_)
      have hP : va_P (dC, dI) vwCl [] H := hP
      have hD : va_D A [] := hD
      refine lv_icmp_eq (tgt := 562) hx hb dL_law_455 (by decide) (fun c_455 => ?_) (fun c_455 => ?_)
      · skip
        obtain ⟨x_73, ex_73⟩ : ∃ y : Int32, y = 1 + 4 := ⟨_, rfl⟩
        refine lv_iinc (v := x_73) (lv' := [(4, .int x_73), (3, .ref q_27), (2, .ref q_13), (1, .ref q_0), (0, .ref b)]) hx hb dL_law_562 hl (k := 0) rfl (by rw [ex_73]; rfl) (by decide) rfl (fun ls hl => ?_)
        obtain rfl : x_73 = 5 := by rw [ex_73]; decide
        refine lv_goto (tgt := 33) hx hb dL_law_565 (by decide) ?_
        refine lv_iload hx hb dL_law_33 (lv_at hl 0 rfl) ?_
        refine lv_aload_n hx hb dL_law_35 rfl (lv_at hl 4 rfl) ?_
        refine va_slen hx hb hX hbl hbA hS dL_law_36 ?_
        refine lv_iconst (v := 4) hx hb dL_law_37 (by decide) ?_
        refine lv_isub hx hb dL_law_38 ?_
        refine lv_icmp_gt (tgt := 568) hx hb dL_law_39 (by decide) (fun c_39 => ?_) (fun c_39 => ?_)
        · skip
          refine lv_iconst (v := 1) hx hb dL_law_568 (by decide) ?_
          refine va_forget (fun q hq => hA2 _ (hS.2.2 q hq)) ?_
          refine W.widen (k := 600002) (n := 7302198) (by omega) (by omega) ?_
          exact lw_ret hx hb hr hlocks dL_law_569
        · exact absurd (by show nI L - 4 < 5; rw [hL5]; decide) c_39
      · exact absurd (pp_eq hw_436 hw_452) c_455
    by_cases hk_11 : x_10 = 11
    · refine lv_tableIn (off := 411) (tgt := 460) hx hb dL_law_49 (by rw [hk_11]; decide) (by rw [hk_11]; decide) (by rw [hk_11]; rfl) (by decide) ?_
      have hP := hP.sub (ws' := [(q_0, .inr (3, [.ref (u_4 0), .ref (u_4 2), .ref (u_4 4), .ref (u_4 6), .int 0, .ref (u_4 8), .ref (u_4 14), .int 0, .int 0, .int 0, .int 1, .int 0, .int 0, .int 0, .int 0, .int 0])), (u_4 0, .inr (2, [.int (nI (cl_n (c_0 L xs))), .ref (u_4 1)])), (u_4 1, .inl (cB, (cl_n (c_0 L xs) * 64), .inl (fun _ => 0))), (q_13, .inr (4, [.int 0, .int (nI (cl_n (c_0 L xs))), .ref (u_8 0), .ref (u_8 1), .ref (u_8 2), .ref (u_8 3), .int 0, .int 0, .int 0, .int 0, .int 0, .int 0, .int 0, .int 0, .ref (u_8 4), .int 0, .int 0, .ref (u_8 5), .ref (u_8 6), .ref (u_8 7), .ref (u_8 8)])), (u_8 0, .inl (cB, 2560, .inl (fun _ => 0)))]) [0, 1, 2, 16, 17] rfl
      have hD := hD.sub (ws' := [(q_0, .inr (3, [.ref (u_4 0), .ref (u_4 2), .ref (u_4 4), .ref (u_4 6), .int 0, .ref (u_4 8), .ref (u_4 14), .int 0, .int 0, .int 0, .int 1, .int 0, .int 0, .int 0, .int 0, .int 0])), (u_4 0, .inr (2, [.int (nI (cl_n (c_0 L xs))), .ref (u_4 1)])), (u_4 1, .inl (cB, (cl_n (c_0 L xs) * 64), .inl (fun _ => 0))), (q_13, .inr (4, [.int 0, .int (nI (cl_n (c_0 L xs))), .ref (u_8 0), .ref (u_8 1), .ref (u_8 2), .ref (u_8 3), .int 0, .int 0, .int 0, .int 0, .int 0, .int 0, .int 0, .int 0, .ref (u_8 4), .int 0, .int 0, .ref (u_8 5), .ref (u_8 6), .ref (u_8 7), .ref (u_8 8)])), (u_8 0, .inl (cB, 2560, .inl (fun _ => 0)))]) [0, 1, 2, 16, 17] (by decide) rfl
      refine lv_aload_n hx hb dL_law_460 rfl (lv_at hl 3 rfl) ?_
      refine lv_aload_n hx hb dL_law_461 rfl (lv_at hl 4 rfl) ?_
      refine lv_iload hx hb dL_law_462 (lv_at hl 0 rfl) ?_
      refine lv_iconst (v := 1) hx hb dL_law_464 (by decide) ?_
      refine lv_iadd hx hb dL_law_465 ?_
      refine lv_topi (fun x_74 ex_74 => ?_)
      obtain rfl : x_74 = nI 2 := by rw [ex_74]; decide
      refine va_sld hx hb hX hbl hbA hS (by rw [hL5]; exact vp_in_nI (n := 2) (by decide) (by decide)) dL_law_466 ?_
      refine mq_calli (wr := [(q_13, .inr (4, [.int 0, .int (nI (cl_n (c_0 L xs))), .ref (u_8 0), .ref (u_8 1), .ref (u_8 2), .ref (u_8 3), .int 0, .int 0, .int 0, .int 0, .int 0, .int 0, .int 0, .int 0, .ref (u_8 4), .int 0, .int 0, .ref (u_8 5), .ref (u_8 6), .ref (u_8 7), .ref (u_8 8)])), (u_8 0, .inl (cB, 2560, .inl (fun _ => 0)))]) (fun (_u : Unit) => [(q_13, .inr (4, [.int 0, .int (nI (cl_n (c_0 L xs))), .ref (u_8 0), .ref (u_8 1), .ref (u_8 2), .ref (u_8 3), .int 0, .int 0, .int 0, .int 0, .int 0, .int 0, .int 0, .int 0, .ref (u_8 4), .int 0, .int 0, .ref (u_8 5), .ref (u_8 6), .ref (u_8 7), .ref (u_8 8)])), (u_8 0, .inl (cB, 2560, .inl (fun _ => 0)))]) (va_runV (As := [.int (xs (nI 2).toNatClampNeg)]) (rest := []) ⟨hx, hb, hml, hown, hts⟩ (ct_X2_wrong l dC dI cB cI q_0 (u_4 0) (u_4 2) (u_4 4) (u_4 6) (u_4 8) (u_4 14) (u_4 1) (cl_n (c_0 L xs)) hc (xs (nI 2).toNatClampNeg) H.size) (cwV 1 hts gL_law_X2_wrong rfl rfl rfl (by decide +kernel) ⟨Nat.le_of_ble_eq_true rfl, Nat.le_of_ble_eq_true rfl⟩) ⟨mq_blind, va_recv hK hP (ci := 3) (q0 := 0) rfl rfl, mq_pre (hK.sub [0, 1] rfl) hN hP hD [0, 1, 2] rfl (by decide)⟩ rfl rfl hl.1 rfl (lv_room (Nat.le_of_ble_eq_true rfl)) dL_law_467 ⟨Nat.le_of_ble_eq_true rfl, Nat.le_of_ble_eq_true rfl⟩) hP hD hS hA [0, 1, 2] [3, 4] [0, 1] rfl rfl (by decide) (by decide) (by decide) (fun _ => rfl) (fun r_75 _ H locs hw_467 hP hD hS => ?_)
      have hP : va_P (dC, dI) vwCl [(q_13, .inr (4, [.int 0, .int (nI (cl_n (c_0 L xs))), .ref (u_8 0), .ref (u_8 1), .ref (u_8 2), .ref (u_8 3), .int 0, .int 0, .int 0, .int 0, .int 0, .int 0, .int 0, .int 0, .ref (u_8 4), .int 0, .int 0, .ref (u_8 5), .ref (u_8 6), .ref (u_8 7), .ref (u_8 8)])), (u_8 0, .inl (cB, 2560, .inl (fun _ => 0)))] H := hP
      have hD : va_D A [(q_13, .inr (4, [.int 0, .int (nI (cl_n (c_0 L xs))), .ref (u_8 0), .ref (u_8 1), .ref (u_8 2), .ref (u_8 3), .int 0, .int 0, .int 0, .int 0, .int 0, .int 0, .int 0, .int 0, .ref (u_8 4), .int 0, .int 0, .ref (u_8 5), .ref (u_8 6), .ref (u_8 7), .ref (u_8 8)])), (u_8 0, .inl (cB, 2560, .inl (fun _ => 0)))] := hD
      refine lv_aload_n hx hb dL_law_470 rfl (lv_at hl 2 rfl) ?_
      refine lv_aload_n hx hb dL_law_471 rfl (lv_at hl 4 rfl) ?_
      refine lv_iload hx hb dL_law_472 (lv_at hl 0 rfl) ?_
      refine lv_iconst (v := 1) hx hb dL_law_474 (by decide) ?_
      refine lv_iadd hx hb dL_law_475 ?_
      refine lv_topi (fun x_76 ex_76 => ?_)
      obtain rfl : x_76 = nI 2 := by rw [ex_76]; decide
      refine va_sld hx hb hX hbl hbA hS (by rw [hL5]; exact vp_in_nI (n := 2) (by decide) (by decide)) dL_law_476 ?_
      refine mq_calli (wr := []) (fun (_u : Unit) => []) (va_runV (As := [.int (xs (nI 2).toNatClampNeg)]) (rest := [.int r_75]) ⟨hx, hb, hml, hown, hts⟩ (ct_X3_wrong l dC dI cB cI q_13 (u_8 0) (u_8 1) (u_8 2) (u_8 3) (u_8 4) (u_8 5) (u_8 6) (u_8 7) (u_8 8) (cl_n (c_0 L xs)) hc (xs (nI 2).toNatClampNeg) H.size) (cwV 1 hts gL_law_X3_wrong rfl rfl rfl (by decide +kernel) ⟨Nat.le_of_ble_eq_true rfl, Nat.le_of_ble_eq_true rfl⟩) ⟨mq_blind, va_recv hK hP (ci := 4) (q0 := 0) rfl rfl, mq_pre (hK.sub [0, 1] rfl) hN hP hD [0, 1] rfl (by decide)⟩ rfl rfl hl.1 rfl (lv_room (Nat.le_of_ble_eq_true rfl)) dL_law_477 ⟨Nat.le_of_ble_eq_true rfl, Nat.le_of_ble_eq_true rfl⟩) hP hD hS hA [0, 1] [] [] rfl rfl (by decide) (by decide) (by decide) (fun _ => rfl) (fun r_77 _ H locs hw_477 hP hD hS => ?_)
      have hP : va_P (dC, dI) vwCl [] H := hP
      have hD : va_D A [] := hD
      refine lv_icmp_eq (tgt := 562) hx hb dL_law_480 (by decide) (fun c_480 => ?_) (fun c_480 => ?_)
      · skip
        obtain ⟨x_78, ex_78⟩ : ∃ y : Int32, y = 1 + 4 := ⟨_, rfl⟩
        refine lv_iinc (v := x_78) (lv' := [(4, .int x_78), (3, .ref q_27), (2, .ref q_13), (1, .ref q_0), (0, .ref b)]) hx hb dL_law_562 hl (k := 0) rfl (by rw [ex_78]; rfl) (by decide) rfl (fun ls hl => ?_)
        obtain rfl : x_78 = 5 := by rw [ex_78]; decide
        refine lv_goto (tgt := 33) hx hb dL_law_565 (by decide) ?_
        refine lv_iload hx hb dL_law_33 (lv_at hl 0 rfl) ?_
        refine lv_aload_n hx hb dL_law_35 rfl (lv_at hl 4 rfl) ?_
        refine va_slen hx hb hX hbl hbA hS dL_law_36 ?_
        refine lv_iconst (v := 4) hx hb dL_law_37 (by decide) ?_
        refine lv_isub hx hb dL_law_38 ?_
        refine lv_icmp_gt (tgt := 568) hx hb dL_law_39 (by decide) (fun c_39 => ?_) (fun c_39 => ?_)
        · skip
          refine lv_iconst (v := 1) hx hb dL_law_568 (by decide) ?_
          refine va_forget (fun q hq => hA2 _ (hS.2.2 q hq)) ?_
          refine W.widen (k := 600002) (n := 7302198) (by omega) (by omega) ?_
          exact lw_ret hx hb hr hlocks dL_law_569
        · exact absurd (by show nI L - 4 < 5; rw [hL5]; decide) c_39
      · exact absurd (hw_467.trans hw_477.symm) c_480
    by_cases hk_12 : x_10 = 12
    · refine lv_tableIn (off := 436) (tgt := 485) hx hb dL_law_49 (by rw [hk_12]; decide) (by rw [hk_12]; decide) (by rw [hk_12]; rfl) (by decide) ?_
      have hP := hP.sub (ws' := [(q_0, .inr (3, [.ref (u_4 0), .ref (u_4 2), .ref (u_4 4), .ref (u_4 6), .int 0, .ref (u_4 8), .ref (u_4 14), .int 0, .int 0, .int 0, .int 1, .int 0, .int 0, .int 0, .int 0, .int 0])), (q_13, .inr (4, [.int 0, .int (nI (cl_n (c_0 L xs))), .ref (u_8 0), .ref (u_8 1), .ref (u_8 2), .ref (u_8 3), .int 0, .int 0, .int 0, .int 0, .int 0, .int 0, .int 0, .int 0, .ref (u_8 4), .int 0, .int 0, .ref (u_8 5), .ref (u_8 6), .ref (u_8 7), .ref (u_8 8)]))]) [0, 16] rfl
      have hD := hD.sub (ws' := [(q_0, .inr (3, [.ref (u_4 0), .ref (u_4 2), .ref (u_4 4), .ref (u_4 6), .int 0, .ref (u_4 8), .ref (u_4 14), .int 0, .int 0, .int 0, .int 1, .int 0, .int 0, .int 0, .int 0, .int 0])), (q_13, .inr (4, [.int 0, .int (nI (cl_n (c_0 L xs))), .ref (u_8 0), .ref (u_8 1), .ref (u_8 2), .ref (u_8 3), .int 0, .int 0, .int 0, .int 0, .int 0, .int 0, .int 0, .int 0, .ref (u_8 4), .int 0, .int 0, .ref (u_8 5), .ref (u_8 6), .ref (u_8 7), .ref (u_8 8)]))]) [0, 16] (by decide) rfl
      refine lv_aload_n hx hb dL_law_485 rfl (lv_at hl 3 rfl) ?_
      refine mq_calli (wr := [(q_13, .inr (4, [.int 0, .int (nI (cl_n (c_0 L xs))), .ref (u_8 0), .ref (u_8 1), .ref (u_8 2), .ref (u_8 3), .int 0, .int 0, .int 0, .int 0, .int 0, .int 0, .int 0, .int 0, .ref (u_8 4), .int 0, .int 0, .ref (u_8 5), .ref (u_8 6), .ref (u_8 7), .ref (u_8 8)]))]) (fun (_u : Unit) => [(q_13, .inr (4, [.int 0, .int (nI (cl_n (c_0 L xs))), .ref (u_8 0), .ref (u_8 1), .ref (u_8 2), .ref (u_8 3), .int 0, .int 0, .int 0, .int 0, .int 0, .int 0, .int 0, .int 0, .ref (u_8 4), .int 0, .int 0, .ref (u_8 5), .ref (u_8 6), .ref (u_8 7), .ref (u_8 8)]))]) (va_runV (As := []) (rest := []) ⟨hx, hb, hml, hown, hts⟩ (ct_X2_bad l dC dI cB cI q_0 (u_4 0) (u_4 2) (u_4 4) (u_4 6) (u_4 8) (u_4 14) H.size) (cwV 0 hts gL_law_X2_bad rfl rfl rfl (by decide +kernel) ⟨Nat.le_of_ble_eq_true rfl, Nat.le_of_ble_eq_true rfl⟩) ⟨mq_blind, va_recv hK hP (ci := 3) (q0 := 0) rfl rfl, mq_pre (hK.sub [0, 1] rfl) hN hP hD [0] rfl (by decide)⟩ rfl rfl hl.1 rfl (lv_room (Nat.le_of_ble_eq_true rfl)) dL_law_486 ⟨Nat.le_of_ble_eq_true rfl, Nat.le_of_ble_eq_true rfl⟩) hP hD hS hA [0] [1] [0] rfl rfl (by decide) (by decide) (by decide) (fun _ => rfl) (fun r_79 _ H locs hw_486 hP hD hS => ?_)
      have hP : va_P (dC, dI) vwCl [(q_13, .inr (4, [.int 0, .int (nI (cl_n (c_0 L xs))), .ref (u_8 0), .ref (u_8 1), .ref (u_8 2), .ref (u_8 3), .int 0, .int 0, .int 0, .int 0, .int 0, .int 0, .int 0, .int 0, .ref (u_8 4), .int 0, .int 0, .ref (u_8 5), .ref (u_8 6), .ref (u_8 7), .ref (u_8 8)]))] H := hP
      have hD : va_D A [(q_13, .inr (4, [.int 0, .int (nI (cl_n (c_0 L xs))), .ref (u_8 0), .ref (u_8 1), .ref (u_8 2), .ref (u_8 3), .int 0, .int 0, .int 0, .int 0, .int 0, .int 0, .int 0, .int 0, .ref (u_8 4), .int 0, .int 0, .ref (u_8 5), .ref (u_8 6), .ref (u_8 7), .ref (u_8 8)]))] := hD
      refine lv_aload_n hx hb dL_law_489 rfl (lv_at hl 2 rfl) ?_
      refine mq_calli (wr := []) (fun (_u : Unit) => []) (va_runV (As := []) (rest := [.int r_79]) ⟨hx, hb, hml, hown, hts⟩ (ct_X3_bad l dC dI cB cI q_13 (u_8 0) (u_8 1) (u_8 2) (u_8 3) (u_8 4) (u_8 5) (u_8 6) (u_8 7) (u_8 8) (cl_n (c_0 L xs)) hc H.size) (cwV 0 hts gL_law_X3_bad rfl rfl rfl (by decide +kernel) ⟨Nat.le_of_ble_eq_true rfl, Nat.le_of_ble_eq_true rfl⟩) ⟨mq_blind, va_recv hK hP (ci := 4) (q0 := 0) rfl rfl, mq_pre (hK.sub [0, 1] rfl) hN hP hD [0] rfl (by decide)⟩ rfl rfl hl.1 rfl (lv_room (Nat.le_of_ble_eq_true rfl)) dL_law_490 ⟨Nat.le_of_ble_eq_true rfl, Nat.le_of_ble_eq_true rfl⟩) hP hD hS hA [0] [] [] rfl rfl (by decide) (by decide) (by decide) (fun _ => rfl) (fun r_80 _ H locs hw_490 hP hD hS => ?_)
      have hP : va_P (dC, dI) vwCl [] H := hP
      have hD : va_D A [] := hD
      refine lv_icmp_eq (tgt := 562) hx hb dL_law_493 (by decide) (fun c_493 => ?_) (fun c_493 => ?_)
      · skip
        obtain ⟨x_81, ex_81⟩ : ∃ y : Int32, y = 1 + 4 := ⟨_, rfl⟩
        refine lv_iinc (v := x_81) (lv' := [(4, .int x_81), (3, .ref q_27), (2, .ref q_13), (1, .ref q_0), (0, .ref b)]) hx hb dL_law_562 hl (k := 0) rfl (by rw [ex_81]; rfl) (by decide) rfl (fun ls hl => ?_)
        obtain rfl : x_81 = 5 := by rw [ex_81]; decide
        refine lv_goto (tgt := 33) hx hb dL_law_565 (by decide) ?_
        refine lv_iload hx hb dL_law_33 (lv_at hl 0 rfl) ?_
        refine lv_aload_n hx hb dL_law_35 rfl (lv_at hl 4 rfl) ?_
        refine va_slen hx hb hX hbl hbA hS dL_law_36 ?_
        refine lv_iconst (v := 4) hx hb dL_law_37 (by decide) ?_
        refine lv_isub hx hb dL_law_38 ?_
        refine lv_icmp_gt (tgt := 568) hx hb dL_law_39 (by decide) (fun c_39 => ?_) (fun c_39 => ?_)
        · skip
          refine lv_iconst (v := 1) hx hb dL_law_568 (by decide) ?_
          refine va_forget (fun q hq => hA2 _ (hS.2.2 q hq)) ?_
          refine W.widen (k := 600002) (n := 7302198) (by omega) (by omega) ?_
          exact lw_ret hx hb hr hlocks dL_law_569
        · exact absurd (by show nI L - 4 < 5; rw [hL5]; decide) c_39
      · exact absurd (hw_486.trans hw_490.symm) c_493
    by_cases hk_13 : x_10 = 13
    · refine lv_tableIn (off := 449) (tgt := 498) hx hb dL_law_49 (by rw [hk_13]; decide) (by rw [hk_13]; decide) (by rw [hk_13]; rfl) (by decide) ?_
      have hP := hP.sub (ws' := [(q_0, .inr (3, [.ref (u_4 0), .ref (u_4 2), .ref (u_4 4), .ref (u_4 6), .int 0, .ref (u_4 8), .ref (u_4 14), .int 0, .int 0, .int 0, .int 1, .int 0, .int 0, .int 0, .int 0, .int 0])), (u_4 0, .inr (2, [.int (nI (cl_n (c_0 L xs))), .ref (u_4 1)])), (u_4 1, .inl (cB, (cl_n (c_0 L xs) * 64), .inl (fun _ => 0))), (u_4 6, .inr (2, [.int (nI (cl_n (c_0 L xs))), .ref (u_4 7)])), (u_4 7, .inl (cB, (cl_n (c_0 L xs) * 64), .inl (fun _ => 0))), (q_13, .inr (4, [.int 0, .int (nI (cl_n (c_0 L xs))), .ref (u_8 0), .ref (u_8 1), .ref (u_8 2), .ref (u_8 3), .int 0, .int 0, .int 0, .int 0, .int 0, .int 0, .int 0, .int 0, .ref (u_8 4), .int 0, .int 0, .ref (u_8 5), .ref (u_8 6), .ref (u_8 7), .ref (u_8 8)])), (u_8 0, .inl (cB, 2560, .inl (fun _ => 0))), (u_8 3, .inl (cB, 2560, .inl (fun _ => 0)))]) [0, 1, 2, 7, 8, 16, 17, 20] rfl
      have hD := hD.sub (ws' := [(q_0, .inr (3, [.ref (u_4 0), .ref (u_4 2), .ref (u_4 4), .ref (u_4 6), .int 0, .ref (u_4 8), .ref (u_4 14), .int 0, .int 0, .int 0, .int 1, .int 0, .int 0, .int 0, .int 0, .int 0])), (u_4 0, .inr (2, [.int (nI (cl_n (c_0 L xs))), .ref (u_4 1)])), (u_4 1, .inl (cB, (cl_n (c_0 L xs) * 64), .inl (fun _ => 0))), (u_4 6, .inr (2, [.int (nI (cl_n (c_0 L xs))), .ref (u_4 7)])), (u_4 7, .inl (cB, (cl_n (c_0 L xs) * 64), .inl (fun _ => 0))), (q_13, .inr (4, [.int 0, .int (nI (cl_n (c_0 L xs))), .ref (u_8 0), .ref (u_8 1), .ref (u_8 2), .ref (u_8 3), .int 0, .int 0, .int 0, .int 0, .int 0, .int 0, .int 0, .int 0, .ref (u_8 4), .int 0, .int 0, .ref (u_8 5), .ref (u_8 6), .ref (u_8 7), .ref (u_8 8)])), (u_8 0, .inl (cB, 2560, .inl (fun _ => 0))), (u_8 3, .inl (cB, 2560, .inl (fun _ => 0)))]) [0, 1, 2, 7, 8, 16, 17, 20] (by decide) rfl
      refine lv_aload_n hx hb dL_law_498 rfl (lv_at hl 3 rfl) ?_
      refine mq_calli (wr := [(q_13, .inr (4, [.int 0, .int (nI (cl_n (c_0 L xs))), .ref (u_8 0), .ref (u_8 1), .ref (u_8 2), .ref (u_8 3), .int 0, .int 0, .int 0, .int 0, .int 0, .int 0, .int 0, .int 0, .ref (u_8 4), .int 0, .int 0, .ref (u_8 5), .ref (u_8 6), .ref (u_8 7), .ref (u_8 8)])), (u_8 0, .inl (cB, 2560, .inl (fun _ => 0))), (u_8 3, .inl (cB, 2560, .inl (fun _ => 0)))]) (fun (_u : Unit) => [(q_13, .inr (4, [.int 0, .int (nI (cl_n (c_0 L xs))), .ref (u_8 0), .ref (u_8 1), .ref (u_8 2), .ref (u_8 3), .int 0, .int 0, .int 0, .int 0, .int 0, .int 0, .int 0, .int 0, .ref (u_8 4), .int 0, .int 0, .ref (u_8 5), .ref (u_8 6), .ref (u_8 7), .ref (u_8 8)])), (u_8 0, .inl (cB, 2560, .inl (fun _ => 0))), (u_8 3, .inl (cB, 2560, .inl (fun _ => 0)))]) (va_runV (As := []) (rest := []) ⟨hx, hb, hml, hown, hts⟩ (ct_X2_backup l dC dI cB cI q_0 (u_4 0) (u_4 2) (u_4 4) (u_4 6) (u_4 8) (u_4 14) (u_4 1) (u_4 7) (cl_n (c_0 L xs)) hc (fun _ => 0) (fun _ => 0) sb_fit0 sb_fit0 H.size) (cwV 0 hts gL_law_X2_backup rfl rfl rfl (by decide +kernel) ⟨Nat.le_of_ble_eq_true rfl, Nat.le_of_ble_eq_true rfl⟩) ⟨mq_blind, va_recv hK hP (ci := 3) (q0 := 0) rfl rfl, mq_pre (hK.sub [0, 1] rfl) hN hP hD [0, 1, 2, 3, 4] rfl (by decide)⟩ rfl rfl hl.1 rfl (lv_room (Nat.le_of_ble_eq_true rfl)) dL_law_499 ⟨Nat.le_of_ble_eq_true rfl, Nat.le_of_ble_eq_true rfl⟩) hP hD hS hA [0, 1, 2, 3, 4] [5, 6, 7] [0, 1, 2] rfl rfl (by decide) (by decide) (by decide) (fun _ => rfl) (fun r_82 _ H locs hw_499 hP hD hS => ?_)
      have hP : va_P (dC, dI) vwCl [(q_13, .inr (4, [.int 0, .int (nI (cl_n (c_0 L xs))), .ref (u_8 0), .ref (u_8 1), .ref (u_8 2), .ref (u_8 3), .int 0, .int 0, .int 0, .int 0, .int 0, .int 0, .int 0, .int 0, .ref (u_8 4), .int 0, .int 0, .ref (u_8 5), .ref (u_8 6), .ref (u_8 7), .ref (u_8 8)])), (u_8 0, .inl (cB, 2560, .inl (fun _ => 0))), (u_8 3, .inl (cB, 2560, .inl (fun _ => 0)))] H := hP
      have hD : va_D A [(q_13, .inr (4, [.int 0, .int (nI (cl_n (c_0 L xs))), .ref (u_8 0), .ref (u_8 1), .ref (u_8 2), .ref (u_8 3), .int 0, .int 0, .int 0, .int 0, .int 0, .int 0, .int 0, .int 0, .ref (u_8 4), .int 0, .int 0, .ref (u_8 5), .ref (u_8 6), .ref (u_8 7), .ref (u_8 8)])), (u_8 0, .inl (cB, 2560, .inl (fun _ => 0))), (u_8 3, .inl (cB, 2560, .inl (fun _ => 0)))] := hD
      refine lv_aload_n hx hb dL_law_502 rfl (lv_at hl 2 rfl) ?_
      refine mq_calli (wr := []) (fun (_u : Unit) => []) (va_runV (As := []) (rest := [.int r_82]) ⟨hx, hb, hml, hown, hts⟩ (ct_X3_backup l dC dI cB cI q_13 (u_8 0) (u_8 1) (u_8 2) (u_8 3) (u_8 4) (u_8 5) (u_8 6) (u_8 7) (u_8 8) (cl_n (c_0 L xs)) hc (fun _ => 0) (fun _ => 0) H.size) (cwV 0 hts gL_law_X3_backup rfl rfl rfl (by decide +kernel) ⟨Nat.le_of_ble_eq_true rfl, Nat.le_of_ble_eq_true rfl⟩) ⟨mq_blind, va_recv hK hP (ci := 4) (q0 := 0) rfl rfl, mq_pre (hK.sub [0, 1] rfl) hN hP hD [0, 1, 2] rfl (by decide)⟩ rfl rfl hl.1 rfl (lv_room (Nat.le_of_ble_eq_true rfl)) dL_law_503 ⟨Nat.le_of_ble_eq_true rfl, Nat.le_of_ble_eq_true rfl⟩) hP hD hS hA [0, 1, 2] [] [] rfl rfl (by decide) (by decide) (by decide) (fun _ => rfl) (fun r_83 _ H locs hw_503 hP hD hS => ?_)
      have hP : va_P (dC, dI) vwCl [] H := hP
      have hD : va_D A [] := hD
      refine lv_icmp_eq (tgt := 562) hx hb dL_law_506 (by decide) (fun c_506 => ?_) (fun c_506 => ?_)
      · skip
        obtain ⟨x_84, ex_84⟩ : ∃ y : Int32, y = 1 + 4 := ⟨_, rfl⟩
        refine lv_iinc (v := x_84) (lv' := [(4, .int x_84), (3, .ref q_27), (2, .ref q_13), (1, .ref q_0), (0, .ref b)]) hx hb dL_law_562 hl (k := 0) rfl (by rw [ex_84]; rfl) (by decide) rfl (fun ls hl => ?_)
        obtain rfl : x_84 = 5 := by rw [ex_84]; decide
        refine lv_goto (tgt := 33) hx hb dL_law_565 (by decide) ?_
        refine lv_iload hx hb dL_law_33 (lv_at hl 0 rfl) ?_
        refine lv_aload_n hx hb dL_law_35 rfl (lv_at hl 4 rfl) ?_
        refine va_slen hx hb hX hbl hbA hS dL_law_36 ?_
        refine lv_iconst (v := 4) hx hb dL_law_37 (by decide) ?_
        refine lv_isub hx hb dL_law_38 ?_
        refine lv_icmp_gt (tgt := 568) hx hb dL_law_39 (by decide) (fun c_39 => ?_) (fun c_39 => ?_)
        · skip
          refine lv_iconst (v := 1) hx hb dL_law_568 (by decide) ?_
          refine va_forget (fun q hq => hA2 _ (hS.2.2 q hq)) ?_
          refine W.widen (k := 600002) (n := 7302198) (by omega) (by omega) ?_
          exact lw_ret hx hb hr hlocks dL_law_569
        · exact absurd (by show nI L - 4 < 5; rw [hL5]; decide) c_39
      · exact absurd (hw_499.trans hw_503.symm) c_506
    by_cases hk_14 : x_10 = 14
    · refine lv_tableIn (off := 462) (tgt := 511) hx hb dL_law_49 (by rw [hk_14]; decide) (by rw [hk_14]; decide) (by rw [hk_14]; rfl) (by decide) ?_
      have hP := hP.sub (ws' := [(q_0, .inr (3, [.ref (u_4 0), .ref (u_4 2), .ref (u_4 4), .ref (u_4 6), .int 0, .ref (u_4 8), .ref (u_4 14), .int 0, .int 0, .int 0, .int 1, .int 0, .int 0, .int 0, .int 0, .int 0])), (q_13, .inr (4, [.int 0, .int (nI (cl_n (c_0 L xs))), .ref (u_8 0), .ref (u_8 1), .ref (u_8 2), .ref (u_8 3), .int 0, .int 0, .int 0, .int 0, .int 0, .int 0, .int 0, .int 0, .ref (u_8 4), .int 0, .int 0, .ref (u_8 5), .ref (u_8 6), .ref (u_8 7), .ref (u_8 8)]))]) [0, 16] rfl
      have hD := hD.sub (ws' := [(q_0, .inr (3, [.ref (u_4 0), .ref (u_4 2), .ref (u_4 4), .ref (u_4 6), .int 0, .ref (u_4 8), .ref (u_4 14), .int 0, .int 0, .int 0, .int 1, .int 0, .int 0, .int 0, .int 0, .int 0])), (q_13, .inr (4, [.int 0, .int (nI (cl_n (c_0 L xs))), .ref (u_8 0), .ref (u_8 1), .ref (u_8 2), .ref (u_8 3), .int 0, .int 0, .int 0, .int 0, .int 0, .int 0, .int 0, .int 0, .ref (u_8 4), .int 0, .int 0, .ref (u_8 5), .ref (u_8 6), .ref (u_8 7), .ref (u_8 8)]))]) [0, 16] (by decide) rfl
      refine lv_aload_n hx hb dL_law_511 rfl (lv_at hl 3 rfl) ?_
      refine mq_calli (wr := [(q_13, .inr (4, [.int 0, .int (nI (cl_n (c_0 L xs))), .ref (u_8 0), .ref (u_8 1), .ref (u_8 2), .ref (u_8 3), .int 0, .int 0, .int 0, .int 0, .int 0, .int 0, .int 0, .int 0, .ref (u_8 4), .int 0, .int 0, .ref (u_8 5), .ref (u_8 6), .ref (u_8 7), .ref (u_8 8)]))]) (fun (_u : Unit) => [(q_13, .inr (4, [.int 0, .int (nI (cl_n (c_0 L xs))), .ref (u_8 0), .ref (u_8 1), .ref (u_8 2), .ref (u_8 3), .int 0, .int 0, .int 0, .int 0, .int 0, .int 0, .int 0, .int 0, .ref (u_8 4), .int 0, .int 0, .ref (u_8 5), .ref (u_8 6), .ref (u_8 7), .ref (u_8 8)]))]) (va_runV (As := []) (rest := []) ⟨hx, hb, hml, hown, hts⟩ (ct_X2_restore l dC dI cB cI q_0 (u_4 0) (u_4 2) (u_4 4) (u_4 6) (u_4 8) (u_4 14) H.size) (cwV 0 hts gL_law_X2_restore rfl rfl rfl (by decide +kernel) ⟨Nat.le_of_ble_eq_true rfl, Nat.le_of_ble_eq_true rfl⟩) ⟨mq_blind, va_recv hK hP (ci := 3) (q0 := 0) rfl rfl, mq_pre (hK.sub [0, 1] rfl) hN hP hD [0] rfl (by decide)⟩ rfl rfl hl.1 rfl (lv_room (Nat.le_of_ble_eq_true rfl)) dL_law_512 ⟨Nat.le_of_ble_eq_true rfl, Nat.le_of_ble_eq_true rfl⟩) hP hD hS hA [0] [1] [0] rfl rfl (by decide) (by decide) (by decide) (fun _ => rfl) (fun r_85 _ H locs hw_512 hP hD hS => ?_)
      have hP : va_P (dC, dI) vwCl [(q_13, .inr (4, [.int 0, .int (nI (cl_n (c_0 L xs))), .ref (u_8 0), .ref (u_8 1), .ref (u_8 2), .ref (u_8 3), .int 0, .int 0, .int 0, .int 0, .int 0, .int 0, .int 0, .int 0, .ref (u_8 4), .int 0, .int 0, .ref (u_8 5), .ref (u_8 6), .ref (u_8 7), .ref (u_8 8)]))] H := hP
      have hD : va_D A [(q_13, .inr (4, [.int 0, .int (nI (cl_n (c_0 L xs))), .ref (u_8 0), .ref (u_8 1), .ref (u_8 2), .ref (u_8 3), .int 0, .int 0, .int 0, .int 0, .int 0, .int 0, .int 0, .int 0, .ref (u_8 4), .int 0, .int 0, .ref (u_8 5), .ref (u_8 6), .ref (u_8 7), .ref (u_8 8)]))] := hD
      refine lv_aload_n hx hb dL_law_515 rfl (lv_at hl 2 rfl) ?_
      refine mq_calli (wr := []) (fun (_u : Unit) => []) (va_runV (As := []) (rest := [.int r_85]) ⟨hx, hb, hml, hown, hts⟩ (ct_X3_restore l dC dI cB cI q_13 (u_8 0) (u_8 1) (u_8 2) (u_8 3) (u_8 4) (u_8 5) (u_8 6) (u_8 7) (u_8 8) (cl_n (c_0 L xs)) hc H.size) (cwV 0 hts gL_law_X3_restore rfl rfl rfl (by decide +kernel) ⟨Nat.le_of_ble_eq_true rfl, Nat.le_of_ble_eq_true rfl⟩) ⟨mq_blind, va_recv hK hP (ci := 4) (q0 := 0) rfl rfl, mq_pre (hK.sub [0, 1] rfl) hN hP hD [0] rfl (by decide)⟩ rfl rfl hl.1 rfl (lv_room (Nat.le_of_ble_eq_true rfl)) dL_law_516 ⟨Nat.le_of_ble_eq_true rfl, Nat.le_of_ble_eq_true rfl⟩) hP hD hS hA [0] [] [] rfl rfl (by decide) (by decide) (by decide) (fun _ => rfl) (fun r_86 _ H locs hw_516 hP hD hS => ?_)
      have hP : va_P (dC, dI) vwCl [] H := hP
      have hD : va_D A [] := hD
      refine lv_icmp_eq (tgt := 562) hx hb dL_law_519 (by decide) (fun c_519 => ?_) (fun c_519 => ?_)
      · skip
        obtain ⟨x_87, ex_87⟩ : ∃ y : Int32, y = 1 + 4 := ⟨_, rfl⟩
        refine lv_iinc (v := x_87) (lv' := [(4, .int x_87), (3, .ref q_27), (2, .ref q_13), (1, .ref q_0), (0, .ref b)]) hx hb dL_law_562 hl (k := 0) rfl (by rw [ex_87]; rfl) (by decide) rfl (fun ls hl => ?_)
        obtain rfl : x_87 = 5 := by rw [ex_87]; decide
        refine lv_goto (tgt := 33) hx hb dL_law_565 (by decide) ?_
        refine lv_iload hx hb dL_law_33 (lv_at hl 0 rfl) ?_
        refine lv_aload_n hx hb dL_law_35 rfl (lv_at hl 4 rfl) ?_
        refine va_slen hx hb hX hbl hbA hS dL_law_36 ?_
        refine lv_iconst (v := 4) hx hb dL_law_37 (by decide) ?_
        refine lv_isub hx hb dL_law_38 ?_
        refine lv_icmp_gt (tgt := 568) hx hb dL_law_39 (by decide) (fun c_39 => ?_) (fun c_39 => ?_)
        · skip
          refine lv_iconst (v := 1) hx hb dL_law_568 (by decide) ?_
          refine va_forget (fun q hq => hA2 _ (hS.2.2 q hq)) ?_
          refine W.widen (k := 600002) (n := 7302198) (by omega) (by omega) ?_
          exact lw_ret hx hb hr hlocks dL_law_569
        · exact absurd (by show nI L - 4 < 5; rw [hL5]; decide) c_39
      · exact absurd (hw_512.trans hw_516.symm) c_519
    by_cases hk_15 : x_10 = 15
    · refine lv_tableIn (off := 475) (tgt := 524) hx hb dL_law_49 (by rw [hk_15]; decide) (by rw [hk_15]; decide) (by rw [hk_15]; rfl) (by decide) ?_
      have hP := hP.sub (ws' := [(q_0, .inr (3, [.ref (u_4 0), .ref (u_4 2), .ref (u_4 4), .ref (u_4 6), .int 0, .ref (u_4 8), .ref (u_4 14), .int 0, .int 0, .int 0, .int 1, .int 0, .int 0, .int 0, .int 0, .int 0])), (q_13, .inr (4, [.int 0, .int (nI (cl_n (c_0 L xs))), .ref (u_8 0), .ref (u_8 1), .ref (u_8 2), .ref (u_8 3), .int 0, .int 0, .int 0, .int 0, .int 0, .int 0, .int 0, .int 0, .ref (u_8 4), .int 0, .int 0, .ref (u_8 5), .ref (u_8 6), .ref (u_8 7), .ref (u_8 8)]))]) [0, 16] rfl
      have hD := hD.sub (ws' := [(q_0, .inr (3, [.ref (u_4 0), .ref (u_4 2), .ref (u_4 4), .ref (u_4 6), .int 0, .ref (u_4 8), .ref (u_4 14), .int 0, .int 0, .int 0, .int 1, .int 0, .int 0, .int 0, .int 0, .int 0])), (q_13, .inr (4, [.int 0, .int (nI (cl_n (c_0 L xs))), .ref (u_8 0), .ref (u_8 1), .ref (u_8 2), .ref (u_8 3), .int 0, .int 0, .int 0, .int 0, .int 0, .int 0, .int 0, .int 0, .ref (u_8 4), .int 0, .int 0, .ref (u_8 5), .ref (u_8 6), .ref (u_8 7), .ref (u_8 8)]))]) [0, 16] (by decide) rfl
      refine lv_aload_n hx hb dL_law_524 rfl (lv_at hl 3 rfl) ?_
      refine mq_calli (wr := [(q_13, .inr (4, [.int 0, .int (nI (cl_n (c_0 L xs))), .ref (u_8 0), .ref (u_8 1), .ref (u_8 2), .ref (u_8 3), .int 0, .int 0, .int 0, .int 0, .int 0, .int 0, .int 0, .int 0, .ref (u_8 4), .int 0, .int 0, .ref (u_8 5), .ref (u_8 6), .ref (u_8 7), .ref (u_8 8)]))]) (fun (_u : Unit) => [(q_13, .inr (4, [.int 0, .int (nI (cl_n (c_0 L xs))), .ref (u_8 0), .ref (u_8 1), .ref (u_8 2), .ref (u_8 3), .int 0, .int 0, .int 0, .int 0, .int 0, .int 0, .int 0, .int 0, .ref (u_8 4), .int 0, .int 0, .ref (u_8 5), .ref (u_8 6), .ref (u_8 7), .ref (u_8 8)]))]) (va_runV (As := []) (rest := []) ⟨hx, hb, hml, hown, hts⟩ (ct_X2_differ l dC dI cB cI q_0 (u_4 0) (u_4 2) (u_4 4) (u_4 6) (u_4 8) (u_4 14) H.size) (cwV 0 hts gL_law_X2_differ rfl rfl rfl (by decide +kernel) ⟨Nat.le_of_ble_eq_true rfl, Nat.le_of_ble_eq_true rfl⟩) ⟨mq_blind, va_recv hK hP (ci := 3) (q0 := 0) rfl rfl, mq_pre (hK.sub [0, 1] rfl) hN hP hD [0] rfl (by decide)⟩ rfl rfl hl.1 rfl (lv_room (Nat.le_of_ble_eq_true rfl)) dL_law_525 ⟨Nat.le_of_ble_eq_true rfl, Nat.le_of_ble_eq_true rfl⟩) hP hD hS hA [0] [1] [0] rfl rfl (by decide) (by decide) (by decide) (fun _ => rfl) (fun r_88 _ H locs hw_525 hP hD hS => ?_)
      have hP : va_P (dC, dI) vwCl [(q_13, .inr (4, [.int 0, .int (nI (cl_n (c_0 L xs))), .ref (u_8 0), .ref (u_8 1), .ref (u_8 2), .ref (u_8 3), .int 0, .int 0, .int 0, .int 0, .int 0, .int 0, .int 0, .int 0, .ref (u_8 4), .int 0, .int 0, .ref (u_8 5), .ref (u_8 6), .ref (u_8 7), .ref (u_8 8)]))] H := hP
      have hD : va_D A [(q_13, .inr (4, [.int 0, .int (nI (cl_n (c_0 L xs))), .ref (u_8 0), .ref (u_8 1), .ref (u_8 2), .ref (u_8 3), .int 0, .int 0, .int 0, .int 0, .int 0, .int 0, .int 0, .int 0, .ref (u_8 4), .int 0, .int 0, .ref (u_8 5), .ref (u_8 6), .ref (u_8 7), .ref (u_8 8)]))] := hD
      refine lv_aload_n hx hb dL_law_528 rfl (lv_at hl 2 rfl) ?_
      refine mq_calli (wr := []) (fun (_u : Unit) => []) (va_runV (As := []) (rest := [.int r_88]) ⟨hx, hb, hml, hown, hts⟩ (ct_X3_differ l dC dI cB cI q_13 (u_8 0) (u_8 1) (u_8 2) (u_8 3) (u_8 4) (u_8 5) (u_8 6) (u_8 7) (u_8 8) (cl_n (c_0 L xs)) hc H.size) (cwV 0 hts gL_law_X3_differ rfl rfl rfl (by decide +kernel) ⟨Nat.le_of_ble_eq_true rfl, Nat.le_of_ble_eq_true rfl⟩) ⟨mq_blind, va_recv hK hP (ci := 4) (q0 := 0) rfl rfl, mq_pre (hK.sub [0, 1] rfl) hN hP hD [0] rfl (by decide)⟩ rfl rfl hl.1 rfl (lv_room (Nat.le_of_ble_eq_true rfl)) dL_law_529 ⟨Nat.le_of_ble_eq_true rfl, Nat.le_of_ble_eq_true rfl⟩) hP hD hS hA [0] [] [] rfl rfl (by decide) (by decide) (by decide) (fun _ => rfl) (fun r_89 _ H locs hw_529 hP hD hS => ?_)
      have hP : va_P (dC, dI) vwCl [] H := hP
      have hD : va_D A [] := hD
      refine lv_icmp_eq (tgt := 562) hx hb dL_law_532 (by decide) (fun c_532 => ?_) (fun c_532 => ?_)
      · skip
        obtain ⟨x_90, ex_90⟩ : ∃ y : Int32, y = 1 + 4 := ⟨_, rfl⟩
        refine lv_iinc (v := x_90) (lv' := [(4, .int x_90), (3, .ref q_27), (2, .ref q_13), (1, .ref q_0), (0, .ref b)]) hx hb dL_law_562 hl (k := 0) rfl (by rw [ex_90]; rfl) (by decide) rfl (fun ls hl => ?_)
        obtain rfl : x_90 = 5 := by rw [ex_90]; decide
        refine lv_goto (tgt := 33) hx hb dL_law_565 (by decide) ?_
        refine lv_iload hx hb dL_law_33 (lv_at hl 0 rfl) ?_
        refine lv_aload_n hx hb dL_law_35 rfl (lv_at hl 4 rfl) ?_
        refine va_slen hx hb hX hbl hbA hS dL_law_36 ?_
        refine lv_iconst (v := 4) hx hb dL_law_37 (by decide) ?_
        refine lv_isub hx hb dL_law_38 ?_
        refine lv_icmp_gt (tgt := 568) hx hb dL_law_39 (by decide) (fun c_39 => ?_) (fun c_39 => ?_)
        · skip
          refine lv_iconst (v := 1) hx hb dL_law_568 (by decide) ?_
          refine va_forget (fun q hq => hA2 _ (hS.2.2 q hq)) ?_
          refine W.widen (k := 600002) (n := 7302198) (by omega) (by omega) ?_
          exact lw_ret hx hb hr hlocks dL_law_569
        · exact absurd (by show nI L - 4 < 5; rw [hL5]; decide) c_39
      · exact absurd (hw_525.trans hw_529.symm) c_532
    by_cases hk_16 : x_10 = 16
    · refine lv_tableIn (off := 488) (tgt := 537) hx hb dL_law_49 (by rw [hk_16]; decide) (by rw [hk_16]; decide) (by rw [hk_16]; rfl) (by decide) ?_
      have hP := hP.sub (ws' := [(q_0, .inr (3, [.ref (u_4 0), .ref (u_4 2), .ref (u_4 4), .ref (u_4 6), .int 0, .ref (u_4 8), .ref (u_4 14), .int 0, .int 0, .int 0, .int 1, .int 0, .int 0, .int 0, .int 0, .int 0])), (u_4 0, .inr (2, [.int (nI (cl_n (c_0 L xs))), .ref (u_4 1)])), (q_13, .inr (4, [.int 0, .int (nI (cl_n (c_0 L xs))), .ref (u_8 0), .ref (u_8 1), .ref (u_8 2), .ref (u_8 3), .int 0, .int 0, .int 0, .int 0, .int 0, .int 0, .int 0, .int 0, .ref (u_8 4), .int 0, .int 0, .ref (u_8 5), .ref (u_8 6), .ref (u_8 7), .ref (u_8 8)]))]) [0, 1, 16] rfl
      have hD := hD.sub (ws' := [(q_0, .inr (3, [.ref (u_4 0), .ref (u_4 2), .ref (u_4 4), .ref (u_4 6), .int 0, .ref (u_4 8), .ref (u_4 14), .int 0, .int 0, .int 0, .int 1, .int 0, .int 0, .int 0, .int 0, .int 0])), (u_4 0, .inr (2, [.int (nI (cl_n (c_0 L xs))), .ref (u_4 1)])), (q_13, .inr (4, [.int 0, .int (nI (cl_n (c_0 L xs))), .ref (u_8 0), .ref (u_8 1), .ref (u_8 2), .ref (u_8 3), .int 0, .int 0, .int 0, .int 0, .int 0, .int 0, .int 0, .int 0, .ref (u_8 4), .int 0, .int 0, .ref (u_8 5), .ref (u_8 6), .ref (u_8 7), .ref (u_8 8)]))]) [0, 1, 16] (by decide) rfl
      refine lv_aload_n hx hb dL_law_537 rfl (lv_at hl 3 rfl) ?_
      refine lv_aload_n hx hb dL_law_538 rfl (lv_at hl 4 rfl) ?_
      refine lv_iload hx hb dL_law_539 (lv_at hl 0 rfl) ?_
      refine lv_iconst (v := 1) hx hb dL_law_541 (by decide) ?_
      refine lv_iadd hx hb dL_law_542 ?_
      refine lv_topi (fun x_91 ex_91 => ?_)
      obtain rfl : x_91 = nI 2 := by rw [ex_91]; decide
      refine va_sld hx hb hX hbl hbA hS (by rw [hL5]; exact vp_in_nI (n := 2) (by decide) (by decide)) dL_law_543 ?_
      refine mq_calli (wr := [(q_13, .inr (4, [.int 0, .int (nI (cl_n (c_0 L xs))), .ref (u_8 0), .ref (u_8 1), .ref (u_8 2), .ref (u_8 3), .int 0, .int 0, .int 0, .int 0, .int 0, .int 0, .int 0, .int 0, .ref (u_8 4), .int 0, .int 0, .ref (u_8 5), .ref (u_8 6), .ref (u_8 7), .ref (u_8 8)]))]) (fun (_u : Unit) => [(q_13, .inr (4, [.int 0, .int (nI (cl_n (c_0 L xs))), .ref (u_8 0), .ref (u_8 1), .ref (u_8 2), .ref (u_8 3), .int 0, .int 0, .int 0, .int 0, .int 0, .int 0, .int 0, .int 0, .ref (u_8 4), .int 0, .int 0, .ref (u_8 5), .ref (u_8 6), .ref (u_8 7), .ref (u_8 8)]))]) (va_runV (As := [.int (xs (nI 2).toNatClampNeg)]) (rest := []) ⟨hx, hb, hml, hown, hts⟩ (ct_X2_state l dC dI cB cI q_0 (u_4 0) (u_4 2) (u_4 4) (u_4 6) (u_4 8) (u_4 14) (u_4 1) (cl_n (c_0 L xs)) (xs (nI 2).toNatClampNeg) H.size) (cwV 1 hts gL_law_X2_state rfl rfl rfl (by decide +kernel) ⟨Nat.le_of_ble_eq_true rfl, Nat.le_of_ble_eq_true rfl⟩) ⟨mq_blind, va_recv hK hP (ci := 3) (q0 := 0) rfl rfl, mq_pre (hK.sub [0, 1] rfl) hN hP hD [0, 1] rfl (by decide)⟩ rfl rfl hl.1 rfl (lv_room (Nat.le_of_ble_eq_true rfl)) dL_law_544 ⟨Nat.le_of_ble_eq_true rfl, Nat.le_of_ble_eq_true rfl⟩) hP hD hS hA [0, 1] [2] [0] rfl rfl (by decide) (by decide) (by decide) (fun _ => rfl) (fun r_92 _ H locs hw_544 hP hD hS => ?_)
      have hP : va_P (dC, dI) vwCl [(q_13, .inr (4, [.int 0, .int (nI (cl_n (c_0 L xs))), .ref (u_8 0), .ref (u_8 1), .ref (u_8 2), .ref (u_8 3), .int 0, .int 0, .int 0, .int 0, .int 0, .int 0, .int 0, .int 0, .ref (u_8 4), .int 0, .int 0, .ref (u_8 5), .ref (u_8 6), .ref (u_8 7), .ref (u_8 8)]))] H := hP
      have hD : va_D A [(q_13, .inr (4, [.int 0, .int (nI (cl_n (c_0 L xs))), .ref (u_8 0), .ref (u_8 1), .ref (u_8 2), .ref (u_8 3), .int 0, .int 0, .int 0, .int 0, .int 0, .int 0, .int 0, .int 0, .ref (u_8 4), .int 0, .int 0, .ref (u_8 5), .ref (u_8 6), .ref (u_8 7), .ref (u_8 8)]))] := hD
      refine lv_aload_n hx hb dL_law_547 rfl (lv_at hl 2 rfl) ?_
      refine lv_aload_n hx hb dL_law_548 rfl (lv_at hl 4 rfl) ?_
      refine lv_iload hx hb dL_law_549 (lv_at hl 0 rfl) ?_
      refine lv_iconst (v := 1) hx hb dL_law_551 (by decide) ?_
      refine lv_iadd hx hb dL_law_552 ?_
      refine lv_topi (fun x_93 ex_93 => ?_)
      obtain rfl : x_93 = nI 2 := by rw [ex_93]; decide
      refine va_sld hx hb hX hbl hbA hS (by rw [hL5]; exact vp_in_nI (n := 2) (by decide) (by decide)) dL_law_553 ?_
      refine mq_calli (wr := []) (fun (_u : Unit) => []) (va_runV (As := [.int (xs (nI 2).toNatClampNeg)]) (rest := [.int r_92]) ⟨hx, hb, hml, hown, hts⟩ (ct_X3_state l dC dI cB cI q_13 (u_8 0) (u_8 1) (u_8 2) (u_8 3) (u_8 4) (u_8 5) (u_8 6) (u_8 7) (u_8 8) (cl_n (c_0 L xs)) hc (xs (nI 2).toNatClampNeg) H.size) (cwV 1 hts gL_law_X3_state rfl rfl rfl (by decide +kernel) ⟨Nat.le_of_ble_eq_true rfl, Nat.le_of_ble_eq_true rfl⟩) ⟨mq_blind, va_recv hK hP (ci := 4) (q0 := 0) rfl rfl, mq_pre (hK.sub [0, 1] rfl) hN hP hD [0] rfl (by decide)⟩ rfl rfl hl.1 rfl (lv_room (Nat.le_of_ble_eq_true rfl)) dL_law_554 ⟨Nat.le_of_ble_eq_true rfl, Nat.le_of_ble_eq_true rfl⟩) hP hD hS hA [0] [] [] rfl rfl (by decide) (by decide) (by decide) (fun _ => rfl) (fun r_94 _ H locs hw_554 hP hD hS => ?_)
      have hP : va_P (dC, dI) vwCl [] H := hP
      have hD : va_D A [] := hD
      refine lv_icmp_eq (tgt := 562) hx hb dL_law_557 (by decide) (fun c_557 => ?_) (fun c_557 => ?_)
      · skip
        obtain ⟨x_95, ex_95⟩ : ∃ y : Int32, y = 1 + 4 := ⟨_, rfl⟩
        refine lv_iinc (v := x_95) (lv' := [(4, .int x_95), (3, .ref q_27), (2, .ref q_13), (1, .ref q_0), (0, .ref b)]) hx hb dL_law_562 hl (k := 0) rfl (by rw [ex_95]; rfl) (by decide) rfl (fun ls hl => ?_)
        obtain rfl : x_95 = 5 := by rw [ex_95]; decide
        refine lv_goto (tgt := 33) hx hb dL_law_565 (by decide) ?_
        refine lv_iload hx hb dL_law_33 (lv_at hl 0 rfl) ?_
        refine lv_aload_n hx hb dL_law_35 rfl (lv_at hl 4 rfl) ?_
        refine va_slen hx hb hX hbl hbA hS dL_law_36 ?_
        refine lv_iconst (v := 4) hx hb dL_law_37 (by decide) ?_
        refine lv_isub hx hb dL_law_38 ?_
        refine lv_icmp_gt (tgt := 568) hx hb dL_law_39 (by decide) (fun c_39 => ?_) (fun c_39 => ?_)
        · skip
          refine lv_iconst (v := 1) hx hb dL_law_568 (by decide) ?_
          refine va_forget (fun q hq => hA2 _ (hS.2.2 q hq)) ?_
          refine W.widen (k := 600002) (n := 7302198) (by omega) (by omega) ?_
          exact lw_ret hx hb hr hlocks dL_law_569
        · exact absurd (by show nI L - 4 < 5; rw [hL5]; decide) c_39
      · exact absurd (hw_544.trans hw_554.symm) c_557
    have hP := hP.sub (ws' := []) [] rfl
    have hD := hD.sub (ws' := []) [] (by decide) rfl
    refine lv_tableOut (tgt := 562) hx hb dL_law_49 (tb_out (k := 16) (by decide) (fun j hj => by rcases (show j = 0 ∨ j = 1 ∨ j = 2 ∨ j = 3 ∨ j = 4 ∨ j = 5 ∨ j = 6 ∨ j = 7 ∨ j = 8 ∨ j = 9 ∨ j = 10 ∨ j = 11 ∨ j = 12 ∨ j = 13 ∨ j = 14 ∨ j = 15 ∨ j = 16 by omega) with rfl | rfl | rfl | rfl | rfl | rfl | rfl | rfl | rfl | rfl | rfl | rfl | rfl | rfl | rfl | rfl | rfl <;> assumption)) (by decide) ?_
    obtain ⟨x_96, ex_96⟩ : ∃ y : Int32, y = 1 + 4 := ⟨_, rfl⟩
    refine lv_iinc (v := x_96) (lv' := [(4, .int x_96), (3, .ref q_27), (2, .ref q_13), (1, .ref q_0), (0, .ref b)]) hx hb dL_law_562 hl (k := 0) rfl (by rw [ex_96]; rfl) (by decide) rfl (fun ls hl => ?_)
    obtain rfl : x_96 = 5 := by rw [ex_96]; decide
    refine lv_goto (tgt := 33) hx hb dL_law_565 (by decide) ?_
    refine lv_iload hx hb dL_law_33 (lv_at hl 0 rfl) ?_
    refine lv_aload_n hx hb dL_law_35 rfl (lv_at hl 4 rfl) ?_
    refine va_slen hx hb hX hbl hbA hS dL_law_36 ?_
    refine lv_iconst (v := 4) hx hb dL_law_37 (by decide) ?_
    refine lv_isub hx hb dL_law_38 ?_
    refine lv_icmp_gt (tgt := 568) hx hb dL_law_39 (by decide) (fun c_39 => ?_) (fun c_39 => ?_)
    · skip
      refine lv_iconst (v := 1) hx hb dL_law_568 (by decide) ?_
      refine va_forget (fun q hq => hA2 _ (hS.2.2 q hq)) ?_
      refine W.widen (k := 600002) (n := 7302198) (by omega) (by omega) ?_
      exact lw_ret hx hb hr hlocks dL_law_569
    · exact absurd (by show nI L - 4 < 5; rw [hL5]; decide) c_39
