/-! The nest mates' links (private members of Rows and Sectors that LibraryDisk reads): words of the state, beside the tables' own. -/
def nx_L : List Cond := [.fieldLinkNest RX2 108 "LibraryDisk$Rows" "laid" "I" "LibraryDisk", .fieldLinkNest RX2 123 "LibraryDisk$Rows" "kinds" "[I" "LibraryDisk", .fieldLinkNest RX2 127 "LibraryDisk$Rows" "sizes" "[I" "LibraryDisk", .fieldLinkNest RX2 130 "LibraryDisk$Rows" "places" "[I" "LibraryDisk", .fieldLinkNest RX2 153 "LibraryDisk$Sectors" "count" "I" "LibraryDisk", .fieldLinkNest RX2 59 "LibraryDisk$Rows" "count" "I" "LibraryDisk"]
def nx_W (U : State) : Prop := ∀ w ∈ nx_L, va_Nw w U
theorem nx_use {U : State} {A : Array Value} {w : Cond} (h : nx_W U) (k : Nat) (hk : nx_L[k]? = some w) (hw : w.onTables = true) : w.before A U = true := va_Nw.use hw (h w (List.mem_of_getElem? hk))
theorem nx_warm {s U : State} (hW : s.WarmedH U.vm) (h : nx_W s) : nx_W U := by
  intro w hw
  have hz := h w hw
  simp only [nx_L, List.mem_cons, List.not_mem_nil, or_false] at hw
  rcases hw with rfl | rfl | rfl | rfl | rfl | rfl <;> exact va_Nw.warmF hW hz
theorem nx_same {u U : State} (hv : u.vm = U.vm) (h : nx_W u) : nx_W U := by
  intro w hw
  have hz := h w hw
  simp only [nx_L, List.mem_cons, List.not_mem_nil, or_false] at hw
  rcases hw with rfl | rfl | rfl | rfl | rfl | rfl <;> exact va_Nw.same rfl hv hz
/-! Call rows of one shape: the callee's cells are places of the caller's world; behind the call the world stands in the caller's own order. -/
/-- a contract's start: the callee's world wc in a heap of size sz -/
abbrev mq_P (D : va_G) (cl : List vw_C) (tys : List (ClassId × FieldType)) (wc : va_W) (sz : Nat) (U : State) : Prop := U.heap.size = sz ∧ va_P D cl wc U.heap ∧ va_K D cl tys U ∧ va_D (fun _ => True) wc ∧ nx_W U
/-- a contract's end: the world w1 -/
abbrev mq_B (D : va_G) (cl : List vw_C) (tys : List (ClassId × FieldType)) (wc : va_W) (sz : Nat) (w1 : va_W) (t : State) : Prop := va_P D cl w1 t.heap ∧ va_K D cl tys t ∧ va_D (va_A wc sz) w1
/-- the contract of a method with an int answer -/
abbrev mq_I (l : Launch) (D : va_G) (cl : List vw_C) (tys : List (ClassId × FieldType)) (y : MethodName) (ws : List Cond) (rm : Room) (av : List Value) (wc : va_W) (sz : Nat) {S : Type} (post : Int32 → S → Prop) (w1 : S → va_W) (mc ms : Nat) : Prop :=
  Met l y ws rm (va_Pc av (mq_P D cl tys wc sz)) (va_Qi post (fun u t => mq_B D cl tys wc sz (w1 u) t) (va_A wc sz)) mc ms (va_A wc sz)
abbrev mq_L (l : Launch) (D : va_G) (cl : List vw_C) (tys : List (ClassId × FieldType)) (y : MethodName) (ws : List Cond) (rm : Room) (av : List Value) (wc : va_W) (sz : Nat) {S : Type} (post : Int64 → S → Prop) (w1 : S → va_W) (mc ms : Nat) : Prop :=
  Met l y ws rm (va_Pc av (mq_P D cl tys wc sz)) (va_Ql post (fun u t => mq_B D cl tys wc sz (w1 u) t) (va_A wc sz)) mc ms (va_A wc sz)
abbrev mq_V (l : Launch) (D : va_G) (cl : List vw_C) (tys : List (ClassId × FieldType)) (y : MethodName) (ws : List Cond) (rm : Room) (av : List Value) (wc : va_W) (sz : Nat) {S : Type} (post : S → Prop) (w1 : S → va_W) (mc ms : Nat) : Prop :=
  Met l y ws rm (va_Pc av (mq_P D cl tys wc sz)) (va_Qv post (fun u t => mq_B D cl tys wc sz (w1 u) t) (va_A wc sz)) mc ms (va_A wc sz)
theorem mq_blind {D : va_G} {cl : List vw_C} {tys : List (ClassId × FieldType)} {wc : va_W} {sz : Nat} {av : List Value} : FrameBlind (va_Pc av (mq_P D cl tys wc sz)) := by
  intro a U g mk q
  obtain ⟨q0, q1, qP, qK, qD, qN⟩ := q
  exact ⟨q0, q1, qP, va_K.moved (u := U) (U := U.calling g mk a) (Vm.Alike.refl U.vm) qK, qD, nx_same (u := U) (U := U.calling g mk a) rfl qN⟩
theorem mq_pre {D : va_G} {cl : List vw_C} {tys : List (ClassId × FieldType)} {ws wc : va_W} {s : State} {H : Heap} {A : Nat → Prop} {av : List Value} (hK : va_K D cl tys s) (hN : nx_W s) (hP : va_P D cl ws H) (hD : va_D A ws) (isC : List Nat) (hC : isC.map (fun i => ws[i]?) = wc.map some) (hn : va_nd isC = true) :
    ∀ U : State, U.heap = H → s.WarmedH U.vm → va_Pc av (mq_P D cl tys wc H.size) av.toArray U := by
  intro U hU hW
  have hPc : va_P D cl wc H := by
    intro k q hq
    have h1 : (isC.map (fun i => ws[i]?))[k]? = some (some q) := by rw [hC, List.getElem?_map, hq]; rfl
    rw [List.getElem?_map] at h1
    cases hi : isC[k]? with
    | none => rw [hi] at h1; cases h1
    | some i => rw [hi] at h1; exact hP i q (Option.some.inj h1)
  exact ⟨rfl, by rw [hU], by rw [hU]; exact hPc, va_K.moved hW.alike hK, (hD.sub isC hn hC).weaken (fun _ _ _ _ => trivial), nx_warm hW hN⟩
section MQ
variable {p : Program} {l : Launch} {e : Env} {R : Room} {s : State} {m : MethodId} {args : Array Value} {below : List Frame} {meth : Method} {c : Code} {H : Heap} {locs : List Loc} {cells slots : Nat} {Q : State → Prop}
variable {cc : ByteArray} {pc : Nat} {ls : Array Slot} {rest st0 : List Value} {D : va_G} {cl : List vw_C} {A : Nat → Prop} {tys : List (ClassId × FieldType)} {ws : va_W} {H0 : Heap} {mc ms : Nat} {a : Array Value}
/-- behind a call, the world in the caller's own order ('perm' names the places in the rest and the callee's new world) -/
theorem mq_back {wc wr w1 ws' : va_W} {H1 : Heap} (hP : va_P D cl ws H) (hD : va_D A ws) (hS : va_S A H0 H locs) (hA : ∀ q, H0.size ≤ q → A q) (isC isR perm : List Nat) (hC : isC.map (fun i => ws[i]?) = wc.map some) (hR : isR.map (fun i => ws[i]?) = wr.map some) (hn : va_nd isR = true) (hdis : ∀ i ∈ isR, i ∉ isC) (hnp : va_nd perm = true) (hp : perm.map (fun i => (wr ++ w1)[i]?) = ws'.map some)
    (hk : ∀ q : Nat, q < H.size → ¬ va_A wc H.size q → H1[q]? = H[q]?) (hP1 : va_P D cl w1 H1) (hD1 : va_D (va_A wc H.size) w1) : va_P D cl ws' H1 ∧ va_D A ws' := by
  obtain ⟨h1, h2⟩ := va_join hP hD isC isR hC hR hn hdis hk (va_free hD hS hA isC hC) hP1 hD1
  refine ⟨?_, h2.sub perm hnp hp⟩
  intro k q hq
  have h3 : (perm.map (fun i => (wr ++ w1)[i]?))[k]? = some (some q) := by rw [hp, List.getElem?_map, hq]; rfl
  rw [List.getElem?_map] at h3
  cases hi : perm[k]? with
  | none => rw [hi] at h3; cases h3
  | some i => rw [hi] at h3; exact h1 i q (Option.some.inj h3)
theorem mq_calli {S : Type} {post : Int32 → S → Prop} {w1 : S → va_W} {wc : va_W} (ws' : S → va_W) (hr : va_Run p l e R s m args below meth c H locs cells slots mc ms (F0 m pc ls st0) rest (va_Qi post (fun u t => mq_B D cl tys wc H.size (w1 u) t) (va_A wc H.size) a) (va_A wc H.size)) (hP : va_P D cl ws H) (hD : va_D A ws) (hS : va_S A H0 H locs) (hA : ∀ q, H0.size ≤ q → A q) (isC isR perm : List Nat) {wr : va_W} (hC : isC.map (fun i => ws[i]?) = wc.map some) (hR : isR.map (fun i => ws[i]?) = wr.map some) (hn : va_nd isR = true) (hdis : ∀ i ∈ isR, i ∉ isC) (hnp : va_nd perm = true) (hp : ∀ u, perm.map (fun i => (wr ++ w1 u)[i]?) = (ws' u).map some)
    (kk : ∀ (r : Int32) (u : S) (H1 : Heap) (locs1 : List Loc), post r u → va_P D cl (ws' u) H1 → va_D A (ws' u) → va_S A H0 H1 locs1 → W p l e R s m args below meth c H1 locs1 (cells + mc) (slots + ms) Q (F0 m (pc + 3) ls (.int r :: rest))) : W p l e R s m args below meth c H locs cells slots Q (F0 m pc ls st0) := by
  have hF := va_free hD hS hA isC hC
  refine va_calli hr hS (fun q _ h => hF q h) hF (fun r u t H1 locs1 ht hvm hw hB hz hk hS1 => ?_)
  obtain ⟨hP1, -, hD1⟩ := hB
  rw [ht] at hP1
  obtain ⟨g1, g2⟩ := mq_back hP hD hS hA isC isR perm hC hR hn hdis hnp (hp u) hk hP1 hD1
  exact kk r u H1 locs1 hw g1 g2 hS1
theorem mq_calll {S : Type} {post : Int64 → S → Prop} {w1 : S → va_W} {wc : va_W} (ws' : S → va_W) (hr : va_Run p l e R s m args below meth c H locs cells slots mc ms (F0 m pc ls st0) rest (va_Ql post (fun u t => mq_B D cl tys wc H.size (w1 u) t) (va_A wc H.size) a) (va_A wc H.size)) (hP : va_P D cl ws H) (hD : va_D A ws) (hS : va_S A H0 H locs) (hA : ∀ q, H0.size ≤ q → A q) (isC isR perm : List Nat) {wr : va_W} (hC : isC.map (fun i => ws[i]?) = wc.map some) (hR : isR.map (fun i => ws[i]?) = wr.map some) (hn : va_nd isR = true) (hdis : ∀ i ∈ isR, i ∉ isC) (hnp : va_nd perm = true) (hp : ∀ u, perm.map (fun i => (wr ++ w1 u)[i]?) = (ws' u).map some)
    (kk : ∀ (r : Int64) (u : S) (H1 : Heap) (locs1 : List Loc), post r u → va_P D cl (ws' u) H1 → va_D A (ws' u) → va_S A H0 H1 locs1 → W p l e R s m args below meth c H1 locs1 (cells + mc) (slots + ms) Q (F0 m (pc + 3) ls (.long r :: rest))) : W p l e R s m args below meth c H locs cells slots Q (F0 m pc ls st0) := by
  have hF := va_free hD hS hA isC hC
  refine va_calll hr hS (fun q _ h => hF q h) hF (fun r u t H1 locs1 ht hvm hw hB hz hk hS1 => ?_)
  obtain ⟨hP1, -, hD1⟩ := hB
  rw [ht] at hP1
  obtain ⟨g1, g2⟩ := mq_back hP hD hS hA isC isR perm hC hR hn hdis hnp (hp u) hk hP1 hD1
  exact kk r u H1 locs1 hw g1 g2 hS1
theorem mq_callv {S : Type} {post : S → Prop} {w1 : S → va_W} {wc : va_W} (ws' : S → va_W) (hr : va_Run p l e R s m args below meth c H locs cells slots mc ms (F0 m pc ls st0) rest (va_Qv post (fun u t => mq_B D cl tys wc H.size (w1 u) t) (va_A wc H.size) a) (va_A wc H.size)) (hP : va_P D cl ws H) (hD : va_D A ws) (hS : va_S A H0 H locs) (hA : ∀ q, H0.size ≤ q → A q) (isC isR perm : List Nat) {wr : va_W} (hC : isC.map (fun i => ws[i]?) = wc.map some) (hR : isR.map (fun i => ws[i]?) = wr.map some) (hn : va_nd isR = true) (hdis : ∀ i ∈ isR, i ∉ isC) (hnp : va_nd perm = true) (hp : ∀ u, perm.map (fun i => (wr ++ w1 u)[i]?) = (ws' u).map some)
    (kk : ∀ (u : S) (H1 : Heap) (locs1 : List Loc), post u → va_P D cl (ws' u) H1 → va_D A (ws' u) → va_S A H0 H1 locs1 → W p l e R s m args below meth c H1 locs1 (cells + mc) (slots + ms) Q (F0 m (pc + 3) ls rest)) : W p l e R s m args below meth c H locs cells slots Q (F0 m pc ls st0) := by
  have hF := va_free hD hS hA isC hC
  refine va_callv hr hS (fun q _ h => hF q h) hF (fun u t H1 locs1 ht hvm hw hB hz hk hS1 => ?_)
  obtain ⟨hP1, -, hD1⟩ := hB
  rw [ht] at hP1
  obtain ⟨g1, g2⟩ := mq_back hP hD hS hA isC isR perm hC hR hn hdis hnp (hp u) hk hP1 hD1
  exact kk u H1 locs1 hw g1 g2 hS1
/-- a loop: at its head pc0, with an invariant I, a measure, the world and the locals as functions of the loop's state -/
theorem mq_loop (pc0 nL : Nat) {σ : Type} (I : σ → Prop) (μ : σ → Nat) (wsf : σ → va_W) (lvf : σ → List (Nat × Value))
    (step : ∀ (x : σ), I x → (∀ (y : σ), I y → μ y < μ x → ∀ (H : Heap) (locs : List Loc) (ls : Array Slot), va_P D cl (wsf y) H → va_D A (wsf y) → va_S A H0 H locs → lv_has ls nL (lvf y) → W p l e R s m args below meth c H locs cells slots Q (F0 m pc0 ls [])) →
      ∀ (H : Heap) (locs : List Loc) (ls : Array Slot), va_P D cl (wsf x) H → va_D A (wsf x) → va_S A H0 H locs → lv_has ls nL (lvf x) → W p l e R s m args below meth c H locs cells slots Q (F0 m pc0 ls []))
    (x0 : σ) (h0 : I x0) (hP : va_P D cl (wsf x0) H) (hD : va_D A (wsf x0)) (hS : va_S A H0 H locs) (hl : lv_has ls nL (lvf x0)) : W p l e R s m args below meth c H locs cells slots Q (F0 m pc0 ls []) := by
  have key : ∀ (n : Nat) (x : σ), μ x < n → I x → ∀ (H : Heap) (locs : List Loc) (ls : Array Slot), va_P D cl (wsf x) H → va_D A (wsf x) → va_S A H0 H locs → lv_has ls nL (lvf x) → W p l e R s m args below meth c H locs cells slots Q (F0 m pc0 ls []) := by
    intro n
    induction n with
    | zero => intro x h; exact absurd h (Nat.not_lt_zero _)
    | succ n ih => intro x h hI; exact step x hI (fun y hy hlt => ih y (by omega) hy)
  exact key (μ x0 + 1) x0 (Nat.lt_succ_self _) h0 H locs ls hP hD hS hl
/-- a place where roads meet: proved once, used at each -/
theorem mq_meet (pc0 nL : Nat) {σ : Type} (I : σ → Prop) (wsf : σ → va_W) (lvf : σ → List (Nat × Value)) (stf : σ → List Value) {g : JFrame}
    (cont : ∀ (x : σ), I x → ∀ (H : Heap) (locs : List Loc) (ls : Array Slot), va_P D cl (wsf x) H → va_D A (wsf x) → va_S A H0 H locs → lv_has ls nL (lvf x) → W p l e R s m args below meth c H locs cells slots Q (F0 m pc0 ls (stf x)))
    (k : (∀ (x : σ), I x → ∀ (H : Heap) (locs : List Loc) (ls : Array Slot), va_P D cl (wsf x) H → va_D A (wsf x) → va_S A H0 H locs → lv_has ls nL (lvf x) → W p l e R s m args below meth c H locs cells slots Q (F0 m pc0 ls (stf x))) → W p l e R s m args below meth c H locs cells slots Q g) : W p l e R s m args below meth c H locs cells slots Q g := k cont
end MQ
