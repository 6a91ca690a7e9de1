theorem nx_law {A : Array Value} {s : State} (hts : ∀ w ∈ lw_tbl, w.before A s = true) : nx_W s := by
  intro w hw
  simp only [nx_L, List.mem_cons, List.not_mem_nil, or_false] at hw
  rcases hw with rfl | rfl | rfl | rfl | rfl | rfl <;> exact va_Nw.of rfl (hts _ (by decide +kernel))
