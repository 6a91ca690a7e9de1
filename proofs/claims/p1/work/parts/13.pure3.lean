theorem ex_0 (v : Int32) : (0 : Int32) ^^^ v = v := by
  apply Int32.toBitVec_inj.mp
  simp
def st_of (n : Nat) (x : Int32) : Int32 := if x = 0 then 0 else if x = 1 then 0 else if x = 2 then 1 else if x = 3 then nI n else -1
def e_end (x : Int32) : Int32 := if x < 0 then -2 else if x ≤ 3 then 0 else -2
