theorem to8 (v : Int32) : (v.toInt8.toInt32).toInt8.toInt32 = v.toInt8.toInt32 := by
  have h := pk_nb v
  exact congrArg (fun z => match z with | Value.int a => a | _ => 0) h
