theorem sz_n0 (co : Int32) : ¬ (f_R_size co).toInt64 = 0 := by
  unfold f_R_size
  repeat' split
  all_goals decide
