set_option linter.all false
theorem zm9 : (-9 : Int32) = zI (-9) := by rw [z_n 9, z_neg]
theorem zm20 : (-20 : Int32) = zI (-20) := by rw [z_n 20, z_neg]
theorem zm31 : (-31 : Int32) = zI (-31) := by rw [z_n 31, z_neg]
