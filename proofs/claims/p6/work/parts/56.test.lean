def cw_bw : List Cond := [Cond.initialized RX0]
theorem cw_bw_good : cw_bw.all goodWord = true := by decide +kernel
