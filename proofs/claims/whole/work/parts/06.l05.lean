theorem tokl_5 : (((tb 148).drop 250).take 50).all (okr 148) = true := by decide +kernel
