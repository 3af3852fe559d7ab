theorem tokl_8 : (((tb 148).drop 400).take 50).all (okr 148) = true := by decide +kernel
