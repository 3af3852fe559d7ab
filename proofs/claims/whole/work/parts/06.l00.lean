theorem tokl_0 : (((tb 148).drop 0).take 50).all (okr 148) = true := by decide +kernel
