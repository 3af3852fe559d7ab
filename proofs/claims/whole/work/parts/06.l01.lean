theorem tokl_1 : (((tb 148).drop 50).take 50).all (okr 148) = true := by decide +kernel
