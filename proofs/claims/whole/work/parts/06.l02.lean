theorem tokl_2 : (((tb 148).drop 100).take 50).all (okr 148) = true := by decide +kernel
