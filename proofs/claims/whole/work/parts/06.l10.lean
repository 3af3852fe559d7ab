theorem tokl_10 : (((tb 148).drop 500).take 50).all (okr 148) = true := by decide +kernel
