theorem tokl_11 : (((tb 148).drop 550).take 50).all (okr 148) = true := by decide +kernel
