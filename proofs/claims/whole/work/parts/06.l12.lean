theorem tokl_12 : (((tb 148).drop 600).take 50).all (okr 148) = true := by decide +kernel
