theorem tokl_7 : (((tb 148).drop 350).take 50).all (okr 148) = true := by decide +kernel
