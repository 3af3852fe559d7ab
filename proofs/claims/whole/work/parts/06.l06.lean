theorem tokl_6 : (((tb 148).drop 300).take 50).all (okr 148) = true := by decide +kernel
