theorem tokl_3 : (((tb 148).drop 150).take 50).all (okr 148) = true := by decide +kernel
