theorem tokl_13 : (((tb 148).drop 650).take 50).all (okr 148) = true := by decide +kernel
