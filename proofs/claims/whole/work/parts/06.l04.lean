theorem tokl_4 : (((tb 148).drop 200).take 50).all (okr 148) = true := by decide +kernel
