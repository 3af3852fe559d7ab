theorem tokl_9 : (((tb 148).drop 450).take 50).all (okr 148) = true := by decide +kernel
