theorem tt_1 : cd 17 0 = cd 17 0 := by rfl
theorem tt_2 (a b : Nat) (h : a < b) : a ≤ b := by grind
theorem tt_3 : (goodWord (.arrayOver (.object RX0))) = false := by decide +kernel
theorem tt_4 : nst.all (fun w => goodWord w) = false := by decide +kernel
theorem tt_5 : (lw_tbl.filter (fun w => !goodWord w)).length = 0 := by decide +kernel
example (x : Int) (h : 0 ≤ x) (h2 : x < 5) : Int.bmod x 4294967296 = x := by omega
example : cd 17 0 = (1,2,3,4,[]) := by rfl
example (x y : Int32) : (x + y).toInt = 0 := by rw [Int32.toInt_add]
example (x y : Int32) : (x * y).toInt = 0 := by rw [Int32.toInt_mul]
example (x y : Int32) : (x - y).toInt = 0 := by rw [Int32.toInt_sub]
example (x y : Int32) : (x / y).toInt = 0 := by rw [Int32.toInt_div]
example (x y : Int32) : (-x).toInt = 0 := by rw [Int32.toInt_neg]
example (x y : Int64) : (x / y).toInt = 0 := by rw [Int64.toInt_div]
example (x y : Int32) : x < y ↔ x.toInt < y.toInt := by exact Int32.lt_iff_toInt_lt
example (x y : Int32) : x ≤ y ↔ x.toInt ≤ y.toInt := by exact Int32.le_iff_toInt_le
example (x y : Int32) (h : x.toInt = y.toInt) : x = y := by exact Int32.toInt_inj.mp h
