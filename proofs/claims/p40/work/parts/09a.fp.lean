/-! no mean is NaN: all of them, by the kernel -/
def mea_ok (n s : Nat) : Bool := decide (FP.ddiv (FP.i2d (iI (s : Int))) (FP.i2d (iI (n : Int))) &&& 0x7fffffffffffffff ≤ (0x7ff0000000000000 : UInt64))
theorem mea_1 : (List.range 100).all (mea_ok 1) = true := by decide +kernel
theorem mea_2 : (List.range 199).all (mea_ok 2) = true := by decide +kernel
theorem mea_3 : (List.range 298).all (mea_ok 3) = true := by decide +kernel
theorem mea_4 : (List.range 397).all (mea_ok 4) = true := by decide +kernel
theorem mea_5 : (List.range 496).all (mea_ok 5) = true := by decide +kernel
theorem mea_6 : (List.range 595).all (mea_ok 6) = true := by decide +kernel
theorem mea_7 : (List.range 694).all (mea_ok 7) = true := by decide +kernel
theorem mea_8 : (List.range 793).all (mea_ok 8) = true := by decide +kernel
theorem mea_9 : (List.range 892).all (mea_ok 9) = true := by decide +kernel
theorem mea_10 : (List.range 991).all (mea_ok 10) = true := by decide +kernel
theorem mea_11 : (List.range 1090).all (mea_ok 11) = true := by decide +kernel
theorem mea_12 : (List.range 1189).all (mea_ok 12) = true := by decide +kernel
theorem mea_13 : (List.range 1288).all (mea_ok 13) = true := by decide +kernel
theorem mea_14 : (List.range 1387).all (mea_ok 14) = true := by decide +kernel
theorem mea_15 : (List.range 1486).all (mea_ok 15) = true := by decide +kernel
theorem mea_16 : (List.range 1585).all (mea_ok 16) = true := by decide +kernel
theorem mea_17 : (List.range 1684).all (mea_ok 17) = true := by decide +kernel
theorem mea_18 : (List.range 1783).all (mea_ok 18) = true := by decide +kernel
theorem mea_19 : (List.range 1882).all (mea_ok 19) = true := by decide +kernel
theorem mea_20 : (List.range 1981).all (mea_ok 20) = true := by decide +kernel
