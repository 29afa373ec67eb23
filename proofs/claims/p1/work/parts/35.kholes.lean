/-! Calls whose ranges are proved apart -/
theorem kTi_cock {x y : Int32} (h0 : 0 ≤ x.toInt) (h1 : x.toInt ≤ 60) (h2 : 2 ≤ y.toInt) (h3 : y.toInt ≤ 9) : kSame 40 true 172 290 [.int x, .int y] kH0 := sorry
theorem kTi_back {x y : Int32} (h0 : 0 ≤ x.toInt) (h1 : x.toInt ≤ 8) (h2 : 0 ≤ y.toInt) (h3 : y.toInt ≤ 8) : kSame 40 true 164 282 [.int x, .int y] kH0 := sorry
theorem kTi_opn {x y : Int32} (h0 : 0 ≤ x.toInt) (h1 : x.toInt ≤ 8) (h2 : 0 ≤ y.toInt) (h3 : y.toInt ≤ 8) : kSame 40 true 165 283 [.int x, .int y] kH0 := sorry
