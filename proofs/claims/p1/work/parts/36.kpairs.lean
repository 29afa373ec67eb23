/-! back and open, the pairs -/
theorem kq_back_0_0 : kchk2 200000 40 true 164 282 [.int (fo_i 0), .int (fo_i 0)] kH0 = true := by decide +kernel
theorem kq_back_0_1 : kchk2 200000 40 true 164 282 [.int (fo_i 0), .int (fo_i 1)] kH0 = true := by decide +kernel
theorem kq_back_0_2 : kchk2 200000 40 true 164 282 [.int (fo_i 0), .int (fo_i 2)] kH0 = true := by decide +kernel
theorem kq_back_0_3 : kchk2 200000 40 true 164 282 [.int (fo_i 0), .int (fo_i 3)] kH0 = true := by decide +kernel
theorem kq_back_0_4 : kchk2 200000 40 true 164 282 [.int (fo_i 0), .int (fo_i 4)] kH0 = true := by decide +kernel
theorem kq_back_0_5 : kchk2 200000 40 true 164 282 [.int (fo_i 0), .int (fo_i 5)] kH0 = true := by decide +kernel
theorem kq_back_0_6 : kchk2 200000 40 true 164 282 [.int (fo_i 0), .int (fo_i 6)] kH0 = true := by decide +kernel
theorem kq_back_0_7 : kchk2 200000 40 true 164 282 [.int (fo_i 0), .int (fo_i 7)] kH0 = true := by decide +kernel
theorem kq_back_0_8 : kchk2 200000 40 true 164 282 [.int (fo_i 0), .int (fo_i 8)] kH0 = true := by decide +kernel
theorem kqb_back_0 : ∀ y, y < 9 → kchk2 200000 40 true 164 282 [.int (fo_i 0), .int (fo_i y)] kH0 = true := (ksuc (ksuc (ksuc (ksuc (ksuc (ksuc (ksuc (ksuc (ksuc kzer kq_back_0_0) kq_back_0_1) kq_back_0_2) kq_back_0_3) kq_back_0_4) kq_back_0_5) kq_back_0_6) kq_back_0_7) kq_back_0_8)
theorem kq_back_1_0 : kchk2 200000 40 true 164 282 [.int (fo_i 1), .int (fo_i 0)] kH0 = true := by decide +kernel
theorem kq_back_1_1 : kchk2 200000 40 true 164 282 [.int (fo_i 1), .int (fo_i 1)] kH0 = true := by decide +kernel
theorem kq_back_1_2 : kchk2 200000 40 true 164 282 [.int (fo_i 1), .int (fo_i 2)] kH0 = true := by decide +kernel
theorem kq_back_1_3 : kchk2 200000 40 true 164 282 [.int (fo_i 1), .int (fo_i 3)] kH0 = true := by decide +kernel
theorem kq_back_1_4 : kchk2 200000 40 true 164 282 [.int (fo_i 1), .int (fo_i 4)] kH0 = true := by decide +kernel
theorem kq_back_1_5 : kchk2 200000 40 true 164 282 [.int (fo_i 1), .int (fo_i 5)] kH0 = true := by decide +kernel
theorem kq_back_1_6 : kchk2 200000 40 true 164 282 [.int (fo_i 1), .int (fo_i 6)] kH0 = true := by decide +kernel
theorem kq_back_1_7 : kchk2 200000 40 true 164 282 [.int (fo_i 1), .int (fo_i 7)] kH0 = true := by decide +kernel
theorem kq_back_1_8 : kchk2 200000 40 true 164 282 [.int (fo_i 1), .int (fo_i 8)] kH0 = true := by decide +kernel
theorem kqb_back_1 : ∀ y, y < 9 → kchk2 200000 40 true 164 282 [.int (fo_i 1), .int (fo_i y)] kH0 = true := (ksuc (ksuc (ksuc (ksuc (ksuc (ksuc (ksuc (ksuc (ksuc kzer kq_back_1_0) kq_back_1_1) kq_back_1_2) kq_back_1_3) kq_back_1_4) kq_back_1_5) kq_back_1_6) kq_back_1_7) kq_back_1_8)
theorem kq_back_2_0 : kchk2 200000 40 true 164 282 [.int (fo_i 2), .int (fo_i 0)] kH0 = true := by decide +kernel
theorem kq_back_2_1 : kchk2 200000 40 true 164 282 [.int (fo_i 2), .int (fo_i 1)] kH0 = true := by decide +kernel
theorem kq_back_2_2 : kchk2 200000 40 true 164 282 [.int (fo_i 2), .int (fo_i 2)] kH0 = true := by decide +kernel
theorem kq_back_2_3 : kchk2 200000 40 true 164 282 [.int (fo_i 2), .int (fo_i 3)] kH0 = true := by decide +kernel
theorem kq_back_2_4 : kchk2 200000 40 true 164 282 [.int (fo_i 2), .int (fo_i 4)] kH0 = true := by decide +kernel
theorem kq_back_2_5 : kchk2 200000 40 true 164 282 [.int (fo_i 2), .int (fo_i 5)] kH0 = true := by decide +kernel
theorem kq_back_2_6 : kchk2 200000 40 true 164 282 [.int (fo_i 2), .int (fo_i 6)] kH0 = true := by decide +kernel
theorem kq_back_2_7 : kchk2 200000 40 true 164 282 [.int (fo_i 2), .int (fo_i 7)] kH0 = true := by decide +kernel
theorem kq_back_2_8 : kchk2 200000 40 true 164 282 [.int (fo_i 2), .int (fo_i 8)] kH0 = true := by decide +kernel
theorem kqb_back_2 : ∀ y, y < 9 → kchk2 200000 40 true 164 282 [.int (fo_i 2), .int (fo_i y)] kH0 = true := (ksuc (ksuc (ksuc (ksuc (ksuc (ksuc (ksuc (ksuc (ksuc kzer kq_back_2_0) kq_back_2_1) kq_back_2_2) kq_back_2_3) kq_back_2_4) kq_back_2_5) kq_back_2_6) kq_back_2_7) kq_back_2_8)
theorem kq_back_3_0 : kchk2 200000 40 true 164 282 [.int (fo_i 3), .int (fo_i 0)] kH0 = true := by decide +kernel
theorem kq_back_3_1 : kchk2 200000 40 true 164 282 [.int (fo_i 3), .int (fo_i 1)] kH0 = true := by decide +kernel
theorem kq_back_3_2 : kchk2 200000 40 true 164 282 [.int (fo_i 3), .int (fo_i 2)] kH0 = true := by decide +kernel
theorem kq_back_3_3 : kchk2 200000 40 true 164 282 [.int (fo_i 3), .int (fo_i 3)] kH0 = true := by decide +kernel
theorem kq_back_3_4 : kchk2 200000 40 true 164 282 [.int (fo_i 3), .int (fo_i 4)] kH0 = true := by decide +kernel
theorem kq_back_3_5 : kchk2 200000 40 true 164 282 [.int (fo_i 3), .int (fo_i 5)] kH0 = true := by decide +kernel
theorem kq_back_3_6 : kchk2 200000 40 true 164 282 [.int (fo_i 3), .int (fo_i 6)] kH0 = true := by decide +kernel
theorem kq_back_3_7 : kchk2 200000 40 true 164 282 [.int (fo_i 3), .int (fo_i 7)] kH0 = true := by decide +kernel
theorem kq_back_3_8 : kchk2 200000 40 true 164 282 [.int (fo_i 3), .int (fo_i 8)] kH0 = true := by decide +kernel
theorem kqb_back_3 : ∀ y, y < 9 → kchk2 200000 40 true 164 282 [.int (fo_i 3), .int (fo_i y)] kH0 = true := (ksuc (ksuc (ksuc (ksuc (ksuc (ksuc (ksuc (ksuc (ksuc kzer kq_back_3_0) kq_back_3_1) kq_back_3_2) kq_back_3_3) kq_back_3_4) kq_back_3_5) kq_back_3_6) kq_back_3_7) kq_back_3_8)
theorem kq_back_4_0 : kchk2 200000 40 true 164 282 [.int (fo_i 4), .int (fo_i 0)] kH0 = true := by decide +kernel
theorem kq_back_4_1 : kchk2 200000 40 true 164 282 [.int (fo_i 4), .int (fo_i 1)] kH0 = true := by decide +kernel
theorem kq_back_4_2 : kchk2 200000 40 true 164 282 [.int (fo_i 4), .int (fo_i 2)] kH0 = true := by decide +kernel
theorem kq_back_4_3 : kchk2 200000 40 true 164 282 [.int (fo_i 4), .int (fo_i 3)] kH0 = true := by decide +kernel
theorem kq_back_4_4 : kchk2 200000 40 true 164 282 [.int (fo_i 4), .int (fo_i 4)] kH0 = true := by decide +kernel
theorem kq_back_4_5 : kchk2 200000 40 true 164 282 [.int (fo_i 4), .int (fo_i 5)] kH0 = true := by decide +kernel
theorem kq_back_4_6 : kchk2 200000 40 true 164 282 [.int (fo_i 4), .int (fo_i 6)] kH0 = true := by decide +kernel
theorem kq_back_4_7 : kchk2 200000 40 true 164 282 [.int (fo_i 4), .int (fo_i 7)] kH0 = true := by decide +kernel
theorem kq_back_4_8 : kchk2 200000 40 true 164 282 [.int (fo_i 4), .int (fo_i 8)] kH0 = true := by decide +kernel
theorem kqb_back_4 : ∀ y, y < 9 → kchk2 200000 40 true 164 282 [.int (fo_i 4), .int (fo_i y)] kH0 = true := (ksuc (ksuc (ksuc (ksuc (ksuc (ksuc (ksuc (ksuc (ksuc kzer kq_back_4_0) kq_back_4_1) kq_back_4_2) kq_back_4_3) kq_back_4_4) kq_back_4_5) kq_back_4_6) kq_back_4_7) kq_back_4_8)
theorem kq_back_5_0 : kchk2 200000 40 true 164 282 [.int (fo_i 5), .int (fo_i 0)] kH0 = true := by decide +kernel
theorem kq_back_5_1 : kchk2 200000 40 true 164 282 [.int (fo_i 5), .int (fo_i 1)] kH0 = true := by decide +kernel
theorem kq_back_5_2 : kchk2 200000 40 true 164 282 [.int (fo_i 5), .int (fo_i 2)] kH0 = true := by decide +kernel
theorem kq_back_5_3 : kchk2 200000 40 true 164 282 [.int (fo_i 5), .int (fo_i 3)] kH0 = true := by decide +kernel
theorem kq_back_5_4 : kchk2 200000 40 true 164 282 [.int (fo_i 5), .int (fo_i 4)] kH0 = true := by decide +kernel
theorem kq_back_5_5 : kchk2 200000 40 true 164 282 [.int (fo_i 5), .int (fo_i 5)] kH0 = true := by decide +kernel
theorem kq_back_5_6 : kchk2 200000 40 true 164 282 [.int (fo_i 5), .int (fo_i 6)] kH0 = true := by decide +kernel
theorem kq_back_5_7 : kchk2 200000 40 true 164 282 [.int (fo_i 5), .int (fo_i 7)] kH0 = true := by decide +kernel
theorem kq_back_5_8 : kchk2 200000 40 true 164 282 [.int (fo_i 5), .int (fo_i 8)] kH0 = true := by decide +kernel
theorem kqb_back_5 : ∀ y, y < 9 → kchk2 200000 40 true 164 282 [.int (fo_i 5), .int (fo_i y)] kH0 = true := (ksuc (ksuc (ksuc (ksuc (ksuc (ksuc (ksuc (ksuc (ksuc kzer kq_back_5_0) kq_back_5_1) kq_back_5_2) kq_back_5_3) kq_back_5_4) kq_back_5_5) kq_back_5_6) kq_back_5_7) kq_back_5_8)
theorem kq_back_6_0 : kchk2 200000 40 true 164 282 [.int (fo_i 6), .int (fo_i 0)] kH0 = true := by decide +kernel
theorem kq_back_6_1 : kchk2 200000 40 true 164 282 [.int (fo_i 6), .int (fo_i 1)] kH0 = true := by decide +kernel
theorem kq_back_6_2 : kchk2 200000 40 true 164 282 [.int (fo_i 6), .int (fo_i 2)] kH0 = true := by decide +kernel
theorem kq_back_6_3 : kchk2 200000 40 true 164 282 [.int (fo_i 6), .int (fo_i 3)] kH0 = true := by decide +kernel
theorem kq_back_6_4 : kchk2 200000 40 true 164 282 [.int (fo_i 6), .int (fo_i 4)] kH0 = true := by decide +kernel
theorem kq_back_6_5 : kchk2 200000 40 true 164 282 [.int (fo_i 6), .int (fo_i 5)] kH0 = true := by decide +kernel
theorem kq_back_6_6 : kchk2 200000 40 true 164 282 [.int (fo_i 6), .int (fo_i 6)] kH0 = true := by decide +kernel
theorem kq_back_6_7 : kchk2 200000 40 true 164 282 [.int (fo_i 6), .int (fo_i 7)] kH0 = true := by decide +kernel
theorem kq_back_6_8 : kchk2 200000 40 true 164 282 [.int (fo_i 6), .int (fo_i 8)] kH0 = true := by decide +kernel
theorem kqb_back_6 : ∀ y, y < 9 → kchk2 200000 40 true 164 282 [.int (fo_i 6), .int (fo_i y)] kH0 = true := (ksuc (ksuc (ksuc (ksuc (ksuc (ksuc (ksuc (ksuc (ksuc kzer kq_back_6_0) kq_back_6_1) kq_back_6_2) kq_back_6_3) kq_back_6_4) kq_back_6_5) kq_back_6_6) kq_back_6_7) kq_back_6_8)
theorem kq_back_7_0 : kchk2 200000 40 true 164 282 [.int (fo_i 7), .int (fo_i 0)] kH0 = true := by decide +kernel
theorem kq_back_7_1 : kchk2 200000 40 true 164 282 [.int (fo_i 7), .int (fo_i 1)] kH0 = true := by decide +kernel
theorem kq_back_7_2 : kchk2 200000 40 true 164 282 [.int (fo_i 7), .int (fo_i 2)] kH0 = true := by decide +kernel
theorem kq_back_7_3 : kchk2 200000 40 true 164 282 [.int (fo_i 7), .int (fo_i 3)] kH0 = true := by decide +kernel
theorem kq_back_7_4 : kchk2 200000 40 true 164 282 [.int (fo_i 7), .int (fo_i 4)] kH0 = true := by decide +kernel
theorem kq_back_7_5 : kchk2 200000 40 true 164 282 [.int (fo_i 7), .int (fo_i 5)] kH0 = true := by decide +kernel
theorem kq_back_7_6 : kchk2 200000 40 true 164 282 [.int (fo_i 7), .int (fo_i 6)] kH0 = true := by decide +kernel
theorem kq_back_7_7 : kchk2 200000 40 true 164 282 [.int (fo_i 7), .int (fo_i 7)] kH0 = true := by decide +kernel
theorem kq_back_7_8 : kchk2 200000 40 true 164 282 [.int (fo_i 7), .int (fo_i 8)] kH0 = true := by decide +kernel
theorem kqb_back_7 : ∀ y, y < 9 → kchk2 200000 40 true 164 282 [.int (fo_i 7), .int (fo_i y)] kH0 = true := (ksuc (ksuc (ksuc (ksuc (ksuc (ksuc (ksuc (ksuc (ksuc kzer kq_back_7_0) kq_back_7_1) kq_back_7_2) kq_back_7_3) kq_back_7_4) kq_back_7_5) kq_back_7_6) kq_back_7_7) kq_back_7_8)
theorem kq_back_8_0 : kchk2 200000 40 true 164 282 [.int (fo_i 8), .int (fo_i 0)] kH0 = true := by decide +kernel
theorem kq_back_8_1 : kchk2 200000 40 true 164 282 [.int (fo_i 8), .int (fo_i 1)] kH0 = true := by decide +kernel
theorem kq_back_8_2 : kchk2 200000 40 true 164 282 [.int (fo_i 8), .int (fo_i 2)] kH0 = true := by decide +kernel
theorem kq_back_8_3 : kchk2 200000 40 true 164 282 [.int (fo_i 8), .int (fo_i 3)] kH0 = true := by decide +kernel
theorem kq_back_8_4 : kchk2 200000 40 true 164 282 [.int (fo_i 8), .int (fo_i 4)] kH0 = true := by decide +kernel
theorem kq_back_8_5 : kchk2 200000 40 true 164 282 [.int (fo_i 8), .int (fo_i 5)] kH0 = true := by decide +kernel
theorem kq_back_8_6 : kchk2 200000 40 true 164 282 [.int (fo_i 8), .int (fo_i 6)] kH0 = true := by decide +kernel
theorem kq_back_8_7 : kchk2 200000 40 true 164 282 [.int (fo_i 8), .int (fo_i 7)] kH0 = true := by decide +kernel
theorem kq_back_8_8 : kchk2 200000 40 true 164 282 [.int (fo_i 8), .int (fo_i 8)] kH0 = true := by decide +kernel
theorem kqb_back_8 : ∀ y, y < 9 → kchk2 200000 40 true 164 282 [.int (fo_i 8), .int (fo_i y)] kH0 = true := (ksuc (ksuc (ksuc (ksuc (ksuc (ksuc (ksuc (ksuc (ksuc kzer kq_back_8_0) kq_back_8_1) kq_back_8_2) kq_back_8_3) kq_back_8_4) kq_back_8_5) kq_back_8_6) kq_back_8_7) kq_back_8_8)
theorem kqb_back : ∀ x, x < 9 → ∀ y, y < 9 → kchk2 200000 40 true 164 282 [.int (fo_i x), .int (fo_i y)] kH0 = true := (ksuc (ksuc (ksuc (ksuc (ksuc (ksuc (ksuc (ksuc (ksuc kzer kqb_back_0) kqb_back_1) kqb_back_2) kqb_back_3) kqb_back_4) kqb_back_5) kqb_back_6) kqb_back_7) kqb_back_8)
theorem kTi_back {x y : Int32} (h0 : 0 ≤ x.toInt) (h1 : x.toInt ≤ 8) (h2 : 0 ≤ y.toInt) (h3 : y.toInt ≤ 8) : kSame 40 true 164 282 [.int x, .int y] kH0 := by
  obtain ⟨f, hf, rfl⟩ := sx_r (x := x) (n := 9) (by decide) h0 (by omega)
  obtain ⟨g, hg, rfl⟩ := sx_r (x := y) (n := 9) (by decide) h2 (by omega)
  exact kchk2_ok (kqb_back f hf g hg)
theorem kq_opn_0_0 : kchk2 200000 40 true 165 283 [.int (fo_i 0), .int (fo_i 0)] kH0 = true := by decide +kernel
theorem kq_opn_0_1 : kchk2 200000 40 true 165 283 [.int (fo_i 0), .int (fo_i 1)] kH0 = true := by decide +kernel
theorem kq_opn_0_2 : kchk2 200000 40 true 165 283 [.int (fo_i 0), .int (fo_i 2)] kH0 = true := by decide +kernel
theorem kq_opn_0_3 : kchk2 200000 40 true 165 283 [.int (fo_i 0), .int (fo_i 3)] kH0 = true := by decide +kernel
theorem kq_opn_0_4 : kchk2 200000 40 true 165 283 [.int (fo_i 0), .int (fo_i 4)] kH0 = true := by decide +kernel
theorem kq_opn_0_5 : kchk2 200000 40 true 165 283 [.int (fo_i 0), .int (fo_i 5)] kH0 = true := by decide +kernel
theorem kq_opn_0_6 : kchk2 200000 40 true 165 283 [.int (fo_i 0), .int (fo_i 6)] kH0 = true := by decide +kernel
theorem kq_opn_0_7 : kchk2 200000 40 true 165 283 [.int (fo_i 0), .int (fo_i 7)] kH0 = true := by decide +kernel
theorem kq_opn_0_8 : kchk2 200000 40 true 165 283 [.int (fo_i 0), .int (fo_i 8)] kH0 = true := by decide +kernel
theorem kqb_opn_0 : ∀ y, y < 9 → kchk2 200000 40 true 165 283 [.int (fo_i 0), .int (fo_i y)] kH0 = true := (ksuc (ksuc (ksuc (ksuc (ksuc (ksuc (ksuc (ksuc (ksuc kzer kq_opn_0_0) kq_opn_0_1) kq_opn_0_2) kq_opn_0_3) kq_opn_0_4) kq_opn_0_5) kq_opn_0_6) kq_opn_0_7) kq_opn_0_8)
theorem kq_opn_1_0 : kchk2 200000 40 true 165 283 [.int (fo_i 1), .int (fo_i 0)] kH0 = true := by decide +kernel
theorem kq_opn_1_1 : kchk2 200000 40 true 165 283 [.int (fo_i 1), .int (fo_i 1)] kH0 = true := by decide +kernel
theorem kq_opn_1_2 : kchk2 200000 40 true 165 283 [.int (fo_i 1), .int (fo_i 2)] kH0 = true := by decide +kernel
theorem kq_opn_1_3 : kchk2 200000 40 true 165 283 [.int (fo_i 1), .int (fo_i 3)] kH0 = true := by decide +kernel
theorem kq_opn_1_4 : kchk2 200000 40 true 165 283 [.int (fo_i 1), .int (fo_i 4)] kH0 = true := by decide +kernel
theorem kq_opn_1_5 : kchk2 200000 40 true 165 283 [.int (fo_i 1), .int (fo_i 5)] kH0 = true := by decide +kernel
theorem kq_opn_1_6 : kchk2 200000 40 true 165 283 [.int (fo_i 1), .int (fo_i 6)] kH0 = true := by decide +kernel
theorem kq_opn_1_7 : kchk2 200000 40 true 165 283 [.int (fo_i 1), .int (fo_i 7)] kH0 = true := by decide +kernel
theorem kq_opn_1_8 : kchk2 200000 40 true 165 283 [.int (fo_i 1), .int (fo_i 8)] kH0 = true := by decide +kernel
theorem kqb_opn_1 : ∀ y, y < 9 → kchk2 200000 40 true 165 283 [.int (fo_i 1), .int (fo_i y)] kH0 = true := (ksuc (ksuc (ksuc (ksuc (ksuc (ksuc (ksuc (ksuc (ksuc kzer kq_opn_1_0) kq_opn_1_1) kq_opn_1_2) kq_opn_1_3) kq_opn_1_4) kq_opn_1_5) kq_opn_1_6) kq_opn_1_7) kq_opn_1_8)
theorem kq_opn_2_0 : kchk2 200000 40 true 165 283 [.int (fo_i 2), .int (fo_i 0)] kH0 = true := by decide +kernel
theorem kq_opn_2_1 : kchk2 200000 40 true 165 283 [.int (fo_i 2), .int (fo_i 1)] kH0 = true := by decide +kernel
theorem kq_opn_2_2 : kchk2 200000 40 true 165 283 [.int (fo_i 2), .int (fo_i 2)] kH0 = true := by decide +kernel
theorem kq_opn_2_3 : kchk2 200000 40 true 165 283 [.int (fo_i 2), .int (fo_i 3)] kH0 = true := by decide +kernel
theorem kq_opn_2_4 : kchk2 200000 40 true 165 283 [.int (fo_i 2), .int (fo_i 4)] kH0 = true := by decide +kernel
theorem kq_opn_2_5 : kchk2 200000 40 true 165 283 [.int (fo_i 2), .int (fo_i 5)] kH0 = true := by decide +kernel
theorem kq_opn_2_6 : kchk2 200000 40 true 165 283 [.int (fo_i 2), .int (fo_i 6)] kH0 = true := by decide +kernel
theorem kq_opn_2_7 : kchk2 200000 40 true 165 283 [.int (fo_i 2), .int (fo_i 7)] kH0 = true := by decide +kernel
theorem kq_opn_2_8 : kchk2 200000 40 true 165 283 [.int (fo_i 2), .int (fo_i 8)] kH0 = true := by decide +kernel
theorem kqb_opn_2 : ∀ y, y < 9 → kchk2 200000 40 true 165 283 [.int (fo_i 2), .int (fo_i y)] kH0 = true := (ksuc (ksuc (ksuc (ksuc (ksuc (ksuc (ksuc (ksuc (ksuc kzer kq_opn_2_0) kq_opn_2_1) kq_opn_2_2) kq_opn_2_3) kq_opn_2_4) kq_opn_2_5) kq_opn_2_6) kq_opn_2_7) kq_opn_2_8)
theorem kq_opn_3_0 : kchk2 200000 40 true 165 283 [.int (fo_i 3), .int (fo_i 0)] kH0 = true := by decide +kernel
theorem kq_opn_3_1 : kchk2 200000 40 true 165 283 [.int (fo_i 3), .int (fo_i 1)] kH0 = true := by decide +kernel
theorem kq_opn_3_2 : kchk2 200000 40 true 165 283 [.int (fo_i 3), .int (fo_i 2)] kH0 = true := by decide +kernel
theorem kq_opn_3_3 : kchk2 200000 40 true 165 283 [.int (fo_i 3), .int (fo_i 3)] kH0 = true := by decide +kernel
theorem kq_opn_3_4 : kchk2 200000 40 true 165 283 [.int (fo_i 3), .int (fo_i 4)] kH0 = true := by decide +kernel
theorem kq_opn_3_5 : kchk2 200000 40 true 165 283 [.int (fo_i 3), .int (fo_i 5)] kH0 = true := by decide +kernel
theorem kq_opn_3_6 : kchk2 200000 40 true 165 283 [.int (fo_i 3), .int (fo_i 6)] kH0 = true := by decide +kernel
theorem kq_opn_3_7 : kchk2 200000 40 true 165 283 [.int (fo_i 3), .int (fo_i 7)] kH0 = true := by decide +kernel
theorem kq_opn_3_8 : kchk2 200000 40 true 165 283 [.int (fo_i 3), .int (fo_i 8)] kH0 = true := by decide +kernel
theorem kqb_opn_3 : ∀ y, y < 9 → kchk2 200000 40 true 165 283 [.int (fo_i 3), .int (fo_i y)] kH0 = true := (ksuc (ksuc (ksuc (ksuc (ksuc (ksuc (ksuc (ksuc (ksuc kzer kq_opn_3_0) kq_opn_3_1) kq_opn_3_2) kq_opn_3_3) kq_opn_3_4) kq_opn_3_5) kq_opn_3_6) kq_opn_3_7) kq_opn_3_8)
theorem kq_opn_4_0 : kchk2 200000 40 true 165 283 [.int (fo_i 4), .int (fo_i 0)] kH0 = true := by decide +kernel
theorem kq_opn_4_1 : kchk2 200000 40 true 165 283 [.int (fo_i 4), .int (fo_i 1)] kH0 = true := by decide +kernel
theorem kq_opn_4_2 : kchk2 200000 40 true 165 283 [.int (fo_i 4), .int (fo_i 2)] kH0 = true := by decide +kernel
theorem kq_opn_4_3 : kchk2 200000 40 true 165 283 [.int (fo_i 4), .int (fo_i 3)] kH0 = true := by decide +kernel
theorem kq_opn_4_4 : kchk2 200000 40 true 165 283 [.int (fo_i 4), .int (fo_i 4)] kH0 = true := by decide +kernel
theorem kq_opn_4_5 : kchk2 200000 40 true 165 283 [.int (fo_i 4), .int (fo_i 5)] kH0 = true := by decide +kernel
theorem kq_opn_4_6 : kchk2 200000 40 true 165 283 [.int (fo_i 4), .int (fo_i 6)] kH0 = true := by decide +kernel
theorem kq_opn_4_7 : kchk2 200000 40 true 165 283 [.int (fo_i 4), .int (fo_i 7)] kH0 = true := by decide +kernel
theorem kq_opn_4_8 : kchk2 200000 40 true 165 283 [.int (fo_i 4), .int (fo_i 8)] kH0 = true := by decide +kernel
theorem kqb_opn_4 : ∀ y, y < 9 → kchk2 200000 40 true 165 283 [.int (fo_i 4), .int (fo_i y)] kH0 = true := (ksuc (ksuc (ksuc (ksuc (ksuc (ksuc (ksuc (ksuc (ksuc kzer kq_opn_4_0) kq_opn_4_1) kq_opn_4_2) kq_opn_4_3) kq_opn_4_4) kq_opn_4_5) kq_opn_4_6) kq_opn_4_7) kq_opn_4_8)
theorem kq_opn_5_0 : kchk2 200000 40 true 165 283 [.int (fo_i 5), .int (fo_i 0)] kH0 = true := by decide +kernel
theorem kq_opn_5_1 : kchk2 200000 40 true 165 283 [.int (fo_i 5), .int (fo_i 1)] kH0 = true := by decide +kernel
theorem kq_opn_5_2 : kchk2 200000 40 true 165 283 [.int (fo_i 5), .int (fo_i 2)] kH0 = true := by decide +kernel
theorem kq_opn_5_3 : kchk2 200000 40 true 165 283 [.int (fo_i 5), .int (fo_i 3)] kH0 = true := by decide +kernel
theorem kq_opn_5_4 : kchk2 200000 40 true 165 283 [.int (fo_i 5), .int (fo_i 4)] kH0 = true := by decide +kernel
theorem kq_opn_5_5 : kchk2 200000 40 true 165 283 [.int (fo_i 5), .int (fo_i 5)] kH0 = true := by decide +kernel
theorem kq_opn_5_6 : kchk2 200000 40 true 165 283 [.int (fo_i 5), .int (fo_i 6)] kH0 = true := by decide +kernel
theorem kq_opn_5_7 : kchk2 200000 40 true 165 283 [.int (fo_i 5), .int (fo_i 7)] kH0 = true := by decide +kernel
theorem kq_opn_5_8 : kchk2 200000 40 true 165 283 [.int (fo_i 5), .int (fo_i 8)] kH0 = true := by decide +kernel
theorem kqb_opn_5 : ∀ y, y < 9 → kchk2 200000 40 true 165 283 [.int (fo_i 5), .int (fo_i y)] kH0 = true := (ksuc (ksuc (ksuc (ksuc (ksuc (ksuc (ksuc (ksuc (ksuc kzer kq_opn_5_0) kq_opn_5_1) kq_opn_5_2) kq_opn_5_3) kq_opn_5_4) kq_opn_5_5) kq_opn_5_6) kq_opn_5_7) kq_opn_5_8)
theorem kq_opn_6_0 : kchk2 200000 40 true 165 283 [.int (fo_i 6), .int (fo_i 0)] kH0 = true := by decide +kernel
theorem kq_opn_6_1 : kchk2 200000 40 true 165 283 [.int (fo_i 6), .int (fo_i 1)] kH0 = true := by decide +kernel
theorem kq_opn_6_2 : kchk2 200000 40 true 165 283 [.int (fo_i 6), .int (fo_i 2)] kH0 = true := by decide +kernel
theorem kq_opn_6_3 : kchk2 200000 40 true 165 283 [.int (fo_i 6), .int (fo_i 3)] kH0 = true := by decide +kernel
theorem kq_opn_6_4 : kchk2 200000 40 true 165 283 [.int (fo_i 6), .int (fo_i 4)] kH0 = true := by decide +kernel
theorem kq_opn_6_5 : kchk2 200000 40 true 165 283 [.int (fo_i 6), .int (fo_i 5)] kH0 = true := by decide +kernel
theorem kq_opn_6_6 : kchk2 200000 40 true 165 283 [.int (fo_i 6), .int (fo_i 6)] kH0 = true := by decide +kernel
theorem kq_opn_6_7 : kchk2 200000 40 true 165 283 [.int (fo_i 6), .int (fo_i 7)] kH0 = true := by decide +kernel
theorem kq_opn_6_8 : kchk2 200000 40 true 165 283 [.int (fo_i 6), .int (fo_i 8)] kH0 = true := by decide +kernel
theorem kqb_opn_6 : ∀ y, y < 9 → kchk2 200000 40 true 165 283 [.int (fo_i 6), .int (fo_i y)] kH0 = true := (ksuc (ksuc (ksuc (ksuc (ksuc (ksuc (ksuc (ksuc (ksuc kzer kq_opn_6_0) kq_opn_6_1) kq_opn_6_2) kq_opn_6_3) kq_opn_6_4) kq_opn_6_5) kq_opn_6_6) kq_opn_6_7) kq_opn_6_8)
theorem kq_opn_7_0 : kchk2 200000 40 true 165 283 [.int (fo_i 7), .int (fo_i 0)] kH0 = true := by decide +kernel
theorem kq_opn_7_1 : kchk2 200000 40 true 165 283 [.int (fo_i 7), .int (fo_i 1)] kH0 = true := by decide +kernel
theorem kq_opn_7_2 : kchk2 200000 40 true 165 283 [.int (fo_i 7), .int (fo_i 2)] kH0 = true := by decide +kernel
theorem kq_opn_7_3 : kchk2 200000 40 true 165 283 [.int (fo_i 7), .int (fo_i 3)] kH0 = true := by decide +kernel
theorem kq_opn_7_4 : kchk2 200000 40 true 165 283 [.int (fo_i 7), .int (fo_i 4)] kH0 = true := by decide +kernel
theorem kq_opn_7_5 : kchk2 200000 40 true 165 283 [.int (fo_i 7), .int (fo_i 5)] kH0 = true := by decide +kernel
theorem kq_opn_7_6 : kchk2 200000 40 true 165 283 [.int (fo_i 7), .int (fo_i 6)] kH0 = true := by decide +kernel
theorem kq_opn_7_7 : kchk2 200000 40 true 165 283 [.int (fo_i 7), .int (fo_i 7)] kH0 = true := by decide +kernel
theorem kq_opn_7_8 : kchk2 200000 40 true 165 283 [.int (fo_i 7), .int (fo_i 8)] kH0 = true := by decide +kernel
theorem kqb_opn_7 : ∀ y, y < 9 → kchk2 200000 40 true 165 283 [.int (fo_i 7), .int (fo_i y)] kH0 = true := (ksuc (ksuc (ksuc (ksuc (ksuc (ksuc (ksuc (ksuc (ksuc kzer kq_opn_7_0) kq_opn_7_1) kq_opn_7_2) kq_opn_7_3) kq_opn_7_4) kq_opn_7_5) kq_opn_7_6) kq_opn_7_7) kq_opn_7_8)
theorem kq_opn_8_0 : kchk2 200000 40 true 165 283 [.int (fo_i 8), .int (fo_i 0)] kH0 = true := by decide +kernel
theorem kq_opn_8_1 : kchk2 200000 40 true 165 283 [.int (fo_i 8), .int (fo_i 1)] kH0 = true := by decide +kernel
theorem kq_opn_8_2 : kchk2 200000 40 true 165 283 [.int (fo_i 8), .int (fo_i 2)] kH0 = true := by decide +kernel
theorem kq_opn_8_3 : kchk2 200000 40 true 165 283 [.int (fo_i 8), .int (fo_i 3)] kH0 = true := by decide +kernel
theorem kq_opn_8_4 : kchk2 200000 40 true 165 283 [.int (fo_i 8), .int (fo_i 4)] kH0 = true := by decide +kernel
theorem kq_opn_8_5 : kchk2 200000 40 true 165 283 [.int (fo_i 8), .int (fo_i 5)] kH0 = true := by decide +kernel
theorem kq_opn_8_6 : kchk2 200000 40 true 165 283 [.int (fo_i 8), .int (fo_i 6)] kH0 = true := by decide +kernel
theorem kq_opn_8_7 : kchk2 200000 40 true 165 283 [.int (fo_i 8), .int (fo_i 7)] kH0 = true := by decide +kernel
theorem kq_opn_8_8 : kchk2 200000 40 true 165 283 [.int (fo_i 8), .int (fo_i 8)] kH0 = true := by decide +kernel
theorem kqb_opn_8 : ∀ y, y < 9 → kchk2 200000 40 true 165 283 [.int (fo_i 8), .int (fo_i y)] kH0 = true := (ksuc (ksuc (ksuc (ksuc (ksuc (ksuc (ksuc (ksuc (ksuc kzer kq_opn_8_0) kq_opn_8_1) kq_opn_8_2) kq_opn_8_3) kq_opn_8_4) kq_opn_8_5) kq_opn_8_6) kq_opn_8_7) kq_opn_8_8)
theorem kqb_opn : ∀ x, x < 9 → ∀ y, y < 9 → kchk2 200000 40 true 165 283 [.int (fo_i x), .int (fo_i y)] kH0 = true := (ksuc (ksuc (ksuc (ksuc (ksuc (ksuc (ksuc (ksuc (ksuc kzer kqb_opn_0) kqb_opn_1) kqb_opn_2) kqb_opn_3) kqb_opn_4) kqb_opn_5) kqb_opn_6) kqb_opn_7) kqb_opn_8)
theorem kTi_opn {x y : Int32} (h0 : 0 ≤ x.toInt) (h1 : x.toInt ≤ 8) (h2 : 0 ≤ y.toInt) (h3 : y.toInt ≤ 8) : kSame 40 true 165 283 [.int x, .int y] kH0 := by
  obtain ⟨f, hf, rfl⟩ := sx_r (x := x) (n := 9) (by decide) h0 (by omega)
  obtain ⟨g, hg, rfl⟩ := sx_r (x := y) (n := 9) (by decide) h2 (by omega)
  exact kchk2_ok (kqb_opn f hf g hg)
