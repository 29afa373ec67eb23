/-! Each call with any numbers, printed by wip/pm/gen12.py -/
theorem sx_b (x : Int32) : -2147483648 ≤ x.toInt ∧ x.toInt ≤ 2147483647 := by
  have h1 := Int32.le_toInt x
  have h2 := Int32.toInt_lt x
  exact ⟨by omega, by omega⟩
theorem kT_sees (x : Int32) : kSame 40 false 147 258 [.int x] kH0 := by
  have xl : -2147483648 ≤ x.toInt ∧ x.toInt ≤ 2147483647 := sx_b x
  rcases (by omega : x.toInt ≤ (-1) ∨ x.toInt = 0 ∨ 1 ≤ x.toInt) with hx | hx | hx
  · exact kS_sees_0 (by omega)
  · obtain ⟨k, hk, rfl⟩ := sx_r (x := x) (n := 1) (by decide) (by omega) (by omega)
    exact kqa_sees k hk
  · exact kS_sees_1 (by omega)
theorem kT_behind (x : Int32) : kSame 40 true 151 263 [.int x] kH0 := by
  have xl : -2147483648 ≤ x.toInt ∧ x.toInt ≤ 2147483647 := sx_b x
  rcases (by omega : x.toInt ≤ (-1) ∨ x.toInt = 0 ∨ 1 ≤ x.toInt) with hx | hx | hx
  · exact kS_behind_2 (by omega)
  · obtain ⟨k, hk, rfl⟩ := sx_r (x := x) (n := 1) (by decide) (by omega) (by omega)
    exact kqa_behind k hk
  · exact kS_behind_3 (by omega)
theorem kT_gossip (x : Int32) : kSame 40 true 157 271 [.int x] kH0 := by
  have xl : -2147483648 ≤ x.toInt ∧ x.toInt ≤ 2147483647 := sx_b x
  rcases (by omega : x.toInt ≤ (-1) ∨ x.toInt = 0 ∨ 1 ≤ x.toInt) with hx | hx | hx
  · exact kS_gossip_4 (by omega)
  · obtain ⟨k, hk, rfl⟩ := sx_r (x := x) (n := 1) (by decide) (by omega) (by omega)
    exact kqa_gossip k hk
  · exact kS_gossip_5 (by omega)
theorem kT_best (x : Int32) : kSame 40 true 160 278 [.int x] kH0 := by
  have xl : -2147483648 ≤ x.toInt ∧ x.toInt ≤ 2147483647 := sx_b x
  rcases (by omega : x.toInt ≤ (-1) ∨ x.toInt = 0 ∨ 1 ≤ x.toInt) with hx | hx | hx
  · exact kS_best_6 (by omega)
  · obtain ⟨k, hk, rfl⟩ := sx_r (x := x) (n := 1) (by decide) (by omega) (by omega)
    exact kqa_best k hk
  · exact kS_best_7 (by omega)
theorem kT_faces (x y : Int32) : kSame 40 true 134 250 [.int x, .int y] kH0 := by
  have xl : -2147483648 ≤ x.toInt ∧ x.toInt ≤ 2147483647 := sx_b x
  have yl : -2147483648 ≤ y.toInt ∧ y.toInt ≤ 2147483647 := sx_b y
  rcases (by omega : x.toInt ≤ (-1) ∨ x.toInt = 0 ∨ 1 ≤ x.toInt) with hx | hx | hx
  · exact kS_faces_8 (by omega)
  · obtain rfl : x = fo_i 0 := sx_c (k := 0) (by decide) (by omega)
    exact kS_faces_10
  · exact kS_faces_9 (by omega)
theorem kT_steps (x y : Int32) : kSame 40 true 135 251 [.int x, .int y] kH0 := by
  have xl : -2147483648 ≤ x.toInt ∧ x.toInt ≤ 2147483647 := sx_b x
  have yl : -2147483648 ≤ y.toInt ∧ y.toInt ≤ 2147483647 := sx_b y
  rcases (by omega : x.toInt ≤ (-1) ∨ x.toInt = 0 ∨ 1 ≤ x.toInt) with hx | hx | hx
  · exact kS_steps_11 (by omega)
  · obtain rfl : x = fo_i 0 := sx_c (k := 0) (by decide) (by omega)
    exact kS_steps_13
  · exact kS_steps_12 (by omega)
theorem kT_trims (x y : Int32) : kSame 40 true 136 252 [.int x, .int y] kH0 := by
  have xl : -2147483648 ≤ x.toInt ∧ x.toInt ≤ 2147483647 := sx_b x
  have yl : -2147483648 ≤ y.toInt ∧ y.toInt ≤ 2147483647 := sx_b y
  rcases (by omega : x.toInt ≤ (-1) ∨ x.toInt = 0 ∨ 1 ≤ x.toInt) with hx | hx | hx
  · exact kS_trims_14 (by omega)
  · obtain rfl : x = fo_i 0 := sx_c (k := 0) (by decide) (by omega)
    exact kS_trims_16
  · exact kS_trims_15 (by omega)
theorem kT_puts (x y : Int32) : kSame 40 true 137 253 [.int x, .int y] kH0 := by
  have xl : -2147483648 ≤ x.toInt ∧ x.toInt ≤ 2147483647 := sx_b x
  have yl : -2147483648 ≤ y.toInt ∧ y.toInt ≤ 2147483647 := sx_b y
  rcases (by omega : x.toInt ≤ (-1) ∨ x.toInt = 0 ∨ 1 ≤ x.toInt) with hx | hx | hx
  · exact kS_puts_17 (by omega)
  · obtain rfl : x = fo_i 0 := sx_c (k := 0) (by decide) (by omega)
    exact kS_puts_19
  · exact kS_puts_18 (by omega)
theorem kT_learns (x y : Int32) : kSame 40 true 154 267 [.int x, .int y] kH0 := by
  have xl : -2147483648 ≤ x.toInt ∧ x.toInt ≤ 2147483647 := sx_b x
  have yl : -2147483648 ≤ y.toInt ∧ y.toInt ≤ 2147483647 := sx_b y
  rcases (by omega : x.toInt ≤ (-1) ∨ x.toInt = 0 ∨ 1 ≤ x.toInt) with hx | hx | hx
  · exact kS_learns_20 (by omega)
  · obtain rfl : x = fo_i 0 := sx_c (k := 0) (by decide) (by omega)
    exact kS_learns_22
  · exact kS_learns_21 (by omega)
theorem kT_eighths (x y : Int32) : kSame 40 true 158 273 [.int x, .int y] kH0 := by
  have xl : -2147483648 ≤ x.toInt ∧ x.toInt ≤ 2147483647 := sx_b x
  have yl : -2147483648 ≤ y.toInt ∧ y.toInt ≤ 2147483647 := sx_b y
  rcases (by omega : x.toInt ≤ (-1) ∨ x.toInt = 0 ∨ 1 ≤ x.toInt) with hx | hx | hx
  · exact kS_eighths_23 (by omega)
  · obtain rfl : x = fo_i 0 := sx_c (k := 0) (by decide) (by omega)
    exact kS_eighths_25
  · exact kS_eighths_24 (by omega)
theorem kT_bears (x y : Int32) : kSame 40 true 161 279 [.int x, .int y] kH0 := by
  have xl : -2147483648 ≤ x.toInt ∧ x.toInt ≤ 2147483647 := sx_b x
  have yl : -2147483648 ≤ y.toInt ∧ y.toInt ≤ 2147483647 := sx_b y
  rcases (by omega : x.toInt ≤ (-1) ∨ x.toInt = 0 ∨ 1 ≤ x.toInt) with hx | hx | hx
  · exact kS_bears_26 (by omega)
  · obtain rfl : x = fo_i 0 := sx_c (k := 0) (by decide) (by omega)
    exact kS_bears_28
  · exact kS_bears_27 (by omega)
theorem kT_heard (x y : Int32) : kSame 40 true 166 284 [.int x, .int y] kH0 := by
  have xl : -2147483648 ≤ x.toInt ∧ x.toInt ≤ 2147483647 := sx_b x
  have yl : -2147483648 ≤ y.toInt ∧ y.toInt ≤ 2147483647 := sx_b y
  rcases (by omega : x.toInt ≤ (-1) ∨ x.toInt = 0 ∨ 1 ≤ x.toInt) with hx | hx | hx
  · exact kS_heard_29 (by omega)
  · obtain rfl : x = fo_i 0 := sx_c (k := 0) (by decide) (by omega)
    exact kS_heard_31
  · exact kS_heard_30 (by omega)
theorem kT_end (x : Int32) : kSame 40 true 123 195 [.int x] kH0 := by
  have xl : -2147483648 ≤ x.toInt ∧ x.toInt ≤ 2147483647 := sx_b x
  rcases (by omega : x.toInt ≤ (-1) ∨ x.toInt = 0 ∨ 1 ≤ x.toInt) with hx | hx | hx
  · exact kS_end_32 (by omega)
  · obtain ⟨k, hk, rfl⟩ := sx_r (x := x) (n := 1) (by decide) (by omega) (by omega)
    exact kqa_end k hk
  · exact kS_end_33 (by omega)
theorem kT_hours (x : Int32) : kSame 40 true 133 249 [.int x] kH0 := by
  have xl : -2147483648 ≤ x.toInt ∧ x.toInt ≤ 2147483647 := sx_b x
  rcases (by omega : x.toInt ≤ (-1) ∨ (0 ≤ x.toInt ∧ x.toInt ≤ 60) ∨ 61 ≤ x.toInt) with hx | hx | hx
  · exact kS_hours_34 (by omega)
  · obtain ⟨k, hk, rfl⟩ := sx_r (x := x) (n := 61) (by decide) (by omega) (by omega)
    exact kqa_hours k hk
  · exact kS_hours_35 (by omega)
theorem kT_ahead (x : Int32) : kSame 40 true 156 270 [.int x] kH0 := by
  have xl : -2147483648 ≤ x.toInt ∧ x.toInt ≤ 2147483647 := sx_b x
  rcases (by omega : x.toInt ≤ (-1) ∨ (0 ≤ x.toInt ∧ x.toInt ≤ 99) ∨ 100 ≤ x.toInt) with hx | hx | hx
  · exact kS_ahead_36 (by omega)
  · exact kTi_ahead (by omega) (by omega)
  · exact kS_ahead_37 (by omega)
theorem kT_seers (x : Int32) : kSame 40 true 148 259 [.int x] kH0 := by
  have xl : -2147483648 ≤ x.toInt ∧ x.toInt ≤ 2147483647 := sx_b x
  rcases (by omega : x.toInt ≤ (-1) ∨ (0 ≤ x.toInt ∧ x.toInt ≤ 8) ∨ 9 ≤ x.toInt) with hx | hx | hx
  · exact kS_seers_38 (by omega)
  · obtain ⟨k, hk, rfl⟩ := sx_r (x := x) (n := 9) (by decide) (by omega) (by omega)
    exact kqa_seers k hk
  · exact kS_seers_39 (by omega)
theorem kT_rests (x : Int32) : kSame 40 true 174 294 [.int x] kH0 := by
  have xl : -2147483648 ≤ x.toInt ∧ x.toInt ≤ 2147483647 := sx_b x
  rcases (by omega : x.toInt ≤ (-1) ∨ (0 ≤ x.toInt ∧ x.toInt ≤ 20) ∨ 21 ≤ x.toInt) with hx | hx | hx
  · exact kS_rests_40 (by omega)
  · obtain ⟨k, hk, rfl⟩ := sx_r (x := x) (n := 21) (by decide) (by omega) (by omega)
    exact kqa_rests k hk
  · exact kS_rests_41 (by omega)
theorem kT_keep (x : Int32) : kSame 40 true 177 297 [.int x] kH0 := by
  have xl : -2147483648 ≤ x.toInt ∧ x.toInt ≤ 2147483647 := sx_b x
  rcases (by omega : x.toInt ≤ (-1) ∨ (0 ≤ x.toInt ∧ x.toInt ≤ 2) ∨ 3 ≤ x.toInt) with hx | hx | hx
  · exact kS_keep_42 (by omega)
  · obtain ⟨k, hk, rfl⟩ := sx_r (x := x) (n := 3) (by decide) (by omega) (by omega)
    exact kqa_keep k hk
  · exact kS_keep_43 (by omega)
theorem kT_again (x : Int32) : kSame 40 true 178 298 [.int x] kH0 := by
  have xl : -2147483648 ≤ x.toInt ∧ x.toInt ≤ 2147483647 := sx_b x
  rcases (by omega : x.toInt ≤ (-1) ∨ (0 ≤ x.toInt ∧ x.toInt ≤ 2) ∨ 3 ≤ x.toInt) with hx | hx | hx
  · exact kS_again_44 (by omega)
  · obtain ⟨k, hk, rfl⟩ := sx_r (x := x) (n := 3) (by decide) (by omega) (by omega)
    exact kqa_again k hk
  · exact kS_again_45 (by omega)
theorem kT_count (x : Int32) : kSame 40 true 179 299 [.int x] kH0 := by
  have xl : -2147483648 ≤ x.toInt ∧ x.toInt ≤ 2147483647 := sx_b x
  rcases (by omega : x.toInt ≤ (-1) ∨ (0 ≤ x.toInt ∧ x.toInt ≤ 12) ∨ 13 ≤ x.toInt) with hx | hx | hx
  · exact kS_count_46 (by omega)
  · obtain ⟨k, hk, rfl⟩ := sx_r (x := x) (n := 13) (by decide) (by omega) (by omega)
    exact kqa_count k hk
  · exact kS_count_47 (by omega)
theorem kT_back (x y : Int32) : kSame 40 true 164 282 [.int x, .int y] kH0 := by
  have xl : -2147483648 ≤ x.toInt ∧ x.toInt ≤ 2147483647 := sx_b x
  have yl : -2147483648 ≤ y.toInt ∧ y.toInt ≤ 2147483647 := sx_b y
  rcases (by omega : x.toInt ≤ (-1) ∨ x.toInt = 0 ∨ (1 ≤ x.toInt ∧ x.toInt ≤ 7) ∨ x.toInt = 8 ∨ 9 ≤ x.toInt) with hx | hx | hx | hx | hx
  · exact kS_back_48 (by omega)
  · rcases (by omega : y.toInt ≤ (-1) ∨ (0 ≤ y.toInt ∧ y.toInt ≤ 8) ∨ 9 ≤ y.toInt) with hy | hy | hy
    · obtain rfl : x = fo_i 0 := sx_c (k := 0) (by decide) (by omega)
      exact kS_back_50 (by omega)
    · exact kTi_back (by omega) (by omega) (by omega) (by omega)
    · obtain rfl : x = fo_i 0 := sx_c (k := 0) (by decide) (by omega)
      exact kS_back_51 (by omega)
  · rcases (by omega : y.toInt ≤ (-1) ∨ (0 ≤ y.toInt ∧ y.toInt ≤ 8) ∨ 9 ≤ y.toInt) with hy | hy | hy
    · exact kS_back_52 (by omega) (by omega) (by omega)
    · exact kTi_back (by omega) (by omega) (by omega) (by omega)
    · exact kS_back_53 (by omega) (by omega) (by omega)
  · rcases (by omega : y.toInt ≤ (-1) ∨ (0 ≤ y.toInt ∧ y.toInt ≤ 8) ∨ 9 ≤ y.toInt) with hy | hy | hy
    · obtain rfl : x = fo_i 8 := sx_c (k := 8) (by decide) (by omega)
      exact kS_back_54 (by omega)
    · exact kTi_back (by omega) (by omega) (by omega) (by omega)
    · obtain rfl : x = fo_i 8 := sx_c (k := 8) (by decide) (by omega)
      exact kS_back_55 (by omega)
  · exact kS_back_49 (by omega)
theorem kT_opn (x y : Int32) : kSame 40 true 165 283 [.int x, .int y] kH0 := by
  have xl : -2147483648 ≤ x.toInt ∧ x.toInt ≤ 2147483647 := sx_b x
  have yl : -2147483648 ≤ y.toInt ∧ y.toInt ≤ 2147483647 := sx_b y
  rcases (by omega : x.toInt ≤ (-1) ∨ x.toInt = 0 ∨ (1 ≤ x.toInt ∧ x.toInt ≤ 7) ∨ x.toInt = 8 ∨ 9 ≤ x.toInt) with hx | hx | hx | hx | hx
  · exact kS_opn_56 (by omega)
  · rcases (by omega : y.toInt ≤ (-1) ∨ (0 ≤ y.toInt ∧ y.toInt ≤ 8) ∨ 9 ≤ y.toInt) with hy | hy | hy
    · obtain rfl : x = fo_i 0 := sx_c (k := 0) (by decide) (by omega)
      exact kS_opn_58 (by omega)
    · exact kTi_opn (by omega) (by omega) (by omega) (by omega)
    · obtain rfl : x = fo_i 0 := sx_c (k := 0) (by decide) (by omega)
      exact kS_opn_59 (by omega)
  · rcases (by omega : y.toInt ≤ (-1) ∨ (0 ≤ y.toInt ∧ y.toInt ≤ 8) ∨ 9 ≤ y.toInt) with hy | hy | hy
    · exact kS_opn_60 (by omega) (by omega) (by omega)
    · exact kTi_opn (by omega) (by omega) (by omega) (by omega)
    · exact kS_opn_61 (by omega) (by omega) (by omega)
  · rcases (by omega : y.toInt ≤ (-1) ∨ (0 ≤ y.toInt ∧ y.toInt ≤ 8) ∨ 9 ≤ y.toInt) with hy | hy | hy
    · obtain rfl : x = fo_i 8 := sx_c (k := 8) (by decide) (by omega)
      exact kS_opn_62 (by omega)
    · exact kTi_opn (by omega) (by omega) (by omega) (by omega)
    · obtain rfl : x = fo_i 8 := sx_c (k := 8) (by decide) (by omega)
      exact kS_opn_63 (by omega)
  · exact kS_opn_57 (by omega)
theorem kT_storm (x y z : Int32) : kSame 40 true 171 289 [.int x, .int y, .int z] kH0 := by
  have xl : -2147483648 ≤ x.toInt ∧ x.toInt ≤ 2147483647 := sx_b x
  have yl : -2147483648 ≤ y.toInt ∧ y.toInt ≤ 2147483647 := sx_b y
  have zl : -2147483648 ≤ z.toInt ∧ z.toInt ≤ 2147483647 := sx_b z
  rcases (by omega : x.toInt ≤ (-1) ∨ x.toInt = 0 ∨ (1 ≤ x.toInt ∧ x.toInt ≤ 7) ∨ x.toInt = 8 ∨ 9 ≤ x.toInt) with hx | hx | hx | hx | hx
  · exact kS_storm_64 (by omega)
  · rcases (by omega : y.toInt ≤ (-1) ∨ y.toInt = 0 ∨ (1 ≤ y.toInt ∧ y.toInt ≤ 7) ∨ y.toInt = 8 ∨ 9 ≤ y.toInt) with hy | hy | hy | hy | hy
    · obtain rfl : x = fo_i 0 := sx_c (k := 0) (by decide) (by omega)
      exact kS_storm_66 (by omega)
    · rcases (by omega : z.toInt ≤ (-1) ∨ (0 ≤ z.toInt ∧ z.toInt ≤ 10) ∨ 11 ≤ z.toInt) with hz | hz | hz
      · obtain rfl : x = fo_i 0 := sx_c (k := 0) (by decide) (by omega)
        obtain rfl : y = fo_i 0 := sx_c (k := 0) (by decide) (by omega)
        exact kS_storm_68 (by omega)
      · exact kTi_storm (by omega) (by omega) (by omega) (by omega) (by omega) (by omega)
      · obtain rfl : x = fo_i 0 := sx_c (k := 0) (by decide) (by omega)
        obtain rfl : y = fo_i 0 := sx_c (k := 0) (by decide) (by omega)
        exact kS_storm_69 (by omega)
    · rcases (by omega : z.toInt ≤ (-1) ∨ (0 ≤ z.toInt ∧ z.toInt ≤ 10) ∨ 11 ≤ z.toInt) with hz | hz | hz
      · obtain rfl : x = fo_i 0 := sx_c (k := 0) (by decide) (by omega)
        exact kS_storm_70 (by omega) (by omega) (by omega)
      · exact kTi_storm (by omega) (by omega) (by omega) (by omega) (by omega) (by omega)
      · obtain rfl : x = fo_i 0 := sx_c (k := 0) (by decide) (by omega)
        exact kS_storm_71 (by omega) (by omega) (by omega)
    · rcases (by omega : z.toInt ≤ (-1) ∨ (0 ≤ z.toInt ∧ z.toInt ≤ 10) ∨ 11 ≤ z.toInt) with hz | hz | hz
      · obtain rfl : x = fo_i 0 := sx_c (k := 0) (by decide) (by omega)
        obtain rfl : y = fo_i 8 := sx_c (k := 8) (by decide) (by omega)
        exact kS_storm_72 (by omega)
      · exact kTi_storm (by omega) (by omega) (by omega) (by omega) (by omega) (by omega)
      · obtain rfl : x = fo_i 0 := sx_c (k := 0) (by decide) (by omega)
        obtain rfl : y = fo_i 8 := sx_c (k := 8) (by decide) (by omega)
        exact kS_storm_73 (by omega)
    · obtain rfl : x = fo_i 0 := sx_c (k := 0) (by decide) (by omega)
      exact kS_storm_67 (by omega)
  · rcases (by omega : y.toInt ≤ (-1) ∨ y.toInt = 0 ∨ (1 ≤ y.toInt ∧ y.toInt ≤ 7) ∨ y.toInt = 8 ∨ 9 ≤ y.toInt) with hy | hy | hy | hy | hy
    · exact kS_storm_74 (by omega) (by omega) (by omega)
    · rcases (by omega : z.toInt ≤ (-1) ∨ (0 ≤ z.toInt ∧ z.toInt ≤ 10) ∨ 11 ≤ z.toInt) with hz | hz | hz
      · obtain rfl : y = fo_i 0 := sx_c (k := 0) (by decide) (by omega)
        exact kS_storm_76 (by omega) (by omega) (by omega)
      · exact kTi_storm (by omega) (by omega) (by omega) (by omega) (by omega) (by omega)
      · obtain rfl : y = fo_i 0 := sx_c (k := 0) (by decide) (by omega)
        exact kS_storm_77 (by omega) (by omega) (by omega)
    · rcases (by omega : z.toInt ≤ (-1) ∨ (0 ≤ z.toInt ∧ z.toInt ≤ 10) ∨ 11 ≤ z.toInt) with hz | hz | hz
      · exact kS_storm_78 (by omega) (by omega) (by omega) (by omega) (by omega)
      · exact kTi_storm (by omega) (by omega) (by omega) (by omega) (by omega) (by omega)
      · exact kS_storm_79 (by omega) (by omega) (by omega) (by omega) (by omega)
    · rcases (by omega : z.toInt ≤ (-1) ∨ (0 ≤ z.toInt ∧ z.toInt ≤ 10) ∨ 11 ≤ z.toInt) with hz | hz | hz
      · obtain rfl : y = fo_i 8 := sx_c (k := 8) (by decide) (by omega)
        exact kS_storm_80 (by omega) (by omega) (by omega)
      · exact kTi_storm (by omega) (by omega) (by omega) (by omega) (by omega) (by omega)
      · obtain rfl : y = fo_i 8 := sx_c (k := 8) (by decide) (by omega)
        exact kS_storm_81 (by omega) (by omega) (by omega)
    · exact kS_storm_75 (by omega) (by omega) (by omega)
  · rcases (by omega : y.toInt ≤ (-1) ∨ y.toInt = 0 ∨ (1 ≤ y.toInt ∧ y.toInt ≤ 7) ∨ y.toInt = 8 ∨ 9 ≤ y.toInt) with hy | hy | hy | hy | hy
    · obtain rfl : x = fo_i 8 := sx_c (k := 8) (by decide) (by omega)
      exact kS_storm_82 (by omega)
    · rcases (by omega : z.toInt ≤ (-1) ∨ (0 ≤ z.toInt ∧ z.toInt ≤ 10) ∨ 11 ≤ z.toInt) with hz | hz | hz
      · obtain rfl : x = fo_i 8 := sx_c (k := 8) (by decide) (by omega)
        obtain rfl : y = fo_i 0 := sx_c (k := 0) (by decide) (by omega)
        exact kS_storm_84 (by omega)
      · exact kTi_storm (by omega) (by omega) (by omega) (by omega) (by omega) (by omega)
      · obtain rfl : x = fo_i 8 := sx_c (k := 8) (by decide) (by omega)
        obtain rfl : y = fo_i 0 := sx_c (k := 0) (by decide) (by omega)
        exact kS_storm_85 (by omega)
    · rcases (by omega : z.toInt ≤ (-1) ∨ (0 ≤ z.toInt ∧ z.toInt ≤ 10) ∨ 11 ≤ z.toInt) with hz | hz | hz
      · obtain rfl : x = fo_i 8 := sx_c (k := 8) (by decide) (by omega)
        exact kS_storm_86 (by omega) (by omega) (by omega)
      · exact kTi_storm (by omega) (by omega) (by omega) (by omega) (by omega) (by omega)
      · obtain rfl : x = fo_i 8 := sx_c (k := 8) (by decide) (by omega)
        exact kS_storm_87 (by omega) (by omega) (by omega)
    · rcases (by omega : z.toInt ≤ (-1) ∨ (0 ≤ z.toInt ∧ z.toInt ≤ 10) ∨ 11 ≤ z.toInt) with hz | hz | hz
      · obtain rfl : x = fo_i 8 := sx_c (k := 8) (by decide) (by omega)
        obtain rfl : y = fo_i 8 := sx_c (k := 8) (by decide) (by omega)
        exact kS_storm_88 (by omega)
      · exact kTi_storm (by omega) (by omega) (by omega) (by omega) (by omega) (by omega)
      · obtain rfl : x = fo_i 8 := sx_c (k := 8) (by decide) (by omega)
        obtain rfl : y = fo_i 8 := sx_c (k := 8) (by decide) (by omega)
        exact kS_storm_89 (by omega)
    · obtain rfl : x = fo_i 8 := sx_c (k := 8) (by decide) (by omega)
      exact kS_storm_83 (by omega)
  · exact kS_storm_65 (by omega)
theorem kT_cock (x y : Int32) : kSame 40 true 172 290 [.int x, .int y] kH0 := by
  have xl : -2147483648 ≤ x.toInt ∧ x.toInt ≤ 2147483647 := sx_b x
  have yl : -2147483648 ≤ y.toInt ∧ y.toInt ≤ 2147483647 := sx_b y
  rcases (by omega : x.toInt ≤ (-1) ∨ x.toInt = 0 ∨ (1 ≤ x.toInt ∧ x.toInt ≤ 59) ∨ x.toInt = 60 ∨ 61 ≤ x.toInt) with hx | hx | hx | hx | hx
  · exact kS_cock_90 (by omega)
  · rcases (by omega : y.toInt ≤ 1 ∨ (2 ≤ y.toInt ∧ y.toInt ≤ 9) ∨ 10 ≤ y.toInt) with hy | hy | hy
    · obtain rfl : x = fo_i 0 := sx_c (k := 0) (by decide) (by omega)
      exact kS_cock_92 (by omega)
    · exact kTi_cock (by omega) (by omega) (by omega) (by omega)
    · obtain rfl : x = fo_i 0 := sx_c (k := 0) (by decide) (by omega)
      exact kS_cock_93 (by omega)
  · rcases (by omega : y.toInt ≤ 1 ∨ (2 ≤ y.toInt ∧ y.toInt ≤ 9) ∨ 10 ≤ y.toInt) with hy | hy | hy
    · exact kS_cock_94 (by omega) (by omega) (by omega)
    · exact kTi_cock (by omega) (by omega) (by omega) (by omega)
    · exact kS_cock_95 (by omega) (by omega) (by omega)
  · rcases (by omega : y.toInt ≤ 1 ∨ (2 ≤ y.toInt ∧ y.toInt ≤ 9) ∨ 10 ≤ y.toInt) with hy | hy | hy
    · obtain rfl : x = fo_i 60 := sx_c (k := 60) (by decide) (by omega)
      exact kS_cock_96 (by omega)
    · exact kTi_cock (by omega) (by omega) (by omega) (by omega)
    · obtain rfl : x = fo_i 60 := sx_c (k := 60) (by decide) (by omega)
      exact kS_cock_97 (by omega)
  · exact kS_cock_91 (by omega)
theorem kT_years (x y : Int32) : kSame 40 true 175 296 [.int x, .int y] kH0 := by
  have xl : -2147483648 ≤ x.toInt ∧ x.toInt ≤ 2147483647 := sx_b x
  have yl : -2147483648 ≤ y.toInt ∧ y.toInt ≤ 2147483647 := sx_b y
  rcases (by omega : y.toInt ≤ 0 ∨ (1 ≤ y.toInt ∧ y.toInt ≤ 60) ∨ 61 ≤ y.toInt) with hy | hy | hy
  · exact kS_years_98 (by omega)
  · exact kTi_years (by omega) (by omega)
  · exact kS_years_99 (by omega)
theorem kT_sheet (x y z w : Int32) : kSame 40 true 131 238 [.int x, .int y, .int z, .int w] kH0 := by
  have xl : -2147483648 ≤ x.toInt ∧ x.toInt ≤ 2147483647 := sx_b x
  have yl : -2147483648 ≤ y.toInt ∧ y.toInt ≤ 2147483647 := sx_b y
  have zl : -2147483648 ≤ z.toInt ∧ z.toInt ≤ 2147483647 := sx_b z
  have wl : -2147483648 ≤ w.toInt ∧ w.toInt ≤ 2147483647 := sx_b w
  rcases (by omega : x.toInt ≤ (-1) ∨ x.toInt = 0 ∨ x.toInt = 1 ∨ x.toInt = 2 ∨ x.toInt = 3 ∨ 4 ≤ x.toInt) with hx | hx | hx | hx | hx | hx
  · exact kS_sheet_100 (by omega)
  · rcases (by omega : y.toInt ≤ (-1) ∨ y.toInt = 0 ∨ (1 ≤ y.toInt ∧ y.toInt ≤ 7) ∨ y.toInt = 8 ∨ 9 ≤ y.toInt) with hy | hy | hy | hy | hy
    · obtain rfl : x = fo_i 0 := sx_c (k := 0) (by decide) (by omega)
      exact kS_sheet_102 (by omega)
    · obtain rfl : x = fo_i 0 := sx_c (k := 0) (by decide) (by omega)
      obtain rfl : y = fo_i 0 := sx_c (k := 0) (by decide) (by omega)
      exact kS_sheet_103
    · obtain rfl : x = fo_i 0 := sx_c (k := 0) (by decide) (by omega)
      exact kS_sheet_104 (by omega) (by omega)
    · obtain rfl : x = fo_i 0 := sx_c (k := 0) (by decide) (by omega)
      obtain rfl : y = fo_i 8 := sx_c (k := 8) (by decide) (by omega)
      exact kS_sheet_105
    · obtain rfl : x = fo_i 0 := sx_c (k := 0) (by decide) (by omega)
      exact kS_sheet_106 (by omega)
  · rcases (by omega : y.toInt ≤ (-1) ∨ y.toInt = 0 ∨ (1 ≤ y.toInt ∧ y.toInt ≤ 7) ∨ y.toInt = 8 ∨ 9 ≤ y.toInt) with hy | hy | hy | hy | hy
    · obtain rfl : x = fo_i 1 := sx_c (k := 1) (by decide) (by omega)
      exact kS_sheet_107 (by omega)
    · obtain rfl : x = fo_i 1 := sx_c (k := 1) (by decide) (by omega)
      obtain rfl : y = fo_i 0 := sx_c (k := 0) (by decide) (by omega)
      exact kS_sheet_108
    · obtain rfl : x = fo_i 1 := sx_c (k := 1) (by decide) (by omega)
      exact kS_sheet_109 (by omega) (by omega)
    · obtain rfl : x = fo_i 1 := sx_c (k := 1) (by decide) (by omega)
      obtain rfl : y = fo_i 8 := sx_c (k := 8) (by decide) (by omega)
      exact kS_sheet_110
    · obtain rfl : x = fo_i 1 := sx_c (k := 1) (by decide) (by omega)
      exact kS_sheet_111 (by omega)
  · rcases (by omega : y.toInt ≤ (-1) ∨ y.toInt = 0 ∨ (1 ≤ y.toInt ∧ y.toInt ≤ 7) ∨ y.toInt = 8 ∨ 9 ≤ y.toInt) with hy | hy | hy | hy | hy
    · obtain rfl : x = fo_i 2 := sx_c (k := 2) (by decide) (by omega)
      exact kS_sheet_112 (by omega)
    · obtain rfl : x = fo_i 2 := sx_c (k := 2) (by decide) (by omega)
      obtain rfl : y = fo_i 0 := sx_c (k := 0) (by decide) (by omega)
      exact kS_sheet_113
    · obtain rfl : x = fo_i 2 := sx_c (k := 2) (by decide) (by omega)
      exact kS_sheet_114 (by omega) (by omega)
    · obtain rfl : x = fo_i 2 := sx_c (k := 2) (by decide) (by omega)
      obtain rfl : y = fo_i 8 := sx_c (k := 8) (by decide) (by omega)
      exact kS_sheet_115
    · obtain rfl : x = fo_i 2 := sx_c (k := 2) (by decide) (by omega)
      exact kS_sheet_116 (by omega)
  · rcases (by omega : y.toInt ≤ (-1) ∨ y.toInt = 0 ∨ (1 ≤ y.toInt ∧ y.toInt ≤ 7) ∨ y.toInt = 8 ∨ 9 ≤ y.toInt) with hy | hy | hy | hy | hy
    · obtain rfl : x = fo_i 3 := sx_c (k := 3) (by decide) (by omega)
      exact kS_sheet_117 (by omega)
    · obtain rfl : x = fo_i 3 := sx_c (k := 3) (by decide) (by omega)
      obtain rfl : y = fo_i 0 := sx_c (k := 0) (by decide) (by omega)
      exact kS_sheet_118
    · obtain rfl : x = fo_i 3 := sx_c (k := 3) (by decide) (by omega)
      exact kS_sheet_119 (by omega) (by omega)
    · obtain rfl : x = fo_i 3 := sx_c (k := 3) (by decide) (by omega)
      obtain rfl : y = fo_i 8 := sx_c (k := 8) (by decide) (by omega)
      exact kS_sheet_120
    · obtain rfl : x = fo_i 3 := sx_c (k := 3) (by decide) (by omega)
      exact kS_sheet_121 (by omega)
  · exact kS_sheet_101 (by omega)
