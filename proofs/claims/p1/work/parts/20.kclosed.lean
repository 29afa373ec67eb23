/-! Closed calls, printed by wip/pm/gen6.py -/
theorem kq_valley : kchk 200000 40 true 124 203 [] kH0 = true := by decide +kernel
theorem kq_people : kchk 200000 40 true 125 209 [] kH0 = true := by decide +kernel
theorem kq_things : kchk 200000 40 true 126 210 [] kH0 = true := by decide +kernel
theorem kq_light : kchk 200000 40 true 127 211 [] kH0 = true := by decide +kernel
theorem kq_rule : kchk 200000 40 true 128 218 [] kH0 = true := by decide +kernel
theorem kq_day : kchk 200000 40 true 138 256 [] kH0 = true := by decide +kernel
theorem kq_undo : kchk 200000 40 true 139 242 [] kH0 = true := by decide +kernel
theorem kq_hidden : kchk 200000 40 false 149 261 [] kH0 = true := by decide +kernel
theorem kq_pairs : kchk 200000 40 true 150 262 [] kH0 = true := by decide +kernel
theorem kq_widest : kchk 200000 40 true 152 264 [] kH0 = true := by decide +kernel
theorem kq_watch : kchk 200000 40 true 153 266 [] kH0 = true := by decide +kernel
theorem kq_all : kchk 200000 40 true 155 269 [] kH0 = true := by decide +kernel
theorem kq_turned : kchk 200000 40 true 159 277 [] kH0 = true := by decide +kernel
theorem kq_forget : kchk 200000 40 true 167 285 [] kH0 = true := by decide +kernel
theorem kq_lost : kchk 200000 40 false 168 287 [] kH0 = true := by decide +kernel
theorem kq_asks : kchk 200000 40 true 169 288 [] kH0 = true := by decide +kernel
theorem kq_Law : kchk 200000 40 true 173 291 [] kH0 = true := by decide +kernel
theorem kq_hours_60 : kchk 200000 40 true 133 249 [.int (fo_i 60)] kH0 = true := by decide +kernel
theorem kq_ahead_99 : kchk 200000 40 true 156 270 [.int (fo_i 99)] kH0 = true := by decide +kernel
theorem kq_rests_20 : kchk 200000 40 true 174 294 [.int (fo_i 20)] kH0 = true := by decide +kernel
theorem kq_storm_1_2_3 : kchk 200000 40 true 171 289 [.int (fo_i 1), .int (fo_i 2), .int (fo_i 3)] kH0 = true := by decide +kernel
