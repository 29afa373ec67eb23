/-! The links -/
abbrev kLp (own : String) (q : Nat × pm_L) : Prop := pm_lk kK kM kcl kALL knws kzs krs kaos krof own q.1 q.2.1 q.2.2.1 q.2.2.2.1 q.2.2.2.2
theorem kPn_0 : (parseMethodDescriptor (kM 0).1.desc).map (fun d => d.parameters.length) = some 0 := by decide +kernel
theorem kPn_1 : (parseMethodDescriptor (kM 1).1.desc).map (fun d => d.parameters.length) = some 1 := by decide +kernel
theorem kPn_2 : (parseMethodDescriptor (kM 2).1.desc).map (fun d => d.parameters.length) = some 0 := by decide +kernel
theorem kPn_3 : (parseMethodDescriptor (kM 3).1.desc).map (fun d => d.parameters.length) = some 0 := by decide +kernel
theorem kPn_4 : (parseMethodDescriptor (kM 4).1.desc).map (fun d => d.parameters.length) = some 1 := by decide +kernel
theorem kPn_5 : (parseMethodDescriptor (kM 5).1.desc).map (fun d => d.parameters.length) = some 1 := by decide +kernel
theorem kPn_6 : (parseMethodDescriptor (kM 6).1.desc).map (fun d => d.parameters.length) = some 1 := by decide +kernel
theorem kPn_7 : (parseMethodDescriptor (kM 7).1.desc).map (fun d => d.parameters.length) = some 1 := by decide +kernel
theorem kPn_8 : (parseMethodDescriptor (kM 8).1.desc).map (fun d => d.parameters.length) = some 0 := by decide +kernel
theorem kPn_9 : (parseMethodDescriptor (kM 9).1.desc).map (fun d => d.parameters.length) = some 1 := by decide +kernel
theorem kPn_10 : (parseMethodDescriptor (kM 10).1.desc).map (fun d => d.parameters.length) = some 1 := by decide +kernel
theorem kPn_11 : (parseMethodDescriptor (kM 11).1.desc).map (fun d => d.parameters.length) = some 1 := by decide +kernel
theorem kPn_12 : (parseMethodDescriptor (kM 12).1.desc).map (fun d => d.parameters.length) = some 1 := by decide +kernel
theorem kPn_13 : (parseMethodDescriptor (kM 13).1.desc).map (fun d => d.parameters.length) = some 1 := by decide +kernel
theorem kPn_14 : (parseMethodDescriptor (kM 14).1.desc).map (fun d => d.parameters.length) = some 3 := by decide +kernel
theorem kPn_15 : (parseMethodDescriptor (kM 15).1.desc).map (fun d => d.parameters.length) = some 0 := by decide +kernel
theorem kPn_16 : (parseMethodDescriptor (kM 16).1.desc).map (fun d => d.parameters.length) = some 0 := by decide +kernel
theorem kPn_17 : (parseMethodDescriptor (kM 17).1.desc).map (fun d => d.parameters.length) = some 1 := by decide +kernel
theorem kPn_18 : (parseMethodDescriptor (kM 18).1.desc).map (fun d => d.parameters.length) = some 2 := by decide +kernel
theorem kPn_19 : (parseMethodDescriptor (kM 19).1.desc).map (fun d => d.parameters.length) = some 2 := by decide +kernel
theorem kPn_20 : (parseMethodDescriptor (kM 20).1.desc).map (fun d => d.parameters.length) = some 2 := by decide +kernel
theorem kPn_21 : (parseMethodDescriptor (kM 21).1.desc).map (fun d => d.parameters.length) = some 2 := by decide +kernel
theorem kPn_22 : (parseMethodDescriptor (kM 22).1.desc).map (fun d => d.parameters.length) = some 3 := by decide +kernel
theorem kPn_23 : (parseMethodDescriptor (kM 23).1.desc).map (fun d => d.parameters.length) = some 3 := by decide +kernel
theorem kPn_24 : (parseMethodDescriptor (kM 24).1.desc).map (fun d => d.parameters.length) = some 1 := by decide +kernel
theorem kPn_25 : (parseMethodDescriptor (kM 25).1.desc).map (fun d => d.parameters.length) = some 1 := by decide +kernel
theorem kPn_26 : (parseMethodDescriptor (kM 26).1.desc).map (fun d => d.parameters.length) = some 0 := by decide +kernel
theorem kPn_27 : (parseMethodDescriptor (kM 27).1.desc).map (fun d => d.parameters.length) = some 0 := by decide +kernel
theorem kPn_28 : (parseMethodDescriptor (kM 28).1.desc).map (fun d => d.parameters.length) = some 1 := by decide +kernel
theorem kPn_29 : (parseMethodDescriptor (kM 29).1.desc).map (fun d => d.parameters.length) = some 1 := by decide +kernel
theorem kPn_30 : (parseMethodDescriptor (kM 30).1.desc).map (fun d => d.parameters.length) = some 0 := by decide +kernel
theorem kPn_31 : (parseMethodDescriptor (kM 31).1.desc).map (fun d => d.parameters.length) = some 2 := by decide +kernel
theorem kPn_32 : (parseMethodDescriptor (kM 32).1.desc).map (fun d => d.parameters.length) = some 2 := by decide +kernel
theorem kPn_33 : (parseMethodDescriptor (kM 33).1.desc).map (fun d => d.parameters.length) = some 0 := by decide +kernel
theorem kPn_34 : (parseMethodDescriptor (kM 34).1.desc).map (fun d => d.parameters.length) = some 1 := by decide +kernel
theorem kPn_35 : (parseMethodDescriptor (kM 35).1.desc).map (fun d => d.parameters.length) = some 2 := by decide +kernel
theorem kPn_36 : (parseMethodDescriptor (kM 36).1.desc).map (fun d => d.parameters.length) = some 3 := by decide +kernel
theorem kPn_37 : (parseMethodDescriptor (kM 37).1.desc).map (fun d => d.parameters.length) = some 0 := by decide +kernel
theorem kPn_38 : (parseMethodDescriptor (kM 38).1.desc).map (fun d => d.parameters.length) = some 0 := by decide +kernel
theorem kPn_39 : (parseMethodDescriptor (kM 39).1.desc).map (fun d => d.parameters.length) = some 0 := by decide +kernel
theorem kPn_40 : (parseMethodDescriptor (kM 40).1.desc).map (fun d => d.parameters.length) = some 1 := by decide +kernel
theorem kPn_41 : (parseMethodDescriptor (kM 41).1.desc).map (fun d => d.parameters.length) = some 0 := by decide +kernel
theorem kPn_42 : (parseMethodDescriptor (kM 42).1.desc).map (fun d => d.parameters.length) = some 1 := by decide +kernel
theorem kPn_43 : (parseMethodDescriptor (kM 43).1.desc).map (fun d => d.parameters.length) = some 1 := by decide +kernel
theorem kPn_44 : (parseMethodDescriptor (kM 44).1.desc).map (fun d => d.parameters.length) = some 2 := by decide +kernel
theorem kPn_45 : (parseMethodDescriptor (kM 45).1.desc).map (fun d => d.parameters.length) = some 1 := by decide +kernel
theorem kPn_46 : (parseMethodDescriptor (kM 46).1.desc).map (fun d => d.parameters.length) = some 2 := by decide +kernel
theorem kPn_47 : (parseMethodDescriptor (kM 47).1.desc).map (fun d => d.parameters.length) = some 2 := by decide +kernel
theorem kPn_48 : (parseMethodDescriptor (kM 48).1.desc).map (fun d => d.parameters.length) = some 4 := by decide +kernel
theorem kPn_49 : (parseMethodDescriptor (kM 49).1.desc).map (fun d => d.parameters.length) = some 1 := by decide +kernel
theorem kPn_50 : (parseMethodDescriptor (kM 50).1.desc).map (fun d => d.parameters.length) = some 3 := by decide +kernel
theorem kPn_51 : (parseMethodDescriptor (kM 51).1.desc).map (fun d => d.parameters.length) = some 2 := by decide +kernel
theorem kPn_52 : (parseMethodDescriptor (kM 52).1.desc).map (fun d => d.parameters.length) = some 0 := by decide +kernel
theorem kPn_53 : (parseMethodDescriptor (kM 53).1.desc).map (fun d => d.parameters.length) = some 2 := by decide +kernel
theorem kPn_54 : (parseMethodDescriptor (kM 54).1.desc).map (fun d => d.parameters.length) = some 4 := by decide +kernel
theorem kPn_55 : (parseMethodDescriptor (kM 55).1.desc).map (fun d => d.parameters.length) = some 4 := by decide +kernel
theorem kPn_56 : (parseMethodDescriptor (kM 56).1.desc).map (fun d => d.parameters.length) = some 0 := by decide +kernel
theorem kPn_57 : (parseMethodDescriptor (kM 57).1.desc).map (fun d => d.parameters.length) = some 0 := by decide +kernel
theorem kPn_58 : (parseMethodDescriptor (kM 58).1.desc).map (fun d => d.parameters.length) = some 1 := by decide +kernel
theorem kPn_59 : (parseMethodDescriptor (kM 59).1.desc).map (fun d => d.parameters.length) = some 0 := by decide +kernel
theorem kPn_60 : (parseMethodDescriptor (kM 60).1.desc).map (fun d => d.parameters.length) = some 1 := by decide +kernel
theorem kPn_61 : (parseMethodDescriptor (kM 61).1.desc).map (fun d => d.parameters.length) = some 0 := by decide +kernel
theorem kPn_62 : (parseMethodDescriptor (kM 62).1.desc).map (fun d => d.parameters.length) = some 0 := by decide +kernel
theorem kPn_63 : (parseMethodDescriptor (kM 63).1.desc).map (fun d => d.parameters.length) = some 1 := by decide +kernel
theorem kPn_64 : (parseMethodDescriptor (kM 64).1.desc).map (fun d => d.parameters.length) = some 2 := by decide +kernel
theorem kPn_65 : (parseMethodDescriptor (kM 65).1.desc).map (fun d => d.parameters.length) = some 1 := by decide +kernel
theorem kPn_66 : (parseMethodDescriptor (kM 66).1.desc).map (fun d => d.parameters.length) = some 1 := by decide +kernel
theorem kPn_67 : (parseMethodDescriptor (kM 67).1.desc).map (fun d => d.parameters.length) = some 1 := by decide +kernel
theorem kPn_68 : (parseMethodDescriptor (kM 68).1.desc).map (fun d => d.parameters.length) = some 2 := by decide +kernel
theorem kPn_69 : (parseMethodDescriptor (kM 69).1.desc).map (fun d => d.parameters.length) = some 0 := by decide +kernel
theorem kPn_70 : (parseMethodDescriptor (kM 70).1.desc).map (fun d => d.parameters.length) = some 1 := by decide +kernel
theorem kPn_71 : (parseMethodDescriptor (kM 71).1.desc).map (fun d => d.parameters.length) = some 4 := by decide +kernel
theorem kPn_72 : (parseMethodDescriptor (kM 72).1.desc).map (fun d => d.parameters.length) = some 3 := by decide +kernel
theorem kPn_73 : (parseMethodDescriptor (kM 73).1.desc).map (fun d => d.parameters.length) = some 3 := by decide +kernel
theorem kPn_74 : (parseMethodDescriptor (kM 74).1.desc).map (fun d => d.parameters.length) = some 1 := by decide +kernel
theorem kPn_75 : (parseMethodDescriptor (kM 75).1.desc).map (fun d => d.parameters.length) = some 1 := by decide +kernel
theorem kPn_76 : (parseMethodDescriptor (kM 76).1.desc).map (fun d => d.parameters.length) = some 1 := by decide +kernel
theorem kPn_77 : (parseMethodDescriptor (kM 77).1.desc).map (fun d => d.parameters.length) = some 0 := by decide +kernel
theorem kPn_78 : (parseMethodDescriptor (kM 78).1.desc).map (fun d => d.parameters.length) = some 0 := by decide +kernel
theorem kPn_79 : (parseMethodDescriptor (kM 79).1.desc).map (fun d => d.parameters.length) = some 2 := by decide +kernel
theorem kPn_80 : (parseMethodDescriptor (kM 80).1.desc).map (fun d => d.parameters.length) = some 3 := by decide +kernel
theorem kPn_81 : (parseMethodDescriptor (kM 81).1.desc).map (fun d => d.parameters.length) = some 4 := by decide +kernel
theorem kPn_82 : (parseMethodDescriptor (kM 82).1.desc).map (fun d => d.parameters.length) = some 2 := by decide +kernel
theorem kPn_83 : (parseMethodDescriptor (kM 83).1.desc).map (fun d => d.parameters.length) = some 3 := by decide +kernel
theorem kPn_84 : (parseMethodDescriptor (kM 84).1.desc).map (fun d => d.parameters.length) = some 1 := by decide +kernel
theorem kPn_85 : (parseMethodDescriptor (kM 85).1.desc).map (fun d => d.parameters.length) = some 2 := by decide +kernel
theorem kPn_86 : (parseMethodDescriptor (kM 86).1.desc).map (fun d => d.parameters.length) = some 1 := by decide +kernel
theorem kPn_87 : (parseMethodDescriptor (kM 87).1.desc).map (fun d => d.parameters.length) = some 2 := by decide +kernel
theorem kPn_88 : (parseMethodDescriptor (kM 88).1.desc).map (fun d => d.parameters.length) = some 2 := by decide +kernel
theorem kPn_89 : (parseMethodDescriptor (kM 89).1.desc).map (fun d => d.parameters.length) = some 3 := by decide +kernel
theorem kPn_90 : (parseMethodDescriptor (kM 90).1.desc).map (fun d => d.parameters.length) = some 3 := by decide +kernel
theorem kPn_91 : (parseMethodDescriptor (kM 91).1.desc).map (fun d => d.parameters.length) = some 2 := by decide +kernel
theorem kPn_92 : (parseMethodDescriptor (kM 92).1.desc).map (fun d => d.parameters.length) = some 2 := by decide +kernel
theorem kPn_93 : (parseMethodDescriptor (kM 93).1.desc).map (fun d => d.parameters.length) = some 2 := by decide +kernel
theorem kPn_94 : (parseMethodDescriptor (kM 94).1.desc).map (fun d => d.parameters.length) = some 0 := by decide +kernel
theorem kPn_95 : (parseMethodDescriptor (kM 95).1.desc).map (fun d => d.parameters.length) = some 1 := by decide +kernel
theorem kPn_96 : (parseMethodDescriptor (kM 96).1.desc).map (fun d => d.parameters.length) = some 1 := by decide +kernel
theorem kPn_97 : (parseMethodDescriptor (kM 97).1.desc).map (fun d => d.parameters.length) = some 1 := by decide +kernel
theorem kPn_98 : (parseMethodDescriptor (kM 98).1.desc).map (fun d => d.parameters.length) = some 1 := by decide +kernel
theorem kPn_99 : (parseMethodDescriptor (kM 99).1.desc).map (fun d => d.parameters.length) = some 0 := by decide +kernel
theorem kPn_100 : (parseMethodDescriptor (kM 100).1.desc).map (fun d => d.parameters.length) = some 0 := by decide +kernel
theorem kPn_101 : (parseMethodDescriptor (kM 101).1.desc).map (fun d => d.parameters.length) = some 0 := by decide +kernel
theorem kPn_102 : (parseMethodDescriptor (kM 102).1.desc).map (fun d => d.parameters.length) = some 0 := by decide +kernel
theorem kPn_103 : (parseMethodDescriptor (kM 103).1.desc).map (fun d => d.parameters.length) = some 1 := by decide +kernel
theorem kPn_104 : (parseMethodDescriptor (kM 104).1.desc).map (fun d => d.parameters.length) = some 3 := by decide +kernel
theorem kPn_105 : (parseMethodDescriptor (kM 105).1.desc).map (fun d => d.parameters.length) = some 1 := by decide +kernel
theorem kPn_106 : (parseMethodDescriptor (kM 106).1.desc).map (fun d => d.parameters.length) = some 1 := by decide +kernel
theorem kPn_107 : (parseMethodDescriptor (kM 107).1.desc).map (fun d => d.parameters.length) = some 1 := by decide +kernel
theorem kPn_108 : (parseMethodDescriptor (kM 108).1.desc).map (fun d => d.parameters.length) = some 0 := by decide +kernel
theorem kPn_109 : (parseMethodDescriptor (kM 109).1.desc).map (fun d => d.parameters.length) = some 0 := by decide +kernel
theorem kPn_110 : (parseMethodDescriptor (kM 110).1.desc).map (fun d => d.parameters.length) = some 1 := by decide +kernel
theorem kPn_111 : (parseMethodDescriptor (kM 111).1.desc).map (fun d => d.parameters.length) = some 0 := by decide +kernel
theorem kPn_112 : (parseMethodDescriptor (kM 112).1.desc).map (fun d => d.parameters.length) = some 0 := by decide +kernel
theorem kPn_113 : (parseMethodDescriptor (kM 113).1.desc).map (fun d => d.parameters.length) = some 1 := by decide +kernel
theorem kPn_114 : (parseMethodDescriptor (kM 114).1.desc).map (fun d => d.parameters.length) = some 1 := by decide +kernel
theorem kPn_115 : (parseMethodDescriptor (kM 115).1.desc).map (fun d => d.parameters.length) = some 0 := by decide +kernel
theorem kPn_116 : (parseMethodDescriptor (kM 116).1.desc).map (fun d => d.parameters.length) = some 3 := by decide +kernel
theorem kPn_117 : (parseMethodDescriptor (kM 117).1.desc).map (fun d => d.parameters.length) = some 1 := by decide +kernel
theorem kPn_118 : (parseMethodDescriptor (kM 118).1.desc).map (fun d => d.parameters.length) = some 3 := by decide +kernel
theorem kPn_119 : (parseMethodDescriptor (kM 119).1.desc).map (fun d => d.parameters.length) = some 4 := by decide +kernel
theorem kPn_120 : (parseMethodDescriptor (kM 120).1.desc).map (fun d => d.parameters.length) = some 2 := by decide +kernel
theorem kPn_121 : (parseMethodDescriptor (kM 121).1.desc).map (fun d => d.parameters.length) = some 0 := by decide +kernel
theorem kPn_122 : (parseMethodDescriptor (kM 122).1.desc).map (fun d => d.parameters.length) = some 1 := by decide +kernel
theorem kPn_123 : (parseMethodDescriptor (kM 123).1.desc).map (fun d => d.parameters.length) = some 1 := by decide +kernel
theorem kPn_124 : (parseMethodDescriptor (kM 124).1.desc).map (fun d => d.parameters.length) = some 0 := by decide +kernel
theorem kPn_125 : (parseMethodDescriptor (kM 125).1.desc).map (fun d => d.parameters.length) = some 0 := by decide +kernel
theorem kPn_126 : (parseMethodDescriptor (kM 126).1.desc).map (fun d => d.parameters.length) = some 0 := by decide +kernel
theorem kPn_127 : (parseMethodDescriptor (kM 127).1.desc).map (fun d => d.parameters.length) = some 0 := by decide +kernel
theorem kPn_128 : (parseMethodDescriptor (kM 128).1.desc).map (fun d => d.parameters.length) = some 0 := by decide +kernel
theorem kPn_129 : (parseMethodDescriptor (kM 129).1.desc).map (fun d => d.parameters.length) = some 2 := by decide +kernel
theorem kPn_130 : (parseMethodDescriptor (kM 130).1.desc).map (fun d => d.parameters.length) = some 2 := by decide +kernel
theorem kPn_131 : (parseMethodDescriptor (kM 131).1.desc).map (fun d => d.parameters.length) = some 4 := by decide +kernel
theorem kPn_132 : (parseMethodDescriptor (kM 132).1.desc).map (fun d => d.parameters.length) = some 2 := by decide +kernel
theorem kPn_133 : (parseMethodDescriptor (kM 133).1.desc).map (fun d => d.parameters.length) = some 1 := by decide +kernel
theorem kPn_134 : (parseMethodDescriptor (kM 134).1.desc).map (fun d => d.parameters.length) = some 2 := by decide +kernel
theorem kPn_135 : (parseMethodDescriptor (kM 135).1.desc).map (fun d => d.parameters.length) = some 2 := by decide +kernel
theorem kPn_136 : (parseMethodDescriptor (kM 136).1.desc).map (fun d => d.parameters.length) = some 2 := by decide +kernel
theorem kPn_137 : (parseMethodDescriptor (kM 137).1.desc).map (fun d => d.parameters.length) = some 2 := by decide +kernel
theorem kPn_138 : (parseMethodDescriptor (kM 138).1.desc).map (fun d => d.parameters.length) = some 0 := by decide +kernel
theorem kPn_139 : (parseMethodDescriptor (kM 139).1.desc).map (fun d => d.parameters.length) = some 0 := by decide +kernel
theorem kPn_140 : (parseMethodDescriptor (kM 140).1.desc).map (fun d => d.parameters.length) = some 1 := by decide +kernel
theorem kPn_141 : (parseMethodDescriptor (kM 141).1.desc).map (fun d => d.parameters.length) = some 1 := by decide +kernel
theorem kPn_142 : (parseMethodDescriptor (kM 142).1.desc).map (fun d => d.parameters.length) = some 2 := by decide +kernel
theorem kPn_143 : (parseMethodDescriptor (kM 143).1.desc).map (fun d => d.parameters.length) = some 2 := by decide +kernel
theorem kPn_144 : (parseMethodDescriptor (kM 144).1.desc).map (fun d => d.parameters.length) = some 2 := by decide +kernel
theorem kPn_145 : (parseMethodDescriptor (kM 145).1.desc).map (fun d => d.parameters.length) = some 2 := by decide +kernel
theorem kPn_146 : (parseMethodDescriptor (kM 146).1.desc).map (fun d => d.parameters.length) = some 1 := by decide +kernel
theorem kPn_147 : (parseMethodDescriptor (kM 147).1.desc).map (fun d => d.parameters.length) = some 1 := by decide +kernel
theorem kPn_148 : (parseMethodDescriptor (kM 148).1.desc).map (fun d => d.parameters.length) = some 1 := by decide +kernel
theorem kPn_149 : (parseMethodDescriptor (kM 149).1.desc).map (fun d => d.parameters.length) = some 0 := by decide +kernel
theorem kPn_150 : (parseMethodDescriptor (kM 150).1.desc).map (fun d => d.parameters.length) = some 0 := by decide +kernel
theorem kPn_151 : (parseMethodDescriptor (kM 151).1.desc).map (fun d => d.parameters.length) = some 1 := by decide +kernel
theorem kPn_152 : (parseMethodDescriptor (kM 152).1.desc).map (fun d => d.parameters.length) = some 0 := by decide +kernel
theorem kPn_153 : (parseMethodDescriptor (kM 153).1.desc).map (fun d => d.parameters.length) = some 0 := by decide +kernel
theorem kPn_154 : (parseMethodDescriptor (kM 154).1.desc).map (fun d => d.parameters.length) = some 2 := by decide +kernel
theorem kPn_155 : (parseMethodDescriptor (kM 155).1.desc).map (fun d => d.parameters.length) = some 0 := by decide +kernel
theorem kPn_156 : (parseMethodDescriptor (kM 156).1.desc).map (fun d => d.parameters.length) = some 1 := by decide +kernel
theorem kPn_157 : (parseMethodDescriptor (kM 157).1.desc).map (fun d => d.parameters.length) = some 1 := by decide +kernel
theorem kPn_158 : (parseMethodDescriptor (kM 158).1.desc).map (fun d => d.parameters.length) = some 2 := by decide +kernel
theorem kPn_159 : (parseMethodDescriptor (kM 159).1.desc).map (fun d => d.parameters.length) = some 0 := by decide +kernel
theorem kPn_160 : (parseMethodDescriptor (kM 160).1.desc).map (fun d => d.parameters.length) = some 1 := by decide +kernel
theorem kPn_161 : (parseMethodDescriptor (kM 161).1.desc).map (fun d => d.parameters.length) = some 2 := by decide +kernel
theorem kPn_162 : (parseMethodDescriptor (kM 162).1.desc).map (fun d => d.parameters.length) = some 3 := by decide +kernel
theorem kPn_163 : (parseMethodDescriptor (kM 163).1.desc).map (fun d => d.parameters.length) = some 2 := by decide +kernel
theorem kPn_164 : (parseMethodDescriptor (kM 164).1.desc).map (fun d => d.parameters.length) = some 2 := by decide +kernel
theorem kPn_165 : (parseMethodDescriptor (kM 165).1.desc).map (fun d => d.parameters.length) = some 2 := by decide +kernel
theorem kPn_166 : (parseMethodDescriptor (kM 166).1.desc).map (fun d => d.parameters.length) = some 2 := by decide +kernel
theorem kPn_167 : (parseMethodDescriptor (kM 167).1.desc).map (fun d => d.parameters.length) = some 0 := by decide +kernel
theorem kPn_168 : (parseMethodDescriptor (kM 168).1.desc).map (fun d => d.parameters.length) = some 0 := by decide +kernel
theorem kPn_169 : (parseMethodDescriptor (kM 169).1.desc).map (fun d => d.parameters.length) = some 0 := by decide +kernel
theorem kPn_170 : (parseMethodDescriptor (kM 170).1.desc).map (fun d => d.parameters.length) = some 0 := by decide +kernel
theorem kPn_171 : (parseMethodDescriptor (kM 171).1.desc).map (fun d => d.parameters.length) = some 3 := by decide +kernel
theorem kPn_172 : (parseMethodDescriptor (kM 172).1.desc).map (fun d => d.parameters.length) = some 2 := by decide +kernel
theorem kPn_173 : (parseMethodDescriptor (kM 173).1.desc).map (fun d => d.parameters.length) = some 0 := by decide +kernel
theorem kPn_174 : (parseMethodDescriptor (kM 174).1.desc).map (fun d => d.parameters.length) = some 1 := by decide +kernel
theorem kPn_175 : (parseMethodDescriptor (kM 175).1.desc).map (fun d => d.parameters.length) = some 2 := by decide +kernel
theorem kPn_176 : (parseMethodDescriptor (kM 176).1.desc).map (fun d => d.parameters.length) = some 1 := by decide +kernel
theorem kPn_177 : (parseMethodDescriptor (kM 177).1.desc).map (fun d => d.parameters.length) = some 1 := by decide +kernel
theorem kPn_178 : (parseMethodDescriptor (kM 178).1.desc).map (fun d => d.parameters.length) = some 1 := by decide +kernel
theorem kPn_179 : (parseMethodDescriptor (kM 179).1.desc).map (fun d => d.parameters.length) = some 1 := by decide +kernel
theorem kPn_180 : (parseMethodDescriptor (kM 180).1.desc).map (fun d => d.parameters.length) = some 1 := by decide +kernel
theorem kPn_181 : (parseMethodDescriptor (kM 181).1.desc).map (fun d => d.parameters.length) = some 0 := by decide +kernel
theorem kPn_182 : (parseMethodDescriptor (kM 182).1.desc).map (fun d => d.parameters.length) = some 3 := by decide +kernel
theorem kPn_183 : (parseMethodDescriptor (kM 183).1.desc).map (fun d => d.parameters.length) = some 2 := by decide +kernel
theorem kPn_184 : (parseMethodDescriptor (kM 184).1.desc).map (fun d => d.parameters.length) = some 1 := by decide +kernel
theorem kPn_185 : (parseMethodDescriptor (kM 185).1.desc).map (fun d => d.parameters.length) = some 2 := by decide +kernel
theorem kPn_186 : (parseMethodDescriptor (kM 186).1.desc).map (fun d => d.parameters.length) = some 1 := by decide +kernel
theorem kPn_187 : (parseMethodDescriptor (kM 187).1.desc).map (fun d => d.parameters.length) = some 0 := by decide +kernel
theorem kPn_188 : (parseMethodDescriptor (kM 188).1.desc).map (fun d => d.parameters.length) = some 0 := by decide +kernel
theorem kPn_189 : (parseMethodDescriptor (kM 189).1.desc).map (fun d => d.parameters.length) = some 1 := by decide +kernel
theorem kPn_190 : (parseMethodDescriptor (kM 190).1.desc).map (fun d => d.parameters.length) = some 1 := by decide +kernel
theorem kPn_191 : (parseMethodDescriptor (kM 191).1.desc).map (fun d => d.parameters.length) = some 1 := by decide +kernel
theorem kPn_192 : (parseMethodDescriptor (kM 192).1.desc).map (fun d => d.parameters.length) = some 2 := by decide +kernel
theorem kPn_193 : (parseMethodDescriptor (kM 193).1.desc).map (fun d => d.parameters.length) = some 1 := by decide +kernel
theorem kPn_194 : (parseMethodDescriptor (kM 194).1.desc).map (fun d => d.parameters.length) = some 1 := by decide +kernel
theorem kPn_195 : (parseMethodDescriptor (kM 195).1.desc).map (fun d => d.parameters.length) = some 1 := by decide +kernel
theorem kPn_196 : (parseMethodDescriptor (kM 196).1.desc).map (fun d => d.parameters.length) = some 1 := by decide +kernel
theorem kPn_197 : (parseMethodDescriptor (kM 197).1.desc).map (fun d => d.parameters.length) = some 0 := by decide +kernel
theorem kPn_198 : (parseMethodDescriptor (kM 198).1.desc).map (fun d => d.parameters.length) = some 1 := by decide +kernel
theorem kPn_199 : (parseMethodDescriptor (kM 199).1.desc).map (fun d => d.parameters.length) = some 1 := by decide +kernel
theorem kPn_200 : (parseMethodDescriptor (kM 200).1.desc).map (fun d => d.parameters.length) = some 2 := by decide +kernel
theorem kPn_201 : (parseMethodDescriptor (kM 201).1.desc).map (fun d => d.parameters.length) = some 3 := by decide +kernel
theorem kPn_202 : (parseMethodDescriptor (kM 202).1.desc).map (fun d => d.parameters.length) = some 0 := by decide +kernel
theorem kPn_203 : (parseMethodDescriptor (kM 203).1.desc).map (fun d => d.parameters.length) = some 0 := by decide +kernel
theorem kPn_204 : (parseMethodDescriptor (kM 204).1.desc).map (fun d => d.parameters.length) = some 0 := by decide +kernel
theorem kPn_205 : (parseMethodDescriptor (kM 205).1.desc).map (fun d => d.parameters.length) = some 0 := by decide +kernel
theorem kPn_206 : (parseMethodDescriptor (kM 206).1.desc).map (fun d => d.parameters.length) = some 2 := by decide +kernel
theorem kPn_207 : (parseMethodDescriptor (kM 207).1.desc).map (fun d => d.parameters.length) = some 0 := by decide +kernel
theorem kPn_208 : (parseMethodDescriptor (kM 208).1.desc).map (fun d => d.parameters.length) = some 0 := by decide +kernel
theorem kPn_209 : (parseMethodDescriptor (kM 209).1.desc).map (fun d => d.parameters.length) = some 0 := by decide +kernel
theorem kPn_210 : (parseMethodDescriptor (kM 210).1.desc).map (fun d => d.parameters.length) = some 0 := by decide +kernel
theorem kPn_211 : (parseMethodDescriptor (kM 211).1.desc).map (fun d => d.parameters.length) = some 1 := by decide +kernel
theorem kPn_212 : (parseMethodDescriptor (kM 212).1.desc).map (fun d => d.parameters.length) = some 1 := by decide +kernel
theorem kPn_213 : (parseMethodDescriptor (kM 213).1.desc).map (fun d => d.parameters.length) = some 0 := by decide +kernel
theorem kPn_214 : (parseMethodDescriptor (kM 214).1.desc).map (fun d => d.parameters.length) = some 1 := by decide +kernel
theorem kPn_215 : (parseMethodDescriptor (kM 215).1.desc).map (fun d => d.parameters.length) = some 0 := by decide +kernel
theorem kPn_216 : (parseMethodDescriptor (kM 216).1.desc).map (fun d => d.parameters.length) = some 2 := by decide +kernel
theorem kPn_217 : (parseMethodDescriptor (kM 217).1.desc).map (fun d => d.parameters.length) = some 0 := by decide +kernel
theorem kPn_218 : (parseMethodDescriptor (kM 218).1.desc).map (fun d => d.parameters.length) = some 3 := by decide +kernel
theorem kPn_219 : (parseMethodDescriptor (kM 219).1.desc).map (fun d => d.parameters.length) = some 0 := by decide +kernel
theorem kPn_220 : (parseMethodDescriptor (kM 220).1.desc).map (fun d => d.parameters.length) = some 3 := by decide +kernel
theorem kPn_221 : (parseMethodDescriptor (kM 221).1.desc).map (fun d => d.parameters.length) = some 2 := by decide +kernel
theorem kPn_222 : (parseMethodDescriptor (kM 222).1.desc).map (fun d => d.parameters.length) = some 2 := by decide +kernel
theorem kPn_223 : (parseMethodDescriptor (kM 223).1.desc).map (fun d => d.parameters.length) = some 2 := by decide +kernel
theorem kPn_224 : (parseMethodDescriptor (kM 224).1.desc).map (fun d => d.parameters.length) = some 5 := by decide +kernel
theorem kPn_225 : (parseMethodDescriptor (kM 225).1.desc).map (fun d => d.parameters.length) = some 3 := by decide +kernel
theorem kPn_226 : (parseMethodDescriptor (kM 226).1.desc).map (fun d => d.parameters.length) = some 2 := by decide +kernel
theorem kPn_227 : (parseMethodDescriptor (kM 227).1.desc).map (fun d => d.parameters.length) = some 1 := by decide +kernel
theorem kPn_228 : (parseMethodDescriptor (kM 228).1.desc).map (fun d => d.parameters.length) = some 2 := by decide +kernel
theorem kPn_229 : (parseMethodDescriptor (kM 229).1.desc).map (fun d => d.parameters.length) = some 2 := by decide +kernel
theorem kPn_230 : (parseMethodDescriptor (kM 230).1.desc).map (fun d => d.parameters.length) = some 2 := by decide +kernel
theorem kPn_231 : (parseMethodDescriptor (kM 231).1.desc).map (fun d => d.parameters.length) = some 3 := by decide +kernel
theorem kPn_232 : (parseMethodDescriptor (kM 232).1.desc).map (fun d => d.parameters.length) = some 3 := by decide +kernel
theorem kPn_233 : (parseMethodDescriptor (kM 233).1.desc).map (fun d => d.parameters.length) = some 2 := by decide +kernel
theorem kPn_234 : (parseMethodDescriptor (kM 234).1.desc).map (fun d => d.parameters.length) = some 1 := by decide +kernel
theorem kPn_235 : (parseMethodDescriptor (kM 235).1.desc).map (fun d => d.parameters.length) = some 2 := by decide +kernel
theorem kPn_236 : (parseMethodDescriptor (kM 236).1.desc).map (fun d => d.parameters.length) = some 2 := by decide +kernel
theorem kPn_237 : (parseMethodDescriptor (kM 237).1.desc).map (fun d => d.parameters.length) = some 4 := by decide +kernel
theorem kPn_238 : (parseMethodDescriptor (kM 238).1.desc).map (fun d => d.parameters.length) = some 0 := by decide +kernel
theorem kPn_239 : (parseMethodDescriptor (kM 239).1.desc).map (fun d => d.parameters.length) = some 1 := by decide +kernel
theorem kPn_240 : (parseMethodDescriptor (kM 240).1.desc).map (fun d => d.parameters.length) = some 1 := by decide +kernel
theorem kPn_241 : (parseMethodDescriptor (kM 241).1.desc).map (fun d => d.parameters.length) = some 0 := by decide +kernel
theorem kPn_242 : (parseMethodDescriptor (kM 242).1.desc).map (fun d => d.parameters.length) = some 1 := by decide +kernel
theorem kPn_243 : (parseMethodDescriptor (kM 243).1.desc).map (fun d => d.parameters.length) = some 2 := by decide +kernel
theorem kPn_244 : (parseMethodDescriptor (kM 244).1.desc).map (fun d => d.parameters.length) = some 3 := by decide +kernel
theorem kPn_245 : (parseMethodDescriptor (kM 245).1.desc).map (fun d => d.parameters.length) = some 3 := by decide +kernel
theorem kPn_246 : (parseMethodDescriptor (kM 246).1.desc).map (fun d => d.parameters.length) = some 2 := by decide +kernel
theorem kPn_247 : (parseMethodDescriptor (kM 247).1.desc).map (fun d => d.parameters.length) = some 2 := by decide +kernel
theorem kPn_248 : (parseMethodDescriptor (kM 248).1.desc).map (fun d => d.parameters.length) = some 1 := by decide +kernel
theorem kPn_249 : (parseMethodDescriptor (kM 249).1.desc).map (fun d => d.parameters.length) = some 2 := by decide +kernel
theorem kPn_250 : (parseMethodDescriptor (kM 250).1.desc).map (fun d => d.parameters.length) = some 2 := by decide +kernel
theorem kPn_251 : (parseMethodDescriptor (kM 251).1.desc).map (fun d => d.parameters.length) = some 2 := by decide +kernel
theorem kPn_252 : (parseMethodDescriptor (kM 252).1.desc).map (fun d => d.parameters.length) = some 2 := by decide +kernel
theorem kPn_253 : (parseMethodDescriptor (kM 253).1.desc).map (fun d => d.parameters.length) = some 0 := by decide +kernel
theorem kPn_254 : (parseMethodDescriptor (kM 254).1.desc).map (fun d => d.parameters.length) = some 1 := by decide +kernel
theorem kPn_255 : (parseMethodDescriptor (kM 255).1.desc).map (fun d => d.parameters.length) = some 0 := by decide +kernel
theorem kPn_256 : (parseMethodDescriptor (kM 256).1.desc).map (fun d => d.parameters.length) = some 0 := by decide +kernel
theorem kPn_257 : (parseMethodDescriptor (kM 257).1.desc).map (fun d => d.parameters.length) = some 1 := by decide +kernel
theorem kPn_258 : (parseMethodDescriptor (kM 258).1.desc).map (fun d => d.parameters.length) = some 1 := by decide +kernel
theorem kPn_259 : (parseMethodDescriptor (kM 259).1.desc).map (fun d => d.parameters.length) = some 0 := by decide +kernel
theorem kPn_260 : (parseMethodDescriptor (kM 260).1.desc).map (fun d => d.parameters.length) = some 0 := by decide +kernel
theorem kPn_261 : (parseMethodDescriptor (kM 261).1.desc).map (fun d => d.parameters.length) = some 0 := by decide +kernel
theorem kPn_262 : (parseMethodDescriptor (kM 262).1.desc).map (fun d => d.parameters.length) = some 1 := by decide +kernel
theorem kPn_263 : (parseMethodDescriptor (kM 263).1.desc).map (fun d => d.parameters.length) = some 0 := by decide +kernel
theorem kPn_264 : (parseMethodDescriptor (kM 264).1.desc).map (fun d => d.parameters.length) = some 2 := by decide +kernel
theorem kPn_265 : (parseMethodDescriptor (kM 265).1.desc).map (fun d => d.parameters.length) = some 0 := by decide +kernel
theorem kPn_266 : (parseMethodDescriptor (kM 266).1.desc).map (fun d => d.parameters.length) = some 2 := by decide +kernel
theorem kPn_267 : (parseMethodDescriptor (kM 267).1.desc).map (fun d => d.parameters.length) = some 1 := by decide +kernel
theorem kPn_268 : (parseMethodDescriptor (kM 268).1.desc).map (fun d => d.parameters.length) = some 0 := by decide +kernel
theorem kPn_269 : (parseMethodDescriptor (kM 269).1.desc).map (fun d => d.parameters.length) = some 1 := by decide +kernel
theorem kPn_270 : (parseMethodDescriptor (kM 270).1.desc).map (fun d => d.parameters.length) = some 1 := by decide +kernel
theorem kPn_271 : (parseMethodDescriptor (kM 271).1.desc).map (fun d => d.parameters.length) = some 3 := by decide +kernel
theorem kPn_272 : (parseMethodDescriptor (kM 272).1.desc).map (fun d => d.parameters.length) = some 2 := by decide +kernel
theorem kPn_273 : (parseMethodDescriptor (kM 273).1.desc).map (fun d => d.parameters.length) = some 2 := by decide +kernel
theorem kPn_274 : (parseMethodDescriptor (kM 274).1.desc).map (fun d => d.parameters.length) = some 2 := by decide +kernel
theorem kPn_275 : (parseMethodDescriptor (kM 275).1.desc).map (fun d => d.parameters.length) = some 3 := by decide +kernel
theorem kPn_276 : (parseMethodDescriptor (kM 276).1.desc).map (fun d => d.parameters.length) = some 0 := by decide +kernel
theorem kPn_277 : (parseMethodDescriptor (kM 277).1.desc).map (fun d => d.parameters.length) = some 1 := by decide +kernel
theorem kPn_278 : (parseMethodDescriptor (kM 278).1.desc).map (fun d => d.parameters.length) = some 2 := by decide +kernel
theorem kPn_279 : (parseMethodDescriptor (kM 279).1.desc).map (fun d => d.parameters.length) = some 3 := by decide +kernel
theorem kPn_280 : (parseMethodDescriptor (kM 280).1.desc).map (fun d => d.parameters.length) = some 3 := by decide +kernel
theorem kPn_281 : (parseMethodDescriptor (kM 281).1.desc).map (fun d => d.parameters.length) = some 2 := by decide +kernel
theorem kPn_282 : (parseMethodDescriptor (kM 282).1.desc).map (fun d => d.parameters.length) = some 2 := by decide +kernel
theorem kPn_283 : (parseMethodDescriptor (kM 283).1.desc).map (fun d => d.parameters.length) = some 2 := by decide +kernel
theorem kPn_284 : (parseMethodDescriptor (kM 284).1.desc).map (fun d => d.parameters.length) = some 0 := by decide +kernel
theorem kPn_285 : (parseMethodDescriptor (kM 285).1.desc).map (fun d => d.parameters.length) = some 0 := by decide +kernel
theorem kPn_286 : (parseMethodDescriptor (kM 286).1.desc).map (fun d => d.parameters.length) = some 0 := by decide +kernel
theorem kPn_287 : (parseMethodDescriptor (kM 287).1.desc).map (fun d => d.parameters.length) = some 0 := by decide +kernel
theorem kPn_288 : (parseMethodDescriptor (kM 288).1.desc).map (fun d => d.parameters.length) = some 3 := by decide +kernel
theorem kPn_289 : (parseMethodDescriptor (kM 289).1.desc).map (fun d => d.parameters.length) = some 2 := by decide +kernel
theorem kPn_290 : (parseMethodDescriptor (kM 290).1.desc).map (fun d => d.parameters.length) = some 0 := by decide +kernel
theorem kPn_291 : (parseMethodDescriptor (kM 291).1.desc).map (fun d => d.parameters.length) = some 3 := by decide +kernel
theorem kPn_292 : (parseMethodDescriptor (kM 292).1.desc).map (fun d => d.parameters.length) = some 3 := by decide +kernel
theorem kPn_293 : (parseMethodDescriptor (kM 293).1.desc).map (fun d => d.parameters.length) = some 1 := by decide +kernel
theorem kPn_294 : (parseMethodDescriptor (kM 294).1.desc).map (fun d => d.parameters.length) = some 1 := by decide +kernel
theorem kPn_295 : (parseMethodDescriptor (kM 295).1.desc).map (fun d => d.parameters.length) = some 2 := by decide +kernel
theorem kPn_296 : (parseMethodDescriptor (kM 296).1.desc).map (fun d => d.parameters.length) = some 1 := by decide +kernel
theorem kPn_297 : (parseMethodDescriptor (kM 297).1.desc).map (fun d => d.parameters.length) = some 1 := by decide +kernel
theorem kPn_298 : (parseMethodDescriptor (kM 298).1.desc).map (fun d => d.parameters.length) = some 1 := by decide +kernel
theorem kPn_299 : (parseMethodDescriptor (kM 299).1.desc).map (fun d => d.parameters.length) = some 1 := by decide +kernel
theorem kPn_300 : (parseMethodDescriptor (kM 300).1.desc).map (fun d => d.parameters.length) = some 1 := by decide +kernel
theorem kPn_301 : (parseMethodDescriptor (kM 301).1.desc).map (fun d => d.parameters.length) = some 1 := by decide +kernel
theorem kPn_302 : (parseMethodDescriptor (kM 302).1.desc).map (fun d => d.parameters.length) = some 1 := by decide +kernel
theorem kPn_303 : (parseMethodDescriptor (kM 303).1.desc).map (fun d => d.parameters.length) = some 1 := by decide +kernel
theorem kPn_304 : (parseMethodDescriptor (kM 304).1.desc).map (fun d => d.parameters.length) = some 1 := by decide +kernel
theorem kPn_305 : (parseMethodDescriptor (kM 305).1.desc).map (fun d => d.parameters.length) = some 1 := by decide +kernel
theorem kPn_306 : (parseMethodDescriptor (kM 306).1.desc).map (fun d => d.parameters.length) = some 0 := by decide +kernel
theorem kPn_307 : (parseMethodDescriptor (kM 307).1.desc).map (fun d => d.parameters.length) = some 1 := by decide +kernel
theorem kPn_308 : (parseMethodDescriptor (kM 308).1.desc).map (fun d => d.parameters.length) = some 1 := by decide +kernel
theorem kPn_309 : (parseMethodDescriptor (kM 309).1.desc).map (fun d => d.parameters.length) = some 2 := by decide +kernel
theorem kPn_310 : (parseMethodDescriptor (kM 310).1.desc).map (fun d => d.parameters.length) = some 0 := by decide +kernel
theorem kPn_311 : (parseMethodDescriptor (kM 311).1.desc).map (fun d => d.parameters.length) = some 0 := by decide +kernel
theorem kPn_312 : (parseMethodDescriptor (kM 312).1.desc).map (fun d => d.parameters.length) = some 2 := by decide +kernel
theorem kPn_313 : (parseMethodDescriptor (kM 313).1.desc).map (fun d => d.parameters.length) = some 3 := by decide +kernel
theorem kPn_314 : (parseMethodDescriptor (kM 314).1.desc).map (fun d => d.parameters.length) = some 2 := by decide +kernel
theorem kPn_315 : (parseMethodDescriptor (kM 315).1.desc).map (fun d => d.parameters.length) = some 1 := by decide +kernel
theorem kPn_316 : (parseMethodDescriptor (kM 316).1.desc).map (fun d => d.parameters.length) = some 4 := by decide +kernel
theorem kPn_317 : (parseMethodDescriptor (kM 317).1.desc).map (fun d => d.parameters.length) = some 4 := by decide +kernel
theorem kPn_318 : (parseMethodDescriptor (kM 318).1.desc).map (fun d => d.parameters.length) = some 2 := by decide +kernel
theorem kPn_319 : (parseMethodDescriptor (kM 319).1.desc).map (fun d => d.parameters.length) = some 1 := by decide +kernel
theorem kPn_320 : (parseMethodDescriptor (kM 320).1.desc).map (fun d => d.parameters.length) = some 4 := by decide +kernel
theorem kPn_321 : (parseMethodDescriptor (kM 321).1.desc).map (fun d => d.parameters.length) = some 4 := by decide +kernel
theorem kPn_322 : (parseMethodDescriptor (kM 322).1.desc).map (fun d => d.parameters.length) = some 4 := by decide +kernel
theorem kPn_323 : (parseMethodDescriptor (kM 323).1.desc).map (fun d => d.parameters.length) = some 4 := by decide +kernel
theorem kPn_324 : (parseMethodDescriptor (kM 324).1.desc).map (fun d => d.parameters.length) = some 2 := by decide +kernel
theorem kPn_325 : (parseMethodDescriptor (kM 325).1.desc).map (fun d => d.parameters.length) = some 2 := by decide +kernel
theorem kPn_326 : (parseMethodDescriptor (kM 326).1.desc).map (fun d => d.parameters.length) = some 3 := by decide +kernel
theorem kPn_327 : (parseMethodDescriptor (kM 327).1.desc).map (fun d => d.parameters.length) = some 2 := by decide +kernel
theorem kPn_328 : (parseMethodDescriptor (kM 328).1.desc).map (fun d => d.parameters.length) = some 2 := by decide +kernel
theorem kPn_329 : (parseMethodDescriptor (kM 329).1.desc).map (fun d => d.parameters.length) = some 3 := by decide +kernel
theorem kPn_330 : (parseMethodDescriptor (kM 330).1.desc).map (fun d => d.parameters.length) = some 4 := by decide +kernel
theorem kl_0_1 : kLp "BonnetValley$Formula" (1, 4, 0, 0, .null) := pm_lk4 kw_317
theorem kl_0_9 : kLp "BonnetValley$Formula" (9, 6, 0, 0, .null) := pm_lk6 (T := kT_0) (N := 9) rfl (Nat.le_of_ble_eq_true rfl) kw_318
theorem kl_0_13 : kLp "BonnetValley$Formula" (13, 6, 0, 2, .null) := pm_lk6 (T := kT_0) (N := 9) rfl (Nat.le_of_ble_eq_true rfl) kw_319
theorem kLc_0_0 : ∀ q ∈ kLk_0_0, kLp "BonnetValley$Formula" q := List.forall_mem_cons.mpr ⟨kl_0_1, List.forall_mem_cons.mpr ⟨kl_0_9, List.forall_mem_cons.mpr ⟨kl_0_13, fun _ h => absurd h List.not_mem_nil⟩⟩⟩
theorem kl_0_16 : kLp "BonnetValley$Formula" (16, 6, 0, 4, .null) := pm_lk6 (T := kT_0) (N := 9) rfl (Nat.le_of_ble_eq_true rfl) kw_320
theorem kl_0_20 : kLp "BonnetValley$Formula" (20, 6, 0, 8, .null) := pm_lk6 (T := kT_0) (N := 9) rfl (Nat.le_of_ble_eq_true rfl) kw_321
theorem kl_0_23 : kLp "BonnetValley$Formula" (23, 2, 2, 0, .ref 0) := pm_lk2 (ci := 0) (T := kT_0) (N := 9) (Or.inl kw_322) kPn_2 kw_323 kw_324 rfl
theorem kl_0_26 : kLp "BonnetValley$Formula" (26, 2, 3, 0, .ref 0) := pm_lk2 (ci := 0) (T := kT_0) (N := 9) (Or.inl kw_325) kPn_3 kw_326 kw_327 rfl
theorem kl_0_29 : kLp "BonnetValley$Formula" (29, 2, 99, 0, .ref 9) := pm_lk2 (ci := 9) (T := kT_9) (N := 2) (Or.inl kw_328) kPn_99 kw_54 kw_55 rfl
theorem kLc_0_1 : ∀ q ∈ kLk_0_1, kLp "BonnetValley$Formula" q := List.forall_mem_cons.mpr ⟨kl_0_16, List.forall_mem_cons.mpr ⟨kl_0_20, List.forall_mem_cons.mpr ⟨kl_0_23, List.forall_mem_cons.mpr ⟨kl_0_26, List.forall_mem_cons.mpr ⟨kl_0_29, fun _ h => absurd h List.not_mem_nil⟩⟩⟩⟩⟩
theorem kl_0_35 : kLp "BonnetValley$Formula" (35, 2, 97, 1, .ref 9) := pm_lk2 (ci := 9) (T := kT_9) (N := 2) (Or.inl kw_329) kPn_97 kw_330 kw_331 rfl
theorem kl_0_39 : kLp "BonnetValley$Formula" (39, 2, 4, 1, .ref 0) := pm_lk2 (ci := 0) (T := kT_0) (N := 9) (Or.inl kw_332) kPn_4 kw_333 kw_334 rfl
theorem kl_0_43 : kLp "BonnetValley$Formula" (43, 6, 0, 7, .null) := pm_lk6 (T := kT_0) (N := 9) rfl (Nat.le_of_ble_eq_true rfl) kw_335
theorem kl_0_47 : kLp "BonnetValley$Formula" (47, 6, 0, 5, .null) := pm_lk6 (T := kT_0) (N := 9) rfl (Nat.le_of_ble_eq_true rfl) kw_336
theorem kLc_0_2 : ∀ q ∈ kLk_0_2, kLp "BonnetValley$Formula" q := List.forall_mem_cons.mpr ⟨kl_0_35, List.forall_mem_cons.mpr ⟨kl_0_39, List.forall_mem_cons.mpr ⟨kl_0_43, List.forall_mem_cons.mpr ⟨kl_0_47, fun _ h => absurd h List.not_mem_nil⟩⟩⟩⟩
theorem kl_0_51 : kLp "BonnetValley$Formula" (51, 2, 10, 1, .ref 0) := pm_lk2 (ci := 0) (T := kT_0) (N := 9) (Or.inl kw_337) kPn_10 kw_338 kw_339 rfl
theorem kl_0_55 : kLp "BonnetValley$Formula" (55, 6, 0, 1, .null) := pm_lk6 (T := kT_0) (N := 9) rfl (Nat.le_of_ble_eq_true rfl) kw_340
theorem kl_0_57 : kLp "BonnetValley$Formula" (57, 6, 0, 3, .null) := pm_lk6 (T := kT_0) (N := 9) rfl (Nat.le_of_ble_eq_true rfl) kw_341
theorem kl_0_60 : kLp "BonnetValley$Formula" (60, 6, 0, 6, .null) := pm_lk6 (T := kT_0) (N := 9) rfl (Nat.le_of_ble_eq_true rfl) kw_342
theorem kl_0_63 : kLp "BonnetValley$Formula" (63, 12, 0, 0, .ref 1048626) := pm_lk12 (tx := "blkfrcnp") (by decide +kernel)
theorem kLc_0_3 : ∀ q ∈ kLk_0_3, kLp "BonnetValley$Formula" q := List.forall_mem_cons.mpr ⟨kl_0_51, List.forall_mem_cons.mpr ⟨kl_0_55, List.forall_mem_cons.mpr ⟨kl_0_57, List.forall_mem_cons.mpr ⟨kl_0_60, List.forall_mem_cons.mpr ⟨kl_0_63, fun _ h => absurd h List.not_mem_nil⟩⟩⟩⟩⟩
theorem kl_0_65 : kLp "BonnetValley$Formula" (65, 2, 308, 1, .null) := pm_lk2s (Or.inl kw_343) kPn_308 kw_344 kw_345 rfl
theorem kl_0_70 : kLp "BonnetValley$Formula" (70, 2, 11, 1, .ref 0) := pm_lk2 (ci := 0) (T := kT_0) (N := 9) (Or.inl kw_346) kPn_11 kw_347 kw_348 rfl
theorem kl_0_73 : kLp "BonnetValley$Formula" (73, 2, 5, 1, .ref 0) := pm_lk2 (ci := 0) (T := kT_0) (N := 9) (Or.inl kw_349) kPn_5 kw_350 kw_351 rfl
theorem kl_0_76 : kLp "BonnetValley$Formula" (76, 2, 6, 1, .ref 0) := pm_lk2 (ci := 0) (T := kT_0) (N := 9) (Or.inl kw_352) kPn_6 kw_353 kw_354 rfl
theorem kl_0_79 : kLp "BonnetValley$Formula" (79, 2, 7, 1, .ref 0) := pm_lk2 (ci := 0) (T := kT_0) (N := 9) (Or.inl kw_355) kPn_7 kw_356 kw_357 rfl
theorem kLc_0_4 : ∀ q ∈ kLk_0_4, kLp "BonnetValley$Formula" q := List.forall_mem_cons.mpr ⟨kl_0_65, List.forall_mem_cons.mpr ⟨kl_0_70, List.forall_mem_cons.mpr ⟨kl_0_73, List.forall_mem_cons.mpr ⟨kl_0_76, List.forall_mem_cons.mpr ⟨kl_0_79, fun _ h => absurd h List.not_mem_nil⟩⟩⟩⟩⟩
theorem kl_0_82 : kLp "BonnetValley$Formula" (82, 2, 12, 1, .ref 0) := pm_lk2 (ci := 0) (T := kT_0) (N := 9) (Or.inl kw_358) kPn_12 kw_359 kw_360 rfl
theorem kl_0_85 : kLp "BonnetValley$Formula" (85, 2, 8, 0, .ref 0) := pm_lk2 (ci := 0) (T := kT_0) (N := 9) (Or.inl kw_361) kPn_8 kw_362 kw_363 rfl
theorem kl_0_89 : kLp "BonnetValley$Formula" (89, 1, 9, 1, .null) := pm_lk1 (Or.inl kw_364) kPn_9 kw_365
theorem kl_0_92 : kLp "BonnetValley$Formula" (92, 1, 14, 3, .null) := pm_lk1 (Or.inl kw_366) kPn_14 kw_367
theorem kLc_0_5 : ∀ q ∈ kLk_0_5, kLp "BonnetValley$Formula" q := List.forall_mem_cons.mpr ⟨kl_0_82, List.forall_mem_cons.mpr ⟨kl_0_85, List.forall_mem_cons.mpr ⟨kl_0_89, List.forall_mem_cons.mpr ⟨kl_0_92, fun _ h => absurd h List.not_mem_nil⟩⟩⟩⟩
theorem kLd_0 : ∀ c ∈ kLo_0, ∀ q ∈ c, kLp "BonnetValley$Formula" q := List.forall_mem_cons.mpr ⟨kLc_0_0, List.forall_mem_cons.mpr ⟨kLc_0_1, List.forall_mem_cons.mpr ⟨kLc_0_2, List.forall_mem_cons.mpr ⟨kLc_0_3, List.forall_mem_cons.mpr ⟨kLc_0_4, List.forall_mem_cons.mpr ⟨kLc_0_5, fun _ h => absurd h List.not_mem_nil⟩⟩⟩⟩⟩⟩
theorem kl_1_3 : kLp "BonnetValley$Games" (3, 4, 0, 0, .null) := pm_lk4 kw_368
theorem kl_1_9 : kLp "BonnetValley$Games" (9, 6, 1, 0, .null) := pm_lk6 (T := kT_1) (N := 4) rfl (Nat.le_of_ble_eq_true rfl) kw_369
theorem kl_1_15 : kLp "BonnetValley$Games" (15, 6, 1, 2, .null) := pm_lk6 (T := kT_1) (N := 4) rfl (Nat.le_of_ble_eq_true rfl) kw_370
theorem kLc_1_0 : ∀ q ∈ kLk_1_0, kLp "BonnetValley$Games" q := List.forall_mem_cons.mpr ⟨kl_1_3, List.forall_mem_cons.mpr ⟨kl_1_9, List.forall_mem_cons.mpr ⟨kl_1_15, fun _ h => absurd h List.not_mem_nil⟩⟩⟩
theorem kl_1_19 : kLp "BonnetValley$Games" (19, 6, 1, 1, .null) := pm_lk6 (T := kT_1) (N := 4) rfl (Nat.le_of_ble_eq_true rfl) kw_371
theorem kl_1_23 : kLp "BonnetValley$Games" (23, 6, 1, 3, .null) := pm_lk6 (T := kT_1) (N := 4) rfl (Nat.le_of_ble_eq_true rfl) kw_372
theorem kl_1_27 : kLp "BonnetValley$Games" (27, 1, 327, 2, .null) := pm_lk1 (Or.inl kw_373) kPn_327 kw_374
theorem kLc_1_1 : ∀ q ∈ kLk_1_1, kLp "BonnetValley$Games" q := List.forall_mem_cons.mpr ⟨kl_1_19, List.forall_mem_cons.mpr ⟨kl_1_23, List.forall_mem_cons.mpr ⟨kl_1_27, fun _ h => absurd h List.not_mem_nil⟩⟩⟩
theorem kl_1_33 : kLp "BonnetValley$Games" (33, 11, 0, 0, .long (10)) := pm_lk11 kw_375
theorem kl_1_35 : kLp "BonnetValley$Games" (35, 15, 0, 0, .null) := pm_lk15 kw_376
theorem kl_1_41 : kLp "BonnetValley$Games" (41, 1, 19, 2, .null) := pm_lk1 (Or.inl kw_377) kPn_19 kw_378
theorem kl_1_45 : kLp "BonnetValley$Games" (45, 2, 58, 1, .ref 5) := pm_lk2 (ci := 5) (T := kT_5) (N := 2) (Or.inl kw_379) kPn_58 kw_160 kw_161 rfl
theorem kLc_1_2 : ∀ q ∈ kLk_1_2, kLp "BonnetValley$Games" q := List.forall_mem_cons.mpr ⟨kl_1_33, List.forall_mem_cons.mpr ⟨kl_1_35, List.forall_mem_cons.mpr ⟨kl_1_41, List.forall_mem_cons.mpr ⟨kl_1_45, fun _ h => absurd h List.not_mem_nil⟩⟩⟩⟩
theorem kl_1_51 : kLp "BonnetValley$Games" (51, 1, 22, 3, .null) := pm_lk1 (Or.inl kw_380) kPn_22 kw_381
theorem kl_1_55 : kLp "BonnetValley$Games" (55, 1, 23, 3, .null) := pm_lk1 (Or.inl kw_382) kPn_23 kw_383
theorem kl_1_59 : kLp "BonnetValley$Games" (59, 16, 0, 0, .null) := pm_lk16 kw_384
theorem kl_1_62 : kLp "BonnetValley$Games" (62, 10, 0, 0, .int (1103515245)) := pm_lk10 kw_385
theorem kLc_1_3 : ∀ q ∈ kLk_1_3, kLp "BonnetValley$Games" q := List.forall_mem_cons.mpr ⟨kl_1_51, List.forall_mem_cons.mpr ⟨kl_1_55, List.forall_mem_cons.mpr ⟨kl_1_59, List.forall_mem_cons.mpr ⟨kl_1_62, fun _ h => absurd h List.not_mem_nil⟩⟩⟩⟩
theorem kLd_1 : ∀ c ∈ kLo_1, ∀ q ∈ c, kLp "BonnetValley$Games" q := List.forall_mem_cons.mpr ⟨kLc_1_0, List.forall_mem_cons.mpr ⟨kLc_1_1, List.forall_mem_cons.mpr ⟨kLc_1_2, List.forall_mem_cons.mpr ⟨kLc_1_3, fun _ h => absurd h List.not_mem_nil⟩⟩⟩⟩
theorem kl_2_1 : kLp "BonnetValley$History" (1, 4, 0, 0, .null) := pm_lk4 kw_386
theorem kl_2_9 : kLp "BonnetValley$History" (9, 9, 10, 8, .null) := pm_lk9 (T := kT_10) rfl kw_387
theorem kl_2_11 : kLp "BonnetValley$History" (11, 6, 2, 0, .null) := pm_lk6 (T := kT_2) (N := 5) rfl (Nat.le_of_ble_eq_true rfl) kw_388
theorem kl_2_15 : kLp "BonnetValley$History" (15, 3, 101, 0, .null) := pm_lk3 (Or.inl kw_389) kPn_101 rfl kw_19 rfl
theorem kLc_2_0 : ∀ q ∈ kLk_2_0, kLp "BonnetValley$History" q := List.forall_mem_cons.mpr ⟨kl_2_1, List.forall_mem_cons.mpr ⟨kl_2_9, List.forall_mem_cons.mpr ⟨kl_2_11, List.forall_mem_cons.mpr ⟨kl_2_15, fun _ h => absurd h List.not_mem_nil⟩⟩⟩⟩
theorem kl_2_16 : kLp "BonnetValley$History" (16, 6, 2, 3, .null) := pm_lk6 (T := kT_2) (N := 5) rfl (Nat.le_of_ble_eq_true rfl) kw_390
theorem kl_2_19 : kLp "BonnetValley$History" (19, 6, 2, 4, .null) := pm_lk6 (T := kT_2) (N := 5) rfl (Nat.le_of_ble_eq_true rfl) kw_391
theorem kl_2_23 : kLp "BonnetValley$History" (23, 6, 2, 1, .null) := pm_lk6 (T := kT_2) (N := 5) rfl (Nat.le_of_ble_eq_true rfl) kw_392
theorem kl_2_26 : kLp "BonnetValley$History" (26, 6, 2, 2, .null) := pm_lk6 (T := kT_2) (N := 5) rfl (Nat.le_of_ble_eq_true rfl) kw_393
theorem kl_2_29 : kLp "BonnetValley$History" (29, 2, 103, 1, .ref 10) := pm_lk2 (ci := 10) (T := kT_10) (N := 8) (Or.inl kw_394) kPn_103 kw_145 kw_146 rfl
theorem kLc_2_1 : ∀ q ∈ kLk_2_1, kLp "BonnetValley$History" q := List.forall_mem_cons.mpr ⟨kl_2_16, List.forall_mem_cons.mpr ⟨kl_2_19, List.forall_mem_cons.mpr ⟨kl_2_23, List.forall_mem_cons.mpr ⟨kl_2_26, List.forall_mem_cons.mpr ⟨kl_2_29, fun _ h => absurd h List.not_mem_nil⟩⟩⟩⟩⟩
theorem kl_2_33 : kLp "BonnetValley$History" (33, 16, 0, 0, .null) := pm_lk16 kw_395
theorem kLc_2_2 : ∀ q ∈ kLk_2_2, kLp "BonnetValley$History" q := List.forall_mem_cons.mpr ⟨kl_2_33, fun _ h => absurd h List.not_mem_nil⟩
theorem kLd_2 : ∀ c ∈ kLo_2, ∀ q ∈ c, kLp "BonnetValley$History" q := List.forall_mem_cons.mpr ⟨kLc_2_0, List.forall_mem_cons.mpr ⟨kLc_2_1, List.forall_mem_cons.mpr ⟨kLc_2_2, fun _ h => absurd h List.not_mem_nil⟩⟩⟩
theorem kl_3_3 : kLp "BonnetValley$Land" (3, 4, 0, 0, .null) := pm_lk4 kw_396
theorem kl_3_9 : kLp "BonnetValley$Land" (9, 6, 3, 5, .null) := pm_lk6 (T := kT_3) (N := 9) rfl (Nat.le_of_ble_eq_true rfl) kw_397
theorem kl_3_15 : kLp "BonnetValley$Land" (15, 6, 3, 6, .null) := pm_lk6 (T := kT_3) (N := 9) rfl (Nat.le_of_ble_eq_true rfl) kw_398
theorem kLc_3_0 : ∀ q ∈ kLk_3_0, kLp "BonnetValley$Land" q := List.forall_mem_cons.mpr ⟨kl_3_3, List.forall_mem_cons.mpr ⟨kl_3_9, List.forall_mem_cons.mpr ⟨kl_3_15, fun _ h => absurd h List.not_mem_nil⟩⟩⟩
theorem kl_3_18 : kLp "BonnetValley$Land" (18, 6, 3, 7, .null) := pm_lk6 (T := kT_3) (N := 9) rfl (Nat.le_of_ble_eq_true rfl) kw_399
theorem kl_3_22 : kLp "BonnetValley$Land" (22, 6, 3, 8, .null) := pm_lk6 (T := kT_3) (N := 9) rfl (Nat.le_of_ble_eq_true rfl) kw_400
theorem kl_3_25 : kLp "BonnetValley$Land" (25, 2, 36, 3, .ref 3) := pm_lk2 (ci := 3) (T := kT_3) (N := 9) (Or.inl kw_401) kPn_36 kw_402 kw_403 rfl
theorem kl_3_29 : kLp "BonnetValley$Land" (29, 1, 35, 2, .null) := pm_lk1 (Or.inl kw_404) kPn_35 kw_405
theorem kLc_3_1 : ∀ q ∈ kLk_3_1, kLp "BonnetValley$Land" q := List.forall_mem_cons.mpr ⟨kl_3_18, List.forall_mem_cons.mpr ⟨kl_3_22, List.forall_mem_cons.mpr ⟨kl_3_25, List.forall_mem_cons.mpr ⟨kl_3_29, fun _ h => absurd h List.not_mem_nil⟩⟩⟩⟩
theorem kl_3_33 : kLp "BonnetValley$Land" (33, 2, 97, 1, .ref 9) := pm_lk2 (ci := 9) (T := kT_9) (N := 2) (Or.inl kw_406) kPn_97 kw_330 kw_331 rfl
theorem kl_3_39 : kLp "BonnetValley$Land" (39, 2, 99, 0, .ref 9) := pm_lk2 (ci := 9) (T := kT_9) (N := 2) (Or.inl kw_407) kPn_99 kw_54 kw_55 rfl
theorem kl_3_43 : kLp "BonnetValley$Land" (43, 2, 98, 1, .ref 9) := pm_lk2 (ci := 9) (T := kT_9) (N := 2) (Or.inl kw_408) kPn_98 kw_409 kw_410 rfl
theorem kl_3_46 : kLp "BonnetValley$Land" (46, 6, 3, 0, .null) := pm_lk6 (T := kT_3) (N := 9) rfl (Nat.le_of_ble_eq_true rfl) kw_411
theorem kLc_3_2 : ∀ q ∈ kLk_3_2, kLp "BonnetValley$Land" q := List.forall_mem_cons.mpr ⟨kl_3_33, List.forall_mem_cons.mpr ⟨kl_3_39, List.forall_mem_cons.mpr ⟨kl_3_43, List.forall_mem_cons.mpr ⟨kl_3_46, fun _ h => absurd h List.not_mem_nil⟩⟩⟩⟩
theorem kl_3_50 : kLp "BonnetValley$Land" (50, 6, 3, 1, .null) := pm_lk6 (T := kT_3) (N := 9) rfl (Nat.le_of_ble_eq_true rfl) kw_412
theorem kl_3_53 : kLp "BonnetValley$Land" (53, 6, 3, 3, .null) := pm_lk6 (T := kT_3) (N := 9) rfl (Nat.le_of_ble_eq_true rfl) kw_413
theorem kl_3_57 : kLp "BonnetValley$Land" (57, 6, 3, 4, .null) := pm_lk6 (T := kT_3) (N := 9) rfl (Nat.le_of_ble_eq_true rfl) kw_414
theorem kl_3_60 : kLp "BonnetValley$Land" (60, 6, 3, 2, .null) := pm_lk6 (T := kT_3) (N := 9) rfl (Nat.le_of_ble_eq_true rfl) kw_415
theorem kl_3_62 : kLp "BonnetValley$Land" (62, 11, 0, 0, .long (-1)) := pm_lk11 kw_416
theorem kLc_3_3 : ∀ q ∈ kLk_3_3, kLp "BonnetValley$Land" q := List.forall_mem_cons.mpr ⟨kl_3_50, List.forall_mem_cons.mpr ⟨kl_3_53, List.forall_mem_cons.mpr ⟨kl_3_57, List.forall_mem_cons.mpr ⟨kl_3_60, List.forall_mem_cons.mpr ⟨kl_3_62, fun _ h => absurd h List.not_mem_nil⟩⟩⟩⟩⟩
theorem kl_3_64 : kLp "BonnetValley$Land" (64, 2, 40, 1, .ref 3) := pm_lk2 (ci := 3) (T := kT_3) (N := 9) (Or.inl kw_417) kPn_40 kw_210 kw_211 rfl
theorem kl_3_68 : kLp "BonnetValley$Land" (68, 1, 163, 2, .null) := pm_lk1 (Or.inr ⟨"BonnetValley", by decide +kernel⟩) kPn_163 kw_244
theorem kl_3_72 : kLp "BonnetValley$Land" (72, 8, 0, 0, .ref 1048576) := pm_lk8 (C := "BonnetValley$Land") (n := "DOWN") (d := "[I") (by decide +kernel) (by decide +kernel) kw_418
theorem kl_3_75 : kLp "BonnetValley$Land" (75, 8, 0, 0, .ref 1048577) := pm_lk8 (C := "BonnetValley$Land") (n := "RIGHT") (d := "[I") (by decide +kernel) (by decide +kernel) kw_419
theorem kl_3_78 : kLp "BonnetValley$Land" (78, 2, 44, 2, .ref 3) := pm_lk2 (ci := 3) (T := kT_3) (N := 9) (Or.inl kw_420) kPn_44 kw_85 kw_86 rfl
theorem kLc_3_4 : ∀ q ∈ kLk_3_4, kLp "BonnetValley$Land" q := List.forall_mem_cons.mpr ⟨kl_3_64, List.forall_mem_cons.mpr ⟨kl_3_68, List.forall_mem_cons.mpr ⟨kl_3_72, List.forall_mem_cons.mpr ⟨kl_3_75, List.forall_mem_cons.mpr ⟨kl_3_78, fun _ h => absurd h List.not_mem_nil⟩⟩⟩⟩⟩
theorem kl_3_82 : kLp "BonnetValley$Land" (82, 2, 45, 1, .ref 3) := pm_lk2 (ci := 3) (T := kT_3) (N := 9) (Or.inl kw_421) kPn_45 kw_422 kw_423 rfl
theorem kl_3_85 : kLp "BonnetValley$Land" (85, 16, 0, 0, .null) := pm_lk16 kw_424
theorem kl_3_90 : kLp "BonnetValley$Land" (90, 2, 49, 1, .ref 3) := pm_lk2 (ci := 3) (T := kT_3) (N := 9) (Or.inl kw_425) kPn_49 kw_426 kw_427 rfl
theorem kl_3_94 : kLp "BonnetValley$Land" (94, 1, 47, 2, .null) := pm_lk1 (Or.inl kw_428) kPn_47 kw_205
theorem kLc_3_5 : ∀ q ∈ kLk_3_5, kLp "BonnetValley$Land" q := List.forall_mem_cons.mpr ⟨kl_3_82, List.forall_mem_cons.mpr ⟨kl_3_85, List.forall_mem_cons.mpr ⟨kl_3_90, List.forall_mem_cons.mpr ⟨kl_3_94, fun _ h => absurd h List.not_mem_nil⟩⟩⟩⟩
theorem kl_3_97 : kLp "BonnetValley$Land" (97, 15, 0, 0, .null) := pm_lk15 kw_429
theorem kl_3_100 : kLp "BonnetValley$Land" (100, 17, 0, 0, .null) := pm_lk17 kw_430
theorem kl_3_103 : kLp "BonnetValley$Land" (103, 2, 50, 3, .ref 3) := pm_lk2 (ci := 3) (T := kT_3) (N := 9) (Or.inl kw_431) kPn_50 kw_432 kw_433 rfl
theorem kl_3_107 : kLp "BonnetValley$Land" (107, 1, 51, 2, .null) := pm_lk1 (Or.inl kw_434) kPn_51 kw_435
theorem kLc_3_6 : ∀ q ∈ kLk_3_6, kLp "BonnetValley$Land" q := List.forall_mem_cons.mpr ⟨kl_3_97, List.forall_mem_cons.mpr ⟨kl_3_100, List.forall_mem_cons.mpr ⟨kl_3_103, List.forall_mem_cons.mpr ⟨kl_3_107, fun _ h => absurd h List.not_mem_nil⟩⟩⟩⟩
theorem kLd_3 : ∀ c ∈ kLo_3, ∀ q ∈ c, kLp "BonnetValley$Land" q := List.forall_mem_cons.mpr ⟨kLc_3_0, List.forall_mem_cons.mpr ⟨kLc_3_1, List.forall_mem_cons.mpr ⟨kLc_3_2, List.forall_mem_cons.mpr ⟨kLc_3_3, List.forall_mem_cons.mpr ⟨kLc_3_4, List.forall_mem_cons.mpr ⟨kLc_3_5, List.forall_mem_cons.mpr ⟨kLc_3_6, fun _ h => absurd h List.not_mem_nil⟩⟩⟩⟩⟩⟩⟩
theorem kl_4_3 : kLp "BonnetValley$Lines" (3, 4, 0, 0, .null) := pm_lk4 kw_436
theorem kl_4_11 : kLp "BonnetValley$Lines" (11, 6, 4, 0, .null) := pm_lk6 (T := kT_4) (N := 3) rfl (Nat.le_of_ble_eq_true rfl) kw_437
theorem kl_4_15 : kLp "BonnetValley$Lines" (15, 6, 4, 1, .null) := pm_lk6 (T := kT_4) (N := 3) rfl (Nat.le_of_ble_eq_true rfl) kw_438
theorem kLc_4_0 : ∀ q ∈ kLk_4_0, kLp "BonnetValley$Lines" q := List.forall_mem_cons.mpr ⟨kl_4_3, List.forall_mem_cons.mpr ⟨kl_4_11, List.forall_mem_cons.mpr ⟨kl_4_15, fun _ h => absurd h List.not_mem_nil⟩⟩⟩
theorem kl_4_18 : kLp "BonnetValley$Lines" (18, 6, 4, 2, .null) := pm_lk6 (T := kT_4) (N := 3) rfl (Nat.le_of_ble_eq_true rfl) kw_439
theorem kl_4_22 : kLp "BonnetValley$Lines" (22, 2, 37, 0, .ref 3) := pm_lk2 (ci := 3) (T := kT_3) (N := 9) (Or.inl kw_440) kPn_37 kw_303 kw_304 rfl
theorem kl_4_28 : kLp "BonnetValley$Lines" (28, 2, 38, 0, .ref 3) := pm_lk2 (ci := 3) (T := kT_3) (N := 9) (Or.inl kw_441) kPn_38 kw_306 kw_307 rfl
theorem kl_4_31 : kLp "BonnetValley$Lines" (31, 2, 99, 0, .ref 9) := pm_lk2 (ci := 9) (T := kT_9) (N := 2) (Or.inl kw_442) kPn_99 kw_54 kw_55 rfl
theorem kLc_4_1 : ∀ q ∈ kLk_4_1, kLp "BonnetValley$Lines" q := List.forall_mem_cons.mpr ⟨kl_4_18, List.forall_mem_cons.mpr ⟨kl_4_22, List.forall_mem_cons.mpr ⟨kl_4_28, List.forall_mem_cons.mpr ⟨kl_4_31, fun _ h => absurd h List.not_mem_nil⟩⟩⟩⟩
theorem kl_4_36 : kLp "BonnetValley$Lines" (36, 2, 98, 1, .ref 9) := pm_lk2 (ci := 9) (T := kT_9) (N := 2) (Or.inl kw_443) kPn_98 kw_409 kw_410 rfl
theorem kl_4_40 : kLp "BonnetValley$Lines" (40, 2, 55, 4, .ref 4) := pm_lk2 (ci := 4) (T := kT_4) (N := 3) (Or.inl kw_444) kPn_55 kw_445 kw_446 rfl
theorem kl_4_44 : kLp "BonnetValley$Lines" (44, 2, 97, 1, .ref 9) := pm_lk2 (ci := 9) (T := kT_9) (N := 2) (Or.inl kw_447) kPn_97 kw_330 kw_331 rfl
theorem kl_4_47 : kLp "BonnetValley$Lines" (47, 2, 44, 2, .ref 3) := pm_lk2 (ci := 3) (T := kT_3) (N := 9) (Or.inl kw_448) kPn_44 kw_85 kw_86 rfl
theorem kLc_4_2 : ∀ q ∈ kLk_4_2, kLp "BonnetValley$Lines" q := List.forall_mem_cons.mpr ⟨kl_4_36, List.forall_mem_cons.mpr ⟨kl_4_40, List.forall_mem_cons.mpr ⟨kl_4_44, List.forall_mem_cons.mpr ⟨kl_4_47, fun _ h => absurd h List.not_mem_nil⟩⟩⟩⟩
theorem kl_4_51 : kLp "BonnetValley$Lines" (51, 2, 45, 1, .ref 3) := pm_lk2 (ci := 3) (T := kT_3) (N := 9) (Or.inl kw_449) kPn_45 kw_422 kw_423 rfl
theorem kLc_4_3 : ∀ q ∈ kLk_4_3, kLp "BonnetValley$Lines" q := List.forall_mem_cons.mpr ⟨kl_4_51, fun _ h => absurd h List.not_mem_nil⟩
theorem kLd_4 : ∀ c ∈ kLo_4, ∀ q ∈ c, kLp "BonnetValley$Lines" q := List.forall_mem_cons.mpr ⟨kLc_4_0, List.forall_mem_cons.mpr ⟨kLc_4_1, List.forall_mem_cons.mpr ⟨kLc_4_2, List.forall_mem_cons.mpr ⟨kLc_4_3, fun _ h => absurd h List.not_mem_nil⟩⟩⟩⟩
theorem kl_5_3 : kLp "BonnetValley$Numbers" (3, 4, 0, 0, .null) := pm_lk4 kw_450
theorem kl_5_11 : kLp "BonnetValley$Numbers" (11, 6, 5, 0, .null) := pm_lk6 (T := kT_5) (N := 2) rfl (Nat.le_of_ble_eq_true rfl) kw_451
theorem kl_5_15 : kLp "BonnetValley$Numbers" (15, 6, 5, 1, .null) := pm_lk6 (T := kT_5) (N := 2) rfl (Nat.le_of_ble_eq_true rfl) kw_452
theorem kLc_5_0 : ∀ q ∈ kLk_5_0, kLp "BonnetValley$Numbers" q := List.forall_mem_cons.mpr ⟨kl_5_3, List.forall_mem_cons.mpr ⟨kl_5_11, List.forall_mem_cons.mpr ⟨kl_5_15, fun _ h => absurd h List.not_mem_nil⟩⟩⟩
theorem kl_5_19 : kLp "BonnetValley$Numbers" (19, 11, 0, 0, .long (-1)) := pm_lk11 kw_453
theorem kLc_5_1 : ∀ q ∈ kLk_5_1, kLp "BonnetValley$Numbers" q := List.forall_mem_cons.mpr ⟨kl_5_19, fun _ h => absurd h List.not_mem_nil⟩
theorem kLd_5 : ∀ c ∈ kLo_5, ∀ q ∈ c, kLp "BonnetValley$Numbers" q := List.forall_mem_cons.mpr ⟨kLc_5_0, List.forall_mem_cons.mpr ⟨kLc_5_1, fun _ h => absurd h List.not_mem_nil⟩⟩
theorem kl_6_3 : kLp "BonnetValley$Plan" (3, 4, 0, 0, .null) := pm_lk4 kw_454
theorem kl_6_11 : kLp "BonnetValley$Plan" (11, 6, 6, 0, .null) := pm_lk6 (T := kT_6) (N := 3) rfl (Nat.le_of_ble_eq_true rfl) kw_455
theorem kl_6_15 : kLp "BonnetValley$Plan" (15, 6, 6, 1, .null) := pm_lk6 (T := kT_6) (N := 3) rfl (Nat.le_of_ble_eq_true rfl) kw_456
theorem kLc_6_0 : ∀ q ∈ kLk_6_0, kLp "BonnetValley$Plan" q := List.forall_mem_cons.mpr ⟨kl_6_3, List.forall_mem_cons.mpr ⟨kl_6_11, List.forall_mem_cons.mpr ⟨kl_6_15, fun _ h => absurd h List.not_mem_nil⟩⟩⟩
theorem kl_6_18 : kLp "BonnetValley$Plan" (18, 6, 6, 2, .null) := pm_lk6 (T := kT_6) (N := 3) rfl (Nat.le_of_ble_eq_true rfl) kw_457
theorem kl_6_22 : kLp "BonnetValley$Plan" (22, 2, 99, 0, .ref 9) := pm_lk2 (ci := 9) (T := kT_9) (N := 2) (Or.inl kw_458) kPn_99 kw_54 kw_55 rfl
theorem kl_6_28 : kLp "BonnetValley$Plan" (28, 2, 98, 1, .ref 9) := pm_lk2 (ci := 9) (T := kT_9) (N := 2) (Or.inl kw_459) kPn_98 kw_409 kw_410 rfl
theorem kLc_6_1 : ∀ q ∈ kLk_6_1, kLp "BonnetValley$Plan" q := List.forall_mem_cons.mpr ⟨kl_6_18, List.forall_mem_cons.mpr ⟨kl_6_22, List.forall_mem_cons.mpr ⟨kl_6_28, fun _ h => absurd h List.not_mem_nil⟩⟩⟩
theorem kl_6_32 : kLp "BonnetValley$Plan" (32, 2, 68, 2, .ref 6) := pm_lk2 (ci := 6) (T := kT_6) (N := 3) (Or.inl kw_460) kPn_68 kw_461 kw_462 rfl
theorem kl_6_36 : kLp "BonnetValley$Plan" (36, 2, 97, 1, .ref 9) := pm_lk2 (ci := 9) (T := kT_9) (N := 2) (Or.inl kw_463) kPn_97 kw_330 kw_331 rfl
theorem kl_6_39 : kLp "BonnetValley$Plan" (39, 1, 66, 1, .null) := pm_lk1 (Or.inl kw_464) kPn_66 kw_465
theorem kl_6_42 : kLp "BonnetValley$Plan" (42, 2, 67, 1, .ref 6) := pm_lk2 (ci := 6) (T := kT_6) (N := 3) (Or.inl kw_466) kPn_67 kw_467 kw_468 rfl
theorem kLc_6_2 : ∀ q ∈ kLk_6_2, kLp "BonnetValley$Plan" q := List.forall_mem_cons.mpr ⟨kl_6_32, List.forall_mem_cons.mpr ⟨kl_6_36, List.forall_mem_cons.mpr ⟨kl_6_39, List.forall_mem_cons.mpr ⟨kl_6_42, fun _ h => absurd h List.not_mem_nil⟩⟩⟩⟩
theorem kLd_6 : ∀ c ∈ kLo_6, ∀ q ∈ c, kLp "BonnetValley$Plan" q := List.forall_mem_cons.mpr ⟨kLc_6_0, List.forall_mem_cons.mpr ⟨kLc_6_1, List.forall_mem_cons.mpr ⟨kLc_6_2, fun _ h => absurd h List.not_mem_nil⟩⟩⟩
theorem kl_7_3 : kLp "BonnetValley$Route" (3, 4, 0, 0, .null) := pm_lk4 kw_469
theorem kl_7_9 : kLp "BonnetValley$Route" (9, 6, 7, 0, .null) := pm_lk6 (T := kT_7) (N := 3) rfl (Nat.le_of_ble_eq_true rfl) kw_470
theorem kl_7_15 : kLp "BonnetValley$Route" (15, 6, 7, 1, .null) := pm_lk6 (T := kT_7) (N := 3) rfl (Nat.le_of_ble_eq_true rfl) kw_471
theorem kLc_7_0 : ∀ q ∈ kLk_7_0, kLp "BonnetValley$Route" q := List.forall_mem_cons.mpr ⟨kl_7_3, List.forall_mem_cons.mpr ⟨kl_7_9, List.forall_mem_cons.mpr ⟨kl_7_15, fun _ h => absurd h List.not_mem_nil⟩⟩⟩
theorem kl_7_18 : kLp "BonnetValley$Route" (18, 6, 7, 2, .null) := pm_lk6 (T := kT_7) (N := 3) rfl (Nat.le_of_ble_eq_true rfl) kw_472
theorem kl_7_21 : kLp "BonnetValley$Route" (21, 2, 40, 1, .ref 3) := pm_lk2 (ci := 3) (T := kT_3) (N := 9) (Or.inl kw_473) kPn_40 kw_210 kw_211 rfl
theorem kl_7_27 : kLp "BonnetValley$Route" (27, 2, 45, 1, .ref 3) := pm_lk2 (ci := 3) (T := kT_3) (N := 9) (Or.inl kw_474) kPn_45 kw_422 kw_423 rfl
theorem kl_7_30 : kLp "BonnetValley$Route" (30, 2, 72, 3, .ref 7) := pm_lk2 (ci := 7) (T := kT_7) (N := 3) (Or.inl kw_475) kPn_72 kw_476 kw_477 rfl
theorem kLc_7_1 : ∀ q ∈ kLk_7_1, kLp "BonnetValley$Route" q := List.forall_mem_cons.mpr ⟨kl_7_18, List.forall_mem_cons.mpr ⟨kl_7_21, List.forall_mem_cons.mpr ⟨kl_7_27, List.forall_mem_cons.mpr ⟨kl_7_30, fun _ h => absurd h List.not_mem_nil⟩⟩⟩⟩
theorem kl_7_34 : kLp "BonnetValley$Route" (34, 2, 73, 3, .ref 7) := pm_lk2 (ci := 7) (T := kT_7) (N := 3) (Or.inl kw_478) kPn_73 kw_479 kw_480 rfl
theorem kl_7_38 : kLp "BonnetValley$Route" (38, 1, 328, 2, .null) := pm_lk1 (Or.inl kw_481) kPn_328 kw_136
theorem kl_7_44 : kLp "BonnetValley$Route" (44, 2, 46, 2, .ref 3) := pm_lk2 (ci := 3) (T := kT_3) (N := 9) (Or.inl kw_482) kPn_46 kw_207 kw_208 rfl
theorem kLc_7_2 : ∀ q ∈ kLk_7_2, kLp "BonnetValley$Route" q := List.forall_mem_cons.mpr ⟨kl_7_34, List.forall_mem_cons.mpr ⟨kl_7_38, List.forall_mem_cons.mpr ⟨kl_7_44, fun _ h => absurd h List.not_mem_nil⟩⟩⟩
theorem kl_7_48 : kLp "BonnetValley$Route" (48, 1, 163, 2, .null) := pm_lk1 (Or.inr ⟨"BonnetValley", by decide +kernel⟩) kPn_163 kw_244
theorem kLc_7_3 : ∀ q ∈ kLk_7_3, kLp "BonnetValley$Route" q := List.forall_mem_cons.mpr ⟨kl_7_48, fun _ h => absurd h List.not_mem_nil⟩
theorem kLd_7 : ∀ c ∈ kLo_7, ∀ q ∈ c, kLp "BonnetValley$Route" q := List.forall_mem_cons.mpr ⟨kLc_7_0, List.forall_mem_cons.mpr ⟨kLc_7_1, List.forall_mem_cons.mpr ⟨kLc_7_2, List.forall_mem_cons.mpr ⟨kLc_7_3, fun _ h => absurd h List.not_mem_nil⟩⟩⟩⟩
theorem kl_8_3 : kLp "BonnetValley$Sight" (3, 4, 0, 0, .null) := pm_lk4 kw_483
theorem kl_8_9 : kLp "BonnetValley$Sight" (9, 6, 8, 0, .null) := pm_lk6 (T := kT_8) (N := 8) rfl (Nat.le_of_ble_eq_true rfl) kw_484
theorem kl_8_15 : kLp "BonnetValley$Sight" (15, 9, 0, 9, .null) := pm_lk9 (T := kT_0) rfl kw_485
theorem kLc_8_0 : ∀ q ∈ kLk_8_0, kLp "BonnetValley$Sight" q := List.forall_mem_cons.mpr ⟨kl_8_3, List.forall_mem_cons.mpr ⟨kl_8_9, List.forall_mem_cons.mpr ⟨kl_8_15, fun _ h => absurd h List.not_mem_nil⟩⟩⟩
theorem kl_8_17 : kLp "BonnetValley$Sight" (17, 3, 0, 0, .null) := pm_lk3 (Or.inl kw_486) kPn_0 rfl kw_487 rfl
theorem kl_8_18 : kLp "BonnetValley$Sight" (18, 6, 8, 1, .null) := pm_lk6 (T := kT_8) (N := 8) rfl (Nat.le_of_ble_eq_true rfl) kw_488
theorem kl_8_22 : kLp "BonnetValley$Sight" (22, 6, 8, 2, .null) := pm_lk6 (T := kT_8) (N := 8) rfl (Nat.le_of_ble_eq_true rfl) kw_489
theorem kl_8_25 : kLp "BonnetValley$Sight" (25, 6, 8, 3, .null) := pm_lk6 (T := kT_8) (N := 8) rfl (Nat.le_of_ble_eq_true rfl) kw_490
theorem kl_8_29 : kLp "BonnetValley$Sight" (29, 6, 8, 4, .null) := pm_lk6 (T := kT_8) (N := 8) rfl (Nat.le_of_ble_eq_true rfl) kw_491
theorem kLc_8_1 : ∀ q ∈ kLk_8_1, kLp "BonnetValley$Sight" q := List.forall_mem_cons.mpr ⟨kl_8_17, List.forall_mem_cons.mpr ⟨kl_8_18, List.forall_mem_cons.mpr ⟨kl_8_22, List.forall_mem_cons.mpr ⟨kl_8_25, List.forall_mem_cons.mpr ⟨kl_8_29, fun _ h => absurd h List.not_mem_nil⟩⟩⟩⟩⟩
theorem kl_8_33 : kLp "BonnetValley$Sight" (33, 6, 8, 5, .null) := pm_lk6 (T := kT_8) (N := 8) rfl (Nat.le_of_ble_eq_true rfl) kw_492
theorem kl_8_36 : kLp "BonnetValley$Sight" (36, 6, 8, 6, .null) := pm_lk6 (T := kT_8) (N := 8) rfl (Nat.le_of_ble_eq_true rfl) kw_493
theorem kl_8_40 : kLp "BonnetValley$Sight" (40, 6, 8, 7, .null) := pm_lk6 (T := kT_8) (N := 8) rfl (Nat.le_of_ble_eq_true rfl) kw_494
theorem kl_8_43 : kLp "BonnetValley$Sight" (43, 2, 99, 0, .ref 9) := pm_lk2 (ci := 9) (T := kT_9) (N := 2) (Or.inl kw_495) kPn_99 kw_54 kw_55 rfl
theorem kLc_8_2 : ∀ q ∈ kLk_8_2, kLp "BonnetValley$Sight" q := List.forall_mem_cons.mpr ⟨kl_8_33, List.forall_mem_cons.mpr ⟨kl_8_36, List.forall_mem_cons.mpr ⟨kl_8_40, List.forall_mem_cons.mpr ⟨kl_8_43, fun _ h => absurd h List.not_mem_nil⟩⟩⟩⟩
theorem kl_8_49 : kLp "BonnetValley$Sight" (49, 2, 98, 1, .ref 9) := pm_lk2 (ci := 9) (T := kT_9) (N := 2) (Or.inl kw_496) kPn_98 kw_409 kw_410 rfl
theorem kl_8_53 : kLp "BonnetValley$Sight" (53, 2, 106, 1, .ref 10) := pm_lk2 (ci := 10) (T := kT_10) (N := 8) (Or.inl kw_497) kPn_106 kw_107 kw_108 rfl
theorem kl_8_59 : kLp "BonnetValley$Sight" (59, 6, 10, 5, .null) := pm_lk6 (T := kT_10) (N := 8) rfl (Nat.le_of_ble_eq_true rfl) kw_498
theorem kl_8_62 : kLp "BonnetValley$Sight" (62, 2, 81, 4, .ref 8) := pm_lk2 (ci := 8) (T := kT_8) (N := 8) (Or.inl kw_499) kPn_81 kw_500 kw_501 rfl
theorem kLc_8_3 : ∀ q ∈ kLk_8_3, kLp "BonnetValley$Sight" q := List.forall_mem_cons.mpr ⟨kl_8_49, List.forall_mem_cons.mpr ⟨kl_8_53, List.forall_mem_cons.mpr ⟨kl_8_59, List.forall_mem_cons.mpr ⟨kl_8_62, fun _ h => absurd h List.not_mem_nil⟩⟩⟩⟩
theorem kl_8_66 : kLp "BonnetValley$Sight" (66, 6, 10, 3, .null) := pm_lk6 (T := kT_10) (N := 8) rfl (Nat.le_of_ble_eq_true rfl) kw_502
theorem kl_8_69 : kLp "BonnetValley$Sight" (69, 6, 10, 2, .null) := pm_lk6 (T := kT_10) (N := 8) rfl (Nat.le_of_ble_eq_true rfl) kw_503
theorem kl_8_72 : kLp "BonnetValley$Sight" (72, 2, 76, 1, .ref 8) := pm_lk2 (ci := 8) (T := kT_8) (N := 8) (Or.inl kw_504) kPn_76 kw_309 kw_310 rfl
theorem kl_8_75 : kLp "BonnetValley$Sight" (75, 6, 10, 6, .null) := pm_lk6 (T := kT_10) (N := 8) rfl (Nat.le_of_ble_eq_true rfl) kw_505
theorem kl_8_78 : kLp "BonnetValley$Sight" (78, 1, 303, 1, .null) := pm_lk1 (Or.inl kw_506) kPn_303 kw_218
theorem kLc_8_4 : ∀ q ∈ kLk_8_4, kLp "BonnetValley$Sight" q := List.forall_mem_cons.mpr ⟨kl_8_66, List.forall_mem_cons.mpr ⟨kl_8_69, List.forall_mem_cons.mpr ⟨kl_8_72, List.forall_mem_cons.mpr ⟨kl_8_75, List.forall_mem_cons.mpr ⟨kl_8_78, fun _ h => absurd h List.not_mem_nil⟩⟩⟩⟩⟩
theorem kl_8_83 : kLp "BonnetValley$Sight" (83, 6, 10, 4, .null) := pm_lk6 (T := kT_10) (N := 8) rfl (Nat.le_of_ble_eq_true rfl) kw_507
theorem kl_8_86 : kLp "BonnetValley$Sight" (86, 2, 42, 1, .ref 3) := pm_lk2 (ci := 3) (T := kT_3) (N := 9) (Or.inl kw_508) kPn_42 kw_509 kw_510 rfl
theorem kl_8_91 : kLp "BonnetValley$Sight" (91, 2, 43, 1, .ref 3) := pm_lk2 (ci := 3) (T := kT_3) (N := 9) (Or.inl kw_511) kPn_43 kw_512 kw_513 rfl
theorem kl_8_94 : kLp "BonnetValley$Sight" (94, 2, 113, 1, .ref 10) := pm_lk2 (ci := 10) (T := kT_10) (N := 8) (Or.inl kw_514) kPn_113 kw_215 kw_216 rfl
theorem kLc_8_5 : ∀ q ∈ kLk_8_5, kLp "BonnetValley$Sight" q := List.forall_mem_cons.mpr ⟨kl_8_83, List.forall_mem_cons.mpr ⟨kl_8_86, List.forall_mem_cons.mpr ⟨kl_8_91, List.forall_mem_cons.mpr ⟨kl_8_94, fun _ h => absurd h List.not_mem_nil⟩⟩⟩⟩
theorem kl_8_98 : kLp "BonnetValley$Sight" (98, 2, 13, 1, .ref 0) := pm_lk2 (ci := 0) (T := kT_0) (N := 9) (Or.inl kw_515) kPn_13 kw_516 kw_517 rfl
theorem kl_8_102 : kLp "BonnetValley$Sight" (102, 16, 0, 0, .null) := pm_lk16 kw_518
theorem kl_8_108 : kLp "BonnetValley$Sight" (108, 15, 0, 0, .null) := pm_lk15 kw_519
theorem kl_8_111 : kLp "BonnetValley$Sight" (111, 2, 83, 3, .ref 8) := pm_lk2 (ci := 8) (T := kT_8) (N := 8) (Or.inl kw_520) kPn_83 kw_255 kw_256 rfl
theorem kLc_8_6 : ∀ q ∈ kLk_8_6, kLp "BonnetValley$Sight" q := List.forall_mem_cons.mpr ⟨kl_8_98, List.forall_mem_cons.mpr ⟨kl_8_102, List.forall_mem_cons.mpr ⟨kl_8_108, List.forall_mem_cons.mpr ⟨kl_8_111, fun _ h => absurd h List.not_mem_nil⟩⟩⟩⟩
theorem kl_8_115 : kLp "BonnetValley$Sight" (115, 2, 48, 4, .ref 3) := pm_lk2 (ci := 3) (T := kT_3) (N := 9) (Or.inl kw_521) kPn_48 kw_261 kw_262 rfl
theorem kl_8_118 : kLp "BonnetValley$Sight" (118, 2, 85, 2, .ref 8) := pm_lk2 (ci := 8) (T := kT_8) (N := 8) (Or.inl kw_522) kPn_85 kw_282 kw_283 rfl
theorem kl_8_122 : kLp "BonnetValley$Sight" (122, 6, 10, 0, .null) := pm_lk6 (T := kT_10) (N := 8) rfl (Nat.le_of_ble_eq_true rfl) kw_523
theorem kl_8_125 : kLp "BonnetValley$Sight" (125, 1, 163, 2, .null) := pm_lk1 (Or.inr ⟨"BonnetValley", by decide +kernel⟩) kPn_163 kw_244
theorem kLc_8_7 : ∀ q ∈ kLk_8_7, kLp "BonnetValley$Sight" q := List.forall_mem_cons.mpr ⟨kl_8_115, List.forall_mem_cons.mpr ⟨kl_8_118, List.forall_mem_cons.mpr ⟨kl_8_122, List.forall_mem_cons.mpr ⟨kl_8_125, fun _ h => absurd h List.not_mem_nil⟩⟩⟩⟩
theorem kl_8_129 : kLp "BonnetValley$Sight" (129, 2, 89, 3, .ref 8) := pm_lk2 (ci := 8) (T := kT_8) (N := 8) (Or.inl kw_524) kPn_89 kw_223 kw_224 rfl
theorem kl_8_133 : kLp "BonnetValley$Sight" (133, 17, 0, 0, .null) := pm_lk17 kw_525
theorem kl_8_136 : kLp "BonnetValley$Sight" (136, 2, 90, 3, .ref 8) := pm_lk2 (ci := 8) (T := kT_8) (N := 8) (Or.inl kw_526) kPn_90 kw_226 kw_227 rfl
theorem kl_8_139 : kLp "BonnetValley$Sight" (139, 2, 93, 2, .ref 8) := pm_lk2 (ci := 8) (T := kT_8) (N := 8) (Or.inl kw_527) kPn_93 kw_528 kw_529 rfl
theorem kl_8_143 : kLp "BonnetValley$Sight" (143, 2, 108, 0, .ref 10) := pm_lk2 (ci := 10) (T := kT_10) (N := 8) (Or.inl kw_530) kPn_108 kw_157 kw_158 rfl
theorem kLc_8_8 : ∀ q ∈ kLk_8_8, kLp "BonnetValley$Sight" q := List.forall_mem_cons.mpr ⟨kl_8_129, List.forall_mem_cons.mpr ⟨kl_8_133, List.forall_mem_cons.mpr ⟨kl_8_136, List.forall_mem_cons.mpr ⟨kl_8_139, List.forall_mem_cons.mpr ⟨kl_8_143, fun _ h => absurd h List.not_mem_nil⟩⟩⟩⟩⟩
theorem kl_8_146 : kLp "BonnetValley$Sight" (146, 2, 114, 1, .ref 10) := pm_lk2 (ci := 10) (T := kT_10) (N := 8) (Or.inl kw_531) kPn_114 kw_120 kw_121 rfl
theorem kLc_8_9 : ∀ q ∈ kLk_8_9, kLp "BonnetValley$Sight" q := List.forall_mem_cons.mpr ⟨kl_8_146, fun _ h => absurd h List.not_mem_nil⟩
theorem kLd_8 : ∀ c ∈ kLo_8, ∀ q ∈ c, kLp "BonnetValley$Sight" q := List.forall_mem_cons.mpr ⟨kLc_8_0, List.forall_mem_cons.mpr ⟨kLc_8_1, List.forall_mem_cons.mpr ⟨kLc_8_2, List.forall_mem_cons.mpr ⟨kLc_8_3, List.forall_mem_cons.mpr ⟨kLc_8_4, List.forall_mem_cons.mpr ⟨kLc_8_5, List.forall_mem_cons.mpr ⟨kLc_8_6, List.forall_mem_cons.mpr ⟨kLc_8_7, List.forall_mem_cons.mpr ⟨kLc_8_8, List.forall_mem_cons.mpr ⟨kLc_8_9, fun _ h => absurd h List.not_mem_nil⟩⟩⟩⟩⟩⟩⟩⟩⟩⟩
theorem kl_9_1 : kLp "BonnetValley$Signs" (1, 4, 0, 0, .null) := pm_lk4 kw_532
theorem kl_9_9 : kLp "BonnetValley$Signs" (9, 6, 9, 0, .null) := pm_lk6 (T := kT_9) (N := 2) rfl (Nat.le_of_ble_eq_true rfl) kw_533
theorem kl_9_13 : kLp "BonnetValley$Signs" (13, 6, 9, 1, .null) := pm_lk6 (T := kT_9) (N := 2) rfl (Nat.le_of_ble_eq_true rfl) kw_534
theorem kLc_9_0 : ∀ q ∈ kLk_9_0, kLp "BonnetValley$Signs" q := List.forall_mem_cons.mpr ⟨kl_9_1, List.forall_mem_cons.mpr ⟨kl_9_9, List.forall_mem_cons.mpr ⟨kl_9_13, fun _ h => absurd h List.not_mem_nil⟩⟩⟩
theorem kl_9_17 : kLp "BonnetValley$Signs" (17, 2, 97, 1, .ref 9) := pm_lk2 (ci := 9) (T := kT_9) (N := 2) (Or.inl kw_535) kPn_97 kw_330 kw_331 rfl
theorem kLc_9_1 : ∀ q ∈ kLk_9_1, kLp "BonnetValley$Signs" q := List.forall_mem_cons.mpr ⟨kl_9_17, fun _ h => absurd h List.not_mem_nil⟩
theorem kLd_9 : ∀ c ∈ kLo_9, ∀ q ∈ c, kLp "BonnetValley$Signs" q := List.forall_mem_cons.mpr ⟨kLc_9_0, List.forall_mem_cons.mpr ⟨kLc_9_1, fun _ h => absurd h List.not_mem_nil⟩⟩
theorem kl_10_3 : kLp "BonnetValley$State" (3, 4, 0, 0, .null) := pm_lk4 kw_536
theorem kl_10_9 : kLp "BonnetValley$State" (9, 6, 10, 3, .null) := pm_lk6 (T := kT_10) (N := 8) rfl (Nat.le_of_ble_eq_true rfl) kw_537
theorem kl_10_15 : kLp "BonnetValley$State" (15, 6, 10, 4, .null) := pm_lk6 (T := kT_10) (N := 8) rfl (Nat.le_of_ble_eq_true rfl) kw_538
theorem kLc_10_0 : ∀ q ∈ kLk_10_0, kLp "BonnetValley$State" q := List.forall_mem_cons.mpr ⟨kl_10_3, List.forall_mem_cons.mpr ⟨kl_10_9, List.forall_mem_cons.mpr ⟨kl_10_15, fun _ h => absurd h List.not_mem_nil⟩⟩⟩
theorem kl_10_18 : kLp "BonnetValley$State" (18, 6, 10, 5, .null) := pm_lk6 (T := kT_10) (N := 8) rfl (Nat.le_of_ble_eq_true rfl) kw_539
theorem kl_10_21 : kLp "BonnetValley$State" (21, 6, 10, 6, .null) := pm_lk6 (T := kT_10) (N := 8) rfl (Nat.le_of_ble_eq_true rfl) kw_540
theorem kl_10_24 : kLp "BonnetValley$State" (24, 6, 10, 7, .null) := pm_lk6 (T := kT_10) (N := 8) rfl (Nat.le_of_ble_eq_true rfl) kw_541
theorem kl_10_27 : kLp "BonnetValley$State" (27, 2, 102, 0, .ref 10) := pm_lk2 (ci := 10) (T := kT_10) (N := 8) (Or.inl kw_542) kPn_102 kw_66 kw_67 rfl
theorem kl_10_30 : kLp "BonnetValley$State" (30, 6, 10, 0, .null) := pm_lk6 (T := kT_10) (N := 8) rfl (Nat.le_of_ble_eq_true rfl) kw_543
theorem kLc_10_1 : ∀ q ∈ kLk_10_1, kLp "BonnetValley$State" q := List.forall_mem_cons.mpr ⟨kl_10_18, List.forall_mem_cons.mpr ⟨kl_10_21, List.forall_mem_cons.mpr ⟨kl_10_24, List.forall_mem_cons.mpr ⟨kl_10_27, List.forall_mem_cons.mpr ⟨kl_10_30, fun _ h => absurd h List.not_mem_nil⟩⟩⟩⟩⟩
theorem kl_10_34 : kLp "BonnetValley$State" (34, 6, 10, 1, .null) := pm_lk6 (T := kT_10) (N := 8) rfl (Nat.le_of_ble_eq_true rfl) kw_544
theorem kl_10_37 : kLp "BonnetValley$State" (37, 6, 10, 2, .null) := pm_lk6 (T := kT_10) (N := 8) rfl (Nat.le_of_ble_eq_true rfl) kw_545
theorem kl_10_40 : kLp "BonnetValley$State" (40, 5, 0, 0, .null) := pm_lk5 kw_546
theorem kl_10_46 : kLp "BonnetValley$State" (46, 1, 303, 1, .null) := pm_lk1 (Or.inl kw_547) kPn_303 kw_218
theorem kLc_10_2 : ∀ q ∈ kLk_10_2, kLp "BonnetValley$State" q := List.forall_mem_cons.mpr ⟨kl_10_34, List.forall_mem_cons.mpr ⟨kl_10_37, List.forall_mem_cons.mpr ⟨kl_10_40, List.forall_mem_cons.mpr ⟨kl_10_46, fun _ h => absurd h List.not_mem_nil⟩⟩⟩⟩
theorem kLd_10 : ∀ c ∈ kLo_10, ∀ q ∈ c, kLp "BonnetValley$State" q := List.forall_mem_cons.mpr ⟨kLc_10_0, List.forall_mem_cons.mpr ⟨kLc_10_1, List.forall_mem_cons.mpr ⟨kLc_10_2, fun _ h => absurd h List.not_mem_nil⟩⟩⟩
theorem kl_11_3 : kLp "BonnetValley$Turning" (3, 4, 0, 0, .null) := pm_lk4 kw_548
theorem kl_11_9 : kLp "BonnetValley$Turning" (9, 6, 11, 0, .null) := pm_lk6 (T := kT_11) (N := 2) rfl (Nat.le_of_ble_eq_true rfl) kw_549
theorem kl_11_15 : kLp "BonnetValley$Turning" (15, 6, 11, 1, .null) := pm_lk6 (T := kT_11) (N := 2) rfl (Nat.le_of_ble_eq_true rfl) kw_550
theorem kLc_11_0 : ∀ q ∈ kLk_11_0, kLp "BonnetValley$Turning" q := List.forall_mem_cons.mpr ⟨kl_11_3, List.forall_mem_cons.mpr ⟨kl_11_9, List.forall_mem_cons.mpr ⟨kl_11_15, fun _ h => absurd h List.not_mem_nil⟩⟩⟩
theorem kl_11_18 : kLp "BonnetValley$Turning" (18, 6, 10, 1, .null) := pm_lk6 (T := kT_10) (N := 8) rfl (Nat.le_of_ble_eq_true rfl) kw_551
theorem kl_11_24 : kLp "BonnetValley$Turning" (24, 6, 10, 0, .null) := pm_lk6 (T := kT_10) (N := 8) rfl (Nat.le_of_ble_eq_true rfl) kw_552
theorem kl_11_27 : kLp "BonnetValley$Turning" (27, 16, 0, 0, .null) := pm_lk16 kw_553
theorem kLc_11_1 : ∀ q ∈ kLk_11_1, kLp "BonnetValley$Turning" q := List.forall_mem_cons.mpr ⟨kl_11_18, List.forall_mem_cons.mpr ⟨kl_11_24, List.forall_mem_cons.mpr ⟨kl_11_27, fun _ h => absurd h List.not_mem_nil⟩⟩⟩
theorem kl_11_33 : kLp "BonnetValley$Turning" (33, 15, 0, 0, .null) := pm_lk15 kw_554
theorem kl_11_36 : kLp "BonnetValley$Turning" (36, 2, 118, 3, .ref 11) := pm_lk2 (ci := 11) (T := kT_11) (N := 2) (Or.inl kw_555) kPn_118 kw_556 kw_557 rfl
theorem kl_11_40 : kLp "BonnetValley$Turning" (40, 2, 119, 4, .ref 11) := pm_lk2 (ci := 11) (T := kT_11) (N := 2) (Or.inl kw_558) kPn_119 kw_559 kw_560 rfl
theorem kl_11_44 : kLp "BonnetValley$Turning" (44, 6, 10, 4, .null) := pm_lk6 (T := kT_10) (N := 8) rfl (Nat.le_of_ble_eq_true rfl) kw_561
theorem kl_11_47 : kLp "BonnetValley$Turning" (47, 2, 58, 1, .ref 5) := pm_lk2 (ci := 5) (T := kT_5) (N := 2) (Or.inl kw_562) kPn_58 kw_160 kw_161 rfl
theorem kLc_11_2 : ∀ q ∈ kLk_11_2, kLp "BonnetValley$Turning" q := List.forall_mem_cons.mpr ⟨kl_11_33, List.forall_mem_cons.mpr ⟨kl_11_36, List.forall_mem_cons.mpr ⟨kl_11_40, List.forall_mem_cons.mpr ⟨kl_11_44, List.forall_mem_cons.mpr ⟨kl_11_47, fun _ h => absurd h List.not_mem_nil⟩⟩⟩⟩⟩
theorem kLd_11 : ∀ c ∈ kLo_11, ∀ q ∈ c, kLp "BonnetValley$Turning" q := List.forall_mem_cons.mpr ⟨kLc_11_0, List.forall_mem_cons.mpr ⟨kLc_11_1, List.forall_mem_cons.mpr ⟨kLc_11_2, fun _ h => absurd h List.not_mem_nil⟩⟩⟩
theorem kl_12_1 : kLp "BonnetValley" (1, 4, 0, 0, .null) := pm_lk4 kw_0
theorem kl_12_7 : kLp "BonnetValley" (7, 9, 9, 2, .null) := pm_lk9 (T := kT_9) rfl kw_1
theorem kl_12_9 : kLp "BonnetValley" (9, 3, 94, 0, .null) := pm_lk3 (Or.inl kw_2) kPn_94 rfl kw_3 rfl
theorem kl_12_10 : kLp "BonnetValley" (10, 6, 12, 0, .null) := pm_lk6 (T := kT_12) (N := 15) rfl (Nat.le_of_ble_eq_true rfl) kw_4
theorem kLc_12_0 : ∀ q ∈ kLk_12_0, kLp "BonnetValley" q := List.forall_mem_cons.mpr ⟨kl_12_1, List.forall_mem_cons.mpr ⟨kl_12_7, List.forall_mem_cons.mpr ⟨kl_12_9, List.forall_mem_cons.mpr ⟨kl_12_10, fun _ h => absurd h List.not_mem_nil⟩⟩⟩⟩
theorem kl_12_16 : kLp "BonnetValley" (16, 9, 5, 2, .null) := pm_lk9 (T := kT_5) rfl kw_5
theorem kl_12_18 : kLp "BonnetValley" (18, 3, 56, 0, .null) := pm_lk3 (Or.inl kw_6) kPn_56 rfl kw_7 rfl
theorem kl_12_19 : kLp "BonnetValley" (19, 6, 12, 1, .null) := pm_lk6 (T := kT_12) (N := 15) rfl (Nat.le_of_ble_eq_true rfl) kw_8
theorem kl_12_23 : kLp "BonnetValley" (23, 9, 3, 9, .null) := pm_lk9 (T := kT_3) rfl kw_9
theorem kl_12_25 : kLp "BonnetValley" (25, 3, 33, 0, .null) := pm_lk3 (Or.inl kw_10) kPn_33 rfl kw_11 rfl
theorem kl_12_26 : kLp "BonnetValley" (26, 6, 12, 2, .null) := pm_lk6 (T := kT_12) (N := 15) rfl (Nat.le_of_ble_eq_true rfl) kw_12
theorem kl_12_30 : kLp "BonnetValley" (30, 9, 8, 8, .null) := pm_lk9 (T := kT_8) rfl kw_13
theorem kLc_12_1 : ∀ q ∈ kLk_12_1, kLp "BonnetValley" q := List.forall_mem_cons.mpr ⟨kl_12_16, List.forall_mem_cons.mpr ⟨kl_12_18, List.forall_mem_cons.mpr ⟨kl_12_19, List.forall_mem_cons.mpr ⟨kl_12_23, List.forall_mem_cons.mpr ⟨kl_12_25, List.forall_mem_cons.mpr ⟨kl_12_26, List.forall_mem_cons.mpr ⟨kl_12_30, fun _ h => absurd h List.not_mem_nil⟩⟩⟩⟩⟩⟩⟩
theorem kl_12_32 : kLp "BonnetValley" (32, 3, 74, 1, .null) := pm_lk3 (Or.inl kw_14) kPn_74 rfl kw_15 rfl
theorem kl_12_35 : kLp "BonnetValley" (35, 6, 12, 3, .null) := pm_lk6 (T := kT_12) (N := 15) rfl (Nat.le_of_ble_eq_true rfl) kw_16
theorem kl_12_39 : kLp "BonnetValley" (39, 9, 10, 8, .null) := pm_lk9 (T := kT_10) rfl kw_17
theorem kl_12_41 : kLp "BonnetValley" (41, 3, 101, 0, .null) := pm_lk3 (Or.inl kw_18) kPn_101 rfl kw_19 rfl
theorem kl_12_42 : kLp "BonnetValley" (42, 6, 12, 4, .null) := pm_lk6 (T := kT_12) (N := 15) rfl (Nat.le_of_ble_eq_true rfl) kw_20
theorem kl_12_46 : kLp "BonnetValley" (46, 6, 12, 5, .null) := pm_lk6 (T := kT_12) (N := 15) rfl (Nat.le_of_ble_eq_true rfl) kw_21
theorem kLc_12_2 : ∀ q ∈ kLk_12_2, kLp "BonnetValley" q := List.forall_mem_cons.mpr ⟨kl_12_32, List.forall_mem_cons.mpr ⟨kl_12_35, List.forall_mem_cons.mpr ⟨kl_12_39, List.forall_mem_cons.mpr ⟨kl_12_41, List.forall_mem_cons.mpr ⟨kl_12_42, List.forall_mem_cons.mpr ⟨kl_12_46, fun _ h => absurd h List.not_mem_nil⟩⟩⟩⟩⟩⟩
theorem kl_12_49 : kLp "BonnetValley" (49, 6, 12, 6, .null) := pm_lk6 (T := kT_12) (N := 15) rfl (Nat.le_of_ble_eq_true rfl) kw_22
theorem kl_12_52 : kLp "BonnetValley" (52, 9, 2, 5, .null) := pm_lk9 (T := kT_2) rfl kw_23
theorem kl_12_54 : kLp "BonnetValley" (54, 3, 26, 0, .null) := pm_lk3 (Or.inl kw_24) kPn_26 rfl kw_25 rfl
theorem kl_12_55 : kLp "BonnetValley" (55, 6, 12, 7, .null) := pm_lk6 (T := kT_12) (N := 15) rfl (Nat.le_of_ble_eq_true rfl) kw_26
theorem kl_12_59 : kLp "BonnetValley" (59, 9, 4, 3, .null) := pm_lk9 (T := kT_4) rfl kw_27
theorem kl_12_61 : kLp "BonnetValley" (61, 3, 52, 0, .null) := pm_lk3 (Or.inl kw_28) kPn_52 rfl kw_29 rfl
theorem kl_12_62 : kLp "BonnetValley" (62, 6, 12, 8, .null) := pm_lk6 (T := kT_12) (N := 15) rfl (Nat.le_of_ble_eq_true rfl) kw_30
theorem kLc_12_3 : ∀ q ∈ kLk_12_3, kLp "BonnetValley" q := List.forall_mem_cons.mpr ⟨kl_12_49, List.forall_mem_cons.mpr ⟨kl_12_52, List.forall_mem_cons.mpr ⟨kl_12_54, List.forall_mem_cons.mpr ⟨kl_12_55, List.forall_mem_cons.mpr ⟨kl_12_59, List.forall_mem_cons.mpr ⟨kl_12_61, List.forall_mem_cons.mpr ⟨kl_12_62, fun _ h => absurd h List.not_mem_nil⟩⟩⟩⟩⟩⟩⟩
theorem kl_12_66 : kLp "BonnetValley" (66, 9, 6, 3, .null) := pm_lk9 (T := kT_6) rfl kw_31
theorem kl_12_68 : kLp "BonnetValley" (68, 3, 61, 0, .null) := pm_lk3 (Or.inl kw_32) kPn_61 rfl kw_33 rfl
theorem kl_12_69 : kLp "BonnetValley" (69, 6, 12, 9, .null) := pm_lk6 (T := kT_12) (N := 15) rfl (Nat.le_of_ble_eq_true rfl) kw_34
theorem kl_12_73 : kLp "BonnetValley" (73, 9, 7, 3, .null) := pm_lk9 (T := kT_7) rfl kw_35
theorem kl_12_75 : kLp "BonnetValley" (75, 3, 69, 0, .null) := pm_lk3 (Or.inl kw_36) kPn_69 rfl kw_37 rfl
theorem kl_12_76 : kLp "BonnetValley" (76, 6, 12, 10, .null) := pm_lk6 (T := kT_12) (N := 15) rfl (Nat.le_of_ble_eq_true rfl) kw_38
theorem kLc_12_4 : ∀ q ∈ kLk_12_4, kLp "BonnetValley" q := List.forall_mem_cons.mpr ⟨kl_12_66, List.forall_mem_cons.mpr ⟨kl_12_68, List.forall_mem_cons.mpr ⟨kl_12_69, List.forall_mem_cons.mpr ⟨kl_12_73, List.forall_mem_cons.mpr ⟨kl_12_75, List.forall_mem_cons.mpr ⟨kl_12_76, fun _ h => absurd h List.not_mem_nil⟩⟩⟩⟩⟩⟩
theorem kl_12_80 : kLp "BonnetValley" (80, 9, 11, 2, .null) := pm_lk9 (T := kT_11) rfl kw_39
theorem kl_12_82 : kLp "BonnetValley" (82, 3, 115, 0, .null) := pm_lk3 (Or.inl kw_40) kPn_115 rfl kw_41 rfl
theorem kl_12_83 : kLp "BonnetValley" (83, 6, 12, 11, .null) := pm_lk6 (T := kT_12) (N := 15) rfl (Nat.le_of_ble_eq_true rfl) kw_42
theorem kl_12_87 : kLp "BonnetValley" (87, 9, 1, 4, .null) := pm_lk9 (T := kT_1) rfl kw_43
theorem kl_12_89 : kLp "BonnetValley" (89, 3, 15, 0, .null) := pm_lk3 (Or.inl kw_44) kPn_15 rfl kw_45 rfl
theorem kl_12_90 : kLp "BonnetValley" (90, 6, 12, 12, .null) := pm_lk6 (T := kT_12) (N := 15) rfl (Nat.le_of_ble_eq_true rfl) kw_46
theorem kl_12_94 : kLp "BonnetValley" (94, 11, 0, 0, .long (-1)) := pm_lk11 kw_47
theorem kLc_12_5 : ∀ q ∈ kLk_12_5, kLp "BonnetValley" q := List.forall_mem_cons.mpr ⟨kl_12_80, List.forall_mem_cons.mpr ⟨kl_12_82, List.forall_mem_cons.mpr ⟨kl_12_83, List.forall_mem_cons.mpr ⟨kl_12_87, List.forall_mem_cons.mpr ⟨kl_12_89, List.forall_mem_cons.mpr ⟨kl_12_90, List.forall_mem_cons.mpr ⟨kl_12_94, fun _ h => absurd h List.not_mem_nil⟩⟩⟩⟩⟩⟩⟩
theorem kl_12_96 : kLp "BonnetValley" (96, 6, 12, 13, .null) := pm_lk6 (T := kT_12) (N := 15) rfl (Nat.le_of_ble_eq_true rfl) kw_48
theorem kl_12_100 : kLp "BonnetValley" (100, 6, 12, 14, .null) := pm_lk6 (T := kT_12) (N := 15) rfl (Nat.le_of_ble_eq_true rfl) kw_49
theorem kl_12_104 : kLp "BonnetValley" (104, 2, 95, 1, .ref 9) := pm_lk2 (ci := 9) (T := kT_9) (N := 2) (Or.inl kw_50) kPn_95 kw_51 kw_52 rfl
theorem kl_12_108 : kLp "BonnetValley" (108, 2, 99, 0, .ref 9) := pm_lk2 (ci := 9) (T := kT_9) (N := 2) (Or.inl kw_53) kPn_99 kw_54 kw_55 rfl
theorem kLc_12_6 : ∀ q ∈ kLk_12_6, kLp "BonnetValley" q := List.forall_mem_cons.mpr ⟨kl_12_96, List.forall_mem_cons.mpr ⟨kl_12_100, List.forall_mem_cons.mpr ⟨kl_12_104, List.forall_mem_cons.mpr ⟨kl_12_108, fun _ h => absurd h List.not_mem_nil⟩⟩⟩⟩
theorem kl_12_112 : kLp "BonnetValley" (112, 2, 96, 1, .ref 9) := pm_lk2 (ci := 9) (T := kT_9) (N := 2) (Or.inl kw_56) kPn_96 kw_57 kw_58 rfl
theorem kl_12_115 : kLp "BonnetValley" (115, 2, 34, 1, .ref 3) := pm_lk2 (ci := 3) (T := kT_3) (N := 9) (Or.inl kw_59) kPn_34 kw_60 kw_61 rfl
theorem kl_12_119 : kLp "BonnetValley" (119, 2, 100, 0, .ref 9) := pm_lk2 (ci := 9) (T := kT_9) (N := 2) (Or.inl kw_62) kPn_100 kw_63 kw_64 rfl
theorem kl_12_122 : kLp "BonnetValley" (122, 2, 102, 0, .ref 10) := pm_lk2 (ci := 10) (T := kT_10) (N := 8) (Or.inl kw_65) kPn_102 kw_66 kw_67 rfl
theorem kl_12_123 : kLp "BonnetValley" (123, 2, 30, 0, .ref 2) := pm_lk2 (ci := 2) (T := kT_2) (N := 5) (Or.inl kw_68) kPn_30 kw_69 kw_70 rfl
theorem kl_12_124 : kLp "BonnetValley" (124, 2, 170, 0, .ref 12) := pm_lk2 (ci := 12) (T := kT_12) (N := 15) (Or.inl kw_71) kPn_170 kw_72 kw_73 rfl
theorem kl_12_127 : kLp "BonnetValley" (127, 2, 39, 0, .ref 3) := pm_lk2 (ci := 3) (T := kT_3) (N := 9) (Or.inl kw_74) kPn_39 kw_75 kw_76 rfl
theorem kLc_12_7 : ∀ q ∈ kLk_12_7, kLp "BonnetValley" q := List.forall_mem_cons.mpr ⟨kl_12_112, List.forall_mem_cons.mpr ⟨kl_12_115, List.forall_mem_cons.mpr ⟨kl_12_119, List.forall_mem_cons.mpr ⟨kl_12_122, List.forall_mem_cons.mpr ⟨kl_12_123, List.forall_mem_cons.mpr ⟨kl_12_124, List.forall_mem_cons.mpr ⟨kl_12_127, fun _ h => absurd h List.not_mem_nil⟩⟩⟩⟩⟩⟩⟩
theorem kl_12_130 : kLp "BonnetValley" (130, 6, 10, 0, .null) := pm_lk6 (T := kT_10) (N := 8) rfl (Nat.le_of_ble_eq_true rfl) kw_77
theorem kl_12_133 : kLp "BonnetValley" (133, 2, 54, 4, .ref 4) := pm_lk2 (ci := 4) (T := kT_4) (N := 3) (Or.inl kw_78) kPn_54 kw_79 kw_80 rfl
theorem kl_12_136 : kLp "BonnetValley" (136, 2, 53, 2, .ref 4) := pm_lk2 (ci := 4) (T := kT_4) (N := 3) (Or.inl kw_81) kPn_53 kw_82 kw_83 rfl
theorem kl_12_140 : kLp "BonnetValley" (140, 2, 44, 2, .ref 3) := pm_lk2 (ci := 3) (T := kT_3) (N := 9) (Or.inl kw_84) kPn_44 kw_85 kw_86 rfl
theorem kl_12_143 : kLp "BonnetValley" (143, 2, 104, 3, .ref 10) := pm_lk2 (ci := 10) (T := kT_10) (N := 8) (Or.inl kw_87) kPn_104 kw_88 kw_89 rfl
theorem kLc_12_8 : ∀ q ∈ kLk_12_8, kLp "BonnetValley" q := List.forall_mem_cons.mpr ⟨kl_12_130, List.forall_mem_cons.mpr ⟨kl_12_133, List.forall_mem_cons.mpr ⟨kl_12_136, List.forall_mem_cons.mpr ⟨kl_12_140, List.forall_mem_cons.mpr ⟨kl_12_143, fun _ h => absurd h List.not_mem_nil⟩⟩⟩⟩⟩
theorem kl_12_147 : kLp "BonnetValley" (147, 6, 10, 1, .null) := pm_lk6 (T := kT_10) (N := 8) rfl (Nat.le_of_ble_eq_true rfl) kw_90
theorem kl_12_150 : kLp "BonnetValley" (150, 2, 105, 1, .ref 10) := pm_lk2 (ci := 10) (T := kT_10) (N := 8) (Or.inl kw_91) kPn_105 kw_92 kw_93 rfl
theorem kl_12_154 : kLp "BonnetValley" (154, 2, 75, 1, .ref 8) := pm_lk2 (ci := 8) (T := kT_8) (N := 8) (Or.inl kw_94) kPn_75 kw_95 kw_96 rfl
theorem kl_12_157 : kLp "BonnetValley" (157, 2, 77, 0, .ref 8) := pm_lk2 (ci := 8) (T := kT_8) (N := 8) (Or.inl kw_97) kPn_77 kw_98 kw_99 rfl
theorem kLc_12_9 : ∀ q ∈ kLk_12_9, kLp "BonnetValley" q := List.forall_mem_cons.mpr ⟨kl_12_147, List.forall_mem_cons.mpr ⟨kl_12_150, List.forall_mem_cons.mpr ⟨kl_12_154, List.forall_mem_cons.mpr ⟨kl_12_157, fun _ h => absurd h List.not_mem_nil⟩⟩⟩⟩
theorem kl_12_161 : kLp "BonnetValley" (161, 2, 1, 1, .ref 0) := pm_lk2 (ci := 0) (T := kT_0) (N := 9) (Or.inl kw_100) kPn_1 kw_101 kw_102 rfl
theorem kl_12_164 : kLp "BonnetValley" (164, 2, 78, 0, .ref 8) := pm_lk2 (ci := 8) (T := kT_8) (N := 8) (Or.inl kw_103) kPn_78 kw_104 kw_105 rfl
theorem kl_12_167 : kLp "BonnetValley" (167, 2, 106, 1, .ref 10) := pm_lk2 (ci := 10) (T := kT_10) (N := 8) (Or.inl kw_106) kPn_106 kw_107 kw_108 rfl
theorem kl_12_173 : kLp "BonnetValley" (173, 6, 10, 3, .null) := pm_lk6 (T := kT_10) (N := 8) rfl (Nat.le_of_ble_eq_true rfl) kw_109
theorem kLc_12_10 : ∀ q ∈ kLk_12_10, kLp "BonnetValley" q := List.forall_mem_cons.mpr ⟨kl_12_161, List.forall_mem_cons.mpr ⟨kl_12_164, List.forall_mem_cons.mpr ⟨kl_12_167, List.forall_mem_cons.mpr ⟨kl_12_173, fun _ h => absurd h List.not_mem_nil⟩⟩⟩⟩
theorem kl_12_177 : kLp "BonnetValley" (177, 6, 10, 4, .null) := pm_lk6 (T := kT_10) (N := 8) rfl (Nat.le_of_ble_eq_true rfl) kw_110
theorem kl_12_180 : kLp "BonnetValley" (180, 6, 10, 5, .null) := pm_lk6 (T := kT_10) (N := 8) rfl (Nat.le_of_ble_eq_true rfl) kw_111
theorem kl_12_183 : kLp "BonnetValley" (183, 6, 10, 6, .null) := pm_lk6 (T := kT_10) (N := 8) rfl (Nat.le_of_ble_eq_true rfl) kw_112
theorem kl_12_186 : kLp "BonnetValley" (186, 2, 79, 2, .ref 8) := pm_lk2 (ci := 8) (T := kT_8) (N := 8) (Or.inl kw_113) kPn_79 kw_114 kw_115 rfl
theorem kl_12_190 : kLp "BonnetValley" (190, 2, 82, 2, .ref 8) := pm_lk2 (ci := 8) (T := kT_8) (N := 8) (Or.inl kw_116) kPn_82 kw_117 kw_118 rfl
theorem kLc_12_11 : ∀ q ∈ kLk_12_11, kLp "BonnetValley" q := List.forall_mem_cons.mpr ⟨kl_12_177, List.forall_mem_cons.mpr ⟨kl_12_180, List.forall_mem_cons.mpr ⟨kl_12_183, List.forall_mem_cons.mpr ⟨kl_12_186, List.forall_mem_cons.mpr ⟨kl_12_190, fun _ h => absurd h List.not_mem_nil⟩⟩⟩⟩⟩
theorem kl_12_194 : kLp "BonnetValley" (194, 2, 114, 1, .ref 10) := pm_lk2 (ci := 10) (T := kT_10) (N := 8) (Or.inl kw_119) kPn_114 kw_120 kw_121 rfl
theorem kl_12_198 : kLp "BonnetValley" (198, 2, 107, 1, .ref 10) := pm_lk2 (ci := 10) (T := kT_10) (N := 8) (Or.inl kw_122) kPn_107 kw_123 kw_124 rfl
theorem kl_12_201 : kLp "BonnetValley" (201, 6, 10, 7, .null) := pm_lk6 (T := kT_10) (N := 8) rfl (Nat.le_of_ble_eq_true rfl) kw_125
theorem kl_12_204 : kLp "BonnetValley" (204, 2, 110, 1, .ref 10) := pm_lk2 (ci := 10) (T := kT_10) (N := 8) (Or.inl kw_126) kPn_110 kw_127 kw_128 rfl
theorem kLc_12_12 : ∀ q ∈ kLk_12_12, kLp "BonnetValley" q := List.forall_mem_cons.mpr ⟨kl_12_194, List.forall_mem_cons.mpr ⟨kl_12_198, List.forall_mem_cons.mpr ⟨kl_12_201, List.forall_mem_cons.mpr ⟨kl_12_204, fun _ h => absurd h List.not_mem_nil⟩⟩⟩⟩
theorem kl_12_208 : kLp "BonnetValley" (208, 2, 84, 1, .ref 8) := pm_lk2 (ci := 8) (T := kT_8) (N := 8) (Or.inl kw_129) kPn_84 kw_130 kw_131 rfl
theorem kl_12_212 : kLp "BonnetValley" (212, 2, 88, 2, .ref 8) := pm_lk2 (ci := 8) (T := kT_8) (N := 8) (Or.inl kw_132) kPn_88 kw_133 kw_134 rfl
theorem kl_12_215 : kLp "BonnetValley" (215, 1, 328, 2, .null) := pm_lk1 (Or.inl kw_135) kPn_328 kw_136
theorem kl_12_221 : kLp "BonnetValley" (221, 1, 132, 2, .null) := pm_lk1 (Or.inl kw_137) kPn_132 kw_138
theorem kLc_12_13 : ∀ q ∈ kLk_12_13, kLp "BonnetValley" q := List.forall_mem_cons.mpr ⟨kl_12_208, List.forall_mem_cons.mpr ⟨kl_12_212, List.forall_mem_cons.mpr ⟨kl_12_215, List.forall_mem_cons.mpr ⟨kl_12_221, fun _ h => absurd h List.not_mem_nil⟩⟩⟩⟩
theorem kl_12_224 : kLp "BonnetValley" (224, 2, 112, 0, .ref 10) := pm_lk2 (ci := 10) (T := kT_10) (N := 8) (Or.inl kw_139) kPn_112 kw_140 kw_141 rfl
theorem kl_12_227 : kLp "BonnetValley" (227, 16, 0, 0, .null) := pm_lk16 kw_142
theorem kl_12_232 : kLp "BonnetValley" (232, 15, 0, 0, .null) := pm_lk15 kw_143
theorem kl_12_235 : kLp "BonnetValley" (235, 2, 103, 1, .ref 10) := pm_lk2 (ci := 10) (T := kT_10) (N := 8) (Or.inl kw_144) kPn_103 kw_145 kw_146 rfl
theorem kl_12_239 : kLp "BonnetValley" (239, 2, 92, 2, .ref 8) := pm_lk2 (ci := 8) (T := kT_8) (N := 8) (Or.inl kw_147) kPn_92 kw_148 kw_149 rfl
theorem kLc_12_14 : ∀ q ∈ kLk_12_14, kLp "BonnetValley" q := List.forall_mem_cons.mpr ⟨kl_12_224, List.forall_mem_cons.mpr ⟨kl_12_227, List.forall_mem_cons.mpr ⟨kl_12_232, List.forall_mem_cons.mpr ⟨kl_12_235, List.forall_mem_cons.mpr ⟨kl_12_239, fun _ h => absurd h List.not_mem_nil⟩⟩⟩⟩⟩
theorem kl_12_242 : kLp "BonnetValley" (242, 2, 140, 1, .ref 12) := pm_lk2 (ci := 12) (T := kT_12) (N := 15) (Or.inl kw_150) kPn_140 kw_151 kw_152 rfl
theorem kl_12_245 : kLp "BonnetValley" (245, 2, 57, 0, .ref 5) := pm_lk2 (ci := 5) (T := kT_5) (N := 2) (Or.inl kw_153) kPn_57 kw_154 kw_155 rfl
theorem kl_12_249 : kLp "BonnetValley" (249, 2, 108, 0, .ref 10) := pm_lk2 (ci := 10) (T := kT_10) (N := 8) (Or.inl kw_156) kPn_108 kw_157 kw_158 rfl
theorem kl_12_252 : kLp "BonnetValley" (252, 2, 58, 1, .ref 5) := pm_lk2 (ci := 5) (T := kT_5) (N := 2) (Or.inl kw_159) kPn_58 kw_160 kw_161 rfl
theorem kLc_12_15 : ∀ q ∈ kLk_12_15, kLp "BonnetValley" q := List.forall_mem_cons.mpr ⟨kl_12_242, List.forall_mem_cons.mpr ⟨kl_12_245, List.forall_mem_cons.mpr ⟨kl_12_249, List.forall_mem_cons.mpr ⟨kl_12_252, fun _ h => absurd h List.not_mem_nil⟩⟩⟩⟩
theorem kl_12_256 : kLp "BonnetValley" (256, 2, 109, 0, .ref 10) := pm_lk2 (ci := 10) (T := kT_10) (N := 8) (Or.inl kw_162) kPn_109 kw_163 kw_164 rfl
theorem kl_12_259 : kLp "BonnetValley" (259, 2, 142, 2, .ref 12) := pm_lk2 (ci := 12) (T := kT_12) (N := 15) (Or.inl kw_165) kPn_142 kw_166 kw_167 rfl
theorem kl_12_262 : kLp "BonnetValley" (262, 2, 143, 2, .ref 12) := pm_lk2 (ci := 12) (T := kT_12) (N := 15) (Or.inl kw_168) kPn_143 kw_169 kw_170 rfl
theorem kl_12_265 : kLp "BonnetValley" (265, 2, 144, 2, .ref 12) := pm_lk2 (ci := 12) (T := kT_12) (N := 15) (Or.inl kw_171) kPn_144 kw_172 kw_173 rfl
theorem kl_12_268 : kLp "BonnetValley" (268, 2, 145, 2, .ref 12) := pm_lk2 (ci := 12) (T := kT_12) (N := 15) (Or.inl kw_174) kPn_145 kw_175 kw_176 rfl
theorem kl_12_271 : kLp "BonnetValley" (271, 2, 65, 1, .ref 6) := pm_lk2 (ci := 6) (T := kT_6) (N := 3) (Or.inl kw_177) kPn_65 kw_178 kw_179 rfl
theorem kLc_12_16 : ∀ q ∈ kLk_12_16, kLp "BonnetValley" q := List.forall_mem_cons.mpr ⟨kl_12_256, List.forall_mem_cons.mpr ⟨kl_12_259, List.forall_mem_cons.mpr ⟨kl_12_262, List.forall_mem_cons.mpr ⟨kl_12_265, List.forall_mem_cons.mpr ⟨kl_12_268, List.forall_mem_cons.mpr ⟨kl_12_271, fun _ h => absurd h List.not_mem_nil⟩⟩⟩⟩⟩⟩
theorem kl_12_272 : kLp "BonnetValley" (272, 2, 62, 0, .ref 6) := pm_lk2 (ci := 6) (T := kT_6) (N := 3) (Or.inl kw_180) kPn_62 kw_181 kw_182 rfl
theorem kl_12_275 : kLp "BonnetValley" (275, 2, 141, 1, .ref 12) := pm_lk2 (ci := 12) (T := kT_12) (N := 15) (Or.inl kw_183) kPn_141 kw_184 kw_185 rfl
theorem kl_12_278 : kLp "BonnetValley" (278, 2, 28, 1, .ref 2) := pm_lk2 (ci := 2) (T := kT_2) (N := 5) (Or.inl kw_186) kPn_28 kw_187 kw_188 rfl
theorem kl_12_281 : kLp "BonnetValley" (281, 6, 10, 2, .null) := pm_lk6 (T := kT_10) (N := 8) rfl (Nat.le_of_ble_eq_true rfl) kw_189
theorem kl_12_284 : kLp "BonnetValley" (284, 2, 29, 1, .ref 2) := pm_lk2 (ci := 2) (T := kT_2) (N := 5) (Or.inl kw_190) kPn_29 kw_191 kw_192 rfl
theorem kLc_12_17 : ∀ q ∈ kLk_12_17, kLp "BonnetValley" q := List.forall_mem_cons.mpr ⟨kl_12_272, List.forall_mem_cons.mpr ⟨kl_12_275, List.forall_mem_cons.mpr ⟨kl_12_278, List.forall_mem_cons.mpr ⟨kl_12_281, List.forall_mem_cons.mpr ⟨kl_12_284, fun _ h => absurd h List.not_mem_nil⟩⟩⟩⟩⟩
theorem kl_12_288 : kLp "BonnetValley" (288, 2, 27, 0, .ref 2) := pm_lk2 (ci := 2) (T := kT_2) (N := 5) (Or.inl kw_193) kPn_27 kw_194 kw_195 rfl
theorem kl_12_289 : kLp "BonnetValley" (289, 2, 64, 2, .ref 6) := pm_lk2 (ci := 6) (T := kT_6) (N := 3) (Or.inl kw_196) kPn_64 kw_197 kw_198 rfl
theorem kl_12_290 : kLp "BonnetValley" (290, 2, 63, 1, .ref 6) := pm_lk2 (ci := 6) (T := kT_6) (N := 3) (Or.inl kw_199) kPn_63 kw_200 kw_201 rfl
theorem kl_12_293 : kLp "BonnetValley" (293, 1, 146, 1, .null) := pm_lk1 (Or.inl kw_202) kPn_146 kw_203
theorem kl_12_296 : kLp "BonnetValley" (296, 1, 47, 2, .null) := pm_lk1 (Or.inl kw_204) kPn_47 kw_205
theorem kl_12_299 : kLp "BonnetValley" (299, 2, 46, 2, .ref 3) := pm_lk2 (ci := 3) (T := kT_3) (N := 9) (Or.inl kw_206) kPn_46 kw_207 kw_208 rfl
theorem kl_12_302 : kLp "BonnetValley" (302, 2, 40, 1, .ref 3) := pm_lk2 (ci := 3) (T := kT_3) (N := 9) (Or.inl kw_209) kPn_40 kw_210 kw_211 rfl
theorem kLc_12_18 : ∀ q ∈ kLk_12_18, kLp "BonnetValley" q := List.forall_mem_cons.mpr ⟨kl_12_288, List.forall_mem_cons.mpr ⟨kl_12_289, List.forall_mem_cons.mpr ⟨kl_12_290, List.forall_mem_cons.mpr ⟨kl_12_293, List.forall_mem_cons.mpr ⟨kl_12_296, List.forall_mem_cons.mpr ⟨kl_12_299, List.forall_mem_cons.mpr ⟨kl_12_302, fun _ h => absurd h List.not_mem_nil⟩⟩⟩⟩⟩⟩⟩
theorem kl_12_305 : kLp "BonnetValley" (305, 1, 305, 1, .null) := pm_lk1 (Or.inl kw_212) kPn_305 kw_213
theorem kl_12_310 : kLp "BonnetValley" (310, 2, 113, 1, .ref 10) := pm_lk2 (ci := 10) (T := kT_10) (N := 8) (Or.inl kw_214) kPn_113 kw_215 kw_216 rfl
theorem kl_12_313 : kLp "BonnetValley" (313, 1, 303, 1, .null) := pm_lk1 (Or.inl kw_217) kPn_303 kw_218
theorem kl_12_317 : kLp "BonnetValley" (317, 2, 41, 0, .ref 3) := pm_lk2 (ci := 3) (T := kT_3) (N := 9) (Or.inl kw_219) kPn_41 kw_220 kw_221 rfl
theorem kLc_12_19 : ∀ q ∈ kLk_12_19, kLp "BonnetValley" q := List.forall_mem_cons.mpr ⟨kl_12_305, List.forall_mem_cons.mpr ⟨kl_12_310, List.forall_mem_cons.mpr ⟨kl_12_313, List.forall_mem_cons.mpr ⟨kl_12_317, fun _ h => absurd h List.not_mem_nil⟩⟩⟩⟩
theorem kl_12_321 : kLp "BonnetValley" (321, 2, 89, 3, .ref 8) := pm_lk2 (ci := 8) (T := kT_8) (N := 8) (Or.inl kw_222) kPn_89 kw_223 kw_224 rfl
theorem kl_12_325 : kLp "BonnetValley" (325, 2, 90, 3, .ref 8) := pm_lk2 (ci := 8) (T := kT_8) (N := 8) (Or.inl kw_225) kPn_90 kw_226 kw_227 rfl
theorem kl_12_328 : kLp "BonnetValley" (328, 2, 86, 1, .ref 8) := pm_lk2 (ci := 8) (T := kT_8) (N := 8) (Or.inl kw_228) kPn_86 kw_229 kw_230 rfl
theorem kl_12_332 : kLp "BonnetValley" (332, 2, 87, 2, .ref 8) := pm_lk2 (ci := 8) (T := kT_8) (N := 8) (Or.inl kw_231) kPn_87 kw_232 kw_233 rfl
theorem kl_12_335 : kLp "BonnetValley" (335, 2, 111, 0, .ref 10) := pm_lk2 (ci := 10) (T := kT_10) (N := 8) (Or.inl kw_234) kPn_111 kw_235 kw_236 rfl
theorem kLc_12_20 : ∀ q ∈ kLk_12_20, kLp "BonnetValley" q := List.forall_mem_cons.mpr ⟨kl_12_321, List.forall_mem_cons.mpr ⟨kl_12_325, List.forall_mem_cons.mpr ⟨kl_12_328, List.forall_mem_cons.mpr ⟨kl_12_332, List.forall_mem_cons.mpr ⟨kl_12_335, fun _ h => absurd h List.not_mem_nil⟩⟩⟩⟩⟩
theorem kl_12_338 : kLp "BonnetValley" (338, 2, 91, 2, .ref 8) := pm_lk2 (ci := 8) (T := kT_8) (N := 8) (Or.inl kw_237) kPn_91 kw_238 kw_239 rfl
theorem kl_12_341 : kLp "BonnetValley" (341, 2, 162, 3, .ref 12) := pm_lk2 (ci := 12) (T := kT_12) (N := 15) (Or.inl kw_240) kPn_162 kw_241 kw_242 rfl
theorem kl_12_345 : kLp "BonnetValley" (345, 1, 163, 2, .null) := pm_lk1 (Or.inl kw_243) kPn_163 kw_244
theorem kl_12_349 : kLp "BonnetValley" (349, 2, 116, 3, .ref 11) := pm_lk2 (ci := 11) (T := kT_11) (N := 2) (Or.inl kw_245) kPn_116 kw_246 kw_247 rfl
theorem kLc_12_21 : ∀ q ∈ kLk_12_21, kLp "BonnetValley" q := List.forall_mem_cons.mpr ⟨kl_12_338, List.forall_mem_cons.mpr ⟨kl_12_341, List.forall_mem_cons.mpr ⟨kl_12_345, List.forall_mem_cons.mpr ⟨kl_12_349, fun _ h => absurd h List.not_mem_nil⟩⟩⟩⟩
theorem kl_12_352 : kLp "BonnetValley" (352, 2, 117, 1, .ref 11) := pm_lk2 (ci := 11) (T := kT_11) (N := 2) (Or.inl kw_248) kPn_117 kw_249 kw_250 rfl
theorem kl_12_356 : kLp "BonnetValley" (356, 2, 120, 2, .ref 11) := pm_lk2 (ci := 11) (T := kT_11) (N := 2) (Or.inl kw_251) kPn_120 kw_252 kw_253 rfl
theorem kl_12_360 : kLp "BonnetValley" (360, 2, 83, 3, .ref 8) := pm_lk2 (ci := 8) (T := kT_8) (N := 8) (Or.inl kw_254) kPn_83 kw_255 kw_256 rfl
theorem kl_12_364 : kLp "BonnetValley" (364, 2, 80, 3, .ref 8) := pm_lk2 (ci := 8) (T := kT_8) (N := 8) (Or.inl kw_257) kPn_80 kw_258 kw_259 rfl
theorem kLc_12_22 : ∀ q ∈ kLk_12_22, kLp "BonnetValley" q := List.forall_mem_cons.mpr ⟨kl_12_352, List.forall_mem_cons.mpr ⟨kl_12_356, List.forall_mem_cons.mpr ⟨kl_12_360, List.forall_mem_cons.mpr ⟨kl_12_364, fun _ h => absurd h List.not_mem_nil⟩⟩⟩⟩
theorem kl_12_368 : kLp "BonnetValley" (368, 2, 48, 4, .ref 3) := pm_lk2 (ci := 3) (T := kT_3) (N := 9) (Or.inl kw_260) kPn_48 kw_261 kw_262 rfl
theorem kl_12_371 : kLp "BonnetValley" (371, 2, 71, 4, .ref 7) := pm_lk2 (ci := 7) (T := kT_7) (N := 3) (Or.inl kw_263) kPn_71 kw_264 kw_265 rfl
theorem kl_12_375 : kLp "BonnetValley" (375, 2, 70, 1, .ref 7) := pm_lk2 (ci := 7) (T := kT_7) (N := 3) (Or.inl kw_266) kPn_70 kw_267 kw_268 rfl
theorem kl_12_377 : kLp "BonnetValley" (377, 2, 16, 0, .ref 1) := pm_lk2 (ci := 1) (T := kT_1) (N := 4) (Or.inl kw_269) kPn_16 kw_270 kw_271 rfl
theorem kl_12_380 : kLp "BonnetValley" (380, 2, 17, 1, .ref 1) := pm_lk2 (ci := 1) (T := kT_1) (N := 4) (Or.inl kw_272) kPn_17 kw_273 kw_274 rfl
theorem kl_12_383 : kLp "BonnetValley" (383, 2, 18, 2, .ref 1) := pm_lk2 (ci := 1) (T := kT_1) (N := 4) (Or.inl kw_275) kPn_18 kw_276 kw_277 rfl
theorem kLc_12_23 : ∀ q ∈ kLk_12_23, kLp "BonnetValley" q := List.forall_mem_cons.mpr ⟨kl_12_368, List.forall_mem_cons.mpr ⟨kl_12_371, List.forall_mem_cons.mpr ⟨kl_12_375, List.forall_mem_cons.mpr ⟨kl_12_377, List.forall_mem_cons.mpr ⟨kl_12_380, List.forall_mem_cons.mpr ⟨kl_12_383, fun _ h => absurd h List.not_mem_nil⟩⟩⟩⟩⟩⟩
theorem kl_12_387 : kLp "BonnetValley" (387, 2, 20, 2, .ref 1) := pm_lk2 (ci := 1) (T := kT_1) (N := 4) (Or.inl kw_278) kPn_20 kw_279 kw_280 rfl
theorem kl_12_390 : kLp "BonnetValley" (390, 2, 85, 2, .ref 8) := pm_lk2 (ci := 8) (T := kT_8) (N := 8) (Or.inl kw_281) kPn_85 kw_282 kw_283 rfl
theorem kl_12_394 : kLp "BonnetValley" (394, 2, 21, 2, .ref 1) := pm_lk2 (ci := 1) (T := kT_1) (N := 4) (Or.inl kw_284) kPn_21 kw_285 kw_286 rfl
theorem kl_12_398 : kLp "BonnetValley" (398, 2, 24, 1, .ref 1) := pm_lk2 (ci := 1) (T := kT_1) (N := 4) (Or.inl kw_287) kPn_24 kw_288 kw_289 rfl
theorem kLc_12_24 : ∀ q ∈ kLk_12_24, kLp "BonnetValley" q := List.forall_mem_cons.mpr ⟨kl_12_387, List.forall_mem_cons.mpr ⟨kl_12_390, List.forall_mem_cons.mpr ⟨kl_12_394, List.forall_mem_cons.mpr ⟨kl_12_398, fun _ h => absurd h List.not_mem_nil⟩⟩⟩⟩
theorem kl_12_401 : kLp "BonnetValley" (401, 2, 176, 1, .ref 12) := pm_lk2 (ci := 12) (T := kT_12) (N := 15) (Or.inl kw_290) kPn_176 kw_291 kw_292 rfl
theorem kl_12_404 : kLp "BonnetValley" (404, 2, 25, 1, .ref 1) := pm_lk2 (ci := 1) (T := kT_1) (N := 4) (Or.inl kw_293) kPn_25 kw_294 kw_295 rfl
theorem kl_12_407 : kLp "BonnetValley" (407, 2, 31, 2, .ref 2) := pm_lk2 (ci := 2) (T := kT_2) (N := 5) (Or.inl kw_296) kPn_31 kw_297 kw_298 rfl
theorem kl_12_411 : kLp "BonnetValley" (411, 2, 32, 2, .ref 2) := pm_lk2 (ci := 2) (T := kT_2) (N := 5) (Or.inl kw_299) kPn_32 kw_300 kw_301 rfl
theorem kl_12_414 : kLp "BonnetValley" (414, 2, 37, 0, .ref 3) := pm_lk2 (ci := 3) (T := kT_3) (N := 9) (Or.inl kw_302) kPn_37 kw_303 kw_304 rfl
theorem kLc_12_25 : ∀ q ∈ kLk_12_25, kLp "BonnetValley" q := List.forall_mem_cons.mpr ⟨kl_12_401, List.forall_mem_cons.mpr ⟨kl_12_404, List.forall_mem_cons.mpr ⟨kl_12_407, List.forall_mem_cons.mpr ⟨kl_12_411, List.forall_mem_cons.mpr ⟨kl_12_414, fun _ h => absurd h List.not_mem_nil⟩⟩⟩⟩⟩
theorem kl_12_417 : kLp "BonnetValley" (417, 2, 38, 0, .ref 3) := pm_lk2 (ci := 3) (T := kT_3) (N := 9) (Or.inl kw_305) kPn_38 kw_306 kw_307 rfl
theorem kl_12_420 : kLp "BonnetValley" (420, 2, 76, 1, .ref 8) := pm_lk2 (ci := 8) (T := kT_8) (N := 8) (Or.inl kw_308) kPn_76 kw_309 kw_310 rfl
theorem kl_12_423 : kLp "BonnetValley" (423, 2, 59, 0, .ref 5) := pm_lk2 (ci := 5) (T := kT_5) (N := 2) (Or.inl kw_311) kPn_59 kw_312 kw_313 rfl
theorem kl_12_424 : kLp "BonnetValley" (424, 2, 60, 1, .ref 5) := pm_lk2 (ci := 5) (T := kT_5) (N := 2) (Or.inl kw_314) kPn_60 kw_315 kw_316 rfl
theorem kLc_12_26 : ∀ q ∈ kLk_12_26, kLp "BonnetValley" q := List.forall_mem_cons.mpr ⟨kl_12_417, List.forall_mem_cons.mpr ⟨kl_12_420, List.forall_mem_cons.mpr ⟨kl_12_423, List.forall_mem_cons.mpr ⟨kl_12_424, fun _ h => absurd h List.not_mem_nil⟩⟩⟩⟩
theorem kLd_12 : ∀ c ∈ kLo_12, ∀ q ∈ c, kLp "BonnetValley" q := List.forall_mem_cons.mpr ⟨kLc_12_0, List.forall_mem_cons.mpr ⟨kLc_12_1, List.forall_mem_cons.mpr ⟨kLc_12_2, List.forall_mem_cons.mpr ⟨kLc_12_3, List.forall_mem_cons.mpr ⟨kLc_12_4, List.forall_mem_cons.mpr ⟨kLc_12_5, List.forall_mem_cons.mpr ⟨kLc_12_6, List.forall_mem_cons.mpr ⟨kLc_12_7, List.forall_mem_cons.mpr ⟨kLc_12_8, List.forall_mem_cons.mpr ⟨kLc_12_9, List.forall_mem_cons.mpr ⟨kLc_12_10, List.forall_mem_cons.mpr ⟨kLc_12_11, List.forall_mem_cons.mpr ⟨kLc_12_12, List.forall_mem_cons.mpr ⟨kLc_12_13, List.forall_mem_cons.mpr ⟨kLc_12_14, List.forall_mem_cons.mpr ⟨kLc_12_15, List.forall_mem_cons.mpr ⟨kLc_12_16, List.forall_mem_cons.mpr ⟨kLc_12_17, List.forall_mem_cons.mpr ⟨kLc_12_18, List.forall_mem_cons.mpr ⟨kLc_12_19, List.forall_mem_cons.mpr ⟨kLc_12_20, List.forall_mem_cons.mpr ⟨kLc_12_21, List.forall_mem_cons.mpr ⟨kLc_12_22, List.forall_mem_cons.mpr ⟨kLc_12_23, List.forall_mem_cons.mpr ⟨kLc_12_24, List.forall_mem_cons.mpr ⟨kLc_12_25, List.forall_mem_cons.mpr ⟨kLc_12_26, fun _ h => absurd h List.not_mem_nil⟩⟩⟩⟩⟩⟩⟩⟩⟩⟩⟩⟩⟩⟩⟩⟩⟩⟩⟩⟩⟩⟩⟩⟩⟩⟩⟩
theorem kl_13_3 : kLp "BonnetValleyModel" (3, 6, 13, 0, .null) := pm_lk6 (T := kT_13) (N := 49) rfl (Nat.le_of_ble_eq_true rfl) kw_842
theorem kl_13_7 : kLp "BonnetValleyModel" (7, 1, 185, 2, .null) := pm_lk1 (Or.inl kw_843) kPn_185 kw_844
theorem kl_13_11 : kLp "BonnetValleyModel" (11, 6, 13, 2, .null) := pm_lk6 (T := kT_13) (N := 49) rfl (Nat.le_of_ble_eq_true rfl) kw_845
theorem kl_13_15 : kLp "BonnetValleyModel" (15, 6, 13, 1, .null) := pm_lk6 (T := kT_13) (N := 49) rfl (Nat.le_of_ble_eq_true rfl) kw_846
theorem kLc_13_0 : ∀ q ∈ kLk_13_0, kLp "BonnetValleyModel" q := List.forall_mem_cons.mpr ⟨kl_13_3, List.forall_mem_cons.mpr ⟨kl_13_7, List.forall_mem_cons.mpr ⟨kl_13_11, List.forall_mem_cons.mpr ⟨kl_13_15, fun _ h => absurd h List.not_mem_nil⟩⟩⟩⟩
theorem kl_13_18 : kLp "BonnetValleyModel" (18, 4, 0, 0, .null) := pm_lk4 kw_847
theorem kl_13_24 : kLp "BonnetValleyModel" (24, 6, 13, 3, .null) := pm_lk6 (T := kT_13) (N := 49) rfl (Nat.le_of_ble_eq_true rfl) kw_848
theorem kl_13_27 : kLp "BonnetValleyModel" (27, 6, 13, 4, .null) := pm_lk6 (T := kT_13) (N := 49) rfl (Nat.le_of_ble_eq_true rfl) kw_849
theorem kl_13_30 : kLp "BonnetValleyModel" (30, 6, 13, 8, .null) := pm_lk6 (T := kT_13) (N := 49) rfl (Nat.le_of_ble_eq_true rfl) kw_850
theorem kLc_13_1 : ∀ q ∈ kLk_13_1, kLp "BonnetValleyModel" q := List.forall_mem_cons.mpr ⟨kl_13_18, List.forall_mem_cons.mpr ⟨kl_13_24, List.forall_mem_cons.mpr ⟨kl_13_27, List.forall_mem_cons.mpr ⟨kl_13_30, fun _ h => absurd h List.not_mem_nil⟩⟩⟩⟩
theorem kl_13_33 : kLp "BonnetValleyModel" (33, 6, 13, 9, .null) := pm_lk6 (T := kT_13) (N := 49) rfl (Nat.le_of_ble_eq_true rfl) kw_851
theorem kl_13_37 : kLp "BonnetValleyModel" (37, 6, 13, 10, .null) := pm_lk6 (T := kT_13) (N := 49) rfl (Nat.le_of_ble_eq_true rfl) kw_852
theorem kl_13_41 : kLp "BonnetValleyModel" (41, 6, 13, 11, .null) := pm_lk6 (T := kT_13) (N := 49) rfl (Nat.le_of_ble_eq_true rfl) kw_853
theorem kl_13_44 : kLp "BonnetValleyModel" (44, 6, 13, 12, .null) := pm_lk6 (T := kT_13) (N := 49) rfl (Nat.le_of_ble_eq_true rfl) kw_854
theorem kl_13_47 : kLp "BonnetValleyModel" (47, 6, 13, 13, .null) := pm_lk6 (T := kT_13) (N := 49) rfl (Nat.le_of_ble_eq_true rfl) kw_855
theorem kLc_13_2 : ∀ q ∈ kLk_13_2, kLp "BonnetValleyModel" q := List.forall_mem_cons.mpr ⟨kl_13_33, List.forall_mem_cons.mpr ⟨kl_13_37, List.forall_mem_cons.mpr ⟨kl_13_41, List.forall_mem_cons.mpr ⟨kl_13_44, List.forall_mem_cons.mpr ⟨kl_13_47, fun _ h => absurd h List.not_mem_nil⟩⟩⟩⟩⟩
theorem kl_13_50 : kLp "BonnetValleyModel" (50, 6, 13, 18, .null) := pm_lk6 (T := kT_13) (N := 49) rfl (Nat.le_of_ble_eq_true rfl) kw_856
theorem kl_13_53 : kLp "BonnetValleyModel" (53, 6, 13, 19, .null) := pm_lk6 (T := kT_13) (N := 49) rfl (Nat.le_of_ble_eq_true rfl) kw_857
theorem kl_13_56 : kLp "BonnetValleyModel" (56, 6, 13, 21, .null) := pm_lk6 (T := kT_13) (N := 49) rfl (Nat.le_of_ble_eq_true rfl) kw_858
theorem kl_13_59 : kLp "BonnetValleyModel" (59, 6, 13, 22, .null) := pm_lk6 (T := kT_13) (N := 49) rfl (Nat.le_of_ble_eq_true rfl) kw_859
theorem kl_13_62 : kLp "BonnetValleyModel" (62, 6, 13, 25, .null) := pm_lk6 (T := kT_13) (N := 49) rfl (Nat.le_of_ble_eq_true rfl) kw_860
theorem kLc_13_3 : ∀ q ∈ kLk_13_3, kLp "BonnetValleyModel" q := List.forall_mem_cons.mpr ⟨kl_13_50, List.forall_mem_cons.mpr ⟨kl_13_53, List.forall_mem_cons.mpr ⟨kl_13_56, List.forall_mem_cons.mpr ⟨kl_13_59, List.forall_mem_cons.mpr ⟨kl_13_62, fun _ h => absurd h List.not_mem_nil⟩⟩⟩⟩⟩
theorem kl_13_65 : kLp "BonnetValleyModel" (65, 6, 13, 26, .null) := pm_lk6 (T := kT_13) (N := 49) rfl (Nat.le_of_ble_eq_true rfl) kw_861
theorem kl_13_68 : kLp "BonnetValleyModel" (68, 6, 13, 28, .null) := pm_lk6 (T := kT_13) (N := 49) rfl (Nat.le_of_ble_eq_true rfl) kw_862
theorem kl_13_71 : kLp "BonnetValleyModel" (71, 6, 13, 29, .null) := pm_lk6 (T := kT_13) (N := 49) rfl (Nat.le_of_ble_eq_true rfl) kw_863
theorem kl_13_74 : kLp "BonnetValleyModel" (74, 6, 13, 30, .null) := pm_lk6 (T := kT_13) (N := 49) rfl (Nat.le_of_ble_eq_true rfl) kw_864
theorem kl_13_77 : kLp "BonnetValleyModel" (77, 6, 13, 31, .null) := pm_lk6 (T := kT_13) (N := 49) rfl (Nat.le_of_ble_eq_true rfl) kw_865
theorem kLc_13_4 : ∀ q ∈ kLk_13_4, kLp "BonnetValleyModel" q := List.forall_mem_cons.mpr ⟨kl_13_65, List.forall_mem_cons.mpr ⟨kl_13_68, List.forall_mem_cons.mpr ⟨kl_13_71, List.forall_mem_cons.mpr ⟨kl_13_74, List.forall_mem_cons.mpr ⟨kl_13_77, fun _ h => absurd h List.not_mem_nil⟩⟩⟩⟩⟩
theorem kl_13_80 : kLp "BonnetValleyModel" (80, 6, 13, 32, .null) := pm_lk6 (T := kT_13) (N := 49) rfl (Nat.le_of_ble_eq_true rfl) kw_866
theorem kl_13_83 : kLp "BonnetValleyModel" (83, 6, 13, 33, .null) := pm_lk6 (T := kT_13) (N := 49) rfl (Nat.le_of_ble_eq_true rfl) kw_867
theorem kl_13_86 : kLp "BonnetValleyModel" (86, 6, 13, 35, .null) := pm_lk6 (T := kT_13) (N := 49) rfl (Nat.le_of_ble_eq_true rfl) kw_868
theorem kl_13_89 : kLp "BonnetValleyModel" (89, 6, 13, 36, .null) := pm_lk6 (T := kT_13) (N := 49) rfl (Nat.le_of_ble_eq_true rfl) kw_869
theorem kl_13_92 : kLp "BonnetValleyModel" (92, 6, 13, 37, .null) := pm_lk6 (T := kT_13) (N := 49) rfl (Nat.le_of_ble_eq_true rfl) kw_870
theorem kl_13_95 : kLp "BonnetValleyModel" (95, 6, 13, 38, .null) := pm_lk6 (T := kT_13) (N := 49) rfl (Nat.le_of_ble_eq_true rfl) kw_871
theorem kLc_13_5 : ∀ q ∈ kLk_13_5, kLp "BonnetValleyModel" q := List.forall_mem_cons.mpr ⟨kl_13_80, List.forall_mem_cons.mpr ⟨kl_13_83, List.forall_mem_cons.mpr ⟨kl_13_86, List.forall_mem_cons.mpr ⟨kl_13_89, List.forall_mem_cons.mpr ⟨kl_13_92, List.forall_mem_cons.mpr ⟨kl_13_95, fun _ h => absurd h List.not_mem_nil⟩⟩⟩⟩⟩⟩
theorem kl_13_98 : kLp "BonnetValleyModel" (98, 6, 13, 40, .null) := pm_lk6 (T := kT_13) (N := 49) rfl (Nat.le_of_ble_eq_true rfl) kw_872
theorem kl_13_101 : kLp "BonnetValleyModel" (101, 6, 13, 41, .null) := pm_lk6 (T := kT_13) (N := 49) rfl (Nat.le_of_ble_eq_true rfl) kw_873
theorem kl_13_104 : kLp "BonnetValleyModel" (104, 6, 13, 42, .null) := pm_lk6 (T := kT_13) (N := 49) rfl (Nat.le_of_ble_eq_true rfl) kw_874
theorem kl_13_107 : kLp "BonnetValleyModel" (107, 6, 13, 43, .null) := pm_lk6 (T := kT_13) (N := 49) rfl (Nat.le_of_ble_eq_true rfl) kw_875
theorem kl_13_110 : kLp "BonnetValleyModel" (110, 6, 13, 44, .null) := pm_lk6 (T := kT_13) (N := 49) rfl (Nat.le_of_ble_eq_true rfl) kw_876
theorem kLc_13_6 : ∀ q ∈ kLk_13_6, kLp "BonnetValleyModel" q := List.forall_mem_cons.mpr ⟨kl_13_98, List.forall_mem_cons.mpr ⟨kl_13_101, List.forall_mem_cons.mpr ⟨kl_13_104, List.forall_mem_cons.mpr ⟨kl_13_107, List.forall_mem_cons.mpr ⟨kl_13_110, fun _ h => absurd h List.not_mem_nil⟩⟩⟩⟩⟩
theorem kl_13_113 : kLp "BonnetValleyModel" (113, 6, 13, 46, .null) := pm_lk6 (T := kT_13) (N := 49) rfl (Nat.le_of_ble_eq_true rfl) kw_877
theorem kl_13_116 : kLp "BonnetValleyModel" (116, 6, 13, 47, .null) := pm_lk6 (T := kT_13) (N := 49) rfl (Nat.le_of_ble_eq_true rfl) kw_878
theorem kl_13_119 : kLp "BonnetValleyModel" (119, 6, 13, 48, .null) := pm_lk6 (T := kT_13) (N := 49) rfl (Nat.le_of_ble_eq_true rfl) kw_879
theorem kl_13_122 : kLp "BonnetValleyModel" (122, 2, 188, 0, .ref 13) := pm_lk2 (ci := 13) (T := kT_13) (N := 49) (Or.inl kw_880) kPn_188 kw_881 kw_882 rfl
theorem kl_13_126 : kLp "BonnetValleyModel" (126, 1, 182, 3, .null) := pm_lk1 (Or.inl kw_883) kPn_182 kw_884
theorem kLc_13_7 : ∀ q ∈ kLk_13_7, kLp "BonnetValleyModel" q := List.forall_mem_cons.mpr ⟨kl_13_113, List.forall_mem_cons.mpr ⟨kl_13_116, List.forall_mem_cons.mpr ⟨kl_13_119, List.forall_mem_cons.mpr ⟨kl_13_122, List.forall_mem_cons.mpr ⟨kl_13_126, fun _ h => absurd h List.not_mem_nil⟩⟩⟩⟩⟩
theorem kl_13_130 : kLp "BonnetValleyModel" (130, 6, 13, 5, .null) := pm_lk6 (T := kT_13) (N := 49) rfl (Nat.le_of_ble_eq_true rfl) kw_885
theorem kl_13_133 : kLp "BonnetValleyModel" (133, 6, 13, 6, .null) := pm_lk6 (T := kT_13) (N := 49) rfl (Nat.le_of_ble_eq_true rfl) kw_886
theorem kl_13_136 : kLp "BonnetValleyModel" (136, 6, 13, 14, .null) := pm_lk6 (T := kT_13) (N := 49) rfl (Nat.le_of_ble_eq_true rfl) kw_887
theorem kl_13_139 : kLp "BonnetValleyModel" (139, 6, 13, 15, .null) := pm_lk6 (T := kT_13) (N := 49) rfl (Nat.le_of_ble_eq_true rfl) kw_888
theorem kl_13_142 : kLp "BonnetValleyModel" (142, 6, 13, 17, .null) := pm_lk6 (T := kT_13) (N := 49) rfl (Nat.le_of_ble_eq_true rfl) kw_889
theorem kLc_13_8 : ∀ q ∈ kLk_13_8, kLp "BonnetValleyModel" q := List.forall_mem_cons.mpr ⟨kl_13_130, List.forall_mem_cons.mpr ⟨kl_13_133, List.forall_mem_cons.mpr ⟨kl_13_136, List.forall_mem_cons.mpr ⟨kl_13_139, List.forall_mem_cons.mpr ⟨kl_13_142, fun _ h => absurd h List.not_mem_nil⟩⟩⟩⟩⟩
theorem kl_13_145 : kLp "BonnetValleyModel" (145, 16, 0, 0, .null) := pm_lk16 kw_890
theorem kl_13_151 : kLp "BonnetValleyModel" (151, 6, 13, 16, .null) := pm_lk6 (T := kT_13) (N := 49) rfl (Nat.le_of_ble_eq_true rfl) kw_891
theorem kl_13_154 : kLp "BonnetValleyModel" (154, 1, 184, 1, .null) := pm_lk1 (Or.inl kw_892) kPn_184 kw_893
theorem kl_13_158 : kLp "BonnetValleyModel" (158, 11, 0, 0, .long (48)) := pm_lk11 kw_894
theorem kLc_13_9 : ∀ q ∈ kLk_13_9, kLp "BonnetValleyModel" q := List.forall_mem_cons.mpr ⟨kl_13_145, List.forall_mem_cons.mpr ⟨kl_13_151, List.forall_mem_cons.mpr ⟨kl_13_154, List.forall_mem_cons.mpr ⟨kl_13_158, fun _ h => absurd h List.not_mem_nil⟩⟩⟩⟩
theorem kl_13_160 : kLp "BonnetValleyModel" (160, 11, 0, 0, .long (57)) := pm_lk11 kw_895
theorem kl_13_162 : kLp "BonnetValleyModel" (162, 2, 306, 0, .null) := pm_lk2s (Or.inl kw_896) kPn_306 kw_897 kw_898 rfl
theorem kl_13_167 : kLp "BonnetValleyModel" (167, 2, 307, 1, .null) := pm_lk2s (Or.inl kw_899) kPn_307 kw_900 kw_901 rfl
theorem kl_13_171 : kLp "BonnetValleyModel" (171, 2, 197, 0, .ref 13) := pm_lk2 (ci := 13) (T := kT_13) (N := 49) (Or.inl kw_902) kPn_197 kw_903 kw_904 rfl
theorem kl_13_175 : kLp "BonnetValleyModel" (175, 2, 195, 1, .ref 13) := pm_lk2 (ci := 13) (T := kT_13) (N := 49) (Or.inl kw_905) kPn_195 kw_906 kw_907 rfl
theorem kLc_13_10 : ∀ q ∈ kLk_13_10, kLp "BonnetValleyModel" q := List.forall_mem_cons.mpr ⟨kl_13_160, List.forall_mem_cons.mpr ⟨kl_13_162, List.forall_mem_cons.mpr ⟨kl_13_167, List.forall_mem_cons.mpr ⟨kl_13_171, List.forall_mem_cons.mpr ⟨kl_13_175, fun _ h => absurd h List.not_mem_nil⟩⟩⟩⟩⟩
theorem kl_13_179 : kLp "BonnetValleyModel" (179, 2, 200, 2, .ref 13) := pm_lk2 (ci := 13) (T := kT_13) (N := 49) (Or.inl kw_908) kPn_200 kw_909 kw_910 rfl
theorem kl_13_182 : kLp "BonnetValleyModel" (182, 12, 0, 0, .ref 1048627) := pm_lk12 (tx := ".#") (by decide +kernel)
theorem kl_13_184 : kLp "BonnetValleyModel" (184, 2, 198, 1, .ref 13) := pm_lk2 (ci := 13) (T := kT_13) (N := 49) (Or.inl kw_911) kPn_198 kw_912 kw_913 rfl
theorem kl_13_188 : kLp "BonnetValleyModel" (188, 6, 13, 27, .null) := pm_lk6 (T := kT_13) (N := 49) rfl (Nat.le_of_ble_eq_true rfl) kw_914
theorem kl_13_191 : kLp "BonnetValleyModel" (191, 6, 13, 7, .null) := pm_lk6 (T := kT_13) (N := 49) rfl (Nat.le_of_ble_eq_true rfl) kw_915
theorem kLc_13_11 : ∀ q ∈ kLk_13_11, kLp "BonnetValleyModel" q := List.forall_mem_cons.mpr ⟨kl_13_179, List.forall_mem_cons.mpr ⟨kl_13_182, List.forall_mem_cons.mpr ⟨kl_13_184, List.forall_mem_cons.mpr ⟨kl_13_188, List.forall_mem_cons.mpr ⟨kl_13_191, fun _ h => absurd h List.not_mem_nil⟩⟩⟩⟩⟩
theorem kl_13_194 : kLp "BonnetValleyModel" (194, 6, 13, 39, .null) := pm_lk6 (T := kT_13) (N := 49) rfl (Nat.le_of_ble_eq_true rfl) kw_916
theorem kl_13_197 : kLp "BonnetValleyModel" (197, 6, 13, 20, .null) := pm_lk6 (T := kT_13) (N := 49) rfl (Nat.le_of_ble_eq_true rfl) kw_917
theorem kl_13_200 : kLp "BonnetValleyModel" (200, 2, 203, 0, .ref 13) := pm_lk2 (ci := 13) (T := kT_13) (N := 49) (Or.inl kw_918) kPn_203 kw_919 kw_920 rfl
theorem kl_13_203 : kLp "BonnetValleyModel" (203, 2, 204, 0, .ref 13) := pm_lk2 (ci := 13) (T := kT_13) (N := 49) (Or.inl kw_921) kPn_204 kw_922 kw_923 rfl
theorem kl_13_206 : kLp "BonnetValleyModel" (206, 2, 205, 0, .ref 13) := pm_lk2 (ci := 13) (T := kT_13) (N := 49) (Or.inl kw_924) kPn_205 kw_925 kw_926 rfl
theorem kLc_13_12 : ∀ q ∈ kLk_13_12, kLp "BonnetValleyModel" q := List.forall_mem_cons.mpr ⟨kl_13_194, List.forall_mem_cons.mpr ⟨kl_13_197, List.forall_mem_cons.mpr ⟨kl_13_200, List.forall_mem_cons.mpr ⟨kl_13_203, List.forall_mem_cons.mpr ⟨kl_13_206, fun _ h => absurd h List.not_mem_nil⟩⟩⟩⟩⟩
theorem kl_13_209 : kLp "BonnetValleyModel" (209, 2, 196, 1, .ref 13) := pm_lk2 (ci := 13) (T := kT_13) (N := 49) (Or.inl kw_927) kPn_196 kw_928 kw_929 rfl
theorem kl_13_213 : kLp "BonnetValleyModel" (213, 2, 201, 3, .ref 13) := pm_lk2 (ci := 13) (T := kT_13) (N := 49) (Or.inl kw_930) kPn_201 kw_931 kw_932 rfl
theorem kl_13_217 : kLp "BonnetValleyModel" (217, 2, 206, 2, .ref 13) := pm_lk2 (ci := 13) (T := kT_13) (N := 49) (Or.inl kw_933) kPn_206 kw_934 kw_935 rfl
theorem kl_13_221 : kLp "BonnetValleyModel" (221, 2, 207, 0, .ref 13) := pm_lk2 (ci := 13) (T := kT_13) (N := 49) (Or.inl kw_936) kPn_207 kw_937 kw_938 rfl
theorem kLc_13_13 : ∀ q ∈ kLk_13_13, kLp "BonnetValleyModel" q := List.forall_mem_cons.mpr ⟨kl_13_209, List.forall_mem_cons.mpr ⟨kl_13_213, List.forall_mem_cons.mpr ⟨kl_13_217, List.forall_mem_cons.mpr ⟨kl_13_221, fun _ h => absurd h List.not_mem_nil⟩⟩⟩⟩
theorem kl_13_224 : kLp "BonnetValleyModel" (224, 2, 199, 1, .ref 13) := pm_lk2 (ci := 13) (T := kT_13) (N := 49) (Or.inl kw_939) kPn_199 kw_940 kw_941 rfl
theorem kl_13_227 : kLp "BonnetValleyModel" (227, 6, 13, 24, .null) := pm_lk6 (T := kT_13) (N := 49) rfl (Nat.le_of_ble_eq_true rfl) kw_942
theorem kl_13_230 : kLp "BonnetValleyModel" (230, 2, 213, 0, .ref 13) := pm_lk2 (ci := 13) (T := kT_13) (N := 49) (Or.inl kw_943) kPn_213 kw_944 kw_945 rfl
theorem kl_13_233 : kLp "BonnetValleyModel" (233, 2, 212, 1, .ref 13) := pm_lk2 (ci := 13) (T := kT_13) (N := 49) (Or.inl kw_946) kPn_212 kw_947 kw_948 rfl
theorem kl_13_237 : kLp "BonnetValleyModel" (237, 12, 0, 0, .ref 1048628) := pm_lk12 (tx := "blkfrcnp") (by decide +kernel)
theorem kl_13_239 : kLp "BonnetValleyModel" (239, 2, 214, 1, .ref 13) := pm_lk2 (ci := 13) (T := kT_13) (N := 49) (Or.inl kw_949) kPn_214 kw_950 kw_951 rfl
theorem kLc_13_14 : ∀ q ∈ kLk_13_14, kLp "BonnetValleyModel" q := List.forall_mem_cons.mpr ⟨kl_13_224, List.forall_mem_cons.mpr ⟨kl_13_227, List.forall_mem_cons.mpr ⟨kl_13_230, List.forall_mem_cons.mpr ⟨kl_13_233, List.forall_mem_cons.mpr ⟨kl_13_237, List.forall_mem_cons.mpr ⟨kl_13_239, fun _ h => absurd h List.not_mem_nil⟩⟩⟩⟩⟩⟩
theorem kl_13_242 : kLp "BonnetValleyModel" (242, 12, 0, 0, .ref 1048629) := pm_lk12 (tx := "<>=") (by decide +kernel)
theorem kl_13_244 : kLp "BonnetValleyModel" (244, 12, 0, 0, .ref 1048630) := pm_lk12 (tx := "+-") (by decide +kernel)
theorem kl_13_246 : kLp "BonnetValleyModel" (246, 12, 0, 0, .ref 1048631) := pm_lk12 (tx := "*/") (by decide +kernel)
theorem kl_13_248 : kLp "BonnetValleyModel" (248, 6, 13, 23, .null) := pm_lk6 (T := kT_13) (N := 49) rfl (Nat.le_of_ble_eq_true rfl) kw_952
theorem kl_13_251 : kLp "BonnetValleyModel" (251, 2, 215, 0, .ref 13) := pm_lk2 (ci := 13) (T := kT_13) (N := 49) (Or.inl kw_953) kPn_215 kw_954 kw_955 rfl
theorem kl_13_254 : kLp "BonnetValleyModel" (254, 2, 216, 2, .ref 13) := pm_lk2 (ci := 13) (T := kT_13) (N := 49) (Or.inl kw_956) kPn_216 kw_957 kw_958 rfl
theorem kLc_13_15 : ∀ q ∈ kLk_13_15, kLp "BonnetValleyModel" q := List.forall_mem_cons.mpr ⟨kl_13_242, List.forall_mem_cons.mpr ⟨kl_13_244, List.forall_mem_cons.mpr ⟨kl_13_246, List.forall_mem_cons.mpr ⟨kl_13_248, List.forall_mem_cons.mpr ⟨kl_13_251, List.forall_mem_cons.mpr ⟨kl_13_254, fun _ h => absurd h List.not_mem_nil⟩⟩⟩⟩⟩⟩
theorem kl_13_258 : kLp "BonnetValleyModel" (258, 1, 218, 3, .null) := pm_lk1 (Or.inl kw_959) kPn_218 kw_960
theorem kl_13_262 : kLp "BonnetValleyModel" (262, 2, 211, 1, .ref 13) := pm_lk2 (ci := 13) (T := kT_13) (N := 49) (Or.inl kw_961) kPn_211 kw_962 kw_963 rfl
theorem kl_13_265 : kLp "BonnetValleyModel" (265, 1, 303, 1, .null) := pm_lk1 (Or.inl kw_964) kPn_303 kw_218
theorem kl_13_270 : kLp "BonnetValleyModel" (270, 2, 219, 0, .ref 13) := pm_lk2 (ci := 13) (T := kT_13) (N := 49) (Or.inl kw_965) kPn_219 kw_966 kw_967 rfl
theorem kLc_13_16 : ∀ q ∈ kLk_13_16, kLp "BonnetValleyModel" q := List.forall_mem_cons.mpr ⟨kl_13_258, List.forall_mem_cons.mpr ⟨kl_13_262, List.forall_mem_cons.mpr ⟨kl_13_265, List.forall_mem_cons.mpr ⟨kl_13_270, fun _ h => absurd h List.not_mem_nil⟩⟩⟩⟩
theorem kl_13_273 : kLp "BonnetValleyModel" (273, 15, 0, 0, .null) := pm_lk15 kw_968
theorem kl_13_276 : kLp "BonnetValleyModel" (276, 17, 0, 0, .null) := pm_lk17 kw_969
theorem kl_13_279 : kLp "BonnetValleyModel" (279, 1, 304, 1, .null) := pm_lk1 (Or.inl kw_970) kPn_304 kw_971
theorem kl_13_282 : kLp "BonnetValleyModel" (282, 1, 221, 2, .null) := pm_lk1 (Or.inl kw_972) kPn_221 kw_973
theorem kl_13_285 : kLp "BonnetValleyModel" (285, 1, 222, 2, .null) := pm_lk1 (Or.inl kw_974) kPn_222 kw_975
theorem kLc_13_17 : ∀ q ∈ kLk_13_17, kLp "BonnetValleyModel" q := List.forall_mem_cons.mpr ⟨kl_13_273, List.forall_mem_cons.mpr ⟨kl_13_276, List.forall_mem_cons.mpr ⟨kl_13_279, List.forall_mem_cons.mpr ⟨kl_13_282, List.forall_mem_cons.mpr ⟨kl_13_285, fun _ h => absurd h List.not_mem_nil⟩⟩⟩⟩⟩
theorem kl_13_288 : kLp "BonnetValleyModel" (288, 2, 223, 2, .ref 13) := pm_lk2 (ci := 13) (T := kT_13) (N := 49) (Or.inl kw_976) kPn_223 kw_977 kw_978 rfl
theorem kl_13_292 : kLp "BonnetValleyModel" (292, 2, 220, 3, .ref 13) := pm_lk2 (ci := 13) (T := kT_13) (N := 49) (Or.inl kw_979) kPn_220 kw_980 kw_981 rfl
theorem kl_13_296 : kLp "BonnetValleyModel" (296, 2, 224, 5, .ref 13) := pm_lk2 (ci := 13) (T := kT_13) (N := 49) (Or.inl kw_982) kPn_224 kw_983 kw_984 rfl
theorem kl_13_300 : kLp "BonnetValleyModel" (300, 2, 226, 2, .ref 13) := pm_lk2 (ci := 13) (T := kT_13) (N := 49) (Or.inl kw_985) kPn_226 kw_986 kw_987 rfl
theorem kLc_13_18 : ∀ q ∈ kLk_13_18, kLp "BonnetValleyModel" q := List.forall_mem_cons.mpr ⟨kl_13_288, List.forall_mem_cons.mpr ⟨kl_13_292, List.forall_mem_cons.mpr ⟨kl_13_296, List.forall_mem_cons.mpr ⟨kl_13_300, fun _ h => absurd h List.not_mem_nil⟩⟩⟩⟩
theorem kl_13_304 : kLp "BonnetValleyModel" (304, 1, 183, 2, .null) := pm_lk1 (Or.inl kw_988) kPn_183 kw_989
theorem kl_13_308 : kLp "BonnetValleyModel" (308, 2, 225, 3, .ref 13) := pm_lk2 (ci := 13) (T := kT_13) (N := 49) (Or.inl kw_990) kPn_225 kw_991 kw_992 rfl
theorem kl_13_312 : kLp "BonnetValleyModel" (312, 2, 231, 3, .ref 13) := pm_lk2 (ci := 13) (T := kT_13) (N := 49) (Or.inl kw_993) kPn_231 kw_994 kw_995 rfl
theorem kl_13_315 : kLp "BonnetValleyModel" (315, 2, 190, 1, .ref 13) := pm_lk2 (ci := 13) (T := kT_13) (N := 49) (Or.inl kw_996) kPn_190 kw_997 kw_998 rfl
theorem kl_13_318 : kLp "BonnetValleyModel" (318, 11, 0, 0, .long (5)) := pm_lk11 kw_999
theorem kLc_13_19 : ∀ q ∈ kLk_13_19, kLp "BonnetValleyModel" q := List.forall_mem_cons.mpr ⟨kl_13_304, List.forall_mem_cons.mpr ⟨kl_13_308, List.forall_mem_cons.mpr ⟨kl_13_312, List.forall_mem_cons.mpr ⟨kl_13_315, List.forall_mem_cons.mpr ⟨kl_13_318, fun _ h => absurd h List.not_mem_nil⟩⟩⟩⟩⟩
theorem kl_13_320 : kLp "BonnetValleyModel" (320, 2, 181, 0, .ref 13) := pm_lk2 (ci := 13) (T := kT_13) (N := 49) (Or.inl kw_1000) kPn_181 kw_1001 kw_1002 rfl
theorem kl_13_323 : kLp "BonnetValleyModel" (323, 2, 228, 2, .ref 13) := pm_lk2 (ci := 13) (T := kT_13) (N := 49) (Or.inl kw_1003) kPn_228 kw_1004 kw_1005 rfl
theorem kl_13_327 : kLp "BonnetValleyModel" (327, 2, 191, 1, .ref 13) := pm_lk2 (ci := 13) (T := kT_13) (N := 49) (Or.inl kw_1006) kPn_191 kw_1007 kw_1008 rfl
theorem kl_13_330 : kLp "BonnetValleyModel" (330, 11, 0, 0, .long (2)) := pm_lk11 kw_1009
theorem kl_13_332 : kLp "BonnetValleyModel" (332, 2, 233, 2, .ref 13) := pm_lk2 (ci := 13) (T := kT_13) (N := 49) (Or.inl kw_1010) kPn_233 kw_1011 kw_1012 rfl
theorem kLc_13_20 : ∀ q ∈ kLk_13_20, kLp "BonnetValleyModel" q := List.forall_mem_cons.mpr ⟨kl_13_320, List.forall_mem_cons.mpr ⟨kl_13_323, List.forall_mem_cons.mpr ⟨kl_13_327, List.forall_mem_cons.mpr ⟨kl_13_330, List.forall_mem_cons.mpr ⟨kl_13_332, fun _ h => absurd h List.not_mem_nil⟩⟩⟩⟩⟩
theorem kl_13_336 : kLp "BonnetValleyModel" (336, 2, 230, 2, .ref 13) := pm_lk2 (ci := 13) (T := kT_13) (N := 49) (Or.inl kw_1013) kPn_230 kw_1014 kw_1015 rfl
theorem kl_13_339 : kLp "BonnetValleyModel" (339, 11, 0, 0, .long (3)) := pm_lk11 kw_1016
theorem kl_13_341 : kLp "BonnetValleyModel" (341, 2, 239, 1, .ref 13) := pm_lk2 (ci := 13) (T := kT_13) (N := 49) (Or.inl kw_1017) kPn_239 kw_1018 kw_1019 rfl
theorem kl_13_344 : kLp "BonnetValleyModel" (344, 2, 232, 3, .ref 13) := pm_lk2 (ci := 13) (T := kT_13) (N := 49) (Or.inl kw_1020) kPn_232 kw_1021 kw_1022 rfl
theorem kl_13_347 : kLp "BonnetValleyModel" (347, 2, 242, 1, .ref 13) := pm_lk2 (ci := 13) (T := kT_13) (N := 49) (Or.inl kw_1023) kPn_242 kw_1024 kw_1025 rfl
theorem kl_13_351 : kLp "BonnetValleyModel" (351, 11, 0, 0, .long (7)) := pm_lk11 kw_1026
theorem kLc_13_21 : ∀ q ∈ kLk_13_21, kLp "BonnetValleyModel" q := List.forall_mem_cons.mpr ⟨kl_13_336, List.forall_mem_cons.mpr ⟨kl_13_339, List.forall_mem_cons.mpr ⟨kl_13_341, List.forall_mem_cons.mpr ⟨kl_13_344, List.forall_mem_cons.mpr ⟨kl_13_347, List.forall_mem_cons.mpr ⟨kl_13_351, fun _ h => absurd h List.not_mem_nil⟩⟩⟩⟩⟩⟩
theorem kl_13_353 : kLp "BonnetValleyModel" (353, 2, 192, 2, .ref 13) := pm_lk2 (ci := 13) (T := kT_13) (N := 49) (Or.inl kw_1027) kPn_192 kw_1028 kw_1029 rfl
theorem kl_13_356 : kLp "BonnetValleyModel" (356, 11, 0, 0, .long (4)) := pm_lk11 kw_1030
theorem kl_13_358 : kLp "BonnetValleyModel" (358, 2, 189, 1, .ref 13) := pm_lk2 (ci := 13) (T := kT_13) (N := 49) (Or.inl kw_1031) kPn_189 kw_1032 kw_1033 rfl
theorem kl_13_361 : kLp "BonnetValleyModel" (361, 11, 0, 0, .long (60)) := pm_lk11 kw_1034
theorem kl_13_363 : kLp "BonnetValleyModel" (363, 2, 238, 0, .ref 13) := pm_lk2 (ci := 13) (T := kT_13) (N := 49) (Or.inl kw_1035) kPn_238 kw_1036 kw_1037 rfl
theorem kl_13_366 : kLp "BonnetValleyModel" (366, 2, 234, 1, .ref 13) := pm_lk2 (ci := 13) (T := kT_13) (N := 49) (Or.inl kw_1038) kPn_234 kw_1039 kw_1040 rfl
theorem kLc_13_22 : ∀ q ∈ kLk_13_22, kLp "BonnetValleyModel" q := List.forall_mem_cons.mpr ⟨kl_13_353, List.forall_mem_cons.mpr ⟨kl_13_356, List.forall_mem_cons.mpr ⟨kl_13_358, List.forall_mem_cons.mpr ⟨kl_13_361, List.forall_mem_cons.mpr ⟨kl_13_363, List.forall_mem_cons.mpr ⟨kl_13_366, fun _ h => absurd h List.not_mem_nil⟩⟩⟩⟩⟩⟩
theorem kl_13_370 : kLp "BonnetValleyModel" (370, 2, 243, 2, .ref 13) := pm_lk2 (ci := 13) (T := kT_13) (N := 49) (Or.inl kw_1041) kPn_243 kw_1042 kw_1043 rfl
theorem kl_13_373 : kLp "BonnetValleyModel" (373, 2, 186, 1, .ref 13) := pm_lk2 (ci := 13) (T := kT_13) (N := 49) (Or.inl kw_1044) kPn_186 kw_1045 kw_1046 rfl
theorem kl_13_377 : kLp "BonnetValleyModel" (377, 2, 244, 3, .ref 13) := pm_lk2 (ci := 13) (T := kT_13) (N := 49) (Or.inl kw_1047) kPn_244 kw_1048 kw_1049 rfl
theorem kl_13_380 : kLp "BonnetValleyModel" (380, 2, 240, 1, .ref 13) := pm_lk2 (ci := 13) (T := kT_13) (N := 49) (Or.inl kw_1050) kPn_240 kw_1051 kw_1052 rfl
theorem kl_13_383 : kLp "BonnetValleyModel" (383, 2, 245, 3, .ref 13) := pm_lk2 (ci := 13) (T := kT_13) (N := 49) (Or.inl kw_1053) kPn_245 kw_1054 kw_1055 rfl
theorem kLc_13_23 : ∀ q ∈ kLk_13_23, kLp "BonnetValleyModel" q := List.forall_mem_cons.mpr ⟨kl_13_370, List.forall_mem_cons.mpr ⟨kl_13_373, List.forall_mem_cons.mpr ⟨kl_13_377, List.forall_mem_cons.mpr ⟨kl_13_380, List.forall_mem_cons.mpr ⟨kl_13_383, fun _ h => absurd h List.not_mem_nil⟩⟩⟩⟩⟩
theorem kl_13_386 : kLp "BonnetValleyModel" (386, 2, 246, 2, .ref 13) := pm_lk2 (ci := 13) (T := kT_13) (N := 49) (Or.inl kw_1056) kPn_246 kw_1057 kw_1058 rfl
theorem kl_13_389 : kLp "BonnetValleyModel" (389, 2, 247, 2, .ref 13) := pm_lk2 (ci := 13) (T := kT_13) (N := 49) (Or.inl kw_1059) kPn_247 kw_1060 kw_1061 rfl
theorem kl_13_392 : kLp "BonnetValleyModel" (392, 6, 13, 34, .null) := pm_lk6 (T := kT_13) (N := 49) rfl (Nat.le_of_ble_eq_true rfl) kw_1062
theorem kl_13_395 : kLp "BonnetValleyModel" (395, 12, 0, 0, .ref 1048632) := pm_lk12 (tx := "nfgbp") (by decide +kernel)
theorem kl_13_397 : kLp "BonnetValleyModel" (397, 2, 253, 0, .ref 13) := pm_lk2 (ci := 13) (T := kT_13) (N := 49) (Or.inl kw_1063) kPn_253 kw_1064 kw_1065 rfl
theorem kLc_13_24 : ∀ q ∈ kLk_13_24, kLp "BonnetValleyModel" q := List.forall_mem_cons.mpr ⟨kl_13_386, List.forall_mem_cons.mpr ⟨kl_13_389, List.forall_mem_cons.mpr ⟨kl_13_392, List.forall_mem_cons.mpr ⟨kl_13_395, List.forall_mem_cons.mpr ⟨kl_13_397, fun _ h => absurd h List.not_mem_nil⟩⟩⟩⟩⟩
theorem kl_13_400 : kLp "BonnetValleyModel" (400, 2, 254, 1, .ref 13) := pm_lk2 (ci := 13) (T := kT_13) (N := 49) (Or.inl kw_1066) kPn_254 kw_1067 kw_1068 rfl
theorem kl_13_403 : kLp "BonnetValleyModel" (403, 11, 0, 0, .long (-1)) := pm_lk11 kw_1069
theorem kl_13_405 : kLp "BonnetValleyModel" (405, 1, 305, 1, .null) := pm_lk1 (Or.inl kw_1070) kPn_305 kw_213
theorem kl_13_410 : kLp "BonnetValleyModel" (410, 2, 229, 2, .ref 13) := pm_lk2 (ci := 13) (T := kT_13) (N := 49) (Or.inl kw_1071) kPn_229 kw_1072 kw_1073 rfl
theorem kl_13_413 : kLp "BonnetValleyModel" (413, 2, 259, 0, .ref 13) := pm_lk2 (ci := 13) (T := kT_13) (N := 49) (Or.inl kw_1074) kPn_259 kw_1075 kw_1076 rfl
theorem kLc_13_25 : ∀ q ∈ kLk_13_25, kLp "BonnetValleyModel" q := List.forall_mem_cons.mpr ⟨kl_13_400, List.forall_mem_cons.mpr ⟨kl_13_403, List.forall_mem_cons.mpr ⟨kl_13_405, List.forall_mem_cons.mpr ⟨kl_13_410, List.forall_mem_cons.mpr ⟨kl_13_413, fun _ h => absurd h List.not_mem_nil⟩⟩⟩⟩⟩
theorem kl_13_417 : kLp "BonnetValleyModel" (417, 2, 227, 1, .ref 13) := pm_lk2 (ci := 13) (T := kT_13) (N := 49) (Or.inl kw_1077) kPn_227 kw_1078 kw_1079 rfl
theorem kl_13_421 : kLp "BonnetValleyModel" (421, 1, 264, 2, .null) := pm_lk1 (Or.inl kw_1080) kPn_264 kw_1081
theorem kl_13_424 : kLp "BonnetValleyModel" (424, 2, 256, 0, .ref 13) := pm_lk2 (ci := 13) (T := kT_13) (N := 49) (Or.inl kw_1082) kPn_256 kw_1083 kw_1084 rfl
theorem kl_13_427 : kLp "BonnetValleyModel" (427, 2, 267, 1, .ref 13) := pm_lk2 (ci := 13) (T := kT_13) (N := 49) (Or.inl kw_1085) kPn_267 kw_1086 kw_1087 rfl
theorem kl_13_430 : kLp "BonnetValleyModel" (430, 11, 0, 0, .long (99)) := pm_lk11 kw_1088
theorem kLc_13_26 : ∀ q ∈ kLk_13_26, kLp "BonnetValleyModel" q := List.forall_mem_cons.mpr ⟨kl_13_417, List.forall_mem_cons.mpr ⟨kl_13_421, List.forall_mem_cons.mpr ⟨kl_13_424, List.forall_mem_cons.mpr ⟨kl_13_427, List.forall_mem_cons.mpr ⟨kl_13_430, fun _ h => absurd h List.not_mem_nil⟩⟩⟩⟩⟩
theorem kl_13_432 : kLp "BonnetValleyModel" (432, 10, 0, 0, .int (1000000)) := pm_lk10 kw_1089
theorem kl_13_433 : kLp "BonnetValleyModel" (433, 2, 271, 3, .ref 13) := pm_lk2 (ci := 13) (T := kT_13) (N := 49) (Or.inl kw_1090) kPn_271 kw_1091 kw_1092 rfl
theorem kl_13_437 : kLp "BonnetValleyModel" (437, 1, 274, 2, .null) := pm_lk1 (Or.inl kw_1093) kPn_274 kw_1094
theorem kl_13_440 : kLp "BonnetValleyModel" (440, 2, 273, 2, .ref 13) := pm_lk2 (ci := 13) (T := kT_13) (N := 49) (Or.inl kw_1095) kPn_273 kw_1096 kw_1097 rfl
theorem kl_13_443 : kLp "BonnetValleyModel" (443, 2, 275, 3, .ref 13) := pm_lk2 (ci := 13) (T := kT_13) (N := 49) (Or.inl kw_1098) kPn_275 kw_1099 kw_1100 rfl
theorem kl_13_446 : kLp "BonnetValleyModel" (446, 2, 279, 3, .ref 13) := pm_lk2 (ci := 13) (T := kT_13) (N := 49) (Or.inl kw_1101) kPn_279 kw_1102 kw_1103 rfl
theorem kLc_13_27 : ∀ q ∈ kLk_13_27, kLp "BonnetValleyModel" q := List.forall_mem_cons.mpr ⟨kl_13_432, List.forall_mem_cons.mpr ⟨kl_13_433, List.forall_mem_cons.mpr ⟨kl_13_437, List.forall_mem_cons.mpr ⟨kl_13_440, List.forall_mem_cons.mpr ⟨kl_13_443, List.forall_mem_cons.mpr ⟨kl_13_446, fun _ h => absurd h List.not_mem_nil⟩⟩⟩⟩⟩⟩
theorem kl_13_450 : kLp "BonnetValleyModel" (450, 2, 280, 3, .ref 13) := pm_lk2 (ci := 13) (T := kT_13) (N := 49) (Or.inl kw_1104) kPn_280 kw_1105 kw_1106 rfl
theorem kl_13_454 : kLp "BonnetValleyModel" (454, 2, 285, 0, .ref 13) := pm_lk2 (ci := 13) (T := kT_13) (N := 49) (Or.inl kw_1107) kPn_285 kw_1108 kw_1109 rfl
theorem kl_13_457 : kLp "BonnetValleyModel" (457, 11, 0, 0, .long (8)) := pm_lk11 kw_1110
theorem kl_13_459 : kLp "BonnetValleyModel" (459, 11, 0, 0, .long (10)) := pm_lk11 kw_1111
theorem kl_13_461 : kLp "BonnetValleyModel" (461, 11, 0, 0, .long (9)) := pm_lk11 kw_1112
theorem kl_13_463 : kLp "BonnetValleyModel" (463, 1, 291, 3, .null) := pm_lk1 (Or.inl kw_1113) kPn_291 kw_1114
theorem kLc_13_28 : ∀ q ∈ kLk_13_28, kLp "BonnetValleyModel" q := List.forall_mem_cons.mpr ⟨kl_13_450, List.forall_mem_cons.mpr ⟨kl_13_454, List.forall_mem_cons.mpr ⟨kl_13_457, List.forall_mem_cons.mpr ⟨kl_13_459, List.forall_mem_cons.mpr ⟨kl_13_461, List.forall_mem_cons.mpr ⟨kl_13_463, fun _ h => absurd h List.not_mem_nil⟩⟩⟩⟩⟩⟩
theorem kl_13_466 : kLp "BonnetValleyModel" (466, 11, 0, 0, .long (20)) := pm_lk11 kw_1115
theorem kl_13_468 : kLp "BonnetValleyModel" (468, 1, 292, 3, .null) := pm_lk1 (Or.inl kw_1116) kPn_292 kw_1117
theorem kl_13_471 : kLp "BonnetValleyModel" (471, 6, 13, 45, .null) := pm_lk6 (T := kT_13) (N := 49) rfl (Nat.le_of_ble_eq_true rfl) kw_1118
theorem kl_13_474 : kLp "BonnetValleyModel" (474, 10, 0, 0, .int (1103515245)) := pm_lk10 kw_1119
theorem kl_13_475 : kLp "BonnetValleyModel" (475, 2, 294, 1, .ref 13) := pm_lk2 (ci := 13) (T := kT_13) (N := 49) (Or.inl kw_1120) kPn_294 kw_1121 kw_1122 rfl
theorem kLc_13_29 : ∀ q ∈ kLk_13_29, kLp "BonnetValleyModel" q := List.forall_mem_cons.mpr ⟨kl_13_466, List.forall_mem_cons.mpr ⟨kl_13_468, List.forall_mem_cons.mpr ⟨kl_13_471, List.forall_mem_cons.mpr ⟨kl_13_474, List.forall_mem_cons.mpr ⟨kl_13_475, fun _ h => absurd h List.not_mem_nil⟩⟩⟩⟩⟩
theorem kLd_13 : ∀ c ∈ kLo_13, ∀ q ∈ c, kLp "BonnetValleyModel" q := List.forall_mem_cons.mpr ⟨kLc_13_0, List.forall_mem_cons.mpr ⟨kLc_13_1, List.forall_mem_cons.mpr ⟨kLc_13_2, List.forall_mem_cons.mpr ⟨kLc_13_3, List.forall_mem_cons.mpr ⟨kLc_13_4, List.forall_mem_cons.mpr ⟨kLc_13_5, List.forall_mem_cons.mpr ⟨kLc_13_6, List.forall_mem_cons.mpr ⟨kLc_13_7, List.forall_mem_cons.mpr ⟨kLc_13_8, List.forall_mem_cons.mpr ⟨kLc_13_9, List.forall_mem_cons.mpr ⟨kLc_13_10, List.forall_mem_cons.mpr ⟨kLc_13_11, List.forall_mem_cons.mpr ⟨kLc_13_12, List.forall_mem_cons.mpr ⟨kLc_13_13, List.forall_mem_cons.mpr ⟨kLc_13_14, List.forall_mem_cons.mpr ⟨kLc_13_15, List.forall_mem_cons.mpr ⟨kLc_13_16, List.forall_mem_cons.mpr ⟨kLc_13_17, List.forall_mem_cons.mpr ⟨kLc_13_18, List.forall_mem_cons.mpr ⟨kLc_13_19, List.forall_mem_cons.mpr ⟨kLc_13_20, List.forall_mem_cons.mpr ⟨kLc_13_21, List.forall_mem_cons.mpr ⟨kLc_13_22, List.forall_mem_cons.mpr ⟨kLc_13_23, List.forall_mem_cons.mpr ⟨kLc_13_24, List.forall_mem_cons.mpr ⟨kLc_13_25, List.forall_mem_cons.mpr ⟨kLc_13_26, List.forall_mem_cons.mpr ⟨kLc_13_27, List.forall_mem_cons.mpr ⟨kLc_13_28, List.forall_mem_cons.mpr ⟨kLc_13_29, fun _ h => absurd h List.not_mem_nil⟩⟩⟩⟩⟩⟩⟩⟩⟩⟩⟩⟩⟩⟩⟩⟩⟩⟩⟩⟩⟩⟩⟩⟩⟩⟩⟩⟩⟩⟩
theorem kLc_14_0 : ∀ q ∈ kLk_14_0, kLp "java/lang/Character" q := fun _ h => absurd h List.not_mem_nil
theorem kLc_14_1 : ∀ q ∈ kLk_14_1, kLp "java/lang/Character" q := fun _ h => absurd h List.not_mem_nil
theorem kLc_14_2 : ∀ q ∈ kLk_14_2, kLp "java/lang/Character" q := fun _ h => absurd h List.not_mem_nil
theorem kLc_14_3 : ∀ q ∈ kLk_14_3, kLp "java/lang/Character" q := fun _ h => absurd h List.not_mem_nil
theorem kl_14_76 : kLp "java/lang/Character" (76, 10, 0, 0, .int (56320)) := pm_lk10 kw_1123
theorem kLc_14_4 : ∀ q ∈ kLk_14_4, kLp "java/lang/Character" q := List.forall_mem_cons.mpr ⟨kl_14_76, fun _ h => absurd h List.not_mem_nil⟩
theorem kLc_14_5 : ∀ q ∈ kLk_14_5, kLp "java/lang/Character" q := fun _ h => absurd h List.not_mem_nil
theorem kl_14_110 : kLp "java/lang/Character" (110, 10, 0, 0, .int (55232)) := pm_lk10 kw_1124
theorem kLc_14_6 : ∀ q ∈ kLk_14_6, kLp "java/lang/Character" q := List.forall_mem_cons.mpr ⟨kl_14_110, fun _ h => absurd h List.not_mem_nil⟩
theorem kLd_14 : ∀ c ∈ kLo_14, ∀ q ∈ c, kLp "java/lang/Character" q := List.forall_mem_cons.mpr ⟨kLc_14_0, List.forall_mem_cons.mpr ⟨kLc_14_1, List.forall_mem_cons.mpr ⟨kLc_14_2, List.forall_mem_cons.mpr ⟨kLc_14_3, List.forall_mem_cons.mpr ⟨kLc_14_4, List.forall_mem_cons.mpr ⟨kLc_14_5, List.forall_mem_cons.mpr ⟨kLc_14_6, fun _ h => absurd h List.not_mem_nil⟩⟩⟩⟩⟩⟩⟩
theorem kLc_15_0 : ∀ q ∈ kLk_15_0, kLp "java/lang/Integer" q := fun _ h => absurd h List.not_mem_nil
theorem kLc_15_1 : ∀ q ∈ kLk_15_1, kLp "java/lang/Integer" q := fun _ h => absurd h List.not_mem_nil
theorem kLc_15_2 : ∀ q ∈ kLk_15_2, kLp "java/lang/Integer" q := fun _ h => absurd h List.not_mem_nil
theorem kLc_15_3 : ∀ q ∈ kLk_15_3, kLp "java/lang/Integer" q := fun _ h => absurd h List.not_mem_nil
theorem kLc_15_4 : ∀ q ∈ kLk_15_4, kLp "java/lang/Integer" q := fun _ h => absurd h List.not_mem_nil
theorem kLc_15_5 : ∀ q ∈ kLk_15_5, kLp "java/lang/Integer" q := fun _ h => absurd h List.not_mem_nil
theorem kLc_15_6 : ∀ q ∈ kLk_15_6, kLp "java/lang/Integer" q := fun _ h => absurd h List.not_mem_nil
theorem kLc_15_7 : ∀ q ∈ kLk_15_7, kLp "java/lang/Integer" q := fun _ h => absurd h List.not_mem_nil
theorem kLc_15_8 : ∀ q ∈ kLk_15_8, kLp "java/lang/Integer" q := fun _ h => absurd h List.not_mem_nil
theorem kLc_15_9 : ∀ q ∈ kLk_15_9, kLp "java/lang/Integer" q := fun _ h => absurd h List.not_mem_nil
theorem kLc_15_10 : ∀ q ∈ kLk_15_10, kLp "java/lang/Integer" q := fun _ h => absurd h List.not_mem_nil
theorem kLc_15_11 : ∀ q ∈ kLk_15_11, kLp "java/lang/Integer" q := fun _ h => absurd h List.not_mem_nil
theorem kLc_15_12 : ∀ q ∈ kLk_15_12, kLp "java/lang/Integer" q := fun _ h => absurd h List.not_mem_nil
theorem kLc_15_13 : ∀ q ∈ kLk_15_13, kLp "java/lang/Integer" q := fun _ h => absurd h List.not_mem_nil
theorem kLc_15_14 : ∀ q ∈ kLk_15_14, kLp "java/lang/Integer" q := fun _ h => absurd h List.not_mem_nil
theorem kLc_15_15 : ∀ q ∈ kLk_15_15, kLp "java/lang/Integer" q := fun _ h => absurd h List.not_mem_nil
theorem kl_15_265 : kLp "java/lang/Integer" (265, 10, 0, 0, .int (1431655765)) := pm_lk10 kw_1125
theorem kl_15_266 : kLp "java/lang/Integer" (266, 10, 0, 0, .int (858993459)) := pm_lk10 kw_1126
theorem kl_15_267 : kLp "java/lang/Integer" (267, 10, 0, 0, .int (252645135)) := pm_lk10 kw_1127
theorem kLc_15_16 : ∀ q ∈ kLk_15_16, kLp "java/lang/Integer" q := List.forall_mem_cons.mpr ⟨kl_15_265, List.forall_mem_cons.mpr ⟨kl_15_266, List.forall_mem_cons.mpr ⟨kl_15_267, fun _ h => absurd h List.not_mem_nil⟩⟩⟩
theorem kLd_15 : ∀ c ∈ kLo_15, ∀ q ∈ c, kLp "java/lang/Integer" q := List.forall_mem_cons.mpr ⟨kLc_15_0, List.forall_mem_cons.mpr ⟨kLc_15_1, List.forall_mem_cons.mpr ⟨kLc_15_2, List.forall_mem_cons.mpr ⟨kLc_15_3, List.forall_mem_cons.mpr ⟨kLc_15_4, List.forall_mem_cons.mpr ⟨kLc_15_5, List.forall_mem_cons.mpr ⟨kLc_15_6, List.forall_mem_cons.mpr ⟨kLc_15_7, List.forall_mem_cons.mpr ⟨kLc_15_8, List.forall_mem_cons.mpr ⟨kLc_15_9, List.forall_mem_cons.mpr ⟨kLc_15_10, List.forall_mem_cons.mpr ⟨kLc_15_11, List.forall_mem_cons.mpr ⟨kLc_15_12, List.forall_mem_cons.mpr ⟨kLc_15_13, List.forall_mem_cons.mpr ⟨kLc_15_14, List.forall_mem_cons.mpr ⟨kLc_15_15, List.forall_mem_cons.mpr ⟨kLc_15_16, fun _ h => absurd h List.not_mem_nil⟩⟩⟩⟩⟩⟩⟩⟩⟩⟩⟩⟩⟩⟩⟩⟩⟩
theorem kLc_16_0 : ∀ q ∈ kLk_16_0, kLp "java/lang/Long" q := fun _ h => absurd h List.not_mem_nil
theorem kLc_16_1 : ∀ q ∈ kLk_16_1, kLp "java/lang/Long" q := fun _ h => absurd h List.not_mem_nil
theorem kLc_16_2 : ∀ q ∈ kLk_16_2, kLp "java/lang/Long" q := fun _ h => absurd h List.not_mem_nil
theorem kLc_16_3 : ∀ q ∈ kLk_16_3, kLp "java/lang/Long" q := fun _ h => absurd h List.not_mem_nil
theorem kLc_16_4 : ∀ q ∈ kLk_16_4, kLp "java/lang/Long" q := fun _ h => absurd h List.not_mem_nil
theorem kLc_16_5 : ∀ q ∈ kLk_16_5, kLp "java/lang/Long" q := fun _ h => absurd h List.not_mem_nil
theorem kLc_16_6 : ∀ q ∈ kLk_16_6, kLp "java/lang/Long" q := fun _ h => absurd h List.not_mem_nil
theorem kLc_16_7 : ∀ q ∈ kLk_16_7, kLp "java/lang/Long" q := fun _ h => absurd h List.not_mem_nil
theorem kLc_16_8 : ∀ q ∈ kLk_16_8, kLp "java/lang/Long" q := fun _ h => absurd h List.not_mem_nil
theorem kLc_16_9 : ∀ q ∈ kLk_16_9, kLp "java/lang/Long" q := fun _ h => absurd h List.not_mem_nil
theorem kLc_16_10 : ∀ q ∈ kLk_16_10, kLp "java/lang/Long" q := fun _ h => absurd h List.not_mem_nil
theorem kLc_16_11 : ∀ q ∈ kLk_16_11, kLp "java/lang/Long" q := fun _ h => absurd h List.not_mem_nil
theorem kLc_16_12 : ∀ q ∈ kLk_16_12, kLp "java/lang/Long" q := fun _ h => absurd h List.not_mem_nil
theorem kLc_16_13 : ∀ q ∈ kLk_16_13, kLp "java/lang/Long" q := fun _ h => absurd h List.not_mem_nil
theorem kLc_16_14 : ∀ q ∈ kLk_16_14, kLp "java/lang/Long" q := fun _ h => absurd h List.not_mem_nil
theorem kLc_16_15 : ∀ q ∈ kLk_16_15, kLp "java/lang/Long" q := fun _ h => absurd h List.not_mem_nil
theorem kLc_16_16 : ∀ q ∈ kLk_16_16, kLp "java/lang/Long" q := fun _ h => absurd h List.not_mem_nil
theorem kLc_16_17 : ∀ q ∈ kLk_16_17, kLp "java/lang/Long" q := fun _ h => absurd h List.not_mem_nil
theorem kLc_16_18 : ∀ q ∈ kLk_16_18, kLp "java/lang/Long" q := fun _ h => absurd h List.not_mem_nil
theorem kl_16_314 : kLp "java/lang/Long" (314, 11, 0, 0, .long (6148914691236517205)) := pm_lk11 kw_1128
theorem kl_16_316 : kLp "java/lang/Long" (316, 11, 0, 0, .long (3689348814741910323)) := pm_lk11 kw_1129
theorem kl_16_318 : kLp "java/lang/Long" (318, 11, 0, 0, .long (1085102592571150095)) := pm_lk11 kw_1130
theorem kLc_16_19 : ∀ q ∈ kLk_16_19, kLp "java/lang/Long" q := List.forall_mem_cons.mpr ⟨kl_16_314, List.forall_mem_cons.mpr ⟨kl_16_316, List.forall_mem_cons.mpr ⟨kl_16_318, fun _ h => absurd h List.not_mem_nil⟩⟩⟩
theorem kLd_16 : ∀ c ∈ kLo_16, ∀ q ∈ c, kLp "java/lang/Long" q := List.forall_mem_cons.mpr ⟨kLc_16_0, List.forall_mem_cons.mpr ⟨kLc_16_1, List.forall_mem_cons.mpr ⟨kLc_16_2, List.forall_mem_cons.mpr ⟨kLc_16_3, List.forall_mem_cons.mpr ⟨kLc_16_4, List.forall_mem_cons.mpr ⟨kLc_16_5, List.forall_mem_cons.mpr ⟨kLc_16_6, List.forall_mem_cons.mpr ⟨kLc_16_7, List.forall_mem_cons.mpr ⟨kLc_16_8, List.forall_mem_cons.mpr ⟨kLc_16_9, List.forall_mem_cons.mpr ⟨kLc_16_10, List.forall_mem_cons.mpr ⟨kLc_16_11, List.forall_mem_cons.mpr ⟨kLc_16_12, List.forall_mem_cons.mpr ⟨kLc_16_13, List.forall_mem_cons.mpr ⟨kLc_16_14, List.forall_mem_cons.mpr ⟨kLc_16_15, List.forall_mem_cons.mpr ⟨kLc_16_16, List.forall_mem_cons.mpr ⟨kLc_16_17, List.forall_mem_cons.mpr ⟨kLc_16_18, List.forall_mem_cons.mpr ⟨kLc_16_19, fun _ h => absurd h List.not_mem_nil⟩⟩⟩⟩⟩⟩⟩⟩⟩⟩⟩⟩⟩⟩⟩⟩⟩⟩⟩⟩
theorem kl_17_9 : kLp "java/lang/String" (9, 7, 0, 0, .null) := pm_lk7 kw_1131
theorem kl_17_15 : kLp "java/lang/String" (15, 7, 1, 0, .null) := pm_lk7 kw_1132
theorem kLc_17_0 : ∀ q ∈ kLk_17_0, kLp "java/lang/String" q := List.forall_mem_cons.mpr ⟨kl_17_9, List.forall_mem_cons.mpr ⟨kl_17_15, fun _ h => absurd h List.not_mem_nil⟩⟩
theorem kLc_17_1 : ∀ q ∈ kLk_17_1, kLp "java/lang/String" q := fun _ h => absurd h List.not_mem_nil
theorem kl_17_38 : kLp "java/lang/String" (38, 8, 0, 0, .int 1) := pm_lk8 (C := "java/lang/String") (n := "COMPACT_STRINGS") (d := "Z") (by decide +kernel) (by decide +kernel) kw_1133
theorem kLc_17_2 : ∀ q ∈ kLk_17_2, kLp "java/lang/String" q := List.forall_mem_cons.mpr ⟨kl_17_38, fun _ h => absurd h List.not_mem_nil⟩
theorem kLc_17_3 : ∀ q ∈ kLk_17_3, kLp "java/lang/String" q := fun _ h => absurd h List.not_mem_nil
theorem kLc_17_4 : ∀ q ∈ kLk_17_4, kLp "java/lang/String" q := fun _ h => absurd h List.not_mem_nil
theorem kLc_17_5 : ∀ q ∈ kLk_17_5, kLp "java/lang/String" q := fun _ h => absurd h List.not_mem_nil
theorem kLc_17_6 : ∀ q ∈ kLk_17_6, kLp "java/lang/String" q := fun _ h => absurd h List.not_mem_nil
theorem kLc_17_7 : ∀ q ∈ kLk_17_7, kLp "java/lang/String" q := fun _ h => absurd h List.not_mem_nil
theorem kLc_17_8 : ∀ q ∈ kLk_17_8, kLp "java/lang/String" q := fun _ h => absurd h List.not_mem_nil
theorem kLc_17_9 : ∀ q ∈ kLk_17_9, kLp "java/lang/String" q := fun _ h => absurd h List.not_mem_nil
theorem kLc_17_10 : ∀ q ∈ kLk_17_10, kLp "java/lang/String" q := fun _ h => absurd h List.not_mem_nil
theorem kLc_17_11 : ∀ q ∈ kLk_17_11, kLp "java/lang/String" q := fun _ h => absurd h List.not_mem_nil
theorem kLc_17_12 : ∀ q ∈ kLk_17_12, kLp "java/lang/String" q := fun _ h => absurd h List.not_mem_nil
theorem kLc_17_13 : ∀ q ∈ kLk_17_13, kLp "java/lang/String" q := fun _ h => absurd h List.not_mem_nil
theorem kLc_17_14 : ∀ q ∈ kLk_17_14, kLp "java/lang/String" q := fun _ h => absurd h List.not_mem_nil
theorem kLc_17_15 : ∀ q ∈ kLk_17_15, kLp "java/lang/String" q := fun _ h => absurd h List.not_mem_nil
theorem kLc_17_16 : ∀ q ∈ kLk_17_16, kLp "java/lang/String" q := fun _ h => absurd h List.not_mem_nil
theorem kLc_17_17 : ∀ q ∈ kLk_17_17, kLp "java/lang/String" q := fun _ h => absurd h List.not_mem_nil
theorem kLc_17_18 : ∀ q ∈ kLk_17_18, kLp "java/lang/String" q := fun _ h => absurd h List.not_mem_nil
theorem kLc_17_19 : ∀ q ∈ kLk_17_19, kLp "java/lang/String" q := fun _ h => absurd h List.not_mem_nil
theorem kl_17_335 : kLp "java/lang/String" (335, 2, 310, 0, .null) := pm_lk2s (Or.inl kw_1134) kPn_310 kw_1135 kw_1136 rfl
theorem kLc_17_20 : ∀ q ∈ kLk_17_20, kLp "java/lang/String" q := List.forall_mem_cons.mpr ⟨kl_17_335, fun _ h => absurd h List.not_mem_nil⟩
theorem kLc_17_21 : ∀ q ∈ kLk_17_21, kLp "java/lang/String" q := fun _ h => absurd h List.not_mem_nil
theorem kLc_17_22 : ∀ q ∈ kLk_17_22, kLp "java/lang/String" q := fun _ h => absurd h List.not_mem_nil
theorem kLc_17_23 : ∀ q ∈ kLk_17_23, kLp "java/lang/String" q := fun _ h => absurd h List.not_mem_nil
theorem kLc_17_24 : ∀ q ∈ kLk_17_24, kLp "java/lang/String" q := fun _ h => absurd h List.not_mem_nil
theorem kLc_17_25 : ∀ q ∈ kLk_17_25, kLp "java/lang/String" q := fun _ h => absurd h List.not_mem_nil
theorem kLc_17_26 : ∀ q ∈ kLk_17_26, kLp "java/lang/String" q := fun _ h => absurd h List.not_mem_nil
theorem kLc_17_27 : ∀ q ∈ kLk_17_27, kLp "java/lang/String" q := fun _ h => absurd h List.not_mem_nil
theorem kLc_17_28 : ∀ q ∈ kLk_17_28, kLp "java/lang/String" q := fun _ h => absurd h List.not_mem_nil
theorem kLc_17_29 : ∀ q ∈ kLk_17_29, kLp "java/lang/String" q := fun _ h => absurd h List.not_mem_nil
theorem kl_17_492 : kLp "java/lang/String" (492, 2, 311, 0, .null) := pm_lk2s (Or.inl kw_1137) kPn_311 kw_1138 kw_1139 rfl
theorem kl_17_495 : kLp "java/lang/String" (495, 1, 314, 2, .null) := pm_lk1 (Or.inl kw_1140) kPn_314 kw_1141
theorem kLc_17_30 : ∀ q ∈ kLk_17_30, kLp "java/lang/String" q := List.forall_mem_cons.mpr ⟨kl_17_492, List.forall_mem_cons.mpr ⟨kl_17_495, fun _ h => absurd h List.not_mem_nil⟩⟩
theorem kl_17_498 : kLp "java/lang/String" (498, 1, 324, 2, .null) := pm_lk1 (Or.inl kw_1142) kPn_324 kw_1143
theorem kl_17_505 : kLp "java/lang/String" (505, 2, 306, 0, .null) := pm_lk2s (Or.inl kw_1144) kPn_306 kw_897 kw_898 rfl
theorem kLc_17_31 : ∀ q ∈ kLk_17_31, kLp "java/lang/String" q := List.forall_mem_cons.mpr ⟨kl_17_498, List.forall_mem_cons.mpr ⟨kl_17_505, fun _ h => absurd h List.not_mem_nil⟩⟩
theorem kLc_17_32 : ∀ q ∈ kLk_17_32, kLp "java/lang/String" q := fun _ h => absurd h List.not_mem_nil
theorem kLc_17_33 : ∀ q ∈ kLk_17_33, kLp "java/lang/String" q := fun _ h => absurd h List.not_mem_nil
theorem kLc_17_34 : ∀ q ∈ kLk_17_34, kLp "java/lang/String" q := fun _ h => absurd h List.not_mem_nil
theorem kLc_17_35 : ∀ q ∈ kLk_17_35, kLp "java/lang/String" q := fun _ h => absurd h List.not_mem_nil
theorem kLc_17_36 : ∀ q ∈ kLk_17_36, kLp "java/lang/String" q := fun _ h => absurd h List.not_mem_nil
theorem kLc_17_37 : ∀ q ∈ kLk_17_37, kLp "java/lang/String" q := fun _ h => absurd h List.not_mem_nil
theorem kLc_17_38 : ∀ q ∈ kLk_17_38, kLp "java/lang/String" q := fun _ h => absurd h List.not_mem_nil
theorem kl_17_633 : kLp "java/lang/String" (633, 2, 309, 2, .null) := pm_lk2s (Or.inl kw_1145) kPn_309 kw_1146 kw_1147 rfl
theorem kl_17_637 : kLp "java/lang/String" (637, 1, 316, 4, .null) := pm_lk1 (Or.inl kw_1148) kPn_316 kw_1149
theorem kLc_17_39 : ∀ q ∈ kLk_17_39, kLp "java/lang/String" q := List.forall_mem_cons.mpr ⟨kl_17_633, List.forall_mem_cons.mpr ⟨kl_17_637, fun _ h => absurd h List.not_mem_nil⟩⟩
theorem kl_17_640 : kLp "java/lang/String" (640, 1, 320, 4, .null) := pm_lk1 (Or.inl kw_1150) kPn_320 kw_1151
theorem kLc_17_40 : ∀ q ∈ kLk_17_40, kLp "java/lang/String" q := List.forall_mem_cons.mpr ⟨kl_17_640, fun _ h => absurd h List.not_mem_nil⟩
theorem kLc_17_41 : ∀ q ∈ kLk_17_41, kLp "java/lang/String" q := fun _ h => absurd h List.not_mem_nil
theorem kLc_17_42 : ∀ q ∈ kLk_17_42, kLp "java/lang/String" q := fun _ h => absurd h List.not_mem_nil
theorem kLc_17_43 : ∀ q ∈ kLk_17_43, kLp "java/lang/String" q := fun _ h => absurd h List.not_mem_nil
theorem kLc_17_44 : ∀ q ∈ kLk_17_44, kLp "java/lang/String" q := fun _ h => absurd h List.not_mem_nil
theorem kLc_17_45 : ∀ q ∈ kLk_17_45, kLp "java/lang/String" q := fun _ h => absurd h List.not_mem_nil
theorem kLc_17_46 : ∀ q ∈ kLk_17_46, kLp "java/lang/String" q := fun _ h => absurd h List.not_mem_nil
theorem kLc_17_47 : ∀ q ∈ kLk_17_47, kLp "java/lang/String" q := fun _ h => absurd h List.not_mem_nil
theorem kLc_17_48 : ∀ q ∈ kLk_17_48, kLp "java/lang/String" q := fun _ h => absurd h List.not_mem_nil
theorem kLc_17_49 : ∀ q ∈ kLk_17_49, kLp "java/lang/String" q := fun _ h => absurd h List.not_mem_nil
theorem kLc_17_50 : ∀ q ∈ kLk_17_50, kLp "java/lang/String" q := fun _ h => absurd h List.not_mem_nil
theorem kLc_17_51 : ∀ q ∈ kLk_17_51, kLp "java/lang/String" q := fun _ h => absurd h List.not_mem_nil
theorem kLc_17_52 : ∀ q ∈ kLk_17_52, kLp "java/lang/String" q := fun _ h => absurd h List.not_mem_nil
theorem kLc_17_53 : ∀ q ∈ kLk_17_53, kLp "java/lang/String" q := fun _ h => absurd h List.not_mem_nil
theorem kLc_17_54 : ∀ q ∈ kLk_17_54, kLp "java/lang/String" q := fun _ h => absurd h List.not_mem_nil
theorem kLc_17_55 : ∀ q ∈ kLk_17_55, kLp "java/lang/String" q := fun _ h => absurd h List.not_mem_nil
theorem kLc_17_56 : ∀ q ∈ kLk_17_56, kLp "java/lang/String" q := fun _ h => absurd h List.not_mem_nil
theorem kLc_17_57 : ∀ q ∈ kLk_17_57, kLp "java/lang/String" q := fun _ h => absurd h List.not_mem_nil
theorem kLc_17_58 : ∀ q ∈ kLk_17_58, kLp "java/lang/String" q := fun _ h => absurd h List.not_mem_nil
theorem kLc_17_59 : ∀ q ∈ kLk_17_59, kLp "java/lang/String" q := fun _ h => absurd h List.not_mem_nil
theorem kLc_17_60 : ∀ q ∈ kLk_17_60, kLp "java/lang/String" q := fun _ h => absurd h List.not_mem_nil
theorem kLc_17_61 : ∀ q ∈ kLk_17_61, kLp "java/lang/String" q := fun _ h => absurd h List.not_mem_nil
theorem kLc_17_62 : ∀ q ∈ kLk_17_62, kLp "java/lang/String" q := fun _ h => absurd h List.not_mem_nil
theorem kLc_17_63 : ∀ q ∈ kLk_17_63, kLp "java/lang/String" q := fun _ h => absurd h List.not_mem_nil
theorem kLc_17_64 : ∀ q ∈ kLk_17_64, kLp "java/lang/String" q := fun _ h => absurd h List.not_mem_nil
theorem kLc_17_65 : ∀ q ∈ kLk_17_65, kLp "java/lang/String" q := fun _ h => absurd h List.not_mem_nil
theorem kl_17_1059 : kLp "java/lang/String" (1059, 1, 329, 3, .null) := pm_lk1 (Or.inl kw_1152) kPn_329 kw_1153
theorem kl_17_1062 : kLp "java/lang/String" (1062, 1, 330, 4, .null) := pm_lk1 (Or.inl kw_1154) kPn_330 kw_1155
theorem kLc_17_66 : ∀ q ∈ kLk_17_66, kLp "java/lang/String" q := List.forall_mem_cons.mpr ⟨kl_17_1059, List.forall_mem_cons.mpr ⟨kl_17_1062, fun _ h => absurd h List.not_mem_nil⟩⟩
theorem kLd_17 : ∀ c ∈ kLo_17, ∀ q ∈ c, kLp "java/lang/String" q := List.forall_mem_cons.mpr ⟨kLc_17_0, List.forall_mem_cons.mpr ⟨kLc_17_1, List.forall_mem_cons.mpr ⟨kLc_17_2, List.forall_mem_cons.mpr ⟨kLc_17_3, List.forall_mem_cons.mpr ⟨kLc_17_4, List.forall_mem_cons.mpr ⟨kLc_17_5, List.forall_mem_cons.mpr ⟨kLc_17_6, List.forall_mem_cons.mpr ⟨kLc_17_7, List.forall_mem_cons.mpr ⟨kLc_17_8, List.forall_mem_cons.mpr ⟨kLc_17_9, List.forall_mem_cons.mpr ⟨kLc_17_10, List.forall_mem_cons.mpr ⟨kLc_17_11, List.forall_mem_cons.mpr ⟨kLc_17_12, List.forall_mem_cons.mpr ⟨kLc_17_13, List.forall_mem_cons.mpr ⟨kLc_17_14, List.forall_mem_cons.mpr ⟨kLc_17_15, List.forall_mem_cons.mpr ⟨kLc_17_16, List.forall_mem_cons.mpr ⟨kLc_17_17, List.forall_mem_cons.mpr ⟨kLc_17_18, List.forall_mem_cons.mpr ⟨kLc_17_19, List.forall_mem_cons.mpr ⟨kLc_17_20, List.forall_mem_cons.mpr ⟨kLc_17_21, List.forall_mem_cons.mpr ⟨kLc_17_22, List.forall_mem_cons.mpr ⟨kLc_17_23, List.forall_mem_cons.mpr ⟨kLc_17_24, List.forall_mem_cons.mpr ⟨kLc_17_25, List.forall_mem_cons.mpr ⟨kLc_17_26, List.forall_mem_cons.mpr ⟨kLc_17_27, List.forall_mem_cons.mpr ⟨kLc_17_28, List.forall_mem_cons.mpr ⟨kLc_17_29, List.forall_mem_cons.mpr ⟨kLc_17_30, List.forall_mem_cons.mpr ⟨kLc_17_31, List.forall_mem_cons.mpr ⟨kLc_17_32, List.forall_mem_cons.mpr ⟨kLc_17_33, List.forall_mem_cons.mpr ⟨kLc_17_34, List.forall_mem_cons.mpr ⟨kLc_17_35, List.forall_mem_cons.mpr ⟨kLc_17_36, List.forall_mem_cons.mpr ⟨kLc_17_37, List.forall_mem_cons.mpr ⟨kLc_17_38, List.forall_mem_cons.mpr ⟨kLc_17_39, List.forall_mem_cons.mpr ⟨kLc_17_40, List.forall_mem_cons.mpr ⟨kLc_17_41, List.forall_mem_cons.mpr ⟨kLc_17_42, List.forall_mem_cons.mpr ⟨kLc_17_43, List.forall_mem_cons.mpr ⟨kLc_17_44, List.forall_mem_cons.mpr ⟨kLc_17_45, List.forall_mem_cons.mpr ⟨kLc_17_46, List.forall_mem_cons.mpr ⟨kLc_17_47, List.forall_mem_cons.mpr ⟨kLc_17_48, List.forall_mem_cons.mpr ⟨kLc_17_49, List.forall_mem_cons.mpr ⟨kLc_17_50, List.forall_mem_cons.mpr ⟨kLc_17_51, List.forall_mem_cons.mpr ⟨kLc_17_52, List.forall_mem_cons.mpr ⟨kLc_17_53, List.forall_mem_cons.mpr ⟨kLc_17_54, List.forall_mem_cons.mpr ⟨kLc_17_55, List.forall_mem_cons.mpr ⟨kLc_17_56, List.forall_mem_cons.mpr ⟨kLc_17_57, List.forall_mem_cons.mpr ⟨kLc_17_58, List.forall_mem_cons.mpr ⟨kLc_17_59, List.forall_mem_cons.mpr ⟨kLc_17_60, List.forall_mem_cons.mpr ⟨kLc_17_61, List.forall_mem_cons.mpr ⟨kLc_17_62, List.forall_mem_cons.mpr ⟨kLc_17_63, List.forall_mem_cons.mpr ⟨kLc_17_64, List.forall_mem_cons.mpr ⟨kLc_17_65, List.forall_mem_cons.mpr ⟨kLc_17_66, fun _ h => absurd h List.not_mem_nil⟩⟩⟩⟩⟩⟩⟩⟩⟩⟩⟩⟩⟩⟩⟩⟩⟩⟩⟩⟩⟩⟩⟩⟩⟩⟩⟩⟩⟩⟩⟩⟩⟩⟩⟩⟩⟩⟩⟩⟩⟩⟩⟩⟩⟩⟩⟩⟩⟩⟩⟩⟩⟩⟩⟩⟩⟩⟩⟩⟩⟩⟩⟩⟩⟩⟩⟩
theorem kl_18_9 : kLp "java/lang/StringLatin1" (9, 1, 312, 2, .null) := pm_lk1 (Or.inl kw_1156) kPn_312 kw_1157
theorem kLc_18_0 : ∀ q ∈ kLk_18_0, kLp "java/lang/StringLatin1" q := List.forall_mem_cons.mpr ⟨kl_18_9, fun _ h => absurd h List.not_mem_nil⟩
theorem kLc_18_1 : ∀ q ∈ kLk_18_1, kLp "java/lang/StringLatin1" q := fun _ h => absurd h List.not_mem_nil
theorem kl_18_38 : kLp "java/lang/StringLatin1" (38, 16, 0, 0, .null) := pm_lk16 kw_1158
theorem kLc_18_2 : ∀ q ∈ kLk_18_2, kLp "java/lang/StringLatin1" q := List.forall_mem_cons.mpr ⟨kl_18_38, fun _ h => absurd h List.not_mem_nil⟩
theorem kLc_18_3 : ∀ q ∈ kLk_18_3, kLp "java/lang/StringLatin1" q := fun _ h => absurd h List.not_mem_nil
theorem kLc_18_4 : ∀ q ∈ kLk_18_4, kLp "java/lang/StringLatin1" q := fun _ h => absurd h List.not_mem_nil
theorem kl_18_88 : kLp "java/lang/StringLatin1" (88, 1, 315, 1, .null) := pm_lk1 (Or.inl kw_1159) kPn_315 kw_1160
theorem kl_18_92 : kLp "java/lang/StringLatin1" (92, 15, 0, 0, .null) := pm_lk15 kw_1161
theorem kl_18_95 : kLp "java/lang/StringLatin1" (95, 1, 317, 4, .null) := pm_lk1 (Or.inl kw_1162) kPn_317 kw_1163
theorem kLc_18_5 : ∀ q ∈ kLk_18_5, kLp "java/lang/StringLatin1" q := List.forall_mem_cons.mpr ⟨kl_18_88, List.forall_mem_cons.mpr ⟨kl_18_92, List.forall_mem_cons.mpr ⟨kl_18_95, fun _ h => absurd h List.not_mem_nil⟩⟩⟩
theorem kLd_18 : ∀ c ∈ kLo_18, ∀ q ∈ c, kLp "java/lang/StringLatin1" q := List.forall_mem_cons.mpr ⟨kLc_18_0, List.forall_mem_cons.mpr ⟨kLc_18_1, List.forall_mem_cons.mpr ⟨kLc_18_2, List.forall_mem_cons.mpr ⟨kLc_18_3, List.forall_mem_cons.mpr ⟨kLc_18_4, List.forall_mem_cons.mpr ⟨kLc_18_5, fun _ h => absurd h List.not_mem_nil⟩⟩⟩⟩⟩⟩
theorem kLc_19_0 : ∀ q ∈ kLk_19_0, kLp "java/lang/StringUTF16" q := fun _ h => absurd h List.not_mem_nil
theorem kLc_19_1 : ∀ q ∈ kLk_19_1, kLp "java/lang/StringUTF16" q := fun _ h => absurd h List.not_mem_nil
theorem kLc_19_2 : ∀ q ∈ kLk_19_2, kLp "java/lang/StringUTF16" q := fun _ h => absurd h List.not_mem_nil
theorem kl_19_48 : kLp "java/lang/StringUTF16" (48, 1, 319, 1, .null) := pm_lk1 (Or.inl kw_1164) kPn_319 kw_1165
theorem kLc_19_3 : ∀ q ∈ kLk_19_3, kLp "java/lang/StringUTF16" q := List.forall_mem_cons.mpr ⟨kl_19_48, fun _ h => absurd h List.not_mem_nil⟩
theorem kl_19_67 : kLp "java/lang/StringUTF16" (67, 1, 325, 2, .null) := pm_lk1 (Or.inl kw_1166) kPn_325 kw_1167
theorem kl_19_71 : kLp "java/lang/StringUTF16" (71, 1, 318, 2, .null) := pm_lk1 (Or.inl kw_1168) kPn_318 kw_1169
theorem kLc_19_4 : ∀ q ∈ kLk_19_4, kLp "java/lang/StringUTF16" q := List.forall_mem_cons.mpr ⟨kl_19_67, List.forall_mem_cons.mpr ⟨kl_19_71, fun _ h => absurd h List.not_mem_nil⟩⟩
theorem kLc_19_5 : ∀ q ∈ kLk_19_5, kLp "java/lang/StringUTF16" q := fun _ h => absurd h List.not_mem_nil
theorem kl_19_96 : kLp "java/lang/StringUTF16" (96, 1, 326, 3, .null) := pm_lk1 (Or.inl kw_1170) kPn_326 kw_1171
theorem kLc_19_6 : ∀ q ∈ kLk_19_6, kLp "java/lang/StringUTF16" q := List.forall_mem_cons.mpr ⟨kl_19_96, fun _ h => absurd h List.not_mem_nil⟩
theorem kLc_19_7 : ∀ q ∈ kLk_19_7, kLp "java/lang/StringUTF16" q := fun _ h => absurd h List.not_mem_nil
theorem kLc_19_8 : ∀ q ∈ kLk_19_8, kLp "java/lang/StringUTF16" q := fun _ h => absurd h List.not_mem_nil
theorem kl_19_157 : kLp "java/lang/StringUTF16" (157, 1, 301, 1, .null) := pm_lk1 (Or.inl kw_1172) kPn_301 kw_1173
theorem kLc_19_9 : ∀ q ∈ kLk_19_9, kLp "java/lang/StringUTF16" q := List.forall_mem_cons.mpr ⟨kl_19_157, fun _ h => absurd h List.not_mem_nil⟩
theorem kl_19_161 : kLp "java/lang/StringUTF16" (161, 1, 302, 1, .null) := pm_lk1 (Or.inl kw_1174) kPn_302 kw_1175
theorem kl_19_164 : kLp "java/lang/StringUTF16" (164, 1, 300, 1, .null) := pm_lk1 (Or.inl kw_1176) kPn_300 kw_1177
theorem kLc_19_10 : ∀ q ∈ kLk_19_10, kLp "java/lang/StringUTF16" q := List.forall_mem_cons.mpr ⟨kl_19_161, List.forall_mem_cons.mpr ⟨kl_19_164, fun _ h => absurd h List.not_mem_nil⟩⟩
theorem kl_19_183 : kLp "java/lang/StringUTF16" (183, 16, 0, 0, .null) := pm_lk16 kw_1178
theorem kLc_19_11 : ∀ q ∈ kLk_19_11, kLp "java/lang/StringUTF16" q := List.forall_mem_cons.mpr ⟨kl_19_183, fun _ h => absurd h List.not_mem_nil⟩
theorem kLc_19_12 : ∀ q ∈ kLk_19_12, kLp "java/lang/StringUTF16" q := fun _ h => absurd h List.not_mem_nil
theorem kLc_19_13 : ∀ q ∈ kLk_19_13, kLp "java/lang/StringUTF16" q := fun _ h => absurd h List.not_mem_nil
theorem kl_19_224 : kLp "java/lang/StringUTF16" (224, 15, 0, 0, .null) := pm_lk15 kw_1179
theorem kl_19_227 : kLp "java/lang/StringUTF16" (227, 10, 0, 0, .int (65536)) := pm_lk10 kw_1180
theorem kl_19_228 : kLp "java/lang/StringUTF16" (228, 1, 321, 4, .null) := pm_lk1 (Or.inl kw_1181) kPn_321 kw_1182
theorem kl_19_232 : kLp "java/lang/StringUTF16" (232, 1, 323, 4, .null) := pm_lk1 (Or.inl kw_1183) kPn_323 kw_1184
theorem kLc_19_14 : ∀ q ∈ kLk_19_14, kLp "java/lang/StringUTF16" q := List.forall_mem_cons.mpr ⟨kl_19_224, List.forall_mem_cons.mpr ⟨kl_19_227, List.forall_mem_cons.mpr ⟨kl_19_228, List.forall_mem_cons.mpr ⟨kl_19_232, fun _ h => absurd h List.not_mem_nil⟩⟩⟩⟩
theorem kl_19_241 : kLp "java/lang/StringUTF16" (241, 1, 313, 3, .null) := pm_lk1 (Or.inl kw_1185) kPn_313 kw_1186
theorem kl_19_244 : kLp "java/lang/StringUTF16" (244, 1, 322, 4, .null) := pm_lk1 (Or.inl kw_1187) kPn_322 kw_1188
theorem kLc_19_15 : ∀ q ∈ kLk_19_15, kLp "java/lang/StringUTF16" q := List.forall_mem_cons.mpr ⟨kl_19_241, List.forall_mem_cons.mpr ⟨kl_19_244, fun _ h => absurd h List.not_mem_nil⟩⟩
theorem kLc_19_16 : ∀ q ∈ kLk_19_16, kLp "java/lang/StringUTF16" q := fun _ h => absurd h List.not_mem_nil
theorem kLc_19_17 : ∀ q ∈ kLk_19_17, kLp "java/lang/StringUTF16" q := fun _ h => absurd h List.not_mem_nil
theorem kLc_19_18 : ∀ q ∈ kLk_19_18, kLp "java/lang/StringUTF16" q := fun _ h => absurd h List.not_mem_nil
theorem kLc_19_19 : ∀ q ∈ kLk_19_19, kLp "java/lang/StringUTF16" q := fun _ h => absurd h List.not_mem_nil
theorem kLc_19_20 : ∀ q ∈ kLk_19_20, kLp "java/lang/StringUTF16" q := fun _ h => absurd h List.not_mem_nil
theorem kLc_19_21 : ∀ q ∈ kLk_19_21, kLp "java/lang/StringUTF16" q := fun _ h => absurd h List.not_mem_nil
theorem kLc_19_22 : ∀ q ∈ kLk_19_22, kLp "java/lang/StringUTF16" q := fun _ h => absurd h List.not_mem_nil
theorem kLc_19_23 : ∀ q ∈ kLk_19_23, kLp "java/lang/StringUTF16" q := fun _ h => absurd h List.not_mem_nil
theorem kLc_19_24 : ∀ q ∈ kLk_19_24, kLp "java/lang/StringUTF16" q := fun _ h => absurd h List.not_mem_nil
theorem kl_19_414 : kLp "java/lang/StringUTF16" (414, 1, 312, 2, .null) := pm_lk1 (Or.inl kw_1189) kPn_312 kw_1157
theorem kLc_19_25 : ∀ q ∈ kLk_19_25, kLp "java/lang/StringUTF16" q := List.forall_mem_cons.mpr ⟨kl_19_414, fun _ h => absurd h List.not_mem_nil⟩
theorem kLd_19 : ∀ c ∈ kLo_19, ∀ q ∈ c, kLp "java/lang/StringUTF16" q := List.forall_mem_cons.mpr ⟨kLc_19_0, List.forall_mem_cons.mpr ⟨kLc_19_1, List.forall_mem_cons.mpr ⟨kLc_19_2, List.forall_mem_cons.mpr ⟨kLc_19_3, List.forall_mem_cons.mpr ⟨kLc_19_4, List.forall_mem_cons.mpr ⟨kLc_19_5, List.forall_mem_cons.mpr ⟨kLc_19_6, List.forall_mem_cons.mpr ⟨kLc_19_7, List.forall_mem_cons.mpr ⟨kLc_19_8, List.forall_mem_cons.mpr ⟨kLc_19_9, List.forall_mem_cons.mpr ⟨kLc_19_10, List.forall_mem_cons.mpr ⟨kLc_19_11, List.forall_mem_cons.mpr ⟨kLc_19_12, List.forall_mem_cons.mpr ⟨kLc_19_13, List.forall_mem_cons.mpr ⟨kLc_19_14, List.forall_mem_cons.mpr ⟨kLc_19_15, List.forall_mem_cons.mpr ⟨kLc_19_16, List.forall_mem_cons.mpr ⟨kLc_19_17, List.forall_mem_cons.mpr ⟨kLc_19_18, List.forall_mem_cons.mpr ⟨kLc_19_19, List.forall_mem_cons.mpr ⟨kLc_19_20, List.forall_mem_cons.mpr ⟨kLc_19_21, List.forall_mem_cons.mpr ⟨kLc_19_22, List.forall_mem_cons.mpr ⟨kLc_19_23, List.forall_mem_cons.mpr ⟨kLc_19_24, List.forall_mem_cons.mpr ⟨kLc_19_25, fun _ h => absurd h List.not_mem_nil⟩⟩⟩⟩⟩⟩⟩⟩⟩⟩⟩⟩⟩⟩⟩⟩⟩⟩⟩⟩⟩⟩⟩⟩⟩⟩
theorem kLc_20_0 : ∀ q ∈ kLk_20_0, kLp "java/util/Arrays" q := fun _ h => absurd h List.not_mem_nil
theorem kLd_20 : ∀ c ∈ kLo_20, ∀ q ∈ c, kLp "java/util/Arrays" q := List.forall_mem_cons.mpr ⟨kLc_20_0, fun _ h => absurd h List.not_mem_nil⟩
theorem kLc_21_0 : ∀ q ∈ kLk_21_0, kLp "jdk/internal/util/Preconditions" q := fun _ h => absurd h List.not_mem_nil
theorem kLd_21 : ∀ c ∈ kLo_21, ∀ q ∈ c, kLp "jdk/internal/util/Preconditions" q := List.forall_mem_cons.mpr ⟨kLc_21_0, fun _ h => absurd h List.not_mem_nil⟩
theorem kl_22_8 : kLp "BonnetValleyLaw" (8, 9, 12, 15, .null) := pm_lk9 (T := kT_12) rfl kw_563
theorem kLc_22_0 : ∀ q ∈ kLk_22_0, kLp "BonnetValleyLaw" q := List.forall_mem_cons.mpr ⟨kl_22_8, fun _ h => absurd h List.not_mem_nil⟩
theorem kl_22_22 : kLp "BonnetValleyLaw" (22, 3, 121, 0, .null) := pm_lk3 (Or.inl kw_564) kPn_121 rfl kw_565 rfl
theorem kl_22_23 : kLp "BonnetValleyLaw" (23, 9, 13, 49, .null) := pm_lk9 (T := kT_13) rfl kw_566
theorem kl_22_25 : kLp "BonnetValleyLaw" (25, 3, 187, 0, .null) := pm_lk3 (Or.inl kw_567) kPn_187 rfl kw_568 rfl
theorem kl_22_26 : kLp "BonnetValleyLaw" (26, 2, 122, 1, .ref 12) := pm_lk2 (ci := 12) (T := kT_12) (N := 15) (Or.inl kw_569) kPn_122 kw_570 kw_571 rfl
theorem kl_22_30 : kLp "BonnetValleyLaw" (30, 2, 193, 1, .ref 13) := pm_lk2 (ci := 13) (T := kT_13) (N := 49) (Or.inl kw_572) kPn_193 kw_573 kw_574 rfl
theorem kl_22_31 : kLp "BonnetValleyLaw" (31, 2, 123, 1, .ref 12) := pm_lk2 (ci := 12) (T := kT_12) (N := 15) (Or.inl kw_575) kPn_123 kw_576 kw_577 rfl
theorem kLc_22_1 : ∀ q ∈ kLk_22_1, kLp "BonnetValleyLaw" q := List.forall_mem_cons.mpr ⟨kl_22_22, List.forall_mem_cons.mpr ⟨kl_22_23, List.forall_mem_cons.mpr ⟨kl_22_25, List.forall_mem_cons.mpr ⟨kl_22_26, List.forall_mem_cons.mpr ⟨kl_22_30, List.forall_mem_cons.mpr ⟨kl_22_31, fun _ h => absurd h List.not_mem_nil⟩⟩⟩⟩⟩⟩
theorem kl_22_35 : kLp "BonnetValleyLaw" (35, 2, 194, 1, .ref 13) := pm_lk2 (ci := 13) (T := kT_13) (N := 49) (Or.inl kw_578) kPn_194 kw_579 kw_580 rfl
theorem kl_22_36 : kLp "BonnetValleyLaw" (36, 2, 124, 0, .ref 12) := pm_lk2 (ci := 12) (T := kT_12) (N := 15) (Or.inl kw_581) kPn_124 kw_582 kw_583 rfl
theorem kl_22_40 : kLp "BonnetValleyLaw" (40, 2, 202, 0, .ref 13) := pm_lk2 (ci := 13) (T := kT_13) (N := 49) (Or.inl kw_584) kPn_202 kw_585 kw_586 rfl
theorem kl_22_41 : kLp "BonnetValleyLaw" (41, 2, 125, 0, .ref 12) := pm_lk2 (ci := 12) (T := kT_12) (N := 15) (Or.inl kw_587) kPn_125 kw_588 kw_589 rfl
theorem kl_22_44 : kLp "BonnetValleyLaw" (44, 2, 208, 0, .ref 13) := pm_lk2 (ci := 13) (T := kT_13) (N := 49) (Or.inl kw_590) kPn_208 kw_591 kw_592 rfl
theorem kl_22_45 : kLp "BonnetValleyLaw" (45, 2, 126, 0, .ref 12) := pm_lk2 (ci := 12) (T := kT_12) (N := 15) (Or.inl kw_593) kPn_126 kw_594 kw_595 rfl
theorem kLc_22_2 : ∀ q ∈ kLk_22_2, kLp "BonnetValleyLaw" q := List.forall_mem_cons.mpr ⟨kl_22_35, List.forall_mem_cons.mpr ⟨kl_22_36, List.forall_mem_cons.mpr ⟨kl_22_40, List.forall_mem_cons.mpr ⟨kl_22_41, List.forall_mem_cons.mpr ⟨kl_22_44, List.forall_mem_cons.mpr ⟨kl_22_45, fun _ h => absurd h List.not_mem_nil⟩⟩⟩⟩⟩⟩
theorem kl_22_48 : kLp "BonnetValleyLaw" (48, 2, 209, 0, .ref 13) := pm_lk2 (ci := 13) (T := kT_13) (N := 49) (Or.inl kw_596) kPn_209 kw_597 kw_598 rfl
theorem kl_22_49 : kLp "BonnetValleyLaw" (49, 2, 127, 0, .ref 12) := pm_lk2 (ci := 12) (T := kT_12) (N := 15) (Or.inl kw_599) kPn_127 kw_600 kw_601 rfl
theorem kl_22_52 : kLp "BonnetValleyLaw" (52, 2, 210, 0, .ref 13) := pm_lk2 (ci := 13) (T := kT_13) (N := 49) (Or.inl kw_602) kPn_210 kw_603 kw_604 rfl
theorem kl_22_53 : kLp "BonnetValleyLaw" (53, 2, 128, 0, .ref 12) := pm_lk2 (ci := 12) (T := kT_12) (N := 15) (Or.inl kw_605) kPn_128 kw_606 kw_607 rfl
theorem kl_22_56 : kLp "BonnetValleyLaw" (56, 2, 217, 0, .ref 13) := pm_lk2 (ci := 13) (T := kT_13) (N := 49) (Or.inl kw_608) kPn_217 kw_609 kw_610 rfl
theorem kl_22_62 : kLp "BonnetValleyLaw" (62, 2, 235, 2, .ref 13) := pm_lk2 (ci := 13) (T := kT_13) (N := 49) (Or.inl kw_611) kPn_235 kw_612 kw_613 rfl
theorem kLc_22_3 : ∀ q ∈ kLk_22_3, kLp "BonnetValleyLaw" q := List.forall_mem_cons.mpr ⟨kl_22_48, List.forall_mem_cons.mpr ⟨kl_22_49, List.forall_mem_cons.mpr ⟨kl_22_52, List.forall_mem_cons.mpr ⟨kl_22_53, List.forall_mem_cons.mpr ⟨kl_22_56, List.forall_mem_cons.mpr ⟨kl_22_62, fun _ h => absurd h List.not_mem_nil⟩⟩⟩⟩⟩⟩
theorem kl_22_65 : kLp "BonnetValleyLaw" (65, 2, 236, 2, .ref 13) := pm_lk2 (ci := 13) (T := kT_13) (N := 49) (Or.inl kw_614) kPn_236 kw_615 kw_616 rfl
theorem kl_22_66 : kLp "BonnetValleyLaw" (66, 2, 131, 4, .ref 12) := pm_lk2 (ci := 12) (T := kT_12) (N := 15) (Or.inl kw_617) kPn_131 kw_618 kw_619 rfl
theorem kl_22_70 : kLp "BonnetValleyLaw" (70, 2, 237, 4, .ref 13) := pm_lk2 (ci := 13) (T := kT_13) (N := 49) (Or.inl kw_620) kPn_237 kw_621 kw_622 rfl
theorem kl_22_71 : kLp "BonnetValleyLaw" (71, 2, 133, 1, .ref 12) := pm_lk2 (ci := 12) (T := kT_12) (N := 15) (Or.inl kw_623) kPn_133 kw_624 kw_625 rfl
theorem kl_22_74 : kLp "BonnetValleyLaw" (74, 2, 248, 1, .ref 13) := pm_lk2 (ci := 13) (T := kT_13) (N := 49) (Or.inl kw_626) kPn_248 kw_627 kw_628 rfl
theorem kl_22_75 : kLp "BonnetValleyLaw" (75, 2, 134, 2, .ref 12) := pm_lk2 (ci := 12) (T := kT_12) (N := 15) (Or.inl kw_629) kPn_134 kw_630 kw_631 rfl
theorem kl_22_78 : kLp "BonnetValleyLaw" (78, 2, 249, 2, .ref 13) := pm_lk2 (ci := 13) (T := kT_13) (N := 49) (Or.inl kw_632) kPn_249 kw_633 kw_634 rfl
theorem kl_22_79 : kLp "BonnetValleyLaw" (79, 2, 135, 2, .ref 12) := pm_lk2 (ci := 12) (T := kT_12) (N := 15) (Or.inl kw_635) kPn_135 kw_636 kw_637 rfl
theorem kLc_22_4 : ∀ q ∈ kLk_22_4, kLp "BonnetValleyLaw" q := List.forall_mem_cons.mpr ⟨kl_22_65, List.forall_mem_cons.mpr ⟨kl_22_66, List.forall_mem_cons.mpr ⟨kl_22_70, List.forall_mem_cons.mpr ⟨kl_22_71, List.forall_mem_cons.mpr ⟨kl_22_74, List.forall_mem_cons.mpr ⟨kl_22_75, List.forall_mem_cons.mpr ⟨kl_22_78, List.forall_mem_cons.mpr ⟨kl_22_79, fun _ h => absurd h List.not_mem_nil⟩⟩⟩⟩⟩⟩⟩⟩
theorem kl_22_82 : kLp "BonnetValleyLaw" (82, 2, 250, 2, .ref 13) := pm_lk2 (ci := 13) (T := kT_13) (N := 49) (Or.inl kw_638) kPn_250 kw_639 kw_640 rfl
theorem kl_22_83 : kLp "BonnetValleyLaw" (83, 2, 136, 2, .ref 12) := pm_lk2 (ci := 12) (T := kT_12) (N := 15) (Or.inl kw_641) kPn_136 kw_642 kw_643 rfl
theorem kl_22_86 : kLp "BonnetValleyLaw" (86, 2, 251, 2, .ref 13) := pm_lk2 (ci := 13) (T := kT_13) (N := 49) (Or.inl kw_644) kPn_251 kw_645 kw_646 rfl
theorem kl_22_87 : kLp "BonnetValleyLaw" (87, 2, 137, 2, .ref 12) := pm_lk2 (ci := 12) (T := kT_12) (N := 15) (Or.inl kw_647) kPn_137 kw_648 kw_649 rfl
theorem kl_22_90 : kLp "BonnetValleyLaw" (90, 2, 252, 2, .ref 13) := pm_lk2 (ci := 13) (T := kT_13) (N := 49) (Or.inl kw_650) kPn_252 kw_651 kw_652 rfl
theorem kl_22_91 : kLp "BonnetValleyLaw" (91, 2, 138, 0, .ref 12) := pm_lk2 (ci := 12) (T := kT_12) (N := 15) (Or.inl kw_653) kPn_138 kw_654 kw_655 rfl
theorem kl_22_94 : kLp "BonnetValleyLaw" (94, 2, 255, 0, .ref 13) := pm_lk2 (ci := 13) (T := kT_13) (N := 49) (Or.inl kw_656) kPn_255 kw_657 kw_658 rfl
theorem kl_22_95 : kLp "BonnetValleyLaw" (95, 2, 139, 0, .ref 12) := pm_lk2 (ci := 12) (T := kT_12) (N := 15) (Or.inl kw_659) kPn_139 kw_660 kw_661 rfl
theorem kLc_22_5 : ∀ q ∈ kLk_22_5, kLp "BonnetValleyLaw" q := List.forall_mem_cons.mpr ⟨kl_22_82, List.forall_mem_cons.mpr ⟨kl_22_83, List.forall_mem_cons.mpr ⟨kl_22_86, List.forall_mem_cons.mpr ⟨kl_22_87, List.forall_mem_cons.mpr ⟨kl_22_90, List.forall_mem_cons.mpr ⟨kl_22_91, List.forall_mem_cons.mpr ⟨kl_22_94, List.forall_mem_cons.mpr ⟨kl_22_95, fun _ h => absurd h List.not_mem_nil⟩⟩⟩⟩⟩⟩⟩⟩
theorem kl_22_98 : kLp "BonnetValleyLaw" (98, 2, 241, 0, .ref 13) := pm_lk2 (ci := 13) (T := kT_13) (N := 49) (Or.inl kw_662) kPn_241 kw_663 kw_664 rfl
theorem kl_22_99 : kLp "BonnetValleyLaw" (99, 2, 147, 1, .ref 12) := pm_lk2 (ci := 12) (T := kT_12) (N := 15) (Or.inl kw_665) kPn_147 kw_666 kw_667 rfl
theorem kl_22_102 : kLp "BonnetValleyLaw" (102, 2, 257, 1, .ref 13) := pm_lk2 (ci := 13) (T := kT_13) (N := 49) (Or.inl kw_668) kPn_257 kw_669 kw_670 rfl
theorem kl_22_103 : kLp "BonnetValleyLaw" (103, 2, 148, 1, .ref 12) := pm_lk2 (ci := 12) (T := kT_12) (N := 15) (Or.inl kw_671) kPn_148 kw_672 kw_673 rfl
theorem kl_22_106 : kLp "BonnetValleyLaw" (106, 2, 258, 1, .ref 13) := pm_lk2 (ci := 13) (T := kT_13) (N := 49) (Or.inl kw_674) kPn_258 kw_675 kw_676 rfl
theorem kl_22_107 : kLp "BonnetValleyLaw" (107, 2, 149, 0, .ref 12) := pm_lk2 (ci := 12) (T := kT_12) (N := 15) (Or.inl kw_677) kPn_149 kw_678 kw_679 rfl
theorem kl_22_111 : kLp "BonnetValleyLaw" (111, 2, 260, 0, .ref 13) := pm_lk2 (ci := 13) (T := kT_13) (N := 49) (Or.inl kw_680) kPn_260 kw_681 kw_682 rfl
theorem kLc_22_6 : ∀ q ∈ kLk_22_6, kLp "BonnetValleyLaw" q := List.forall_mem_cons.mpr ⟨kl_22_98, List.forall_mem_cons.mpr ⟨kl_22_99, List.forall_mem_cons.mpr ⟨kl_22_102, List.forall_mem_cons.mpr ⟨kl_22_103, List.forall_mem_cons.mpr ⟨kl_22_106, List.forall_mem_cons.mpr ⟨kl_22_107, List.forall_mem_cons.mpr ⟨kl_22_111, fun _ h => absurd h List.not_mem_nil⟩⟩⟩⟩⟩⟩⟩
theorem kl_22_112 : kLp "BonnetValleyLaw" (112, 2, 150, 0, .ref 12) := pm_lk2 (ci := 12) (T := kT_12) (N := 15) (Or.inl kw_683) kPn_150 kw_684 kw_685 rfl
theorem kl_22_115 : kLp "BonnetValleyLaw" (115, 2, 261, 0, .ref 13) := pm_lk2 (ci := 13) (T := kT_13) (N := 49) (Or.inl kw_686) kPn_261 kw_687 kw_688 rfl
theorem kl_22_116 : kLp "BonnetValleyLaw" (116, 2, 151, 1, .ref 12) := pm_lk2 (ci := 12) (T := kT_12) (N := 15) (Or.inl kw_689) kPn_151 kw_690 kw_691 rfl
theorem kl_22_119 : kLp "BonnetValleyLaw" (119, 2, 262, 1, .ref 13) := pm_lk2 (ci := 13) (T := kT_13) (N := 49) (Or.inl kw_692) kPn_262 kw_693 kw_694 rfl
theorem kl_22_120 : kLp "BonnetValleyLaw" (120, 2, 152, 0, .ref 12) := pm_lk2 (ci := 12) (T := kT_12) (N := 15) (Or.inl kw_695) kPn_152 kw_696 kw_697 rfl
theorem kl_22_123 : kLp "BonnetValleyLaw" (123, 2, 263, 0, .ref 13) := pm_lk2 (ci := 13) (T := kT_13) (N := 49) (Or.inl kw_698) kPn_263 kw_699 kw_700 rfl
theorem kl_22_124 : kLp "BonnetValleyLaw" (124, 2, 153, 0, .ref 12) := pm_lk2 (ci := 12) (T := kT_12) (N := 15) (Or.inl kw_701) kPn_153 kw_702 kw_703 rfl
theorem kl_22_127 : kLp "BonnetValleyLaw" (127, 2, 265, 0, .ref 13) := pm_lk2 (ci := 13) (T := kT_13) (N := 49) (Or.inl kw_704) kPn_265 kw_705 kw_706 rfl
theorem kLc_22_7 : ∀ q ∈ kLk_22_7, kLp "BonnetValleyLaw" q := List.forall_mem_cons.mpr ⟨kl_22_112, List.forall_mem_cons.mpr ⟨kl_22_115, List.forall_mem_cons.mpr ⟨kl_22_116, List.forall_mem_cons.mpr ⟨kl_22_119, List.forall_mem_cons.mpr ⟨kl_22_120, List.forall_mem_cons.mpr ⟨kl_22_123, List.forall_mem_cons.mpr ⟨kl_22_124, List.forall_mem_cons.mpr ⟨kl_22_127, fun _ h => absurd h List.not_mem_nil⟩⟩⟩⟩⟩⟩⟩⟩
theorem kl_22_128 : kLp "BonnetValleyLaw" (128, 2, 154, 2, .ref 12) := pm_lk2 (ci := 12) (T := kT_12) (N := 15) (Or.inl kw_707) kPn_154 kw_708 kw_709 rfl
theorem kl_22_131 : kLp "BonnetValleyLaw" (131, 2, 266, 2, .ref 13) := pm_lk2 (ci := 13) (T := kT_13) (N := 49) (Or.inl kw_710) kPn_266 kw_711 kw_712 rfl
theorem kl_22_132 : kLp "BonnetValleyLaw" (132, 2, 155, 0, .ref 12) := pm_lk2 (ci := 12) (T := kT_12) (N := 15) (Or.inl kw_713) kPn_155 kw_714 kw_715 rfl
theorem kl_22_135 : kLp "BonnetValleyLaw" (135, 2, 268, 0, .ref 13) := pm_lk2 (ci := 13) (T := kT_13) (N := 49) (Or.inl kw_716) kPn_268 kw_717 kw_718 rfl
theorem kl_22_136 : kLp "BonnetValleyLaw" (136, 2, 156, 1, .ref 12) := pm_lk2 (ci := 12) (T := kT_12) (N := 15) (Or.inl kw_719) kPn_156 kw_720 kw_721 rfl
theorem kl_22_139 : kLp "BonnetValleyLaw" (139, 2, 269, 1, .ref 13) := pm_lk2 (ci := 13) (T := kT_13) (N := 49) (Or.inl kw_722) kPn_269 kw_723 kw_724 rfl
theorem kl_22_140 : kLp "BonnetValleyLaw" (140, 2, 157, 1, .ref 12) := pm_lk2 (ci := 12) (T := kT_12) (N := 15) (Or.inl kw_725) kPn_157 kw_726 kw_727 rfl
theorem kl_22_143 : kLp "BonnetValleyLaw" (143, 2, 270, 1, .ref 13) := pm_lk2 (ci := 13) (T := kT_13) (N := 49) (Or.inl kw_728) kPn_270 kw_729 kw_730 rfl
theorem kLc_22_8 : ∀ q ∈ kLk_22_8, kLp "BonnetValleyLaw" q := List.forall_mem_cons.mpr ⟨kl_22_128, List.forall_mem_cons.mpr ⟨kl_22_131, List.forall_mem_cons.mpr ⟨kl_22_132, List.forall_mem_cons.mpr ⟨kl_22_135, List.forall_mem_cons.mpr ⟨kl_22_136, List.forall_mem_cons.mpr ⟨kl_22_139, List.forall_mem_cons.mpr ⟨kl_22_140, List.forall_mem_cons.mpr ⟨kl_22_143, fun _ h => absurd h List.not_mem_nil⟩⟩⟩⟩⟩⟩⟩⟩
theorem kl_22_144 : kLp "BonnetValleyLaw" (144, 2, 158, 2, .ref 12) := pm_lk2 (ci := 12) (T := kT_12) (N := 15) (Or.inl kw_731) kPn_158 kw_732 kw_733 rfl
theorem kl_22_147 : kLp "BonnetValleyLaw" (147, 2, 272, 2, .ref 13) := pm_lk2 (ci := 13) (T := kT_13) (N := 49) (Or.inl kw_734) kPn_272 kw_735 kw_736 rfl
theorem kl_22_148 : kLp "BonnetValleyLaw" (148, 2, 159, 0, .ref 12) := pm_lk2 (ci := 12) (T := kT_12) (N := 15) (Or.inl kw_737) kPn_159 kw_738 kw_739 rfl
theorem kl_22_151 : kLp "BonnetValleyLaw" (151, 2, 276, 0, .ref 13) := pm_lk2 (ci := 13) (T := kT_13) (N := 49) (Or.inl kw_740) kPn_276 kw_741 kw_742 rfl
theorem kl_22_152 : kLp "BonnetValleyLaw" (152, 2, 160, 1, .ref 12) := pm_lk2 (ci := 12) (T := kT_12) (N := 15) (Or.inl kw_743) kPn_160 kw_744 kw_745 rfl
theorem kl_22_155 : kLp "BonnetValleyLaw" (155, 2, 277, 1, .ref 13) := pm_lk2 (ci := 13) (T := kT_13) (N := 49) (Or.inl kw_746) kPn_277 kw_747 kw_748 rfl
theorem kl_22_156 : kLp "BonnetValleyLaw" (156, 2, 161, 2, .ref 12) := pm_lk2 (ci := 12) (T := kT_12) (N := 15) (Or.inl kw_749) kPn_161 kw_750 kw_751 rfl
theorem kl_22_159 : kLp "BonnetValleyLaw" (159, 2, 278, 2, .ref 13) := pm_lk2 (ci := 13) (T := kT_13) (N := 49) (Or.inl kw_752) kPn_278 kw_753 kw_754 rfl
theorem kLc_22_9 : ∀ q ∈ kLk_22_9, kLp "BonnetValleyLaw" q := List.forall_mem_cons.mpr ⟨kl_22_144, List.forall_mem_cons.mpr ⟨kl_22_147, List.forall_mem_cons.mpr ⟨kl_22_148, List.forall_mem_cons.mpr ⟨kl_22_151, List.forall_mem_cons.mpr ⟨kl_22_152, List.forall_mem_cons.mpr ⟨kl_22_155, List.forall_mem_cons.mpr ⟨kl_22_156, List.forall_mem_cons.mpr ⟨kl_22_159, fun _ h => absurd h List.not_mem_nil⟩⟩⟩⟩⟩⟩⟩⟩
theorem kl_22_160 : kLp "BonnetValleyLaw" (160, 2, 164, 2, .ref 12) := pm_lk2 (ci := 12) (T := kT_12) (N := 15) (Or.inl kw_755) kPn_164 kw_756 kw_757 rfl
theorem kl_22_163 : kLp "BonnetValleyLaw" (163, 2, 281, 2, .ref 13) := pm_lk2 (ci := 13) (T := kT_13) (N := 49) (Or.inl kw_758) kPn_281 kw_759 kw_760 rfl
theorem kl_22_164 : kLp "BonnetValleyLaw" (164, 2, 165, 2, .ref 12) := pm_lk2 (ci := 12) (T := kT_12) (N := 15) (Or.inl kw_761) kPn_165 kw_762 kw_763 rfl
theorem kl_22_167 : kLp "BonnetValleyLaw" (167, 2, 282, 2, .ref 13) := pm_lk2 (ci := 13) (T := kT_13) (N := 49) (Or.inl kw_764) kPn_282 kw_765 kw_766 rfl
theorem kl_22_168 : kLp "BonnetValleyLaw" (168, 2, 166, 2, .ref 12) := pm_lk2 (ci := 12) (T := kT_12) (N := 15) (Or.inl kw_767) kPn_166 kw_768 kw_769 rfl
theorem kl_22_171 : kLp "BonnetValleyLaw" (171, 2, 283, 2, .ref 13) := pm_lk2 (ci := 13) (T := kT_13) (N := 49) (Or.inl kw_770) kPn_283 kw_771 kw_772 rfl
theorem kl_22_172 : kLp "BonnetValleyLaw" (172, 2, 167, 0, .ref 12) := pm_lk2 (ci := 12) (T := kT_12) (N := 15) (Or.inl kw_773) kPn_167 kw_774 kw_775 rfl
theorem kl_22_175 : kLp "BonnetValleyLaw" (175, 2, 284, 0, .ref 13) := pm_lk2 (ci := 13) (T := kT_13) (N := 49) (Or.inl kw_776) kPn_284 kw_777 kw_778 rfl
theorem kLc_22_10 : ∀ q ∈ kLk_22_10, kLp "BonnetValleyLaw" q := List.forall_mem_cons.mpr ⟨kl_22_160, List.forall_mem_cons.mpr ⟨kl_22_163, List.forall_mem_cons.mpr ⟨kl_22_164, List.forall_mem_cons.mpr ⟨kl_22_167, List.forall_mem_cons.mpr ⟨kl_22_168, List.forall_mem_cons.mpr ⟨kl_22_171, List.forall_mem_cons.mpr ⟨kl_22_172, List.forall_mem_cons.mpr ⟨kl_22_175, fun _ h => absurd h List.not_mem_nil⟩⟩⟩⟩⟩⟩⟩⟩
theorem kl_22_176 : kLp "BonnetValleyLaw" (176, 2, 168, 0, .ref 12) := pm_lk2 (ci := 12) (T := kT_12) (N := 15) (Or.inl kw_779) kPn_168 kw_780 kw_781 rfl
theorem kl_22_179 : kLp "BonnetValleyLaw" (179, 2, 286, 0, .ref 13) := pm_lk2 (ci := 13) (T := kT_13) (N := 49) (Or.inl kw_782) kPn_286 kw_783 kw_784 rfl
theorem kl_22_180 : kLp "BonnetValleyLaw" (180, 2, 169, 0, .ref 12) := pm_lk2 (ci := 12) (T := kT_12) (N := 15) (Or.inl kw_785) kPn_169 kw_786 kw_787 rfl
theorem kl_22_183 : kLp "BonnetValleyLaw" (183, 2, 287, 0, .ref 13) := pm_lk2 (ci := 13) (T := kT_13) (N := 49) (Or.inl kw_788) kPn_287 kw_789 kw_790 rfl
theorem kl_22_184 : kLp "BonnetValleyLaw" (184, 2, 171, 3, .ref 12) := pm_lk2 (ci := 12) (T := kT_12) (N := 15) (Or.inl kw_791) kPn_171 kw_792 kw_793 rfl
theorem kl_22_188 : kLp "BonnetValleyLaw" (188, 2, 288, 3, .ref 13) := pm_lk2 (ci := 13) (T := kT_13) (N := 49) (Or.inl kw_794) kPn_288 kw_795 kw_796 rfl
theorem kl_22_189 : kLp "BonnetValleyLaw" (189, 2, 172, 2, .ref 12) := pm_lk2 (ci := 12) (T := kT_12) (N := 15) (Or.inl kw_797) kPn_172 kw_798 kw_799 rfl
theorem kLc_22_11 : ∀ q ∈ kLk_22_11, kLp "BonnetValleyLaw" q := List.forall_mem_cons.mpr ⟨kl_22_176, List.forall_mem_cons.mpr ⟨kl_22_179, List.forall_mem_cons.mpr ⟨kl_22_180, List.forall_mem_cons.mpr ⟨kl_22_183, List.forall_mem_cons.mpr ⟨kl_22_184, List.forall_mem_cons.mpr ⟨kl_22_188, List.forall_mem_cons.mpr ⟨kl_22_189, fun _ h => absurd h List.not_mem_nil⟩⟩⟩⟩⟩⟩⟩
theorem kl_22_192 : kLp "BonnetValleyLaw" (192, 2, 289, 2, .ref 13) := pm_lk2 (ci := 13) (T := kT_13) (N := 49) (Or.inl kw_800) kPn_289 kw_801 kw_802 rfl
theorem kl_22_193 : kLp "BonnetValleyLaw" (193, 2, 173, 0, .ref 12) := pm_lk2 (ci := 12) (T := kT_12) (N := 15) (Or.inl kw_803) kPn_173 kw_804 kw_805 rfl
theorem kl_22_196 : kLp "BonnetValleyLaw" (196, 2, 290, 0, .ref 13) := pm_lk2 (ci := 13) (T := kT_13) (N := 49) (Or.inl kw_806) kPn_290 kw_807 kw_808 rfl
theorem kl_22_197 : kLp "BonnetValleyLaw" (197, 2, 174, 1, .ref 12) := pm_lk2 (ci := 12) (T := kT_12) (N := 15) (Or.inl kw_809) kPn_174 kw_810 kw_811 rfl
theorem kl_22_200 : kLp "BonnetValleyLaw" (200, 2, 293, 1, .ref 13) := pm_lk2 (ci := 13) (T := kT_13) (N := 49) (Or.inl kw_812) kPn_293 kw_813 kw_814 rfl
theorem kl_22_201 : kLp "BonnetValleyLaw" (201, 2, 175, 2, .ref 12) := pm_lk2 (ci := 12) (T := kT_12) (N := 15) (Or.inl kw_815) kPn_175 kw_816 kw_817 rfl
theorem kl_22_204 : kLp "BonnetValleyLaw" (204, 2, 295, 2, .ref 13) := pm_lk2 (ci := 13) (T := kT_13) (N := 49) (Or.inl kw_818) kPn_295 kw_819 kw_820 rfl
theorem kl_22_205 : kLp "BonnetValleyLaw" (205, 2, 177, 1, .ref 12) := pm_lk2 (ci := 12) (T := kT_12) (N := 15) (Or.inl kw_821) kPn_177 kw_822 kw_823 rfl
theorem kLc_22_12 : ∀ q ∈ kLk_22_12, kLp "BonnetValleyLaw" q := List.forall_mem_cons.mpr ⟨kl_22_192, List.forall_mem_cons.mpr ⟨kl_22_193, List.forall_mem_cons.mpr ⟨kl_22_196, List.forall_mem_cons.mpr ⟨kl_22_197, List.forall_mem_cons.mpr ⟨kl_22_200, List.forall_mem_cons.mpr ⟨kl_22_201, List.forall_mem_cons.mpr ⟨kl_22_204, List.forall_mem_cons.mpr ⟨kl_22_205, fun _ h => absurd h List.not_mem_nil⟩⟩⟩⟩⟩⟩⟩⟩
theorem kl_22_208 : kLp "BonnetValleyLaw" (208, 2, 296, 1, .ref 13) := pm_lk2 (ci := 13) (T := kT_13) (N := 49) (Or.inl kw_824) kPn_296 kw_825 kw_826 rfl
theorem kl_22_209 : kLp "BonnetValleyLaw" (209, 2, 178, 1, .ref 12) := pm_lk2 (ci := 12) (T := kT_12) (N := 15) (Or.inl kw_827) kPn_178 kw_828 kw_829 rfl
theorem kl_22_212 : kLp "BonnetValleyLaw" (212, 2, 297, 1, .ref 13) := pm_lk2 (ci := 13) (T := kT_13) (N := 49) (Or.inl kw_830) kPn_297 kw_831 kw_832 rfl
theorem kl_22_213 : kLp "BonnetValleyLaw" (213, 2, 179, 1, .ref 12) := pm_lk2 (ci := 12) (T := kT_12) (N := 15) (Or.inl kw_833) kPn_179 kw_834 kw_835 rfl
theorem kl_22_216 : kLp "BonnetValleyLaw" (216, 2, 298, 1, .ref 13) := pm_lk2 (ci := 13) (T := kT_13) (N := 49) (Or.inl kw_836) kPn_298 kw_837 kw_838 rfl
theorem kl_22_220 : kLp "BonnetValleyLaw" (220, 2, 299, 1, .ref 13) := pm_lk2 (ci := 13) (T := kT_13) (N := 49) (Or.inl kw_839) kPn_299 kw_840 kw_841 rfl
theorem kLc_22_13 : ∀ q ∈ kLk_22_13, kLp "BonnetValleyLaw" q := List.forall_mem_cons.mpr ⟨kl_22_208, List.forall_mem_cons.mpr ⟨kl_22_209, List.forall_mem_cons.mpr ⟨kl_22_212, List.forall_mem_cons.mpr ⟨kl_22_213, List.forall_mem_cons.mpr ⟨kl_22_216, List.forall_mem_cons.mpr ⟨kl_22_220, fun _ h => absurd h List.not_mem_nil⟩⟩⟩⟩⟩⟩
theorem kLd_22 : ∀ c ∈ kLo_22, ∀ q ∈ c, kLp "BonnetValleyLaw" q := List.forall_mem_cons.mpr ⟨kLc_22_0, List.forall_mem_cons.mpr ⟨kLc_22_1, List.forall_mem_cons.mpr ⟨kLc_22_2, List.forall_mem_cons.mpr ⟨kLc_22_3, List.forall_mem_cons.mpr ⟨kLc_22_4, List.forall_mem_cons.mpr ⟨kLc_22_5, List.forall_mem_cons.mpr ⟨kLc_22_6, List.forall_mem_cons.mpr ⟨kLc_22_7, List.forall_mem_cons.mpr ⟨kLc_22_8, List.forall_mem_cons.mpr ⟨kLc_22_9, List.forall_mem_cons.mpr ⟨kLc_22_10, List.forall_mem_cons.mpr ⟨kLc_22_11, List.forall_mem_cons.mpr ⟨kLc_22_12, List.forall_mem_cons.mpr ⟨kLc_22_13, fun _ h => absurd h List.not_mem_nil⟩⟩⟩⟩⟩⟩⟩⟩⟩⟩⟩⟩⟩⟩
theorem kLall : ∀ o ∈ klks, ∀ c ∈ o.2, ∀ q ∈ c, kLp o.1 q := List.forall_mem_cons.mpr ⟨kLd_0, List.forall_mem_cons.mpr ⟨kLd_1, List.forall_mem_cons.mpr ⟨kLd_2, List.forall_mem_cons.mpr ⟨kLd_3, List.forall_mem_cons.mpr ⟨kLd_4, List.forall_mem_cons.mpr ⟨kLd_5, List.forall_mem_cons.mpr ⟨kLd_6, List.forall_mem_cons.mpr ⟨kLd_7, List.forall_mem_cons.mpr ⟨kLd_8, List.forall_mem_cons.mpr ⟨kLd_9, List.forall_mem_cons.mpr ⟨kLd_10, List.forall_mem_cons.mpr ⟨kLd_11, List.forall_mem_cons.mpr ⟨kLd_12, List.forall_mem_cons.mpr ⟨kLd_13, List.forall_mem_cons.mpr ⟨kLd_14, List.forall_mem_cons.mpr ⟨kLd_15, List.forall_mem_cons.mpr ⟨kLd_16, List.forall_mem_cons.mpr ⟨kLd_17, List.forall_mem_cons.mpr ⟨kLd_18, List.forall_mem_cons.mpr ⟨kLd_19, List.forall_mem_cons.mpr ⟨kLd_20, List.forall_mem_cons.mpr ⟨kLd_21, List.forall_mem_cons.mpr ⟨kLd_22, fun _ h => absurd h List.not_mem_nil⟩⟩⟩⟩⟩⟩⟩⟩⟩⟩⟩⟩⟩⟩⟩⟩⟩⟩⟩⟩⟩⟩⟩
