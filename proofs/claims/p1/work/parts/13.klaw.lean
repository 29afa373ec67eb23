/-! THE CLAIM OUT OF ONE WALK OF THE LAW'S BODY. Your part is whole_start (and what it stands on); all else here is the same for every law, but numbers. -/
def R_law : String := "BonnetValleyLaw"
def lw_P (b : Addr) (xs : List Int32) (args : Array Value) (s : State) : Prop := args = #[.ref b] ∧ s.IntsAt b xs ∧ xs.length ≤ 5 ∧ (Jvm.Cond.and given_1 narrow_1).before args s = true
def lw_Q (_ : Array Value) (s : State) (o : Outcome) (t : State) : Prop := o = .returned (some (.int 1)) ∧ Framed s o t [] 600002 7302232
def lw_Z (below : List Frame) (a : Array Value) (s : State) : State → Prop := fun t => ∃ o, t.status = .running ∧ Ended t below o ∧ lw_Q a s o t
/-- the law's own end, with 1 on the stack, nothing written that was there before, its room as the claim has it -/
theorem lw_ret {p : Program} {l : Launch} {e : Env} {s : State} {m : MethodId} {below : List Frame} {meth : Method} {c : Code} {b : Nat} (hx : p.tables.exec = Jvm.exec) (hb : c.code = code) (hr : meth.sig.returnType = ret) (hlocks : meth.locks = false) {pc : Nat} {H : Heap} {ls : Array Slot} (hdg : decode code pc = .ok (.ireturn, 1)) : W p l e room_1 s m #[Value.ref b] below meth c H [] 600002 7302232 (lw_Z below #[Value.ref b] s) (F0 m pc ls [.int 1]) := by
  intro T hT X
  obtain ⟨fs, hret, hrun, hended, hW, hframe⟩ := X.leave (v := some (.int 1)) (hlocks := hlocks) (fun h => by rw [hr] at h; cases h)
  have hmeth' : T.vm.method? m = some meth := X.method'
  refine ⟨T.setFrames fs, ?_, .returned (some (.int 1)), hrun, hended, rfl, ⟨_, rfl⟩, hW, hframe⟩
  jvm_step X.here [X.here.top, hx, hb, hdg, hmeth', hr, ret, narrow_b1]
  (try refine ⟨rfl, ?_⟩); (try refine ⟨rfl, ?_⟩)
  first | (intro acts; rw [hret _ acts rfl rfl rfl]) | rw [hret _ _ rfl rfl rfl]
  exact Steps.refl _
/-- what holds at the law's entry: the machine, the code, the tables' words (any of lw_tbl by 'hts w (by decide +kernel)'), the script of L ints xs at the cell b, what the Statement gives of the start (any of its parts by flat_of_before) -/
def lw_At (p : Program) (s : State) (m : MethodId) (meth : Method) (c : Code) (b L : Nat) (xs : Nat → Int32) : Prop :=
  p.tables.exec = Jvm.exec ∧ c.code = code ∧ meth.sig.returnType = ret ∧ c.maxLocals = 8 ∧ s.vm.findClass R_law = some m.cls ∧ (∀ w ∈ lw_tbl, w.before #[Value.ref b] s = true) ∧ va_X b L xs s s.heap ∧ b < s.heap.size ∧ meth.locks = false ∧ (Jvm.Cond.and given_1 narrow_1).before #[Value.ref b] s = true
/-! The law's own frame: its code, its links; its callees by kK; the script is the fixed cell 5 -/
def pm_npf (ins : Instr) : Bool := match ins with
  | .putfield _ => false
  | _ => true
def kcL_0 : List (Nat × Nat × Instr × Nat) := [(0, 5, .new 8, 0), (3, 0, .dup, 0), (4, 6, .invokespecial 22, 0), (7, 3, .astore_n kF1, 0), (8, 5, .new 23, 0), (11, 0, .dup, 0), (12, 6, .invokespecial 25, 0), (15, 3, .astore_n kF2, 0)]
def kcL_1 : List (Nat × Nat × Instr × Nat) := [(16, 0, .iconst 1, 0), (17, 5, .newarray .long, 0), (19, 3, .astore_n kF3, 0), (20, 0, .iconst 0, 0), (21, 3, .istore 4, 0), (23, 2, .iload 4, 0), (25, 2, .aload_n kF0, 0), (26, 5, .arraylength, 0), (27, 0, .iconst 5, 0), (28, 0, .isub, 0), (29, 4, .if_icmp .gt 1511, 1540)]
def kcL_2 : List (Nat × Nat × Instr × Nat) := [(32, 2, .aload_n kF0, 0), (33, 2, .iload 4, 0), (35, 5, .iaload, 0), (36, 1, .bipush 63, 0), (38, 0, .iand, 0), (39, 4, .tableswitch 1495 0 46 #[201, 226, 251, 264, 277, 290, 303, 316, 384, 452, 513, 538, 575, 612, 649, 686, 699, 712, 738, 763, 777, 790, 815, 828, 841, 878, 891, 916, 941, 978, 991, 1016, 1053, 1090, 1127, 1164, 1177, 1191, 1204, 1253, 1290, 1303, 1328, 1365, 1390, 1415, 1440], 201)]
def kcL_3 : List (Nat × Nat × Instr × Nat) := []
def kcL_4 : List (Nat × Nat × Instr × Nat) := []
def kcL_5 : List (Nat × Nat × Instr × Nat) := []
def kcL_6 : List (Nat × Nat × Instr × Nat) := []
def kcL_7 : List (Nat × Nat × Instr × Nat) := []
def kcL_8 : List (Nat × Nat × Instr × Nat) := []
def kcL_9 : List (Nat × Nat × Instr × Nat) := []
def kcL_10 : List (Nat × Nat × Instr × Nat) := []
def kcL_11 : List (Nat × Nat × Instr × Nat) := []
def kcL_12 : List (Nat × Nat × Instr × Nat) := []
def kcL_13 : List (Nat × Nat × Instr × Nat) := []
def kcL_14 : List (Nat × Nat × Instr × Nat) := []
def kcL_15 : List (Nat × Nat × Instr × Nat) := [(240, 2, .aload_n kF1, 0), (241, 2, .aload_n kF0, 0), (242, 2, .iload 4, 0), (244, 0, .iconst 1, 0), (245, 0, .iadd, 0), (246, 5, .iaload, 0), (247, 6, .invokevirtual 26, 0), (250, 2, .aload_n kF2, 0), (251, 2, .aload_n kF0, 0), (252, 2, .iload 4, 0), (254, 0, .iconst 1, 0), (255, 0, .iadd, 0)]
def kcL_16 : List (Nat × Nat × Instr × Nat) := [(256, 5, .iaload, 0), (257, 6, .invokevirtual 30, 0), (260, 4, .if_icmp .eq 1274, 1534), (263, 0, .iconst 0, 0), (264, 7, .ireturn, 0), (265, 2, .aload_n kF1, 0), (266, 2, .aload_n kF0, 0), (267, 2, .iload 4, 0), (269, 0, .iconst 1, 0), (270, 0, .iadd, 0), (271, 5, .iaload, 0)]
def kcL_17 : List (Nat × Nat × Instr × Nat) := [(272, 6, .invokevirtual 31, 0), (275, 2, .aload_n kF2, 0), (276, 2, .aload_n kF0, 0), (277, 2, .iload 4, 0), (279, 0, .iconst 1, 0), (280, 0, .iadd, 0), (281, 5, .iaload, 0), (282, 6, .invokevirtual 35, 0), (285, 4, .if_icmp .eq 1249, 1534)]
def kcL_18 : List (Nat × Nat × Instr × Nat) := [(288, 0, .iconst 0, 0), (289, 7, .ireturn, 0), (290, 2, .aload_n kF1, 0), (291, 6, .invokevirtual 36, 0), (294, 2, .aload_n kF2, 0), (295, 6, .invokevirtual 40, 0), (298, 4, .if_icmp .eq 1236, 1534), (301, 0, .iconst 0, 0), (302, 7, .ireturn, 0), (303, 2, .aload_n kF1, 0)]
def kcL_19 : List (Nat × Nat × Instr × Nat) := [(304, 6, .invokevirtual 41, 0), (307, 2, .aload_n kF2, 0), (308, 6, .invokevirtual 44, 0), (311, 4, .if_icmp .eq 1223, 1534), (314, 0, .iconst 0, 0), (315, 7, .ireturn, 0), (316, 2, .aload_n kF1, 0), (317, 6, .invokevirtual 45, 0)]
def kcL_20 : List (Nat × Nat × Instr × Nat) := [(320, 2, .aload_n kF2, 0), (321, 6, .invokevirtual 48, 0), (324, 4, .if_icmp .eq 1210, 1534), (327, 0, .iconst 0, 0), (328, 7, .ireturn, 0), (329, 2, .aload_n kF1, 0), (330, 6, .invokevirtual 49, 0), (333, 2, .aload_n kF2, 0), (334, 6, .invokevirtual 52, 0)]
def kcL_21 : List (Nat × Nat × Instr × Nat) := [(337, 4, .if_icmp .eq 1197, 1534), (340, 0, .iconst 0, 0), (341, 7, .ireturn, 0), (342, 2, .aload_n kF1, 0), (343, 6, .invokevirtual 53, 0), (346, 2, .aload_n kF2, 0), (347, 6, .invokevirtual 56, 0), (350, 4, .if_icmp .eq 1184, 1534)]
def kcL_22 : List (Nat × Nat × Instr × Nat) := [(353, 0, .iconst 0, 0), (354, 7, .ireturn, 0), (355, 2, .aload_n kF1, 0), (356, 2, .aload_n kF0, 0), (357, 2, .iload 4, 0), (359, 0, .iconst 1, 0), (360, 0, .iadd, 0), (361, 5, .iaload, 0), (362, 2, .aload_n kF0, 0), (363, 2, .iload 4, 0), (365, 0, .iconst 2, 0), (366, 0, .iadd, 0), (367, 5, .iaload, 0)]
def kcL_23 : List (Nat × Nat × Instr × Nat) := [(368, 2, .aload_n kF3, 0), (372, 3, .istore 5, 0), (374, 2, .aload_n kF2, 0), (375, 2, .aload_n kF0, 0), (376, 2, .iload 4, 0), (378, 0, .iconst 1, 0), (379, 0, .iadd, 0), (380, 5, .iaload, 0), (381, 2, .aload_n kF0, 0), (382, 2, .iload 4, 0)]
def kcL_24 : List (Nat × Nat × Instr × Nat) := [(384, 0, .iconst 2, 0), (385, 0, .iadd, 0), (386, 5, .iaload, 0), (387, 6, .invokevirtual 62, 0), (390, 3, .istore 6, 0), (392, 2, .aload_n kF2, 0), (393, 6, .invokevirtual 63, 0), (396, 2, .iload 5, 0), (398, 4, .if_icmp .eq 5, 403)]
def kcL_25 : List (Nat × Nat × Instr × Nat) := [(401, 0, .iconst 0, 0), (402, 7, .ireturn, 0), (403, 2, .iload 5, 0), (405, 4, .ifCond .ne 15, 420), (408, 2, .aload_n kF3, 0), (409, 0, .iconst 0, 0), (410, 5, .laload, 0), (411, 2, .iload 6, 0), (413, 0, .i2l, 0), (414, 0, .lcmp, 0), (415, 4, .ifCond .eq 5, 420)]
def kcL_26 : List (Nat × Nat × Instr × Nat) := [(418, 0, .iconst 0, 0), (419, 7, .ireturn, 0), (420, 4, .goto 1114, 1534), (423, 2, .aload_n kF1, 0), (424, 2, .aload_n kF0, 0), (425, 2, .iload 4, 0), (427, 0, .iconst 1, 0), (428, 0, .iadd, 0), (429, 5, .iaload, 0), (430, 2, .aload_n kF0, 0), (431, 2, .iload 4, 0)]
def kcL_27 : List (Nat × Nat × Instr × Nat) := [(433, 0, .iconst 2, 0), (434, 0, .iadd, 0), (435, 5, .iaload, 0), (436, 2, .aload_n kF3, 0), (440, 3, .istore 5, 0), (442, 2, .aload_n kF2, 0), (443, 2, .aload_n kF0, 0), (444, 2, .iload 4, 0), (446, 0, .iconst 1, 0), (447, 0, .iadd, 0)]
def kcL_28 : List (Nat × Nat × Instr × Nat) := [(448, 5, .iaload, 0), (449, 2, .aload_n kF0, 0), (450, 2, .iload 4, 0), (452, 0, .iconst 2, 0), (453, 0, .iadd, 0), (454, 5, .iaload, 0), (455, 6, .invokevirtual 68, 0), (458, 3, .istore 6, 0), (460, 2, .aload_n kF2, 0), (461, 6, .invokevirtual 63, 0)]
def kcL_29 : List (Nat × Nat × Instr × Nat) := [(464, 2, .iload 5, 0), (466, 4, .if_icmp .eq 5, 471), (469, 0, .iconst 0, 0), (470, 7, .ireturn, 0), (471, 2, .iload 5, 0), (473, 4, .ifCond .ne 15, 488), (476, 2, .aload_n kF3, 0), (477, 0, .iconst 0, 0), (478, 5, .laload, 0), (479, 2, .iload 6, 0)]
def kcL_30 : List (Nat × Nat × Instr × Nat) := [(481, 0, .i2l, 0), (482, 0, .lcmp, 0), (483, 4, .ifCond .eq 5, 488), (486, 0, .iconst 0, 0), (487, 7, .ireturn, 0), (488, 4, .goto 1046, 1534), (491, 2, .aload_n kF1, 0), (492, 2, .aload_n kF0, 0), (493, 2, .iload 4, 0), (495, 0, .iconst 1, 0)]
def kcL_31 : List (Nat × Nat × Instr × Nat) := [(496, 0, .iadd, 0), (497, 5, .iaload, 0), (498, 2, .aload_n kF0, 0), (499, 2, .iload 4, 0), (501, 0, .iconst 2, 0), (502, 0, .iadd, 0), (503, 5, .iaload, 0), (504, 2, .aload_n kF0, 0), (505, 2, .iload 4, 0), (507, 0, .iconst 3, 0), (508, 0, .iadd, 0), (509, 5, .iaload, 0), (510, 2, .aload_n kF0, 0), (511, 2, .iload 4, 0)]
def kcL_32 : List (Nat × Nat × Instr × Nat) := [(513, 0, .iconst 4, 0), (514, 0, .iadd, 0), (515, 5, .iaload, 0), (516, 6, .invokevirtual 69, 0), (519, 2, .aload_n kF2, 0), (520, 2, .aload_n kF0, 0), (521, 2, .iload 4, 0), (523, 0, .iconst 1, 0), (524, 0, .iadd, 0), (525, 5, .iaload, 0), (526, 2, .aload_n kF0, 0), (527, 2, .iload 4, 0)]
def kcL_33 : List (Nat × Nat × Instr × Nat) := [(529, 0, .iconst 2, 0), (530, 0, .iadd, 0), (531, 5, .iaload, 0), (532, 2, .aload_n kF0, 0), (533, 2, .iload 4, 0), (535, 0, .iconst 3, 0), (536, 0, .iadd, 0), (537, 5, .iaload, 0), (538, 2, .aload_n kF0, 0), (539, 2, .iload 4, 0), (541, 0, .iconst 4, 0), (542, 0, .iadd, 0), (543, 5, .iaload, 0)]
def kcL_34 : List (Nat × Nat × Instr × Nat) := [(544, 6, .invokevirtual 73, 0), (547, 4, .if_icmp .eq 987, 1534), (550, 0, .iconst 0, 0), (551, 7, .ireturn, 0), (552, 2, .aload_n kF1, 0), (553, 2, .aload_n kF0, 0), (554, 2, .iload 4, 0), (556, 0, .iconst 1, 0), (557, 0, .iadd, 0), (558, 5, .iaload, 0), (559, 6, .invokevirtual 74, 0)]
def kcL_35 : List (Nat × Nat × Instr × Nat) := [(562, 2, .aload_n kF2, 0), (563, 2, .aload_n kF0, 0), (564, 2, .iload 4, 0), (566, 0, .iconst 1, 0), (567, 0, .iadd, 0), (568, 5, .iaload, 0), (569, 6, .invokevirtual 77, 0), (572, 4, .if_icmp .eq 962, 1534), (575, 0, .iconst 0, 0)]
def kcL_36 : List (Nat × Nat × Instr × Nat) := [(576, 7, .ireturn, 0), (577, 2, .aload_n kF1, 0), (578, 2, .aload_n kF0, 0), (579, 2, .iload 4, 0), (581, 0, .iconst 1, 0), (582, 0, .iadd, 0), (583, 5, .iaload, 0), (584, 2, .aload_n kF0, 0), (585, 2, .iload 4, 0), (587, 0, .iconst 2, 0), (588, 0, .iadd, 0), (589, 5, .iaload, 0), (590, 6, .invokevirtual 78, 0)]
def kcL_37 : List (Nat × Nat × Instr × Nat) := [(593, 2, .aload_n kF2, 0), (594, 2, .aload_n kF0, 0), (595, 2, .iload 4, 0), (597, 0, .iconst 1, 0), (598, 0, .iadd, 0), (599, 5, .iaload, 0), (600, 2, .aload_n kF0, 0), (601, 2, .iload 4, 0), (603, 0, .iconst 2, 0), (604, 0, .iadd, 0), (605, 5, .iaload, 0), (606, 6, .invokevirtual 81, 0)]
def kcL_38 : List (Nat × Nat × Instr × Nat) := [(609, 4, .if_icmp .eq 925, 1534), (612, 0, .iconst 0, 0), (613, 7, .ireturn, 0), (614, 2, .aload_n kF1, 0), (615, 2, .aload_n kF0, 0), (616, 2, .iload 4, 0), (618, 0, .iconst 1, 0), (619, 0, .iadd, 0), (620, 5, .iaload, 0), (621, 2, .aload_n kF0, 0), (622, 2, .iload 4, 0)]
def kcL_39 : List (Nat × Nat × Instr × Nat) := [(624, 0, .iconst 2, 0), (625, 0, .iadd, 0), (626, 5, .iaload, 0), (627, 6, .invokevirtual 82, 0), (630, 2, .aload_n kF2, 0), (631, 2, .aload_n kF0, 0), (632, 2, .iload 4, 0), (634, 0, .iconst 1, 0), (635, 0, .iadd, 0), (636, 5, .iaload, 0), (637, 2, .aload_n kF0, 0), (638, 2, .iload 4, 0)]
def kcL_40 : List (Nat × Nat × Instr × Nat) := [(640, 0, .iconst 2, 0), (641, 0, .iadd, 0), (642, 5, .iaload, 0), (643, 6, .invokevirtual 85, 0), (646, 4, .if_icmp .eq 888, 1534), (649, 0, .iconst 0, 0), (650, 7, .ireturn, 0), (651, 2, .aload_n kF1, 0), (652, 2, .aload_n kF0, 0), (653, 2, .iload 4, 0), (655, 0, .iconst 1, 0)]
def kcL_41 : List (Nat × Nat × Instr × Nat) := [(656, 0, .iadd, 0), (657, 5, .iaload, 0), (658, 2, .aload_n kF0, 0), (659, 2, .iload 4, 0), (661, 0, .iconst 2, 0), (662, 0, .iadd, 0), (663, 5, .iaload, 0), (664, 6, .invokevirtual 86, 0), (667, 2, .aload_n kF2, 0), (668, 2, .aload_n kF0, 0), (669, 2, .iload 4, 0), (671, 0, .iconst 1, 0)]
def kcL_42 : List (Nat × Nat × Instr × Nat) := [(672, 0, .iadd, 0), (673, 5, .iaload, 0), (674, 2, .aload_n kF0, 0), (675, 2, .iload 4, 0), (677, 0, .iconst 2, 0), (678, 0, .iadd, 0), (679, 5, .iaload, 0), (680, 6, .invokevirtual 89, 0), (683, 4, .if_icmp .eq 851, 1534), (686, 0, .iconst 0, 0), (687, 7, .ireturn, 0)]
def kcL_43 : List (Nat × Nat × Instr × Nat) := [(688, 2, .aload_n kF1, 0), (689, 2, .aload_n kF0, 0), (690, 2, .iload 4, 0), (692, 0, .iconst 1, 0), (693, 0, .iadd, 0), (694, 5, .iaload, 0), (695, 2, .aload_n kF0, 0), (696, 2, .iload 4, 0), (698, 0, .iconst 2, 0), (699, 0, .iadd, 0), (700, 5, .iaload, 0), (701, 6, .invokevirtual 90, 0)]
def kcL_44 : List (Nat × Nat × Instr × Nat) := [(704, 2, .aload_n kF2, 0), (705, 2, .aload_n kF0, 0), (706, 2, .iload 4, 0), (708, 0, .iconst 1, 0), (709, 0, .iadd, 0), (710, 5, .iaload, 0), (711, 2, .aload_n kF0, 0), (712, 2, .iload 4, 0), (714, 0, .iconst 2, 0), (715, 0, .iadd, 0), (716, 5, .iaload, 0), (717, 6, .invokevirtual 93, 0)]
def kcL_45 : List (Nat × Nat × Instr × Nat) := [(720, 4, .if_icmp .eq 814, 1534), (723, 0, .iconst 0, 0), (724, 7, .ireturn, 0), (725, 2, .aload_n kF1, 0), (726, 6, .invokevirtual 94, 0), (729, 2, .aload_n kF2, 0), (730, 6, .invokevirtual 97, 0), (733, 4, .if_icmp .eq 801, 1534)]
def kcL_46 : List (Nat × Nat × Instr × Nat) := [(736, 0, .iconst 0, 0), (737, 7, .ireturn, 0), (738, 2, .aload_n kF1, 0), (739, 6, .invokevirtual 98, 0), (742, 2, .aload_n kF2, 0), (743, 6, .invokevirtual 101, 0), (746, 4, .if_icmp .eq 788, 1534), (749, 0, .iconst 0, 0), (750, 7, .ireturn, 0), (751, 2, .aload_n kF1, 0)]
def kcL_47 : List (Nat × Nat × Instr × Nat) := [(752, 2, .aload_n kF0, 0), (753, 2, .iload 4, 0), (755, 0, .iconst 1, 0), (756, 0, .iadd, 0), (757, 5, .iaload, 0), (758, 6, .invokevirtual 102, 0), (761, 2, .aload_n kF2, 0), (762, 2, .aload_n kF0, 0), (763, 2, .iload 4, 0), (765, 0, .iconst 1, 0), (766, 0, .iadd, 0), (767, 5, .iaload, 0)]
def kcL_48 : List (Nat × Nat × Instr × Nat) := [(768, 6, .invokevirtual 105, 0), (771, 0, .lcmp, 0), (772, 4, .ifCond .eq 762, 1534), (775, 0, .iconst 0, 0), (776, 7, .ireturn, 0), (777, 2, .aload_n kF1, 0), (778, 2, .aload_n kF0, 0), (779, 2, .iload 4, 0), (781, 0, .iconst 1, 0), (782, 0, .iadd, 0), (783, 5, .iaload, 0)]
def kcL_49 : List (Nat × Nat × Instr × Nat) := [(784, 6, .invokevirtual 106, 0), (787, 2, .aload_n kF2, 0), (788, 2, .aload_n kF0, 0), (789, 2, .iload 4, 0), (791, 0, .iconst 1, 0), (792, 0, .iadd, 0), (793, 5, .iaload, 0), (794, 6, .invokevirtual 109, 0), (797, 4, .if_icmp .eq 737, 1534)]
def kcL_50 : List (Nat × Nat × Instr × Nat) := [(800, 0, .iconst 0, 0), (801, 7, .ireturn, 0), (802, 2, .aload_n kF1, 0), (803, 6, .invokevirtual 110, 0), (806, 2, .aload_n kF2, 0), (807, 6, .invokevirtual 114, 0), (810, 0, .lcmp, 0), (811, 4, .ifCond .eq 723, 1534), (814, 0, .iconst 0, 0), (815, 7, .ireturn, 0)]
def kcL_51 : List (Nat × Nat × Instr × Nat) := [(816, 2, .aload_n kF1, 0), (817, 6, .invokevirtual 115, 0), (820, 2, .aload_n kF2, 0), (821, 6, .invokevirtual 118, 0), (824, 4, .if_icmp .eq 710, 1534), (827, 0, .iconst 0, 0), (828, 7, .ireturn, 0), (829, 2, .aload_n kF1, 0), (830, 2, .aload_n kF0, 0), (831, 2, .iload 4, 0)]
def kcL_52 : List (Nat × Nat × Instr × Nat) := [(833, 0, .iconst 1, 0), (834, 0, .iadd, 0), (835, 5, .iaload, 0), (836, 6, .invokevirtual 119, 0), (839, 2, .aload_n kF2, 0), (840, 2, .aload_n kF0, 0), (841, 2, .iload 4, 0), (843, 0, .iconst 1, 0), (844, 0, .iadd, 0), (845, 5, .iaload, 0), (846, 6, .invokevirtual 122, 0)]
def kcL_53 : List (Nat × Nat × Instr × Nat) := [(849, 4, .if_icmp .eq 685, 1534), (852, 0, .iconst 0, 0), (853, 7, .ireturn, 0), (854, 2, .aload_n kF1, 0), (855, 6, .invokevirtual 123, 0), (858, 2, .aload_n kF2, 0), (859, 6, .invokevirtual 126, 0), (862, 4, .if_icmp .eq 672, 1534)]
def kcL_54 : List (Nat × Nat × Instr × Nat) := [(865, 0, .iconst 0, 0), (866, 7, .ireturn, 0), (867, 2, .aload_n kF1, 0), (868, 6, .invokevirtual 127, 0), (871, 2, .aload_n kF2, 0), (872, 6, .invokevirtual 130, 0), (875, 4, .if_icmp .eq 659, 1534), (878, 0, .iconst 0, 0), (879, 7, .ireturn, 0)]
def kcL_55 : List (Nat × Nat × Instr × Nat) := [(880, 2, .aload_n kF1, 0), (881, 2, .aload_n kF0, 0), (882, 2, .iload 4, 0), (884, 0, .iconst 1, 0), (885, 0, .iadd, 0), (886, 5, .iaload, 0), (887, 2, .aload_n kF0, 0), (888, 2, .iload 4, 0), (890, 0, .iconst 2, 0), (891, 0, .iadd, 0), (892, 5, .iaload, 0), (893, 6, .invokevirtual 131, 0)]
def kcL_56 : List (Nat × Nat × Instr × Nat) := [(896, 2, .aload_n kF2, 0), (897, 2, .aload_n kF0, 0), (898, 2, .iload 4, 0), (900, 0, .iconst 1, 0), (901, 0, .iadd, 0), (902, 5, .iaload, 0), (903, 2, .aload_n kF0, 0), (904, 2, .iload 4, 0), (906, 0, .iconst 2, 0), (907, 0, .iadd, 0), (908, 5, .iaload, 0), (909, 6, .invokevirtual 134, 0)]
def kcL_57 : List (Nat × Nat × Instr × Nat) := [(912, 4, .if_icmp .eq 622, 1534), (915, 0, .iconst 0, 0), (916, 7, .ireturn, 0), (917, 2, .aload_n kF1, 0), (918, 6, .invokevirtual 135, 0), (921, 2, .aload_n kF2, 0), (922, 6, .invokevirtual 138, 0), (925, 4, .if_icmp .eq 609, 1534)]
def kcL_58 : List (Nat × Nat × Instr × Nat) := [(928, 0, .iconst 0, 0), (929, 7, .ireturn, 0), (930, 2, .aload_n kF1, 0), (931, 2, .aload_n kF0, 0), (932, 2, .iload 4, 0), (934, 0, .iconst 1, 0), (935, 0, .iadd, 0), (936, 5, .iaload, 0), (937, 6, .invokevirtual 139, 0), (940, 2, .aload_n kF2, 0), (941, 2, .aload_n kF0, 0), (942, 2, .iload 4, 0)]
def kcL_59 : List (Nat × Nat × Instr × Nat) := [(944, 0, .iconst 1, 0), (945, 0, .iadd, 0), (946, 5, .iaload, 0), (947, 6, .invokevirtual 142, 0), (950, 4, .if_icmp .eq 584, 1534), (953, 0, .iconst 0, 0), (954, 7, .ireturn, 0), (955, 2, .aload_n kF1, 0), (956, 2, .aload_n kF0, 0), (957, 2, .iload 4, 0), (959, 0, .iconst 1, 0)]
def kcL_60 : List (Nat × Nat × Instr × Nat) := [(960, 0, .iadd, 0), (961, 5, .iaload, 0), (962, 6, .invokevirtual 143, 0), (965, 2, .aload_n kF2, 0), (966, 2, .aload_n kF0, 0), (967, 2, .iload 4, 0), (969, 0, .iconst 1, 0), (970, 0, .iadd, 0), (971, 5, .iaload, 0), (972, 6, .invokevirtual 146, 0), (975, 4, .if_icmp .eq 559, 1534)]
def kcL_61 : List (Nat × Nat × Instr × Nat) := [(978, 0, .iconst 0, 0), (979, 7, .ireturn, 0), (980, 2, .aload_n kF1, 0), (981, 2, .aload_n kF0, 0), (982, 2, .iload 4, 0), (984, 0, .iconst 1, 0), (985, 0, .iadd, 0), (986, 5, .iaload, 0), (987, 2, .aload_n kF0, 0), (988, 2, .iload 4, 0), (990, 0, .iconst 2, 0), (991, 0, .iadd, 0)]
def kcL_62 : List (Nat × Nat × Instr × Nat) := [(992, 5, .iaload, 0), (993, 6, .invokevirtual 147, 0), (996, 2, .aload_n kF2, 0), (997, 2, .aload_n kF0, 0), (998, 2, .iload 4, 0), (1000, 0, .iconst 1, 0), (1001, 0, .iadd, 0), (1002, 5, .iaload, 0), (1003, 2, .aload_n kF0, 0), (1004, 2, .iload 4, 0), (1006, 0, .iconst 2, 0), (1007, 0, .iadd, 0)]
def kcL_63 : List (Nat × Nat × Instr × Nat) := [(1008, 5, .iaload, 0), (1009, 6, .invokevirtual 150, 0), (1012, 4, .if_icmp .eq 522, 1534), (1015, 0, .iconst 0, 0), (1016, 7, .ireturn, 0), (1017, 2, .aload_n kF1, 0), (1018, 6, .invokevirtual 151, 0), (1021, 2, .aload_n kF2, 0), (1022, 6, .invokevirtual 154, 0)]
def kcL_64 : List (Nat × Nat × Instr × Nat) := [(1025, 4, .if_icmp .eq 509, 1534), (1028, 0, .iconst 0, 0), (1029, 7, .ireturn, 0), (1030, 2, .aload_n kF1, 0), (1031, 2, .aload_n kF0, 0), (1032, 2, .iload 4, 0), (1034, 0, .iconst 1, 0), (1035, 0, .iadd, 0), (1036, 5, .iaload, 0), (1037, 6, .invokevirtual 155, 0)]
def kcL_65 : List (Nat × Nat × Instr × Nat) := [(1040, 2, .aload_n kF2, 0), (1041, 2, .aload_n kF0, 0), (1042, 2, .iload 4, 0), (1044, 0, .iconst 1, 0), (1045, 0, .iadd, 0), (1046, 5, .iaload, 0), (1047, 6, .invokevirtual 158, 0), (1050, 4, .if_icmp .eq 484, 1534), (1053, 0, .iconst 0, 0), (1054, 7, .ireturn, 0), (1055, 2, .aload_n kF1, 0)]
def kcL_66 : List (Nat × Nat × Instr × Nat) := [(1056, 2, .aload_n kF0, 0), (1057, 2, .iload 4, 0), (1059, 0, .iconst 1, 0), (1060, 0, .iadd, 0), (1061, 5, .iaload, 0), (1062, 2, .aload_n kF0, 0), (1063, 2, .iload 4, 0), (1065, 0, .iconst 2, 0), (1066, 0, .iadd, 0), (1067, 5, .iaload, 0), (1068, 6, .invokevirtual 159, 0), (1071, 2, .aload_n kF2, 0)]
def kcL_67 : List (Nat × Nat × Instr × Nat) := [(1072, 2, .aload_n kF0, 0), (1073, 2, .iload 4, 0), (1075, 0, .iconst 1, 0), (1076, 0, .iadd, 0), (1077, 5, .iaload, 0), (1078, 2, .aload_n kF0, 0), (1079, 2, .iload 4, 0), (1081, 0, .iconst 2, 0), (1082, 0, .iadd, 0), (1083, 5, .iaload, 0), (1084, 6, .invokevirtual 162, 0), (1087, 4, .if_icmp .eq 447, 1534)]
def kcL_68 : List (Nat × Nat × Instr × Nat) := [(1090, 0, .iconst 0, 0), (1091, 7, .ireturn, 0), (1092, 2, .aload_n kF1, 0), (1093, 2, .aload_n kF0, 0), (1094, 2, .iload 4, 0), (1096, 0, .iconst 1, 0), (1097, 0, .iadd, 0), (1098, 5, .iaload, 0), (1099, 2, .aload_n kF0, 0), (1100, 2, .iload 4, 0), (1102, 0, .iconst 2, 0), (1103, 0, .iadd, 0)]
def kcL_69 : List (Nat × Nat × Instr × Nat) := [(1104, 5, .iaload, 0), (1105, 6, .invokevirtual 163, 0), (1108, 2, .aload_n kF2, 0), (1109, 2, .aload_n kF0, 0), (1110, 2, .iload 4, 0), (1112, 0, .iconst 1, 0), (1113, 0, .iadd, 0), (1114, 5, .iaload, 0), (1115, 2, .aload_n kF0, 0), (1116, 2, .iload 4, 0), (1118, 0, .iconst 2, 0), (1119, 0, .iadd, 0)]
def kcL_70 : List (Nat × Nat × Instr × Nat) := [(1120, 5, .iaload, 0), (1121, 6, .invokevirtual 166, 0), (1124, 4, .if_icmp .eq 410, 1534), (1127, 0, .iconst 0, 0), (1128, 7, .ireturn, 0), (1129, 2, .aload_n kF1, 0), (1130, 2, .aload_n kF0, 0), (1131, 2, .iload 4, 0), (1133, 0, .iconst 1, 0), (1134, 0, .iadd, 0), (1135, 5, .iaload, 0)]
def kcL_71 : List (Nat × Nat × Instr × Nat) := [(1136, 2, .aload_n kF0, 0), (1137, 2, .iload 4, 0), (1139, 0, .iconst 2, 0), (1140, 0, .iadd, 0), (1141, 5, .iaload, 0), (1142, 6, .invokevirtual 167, 0), (1145, 2, .aload_n kF2, 0), (1146, 2, .aload_n kF0, 0), (1147, 2, .iload 4, 0), (1149, 0, .iconst 1, 0), (1150, 0, .iadd, 0), (1151, 5, .iaload, 0)]
def kcL_72 : List (Nat × Nat × Instr × Nat) := [(1152, 2, .aload_n kF0, 0), (1153, 2, .iload 4, 0), (1155, 0, .iconst 2, 0), (1156, 0, .iadd, 0), (1157, 5, .iaload, 0), (1158, 6, .invokevirtual 170, 0), (1161, 4, .if_icmp .eq 373, 1534), (1164, 0, .iconst 0, 0), (1165, 7, .ireturn, 0), (1166, 2, .aload_n kF1, 0), (1167, 2, .aload_n kF0, 0)]
def kcL_73 : List (Nat × Nat × Instr × Nat) := [(1168, 2, .iload 4, 0), (1170, 0, .iconst 1, 0), (1171, 0, .iadd, 0), (1172, 5, .iaload, 0), (1173, 2, .aload_n kF0, 0), (1174, 2, .iload 4, 0), (1176, 0, .iconst 2, 0), (1177, 0, .iadd, 0), (1178, 5, .iaload, 0), (1179, 6, .invokevirtual 171, 0), (1182, 2, .aload_n kF2, 0), (1183, 2, .aload_n kF0, 0)]
def kcL_74 : List (Nat × Nat × Instr × Nat) := [(1184, 2, .iload 4, 0), (1186, 0, .iconst 1, 0), (1187, 0, .iadd, 0), (1188, 5, .iaload, 0), (1189, 2, .aload_n kF0, 0), (1190, 2, .iload 4, 0), (1192, 0, .iconst 2, 0), (1193, 0, .iadd, 0), (1194, 5, .iaload, 0), (1195, 6, .invokevirtual 174, 0), (1198, 4, .if_icmp .eq 336, 1534)]
def kcL_75 : List (Nat × Nat × Instr × Nat) := [(1201, 0, .iconst 0, 0), (1202, 7, .ireturn, 0), (1203, 2, .aload_n kF1, 0), (1204, 6, .invokevirtual 175, 0), (1207, 2, .aload_n kF2, 0), (1208, 6, .invokevirtual 178, 0), (1211, 4, .if_icmp .eq 323, 1534), (1214, 0, .iconst 0, 0), (1215, 7, .ireturn, 0)]
def kcL_76 : List (Nat × Nat × Instr × Nat) := [(1216, 2, .aload_n kF1, 0), (1217, 6, .invokevirtual 179, 0), (1220, 2, .aload_n kF2, 0), (1221, 6, .invokevirtual 182, 0), (1224, 0, .lcmp, 0), (1225, 4, .ifCond .eq 309, 1534), (1228, 0, .iconst 0, 0), (1229, 7, .ireturn, 0), (1230, 2, .aload_n kF1, 0), (1231, 6, .invokevirtual 183, 0)]
def kcL_77 : List (Nat × Nat × Instr × Nat) := [(1234, 2, .aload_n kF2, 0), (1235, 6, .invokevirtual 186, 0), (1238, 4, .if_icmp .eq 296, 1534), (1241, 0, .iconst 0, 0), (1242, 7, .ireturn, 0), (1243, 2, .aload_n kF1, 0), (1244, 2, .aload_n kF0, 0), (1245, 2, .iload 4, 0), (1247, 0, .iconst 1, 0)]
def kcL_78 : List (Nat × Nat × Instr × Nat) := [(1248, 0, .iadd, 0), (1249, 5, .iaload, 0), (1250, 2, .aload_n kF0, 0), (1251, 2, .iload 4, 0), (1253, 0, .iconst 2, 0), (1254, 0, .iadd, 0), (1255, 5, .iaload, 0), (1256, 2, .aload_n kF0, 0), (1257, 2, .iload 4, 0), (1259, 0, .iconst 3, 0), (1260, 0, .iadd, 0), (1261, 5, .iaload, 0), (1262, 6, .invokevirtual 187, 0)]
def kcL_79 : List (Nat × Nat × Instr × Nat) := [(1265, 2, .aload_n kF2, 0), (1266, 2, .aload_n kF0, 0), (1267, 2, .iload 4, 0), (1269, 0, .iconst 1, 0), (1270, 0, .iadd, 0), (1271, 5, .iaload, 0), (1272, 2, .aload_n kF0, 0), (1273, 2, .iload 4, 0), (1275, 0, .iconst 2, 0), (1276, 0, .iadd, 0), (1277, 5, .iaload, 0), (1278, 2, .aload_n kF0, 0), (1279, 2, .iload 4, 0)]
def kcL_80 : List (Nat × Nat × Instr × Nat) := [(1281, 0, .iconst 3, 0), (1282, 0, .iadd, 0), (1283, 5, .iaload, 0), (1284, 6, .invokevirtual 191, 0), (1287, 4, .if_icmp .eq 247, 1534), (1290, 0, .iconst 0, 0), (1291, 7, .ireturn, 0), (1292, 2, .aload_n kF1, 0), (1293, 2, .aload_n kF0, 0), (1294, 2, .iload 4, 0)]
def kcL_81 : List (Nat × Nat × Instr × Nat) := [(1296, 0, .iconst 1, 0), (1297, 0, .iadd, 0), (1298, 5, .iaload, 0), (1299, 2, .aload_n kF0, 0), (1300, 2, .iload 4, 0), (1302, 0, .iconst 2, 0), (1303, 0, .iadd, 0), (1304, 5, .iaload, 0), (1305, 6, .invokevirtual 192, 0), (1308, 2, .aload_n kF2, 0), (1309, 2, .aload_n kF0, 0), (1310, 2, .iload 4, 0)]
def kcL_82 : List (Nat × Nat × Instr × Nat) := [(1312, 0, .iconst 1, 0), (1313, 0, .iadd, 0), (1314, 5, .iaload, 0), (1315, 2, .aload_n kF0, 0), (1316, 2, .iload 4, 0), (1318, 0, .iconst 2, 0), (1319, 0, .iadd, 0), (1320, 5, .iaload, 0), (1321, 6, .invokevirtual 195, 0), (1324, 4, .if_icmp .eq 210, 1534), (1327, 0, .iconst 0, 0)]
def kcL_83 : List (Nat × Nat × Instr × Nat) := [(1328, 7, .ireturn, 0), (1329, 2, .aload_n kF1, 0), (1330, 6, .invokevirtual 196, 0), (1333, 2, .aload_n kF2, 0), (1334, 6, .invokevirtual 199, 0), (1337, 4, .if_icmp .eq 197, 1534), (1340, 0, .iconst 0, 0), (1341, 7, .ireturn, 0), (1342, 2, .aload_n kF1, 0), (1343, 2, .aload_n kF0, 0)]
def kcL_84 : List (Nat × Nat × Instr × Nat) := [(1344, 2, .iload 4, 0), (1346, 0, .iconst 1, 0), (1347, 0, .iadd, 0), (1348, 5, .iaload, 0), (1349, 6, .invokevirtual 200, 0), (1352, 2, .aload_n kF2, 0), (1353, 2, .aload_n kF0, 0), (1354, 2, .iload 4, 0), (1356, 0, .iconst 1, 0), (1357, 0, .iadd, 0), (1358, 5, .iaload, 0), (1359, 6, .invokevirtual 203, 0)]
def kcL_85 : List (Nat × Nat × Instr × Nat) := [(1362, 4, .if_icmp .eq 172, 1534), (1365, 0, .iconst 0, 0), (1366, 7, .ireturn, 0), (1367, 2, .aload_n kF1, 0), (1368, 2, .aload_n kF0, 0), (1369, 2, .iload 4, 0), (1371, 0, .iconst 1, 0), (1372, 0, .iadd, 0), (1373, 5, .iaload, 0), (1374, 2, .aload_n kF0, 0), (1375, 2, .iload 4, 0)]
def kcL_86 : List (Nat × Nat × Instr × Nat) := [(1377, 0, .iconst 2, 0), (1378, 0, .iadd, 0), (1379, 5, .iaload, 0), (1380, 6, .invokevirtual 204, 0), (1383, 2, .aload_n kF2, 0), (1384, 2, .aload_n kF0, 0), (1385, 2, .iload 4, 0), (1387, 0, .iconst 1, 0), (1388, 0, .iadd, 0), (1389, 5, .iaload, 0), (1390, 2, .aload_n kF0, 0), (1391, 2, .iload 4, 0)]
def kcL_87 : List (Nat × Nat × Instr × Nat) := [(1393, 0, .iconst 2, 0), (1394, 0, .iadd, 0), (1395, 5, .iaload, 0), (1396, 6, .invokevirtual 207, 0), (1399, 4, .if_icmp .eq 135, 1534), (1402, 0, .iconst 0, 0), (1403, 7, .ireturn, 0), (1404, 2, .aload_n kF1, 0), (1405, 2, .aload_n kF0, 0), (1406, 2, .iload 4, 0)]
def kcL_88 : List (Nat × Nat × Instr × Nat) := [(1408, 0, .iconst 1, 0), (1409, 0, .iadd, 0), (1410, 5, .iaload, 0), (1411, 6, .invokevirtual 208, 0), (1414, 2, .aload_n kF2, 0), (1415, 2, .aload_n kF0, 0), (1416, 2, .iload 4, 0), (1418, 0, .iconst 1, 0), (1419, 0, .iadd, 0), (1420, 5, .iaload, 0), (1421, 6, .invokevirtual 211, 0)]
def kcL_89 : List (Nat × Nat × Instr × Nat) := [(1424, 4, .if_icmp .eq 110, 1534), (1427, 0, .iconst 0, 0), (1428, 7, .ireturn, 0), (1429, 2, .aload_n kF1, 0), (1430, 2, .aload_n kF0, 0), (1431, 2, .iload 4, 0), (1433, 0, .iconst 1, 0), (1434, 0, .iadd, 0), (1435, 5, .iaload, 0), (1436, 6, .invokevirtual 212, 0), (1439, 2, .aload_n kF2, 0)]
def kcL_90 : List (Nat × Nat × Instr × Nat) := [(1440, 2, .aload_n kF0, 0), (1441, 2, .iload 4, 0), (1443, 0, .iconst 1, 0), (1444, 0, .iadd, 0), (1445, 5, .iaload, 0), (1446, 6, .invokevirtual 215, 0), (1449, 4, .if_icmp .eq 85, 1534), (1452, 0, .iconst 0, 0), (1453, 7, .ireturn, 0), (1454, 2, .aload_n kF1, 0), (1455, 2, .aload_n kF0, 0)]
def kcL_91 : List (Nat × Nat × Instr × Nat) := [(1456, 2, .iload 4, 0), (1458, 0, .iconst 1, 0), (1459, 0, .iadd, 0), (1460, 5, .iaload, 0), (1461, 6, .invokevirtual 216, 0), (1464, 2, .aload_n kF2, 0), (1465, 2, .aload_n kF0, 0), (1466, 2, .iload 4, 0), (1468, 0, .iconst 1, 0), (1469, 0, .iadd, 0), (1470, 5, .iaload, 0), (1471, 6, .invokevirtual 219, 0)]
def kcL_92 : List (Nat × Nat × Instr × Nat) := [(1474, 4, .if_icmp .eq 60, 1534), (1477, 0, .iconst 0, 0), (1478, 7, .ireturn, 0), (1479, 2, .aload_n kF1, 0), (1480, 2, .aload_n kF0, 0), (1481, 2, .iload 4, 0), (1483, 0, .iconst 1, 0), (1484, 0, .iadd, 0), (1485, 5, .iaload, 0), (1486, 2, .aload_n kF3, 0)]
def kcL_93 : List (Nat × Nat × Instr × Nat) := [(1490, 3, .istore 5, 0), (1492, 2, .aload_n kF2, 0), (1493, 2, .aload_n kF0, 0), (1494, 2, .iload 4, 0), (1496, 0, .iconst 1, 0), (1497, 0, .iadd, 0), (1498, 5, .iaload, 0), (1499, 6, .invokevirtual 223, 0), (1502, 3, .lstore 6, 0)]
def kcL_94 : List (Nat × Nat × Instr × Nat) := [(1504, 2, .aload_n kF2, 0), (1505, 6, .invokevirtual 63, 0), (1508, 2, .iload 5, 0), (1510, 4, .if_icmp .eq 5, 1515), (1513, 0, .iconst 0, 0), (1514, 7, .ireturn, 0), (1515, 2, .iload 5, 0), (1517, 4, .ifCond .ne 14, 1531)]
def kcL_95 : List (Nat × Nat × Instr × Nat) := [(1520, 2, .aload_n kF3, 0), (1521, 0, .iconst 0, 0), (1522, 5, .laload, 0), (1523, 2, .lload 6, 0), (1525, 0, .lcmp, 0), (1526, 4, .ifCond .eq 5, 1531), (1529, 0, .iconst 0, 0), (1530, 7, .ireturn, 0), (1531, 4, .goto 3, 1534), (1534, 3, .iinc 4 5, 0)]
def kcL_96 : List (Nat × Nat × Instr × Nat) := [(1537, 4, .goto (-1514), 23), (1540, 0, .iconst 1, 0), (1541, 7, .ireturn, 0)]
def kc_L : List (List (Nat × Nat × Instr × Nat)) := [kcL_0, kcL_1, kcL_2, kcL_3, kcL_4, kcL_5, kcL_6, kcL_7, kcL_8, kcL_9, kcL_10, kcL_11, kcL_12, kcL_13, kcL_14, kcL_15, kcL_16, kcL_17, kcL_18, kcL_19, kcL_20, kcL_21, kcL_22, kcL_23, kcL_24, kcL_25, kcL_26, kcL_27, kcL_28, kcL_29, kcL_30, kcL_31, kcL_32, kcL_33, kcL_34, kcL_35, kcL_36, kcL_37, kcL_38, kcL_39, kcL_40, kcL_41, kcL_42, kcL_43, kcL_44, kcL_45, kcL_46, kcL_47, kcL_48, kcL_49, kcL_50, kcL_51, kcL_52, kcL_53, kcL_54, kcL_55, kcL_56, kcL_57, kcL_58, kcL_59, kcL_60, kcL_61, kcL_62, kcL_63, kcL_64, kcL_65, kcL_66, kcL_67, kcL_68, kcL_69, kcL_70, kcL_71, kcL_72, kcL_73, kcL_74, kcL_75, kcL_76, kcL_77, kcL_78, kcL_79, kcL_80, kcL_81, kcL_82, kcL_83, kcL_84, kcL_85, kcL_86, kcL_87, kcL_88, kcL_89, kcL_90, kcL_91, kcL_92, kcL_93, kcL_94, kcL_95, kcL_96]
def ky_L : MethodName := ({ cls := "BonnetValleyLaw", name := "law", desc := "([I)Z" } : Jvm.MethodName)
def kRow_L : pm_Row := ((ky_L, code, 8, (Option.some Jvm.ClassFile.FieldType.boolean)), 22, (1, 8, 2), kc_L)
def kra2 (xs : Nat → Int32) (L a : Nat) : Option (Nat × Nat × (Nat → Value)) := bif Nat.beq a 5 then some (0, L, fun j => .int (xs j)) else kra a
def kK2 (xs : Nat → Int32) (L : Nat) : pm_K := pm_mkK [[kRow_L]] klks (kra2 xs L) kro knw kft 10
theorem kLaw_c0 : ∀ q ∈ kcL_0, decode code q.1 = .ok (q.2.2.1, pm_len q.2.2.1 q.2.2.2) ∧ pm_tokB q.2.2.1 q.1 q.2.2.2 = true ∧ pm_npf q.2.2.1 = true := by decide +kernel
theorem kLaw_c1 : ∀ q ∈ kcL_1, decode code q.1 = .ok (q.2.2.1, pm_len q.2.2.1 q.2.2.2) ∧ pm_tokB q.2.2.1 q.1 q.2.2.2 = true ∧ pm_npf q.2.2.1 = true := by decide +kernel
theorem kLaw_c2 : ∀ q ∈ kcL_2, decode code q.1 = .ok (q.2.2.1, pm_len q.2.2.1 q.2.2.2) ∧ pm_tokB q.2.2.1 q.1 q.2.2.2 = true ∧ pm_npf q.2.2.1 = true := by decide +kernel
theorem kLaw_c3 : ∀ q ∈ kcL_3, decode code q.1 = .ok (q.2.2.1, pm_len q.2.2.1 q.2.2.2) ∧ pm_tokB q.2.2.1 q.1 q.2.2.2 = true ∧ pm_npf q.2.2.1 = true := by decide +kernel
theorem kLaw_c4 : ∀ q ∈ kcL_4, decode code q.1 = .ok (q.2.2.1, pm_len q.2.2.1 q.2.2.2) ∧ pm_tokB q.2.2.1 q.1 q.2.2.2 = true ∧ pm_npf q.2.2.1 = true := by decide +kernel
theorem kLaw_c5 : ∀ q ∈ kcL_5, decode code q.1 = .ok (q.2.2.1, pm_len q.2.2.1 q.2.2.2) ∧ pm_tokB q.2.2.1 q.1 q.2.2.2 = true ∧ pm_npf q.2.2.1 = true := by decide +kernel
theorem kLaw_c6 : ∀ q ∈ kcL_6, decode code q.1 = .ok (q.2.2.1, pm_len q.2.2.1 q.2.2.2) ∧ pm_tokB q.2.2.1 q.1 q.2.2.2 = true ∧ pm_npf q.2.2.1 = true := by decide +kernel
theorem kLaw_c7 : ∀ q ∈ kcL_7, decode code q.1 = .ok (q.2.2.1, pm_len q.2.2.1 q.2.2.2) ∧ pm_tokB q.2.2.1 q.1 q.2.2.2 = true ∧ pm_npf q.2.2.1 = true := by decide +kernel
theorem kLaw_c8 : ∀ q ∈ kcL_8, decode code q.1 = .ok (q.2.2.1, pm_len q.2.2.1 q.2.2.2) ∧ pm_tokB q.2.2.1 q.1 q.2.2.2 = true ∧ pm_npf q.2.2.1 = true := by decide +kernel
theorem kLaw_c9 : ∀ q ∈ kcL_9, decode code q.1 = .ok (q.2.2.1, pm_len q.2.2.1 q.2.2.2) ∧ pm_tokB q.2.2.1 q.1 q.2.2.2 = true ∧ pm_npf q.2.2.1 = true := by decide +kernel
theorem kLaw_c10 : ∀ q ∈ kcL_10, decode code q.1 = .ok (q.2.2.1, pm_len q.2.2.1 q.2.2.2) ∧ pm_tokB q.2.2.1 q.1 q.2.2.2 = true ∧ pm_npf q.2.2.1 = true := by decide +kernel
theorem kLaw_c11 : ∀ q ∈ kcL_11, decode code q.1 = .ok (q.2.2.1, pm_len q.2.2.1 q.2.2.2) ∧ pm_tokB q.2.2.1 q.1 q.2.2.2 = true ∧ pm_npf q.2.2.1 = true := by decide +kernel
theorem kLaw_c12 : ∀ q ∈ kcL_12, decode code q.1 = .ok (q.2.2.1, pm_len q.2.2.1 q.2.2.2) ∧ pm_tokB q.2.2.1 q.1 q.2.2.2 = true ∧ pm_npf q.2.2.1 = true := by decide +kernel
theorem kLaw_c13 : ∀ q ∈ kcL_13, decode code q.1 = .ok (q.2.2.1, pm_len q.2.2.1 q.2.2.2) ∧ pm_tokB q.2.2.1 q.1 q.2.2.2 = true ∧ pm_npf q.2.2.1 = true := by decide +kernel
theorem kLaw_c14 : ∀ q ∈ kcL_14, decode code q.1 = .ok (q.2.2.1, pm_len q.2.2.1 q.2.2.2) ∧ pm_tokB q.2.2.1 q.1 q.2.2.2 = true ∧ pm_npf q.2.2.1 = true := by decide +kernel
theorem kLaw_c15 : ∀ q ∈ kcL_15, decode code q.1 = .ok (q.2.2.1, pm_len q.2.2.1 q.2.2.2) ∧ pm_tokB q.2.2.1 q.1 q.2.2.2 = true ∧ pm_npf q.2.2.1 = true := by decide +kernel
theorem kLaw_c16 : ∀ q ∈ kcL_16, decode code q.1 = .ok (q.2.2.1, pm_len q.2.2.1 q.2.2.2) ∧ pm_tokB q.2.2.1 q.1 q.2.2.2 = true ∧ pm_npf q.2.2.1 = true := by decide +kernel
theorem kLaw_c17 : ∀ q ∈ kcL_17, decode code q.1 = .ok (q.2.2.1, pm_len q.2.2.1 q.2.2.2) ∧ pm_tokB q.2.2.1 q.1 q.2.2.2 = true ∧ pm_npf q.2.2.1 = true := by decide +kernel
theorem kLaw_c18 : ∀ q ∈ kcL_18, decode code q.1 = .ok (q.2.2.1, pm_len q.2.2.1 q.2.2.2) ∧ pm_tokB q.2.2.1 q.1 q.2.2.2 = true ∧ pm_npf q.2.2.1 = true := by decide +kernel
theorem kLaw_c19 : ∀ q ∈ kcL_19, decode code q.1 = .ok (q.2.2.1, pm_len q.2.2.1 q.2.2.2) ∧ pm_tokB q.2.2.1 q.1 q.2.2.2 = true ∧ pm_npf q.2.2.1 = true := by decide +kernel
theorem kLaw_c20 : ∀ q ∈ kcL_20, decode code q.1 = .ok (q.2.2.1, pm_len q.2.2.1 q.2.2.2) ∧ pm_tokB q.2.2.1 q.1 q.2.2.2 = true ∧ pm_npf q.2.2.1 = true := by decide +kernel
theorem kLaw_c21 : ∀ q ∈ kcL_21, decode code q.1 = .ok (q.2.2.1, pm_len q.2.2.1 q.2.2.2) ∧ pm_tokB q.2.2.1 q.1 q.2.2.2 = true ∧ pm_npf q.2.2.1 = true := by decide +kernel
theorem kLaw_c22 : ∀ q ∈ kcL_22, decode code q.1 = .ok (q.2.2.1, pm_len q.2.2.1 q.2.2.2) ∧ pm_tokB q.2.2.1 q.1 q.2.2.2 = true ∧ pm_npf q.2.2.1 = true := by decide +kernel
theorem kLaw_c23 : ∀ q ∈ kcL_23, decode code q.1 = .ok (q.2.2.1, pm_len q.2.2.1 q.2.2.2) ∧ pm_tokB q.2.2.1 q.1 q.2.2.2 = true ∧ pm_npf q.2.2.1 = true := by decide +kernel
theorem kLaw_c24 : ∀ q ∈ kcL_24, decode code q.1 = .ok (q.2.2.1, pm_len q.2.2.1 q.2.2.2) ∧ pm_tokB q.2.2.1 q.1 q.2.2.2 = true ∧ pm_npf q.2.2.1 = true := by decide +kernel
theorem kLaw_c25 : ∀ q ∈ kcL_25, decode code q.1 = .ok (q.2.2.1, pm_len q.2.2.1 q.2.2.2) ∧ pm_tokB q.2.2.1 q.1 q.2.2.2 = true ∧ pm_npf q.2.2.1 = true := by decide +kernel
theorem kLaw_c26 : ∀ q ∈ kcL_26, decode code q.1 = .ok (q.2.2.1, pm_len q.2.2.1 q.2.2.2) ∧ pm_tokB q.2.2.1 q.1 q.2.2.2 = true ∧ pm_npf q.2.2.1 = true := by decide +kernel
theorem kLaw_c27 : ∀ q ∈ kcL_27, decode code q.1 = .ok (q.2.2.1, pm_len q.2.2.1 q.2.2.2) ∧ pm_tokB q.2.2.1 q.1 q.2.2.2 = true ∧ pm_npf q.2.2.1 = true := by decide +kernel
theorem kLaw_c28 : ∀ q ∈ kcL_28, decode code q.1 = .ok (q.2.2.1, pm_len q.2.2.1 q.2.2.2) ∧ pm_tokB q.2.2.1 q.1 q.2.2.2 = true ∧ pm_npf q.2.2.1 = true := by decide +kernel
theorem kLaw_c29 : ∀ q ∈ kcL_29, decode code q.1 = .ok (q.2.2.1, pm_len q.2.2.1 q.2.2.2) ∧ pm_tokB q.2.2.1 q.1 q.2.2.2 = true ∧ pm_npf q.2.2.1 = true := by decide +kernel
theorem kLaw_c30 : ∀ q ∈ kcL_30, decode code q.1 = .ok (q.2.2.1, pm_len q.2.2.1 q.2.2.2) ∧ pm_tokB q.2.2.1 q.1 q.2.2.2 = true ∧ pm_npf q.2.2.1 = true := by decide +kernel
theorem kLaw_c31 : ∀ q ∈ kcL_31, decode code q.1 = .ok (q.2.2.1, pm_len q.2.2.1 q.2.2.2) ∧ pm_tokB q.2.2.1 q.1 q.2.2.2 = true ∧ pm_npf q.2.2.1 = true := by decide +kernel
theorem kLaw_c32 : ∀ q ∈ kcL_32, decode code q.1 = .ok (q.2.2.1, pm_len q.2.2.1 q.2.2.2) ∧ pm_tokB q.2.2.1 q.1 q.2.2.2 = true ∧ pm_npf q.2.2.1 = true := by decide +kernel
theorem kLaw_c33 : ∀ q ∈ kcL_33, decode code q.1 = .ok (q.2.2.1, pm_len q.2.2.1 q.2.2.2) ∧ pm_tokB q.2.2.1 q.1 q.2.2.2 = true ∧ pm_npf q.2.2.1 = true := by decide +kernel
theorem kLaw_c34 : ∀ q ∈ kcL_34, decode code q.1 = .ok (q.2.2.1, pm_len q.2.2.1 q.2.2.2) ∧ pm_tokB q.2.2.1 q.1 q.2.2.2 = true ∧ pm_npf q.2.2.1 = true := by decide +kernel
theorem kLaw_c35 : ∀ q ∈ kcL_35, decode code q.1 = .ok (q.2.2.1, pm_len q.2.2.1 q.2.2.2) ∧ pm_tokB q.2.2.1 q.1 q.2.2.2 = true ∧ pm_npf q.2.2.1 = true := by decide +kernel
theorem kLaw_c36 : ∀ q ∈ kcL_36, decode code q.1 = .ok (q.2.2.1, pm_len q.2.2.1 q.2.2.2) ∧ pm_tokB q.2.2.1 q.1 q.2.2.2 = true ∧ pm_npf q.2.2.1 = true := by decide +kernel
theorem kLaw_c37 : ∀ q ∈ kcL_37, decode code q.1 = .ok (q.2.2.1, pm_len q.2.2.1 q.2.2.2) ∧ pm_tokB q.2.2.1 q.1 q.2.2.2 = true ∧ pm_npf q.2.2.1 = true := by decide +kernel
theorem kLaw_c38 : ∀ q ∈ kcL_38, decode code q.1 = .ok (q.2.2.1, pm_len q.2.2.1 q.2.2.2) ∧ pm_tokB q.2.2.1 q.1 q.2.2.2 = true ∧ pm_npf q.2.2.1 = true := by decide +kernel
theorem kLaw_c39 : ∀ q ∈ kcL_39, decode code q.1 = .ok (q.2.2.1, pm_len q.2.2.1 q.2.2.2) ∧ pm_tokB q.2.2.1 q.1 q.2.2.2 = true ∧ pm_npf q.2.2.1 = true := by decide +kernel
theorem kLaw_c40 : ∀ q ∈ kcL_40, decode code q.1 = .ok (q.2.2.1, pm_len q.2.2.1 q.2.2.2) ∧ pm_tokB q.2.2.1 q.1 q.2.2.2 = true ∧ pm_npf q.2.2.1 = true := by decide +kernel
theorem kLaw_c41 : ∀ q ∈ kcL_41, decode code q.1 = .ok (q.2.2.1, pm_len q.2.2.1 q.2.2.2) ∧ pm_tokB q.2.2.1 q.1 q.2.2.2 = true ∧ pm_npf q.2.2.1 = true := by decide +kernel
theorem kLaw_c42 : ∀ q ∈ kcL_42, decode code q.1 = .ok (q.2.2.1, pm_len q.2.2.1 q.2.2.2) ∧ pm_tokB q.2.2.1 q.1 q.2.2.2 = true ∧ pm_npf q.2.2.1 = true := by decide +kernel
theorem kLaw_c43 : ∀ q ∈ kcL_43, decode code q.1 = .ok (q.2.2.1, pm_len q.2.2.1 q.2.2.2) ∧ pm_tokB q.2.2.1 q.1 q.2.2.2 = true ∧ pm_npf q.2.2.1 = true := by decide +kernel
theorem kLaw_c44 : ∀ q ∈ kcL_44, decode code q.1 = .ok (q.2.2.1, pm_len q.2.2.1 q.2.2.2) ∧ pm_tokB q.2.2.1 q.1 q.2.2.2 = true ∧ pm_npf q.2.2.1 = true := by decide +kernel
theorem kLaw_c45 : ∀ q ∈ kcL_45, decode code q.1 = .ok (q.2.2.1, pm_len q.2.2.1 q.2.2.2) ∧ pm_tokB q.2.2.1 q.1 q.2.2.2 = true ∧ pm_npf q.2.2.1 = true := by decide +kernel
theorem kLaw_c46 : ∀ q ∈ kcL_46, decode code q.1 = .ok (q.2.2.1, pm_len q.2.2.1 q.2.2.2) ∧ pm_tokB q.2.2.1 q.1 q.2.2.2 = true ∧ pm_npf q.2.2.1 = true := by decide +kernel
theorem kLaw_c47 : ∀ q ∈ kcL_47, decode code q.1 = .ok (q.2.2.1, pm_len q.2.2.1 q.2.2.2) ∧ pm_tokB q.2.2.1 q.1 q.2.2.2 = true ∧ pm_npf q.2.2.1 = true := by decide +kernel
theorem kLaw_c48 : ∀ q ∈ kcL_48, decode code q.1 = .ok (q.2.2.1, pm_len q.2.2.1 q.2.2.2) ∧ pm_tokB q.2.2.1 q.1 q.2.2.2 = true ∧ pm_npf q.2.2.1 = true := by decide +kernel
theorem kLaw_c49 : ∀ q ∈ kcL_49, decode code q.1 = .ok (q.2.2.1, pm_len q.2.2.1 q.2.2.2) ∧ pm_tokB q.2.2.1 q.1 q.2.2.2 = true ∧ pm_npf q.2.2.1 = true := by decide +kernel
theorem kLaw_c50 : ∀ q ∈ kcL_50, decode code q.1 = .ok (q.2.2.1, pm_len q.2.2.1 q.2.2.2) ∧ pm_tokB q.2.2.1 q.1 q.2.2.2 = true ∧ pm_npf q.2.2.1 = true := by decide +kernel
theorem kLaw_c51 : ∀ q ∈ kcL_51, decode code q.1 = .ok (q.2.2.1, pm_len q.2.2.1 q.2.2.2) ∧ pm_tokB q.2.2.1 q.1 q.2.2.2 = true ∧ pm_npf q.2.2.1 = true := by decide +kernel
theorem kLaw_c52 : ∀ q ∈ kcL_52, decode code q.1 = .ok (q.2.2.1, pm_len q.2.2.1 q.2.2.2) ∧ pm_tokB q.2.2.1 q.1 q.2.2.2 = true ∧ pm_npf q.2.2.1 = true := by decide +kernel
theorem kLaw_c53 : ∀ q ∈ kcL_53, decode code q.1 = .ok (q.2.2.1, pm_len q.2.2.1 q.2.2.2) ∧ pm_tokB q.2.2.1 q.1 q.2.2.2 = true ∧ pm_npf q.2.2.1 = true := by decide +kernel
theorem kLaw_c54 : ∀ q ∈ kcL_54, decode code q.1 = .ok (q.2.2.1, pm_len q.2.2.1 q.2.2.2) ∧ pm_tokB q.2.2.1 q.1 q.2.2.2 = true ∧ pm_npf q.2.2.1 = true := by decide +kernel
theorem kLaw_c55 : ∀ q ∈ kcL_55, decode code q.1 = .ok (q.2.2.1, pm_len q.2.2.1 q.2.2.2) ∧ pm_tokB q.2.2.1 q.1 q.2.2.2 = true ∧ pm_npf q.2.2.1 = true := by decide +kernel
theorem kLaw_c56 : ∀ q ∈ kcL_56, decode code q.1 = .ok (q.2.2.1, pm_len q.2.2.1 q.2.2.2) ∧ pm_tokB q.2.2.1 q.1 q.2.2.2 = true ∧ pm_npf q.2.2.1 = true := by decide +kernel
theorem kLaw_c57 : ∀ q ∈ kcL_57, decode code q.1 = .ok (q.2.2.1, pm_len q.2.2.1 q.2.2.2) ∧ pm_tokB q.2.2.1 q.1 q.2.2.2 = true ∧ pm_npf q.2.2.1 = true := by decide +kernel
theorem kLaw_c58 : ∀ q ∈ kcL_58, decode code q.1 = .ok (q.2.2.1, pm_len q.2.2.1 q.2.2.2) ∧ pm_tokB q.2.2.1 q.1 q.2.2.2 = true ∧ pm_npf q.2.2.1 = true := by decide +kernel
theorem kLaw_c59 : ∀ q ∈ kcL_59, decode code q.1 = .ok (q.2.2.1, pm_len q.2.2.1 q.2.2.2) ∧ pm_tokB q.2.2.1 q.1 q.2.2.2 = true ∧ pm_npf q.2.2.1 = true := by decide +kernel
theorem kLaw_c60 : ∀ q ∈ kcL_60, decode code q.1 = .ok (q.2.2.1, pm_len q.2.2.1 q.2.2.2) ∧ pm_tokB q.2.2.1 q.1 q.2.2.2 = true ∧ pm_npf q.2.2.1 = true := by decide +kernel
theorem kLaw_c61 : ∀ q ∈ kcL_61, decode code q.1 = .ok (q.2.2.1, pm_len q.2.2.1 q.2.2.2) ∧ pm_tokB q.2.2.1 q.1 q.2.2.2 = true ∧ pm_npf q.2.2.1 = true := by decide +kernel
theorem kLaw_c62 : ∀ q ∈ kcL_62, decode code q.1 = .ok (q.2.2.1, pm_len q.2.2.1 q.2.2.2) ∧ pm_tokB q.2.2.1 q.1 q.2.2.2 = true ∧ pm_npf q.2.2.1 = true := by decide +kernel
theorem kLaw_c63 : ∀ q ∈ kcL_63, decode code q.1 = .ok (q.2.2.1, pm_len q.2.2.1 q.2.2.2) ∧ pm_tokB q.2.2.1 q.1 q.2.2.2 = true ∧ pm_npf q.2.2.1 = true := by decide +kernel
theorem kLaw_c64 : ∀ q ∈ kcL_64, decode code q.1 = .ok (q.2.2.1, pm_len q.2.2.1 q.2.2.2) ∧ pm_tokB q.2.2.1 q.1 q.2.2.2 = true ∧ pm_npf q.2.2.1 = true := by decide +kernel
theorem kLaw_c65 : ∀ q ∈ kcL_65, decode code q.1 = .ok (q.2.2.1, pm_len q.2.2.1 q.2.2.2) ∧ pm_tokB q.2.2.1 q.1 q.2.2.2 = true ∧ pm_npf q.2.2.1 = true := by decide +kernel
theorem kLaw_c66 : ∀ q ∈ kcL_66, decode code q.1 = .ok (q.2.2.1, pm_len q.2.2.1 q.2.2.2) ∧ pm_tokB q.2.2.1 q.1 q.2.2.2 = true ∧ pm_npf q.2.2.1 = true := by decide +kernel
theorem kLaw_c67 : ∀ q ∈ kcL_67, decode code q.1 = .ok (q.2.2.1, pm_len q.2.2.1 q.2.2.2) ∧ pm_tokB q.2.2.1 q.1 q.2.2.2 = true ∧ pm_npf q.2.2.1 = true := by decide +kernel
theorem kLaw_c68 : ∀ q ∈ kcL_68, decode code q.1 = .ok (q.2.2.1, pm_len q.2.2.1 q.2.2.2) ∧ pm_tokB q.2.2.1 q.1 q.2.2.2 = true ∧ pm_npf q.2.2.1 = true := by decide +kernel
theorem kLaw_c69 : ∀ q ∈ kcL_69, decode code q.1 = .ok (q.2.2.1, pm_len q.2.2.1 q.2.2.2) ∧ pm_tokB q.2.2.1 q.1 q.2.2.2 = true ∧ pm_npf q.2.2.1 = true := by decide +kernel
theorem kLaw_c70 : ∀ q ∈ kcL_70, decode code q.1 = .ok (q.2.2.1, pm_len q.2.2.1 q.2.2.2) ∧ pm_tokB q.2.2.1 q.1 q.2.2.2 = true ∧ pm_npf q.2.2.1 = true := by decide +kernel
theorem kLaw_c71 : ∀ q ∈ kcL_71, decode code q.1 = .ok (q.2.2.1, pm_len q.2.2.1 q.2.2.2) ∧ pm_tokB q.2.2.1 q.1 q.2.2.2 = true ∧ pm_npf q.2.2.1 = true := by decide +kernel
theorem kLaw_c72 : ∀ q ∈ kcL_72, decode code q.1 = .ok (q.2.2.1, pm_len q.2.2.1 q.2.2.2) ∧ pm_tokB q.2.2.1 q.1 q.2.2.2 = true ∧ pm_npf q.2.2.1 = true := by decide +kernel
theorem kLaw_c73 : ∀ q ∈ kcL_73, decode code q.1 = .ok (q.2.2.1, pm_len q.2.2.1 q.2.2.2) ∧ pm_tokB q.2.2.1 q.1 q.2.2.2 = true ∧ pm_npf q.2.2.1 = true := by decide +kernel
theorem kLaw_c74 : ∀ q ∈ kcL_74, decode code q.1 = .ok (q.2.2.1, pm_len q.2.2.1 q.2.2.2) ∧ pm_tokB q.2.2.1 q.1 q.2.2.2 = true ∧ pm_npf q.2.2.1 = true := by decide +kernel
theorem kLaw_c75 : ∀ q ∈ kcL_75, decode code q.1 = .ok (q.2.2.1, pm_len q.2.2.1 q.2.2.2) ∧ pm_tokB q.2.2.1 q.1 q.2.2.2 = true ∧ pm_npf q.2.2.1 = true := by decide +kernel
theorem kLaw_c76 : ∀ q ∈ kcL_76, decode code q.1 = .ok (q.2.2.1, pm_len q.2.2.1 q.2.2.2) ∧ pm_tokB q.2.2.1 q.1 q.2.2.2 = true ∧ pm_npf q.2.2.1 = true := by decide +kernel
theorem kLaw_c77 : ∀ q ∈ kcL_77, decode code q.1 = .ok (q.2.2.1, pm_len q.2.2.1 q.2.2.2) ∧ pm_tokB q.2.2.1 q.1 q.2.2.2 = true ∧ pm_npf q.2.2.1 = true := by decide +kernel
theorem kLaw_c78 : ∀ q ∈ kcL_78, decode code q.1 = .ok (q.2.2.1, pm_len q.2.2.1 q.2.2.2) ∧ pm_tokB q.2.2.1 q.1 q.2.2.2 = true ∧ pm_npf q.2.2.1 = true := by decide +kernel
theorem kLaw_c79 : ∀ q ∈ kcL_79, decode code q.1 = .ok (q.2.2.1, pm_len q.2.2.1 q.2.2.2) ∧ pm_tokB q.2.2.1 q.1 q.2.2.2 = true ∧ pm_npf q.2.2.1 = true := by decide +kernel
theorem kLaw_c80 : ∀ q ∈ kcL_80, decode code q.1 = .ok (q.2.2.1, pm_len q.2.2.1 q.2.2.2) ∧ pm_tokB q.2.2.1 q.1 q.2.2.2 = true ∧ pm_npf q.2.2.1 = true := by decide +kernel
theorem kLaw_c81 : ∀ q ∈ kcL_81, decode code q.1 = .ok (q.2.2.1, pm_len q.2.2.1 q.2.2.2) ∧ pm_tokB q.2.2.1 q.1 q.2.2.2 = true ∧ pm_npf q.2.2.1 = true := by decide +kernel
theorem kLaw_c82 : ∀ q ∈ kcL_82, decode code q.1 = .ok (q.2.2.1, pm_len q.2.2.1 q.2.2.2) ∧ pm_tokB q.2.2.1 q.1 q.2.2.2 = true ∧ pm_npf q.2.2.1 = true := by decide +kernel
theorem kLaw_c83 : ∀ q ∈ kcL_83, decode code q.1 = .ok (q.2.2.1, pm_len q.2.2.1 q.2.2.2) ∧ pm_tokB q.2.2.1 q.1 q.2.2.2 = true ∧ pm_npf q.2.2.1 = true := by decide +kernel
theorem kLaw_c84 : ∀ q ∈ kcL_84, decode code q.1 = .ok (q.2.2.1, pm_len q.2.2.1 q.2.2.2) ∧ pm_tokB q.2.2.1 q.1 q.2.2.2 = true ∧ pm_npf q.2.2.1 = true := by decide +kernel
theorem kLaw_c85 : ∀ q ∈ kcL_85, decode code q.1 = .ok (q.2.2.1, pm_len q.2.2.1 q.2.2.2) ∧ pm_tokB q.2.2.1 q.1 q.2.2.2 = true ∧ pm_npf q.2.2.1 = true := by decide +kernel
theorem kLaw_c86 : ∀ q ∈ kcL_86, decode code q.1 = .ok (q.2.2.1, pm_len q.2.2.1 q.2.2.2) ∧ pm_tokB q.2.2.1 q.1 q.2.2.2 = true ∧ pm_npf q.2.2.1 = true := by decide +kernel
theorem kLaw_c87 : ∀ q ∈ kcL_87, decode code q.1 = .ok (q.2.2.1, pm_len q.2.2.1 q.2.2.2) ∧ pm_tokB q.2.2.1 q.1 q.2.2.2 = true ∧ pm_npf q.2.2.1 = true := by decide +kernel
theorem kLaw_c88 : ∀ q ∈ kcL_88, decode code q.1 = .ok (q.2.2.1, pm_len q.2.2.1 q.2.2.2) ∧ pm_tokB q.2.2.1 q.1 q.2.2.2 = true ∧ pm_npf q.2.2.1 = true := by decide +kernel
theorem kLaw_c89 : ∀ q ∈ kcL_89, decode code q.1 = .ok (q.2.2.1, pm_len q.2.2.1 q.2.2.2) ∧ pm_tokB q.2.2.1 q.1 q.2.2.2 = true ∧ pm_npf q.2.2.1 = true := by decide +kernel
theorem kLaw_c90 : ∀ q ∈ kcL_90, decode code q.1 = .ok (q.2.2.1, pm_len q.2.2.1 q.2.2.2) ∧ pm_tokB q.2.2.1 q.1 q.2.2.2 = true ∧ pm_npf q.2.2.1 = true := by decide +kernel
theorem kLaw_c91 : ∀ q ∈ kcL_91, decode code q.1 = .ok (q.2.2.1, pm_len q.2.2.1 q.2.2.2) ∧ pm_tokB q.2.2.1 q.1 q.2.2.2 = true ∧ pm_npf q.2.2.1 = true := by decide +kernel
theorem kLaw_c92 : ∀ q ∈ kcL_92, decode code q.1 = .ok (q.2.2.1, pm_len q.2.2.1 q.2.2.2) ∧ pm_tokB q.2.2.1 q.1 q.2.2.2 = true ∧ pm_npf q.2.2.1 = true := by decide +kernel
theorem kLaw_c93 : ∀ q ∈ kcL_93, decode code q.1 = .ok (q.2.2.1, pm_len q.2.2.1 q.2.2.2) ∧ pm_tokB q.2.2.1 q.1 q.2.2.2 = true ∧ pm_npf q.2.2.1 = true := by decide +kernel
theorem kLaw_c94 : ∀ q ∈ kcL_94, decode code q.1 = .ok (q.2.2.1, pm_len q.2.2.1 q.2.2.2) ∧ pm_tokB q.2.2.1 q.1 q.2.2.2 = true ∧ pm_npf q.2.2.1 = true := by decide +kernel
theorem kLaw_c95 : ∀ q ∈ kcL_95, decode code q.1 = .ok (q.2.2.1, pm_len q.2.2.1 q.2.2.2) ∧ pm_tokB q.2.2.1 q.1 q.2.2.2 = true ∧ pm_npf q.2.2.1 = true := by decide +kernel
theorem kLaw_c96 : ∀ q ∈ kcL_96, decode code q.1 = .ok (q.2.2.1, pm_len q.2.2.1 q.2.2.2) ∧ pm_tokB q.2.2.1 q.1 q.2.2.2 = true ∧ pm_npf q.2.2.1 = true := by decide +kernel
theorem kLaw_ok : ∀ c ∈ kc_L, ∀ q ∈ c, decode code q.1 = .ok (q.2.2.1, pm_len q.2.2.1 q.2.2.2) ∧ pm_tokB q.2.2.1 q.1 q.2.2.2 = true ∧ pm_npf q.2.2.1 = true := List.forall_mem_cons.mpr ⟨kLaw_c0, List.forall_mem_cons.mpr ⟨kLaw_c1, List.forall_mem_cons.mpr ⟨kLaw_c2, List.forall_mem_cons.mpr ⟨kLaw_c3, List.forall_mem_cons.mpr ⟨kLaw_c4, List.forall_mem_cons.mpr ⟨kLaw_c5, List.forall_mem_cons.mpr ⟨kLaw_c6, List.forall_mem_cons.mpr ⟨kLaw_c7, List.forall_mem_cons.mpr ⟨kLaw_c8, List.forall_mem_cons.mpr ⟨kLaw_c9, List.forall_mem_cons.mpr ⟨kLaw_c10, List.forall_mem_cons.mpr ⟨kLaw_c11, List.forall_mem_cons.mpr ⟨kLaw_c12, List.forall_mem_cons.mpr ⟨kLaw_c13, List.forall_mem_cons.mpr ⟨kLaw_c14, List.forall_mem_cons.mpr ⟨kLaw_c15, List.forall_mem_cons.mpr ⟨kLaw_c16, List.forall_mem_cons.mpr ⟨kLaw_c17, List.forall_mem_cons.mpr ⟨kLaw_c18, List.forall_mem_cons.mpr ⟨kLaw_c19, List.forall_mem_cons.mpr ⟨kLaw_c20, List.forall_mem_cons.mpr ⟨kLaw_c21, List.forall_mem_cons.mpr ⟨kLaw_c22, List.forall_mem_cons.mpr ⟨kLaw_c23, List.forall_mem_cons.mpr ⟨kLaw_c24, List.forall_mem_cons.mpr ⟨kLaw_c25, List.forall_mem_cons.mpr ⟨kLaw_c26, List.forall_mem_cons.mpr ⟨kLaw_c27, List.forall_mem_cons.mpr ⟨kLaw_c28, List.forall_mem_cons.mpr ⟨kLaw_c29, List.forall_mem_cons.mpr ⟨kLaw_c30, List.forall_mem_cons.mpr ⟨kLaw_c31, List.forall_mem_cons.mpr ⟨kLaw_c32, List.forall_mem_cons.mpr ⟨kLaw_c33, List.forall_mem_cons.mpr ⟨kLaw_c34, List.forall_mem_cons.mpr ⟨kLaw_c35, List.forall_mem_cons.mpr ⟨kLaw_c36, List.forall_mem_cons.mpr ⟨kLaw_c37, List.forall_mem_cons.mpr ⟨kLaw_c38, List.forall_mem_cons.mpr ⟨kLaw_c39, List.forall_mem_cons.mpr ⟨kLaw_c40, List.forall_mem_cons.mpr ⟨kLaw_c41, List.forall_mem_cons.mpr ⟨kLaw_c42, List.forall_mem_cons.mpr ⟨kLaw_c43, List.forall_mem_cons.mpr ⟨kLaw_c44, List.forall_mem_cons.mpr ⟨kLaw_c45, List.forall_mem_cons.mpr ⟨kLaw_c46, List.forall_mem_cons.mpr ⟨kLaw_c47, List.forall_mem_cons.mpr ⟨kLaw_c48, List.forall_mem_cons.mpr ⟨kLaw_c49, List.forall_mem_cons.mpr ⟨kLaw_c50, List.forall_mem_cons.mpr ⟨kLaw_c51, List.forall_mem_cons.mpr ⟨kLaw_c52, List.forall_mem_cons.mpr ⟨kLaw_c53, List.forall_mem_cons.mpr ⟨kLaw_c54, List.forall_mem_cons.mpr ⟨kLaw_c55, List.forall_mem_cons.mpr ⟨kLaw_c56, List.forall_mem_cons.mpr ⟨kLaw_c57, List.forall_mem_cons.mpr ⟨kLaw_c58, List.forall_mem_cons.mpr ⟨kLaw_c59, List.forall_mem_cons.mpr ⟨kLaw_c60, List.forall_mem_cons.mpr ⟨kLaw_c61, List.forall_mem_cons.mpr ⟨kLaw_c62, List.forall_mem_cons.mpr ⟨kLaw_c63, List.forall_mem_cons.mpr ⟨kLaw_c64, List.forall_mem_cons.mpr ⟨kLaw_c65, List.forall_mem_cons.mpr ⟨kLaw_c66, List.forall_mem_cons.mpr ⟨kLaw_c67, List.forall_mem_cons.mpr ⟨kLaw_c68, List.forall_mem_cons.mpr ⟨kLaw_c69, List.forall_mem_cons.mpr ⟨kLaw_c70, List.forall_mem_cons.mpr ⟨kLaw_c71, List.forall_mem_cons.mpr ⟨kLaw_c72, List.forall_mem_cons.mpr ⟨kLaw_c73, List.forall_mem_cons.mpr ⟨kLaw_c74, List.forall_mem_cons.mpr ⟨kLaw_c75, List.forall_mem_cons.mpr ⟨kLaw_c76, List.forall_mem_cons.mpr ⟨kLaw_c77, List.forall_mem_cons.mpr ⟨kLaw_c78, List.forall_mem_cons.mpr ⟨kLaw_c79, List.forall_mem_cons.mpr ⟨kLaw_c80, List.forall_mem_cons.mpr ⟨kLaw_c81, List.forall_mem_cons.mpr ⟨kLaw_c82, List.forall_mem_cons.mpr ⟨kLaw_c83, List.forall_mem_cons.mpr ⟨kLaw_c84, List.forall_mem_cons.mpr ⟨kLaw_c85, List.forall_mem_cons.mpr ⟨kLaw_c86, List.forall_mem_cons.mpr ⟨kLaw_c87, List.forall_mem_cons.mpr ⟨kLaw_c88, List.forall_mem_cons.mpr ⟨kLaw_c89, List.forall_mem_cons.mpr ⟨kLaw_c90, List.forall_mem_cons.mpr ⟨kLaw_c91, List.forall_mem_cons.mpr ⟨kLaw_c92, List.forall_mem_cons.mpr ⟨kLaw_c93, List.forall_mem_cons.mpr ⟨kLaw_c94, List.forall_mem_cons.mpr ⟨kLaw_c95, List.forall_mem_cons.mpr ⟨kLaw_c96, fun _ h => absurd h List.not_mem_nil⟩⟩⟩⟩⟩⟩⟩⟩⟩⟩⟩⟩⟩⟩⟩⟩⟩⟩⟩⟩⟩⟩⟩⟩⟩⟩⟩⟩⟩⟩⟩⟩⟩⟩⟩⟩⟩⟩⟩⟩⟩⟩⟩⟩⟩⟩⟩⟩⟩⟩⟩⟩⟩⟩⟩⟩⟩⟩⟩⟩⟩⟩⟩⟩⟩⟩⟩⟩⟩⟩⟩⟩⟩⟩⟩⟩⟩⟩⟩⟩⟩⟩⟩⟩⟩⟩⟩⟩⟩⟩⟩⟩⟩⟩⟩⟩⟩
theorem kocd2 {xs : Nat → Int32} {L : Nat} : ∀ pc g ins aux, pm_code (kK2 xs L) 0 pc = some (g, ins, aux) → decode code pc = .ok (ins, pm_len ins aux) ∧ pm_tok ins pc aux ∧ ∀ i, ins ≠ .putfield i := by
  intro pc g ins aux h
  have h1 : pm_tl kc_L pc = some (g, ins, aux) := h
  obtain ⟨c, hc, hq⟩ := pm_tl_mem h1
  obtain ⟨g1, g2, g3⟩ := kLaw_ok c hc _ hq
  exact ⟨g1, pm_tokB_ok g2, fun i e => by subst e; cases g3⟩
theorem kolk2 {xs : Nat → Int32} {L : Nat} : ∀ i kd a b v, pm_lnk (kK2 xs L) (pm_own (kK2 xs L) 0) i = some (kd, a, b, v) → pm_lk (kK2 xs L) kM kcl kALL knws kzs krs kaos krof "BonnetValleyLaw" i kd a b v := by
  intro i kd a b v h
  have h1 : pm_tl kLo_22 i = some (kd, a, b, v) := h
  obtain ⟨c, hc, hq⟩ := pm_tl_mem h1
  have h2 := kLd_22 c hc _ hq
  unfold kLp pm_lk at h2
  unfold pm_lk
  exact h2
theorem kck2 {xs : Nat → Int32} {L : Nat} : pm_ck (kK2 xs L) kcl kALL := by
  have h := kck
  unfold pm_ck at h ⊢
  exact h
theorem kRO2 {ad : Nat → Nat} {A : Nat → Prop} {U : State} {H : Heap} {xs : Nat → Int32} {L : Nat} (h : pm_RO kzs krs kaos knws kK krof ad A U H) (hs : va_T .int (ad 1048581) L (fun j => .int (xs j)) A U H) : pm_RO kzs krs kaos knws (kK2 xs L) krof ad A U H := by
  obtain ⟨h1, h2, h3, h4, h5, h6⟩ := h
  have e1 : pm_ro (kK2 xs L) = pm_ro kK := Eq.trans (show pm_ro (kK2 xs L) = kro from rfl) (show kro = pm_ro kK from rfl)
  refine ⟨h1, h2, ?_, by rw [e1]; exact h4, h5, h6⟩
  intro a t n f hf
  by_cases e : a = 1048581
  · subst e
    have hf2 : some (0, L, fun j => Value.int (xs j)) = some (t, n, f) := hf
    cases hf2
    exact ⟨.int, Or.inl ⟨rfl, rfl⟩, hs⟩
  · refine h3 a t n f ?_
    cases hb : Nat.blt a 1048576 with
    | true =>
      unfold pm_rat at hf
      rw [hb] at hf
      cases hf
    | false =>
      have ha : 1048576 ≤ a := by
        rcases Nat.lt_or_ge a 1048576 with q | q
        · exact absurd (show Nat.blt a 1048576 = true from Nat.ble_eq_true_of_le q) (by rw [hb]; exact fun z => by cases z)
        · exact q
      obtain ⟨k, rfl⟩ : ∃ k, a = 1048576 + k := ⟨a - 1048576, by omega⟩
      have e9 : 1048576 + k - 1048576 = k := by omega
      have hne : k ≠ 5 := fun q => e (by rw [q])
      have hf2 : kra2 xs L k = some (t, n, f) := by
        unfold pm_rat at hf
        rw [hb] at hf
        simp only [cond_false, e9] at hf
        exact hf
      have h5 : Nat.beq k 5 = false := by
        cases hq : Nat.beq k 5 with
        | false => rfl
        | true => exact absurd (Nat.eq_of_beq_eq_true hq) hne
      unfold kra2 at hf2
      rw [h5] at hf2
      unfold pm_rat
      rw [hb]
      simp only [cond_false, e9]
      exact hf2
section KLAW
variable {p : Program} {l : Launch} {e : Env} {s : State} {m : MethodId} {below : List Frame} {meth : Method} {c : Code} {b L : Nat} {xs : Nat → Int32} {D : va_G} {dA : Nat → ClassId} {ra : Nat → Nat} {Q : State → Prop}
/-- what stands fast in the law's frame -/
def kFx (p : Program) (s : State) (m : MethodId) (meth : Method) (c : Code) (b L : Nat) (xs : Nat → Int32) (D : va_G) (dA : Nat → ClassId) (ra : Nat → Nat) : Prop :=
  lw_At p s m meth c b L xs ∧ ra 5 = b ∧ va_K D kcl (pm_tys dA "BonnetValley$State") s ∧ pm_RO kzs krs kaos knws kK krof (pm_ad s.heap.size ra) (fun q => s.heap.size ≤ q) s s.heap ∧ pm_RO kzs krs kaos knws (kK2 xs L) krof (pm_ad s.heap.size ra) (fun q => s.heap.size ≤ q) s s.heap
/-- from the state y of the law's frame on -/
def kW (p : Program) (l : Launch) (e : Env) (s : State) (m : MethodId) (below : List Frame) (meth : Method) (c : Code) (b : Nat) (D : va_G) (dA : Nat → ClassId) (ra : Nat → Nat) (al : Bool) (Q : State → Prop) (y : pm_S) : Prop :=
  ∀ (H : Heap) (locs : List Loc) (ls : Array Slot), va_P D kcl (pm_ws (pm_ad s.heap.size ra) dA s.heap.size y.2.2.2.1) H → va_S (fun q => s.heap.size ≤ q) s.heap H locs → (al = true → H.size = s.heap.size + y.2.2.2.1.length) → pm_lr (pm_ad s.heap.size ra) ls c.maxLocals y.2.1 → W p l e room_1 s m #[Value.ref b] below meth c H locs y.2.2.2.2.1 y.2.2.2.2.2 Q (F0 m y.1 ls (y.2.2.1.map (pm_u (pm_ad s.heap.size ra))))
theorem kW_run {al : Bool} {d n : Nat} {x y : pm_S} (F : kFx p s m meth c b L xs D dA ra) (hd : d ≤ 600) (h : pm_Sn (kK2 xs L) al (pm_Rd kK al d) 0 n x y) (hc : y.2.2.2.2.1 ≤ 600002) (hs : y.2.2.2.2.2 ≤ 7302232) (kk : kW p l e s m below meth c b D dA ra al Q y) : kW p l e s m below meth c b D dA ra al Q x := by
  intro H locs ls hP hS hz hl
  obtain ⟨⟨hx, hb, hr, hml, hown, hts, hX, hbl, hlocks, hgv⟩, h5, hK, hRO, hRO2⟩ := F
  have hw : ∀ w ∈ kALL, w.before #[Value.ref b] s = true := fun w h => hts w (List.mem_filter.mp h).1
  exact pm_S_ok (d := d) kok (pm_sound kok l d) hx hb hown hw kocd2 kolk2 kck2 kE hK hRO hRO2 (Nat.le_refl _) (show d + 1 ≤ 2048 by omega) (show d * 128 + 128 ≤ 84000 by omega) n x y h hc hs H locs ls hP hS hz hl kk
theorem kW_all {y : pm_S} (kk : kW p l e s m below meth c b D dA ra false Q y) : kW p l e s m below meth c b D dA ra true Q y := fun H locs ls hP hS _ hl => kk H locs ls hP hS (fun h => by cases h) hl
theorem kW_end {al : Bool} {Lc : List (Option Value)} {ph : pm_H} {cs ss : Nat} (F : kFx p s m meth c b L xs D dA ra) (hc : cs ≤ 600002) (hs : ss ≤ 7302232) : kW p l e s m below meth c b D dA ra al (lw_Z below #[Value.ref b] s) (1541, Lc, [.int 1], ph, cs, ss) := by
  intro H locs ls hP hS hz hl
  obtain ⟨⟨hx, hb, hr, hml, hown, hts, hX, hbl, hlocks, hgv⟩, h5, hK, hRO, hRO2⟩ := F
  refine va_forget (fun q hq => hS.2.2 q hq) ?_
  refine W.widen (k := 600002) (n := 7302232) hc hs ?_
  exact lw_ret hx hb hr hlocks (kocd2 (xs := xs) (L := L) 1541 7 .ireturn 0 rfl).1
/-- the entry -/
theorem kW_start (C0 : lw_At p s m meth c b L xs) (kk : ∀ (D : va_G) (dA : Nat → ClassId) (ra : Nat → Nat), kFx p s m meth c b L xs D dA ra → kW p l e s m below meth c b D dA ra true Q (pm_ent (kK2 xs L) 0 [.ref 1048581] [])) : W p l e room_1 s m #[Value.ref b] below meth c s.heap [] 0 0 Q (entryFrame m ([Value.ref b] : List Value).toArray 8) := by
  have C1 := C0
  obtain ⟨hx, hb, hr, hml, hown, hts, hX, hbl, hlocks, hgv⟩ := C0
  obtain ⟨D, dA, ra, h5, hK, hRO, hT⟩ := kstart hts hgv hX hbl
  have h5b : pm_ad s.heap.size ra 1048581 = b := h5
  have F : kFx p s m meth c b L xs D dA ra := ⟨C1, h5, hK, hRO, kRO2 hRO (by rw [h5b]; exact hT)⟩
  have hent : pm_entB (kK2 xs L) 0 [.ref 1048581] = true := rfl
  have hl := pm_ent_lr (ad := pm_ad s.heap.size ra) hent
  have e1 : ([Value.ref 1048581]).map (pm_u (pm_ad s.heap.size ra)) = [Value.ref b] := by
    show [Value.ref (pm_ad s.heap.size ra 1048581)] = _
    rw [h5b]
  rw [e1] at hl
  rw [lg_entry_eq]
  have hl2 : pm_lr (pm_ad s.heap.size ra) ((lg_sl [Value.ref b] ++ List.replicate (8 - (lg_sl [Value.ref b]).length) Slot.unset).toArray) c.maxLocals (pm_ent (kK2 xs L) 0 [.ref 1048581] []).2.1 := by
    rw [hml]
    exact hl
  exact kk D dA ra F s.heap [] _ (fun k q h => absurd h (by simp [pm_ws, pm_ent])) va_S.rf (fun _ => rfl) hl2
end KLAW
