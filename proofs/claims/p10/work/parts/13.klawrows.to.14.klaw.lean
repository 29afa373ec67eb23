/-! THE CLAIM OUT OF ONE WALK OF THE LAW'S BODY. Your part is whole_start (and what it stands on); all else here is the same for every law, but numbers. -/
def R_law : String := "BonnetValleyLaw"
def lw_P (b : Addr) (xs : List Int32) (args : Array Value) (s : State) : Prop := args = #[.ref b] ∧ s.IntsAt b xs ∧ xs.length ≤ 2560 ∧ (Jvm.Cond.and given_1 narrow_1).before args s = true
def lw_Q (_ : Array Value) (s : State) (o : Outcome) (t : State) : Prop := o = .returned (some (.int 1)) ∧ Framed s o t [] 601024 7293034
def lw_Z (below : List Frame) (a : Array Value) (s : State) : State → Prop := fun t => ∃ o, t.status = .running ∧ Ended t below o ∧ lw_Q a s o t
/-- the law's own end, with 1 on the stack, nothing written that was there before, its room as the claim has it -/
theorem lw_ret {p : Program} {l : Launch} {e : Env} {s : State} {m : MethodId} {below : List Frame} {meth : Method} {c : Code} {b : Nat} (hx : p.tables.exec = Jvm.exec) (hb : c.code = code) (hr : meth.sig.returnType = ret) (hlocks : meth.locks = false) {pc : Nat} {H : Heap} {ls : Array Slot} (hdg : decode code pc = .ok (.ireturn, 1)) : W p l e room_1 s m #[Value.ref b] below meth c H [] 601024 7293034 (lw_Z below #[Value.ref b] s) (F0 m pc ls [.int 1]) := by
  intro T hT X
  obtain ⟨fs, hret, hrun, hended, hW, hframe⟩ := X.leave (v := some (.int 1)) (hlocks := hlocks) (fun h => by rw [hr] at h; cases h)
  have hmeth' : T.vm.method? m = some meth := X.method'
  refine ⟨T.setFrames fs, ?_, .returned (some (.int 1)), hrun, hended, rfl, ⟨_, rfl⟩, hW, hframe⟩
  jvm_step X.here [X.here.top, hx, hb, hdg, hmeth', hr, ret, narrow_b1]
  (try refine ⟨rfl, ?_⟩); (try refine ⟨rfl, ?_⟩)
  first | (intro acts; rw [hret _ acts rfl rfl rfl]) | rw [hret _ _ rfl rfl rfl]
  exact Steps.refl _
/-- what holds at the law's entry: the machine, the code, the tables' words (any of lw_tbl by 'hts w (by decide +kernel)'), the script of L ints xs at the cell b, what the Statement gives of the start (any of its parts by flat_of_before) -/
def lw_At (p : Program) (s : State) (m : MethodId) (meth : Method) (c : Code) (b L : Nat) (xs : Nat → Int32) : Prop :=
  p.tables.exec = Jvm.exec ∧ c.code = code ∧ meth.sig.returnType = ret ∧ c.maxLocals = 8 ∧ s.vm.findClass R_law = some m.cls ∧ (∀ w ∈ lw_tbl, w.before #[Value.ref b] s = true) ∧ va_X b L xs s s.heap ∧ b < s.heap.size ∧ meth.locks = false ∧ (Jvm.Cond.and given_1 narrow_1).before #[Value.ref b] s = true
/-! The law's own frame: its code, its links; its callees by kK; the script is the fixed cell 5 -/
def pm_npf (ins : Instr) : Bool := match ins with
  | .putfield _ => false
  | _ => true
def pm_lawB (b : ByteArray) (pos : Nat) (rows : List (Nat × Nat × Instr × Nat)) : Bool := dkR b (b.data.toList.drop pos) pos rows && rows.all (fun q => pm_tokB q.2.2.1 q.1 q.2.2.2 && (pm_npf q.2.2.1 && !Nat.beq q.2.1 8))
theorem pm_lawB_ok {b : ByteArray} {pos : Nat} {rows : List (Nat × Nat × Instr × Nat)} (h : pm_lawB b pos rows = true) : ∀ q ∈ rows, decode b q.1 = .ok (q.2.2.1, pm_len q.2.2.1 q.2.2.2) ∧ pm_tokB q.2.2.1 q.1 q.2.2.2 = true ∧ pm_npf q.2.2.1 = true ∧ Nat.beq q.2.1 8 = false := by
  obtain ⟨h1, h2⟩ := Bool.and_eq_true_iff.mp h
  intro q hq
  obtain ⟨h3, h4⟩ := Bool.and_eq_true_iff.mp (List.all_eq_true.mp h2 q hq)
  obtain ⟨h5, h6⟩ := Bool.and_eq_true_iff.mp h4
  refine ⟨dkR_ok _ _ pos rfl h1 q hq, h3, h5, ?_⟩
  cases e : Nat.beq q.2.1 8 with
  | false => rfl
  | true =>
    rw [e] at h6
    cases h6
def kcL_0 : List (Nat × Nat × Instr × Nat) := [(0, 5, .new 8, 0), (3, 0, .dup, 0), (4, 6, .invokespecial 22, 0), (7, 3, .astore_n kF1, 0), (8, 5, .new 23, 0), (11, 0, .dup, 0), (12, 6, .invokespecial 25, 0), (15, 3, .astore_n kF2, 0)]
def kcL_1 : List (Nat × Nat × Instr × Nat) := [(16, 0, .iconst 1, 0), (17, 5, .newarray .long, 0), (19, 3, .astore_n kF3, 0), (20, 0, .iconst 0, 0), (21, 3, .istore 4, 0), (23, 2, .iload 4, 0), (25, 2, .aload_n kF0, 0), (26, 5, .arraylength, 0), (27, 0, .iconst 5, 0), (28, 0, .isub, 0), (29, 4, .if_icmp .gt 1453, 1482)]
def kcL_2 : List (Nat × Nat × Instr × Nat) := [(32, 2, .aload_n kF0, 0), (33, 2, .iload 4, 0), (35, 5, .iaload, 0), (36, 1, .bipush 63, 0), (38, 0, .iand, 0), (39, 4, .tableswitch 1437 0 46 #[201, 226, 251, 264, 277, 290, 303, 316, 356, 424, 485, 510, 547, 584, 621, 658, 671, 684, 709, 734, 747, 760, 785, 798, 811, 848, 861, 886, 911, 948, 961, 986, 1023, 1060, 1097, 1134, 1147, 1160, 1173, 1222, 1259, 1272, 1297, 1334, 1359, 1384, 1409], 201)]
def kcL_3 : List (Nat × Nat × Instr × Nat) := []
def kcL_4 : List (Nat × Nat × Instr × Nat) := []
def kcL_5 : List (Nat × Nat × Instr × Nat) := []
def kcL_6 : List (Nat × Nat × Instr × Nat) := []
def kcL_7 : List (Nat × Nat × Instr × Nat) := []
def kcL_8 : List (Nat × Nat × Instr × Nat) := []
def kcL_9 : List (Nat × Nat × Instr × Nat) := []
def kcL_10 : List (Nat × Nat × Instr × Nat) := []
def kcL_11 : List (Nat × Nat × Instr × Nat) := []
def kcL_12 : List (Nat × Nat × Instr × Nat) := []
def kcL_13 : List (Nat × Nat × Instr × Nat) := []
def kcL_14 : List (Nat × Nat × Instr × Nat) := []
def kcL_15 : List (Nat × Nat × Instr × Nat) := [(240, 2, .aload_n kF1, 0), (241, 2, .aload_n kF0, 0), (242, 2, .iload 4, 0), (244, 0, .iconst 1, 0), (245, 0, .iadd, 0), (246, 5, .iaload, 0), (247, 6, .invokevirtual 26, 0), (250, 0, .pop, 0), (251, 2, .aload_n kF2, 0), (252, 2, .aload_n kF0, 0), (253, 2, .iload 4, 0), (255, 0, .iconst 1, 0)]
def kcL_16 : List (Nat × Nat × Instr × Nat) := [(256, 0, .iadd, 0), (257, 5, .iaload, 0), (258, 6, .invokevirtual 30, 0), (261, 0, .pop, 0), (262, 4, .goto 1214, 1476), (265, 2, .aload_n kF1, 0), (266, 2, .aload_n kF0, 0), (267, 2, .iload 4, 0), (269, 0, .iconst 1, 0), (270, 0, .iadd, 0), (271, 5, .iaload, 0)]
def kcL_17 : List (Nat × Nat × Instr × Nat) := [(272, 6, .invokevirtual 31, 0), (275, 0, .pop, 0), (276, 2, .aload_n kF2, 0), (277, 2, .aload_n kF0, 0), (278, 2, .iload 4, 0), (280, 0, .iconst 1, 0), (281, 0, .iadd, 0), (282, 5, .iaload, 0), (283, 6, .invokevirtual 35, 0), (286, 0, .pop, 0), (287, 4, .goto 1189, 1476)]
def kcL_18 : List (Nat × Nat × Instr × Nat) := [(290, 2, .aload_n kF1, 0), (291, 6, .invokevirtual 36, 0), (294, 0, .pop, 0), (295, 2, .aload_n kF2, 0), (296, 6, .invokevirtual 40, 0), (299, 0, .pop, 0), (300, 4, .goto 1176, 1476), (303, 2, .aload_n kF1, 0)]
def kcL_19 : List (Nat × Nat × Instr × Nat) := [(304, 6, .invokevirtual 41, 0), (307, 0, .pop, 0), (308, 2, .aload_n kF2, 0), (309, 6, .invokevirtual 44, 0), (312, 0, .pop, 0), (313, 4, .goto 1163, 1476), (316, 2, .aload_n kF1, 0), (317, 6, .invokevirtual 45, 0)]
def kcL_20 : List (Nat × Nat × Instr × Nat) := [(320, 0, .pop, 0), (321, 2, .aload_n kF2, 0), (322, 6, .invokevirtual 48, 0), (325, 0, .pop, 0), (326, 4, .goto 1150, 1476), (329, 2, .aload_n kF1, 0), (330, 6, .invokevirtual 49, 0), (333, 0, .pop, 0), (334, 2, .aload_n kF2, 0), (335, 6, .invokevirtual 52, 0)]
def kcL_21 : List (Nat × Nat × Instr × Nat) := [(338, 0, .pop, 0), (339, 4, .goto 1137, 1476), (342, 2, .aload_n kF1, 0), (343, 6, .invokevirtual 53, 0), (346, 0, .pop, 0), (347, 2, .aload_n kF2, 0), (348, 6, .invokevirtual 56, 0), (351, 0, .pop, 0)]
def kcL_22 : List (Nat × Nat × Instr × Nat) := [(352, 4, .goto 1124, 1476), (355, 2, .aload_n kF1, 0), (356, 2, .aload_n kF0, 0), (357, 2, .iload 4, 0), (359, 0, .iconst 1, 0), (360, 0, .iadd, 0), (361, 5, .iaload, 0), (362, 2, .aload_n kF0, 0), (363, 2, .iload 4, 0), (365, 0, .iconst 2, 0), (366, 0, .iadd, 0), (367, 5, .iaload, 0)]
def kcL_23 : List (Nat × Nat × Instr × Nat) := [(368, 2, .aload_n kF3, 0), (372, 3, .istore 5, 0), (374, 2, .aload_n kF2, 0), (375, 2, .aload_n kF0, 0), (376, 2, .iload 4, 0), (378, 0, .iconst 1, 0), (379, 0, .iadd, 0), (380, 5, .iaload, 0), (381, 2, .aload_n kF0, 0), (382, 2, .iload 4, 0)]
def kcL_24 : List (Nat × Nat × Instr × Nat) := [(384, 0, .iconst 2, 0), (385, 0, .iadd, 0), (386, 5, .iaload, 0), (387, 6, .invokevirtual 62, 0), (390, 3, .istore 6, 0), (392, 4, .goto 1084, 1476), (395, 2, .aload_n kF1, 0), (396, 2, .aload_n kF0, 0), (397, 2, .iload 4, 0), (399, 0, .iconst 1, 0)]
def kcL_25 : List (Nat × Nat × Instr × Nat) := [(400, 0, .iadd, 0), (401, 5, .iaload, 0), (402, 2, .aload_n kF0, 0), (403, 2, .iload 4, 0), (405, 0, .iconst 2, 0), (406, 0, .iadd, 0), (407, 5, .iaload, 0), (408, 2, .aload_n kF3, 0), (412, 3, .istore 5, 0), (414, 2, .aload_n kF2, 0), (415, 2, .aload_n kF0, 0)]
def kcL_26 : List (Nat × Nat × Instr × Nat) := [(416, 2, .iload 4, 0), (418, 0, .iconst 1, 0), (419, 0, .iadd, 0), (420, 5, .iaload, 0), (421, 2, .aload_n kF0, 0), (422, 2, .iload 4, 0), (424, 0, .iconst 2, 0), (425, 0, .iadd, 0), (426, 5, .iaload, 0), (427, 6, .invokevirtual 65, 0), (430, 3, .istore 6, 0)]
def kcL_27 : List (Nat × Nat × Instr × Nat) := [(432, 2, .aload_n kF2, 0), (433, 6, .invokevirtual 66, 0), (436, 2, .iload 5, 0), (438, 4, .if_icmp .eq 5, 443), (441, 0, .iconst 0, 0), (442, 7, .ireturn, 0), (443, 2, .iload 5, 0), (445, 4, .ifCond .ne 15, 460)]
def kcL_28 : List (Nat × Nat × Instr × Nat) := [(448, 2, .aload_n kF3, 0), (449, 0, .iconst 0, 0), (450, 5, .laload, 0), (451, 2, .iload 6, 0), (453, 0, .i2l, 0), (454, 0, .lcmp, 0), (455, 4, .ifCond .eq 5, 460), (458, 0, .iconst 0, 0), (459, 7, .ireturn, 0), (460, 4, .goto 1016, 1476), (463, 2, .aload_n kF1, 0)]
def kcL_29 : List (Nat × Nat × Instr × Nat) := [(464, 2, .aload_n kF0, 0), (465, 2, .iload 4, 0), (467, 0, .iconst 1, 0), (468, 0, .iadd, 0), (469, 5, .iaload, 0), (470, 2, .aload_n kF0, 0), (471, 2, .iload 4, 0), (473, 0, .iconst 2, 0), (474, 0, .iadd, 0), (475, 5, .iaload, 0), (476, 2, .aload_n kF0, 0), (477, 2, .iload 4, 0), (479, 0, .iconst 3, 0)]
def kcL_30 : List (Nat × Nat × Instr × Nat) := [(480, 0, .iadd, 0), (481, 5, .iaload, 0), (482, 2, .aload_n kF0, 0), (483, 2, .iload 4, 0), (485, 0, .iconst 4, 0), (486, 0, .iadd, 0), (487, 5, .iaload, 0), (488, 6, .invokevirtual 69, 0), (491, 0, .pop, 0), (492, 2, .aload_n kF2, 0), (493, 2, .aload_n kF0, 0), (494, 2, .iload 4, 0)]
def kcL_31 : List (Nat × Nat × Instr × Nat) := [(496, 0, .iconst 1, 0), (497, 0, .iadd, 0), (498, 5, .iaload, 0), (499, 2, .aload_n kF0, 0), (500, 2, .iload 4, 0), (502, 0, .iconst 2, 0), (503, 0, .iadd, 0), (504, 5, .iaload, 0), (505, 2, .aload_n kF0, 0), (506, 2, .iload 4, 0), (508, 0, .iconst 3, 0), (509, 0, .iadd, 0), (510, 5, .iaload, 0), (511, 2, .aload_n kF0, 0)]
def kcL_32 : List (Nat × Nat × Instr × Nat) := [(512, 2, .iload 4, 0), (514, 0, .iconst 4, 0), (515, 0, .iadd, 0), (516, 5, .iaload, 0), (517, 6, .invokevirtual 73, 0), (520, 0, .pop, 0), (521, 4, .goto 955, 1476), (524, 2, .aload_n kF1, 0), (525, 2, .aload_n kF0, 0), (526, 2, .iload 4, 0)]
def kcL_33 : List (Nat × Nat × Instr × Nat) := [(528, 0, .iconst 1, 0), (529, 0, .iadd, 0), (530, 5, .iaload, 0), (531, 6, .invokevirtual 74, 0), (534, 0, .pop, 0), (535, 2, .aload_n kF2, 0), (536, 2, .aload_n kF0, 0), (537, 2, .iload 4, 0), (539, 0, .iconst 1, 0), (540, 0, .iadd, 0), (541, 5, .iaload, 0), (542, 6, .invokevirtual 77, 0)]
def kcL_34 : List (Nat × Nat × Instr × Nat) := [(545, 0, .pop, 0), (546, 4, .goto 930, 1476), (549, 2, .aload_n kF1, 0), (550, 2, .aload_n kF0, 0), (551, 2, .iload 4, 0), (553, 0, .iconst 1, 0), (554, 0, .iadd, 0), (555, 5, .iaload, 0), (556, 2, .aload_n kF0, 0), (557, 2, .iload 4, 0), (559, 0, .iconst 2, 0)]
def kcL_35 : List (Nat × Nat × Instr × Nat) := [(560, 0, .iadd, 0), (561, 5, .iaload, 0), (562, 6, .invokevirtual 78, 0), (565, 0, .pop, 0), (566, 2, .aload_n kF2, 0), (567, 2, .aload_n kF0, 0), (568, 2, .iload 4, 0), (570, 0, .iconst 1, 0), (571, 0, .iadd, 0), (572, 5, .iaload, 0), (573, 2, .aload_n kF0, 0), (574, 2, .iload 4, 0)]
def kcL_36 : List (Nat × Nat × Instr × Nat) := [(576, 0, .iconst 2, 0), (577, 0, .iadd, 0), (578, 5, .iaload, 0), (579, 6, .invokevirtual 81, 0), (582, 0, .pop, 0), (583, 4, .goto 893, 1476), (586, 2, .aload_n kF1, 0), (587, 2, .aload_n kF0, 0), (588, 2, .iload 4, 0), (590, 0, .iconst 1, 0), (591, 0, .iadd, 0)]
def kcL_37 : List (Nat × Nat × Instr × Nat) := [(592, 5, .iaload, 0), (593, 2, .aload_n kF0, 0), (594, 2, .iload 4, 0), (596, 0, .iconst 2, 0), (597, 0, .iadd, 0), (598, 5, .iaload, 0), (599, 6, .invokevirtual 82, 0), (602, 0, .pop, 0), (603, 2, .aload_n kF2, 0), (604, 2, .aload_n kF0, 0), (605, 2, .iload 4, 0), (607, 0, .iconst 1, 0)]
def kcL_38 : List (Nat × Nat × Instr × Nat) := [(608, 0, .iadd, 0), (609, 5, .iaload, 0), (610, 2, .aload_n kF0, 0), (611, 2, .iload 4, 0), (613, 0, .iconst 2, 0), (614, 0, .iadd, 0), (615, 5, .iaload, 0), (616, 6, .invokevirtual 85, 0), (619, 0, .pop, 0), (620, 4, .goto 856, 1476), (623, 2, .aload_n kF1, 0)]
def kcL_39 : List (Nat × Nat × Instr × Nat) := [(624, 2, .aload_n kF0, 0), (625, 2, .iload 4, 0), (627, 0, .iconst 1, 0), (628, 0, .iadd, 0), (629, 5, .iaload, 0), (630, 2, .aload_n kF0, 0), (631, 2, .iload 4, 0), (633, 0, .iconst 2, 0), (634, 0, .iadd, 0), (635, 5, .iaload, 0), (636, 6, .invokevirtual 86, 0), (639, 0, .pop, 0)]
def kcL_40 : List (Nat × Nat × Instr × Nat) := [(640, 2, .aload_n kF2, 0), (641, 2, .aload_n kF0, 0), (642, 2, .iload 4, 0), (644, 0, .iconst 1, 0), (645, 0, .iadd, 0), (646, 5, .iaload, 0), (647, 2, .aload_n kF0, 0), (648, 2, .iload 4, 0), (650, 0, .iconst 2, 0), (651, 0, .iadd, 0), (652, 5, .iaload, 0), (653, 6, .invokevirtual 89, 0)]
def kcL_41 : List (Nat × Nat × Instr × Nat) := [(656, 0, .pop, 0), (657, 4, .goto 819, 1476), (660, 2, .aload_n kF1, 0), (661, 2, .aload_n kF0, 0), (662, 2, .iload 4, 0), (664, 0, .iconst 1, 0), (665, 0, .iadd, 0), (666, 5, .iaload, 0), (667, 2, .aload_n kF0, 0), (668, 2, .iload 4, 0), (670, 0, .iconst 2, 0), (671, 0, .iadd, 0)]
def kcL_42 : List (Nat × Nat × Instr × Nat) := [(672, 5, .iaload, 0), (673, 6, .invokevirtual 90, 0), (676, 0, .pop, 0), (677, 2, .aload_n kF2, 0), (678, 2, .aload_n kF0, 0), (679, 2, .iload 4, 0), (681, 0, .iconst 1, 0), (682, 0, .iadd, 0), (683, 5, .iaload, 0), (684, 2, .aload_n kF0, 0), (685, 2, .iload 4, 0), (687, 0, .iconst 2, 0)]
def kcL_43 : List (Nat × Nat × Instr × Nat) := [(688, 0, .iadd, 0), (689, 5, .iaload, 0), (690, 6, .invokevirtual 93, 0), (693, 0, .pop, 0), (694, 4, .goto 782, 1476), (697, 2, .aload_n kF1, 0), (698, 6, .invokevirtual 94, 0), (701, 0, .pop, 0), (702, 2, .aload_n kF2, 0), (703, 6, .invokevirtual 97, 0)]
def kcL_44 : List (Nat × Nat × Instr × Nat) := [(706, 0, .pop, 0), (707, 4, .goto 769, 1476), (710, 2, .aload_n kF1, 0), (711, 6, .invokevirtual 98, 0), (714, 0, .pop, 0), (715, 2, .aload_n kF2, 0), (716, 6, .invokevirtual 101, 0), (719, 0, .pop, 0)]
def kcL_45 : List (Nat × Nat × Instr × Nat) := [(720, 4, .goto 756, 1476), (723, 2, .aload_n kF1, 0), (724, 2, .aload_n kF0, 0), (725, 2, .iload 4, 0), (727, 0, .iconst 1, 0), (728, 0, .iadd, 0), (729, 5, .iaload, 0), (730, 6, .invokevirtual 102, 0), (733, 0, .pop2, 0), (734, 2, .aload_n kF2, 0), (735, 2, .aload_n kF0, 0)]
def kcL_46 : List (Nat × Nat × Instr × Nat) := [(736, 2, .iload 4, 0), (738, 0, .iconst 1, 0), (739, 0, .iadd, 0), (740, 5, .iaload, 0), (741, 6, .invokevirtual 105, 0), (744, 0, .pop2, 0), (745, 4, .goto 731, 1476), (748, 2, .aload_n kF1, 0), (749, 2, .aload_n kF0, 0), (750, 2, .iload 4, 0)]
def kcL_47 : List (Nat × Nat × Instr × Nat) := [(752, 0, .iconst 1, 0), (753, 0, .iadd, 0), (754, 5, .iaload, 0), (755, 6, .invokevirtual 106, 0), (758, 0, .pop, 0), (759, 2, .aload_n kF2, 0), (760, 2, .aload_n kF0, 0), (761, 2, .iload 4, 0), (763, 0, .iconst 1, 0), (764, 0, .iadd, 0), (765, 5, .iaload, 0), (766, 6, .invokevirtual 109, 0)]
def kcL_48 : List (Nat × Nat × Instr × Nat) := [(769, 0, .pop, 0), (770, 4, .goto 706, 1476), (773, 2, .aload_n kF1, 0), (774, 6, .invokevirtual 110, 0), (777, 0, .pop2, 0), (778, 2, .aload_n kF2, 0), (779, 6, .invokevirtual 114, 0), (782, 0, .pop2, 0), (783, 4, .goto 693, 1476)]
def kcL_49 : List (Nat × Nat × Instr × Nat) := [(786, 2, .aload_n kF1, 0), (787, 6, .invokevirtual 115, 0), (790, 0, .pop, 0), (791, 2, .aload_n kF2, 0), (792, 6, .invokevirtual 118, 0), (795, 0, .pop, 0), (796, 4, .goto 680, 1476), (799, 2, .aload_n kF1, 0)]
def kcL_50 : List (Nat × Nat × Instr × Nat) := [(800, 2, .aload_n kF0, 0), (801, 2, .iload 4, 0), (803, 0, .iconst 1, 0), (804, 0, .iadd, 0), (805, 5, .iaload, 0), (806, 6, .invokevirtual 119, 0), (809, 0, .pop, 0), (810, 2, .aload_n kF2, 0), (811, 2, .aload_n kF0, 0), (812, 2, .iload 4, 0), (814, 0, .iconst 1, 0), (815, 0, .iadd, 0)]
def kcL_51 : List (Nat × Nat × Instr × Nat) := [(816, 5, .iaload, 0), (817, 6, .invokevirtual 122, 0), (820, 0, .pop, 0), (821, 4, .goto 655, 1476), (824, 2, .aload_n kF1, 0), (825, 6, .invokevirtual 123, 0), (828, 0, .pop, 0), (829, 2, .aload_n kF2, 0), (830, 6, .invokevirtual 126, 0)]
def kcL_52 : List (Nat × Nat × Instr × Nat) := [(833, 0, .pop, 0), (834, 4, .goto 642, 1476), (837, 2, .aload_n kF1, 0), (838, 6, .invokevirtual 127, 0), (841, 0, .pop, 0), (842, 2, .aload_n kF2, 0), (843, 6, .invokevirtual 130, 0), (846, 0, .pop, 0), (847, 4, .goto 629, 1476)]
def kcL_53 : List (Nat × Nat × Instr × Nat) := [(850, 2, .aload_n kF1, 0), (851, 2, .aload_n kF0, 0), (852, 2, .iload 4, 0), (854, 0, .iconst 1, 0), (855, 0, .iadd, 0), (856, 5, .iaload, 0), (857, 2, .aload_n kF0, 0), (858, 2, .iload 4, 0), (860, 0, .iconst 2, 0), (861, 0, .iadd, 0), (862, 5, .iaload, 0), (863, 6, .invokevirtual 131, 0)]
def kcL_54 : List (Nat × Nat × Instr × Nat) := [(866, 0, .pop, 0), (867, 2, .aload_n kF2, 0), (868, 2, .aload_n kF0, 0), (869, 2, .iload 4, 0), (871, 0, .iconst 1, 0), (872, 0, .iadd, 0), (873, 5, .iaload, 0), (874, 2, .aload_n kF0, 0), (875, 2, .iload 4, 0), (877, 0, .iconst 2, 0), (878, 0, .iadd, 0), (879, 5, .iaload, 0)]
def kcL_55 : List (Nat × Nat × Instr × Nat) := [(880, 6, .invokevirtual 134, 0), (883, 0, .pop, 0), (884, 4, .goto 592, 1476), (887, 2, .aload_n kF1, 0), (888, 6, .invokevirtual 135, 0), (891, 0, .pop, 0), (892, 2, .aload_n kF2, 0), (893, 6, .invokevirtual 138, 0)]
def kcL_56 : List (Nat × Nat × Instr × Nat) := [(896, 0, .pop, 0), (897, 4, .goto 579, 1476), (900, 2, .aload_n kF1, 0), (901, 2, .aload_n kF0, 0), (902, 2, .iload 4, 0), (904, 0, .iconst 1, 0), (905, 0, .iadd, 0), (906, 5, .iaload, 0), (907, 6, .invokevirtual 139, 0), (910, 0, .pop, 0), (911, 2, .aload_n kF2, 0)]
def kcL_57 : List (Nat × Nat × Instr × Nat) := [(912, 2, .aload_n kF0, 0), (913, 2, .iload 4, 0), (915, 0, .iconst 1, 0), (916, 0, .iadd, 0), (917, 5, .iaload, 0), (918, 6, .invokevirtual 142, 0), (921, 0, .pop, 0), (922, 4, .goto 554, 1476), (925, 2, .aload_n kF1, 0), (926, 2, .aload_n kF0, 0), (927, 2, .iload 4, 0)]
def kcL_58 : List (Nat × Nat × Instr × Nat) := [(929, 0, .iconst 1, 0), (930, 0, .iadd, 0), (931, 5, .iaload, 0), (932, 6, .invokevirtual 143, 0), (935, 0, .pop, 0), (936, 2, .aload_n kF2, 0), (937, 2, .aload_n kF0, 0), (938, 2, .iload 4, 0), (940, 0, .iconst 1, 0), (941, 0, .iadd, 0), (942, 5, .iaload, 0), (943, 6, .invokevirtual 146, 0)]
def kcL_59 : List (Nat × Nat × Instr × Nat) := [(946, 0, .pop, 0), (947, 4, .goto 529, 1476), (950, 2, .aload_n kF1, 0), (951, 2, .aload_n kF0, 0), (952, 2, .iload 4, 0), (954, 0, .iconst 1, 0), (955, 0, .iadd, 0), (956, 5, .iaload, 0), (957, 2, .aload_n kF0, 0), (958, 2, .iload 4, 0)]
def kcL_60 : List (Nat × Nat × Instr × Nat) := [(960, 0, .iconst 2, 0), (961, 0, .iadd, 0), (962, 5, .iaload, 0), (963, 6, .invokevirtual 147, 0), (966, 0, .pop, 0), (967, 2, .aload_n kF2, 0), (968, 2, .aload_n kF0, 0), (969, 2, .iload 4, 0), (971, 0, .iconst 1, 0), (972, 0, .iadd, 0), (973, 5, .iaload, 0), (974, 2, .aload_n kF0, 0), (975, 2, .iload 4, 0)]
def kcL_61 : List (Nat × Nat × Instr × Nat) := [(977, 0, .iconst 2, 0), (978, 0, .iadd, 0), (979, 5, .iaload, 0), (980, 6, .invokevirtual 150, 0), (983, 0, .pop, 0), (984, 4, .goto 492, 1476), (987, 2, .aload_n kF1, 0), (988, 6, .invokevirtual 151, 0), (991, 0, .pop, 0)]
def kcL_62 : List (Nat × Nat × Instr × Nat) := [(992, 2, .aload_n kF2, 0), (993, 6, .invokevirtual 154, 0), (996, 0, .pop, 0), (997, 4, .goto 479, 1476), (1000, 2, .aload_n kF1, 0), (1001, 2, .aload_n kF0, 0), (1002, 2, .iload 4, 0), (1004, 0, .iconst 1, 0), (1005, 0, .iadd, 0), (1006, 5, .iaload, 0), (1007, 6, .invokevirtual 155, 0)]
def kcL_63 : List (Nat × Nat × Instr × Nat) := [(1010, 0, .pop, 0), (1011, 2, .aload_n kF2, 0), (1012, 2, .aload_n kF0, 0), (1013, 2, .iload 4, 0), (1015, 0, .iconst 1, 0), (1016, 0, .iadd, 0), (1017, 5, .iaload, 0), (1018, 6, .invokevirtual 158, 0), (1021, 0, .pop, 0), (1022, 4, .goto 454, 1476)]
def kcL_64 : List (Nat × Nat × Instr × Nat) := [(1025, 2, .aload_n kF1, 0), (1026, 2, .aload_n kF0, 0), (1027, 2, .iload 4, 0), (1029, 0, .iconst 1, 0), (1030, 0, .iadd, 0), (1031, 5, .iaload, 0), (1032, 2, .aload_n kF0, 0), (1033, 2, .iload 4, 0), (1035, 0, .iconst 2, 0), (1036, 0, .iadd, 0), (1037, 5, .iaload, 0), (1038, 6, .invokevirtual 159, 0)]
def kcL_65 : List (Nat × Nat × Instr × Nat) := [(1041, 0, .pop, 0), (1042, 2, .aload_n kF2, 0), (1043, 2, .aload_n kF0, 0), (1044, 2, .iload 4, 0), (1046, 0, .iconst 1, 0), (1047, 0, .iadd, 0), (1048, 5, .iaload, 0), (1049, 2, .aload_n kF0, 0), (1050, 2, .iload 4, 0), (1052, 0, .iconst 2, 0), (1053, 0, .iadd, 0), (1054, 5, .iaload, 0), (1055, 6, .invokevirtual 162, 0)]
def kcL_66 : List (Nat × Nat × Instr × Nat) := [(1058, 0, .pop, 0), (1059, 4, .goto 417, 1476), (1062, 2, .aload_n kF1, 0), (1063, 2, .aload_n kF0, 0), (1064, 2, .iload 4, 0), (1066, 0, .iconst 1, 0), (1067, 0, .iadd, 0), (1068, 5, .iaload, 0), (1069, 2, .aload_n kF0, 0), (1070, 2, .iload 4, 0)]
def kcL_67 : List (Nat × Nat × Instr × Nat) := [(1072, 0, .iconst 2, 0), (1073, 0, .iadd, 0), (1074, 5, .iaload, 0), (1075, 6, .invokevirtual 163, 0), (1078, 0, .pop, 0), (1079, 2, .aload_n kF2, 0), (1080, 2, .aload_n kF0, 0), (1081, 2, .iload 4, 0), (1083, 0, .iconst 1, 0), (1084, 0, .iadd, 0), (1085, 5, .iaload, 0), (1086, 2, .aload_n kF0, 0), (1087, 2, .iload 4, 0)]
def kcL_68 : List (Nat × Nat × Instr × Nat) := [(1089, 0, .iconst 2, 0), (1090, 0, .iadd, 0), (1091, 5, .iaload, 0), (1092, 6, .invokevirtual 166, 0), (1095, 0, .pop, 0), (1096, 4, .goto 380, 1476), (1099, 2, .aload_n kF1, 0), (1100, 2, .aload_n kF0, 0), (1101, 2, .iload 4, 0), (1103, 0, .iconst 1, 0)]
def kcL_69 : List (Nat × Nat × Instr × Nat) := [(1104, 0, .iadd, 0), (1105, 5, .iaload, 0), (1106, 2, .aload_n kF0, 0), (1107, 2, .iload 4, 0), (1109, 0, .iconst 2, 0), (1110, 0, .iadd, 0), (1111, 5, .iaload, 0), (1112, 6, .invokevirtual 167, 0), (1115, 0, .pop, 0), (1116, 2, .aload_n kF2, 0), (1117, 2, .aload_n kF0, 0), (1118, 2, .iload 4, 0)]
def kcL_70 : List (Nat × Nat × Instr × Nat) := [(1120, 0, .iconst 1, 0), (1121, 0, .iadd, 0), (1122, 5, .iaload, 0), (1123, 2, .aload_n kF0, 0), (1124, 2, .iload 4, 0), (1126, 0, .iconst 2, 0), (1127, 0, .iadd, 0), (1128, 5, .iaload, 0), (1129, 6, .invokevirtual 170, 0), (1132, 0, .pop, 0), (1133, 4, .goto 343, 1476)]
def kcL_71 : List (Nat × Nat × Instr × Nat) := [(1136, 2, .aload_n kF1, 0), (1137, 2, .aload_n kF0, 0), (1138, 2, .iload 4, 0), (1140, 0, .iconst 1, 0), (1141, 0, .iadd, 0), (1142, 5, .iaload, 0), (1143, 2, .aload_n kF0, 0), (1144, 2, .iload 4, 0), (1146, 0, .iconst 2, 0), (1147, 0, .iadd, 0), (1148, 5, .iaload, 0), (1149, 6, .invokevirtual 171, 0)]
def kcL_72 : List (Nat × Nat × Instr × Nat) := [(1152, 0, .pop, 0), (1153, 2, .aload_n kF2, 0), (1154, 2, .aload_n kF0, 0), (1155, 2, .iload 4, 0), (1157, 0, .iconst 1, 0), (1158, 0, .iadd, 0), (1159, 5, .iaload, 0), (1160, 2, .aload_n kF0, 0), (1161, 2, .iload 4, 0), (1163, 0, .iconst 2, 0), (1164, 0, .iadd, 0), (1165, 5, .iaload, 0), (1166, 6, .invokevirtual 174, 0)]
def kcL_73 : List (Nat × Nat × Instr × Nat) := [(1169, 0, .pop, 0), (1170, 4, .goto 306, 1476), (1173, 2, .aload_n kF1, 0), (1174, 6, .invokevirtual 175, 0), (1177, 0, .pop, 0), (1178, 2, .aload_n kF2, 0), (1179, 6, .invokevirtual 178, 0), (1182, 0, .pop, 0), (1183, 4, .goto 293, 1476)]
def kcL_74 : List (Nat × Nat × Instr × Nat) := [(1186, 2, .aload_n kF1, 0), (1187, 6, .invokevirtual 179, 0), (1190, 0, .pop2, 0), (1191, 2, .aload_n kF2, 0), (1192, 6, .invokevirtual 182, 0), (1195, 0, .pop2, 0), (1196, 4, .goto 280, 1476), (1199, 2, .aload_n kF1, 0)]
def kcL_75 : List (Nat × Nat × Instr × Nat) := [(1200, 6, .invokevirtual 183, 0), (1203, 0, .pop, 0), (1204, 2, .aload_n kF2, 0), (1205, 6, .invokevirtual 186, 0), (1208, 0, .pop, 0), (1209, 4, .goto 267, 1476), (1212, 2, .aload_n kF1, 0), (1213, 2, .aload_n kF0, 0), (1214, 2, .iload 4, 0)]
def kcL_76 : List (Nat × Nat × Instr × Nat) := [(1216, 0, .iconst 1, 0), (1217, 0, .iadd, 0), (1218, 5, .iaload, 0), (1219, 2, .aload_n kF0, 0), (1220, 2, .iload 4, 0), (1222, 0, .iconst 2, 0), (1223, 0, .iadd, 0), (1224, 5, .iaload, 0), (1225, 2, .aload_n kF0, 0), (1226, 2, .iload 4, 0), (1228, 0, .iconst 3, 0), (1229, 0, .iadd, 0), (1230, 5, .iaload, 0), (1231, 6, .invokevirtual 187, 0)]
def kcL_77 : List (Nat × Nat × Instr × Nat) := [(1234, 0, .pop, 0), (1235, 2, .aload_n kF2, 0), (1236, 2, .aload_n kF0, 0), (1237, 2, .iload 4, 0), (1239, 0, .iconst 1, 0), (1240, 0, .iadd, 0), (1241, 5, .iaload, 0), (1242, 2, .aload_n kF0, 0), (1243, 2, .iload 4, 0), (1245, 0, .iconst 2, 0), (1246, 0, .iadd, 0), (1247, 5, .iaload, 0)]
def kcL_78 : List (Nat × Nat × Instr × Nat) := [(1248, 2, .aload_n kF0, 0), (1249, 2, .iload 4, 0), (1251, 0, .iconst 3, 0), (1252, 0, .iadd, 0), (1253, 5, .iaload, 0), (1254, 6, .invokevirtual 191, 0), (1257, 0, .pop, 0), (1258, 4, .goto 218, 1476), (1261, 2, .aload_n kF1, 0), (1262, 2, .aload_n kF0, 0), (1263, 2, .iload 4, 0)]
def kcL_79 : List (Nat × Nat × Instr × Nat) := [(1265, 0, .iconst 1, 0), (1266, 0, .iadd, 0), (1267, 5, .iaload, 0), (1268, 2, .aload_n kF0, 0), (1269, 2, .iload 4, 0), (1271, 0, .iconst 2, 0), (1272, 0, .iadd, 0), (1273, 5, .iaload, 0), (1274, 6, .invokevirtual 192, 0), (1277, 0, .pop, 0), (1278, 2, .aload_n kF2, 0), (1279, 2, .aload_n kF0, 0)]
def kcL_80 : List (Nat × Nat × Instr × Nat) := [(1280, 2, .iload 4, 0), (1282, 0, .iconst 1, 0), (1283, 0, .iadd, 0), (1284, 5, .iaload, 0), (1285, 2, .aload_n kF0, 0), (1286, 2, .iload 4, 0), (1288, 0, .iconst 2, 0), (1289, 0, .iadd, 0), (1290, 5, .iaload, 0), (1291, 6, .invokevirtual 195, 0), (1294, 0, .pop, 0), (1295, 4, .goto 181, 1476)]
def kcL_81 : List (Nat × Nat × Instr × Nat) := [(1298, 2, .aload_n kF1, 0), (1299, 6, .invokevirtual 196, 0), (1302, 0, .pop, 0), (1303, 2, .aload_n kF2, 0), (1304, 6, .invokevirtual 199, 0), (1307, 0, .pop, 0), (1308, 4, .goto 168, 1476), (1311, 2, .aload_n kF1, 0)]
def kcL_82 : List (Nat × Nat × Instr × Nat) := [(1312, 2, .aload_n kF0, 0), (1313, 2, .iload 4, 0), (1315, 0, .iconst 1, 0), (1316, 0, .iadd, 0), (1317, 5, .iaload, 0), (1318, 6, .invokevirtual 200, 0), (1321, 0, .pop, 0), (1322, 2, .aload_n kF2, 0), (1323, 2, .aload_n kF0, 0), (1324, 2, .iload 4, 0), (1326, 0, .iconst 1, 0), (1327, 0, .iadd, 0)]
def kcL_83 : List (Nat × Nat × Instr × Nat) := [(1328, 5, .iaload, 0), (1329, 6, .invokevirtual 203, 0), (1332, 0, .pop, 0), (1333, 4, .goto 143, 1476), (1336, 2, .aload_n kF1, 0), (1337, 2, .aload_n kF0, 0), (1338, 2, .iload 4, 0), (1340, 0, .iconst 1, 0), (1341, 0, .iadd, 0), (1342, 5, .iaload, 0), (1343, 2, .aload_n kF0, 0)]
def kcL_84 : List (Nat × Nat × Instr × Nat) := [(1344, 2, .iload 4, 0), (1346, 0, .iconst 2, 0), (1347, 0, .iadd, 0), (1348, 5, .iaload, 0), (1349, 6, .invokevirtual 204, 0), (1352, 0, .pop, 0), (1353, 2, .aload_n kF2, 0), (1354, 2, .aload_n kF0, 0), (1355, 2, .iload 4, 0), (1357, 0, .iconst 1, 0), (1358, 0, .iadd, 0), (1359, 5, .iaload, 0)]
def kcL_85 : List (Nat × Nat × Instr × Nat) := [(1360, 2, .aload_n kF0, 0), (1361, 2, .iload 4, 0), (1363, 0, .iconst 2, 0), (1364, 0, .iadd, 0), (1365, 5, .iaload, 0), (1366, 6, .invokevirtual 207, 0), (1369, 0, .pop, 0), (1370, 4, .goto 106, 1476), (1373, 2, .aload_n kF1, 0), (1374, 2, .aload_n kF0, 0), (1375, 2, .iload 4, 0)]
def kcL_86 : List (Nat × Nat × Instr × Nat) := [(1377, 0, .iconst 1, 0), (1378, 0, .iadd, 0), (1379, 5, .iaload, 0), (1380, 6, .invokevirtual 208, 0), (1383, 0, .pop, 0), (1384, 2, .aload_n kF2, 0), (1385, 2, .aload_n kF0, 0), (1386, 2, .iload 4, 0), (1388, 0, .iconst 1, 0), (1389, 0, .iadd, 0), (1390, 5, .iaload, 0), (1391, 6, .invokevirtual 211, 0)]
def kcL_87 : List (Nat × Nat × Instr × Nat) := [(1394, 0, .pop, 0), (1395, 4, .goto 81, 1476), (1398, 2, .aload_n kF1, 0), (1399, 2, .aload_n kF0, 0), (1400, 2, .iload 4, 0), (1402, 0, .iconst 1, 0), (1403, 0, .iadd, 0), (1404, 5, .iaload, 0), (1405, 6, .invokevirtual 212, 0)]
def kcL_88 : List (Nat × Nat × Instr × Nat) := [(1408, 0, .pop, 0), (1409, 2, .aload_n kF2, 0), (1410, 2, .aload_n kF0, 0), (1411, 2, .iload 4, 0), (1413, 0, .iconst 1, 0), (1414, 0, .iadd, 0), (1415, 5, .iaload, 0), (1416, 6, .invokevirtual 215, 0), (1419, 0, .pop, 0), (1420, 4, .goto 56, 1476), (1423, 2, .aload_n kF1, 0)]
def kcL_89 : List (Nat × Nat × Instr × Nat) := [(1424, 2, .aload_n kF0, 0), (1425, 2, .iload 4, 0), (1427, 0, .iconst 1, 0), (1428, 0, .iadd, 0), (1429, 5, .iaload, 0), (1430, 6, .invokevirtual 216, 0), (1433, 0, .pop, 0), (1434, 2, .aload_n kF2, 0), (1435, 2, .aload_n kF0, 0), (1436, 2, .iload 4, 0), (1438, 0, .iconst 1, 0), (1439, 0, .iadd, 0)]
def kcL_90 : List (Nat × Nat × Instr × Nat) := [(1440, 5, .iaload, 0), (1441, 6, .invokevirtual 219, 0), (1444, 0, .pop, 0), (1445, 4, .goto 31, 1476), (1448, 2, .aload_n kF1, 0), (1449, 2, .aload_n kF0, 0), (1450, 2, .iload 4, 0), (1452, 0, .iconst 1, 0), (1453, 0, .iadd, 0), (1454, 5, .iaload, 0), (1455, 2, .aload_n kF3, 0)]
def kcL_91 : List (Nat × Nat × Instr × Nat) := [(1459, 3, .istore 5, 0), (1461, 2, .aload_n kF2, 0), (1462, 2, .aload_n kF0, 0), (1463, 2, .iload 4, 0), (1465, 0, .iconst 1, 0), (1466, 0, .iadd, 0), (1467, 5, .iaload, 0), (1468, 6, .invokevirtual 223, 0), (1471, 3, .lstore 6, 0)]
def kcL_92 : List (Nat × Nat × Instr × Nat) := [(1473, 4, .goto 3, 1476), (1476, 3, .iinc 4 5, 0), (1479, 4, .goto (-1456), 23), (1482, 0, .iconst 1, 0), (1483, 7, .ireturn, 0)]
def kc_L : List (List (Nat × Nat × Instr × Nat)) := [kcL_0, kcL_1, kcL_2, kcL_3, kcL_4, kcL_5, kcL_6, kcL_7, kcL_8, kcL_9, kcL_10, kcL_11, kcL_12, kcL_13, kcL_14, kcL_15, kcL_16, kcL_17, kcL_18, kcL_19, kcL_20, kcL_21, kcL_22, kcL_23, kcL_24, kcL_25, kcL_26, kcL_27, kcL_28, kcL_29, kcL_30, kcL_31, kcL_32, kcL_33, kcL_34, kcL_35, kcL_36, kcL_37, kcL_38, kcL_39, kcL_40, kcL_41, kcL_42, kcL_43, kcL_44, kcL_45, kcL_46, kcL_47, kcL_48, kcL_49, kcL_50, kcL_51, kcL_52, kcL_53, kcL_54, kcL_55, kcL_56, kcL_57, kcL_58, kcL_59, kcL_60, kcL_61, kcL_62, kcL_63, kcL_64, kcL_65, kcL_66, kcL_67, kcL_68, kcL_69, kcL_70, kcL_71, kcL_72, kcL_73, kcL_74, kcL_75, kcL_76, kcL_77, kcL_78, kcL_79, kcL_80, kcL_81, kcL_82, kcL_83, kcL_84, kcL_85, kcL_86, kcL_87, kcL_88, kcL_89, kcL_90, kcL_91, kcL_92]
def ky_L : MethodName := ({ cls := "BonnetValleyLaw", name := "law", desc := "([I)Z" } : Jvm.MethodName)
def kRow_L : pm_Row := ((ky_L, code, 8, (Option.some Jvm.ClassFile.FieldType.boolean)), 22, (1, 8, 2), kc_L)
def kra2 (xs : Nat → Int32) (L a : Nat) : Option (Nat × Nat × (Nat → Value)) := bif Nat.beq a 5 then some (0, L, fun j => .int (xs j)) else kra a
def kK2 (xs : Nat → Int32) (L : Nat) : pm_K := pm_mkK [[kRow_L]] klks (kra2 xs L) kro knw kft 10
theorem kLaw_c0 : ∀ q ∈ kcL_0, decode code q.1 = .ok (q.2.2.1, pm_len q.2.2.1 q.2.2.2) ∧ pm_tokB q.2.2.1 q.1 q.2.2.2 = true ∧ pm_npf q.2.2.1 = true ∧ Nat.beq q.2.1 8 = false := pm_lawB_ok (pos := 0) (by decide +kernel)
theorem kLaw_c1 : ∀ q ∈ kcL_1, decode code q.1 = .ok (q.2.2.1, pm_len q.2.2.1 q.2.2.2) ∧ pm_tokB q.2.2.1 q.1 q.2.2.2 = true ∧ pm_npf q.2.2.1 = true ∧ Nat.beq q.2.1 8 = false := pm_lawB_ok (pos := 16) (by decide +kernel)
theorem kLaw_c2 : ∀ q ∈ kcL_2, decode code q.1 = .ok (q.2.2.1, pm_len q.2.2.1 q.2.2.2) ∧ pm_tokB q.2.2.1 q.1 q.2.2.2 = true ∧ pm_npf q.2.2.1 = true ∧ Nat.beq q.2.1 8 = false := pm_lawB_ok (pos := 32) (by decide +kernel)
theorem kLaw_c3 : ∀ q ∈ kcL_3, decode code q.1 = .ok (q.2.2.1, pm_len q.2.2.1 q.2.2.2) ∧ pm_tokB q.2.2.1 q.1 q.2.2.2 = true ∧ pm_npf q.2.2.1 = true ∧ Nat.beq q.2.1 8 = false := pm_lawB_ok (pos := 0) (by decide +kernel)
theorem kLaw_c4 : ∀ q ∈ kcL_4, decode code q.1 = .ok (q.2.2.1, pm_len q.2.2.1 q.2.2.2) ∧ pm_tokB q.2.2.1 q.1 q.2.2.2 = true ∧ pm_npf q.2.2.1 = true ∧ Nat.beq q.2.1 8 = false := pm_lawB_ok (pos := 0) (by decide +kernel)
theorem kLaw_c5 : ∀ q ∈ kcL_5, decode code q.1 = .ok (q.2.2.1, pm_len q.2.2.1 q.2.2.2) ∧ pm_tokB q.2.2.1 q.1 q.2.2.2 = true ∧ pm_npf q.2.2.1 = true ∧ Nat.beq q.2.1 8 = false := pm_lawB_ok (pos := 0) (by decide +kernel)
theorem kLaw_c6 : ∀ q ∈ kcL_6, decode code q.1 = .ok (q.2.2.1, pm_len q.2.2.1 q.2.2.2) ∧ pm_tokB q.2.2.1 q.1 q.2.2.2 = true ∧ pm_npf q.2.2.1 = true ∧ Nat.beq q.2.1 8 = false := pm_lawB_ok (pos := 0) (by decide +kernel)
theorem kLaw_c7 : ∀ q ∈ kcL_7, decode code q.1 = .ok (q.2.2.1, pm_len q.2.2.1 q.2.2.2) ∧ pm_tokB q.2.2.1 q.1 q.2.2.2 = true ∧ pm_npf q.2.2.1 = true ∧ Nat.beq q.2.1 8 = false := pm_lawB_ok (pos := 0) (by decide +kernel)
theorem kLaw_c8 : ∀ q ∈ kcL_8, decode code q.1 = .ok (q.2.2.1, pm_len q.2.2.1 q.2.2.2) ∧ pm_tokB q.2.2.1 q.1 q.2.2.2 = true ∧ pm_npf q.2.2.1 = true ∧ Nat.beq q.2.1 8 = false := pm_lawB_ok (pos := 0) (by decide +kernel)
theorem kLaw_c9 : ∀ q ∈ kcL_9, decode code q.1 = .ok (q.2.2.1, pm_len q.2.2.1 q.2.2.2) ∧ pm_tokB q.2.2.1 q.1 q.2.2.2 = true ∧ pm_npf q.2.2.1 = true ∧ Nat.beq q.2.1 8 = false := pm_lawB_ok (pos := 0) (by decide +kernel)
theorem kLaw_c10 : ∀ q ∈ kcL_10, decode code q.1 = .ok (q.2.2.1, pm_len q.2.2.1 q.2.2.2) ∧ pm_tokB q.2.2.1 q.1 q.2.2.2 = true ∧ pm_npf q.2.2.1 = true ∧ Nat.beq q.2.1 8 = false := pm_lawB_ok (pos := 0) (by decide +kernel)
theorem kLaw_c11 : ∀ q ∈ kcL_11, decode code q.1 = .ok (q.2.2.1, pm_len q.2.2.1 q.2.2.2) ∧ pm_tokB q.2.2.1 q.1 q.2.2.2 = true ∧ pm_npf q.2.2.1 = true ∧ Nat.beq q.2.1 8 = false := pm_lawB_ok (pos := 0) (by decide +kernel)
theorem kLaw_c12 : ∀ q ∈ kcL_12, decode code q.1 = .ok (q.2.2.1, pm_len q.2.2.1 q.2.2.2) ∧ pm_tokB q.2.2.1 q.1 q.2.2.2 = true ∧ pm_npf q.2.2.1 = true ∧ Nat.beq q.2.1 8 = false := pm_lawB_ok (pos := 0) (by decide +kernel)
theorem kLaw_c13 : ∀ q ∈ kcL_13, decode code q.1 = .ok (q.2.2.1, pm_len q.2.2.1 q.2.2.2) ∧ pm_tokB q.2.2.1 q.1 q.2.2.2 = true ∧ pm_npf q.2.2.1 = true ∧ Nat.beq q.2.1 8 = false := pm_lawB_ok (pos := 0) (by decide +kernel)
theorem kLaw_c14 : ∀ q ∈ kcL_14, decode code q.1 = .ok (q.2.2.1, pm_len q.2.2.1 q.2.2.2) ∧ pm_tokB q.2.2.1 q.1 q.2.2.2 = true ∧ pm_npf q.2.2.1 = true ∧ Nat.beq q.2.1 8 = false := pm_lawB_ok (pos := 0) (by decide +kernel)
theorem kLaw_c15 : ∀ q ∈ kcL_15, decode code q.1 = .ok (q.2.2.1, pm_len q.2.2.1 q.2.2.2) ∧ pm_tokB q.2.2.1 q.1 q.2.2.2 = true ∧ pm_npf q.2.2.1 = true ∧ Nat.beq q.2.1 8 = false := pm_lawB_ok (pos := 240) (by decide +kernel)
theorem kLaw_c16 : ∀ q ∈ kcL_16, decode code q.1 = .ok (q.2.2.1, pm_len q.2.2.1 q.2.2.2) ∧ pm_tokB q.2.2.1 q.1 q.2.2.2 = true ∧ pm_npf q.2.2.1 = true ∧ Nat.beq q.2.1 8 = false := pm_lawB_ok (pos := 256) (by decide +kernel)
theorem kLaw_c17 : ∀ q ∈ kcL_17, decode code q.1 = .ok (q.2.2.1, pm_len q.2.2.1 q.2.2.2) ∧ pm_tokB q.2.2.1 q.1 q.2.2.2 = true ∧ pm_npf q.2.2.1 = true ∧ Nat.beq q.2.1 8 = false := pm_lawB_ok (pos := 272) (by decide +kernel)
theorem kLaw_c18 : ∀ q ∈ kcL_18, decode code q.1 = .ok (q.2.2.1, pm_len q.2.2.1 q.2.2.2) ∧ pm_tokB q.2.2.1 q.1 q.2.2.2 = true ∧ pm_npf q.2.2.1 = true ∧ Nat.beq q.2.1 8 = false := pm_lawB_ok (pos := 290) (by decide +kernel)
theorem kLaw_c19 : ∀ q ∈ kcL_19, decode code q.1 = .ok (q.2.2.1, pm_len q.2.2.1 q.2.2.2) ∧ pm_tokB q.2.2.1 q.1 q.2.2.2 = true ∧ pm_npf q.2.2.1 = true ∧ Nat.beq q.2.1 8 = false := pm_lawB_ok (pos := 304) (by decide +kernel)
theorem kLaw_c20 : ∀ q ∈ kcL_20, decode code q.1 = .ok (q.2.2.1, pm_len q.2.2.1 q.2.2.2) ∧ pm_tokB q.2.2.1 q.1 q.2.2.2 = true ∧ pm_npf q.2.2.1 = true ∧ Nat.beq q.2.1 8 = false := pm_lawB_ok (pos := 320) (by decide +kernel)
theorem kLaw_c21 : ∀ q ∈ kcL_21, decode code q.1 = .ok (q.2.2.1, pm_len q.2.2.1 q.2.2.2) ∧ pm_tokB q.2.2.1 q.1 q.2.2.2 = true ∧ pm_npf q.2.2.1 = true ∧ Nat.beq q.2.1 8 = false := pm_lawB_ok (pos := 338) (by decide +kernel)
theorem kLaw_c22 : ∀ q ∈ kcL_22, decode code q.1 = .ok (q.2.2.1, pm_len q.2.2.1 q.2.2.2) ∧ pm_tokB q.2.2.1 q.1 q.2.2.2 = true ∧ pm_npf q.2.2.1 = true ∧ Nat.beq q.2.1 8 = false := pm_lawB_ok (pos := 352) (by decide +kernel)
theorem kLaw_c23 : ∀ q ∈ kcL_23, decode code q.1 = .ok (q.2.2.1, pm_len q.2.2.1 q.2.2.2) ∧ pm_tokB q.2.2.1 q.1 q.2.2.2 = true ∧ pm_npf q.2.2.1 = true ∧ Nat.beq q.2.1 8 = false := pm_lawB_ok (pos := 368) (by decide +kernel)
theorem kLaw_c24 : ∀ q ∈ kcL_24, decode code q.1 = .ok (q.2.2.1, pm_len q.2.2.1 q.2.2.2) ∧ pm_tokB q.2.2.1 q.1 q.2.2.2 = true ∧ pm_npf q.2.2.1 = true ∧ Nat.beq q.2.1 8 = false := pm_lawB_ok (pos := 384) (by decide +kernel)
theorem kLaw_c25 : ∀ q ∈ kcL_25, decode code q.1 = .ok (q.2.2.1, pm_len q.2.2.1 q.2.2.2) ∧ pm_tokB q.2.2.1 q.1 q.2.2.2 = true ∧ pm_npf q.2.2.1 = true ∧ Nat.beq q.2.1 8 = false := pm_lawB_ok (pos := 400) (by decide +kernel)
theorem kLaw_c26 : ∀ q ∈ kcL_26, decode code q.1 = .ok (q.2.2.1, pm_len q.2.2.1 q.2.2.2) ∧ pm_tokB q.2.2.1 q.1 q.2.2.2 = true ∧ pm_npf q.2.2.1 = true ∧ Nat.beq q.2.1 8 = false := pm_lawB_ok (pos := 416) (by decide +kernel)
theorem kLaw_c27 : ∀ q ∈ kcL_27, decode code q.1 = .ok (q.2.2.1, pm_len q.2.2.1 q.2.2.2) ∧ pm_tokB q.2.2.1 q.1 q.2.2.2 = true ∧ pm_npf q.2.2.1 = true ∧ Nat.beq q.2.1 8 = false := pm_lawB_ok (pos := 432) (by decide +kernel)
theorem kLaw_c28 : ∀ q ∈ kcL_28, decode code q.1 = .ok (q.2.2.1, pm_len q.2.2.1 q.2.2.2) ∧ pm_tokB q.2.2.1 q.1 q.2.2.2 = true ∧ pm_npf q.2.2.1 = true ∧ Nat.beq q.2.1 8 = false := pm_lawB_ok (pos := 448) (by decide +kernel)
theorem kLaw_c29 : ∀ q ∈ kcL_29, decode code q.1 = .ok (q.2.2.1, pm_len q.2.2.1 q.2.2.2) ∧ pm_tokB q.2.2.1 q.1 q.2.2.2 = true ∧ pm_npf q.2.2.1 = true ∧ Nat.beq q.2.1 8 = false := pm_lawB_ok (pos := 464) (by decide +kernel)
theorem kLaw_c30 : ∀ q ∈ kcL_30, decode code q.1 = .ok (q.2.2.1, pm_len q.2.2.1 q.2.2.2) ∧ pm_tokB q.2.2.1 q.1 q.2.2.2 = true ∧ pm_npf q.2.2.1 = true ∧ Nat.beq q.2.1 8 = false := pm_lawB_ok (pos := 480) (by decide +kernel)
theorem kLaw_c31 : ∀ q ∈ kcL_31, decode code q.1 = .ok (q.2.2.1, pm_len q.2.2.1 q.2.2.2) ∧ pm_tokB q.2.2.1 q.1 q.2.2.2 = true ∧ pm_npf q.2.2.1 = true ∧ Nat.beq q.2.1 8 = false := pm_lawB_ok (pos := 496) (by decide +kernel)
theorem kLaw_c32 : ∀ q ∈ kcL_32, decode code q.1 = .ok (q.2.2.1, pm_len q.2.2.1 q.2.2.2) ∧ pm_tokB q.2.2.1 q.1 q.2.2.2 = true ∧ pm_npf q.2.2.1 = true ∧ Nat.beq q.2.1 8 = false := pm_lawB_ok (pos := 512) (by decide +kernel)
theorem kLaw_c33 : ∀ q ∈ kcL_33, decode code q.1 = .ok (q.2.2.1, pm_len q.2.2.1 q.2.2.2) ∧ pm_tokB q.2.2.1 q.1 q.2.2.2 = true ∧ pm_npf q.2.2.1 = true ∧ Nat.beq q.2.1 8 = false := pm_lawB_ok (pos := 528) (by decide +kernel)
theorem kLaw_c34 : ∀ q ∈ kcL_34, decode code q.1 = .ok (q.2.2.1, pm_len q.2.2.1 q.2.2.2) ∧ pm_tokB q.2.2.1 q.1 q.2.2.2 = true ∧ pm_npf q.2.2.1 = true ∧ Nat.beq q.2.1 8 = false := pm_lawB_ok (pos := 545) (by decide +kernel)
theorem kLaw_c35 : ∀ q ∈ kcL_35, decode code q.1 = .ok (q.2.2.1, pm_len q.2.2.1 q.2.2.2) ∧ pm_tokB q.2.2.1 q.1 q.2.2.2 = true ∧ pm_npf q.2.2.1 = true ∧ Nat.beq q.2.1 8 = false := pm_lawB_ok (pos := 560) (by decide +kernel)
theorem kLaw_c36 : ∀ q ∈ kcL_36, decode code q.1 = .ok (q.2.2.1, pm_len q.2.2.1 q.2.2.2) ∧ pm_tokB q.2.2.1 q.1 q.2.2.2 = true ∧ pm_npf q.2.2.1 = true ∧ Nat.beq q.2.1 8 = false := pm_lawB_ok (pos := 576) (by decide +kernel)
theorem kLaw_c37 : ∀ q ∈ kcL_37, decode code q.1 = .ok (q.2.2.1, pm_len q.2.2.1 q.2.2.2) ∧ pm_tokB q.2.2.1 q.1 q.2.2.2 = true ∧ pm_npf q.2.2.1 = true ∧ Nat.beq q.2.1 8 = false := pm_lawB_ok (pos := 592) (by decide +kernel)
theorem kLaw_c38 : ∀ q ∈ kcL_38, decode code q.1 = .ok (q.2.2.1, pm_len q.2.2.1 q.2.2.2) ∧ pm_tokB q.2.2.1 q.1 q.2.2.2 = true ∧ pm_npf q.2.2.1 = true ∧ Nat.beq q.2.1 8 = false := pm_lawB_ok (pos := 608) (by decide +kernel)
theorem kLaw_c39 : ∀ q ∈ kcL_39, decode code q.1 = .ok (q.2.2.1, pm_len q.2.2.1 q.2.2.2) ∧ pm_tokB q.2.2.1 q.1 q.2.2.2 = true ∧ pm_npf q.2.2.1 = true ∧ Nat.beq q.2.1 8 = false := pm_lawB_ok (pos := 624) (by decide +kernel)
theorem kLaw_c40 : ∀ q ∈ kcL_40, decode code q.1 = .ok (q.2.2.1, pm_len q.2.2.1 q.2.2.2) ∧ pm_tokB q.2.2.1 q.1 q.2.2.2 = true ∧ pm_npf q.2.2.1 = true ∧ Nat.beq q.2.1 8 = false := pm_lawB_ok (pos := 640) (by decide +kernel)
theorem kLaw_c41 : ∀ q ∈ kcL_41, decode code q.1 = .ok (q.2.2.1, pm_len q.2.2.1 q.2.2.2) ∧ pm_tokB q.2.2.1 q.1 q.2.2.2 = true ∧ pm_npf q.2.2.1 = true ∧ Nat.beq q.2.1 8 = false := pm_lawB_ok (pos := 656) (by decide +kernel)
theorem kLaw_c42 : ∀ q ∈ kcL_42, decode code q.1 = .ok (q.2.2.1, pm_len q.2.2.1 q.2.2.2) ∧ pm_tokB q.2.2.1 q.1 q.2.2.2 = true ∧ pm_npf q.2.2.1 = true ∧ Nat.beq q.2.1 8 = false := pm_lawB_ok (pos := 672) (by decide +kernel)
theorem kLaw_c43 : ∀ q ∈ kcL_43, decode code q.1 = .ok (q.2.2.1, pm_len q.2.2.1 q.2.2.2) ∧ pm_tokB q.2.2.1 q.1 q.2.2.2 = true ∧ pm_npf q.2.2.1 = true ∧ Nat.beq q.2.1 8 = false := pm_lawB_ok (pos := 688) (by decide +kernel)
theorem kLaw_c44 : ∀ q ∈ kcL_44, decode code q.1 = .ok (q.2.2.1, pm_len q.2.2.1 q.2.2.2) ∧ pm_tokB q.2.2.1 q.1 q.2.2.2 = true ∧ pm_npf q.2.2.1 = true ∧ Nat.beq q.2.1 8 = false := pm_lawB_ok (pos := 706) (by decide +kernel)
theorem kLaw_c45 : ∀ q ∈ kcL_45, decode code q.1 = .ok (q.2.2.1, pm_len q.2.2.1 q.2.2.2) ∧ pm_tokB q.2.2.1 q.1 q.2.2.2 = true ∧ pm_npf q.2.2.1 = true ∧ Nat.beq q.2.1 8 = false := pm_lawB_ok (pos := 720) (by decide +kernel)
theorem kLaw_c46 : ∀ q ∈ kcL_46, decode code q.1 = .ok (q.2.2.1, pm_len q.2.2.1 q.2.2.2) ∧ pm_tokB q.2.2.1 q.1 q.2.2.2 = true ∧ pm_npf q.2.2.1 = true ∧ Nat.beq q.2.1 8 = false := pm_lawB_ok (pos := 736) (by decide +kernel)
theorem kLaw_c47 : ∀ q ∈ kcL_47, decode code q.1 = .ok (q.2.2.1, pm_len q.2.2.1 q.2.2.2) ∧ pm_tokB q.2.2.1 q.1 q.2.2.2 = true ∧ pm_npf q.2.2.1 = true ∧ Nat.beq q.2.1 8 = false := pm_lawB_ok (pos := 752) (by decide +kernel)
theorem kLaw_c48 : ∀ q ∈ kcL_48, decode code q.1 = .ok (q.2.2.1, pm_len q.2.2.1 q.2.2.2) ∧ pm_tokB q.2.2.1 q.1 q.2.2.2 = true ∧ pm_npf q.2.2.1 = true ∧ Nat.beq q.2.1 8 = false := pm_lawB_ok (pos := 769) (by decide +kernel)
theorem kLaw_c49 : ∀ q ∈ kcL_49, decode code q.1 = .ok (q.2.2.1, pm_len q.2.2.1 q.2.2.2) ∧ pm_tokB q.2.2.1 q.1 q.2.2.2 = true ∧ pm_npf q.2.2.1 = true ∧ Nat.beq q.2.1 8 = false := pm_lawB_ok (pos := 786) (by decide +kernel)
theorem kLaw_c50 : ∀ q ∈ kcL_50, decode code q.1 = .ok (q.2.2.1, pm_len q.2.2.1 q.2.2.2) ∧ pm_tokB q.2.2.1 q.1 q.2.2.2 = true ∧ pm_npf q.2.2.1 = true ∧ Nat.beq q.2.1 8 = false := pm_lawB_ok (pos := 800) (by decide +kernel)
theorem kLaw_c51 : ∀ q ∈ kcL_51, decode code q.1 = .ok (q.2.2.1, pm_len q.2.2.1 q.2.2.2) ∧ pm_tokB q.2.2.1 q.1 q.2.2.2 = true ∧ pm_npf q.2.2.1 = true ∧ Nat.beq q.2.1 8 = false := pm_lawB_ok (pos := 816) (by decide +kernel)
theorem kLaw_c52 : ∀ q ∈ kcL_52, decode code q.1 = .ok (q.2.2.1, pm_len q.2.2.1 q.2.2.2) ∧ pm_tokB q.2.2.1 q.1 q.2.2.2 = true ∧ pm_npf q.2.2.1 = true ∧ Nat.beq q.2.1 8 = false := pm_lawB_ok (pos := 833) (by decide +kernel)
theorem kLaw_c53 : ∀ q ∈ kcL_53, decode code q.1 = .ok (q.2.2.1, pm_len q.2.2.1 q.2.2.2) ∧ pm_tokB q.2.2.1 q.1 q.2.2.2 = true ∧ pm_npf q.2.2.1 = true ∧ Nat.beq q.2.1 8 = false := pm_lawB_ok (pos := 850) (by decide +kernel)
theorem kLaw_c54 : ∀ q ∈ kcL_54, decode code q.1 = .ok (q.2.2.1, pm_len q.2.2.1 q.2.2.2) ∧ pm_tokB q.2.2.1 q.1 q.2.2.2 = true ∧ pm_npf q.2.2.1 = true ∧ Nat.beq q.2.1 8 = false := pm_lawB_ok (pos := 866) (by decide +kernel)
theorem kLaw_c55 : ∀ q ∈ kcL_55, decode code q.1 = .ok (q.2.2.1, pm_len q.2.2.1 q.2.2.2) ∧ pm_tokB q.2.2.1 q.1 q.2.2.2 = true ∧ pm_npf q.2.2.1 = true ∧ Nat.beq q.2.1 8 = false := pm_lawB_ok (pos := 880) (by decide +kernel)
theorem kLaw_c56 : ∀ q ∈ kcL_56, decode code q.1 = .ok (q.2.2.1, pm_len q.2.2.1 q.2.2.2) ∧ pm_tokB q.2.2.1 q.1 q.2.2.2 = true ∧ pm_npf q.2.2.1 = true ∧ Nat.beq q.2.1 8 = false := pm_lawB_ok (pos := 896) (by decide +kernel)
theorem kLaw_c57 : ∀ q ∈ kcL_57, decode code q.1 = .ok (q.2.2.1, pm_len q.2.2.1 q.2.2.2) ∧ pm_tokB q.2.2.1 q.1 q.2.2.2 = true ∧ pm_npf q.2.2.1 = true ∧ Nat.beq q.2.1 8 = false := pm_lawB_ok (pos := 912) (by decide +kernel)
theorem kLaw_c58 : ∀ q ∈ kcL_58, decode code q.1 = .ok (q.2.2.1, pm_len q.2.2.1 q.2.2.2) ∧ pm_tokB q.2.2.1 q.1 q.2.2.2 = true ∧ pm_npf q.2.2.1 = true ∧ Nat.beq q.2.1 8 = false := pm_lawB_ok (pos := 929) (by decide +kernel)
theorem kLaw_c59 : ∀ q ∈ kcL_59, decode code q.1 = .ok (q.2.2.1, pm_len q.2.2.1 q.2.2.2) ∧ pm_tokB q.2.2.1 q.1 q.2.2.2 = true ∧ pm_npf q.2.2.1 = true ∧ Nat.beq q.2.1 8 = false := pm_lawB_ok (pos := 946) (by decide +kernel)
theorem kLaw_c60 : ∀ q ∈ kcL_60, decode code q.1 = .ok (q.2.2.1, pm_len q.2.2.1 q.2.2.2) ∧ pm_tokB q.2.2.1 q.1 q.2.2.2 = true ∧ pm_npf q.2.2.1 = true ∧ Nat.beq q.2.1 8 = false := pm_lawB_ok (pos := 960) (by decide +kernel)
theorem kLaw_c61 : ∀ q ∈ kcL_61, decode code q.1 = .ok (q.2.2.1, pm_len q.2.2.1 q.2.2.2) ∧ pm_tokB q.2.2.1 q.1 q.2.2.2 = true ∧ pm_npf q.2.2.1 = true ∧ Nat.beq q.2.1 8 = false := pm_lawB_ok (pos := 977) (by decide +kernel)
theorem kLaw_c62 : ∀ q ∈ kcL_62, decode code q.1 = .ok (q.2.2.1, pm_len q.2.2.1 q.2.2.2) ∧ pm_tokB q.2.2.1 q.1 q.2.2.2 = true ∧ pm_npf q.2.2.1 = true ∧ Nat.beq q.2.1 8 = false := pm_lawB_ok (pos := 992) (by decide +kernel)
theorem kLaw_c63 : ∀ q ∈ kcL_63, decode code q.1 = .ok (q.2.2.1, pm_len q.2.2.1 q.2.2.2) ∧ pm_tokB q.2.2.1 q.1 q.2.2.2 = true ∧ pm_npf q.2.2.1 = true ∧ Nat.beq q.2.1 8 = false := pm_lawB_ok (pos := 1010) (by decide +kernel)
theorem kLaw_c64 : ∀ q ∈ kcL_64, decode code q.1 = .ok (q.2.2.1, pm_len q.2.2.1 q.2.2.2) ∧ pm_tokB q.2.2.1 q.1 q.2.2.2 = true ∧ pm_npf q.2.2.1 = true ∧ Nat.beq q.2.1 8 = false := pm_lawB_ok (pos := 1025) (by decide +kernel)
theorem kLaw_c65 : ∀ q ∈ kcL_65, decode code q.1 = .ok (q.2.2.1, pm_len q.2.2.1 q.2.2.2) ∧ pm_tokB q.2.2.1 q.1 q.2.2.2 = true ∧ pm_npf q.2.2.1 = true ∧ Nat.beq q.2.1 8 = false := pm_lawB_ok (pos := 1041) (by decide +kernel)
theorem kLaw_c66 : ∀ q ∈ kcL_66, decode code q.1 = .ok (q.2.2.1, pm_len q.2.2.1 q.2.2.2) ∧ pm_tokB q.2.2.1 q.1 q.2.2.2 = true ∧ pm_npf q.2.2.1 = true ∧ Nat.beq q.2.1 8 = false := pm_lawB_ok (pos := 1058) (by decide +kernel)
theorem kLaw_c67 : ∀ q ∈ kcL_67, decode code q.1 = .ok (q.2.2.1, pm_len q.2.2.1 q.2.2.2) ∧ pm_tokB q.2.2.1 q.1 q.2.2.2 = true ∧ pm_npf q.2.2.1 = true ∧ Nat.beq q.2.1 8 = false := pm_lawB_ok (pos := 1072) (by decide +kernel)
theorem kLaw_c68 : ∀ q ∈ kcL_68, decode code q.1 = .ok (q.2.2.1, pm_len q.2.2.1 q.2.2.2) ∧ pm_tokB q.2.2.1 q.1 q.2.2.2 = true ∧ pm_npf q.2.2.1 = true ∧ Nat.beq q.2.1 8 = false := pm_lawB_ok (pos := 1089) (by decide +kernel)
theorem kLaw_c69 : ∀ q ∈ kcL_69, decode code q.1 = .ok (q.2.2.1, pm_len q.2.2.1 q.2.2.2) ∧ pm_tokB q.2.2.1 q.1 q.2.2.2 = true ∧ pm_npf q.2.2.1 = true ∧ Nat.beq q.2.1 8 = false := pm_lawB_ok (pos := 1104) (by decide +kernel)
theorem kLaw_c70 : ∀ q ∈ kcL_70, decode code q.1 = .ok (q.2.2.1, pm_len q.2.2.1 q.2.2.2) ∧ pm_tokB q.2.2.1 q.1 q.2.2.2 = true ∧ pm_npf q.2.2.1 = true ∧ Nat.beq q.2.1 8 = false := pm_lawB_ok (pos := 1120) (by decide +kernel)
theorem kLaw_c71 : ∀ q ∈ kcL_71, decode code q.1 = .ok (q.2.2.1, pm_len q.2.2.1 q.2.2.2) ∧ pm_tokB q.2.2.1 q.1 q.2.2.2 = true ∧ pm_npf q.2.2.1 = true ∧ Nat.beq q.2.1 8 = false := pm_lawB_ok (pos := 1136) (by decide +kernel)
theorem kLaw_c72 : ∀ q ∈ kcL_72, decode code q.1 = .ok (q.2.2.1, pm_len q.2.2.1 q.2.2.2) ∧ pm_tokB q.2.2.1 q.1 q.2.2.2 = true ∧ pm_npf q.2.2.1 = true ∧ Nat.beq q.2.1 8 = false := pm_lawB_ok (pos := 1152) (by decide +kernel)
theorem kLaw_c73 : ∀ q ∈ kcL_73, decode code q.1 = .ok (q.2.2.1, pm_len q.2.2.1 q.2.2.2) ∧ pm_tokB q.2.2.1 q.1 q.2.2.2 = true ∧ pm_npf q.2.2.1 = true ∧ Nat.beq q.2.1 8 = false := pm_lawB_ok (pos := 1169) (by decide +kernel)
theorem kLaw_c74 : ∀ q ∈ kcL_74, decode code q.1 = .ok (q.2.2.1, pm_len q.2.2.1 q.2.2.2) ∧ pm_tokB q.2.2.1 q.1 q.2.2.2 = true ∧ pm_npf q.2.2.1 = true ∧ Nat.beq q.2.1 8 = false := pm_lawB_ok (pos := 1186) (by decide +kernel)
theorem kLaw_c75 : ∀ q ∈ kcL_75, decode code q.1 = .ok (q.2.2.1, pm_len q.2.2.1 q.2.2.2) ∧ pm_tokB q.2.2.1 q.1 q.2.2.2 = true ∧ pm_npf q.2.2.1 = true ∧ Nat.beq q.2.1 8 = false := pm_lawB_ok (pos := 1200) (by decide +kernel)
theorem kLaw_c76 : ∀ q ∈ kcL_76, decode code q.1 = .ok (q.2.2.1, pm_len q.2.2.1 q.2.2.2) ∧ pm_tokB q.2.2.1 q.1 q.2.2.2 = true ∧ pm_npf q.2.2.1 = true ∧ Nat.beq q.2.1 8 = false := pm_lawB_ok (pos := 1216) (by decide +kernel)
theorem kLaw_c77 : ∀ q ∈ kcL_77, decode code q.1 = .ok (q.2.2.1, pm_len q.2.2.1 q.2.2.2) ∧ pm_tokB q.2.2.1 q.1 q.2.2.2 = true ∧ pm_npf q.2.2.1 = true ∧ Nat.beq q.2.1 8 = false := pm_lawB_ok (pos := 1234) (by decide +kernel)
theorem kLaw_c78 : ∀ q ∈ kcL_78, decode code q.1 = .ok (q.2.2.1, pm_len q.2.2.1 q.2.2.2) ∧ pm_tokB q.2.2.1 q.1 q.2.2.2 = true ∧ pm_npf q.2.2.1 = true ∧ Nat.beq q.2.1 8 = false := pm_lawB_ok (pos := 1248) (by decide +kernel)
theorem kLaw_c79 : ∀ q ∈ kcL_79, decode code q.1 = .ok (q.2.2.1, pm_len q.2.2.1 q.2.2.2) ∧ pm_tokB q.2.2.1 q.1 q.2.2.2 = true ∧ pm_npf q.2.2.1 = true ∧ Nat.beq q.2.1 8 = false := pm_lawB_ok (pos := 1265) (by decide +kernel)
theorem kLaw_c80 : ∀ q ∈ kcL_80, decode code q.1 = .ok (q.2.2.1, pm_len q.2.2.1 q.2.2.2) ∧ pm_tokB q.2.2.1 q.1 q.2.2.2 = true ∧ pm_npf q.2.2.1 = true ∧ Nat.beq q.2.1 8 = false := pm_lawB_ok (pos := 1280) (by decide +kernel)
theorem kLaw_c81 : ∀ q ∈ kcL_81, decode code q.1 = .ok (q.2.2.1, pm_len q.2.2.1 q.2.2.2) ∧ pm_tokB q.2.2.1 q.1 q.2.2.2 = true ∧ pm_npf q.2.2.1 = true ∧ Nat.beq q.2.1 8 = false := pm_lawB_ok (pos := 1298) (by decide +kernel)
theorem kLaw_c82 : ∀ q ∈ kcL_82, decode code q.1 = .ok (q.2.2.1, pm_len q.2.2.1 q.2.2.2) ∧ pm_tokB q.2.2.1 q.1 q.2.2.2 = true ∧ pm_npf q.2.2.1 = true ∧ Nat.beq q.2.1 8 = false := pm_lawB_ok (pos := 1312) (by decide +kernel)
theorem kLaw_c83 : ∀ q ∈ kcL_83, decode code q.1 = .ok (q.2.2.1, pm_len q.2.2.1 q.2.2.2) ∧ pm_tokB q.2.2.1 q.1 q.2.2.2 = true ∧ pm_npf q.2.2.1 = true ∧ Nat.beq q.2.1 8 = false := pm_lawB_ok (pos := 1328) (by decide +kernel)
theorem kLaw_c84 : ∀ q ∈ kcL_84, decode code q.1 = .ok (q.2.2.1, pm_len q.2.2.1 q.2.2.2) ∧ pm_tokB q.2.2.1 q.1 q.2.2.2 = true ∧ pm_npf q.2.2.1 = true ∧ Nat.beq q.2.1 8 = false := pm_lawB_ok (pos := 1344) (by decide +kernel)
theorem kLaw_c85 : ∀ q ∈ kcL_85, decode code q.1 = .ok (q.2.2.1, pm_len q.2.2.1 q.2.2.2) ∧ pm_tokB q.2.2.1 q.1 q.2.2.2 = true ∧ pm_npf q.2.2.1 = true ∧ Nat.beq q.2.1 8 = false := pm_lawB_ok (pos := 1360) (by decide +kernel)
theorem kLaw_c86 : ∀ q ∈ kcL_86, decode code q.1 = .ok (q.2.2.1, pm_len q.2.2.1 q.2.2.2) ∧ pm_tokB q.2.2.1 q.1 q.2.2.2 = true ∧ pm_npf q.2.2.1 = true ∧ Nat.beq q.2.1 8 = false := pm_lawB_ok (pos := 1377) (by decide +kernel)
theorem kLaw_c87 : ∀ q ∈ kcL_87, decode code q.1 = .ok (q.2.2.1, pm_len q.2.2.1 q.2.2.2) ∧ pm_tokB q.2.2.1 q.1 q.2.2.2 = true ∧ pm_npf q.2.2.1 = true ∧ Nat.beq q.2.1 8 = false := pm_lawB_ok (pos := 1394) (by decide +kernel)
theorem kLaw_c88 : ∀ q ∈ kcL_88, decode code q.1 = .ok (q.2.2.1, pm_len q.2.2.1 q.2.2.2) ∧ pm_tokB q.2.2.1 q.1 q.2.2.2 = true ∧ pm_npf q.2.2.1 = true ∧ Nat.beq q.2.1 8 = false := pm_lawB_ok (pos := 1408) (by decide +kernel)
theorem kLaw_c89 : ∀ q ∈ kcL_89, decode code q.1 = .ok (q.2.2.1, pm_len q.2.2.1 q.2.2.2) ∧ pm_tokB q.2.2.1 q.1 q.2.2.2 = true ∧ pm_npf q.2.2.1 = true ∧ Nat.beq q.2.1 8 = false := pm_lawB_ok (pos := 1424) (by decide +kernel)
theorem kLaw_c90 : ∀ q ∈ kcL_90, decode code q.1 = .ok (q.2.2.1, pm_len q.2.2.1 q.2.2.2) ∧ pm_tokB q.2.2.1 q.1 q.2.2.2 = true ∧ pm_npf q.2.2.1 = true ∧ Nat.beq q.2.1 8 = false := pm_lawB_ok (pos := 1440) (by decide +kernel)
theorem kLaw_c91 : ∀ q ∈ kcL_91, decode code q.1 = .ok (q.2.2.1, pm_len q.2.2.1 q.2.2.2) ∧ pm_tokB q.2.2.1 q.1 q.2.2.2 = true ∧ pm_npf q.2.2.1 = true ∧ Nat.beq q.2.1 8 = false := pm_lawB_ok (pos := 1459) (by decide +kernel)
theorem kLaw_c92 : ∀ q ∈ kcL_92, decode code q.1 = .ok (q.2.2.1, pm_len q.2.2.1 q.2.2.2) ∧ pm_tokB q.2.2.1 q.1 q.2.2.2 = true ∧ pm_npf q.2.2.1 = true ∧ Nat.beq q.2.1 8 = false := pm_lawB_ok (pos := 1473) (by decide +kernel)
theorem kLaw_ok : ∀ c ∈ kc_L, ∀ q ∈ c, decode code q.1 = .ok (q.2.2.1, pm_len q.2.2.1 q.2.2.2) ∧ pm_tokB q.2.2.1 q.1 q.2.2.2 = true ∧ pm_npf q.2.2.1 = true ∧ Nat.beq q.2.1 8 = false := List.forall_mem_cons.mpr ⟨kLaw_c0, List.forall_mem_cons.mpr ⟨kLaw_c1, List.forall_mem_cons.mpr ⟨kLaw_c2, List.forall_mem_cons.mpr ⟨kLaw_c3, List.forall_mem_cons.mpr ⟨kLaw_c4, List.forall_mem_cons.mpr ⟨kLaw_c5, List.forall_mem_cons.mpr ⟨kLaw_c6, List.forall_mem_cons.mpr ⟨kLaw_c7, List.forall_mem_cons.mpr ⟨kLaw_c8, List.forall_mem_cons.mpr ⟨kLaw_c9, List.forall_mem_cons.mpr ⟨kLaw_c10, List.forall_mem_cons.mpr ⟨kLaw_c11, List.forall_mem_cons.mpr ⟨kLaw_c12, List.forall_mem_cons.mpr ⟨kLaw_c13, List.forall_mem_cons.mpr ⟨kLaw_c14, List.forall_mem_cons.mpr ⟨kLaw_c15, List.forall_mem_cons.mpr ⟨kLaw_c16, List.forall_mem_cons.mpr ⟨kLaw_c17, List.forall_mem_cons.mpr ⟨kLaw_c18, List.forall_mem_cons.mpr ⟨kLaw_c19, List.forall_mem_cons.mpr ⟨kLaw_c20, List.forall_mem_cons.mpr ⟨kLaw_c21, List.forall_mem_cons.mpr ⟨kLaw_c22, List.forall_mem_cons.mpr ⟨kLaw_c23, List.forall_mem_cons.mpr ⟨kLaw_c24, List.forall_mem_cons.mpr ⟨kLaw_c25, List.forall_mem_cons.mpr ⟨kLaw_c26, List.forall_mem_cons.mpr ⟨kLaw_c27, List.forall_mem_cons.mpr ⟨kLaw_c28, List.forall_mem_cons.mpr ⟨kLaw_c29, List.forall_mem_cons.mpr ⟨kLaw_c30, List.forall_mem_cons.mpr ⟨kLaw_c31, List.forall_mem_cons.mpr ⟨kLaw_c32, List.forall_mem_cons.mpr ⟨kLaw_c33, List.forall_mem_cons.mpr ⟨kLaw_c34, List.forall_mem_cons.mpr ⟨kLaw_c35, List.forall_mem_cons.mpr ⟨kLaw_c36, List.forall_mem_cons.mpr ⟨kLaw_c37, List.forall_mem_cons.mpr ⟨kLaw_c38, List.forall_mem_cons.mpr ⟨kLaw_c39, List.forall_mem_cons.mpr ⟨kLaw_c40, List.forall_mem_cons.mpr ⟨kLaw_c41, List.forall_mem_cons.mpr ⟨kLaw_c42, List.forall_mem_cons.mpr ⟨kLaw_c43, List.forall_mem_cons.mpr ⟨kLaw_c44, List.forall_mem_cons.mpr ⟨kLaw_c45, List.forall_mem_cons.mpr ⟨kLaw_c46, List.forall_mem_cons.mpr ⟨kLaw_c47, List.forall_mem_cons.mpr ⟨kLaw_c48, List.forall_mem_cons.mpr ⟨kLaw_c49, List.forall_mem_cons.mpr ⟨kLaw_c50, List.forall_mem_cons.mpr ⟨kLaw_c51, List.forall_mem_cons.mpr ⟨kLaw_c52, List.forall_mem_cons.mpr ⟨kLaw_c53, List.forall_mem_cons.mpr ⟨kLaw_c54, List.forall_mem_cons.mpr ⟨kLaw_c55, List.forall_mem_cons.mpr ⟨kLaw_c56, List.forall_mem_cons.mpr ⟨kLaw_c57, List.forall_mem_cons.mpr ⟨kLaw_c58, List.forall_mem_cons.mpr ⟨kLaw_c59, List.forall_mem_cons.mpr ⟨kLaw_c60, List.forall_mem_cons.mpr ⟨kLaw_c61, List.forall_mem_cons.mpr ⟨kLaw_c62, List.forall_mem_cons.mpr ⟨kLaw_c63, List.forall_mem_cons.mpr ⟨kLaw_c64, List.forall_mem_cons.mpr ⟨kLaw_c65, List.forall_mem_cons.mpr ⟨kLaw_c66, List.forall_mem_cons.mpr ⟨kLaw_c67, List.forall_mem_cons.mpr ⟨kLaw_c68, List.forall_mem_cons.mpr ⟨kLaw_c69, List.forall_mem_cons.mpr ⟨kLaw_c70, List.forall_mem_cons.mpr ⟨kLaw_c71, List.forall_mem_cons.mpr ⟨kLaw_c72, List.forall_mem_cons.mpr ⟨kLaw_c73, List.forall_mem_cons.mpr ⟨kLaw_c74, List.forall_mem_cons.mpr ⟨kLaw_c75, List.forall_mem_cons.mpr ⟨kLaw_c76, List.forall_mem_cons.mpr ⟨kLaw_c77, List.forall_mem_cons.mpr ⟨kLaw_c78, List.forall_mem_cons.mpr ⟨kLaw_c79, List.forall_mem_cons.mpr ⟨kLaw_c80, List.forall_mem_cons.mpr ⟨kLaw_c81, List.forall_mem_cons.mpr ⟨kLaw_c82, List.forall_mem_cons.mpr ⟨kLaw_c83, List.forall_mem_cons.mpr ⟨kLaw_c84, List.forall_mem_cons.mpr ⟨kLaw_c85, List.forall_mem_cons.mpr ⟨kLaw_c86, List.forall_mem_cons.mpr ⟨kLaw_c87, List.forall_mem_cons.mpr ⟨kLaw_c88, List.forall_mem_cons.mpr ⟨kLaw_c89, List.forall_mem_cons.mpr ⟨kLaw_c90, List.forall_mem_cons.mpr ⟨kLaw_c91, List.forall_mem_cons.mpr ⟨kLaw_c92, fun _ h => absurd h List.not_mem_nil⟩⟩⟩⟩⟩⟩⟩⟩⟩⟩⟩⟩⟩⟩⟩⟩⟩⟩⟩⟩⟩⟩⟩⟩⟩⟩⟩⟩⟩⟩⟩⟩⟩⟩⟩⟩⟩⟩⟩⟩⟩⟩⟩⟩⟩⟩⟩⟩⟩⟩⟩⟩⟩⟩⟩⟩⟩⟩⟩⟩⟩⟩⟩⟩⟩⟩⟩⟩⟩⟩⟩⟩⟩⟩⟩⟩⟩⟩⟩⟩⟩⟩⟩⟩⟩⟩⟩⟩⟩⟩⟩⟩⟩
theorem kocd2 {xs : Nat → Int32} {L : Nat} : ∀ pc g ins aux, pm_code (kK2 xs L) 0 pc = some (g, ins, aux) → decode code pc = .ok (ins, pm_len ins aux) ∧ pm_tok ins pc aux ∧ (∀ i, ins ≠ .putfield i) ∧ g ≠ 8 := by
  intro pc g ins aux h
  have h1 : pm_tl kc_L pc = some (g, ins, aux) := h
  obtain ⟨c, hc, hq⟩ := pm_tl_mem h1
  obtain ⟨g1, g2, g3, g4⟩ := kLaw_ok c hc _ hq
  exact ⟨g1, pm_tokB_ok g2, (fun i e => by subst e; cases g3), (fun e => by subst e; cases g4)⟩
theorem kolk2 {xs : Nat → Int32} {L : Nat} : ∀ i kd a b v, pm_lnk (kK2 xs L) (pm_own (kK2 xs L) 0) i = some (kd, a, b, v) → pm_lk (kK2 xs L) kM kcl kALL knws kzs krs kaos krof "BonnetValleyLaw" i kd a b v := by
  intro i kd a b v h
  have h1 : pm_tl kLo_22 i = some (kd, a, b, v) := h
  obtain ⟨c, hc, hq⟩ := pm_tl_mem h1
  have h2 := kLd_22 c hc _ hq
  unfold kLp pm_lk at h2
  unfold pm_lk
  exact h2
theorem kck2 {xs : Nat → Int32} {L : Nat} : pm_ck (kK2 xs L) kcl kALL := by
  have h := kck
  unfold pm_ck at h ⊢
  exact h

/-! The law: its frame -/
theorem kRO2 {ad : Nat → Nat} {A : Nat → Prop} {U : State} {H : Heap} {xs : Nat → Int32} {L : Nat} (h : pm_RO kzs krs kaos knws kK krof ad A U H) (hs : va_T .int (ad 1048581) L (fun j => .int (xs j)) A U H) : pm_RO kzs krs kaos knws (kK2 xs L) krof ad A U H := by
  obtain ⟨h1, h2, h3, h4, h5, h6⟩ := h
  have e1 : pm_ro (kK2 xs L) = pm_ro kK := Eq.trans (show pm_ro (kK2 xs L) = kro from rfl) (show kro = pm_ro kK from rfl)
  refine ⟨h1, h2, ?_, by rw [e1]; exact h4, h5, h6⟩
  intro a t n f hf
  by_cases e : a = 1048581
  · subst e
    have hf2 : some (0, L, fun j => Value.int (xs j)) = some (t, n, f) := hf
    cases hf2
    exact ⟨.int, Or.inl ⟨rfl, rfl⟩, hs⟩
  · refine h3 a t n f ?_
    cases hb : Nat.blt a 1048576 with
    | true =>
      unfold pm_rat at hf
      rw [hb] at hf
      cases hf
    | false =>
      have ha : 1048576 ≤ a := by
        rcases Nat.lt_or_ge a 1048576 with q | q
        · exact absurd (show Nat.blt a 1048576 = true from Nat.ble_eq_true_of_le q) (by rw [hb]; exact fun z => by cases z)
        · exact q
      obtain ⟨k, rfl⟩ : ∃ k, a = 1048576 + k := ⟨a - 1048576, by omega⟩
      have e9 : 1048576 + k - 1048576 = k := by omega
      have hne : k ≠ 5 := fun q => e (by rw [q])
      have hf2 : kra2 xs L k = some (t, n, f) := by
        unfold pm_rat at hf
        rw [hb] at hf
        simp only [cond_false, e9] at hf
        exact hf
      have h5 : Nat.beq k 5 = false := by
        cases hq : Nat.beq k 5 with
        | false => rfl
        | true => exact absurd (Nat.eq_of_beq_eq_true hq) hne
      unfold kra2 at hf2
      rw [h5] at hf2
      unfold pm_rat
      rw [hb]
      simp only [cond_false, e9]
      exact hf2
section KLAW
variable {p : Program} {l : Launch} {e : Env} {s : State} {m : MethodId} {below : List Frame} {meth : Method} {c : Code} {b L : Nat} {xs : Nat → Int32} {D : va_G} {dA : Nat → ClassId} {ra : Nat → Nat} {Q : State → Prop}
/-- what stands fast in the law's frame -/
def kFx (p : Program) (s : State) (m : MethodId) (meth : Method) (c : Code) (b L : Nat) (xs : Nat → Int32) (D : va_G) (dA : Nat → ClassId) (ra : Nat → Nat) : Prop :=
  lw_At p s m meth c b L xs ∧ ra 5 = b ∧ va_K D kcl (pm_tys dA "BonnetValley$State") s ∧ pm_RO kzs krs kaos knws kK krof (pm_ad s.heap.size ra) (fun q => s.heap.size ≤ q) s s.heap ∧ pm_RO kzs krs kaos knws (kK2 xs L) krof (pm_ad s.heap.size ra) (fun q => s.heap.size ≤ q) s s.heap
/-- from the state y of the law's frame on -/
def kW (p : Program) (l : Launch) (e : Env) (s : State) (m : MethodId) (below : List Frame) (meth : Method) (c : Code) (b : Nat) (D : va_G) (dA : Nat → ClassId) (ra : Nat → Nat) (al : Bool) (Q : State → Prop) (y : pm_S) : Prop :=
  ∀ (H : Heap) (locs : List Loc) (ls : Array Slot), va_P D kcl (pm_ws (pm_ad s.heap.size ra) dA s.heap.size y.2.2.2.1) H → va_S (fun q => s.heap.size ≤ q) s.heap H locs → (al = true → H.size = s.heap.size + y.2.2.2.1.length) → pm_lr (pm_ad s.heap.size ra) ls c.maxLocals y.2.1 → W p l e room_1 s m #[Value.ref b] below meth c H locs y.2.2.2.2.1 y.2.2.2.2.2 Q (F0 m y.1 ls (y.2.2.1.map (pm_u (pm_ad s.heap.size ra))))
theorem kW_run {al : Bool} {d n : Nat} {x y : pm_S} (F : kFx p s m meth c b L xs D dA ra) (hd : d ≤ 600) (h : pm_Sn (kK2 xs L) al (pm_Rd kK al d) 0 n x y) (hc : y.2.2.2.2.1 ≤ 601024) (hs : y.2.2.2.2.2 ≤ 7293034) (kk : kW p l e s m below meth c b D dA ra al Q y) : kW p l e s m below meth c b D dA ra al Q x := by
  intro H locs ls hP hS hz hl
  obtain ⟨⟨hx, hb, hr, hml, hown, hts, hX, hbl, hlocks, hgv⟩, h5, hK, hRO, hRO2⟩ := F
  have hw : ∀ w ∈ kALL, w.before #[Value.ref b] s = true := fun w h => hts w (List.mem_filter.mp h).1
  exact pm_S_ok (d := d) kok (pm_sound kok l d) hx hb hown hw kocd2 kolk2 kck2 kE hK hRO hRO2 (Nat.le_refl _) (show d + 1 ≤ 2048 by omega) (show d * 128 + 128 ≤ 84000 by omega) n x y h hc hs H locs ls hP hS hz hl kk
theorem kW_all {y : pm_S} (kk : kW p l e s m below meth c b D dA ra false Q y) : kW p l e s m below meth c b D dA ra true Q y := fun H locs ls hP hS _ hl => kk H locs ls hP hS (fun h => by cases h) hl
theorem kW_end {al : Bool} {Lc : List (Option Value)} {ph : pm_H} {cs ss : Nat} (F : kFx p s m meth c b L xs D dA ra) (hc : cs ≤ 601024) (hs : ss ≤ 7293034) : kW p l e s m below meth c b D dA ra al (lw_Z below #[Value.ref b] s) (1483, Lc, [.int 1], ph, cs, ss) := by
  intro H locs ls hP hS hz hl
  obtain ⟨⟨hx, hb, hr, hml, hown, hts, hX, hbl, hlocks, hgv⟩, h5, hK, hRO, hRO2⟩ := F
  refine va_forget (fun q hq => hS.2.2 q hq) ?_
  refine W.widen (k := 601024) (n := 7293034) hc hs ?_
  exact lw_ret hx hb hr hlocks (kocd2 (xs := xs) (L := L) 1483 7 .ireturn 0 rfl).1
/-- the entry -/
theorem kW_start (C0 : lw_At p s m meth c b L xs) (kk : ∀ (D : va_G) (dA : Nat → ClassId) (ra : Nat → Nat), kFx p s m meth c b L xs D dA ra → kW p l e s m below meth c b D dA ra true Q (pm_ent (kK2 xs L) 0 [.ref 1048581] [])) : W p l e room_1 s m #[Value.ref b] below meth c s.heap [] 0 0 Q (entryFrame m ([Value.ref b] : List Value).toArray 8) := by
  have C1 := C0
  obtain ⟨hx, hb, hr, hml, hown, hts, hX, hbl, hlocks, hgv⟩ := C0
  obtain ⟨D, dA, ra, h5, hK, hRO, hT⟩ := kstart hts hgv hX hbl
  have h5b : pm_ad s.heap.size ra 1048581 = b := h5
  have F : kFx p s m meth c b L xs D dA ra := ⟨C1, h5, hK, hRO, kRO2 hRO (by rw [h5b]; exact hT)⟩
  have hent : pm_entB (kK2 xs L) 0 [.ref 1048581] = true := rfl
  have hl := pm_ent_lr (ad := pm_ad s.heap.size ra) hent
  have e1 : ([Value.ref 1048581]).map (pm_u (pm_ad s.heap.size ra)) = [Value.ref b] := by
    show [Value.ref (pm_ad s.heap.size ra 1048581)] = _
    rw [h5b]
  rw [e1] at hl
  rw [lg_entry_eq]
  have hl2 : pm_lr (pm_ad s.heap.size ra) ((lg_sl [Value.ref b] ++ List.replicate (8 - (lg_sl [Value.ref b]).length) Slot.unset).toArray) c.maxLocals (pm_ent (kK2 xs L) 0 [.ref 1048581] []).2.1 := by
    rw [hml]
    exact hl
  exact kk D dA ra F s.heap [] _ (fun k q h => absurd h (by simp [pm_ws, pm_ent])) va_S.rf (fun _ => rfl) hl2
end KLAW
