/-! references that stand fast, arrays' lengths; printed by wip/z/z_a_stat.py -/
def zstatL : List (Nat × Nat × Nat) := [(0, 0, 1), (0, 1, 3), (0, 2, 5), (0, 3, 10), (0, 4, 25), (0, 5, 31), (0, 6, 37), (0, 7, 43), (0, 8, 154), (0, 9, 157), (0, 10, 160), (0, 11, 164), (0, 12, 167), (1, 0, 2), (3, 0, 4), (5, 5, 6), (5, 6, 7), (5, 7, 8), (5, 8, 9), (10, 0, 5), (10, 3, 21), (10, 5, 22), (10, 6, 23), (10, 7, 24), (11, 0, 12), (11, 2, 13), (11, 4, 14), (11, 8, 15), (16, 0, 17), (16, 2, 18), (16, 4, 19), (16, 8, 20), (25, 3, 26), (25, 4, 27), (25, 5, 28), (25, 6, 29), (25, 7, 30), (31, 3, 32), (31, 4, 33), (31, 5, 34), (31, 6, 35), (31, 7, 36), (37, 3, 38), (37, 4, 39), (37, 5, 40), (37, 6, 41), (37, 7, 42), (43, 0, 44), (43, 3, 135), (44, 0, 45), (44, 1, 51), (44, 2, 57), (44, 3, 63), (44, 4, 69), (44, 5, 75), (44, 6, 81), (44, 7, 87), (44, 8, 93), (44, 9, 99), (44, 10, 105), (44, 11, 111), (44, 12, 117), (44, 13, 123), (44, 14, 129), (45, 3, 46), (45, 4, 47), (45, 5, 48), (45, 6, 49), (45, 7, 50), (51, 3, 52), (51, 4, 53), (51, 5, 54), (51, 6, 55), (51, 7, 56), (57, 3, 58), (57, 4, 59), (57, 5, 60), (57, 6, 61), (57, 7, 62), (63, 3, 64), (63, 4, 65), (63, 5, 66), (63, 6, 67), (63, 7, 68), (69, 3, 70), (69, 4, 71), (69, 5, 72), (69, 6, 73), (69, 7, 74), (75, 3, 76), (75, 4, 77), (75, 5, 78), (75, 6, 79), (75, 7, 80), (81, 3, 82), (81, 4, 83), (81, 5, 84), (81, 6, 85), (81, 7, 86), (87, 3, 88), (87, 4, 89), (87, 5, 90), (87, 6, 91), (87, 7, 92), (93, 3, 94), (93, 4, 95), (93, 5, 96), (93, 6, 97), (93, 7, 98), (99, 3, 100), (99, 4, 101), (99, 5, 102), (99, 6, 103), (99, 7, 104), (105, 3, 106), (105, 4, 107), (105, 5, 108), (105, 6, 109), (105, 7, 110), (111, 3, 112), (111, 4, 113), (111, 5, 114), (111, 6, 115), (111, 7, 116), (117, 3, 118), (117, 4, 119), (117, 5, 120), (117, 6, 121), (117, 7, 122), (123, 3, 124), (123, 4, 125), (123, 5, 126), (123, 6, 127), (123, 7, 128), (129, 3, 130), (129, 4, 131), (129, 5, 132), (129, 6, 133), (129, 7, 134), (135, 0, 136), (135, 1, 142), (135, 2, 148), (136, 3, 137), (136, 4, 138), (136, 5, 139), (136, 6, 140), (136, 7, 141), (142, 3, 143), (142, 4, 144), (142, 5, 145), (142, 6, 146), (142, 7, 147), (148, 3, 149), (148, 4, 150), (148, 5, 151), (148, 6, 152), (148, 7, 153), (154, 0, 155), (154, 1, 156), (157, 0, 158), (157, 1, 159), (160, 0, 161), (160, 1, 162), (160, 2, 163), (164, 0, 165), (164, 1, 166), (167, 0, 168), (167, 2, 169), (170, 2, 171), (170, 9, 172), (170, 10, 173), (170, 11, 174), (170, 12, 175), (170, 13, 176), (170, 18, 177), (170, 19, 178), (170, 21, 179), (170, 22, 180), (170, 25, 181), (170, 26, 182), (170, 28, 183), (170, 29, 184), (170, 30, 185), (170, 31, 186), (170, 32, 187), (170, 33, 188), (170, 35, 189), (170, 36, 190), (170, 37, 191), (170, 38, 192), (170, 40, 193), (170, 41, 194), (170, 42, 195), (170, 43, 196), (170, 44, 197), (170, 46, 198), (170, 47, 199), (170, 48, 200)]
def zlenL : List (Nat × Nat) := [(2, 80), (4, 49), (6, 49), (7, 49), (8, 392), (9, 343), (12, 40), (13, 40), (14, 5), (15, 40), (17, 40), (18, 40), (19, 5), (20, 40), (21, 20), (22, 8), (23, 8), (24, 8), (26, 8), (27, 8), (28, 8), (29, 8), (30, 8), (32, 8), (33, 8), (34, 8), (35, 8), (36, 8), (38, 8), (39, 8), (40, 8), (41, 8), (42, 8), (44, 15), (46, 8), (47, 8), (48, 8), (49, 8), (50, 8), (52, 8), (53, 8), (54, 8), (55, 8), (56, 8), (58, 8), (59, 8), (60, 8), (61, 8), (62, 8), (64, 8), (65, 8), (66, 8), (67, 8), (68, 8), (70, 8), (71, 8), (72, 8), (73, 8), (74, 8), (76, 8), (77, 8), (78, 8), (79, 8), (80, 8), (82, 8), (83, 8), (84, 8), (85, 8), (86, 8), (88, 8), (89, 8), (90, 8), (91, 8), (92, 8), (94, 8), (95, 8), (96, 8), (97, 8), (98, 8), (100, 8), (101, 8), (102, 8), (103, 8), (104, 8), (106, 8), (107, 8), (108, 8), (109, 8), (110, 8), (112, 8), (113, 8), (114, 8), (115, 8), (116, 8), (118, 8), (119, 8), (120, 8), (121, 8), (122, 8), (124, 8), (125, 8), (126, 8), (127, 8), (128, 8), (130, 8), (131, 8), (132, 8), (133, 8), (134, 8), (135, 3), (137, 8), (138, 8), (139, 8), (140, 8), (141, 8), (143, 8), (144, 8), (145, 8), (146, 8), (147, 8), (149, 8), (150, 8), (151, 8), (152, 8), (153, 8), (155, 32), (156, 4), (158, 30), (159, 90), (161, 49), (162, 49), (163, 49), (165, 64), (166, 2304), (168, 9), (169, 61), (171, 53), (172, 49), (173, 20), (174, 41), (175, 41), (176, 80), (177, 49), (178, 24), (179, 80), (180, 80), (181, 80), (182, 8), (183, 656), (184, 8), (185, 60), (186, 60), (187, 60), (188, 60), (189, 8), (190, 64), (191, 2304), (192, 49), (193, 10), (194, 10), (195, 10), (196, 610), (197, 80), (198, 3), (199, 3), (200, 123)]
def zlk : List (Nat × Nat × Nat) → Nat → Nat → Option Nat
  | [], _, _ => none
  | e :: r, a, k => bif Nat.beq e.1 a && Nat.beq e.2.1 k then some e.2.2 else zlk r a k
def zll : List (Nat × Nat) → Nat → Option Nat
  | [], _ => none
  | e :: r, a => bif Nat.beq e.1 a then some e.2 else zll r a
def zSh (ph : pm_H) : Prop := (∀ a k b, zlk zstatL a k = some b → zc ph a k = some (.ref b)) ∧ ∀ a n, zll zlenL a = some n → zln ph a = some n
theorem zsg {ph : pm_H} (hS : zSh ph) {a k b : Nat} (h : zlk zstatL a k = some b) : zc ph a k = some (.ref b) := hS.1 a k b h
theorem zsl {ph : pm_H} (hS : zSh ph) {a n : Nat} (h : zll zlenL a = some n) : zln ph a = some n := hS.2 a n h
theorem zlk_mem : ∀ {l : List (Nat × Nat × Nat)} {a k b : Nat}, zlk l a k = some b → (a, k, b) ∈ l := by
  intro l
  induction l with
  | nil => intro a k b h; cases h
  | cons e r ih =>
    intro a k b h
    unfold zlk at h
    cases hb : (Nat.beq e.1 a && Nat.beq e.2.1 k) with
    | true =>
      rw [hb] at h
      obtain ⟨h1, h2⟩ := (Bool.and_eq_true _ _).mp hb
      have e1 := Nat.eq_of_beq_eq_true h1
      have e2 := Nat.eq_of_beq_eq_true h2
      have e3 : e.2.2 = b := Option.some.inj h
      subst e1 e2 e3
      exact List.mem_cons_self
    | false =>
      rw [hb] at h
      exact List.mem_cons_of_mem _ (ih h)
def zok (A : List Nat) (F : List (Nat × Nat)) : Bool := zstatL.all fun e => !(A.elem e.1) && !(F.elem (e.1, e.2.1))
theorem zSh_F {A : List Nat} {F : List (Nat × Nat)} {p q : pm_H} (f : zFr A F p q) (h : zok A F = true) (hS : zSh p) : zSh q := by
  refine ⟨fun a k b hb => ?_, fun a n hn => (f.2 a).trans (hS.2 a n hn)⟩
  have h1 := List.all_eq_true.mp h _ (zlk_mem hb)
  simp only [Bool.and_eq_true, Bool.not_eq_true'] at h1
  refine (f.1 a k (fun q => ?_) (fun q => ?_)).trans (hS.1 a k b hb)
  · rw [List.elem_eq_true_of_mem q] at h1
    exact absurd h1.1 (by decide)
  · rw [List.elem_eq_true_of_mem q] at h1
    exact absurd h1.2 (by decide)
theorem zSh_st {p q : pm_H} {a k : Nat} {v : Value} (u : zst p q a k v) (h : zlk zstatL a k = none) (hS : zSh p) : zSh q := ⟨fun b i r hb => (u.2.1 b i (fun e => by
  obtain ⟨rfl, rfl⟩ := e
  rw [h] at hb
  cases hb)).trans (hS.1 b i r hb), fun b n hn => (u.2.2 b).trans (hS.2 b n hn)⟩
theorem zmaxI {x y z : Int32} (e : (if x < y then y else x) = z) : (x.toInt < y.toInt ∧ z.toInt = y.toInt) ∨ (y.toInt ≤ x.toInt ∧ z.toInt = x.toInt) := by
  by_cases h : x < y
  · rw [if_pos h] at e
    exact Or.inl ⟨x32lt.mp h, by rw [e]⟩
  · rw [if_neg h] at e
    exact Or.inr ⟨Int.not_lt.mp (fun q => h (x32lt.mpr q)), by rw [e]⟩
theorem zminI {x y z : Int32} (e : (if y < x then y else x) = z) : (y.toInt < x.toInt ∧ z.toInt = y.toInt) ∨ (x.toInt ≤ y.toInt ∧ z.toInt = x.toInt) := by
  by_cases h : y < x
  · rw [if_pos h] at e
    exact Or.inl ⟨x32lt.mp h, by rw [e]⟩
  · rw [if_neg h] at e
    exact Or.inr ⟨Int.not_lt.mp (fun q => h (x32lt.mpr q)), by rw [e]⟩
theorem zabsI {x z : Int32} (e : (if 0 ≤ x then x else 0 - x) = z) (h : -2147483648 < x.toInt := by omega) : (0 ≤ x.toInt ∧ z.toInt = x.toInt) ∨ (x.toInt < 0 ∧ z.toInt = - x.toInt) := by
  have h9 := x32_hi x
  by_cases h0 : 0 ≤ x
  · rw [if_pos h0] at e
    exact Or.inl ⟨z0le.mp h0, by rw [e]⟩
  · rw [if_neg h0] at e
    have h1 : x.toInt < 0 := Int.not_le.mp (fun q => h0 (z0le.mpr q))
    have z0 : (0 : Int32).toInt = 0 := rfl
    have h2 := ti_sub (x := 0) (y := x) (by omega) (by omega)
    exact Or.inr ⟨h1, by rw [← e, h2]; omega⟩
theorem zI_and (b : Bool) : zI b &&& 1 = zI b := by cases b <;> rfl
theorem zvB {a b : Bool} (h : a = b) : (some (Value.int (zI a)) : Option Value) = some (Value.int (zI b)) := by rw [h]
theorem zI_inj {a b : Bool} (h : zI a = zI b) : a = b := by cases a <;> cases b <;> first | rfl | exact absurd h (by decide)
theorem zs_0_0 : zlk zstatL 0 0 = some 1 := by decide +kernel
theorem zs_0_1 : zlk zstatL 0 1 = some 3 := by decide +kernel
theorem zs_0_2 : zlk zstatL 0 2 = some 5 := by decide +kernel
theorem zs_0_3 : zlk zstatL 0 3 = some 10 := by decide +kernel
theorem zs_0_4 : zlk zstatL 0 4 = some 25 := by decide +kernel
theorem zs_0_5 : zlk zstatL 0 5 = some 31 := by decide +kernel
theorem zs_0_6 : zlk zstatL 0 6 = some 37 := by decide +kernel
theorem zs_0_7 : zlk zstatL 0 7 = some 43 := by decide +kernel
theorem zs_0_8 : zlk zstatL 0 8 = some 154 := by decide +kernel
theorem zs_0_9 : zlk zstatL 0 9 = some 157 := by decide +kernel
theorem zs_0_10 : zlk zstatL 0 10 = some 160 := by decide +kernel
theorem zs_0_11 : zlk zstatL 0 11 = some 164 := by decide +kernel
theorem zs_0_12 : zlk zstatL 0 12 = some 167 := by decide +kernel
theorem zs_1_0 : zlk zstatL 1 0 = some 2 := by decide +kernel
theorem zs_3_0 : zlk zstatL 3 0 = some 4 := by decide +kernel
theorem zs_5_5 : zlk zstatL 5 5 = some 6 := by decide +kernel
theorem zs_5_6 : zlk zstatL 5 6 = some 7 := by decide +kernel
theorem zs_5_7 : zlk zstatL 5 7 = some 8 := by decide +kernel
theorem zs_5_8 : zlk zstatL 5 8 = some 9 := by decide +kernel
theorem zs_10_0 : zlk zstatL 10 0 = some 5 := by decide +kernel
theorem zs_10_3 : zlk zstatL 10 3 = some 21 := by decide +kernel
theorem zs_10_5 : zlk zstatL 10 5 = some 22 := by decide +kernel
theorem zs_10_6 : zlk zstatL 10 6 = some 23 := by decide +kernel
theorem zs_10_7 : zlk zstatL 10 7 = some 24 := by decide +kernel
theorem zs_11_0 : zlk zstatL 11 0 = some 12 := by decide +kernel
theorem zs_11_2 : zlk zstatL 11 2 = some 13 := by decide +kernel
theorem zs_11_4 : zlk zstatL 11 4 = some 14 := by decide +kernel
theorem zs_11_8 : zlk zstatL 11 8 = some 15 := by decide +kernel
theorem zs_16_0 : zlk zstatL 16 0 = some 17 := by decide +kernel
theorem zs_16_2 : zlk zstatL 16 2 = some 18 := by decide +kernel
theorem zs_16_4 : zlk zstatL 16 4 = some 19 := by decide +kernel
theorem zs_16_8 : zlk zstatL 16 8 = some 20 := by decide +kernel
theorem zs_25_3 : zlk zstatL 25 3 = some 26 := by decide +kernel
theorem zs_25_4 : zlk zstatL 25 4 = some 27 := by decide +kernel
theorem zs_25_5 : zlk zstatL 25 5 = some 28 := by decide +kernel
theorem zs_25_6 : zlk zstatL 25 6 = some 29 := by decide +kernel
theorem zs_25_7 : zlk zstatL 25 7 = some 30 := by decide +kernel
theorem zs_31_3 : zlk zstatL 31 3 = some 32 := by decide +kernel
theorem zs_31_4 : zlk zstatL 31 4 = some 33 := by decide +kernel
theorem zs_31_5 : zlk zstatL 31 5 = some 34 := by decide +kernel
theorem zs_31_6 : zlk zstatL 31 6 = some 35 := by decide +kernel
theorem zs_31_7 : zlk zstatL 31 7 = some 36 := by decide +kernel
theorem zs_37_3 : zlk zstatL 37 3 = some 38 := by decide +kernel
theorem zs_37_4 : zlk zstatL 37 4 = some 39 := by decide +kernel
theorem zs_37_5 : zlk zstatL 37 5 = some 40 := by decide +kernel
theorem zs_37_6 : zlk zstatL 37 6 = some 41 := by decide +kernel
theorem zs_37_7 : zlk zstatL 37 7 = some 42 := by decide +kernel
theorem zs_43_0 : zlk zstatL 43 0 = some 44 := by decide +kernel
theorem zs_43_3 : zlk zstatL 43 3 = some 135 := by decide +kernel
theorem zs_44_0 : zlk zstatL 44 0 = some 45 := by decide +kernel
theorem zs_44_1 : zlk zstatL 44 1 = some 51 := by decide +kernel
theorem zs_44_2 : zlk zstatL 44 2 = some 57 := by decide +kernel
theorem zs_44_3 : zlk zstatL 44 3 = some 63 := by decide +kernel
theorem zs_44_4 : zlk zstatL 44 4 = some 69 := by decide +kernel
theorem zs_44_5 : zlk zstatL 44 5 = some 75 := by decide +kernel
theorem zs_44_6 : zlk zstatL 44 6 = some 81 := by decide +kernel
theorem zs_44_7 : zlk zstatL 44 7 = some 87 := by decide +kernel
theorem zs_44_8 : zlk zstatL 44 8 = some 93 := by decide +kernel
theorem zs_44_9 : zlk zstatL 44 9 = some 99 := by decide +kernel
theorem zs_44_10 : zlk zstatL 44 10 = some 105 := by decide +kernel
theorem zs_44_11 : zlk zstatL 44 11 = some 111 := by decide +kernel
theorem zs_44_12 : zlk zstatL 44 12 = some 117 := by decide +kernel
theorem zs_44_13 : zlk zstatL 44 13 = some 123 := by decide +kernel
theorem zs_44_14 : zlk zstatL 44 14 = some 129 := by decide +kernel
theorem zs_45_3 : zlk zstatL 45 3 = some 46 := by decide +kernel
theorem zs_45_4 : zlk zstatL 45 4 = some 47 := by decide +kernel
theorem zs_45_5 : zlk zstatL 45 5 = some 48 := by decide +kernel
theorem zs_45_6 : zlk zstatL 45 6 = some 49 := by decide +kernel
theorem zs_45_7 : zlk zstatL 45 7 = some 50 := by decide +kernel
theorem zs_51_3 : zlk zstatL 51 3 = some 52 := by decide +kernel
theorem zs_51_4 : zlk zstatL 51 4 = some 53 := by decide +kernel
theorem zs_51_5 : zlk zstatL 51 5 = some 54 := by decide +kernel
theorem zs_51_6 : zlk zstatL 51 6 = some 55 := by decide +kernel
theorem zs_51_7 : zlk zstatL 51 7 = some 56 := by decide +kernel
theorem zs_57_3 : zlk zstatL 57 3 = some 58 := by decide +kernel
theorem zs_57_4 : zlk zstatL 57 4 = some 59 := by decide +kernel
theorem zs_57_5 : zlk zstatL 57 5 = some 60 := by decide +kernel
theorem zs_57_6 : zlk zstatL 57 6 = some 61 := by decide +kernel
theorem zs_57_7 : zlk zstatL 57 7 = some 62 := by decide +kernel
theorem zs_63_3 : zlk zstatL 63 3 = some 64 := by decide +kernel
theorem zs_63_4 : zlk zstatL 63 4 = some 65 := by decide +kernel
theorem zs_63_5 : zlk zstatL 63 5 = some 66 := by decide +kernel
theorem zs_63_6 : zlk zstatL 63 6 = some 67 := by decide +kernel
theorem zs_63_7 : zlk zstatL 63 7 = some 68 := by decide +kernel
theorem zs_69_3 : zlk zstatL 69 3 = some 70 := by decide +kernel
theorem zs_69_4 : zlk zstatL 69 4 = some 71 := by decide +kernel
theorem zs_69_5 : zlk zstatL 69 5 = some 72 := by decide +kernel
theorem zs_69_6 : zlk zstatL 69 6 = some 73 := by decide +kernel
theorem zs_69_7 : zlk zstatL 69 7 = some 74 := by decide +kernel
theorem zs_75_3 : zlk zstatL 75 3 = some 76 := by decide +kernel
theorem zs_75_4 : zlk zstatL 75 4 = some 77 := by decide +kernel
theorem zs_75_5 : zlk zstatL 75 5 = some 78 := by decide +kernel
theorem zs_75_6 : zlk zstatL 75 6 = some 79 := by decide +kernel
theorem zs_75_7 : zlk zstatL 75 7 = some 80 := by decide +kernel
theorem zs_81_3 : zlk zstatL 81 3 = some 82 := by decide +kernel
theorem zs_81_4 : zlk zstatL 81 4 = some 83 := by decide +kernel
theorem zs_81_5 : zlk zstatL 81 5 = some 84 := by decide +kernel
theorem zs_81_6 : zlk zstatL 81 6 = some 85 := by decide +kernel
theorem zs_81_7 : zlk zstatL 81 7 = some 86 := by decide +kernel
theorem zs_87_3 : zlk zstatL 87 3 = some 88 := by decide +kernel
theorem zs_87_4 : zlk zstatL 87 4 = some 89 := by decide +kernel
theorem zs_87_5 : zlk zstatL 87 5 = some 90 := by decide +kernel
theorem zs_87_6 : zlk zstatL 87 6 = some 91 := by decide +kernel
theorem zs_87_7 : zlk zstatL 87 7 = some 92 := by decide +kernel
theorem zs_93_3 : zlk zstatL 93 3 = some 94 := by decide +kernel
theorem zs_93_4 : zlk zstatL 93 4 = some 95 := by decide +kernel
theorem zs_93_5 : zlk zstatL 93 5 = some 96 := by decide +kernel
theorem zs_93_6 : zlk zstatL 93 6 = some 97 := by decide +kernel
theorem zs_93_7 : zlk zstatL 93 7 = some 98 := by decide +kernel
theorem zs_99_3 : zlk zstatL 99 3 = some 100 := by decide +kernel
theorem zs_99_4 : zlk zstatL 99 4 = some 101 := by decide +kernel
theorem zs_99_5 : zlk zstatL 99 5 = some 102 := by decide +kernel
theorem zs_99_6 : zlk zstatL 99 6 = some 103 := by decide +kernel
theorem zs_99_7 : zlk zstatL 99 7 = some 104 := by decide +kernel
theorem zs_105_3 : zlk zstatL 105 3 = some 106 := by decide +kernel
theorem zs_105_4 : zlk zstatL 105 4 = some 107 := by decide +kernel
theorem zs_105_5 : zlk zstatL 105 5 = some 108 := by decide +kernel
theorem zs_105_6 : zlk zstatL 105 6 = some 109 := by decide +kernel
theorem zs_105_7 : zlk zstatL 105 7 = some 110 := by decide +kernel
theorem zs_111_3 : zlk zstatL 111 3 = some 112 := by decide +kernel
theorem zs_111_4 : zlk zstatL 111 4 = some 113 := by decide +kernel
theorem zs_111_5 : zlk zstatL 111 5 = some 114 := by decide +kernel
theorem zs_111_6 : zlk zstatL 111 6 = some 115 := by decide +kernel
theorem zs_111_7 : zlk zstatL 111 7 = some 116 := by decide +kernel
theorem zs_117_3 : zlk zstatL 117 3 = some 118 := by decide +kernel
theorem zs_117_4 : zlk zstatL 117 4 = some 119 := by decide +kernel
theorem zs_117_5 : zlk zstatL 117 5 = some 120 := by decide +kernel
theorem zs_117_6 : zlk zstatL 117 6 = some 121 := by decide +kernel
theorem zs_117_7 : zlk zstatL 117 7 = some 122 := by decide +kernel
theorem zs_123_3 : zlk zstatL 123 3 = some 124 := by decide +kernel
theorem zs_123_4 : zlk zstatL 123 4 = some 125 := by decide +kernel
theorem zs_123_5 : zlk zstatL 123 5 = some 126 := by decide +kernel
theorem zs_123_6 : zlk zstatL 123 6 = some 127 := by decide +kernel
theorem zs_123_7 : zlk zstatL 123 7 = some 128 := by decide +kernel
theorem zs_129_3 : zlk zstatL 129 3 = some 130 := by decide +kernel
theorem zs_129_4 : zlk zstatL 129 4 = some 131 := by decide +kernel
theorem zs_129_5 : zlk zstatL 129 5 = some 132 := by decide +kernel
theorem zs_129_6 : zlk zstatL 129 6 = some 133 := by decide +kernel
theorem zs_129_7 : zlk zstatL 129 7 = some 134 := by decide +kernel
theorem zs_135_0 : zlk zstatL 135 0 = some 136 := by decide +kernel
theorem zs_135_1 : zlk zstatL 135 1 = some 142 := by decide +kernel
theorem zs_135_2 : zlk zstatL 135 2 = some 148 := by decide +kernel
theorem zs_136_3 : zlk zstatL 136 3 = some 137 := by decide +kernel
theorem zs_136_4 : zlk zstatL 136 4 = some 138 := by decide +kernel
theorem zs_136_5 : zlk zstatL 136 5 = some 139 := by decide +kernel
theorem zs_136_6 : zlk zstatL 136 6 = some 140 := by decide +kernel
theorem zs_136_7 : zlk zstatL 136 7 = some 141 := by decide +kernel
theorem zs_142_3 : zlk zstatL 142 3 = some 143 := by decide +kernel
theorem zs_142_4 : zlk zstatL 142 4 = some 144 := by decide +kernel
theorem zs_142_5 : zlk zstatL 142 5 = some 145 := by decide +kernel
theorem zs_142_6 : zlk zstatL 142 6 = some 146 := by decide +kernel
theorem zs_142_7 : zlk zstatL 142 7 = some 147 := by decide +kernel
theorem zs_148_3 : zlk zstatL 148 3 = some 149 := by decide +kernel
theorem zs_148_4 : zlk zstatL 148 4 = some 150 := by decide +kernel
theorem zs_148_5 : zlk zstatL 148 5 = some 151 := by decide +kernel
theorem zs_148_6 : zlk zstatL 148 6 = some 152 := by decide +kernel
theorem zs_148_7 : zlk zstatL 148 7 = some 153 := by decide +kernel
theorem zs_154_0 : zlk zstatL 154 0 = some 155 := by decide +kernel
theorem zs_154_1 : zlk zstatL 154 1 = some 156 := by decide +kernel
theorem zs_157_0 : zlk zstatL 157 0 = some 158 := by decide +kernel
theorem zs_157_1 : zlk zstatL 157 1 = some 159 := by decide +kernel
theorem zs_160_0 : zlk zstatL 160 0 = some 161 := by decide +kernel
theorem zs_160_1 : zlk zstatL 160 1 = some 162 := by decide +kernel
theorem zs_160_2 : zlk zstatL 160 2 = some 163 := by decide +kernel
theorem zs_164_0 : zlk zstatL 164 0 = some 165 := by decide +kernel
theorem zs_164_1 : zlk zstatL 164 1 = some 166 := by decide +kernel
theorem zs_167_0 : zlk zstatL 167 0 = some 168 := by decide +kernel
theorem zs_167_2 : zlk zstatL 167 2 = some 169 := by decide +kernel
theorem zs_170_2 : zlk zstatL 170 2 = some 171 := by decide +kernel
theorem zs_170_9 : zlk zstatL 170 9 = some 172 := by decide +kernel
theorem zs_170_10 : zlk zstatL 170 10 = some 173 := by decide +kernel
theorem zs_170_11 : zlk zstatL 170 11 = some 174 := by decide +kernel
theorem zs_170_12 : zlk zstatL 170 12 = some 175 := by decide +kernel
theorem zs_170_13 : zlk zstatL 170 13 = some 176 := by decide +kernel
theorem zs_170_18 : zlk zstatL 170 18 = some 177 := by decide +kernel
theorem zs_170_19 : zlk zstatL 170 19 = some 178 := by decide +kernel
theorem zs_170_21 : zlk zstatL 170 21 = some 179 := by decide +kernel
theorem zs_170_22 : zlk zstatL 170 22 = some 180 := by decide +kernel
theorem zs_170_25 : zlk zstatL 170 25 = some 181 := by decide +kernel
theorem zs_170_26 : zlk zstatL 170 26 = some 182 := by decide +kernel
theorem zs_170_28 : zlk zstatL 170 28 = some 183 := by decide +kernel
theorem zs_170_29 : zlk zstatL 170 29 = some 184 := by decide +kernel
theorem zs_170_30 : zlk zstatL 170 30 = some 185 := by decide +kernel
theorem zs_170_31 : zlk zstatL 170 31 = some 186 := by decide +kernel
theorem zs_170_32 : zlk zstatL 170 32 = some 187 := by decide +kernel
theorem zs_170_33 : zlk zstatL 170 33 = some 188 := by decide +kernel
theorem zs_170_35 : zlk zstatL 170 35 = some 189 := by decide +kernel
theorem zs_170_36 : zlk zstatL 170 36 = some 190 := by decide +kernel
theorem zs_170_37 : zlk zstatL 170 37 = some 191 := by decide +kernel
theorem zs_170_38 : zlk zstatL 170 38 = some 192 := by decide +kernel
theorem zs_170_40 : zlk zstatL 170 40 = some 193 := by decide +kernel
theorem zs_170_41 : zlk zstatL 170 41 = some 194 := by decide +kernel
theorem zs_170_42 : zlk zstatL 170 42 = some 195 := by decide +kernel
theorem zs_170_43 : zlk zstatL 170 43 = some 196 := by decide +kernel
theorem zs_170_44 : zlk zstatL 170 44 = some 197 := by decide +kernel
theorem zs_170_46 : zlk zstatL 170 46 = some 198 := by decide +kernel
theorem zs_170_47 : zlk zstatL 170 47 = some 199 := by decide +kernel
theorem zs_170_48 : zlk zstatL 170 48 = some 200 := by decide +kernel
theorem zl_2 : zll zlenL 2 = some 80 := by decide +kernel
theorem zl_4 : zll zlenL 4 = some 49 := by decide +kernel
theorem zl_6 : zll zlenL 6 = some 49 := by decide +kernel
theorem zl_7 : zll zlenL 7 = some 49 := by decide +kernel
theorem zl_8 : zll zlenL 8 = some 392 := by decide +kernel
theorem zl_9 : zll zlenL 9 = some 343 := by decide +kernel
theorem zl_12 : zll zlenL 12 = some 40 := by decide +kernel
theorem zl_13 : zll zlenL 13 = some 40 := by decide +kernel
theorem zl_14 : zll zlenL 14 = some 5 := by decide +kernel
theorem zl_15 : zll zlenL 15 = some 40 := by decide +kernel
theorem zl_17 : zll zlenL 17 = some 40 := by decide +kernel
theorem zl_18 : zll zlenL 18 = some 40 := by decide +kernel
theorem zl_19 : zll zlenL 19 = some 5 := by decide +kernel
theorem zl_20 : zll zlenL 20 = some 40 := by decide +kernel
theorem zl_21 : zll zlenL 21 = some 20 := by decide +kernel
theorem zl_22 : zll zlenL 22 = some 8 := by decide +kernel
theorem zl_23 : zll zlenL 23 = some 8 := by decide +kernel
theorem zl_24 : zll zlenL 24 = some 8 := by decide +kernel
theorem zl_26 : zll zlenL 26 = some 8 := by decide +kernel
theorem zl_27 : zll zlenL 27 = some 8 := by decide +kernel
theorem zl_28 : zll zlenL 28 = some 8 := by decide +kernel
theorem zl_29 : zll zlenL 29 = some 8 := by decide +kernel
theorem zl_30 : zll zlenL 30 = some 8 := by decide +kernel
theorem zl_32 : zll zlenL 32 = some 8 := by decide +kernel
theorem zl_33 : zll zlenL 33 = some 8 := by decide +kernel
theorem zl_34 : zll zlenL 34 = some 8 := by decide +kernel
theorem zl_35 : zll zlenL 35 = some 8 := by decide +kernel
theorem zl_36 : zll zlenL 36 = some 8 := by decide +kernel
theorem zl_38 : zll zlenL 38 = some 8 := by decide +kernel
theorem zl_39 : zll zlenL 39 = some 8 := by decide +kernel
theorem zl_40 : zll zlenL 40 = some 8 := by decide +kernel
theorem zl_41 : zll zlenL 41 = some 8 := by decide +kernel
theorem zl_42 : zll zlenL 42 = some 8 := by decide +kernel
theorem zl_44 : zll zlenL 44 = some 15 := by decide +kernel
theorem zl_46 : zll zlenL 46 = some 8 := by decide +kernel
theorem zl_47 : zll zlenL 47 = some 8 := by decide +kernel
theorem zl_48 : zll zlenL 48 = some 8 := by decide +kernel
theorem zl_49 : zll zlenL 49 = some 8 := by decide +kernel
theorem zl_50 : zll zlenL 50 = some 8 := by decide +kernel
theorem zl_52 : zll zlenL 52 = some 8 := by decide +kernel
theorem zl_53 : zll zlenL 53 = some 8 := by decide +kernel
theorem zl_54 : zll zlenL 54 = some 8 := by decide +kernel
theorem zl_55 : zll zlenL 55 = some 8 := by decide +kernel
theorem zl_56 : zll zlenL 56 = some 8 := by decide +kernel
theorem zl_58 : zll zlenL 58 = some 8 := by decide +kernel
theorem zl_59 : zll zlenL 59 = some 8 := by decide +kernel
theorem zl_60 : zll zlenL 60 = some 8 := by decide +kernel
theorem zl_61 : zll zlenL 61 = some 8 := by decide +kernel
theorem zl_62 : zll zlenL 62 = some 8 := by decide +kernel
theorem zl_64 : zll zlenL 64 = some 8 := by decide +kernel
theorem zl_65 : zll zlenL 65 = some 8 := by decide +kernel
theorem zl_66 : zll zlenL 66 = some 8 := by decide +kernel
theorem zl_67 : zll zlenL 67 = some 8 := by decide +kernel
theorem zl_68 : zll zlenL 68 = some 8 := by decide +kernel
theorem zl_70 : zll zlenL 70 = some 8 := by decide +kernel
theorem zl_71 : zll zlenL 71 = some 8 := by decide +kernel
theorem zl_72 : zll zlenL 72 = some 8 := by decide +kernel
theorem zl_73 : zll zlenL 73 = some 8 := by decide +kernel
theorem zl_74 : zll zlenL 74 = some 8 := by decide +kernel
theorem zl_76 : zll zlenL 76 = some 8 := by decide +kernel
theorem zl_77 : zll zlenL 77 = some 8 := by decide +kernel
theorem zl_78 : zll zlenL 78 = some 8 := by decide +kernel
theorem zl_79 : zll zlenL 79 = some 8 := by decide +kernel
theorem zl_80 : zll zlenL 80 = some 8 := by decide +kernel
theorem zl_82 : zll zlenL 82 = some 8 := by decide +kernel
theorem zl_83 : zll zlenL 83 = some 8 := by decide +kernel
theorem zl_84 : zll zlenL 84 = some 8 := by decide +kernel
theorem zl_85 : zll zlenL 85 = some 8 := by decide +kernel
theorem zl_86 : zll zlenL 86 = some 8 := by decide +kernel
theorem zl_88 : zll zlenL 88 = some 8 := by decide +kernel
theorem zl_89 : zll zlenL 89 = some 8 := by decide +kernel
theorem zl_90 : zll zlenL 90 = some 8 := by decide +kernel
theorem zl_91 : zll zlenL 91 = some 8 := by decide +kernel
theorem zl_92 : zll zlenL 92 = some 8 := by decide +kernel
theorem zl_94 : zll zlenL 94 = some 8 := by decide +kernel
theorem zl_95 : zll zlenL 95 = some 8 := by decide +kernel
theorem zl_96 : zll zlenL 96 = some 8 := by decide +kernel
theorem zl_97 : zll zlenL 97 = some 8 := by decide +kernel
theorem zl_98 : zll zlenL 98 = some 8 := by decide +kernel
theorem zl_100 : zll zlenL 100 = some 8 := by decide +kernel
theorem zl_101 : zll zlenL 101 = some 8 := by decide +kernel
theorem zl_102 : zll zlenL 102 = some 8 := by decide +kernel
theorem zl_103 : zll zlenL 103 = some 8 := by decide +kernel
theorem zl_104 : zll zlenL 104 = some 8 := by decide +kernel
theorem zl_106 : zll zlenL 106 = some 8 := by decide +kernel
theorem zl_107 : zll zlenL 107 = some 8 := by decide +kernel
theorem zl_108 : zll zlenL 108 = some 8 := by decide +kernel
theorem zl_109 : zll zlenL 109 = some 8 := by decide +kernel
theorem zl_110 : zll zlenL 110 = some 8 := by decide +kernel
theorem zl_112 : zll zlenL 112 = some 8 := by decide +kernel
theorem zl_113 : zll zlenL 113 = some 8 := by decide +kernel
theorem zl_114 : zll zlenL 114 = some 8 := by decide +kernel
theorem zl_115 : zll zlenL 115 = some 8 := by decide +kernel
theorem zl_116 : zll zlenL 116 = some 8 := by decide +kernel
theorem zl_118 : zll zlenL 118 = some 8 := by decide +kernel
theorem zl_119 : zll zlenL 119 = some 8 := by decide +kernel
theorem zl_120 : zll zlenL 120 = some 8 := by decide +kernel
theorem zl_121 : zll zlenL 121 = some 8 := by decide +kernel
theorem zl_122 : zll zlenL 122 = some 8 := by decide +kernel
theorem zl_124 : zll zlenL 124 = some 8 := by decide +kernel
theorem zl_125 : zll zlenL 125 = some 8 := by decide +kernel
theorem zl_126 : zll zlenL 126 = some 8 := by decide +kernel
theorem zl_127 : zll zlenL 127 = some 8 := by decide +kernel
theorem zl_128 : zll zlenL 128 = some 8 := by decide +kernel
theorem zl_130 : zll zlenL 130 = some 8 := by decide +kernel
theorem zl_131 : zll zlenL 131 = some 8 := by decide +kernel
theorem zl_132 : zll zlenL 132 = some 8 := by decide +kernel
theorem zl_133 : zll zlenL 133 = some 8 := by decide +kernel
theorem zl_134 : zll zlenL 134 = some 8 := by decide +kernel
theorem zl_135 : zll zlenL 135 = some 3 := by decide +kernel
theorem zl_137 : zll zlenL 137 = some 8 := by decide +kernel
theorem zl_138 : zll zlenL 138 = some 8 := by decide +kernel
theorem zl_139 : zll zlenL 139 = some 8 := by decide +kernel
theorem zl_140 : zll zlenL 140 = some 8 := by decide +kernel
theorem zl_141 : zll zlenL 141 = some 8 := by decide +kernel
theorem zl_143 : zll zlenL 143 = some 8 := by decide +kernel
theorem zl_144 : zll zlenL 144 = some 8 := by decide +kernel
theorem zl_145 : zll zlenL 145 = some 8 := by decide +kernel
theorem zl_146 : zll zlenL 146 = some 8 := by decide +kernel
theorem zl_147 : zll zlenL 147 = some 8 := by decide +kernel
theorem zl_149 : zll zlenL 149 = some 8 := by decide +kernel
theorem zl_150 : zll zlenL 150 = some 8 := by decide +kernel
theorem zl_151 : zll zlenL 151 = some 8 := by decide +kernel
theorem zl_152 : zll zlenL 152 = some 8 := by decide +kernel
theorem zl_153 : zll zlenL 153 = some 8 := by decide +kernel
theorem zl_155 : zll zlenL 155 = some 32 := by decide +kernel
theorem zl_156 : zll zlenL 156 = some 4 := by decide +kernel
theorem zl_158 : zll zlenL 158 = some 30 := by decide +kernel
theorem zl_159 : zll zlenL 159 = some 90 := by decide +kernel
theorem zl_161 : zll zlenL 161 = some 49 := by decide +kernel
theorem zl_162 : zll zlenL 162 = some 49 := by decide +kernel
theorem zl_163 : zll zlenL 163 = some 49 := by decide +kernel
theorem zl_165 : zll zlenL 165 = some 64 := by decide +kernel
theorem zl_166 : zll zlenL 166 = some 2304 := by decide +kernel
theorem zl_168 : zll zlenL 168 = some 9 := by decide +kernel
theorem zl_169 : zll zlenL 169 = some 61 := by decide +kernel
theorem zl_171 : zll zlenL 171 = some 53 := by decide +kernel
theorem zl_172 : zll zlenL 172 = some 49 := by decide +kernel
theorem zl_173 : zll zlenL 173 = some 20 := by decide +kernel
theorem zl_174 : zll zlenL 174 = some 41 := by decide +kernel
theorem zl_175 : zll zlenL 175 = some 41 := by decide +kernel
theorem zl_176 : zll zlenL 176 = some 80 := by decide +kernel
theorem zl_177 : zll zlenL 177 = some 49 := by decide +kernel
theorem zl_178 : zll zlenL 178 = some 24 := by decide +kernel
theorem zl_179 : zll zlenL 179 = some 80 := by decide +kernel
theorem zl_180 : zll zlenL 180 = some 80 := by decide +kernel
theorem zl_181 : zll zlenL 181 = some 80 := by decide +kernel
theorem zl_182 : zll zlenL 182 = some 8 := by decide +kernel
theorem zl_183 : zll zlenL 183 = some 656 := by decide +kernel
theorem zl_184 : zll zlenL 184 = some 8 := by decide +kernel
theorem zl_185 : zll zlenL 185 = some 60 := by decide +kernel
theorem zl_186 : zll zlenL 186 = some 60 := by decide +kernel
theorem zl_187 : zll zlenL 187 = some 60 := by decide +kernel
theorem zl_188 : zll zlenL 188 = some 60 := by decide +kernel
theorem zl_189 : zll zlenL 189 = some 8 := by decide +kernel
theorem zl_190 : zll zlenL 190 = some 64 := by decide +kernel
theorem zl_191 : zll zlenL 191 = some 2304 := by decide +kernel
theorem zl_192 : zll zlenL 192 = some 49 := by decide +kernel
theorem zl_193 : zll zlenL 193 = some 10 := by decide +kernel
theorem zl_194 : zll zlenL 194 = some 10 := by decide +kernel
theorem zl_195 : zll zlenL 195 = some 10 := by decide +kernel
theorem zl_196 : zll zlenL 196 = some 610 := by decide +kernel
theorem zl_197 : zll zlenL 197 = some 80 := by decide +kernel
theorem zl_198 : zll zlenL 198 = some 3 := by decide +kernel
theorem zl_199 : zll zlenL 199 = some 3 := by decide +kernel
theorem zl_200 : zll zlenL 200 = some 123 := by decide +kernel
