/-! references that stand fast, arrays' lengths; printed by wip/z/z_a_stat.py -/
def zstatL : List (Nat × Nat × Nat) := [(0, 0, 1), (0, 1, 3), (0, 2, 5), (0, 3, 10), (0, 4, 25), (0, 5, 31), (0, 6, 37), (0, 7, 43), (0, 8, 154), (0, 9, 157), (0, 10, 160), (0, 11, 164), (0, 12, 167), (1, 0, 2), (3, 0, 4), (5, 5, 6), (5, 6, 7), (5, 7, 8), (5, 8, 9), (10, 0, 5), (10, 3, 21), (10, 5, 22), (10, 6, 23), (10, 7, 24), (11, 0, 12), (11, 2, 13), (11, 4, 14), (11, 8, 15), (16, 0, 17), (16, 2, 18), (16, 4, 19), (16, 8, 20), (25, 3, 26), (25, 4, 27), (25, 5, 28), (25, 6, 29), (25, 7, 30), (31, 3, 32), (31, 4, 33), (31, 5, 34), (31, 6, 35), (31, 7, 36), (37, 3, 38), (37, 4, 39), (37, 5, 40), (37, 6, 41), (37, 7, 42), (43, 0, 44), (43, 3, 135), (44, 0, 45), (44, 1, 51), (44, 2, 57), (44, 3, 63), (44, 4, 69), (44, 5, 75), (44, 6, 81), (44, 7, 87), (44, 8, 93), (44, 9, 99), (44, 10, 105), (44, 11, 111), (44, 12, 117), (44, 13, 123), (44, 14, 129), (45, 3, 46), (45, 4, 47), (45, 5, 48), (45, 6, 49), (45, 7, 50), (51, 3, 52), (51, 4, 53), (51, 5, 54), (51, 6, 55), (51, 7, 56), (57, 3, 58), (57, 4, 59), (57, 5, 60), (57, 6, 61), (57, 7, 62), (63, 3, 64), (63, 4, 65), (63, 5, 66), (63, 6, 67), (63, 7, 68), (69, 3, 70), (69, 4, 71), (69, 5, 72), (69, 6, 73), (69, 7, 74), (75, 3, 76), (75, 4, 77), (75, 5, 78), (75, 6, 79), (75, 7, 80), (81, 3, 82), (81, 4, 83), (81, 5, 84), (81, 6, 85), (81, 7, 86), (87, 3, 88), (87, 4, 89), (87, 5, 90), (87, 6, 91), (87, 7, 92), (93, 3, 94), (93, 4, 95), (93, 5, 96), (93, 6, 97), (93, 7, 98), (99, 3, 100), (99, 4, 101), (99, 5, 102), (99, 6, 103), (99, 7, 104), (105, 3, 106), (105, 4, 107), (105, 5, 108), (105, 6, 109), (105, 7, 110), (111, 3, 112), (111, 4, 113), (111, 5, 114), (111, 6, 115), (111, 7, 116), (117, 3, 118), (117, 4, 119), (117, 5, 120), (117, 6, 121), (117, 7, 122), (123, 3, 124), (123, 4, 125), (123, 5, 126), (123, 6, 127), (123, 7, 128), (129, 3, 130), (129, 4, 131), (129, 5, 132), (129, 6, 133), (129, 7, 134), (135, 0, 136), (135, 1, 142), (135, 2, 148), (136, 3, 137), (136, 4, 138), (136, 5, 139), (136, 6, 140), (136, 7, 141), (142, 3, 143), (142, 4, 144), (142, 5, 145), (142, 6, 146), (142, 7, 147), (148, 3, 149), (148, 4, 150), (148, 5, 151), (148, 6, 152), (148, 7, 153), (154, 0, 155), (154, 1, 156), (157, 0, 158), (157, 1, 159), (160, 0, 161), (160, 1, 162), (160, 2, 163), (164, 0, 165), (164, 1, 166), (167, 0, 168), (167, 2, 169), (170, 2, 171), (170, 9, 172), (170, 10, 173), (170, 11, 174), (170, 12, 175), (170, 13, 176), (170, 18, 177), (170, 19, 178), (170, 21, 179), (170, 22, 180), (170, 25, 181), (170, 26, 182), (170, 28, 183), (170, 29, 184), (170, 30, 185), (170, 31, 186), (170, 32, 187), (170, 33, 188), (170, 35, 189), (170, 36, 190), (170, 37, 191), (170, 38, 192), (170, 40, 193), (170, 41, 194), (170, 42, 195), (170, 43, 196), (170, 44, 197), (170, 46, 198), (170, 47, 199), (170, 48, 200)]
def zlenL : List (Nat × Nat) := [(2, 80), (4, 49), (6, 49), (7, 49), (8, 392), (9, 343), (12, 40), (13, 40), (14, 5), (15, 40), (17, 40), (18, 40), (19, 5), (20, 40), (21, 20), (22, 8), (23, 8), (24, 8), (26, 8), (27, 8), (28, 8), (29, 8), (30, 8), (32, 8), (33, 8), (34, 8), (35, 8), (36, 8), (38, 8), (39, 8), (40, 8), (41, 8), (42, 8), (44, 15), (46, 8), (47, 8), (48, 8), (49, 8), (50, 8), (52, 8), (53, 8), (54, 8), (55, 8), (56, 8), (58, 8), (59, 8), (60, 8), (61, 8), (62, 8), (64, 8), (65, 8), (66, 8), (67, 8), (68, 8), (70, 8), (71, 8), (72, 8), (73, 8), (74, 8), (76, 8), (77, 8), (78, 8), (79, 8), (80, 8), (82, 8), (83, 8), (84, 8), (85, 8), (86, 8), (88, 8), (89, 8), (90, 8), (91, 8), (92, 8), (94, 8), (95, 8), (96, 8), (97, 8), (98, 8), (100, 8), (101, 8), (102, 8), (103, 8), (104, 8), (106, 8), (107, 8), (108, 8), (109, 8), (110, 8), (112, 8), (113, 8), (114, 8), (115, 8), (116, 8), (118, 8), (119, 8), (120, 8), (121, 8), (122, 8), (124, 8), (125, 8), (126, 8), (127, 8), (128, 8), (130, 8), (131, 8), (132, 8), (133, 8), (134, 8), (135, 3), (137, 8), (138, 8), (139, 8), (140, 8), (141, 8), (143, 8), (144, 8), (145, 8), (146, 8), (147, 8), (149, 8), (150, 8), (151, 8), (152, 8), (153, 8), (155, 32), (156, 4), (158, 30), (159, 90), (161, 49), (162, 49), (163, 49), (165, 64), (166, 2304), (168, 9), (169, 61), (171, 53), (172, 49), (173, 20), (174, 41), (175, 41), (176, 80), (177, 49), (178, 24), (179, 80), (180, 80), (181, 80), (182, 8), (183, 656), (184, 8), (185, 60), (186, 60), (187, 60), (188, 60), (189, 8), (190, 64), (191, 2304), (192, 49), (193, 10), (194, 10), (195, 10), (196, 610), (197, 80), (198, 3), (199, 3), (200, 123)]
def zlk : List (Nat × Nat × Nat) → Nat → Nat → Option Nat
  | [], _, _ => none
  | e :: r, a, k => bif Nat.beq e.1 a && Nat.beq e.2.1 k then some e.2.2 else zlk r a k
def zll : List (Nat × Nat) → Nat → Option Nat
  | [], _ => none
  | e :: r, a => bif Nat.beq e.1 a then some e.2 else zll r a
def zSh (ph : pm_H) : Prop := (∀ a k b, zlk zstatL a k = some b → zc ph a k = some (.ref b)) ∧ ∀ a n, zll zlenL a = some n → zln ph a = some n
theorem zsg {ph : pm_H} (hS : zSh ph) {a k b : Nat} (h : zlk zstatL a k = some b) : zc ph a k = some (.ref b) := hS.1 a k b h
theorem zsl {ph : pm_H} (hS : zSh ph) {a n : Nat} (h : zll zlenL a = some n) : zln ph a = some n := hS.2 a n h
theorem zlk_mem : ∀ {l : List (Nat × Nat × Nat)} {a k b : Nat}, zlk l a k = some b → (a, k, b) ∈ l := by
  intro l
  induction l with
  | nil => intro a k b h; cases h
  | cons e r ih =>
    intro a k b h
    unfold zlk at h
    cases hb : (Nat.beq e.1 a && Nat.beq e.2.1 k) with
    | true =>
      rw [hb] at h
      obtain ⟨h1, h2⟩ := (Bool.and_eq_true _ _).mp hb
      have e1 := Nat.eq_of_beq_eq_true h1
      have e2 := Nat.eq_of_beq_eq_true h2
      have e3 : e.2.2 = b := Option.some.inj h
      subst e1 e2 e3
      exact List.mem_cons_self
    | false =>
      rw [hb] at h
      exact List.mem_cons_of_mem _ (ih h)
def zok (A : List Nat) (F : List (Nat × Nat)) : Bool := zstatL.all fun e => !(A.elem e.1) && !(F.elem (e.1, e.2.1))
theorem zSh_F {A : List Nat} {F : List (Nat × Nat)} {p q : pm_H} (f : zFr A F p q) (h : zok A F = true) (hS : zSh p) : zSh q := by
  refine ⟨fun a k b hb => ?_, fun a n hn => (f.2 a).trans (hS.2 a n hn)⟩
  have h1 := List.all_eq_true.mp h _ (zlk_mem hb)
  simp only [Bool.and_eq_true, Bool.not_eq_true'] at h1
  refine (f.1 a k (fun q => ?_) (fun q => ?_)).trans (hS.1 a k b hb)
  · rw [List.elem_eq_true_of_mem q] at h1
    exact absurd h1.1 (by decide)
  · rw [List.elem_eq_true_of_mem q] at h1
    exact absurd h1.2 (by decide)
theorem zSh_st {p q : pm_H} {a k : Nat} {v : Value} (u : zst p q a k v) (h : zlk zstatL a k = none) (hS : zSh p) : zSh q := ⟨fun b i r hb => (u.2.1 b i (fun e => by
  obtain ⟨rfl, rfl⟩ := e
  rw [h] at hb
  cases hb)).trans (hS.1 b i r hb), fun b n hn => (u.2.2 b).trans (hS.2 b n hn)⟩
theorem zmaxI {x y z : Int32} (e : (if x < y then y else x) = z) : (x.toInt < y.toInt ∧ z.toInt = y.toInt) ∨ (y.toInt ≤ x.toInt ∧ z.toInt = x.toInt) := by
  by_cases h : x < y
  · rw [if_pos h] at e
    exact Or.inl ⟨x32lt.mp h, by rw [e]⟩
  · rw [if_neg h] at e
    exact Or.inr ⟨Int.not_lt.mp (fun q => h (x32lt.mpr q)), by rw [e]⟩
theorem zminI {x y z : Int32} (e : (if y < x then y else x) = z) : (y.toInt < x.toInt ∧ z.toInt = y.toInt) ∨ (x.toInt ≤ y.toInt ∧ z.toInt = x.toInt) := by
  by_cases h : y < x
  · rw [if_pos h] at e
    exact Or.inl ⟨x32lt.mp h, by rw [e]⟩
  · rw [if_neg h] at e
    exact Or.inr ⟨Int.not_lt.mp (fun q => h (x32lt.mpr q)), by rw [e]⟩
theorem zabsI {x z : Int32} (e : (if 0 ≤ x then x else 0 - x) = z) (h : -2147483648 < x.toInt := by omega) : (0 ≤ x.toInt ∧ z.toInt = x.toInt) ∨ (x.toInt < 0 ∧ z.toInt = - x.toInt) := by
  have h9 := x32_hi x
  by_cases h0 : 0 ≤ x
  · rw [if_pos h0] at e
    exact Or.inl ⟨z0le.mp h0, by rw [e]⟩
  · rw [if_neg h0] at e
    have h1 : x.toInt < 0 := Int.not_le.mp (fun q => h0 (z0le.mpr q))
    have z0 : (0 : Int32).toInt = 0 := rfl
    have h2 := ti_sub (x := 0) (y := x) (by omega) (by omega)
    exact Or.inr ⟨h1, by rw [← e, h2]; omega⟩
theorem zI_and (b : Bool) : zI b &&& 1 = zI b := by cases b <;> rfl
theorem zvB {a b : Bool} (h : a = b) : (some (Value.int (zI a)) : Option Value) = some (Value.int (zI b)) := by rw [h]
theorem zs_0_0 : zlk zstatL 0 0 = some 1 := by decide +kernel
theorem zs_0_1 : zlk zstatL 0 1 = some 3 := by decide +kernel
theorem zs_0_2 : zlk zstatL 0 2 = some 5 := by decide +kernel
theorem zs_0_3 : zlk zstatL 0 3 = some 10 := by decide +kernel
theorem zs_0_4 : zlk zstatL 0 4 = some 25 := by decide +kernel
theorem zs_0_5 : zlk zstatL 0 5 = some 31 := by decide +kernel
theorem zs_0_7 : zlk zstatL 0 7 = some 43 := by decide +kernel
theorem zs_0_8 : zlk zstatL 0 8 = some 154 := by decide +kernel
theorem zs_0_9 : zlk zstatL 0 9 = some 157 := by decide +kernel
theorem zs_1_0 : zlk zstatL 1 0 = some 2 := by decide +kernel
theorem zs_3_0 : zlk zstatL 3 0 = some 4 := by decide +kernel
theorem zs_5_5 : zlk zstatL 5 5 = some 6 := by decide +kernel
theorem zs_5_6 : zlk zstatL 5 6 = some 7 := by decide +kernel
theorem zs_5_7 : zlk zstatL 5 7 = some 8 := by decide +kernel
theorem zs_5_8 : zlk zstatL 5 8 = some 9 := by decide +kernel
theorem zs_10_0 : zlk zstatL 10 0 = some 5 := by decide +kernel
theorem zs_10_3 : zlk zstatL 10 3 = some 21 := by decide +kernel
theorem zs_10_5 : zlk zstatL 10 5 = some 22 := by decide +kernel
theorem zs_10_6 : zlk zstatL 10 6 = some 23 := by decide +kernel
theorem zs_10_7 : zlk zstatL 10 7 = some 24 := by decide +kernel
theorem zs_11_0 : zlk zstatL 11 0 = some 12 := by decide +kernel
theorem zs_11_2 : zlk zstatL 11 2 = some 13 := by decide +kernel
theorem zs_11_4 : zlk zstatL 11 4 = some 14 := by decide +kernel
theorem zs_11_8 : zlk zstatL 11 8 = some 15 := by decide +kernel
theorem zs_16_0 : zlk zstatL 16 0 = some 17 := by decide +kernel
theorem zs_16_2 : zlk zstatL 16 2 = some 18 := by decide +kernel
theorem zs_16_4 : zlk zstatL 16 4 = some 19 := by decide +kernel
theorem zs_16_8 : zlk zstatL 16 8 = some 20 := by decide +kernel
theorem zs_25_3 : zlk zstatL 25 3 = some 26 := by decide +kernel
theorem zs_25_4 : zlk zstatL 25 4 = some 27 := by decide +kernel
theorem zs_25_5 : zlk zstatL 25 5 = some 28 := by decide +kernel
theorem zs_25_6 : zlk zstatL 25 6 = some 29 := by decide +kernel
theorem zs_25_7 : zlk zstatL 25 7 = some 30 := by decide +kernel
theorem zs_43_0 : zlk zstatL 43 0 = some 44 := by decide +kernel
theorem zs_43_3 : zlk zstatL 43 3 = some 135 := by decide +kernel
theorem zs_154_0 : zlk zstatL 154 0 = some 155 := by decide +kernel
theorem zs_154_1 : zlk zstatL 154 1 = some 156 := by decide +kernel
theorem zs_157_0 : zlk zstatL 157 0 = some 158 := by decide +kernel
theorem zs_157_1 : zlk zstatL 157 1 = some 159 := by decide +kernel
theorem zs_170_2 : zlk zstatL 170 2 = some 171 := by decide +kernel
theorem zs_170_9 : zlk zstatL 170 9 = some 172 := by decide +kernel
theorem zs_170_10 : zlk zstatL 170 10 = some 173 := by decide +kernel
theorem zs_170_11 : zlk zstatL 170 11 = some 174 := by decide +kernel
theorem zs_170_13 : zlk zstatL 170 13 = some 176 := by decide +kernel
theorem zs_170_18 : zlk zstatL 170 18 = some 177 := by decide +kernel
theorem zs_170_19 : zlk zstatL 170 19 = some 178 := by decide +kernel
theorem zs_170_21 : zlk zstatL 170 21 = some 179 := by decide +kernel
theorem zs_170_22 : zlk zstatL 170 22 = some 180 := by decide +kernel
theorem zs_170_25 : zlk zstatL 170 25 = some 181 := by decide +kernel
theorem zs_170_26 : zlk zstatL 170 26 = some 182 := by decide +kernel
theorem zs_170_28 : zlk zstatL 170 28 = some 183 := by decide +kernel
theorem zs_170_29 : zlk zstatL 170 29 = some 184 := by decide +kernel
theorem zs_170_30 : zlk zstatL 170 30 = some 185 := by decide +kernel
theorem zs_170_31 : zlk zstatL 170 31 = some 186 := by decide +kernel
theorem zs_170_32 : zlk zstatL 170 32 = some 187 := by decide +kernel
theorem zs_170_33 : zlk zstatL 170 33 = some 188 := by decide +kernel
theorem zs_170_40 : zlk zstatL 170 40 = some 193 := by decide +kernel
theorem zs_170_41 : zlk zstatL 170 41 = some 194 := by decide +kernel
theorem zs_170_44 : zlk zstatL 170 44 = some 197 := by decide +kernel
theorem zs_170_46 : zlk zstatL 170 46 = some 198 := by decide +kernel
theorem zs_170_47 : zlk zstatL 170 47 = some 199 := by decide +kernel
theorem zs_170_48 : zlk zstatL 170 48 = some 200 := by decide +kernel
theorem zl_22 : zll zlenL 22 = some 8 := by decide +kernel
theorem zl_28 : zll zlenL 28 = some 8 := by decide +kernel
theorem zl_155 : zll zlenL 155 = some 32 := by decide +kernel
theorem zl_156 : zll zlenL 156 = some 4 := by decide +kernel
theorem zl_159 : zll zlenL 159 = some 90 := by decide +kernel