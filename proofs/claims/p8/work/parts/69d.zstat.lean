/-! references that stand fast, arrays' lengths; printed by wip/z/z_a_stat.py -/
def zstatL : List (Nat × Nat × Nat) := [(0, 0, 1), (0, 1, 3), (0, 2, 5), (0, 3, 10), (0, 4, 25), (0, 5, 31), (0, 6, 37), (0, 7, 43), (0, 8, 154), (0, 9, 157), (0, 10, 160), (0, 11, 164), (0, 12, 167), (1, 0, 2), (3, 0, 4), (5, 5, 6), (5, 6, 7), (5, 7, 8), (5, 8, 9), (10, 0, 5), (10, 3, 21), (10, 5, 22), (10, 6, 23), (10, 7, 24), (11, 0, 12), (11, 2, 13), (11, 4, 14), (11, 8, 15), (16, 0, 17), (16, 2, 18), (16, 4, 19), (16, 8, 20), (25, 3, 26), (25, 4, 27), (25, 5, 28), (25, 6, 29), (25, 7, 30), (31, 3, 32), (31, 4, 33), (31, 5, 34), (31, 6, 35), (31, 7, 36), (37, 3, 38), (37, 4, 39), (37, 5, 40), (37, 6, 41), (37, 7, 42), (43, 0, 44), (43, 3, 135), (154, 0, 155), (154, 1, 156), (157, 0, 158), (157, 1, 159), (160, 0, 161), (160, 1, 162), (160, 2, 163), (164, 0, 165), (164, 1, 166), (167, 0, 168), (167, 2, 169), (170, 2, 171), (170, 9, 172), (170, 10, 173), (170, 11, 174), (170, 12, 175), (170, 13, 176), (170, 18, 177), (170, 19, 178), (170, 21, 179), (170, 22, 180), (170, 25, 181), (170, 26, 182), (170, 28, 183), (170, 29, 184), (170, 30, 185), (170, 31, 186), (170, 32, 187), (170, 33, 188), (170, 35, 189), (170, 36, 190), (170, 37, 191), (170, 38, 192), (170, 40, 193), (170, 41, 194), (170, 42, 195), (170, 43, 196), (170, 44, 197), (170, 46, 198), (170, 47, 199), (170, 48, 200)]
def zlenL : List (Nat × Nat) := [(2, 80), (4, 49), (6, 49), (7, 49), (8, 392), (9, 343), (12, 40), (13, 40), (14, 5), (15, 40), (17, 40), (18, 40), (19, 5), (20, 40), (21, 20), (22, 8), (23, 8), (24, 8), (26, 8), (27, 8), (28, 8), (29, 8), (30, 8), (32, 8), (33, 8), (34, 8), (35, 8), (36, 8), (38, 8), (39, 8), (40, 8), (41, 8), (42, 8), (44, 15), (155, 32), (156, 4), (158, 30), (159, 90), (161, 49), (162, 49), (163, 49), (165, 64), (166, 2304), (168, 9), (169, 61), (171, 53), (172, 49), (173, 20), (174, 41), (175, 41), (176, 80), (177, 49), (178, 24), (179, 80), (180, 80), (181, 80), (182, 8), (183, 656), (184, 8), (185, 60), (186, 60), (187, 60), (188, 60), (189, 8), (190, 64), (191, 2304), (192, 49), (193, 10), (194, 10), (195, 10), (196, 610), (197, 80), (198, 3), (199, 3), (200, 123)]
def zlk : List (Nat × Nat × Nat) → Nat → Nat → Option Nat
  | [], _, _ => none
  | e :: r, a, k => bif Nat.beq e.1 a && Nat.beq e.2.1 k then some e.2.2 else zlk r a k
def zll : List (Nat × Nat) → Nat → Option Nat
  | [], _ => none
  | e :: r, a => bif Nat.beq e.1 a then some e.2 else zll r a
def zSh (ph : pm_H) : Prop := (∀ a k b, zlk zstatL a k = some b → zc ph a k = some (.ref b)) ∧ ∀ a n, zll zlenL a = some n → zln ph a = some n
theorem zsg {ph : pm_H} (hS : zSh ph) {a k b : Nat} (h : zlk zstatL a k = some b) : zc ph a k = some (.ref b) := hS.1 a k b h
theorem zsl {ph : pm_H} (hS : zSh ph) {a n : Nat} (h : zll zlenL a = some n) : zln ph a = some n := hS.2 a n h
theorem zlk_mem : ∀ {l : List (Nat × Nat × Nat)} {a k b : Nat}, zlk l a k = some b → (a, k, b) ∈ l := by
  intro l
  induction l with
  | nil => intro a k b h; cases h
  | cons e r ih =>
    intro a k b h
    unfold zlk at h
    cases hb : (Nat.beq e.1 a && Nat.beq e.2.1 k) with
    | true =>
      rw [hb] at h
      obtain ⟨h1, h2⟩ := (Bool.and_eq_true _ _).mp hb
      have e1 := Nat.eq_of_beq_eq_true h1
      have e2 := Nat.eq_of_beq_eq_true h2
      have e3 : e.2.2 = b := Option.some.inj h
      subst e1 e2 e3
      exact List.mem_cons_self
    | false =>
      rw [hb] at h
      exact List.mem_cons_of_mem _ (ih h)
def zok (A : List Nat) (F : List (Nat × Nat)) : Bool := zstatL.all fun e => !(A.elem e.1) && !(F.elem (e.1, e.2.1))
theorem zSh_F {A : List Nat} {F : List (Nat × Nat)} {p q : pm_H} (f : zFr A F p q) (h : zok A F = true) (hS : zSh p) : zSh q := by
  refine ⟨fun a k b hb => ?_, fun a n hn => (f.2 a).trans (hS.2 a n hn)⟩
  have h1 := List.all_eq_true.mp h _ (zlk_mem hb)
  simp only [Bool.and_eq_true, Bool.not_eq_true'] at h1
  refine (f.1 a k (fun q => ?_) (fun q => ?_)).trans (hS.1 a k b hb)
  · rw [List.elem_eq_true_of_mem q] at h1
    exact absurd h1.1 (by decide)
  · rw [List.elem_eq_true_of_mem q] at h1
    exact absurd h1.2 (by decide)
theorem zSh_st {p q : pm_H} {a k : Nat} {v : Value} (u : zst p q a k v) (h : zlk zstatL a k = none) (hS : zSh p) : zSh q := ⟨fun b i r hb => (u.2.1 b i (fun e => by
  obtain ⟨rfl, rfl⟩ := e
  rw [h] at hb
  cases hb)).trans (hS.1 b i r hb), fun b n hn => (u.2.2 b).trans (hS.2 b n hn)⟩
theorem zmaxI {x y z : Int32} (e : (if x < y then y else x) = z) : (x.toInt < y.toInt ∧ z.toInt = y.toInt) ∨ (y.toInt ≤ x.toInt ∧ z.toInt = x.toInt) := by
  by_cases h : x < y
  · rw [if_pos h] at e
    exact Or.inl ⟨x32lt.mp h, by rw [e]⟩
  · rw [if_neg h] at e
    exact Or.inr ⟨Int.not_lt.mp (fun q => h (x32lt.mpr q)), by rw [e]⟩
theorem zminI {x y z : Int32} (e : (if y < x then y else x) = z) : (y.toInt < x.toInt ∧ z.toInt = y.toInt) ∨ (x.toInt ≤ y.toInt ∧ z.toInt = x.toInt) := by
  by_cases h : y < x
  · rw [if_pos h] at e
    exact Or.inl ⟨x32lt.mp h, by rw [e]⟩
  · rw [if_neg h] at e
    exact Or.inr ⟨Int.not_lt.mp (fun q => h (x32lt.mpr q)), by rw [e]⟩
theorem zabsI {x z : Int32} (e : (if 0 ≤ x then x else 0 - x) = z) (h : -2147483648 < x.toInt := by omega) : (0 ≤ x.toInt ∧ z.toInt = x.toInt) ∨ (x.toInt < 0 ∧ z.toInt = - x.toInt) := by
  have h9 := x32_hi x
  by_cases h0 : 0 ≤ x
  · rw [if_pos h0] at e
    exact Or.inl ⟨z0le.mp h0, by rw [e]⟩
  · rw [if_neg h0] at e
    have h1 : x.toInt < 0 := Int.not_le.mp (fun q => h0 (z0le.mpr q))
    have z0 : (0 : Int32).toInt = 0 := rfl
    have h2 := ti_sub (x := 0) (y := x) (by omega) (by omega)
    exact Or.inr ⟨h1, by rw [← e, h2]; omega⟩
theorem zI_and (b : Bool) : zI b &&& 1 = zI b := by cases b <;> rfl
theorem zvB {a b : Bool} (h : a = b) : (some (Value.int (zI a)) : Option Value) = some (Value.int (zI b)) := by rw [h]
theorem zI_inj {a b : Bool} (h : zI a = zI b) : a = b := by cases a <;> cases b <;> first | rfl | exact absurd h (by decide)
theorem zs_0_0 : zlk zstatL 0 0 = some 1 := by decide +kernel
theorem zs_0_1 : zlk zstatL 0 1 = some 3 := by decide +kernel
theorem zs_0_2 : zlk zstatL 0 2 = some 5 := by decide +kernel
theorem zs_0_3 : zlk zstatL 0 3 = some 10 := by decide +kernel
theorem zs_0_4 : zlk zstatL 0 4 = some 25 := by decide +kernel
theorem zs_0_5 : zlk zstatL 0 5 = some 31 := by decide +kernel
theorem zs_0_6 : zlk zstatL 0 6 = some 37 := by decide +kernel
theorem zs_0_7 : zlk zstatL 0 7 = some 43 := by decide +kernel
theorem zs_0_8 : zlk zstatL 0 8 = some 154 := by decide +kernel
theorem zs_0_9 : zlk zstatL 0 9 = some 157 := by decide +kernel
theorem zs_0_10 : zlk zstatL 0 10 = some 160 := by decide +kernel
theorem zs_0_11 : zlk zstatL 0 11 = some 164 := by decide +kernel
theorem zs_0_12 : zlk zstatL 0 12 = some 167 := by decide +kernel
theorem zs_1_0 : zlk zstatL 1 0 = some 2 := by decide +kernel
theorem zs_3_0 : zlk zstatL 3 0 = some 4 := by decide +kernel
theorem zs_5_5 : zlk zstatL 5 5 = some 6 := by decide +kernel
theorem zs_5_6 : zlk zstatL 5 6 = some 7 := by decide +kernel
theorem zs_5_7 : zlk zstatL 5 7 = some 8 := by decide +kernel
theorem zs_5_8 : zlk zstatL 5 8 = some 9 := by decide +kernel
theorem zs_10_0 : zlk zstatL 10 0 = some 5 := by decide +kernel
theorem zs_10_3 : zlk zstatL 10 3 = some 21 := by decide +kernel
theorem zs_10_5 : zlk zstatL 10 5 = some 22 := by decide +kernel
theorem zs_10_6 : zlk zstatL 10 6 = some 23 := by decide +kernel
theorem zs_10_7 : zlk zstatL 10 7 = some 24 := by decide +kernel
theorem zs_11_0 : zlk zstatL 11 0 = some 12 := by decide +kernel
theorem zs_11_2 : zlk zstatL 11 2 = some 13 := by decide +kernel
theorem zs_11_4 : zlk zstatL 11 4 = some 14 := by decide +kernel
theorem zs_11_8 : zlk zstatL 11 8 = some 15 := by decide +kernel
theorem zs_16_0 : zlk zstatL 16 0 = some 17 := by decide +kernel
theorem zs_16_2 : zlk zstatL 16 2 = some 18 := by decide +kernel
theorem zs_16_4 : zlk zstatL 16 4 = some 19 := by decide +kernel
theorem zs_16_8 : zlk zstatL 16 8 = some 20 := by decide +kernel
theorem zs_25_3 : zlk zstatL 25 3 = some 26 := by decide +kernel
theorem zs_25_4 : zlk zstatL 25 4 = some 27 := by decide +kernel
theorem zs_25_5 : zlk zstatL 25 5 = some 28 := by decide +kernel
theorem zs_25_6 : zlk zstatL 25 6 = some 29 := by decide +kernel
theorem zs_25_7 : zlk zstatL 25 7 = some 30 := by decide +kernel
theorem zs_31_3 : zlk zstatL 31 3 = some 32 := by decide +kernel
theorem zs_31_4 : zlk zstatL 31 4 = some 33 := by decide +kernel
theorem zs_31_5 : zlk zstatL 31 5 = some 34 := by decide +kernel
theorem zs_31_6 : zlk zstatL 31 6 = some 35 := by decide +kernel
theorem zs_31_7 : zlk zstatL 31 7 = some 36 := by decide +kernel
theorem zs_37_3 : zlk zstatL 37 3 = some 38 := by decide +kernel
theorem zs_37_4 : zlk zstatL 37 4 = some 39 := by decide +kernel
theorem zs_37_5 : zlk zstatL 37 5 = some 40 := by decide +kernel
theorem zs_37_6 : zlk zstatL 37 6 = some 41 := by decide +kernel
theorem zs_37_7 : zlk zstatL 37 7 = some 42 := by decide +kernel
theorem zs_43_0 : zlk zstatL 43 0 = some 44 := by decide +kernel
theorem zs_43_3 : zlk zstatL 43 3 = some 135 := by decide +kernel
theorem zs_154_0 : zlk zstatL 154 0 = some 155 := by decide +kernel
theorem zs_154_1 : zlk zstatL 154 1 = some 156 := by decide +kernel
theorem zs_157_0 : zlk zstatL 157 0 = some 158 := by decide +kernel
theorem zs_157_1 : zlk zstatL 157 1 = some 159 := by decide +kernel
theorem zs_160_0 : zlk zstatL 160 0 = some 161 := by decide +kernel
theorem zs_160_1 : zlk zstatL 160 1 = some 162 := by decide +kernel
theorem zs_160_2 : zlk zstatL 160 2 = some 163 := by decide +kernel
theorem zs_164_0 : zlk zstatL 164 0 = some 165 := by decide +kernel
theorem zs_164_1 : zlk zstatL 164 1 = some 166 := by decide +kernel
theorem zs_167_0 : zlk zstatL 167 0 = some 168 := by decide +kernel
theorem zs_167_2 : zlk zstatL 167 2 = some 169 := by decide +kernel
theorem zs_170_2 : zlk zstatL 170 2 = some 171 := by decide +kernel
theorem zs_170_9 : zlk zstatL 170 9 = some 172 := by decide +kernel
theorem zs_170_10 : zlk zstatL 170 10 = some 173 := by decide +kernel
theorem zs_170_11 : zlk zstatL 170 11 = some 174 := by decide +kernel
theorem zs_170_12 : zlk zstatL 170 12 = some 175 := by decide +kernel
theorem zs_170_13 : zlk zstatL 170 13 = some 176 := by decide +kernel
theorem zs_170_18 : zlk zstatL 170 18 = some 177 := by decide +kernel
theorem zs_170_19 : zlk zstatL 170 19 = some 178 := by decide +kernel
theorem zs_170_21 : zlk zstatL 170 21 = some 179 := by decide +kernel
theorem zs_170_22 : zlk zstatL 170 22 = some 180 := by decide +kernel
theorem zs_170_25 : zlk zstatL 170 25 = some 181 := by decide +kernel
theorem zs_170_26 : zlk zstatL 170 26 = some 182 := by decide +kernel
theorem zs_170_28 : zlk zstatL 170 28 = some 183 := by decide +kernel
theorem zs_170_29 : zlk zstatL 170 29 = some 184 := by decide +kernel
theorem zs_170_30 : zlk zstatL 170 30 = some 185 := by decide +kernel
theorem zs_170_31 : zlk zstatL 170 31 = some 186 := by decide +kernel
theorem zs_170_32 : zlk zstatL 170 32 = some 187 := by decide +kernel
theorem zs_170_33 : zlk zstatL 170 33 = some 188 := by decide +kernel
theorem zs_170_35 : zlk zstatL 170 35 = some 189 := by decide +kernel
theorem zs_170_36 : zlk zstatL 170 36 = some 190 := by decide +kernel
theorem zs_170_37 : zlk zstatL 170 37 = some 191 := by decide +kernel
theorem zs_170_38 : zlk zstatL 170 38 = some 192 := by decide +kernel
theorem zs_170_40 : zlk zstatL 170 40 = some 193 := by decide +kernel
theorem zs_170_41 : zlk zstatL 170 41 = some 194 := by decide +kernel
theorem zs_170_42 : zlk zstatL 170 42 = some 195 := by decide +kernel
theorem zs_170_43 : zlk zstatL 170 43 = some 196 := by decide +kernel
theorem zs_170_44 : zlk zstatL 170 44 = some 197 := by decide +kernel
theorem zs_170_46 : zlk zstatL 170 46 = some 198 := by decide +kernel
theorem zs_170_47 : zlk zstatL 170 47 = some 199 := by decide +kernel
theorem zs_170_48 : zlk zstatL 170 48 = some 200 := by decide +kernel
theorem zl_2 : zll zlenL 2 = some 80 := by decide +kernel
theorem zl_4 : zll zlenL 4 = some 49 := by decide +kernel
theorem zl_6 : zll zlenL 6 = some 49 := by decide +kernel
theorem zl_7 : zll zlenL 7 = some 49 := by decide +kernel
theorem zl_8 : zll zlenL 8 = some 392 := by decide +kernel
theorem zl_9 : zll zlenL 9 = some 343 := by decide +kernel
theorem zl_12 : zll zlenL 12 = some 40 := by decide +kernel
theorem zl_13 : zll zlenL 13 = some 40 := by decide +kernel
theorem zl_14 : zll zlenL 14 = some 5 := by decide +kernel
theorem zl_15 : zll zlenL 15 = some 40 := by decide +kernel
theorem zl_17 : zll zlenL 17 = some 40 := by decide +kernel
theorem zl_18 : zll zlenL 18 = some 40 := by decide +kernel
theorem zl_19 : zll zlenL 19 = some 5 := by decide +kernel
theorem zl_20 : zll zlenL 20 = some 40 := by decide +kernel
theorem zl_21 : zll zlenL 21 = some 20 := by decide +kernel
theorem zl_22 : zll zlenL 22 = some 8 := by decide +kernel
theorem zl_23 : zll zlenL 23 = some 8 := by decide +kernel
theorem zl_24 : zll zlenL 24 = some 8 := by decide +kernel
theorem zl_26 : zll zlenL 26 = some 8 := by decide +kernel
theorem zl_27 : zll zlenL 27 = some 8 := by decide +kernel
theorem zl_28 : zll zlenL 28 = some 8 := by decide +kernel
theorem zl_29 : zll zlenL 29 = some 8 := by decide +kernel
theorem zl_30 : zll zlenL 30 = some 8 := by decide +kernel
theorem zl_32 : zll zlenL 32 = some 8 := by decide +kernel
theorem zl_33 : zll zlenL 33 = some 8 := by decide +kernel
theorem zl_34 : zll zlenL 34 = some 8 := by decide +kernel
theorem zl_35 : zll zlenL 35 = some 8 := by decide +kernel
theorem zl_36 : zll zlenL 36 = some 8 := by decide +kernel
theorem zl_38 : zll zlenL 38 = some 8 := by decide +kernel
theorem zl_39 : zll zlenL 39 = some 8 := by decide +kernel
theorem zl_40 : zll zlenL 40 = some 8 := by decide +kernel
theorem zl_41 : zll zlenL 41 = some 8 := by decide +kernel
theorem zl_42 : zll zlenL 42 = some 8 := by decide +kernel
theorem zl_44 : zll zlenL 44 = some 15 := by decide +kernel
theorem zl_155 : zll zlenL 155 = some 32 := by decide +kernel
theorem zl_156 : zll zlenL 156 = some 4 := by decide +kernel
theorem zl_158 : zll zlenL 158 = some 30 := by decide +kernel
theorem zl_159 : zll zlenL 159 = some 90 := by decide +kernel
theorem zl_161 : zll zlenL 161 = some 49 := by decide +kernel
theorem zl_162 : zll zlenL 162 = some 49 := by decide +kernel
theorem zl_163 : zll zlenL 163 = some 49 := by decide +kernel
theorem zl_165 : zll zlenL 165 = some 64 := by decide +kernel
theorem zl_166 : zll zlenL 166 = some 2304 := by decide +kernel
theorem zl_168 : zll zlenL 168 = some 9 := by decide +kernel
theorem zl_169 : zll zlenL 169 = some 61 := by decide +kernel
theorem zl_171 : zll zlenL 171 = some 53 := by decide +kernel
theorem zl_172 : zll zlenL 172 = some 49 := by decide +kernel
theorem zl_173 : zll zlenL 173 = some 20 := by decide +kernel
theorem zl_174 : zll zlenL 174 = some 41 := by decide +kernel
theorem zl_175 : zll zlenL 175 = some 41 := by decide +kernel
theorem zl_176 : zll zlenL 176 = some 80 := by decide +kernel
theorem zl_177 : zll zlenL 177 = some 49 := by decide +kernel
theorem zl_178 : zll zlenL 178 = some 24 := by decide +kernel
theorem zl_179 : zll zlenL 179 = some 80 := by decide +kernel
theorem zl_180 : zll zlenL 180 = some 80 := by decide +kernel
theorem zl_181 : zll zlenL 181 = some 80 := by decide +kernel
theorem zl_182 : zll zlenL 182 = some 8 := by decide +kernel
theorem zl_183 : zll zlenL 183 = some 656 := by decide +kernel
theorem zl_184 : zll zlenL 184 = some 8 := by decide +kernel
theorem zl_185 : zll zlenL 185 = some 60 := by decide +kernel
theorem zl_186 : zll zlenL 186 = some 60 := by decide +kernel
theorem zl_187 : zll zlenL 187 = some 60 := by decide +kernel
theorem zl_188 : zll zlenL 188 = some 60 := by decide +kernel
theorem zl_189 : zll zlenL 189 = some 8 := by decide +kernel
theorem zl_190 : zll zlenL 190 = some 64 := by decide +kernel
theorem zl_191 : zll zlenL 191 = some 2304 := by decide +kernel
theorem zl_192 : zll zlenL 192 = some 49 := by decide +kernel
theorem zl_193 : zll zlenL 193 = some 10 := by decide +kernel
theorem zl_194 : zll zlenL 194 = some 10 := by decide +kernel
theorem zl_195 : zll zlenL 195 = some 10 := by decide +kernel
theorem zl_196 : zll zlenL 196 = some 610 := by decide +kernel
theorem zl_197 : zll zlenL 197 = some 80 := by decide +kernel
theorem zl_198 : zll zlenL 198 = some 3 := by decide +kernel
theorem zl_199 : zll zlenL 199 = some 3 := by decide +kernel
theorem zl_200 : zll zlenL 200 = some 123 := by decide +kernel
