/-! Kinds of addresses, what they are, printed by wip/x/xprint.py -/
def xck_0 : List (Option Nat × xt) := [(some 170, .inr (13, [.inl ((Int.negSucc 2147483647), (Int.ofNat 2147483647)), .inl ((Int.ofNat 0), (Int.ofNat 53)), .inr (some 1), .inl ((Int.ofNat 3), (Int.ofNat 7)), .inl ((Int.ofNat 3), (Int.ofNat 7)), .inl ((Int.ofNat 0), (Int.ofNat 8)), .inl ((Int.ofNat 0), (Int.ofNat 8)), .inl ((Int.negSucc 2147483647), (Int.ofNat 2147483647)), .inl ((Int.ofNat 1), (Int.ofNat 20)), .inr (some 2), .inr (some 3), .inr (some 4), .inr (some 5), .inr (some 6), .inl ((Int.ofNat 0), (Int.ofNat 80)), .inl ((Int.ofNat 0), (Int.ofNat 80)), .inl ((Int.ofNat 0), (Int.ofNat 80)), .inl ((Int.ofNat 0), (Int.ofNat 4)), .inr (some 7), .inr (some 8), .inl ((Int.ofNat 0), (Int.ofNat 8)), .inr (some 9), .inr (some 10), .inl ((Int.ofNat 0), (Int.ofNat 80)), .inl ((Int.ofNat 0), (Int.ofNat 80)), .inr (some 11), .inr (some 12), .inl ((Int.ofNat 0), (Int.ofNat 15)), .inr (some 13), .inr (some 14), .inr (some 15), .inr (some 16), .inr (some 17), .inr (some 18), .inl ((Int.ofNat 0), (Int.ofNat 60)), .inr (some 19), .inr (some 20), .inr (some 21), .inr (some 22), .inl ((Int.ofNat 0), (Int.ofNat 10)), .inr (some 23), .inr (some 24), .inr (some 25), .inr (some 26), .inr (some 27), .inl ((Int.negSucc 2147483647), (Int.ofNat 2147483647)), .inr (some 28), .inr (some 29), .inr (some 30)])),
  (some 171, .inl (2, 53, 1, [], 0)),
  (some 172, .inl (1, 49, 1, [], 0)),
  (some 173, .inl (0, 20, 1, [], 0)),
  (some 174, .inl (0, 41, 41, [(8, some ((Int.ofNat 0), (Int.ofNat 48))), (32, some ((Int.negSucc 2147483647), (Int.ofNat 2147483647))), (40, some ((Int.ofNat 0), (Int.ofNat 48))), (41, none)], 0)),
  (some 175, .inl (0, 41, 41, [(8, some ((Int.ofNat 0), (Int.ofNat 48))), (32, some ((Int.negSucc 2147483647), (Int.ofNat 2147483647))), (40, some ((Int.ofNat 0), (Int.ofNat 48))), (41, none)], 0)),
  (some 176, .inl (0, 80, 1, [(1, some ((Int.ofNat 0), (Int.ofNat 255)))], 0)),
  (some 177, .inl (1, 49, 1, [], 0)),
  (some 178, .inl (0, 24, 1, [(1, some ((Int.negSucc 0), (Int.ofNat 48)))], 0)),
  (some 179, .inl (0, 80, 1, [], 0)),
  (some 180, .inl (0, 80, 1, [], 0)),
  (some 181, .inl (0, 80, 1, [], 0)),
  (some 182, .inl (0, 8, 1, [], 0)),
  (some 183, .inl (0, 656, 41, [(8, some ((Int.ofNat 0), (Int.ofNat 48))), (32, some ((Int.negSucc 2147483647), (Int.ofNat 2147483647))), (40, some ((Int.ofNat 0), (Int.ofNat 48))), (41, none)], 0)),
  (some 184, .inl (0, 8, 1, [], 0)),
  (some 185, .inl (0, 60, 1, [], 0))]
def xck_1 : List (Option Nat × xt) := [(some 186, .inl (0, 60, 1, [(1, some ((Int.negSucc 0), (Int.ofNat 9)))], 0)),
  (some 187, .inl (0, 60, 1, [], 0)),
  (some 188, .inl (0, 60, 1, [], 0)),
  (some 189, .inl (2, 8, 1, [], 0)),
  (some 190, .inl (0, 64, 1, [(1, some ((Int.ofNat 0), (Int.ofNat 255)))], 0)),
  (some 191, .inl (0, 2304, 1, [], 0)),
  (some 192, .inl (0, 49, 1, [], 0)),
  (some 193, .inl (0, 10, 1, [(1, some ((Int.ofNat 0), (Int.ofNat 7)))], 0)),
  (some 194, .inl (0, 10, 1, [], 0)),
  (some 195, .inl (2, 10, 1, [], 0)),
  (some 196, .inl (0, 610, 1, [], 0)),
  (some 197, .inl (0, 80, 1, [], 0)),
  (some 198, .inl (1, 3, 1, [], 0)),
  (some 199, .inl (0, 3, 1, [], 0)),
  (some 200, .inl (0, 123, 41, [(8, some ((Int.ofNat 0), (Int.ofNat 48))), (32, some ((Int.negSucc 2147483647), (Int.ofNat 2147483647))), (40, some ((Int.ofNat 0), (Int.ofNat 48))), (41, none)], 0)),
  (some 0, .inr (12, [.inr (some 44), .inr (some 46), .inr (some 48), .inr (some 53), .inr (some 32), .inr (some 38), .inr (some 104), .inr (some 58), .inr (some 61), .inr (some 64), .inr (some 67), .inr (some 71), .inr (some 74), .inr none, .inl ((Int.negSucc 2147483647), (Int.ofNat 2147483647))]))]
def xck_2 : List (Option Nat × xt) := [(some 25, .inr (10, [.inl ((Int.negSucc 2147483647), (Int.ofNat 2147483647)), .inl ((Int.negSucc 2147483647), (Int.ofNat 2147483647)), .inl ((Int.negSucc 2147483647), (Int.ofNat 2147483647)), .inr (some 33), .inr (some 34), .inr (some 35), .inr (some 36), .inr (some 37)])),
  (some 26, .inl (0, 8, 1, [], 0)),
  (some 27, .inl (0, 8, 1, [], 0)),
  (some 28, .inl (0, 8, 1, [], 0)),
  (some 29, .inl (0, 8, 1, [], 0)),
  (some 30, .inl (0, 8, 1, [], 0)),
  (some 31, .inr (10, [.inl ((Int.negSucc 2147483647), (Int.ofNat 2147483647)), .inl ((Int.negSucc 2147483647), (Int.ofNat 2147483647)), .inl ((Int.negSucc 2147483647), (Int.ofNat 2147483647)), .inr (some 39), .inr (some 40), .inr (some 41), .inr (some 42), .inr (some 43)])),
  (some 32, .inl (0, 8, 1, [], 0)),
  (some 33, .inl (0, 8, 1, [], 0)),
  (some 34, .inl (0, 8, 1, [], 0)),
  (some 35, .inl (0, 8, 1, [], 0)),
  (some 36, .inl (0, 8, 1, [], 0)),
  (some 1, .inr (9, [.inr (some 45), .inl ((Int.ofNat 0), (Int.ofNat 80))])),
  (some 2, .inl (0, 80, 1, [], 0)),
  (some 3, .inr (5, [.inr (some 47), .inl ((Int.ofNat 0), (Int.ofNat 49))])),
  (some 4, .inl (2, 49, 1, [], 0))]
def xck_3 : List (Option Nat × xt) := [(some 5, .inr (3, [.inl ((Int.ofNat 3), (Int.ofNat 7)), .inl ((Int.ofNat 3), (Int.ofNat 7)), .inl ((Int.ofNat 0), (Int.ofNat 49)), .inr none, .inr none, .inr (some 49), .inr (some 50), .inr (some 51), .inr (some 52)])),
  (some 6, .inl (0, 49, 1, [(1, some ((Int.ofNat 0), (Int.ofNat 6)))], 0)),
  (some 7, .inl (0, 49, 1, [(1, some ((Int.ofNat 0), (Int.ofNat 6)))], 0)),
  (some 8, .inl (2, 392, 1, [], 0)),
  (some 9, .inl (2, 343, 1, [], 0)),
  (some 10, .inr (8, [.inr (some 48), .inr (some 200), .inr (some 200), .inr (some 54), .inl ((Int.negSucc 2147483647), (Int.ofNat 2147483647)), .inr (some 55), .inr (some 56), .inr (some 57)])),
  (some 21, .inl (0, 20, 1, [], 0)),
  (some 22, .inl (0, 8, 1, [], 0)),
  (some 23, .inl (2, 8, 1, [], 0)),
  (some 24, .inl (0, 8, 1, [], 0)),
  (some 43, .inr (2, [.inr (some 59), .inl ((Int.negSucc 2147483647), (Int.ofNat 2147483647)), .inl ((Int.negSucc 2147483647), (Int.ofNat 2147483647)), .inr (some 60), .inl ((Int.negSucc 2147483647), (Int.ofNat 2147483647))])),
  (some 44, .inl (4, 15, 1, [], 110)),
  (some 135, .inl (4, 3, 1, [], 116)),
  (some 154, .inr (4, [.inr (some 62), .inr (some 63), .inl ((Int.negSucc 2147483647), (Int.ofNat 2147483647))])),
  (some 155, .inl (0, 32, 1, [], 0)),
  (some 156, .inl (0, 4, 1, [], 0))]
def xck_4 : List (Option Nat × xt) := [(some 157, .inr (6, [.inr (some 65), .inr (some 66), .inl ((Int.negSucc 2147483647), (Int.ofNat 2147483647))])),
  (some 158, .inl (0, 30, 1, [], 0)),
  (some 159, .inl (0, 90, 1, [], 0)),
  (some 160, .inr (7, [.inr (some 68), .inr (some 69), .inr (some 70)])),
  (some 161, .inl (0, 49, 1, [], 0)),
  (some 162, .inl (0, 49, 1, [(1, some ((Int.ofNat 0), (Int.ofNat 48)))], 0)),
  (some 163, .inl (0, 49, 1, [], 0)),
  (some 164, .inr (11, [.inr (some 72), .inr (some 73)])),
  (some 165, .inl (0, 64, 1, [(1, some ((Int.ofNat 0), (Int.ofNat 255)))], 0)),
  (some 166, .inl (0, 2304, 1, [], 0)),
  (some 167, .inr (1, [.inr (some 75), .inr none, .inr (some 76), .inl ((Int.negSucc 2147483647), (Int.ofNat 2147483647))])),
  (some 168, .inl (2, 9, 1, [], 0)),
  (some 169, .inl (0, 61, 1, [], 0)),
  (some 11, .inr (0, [.inr (some 78), .inl ((Int.ofNat 0), (Int.ofNat 40)), .inr (some 79), .inl ((Int.ofNat 0), (Int.ofNat 40)), .inr (some 80), .inl ((Int.negSucc 2147483647), (Int.ofNat 2147483647)), .inl ((Int.negSucc 2147483647), (Int.ofNat 2147483647)), .inl ((Int.ofNat 0), (Int.ofNat 1)), .inr (some 81)])),
  (some 12, .inl (0, 40, 1, [], 0)),
  (some 13, .inl (0, 40, 1, [], 0))]
def xck_5 : List (Option Nat × xt) := [(some 14, .inl (1, 5, 1, [], 0)),
  (some 15, .inl (0, 40, 1, [], 0)),
  (some 16, .inr (0, [.inr (some 83), .inl ((Int.ofNat 0), (Int.ofNat 40)), .inr (some 84), .inl ((Int.ofNat 0), (Int.ofNat 40)), .inr (some 85), .inl ((Int.negSucc 2147483647), (Int.ofNat 2147483647)), .inl ((Int.negSucc 2147483647), (Int.ofNat 2147483647)), .inl ((Int.ofNat 0), (Int.ofNat 1)), .inr (some 86)])),
  (some 17, .inl (0, 40, 1, [], 0)),
  (some 18, .inl (0, 40, 1, [], 0)),
  (some 19, .inl (1, 5, 1, [], 0)),
  (some 20, .inl (0, 40, 1, [], 0)),
  (some 201, .inl (2, 1, 1, [], 0)),
  (some 1048576, .inl (5, 8, 8, [(1, some ((Int.negSucc 0), (Int.negSucc 0))), (2, some ((Int.negSucc 0), (Int.negSucc 0))), (3, some ((Int.ofNat 0), (Int.ofNat 0))), (4, some ((Int.ofNat 1), (Int.ofNat 1))), (5, some ((Int.ofNat 1), (Int.ofNat 1))), (6, some ((Int.ofNat 1), (Int.ofNat 1))), (7, some ((Int.ofNat 0), (Int.ofNat 0))), (8, some ((Int.negSucc 0), (Int.negSucc 0)))], 0)),
  (some 1048577, .inl (5, 8, 8, [(1, some ((Int.ofNat 0), (Int.ofNat 0))), (2, some ((Int.ofNat 1), (Int.ofNat 1))), (3, some ((Int.ofNat 1), (Int.ofNat 1))), (4, some ((Int.ofNat 1), (Int.ofNat 1))), (5, some ((Int.ofNat 0), (Int.ofNat 0))), (6, some ((Int.negSucc 0), (Int.negSucc 0))), (7, some ((Int.negSucc 0), (Int.negSucc 0))), (8, some ((Int.negSucc 0), (Int.negSucc 0)))], 0)),
  (some 1048626, .inl (6, 0, 1, [], 0)),
  (some 1048627, .inl (6, 0, 1, [], 0)),
  (some 1048628, .inl (6, 0, 1, [], 0)),
  (some 1048629, .inl (6, 0, 1, [], 0)),
  (some 1048630, .inl (6, 0, 1, [], 0)),
  (some 1048631, .inl (6, 0, 1, [], 0))]
def xck_6 : List (Option Nat × xt) := [(some 1048632, .inl (6, 0, 1, [], 0)),
  (some 1048586, .inl (7, 8, 8, [(1, some ((Int.ofNat 98), (Int.ofNat 98))), (2, some ((Int.ofNat 108), (Int.ofNat 108))), (3, some ((Int.ofNat 107), (Int.ofNat 107))), (4, some ((Int.ofNat 102), (Int.ofNat 102))), (5, some ((Int.ofNat 114), (Int.ofNat 114))), (6, some ((Int.ofNat 99), (Int.ofNat 99))), (7, some ((Int.ofNat 110), (Int.ofNat 110))), (8, some ((Int.ofNat 112), (Int.ofNat 112)))], 0)),
  (some 1048587, .inl (7, 2, 2, [(1, some ((Int.ofNat 46), (Int.ofNat 46))), (2, some ((Int.ofNat 35), (Int.ofNat 35)))], 0)),
  (some 1048588, .inl (7, 8, 8, [(1, some ((Int.ofNat 98), (Int.ofNat 98))), (2, some ((Int.ofNat 108), (Int.ofNat 108))), (3, some ((Int.ofNat 107), (Int.ofNat 107))), (4, some ((Int.ofNat 102), (Int.ofNat 102))), (5, some ((Int.ofNat 114), (Int.ofNat 114))), (6, some ((Int.ofNat 99), (Int.ofNat 99))), (7, some ((Int.ofNat 110), (Int.ofNat 110))), (8, some ((Int.ofNat 112), (Int.ofNat 112)))], 0)),
  (some 1048589, .inl (7, 3, 3, [(1, some ((Int.ofNat 60), (Int.ofNat 60))), (2, some ((Int.ofNat 62), (Int.ofNat 62))), (3, some ((Int.ofNat 61), (Int.ofNat 61)))], 0)),
  (some 1048590, .inl (7, 2, 2, [(1, some ((Int.ofNat 43), (Int.ofNat 43))), (2, some ((Int.ofNat 45), (Int.ofNat 45)))], 0)),
  (some 1048591, .inl (7, 2, 2, [(1, some ((Int.ofNat 42), (Int.ofNat 42))), (2, some ((Int.ofNat 47), (Int.ofNat 47)))], 0)),
  (some 1048592, .inl (7, 5, 5, [(1, some ((Int.ofNat 110), (Int.ofNat 110))), (2, some ((Int.ofNat 102), (Int.ofNat 102))), (3, some ((Int.ofNat 103), (Int.ofNat 103))), (4, some ((Int.ofNat 98), (Int.ofNat 98))), (5, some ((Int.ofNat 112), (Int.ofNat 112)))], 0)),
  (some 37, .inr (10, [.inl ((Int.negSucc 2147483647), (Int.ofNat 2147483647)), .inl ((Int.negSucc 2147483647), (Int.ofNat 2147483647)), .inl ((Int.negSucc 2147483647), (Int.ofNat 2147483647)), .inr (some 105), .inr (some 106), .inr (some 107), .inr (some 108), .inr (some 109)])),
  (some 38, .inl (0, 8, 1, [], 0)),
  (some 39, .inl (0, 8, 1, [], 0)),
  (some 40, .inl (0, 8, 1, [], 0)),
  (some 41, .inl (0, 8, 1, [], 0)),
  (some 42, .inl (0, 8, 1, [], 0)),
  (none, .inr (10, [.inl ((Int.negSucc 2147483647), (Int.ofNat 2147483647)), .inl ((Int.negSucc 2147483647), (Int.ofNat 2147483647)), .inl ((Int.negSucc 2147483647), (Int.ofNat 2147483647)), .inr (some 111), .inr (some 112), .inr (some 113), .inr (some 114), .inr (some 115)])),
  (none, .inl (0, 8, 1, [], 0))]
def xck_7 : List (Option Nat × xt) := [(none, .inl (0, 8, 1, [], 0)),
  (none, .inl (0, 8, 1, [], 0)),
  (none, .inl (0, 8, 1, [], 0)),
  (none, .inl (0, 8, 1, [], 0)),
  (none, .inr (10, [.inl ((Int.negSucc 2147483647), (Int.ofNat 2147483647)), .inl ((Int.negSucc 2147483647), (Int.ofNat 2147483647)), .inl ((Int.negSucc 2147483647), (Int.ofNat 2147483647)), .inr (some 117), .inr (some 118), .inr (some 119), .inr (some 120), .inr (some 121)])),
  (none, .inl (0, 8, 1, [], 0)),
  (none, .inl (0, 8, 1, [], 0)),
  (none, .inl (0, 8, 1, [], 0)),
  (none, .inl (0, 8, 1, [], 0)),
  (none, .inl (0, 8, 1, [], 0))]
def xckT : List (List (Option Nat × xt)) := [xck_0, xck_1, xck_2, xck_3, xck_4, xck_5, xck_6, xck_7]
noncomputable def xkt (i : Nat) : Option (Option Nat × xt) := match fo_nth xckT (i / 16) with
  | some c => fo_nth c (i % 16)
  | none => none
theorem xnth_fo {α : Type} : ∀ (l : List α) (n : Nat), fo_nth l n = pm_nth l n := by
  intro l
  induction l with
  | nil => intro n; rfl
  | cons a t ih =>
    intro n
    cases n with
    | zero => rfl
    | succ n => exact ih n
theorem xkt_n2 (i : Nat) : xkt i = pm_nth2 xckT i := by
  unfold xkt pm_nth2
  rw [xnth_fo]
  cases pm_nth xckT (i / 16) with
  | none => rfl
  | some c => exact xnth_fo c (i % 16)
def xow_0 : List Nat := [31, 44, 45, 46, 47, 48, 49, 50, 51, 52, 53, 77, 78, 79, 80, 81]
def xow_1 : List Nat := [82, 83, 84, 85, 86, 54, 55, 56, 57, 32, 33, 34, 35, 36, 37, 38]
def xow_2 : List Nat := [39, 40, 41, 42, 43, 104, 105, 106, 107, 108, 109, 58, 59, 110, 111, 112]
def xow_3 : List Nat := [113, 114, 115, 110, 111, 112, 113, 114, 115, 110, 111, 112, 113, 114, 115, 110]
def xow_4 : List Nat := [111, 112, 113, 114, 115, 110, 111, 112, 113, 114, 115, 110, 111, 112, 113, 114]
def xow_5 : List Nat := [115, 110, 111, 112, 113, 114, 115, 110, 111, 112, 113, 114, 115, 110, 111, 112]
def xow_6 : List Nat := [113, 114, 115, 110, 111, 112, 113, 114, 115, 110, 111, 112, 113, 114, 115, 110]
def xow_7 : List Nat := [111, 112, 113, 114, 115, 110, 111, 112, 113, 114, 115, 110, 111, 112, 113, 114]
def xow_8 : List Nat := [115, 110, 111, 112, 113, 114, 115, 60, 116, 117, 118, 119, 120, 121, 116, 117]
def xow_9 : List Nat := [118, 119, 120, 121, 116, 117, 118, 119, 120, 121, 61, 62, 63, 64, 65, 66]
def xow_10 : List Nat := [67, 68, 69, 70, 71, 72, 73, 74, 75, 76, 0, 1, 2, 3, 4, 5]
def xow_11 : List Nat := [6, 7, 8, 9, 10, 11, 12, 13, 14, 15, 16, 17, 18, 19, 20, 21]
def xow_12 : List Nat := [22, 23, 24, 25, 26, 27, 28, 29, 30, 87]
def xowT : List (List Nat) := [xow_0, xow_1, xow_2, xow_3, xow_4, xow_5, xow_6, xow_7, xow_8, xow_9, xow_10, xow_11, xow_12]
def xowR : List (Nat × Nat) := [(0, 88), (1, 89), (10, 97), (11, 98), (12, 99), (13, 100), (14, 101), (15, 102), (16, 103), (50, 90), (51, 91), (52, 92), (53, 93), (54, 94), (55, 95), (56, 96)]
def xown (a : Nat) : Option Nat := bif Nat.blt a 1048576 then pm_nth2 xowT a else pm_lu xowR (a - 1048576)
def xsub (u : Nat) : List Nat := bif Nat.blt u 200 then [u] else [77, 82]
noncomputable def xX : xD := (xown, xkt, xsub)
theorem xkro : ∀ i2 a0 t, xX.2.1 i2 = some (some a0, .inl (6, t)) → ∃ v, pm_ro kK (a0 - 1048576) 0 = some v := by
  intro i2 a0 t h
  have h2 := pm_nth2_mem ((xkt_n2 i2).symm.trans h)
  obtain ⟨c, hc, hm⟩ := h2
  have key : xckT.all (fun c => c.all (fun r => match r with
    | (some a, .inl (6, _)) => (match pm_ro kK (a - 1048576) 0 with
      | some _ => true
      | none => false)
    | _ => true)) = true := by decide +kernel
  have h3 := List.all_eq_true.mp (List.all_eq_true.mp key c hc) _ hm
  simp only at h3
  split at h3
  · next v hv => exact ⟨v, hv⟩
  · cases h3
/-- a rule's code that can be reckoned: so many numbers stand ahead of it -/
def xvc : List Int32 → Nat → Bool
  | [], _ => true
  | c :: r, d => bif zle 3000 c.toInt then bif zle c.toInt 3000 then bif Nat.ble 1 d then xvc r d else false else bif Nat.ble 2 d then xvc r (d - 1) else false else bif zle 2000 c.toInt then bif Nat.ble 2 d then xvc r (d - 1) else false else bif zle 1000 c.toInt then bif zle c.toInt 1007 then bif Nat.blt d 80 then xvc r (d + 1) else false else false else bif Nat.blt d 80 then xvc r (d + 1) else false
def xV (ph : pm_H) : Prop := ∃ (l : List Int32) (n : Nat), pm_at ph 179 = some (.inl (0, .inl l)) ∧ xget ph 170 23 = some (.int (Int32.ofNat n)) ∧ n ≤ 80 ∧ xvc (l.take n) 0 = true
