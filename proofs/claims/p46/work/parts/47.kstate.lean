/-! The state behind the two constructors, printed by wip/pm/gen5.py -/
/-- heaps are the same -/
def kq_v (v w : Value) : Bool := match v, w with
  | .int x, .int y => fo_eq x y
  | .long x, .long y => decide (x = y)
  | .null, .null => true
  | .ref a, .ref b => Nat.beq a b
  | _, _ => false
theorem kq_v_eq (v w : Value) (h : kq_v v w = true) : v = w := by
  unfold kq_v at h
  split at h
  · next x y => rw [fo_eq_eq] at h; rw [of_decide_eq_true h]
  · next x y => rw [of_decide_eq_true h]
  · rfl
  · next a b => rw [Nat.eq_of_beq_eq_true h]
  · cases h
def kq_l {α : Type} (f : α → α → Bool) (s t : List α) : Bool := match s, t with
  | [], [] => true
  | a :: s, b :: t => bif f a b then kq_l f s t else false
  | _, _ => false
theorem kq_l_eq {α : Type} {f : α → α → Bool} (hf : ∀ a b, f a b = true → a = b) : ∀ (s t : List α), kq_l f s t = true → s = t := by
  intro s
  induction s with
  | nil =>
    intro t h
    cases t with
    | nil => rfl
    | cons b t => cases h
  | cons a s ih =>
    intro t h
    cases t with
    | nil => cases h
    | cons b t =>
      have h2 : (bif f a b then kq_l f s t else false) = true := h
      cases hb : f a b with
      | false => rw [hb] at h2; cases h2
      | true =>
        rw [hb] at h2
        rw [hf a b hb, ih t h2]
def kq_o (a b : Option Nat) : Bool := match a, b with
  | some x, some y => Nat.beq x y
  | none, none => true
  | _, _ => false
theorem kq_o_eq (a b : Option Nat) (h : kq_o a b = true) : a = b := by
  unfold kq_o at h
  split at h
  · next x y => rw [Nat.eq_of_beq_eq_true h]
  · rfl
  · cases h
def kq_c (c d : pm_C) : Bool := match c, d with
  | .inl (k, .inl s), .inl (j, .inl t) => bif Nat.beq k j then kq_l fo_eq s t else false
  | .inl (k, .inr (.inl s)), .inl (j, .inr (.inl t)) => bif Nat.beq k j then kq_l (fun x y => decide (x = y)) s t else false
  | .inl (k, .inr (.inr s)), .inl (j, .inr (.inr t)) => bif Nat.beq k j then kq_l kq_o s t else false
  | .inr (k, s), .inr (j, t) => bif Nat.beq k j then kq_l kq_v s t else false
  | _, _ => false
theorem kq_bif {b x : Bool} (h : (bif b then x else false) = true) : b = true ∧ x = true := by
  cases b with
  | false => cases h
  | true => exact ⟨rfl, h⟩
theorem kq_c_eq (c d : pm_C) (h : kq_c c d = true) : c = d := by
  unfold kq_c at h
  split at h
  · next k s j t =>
    obtain ⟨h1, h2⟩ := kq_bif h
    rw [Nat.eq_of_beq_eq_true h1, kq_l_eq (fun a b q => of_decide_eq_true ((fo_eq_eq a b).symm.trans q)) s t h2]
  · next k s j t =>
    obtain ⟨h1, h2⟩ := kq_bif h
    rw [Nat.eq_of_beq_eq_true h1, kq_l_eq (fun a b q => of_decide_eq_true q) s t h2]
  · next k s j t =>
    obtain ⟨h1, h2⟩ := kq_bif h
    rw [Nat.eq_of_beq_eq_true h1, kq_l_eq kq_o_eq s t h2]
  · next k s j t =>
    obtain ⟨h1, h2⟩ := kq_bif h
    rw [Nat.eq_of_beq_eq_true h1, kq_l_eq kq_v_eq s t h2]
  · cases h
def kq_ov (a b : Option Value) : Bool := match a, b with
  | some x, some y => kq_v x y
  | none, none => true
  | _, _ => false
theorem kq_ov_eq (a b : Option Value) (h : kq_ov a b = true) : a = b := by
  unfold kq_ov at h
  split at h
  · next x y => rw [kq_v_eq x y h]
  · rfl
  · cases h
def kq_r (o : Option pm_R) (v : Option Value) (ph : pm_H) (c s : Nat) : Bool := match o with
  | some (w, q, a, b) => bif kq_ov w v then (bif Nat.beq a c then (bif Nat.beq b s then kq_l kq_c q ph else false) else false) else false
  | none => false
theorem kq_r_eq {o : Option pm_R} {v : Option Value} {ph : pm_H} {c s : Nat} (h : kq_r o v ph c s = true) : o = some (v, ph, c, s) := by
  unfold kq_r at h
  split at h
  · next w q a b =>
    obtain ⟨h1, h2⟩ := kq_bif h
    obtain ⟨h3, h4⟩ := kq_bif h2
    obtain ⟨h5, h6⟩ := kq_bif h4
    rw [kq_ov_eq _ _ h1, Nat.eq_of_beq_eq_true h3, Nat.eq_of_beq_eq_true h5, kq_l_eq kq_c_eq _ _ h6]
  · cases h
def kHx : pm_H := [.inr (12, [.ref 1, .ref 3, .ref 5, .ref 10, .ref 25, .ref 31, .ref 37, .ref 43, .ref 154, .ref 157, .ref 160, .ref 164, .ref 167, .long (-1), .int 0]),
  .inr (9, [.ref 2, .int 0]),
  .inl (0, .inl (List.replicate 80 0)),
  .inr (5, [.ref 4, .int 0]),
  .inl (2, .inr (.inl (List.replicate 49 0))),
  .inr (3, [.int 3, .int 3, .int 9, .long 0, .long 0, .ref 6, .ref 7, .ref 8, .ref 9]),
  .inl (0, .inl ([0, 0, 0, 1, 1, 1, 2, 2, 2] ++ List.replicate 40 0)),
  .inl (0, .inl ([0, 1, 2, 0, 1, 2, 0, 1, 2] ++ List.replicate 40 0)),
  .inl (2, .inr (.inl (List.replicate 392 0))),
  .inl (2, .inr (.inl (List.replicate 343 0))),
  .inr (8, [.ref 5, .ref 11, .ref 16, .ref 21, .int 1, .ref 22, .ref 23, .ref 24]),
  .inr (0, [.ref 12, .int 3, .ref 13, .int 0, .ref 14, .int 0, .int 0, .int 1, .ref 15]),
  .inl (0, .inl ([1001, 1000, (-45), 0, 0, 0, 0, 0, 0, 0, 0, 0, 0, 0, 0, 0, 0, 0, 0, 0, 0, 0, 0, 0, 0, 0, 0, 0, 0, 0, 0, 0, 0, 0, 0, 0, 0, 0, 0, 0])),
  .inl (0, .inl ([0, 0, 0, 0, 0, 0, 0, 0, 0, 0, 0, 0, 0, 0, 0, 0, 0, 0, 0, 0, 0, 0, 0, 0, 0, 0, 0, 0, 0, 0, 0, 0, 0, 0, 0, 0, 0, 0, 0, 0])),
  .inl (1, .inl ([0, 0, 0, 0, 0])),
  .inl (0, .inl ([0, 0, 0, 0, 0, 0, 0, 0, 0, 0, 0, 0, 0, 0, 0, 0, 0, 0, 0, 0, 0, 0, 0, 0, 0, 0, 0, 0, 0, 0, 0, 0, 0, 0, 0, 0, 0, 0, 0, 0])),
  .inr (0, [.ref 17, .int 3, .ref 18, .int 0, .ref 19, .int 0, .int 0, .int 1, .ref 20]),
  .inl (0, .inl ([1001, 1000, (-45), 0, 0, 0, 0, 0, 0, 0, 0, 0, 0, 0, 0, 0, 0, 0, 0, 0, 0, 0, 0, 0, 0, 0, 0, 0, 0, 0, 0, 0, 0, 0, 0, 0, 0, 0, 0, 0])),
  .inl (0, .inl ([0, 0, 0, 0, 0, 0, 0, 0, 0, 0, 0, 0, 0, 0, 0, 0, 0, 0, 0, 0, 0, 0, 0, 0, 0, 0, 0, 0, 0, 0, 0, 0, 0, 0, 0, 0, 0, 0, 0, 0])),
  .inl (1, .inl ([0, 0, 0, 0, 0])),
  .inl (0, .inl ([0, 0, 0, 0, 0, 0, 0, 0, 0, 0, 0, 0, 0, 0, 0, 0, 0, 0, 0, 0, 0, 0, 0, 0, 0, 0, 0, 0, 0, 0, 0, 0, 0, 0, 0, 0, 0, 0, 0, 0])),
  .inl (0, .inl ([9, 0, 0, 0, 0, 0, 0, 0, 0, 0, 0, 0, 0, 0, 0, 0, 0, 0, 0, 0])),
  .inl (0, .inl ([0, 0, 0, 0, 0, 0, 0, 0])),
  .inl (2, .inr (.inl ([0, 0, 0, 0, 0, 0, 0, 0]))),
  .inl (0, .inl ([0, 0, 0, 0, 0, 0, 0, 0])),
  .inr (10, [.int 0, .int 0, .int 0, .ref 26, .ref 27, .ref 28, .ref 29, .ref 30]),
  .inl (0, .inl ([0, 0, 0, 0, 0, 0, 0, 0])),
  .inl (0, .inl ([0, 0, 0, 0, 0, 0, 0, 0])),
  .inl (0, .inl ([0, 0, 0, 0, 0, 0, 0, 0])),
  .inl (0, .inl ([0, 0, 0, 0, 0, 0, 0, 0])),
  .inl (0, .inl ([0, 0, 0, 0, 0, 0, 0, 0])),
  .inr (10, [.int 0, .int 0, .int 0, .ref 32, .ref 33, .ref 34, .ref 35, .ref 36]),
  .inl (0, .inl ([0, 0, 0, 0, 0, 0, 0, 0])),
  .inl (0, .inl ([0, 0, 0, 0, 0, 0, 0, 0])),
  .inl (0, .inl ([0, 0, 0, 0, 0, 0, 0, 0])),
  .inl (0, .inl ([0, 0, 0, 0, 0, 0, 0, 0])),
  .inl (0, .inl ([0, 0, 0, 0, 0, 0, 0, 0])),
  .inr (10, [.int 0, .int 0, .int 0, .ref 38, .ref 39, .ref 40, .ref 41, .ref 42]),
  .inl (0, .inl ([0, 0, 0, 0, 0, 0, 0, 0])),
  .inl (0, .inl ([0, 0, 0, 0, 0, 0, 0, 0])),
  .inl (0, .inl ([0, 0, 0, 0, 0, 0, 0, 0])),
  .inl (0, .inl ([0, 0, 0, 0, 0, 0, 0, 0])),
  .inl (0, .inl ([0, 0, 0, 0, 0, 0, 0, 0])),
  .inr (2, [.ref 44, .int 0, .int 0, .ref 135, .int 0]),
  .inl (4, .inr (.inr [some 45, some 51, some 57, some 63, some 69, some 75, some 81, some 87, some 93, some 99, some 105, some 111, some 117, some 123, some 129])),
  .inr (10, [.int 0, .int 0, .int 0, .ref 46, .ref 47, .ref 48, .ref 49, .ref 50]),
  .inl (0, .inl ([0, 0, 0, 0, 0, 0, 0, 0])),
  .inl (0, .inl ([0, 0, 0, 0, 0, 0, 0, 0])),
  .inl (0, .inl ([0, 0, 0, 0, 0, 0, 0, 0])),
  .inl (0, .inl ([0, 0, 0, 0, 0, 0, 0, 0])),
  .inl (0, .inl ([0, 0, 0, 0, 0, 0, 0, 0])),
  .inr (10, [.int 0, .int 0, .int 0, .ref 52, .ref 53, .ref 54, .ref 55, .ref 56]),
  .inl (0, .inl ([0, 0, 0, 0, 0, 0, 0, 0])),
  .inl (0, .inl ([0, 0, 0, 0, 0, 0, 0, 0])),
  .inl (0, .inl ([0, 0, 0, 0, 0, 0, 0, 0])),
  .inl (0, .inl ([0, 0, 0, 0, 0, 0, 0, 0])),
  .inl (0, .inl ([0, 0, 0, 0, 0, 0, 0, 0])),
  .inr (10, [.int 0, .int 0, .int 0, .ref 58, .ref 59, .ref 60, .ref 61, .ref 62]),
  .inl (0, .inl ([0, 0, 0, 0, 0, 0, 0, 0])),
  .inl (0, .inl ([0, 0, 0, 0, 0, 0, 0, 0])),
  .inl (0, .inl ([0, 0, 0, 0, 0, 0, 0, 0])),
  .inl (0, .inl ([0, 0, 0, 0, 0, 0, 0, 0])),
  .inl (0, .inl ([0, 0, 0, 0, 0, 0, 0, 0])),
  .inr (10, [.int 0, .int 0, .int 0, .ref 64, .ref 65, .ref 66, .ref 67, .ref 68]),
  .inl (0, .inl ([0, 0, 0, 0, 0, 0, 0, 0])),
  .inl (0, .inl ([0, 0, 0, 0, 0, 0, 0, 0])),
  .inl (0, .inl ([0, 0, 0, 0, 0, 0, 0, 0])),
  .inl (0, .inl ([0, 0, 0, 0, 0, 0, 0, 0])),
  .inl (0, .inl ([0, 0, 0, 0, 0, 0, 0, 0])),
  .inr (10, [.int 0, .int 0, .int 0, .ref 70, .ref 71, .ref 72, .ref 73, .ref 74]),
  .inl (0, .inl ([0, 0, 0, 0, 0, 0, 0, 0])),
  .inl (0, .inl ([0, 0, 0, 0, 0, 0, 0, 0])),
  .inl (0, .inl ([0, 0, 0, 0, 0, 0, 0, 0])),
  .inl (0, .inl ([0, 0, 0, 0, 0, 0, 0, 0])),
  .inl (0, .inl ([0, 0, 0, 0, 0, 0, 0, 0])),
  .inr (10, [.int 0, .int 0, .int 0, .ref 76, .ref 77, .ref 78, .ref 79, .ref 80]),
  .inl (0, .inl ([0, 0, 0, 0, 0, 0, 0, 0])),
  .inl (0, .inl ([0, 0, 0, 0, 0, 0, 0, 0])),
  .inl (0, .inl ([0, 0, 0, 0, 0, 0, 0, 0])),
  .inl (0, .inl ([0, 0, 0, 0, 0, 0, 0, 0])),
  .inl (0, .inl ([0, 0, 0, 0, 0, 0, 0, 0])),
  .inr (10, [.int 0, .int 0, .int 0, .ref 82, .ref 83, .ref 84, .ref 85, .ref 86]),
  .inl (0, .inl ([0, 0, 0, 0, 0, 0, 0, 0])),
  .inl (0, .inl ([0, 0, 0, 0, 0, 0, 0, 0])),
  .inl (0, .inl ([0, 0, 0, 0, 0, 0, 0, 0])),
  .inl (0, .inl ([0, 0, 0, 0, 0, 0, 0, 0])),
  .inl (0, .inl ([0, 0, 0, 0, 0, 0, 0, 0])),
  .inr (10, [.int 0, .int 0, .int 0, .ref 88, .ref 89, .ref 90, .ref 91, .ref 92]),
  .inl (0, .inl ([0, 0, 0, 0, 0, 0, 0, 0])),
  .inl (0, .inl ([0, 0, 0, 0, 0, 0, 0, 0])),
  .inl (0, .inl ([0, 0, 0, 0, 0, 0, 0, 0])),
  .inl (0, .inl ([0, 0, 0, 0, 0, 0, 0, 0])),
  .inl (0, .inl ([0, 0, 0, 0, 0, 0, 0, 0])),
  .inr (10, [.int 0, .int 0, .int 0, .ref 94, .ref 95, .ref 96, .ref 97, .ref 98]),
  .inl (0, .inl ([0, 0, 0, 0, 0, 0, 0, 0])),
  .inl (0, .inl ([0, 0, 0, 0, 0, 0, 0, 0])),
  .inl (0, .inl ([0, 0, 0, 0, 0, 0, 0, 0])),
  .inl (0, .inl ([0, 0, 0, 0, 0, 0, 0, 0])),
  .inl (0, .inl ([0, 0, 0, 0, 0, 0, 0, 0])),
  .inr (10, [.int 0, .int 0, .int 0, .ref 100, .ref 101, .ref 102, .ref 103, .ref 104]),
  .inl (0, .inl ([0, 0, 0, 0, 0, 0, 0, 0])),
  .inl (0, .inl ([0, 0, 0, 0, 0, 0, 0, 0])),
  .inl (0, .inl ([0, 0, 0, 0, 0, 0, 0, 0])),
  .inl (0, .inl ([0, 0, 0, 0, 0, 0, 0, 0])),
  .inl (0, .inl ([0, 0, 0, 0, 0, 0, 0, 0])),
  .inr (10, [.int 0, .int 0, .int 0, .ref 106, .ref 107, .ref 108, .ref 109, .ref 110]),
  .inl (0, .inl ([0, 0, 0, 0, 0, 0, 0, 0])),
  .inl (0, .inl ([0, 0, 0, 0, 0, 0, 0, 0])),
  .inl (0, .inl ([0, 0, 0, 0, 0, 0, 0, 0])),
  .inl (0, .inl ([0, 0, 0, 0, 0, 0, 0, 0])),
  .inl (0, .inl ([0, 0, 0, 0, 0, 0, 0, 0])),
  .inr (10, [.int 0, .int 0, .int 0, .ref 112, .ref 113, .ref 114, .ref 115, .ref 116]),
  .inl (0, .inl ([0, 0, 0, 0, 0, 0, 0, 0])),
  .inl (0, .inl ([0, 0, 0, 0, 0, 0, 0, 0])),
  .inl (0, .inl ([0, 0, 0, 0, 0, 0, 0, 0])),
  .inl (0, .inl ([0, 0, 0, 0, 0, 0, 0, 0])),
  .inl (0, .inl ([0, 0, 0, 0, 0, 0, 0, 0])),
  .inr (10, [.int 0, .int 0, .int 0, .ref 118, .ref 119, .ref 120, .ref 121, .ref 122]),
  .inl (0, .inl ([0, 0, 0, 0, 0, 0, 0, 0])),
  .inl (0, .inl ([0, 0, 0, 0, 0, 0, 0, 0])),
  .inl (0, .inl ([0, 0, 0, 0, 0, 0, 0, 0])),
  .inl (0, .inl ([0, 0, 0, 0, 0, 0, 0, 0])),
  .inl (0, .inl ([0, 0, 0, 0, 0, 0, 0, 0])),
  .inr (10, [.int 0, .int 0, .int 0, .ref 124, .ref 125, .ref 126, .ref 127, .ref 128]),
  .inl (0, .inl ([0, 0, 0, 0, 0, 0, 0, 0])),
  .inl (0, .inl ([0, 0, 0, 0, 0, 0, 0, 0])),
  .inl (0, .inl ([0, 0, 0, 0, 0, 0, 0, 0])),
  .inl (0, .inl ([0, 0, 0, 0, 0, 0, 0, 0])),
  .inl (0, .inl ([0, 0, 0, 0, 0, 0, 0, 0])),
  .inr (10, [.int 0, .int 0, .int 0, .ref 130, .ref 131, .ref 132, .ref 133, .ref 134]),
  .inl (0, .inl ([0, 0, 0, 0, 0, 0, 0, 0])),
  .inl (0, .inl ([0, 0, 0, 0, 0, 0, 0, 0])),
  .inl (0, .inl ([0, 0, 0, 0, 0, 0, 0, 0])),
  .inl (0, .inl ([0, 0, 0, 0, 0, 0, 0, 0])),
  .inl (0, .inl ([0, 0, 0, 0, 0, 0, 0, 0])),
  .inl (4, .inr (.inr [some 136, some 142, some 148])),
  .inr (10, [.int 0, .int 0, .int 0, .ref 137, .ref 138, .ref 139, .ref 140, .ref 141]),
  .inl (0, .inl ([0, 0, 0, 0, 0, 0, 0, 0])),
  .inl (0, .inl ([0, 0, 0, 0, 0, 0, 0, 0])),
  .inl (0, .inl ([0, 0, 0, 0, 0, 0, 0, 0])),
  .inl (0, .inl ([0, 0, 0, 0, 0, 0, 0, 0])),
  .inl (0, .inl ([0, 0, 0, 0, 0, 0, 0, 0])),
  .inr (10, [.int 0, .int 0, .int 0, .ref 143, .ref 144, .ref 145, .ref 146, .ref 147]),
  .inl (0, .inl ([0, 0, 0, 0, 0, 0, 0, 0])),
  .inl (0, .inl ([0, 0, 0, 0, 0, 0, 0, 0])),
  .inl (0, .inl ([0, 0, 0, 0, 0, 0, 0, 0])),
  .inl (0, .inl ([0, 0, 0, 0, 0, 0, 0, 0])),
  .inl (0, .inl ([0, 0, 0, 0, 0, 0, 0, 0])),
  .inr (10, [.int 0, .int 0, .int 0, .ref 149, .ref 150, .ref 151, .ref 152, .ref 153]),
  .inl (0, .inl ([0, 0, 0, 0, 0, 0, 0, 0])),
  .inl (0, .inl ([0, 0, 0, 0, 0, 0, 0, 0])),
  .inl (0, .inl ([0, 0, 0, 0, 0, 0, 0, 0])),
  .inl (0, .inl ([0, 0, 0, 0, 0, 0, 0, 0])),
  .inl (0, .inl ([0, 0, 0, 0, 0, 0, 0, 0])),
  .inr (4, [.ref 155, .ref 156, .int 4]),
  .inl (0, .inl ([0, 0, 0, 0, 0, 0, 0, 0, 0, 0, 0, 0, 0, 0, 0, 0, 0, 0, 0, 0, 0, 0, 0, 0, 0, 0, 0, 0, 0, 0, 0, 0])),
  .inl (0, .inl ([0, 0, 8, 5])),
  .inr (6, [.ref 158, .ref 159, .int 0]),
  .inl (0, .inl ([0, 0, 0, 0, 0, 0, 0, 0, 0, 0, 0, 0, 0, 0, 0, 0, 0, 0, 0, 0, 0, 0, 0, 0, 0, 0, 0, 0, 0, 0])),
  .inl (0, .inl (List.replicate 90 0)),
  .inr (7, [.ref 161, .ref 162, .ref 163]),
  .inl (0, .inl (List.replicate 49 0)),
  .inl (0, .inl (List.replicate 49 0)),
  .inl (0, .inl (List.replicate 49 0)),
  .inr (11, [.ref 165, .ref 166]),
  .inl (0, .inl (List.replicate 64 0)),
  .inl (0, .inl (List.replicate 2304 0)),
  .inr (1, [.ref 168, .long 1, .ref 169, .int 0]),
  .inl (2, .inr (.inl ([0, 0, 0, 0, 0, 0, 0, 0, 0]))),
  .inl (0, .inl (List.replicate 61 0))]
def kHm : pm_H := [.inr (13, [.int 0, .int 0, .ref 171, .int 3, .int 3, .int 0, .int 0, .int 0, .int 1, .ref 172, .ref 173, .ref 174, .ref 175, .ref 176, .int 0, .int 0, .int 0, .int 0, .ref 177, .ref 178, .int 0, .ref 179, .ref 180, .int 0, .int 0, .ref 181, .ref 182, .int 0, .ref 183, .ref 184, .ref 185, .ref 186, .ref 187, .ref 188, .int 0, .ref 189, .ref 190, .ref 191, .ref 192, .int 0, .ref 193, .ref 194, .ref 195, .ref 196, .ref 197, .int 0, .ref 198, .ref 199, .ref 200]),
  .inl (2, .inr (.inl (List.replicate 53 0))),
  .inl (1, .inl (List.replicate 49 0)),
  .inl (0, .inl ([9, 0, 0, 0, 0, 0, 0, 0, 0, 0, 0, 0, 0, 0, 0, 0, 0, 0, 0, 0])),
  .inl (0, .inl (List.replicate 41 0)),
  .inl (0, .inl (List.replicate 41 0)),
  .inl (0, .inl (List.replicate 80 0)),
  .inl (1, .inl (List.replicate 49 0)),
  .inl (0, .inl ([0, 0, 0, 0, 0, 0, 0, 0, 0, 0, 0, 0, 0, 0, 0, 0, 0, 0, 0, 0, 0, 0, 0, 0])),
  .inl (0, .inl (List.replicate 80 0)),
  .inl (0, .inl (List.replicate 80 0)),
  .inl (0, .inl (List.replicate 80 0)),
  .inl (0, .inl ([0, 0, 0, 0, 0, 0, 0, 0])),
  .inl (0, .inl (List.replicate 656 0)),
  .inl (0, .inl ([0, 0, 0, 0, 0, 0, 0, 0])),
  .inl (0, .inl (List.replicate 60 0)),
  .inl (0, .inl (List.replicate 60 0)),
  .inl (0, .inl (List.replicate 60 0)),
  .inl (0, .inl (List.replicate 60 0)),
  .inl (2, .inr (.inl ([0, 0, 0, 0, 0, 0, 0, 0]))),
  .inl (0, .inl (List.replicate 64 0)),
  .inl (0, .inl (List.replicate 2304 0)),
  .inl (0, .inl (List.replicate 49 0)),
  .inl (0, .inl ([0, 0, 0, 0, 0, 0, 0, 0, 0, 0])),
  .inl (0, .inl ([0, 0, 0, 0, 0, 0, 0, 0, 0, 0])),
  .inl (2, .inr (.inl ([0, 0, 0, 0, 0, 0, 0, 0, 0, 0]))),
  .inl (0, .inl (List.replicate 610 0)),
  .inl (0, .inl (List.replicate 80 0)),
  .inl (1, .inl ([0, 0, 0])),
  .inl (0, .inl ([0, 0, 0])),
  .inl (0, .inl (List.replicate 123 0))]
theorem kctor_x : pm_ev kK true 2134 12 121 [.ref 0] [.inr (12, knw 12)] = some (none, kHx, 169, 5082) := kq_r_eq (by decide +kernel)
theorem kctor_m : pm_ev kK true 147 12 187 [.ref 170] (kHx ++ [.inr (13, knw 13)]) = some (none, kHx ++ kHm, 30, 4783) := kq_r_eq (by decide +kernel)
def kH0 : pm_H := (kHx ++ kHm) ++ [.inl (2, .inr (.inl [0]))]
