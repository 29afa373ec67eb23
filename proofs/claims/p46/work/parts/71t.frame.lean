/-! what ties class and reference: frames; printed by wip/rel/r1.py -/
theorem zc_xget {ph : pm_H} {a i : Nat} {v : Value} (h : xget ph a i = some v) : zc ph a i = some v := by
  unfold xget at h
  unfold zc
  split at h
  · next q fl e => rw [e]; exact h
  · next l e => rw [e]; exact h
  · cases h
theorem zxO_at {m : Int} {w A i ci : Nat} {fts : List ((Int × Int) ⊕ Option Nat)} {ph : pm_H} (hP : xH xX kK m w ph) (ho : xown A = some i) (ht : xkt i = some (some A, .inr (ci, fts))) : ∃ fl, pm_at ph A = some (.inr (ci, fl)) ∧ ∀ (k : Nat) (ft : (Int × Int) ⊕ Option Nat), fts[k]? = some ft → ∃ v, fl[k]? = some v ∧ xftG xX v ft := by
  obtain ⟨s, t, h1, -, h3⟩ := hP A i ho
  rw [show xX.2.1 i = xkt i from rfl, ht] at h1
  cases h1
  exact h3
theorem zxL_at {m : Int} {w A i : Nat} {q : Nat × Nat × Nat × List (Nat × xe) × Nat} {ph : pm_H} (hP : xH xX kK m w ph) (ho : xown A = some i) (ht : xkt i = some (some A, .inl q)) : xcG xX kK m w ph A (.inl q) := by
  obtain ⟨s, t, h1, -, h3⟩ := hP A i ho
  rw [show xX.2.1 i = xkt i from rfl, ht] at h1
  cases h1
  exact h3
theorem zxL_a2 {m : Int} {w A i : Nat} {s : Option Nat} {q : Nat × Nat × Nat × List (Nat × xe) × Nat} {ph : pm_H} (hP : xH xX kK m w ph) (ho : xown A = some i) (ht : xkt i = some (s, .inl q)) : xcG xX kK m w ph A (.inl q) := by
  obtain ⟨s2, t, h1, -, h3⟩ := hP A i ho
  rw [show xX.2.1 i = xkt i from rfl, ht] at h1
  cases h1
  exact h3

theorem zxone_a {m : Int} {w u A a i : Nat} {ph : pm_H} (hP : xH xX kK m w ph) (hu : xone u = some A) (ho : xown a = some i) (hi : i ∈ xsub u) : a = A := by
  unfold xone at hu
  split at hu
  · next i0 hs =>
    rw [hs] at hi
    have ei : i = i0 := by
      rcases List.mem_cons.mp hi with e | e
      · exact e
      · cases e
    subst ei
    split at hu
    · next a0 t0 hk =>
      cases hu
      obtain ⟨s, t, h1, h2, -⟩ := hP a i ho
      rw [show xX.2.1 i = xkt i from rfl, hk] at h1
      cases h1
      exact h2 A rfl
    · cases hu
  · cases hu
/-- the references to the rows of undo and keep -/
def zs44 (ph : pm_H) : Prop := ∀ a k b, 44 ≤ a ∧ a < 154 → zlk zstatL a k = some b → zc ph a k = some (.ref b)
noncomputable def zScR : Bool := (zstatL.filter (fun e => !(Nat.ble 44 e.1 && Nat.blt e.1 154))).all (fun e => match xown e.1 with
  | some i => (match xkt i with
    | some (some a, .inr (_, fts)) => Nat.beq a e.1 && (match fts[e.2.1]? with
      | some (.inr (some u)) => (match xone u with
        | some b => Nat.beq b e.2.2
        | none => false)
      | _ => false)
    | _ => false)
  | none => false)
noncomputable def zScL : Bool := zlenL.all (fun e => match xown e.1 with
  | some i => (match xkt i with
    | some (_, .inl (g, n, _)) => Nat.beq n e.2 && (Nat.beq g 0 || (Nat.beq g 1 || (Nat.beq g 2 || Nat.beq g 4)))
    | _ => false)
  | none => false)
theorem zScR_t : zScR = true := by decide +kernel
theorem zScL_t : zScL = true := by decide +kernel
theorem zll_mem : ∀ {l : List (Nat × Nat)} {a n : Nat}, zll l a = some n → (a, n) ∈ l := by
  intro l
  induction l with
  | nil => intro a n h; cases h
  | cons e r ih =>
    intro a n h
    unfold zll at h
    cases hb : Nat.beq e.1 a with
    | true =>
      rw [hb] at h
      have e1 := Nat.eq_of_beq_eq_true hb
      have e2 : e.2 = n := Option.some.inj h
      subst e1 e2
      exact List.mem_cons_self
    | false =>
      rw [hb] at h
      exact List.mem_cons_of_mem _ (ih h)
theorem zSh_of {m : Int} {w : Nat} {ph : pm_H} (hP : xH xX kK m w ph) (h4 : zs44 ph) : zSh ph := by
  refine ⟨fun a k b h => ?_, fun a n h => ?_⟩
  · by_cases e4 : 44 ≤ a ∧ a < 154
    · exact h4 a k b e4 h
    have e5 : (Nat.ble 44 a && Nat.blt a 154) = false := by
      cases hb : (Nat.ble 44 a && Nat.blt a 154) with
      | true =>
        obtain ⟨q1, q2⟩ := (Bool.and_eq_true _ _).mp hb
        exact absurd ⟨Nat.le_of_ble_eq_true q1, Nat.le_of_ble_eq_true q2⟩ e4
      | false => rfl
    have hm4 : (a, k, b) ∈ zstatL.filter (fun e => !(Nat.ble 44 e.1 && Nat.blt e.1 154)) := List.mem_filter.mpr ⟨zlk_mem h, by
      show (!(Nat.ble 44 a && Nat.blt a 154)) = true
      rw [e5]
      rfl⟩
    have c := List.all_eq_true.mp zScR_t _ hm4
    replace c : (match xown a with
      | some i => (match xkt i with
        | some (some a2, .inr (_, fts)) => Nat.beq a2 a && (match fts[k]? with
          | some (.inr (some u)) => (match xone u with
            | some b2 => Nat.beq b2 b
            | none => false)
          | _ => false)
        | _ => false)
      | none => false) = true := c
    split at c
    · next i ho =>
      split at c
      · next a2 ci fts ht =>
        obtain ⟨c1, c2⟩ := (Bool.and_eq_true _ _).mp c
        have ea := Nat.eq_of_beq_eq_true c1
        subst ea
        split at c2
        · next u hf =>
          split at c2
          · next b2 hu =>
            have eb := Nat.eq_of_beq_eq_true c2
            subst eb
            obtain ⟨fl, hat, hfl⟩ := zxO_at hP ho ht
            obtain ⟨v, hv, a3, i3, e3, ho3, hi3⟩ := hfl k _ hf
            have e4 := zxone_a hP hu ho3 hi3
            subst e3 e4
            unfold zc
            rw [hat]
            exact hv
          · cases c2
        · cases c2
      · cases c
    · cases c
  · have c := List.all_eq_true.mp zScL_t _ (zll_mem h)
    replace c : (match xown a with
      | some i => (match xkt i with
        | some (_, .inl (g, n2, _)) => Nat.beq n2 n && (Nat.beq g 0 || (Nat.beq g 1 || (Nat.beq g 2 || Nat.beq g 4)))
        | _ => false)
      | none => false) = true := c
    split at c
    · next i ho =>
      split at c
      · next s2 g n2 q ht =>
        obtain ⟨c2, c3⟩ := (Bool.and_eq_true _ _).mp c
        have en := Nat.eq_of_beq_eq_true c2
        subst en
        have hl := zxL_a2 hP ho ht
        obtain ⟨p, sg, u⟩ := q
        match g, c3, hl with
        | 0, _, hl =>
          obtain ⟨l, h1, h2, -⟩ := hl
          unfold zln
          rw [h1]
          exact congrArg some h2
        | 1, _, hl =>
          obtain ⟨l, h1, h2, -⟩ := hl
          unfold zln
          rw [h1]
          exact congrArg some h2
        | 2, _, hl =>
          obtain ⟨l, h1, h2⟩ := hl
          unfold zln
          rw [h1]
          exact congrArg some h2
        | 4, _, hl =>
          obtain ⟨l, h1, h2, -⟩ := hl
          unfold zln
          rw [h1]
          exact congrArg some h2
        | 3, c3, _ => cases c3
        | _ + 5, c3, _ => cases c3
      · cases c
    · cases c
/-- the two texts, by signs -/
theorem zTX_of {m : Int} {w : Nat} {ph : pm_H} (hP : xH xX kK m w ph) (h : xtie ph) : ∃ (ln : Nat) (t : Nat → Nat), zTc ph ln t ∧ zc ph 170 14 = some (.int (zn ln)) ∧ ln ≤ 80 ∧ ∀ i, i < ln → zc ph 176 i = some (.int (zn (t i))) ∧ t i < 256 := by
  obtain ⟨T, h1, h2, h3⟩ := h
  obtain ⟨x, g1, g2, g3⟩ := xM_fi (k := 14) hP rfl
  have e := xget_int h2 g1
  subst e
  have g2 : (0 : Int) ≤ T.toInt := g2
  have g3 : T.toInt ≤ 80 := g3
  have eT : T = zn T.toInt.toNat := zn_of (by omega)
  obtain ⟨t, ht⟩ : ∃ t : Nat → Nat, ∀ i, i < T.toInt.toNat → xget ph 176 i = some (.int (zn (t i))) ∧ t i < 256 := ⟨fun i => match xget ph 176 i with
    | some (.int x) => x.toInt.toNat
    | _ => 0, fun i hi => by
    obtain ⟨x, hx, hb⟩ := xA_el (A := 176) (k := i) hP rfl rfl (by omega)
    rw [Nat.mod_one] at hb
    have hb : (0 : Int) ≤ x.toInt ∧ x.toInt ≤ 255 := hb
    show xget ph 176 i = some (.int (zn (match xget ph 176 i with
      | some (.int x) => x.toInt.toNat
      | _ => 0))) ∧ (match xget ph 176 i with
      | some (.int x) => x.toInt.toNat
      | _ => 0) < 256
    rw [hx]
    have ex : x = zn x.toInt.toNat := zn_of (by omega)
    exact ⟨congrArg (fun y => some (Value.int y)) ex, by show x.toInt.toNat < 256; omega⟩⟩
  refine ⟨T.toInt.toNat, t, ⟨zc_xget ?_, by omega, fun i hi => ⟨zc_xget ((h3 i (by omega)).trans (ht i hi).1), (ht i hi).2⟩⟩, zc_xget ?_, by omega, fun i hi => ⟨zc_xget (ht i hi).1, (ht i hi).2⟩⟩
  · rw [← eT]; exact h1
  · rw [← eT]; exact h2
theorem zI_of {x : Int32} (h : 0 ≤ x.toInt ∧ x.toInt ≤ 1) : x = zI (decide (x.toInt = 1)) := by
  refine Int32.toInt_inj.mp ?_
  by_cases e : x.toInt = 1
  · rw [decide_eq_true e, e]; rfl
  · rw [decide_eq_false e, show x.toInt = 0 by omega]; rfl
theorem zFb_of {m : Int} {w A i n p u : Nat} {sg : List (Nat × xe)} {ph : pm_H} (hP : xH xX kK m w ph) (ho : xown A = some i) (ht : xkt i = some (some A, .inl (1, n, p, sg, u))) : ∃ cm : Nat → Bool, ∀ k, k < n → zc ph A k = some (.int (zI (cm k))) := by
  obtain ⟨l, hat, hn, hl⟩ := zxL_at hP ho ht
  refine ⟨fun k => match zc ph A k with
    | some (.int x) => decide (x.toInt = 1)
    | _ => false, fun k hk => ?_⟩
  have hx := List.getElem?_eq_getElem (l := l) (i := k) (by omega)
  have hz : zc ph A k = some (.int (l[k]'(by omega))) := by
    unfold zc
    rw [hat]
    show (l[k]?).map Value.int = _
    rw [hx]
    rfl
  show zc ph A k = some (.int (zI (match zc ph A k with
    | some (.int x) => decide (x.toInt = 1)
    | _ => false)))
  rw [hz]
  exact congrArg (fun y => some (Value.int y)) (zI_of (hl k _ hx))
theorem zFx_of {m : Int} {w F : Nat} {ph : pm_H} (hP : xH xX kK m w ph) (hS : zSh ph) (hF : F = 11 ∨ F = 16) : zFp ph F ∧ ∃ cm, zFb ph F cm := by
  rcases hF with e | e
  · subst e
    obtain ⟨cm, h⟩ := zFb_of (A := 14) hP rfl rfl
    exact ⟨⟨zsg hS zs_11_0, zsg hS zs_11_2, zsg hS zs_11_4⟩, cm, h⟩
  · subst e
    obtain ⟨cm, h⟩ := zFb_of (A := 19) hP rfl rfl
    exact ⟨⟨zsg hS zs_16_0, zsg hS zs_16_2, zsg hS zs_16_4⟩, cm, h⟩
/-! frames -/
/-- the cells of T are as before -/
def zEQ (T : Nat → Nat → Prop) (p q : pm_H) : Prop := ∀ a k, T a k → zc q a k = zc p a k
theorem zEQ_m {T T' : Nat → Nat → Prop} {p q : pm_H} (h : ∀ a k, T' a k → T a k) (e : zEQ T p q) : zEQ T' p q := fun a k ht => e a k (h a k ht)
theorem zEQ_t {T : Nat → Nat → Prop} {p q r : pm_H} (e : zEQ T p q) (f : zEQ T q r) : zEQ T p r := fun a k ht => (f a k ht).trans (e a k ht)
noncomputable def xshp (i : Nat) : Bool := match xkt i with
  | some (_, .inl (0, _)) => true
  | some (_, .inr _) => true
  | _ => false
theorem xget_zc {m : Int} {w a i k : Nat} {ph : pm_H} (hP : xH xX kK m w ph) (ho : xown a = some i) (hs : xshp i = true) : xget ph a k = zc ph a k := by
  obtain ⟨s, t, h1, -, h3⟩ := hP a i ho
  replace h1 : xkt i = some (s, t) := h1
  unfold xshp at hs
  rw [h1] at hs
  match t, hs, h3 with
  | .inl (0, n, p, sg, u), _, ⟨l, h4, _⟩ => unfold xget zc; simp only [h4]
  | .inr (ci, fts), _, ⟨fl, h4, _⟩ => unfold xget zc; simp only [h4]
noncomputable def zgchk (bT : Nat → Nat → Bool) (gA : List Nat) (gF : List (Nat × Nat)) (a : Nat) : Bool := match xown a with
  | none => (List.range 51).all (fun k => !bT a k)
  | some i => xmemN gA i || ((List.range 50).all (fun k => !bT a k || (xshp i && xmemP gF i k)) && !bT a 50)
theorem zEQ_of {T : Nat → Nat → Prop} {bT : Nat → Nat → Bool} {gA : List Nat} {gF : List (Nat × Nat)} (hb : ∀ a k, T a k → a < 201 ∧ bT a (min k 50) = true) (c : (List.range 201).all (zgchk bT gA gF) = true) {m m' : Int} {w w' : Nat} {p q : pm_H} (hp : xH xX kK m w p) (hq : xH xX kK m' w' q) (hs : xSame xX gA gF p q) : zEQ T p q := fun a k ht => by
  obtain ⟨ha, hbk⟩ := hb a k ht
  have c1 := List.all_eq_true.mp c a (List.mem_range.mpr ha)
  unfold zgchk at c1
  split at c1
  · have c2 := List.all_eq_true.mp c1 (min k 50) (List.mem_range.mpr (by omega))
    rw [hbk] at c2
    cases c2
  · next i ho =>
    rcases Bool.or_eq_true_iff.mp c1 with c2 | c2
    · have e := hs.1 a i ho (xmemN_in c2)
      unfold zc
      rw [e]
    · obtain ⟨c3, c4⟩ := Bool.and_eq_true_iff.mp c2
      by_cases hk : k < 50
      · have e := List.all_eq_true.mp c3 k (List.mem_range.mpr hk)
        rw [show min k 50 = k by omega] at hbk
        replace e : (!bT a k || (xshp i && xmemP gF i k)) = true := e
        rw [hbk] at e
        replace e : (xshp i && xmemP gF i k) = true := e
        obtain ⟨e1, e2⟩ := Bool.and_eq_true_iff.mp e
        rw [← xget_zc hp ho e1, ← xget_zc hq ho e1]
        exact (hs.2 a i k ho (xmemP_in e2)).symm
      · rw [show min k 50 = 50 by omega] at hbk
        rw [hbk] at c4
        cases c4
theorem xSame_rf {gA : List Nat} {gF : List (Nat × Nat)} {p : pm_H} : xSame xX gA gF p p := ⟨fun _ _ _ _ => rfl, fun _ _ _ _ _ => rfl⟩
theorem xHE_slf {gA : List Nat} {gF : List (Nat × Nat)} {ph : pm_H} : xHE xX gA gF (fun p => xSame xX gA gF ph p) := fun p p' hs hp => ⟨fun a i ha hi => (hp.1 a i ha hi).trans (hs.1 a i ha hi), fun a i k ha hi => (hp.2 a i k ha hi).trans (hs.2 a i k ha hi)⟩
abbrev tL (a k : Nat) : Prop := (a = 5 ∧ k < 4) ∨ a = 6 ∨ a = 7
def bc_L (a k : Nat) : Bool := (Nat.ble 5 a && Nat.ble a 7) && decide (tL a k)
theorem bc_L_t {a k : Nat} (h : tL a k) : bc_L a k = true := by
  have h2 : (a = 5 ∧ k < 4) ∨ a = 6 ∨ a = 7 := h
  have h3 : (5 ≤ a ∧ a ≤ 7) := by omega
  exact Bool.and_eq_true_iff.mpr ⟨Bool.and_eq_true_iff.mpr ⟨Nat.ble_eq_true_of_le h3.1, Nat.ble_eq_true_of_le h3.2⟩, decide_eq_true h⟩
theorem zbc_L {a k : Nat} (h : tL a k) : a < 201 ∧ tL a (min k 50) := by
  rcases h with h | h | h
  · exact ⟨by omega, (Or.inl ⟨h.1, by have h9 := h.2; omega⟩)⟩
  · exact ⟨by omega, (Or.inr (Or.inl h))⟩
  · exact ⟨by omega, (Or.inr (Or.inr h))⟩
abbrev tN (a k : Nat) : Prop := (a = 25 ∧ k < 3) ∨ (26 ≤ a ∧ a ≤ 30)
def bc_N (a k : Nat) : Bool := (Nat.ble 25 a && Nat.ble a 30) && decide (tN a k)
theorem bc_N_t {a k : Nat} (h : tN a k) : bc_N a k = true := by
  have h2 : (a = 25 ∧ k < 3) ∨ (26 ≤ a ∧ a ≤ 30) := h
  have h3 : (25 ≤ a ∧ a ≤ 30) := by omega
  exact Bool.and_eq_true_iff.mpr ⟨Bool.and_eq_true_iff.mpr ⟨Nat.ble_eq_true_of_le h3.1, Nat.ble_eq_true_of_le h3.2⟩, decide_eq_true h⟩
theorem zbc_N {a k : Nat} (h : tN a k) : a < 201 ∧ tN a (min k 50) := by
  rcases h with h | h
  · exact ⟨by omega, (Or.inl ⟨h.1, by have h9 := h.2; omega⟩)⟩
  · exact ⟨by omega, (Or.inr ⟨h.1, h.2⟩)⟩
abbrev tH (a k : Nat) : Prop := (a = 43 ∧ (k = 1 ∨ k = 2 ∨ k = 4)) ∨ (a = 0 ∧ k = 14) ∨ (45 ≤ a ∧ a < 135 ∧ ((a - 45) % 6 ≠ 0 ∨ k < 3)) ∨ (136 ≤ a ∧ a < 154 ∧ ((a - 136) % 6 ≠ 0 ∨ k < 3))
def bc_H (a k : Nat) : Bool := ((Nat.ble 0 a && Nat.ble a 0) || (Nat.ble 43 a && Nat.ble a 153)) && decide (tH a k)
theorem bc_H_t {a k : Nat} (h : tH a k) : bc_H a k = true := by
  have h2 : (a = 43 ∧ (k = 1 ∨ k = 2 ∨ k = 4)) ∨ (a = 0 ∧ k = 14) ∨ (45 ≤ a ∧ a < 135 ∧ ((a - 45) % 6 ≠ 0 ∨ k < 3)) ∨ (136 ≤ a ∧ a < 154 ∧ ((a - 136) % 6 ≠ 0 ∨ k < 3)) := h
  have h3 : (0 ≤ a ∧ a ≤ 0) ∨ (43 ≤ a ∧ a ≤ 153) := by omega
  refine Bool.and_eq_true_iff.mpr ⟨?_, decide_eq_true h⟩
  rcases h3 with h3 | h3
  · exact Bool.or_eq_true_iff.mpr (Or.inl (Bool.and_eq_true_iff.mpr ⟨Nat.ble_eq_true_of_le h3.1, Nat.ble_eq_true_of_le h3.2⟩))
  · exact Bool.or_eq_true_iff.mpr (Or.inr (Bool.and_eq_true_iff.mpr ⟨Nat.ble_eq_true_of_le h3.1, Nat.ble_eq_true_of_le h3.2⟩))
theorem zbc_H {a k : Nat} (h : tH a k) : a < 201 ∧ tH a (min k 50) := by
  rcases h with h | h | h | h
  · exact ⟨by omega, (Or.inl ⟨h.1, by have h9 := h.2; omega⟩)⟩
  · exact ⟨by omega, (Or.inr (Or.inl ⟨h.1, by have h9 := h.2; omega⟩))⟩
  · exact ⟨by omega, (Or.inr (Or.inr (Or.inl ⟨h.1, h.2.1, by have h9 := h.2.2; omega⟩)))⟩
  · exact ⟨by omega, (Or.inr (Or.inr (Or.inr ⟨h.1, h.2.1, by have h9 := h.2.2; omega⟩)))⟩
abbrev tI (a k : Nat) : Prop := (a = 10 ∧ k = 4) ∨ a = 21
def bc_I (a k : Nat) : Bool := (Nat.ble 10 a && Nat.ble a 21) && decide (tI a k)
theorem bc_I_t {a k : Nat} (h : tI a k) : bc_I a k = true := by
  have h2 : (a = 10 ∧ k = 4) ∨ a = 21 := h
  have h3 : (10 ≤ a ∧ a ≤ 21) := by omega
  exact Bool.and_eq_true_iff.mpr ⟨Bool.and_eq_true_iff.mpr ⟨Nat.ble_eq_true_of_le h3.1, Nat.ble_eq_true_of_le h3.2⟩, decide_eq_true h⟩
theorem zbc_I {a k : Nat} (h : tI a k) : a < 201 ∧ tI a (min k 50) := by
  rcases h with h | h
  · exact ⟨by omega, (Or.inl ⟨h.1, by have h9 := h.2; omega⟩)⟩
  · exact ⟨by omega, (Or.inr h)⟩
abbrev tX (a k : Nat) : Prop := (a = 10 ∧ (k = 1 ∨ k = 2)) ∨ ((a = 11 ∨ a = 16) ∧ k = 1) ∨ (a = 156 ∧ (k = 2 ∨ k = 3)) ∨ a = 12 ∨ a = 17 ∨ a = 44 ∨ a = 135 ∨ (45 ≤ a ∧ a < 135 ∧ (a - 45) % 6 = 0 ∧ 3 ≤ k ∧ k < 8) ∨ (136 ≤ a ∧ a < 154 ∧ (a - 136) % 6 = 0 ∧ 3 ≤ k ∧ k < 8)
def bc_X (a k : Nat) : Bool := ((Nat.ble 10 a && Nat.ble a 17) || (Nat.ble 44 a && Nat.ble a 156)) && decide (tX a k)
theorem bc_X_t {a k : Nat} (h : tX a k) : bc_X a k = true := by
  have h2 : (a = 10 ∧ (k = 1 ∨ k = 2)) ∨ ((a = 11 ∨ a = 16) ∧ k = 1) ∨ (a = 156 ∧ (k = 2 ∨ k = 3)) ∨ a = 12 ∨ a = 17 ∨ a = 44 ∨ a = 135 ∨ (45 ≤ a ∧ a < 135 ∧ (a - 45) % 6 = 0 ∧ 3 ≤ k ∧ k < 8) ∨ (136 ≤ a ∧ a < 154 ∧ (a - 136) % 6 = 0 ∧ 3 ≤ k ∧ k < 8) := h
  have h3 : (10 ≤ a ∧ a ≤ 17) ∨ (44 ≤ a ∧ a ≤ 156) := by omega
  refine Bool.and_eq_true_iff.mpr ⟨?_, decide_eq_true h⟩
  rcases h3 with h3 | h3
  · exact Bool.or_eq_true_iff.mpr (Or.inl (Bool.and_eq_true_iff.mpr ⟨Nat.ble_eq_true_of_le h3.1, Nat.ble_eq_true_of_le h3.2⟩))
  · exact Bool.or_eq_true_iff.mpr (Or.inr (Bool.and_eq_true_iff.mpr ⟨Nat.ble_eq_true_of_le h3.1, Nat.ble_eq_true_of_le h3.2⟩))
theorem zbc_X {a k : Nat} (h : tX a k) : a < 201 ∧ tX a (min k 50) := by
  rcases h with h | h | h | h | h | h | h | h | h
  · exact ⟨by omega, (Or.inl ⟨h.1, by have h9 := h.2; omega⟩)⟩
  · exact ⟨by omega, (Or.inr (Or.inl ⟨h.1, by have h9 := h.2; omega⟩))⟩
  · exact ⟨by omega, (Or.inr (Or.inr (Or.inl ⟨h.1, by have h9 := h.2; omega⟩)))⟩
  · exact ⟨by omega, (Or.inr (Or.inr (Or.inr (Or.inl h))))⟩
  · exact ⟨by omega, (Or.inr (Or.inr (Or.inr (Or.inr (Or.inl h)))))⟩
  · exact ⟨by omega, (Or.inr (Or.inr (Or.inr (Or.inr (Or.inr (Or.inl h))))))⟩
  · exact ⟨by omega, (Or.inr (Or.inr (Or.inr (Or.inr (Or.inr (Or.inr (Or.inl h)))))))⟩
  · exact ⟨by omega, (Or.inr (Or.inr (Or.inr (Or.inr (Or.inr (Or.inr (Or.inr (Or.inl ⟨h.1, h.2.1, h.2.2.1, by have h9 := h.2.2.2.1; omega, by have h9 := h.2.2.2.2; omega⟩))))))))⟩
  · exact ⟨by omega, (Or.inr (Or.inr (Or.inr (Or.inr (Or.inr (Or.inr (Or.inr (Or.inr ⟨h.1, h.2.1, h.2.2.1, by have h9 := h.2.2.2.1; omega, by have h9 := h.2.2.2.2; omega⟩))))))))⟩
abbrev tM (a k : Nat) : Prop := (a = 170 ∧ (k = 3 ∨ k = 4 ∨ k = 5 ∨ k = 6 ∨ k = 7 ∨ k = 8 ∨ k = 23 ∨ k = 27 ∨ k = 39)) ∨ (a = 174 ∧ k < 41) ∨ a = 172 ∨ a = 173 ∨ a = 179 ∨ a = 183 ∨ a = 198 ∨ a = 199 ∨ a = 200
def bc_M (a k : Nat) : Bool := ((Nat.ble 170 a && Nat.ble a 183) || (Nat.ble 198 a && Nat.ble a 200)) && decide (tM a k)
theorem bc_M_t {a k : Nat} (h : tM a k) : bc_M a k = true := by
  have h2 : (a = 170 ∧ (k = 3 ∨ k = 4 ∨ k = 5 ∨ k = 6 ∨ k = 7 ∨ k = 8 ∨ k = 23 ∨ k = 27 ∨ k = 39)) ∨ (a = 174 ∧ k < 41) ∨ a = 172 ∨ a = 173 ∨ a = 179 ∨ a = 183 ∨ a = 198 ∨ a = 199 ∨ a = 200 := h
  have h3 : (170 ≤ a ∧ a ≤ 183) ∨ (198 ≤ a ∧ a ≤ 200) := by omega
  refine Bool.and_eq_true_iff.mpr ⟨?_, decide_eq_true h⟩
  rcases h3 with h3 | h3
  · exact Bool.or_eq_true_iff.mpr (Or.inl (Bool.and_eq_true_iff.mpr ⟨Nat.ble_eq_true_of_le h3.1, Nat.ble_eq_true_of_le h3.2⟩))
  · exact Bool.or_eq_true_iff.mpr (Or.inr (Bool.and_eq_true_iff.mpr ⟨Nat.ble_eq_true_of_le h3.1, Nat.ble_eq_true_of_le h3.2⟩))
theorem zbc_M {a k : Nat} (h : tM a k) : a < 201 ∧ tM a (min k 50) := by
  rcases h with h | h | h | h | h | h | h | h | h
  · exact ⟨by omega, (Or.inl ⟨h.1, by have h9 := h.2; omega⟩)⟩
  · exact ⟨by omega, (Or.inr (Or.inl ⟨h.1, by have h9 := h.2; omega⟩))⟩
  · exact ⟨by omega, (Or.inr (Or.inr (Or.inl h)))⟩
  · exact ⟨by omega, (Or.inr (Or.inr (Or.inr (Or.inl h))))⟩
  · exact ⟨by omega, (Or.inr (Or.inr (Or.inr (Or.inr (Or.inl h)))))⟩
  · exact ⟨by omega, (Or.inr (Or.inr (Or.inr (Or.inr (Or.inr (Or.inl h))))))⟩
  · exact ⟨by omega, (Or.inr (Or.inr (Or.inr (Or.inr (Or.inr (Or.inr (Or.inl h)))))))⟩
  · exact ⟨by omega, (Or.inr (Or.inr (Or.inr (Or.inr (Or.inr (Or.inr (Or.inr (Or.inl h))))))))⟩
  · exact ⟨by omega, (Or.inr (Or.inr (Or.inr (Or.inr (Or.inr (Or.inr (Or.inr (Or.inr h))))))))⟩
abbrev tD (a k : Nat) : Prop := (a = 5 ∧ k = 4) ∨ a = 8 ∨ a = 9
def bc_D (a k : Nat) : Bool := (Nat.ble 5 a && Nat.ble a 9) && decide (tD a k)
theorem bc_D_t {a k : Nat} (h : tD a k) : bc_D a k = true := by
  have h2 : (a = 5 ∧ k = 4) ∨ a = 8 ∨ a = 9 := h
  have h3 : (5 ≤ a ∧ a ≤ 9) := by omega
  exact Bool.and_eq_true_iff.mpr ⟨Bool.and_eq_true_iff.mpr ⟨Nat.ble_eq_true_of_le h3.1, Nat.ble_eq_true_of_le h3.2⟩, decide_eq_true h⟩
theorem zbc_D {a k : Nat} (h : tD a k) : a < 201 ∧ tD a (min k 50) := by
  rcases h with h | h | h
  · exact ⟨by omega, (Or.inl ⟨h.1, by have h9 := h.2; omega⟩)⟩
  · exact ⟨by omega, (Or.inr (Or.inl h))⟩
  · exact ⟨by omega, (Or.inr (Or.inr h))⟩
abbrev tE (a k : Nat) : Prop := (a = 170 ∧ (k = 8 ∨ k = 23)) ∨ a = 173 ∨ a = 179
def bc_E (a k : Nat) : Bool := (Nat.ble 170 a && Nat.ble a 179) && decide (tE a k)
theorem bc_E_t {a k : Nat} (h : tE a k) : bc_E a k = true := by
  have h2 : (a = 170 ∧ (k = 8 ∨ k = 23)) ∨ a = 173 ∨ a = 179 := h
  have h3 : (170 ≤ a ∧ a ≤ 179) := by omega
  exact Bool.and_eq_true_iff.mpr ⟨Bool.and_eq_true_iff.mpr ⟨Nat.ble_eq_true_of_le h3.1, Nat.ble_eq_true_of_le h3.2⟩, decide_eq_true h⟩
theorem zbc_E {a k : Nat} (h : tE a k) : a < 201 ∧ tE a (min k 50) := by
  rcases h with h | h | h
  · exact ⟨by omega, (Or.inl ⟨h.1, by have h9 := h.2; omega⟩)⟩
  · exact ⟨by omega, (Or.inr (Or.inl h))⟩
  · exact ⟨by omega, (Or.inr (Or.inr h))⟩
abbrev tT (a k : Nat) : Prop := (a = 170 ∧ k = 14) ∨ a = 176
def bc_T (a k : Nat) : Bool := (Nat.ble 170 a && Nat.ble a 176) && decide (tT a k)
theorem bc_T_t {a k : Nat} (h : tT a k) : bc_T a k = true := by
  have h2 : (a = 170 ∧ k = 14) ∨ a = 176 := h
  have h3 : (170 ≤ a ∧ a ≤ 176) := by omega
  exact Bool.and_eq_true_iff.mpr ⟨Bool.and_eq_true_iff.mpr ⟨Nat.ble_eq_true_of_le h3.1, Nat.ble_eq_true_of_le h3.2⟩, decide_eq_true h⟩
theorem zbc_T {a k : Nat} (h : tT a k) : a < 201 ∧ tT a (min k 50) := by
  rcases h with h | h
  · exact ⟨by omega, (Or.inl ⟨h.1, by have h9 := h.2; omega⟩)⟩
  · exact ⟨by omega, (Or.inr h)⟩
abbrev tQ (a k : Nat) : Prop := a = 44 ∨ a = 135 ∨ (45 ≤ a ∧ a < 135 ∧ (a - 45) % 6 = 0 ∧ 3 ≤ k ∧ k < 8) ∨ (136 ≤ a ∧ a < 154 ∧ (a - 136) % 6 = 0 ∧ 3 ≤ k ∧ k < 8)
def bc_Q (a k : Nat) : Bool := (Nat.ble 44 a && Nat.ble a 153) && decide (tQ a k)
theorem bc_Q_t {a k : Nat} (h : tQ a k) : bc_Q a k = true := by
  have h2 : a = 44 ∨ a = 135 ∨ (45 ≤ a ∧ a < 135 ∧ (a - 45) % 6 = 0 ∧ 3 ≤ k ∧ k < 8) ∨ (136 ≤ a ∧ a < 154 ∧ (a - 136) % 6 = 0 ∧ 3 ≤ k ∧ k < 8) := h
  have h3 : (44 ≤ a ∧ a ≤ 153) := by omega
  exact Bool.and_eq_true_iff.mpr ⟨Bool.and_eq_true_iff.mpr ⟨Nat.ble_eq_true_of_le h3.1, Nat.ble_eq_true_of_le h3.2⟩, decide_eq_true h⟩
theorem zbc_Q {a k : Nat} (h : tQ a k) : a < 201 ∧ tQ a (min k 50) := by
  rcases h with h | h | h | h
  · exact ⟨by omega, (Or.inl h)⟩
  · exact ⟨by omega, (Or.inr (Or.inl h))⟩
  · exact ⟨by omega, (Or.inr (Or.inr (Or.inl ⟨h.1, h.2.1, h.2.2.1, by have h9 := h.2.2.2.1; omega, by have h9 := h.2.2.2.2; omega⟩)))⟩
  · exact ⟨by omega, (Or.inr (Or.inr (Or.inr ⟨h.1, h.2.1, h.2.2.1, by have h9 := h.2.2.2.1; omega, by have h9 := h.2.2.2.2; omega⟩)))⟩
abbrev tRR (a k : Nat) : Prop := tL a k ∨ tN a k ∨ tH a k ∨ tI a k ∨ tX a k ∨ tM a k
def zAR : List Nat := [2, 3, 9, 13, 28, 29, 30, 33, 34, 35, 36, 37, 49, 50, 54, 59, 60, 78, 83, 111, 112, 113, 114, 115, 117, 118, 119, 120, 121]
def zFR : List (Nat × Nat) := [(0, 3), (0, 4), (0, 5), (0, 6), (0, 7), (0, 8), (0, 23), (0, 27), (0, 39), (4, 0), (4, 1), (4, 2), (4, 3), (4, 4), (4, 5), (4, 6), (4, 7), (4, 8), (4, 9), (4, 10), (4, 11), (4, 12), (4, 13), (4, 14), (4, 15), (4, 16), (4, 17), (4, 18), (4, 19), (4, 20), (4, 21), (4, 22), (4, 23), (4, 24), (4, 25), (4, 26), (4, 27), (4, 28), (4, 29), (4, 30), (4, 31), (4, 32), (4, 33), (4, 34), (4, 35), (4, 36), (4, 37), (4, 38), (4, 39), (4, 40), (31, 14), (32, 0), (32, 1), (32, 2), (48, 0), (48, 1), (48, 2), (48, 3), (53, 1), (53, 2), (53, 4), (58, 1), (58, 2), (58, 4), (63, 2), (63, 3), (77, 1), (82, 1), (110, 0), (110, 1), (110, 2), (110, 3), (110, 4), (110, 5), (110, 6), (110, 7), (116, 0), (116, 1), (116, 2), (116, 3), (116, 4), (116, 5), (116, 6), (116, 7)]
def bRR (a k : Nat) : Bool := bc_L a k || (bc_N a k || (bc_H a k || (bc_I a k || (bc_X a k || (bc_M a k)))))
theorem zbR : ∀ a k, tRR a k → a < 201 ∧ bRR a (min k 50) = true := fun a k h => by
  rcases h with h | h | h | h | h | h
  · exact ⟨(zbc_L h).1, (Bool.or_eq_true_iff.mpr (Or.inl (bc_L_t (zbc_L h).2)))⟩
  · exact ⟨(zbc_N h).1, (Bool.or_eq_true_iff.mpr (Or.inr (Bool.or_eq_true_iff.mpr (Or.inl (bc_N_t (zbc_N h).2)))))⟩
  · exact ⟨(zbc_H h).1, (Bool.or_eq_true_iff.mpr (Or.inr (Bool.or_eq_true_iff.mpr (Or.inr (Bool.or_eq_true_iff.mpr (Or.inl (bc_H_t (zbc_H h).2)))))))⟩
  · exact ⟨(zbc_I h).1, (Bool.or_eq_true_iff.mpr (Or.inr (Bool.or_eq_true_iff.mpr (Or.inr (Bool.or_eq_true_iff.mpr (Or.inr (Bool.or_eq_true_iff.mpr (Or.inl (bc_I_t (zbc_I h).2)))))))))⟩
  · exact ⟨(zbc_X h).1, (Bool.or_eq_true_iff.mpr (Or.inr (Bool.or_eq_true_iff.mpr (Or.inr (Bool.or_eq_true_iff.mpr (Or.inr (Bool.or_eq_true_iff.mpr (Or.inr (Bool.or_eq_true_iff.mpr (Or.inl (bc_X_t (zbc_X h).2)))))))))))⟩
  · exact ⟨(zbc_M h).1, (Bool.or_eq_true_iff.mpr (Or.inr (Bool.or_eq_true_iff.mpr (Or.inr (Bool.or_eq_true_iff.mpr (Or.inr (Bool.or_eq_true_iff.mpr (Or.inr (Bool.or_eq_true_iff.mpr (Or.inr (bc_M_t (zbc_M h).2)))))))))))⟩
theorem zckR : (List.range 201).all (zgchk bRR zAR zFR) = true := by decide +kernel
theorem zEQ_R {m m' : Int} {w w' : Nat} {p q : pm_H} (hp : xH xX kK m w p) (hq : xH xX kK m' w' q) (hs : xSame xX zAR zFR p q) : zEQ tRR p q := zEQ_of zbR zckR hp hq hs
abbrev tPP (a k : Nat) : Prop := tL a k ∨ tN a k ∨ tH a k ∨ tI a k ∨ tX a k ∨ tM a k ∨ tD a k
def zAP : List Nat := [2, 3, 9, 13, 28, 29, 30, 33, 34, 35, 36, 37, 49, 50, 51, 52, 54, 59, 60, 78, 83, 111, 112, 113, 114, 115, 117, 118, 119, 120, 121]
def zFP : List (Nat × Nat) := [(0, 3), (0, 4), (0, 5), (0, 6), (0, 7), (0, 8), (0, 23), (0, 27), (0, 39), (4, 0), (4, 1), (4, 2), (4, 3), (4, 4), (4, 5), (4, 6), (4, 7), (4, 8), (4, 9), (4, 10), (4, 11), (4, 12), (4, 13), (4, 14), (4, 15), (4, 16), (4, 17), (4, 18), (4, 19), (4, 20), (4, 21), (4, 22), (4, 23), (4, 24), (4, 25), (4, 26), (4, 27), (4, 28), (4, 29), (4, 30), (4, 31), (4, 32), (4, 33), (4, 34), (4, 35), (4, 36), (4, 37), (4, 38), (4, 39), (4, 40), (31, 14), (32, 0), (32, 1), (32, 2), (48, 0), (48, 1), (48, 2), (48, 3), (48, 4), (53, 1), (53, 2), (53, 4), (58, 1), (58, 2), (58, 4), (63, 2), (63, 3), (77, 1), (82, 1), (110, 0), (110, 1), (110, 2), (110, 3), (110, 4), (110, 5), (110, 6), (110, 7), (116, 0), (116, 1), (116, 2), (116, 3), (116, 4), (116, 5), (116, 6), (116, 7)]
def bPP (a k : Nat) : Bool := bc_L a k || (bc_N a k || (bc_H a k || (bc_I a k || (bc_X a k || (bc_M a k || (bc_D a k))))))
theorem zbP : ∀ a k, tPP a k → a < 201 ∧ bPP a (min k 50) = true := fun a k h => by
  rcases h with h | h | h | h | h | h | h
  · exact ⟨(zbc_L h).1, (Bool.or_eq_true_iff.mpr (Or.inl (bc_L_t (zbc_L h).2)))⟩
  · exact ⟨(zbc_N h).1, (Bool.or_eq_true_iff.mpr (Or.inr (Bool.or_eq_true_iff.mpr (Or.inl (bc_N_t (zbc_N h).2)))))⟩
  · exact ⟨(zbc_H h).1, (Bool.or_eq_true_iff.mpr (Or.inr (Bool.or_eq_true_iff.mpr (Or.inr (Bool.or_eq_true_iff.mpr (Or.inl (bc_H_t (zbc_H h).2)))))))⟩
  · exact ⟨(zbc_I h).1, (Bool.or_eq_true_iff.mpr (Or.inr (Bool.or_eq_true_iff.mpr (Or.inr (Bool.or_eq_true_iff.mpr (Or.inr (Bool.or_eq_true_iff.mpr (Or.inl (bc_I_t (zbc_I h).2)))))))))⟩
  · exact ⟨(zbc_X h).1, (Bool.or_eq_true_iff.mpr (Or.inr (Bool.or_eq_true_iff.mpr (Or.inr (Bool.or_eq_true_iff.mpr (Or.inr (Bool.or_eq_true_iff.mpr (Or.inr (Bool.or_eq_true_iff.mpr (Or.inl (bc_X_t (zbc_X h).2)))))))))))⟩
  · exact ⟨(zbc_M h).1, (Bool.or_eq_true_iff.mpr (Or.inr (Bool.or_eq_true_iff.mpr (Or.inr (Bool.or_eq_true_iff.mpr (Or.inr (Bool.or_eq_true_iff.mpr (Or.inr (Bool.or_eq_true_iff.mpr (Or.inr (Bool.or_eq_true_iff.mpr (Or.inl (bc_M_t (zbc_M h).2)))))))))))))⟩
  · exact ⟨(zbc_D h).1, (Bool.or_eq_true_iff.mpr (Or.inr (Bool.or_eq_true_iff.mpr (Or.inr (Bool.or_eq_true_iff.mpr (Or.inr (Bool.or_eq_true_iff.mpr (Or.inr (Bool.or_eq_true_iff.mpr (Or.inr (Bool.or_eq_true_iff.mpr (Or.inr (bc_D_t (zbc_D h).2)))))))))))))⟩
theorem zckP : (List.range 201).all (zgchk bPP zAP zFP) = true := by decide +kernel
theorem zEQ_P {m m' : Int} {w w' : Nat} {p q : pm_H} (hp : xH xX kK m w p) (hq : xH xX kK m' w' q) (hs : xSame xX zAP zFP p q) : zEQ tPP p q := zEQ_of zbP zckP hp hq hs
abbrev tWW (a k : Nat) : Prop := tL a k ∨ tI a k ∨ tX a k ∨ tM a k ∨ tT a k
def zAW : List Nat := [2, 3, 6, 9, 13, 28, 29, 30, 49, 50, 54, 59, 60, 78, 83]
def zFW : List (Nat × Nat) := [(0, 3), (0, 4), (0, 5), (0, 6), (0, 7), (0, 8), (0, 14), (0, 23), (0, 27), (0, 39), (4, 0), (4, 1), (4, 2), (4, 3), (4, 4), (4, 5), (4, 6), (4, 7), (4, 8), (4, 9), (4, 10), (4, 11), (4, 12), (4, 13), (4, 14), (4, 15), (4, 16), (4, 17), (4, 18), (4, 19), (4, 20), (4, 21), (4, 22), (4, 23), (4, 24), (4, 25), (4, 26), (4, 27), (4, 28), (4, 29), (4, 30), (4, 31), (4, 32), (4, 33), (4, 34), (4, 35), (4, 36), (4, 37), (4, 38), (4, 39), (4, 40), (48, 0), (48, 1), (48, 2), (48, 3), (53, 1), (53, 2), (53, 4), (63, 2), (63, 3), (77, 1), (82, 1), (110, 3), (110, 4), (110, 5), (110, 6), (110, 7), (116, 3), (116, 4), (116, 5), (116, 6), (116, 7)]
def bWW (a k : Nat) : Bool := bc_L a k || (bc_I a k || (bc_X a k || (bc_M a k || (bc_T a k))))
theorem zbW : ∀ a k, tWW a k → a < 201 ∧ bWW a (min k 50) = true := fun a k h => by
  rcases h with h | h | h | h | h
  · exact ⟨(zbc_L h).1, (Bool.or_eq_true_iff.mpr (Or.inl (bc_L_t (zbc_L h).2)))⟩
  · exact ⟨(zbc_I h).1, (Bool.or_eq_true_iff.mpr (Or.inr (Bool.or_eq_true_iff.mpr (Or.inl (bc_I_t (zbc_I h).2)))))⟩
  · exact ⟨(zbc_X h).1, (Bool.or_eq_true_iff.mpr (Or.inr (Bool.or_eq_true_iff.mpr (Or.inr (Bool.or_eq_true_iff.mpr (Or.inl (bc_X_t (zbc_X h).2)))))))⟩
  · exact ⟨(zbc_M h).1, (Bool.or_eq_true_iff.mpr (Or.inr (Bool.or_eq_true_iff.mpr (Or.inr (Bool.or_eq_true_iff.mpr (Or.inr (Bool.or_eq_true_iff.mpr (Or.inl (bc_M_t (zbc_M h).2)))))))))⟩
  · exact ⟨(zbc_T h).1, (Bool.or_eq_true_iff.mpr (Or.inr (Bool.or_eq_true_iff.mpr (Or.inr (Bool.or_eq_true_iff.mpr (Or.inr (Bool.or_eq_true_iff.mpr (Or.inr (bc_T_t (zbc_T h).2)))))))))⟩
theorem zckW : (List.range 201).all (zgchk bWW zAW zFW) = true := by decide +kernel
theorem zEQ_W {m m' : Int} {w w' : Nat} {p q : pm_H} (hp : xH xX kK m w p) (hq : xH xX kK m' w' q) (hs : xSame xX zAW zFW p q) : zEQ tWW p q := zEQ_of zbW zckW hp hq hs
abbrev tVV (a k : Nat) : Prop := tI a k ∨ tX a k ∨ tM a k ∨ tT a k
def zAV : List Nat := [2, 3, 6, 9, 13, 28, 29, 30, 54, 59, 60, 78, 83]
def zFV : List (Nat × Nat) := [(0, 3), (0, 4), (0, 5), (0, 6), (0, 7), (0, 8), (0, 14), (0, 23), (0, 27), (0, 39), (4, 0), (4, 1), (4, 2), (4, 3), (4, 4), (4, 5), (4, 6), (4, 7), (4, 8), (4, 9), (4, 10), (4, 11), (4, 12), (4, 13), (4, 14), (4, 15), (4, 16), (4, 17), (4, 18), (4, 19), (4, 20), (4, 21), (4, 22), (4, 23), (4, 24), (4, 25), (4, 26), (4, 27), (4, 28), (4, 29), (4, 30), (4, 31), (4, 32), (4, 33), (4, 34), (4, 35), (4, 36), (4, 37), (4, 38), (4, 39), (4, 40), (53, 1), (53, 2), (53, 4), (63, 2), (63, 3), (77, 1), (82, 1), (110, 3), (110, 4), (110, 5), (110, 6), (110, 7), (116, 3), (116, 4), (116, 5), (116, 6), (116, 7)]
def bVV (a k : Nat) : Bool := bc_I a k || (bc_X a k || (bc_M a k || (bc_T a k)))
theorem zbV : ∀ a k, tVV a k → a < 201 ∧ bVV a (min k 50) = true := fun a k h => by
  rcases h with h | h | h | h
  · exact ⟨(zbc_I h).1, (Bool.or_eq_true_iff.mpr (Or.inl (bc_I_t (zbc_I h).2)))⟩
  · exact ⟨(zbc_X h).1, (Bool.or_eq_true_iff.mpr (Or.inr (Bool.or_eq_true_iff.mpr (Or.inl (bc_X_t (zbc_X h).2)))))⟩
  · exact ⟨(zbc_M h).1, (Bool.or_eq_true_iff.mpr (Or.inr (Bool.or_eq_true_iff.mpr (Or.inr (Bool.or_eq_true_iff.mpr (Or.inl (bc_M_t (zbc_M h).2)))))))⟩
  · exact ⟨(zbc_T h).1, (Bool.or_eq_true_iff.mpr (Or.inr (Bool.or_eq_true_iff.mpr (Or.inr (Bool.or_eq_true_iff.mpr (Or.inr (bc_T_t (zbc_T h).2)))))))⟩
theorem zckV : (List.range 201).all (zgchk bVV zAV zFV) = true := by decide +kernel
theorem zEQ_V {m m' : Int} {w w' : Nat} {p q : pm_H} (hp : xH xX kK m w p) (hq : xH xX kK m' w' q) (hs : xSame xX zAV zFV p q) : zEQ tVV p q := zEQ_of zbV zckV hp hq hs
abbrev tCC (a k : Nat) : Prop := tL a k ∨ tN a k ∨ tH a k ∨ tI a k ∨ tX a k ∨ tD a k ∨ tE a k
def zAC : List Nat := [3, 9, 33, 34, 35, 36, 37, 49, 50, 51, 52, 54, 59, 60, 78, 83, 111, 112, 113, 114, 115, 117, 118, 119, 120, 121]
def zFC : List (Nat × Nat) := [(0, 8), (0, 23), (31, 14), (32, 0), (32, 1), (32, 2), (48, 0), (48, 1), (48, 2), (48, 3), (48, 4), (53, 1), (53, 2), (53, 4), (58, 1), (58, 2), (58, 4), (63, 2), (63, 3), (77, 1), (82, 1), (110, 0), (110, 1), (110, 2), (110, 3), (110, 4), (110, 5), (110, 6), (110, 7), (116, 0), (116, 1), (116, 2), (116, 3), (116, 4), (116, 5), (116, 6), (116, 7)]
def bCC (a k : Nat) : Bool := bc_L a k || (bc_N a k || (bc_H a k || (bc_I a k || (bc_X a k || (bc_D a k || (bc_E a k))))))
theorem zbC : ∀ a k, tCC a k → a < 201 ∧ bCC a (min k 50) = true := fun a k h => by
  rcases h with h | h | h | h | h | h | h
  · exact ⟨(zbc_L h).1, (Bool.or_eq_true_iff.mpr (Or.inl (bc_L_t (zbc_L h).2)))⟩
  · exact ⟨(zbc_N h).1, (Bool.or_eq_true_iff.mpr (Or.inr (Bool.or_eq_true_iff.mpr (Or.inl (bc_N_t (zbc_N h).2)))))⟩
  · exact ⟨(zbc_H h).1, (Bool.or_eq_true_iff.mpr (Or.inr (Bool.or_eq_true_iff.mpr (Or.inr (Bool.or_eq_true_iff.mpr (Or.inl (bc_H_t (zbc_H h).2)))))))⟩
  · exact ⟨(zbc_I h).1, (Bool.or_eq_true_iff.mpr (Or.inr (Bool.or_eq_true_iff.mpr (Or.inr (Bool.or_eq_true_iff.mpr (Or.inr (Bool.or_eq_true_iff.mpr (Or.inl (bc_I_t (zbc_I h).2)))))))))⟩
  · exact ⟨(zbc_X h).1, (Bool.or_eq_true_iff.mpr (Or.inr (Bool.or_eq_true_iff.mpr (Or.inr (Bool.or_eq_true_iff.mpr (Or.inr (Bool.or_eq_true_iff.mpr (Or.inr (Bool.or_eq_true_iff.mpr (Or.inl (bc_X_t (zbc_X h).2)))))))))))⟩
  · exact ⟨(zbc_D h).1, (Bool.or_eq_true_iff.mpr (Or.inr (Bool.or_eq_true_iff.mpr (Or.inr (Bool.or_eq_true_iff.mpr (Or.inr (Bool.or_eq_true_iff.mpr (Or.inr (Bool.or_eq_true_iff.mpr (Or.inr (Bool.or_eq_true_iff.mpr (Or.inl (bc_D_t (zbc_D h).2)))))))))))))⟩
  · exact ⟨(zbc_E h).1, (Bool.or_eq_true_iff.mpr (Or.inr (Bool.or_eq_true_iff.mpr (Or.inr (Bool.or_eq_true_iff.mpr (Or.inr (Bool.or_eq_true_iff.mpr (Or.inr (Bool.or_eq_true_iff.mpr (Or.inr (Bool.or_eq_true_iff.mpr (Or.inr (bc_E_t (zbc_E h).2)))))))))))))⟩
theorem zckC : (List.range 201).all (zgchk bCC zAC zFC) = true := by decide +kernel
theorem zEQ_C {m m' : Int} {w w' : Nat} {p q : pm_H} (hp : xH xX kK m w p) (hq : xH xX kK m' w' q) (hs : xSame xX zAC zFC p q) : zEQ tCC p q := zEQ_of zbC zckC hp hq hs
abbrev tUU (a k : Nat) : Prop := tL a k ∨ tN a k ∨ tH a k ∨ tX a k ∨ tM a k ∨ tD a k ∨ tT a k
def zAU : List Nat := [2, 3, 6, 9, 13, 28, 29, 30, 33, 34, 35, 36, 37, 49, 50, 51, 52, 59, 60, 78, 83, 111, 112, 113, 114, 115, 117, 118, 119, 120, 121]
def zFU : List (Nat × Nat) := [(0, 3), (0, 4), (0, 5), (0, 6), (0, 7), (0, 8), (0, 14), (0, 23), (0, 27), (0, 39), (4, 0), (4, 1), (4, 2), (4, 3), (4, 4), (4, 5), (4, 6), (4, 7), (4, 8), (4, 9), (4, 10), (4, 11), (4, 12), (4, 13), (4, 14), (4, 15), (4, 16), (4, 17), (4, 18), (4, 19), (4, 20), (4, 21), (4, 22), (4, 23), (4, 24), (4, 25), (4, 26), (4, 27), (4, 28), (4, 29), (4, 30), (4, 31), (4, 32), (4, 33), (4, 34), (4, 35), (4, 36), (4, 37), (4, 38), (4, 39), (4, 40), (31, 14), (32, 0), (32, 1), (32, 2), (48, 0), (48, 1), (48, 2), (48, 3), (48, 4), (53, 1), (53, 2), (58, 1), (58, 2), (58, 4), (63, 2), (63, 3), (77, 1), (82, 1), (110, 0), (110, 1), (110, 2), (110, 3), (110, 4), (110, 5), (110, 6), (110, 7), (116, 0), (116, 1), (116, 2), (116, 3), (116, 4), (116, 5), (116, 6), (116, 7)]
def bUU (a k : Nat) : Bool := bc_L a k || (bc_N a k || (bc_H a k || (bc_X a k || (bc_M a k || (bc_D a k || (bc_T a k))))))
theorem zbU : ∀ a k, tUU a k → a < 201 ∧ bUU a (min k 50) = true := fun a k h => by
  rcases h with h | h | h | h | h | h | h
  · exact ⟨(zbc_L h).1, (Bool.or_eq_true_iff.mpr (Or.inl (bc_L_t (zbc_L h).2)))⟩
  · exact ⟨(zbc_N h).1, (Bool.or_eq_true_iff.mpr (Or.inr (Bool.or_eq_true_iff.mpr (Or.inl (bc_N_t (zbc_N h).2)))))⟩
  · exact ⟨(zbc_H h).1, (Bool.or_eq_true_iff.mpr (Or.inr (Bool.or_eq_true_iff.mpr (Or.inr (Bool.or_eq_true_iff.mpr (Or.inl (bc_H_t (zbc_H h).2)))))))⟩
  · exact ⟨(zbc_X h).1, (Bool.or_eq_true_iff.mpr (Or.inr (Bool.or_eq_true_iff.mpr (Or.inr (Bool.or_eq_true_iff.mpr (Or.inr (Bool.or_eq_true_iff.mpr (Or.inl (bc_X_t (zbc_X h).2)))))))))⟩
  · exact ⟨(zbc_M h).1, (Bool.or_eq_true_iff.mpr (Or.inr (Bool.or_eq_true_iff.mpr (Or.inr (Bool.or_eq_true_iff.mpr (Or.inr (Bool.or_eq_true_iff.mpr (Or.inr (Bool.or_eq_true_iff.mpr (Or.inl (bc_M_t (zbc_M h).2)))))))))))⟩
  · exact ⟨(zbc_D h).1, (Bool.or_eq_true_iff.mpr (Or.inr (Bool.or_eq_true_iff.mpr (Or.inr (Bool.or_eq_true_iff.mpr (Or.inr (Bool.or_eq_true_iff.mpr (Or.inr (Bool.or_eq_true_iff.mpr (Or.inr (Bool.or_eq_true_iff.mpr (Or.inl (bc_D_t (zbc_D h).2)))))))))))))⟩
  · exact ⟨(zbc_T h).1, (Bool.or_eq_true_iff.mpr (Or.inr (Bool.or_eq_true_iff.mpr (Or.inr (Bool.or_eq_true_iff.mpr (Or.inr (Bool.or_eq_true_iff.mpr (Or.inr (Bool.or_eq_true_iff.mpr (Or.inr (Bool.or_eq_true_iff.mpr (Or.inr (bc_T_t (zbc_T h).2)))))))))))))⟩
theorem zckU : (List.range 201).all (zgchk bUU zAU zFU) = true := by decide +kernel
theorem zEQ_U {m m' : Int} {w w' : Nat} {p q : pm_H} (hp : xH xX kK m w p) (hq : xH xX kK m' w' q) (hs : xSame xX zAU zFU p q) : zEQ tUU p q := zEQ_of zbU zckU hp hq hs
abbrev tYY (a k : Nat) : Prop := tM a k ∨ tT a k ∨ tQ a k
def zAY : List Nat := [2, 3, 6, 9, 13, 28, 29, 30, 59, 60]
def zFY : List (Nat × Nat) := [(0, 3), (0, 4), (0, 5), (0, 6), (0, 7), (0, 8), (0, 14), (0, 23), (0, 27), (0, 39), (4, 0), (4, 1), (4, 2), (4, 3), (4, 4), (4, 5), (4, 6), (4, 7), (4, 8), (4, 9), (4, 10), (4, 11), (4, 12), (4, 13), (4, 14), (4, 15), (4, 16), (4, 17), (4, 18), (4, 19), (4, 20), (4, 21), (4, 22), (4, 23), (4, 24), (4, 25), (4, 26), (4, 27), (4, 28), (4, 29), (4, 30), (4, 31), (4, 32), (4, 33), (4, 34), (4, 35), (4, 36), (4, 37), (4, 38), (4, 39), (4, 40), (110, 3), (110, 4), (110, 5), (110, 6), (110, 7), (116, 3), (116, 4), (116, 5), (116, 6), (116, 7)]
def bYY (a k : Nat) : Bool := bc_M a k || (bc_T a k || (bc_Q a k))
theorem zbY : ∀ a k, tYY a k → a < 201 ∧ bYY a (min k 50) = true := fun a k h => by
  rcases h with h | h | h
  · exact ⟨(zbc_M h).1, (Bool.or_eq_true_iff.mpr (Or.inl (bc_M_t (zbc_M h).2)))⟩
  · exact ⟨(zbc_T h).1, (Bool.or_eq_true_iff.mpr (Or.inr (Bool.or_eq_true_iff.mpr (Or.inl (bc_T_t (zbc_T h).2)))))⟩
  · exact ⟨(zbc_Q h).1, (Bool.or_eq_true_iff.mpr (Or.inr (Bool.or_eq_true_iff.mpr (Or.inr (bc_Q_t (zbc_Q h).2)))))⟩
theorem zckY : (List.range 201).all (zgchk bYY zAY zFY) = true := by decide +kernel
theorem zEQ_Y {m m' : Int} {w w' : Nat} {p q : pm_H} (hp : xH xX kK m w p) (hq : xH xX kK m' w' q) (hs : xSame xX zAY zFY p q) : zEQ tYY p q := zEQ_of zbY zckY hp hq hs
/-! the parts of the relation over frames -/
theorem zCl_Q {p q : pm_H} {R C : Nat} {rk : Nat → Bool} (h : zEQ tL p q) (g : zCl p R C rk) : zCl q R C rk := by
  obtain ⟨g0, g1, g2, g3, g4, g5⟩ := g
  exact ⟨(h 5 0 (by decide)).trans g0, (h 5 1 (by decide)).trans g1, (h 5 2 (by decide)).trans g2, (h 5 3 (by decide)).trans g3, fun f hf => ⟨(h 6 f (Or.inr (Or.inl rfl))).trans (g4 f hf).1, (h 7 f (Or.inr (Or.inr rfl))).trans (g4 f hf).2⟩, g5⟩
theorem zSd_Q {p q : pm_H} {S P G : Nat} {v : Nat → Nat} (h : ∀ a k, ((a = S ∧ k < 3) ∨ (S + 1 ≤ a ∧ a ≤ S + 5)) → zc q a k = zc p a k) (g : zSd p S P G v) : zSd q S P G v := by
  obtain ⟨g0, gP, g1, gG, g2, g3, g4⟩ := g
  exact ⟨(h S 0 (by omega)).trans g0, gP, (h S 1 (by omega)).trans g1, gG, (h S 2 (by omega)).trans g2, fun i hi => ⟨(h (S + 1) i (by omega)).trans (g3 i hi).1, (h (S + 2) i (by omega)).trans (g3 i hi).2.1, (h (S + 3) i (by omega)).trans (g3 i hi).2.2.1, (h (S + 4) i (by omega)).trans (g3 i hi).2.2.2⟩, fun i hi => (h (S + 5) i (by omega)).trans (g4 i hi)⟩
theorem zSN_Q {p q : pm_H} {P G : Nat} {v : Nat → Nat} (h : zEQ tN p q) (g : zSd p 25 P G v) : zSd q 25 P G v := zSd_Q (fun a k hk => h a k (by omega)) g
theorem zCu_Q {p q : pm_H} {P G nx u : Nat} {w : Nat → Nat → Nat} (h : zEQ tH p q) (g : zCu p P G nx u w) : zCu q P G nx u w := by
  obtain ⟨g0, g1, g2, g3, g4⟩ := g
  refine ⟨(h 43 1 (by decide)).trans g0, g1, (h 43 2 (by decide)).trans g2, g3, fun i hi => zSd_Q (fun a k hk => h a k ?_) (g4 i hi)⟩
  have hj : (nx + 15 - u + i) % 15 < 15 := Nat.mod_lt _ (by decide)
  generalize (nx + 15 - u + i) % 15 = j at hk hj
  exact Or.inr (Or.inr (Or.inl ⟨by omega, by omega, by omega⟩))
theorem zCk_Q {p q : pm_H} {P G fl : Nat} {sv : Nat → Nat → Nat} (h : zEQ tH p q) (g : zCk p P G fl sv) : zCk q P G fl sv := by
  obtain ⟨g0, g1, g4⟩ := g
  exact ⟨(h 43 4 (by decide)).trans g0, g1, fun i hi hb => zSd_Q (fun a k hk => h a k (Or.inr (Or.inr (Or.inr ⟨by omega, by omega, by omega⟩)))) (g4 i hi hb)⟩
theorem zCh_Q {p q : pm_H} {hn : Nat} (h : zEQ tH p q) (g : zCh p hn) : zCh q hn := ⟨(h 0 14 (by decide)).trans g.1, g.2⟩
theorem zKC_Q {p q : pm_H} {R C P G nx u fl hn : Nat} {rk : Nat → Bool} {v : Nat → Nat} {w sv : Nat → Nat → Nat} (hL : zEQ tL p q) (hN : zEQ tN p q) (hH : zEQ tH p q) (g : zKC p R C rk P G v nx u w fl sv hn) : zKC q R C rk P G v nx u w fl sv hn := ⟨zCl_Q hL g.1, zSN_Q hN g.2.1, zCu_Q hH g.2.2.1, zCk_Q hH g.2.2.2.1, zCh_Q hH g.2.2.2.2⟩
theorem zCi_Q {p q : pm_H} {sn : Nat} {sk : Nat → Nat} (h : zEQ tI p q) (g : zCi p sn sk) : zCi q sn sk := ⟨(h 10 4 (by decide)).trans g.1, g.2.1, g.2.2.1, fun i hi => ⟨(h 21 i (Or.inr rfl)).trans (g.2.2.2 i hi).1, (g.2.2.2 i hi).2⟩⟩
theorem zFm_Q {p q : pm_H} {F k : Nat} {c : Nat → Nat} (hS : zSh q) (hF : F = 11 ∨ F = 16) (h : zEQ tX p q) (g : zFm p F k c) : zFm q F k c := by
  obtain ⟨-, -, g2, g3, g4, g5, g6⟩ := g
  rcases hF with e | e
  · subst e
    exact ⟨zsg hS zs_11_0, zsg hS zs_11_8, (h 11 1 (by decide)).trans g2, g3, g4, fun i hi => (h 12 i (by omega)).trans (g5 i hi), g6⟩
  · subst e
    exact ⟨zsg hS zs_16_0, zsg hS zs_16_8, (h 16 1 (by decide)).trans g2, g3, g4, fun i hi => (h 17 i (by omega)).trans (g5 i hi), g6⟩
theorem zCe_Q {p q : pm_H} {E : zEn} {F : Nat} (hS : zSh q) (hL : zEQ tL p q) (hI : zEQ tI p q) (hX : zEQ tX p q) (g : zCe p E F) : zCe q E F := ⟨zCl_Q hL g.1, zCi_Q hI g.2.1, zFm_Q hS g.2.2.2 hX g.2.2.1, g.2.2.2⟩
theorem zBd_Q {p q : pm_H} (h : zEQ tX p q) (g : zBd p) : zBd q := ⟨(h 156 2 (by decide)).trans g.1, (h 156 3 (by decide)).trans g.2⟩
theorem zs44_in {a k b : Nat} (e : 44 ≤ a ∧ a < 154) (h : zlk zstatL a k = some b) : tQ a k := by
  have c := List.all_eq_true.mp (by decide +kernel : zstatL.all (fun e => !(Nat.ble 44 e.1 && Nat.blt e.1 154) || decide (tQ e.1 e.2.1)) = true) _ (zlk_mem h)
  replace c : (!(Nat.ble 44 a && Nat.blt a 154) || decide (tQ a k)) = true := c
  have e5 : (Nat.ble 44 a && Nat.blt a 154) = true := (Bool.and_eq_true _ _).mpr ⟨Nat.ble_eq_true_of_le e.1, Nat.ble_eq_true_of_le e.2⟩
  rw [e5] at c
  exact of_decide_eq_true c
theorem zs44_Qq {p q : pm_H} (h : zEQ tQ p q) (g : zs44 p) : zs44 q := fun a k b e hb => (h a k (zs44_in e hb)).trans (g a k b e hb)
theorem zs44_Q {p q : pm_H} (h : zEQ tX p q) (g : zs44 p) : zs44 q := zs44_Qq (zEQ_m (fun _ _ t => Or.inr (Or.inr (Or.inr (Or.inr (Or.inr t))))) h) g
/-- the class's light and RULE, and what never changes -/
def zXc (p : pm_H) (E : zEn) (F F2 : Nat) : Prop := zCe p E F ∧ zc p 10 1 = some (.ref F) ∧ zc p 10 2 = some (.ref F2) ∧ zBd p ∧ zs44 p
theorem zXc_Q {p q : pm_H} {E : zEn} {F F2 : Nat} {m : Int} {w : Nat} (hq : xH xX kK m w q) (hL : zEQ tL p q) (hI : zEQ tI p q) (hX : zEQ tX p q) (g : zXc p E F F2) : zXc q E F F2 := by
  have h4 := zs44_Q hX g.2.2.2.2
  exact ⟨zCe_Q (zSh_of hq h4) hL hI hX g.1, (hX 10 1 (by decide)).trans g.2.1, (hX 10 2 (by decide)).trans g.2.2.1, zBd_Q hX g.2.2.2.1, h4⟩
theorem zNr_Q {p q : pm_H} {A off : Nat} {v : Nat → Nat} (h : ∀ k, off ≤ k → k < off + 41 → zc q A k = zc p A k) (g : zNr p A off v) : zNr q A off v := fun i hi => (h (off + i) (by omega) (by omega)).trans (g i hi)
theorem zMl_Q {p q : pm_H} {R C : Nat} {rk : Nat → Bool} (h : zEQ tM p q) (g : zMl p R C rk) : zMl q R C rk := ⟨(h 170 3 (by decide)).trans g.1, (h 170 4 (by decide)).trans g.2.1, fun f hf => (h 172 f (by omega)).trans (g.2.2.1 f hf), g.2.2.2⟩
theorem zMp_Q {p q : pm_H} {P G : Nat} (h : zEQ tM p q) (g : zMp p P G) : zMp q P G := ⟨(h 170 5 (by decide)).trans g.1, g.2.1, (h 170 6 (by decide)).trans g.2.2.1, g.2.2.2⟩
theorem zMr_Q {p q : pm_H} {sn cn : Nat} {sk cd : Nat → Nat} (h : zEQ tE p q) (g : zMr p sn sk cn cd) : zMr q sn sk cn cd := by
  obtain ⟨g0, g1, g2, g3, g4, g5, g6⟩ := g
  exact ⟨(h 170 8 (by decide)).trans g0, g1, g2, fun i hi => ⟨(h 173 i (by omega)).trans (g3 i hi).1, (g3 i hi).2⟩, (h 170 23 (by decide)).trans g4, g5, fun i hi => ⟨(h 179 i (by omega)).trans (g6 i hi).1, (g6 i hi).2⟩⟩
theorem zMu_Q {p q : pm_H} {u : Nat} {w : Nat → Nat → Nat} (h : zEQ tM p q) (g : zMu p u w) : zMu q u w := ⟨(h 170 27 (by decide)).trans g.1, g.2.1, fun i hi => zNr_Q (fun k _ _ => h 183 k (by omega)) (g.2.2 i hi)⟩
theorem zMk_Q {p q : pm_H} {ch : Nat} {kp : Nat → Bool} {kc : Nat → Nat} {sv : Nat → Nat → Nat} (h : zEQ tM p q) (g : zMk p ch kp kc sv) : zMk q ch kp kc sv := ⟨(h 170 7 (by decide)).trans g.1, g.2.1, fun i hi => by
  obtain ⟨g0, g1, g2, g3⟩ := g.2.2 i hi
  exact ⟨(h 198 i (by omega)).trans g0, (h 199 i (by omega)).trans g1, g2, fun e => zNr_Q (fun k _ _ => h 200 k (by omega)) (g3 e)⟩⟩
theorem zKM_Q {p q : pm_H} {R C P G u ch hn : Nat} {rk : Nat → Bool} {v : Nat → Nat} {w : Nat → Nat → Nat} {kp : Nat → Bool} {kc : Nat → Nat} {sv : Nat → Nat → Nat} (h : zEQ tM p q) (g : zKM p R C rk P G v u w ch kp kc sv hn) : zKM q R C rk P G v u w ch kp kc sv hn := ⟨zMl_Q h g.1, zMp_Q h g.2.1, zNr_Q (fun k _ _ => h 174 k (by omega)) g.2.2.1, zMu_Q h g.2.2.2.1, zMk_Q h g.2.2.2.2.1, (h 170 39 (by decide)).trans g.2.2.2.2.2.1, g.2.2.2.2.2.2⟩
theorem tEM {a k : Nat} (h : tE a k) : tM a k := by
  rcases h with ⟨h1, h2⟩ | h | h
  · exact Or.inl ⟨h1, by omega⟩
  · exact Or.inr (Or.inr (Or.inr (Or.inl h)))
  · exact Or.inr (Or.inr (Or.inr (Or.inr (Or.inl h))))
theorem zMe_Q {p q : pm_H} {E : zEn} (h : zEQ tM p q) (g : zMe p E) : zMe q E := ⟨zMl_Q h g.1, zMr_Q (zEQ_m (fun _ _ => tEM) h) g.2.1, g.2.2⟩
/-! the land's view -/
theorem zq_at {p q : pm_H} {a k : Nat} (h : pm_at p a = pm_at q a) : zc q a k = zc p a k := by
  unfold zc
  rw [h]
def zqC (p : pm_H) (R C : Nat) (rk : Nat → Bool) : Prop := ∃ x, xget p 5 4 = some (.long x) ∧ ∀ f, f < R * C → zb x f = true → (∀ w, w < 8 → zc p 8 (8 * f + w) = some (.long (zS (zTw C rk f w) (R * C)))) ∧ ∀ d, d < 7 → zc p 9 (7 * f + d) = some (.long (zS (zWi C f d) (R * C)))
theorem zqC_c {p : pm_H} {R C : Nat} {rk : Nat → Bool} (h : zqC p R C rk) : zCc p R C rk := by
  obtain ⟨x, h1, h2⟩ := h
  exact ⟨x, zc_xget h1, h2⟩
theorem zqC_x {p : pm_H} {R C : Nat} {rk : Nat → Bool} {m : Int} {w : Nat} (hP : xH xX kK m w p) (h : zCc p R C rk) : zqC p R C rk := by
  obtain ⟨x, h1, h2⟩ := h
  exact ⟨x, (xget_zc (i := 48) hP rfl rfl).trans h1, h2⟩
theorem zqC_G {gA : List Nat} {gF : List (Nat × Nat)} {R C : Nat} {rk : Nat → Bool} (h1 : xmemN gA 51 = true) (h2 : xmemN gA 52 = true) (h3 : xmemP gF 48 4 = true) : xHE xX gA gF (fun p => zqC p R C rk) := fun p p' hs ⟨x, h, g⟩ => ⟨x, (hs.2 5 48 4 rfl (xmemP_in h3)).symm.trans h, fun f hf hb => ⟨fun w hw => (zq_at (hs.1 8 51 rfl (xmemN_in h1))).trans ((g f hf hb).1 w hw), fun d hd => (zq_at (hs.1 9 52 rfl (xmemN_in h2))).trans ((g f hf hb).2 d hd)⟩⟩
theorem zCc_Q {p q : pm_H} {R C : Nat} {rk : Nat → Bool} (h : zEQ tD p q) (g : zCc p R C rk) : zCc q R C rk := by
  obtain ⟨x, h1, h2⟩ := g
  exact ⟨x, (h 5 4 (by decide)).trans h1, fun f hf hb => ⟨fun w hw => (h 8 _ (Or.inr (Or.inl rfl))).trans ((h2 f hf hb).1 w hw), fun d hd => (h 9 _ (Or.inr (Or.inr rfl))).trans ((h2 f hf hb).2 d hd)⟩⟩
/-- view keeps the frame and what the land keeps of views -/
theorem xPC_F {E0 : pm_H → Prop} (h0 : xHE xX xgA_G19 xgF_G19 E0) {gA : List Nat} {gF : List (Nat × Nat)} {ph : pm_H} {m0 : Int} {w0 R C : Nat} {rk : Nat → Bool} {bT : Nat → Nat → Bool} {T : Nat → Nat → Prop} (hP : xH xX kK m0 w0 ph) (s1 : gA.all (fun i => xmemN xgA_G19 i) = true) (s2 : gF.all (fun p => xmemP xgF_G19 p.1 p.2) = true) (hb : ∀ a k, T a k → a < 201 ∧ bT a (min k 50) = true) (c : (List.range 201).all (zgchk bT gA gF) = true) (tl : ∀ a k, tL a k → T a k) (tx : ∀ a k, tX a k → T a k) (h4 : zs44 ph) (hL : zCl ph R C rk) : xPC (fun p => (E0 p ∧ xSame xX gA gF ph p) ∧ zqC p R C rk) := fun P hPP D hD m hm hW vs p hv hF hx hE => by
  obtain ⟨v, p', a, b, c1, e, f⟩ := xn_48_0 (E := fun p => (E0 p ∧ xSame xX gA gF ph p) ∧ P p) (xHE_and (xHE_and h0 (xHE_sub s1 s2 xHE_slf)) hPP) D hD m hm hW vs p hv hF hx ⟨hE.1.1, hE.2⟩
  have hq := zEQ_of hb c hP hx hE.1.1.2
  have hS' := zSh_of hx (zs44_Q (zEQ_m tx hq) h4)
  have hL' := zCl_Q (zEQ_m tl hq) hL
  match vs, hv, a with
  | [v0, v1, v2, v3, v4], ⟨g0, ⟨x1, e1, _⟩, ⟨x2, e2, _⟩, ⟨x3, e3, _⟩, ⟨x4, e4, _⟩, _⟩, a =>
    have e0 := xaO hx (u := 48) (A := 5) rfl g0
    subst e0 e1 e2 e3 e4
    obtain ⟨-, w2⟩ := zc_viewE hS' hL' (zqC_c hE.1.2) D _ a
    exact ⟨v, p', a, b, ⟨⟨c1.1, zqC_x b w2⟩, c1.2⟩, e, f⟩
