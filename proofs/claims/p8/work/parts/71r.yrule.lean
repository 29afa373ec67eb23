/-! the RULE answers alike: W's two readings laid on X's runs -/
theorem zc_xget {ph : pm_H} {a i : Nat} {v : Value} (h : xget ph a i = some v) : zc ph a i = some v := by
  unfold xget at h
  unfold zc
  split at h
  · next q fl e => rw [e]; exact h
  · next l e => rw [e]; exact h
  · cases h
theorem zxO_at {m : Int} {w A i ci : Nat} {fts : List ((Int × Int) ⊕ Option Nat)} {ph : pm_H} (hP : xH xX kK m w ph) (ho : xown A = some i) (ht : xkt i = some (some A, .inr (ci, fts))) : ∃ fl, pm_at ph A = some (.inr (ci, fl)) ∧ ∀ (k : Nat) (ft : (Int × Int) ⊕ Option Nat), fts[k]? = some ft → ∃ v, fl[k]? = some v ∧ xftG xX v ft := by
  obtain ⟨s, t, h1, -, h3⟩ := hP A i ho
  rw [show xX.2.1 i = xkt i from rfl, ht] at h1
  cases h1
  exact h3
theorem zxL_at {m : Int} {w A i : Nat} {q : Nat × Nat × Nat × List (Nat × xe) × Nat} {ph : pm_H} (hP : xH xX kK m w ph) (ho : xown A = some i) (ht : xkt i = some (some A, .inl q)) : xcG xX kK m w ph A (.inl q) := by
  obtain ⟨s, t, h1, -, h3⟩ := hP A i ho
  rw [show xX.2.1 i = xkt i from rfl, ht] at h1
  cases h1
  exact h3
theorem zxone_a {m : Int} {w u A a i : Nat} {ph : pm_H} (hP : xH xX kK m w ph) (hu : xone u = some A) (ho : xown a = some i) (hi : i ∈ xsub u) : a = A := by
  unfold xone at hu
  split at hu
  · next i0 hs =>
    rw [hs] at hi
    have ei : i = i0 := by
      rcases List.mem_cons.mp hi with e | e
      · exact e
      · cases e
    subst ei
    split at hu
    · next a0 t0 hk =>
      cases hu
      obtain ⟨s, t, h1, h2, -⟩ := hP a i ho
      rw [show xX.2.1 i = xkt i from rfl, hk] at h1
      cases h1
      exact h2 A rfl
    · cases hu
  · cases hu
def zScR : Bool := zstatL.all (fun e => match xown e.1 with
  | some i => (match xkt i with
    | some (some a, .inr (_, fts)) => Nat.beq a e.1 && (match fts[e.2.1]? with
      | some (.inr (some u)) => (match xone u with
        | some b => Nat.beq b e.2.2
        | none => false)
      | _ => false)
    | _ => false)
  | none => false)
def zScL : Bool := zlenL.all (fun e => match xown e.1 with
  | some i => (match xkt i with
    | some (some a, .inl (g, n, _)) => Nat.beq a e.1 && (Nat.beq n e.2 && (Nat.beq g 0 || (Nat.beq g 1 || (Nat.beq g 2 || Nat.beq g 4))))
    | _ => false)
  | none => false)
theorem zScR_t : zScR = true := by decide +kernel
theorem zScL_t : zScL = true := by decide +kernel
theorem zll_mem : ∀ {l : List (Nat × Nat)} {a n : Nat}, zll l a = some n → (a, n) ∈ l := by
  intro l
  induction l with
  | nil => intro a n h; cases h
  | cons e r ih =>
    intro a n h
    unfold zll at h
    cases hb : Nat.beq e.1 a with
    | true =>
      rw [hb] at h
      have e1 := Nat.eq_of_beq_eq_true hb
      have e2 : e.2 = n := Option.some.inj h
      subst e1 e2
      exact List.mem_cons_self
    | false =>
      rw [hb] at h
      exact List.mem_cons_of_mem _ (ih h)
/-- what X's kinds say of references and lengths -/
theorem zSh_xH {m : Int} {w : Nat} {ph : pm_H} (hP : xH xX kK m w ph) : zSh ph := by
  refine ⟨fun a k b h => ?_, fun a n h => ?_⟩
  · have c := List.all_eq_true.mp zScR_t _ (zlk_mem h)
    replace c : (match xown a with
      | some i => (match xkt i with
        | some (some a2, .inr (_, fts)) => Nat.beq a2 a && (match fts[k]? with
          | some (.inr (some u)) => (match xone u with
            | some b2 => Nat.beq b2 b
            | none => false)
          | _ => false)
        | _ => false)
      | none => false) = true := c
    split at c
    · next i ho =>
      split at c
      · next a2 ci fts ht =>
        obtain ⟨c1, c2⟩ := (Bool.and_eq_true _ _).mp c
        have ea := Nat.eq_of_beq_eq_true c1
        subst ea
        split at c2
        · next u hf =>
          split at c2
          · next b2 hu =>
            have eb := Nat.eq_of_beq_eq_true c2
            subst eb
            obtain ⟨fl, hat, hfl⟩ := zxO_at hP ho ht
            obtain ⟨v, hv, a3, i3, e3, ho3, hi3⟩ := hfl k _ hf
            have e4 := zxone_a hP hu ho3 hi3
            subst e3 e4
            unfold zc
            rw [hat]
            exact hv
          · cases c2
        · cases c2
      · cases c
    · cases c
  · have c := List.all_eq_true.mp zScL_t _ (zll_mem h)
    replace c : (match xown a with
      | some i => (match xkt i with
        | some (some a2, .inl (g, n2, _)) => Nat.beq a2 a && (Nat.beq n2 n && (Nat.beq g 0 || (Nat.beq g 1 || (Nat.beq g 2 || Nat.beq g 4))))
        | _ => false)
      | none => false) = true := c
    split at c
    · next i ho =>
      split at c
      · next a2 g n2 q ht =>
        obtain ⟨c1, c2⟩ := (Bool.and_eq_true _ _).mp c
        obtain ⟨c2, c3⟩ := (Bool.and_eq_true _ _).mp c2
        have ea := Nat.eq_of_beq_eq_true c1
        have en := Nat.eq_of_beq_eq_true c2
        subst ea en
        have hl := zxL_at hP ho ht
        obtain ⟨p, sg, u⟩ := q
        match g, c3, hl with
        | 0, _, hl =>
          obtain ⟨l, h1, h2, -⟩ := hl
          unfold zln
          rw [h1]
          exact congrArg some h2
        | 1, _, hl =>
          obtain ⟨l, h1, h2, -⟩ := hl
          unfold zln
          rw [h1]
          exact congrArg some h2
        | 2, _, hl =>
          obtain ⟨l, h1, h2⟩ := hl
          unfold zln
          rw [h1]
          exact congrArg some h2
        | 4, _, hl =>
          obtain ⟨l, h1, h2, -⟩ := hl
          unfold zln
          rw [h1]
          exact congrArg some h2
        | 3, c3, _ => cases c3
        | _ + 5, c3, _ => cases c3
      · cases c
    · cases c
/-- the two texts, by signs -/
theorem zTX_of {m : Int} {w : Nat} {ph : pm_H} (hP : xH xX kK m w ph) (h : xtie ph) : ∃ (ln : Nat) (t : Nat → Nat), zTc ph ln t ∧ zc ph 170 14 = some (.int (zn ln)) ∧ ln ≤ 80 ∧ ∀ i, i < ln → zc ph 176 i = some (.int (zn (t i))) ∧ t i < 256 := by
  obtain ⟨T, h1, h2, h3⟩ := h
  obtain ⟨x, g1, g2, g3⟩ := xM_fi (k := 14) hP rfl
  have e := xget_int h2 g1
  subst e
  have g2 : (0 : Int) ≤ T.toInt := g2
  have g3 : T.toInt ≤ 80 := g3
  have eT : T = zn T.toInt.toNat := zn_of (by omega)
  obtain ⟨t, ht⟩ : ∃ t : Nat → Nat, ∀ i, i < T.toInt.toNat → xget ph 176 i = some (.int (zn (t i))) ∧ t i < 256 := ⟨fun i => match xget ph 176 i with
    | some (.int x) => x.toInt.toNat
    | _ => 0, fun i hi => by
    obtain ⟨x, hx, hb⟩ := xA_el (A := 176) (k := i) hP rfl rfl (by omega)
    rw [Nat.mod_one] at hb
    have hb : (0 : Int) ≤ x.toInt ∧ x.toInt ≤ 255 := hb
    show xget ph 176 i = some (.int (zn (match xget ph 176 i with
      | some (.int x) => x.toInt.toNat
      | _ => 0))) ∧ (match xget ph 176 i with
      | some (.int x) => x.toInt.toNat
      | _ => 0) < 256
    rw [hx]
    have ex : x = zn x.toInt.toNat := zn_of (by omega)
    exact ⟨congrArg (fun y => some (Value.int y)) ex, by show x.toInt.toNat < 256; omega⟩⟩
  refine ⟨T.toInt.toNat, t, ⟨zc_xget ?_, by omega, fun i hi => ⟨zc_xget ((h3 i (by omega)).trans (ht i hi).1), (ht i hi).2⟩⟩, zc_xget ?_, by omega, fun i hi => ⟨zc_xget (ht i hi).1, (ht i hi).2⟩⟩
  · rw [← eT]; exact h1
  · rw [← eT]; exact h2
/-- the RULE that is held and the one beside it -/
theorem zRef2 {m : Int} {w k : Nat} {ph : pm_H} (hP : xH xX kK m w ph) (hk : k = 1 ∨ k = 2) : ∃ F, zc ph 10 k = some (.ref F) ∧ (F = 11 ∨ F = 16) := by
  obtain ⟨i, ho, ci, fts, ht, hf⟩ : ∃ i, xown 10 = some i ∧ ∃ ci fts, xkt i = some (some 10, .inr (ci, fts)) ∧ fts[k]? = some (.inr (some 200)) := by
    refine ⟨_, rfl, _, _, rfl, ?_⟩
    rcases hk with e | e <;> subst e <;> rfl
  obtain ⟨fl, hat, hfl⟩ := zxO_at hP ho ht
  obtain ⟨v, hv, a, j, e, hoa, hi⟩ := hfl k _ hf
  subst e
  refine ⟨a, by unfold zc; rw [hat]; exact hv, ?_⟩
  obtain ⟨s, t, h1, h2, -⟩ := hP a j hoa
  have hi : j ∈ [77, 82] := hi
  have h1 : xkt j = some (s, t) := h1
  rcases List.mem_cons.mp hi with e | e
  · subst e
    obtain ⟨t2, ht2⟩ : ∃ t2, xkt 77 = some (some 11, t2) := ⟨_, rfl⟩
    rw [ht2] at h1
    cases h1
    exact Or.inl (h2 11 rfl)
  · rw [List.mem_singleton] at e
    subst e
    obtain ⟨t2, ht2⟩ : ∃ t2, xkt 82 = some (some 16, t2) := ⟨_, rfl⟩
    rw [ht2] at h1
    cases h1
    exact Or.inr (h2 16 rfl)
theorem zI_of {x : Int32} (h : 0 ≤ x.toInt ∧ x.toInt ≤ 1) : x = zI (decide (x.toInt = 1)) := by
  refine Int32.toInt_inj.mp ?_
  by_cases e : x.toInt = 1
  · rw [decide_eq_true e, e]; rfl
  · rw [decide_eq_false e, show x.toInt = 0 by omega]; rfl
theorem zFb_of {m : Int} {w A i n p u : Nat} {sg : List (Nat × xe)} {ph : pm_H} (hP : xH xX kK m w ph) (ho : xown A = some i) (ht : xkt i = some (some A, .inl (1, n, p, sg, u))) : ∃ cm : Nat → Bool, ∀ k, k < n → zc ph A k = some (.int (zI (cm k))) := by
  obtain ⟨l, hat, hn, hl⟩ := zxL_at hP ho ht
  refine ⟨fun k => match zc ph A k with
    | some (.int x) => decide (x.toInt = 1)
    | _ => false, fun k hk => ?_⟩
  have hx := List.getElem?_eq_getElem (l := l) (i := k) (by omega)
  have hz : zc ph A k = some (.int (l[k]'(by omega))) := by
    unfold zc
    rw [hat]
    show (l[k]?).map Value.int = _
    rw [hx]
    rfl
  show zc ph A k = some (.int (zI (match zc ph A k with
    | some (.int x) => decide (x.toInt = 1)
    | _ => false)))
  rw [hz]
  exact congrArg (fun y => some (Value.int y)) (zI_of (hl k _ hx))
theorem zFx_of {m : Int} {w F : Nat} {ph : pm_H} (hP : xH xX kK m w ph) (hF : F = 11 ∨ F = 16) : zFp ph F ∧ ∃ cm, zFb ph F cm := by
  have hS := zSh_xH hP
  rcases hF with e | e
  · subst e
    obtain ⟨cm, h⟩ := zFb_of (A := 14) hP rfl rfl
    exact ⟨⟨zsg hS zs_11_0, zsg hS zs_11_2, zsg hS zs_11_4⟩, cm, h⟩
  · subst e
    obtain ⟨cm, h⟩ := zFb_of (A := 19) hP rfl rfl
    exact ⟨⟨zsg hS zs_16_0, zsg hS zs_16_2, zsg hS zs_16_4⟩, cm, h⟩
set_option maxRecDepth 6000 in
theorem xcs_ruleE : xCs 128 217 [] (fun a b => kI a ∧ a = b) := fun n hn ph hI => by
  obtain ⟨v1, v2, p1, p2, f01, r1, r2, ⟨⟨x, rfl⟩, y, rfl⟩, hI2⟩ := xcs_rule n hn ph hI
  have hS := zSh_xH hI.1
  obtain ⟨ln, t, hT, h14, h80, h176⟩ := zTX_of hI.1 hI.2.1.2
  obtain ⟨F, hFo, hF⟩ := zRef2 hI.1 (k := 2) (Or.inr rfl)
  obtain ⟨G, hGr, -⟩ := zRef2 hI.1 (k := 1) (Or.inl rfl)
  obtain ⟨hp, cm, hb⟩ := zFx_of hI.1 hF
  obtain ⟨f1, -, -, z, y1, Cs, ho, e1, h1⟩ := zc_rule hS hF hT hFo hGr hp hb 600 _ r1
  have f1 : zFr [F + 1, F + 2, F + 3] [(F, 1), (F, 3), (F, 5), (F, 6), (F, 7), (1, 1), (10, 1), (10, 2)] ph p1 := f1
  have hS1 : zSh p1 := zSh_F f1 (by rcases hF with e | e <;> subst e <;> decide +kernel) hS
  have h14a : zc p1 170 14 = some (.int (zn ln)) := (f1.1 170 14 (by rcases hF with e | e <;> subst e <;> decide) (by rcases hF with e | e <;> subst e <;> decide)).trans h14
  have h176a : ∀ i, i < ln → zc p1 176 i = some (.int (zn (t i))) ∧ t i < 256 := fun i hi => ⟨(f1.1 176 i (by rcases hF with e | e <;> subst e <;> decide) (by rcases hF with e | e <;> subst e <;> simp)).trans (h176 i hi).1, (h176 i hi).2⟩
  obtain ⟨-, -, -, ok, a2, cs2, z2, hru, -, e2, h2, -⟩ := zm_rule hS1 h14a h80 h176a 600 _ r2
  have e1 : some (Value.int x) = some (Value.int y1) := e1
  have e2 : some (Value.int y) = some (Value.int z2) := e2
  cases e1
  cases e2
  have e8 : x = y := Int32.toInt_inj.mp (by
    rcases zrule_join hru ho with ⟨j1, j2, -⟩ | ⟨j1, -, j2⟩
    · rcases h1 with ⟨q1, q2, -⟩ | ⟨q1, -⟩
      · rw [q2, h2, j2]
      · omega
    · rcases h1 with ⟨q1, -⟩ | ⟨-, q2, -⟩
      · omega
      · rw [q2, h2, j2])
  subst e8
  exact ⟨_, _, p1, p2, f01, r1, r2, ⟨⟨x, rfl⟩, rfl⟩, hI2⟩
