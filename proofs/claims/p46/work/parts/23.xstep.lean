/-! X: blocks: the stack, locals, branches -/
theorem xvI {X : xD} {m : Int} {σ : Nat → Int} {n : Nat} {x : Int32} {q : xi} (h : xiG σ n x.toInt q) : xvG X m σ n (.int x) (.inl q) := ⟨x, rfl, h⟩
theorem xvJ {X : xD} {m : Int} {σ : Nat → Int} {n : Nat} {x : Int64} {q : xi} (h : xiG σ n x.toInt q) : xvG X m σ n (.long x) (.inr (.inl q)) := ⟨x, rfl, h⟩
theorem xvR {X : xD} {m : Int} {σ : Nat → Int} {n a i u : Nat} (h1 : X.1 a = some i) (h2 : i ∈ X.2.2 u) : xvG X m σ n (.ref a) (.inr (.inr (.inl u))) := ⟨a, i, rfl, h1, h2⟩
theorem xvO {X : xD} {m : Int} {σ : Nat → Int} {n k : Nat} {x : Int32} (h : 0 ≤ x.toInt ∧ x.toInt + k ≤ m) : xvG X m σ n (.int x) (.inr (.inr (.inr (.inl k)))) := ⟨x, rfl, h⟩
theorem zs1 (v : Int) : Int.sub v 1 = v - 1 := rfl
theorem za1 (v : Int) : Int.add v 1 = v + 1 := rfl
section XST
variable {X : xD} {K KC : pm_K} {E : pm_H → Prop} {d mj pc aux : Nat} {ins : Instr} {L L' : List (Option Value)} {st st' : List Value} {ph ph' : pm_H} {c s : Nat} {g : xb}
theorem xs0 (hc : pm_code K mj pc = some (0, ins, aux)) (h : pm_alu ins st = some st') : pm_step K false mj (pc, L, st, ph, c, s) = some (.inl (pc + 1, L, st', ph, c, s)) := by
  unfold pm_step
  simp only [hc, h]
theorem xs1 {v : Value} {n : Nat} (hc : pm_code K mj pc = some (1, ins, aux)) (h : pm_push K (pm_own K mj) ins = some (v, n)) : pm_step K false mj (pc, L, st, ph, c, s) = some (.inl (pc + n, L, v :: st, ph, c, s)) := by
  unfold pm_step
  simp only [hc, h]
theorem xs2 {v : Value} {n : Nat} (hc : pm_code K mj pc = some (2, ins, aux)) (h : pm_load ins L = some (v, n)) : pm_step K false mj (pc, L, st, ph, c, s) = some (.inl (pc + n, L, v :: st, ph, c, s)) := by
  unfold pm_step
  simp only [hc, h]
theorem xs3 {n : Nat} (hc : pm_code K mj pc = some (3, ins, aux)) (h : pm_store ins L st = some (L', st', n)) : pm_step K false mj (pc, L, st, ph, c, s) = some (.inl (pc + n, L', st', ph, c, s)) := by
  unfold pm_step
  simp only [hc, h]
theorem xs4 {pc' : Nat} (hc : pm_code K mj pc = some (4, ins, aux)) (h : pm_br ins aux pc st = some (pc', st')) : pm_step K false mj (pc, L, st, ph, c, s) = some (.inl (pc', L, st', ph, c, s)) := by
  unfold pm_step
  simp only [hc, h]
theorem xs5 {n : Nat} (hc : pm_code K mj pc = some (5, ins, aux)) (h : pm_mem K false (pm_own K mj) ins st ph = some (n, st', ph', 0, 0)) : pm_step K false mj (pc, L, st, ph, c, s) = some (.inl (pc + n, L, st', ph', c, s)) := by
  unfold pm_step
  simp only [hc, h, Nat.add_zero]
def xalu (f : Nat → List xv → Option (List xv)) (g : xb) : xb := fun k ρ S => match S with
  | (n, A, sa, fs, w, F) => match f n sa with
    | some sb => g k ρ (n + 3, A, sb, fs, w, F)
    | none => false
theorem xalu_ok {f : Nat → List xv → Option (List xv)} (hc : pm_code K mj pc = some (0, ins, aux)) (hf : xaok X ins f) (hg : xok X K KC E d mj (pc + 1) g) : xok X K KC E d mj pc (xalu f g) := by
  intro D hD m hm n0 σ0 Fc cs ss k ρ G Q hB hk hρ S h σ L st ph hS
  obtain ⟨n, A, sa, fs, w, F⟩ := S
  unfold xalu at h
  simp only at h
  split at h
  · next sb hb =>
    obtain ⟨g1, g2, g3, g4, g5, g6, g7, g8, g9⟩ := hS
    have hn : 0 < n := Nat.lt_of_lt_of_le g3.1 g1
    have h0 : σ 0 = 0 := by rw [g2 0 g3.1]; exact g3.2.1
    obtain ⟨sv', σ', a1, a2, a3⟩ := hf m n σ st sa sb hm hb hn h0 g5
    refine hB.1 _ _ _ _ _ _ _ _ (xs0 hc a1) (hg D hD m hm n0 σ0 Fc cs ss k ρ G Q hB hk hρ _ h σ' L sv' ph ?_)
    exact ⟨by omega, fun t ht => by rw [a2 t (by omega)]; exact g2 t ht, g3, xlG_up a2 (by omega) g4, a3, xfG_up a2 (by omega) g6, g7, xFG_up a2 (by omega) g8, g9⟩
  · cases h
def xpush (v : xv) (g : xb) : xb := fun k ρ S => match S with
  | (n, A, sa, fs, w, F) => g k ρ (n, A, v :: sa, fs, w, F)
/-- what stands for a fixed value -/
def xcst (X : xD) (cv : Value) (v : xv) : Prop := ∀ (m : Int) (n : Nat) (σ : Nat → Int), 0 < n → σ 0 = 0 → xvG X m σ n cv v
theorem xpushG {v : xv} {cv : Value} {pc' : Nat} (hs : ∀ (L : List (Option Value)) (st : List Value) (ph : pm_H) (c s : Nat), pm_step K false mj (pc, L, st, ph, c, s) = some (.inl (pc', L, cv :: st, ph, c, s))) (hv : xcst X cv v) (hg : xok X K KC E d mj pc' g) : xok X K KC E d mj pc (xpush v g) := by
  intro D hD m hm n0 σ0 Fc cs ss k ρ G Q hB hk hρ S h σ L st ph hS
  obtain ⟨n, A, sa, fs, w, F⟩ := S
  obtain ⟨g1, g2, g3, g4, g5, g6, g7, g8, g9⟩ := hS
  have hn : 0 < n := Nat.lt_of_lt_of_le g3.1 g1
  have h0 : σ 0 = 0 := by rw [g2 0 g3.1]; exact g3.2.1
  refine hB.1 _ _ _ _ _ _ _ _ (hs L st ph cs ss) (hg D hD m hm n0 σ0 Fc cs ss k ρ G Q hB hk hρ _ h σ L _ ph ?_)
  exact ⟨g1, g2, g3, g4, ⟨hv m n σ hn h0, g5⟩, g6, g7, g8, g9⟩
theorem xpush0_ok {v : xv} {cv : Value} (hc : pm_code K mj pc = some (0, ins, aux)) (hi : ∀ r, pm_alu ins r = some (cv :: r)) (hv : xcst X cv v) (hg : xok X K KC E d mj (pc + 1) g) : xok X K KC E d mj pc (xpush v g) := xpushG (fun L st ph c s => xs0 hc (hi st)) hv hg
theorem xpush1_ok {v : xv} {cv : Value} (n : Nat) (hc : pm_code K mj pc = some (1, ins, aux)) (hi : pm_push K (pm_own K mj) ins = some (cv, n)) (hv : xcst X cv v) (hg : xok X K KC E d mj (pc + n) g) : xok X K KC E d mj pc (xpush v g) := xpushG (fun L st ph c s => xs1 hc hi) hv hg
def xci (k : Int) : xv := .inl (0, k, k, k)
def xcl (k : Int) : xv := .inr (.inl (0, k, k, k))
theorem xci_ok {c : Int32} {k : Int} (h : c.toInt = k) : xcst X (.int c) (xci k) := fun m n σ hn h0 => ⟨c, rfl, hn, by show c.toInt = σ 0 + k; omega, by show k ≤ _; omega, by show _ ≤ k; omega⟩
theorem xcl_ok {c : Int64} {k : Int} (h : c.toInt = k) : xcst X (.long c) (xcl k) := fun m n σ hn h0 => ⟨c, rfl, hn, by show c.toInt = σ 0 + k; omega, by show k ≤ _; omega, by show _ ≤ k; omega⟩
theorem xcr_ok {a i u : Nat} (h1 : X.1 a = some i) (h2 : i ∈ X.2.2 u) : xcst X (.ref a) (.inr (.inr (.inl u))) := fun m n σ hn h0 => ⟨a, i, rfl, h1, h2⟩
/-! locals -/
theorem xlG_nth {m : Int} {σ : Nat → Int} {n : Nat} : ∀ {L : List (Option Value)} {A : List (Option xv)} {i : Nat} {q : xv}, xlG X m σ n L A → fo_nth A i = some (some q) → ∃ v, L[i]? = some (some v) ∧ xvG X m σ n v q := by
  intro L
  induction L with
  | nil =>
    intro A i q g h
    cases A with
    | nil => rw [fo_nth_eq] at h; cases h
    | cons _ _ => exact g.elim
  | cons o L ih =>
    intro A i q g h
    cases A with
    | nil => exact g.elim
    | cons a A =>
      cases i with
      | zero =>
        rw [fo_nth_eq] at h
        have : a = some q := Option.some.inj h
        subst this
        obtain ⟨v, e, gv⟩ := g.1
        exact ⟨v, by rw [e]; rfl, gv⟩
      | succ i =>
        have h2 : fo_nth A i = some (some q) := by rw [fo_nth_eq] at h ⊢; exact h
        exact ih g.2 h2
theorem xlG_len {m : Int} {σ : Nat → Int} {n : Nat} : ∀ {L : List (Option Value)} {A : List (Option xv)}, xlG X m σ n L A → L.length = A.length := by
  intro L
  induction L with
  | nil => intro A g; cases A with | nil => rfl | cons _ _ => exact g.elim
  | cons o L ih =>
    intro A g
    cases A with
    | nil => exact g.elim
    | cons a A => rw [List.length_cons, List.length_cons, ih g.2]
noncomputable def xil (i : Nat) (g : xb) : xb := fun k ρ S => match S with
  | (n, A, sa, fs, w, F) => match fo_nth A i with
    | some (some (.inl q)) => g k ρ (n, A, .inl q :: sa, fs, w, F)
    | some (some (.inr (.inr (.inr (.inl q))))) => g k ρ (n, A, .inr (.inr (.inr (.inl q))) :: sa, fs, w, F)
    | _ => false
theorem xil_ok {i : Nat} (l : Nat) (hc : pm_code K mj pc = some (2, ins, aux)) (hv : ∀ L x, L[i]? = some (some (.int x)) → pm_load ins L = some (.int x, l)) (hg : xok X K KC E d mj (pc + l) g) : xok X K KC E d mj pc (xil i g) := by
  intro D hD m hm n0 σ0 Fc cs ss k ρ G Q hB hk hρ S h σ L st ph hS
  obtain ⟨n, A, sa, fs, w, F⟩ := S
  obtain ⟨g1, g2, g3, g4, g5, g6, g7, g8, g9⟩ := hS
  unfold xil at h
  simp only at h
  split at h
  · next q hq =>
    obtain ⟨v, e, gv⟩ := xlG_nth g4 hq
    obtain ⟨x, rfl, gx⟩ := gv
    exact hB.1 _ _ _ _ _ _ _ _ (xs2 hc (hv L x e)) (hg D hD m hm n0 σ0 Fc cs ss k ρ G Q hB hk hρ _ h σ L _ ph ⟨g1, g2, g3, g4, ⟨⟨x, rfl, gx⟩, g5⟩, g6, g7, g8, g9⟩)
  · next q hq =>
    obtain ⟨v, e, gv⟩ := xlG_nth g4 hq
    obtain ⟨x, rfl, gx⟩ := gv
    exact hB.1 _ _ _ _ _ _ _ _ (xs2 hc (hv L x e)) (hg D hD m hm n0 σ0 Fc cs ss k ρ G Q hB hk hρ _ h σ L _ ph ⟨g1, g2, g3, g4, ⟨⟨x, rfl, gx⟩, g5⟩, g6, g7, g8, g9⟩)
  · cases h
noncomputable def xll (i : Nat) (g : xb) : xb := fun k ρ S => match S with
  | (n, A, sa, fs, w, F) => match fo_nth A i with
    | some (some (.inr (.inl q))) => g k ρ (n, A, .inr (.inl q) :: sa, fs, w, F)
    | _ => false
theorem xll_ok {i : Nat} (l : Nat) (hc : pm_code K mj pc = some (2, ins, aux)) (hv : ∀ L x, L[i]? = some (some (.long x)) → pm_load ins L = some (.long x, l)) (hg : xok X K KC E d mj (pc + l) g) : xok X K KC E d mj pc (xll i g) := by
  intro D hD m hm n0 σ0 Fc cs ss k ρ G Q hB hk hρ S h σ L st ph hS
  obtain ⟨n, A, sa, fs, w, F⟩ := S
  obtain ⟨g1, g2, g3, g4, g5, g6, g7, g8, g9⟩ := hS
  unfold xll at h
  simp only at h
  split at h
  · next q hq =>
    obtain ⟨v, e, gv⟩ := xlG_nth g4 hq
    obtain ⟨x, rfl, gx⟩ := gv
    exact hB.1 _ _ _ _ _ _ _ _ (xs2 hc (hv L x e)) (hg D hD m hm n0 σ0 Fc cs ss k ρ G Q hB hk hρ _ h σ L _ ph ⟨g1, g2, g3, g4, ⟨⟨x, rfl, gx⟩, g5⟩, g6, g7, g8, g9⟩)
  · cases h
noncomputable def xal (i : Nat) (g : xb) : xb := fun k ρ S => match S with
  | (n, A, sa, fs, w, F) => match fo_nth A i with
    | some (some (.inr (.inr (.inl u)))) => g k ρ (n, A, .inr (.inr (.inl u)) :: sa, fs, w, F)
    | _ => false
theorem xal_ok {i : Nat} (l : Nat) (hc : pm_code K mj pc = some (2, ins, aux)) (hv : ∀ L x, L[i]? = some (some (.ref x)) → pm_load ins L = some (.ref x, l)) (hg : xok X K KC E d mj (pc + l) g) : xok X K KC E d mj pc (xal i g) := by
  intro D hD m hm n0 σ0 Fc cs ss k ρ G Q hB hk hρ S h σ L st ph hS
  obtain ⟨n, A, sa, fs, w, F⟩ := S
  obtain ⟨g1, g2, g3, g4, g5, g6, g7, g8, g9⟩ := hS
  unfold xal at h
  simp only at h
  split at h
  · next q hq =>
    obtain ⟨v, e, gv⟩ := xlG_nth g4 hq
    obtain ⟨x, i2, rfl, gx⟩ := gv
    exact hB.1 _ _ _ _ _ _ _ _ (xs2 hc (hv L x e)) (hg D hD m hm n0 σ0 Fc cs ss k ρ G Q hB hk hρ _ h σ L _ ph ⟨g1, g2, g3, g4, ⟨⟨x, i2, rfl, gx⟩, g5⟩, g6, g7, g8, g9⟩)
  · cases h
def xclr (a : Option xv) : Option xv := match a with
  | some (.inr (.inl _)) => none
  | o => o
noncomputable def xfix (a : Option xv) (n : Nat) : Option xv := Nat.rec (motive := fun _ => Option xv) (xclr a) (fun _ _ => a) n
noncomputable def xset (v : xv) (A : List (Option xv)) : Nat → List (Option xv) := List.rec (motive := fun _ => Nat → List (Option xv)) (fun _ => []) (fun a t ih i => Nat.rec (motive := fun _ => List (Option xv)) (some v :: t) (fun n _ => xfix a n :: ih n) i) A
theorem xclr_ok {m : Int} {σ : Nat → Int} {n : Nat} {o : Option Value} {a : Option xv} (g : xoL X m σ n o a) : xoL X m σ n (fo_clr o) (xclr a) := by
  match a, g with
  | none, g => trivial
  | some (.inl q), ⟨v, e, x, e2, gx⟩ => subst e e2; exact ⟨_, rfl, x, rfl, gx⟩
  | some (.inr (.inl q)), ⟨v, e, x, e2, gx⟩ => trivial
  | some (.inr (.inr (.inl u))), ⟨v, e, x, i, e2, gx⟩ => subst e e2; exact ⟨_, rfl, x, i, rfl, gx⟩
  | some (.inr (.inr (.inr (.inl k)))), ⟨v, e, x, e2, gx⟩ => subst e e2; exact ⟨_, rfl, x, rfl, gx⟩
  | some (.inr (.inr (.inr (.inr p)))), ⟨v, e, x, y, e2, gx⟩ => subst e e2; exact ⟨_, rfl, x, y, rfl, gx⟩
theorem xset_ok {m : Int} {σ : Nat → Int} {n : Nat} {v : Value} {q : xv} (gv : xvG X m σ n v q) : ∀ {L : List (Option Value)} {A : List (Option xv)} {i : Nat}, xlG X m σ n L A → xlG X m σ n (pm_set L i v) (xset q A i) := by
  intro L A i g
  rw [← fo_lset_eq]
  revert A i
  induction L with
  | nil =>
    intro A i g
    cases A with
    | nil => exact trivial
    | cons _ _ => exact g.elim
  | cons o L ih =>
    intro A i g
    cases A with
    | nil => exact g.elim
    | cons a A =>
      cases i with
      | zero => exact ⟨⟨v, rfl, gv⟩, g.2⟩
      | succ i =>
        refine ⟨?_, ih g.2⟩
        cases i with
        | zero => exact xclr_ok g.1
        | succ j => exact g.1
theorem xsetn_ok {m : Int} {σ : Nat → Int} {n : Nat} : ∀ {L : List (Option Value)} {A : List (Option xv)} {i : Nat}, xlG X m σ n L A → xlG X m σ n (L.set i none) (fo_upd none A i) := by
  intro L
  induction L with
  | nil =>
    intro A i g
    cases A with
    | nil => exact trivial
    | cons _ _ => exact g.elim
  | cons o L ih =>
    intro A i g
    cases A with
    | nil => exact g.elim
    | cons a A =>
      cases i with
      | zero => exact ⟨trivial, g.2⟩
      | succ i => exact ⟨g.1, ih g.2⟩
noncomputable def xhas (A : List (Option xv)) (i : Nat) : Bool := match fo_nth A i with
  | some _ => true
  | none => false
theorem xhas_lt {m : Int} {σ : Nat → Int} {n : Nat} {L : List (Option Value)} {A : List (Option xv)} {i : Nat} (g : xlG X m σ n L A) (h : xhas A i = true) : Nat.blt i L.length = true := by
  unfold xhas at h
  rw [fo_nth_eq] at h
  split at h
  · next x hx =>
    rw [xlG_len g]
    exact Nat.ble_eq_true_of_le (List.getElem?_eq_some_iff.mp hx).1
  · cases h
noncomputable def xis (i : Nat) (g : xb) : xb := fun k ρ S => match S with
  | (n, A, .inl q :: sa, fs, w, F) => bif xhas A i then g k ρ (n, xset (.inl q) A i, sa, fs, w, F) else false
  | (n, A, .inr (.inr (.inr (.inl q))) :: sa, fs, w, F) => bif xhas A i then g k ρ (n, xset (.inr (.inr (.inr (.inl q)))) A i, sa, fs, w, F) else false
  | _ => false
theorem xis_ok {i : Nat} (l : Nat) (hc : pm_code K mj pc = some (3, ins, aux)) (hv : ∀ L x r, Nat.blt i L.length = true → pm_store ins L (.int x :: r) = some (pm_set L i (.int x), r, l)) (hg : xok X K KC E d mj (pc + l) g) : xok X K KC E d mj pc (xis i g) := by
  intro D hD m hm n0 σ0 Fc cs ss k ρ G Q hB hk hρ S h σ L st ph hS
  unfold xis at h
  split at h
  · next n A q sa fs w F =>
    obtain ⟨g1, g2, g3, g4, g5, g6, g7, g8, g9⟩ := hS
    obtain ⟨h1, h⟩ := x_and h
    match st, g5 with
    | v :: r, ⟨⟨x, e, gx⟩, g5⟩ =>
      subst e
      exact hB.1 _ _ _ _ _ _ _ _ (xs3 hc (hv L x r (xhas_lt g4 h1))) (hg D hD m hm n0 σ0 Fc cs ss k ρ G Q hB hk hρ _ h σ _ _ ph ⟨g1, g2, g3, xset_ok (xvI gx) g4, g5, g6, g7, g8, g9⟩)
  · next n A q sa fs w F =>
    obtain ⟨g1, g2, g3, g4, g5, g6, g7, g8, g9⟩ := hS
    obtain ⟨h1, h⟩ := x_and h
    match st, g5 with
    | v :: r, ⟨⟨x, e, gx⟩, g5⟩ =>
      subst e
      exact hB.1 _ _ _ _ _ _ _ _ (xs3 hc (hv L x r (xhas_lt g4 h1))) (hg D hD m hm n0 σ0 Fc cs ss k ρ G Q hB hk hρ _ h σ _ _ ph ⟨g1, g2, g3, xset_ok (xvO gx) g4, g5, g6, g7, g8, g9⟩)
  · cases h
noncomputable def xas (i : Nat) (g : xb) : xb := fun k ρ S => match S with
  | (n, A, .inr (.inr (.inl u)) :: sa, fs, w, F) => bif xhas A i then g k ρ (n, xset (.inr (.inr (.inl u))) A i, sa, fs, w, F) else false
  | _ => false
theorem xas_ok {i : Nat} (l : Nat) (hc : pm_code K mj pc = some (3, ins, aux)) (hv : ∀ L x r, Nat.blt i L.length = true → pm_store ins L (.ref x :: r) = some (pm_set L i (.ref x), r, l)) (hg : xok X K KC E d mj (pc + l) g) : xok X K KC E d mj pc (xas i g) := by
  intro D hD m hm n0 σ0 Fc cs ss k ρ G Q hB hk hρ S h σ L st ph hS
  unfold xas at h
  split at h
  · next n A q sa fs w F =>
    obtain ⟨g1, g2, g3, g4, g5, g6, g7, g8, g9⟩ := hS
    obtain ⟨h1, h⟩ := x_and h
    match st, g5 with
    | v :: r, ⟨⟨x, i2, e, gx⟩, g5⟩ =>
      subst e
      exact hB.1 _ _ _ _ _ _ _ _ (xs3 hc (hv L x r (xhas_lt g4 h1))) (hg D hD m hm n0 σ0 Fc cs ss k ρ G Q hB hk hρ _ h σ _ _ ph ⟨g1, g2, g3, xset_ok (xvR gx.1 gx.2) g4, g5, g6, g7, g8, g9⟩)
  · cases h
noncomputable def xls (i : Nat) (g : xb) : xb := fun k ρ S => match S with
  | (n, A, .inr (.inl q) :: sa, fs, w, F) => bif xhas A (i + 1) then g k ρ (n, fo_upd none (xset (.inr (.inl q)) A i) (i + 1), sa, fs, w, F) else false
  | _ => false
theorem xls_ok {i : Nat} (l : Nat) (hc : pm_code K mj pc = some (3, ins, aux)) (hv : ∀ L x r, Nat.blt (i + 1) L.length = true → pm_store ins L (.long x :: r) = some ((pm_set L i (.long x)).set (i + 1) none, r, l)) (hg : xok X K KC E d mj (pc + l) g) : xok X K KC E d mj pc (xls i g) := by
  intro D hD m hm n0 σ0 Fc cs ss k ρ G Q hB hk hρ S h σ L st ph hS
  unfold xls at h
  split at h
  · next n A q sa fs w F =>
    obtain ⟨g1, g2, g3, g4, g5, g6, g7, g8, g9⟩ := hS
    obtain ⟨h1, h⟩ := x_and h
    match st, g5 with
    | v :: r, ⟨⟨x, e, gx⟩, g5⟩ =>
      subst e
      exact hB.1 _ _ _ _ _ _ _ _ (xs3 hc (hv L x r (xhas_lt g4 h1))) (hg D hD m hm n0 σ0 Fc cs ss k ρ G Q hB hk hρ _ h σ _ _ ph ⟨g1, g2, g3, xsetn_ok (xset_ok (xvJ gx) g4), g5, g6, g7, g8, g9⟩)
  · cases h
noncomputable def xinc (i : Nat) (z : Int) (g : xb) : xb := fun k ρ S => match S with
  | (n, A, sa, fs, w, F) => match fo_nth A i with
    | some (some (.inl q)) => (match xo_add n q (0, z, z, z) with
      | some r => g k ρ (n + 1, xset (.inl r) A i, sa, fs, w, F)
      | none => false)
    | _ => false
theorem xinc_ok {i : Nat} {z : Int} (hc : pm_code K mj pc = some (3, .iinc i z, aux)) (hz : (Int32.ofInt z).toInt = z) (hg : xok X K KC E d mj (pc + 3) g) : xok X K KC E d mj pc (xinc i z g) := by
  intro D hD m hm n0 σ0 Fc cs ss k ρ G Q hB hk hρ S h σ L st ph hS
  obtain ⟨n, A, sa, fs, w, F⟩ := S
  obtain ⟨g1, g2, g3, g4, g5, g6, g7, g8, g9⟩ := hS
  have hn : 0 < n := Nat.lt_of_lt_of_le g3.1 g1
  have h0 : σ 0 = 0 := by rw [g2 0 g3.1]; exact g3.2.1
  unfold xinc at h
  simp only at h
  split at h
  · next q hq =>
    split at h
    · next r hr =>
      obtain ⟨v, e, gv⟩ := xlG_nth g4 hq
      obtain ⟨x, rfl, gx⟩ := gv
      obtain ⟨-, e9, ge⟩ := xo_add_ok n σ x (Int32.ofInt z) q (0, z, z, z) r hr gx ⟨hn, by show _ = σ 0 + z; omega, by show z ≤ _; omega, by show _ ≤ z; omega⟩ hn h0
      have u : ∀ t, t < n → xup σ n e9 t = σ t := fun t ht => xup_lt ht
      have hlt : Nat.blt i L.length = true := Nat.ble_eq_true_of_le (List.getElem?_eq_some_iff.mp e).1
      have hst : pm_store (.iinc i z) L st = some (pm_set L i (.int (x + Int32.ofInt z)), st, 3) := by
        unfold pm_store
        simp only [e, hlt, cond_true]
      exact hB.1 _ _ _ _ _ _ _ _ (xs3 hc hst) (hg D hD m hm n0 σ0 Fc cs ss k ρ G Q hB hk hρ _ h (xup σ n e9) _ _ ph ⟨by omega, fun t ht => by rw [u t (by omega)]; exact g2 t ht, g3, xset_ok (xvI ge) (xlG_up u (by omega) g4), xsG_up u (by omega) g5, xfG_up u (by omega) g6, g7, xFG_up u (by omega) g8, g9⟩)
    · cases h
  · cases h
def xj (t : Nat) : xb := fun k _ S => k t S
theorem xj_ok : xok X K KC E d mj pc (xj pc) := fun D hD m hm n0 σ0 Fc cs ss k ρ G Q hB hk hρ S h σ L st ph hS => hk _ _ h σ L st ph hS
theorem xgoto_ok {o : Int} (hc : pm_code K mj pc = some (4, .goto o, aux)) : xok X K KC E d mj pc (xj aux) := fun D hD m hm n0 σ0 Fc cs ss k ρ G Q hB hk hρ S h σ L st ph hS => hB.1 _ _ _ _ _ _ _ _ (xs4 hc rfl) (hk _ _ h σ L st ph hS)
/-! what is known of a number more -/
def xrf (t : Nat) (c l h : Int) (q : xi) : xi := match q with
  | (u, b, a, z) => bif Nat.beq u t then (u, b, zmax a (Int.add l (Int.sub b c)), zmin z (Int.add h (Int.sub b c))) else (u, b, a, z)
theorem xrf_ok {σ : Nat → Int} {n t : Nat} {c l h x : Int} {q : xi} (h1 : l ≤ σ t + c) (h2 : σ t + c ≤ h) (g : xiG σ n x q) : xiG σ n x (xrf t c l h q) := by
  obtain ⟨u, b, a, z⟩ := q
  obtain ⟨q1, q2, q3, q4⟩ := g
  simp only at q1 q2 q3 q4
  unfold xrf
  simp only
  cases hb : Nat.beq u t with
  | false => exact ⟨q1, q2, q3, q4⟩
  | true =>
    have := Nat.eq_of_beq_eq_true hb
    subst this
    exact ⟨q1, q2, zmax_le q3 (by show l + (b - c) ≤ x; omega), zmin_le q4 (by show x ≤ h + (b - c); omega)⟩
def xrv (t : Nat) (c l h : Int) (q : xv) : xv := match q with
  | .inl q => .inl (xrf t c l h q)
  | .inr (.inl q) => .inr (.inl (xrf t c l h q))
  | .inr (.inr (.inr (.inr p))) => .inr (.inr (.inr (.inr (xrf t c l h p.1, xrf t c l h p.2))))
  | o => o
theorem xrv_ok {m : Int} {σ : Nat → Int} {n t : Nat} {c l h : Int} {v : Value} {q : xv} (h1 : l ≤ σ t + c) (h2 : σ t + c ≤ h) (g : xvG X m σ n v q) : xvG X m σ n v (xrv t c l h q) := by
  match q, g with
  | .inl q, ⟨x, e, g⟩ => exact ⟨x, e, xrf_ok h1 h2 g⟩
  | .inr (.inl q), ⟨x, e, g⟩ => exact ⟨x, e, xrf_ok h1 h2 g⟩
  | .inr (.inr (.inl u)), g => exact g
  | .inr (.inr (.inr (.inl k))), g => exact g
  | .inr (.inr (.inr (.inr p))), ⟨x, y, e, g1, g2⟩ => exact ⟨x, y, e, xrf_ok h1 h2 g1, xrf_ok h1 h2 g2⟩
def xro (t : Nat) (c l h : Int) (q : Option xv) : Option xv := match q with
  | some q => some (xrv t c l h q)
  | none => none
noncomputable def xrL (t : Nat) (c l h : Int) (A : List (Option xv)) : List (Option xv) := List.rec (motive := fun _ => List (Option xv)) [] (fun a _ ih => xro t c l h a :: ih) A
noncomputable def xrs (t : Nat) (c l h : Int) (A : List xv) : List xv := List.rec (motive := fun _ => List xv) [] (fun a _ ih => xrv t c l h a :: ih) A
noncomputable def xrP (t : Nat) (c l h : Int) (A : List (Nat × xv)) : List (Nat × xv) := List.rec (motive := fun _ => List (Nat × xv)) [] (fun p _ ih => (p.1, xrv t c l h p.2) :: ih) A
theorem xrP_eq (t : Nat) (c l h : Int) (A : List (Nat × xv)) : xrP t c l h A = A.map (fun p => (p.1, xrv t c l h p.2)) := by
  induction A with
  | nil => rfl
  | cons a r ih => exact congrArg (List.cons (a.1, xrv t c l h a.2)) ih
noncomputable def xrS (t : Nat) (c l h : Int) (S : xS) : xS := match S with
  | (n, A, sa, fs, w, F) => (n, xrL t c l h A, xrs t c l h sa, xrP t c l h fs, w, F.map (fun p => (xrL t c l h p.1, xrs t c l h p.2)))
theorem xrL_ok {m : Int} {σ : Nat → Int} {n t : Nat} {c l h : Int} (h1 : l ≤ σ t + c) (h2 : σ t + c ≤ h) : ∀ {L : List (Option Value)} {A : List (Option xv)}, xlG X m σ n L A → xlG X m σ n L (xrL t c l h A) := by
  intro L
  induction L with
  | nil => intro A g; cases A with | nil => exact (show xlG X m σ n [] [] from trivial) | cons _ _ => exact g.elim
  | cons o L ih =>
    intro A g
    cases A with
    | nil => exact g.elim
    | cons a A =>
      show xlG X m σ n (o :: L) (xro t c l h a :: xrL t c l h A)
      refine ⟨?_, ih g.2⟩
      cases a with
      | none => trivial
      | some q => obtain ⟨v, e, gv⟩ := g.1; exact ⟨v, e, xrv_ok h1 h2 gv⟩
theorem xrs_ok {m : Int} {σ : Nat → Int} {n t : Nat} {c l h : Int} (h1 : l ≤ σ t + c) (h2 : σ t + c ≤ h) : ∀ {L : List Value} {A : List xv}, xsG X m σ n L A → xsG X m σ n L (xrs t c l h A) := by
  intro L
  induction L with
  | nil => intro A g; cases A with | nil => exact (show xsG X m σ n [] [] from trivial) | cons _ _ => exact g.elim
  | cons o L ih =>
    intro A g
    cases A with
    | nil => exact g.elim
    | cons a A => exact (show xsG X m σ n (o :: L) (xrv t c l h a :: xrs t c l h A) from ⟨xrv_ok h1 h2 g.1, ih g.2⟩)
theorem xrF_ok {m : Int} {σ : Nat → Int} {n t : Nat} {c l h : Int} (h1 : l ≤ σ t + c) (h2 : σ t + c ≤ h) : ∀ {L : xFc} {A : List xF}, xFG X m σ n L A → xFG X m σ n L (A.map (fun p => (xrL t c l h p.1, xrs t c l h p.2))) := by
  intro L
  induction L with
  | nil => intro A g; cases A with | nil => trivial | cons _ _ => exact g.elim
  | cons o L ih =>
    intro A g
    cases A with
    | nil => exact g.elim
    | cons a A => exact ⟨xrL_ok h1 h2 g.1, xrs_ok h1 h2 g.2.1, ih g.2.2⟩
theorem xrS_ok {m : Int} {n0 : Nat} {σ0 σ : Nat → Int} {t : Nat} {c l h : Int} {S : xS} {Fc : xFc} (h1 : l ≤ σ t + c) (h2 : σ t + c ≤ h) (g : xg X KC E m n0 σ0 S σ L st ph Fc) : xg X KC E m n0 σ0 (xrS t c l h S) σ L st ph Fc := by
  obtain ⟨n, A, sa, fs, w, F⟩ := S
  obtain ⟨g1, g2, g3, g4, g5, g6, g7, g8, g9⟩ := g
  refine ⟨g1, g2, g3, xrL_ok h1 h2 g4, xrs_ok h1 h2 g5, ?_, g7, xrF_ok h1 h2 g8, g9⟩
  intro k q hq
  have hq2 : ∀ z : Nat × xv, z ∈ xrP t c l h fs → z ∈ fs.map (fun p => (p.1, xrv t c l h p.2)) := fun z hz => by rw [← xrP_eq t c l h fs]; exact hz
  obtain ⟨p, hp, e⟩ := List.mem_map.mp (hq2 (k, q) hq)
  cases e
  have g9 := g6 p.1 p.2 hp
  unfold xfact at g9 ⊢
  split at g9
  · next hk =>
    rw [if_pos hk]
    obtain ⟨h0, v, h3, h4⟩ := g9
    exact ⟨h0, v, h3, xrv_ok h1 h2 h4⟩
  · next hk =>
    rw [if_neg hk]
    obtain ⟨h0, l2, x, y, p2, h3, h4, h5, h6, h7, h8⟩ := g9
    exact ⟨h0, l2, x, y, (xrf t c l h p2.1, xrf t c l h p2.2), h3, by rw [h4]; rfl, h5, h6, xrf_ok h1 h2 h7, xrf_ok h1 h2 h8⟩
/-- with closer bounds for one number -/
noncomputable def xcl1 (p : xi) (l h : Int) (S : xS) : xS := bif (bif Nat.beq p.1 0 then true else bif zle l p.2.2.1 then zle p.2.2.2 h else false) then S else xrS p.1 p.2.1 l h S
theorem xcl1_ok {m : Int} {n0 : Nat} {σ0 σ : Nat → Int} {n : Nat} {x l h : Int} {p : xi} {S : xS} {Fc : xFc} (hp : xiG σ n x p) (h1 : l ≤ x) (h2 : x ≤ h) (g : xg X KC E m n0 σ0 S σ L st ph Fc) : xg X KC E m n0 σ0 (xcl1 p l h S) σ L st ph Fc := by
  unfold xcl1
  cases (bif Nat.beq p.1 0 then true else bif zle l p.2.2.1 then zle p.2.2.2 h else false) with
  | true => exact g
  | false => exact xrS_ok (by have := hp.2.1; omega) (by have := hp.2.1; omega) g
abbrev xq : Type := Int × Int × Int × Int
/-- bounds of both of a pair -/
noncomputable def xct (p q : xi) (S : xS) (f : xS → Bool) (r : xq) : Bool := match r with
  | (l1, h1, l2, h2) => bif (bif zle l1 h1 then zle l2 h2 else false) then f (xcl1 q l2 h2 (xcl1 p l1 h1 S)) else true
/-- the pairs of bounds that a relation leaves -/
def xrel (R : Int → Int → Prop) (f : xi → xi → List xq) : Prop := ∀ (p q : xi) (x y : Int), p.2.2.1 ≤ x → x ≤ p.2.2.2 → q.2.2.1 ≤ y → y ≤ q.2.2.2 → R x y → ∃ r, r ∈ f p q ∧ r.1 ≤ x ∧ x ≤ r.2.1 ∧ r.2.2.1 ≤ y ∧ y ≤ r.2.2.2
def xr_lt (p q : xi) : List xq := [(p.2.2.1, zmin p.2.2.2 (Int.sub q.2.2.2 1), zmax q.2.2.1 (Int.add p.2.2.1 1), q.2.2.2)]
def xr_le (p q : xi) : List xq := [(p.2.2.1, zmin p.2.2.2 q.2.2.2, zmax q.2.2.1 p.2.2.1, q.2.2.2)]
def xr_gt (p q : xi) : List xq := [(zmax p.2.2.1 (Int.add q.2.2.1 1), p.2.2.2, q.2.2.1, zmin q.2.2.2 (Int.sub p.2.2.2 1))]
def xr_ge (p q : xi) : List xq := [(zmax p.2.2.1 q.2.2.1, p.2.2.2, q.2.2.1, zmin q.2.2.2 p.2.2.2)]
def xr_eq (p q : xi) : List xq := [(zmax p.2.2.1 q.2.2.1, zmin p.2.2.2 q.2.2.2, zmax p.2.2.1 q.2.2.1, zmin p.2.2.2 q.2.2.2)]
def zeq (a b : Int) : Bool := bif zle a b then zle b a else false
theorem zeq_ok {a b : Int} (h : zeq a b = true) : a = b := by
  obtain ⟨h1, h2⟩ := x_and h
  have := zle_le h1
  have := zle_le h2
  omega
def xr_ne (p q : xi) : List xq := match p, q with
  | (_, _, l, h), (_, _, a, b) => bif zeq a b then (bif (bif zeq a 0 then true else bif zeq a l then true else zeq a h) then [(l, zmin h (Int.sub a 1), a, b), (zmax l (Int.add a 1), h, a, b)] else [(l, h, a, b)])
    else bif zeq l h then (bif (bif zeq l a then true else zeq l b) then [(l, h, a, zmin b (Int.sub l 1)), (l, h, zmax a (Int.add l 1), b)] else [(l, h, a, b)])
    else [(l, h, a, b)]
theorem xr_lt_ok : xrel (fun x y => x < y) xr_lt := fun p q x y h1 h2 h3 h4 h => by
  have h : x < y := h
  exact ⟨_, List.mem_cons_self, h1, zmin_le h2 (by rw [zs1]; omega), zmax_le h3 (by rw [za1]; omega), h4⟩
theorem xr_le_ok : xrel (fun x y => x ≤ y) xr_le := fun p q x y h1 h2 h3 h4 h => by
  have h : x ≤ y := h
  exact ⟨_, List.mem_cons_self, h1, zmin_le h2 (by omega), zmax_le h3 (by omega), h4⟩
theorem xr_gt_ok : xrel (fun x y => y < x) xr_gt := fun p q x y h1 h2 h3 h4 h => by
  have h : y < x := h
  exact ⟨_, List.mem_cons_self, zmax_le h1 (by rw [za1]; omega), h2, h3, zmin_le h4 (by rw [zs1]; omega)⟩
theorem xr_ge_ok : xrel (fun x y => y ≤ x) xr_ge := fun p q x y h1 h2 h3 h4 h => by
  have h : y ≤ x := h
  exact ⟨_, List.mem_cons_self, zmax_le h1 (by omega), h2, h3, zmin_le h4 (by omega)⟩
theorem xr_eq_ok : xrel (fun x y => x = y) xr_eq := fun p q x y h1 h2 h3 h4 h => by
  have h : x = y := h
  exact ⟨_, List.mem_cons_self, zmax_le h1 (by omega), zmin_le h2 (by omega), zmax_le (by omega) h3, zmin_le (by omega) h4⟩
theorem xr_ne_ok : xrel (fun x y => x ≠ y) xr_ne := by
  intro p q x y h1 h2 h3 h4 h
  obtain ⟨t, c, l, h9⟩ := p
  obtain ⟨u, e, a, b⟩ := q
  simp only at h1 h2 h3 h4
  have z1 : ∀ v : Int, Int.sub v 1 = v - 1 := fun _ => rfl
  have z2 : ∀ v : Int, Int.add v 1 = v + 1 := fun _ => rfl
  unfold xr_ne
  simp only
  cases hab : zeq a b with
  | true =>
    have := zeq_ok hab
    simp only [cond_true]
    cases (bif zeq a 0 then true else bif zeq a l then true else zeq a h9) with
    | true =>
      simp only [cond_true]
      rcases (show x < y ∨ y < x by omega) with k | k
      · exact ⟨_, List.mem_cons_self, h1, zmin_le h2 (by rw [z1]; omega), h3, h4⟩
      · exact ⟨_, List.mem_cons_of_mem _ List.mem_cons_self, zmax_le h1 (by rw [z2]; omega), h2, h3, h4⟩
    | false => exact ⟨_, List.mem_cons_self, h1, h2, h3, h4⟩
  | false =>
    simp only [cond_false]
    cases hlh : zeq l h9 with
    | true =>
      have := zeq_ok hlh
      simp only [cond_true]
      cases (bif zeq l a then true else zeq l b) with
      | true =>
        simp only [cond_true]
        rcases (show y < x ∨ x < y by omega) with k | k
        · exact ⟨_, List.mem_cons_self, h1, h2, h3, zmin_le h4 (by rw [z1]; omega)⟩
        · exact ⟨_, List.mem_cons_of_mem _ List.mem_cons_self, h1, h2, zmax_le h3 (by rw [z2]; omega), h4⟩
      | false => exact ⟨_, List.mem_cons_self, h1, h2, h3, h4⟩
    | false => exact ⟨_, List.mem_cons_self, h1, h2, h3, h4⟩
/-- what the two arms need -/
theorem xct_use {m : Int} {n0 n : Nat} {σ0 σ : Nat → Int} {p q : xi} {x y : Int} {S : xS} {Fc : xFc} {f : xS → Bool} {R : Int → Int → Prop} {ff : xi → xi → List xq} {P : Prop} (hR : xrel R ff) (h : (ff p q).all (xct p q S f) = true) (hp : xiG σ n x p) (hq : xiG σ n y q) (hr : R x y) (hS : xg X KC E m n0 σ0 S σ L st ph Fc) (kk : ∀ S', f S' = true → xg X KC E m n0 σ0 S' σ L st ph Fc → P) : P := by
  obtain ⟨r, hr1, a1, a2, a3, a4⟩ := hR p q x y hp.2.2.1 hp.2.2.2 hq.2.2.1 hq.2.2.2 hr
  have h2 := List.all_eq_true.mp h r hr1
  obtain ⟨l1, h1, l2, h3⟩ := r
  simp only at a1 a2 a3 a4
  unfold xct at h2
  simp only at h2
  have e1 : zle l1 h1 = true := zle_iff.mpr (by omega)
  have e2 : zle l2 h3 = true := zle_iff.mpr (by omega)
  rw [e1, e2] at h2
  exact kk _ h2 (xcl1_ok hq a3 a4 (xcl1_ok hp a1 a2 hS))
noncomputable def xif2 (ft ff : xi → xi → List xq) (t : Nat) (g : xb) : xb := fun k ρ S => match S with
  | (n, A, y :: x :: sa, fs, w, F) => (match xn n x, xn (n + 1) y with
    | some p, some q => bif (ft p q).all (xct p q (n + 2, A, sa, fs, w, F) (k t)) then (ff p q).all (xct p q (n + 2, A, sa, fs, w, F) (g k ρ)) else false
    | _, _ => false)
  | _ => false
theorem xif2_ok {ft ff : xi → xi → List xq} {RT RF : Int → Int → Prop} {pb : Int32 → Int32 → Bool} (hc : pm_code K mj pc = some (4, ins, aux)) (hT : xrel RT ft) (hF : xrel RF ff) (hi : ∀ x y r, pm_br ins aux pc (.int y :: .int x :: r) = some (bif pb x y then aux else pc + 3, r)) (hb : ∀ x y : Int32, (pb x y = true → RT x.toInt y.toInt) ∧ (pb x y = false → RF x.toInt y.toInt)) (hg : xok X K KC E d mj (pc + 3) g) : xok X K KC E d mj pc (xif2 ft ff aux g) := by
  intro D hD m hm n0 σ0 Fc cs ss k ρ G Q hB hk hρ S h σ L st ph hS
  unfold xif2 at h
  split at h
  · next n A y x sa fs w F =>
    split at h
    · next p q hp hq =>
      obtain ⟨ha, hb2⟩ := x_and h
      obtain ⟨g1, g2, g3, g4, g5, g6, g7, g8, g9⟩ := hS
      match st, g5 with
      | v2 :: v1 :: r, ⟨gv2, gv1, g5⟩ =>
        obtain ⟨a, e1, rfl, ga⟩ := xn_ok hm hp gv1 (Nat.le_refl _)
        have u1 : ∀ t, t < n → xup σ n e1 t = σ t := fun t ht => xup_lt ht
        obtain ⟨b, e2, rfl, gb⟩ := xn_ok hm hq (xvG_up u1 (Nat.le_succ n) gv2) (Nat.le_refl _)
        have u2 : ∀ t, t < n + 1 → xup (xup σ n e1) (n + 1) e2 t = xup σ n e1 t := fun t ht => xup_lt ht
        have u3 : ∀ t, t < n → xup (xup σ n e1) (n + 1) e2 t = σ t := fun t ht => by rw [u2 t (by omega), u1 t ht]
        have ga2 := xiG_up u2 (Nat.le_succ (n + 1)) ga
        have hS2 : xg X KC E m n0 σ0 (n + 2, A, sa, fs, w, F) (xup (xup σ n e1) (n + 1) e2) L r ph Fc := ⟨by omega, fun t ht => by rw [u3 t (by omega)]; exact g2 t ht, g3, xlG_up u3 (by omega) g4, xsG_up u3 (by omega) g5, xfG_up u3 (by omega) g6, g7, xFG_up u3 (by omega) g8, g9⟩
        cases hpb : pb a b with
        | true =>
          refine hB.1 _ _ _ _ _ _ _ _ (xs4 hc (hi a b r)) ?_
          rw [hpb]
          exact xct_use hT ha ga2 gb ((hb a b).1 hpb) hS2 (fun S' h1 h2 => hk _ _ h1 _ _ _ _ h2)
        | false =>
          refine hB.1 _ _ _ _ _ _ _ _ (xs4 hc (hi a b r)) ?_
          rw [hpb]
          exact xct_use hF hb2 ga2 gb ((hb a b).2 hpb) hS2 (fun S' h1 h2 => hg D hD m hm n0 σ0 Fc cs ss k ρ G Q hB hk hρ _ h1 _ _ _ _ h2)
      | [], g5 => exact g5.elim
      | [_], g5 => exact g5.2.elim
    · cases h
  · cases h
noncomputable def xif1 (ft ff : xi → xi → List xq) (t : Nat) (g : xb) : xb := fun k ρ S => match S with
  | (n, A, .inr (.inr (.inr (.inr (p, q)))) :: sa, fs, w, F) => bif (ft p q).all (xct p q (n, A, sa, fs, w, F) (k t)) then (ff p q).all (xct p q (n, A, sa, fs, w, F) (g k ρ)) else false
  | (n, A, x :: sa, fs, w, F) => (match xn n x with
    | some p => bif (ft p (0, 0, 0, 0)).all (xct p (0, 0, 0, 0) (n + 1, A, sa, fs, w, F) (k t)) then (ff p (0, 0, 0, 0)).all (xct p (0, 0, 0, 0) (n + 1, A, sa, fs, w, F) (g k ρ)) else false
    | none => false)
  | _ => false
theorem xif1_ok {ft ff : xi → xi → List xq} {RT RF : Int → Int → Prop} {pb : Int32 → Bool} (hc : pm_code K mj pc = some (4, ins, aux)) (hT : xrel RT ft) (hF : xrel RF ff) (hi : ∀ x r, pm_br ins aux pc (.int x :: r) = some (bif pb x then aux else pc + 3, r)) (hb : ∀ x : Int32, (pb x = true → RT x.toInt 0) ∧ (pb x = false → RF x.toInt 0)) (hl : ∀ x y : Int64, (pb (lg_cmp x y) = true → RT x.toInt y.toInt) ∧ (pb (lg_cmp x y) = false → RF x.toInt y.toInt)) (hg : xok X K KC E d mj (pc + 3) g) : xok X K KC E d mj pc (xif1 ft ff aux g) := by
  intro D hD m hm n0 σ0 Fc cs ss k ρ G Q hB hk hρ S h σ L st ph hS
  unfold xif1 at h
  split at h
  · next n A p q sa fs w F =>
    obtain ⟨ha, hb2⟩ := x_and h
    obtain ⟨g1, g2, g3, g4, g5, g6, g7, g8, g9⟩ := hS
    match st, g5 with
    | v1 :: r, ⟨⟨a, b, e, ga, gb⟩, g5⟩ =>
      subst e
      have hS2 : xg X KC E m n0 σ0 (n, A, sa, fs, w, F) σ L r ph Fc := ⟨g1, g2, g3, g4, g5, g6, g7, g8, g9⟩
      cases hpb : pb (lg_cmp a b) with
      | true =>
        refine hB.1 _ _ _ _ _ _ _ _ (xs4 hc (hi _ r)) ?_
        rw [hpb]
        exact xct_use hT ha ga gb ((hl a b).1 hpb) hS2 (fun S' h1 h2 => hk _ _ h1 _ _ _ _ h2)
      | false =>
        refine hB.1 _ _ _ _ _ _ _ _ (xs4 hc (hi _ r)) ?_
        rw [hpb]
        exact xct_use hF hb2 ga gb ((hl a b).2 hpb) hS2 (fun S' h1 h2 => hg D hD m hm n0 σ0 Fc cs ss k ρ G Q hB hk hρ _ h1 _ _ _ _ h2)
  · next n A x sa fs w F _ =>
    split at h
    · next p hp =>
      obtain ⟨ha, hb2⟩ := x_and h
      obtain ⟨g1, g2, g3, g4, g5, g6, g7, g8, g9⟩ := hS
      have hn : 0 < n := Nat.lt_of_lt_of_le g3.1 g1
      have h0 : σ 0 = 0 := by rw [g2 0 g3.1]; exact g3.2.1
      match st, g5 with
      | v1 :: r, ⟨gv1, g5⟩ =>
        obtain ⟨a, e1, rfl, ga⟩ := xn_ok hm hp gv1 (Nat.le_refl _)
        have u1 : ∀ t, t < n → xup σ n e1 t = σ t := fun t ht => xup_lt ht
        have gb : xiG (xup σ n e1) (n + 1) 0 (0, 0, 0, 0) := ⟨by show 0 < n + 1; omega, by show (0 : Int) = xup σ n e1 0 + 0; rw [u1 0 hn, h0]; rfl, by decide, by decide⟩
        have hS2 : xg X KC E m n0 σ0 (n + 1, A, sa, fs, w, F) (xup σ n e1) L r ph Fc := ⟨by omega, fun t ht => by rw [u1 t (by omega)]; exact g2 t ht, g3, xlG_up u1 (by omega) g4, xsG_up u1 (by omega) g5, xfG_up u1 (by omega) g6, g7, xFG_up u1 (by omega) g8, g9⟩
        cases hpb : pb a with
        | true =>
          refine hB.1 _ _ _ _ _ _ _ _ (xs4 hc (hi a r)) ?_
          rw [hpb]
          exact xct_use hT ha ga gb ((hb a).1 hpb) hS2 (fun S' h1 h2 => hk _ _ h1 _ _ _ _ h2)
        | false =>
          refine hB.1 _ _ _ _ _ _ _ _ (xs4 hc (hi a r)) ?_
          rw [hpb]
          exact xct_use hF hb2 ga gb ((hb a).2 hpb) hS2 (fun S' h1 h2 => hg D hD m hm n0 σ0 Fc cs ss k ρ G Q hB hk hρ _ h1 _ _ _ _ h2)
    · cases h
  · cases h
end XST
