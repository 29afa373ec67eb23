/-! X: runs: within another one's frame; by heads of loops; contracts -/
noncomputable def xlk (T : List (Nat × xb)) (pc : Nat) : Option xb := List.rec (motive := fun _ => Option xb) none (fun q _ ih => bif Nat.beq q.1 pc then some q.2 else ih) T
theorem xlk_c {q : Nat × xb} {r : List (Nat × xb)} {pc : Nat} : xlk (q :: r) pc = bif Nat.beq q.1 pc then some q.2 else xlk r pc := rfl
theorem xlk_mem : ∀ {T : List (Nat × xb)} {pc : Nat} {b : xb}, xlk T pc = some b → (pc, b) ∈ T := by
  intro T
  induction T with
  | nil => intro pc b h; cases (show (none : Option xb) = some b from h)
  | cons q r ih =>
    intro pc b h
    rw [xlk_c] at h
    cases hb : Nat.beq q.1 pc with
    | true =>
      rw [hb] at h
      have e1 := Nat.eq_of_beq_eq_true hb
      have e2 : q.2 = b := Option.some.inj h
      subst e1 e2
      exact List.mem_cons_self
    | false => rw [hb] at h; exact List.mem_cons_of_mem _ (ih h)
abbrev xcut : Type := Nat → Option (xS → Bool)
noncomputable def xrunT (T : List (Nat × xb)) (cut : xcut) (ρ : xr) : Nat → Nat → xS → Bool
  | 0, _, _ => false
  | f + 1, pc, S => match xlk T pc with
    | some b => b (fun pc' S' => match cut pc' with
      | some h => h S'
      | none => xrunT T cut ρ f pc' S') ρ S
    | none => false
section XRU
variable {X : xD} {K KC : pm_K} {E : pm_H → Prop}
theorem xrunT_ok {d mj : Nat} {T : List (Nat × xb)} {cut : xcut} {ρ : xr} (hT : ∀ q ∈ T, xok X K KC E d mj q.1 q.2) {D : Nat} (hD : d ≤ D) {m : Int} (hm : m ≤ 2147483646) {n0 : Nat} {σ0 : Nat → Int} {Fc : xFc} {cs ss : Nat} {G : pm_S → Prop} {Q : Option Value → pm_H → Prop} (hB : xBk K (pm_Rd KC false D) mj cs ss G Q)
  (hcut : ∀ pc' h S, cut pc' = some h → h S = true → ∀ σ L st ph, xg X KC E m n0 σ0 S σ L st ph Fc → G (pc', L, st, ph, cs, ss)) (hρ : ∀ v S, ρ v S = true → ∀ σ L st ph vv, xg X KC E m n0 σ0 S σ L st ph Fc → xoG X m σ S.1 vv v → Q vv ph) :
  ∀ (f pc : Nat) (S : xS), xrunT T cut ρ f pc S = true → ∀ σ L st ph, xg X KC E m n0 σ0 S σ L st ph Fc → G (pc, L, st, ph, cs, ss) := by
  intro f
  induction f with
  | zero => intro pc S h; cases h
  | succ f ih =>
    intro pc S h σ L st ph hS
    unfold xrunT at h
    split at h
    · next b hb =>
      refine hT _ (xlk_mem hb) D hD m hm n0 σ0 Fc cs ss _ ρ G Q hB ?_ hρ S h σ L st ph hS
      intro pc' S' hk
      split at hk
      · next h9 hc9 => exact hcut pc' h9 S' hc9 hk
      · exact ih pc' S' hk
    · cases h
/-- a run of the pure machine, backwards -/
def xGT (KC : pm_K) (D j : Nat) (Q : Option Value → pm_H → Prop) (x : pm_S) : Prop := ∃ n v ph, pm_Tn KC false (pm_Rd KC false D) j n x (v, ph, 0, 0) ∧ Q v ph
theorem xGT_bk (D j : Nat) (Q : Option Value → pm_H → Prop) : xBk KC (pm_Rd KC false D) j 0 0 (xGT KC D j Q) Q := by
  refine ⟨fun pc L st ph pc' L' st' ph' hs h => ?_, fun pc0 L0 st0 ph0 j2 as pc L st ph v ph' hs hC h => ?_, fun pc L st ph v hs hQ => ?_⟩
  · obtain ⟨n, v, ph2, h1, h2⟩ := h
    exact ⟨n + 1, v, ph2, by rw [pm_Tn, hs]; exact h1, h2⟩
  · obtain ⟨n, v2, ph2, h1, h2⟩ := h
    exact ⟨n + 1, v2, ph2, by rw [pm_Tn, hs]; exact ⟨v, ph', 0, 0, hC, h1⟩, h2⟩
  · exact ⟨1, v, ph, by rw [pm_Tn, hs], hQ⟩
/-- locals at the entry -/
def xsl (vs : List xv) : List (Option xv) := match vs with
  | [] => []
  | v :: t => match v with
    | .inr (.inl q) => some (.inr (.inl q)) :: none :: xsl t
    | w => some w :: xsl t
theorem xsl_ok {m : Int} {σ : Nat → Int} {n : Nat} : ∀ {st : List Value} {sa : List xv}, xsG X m σ n st sa → xlG X m σ n (pm_sl st) (xsl sa) := by
  intro st
  induction st with
  | nil => intro sa g; cases sa with | nil => exact trivial | cons _ _ => exact g.elim
  | cons v st ih =>
    intro sa g
    cases sa with
    | nil => exact g.elim
    | cons a sa =>
      obtain ⟨gv, g⟩ := g
      match a, gv with
      | .inl q, ⟨x, e, gx⟩ => subst e; exact ⟨⟨_, rfl, x, rfl, gx⟩, ih g⟩
      | .inr (.inl q), ⟨x, e, gx⟩ => subst e; exact ⟨⟨_, rfl, x, rfl, gx⟩, trivial, ih g⟩
      | .inr (.inr (.inl u)), ⟨x, i, e, gx⟩ => subst e; exact ⟨⟨_, rfl, x, i, rfl, gx⟩, ih g⟩
      | .inr (.inr (.inr (.inl k))), ⟨x, e, gx⟩ => subst e; exact ⟨⟨_, rfl, x, rfl, gx⟩, ih g⟩
      | .inr (.inr (.inr (.inr p))), ⟨x, y, e, gx⟩ => subst e; exact ⟨⟨_, rfl, x, y, rfl, gx⟩, ih g⟩
def xpad : Nat → List (Option xv)
  | 0 => []
  | n + 1 => none :: xpad n
theorem xpad_ok {m : Int} {σ : Nat → Int} {n : Nat} : ∀ (k : Nat), xlG X m σ n (List.replicate k none) (xpad k) := by
  intro k
  induction k with
  | zero => exact trivial
  | succ k ih => rw [List.replicate_succ]; exact ⟨trivial, ih⟩
theorem xlG_app {m : Int} {σ : Nat → Int} {n : Nat} : ∀ {L M : List (Option Value)} {A B : List (Option xv)}, xlG X m σ n L A → xlG X m σ n M B → xlG X m σ n (L ++ M) (A ++ B) := by
  intro L
  induction L with
  | nil => intro M A B g h; cases A with | nil => exact h | cons _ _ => exact g.elim
  | cons o L ih =>
    intro M A B g h
    cases A with
    | nil => exact g.elim
    | cons a A => exact ⟨g.1, ih g.2 h⟩
def xent (nl : Nat) (as : List xv) : Option (List (Option xv)) := bif Nat.ble (xsl as).length nl then some (xsl as ++ xpad (nl - (xsl as).length)) else none
theorem xent_ok {m : Int} {σ : Nat → Int} {n nl j : Nat} {vs : List Value} {as : List xv} {A : List (Option xv)} {ph : pm_H} (hs : (pm_sig KC j).2.1 = nl) (h : xent nl as = some A) (g : xsG X m σ n vs as) : pm_entB KC j vs = true ∧ ∃ L, pm_ent KC j vs ph = (0, L, [], ph, 0, 0) ∧ xlG X m σ n L A := by
  unfold xent at h
  obtain ⟨h1, h2⟩ := x_bs h
  subst h2
  have g1 := xsl_ok g
  have g2 := xlG_len g1
  refine ⟨?_, _, rfl, xlG_app g1 ?_⟩
  · unfold pm_entB
    rw [hs, g2]
    exact h1
  · rw [hs, g2]
    exact xpad_ok _
/-- a method within another's frame: its own blocks, no loop but such as end by themselves -/
noncomputable def xinl (T : List (Nat × xb)) (f nl : Nat) : xc := fun as ρ S => match S with
  | (n, A, sa, fs, w, F) => match xent nl as with
    | some B => xrunT T (fun _ => none) (fun v S' => match S' with
      | (n', _, _, fs', w', (A', sa') :: F') => ρ v (n', A', sa', fs', w', F')
      | _ => false) f 0 (n, B, [], fs, w, (A, sa) :: F)
    | none => false
theorem xinl_ok {d j nl f : Nat} {T : List (Nat × xb)} (hs : (pm_sig KC j).2.1 = nl) (hT : ∀ q ∈ T, xok X KC KC E d j q.1 q.2) : xcok X KC E (d + 1) j (xinl T f nl) := by
  intro D hD m hm n0 σ0 Fc L st ρ Q hρ as S h σ ph vs hS hv
  obtain ⟨n, A, sa, fs, w, F⟩ := S
  obtain ⟨g1, g2, g3, g4, g5, g6, g7, g8, g9⟩ := hS
  unfold xinl at h
  simp only at h
  split at h
  · next B hB =>
    obtain ⟨e1, L2, e2, e3⟩ := xent_ok (ph := ph) hs hB hv
    cases D with
    | zero => omega
    | succ D =>
      have key := xrunT_ok hT (D := D) (by omega) hm (n0 := n0) (σ0 := σ0) (Fc := (L, st) :: Fc) (xGT_bk (KC := KC) D j Q) (cut := fun _ => none) (fun _ _ _ h9 => by cases h9) (ρ := fun v S' => match S' with
        | (n', _, _, fs', w', (A', sa') :: F') => ρ v (n', A', sa', fs', w', F')
        | _ => false) (fun v S' hr σ' L' st' ph' vv hS' ho => by
          split at hr
          · next n' A2 sa2 fs' w' A' sa' F' =>
            obtain ⟨f1, f2, f3, f4, f5, f6, f7, f8, f9⟩ := hS'
            exact hρ _ _ hr σ' ph' vv ⟨f1, f2, f3, f8.1, f8.2.1, f6, f7, f8.2.2, f9⟩ ho
          · cases hr) f 0 _ h σ L2 [] ph ⟨g1, g2, g3, e3, trivial, g6, g7, ⟨g4, g5, g8⟩, g9⟩
      obtain ⟨n9, v, ph2, h1, h2⟩ := key
      exact ⟨v, ph2, ⟨e1, n9, by rw [e2]; exact h1⟩, h2⟩
  · cases h
end XRU
