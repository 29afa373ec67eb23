/-! X: splits at a method's entry; stretches between heads, each with its own truth of the heap -/
section XSG
variable {X : xD} {K KC : pm_K} {E : pm_H → Prop} {d mj pc : Nat} {f : xb}
def xspr (q : xi) (S : xS) (f : xS → Bool) : List (Int × Int) → Int → Bool
  | [], v => zle (Int.add q.2.2.2 1) v
  | r :: t, v => bif (bif (bif zle v q.2.2.2 then zle q.2.2.1 r.2 else false) then f (xcl1 q v r.2 S) else true) then xspr q S f t (Int.add r.2 1) else false
noncomputable def xspb (X : xD) (key : Nat) (rs : List (Int × Int)) (f : xb) : xb := fun k ρ S => match xmt (xseed X key S) (true, key) with
  | some q => xspr q (xseed X key S) (fun S => f k ρ S) rs q.2.2.1
  | none => false
theorem xspr_ok {m : Int} {n0 : Nat} {σ0 σ : Nat → Int} {S : xS} {L : List (Option Value)} {st : List Value} {ph : pm_H} {Fc : xFc} {f : xS → Bool} {q : xi} {x : Int} {n : Nat} (g : xg X KC E m n0 σ0 S σ L st ph Fc) (gx : xiG σ n x q) : ∀ (rs : List (Int × Int)) (v : Int), xspr q S f rs v = true → v ≤ x → ∃ T, f T = true ∧ xg X KC E m n0 σ0 T σ L st ph Fc := by
  have b1 := gx.2.2.1
  have b2 := gx.2.2.2
  intro rs
  induction rs with
  | nil =>
    intro v h h1
    unfold xspr at h
    have h2 : q.2.2.2 + 1 ≤ v := zle_le h
    omega
  | cons r t ih =>
    intro v h h1
    unfold xspr at h
    obtain ⟨h3, h4⟩ := x_and h
    by_cases e : x ≤ r.2
    · rw [zle_iff.mpr (show v ≤ q.2.2.2 by omega), zle_iff.mpr (show q.2.2.1 ≤ r.2 by omega)] at h3
      exact ⟨_, h3, xcl1_ok gx h1 e g⟩
    · exact ih (r.2 + 1) h4 (by omega)
theorem xspb_ok {key : Nat} {rs : List (Int × Int)} (hf : xok X K KC E d mj pc f) : xok X K KC E d mj pc (xspb X key rs f) := by
  intro D hD m hm n0 σ0 Fc cs ss k ρ G Q hB hk hρ S h σ L st ph hS
  unfold xspb at h
  obtain ⟨σ', g'⟩ := xseed_ok (k := key) hS
  split at h
  · next q hq =>
    obtain ⟨T, h1, h2⟩ := xspr_ok g' (xmt_ok hq g') rs _ h (xmt_ok hq g').2.2.1
    exact hf D hD m hm n0 σ0 Fc cs ss k ρ G Q hB hk hρ T h1 σ' L st ph h2
  · cases h
/-- the arguments of a method, its frame at its beginning -/
theorem xent_hL {j nl : Nat} {m : Int} {vs : List Value} {pre : List xh} (hs : (pm_sig KC j).2.1 = nl) (hv : xhV X m vs pre) : xhL X m (pm_sl vs ++ List.replicate ((pm_sig KC j).2.1 - (pm_sl vs).length) none) (xenth nl pre) := by
  have g1 := xslh_ok hv
  have g2 := xhL_len g1
  unfold xenth
  rw [hs, g2]
  exact xhL_app g1 (xpadh_ok _)
theorem xRd_mk {D j nl : Nat} {vs : List Value} {ph : pm_H} {Q : Option Value → pm_H → Prop} (hs : (pm_sig KC j).2.1 = nl) (hnl : Nat.ble (pm_sl vs).length nl = true) (h : xGT KC D j Q (pm_ent KC j vs ph)) : ∃ v ph', pm_Rd KC false (D + 1) j vs ph (v, ph', 0, 0) ∧ Q v ph' := by
  obtain ⟨n, v, ph', h1, h2⟩ := h
  refine ⟨v, ph', ⟨?_, n, h1⟩, h2⟩
  unfold pm_entB
  rw [hs]
  exact hnl
/-- from a head on, where some heads are not run by themselves but known to end well -/
theorem xseg_ok {j f D : Nat} {m : Int} {Q : Option Value → pm_H → Prop} {sp : Nat → Option (Bool × Nat)} {T : List (Nat × xb)} {cps : List Nat} {ns : xns} {fq : List (Nat × xh)} {res : Option xh} (hD : d ≤ D) (hm : m ≤ 2147483646) (hT : ∀ q ∈ T, xok X KC KC E d j q.1 q.2) (hchk : ∀ c ∈ ns, ∀ nd ∈ c, xnchk X sp T cps ns res fq f nd = true ∨ ∀ (L : List (Option Value)) (ph : pm_H), (nd.1.2.2.2.1 : Int) ≤ m → xhL X m L nd.1.2.1 → xhF X m ph nd.1.2.2.1 → xH X KC m nd.1.2.2.2.1 ph → E ph → xGT KC D j Q (nd.1.1, L, [], ph, 0, 0)) (hQ : ∀ v ph', xH X KC m 0 ph' → E ph' → xhR X m v res → xhF X m ph' fq → Q v ph') : ∀ (nd : xnd) (cs : List Nat), (∃ c ∈ ns, (nd, cs) ∈ c) → ∀ (L : List (Option Value)) (ph : pm_H), (nd.2.2.2.1 : Int) ≤ m → xhL X m L nd.2.1 → xhF X m ph nd.2.2.1 → xH X KC m nd.2.2.2.1 ph → E ph → xGT KC D j Q (nd.1, L, [], ph, 0, 0) := by
  have key : ∀ (N : Nat) (nd : xnd) (cs : List Nat), (∃ c ∈ ns, (nd, cs) ∈ c) → ∀ (L : List (Option Value)) (ph : pm_H), (nd.2.2.2.1 : Int) ≤ m → xhL X m L nd.2.1 → xhF X m ph nd.2.2.1 → xH X KC m nd.2.2.2.1 ph → E ph → (xmu L ph nd.2.2.2.2).toNat < N → xGT KC D j Q (nd.1, L, [], ph, 0, 0) := by
    intro N
    induction N with
    | zero => intro nd cs _ L ph _ _ _ _ _ h; omega
    | succ N ih =>
      intro nd cs hnd L ph hw h1 h2 h3 h4 hmu
      obtain ⟨c9, hc9, hnd9⟩ := hnd
      rcases hchk c9 hc9 _ hnd9 with hc | hx
      case inr => exact hx L ph hw h1 h2 h3 h4
      obtain ⟨σ0, hg⟩ := xnS_ok hw h1 h2 h3 h4
      unfold xnchk at hc
      refine xrunT_ok hT (D := D) hD hm (xGT_bk D j _) ?_ ?_ f nd.1 _ hc σ0 L [] ph hg
      · intro pc' h9 S hcut hS σ L' st' ph' hg'
        unfold xncut at hcut
        obtain ⟨-, hcut⟩ := x_bs hcut
        subst hcut
        refine xspl_ok hm hS hg' fun S σ hS hg' => ?_
        obtain ⟨ix, -, hin⟩ := List.any_eq_true.mp hS
        split at hin
        case h_2 => cases hin
        next ndc hndc =>
        obtain ⟨nd', cs'⟩ := ndc
        have hnd' := pm_nth2_mem hndc
        have hpc := (x_and hin).1
        replace hin := (x_and hin).2
        have hpc := Nat.eq_of_beq_eq_true hpc
        subst hpc
        obtain ⟨n, A, sa, fs, w, F⟩ := S
        unfold xnin at hin
        simp only at hin
        split at hin
        · next hsa =>
          obtain ⟨i1, hin⟩ := x_and hin
          obtain ⟨i2, hin⟩ := x_and hin
          obtain ⟨i3, i4⟩ := x_and hin
          have i3 := Nat.le_of_ble_eq_true i3
          obtain ⟨m1, m2⟩ := xfall_ok i4 hg rfl hg'
          obtain ⟨g1, g2, g3, g4, g5, g6, g7, g8, g9⟩ := hg'
          have hst : st' = [] := by
            cases st' with
            | nil => rfl
            | cons _ _ => exact g5.elim
          subst hst
          exact ih nd' cs' hnd' L' ph' (by have := g3.2.2; omega) (xhsL_ok hm i1 g4) (xhsF_ok hm i2 g6) (xH_w i3 g7) g9 (by omega)
        · cases hin
      · intro v S hr σ L' st' ph' vv hg' ho
        obtain ⟨n, A, sa, fs, w, F⟩ := S
        obtain ⟨g1, g2, g3, g4, g5, g6, g7, g8, g9⟩ := hg'
        unfold xrs0 at hr
        simp only at hr
        have hfq := (x_and hr).1
        replace hr := (x_and hr).2
        refine hQ vv ph' (xH_w (Nat.zero_le _) g7) g9 ?_ (xhsF_ok hm hfq g6)
        split at hr
        · exact ho
        · obtain ⟨u, e, gu⟩ := ho
          exact ⟨u, e, xhs_ok hm hr gu⟩
        · cases hr
  intro nd cs hnd L ph hw h1 h2 h3 h4
  exact key _ nd cs hnd L ph hw h1 h2 h3 h4 (Nat.lt_succ_self _)
end XSG
