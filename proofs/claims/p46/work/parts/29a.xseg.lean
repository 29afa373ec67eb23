/-! X: splits at a method's entry; stretches between heads, each with its own truth of the heap -/
section XSG
variable {X : xD} {K KC : pm_K} {E : pm_H → Prop} {d mj pc : Nat} {f : xb}
noncomputable def xspr (q : xi) (S : xS) (f : xS → Bool) : List (Int × Int) → Int → Bool
  | [], v => zle (Int.add q.2.2.2 1) v
  | r :: t, v => bif (bif (bif zle v q.2.2.2 then zle q.2.2.1 r.2 else false) then f (xcl1 q v r.2 S) else true) then xspr q S f t (Int.add r.2 1) else false
noncomputable def xspb (X : xD) (key : Nat) (rs : List (Int × Int)) (f : xb) : xb := fun k ρ S => match xmt (xseed X key S) (true, key) with
  | some q => xspr q (xseed X key S) (fun S => f k ρ S) rs q.2.2.1
  | none => false
theorem xspr_ok {m : Int} {n0 : Nat} {σ0 σ : Nat → Int} {S : xS} {L : List (Option Value)} {st : List Value} {ph : pm_H} {Fc : xFc} {f : xS → Bool} {q : xi} {x : Int} {n : Nat} (g : xg X KC E m n0 σ0 S σ L st ph Fc) (gx : xiG σ n x q) : ∀ (rs : List (Int × Int)) (v : Int), xspr q S f rs v = true → v ≤ x → ∃ T, f T = true ∧ xg X KC E m n0 σ0 T σ L st ph Fc := by
  have b1 := gx.2.2.1
  have b2 := gx.2.2.2
  intro rs
  induction rs with
  | nil =>
    intro v h h1
    unfold xspr at h
    have h2 : q.2.2.2 + 1 ≤ v := zle_le h
    omega
  | cons r t ih =>
    intro v h h1
    unfold xspr at h
    obtain ⟨h3, h4⟩ := x_and h
    by_cases e : x ≤ r.2
    · rw [zle_iff.mpr (show v ≤ q.2.2.2 by omega), zle_iff.mpr (show q.2.2.1 ≤ r.2 by omega)] at h3
      exact ⟨_, h3, xcl1_ok gx h1 e g⟩
    · exact ih (r.2 + 1) h4 (by omega)
theorem xspb_ok {key : Nat} {rs : List (Int × Int)} (hf : xok X K KC E d mj pc f) : xok X K KC E d mj pc (xspb X key rs f) := by
  intro D hD m hm n0 σ0 Fc cs ss k ρ G Q hB hk hρ S h σ L st ph hS
  unfold xspb at h
  obtain ⟨σ', g'⟩ := xseed_ok (k := key) hS
  split at h
  · next q hq =>
    obtain ⟨T, h1, h2⟩ := xspr_ok g' (xmt_ok hq g') rs _ h (xmt_ok hq g').2.2.1
    exact hf D hD m hm n0 σ0 Fc cs ss k ρ G Q hB hk hρ T h1 σ' L st ph h2
  · cases h
theorem xRd_mk {D j nl : Nat} {vs : List Value} {ph : pm_H} {Q : Option Value → pm_H → Prop} (hs : (pm_sig KC j).2.1 = nl) (hnl : Nat.ble (pm_sl vs).length nl = true) (h : xGT KC D j Q (pm_ent KC j vs ph)) : ∃ v ph', pm_Rd KC false (D + 1) j vs ph (v, ph', 0, 0) ∧ Q v ph' := by
  obtain ⟨n, v, ph', h1, h2⟩ := h
  refine ⟨v, ph', ⟨?_, n, h1⟩, h2⟩
  unfold pm_entB
  rw [hs]
  exact hnl
/-- from a head on, where some heads are not run by themselves but known to end well -/
theorem xseg_ok {j f D : Nat} {m : Int} {Q : Option Value → pm_H → Prop} {sp : Nat → Option (Bool × Nat)} {T : List (Nat × xb)} {cps : List Nat} {ns : xns} {fq : List (Nat × xh)} {res : Option xh} (hD : d ≤ D) (hm : m ≤ 2147483646) (hT : ∀ q ∈ T, xok X KC KC E d j q.1 q.2) (hchk : ∀ c ∈ ns, ∀ nd ∈ c, xnchk X sp T cps ns res fq f nd = true ∨ ∀ (L : List (Option Value)) (ph : pm_H), (nd.1.2.2.2.1 : Int) ≤ m → xhL X m L nd.1.2.1 → xhF X m ph nd.1.2.2.1 → xH X KC m nd.1.2.2.2.1 ph → E ph → xGT KC D j Q (nd.1.1, L, [], ph, 0, 0)) (hQ : ∀ v ph', xH X KC m 0 ph' → E ph' → xhR X m v res → xhF X m ph' fq → Q v ph') : ∀ (nd : xnd) (cs : List Nat), (∃ c ∈ ns, (nd, cs) ∈ c) → ∀ (L : List (Option Value)) (ph : pm_H), (nd.2.2.2.1 : Int) ≤ m → xhL X m L nd.2.1 → xhF X m ph nd.2.2.1 → xH X KC m nd.2.2.2.1 ph → E ph → xGT KC D j Q (nd.1, L, [], ph, 0, 0) := by
  have key : ∀ (N : Nat) (nd : xnd) (cs : List Nat), (∃ c ∈ ns, (nd, cs) ∈ c) → ∀ (L : List (Option Value)) (ph : pm_H), (nd.2.2.2.1 : Int) ≤ m → xhL X m L nd.2.1 → xhF X m ph nd.2.2.1 → xH X KC m nd.2.2.2.1 ph → E ph → (xmu L ph nd.2.2.2.2).toNat < N → xGT KC D j Q (nd.1, L, [], ph, 0, 0) := by
    intro N
    induction N with
    | zero => intro nd cs _ L ph _ _ _ _ _ h; omega
    | succ N ih =>
      intro nd cs hnd L ph hw h1 h2 h3 h4 hmu
      obtain ⟨c9, hc9, hnd9⟩ := hnd
      rcases hchk c9 hc9 _ hnd9 with hc | hx
      case inr => exact hx L ph hw h1 h2 h3 h4
      obtain ⟨σ0, hg⟩ := xnS_ok hw h1 h2 h3 h4
      unfold xnchk at hc
      refine xrunT_ok hT (D := D) hD hm (xGT_bk D j _) ?_ ?_ f nd.1 _ hc σ0 L [] ph hg
      · intro pc' h9 S hcut hS σ L' st' ph' hg'
        unfold xncut at hcut
        obtain ⟨-, hcut⟩ := x_bs hcut
        subst hcut
        refine xspl_ok hm hS hg' fun S σ hS hg' => ?_
        obtain ⟨ix, -, hin⟩ := List.any_eq_true.mp hS
        split at hin
        case h_2 => cases hin
        next ndc hndc =>
        obtain ⟨nd', cs'⟩ := ndc
        have hnd' := pm_nth2_mem hndc
        have hpc := (x_and hin).1
        replace hin := (x_and hin).2
        have hpc := Nat.eq_of_beq_eq_true hpc
        subst hpc
        obtain ⟨n, A, sa, fs, w, F⟩ := S
        unfold xnin at hin
        simp only at hin
        split at hin
        · next hsa =>
          obtain ⟨i1, hin⟩ := x_and hin
          obtain ⟨i2, hin⟩ := x_and hin
          obtain ⟨i3, i4⟩ := x_and hin
          have i3 := Nat.le_of_ble_eq_true i3
          obtain ⟨m1, m2⟩ := xfall_ok i4 hg rfl hg'
          obtain ⟨g1, g2, g3, g4, g5, g6, g7, g8, g9⟩ := hg'
          have hst : st' = [] := by
            cases st' with
            | nil => rfl
            | cons _ _ => exact g5.elim
          subst hst
          exact ih nd' cs' hnd' L' ph' (by have := g3.2.2; omega) (xhsL_ok hm i1 g4) (xhsF_ok hm i2 g6) (xH_w i3 g7) g9 (by omega)
        · cases hin
      · intro v S hr σ L' st' ph' vv hg' ho
        obtain ⟨n, A, sa, fs, w, F⟩ := S
        obtain ⟨g1, g2, g3, g4, g5, g6, g7, g8, g9⟩ := hg'
        unfold xrs0 at hr
        simp only at hr
        have hfq := (x_and hr).1
        replace hr := (x_and hr).2
        refine hQ vv ph' (xH_w (Nat.zero_le _) g7) g9 ?_ (xhsF_ok hm hfq g6)
        split at hr
        · exact ho
        · obtain ⟨u, e, gu⟩ := ho
          exact ⟨u, e, xhs_ok hm hr gu⟩
        · cases hr
  intro nd cs hnd L ph hw h1 h2 h3 h4
  exact key _ nd cs hnd L ph hw h1 h2 h3 h4 (Nat.lt_succ_self _)
/-- the named cells are the same in both heaps -/
def xcells (X : xD) (kF : List (Nat × Nat)) (ph p : pm_H) : Prop := ∀ a i k, X.1 a = some i → (i, k) ∈ kF → xget p a k = xget ph a k
theorem xHE_cells {gA : List Nat} {gF kF : List (Nat × Nat)} {ph : pm_H} (hk : kF.all (fun p => xmemP gF p.1 p.2) = true) (hE : xHE X gA gF E) : xHE X gA gF (fun p => E p ∧ xcells X kF ph p) := fun p p' hs hp => ⟨hE p p' hs hp.1, fun a i k ho hm => by rw [← hp.2 a i k ho hm]; exact (hs.2 a i k ho (xmemP_in (List.all_eq_true.mp hk (i, k) hm))).symm⟩
/-- what is known of the named cells -/
noncomputable def xkeepG (X : xD) (kF : List (Nat × Nat)) (fs : List (Nat × xv)) : List (Nat × xv) := fs.filter (fun p => bif Nat.blt p.1 17592186044416 then (match X.1 (Nat.div p.1 4096) with
  | some i => xmemP kF i (Nat.mod p.1 4096)
  | none => false) else false)
/-- a contract of what leaves the named cells as they are -/
noncomputable def xctrG (X : xD) (kF : List (Nat × Nat)) (pre : List xh) (fp : List (Nat × xh)) (W : Nat) (res : Option xh) (fq : List (Nat × xh)) : xc := fun as ρ S => match S with
  | (n, A, sa, fs, w, F) => bif (bif xhsV X as pre then bif xhsF X fs fp then Nat.ble W w else false else false) then ρ (xhmo n res) (n + 1 + fq.length, A, sa, xhmF (n + 1) fq ++ xkeepG X kF fs, w - W, F) else false
theorem xctrG_ok {kF : List (Nat × Nat)} {j W : Nat} {pre : List xh} {fp fq : List (Nat × xh)} {res : Option xh} (hn : pre.all xhn = true) (hn2 : fp.all (fun p => xhn p.2) = true) (hn3 : res.all xhn = true) (hn4 : fq.all (fun p => xhn p.2) = true) (h : ∀ ph, xcon X KC (fun p => E p ∧ xcells X kF ph p) d j pre fp W res fq) : xcok X KC E d j (xctrG X kF pre fp W res fq) := by
  intro D hD m hm n0 σ0 Fc L st ρ Q hρ as S hc σ ph vs hS hv
  obtain ⟨n, A, sa, fs, w, F⟩ := S
  obtain ⟨g1, g2, g3, g4, g5, g6, g7, g8, g9⟩ := hS
  have hnn : 0 < n := Nat.lt_of_lt_of_le g3.1 g1
  have h0 : σ 0 = 0 := by rw [g2 0 g3.1]; exact g3.2.1
  unfold xctrG at hc
  simp only at hc
  have hcond := (x_and hc).1
  replace hc := (x_and hc).2
  obtain ⟨c1, hcond⟩ := x_and hcond
  obtain ⟨c2, c3⟩ := x_and hcond
  have c3 := Nat.le_of_ble_eq_true c3
  obtain ⟨v, ph', k1, k2, k3, k4, k5⟩ := xcon_use hn hn2 hn3 hn4 (h ph) hD hm g3.2.2 c1 c2 c3 hv g6 g7 ⟨g9, fun _ _ _ _ _ => rfl⟩
  refine ⟨v, ph', k1, ?_⟩
  obtain ⟨σ1, u1, r1⟩ := xhR_up hnn h0 k4
  obtain ⟨σ2, u2, r2⟩ := xhmF_ok (n := n + 1) (σ := σ1) (by omega) (by rw [u1 0 hnn]; exact h0) k5
  have u3 : ∀ t, t < n → σ2 t = σ t := fun t ht => by rw [u2 t (by omega), u1 t ht]
  refine hρ _ _ hc σ2 ph' v ⟨by omega, fun t ht => by rw [u3 t (by omega)]; exact g2 t ht, ⟨g3.1, g3.2.1, by have := g3.2.2; omega⟩, xlG_up u3 (by omega) g4, xsG_up u3 (by omega) g5, fun k q hq => ?_, k2, xFG_up u3 (by omega) g8, k3.1⟩ (xoG_up u2 (by omega) r1)
  rcases List.mem_append.mp hq with e | e
  · exact r2 k q e
  · obtain ⟨q1, q2⟩ := List.mem_filter.mp e
    have g99 := g6 k q q1
    obtain ⟨q3, q4⟩ := x_and q2
    have q3 : k < 17592186044416 := Nat.le_of_ble_eq_true q3
    unfold xfact at g99 ⊢
    rw [if_pos q3] at g99 ⊢
    obtain ⟨h1, v9, h2, h3⟩ := g99
    refine ⟨h1, v9, ?_, xvG_up u3 (by omega) h3⟩
    split at q4
    · next i hi =>
      rw [k3.2 (k / 4096) i (k % 4096) hi (xmemP_in q4)]
      exact h2
    · cases q4
/-- one summary or another, by what is known, too -/
noncomputable def xaltF (X : xD) (pre : List xh) (fp : List (Nat × xh)) (c1 c2 : xc) : xc := fun as ρ S => bif (bif xhsV X as pre then xhsF X S.2.2.2.1 fp else false) then c1 as ρ S else c2 as ρ S
theorem xaltF_ok {j : Nat} {pre : List xh} {fp : List (Nat × xh)} {c1 c2 : xc} (h1 : xcok X KC E d j c1) (h2 : xcok X KC E d j c2) : xcok X KC E d j (xaltF X pre fp c1 c2) := by
  intro D hD m hm n0 σ0 Fc L st ρ Q hρ as S hc σ ph vs hS hv
  unfold xaltF at hc
  cases hb : (bif xhsV X as pre then xhsF X S.2.2.2.1 fp else false) with
  | true => rw [hb] at hc; exact h1 D hD m hm n0 σ0 Fc L st ρ Q hρ as S hc σ ph vs hS hv
  | false => rw [hb] at hc; exact h2 D hD m hm n0 σ0 Fc L st ρ Q hρ as S hc σ ph vs hS hv
end XSG
