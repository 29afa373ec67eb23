/-! X: a method's summary as a contract -/
section XAD
variable {X : xD} {KC : pm_K} {E : pm_H → Prop}
def xhmV (n : Nat) (l : List xh) : List xv := match l with
  | [] => []
  | h :: r => xhm n h :: xhmV (n + 1) r
theorem xhmV_ok {m : Int} : ∀ {L : List Value} {hs : List xh} {n : Nat} {σ : Nat → Int}, 0 < n → σ 0 = 0 → xhV X m L hs → ∃ σ', (∀ t, t < n → σ' t = σ t) ∧ xsG X m σ' (n + hs.length) L (xhmV n hs) := by
  intro L
  induction L with
  | nil =>
    intro hs n σ hn h0 g
    cases hs with
    | nil => exact ⟨σ, fun _ _ => rfl, trivial⟩
    | cons _ _ => exact g.elim
  | cons o L ih =>
    intro hs n σ hn h0 g
    cases hs with
    | nil => exact g.elim
    | cons h hs =>
      obtain ⟨gv, g⟩ := g
      obtain ⟨e9, g9⟩ := xhm_ok hn h0 gv
      obtain ⟨σ', h1, h2⟩ := ih (n := n + 1) (σ := xup σ n e9) (by omega) (by rw [xup_lt hn]; exact h0) g
      refine ⟨σ', fun t ht => by rw [h1 t (by omega), xup_lt ht], ⟨xvG_up (fun t ht => h1 t ht) (by rw [List.length_cons]; omega) g9, ?_⟩⟩
      rw [List.length_cons, show n + (hs.length + 1) = n + 1 + hs.length by omega]
      exact h2
theorem xcok_con {d j W : Nat} {c : xc} {pre : List xh} {fp fq : List (Nat × xh)} {res : Option xh} (h : xcok X KC E d j c) (hchk : c (xhmV 1 pre) (xrs0 X res fq) (1 + pre.length + fp.length, [], [], xhmF (1 + pre.length) fp, W, []) = true) : xcon X KC E d j pre fp W res fq := by
  intro D hD m hm hW vs ph hv hf hP hE
  obtain ⟨σ1, a1, a2⟩ := xhmV_ok (n := 1) (σ := fun _ => 0) (by decide) rfl hv
  obtain ⟨σ2, b1, b2⟩ := xhmF_ok (n := 1 + pre.length) (σ := σ1) (by omega) (by rw [a1 0 (by decide)]) hf
  obtain ⟨v, ph', k1, k2, k3, k4, k5⟩ := h D hD m hm (1 + pre.length + fp.length) σ2 [] [] [] (xrs0 X res fq) (fun v ph' => xH X KC m 0 ph' ∧ E ph' ∧ xhR X m v res ∧ xhF X m ph' fq) (fun v S hr σ ph' vv hg' ho => by
    obtain ⟨n, A, sa, fs, w, F⟩ := S
    obtain ⟨g1, g2, g3, g4, g5, g6, g7, g8, g9⟩ := hg'
    unfold xrs0 at hr
    simp only at hr
    have hfq := (x_and hr).1
    replace hr := (x_and hr).2
    refine ⟨xH_w (Nat.zero_le _) g7, g9, ?_, xhsF_ok hm hfq g6⟩
    split at hr
    · exact ho
    · obtain ⟨u, e, gu⟩ := ho
      exact ⟨u, e, xhs_ok hm hr gu⟩
    · cases hr) _ _ hchk σ2 ph vs ⟨Nat.le_refl _, fun _ _ => rfl, ⟨by omega, by rw [b1 0 (by omega), a1 0 (by decide)], hW⟩, trivial, trivial, b2, hP, trivial, hE⟩ (xsG_up b1 (by omega) a2)
  exact ⟨v, ph', k1, k2, k3, k4, k5⟩
end XAD
