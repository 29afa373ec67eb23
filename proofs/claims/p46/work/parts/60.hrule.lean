
/-! The rule's reader, by hand, printed by wip/x/h_rule.py -/
noncomputable def xgA_RR : List Nat := xgA_G73
noncomputable def xgF_RR : List (Nat × Nat) := (0, 14) :: xgF_G73
set_option maxRecDepth 6000 in
theorem xHE_same {X : xD} {E : pm_H → Prop} {gA : List Nat} {gF : List (Nat × Nat)} {ph : pm_H} (hE : xHE X gA gF E) : xHE X gA gF (fun p => E p ∧ xSame X gA gF ph p) := fun p p' hs hp => ⟨hE p p' hs hp.1, fun a i ha hi => (hp.2.1 a i ha hi).trans (hs.1 a i ha hi), fun a i k ha hi => (hp.2.2 a i k ha hi).trans (hs.2 a i k ha hi)⟩
set_option maxRecDepth 6000 in
theorem xsame_f {gA : List Nat} {gF : List (Nat × Nat)} {ph p : pm_H} {a i k : Nat} (h : xSame xX gA gF ph p) (ho : xown a = some i) (hk : xmemP gF i k = true) : xget p a k = xget ph a k := (h.2 a i k ho (xmemP_in hk)).symm
set_option maxRecDepth 6000 in
theorem xsame_a {gA : List Nat} {gF : List (Nat × Nat)} {ph p : pm_H} {a i : Nat} (h : xSame xX gA gF ph p) (ho : xown a = some i) (hk : xmemN gA i = true) : pm_at p a = pm_at ph a := (h.1 a i ho (xmemN_in hk)).symm
/-- a contract with several ends -/
def xconA (X : xD) (KC : pm_K) (E : pm_H → Prop) (d j : Nat) (pre : List xh) (fp : List (Nat × xh)) (alts : List (Option xh × List (Nat × xh))) : Prop := ∀ D, d ≤ D → ∀ m : Int, m ≤ 2147483646 → 0 ≤ m → ∀ vs ph, xhV X m vs pre → xhF X m ph fp → xH X KC m 0 ph → E ph → ∃ v ph', pm_Rd KC false D j vs ph (v, ph', 0, 0) ∧ (xH X KC m 0 ph' ∧ E ph' ∧ ∃ a ∈ alts, xhR X m v a.1 ∧ xhF X m ph' a.2)
noncomputable def xrsA (X : xD) (alts : List (Option xh × List (Nat × xh))) : xr := fun v S => alts.any (fun a => xrs0 X a.1 a.2 v S)
set_option maxRecDepth 6000 in
theorem xcok_alt {X : xD} {KC : pm_K} {E : pm_H → Prop} {d j : Nat} {c : xc} {pre : List xh} {fp : List (Nat × xh)} {alts : List (Option xh × List (Nat × xh))} (h : xcok X KC E d j c) (hchk : c (xhmV 1 pre) (xrsA X alts) (1 + pre.length + fp.length, [], [], xhmF (1 + pre.length) fp, 0, []) = true) : xconA X KC E d j pre fp alts := by
  intro D hD m hm hW vs ph hv hf hP hE
  obtain ⟨σ1, a1, a2⟩ := xhmV_ok (n := 1) (σ := fun _ => 0) (by decide) rfl hv
  obtain ⟨σ2, b1, b2⟩ := xhmF_ok (n := 1 + pre.length) (σ := σ1) (by omega) (by rw [a1 0 (by decide)]) hf
  obtain ⟨v, ph', k1, k2⟩ := h D hD m hm (1 + pre.length + fp.length) σ2 [] [] [] (xrsA X alts) (fun v ph' => xH X KC m 0 ph' ∧ E ph' ∧ ∃ a ∈ alts, xhR X m v a.1 ∧ xhF X m ph' a.2) (fun v S hr σ ph' vv hg' ho => by
    obtain ⟨n, A, sa, fs, w, F⟩ := S
    obtain ⟨g1, g2, g3, g4, g5, g6, g7, g8, g9⟩ := hg'
    obtain ⟨al, hal, hr⟩ := List.any_eq_true.mp hr
    unfold xrs0 at hr
    simp only at hr
    have hfq := (x_and hr).1
    replace hr := (x_and hr).2
    refine ⟨xH_w (Nat.zero_le _) g7, g9, al, hal, ?_, xhsF_ok hm hfq g6⟩
    generalize hres : al.1 = res at hr ⊢
    split at hr
    · exact ho
    · obtain ⟨u, e, gu⟩ := ho
      exact ⟨u, e, xhs_ok hm hr gu⟩
    · cases hr) _ _ hchk σ2 ph vs ⟨Nat.le_refl _, fun _ _ => rfl, ⟨by omega, by rw [b1 0 (by omega), a1 0 (by decide)], hW⟩, trivial, trivial, b2, hP, trivial, hE⟩ (xsG_up b1 (by omega) a2)
  exact ⟨v, ph', k1, k2⟩
set_option maxRecDepth 6000 in
/-- one cell's bounds out of known ones -/
theorem xF_in {m : Int} {ph : pm_H} {fs : List (Nat × xh)} {k a c : Nat} {lo hi : Int} (h : xhF xX m ph fs) (hm : (k, .inl (lo, hi)) ∈ fs) (e : k = a * 4096 + c) (hc : c < 4096) : ∃ x : Int32, xget ph a c = some (.int x) ∧ lo ≤ x.toInt ∧ x.toInt ≤ hi := by
  obtain ⟨-, -, v, h1, x, e9, h2, h3⟩ := h k _ hm
  subst e9
  have e1 : k / 4096 = a ∧ k % 4096 = c := by omega
  rw [e1.1, e1.2] at h1
  exact ⟨x, h1, h2, h3⟩
abbrev xaN : Type := Int × Int × Nat × Nat × List (Nat × xh)
def xaF (a b : Nat) : List (Nat × xh) := [(696335, .inl (Int.ofNat a, Int.ofNat a)), (696336, .inl (Int.ofNat b, 40))]
def xaA (l : List xaN) : List (Option xh × List (Nat × xh)) := l.map (fun p => (some (.inl (p.1, p.2.1)), xaF p.2.2.1 p.2.2.2.1 ++ p.2.2.2.2))
def xtkN (a : Nat) : List xaN := [(0, 0, a, 0, []), (1, 1, a + 1, a + 1, [])]
def xdgN (a : Nat) : List xaN := [(0, 0, a, 0, []), (1, 1, a, a + 1, [(176 * 4096 + a, .inl (48, 57))])]
def xnuN (a : Nat) : List xaN := [(0, 999, a + 1, a + 1, []), (0, 999, a + 2, a + 2, []), (0, 999, a + 3, a + 3, [])]
def xofN (n a : Nat) : List xaN := [(-1, -1, a, 0, []), (0, Int.ofNat n, a + 1, a + 1, [])]
set_option maxRecDepth 6000 in
theorem xtk_all : (List.range 41).all (fun a => xs_196 (xhmV 1 [.inr (.inr (.inl 0)), .inl (Int.negSucc 2147483647, Int.ofNat 2147483647)]) (xrsA xX (xaA (xtkN a))) (5, [], [], xhmF 3 (xaF a 0), 0, [])) = true := by decide +kernel
set_option maxRecDepth 6000 in
theorem xdg_all : (List.range 41).all (fun a => xs_197 (xhmV 1 [.inr (.inr (.inl 0))]) (xrsA xX (xaA (xdgN a))) (4, [], [], xhmF 2 (xaF a 0), 0, [])) = true := by decide +kernel
set_option maxRecDepth 6000 in
theorem xnu_all : (List.range 40).all (fun a => xs_199 (xhmV 1 [.inr (.inr (.inl 0)), .inl (3, 3)]) (xrsA xX (xaA (xnuN a))) (6, [], [], xhmF 3 (xaF a (a + 1) ++ [(176 * 4096 + a, .inl (48, 57))]), 0, [])) = true := by decide +kernel
set_option maxRecDepth 6000 in
theorem xof_all_0 : (List.range 41).all (fun a => xs_198 (xhmV 1 [.inr (.inr (.inl 0)), .inr (.inr (.inl 92))]) (xrsA xX (xaA (xofN 7 a))) (5, [], [], xhmF 3 (xaF a 0), 0, [])) = true := by decide +kernel
set_option maxRecDepth 6000 in
theorem xof_all_1 : (List.range 41).all (fun a => xs_198 (xhmV 1 [.inr (.inr (.inl 0)), .inr (.inr (.inl 93))]) (xrsA xX (xaA (xofN 2 a))) (5, [], [], xhmF 3 (xaF a 0), 0, [])) = true := by decide +kernel
set_option maxRecDepth 6000 in
theorem xof_all_2 : (List.range 41).all (fun a => xs_198 (xhmV 1 [.inr (.inr (.inl 0)), .inr (.inr (.inl 94))]) (xrsA xX (xaA (xofN 1 a))) (5, [], [], xhmF 3 (xaF a 0), 0, [])) = true := by decide +kernel
set_option maxRecDepth 6000 in
theorem xof_all_3 : (List.range 41).all (fun a => xs_198 (xhmV 1 [.inr (.inr (.inl 0)), .inr (.inr (.inl 95))]) (xrsA xX (xaA (xofN 1 a))) (5, [], [], xhmF 3 (xaF a 0), 0, [])) = true := by decide +kernel

/-- numbers of the reader's state -/
def xps (ph : pm_H) (T a n c : Nat) (l : List Int32) : Prop := (∃ x : Int32, xget ph 170 15 = some (.int x) ∧ x.toInt = (a : Int)) ∧ (∃ x : Int32, xget ph 170 16 = some (.int x) ∧ x.toInt = (T : Int)) ∧ (∃ x : Int32, xget ph 170 17 = some (.int x) ∧ x.toInt = (n : Int)) ∧ (∃ x : Int32, xget ph 170 24 = some (.int x) ∧ x.toInt = (c : Int)) ∧ pm_at ph 180 = some (.inl (0, .inl l)) ∧ l.length = 80
/-- code that puts one number more -/
def xvs (seg : List Int32) : Prop := ∀ (d : Nat) (rest : List Int32), d + seg.length ≤ 80 → xvc rest (d + 1) = true → xvc (seg ++ rest) d = true
set_option maxRecDepth 6000 in
theorem xvs_1 {c : Int32} (h : c.toInt < 1000 ∨ (1000 ≤ c.toInt ∧ c.toInt ≤ 1007)) : xvs [c] := fun d rest hd hr => by
  have hd : d < 80 := by simp only [List.length_cons, List.length_nil] at hd; omega
  have hb : Nat.blt d 80 = true := Nat.ble_eq_true_of_le hd
  show xvc (c :: rest) d = true
  unfold xvc
  rw [xzf (show (3000 : Int) > c.toInt by omega), xzf (show (2000 : Int) > c.toInt by omega)]
  simp only [cond_false]
  rcases h with h | h
  · rw [xzf (show (1000 : Int) > c.toInt by omega)]
    simp only [cond_false, hb, cond_true]
    exact hr
  · rw [zle_iff.mpr h.1, zle_iff.mpr h.2]
    simp only [cond_true, hb]
    exact hr
set_option maxRecDepth 6000 in
theorem xvs_less {seg : List Int32} {c : Int32} (h : xvs seg) (hc : c.toInt = 3000) : xvs (seg ++ [c]) := fun d rest hd hr => by
  rw [List.length_append] at hd
  have hd : d + (seg.length + 1) ≤ 80 := hd
  rw [List.append_assoc]
  refine h d _ (by omega) ?_
  show xvc (c :: rest) (d + 1) = true
  unfold xvc
  rw [zle_iff.mpr (show (3000 : Int) ≤ c.toInt by omega), zle_iff.mpr (show c.toInt ≤ 3000 by omega)]
  have hb : Nat.ble 1 (d + 1) = true := Nat.ble_eq_true_of_le (by omega)
  simp only [cond_true, hb]
  exact hr
set_option maxRecDepth 6000 in
theorem xvs_act {s1 s2 : List Int32} {c : Int32} (h1 : xvs s1) (h2 : xvs s2) (hc : 2000 ≤ c.toInt ∧ c.toInt < 3000) : xvs (s1 ++ s2 ++ [c]) := fun d rest hd hr => by
  rw [List.length_append, List.length_append] at hd
  have hd : d + (s1.length + s2.length + 1) ≤ 80 := hd
  rw [List.append_assoc, List.append_assoc]
  rcases (show s1 = [] ∨ 0 < s1.length by cases s1 with | nil => exact Or.inl rfl | cons _ _ => exact Or.inr (by simp)) with e | e
  · subst e
    exfalso
    have h3 := h1 0 [(3000 : Int32)] (by simp) (by decide)
    exact absurd h3 (by decide)
  refine h1 d _ (by omega) (h2 (d + 1) _ (by omega) ?_)
  show xvc (c :: rest) (d + 1 + 1) = true
  unfold xvc
  rw [xzf (show (3000 : Int) > c.toInt by omega), zle_iff.mpr hc.1]
  have hb : Nat.ble 2 (d + 1 + 1) = true := Nat.ble_eq_true_of_le (by omega)
  simp only [cond_true, cond_false, hb]
  exact hr
/-- from one state of the reader to a later one -/
def xrd (T a n c : Nat) (l : List Int32) (z : Int) (a' n' c' : Nat) (l' : List Int32) : Prop := a ≤ a' ∧ a' ≤ T ∧ c ≤ c' ∧ c' + a ≤ a' + c ∧ n' ≤ 4 ∧ (z = 0 ∨ z = 1) ∧ (z = 1 → n' = n ∧ ∃ seg, xvs seg ∧ l'.take c' = l.take c ++ seg)
set_option maxRecDepth 6000 in
theorem xps_same {gA : List Nat} {gF : List (Nat × Nat)} {ph ph' : pm_H} {T a a' n c : Nat} {l : List Int32} (h : xps ph T a n c l) (hs : xSame xX gA gF ph ph') (h1 : xmemP gF 0 16 = true) (h2 : xmemP gF 0 17 = true) (h3 : xmemP gF 0 24 = true) (h4 : xmemN gA 10 = true) (hat : ∃ x : Int32, xget ph' 170 15 = some (.int x) ∧ x.toInt = (a' : Int)) : xps ph' T a' n c l := by
  obtain ⟨q1, ⟨x2, q2, e2⟩, ⟨x3, q3, e3⟩, ⟨x4, q4, e4⟩, q5, q6⟩ := h
  exact ⟨hat, ⟨x2, (xsame_f (a := 170) (i := 0) hs rfl h1).trans q2, e2⟩, ⟨x3, (xsame_f (a := 170) (i := 0) hs rfl h2).trans q3, e3⟩, ⟨x4, (xsame_f (a := 170) (i := 0) hs rfl h3).trans q4, e4⟩, (xsame_a (a := 180) (i := 10) hs rfl h4).trans q5, q6⟩
set_option maxRecDepth 6000 in
theorem xat_of {m : Int} {ph : pm_H} {lo hi a : Nat} {fs : List (Nat × xh)} (h : xhF xX m ph fs) (hm : (696335, (.inl (Int.ofNat lo, Int.ofNat hi) : xh)) ∈ fs) : ∃ (x : Int32) (a' : Nat), xget ph 170 15 = some (.int x) ∧ x.toInt = (a' : Int) ∧ lo ≤ a' ∧ a' ≤ hi := by
  obtain ⟨x, h1, h2, h3⟩ := xF_in (a := 170) (c := 15) h hm (by decide) (by decide)
  have h2 : (lo : Int) ≤ x.toInt := h2
  have h3 : x.toInt ≤ (hi : Int) := h3
  exact ⟨x, x.toInt.toNat, h1, by omega, by omega, by omega⟩

set_option maxRecDepth 6000 in
theorem xprim {E : pm_H → Prop} (hE : xHE xX xgA_RR xgF_RR E) {m : Int} (hm : m ≤ 2147483646) (h0m : (0 : Int) ≤ m) {D d j : Nat} {c9 : xc} {pre : List xh} {vs : List Value} {al : List xaN} {ex : List (Nat × xh)} {b : Nat} (hso : ∀ E2 : pm_H → Prop, xHE xX xgA_G62 xgF_G62 E2 → xcok xX kK E2 d j c9) {ph : pm_H} {T a n c : Nat} {l : List Int32} (hchk : c9 (xhmV 1 pre) (xrsA xX (xaA al)) (1 + pre.length + (xaF a b ++ ex).length, [], [], xhmF (1 + pre.length) (xaF a b ++ ex), 0, []) = true) (hD : d ≤ D) (hv : xhV xX m vs pre) (hex : xhF xX m ph ex) (hP : xH xX kK m 0 ph) (g9 : E ph) (hs : xps ph T a n c l) (ha : a ≤ T) (hb : b ≤ T) (hT : T ≤ 40) : ∃ v ph', pm_Rd kK false D j vs ph (v, ph', 0, 0) ∧ (∃ (z : Int32) (p : xaN), p ∈ al ∧ v = some (.int z) ∧ xH xX kK m 0 ph' ∧ E ph' ∧ xps ph' T p.2.2.1 n c l ∧ p.1 ≤ z.toInt ∧ z.toInt ≤ p.2.1 ∧ p.2.2.2.1 ≤ T ∧ xhF xX m ph' p.2.2.2.2) := by
  obtain ⟨⟨xa, qa, ea⟩, ⟨xt, qt, et⟩, -, -, -, -⟩ := id hs
  have hE2 : xHE xX xgA_G62 xgF_G62 E := xHE_sub (by decide +kernel) (by decide +kernel) hE
  have hF : xhF xX m ph (xaF a b ++ ex) := fun k h hk => by
    rcases List.mem_append.mp hk with e | e
    · exact xF2 (by decide) qa (by rw [ea]; exact Int.le_refl _) (by rw [ea]; exact Int.le_refl _) (by decide) qt (by rw [et]; show (b : Int) ≤ (T : Int); omega) (by rw [et]; omega) k h e
    · exact hex k h e
  obtain ⟨v, ph', k1, k2, k3, q, hq, k4, k5⟩ := xcok_alt (hso (fun p => E p ∧ xSame xX xgA_G62 xgF_G62 ph p) (xHE_same hE2)) hchk D hD m hm h0m vs ph hv hF hP ⟨g9, fun _ _ _ _ => rfl, fun _ _ _ _ _ => rfl⟩
  obtain ⟨p, hp, e⟩ := List.mem_map.mp hq
  subst e
  obtain ⟨u, e, z, e2, z0, z1⟩ := k4
  obtain ⟨x, a', h1, h2, h3, h4⟩ := xat_of (a := 0) k5 (show (696335, (.inl (Int.ofNat p.2.2.1, Int.ofNat p.2.2.1) : xh)) ∈ _ from List.mem_append_left _ List.mem_cons_self)
  obtain ⟨x2, h5, h6, -⟩ := xF_in (a := 170) (c := 16) (lo := Int.ofNat p.2.2.2.1) (hi := 40) k5 (List.mem_append_left _ (List.mem_cons_of_mem _ List.mem_cons_self)) (by decide) (by decide)
  have hT2 := (xsame_f (a := 170) (i := 0) (k := 16) k3.2 rfl rfl).trans qt
  have e9 := xget_int h5 hT2
  subst e9
  have h6 : ((p.2.2.2.1 : Nat) : Int) ≤ x2.toInt := h6
  refine ⟨v, ph', k1, z, p, hp, by rw [e, e2], k2, k3.1, xps_same hs k3.2 rfl rfl rfl rfl ⟨x, h1, by omega⟩, z0, z1, by omega, fun k h hk => k5 k h (List.mem_append_right _ hk)⟩

set_option maxRecDepth 6000 in
theorem xtakes {E : pm_H → Prop} (hE : xHE xX xgA_RR xgF_RR E) {m : Int} (hm : m ≤ 2147483646) (h0m : (0 : Int) ≤ m) {D : Nat} (hD : 2 ≤ D) {ph : pm_H} {T a n c : Nat} {l : List Int32} {y : Int32} (hP : xH xX kK m 0 ph) (g9 : E ph) (hs : xps ph T a n c l) (ha : a ≤ T) (hT : T ≤ 40) : ∃ v ph', pm_Rd kK false D 196 [.ref 170, .int y] ph (v, ph', 0, 0) ∧ (∃ (z : Int32) (a' : Nat), v = some (.int z) ∧ xH xX kK m 0 ph' ∧ E ph' ∧ xps ph' T a' n c l ∧ ((z.toInt = 0 ∧ a' = a) ∨ (z.toInt = 1 ∧ a' = a + 1 ∧ a' ≤ T))) := by
  obtain ⟨v, ph', k1, z, p, hp, e, k2, k3, k4, z0, z1, k5, -⟩ := xprim hE hm h0m (ex := []) (b := 0) (fun E2 h => xso_196 h) (List.all_eq_true.mp xtk_all a (List.mem_range.mpr (by omega))) hD (vs := [.ref 170, .int y]) ⟨xaRi rfl (by decide), xaT, trivial⟩ xF0 hP g9 hs ha (Nat.zero_le _) hT
  refine ⟨v, ph', k1, z, p.2.2.1, e, k2, k3, k4, ?_⟩
  rcases List.mem_cons.mp hp with h | h
  · subst h
    exact Or.inl ⟨Int.le_antisymm z1 z0, rfl⟩
  · rcases List.mem_cons.mp h with h | h
    · subst h
      exact Or.inr ⟨Int.le_antisymm z1 z0, rfl, k5⟩
    · cases h
set_option maxRecDepth 6000 in
theorem xdigit {E : pm_H → Prop} (hE : xHE xX xgA_RR xgF_RR E) {m : Int} (hm : m ≤ 2147483646) (h0m : (0 : Int) ≤ m) {D : Nat} (hD : 2 ≤ D) {ph : pm_H} {T a n c : Nat} {l : List Int32} (hP : xH xX kK m 0 ph) (g9 : E ph) (hs : xps ph T a n c l) (ha : a ≤ T) (hT : T ≤ 40) : ∃ v ph', pm_Rd kK false D 197 [.ref 170] ph (v, ph', 0, 0) ∧ (∃ z : Int32, v = some (.int z) ∧ xH xX kK m 0 ph' ∧ E ph' ∧ xps ph' T a n c l ∧ (z.toInt = 0 ∨ (z.toInt = 1 ∧ a + 1 ≤ T ∧ xhF xX m ph' [(176 * 4096 + a, .inl (48, 57))]))) := by
  obtain ⟨v, ph', k1, z, p, hp, e, k2, k3, k4, z0, z1, k5, k6⟩ := xprim hE hm h0m (ex := []) (b := 0) (fun E2 _ => xso_197) (List.all_eq_true.mp xdg_all a (List.mem_range.mpr (by omega))) hD (vs := [.ref 170]) ⟨xaRi rfl (by decide), trivial⟩ xF0 hP g9 hs ha (Nat.zero_le _) hT
  rcases List.mem_cons.mp hp with h | h
  · subst h
    exact ⟨v, ph', k1, z, e, k2, k3, k4, Or.inl (Int.le_antisymm z1 z0)⟩
  · rcases List.mem_cons.mp h with h | h
    · subst h
      exact ⟨v, ph', k1, z, e, k2, k3, k4, Or.inr ⟨Int.le_antisymm z1 z0, k5, k6⟩⟩
    · cases h
set_option maxRecDepth 6000 in
theorem xnumber {E : pm_H → Prop} (hE : xHE xX xgA_RR xgF_RR E) {m : Int} (hm : m ≤ 2147483646) (h0m : (0 : Int) ≤ m) {D : Nat} (hD : 3 ≤ D) {ph : pm_H} {T a n c : Nat} {l : List Int32} {y : Int32} (hy : y.toInt = 3) (hP : xH xX kK m 0 ph) (g9 : E ph) (hs : xps ph T a n c l) (ha : a + 1 ≤ T) (hT : T ≤ 40) (hd : xhF xX m ph [(176 * 4096 + a, .inl (48, 57))]) : ∃ v ph', pm_Rd kK false D 199 [.ref 170, .int y] ph (v, ph', 0, 0) ∧ (∃ (z : Int32) (a' : Nat), v = some (.int z) ∧ xH xX kK m 0 ph' ∧ E ph' ∧ xps ph' T a' n c l ∧ 0 ≤ z.toInt ∧ z.toInt ≤ 999 ∧ a + 1 ≤ a' ∧ a' ≤ T) := by
  obtain ⟨v, ph', k1, z, p, hp, e, k2, k3, k4, z0, z1, k5, -⟩ := xprim hE hm h0m (ex := [(176 * 4096 + a, .inl (48, 57))]) (b := a + 1) (fun E2 h => xso_199 h) (List.all_eq_true.mp xnu_all a (List.mem_range.mpr (by omega))) hD (vs := [.ref 170, .int y]) ⟨xaRi rfl (by decide), xaI (by omega) (by omega), trivial⟩ hd hP g9 hs (by omega) ha hT
  rcases List.mem_cons.mp hp with h | h
  · subst h
    exact ⟨v, ph', k1, z, _, e, k2, k3, k4, z0, z1, Nat.le_refl _, k5⟩
  · rcases List.mem_cons.mp h with h | h
    · subst h
      exact ⟨v, ph', k1, z, _, e, k2, k3, k4, z0, z1, by show a + 1 ≤ a + 2; omega, k5⟩
    · rcases List.mem_cons.mp h with h | h
      · subst h
        exact ⟨v, ph', k1, z, _, e, k2, k3, k4, z0, z1, by show a + 1 ≤ a + 3; omega, k5⟩
      · cases h

set_option maxRecDepth 6000 in
theorem xof_0 {E : pm_H → Prop} (hE : xHE xX xgA_RR xgF_RR E) {m : Int} (hm : m ≤ 2147483646) (h0m : (0 : Int) ≤ m) {D : Nat} (hD : 5 ≤ D) {ph : pm_H} {T a n c : Nat} {l : List Int32} (hP : xH xX kK m 0 ph) (g9 : E ph) (hs : xps ph T a n c l) (ha : a ≤ T) (hT : T ≤ 40) : ∃ v ph', pm_Rd kK false D 198 [.ref 170, .ref 1048628] ph (v, ph', 0, 0) ∧ (∃ (z : Int32) (a' : Nat), v = some (.int z) ∧ xH xX kK m 0 ph' ∧ E ph' ∧ xps ph' T a' n c l ∧ ((z.toInt = -1 ∧ a' = a) ∨ (0 ≤ z.toInt ∧ z.toInt ≤ 7 ∧ a' = a + 1 ∧ a' ≤ T))) := by
  obtain ⟨v, ph', k1, z, p, hp, e, k2, k3, k4, z0, z1, k5, -⟩ := xprim hE hm h0m (ex := []) (b := 0) (fun E2 h => xso_198 h) (List.all_eq_true.mp xof_all_0 a (List.mem_range.mpr (by omega))) hD (vs := [.ref 170, .ref 1048628]) ⟨xaRi rfl (by decide), xaRi rfl (by decide), trivial⟩ xF0 hP g9 hs ha (Nat.zero_le _) hT
  refine ⟨v, ph', k1, z, p.2.2.1, e, k2, k3, k4, ?_⟩
  rcases List.mem_cons.mp hp with h | h
  · subst h
    exact Or.inl ⟨Int.le_antisymm z1 z0, rfl⟩
  · rcases List.mem_cons.mp h with h | h
    · subst h
      exact Or.inr ⟨z0, z1, rfl, k5⟩
    · cases h

set_option maxRecDepth 6000 in
theorem xof_1 {E : pm_H → Prop} (hE : xHE xX xgA_RR xgF_RR E) {m : Int} (hm : m ≤ 2147483646) (h0m : (0 : Int) ≤ m) {D : Nat} (hD : 5 ≤ D) {ph : pm_H} {T a n c : Nat} {l : List Int32} (hP : xH xX kK m 0 ph) (g9 : E ph) (hs : xps ph T a n c l) (ha : a ≤ T) (hT : T ≤ 40) : ∃ v ph', pm_Rd kK false D 198 [.ref 170, .ref 1048629] ph (v, ph', 0, 0) ∧ (∃ (z : Int32) (a' : Nat), v = some (.int z) ∧ xH xX kK m 0 ph' ∧ E ph' ∧ xps ph' T a' n c l ∧ ((z.toInt = -1 ∧ a' = a) ∨ (0 ≤ z.toInt ∧ z.toInt ≤ 2 ∧ a' = a + 1 ∧ a' ≤ T))) := by
  obtain ⟨v, ph', k1, z, p, hp, e, k2, k3, k4, z0, z1, k5, -⟩ := xprim hE hm h0m (ex := []) (b := 0) (fun E2 h => xso_198 h) (List.all_eq_true.mp xof_all_1 a (List.mem_range.mpr (by omega))) hD (vs := [.ref 170, .ref 1048629]) ⟨xaRi rfl (by decide), xaRi rfl (by decide), trivial⟩ xF0 hP g9 hs ha (Nat.zero_le _) hT
  refine ⟨v, ph', k1, z, p.2.2.1, e, k2, k3, k4, ?_⟩
  rcases List.mem_cons.mp hp with h | h
  · subst h
    exact Or.inl ⟨Int.le_antisymm z1 z0, rfl⟩
  · rcases List.mem_cons.mp h with h | h
    · subst h
      exact Or.inr ⟨z0, z1, rfl, k5⟩
    · cases h

set_option maxRecDepth 6000 in
theorem xof_2 {E : pm_H → Prop} (hE : xHE xX xgA_RR xgF_RR E) {m : Int} (hm : m ≤ 2147483646) (h0m : (0 : Int) ≤ m) {D : Nat} (hD : 5 ≤ D) {ph : pm_H} {T a n c : Nat} {l : List Int32} (hP : xH xX kK m 0 ph) (g9 : E ph) (hs : xps ph T a n c l) (ha : a ≤ T) (hT : T ≤ 40) : ∃ v ph', pm_Rd kK false D 198 [.ref 170, .ref 1048630] ph (v, ph', 0, 0) ∧ (∃ (z : Int32) (a' : Nat), v = some (.int z) ∧ xH xX kK m 0 ph' ∧ E ph' ∧ xps ph' T a' n c l ∧ ((z.toInt = -1 ∧ a' = a) ∨ (0 ≤ z.toInt ∧ z.toInt ≤ 1 ∧ a' = a + 1 ∧ a' ≤ T))) := by
  obtain ⟨v, ph', k1, z, p, hp, e, k2, k3, k4, z0, z1, k5, -⟩ := xprim hE hm h0m (ex := []) (b := 0) (fun E2 h => xso_198 h) (List.all_eq_true.mp xof_all_2 a (List.mem_range.mpr (by omega))) hD (vs := [.ref 170, .ref 1048630]) ⟨xaRi rfl (by decide), xaRi rfl (by decide), trivial⟩ xF0 hP g9 hs ha (Nat.zero_le _) hT
  refine ⟨v, ph', k1, z, p.2.2.1, e, k2, k3, k4, ?_⟩
  rcases List.mem_cons.mp hp with h | h
  · subst h
    exact Or.inl ⟨Int.le_antisymm z1 z0, rfl⟩
  · rcases List.mem_cons.mp h with h | h
    · subst h
      exact Or.inr ⟨z0, z1, rfl, k5⟩
    · cases h

set_option maxRecDepth 6000 in
theorem xof_3 {E : pm_H → Prop} (hE : xHE xX xgA_RR xgF_RR E) {m : Int} (hm : m ≤ 2147483646) (h0m : (0 : Int) ≤ m) {D : Nat} (hD : 5 ≤ D) {ph : pm_H} {T a n c : Nat} {l : List Int32} (hP : xH xX kK m 0 ph) (g9 : E ph) (hs : xps ph T a n c l) (ha : a ≤ T) (hT : T ≤ 40) : ∃ v ph', pm_Rd kK false D 198 [.ref 170, .ref 1048631] ph (v, ph', 0, 0) ∧ (∃ (z : Int32) (a' : Nat), v = some (.int z) ∧ xH xX kK m 0 ph' ∧ E ph' ∧ xps ph' T a' n c l ∧ ((z.toInt = -1 ∧ a' = a) ∨ (0 ≤ z.toInt ∧ z.toInt ≤ 1 ∧ a' = a + 1 ∧ a' ≤ T))) := by
  obtain ⟨v, ph', k1, z, p, hp, e, k2, k3, k4, z0, z1, k5, -⟩ := xprim hE hm h0m (ex := []) (b := 0) (fun E2 h => xso_198 h) (List.all_eq_true.mp xof_all_3 a (List.mem_range.mpr (by omega))) hD (vs := [.ref 170, .ref 1048631]) ⟨xaRi rfl (by decide), xaRi rfl (by decide), trivial⟩ xF0 hP g9 hs ha (Nat.zero_le _) hT
  refine ⟨v, ph', k1, z, p.2.2.1, e, k2, k3, k4, ?_⟩
  rcases List.mem_cons.mp hp with h | h
  · subst h
    exact Or.inl ⟨Int.le_antisymm z1 z0, rfl⟩
  · rcases List.mem_cons.mp h with h | h
    · subst h
      exact Or.inr ⟨z0, z1, rfl, k5⟩
    · cases h

set_option maxRecDepth 6000 in
theorem xcodes {E : pm_H → Prop} (hE : xHE xX xgA_RR xgF_RR E) {m : Int} (hm : m ≤ 2147483646) (h0m : (0 : Int) ≤ m) {D : Nat} {ph : pm_H} {T a n c : Nat} {l : List Int32} {y : Int32} (hP : xH xX kK m 0 ph) (g9 : E ph) (hs : xps ph T a n c l) (hc : c < 80) : ∃ v ph', pm_Rd kK false (D + 1) 212 [.ref 170, .int y] ph (v, ph', 0, 0) ∧ (v = none ∧ xH xX kK m 0 ph' ∧ E ph' ∧ xps ph' T a n (c + 1) (l.set c y)) := by
  obtain ⟨⟨x1, q1, e1⟩, ⟨x2, q2, e2⟩, ⟨x3, q3, e3⟩, ⟨x, qc, ec⟩, q5, q6⟩ := id hs
  refine xRd_mk (nl := 2) rfl rfl ?_
  show xGT kK D 212 _ (0, [some (.ref 170), some (.int y)], [], ph, 0, 0)
  refine gt_load (v := .ref 170) (n := 1) (ykc_212 (e := (2, .aload_n kF0, 0)) rfl) rfl rfl ?_
  refine gt_gfr (A := 180) (ykc_212 (e := (5, .getfield 59, 0)) rfl) rfl hP rfl rfl rfl ?_
  refine gt_load (v := .ref 170) (n := 1) (ykc_212 (e := (2, .aload_n kF0, 0)) rfl) rfl rfl ?_
  refine gt_gfk (v := .int x) (ykc_212 (e := (5, .getfield 227, 0)) rfl) rfl hP qc rfl ?_
  refine gt_load (v := .int y) (n := 1) (ykc_212 (e := (2, .iload_n kF1, 0)) rfl) rfl rfl ?_
  refine gt_ias (A := 180) (y := y) (x := x) (ykc_212 (e := (5, .iastore, 0)) rfl) hP rfl rfl (by omega) (by omega) xany rfl (fun ph1 hP1 u1 => ?_)
  have f1_24 : xget ph1 170 24 = some (.int x) := (u1.2.1 170 24 (fun q => absurd q.1 (by decide))).trans qc
  refine gt_load (v := .ref 170) (n := 1) (ykc_212 (e := (2, .aload_n kF0, 0)) rfl) rfl rfl ?_
  refine gt_alu (st' := [.ref 170, .ref 170]) (ykc_212 (e := (0, .dup, 0)) rfl) rfl rfl ?_
  refine gt_gfk (v := .int x) (ykc_212 (e := (5, .getfield 227, 0)) rfl) rfl hP1 f1_24 rfl ?_
  refine gt_alu (st' := [.int (Int32.ofInt 1), .int x, .ref 170]) (ykc_212 (e := (0, .iconst 1, 0)) rfl) rfl rfl ?_
  obtain ⟨y1, e_y1, h_y1⟩ : ∃ zq : Int32, x + (Int32.ofInt 1) = zq ∧ zq.toInt = x.toInt + 1 := ⟨_, rfl, by rw [ti_add (by rw [xi1]; omega) (by rw [xi1]; omega), xi1]⟩
  refine gt_alu (st' := [.int y1, .ref 170]) (ykc_212 (e := (0, .iadd, 0)) rfl) (by rw [← e_y1]; exact rfl) rfl ?_
  refine gt_pf (y := y1) (ykc_212 (e := (5, .putfield 227, 0)) rfl) rfl hP1 rfl rfl (by show 0 ≤ y1.toInt; omega) (by show y1.toInt ≤ 80; omega) rfl (fun ph2 hP2 u2 => ?_)
  refine gt_ret (ykc_212 (e := (7, .return_, 0)) rfl) rfl ?_
  obtain ⟨l', hat', hlen', -⟩ := xA_at (A := 180) hP1 rfl rfl
  have el := xu1_list q5 hat' (by omega) (by omega) u1
  have ek : x.toInt.toNat = c := by omega
  rw [ek] at el
  have w1 : ∀ k, k ≠ 24 → xget ph2 170 k = xget ph 170 k := fun k hk => (u2.2.1 170 k (fun q => hk q.2)).trans (u1.2.1 170 k (fun q => absurd q.1 (by decide)))
  refine ⟨rfl, hP2, xu1_E hE u2 rfl rfl rfl (xu1_E hE u1 rfl rfl rfl g9), ⟨x1, (w1 _ (by decide)).trans q1, e1⟩, ⟨x2, (w1 _ (by decide)).trans q2, e2⟩, ⟨x3, (w1 _ (by decide)).trans q3, e3⟩, ⟨y1, u2.1, by omega⟩, ?_, by rw [List.length_set]; exact q6⟩
  rw [u2.2.2 180 (by decide), hat', el]

set_option maxRecDepth 6000 in
theorem xps_nest {ph ph' : pm_H} {T a n c n' : Nat} {l : List Int32} {y : Int32} (h : xps ph T a n c l) (u : xu1 ph ph' 170 17 (.int y)) (hy : y.toInt = (n' : Int)) : xps ph' T a n' c l := by
  obtain ⟨⟨x1, q1, e1⟩, ⟨x2, q2, e2⟩, -, ⟨x4, q4, e4⟩, q5, q6⟩ := h
  exact ⟨⟨x1, (u.2.1 170 _ (by decide)).trans q1, e1⟩, ⟨x2, (u.2.1 170 _ (by decide)).trans q2, e2⟩, ⟨y, u.1, hy⟩, ⟨x4, (u.2.1 170 _ (by decide)).trans q4, e4⟩, (u.2.2 180 (by decide)).trans q5, q6⟩
set_option maxRecDepth 6000 in
theorem xtake_set {l : List Int32} {c : Nat} {y : Int32} (h : c < l.length) : (l.set c y).take (c + 1) = l.take c ++ [y] := by
  rw [List.take_succ, List.getElem?_set_self h, List.take_set_of_le (Nat.le_refl c)]
  rfl
/-- what reading one thing comes to -/
def xrdE (E : pm_H → Prop) (m : Int) (D j : Nat) (vs : List Value) (ph : pm_H) (T a n c : Nat) (l : List Int32) : Prop := ∃ v ph', pm_Rd kK false D j vs ph (v, ph', 0, 0) ∧ (∃ (z : Int32) (a' n' c' : Nat) (l' : List Int32), v = some (.int z) ∧ xH xX kK m 0 ph' ∧ E ph' ∧ xps ph' T a' n' c' l' ∧ xrd T a n c l z.toInt a' n' c' l')
def xAsk (E : pm_H → Prop) (m : Int) (F : Nat) : Prop := ∀ (D : Nat) (ph : pm_H) (T a n c : Nat) (l : List Int32), F + 8 ≤ D → xH xX kK m 0 ph → E ph → xps ph T a n c l → a ≤ T → T ≤ 40 → n ≤ 4 → c ≤ a → T - a + 6 * (4 - n) ≤ F → xrdE E m D 213 [.ref 170] ph T a n c l
def xRnk (E : pm_H → Prop) (m : Int) (F : Nat) : Prop := ∀ (D : Nat) (ph : pm_H) (T a n c r : Nat) (y : Int32) (l : List Int32), F + 8 ≤ D → xH xX kK m 0 ph → E ph → xps ph T a n c l → a ≤ T → T ≤ 40 → n ≤ 4 → c ≤ a → y.toInt = (r : Int) → r ≤ 3 → T - a + 6 * (4 - n) + (4 - r) ≤ F → xrdE E m D 214 [.ref 170, .int y] ph T a n c l

set_option maxRecDepth 6000 in
theorem x4i : (Int32.ofInt 4).toInt = 4 := by decide
set_option maxRecDepth 6000 in
theorem xask_step {E : pm_H → Prop} (hE : xHE xX xgA_RR xgF_RR E) {m : Int} (hm : m ≤ 2147483646) (h0m : (0 : Int) ≤ m) {F : Nat} (ih : ∀ F', F' < F → xAsk E m F' ∧ xRnk E m F') : xAsk E m F := by
  intro D ph T a n c l hD hP g9 hs ha hT hn hca hF
  have ihA : 0 < F → xAsk E m (F - 1) := fun h => (ih _ (by omega)).1
  have ihR : 0 < F → xRnk E m (F - 1) := fun h => (ih _ (by omega)).2
  obtain ⟨D', rfl⟩ : ∃ D', D = D' + 1 + 1 := ⟨D - 2, by omega⟩
  unfold xrdE
  refine xRd_mk (nl := 2) rfl rfl ?_
  show xGT kK (D' + 1) 213 _ (0, [some (.ref 170), none], [], ph, 0, 0)
  refine gt_load (v := .ref 170) (n := 1) (ykc_213 (e := (2, .aload_n kF0, 0)) rfl) rfl rfl ?_
  refine gt_push (v := .int ((Int8.ofInt 45).toInt32)) (n := 2) (ykc_213 (e := (1, .bipush 45, 0)) rfl) rfl rfl ?_
  refine gt_cv (n := 1) (as := [.ref 170, .int ((Int8.ofInt 45).toInt32)]) (r := []) (ykc_213 (e := (6, .invokevirtual 209, 0)) rfl) rfl hP rfl rfl rfl (xtakes hE hm h0m (by omega) hP g9 hs ha hT) rfl (fun vv ph1 hv => ?_)
  obtain ⟨z1, a1, e9, hP1, g91, hs1, hz1⟩ := hv; subst e9
  change xGT kK (D' + 1) 213 _ (6, [some (.ref 170), none], [.int z1], ph1, 0, 0)
  by_cases hq1 : z1.toInt = 0
  case neg =>
    have hz1 : a1 = a + 1 ∧ a1 ≤ T := by omega
    obtain ⟨ea1, ha1⟩ := hz1
    replace ihA := ihA (by omega)
    refine gt_zeq_f (ykc_213 (e := (4, .ifCond .eq 17, 23)) rfl) hq1 rfl ?_
    refine gt_load (v := .ref 170) (n := 1) (ykc_213 (e := (2, .aload_n kF0, 0)) rfl) rfl rfl ?_
    refine gt_cv (n := 0) (as := [.ref 170]) (r := []) (ykc_213 (e := (6, .invokevirtual 230, 0)) rfl) rfl hP1 rfl rfl rfl (ihA (D' + 1) ph1 T a1 n c l (by omega) hP1 g91 hs1 (by omega) hT hn (by omega) (by omega)) rfl (fun vv ph102 hv => ?_)
    obtain ⟨z2, a2, n2, c2, l2, e9, hP2, g92, hs2, hr2⟩ := hv; subst e9
    obtain ⟨b1, b2, b3, b4, b5, b6, b7⟩ := hr2
    have hc80 : c2 < 80 := by omega
    change xGT kK (D' + 1) 213 _ (13, [some (.ref 170), none], [.int z2], ph102, 0, 0)
    refine gt_store (L' := [some (.ref 170), some (.int z2)]) (st' := []) (n := 1) (ykc_213 (e := (3, .istore_n kF1, 0)) rfl) rfl rfl ?_
    refine gt_load (v := .ref 170) (n := 1) (ykc_213 (e := (2, .aload_n kF0, 0)) rfl) rfl rfl ?_
    refine gt_push (v := .int ((Int16.ofInt 3000).toInt32)) (n := 3) (ykc_213 (e := (1, .sipush 3000, 0)) rfl) rfl rfl ?_
    refine gt_cv (n := 1) (as := [.ref 170, .int ((Int16.ofInt 3000).toInt32)]) (r := []) (ykc_213 (e := (6, .invokevirtual 233, 0)) rfl) rfl hP2 rfl rfl rfl (xcodes (D := D') hE hm h0m hP2 g92 hs2 hc80) rfl (fun vv ph103 hv => ?_)
    obtain ⟨e9, hP3, g93, hs3⟩ := hv; subst e9
    change xGT kK (D' + 1) 213 _ (21, [some (.ref 170), some (.int z2)], [], ph103, 0, 0)
    refine gt_load (v := .int z2) (n := 1) (ykc_213 (e := (2, .iload_n kF1, 0)) rfl) rfl rfl ?_
    refine gt_ret (ykc_213 (e := (7, .ireturn, 0)) rfl) (xretz (by omega) (by omega)) ?_
    refine ⟨z2, a2, n2, c2 + 1, _, rfl, hP3, g93, hs3, by omega, b2, by omega, by omega, b5, b6, fun hz => ?_⟩
    obtain ⟨b8, seg, b9, b10⟩ := b7 hz
    refine ⟨b8, seg ++ [(Int16.ofInt 3000).toInt32], xvs_less b9 x3000, ?_⟩
    have hl80 : l2.length = 80 := hs2.2.2.2.2.2
    rw [xtake_set (by omega), b10, List.append_assoc]
  case pos =>
    have ea1 : a1 = a := by omega
    subst ea1
    refine gt_zeq_t (ykc_213 (e := (4, .ifCond .eq 17, 23)) rfl) hq1 ?_
    refine gt_load (v := .ref 170) (n := 1) (ykc_213 (e := (2, .aload_n kF0, 0)) rfl) rfl rfl ?_
    refine gt_cv (n := 0) (as := [.ref 170]) (r := []) (ykc_213 (e := (6, .invokevirtual 171, 0)) rfl) rfl hP1 rfl rfl rfl (xdigit hE hm h0m (by omega) hP1 g91 hs1 (by omega) hT) rfl (fun vv ph102 hv => ?_)
    obtain ⟨z4, e9, hP4, g94, hs4, hz4⟩ := hv; subst e9
    change xGT kK (D' + 1) 213 _ (27, [some (.ref 170), none], [.int z4], ph102, 0, 0)
    by_cases hq4 : z4.toInt = 0
    case neg =>
      have hz4 : a1 + 1 ≤ T ∧ xhF xX m ph102 [(176 * 4096 + a1, .inl (48, 57))] := by
        rcases hz4 with h | h
        · exact absurd h hq4
        · exact h.2
      obtain ⟨hd1, hd2⟩ := hz4
      refine gt_zeq_f (ykc_213 (e := (4, .ifCond .eq 14, 41)) rfl) hq4 rfl ?_
      refine gt_load (v := .ref 170) (n := 1) (ykc_213 (e := (2, .aload_n kF0, 0)) rfl) rfl rfl ?_
      refine gt_load (v := .ref 170) (n := 1) (ykc_213 (e := (2, .aload_n kF0, 0)) rfl) rfl rfl ?_
      refine gt_alu (st' := [.int (Int32.ofInt 3), .ref 170, .ref 170]) (ykc_213 (e := (0, .iconst 3, 0)) rfl) rfl rfl ?_
      refine gt_cv (n := 1) (as := [.ref 170, .int (Int32.ofInt 3)]) (r := [.ref 170]) (ykc_213 (e := (6, .invokevirtual 224, 0)) rfl) rfl hP4 rfl rfl rfl (xnumber hE hm h0m (by omega) (by decide) hP4 g94 hs4 hd1 hT hd2) rfl (fun vv ph203 hv => ?_)
      obtain ⟨z5, a5, e9, hP5, g95, hs5, b1, b2, b3, b4⟩ := hv; subst e9
      change xGT kK (D' + 1) 213 _ (36, [some (.ref 170), none], [.int z5, .ref 170], ph203, 0, 0)
      refine gt_cv (n := 1) (as := [.ref 170, .int z5]) (r := []) (ykc_213 (e := (6, .invokevirtual 233, 0)) rfl) rfl hP5 rfl rfl rfl (xcodes (D := D') hE hm h0m hP5 g95 hs5 (by omega)) rfl (fun vv ph204 hv => ?_)
      obtain ⟨e9, hP6, g96, hs6⟩ := hv; subst e9
      change xGT kK (D' + 1) 213 _ (39, [some (.ref 170), none], [], ph204, 0, 0)
      refine gt_alu (st' := [.int (Int32.ofInt 1)]) (ykc_213 (e := (0, .iconst 1, 0)) rfl) rfl rfl ?_
      refine gt_ret (ykc_213 (e := (7, .ireturn, 0)) rfl) (xretz (by decide) (by decide)) ?_
      refine ⟨_, a5, n, c + 1, _, rfl, hP6, g96, hs6, by omega, b4, by omega, by omega, hn, Or.inr rfl, fun _ => ⟨rfl, [z5], xvs_1 (Or.inl (by omega)), ?_⟩⟩
      have hl80 : l.length = 80 := hs.2.2.2.2.2
      exact xtake_set (by omega)
    case pos =>
      refine gt_zeq_t (ykc_213 (e := (4, .ifCond .eq 14, 41)) rfl) hq4 ?_
      refine gt_load (v := .ref 170) (n := 1) (ykc_213 (e := (2, .aload_n kF0, 0)) rfl) rfl rfl ?_
      refine gt_push (v := .ref 1048628) (n := 2) (ykc_213 (e := (1, .ldc 237, 0)) rfl) rfl rfl ?_
      refine gt_cv (n := 1) (as := [.ref 170, .ref 1048628]) (r := []) (ykc_213 (e := (6, .invokevirtual 184, 0)) rfl) rfl hP4 rfl rfl rfl (xof_0 hE hm h0m (by omega) hP4 g94 hs4 (by omega) hT) rfl (fun vv ph203 hv => ?_)
      obtain ⟨z7, a7, e9, hP7, g97, hs7, hz7⟩ := hv; subst e9
      change xGT kK (D' + 1) 213 _ (47, [some (.ref 170), none], [.int z7], ph203, 0, 0)
      refine gt_store (L' := [some (.ref 170), some (.int z7)]) (st' := []) (n := 1) (ykc_213 (e := (3, .istore_n kF1, 0)) rfl) rfl rfl ?_
      refine gt_load (v := .int z7) (n := 1) (ykc_213 (e := (2, .iload_n kF1, 0)) rfl) rfl rfl ?_
      by_cases hq7 : z7.toInt < 0
      case neg =>
        have hz7 : z7.toInt ≤ 7 ∧ a7 = a1 + 1 ∧ a7 ≤ T := by omega
        obtain ⟨h71, h72, h73⟩ := hz7
        refine gt_zlt_f (ykc_213 (e := (4, .ifCond .lt 14, 63)) rfl) (by omega) rfl ?_
        refine gt_load (v := .ref 170) (n := 1) (ykc_213 (e := (2, .aload_n kF0, 0)) rfl) rfl rfl ?_
        refine gt_push (v := .int ((Int16.ofInt 1000).toInt32)) (n := 3) (ykc_213 (e := (1, .sipush 1000, 0)) rfl) rfl rfl ?_
        refine gt_load (v := .int z7) (n := 1) (ykc_213 (e := (2, .iload_n kF1, 0)) rfl) rfl rfl ?_
        obtain ⟨y8, e_y8, h_y8⟩ : ∃ zq : Int32, ((Int16.ofInt 1000).toInt32) + z7 = zq ∧ zq.toInt = 1000 + z7.toInt := ⟨_, rfl, by rw [ti_add (by rw [x1000]; omega) (by rw [x1000]; omega), x1000]⟩
        refine gt_alu (st' := [.int y8, .ref 170]) (ykc_213 (e := (0, .iadd, 0)) rfl) (by rw [← e_y8]; exact rfl) rfl ?_
        refine gt_cv (n := 1) (as := [.ref 170, .int y8]) (r := []) (ykc_213 (e := (6, .invokevirtual 233, 0)) rfl) rfl hP7 rfl rfl rfl (xcodes (D := D') hE hm h0m hP7 g97 hs7 (by omega)) rfl (fun vv ph304 hv => ?_)
        obtain ⟨e9, hP8, g98, hs8⟩ := hv; subst e9
        change xGT kK (D' + 1) 213 _ (61, [some (.ref 170), some (.int z7)], [], ph304, 0, 0)
        refine gt_alu (st' := [.int (Int32.ofInt 1)]) (ykc_213 (e := (0, .iconst 1, 0)) rfl) rfl rfl ?_
        refine gt_ret (ykc_213 (e := (7, .ireturn, 0)) rfl) (xretz (by decide) (by decide)) ?_
        refine ⟨_, a7, n, c + 1, _, rfl, hP8, g98, hs8, by omega, h73, by omega, by omega, hn, Or.inr rfl, fun _ => ⟨rfl, [y8], xvs_1 (Or.inr ⟨by omega, by omega⟩), ?_⟩⟩
        have hl80 : l.length = 80 := hs.2.2.2.2.2
        exact xtake_set (by omega)
      case pos =>
        have ea7 : a7 = a1 := by omega
        subst ea7
        obtain ⟨-, -, ⟨xn, qn, en⟩, -, -, -⟩ := id hs7
        refine gt_zlt_t (ykc_213 (e := (4, .ifCond .lt 14, 63)) rfl) (by omega) ?_
        refine gt_load (v := .ref 170) (n := 1) (ykc_213 (e := (2, .aload_n kF0, 0)) rfl) rfl rfl ?_
        refine gt_gfk (v := .int xn) (ykc_213 (e := (5, .getfield 142, 0)) rfl) rfl hP7 qn rfl ?_
        refine gt_alu (st' := [.int (Int32.ofInt 4), .int xn]) (ykc_213 (e := (0, .iconst 4, 0)) rfl) rfl rfl ?_
        by_cases hn4 : n = 4
        · refine gt_ieq_t (ykc_213 (e := (4, .if_icmp .eq 12, 80)) rfl) (by rw [x4i]; omega) ?_
          refine gt_alu (st' := [.int (Int32.ofInt 0)]) (ykc_213 (e := (0, .iconst 0, 0)) rfl) rfl rfl ?_
          refine gt_ret (ykc_213 (e := (7, .ireturn, 0)) rfl) (xretz (by decide) (by decide)) ?_
          exact ⟨_, a7, n, c, l, rfl, hP7, g97, hs7, by omega, ha, Nat.le_refl _, by omega, hn, Or.inl rfl, fun q => absurd q (by decide)⟩
        · refine gt_ieq_f (ykc_213 (e := (4, .if_icmp .eq 12, 80)) rfl) (by rw [x4i]; omega) rfl ?_
          refine gt_load (v := .ref 170) (n := 1) (ykc_213 (e := (2, .aload_n kF0, 0)) rfl) rfl rfl ?_
          refine gt_push (v := .int ((Int8.ofInt 40).toInt32)) (n := 2) (ykc_213 (e := (1, .bipush 40, 0)) rfl) rfl rfl ?_
          refine gt_cv (n := 1) (as := [.ref 170, .int ((Int8.ofInt 40).toInt32)]) (r := []) (ykc_213 (e := (6, .invokevirtual 209, 0)) rfl) rfl hP7 rfl rfl rfl (xtakes hE hm h0m (by omega) hP7 g97 hs7 (by omega) hT) rfl (fun vv ph404 hv => ?_)
          obtain ⟨z9, a9, e9, hP9, g99, hs9, hz9⟩ := hv; subst e9
          change xGT kK (D' + 1) 213 _ (77, [some (.ref 170), some (.int z7)], [.int z9], ph404, 0, 0)
          by_cases hq9 : z9.toInt ≠ 0
          case neg =>
            have ea9 : a9 = a7 := by omega
            subst ea9
            refine gt_zne_f (ykc_213 (e := (4, .ifCond .ne 5, 82)) rfl) (by omega) rfl ?_
            refine gt_alu (st' := [.int (Int32.ofInt 0)]) (ykc_213 (e := (0, .iconst 0, 0)) rfl) rfl rfl ?_
            refine gt_ret (ykc_213 (e := (7, .ireturn, 0)) rfl) (xretz (by decide) (by decide)) ?_
            exact ⟨_, a9, n, c, l, rfl, hP9, g99, hs9, by omega, ha, Nat.le_refl _, by omega, hn, Or.inl rfl, fun q => absurd q (by decide)⟩
          case pos =>
            have hz9 : a9 = a7 + 1 ∧ a9 ≤ T := by omega
            obtain ⟨h91, h92⟩ := hz9
            replace ihR := ihR (by omega)
            obtain ⟨-, -, ⟨xn9, qn9, en9⟩, -, -, -⟩ := id hs9
            refine gt_zne_t (ykc_213 (e := (4, .ifCond .ne 5, 82)) rfl) hq9 ?_
            refine gt_load (v := .ref 170) (n := 1) (ykc_213 (e := (2, .aload_n kF0, 0)) rfl) rfl rfl ?_
            refine gt_alu (st' := [.ref 170, .ref 170]) (ykc_213 (e := (0, .dup, 0)) rfl) rfl rfl ?_
            refine gt_gfk (v := .int xn9) (ykc_213 (e := (5, .getfield 142, 0)) rfl) rfl hP9 qn9 rfl ?_
            refine gt_alu (st' := [.int (Int32.ofInt 1), .int xn9, .ref 170]) (ykc_213 (e := (0, .iconst 1, 0)) rfl) rfl rfl ?_
            obtain ⟨n1, e_n1, h_n1⟩ : ∃ zq : Int32, xn9 + (Int32.ofInt 1) = zq ∧ zq.toInt = xn9.toInt + 1 := ⟨_, rfl, by rw [ti_add (by rw [xi1]; omega) (by rw [xi1]; omega), xi1]⟩
            refine gt_alu (st' := [.int n1, .ref 170]) (ykc_213 (e := (0, .iadd, 0)) rfl) (by rw [← e_n1]; exact rfl) rfl ?_
            refine gt_pf (y := n1) (ykc_213 (e := (5, .putfield 142, 0)) rfl) rfl hP9 rfl rfl (by show 0 ≤ n1.toInt; omega) (by show n1.toInt ≤ 4; omega) rfl (fun ph505 hP505 u505 => ?_)
            have gN := xu1_E hE u505 rfl rfl rfl g99
            have hsN := xps_nest (n' := n + 1) hs9 u505 (by omega)
            refine gt_load (v := .ref 170) (n := 1) (ykc_213 (e := (2, .aload_n kF0, 0)) rfl) rfl rfl ?_
            refine gt_alu (st' := [.int (Int32.ofInt 0), .ref 170]) (ykc_213 (e := (0, .iconst 0, 0)) rfl) rfl rfl ?_
            refine gt_cv (n := 1) (as := [.ref 170, .int (Int32.ofInt 0)]) (r := []) (ykc_213 (e := (6, .invokevirtual 239, 0)) rfl) rfl hP505 rfl rfl rfl (ihR (D' + 1) ph505 T a9 (n + 1) c 0 _ l (by omega) hP505 gN hsN (by omega) hT (by omega) (by omega) (by decide) (by decide) (by omega)) rfl (fun vv ph506 hv => ?_)
            obtain ⟨zA, aA, nA, cA, lA, e9, hPA, g9A, hsA, hrA⟩ := hv; subst e9
            change xGT kK (D' + 1) 213 _ (97, [some (.ref 170), some (.int z7)], [.int zA], ph506, 0, 0)
            obtain ⟨b1, b2, b3, b4, b5, b6, b7⟩ := hrA
            by_cases hqA : zA.toInt = 0
            · refine gt_zeq_t (ykc_213 (e := (4, .ifCond .eq 12, 109)) rfl) hqA ?_
              refine gt_alu (st' := [.int (Int32.ofInt 0)]) (ykc_213 (e := (0, .iconst 0, 0)) rfl) rfl rfl ?_
              refine gt_ret (ykc_213 (e := (7, .ireturn, 0)) rfl) (xretz (by decide) (by decide)) ?_
              exact ⟨_, aA, nA, cA, lA, rfl, hPA, g9A, hsA, by omega, b2, b3, by omega, b5, Or.inl rfl, fun q => absurd q (by decide)⟩
            · obtain ⟨b8, seg, b9, b10⟩ := b7 (by omega)
              refine gt_zeq_f (ykc_213 (e := (4, .ifCond .eq 12, 109)) rfl) hqA rfl ?_
              refine gt_load (v := .ref 170) (n := 1) (ykc_213 (e := (2, .aload_n kF0, 0)) rfl) rfl rfl ?_
              refine gt_push (v := .int ((Int8.ofInt 41).toInt32)) (n := 2) (ykc_213 (e := (1, .bipush 41, 0)) rfl) rfl rfl ?_
              refine gt_cv (n := 1) (as := [.ref 170, .int ((Int8.ofInt 41).toInt32)]) (r := []) (ykc_213 (e := (6, .invokevirtual 209, 0)) rfl) rfl hPA rfl rfl rfl (xtakes hE hm h0m (by omega) hPA g9A hsA (by omega) hT) rfl (fun vv ph607 hv => ?_)
              obtain ⟨zB, aB, e9, hPB, g9B, hsB, hzB⟩ := hv; subst e9
              change xGT kK (D' + 1) 213 _ (106, [some (.ref 170), some (.int z7)], [.int zB], ph607, 0, 0)
              by_cases hqB : zB.toInt ≠ 0
              case neg =>
                have eaB : aB = aA := by omega
                subst eaB
                refine gt_zne_f (ykc_213 (e := (4, .ifCond .ne 5, 111)) rfl) (by omega) rfl ?_
                refine gt_alu (st' := [.int (Int32.ofInt 0)]) (ykc_213 (e := (0, .iconst 0, 0)) rfl) rfl rfl ?_
                refine gt_ret (ykc_213 (e := (7, .ireturn, 0)) rfl) (xretz (by decide) (by decide)) ?_
                exact ⟨_, aB, nA, cA, lA, rfl, hPB, g9B, hsB, by omega, b2, b3, by omega, b5, Or.inl rfl, fun q => absurd q (by decide)⟩
              case pos =>
                have hzB : aB = aA + 1 ∧ aB ≤ T := by omega
                obtain ⟨hB1, hB2⟩ := hzB
                obtain ⟨-, -, ⟨xnB, qnB, enB⟩, -, -, -⟩ := id hsB
                refine gt_zne_t (ykc_213 (e := (4, .ifCond .ne 5, 111)) rfl) hqB ?_
                refine gt_load (v := .ref 170) (n := 1) (ykc_213 (e := (2, .aload_n kF0, 0)) rfl) rfl rfl ?_
                refine gt_alu (st' := [.ref 170, .ref 170]) (ykc_213 (e := (0, .dup, 0)) rfl) rfl rfl ?_
                refine gt_gfk (v := .int xnB) (ykc_213 (e := (5, .getfield 142, 0)) rfl) rfl hPB qnB rfl ?_
                refine gt_alu (st' := [.int (Int32.ofInt 1), .int xnB, .ref 170]) (ykc_213 (e := (0, .iconst 1, 0)) rfl) rfl rfl ?_
                obtain ⟨n2, e_n2, h_n2⟩ : ∃ zq : Int32, xnB - (Int32.ofInt 1) = zq ∧ zq.toInt = xnB.toInt - 1 := ⟨_, rfl, by rw [ti_sub (by rw [xi1]; omega) (by rw [xi1]; omega), xi1]⟩
                refine gt_alu (st' := [.int n2, .ref 170]) (ykc_213 (e := (0, .isub, 0)) rfl) (by rw [← e_n2]; exact rfl) rfl ?_
                refine gt_pf (y := n2) (ykc_213 (e := (5, .putfield 142, 0)) rfl) rfl hPB rfl rfl (by show 0 ≤ n2.toInt; omega) (by show n2.toInt ≤ 4; omega) rfl (fun ph708 hP708 u708 => ?_)
                refine gt_alu (st' := [.int (Int32.ofInt 1)]) (ykc_213 (e := (0, .iconst 1, 0)) rfl) rfl rfl ?_
                refine gt_ret (ykc_213 (e := (7, .ireturn, 0)) rfl) (xretz (by decide) (by decide)) ?_
                exact ⟨_, aB, n, cA, lA, rfl, hP708, xu1_E hE u708 rfl rfl rfl g9B, xps_nest (n' := n) hsB u708 (by omega), by omega, hB2, b3, by omega, hn, Or.inr rfl, fun _ => ⟨rfl, seg, b9, b10⟩⟩

set_option maxRecDepth 6000 in
theorem xo0 : (Int32.ofInt 0).toInt = 0 := by decide
set_option maxRecDepth 6000 in
theorem xo3 : (Int32.ofInt 3).toInt = 3 := by decide
set_option maxRecDepth 6000 in
theorem xo5 : (Int32.ofInt 5).toInt = 5 := by decide
set_option maxRecDepth 6000 in
theorem x3i : (Int32.ofInt 3).toInt = 3 := by decide

set_option maxRecDepth 6000 in
theorem xrank_loop0 {E : pm_H → Prop} (hE : xHE xX xgA_RR xgF_RR E) {m : Int} (hm : m ≤ 2147483646) (h0m : (0 : Int) ≤ m) {F D' T a n c : Nat} {l : List Int32} {y : Int32} {Q : Option Value → pm_H → Prop} (ihR : xRnk E m F) (hD : F + 8 ≤ D' + 1) (hT : T ≤ 40) (hn : n ≤ 4) (hy : y.toInt = 0) (hF : T - a + 6 * (4 - n) + (4 - 0) ≤ F + 1) (hQ : ∀ (z : Int32) (a' n' c' : Nat) (l' : List Int32) (ph' : pm_H), xH xX kK m 0 ph' → E ph' → xps ph' T a' n' c' l' → xrd T a n c l z.toInt a' n' c' l' → Q (some (.int z)) ph') : ∀ (s a2 c2 : Nat) (l2 : List Int32) (ph2 : pm_H) (seg2 : List Int32) (o3 : Option Value), xH xX kK m 0 ph2 → E ph2 → xps ph2 T a2 n c2 l2 → a2 ≤ T → a < a2 → c2 ≤ a2 → c ≤ c2 → c2 + a ≤ a2 + c → T - a2 < s → xvs seg2 → l2.take c2 = l.take c ++ seg2 → xGT kK (D' + 1) 214 Q (24, [some (.ref 170), some (.int y), some (.int (Int32.ofInt 1)), o3], [], ph2, 0, 0) := by
  intro s
  induction s with
  | zero => intro a2 c2 l2 ph2 seg2 o3 _ _ _ _ _ _ _ _ h; omega
  | succ s ih2 =>
    intro a2 c2 l2 ph2 seg2 o3 hP2 g92 hs2 ha2 haa hca hcc hcd hsl hv2 ht2
    refine gt_load (v := .int (Int32.ofInt 1)) (n := 1) (ykc_214 (e := (2, .iload_n kF2, 0)) rfl) rfl rfl ?_
    refine gt_zeq_f (ykc_214 (e := (4, .ifCond .eq 88, 113)) rfl) (by decide) rfl ?_
    refine gt_load (v := .ref 170) (n := 1) (ykc_214 (e := (2, .aload_n kF0, 0)) rfl) rfl rfl ?_
    refine gt_load (v := .int y) (n := 1) (ykc_214 (e := (2, .iload_n kF1, 0)) rfl) rfl rfl ?_
    refine gt_zne_f (ykc_214 (e := (4, .ifCond .ne 8, 38)) rfl) (by omega) rfl ?_
    refine gt_push (v := .ref 1048629) (n := 2) (ykc_214 (e := (1, .ldc 242, 0)) rfl) rfl rfl ?_
    refine gt_br (pc' := 50) (st' := [.ref 1048629, .ref 170]) (ykc_214 (e := (4, .goto 15, 50)) rfl) rfl ?_
    refine gt_cv (n := 1) (as := [.ref 170, .ref 1048629]) (r := []) (ykc_214 (e := (6, .invokevirtual 184, 0)) rfl) rfl hP2 rfl rfl rfl (xof_1 hE hm h0m (by omega) hP2 g92 hs2 ha2 hT) rfl (fun vv ph1 hv => ?_)
    obtain ⟨z3, a3, e9, hP3, g93, hs3, hz3⟩ := hv; subst e9
    change xGT kK (D' + 1) 214 Q (53, [some (.ref 170), some (.int y), some (.int (Int32.ofInt 1)), o3], [.int z3], ph1, 0, 0)
    refine gt_store (L' := [some (.ref 170), some (.int y), some (.int (Int32.ofInt 1)), some (.int z3)]) (st' := []) (n := 1) (ykc_214 (e := (3, .istore_n kF3, 0)) rfl) rfl rfl ?_
    refine gt_load (v := .int z3) (n := 1) (ykc_214 (e := (2, .iload_n kF3, 0)) rfl) rfl rfl ?_
    by_cases hq3 : z3.toInt < 0
    · refine gt_zge_f (ykc_214 (e := (4, .ifCond .ge 5, 60)) rfl) hq3 rfl ?_
      refine gt_alu (st' := [.int (Int32.ofInt 1)]) (ykc_214 (e := (0, .iconst 1, 0)) rfl) rfl rfl ?_
      refine gt_ret (ykc_214 (e := (7, .ireturn, 0)) rfl) (xretz (by decide) (by decide)) ?_
      have ea : a3 = a2 := by omega
      subst ea
      exact hQ _ a3 n c2 l2 _ hP3 g93 hs3 ⟨by omega, ha2, hcc, hcd, hn, Or.inr rfl, fun _ => ⟨rfl, seg2, hv2, ht2⟩⟩
    · have hz3 : z3.toInt ≤ 2 ∧ a3 = a2 + 1 ∧ a3 ≤ T := by omega
      obtain ⟨h31, h32, h33⟩ := hz3
      refine gt_zge_t (ykc_214 (e := (4, .ifCond .ge 5, 60)) rfl) (by omega) ?_
      refine gt_load (v := .ref 170) (n := 1) (ykc_214 (e := (2, .aload_n kF0, 0)) rfl) rfl rfl ?_
      refine gt_load (v := .int y) (n := 1) (ykc_214 (e := (2, .iload_n kF1, 0)) rfl) rfl rfl ?_
      refine gt_alu (st' := [.int (Int32.ofInt 1), .int y, .ref 170]) (ykc_214 (e := (0, .iconst 1, 0)) rfl) rfl rfl ?_
      obtain ⟨y1, e_y1, h_y1⟩ : ∃ zq : Int32, y + (Int32.ofInt 1) = zq ∧ zq.toInt = y.toInt + 1 := ⟨_, rfl, by rw [ti_add (by rw [xi1]; omega) (by rw [xi1]; omega), xi1]⟩
      refine gt_alu (st' := [.int y1, .ref 170]) (ykc_214 (e := (0, .iadd, 0)) rfl) (by rw [← e_y1]; exact rfl) rfl ?_
      refine gt_cv (n := 1) (as := [.ref 170, .int y1]) (r := []) (ykc_214 (e := (6, .invokevirtual 239, 0)) rfl) rfl hP3 rfl rfl rfl (ihR (D' + 1) ph1 T a3 n c2 (0 + 1) y1 l2 (by omega) hP3 g93 hs3 (by omega) hT hn (by omega) (by omega) (by omega) (by omega)) rfl (fun vv ph102 hv => ?_)
      obtain ⟨z4, a4, n4, c4, l4, e9, hP4, g94, hs4, hr4⟩ := hv; subst e9
      change xGT kK (D' + 1) 214 Q (67, [some (.ref 170), some (.int y), some (.int (Int32.ofInt 1)), some (.int z3)], [.int z4], ph102, 0, 0)
      obtain ⟨b1, b2, b3, b4, b5, b6, b7⟩ := hr4
      by_cases hq4 : z4.toInt ≠ 0
      case neg =>
        refine gt_zne_f (ykc_214 (e := (4, .ifCond .ne 5, 72)) rfl) (by omega) rfl ?_
        refine gt_alu (st' := [.int (Int32.ofInt 0)]) (ykc_214 (e := (0, .iconst 0, 0)) rfl) rfl rfl ?_
        refine gt_ret (ykc_214 (e := (7, .ireturn, 0)) rfl) (xretz (by decide) (by decide)) ?_
        exact hQ _ a4 n4 c4 l4 _ hP4 g94 hs4 ⟨by omega, b2, by omega, by omega, b5, Or.inl rfl, fun q => absurd q (by decide)⟩
      case pos =>
        obtain ⟨b8, seg4, b9, b10⟩ := b7 (by omega)
        have b88 := b8.symm; subst b88
        have hl80 : l4.length = 80 := hs4.2.2.2.2.2
        refine gt_zne_t (ykc_214 (e := (4, .ifCond .ne 5, 72)) rfl) hq4 ?_
        refine gt_load (v := .ref 170) (n := 1) (ykc_214 (e := (2, .aload_n kF0, 0)) rfl) rfl rfl ?_
        refine gt_push (v := .int ((Int16.ofInt 2000).toInt32)) (n := 3) (ykc_214 (e := (1, .sipush 2000, 0)) rfl) rfl rfl ?_
        refine gt_load (v := .int z3) (n := 1) (ykc_214 (e := (2, .iload_n kF3, 0)) rfl) rfl rfl ?_
        obtain ⟨y5, e_y5, h_y5⟩ : ∃ zq : Int32, ((Int16.ofInt 2000).toInt32) + z3 = zq ∧ zq.toInt = 2000 + z3.toInt := ⟨_, rfl, by rw [ti_add (by rw [x2000]; omega) (by rw [x2000]; omega), x2000]⟩
        refine gt_alu (st' := [.int y5, .ref 170]) (ykc_214 (e := (0, .iadd, 0)) rfl) (by rw [← e_y5]; exact rfl) rfl ?_
        refine gt_load (v := .int y) (n := 1) (ykc_214 (e := (2, .iload_n kF1, 0)) rfl) rfl rfl ?_
        refine gt_zne_f (ykc_214 (e := (4, .ifCond .ne 7, 86)) rfl) (by omega) rfl ?_
        refine gt_alu (st' := [.int (Int32.ofInt 0), .int y5, .ref 170]) (ykc_214 (e := (0, .iconst 0, 0)) rfl) rfl rfl ?_
        refine gt_br (pc' := 96) (st' := [.int (Int32.ofInt 0), .int y5, .ref 170]) (ykc_214 (e := (4, .goto 13, 96)) rfl) rfl ?_
        obtain ⟨y6, e_y6, h_y6⟩ : ∃ zq : Int32, y5 + (Int32.ofInt 0) = zq ∧ zq.toInt = 2000 + z3.toInt + 0 := ⟨_, rfl, by rw [ti_add (by rw [h_y5, xo0]; omega) (by rw [h_y5, xo0]; omega), h_y5, xo0]⟩
        refine gt_alu (st' := [.int y6, .ref 170]) (ykc_214 (e := (0, .iadd, 0)) rfl) (by rw [← e_y6]; exact rfl) rfl ?_
        refine gt_cv (n := 1) (as := [.ref 170, .int y6]) (r := []) (ykc_214 (e := (6, .invokevirtual 233, 0)) rfl) rfl hP4 rfl rfl rfl (xcodes (D := D') hE hm h0m hP4 g94 hs4 (by omega)) rfl (fun vv ph203 hv => ?_)
        obtain ⟨e9, hP5, g95, hs5⟩ := hv; subst e9
        change xGT kK (D' + 1) 214 Q (100, [some (.ref 170), some (.int y), some (.int (Int32.ofInt 1)), some (.int z3)], [], ph203, 0, 0)
        refine gt_load (v := .int y) (n := 1) (ykc_214 (e := (2, .iload_n kF1, 0)) rfl) rfl rfl ?_
        refine gt_zle_t (ykc_214 (e := (4, .ifCond .le 7, 108)) rfl) (by omega) ?_
        refine gt_alu (st' := [.int (Int32.ofInt 0)]) (ykc_214 (e := (0, .iconst 0, 0)) rfl) rfl rfl ?_
        refine gt_store (L' := [some (.ref 170), some (.int y), some (.int (Int32.ofInt 0)), some (.int z3)]) (st' := []) (n := 1) (ykc_214 (e := (3, .istore_n kF2, 0)) rfl) rfl rfl ?_
        refine gt_br (pc' := 24) (st' := []) (ykc_214 (e := (4, .goto (-86), 24)) rfl) rfl ?_
        refine gt_load (v := .int (Int32.ofInt 0)) (n := 1) (ykc_214 (e := (2, .iload_n kF2, 0)) rfl) rfl rfl ?_
        refine gt_zeq_t (ykc_214 (e := (4, .ifCond .eq 88, 113)) rfl) (by decide) ?_
        refine gt_alu (st' := [.int (Int32.ofInt 1)]) (ykc_214 (e := (0, .iconst 1, 0)) rfl) rfl rfl ?_
        refine gt_ret (ykc_214 (e := (7, .ireturn, 0)) rfl) (xretz (by decide) (by decide)) ?_
        exact hQ _ a4 n (c4 + 1) _ _ hP5 g95 hs5 ⟨by omega, b2, by omega, by omega, hn, Or.inr rfl, fun _ => ⟨rfl, seg2 ++ seg4 ++ [y6], xvs_act hv2 b9 ⟨by omega, by omega⟩, by rw [xtake_set (by omega), b10, ht2]; simp only [List.append_assoc]⟩⟩

set_option maxRecDepth 6000 in
theorem xrank_loop1 {E : pm_H → Prop} (hE : xHE xX xgA_RR xgF_RR E) {m : Int} (hm : m ≤ 2147483646) (h0m : (0 : Int) ≤ m) {F D' T a n c : Nat} {l : List Int32} {y : Int32} {Q : Option Value → pm_H → Prop} (ihR : xRnk E m F) (hD : F + 8 ≤ D' + 1) (hT : T ≤ 40) (hn : n ≤ 4) (hy : y.toInt = 1) (hF : T - a + 6 * (4 - n) + (4 - 1) ≤ F + 1) (hQ : ∀ (z : Int32) (a' n' c' : Nat) (l' : List Int32) (ph' : pm_H), xH xX kK m 0 ph' → E ph' → xps ph' T a' n' c' l' → xrd T a n c l z.toInt a' n' c' l' → Q (some (.int z)) ph') : ∀ (s a2 c2 : Nat) (l2 : List Int32) (ph2 : pm_H) (seg2 : List Int32) (o3 : Option Value), xH xX kK m 0 ph2 → E ph2 → xps ph2 T a2 n c2 l2 → a2 ≤ T → a < a2 → c2 ≤ a2 → c ≤ c2 → c2 + a ≤ a2 + c → T - a2 < s → xvs seg2 → l2.take c2 = l.take c ++ seg2 → xGT kK (D' + 1) 214 Q (24, [some (.ref 170), some (.int y), some (.int (Int32.ofInt 1)), o3], [], ph2, 0, 0) := by
  intro s
  induction s with
  | zero => intro a2 c2 l2 ph2 seg2 o3 _ _ _ _ _ _ _ _ h; omega
  | succ s ih2 =>
    intro a2 c2 l2 ph2 seg2 o3 hP2 g92 hs2 ha2 haa hca hcc hcd hsl hv2 ht2
    refine gt_load (v := .int (Int32.ofInt 1)) (n := 1) (ykc_214 (e := (2, .iload_n kF2, 0)) rfl) rfl rfl ?_
    refine gt_zeq_f (ykc_214 (e := (4, .ifCond .eq 88, 113)) rfl) (by decide) rfl ?_
    refine gt_load (v := .ref 170) (n := 1) (ykc_214 (e := (2, .aload_n kF0, 0)) rfl) rfl rfl ?_
    refine gt_load (v := .int y) (n := 1) (ykc_214 (e := (2, .iload_n kF1, 0)) rfl) rfl rfl ?_
    refine gt_zne_t (ykc_214 (e := (4, .ifCond .ne 8, 38)) rfl) (by omega) ?_
    refine gt_load (v := .int y) (n := 1) (ykc_214 (e := (2, .iload_n kF1, 0)) rfl) rfl rfl ?_
    refine gt_alu (st' := [.int (Int32.ofInt 1), .int y, .ref 170]) (ykc_214 (e := (0, .iconst 1, 0)) rfl) rfl rfl ?_
    refine gt_ine_f (ykc_214 (e := (4, .if_icmp .ne 8, 48)) rfl) (by rw [xi1]; omega) rfl ?_
    refine gt_push (v := .ref 1048630) (n := 2) (ykc_214 (e := (1, .ldc 244, 0)) rfl) rfl rfl ?_
    refine gt_br (pc' := 50) (st' := [.ref 1048630, .ref 170]) (ykc_214 (e := (4, .goto 5, 50)) rfl) rfl ?_
    refine gt_cv (n := 1) (as := [.ref 170, .ref 1048630]) (r := []) (ykc_214 (e := (6, .invokevirtual 184, 0)) rfl) rfl hP2 rfl rfl rfl (xof_2 hE hm h0m (by omega) hP2 g92 hs2 ha2 hT) rfl (fun vv ph1 hv => ?_)
    obtain ⟨z3, a3, e9, hP3, g93, hs3, hz3⟩ := hv; subst e9
    change xGT kK (D' + 1) 214 Q (53, [some (.ref 170), some (.int y), some (.int (Int32.ofInt 1)), o3], [.int z3], ph1, 0, 0)
    refine gt_store (L' := [some (.ref 170), some (.int y), some (.int (Int32.ofInt 1)), some (.int z3)]) (st' := []) (n := 1) (ykc_214 (e := (3, .istore_n kF3, 0)) rfl) rfl rfl ?_
    refine gt_load (v := .int z3) (n := 1) (ykc_214 (e := (2, .iload_n kF3, 0)) rfl) rfl rfl ?_
    by_cases hq3 : z3.toInt < 0
    · refine gt_zge_f (ykc_214 (e := (4, .ifCond .ge 5, 60)) rfl) hq3 rfl ?_
      refine gt_alu (st' := [.int (Int32.ofInt 1)]) (ykc_214 (e := (0, .iconst 1, 0)) rfl) rfl rfl ?_
      refine gt_ret (ykc_214 (e := (7, .ireturn, 0)) rfl) (xretz (by decide) (by decide)) ?_
      have ea : a3 = a2 := by omega
      subst ea
      exact hQ _ a3 n c2 l2 _ hP3 g93 hs3 ⟨by omega, ha2, hcc, hcd, hn, Or.inr rfl, fun _ => ⟨rfl, seg2, hv2, ht2⟩⟩
    · have hz3 : z3.toInt ≤ 2 ∧ a3 = a2 + 1 ∧ a3 ≤ T := by omega
      obtain ⟨h31, h32, h33⟩ := hz3
      refine gt_zge_t (ykc_214 (e := (4, .ifCond .ge 5, 60)) rfl) (by omega) ?_
      refine gt_load (v := .ref 170) (n := 1) (ykc_214 (e := (2, .aload_n kF0, 0)) rfl) rfl rfl ?_
      refine gt_load (v := .int y) (n := 1) (ykc_214 (e := (2, .iload_n kF1, 0)) rfl) rfl rfl ?_
      refine gt_alu (st' := [.int (Int32.ofInt 1), .int y, .ref 170]) (ykc_214 (e := (0, .iconst 1, 0)) rfl) rfl rfl ?_
      obtain ⟨y1, e_y1, h_y1⟩ : ∃ zq : Int32, y + (Int32.ofInt 1) = zq ∧ zq.toInt = y.toInt + 1 := ⟨_, rfl, by rw [ti_add (by rw [xi1]; omega) (by rw [xi1]; omega), xi1]⟩
      refine gt_alu (st' := [.int y1, .ref 170]) (ykc_214 (e := (0, .iadd, 0)) rfl) (by rw [← e_y1]; exact rfl) rfl ?_
      refine gt_cv (n := 1) (as := [.ref 170, .int y1]) (r := []) (ykc_214 (e := (6, .invokevirtual 239, 0)) rfl) rfl hP3 rfl rfl rfl (ihR (D' + 1) ph1 T a3 n c2 (1 + 1) y1 l2 (by omega) hP3 g93 hs3 (by omega) hT hn (by omega) (by omega) (by omega) (by omega)) rfl (fun vv ph102 hv => ?_)
      obtain ⟨z4, a4, n4, c4, l4, e9, hP4, g94, hs4, hr4⟩ := hv; subst e9
      change xGT kK (D' + 1) 214 Q (67, [some (.ref 170), some (.int y), some (.int (Int32.ofInt 1)), some (.int z3)], [.int z4], ph102, 0, 0)
      obtain ⟨b1, b2, b3, b4, b5, b6, b7⟩ := hr4
      by_cases hq4 : z4.toInt ≠ 0
      case neg =>
        refine gt_zne_f (ykc_214 (e := (4, .ifCond .ne 5, 72)) rfl) (by omega) rfl ?_
        refine gt_alu (st' := [.int (Int32.ofInt 0)]) (ykc_214 (e := (0, .iconst 0, 0)) rfl) rfl rfl ?_
        refine gt_ret (ykc_214 (e := (7, .ireturn, 0)) rfl) (xretz (by decide) (by decide)) ?_
        exact hQ _ a4 n4 c4 l4 _ hP4 g94 hs4 ⟨by omega, b2, by omega, by omega, b5, Or.inl rfl, fun q => absurd q (by decide)⟩
      case pos =>
        obtain ⟨b8, seg4, b9, b10⟩ := b7 (by omega)
        have b88 := b8.symm; subst b88
        have hl80 : l4.length = 80 := hs4.2.2.2.2.2
        refine gt_zne_t (ykc_214 (e := (4, .ifCond .ne 5, 72)) rfl) hq4 ?_
        refine gt_load (v := .ref 170) (n := 1) (ykc_214 (e := (2, .aload_n kF0, 0)) rfl) rfl rfl ?_
        refine gt_push (v := .int ((Int16.ofInt 2000).toInt32)) (n := 3) (ykc_214 (e := (1, .sipush 2000, 0)) rfl) rfl rfl ?_
        refine gt_load (v := .int z3) (n := 1) (ykc_214 (e := (2, .iload_n kF3, 0)) rfl) rfl rfl ?_
        obtain ⟨y5, e_y5, h_y5⟩ : ∃ zq : Int32, ((Int16.ofInt 2000).toInt32) + z3 = zq ∧ zq.toInt = 2000 + z3.toInt := ⟨_, rfl, by rw [ti_add (by rw [x2000]; omega) (by rw [x2000]; omega), x2000]⟩
        refine gt_alu (st' := [.int y5, .ref 170]) (ykc_214 (e := (0, .iadd, 0)) rfl) (by rw [← e_y5]; exact rfl) rfl ?_
        refine gt_load (v := .int y) (n := 1) (ykc_214 (e := (2, .iload_n kF1, 0)) rfl) rfl rfl ?_
        refine gt_zne_t (ykc_214 (e := (4, .ifCond .ne 7, 86)) rfl) (by omega) ?_
        refine gt_load (v := .int y) (n := 1) (ykc_214 (e := (2, .iload_n kF1, 0)) rfl) rfl rfl ?_
        refine gt_alu (st' := [.int (Int32.ofInt 1), .int y, .int y5, .ref 170]) (ykc_214 (e := (0, .iconst 1, 0)) rfl) rfl rfl ?_
        refine gt_ine_f (ykc_214 (e := (4, .if_icmp .ne 7, 95)) rfl) (by rw [xi1]; omega) rfl ?_
        refine gt_alu (st' := [.int (Int32.ofInt 3), .int y5, .ref 170]) (ykc_214 (e := (0, .iconst 3, 0)) rfl) rfl rfl ?_
        refine gt_br (pc' := 96) (st' := [.int (Int32.ofInt 3), .int y5, .ref 170]) (ykc_214 (e := (4, .goto 4, 96)) rfl) rfl ?_
        obtain ⟨y6, e_y6, h_y6⟩ : ∃ zq : Int32, y5 + (Int32.ofInt 3) = zq ∧ zq.toInt = 2000 + z3.toInt + 3 := ⟨_, rfl, by rw [ti_add (by rw [h_y5, xo3]; omega) (by rw [h_y5, xo3]; omega), h_y5, xo3]⟩
        refine gt_alu (st' := [.int y6, .ref 170]) (ykc_214 (e := (0, .iadd, 0)) rfl) (by rw [← e_y6]; exact rfl) rfl ?_
        refine gt_cv (n := 1) (as := [.ref 170, .int y6]) (r := []) (ykc_214 (e := (6, .invokevirtual 233, 0)) rfl) rfl hP4 rfl rfl rfl (xcodes (D := D') hE hm h0m hP4 g94 hs4 (by omega)) rfl (fun vv ph203 hv => ?_)
        obtain ⟨e9, hP5, g95, hs5⟩ := hv; subst e9
        change xGT kK (D' + 1) 214 Q (100, [some (.ref 170), some (.int y), some (.int (Int32.ofInt 1)), some (.int z3)], [], ph203, 0, 0)
        refine gt_load (v := .int y) (n := 1) (ykc_214 (e := (2, .iload_n kF1, 0)) rfl) rfl rfl ?_
        refine gt_zle_f (ykc_214 (e := (4, .ifCond .le 7, 108)) rfl) (by omega) rfl ?_
        refine gt_alu (st' := [.int (Int32.ofInt 1)]) (ykc_214 (e := (0, .iconst 1, 0)) rfl) rfl rfl ?_
        refine gt_br (pc' := 109) (st' := [.int (Int32.ofInt 1)]) (ykc_214 (e := (4, .goto 4, 109)) rfl) rfl ?_
        refine gt_store (L' := [some (.ref 170), some (.int y), some (.int (Int32.ofInt 1)), some (.int z3)]) (st' := []) (n := 1) (ykc_214 (e := (3, .istore_n kF2, 0)) rfl) rfl rfl ?_
        refine gt_br (pc' := 24) (st' := []) (ykc_214 (e := (4, .goto (-86), 24)) rfl) rfl ?_
        exact ih2 a4 (c4 + 1) _ _ (seg2 ++ seg4 ++ [y6]) _ hP5 g95 hs5 b2 (by omega) (by omega) (by omega) (by omega) (by omega) (xvs_act hv2 b9 ⟨by omega, by omega⟩) (by rw [xtake_set (by omega), b10, ht2]; simp only [List.append_assoc])

set_option maxRecDepth 6000 in
theorem xrank_loop2 {E : pm_H → Prop} (hE : xHE xX xgA_RR xgF_RR E) {m : Int} (hm : m ≤ 2147483646) (h0m : (0 : Int) ≤ m) {F D' T a n c : Nat} {l : List Int32} {y : Int32} {Q : Option Value → pm_H → Prop} (ihR : xRnk E m F) (hD : F + 8 ≤ D' + 1) (hT : T ≤ 40) (hn : n ≤ 4) (hy : y.toInt = 2) (hF : T - a + 6 * (4 - n) + (4 - 2) ≤ F + 1) (hQ : ∀ (z : Int32) (a' n' c' : Nat) (l' : List Int32) (ph' : pm_H), xH xX kK m 0 ph' → E ph' → xps ph' T a' n' c' l' → xrd T a n c l z.toInt a' n' c' l' → Q (some (.int z)) ph') : ∀ (s a2 c2 : Nat) (l2 : List Int32) (ph2 : pm_H) (seg2 : List Int32) (o3 : Option Value), xH xX kK m 0 ph2 → E ph2 → xps ph2 T a2 n c2 l2 → a2 ≤ T → a < a2 → c2 ≤ a2 → c ≤ c2 → c2 + a ≤ a2 + c → T - a2 < s → xvs seg2 → l2.take c2 = l.take c ++ seg2 → xGT kK (D' + 1) 214 Q (24, [some (.ref 170), some (.int y), some (.int (Int32.ofInt 1)), o3], [], ph2, 0, 0) := by
  intro s
  induction s with
  | zero => intro a2 c2 l2 ph2 seg2 o3 _ _ _ _ _ _ _ _ h; omega
  | succ s ih2 =>
    intro a2 c2 l2 ph2 seg2 o3 hP2 g92 hs2 ha2 haa hca hcc hcd hsl hv2 ht2
    refine gt_load (v := .int (Int32.ofInt 1)) (n := 1) (ykc_214 (e := (2, .iload_n kF2, 0)) rfl) rfl rfl ?_
    refine gt_zeq_f (ykc_214 (e := (4, .ifCond .eq 88, 113)) rfl) (by decide) rfl ?_
    refine gt_load (v := .ref 170) (n := 1) (ykc_214 (e := (2, .aload_n kF0, 0)) rfl) rfl rfl ?_
    refine gt_load (v := .int y) (n := 1) (ykc_214 (e := (2, .iload_n kF1, 0)) rfl) rfl rfl ?_
    refine gt_zne_t (ykc_214 (e := (4, .ifCond .ne 8, 38)) rfl) (by omega) ?_
    refine gt_load (v := .int y) (n := 1) (ykc_214 (e := (2, .iload_n kF1, 0)) rfl) rfl rfl ?_
    refine gt_alu (st' := [.int (Int32.ofInt 1), .int y, .ref 170]) (ykc_214 (e := (0, .iconst 1, 0)) rfl) rfl rfl ?_
    refine gt_ine_t (ykc_214 (e := (4, .if_icmp .ne 8, 48)) rfl) (by rw [xi1]; omega) ?_
    refine gt_push (v := .ref 1048631) (n := 2) (ykc_214 (e := (1, .ldc 246, 0)) rfl) rfl rfl ?_
    refine gt_cv (n := 1) (as := [.ref 170, .ref 1048631]) (r := []) (ykc_214 (e := (6, .invokevirtual 184, 0)) rfl) rfl hP2 rfl rfl rfl (xof_3 hE hm h0m (by omega) hP2 g92 hs2 ha2 hT) rfl (fun vv ph1 hv => ?_)
    obtain ⟨z3, a3, e9, hP3, g93, hs3, hz3⟩ := hv; subst e9
    change xGT kK (D' + 1) 214 Q (53, [some (.ref 170), some (.int y), some (.int (Int32.ofInt 1)), o3], [.int z3], ph1, 0, 0)
    refine gt_store (L' := [some (.ref 170), some (.int y), some (.int (Int32.ofInt 1)), some (.int z3)]) (st' := []) (n := 1) (ykc_214 (e := (3, .istore_n kF3, 0)) rfl) rfl rfl ?_
    refine gt_load (v := .int z3) (n := 1) (ykc_214 (e := (2, .iload_n kF3, 0)) rfl) rfl rfl ?_
    by_cases hq3 : z3.toInt < 0
    · refine gt_zge_f (ykc_214 (e := (4, .ifCond .ge 5, 60)) rfl) hq3 rfl ?_
      refine gt_alu (st' := [.int (Int32.ofInt 1)]) (ykc_214 (e := (0, .iconst 1, 0)) rfl) rfl rfl ?_
      refine gt_ret (ykc_214 (e := (7, .ireturn, 0)) rfl) (xretz (by decide) (by decide)) ?_
      have ea : a3 = a2 := by omega
      subst ea
      exact hQ _ a3 n c2 l2 _ hP3 g93 hs3 ⟨by omega, ha2, hcc, hcd, hn, Or.inr rfl, fun _ => ⟨rfl, seg2, hv2, ht2⟩⟩
    · have hz3 : z3.toInt ≤ 2 ∧ a3 = a2 + 1 ∧ a3 ≤ T := by omega
      obtain ⟨h31, h32, h33⟩ := hz3
      refine gt_zge_t (ykc_214 (e := (4, .ifCond .ge 5, 60)) rfl) (by omega) ?_
      refine gt_load (v := .ref 170) (n := 1) (ykc_214 (e := (2, .aload_n kF0, 0)) rfl) rfl rfl ?_
      refine gt_load (v := .int y) (n := 1) (ykc_214 (e := (2, .iload_n kF1, 0)) rfl) rfl rfl ?_
      refine gt_alu (st' := [.int (Int32.ofInt 1), .int y, .ref 170]) (ykc_214 (e := (0, .iconst 1, 0)) rfl) rfl rfl ?_
      obtain ⟨y1, e_y1, h_y1⟩ : ∃ zq : Int32, y + (Int32.ofInt 1) = zq ∧ zq.toInt = y.toInt + 1 := ⟨_, rfl, by rw [ti_add (by rw [xi1]; omega) (by rw [xi1]; omega), xi1]⟩
      refine gt_alu (st' := [.int y1, .ref 170]) (ykc_214 (e := (0, .iadd, 0)) rfl) (by rw [← e_y1]; exact rfl) rfl ?_
      refine gt_cv (n := 1) (as := [.ref 170, .int y1]) (r := []) (ykc_214 (e := (6, .invokevirtual 239, 0)) rfl) rfl hP3 rfl rfl rfl (ihR (D' + 1) ph1 T a3 n c2 (2 + 1) y1 l2 (by omega) hP3 g93 hs3 (by omega) hT hn (by omega) (by omega) (by omega) (by omega)) rfl (fun vv ph102 hv => ?_)
      obtain ⟨z4, a4, n4, c4, l4, e9, hP4, g94, hs4, hr4⟩ := hv; subst e9
      change xGT kK (D' + 1) 214 Q (67, [some (.ref 170), some (.int y), some (.int (Int32.ofInt 1)), some (.int z3)], [.int z4], ph102, 0, 0)
      obtain ⟨b1, b2, b3, b4, b5, b6, b7⟩ := hr4
      by_cases hq4 : z4.toInt ≠ 0
      case neg =>
        refine gt_zne_f (ykc_214 (e := (4, .ifCond .ne 5, 72)) rfl) (by omega) rfl ?_
        refine gt_alu (st' := [.int (Int32.ofInt 0)]) (ykc_214 (e := (0, .iconst 0, 0)) rfl) rfl rfl ?_
        refine gt_ret (ykc_214 (e := (7, .ireturn, 0)) rfl) (xretz (by decide) (by decide)) ?_
        exact hQ _ a4 n4 c4 l4 _ hP4 g94 hs4 ⟨by omega, b2, by omega, by omega, b5, Or.inl rfl, fun q => absurd q (by decide)⟩
      case pos =>
        obtain ⟨b8, seg4, b9, b10⟩ := b7 (by omega)
        have b88 := b8.symm; subst b88
        have hl80 : l4.length = 80 := hs4.2.2.2.2.2
        refine gt_zne_t (ykc_214 (e := (4, .ifCond .ne 5, 72)) rfl) hq4 ?_
        refine gt_load (v := .ref 170) (n := 1) (ykc_214 (e := (2, .aload_n kF0, 0)) rfl) rfl rfl ?_
        refine gt_push (v := .int ((Int16.ofInt 2000).toInt32)) (n := 3) (ykc_214 (e := (1, .sipush 2000, 0)) rfl) rfl rfl ?_
        refine gt_load (v := .int z3) (n := 1) (ykc_214 (e := (2, .iload_n kF3, 0)) rfl) rfl rfl ?_
        obtain ⟨y5, e_y5, h_y5⟩ : ∃ zq : Int32, ((Int16.ofInt 2000).toInt32) + z3 = zq ∧ zq.toInt = 2000 + z3.toInt := ⟨_, rfl, by rw [ti_add (by rw [x2000]; omega) (by rw [x2000]; omega), x2000]⟩
        refine gt_alu (st' := [.int y5, .ref 170]) (ykc_214 (e := (0, .iadd, 0)) rfl) (by rw [← e_y5]; exact rfl) rfl ?_
        refine gt_load (v := .int y) (n := 1) (ykc_214 (e := (2, .iload_n kF1, 0)) rfl) rfl rfl ?_
        refine gt_zne_t (ykc_214 (e := (4, .ifCond .ne 7, 86)) rfl) (by omega) ?_
        refine gt_load (v := .int y) (n := 1) (ykc_214 (e := (2, .iload_n kF1, 0)) rfl) rfl rfl ?_
        refine gt_alu (st' := [.int (Int32.ofInt 1), .int y, .int y5, .ref 170]) (ykc_214 (e := (0, .iconst 1, 0)) rfl) rfl rfl ?_
        refine gt_ine_t (ykc_214 (e := (4, .if_icmp .ne 7, 95)) rfl) (by rw [xi1]; omega) ?_
        refine gt_alu (st' := [.int (Int32.ofInt 5), .int y5, .ref 170]) (ykc_214 (e := (0, .iconst 5, 0)) rfl) rfl rfl ?_
        obtain ⟨y6, e_y6, h_y6⟩ : ∃ zq : Int32, y5 + (Int32.ofInt 5) = zq ∧ zq.toInt = 2000 + z3.toInt + 5 := ⟨_, rfl, by rw [ti_add (by rw [h_y5, xo5]; omega) (by rw [h_y5, xo5]; omega), h_y5, xo5]⟩
        refine gt_alu (st' := [.int y6, .ref 170]) (ykc_214 (e := (0, .iadd, 0)) rfl) (by rw [← e_y6]; exact rfl) rfl ?_
        refine gt_cv (n := 1) (as := [.ref 170, .int y6]) (r := []) (ykc_214 (e := (6, .invokevirtual 233, 0)) rfl) rfl hP4 rfl rfl rfl (xcodes (D := D') hE hm h0m hP4 g94 hs4 (by omega)) rfl (fun vv ph203 hv => ?_)
        obtain ⟨e9, hP5, g95, hs5⟩ := hv; subst e9
        change xGT kK (D' + 1) 214 Q (100, [some (.ref 170), some (.int y), some (.int (Int32.ofInt 1)), some (.int z3)], [], ph203, 0, 0)
        refine gt_load (v := .int y) (n := 1) (ykc_214 (e := (2, .iload_n kF1, 0)) rfl) rfl rfl ?_
        refine gt_zle_f (ykc_214 (e := (4, .ifCond .le 7, 108)) rfl) (by omega) rfl ?_
        refine gt_alu (st' := [.int (Int32.ofInt 1)]) (ykc_214 (e := (0, .iconst 1, 0)) rfl) rfl rfl ?_
        refine gt_br (pc' := 109) (st' := [.int (Int32.ofInt 1)]) (ykc_214 (e := (4, .goto 4, 109)) rfl) rfl ?_
        refine gt_store (L' := [some (.ref 170), some (.int y), some (.int (Int32.ofInt 1)), some (.int z3)]) (st' := []) (n := 1) (ykc_214 (e := (3, .istore_n kF2, 0)) rfl) rfl rfl ?_
        refine gt_br (pc' := 24) (st' := []) (ykc_214 (e := (4, .goto (-86), 24)) rfl) rfl ?_
        exact ih2 a4 (c4 + 1) _ _ (seg2 ++ seg4 ++ [y6]) _ hP5 g95 hs5 b2 (by omega) (by omega) (by omega) (by omega) (by omega) (xvs_act hv2 b9 ⟨by omega, by omega⟩) (by rw [xtake_set (by omega), b10, ht2]; simp only [List.append_assoc])

set_option maxRecDepth 6000 in
theorem xrnk_step {E : pm_H → Prop} (hE : xHE xX xgA_RR xgF_RR E) {m : Int} (hm : m ≤ 2147483646) (h0m : (0 : Int) ≤ m) {F : Nat} (ih : ∀ F', F' < F → xAsk E m F' ∧ xRnk E m F') : xRnk E m F := by
  intro D ph T a n c r y l hD hP g9 hs ha hT hn hca hy hr hF
  have ihA : xAsk E m (F - 1) := (ih _ (by omega)).1
  have ihR : xRnk E m (F - 1) := (ih _ (by omega)).2
  obtain ⟨D', rfl⟩ : ∃ D', D = D' + 1 + 1 := ⟨D - 2, by omega⟩
  unfold xrdE
  refine xRd_mk (nl := 4) rfl rfl ?_
  show xGT kK (D' + 1) 214 _ (0, [some (.ref 170), some (.int y), none, none], [], ph, 0, 0)
  refine gt_load (v := .int y) (n := 1) (ykc_214 (e := (2, .iload_n kF1, 0)) rfl) rfl rfl ?_
  refine gt_alu (st' := [.int (Int32.ofInt 3), .int y]) (ykc_214 (e := (0, .iconst 3, 0)) rfl) rfl rfl ?_
  by_cases hr3 : r = 3
  · refine gt_ine_f (ykc_214 (e := (4, .if_icmp .ne 8, 10)) rfl) (by rw [x3i]; omega) rfl ?_
    refine gt_load (v := .ref 170) (n := 1) (ykc_214 (e := (2, .aload_n kF0, 0)) rfl) rfl rfl ?_
    refine gt_cv (n := 0) (as := [.ref 170]) (r := []) (ykc_214 (e := (6, .invokevirtual 230, 0)) rfl) rfl hP rfl rfl rfl (ihA (D' + 1) ph T a n c l (by omega) hP g9 hs ha hT hn hca (by omega)) rfl (fun vv ph101 hv => ?_)
    obtain ⟨z1, a1, n1, c1, l1, e9, hP1, g91, hs1, hr1⟩ := hv; subst e9
    change xGT kK (D' + 1) 214 _ (9, [some (.ref 170), some (.int y), none, none], [.int z1], ph101, 0, 0)
    obtain ⟨b1, b2, b3, b4, b5, b6, b7⟩ := id hr1
    refine gt_ret (ykc_214 (e := (7, .ireturn, 0)) rfl) (xretz (by omega) (by omega)) ?_
    exact ⟨z1, a1, n1, c1, l1, rfl, hP1, g91, hs1, hr1⟩
  · refine gt_ine_t (ykc_214 (e := (4, .if_icmp .ne 8, 10)) rfl) (by rw [x3i]; omega) ?_
    refine gt_load (v := .ref 170) (n := 1) (ykc_214 (e := (2, .aload_n kF0, 0)) rfl) rfl rfl ?_
    refine gt_load (v := .int y) (n := 1) (ykc_214 (e := (2, .iload_n kF1, 0)) rfl) rfl rfl ?_
    refine gt_alu (st' := [.int (Int32.ofInt 1), .int y, .ref 170]) (ykc_214 (e := (0, .iconst 1, 0)) rfl) rfl rfl ?_
    obtain ⟨y1, e_y1, h_y1⟩ : ∃ zq : Int32, y + (Int32.ofInt 1) = zq ∧ zq.toInt = y.toInt + 1 := ⟨_, rfl, by rw [ti_add (by rw [xi1]; omega) (by rw [xi1]; omega), xi1]⟩
    refine gt_alu (st' := [.int y1, .ref 170]) (ykc_214 (e := (0, .iadd, 0)) rfl) (by rw [← e_y1]; exact rfl) rfl ?_
    refine gt_cv (n := 1) (as := [.ref 170, .int y1]) (r := []) (ykc_214 (e := (6, .invokevirtual 239, 0)) rfl) rfl hP rfl rfl rfl (ihR (D' + 1) ph T a n c (r + 1) y1 l (by omega) hP g9 hs ha hT hn hca (by omega) (by omega) (by omega)) rfl (fun vv ph101 hv => ?_)
    obtain ⟨z2, a2, n2, c2, l2, e9, hP2, g92, hs2, hr2⟩ := hv; subst e9
    change xGT kK (D' + 1) 214 _ (17, [some (.ref 170), some (.int y), none, none], [.int z2], ph101, 0, 0)
    obtain ⟨b1, b2, b3, b4, b5, b6, b7⟩ := id hr2
    by_cases hq2 : z2.toInt ≠ 0
    case neg =>
      refine gt_zne_f (ykc_214 (e := (4, .ifCond .ne 5, 22)) rfl) (by omega) rfl ?_
      refine gt_alu (st' := [.int (Int32.ofInt 0)]) (ykc_214 (e := (0, .iconst 0, 0)) rfl) rfl rfl ?_
      refine gt_ret (ykc_214 (e := (7, .ireturn, 0)) rfl) (xretz (by decide) (by decide)) ?_
      exact ⟨_, a2, n2, c2, l2, rfl, hP2, g92, hs2, b1, b2, b3, b4, b5, Or.inl rfl, fun q => absurd q (by decide)⟩
    case pos =>
      obtain ⟨b8, seg, b9, b10⟩ := b7 (by omega)
      have b88 := b8.symm; subst b88
      refine gt_zne_t (ykc_214 (e := (4, .ifCond .ne 5, 22)) rfl) hq2 ?_
      refine gt_alu (st' := [.int (Int32.ofInt 1)]) (ykc_214 (e := (0, .iconst 1, 0)) rfl) rfl rfl ?_
      refine gt_store (L' := [some (.ref 170), some (.int y), some (.int (Int32.ofInt 1)), none]) (st' := []) (n := 1) (ykc_214 (e := (3, .istore_n kF2, 0)) rfl) rfl rfl ?_
      have hlt : a < a2 := by
        rcases Nat.lt_or_ge a a2 with q | q
        · exact q
        · exfalso
          have hc0 : c2 = c := by omega
          rw [hc0] at b10
          have hlen := congrArg List.length b10
          rw [List.length_append, List.length_take, List.length_take, hs2.2.2.2.2.2, hs.2.2.2.2.2] at hlen
          have he : seg = [] := List.eq_nil_of_length_eq_zero (by omega)
          subst he
          have h9 := b9 0 [(3000 : Int32)] (by simp) (by decide)
          exact absurd h9 (by decide)
      rcases (show r = 0 ∨ r = 1 ∨ r = 2 by omega) with q | q | q
      · subst q
        exact xrank_loop0 (F := F - 1) hE hm h0m ihR (by omega) hT hn hy (by omega) (fun z a' n' c' l' ph' h1 h2 h3 h4 => ⟨z, a', n', c', l', rfl, h1, h2, h3, h4⟩) (T - a2 + 1) a2 c2 l2 ph101 seg _ hP2 g92 hs2 b2 hlt (by omega) b3 (by omega) (by omega) b9 b10
      · subst q
        exact xrank_loop1 (F := F - 1) hE hm h0m ihR (by omega) hT hn hy (by omega) (fun z a' n' c' l' ph' h1 h2 h3 h4 => ⟨z, a', n', c', l', rfl, h1, h2, h3, h4⟩) (T - a2 + 1) a2 c2 l2 ph101 seg _ hP2 g92 hs2 b2 hlt (by omega) b3 (by omega) (by omega) b9 b10
      · subst q
        exact xrank_loop2 (F := F - 1) hE hm h0m ihR (by omega) hT hn hy (by omega) (fun z a' n' c' l' ph' h1 h2 h3 h4 => ⟨z, a', n', c', l', rfl, h1, h2, h3, h4⟩) (T - a2 + 1) a2 c2 l2 ph101 seg _ hP2 g92 hs2 b2 hlt (by omega) b3 (by omega) (by omega) b9 b10
set_option maxRecDepth 6000 in
theorem xread_all {E : pm_H → Prop} (hE : xHE xX xgA_RR xgF_RR E) {m : Int} (hm : m ≤ 2147483646) (h0m : (0 : Int) ≤ m) : ∀ F, xAsk E m F ∧ xRnk E m F := by
  intro F
  induction F using Nat.strongRecOn with
  | ind F ih => exact ⟨xask_step hE hm h0m ih, xrnk_step hE hm h0m ih⟩

