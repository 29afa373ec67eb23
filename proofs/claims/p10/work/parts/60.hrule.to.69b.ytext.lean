
/-! The rule's reader, by hand, printed by wip/x/h_rule.py -/
def xgA_RR : List Nat := xgA_G73
def xgF_RR : List (Nat × Nat) := (0, 14) :: xgF_G73
set_option maxRecDepth 6000 in
theorem xHE_same {X : xD} {E : pm_H → Prop} {gA : List Nat} {gF : List (Nat × Nat)} {ph : pm_H} (hE : xHE X gA gF E) : xHE X gA gF (fun p => E p ∧ xSame X gA gF ph p) := fun p p' hs hp => ⟨hE p p' hs hp.1, fun a i ha hi => (hp.2.1 a i ha hi).trans (hs.1 a i ha hi), fun a i k ha hi => (hp.2.2 a i k ha hi).trans (hs.2 a i k ha hi)⟩
set_option maxRecDepth 6000 in
theorem xsame_f {gA : List Nat} {gF : List (Nat × Nat)} {ph p : pm_H} {a i k : Nat} (h : xSame xX gA gF ph p) (ho : xown a = some i) (hk : xmemP gF i k = true) : xget p a k = xget ph a k := (h.2 a i k ho (xmemP_in hk)).symm
set_option maxRecDepth 6000 in
theorem xsame_a {gA : List Nat} {gF : List (Nat × Nat)} {ph p : pm_H} {a i : Nat} (h : xSame xX gA gF ph p) (ho : xown a = some i) (hk : xmemN gA i = true) : pm_at p a = pm_at ph a := (h.1 a i ho (xmemN_in hk)).symm
/-- a contract with several ends -/
def xconA (X : xD) (KC : pm_K) (E : pm_H → Prop) (d j : Nat) (pre : List xh) (fp : List (Nat × xh)) (alts : List (Option xh × List (Nat × xh))) : Prop := ∀ D, d ≤ D → ∀ m : Int, m ≤ 2147483646 → 0 ≤ m → ∀ vs ph, xhV X m vs pre → xhF X m ph fp → xH X KC m 0 ph → E ph → ∃ v ph', pm_Rd KC false D j vs ph (v, ph', 0, 0) ∧ (xH X KC m 0 ph' ∧ E ph' ∧ ∃ a ∈ alts, xhR X m v a.1 ∧ xhF X m ph' a.2)
def xrsA (X : xD) (alts : List (Option xh × List (Nat × xh))) : xr := fun v S => alts.any (fun a => xrs0 X a.1 a.2 v S)
set_option maxRecDepth 6000 in
theorem xcok_alt {X : xD} {KC : pm_K} {E : pm_H → Prop} {d j : Nat} {c : xc} {pre : List xh} {fp : List (Nat × xh)} {alts : List (Option xh × List (Nat × xh))} (h : xcok X KC E d j c) (hchk : c (xhmV 1 pre) (xrsA X alts) (1 + pre.length + fp.length, [], [], xhmF (1 + pre.length) fp, 0, []) = true) : xconA X KC E d j pre fp alts := by
  intro D hD m hm hW vs ph hv hf hP hE
  obtain ⟨σ1, a1, a2⟩ := xhmV_ok (n := 1) (σ := fun _ => 0) (by decide) rfl hv
  obtain ⟨σ2, b1, b2⟩ := xhmF_ok (n := 1 + pre.length) (σ := σ1) (by omega) (by rw [a1 0 (by decide)]) hf
  obtain ⟨v, ph', k1, k2⟩ := h D hD m hm (1 + pre.length + fp.length) σ2 [] [] [] (xrsA X alts) (fun v ph' => xH X KC m 0 ph' ∧ E ph' ∧ ∃ a ∈ alts, xhR X m v a.1 ∧ xhF X m ph' a.2) (fun v S hr σ ph' vv hg' ho => by
    obtain ⟨n, A, sa, fs, w, F⟩ := S
    obtain ⟨g1, g2, g3, g4, g5, g6, g7, g8, g9⟩ := hg'
    obtain ⟨al, hal, hr⟩ := List.any_eq_true.mp hr
    unfold xrs0 at hr
    simp only at hr
    have hfq := (x_and hr).1
    replace hr := (x_and hr).2
    refine ⟨xH_w (Nat.zero_le _) g7, g9, al, hal, ?_, xhsF_ok hm hfq g6⟩
    generalize hres : al.1 = res at hr ⊢
    split at hr
    · exact ho
    · obtain ⟨u, e, gu⟩ := ho
      exact ⟨u, e, xhs_ok hm hr gu⟩
    · cases hr) _ _ hchk σ2 ph vs ⟨Nat.le_refl _, fun _ _ => rfl, ⟨by omega, by rw [b1 0 (by omega), a1 0 (by decide)], hW⟩, trivial, trivial, b2, hP, trivial, hE⟩ (xsG_up b1 (by omega) a2)
  exact ⟨v, ph', k1, k2⟩
set_option maxRecDepth 6000 in
/-- one cell's bounds out of known ones -/
theorem xF_in {m : Int} {ph : pm_H} {fs : List (Nat × xh)} {k a c : Nat} {lo hi : Int} (h : xhF xX m ph fs) (hm : (k, .inl (lo, hi)) ∈ fs) (e : k = a * 4096 + c) (hc : c < 4096) : ∃ x : Int32, xget ph a c = some (.int x) ∧ lo ≤ x.toInt ∧ x.toInt ≤ hi := by
  obtain ⟨-, -, v, h1, x, e9, h2, h3⟩ := h k _ hm
  subst e9
  have e1 : k / 4096 = a ∧ k % 4096 = c := by omega
  rw [e1.1, e1.2] at h1
  exact ⟨x, h1, h2, h3⟩
abbrev xaN : Type := Int × Int × Nat × Nat × List (Nat × xh)
def xaF (a b : Nat) : List (Nat × xh) := [(696335, .inl (Int.ofNat a, Int.ofNat a)), (696336, .inl (Int.ofNat b, 40))]
def xaA (l : List xaN) : List (Option xh × List (Nat × xh)) := l.map (fun p => (some (.inl (p.1, p.2.1)), xaF p.2.2.1 p.2.2.2.1 ++ p.2.2.2.2))
def xtkN (a : Nat) : List xaN := [(0, 0, a, 0, []), (1, 1, a + 1, a + 1, [])]
def xdgN (a : Nat) : List xaN := [(0, 0, a, 0, []), (1, 1, a, a + 1, [(176 * 4096 + a, .inl (48, 57))])]
def xnuN (a : Nat) : List xaN := [(0, 999, a + 1, a + 1, []), (0, 999, a + 2, a + 2, []), (0, 999, a + 3, a + 3, [])]
def xofN (n a : Nat) : List xaN := [(-1, -1, a, 0, []), (0, Int.ofNat n, a + 1, a + 1, [])]
set_option maxRecDepth 6000 in
theorem xtk_all : (List.range 41).all (fun a => xs_196 (xhmV 1 [.inr (.inr (.inl 0)), .inl (Int.negSucc 2147483647, Int.ofNat 2147483647)]) (xrsA xX (xaA (xtkN a))) (5, [], [], xhmF 3 (xaF a 0), 0, [])) = true := by decide +kernel
set_option maxRecDepth 6000 in
theorem xdg_all : (List.range 41).all (fun a => xs_197 (xhmV 1 [.inr (.inr (.inl 0))]) (xrsA xX (xaA (xdgN a))) (4, [], [], xhmF 2 (xaF a 0), 0, [])) = true := by decide +kernel
set_option maxRecDepth 6000 in
theorem xnu_all : (List.range 40).all (fun a => xs_199 (xhmV 1 [.inr (.inr (.inl 0)), .inl (3, 3)]) (xrsA xX (xaA (xnuN a))) (6, [], [], xhmF 3 (xaF a (a + 1) ++ [(176 * 4096 + a, .inl (48, 57))]), 0, [])) = true := by decide +kernel
set_option maxRecDepth 6000 in
theorem xof_all_0 : (List.range 41).all (fun a => xs_198 (xhmV 1 [.inr (.inr (.inl 0)), .inr (.inr (.inl 92))]) (xrsA xX (xaA (xofN 7 a))) (5, [], [], xhmF 3 (xaF a 0), 0, [])) = true := by decide +kernel
set_option maxRecDepth 6000 in
theorem xof_all_1 : (List.range 41).all (fun a => xs_198 (xhmV 1 [.inr (.inr (.inl 0)), .inr (.inr (.inl 93))]) (xrsA xX (xaA (xofN 2 a))) (5, [], [], xhmF 3 (xaF a 0), 0, [])) = true := by decide +kernel
set_option maxRecDepth 6000 in
theorem xof_all_2 : (List.range 41).all (fun a => xs_198 (xhmV 1 [.inr (.inr (.inl 0)), .inr (.inr (.inl 94))]) (xrsA xX (xaA (xofN 1 a))) (5, [], [], xhmF 3 (xaF a 0), 0, [])) = true := by decide +kernel
set_option maxRecDepth 6000 in
theorem xof_all_3 : (List.range 41).all (fun a => xs_198 (xhmV 1 [.inr (.inr (.inl 0)), .inr (.inr (.inl 95))]) (xrsA xX (xaA (xofN 1 a))) (5, [], [], xhmF 3 (xaF a 0), 0, [])) = true := by decide +kernel

/-- numbers of the reader's state -/
def xps (ph : pm_H) (T a n c : Nat) (l : List Int32) : Prop := (∃ x : Int32, xget ph 170 15 = some (.int x) ∧ x.toInt = (a : Int)) ∧ (∃ x : Int32, xget ph 170 16 = some (.int x) ∧ x.toInt = (T : Int)) ∧ (∃ x : Int32, xget ph 170 17 = some (.int x) ∧ x.toInt = (n : Int)) ∧ (∃ x : Int32, xget ph 170 24 = some (.int x) ∧ x.toInt = (c : Int)) ∧ pm_at ph 180 = some (.inl (0, .inl l)) ∧ l.length = 80
/-- code that puts one number more -/
def xvs (seg : List Int32) : Prop := ∀ (d : Nat) (rest : List Int32), d + seg.length ≤ 80 → xvc rest (d + 1) = true → xvc (seg ++ rest) d = true
set_option maxRecDepth 6000 in
theorem xvs_1 {c : Int32} (h : c.toInt < 1000 ∨ (1000 ≤ c.toInt ∧ c.toInt ≤ 1007)) : xvs [c] := fun d rest hd hr => by
  have hd : d < 80 := by simp only [List.length_cons, List.length_nil] at hd; omega
  have hb : Nat.blt d 80 = true := Nat.ble_eq_true_of_le hd
  show xvc (c :: rest) d = true
  unfold xvc
  rw [xzf (show (3000 : Int) > c.toInt by omega), xzf (show (2000 : Int) > c.toInt by omega)]
  simp only [cond_false]
  rcases h with h | h
  · rw [xzf (show (1000 : Int) > c.toInt by omega)]
    simp only [cond_false, hb, cond_true]
    exact hr
  · rw [zle_iff.mpr h.1, zle_iff.mpr h.2]
    simp only [cond_true, hb]
    exact hr
set_option maxRecDepth 6000 in
theorem xvs_less {seg : List Int32} {c : Int32} (h : xvs seg) (hc : c.toInt = 3000) : xvs (seg ++ [c]) := fun d rest hd hr => by
  rw [List.length_append] at hd
  have hd : d + (seg.length + 1) ≤ 80 := hd
  rw [List.append_assoc]
  refine h d _ (by omega) ?_
  show xvc (c :: rest) (d + 1) = true
  unfold xvc
  rw [zle_iff.mpr (show (3000 : Int) ≤ c.toInt by omega), zle_iff.mpr (show c.toInt ≤ 3000 by omega)]
  have hb : Nat.ble 1 (d + 1) = true := Nat.ble_eq_true_of_le (by omega)
  simp only [cond_true, hb]
  exact hr
set_option maxRecDepth 6000 in
theorem xvs_act {s1 s2 : List Int32} {c : Int32} (h1 : xvs s1) (h2 : xvs s2) (hc : 2000 ≤ c.toInt ∧ c.toInt < 3000) : xvs (s1 ++ s2 ++ [c]) := fun d rest hd hr => by
  rw [List.length_append, List.length_append] at hd
  have hd : d + (s1.length + s2.length + 1) ≤ 80 := hd
  rw [List.append_assoc, List.append_assoc]
  rcases (show s1 = [] ∨ 0 < s1.length by cases s1 with | nil => exact Or.inl rfl | cons _ _ => exact Or.inr (by simp)) with e | e
  · subst e
    exfalso
    have h3 := h1 0 [(3000 : Int32)] (by simp) (by decide)
    exact absurd h3 (by decide)
  refine h1 d _ (by omega) (h2 (d + 1) _ (by omega) ?_)
  show xvc (c :: rest) (d + 1 + 1) = true
  unfold xvc
  rw [xzf (show (3000 : Int) > c.toInt by omega), zle_iff.mpr hc.1]
  have hb : Nat.ble 2 (d + 1 + 1) = true := Nat.ble_eq_true_of_le (by omega)
  simp only [cond_true, cond_false, hb]
  exact hr
/-- from one state of the reader to a later one -/
def xrd (T a n c : Nat) (l : List Int32) (z : Int) (a' n' c' : Nat) (l' : List Int32) : Prop := a ≤ a' ∧ a' ≤ T ∧ c ≤ c' ∧ c' + a ≤ a' + c ∧ n' ≤ 4 ∧ (z = 0 ∨ z = 1) ∧ (z = 1 → n' = n ∧ ∃ seg, xvs seg ∧ l'.take c' = l.take c ++ seg)
set_option maxRecDepth 6000 in
theorem xps_same {gA : List Nat} {gF : List (Nat × Nat)} {ph ph' : pm_H} {T a a' n c : Nat} {l : List Int32} (h : xps ph T a n c l) (hs : xSame xX gA gF ph ph') (h1 : xmemP gF 0 16 = true) (h2 : xmemP gF 0 17 = true) (h3 : xmemP gF 0 24 = true) (h4 : xmemN gA 10 = true) (hat : ∃ x : Int32, xget ph' 170 15 = some (.int x) ∧ x.toInt = (a' : Int)) : xps ph' T a' n c l := by
  obtain ⟨q1, ⟨x2, q2, e2⟩, ⟨x3, q3, e3⟩, ⟨x4, q4, e4⟩, q5, q6⟩ := h
  exact ⟨hat, ⟨x2, (xsame_f (a := 170) (i := 0) hs rfl h1).trans q2, e2⟩, ⟨x3, (xsame_f (a := 170) (i := 0) hs rfl h2).trans q3, e3⟩, ⟨x4, (xsame_f (a := 170) (i := 0) hs rfl h3).trans q4, e4⟩, (xsame_a (a := 180) (i := 10) hs rfl h4).trans q5, q6⟩
set_option maxRecDepth 6000 in
theorem xat_of {m : Int} {ph : pm_H} {lo hi a : Nat} {fs : List (Nat × xh)} (h : xhF xX m ph fs) (hm : (696335, (.inl (Int.ofNat lo, Int.ofNat hi) : xh)) ∈ fs) : ∃ (x : Int32) (a' : Nat), xget ph 170 15 = some (.int x) ∧ x.toInt = (a' : Int) ∧ lo ≤ a' ∧ a' ≤ hi := by
  obtain ⟨x, h1, h2, h3⟩ := xF_in (a := 170) (c := 15) h hm (by decide) (by decide)
  have h2 : (lo : Int) ≤ x.toInt := h2
  have h3 : x.toInt ≤ (hi : Int) := h3
  exact ⟨x, x.toInt.toNat, h1, by omega, by omega, by omega⟩

set_option maxRecDepth 6000 in
theorem xprim {E : pm_H → Prop} (hE : xHE xX xgA_RR xgF_RR E) {m : Int} (hm : m ≤ 2147483646) (h0m : (0 : Int) ≤ m) {D d j : Nat} {c9 : xc} {pre : List xh} {vs : List Value} {al : List xaN} {ex : List (Nat × xh)} {b : Nat} (hso : ∀ E2 : pm_H → Prop, xHE xX xgA_G62 xgF_G62 E2 → xcok xX kK E2 d j c9) {ph : pm_H} {T a n c : Nat} {l : List Int32} (hchk : c9 (xhmV 1 pre) (xrsA xX (xaA al)) (1 + pre.length + (xaF a b ++ ex).length, [], [], xhmF (1 + pre.length) (xaF a b ++ ex), 0, []) = true) (hD : d ≤ D) (hv : xhV xX m vs pre) (hex : xhF xX m ph ex) (hP : xH xX kK m 0 ph) (g9 : E ph) (hs : xps ph T a n c l) (ha : a ≤ T) (hb : b ≤ T) (hT : T ≤ 40) : ∃ v ph', pm_Rd kK false D j vs ph (v, ph', 0, 0) ∧ (∃ (z : Int32) (p : xaN), p ∈ al ∧ v = some (.int z) ∧ xH xX kK m 0 ph' ∧ E ph' ∧ xps ph' T p.2.2.1 n c l ∧ p.1 ≤ z.toInt ∧ z.toInt ≤ p.2.1 ∧ p.2.2.2.1 ≤ T ∧ xhF xX m ph' p.2.2.2.2) := by
  obtain ⟨⟨xa, qa, ea⟩, ⟨xt, qt, et⟩, -, -, -, -⟩ := id hs
  have hE2 : xHE xX xgA_G62 xgF_G62 E := xHE_sub (by decide +kernel) (by decide +kernel) hE
  have hF : xhF xX m ph (xaF a b ++ ex) := fun k h hk => by
    rcases List.mem_append.mp hk with e | e
    · exact xF2 (by decide) qa (by rw [ea]; exact Int.le_refl _) (by rw [ea]; exact Int.le_refl _) (by decide) qt (by rw [et]; show (b : Int) ≤ (T : Int); omega) (by rw [et]; omega) k h e
    · exact hex k h e
  obtain ⟨v, ph', k1, k2, k3, q, hq, k4, k5⟩ := xcok_alt (hso (fun p => E p ∧ xSame xX xgA_G62 xgF_G62 ph p) (xHE_same hE2)) hchk D hD m hm h0m vs ph hv hF hP ⟨g9, fun _ _ _ _ => rfl, fun _ _ _ _ _ => rfl⟩
  obtain ⟨p, hp, e⟩ := List.mem_map.mp hq
  subst e
  obtain ⟨u, e, z, e2, z0, z1⟩ := k4
  obtain ⟨x, a', h1, h2, h3, h4⟩ := xat_of (a := 0) k5 (show (696335, (.inl (Int.ofNat p.2.2.1, Int.ofNat p.2.2.1) : xh)) ∈ _ from List.mem_append_left _ List.mem_cons_self)
  obtain ⟨x2, h5, h6, -⟩ := xF_in (a := 170) (c := 16) (lo := Int.ofNat p.2.2.2.1) (hi := 40) k5 (List.mem_append_left _ (List.mem_cons_of_mem _ List.mem_cons_self)) (by decide) (by decide)
  have hT2 := (xsame_f (a := 170) (i := 0) (k := 16) k3.2 rfl rfl).trans qt
  have e9 := xget_int h5 hT2
  subst e9
  have h6 : ((p.2.2.2.1 : Nat) : Int) ≤ x2.toInt := h6
  refine ⟨v, ph', k1, z, p, hp, by rw [e, e2], k2, k3.1, xps_same hs k3.2 rfl rfl rfl rfl ⟨x, h1, by omega⟩, z0, z1, by omega, fun k h hk => k5 k h (List.mem_append_right _ hk)⟩

set_option maxRecDepth 6000 in
theorem xtakes {E : pm_H → Prop} (hE : xHE xX xgA_RR xgF_RR E) {m : Int} (hm : m ≤ 2147483646) (h0m : (0 : Int) ≤ m) {D : Nat} (hD : 2 ≤ D) {ph : pm_H} {T a n c : Nat} {l : List Int32} {y : Int32} (hP : xH xX kK m 0 ph) (g9 : E ph) (hs : xps ph T a n c l) (ha : a ≤ T) (hT : T ≤ 40) : ∃ v ph', pm_Rd kK false D 196 [.ref 170, .int y] ph (v, ph', 0, 0) ∧ (∃ (z : Int32) (a' : Nat), v = some (.int z) ∧ xH xX kK m 0 ph' ∧ E ph' ∧ xps ph' T a' n c l ∧ ((z.toInt = 0 ∧ a' = a) ∨ (z.toInt = 1 ∧ a' = a + 1 ∧ a' ≤ T))) := by
  obtain ⟨v, ph', k1, z, p, hp, e, k2, k3, k4, z0, z1, k5, -⟩ := xprim hE hm h0m (ex := []) (b := 0) (fun E2 h => xso_196 h) (List.all_eq_true.mp xtk_all a (List.mem_range.mpr (by omega))) hD (vs := [.ref 170, .int y]) ⟨xaRi rfl (by decide), xaT, trivial⟩ xF0 hP g9 hs ha (Nat.zero_le _) hT
  refine ⟨v, ph', k1, z, p.2.2.1, e, k2, k3, k4, ?_⟩
  rcases List.mem_cons.mp hp with h | h
  · subst h
    exact Or.inl ⟨Int.le_antisymm z1 z0, rfl⟩
  · rcases List.mem_cons.mp h with h | h
    · subst h
      exact Or.inr ⟨Int.le_antisymm z1 z0, rfl, k5⟩
    · cases h
set_option maxRecDepth 6000 in
theorem xdigit {E : pm_H → Prop} (hE : xHE xX xgA_RR xgF_RR E) {m : Int} (hm : m ≤ 2147483646) (h0m : (0 : Int) ≤ m) {D : Nat} (hD : 2 ≤ D) {ph : pm_H} {T a n c : Nat} {l : List Int32} (hP : xH xX kK m 0 ph) (g9 : E ph) (hs : xps ph T a n c l) (ha : a ≤ T) (hT : T ≤ 40) : ∃ v ph', pm_Rd kK false D 197 [.ref 170] ph (v, ph', 0, 0) ∧ (∃ z : Int32, v = some (.int z) ∧ xH xX kK m 0 ph' ∧ E ph' ∧ xps ph' T a n c l ∧ (z.toInt = 0 ∨ (z.toInt = 1 ∧ a + 1 ≤ T ∧ xhF xX m ph' [(176 * 4096 + a, .inl (48, 57))]))) := by
  obtain ⟨v, ph', k1, z, p, hp, e, k2, k3, k4, z0, z1, k5, k6⟩ := xprim hE hm h0m (ex := []) (b := 0) (fun E2 _ => xso_197) (List.all_eq_true.mp xdg_all a (List.mem_range.mpr (by omega))) hD (vs := [.ref 170]) ⟨xaRi rfl (by decide), trivial⟩ xF0 hP g9 hs ha (Nat.zero_le _) hT
  rcases List.mem_cons.mp hp with h | h
  · subst h
    exact ⟨v, ph', k1, z, e, k2, k3, k4, Or.inl (Int.le_antisymm z1 z0)⟩
  · rcases List.mem_cons.mp h with h | h
    · subst h
      exact ⟨v, ph', k1, z, e, k2, k3, k4, Or.inr ⟨Int.le_antisymm z1 z0, k5, k6⟩⟩
    · cases h
set_option maxRecDepth 6000 in
theorem xnumber {E : pm_H → Prop} (hE : xHE xX xgA_RR xgF_RR E) {m : Int} (hm : m ≤ 2147483646) (h0m : (0 : Int) ≤ m) {D : Nat} (hD : 3 ≤ D) {ph : pm_H} {T a n c : Nat} {l : List Int32} {y : Int32} (hy : y.toInt = 3) (hP : xH xX kK m 0 ph) (g9 : E ph) (hs : xps ph T a n c l) (ha : a + 1 ≤ T) (hT : T ≤ 40) (hd : xhF xX m ph [(176 * 4096 + a, .inl (48, 57))]) : ∃ v ph', pm_Rd kK false D 199 [.ref 170, .int y] ph (v, ph', 0, 0) ∧ (∃ (z : Int32) (a' : Nat), v = some (.int z) ∧ xH xX kK m 0 ph' ∧ E ph' ∧ xps ph' T a' n c l ∧ 0 ≤ z.toInt ∧ z.toInt ≤ 999 ∧ a + 1 ≤ a' ∧ a' ≤ T) := by
  obtain ⟨v, ph', k1, z, p, hp, e, k2, k3, k4, z0, z1, k5, -⟩ := xprim hE hm h0m (ex := [(176 * 4096 + a, .inl (48, 57))]) (b := a + 1) (fun E2 h => xso_199 h) (List.all_eq_true.mp xnu_all a (List.mem_range.mpr (by omega))) hD (vs := [.ref 170, .int y]) ⟨xaRi rfl (by decide), xaI (by omega) (by omega), trivial⟩ hd hP g9 hs (by omega) ha hT
  rcases List.mem_cons.mp hp with h | h
  · subst h
    exact ⟨v, ph', k1, z, _, e, k2, k3, k4, z0, z1, Nat.le_refl _, k5⟩
  · rcases List.mem_cons.mp h with h | h
    · subst h
      exact ⟨v, ph', k1, z, _, e, k2, k3, k4, z0, z1, by show a + 1 ≤ a + 2; omega, k5⟩
    · rcases List.mem_cons.mp h with h | h
      · subst h
        exact ⟨v, ph', k1, z, _, e, k2, k3, k4, z0, z1, by show a + 1 ≤ a + 3; omega, k5⟩
      · cases h

set_option maxRecDepth 6000 in
theorem xof_0 {E : pm_H → Prop} (hE : xHE xX xgA_RR xgF_RR E) {m : Int} (hm : m ≤ 2147483646) (h0m : (0 : Int) ≤ m) {D : Nat} (hD : 5 ≤ D) {ph : pm_H} {T a n c : Nat} {l : List Int32} (hP : xH xX kK m 0 ph) (g9 : E ph) (hs : xps ph T a n c l) (ha : a ≤ T) (hT : T ≤ 40) : ∃ v ph', pm_Rd kK false D 198 [.ref 170, .ref 1048628] ph (v, ph', 0, 0) ∧ (∃ (z : Int32) (a' : Nat), v = some (.int z) ∧ xH xX kK m 0 ph' ∧ E ph' ∧ xps ph' T a' n c l ∧ ((z.toInt = -1 ∧ a' = a) ∨ (0 ≤ z.toInt ∧ z.toInt ≤ 7 ∧ a' = a + 1 ∧ a' ≤ T))) := by
  obtain ⟨v, ph', k1, z, p, hp, e, k2, k3, k4, z0, z1, k5, -⟩ := xprim hE hm h0m (ex := []) (b := 0) (fun E2 h => xso_198 h) (List.all_eq_true.mp xof_all_0 a (List.mem_range.mpr (by omega))) hD (vs := [.ref 170, .ref 1048628]) ⟨xaRi rfl (by decide), xaRi rfl (by decide), trivial⟩ xF0 hP g9 hs ha (Nat.zero_le _) hT
  refine ⟨v, ph', k1, z, p.2.2.1, e, k2, k3, k4, ?_⟩
  rcases List.mem_cons.mp hp with h | h
  · subst h
    exact Or.inl ⟨Int.le_antisymm z1 z0, rfl⟩
  · rcases List.mem_cons.mp h with h | h
    · subst h
      exact Or.inr ⟨z0, z1, rfl, k5⟩
    · cases h

set_option maxRecDepth 6000 in
theorem xof_1 {E : pm_H → Prop} (hE : xHE xX xgA_RR xgF_RR E) {m : Int} (hm : m ≤ 2147483646) (h0m : (0 : Int) ≤ m) {D : Nat} (hD : 5 ≤ D) {ph : pm_H} {T a n c : Nat} {l : List Int32} (hP : xH xX kK m 0 ph) (g9 : E ph) (hs : xps ph T a n c l) (ha : a ≤ T) (hT : T ≤ 40) : ∃ v ph', pm_Rd kK false D 198 [.ref 170, .ref 1048629] ph (v, ph', 0, 0) ∧ (∃ (z : Int32) (a' : Nat), v = some (.int z) ∧ xH xX kK m 0 ph' ∧ E ph' ∧ xps ph' T a' n c l ∧ ((z.toInt = -1 ∧ a' = a) ∨ (0 ≤ z.toInt ∧ z.toInt ≤ 2 ∧ a' = a + 1 ∧ a' ≤ T))) := by
  obtain ⟨v, ph', k1, z, p, hp, e, k2, k3, k4, z0, z1, k5, -⟩ := xprim hE hm h0m (ex := []) (b := 0) (fun E2 h => xso_198 h) (List.all_eq_true.mp xof_all_1 a (List.mem_range.mpr (by omega))) hD (vs := [.ref 170, .ref 1048629]) ⟨xaRi rfl (by decide), xaRi rfl (by decide), trivial⟩ xF0 hP g9 hs ha (Nat.zero_le _) hT
  refine ⟨v, ph', k1, z, p.2.2.1, e, k2, k3, k4, ?_⟩
  rcases List.mem_cons.mp hp with h | h
  · subst h
    exact Or.inl ⟨Int.le_antisymm z1 z0, rfl⟩
  · rcases List.mem_cons.mp h with h | h
    · subst h
      exact Or.inr ⟨z0, z1, rfl, k5⟩
    · cases h

set_option maxRecDepth 6000 in
theorem xof_2 {E : pm_H → Prop} (hE : xHE xX xgA_RR xgF_RR E) {m : Int} (hm : m ≤ 2147483646) (h0m : (0 : Int) ≤ m) {D : Nat} (hD : 5 ≤ D) {ph : pm_H} {T a n c : Nat} {l : List Int32} (hP : xH xX kK m 0 ph) (g9 : E ph) (hs : xps ph T a n c l) (ha : a ≤ T) (hT : T ≤ 40) : ∃ v ph', pm_Rd kK false D 198 [.ref 170, .ref 1048630] ph (v, ph', 0, 0) ∧ (∃ (z : Int32) (a' : Nat), v = some (.int z) ∧ xH xX kK m 0 ph' ∧ E ph' ∧ xps ph' T a' n c l ∧ ((z.toInt = -1 ∧ a' = a) ∨ (0 ≤ z.toInt ∧ z.toInt ≤ 1 ∧ a' = a + 1 ∧ a' ≤ T))) := by
  obtain ⟨v, ph', k1, z, p, hp, e, k2, k3, k4, z0, z1, k5, -⟩ := xprim hE hm h0m (ex := []) (b := 0) (fun E2 h => xso_198 h) (List.all_eq_true.mp xof_all_2 a (List.mem_range.mpr (by omega))) hD (vs := [.ref 170, .ref 1048630]) ⟨xaRi rfl (by decide), xaRi rfl (by decide), trivial⟩ xF0 hP g9 hs ha (Nat.zero_le _) hT
  refine ⟨v, ph', k1, z, p.2.2.1, e, k2, k3, k4, ?_⟩
  rcases List.mem_cons.mp hp with h | h
  · subst h
    exact Or.inl ⟨Int.le_antisymm z1 z0, rfl⟩
  · rcases List.mem_cons.mp h with h | h
    · subst h
      exact Or.inr ⟨z0, z1, rfl, k5⟩
    · cases h

set_option maxRecDepth 6000 in
theorem xof_3 {E : pm_H → Prop} (hE : xHE xX xgA_RR xgF_RR E) {m : Int} (hm : m ≤ 2147483646) (h0m : (0 : Int) ≤ m) {D : Nat} (hD : 5 ≤ D) {ph : pm_H} {T a n c : Nat} {l : List Int32} (hP : xH xX kK m 0 ph) (g9 : E ph) (hs : xps ph T a n c l) (ha : a ≤ T) (hT : T ≤ 40) : ∃ v ph', pm_Rd kK false D 198 [.ref 170, .ref 1048631] ph (v, ph', 0, 0) ∧ (∃ (z : Int32) (a' : Nat), v = some (.int z) ∧ xH xX kK m 0 ph' ∧ E ph' ∧ xps ph' T a' n c l ∧ ((z.toInt = -1 ∧ a' = a) ∨ (0 ≤ z.toInt ∧ z.toInt ≤ 1 ∧ a' = a + 1 ∧ a' ≤ T))) := by
  obtain ⟨v, ph', k1, z, p, hp, e, k2, k3, k4, z0, z1, k5, -⟩ := xprim hE hm h0m (ex := []) (b := 0) (fun E2 h => xso_198 h) (List.all_eq_true.mp xof_all_3 a (List.mem_range.mpr (by omega))) hD (vs := [.ref 170, .ref 1048631]) ⟨xaRi rfl (by decide), xaRi rfl (by decide), trivial⟩ xF0 hP g9 hs ha (Nat.zero_le _) hT
  refine ⟨v, ph', k1, z, p.2.2.1, e, k2, k3, k4, ?_⟩
  rcases List.mem_cons.mp hp with h | h
  · subst h
    exact Or.inl ⟨Int.le_antisymm z1 z0, rfl⟩
  · rcases List.mem_cons.mp h with h | h
    · subst h
      exact Or.inr ⟨z0, z1, rfl, k5⟩
    · cases h

set_option maxRecDepth 6000 in
theorem xcodes {E : pm_H → Prop} (hE : xHE xX xgA_RR xgF_RR E) {m : Int} (hm : m ≤ 2147483646) (h0m : (0 : Int) ≤ m) {D : Nat} {ph : pm_H} {T a n c : Nat} {l : List Int32} {y : Int32} (hP : xH xX kK m 0 ph) (g9 : E ph) (hs : xps ph T a n c l) (hc : c < 80) : ∃ v ph', pm_Rd kK false (D + 1) 212 [.ref 170, .int y] ph (v, ph', 0, 0) ∧ (v = none ∧ xH xX kK m 0 ph' ∧ E ph' ∧ xps ph' T a n (c + 1) (l.set c y)) := by
  obtain ⟨⟨x1, q1, e1⟩, ⟨x2, q2, e2⟩, ⟨x3, q3, e3⟩, ⟨x, qc, ec⟩, q5, q6⟩ := id hs
  refine xRd_mk (nl := 2) rfl rfl ?_
  show xGT kK D 212 _ (0, [some (.ref 170), some (.int y)], [], ph, 0, 0)
  refine gt_load (v := .ref 170) (n := 1) (ykc_212 (e := (2, .aload_n kF0, 0)) rfl) rfl rfl ?_
  refine gt_gfr (A := 180) (ykc_212 (e := (5, .getfield 59, 0)) rfl) rfl hP rfl rfl rfl ?_
  refine gt_load (v := .ref 170) (n := 1) (ykc_212 (e := (2, .aload_n kF0, 0)) rfl) rfl rfl ?_
  refine gt_gfk (v := .int x) (ykc_212 (e := (5, .getfield 227, 0)) rfl) rfl hP qc rfl ?_
  refine gt_load (v := .int y) (n := 1) (ykc_212 (e := (2, .iload_n kF1, 0)) rfl) rfl rfl ?_
  refine gt_ias (A := 180) (y := y) (x := x) (ykc_212 (e := (5, .iastore, 0)) rfl) hP rfl rfl (by omega) (by omega) xany rfl (fun ph1 hP1 u1 => ?_)
  have f1_24 : xget ph1 170 24 = some (.int x) := (u1.2.1 170 24 (fun q => absurd q.1 (by decide))).trans qc
  refine gt_load (v := .ref 170) (n := 1) (ykc_212 (e := (2, .aload_n kF0, 0)) rfl) rfl rfl ?_
  refine gt_alu (st' := [.ref 170, .ref 170]) (ykc_212 (e := (0, .dup, 0)) rfl) rfl rfl ?_
  refine gt_gfk (v := .int x) (ykc_212 (e := (5, .getfield 227, 0)) rfl) rfl hP1 f1_24 rfl ?_
  refine gt_alu (st' := [.int (Int32.ofInt 1), .int x, .ref 170]) (ykc_212 (e := (0, .iconst 1, 0)) rfl) rfl rfl ?_
  obtain ⟨y1, e_y1, h_y1⟩ : ∃ zq : Int32, x + (Int32.ofInt 1) = zq ∧ zq.toInt = x.toInt + 1 := ⟨_, rfl, by rw [ti_add (by rw [xi1]; omega) (by rw [xi1]; omega), xi1]⟩
  refine gt_alu (st' := [.int y1, .ref 170]) (ykc_212 (e := (0, .iadd, 0)) rfl) (by rw [← e_y1]; exact rfl) rfl ?_
  refine gt_pf (y := y1) (ykc_212 (e := (5, .putfield 227, 0)) rfl) rfl hP1 rfl rfl (by show 0 ≤ y1.toInt; omega) (by show y1.toInt ≤ 80; omega) rfl (fun ph2 hP2 u2 => ?_)
  refine gt_ret (ykc_212 (e := (7, .return_, 0)) rfl) rfl ?_
  obtain ⟨l', hat', hlen', -⟩ := xA_at (A := 180) hP1 rfl rfl
  have el := xu1_list q5 hat' (by omega) (by omega) u1
  have ek : x.toInt.toNat = c := by omega
  rw [ek] at el
  have w1 : ∀ k, k ≠ 24 → xget ph2 170 k = xget ph 170 k := fun k hk => (u2.2.1 170 k (fun q => hk q.2)).trans (u1.2.1 170 k (fun q => absurd q.1 (by decide)))
  refine ⟨rfl, hP2, xu1_E hE u2 rfl rfl rfl (xu1_E hE u1 rfl rfl rfl g9), ⟨x1, (w1 _ (by decide)).trans q1, e1⟩, ⟨x2, (w1 _ (by decide)).trans q2, e2⟩, ⟨x3, (w1 _ (by decide)).trans q3, e3⟩, ⟨y1, u2.1, by omega⟩, ?_, by rw [List.length_set]; exact q6⟩
  rw [u2.2.2 180 (by decide), hat', el]

set_option maxRecDepth 6000 in
theorem xps_nest {ph ph' : pm_H} {T a n c n' : Nat} {l : List Int32} {y : Int32} (h : xps ph T a n c l) (u : xu1 ph ph' 170 17 (.int y)) (hy : y.toInt = (n' : Int)) : xps ph' T a n' c l := by
  obtain ⟨⟨x1, q1, e1⟩, ⟨x2, q2, e2⟩, -, ⟨x4, q4, e4⟩, q5, q6⟩ := h
  exact ⟨⟨x1, (u.2.1 170 _ (by decide)).trans q1, e1⟩, ⟨x2, (u.2.1 170 _ (by decide)).trans q2, e2⟩, ⟨y, u.1, hy⟩, ⟨x4, (u.2.1 170 _ (by decide)).trans q4, e4⟩, (u.2.2 180 (by decide)).trans q5, q6⟩
set_option maxRecDepth 6000 in
theorem xtake_set {l : List Int32} {c : Nat} {y : Int32} (h : c < l.length) : (l.set c y).take (c + 1) = l.take c ++ [y] := by
  rw [List.take_succ, List.getElem?_set_self h, List.take_set_of_le (Nat.le_refl c)]
  rfl
/-- what reading one thing comes to -/
def xrdE (E : pm_H → Prop) (m : Int) (D j : Nat) (vs : List Value) (ph : pm_H) (T a n c : Nat) (l : List Int32) : Prop := ∃ v ph', pm_Rd kK false D j vs ph (v, ph', 0, 0) ∧ (∃ (z : Int32) (a' n' c' : Nat) (l' : List Int32), v = some (.int z) ∧ xH xX kK m 0 ph' ∧ E ph' ∧ xps ph' T a' n' c' l' ∧ xrd T a n c l z.toInt a' n' c' l')
def xAsk (E : pm_H → Prop) (m : Int) (F : Nat) : Prop := ∀ (D : Nat) (ph : pm_H) (T a n c : Nat) (l : List Int32), F + 8 ≤ D → xH xX kK m 0 ph → E ph → xps ph T a n c l → a ≤ T → T ≤ 40 → n ≤ 4 → c ≤ a → T - a + 6 * (4 - n) ≤ F → xrdE E m D 213 [.ref 170] ph T a n c l
def xRnk (E : pm_H → Prop) (m : Int) (F : Nat) : Prop := ∀ (D : Nat) (ph : pm_H) (T a n c r : Nat) (y : Int32) (l : List Int32), F + 8 ≤ D → xH xX kK m 0 ph → E ph → xps ph T a n c l → a ≤ T → T ≤ 40 → n ≤ 4 → c ≤ a → y.toInt = (r : Int) → r ≤ 3 → T - a + 6 * (4 - n) + (4 - r) ≤ F → xrdE E m D 214 [.ref 170, .int y] ph T a n c l

set_option maxRecDepth 6000 in
theorem x4i : (Int32.ofInt 4).toInt = 4 := by decide
set_option maxRecDepth 6000 in
theorem xask_step {E : pm_H → Prop} (hE : xHE xX xgA_RR xgF_RR E) {m : Int} (hm : m ≤ 2147483646) (h0m : (0 : Int) ≤ m) {F : Nat} (ih : ∀ F', F' < F → xAsk E m F' ∧ xRnk E m F') : xAsk E m F := by
  intro D ph T a n c l hD hP g9 hs ha hT hn hca hF
  have ihA : 0 < F → xAsk E m (F - 1) := fun h => (ih _ (by omega)).1
  have ihR : 0 < F → xRnk E m (F - 1) := fun h => (ih _ (by omega)).2
  obtain ⟨D', rfl⟩ : ∃ D', D = D' + 1 + 1 := ⟨D - 2, by omega⟩
  unfold xrdE
  refine xRd_mk (nl := 2) rfl rfl ?_
  show xGT kK (D' + 1) 213 _ (0, [some (.ref 170), none], [], ph, 0, 0)
  refine gt_load (v := .ref 170) (n := 1) (ykc_213 (e := (2, .aload_n kF0, 0)) rfl) rfl rfl ?_
  refine gt_push (v := .int ((Int8.ofInt 45).toInt32)) (n := 2) (ykc_213 (e := (1, .bipush 45, 0)) rfl) rfl rfl ?_
  refine gt_cv (n := 1) (as := [.ref 170, .int ((Int8.ofInt 45).toInt32)]) (r := []) (ykc_213 (e := (6, .invokevirtual 209, 0)) rfl) rfl hP rfl rfl rfl (xtakes hE hm h0m (by omega) hP g9 hs ha hT) rfl (fun vv ph1 hv => ?_)
  obtain ⟨z1, a1, e9, hP1, g91, hs1, hz1⟩ := hv; subst e9
  change xGT kK (D' + 1) 213 _ (6, [some (.ref 170), none], [.int z1], ph1, 0, 0)
  by_cases hq1 : z1.toInt = 0
  case neg =>
    have hz1 : a1 = a + 1 ∧ a1 ≤ T := by omega
    obtain ⟨ea1, ha1⟩ := hz1
    replace ihA := ihA (by omega)
    refine gt_zeq_f (ykc_213 (e := (4, .ifCond .eq 17, 23)) rfl) hq1 rfl ?_
    refine gt_load (v := .ref 170) (n := 1) (ykc_213 (e := (2, .aload_n kF0, 0)) rfl) rfl rfl ?_
    refine gt_cv (n := 0) (as := [.ref 170]) (r := []) (ykc_213 (e := (6, .invokevirtual 230, 0)) rfl) rfl hP1 rfl rfl rfl (ihA (D' + 1) ph1 T a1 n c l (by omega) hP1 g91 hs1 (by omega) hT hn (by omega) (by omega)) rfl (fun vv ph102 hv => ?_)
    obtain ⟨z2, a2, n2, c2, l2, e9, hP2, g92, hs2, hr2⟩ := hv; subst e9
    obtain ⟨b1, b2, b3, b4, b5, b6, b7⟩ := hr2
    have hc80 : c2 < 80 := by omega
    change xGT kK (D' + 1) 213 _ (13, [some (.ref 170), none], [.int z2], ph102, 0, 0)
    refine gt_store (L' := [some (.ref 170), some (.int z2)]) (st' := []) (n := 1) (ykc_213 (e := (3, .istore_n kF1, 0)) rfl) rfl rfl ?_
    refine gt_load (v := .ref 170) (n := 1) (ykc_213 (e := (2, .aload_n kF0, 0)) rfl) rfl rfl ?_
    refine gt_push (v := .int ((Int16.ofInt 3000).toInt32)) (n := 3) (ykc_213 (e := (1, .sipush 3000, 0)) rfl) rfl rfl ?_
    refine gt_cv (n := 1) (as := [.ref 170, .int ((Int16.ofInt 3000).toInt32)]) (r := []) (ykc_213 (e := (6, .invokevirtual 233, 0)) rfl) rfl hP2 rfl rfl rfl (xcodes (D := D') hE hm h0m hP2 g92 hs2 hc80) rfl (fun vv ph103 hv => ?_)
    obtain ⟨e9, hP3, g93, hs3⟩ := hv; subst e9
    change xGT kK (D' + 1) 213 _ (21, [some (.ref 170), some (.int z2)], [], ph103, 0, 0)
    refine gt_load (v := .int z2) (n := 1) (ykc_213 (e := (2, .iload_n kF1, 0)) rfl) rfl rfl ?_
    refine gt_ret (ykc_213 (e := (7, .ireturn, 0)) rfl) (xretz (by omega) (by omega)) ?_
    refine ⟨z2, a2, n2, c2 + 1, _, rfl, hP3, g93, hs3, by omega, b2, by omega, by omega, b5, b6, fun hz => ?_⟩
    obtain ⟨b8, seg, b9, b10⟩ := b7 hz
    refine ⟨b8, seg ++ [(Int16.ofInt 3000).toInt32], xvs_less b9 x3000, ?_⟩
    have hl80 : l2.length = 80 := hs2.2.2.2.2.2
    rw [xtake_set (by omega), b10, List.append_assoc]
  case pos =>
    have ea1 : a1 = a := by omega
    subst ea1
    refine gt_zeq_t (ykc_213 (e := (4, .ifCond .eq 17, 23)) rfl) hq1 ?_
    refine gt_load (v := .ref 170) (n := 1) (ykc_213 (e := (2, .aload_n kF0, 0)) rfl) rfl rfl ?_
    refine gt_cv (n := 0) (as := [.ref 170]) (r := []) (ykc_213 (e := (6, .invokevirtual 171, 0)) rfl) rfl hP1 rfl rfl rfl (xdigit hE hm h0m (by omega) hP1 g91 hs1 (by omega) hT) rfl (fun vv ph102 hv => ?_)
    obtain ⟨z4, e9, hP4, g94, hs4, hz4⟩ := hv; subst e9
    change xGT kK (D' + 1) 213 _ (27, [some (.ref 170), none], [.int z4], ph102, 0, 0)
    by_cases hq4 : z4.toInt = 0
    case neg =>
      have hz4 : a1 + 1 ≤ T ∧ xhF xX m ph102 [(176 * 4096 + a1, .inl (48, 57))] := by
        rcases hz4 with h | h
        · exact absurd h hq4
        · exact h.2
      obtain ⟨hd1, hd2⟩ := hz4
      refine gt_zeq_f (ykc_213 (e := (4, .ifCond .eq 14, 41)) rfl) hq4 rfl ?_
      refine gt_load (v := .ref 170) (n := 1) (ykc_213 (e := (2, .aload_n kF0, 0)) rfl) rfl rfl ?_
      refine gt_load (v := .ref 170) (n := 1) (ykc_213 (e := (2, .aload_n kF0, 0)) rfl) rfl rfl ?_
      refine gt_alu (st' := [.int (Int32.ofInt 3), .ref 170, .ref 170]) (ykc_213 (e := (0, .iconst 3, 0)) rfl) rfl rfl ?_
      refine gt_cv (n := 1) (as := [.ref 170, .int (Int32.ofInt 3)]) (r := [.ref 170]) (ykc_213 (e := (6, .invokevirtual 224, 0)) rfl) rfl hP4 rfl rfl rfl (xnumber hE hm h0m (by omega) (by decide) hP4 g94 hs4 hd1 hT hd2) rfl (fun vv ph203 hv => ?_)
      obtain ⟨z5, a5, e9, hP5, g95, hs5, b1, b2, b3, b4⟩ := hv; subst e9
      change xGT kK (D' + 1) 213 _ (36, [some (.ref 170), none], [.int z5, .ref 170], ph203, 0, 0)
      refine gt_cv (n := 1) (as := [.ref 170, .int z5]) (r := []) (ykc_213 (e := (6, .invokevirtual 233, 0)) rfl) rfl hP5 rfl rfl rfl (xcodes (D := D') hE hm h0m hP5 g95 hs5 (by omega)) rfl (fun vv ph204 hv => ?_)
      obtain ⟨e9, hP6, g96, hs6⟩ := hv; subst e9
      change xGT kK (D' + 1) 213 _ (39, [some (.ref 170), none], [], ph204, 0, 0)
      refine gt_alu (st' := [.int (Int32.ofInt 1)]) (ykc_213 (e := (0, .iconst 1, 0)) rfl) rfl rfl ?_
      refine gt_ret (ykc_213 (e := (7, .ireturn, 0)) rfl) (xretz (by decide) (by decide)) ?_
      refine ⟨_, a5, n, c + 1, _, rfl, hP6, g96, hs6, by omega, b4, by omega, by omega, hn, Or.inr rfl, fun _ => ⟨rfl, [z5], xvs_1 (Or.inl (by omega)), ?_⟩⟩
      have hl80 : l.length = 80 := hs.2.2.2.2.2
      exact xtake_set (by omega)
    case pos =>
      refine gt_zeq_t (ykc_213 (e := (4, .ifCond .eq 14, 41)) rfl) hq4 ?_
      refine gt_load (v := .ref 170) (n := 1) (ykc_213 (e := (2, .aload_n kF0, 0)) rfl) rfl rfl ?_
      refine gt_push (v := .ref 1048628) (n := 2) (ykc_213 (e := (1, .ldc 237, 0)) rfl) rfl rfl ?_
      refine gt_cv (n := 1) (as := [.ref 170, .ref 1048628]) (r := []) (ykc_213 (e := (6, .invokevirtual 184, 0)) rfl) rfl hP4 rfl rfl rfl (xof_0 hE hm h0m (by omega) hP4 g94 hs4 (by omega) hT) rfl (fun vv ph203 hv => ?_)
      obtain ⟨z7, a7, e9, hP7, g97, hs7, hz7⟩ := hv; subst e9
      change xGT kK (D' + 1) 213 _ (47, [some (.ref 170), none], [.int z7], ph203, 0, 0)
      refine gt_store (L' := [some (.ref 170), some (.int z7)]) (st' := []) (n := 1) (ykc_213 (e := (3, .istore_n kF1, 0)) rfl) rfl rfl ?_
      refine gt_load (v := .int z7) (n := 1) (ykc_213 (e := (2, .iload_n kF1, 0)) rfl) rfl rfl ?_
      by_cases hq7 : z7.toInt < 0
      case neg =>
        have hz7 : z7.toInt ≤ 7 ∧ a7 = a1 + 1 ∧ a7 ≤ T := by omega
        obtain ⟨h71, h72, h73⟩ := hz7
        refine gt_zlt_f (ykc_213 (e := (4, .ifCond .lt 14, 63)) rfl) (by omega) rfl ?_
        refine gt_load (v := .ref 170) (n := 1) (ykc_213 (e := (2, .aload_n kF0, 0)) rfl) rfl rfl ?_
        refine gt_push (v := .int ((Int16.ofInt 1000).toInt32)) (n := 3) (ykc_213 (e := (1, .sipush 1000, 0)) rfl) rfl rfl ?_
        refine gt_load (v := .int z7) (n := 1) (ykc_213 (e := (2, .iload_n kF1, 0)) rfl) rfl rfl ?_
        obtain ⟨y8, e_y8, h_y8⟩ : ∃ zq : Int32, ((Int16.ofInt 1000).toInt32) + z7 = zq ∧ zq.toInt = 1000 + z7.toInt := ⟨_, rfl, by rw [ti_add (by rw [x1000]; omega) (by rw [x1000]; omega), x1000]⟩
        refine gt_alu (st' := [.int y8, .ref 170]) (ykc_213 (e := (0, .iadd, 0)) rfl) (by rw [← e_y8]; exact rfl) rfl ?_
        refine gt_cv (n := 1) (as := [.ref 170, .int y8]) (r := []) (ykc_213 (e := (6, .invokevirtual 233, 0)) rfl) rfl hP7 rfl rfl rfl (xcodes (D := D') hE hm h0m hP7 g97 hs7 (by omega)) rfl (fun vv ph304 hv => ?_)
        obtain ⟨e9, hP8, g98, hs8⟩ := hv; subst e9
        change xGT kK (D' + 1) 213 _ (61, [some (.ref 170), some (.int z7)], [], ph304, 0, 0)
        refine gt_alu (st' := [.int (Int32.ofInt 1)]) (ykc_213 (e := (0, .iconst 1, 0)) rfl) rfl rfl ?_
        refine gt_ret (ykc_213 (e := (7, .ireturn, 0)) rfl) (xretz (by decide) (by decide)) ?_
        refine ⟨_, a7, n, c + 1, _, rfl, hP8, g98, hs8, by omega, h73, by omega, by omega, hn, Or.inr rfl, fun _ => ⟨rfl, [y8], xvs_1 (Or.inr ⟨by omega, by omega⟩), ?_⟩⟩
        have hl80 : l.length = 80 := hs.2.2.2.2.2
        exact xtake_set (by omega)
      case pos =>
        have ea7 : a7 = a1 := by omega
        subst ea7
        obtain ⟨-, -, ⟨xn, qn, en⟩, -, -, -⟩ := id hs7
        refine gt_zlt_t (ykc_213 (e := (4, .ifCond .lt 14, 63)) rfl) (by omega) ?_
        refine gt_load (v := .ref 170) (n := 1) (ykc_213 (e := (2, .aload_n kF0, 0)) rfl) rfl rfl ?_
        refine gt_gfk (v := .int xn) (ykc_213 (e := (5, .getfield 142, 0)) rfl) rfl hP7 qn rfl ?_
        refine gt_alu (st' := [.int (Int32.ofInt 4), .int xn]) (ykc_213 (e := (0, .iconst 4, 0)) rfl) rfl rfl ?_
        by_cases hn4 : n = 4
        · refine gt_ieq_t (ykc_213 (e := (4, .if_icmp .eq 12, 80)) rfl) (by rw [x4i]; omega) ?_
          refine gt_alu (st' := [.int (Int32.ofInt 0)]) (ykc_213 (e := (0, .iconst 0, 0)) rfl) rfl rfl ?_
          refine gt_ret (ykc_213 (e := (7, .ireturn, 0)) rfl) (xretz (by decide) (by decide)) ?_
          exact ⟨_, a7, n, c, l, rfl, hP7, g97, hs7, by omega, ha, Nat.le_refl _, by omega, hn, Or.inl rfl, fun q => absurd q (by decide)⟩
        · refine gt_ieq_f (ykc_213 (e := (4, .if_icmp .eq 12, 80)) rfl) (by rw [x4i]; omega) rfl ?_
          refine gt_load (v := .ref 170) (n := 1) (ykc_213 (e := (2, .aload_n kF0, 0)) rfl) rfl rfl ?_
          refine gt_push (v := .int ((Int8.ofInt 40).toInt32)) (n := 2) (ykc_213 (e := (1, .bipush 40, 0)) rfl) rfl rfl ?_
          refine gt_cv (n := 1) (as := [.ref 170, .int ((Int8.ofInt 40).toInt32)]) (r := []) (ykc_213 (e := (6, .invokevirtual 209, 0)) rfl) rfl hP7 rfl rfl rfl (xtakes hE hm h0m (by omega) hP7 g97 hs7 (by omega) hT) rfl (fun vv ph404 hv => ?_)
          obtain ⟨z9, a9, e9, hP9, g99, hs9, hz9⟩ := hv; subst e9
          change xGT kK (D' + 1) 213 _ (77, [some (.ref 170), some (.int z7)], [.int z9], ph404, 0, 0)
          by_cases hq9 : z9.toInt ≠ 0
          case neg =>
            have ea9 : a9 = a7 := by omega
            subst ea9
            refine gt_zne_f (ykc_213 (e := (4, .ifCond .ne 5, 82)) rfl) (by omega) rfl ?_
            refine gt_alu (st' := [.int (Int32.ofInt 0)]) (ykc_213 (e := (0, .iconst 0, 0)) rfl) rfl rfl ?_
            refine gt_ret (ykc_213 (e := (7, .ireturn, 0)) rfl) (xretz (by decide) (by decide)) ?_
            exact ⟨_, a9, n, c, l, rfl, hP9, g99, hs9, by omega, ha, Nat.le_refl _, by omega, hn, Or.inl rfl, fun q => absurd q (by decide)⟩
          case pos =>
            have hz9 : a9 = a7 + 1 ∧ a9 ≤ T := by omega
            obtain ⟨h91, h92⟩ := hz9
            replace ihR := ihR (by omega)
            obtain ⟨-, -, ⟨xn9, qn9, en9⟩, -, -, -⟩ := id hs9
            refine gt_zne_t (ykc_213 (e := (4, .ifCond .ne 5, 82)) rfl) hq9 ?_
            refine gt_load (v := .ref 170) (n := 1) (ykc_213 (e := (2, .aload_n kF0, 0)) rfl) rfl rfl ?_
            refine gt_alu (st' := [.ref 170, .ref 170]) (ykc_213 (e := (0, .dup, 0)) rfl) rfl rfl ?_
            refine gt_gfk (v := .int xn9) (ykc_213 (e := (5, .getfield 142, 0)) rfl) rfl hP9 qn9 rfl ?_
            refine gt_alu (st' := [.int (Int32.ofInt 1), .int xn9, .ref 170]) (ykc_213 (e := (0, .iconst 1, 0)) rfl) rfl rfl ?_
            obtain ⟨n1, e_n1, h_n1⟩ : ∃ zq : Int32, xn9 + (Int32.ofInt 1) = zq ∧ zq.toInt = xn9.toInt + 1 := ⟨_, rfl, by rw [ti_add (by rw [xi1]; omega) (by rw [xi1]; omega), xi1]⟩
            refine gt_alu (st' := [.int n1, .ref 170]) (ykc_213 (e := (0, .iadd, 0)) rfl) (by rw [← e_n1]; exact rfl) rfl ?_
            refine gt_pf (y := n1) (ykc_213 (e := (5, .putfield 142, 0)) rfl) rfl hP9 rfl rfl (by show 0 ≤ n1.toInt; omega) (by show n1.toInt ≤ 4; omega) rfl (fun ph505 hP505 u505 => ?_)
            have gN := xu1_E hE u505 rfl rfl rfl g99
            have hsN := xps_nest (n' := n + 1) hs9 u505 (by omega)
            refine gt_load (v := .ref 170) (n := 1) (ykc_213 (e := (2, .aload_n kF0, 0)) rfl) rfl rfl ?_
            refine gt_alu (st' := [.int (Int32.ofInt 0), .ref 170]) (ykc_213 (e := (0, .iconst 0, 0)) rfl) rfl rfl ?_
            refine gt_cv (n := 1) (as := [.ref 170, .int (Int32.ofInt 0)]) (r := []) (ykc_213 (e := (6, .invokevirtual 239, 0)) rfl) rfl hP505 rfl rfl rfl (ihR (D' + 1) ph505 T a9 (n + 1) c 0 _ l (by omega) hP505 gN hsN (by omega) hT (by omega) (by omega) (by decide) (by decide) (by omega)) rfl (fun vv ph506 hv => ?_)
            obtain ⟨zA, aA, nA, cA, lA, e9, hPA, g9A, hsA, hrA⟩ := hv; subst e9
            change xGT kK (D' + 1) 213 _ (97, [some (.ref 170), some (.int z7)], [.int zA], ph506, 0, 0)
            obtain ⟨b1, b2, b3, b4, b5, b6, b7⟩ := hrA
            by_cases hqA : zA.toInt = 0
            · refine gt_zeq_t (ykc_213 (e := (4, .ifCond .eq 12, 109)) rfl) hqA ?_
              refine gt_alu (st' := [.int (Int32.ofInt 0)]) (ykc_213 (e := (0, .iconst 0, 0)) rfl) rfl rfl ?_
              refine gt_ret (ykc_213 (e := (7, .ireturn, 0)) rfl) (xretz (by decide) (by decide)) ?_
              exact ⟨_, aA, nA, cA, lA, rfl, hPA, g9A, hsA, by omega, b2, b3, by omega, b5, Or.inl rfl, fun q => absurd q (by decide)⟩
            · obtain ⟨b8, seg, b9, b10⟩ := b7 (by omega)
              refine gt_zeq_f (ykc_213 (e := (4, .ifCond .eq 12, 109)) rfl) hqA rfl ?_
              refine gt_load (v := .ref 170) (n := 1) (ykc_213 (e := (2, .aload_n kF0, 0)) rfl) rfl rfl ?_
              refine gt_push (v := .int ((Int8.ofInt 41).toInt32)) (n := 2) (ykc_213 (e := (1, .bipush 41, 0)) rfl) rfl rfl ?_
              refine gt_cv (n := 1) (as := [.ref 170, .int ((Int8.ofInt 41).toInt32)]) (r := []) (ykc_213 (e := (6, .invokevirtual 209, 0)) rfl) rfl hPA rfl rfl rfl (xtakes hE hm h0m (by omega) hPA g9A hsA (by omega) hT) rfl (fun vv ph607 hv => ?_)
              obtain ⟨zB, aB, e9, hPB, g9B, hsB, hzB⟩ := hv; subst e9
              change xGT kK (D' + 1) 213 _ (106, [some (.ref 170), some (.int z7)], [.int zB], ph607, 0, 0)
              by_cases hqB : zB.toInt ≠ 0
              case neg =>
                have eaB : aB = aA := by omega
                subst eaB
                refine gt_zne_f (ykc_213 (e := (4, .ifCond .ne 5, 111)) rfl) (by omega) rfl ?_
                refine gt_alu (st' := [.int (Int32.ofInt 0)]) (ykc_213 (e := (0, .iconst 0, 0)) rfl) rfl rfl ?_
                refine gt_ret (ykc_213 (e := (7, .ireturn, 0)) rfl) (xretz (by decide) (by decide)) ?_
                exact ⟨_, aB, nA, cA, lA, rfl, hPB, g9B, hsB, by omega, b2, b3, by omega, b5, Or.inl rfl, fun q => absurd q (by decide)⟩
              case pos =>
                have hzB : aB = aA + 1 ∧ aB ≤ T := by omega
                obtain ⟨hB1, hB2⟩ := hzB
                obtain ⟨-, -, ⟨xnB, qnB, enB⟩, -, -, -⟩ := id hsB
                refine gt_zne_t (ykc_213 (e := (4, .ifCond .ne 5, 111)) rfl) hqB ?_
                refine gt_load (v := .ref 170) (n := 1) (ykc_213 (e := (2, .aload_n kF0, 0)) rfl) rfl rfl ?_
                refine gt_alu (st' := [.ref 170, .ref 170]) (ykc_213 (e := (0, .dup, 0)) rfl) rfl rfl ?_
                refine gt_gfk (v := .int xnB) (ykc_213 (e := (5, .getfield 142, 0)) rfl) rfl hPB qnB rfl ?_
                refine gt_alu (st' := [.int (Int32.ofInt 1), .int xnB, .ref 170]) (ykc_213 (e := (0, .iconst 1, 0)) rfl) rfl rfl ?_
                obtain ⟨n2, e_n2, h_n2⟩ : ∃ zq : Int32, xnB - (Int32.ofInt 1) = zq ∧ zq.toInt = xnB.toInt - 1 := ⟨_, rfl, by rw [ti_sub (by rw [xi1]; omega) (by rw [xi1]; omega), xi1]⟩
                refine gt_alu (st' := [.int n2, .ref 170]) (ykc_213 (e := (0, .isub, 0)) rfl) (by rw [← e_n2]; exact rfl) rfl ?_
                refine gt_pf (y := n2) (ykc_213 (e := (5, .putfield 142, 0)) rfl) rfl hPB rfl rfl (by show 0 ≤ n2.toInt; omega) (by show n2.toInt ≤ 4; omega) rfl (fun ph708 hP708 u708 => ?_)
                refine gt_alu (st' := [.int (Int32.ofInt 1)]) (ykc_213 (e := (0, .iconst 1, 0)) rfl) rfl rfl ?_
                refine gt_ret (ykc_213 (e := (7, .ireturn, 0)) rfl) (xretz (by decide) (by decide)) ?_
                exact ⟨_, aB, n, cA, lA, rfl, hP708, xu1_E hE u708 rfl rfl rfl g9B, xps_nest (n' := n) hsB u708 (by omega), by omega, hB2, b3, by omega, hn, Or.inr rfl, fun _ => ⟨rfl, seg, b9, b10⟩⟩

set_option maxRecDepth 6000 in
theorem xo0 : (Int32.ofInt 0).toInt = 0 := by decide
set_option maxRecDepth 6000 in
theorem xo3 : (Int32.ofInt 3).toInt = 3 := by decide
set_option maxRecDepth 6000 in
theorem xo5 : (Int32.ofInt 5).toInt = 5 := by decide
set_option maxRecDepth 6000 in
theorem x3i : (Int32.ofInt 3).toInt = 3 := by decide

set_option maxRecDepth 6000 in
theorem xrank_loop0 {E : pm_H → Prop} (hE : xHE xX xgA_RR xgF_RR E) {m : Int} (hm : m ≤ 2147483646) (h0m : (0 : Int) ≤ m) {F D' T a n c : Nat} {l : List Int32} {y : Int32} {Q : Option Value → pm_H → Prop} (ihR : xRnk E m F) (hD : F + 8 ≤ D' + 1) (hT : T ≤ 40) (hn : n ≤ 4) (hy : y.toInt = 0) (hF : T - a + 6 * (4 - n) + (4 - 0) ≤ F + 1) (hQ : ∀ (z : Int32) (a' n' c' : Nat) (l' : List Int32) (ph' : pm_H), xH xX kK m 0 ph' → E ph' → xps ph' T a' n' c' l' → xrd T a n c l z.toInt a' n' c' l' → Q (some (.int z)) ph') : ∀ (s a2 c2 : Nat) (l2 : List Int32) (ph2 : pm_H) (seg2 : List Int32) (o3 : Option Value), xH xX kK m 0 ph2 → E ph2 → xps ph2 T a2 n c2 l2 → a2 ≤ T → a < a2 → c2 ≤ a2 → c ≤ c2 → c2 + a ≤ a2 + c → T - a2 < s → xvs seg2 → l2.take c2 = l.take c ++ seg2 → xGT kK (D' + 1) 214 Q (24, [some (.ref 170), some (.int y), some (.int (Int32.ofInt 1)), o3], [], ph2, 0, 0) := by
  intro s
  induction s with
  | zero => intro a2 c2 l2 ph2 seg2 o3 _ _ _ _ _ _ _ _ h; omega
  | succ s ih2 =>
    intro a2 c2 l2 ph2 seg2 o3 hP2 g92 hs2 ha2 haa hca hcc hcd hsl hv2 ht2
    refine gt_load (v := .int (Int32.ofInt 1)) (n := 1) (ykc_214 (e := (2, .iload_n kF2, 0)) rfl) rfl rfl ?_
    refine gt_zeq_f (ykc_214 (e := (4, .ifCond .eq 88, 113)) rfl) (by decide) rfl ?_
    refine gt_load (v := .ref 170) (n := 1) (ykc_214 (e := (2, .aload_n kF0, 0)) rfl) rfl rfl ?_
    refine gt_load (v := .int y) (n := 1) (ykc_214 (e := (2, .iload_n kF1, 0)) rfl) rfl rfl ?_
    refine gt_zne_f (ykc_214 (e := (4, .ifCond .ne 8, 38)) rfl) (by omega) rfl ?_
    refine gt_push (v := .ref 1048629) (n := 2) (ykc_214 (e := (1, .ldc 242, 0)) rfl) rfl rfl ?_
    refine gt_br (pc' := 50) (st' := [.ref 1048629, .ref 170]) (ykc_214 (e := (4, .goto 15, 50)) rfl) rfl ?_
    refine gt_cv (n := 1) (as := [.ref 170, .ref 1048629]) (r := []) (ykc_214 (e := (6, .invokevirtual 184, 0)) rfl) rfl hP2 rfl rfl rfl (xof_1 hE hm h0m (by omega) hP2 g92 hs2 ha2 hT) rfl (fun vv ph1 hv => ?_)
    obtain ⟨z3, a3, e9, hP3, g93, hs3, hz3⟩ := hv; subst e9
    change xGT kK (D' + 1) 214 Q (53, [some (.ref 170), some (.int y), some (.int (Int32.ofInt 1)), o3], [.int z3], ph1, 0, 0)
    refine gt_store (L' := [some (.ref 170), some (.int y), some (.int (Int32.ofInt 1)), some (.int z3)]) (st' := []) (n := 1) (ykc_214 (e := (3, .istore_n kF3, 0)) rfl) rfl rfl ?_
    refine gt_load (v := .int z3) (n := 1) (ykc_214 (e := (2, .iload_n kF3, 0)) rfl) rfl rfl ?_
    by_cases hq3 : z3.toInt < 0
    · refine gt_zge_f (ykc_214 (e := (4, .ifCond .ge 5, 60)) rfl) hq3 rfl ?_
      refine gt_alu (st' := [.int (Int32.ofInt 1)]) (ykc_214 (e := (0, .iconst 1, 0)) rfl) rfl rfl ?_
      refine gt_ret (ykc_214 (e := (7, .ireturn, 0)) rfl) (xretz (by decide) (by decide)) ?_
      have ea : a3 = a2 := by omega
      subst ea
      exact hQ _ a3 n c2 l2 _ hP3 g93 hs3 ⟨by omega, ha2, hcc, hcd, hn, Or.inr rfl, fun _ => ⟨rfl, seg2, hv2, ht2⟩⟩
    · have hz3 : z3.toInt ≤ 2 ∧ a3 = a2 + 1 ∧ a3 ≤ T := by omega
      obtain ⟨h31, h32, h33⟩ := hz3
      refine gt_zge_t (ykc_214 (e := (4, .ifCond .ge 5, 60)) rfl) (by omega) ?_
      refine gt_load (v := .ref 170) (n := 1) (ykc_214 (e := (2, .aload_n kF0, 0)) rfl) rfl rfl ?_
      refine gt_load (v := .int y) (n := 1) (ykc_214 (e := (2, .iload_n kF1, 0)) rfl) rfl rfl ?_
      refine gt_alu (st' := [.int (Int32.ofInt 1), .int y, .ref 170]) (ykc_214 (e := (0, .iconst 1, 0)) rfl) rfl rfl ?_
      obtain ⟨y1, e_y1, h_y1⟩ : ∃ zq : Int32, y + (Int32.ofInt 1) = zq ∧ zq.toInt = y.toInt + 1 := ⟨_, rfl, by rw [ti_add (by rw [xi1]; omega) (by rw [xi1]; omega), xi1]⟩
      refine gt_alu (st' := [.int y1, .ref 170]) (ykc_214 (e := (0, .iadd, 0)) rfl) (by rw [← e_y1]; exact rfl) rfl ?_
      refine gt_cv (n := 1) (as := [.ref 170, .int y1]) (r := []) (ykc_214 (e := (6, .invokevirtual 239, 0)) rfl) rfl hP3 rfl rfl rfl (ihR (D' + 1) ph1 T a3 n c2 (0 + 1) y1 l2 (by omega) hP3 g93 hs3 (by omega) hT hn (by omega) (by omega) (by omega) (by omega)) rfl (fun vv ph102 hv => ?_)
      obtain ⟨z4, a4, n4, c4, l4, e9, hP4, g94, hs4, hr4⟩ := hv; subst e9
      change xGT kK (D' + 1) 214 Q (67, [some (.ref 170), some (.int y), some (.int (Int32.ofInt 1)), some (.int z3)], [.int z4], ph102, 0, 0)
      obtain ⟨b1, b2, b3, b4, b5, b6, b7⟩ := hr4
      by_cases hq4 : z4.toInt ≠ 0
      case neg =>
        refine gt_zne_f (ykc_214 (e := (4, .ifCond .ne 5, 72)) rfl) (by omega) rfl ?_
        refine gt_alu (st' := [.int (Int32.ofInt 0)]) (ykc_214 (e := (0, .iconst 0, 0)) rfl) rfl rfl ?_
        refine gt_ret (ykc_214 (e := (7, .ireturn, 0)) rfl) (xretz (by decide) (by decide)) ?_
        exact hQ _ a4 n4 c4 l4 _ hP4 g94 hs4 ⟨by omega, b2, by omega, by omega, b5, Or.inl rfl, fun q => absurd q (by decide)⟩
      case pos =>
        obtain ⟨b8, seg4, b9, b10⟩ := b7 (by omega)
        have b88 := b8.symm; subst b88
        have hl80 : l4.length = 80 := hs4.2.2.2.2.2
        refine gt_zne_t (ykc_214 (e := (4, .ifCond .ne 5, 72)) rfl) hq4 ?_
        refine gt_load (v := .ref 170) (n := 1) (ykc_214 (e := (2, .aload_n kF0, 0)) rfl) rfl rfl ?_
        refine gt_push (v := .int ((Int16.ofInt 2000).toInt32)) (n := 3) (ykc_214 (e := (1, .sipush 2000, 0)) rfl) rfl rfl ?_
        refine gt_load (v := .int z3) (n := 1) (ykc_214 (e := (2, .iload_n kF3, 0)) rfl) rfl rfl ?_
        obtain ⟨y5, e_y5, h_y5⟩ : ∃ zq : Int32, ((Int16.ofInt 2000).toInt32) + z3 = zq ∧ zq.toInt = 2000 + z3.toInt := ⟨_, rfl, by rw [ti_add (by rw [x2000]; omega) (by rw [x2000]; omega), x2000]⟩
        refine gt_alu (st' := [.int y5, .ref 170]) (ykc_214 (e := (0, .iadd, 0)) rfl) (by rw [← e_y5]; exact rfl) rfl ?_
        refine gt_load (v := .int y) (n := 1) (ykc_214 (e := (2, .iload_n kF1, 0)) rfl) rfl rfl ?_
        refine gt_zne_f (ykc_214 (e := (4, .ifCond .ne 7, 86)) rfl) (by omega) rfl ?_
        refine gt_alu (st' := [.int (Int32.ofInt 0), .int y5, .ref 170]) (ykc_214 (e := (0, .iconst 0, 0)) rfl) rfl rfl ?_
        refine gt_br (pc' := 96) (st' := [.int (Int32.ofInt 0), .int y5, .ref 170]) (ykc_214 (e := (4, .goto 13, 96)) rfl) rfl ?_
        obtain ⟨y6, e_y6, h_y6⟩ : ∃ zq : Int32, y5 + (Int32.ofInt 0) = zq ∧ zq.toInt = 2000 + z3.toInt + 0 := ⟨_, rfl, by rw [ti_add (by rw [h_y5, xo0]; omega) (by rw [h_y5, xo0]; omega), h_y5, xo0]⟩
        refine gt_alu (st' := [.int y6, .ref 170]) (ykc_214 (e := (0, .iadd, 0)) rfl) (by rw [← e_y6]; exact rfl) rfl ?_
        refine gt_cv (n := 1) (as := [.ref 170, .int y6]) (r := []) (ykc_214 (e := (6, .invokevirtual 233, 0)) rfl) rfl hP4 rfl rfl rfl (xcodes (D := D') hE hm h0m hP4 g94 hs4 (by omega)) rfl (fun vv ph203 hv => ?_)
        obtain ⟨e9, hP5, g95, hs5⟩ := hv; subst e9
        change xGT kK (D' + 1) 214 Q (100, [some (.ref 170), some (.int y), some (.int (Int32.ofInt 1)), some (.int z3)], [], ph203, 0, 0)
        refine gt_load (v := .int y) (n := 1) (ykc_214 (e := (2, .iload_n kF1, 0)) rfl) rfl rfl ?_
        refine gt_zle_t (ykc_214 (e := (4, .ifCond .le 7, 108)) rfl) (by omega) ?_
        refine gt_alu (st' := [.int (Int32.ofInt 0)]) (ykc_214 (e := (0, .iconst 0, 0)) rfl) rfl rfl ?_
        refine gt_store (L' := [some (.ref 170), some (.int y), some (.int (Int32.ofInt 0)), some (.int z3)]) (st' := []) (n := 1) (ykc_214 (e := (3, .istore_n kF2, 0)) rfl) rfl rfl ?_
        refine gt_br (pc' := 24) (st' := []) (ykc_214 (e := (4, .goto (-86), 24)) rfl) rfl ?_
        refine gt_load (v := .int (Int32.ofInt 0)) (n := 1) (ykc_214 (e := (2, .iload_n kF2, 0)) rfl) rfl rfl ?_
        refine gt_zeq_t (ykc_214 (e := (4, .ifCond .eq 88, 113)) rfl) (by decide) ?_
        refine gt_alu (st' := [.int (Int32.ofInt 1)]) (ykc_214 (e := (0, .iconst 1, 0)) rfl) rfl rfl ?_
        refine gt_ret (ykc_214 (e := (7, .ireturn, 0)) rfl) (xretz (by decide) (by decide)) ?_
        exact hQ _ a4 n (c4 + 1) _ _ hP5 g95 hs5 ⟨by omega, b2, by omega, by omega, hn, Or.inr rfl, fun _ => ⟨rfl, seg2 ++ seg4 ++ [y6], xvs_act hv2 b9 ⟨by omega, by omega⟩, by rw [xtake_set (by omega), b10, ht2]; simp only [List.append_assoc]⟩⟩

set_option maxRecDepth 6000 in
theorem xrank_loop1 {E : pm_H → Prop} (hE : xHE xX xgA_RR xgF_RR E) {m : Int} (hm : m ≤ 2147483646) (h0m : (0 : Int) ≤ m) {F D' T a n c : Nat} {l : List Int32} {y : Int32} {Q : Option Value → pm_H → Prop} (ihR : xRnk E m F) (hD : F + 8 ≤ D' + 1) (hT : T ≤ 40) (hn : n ≤ 4) (hy : y.toInt = 1) (hF : T - a + 6 * (4 - n) + (4 - 1) ≤ F + 1) (hQ : ∀ (z : Int32) (a' n' c' : Nat) (l' : List Int32) (ph' : pm_H), xH xX kK m 0 ph' → E ph' → xps ph' T a' n' c' l' → xrd T a n c l z.toInt a' n' c' l' → Q (some (.int z)) ph') : ∀ (s a2 c2 : Nat) (l2 : List Int32) (ph2 : pm_H) (seg2 : List Int32) (o3 : Option Value), xH xX kK m 0 ph2 → E ph2 → xps ph2 T a2 n c2 l2 → a2 ≤ T → a < a2 → c2 ≤ a2 → c ≤ c2 → c2 + a ≤ a2 + c → T - a2 < s → xvs seg2 → l2.take c2 = l.take c ++ seg2 → xGT kK (D' + 1) 214 Q (24, [some (.ref 170), some (.int y), some (.int (Int32.ofInt 1)), o3], [], ph2, 0, 0) := by
  intro s
  induction s with
  | zero => intro a2 c2 l2 ph2 seg2 o3 _ _ _ _ _ _ _ _ h; omega
  | succ s ih2 =>
    intro a2 c2 l2 ph2 seg2 o3 hP2 g92 hs2 ha2 haa hca hcc hcd hsl hv2 ht2
    refine gt_load (v := .int (Int32.ofInt 1)) (n := 1) (ykc_214 (e := (2, .iload_n kF2, 0)) rfl) rfl rfl ?_
    refine gt_zeq_f (ykc_214 (e := (4, .ifCond .eq 88, 113)) rfl) (by decide) rfl ?_
    refine gt_load (v := .ref 170) (n := 1) (ykc_214 (e := (2, .aload_n kF0, 0)) rfl) rfl rfl ?_
    refine gt_load (v := .int y) (n := 1) (ykc_214 (e := (2, .iload_n kF1, 0)) rfl) rfl rfl ?_
    refine gt_zne_t (ykc_214 (e := (4, .ifCond .ne 8, 38)) rfl) (by omega) ?_
    refine gt_load (v := .int y) (n := 1) (ykc_214 (e := (2, .iload_n kF1, 0)) rfl) rfl rfl ?_
    refine gt_alu (st' := [.int (Int32.ofInt 1), .int y, .ref 170]) (ykc_214 (e := (0, .iconst 1, 0)) rfl) rfl rfl ?_
    refine gt_ine_f (ykc_214 (e := (4, .if_icmp .ne 8, 48)) rfl) (by rw [xi1]; omega) rfl ?_
    refine gt_push (v := .ref 1048630) (n := 2) (ykc_214 (e := (1, .ldc 244, 0)) rfl) rfl rfl ?_
    refine gt_br (pc' := 50) (st' := [.ref 1048630, .ref 170]) (ykc_214 (e := (4, .goto 5, 50)) rfl) rfl ?_
    refine gt_cv (n := 1) (as := [.ref 170, .ref 1048630]) (r := []) (ykc_214 (e := (6, .invokevirtual 184, 0)) rfl) rfl hP2 rfl rfl rfl (xof_2 hE hm h0m (by omega) hP2 g92 hs2 ha2 hT) rfl (fun vv ph1 hv => ?_)
    obtain ⟨z3, a3, e9, hP3, g93, hs3, hz3⟩ := hv; subst e9
    change xGT kK (D' + 1) 214 Q (53, [some (.ref 170), some (.int y), some (.int (Int32.ofInt 1)), o3], [.int z3], ph1, 0, 0)
    refine gt_store (L' := [some (.ref 170), some (.int y), some (.int (Int32.ofInt 1)), some (.int z3)]) (st' := []) (n := 1) (ykc_214 (e := (3, .istore_n kF3, 0)) rfl) rfl rfl ?_
    refine gt_load (v := .int z3) (n := 1) (ykc_214 (e := (2, .iload_n kF3, 0)) rfl) rfl rfl ?_
    by_cases hq3 : z3.toInt < 0
    · refine gt_zge_f (ykc_214 (e := (4, .ifCond .ge 5, 60)) rfl) hq3 rfl ?_
      refine gt_alu (st' := [.int (Int32.ofInt 1)]) (ykc_214 (e := (0, .iconst 1, 0)) rfl) rfl rfl ?_
      refine gt_ret (ykc_214 (e := (7, .ireturn, 0)) rfl) (xretz (by decide) (by decide)) ?_
      have ea : a3 = a2 := by omega
      subst ea
      exact hQ _ a3 n c2 l2 _ hP3 g93 hs3 ⟨by omega, ha2, hcc, hcd, hn, Or.inr rfl, fun _ => ⟨rfl, seg2, hv2, ht2⟩⟩
    · have hz3 : z3.toInt ≤ 2 ∧ a3 = a2 + 1 ∧ a3 ≤ T := by omega
      obtain ⟨h31, h32, h33⟩ := hz3
      refine gt_zge_t (ykc_214 (e := (4, .ifCond .ge 5, 60)) rfl) (by omega) ?_
      refine gt_load (v := .ref 170) (n := 1) (ykc_214 (e := (2, .aload_n kF0, 0)) rfl) rfl rfl ?_
      refine gt_load (v := .int y) (n := 1) (ykc_214 (e := (2, .iload_n kF1, 0)) rfl) rfl rfl ?_
      refine gt_alu (st' := [.int (Int32.ofInt 1), .int y, .ref 170]) (ykc_214 (e := (0, .iconst 1, 0)) rfl) rfl rfl ?_
      obtain ⟨y1, e_y1, h_y1⟩ : ∃ zq : Int32, y + (Int32.ofInt 1) = zq ∧ zq.toInt = y.toInt + 1 := ⟨_, rfl, by rw [ti_add (by rw [xi1]; omega) (by rw [xi1]; omega), xi1]⟩
      refine gt_alu (st' := [.int y1, .ref 170]) (ykc_214 (e := (0, .iadd, 0)) rfl) (by rw [← e_y1]; exact rfl) rfl ?_
      refine gt_cv (n := 1) (as := [.ref 170, .int y1]) (r := []) (ykc_214 (e := (6, .invokevirtual 239, 0)) rfl) rfl hP3 rfl rfl rfl (ihR (D' + 1) ph1 T a3 n c2 (1 + 1) y1 l2 (by omega) hP3 g93 hs3 (by omega) hT hn (by omega) (by omega) (by omega) (by omega)) rfl (fun vv ph102 hv => ?_)
      obtain ⟨z4, a4, n4, c4, l4, e9, hP4, g94, hs4, hr4⟩ := hv; subst e9
      change xGT kK (D' + 1) 214 Q (67, [some (.ref 170), some (.int y), some (.int (Int32.ofInt 1)), some (.int z3)], [.int z4], ph102, 0, 0)
      obtain ⟨b1, b2, b3, b4, b5, b6, b7⟩ := hr4
      by_cases hq4 : z4.toInt ≠ 0
      case neg =>
        refine gt_zne_f (ykc_214 (e := (4, .ifCond .ne 5, 72)) rfl) (by omega) rfl ?_
        refine gt_alu (st' := [.int (Int32.ofInt 0)]) (ykc_214 (e := (0, .iconst 0, 0)) rfl) rfl rfl ?_
        refine gt_ret (ykc_214 (e := (7, .ireturn, 0)) rfl) (xretz (by decide) (by decide)) ?_
        exact hQ _ a4 n4 c4 l4 _ hP4 g94 hs4 ⟨by omega, b2, by omega, by omega, b5, Or.inl rfl, fun q => absurd q (by decide)⟩
      case pos =>
        obtain ⟨b8, seg4, b9, b10⟩ := b7 (by omega)
        have b88 := b8.symm; subst b88
        have hl80 : l4.length = 80 := hs4.2.2.2.2.2
        refine gt_zne_t (ykc_214 (e := (4, .ifCond .ne 5, 72)) rfl) hq4 ?_
        refine gt_load (v := .ref 170) (n := 1) (ykc_214 (e := (2, .aload_n kF0, 0)) rfl) rfl rfl ?_
        refine gt_push (v := .int ((Int16.ofInt 2000).toInt32)) (n := 3) (ykc_214 (e := (1, .sipush 2000, 0)) rfl) rfl rfl ?_
        refine gt_load (v := .int z3) (n := 1) (ykc_214 (e := (2, .iload_n kF3, 0)) rfl) rfl rfl ?_
        obtain ⟨y5, e_y5, h_y5⟩ : ∃ zq : Int32, ((Int16.ofInt 2000).toInt32) + z3 = zq ∧ zq.toInt = 2000 + z3.toInt := ⟨_, rfl, by rw [ti_add (by rw [x2000]; omega) (by rw [x2000]; omega), x2000]⟩
        refine gt_alu (st' := [.int y5, .ref 170]) (ykc_214 (e := (0, .iadd, 0)) rfl) (by rw [← e_y5]; exact rfl) rfl ?_
        refine gt_load (v := .int y) (n := 1) (ykc_214 (e := (2, .iload_n kF1, 0)) rfl) rfl rfl ?_
        refine gt_zne_t (ykc_214 (e := (4, .ifCond .ne 7, 86)) rfl) (by omega) ?_
        refine gt_load (v := .int y) (n := 1) (ykc_214 (e := (2, .iload_n kF1, 0)) rfl) rfl rfl ?_
        refine gt_alu (st' := [.int (Int32.ofInt 1), .int y, .int y5, .ref 170]) (ykc_214 (e := (0, .iconst 1, 0)) rfl) rfl rfl ?_
        refine gt_ine_f (ykc_214 (e := (4, .if_icmp .ne 7, 95)) rfl) (by rw [xi1]; omega) rfl ?_
        refine gt_alu (st' := [.int (Int32.ofInt 3), .int y5, .ref 170]) (ykc_214 (e := (0, .iconst 3, 0)) rfl) rfl rfl ?_
        refine gt_br (pc' := 96) (st' := [.int (Int32.ofInt 3), .int y5, .ref 170]) (ykc_214 (e := (4, .goto 4, 96)) rfl) rfl ?_
        obtain ⟨y6, e_y6, h_y6⟩ : ∃ zq : Int32, y5 + (Int32.ofInt 3) = zq ∧ zq.toInt = 2000 + z3.toInt + 3 := ⟨_, rfl, by rw [ti_add (by rw [h_y5, xo3]; omega) (by rw [h_y5, xo3]; omega), h_y5, xo3]⟩
        refine gt_alu (st' := [.int y6, .ref 170]) (ykc_214 (e := (0, .iadd, 0)) rfl) (by rw [← e_y6]; exact rfl) rfl ?_
        refine gt_cv (n := 1) (as := [.ref 170, .int y6]) (r := []) (ykc_214 (e := (6, .invokevirtual 233, 0)) rfl) rfl hP4 rfl rfl rfl (xcodes (D := D') hE hm h0m hP4 g94 hs4 (by omega)) rfl (fun vv ph203 hv => ?_)
        obtain ⟨e9, hP5, g95, hs5⟩ := hv; subst e9
        change xGT kK (D' + 1) 214 Q (100, [some (.ref 170), some (.int y), some (.int (Int32.ofInt 1)), some (.int z3)], [], ph203, 0, 0)
        refine gt_load (v := .int y) (n := 1) (ykc_214 (e := (2, .iload_n kF1, 0)) rfl) rfl rfl ?_
        refine gt_zle_f (ykc_214 (e := (4, .ifCond .le 7, 108)) rfl) (by omega) rfl ?_
        refine gt_alu (st' := [.int (Int32.ofInt 1)]) (ykc_214 (e := (0, .iconst 1, 0)) rfl) rfl rfl ?_
        refine gt_br (pc' := 109) (st' := [.int (Int32.ofInt 1)]) (ykc_214 (e := (4, .goto 4, 109)) rfl) rfl ?_
        refine gt_store (L' := [some (.ref 170), some (.int y), some (.int (Int32.ofInt 1)), some (.int z3)]) (st' := []) (n := 1) (ykc_214 (e := (3, .istore_n kF2, 0)) rfl) rfl rfl ?_
        refine gt_br (pc' := 24) (st' := []) (ykc_214 (e := (4, .goto (-86), 24)) rfl) rfl ?_
        exact ih2 a4 (c4 + 1) _ _ (seg2 ++ seg4 ++ [y6]) _ hP5 g95 hs5 b2 (by omega) (by omega) (by omega) (by omega) (by omega) (xvs_act hv2 b9 ⟨by omega, by omega⟩) (by rw [xtake_set (by omega), b10, ht2]; simp only [List.append_assoc])

set_option maxRecDepth 6000 in
theorem xrank_loop2 {E : pm_H → Prop} (hE : xHE xX xgA_RR xgF_RR E) {m : Int} (hm : m ≤ 2147483646) (h0m : (0 : Int) ≤ m) {F D' T a n c : Nat} {l : List Int32} {y : Int32} {Q : Option Value → pm_H → Prop} (ihR : xRnk E m F) (hD : F + 8 ≤ D' + 1) (hT : T ≤ 40) (hn : n ≤ 4) (hy : y.toInt = 2) (hF : T - a + 6 * (4 - n) + (4 - 2) ≤ F + 1) (hQ : ∀ (z : Int32) (a' n' c' : Nat) (l' : List Int32) (ph' : pm_H), xH xX kK m 0 ph' → E ph' → xps ph' T a' n' c' l' → xrd T a n c l z.toInt a' n' c' l' → Q (some (.int z)) ph') : ∀ (s a2 c2 : Nat) (l2 : List Int32) (ph2 : pm_H) (seg2 : List Int32) (o3 : Option Value), xH xX kK m 0 ph2 → E ph2 → xps ph2 T a2 n c2 l2 → a2 ≤ T → a < a2 → c2 ≤ a2 → c ≤ c2 → c2 + a ≤ a2 + c → T - a2 < s → xvs seg2 → l2.take c2 = l.take c ++ seg2 → xGT kK (D' + 1) 214 Q (24, [some (.ref 170), some (.int y), some (.int (Int32.ofInt 1)), o3], [], ph2, 0, 0) := by
  intro s
  induction s with
  | zero => intro a2 c2 l2 ph2 seg2 o3 _ _ _ _ _ _ _ _ h; omega
  | succ s ih2 =>
    intro a2 c2 l2 ph2 seg2 o3 hP2 g92 hs2 ha2 haa hca hcc hcd hsl hv2 ht2
    refine gt_load (v := .int (Int32.ofInt 1)) (n := 1) (ykc_214 (e := (2, .iload_n kF2, 0)) rfl) rfl rfl ?_
    refine gt_zeq_f (ykc_214 (e := (4, .ifCond .eq 88, 113)) rfl) (by decide) rfl ?_
    refine gt_load (v := .ref 170) (n := 1) (ykc_214 (e := (2, .aload_n kF0, 0)) rfl) rfl rfl ?_
    refine gt_load (v := .int y) (n := 1) (ykc_214 (e := (2, .iload_n kF1, 0)) rfl) rfl rfl ?_
    refine gt_zne_t (ykc_214 (e := (4, .ifCond .ne 8, 38)) rfl) (by omega) ?_
    refine gt_load (v := .int y) (n := 1) (ykc_214 (e := (2, .iload_n kF1, 0)) rfl) rfl rfl ?_
    refine gt_alu (st' := [.int (Int32.ofInt 1), .int y, .ref 170]) (ykc_214 (e := (0, .iconst 1, 0)) rfl) rfl rfl ?_
    refine gt_ine_t (ykc_214 (e := (4, .if_icmp .ne 8, 48)) rfl) (by rw [xi1]; omega) ?_
    refine gt_push (v := .ref 1048631) (n := 2) (ykc_214 (e := (1, .ldc 246, 0)) rfl) rfl rfl ?_
    refine gt_cv (n := 1) (as := [.ref 170, .ref 1048631]) (r := []) (ykc_214 (e := (6, .invokevirtual 184, 0)) rfl) rfl hP2 rfl rfl rfl (xof_3 hE hm h0m (by omega) hP2 g92 hs2 ha2 hT) rfl (fun vv ph1 hv => ?_)
    obtain ⟨z3, a3, e9, hP3, g93, hs3, hz3⟩ := hv; subst e9
    change xGT kK (D' + 1) 214 Q (53, [some (.ref 170), some (.int y), some (.int (Int32.ofInt 1)), o3], [.int z3], ph1, 0, 0)
    refine gt_store (L' := [some (.ref 170), some (.int y), some (.int (Int32.ofInt 1)), some (.int z3)]) (st' := []) (n := 1) (ykc_214 (e := (3, .istore_n kF3, 0)) rfl) rfl rfl ?_
    refine gt_load (v := .int z3) (n := 1) (ykc_214 (e := (2, .iload_n kF3, 0)) rfl) rfl rfl ?_
    by_cases hq3 : z3.toInt < 0
    · refine gt_zge_f (ykc_214 (e := (4, .ifCond .ge 5, 60)) rfl) hq3 rfl ?_
      refine gt_alu (st' := [.int (Int32.ofInt 1)]) (ykc_214 (e := (0, .iconst 1, 0)) rfl) rfl rfl ?_
      refine gt_ret (ykc_214 (e := (7, .ireturn, 0)) rfl) (xretz (by decide) (by decide)) ?_
      have ea : a3 = a2 := by omega
      subst ea
      exact hQ _ a3 n c2 l2 _ hP3 g93 hs3 ⟨by omega, ha2, hcc, hcd, hn, Or.inr rfl, fun _ => ⟨rfl, seg2, hv2, ht2⟩⟩
    · have hz3 : z3.toInt ≤ 2 ∧ a3 = a2 + 1 ∧ a3 ≤ T := by omega
      obtain ⟨h31, h32, h33⟩ := hz3
      refine gt_zge_t (ykc_214 (e := (4, .ifCond .ge 5, 60)) rfl) (by omega) ?_
      refine gt_load (v := .ref 170) (n := 1) (ykc_214 (e := (2, .aload_n kF0, 0)) rfl) rfl rfl ?_
      refine gt_load (v := .int y) (n := 1) (ykc_214 (e := (2, .iload_n kF1, 0)) rfl) rfl rfl ?_
      refine gt_alu (st' := [.int (Int32.ofInt 1), .int y, .ref 170]) (ykc_214 (e := (0, .iconst 1, 0)) rfl) rfl rfl ?_
      obtain ⟨y1, e_y1, h_y1⟩ : ∃ zq : Int32, y + (Int32.ofInt 1) = zq ∧ zq.toInt = y.toInt + 1 := ⟨_, rfl, by rw [ti_add (by rw [xi1]; omega) (by rw [xi1]; omega), xi1]⟩
      refine gt_alu (st' := [.int y1, .ref 170]) (ykc_214 (e := (0, .iadd, 0)) rfl) (by rw [← e_y1]; exact rfl) rfl ?_
      refine gt_cv (n := 1) (as := [.ref 170, .int y1]) (r := []) (ykc_214 (e := (6, .invokevirtual 239, 0)) rfl) rfl hP3 rfl rfl rfl (ihR (D' + 1) ph1 T a3 n c2 (2 + 1) y1 l2 (by omega) hP3 g93 hs3 (by omega) hT hn (by omega) (by omega) (by omega) (by omega)) rfl (fun vv ph102 hv => ?_)
      obtain ⟨z4, a4, n4, c4, l4, e9, hP4, g94, hs4, hr4⟩ := hv; subst e9
      change xGT kK (D' + 1) 214 Q (67, [some (.ref 170), some (.int y), some (.int (Int32.ofInt 1)), some (.int z3)], [.int z4], ph102, 0, 0)
      obtain ⟨b1, b2, b3, b4, b5, b6, b7⟩ := hr4
      by_cases hq4 : z4.toInt ≠ 0
      case neg =>
        refine gt_zne_f (ykc_214 (e := (4, .ifCond .ne 5, 72)) rfl) (by omega) rfl ?_
        refine gt_alu (st' := [.int (Int32.ofInt 0)]) (ykc_214 (e := (0, .iconst 0, 0)) rfl) rfl rfl ?_
        refine gt_ret (ykc_214 (e := (7, .ireturn, 0)) rfl) (xretz (by decide) (by decide)) ?_
        exact hQ _ a4 n4 c4 l4 _ hP4 g94 hs4 ⟨by omega, b2, by omega, by omega, b5, Or.inl rfl, fun q => absurd q (by decide)⟩
      case pos =>
        obtain ⟨b8, seg4, b9, b10⟩ := b7 (by omega)
        have b88 := b8.symm; subst b88
        have hl80 : l4.length = 80 := hs4.2.2.2.2.2
        refine gt_zne_t (ykc_214 (e := (4, .ifCond .ne 5, 72)) rfl) hq4 ?_
        refine gt_load (v := .ref 170) (n := 1) (ykc_214 (e := (2, .aload_n kF0, 0)) rfl) rfl rfl ?_
        refine gt_push (v := .int ((Int16.ofInt 2000).toInt32)) (n := 3) (ykc_214 (e := (1, .sipush 2000, 0)) rfl) rfl rfl ?_
        refine gt_load (v := .int z3) (n := 1) (ykc_214 (e := (2, .iload_n kF3, 0)) rfl) rfl rfl ?_
        obtain ⟨y5, e_y5, h_y5⟩ : ∃ zq : Int32, ((Int16.ofInt 2000).toInt32) + z3 = zq ∧ zq.toInt = 2000 + z3.toInt := ⟨_, rfl, by rw [ti_add (by rw [x2000]; omega) (by rw [x2000]; omega), x2000]⟩
        refine gt_alu (st' := [.int y5, .ref 170]) (ykc_214 (e := (0, .iadd, 0)) rfl) (by rw [← e_y5]; exact rfl) rfl ?_
        refine gt_load (v := .int y) (n := 1) (ykc_214 (e := (2, .iload_n kF1, 0)) rfl) rfl rfl ?_
        refine gt_zne_t (ykc_214 (e := (4, .ifCond .ne 7, 86)) rfl) (by omega) ?_
        refine gt_load (v := .int y) (n := 1) (ykc_214 (e := (2, .iload_n kF1, 0)) rfl) rfl rfl ?_
        refine gt_alu (st' := [.int (Int32.ofInt 1), .int y, .int y5, .ref 170]) (ykc_214 (e := (0, .iconst 1, 0)) rfl) rfl rfl ?_
        refine gt_ine_t (ykc_214 (e := (4, .if_icmp .ne 7, 95)) rfl) (by rw [xi1]; omega) ?_
        refine gt_alu (st' := [.int (Int32.ofInt 5), .int y5, .ref 170]) (ykc_214 (e := (0, .iconst 5, 0)) rfl) rfl rfl ?_
        obtain ⟨y6, e_y6, h_y6⟩ : ∃ zq : Int32, y5 + (Int32.ofInt 5) = zq ∧ zq.toInt = 2000 + z3.toInt + 5 := ⟨_, rfl, by rw [ti_add (by rw [h_y5, xo5]; omega) (by rw [h_y5, xo5]; omega), h_y5, xo5]⟩
        refine gt_alu (st' := [.int y6, .ref 170]) (ykc_214 (e := (0, .iadd, 0)) rfl) (by rw [← e_y6]; exact rfl) rfl ?_
        refine gt_cv (n := 1) (as := [.ref 170, .int y6]) (r := []) (ykc_214 (e := (6, .invokevirtual 233, 0)) rfl) rfl hP4 rfl rfl rfl (xcodes (D := D') hE hm h0m hP4 g94 hs4 (by omega)) rfl (fun vv ph203 hv => ?_)
        obtain ⟨e9, hP5, g95, hs5⟩ := hv; subst e9
        change xGT kK (D' + 1) 214 Q (100, [some (.ref 170), some (.int y), some (.int (Int32.ofInt 1)), some (.int z3)], [], ph203, 0, 0)
        refine gt_load (v := .int y) (n := 1) (ykc_214 (e := (2, .iload_n kF1, 0)) rfl) rfl rfl ?_
        refine gt_zle_f (ykc_214 (e := (4, .ifCond .le 7, 108)) rfl) (by omega) rfl ?_
        refine gt_alu (st' := [.int (Int32.ofInt 1)]) (ykc_214 (e := (0, .iconst 1, 0)) rfl) rfl rfl ?_
        refine gt_br (pc' := 109) (st' := [.int (Int32.ofInt 1)]) (ykc_214 (e := (4, .goto 4, 109)) rfl) rfl ?_
        refine gt_store (L' := [some (.ref 170), some (.int y), some (.int (Int32.ofInt 1)), some (.int z3)]) (st' := []) (n := 1) (ykc_214 (e := (3, .istore_n kF2, 0)) rfl) rfl rfl ?_
        refine gt_br (pc' := 24) (st' := []) (ykc_214 (e := (4, .goto (-86), 24)) rfl) rfl ?_
        exact ih2 a4 (c4 + 1) _ _ (seg2 ++ seg4 ++ [y6]) _ hP5 g95 hs5 b2 (by omega) (by omega) (by omega) (by omega) (by omega) (xvs_act hv2 b9 ⟨by omega, by omega⟩) (by rw [xtake_set (by omega), b10, ht2]; simp only [List.append_assoc])

set_option maxRecDepth 6000 in
theorem xrnk_step {E : pm_H → Prop} (hE : xHE xX xgA_RR xgF_RR E) {m : Int} (hm : m ≤ 2147483646) (h0m : (0 : Int) ≤ m) {F : Nat} (ih : ∀ F', F' < F → xAsk E m F' ∧ xRnk E m F') : xRnk E m F := by
  intro D ph T a n c r y l hD hP g9 hs ha hT hn hca hy hr hF
  have ihA : xAsk E m (F - 1) := (ih _ (by omega)).1
  have ihR : xRnk E m (F - 1) := (ih _ (by omega)).2
  obtain ⟨D', rfl⟩ : ∃ D', D = D' + 1 + 1 := ⟨D - 2, by omega⟩
  unfold xrdE
  refine xRd_mk (nl := 4) rfl rfl ?_
  show xGT kK (D' + 1) 214 _ (0, [some (.ref 170), some (.int y), none, none], [], ph, 0, 0)
  refine gt_load (v := .int y) (n := 1) (ykc_214 (e := (2, .iload_n kF1, 0)) rfl) rfl rfl ?_
  refine gt_alu (st' := [.int (Int32.ofInt 3), .int y]) (ykc_214 (e := (0, .iconst 3, 0)) rfl) rfl rfl ?_
  by_cases hr3 : r = 3
  · refine gt_ine_f (ykc_214 (e := (4, .if_icmp .ne 8, 10)) rfl) (by rw [x3i]; omega) rfl ?_
    refine gt_load (v := .ref 170) (n := 1) (ykc_214 (e := (2, .aload_n kF0, 0)) rfl) rfl rfl ?_
    refine gt_cv (n := 0) (as := [.ref 170]) (r := []) (ykc_214 (e := (6, .invokevirtual 230, 0)) rfl) rfl hP rfl rfl rfl (ihA (D' + 1) ph T a n c l (by omega) hP g9 hs ha hT hn hca (by omega)) rfl (fun vv ph101 hv => ?_)
    obtain ⟨z1, a1, n1, c1, l1, e9, hP1, g91, hs1, hr1⟩ := hv; subst e9
    change xGT kK (D' + 1) 214 _ (9, [some (.ref 170), some (.int y), none, none], [.int z1], ph101, 0, 0)
    obtain ⟨b1, b2, b3, b4, b5, b6, b7⟩ := id hr1
    refine gt_ret (ykc_214 (e := (7, .ireturn, 0)) rfl) (xretz (by omega) (by omega)) ?_
    exact ⟨z1, a1, n1, c1, l1, rfl, hP1, g91, hs1, hr1⟩
  · refine gt_ine_t (ykc_214 (e := (4, .if_icmp .ne 8, 10)) rfl) (by rw [x3i]; omega) ?_
    refine gt_load (v := .ref 170) (n := 1) (ykc_214 (e := (2, .aload_n kF0, 0)) rfl) rfl rfl ?_
    refine gt_load (v := .int y) (n := 1) (ykc_214 (e := (2, .iload_n kF1, 0)) rfl) rfl rfl ?_
    refine gt_alu (st' := [.int (Int32.ofInt 1), .int y, .ref 170]) (ykc_214 (e := (0, .iconst 1, 0)) rfl) rfl rfl ?_
    obtain ⟨y1, e_y1, h_y1⟩ : ∃ zq : Int32, y + (Int32.ofInt 1) = zq ∧ zq.toInt = y.toInt + 1 := ⟨_, rfl, by rw [ti_add (by rw [xi1]; omega) (by rw [xi1]; omega), xi1]⟩
    refine gt_alu (st' := [.int y1, .ref 170]) (ykc_214 (e := (0, .iadd, 0)) rfl) (by rw [← e_y1]; exact rfl) rfl ?_
    refine gt_cv (n := 1) (as := [.ref 170, .int y1]) (r := []) (ykc_214 (e := (6, .invokevirtual 239, 0)) rfl) rfl hP rfl rfl rfl (ihR (D' + 1) ph T a n c (r + 1) y1 l (by omega) hP g9 hs ha hT hn hca (by omega) (by omega) (by omega)) rfl (fun vv ph101 hv => ?_)
    obtain ⟨z2, a2, n2, c2, l2, e9, hP2, g92, hs2, hr2⟩ := hv; subst e9
    change xGT kK (D' + 1) 214 _ (17, [some (.ref 170), some (.int y), none, none], [.int z2], ph101, 0, 0)
    obtain ⟨b1, b2, b3, b4, b5, b6, b7⟩ := id hr2
    by_cases hq2 : z2.toInt ≠ 0
    case neg =>
      refine gt_zne_f (ykc_214 (e := (4, .ifCond .ne 5, 22)) rfl) (by omega) rfl ?_
      refine gt_alu (st' := [.int (Int32.ofInt 0)]) (ykc_214 (e := (0, .iconst 0, 0)) rfl) rfl rfl ?_
      refine gt_ret (ykc_214 (e := (7, .ireturn, 0)) rfl) (xretz (by decide) (by decide)) ?_
      exact ⟨_, a2, n2, c2, l2, rfl, hP2, g92, hs2, b1, b2, b3, b4, b5, Or.inl rfl, fun q => absurd q (by decide)⟩
    case pos =>
      obtain ⟨b8, seg, b9, b10⟩ := b7 (by omega)
      have b88 := b8.symm; subst b88
      refine gt_zne_t (ykc_214 (e := (4, .ifCond .ne 5, 22)) rfl) hq2 ?_
      refine gt_alu (st' := [.int (Int32.ofInt 1)]) (ykc_214 (e := (0, .iconst 1, 0)) rfl) rfl rfl ?_
      refine gt_store (L' := [some (.ref 170), some (.int y), some (.int (Int32.ofInt 1)), none]) (st' := []) (n := 1) (ykc_214 (e := (3, .istore_n kF2, 0)) rfl) rfl rfl ?_
      have hlt : a < a2 := by
        rcases Nat.lt_or_ge a a2 with q | q
        · exact q
        · exfalso
          have hc0 : c2 = c := by omega
          rw [hc0] at b10
          have hlen := congrArg List.length b10
          rw [List.length_append, List.length_take, List.length_take, hs2.2.2.2.2.2, hs.2.2.2.2.2] at hlen
          have he : seg = [] := List.eq_nil_of_length_eq_zero (by omega)
          subst he
          have h9 := b9 0 [(3000 : Int32)] (by simp) (by decide)
          exact absurd h9 (by decide)
      rcases (show r = 0 ∨ r = 1 ∨ r = 2 by omega) with q | q | q
      · subst q
        exact xrank_loop0 (F := F - 1) hE hm h0m ihR (by omega) hT hn hy (by omega) (fun z a' n' c' l' ph' h1 h2 h3 h4 => ⟨z, a', n', c', l', rfl, h1, h2, h3, h4⟩) (T - a2 + 1) a2 c2 l2 ph101 seg _ hP2 g92 hs2 b2 hlt (by omega) b3 (by omega) (by omega) b9 b10
      · subst q
        exact xrank_loop1 (F := F - 1) hE hm h0m ihR (by omega) hT hn hy (by omega) (fun z a' n' c' l' ph' h1 h2 h3 h4 => ⟨z, a', n', c', l', rfl, h1, h2, h3, h4⟩) (T - a2 + 1) a2 c2 l2 ph101 seg _ hP2 g92 hs2 b2 hlt (by omega) b3 (by omega) (by omega) b9 b10
      · subst q
        exact xrank_loop2 (F := F - 1) hE hm h0m ihR (by omega) hT hn hy (by omega) (fun z a' n' c' l' ph' h1 h2 h3 h4 => ⟨z, a', n', c', l', rfl, h1, h2, h3, h4⟩) (T - a2 + 1) a2 c2 l2 ph101 seg _ hP2 g92 hs2 b2 hlt (by omega) b3 (by omega) (by omega) b9 b10
set_option maxRecDepth 6000 in
theorem xread_all {E : pm_H → Prop} (hE : xHE xX xgA_RR xgF_RR E) {m : Int} (hm : m ≤ 2147483646) (h0m : (0 : Int) ≤ m) : ∀ F, xAsk E m F ∧ xRnk E m F := by
  intro F
  induction F using Nat.strongRecOn with
  | ind F ih => exact ⟨xask_step hE hm h0m ih, xrnk_step hE hm h0m ih⟩

/-! What holds of the reference between calls: positions, what is undone, what is kept -/
theorem xHEV : xHE xX [9] [(0, 23)] xV := by
  intro ph ph' hs ⟨l, n, h1, h2, h3, h4⟩
  refine ⟨l, n, ?_, ?_, h3, h4⟩
  · rw [← hs.1 179 9 rfl (by decide)]
    exact h1
  · rw [← hs.2 170 0 23 rfl (by decide)]
    exact h2
/-- a row is good -/
def xgr (ph : pm_H) (W P T : Int32) (a off : Nat) : Prop := W.toInt = 7 ∨ xgd ph a off P.toInt.toNat T.toInt.toNat
def xINV (n : Nat) (ph : pm_H) : Prop := ∃ W P T U C : Int32, (xget ph 170 4 = some (.int W) ∧ xget ph 170 5 = some (.int P) ∧ xget ph 170 6 = some (.int T) ∧ xget ph 170 27 = some (.int U) ∧ xget ph 170 7 = some (.int C)) ∧ (P.toInt ≤ 8 ∧ T.toInt ≤ 8 ∧ 0 ≤ C.toInt ∧ C.toInt ≤ n) ∧ xgr ph W P T 174 0 ∧ (∀ u : Nat, (u : Int) < U.toInt → xgr ph W P T 183 (41 * u)) ∧ ∀ i, i < 3 → ∀ y : Int32, xgb ph 198 i y → y.toInt ≠ 0 → ∃ K : Int32, xget ph 199 i = some (.int K) ∧ K.toInt ≤ C.toInt ∧ (K.toInt = C.toInt → xgr ph W P T 200 (41 * i))
theorem xgr_eq {ph ph' : pm_H} {W P T : Int32} {a off : Nat} (hP : P.toInt ≤ 8) (hT : T.toInt ≤ 8) (h : ∀ k, (k < 8 ∨ 32 ≤ k ∧ k < 40) → xget ph' a (off + k) = xget ph a (off + k)) (g : xgr ph W P T a off) : xgr ph' W P T a off := by
  rcases g with g | g
  · exact Or.inl g
  · refine Or.inr fun k x hk hx => g k x hk ?_
    rw [← h k (by omega)]
    exact hx
theorem xgr_cp {ph ph' : pm_H} {W P T : Int32} {a off b off2 : Nat} (hP : P.toInt ≤ 8) (hT : T.toInt ≤ 8) (h : ∀ k, k < 41 → xget ph' b (off2 + k) = xget ph a (off + k)) (g : xgr ph W P T a off) : xgr ph' W P T b off2 := by
  rcases g with g | g
  · exact Or.inl g
  · refine Or.inr fun k x hk hx => g k x hk ?_
    rw [← h k (by omega)]
    exact hx
theorem xgb_eq {ph ph' : pm_H} {a : Nat} (h : pm_at ph' a = pm_at ph a) {i : Nat} {y : Int32} (g : xgb ph' a i y) : xgb ph a i y := by
  obtain ⟨l, h1, h2⟩ := g
  exact ⟨l, by rw [← h]; exact h1, h2⟩
theorem xget_at {ph p : pm_H} {a : Nat} (h : pm_at p a = pm_at ph a) (i : Nat) : xget p a i = xget ph a i := by unfold xget; rw [h]
def xgAI : List Nat := [13, 28, 29, 30]
def xgFI : List (Nat × Nat) := [(0, 4), (0, 5), (0, 6), (0, 7), (0, 27), (4, 0), (4, 1), (4, 2), (4, 3), (4, 4), (4, 5), (4, 6), (4, 7), (4, 32), (4, 33), (4, 34), (4, 35), (4, 36), (4, 37), (4, 38), (4, 39)]
theorem xgFI_now : ∀ k, (k < 8 ∨ 32 ≤ k ∧ k < 40) → (4, k) ∈ xgFI := by
  intro k hk
  have h : (List.range 40).all (fun k => bif (bif Nat.blt k 8 then true else Nat.ble 32 k) then xmemP xgFI 4 k else true) = true := by decide +kernel
  have h2 := List.all_eq_true.mp h k (List.mem_range.mpr (by omega))
  apply xmemP_in
  rcases hk with q | q
  · have e : Nat.blt k 8 = true := Nat.ble_eq_true_of_le q
    rw [e] at h2
    exact h2
  · have e : Nat.ble 32 k = true := Nat.ble_eq_true_of_le q.1
    rw [e] at h2
    cases hb : Nat.blt k 8 with
    | true => rw [hb] at h2; exact h2
    | false => rw [hb] at h2; exact h2
theorem xHEI (n : Nat) : xHE xX xgAI xgFI (xINV n) := by
  intro ph ph' hs ⟨W, P, T, U, C, ⟨f1, f2, f3, f4, f5⟩, ⟨b1, b2, b3, b4⟩, g1, g2, g3⟩
  have hf : ∀ k, (0, k) ∈ xgFI → xget ph' 170 k = xget ph 170 k := fun k hk => (hs.2 170 0 k rfl hk).symm
  have ha : ∀ a i, xown a = some i → i ∈ xgAI → pm_at ph' a = pm_at ph a := fun a i h1 h2 => (hs.1 a i h1 h2).symm
  have a1 := ha 183 13 rfl (by decide)
  have a2 := ha 198 28 rfl (by decide)
  have a3 := ha 199 29 rfl (by decide)
  have a4 := ha 200 30 rfl (by decide)
  refine ⟨W, P, T, U, C, ⟨(hf 4 (by decide)).trans f1, (hf 5 (by decide)).trans f2, (hf 6 (by decide)).trans f3, (hf 27 (by decide)).trans f4, (hf 7 (by decide)).trans f5⟩, ⟨b1, b2, b3, b4⟩, ?_, fun u hu => ?_, fun i hi y hy hy0 => ?_⟩
  · exact xgr_eq b1 b2 (fun k hk => by rw [Nat.zero_add]; exact (hs.2 174 4 k rfl (xgFI_now k hk)).symm) g1
  · exact xgr_eq b1 b2 (fun k _ => xget_at a1 _) (g2 u hu)
  · obtain ⟨K, k1, k2, k3⟩ := g3 i hi y (xgb_eq a2 hy) hy0
    exact ⟨K, (xget_at a3 i).trans k1, k2, fun e => xgr_eq b1 b2 (fun k _ => xget_at a4 _) (k3 e)⟩
theorem xINV_PG {n : Nat} {ph : pm_H} (h : xINV n ph) : xPG ph := by
  obtain ⟨W, P, T, U, C, ⟨f1, f2, f3, f4, f5⟩, -, g1, -, -⟩ := h
  intro W2 P2 T2 h1 h2 h3 h7
  have e1 := xget_int f1 h1
  have e2 := xget_int f2 h2
  have e3 := xget_int f3 h3
  subst e1 e2 e3
  rcases g1 with g | g
  · exact absurd g h7
  · exact g
theorem xINV_le {n n' : Nat} {ph : pm_H} (hn : n ≤ n') (h : xINV n ph) : xINV n' ph := by
  obtain ⟨W, P, T, U, C, f, ⟨b1, b2, b3, b4⟩, g⟩ := h
  exact ⟨W, P, T, U, C, f, ⟨b1, b2, b3, by omega⟩, g⟩
theorem xset_ne {ph : pm_H} {a b : Nat} {c : pm_C} (h : b ≠ a) : pm_at (ph.set a c) b = pm_at ph b := xat_ne h
theorem xINV_St (n : Nat) : xSt (xINV n) := by
  intro ph l k y hat hy ⟨W, P, T, U, C, ⟨f1, f2, f3, f4, f5⟩, b, g1, g2, g3⟩
  have hf : ∀ c, xget (ph.set 174 (.inl (0, .inl (l.set k y)))) 170 c = xget ph 170 c := fun c => xget_ne (by decide)
  have hg : ∀ a, a ≠ 174 → pm_at (ph.set 174 (.inl (0, .inl (l.set k y)))) a = pm_at ph a := fun a h => xat_ne h
  refine ⟨W, P, T, U, C, ⟨(hf 4).trans f1, (hf 5).trans f2, (hf 6).trans f3, (hf 27).trans f4, (hf 7).trans f5⟩, b, ?_, fun u hu => ?_, fun i hi z hz hz0 => ?_⟩
  · rcases hy with hy | ⟨C2, c1, c2⟩
    · rcases g1 with g | g
      · exact Or.inl g
      · refine Or.inr fun c x hc hx => ?_
        rw [Nat.zero_add] at hx
        unfold xget at hx
        rw [xat_self hat] at hx
        have hx : ((l.set k y)[c]?).map Value.int = some (.int x) := hx
        by_cases e : c = k
        · subst e
          by_cases hl : c < l.length
          · rw [List.getElem?_set_self hl] at hx
            cases hx
            exact hy
          · rw [List.getElem?_eq_none (by rw [List.length_set]; omega)] at hx
            cases hx
        · rw [List.getElem?_set_ne (Ne.symm e)] at hx
          refine g c x hc ?_
          rw [Nat.zero_add]
          unfold xget
          rw [hat]
          exact hx
    · have e := xget_int f1 c1
      subst e
      exact Or.inl c2
  · exact xgr_eq b.1 b.2.1 (fun c _ => xget_at (hg 183 (by decide)) _) (g2 u hu)
  · obtain ⟨K, k1, k2, k3⟩ := g3 i hi z (xgb_eq (hg 198 (by decide)) hz) hz0
    exact ⟨K, (xget_at (hg 199 (by decide)) i).trans k1, k2, fun e => xgr_eq b.1 b.2.1 (fun c _ => xget_at (hg 200 (by decide)) _) (k3 e)⟩
/-! copies -/
def xcp (ph0 ph : pm_H) (dA dO sA sO n : Nat) : Prop := (∀ i, i < n → xget ph dA (dO + i) = xget ph0 sA (sO + i)) ∧ (∀ b c, ¬ (b = dA ∧ dO ≤ c ∧ c < dO + n) → xget ph b c = xget ph0 b c) ∧ ∀ b, b ≠ dA → pm_at ph b = pm_at ph0 b
theorem xcp_0 {ph : pm_H} {dA dO sA sO : Nat} : xcp ph ph dA dO sA sO 0 := ⟨fun i h => absurd h (Nat.not_lt_zero _), fun _ _ _ => rfl, fun _ _ => rfl⟩
theorem xcp_s {ph0 ph ph' : pm_H} {dA dO sA sO n : Nat} {y : Int32} (h : xcp ph0 ph dA dO sA sO n) (hne : sA ≠ dA) (hy : xget ph sA (sO + n) = some (.int y)) (u : xu1 ph ph' dA (dO + n) (.int y)) : xcp ph0 ph' dA dO sA sO (n + 1) := by
  obtain ⟨h1, h2, h3⟩ := h
  obtain ⟨u1, u2, u3⟩ := u
  refine ⟨fun i hi => ?_, fun b c hbc => ?_, fun b hb => (u3 b hb).trans (h3 b hb)⟩
  · by_cases e : i = n
    · subst e
      rw [u1, ← hy]
      exact h2 sA _ (fun q => hne q.1)
    · rw [u2 dA (dO + i) (fun q => e (by omega))]
      exact h1 i (by omega)
  · rw [u2 b c (fun q => hbc ⟨q.1, by omega, by omega⟩)]
    exact h2 b c (fun q => hbc ⟨q.1, q.2.1, by omega⟩)

/-! readsRule, laysCode, rule, by hand, printed by wip/x/h_rr.py -/
set_option maxRecDepth 6000 in
theorem xm1 : (Int32.ofInt (-1)).toInt = -1 := by decide
set_option maxRecDepth 6000 in
theorem x40 : ((Int8.ofInt 40).toInt32).toInt = 40 := by decide
def xiN (ph : pm_H) (k : Nat) (n : Nat) : Prop := ∃ x : Int32, xget ph 170 k = some (.int x) ∧ x.toInt = (n : Int)
def xbgQ : List (Option xh × List (Nat × xh)) := [(some (.inl (0, 80)), [(696334, .inl (0, 0)), (696335, .inl (0, 0)), (696336, .inl (0, 40)), (696337, .inl (0, 0))])]
set_option maxRecDepth 6000 in
theorem xbg_all : xs_195 (xhmV 1 [.inr (.inr (.inl 0)), .inl (40, 40)]) (xrsA xX xbgQ) (3, [], [], xhmF 3 [], 0, []) = true := by decide +kernel
set_option maxRecDepth 6000 in
theorem xbegin {E : pm_H → Prop} (hE : xHE xX xgA_G73 xgF_G73 E) {m : Int} (hm : m ≤ 2147483646) (h0m : (0 : Int) ≤ m) {D : Nat} (hD : 1 ≤ D) {ph : pm_H} {y : Int32} (hy : y.toInt = 40) (hP : xH xX kK m 0 ph) (g9 : E ph) : ∃ v ph', pm_Rd kK false D 195 [.ref 170, .int y] ph (v, ph', 0, 0) ∧ (∃ (z : Int32) (T : Nat), v = some (.int z) ∧ xH xX kK m 0 ph' ∧ E ph' ∧ 0 ≤ z.toInt ∧ xiN ph' 14 0 ∧ xiN ph' 15 0 ∧ xiN ph' 16 T ∧ xiN ph' 17 0 ∧ T ≤ 40) := by
  have hE2 : xHE xX xgA_G61 xgF_G61 E := xHE_sub (by decide +kernel) (by decide +kernel) hE
  obtain ⟨v, ph', k1, k2, k3, q, hq, k4, k5⟩ := xcok_alt (fp := []) (xso_195 hE2) xbg_all D hD m hm h0m [.ref 170, .int y] ph ⟨xaRi rfl (by decide), xaI (by omega) (by omega), trivial⟩ xF0 hP g9
  have e := List.mem_singleton.mp hq
  subst e
  obtain ⟨u, e, z, e2, z0, z1⟩ := k4
  obtain ⟨x1, a1, b1, c1⟩ := xF_in (a := 170) (c := 14) k5 List.mem_cons_self (by decide) (by decide)
  obtain ⟨x2, a2, b2, c2⟩ := xF_in (a := 170) (c := 15) k5 (List.mem_cons_of_mem _ List.mem_cons_self) (by decide) (by decide)
  obtain ⟨x3, a3, b3, c3⟩ := xF_in (a := 170) (c := 16) k5 (List.mem_cons_of_mem _ (List.mem_cons_of_mem _ List.mem_cons_self)) (by decide) (by decide)
  obtain ⟨x4, a4, b4, c4⟩ := xF_in (a := 170) (c := 17) k5 (List.mem_cons_of_mem _ (List.mem_cons_of_mem _ (List.mem_cons_of_mem _ List.mem_cons_self))) (by decide) (by decide)
  exact ⟨v, ph', k1, z, x3.toInt.toNat, by rw [e, e2], k2, k3, z0, ⟨x1, a1, by omega⟩, ⟨x2, a2, by omega⟩, ⟨x3, a3, by omega⟩, ⟨x4, a4, by omega⟩, by omega⟩

set_option maxRecDepth 6000 in
theorem xft_44 {m : Int} {D : Nat} {ph : pm_H} {Q : Option Value → pm_H → Prop} {z y b w xa : Int32} (hP : xH xX kK m 0 ph) (q15 : xget ph 170 15 = some (.int xa)) (hxa : 0 ≤ xa.toInt ∧ xa.toInt ≤ 80) (hy : y.toInt = 40) (hw0 : w.toInt ≠ 0 → b.toInt ≠ 0) (hQ : ∀ r : Int32, r.toInt ≤ 0 → (r.toInt = 0 → b.toInt ≠ 0) → Q (some (.int r)) ph) : xGT kK D 201 Q (44, [some (.ref 170), some (.int z), some (.int y), some (.int b), some (.int w)], [], ph, 0, 0) := by
  by_cases hw : w.toInt = 0
  · refine gt_load (v := .int w) (n := 2) (ykc_201 (e := (2, .iload 4, 0)) rfl) rfl rfl ?_
    refine gt_zeq_t (ykc_201 (e := (4, .ifCond .eq 7, 53)) rfl) hw ?_
    refine gt_alu (st' := [.int (Int32.ofInt (-1))]) (ykc_201 (e := (0, .iconst (-1), 0)) rfl) rfl rfl ?_
    refine gt_load (v := .ref 170) (n := 1) (ykc_201 (e := (2, .aload_n kF0, 0)) rfl) rfl rfl ?_
    refine gt_gfk (v := .int xa) (ykc_201 (e := (5, .getfield 139, 0)) rfl) rfl hP q15 rfl ?_
    obtain ⟨r1, e_r1, h_r1⟩ : ∃ zq : Int32, (Int32.ofInt (-1)) - xa = zq ∧ zq.toInt = -1 - xa.toInt := ⟨_, rfl, by rw [ti_sub (by rw [xm1]; omega) (by rw [xm1]; omega), xm1]⟩
    refine gt_alu (st' := [.int r1]) (ykc_201 (e := (0, .isub, 0)) rfl) (by rw [← e_r1]; exact rfl) rfl ?_
    refine gt_ret (ykc_201 (e := (7, .ireturn, 0)) rfl) rfl ?_
    exact hQ _ (by omega) (fun q => by omega)
  · refine gt_load (v := .int w) (n := 2) (ykc_201 (e := (2, .iload 4, 0)) rfl) rfl rfl ?_
    refine gt_zeq_f (ykc_201 (e := (4, .ifCond .eq 7, 53)) rfl) hw rfl ?_
    refine gt_alu (st' := [.int (Int32.ofInt 0)]) (ykc_201 (e := (0, .iconst 0, 0)) rfl) rfl rfl ?_
    refine gt_br (pc' := 59) (st' := [.int (Int32.ofInt 0)]) (ykc_201 (e := (4, .goto 9, 59)) rfl) rfl ?_
    refine gt_ret (ykc_201 (e := (7, .ireturn, 0)) rfl) rfl ?_
    exact hQ _ (by decide) (fun _ => hw0 hw)

set_option maxRecDepth 6000 in
theorem xft_40 {m : Int} {D : Nat} {ph : pm_H} {Q : Option Value → pm_H → Prop} {z y b w xa : Int32} (hP : xH xX kK m 0 ph) (q15 : xget ph 170 15 = some (.int xa)) (hxa : 0 ≤ xa.toInt ∧ xa.toInt ≤ 80) (hy : y.toInt = 40) (hw : w.toInt ≠ 0 → b.toInt ≠ 0) (hQ : ∀ r : Int32, r.toInt ≤ 0 → (r.toInt = 0 → b.toInt ≠ 0) → Q (some (.int r)) ph) : xGT kK D 201 Q (40, [some (.ref 170), some (.int z), some (.int y), some (.int b), some (.int w)], [], ph, 0, 0) := by
  refine gt_alu (st' := [.int (Int32.ofInt (-1))]) (ykc_201 (e := (0, .iconst (-1), 0)) rfl) rfl rfl ?_
  refine gt_load (v := .int y) (n := 1) (ykc_201 (e := (2, .iload_n kF2, 0)) rfl) rfl rfl ?_
  obtain ⟨r1, e_r1, h_r1⟩ : ∃ zq : Int32, (Int32.ofInt (-1)) - y = zq ∧ zq.toInt = -1 - y.toInt := ⟨_, rfl, by rw [ti_sub (by rw [xm1]; omega) (by rw [xm1]; omega), xm1]⟩
  refine gt_alu (st' := [.int r1]) (ykc_201 (e := (0, .isub, 0)) rfl) (by rw [← e_r1]; exact rfl) rfl ?_
  refine gt_ret (ykc_201 (e := (7, .ireturn, 0)) rfl) rfl ?_
  exact hQ _ (by omega) (fun q => by omega)
set_option maxRecDepth 6000 in
theorem xft_22 {m : Int} {D : Nat} {ph : pm_H} {Q : Option Value → pm_H → Prop} {z y b w xa : Int32} (hP : xH xX kK m 0 ph) (q15 : xget ph 170 15 = some (.int xa)) (hxa : 0 ≤ xa.toInt ∧ xa.toInt ≤ 80) (hy : y.toInt = 40) (hw : w.toInt ≠ 0 → b.toInt ≠ 0) (hQ : ∀ r : Int32, r.toInt ≤ 0 → (r.toInt = 0 → b.toInt ≠ 0) → Q (some (.int r)) ph) : xGT kK D 201 Q (22, [some (.ref 170), some (.int z), some (.int y), some (.int b), some (.int w)], [], ph, 0, 0) := by
  by_cases hz : z.toInt ≤ y.toInt
  · refine gt_load (v := .int z) (n := 1) (ykc_201 (e := (2, .iload_n kF1, 0)) rfl) rfl rfl ?_
    refine gt_load (v := .int y) (n := 1) (ykc_201 (e := (2, .iload_n kF2, 0)) rfl) rfl rfl ?_
    refine gt_ile_t (ykc_201 (e := (4, .if_icmp .le 20, 44)) rfl) hz ?_
    exact xft_44 hP q15 hxa hy hw hQ
  · refine gt_load (v := .int z) (n := 1) (ykc_201 (e := (2, .iload_n kF1, 0)) rfl) rfl rfl ?_
    refine gt_load (v := .int y) (n := 1) (ykc_201 (e := (2, .iload_n kF2, 0)) rfl) rfl rfl ?_
    refine gt_ile_f (ykc_201 (e := (4, .if_icmp .le 20, 44)) rfl) (by omega) rfl ?_
    refine gt_load (v := .int w) (n := 2) (ykc_201 (e := (2, .iload 4, 0)) rfl) rfl rfl ?_
    by_cases hw1 : w.toInt = 0
    · by_cases hlt : xa.toInt < y.toInt
      · refine gt_zne_f (ykc_201 (e := (4, .ifCond .ne 11, 40)) rfl) hw1 rfl ?_
        refine gt_load (v := .ref 170) (n := 1) (ykc_201 (e := (2, .aload_n kF0, 0)) rfl) rfl rfl ?_
        refine gt_gfk (v := .int xa) (ykc_201 (e := (5, .getfield 139, 0)) rfl) rfl hP q15 rfl ?_
        refine gt_load (v := .int y) (n := 1) (ykc_201 (e := (2, .iload_n kF2, 0)) rfl) rfl rfl ?_
        refine gt_ilt_t (ykc_201 (e := (4, .if_icmp .lt 7, 44)) rfl) hlt ?_
        exact xft_44 hP q15 hxa hy hw hQ
      · refine gt_zne_f (ykc_201 (e := (4, .ifCond .ne 11, 40)) rfl) hw1 rfl ?_
        refine gt_load (v := .ref 170) (n := 1) (ykc_201 (e := (2, .aload_n kF0, 0)) rfl) rfl rfl ?_
        refine gt_gfk (v := .int xa) (ykc_201 (e := (5, .getfield 139, 0)) rfl) rfl hP q15 rfl ?_
        refine gt_load (v := .int y) (n := 1) (ykc_201 (e := (2, .iload_n kF2, 0)) rfl) rfl rfl ?_
        refine gt_ilt_f (ykc_201 (e := (4, .if_icmp .lt 7, 44)) rfl) (by omega) rfl ?_
        exact xft_40 hP q15 hxa hy hw hQ
    · refine gt_zne_t (ykc_201 (e := (4, .ifCond .ne 11, 40)) rfl) hw1 ?_
      exact xft_40 hP q15 hxa hy hw hQ

set_option maxRecDepth 6000 in
theorem xfault {m : Int} {D : Nat} {ph : pm_H} {z y b xa xt : Int32} (hP : xH xX kK m 0 ph) (q15 : xget ph 170 15 = some (.int xa)) (q16 : xget ph 170 16 = some (.int xt)) (hxa : 0 ≤ xa.toInt ∧ xa.toInt ≤ 80) (hy : y.toInt = 40) : ∃ v ph', pm_Rd kK false (D + 1) 201 [.ref 170, .int z, .int y, .int b] ph (v, ph', 0, 0) ∧ (ph = ph' ∧ ∃ r : Int32, v = some (.int r) ∧ r.toInt ≤ 0 ∧ (r.toInt = 0 → b.toInt ≠ 0)) := by
  refine xRd_mk (nl := 5) rfl rfl ?_
  show xGT kK D 201 _ (0, [some (.ref 170), some (.int z), some (.int y), some (.int b), none], [], ph, 0, 0)
  have hQ : ∀ r : Int32, r.toInt ≤ 0 → (r.toInt = 0 → b.toInt ≠ 0) → (fun (v : Option Value) (ph' : pm_H) => ph = ph' ∧ ∃ r : Int32, v = some (.int r) ∧ r.toInt ≤ 0 ∧ (r.toInt = 0 → b.toInt ≠ 0)) (some (.int r)) ph := fun r h1 h2 => ⟨rfl, r, rfl, h1, h2⟩
  by_cases hb : b.toInt = 0
  · refine gt_load (v := .int b) (n := 1) (ykc_201 (e := (2, .iload_n kF3, 0)) rfl) rfl rfl ?_
    refine gt_zeq_t (ykc_201 (e := (4, .ifCond .eq 18, 19)) rfl) hb ?_
    refine gt_alu (st' := [.int (Int32.ofInt 0)]) (ykc_201 (e := (0, .iconst 0, 0)) rfl) rfl rfl ?_
    refine gt_store (L' := [some (.ref 170), some (.int z), some (.int y), some (.int b), some (.int (Int32.ofInt 0))]) (st' := []) (n := 2) (ykc_201 (e := (3, .istore 4, 0)) rfl) rfl rfl ?_
    exact xft_22 hP q15 hxa hy (fun q => absurd (by decide) q) hQ
  · by_cases he : xa.toInt = xt.toInt
    · refine gt_load (v := .int b) (n := 1) (ykc_201 (e := (2, .iload_n kF3, 0)) rfl) rfl rfl ?_
      refine gt_zeq_f (ykc_201 (e := (4, .ifCond .eq 18, 19)) rfl) hb rfl ?_
      refine gt_load (v := .ref 170) (n := 1) (ykc_201 (e := (2, .aload_n kF0, 0)) rfl) rfl rfl ?_
      refine gt_gfk (v := .int xa) (ykc_201 (e := (5, .getfield 139, 0)) rfl) rfl hP q15 rfl ?_
      refine gt_load (v := .ref 170) (n := 1) (ykc_201 (e := (2, .aload_n kF0, 0)) rfl) rfl rfl ?_
      refine gt_gfk (v := .int xt) (ykc_201 (e := (5, .getfield 151, 0)) rfl) rfl hP q16 rfl ?_
      refine gt_ine_f (ykc_201 (e := (4, .if_icmp .ne 7, 19)) rfl) (by omega) rfl ?_
      refine gt_alu (st' := [.int (Int32.ofInt 1)]) (ykc_201 (e := (0, .iconst 1, 0)) rfl) rfl rfl ?_
      refine gt_br (pc' := 20) (st' := [.int (Int32.ofInt 1)]) (ykc_201 (e := (4, .goto 4, 20)) rfl) rfl ?_
      refine gt_store (L' := [some (.ref 170), some (.int z), some (.int y), some (.int b), some (.int (Int32.ofInt 1))]) (st' := []) (n := 2) (ykc_201 (e := (3, .istore 4, 0)) rfl) rfl rfl ?_
      exact xft_22 hP q15 hxa hy (fun _ => hb) hQ
    · refine gt_load (v := .int b) (n := 1) (ykc_201 (e := (2, .iload_n kF3, 0)) rfl) rfl rfl ?_
      refine gt_zeq_f (ykc_201 (e := (4, .ifCond .eq 18, 19)) rfl) hb rfl ?_
      refine gt_load (v := .ref 170) (n := 1) (ykc_201 (e := (2, .aload_n kF0, 0)) rfl) rfl rfl ?_
      refine gt_gfk (v := .int xa) (ykc_201 (e := (5, .getfield 139, 0)) rfl) rfl hP q15 rfl ?_
      refine gt_load (v := .ref 170) (n := 1) (ykc_201 (e := (2, .aload_n kF0, 0)) rfl) rfl rfl ?_
      refine gt_gfk (v := .int xt) (ykc_201 (e := (5, .getfield 151, 0)) rfl) rfl hP q16 rfl ?_
      refine gt_ine_t (ykc_201 (e := (4, .if_icmp .ne 7, 19)) rfl) he ?_
      refine gt_alu (st' := [.int (Int32.ofInt 0)]) (ykc_201 (e := (0, .iconst 0, 0)) rfl) rfl rfl ?_
      refine gt_store (L' := [some (.ref 170), some (.int z), some (.int y), some (.int b), some (.int (Int32.ofInt 0))]) (st' := []) (n := 2) (ykc_201 (e := (3, .istore 4, 0)) rfl) rfl rfl ?_
      exact xft_22 hP q15 hxa hy (fun _ => hb) hQ

set_option maxRecDepth 6000 in
theorem xrrule {E : pm_H → Prop} (hE : xHE xX xgA_G73 xgF_G73 E) {m : Int} (hm : m ≤ 2147483646) (h0m : (0 : Int) ≤ m) {D : Nat} (hD : 100 ≤ D) {ph : pm_H} (hP : xH xX kK m 0 ph) (g9 : E ph) : ∃ v ph', pm_Rd kK false D 215 [.ref 170] ph (v, ph', 0, 0) ∧ (∃ (z : Int32) (c : Nat) (l : List Int32), v = some (.int z) ∧ xH xX kK m 0 ph' ∧ E ph' ∧ z.toInt ≤ 0 ∧ c ≤ 40 ∧ xiN ph' 24 c ∧ xiN ph' 14 0 ∧ pm_at ph' 180 = some (.inl (0, .inl l)) ∧ l.length = 80 ∧ (z.toInt = 0 → xvc (l.take c) 0 = true)) := by
  obtain ⟨D', rfl⟩ : ∃ D', D = D' + 1 + 1 := ⟨D - 2, by omega⟩
  have hE1 := hE
  have g9x := g9
  have hE2 : xHE xX xgA_RR xgF_RR (fun p => E p ∧ xiN p 14 0) := fun p p' hs hp => ⟨(xHE_sub (gA' := xgA_RR) (gF' := xgF_RR) (by decide +kernel) (by decide +kernel) hE) p p' hs hp.1, by
    obtain ⟨x, h1, h2⟩ := hp.2
    exact ⟨x, (hs.2 170 0 14 rfl List.mem_cons_self).symm.trans h1, h2⟩⟩
  refine xRd_mk (nl := 3) rfl rfl ?_
  show xGT kK (D' + 1) 215 _ (0, [some (.ref 170), none, none], [], ph, 0, 0)
  refine gt_load (v := .ref 170) (n := 1) (ykc_215 (e := (2, .aload_n kF0, 0)) rfl) rfl rfl ?_
  refine gt_push (v := .int ((Int8.ofInt 40).toInt32)) (n := 2) (ykc_215 (e := (1, .bipush 40, 0)) rfl) rfl rfl ?_
  refine gt_cv (n := 1) (as := [.ref 170, .int ((Int8.ofInt 40).toInt32)]) (r := []) (ykc_215 (e := (6, .invokevirtual 175, 0)) rfl) rfl hP rfl rfl rfl (xbegin hE1 hm h0m (by omega) x40 hP g9x) rfl (fun vv ph1 hv => ?_)
  obtain ⟨z1, T, e9, hP1, g91, hz1, qt, qa, qT, qn, hT⟩ := hv; subst e9
  change xGT kK (D' + 1) 215 _ (6, [some (.ref 170), none, none], [.int z1], ph1, 0, 0)
  refine gt_store (L' := [some (.ref 170), some (.int z1), none]) (st' := []) (n := 1) (ykc_215 (e := (3, .istore_n kF1, 0)) rfl) rfl rfl ?_
  refine gt_load (v := .ref 170) (n := 1) (ykc_215 (e := (2, .aload_n kF0, 0)) rfl) rfl rfl ?_
  refine gt_alu (st' := [.int (Int32.ofInt 0), .ref 170]) (ykc_215 (e := (0, .iconst 0, 0)) rfl) rfl rfl ?_
  refine gt_pf (y := Int32.ofInt 0) (ykc_215 (e := (5, .putfield 227, 0)) rfl) rfl hP1 rfl rfl (by decide) (by decide) rfl (fun ph2 hP2 u2 => ?_)
  obtain ⟨l, hat, hlen, -⟩ := xA_at (A := 180) hP2 rfl rfl
  obtain ⟨xt0, qt1, et1⟩ := qt
  obtain ⟨xa, qa1, ea1⟩ := qa
  obtain ⟨xT, qT1, eT1⟩ := qT
  obtain ⟨xn, qn1, en1⟩ := qn
  have qt2 : xget ph2 170 14 = some (.int xt0) := (u2.2.1 170 14 (by decide)).trans qt1
  have qa2 : xget ph2 170 15 = some (.int xa) := (u2.2.1 170 15 (by decide)).trans qa1
  have qT2 : xget ph2 170 16 = some (.int xT) := (u2.2.1 170 16 (by decide)).trans qT1
  have qn2 : xget ph2 170 17 = some (.int xn) := (u2.2.1 170 17 (by decide)).trans qn1
  have g2 : E ph2 ∧ xiN ph2 14 0 := ⟨xu1_E hE1 u2 rfl rfl rfl g91, xt0, qt2, et1⟩
  have hs2 : xps ph2 T 0 0 0 l := ⟨⟨xa, qa2, ea1⟩, ⟨xT, qT2, eT1⟩, ⟨xn, qn2, en1⟩, ⟨_, u2.1, by decide⟩, hat, hlen⟩
  by_cases hq1 : z1.toInt = 0
  · refine gt_load (v := .int z1) (n := 1) (ykc_215 (e := (2, .iload_n kF1, 0)) rfl) rfl rfl ?_
    refine gt_zeq_t (ykc_215 (e := (4, .ifCond .eq 11, 24)) rfl) hq1 ?_
    refine gt_alu (st' := [.int (Int32.ofInt 1)]) (ykc_215 (e := (0, .iconst 1, 0)) rfl) rfl rfl ?_
    refine gt_br (pc' := 29) (st' := [.int (Int32.ofInt 1)]) (ykc_215 (e := (4, .goto 4, 29)) rfl) rfl ?_
    refine gt_store (L' := [some (.ref 170), some (.int z1), some (.int (Int32.ofInt 1))]) (st' := []) (n := 1) (ykc_215 (e := (3, .istore_n kF2, 0)) rfl) rfl rfl ?_
    refine gt_load (v := .ref 170) (n := 1) (ykc_215 (e := (2, .aload_n kF0, 0)) rfl) rfl rfl ?_
    refine gt_load (v := .int z1) (n := 1) (ykc_215 (e := (2, .iload_n kF1, 0)) rfl) rfl rfl ?_
    refine gt_push (v := .int ((Int8.ofInt 40).toInt32)) (n := 2) (ykc_215 (e := (1, .bipush 40, 0)) rfl) rfl rfl ?_
    refine gt_load (v := .int (Int32.ofInt 1)) (n := 1) (ykc_215 (e := (2, .iload_n kF2, 0)) rfl) rfl rfl ?_
    refine gt_cv (n := 3) (as := [.ref 170, .int z1, .int ((Int8.ofInt 40).toInt32), .int (Int32.ofInt 1)]) (r := []) (ykc_215 (e := (6, .invokevirtual 213, 0)) rfl) rfl hP2 rfl rfl rfl (xfault (D := D') hP2 qa2 qT2 (by omega) x40) rfl (fun vv ph103 hv => ?_)
    obtain ⟨e8, r, e9, hr1, hr2⟩ := hv; subst e8; subst e9
    change xGT kK (D' + 1) 215 _ (38, [some (.ref 170), some (.int z1), some (.int (Int32.ofInt 1))], [.int r], ph2, 0, 0)
    refine gt_ret (ykc_215 (e := (7, .ireturn, 0)) rfl) rfl ?_
    exact ⟨r, 0, l, rfl, hP2, g2.1, hr1, by omega, ⟨_, u2.1, by decide⟩, g2.2, hat, hlen, fun _ => by rw [List.take_zero]; rfl⟩
  · refine gt_load (v := .int z1) (n := 1) (ykc_215 (e := (2, .iload_n kF1, 0)) rfl) rfl rfl ?_
    refine gt_zeq_f (ykc_215 (e := (4, .ifCond .eq 11, 24)) rfl) hq1 rfl ?_
    refine gt_load (v := .ref 170) (n := 1) (ykc_215 (e := (2, .aload_n kF0, 0)) rfl) rfl rfl ?_
    refine gt_alu (st' := [.int (Int32.ofInt 0), .ref 170]) (ykc_215 (e := (0, .iconst 0, 0)) rfl) rfl rfl ?_
    refine gt_cv (n := 1) (as := [.ref 170, .int (Int32.ofInt 0)]) (r := []) (ykc_215 (e := (6, .invokevirtual 239, 0)) rfl) rfl hP2 rfl rfl rfl ((xread_all hE2 hm h0m 70).2 (D' + 1) ph2 T 0 0 0 0 _ l (by omega) hP2 g2 hs2 (by omega) hT (by omega) (by omega) (by decide) (by omega) (by omega)) rfl (fun vv ph103 hv => ?_)
    obtain ⟨z3, a3, n3, c3, l3, e9, hP3, g93, hs3, hr3⟩ := hv; subst e9
    change xGT kK (D' + 1) 215 _ (21, [some (.ref 170), some (.int z1), none], [.int z3], ph103, 0, 0)
    obtain ⟨⟨xa3, qa3, ea3⟩, ⟨xT3, qT3, eT3⟩, -, ⟨xc3, qc3, ec3⟩, hat3, hlen3⟩ := id hs3
    obtain ⟨b1, b2, b3, b4, b5, b6, b7⟩ := hr3
    by_cases hq3 : z3.toInt = 0
    · refine gt_zeq_t (ykc_215 (e := (4, .ifCond .eq 7, 28)) rfl) hq3 ?_
      refine gt_alu (st' := [.int (Int32.ofInt 0)]) (ykc_215 (e := (0, .iconst 0, 0)) rfl) rfl rfl ?_
      refine gt_store (L' := [some (.ref 170), some (.int z1), some (.int (Int32.ofInt 0))]) (st' := []) (n := 1) (ykc_215 (e := (3, .istore_n kF2, 0)) rfl) rfl rfl ?_
      refine gt_load (v := .ref 170) (n := 1) (ykc_215 (e := (2, .aload_n kF0, 0)) rfl) rfl rfl ?_
      refine gt_load (v := .int z1) (n := 1) (ykc_215 (e := (2, .iload_n kF1, 0)) rfl) rfl rfl ?_
      refine gt_push (v := .int ((Int8.ofInt 40).toInt32)) (n := 2) (ykc_215 (e := (1, .bipush 40, 0)) rfl) rfl rfl ?_
      refine gt_load (v := .int (Int32.ofInt 0)) (n := 1) (ykc_215 (e := (2, .iload_n kF2, 0)) rfl) rfl rfl ?_
      refine gt_cv (n := 3) (as := [.ref 170, .int z1, .int ((Int8.ofInt 40).toInt32), .int (Int32.ofInt 0)]) (r := []) (ykc_215 (e := (6, .invokevirtual 213, 0)) rfl) rfl hP3 rfl rfl rfl (xfault (D := D') hP3 qa3 qT3 (by omega) x40) rfl (fun vv ph204 hv => ?_)
      obtain ⟨e8, r, e9, hr1, hr2⟩ := hv; subst e8; subst e9
      change xGT kK (D' + 1) 215 _ (38, [some (.ref 170), some (.int z1), some (.int (Int32.ofInt 0))], [.int r], ph103, 0, 0)
      refine gt_ret (ykc_215 (e := (7, .ireturn, 0)) rfl) rfl ?_
      exact ⟨r, c3, l3, rfl, hP3, g93.1, hr1, by omega, ⟨xc3, qc3, ec3⟩, g93.2, hat3, hlen3, fun q => absurd (by decide) (hr2 q)⟩
    · obtain ⟨-, seg, hseg, htk⟩ := b7 (by omega)
      refine gt_zeq_f (ykc_215 (e := (4, .ifCond .eq 7, 28)) rfl) hq3 rfl ?_
      refine gt_alu (st' := [.int (Int32.ofInt 1)]) (ykc_215 (e := (0, .iconst 1, 0)) rfl) rfl rfl ?_
      refine gt_br (pc' := 29) (st' := [.int (Int32.ofInt 1)]) (ykc_215 (e := (4, .goto 4, 29)) rfl) rfl ?_
      refine gt_store (L' := [some (.ref 170), some (.int z1), some (.int (Int32.ofInt 1))]) (st' := []) (n := 1) (ykc_215 (e := (3, .istore_n kF2, 0)) rfl) rfl rfl ?_
      refine gt_load (v := .ref 170) (n := 1) (ykc_215 (e := (2, .aload_n kF0, 0)) rfl) rfl rfl ?_
      refine gt_load (v := .int z1) (n := 1) (ykc_215 (e := (2, .iload_n kF1, 0)) rfl) rfl rfl ?_
      refine gt_push (v := .int ((Int8.ofInt 40).toInt32)) (n := 2) (ykc_215 (e := (1, .bipush 40, 0)) rfl) rfl rfl ?_
      refine gt_load (v := .int (Int32.ofInt 1)) (n := 1) (ykc_215 (e := (2, .iload_n kF2, 0)) rfl) rfl rfl ?_
      refine gt_cv (n := 3) (as := [.ref 170, .int z1, .int ((Int8.ofInt 40).toInt32), .int (Int32.ofInt 1)]) (r := []) (ykc_215 (e := (6, .invokevirtual 213, 0)) rfl) rfl hP3 rfl rfl rfl (xfault (D := D') hP3 qa3 qT3 (by omega) x40) rfl (fun vv ph204 hv => ?_)
      obtain ⟨e8, r, e9, hr1, hr2⟩ := hv; subst e8; subst e9
      change xGT kK (D' + 1) 215 _ (38, [some (.ref 170), some (.int z1), some (.int (Int32.ofInt 1))], [.int r], ph103, 0, 0)
      refine gt_ret (ykc_215 (e := (7, .ireturn, 0)) rfl) rfl ?_
      refine ⟨r, c3, l3, rfl, hP3, g93.1, hr1, by omega, ⟨xc3, qc3, ec3⟩, g93.2, hat3, hlen3, fun _ => ?_⟩
      rw [List.take_zero, List.nil_append] at htk
      have hl := congrArg List.length htk
      rw [List.length_take, hlen3] at hl
      have h9 := hseg 0 [] (by omega) rfl
      rw [List.append_nil] at h9
      rw [htk]
      exact h9

set_option maxRecDepth 6000 in
theorem x_ofN {n : Nat} {y : Int32} (hn : n ≤ 80) (hy : y.toInt = (n : Int)) : y = Int32.ofNat n := by
  apply Int32.toInt_inj.mp
  rw [hy, Int32.toInt_ofNat_of_lt (by omega)]

set_option maxRecDepth 6000 in
theorem xlc_loopR {E : pm_H → Prop} (hE : xHE xX xgA_G74 xgF_G74 E) {m : Int} {D : Nat} {Q : Option Value → pm_H → Prop} {y : Int32} {n : Nat} {l : List Int32} (hn : n ≤ 80) (hll : l.length = 80) (hy : y.toInt = (n : Int)) (hQ : ∀ ph' l', xH xX kK m 0 ph' → E ph' → xget ph' 170 23 = some (.int y) → pm_at ph' 179 = some (.inl (0, .inl l')) → pm_at ph' 180 = some (.inl (0, .inl l)) → l'.take n = l.take n → Q none ph') : ∀ (s i : Nat) (x : Int32) (l2 : List Int32) (ph : pm_H), n - i < s → i ≤ n → x.toInt = (i : Int) → xH xX kK m 0 ph → E ph → xget ph 170 23 = some (.int y) → pm_at ph 179 = some (.inl (0, .inl l2)) → l2.length = 80 → pm_at ph 180 = some (.inl (0, .inl l)) → l2.take i = l.take i → xGT kK D 216 Q (7, [some (.ref 170), some (.ref 180), some (.int y), some (.int x)], [], ph, 0, 0) := by
  intro s
  induction s with
  | zero => intro i x l2 ph h; omega
  | succ s ih =>
    intro i x l2 ph hs hi hx hP g9 q23 hat hlen hal htk
    by_cases hin : i = n
    · subst hin
      refine gt_load (v := .int x) (n := 1) (ykc_216 (e := (2, .iload_n kF3, 0)) rfl) rfl rfl ?_
      refine gt_load (v := .int y) (n := 1) (ykc_216 (e := (2, .iload_n kF2, 0)) rfl) rfl rfl ?_
      refine gt_ige_t (ykc_216 (e := (4, .if_icmp .ge 18, 27)) rfl) (by omega) ?_
      refine gt_ret (ykc_216 (e := (7, .return_, 0)) rfl) rfl ?_
      exact hQ ph l2 hP g9 q23 hat hal htk
    · have hi2 : i < n := by omega
      refine gt_load (v := .int x) (n := 1) (ykc_216 (e := (2, .iload_n kF3, 0)) rfl) rfl rfl ?_
      refine gt_load (v := .int y) (n := 1) (ykc_216 (e := (2, .iload_n kF2, 0)) rfl) rfl rfl ?_
      refine gt_ige_f (ykc_216 (e := (4, .if_icmp .ge 18, 27)) rfl) (by omega) rfl ?_
      refine gt_load (v := .ref 170) (n := 1) (ykc_216 (e := (2, .aload_n kF0, 0)) rfl) rfl rfl ?_
      refine gt_gfr (A := 179) (ykc_216 (e := (5, .getfield 56, 0)) rfl) rfl hP rfl rfl rfl ?_
      refine gt_load (v := .int x) (n := 1) (ykc_216 (e := (2, .iload_n kF3, 0)) rfl) rfl rfl ?_
      refine gt_load (v := .ref 180) (n := 1) (ykc_216 (e := (2, .aload_n kF1, 0)) rfl) rfl rfl ?_
      refine gt_load (v := .int x) (n := 1) (ykc_216 (e := (2, .iload_n kF3, 0)) rfl) rfl rfl ?_
      refine gt_ial (A := 180) (ykc_216 (e := (5, .iaload, 0)) rfl) hP rfl rfl (by omega) (by omega) rfl (fun e0 g_e0 b_e0 => ?_)
      refine gt_ias (A := 179) (y := e0) (x := x) (ykc_216 (e := (5, .iastore, 0)) rfl) hP rfl rfl (by omega) (by omega) xany rfl (fun ph101 hP101 u101 => ?_)
      have f101_23 : xget ph101 170 23 = some (.int y) := (u101.2.1 170 23 (fun q => absurd q.1 (by decide))).trans q23
      obtain ⟨x1, e_x1, h_x1⟩ : ∃ zq : Int32, x + Int32.ofInt 1 = zq ∧ zq.toInt = x.toInt + 1 := ⟨_, rfl, by rw [ti_add (by rw [xi1]; omega) (by rw [xi1]; omega), xi1]⟩
      refine gt_store (L' := [some (.ref 170), some (.ref 180), some (.int y), some (.int x1)]) (st' := []) (n := 3) (ykc_216 (e := (3, .iinc 3 1, 0)) rfl) (by rw [← e_x1]; rfl) rfl ?_
      refine gt_br (pc' := 7) (st' := []) (ykc_216 (e := (4, .goto (-17), 7)) rfl) rfl ?_
      obtain ⟨l3, hat3, hlen3, -⟩ := xA_at (A := 179) hP101 rfl rfl
      have el := xu1_list hat hat3 (by omega) (by omega) u101
      have ek : x.toInt.toNat = i := by omega
      rw [ek] at el
      have ge : l[i]? = some e0 := by
        have g := g_e0
        unfold xget at g
        rw [hal, ek] at g
        have g : (l[i]?).map Value.int = some (.int e0) := g
        obtain ⟨w, w1, w2⟩ := Option.map_eq_some_iff.mp g
        cases w2
        exact w1
      refine ih (i + 1) x1 l3 _ (by omega) (by omega) (by omega) hP101 (xu1_E hE u101 rfl rfl rfl g9) ((u101.2.1 170 23 (fun q => absurd q.1 (by decide))).trans q23) hat3 (by omega) ((u101.2.2 180 (by decide)).trans hal) ?_
      rw [el, xtake_set (by omega), htk, List.take_succ, ge]
      rfl

set_option maxRecDepth 6000 in
theorem xlaycR {E : pm_H → Prop} (hE : xHE xX xgA_G74 xgF_G74 E) {m : Int} {D : Nat} {y : Int32} {n : Nat} {ph : pm_H} {l : List Int32} (hn : n ≤ 80) (hll : l.length = 80) (hy : y.toInt = (n : Int)) (hP : xH xX kK m 0 ph) (g9 : E ph) (hal : pm_at ph 180 = some (.inl (0, .inl l))) (hv : xvc (l.take n) 0 = true) : ∃ v ph', pm_Rd kK false (D + 1) 216 [.ref 170, .ref 180, .int y] ph (v, ph', 0, 0) ∧ (v = none ∧ xH xX kK m 0 ph' ∧ E ph' ∧ xV ph' ∧ pm_at ph' 180 = some (.inl (0, .inl l))) := by
  refine xRd_mk (nl := 4) rfl rfl ?_
  show xGT kK D 216 _ (0, [some (.ref 170), some (.ref 180), some (.int y), none], [], ph, 0, 0)
  refine gt_load (v := .ref 170) (n := 1) (ykc_216 (e := (2, .aload_n kF0, 0)) rfl) rfl rfl ?_
  refine gt_load (v := .int y) (n := 1) (ykc_216 (e := (2, .iload_n kF2, 0)) rfl) rfl rfl ?_
  refine gt_pf (y := y) (ykc_216 (e := (5, .putfield 248, 0)) rfl) rfl hP rfl rfl (by show 0 ≤ y.toInt; omega) (by show y.toInt ≤ 80; omega) rfl (fun ph1 hP1 u1 => ?_)
  refine gt_alu (st' := [.int (Int32.ofInt 0)]) (ykc_216 (e := (0, .iconst 0, 0)) rfl) rfl rfl ?_
  refine gt_store (L' := [some (.ref 170), some (.ref 180), some (.int y), some (.int (Int32.ofInt 0))]) (st' := []) (n := 1) (ykc_216 (e := (3, .istore_n kF3, 0)) rfl) rfl rfl ?_
  obtain ⟨l2, hat, hlen, -⟩ := xA_at (A := 179) hP1 rfl rfl
  refine xlc_loopR hE hn hll hy (fun ph' l' h1 h2 h3 h4 h5 h6 => ⟨rfl, h1, h2, ⟨l', n, h4, ?_, hn, by rw [h6]; exact hv⟩, h5⟩) (n + 1) 0 _ l2 _ (by omega) (by omega) (by decide) hP1 (xu1_E hE u1 rfl rfl rfl g9) u1.1 hat hlen ((u1.2.2 180 (by decide)).trans hal) (by rw [List.take_zero, List.take_zero])
  rw [h3]
  exact congrArg (fun q => some (Value.int q)) (x_ofN hn hy)

set_option maxRecDepth 6000 in
theorem xlc_loopW {E : pm_H → Prop} (hE : xHE xX xgA_G74 xgF_G74 E) {m : Int} {D : Nat} {Q : Option Value → pm_H → Prop} {y : Int32} {n : Nat} {l : List Int32} (hn : n ≤ 80) (hll : l.length = 80) (hy : y.toInt = (n : Int)) (hQ : ∀ ph' l', xH xX kK m 0 ph' → E ph' → xget ph' 170 23 = some (.int y) → pm_at ph' 179 = some (.inl (0, .inl l')) → pm_at ph' 197 = some (.inl (0, .inl l)) → l'.take n = l.take n → Q none ph') : ∀ (s i : Nat) (x : Int32) (l2 : List Int32) (ph : pm_H), n - i < s → i ≤ n → x.toInt = (i : Int) → xH xX kK m 0 ph → E ph → xget ph 170 23 = some (.int y) → pm_at ph 179 = some (.inl (0, .inl l2)) → l2.length = 80 → pm_at ph 197 = some (.inl (0, .inl l)) → l2.take i = l.take i → xGT kK D 216 Q (7, [some (.ref 170), some (.ref 197), some (.int y), some (.int x)], [], ph, 0, 0) := by
  intro s
  induction s with
  | zero => intro i x l2 ph h; omega
  | succ s ih =>
    intro i x l2 ph hs hi hx hP g9 q23 hat hlen hal htk
    by_cases hin : i = n
    · subst hin
      refine gt_load (v := .int x) (n := 1) (ykc_216 (e := (2, .iload_n kF3, 0)) rfl) rfl rfl ?_
      refine gt_load (v := .int y) (n := 1) (ykc_216 (e := (2, .iload_n kF2, 0)) rfl) rfl rfl ?_
      refine gt_ige_t (ykc_216 (e := (4, .if_icmp .ge 18, 27)) rfl) (by omega) ?_
      refine gt_ret (ykc_216 (e := (7, .return_, 0)) rfl) rfl ?_
      exact hQ ph l2 hP g9 q23 hat hal htk
    · have hi2 : i < n := by omega
      refine gt_load (v := .int x) (n := 1) (ykc_216 (e := (2, .iload_n kF3, 0)) rfl) rfl rfl ?_
      refine gt_load (v := .int y) (n := 1) (ykc_216 (e := (2, .iload_n kF2, 0)) rfl) rfl rfl ?_
      refine gt_ige_f (ykc_216 (e := (4, .if_icmp .ge 18, 27)) rfl) (by omega) rfl ?_
      refine gt_load (v := .ref 170) (n := 1) (ykc_216 (e := (2, .aload_n kF0, 0)) rfl) rfl rfl ?_
      refine gt_gfr (A := 179) (ykc_216 (e := (5, .getfield 56, 0)) rfl) rfl hP rfl rfl rfl ?_
      refine gt_load (v := .int x) (n := 1) (ykc_216 (e := (2, .iload_n kF3, 0)) rfl) rfl rfl ?_
      refine gt_load (v := .ref 197) (n := 1) (ykc_216 (e := (2, .aload_n kF1, 0)) rfl) rfl rfl ?_
      refine gt_load (v := .int x) (n := 1) (ykc_216 (e := (2, .iload_n kF3, 0)) rfl) rfl rfl ?_
      refine gt_ial (A := 197) (ykc_216 (e := (5, .iaload, 0)) rfl) hP rfl rfl (by omega) (by omega) rfl (fun e0 g_e0 b_e0 => ?_)
      refine gt_ias (A := 179) (y := e0) (x := x) (ykc_216 (e := (5, .iastore, 0)) rfl) hP rfl rfl (by omega) (by omega) xany rfl (fun ph101 hP101 u101 => ?_)
      have f101_23 : xget ph101 170 23 = some (.int y) := (u101.2.1 170 23 (fun q => absurd q.1 (by decide))).trans q23
      obtain ⟨x1, e_x1, h_x1⟩ : ∃ zq : Int32, x + Int32.ofInt 1 = zq ∧ zq.toInt = x.toInt + 1 := ⟨_, rfl, by rw [ti_add (by rw [xi1]; omega) (by rw [xi1]; omega), xi1]⟩
      refine gt_store (L' := [some (.ref 170), some (.ref 197), some (.int y), some (.int x1)]) (st' := []) (n := 3) (ykc_216 (e := (3, .iinc 3 1, 0)) rfl) (by rw [← e_x1]; rfl) rfl ?_
      refine gt_br (pc' := 7) (st' := []) (ykc_216 (e := (4, .goto (-17), 7)) rfl) rfl ?_
      obtain ⟨l3, hat3, hlen3, -⟩ := xA_at (A := 179) hP101 rfl rfl
      have el := xu1_list hat hat3 (by omega) (by omega) u101
      have ek : x.toInt.toNat = i := by omega
      rw [ek] at el
      have ge : l[i]? = some e0 := by
        have g := g_e0
        unfold xget at g
        rw [hal, ek] at g
        have g : (l[i]?).map Value.int = some (.int e0) := g
        obtain ⟨w, w1, w2⟩ := Option.map_eq_some_iff.mp g
        cases w2
        exact w1
      refine ih (i + 1) x1 l3 _ (by omega) (by omega) (by omega) hP101 (xu1_E hE u101 rfl rfl rfl g9) ((u101.2.1 170 23 (fun q => absurd q.1 (by decide))).trans q23) hat3 (by omega) ((u101.2.2 197 (by decide)).trans hal) ?_
      rw [el, xtake_set (by omega), htk, List.take_succ, ge]
      rfl

set_option maxRecDepth 6000 in
theorem xlaycW {E : pm_H → Prop} (hE : xHE xX xgA_G74 xgF_G74 E) {m : Int} {D : Nat} {y : Int32} {n : Nat} {ph : pm_H} {l : List Int32} (hn : n ≤ 80) (hll : l.length = 80) (hy : y.toInt = (n : Int)) (hP : xH xX kK m 0 ph) (g9 : E ph) (hal : pm_at ph 197 = some (.inl (0, .inl l))) (hv : xvc (l.take n) 0 = true) : ∃ v ph', pm_Rd kK false (D + 1) 216 [.ref 170, .ref 197, .int y] ph (v, ph', 0, 0) ∧ (v = none ∧ xH xX kK m 0 ph' ∧ E ph' ∧ xV ph' ∧ pm_at ph' 197 = some (.inl (0, .inl l))) := by
  refine xRd_mk (nl := 4) rfl rfl ?_
  show xGT kK D 216 _ (0, [some (.ref 170), some (.ref 197), some (.int y), none], [], ph, 0, 0)
  refine gt_load (v := .ref 170) (n := 1) (ykc_216 (e := (2, .aload_n kF0, 0)) rfl) rfl rfl ?_
  refine gt_load (v := .int y) (n := 1) (ykc_216 (e := (2, .iload_n kF2, 0)) rfl) rfl rfl ?_
  refine gt_pf (y := y) (ykc_216 (e := (5, .putfield 248, 0)) rfl) rfl hP rfl rfl (by show 0 ≤ y.toInt; omega) (by show y.toInt ≤ 80; omega) rfl (fun ph1 hP1 u1 => ?_)
  refine gt_alu (st' := [.int (Int32.ofInt 0)]) (ykc_216 (e := (0, .iconst 0, 0)) rfl) rfl rfl ?_
  refine gt_store (L' := [some (.ref 170), some (.ref 197), some (.int y), some (.int (Int32.ofInt 0))]) (st' := []) (n := 1) (ykc_216 (e := (3, .istore_n kF3, 0)) rfl) rfl rfl ?_
  obtain ⟨l2, hat, hlen, -⟩ := xA_at (A := 179) hP1 rfl rfl
  refine xlc_loopW hE hn hll hy (fun ph' l' h1 h2 h3 h4 h5 h6 => ⟨rfl, h1, h2, ⟨l', n, h4, ?_, hn, by rw [h6]; exact hv⟩, h5⟩) (n + 1) 0 _ l2 _ (by omega) (by omega) (by decide) hP1 (xu1_E hE u1 rfl rfl rfl g9) u1.1 hat hlen ((u1.2.2 197 (by decide)).trans hal) (by rw [List.take_zero, List.take_zero])
  rw [h3]
  exact congrArg (fun q => some (Value.int q)) (x_ofN hn hy)

set_option maxRecDepth 6000 in
theorem xrule {E : pm_H → Prop} (hE : xHE xX xgA_G75 xgF_G75 E) {m : Int} (hm : m ≤ 2147483646) (h0m : (0 : Int) ≤ m) {D : Nat} (hD : 110 ≤ D) {ph : pm_H} (hP : xH xX kK m 0 ph) (g9 : E ph) (hV : xV ph) : ∃ v ph', pm_Rd kK false D 217 [.ref 170] ph (v, ph', 0, 0) ∧ (∃ z : Int32, v = some (.int z) ∧ z.toInt ≤ 0 ∧ xH xX kK m 0 ph' ∧ E ph' ∧ xV ph' ∧ xiN ph' 14 0) := by
  obtain ⟨D', rfl⟩ : ∃ D', D = D' + 1 + 1 := ⟨D - 2, by omega⟩
  have hE1 := hE
  have hE2 : xHE xX xgA_G73 xgF_G73 (fun p => E p ∧ xV p) := fun p p' hs hp => ⟨(xHE_sub (gA' := xgA_G73) (gF' := xgF_G73) (by decide +kernel) (by decide +kernel) hE) p p' hs hp.1, (xHE_sub (gA' := xgA_G73) (gF' := xgF_G73) (by decide +kernel) (by decide +kernel) xHEV) p p' hs hp.2⟩
  have hE3 : xHE xX xgA_G74 xgF_G74 (fun p => E p ∧ xiN p 14 0) := fun p p' hs hp => ⟨(xHE_sub (gA' := xgA_G74) (gF' := xgF_G74) (by decide +kernel) (by decide +kernel) hE) p p' hs hp.1, by
    obtain ⟨x, h1, h2⟩ := hp.2
    exact ⟨x, (hs.2 170 0 14 rfl (by decide)).symm.trans h1, h2⟩⟩
  refine xRd_mk (nl := 2) rfl rfl ?_
  show xGT kK (D' + 1) 217 _ (0, [some (.ref 170), none], [], ph, 0, 0)
  refine gt_load (v := .ref 170) (n := 1) (ykc_217 (e := (2, .aload_n kF0, 0)) rfl) rfl rfl ?_
  refine gt_alu (st' := [.int (Int32.ofInt 0), .ref 170]) (ykc_217 (e := (0, .iconst 0, 0)) rfl) rfl rfl ?_
  refine gt_pf (y := Int32.ofInt 0) (ykc_217 (e := (5, .putfield 3, 0)) rfl) rfl hP rfl rfl (by decide) (by decide) rfl (fun ph1 hP1 u1 => ?_)
  have g1 : E ph1 ∧ xV ph1 := ⟨xu1_E hE1 u1 rfl rfl rfl g9, xu1_E xHEV u1 rfl rfl rfl hV⟩
  refine gt_load (v := .ref 170) (n := 1) (ykc_217 (e := (2, .aload_n kF0, 0)) rfl) rfl rfl ?_
  refine gt_cv (n := 0) (as := [.ref 170]) (r := []) (ykc_217 (e := (6, .invokevirtual 251, 0)) rfl) rfl hP1 rfl rfl rfl (xrrule hE2 hm h0m (by omega) hP1 g1) rfl (fun vv ph2 hv => ?_)
  obtain ⟨z1, c, l, e9, hP2, g2, hz, hc, ⟨xc, qc, ec⟩, ht, hat, hlen, hvc⟩ := hv; subst e9
  change xGT kK (D' + 1) 217 _ (9, [some (.ref 170), none], [.int z1], ph2, 0, 0)
  refine gt_store (L' := [some (.ref 170), some (.int z1)]) (st' := []) (n := 1) (ykc_217 (e := (3, .istore_n kF1, 0)) rfl) rfl rfl ?_
  by_cases hq : z1.toInt ≠ 0
  · refine gt_load (v := .int z1) (n := 1) (ykc_217 (e := (2, .iload_n kF1, 0)) rfl) rfl rfl ?_
    refine gt_zne_t (ykc_217 (e := (4, .ifCond .ne 15, 26)) rfl) hq ?_
    refine gt_load (v := .int z1) (n := 1) (ykc_217 (e := (2, .iload_n kF1, 0)) rfl) rfl rfl ?_
    refine gt_ret (ykc_217 (e := (7, .ireturn, 0)) rfl) rfl ?_
    exact ⟨z1, rfl, hz, hP2, g2.1, g2.2, ht⟩
  · refine gt_load (v := .int z1) (n := 1) (ykc_217 (e := (2, .iload_n kF1, 0)) rfl) rfl rfl ?_
    refine gt_zne_f (ykc_217 (e := (4, .ifCond .ne 15, 26)) rfl) (by omega) rfl ?_
    refine gt_load (v := .ref 170) (n := 1) (ykc_217 (e := (2, .aload_n kF0, 0)) rfl) rfl rfl ?_
    refine gt_load (v := .ref 170) (n := 1) (ykc_217 (e := (2, .aload_n kF0, 0)) rfl) rfl rfl ?_
    refine gt_gfr (A := 180) (ykc_217 (e := (5, .getfield 59, 0)) rfl) rfl hP2 rfl rfl rfl ?_
    refine gt_load (v := .ref 170) (n := 1) (ykc_217 (e := (2, .aload_n kF0, 0)) rfl) rfl rfl ?_
    refine gt_gfk (v := .int xc) (ykc_217 (e := (5, .getfield 227, 0)) rfl) rfl hP2 qc rfl ?_
    refine gt_cv (n := 2) (as := [.ref 170, .ref 180, .int xc]) (r := []) (ykc_217 (e := (6, .invokevirtual 254, 0)) rfl) rfl hP2 rfl rfl rfl (xlaycR (D := D') (n := c) hE3 (by omega) hlen ec hP2 ⟨g2.1, ht⟩ hat (hvc (by omega))) rfl (fun vv ph103 hv => ?_)
    obtain ⟨e9, hP3, g3, hV3, -⟩ := hv; subst e9
    change xGT kK (D' + 1) 217 _ (26, [some (.ref 170), some (.int z1)], [], ph103, 0, 0)
    refine gt_load (v := .int z1) (n := 1) (ykc_217 (e := (2, .iload_n kF1, 0)) rfl) rfl rfl ?_
    refine gt_ret (ykc_217 (e := (7, .ireturn, 0)) rfl) rfl ?_
    exact ⟨z1, rfl, hz, hP3, g3.1, hV3, g3.2⟩

/-! the call law of the reference, by hand, printed by wip/x/h_xlaw.py -/
set_option maxRecDepth 6000 in
theorem xallseen {E : pm_H → Prop} (hE : xHE xX xgA_G8 xgF_G8 E) (hV : ∀ p, E p → xV p) {m : Int} (hm : m ≤ 2147483646) (h0m : (0 : Int) ≤ m) {D : Nat} (hD : 13 ≤ D) {ph : pm_H} (hP : xH xX kK m 0 ph) (g9 : E ph) : ∃ v ph', pm_Rd kK false D 227 [.ref 170, .ref 174] ph (v, ph', 0, 0) ∧ (∃ z : Int64, v = some (.long z) ∧ xH xX kK m 0 ph' ∧ E ph') := by
  obtain ⟨v, ph', k1, k2, k3, ⟨u, e, z, e2, -⟩, -⟩ := (xn_227_0 hE hV) D hD m hm h0m [.ref 170, .ref 174] ph ⟨xaRi rfl (by decide), xaRi rfl (by decide), trivial⟩ xF0 hP g9
  exact ⟨v, ph', k1, z, by rw [e, e2], k2, k3⟩
set_option maxRecDepth 6000 in
theorem xbits {E : pm_H → Prop} {m : Int} (hm : m ≤ 2147483646) (h0m : (0 : Int) ≤ m) {D : Nat} (hD : 1 ≤ D) {ph : pm_H} {x : Int64} (hP : xH xX kK m 0 ph) (g9 : E ph) : ∃ v ph', pm_Rd kK false D 305 [.long x] ph (v, ph', 0, 0) ∧ (∃ z : Int32, v = some (.int z) ∧ xH xX kK m 0 ph' ∧ E ph') := by
  obtain ⟨v, ph', k1, k2, k3, ⟨u, e, z, e2, -⟩, -⟩ := (xn_305_0 (E := E)) D hD m hm h0m [.long x] ph ⟨xaL, trivial⟩ xF0 hP g9
  exact ⟨v, ph', k1, z, by rw [e, e2], k2, k3⟩
set_option maxRecDepth 6000 in
theorem xent_all : (List.range 2).all (fun k => xs_186 (xhmV 1 [.inr (.inr (.inl 0)), .inr (.inl (Int.negSucc 9223372036854775807, Int.ofNat 9223372036854775807))]) (xrsA xX [(none, [(696321, .inl (Int.ofNat (k + 1), Int.ofNat (k + 1)))])]) (4, [], [], xhmF 3 [(696321, .inl (Int.ofNat k, Int.ofNat k))], 0, [])) = true := by decide +kernel
set_option maxRecDepth 6000 in
theorem xenter {E : pm_H → Prop} (hE : xHE xX xgA_G58 xgF_G58 E) {m : Int} (hm : m ≤ 2147483646) (h0m : (0 : Int) ≤ m) {D : Nat} (hD : 1 ≤ D) {ph : pm_H} {x : Int64} {k : Nat} (hk : k < 2) (hP : xH xX kK m 0 ph) (g9 : E ph) (q1 : xiN ph 1 k) : ∃ v ph', pm_Rd kK false D 186 [.ref 170, .long x] ph (v, ph', 0, 0) ∧ (v = none ∧ xH xX kK m 0 ph' ∧ E ph' ∧ xiN ph' 1 (k + 1)) := by
  obtain ⟨y, y1, y2⟩ := q1
  obtain ⟨v, ph', k1, k2, k3, q, hq, k4, k5⟩ := xcok_alt (pre := [.inr (.inr (.inl 0)), .inr (.inl (Int.negSucc 9223372036854775807, Int.ofNat 9223372036854775807))]) (fp := [(696321, .inl (Int.ofNat k, Int.ofNat k))]) (xso_186 hE) (List.all_eq_true.mp xent_all k (List.mem_range.mpr hk)) D hD m hm h0m [.ref 170, .long x] ph ⟨xaRi rfl (by decide), xaL, trivial⟩ (xF1 (k := 696321) (x := y) (by decide) y1 (by show (k : Int) ≤ y.toInt; omega) (by show y.toInt ≤ (k : Int); omega)) hP g9
  have e := List.mem_singleton.mp hq
  subst e
  obtain ⟨x1, a1, b1, c1⟩ := xF_in (a := 170) (c := 1) k5 List.mem_cons_self (by decide) (by decide)
  have b1 : ((k + 1 : Nat) : Int) ≤ x1.toInt := b1
  have c1 : x1.toInt ≤ ((k + 1 : Nat) : Int) := c1
  exact ⟨v, ph', k1, k4, k2, k3, x1, a1, by omega⟩
def xgA_LW : List Nat := 9 :: 10 :: xgA_G101
def xgF_LW : List (Nat × Nat) := (0, 14) :: xgF_G101
set_option maxRecDepth 6000 in
theorem xHE_iN {gA : List Nat} {gF : List (Nat × Nat)} {k n : Nat} (h : xmemP gF 0 k = true) : xHE xX gA gF (fun p => xiN p k n) := fun p p' hs hp => by
  obtain ⟨x, h1, h2⟩ := hp
  exact ⟨x, (hs.2 170 0 k rfl (xmemP_in h)).symm.trans h1, h2⟩
set_option maxRecDepth 6000 in
theorem xHE_g {gA : List Nat} {gF : List (Nat × Nat)} {k : Nat} {v : Value} (h : xmemP gF 0 k = true) : xHE xX gA gF (fun p => xget p 170 k = some v) := fun p p' hs hp => (hs.2 170 0 k rfl (xmemP_in h)).symm.trans hp
set_option maxRecDepth 6000 in
theorem xHE_at {gA : List Nat} {gF : List (Nat × Nat)} {a i : Nat} {c : Option pm_C} (ho : xown a = some i) (h : xmemN gA i = true) : xHE xX gA gF (fun p => pm_at p a = c) := fun p p' hs hp => (hs.1 a i ho (xmemN_in h)).symm.trans hp
set_option maxRecDepth 6000 in
theorem xHE_and {gA : List Nat} {gF : List (Nat × Nat)} {E F : pm_H → Prop} (h1 : xHE xX gA gF E) (h2 : xHE xX gA gF F) : xHE xX gA gF (fun p => E p ∧ F p) := fun p p' hs hp => ⟨h1 p p' hs hp.1, h2 p p' hs hp.2⟩

set_option maxRecDepth 6000 in
theorem xlw_loop {E : pm_H → Prop} {gA : List Nat} {gF : List (Nat × Nat)} (hE : xHE xX gA gF E) (hg : xmemN gA 27 = false) (hl : ∀ k, xmemP gF 27 k = false) {m : Int} {D : Nat} {Q : Option Value → pm_H → Prop} {z s1 w y : Int32} {n : Nat} {l : List Int32} (hn : n ≤ 80) (hll : l.length = 80) (hy : y.toInt = (n : Int)) (hQ : ∀ ph' l' (x : Int32), xH xX kK m 0 ph' → E ph' → xget ph' 170 23 = some (.int y) → pm_at ph' 179 = some (.inl (0, .inl l)) → pm_at ph' 197 = some (.inl (0, .inl l')) → l'.length = 80 → l'.take n = l.take n → xGT kK D 290 Q (71, [some (.ref 170), some (.int z), some (.int s1), some (.int w), some (.int x)], [], ph', 0, 0)) : ∀ (s i : Nat) (x : Int32) (l2 : List Int32) (ph : pm_H), n - i < s → i ≤ n → x.toInt = (i : Int) → xH xX kK m 0 ph → E ph → xget ph 170 23 = some (.int y) → pm_at ph 197 = some (.inl (0, .inl l2)) → l2.length = 80 → pm_at ph 179 = some (.inl (0, .inl l)) → l2.take i = l.take i → xGT kK D 290 Q (42, [some (.ref 170), some (.int z), some (.int s1), some (.int w), some (.int x)], [], ph, 0, 0) := by
  intro s
  induction s with
  | zero => intro i x l2 ph h; omega
  | succ s ih =>
    intro i x l2 ph hs hi hx hP g9 q23 hat hlen hal htk
    by_cases hin : i = n
    · subst hin
      refine gt_load (v := .int x) (n := 2) (ykc_290 (e := (2, .iload 4, 0)) rfl) rfl rfl ?_
      refine gt_load (v := .ref 170) (n := 1) (ykc_290 (e := (2, .aload_n kF0, 0)) rfl) rfl rfl ?_
      refine gt_gfk (v := .int y) (ykc_290 (e := (5, .getfield 248, 0)) rfl) rfl hP q23 rfl ?_
      refine gt_ige_t (ykc_290 (e := (4, .if_icmp .ge 23, 71)) rfl) (by omega) ?_
      exact hQ ph l2 x hP g9 q23 hal hat hlen htk
    · have hi2 : i < n := by omega
      refine gt_load (v := .int x) (n := 2) (ykc_290 (e := (2, .iload 4, 0)) rfl) rfl rfl ?_
      refine gt_load (v := .ref 170) (n := 1) (ykc_290 (e := (2, .aload_n kF0, 0)) rfl) rfl rfl ?_
      refine gt_gfk (v := .int y) (ykc_290 (e := (5, .getfield 248, 0)) rfl) rfl hP q23 rfl ?_
      refine gt_ige_f (ykc_290 (e := (4, .if_icmp .ge 23, 71)) rfl) (by omega) rfl ?_
      refine gt_load (v := .ref 170) (n := 1) (ykc_290 (e := (2, .aload_n kF0, 0)) rfl) rfl rfl ?_
      refine gt_gfr (A := 197) (ykc_290 (e := (5, .getfield 110, 0)) rfl) rfl hP rfl rfl rfl ?_
      refine gt_load (v := .int x) (n := 2) (ykc_290 (e := (2, .iload 4, 0)) rfl) rfl rfl ?_
      refine gt_load (v := .ref 170) (n := 1) (ykc_290 (e := (2, .aload_n kF0, 0)) rfl) rfl rfl ?_
      refine gt_gfr (A := 179) (ykc_290 (e := (5, .getfield 56, 0)) rfl) rfl hP rfl rfl rfl ?_
      refine gt_load (v := .int x) (n := 2) (ykc_290 (e := (2, .iload 4, 0)) rfl) rfl rfl ?_
      refine gt_ial (A := 179) (ykc_290 (e := (5, .iaload, 0)) rfl) hP rfl rfl (by omega) (by omega) rfl (fun e0 g_e0 b_e0 => ?_)
      refine gt_ias (A := 197) (y := e0) (x := x) (ykc_290 (e := (5, .iastore, 0)) rfl) hP rfl rfl (by omega) (by omega) xany rfl (fun ph101 hP101 u101 => ?_)
      have f101_23 : xget ph101 170 23 = some (.int y) := (u101.2.1 170 23 (fun q => absurd q.1 (by decide))).trans q23
      obtain ⟨x1, e_x1, h_x1⟩ : ∃ zq : Int32, x + Int32.ofInt 1 = zq ∧ zq.toInt = x.toInt + 1 := ⟨_, rfl, by rw [ti_add (by rw [xi1]; omega) (by rw [xi1]; omega), xi1]⟩
      refine gt_store (L' := [some (.ref 170), some (.int z), some (.int s1), some (.int w), some (.int x1)]) (st' := []) (n := 3) (ykc_290 (e := (3, .iinc 4 1, 0)) rfl) (by rw [← e_x1]; rfl) rfl ?_
      refine gt_br (pc' := 42) (st' := []) (ykc_290 (e := (4, .goto (-26), 42)) rfl) rfl ?_
      obtain ⟨l3, hat3, hlen3, -⟩ := xA_at (A := 197) hP101 rfl rfl
      have el := xu1_list hat hat3 (by omega) (by omega) u101
      have ek : x.toInt.toNat = i := by omega
      rw [ek] at el
      have ge : l[i]? = some e0 := by
        have g := g_e0
        unfold xget at g
        rw [hal, ek] at g
        have g : (l[i]?).map Value.int = some (.int e0) := g
        obtain ⟨w, w1, w2⟩ := Option.map_eq_some_iff.mp g
        cases w2
        exact w1
      refine ih (i + 1) x1 l3 _ (by omega) (by omega) (by omega) hP101 (xu1_E hE u101 (i := 27) rfl hg (hl _) g9) ((u101.2.1 170 23 (fun q => absurd q.1 (by decide))).trans q23) hat3 (by omega) ((u101.2.2 179 (by decide)).trans hal) ?_
      rw [el, xtake_set (by omega), htk, List.take_succ, ge]
      rfl

set_option maxRecDepth 6000 in
theorem xlw_71 {E : pm_H → Prop} (hE : xHE xX xgA_G101 xgF_LW E) {m : Int} (hm : m ≤ 2147483646) (h0m : (0 : Int) ≤ m) {D' : Nat} (hD : 20 ≤ D') {Q : Option Value → pm_H → Prop} {z s1 w x xc : Int32} {n c : Nat} {lR lW : List Int32} (hQ : ∀ (r : Int32) ph', xH xX kK m 0 ph' → E ph' → xV ph' → Q (some (.int r)) ph') {ph : pm_H} (hP : xH xX kK m 0 ph) (g9 : E ph) (q24 : xget ph 170 24 = some (.int xc)) (ec : xc.toInt = (c : Int)) (hc : c ≤ 40) (hR : pm_at ph 180 = some (.inl (0, .inl lR))) (hlR : lR.length = 80) (hvR : xvc (lR.take c) 0 = true) (hW : pm_at ph 197 = some (.inl (0, .inl lW))) (hlW : lW.length = 80) (hvW : xvc (lW.take n) 0 = true) (hn : n ≤ 80) (hw : w.toInt = (n : Int)) : xGT kK (D' + 1) 290 Q (71, [some (.ref 170), some (.int z), some (.int s1), some (.int w), some (.int x)], [], ph, 0, 0) := by
  have hE7 : xHE xX xgA_G74 xgF_G74 (fun p => E p ∧ pm_at p 197 = some (.inl (0, .inl lW))) := xHE_and (xHE_sub (by decide +kernel) (by decide +kernel) hE) (xHE_at (i := 27) rfl (by decide))
  have hE8 : xHE xX xgA_G8 xgF_G8 (fun p => (E p ∧ pm_at p 197 = some (.inl (0, .inl lW))) ∧ xV p) := xHE_and (xHE_and (xHE_sub (by decide +kernel) (by decide +kernel) hE) (xHE_at (i := 27) rfl (by decide))) (xHE_sub (by decide +kernel) (by decide +kernel) xHEV)
  have hE9 : xHE xX xgA_G74 xgF_G74 E := xHE_sub (by decide +kernel) (by decide +kernel) hE
  have hE10 : xHE xX xgA_G58 xgF_G58 (fun p => E p ∧ xV p) := xHE_and (xHE_sub (by decide +kernel) (by decide +kernel) hE) (xHE_sub (by decide +kernel) (by decide +kernel) xHEV)
  refine gt_load (v := .ref 170) (n := 1) (ykc_290 (e := (2, .aload_n kF0, 0)) rfl) rfl rfl ?_
  refine gt_load (v := .ref 170) (n := 1) (ykc_290 (e := (2, .aload_n kF0, 0)) rfl) rfl rfl ?_
  refine gt_gfr (A := 180) (ykc_290 (e := (5, .getfield 59, 0)) rfl) rfl hP rfl rfl rfl ?_
  refine gt_load (v := .ref 170) (n := 1) (ykc_290 (e := (2, .aload_n kF0, 0)) rfl) rfl rfl ?_
  refine gt_gfk (v := .int xc) (ykc_290 (e := (5, .getfield 227, 0)) rfl) rfl hP q24 rfl ?_
  refine gt_cv (n := 2) (as := [.ref 170, .ref 180, .int xc]) (r := []) (ykc_290 (e := (6, .invokevirtual 254, 0)) rfl) rfl hP rfl rfl rfl (xlaycR (D := D') (n := c) hE7 (by omega) hlR ec hP ⟨g9, hW⟩ hR hvR) rfl (fun vv ph1 hv => ?_)
  obtain ⟨e9, hP1, g1, hV1, -⟩ := hv; subst e9
  change xGT kK (D' + 1) 290 Q (83, [some (.ref 170), some (.int z), some (.int s1), some (.int w), some (.int x)], [], ph1, 0, 0)
  refine gt_load (v := .ref 170) (n := 1) (ykc_290 (e := (2, .aload_n kF0, 0)) rfl) rfl rfl ?_
  refine gt_load (v := .ref 170) (n := 1) (ykc_290 (e := (2, .aload_n kF0, 0)) rfl) rfl rfl ?_
  refine gt_gfr (A := 174) (ykc_290 (e := (5, .getfield 41, 0)) rfl) rfl hP1 rfl rfl rfl ?_
  refine gt_cv (n := 1) (as := [.ref 170, .ref 174]) (r := []) (ykc_290 (e := (6, .invokevirtual 417, 0)) rfl) rfl hP1 rfl rfl rfl (xallseen hE8 (fun p h => h.2) hm h0m (by omega) hP1 ⟨g1, hV1⟩) rfl (fun vv ph2 hv => ?_)
  obtain ⟨s2, e9, hP2, g2⟩ := hv; subst e9
  change xGT kK (D' + 1) 290 Q (91, [some (.ref 170), some (.int z), some (.int s1), some (.int w), some (.int x)], [.long s2], ph2, 0, 0)
  refine gt_cs (n := 1) (as := [.long s2]) (r := []) (ykc_290 (e := (6, .invokestatic 405, 0)) rfl) rfl rfl rfl rfl (xbits (E := fun p => (E p ∧ pm_at p 197 = some (.inl (0, .inl lW))) ∧ xV p) hm h0m (by omega) hP2 g2) rfl (fun vv ph3 hv => ?_)
  obtain ⟨s3, e9, hP3, g3⟩ := hv; subst e9
  change xGT kK (D' + 1) 290 Q (94, [some (.ref 170), some (.int z), some (.int s1), some (.int w), some (.int x)], [.int s3], ph3, 0, 0)
  refine gt_store (L' := [some (.ref 170), some (.int z), some (.int s1), some (.int w), some (.int s3)]) (st' := []) (n := 2) (ykc_290 (e := (3, .istore 4, 0)) rfl) rfl rfl ?_
  refine gt_load (v := .ref 170) (n := 1) (ykc_290 (e := (2, .aload_n kF0, 0)) rfl) rfl rfl ?_
  refine gt_load (v := .ref 170) (n := 1) (ykc_290 (e := (2, .aload_n kF0, 0)) rfl) rfl rfl ?_
  refine gt_gfr (A := 197) (ykc_290 (e := (5, .getfield 110, 0)) rfl) rfl hP3 rfl rfl rfl ?_
  refine gt_load (v := .int w) (n := 1) (ykc_290 (e := (2, .iload_n kF3, 0)) rfl) rfl rfl ?_
  refine gt_cv (n := 2) (as := [.ref 170, .ref 197, .int w]) (r := []) (ykc_290 (e := (6, .invokevirtual 254, 0)) rfl) rfl hP3 rfl rfl rfl (xlaycW (D := D') (n := n) hE9 hn hlW hw hP3 g3.1.1 g3.1.2 hvW) rfl (fun vv ph4 hv => ?_)
  obtain ⟨e9, hP4, g4, hV4, -⟩ := hv; subst e9
  change xGT kK (D' + 1) 290 Q (105, [some (.ref 170), some (.int z), some (.int s1), some (.int w), some (.int s3)], [], ph4, 0, 0)
  refine gt_load (v := .ref 170) (n := 1) (ykc_290 (e := (2, .aload_n kF0, 0)) rfl) rfl rfl ?_
  refine gt_alu (st' := [.int (Int32.ofInt 0), .ref 170]) (ykc_290 (e := (0, .iconst 0, 0)) rfl) rfl rfl ?_
  refine gt_pf (y := Int32.ofInt 0) (ykc_290 (e := (5, .putfield 15, 0)) rfl) rfl hP4 rfl rfl (by decide) (by decide) rfl (fun ph5 hP5 u5 => ?_)
  have g5 : E ph5 ∧ xV ph5 := ⟨xu1_E hE u5 rfl rfl rfl g4, xu1_E xHEV u5 rfl rfl rfl hV4⟩
  have q5 : xiN ph5 1 0 := ⟨_, u5.1, by decide⟩
  refine gt_load (v := .ref 170) (n := 1) (ykc_290 (e := (2, .aload_n kF0, 0)) rfl) rfl rfl ?_
  refine gt_load (v := .int s3) (n := 2) (ykc_290 (e := (2, .iload 4, 0)) rfl) rfl rfl ?_
  refine gt_alu (st' := [.long s3.toInt64, .ref 170]) (ykc_290 (e := (0, .i2l, 0)) rfl) rfl rfl ?_
  refine gt_cv (n := 1) (as := [.ref 170, .long s3.toInt64]) (r := []) (ykc_290 (e := (6, .invokevirtual 373, 0)) rfl) rfl hP5 rfl rfl rfl (xenter hE10 hm h0m (by omega) (k := 0) (by decide) hP5 g5 q5) rfl (fun vv ph6 hv => ?_)
  obtain ⟨e9, hP6, g6, q6⟩ := hv; subst e9
  change xGT kK (D' + 1) 290 Q (117, [some (.ref 170), some (.int z), some (.int s1), some (.int w), some (.int s3)], [], ph6, 0, 0)
  refine gt_load (v := .ref 170) (n := 1) (ykc_290 (e := (2, .aload_n kF0, 0)) rfl) rfl rfl ?_
  refine gt_load (v := .int s1) (n := 1) (ykc_290 (e := (2, .iload_n kF2, 0)) rfl) rfl rfl ?_
  refine gt_alu (st' := [.long s1.toInt64, .ref 170]) (ykc_290 (e := (0, .i2l, 0)) rfl) rfl rfl ?_
  refine gt_cv (n := 1) (as := [.ref 170, .long s1.toInt64]) (r := []) (ykc_290 (e := (6, .invokevirtual 373, 0)) rfl) rfl hP6 rfl rfl rfl (xenter hE10 hm h0m (by omega) (k := 1) (by decide) hP6 g6 q6) rfl (fun vv ph7 hv => ?_)
  obtain ⟨e9, hP7, g7, q7⟩ := hv; subst e9
  change xGT kK (D' + 1) 290 Q (123, [some (.ref 170), some (.int z), some (.int s1), some (.int w), some (.int s3)], [], ph7, 0, 0)
  refine gt_load (v := .int s3) (n := 2) (ykc_290 (e := (2, .iload 4, 0)) rfl) rfl rfl ?_
  refine gt_load (v := .int s1) (n := 1) (ykc_290 (e := (2, .iload_n kF2, 0)) rfl) rfl rfl ?_
  refine gt_alu (st' := [.int (s3 - s1)]) (ykc_290 (e := (0, .isub, 0)) rfl) rfl rfl ?_
  refine gt_ret (ykc_290 (e := (7, .ireturn, 0)) rfl) rfl ?_
  exact hQ _ _ hP7 g7.1 g7.2

set_option maxRecDepth 6000 in
theorem xl27 : ∀ k, xmemP xgF_G8 27 k = false := by
  intro k
  have h : xgF_G8.all (fun p => !(Nat.beq p.1 27)) = true := by decide +kernel
  cases hk : xmemP xgF_G8 27 k with
  | false => rfl
  | true =>
    have h2 := List.all_eq_true.mp h _ (xmemP_in hk)
    have h2 : (!(Nat.beq 27 27)) = true := h2
    exact absurd h2 (by decide)

set_option maxRecDepth 6000 in
theorem xlaw {E : pm_H → Prop} (hE : xHE xX xgA_G101 xgF_G101 E) {m : Int} (hm : m ≤ 2147483646) (h0m : (0 : Int) ≤ m) {D : Nat} (hD : 110 ≤ D) {ph : pm_H} (hP : xH xX kK m 0 ph) (g9 : E ph) (hV : xV ph) : ∃ v ph', pm_Rd kK false D 290 [.ref 170] ph (v, ph', 0, 0) ∧ (∃ r : Int32, v = some (.int r) ∧ xH xX kK m 0 ph' ∧ E ph' ∧ xV ph' ∧ xiN ph' 14 0) := by
  obtain ⟨D', rfl⟩ : ∃ D', D = D' + 1 + 1 := ⟨D - 2, by omega⟩
  have hE1 := hE
  have hE2 : xHE xX xgA_G73 xgF_G73 (fun p => E p ∧ xV p) := xHE_and (xHE_sub (by decide +kernel) (by decide +kernel) hE) (xHE_sub (by decide +kernel) (by decide +kernel) xHEV)
  have hE6 : xHE xX xgA_G101 xgF_LW (fun p => E p ∧ xiN p 14 0) := xHE_and (xHE_sub (by decide +kernel) (by decide +kernel) hE) (xHE_iN (by decide))
  refine xRd_mk (nl := 5) rfl rfl ?_
  show xGT kK (D' + 1) 290 _ (0, [some (.ref 170), none, none, none, none], [], ph, 0, 0)
  refine gt_load (v := .ref 170) (n := 1) (ykc_290 (e := (2, .aload_n kF0, 0)) rfl) rfl rfl ?_
  refine gt_alu (st' := [.int (Int32.ofInt 0), .ref 170]) (ykc_290 (e := (0, .iconst 0, 0)) rfl) rfl rfl ?_
  refine gt_pf (y := Int32.ofInt 0) (ykc_290 (e := (5, .putfield 3, 0)) rfl) rfl hP rfl rfl (by decide) (by decide) rfl (fun ph1 hP1 u1 => ?_)
  have g1 : E ph1 ∧ xV ph1 := ⟨xu1_E hE1 u1 rfl rfl rfl g9, xu1_E xHEV u1 rfl rfl rfl hV⟩
  refine gt_load (v := .ref 170) (n := 1) (ykc_290 (e := (2, .aload_n kF0, 0)) rfl) rfl rfl ?_
  refine gt_cv (n := 0) (as := [.ref 170]) (r := []) (ykc_290 (e := (6, .invokevirtual 251, 0)) rfl) rfl hP1 rfl rfl rfl (xrrule hE2 hm h0m (by omega) hP1 g1) rfl (fun vv ph2 hv => ?_)
  obtain ⟨z1, c, lR, e9, hP2, g2, hz, hc, ⟨xc, qc, ec⟩, ht, hat, hlen, hvc⟩ := hv; subst e9
  change xGT kK (D' + 1) 290 _ (9, [some (.ref 170), none, none, none, none], [.int z1], ph2, 0, 0)
  refine gt_store (L' := [some (.ref 170), some (.int z1), none, none, none]) (st' := []) (n := 1) (ykc_290 (e := (3, .istore_n kF1, 0)) rfl) rfl rfl ?_
  by_cases hq : z1.toInt < 0
  · refine gt_load (v := .int z1) (n := 1) (ykc_290 (e := (2, .iload_n kF1, 0)) rfl) rfl rfl ?_
    refine gt_zge_f (ykc_290 (e := (4, .ifCond .ge 11, 22)) rfl) hq rfl ?_
    refine gt_load (v := .int z1) (n := 1) (ykc_290 (e := (2, .iload_n kF1, 0)) rfl) rfl rfl ?_
    refine gt_alu (st' := [.int (Int32.ofInt 1), .int z1]) (ykc_290 (e := (0, .iconst 1, 0)) rfl) rfl rfl ?_
    refine gt_alu (st' := [.int (z1 + (Int32.ofInt 1))]) (ykc_290 (e := (0, .iadd, 0)) rfl) rfl rfl ?_
    refine gt_push (v := .int ((Int16.ofInt 10000).toInt32)) (n := 3) (ykc_290 (e := (1, .sipush 10000, 0)) rfl) rfl rfl ?_
    refine gt_alu (st' := [.int ((z1 + (Int32.ofInt 1)) - ((Int16.ofInt 10000).toInt32))]) (ykc_290 (e := (0, .isub, 0)) rfl) rfl rfl ?_
    refine gt_ret (ykc_290 (e := (7, .ireturn, 0)) rfl) rfl ?_
    exact ⟨_, rfl, hP2, g2.1, g2.2, ht⟩
  · have hE5 : xHE xX xgA_G8 xgF_G8 (fun p => (E p ∧ xiN p 14 0 ∧ pm_at p 180 = some (.inl (0, .inl lR)) ∧ xget p 170 24 = some (.int xc)) ∧ xV p) := xHE_and (xHE_and (xHE_sub (by decide +kernel) (by decide +kernel) hE) (xHE_and (xHE_iN (by decide)) (xHE_and (xHE_at (i := 10) rfl (by decide)) (xHE_g (by decide))))) (xHE_sub (by decide +kernel) (by decide +kernel) xHEV)
    refine gt_load (v := .int z1) (n := 1) (ykc_290 (e := (2, .iload_n kF1, 0)) rfl) rfl rfl ?_
    refine gt_zge_t (ykc_290 (e := (4, .ifCond .ge 11, 22)) rfl) (by omega) ?_
    refine gt_load (v := .ref 170) (n := 1) (ykc_290 (e := (2, .aload_n kF0, 0)) rfl) rfl rfl ?_
    refine gt_load (v := .ref 170) (n := 1) (ykc_290 (e := (2, .aload_n kF0, 0)) rfl) rfl rfl ?_
    refine gt_gfr (A := 174) (ykc_290 (e := (5, .getfield 41, 0)) rfl) rfl hP2 rfl rfl rfl ?_
    refine gt_cv (n := 1) (as := [.ref 170, .ref 174]) (r := []) (ykc_290 (e := (6, .invokevirtual 417, 0)) rfl) rfl hP2 rfl rfl rfl (xallseen hE5 (fun p h => h.2) hm h0m (by omega) hP2 ⟨⟨g2.1, ht, hat, qc⟩, g2.2⟩) rfl (fun vv ph103 hv => ?_)
    obtain ⟨s1, e9, hP3, g3⟩ := hv; subst e9
    change xGT kK (D' + 1) 290 _ (30, [some (.ref 170), some (.int z1), none, none, none], [.long s1], ph103, 0, 0)
    refine gt_cs (n := 1) (as := [.long s1]) (r := []) (ykc_290 (e := (6, .invokestatic 405, 0)) rfl) rfl rfl rfl rfl (xbits (E := fun p => (E p ∧ xiN p 14 0 ∧ pm_at p 180 = some (.inl (0, .inl lR)) ∧ xget p 170 24 = some (.int xc)) ∧ xV p) hm h0m (by omega) hP3 g3) rfl (fun vv ph104 hv => ?_)
    obtain ⟨s2, e9, hP4, g4⟩ := hv; subst e9
    change xGT kK (D' + 1) 290 _ (33, [some (.ref 170), some (.int z1), none, none, none], [.int s2], ph104, 0, 0)
    refine gt_store (L' := [some (.ref 170), some (.int z1), some (.int s2), none, none]) (st' := []) (n := 1) (ykc_290 (e := (3, .istore_n kF2, 0)) rfl) rfl rfl ?_
    refine gt_load (v := .ref 170) (n := 1) (ykc_290 (e := (2, .aload_n kF0, 0)) rfl) rfl rfl ?_
    refine gt_gfi (ykc_290 (e := (5, .getfield 248, 0)) rfl) rfl hP4 rfl rfl (fun codeLong f_codeLong f0_codeLong f1_codeLong => ?_)
    refine gt_store (L' := [some (.ref 170), some (.int z1), some (.int s2), some (.int codeLong), none]) (st' := []) (n := 1) (ykc_290 (e := (3, .istore_n kF3, 0)) rfl) rfl rfl ?_
    refine gt_alu (st' := [.int (Int32.ofInt 0)]) (ykc_290 (e := (0, .iconst 0, 0)) rfl) rfl rfl ?_
    refine gt_store (L' := [some (.ref 170), some (.int z1), some (.int s2), some (.int codeLong), some (.int (Int32.ofInt 0))]) (st' := []) (n := 2) (ykc_290 (e := (3, .istore 4, 0)) rfl) rfl rfl ?_
    obtain ⟨⟨h1, h2, h3, h4⟩, l0, n0, v1, v2, v3, v4⟩ := id g4
    have ey := xget_int f_codeLong v2
    obtain ⟨lW, hW, hlW, -⟩ := xA_at (A := 197) hP4 rfl rfl
    obtain ⟨l9, hl9, hl9l, -⟩ := xA_at (A := 179) hP4 rfl rfl
    rw [v1] at hl9
    cases hl9
    have hy : codeLong.toInt = (n0 : Int) := by rw [ey, Int32.toInt_ofNat_of_lt (by omega)]
    have hEL : xHE xX xgA_LW xgF_G8 (fun p => (E p ∧ xiN p 14 0) ∧ pm_at p 180 = some (.inl (0, .inl lR)) ∧ xget p 170 24 = some (.int xc)) := xHE_and (xHE_and (xHE_sub (by decide +kernel) (by decide +kernel) hE) (xHE_iN (by decide))) (xHE_and (xHE_at (i := 10) rfl (by decide)) (xHE_g (by decide)))
    exact xlw_loop hEL (by decide) xl27 v3 hl9l hy (fun ph' l' x a1 a2 a3 a4 a5 a6 a7 => xlw_71 hE6 hm h0m (by omega) (fun r p b1 b2 b3 => ⟨r, rfl, b1, b2.1, b3, b2.2⟩) a1 a2.1 a2.2.2 ec hc a2.2.1 hlen (hvc (by omega)) a5 a6 (by rw [a7]; exact v4) v3 hy) (n0 + 1) 0 _ lW _ (by omega) (by omega) (by decide) hP4 ⟨⟨h1, h2⟩, h3, h4⟩ f_codeLong hW hlW v1 (by rw [List.take_zero, List.take_zero])

/-! undo, again, putsBy of the reference, by hand, printed by wip/x/h_undo.py -/
set_option maxRecDepth 6000 in
theorem x41 : ((Int8.ofInt 41).toInt32).toInt = 41 := by decide
set_option maxRecDepth 6000 in
theorem xmod_eq {m : Int} {w p a b : Nat} {v : Int} {sg : List (Nat × xe)} (h : xeG m w v (xat sg (a % p))) (e : a % p = b % p) : xeG m w v (xat sg (b % p)) := e ▸ h
def xgA_VR : List Nat := [9, 6, 3, 23, 24, 45, 49, 50, 54, 47, 62, 65, 66, 33, 34, 35, 36, 37, 39, 40, 41, 42, 43, 105, 106, 107, 108, 109, 111, 112, 113, 114, 115, 117, 118, 119, 120, 121, 78, 83, 59, 60, 51, 52, 7]
def xgF_VR : List (Nat × Nat) := (0, 14) :: [(0, 23), (44, 1), (0, 8), (31, 13), (31, 14), (32, 0), (32, 1), (32, 2), (32, 3), (32, 4), (32, 5), (32, 6), (32, 7), (38, 0), (38, 1), (38, 2), (38, 3), (38, 4), (38, 5), (38, 6), (38, 7), (46, 1), (48, 0), (48, 1), (48, 2), (48, 3), (48, 4), (53, 4), (58, 0), (58, 1), (58, 2), (58, 3), (58, 4), (61, 2), (64, 2), (77, 1), (77, 3), (77, 5), (77, 6), (77, 7), (82, 1), (82, 3), (82, 5), (82, 6), (82, 7), (104, 0), (104, 1), (104, 2), (104, 3), (104, 4), (104, 5), (104, 6), (104, 7), (110, 0), (110, 1), (110, 2), (110, 3), (110, 4), (110, 5), (110, 6), (110, 7), (116, 0), (116, 1), (116, 2), (116, 3), (116, 4), (116, 5), (116, 6), (116, 7), (53, 1), (53, 2), (63, 2), (63, 3), (0, 3), (0, 4), (0, 5), (0, 6), (0, 39)]
set_option maxRecDepth 6000 in
theorem xHEVR : xHE xX xgA_VR xgF_VR xV := xHE_sub (by decide +kernel) (by decide +kernel) xHEV
set_option maxRecDepth 6000 in
theorem xINV_27 {n : Nat} {ph ph' : pm_H} {y : Int32} (h : xINV n ph) (u : xu1 ph ph' 170 27 (.int y)) (hy : ∀ U : Int32, xget ph 170 27 = some (.int U) → ∀ k : Nat, (k : Int) < y.toInt → (k : Int) < U.toInt) : xINV n ph' := by
  obtain ⟨W, P, T, U, C, ⟨f1, f2, f3, f4, f5⟩, ⟨b1, b2, b3, b4⟩, g1, g2, g3⟩ := h
  have hf : ∀ k, k ≠ 27 → xget ph' 170 k = xget ph 170 k := fun k hk => u.2.1 170 k (fun q => hk q.2)
  have ha : ∀ a, a ≠ 170 → pm_at ph' a = pm_at ph a := u.2.2
  refine ⟨W, P, T, y, C, ⟨(hf 4 (by decide)).trans f1, (hf 5 (by decide)).trans f2, (hf 6 (by decide)).trans f3, u.1, (hf 7 (by decide)).trans f5⟩, ⟨b1, b2, b3, b4⟩, xgr_eq b1 b2 (fun k _ => xget_at (ha 174 (by decide)) _) g1, fun k hk => xgr_eq b1 b2 (fun c _ => xget_at (ha 183 (by decide)) _) (g2 k (hy U f4 k hk)), fun i hi z hz hz0 => ?_⟩
  obtain ⟨K, k1, k2, k3⟩ := g3 i hi z (xgb_eq (ha 198 (by decide)) hz) hz0
  exact ⟨K, (xget_at (ha 199 (by decide)) i).trans k1, k2, fun e => xgr_eq b1 b2 (fun c _ => xget_at (ha 200 (by decide)) _) (k3 e)⟩
def xrowG (ph : pm_H) (a off : Nat) : Prop := ∀ W P T : Int32, xget ph 170 4 = some (.int W) → xget ph 170 5 = some (.int P) → xget ph 170 6 = some (.int T) → P.toInt ≤ 8 → T.toInt ≤ 8 → xgr ph W P T a off
set_option maxRecDepth 6000 in
theorem xINV_now {n sA sO : Nat} {ph ph' : pm_H} (h : xINV n ph) (c : xcp ph ph' 174 0 sA sO 41) (hg : xrowG ph sA sO) : xINV n ph' := by
  obtain ⟨W, P, T, U, C, ⟨f1, f2, f3, f4, f5⟩, ⟨b1, b2, b3, b4⟩, g1, g2, g3⟩ := h
  have hf : ∀ k, xget ph' 170 k = xget ph 170 k := fun k => c.2.1 170 k (fun q => absurd q.1 (by decide))
  have ha : ∀ a, a ≠ 174 → pm_at ph' a = pm_at ph a := c.2.2
  refine ⟨W, P, T, U, C, ⟨(hf 4).trans f1, (hf 5).trans f2, (hf 6).trans f3, (hf 27).trans f4, (hf 7).trans f5⟩, ⟨b1, b2, b3, b4⟩, xgr_cp b1 b2 c.1 (hg W P T f1 f2 f3 b1 b2), fun k hk => xgr_eq b1 b2 (fun c _ => xget_at (ha 183 (by decide)) _) (g2 k hk), fun i hi z hz hz0 => ?_⟩
  obtain ⟨K, k1, k2, k3⟩ := g3 i hi z (xgb_eq (ha 198 (by decide)) hz) hz0
  exact ⟨K, (xget_at (ha 199 (by decide)) i).trans k1, k2, fun e => xgr_eq b1 b2 (fun c _ => xget_at (ha 200 (by decide)) _) (k3 e)⟩
set_option maxRecDepth 6000 in
theorem xINV_row {n u : Nat} {ph : pm_H} {U : Int32} (h : xINV n ph) (q : xget ph 170 27 = some (.int U)) (hu : (u : Int) < U.toInt) : xrowG ph 183 (41 * u) := by
  obtain ⟨W, P, T, U2, C, ⟨f1, f2, f3, f4, f5⟩, -, -, g2, -⟩ := h
  intro W2 P2 T2 h1 h2 h3 _ _
  have e1 := xget_int f1 h1
  have e2 := xget_int f2 h2
  have e3 := xget_int f3 h3
  have e4 := xget_int f4 q
  subst e1 e2 e3 e4
  exact g2 u hu
set_option maxRecDepth 6000 in
theorem xINV_kept {n i : Nat} {ph : pm_H} {y K C : Int32} (h : xINV n ph) (hi : i < 3) (hy : xgb ph 198 i y) (hy0 : y.toInt ≠ 0) (hK : xget ph 199 i = some (.int K)) (hC : xget ph 170 7 = some (.int C)) (e : K.toInt = C.toInt) : xrowG ph 200 (41 * i) := by
  obtain ⟨W, P, T, U, C2, ⟨f1, f2, f3, f4, f5⟩, -, -, -, g3⟩ := h
  intro W2 P2 T2 h1 h2 h3 _ _
  have e1 := xget_int f1 h1
  have e2 := xget_int f2 h2
  have e3 := xget_int f3 h3
  have e4 := xget_int f5 hC
  subst e1 e2 e3 e4
  obtain ⟨K2, k1, -, k3⟩ := g3 i hi y hy hy0
  have e5 := xget_int k1 hK
  subst e5
  exact k3 e
set_option maxRecDepth 6000 in
theorem xrowG_eq {ph ph' : pm_H} {a off : Nat} (ha : ∀ c, xget ph' a c = xget ph a c) (hf : ∀ k, k < 7 → xget ph' 170 k = xget ph 170 k) (g : xrowG ph a off) : xrowG ph' a off := fun W P T h1 h2 h3 b1 b2 => xgr_eq b1 b2 (fun _ _ => ha _) (g W P T ((hf 4 (by decide)).symm.trans h1) ((hf 5 (by decide)).symm.trans h2) ((hf 6 (by decide)).symm.trans h3) b1 b2)

set_option maxRecDepth 6000 in
theorem xcl_undo {E : pm_H → Prop} {gA : List Nat} {gF : List (Nat × Nat)} (hE : xHE xX gA gF E) (hgA : xmemN gA 4 = false) (hgF : ∀ k, xmemP gF 4 k = false) {m : Int} {w D : Nat} {Q : Option Value → pm_H → Prop} {y : Int32} {u : Nat} (hu : u ≤ 15) (hy : y.toInt = (u : Int)) {ph0 : pm_H} (q27 : xget ph0 170 27 = some (.int y)) (hQ : ∀ (ph' : pm_H) (x : Int32), xH xX kK m w ph' → E ph' → xcp ph0 ph' 174 0 183 (41 * u) 41 → xGT kK D 241 Q (58, [some (.ref 170), some (.int x)], [], ph', 0, 0)) : ∀ (s i : Nat) (x : Int32) (ph : pm_H), 41 - i < s → i ≤ 41 → x.toInt = (i : Int) → xH xX kK m w ph → E ph → xcp ph0 ph 174 0 183 (41 * u) i → xGT kK D 241 Q (26, [some (.ref 170), some (.int x)], [], ph, 0, 0) := by
  intro s
  induction s with
  | zero => intro i x ph h; omega
  | succ s ih =>
    intro i x ph hs hi hx hP g9 hc
    have qk : xget ph 170 27 = some (.int y) := (hc.2.1 170 27 (fun q => absurd q.1 (by decide))).trans q27
    by_cases hin : i = 41
    · subst hin
      refine gt_load (v := .int x) (n := 1) (ykc_241 (e := (2, .iload_n kF1, 0)) rfl) rfl rfl ?_
      refine gt_push (v := .int ((Int8.ofInt 41).toInt32)) (n := 2) (ykc_241 (e := (1, .bipush 41, 0)) rfl) rfl rfl ?_
      refine gt_ige_t (ykc_241 (e := (4, .if_icmp .ge 29, 58)) rfl) (by rw [x41]; omega) ?_
      exact hQ ph x hP g9 hc
    · have hi2 : i < 41 := by omega
      refine gt_load (v := .int x) (n := 1) (ykc_241 (e := (2, .iload_n kF1, 0)) rfl) rfl rfl ?_
      refine gt_push (v := .int ((Int8.ofInt 41).toInt32)) (n := 2) (ykc_241 (e := (1, .bipush 41, 0)) rfl) rfl rfl ?_
      refine gt_ige_f (ykc_241 (e := (4, .if_icmp .ge 29, 58)) rfl) (by rw [x41]; omega) rfl ?_
      refine gt_load (v := .ref 170) (n := 1) (ykc_241 (e := (2, .aload_n kF0, 0)) rfl) rfl rfl ?_
      refine gt_gfr (A := 174) (ykc_241 (e := (5, .getfield 41, 0)) rfl) rfl hP rfl rfl rfl ?_
      refine gt_load (v := .int x) (n := 1) (ykc_241 (e := (2, .iload_n kF1, 0)) rfl) rfl rfl ?_
      refine gt_load (v := .ref 170) (n := 1) (ykc_241 (e := (2, .aload_n kF0, 0)) rfl) rfl rfl ?_
      refine gt_gfr (A := 183) (ykc_241 (e := (5, .getfield 68, 0)) rfl) rfl hP rfl rfl rfl ?_
      refine gt_push (v := .int ((Int8.ofInt 41).toInt32)) (n := 2) (ykc_241 (e := (1, .bipush 41, 0)) rfl) rfl rfl ?_
      refine gt_load (v := .ref 170) (n := 1) (ykc_241 (e := (2, .aload_n kF0, 0)) rfl) rfl rfl ?_
      refine gt_gfk (v := .int y) (ykc_241 (e := (5, .getfield 188, 0)) rfl) rfl hP qk rfl ?_
      obtain ⟨y1, e_y1, h_y1⟩ : ∃ zq : Int32, ((Int8.ofInt 41).toInt32) * y = zq ∧ zq.toInt = 41 * y.toInt := ⟨_, rfl, by rw [ti_mul (by rw [x41]; omega) (by rw [x41]; omega), x41]⟩
      refine gt_alu (st' := [.int y1, .ref 183, .int x, .ref 174]) (ykc_241 (e := (0, .imul, 0)) rfl) (by rw [← e_y1]; exact rfl) rfl ?_
      refine gt_load (v := .int x) (n := 1) (ykc_241 (e := (2, .iload_n kF1, 0)) rfl) rfl rfl ?_
      obtain ⟨y2, e_y2, h_y2⟩ : ∃ zq : Int32, y1 + x = zq ∧ zq.toInt = 41 * y.toInt + x.toInt := ⟨_, rfl, by rw [ti_add (by rw [h_y1]; omega) (by rw [h_y1]; omega), h_y1]⟩
      refine gt_alu (st' := [.int y2, .ref 183, .int x, .ref 174]) (ykc_241 (e := (0, .iadd, 0)) rfl) (by rw [← e_y2]; exact rfl) rfl ?_
      refine gt_ial (A := 183) (ykc_241 (e := (5, .iaload, 0)) rfl) hP rfl rfl (by omega) (by omega) rfl (fun e0 g_e0 b_e0 => ?_)
      refine gt_ias (A := 174) (y := e0) (x := x) (ykc_241 (e := (5, .iastore, 0)) rfl) hP rfl rfl (by omega) (by omega) (xmod_eq b_e0 (by omega)) rfl (fun ph101 hP101 u101 => ?_)
      have f101_27 : xget ph101 170 27 = some (.int y) := (u101.2.1 170 27 (fun q => absurd q.1 (by decide))).trans qk
      obtain ⟨x1, e_x1, h_x1⟩ : ∃ zq : Int32, x + Int32.ofInt 1 = zq ∧ zq.toInt = x.toInt + 1 := ⟨_, rfl, by rw [ti_add (by rw [xi1]; omega) (by rw [xi1]; omega), xi1]⟩
      refine gt_store (L' := [some (.ref 170), some (.int x1)]) (st' := []) (n := 3) (ykc_241 (e := (3, .iinc 1 1, 0)) rfl) (by rw [← e_x1]; rfl) rfl ?_
      refine gt_br (pc' := 26) (st' := []) (ykc_241 (e := (4, .goto (-29), 26)) rfl) rfl ?_
      have es : y2.toInt.toNat = (41 * u) + i := by omega
      have ed : x.toInt.toNat = 0 + i := by omega
      have w1 : xget ph 183 ((41 * u) + i) = some (.int e0) := by rw [← es]; exact g_e0
      have w2 := u101
      rw [ed] at w2
      exact ih (i + 1) x1 _ (by omega) (by omega) (by omega) hP101 (xu1_E hE w2 (i := 4) rfl hgA (hgF _) g9) (xcp_s hc (by decide) w1 w2)

set_option maxRecDepth 6000 in
theorem xcl_again {E : pm_H → Prop} {gA : List Nat} {gF : List (Nat × Nat)} (hE : xHE xX gA gF E) (hgA : xmemN gA 4 = false) (hgF : ∀ k, xmemP gF 4 k = false) {m : Int} {w D : Nat} {Q : Option Value → pm_H → Prop} {y : Int32} {u : Nat} (hu : u ≤ 2) (hy : y.toInt = (u : Int)) {ph0 : pm_H} (hQ : ∀ (ph' : pm_H) (x : Int32), xH xX kK m w ph' → E ph' → xcp ph0 ph' 174 0 200 (41 * u) 41 → xGT kK D 297 Q (72, [some (.ref 170), some (.int y), some (.int x)], [], ph', 0, 0)) : ∀ (s i : Nat) (x : Int32) (ph : pm_H), 41 - i < s → i ≤ 41 → x.toInt = (i : Int) → xH xX kK m w ph → E ph → xcp ph0 ph 174 0 200 (41 * u) i → xGT kK D 297 Q (43, [some (.ref 170), some (.int y), some (.int x)], [], ph, 0, 0) := by
  intro s
  induction s with
  | zero => intro i x ph h; omega
  | succ s ih =>
    intro i x ph hs hi hx hP g9 hc
    by_cases hin : i = 41
    · subst hin
      refine gt_load (v := .int x) (n := 1) (ykc_297 (e := (2, .iload_n kF2, 0)) rfl) rfl rfl ?_
      refine gt_push (v := .int ((Int8.ofInt 41).toInt32)) (n := 2) (ykc_297 (e := (1, .bipush 41, 0)) rfl) rfl rfl ?_
      refine gt_ige_t (ykc_297 (e := (4, .if_icmp .ge 26, 72)) rfl) (by rw [x41]; omega) ?_
      exact hQ ph x hP g9 hc
    · have hi2 : i < 41 := by omega
      refine gt_load (v := .int x) (n := 1) (ykc_297 (e := (2, .iload_n kF2, 0)) rfl) rfl rfl ?_
      refine gt_push (v := .int ((Int8.ofInt 41).toInt32)) (n := 2) (ykc_297 (e := (1, .bipush 41, 0)) rfl) rfl rfl ?_
      refine gt_ige_f (ykc_297 (e := (4, .if_icmp .ge 26, 72)) rfl) (by rw [x41]; omega) rfl ?_
      refine gt_load (v := .ref 170) (n := 1) (ykc_297 (e := (2, .aload_n kF0, 0)) rfl) rfl rfl ?_
      refine gt_gfr (A := 174) (ykc_297 (e := (5, .getfield 41, 0)) rfl) rfl hP rfl rfl rfl ?_
      refine gt_load (v := .int x) (n := 1) (ykc_297 (e := (2, .iload_n kF2, 0)) rfl) rfl rfl ?_
      refine gt_load (v := .ref 170) (n := 1) (ykc_297 (e := (2, .aload_n kF0, 0)) rfl) rfl rfl ?_
      refine gt_gfr (A := 200) (ykc_297 (e := (5, .getfield 119, 0)) rfl) rfl hP rfl rfl rfl ?_
      refine gt_push (v := .int ((Int8.ofInt 41).toInt32)) (n := 2) (ykc_297 (e := (1, .bipush 41, 0)) rfl) rfl rfl ?_
      refine gt_load (v := .int y) (n := 1) (ykc_297 (e := (2, .iload_n kF1, 0)) rfl) rfl rfl ?_
      obtain ⟨y1, e_y1, h_y1⟩ : ∃ zq : Int32, ((Int8.ofInt 41).toInt32) * y = zq ∧ zq.toInt = 41 * y.toInt := ⟨_, rfl, by rw [ti_mul (by rw [x41]; omega) (by rw [x41]; omega), x41]⟩
      refine gt_alu (st' := [.int y1, .ref 200, .int x, .ref 174]) (ykc_297 (e := (0, .imul, 0)) rfl) (by rw [← e_y1]; exact rfl) rfl ?_
      refine gt_load (v := .int x) (n := 1) (ykc_297 (e := (2, .iload_n kF2, 0)) rfl) rfl rfl ?_
      obtain ⟨y2, e_y2, h_y2⟩ : ∃ zq : Int32, y1 + x = zq ∧ zq.toInt = 41 * y.toInt + x.toInt := ⟨_, rfl, by rw [ti_add (by rw [h_y1]; omega) (by rw [h_y1]; omega), h_y1]⟩
      refine gt_alu (st' := [.int y2, .ref 200, .int x, .ref 174]) (ykc_297 (e := (0, .iadd, 0)) rfl) (by rw [← e_y2]; exact rfl) rfl ?_
      refine gt_ial (A := 200) (ykc_297 (e := (5, .iaload, 0)) rfl) hP rfl rfl (by omega) (by omega) rfl (fun e0 g_e0 b_e0 => ?_)
      refine gt_ias (A := 174) (y := e0) (x := x) (ykc_297 (e := (5, .iastore, 0)) rfl) hP rfl rfl (by omega) (by omega) (xmod_eq b_e0 (by omega)) rfl (fun ph101 hP101 u101 => ?_)
      obtain ⟨x1, e_x1, h_x1⟩ : ∃ zq : Int32, x + Int32.ofInt 1 = zq ∧ zq.toInt = x.toInt + 1 := ⟨_, rfl, by rw [ti_add (by rw [xi1]; omega) (by rw [xi1]; omega), xi1]⟩
      refine gt_store (L' := [some (.ref 170), some (.int y), some (.int x1)]) (st' := []) (n := 3) (ykc_297 (e := (3, .iinc 2 1, 0)) rfl) (by rw [← e_x1]; rfl) rfl ?_
      refine gt_br (pc' := 43) (st' := []) (ykc_297 (e := (4, .goto (-26), 43)) rfl) rfl ?_
      have es : y2.toInt.toNat = (41 * u) + i := by omega
      have ed : x.toInt.toNat = 0 + i := by omega
      have w1 : xget ph 200 ((41 * u) + i) = some (.int e0) := by rw [← es]; exact g_e0
      have w2 := u101
      rw [ed] at w2
      exact ih (i + 1) x1 _ (by omega) (by omega) (by omega) hP101 (xu1_E hE w2 (i := 4) rfl hgA (hgF _) g9) (xcp_s hc (by decide) w1 w2)

set_option maxRecDepth 6000 in
theorem xcl_puts {E : pm_H → Prop} {gA : List Nat} {gF : List (Nat × Nat)} (hE : xHE xX gA gF E) (hgA : xmemN gA 13 = false) (hgF : ∀ k, xmemP gF 13 k = false) {m : Int} {w D : Nat} {Q : Option Value → pm_H → Prop} {y : Int32} {u : Nat} (hu : u ≤ 15) (hy : y.toInt = (u : Int)) {ph0 : pm_H} (q27 : xget ph0 170 27 = some (.int y)) (hQ : ∀ (ph' : pm_H) (x : Int32), xH xX kK m w ph' → E ph' → xcp ph0 ph' 183 (41 * u) 174 0 41 → xGT kK D 238 Q (34, [some (.ref 170), some (.int x)], [], ph', 0, 0)) : ∀ (s i : Nat) (x : Int32) (ph : pm_H), 41 - i < s → i ≤ 41 → x.toInt = (i : Int) → xH xX kK m w ph → E ph → xcp ph0 ph 183 (41 * u) 174 0 i → xGT kK D 238 Q (2, [some (.ref 170), some (.int x)], [], ph, 0, 0) := by
  intro s
  induction s with
  | zero => intro i x ph h; omega
  | succ s ih =>
    intro i x ph hs hi hx hP g9 hc
    have qk : xget ph 170 27 = some (.int y) := (hc.2.1 170 27 (fun q => absurd q.1 (by decide))).trans q27
    by_cases hin : i = 41
    · subst hin
      refine gt_load (v := .int x) (n := 1) (ykc_238 (e := (2, .iload_n kF1, 0)) rfl) rfl rfl ?_
      refine gt_push (v := .int ((Int8.ofInt 41).toInt32)) (n := 2) (ykc_238 (e := (1, .bipush 41, 0)) rfl) rfl rfl ?_
      refine gt_ige_t (ykc_238 (e := (4, .if_icmp .ge 29, 34)) rfl) (by rw [x41]; omega) ?_
      exact hQ ph x hP g9 hc
    · have hi2 : i < 41 := by omega
      refine gt_load (v := .int x) (n := 1) (ykc_238 (e := (2, .iload_n kF1, 0)) rfl) rfl rfl ?_
      refine gt_push (v := .int ((Int8.ofInt 41).toInt32)) (n := 2) (ykc_238 (e := (1, .bipush 41, 0)) rfl) rfl rfl ?_
      refine gt_ige_f (ykc_238 (e := (4, .if_icmp .ge 29, 34)) rfl) (by rw [x41]; omega) rfl ?_
      refine gt_load (v := .ref 170) (n := 1) (ykc_238 (e := (2, .aload_n kF0, 0)) rfl) rfl rfl ?_
      refine gt_gfr (A := 183) (ykc_238 (e := (5, .getfield 68, 0)) rfl) rfl hP rfl rfl rfl ?_
      refine gt_push (v := .int ((Int8.ofInt 41).toInt32)) (n := 2) (ykc_238 (e := (1, .bipush 41, 0)) rfl) rfl rfl ?_
      refine gt_load (v := .ref 170) (n := 1) (ykc_238 (e := (2, .aload_n kF0, 0)) rfl) rfl rfl ?_
      refine gt_gfk (v := .int y) (ykc_238 (e := (5, .getfield 188, 0)) rfl) rfl hP qk rfl ?_
      obtain ⟨y1, e_y1, h_y1⟩ : ∃ zq : Int32, ((Int8.ofInt 41).toInt32) * y = zq ∧ zq.toInt = 41 * y.toInt := ⟨_, rfl, by rw [ti_mul (by rw [x41]; omega) (by rw [x41]; omega), x41]⟩
      refine gt_alu (st' := [.int y1, .ref 183]) (ykc_238 (e := (0, .imul, 0)) rfl) (by rw [← e_y1]; exact rfl) rfl ?_
      refine gt_load (v := .int x) (n := 1) (ykc_238 (e := (2, .iload_n kF1, 0)) rfl) rfl rfl ?_
      obtain ⟨y2, e_y2, h_y2⟩ : ∃ zq : Int32, y1 + x = zq ∧ zq.toInt = 41 * y.toInt + x.toInt := ⟨_, rfl, by rw [ti_add (by rw [h_y1]; omega) (by rw [h_y1]; omega), h_y1]⟩
      refine gt_alu (st' := [.int y2, .ref 183]) (ykc_238 (e := (0, .iadd, 0)) rfl) (by rw [← e_y2]; exact rfl) rfl ?_
      refine gt_load (v := .ref 170) (n := 1) (ykc_238 (e := (2, .aload_n kF0, 0)) rfl) rfl rfl ?_
      refine gt_gfr (A := 174) (ykc_238 (e := (5, .getfield 41, 0)) rfl) rfl hP rfl rfl rfl ?_
      refine gt_load (v := .int x) (n := 1) (ykc_238 (e := (2, .iload_n kF1, 0)) rfl) rfl rfl ?_
      refine gt_ial (A := 174) (ykc_238 (e := (5, .iaload, 0)) rfl) hP rfl rfl (by omega) (by omega) rfl (fun e0 g_e0 b_e0 => ?_)
      refine gt_ias (A := 183) (y := e0) (x := y2) (ykc_238 (e := (5, .iastore, 0)) rfl) hP rfl rfl (by omega) (by omega) (xmod_eq b_e0 (by omega)) rfl (fun ph101 hP101 u101 => ?_)
      have f101_27 : xget ph101 170 27 = some (.int y) := (u101.2.1 170 27 (fun q => absurd q.1 (by decide))).trans qk
      obtain ⟨x1, e_x1, h_x1⟩ : ∃ zq : Int32, x + Int32.ofInt 1 = zq ∧ zq.toInt = x.toInt + 1 := ⟨_, rfl, by rw [ti_add (by rw [xi1]; omega) (by rw [xi1]; omega), xi1]⟩
      refine gt_store (L' := [some (.ref 170), some (.int x1)]) (st' := []) (n := 3) (ykc_238 (e := (3, .iinc 1 1, 0)) rfl) (by rw [← e_x1]; rfl) rfl ?_
      refine gt_br (pc' := 2) (st' := []) (ykc_238 (e := (4, .goto (-29), 2)) rfl) rfl ?_
      have es : x.toInt.toNat = 0 + i := by omega
      have ed : y2.toInt.toNat = (41 * u) + i := by omega
      have w1 : xget ph 174 (0 + i) = some (.int e0) := by rw [← es]; exact g_e0
      have w2 := u101
      rw [ed] at w2
      exact ih (i + 1) x1 _ (by omega) (by omega) (by omega) hP101 (xu1_E hE w2 (i := 13) rfl hgA (hgF _) g9) (xcp_s hc (by decide) w1 w2)

set_option maxRecDepth 6000 in
theorem xundo {R : pm_H → Prop} (hR : xHE xX xgA_VR xgF_VR R) {m : Int} (hm : m ≤ 2147483646) (h0m : (0 : Int) ≤ m) {D n : Nat} {ph : pm_H} (hP : xH xX kK m 0 ph) (hV : xV ph) (hI : xINV n ph) (hr : R ph) : ∃ v ph', pm_Rd kK false (D + 1) 241 [.ref 170] ph (v, ph', 0, 0) ∧ (∃ r : Int32, v = some (.int r) ∧ xH xX kK m 0 ph' ∧ xV ph' ∧ xINV n ph' ∧ R ph') := by
  have hE : xHE xX xgA_VR xgF_VR (fun p => xV p ∧ R p) := xHE_and xHEVR hR
  refine xRd_mk (nl := 2) rfl rfl ?_
  show xGT kK D 241 _ (0, [some (.ref 170), none], [], ph, 0, 0)
  refine gt_load (v := .ref 170) (n := 1) (ykc_241 (e := (2, .aload_n kF0, 0)) rfl) rfl rfl ?_
  refine gt_alu (st' := [.int (Int32.ofInt 0), .ref 170]) (ykc_241 (e := (0, .iconst 0, 0)) rfl) rfl rfl ?_
  refine gt_pf (y := Int32.ofInt 0) (ykc_241 (e := (5, .putfield 3, 0)) rfl) rfl hP rfl rfl (by decide) (by decide) rfl (fun ph1 hP1 u1 => ?_)
  refine gt_load (v := .ref 170) (n := 1) (ykc_241 (e := (2, .aload_n kF0, 0)) rfl) rfl rfl ?_
  refine gt_gfi (ykc_241 (e := (5, .getfield 188, 0)) rfl) rfl hP1 rfl rfl (fun undos f_undos f0_undos f1_undos => ?_)
  have g1 : xV ph1 ∧ R ph1 := xu1_E hE u1 rfl rfl rfl ⟨hV, hr⟩
  have i1 : xINV n ph1 := xu1_E (xHEI n) u1 rfl rfl rfl hI
  have hu0 : 0 ≤ undos.toInt := f0_undos
  have hu1 : undos.toInt ≤ 15 := f1_undos
  by_cases hz : undos.toInt = 0
  · refine gt_zne_f (ykc_241 (e := (4, .ifCond .ne 5, 14)) rfl) hz rfl ?_
    refine gt_alu (st' := [.int (Int32.ofInt (-1))]) (ykc_241 (e := (0, .iconst (-1), 0)) rfl) rfl rfl ?_
    refine gt_ret (ykc_241 (e := (7, .ireturn, 0)) rfl) rfl ?_
    exact ⟨_, rfl, hP1, g1.1, i1, g1.2⟩
  · refine gt_zne_t (ykc_241 (e := (4, .ifCond .ne 5, 14)) rfl) hz ?_
    refine gt_load (v := .ref 170) (n := 1) (ykc_241 (e := (2, .aload_n kF0, 0)) rfl) rfl rfl ?_
    refine gt_alu (st' := [.ref 170, .ref 170]) (ykc_241 (e := (0, .dup, 0)) rfl) rfl rfl ?_
    refine gt_gfk (v := .int undos) (ykc_241 (e := (5, .getfield 188, 0)) rfl) rfl hP1 f_undos rfl ?_
    refine gt_alu (st' := [.int (Int32.ofInt 1), .int undos, .ref 170]) (ykc_241 (e := (0, .iconst 1, 0)) rfl) rfl rfl ?_
    obtain ⟨y1, e_y1, h_y1⟩ : ∃ zq : Int32, undos - (Int32.ofInt 1) = zq ∧ zq.toInt = undos.toInt - 1 := ⟨_, rfl, by rw [ti_sub (by rw [xi1]; omega) (by rw [xi1]; omega), xi1]⟩
    refine gt_alu (st' := [.int y1, .ref 170]) (ykc_241 (e := (0, .isub, 0)) rfl) (by rw [← e_y1]; exact rfl) rfl ?_
    refine gt_pf (y := y1) (ykc_241 (e := (5, .putfield 188, 0)) rfl) rfl hP1 rfl rfl (by show 0 ≤ y1.toInt; omega) (by show y1.toInt ≤ 15; omega) rfl (fun ph102 hP102 u102 => ?_)
    have f102_0 : xget ph102 170 0 = some (.int (Int32.ofInt 0)) := (u102.2.1 170 0 (by decide)).trans u1.1
    refine gt_alu (st' := [.int (Int32.ofInt 0)]) (ykc_241 (e := (0, .iconst 0, 0)) rfl) rfl rfl ?_
    refine gt_store (L' := [some (.ref 170), some (.int (Int32.ofInt 0))]) (st' := []) (n := 1) (ykc_241 (e := (3, .istore_n kF1, 0)) rfl) rfl rfl ?_
    have g2 : xV ph102 ∧ R ph102 := xu1_E hE u102 rfl rfl rfl g1
    have i2 : xINV n ph102 := xINV_27 i1 u102 (fun U q k hk => by
      have e := xget_int q f_undos
      subst e
      omega)
    have r2 : xrowG ph102 183 (41 * y1.toInt.toNat) := xrowG_eq (fun c => u102.2.1 183 c (fun q => absurd q.1 (by decide))) (fun k hk => u102.2.1 170 k (fun q => by omega)) (xINV_row i1 f_undos (by omega))
    refine xcl_undo hE rfl (fun _ => rfl) (u := y1.toInt.toNat) (by omega) (by omega) u102.1 (fun ph' x a1 a2 a3 => ?_) 42 0 _ _ (by omega) (by omega) (by decide) hP102 g2 xcp_0
    have qk : xget ph' 170 27 = some (.int y1) := (a3.2.1 170 27 (fun q => absurd q.1 (by decide))).trans u102.1
    refine gt_load (v := .ref 170) (n := 1) (ykc_241 (e := (2, .aload_n kF0, 0)) rfl) rfl rfl ?_
    refine gt_gfk (v := .int y1) (ykc_241 (e := (5, .getfield 188, 0)) rfl) rfl a1 qk rfl ?_
    refine gt_ret (ykc_241 (e := (7, .ireturn, 0)) rfl) rfl ?_
    exact ⟨y1, rfl, a1, a2.1, xINV_now i2 a3 r2, a2.2⟩

set_option maxRecDepth 6000 in
theorem xputsBy {E : pm_H → Prop} {gA : List Nat} {gF : List (Nat × Nat)} (hE : xHE xX gA gF E) (hgA : xmemN gA 13 = false) (hgF : ∀ k, xmemP gF 13 k = false) {m : Int} {w D u : Nat} {y : Int32} (hu : u ≤ 15) (hy : y.toInt = (u : Int)) {ph : pm_H} (q27 : xget ph 170 27 = some (.int y)) (hP : xH xX kK m w ph) (g9 : E ph) : ∃ v ph', pm_Rd kK false (D + 1) 238 [.ref 170] ph (v, ph', 0, 0) ∧ (v = none ∧ xH xX kK m w ph' ∧ E ph' ∧ xcp ph ph' 183 (41 * u) 174 0 41) := by
  refine xRd_mk (nl := 2) rfl rfl ?_
  show xGT kK D 238 _ (0, [some (.ref 170), none], [], ph, 0, 0)
  refine gt_alu (st' := [.int (Int32.ofInt 0)]) (ykc_238 (e := (0, .iconst 0, 0)) rfl) rfl rfl ?_
  refine gt_store (L' := [some (.ref 170), some (.int (Int32.ofInt 0))]) (st' := []) (n := 1) (ykc_238 (e := (3, .istore_n kF1, 0)) rfl) rfl rfl ?_
  refine xcl_puts hE hgA hgF hu hy q27 (fun ph' x a1 a2 a3 => ?_) 42 0 _ _ (by omega) (by omega) (by decide) hP g9 xcp_0
  refine gt_ret (ykc_238 (e := (7, .return_, 0)) rfl) rfl ?_
  exact ⟨rfl, a1, a2, a3⟩

set_option maxRecDepth 6000 in
theorem xzz (k : Nat) : ¬ (k : Int) < (Int32.ofInt 0).toInt := by
  have h : (Int32.ofInt 0).toInt = 0 := by decide
  omega
set_option maxRecDepth 6000 in
theorem xl0 : (Int64.ofNat kG0).toInt = 0 := by decide
set_option maxRecDepth 6000 in
theorem xl2 : (2 : Int64).toInt = 2 := by decide

set_option maxRecDepth 6000 in
theorem xagain {R : pm_H → Prop} (hR : xHE xX xgA_VR xgF_VR R) {m : Int} (hm : m ≤ 2147483646) (h0m : (0 : Int) ≤ m) {D n : Nat} (hD : 3 ≤ D) {ph : pm_H} {y : Int32} (hP : xH xX kK m 0 ph) (hV : xV ph) (hI : xINV n ph) (hr : R ph) : ∃ v ph', pm_Rd kK false D 297 [.ref 170, .int y] ph (v, ph', 0, 0) ∧ (∃ r : Int32, v = some (.int r) ∧ xH xX kK m 0 ph' ∧ xV ph' ∧ xINV n ph' ∧ R ph') := by
  have hE : xHE xX xgA_VR xgF_VR (fun p => xV p ∧ R p) := xHE_and xHEVR hR
  obtain ⟨D9, rfl⟩ : ∃ D9, D = D9 + 1 + 1 := ⟨D - 2, by omega⟩
  refine xRd_mk (nl := 3) rfl rfl ?_
  show xGT kK (D9 + 1) 297 _ (0, [some (.ref 170), some (.int y), none], [], ph, 0, 0)
  refine gt_load (v := .ref 170) (n := 1) (ykc_297 (e := (2, .aload_n kF0, 0)) rfl) rfl rfl ?_
  refine gt_alu (st' := [.int (Int32.ofInt 0), .ref 170]) (ykc_297 (e := (0, .iconst 0, 0)) rfl) rfl rfl ?_
  refine gt_pf (y := Int32.ofInt 0) (ykc_297 (e := (5, .putfield 3, 0)) rfl) rfl hP rfl rfl (by decide) (by decide) rfl (fun ph1 hP1 u1 => ?_)
  refine gt_load (v := .int y) (n := 1) (ykc_297 (e := (2, .iload_n kF1, 0)) rfl) rfl rfl ?_
  refine gt_alu (st' := [.long y.toInt64]) (ykc_297 (e := (0, .i2l, 0)) rfl) rfl rfl ?_
  refine gt_alu (st' := [.long (Int64.ofNat kG0), .long y.toInt64]) (ykc_297 (e := (0, .lconst kG0, 0)) rfl) rfl rfl ?_
  refine gt_push (v := .long (2 : Int64)) (n := 3) (ykc_297 (e := (1, .ldc2_w 330, 0)) rfl) rfl rfl ?_
  refine gt_cs (n := 3) (as := [.long y.toInt64, .long (Int64.ofNat kG0), .long (2 : Int64)]) (r := []) (ykc_297 (e := (6, .invokestatic 126, 0)) rfl) rfl rfl rfl rfl (xin_run (D := D9)) rfl (fun vv ph2 hv => ?_)
  obtain ⟨z, e9, e8, z_s⟩ := hv; subst e9; have e7 := e8.symm; subst e7; rw [tl_i2l, xl0, xl2] at z_s
  change xGT kK (D9 + 1) 297 _ (14, [some (.ref 170), some (.int y), none], [.int z], ph1, 0, 0)
  have g1 : xV ph1 ∧ R ph1 := xu1_E hE u1 rfl rfl rfl ⟨hV, hr⟩
  have i1 : xINV n ph1 := xu1_E (xHEI n) u1 rfl rfl rfl hI
  by_cases hz : z.toInt = 0
  · refine gt_zeq_t (ykc_297 (e := (4, .ifCond .eq 25, 39)) rfl) hz ?_
    refine gt_alu (st' := [.int (Int32.ofInt 0)]) (ykc_297 (e := (0, .iconst 0, 0)) rfl) rfl rfl ?_
    refine gt_ret (ykc_297 (e := (7, .ireturn, 0)) rfl) (xretz (by decide) (by decide)) ?_
    exact ⟨_, rfl, hP1, g1.1, i1, g1.2⟩
  · refine gt_zeq_f (ykc_297 (e := (4, .ifCond .eq 25, 39)) rfl) hz rfl ?_
    refine gt_load (v := .ref 170) (n := 1) (ykc_297 (e := (2, .aload_n kF0, 0)) rfl) rfl rfl ?_
    refine gt_gfr (A := 198) (ykc_297 (e := (5, .getfield 113, 0)) rfl) rfl hP1 rfl rfl rfl ?_
    refine gt_load (v := .int y) (n := 1) (ykc_297 (e := (2, .iload_n kF1, 0)) rfl) rfl rfl ?_
    refine gt_bal (A := 198) (ykc_297 (e := (5, .baload, 0)) rfl) hP1 rfl rfl (by omega) (by omega) rfl (fun ik g_ik b0_ik b1_ik => ?_)
    by_cases hi : ik.toInt = 0
    · refine gt_zeq_t (ykc_297 (e := (4, .ifCond .eq 16, 39)) rfl) hi ?_
      refine gt_alu (st' := [.int (Int32.ofInt 0)]) (ykc_297 (e := (0, .iconst 0, 0)) rfl) rfl rfl ?_
      refine gt_ret (ykc_297 (e := (7, .ireturn, 0)) rfl) (xretz (by decide) (by decide)) ?_
      exact ⟨_, rfl, hP1, g1.1, i1, g1.2⟩
    · refine gt_zeq_f (ykc_297 (e := (4, .ifCond .eq 16, 39)) rfl) hi rfl ?_
      refine gt_load (v := .ref 170) (n := 1) (ykc_297 (e := (2, .aload_n kF0, 0)) rfl) rfl rfl ?_
      refine gt_gfr (A := 199) (ykc_297 (e := (5, .getfield 116, 0)) rfl) rfl hP1 rfl rfl rfl ?_
      refine gt_load (v := .int y) (n := 1) (ykc_297 (e := (2, .iload_n kF1, 0)) rfl) rfl rfl ?_
      refine gt_ial (A := 199) (ykc_297 (e := (5, .iaload, 0)) rfl) hP1 rfl rfl (by omega) (by omega) rfl (fun kc g_kc b_kc => ?_)
      refine gt_load (v := .ref 170) (n := 1) (ykc_297 (e := (2, .aload_n kF0, 0)) rfl) rfl rfl ?_
      refine gt_gfi (ykc_297 (e := (5, .getfield 191, 0)) rfl) rfl hP1 rfl rfl (fun changes f_changes f0_changes f1_changes => ?_)
      by_cases he : kc.toInt = changes.toInt
      case neg =>
        refine gt_ieq_f (ykc_297 (e := (4, .if_icmp .eq 5, 41)) rfl) he rfl ?_
        refine gt_alu (st' := [.int (Int32.ofInt 0)]) (ykc_297 (e := (0, .iconst 0, 0)) rfl) rfl rfl ?_
        refine gt_ret (ykc_297 (e := (7, .ireturn, 0)) rfl) (xretz (by decide) (by decide)) ?_
        exact ⟨_, rfl, hP1, g1.1, i1, g1.2⟩
      case pos =>
        refine gt_ieq_t (ykc_297 (e := (4, .if_icmp .eq 5, 41)) rfl) he ?_
        refine gt_alu (st' := [.int (Int32.ofInt 0)]) (ykc_297 (e := (0, .iconst 0, 0)) rfl) rfl rfl ?_
        refine gt_store (L' := [some (.ref 170), some (.int y), some (.int (Int32.ofInt 0))]) (st' := []) (n := 1) (ykc_297 (e := (3, .istore_n kF2, 0)) rfl) rfl rfl ?_
        have r2 : xrowG ph1 200 (41 * y.toInt.toNat) := xINV_kept i1 (by omega) g_ik hi g_kc f_changes he
        refine xcl_again hE rfl (fun _ => rfl) (u := y.toInt.toNat) (by omega) (by omega) (fun ph' x a1 a2 a3 => ?_) 42 0 _ _ (by omega) (by omega) (by decide) hP1 g1 xcp_0
        refine gt_load (v := .ref 170) (n := 1) (ykc_297 (e := (2, .aload_n kF0, 0)) rfl) rfl rfl ?_
        refine gt_alu (st' := [.int (Int32.ofInt 0), .ref 170]) (ykc_297 (e := (0, .iconst 0, 0)) rfl) rfl rfl ?_
        refine gt_pf (y := Int32.ofInt 0) (ykc_297 (e := (5, .putfield 188, 0)) rfl) rfl a1 rfl rfl (by decide) (by decide) rfl (fun ph51 hP51 u51 => ?_)
        refine gt_alu (st' := [.int (Int32.ofInt 1)]) (ykc_297 (e := (0, .iconst 1, 0)) rfl) rfl rfl ?_
        refine gt_ret (ykc_297 (e := (7, .ireturn, 0)) rfl) (xretz (by decide) (by decide)) ?_
        have g3 := xu1_E hE u51 rfl rfl rfl a2
        exact ⟨_, rfl, hP51, g3.1, xINV_27 (xINV_now i1 a3 r2) u51 (fun U q k hk => absurd hk (xzz k)), g3.2⟩

set_option maxRecDepth 6000 in
theorem xcl_keep {E : pm_H → Prop} {gA : List Nat} {gF : List (Nat × Nat)} (hE : xHE xX gA gF E) (hgA : xmemN gA 30 = false) (hgF : ∀ k, xmemP gF 30 k = false) {m : Int} {w D : Nat} {Q : Option Value → pm_H → Prop} {y : Int32} {u : Nat} (hu : u ≤ 2) (hy : y.toInt = (u : Int)) {ph0 : pm_H} (hQ : ∀ (ph' : pm_H) (x : Int32), xH xX kK m w ph' → E ph' → xcp ph0 ph' 200 (41 * u) 174 0 41 → xGT kK D 296 Q (67, [some (.ref 170), some (.int y), some (.int x)], [], ph', 0, 0)) : ∀ (s i : Nat) (x : Int32) (ph : pm_H), 41 - i < s → i ≤ 41 → x.toInt = (i : Int) → xH xX kK m w ph → E ph → xcp ph0 ph 200 (41 * u) 174 0 i → xGT kK D 296 Q (38, [some (.ref 170), some (.int y), some (.int x)], [], ph, 0, 0) := by
  intro s
  induction s with
  | zero => intro i x ph h; omega
  | succ s ih =>
    intro i x ph hs hi hx hP g9 hc
    by_cases hin : i = 41
    · subst hin
      refine gt_load (v := .int x) (n := 1) (ykc_296 (e := (2, .iload_n kF2, 0)) rfl) rfl rfl ?_
      refine gt_push (v := .int ((Int8.ofInt 41).toInt32)) (n := 2) (ykc_296 (e := (1, .bipush 41, 0)) rfl) rfl rfl ?_
      refine gt_ige_t (ykc_296 (e := (4, .if_icmp .ge 26, 67)) rfl) (by rw [x41]; omega) ?_
      exact hQ ph x hP g9 hc
    · have hi2 : i < 41 := by omega
      refine gt_load (v := .int x) (n := 1) (ykc_296 (e := (2, .iload_n kF2, 0)) rfl) rfl rfl ?_
      refine gt_push (v := .int ((Int8.ofInt 41).toInt32)) (n := 2) (ykc_296 (e := (1, .bipush 41, 0)) rfl) rfl rfl ?_
      refine gt_ige_f (ykc_296 (e := (4, .if_icmp .ge 26, 67)) rfl) (by rw [x41]; omega) rfl ?_
      refine gt_load (v := .ref 170) (n := 1) (ykc_296 (e := (2, .aload_n kF0, 0)) rfl) rfl rfl ?_
      refine gt_gfr (A := 200) (ykc_296 (e := (5, .getfield 119, 0)) rfl) rfl hP rfl rfl rfl ?_
      refine gt_push (v := .int ((Int8.ofInt 41).toInt32)) (n := 2) (ykc_296 (e := (1, .bipush 41, 0)) rfl) rfl rfl ?_
      refine gt_load (v := .int y) (n := 1) (ykc_296 (e := (2, .iload_n kF1, 0)) rfl) rfl rfl ?_
      obtain ⟨y1, e_y1, h_y1⟩ : ∃ zq : Int32, ((Int8.ofInt 41).toInt32) * y = zq ∧ zq.toInt = 41 * y.toInt := ⟨_, rfl, by rw [ti_mul (by rw [x41]; omega) (by rw [x41]; omega), x41]⟩
      refine gt_alu (st' := [.int y1, .ref 200]) (ykc_296 (e := (0, .imul, 0)) rfl) (by rw [← e_y1]; exact rfl) rfl ?_
      refine gt_load (v := .int x) (n := 1) (ykc_296 (e := (2, .iload_n kF2, 0)) rfl) rfl rfl ?_
      obtain ⟨y2, e_y2, h_y2⟩ : ∃ zq : Int32, y1 + x = zq ∧ zq.toInt = 41 * y.toInt + x.toInt := ⟨_, rfl, by rw [ti_add (by rw [h_y1]; omega) (by rw [h_y1]; omega), h_y1]⟩
      refine gt_alu (st' := [.int y2, .ref 200]) (ykc_296 (e := (0, .iadd, 0)) rfl) (by rw [← e_y2]; exact rfl) rfl ?_
      refine gt_load (v := .ref 170) (n := 1) (ykc_296 (e := (2, .aload_n kF0, 0)) rfl) rfl rfl ?_
      refine gt_gfr (A := 174) (ykc_296 (e := (5, .getfield 41, 0)) rfl) rfl hP rfl rfl rfl ?_
      refine gt_load (v := .int x) (n := 1) (ykc_296 (e := (2, .iload_n kF2, 0)) rfl) rfl rfl ?_
      refine gt_ial (A := 174) (ykc_296 (e := (5, .iaload, 0)) rfl) hP rfl rfl (by omega) (by omega) rfl (fun e0 g_e0 b_e0 => ?_)
      refine gt_ias (A := 200) (y := e0) (x := y2) (ykc_296 (e := (5, .iastore, 0)) rfl) hP rfl rfl (by omega) (by omega) (xmod_eq b_e0 (by omega)) rfl (fun ph101 hP101 u101 => ?_)
      obtain ⟨x1, e_x1, h_x1⟩ : ∃ zq : Int32, x + Int32.ofInt 1 = zq ∧ zq.toInt = x.toInt + 1 := ⟨_, rfl, by rw [ti_add (by rw [xi1]; omega) (by rw [xi1]; omega), xi1]⟩
      refine gt_store (L' := [some (.ref 170), some (.int y), some (.int x1)]) (st' := []) (n := 3) (ykc_296 (e := (3, .iinc 2 1, 0)) rfl) (by rw [← e_x1]; rfl) rfl ?_
      refine gt_br (pc' := 38) (st' := []) (ykc_296 (e := (4, .goto (-26), 38)) rfl) rfl ?_
      have es : x.toInt.toNat = 0 + i := by omega
      have ed : y2.toInt.toNat = (41 * u) + i := by omega
      have w1 : xget ph 174 (0 + i) = some (.int e0) := by rw [← es]; exact g_e0
      have w2 := u101
      rw [ed] at w2
      exact ih (i + 1) x1 _ (by omega) (by omega) (by omega) hP101 (xu1_E hE w2 (i := 30) rfl hgA (hgF _) g9) (xcp_s hc (by decide) w1 w2)

set_option maxRecDepth 6000 in
theorem xINV_keep {n k : Nat} {ph1 ph2 ph3 ph' : pm_H} {yb C : Int32} (h : xINV n ph1) (u2 : xu0 ph1 ph2 198 ∧ xgb ph2 198 k yb ∧ ∀ j z, j ≠ k → (xgb ph2 198 j z ↔ xgb ph1 198 j z)) (hC : xget ph1 170 7 = some (.int C)) (u3 : xu1 ph2 ph3 199 k (.int C)) (a3 : xcp ph3 ph' 200 (41 * k) 174 0 41) : xINV n ph' := by
  obtain ⟨W, P, T, U, C2, ⟨f1, f2, f3, f4, f5⟩, ⟨b1, b2, b3, b4⟩, g1, g2, g3⟩ := h
  have e5 := xget_int f5 hC
  subst e5
  have hf : ∀ c, xget ph' 170 c = xget ph1 170 c := fun c => ((a3.2.1 170 c (fun q => absurd q.1 (by decide))).trans (u3.2.1 170 c (fun q => absurd q.1 (by decide)))).trans (u2.1.1 170 c)
  have ha : ∀ a, a ≠ 198 → a ≠ 199 → a ≠ 200 → pm_at ph' a = pm_at ph1 a := fun a h1 h2 h3 => ((a3.2.2 a h3).trans (u3.2.2 a h2)).trans (u2.1.2 a h1)
  refine ⟨W, P, T, U, C2, ⟨(hf 4).trans f1, (hf 5).trans f2, (hf 6).trans f3, (hf 27).trans f4, (hf 7).trans f5⟩, ⟨b1, b2, b3, b4⟩, xgr_eq b1 b2 (fun c _ => xget_at (ha 174 (by decide) (by decide) (by decide)) _) g1, fun u hu => xgr_eq b1 b2 (fun c _ => xget_at (ha 183 (by decide) (by decide) (by decide)) _) (g2 u hu), fun i hi z hz hz0 => ?_⟩
  have hz2 : xgb ph2 198 i z := xgb_eq ((a3.2.2 198 (by decide)).trans (u3.2.2 198 (by decide))) hz
  by_cases ei : i = k
  · subst ei
    refine ⟨C2, (a3.2.1 199 i (fun q => absurd q.1 (by decide))).trans u3.1, Int.le_refl _, fun _ => xgr_cp b1 b2 (fun c hc => ?_) g1⟩
    rw [a3.1 c hc]
    exact (u3.2.1 174 _ (fun q => absurd q.1 (by decide))).trans (u2.1.1 174 _)
  · obtain ⟨K, k1, k2, k3⟩ := g3 i hi z ((u2.2.2 i z ei).mp hz2) hz0
    refine ⟨K, ?_, k2, fun e => xgr_eq b1 b2 (fun c hc => ?_) (k3 e)⟩
    · exact ((a3.2.1 199 i (fun q => absurd q.1 (by decide))).trans (u3.2.1 199 i (fun q => ei q.2))).trans ((u2.1.1 199 i).trans k1)
    · exact ((a3.2.1 200 _ (fun q => by obtain ⟨-, q1, q2⟩ := q; omega)).trans (u3.2.1 200 _ (fun q => absurd q.1 (by decide)))).trans (u2.1.1 200 _)

set_option maxRecDepth 6000 in
theorem xkeeps {R : pm_H → Prop} (hR : xHE xX xgA_VR xgF_VR R) {m : Int} (hm : m ≤ 2147483646) (h0m : (0 : Int) ≤ m) {D n : Nat} (hD : 3 ≤ D) {ph : pm_H} {y : Int32} (hP : xH xX kK m 0 ph) (hV : xV ph) (hI : xINV n ph) (hr : R ph) : ∃ v ph', pm_Rd kK false D 296 [.ref 170, .int y] ph (v, ph', 0, 0) ∧ (∃ r : Int32, v = some (.int r) ∧ xH xX kK m 0 ph' ∧ xV ph' ∧ xINV n ph' ∧ R ph' ∧ ((r.toInt = 1 ∧ 0 ≤ y.toInt ∧ y.toInt ≤ 2) ∨ (r.toInt = 0 ∧ (y.toInt < 0 ∨ 2 < y.toInt)))) := by
  have hE : xHE xX xgA_VR xgF_VR (fun p => xV p ∧ R p) := xHE_and xHEVR hR
  obtain ⟨D9, rfl⟩ : ∃ D9, D = D9 + 1 + 1 := ⟨D - 2, by omega⟩
  refine xRd_mk (nl := 3) rfl rfl ?_
  show xGT kK (D9 + 1) 296 _ (0, [some (.ref 170), some (.int y), none], [], ph, 0, 0)
  refine gt_load (v := .ref 170) (n := 1) (ykc_296 (e := (2, .aload_n kF0, 0)) rfl) rfl rfl ?_
  refine gt_alu (st' := [.int (Int32.ofInt 0), .ref 170]) (ykc_296 (e := (0, .iconst 0, 0)) rfl) rfl rfl ?_
  refine gt_pf (y := Int32.ofInt 0) (ykc_296 (e := (5, .putfield 3, 0)) rfl) rfl hP rfl rfl (by decide) (by decide) rfl (fun ph1 hP1 u1 => ?_)
  refine gt_load (v := .int y) (n := 1) (ykc_296 (e := (2, .iload_n kF1, 0)) rfl) rfl rfl ?_
  refine gt_alu (st' := [.long y.toInt64]) (ykc_296 (e := (0, .i2l, 0)) rfl) rfl rfl ?_
  refine gt_alu (st' := [.long (Int64.ofNat kG0), .long y.toInt64]) (ykc_296 (e := (0, .lconst kG0, 0)) rfl) rfl rfl ?_
  refine gt_push (v := .long (2 : Int64)) (n := 3) (ykc_296 (e := (1, .ldc2_w 330, 0)) rfl) rfl rfl ?_
  refine gt_cs (n := 3) (as := [.long y.toInt64, .long (Int64.ofNat kG0), .long (2 : Int64)]) (r := []) (ykc_296 (e := (6, .invokestatic 126, 0)) rfl) rfl rfl rfl rfl (xin_run (D := D9)) rfl (fun vv ph2 hv => ?_)
  obtain ⟨z, e9, e8, z_s⟩ := hv; subst e9; have e7 := e8.symm; subst e7; rw [tl_i2l, xl0, xl2] at z_s
  change xGT kK (D9 + 1) 296 _ (14, [some (.ref 170), some (.int y), none], [.int z], ph1, 0, 0)
  have g1 : xV ph1 ∧ R ph1 := xu1_E hE u1 rfl rfl rfl ⟨hV, hr⟩
  have i1 : xINV n ph1 := xu1_E (xHEI n) u1 rfl rfl rfl hI
  by_cases hz : z.toInt = 0
  · refine gt_zne_f (ykc_296 (e := (4, .ifCond .ne 5, 19)) rfl) hz rfl ?_
    refine gt_alu (st' := [.int (Int32.ofInt 0)]) (ykc_296 (e := (0, .iconst 0, 0)) rfl) rfl rfl ?_
    refine gt_ret (ykc_296 (e := (7, .ireturn, 0)) rfl) (xretz (by decide) (by decide)) ?_
    exact ⟨_, rfl, hP1, g1.1, i1, g1.2, Or.inr ⟨by decide, by omega⟩⟩
  · refine gt_zne_t (ykc_296 (e := (4, .ifCond .ne 5, 19)) rfl) hz ?_
    refine gt_load (v := .ref 170) (n := 1) (ykc_296 (e := (2, .aload_n kF0, 0)) rfl) rfl rfl ?_
    refine gt_gfr (A := 198) (ykc_296 (e := (5, .getfield 113, 0)) rfl) rfl hP1 rfl rfl rfl ?_
    refine gt_load (v := .int y) (n := 1) (ykc_296 (e := (2, .iload_n kF1, 0)) rfl) rfl rfl ?_
    refine gt_alu (st' := [.int (Int32.ofInt 1), .int y, .ref 198]) (ykc_296 (e := (0, .iconst 1, 0)) rfl) rfl rfl ?_
    refine gt_bas (A := 198) (y := Int32.ofInt 1) (x := y) (ykc_296 (e := (5, .bastore, 0)) rfl) hP1 rfl rfl (by omega) (by omega) rfl (fun ph103 hP103 u103 => ?_)
    refine gt_load (v := .ref 170) (n := 1) (ykc_296 (e := (2, .aload_n kF0, 0)) rfl) rfl rfl ?_
    refine gt_gfr (A := 199) (ykc_296 (e := (5, .getfield 116, 0)) rfl) rfl hP103 rfl rfl rfl ?_
    refine gt_load (v := .int y) (n := 1) (ykc_296 (e := (2, .iload_n kF1, 0)) rfl) rfl rfl ?_
    refine gt_load (v := .ref 170) (n := 1) (ykc_296 (e := (2, .aload_n kF0, 0)) rfl) rfl rfl ?_
    refine gt_gfi (ykc_296 (e := (5, .getfield 191, 0)) rfl) rfl hP103 rfl rfl (fun changes f_changes f0_changes f1_changes => ?_)
    refine gt_ias (A := 199) (y := changes) (x := y) (ykc_296 (e := (5, .iastore, 0)) rfl) hP103 rfl rfl (by omega) (by omega) xany rfl (fun ph104 hP104 u104 => ?_)
    have f104_7 : xget ph104 170 7 = some (.int changes) := (u104.2.1 170 7 (fun q => absurd q.1 (by decide))).trans f_changes
    refine gt_alu (st' := [.int (Int32.ofInt 0)]) (ykc_296 (e := (0, .iconst 0, 0)) rfl) rfl rfl ?_
    refine gt_store (L' := [some (.ref 170), some (.int y), some (.int (Int32.ofInt 0))]) (st' := []) (n := 1) (ykc_296 (e := (3, .istore_n kF2, 0)) rfl) rfl rfl ?_
    have g3 : xV ph104 ∧ R ph104 := xu1_E hE u104 rfl rfl rfl (xu0_E hE u103.1 rfl rfl g1)
    have hC : xget ph1 170 7 = some (.int changes) := (u103.1.1 170 7).symm.trans f_changes
    refine xcl_keep hE rfl (fun _ => rfl) (u := y.toInt.toNat) (by omega) (by omega) (fun ph' x a1 a2 a3 => ?_) 42 0 _ _ (by omega) (by omega) (by decide) hP104 g3 xcp_0
    refine gt_alu (st' := [.int (Int32.ofInt 1)]) (ykc_296 (e := (0, .iconst 1, 0)) rfl) rfl rfl ?_
    refine gt_ret (ykc_296 (e := (7, .ireturn, 0)) rfl) (xretz (by decide) (by decide)) ?_
    exact ⟨_, rfl, a1, a2.1, xINV_keep i1 u103 hC u104 a3, a2.2, Or.inl ⟨by decide, by omega, by omega⟩⟩

/-! adds of the reference, by hand, printed by wip/x/h_vadds.py -/
set_option maxRecDepth 6000 in
theorem x15 : ((Int8.ofInt 15).toInt32).toInt = 15 := by decide
set_option maxRecDepth 6000 in
theorem x615 : ((Int16.ofInt 615).toInt32).toInt = 615 := by decide
set_option maxRecDepth 6000 in
theorem xH_eq {X : xD} {K : pm_K} {m : Int} {w : Nat} {ph ph' : pm_H} (h : ∀ a, pm_at ph' a = pm_at ph a) (hP : xH X K m w ph) : xH X K m w ph' := fun a i ho => by
  obtain ⟨s, t, h1, h2, h3⟩ := hP a i ho
  exact ⟨s, t, h1, h2, xcG_at (h a).symm h3⟩
section
variable {j pc pc' aux D : Nat} {Q : Option Value → pm_H → Prop} {L : List (Option Value)} {st : List Value} {ph : pm_H} {v9 : Value}
set_option maxRecDepth 6000 in
theorem gt_gfraw {i k : Nat} {v : Value} {fl : List Value} (hc : pm_code kK j pc = some (5, .getfield i, aux)) (hl : pm_lnk kK (pm_own kK j) i = some (6, 13, k, v9)) (hat : pm_at ph 170 = some (.inr (13, fl))) (hv : fl[k]? = some v) (hp : pc + 3 = pc') (kk : xGT kK D j Q (pc', L, v :: st, ph, 0, 0)) : xGT kK D j Q (pc, L, .ref 170 :: st, ph, 0, 0) :=
  gt_mem hc (by
    unfold pm_mem
    have e : Nat.beq 13 13 = true := rfl
    simp only [hl, hat, e, hv, cond_true]) hp kk
set_option maxRecDepth 6000 in
theorem gt_pfraw {i k : Nat} {y : Int32} {fl : List Value} (hc : pm_code kK j pc = some (5, .putfield i, aux)) (hl : pm_lnk kK (pm_own kK j) i = some (6, 13, k, v9)) (hat : pm_at ph 170 = some (.inr (13, fl))) (hty : pm_fty kK 13 k = .int) (hk : k < fl.length) (hp : pc + 3 = pc') (kk : ∀ ph', pm_at ph' 170 = some (.inr (13, fl.set k (.int y))) → (∀ a, a ≠ 170 → pm_at ph' a = pm_at ph a) → xGT kK D j Q (pc', L, st, ph', 0, 0)) : xGT kK D j Q (pc, L, .int y :: .ref 170 :: st, ph, 0, 0) := by
  have hbl : Nat.blt k fl.length = true := Nat.ble_eq_true_of_le hk
  refine gt_mem (ph' := ph.set 170 (.inr (13, fl.set k (.int y)))) hc ?_ hp (kk _ (xat_self hat) (fun a h => xat_ne h))
  unfold pm_mem
  have e : Nat.beq 13 13 = true := rfl
  have e2 : pm_fit .int (.int y) = true := rfl
  simp only [hl, hat, e, hty, e2, hbl, Bool.and_self, cond_true]
set_option maxRecDepth 6000 in
theorem gt_iasraw {A : Nat} {x y : Int32} {l : List Int32} (hc : pm_code kK j pc = some (5, .iastore, aux)) (hat : pm_at ph A = some (.inl (0, .inl l))) (h0 : 0 ≤ x.toInt) (hlt : x.toInt.toNat < l.length) (hp : pc + 1 = pc') (kk : ∀ ph', pm_at ph' A = some (.inl (0, .inl (l.set x.toInt.toNat y))) → (∀ a, a ≠ A → pm_at ph' a = pm_at ph a) → xGT kK D j Q (pc', L, st, ph', 0, 0)) : xGT kK D j Q (pc, L, .int y :: .int x :: .ref A :: st, ph, 0, 0) := by
  refine gt_mem (ph' := ph.set A (.inl (0, .inl (l.set x.toInt.toNat y)))) hc ?_ hp (kk _ (xat_self hat) (fun a h => xat_ne h))
  unfold pm_mem
  simp only [hat, xup_eq h0 hlt]
end

set_option maxRecDepth 6000 in
theorem xadd_loop {D : Nat} {Q : Option Value → pm_H → Prop} {fl : List Value} {y : Int32} {l0 : List Int32} {phS : pm_H} (hl0 : l0.length = 656) (h28 : fl[28]? = some (.ref 183)) (hQ : ∀ (ph' : pm_H) (l : List Int32) (x : Int32), pm_at ph' 170 = some (.inr (13, fl)) → pm_at ph' 183 = some (.inl (0, .inl l)) → l.length = 656 → (∀ k, l[k]? = if k < 615 then l0[k + 41]? else l0[k]?) → (∀ a, a ≠ 183 → pm_at ph' a = pm_at phS a) → xGT kK D 239 Q (49, [some (.ref 170), some (.int y), some (.int x)], [], ph', 0, 0)) : ∀ (s i : Nat) (x : Int32) (l : List Int32) (ph : pm_H), 615 - i < s → i ≤ 615 → x.toInt = (i : Int) → pm_at ph 170 = some (.inr (13, fl)) → pm_at ph 183 = some (.inl (0, .inl l)) → l.length = 656 → (∀ k, l[k]? = if k < i then l0[k + 41]? else l0[k]?) → (∀ a, a ≠ 183 → pm_at ph a = pm_at phS a) → xGT kK D 239 Q (21, [some (.ref 170), some (.int y), some (.int x)], [], ph, 0, 0) := by
  intro s
  induction s with
  | zero => intro i x l ph h; omega
  | succ s ih =>
    intro i x l ph hs hi hx hM hU hlen hel hO
    by_cases hin : i = 615
    · subst hin
      refine gt_load (v := .int x) (n := 1) (ykc_239 (e := (2, .iload_n kF2, 0)) rfl) rfl rfl ?_
      refine gt_push (v := .int ((Int16.ofInt 615).toInt32)) (n := 3) (ykc_239 (e := (1, .sipush 615, 0)) rfl) rfl rfl ?_
      refine gt_ige_t (ykc_239 (e := (4, .if_icmp .ge 24, 49)) rfl) (by rw [x615]; omega) ?_
      exact hQ ph l x hM hU hlen hel hO
    · obtain ⟨e0, he0⟩ : ∃ e0, l[i + 41]? = some e0 := ⟨l[i + 41]'(by omega), List.getElem?_eq_getElem _⟩
      have hg : xget ph 183 (i + 41) = some (.int e0) := by
        unfold xget
        rw [hU]
        show (l[i + 41]?).map Value.int = _
        rw [he0]
        rfl
      have h00 : l0[i + 41]? = some e0 := by
        rw [← he0, hel (i + 41), if_neg (by omega)]
      refine gt_load (v := .int x) (n := 1) (ykc_239 (e := (2, .iload_n kF2, 0)) rfl) rfl rfl ?_
      refine gt_push (v := .int ((Int16.ofInt 615).toInt32)) (n := 3) (ykc_239 (e := (1, .sipush 615, 0)) rfl) rfl rfl ?_
      refine gt_ige_f (ykc_239 (e := (4, .if_icmp .ge 24, 49)) rfl) (by rw [x615]; omega) rfl ?_
      refine gt_load (v := .ref 170) (n := 1) (ykc_239 (e := (2, .aload_n kF0, 0)) rfl) rfl rfl ?_
      refine gt_gfraw (ykc_239 (e := (5, .getfield 68, 0)) rfl) rfl hM h28 rfl ?_
      refine gt_load (v := .int x) (n := 1) (ykc_239 (e := (2, .iload_n kF2, 0)) rfl) rfl rfl ?_
      refine gt_load (v := .ref 170) (n := 1) (ykc_239 (e := (2, .aload_n kF0, 0)) rfl) rfl rfl ?_
      refine gt_gfraw (ykc_239 (e := (5, .getfield 68, 0)) rfl) rfl hM h28 rfl ?_
      refine gt_load (v := .int x) (n := 1) (ykc_239 (e := (2, .iload_n kF2, 0)) rfl) rfl rfl ?_
      refine gt_push (v := .int ((Int8.ofInt 41).toInt32)) (n := 2) (ykc_239 (e := (1, .bipush 41, 0)) rfl) rfl rfl ?_
      obtain ⟨y2, e_y2, h_y2⟩ : ∃ zq : Int32, x + ((Int8.ofInt 41).toInt32) = zq ∧ zq.toInt = x.toInt + 41 := ⟨_, rfl, by rw [ti_add (by rw [x41]; omega) (by rw [x41]; omega), x41]⟩
      refine gt_alu (st' := [.int y2, .ref 183, .int x, .ref 183]) (ykc_239 (e := (0, .iadd, 0)) rfl) (by rw [← e_y2]; rfl) rfl ?_
      refine gt_ialk (A := 183) (k := i + 41) (y := e0) (ykc_239 (e := (5, .iaload, 0)) rfl) hg ⟨l, hU⟩ (by omega) rfl ?_
      refine gt_iasraw (ykc_239 (e := (5, .iastore, 0)) rfl) hU (by omega) (by omega) rfl (fun ph2 hU2 hO2 => ?_)
      obtain ⟨x1, e_x1, h_x1⟩ : ∃ zq : Int32, x + Int32.ofInt 1 = zq ∧ zq.toInt = x.toInt + 1 := ⟨_, rfl, by rw [ti_add (by rw [xi1]; omega) (by rw [xi1]; omega), xi1]⟩
      refine gt_store (L' := [some (.ref 170), some (.int y), some (.int x1)]) (st' := []) (n := 3) (ykc_239 (e := (3, .iinc 2 1, 0)) rfl) (by rw [← e_x1]; rfl) rfl ?_
      refine gt_br (pc' := 21) (st' := []) (ykc_239 (e := (4, .goto (-25), 21)) rfl) rfl ?_
      have ek : x.toInt.toNat = i := by omega
      rw [ek] at hU2
      refine ih (i + 1) x1 (l.set i e0) ph2 (by omega) (by omega) (by omega) ((hO2 170 (by decide)).trans hM) hU2 (by rw [List.length_set]; exact hlen) (fun k => ?_) (fun a ha => (hO2 a ha).trans (hO a ha))
      by_cases ki : k = i
      · subst ki
        rw [List.getElem?_set_self (by omega), if_pos (by omega), h00]
      · rw [List.getElem?_set_ne (Ne.symm ki), hel k]
        by_cases kl : k < i
        · rw [if_pos kl, if_pos (by omega)]
        · rw [if_neg kl, if_neg (by omega)]

set_option maxRecDepth 6000 in
theorem xINV_27r {n : Nat} {ph ph' : pm_H} {y : Int32} (h : xINV n ph) (u : xu1 ph ph' 170 27 (.int y)) (hy : ∀ k : Nat, (k : Int) < y.toInt → xrowG ph 183 (41 * k)) : xINV n ph' := by
  obtain ⟨W, P, T, U, C, ⟨f1, f2, f3, f4, f5⟩, ⟨b1, b2, b3, b4⟩, g1, g2, g3⟩ := h
  have hf : ∀ k, k ≠ 27 → xget ph' 170 k = xget ph 170 k := fun k hk => u.2.1 170 k (fun q => hk q.2)
  have ha : ∀ a, a ≠ 170 → pm_at ph' a = pm_at ph a := u.2.2
  refine ⟨W, P, T, y, C, ⟨(hf 4 (by decide)).trans f1, (hf 5 (by decide)).trans f2, (hf 6 (by decide)).trans f3, u.1, (hf 7 (by decide)).trans f5⟩, ⟨b1, b2, b3, b4⟩, xgr_eq b1 b2 (fun k _ => xget_at (ha 174 (by decide)) _) g1, fun k hk => xgr_eq b1 b2 (fun c _ => xget_at (ha 183 (by decide)) _) (hy k hk W P T f1 f2 f3 b1 b2), fun i hi z hz hz0 => ?_⟩
  obtain ⟨K, k1, k2, k3⟩ := g3 i hi z (xgb_eq (ha 198 (by decide)) hz) hz0
  exact ⟨K, (xget_at (ha 199 (by decide)) i).trans k1, k2, fun e => xgr_eq b1 b2 (fun c _ => xget_at (ha 200 (by decide)) _) (k3 e)⟩
set_option maxRecDepth 6000 in
/-- undone moved up by a row -/
theorem xINV_shift {n : Nat} {ph ph' : pm_H} (h : xINV n ph) {U : Int32} (q : xget ph 170 27 = some (.int U)) (hU : U.toInt = 15) (hr : xrowG ph 183 (41 * 15)) (ho : ∀ a, a ≠ 183 → pm_at ph' a = pm_at ph a) (hs : ∀ k, k < 615 → xget ph' 183 k = xget ph 183 (k + 41)) : xINV n ph' := by
  have hrow : ∀ k : Nat, k < 16 → xrowG ph 183 (41 * k) := fun k hk => by
    by_cases e : k = 15
    · subst e
      exact hr
    · exact xINV_row h q (by omega)
  obtain ⟨W, P, T, U2, C, ⟨f1, f2, f3, f4, f5⟩, ⟨b1, b2, b3, b4⟩, g1, g2, g3⟩ := h
  have e9 := xget_int f4 q
  subst e9
  have hf : ∀ k, xget ph' 170 k = xget ph 170 k := fun k => xget_at (ho 170 (by decide)) k
  refine ⟨W, P, T, U2, C, ⟨(hf 4).trans f1, (hf 5).trans f2, (hf 6).trans f3, (hf 27).trans f4, (hf 7).trans f5⟩, ⟨b1, b2, b3, b4⟩, xgr_eq b1 b2 (fun k _ => xget_at (ho 174 (by decide)) _) g1, fun k hk => xgr_cp (off := 41 * (k + 1)) b1 b2 (fun c hc => ?_) (hrow (k + 1) (by omega) W P T f1 f2 f3 b1 b2), fun i hi z hz hz0 => ?_⟩
  · rw [hs (41 * k + c) (by omega)]
    exact congrArg (xget ph 183) (by omega)
  · obtain ⟨K, k1, k2, k3⟩ := g3 i hi z (xgb_eq (ho 198 (by decide)) hz) hz0
    exact ⟨K, (xget_at (ho 199 (by decide)) i).trans k1, k2, fun e => xgr_eq b1 b2 (fun c _ => xget_at (ho 200 (by decide)) _) (k3 e)⟩
set_option maxRecDepth 6000 in
theorem xadds {E : pm_H → Prop} (hE : xHE xX xgA_VR xgF_VR E) {m : Int} {D n : Nat} {ph : pm_H} {y U : Int32} (hP : xH xX kK m 0 ph) (g9 : E ph) (hI : xINV n ph) (q27 : xget ph 170 27 = some (.int U)) (hr : xrowG ph 183 (41 * U.toInt.toNat)) : ∃ v ph', pm_Rd kK false (D + 1) 239 [.ref 170, .int y] ph (v, ph', 0, 0) ∧ (v = some (.int y) ∧ xH xX kK m 0 ph' ∧ xINV n ph' ∧ E ph') := by
  obtain ⟨U9, r1, r2, r3⟩ := xM_fi (k := 27) hP rfl
  have eU := xget_int r1 q27
  subst eU
  have hu0 : 0 ≤ U9.toInt := r2
  have hu1 : U9.toInt ≤ 15 := r3
  refine xRd_mk (nl := 3) rfl rfl ?_
  show xGT kK D 239 _ (0, [some (.ref 170), some (.int y), none], [], ph, 0, 0)
  refine gt_load (v := .ref 170) (n := 1) (ykc_239 (e := (2, .aload_n kF0, 0)) rfl) rfl rfl ?_
  refine gt_alu (st' := [.ref 170, .ref 170]) (ykc_239 (e := (0, .dup, 0)) rfl) rfl rfl ?_
  refine gt_gfk (v := .int U9) (ykc_239 (e := (5, .getfield 188, 0)) rfl) rfl hP q27 rfl ?_
  refine gt_alu (st' := [.int (Int32.ofInt 1), .int U9, .ref 170]) (ykc_239 (e := (0, .iconst 1, 0)) rfl) rfl rfl ?_
  obtain ⟨y1, e_y1, h_y1⟩ : ∃ zq : Int32, U9 + (Int32.ofInt 1) = zq ∧ zq.toInt = U9.toInt + 1 := ⟨_, rfl, by rw [ti_add (by rw [xi1]; omega) (by rw [xi1]; omega), xi1]⟩
  refine gt_alu (st' := [.int y1, .ref 170]) (ykc_239 (e := (0, .iadd, 0)) rfl) (by rw [← e_y1]; exact rfl) rfl ?_
  by_cases hlt : U9.toInt < 15
  · refine gt_pf (y := y1) (ykc_239 (e := (5, .putfield 188, 0)) rfl) rfl hP rfl rfl (by show 0 ≤ y1.toInt; omega) (by show y1.toInt ≤ 15; omega) rfl (fun ph101 hP101 u101 => ?_)
    refine gt_load (v := .ref 170) (n := 1) (ykc_239 (e := (2, .aload_n kF0, 0)) rfl) rfl rfl ?_
    refine gt_gfk (v := .int y1) (ykc_239 (e := (5, .getfield 188, 0)) rfl) rfl hP101 u101.1 rfl ?_
    refine gt_push (v := .int ((Int8.ofInt 15).toInt32)) (n := 2) (ykc_239 (e := (1, .bipush 15, 0)) rfl) rfl rfl ?_
    refine gt_ile_t (ykc_239 (e := (4, .if_icmp .le 43, 59)) rfl) (by rw [x15]; omega) ?_
    refine gt_load (v := .int y) (n := 1) (ykc_239 (e := (2, .iload_n kF1, 0)) rfl) rfl rfl ?_
    refine gt_ret (ykc_239 (e := (7, .ireturn, 0)) rfl) rfl ?_
    refine ⟨rfl, hP101, xINV_27r hI u101 (fun k hk => ?_), xu1_E hE u101 rfl rfl rfl g9⟩
    by_cases e : k = U9.toInt.toNat
    · subst e
      exact hr
    · exact xINV_row hI q27 (by omega)
  · have hU15 : U9.toInt = 15 := by omega
    obtain ⟨fl0, fts, hat0, -, -⟩ := xM_at hP
    have hv0 : fl0[27]? = some (.int U9) := by
      have g := q27
      unfold xget at g
      rw [hat0] at g
      exact g
    have hk27 : 27 < fl0.length := (List.getElem?_eq_some_iff.mp hv0).1
    have h28 : fl0[28]? = some (.ref 183) := by
      have g := xM_fr (k := 28) (A := 183) hP rfl rfl
      unfold xget at g
      rw [hat0] at g
      exact g
    obtain ⟨l0, hat183, hlen, hel⟩ := xA_at (A := 183) hP rfl rfl
    refine gt_pfraw (ykc_239 (e := (5, .putfield 188, 0)) rfl) rfl hat0 rfl hk27 rfl (fun ph1 hat1 hO1 => ?_)
    have h27 : (fl0.set 27 (.int y1))[27]? = some (.int y1) := List.getElem?_set_self hk27
    refine gt_load (v := .ref 170) (n := 1) (ykc_239 (e := (2, .aload_n kF0, 0)) rfl) rfl rfl ?_
    refine gt_gfraw (ykc_239 (e := (5, .getfield 188, 0)) rfl) rfl hat1 h27 rfl ?_
    refine gt_push (v := .int ((Int8.ofInt 15).toInt32)) (n := 2) (ykc_239 (e := (1, .bipush 15, 0)) rfl) rfl rfl ?_
    refine gt_ile_f (ykc_239 (e := (4, .if_icmp .le 43, 59)) rfl) (by rw [x15]; omega) rfl ?_
    refine gt_alu (st' := [.int (Int32.ofInt 0)]) (ykc_239 (e := (0, .iconst 0, 0)) rfl) rfl rfl ?_
    refine gt_store (L' := [some (.ref 170), some (.int y), some (.int (Int32.ofInt 0))]) (st' := []) (n := 1) (ykc_239 (e := (3, .istore_n kF2, 0)) rfl) rfl rfl ?_
    refine xadd_loop (phS := ph1) hlen ((List.getElem?_set_ne (by decide)).trans h28) (fun ph' l x a1 a2 a3 a4 a5 => ?_) 616 0 _ l0 ph1 (by omega) (by omega) (by decide) hat1 ((hO1 183 (by decide)).trans hat183) hlen (fun k => by rw [if_neg (by omega)]) (fun _ _ => rfl)
    · refine gt_load (v := .ref 170) (n := 1) (ykc_239 (e := (2, .aload_n kF0, 0)) rfl) rfl rfl ?_
      refine gt_alu (st' := [.ref 170, .ref 170]) (ykc_239 (e := (0, .dup, 0)) rfl) rfl rfl ?_
      refine gt_gfraw (ykc_239 (e := (5, .getfield 188, 0)) rfl) rfl a1 h27 rfl ?_
      refine gt_alu (st' := [.int (Int32.ofInt 1), .int y1, .ref 170]) (ykc_239 (e := (0, .iconst 1, 0)) rfl) rfl rfl ?_
      obtain ⟨y3, e_y3, h_y3⟩ : ∃ zq : Int32, y1 - Int32.ofInt 1 = zq ∧ zq.toInt = y1.toInt - 1 := ⟨_, rfl, by rw [ti_sub (by rw [xi1]; omega) (by rw [xi1]; omega), xi1]⟩
      refine gt_alu (st' := [.int y3, .ref 170]) (ykc_239 (e := (0, .isub, 0)) rfl) (by rw [← e_y3]; rfl) rfl ?_
      refine gt_pfraw (ykc_239 (e := (5, .putfield 188, 0)) rfl) rfl a1 rfl (by rw [List.length_set]; exact hk27) rfl (fun phF hF1 hF2 => ?_)
      refine gt_load (v := .int y) (n := 1) (ykc_239 (e := (2, .iload_n kF1, 0)) rfl) rfl rfl ?_
      refine gt_ret (ykc_239 (e := (7, .ireturn, 0)) rfl) rfl ?_
      have ey : y3 = U9 := Int32.toInt_inj.mp (by omega)
      subst ey
      have hfl : (fl0.set 27 (.int y1)).set 27 (.int y3) = fl0 := by
        apply List.ext_getElem?
        intro k
        by_cases e : k = 27
        · subst e
          rw [List.getElem?_set_self (by rw [List.length_set]; exact hk27), hv0]
        · rw [List.getElem?_set_ne (Ne.symm e), List.getElem?_set_ne (Ne.symm e)]
      have hO : ∀ a, a ≠ 183 → pm_at phF a = pm_at ph a := fun a ha => by
        by_cases e : a = 170
        · subst e
          rw [hF1, hfl, hat0]
        · rw [hF2 a e, a5 a ha, hO1 a e]
      have h183 : pm_at phF 183 = some (.inl (0, .inl l)) := (hF2 183 (by decide)).trans a2
      have hPS : xH xX kK m 0 (ph.set 183 (.inl (0, .inl l))) := xH_set (i := 13) (t := .inl (0, 656, 41, _, 0)) hP rfl rfl ⟨l, xat_self hat183, a3, fun k z hk => by
        rw [a4 k] at hk
        by_cases e : k < 615
        · rw [if_pos e] at hk
          have g := hel (k + 41) z hk
          rw [show (k + 41) % 41 = k % 41 by omega] at g
          exact g
        · rw [if_neg e] at hk
          exact hel k z hk⟩
      have hPF : xH xX kK m 0 phF := xH_eq (fun a => by
        by_cases e : a = 183
        · subst e
          rw [h183, xat_self hat183]
        · rw [hO a e, xat_ne e]) hPS
      have hs : ∀ k, k < 615 → xget phF 183 k = xget ph 183 (k + 41) := fun k hk => by
        unfold xget
        rw [h183, hat183]
        show (l[k]?).map Value.int = (l0[k + 41]?).map Value.int
        rw [a4 k, if_pos hk]
      refine ⟨rfl, hPF, xINV_shift hI q27 hU15 (by rw [hU15] at hr; exact hr) hO hs, hE ph phF ⟨fun a i ha hi => ?_, fun a i k ha hi => ?_⟩ g9⟩
      · refine (hO a (fun e => ?_)).symm
        subst e
        have ha : xown 183 = some i := ha
        rw [show xown 183 = some 13 from rfl] at ha
        cases ha
        exact absurd hi (by decide)
      · refine (xget_at (hO a (fun e => ?_)) k).symm
        subst e
        have ha : xown 183 = some i := ha
        rw [show xown 183 = some 13 from rfl] at ha
        cases ha
        have h2 : (13, k) ∈ xgF_VR := hi
        unfold xgF_VR at h2
        simp at h2

/-! counted, faces, steps, trims, puts of the reference, by hand, printed by wip/x/h_writers.py -/
set_option maxRecDepth 6000 in
theorem xHE_rowG {gA : List Nat} {gF : List (Nat × Nat)} {a i off : Nat} (ho : xown a = some i) (hA : xmemN gA i = true) (h4 : xmemP gF 0 4 = true) (h5 : xmemP gF 0 5 = true) (h6 : xmemP gF 0 6 = true) : xHE xX gA gF (fun p => xrowG p a off) := fun p p' hs g W P T h1 h2 h3 b1 b2 => xgr_eq b1 b2 (fun _ _ => xget_at (hs.1 a i ho (xmemN_in hA)).symm _) (g W P T ((hs.2 170 0 4 rfl (xmemP_in h4)).trans h1) ((hs.2 170 0 5 rfl (xmemP_in h5)).trans h2) ((hs.2 170 0 6 rfl (xmemP_in h6)).trans h3) b1 b2)
set_option maxRecDepth 6000 in
theorem xSt_HE {E : pm_H → Prop} {gA : List Nat} {gF : List (Nat × Nat)} (hE : xHE xX gA gF E) (h1 : xmemN gA 4 = false) (h2 : ∀ k, xmemP gF 4 k = false) : xSt E := fun ph l k y _ _ h => hE ph _ ⟨fun a i ho hi => (xat_ne fun e => by
  subst e
  have ho : xown 174 = some i := ho
  rw [show xown 174 = some 4 from rfl] at ho
  cases ho
  exact absurd hi (xmemN_ok h1)).symm, fun a i c ho hi => (xget_ne fun e => by
  subst e
  have ho : xown 174 = some i := ho
  rw [show xown 174 = some 4 from rfl] at ho
  cases ho
  exact absurd hi (xmemP_ok (h2 c))).symm⟩ h
set_option maxRecDepth 6000 in
theorem xSt_and {E F : pm_H → Prop} (h1 : xSt E) (h2 : xSt F) : xSt (fun p => E p ∧ F p) := fun ph l k y a b h => ⟨h1 ph l k y a b h.1, h2 ph l k y a b h.2⟩
/-- between putsBy and adds -/
def xIR (R : pm_H → Prop) (n u : Nat) (U : Int32) : pm_H → Prop := fun p => ((xV p ∧ R p) ∧ xINV n p) ∧ (xrowG p 183 (41 * u) ∧ xget p 170 27 = some (.int U))
def xgA_U : List Nat := [13]
def xgF_U : List (Nat × Nat) := [(0, 4), (0, 5), (0, 6), (0, 27)]
set_option maxRecDepth 6000 in
theorem xHEU {u : Nat} {U : Int32} : xHE xX xgA_U xgF_U (fun p => xrowG p 183 (41 * u) ∧ xget p 170 27 = some (.int U)) := xHE_and (xHE_rowG (i := 13) rfl rfl rfl rfl rfl) (xHE_g rfl)
set_option maxRecDepth 6000 in
theorem xIR_St {R : pm_H → Prop} (hR : xHE xX xgA_VR xgF_VR R) {n u : Nat} {U : Int32} : xSt (xIR R n u U) := xSt_and (xSt_and (xSt_HE (xHE_and xHEVR hR) rfl (fun _ => rfl)) (xINV_St n)) (xSt_HE xHEU rfl (fun _ => rfl))

set_option maxRecDepth 6000 in
theorem xHIR_G8 {R : pm_H → Prop} (hR : xHE xX xgA_VR xgF_VR R) {n u : Nat} {U : Int32} : xHE xX xgA_G8 xgF_G8 (xIR R n u U) := xHE_and (xHE_and (xHE_sub (by decide +kernel) (by decide +kernel) (xHE_and xHEVR hR)) (xHE_sub (by decide +kernel) (by decide +kernel) (xHEI n))) (xHE_sub (by decide +kernel) (by decide +kernel) xHEU)
set_option maxRecDepth 6000 in
theorem xHIR_G80 {R : pm_H → Prop} (hR : xHE xX xgA_VR xgF_VR R) {n u : Nat} {U : Int32} : xHE xX xgA_G80 xgF_G80 (xIR R n u U) := xHE_and (xHE_and (xHE_sub (by decide +kernel) (by decide +kernel) (xHE_and xHEVR hR)) (xHE_sub (by decide +kernel) (by decide +kernel) (xHEI n))) (xHE_sub (by decide +kernel) (by decide +kernel) xHEU)
set_option maxRecDepth 6000 in
theorem xHIR_G83 {R : pm_H → Prop} (hR : xHE xX xgA_VR xgF_VR R) {n u : Nat} {U : Int32} : xHE xX xgA_G83 xgF_G83 (xIR R n u U) := xHE_and (xHE_and (xHE_sub (by decide +kernel) (by decide +kernel) (xHE_and xHEVR hR)) (xHE_sub (by decide +kernel) (by decide +kernel) (xHEI n))) (xHE_sub (by decide +kernel) (by decide +kernel) xHEU)
set_option maxRecDepth 6000 in
theorem xHIR_G84 {R : pm_H → Prop} (hR : xHE xX xgA_VR xgF_VR R) {n u : Nat} {U : Int32} : xHE xX xgA_G84 xgF_G84 (xIR R n u U) := xHE_and (xHE_and (xHE_sub (by decide +kernel) (by decide +kernel) (xHE_and xHEVR hR)) (xHE_sub (by decide +kernel) (by decide +kernel) (xHEI n))) (xHE_sub (by decide +kernel) (by decide +kernel) xHEU)
set_option maxRecDepth 6000 in
theorem xHIR_G92 {R : pm_H → Prop} (hR : xHE xX xgA_VR xgF_VR R) {n u : Nat} {U : Int32} : xHE xX xgA_G92 xgF_G92 (xIR R n u U) := xHE_and (xHE_and (xHE_sub (by decide +kernel) (by decide +kernel) (xHE_and xHEVR hR)) (xHE_sub (by decide +kernel) (by decide +kernel) (xHEI n))) (xHE_sub (by decide +kernel) (by decide +kernel) xHEU)
set_option maxRecDepth 6000 in
theorem xINV_puts {n : Nat} {ph ph' : pm_H} {U : Int32} (h : xINV n ph) (q : xget ph 170 27 = some (.int U)) (c : xcp ph ph' 183 (41 * U.toInt.toNat) 174 0 41) : xINV n ph' ∧ xrowG ph' 183 (41 * U.toInt.toNat) ∧ xget ph' 170 27 = some (.int U) := by
  obtain ⟨W, P, T, U2, C, ⟨f1, f2, f3, f4, f5⟩, ⟨b1, b2, b3, b4⟩, g1, g2, g3⟩ := h
  have e9 := xget_int f4 q
  subst e9
  have hf : ∀ k, xget ph' 170 k = xget ph 170 k := fun k => c.2.1 170 k (fun q => absurd q.1 (by decide))
  have ha : ∀ a, a ≠ 183 → pm_at ph' a = pm_at ph a := c.2.2
  refine ⟨⟨W, P, T, U2, C, ⟨(hf 4).trans f1, (hf 5).trans f2, (hf 6).trans f3, (hf 27).trans f4, (hf 7).trans f5⟩, ⟨b1, b2, b3, b4⟩, xgr_eq b1 b2 (fun k _ => xget_at (ha 174 (by decide)) _) g1, fun k hk => xgr_eq b1 b2 (fun c2 hc2 => c.2.1 183 _ (fun q => by obtain ⟨-, q1, q2⟩ := q; omega)) (g2 k hk), fun i hi z hz hz0 => ?_⟩, ?_, (hf 27).trans f4⟩
  · obtain ⟨K, k1, k2, k3⟩ := g3 i hi z (xgb_eq (ha 198 (by decide)) hz) hz0
    exact ⟨K, (xget_at (ha 199 (by decide)) i).trans k1, k2, fun e => xgr_eq b1 b2 (fun c _ => xget_at (ha 200 (by decide)) _) (k3 e)⟩
  · intro W2 P2 T2 h1 h2 h3 _ _
    have e1 := xget_int ((hf 4).trans f1) h1
    have e2 := xget_int ((hf 5).trans f2) h2
    have e3 := xget_int ((hf 6).trans f3) h3
    subst e1 e2 e3
    exact xgr_cp b1 b2 c.1 g1

set_option maxRecDepth 6000 in
theorem xcounted {R : pm_H → Prop} (hR : xHE xX xgA_VR xgF_VR R) {m : Int} {D n u : Nat} (hD : 2 ≤ D) {ph : pm_H} {y U : Int32} (hP : xH xX kK m 0 ph) (g9 : xIR R n u U ph) (hu : u = U.toInt.toNat) : ∃ v ph', pm_Rd kK false D 240 [.ref 170, .int y] ph (v, ph', 0, 0) ∧ (v = some (.int y) ∧ xH xX kK m 0 ph' ∧ xINV n ph' ∧ xV ph' ∧ R ph') := by
  obtain ⟨D', rfl⟩ : ∃ D', D = D' + 1 + 1 := ⟨D - 2, by omega⟩
  have hEVR := xHE_and xHEVR hR
  refine xRd_mk (nl := 2) rfl rfl ?_
  show xGT kK (D' + 1) 240 _ (0, [some (.ref 170), some (.int y)], [], ph, 0, 0)
  by_cases hy : y.toInt < 0
  · refine gt_load (v := .int y) (n := 1) (ykc_240 (e := (2, .iload_n kF1, 0)) rfl) rfl rfl ?_
    refine gt_zge_f (ykc_240 (e := (4, .ifCond .ge 7, 8)) rfl) hy rfl ?_
    refine gt_load (v := .int y) (n := 1) (ykc_240 (e := (2, .iload_n kF1, 0)) rfl) rfl rfl ?_
    refine gt_br (pc' := 13) (st' := [.int y]) (ykc_240 (e := (4, .goto 8, 13)) rfl) rfl ?_
    refine gt_ret (ykc_240 (e := (7, .ireturn, 0)) rfl) rfl ?_
    exact ⟨rfl, hP, g9.1.2, g9.1.1⟩
  · refine gt_load (v := .int y) (n := 1) (ykc_240 (e := (2, .iload_n kF1, 0)) rfl) rfl rfl ?_
    refine gt_zge_t (ykc_240 (e := (4, .ifCond .ge 7, 8)) rfl) (by omega) ?_
    refine gt_load (v := .ref 170) (n := 1) (ykc_240 (e := (2, .aload_n kF0, 0)) rfl) rfl rfl ?_
    refine gt_load (v := .int y) (n := 1) (ykc_240 (e := (2, .iload_n kF1, 0)) rfl) rfl rfl ?_
    refine gt_cv (n := 1) (as := [.ref 170, .int y]) (r := []) (ykc_240 (e := (6, .invokevirtual 341, 0)) rfl) rfl hP rfl rfl rfl (xadds (D := D') hEVR hP g9.1.1 g9.1.2 g9.2.2 (hu ▸ g9.2.1)) rfl (fun vv ph101 hv => ?_)
    obtain ⟨e9, hP2, i2, g2⟩ := hv; subst e9
    change xGT kK (D' + 1) 240 _ (13, [some (.ref 170), some (.int y)], [.int y], ph101, 0, 0)
    refine gt_ret (ykc_240 (e := (7, .ireturn, 0)) rfl) rfl ?_
    exact ⟨rfl, hP2, i2, g2⟩

set_option maxRecDepth 6000 in
theorem xone_faces {E : pm_H → Prop} (hE : xHE xX xgA_G84 xgF_G84 E) {m : Int} (hm : m ≤ 2147483646) (h0m : (0 : Int) ≤ m) {D : Nat} (hD : 3 ≤ D) {ph : pm_H} {p q : Int32} (hP : xH xX kK m 0 ph) (g9 : E ph) : ∃ v ph', pm_Rd kK false D 244 [.ref 170, .ref 174, .int p, .int q] ph (v, ph', 0, 0) ∧ (∃ r : Int32, v = some (.int r) ∧ xH xX kK m 0 ph' ∧ E ph') := by
  obtain ⟨v, ph', k1, k2, k3, ⟨u, e, z, e2, -⟩, -⟩ := (xn_343_0 hE) D hD m hm h0m [.ref 170, .ref 174, .int p, .int q] ph ⟨xaRi rfl (by decide), xaRi rfl (by decide), xaT, xaT, trivial⟩ xF0 hP g9
  exact ⟨v, ph', k1, z, by rw [e, e2], k2, k3⟩
set_option maxRecDepth 6000 in
theorem xw_faces {R : pm_H → Prop} (hR : xHE xX xgA_VR xgF_VR R) {m : Int} (hm : m ≤ 2147483646) (h0m : (0 : Int) ≤ m) {D n : Nat} (hD : 20 ≤ D) {ph : pm_H} {p q : Int32} (hP : xH xX kK m 0 ph) (hV : xV ph) (hI : xINV n ph) (hr : R ph) : ∃ v ph', pm_Rd kK false D 249 [.ref 170, .int p, .int q] ph (v, ph', 0, 0) ∧ (∃ r : Int32, v = some (.int r) ∧ xH xX kK m 0 ph' ∧ xV ph' ∧ xINV n ph' ∧ R ph') := by
  obtain ⟨D', rfl⟩ : ∃ D', D = D' + 1 + 1 := ⟨D - 2, by omega⟩
  have hEVR := xHE_and xHEVR hR
  refine xRd_mk (nl := 3) rfl rfl ?_
  show xGT kK (D' + 1) 249 _ (0, [some (.ref 170), some (.int p), some (.int q)], [], ph, 0, 0)
  refine gt_load (v := .ref 170) (n := 1) (ykc_249 (e := (2, .aload_n kF0, 0)) rfl) rfl rfl ?_
  refine gt_alu (st' := [.int (Int32.ofInt 0), .ref 170]) (ykc_249 (e := (0, .iconst 0, 0)) rfl) rfl rfl ?_
  refine gt_pf (y := Int32.ofInt 0) (ykc_249 (e := (5, .putfield 3, 0)) rfl) rfl hP rfl rfl (by decide) (by decide) rfl (fun ph1 hP1 u1 => ?_)
  have g1 : xV ph1 ∧ R ph1 := xu1_E hEVR u1 rfl rfl rfl ⟨hV, hr⟩
  have i1 : xINV n ph1 := xu1_E (xHEI n) u1 rfl rfl rfl hI
  obtain ⟨U, q27, hU0, hU1⟩ := xM_fi (k := 27) hP1 rfl
  have hU0 : 0 ≤ U.toInt := hU0
  have hU1 : U.toInt ≤ 15 := hU1
  refine gt_load (v := .ref 170) (n := 1) (ykc_249 (e := (2, .aload_n kF0, 0)) rfl) rfl rfl ?_
  refine gt_cv (n := 0) (as := [.ref 170]) (r := []) (ykc_249 (e := (6, .invokevirtual 363, 0)) rfl) rfl hP1 rfl rfl rfl (xputsBy (D := D') hEVR rfl (fun _ => rfl) (u := U.toInt.toNat) (by omega) (by omega) q27 hP1 g1) rfl (fun vv ph2 hv => ?_)
  obtain ⟨e9, hP2, g2, c2⟩ := hv; subst e9
  change xGT kK (D' + 1) 249 _ (9, [some (.ref 170), some (.int p), some (.int q)], [], ph2, 0, 0)
  obtain ⟨i2, r2, q2⟩ := xINV_puts i1 q27 c2
  have g2x : xIR R n U.toInt.toNat U ph2 := ⟨⟨g2, i2⟩, r2, q2⟩
  refine gt_load (v := .ref 170) (n := 1) (ykc_249 (e := (2, .aload_n kF0, 0)) rfl) rfl rfl ?_
  refine gt_load (v := .ref 170) (n := 1) (ykc_249 (e := (2, .aload_n kF0, 0)) rfl) rfl rfl ?_
  refine gt_load (v := .ref 170) (n := 1) (ykc_249 (e := (2, .aload_n kF0, 0)) rfl) rfl rfl ?_
  refine gt_gfr (A := 174) (ykc_249 (e := (5, .getfield 41, 0)) rfl) rfl hP2 rfl rfl rfl ?_
  refine gt_load (v := .int p) (n := 1) (ykc_249 (e := (2, .iload_n kF1, 0)) rfl) rfl rfl ?_
  refine gt_load (v := .int q) (n := 1) (ykc_249 (e := (2, .iload_n kF2, 0)) rfl) rfl rfl ?_
  refine gt_cv (n := 3) (as := [.ref 170, .ref 174, .int p, .int q]) (r := [.ref 170]) (ykc_249 (e := (6, .invokevirtual 377, 0)) rfl) rfl hP2 rfl rfl rfl (xone_faces (xHIR_G84 hR) hm h0m (by omega) hP2 g2x) rfl (fun vv ph3 hv => ?_)
  obtain ⟨r1, e9, hP3, g3⟩ := hv; subst e9
  change xGT kK (D' + 1) 249 _ (20, [some (.ref 170), some (.int p), some (.int q)], [.int r1, .ref 170], ph3, 0, 0)
  refine gt_cv (n := 1) (as := [.ref 170, .int r1]) (r := []) (ykc_249 (e := (6, .invokevirtual 380, 0)) rfl) rfl hP3 rfl rfl rfl (xcounted hR (by omega) hP3 g3 rfl) rfl (fun vv ph4 hv => ?_)
  obtain ⟨e9, hP4, i4, g4⟩ := hv; subst e9
  change xGT kK (D' + 1) 249 _ (23, [some (.ref 170), some (.int p), some (.int q)], [.int r1], ph4, 0, 0)
  refine gt_ret (ykc_249 (e := (7, .ireturn, 0)) rfl) rfl ?_
  exact ⟨r1, rfl, hP4, g4.1, i4, g4.2⟩

set_option maxRecDepth 6000 in
theorem xone_steps {E : pm_H → Prop} (hE : xHE xX xgA_G8 xgF_G8 E) (hS : xSt E) {m : Int} (hm : m ≤ 2147483646) (h0m : (0 : Int) ≤ m) {D : Nat} (hD : 3 ≤ D) {ph : pm_H} {p q : Int32} (hP : xH xX kK m 0 ph) (g9 : E ph) : ∃ v ph', pm_Rd kK false D 245 [.ref 170, .ref 174, .int p, .int q] ph (v, ph', 0, 0) ∧ (∃ r : Int32, v = some (.int r) ∧ xH xX kK m 0 ph' ∧ E ph') := by
  obtain ⟨v, ph', k1, k2, k3, ⟨u, e, z, e2, -⟩, -⟩ := (xn_344_0 hE hS) D hD m hm h0m [.ref 170, .ref 174, .int p, .int q] ph ⟨xaRi rfl (by decide), xaRi rfl (by decide), xaT, xaT, trivial⟩ xF0 hP g9
  exact ⟨v, ph', k1, z, by rw [e, e2], k2, k3⟩
set_option maxRecDepth 6000 in
theorem xw_steps {R : pm_H → Prop} (hR : xHE xX xgA_VR xgF_VR R) {m : Int} (hm : m ≤ 2147483646) (h0m : (0 : Int) ≤ m) {D n : Nat} (hD : 20 ≤ D) {ph : pm_H} {p q : Int32} (hP : xH xX kK m 0 ph) (hV : xV ph) (hI : xINV n ph) (hr : R ph) : ∃ v ph', pm_Rd kK false D 250 [.ref 170, .int p, .int q] ph (v, ph', 0, 0) ∧ (∃ r : Int32, v = some (.int r) ∧ xH xX kK m 0 ph' ∧ xV ph' ∧ xINV n ph' ∧ R ph') := by
  obtain ⟨D', rfl⟩ : ∃ D', D = D' + 1 + 1 := ⟨D - 2, by omega⟩
  have hEVR := xHE_and xHEVR hR
  refine xRd_mk (nl := 3) rfl rfl ?_
  show xGT kK (D' + 1) 250 _ (0, [some (.ref 170), some (.int p), some (.int q)], [], ph, 0, 0)
  refine gt_load (v := .ref 170) (n := 1) (ykc_250 (e := (2, .aload_n kF0, 0)) rfl) rfl rfl ?_
  refine gt_alu (st' := [.int (Int32.ofInt 0), .ref 170]) (ykc_250 (e := (0, .iconst 0, 0)) rfl) rfl rfl ?_
  refine gt_pf (y := Int32.ofInt 0) (ykc_250 (e := (5, .putfield 3, 0)) rfl) rfl hP rfl rfl (by decide) (by decide) rfl (fun ph1 hP1 u1 => ?_)
  have g1 : xV ph1 ∧ R ph1 := xu1_E hEVR u1 rfl rfl rfl ⟨hV, hr⟩
  have i1 : xINV n ph1 := xu1_E (xHEI n) u1 rfl rfl rfl hI
  obtain ⟨U, q27, hU0, hU1⟩ := xM_fi (k := 27) hP1 rfl
  have hU0 : 0 ≤ U.toInt := hU0
  have hU1 : U.toInt ≤ 15 := hU1
  refine gt_load (v := .ref 170) (n := 1) (ykc_250 (e := (2, .aload_n kF0, 0)) rfl) rfl rfl ?_
  refine gt_cv (n := 0) (as := [.ref 170]) (r := []) (ykc_250 (e := (6, .invokevirtual 363, 0)) rfl) rfl hP1 rfl rfl rfl (xputsBy (D := D') hEVR rfl (fun _ => rfl) (u := U.toInt.toNat) (by omega) (by omega) q27 hP1 g1) rfl (fun vv ph2 hv => ?_)
  obtain ⟨e9, hP2, g2, c2⟩ := hv; subst e9
  change xGT kK (D' + 1) 250 _ (9, [some (.ref 170), some (.int p), some (.int q)], [], ph2, 0, 0)
  obtain ⟨i2, r2, q2⟩ := xINV_puts i1 q27 c2
  have g2x : xIR R n U.toInt.toNat U ph2 := ⟨⟨g2, i2⟩, r2, q2⟩
  refine gt_load (v := .ref 170) (n := 1) (ykc_250 (e := (2, .aload_n kF0, 0)) rfl) rfl rfl ?_
  refine gt_load (v := .ref 170) (n := 1) (ykc_250 (e := (2, .aload_n kF0, 0)) rfl) rfl rfl ?_
  refine gt_load (v := .ref 170) (n := 1) (ykc_250 (e := (2, .aload_n kF0, 0)) rfl) rfl rfl ?_
  refine gt_gfr (A := 174) (ykc_250 (e := (5, .getfield 41, 0)) rfl) rfl hP2 rfl rfl rfl ?_
  refine gt_load (v := .int p) (n := 1) (ykc_250 (e := (2, .iload_n kF1, 0)) rfl) rfl rfl ?_
  refine gt_load (v := .int q) (n := 1) (ykc_250 (e := (2, .iload_n kF2, 0)) rfl) rfl rfl ?_
  refine gt_cv (n := 3) (as := [.ref 170, .ref 174, .int p, .int q]) (r := [.ref 170]) (ykc_250 (e := (6, .invokevirtual 383, 0)) rfl) rfl hP2 rfl rfl rfl (xone_steps (xHIR_G8 hR) (xIR_St hR) hm h0m (by omega) hP2 g2x) rfl (fun vv ph3 hv => ?_)
  obtain ⟨r1, e9, hP3, g3⟩ := hv; subst e9
  change xGT kK (D' + 1) 250 _ (20, [some (.ref 170), some (.int p), some (.int q)], [.int r1, .ref 170], ph3, 0, 0)
  refine gt_cv (n := 1) (as := [.ref 170, .int r1]) (r := []) (ykc_250 (e := (6, .invokevirtual 380, 0)) rfl) rfl hP3 rfl rfl rfl (xcounted hR (by omega) hP3 g3 rfl) rfl (fun vv ph4 hv => ?_)
  obtain ⟨e9, hP4, i4, g4⟩ := hv; subst e9
  change xGT kK (D' + 1) 250 _ (23, [some (.ref 170), some (.int p), some (.int q)], [.int r1], ph4, 0, 0)
  refine gt_ret (ykc_250 (e := (7, .ireturn, 0)) rfl) rfl ?_
  exact ⟨r1, rfl, hP4, g4.1, i4, g4.2⟩

set_option maxRecDepth 6000 in
theorem xone_trims {E : pm_H → Prop} (hE : xHE xX xgA_G80 xgF_G80 E) {m : Int} (hm : m ≤ 2147483646) (h0m : (0 : Int) ≤ m) {D : Nat} (hD : 3 ≤ D) {ph : pm_H} {p q : Int32} (hP : xH xX kK m 0 ph) (g9 : E ph) : ∃ v ph', pm_Rd kK false D 246 [.ref 170, .int p, .int q] ph (v, ph', 0, 0) ∧ (∃ r : Int32, v = some (.int r) ∧ xH xX kK m 0 ph' ∧ E ph') := by
  obtain ⟨v, ph', k1, k2, k3, ⟨u, e, z, e2, -⟩, -⟩ := (xn_246_0 hE) D hD m hm h0m [.ref 170, .int p, .int q] ph ⟨xaRi rfl (by decide), xaT, xaT, trivial⟩ xF0 hP g9
  exact ⟨v, ph', k1, z, by rw [e, e2], k2, k3⟩
set_option maxRecDepth 6000 in
theorem xw_trims {R : pm_H → Prop} (hR : xHE xX xgA_VR xgF_VR R) {m : Int} (hm : m ≤ 2147483646) (h0m : (0 : Int) ≤ m) {D n : Nat} (hD : 20 ≤ D) {ph : pm_H} {p q : Int32} (hP : xH xX kK m 0 ph) (hV : xV ph) (hI : xINV n ph) (hr : R ph) : ∃ v ph', pm_Rd kK false D 251 [.ref 170, .int p, .int q] ph (v, ph', 0, 0) ∧ (∃ r : Int32, v = some (.int r) ∧ xH xX kK m 0 ph' ∧ xV ph' ∧ xINV n ph' ∧ R ph') := by
  obtain ⟨D', rfl⟩ : ∃ D', D = D' + 1 + 1 := ⟨D - 2, by omega⟩
  have hEVR := xHE_and xHEVR hR
  refine xRd_mk (nl := 3) rfl rfl ?_
  show xGT kK (D' + 1) 251 _ (0, [some (.ref 170), some (.int p), some (.int q)], [], ph, 0, 0)
  refine gt_load (v := .ref 170) (n := 1) (ykc_251 (e := (2, .aload_n kF0, 0)) rfl) rfl rfl ?_
  refine gt_alu (st' := [.int (Int32.ofInt 0), .ref 170]) (ykc_251 (e := (0, .iconst 0, 0)) rfl) rfl rfl ?_
  refine gt_pf (y := Int32.ofInt 0) (ykc_251 (e := (5, .putfield 3, 0)) rfl) rfl hP rfl rfl (by decide) (by decide) rfl (fun ph1 hP1 u1 => ?_)
  have g1 : xV ph1 ∧ R ph1 := xu1_E hEVR u1 rfl rfl rfl ⟨hV, hr⟩
  have i1 : xINV n ph1 := xu1_E (xHEI n) u1 rfl rfl rfl hI
  obtain ⟨U, q27, hU0, hU1⟩ := xM_fi (k := 27) hP1 rfl
  have hU0 : 0 ≤ U.toInt := hU0
  have hU1 : U.toInt ≤ 15 := hU1
  refine gt_load (v := .ref 170) (n := 1) (ykc_251 (e := (2, .aload_n kF0, 0)) rfl) rfl rfl ?_
  refine gt_cv (n := 0) (as := [.ref 170]) (r := []) (ykc_251 (e := (6, .invokevirtual 363, 0)) rfl) rfl hP1 rfl rfl rfl (xputsBy (D := D') hEVR rfl (fun _ => rfl) (u := U.toInt.toNat) (by omega) (by omega) q27 hP1 g1) rfl (fun vv ph2 hv => ?_)
  obtain ⟨e9, hP2, g2, c2⟩ := hv; subst e9
  change xGT kK (D' + 1) 251 _ (9, [some (.ref 170), some (.int p), some (.int q)], [], ph2, 0, 0)
  obtain ⟨i2, r2, q2⟩ := xINV_puts i1 q27 c2
  have g2x : xIR R n U.toInt.toNat U ph2 := ⟨⟨g2, i2⟩, r2, q2⟩
  refine gt_load (v := .ref 170) (n := 1) (ykc_251 (e := (2, .aload_n kF0, 0)) rfl) rfl rfl ?_
  refine gt_load (v := .ref 170) (n := 1) (ykc_251 (e := (2, .aload_n kF0, 0)) rfl) rfl rfl ?_
  refine gt_load (v := .int p) (n := 1) (ykc_251 (e := (2, .iload_n kF1, 0)) rfl) rfl rfl ?_
  refine gt_load (v := .int q) (n := 1) (ykc_251 (e := (2, .iload_n kF2, 0)) rfl) rfl rfl ?_
  refine gt_cv (n := 2) (as := [.ref 170, .int p, .int q]) (r := [.ref 170]) (ykc_251 (e := (6, .invokevirtual 386, 0)) rfl) rfl hP2 rfl rfl rfl (xone_trims (xHIR_G80 hR) hm h0m (by omega) hP2 g2x) rfl (fun vv ph3 hv => ?_)
  obtain ⟨r1, e9, hP3, g3⟩ := hv; subst e9
  change xGT kK (D' + 1) 251 _ (16, [some (.ref 170), some (.int p), some (.int q)], [.int r1, .ref 170], ph3, 0, 0)
  refine gt_cv (n := 1) (as := [.ref 170, .int r1]) (r := []) (ykc_251 (e := (6, .invokevirtual 380, 0)) rfl) rfl hP3 rfl rfl rfl (xcounted hR (by omega) hP3 g3 rfl) rfl (fun vv ph4 hv => ?_)
  obtain ⟨e9, hP4, i4, g4⟩ := hv; subst e9
  change xGT kK (D' + 1) 251 _ (19, [some (.ref 170), some (.int p), some (.int q)], [.int r1], ph4, 0, 0)
  refine gt_ret (ykc_251 (e := (7, .ireturn, 0)) rfl) rfl ?_
  exact ⟨r1, rfl, hP4, g4.1, i4, g4.2⟩

set_option maxRecDepth 6000 in
theorem xone_puts {E : pm_H → Prop} (hE : xHE xX xgA_G8 xgF_G8 E) (hS : xSt E) {m : Int} (hm : m ≤ 2147483646) (h0m : (0 : Int) ≤ m) {D : Nat} (hD : 3 ≤ D) {ph : pm_H} {p q : Int32} (hP : xH xX kK m 0 ph) (g9 : E ph) : ∃ v ph', pm_Rd kK false D 247 [.ref 170, .int p, .int q] ph (v, ph', 0, 0) ∧ (∃ r : Int32, v = some (.int r) ∧ xH xX kK m 0 ph' ∧ E ph') := by
  obtain ⟨v, ph', k1, k2, k3, ⟨u, e, z, e2, -⟩, -⟩ := (xn_247_0 hE hS) D hD m hm h0m [.ref 170, .int p, .int q] ph ⟨xaRi rfl (by decide), xaT, xaT, trivial⟩ xF0 hP g9
  exact ⟨v, ph', k1, z, by rw [e, e2], k2, k3⟩
set_option maxRecDepth 6000 in
theorem xw_puts {R : pm_H → Prop} (hR : xHE xX xgA_VR xgF_VR R) {m : Int} (hm : m ≤ 2147483646) (h0m : (0 : Int) ≤ m) {D n : Nat} (hD : 20 ≤ D) {ph : pm_H} {p q : Int32} (hP : xH xX kK m 0 ph) (hV : xV ph) (hI : xINV n ph) (hr : R ph) : ∃ v ph', pm_Rd kK false D 252 [.ref 170, .int p, .int q] ph (v, ph', 0, 0) ∧ (∃ r : Int32, v = some (.int r) ∧ xH xX kK m 0 ph' ∧ xV ph' ∧ xINV n ph' ∧ R ph') := by
  obtain ⟨D', rfl⟩ : ∃ D', D = D' + 1 + 1 := ⟨D - 2, by omega⟩
  have hEVR := xHE_and xHEVR hR
  refine xRd_mk (nl := 3) rfl rfl ?_
  show xGT kK (D' + 1) 252 _ (0, [some (.ref 170), some (.int p), some (.int q)], [], ph, 0, 0)
  refine gt_load (v := .ref 170) (n := 1) (ykc_252 (e := (2, .aload_n kF0, 0)) rfl) rfl rfl ?_
  refine gt_alu (st' := [.int (Int32.ofInt 0), .ref 170]) (ykc_252 (e := (0, .iconst 0, 0)) rfl) rfl rfl ?_
  refine gt_pf (y := Int32.ofInt 0) (ykc_252 (e := (5, .putfield 3, 0)) rfl) rfl hP rfl rfl (by decide) (by decide) rfl (fun ph1 hP1 u1 => ?_)
  have g1 : xV ph1 ∧ R ph1 := xu1_E hEVR u1 rfl rfl rfl ⟨hV, hr⟩
  have i1 : xINV n ph1 := xu1_E (xHEI n) u1 rfl rfl rfl hI
  obtain ⟨U, q27, hU0, hU1⟩ := xM_fi (k := 27) hP1 rfl
  have hU0 : 0 ≤ U.toInt := hU0
  have hU1 : U.toInt ≤ 15 := hU1
  refine gt_load (v := .ref 170) (n := 1) (ykc_252 (e := (2, .aload_n kF0, 0)) rfl) rfl rfl ?_
  refine gt_cv (n := 0) (as := [.ref 170]) (r := []) (ykc_252 (e := (6, .invokevirtual 363, 0)) rfl) rfl hP1 rfl rfl rfl (xputsBy (D := D') hEVR rfl (fun _ => rfl) (u := U.toInt.toNat) (by omega) (by omega) q27 hP1 g1) rfl (fun vv ph2 hv => ?_)
  obtain ⟨e9, hP2, g2, c2⟩ := hv; subst e9
  change xGT kK (D' + 1) 252 _ (9, [some (.ref 170), some (.int p), some (.int q)], [], ph2, 0, 0)
  obtain ⟨i2, r2, q2⟩ := xINV_puts i1 q27 c2
  have g2x : xIR R n U.toInt.toNat U ph2 := ⟨⟨g2, i2⟩, r2, q2⟩
  refine gt_load (v := .ref 170) (n := 1) (ykc_252 (e := (2, .aload_n kF0, 0)) rfl) rfl rfl ?_
  refine gt_load (v := .ref 170) (n := 1) (ykc_252 (e := (2, .aload_n kF0, 0)) rfl) rfl rfl ?_
  refine gt_load (v := .int p) (n := 1) (ykc_252 (e := (2, .iload_n kF1, 0)) rfl) rfl rfl ?_
  refine gt_load (v := .int q) (n := 1) (ykc_252 (e := (2, .iload_n kF2, 0)) rfl) rfl rfl ?_
  refine gt_cv (n := 2) (as := [.ref 170, .int p, .int q]) (r := [.ref 170]) (ykc_252 (e := (6, .invokevirtual 389, 0)) rfl) rfl hP2 rfl rfl rfl (xone_puts (xHIR_G8 hR) (xIR_St hR) hm h0m (by omega) hP2 g2x) rfl (fun vv ph3 hv => ?_)
  obtain ⟨r1, e9, hP3, g3⟩ := hv; subst e9
  change xGT kK (D' + 1) 252 _ (16, [some (.ref 170), some (.int p), some (.int q)], [.int r1, .ref 170], ph3, 0, 0)
  refine gt_cv (n := 1) (as := [.ref 170, .int r1]) (r := []) (ykc_252 (e := (6, .invokevirtual 380, 0)) rfl) rfl hP3 rfl rfl rfl (xcounted hR (by omega) hP3 g3 rfl) rfl (fun vv ph4 hv => ?_)
  obtain ⟨e9, hP4, i4, g4⟩ := hv; subst e9
  change xGT kK (D' + 1) 252 _ (19, [some (.ref 170), some (.int p), some (.int q)], [.int r1], ph4, 0, 0)
  refine gt_ret (ykc_252 (e := (7, .ireturn, 0)) rfl) rfl ?_
  exact ⟨r1, rfl, hP4, g4.1, i4, g4.2⟩

/-! hours and day of the reference, by hand, printed by wip/x/h_xhours.py -/
set_option maxRecDepth 6000 in
theorem xhL_c {m : Int} {L : List (Option Value)} {s : Option xh} {S : List (Option xh)} (h : xhL xX m L (s :: S)) : ∃ o L', L = o :: L' ∧ (∀ q, s = some q → ∃ v, o = some v ∧ xhG xX m v q) ∧ xhL xX m L' S := by
  cases L with
  | nil => exact h.elim
  | cons o L' => exact ⟨o, L', rfl, h.1, h.2⟩
set_option maxRecDepth 6000 in
theorem xhL_n {m : Int} {L : List (Option Value)} (h : xhL xX m L []) : L = [] := by
  cases L with
  | nil => rfl
  | cons o L' => exact h.elim
set_option maxRecDepth 6000 in
theorem xhF_eq {m : Int} {ph ph' : pm_H} {fs : List (Nat × xh)} (h : xhF xX m ph fs) (hk : fs.all (fun p => Nat.beq (p.1 / 4096) 170) = true) (e : ∀ k, xget ph' 170 k = xget ph 170 k) : xhF xX m ph' fs := fun k q hq => by
  obtain ⟨h1, h2, v, h3, h4⟩ := h k q hq
  have h5 : k / 4096 = 170 := Nat.eq_of_beq_eq_true (List.all_eq_true.mp hk (k, q) hq)
  refine ⟨h1, h2, v, ?_, h4⟩
  rw [h5] at h3 ⊢
  rw [e]
  exact h3
set_option maxRecDepth 6000 in
theorem xhF_get {m : Int} {ph : pm_H} {fs : List (Nat × xh)} {k c : Nat} {lo hi : Int} (h : xhF xX m ph fs) (hm : (k, Sum.inl (lo, hi)) ∈ fs) (hk : k / 4096 = 170) (hc : k % 4096 = c) : ∃ x : Int32, xget ph 170 c = some (.int x) ∧ lo ≤ x.toInt ∧ x.toInt ≤ hi := by
  obtain ⟨-, -, v, h3, x, e, h5, h6⟩ := h k _ hm
  subst e
  rw [hk, hc] at h3
  exact ⟨x, h3, h5, h6⟩
set_option maxRecDepth 6000 in
theorem xone_known {m : Int} (hm : m ≤ 2147483646) (h0m : (0 : Int) ≤ m) {D : Nat} (hD : 2 ≤ D) {ph : pm_H} (hP : xH xX kK m 0 ph) : ∃ v ph', pm_Rd kK false D 234 [.ref 170, .ref 174] ph (v, ph', 0, 0) ∧ (∃ r : Int32, v = some (.int r) ∧ ph' = ph) := by
  obtain ⟨v, ph', k1, k2, k3, ⟨u, e, z, e2, -⟩, -⟩ := (xn_234_0 (E := fun p => p = ph)) D hD m hm h0m [.ref 170, .ref 174] ph ⟨xaRi rfl (by decide), xaRi rfl (by decide), trivial⟩ xF0 hP rfl
  exact ⟨v, ph', k1, z, by rw [e, e2], k3⟩
def xgF_VS : List (Nat × Nat) := [(0, 23), (44, 1), (0, 8), (31, 13), (31, 14), (32, 0), (32, 1), (32, 2), (32, 3), (32, 4), (32, 5), (32, 6), (32, 7), (38, 0), (38, 1), (38, 2), (38, 3), (38, 4), (38, 5), (38, 6), (38, 7), (46, 1), (48, 0), (48, 1), (48, 2), (48, 3), (48, 4), (53, 4), (58, 0), (58, 1), (58, 2), (58, 3), (58, 4), (61, 2), (64, 2), (77, 1), (77, 3), (77, 5), (77, 6), (77, 7), (82, 1), (82, 3), (82, 5), (82, 6), (82, 7), (104, 0), (104, 1), (104, 2), (104, 3), (104, 4), (104, 5), (104, 6), (104, 7), (110, 0), (110, 1), (110, 2), (110, 3), (110, 4), (110, 5), (110, 6), (110, 7), (116, 0), (116, 1), (116, 2), (116, 3), (116, 4), (116, 5), (116, 6), (116, 7), (53, 1), (53, 2), (63, 2), (63, 3), (0, 3), (0, 4), (0, 5), (0, 6), (0, 39)]
set_option maxRecDepth 6000 in
theorem xHE_VS {R : pm_H → Prop} (hR : xHE xX xgA_VR xgF_VS R) : xHE xX xgA_VR xgF_VR R := xHE_sub (by decide +kernel) (by decide +kernel) hR

set_option maxRecDepth 6000 in
theorem xw_hours {R : pm_H → Prop} (hR : xHE xX xgA_VR xgF_VR R) {m : Int} (hm : m ≤ 2147483646) (h0m : (0 : Int) ≤ m) (h9m : (99 : Int) ≤ m) {D n : Nat} (hD : 30 ≤ D) {ph : pm_H} {p0 : Int32} (hP : xH xX kK m 99 ph) (hV : xV ph) (hI : xINV n ph) (hr : R ph) : ∃ v ph', pm_Rd kK false D 248 [.ref 170, .int p0] ph (v, ph', 0, 0) ∧ (∃ r : Int32, v = some (.int r) ∧ xH xX kK m 0 ph' ∧ xV ph' ∧ xINV n ph' ∧ R ph') := by
  obtain ⟨D', rfl⟩ : ∃ D', D = D' + 1 + 1 := ⟨D - 2, by omega⟩
  have hEVR := xHE_and xHEVR hR
  refine xRd_mk (nl := 5) rfl rfl ?_
  show xGT kK (D' + 1) 248 _ (0, [some (.ref 170), some (.int p0), none, none, none], [], ph, 0, 0)
  refine xsg_248a (E := fun p => (xV p ∧ R p) ∧ xINV n p) (xHE_and (xHE_sub (by decide +kernel) (by decide +kernel) hEVR) (xHE_sub (by decide +kernel) (by decide +kernel) (xHEI n))) (by omega) hm ?_ ?_ _ ph h9m ⟨fun q e => by cases e; exact ⟨_, rfl, xaRi rfl (by decide)⟩, fun q e => by cases e; exact ⟨_, rfl, xaT⟩, fun q e => (by cases e), fun q e => (by cases e), fun q e => (by cases e), trivial⟩ xF0 hP ⟨⟨hV, hr⟩, hI⟩
  · intro nd hnd L ph h1 h2 h3 hP g5
    have e9 := List.mem_singleton.mp (show nd ∈ [xnx_248a_1.1] from hnd)
    subst e9
    obtain ⟨o0, L, e, q0, j1⟩ := xhL_c h2
    subst e
    obtain ⟨o1, L, e, q1, j2⟩ := xhL_c j1
    subst e
    obtain ⟨o2, L, e, -, j3⟩ := xhL_c j2
    subst e
    obtain ⟨o3, L, e, -, j4⟩ := xhL_c j3
    subst e
    obtain ⟨o4, L, e, -, j5⟩ := xhL_c j4
    subst e
    have e := xhL_n j5
    subst e
    obtain ⟨v0, e0, q0⟩ := q0 _ rfl
    have e8 := xaO (A := 170) hP rfl q0
    subst e0 e8
    obtain ⟨v1, e1, p, e2, p1, p2⟩ := q1 _ rfl
    subst e1 e2
    have p1 : 0 ≤ p.toInt := p1
    have p2 : p.toInt ≤ 60 := p2
    replace hP : xH xX kK m 99 ph := hP
    change xGT kK (D' + 1) 248 _ (19, [some (.ref 170), some (.int p), o2, o3, o4], [], ph, 0, 0)
    have g5 : (xV ph ∧ R ph) ∧ xINV n ph := g5
    obtain ⟨U, q27, hU0, hU1⟩ := xM_fi (k := 27) hP rfl
    have hU0 : 0 ≤ U.toInt := hU0
    have hU1 : U.toInt ≤ 15 := hU1
    refine gt_load (v := .ref 170) (n := 1) (ykc_248 (e := (2, .aload_n kF0, 0)) rfl) rfl rfl ?_
    refine gt_cv (n := 0) (as := [.ref 170]) (r := []) (ykc_248 (e := (6, .invokevirtual 363, 0)) rfl) rfl hP rfl rfl rfl (xputsBy (D := D') hEVR rfl (fun _ => rfl) (u := U.toInt.toNat) (by omega) (by omega) q27 hP g5.1) rfl (fun vv ph1 hv => ?_)
    obtain ⟨e9, hP2, g2, c2⟩ := hv; subst e9
    change xGT kK (D' + 1) 248 _ (23, [some (.ref 170), some (.int p), o2, o3, o4], [], ph1, 0, 0)
    obtain ⟨i2, r2, q2⟩ := xINV_puts g5.2 q27 c2
    have g2x : xIR R n U.toInt.toNat U ph1 := ⟨⟨g2, i2⟩, r2, q2⟩
    refine xsg_248b (xHIR_G83 hR) (fun _ q => q.1.1.1) (by omega) hm ?_ ?_ _ ph1 h9m ⟨fun q e => by cases e; exact ⟨_, rfl, xaRi rfl (by decide)⟩, fun q e => by cases e; exact ⟨_, rfl, xaI p1 p2⟩, fun q e => (by cases e), fun q e => (by cases e), fun q e => (by cases e), trivial⟩ (xhF_eq h3 (by decide) (fun k => c2.2.1 170 k (fun q => absurd q.1 (by decide)))) hP2 g2x
    · intro nd hnd L ph3 h1 h2 h3 hP3 g6
      have e9 := List.mem_singleton.mp (show nd ∈ [xnx_248b_2.1] from hnd)
      subst e9
      obtain ⟨o0, L, e, q0, j1⟩ := xhL_c h2
      subst e
      obtain ⟨r1, L, e, -, j2⟩ := xhL_c j1
      subst e
      obtain ⟨r2, L, e, -, j3⟩ := xhL_c j2
      subst e
      obtain ⟨r3, L, e, -, j4⟩ := xhL_c j3
      subst e
      obtain ⟨r4, L, e, -, j5⟩ := xhL_c j4
      subst e
      have e := xhL_n j5
      subst e
      obtain ⟨v0, e0, q0⟩ := q0 _ rfl
      have e8 := xaO (A := 170) hP3 rfl q0
      subst e0 e8
      replace hP3 : xH xX kK m 0 ph3 := hP3
      have g6 : xIR R n U.toInt.toNat U ph3 := g6
      change xGT kK (D' + 1) 248 _ (100, [some (.ref 170), r1, r2, r3, r4], [], ph3, 0, 0)
      refine gt_load (v := .ref 170) (n := 1) (ykc_248 (e := (2, .aload_n kF0, 0)) rfl) rfl rfl ?_
      refine gt_load (v := .ref 170) (n := 1) (ykc_248 (e := (2, .aload_n kF0, 0)) rfl) rfl rfl ?_
      refine gt_load (v := .ref 170) (n := 1) (ykc_248 (e := (2, .aload_n kF0, 0)) rfl) rfl rfl ?_
      refine gt_gfr (A := 174) (ykc_248 (e := (5, .getfield 41, 0)) rfl) rfl hP3 rfl rfl rfl ?_
      refine gt_cv (n := 1) (as := [.ref 170, .ref 174]) (r := [.ref 170]) (ykc_248 (e := (6, .invokevirtual 366, 0)) rfl) rfl hP3 rfl rfl rfl (xone_known hm h0m (by omega) hP3) rfl (fun vv ph11 hv => ?_)
      obtain ⟨y, e9, e8⟩ := hv; subst e9; have e7 := e8.symm; subst e7
      change xGT kK (D' + 1) 248 _ (109, [some (.ref 170), r1, r2, r3, r4], [.int y, .ref 170], ph3, 0, 0)
      refine gt_cv (n := 1) (as := [.ref 170, .int y]) (r := []) (ykc_248 (e := (6, .invokevirtual 341, 0)) rfl) rfl hP3 rfl rfl rfl (xadds (D := D') hEVR hP3 g6.1.1 g6.1.2 g6.2.2 g6.2.1) rfl (fun vv ph12 hv => ?_)
      obtain ⟨e9, hP4, i4, g4⟩ := hv; subst e9
      change xGT kK (D' + 1) 248 _ (112, [some (.ref 170), r1, r2, r3, r4], [.int y], ph12, 0, 0)
      refine gt_ret (ykc_248 (e := (7, .ireturn, 0)) rfl) rfl ?_
      exact ⟨y, rfl, hP4, g4.1, i4, g4.2⟩
    · intro v ph' a1 a2 a3 _
      obtain ⟨u, e, z, e2, -⟩ := a3
      exact ⟨z, by rw [e, e2], a1, a2.1.1.1, a2.1.2, a2.1.1.2⟩
  · intro v ph' a1 a2 a3 _
    obtain ⟨u, e, z, e2, -⟩ := a3
    exact ⟨z, by rw [e, e2], a1, a2.1.1, a2.2, a2.1.2⟩

set_option maxRecDepth 6000 in
theorem xint0 {x : Int32} (h1 : (0 : Int) ≤ x.toInt) (h2 : x.toInt ≤ 0) : x = 0 := Int32.toInt_inj.mp (show x.toInt = 0 by omega)
set_option maxRecDepth 6000 in
theorem xw_day {R : pm_H → Prop} (hR0 : xHE xX xgA_VR xgF_VS R) {m : Int} (hm : m ≤ 2147483646) (h0m : (0 : Int) ≤ m) (h9m : (540 : Int) ≤ m) {D n : Nat} (hD : 30 ≤ D) {ph : pm_H} (hP : xH xX kK m 540 ph) (hV : xV ph) (hI : xINV n ph) (hr : R ph) : ∃ v ph', pm_Rd kK false D 255 [.ref 170] ph (v, ph', 0, 0) ∧ (∃ r : Int32, v = some (.int r) ∧ xH xX kK m 0 ph' ∧ xV ph' ∧ xINV n ph' ∧ R ph' ∧ xget ph' 170 14 = some (.int 0)) := by
  obtain ⟨D', rfl⟩ : ∃ D', D = D' + 1 + 1 := ⟨D - 2, by omega⟩
  have hR : xHE xX xgA_VR xgF_VR (fun p => R p ∧ xget p 170 14 = some (.int 0)) := xHE_and (xHE_VS hR0) (xHE_g rfl)
  have hEVR := xHE_and xHEVR hR
  have hEV0 := xHE_and (xHE_sub (gA' := xgA_VR) (gF' := xgF_VS) (by decide +kernel) (by decide +kernel) xHEV) hR0
  refine xRd_mk (nl := 5) rfl rfl ?_
  show xGT kK (D' + 1) 255 _ (0, [some (.ref 170), none, none, none, none], [], ph, 0, 0)
  refine xsg_255a (E := fun p => (xV p ∧ R p) ∧ xINV n p) (xHE_and (xHE_sub (by decide +kernel) (by decide +kernel) hEV0) (xHE_sub (by decide +kernel) (by decide +kernel) (xHEI n))) (by omega) hm ?_ ?_ _ ph h9m ⟨fun q e => by cases e; exact ⟨_, rfl, xaRi rfl (by decide)⟩, fun q e => (by cases e), fun q e => (by cases e), fun q e => (by cases e), fun q e => (by cases e), trivial⟩ xF0 hP ⟨⟨hV, hr⟩, hI⟩
  · intro nd hnd L ph h1 h2 h3 hP g5
    have e9 := List.mem_singleton.mp (show nd ∈ [xnx_255a_62.1] from hnd)
    subst e9
    obtain ⟨o0, L, e, q0, j1⟩ := xhL_c h2
    subst e
    obtain ⟨o1, L, e, -, j2⟩ := xhL_c j1
    subst e
    obtain ⟨o2, L, e, -, j3⟩ := xhL_c j2
    subst e
    obtain ⟨o3, L, e, -, j4⟩ := xhL_c j3
    subst e
    obtain ⟨o4, L, e, -, j5⟩ := xhL_c j4
    subst e
    have e := xhL_n j5
    subst e
    obtain ⟨v0, e0, q0⟩ := q0 _ rfl
    have e8 := xaO (A := 170) hP rfl q0
    subst e0 e8
    replace hP : xH xX kK m 540 ph := hP
    change xGT kK (D' + 1) 255 _ (57, [some (.ref 170), o1, o2, o3, o4], [], ph, 0, 0)
    have g5 : (xV ph ∧ R ph) ∧ xINV n ph := g5
    obtain ⟨t, t0, t1, t2⟩ := xhF_get (k := 696334) (c := 14) h3 (List.Mem.tail _ (List.Mem.head _)) rfl rfl
    have e := xint0 t1 t2
    subst e
    obtain ⟨U, q27, hU0, hU1⟩ := xM_fi (k := 27) hP rfl
    have hU0 : 0 ≤ U.toInt := hU0
    have hU1 : U.toInt ≤ 15 := hU1
    refine gt_load (v := .ref 170) (n := 1) (ykc_255 (e := (2, .aload_n kF0, 0)) rfl) rfl rfl ?_
    refine gt_cv (n := 0) (as := [.ref 170]) (r := []) (ykc_255 (e := (6, .invokevirtual 363, 0)) rfl) rfl hP rfl rfl rfl (xputsBy (D := D') hEVR rfl (fun _ => rfl) (u := U.toInt.toNat) (by omega) (by omega) q27 hP ⟨g5.1.1, g5.1.2, t0⟩) rfl (fun vv ph1 hv => ?_)
    obtain ⟨e9, hP2, g2, c2⟩ := hv; subst e9
    change xGT kK (D' + 1) 255 _ (61, [some (.ref 170), o1, o2, o3, o4], [], ph1, 0, 0)
    obtain ⟨i2, r2, q2⟩ := xINV_puts g5.2 q27 c2
    have g2x : xIR (fun p => R p ∧ xget p 170 14 = some (.int 0)) n U.toInt.toNat U ph1 := ⟨⟨g2, i2⟩, r2, q2⟩
    refine xsg_255b (xHIR_G92 hR) (fun _ q => q.1.1.1) (xIR_St hR) (by omega) hm ?_ ?_ _ ph1 h9m ⟨fun q e => by cases e; exact ⟨_, rfl, xaRi rfl (by decide)⟩, fun q e => (by cases e), fun q e => (by cases e), fun q e => (by cases e), fun q e => (by cases e), trivial⟩ (xhF_eq h3 (by decide) (fun k => c2.2.1 170 k (fun q => absurd q.1 (by decide)))) hP2 g2x
    · intro nd hnd L ph3 h1 h2 h3 hP3 g6
      have e9 := List.mem_singleton.mp (show nd ∈ [xnx_255b_32.1] from hnd)
      subst e9
      obtain ⟨o0, L, e, q0, j1⟩ := xhL_c h2
      subst e
      obtain ⟨r1, L, e, -, j2⟩ := xhL_c j1
      subst e
      obtain ⟨r2, L, e, -, j3⟩ := xhL_c j2
      subst e
      obtain ⟨r3, L, e, -, j4⟩ := xhL_c j3
      subst e
      obtain ⟨o4, L, e, q4, j5⟩ := xhL_c j4
      subst e
      have e := xhL_n j5
      subst e
      obtain ⟨v0, e0, q0⟩ := q0 _ rfl
      have e8 := xaO (A := 170) hP3 rfl q0
      subst e0 e8
      obtain ⟨v4, e4, y, e7, -⟩ := q4 _ rfl
      subst e4 e7
      replace hP3 : xH xX kK m 270 ph3 := hP3
      have g6 : xIR (fun p => R p ∧ xget p 170 14 = some (.int 0)) n U.toInt.toNat U ph3 := g6
      change xGT kK (D' + 1) 255 _ (132, [some (.ref 170), r1, r2, r3, some (.int y)], [], ph3, 0, 0)
      refine gt_load (v := .ref 170) (n := 1) (ykc_255 (e := (2, .aload_n kF0, 0)) rfl) rfl rfl ?_
      refine gt_load (v := .int y) (n := 2) (ykc_255 (e := (2, .iload 4, 0)) rfl) rfl rfl ?_
      refine gt_cv (n := 1) (as := [.ref 170, .int y]) (r := []) (ykc_255 (e := (6, .invokevirtual 341, 0)) rfl) rfl hP3 rfl rfl rfl (xadds (D := D') hEVR (xH_w (Nat.zero_le _) hP3) g6.1.1 g6.1.2 g6.2.2 g6.2.1) rfl (fun vv ph11 hv => ?_)
      obtain ⟨e9, hP4, i4, g4⟩ := hv; subst e9
      change xGT kK (D' + 1) 255 _ (138, [some (.ref 170), r1, r2, r3, some (.int y)], [.int y], ph11, 0, 0)
      refine gt_br (pc' := 142) (st' := [.int y]) (ykc_255 (e := (4, .goto 4, 142)) rfl) rfl ?_
      refine gt_ret (ykc_255 (e := (7, .ireturn, 0)) rfl) rfl ?_
      exact ⟨y, rfl, hP4, g4.1, i4, g4.2.1, g4.2.2⟩
    · intro v ph' a1 a2 a3 _
      obtain ⟨u, e, z, e2, -⟩ := a3
      exact ⟨z, by rw [e, e2], a1, a2.1.1.1, a2.1.2, a2.1.1.2.1, a2.1.1.2.2⟩
  · intro v ph' a1 a2 a3 a4
    obtain ⟨u, e, z, e2, -⟩ := a3
    obtain ⟨t, t0, t1, t2⟩ := xhF_get (k := 696334) (c := 14) a4 (List.Mem.head _) rfl rfl
    have e9 := xint0 t1 t2
    subst e9
    exact ⟨z, by rw [e, e2], a1, a2.1.1, a2.2, a2.1.2, t0⟩

/-! isNew, people, things, valley of the reference, by hand, printed by wip/x/h_xyreaders.py -/
/-- what is kept is no newer than the changes -/
def xKC (n : Nat) (ph : pm_H) : Prop := ∃ C : Int32, xget ph 170 7 = some (.int C) ∧ 0 ≤ C.toInt ∧ C.toInt ≤ n ∧ ∀ i, i < 3 → ∀ y : Int32, xgb ph 198 i y → y.toInt ≠ 0 → ∃ K : Int32, xget ph 199 i = some (.int K) ∧ K.toInt ≤ C.toInt
def xnow (ph : pm_H) : Prop := ∃ W P T : Int32, (xget ph 170 4 = some (.int W) ∧ xget ph 170 5 = some (.int P) ∧ xget ph 170 6 = some (.int T)) ∧ (P.toInt ≤ 8 ∧ T.toInt ≤ 8) ∧ xgr ph W P T 174 0
set_option maxRecDepth 6000 in
theorem xKC_of {n : Nat} {ph : pm_H} (h : xINV n ph) : xKC n ph := by
  obtain ⟨W, P, T, U, C, ⟨f1, f2, f3, f4, f5⟩, ⟨b1, b2, b3, b4⟩, g1, g2, g3⟩ := h
  exact ⟨C, f5, b3, b4, fun i hi y hy h0 => by obtain ⟨K, k1, k2, -⟩ := g3 i hi y hy h0; exact ⟨K, k1, k2⟩⟩
set_option maxRecDepth 6000 in
theorem xnow_of {n : Nat} {ph : pm_H} (h : xINV n ph) : xnow ph := by
  obtain ⟨W, P, T, U, C, ⟨f1, f2, f3, f4, f5⟩, ⟨b1, b2, b3, b4⟩, g1, g2, g3⟩ := h
  exact ⟨W, P, T, ⟨f1, f2, f3⟩, ⟨b1, b2⟩, g1⟩
def xgA_VT : List Nat := [9, 6, 3, 23, 24, 45, 49, 50, 54, 47, 62, 65, 66, 33, 34, 35, 36, 37, 39, 40, 41, 42, 43, 105, 106, 107, 108, 109, 111, 112, 113, 114, 115, 117, 118, 119, 120, 121, 78, 83, 59, 60, 51, 52]
def xgF_VT : List (Nat × Nat) := (0, 14) :: [(0, 23), (44, 1), (0, 8), (31, 13), (31, 14), (32, 0), (32, 1), (32, 2), (32, 3), (32, 4), (32, 5), (32, 6), (32, 7), (38, 0), (38, 1), (38, 2), (38, 3), (38, 4), (38, 5), (38, 6), (38, 7), (46, 1), (48, 0), (48, 1), (48, 2), (48, 3), (48, 4), (53, 4), (58, 0), (58, 1), (58, 2), (58, 3), (58, 4), (61, 2), (64, 2), (77, 1), (77, 3), (77, 5), (77, 6), (77, 7), (82, 1), (82, 3), (82, 5), (82, 6), (82, 7), (104, 0), (104, 1), (104, 2), (104, 3), (104, 4), (104, 5), (104, 6), (104, 7), (110, 0), (110, 1), (110, 2), (110, 3), (110, 4), (110, 5), (110, 6), (110, 7), (116, 0), (116, 1), (116, 2), (116, 3), (116, 4), (116, 5), (116, 6), (116, 7), (53, 1), (53, 2), (63, 2), (63, 3)]
def xgF_VU : List (Nat × Nat) := [(0, 23), (44, 1), (0, 8), (31, 13), (31, 14), (32, 0), (32, 1), (32, 2), (32, 3), (32, 4), (32, 5), (32, 6), (32, 7), (38, 0), (38, 1), (38, 2), (38, 3), (38, 4), (38, 5), (38, 6), (38, 7), (46, 1), (48, 0), (48, 1), (48, 2), (48, 3), (48, 4), (53, 4), (58, 0), (58, 1), (58, 2), (58, 3), (58, 4), (61, 2), (64, 2), (77, 1), (77, 3), (77, 5), (77, 6), (77, 7), (82, 1), (82, 3), (82, 5), (82, 6), (82, 7), (104, 0), (104, 1), (104, 2), (104, 3), (104, 4), (104, 5), (104, 6), (104, 7), (110, 0), (110, 1), (110, 2), (110, 3), (110, 4), (110, 5), (110, 6), (110, 7), (116, 0), (116, 1), (116, 2), (116, 3), (116, 4), (116, 5), (116, 6), (116, 7), (53, 1), (53, 2), (63, 2), (63, 3)]
set_option maxRecDepth 6000 in
theorem xHEVT : xHE xX xgA_VT xgF_VT xV := xHE_sub (by decide +kernel) (by decide +kernel) xHEV
set_option maxRecDepth 6000 in
theorem xHE_VU {R : pm_H → Prop} (hR : xHE xX xgA_VT xgF_VU R) : xHE xX xgA_VT xgF_VT R := xHE_sub (by decide +kernel) (by decide +kernel) hR
def xgA_KC : List Nat := [28, 29]
def xgF_KC : List (Nat × Nat) := [(0, 7)]
set_option maxRecDepth 6000 in
theorem xHEKC (n : Nat) : xHE xX xgA_KC xgF_KC (xKC n) := by
  intro ph ph' hs ⟨C, h1, h2, h3, h4⟩
  refine ⟨C, (hs.2 170 0 7 rfl (by decide)).symm.trans h1, h2, h3, fun i hi y hy h0 => ?_⟩
  obtain ⟨K, k1, k2⟩ := h4 i hi y (xgb_eq (hs.1 198 28 rfl (by decide)).symm hy) h0
  exact ⟨K, (xget_at (hs.1 199 29 rfl (by decide)).symm i).trans k1, k2⟩
set_option maxRecDepth 6000 in
theorem xINV_mk {n : Nat} {ph ph' : pm_H} {C C' U : Int32} (h : xKC n ph) (hC : xget ph 170 7 = some (.int C)) (hn : xnow ph') (h27 : xget ph' 170 27 = some (.int U)) (hU : U.toInt ≤ 0) (h7 : xget ph' 170 7 = some (.int C')) (e : C'.toInt = C.toInt + 1) (a1 : pm_at ph' 198 = pm_at ph 198) (a2 : pm_at ph' 199 = pm_at ph 199) : xINV (n + 1) ph' := by
  obtain ⟨C2, c1, c2, c3, c4⟩ := h
  have e2 := xget_int hC c1
  subst e2
  obtain ⟨W, P, T, ⟨f1, f2, f3⟩, ⟨b1, b2⟩, g1⟩ := hn
  refine ⟨W, P, T, U, C', ⟨f1, f2, f3, h27, h7⟩, ⟨b1, b2, by omega, by omega⟩, g1, fun u hu => absurd hu (by omega), fun i hi y hy h0 => ?_⟩
  obtain ⟨K, k1, k2⟩ := c4 i hi y (xgb_eq a1 hy) h0
  exact ⟨K, (xget_at a2 i).trans k1, by omega, fun q => absurd q (by omega)⟩
set_option maxRecDepth 6000 in
theorem xINV_get {n : Nat} {ph ph' : pm_H} (h : xINV n ph) (hf : ∀ b c, xget ph' b c = xget ph b c) (ha : ∀ a, a ≠ 170 → pm_at ph' a = pm_at ph a) : xINV n ph' := xHEI n ph ph' ⟨fun a i ho hi => (ha a (fun e => by
  subst e
  have h9 : xown 170 = some i := ho
  rw [show xown 170 = some 0 from rfl] at h9
  cases h9
  exact absurd hi (by decide))).symm, fun a i k _ _ => (hf a k).symm⟩ h
set_option maxRecDepth 6000 in
theorem xu1_same {ph ph' : pm_H} {a k : Nat} {v : Value} (u : xu1 ph ph' a k v) (h : xget ph a k = some v) : ∀ b c, xget ph' b c = xget ph b c := fun b c => by
  by_cases q : b = a ∧ c = k
  · obtain ⟨e1, e2⟩ := q
    subst e1 e2
    rw [u.1, h]
  · exact u.2.1 b c q
set_option maxRecDepth 6000 in
/-- a write that is none of a position now, nor of what counts them -/
theorem xnow_u {ph ph' : pm_H} {a k : Nat} {v : Value} (u : xu1 ph ph' a k v) (hk : (a ≠ 170 ∧ a ≠ 174) ∨ (a = 170 ∧ k ≠ 4 ∧ k ≠ 5 ∧ k ≠ 6) ∨ (a = 174 ∧ 8 ≤ k ∧ k < 32)) (h : xnow ph) : xnow ph' := by
  obtain ⟨W, P, T, ⟨f1, f2, f3⟩, ⟨b1, b2⟩, g1⟩ := h
  refine ⟨W, P, T, ⟨(u.2.1 170 4 (fun q => by omega)).trans f1, (u.2.1 170 5 (fun q => by omega)).trans f2, (u.2.1 170 6 (fun q => by omega)).trans f3⟩, ⟨b1, b2⟩, xgr_eq b1 b2 (fun c hc => u.2.1 174 _ (fun q => by omega)) g1⟩
set_option maxRecDepth 6000 in
/-- a good position is put -/
theorem xnow_p {ph ph' : pm_H} {k : Nat} {y : Int32} (u : xu1 ph ph' 174 k (.int y)) (hy : y.toInt ≠ 48 ∨ ∃ W : Int32, xget ph 170 4 = some (.int W) ∧ W.toInt = 7) (h : xnow ph) : xnow ph' := by
  obtain ⟨W, P, T, ⟨f1, f2, f3⟩, ⟨b1, b2⟩, g1⟩ := h
  refine ⟨W, P, T, ⟨(u.2.1 170 4 (fun q => absurd q.1 (by decide))).trans f1, (u.2.1 170 5 (fun q => absurd q.1 (by decide))).trans f2, (u.2.1 170 6 (fun q => absurd q.1 (by decide))).trans f3⟩, ⟨b1, b2⟩, ?_⟩
  rcases hy with hy | ⟨W2, w1, w2⟩
  · rcases g1 with g | g
    · exact Or.inl g
    · refine Or.inr fun c x hc hx => ?_
      by_cases e : 0 + c = k
      · rw [e, u.1] at hx
        cases hx
        exact hy
      · rw [u.2.1 174 (0 + c) (fun q => e q.2)] at hx
        exact g c x hc hx
  · have e := xget_int f1 w1
    subst e
    exact Or.inl w2
set_option maxRecDepth 6000 in
/-- one more who is there, or one more thing -/
theorem xnow_n {ph ph' : pm_H} {P P' x : Int32} {s k : Nat} (hs : (s = 0 ∧ k = 5) ∨ (s = 32 ∧ k = 6)) (u : xu1 ph ph' 170 k (.int P')) (hP : xget ph 170 k = some (.int P)) (e : P'.toInt = P.toInt + 1) (h0 : 0 ≤ P.toInt) (h8 : P'.toInt ≤ 8) (hx : xget ph 174 (s + P.toInt.toNat) = some (.int x)) (hy : x.toInt ≠ 48 ∨ ∃ W : Int32, xget ph 170 4 = some (.int W) ∧ W.toInt = 7) (h : xnow ph) : xnow ph' := by
  obtain ⟨W, P2, T, ⟨f1, f2, f3⟩, ⟨b1, b2⟩, g1⟩ := h
  have ha : ∀ i, xget ph' 174 i = xget ph 174 i := fun i => u.2.1 174 i (fun q => absurd q.1 (by decide))
  rcases hs with ⟨rfl, rfl⟩ | ⟨rfl, rfl⟩
  · have e2 := xget_int f2 hP
    subst e2
    refine ⟨W, P', T, ⟨(u.2.1 170 4 (fun q => absurd q.2 (by decide))).trans f1, u.1, (u.2.1 170 6 (fun q => absurd q.2 (by decide))).trans f3⟩, ⟨h8, b2⟩, ?_⟩
    rcases hy with hy | ⟨W2, w1, w2⟩
    · rcases g1 with g | g
      · exact Or.inl g
      · refine Or.inr fun c z hc hz => ?_
        rw [ha] at hz
        by_cases q : c = P2.toInt.toNat
        · subst q
          rw [hx] at hz
          cases hz
          exact hy
        · exact g c z (by omega) hz
    · have e := xget_int f1 w1
      subst e
      exact Or.inl w2
  · have e2 := xget_int f3 hP
    subst e2
    refine ⟨W, P2, P', ⟨(u.2.1 170 4 (fun q => absurd q.2 (by decide))).trans f1, (u.2.1 170 5 (fun q => absurd q.2 (by decide))).trans f2, u.1⟩, ⟨b1, h8⟩, ?_⟩
    rcases hy with hy | ⟨W2, w1, w2⟩
    · rcases g1 with g | g
      · exact Or.inl g
      · refine Or.inr fun c z hc hz => ?_
        rw [ha] at hz
        by_cases q : c = 32 + T.toInt.toNat
        · subst q
          rw [Nat.zero_add, hx] at hz
          cases hz
          exact hy
        · exact g c z (by omega) hz
    · have e := xget_int f1 w1
      subst e
      exact Or.inl w2
def xfb (fs : List (Nat × xh)) (k : Nat) : Option (Int × Int) := match fs with
  | [] => none
  | (k2, h) :: r => bif Nat.beq k2 k then (match h with
    | .inl p => some p
    | _ => none) else xfb r k
set_option maxRecDepth 6000 in
theorem xfb_ok {k : Nat} {p : Int × Int} : ∀ {fs : List (Nat × xh)}, xfb fs k = some p → (k, Sum.inl p) ∈ fs := by
  intro fs
  induction fs with
  | nil => intro h; cases h
  | cons q r ih =>
    intro h
    obtain ⟨k2, h2⟩ := q
    unfold xfb at h
    cases hb : Nat.beq k2 k with
    | true =>
      rw [hb] at h
      have e := Nat.eq_of_beq_eq_true hb
      subst e
      simp only [cond_true] at h
      split at h
      · cases h
        exact List.mem_cons_self
      · cases h
    | false =>
      rw [hb] at h
      exact List.mem_cons_of_mem _ (ih h)
def xnok (f s : Nat) (fs : List (Nat × xh)) : Bool := match xfb fs 696340 with
  | some (c, c2) => bif (bif zeq c c2 then zle 0 c else false) then bif (match xfb fs (696320 + f) with
      | some (_, q) => zle (q + c) 8
      | none => zeq c 0) then (List.range c.toNat).all (fun t => match xfb fs (728 * 1000 + 1088 + s * t) with
      | some (l, h) => bif (bif zle 0 l then zle h 48 else false) then (bif zle h 47 then true else match xfb fs 696324 with
        | some (a, b) => bif zle 7 a then zle b 7 else false
        | none => false) else false
      | none => false) else false else false
  | none => false
set_option maxRecDepth 6000 in
theorem xnok_ok {f s : Nat} {fs : List (Nat × xh)} {m : Int} {ph : pm_H} (hf : f < 100) (hs : s < 4) (h : xnok f s fs = true) (hF : xhF xX m ph fs) : ∃ c : Int32, xget ph 170 20 = some (.int c) ∧ 0 ≤ c.toInt ∧ (∀ P : Int32, xget ph 170 f = some (.int P) → P.toInt + c.toInt ≤ 8 ∨ c.toInt = 0) ∧ ∀ t : Nat, (t : Int) < c.toInt → t < 24 → ∃ x : Int32, xget ph 178 (s * t) = some (.int x) ∧ 0 ≤ x.toInt ∧ x.toInt ≤ 48 ∧ (x.toInt ≠ 48 ∨ ∃ W : Int32, xget ph 170 4 = some (.int W) ∧ W.toInt = 7) := by
  unfold xnok at h
  split at h
  case h_2 => cases h
  next c0 c2 hc =>
  obtain ⟨h1, h2⟩ := x_and h
  obtain ⟨h3, h4⟩ := x_and h1
  obtain ⟨h5, h6⟩ := x_and h2
  have h3 := zeq_ok h3
  have h4 := zle_le h4
  subst h3
  obtain ⟨c, q1, q2, q3⟩ := xhF_get (c := 20) hF (xfb_ok hc) rfl rfl
  refine ⟨c, q1, by omega, fun P hP => ?_, fun t ht h24 => ?_⟩
  · split at h5
    · next l q hq =>
      obtain ⟨P2, p1, p2, p3⟩ := xhF_get (c := f) hF (xfb_ok hq) (by omega) (by omega)
      have e := xget_int hP p1
      subst e
      have h5 := zle_le h5
      exact Or.inl (by omega)
    · have h5 := zeq_ok h5
      exact Or.inr (by omega)
  · have h7 := List.all_eq_true.mp h6 t (List.mem_range.mpr (by omega))
    split at h7
    case h_2 => cases h7
    next l u hlu =>
    obtain ⟨h8, h9⟩ := x_and h7
    obtain ⟨h10, h11⟩ := x_and h8
    have h10 := zle_le h10
    have h11 := zle_le h11
    obtain ⟨-, -, v, x1, x, e, x2, x3⟩ := hF _ _ (xfb_ok hlu)
    subst e
    have k1 : (728 * 1000 + 1088 + s * t) / 4096 = 178 := by
      have : s * t < 4 * 24 := Nat.mul_lt_mul'' hs h24
      omega
    have k2 : (728 * 1000 + 1088 + s * t) % 4096 = s * t := by
      have : s * t < 4 * 24 := Nat.mul_lt_mul'' hs h24
      omega
    rw [k1, k2] at x1
    have x2 : l ≤ x.toInt := x2
    have x3 : x.toInt ≤ u := x3
    refine ⟨x, x1, by omega, by omega, ?_⟩
    cases hz : zle u 47 with
    | true =>
      have := zle_le hz
      exact Or.inl (by omega)
    | false =>
      rw [hz] at h9
      simp only [cond_false] at h9
      split at h9
      case h_2 => cases h9
      next a b hab =>
      obtain ⟨w1, w2⟩ := x_and h9
      have w1 := zle_le w1
      have w2 := zle_le w2
      obtain ⟨W, w3, w4, w5⟩ := xhF_get (c := 4) hF (xfb_ok hab) rfl rfl
      exact Or.inr ⟨W, w3, by omega⟩
set_option maxRecDepth 6000 in
theorem xs_lo {m : Int} {w k : Nat} {v : Int} (hk : k < 8 ∨ 32 ≤ k ∧ k < 40) (h0 : 0 ≤ v) (h1 : v ≤ 48) : xeG m w v (xat [(8, some ((Int.ofNat 0), (Int.ofNat 48))), (32, some ((Int.negSucc 2147483647), (Int.ofNat 2147483647))), (40, some ((Int.ofNat 0), (Int.ofNat 48))), (41, none)] (k % 41)) := by
  have hmod : k % 41 = k := Nat.mod_eq_of_lt (by omega)
  have h9 : xeG m w v (some ((0 : Int), (48 : Int))) := ⟨h0, h1⟩
  rw [hmod]
  rcases hk with hk | hk
  · have e1 : Nat.blt k 8 = true := Nat.ble_eq_true_of_le (by omega)
    unfold xat
    rw [e1]
    exact h9
  · have e1 : Nat.blt k 8 = false := by
      cases hq : Nat.blt k 8 with
      | false => rfl
      | true => have := Nat.le_of_ble_eq_true hq; omega
    have e2 : Nat.blt k 32 = false := by
      cases hq : Nat.blt k 32 with
      | false => rfl
      | true => have := Nat.le_of_ble_eq_true hq; omega
    have e3 : Nat.blt k 40 = true := Nat.ble_eq_true_of_le (by omega)
    unfold xat
    rw [e1]
    simp only [cond_false]
    unfold xat
    rw [e2]
    simp only [cond_false]
    unfold xat
    rw [e3]
    exact h9
set_option maxRecDepth 6000 in
theorem xs_mid {m : Int} {w k : Nat} {y : Int32} (h1 : 8 ≤ k) (h2 : k < 32) : xeG m w y.toInt (xat [(8, some ((Int.ofNat 0), (Int.ofNat 48))), (32, some ((Int.negSucc 2147483647), (Int.ofNat 2147483647))), (40, some ((Int.ofNat 0), (Int.ofNat 48))), (41, none)] (k % 41)) := by
  have hmod : k % 41 = k := Nat.mod_eq_of_lt (by omega)
  have h9 : xeG m w y.toInt (some ((Int.negSucc 2147483647), (Int.ofNat 2147483647))) := ⟨x32_lo y, x32_hi y⟩
  rw [hmod]
  have e1 : Nat.blt k 8 = false := by
    cases hq : Nat.blt k 8 with
    | false => rfl
    | true => have := Nat.le_of_ble_eq_true hq; omega
  have e2 : Nat.blt k 32 = true := Nat.ble_eq_true_of_le (by omega)
  unfold xat
  rw [e1]
  simp only [cond_false]
  unfold xat
  rw [e2]
  exact h9
set_option maxRecDepth 6000 in
theorem xiinc2 {a : Value} {o1 : Option Value} {i : Int32} : ∃ o2, pm_store (.iinc 2 1) [some a, o1, some (.int i)] [] = some ([some a, o2, some (.int (i + Int32.ofInt 1))], [], 3) := by
  cases o1 with
  | none => exact ⟨_, rfl⟩
  | some v => cases v <;> exact ⟨_, rfl⟩
set_option maxRecDepth 6000 in
theorem xi0 : (Int32.ofInt 0).toInt = 0 := by decide
set_option maxRecDepth 6000 in
theorem xi2 : (Int32.ofInt 2).toInt = 2 := by decide
set_option maxRecDepth 6000 in
theorem xi3 : (Int32.ofInt 3).toInt = 3 := by decide
set_option maxRecDepth 6000 in
theorem x8 : ((Int8.ofInt 8).toInt32).toInt = 8 := by decide
set_option maxRecDepth 6000 in
theorem x16 : ((Int8.ofInt 16).toInt32).toInt = 16 := by decide
set_option maxRecDepth 6000 in
theorem x24 : ((Int8.ofInt 24).toInt32).toInt = 24 := by decide
set_option maxRecDepth 6000 in
theorem x32 : ((Int8.ofInt 32).toInt32).toInt = 32 := by decide

set_option maxRecDepth 6000 in
theorem xisNew {R : pm_H → Prop} (hR : xHE xX xgA_VT xgF_VT R) {m : Int} {w D n : Nat} (hn : n ≤ 1000000) (hD : 2 ≤ D) {ph : pm_H} {c : Int32} (hP : xH xX kK m w ph) (g9 : xV ph ∧ R ph) (hc : xget ph 170 20 = some (.int c)) (hI : (c.toInt ≤ 0 ∧ xINV n ph) ∨ (0 < c.toInt ∧ xKC n ph ∧ xnow ph)) : ∃ v ph', pm_Rd kK false D 207 [.ref 170] ph (v, ph', 0, 0) ∧ (∃ r : Int32, v = some (.int r) ∧ xH xX kK m w ph' ∧ (xV ph' ∧ R ph') ∧ xINV (n + 1) ph') := by
  obtain ⟨D', rfl⟩ : ∃ D', D = D' + 1 + 1 := ⟨D - 2, by omega⟩
  have hEVR := xHE_and xHEVT hR
  obtain ⟨U, hU, hU0, hU1⟩ := xM_fi (k := 27) hP rfl
  obtain ⟨C, hC, hCl⟩ : ∃ C : Int32, xget ph 170 7 = some (.int C) ∧ 0 ≤ C.toInt ∧ C.toInt ≤ n := by
    rcases hI with ⟨-, h⟩ | ⟨-, h, -⟩
    · obtain ⟨C, h1, h2, h3, -⟩ := xKC_of h
      exact ⟨C, h1, h2, h3⟩
    · obtain ⟨C, h1, h2, h3, -⟩ := h
      exact ⟨C, h1, h2, h3⟩
  refine xRd_mk (nl := 1) rfl rfl ?_
  show xGT kK (D' + 1) 207 _ (0, [some (.ref 170)], [], ph, 0, 0)
  rcases hI with ⟨hc0, hI⟩ | ⟨hc0, hK, hN⟩
  · refine gt_load (v := .ref 170) (n := 1) (ykc_207 (e := (2, .aload_n kF0, 0)) rfl) rfl rfl ?_
    refine gt_load (v := .ref 170) (n := 1) (ykc_207 (e := (2, .aload_n kF0, 0)) rfl) rfl rfl ?_
    refine gt_gfk (v := .int c) (ykc_207 (e := (5, .getfield 197, 0)) rfl) rfl hP hc rfl ?_
    refine gt_zle_t (ykc_207 (e := (4, .ifCond .le 7, 12)) rfl) hc0 ?_
    refine gt_load (v := .ref 170) (n := 1) (ykc_207 (e := (2, .aload_n kF0, 0)) rfl) rfl rfl ?_
    refine gt_gfk (v := .int U) (ykc_207 (e := (5, .getfield 188, 0)) rfl) rfl hP hU rfl ?_
    refine gt_pf (y := U) (ykc_207 (e := (5, .putfield 188, 0)) rfl) rfl hP rfl rfl hU0 hU1 rfl (fun ph101 hP101 u101 => ?_)
    have f101_20 : xget ph101 170 20 = some (.int c) := (u101.2.1 170 20 (by decide)).trans hc
    have f101_7 : xget ph101 170 7 = some (.int C) := (u101.2.1 170 7 (by decide)).trans hC
    refine gt_load (v := .ref 170) (n := 1) (ykc_207 (e := (2, .aload_n kF0, 0)) rfl) rfl rfl ?_
    refine gt_alu (st' := [.ref 170, .ref 170]) (ykc_207 (e := (0, .dup, 0)) rfl) rfl rfl ?_
    refine gt_gfk (v := .int C) (ykc_207 (e := (5, .getfield 191, 0)) rfl) rfl hP101 f101_7 rfl ?_
    refine gt_load (v := .ref 170) (n := 1) (ykc_207 (e := (2, .aload_n kF0, 0)) rfl) rfl rfl ?_
    refine gt_gfk (v := .int c) (ykc_207 (e := (5, .getfield 197, 0)) rfl) rfl hP101 f101_20 rfl ?_
    refine gt_zle_t (ykc_207 (e := (4, .ifCond .le 7, 35)) rfl) hc0 ?_
    refine gt_alu (st' := [.int (Int32.ofInt 0), .int C, .ref 170]) (ykc_207 (e := (0, .iconst 0, 0)) rfl) rfl rfl ?_
    refine gt_cs (n := 1) (as := [.int (Int32.ofInt 0)]) (r := [.int C, .ref 170]) (ykc_207 (e := (6, .invokestatic 154, 0)) rfl) rfl rfl rfl rfl (xflag (D := D')) rfl (fun vv ph102 hv => ?_)
    obtain ⟨z, e9, e8, z_s⟩ := hv; subst e9; have e7 := e8.symm; subst e7
    have zs0 : z.toInt = 0 := by rw [z_s]; decide
    change xGT kK (D' + 1) 207 _ (39, [some (.ref 170)], [.int z, .int C, .ref 170], ph101, 0, 0)
    obtain ⟨C1, e_C1, h_C1⟩ : ∃ zq : Int32, C + z = zq ∧ zq.toInt = C.toInt := ⟨_, rfl, by rw [ti_add (by rw [zs0]; omega) (by rw [zs0]; omega), zs0]; omega⟩
    refine gt_alu (st' := [.int C1, .ref 170]) (ykc_207 (e := (0, .iadd, 0)) rfl) (by rw [← e_C1]; exact rfl) rfl ?_
    refine gt_pf (y := C1) (ykc_207 (e := (5, .putfield 191, 0)) rfl) rfl hP101 rfl rfl (x32_lo _) (x32_hi _) rfl (fun ph103 hP103 u103 => ?_)
    have f103_20 : xget ph103 170 20 = some (.int c) := (u103.2.1 170 20 (by decide)).trans f101_20
    have f103_27 : xget ph103 170 27 = some (.int U) := (u103.2.1 170 27 (by decide)).trans u101.1
    refine gt_load (v := .ref 170) (n := 1) (ykc_207 (e := (2, .aload_n kF0, 0)) rfl) rfl rfl ?_
    refine gt_gfk (v := .int c) (ykc_207 (e := (5, .getfield 197, 0)) rfl) rfl hP103 f103_20 rfl ?_
    refine gt_ret (ykc_207 (e := (7, .ireturn, 0)) rfl) rfl ?_
    have i1 : xINV n ph101 := xINV_27 hI u101 (fun U2 h2 k hk => by
      have e9 := xget_int hU h2
      subst e9
      exact hk)
    have e9 : C1 = C := Int32.toInt_inj.mp h_C1
    subst e9
    have i2 := xINV_get i1 (xu1_same u103 ((u101.2.1 170 7 (fun q => absurd q.2 (by decide))).trans hC)) u103.2.2
    exact ⟨c, rfl, hP103, xu1_E hEVR u103 rfl rfl rfl (xu1_E hEVR u101 rfl rfl rfl g9), xINV_le (Nat.le_succ n) i2⟩
  · refine gt_load (v := .ref 170) (n := 1) (ykc_207 (e := (2, .aload_n kF0, 0)) rfl) rfl rfl ?_
    refine gt_load (v := .ref 170) (n := 1) (ykc_207 (e := (2, .aload_n kF0, 0)) rfl) rfl rfl ?_
    refine gt_gfk (v := .int c) (ykc_207 (e := (5, .getfield 197, 0)) rfl) rfl hP hc rfl ?_
    refine gt_zle_f (ykc_207 (e := (4, .ifCond .le 7, 12)) rfl) hc0 rfl ?_
    refine gt_alu (st' := [.int (Int32.ofInt 0), .ref 170]) (ykc_207 (e := (0, .iconst 0, 0)) rfl) rfl rfl ?_
    refine gt_br (pc' := 16) (st' := [.int (Int32.ofInt 0), .ref 170]) (ykc_207 (e := (4, .goto 7, 16)) rfl) rfl ?_
    refine gt_pf (y := Int32.ofInt 0) (ykc_207 (e := (5, .putfield 188, 0)) rfl) rfl hP rfl rfl (by decide) (by decide) rfl (fun ph101 hP101 u101 => ?_)
    have f101_20 : xget ph101 170 20 = some (.int c) := (u101.2.1 170 20 (by decide)).trans hc
    have f101_7 : xget ph101 170 7 = some (.int C) := (u101.2.1 170 7 (by decide)).trans hC
    refine gt_load (v := .ref 170) (n := 1) (ykc_207 (e := (2, .aload_n kF0, 0)) rfl) rfl rfl ?_
    refine gt_alu (st' := [.ref 170, .ref 170]) (ykc_207 (e := (0, .dup, 0)) rfl) rfl rfl ?_
    refine gt_gfk (v := .int C) (ykc_207 (e := (5, .getfield 191, 0)) rfl) rfl hP101 f101_7 rfl ?_
    refine gt_load (v := .ref 170) (n := 1) (ykc_207 (e := (2, .aload_n kF0, 0)) rfl) rfl rfl ?_
    refine gt_gfk (v := .int c) (ykc_207 (e := (5, .getfield 197, 0)) rfl) rfl hP101 f101_20 rfl ?_
    refine gt_zle_f (ykc_207 (e := (4, .ifCond .le 7, 35)) rfl) hc0 rfl ?_
    refine gt_alu (st' := [.int (Int32.ofInt 1), .int C, .ref 170]) (ykc_207 (e := (0, .iconst 1, 0)) rfl) rfl rfl ?_
    refine gt_br (pc' := 36) (st' := [.int (Int32.ofInt 1), .int C, .ref 170]) (ykc_207 (e := (4, .goto 4, 36)) rfl) rfl ?_
    refine gt_cs (n := 1) (as := [.int (Int32.ofInt 1)]) (r := [.int C, .ref 170]) (ykc_207 (e := (6, .invokestatic 154, 0)) rfl) rfl rfl rfl rfl (xflag (D := D')) rfl (fun vv ph102 hv => ?_)
    obtain ⟨z, e9, e8, z_s⟩ := hv; subst e9; have e7 := e8.symm; subst e7
    have zs1 : z.toInt = 1 := by rw [z_s]; decide
    change xGT kK (D' + 1) 207 _ (39, [some (.ref 170)], [.int z, .int C, .ref 170], ph101, 0, 0)
    obtain ⟨C1, e_C1, h_C1⟩ : ∃ zq : Int32, C + z = zq ∧ zq.toInt = C.toInt + 1 := ⟨_, rfl, by rw [ti_add (by rw [zs1]; omega) (by rw [zs1]; omega), zs1]⟩
    refine gt_alu (st' := [.int C1, .ref 170]) (ykc_207 (e := (0, .iadd, 0)) rfl) (by rw [← e_C1]; exact rfl) rfl ?_
    refine gt_pf (y := C1) (ykc_207 (e := (5, .putfield 191, 0)) rfl) rfl hP101 rfl rfl (x32_lo _) (x32_hi _) rfl (fun ph103 hP103 u103 => ?_)
    have f103_20 : xget ph103 170 20 = some (.int c) := (u103.2.1 170 20 (by decide)).trans f101_20
    have f103_27 : xget ph103 170 27 = some (.int (Int32.ofInt 0)) := (u103.2.1 170 27 (by decide)).trans u101.1
    refine gt_load (v := .ref 170) (n := 1) (ykc_207 (e := (2, .aload_n kF0, 0)) rfl) rfl rfl ?_
    refine gt_gfk (v := .int c) (ykc_207 (e := (5, .getfield 197, 0)) rfl) rfl hP103 f103_20 rfl ?_
    refine gt_ret (ykc_207 (e := (7, .ireturn, 0)) rfl) rfl ?_
    have n1 := xnow_u u103 (Or.inr (Or.inl ⟨rfl, by decide, by decide, by decide⟩)) (xnow_u u101 (Or.inr (Or.inl ⟨rfl, by decide, by decide, by decide⟩)) hN)
    have i2 := xINV_mk hK hC n1 ((u103.2.1 170 27 (fun q => absurd q.2 (by decide))).trans u101.1) (by rw [xi0]; decide) u103.1 h_C1 ((u103.2.2 198 (by decide)).trans (u101.2.2 198 (by decide))) ((u103.2.2 199 (by decide)).trans (u101.2.2 199 (by decide)))
    exact ⟨c, rfl, hP103, xu1_E hEVR u103 rfl rfl rfl (xu1_E hEVR u101 rfl rfl rfl g9), i2⟩

set_option maxRecDepth 6000 in
theorem xpeople_loop {R : pm_H → Prop} (hR : xHE xX xgA_VT xgF_VT R) {m : Int} {D n : Nat} {Q : Option Value → pm_H → Prop} {c : Int32} (hc9 : c.toInt ≤ 8) (hend : ∀ (ph : pm_H) (o1 : Option Value) (i : Int32), xH xX kK m 0 ph → xV ph ∧ R ph → xKC n ph → xnow ph → xget ph 170 20 = some (.int c) → xGT kK D 208 Q (119, [some (.ref 170), o1, some (.int i)], [], ph, 0, 0)) : ∀ (s : Nat) (ph : pm_H) (o1 : Option Value) (i P : Int32), c.toInt - i.toInt < s → 0 ≤ i.toInt → i.toInt ≤ c.toInt → 0 ≤ P.toInt → (P.toInt + (c.toInt - i.toInt) ≤ 8) → xH xX kK m 0 ph → xV ph ∧ R ph → xKC n ph → xnow ph → xget ph 170 20 = some (.int c) → xget ph 170 5 = some (.int P) → (∀ t : Nat, i.toInt ≤ (t : Int) → (t : Int) < c.toInt → ∃ x : Int32, xget ph 178 (3 * t) = some (.int x) ∧ 0 ≤ x.toInt ∧ x.toInt ≤ 48 ∧ (x.toInt ≠ 48 ∨ ∃ W : Int32, xget ph 170 4 = some (.int W) ∧ W.toInt = 7)) → xGT kK D 208 Q (21, [some (.ref 170), o1, some (.int i)], [], ph, 0, 0) := by
  have hEVR := xHE_and xHEVT hR
  intro s
  induction s with
  | zero => intro ph o1 i P h; omega
  | succ s ih =>
    intro ph o1 i P hs hi0 hic9 hP0 hP8 hP g9 hK hN hc hp hrd
    by_cases hic : i.toInt < c.toInt
    · obtain ⟨x, gx1, gx2, gx3, gx4⟩ := hrd i.toInt.toNat (by omega) (by omega)
      obtain ⟨lr, hlr, -, -⟩ := xA_at (A := 178) hP rfl rfl
      refine gt_load (v := .int i) (n := 1) (ykc_208 (e := (2, .iload_n kF2, 0)) rfl) rfl rfl ?_
      refine gt_load (v := .ref 170) (n := 1) (ykc_208 (e := (2, .aload_n kF0, 0)) rfl) rfl rfl ?_
      refine gt_gfk (v := .int c) (ykc_208 (e := (5, .getfield 197, 0)) rfl) rfl hP hc rfl ?_
      refine gt_ige_f (ykc_208 (e := (4, .if_icmp .ge 93, 119)) rfl) hic rfl ?_
      refine gt_load (v := .ref 170) (n := 1) (ykc_208 (e := (2, .aload_n kF0, 0)) rfl) rfl rfl ?_
      refine gt_gfr (A := 174) (ykc_208 (e := (5, .getfield 41, 0)) rfl) rfl hP rfl rfl rfl ?_
      refine gt_load (v := .ref 170) (n := 1) (ykc_208 (e := (2, .aload_n kF0, 0)) rfl) rfl rfl ?_
      refine gt_gfk (v := .int P) (ykc_208 (e := (5, .getfield 130, 0)) rfl) rfl hP hp rfl ?_
      refine gt_load (v := .ref 170) (n := 1) (ykc_208 (e := (2, .aload_n kF0, 0)) rfl) rfl rfl ?_
      refine gt_gfr (A := 178) (ykc_208 (e := (5, .getfield 53, 0)) rfl) rfl hP rfl rfl rfl ?_
      refine gt_alu (st' := [.int (Int32.ofInt 3), .ref 178, .int P, .ref 174]) (ykc_208 (e := (0, .iconst 3, 0)) rfl) rfl rfl ?_
      refine gt_load (v := .int i) (n := 1) (ykc_208 (e := (2, .iload_n kF2, 0)) rfl) rfl rfl ?_
      obtain ⟨t3, e_t3, h_t3⟩ : ∃ zq : Int32, (Int32.ofInt 3) * i = zq ∧ zq.toInt = 3 * i.toInt := ⟨_, rfl, by rw [ti_mul (by rw [xi3]; omega) (by rw [xi3]; omega), xi3]⟩
      refine gt_alu (st' := [.int t3, .ref 178, .int P, .ref 174]) (ykc_208 (e := (0, .imul, 0)) rfl) (by rw [← e_t3]; exact rfl) rfl ?_
      have h_t3x : t3.toInt = ((3 * i.toInt.toNat : Nat) : Int) := by omega
      refine gt_ialk (y := x) (ykc_208 (e := (5, .iaload, 0)) rfl) gx1 ⟨lr, hlr⟩ h_t3x rfl ?_
      refine gt_ias (A := 174) (y := x) (x := P) (ykc_208 (e := (5, .iastore, 0)) rfl) hP rfl rfl (by omega) (by omega) (xs_lo (Or.inl (by omega)) gx2 gx3) rfl (fun ph101 hP101 u101 => ?_)
      have f101_20 : xget ph101 170 20 = some (.int c) := (u101.2.1 170 20 (fun q => absurd q.1 (by decide))).trans hc
      have f101_5 : xget ph101 170 5 = some (.int P) := (u101.2.1 170 5 (fun q => absurd q.1 (by decide))).trans hp
      refine gt_load (v := .ref 170) (n := 1) (ykc_208 (e := (2, .aload_n kF0, 0)) rfl) rfl rfl ?_
      refine gt_gfr (A := 174) (ykc_208 (e := (5, .getfield 41, 0)) rfl) rfl hP101 rfl rfl rfl ?_
      refine gt_push (v := .int ((Int8.ofInt 8).toInt32)) (n := 2) (ykc_208 (e := (1, .bipush 8, 0)) rfl) rfl rfl ?_
      refine gt_load (v := .ref 170) (n := 1) (ykc_208 (e := (2, .aload_n kF0, 0)) rfl) rfl rfl ?_
      refine gt_gfk (v := .int P) (ykc_208 (e := (5, .getfield 130, 0)) rfl) rfl hP101 f101_5 rfl ?_
      obtain ⟨a8, e_a8, h_a8⟩ : ∃ zq : Int32, ((Int8.ofInt 8).toInt32) + P = zq ∧ zq.toInt = 8 + P.toInt := ⟨_, rfl, by rw [ti_add (by rw [x8]; omega) (by rw [x8]; omega), x8]⟩
      refine gt_alu (st' := [.int a8, .ref 174]) (ykc_208 (e := (0, .iadd, 0)) rfl) (by rw [← e_a8]; exact rfl) rfl ?_
      refine gt_load (v := .ref 170) (n := 1) (ykc_208 (e := (2, .aload_n kF0, 0)) rfl) rfl rfl ?_
      refine gt_gfr (A := 178) (ykc_208 (e := (5, .getfield 53, 0)) rfl) rfl hP101 rfl rfl rfl ?_
      refine gt_alu (st' := [.int (Int32.ofInt 3), .ref 178, .int a8, .ref 174]) (ykc_208 (e := (0, .iconst 3, 0)) rfl) rfl rfl ?_
      refine gt_load (v := .int i) (n := 1) (ykc_208 (e := (2, .iload_n kF2, 0)) rfl) rfl rfl ?_
      obtain ⟨t4, e_t4, h_t4⟩ : ∃ zq : Int32, (Int32.ofInt 3) * i = zq ∧ zq.toInt = 3 * i.toInt := ⟨_, rfl, by rw [ti_mul (by rw [xi3]; omega) (by rw [xi3]; omega), xi3]⟩
      refine gt_alu (st' := [.int t4, .ref 178, .int a8, .ref 174]) (ykc_208 (e := (0, .imul, 0)) rfl) (by rw [← e_t4]; exact rfl) rfl ?_
      refine gt_alu (st' := [.int (Int32.ofInt 1), .int t4, .ref 178, .int a8, .ref 174]) (ykc_208 (e := (0, .iconst 1, 0)) rfl) rfl rfl ?_
      obtain ⟨t5, e_t5, h_t5⟩ : ∃ zq : Int32, t4 + (Int32.ofInt 1) = zq ∧ zq.toInt = 3 * i.toInt + 1 := ⟨_, rfl, by rw [ti_add (by rw [h_t4, xi1]; omega) (by rw [h_t4, xi1]; omega), h_t4, xi1]⟩
      refine gt_alu (st' := [.int t5, .ref 178, .int a8, .ref 174]) (ykc_208 (e := (0, .iadd, 0)) rfl) (by rw [← e_t5]; exact rfl) rfl ?_
      refine gt_ial (A := 178) (ykc_208 (e := (5, .iaload, 0)) rfl) hP101 rfl rfl (by omega) (by omega) rfl (fun y1 g_y1 b_y1 => ?_)
      refine gt_ias (A := 174) (y := y1) (x := a8) (ykc_208 (e := (5, .iastore, 0)) rfl) hP101 rfl rfl (by omega) (by omega) (xs_mid (by omega) (by omega)) rfl (fun ph102 hP102 u102 => ?_)
      have f102_20 : xget ph102 170 20 = some (.int c) := (u102.2.1 170 20 (fun q => absurd q.1 (by decide))).trans f101_20
      have f102_5 : xget ph102 170 5 = some (.int P) := (u102.2.1 170 5 (fun q => absurd q.1 (by decide))).trans f101_5
      refine gt_load (v := .ref 170) (n := 1) (ykc_208 (e := (2, .aload_n kF0, 0)) rfl) rfl rfl ?_
      refine gt_gfr (A := 174) (ykc_208 (e := (5, .getfield 41, 0)) rfl) rfl hP102 rfl rfl rfl ?_
      refine gt_push (v := .int ((Int8.ofInt 16).toInt32)) (n := 2) (ykc_208 (e := (1, .bipush 16, 0)) rfl) rfl rfl ?_
      refine gt_load (v := .ref 170) (n := 1) (ykc_208 (e := (2, .aload_n kF0, 0)) rfl) rfl rfl ?_
      refine gt_gfk (v := .int P) (ykc_208 (e := (5, .getfield 130, 0)) rfl) rfl hP102 f102_5 rfl ?_
      obtain ⟨a16, e_a16, h_a16⟩ : ∃ zq : Int32, ((Int8.ofInt 16).toInt32) + P = zq ∧ zq.toInt = 16 + P.toInt := ⟨_, rfl, by rw [ti_add (by rw [x16]; omega) (by rw [x16]; omega), x16]⟩
      refine gt_alu (st' := [.int a16, .ref 174]) (ykc_208 (e := (0, .iadd, 0)) rfl) (by rw [← e_a16]; exact rfl) rfl ?_
      refine gt_load (v := .ref 170) (n := 1) (ykc_208 (e := (2, .aload_n kF0, 0)) rfl) rfl rfl ?_
      refine gt_gfr (A := 178) (ykc_208 (e := (5, .getfield 53, 0)) rfl) rfl hP102 rfl rfl rfl ?_
      refine gt_alu (st' := [.int (Int32.ofInt 3), .ref 178, .int a16, .ref 174]) (ykc_208 (e := (0, .iconst 3, 0)) rfl) rfl rfl ?_
      refine gt_load (v := .int i) (n := 1) (ykc_208 (e := (2, .iload_n kF2, 0)) rfl) rfl rfl ?_
      obtain ⟨t6, e_t6, h_t6⟩ : ∃ zq : Int32, (Int32.ofInt 3) * i = zq ∧ zq.toInt = 3 * i.toInt := ⟨_, rfl, by rw [ti_mul (by rw [xi3]; omega) (by rw [xi3]; omega), xi3]⟩
      refine gt_alu (st' := [.int t6, .ref 178, .int a16, .ref 174]) (ykc_208 (e := (0, .imul, 0)) rfl) (by rw [← e_t6]; exact rfl) rfl ?_
      refine gt_alu (st' := [.int (Int32.ofInt 2), .int t6, .ref 178, .int a16, .ref 174]) (ykc_208 (e := (0, .iconst 2, 0)) rfl) rfl rfl ?_
      obtain ⟨t7, e_t7, h_t7⟩ : ∃ zq : Int32, t6 + (Int32.ofInt 2) = zq ∧ zq.toInt = 3 * i.toInt + 2 := ⟨_, rfl, by rw [ti_add (by rw [h_t6, xi2]; omega) (by rw [h_t6, xi2]; omega), h_t6, xi2]⟩
      refine gt_alu (st' := [.int t7, .ref 178, .int a16, .ref 174]) (ykc_208 (e := (0, .iadd, 0)) rfl) (by rw [← e_t7]; exact rfl) rfl ?_
      refine gt_ial (A := 178) (ykc_208 (e := (5, .iaload, 0)) rfl) hP102 rfl rfl (by omega) (by omega) rfl (fun y2 g_y2 b_y2 => ?_)
      refine gt_ias (A := 174) (y := y2) (x := a16) (ykc_208 (e := (5, .iastore, 0)) rfl) hP102 rfl rfl (by omega) (by omega) (xs_mid (by omega) (by omega)) rfl (fun ph103 hP103 u103 => ?_)
      have f103_20 : xget ph103 170 20 = some (.int c) := (u103.2.1 170 20 (fun q => absurd q.1 (by decide))).trans f102_20
      have f103_5 : xget ph103 170 5 = some (.int P) := (u103.2.1 170 5 (fun q => absurd q.1 (by decide))).trans f102_5
      refine gt_load (v := .ref 170) (n := 1) (ykc_208 (e := (2, .aload_n kF0, 0)) rfl) rfl rfl ?_
      refine gt_gfr (A := 174) (ykc_208 (e := (5, .getfield 41, 0)) rfl) rfl hP103 rfl rfl rfl ?_
      refine gt_push (v := .int ((Int8.ofInt 24).toInt32)) (n := 2) (ykc_208 (e := (1, .bipush 24, 0)) rfl) rfl rfl ?_
      refine gt_load (v := .ref 170) (n := 1) (ykc_208 (e := (2, .aload_n kF0, 0)) rfl) rfl rfl ?_
      refine gt_gfk (v := .int P) (ykc_208 (e := (5, .getfield 130, 0)) rfl) rfl hP103 f103_5 rfl ?_
      obtain ⟨a24, e_a24, h_a24⟩ : ∃ zq : Int32, ((Int8.ofInt 24).toInt32) + P = zq ∧ zq.toInt = 24 + P.toInt := ⟨_, rfl, by rw [ti_add (by rw [x24]; omega) (by rw [x24]; omega), x24]⟩
      refine gt_alu (st' := [.int a24, .ref 174]) (ykc_208 (e := (0, .iadd, 0)) rfl) (by rw [← e_a24]; exact rfl) rfl ?_
      refine gt_alu (st' := [.int (Int32.ofInt 0), .int a24, .ref 174]) (ykc_208 (e := (0, .iconst 0, 0)) rfl) rfl rfl ?_
      refine gt_ias (A := 174) (y := Int32.ofInt 0) (x := a24) (ykc_208 (e := (5, .iastore, 0)) rfl) hP103 rfl rfl (by omega) (by omega) (xs_mid (by omega) (by omega)) rfl (fun ph104 hP104 u104 => ?_)
      have f104_20 : xget ph104 170 20 = some (.int c) := (u104.2.1 170 20 (fun q => absurd q.1 (by decide))).trans f103_20
      have f104_5 : xget ph104 170 5 = some (.int P) := (u104.2.1 170 5 (fun q => absurd q.1 (by decide))).trans f103_5
      refine gt_load (v := .ref 170) (n := 1) (ykc_208 (e := (2, .aload_n kF0, 0)) rfl) rfl rfl ?_
      refine gt_alu (st' := [.ref 170, .ref 170]) (ykc_208 (e := (0, .dup, 0)) rfl) rfl rfl ?_
      refine gt_gfk (v := .int P) (ykc_208 (e := (5, .getfield 130, 0)) rfl) rfl hP104 f104_5 rfl ?_
      refine gt_alu (st' := [.int (Int32.ofInt 1), .int P, .ref 170]) (ykc_208 (e := (0, .iconst 1, 0)) rfl) rfl rfl ?_
      obtain ⟨P1, e_P1, h_P1⟩ : ∃ zq : Int32, P + (Int32.ofInt 1) = zq ∧ zq.toInt = P.toInt + 1 := ⟨_, rfl, by rw [ti_add (by rw [xi1]; omega) (by rw [xi1]; omega), xi1]⟩
      refine gt_alu (st' := [.int P1, .ref 170]) (ykc_208 (e := (0, .iadd, 0)) rfl) (by rw [← e_P1]; exact rfl) rfl ?_
      refine gt_pf (y := P1) (ykc_208 (e := (5, .putfield 130, 0)) rfl) rfl hP104 rfl rfl (show (0 : Int) ≤ P1.toInt by omega) (show P1.toInt ≤ 8 by omega) rfl (fun ph105 hP105 u105 => ?_)
      have f105_20 : xget ph105 170 20 = some (.int c) := (u105.2.1 170 20 (by decide)).trans f104_20
      obtain ⟨i1, e_i1, h_i1⟩ : ∃ zq : Int32, i + Int32.ofInt 1 = zq ∧ zq.toInt = i.toInt + 1 := ⟨_, rfl, by rw [ti_add (by rw [xi1]; omega) (by rw [xi1]; omega), xi1]⟩
      obtain ⟨o2, ho2⟩ := xiinc2 (a := .ref 170) (o1 := o1) (i := i)
      refine gt_store (L' := [some (.ref 170), o2, some (.int i1)]) (st' := []) (n := 3) (ykc_208 (e := (3, .iinc 2 1, 0)) rfl) (by rw [← e_i1]; exact ho2) rfl ?_
      refine gt_br (pc' := 21) (st' := []) (ykc_208 (e := (4, .goto (-95), 21)) rfl) rfl ?_
      have g101_ : xV ph101 ∧ R ph101 := xu1_E hEVR u101 rfl rfl (by rfl) g9
      have k101_ : xKC n ph101 := xu1_E (xHEKC n) u101 rfl rfl (by rfl) hK
      have n101_ : xnow ph101 := xnow_p u101 gx4 hN
      have g102_ : xV ph102 ∧ R ph102 := xu1_E hEVR u102 rfl rfl (by rfl) g101_
      have k102_ : xKC n ph102 := xu1_E (xHEKC n) u102 rfl rfl (by rfl) k101_
      have n102_ : xnow ph102 := xnow_u u102 (Or.inr (Or.inr ⟨rfl, by omega, by omega⟩)) n101_
      have g103_ : xV ph103 ∧ R ph103 := xu1_E hEVR u103 rfl rfl (by rfl) g102_
      have k103_ : xKC n ph103 := xu1_E (xHEKC n) u103 rfl rfl (by rfl) k102_
      have n103_ : xnow ph103 := xnow_u u103 (Or.inr (Or.inr ⟨rfl, by omega, by omega⟩)) n102_
      have g104_ : xV ph104 ∧ R ph104 := xu1_E hEVR u104 rfl rfl (by rfl) g103_
      have k104_ : xKC n ph104 := xu1_E (xHEKC n) u104 rfl rfl (by rfl) k103_
      have n104_ : xnow ph104 := xnow_u u104 (Or.inr (Or.inr ⟨rfl, by omega, by omega⟩)) n103_
      have g105_ : xV ph105 ∧ R ph105 := xu1_E hEVR u105 rfl rfl rfl g104_
      have k105_ : xKC n ph105 := xu1_E (xHEKC n) u105 rfl rfl rfl k104_
      have gw : x.toInt ≠ 48 ∨ ∃ W : Int32, xget ph104 170 4 = some (.int W) ∧ W.toInt = 7 := by
        rcases gx4 with q | ⟨W, w1, w2⟩
        · exact Or.inl q
        · exact Or.inr ⟨W, (u104.2.1 170 4 (fun q => absurd q.1 (by decide))).trans ((u103.2.1 170 4 (fun q => absurd q.1 (by decide))).trans ((u102.2.1 170 4 (fun q => absurd q.1 (by decide))).trans ((u101.2.1 170 4 (fun q => absurd q.1 (by decide))).trans (w1)))), w2⟩
      have gp : xget ph104 174 (0 + P.toInt.toNat) = some (.int x) := by
        have e9 : 0 + P.toInt.toNat = P.toInt.toNat := by omega
        rw [e9]
        exact (u104.2.1 174 _ (fun q => absurd q.2 (by omega))).trans ((u103.2.1 174 _ (fun q => absurd q.2 (by omega))).trans ((u102.2.1 174 _ (fun q => absurd q.2 (by omega))).trans (u101.1)))
      have n105_ : xnow ph105 := xnow_n (s := 0) (k := 5) (by decide) u105 ((u104.2.1 170 5 (fun q => absurd q.1 (by decide))).trans ((u103.2.1 170 5 (fun q => absurd q.1 (by decide))).trans ((u102.2.1 170 5 (fun q => absurd q.1 (by decide))).trans ((u101.2.1 170 5 (fun q => absurd q.1 (by decide))).trans (hp))))) h_P1 hP0 (by omega) gp gw n104_
      refine ih ph105 o2 i1 P1 (by omega) (by omega) (by omega) (by omega) (by omega) hP105 g105_ k105_ n105_ ((u105.2.1 170 20 (fun q => absurd q.2 (by decide))).trans ((u104.2.1 170 20 (fun q => absurd q.1 (by decide))).trans ((u103.2.1 170 20 (fun q => absurd q.1 (by decide))).trans ((u102.2.1 170 20 (fun q => absurd q.1 (by decide))).trans ((u101.2.1 170 20 (fun q => absurd q.1 (by decide))).trans (hc)))))) u105.1 (fun t ht1 ht2 => ?_)
      obtain ⟨x2, y1_, y2_, y3_, y4_⟩ := hrd t (by omega) ht2
      have e178 : ∀ z, xget ph105 178 z = xget ph 178 z := fun z => (u105.2.1 178 z (fun q => absurd q.1 (by decide))).trans <| (u104.2.1 178 z (fun q => absurd q.1 (by decide))).trans <| (u103.2.1 178 z (fun q => absurd q.1 (by decide))).trans <| (u102.2.1 178 z (fun q => absurd q.1 (by decide))).trans <| u101.2.1 178 z (fun q => absurd q.1 (by decide))
      refine ⟨x2, (e178 _).trans y1_, y2_, y3_, ?_⟩
      rcases y4_ with q | ⟨W, w1, w2⟩
      · exact Or.inl q
      · exact Or.inr ⟨W, (u105.2.1 170 4 (fun q => absurd q.2 (by decide))).trans ((u104.2.1 170 4 (fun q => absurd q.1 (by decide))).trans ((u103.2.1 170 4 (fun q => absurd q.1 (by decide))).trans ((u102.2.1 170 4 (fun q => absurd q.1 (by decide))).trans ((u101.2.1 170 4 (fun q => absurd q.1 (by decide))).trans (w1))))), w2⟩
    · refine gt_load (v := .int i) (n := 1) (ykc_208 (e := (2, .iload_n kF2, 0)) rfl) rfl rfl ?_
      refine gt_load (v := .ref 170) (n := 1) (ykc_208 (e := (2, .aload_n kF0, 0)) rfl) rfl rfl ?_
      refine gt_gfk (v := .int c) (ykc_208 (e := (5, .getfield 197, 0)) rfl) rfl hP hc rfl ?_
      refine gt_ige_t (ykc_208 (e := (4, .if_icmp .ge 93, 119)) rfl) (by omega) ?_
      exact hend ph o1 i hP g9 hK hN hc

set_option maxRecDepth 6000 in
theorem xthings_loop {R : pm_H → Prop} (hR : xHE xX xgA_VT xgF_VT R) {m : Int} {D n : Nat} {Q : Option Value → pm_H → Prop} {c : Int32} (hc9 : c.toInt ≤ 8) (hend : ∀ (ph : pm_H) (o1 : Option Value) (i : Int32), xH xX kK m 0 ph → xV ph ∧ R ph → xKC n ph → xnow ph → xget ph 170 20 = some (.int c) → xGT kK D 209 Q (63, [some (.ref 170), o1, some (.int i)], [], ph, 0, 0)) : ∀ (s : Nat) (ph : pm_H) (o1 : Option Value) (i P : Int32), c.toInt - i.toInt < s → 0 ≤ i.toInt → i.toInt ≤ c.toInt → 0 ≤ P.toInt → (P.toInt + (c.toInt - i.toInt) ≤ 8) → xH xX kK m 0 ph → xV ph ∧ R ph → xKC n ph → xnow ph → xget ph 170 20 = some (.int c) → xget ph 170 6 = some (.int P) → (∀ t : Nat, i.toInt ≤ (t : Int) → (t : Int) < c.toInt → ∃ x : Int32, xget ph 178 (1 * t) = some (.int x) ∧ 0 ≤ x.toInt ∧ x.toInt ≤ 48 ∧ (x.toInt ≠ 48 ∨ ∃ W : Int32, xget ph 170 4 = some (.int W) ∧ W.toInt = 7)) → xGT kK D 209 Q (21, [some (.ref 170), o1, some (.int i)], [], ph, 0, 0) := by
  have hEVR := xHE_and xHEVT hR
  intro s
  induction s with
  | zero => intro ph o1 i P h; omega
  | succ s ih =>
    intro ph o1 i P hs hi0 hic9 hP0 hP8 hP g9 hK hN hc hp hrd
    by_cases hic : i.toInt < c.toInt
    · obtain ⟨x, gx1, gx2, gx3, gx4⟩ := hrd i.toInt.toNat (by omega) (by omega)
      obtain ⟨lr, hlr, -, -⟩ := xA_at (A := 178) hP rfl rfl
      refine gt_load (v := .int i) (n := 1) (ykc_209 (e := (2, .iload_n kF2, 0)) rfl) rfl rfl ?_
      refine gt_load (v := .ref 170) (n := 1) (ykc_209 (e := (2, .aload_n kF0, 0)) rfl) rfl rfl ?_
      refine gt_gfk (v := .int c) (ykc_209 (e := (5, .getfield 197, 0)) rfl) rfl hP hc rfl ?_
      refine gt_ige_f (ykc_209 (e := (4, .if_icmp .ge 37, 63)) rfl) hic rfl ?_
      refine gt_load (v := .ref 170) (n := 1) (ykc_209 (e := (2, .aload_n kF0, 0)) rfl) rfl rfl ?_
      refine gt_gfr (A := 174) (ykc_209 (e := (5, .getfield 41, 0)) rfl) rfl hP rfl rfl rfl ?_
      refine gt_push (v := .int ((Int8.ofInt 32).toInt32)) (n := 2) (ykc_209 (e := (1, .bipush 32, 0)) rfl) rfl rfl ?_
      refine gt_load (v := .ref 170) (n := 1) (ykc_209 (e := (2, .aload_n kF0, 0)) rfl) rfl rfl ?_
      refine gt_gfk (v := .int P) (ykc_209 (e := (5, .getfield 133, 0)) rfl) rfl hP hp rfl ?_
      obtain ⟨a32, e_a32, h_a32⟩ : ∃ zq : Int32, ((Int8.ofInt 32).toInt32) + P = zq ∧ zq.toInt = 32 + P.toInt := ⟨_, rfl, by rw [ti_add (by rw [x32]; omega) (by rw [x32]; omega), x32]⟩
      refine gt_alu (st' := [.int a32, .ref 174]) (ykc_209 (e := (0, .iadd, 0)) rfl) (by rw [← e_a32]; exact rfl) rfl ?_
      refine gt_load (v := .ref 170) (n := 1) (ykc_209 (e := (2, .aload_n kF0, 0)) rfl) rfl rfl ?_
      refine gt_gfr (A := 178) (ykc_209 (e := (5, .getfield 53, 0)) rfl) rfl hP rfl rfl rfl ?_
      refine gt_load (v := .int i) (n := 1) (ykc_209 (e := (2, .iload_n kF2, 0)) rfl) rfl rfl ?_
      have h_t3x : i.toInt = ((1 * i.toInt.toNat : Nat) : Int) := by omega
      refine gt_ialk (y := x) (ykc_209 (e := (5, .iaload, 0)) rfl) gx1 ⟨lr, hlr⟩ h_t3x rfl ?_
      refine gt_ias (A := 174) (y := x) (x := a32) (ykc_209 (e := (5, .iastore, 0)) rfl) hP rfl rfl (by omega) (by omega) (xs_lo (Or.inr ⟨by omega, by omega⟩) gx2 gx3) rfl (fun ph101 hP101 u101 => ?_)
      have f101_20 : xget ph101 170 20 = some (.int c) := (u101.2.1 170 20 (fun q => absurd q.1 (by decide))).trans hc
      have f101_6 : xget ph101 170 6 = some (.int P) := (u101.2.1 170 6 (fun q => absurd q.1 (by decide))).trans hp
      refine gt_load (v := .ref 170) (n := 1) (ykc_209 (e := (2, .aload_n kF0, 0)) rfl) rfl rfl ?_
      refine gt_alu (st' := [.ref 170, .ref 170]) (ykc_209 (e := (0, .dup, 0)) rfl) rfl rfl ?_
      refine gt_gfk (v := .int P) (ykc_209 (e := (5, .getfield 133, 0)) rfl) rfl hP101 f101_6 rfl ?_
      refine gt_alu (st' := [.int (Int32.ofInt 1), .int P, .ref 170]) (ykc_209 (e := (0, .iconst 1, 0)) rfl) rfl rfl ?_
      obtain ⟨P1, e_P1, h_P1⟩ : ∃ zq : Int32, P + (Int32.ofInt 1) = zq ∧ zq.toInt = P.toInt + 1 := ⟨_, rfl, by rw [ti_add (by rw [xi1]; omega) (by rw [xi1]; omega), xi1]⟩
      refine gt_alu (st' := [.int P1, .ref 170]) (ykc_209 (e := (0, .iadd, 0)) rfl) (by rw [← e_P1]; exact rfl) rfl ?_
      refine gt_pf (y := P1) (ykc_209 (e := (5, .putfield 133, 0)) rfl) rfl hP101 rfl rfl (show (0 : Int) ≤ P1.toInt by omega) (show P1.toInt ≤ 8 by omega) rfl (fun ph102 hP102 u102 => ?_)
      have f102_20 : xget ph102 170 20 = some (.int c) := (u102.2.1 170 20 (by decide)).trans f101_20
      obtain ⟨i1, e_i1, h_i1⟩ : ∃ zq : Int32, i + Int32.ofInt 1 = zq ∧ zq.toInt = i.toInt + 1 := ⟨_, rfl, by rw [ti_add (by rw [xi1]; omega) (by rw [xi1]; omega), xi1]⟩
      obtain ⟨o2, ho2⟩ := xiinc2 (a := .ref 170) (o1 := o1) (i := i)
      refine gt_store (L' := [some (.ref 170), o2, some (.int i1)]) (st' := []) (n := 3) (ykc_209 (e := (3, .iinc 2 1, 0)) rfl) (by rw [← e_i1]; exact ho2) rfl ?_
      refine gt_br (pc' := 21) (st' := []) (ykc_209 (e := (4, .goto (-39), 21)) rfl) rfl ?_
      have g101_ : xV ph101 ∧ R ph101 := xu1_E hEVR u101 rfl rfl (by rfl) g9
      have k101_ : xKC n ph101 := xu1_E (xHEKC n) u101 rfl rfl (by rfl) hK
      have n101_ : xnow ph101 := xnow_p u101 gx4 hN
      have g102_ : xV ph102 ∧ R ph102 := xu1_E hEVR u102 rfl rfl rfl g101_
      have k102_ : xKC n ph102 := xu1_E (xHEKC n) u102 rfl rfl rfl k101_
      have gw : x.toInt ≠ 48 ∨ ∃ W : Int32, xget ph101 170 4 = some (.int W) ∧ W.toInt = 7 := by
        rcases gx4 with q | ⟨W, w1, w2⟩
        · exact Or.inl q
        · exact Or.inr ⟨W, (u101.2.1 170 4 (fun q => absurd q.1 (by decide))).trans (w1), w2⟩
      have gp : xget ph101 174 (32 + P.toInt.toNat) = some (.int x) := by
        have e9 : 32 + P.toInt.toNat = a32.toInt.toNat := by omega
        rw [e9]
        exact u101.1
      have n102_ : xnow ph102 := xnow_n (s := 32) (k := 6) (by decide) u102 ((u101.2.1 170 6 (fun q => absurd q.1 (by decide))).trans (hp)) h_P1 hP0 (by omega) gp gw n101_
      refine ih ph102 o2 i1 P1 (by omega) (by omega) (by omega) (by omega) (by omega) hP102 g102_ k102_ n102_ ((u102.2.1 170 20 (fun q => absurd q.2 (by decide))).trans ((u101.2.1 170 20 (fun q => absurd q.1 (by decide))).trans (hc))) u102.1 (fun t ht1 ht2 => ?_)
      obtain ⟨x2, y1_, y2_, y3_, y4_⟩ := hrd t (by omega) ht2
      have e178 : ∀ z, xget ph102 178 z = xget ph 178 z := fun z => (u102.2.1 178 z (fun q => absurd q.1 (by decide))).trans <| u101.2.1 178 z (fun q => absurd q.1 (by decide))
      refine ⟨x2, (e178 _).trans y1_, y2_, y3_, ?_⟩
      rcases y4_ with q | ⟨W, w1, w2⟩
      · exact Or.inl q
      · exact Or.inr ⟨W, (u102.2.1 170 4 (fun q => absurd q.2 (by decide))).trans ((u101.2.1 170 4 (fun q => absurd q.1 (by decide))).trans (w1)), w2⟩
    · refine gt_load (v := .int i) (n := 1) (ykc_209 (e := (2, .iload_n kF2, 0)) rfl) rfl rfl ?_
      refine gt_load (v := .ref 170) (n := 1) (ykc_209 (e := (2, .aload_n kF0, 0)) rfl) rfl rfl ?_
      refine gt_gfk (v := .int c) (ykc_209 (e := (5, .getfield 197, 0)) rfl) rfl hP hc rfl ?_
      refine gt_ige_t (ykc_209 (e := (4, .if_icmp .ge 37, 63)) rfl) (by omega) ?_
      exact hend ph o1 i hP g9 hK hN hc

set_option maxRecDepth 6000 in
theorem xnd_208_ok : ∀ nd ∈ xex_208a, nd.1 = 21 ∧ nd.2.1 = [some (.inr (.inr (.inl 0))), none, some (.inl (Int.ofNat 0, Int.ofNat 0))] ∧ xnok 5 3 nd.2.2.1 = true ∧ xfb nd.2.2.1 696334 = some (Int.ofNat 0, Int.ofNat 0) ∧ nd.2.2.2.1 = 0 := List.forall_mem_cons.mpr ⟨⟨rfl, rfl, by decide +kernel, by decide +kernel, rfl⟩, List.forall_mem_cons.mpr ⟨⟨rfl, rfl, by decide +kernel, by decide +kernel, rfl⟩, List.forall_mem_cons.mpr ⟨⟨rfl, rfl, by decide +kernel, by decide +kernel, rfl⟩, List.forall_mem_cons.mpr ⟨⟨rfl, rfl, by decide +kernel, by decide +kernel, rfl⟩, List.forall_mem_cons.mpr ⟨⟨rfl, rfl, by decide +kernel, by decide +kernel, rfl⟩, List.forall_mem_cons.mpr ⟨⟨rfl, rfl, by decide +kernel, by decide +kernel, rfl⟩, List.forall_mem_cons.mpr ⟨⟨rfl, rfl, by decide +kernel, by decide +kernel, rfl⟩, List.forall_mem_cons.mpr ⟨⟨rfl, rfl, by decide +kernel, by decide +kernel, rfl⟩, List.forall_mem_cons.mpr ⟨⟨rfl, rfl, by decide +kernel, by decide +kernel, rfl⟩, List.forall_mem_cons.mpr ⟨⟨rfl, rfl, by decide +kernel, by decide +kernel, rfl⟩, List.forall_mem_cons.mpr ⟨⟨rfl, rfl, by decide +kernel, by decide +kernel, rfl⟩, List.forall_mem_cons.mpr ⟨⟨rfl, rfl, by decide +kernel, by decide +kernel, rfl⟩, List.forall_mem_cons.mpr ⟨⟨rfl, rfl, by decide +kernel, by decide +kernel, rfl⟩, List.forall_mem_cons.mpr ⟨⟨rfl, rfl, by decide +kernel, by decide +kernel, rfl⟩, List.forall_mem_cons.mpr ⟨⟨rfl, rfl, by decide +kernel, by decide +kernel, rfl⟩, List.forall_mem_cons.mpr ⟨⟨rfl, rfl, by decide +kernel, by decide +kernel, rfl⟩, List.forall_mem_cons.mpr ⟨⟨rfl, rfl, by decide +kernel, by decide +kernel, rfl⟩, List.forall_mem_cons.mpr ⟨⟨rfl, rfl, by decide +kernel, by decide +kernel, rfl⟩, fun nd hnd => absurd hnd List.not_mem_nil⟩⟩⟩⟩⟩⟩⟩⟩⟩⟩⟩⟩⟩⟩⟩⟩⟩⟩
set_option maxRecDepth 6000 in
theorem xw_people {R : pm_H → Prop} (hR0 : xHE xX xgA_VT xgF_VU R) {m : Int} (hm : m ≤ 2147483646) (h0m : (0 : Int) ≤ m) {D n : Nat} (hn : n ≤ 1000000) (hD : 10 ≤ D) {ph : pm_H} (hP : xH xX kK m 0 ph) (hV : xV ph) (hI : xINV n ph) (hr : R ph) : ∃ v ph', pm_Rd kK false D 208 [.ref 170] ph (v, ph', 0, 0) ∧ (∃ r : Int32, v = some (.int r) ∧ xH xX kK m 0 ph' ∧ xV ph' ∧ xINV (n + 1) ph' ∧ R ph' ∧ xget ph' 170 14 = some (.int 0)) := by
  obtain ⟨D', rfl⟩ : ∃ D', D = D' + 1 + 1 := ⟨D - 2, by omega⟩
  have hR : xHE xX xgA_VT xgF_VT (fun p => R p ∧ xget p 170 14 = some (.int 0)) := xHE_and (xHE_VU hR0) (xHE_g rfl)
  have hEV0 := xHE_and (xHE_sub (gA' := xgA_VT) (gF' := xgF_VU) (by decide +kernel) (by decide +kernel) xHEV) hR0
  refine xRd_mk (nl := 3) rfl rfl ?_
  show xGT kK (D' + 1) 208 _ (0, [some (.ref 170), none, none], [], ph, 0, 0)
  have hfin : ∀ (ph3 : pm_H) (p1 : Option Value) (i c : Int32), xH xX kK m 0 ph3 → xV ph3 ∧ (fun p => R p ∧ xget p 170 14 = some (.int 0)) ph3 → xget ph3 170 20 = some (.int c) → ((c.toInt ≤ 0 ∧ xINV n ph3) ∨ (0 < c.toInt ∧ xKC n ph3 ∧ xnow ph3)) → xGT kK (D' + 1) 208 (fun v ph' => (∃ r : Int32, v = some (.int r) ∧ xH xX kK m 0 ph' ∧ xV ph' ∧ xINV (n + 1) ph' ∧ R ph' ∧ xget ph' 170 14 = some (.int 0))) (119, [some (.ref 170), p1, some (.int i)], [], ph3, 0, 0) := fun ph3 p1 i c hP3 g3 hc3 hI3 => by
      refine gt_load (v := .ref 170) (n := 1) (ykc_208 (e := (2, .aload_n kF0, 0)) rfl) rfl rfl ?_
      refine gt_cv (n := 0) (as := [.ref 170]) (r := []) (ykc_208 (e := (6, .invokevirtual 221, 0)) rfl) rfl hP3 rfl rfl rfl (xisNew hR hn (by omega) hP3 g3 hc3 hI3) rfl (fun vv ph11 hv => ?_)
      obtain ⟨r, e9, hP4, g4, i4⟩ := hv; subst e9
      change xGT kK (D' + 1) 208 _ (123, [some (.ref 170), p1, some (.int i)], [.int r], ph11, 0, 0)
      refine gt_ret (ykc_208 (e := (7, .ireturn, 0)) rfl) rfl ?_
      exact ⟨r, rfl, hP4, g4.1, i4, g4.2.1, g4.2.2⟩
  refine xsg_208a (E := fun p => (xV p ∧ R p) ∧ xINV n p) (xHE_and (xHE_sub (by decide +kernel) (by decide +kernel) hEV0) (xHE_sub (by decide +kernel) (by decide +kernel) (xHEI n))) (by omega) hm ?_ ?_ _ ph h0m ⟨fun q e => by cases e; exact ⟨_, rfl, xaRi rfl (by decide)⟩, fun q e => (by cases e), fun q e => (by cases e),  trivial⟩ xF0 hP ⟨⟨hV, hr⟩, hI⟩
  · intro nd hnd L ph h1 h2 h3 hP g5
    obtain ⟨k1, k2, k3, k4, k5⟩ := xnd_208_ok nd hnd
    rw [k2] at h2
    rw [k5] at hP
    rw [k1]
    obtain ⟨o0, L, e, q0, j1⟩ := xhL_c h2
    subst e
    obtain ⟨o1, L, e, -, j2⟩ := xhL_c j1
    subst e
    obtain ⟨o2, L, e, q2, j3⟩ := xhL_c j2
    subst e
    have e := xhL_n j3
    subst e
    obtain ⟨v0, e0, q0⟩ := q0 _ rfl
    have e8 := xaO (A := 170) hP rfl q0
    subst e0 e8
    obtain ⟨v2, e2, i, e7, i0, i1⟩ := q2 _ rfl
    subst e2 e7
    have i0 : 0 ≤ i.toInt := i0
    have i1 : i.toInt ≤ 0 := i1
    obtain ⟨t, t0, t1, t2⟩ := xhF_get (k := 696334) (c := 14) h3 (xfb_ok k4) rfl rfl
    have e := xint0 t1 t2
    subst e
    obtain ⟨c, hc, hc0, hcP, hcr⟩ := xnok_ok (by decide) (by decide) k3 h3
    obtain ⟨P, hp, hP0, hP8⟩ := xM_fi (k := 5) hP rfl
    have hP0 : 0 ≤ P.toInt := hP0
    have hP8 : P.toInt ≤ 8 := hP8
    have g5 : (xV ph ∧ R ph) ∧ xINV n ph := g5
    by_cases hc1 : c.toInt ≤ 0
    · change xGT kK (D' + 1) 208 _ (21, [some (.ref 170), o1, some (.int i)], [], ph, 0, 0)
      refine gt_load (v := .int i) (n := 1) (ykc_208 (e := (2, .iload_n kF2, 0)) rfl) rfl rfl ?_
      refine gt_load (v := .ref 170) (n := 1) (ykc_208 (e := (2, .aload_n kF0, 0)) rfl) rfl rfl ?_
      refine gt_gfk (v := .int c) (ykc_208 (e := (5, .getfield 197, 0)) rfl) rfl hP hc rfl ?_
      refine gt_ige_t (ykc_208 (e := (4, .if_icmp .ge 93, 119)) rfl) (by omega) ?_
      exact hfin ph o1 i c hP ⟨g5.1.1, g5.1.2, t0⟩ hc (Or.inl ⟨hc1, g5.2⟩)
    · have h8 : P.toInt + c.toInt ≤ 8 := by
        rcases hcP P hp with q | q
        · exact q
        · omega
      exact xpeople_loop hR (by omega) (fun ph3 p1 i3 a1 a2 a3 a4 a5 => hfin ph3 p1 i3 c a1 a2 a5 (Or.inr ⟨by omega, a3, a4⟩)) (c.toInt.toNat + 1) ph o1 i P (by omega) i0 (by omega) hP0 (by omega) hP ⟨g5.1.1, g5.1.2, t0⟩ (xKC_of g5.2) (xnow_of g5.2) hc hp (fun t _ ht2 => hcr t ht2 (by omega))
  · intro v ph' a1 a2 a3 a4
    obtain ⟨u, e, z, e2, -⟩ := a3
    obtain ⟨t, t0, t1, t2⟩ := xhF_get (k := 696334) (c := 14) a4 (List.Mem.head _) rfl rfl
    have e9 := xint0 t1 t2
    subst e9
    exact ⟨z, by rw [e, e2], a1, a2.1.1, xINV_le (Nat.le_succ n) a2.2, a2.1.2, t0⟩

set_option maxRecDepth 6000 in
theorem xnd_209_ok : ∀ nd ∈ xex_209a, nd.1 = 21 ∧ nd.2.1 = [some (.inr (.inr (.inl 0))), none, some (.inl (Int.ofNat 0, Int.ofNat 0))] ∧ xnok 6 1 nd.2.2.1 = true ∧ xfb nd.2.2.1 696334 = some (Int.ofNat 0, Int.ofNat 0) ∧ nd.2.2.2.1 = 0 := List.forall_mem_cons.mpr ⟨⟨rfl, rfl, by decide +kernel, by decide +kernel, rfl⟩, List.forall_mem_cons.mpr ⟨⟨rfl, rfl, by decide +kernel, by decide +kernel, rfl⟩, List.forall_mem_cons.mpr ⟨⟨rfl, rfl, by decide +kernel, by decide +kernel, rfl⟩, List.forall_mem_cons.mpr ⟨⟨rfl, rfl, by decide +kernel, by decide +kernel, rfl⟩, List.forall_mem_cons.mpr ⟨⟨rfl, rfl, by decide +kernel, by decide +kernel, rfl⟩, List.forall_mem_cons.mpr ⟨⟨rfl, rfl, by decide +kernel, by decide +kernel, rfl⟩, List.forall_mem_cons.mpr ⟨⟨rfl, rfl, by decide +kernel, by decide +kernel, rfl⟩, List.forall_mem_cons.mpr ⟨⟨rfl, rfl, by decide +kernel, by decide +kernel, rfl⟩, List.forall_mem_cons.mpr ⟨⟨rfl, rfl, by decide +kernel, by decide +kernel, rfl⟩, List.forall_mem_cons.mpr ⟨⟨rfl, rfl, by decide +kernel, by decide +kernel, rfl⟩, List.forall_mem_cons.mpr ⟨⟨rfl, rfl, by decide +kernel, by decide +kernel, rfl⟩, List.forall_mem_cons.mpr ⟨⟨rfl, rfl, by decide +kernel, by decide +kernel, rfl⟩, List.forall_mem_cons.mpr ⟨⟨rfl, rfl, by decide +kernel, by decide +kernel, rfl⟩, List.forall_mem_cons.mpr ⟨⟨rfl, rfl, by decide +kernel, by decide +kernel, rfl⟩, List.forall_mem_cons.mpr ⟨⟨rfl, rfl, by decide +kernel, by decide +kernel, rfl⟩, List.forall_mem_cons.mpr ⟨⟨rfl, rfl, by decide +kernel, by decide +kernel, rfl⟩, List.forall_mem_cons.mpr ⟨⟨rfl, rfl, by decide +kernel, by decide +kernel, rfl⟩, List.forall_mem_cons.mpr ⟨⟨rfl, rfl, by decide +kernel, by decide +kernel, rfl⟩, fun nd hnd => absurd hnd List.not_mem_nil⟩⟩⟩⟩⟩⟩⟩⟩⟩⟩⟩⟩⟩⟩⟩⟩⟩⟩
set_option maxRecDepth 6000 in
theorem xw_things {R : pm_H → Prop} (hR0 : xHE xX xgA_VT xgF_VU R) {m : Int} (hm : m ≤ 2147483646) (h0m : (0 : Int) ≤ m) {D n : Nat} (hn : n ≤ 1000000) (hD : 10 ≤ D) {ph : pm_H} (hP : xH xX kK m 0 ph) (hV : xV ph) (hI : xINV n ph) (hr : R ph) : ∃ v ph', pm_Rd kK false D 209 [.ref 170] ph (v, ph', 0, 0) ∧ (∃ r : Int32, v = some (.int r) ∧ xH xX kK m 0 ph' ∧ xV ph' ∧ xINV (n + 1) ph' ∧ R ph' ∧ xget ph' 170 14 = some (.int 0)) := by
  obtain ⟨D', rfl⟩ : ∃ D', D = D' + 1 + 1 := ⟨D - 2, by omega⟩
  have hR : xHE xX xgA_VT xgF_VT (fun p => R p ∧ xget p 170 14 = some (.int 0)) := xHE_and (xHE_VU hR0) (xHE_g rfl)
  have hEV0 := xHE_and (xHE_sub (gA' := xgA_VT) (gF' := xgF_VU) (by decide +kernel) (by decide +kernel) xHEV) hR0
  refine xRd_mk (nl := 3) rfl rfl ?_
  show xGT kK (D' + 1) 209 _ (0, [some (.ref 170), none, none], [], ph, 0, 0)
  have hfin : ∀ (ph3 : pm_H) (p1 : Option Value) (i c : Int32), xH xX kK m 0 ph3 → xV ph3 ∧ (fun p => R p ∧ xget p 170 14 = some (.int 0)) ph3 → xget ph3 170 20 = some (.int c) → ((c.toInt ≤ 0 ∧ xINV n ph3) ∨ (0 < c.toInt ∧ xKC n ph3 ∧ xnow ph3)) → xGT kK (D' + 1) 209 (fun v ph' => (∃ r : Int32, v = some (.int r) ∧ xH xX kK m 0 ph' ∧ xV ph' ∧ xINV (n + 1) ph' ∧ R ph' ∧ xget ph' 170 14 = some (.int 0))) (63, [some (.ref 170), p1, some (.int i)], [], ph3, 0, 0) := fun ph3 p1 i c hP3 g3 hc3 hI3 => by
      refine gt_load (v := .ref 170) (n := 1) (ykc_209 (e := (2, .aload_n kF0, 0)) rfl) rfl rfl ?_
      refine gt_cv (n := 0) (as := [.ref 170]) (r := []) (ykc_209 (e := (6, .invokevirtual 221, 0)) rfl) rfl hP3 rfl rfl rfl (xisNew hR hn (by omega) hP3 g3 hc3 hI3) rfl (fun vv ph11 hv => ?_)
      obtain ⟨r, e9, hP4, g4, i4⟩ := hv; subst e9
      change xGT kK (D' + 1) 209 _ (67, [some (.ref 170), p1, some (.int i)], [.int r], ph11, 0, 0)
      refine gt_ret (ykc_209 (e := (7, .ireturn, 0)) rfl) rfl ?_
      exact ⟨r, rfl, hP4, g4.1, i4, g4.2.1, g4.2.2⟩
  refine xsg_209a (E := fun p => (xV p ∧ R p) ∧ xINV n p) (xHE_and (xHE_sub (by decide +kernel) (by decide +kernel) hEV0) (xHE_sub (by decide +kernel) (by decide +kernel) (xHEI n))) (by omega) hm ?_ ?_ _ ph h0m ⟨fun q e => by cases e; exact ⟨_, rfl, xaRi rfl (by decide)⟩, fun q e => (by cases e), fun q e => (by cases e),  trivial⟩ xF0 hP ⟨⟨hV, hr⟩, hI⟩
  · intro nd hnd L ph h1 h2 h3 hP g5
    obtain ⟨k1, k2, k3, k4, k5⟩ := xnd_209_ok nd hnd
    rw [k2] at h2
    rw [k5] at hP
    rw [k1]
    obtain ⟨o0, L, e, q0, j1⟩ := xhL_c h2
    subst e
    obtain ⟨o1, L, e, -, j2⟩ := xhL_c j1
    subst e
    obtain ⟨o2, L, e, q2, j3⟩ := xhL_c j2
    subst e
    have e := xhL_n j3
    subst e
    obtain ⟨v0, e0, q0⟩ := q0 _ rfl
    have e8 := xaO (A := 170) hP rfl q0
    subst e0 e8
    obtain ⟨v2, e2, i, e7, i0, i1⟩ := q2 _ rfl
    subst e2 e7
    have i0 : 0 ≤ i.toInt := i0
    have i1 : i.toInt ≤ 0 := i1
    obtain ⟨t, t0, t1, t2⟩ := xhF_get (k := 696334) (c := 14) h3 (xfb_ok k4) rfl rfl
    have e := xint0 t1 t2
    subst e
    obtain ⟨c, hc, hc0, hcP, hcr⟩ := xnok_ok (by decide) (by decide) k3 h3
    obtain ⟨P, hp, hP0, hP8⟩ := xM_fi (k := 6) hP rfl
    have hP0 : 0 ≤ P.toInt := hP0
    have hP8 : P.toInt ≤ 8 := hP8
    have g5 : (xV ph ∧ R ph) ∧ xINV n ph := g5
    by_cases hc1 : c.toInt ≤ 0
    · change xGT kK (D' + 1) 209 _ (21, [some (.ref 170), o1, some (.int i)], [], ph, 0, 0)
      refine gt_load (v := .int i) (n := 1) (ykc_209 (e := (2, .iload_n kF2, 0)) rfl) rfl rfl ?_
      refine gt_load (v := .ref 170) (n := 1) (ykc_209 (e := (2, .aload_n kF0, 0)) rfl) rfl rfl ?_
      refine gt_gfk (v := .int c) (ykc_209 (e := (5, .getfield 197, 0)) rfl) rfl hP hc rfl ?_
      refine gt_ige_t (ykc_209 (e := (4, .if_icmp .ge 37, 63)) rfl) (by omega) ?_
      exact hfin ph o1 i c hP ⟨g5.1.1, g5.1.2, t0⟩ hc (Or.inl ⟨hc1, g5.2⟩)
    · have h8 : P.toInt + c.toInt ≤ 8 := by
        rcases hcP P hp with q | q
        · exact q
        · omega
      exact xthings_loop hR (by omega) (fun ph3 p1 i3 a1 a2 a3 a4 a5 => hfin ph3 p1 i3 c a1 a2 a5 (Or.inr ⟨by omega, a3, a4⟩)) (c.toInt.toNat + 1) ph o1 i P (by omega) i0 (by omega) hP0 (by omega) hP ⟨g5.1.1, g5.1.2, t0⟩ (xKC_of g5.2) (xnow_of g5.2) hc hp (fun t _ ht2 => hcr t ht2 (by omega))
  · intro v ph' a1 a2 a3 a4
    obtain ⟨u, e, z, e2, -⟩ := a3
    obtain ⟨t, t0, t1, t2⟩ := xhF_get (k := 696334) (c := 14) a4 (List.Mem.head _) rfl rfl
    have e9 := xint0 t1 t2
    subst e9
    exact ⟨z, by rw [e, e2], a1, a2.1.1, xINV_le (Nat.le_succ n) a2.2, a2.1.2, t0⟩

set_option maxRecDepth 6000 in
theorem xfieldsM {m : Int} {w D : Nat} {ph : pm_H} (hP : xH xX kK m w ph) : ∃ v ph', pm_Rd kK false (D + 1) 188 [.ref 170] ph (v, ph', 0, 0) ∧ (∃ z : Int32, v = some (.int z) ∧ ph' = ph) := by
  refine xRd_mk (nl := 1) rfl rfl ?_
  show xGT kK D 188 _ (0, [some (.ref 170)], [], ph, 0, 0)
  refine gt_load (v := .ref 170) (n := 1) (ykc_188 (e := (2, .aload_n kF0, 0)) rfl) rfl rfl ?_
  refine gt_gfi (ykc_188 (e := (5, .getfield 24, 0)) rfl) rfl hP rfl rfl (fun rows f_rows f0_rows f1_rows => ?_)
  refine gt_load (v := .ref 170) (n := 1) (ykc_188 (e := (2, .aload_n kF0, 0)) rfl) rfl rfl ?_
  refine gt_gfi (ykc_188 (e := (5, .getfield 27, 0)) rfl) rfl hP rfl rfl (fun columns f_columns f0_columns f1_columns => ?_)
  refine gt_alu (st' := [.int (rows * columns)]) (ykc_188 (e := (0, .imul, 0)) rfl) rfl rfl ?_
  refine gt_ret (ykc_188 (e := (7, .ireturn, 0)) rfl) rfl ?_
  exact ⟨_, rfl, rfl⟩

set_option maxRecDepth 6000 in
theorem xw_valley {R : pm_H → Prop} (hR0 : xHE xX xgA_VT xgF_VU R) {m : Int} (hm : m ≤ 2147483646) (h0m : (0 : Int) ≤ m) {D n : Nat} (hn : n ≤ 1000000) (hD : 10 ≤ D) {ph : pm_H} (hP : xH xX kK m 0 ph) (hV : xV ph) (hI : xINV n ph) (hr : R ph) : ∃ v ph', pm_Rd kK false D 202 [.ref 170] ph (v, ph', 0, 0) ∧ (∃ r : Int32, v = some (.int r) ∧ xH xX kK m 0 ph' ∧ xV ph' ∧ xINV (n + 1) ph' ∧ R ph' ∧ xget ph' 170 14 = some (.int 0)) := by
  obtain ⟨D', rfl⟩ : ∃ D', D = D' + 1 + 1 := ⟨D - 2, by omega⟩
  have hR : xHE xX xgA_VT xgF_VT (fun p => R p ∧ xget p 170 14 = some (.int 0)) := xHE_and (xHE_VU hR0) (xHE_g rfl)
  have hEVR := xHE_and xHEVT hR
  have hEV0 := xHE_and (xHE_sub (gA' := xgA_VT) (gF' := xgF_VU) (by decide +kernel) (by decide +kernel) xHEV) hR0
  refine xRd_mk (nl := 6) rfl rfl ?_
  show xGT kK (D' + 1) 202 _ (0, [some (.ref 170), none, none, none, none, none], [], ph, 0, 0)
  refine xsg_202a (E := fun p => (xV p ∧ R p) ∧ xINV n p) (xHE_and (xHE_sub (by decide +kernel) (by decide +kernel) hEV0) (xHE_sub (by decide +kernel) (by decide +kernel) (xHEI n))) (by omega) hm ?_ ?_ _ ph h0m ⟨fun q e => by cases e; exact ⟨_, rfl, xaRi rfl (by decide)⟩, fun q e => (by cases e), fun q e => (by cases e), fun q e => (by cases e), fun q e => (by cases e), fun q e => (by cases e),  trivial⟩ xF0 hP ⟨⟨hV, hr⟩, hI⟩
  · intro nd hnd L ph h1 h2 h3 hP g5
    have e9 := List.mem_singleton.mp (show nd ∈ [xnx_202a_3.1] from hnd)
    subst e9
    have g5 : (xV ph ∧ R ph) ∧ xINV n ph := g5
    obtain ⟨t, t0, t1, t2⟩ := xhF_get (k := 696334) (c := 14) (lo := 0) (hi := 0) h3 (xfb_ok (by decide +kernel)) rfl rfl
    have e := xint0 t1 t2
    subst e
    refine xsg_202b (E := fun p => (xV p ∧ R p ∧ xget p 170 14 = some (.int 0)) ∧ xKC n p) (xHE_and (xHE_sub (by decide +kernel) (by decide +kernel) hEVR) (xHE_sub (by decide +kernel) (by decide +kernel) (xHEKC n))) (by omega) hm ?_ ?_ _ ph h0m h2 h3 hP ⟨⟨g5.1.1, g5.1.2, t0⟩, xKC_of g5.2⟩
    · intro nd hnd L ph3 h1 h2 h3 hP3 g6
      have e9 := List.mem_singleton.mp (show nd ∈ [xnx_202b_2.1] from hnd)
      subst e9
      obtain ⟨o0, L, e, q0, j1⟩ := xhL_c h2
      subst e
      obtain ⟨p1, L, e, -, j2⟩ := xhL_c j1
      subst e
      obtain ⟨p2, L, e, -, j3⟩ := xhL_c j2
      subst e
      obtain ⟨p3, L, e, -, j4⟩ := xhL_c j3
      subst e
      obtain ⟨p4, L, e, -, j5⟩ := xhL_c j4
      subst e
      obtain ⟨p5, L, e, -, j6⟩ := xhL_c j5
      subst e
      have e := xhL_n j6
      subst e
      obtain ⟨v0, e0, q0⟩ := q0 _ rfl
      have e8 := xaO (A := 170) hP3 rfl q0
      subst e0 e8
      replace hP3 : xH xX kK m 0 ph3 := hP3
      have g6 : (xV ph3 ∧ R ph3 ∧ xget ph3 170 14 = some (.int 0)) ∧ xKC n ph3 := g6
      obtain ⟨U, u0, u1, u2⟩ := xhF_get (k := 696347) (c := 27) (lo := 0) (hi := 0) h3 (xfb_ok (by decide +kernel)) rfl rfl
      obtain ⟨P, f5, f50, f51⟩ := xhF_get (k := 696325) (c := 5) (lo := 0) (hi := 0) h3 (xfb_ok (by decide +kernel)) rfl rfl
      obtain ⟨T, f6, f60, f61⟩ := xhF_get (k := 696326) (c := 6) (lo := 0) (hi := 0) h3 (xfb_ok (by decide +kernel)) rfl rfl
      obtain ⟨W, f4, -, -⟩ := xM_fi (k := 4) hP3 rfl
      have f50 : (0 : Int) ≤ P.toInt := f50
      have f51 : P.toInt ≤ 0 := f51
      have f60 : (0 : Int) ≤ T.toInt := f60
      have f61 : T.toInt ≤ 0 := f61
      have u2 : U.toInt ≤ 0 := u2
      have n3 : xnow ph3 := ⟨W, P, T, ⟨f4, f5, f6⟩, ⟨by omega, by omega⟩, Or.inr fun k x hk _ => by omega⟩
      obtain ⟨C, hC, C0, C1_, C2_⟩ := g6.2
      change xGT kK (D' + 1) 202 _ (191, [some (.ref 170), p1, p2, p3, p4, p5], [], ph3, 0, 0)
      refine gt_load (v := .ref 170) (n := 1) (ykc_202 (e := (2, .aload_n kF0, 0)) rfl) rfl rfl ?_
      refine gt_alu (st' := [.ref 170, .ref 170]) (ykc_202 (e := (0, .dup, 0)) rfl) rfl rfl ?_
      refine gt_gfk (v := .int C) (ykc_202 (e := (5, .getfield 191, 0)) rfl) rfl hP3 hC rfl ?_
      refine gt_alu (st' := [.int (Int32.ofInt 1), .int C, .ref 170]) (ykc_202 (e := (0, .iconst 1, 0)) rfl) rfl rfl ?_
      obtain ⟨C1, e_C1, h_C1⟩ : ∃ zq : Int32, C + (Int32.ofInt 1) = zq ∧ zq.toInt = C.toInt + 1 := ⟨_, rfl, by rw [ti_add (by rw [xi1]; omega) (by rw [xi1]; omega), xi1]⟩
      refine gt_alu (st' := [.int C1, .ref 170]) (ykc_202 (e := (0, .iadd, 0)) rfl) (by rw [← e_C1]; exact rfl) rfl ?_
      refine gt_pf (y := C1) (ykc_202 (e := (5, .putfield 191, 0)) rfl) rfl hP3 rfl rfl (x32_lo _) (x32_hi _) rfl (fun ph11 hP11 u11 => ?_)
      refine gt_load (v := .ref 170) (n := 1) (ykc_202 (e := (2, .aload_n kF0, 0)) rfl) rfl rfl ?_
      refine gt_alu (st' := [.int (Int32.ofInt 0), .ref 170]) (ykc_202 (e := (0, .iconst 0, 0)) rfl) rfl rfl ?_
      refine gt_pf (y := Int32.ofInt 0) (ykc_202 (e := (5, .putfield 194, 0)) rfl) rfl hP11 rfl rfl (by decide) (by decide) rfl (fun ph12 hP12 u12 => ?_)
      have f12_7 : xget ph12 170 7 = some (.int C1) := (u12.2.1 170 7 (by decide)).trans u11.1
      refine gt_load (v := .ref 170) (n := 1) (ykc_202 (e := (2, .aload_n kF0, 0)) rfl) rfl rfl ?_
      refine gt_cv (n := 0) (as := [.ref 170]) (r := []) (ykc_202 (e := (6, .invokevirtual 122, 0)) rfl) rfl hP12 rfl rfl rfl (xfieldsM (D := D') hP12) rfl (fun vv ph13 hv => ?_)
      obtain ⟨z, e9, e8⟩ := hv; subst e9; have e7 := e8.symm; subst e7
      change xGT kK (D' + 1) 202 _ (210, [some (.ref 170), p1, p2, p3, p4, p5], [.int z], ph12, 0, 0)
      refine gt_ret (ykc_202 (e := (7, .ireturn, 0)) rfl) rfl ?_
      have n4 := xnow_u u12 (Or.inr (Or.inl ⟨rfl, by decide, by decide, by decide⟩)) (xnow_u u11 (Or.inr (Or.inl ⟨rfl, by decide, by decide, by decide⟩)) n3)
      have i2 := xINV_mk ⟨C, hC, C0, C1_, C2_⟩ hC n4 ((u12.2.1 170 27 (fun q => absurd q.2 (by decide))).trans ((u11.2.1 170 27 (fun q => absurd q.2 (by decide))).trans u0)) u2 ((u12.2.1 170 7 (fun q => absurd q.2 (by decide))).trans u11.1) h_C1 ((u12.2.2 198 (by decide)).trans (u11.2.2 198 (by decide))) ((u12.2.2 199 (by decide)).trans (u11.2.2 199 (by decide)))
      have g7 := xu1_E hEVR u12 rfl rfl rfl (xu1_E hEVR u11 rfl rfl rfl g6.1)
      exact ⟨_, rfl, hP12, g7.1, i2, g7.2.1, g7.2.2⟩
    · intro v ph' a1 a2 a3 a4
      obtain ⟨u, e, z, e2, z1, z2⟩ := a3
      have z1 : (1 : Int) ≤ z.toInt := z1
      have z2 : z.toInt ≤ 0 := z2
      omega
  · intro v ph' a1 a2 a3 a4
    obtain ⟨u, e, z, e2, -⟩ := a3
    obtain ⟨t, t0, t1, t2⟩ := xhF_get (k := 696334) (c := 14) a4 (List.Mem.head _) rfl rfl
    have e9 := xint0 t1 t2
    subst e9
    exact ⟨z, by rw [e, e2], a1, a2.1.1, xINV_le (Nat.le_succ n) a2.2, a2.1.2, t0⟩

/-! person, thing, row of the class: they answer, or they throw at once; printed by wip/x/h_zthrow.py -/
set_option maxRecDepth 6000 in
theorem pm_ST {K : pm_K} {al : Bool} {C : Nat → List Value → pm_H → pm_R → Prop} {mj : Nat} {k : Nat} {y : pm_S} {r : pm_R} (hT : pm_Tn K al C mj k y r) : ∀ (n : Nat) (x : pm_S), pm_Sn K al C mj n x y → ∃ q, pm_Tn K al C mj q x r := by
  intro n
  induction n with
  | zero =>
    intro x h
    have h : x = y := h
    subst h
    exact ⟨k, hT⟩
  | succ n ih =>
    intro x h
    rw [pm_Sn] at h
    split at h
    · next x' hx =>
      obtain ⟨q, hq⟩ := ih _ h
      exact ⟨q + 1, by rw [pm_Tn, hx]; exact hq⟩
    · next j as pc L st ph cs ss hx =>
      obtain ⟨v, ph', c1, s1, hC, h2⟩ := h
      obtain ⟨q, hq⟩ := ih _ h2
      exact ⟨q + 1, by rw [pm_Tn, hx]; exact ⟨v, ph', c1, s1, hC, hq⟩⟩
    · exact h.elim
set_option maxRecDepth 6000 in
theorem xGT_se {D j : Nat} {Q : Option Value → pm_H → Prop} {x y : pm_S} (h : pm_Se kK false (pm_Rd kK false D) j x y) (g : xGT kK D j Q y) : xGT kK D j Q x := by
  obtain ⟨n, h⟩ := h
  obtain ⟨k, v, ph, h1, h2⟩ := g
  obtain ⟨q, hq⟩ := pm_ST h1 n x h
  exact ⟨q, v, ph, hq, h2⟩
set_option maxRecDepth 6000 in
theorem pm_Se_t {K : pm_K} {al : Bool} {C : Nat → List Value → pm_H → pm_R → Prop} {mj : Nat} {y z : pm_S} (h2 : pm_Se K al C mj y z) : ∀ (n : Nat) (x : pm_S), pm_Sn K al C mj n x y → pm_Se K al C mj x z := by
  intro n
  induction n with
  | zero =>
    intro x h
    have h : x = y := h
    subst h
    exact h2
  | succ n ih =>
    intro x h
    rw [pm_Sn] at h
    split at h
    · next x' hx => exact .step hx (ih _ h)
    · next j as pc L st ph cs ss hx =>
      obtain ⟨v, ph', c1, s1, hC, h3⟩ := h
      exact .call hx hC (ih _ h3)
    · exact h.elim
set_option maxRecDepth 6000 in
theorem xO_at {m : Int} {w a i ci : Nat} {fts : List ((Int × Int) ⊕ Option Nat)} {ph : pm_H} (hP : xH xX kK m w ph) (ho : xown a = some i) (ht : xkt i = some (some a, .inr (ci, fts))) : ∃ fl, pm_at ph a = some (.inr (ci, fl)) ∧ ∀ (k : Nat) (ft : (Int × Int) ⊕ Option Nat), fts[k]? = some ft → ∃ v, fl[k]? = some v ∧ xftG xX v ft := by
  obtain ⟨s, t, h1, -, h3⟩ := hP a i ho
  rw [show xX.2.1 i = xkt i from rfl, ht] at h1
  cases h1
  exact h3
set_option maxRecDepth 6000 in
theorem xgfs {K : pm_K} {al : Bool} {mj pc aux i ci k a c s : Nat} {v v0 : Value} {fl : List Value} {L : List (Option Value)} {st : List Value} {ph : pm_H} (hc : pm_code K mj pc = some (5, .getfield i, aux)) (hl : pm_lnk K (pm_own K mj) i = some (6, ci, k, v0)) (hat : pm_at ph a = some (.inr (ci, fl))) (hv : fl[k]? = some v) : pm_step K al mj (pc, L, .ref a :: st, ph, c, s) = some (.inl (pc + 3, L, v :: st, ph, c, s)) := ks5 (c1 := 0) (s1 := 0) hc (by
  unfold pm_mem
  have e : Nat.beq ci ci = true := Nat.beq_refl ci
  simp only [hl, hat, e, hv, cond_true])
set_option maxRecDepth 6000 in
theorem gt_gfo {ci i k a pc pc' aux D j : Nat} {Q : Option Value → pm_H → Prop} {v v0 : Value} {fl : List Value} {L : List (Option Value)} {st : List Value} {ph : pm_H} (hc : pm_code kK j pc = some (5, .getfield i, aux)) (hl : pm_lnk kK (pm_own kK j) i = some (6, ci, k, v0)) (hat : pm_at ph a = some (.inr (ci, fl))) (hv : fl[k]? = some v) (hp : pc + 3 = pc') (kk : xGT kK D j Q (pc', L, v :: st, ph, 0, 0)) : xGT kK D j Q (pc, L, .ref a :: st, ph, 0, 0) := gt_mem (n := 3) hc (by
  unfold pm_mem
  have e : Nat.beq ci ci = true := Nat.beq_refl ci
  simp only [hl, hat, e, hv, cond_true]) hp kk
set_option maxRecDepth 6000 in
theorem xinvV {K : pm_K} {ow i j n ci a : Nat} {st r as fl : List Value} {ph : pm_H} (hl : pm_lnk K ow i = some (2, j, n, .ref ci)) (hd : st.drop n = .ref a :: r) (hat : pm_at ph a = some (.inr (ci, fl))) (hcat : Nat.ble (r.map fun v => v.category).sum 8 = true) (ha : .ref a :: (st.take n).reverse = as) : pm_inv K ow (.invokevirtual i) st ph = some (j, as, r) := by
  unfold pm_inv
  have e : Nat.beq ci ci = true := Nat.beq_refl ci
  simp only [hl, hd, hat, e, hcat, Bool.and_self, cond_true, ha]
set_option maxRecDepth 6000 in
theorem xts_def {d lo hi : Int} {offs : Array Int} {aux pc t : Nat} {x : Int32} {r : List Value} (h : x.toInt < lo ∨ hi < x.toInt) (ht : pm_tgt pc d = some t) : pm_br (.tableswitch d lo hi offs) aux pc (.int x :: r) = some (t, r) := by
  have e : (decide (x.toInt < lo) || decide (hi < x.toInt)) = true := by
    rcases h with h | h
    · rw [decide_eq_true h]; rfl
    · rw [decide_eq_true h]; exact Bool.or_true _
  unfold pm_br
  simp only [e, cond_true, ht]
set_option maxRecDepth 6000 in
theorem xbr1 {o : Int} {aux pc : Nat} : pm_br (.ifCond .ne o) aux pc [.int (Int32.ofInt 1)] = some (aux, []) := by
  show some (bif decide (Int32.ofInt 1 = 0) then pc + 3 else aux, []) = _
  rw [decide_eq_false (by decide)]
  rfl
set_option maxRecDepth 6000 in
theorem xbr0 {o : Int} {aux pc : Nat} : pm_br (.ifCond .ne o) aux pc [.int (Int32.ofInt 0)] = some (pc + 3, []) := by
  show some (bif decide (Int32.ofInt 0 = 0) then pc + 3 else aux, []) = _
  rw [decide_eq_true (by decide)]
  rfl
set_option maxRecDepth 6000 in
theorem x8i : ((Int8.ofInt 8).toInt32).toInt = 8 := by decide

set_option maxRecDepth 6000 in
theorem xhas_106 {m : Int} {w D : Nat} {p : Int32} {ph : pm_H} (hP : xH xX kK m w ph) : (pm_Rd kK false (D + 1) 106 [.ref 25, .int p] ph (some (.int (Int32.ofInt 1)), ph, 0, 0) ∧ 0 ≤ p.toInt ∧ p.toInt ≤ 7) ∨ pm_Rd kK false (D + 1) 106 [.ref 25, .int p] ph (some (.int (Int32.ofInt 0)), ph, 0, 0) := by
  obtain ⟨fl, hat, hfl⟩ := xO_at (a := 25) hP rfl rfl
  obtain ⟨v, hv, P, e, -, -⟩ := hfl 0 _ rfl
  subst e
  have key : ∃ v ph', pm_Rd kK false (D + 1) 106 [.ref 25, .int p] ph (v, ph', 0, 0) ∧ (ph' = ph ∧ ((v = some (.int (Int32.ofInt 1)) ∧ 0 ≤ p.toInt ∧ p.toInt ≤ 7) ∨ v = some (.int (Int32.ofInt 0)))) := by
    refine xRd_mk (nl := 2) rfl rfl ?_
    show xGT kK D 106 _ (0, [some (.ref 25), some (.int p)], [], ph, 0, 0)
    refine gt_load (v := .int p) (n := 1) (ykc_106 (e := (2, .iload_n kF1, 0)) rfl) rfl rfl ?_
    by_cases h1 : p.toInt < 0
    · refine gt_zlt_t (ykc_106 (e := (4, .ifCond .lt 21, 22)) rfl) h1 ?_
      refine gt_alu (st' := [.int (Int32.ofInt 0)]) (ykc_106 (e := (0, .iconst 0, 0)) rfl) rfl rfl ?_
      refine gt_ret (ykc_106 (e := (7, .ireturn, 0)) rfl) (xretz (by decide) (by decide)) ?_
      exact ⟨rfl, Or.inr rfl⟩
    · refine gt_zlt_f (ykc_106 (e := (4, .ifCond .lt 21, 22)) rfl) (by omega) rfl ?_
      refine gt_load (v := .int p) (n := 1) (ykc_106 (e := (2, .iload_n kF1, 0)) rfl) rfl rfl ?_
      refine gt_load (v := .ref 25) (n := 1) (ykc_106 (e := (2, .aload_n kF0, 0)) rfl) rfl rfl ?_
      refine gt_gfo (ykc_106 (e := (5, .getfield 30, 0)) rfl) rfl hat hv rfl ?_
      by_cases h2 : p.toInt < P.toInt
      · refine gt_ige_f (ykc_106 (e := (4, .if_icmp .ge 13, 22)) rfl) h2 rfl ?_
        refine gt_load (v := .int p) (n := 1) (ykc_106 (e := (2, .iload_n kF1, 0)) rfl) rfl rfl ?_
        refine gt_push (v := .int ((Int8.ofInt 8).toInt32)) (n := 2) (ykc_106 (e := (1, .bipush 8, 0)) rfl) rfl rfl ?_
        by_cases h3 : p.toInt < 8
        · refine gt_ige_f (ykc_106 (e := (4, .if_icmp .ge 7, 22)) rfl) (by rw [x8i]; exact h3) rfl ?_
          refine gt_alu (st' := [.int (Int32.ofInt 1)]) (ykc_106 (e := (0, .iconst 1, 0)) rfl) rfl rfl ?_
          refine gt_br (pc' := 23) (st' := [.int (Int32.ofInt 1)]) (ykc_106 (e := (4, .goto 4, 23)) rfl) rfl ?_
          refine gt_ret (ykc_106 (e := (7, .ireturn, 0)) rfl) (xretz (by decide) (by decide)) ?_
          exact ⟨rfl, Or.inl ⟨rfl, by omega, by omega⟩⟩
        · refine gt_ige_t (ykc_106 (e := (4, .if_icmp .ge 7, 22)) rfl) (by rw [x8i]; omega) ?_
          refine gt_alu (st' := [.int (Int32.ofInt 0)]) (ykc_106 (e := (0, .iconst 0, 0)) rfl) rfl rfl ?_
          refine gt_ret (ykc_106 (e := (7, .ireturn, 0)) rfl) (xretz (by decide) (by decide)) ?_
          exact ⟨rfl, Or.inr rfl⟩
      · refine gt_ige_t (ykc_106 (e := (4, .if_icmp .ge 13, 22)) rfl) (by omega) ?_
        refine gt_alu (st' := [.int (Int32.ofInt 0)]) (ykc_106 (e := (0, .iconst 0, 0)) rfl) rfl rfl ?_
        refine gt_ret (ykc_106 (e := (7, .ireturn, 0)) rfl) (xretz (by decide) (by decide)) ?_
        exact ⟨rfl, Or.inr rfl⟩
  obtain ⟨v, ph', k1, k2, k3⟩ := key
  subst k2
  rcases k3 with ⟨k3, k4⟩ | k3
  · subst k3
    exact Or.inl ⟨k1, k4⟩
  · subst k3
    exact Or.inr k1

set_option maxRecDepth 6000 in
theorem xhas_107 {m : Int} {w D : Nat} {p : Int32} {ph : pm_H} (hP : xH xX kK m w ph) : (pm_Rd kK false (D + 1) 107 [.ref 25, .int p] ph (some (.int (Int32.ofInt 1)), ph, 0, 0) ∧ 0 ≤ p.toInt ∧ p.toInt ≤ 7) ∨ pm_Rd kK false (D + 1) 107 [.ref 25, .int p] ph (some (.int (Int32.ofInt 0)), ph, 0, 0) := by
  obtain ⟨fl, hat, hfl⟩ := xO_at (a := 25) hP rfl rfl
  obtain ⟨v, hv, P, e, -, -⟩ := hfl 1 _ rfl
  subst e
  have key : ∃ v ph', pm_Rd kK false (D + 1) 107 [.ref 25, .int p] ph (v, ph', 0, 0) ∧ (ph' = ph ∧ ((v = some (.int (Int32.ofInt 1)) ∧ 0 ≤ p.toInt ∧ p.toInt ≤ 7) ∨ v = some (.int (Int32.ofInt 0)))) := by
    refine xRd_mk (nl := 2) rfl rfl ?_
    show xGT kK D 107 _ (0, [some (.ref 25), some (.int p)], [], ph, 0, 0)
    refine gt_load (v := .int p) (n := 1) (ykc_107 (e := (2, .iload_n kF1, 0)) rfl) rfl rfl ?_
    by_cases h1 : p.toInt < 0
    · refine gt_zlt_t (ykc_107 (e := (4, .ifCond .lt 21, 22)) rfl) h1 ?_
      refine gt_alu (st' := [.int (Int32.ofInt 0)]) (ykc_107 (e := (0, .iconst 0, 0)) rfl) rfl rfl ?_
      refine gt_ret (ykc_107 (e := (7, .ireturn, 0)) rfl) (xretz (by decide) (by decide)) ?_
      exact ⟨rfl, Or.inr rfl⟩
    · refine gt_zlt_f (ykc_107 (e := (4, .ifCond .lt 21, 22)) rfl) (by omega) rfl ?_
      refine gt_load (v := .int p) (n := 1) (ykc_107 (e := (2, .iload_n kF1, 0)) rfl) rfl rfl ?_
      refine gt_load (v := .ref 25) (n := 1) (ykc_107 (e := (2, .aload_n kF0, 0)) rfl) rfl rfl ?_
      refine gt_gfo (ykc_107 (e := (5, .getfield 34, 0)) rfl) rfl hat hv rfl ?_
      by_cases h2 : p.toInt < P.toInt
      · refine gt_ige_f (ykc_107 (e := (4, .if_icmp .ge 13, 22)) rfl) h2 rfl ?_
        refine gt_load (v := .int p) (n := 1) (ykc_107 (e := (2, .iload_n kF1, 0)) rfl) rfl rfl ?_
        refine gt_push (v := .int ((Int8.ofInt 8).toInt32)) (n := 2) (ykc_107 (e := (1, .bipush 8, 0)) rfl) rfl rfl ?_
        by_cases h3 : p.toInt < 8
        · refine gt_ige_f (ykc_107 (e := (4, .if_icmp .ge 7, 22)) rfl) (by rw [x8i]; exact h3) rfl ?_
          refine gt_alu (st' := [.int (Int32.ofInt 1)]) (ykc_107 (e := (0, .iconst 1, 0)) rfl) rfl rfl ?_
          refine gt_br (pc' := 23) (st' := [.int (Int32.ofInt 1)]) (ykc_107 (e := (4, .goto 4, 23)) rfl) rfl ?_
          refine gt_ret (ykc_107 (e := (7, .ireturn, 0)) rfl) (xretz (by decide) (by decide)) ?_
          exact ⟨rfl, Or.inl ⟨rfl, by omega, by omega⟩⟩
        · refine gt_ige_t (ykc_107 (e := (4, .if_icmp .ge 7, 22)) rfl) (by rw [x8i]; omega) ?_
          refine gt_alu (st' := [.int (Int32.ofInt 0)]) (ykc_107 (e := (0, .iconst 0, 0)) rfl) rfl rfl ?_
          refine gt_ret (ykc_107 (e := (7, .ireturn, 0)) rfl) (xretz (by decide) (by decide)) ?_
          exact ⟨rfl, Or.inr rfl⟩
      · refine gt_ige_t (ykc_107 (e := (4, .if_icmp .ge 13, 22)) rfl) (by omega) ?_
        refine gt_alu (st' := [.int (Int32.ofInt 0)]) (ykc_107 (e := (0, .iconst 0, 0)) rfl) rfl rfl ?_
        refine gt_ret (ykc_107 (e := (7, .ireturn, 0)) rfl) (xretz (by decide) (by decide)) ?_
        exact ⟨rfl, Or.inr rfl⟩
  obtain ⟨v, ph', k1, k2, k3⟩ := key
  subst k2
  rcases k3 with ⟨k3, k4⟩ | k3
  · subst k3
    exact Or.inl ⟨k1, k4⟩
  · subst k3
    exact Or.inr k1

def xnP_129 (pc : Nat) : xnd × List Nat := ((pc, [some (.inr (.inr (.inl 31))), some (.inl (Int.ofNat 0, Int.ofNat 7)), none], [], 0, (Int.ofNat 0, [])), [])
set_option maxRecDepth 6000 in
theorem xnPc_129 : [60, 70, 80, 90, 100, 113].all (fun pc => xnchk xX xsp_129_0 xt_129 [] [[xnP_129 pc]] (some (.inl (Int.negSucc 2147483647, Int.ofNat 2147483647))) [] 600 (xnP_129 pc)) = true := by decide +kernel
set_option maxRecDepth 6000 in
theorem xsw_129 {y : Int32} (h0 : 0 ≤ y.toInt) (h1 : y.toInt ≤ 5) : ∃ t, t ∈ [60, 70, 80, 90, 100, 113] ∧ pm_br (.tableswitch 113 0 5 #[40, 50, 60, 70, 80, 93]) 40 20 [.int y] = some (t, []) := by
  rcases (show y.toInt = 0 ∨ y.toInt = 1 ∨ y.toInt = 2 ∨ y.toInt = 3 ∨ y.toInt = 4 ∨ y.toInt = 5 by omega) with h | h | h | h | h | h
  · have e : y = Int32.ofInt 0 := Int32.toInt_inj.mp (by rw [h]; decide)
    subst e
    exact ⟨60, by decide, by decide +kernel⟩
  · have e : y = Int32.ofInt 1 := Int32.toInt_inj.mp (by rw [h]; decide)
    subst e
    exact ⟨70, by decide, by decide +kernel⟩
  · have e : y = Int32.ofInt 2 := Int32.toInt_inj.mp (by rw [h]; decide)
    subst e
    exact ⟨80, by decide, by decide +kernel⟩
  · have e : y = Int32.ofInt 3 := Int32.toInt_inj.mp (by rw [h]; decide)
    subst e
    exact ⟨90, by decide, by decide +kernel⟩
  · have e : y = Int32.ofInt 4 := Int32.toInt_inj.mp (by rw [h]; decide)
    subst e
    exact ⟨100, by decide, by decide +kernel⟩
  · have e : y = Int32.ofInt 5 := Int32.toInt_inj.mp (by rw [h]; decide)
    subst e
    exact ⟨113, by decide, by decide +kernel⟩
set_option maxRecDepth 6000 in
theorem xcl_person {E : pm_H → Prop} (hE : xHE xX xgA_G8 xgF_G8 E) (hC : xPC E) {m : Int} (hm : m ≤ 2147483646) (h0m : (0 : Int) ≤ m) {D : Nat} (hD : 10 ≤ D) {ph : pm_H} {p y : Int32} (hP : xH xX kK m 0 ph) (g9 : E ph) : (∃ r ph', pm_Rd kK false (D + 1) 129 [.ref 0, .int p, .int y] ph (some (.int r), ph', 0, 0) ∧ xH xX kK m 0 ph' ∧ E ph') ∨ (∃ pc, (pc = 11 ∨ pc = 133) ∧ pm_Se kK false (pm_Rd kK false D) 129 (pm_ent kK 129 [.ref 0, .int p, .int y] ph) (pc, [some (.ref 0), some (.int p), some (.int y)], [], ph, 0, 0)) := by
  obtain ⟨fl0, hat0, hfl0⟩ := xO_at (a := 0) hP rfl rfl
  obtain ⟨v4, hv4, hv⟩ := hfl0 4 _ rfl
  have e4 : v4 = .ref 25 := xaO (m' := 0) (A := 25) hP rfl hv
  subst e4
  obtain ⟨fl1, hat1, -⟩ := xO_at (a := 25) hP rfl rfl
  obtain ⟨D', rfl⟩ : ∃ D', D = D' + 1 := ⟨D - 1, by omega⟩
  have pre : ∀ (z : Int32) (t : Nat), pm_Rd kK false (D' + 1) 106 [.ref 25, .int p] ph (some (.int z), ph, 0, 0) → pm_br (.ifCond .ne 11) 19 8 [.int z] = some (t, []) → pm_Se kK false (pm_Rd kK false (D' + 1)) 129 (pm_ent kK 129 [.ref 0, .int p, .int y] ph) (t, [some (.ref 0), some (.int p), some (.int y)], [], ph, 0, 0) := fun z t hz ht => by
    show pm_Se kK false (pm_Rd kK false (D' + 1)) 129 (0, [some (.ref 0), some (.int p), some (.int y)], [], ph, 0, 0) _
    refine .step (ks2 (ykc_129 (e := (2, .aload_n kF0, 0)) rfl) (v := .ref 0) (n := 1) rfl) ?_
    refine .step (xgfs (ykc_129 (e := (5, .getfield 42, 0)) rfl) rfl hat0 hv4) ?_
    refine .step (ks2 (ykc_129 (e := (2, .iload_n kF1, 0)) rfl) (v := .int p) (n := 1) rfl) ?_
    refine .call (ks6 (ykc_129 (e := (6, .invokevirtual 167, 0)) rfl) (xinvV rfl rfl hat1 rfl rfl)) hz ?_
    exact .step (ks4 (ykc_129 (e := (4, .ifCond .ne 11, 19)) rfl) ht) .rf
  rcases xhas_106 (D := D') (p := p) hP with ⟨hz, p0, p7⟩ | hz
  · have h19 := pre _ 19 hz xbr1
    by_cases hy : 0 ≤ y.toInt ∧ y.toInt ≤ 5
    · left
      have hrun : ∃ v ph', pm_Rd kK false (D' + 1 + 1) 129 [.ref 0, .int p, .int y] ph (v, ph', 0, 0) ∧ (∃ r : Int32, v = some (.int r) ∧ xH xX kK m 0 ph' ∧ E ph') := by
        obtain ⟨t9, t9m, t9b⟩ := xsw_129 hy.1 hy.2
        refine xRd_mk (nl := 3) rfl rfl (xGT_se h19 (gt_load (v := .int y) (n := 1) (ykc_129 (e := (2, .iload_n kF2, 0)) rfl) rfl rfl (gt_br (ykc_129 (e := (4, .tableswitch 113 0 5 #[40, 50, 60, 70, 80, 93], 40)) rfl) t9b ?_)))
        refine xseg_ok (ns := [[xnP_129 t9]]) (res := some (.inl (Int.negSucc 2147483647, Int.ofNat 2147483647))) (fq := []) (by omega) hm (xq_129 hE hC) (List.forall_mem_cons.mpr ⟨List.forall_mem_cons.mpr ⟨Or.inl (List.all_eq_true.mp xnPc_129 t9 t9m), fun _ h => absurd h List.not_mem_nil⟩, fun _ h => absurd h List.not_mem_nil⟩) ?_ (xnP_129 t9).1 (xnP_129 t9).2 ⟨_, List.Mem.head _, List.Mem.head _⟩ _ ph h0m ⟨fun q e => by cases e; exact ⟨_, rfl, xaRi rfl (by decide)⟩, fun q e => by cases e; exact ⟨_, rfl, xaI p0 p7⟩, fun q e => (by cases e), trivial⟩ xF0 hP g9
        intro v ph' a1 a2 a3 _
        obtain ⟨u, e, z, e2, -⟩ := a3
        exact ⟨z, by rw [e, e2], a1, a2⟩
      obtain ⟨v, ph', k1, r, k2, k3, k4⟩ := hrun
      subst k2
      exact ⟨r, ph', k1, k3, k4⟩
    · right
      obtain ⟨n, hn⟩ := h19
      refine ⟨133, Or.inr rfl, pm_Se_t ?_ n _ hn⟩
      refine .step (ks2 (ykc_129 (e := (2, .iload_n kF2, 0)) rfl) (v := .int y) (n := 1) rfl) ?_
      exact .step (ks4 (ykc_129 (e := (4, .tableswitch 113 0 5 #[40, 50, 60, 70, 80, 93], 40)) rfl) (xts_def (t := 133) (by omega) rfl)) .rf
  · exact Or.inr ⟨11, Or.inl rfl, pre _ 11 hz xbr0⟩

def xnP_130 (pc : Nat) : xnd × List Nat := ((pc, [some (.inr (.inr (.inl 31))), some (.inl (Int.ofNat 0, Int.ofNat 7)), none], [], 0, (Int.ofNat 0, [])), [])
set_option maxRecDepth 6000 in
theorem xnPc_130 : [48, 58, 67].all (fun pc => xnchk xX xsp_130_0 xt_130 [] [[xnP_130 pc]] (some (.inl (Int.negSucc 2147483647, Int.ofNat 2147483647))) [] 600 (xnP_130 pc)) = true := by decide +kernel
set_option maxRecDepth 6000 in
theorem xsw_130 {y : Int32} (h0 : 0 ≤ y.toInt) (h1 : y.toInt ≤ 2) : ∃ t, t ∈ [48, 58, 67] ∧ pm_br (.tableswitch 80 0 2 #[28, 38, 47]) 28 20 [.int y] = some (t, []) := by
  rcases (show y.toInt = 0 ∨ y.toInt = 1 ∨ y.toInt = 2 by omega) with h | h | h
  · have e : y = Int32.ofInt 0 := Int32.toInt_inj.mp (by rw [h]; decide)
    subst e
    exact ⟨48, by decide, by decide +kernel⟩
  · have e : y = Int32.ofInt 1 := Int32.toInt_inj.mp (by rw [h]; decide)
    subst e
    exact ⟨58, by decide, by decide +kernel⟩
  · have e : y = Int32.ofInt 2 := Int32.toInt_inj.mp (by rw [h]; decide)
    subst e
    exact ⟨67, by decide, by decide +kernel⟩
set_option maxRecDepth 6000 in
theorem xcl_thing {E : pm_H → Prop} (hE : xHE xX xgA_G8 xgF_G8 E) (hC : xPC E) {m : Int} (hm : m ≤ 2147483646) (h0m : (0 : Int) ≤ m) {D : Nat} (hD : 10 ≤ D) {ph : pm_H} {p y : Int32} (hP : xH xX kK m 0 ph) (g9 : E ph) : (∃ r ph', pm_Rd kK false (D + 1) 130 [.ref 0, .int p, .int y] ph (some (.int r), ph', 0, 0) ∧ xH xX kK m 0 ph' ∧ E ph') ∨ (∃ pc, (pc = 11 ∨ pc = 100) ∧ pm_Se kK false (pm_Rd kK false D) 130 (pm_ent kK 130 [.ref 0, .int p, .int y] ph) (pc, [some (.ref 0), some (.int p), some (.int y)], [], ph, 0, 0)) := by
  obtain ⟨fl0, hat0, hfl0⟩ := xO_at (a := 0) hP rfl rfl
  obtain ⟨v4, hv4, hv⟩ := hfl0 4 _ rfl
  have e4 : v4 = .ref 25 := xaO (m' := 0) (A := 25) hP rfl hv
  subst e4
  obtain ⟨fl1, hat1, -⟩ := xO_at (a := 25) hP rfl rfl
  obtain ⟨D', rfl⟩ : ∃ D', D = D' + 1 := ⟨D - 1, by omega⟩
  have pre : ∀ (z : Int32) (t : Nat), pm_Rd kK false (D' + 1) 107 [.ref 25, .int p] ph (some (.int z), ph, 0, 0) → pm_br (.ifCond .ne 11) 19 8 [.int z] = some (t, []) → pm_Se kK false (pm_Rd kK false (D' + 1)) 130 (pm_ent kK 130 [.ref 0, .int p, .int y] ph) (t, [some (.ref 0), some (.int p), some (.int y)], [], ph, 0, 0) := fun z t hz ht => by
    show pm_Se kK false (pm_Rd kK false (D' + 1)) 130 (0, [some (.ref 0), some (.int p), some (.int y)], [], ph, 0, 0) _
    refine .step (ks2 (ykc_130 (e := (2, .aload_n kF0, 0)) rfl) (v := .ref 0) (n := 1) rfl) ?_
    refine .step (xgfs (ykc_130 (e := (5, .getfield 42, 0)) rfl) rfl hat0 hv4) ?_
    refine .step (ks2 (ykc_130 (e := (2, .iload_n kF1, 0)) rfl) (v := .int p) (n := 1) rfl) ?_
    refine .call (ks6 (ykc_130 (e := (6, .invokevirtual 198, 0)) rfl) (xinvV rfl rfl hat1 rfl rfl)) hz ?_
    exact .step (ks4 (ykc_130 (e := (4, .ifCond .ne 11, 19)) rfl) ht) .rf
  rcases xhas_107 (D := D') (p := p) hP with ⟨hz, p0, p7⟩ | hz
  · have h19 := pre _ 19 hz xbr1
    by_cases hy : 0 ≤ y.toInt ∧ y.toInt ≤ 2
    · left
      have hrun : ∃ v ph', pm_Rd kK false (D' + 1 + 1) 130 [.ref 0, .int p, .int y] ph (v, ph', 0, 0) ∧ (∃ r : Int32, v = some (.int r) ∧ xH xX kK m 0 ph' ∧ E ph') := by
        obtain ⟨t9, t9m, t9b⟩ := xsw_130 hy.1 hy.2
        refine xRd_mk (nl := 3) rfl rfl (xGT_se h19 (gt_load (v := .int y) (n := 1) (ykc_130 (e := (2, .iload_n kF2, 0)) rfl) rfl rfl (gt_br (ykc_130 (e := (4, .tableswitch 80 0 2 #[28, 38, 47], 28)) rfl) t9b ?_)))
        refine xseg_ok (ns := [[xnP_130 t9]]) (res := some (.inl (Int.negSucc 2147483647, Int.ofNat 2147483647))) (fq := []) (by omega) hm (xq_130 hE hC) (List.forall_mem_cons.mpr ⟨List.forall_mem_cons.mpr ⟨Or.inl (List.all_eq_true.mp xnPc_130 t9 t9m), fun _ h => absurd h List.not_mem_nil⟩, fun _ h => absurd h List.not_mem_nil⟩) ?_ (xnP_130 t9).1 (xnP_130 t9).2 ⟨_, List.Mem.head _, List.Mem.head _⟩ _ ph h0m ⟨fun q e => by cases e; exact ⟨_, rfl, xaRi rfl (by decide)⟩, fun q e => by cases e; exact ⟨_, rfl, xaI p0 p7⟩, fun q e => (by cases e), trivial⟩ xF0 hP g9
        intro v ph' a1 a2 a3 _
        obtain ⟨u, e, z, e2, -⟩ := a3
        exact ⟨z, by rw [e, e2], a1, a2⟩
      obtain ⟨v, ph', k1, r, k2, k3, k4⟩ := hrun
      subst k2
      exact ⟨r, ph', k1, k3, k4⟩
    · right
      obtain ⟨n, hn⟩ := h19
      refine ⟨100, Or.inr rfl, pm_Se_t ?_ n _ hn⟩
      refine .step (ks2 (ykc_130 (e := (2, .iload_n kF2, 0)) rfl) (v := .int y) (n := 1) rfl) ?_
      exact .step (ks4 (ykc_130 (e := (4, .tableswitch 80 0 2 #[28, 38, 47], 28)) rfl) (xts_def (t := 100) (by omega) rfl)) .rf
  · exact Or.inr ⟨11, Or.inl rfl, pre _ 11 hz xbr0⟩

def xnP_180 : xnd × List Nat := ((23, [some (.inr (.inr (.inl 31))), some (.inl (Int.ofNat 0, Int.ofNat 48))], [], 0, (Int.ofNat 0, [])), [])
set_option maxRecDepth 6000 in
theorem xnPc_180 : xnchk xX xsp_180_0 xt_180 [] [[xnP_180]] (some (.inr (.inl (Int.negSucc 9223372036854775807, Int.ofNat 9223372036854775807)))) [] 600 xnP_180 = true := by decide +kernel
set_option maxRecDepth 6000 in
theorem xsize_59 {m : Int} {w D : Nat} {ph : pm_H} (hP : xH xX kK m w ph) : ∃ z : Int32, pm_Rd kK false (D + 1) 59 [.ref 3] ph (some (.int z), ph, 0, 0) ∧ 0 ≤ z.toInt ∧ z.toInt ≤ 49 := by
  obtain ⟨fl, hat, hfl⟩ := xO_at (a := 3) hP rfl rfl
  obtain ⟨v, hv, P, e, h0, h1⟩ := hfl 1 _ rfl
  subst e
  refine ⟨P, ⟨rfl, 3, ?_⟩, h0, h1⟩
  have he : pm_ent kK 59 [.ref 3] ph = (0, [some (.ref 3)], [], ph, 0, 0) := rfl
  rw [he, pm_Tn, ks2 (ykc_59 (e := (2, .aload_n kF0, 0)) rfl) (v := .ref 3) (n := 1) rfl]
  simp only
  rw [pm_Tn, xgfs (ykc_59 (e := (5, .getfield 15, 0)) rfl) rfl hat hv]
  simp only
  rw [pm_Tn, ks7 (ykc_59 (e := (7, .ireturn, 0)) rfl) (v := some (.int P)) rfl]
set_option maxRecDepth 6000 in
theorem xcl_row {E : pm_H → Prop} (hE : xHE xX xgA_G8 xgF_G8 E) {m : Int} (hm : m ≤ 2147483646) (h0m : (0 : Int) ≤ m) {D : Nat} (hD : 10 ≤ D) {ph : pm_H} {p : Int32} (hP : xH xX kK m 0 ph) (g9 : E ph) : (∃ r ph', pm_Rd kK false (D + 1) 180 [.ref 0, .int p] ph (some (.long r), ph', 0, 0) ∧ xH xX kK m 0 ph' ∧ E ph') ∨ pm_Se kK false (pm_Rd kK false D) 180 (pm_ent kK 180 [.ref 0, .int p] ph) (15, [some (.ref 0), some (.int p)], [], ph, 0, 0) := by
  obtain ⟨fl0, hat0, hfl0⟩ := xO_at (a := 0) hP rfl rfl
  obtain ⟨v4, hv4, hv⟩ := hfl0 1 _ rfl
  have e4 : v4 = .ref 3 := xaO (m' := 0) (A := 3) hP rfl hv
  subst e4
  obtain ⟨fl1, hat1, -⟩ := xO_at (a := 3) hP rfl rfl
  obtain ⟨D', rfl⟩ : ∃ D', D = D' + 1 := ⟨D - 1, by omega⟩
  by_cases h0 : p.toInt < 0
  · right
    show pm_Se kK false (pm_Rd kK false (D' + 1)) 180 (0, [some (.ref 0), some (.int p)], [], ph, 0, 0) _
    refine .step (ks2 (ykc_180 (e := (2, .iload_n kF1, 0)) rfl) (v := .int p) (n := 1) rfl) ?_
    exact .step (ks4 (ykc_180 (e := (4, .ifCond .lt 14, 15)) rfl) (show some (bif decide (p < 0) then 15 else 1 + 3, []) = _ by rw [decide_eq_true (Int32.lt_iff_toInt_lt.mpr h0)]; rfl)) .rf
  · obtain ⟨z, hz, z0, z1⟩ := xsize_59 (D := D') hP
    have pre : ∀ (t : Nat), pm_br (.if_icmp .lt 11) 23 12 [.int z, .int p] = some (t, []) → pm_Se kK false (pm_Rd kK false (D' + 1)) 180 (pm_ent kK 180 [.ref 0, .int p] ph) (t, [some (.ref 0), some (.int p)], [], ph, 0, 0) := fun t ht => by
      show pm_Se kK false (pm_Rd kK false (D' + 1)) 180 (0, [some (.ref 0), some (.int p)], [], ph, 0, 0) _
      refine .step (ks2 (ykc_180 (e := (2, .iload_n kF1, 0)) rfl) (v := .int p) (n := 1) rfl) ?_
      refine .step (ks4 (pc' := 4) (st' := []) (ykc_180 (e := (4, .ifCond .lt 14, 15)) rfl) (show some (bif decide (p < 0) then 15 else 1 + 3, []) = _ by rw [decide_eq_false (fun q => h0 (Int32.lt_iff_toInt_lt.mp q))]; rfl)) ?_
      refine .step (ks2 (ykc_180 (e := (2, .iload_n kF1, 0)) rfl) (v := .int p) (n := 1) rfl) ?_
      refine .step (ks2 (ykc_180 (e := (2, .aload_n kF0, 0)) rfl) (v := .ref 0) (n := 1) rfl) ?_
      refine .step (xgfs (ykc_180 (e := (5, .getfield 19, 0)) rfl) rfl hat0 hv4) ?_
      refine .call (ks6 (ykc_180 (e := (6, .invokevirtual 423, 0)) rfl) (xinvV rfl rfl hat1 rfl rfl)) hz ?_
      exact .step (ks4 (ykc_180 (e := (4, .if_icmp .lt 11, 23)) rfl) ht) .rf
    by_cases h1 : p.toInt < z.toInt
    · left
      have h23 := pre 23 (show some (bif decide (p < z) then 23 else 12 + 3, []) = _ by rw [decide_eq_true (Int32.lt_iff_toInt_lt.mpr h1)]; rfl)
      have hrun : ∃ v ph', pm_Rd kK false (D' + 1 + 1) 180 [.ref 0, .int p] ph (v, ph', 0, 0) ∧ (∃ r : Int64, v = some (.long r) ∧ xH xX kK m 0 ph' ∧ E ph') := by
        refine xRd_mk (nl := 2) rfl rfl (xGT_se h23 ?_)
        refine xseg_ok (ns := [[xnP_180]]) (res := some (.inr (.inl (Int.negSucc 9223372036854775807, Int.ofNat 9223372036854775807)))) (fq := []) (by omega) hm (xq_180) (List.forall_mem_cons.mpr ⟨List.forall_mem_cons.mpr ⟨Or.inl xnPc_180, fun _ h => absurd h List.not_mem_nil⟩, fun _ h => absurd h List.not_mem_nil⟩) ?_ xnP_180.1 xnP_180.2 ⟨_, List.Mem.head _, List.Mem.head _⟩ _ ph h0m ⟨fun q e => by cases e; exact ⟨_, rfl, xaRi rfl (by decide)⟩, fun q e => by cases e; exact ⟨_, rfl, xaI (show (0 : Int) ≤ p.toInt by omega) (show p.toInt ≤ 48 by omega)⟩, trivial⟩ xF0 hP g9
        intro v ph' a1 a2 a3 _
        obtain ⟨u, e, z, e2, -⟩ := a3
        exact ⟨z, by rw [e, e2], a1, a2⟩
      obtain ⟨v, ph', k1, r, k2, k3, k4⟩ := hrun
      subst k2
      exact ⟨r, ph', k1, k3, k4⟩
    · right
      exact pre 15 (show some (bif decide (p < z) then 23 else 12 + 3, []) = _ by rw [decide_eq_false (fun q => h1 (Int32.lt_iff_toInt_lt.mp q))]; rfl)

/-! getfield, putfield, calls of objects at their own addresses; runs have one end alone -/
section YO
variable {D j pc pc' aux n : Nat} {Q : Option Value → pm_H → Prop} {L : List (Option Value)} {st r as : List Value} {ph : pm_H} {m : Int} {w : Nat} {v0 : Value} {A i ci fi k : Nat} {fts : List ((Int × Int) ⊕ Option Nat)}
theorem yO_v (hP : xH xX kK m w ph) (ho : xown A = some i) (ht : xkt i = some (some A, .inr (ci, fts))) {ft : (Int × Int) ⊕ Option Nat} (hf : fts[k]? = some ft) : ∃ v, xget ph A k = some v ∧ xftG xX v ft := by
  obtain ⟨fl, hat, hfl⟩ := xO_at hP ho ht
  obtain ⟨v, hv, g⟩ := hfl k _ hf
  exact ⟨v, by unfold xget; rw [hat]; exact hv, g⟩
theorem yO_i (hP : xH xX kK m w ph) (ho : xown A = some i) (ht : xkt i = some (some A, .inr (ci, fts))) {lo hi : Int} (hf : fts[k]? = some (.inl (lo, hi))) : ∃ x : Int32, xget ph A k = some (.int x) ∧ lo ≤ x.toInt ∧ x.toInt ≤ hi := by
  obtain ⟨v, hv, x, e, b1, b2⟩ := yO_v hP ho ht hf
  subst e
  exact ⟨x, hv, b1, b2⟩
theorem yO_l (hP : xH xX kK m w ph) (ho : xown A = some i) (ht : xkt i = some (some A, .inr (ci, fts))) (hf : fts[k]? = some (.inr none)) : ∃ x : Int64, xget ph A k = some (.long x) := by
  obtain ⟨v, hv, x, e⟩ := yO_v hP ho ht hf
  subst e
  exact ⟨x, hv⟩
theorem gt_ogk {v : Value} (hc : pm_code kK j pc = some (5, .getfield fi, aux)) (hl : pm_lnk kK (pm_own kK j) fi = some (6, ci, k, v0)) (hP : xH xX kK m w ph) (ho : xown A = some i) (ht : xkt i = some (some A, .inr (ci, fts))) (hg : xget ph A k = some v) (hp : pc + 3 = pc') (kk : xGT kK D j Q (pc', L, v :: st, ph, 0, 0)) : xGT kK D j Q (pc, L, .ref A :: st, ph, 0, 0) := by
  obtain ⟨fl, hat, -⟩ := xO_at hP ho ht
  have hv : fl[k]? = some v := by
    unfold xget at hg
    rw [hat] at hg
    exact hg
  exact gt_gfo hc hl hat hv hp kk
theorem gt_ogi {lo hi : Int} (hc : pm_code kK j pc = some (5, .getfield fi, aux)) (hl : pm_lnk kK (pm_own kK j) fi = some (6, ci, k, v0)) (hP : xH xX kK m w ph) (ho : xown A = some i) (ht : xkt i = some (some A, .inr (ci, fts))) (hf : fts[k]? = some (.inl (lo, hi))) (hp : pc + 3 = pc') (kk : ∀ x : Int32, xget ph A k = some (.int x) → lo ≤ x.toInt → x.toInt ≤ hi → xGT kK D j Q (pc', L, .int x :: st, ph, 0, 0)) : xGT kK D j Q (pc, L, .ref A :: st, ph, 0, 0) := by
  obtain ⟨x, hv, b1, b2⟩ := yO_i hP ho ht hf
  exact gt_ogk hc hl hP ho ht hv hp (kk x hv b1 b2)
theorem gt_ogl (hc : pm_code kK j pc = some (5, .getfield fi, aux)) (hl : pm_lnk kK (pm_own kK j) fi = some (6, ci, k, v0)) (hP : xH xX kK m w ph) (ho : xown A = some i) (ht : xkt i = some (some A, .inr (ci, fts))) (hf : fts[k]? = some (.inr none)) (hp : pc + 3 = pc') (kk : ∀ x : Int64, xget ph A k = some (.long x) → xGT kK D j Q (pc', L, .long x :: st, ph, 0, 0)) : xGT kK D j Q (pc, L, .ref A :: st, ph, 0, 0) := by
  obtain ⟨x, hv⟩ := yO_l hP ho ht hf
  exact gt_ogk hc hl hP ho ht hv hp (kk x hv)
theorem gt_ogr {u B : Nat} (hc : pm_code kK j pc = some (5, .getfield fi, aux)) (hl : pm_lnk kK (pm_own kK j) fi = some (6, ci, k, v0)) (hP : xH xX kK m w ph) (ho : xown A = some i) (ht : xkt i = some (some A, .inr (ci, fts))) (hf : fts[k]? = some (.inr (some u))) (hu : xone u = some B) (hp : pc + 3 = pc') (kk : xGT kK D j Q (pc', L, .ref B :: st, ph, 0, 0)) : xGT kK D j Q (pc, L, .ref A :: st, ph, 0, 0) := by
  obtain ⟨v, hv, g⟩ := yO_v hP ho ht hf
  have e : v = .ref B := xaO (m' := 0) (A := B) hP hu g
  subst e
  exact gt_ogk hc hl hP ho ht hv hp kk
theorem gt_opv {y : Value} {ty : FieldType} {ft : (Int × Int) ⊕ Option Nat} (hc : pm_code kK j pc = some (5, .putfield fi, aux)) (hl : pm_lnk kK (pm_own kK j) fi = some (6, ci, k, v0)) (hP : xH xX kK m w ph) (ho : xown A = some i) (ht : xkt i = some (some A, .inr (ci, fts))) (hf : fts[k]? = some ft) (hty : pm_fty kK ci k = ty) (hfit : pm_fit ty y = true) (hy : xftG xX y ft) (hp : pc + 3 = pc') (kk : ∀ ph', xH xX kK m w ph' → xu1 ph ph' A k y → xGT kK D j Q (pc', L, st, ph', 0, 0)) : xGT kK D j Q (pc, L, y :: .ref A :: st, ph, 0, 0) := by
  obtain ⟨fl, hat, hfl⟩ := xO_at hP ho ht
  obtain ⟨v, hv, -⟩ := hfl k _ hf
  have hlen : k < fl.length := (List.getElem?_eq_some_iff.mp hv).1
  have hbl : Nat.blt k fl.length = true := Nat.ble_eq_true_of_le hlen
  have hat2 : pm_at (ph.set A (.inr (ci, fl.set k y))) A = some (.inr (ci, fl.set k y)) := xat_self hat
  refine gt_mem (ph' := ph.set A (.inr (ci, fl.set k y))) hc ?_ hp (kk _ ?_ ⟨?_, ?_, ?_⟩)
  · unfold pm_mem
    have e : Nat.beq ci ci = true := Nat.beq_refl ci
    simp only [hl, hat, e, hty, hfit, hbl, Bool.and_self, cond_true]
  · refine xH_set (t := .inr (ci, fts)) hP ho ht ⟨_, hat2, fun k2 ft2 hft2 => ?_⟩
    by_cases ek : k2 = k
    · subst ek
      rw [hf] at hft2
      cases hft2
      exact ⟨y, List.getElem?_set_self hlen, hy⟩
    · rw [List.getElem?_set_ne (Ne.symm ek)]
      exact hfl k2 ft2 hft2
  · unfold xget
    rw [hat2]
    exact List.getElem?_set_self hlen
  · intro b c hne
    by_cases eb : b = A
    · subst eb
      unfold xget
      rw [hat2, hat]
      show (fl.set k y)[c]? = fl[c]?
      exact List.getElem?_set_ne (fun q => hne ⟨rfl, q.symm⟩)
    · exact xget_ne eb
  · intro b eb
    exact xat_ne eb
theorem gt_ocv {j' : Nat} {P : Option Value → pm_H → Prop} (hc : pm_code kK j pc = some (6, .invokevirtual fi, aux)) (hl : pm_lnk kK (pm_own kK j) fi = some (2, j', n, .ref ci)) (hP : xH xX kK m w ph) (ho : xown A = some i) (ht : xkt i = some (some A, .inr (ci, fts))) (hd : st.drop n = .ref A :: r) (hcat : Nat.ble (r.map fun v => v.category).sum 8 = true) (ha : .ref A :: (st.take n).reverse = as) (hr : ∃ v ph', pm_Rd kK false D j' as ph (v, ph', 0, 0) ∧ P v ph') (hp : pc + 3 = pc') (kk : ∀ v ph', P v ph' → xGT kK D j Q (pc', L, v.toList ++ r, ph', 0, 0)) : xGT kK D j Q (pc, L, st, ph, 0, 0) := by
  obtain ⟨fl, hat, -⟩ := xO_at hP ho ht
  exact gt_call (as := as) (r := r) hc (xinvV hl hd hat hcat ha) hr hp kk
end YO

/-! the text's signs, class and reference, by hand, printed by wip/y3/h_zzt.py -/
def yTX (p : pm_H) (a n : Nat) (t : Nat → Int32) : Prop := ∀ i, i < n → xget p a i = some (.int (t i))
/-- byte k of y, the highest first -/
def ysg (y : Int32) (k : Nat) : Int32 := (y >>> (Int32.ofNat (24 - 8 * k))) &&& (255 : Int32)
set_option maxRecDepth 6000 in
theorem yushB (b s : BitVec 32) (hs : s.toNat ≤ 24) : (b >>> s.toNat) &&& 255#32 = (b.sshiftRight' s) &&& 255#32 := by
  apply BitVec.eq_of_getLsbD_eq
  intro i hi
  rw [BitVec.getLsbD_and, BitVec.getLsbD_and, BitVec.getLsbD_ushiftRight, BitVec.getLsbD_sshiftRight']
  by_cases h8 : i < 8
  · have h1 : s.toNat + i < 32 := by omega
    have h2 : ¬ 32 ≤ i := by omega
    rw [if_pos h1, decide_eq_false h2]
    rfl
  · have h3 : (255#32).getLsbD i = false := (by decide : ∀ i : Nat, i < 32 → ¬ i < 8 → (255#32).getLsbD i = false) i hi h8
    rw [h3, Bool.and_false, Bool.and_false]
set_option maxRecDepth 6000 in
theorem yu24 (v : Int32) : (v.toUInt32 >>> (24 : UInt32)).toInt32 &&& (255 : Int32) = v >>> (24 : Int32) &&& (255 : Int32) := Int32.toBitVec_inj.mp (yushB v.toBitVec 24#32 (by decide))
set_option maxRecDepth 6000 in
theorem yu16 (v : Int32) : (v.toUInt32 >>> (16 : UInt32)).toInt32 &&& (255 : Int32) = v >>> (16 : Int32) &&& (255 : Int32) := Int32.toBitVec_inj.mp (yushB v.toBitVec 16#32 (by decide))
set_option maxRecDepth 6000 in
theorem yu8 (v : Int32) : (v.toUInt32 >>> (8 : UInt32)).toInt32 &&& (255 : Int32) = v >>> (8 : Int32) &&& (255 : Int32) := Int32.toBitVec_inj.mp (yushB v.toBitVec 8#32 (by decide))
set_option maxRecDepth 6000 in
theorem yu0 (v : Int32) : (v.toUInt32 >>> (0 : UInt32)).toInt32 &&& (255 : Int32) = v >>> (0 : Int32) &&& (255 : Int32) := Int32.toBitVec_inj.mp (yushB v.toBitVec 0#32 (by decide))
set_option maxRecDepth 6000 in
theorem y255 : (Int16.ofInt 255).toInt32 = 255 := by decide
set_option maxRecDepth 6000 in
theorem yshC (y : Int32) {k : Nat} {x : Int32} (hk : k < 4) (hx : x = Int32.ofNat k) : ((y).toUInt32 >>> (((Int8.ofInt 24).toInt32 - (Int8.ofInt 8).toInt32 * x).toUInt32 &&& Int32.toUInt32 31)).toInt32 &&& (Int16.ofInt 255).toInt32 = ysg y k := by
  rw [y255]
  match k, hk, hx with
  | 0, _, hx => subst hx; rw [show ((Int8.ofInt 24).toInt32 - (Int8.ofInt 8).toInt32 * Int32.ofNat 0).toUInt32 &&& Int32.toUInt32 31 = 24 by decide]; exact yu24 y
  | 1, _, hx => subst hx; rw [show ((Int8.ofInt 24).toInt32 - (Int8.ofInt 8).toInt32 * Int32.ofNat 1).toUInt32 &&& Int32.toUInt32 31 = 16 by decide]; exact yu16 y
  | 2, _, hx => subst hx; rw [show ((Int8.ofInt 24).toInt32 - (Int8.ofInt 8).toInt32 * Int32.ofNat 2).toUInt32 &&& Int32.toUInt32 31 = 8 by decide]; exact yu8 y
  | 3, _, hx => subst hx; rw [show ((Int8.ofInt 24).toInt32 - (Int8.ofInt 8).toInt32 * Int32.ofNat 3).toUInt32 &&& Int32.toUInt32 31 = 0 by decide]; exact yu0 y
set_option maxRecDepth 6000 in
theorem yshM (y : Int32) {k : Nat} {x : Int32} (hk : k < 4) (hx : x = Int32.ofNat k) : y >>> (((Int8.ofInt 24).toInt32 - (Int8.ofInt 8).toInt32 * x) &&& 31) &&& (Int16.ofInt 255).toInt32 = ysg y k := by
  rw [y255]
  match k, hk, hx with
  | 0, _, hx => subst hx; rw [show ((Int8.ofInt 24).toInt32 - (Int8.ofInt 8).toInt32 * Int32.ofNat 0) &&& 31 = Int32.ofNat 24 by decide]; rfl
  | 1, _, hx => subst hx; rw [show ((Int8.ofInt 24).toInt32 - (Int8.ofInt 8).toInt32 * Int32.ofNat 1) &&& 31 = Int32.ofNat 16 by decide]; rfl
  | 2, _, hx => subst hx; rw [show ((Int8.ofInt 24).toInt32 - (Int8.ofInt 8).toInt32 * Int32.ofNat 2) &&& 31 = Int32.ofNat 8 by decide]; rfl
  | 3, _, hx => subst hx; rw [show ((Int8.ofInt 24).toInt32 - (Int8.ofInt 8).toInt32 * Int32.ofNat 3) &&& 31 = Int32.ofNat 0 by decide]; rfl
/-- k signs of y stand behind the t of p0 -/
def yAP (p0 p : pm_H) (a t : Nat) (y : Int32) (k : Nat) : Prop := (∀ i, i < k → xget p a (t + i) = some (.int (ysg y i))) ∧ ∀ i, i < t → xget p a i = xget p0 a i
set_option maxRecDepth 6000 in
theorem yAP_0 {p : pm_H} {a t : Nat} {y : Int32} : yAP p p a t y 0 := ⟨fun _ h => absurd h (Nat.not_lt_zero _), fun _ _ => rfl⟩
set_option maxRecDepth 6000 in
theorem yAP_s {p0 p p' : pm_H} {a t k : Nat} {y : Int32} (h : yAP p0 p a t y k) (h1 : xget p' a (t + k) = some (.int (ysg y k))) (h2 : ∀ c, c ≠ t + k → xget p' a c = xget p a c) : yAP p0 p' a t y (k + 1) := ⟨fun i hi => by
  by_cases e : i = k
  · subst e; exact h1
  · rw [h2 _ (by omega)]; exact h.1 i (by omega), fun i hi => by rw [h2 _ (by omega)]; exact h.2 i hi⟩
set_option maxRecDepth 6000 in
theorem yAP_eq {p0 p p' : pm_H} {a t k : Nat} {y : Int32} (h : yAP p0 p a t y k) (h2 : ∀ c, xget p' a c = xget p a c) : yAP p0 p' a t y k := ⟨fun i hi => by rw [h2]; exact h.1 i hi, fun i hi => by rw [h2]; exact h.2 i hi⟩
set_option maxRecDepth 6000 in
theorem yAP_eq0 {p0 p0' p : pm_H} {a t k : Nat} {y : Int32} (h : yAP p0 p a t y k) (h2 : ∀ c, xget p0 a c = xget p0' a c) : yAP p0' p a t y k := ⟨h.1, fun i hi => by rw [← h2]; exact h.2 i hi⟩
set_option maxRecDepth 6000 in
theorem ynt {k : Nat} (h : k ≤ 100000) : (Int32.ofNat k).toInt = (k : Int) := Int32.toInt_ofNat_of_lt (by omega)
set_option maxRecDepth 6000 in
theorem yi1 : (Int32.ofInt 1).toInt = 1 := by decide
set_option maxRecDepth 6000 in
theorem yi4 : (Int32.ofInt 4).toInt = 4 := by decide
set_option maxRecDepth 6000 in
theorem yi0 : (Int32.ofInt 0).toInt = 0 := by decide
set_option maxRecDepth 6000 in
theorem yb80 : ((Int8.ofInt 80).toInt32).toInt = 80 := by decide
set_option maxRecDepth 6000 in
theorem yb76 : ((Int8.ofInt 76).toInt32).toInt = 76 := by decide
set_option maxRecDepth 6000 in
theorem ynx {k : Nat} {x : Int32} (hx : x = Int32.ofNat k) (h : k ≤ 1000) : x + Int32.ofInt 1 = Int32.ofNat (k + 1) := Int32.toInt_inj.mp (by
  subst hx
  rw [ti_add (by rw [ynt (by omega), yi1]; omega) (by rw [ynt (by omega), yi1]; omega), ynt (by omega), ynt (by omega), yi1]
  omega)
section YT
variable {m : Int} {w D : Nat} {Q : Option Value → pm_H → Prop} {y T : Int32} {t : Nat}

set_option maxRecDepth 6000 in
theorem ybyteB (b s : BitVec 32) : 0 ≤ ((b.sshiftRight' s) &&& 255#32).toInt ∧ ((b.sshiftRight' s) &&& 255#32).toInt ≤ 255 := by
  have h : ((b.sshiftRight' s) &&& 255#32).toNat ≤ 255 := by
    rw [BitVec.toNat_and]
    exact Nat.and_le_right
  rw [BitVec.toInt_eq_toNat_of_lt (by omega)]
  omega
set_option maxRecDepth 6000 in
theorem ybyte (y : Int32) (k : Nat) : (0 : Int) ≤ (ysg y k).toInt ∧ (ysg y k).toInt ≤ 255 := ybyteB y.toBitVec _

set_option maxRecDepth 6000 in
theorem yaplC (ht : T.toInt = (t : Int)) (h76 : t ≤ 76) {p0 : pm_H} (kk : ∀ ph (x : Option Value), xH xX kK m w ph → xget ph 1 1 = some (.int T) → yAP p0 ph 2 t y 4 → (∀ b, b ≠ 2 → pm_at ph b = pm_at p0 b) → xGT kK D 95 Q (57, [some (.ref 1), some (.int y), x], [], ph, 0, 0)) : ∀ (r k : Nat) (x : Int32) (ph : pm_H), k + r = 4 → x = Int32.ofNat k → xH xX kK m w ph → xget ph 1 1 = some (.int T) → yAP p0 ph 2 t y k → (∀ b, b ≠ 2 → pm_at ph b = pm_at p0 b) → xGT kK D 95 Q (22, [some (.ref 1), some (.int y), some (.int x)], [], ph, 0, 0) := by
  intro r
  induction r with
  | zero =>
    intro k x ph hk hx hP hT hA hB
    obtain rfl : k = 4 := by omega
    have hx2 : x.toInt = 4 := by rw [hx]; decide
    refine gt_load (v := .int x) (n := 1) (ykc_95 (e := (2, .iload_n kF2, 0)) rfl) rfl rfl ?_
    refine gt_alu (st' := [.int (Int32.ofInt 4), .int x]) (ykc_95 (e := (0, .iconst 4, 0)) rfl) rfl rfl ?_
    refine gt_ige_t (ykc_95 (e := (4, .if_icmp .ge 33, 57)) rfl) (by rw [yi4]; omega) ?_
    exact kk _ _ hP hT hA hB
  | succ r ih =>
    intro k x ph hk hx hP hT hA hB
    have hk4 : k < 4 := by omega
    have hx2 : x.toInt = (k : Int) := by rw [hx]; exact ynt (by omega)
    refine gt_load (v := .int x) (n := 1) (ykc_95 (e := (2, .iload_n kF2, 0)) rfl) rfl rfl ?_
    refine gt_alu (st' := [.int (Int32.ofInt 4), .int x]) (ykc_95 (e := (0, .iconst 4, 0)) rfl) rfl rfl ?_
    refine gt_ige_f (ykc_95 (e := (4, .if_icmp .ge 33, 57)) rfl) (by rw [yi4]; omega) rfl ?_
    refine gt_load (v := .ref 1) (n := 1) (ykc_95 (e := (2, .aload_n kF0, 0)) rfl) rfl rfl ?_
    refine gt_ogr (A := 1) (B := 2) (ykc_95 (e := (5, .getfield 9, 0)) rfl) rfl hP rfl rfl rfl rfl rfl ?_
    refine gt_load (v := .ref 1) (n := 1) (ykc_95 (e := (2, .aload_n kF0, 0)) rfl) rfl rfl ?_
    refine gt_ogk (A := 1) (v := .int T) (ykc_95 (e := (5, .getfield 13, 0)) rfl) rfl hP rfl rfl hT rfl ?_
    refine gt_load (v := .int x) (n := 1) (ykc_95 (e := (2, .iload_n kF2, 0)) rfl) rfl rfl ?_
    obtain ⟨ix, e_ix, h_ix⟩ : ∃ zq : Int32, T + x = zq ∧ zq.toInt = T.toInt + x.toInt := ⟨_, rfl, by rw [ti_add (by omega) (by omega)]⟩
    refine gt_alu (st' := [.int ix, .ref 2]) (ykc_95 (e := (0, .iadd, 0)) rfl) (by rw [← e_ix]; exact rfl) rfl ?_
    refine gt_load (v := .int y) (n := 1) (ykc_95 (e := (2, .iload_n kF1, 0)) rfl) rfl rfl ?_
    refine gt_push (v := .int ((Int8.ofInt 24).toInt32)) (n := 2) (ykc_95 (e := (1, .bipush 24, 0)) rfl) rfl rfl ?_
    refine gt_push (v := .int ((Int8.ofInt 8).toInt32)) (n := 2) (ykc_95 (e := (1, .bipush 8, 0)) rfl) rfl rfl ?_
    refine gt_load (v := .int x) (n := 1) (ykc_95 (e := (2, .iload_n kF2, 0)) rfl) rfl rfl ?_
    refine gt_alu (st' := [.int (((Int8.ofInt 8).toInt32) * x), .int ((Int8.ofInt 24).toInt32), .int y, .int ix, .ref 2]) (ykc_95 (e := (0, .imul, 0)) rfl) rfl rfl ?_
    refine gt_alu (st' := [.int (((Int8.ofInt 24).toInt32) - (((Int8.ofInt 8).toInt32) * x)), .int y, .int ix, .ref 2]) (ykc_95 (e := (0, .isub, 0)) rfl) rfl rfl ?_
    refine gt_alu (st' := [.int (((y).toUInt32 >>> ((((Int8.ofInt 24).toInt32) - (((Int8.ofInt 8).toInt32) * x)).toUInt32 &&& Int32.toUInt32 31)).toInt32), .int ix, .ref 2]) (ykc_95 (e := (0, .iushr, 0)) rfl) rfl rfl ?_
    refine gt_push (v := .int ((Int16.ofInt 255).toInt32)) (n := 3) (ykc_95 (e := (1, .sipush 255, 0)) rfl) rfl rfl ?_
    refine gt_alu (st' := [.int ((((y).toUInt32 >>> ((((Int8.ofInt 24).toInt32) - (((Int8.ofInt 8).toInt32) * x)).toUInt32 &&& Int32.toUInt32 31)).toInt32) &&& ((Int16.ofInt 255).toInt32)), .int ix, .ref 2]) (ykc_95 (e := (0, .iand, 0)) rfl) rfl rfl ?_
    refine gt_ias (A := 2) (y := (((y).toUInt32 >>> ((((Int8.ofInt 24).toInt32) - (((Int8.ofInt 8).toInt32) * x)).toUInt32 &&& Int32.toUInt32 31)).toInt32) &&& ((Int16.ofInt 255).toInt32)) (x := ix) (ykc_95 (e := (5, .iastore, 0)) rfl) hP rfl rfl (by omega) (by omega) xany rfl (fun ph101 hP101 u101 => ?_)
    have f101_1_1 : xget ph101 1 1 = some (.int T) := (u101.2.1 1 1 (fun q => absurd q.1 (by decide))).trans hT
    refine gt_store (L' := [some (.ref 1), some (.int y), some (.int (x + Int32.ofInt 1))]) (st' := []) (n := 3) (ykc_95 (e := (3, .iinc 2 1, 0)) rfl) rfl rfl ?_
    refine gt_br (pc' := 22) (st' := []) (ykc_95 (e := (4, .goto (-32), 22)) rfl) rfl ?_
    have ei : ix.toInt.toNat = t + k := by omega
    have w1 := u101.1
    rw [ei, yshC y hk4 hx] at w1
    exact ih (k + 1) _ _ (by omega) (ynx hx (by omega)) hP101 f101_1_1 (yAP_s hA w1 (fun c hc => u101.2.1 2 c (fun q => hc (by omega)))) (fun b hb => (u101.2.2 b hb).trans (hB b hb))
set_option maxRecDepth 6000 in
theorem yaplM (ht : T.toInt = (t : Int)) (h76 : t ≤ 76) {p0 : pm_H} (kk : ∀ ph (x : Option Value), xH xX kK m w ph → xget ph 170 14 = some (.int T) → yAP p0 ph 176 t y 4 → (∀ b, b ≠ 176 → pm_at ph b = pm_at p0 b) → xGT kK D 193 Q (53, [some (.ref 170), some (.int y), x], [], ph, 0, 0)) : ∀ (r k : Nat) (x : Int32) (ph : pm_H), k + r = 4 → x = Int32.ofNat k → xH xX kK m w ph → xget ph 170 14 = some (.int T) → yAP p0 ph 176 t y k → (∀ b, b ≠ 176 → pm_at ph b = pm_at p0 b) → xGT kK D 193 Q (18, [some (.ref 170), some (.int y), some (.int x)], [], ph, 0, 0) := by
  intro r
  induction r with
  | zero =>
    intro k x ph hk hx hP hT hA hB
    obtain rfl : k = 4 := by omega
    have hx2 : x.toInt = 4 := by rw [hx]; decide
    refine gt_load (v := .int x) (n := 1) (ykc_193 (e := (2, .iload_n kF2, 0)) rfl) rfl rfl ?_
    refine gt_alu (st' := [.int (Int32.ofInt 4), .int x]) (ykc_193 (e := (0, .iconst 4, 0)) rfl) rfl rfl ?_
    refine gt_ige_t (ykc_193 (e := (4, .if_icmp .ge 33, 53)) rfl) (by rw [yi4]; omega) ?_
    exact kk _ _ hP hT hA hB
  | succ r ih =>
    intro k x ph hk hx hP hT hA hB
    have hk4 : k < 4 := by omega
    have hx2 : x.toInt = (k : Int) := by rw [hx]; exact ynt (by omega)
    refine gt_load (v := .int x) (n := 1) (ykc_193 (e := (2, .iload_n kF2, 0)) rfl) rfl rfl ?_
    refine gt_alu (st' := [.int (Int32.ofInt 4), .int x]) (ykc_193 (e := (0, .iconst 4, 0)) rfl) rfl rfl ?_
    refine gt_ige_f (ykc_193 (e := (4, .if_icmp .ge 33, 53)) rfl) (by rw [yi4]; omega) rfl ?_
    refine gt_load (v := .ref 170) (n := 1) (ykc_193 (e := (2, .aload_n kF0, 0)) rfl) rfl rfl ?_
    refine gt_ogr (A := 170) (B := 176) (ykc_193 (e := (5, .getfield 47, 0)) rfl) rfl hP rfl rfl rfl rfl rfl ?_
    refine gt_load (v := .ref 170) (n := 1) (ykc_193 (e := (2, .aload_n kF0, 0)) rfl) rfl rfl ?_
    refine gt_ogk (A := 170) (v := .int T) (ykc_193 (e := (5, .getfield 136, 0)) rfl) rfl hP rfl rfl hT rfl ?_
    refine gt_load (v := .int x) (n := 1) (ykc_193 (e := (2, .iload_n kF2, 0)) rfl) rfl rfl ?_
    obtain ⟨ix, e_ix, h_ix⟩ : ∃ zq : Int32, T + x = zq ∧ zq.toInt = T.toInt + x.toInt := ⟨_, rfl, by rw [ti_add (by omega) (by omega)]⟩
    refine gt_alu (st' := [.int ix, .ref 176]) (ykc_193 (e := (0, .iadd, 0)) rfl) (by rw [← e_ix]; exact rfl) rfl ?_
    refine gt_load (v := .int y) (n := 1) (ykc_193 (e := (2, .iload_n kF1, 0)) rfl) rfl rfl ?_
    refine gt_push (v := .int ((Int8.ofInt 24).toInt32)) (n := 2) (ykc_193 (e := (1, .bipush 24, 0)) rfl) rfl rfl ?_
    refine gt_push (v := .int ((Int8.ofInt 8).toInt32)) (n := 2) (ykc_193 (e := (1, .bipush 8, 0)) rfl) rfl rfl ?_
    refine gt_load (v := .int x) (n := 1) (ykc_193 (e := (2, .iload_n kF2, 0)) rfl) rfl rfl ?_
    refine gt_alu (st' := [.int (((Int8.ofInt 8).toInt32) * x), .int ((Int8.ofInt 24).toInt32), .int y, .int ix, .ref 176]) (ykc_193 (e := (0, .imul, 0)) rfl) rfl rfl ?_
    refine gt_alu (st' := [.int (((Int8.ofInt 24).toInt32) - (((Int8.ofInt 8).toInt32) * x)), .int y, .int ix, .ref 176]) (ykc_193 (e := (0, .isub, 0)) rfl) rfl rfl ?_
    refine gt_alu (st' := [.int (y >>> ((((Int8.ofInt 24).toInt32) - (((Int8.ofInt 8).toInt32) * x)) &&& 31)), .int ix, .ref 176]) (ykc_193 (e := (0, .ishr, 0)) rfl) rfl rfl ?_
    refine gt_push (v := .int ((Int16.ofInt 255).toInt32)) (n := 3) (ykc_193 (e := (1, .sipush 255, 0)) rfl) rfl rfl ?_
    refine gt_alu (st' := [.int ((y >>> ((((Int8.ofInt 24).toInt32) - (((Int8.ofInt 8).toInt32) * x)) &&& 31)) &&& ((Int16.ofInt 255).toInt32)), .int ix, .ref 176]) (ykc_193 (e := (0, .iand, 0)) rfl) rfl rfl ?_
    refine gt_ias (A := 176) (y := (y >>> ((((Int8.ofInt 24).toInt32) - (((Int8.ofInt 8).toInt32) * x)) &&& 31)) &&& ((Int16.ofInt 255).toInt32)) (x := ix) (ykc_193 (e := (5, .iastore, 0)) rfl) hP rfl rfl (by omega) (by omega) (by rw [yshM y hk4 hx, Nat.mod_one]; exact ybyte y k) rfl (fun ph101 hP101 u101 => ?_)
    have f101_170_14 : xget ph101 170 14 = some (.int T) := (u101.2.1 170 14 (fun q => absurd q.1 (by decide))).trans hT
    refine gt_store (L' := [some (.ref 170), some (.int y), some (.int (x + Int32.ofInt 1))]) (st' := []) (n := 3) (ykc_193 (e := (3, .iinc 2 1, 0)) rfl) rfl rfl ?_
    refine gt_br (pc' := 18) (st' := []) (ykc_193 (e := (4, .goto (-32), 18)) rfl) rfl ?_
    have ei : ix.toInt.toNat = t + k := by omega
    have w1 := u101.1
    rw [ei, yshM y hk4 hx] at w1
    exact ih (k + 1) _ _ (by omega) (ynx hx (by omega)) hP101 f101_170_14 (yAP_s hA w1 (fun c hc => u101.2.1 176 c (fun q => hc (by omega)))) (fun b hb => (u101.2.2 b hb).trans (hB b hb))
set_option maxRecDepth 6000 in
theorem yappC {ph : pm_H} (hP : xH xX kK m w ph) (hT : xget ph 1 1 = some (.int T)) (ht : T.toInt = (t : Int)) (h76 : t ≤ 76) : ∃ v ph', pm_Rd kK false (D + 1) 95 [.ref 1, .int y] ph (v, ph', 0, 0) ∧ (v = some (.int (Int32.ofInt 1)) ∧ xH xX kK m w ph' ∧ (∃ s : Int32, xget ph' 1 1 = some (.int s) ∧ s.toInt = (t : Int) + 4) ∧ yAP ph ph' 2 t y 4 ∧ ∀ b, b ≠ 2 → b ≠ 1 → pm_at ph' b = pm_at ph b) := by
  refine xRd_mk (nl := 3) rfl rfl ?_
  show xGT kK D 95 _ (0, [some (.ref 1), some (.int y), none], [], ph, 0, 0)
  refine gt_load (v := .ref 1) (n := 1) (ykc_95 (e := (2, .aload_n kF0, 0)) rfl) rfl rfl ?_
  refine gt_ogk (A := 1) (v := .int T) (ykc_95 (e := (5, .getfield 13, 0)) rfl) rfl hP rfl rfl hT rfl ?_
  refine gt_zlt_f (ykc_95 (e := (4, .ifCond .lt 14, 18)) rfl) (by omega) rfl ?_
  refine gt_load (v := .ref 1) (n := 1) (ykc_95 (e := (2, .aload_n kF0, 0)) rfl) rfl rfl ?_
  refine gt_ogk (A := 1) (v := .int T) (ykc_95 (e := (5, .getfield 13, 0)) rfl) rfl hP rfl rfl hT rfl ?_
  refine gt_alu (st' := [.int (Int32.ofInt 4), .int T]) (ykc_95 (e := (0, .iconst 4, 0)) rfl) rfl rfl ?_
  obtain ⟨T4, e_T4, h_T4⟩ : ∃ zq : Int32, T + (Int32.ofInt 4) = zq ∧ zq.toInt = T.toInt + 4 := ⟨_, rfl, by rw [ti_add (by rw [yi4]; omega) (by rw [yi4]; omega), yi4]⟩
  refine gt_alu (st' := [.int T4]) (ykc_95 (e := (0, .iadd, 0)) rfl) (by rw [← e_T4]; exact rfl) rfl ?_
  refine gt_push (v := .int ((Int8.ofInt 80).toInt32)) (n := 2) (ykc_95 (e := (1, .bipush 80, 0)) rfl) rfl rfl ?_
  refine gt_ile_t (ykc_95 (e := (4, .if_icmp .le 5, 20)) rfl) (by rw [yb80]; omega) ?_
  refine gt_alu (st' := [.int (Int32.ofInt 0)]) (ykc_95 (e := (0, .iconst 0, 0)) rfl) rfl rfl ?_
  refine gt_store (L' := [some (.ref 1), some (.int y), some (.int (Int32.ofInt 0))]) (st' := []) (n := 1) (ykc_95 (e := (3, .istore_n kF2, 0)) rfl) rfl rfl ?_
  refine yaplC ht h76 (p0 := ph) (fun ph' x hP1 hT1 hA hB => ?_) 4 0 _ _ rfl (by decide) hP hT yAP_0 (fun _ _ => rfl)
  refine gt_load (v := .ref 1) (n := 1) (ykc_95 (e := (2, .aload_n kF0, 0)) rfl) rfl rfl ?_
  refine gt_alu (st' := [.ref 1, .ref 1]) (ykc_95 (e := (0, .dup, 0)) rfl) rfl rfl ?_
  refine gt_ogk (A := 1) (v := .int T) (ykc_95 (e := (5, .getfield 13, 0)) rfl) rfl hP1 rfl rfl hT1 rfl ?_
  refine gt_alu (st' := [.int (Int32.ofInt 4), .int T, .ref 1]) (ykc_95 (e := (0, .iconst 4, 0)) rfl) rfl rfl ?_
  obtain ⟨T5, e_T5, h_T5⟩ : ∃ zq : Int32, T + (Int32.ofInt 4) = zq ∧ zq.toInt = T.toInt + 4 := ⟨_, rfl, by rw [ti_add (by rw [yi4]; omega) (by rw [yi4]; omega), yi4]⟩
  refine gt_alu (st' := [.int T5, .ref 1]) (ykc_95 (e := (0, .iadd, 0)) rfl) (by rw [← e_T5]; exact rfl) rfl ?_
  refine gt_opv (A := 1) (y := .int T5) (ty := .int) (ykc_95 (e := (5, .putfield 13, 0)) rfl) rfl hP1 rfl rfl rfl rfl rfl ⟨_, rfl, (by show 0 ≤ T5.toInt; omega), (by show T5.toInt ≤ 80; omega)⟩ rfl (fun ph1 hP1 u1 => ?_)
  refine gt_alu (st' := [.int (Int32.ofInt 1)]) (ykc_95 (e := (0, .iconst 1, 0)) rfl) rfl rfl ?_
  refine gt_ret (ykc_95 (e := (7, .ireturn, 0)) rfl) (xretz (by decide) (by decide)) ?_
  exact ⟨rfl, hP1, ⟨T5, u1.1, by omega⟩, yAP_eq hA (fun c => u1.2.1 2 c (fun q => absurd q.1 (by decide))), fun b h2 h1 => (u1.2.2 b h1).trans (hB b h2)⟩
set_option maxRecDepth 6000 in
theorem yappC0 {ph : pm_H} (hP : xH xX kK m w ph) (hT : xget ph 1 1 = some (.int T)) (ht : T.toInt = (t : Int)) (h76 : 76 < t) (h80 : t ≤ 80) : ∃ v ph', pm_Rd kK false (D + 1) 95 [.ref 1, .int y] ph (v, ph', 0, 0) ∧ (v = some (.int (Int32.ofInt 0)) ∧ ph = ph') := by
  refine xRd_mk (nl := 3) rfl rfl ?_
  show xGT kK D 95 _ (0, [some (.ref 1), some (.int y), none], [], ph, 0, 0)
  refine gt_load (v := .ref 1) (n := 1) (ykc_95 (e := (2, .aload_n kF0, 0)) rfl) rfl rfl ?_
  refine gt_ogk (A := 1) (v := .int T) (ykc_95 (e := (5, .getfield 13, 0)) rfl) rfl hP rfl rfl hT rfl ?_
  refine gt_zlt_f (ykc_95 (e := (4, .ifCond .lt 14, 18)) rfl) (by omega) rfl ?_
  refine gt_load (v := .ref 1) (n := 1) (ykc_95 (e := (2, .aload_n kF0, 0)) rfl) rfl rfl ?_
  refine gt_ogk (A := 1) (v := .int T) (ykc_95 (e := (5, .getfield 13, 0)) rfl) rfl hP rfl rfl hT rfl ?_
  refine gt_alu (st' := [.int (Int32.ofInt 4), .int T]) (ykc_95 (e := (0, .iconst 4, 0)) rfl) rfl rfl ?_
  obtain ⟨T4, e_T4, h_T4⟩ : ∃ zq : Int32, T + (Int32.ofInt 4) = zq ∧ zq.toInt = T.toInt + 4 := ⟨_, rfl, by rw [ti_add (by rw [yi4]; omega) (by rw [yi4]; omega), yi4]⟩
  refine gt_alu (st' := [.int T4]) (ykc_95 (e := (0, .iadd, 0)) rfl) (by rw [← e_T4]; exact rfl) rfl ?_
  refine gt_push (v := .int ((Int8.ofInt 80).toInt32)) (n := 2) (ykc_95 (e := (1, .bipush 80, 0)) rfl) rfl rfl ?_
  refine gt_ile_f (ykc_95 (e := (4, .if_icmp .le 5, 20)) rfl) (by rw [yb80]; omega) rfl ?_
  refine gt_alu (st' := [.int (Int32.ofInt 0)]) (ykc_95 (e := (0, .iconst 0, 0)) rfl) rfl rfl ?_
  refine gt_ret (ykc_95 (e := (7, .ireturn, 0)) rfl) (xretz (by decide) (by decide)) ?_
  exact ⟨rfl, rfl⟩
set_option maxRecDepth 6000 in
theorem yszC {ph : pm_H} (hP : xH xX kK m w ph) (hT : xget ph 1 1 = some (.int T)) : ∃ v ph', pm_Rd kK false (D + 1) 99 [.ref 1] ph (v, ph', 0, 0) ∧ (v = some (.int T) ∧ ph = ph') := by
  refine xRd_mk (nl := 1) rfl rfl ?_
  show xGT kK D 99 _ (0, [some (.ref 1)], [], ph, 0, 0)
  refine gt_load (v := .ref 1) (n := 1) (ykc_99 (e := (2, .aload_n kF0, 0)) rfl) rfl rfl ?_
  refine gt_ogk (A := 1) (v := .int T) (ykc_99 (e := (5, .getfield 13, 0)) rfl) rfl hP rfl rfl hT rfl ?_
  refine gt_ret (ykc_99 (e := (7, .ireturn, 0)) rfl) rfl ?_
  exact ⟨rfl, rfl⟩
set_option maxRecDepth 6000 in
theorem ysignC {ph : pm_H} (hP : xH xX kK m w ph) (hT : xget ph 1 1 = some (.int T)) (ht : T.toInt = (t : Int)) (h80 : t ≤ 80) : ∃ v ph', pm_Rd kK false (D + 1 + 1) 122 [.ref 0, .int y] ph (v, ph', 0, 0) ∧ ((t ≤ 76 ∧ yAP ph ph' 2 t y 4) ∨ (76 < t ∧ ph = ph')) := by
  refine xRd_mk (nl := 2) rfl rfl ?_
  show xGT kK (D + 1) 122 _ (0, [some (.ref 0), some (.int y)], [], ph, 0, 0)
  by_cases h76 : t ≤ 76
  · refine gt_load (v := .ref 0) (n := 1) (ykc_122 (e := (2, .aload_n kF0, 0)) rfl) rfl rfl ?_
    refine gt_ogr (A := 0) (B := 1) (ykc_122 (e := (5, .getfield 10, 0)) rfl) rfl hP rfl rfl rfl rfl rfl ?_
    refine gt_load (v := .int y) (n := 1) (ykc_122 (e := (2, .iload_n kF1, 0)) rfl) rfl rfl ?_
    refine gt_ocv (A := 1) (n := 1) (as := [.ref 1, .int y]) (r := []) (ykc_122 (e := (6, .invokevirtual 104, 0)) rfl) rfl hP rfl rfl rfl rfl rfl (yappC (D := D) (y := y) hP hT ht h76) rfl (fun vv ph1 hv => ?_)
    obtain ⟨e9, hP1, ⟨s, hs, hs4⟩, hA, hB⟩ := hv; subst e9
    change xGT kK (D + 1) 122 _ (8, [some (.ref 0), some (.int y)], [.int (Int32.ofInt 1)], ph1, 0, 0)
    refine gt_zeq_f (ykc_122 (e := (4, .ifCond .eq 13, 21)) rfl) (by decide) rfl ?_
    refine gt_load (v := .ref 0) (n := 1) (ykc_122 (e := (2, .aload_n kF0, 0)) rfl) rfl rfl ?_
    refine gt_ogr (A := 0) (B := 1) (ykc_122 (e := (5, .getfield 10, 0)) rfl) rfl hP1 rfl rfl rfl rfl rfl ?_
    refine gt_ocv (A := 1) (n := 0) (as := [.ref 1]) (r := []) (ykc_122 (e := (6, .invokevirtual 108, 0)) rfl) rfl hP1 rfl rfl rfl rfl rfl (yszC (D := D) hP1 hs) rfl (fun vv ph2 hv => ?_)
    obtain ⟨e9, e8⟩ := hv; subst e9; subst e8
    change xGT kK (D + 1) 122 _ (18, [some (.ref 0), some (.int y)], [.int s], ph1, 0, 0)
    refine gt_br (pc' := 22) (st' := [.int s]) (ykc_122 (e := (4, .goto 4, 22)) rfl) rfl ?_
    refine gt_ret (ykc_122 (e := (7, .ireturn, 0)) rfl) rfl ?_
    exact Or.inl ⟨h76, hA⟩
  · replace h76 : 76 < t := by omega
    refine gt_load (v := .ref 0) (n := 1) (ykc_122 (e := (2, .aload_n kF0, 0)) rfl) rfl rfl ?_
    refine gt_ogr (A := 0) (B := 1) (ykc_122 (e := (5, .getfield 10, 0)) rfl) rfl hP rfl rfl rfl rfl rfl ?_
    refine gt_load (v := .int y) (n := 1) (ykc_122 (e := (2, .iload_n kF1, 0)) rfl) rfl rfl ?_
    refine gt_ocv (A := 1) (n := 1) (as := [.ref 1, .int y]) (r := []) (ykc_122 (e := (6, .invokevirtual 104, 0)) rfl) rfl hP rfl rfl rfl rfl rfl (yappC0 (D := D) (y := y) hP hT ht h76 h80) rfl (fun vv ph1 hv => ?_)
    obtain ⟨e9, e8⟩ := hv; subst e9; subst e8
    change xGT kK (D + 1) 122 _ (8, [some (.ref 0), some (.int y)], [.int (Int32.ofInt 0)], ph, 0, 0)
    refine gt_zeq_t (ykc_122 (e := (4, .ifCond .eq 13, 21)) rfl) (by decide) ?_
    refine gt_alu (st' := [.int (Int32.ofInt (-1))]) (ykc_122 (e := (0, .iconst (-1), 0)) rfl) rfl rfl ?_
    refine gt_ret (ykc_122 (e := (7, .ireturn, 0)) rfl) rfl ?_
    exact Or.inr ⟨h76, rfl⟩
set_option maxRecDepth 6000 in
theorem ysignM {ph : pm_H} (hP : xH xX kK m w ph) (hT : xget ph 170 14 = some (.int T)) (ht : T.toInt = (t : Int)) (h80 : t ≤ 80) : ∃ v ph', pm_Rd kK false (D + 1) 193 [.ref 170, .int y] ph (v, ph', 0, 0) ∧ ((t ≤ 76 ∧ yAP ph ph' 176 t y 4) ∨ (76 < t ∧ ∀ c, xget ph' 176 c = xget ph 176 c)) := by
  refine xRd_mk (nl := 3) rfl rfl ?_
  show xGT kK D 193 _ (0, [some (.ref 170), some (.int y), none], [], ph, 0, 0)
  by_cases h76 : t ≤ 76
  · refine gt_load (v := .ref 170) (n := 1) (ykc_193 (e := (2, .aload_n kF0, 0)) rfl) rfl rfl ?_
    refine gt_alu (st' := [.int (Int32.ofInt 0), .ref 170]) (ykc_193 (e := (0, .iconst 0, 0)) rfl) rfl rfl ?_
    refine gt_opv (A := 170) (y := .int (Int32.ofInt 0)) (ty := .int) (ykc_193 (e := (5, .putfield 3, 0)) rfl) rfl hP rfl rfl rfl rfl rfl ⟨_, rfl, (by decide), (by decide)⟩ rfl (fun ph1 hP1 u1 => ?_)
    have f1_170_14 : xget ph1 170 14 = some (.int T) := (u1.2.1 170 14 (fun q => absurd q.2 (by decide))).trans hT
    refine gt_load (v := .ref 170) (n := 1) (ykc_193 (e := (2, .aload_n kF0, 0)) rfl) rfl rfl ?_
    refine gt_ogk (A := 170) (v := .int T) (ykc_193 (e := (5, .getfield 136, 0)) rfl) rfl hP1 rfl rfl f1_170_14 rfl ?_
    refine gt_push (v := .int ((Int8.ofInt 76).toInt32)) (n := 2) (ykc_193 (e := (1, .bipush 76, 0)) rfl) rfl rfl ?_
    refine gt_ile_t (ykc_193 (e := (4, .if_icmp .le 5, 16)) rfl) (by rw [yb76]; omega) ?_
    refine gt_alu (st' := [.int (Int32.ofInt 0)]) (ykc_193 (e := (0, .iconst 0, 0)) rfl) rfl rfl ?_
    refine gt_store (L' := [some (.ref 170), some (.int y), some (.int (Int32.ofInt 0))]) (st' := []) (n := 1) (ykc_193 (e := (3, .istore_n kF2, 0)) rfl) rfl rfl ?_
    refine yaplM ht h76 (p0 := ph1) (fun ph' x hP1 hT1 hA hB => ?_) 4 0 _ _ rfl (by decide) hP1 f1_170_14 yAP_0 (fun _ _ => rfl)
    refine gt_load (v := .ref 170) (n := 1) (ykc_193 (e := (2, .aload_n kF0, 0)) rfl) rfl rfl ?_
    refine gt_alu (st' := [.ref 170, .ref 170]) (ykc_193 (e := (0, .dup, 0)) rfl) rfl rfl ?_
    refine gt_ogk (A := 170) (v := .int T) (ykc_193 (e := (5, .getfield 136, 0)) rfl) rfl hP1 rfl rfl hT1 rfl ?_
    refine gt_alu (st' := [.int (Int32.ofInt 4), .int T, .ref 170]) (ykc_193 (e := (0, .iconst 4, 0)) rfl) rfl rfl ?_
    obtain ⟨T5, e_T5, h_T5⟩ : ∃ zq : Int32, T + (Int32.ofInt 4) = zq ∧ zq.toInt = T.toInt + 4 := ⟨_, rfl, by rw [ti_add (by rw [yi4]; omega) (by rw [yi4]; omega), yi4]⟩
    refine gt_alu (st' := [.int T5, .ref 170]) (ykc_193 (e := (0, .iadd, 0)) rfl) (by rw [← e_T5]; exact rfl) rfl ?_
    refine gt_opv (A := 170) (y := .int T5) (ty := .int) (ykc_193 (e := (5, .putfield 136, 0)) rfl) rfl hP1 rfl rfl rfl rfl rfl ⟨_, rfl, (by show 0 ≤ T5.toInt; omega), (by show T5.toInt ≤ 80; omega)⟩ rfl (fun ph21 hP21 u21 => ?_)
    refine gt_load (v := .ref 170) (n := 1) (ykc_193 (e := (2, .aload_n kF0, 0)) rfl) rfl rfl ?_
    refine gt_ogk (A := 170) (v := .int T5) (ykc_193 (e := (5, .getfield 136, 0)) rfl) rfl hP21 rfl rfl u21.1 rfl ?_
    refine gt_ret (ykc_193 (e := (7, .ireturn, 0)) rfl) rfl ?_
    exact Or.inl ⟨h76, yAP_eq0 (yAP_eq hA (fun c => u21.2.1 176 c (fun q => absurd q.1 (by decide)))) (fun c => u1.2.1 176 c (fun q => absurd q.1 (by decide)))⟩
  · replace h76 : 76 < t := by omega
    refine gt_load (v := .ref 170) (n := 1) (ykc_193 (e := (2, .aload_n kF0, 0)) rfl) rfl rfl ?_
    refine gt_alu (st' := [.int (Int32.ofInt 0), .ref 170]) (ykc_193 (e := (0, .iconst 0, 0)) rfl) rfl rfl ?_
    refine gt_opv (A := 170) (y := .int (Int32.ofInt 0)) (ty := .int) (ykc_193 (e := (5, .putfield 3, 0)) rfl) rfl hP rfl rfl rfl rfl rfl ⟨_, rfl, (by decide), (by decide)⟩ rfl (fun ph1 hP1 u1 => ?_)
    have f1_170_14 : xget ph1 170 14 = some (.int T) := (u1.2.1 170 14 (fun q => absurd q.2 (by decide))).trans hT
    refine gt_load (v := .ref 170) (n := 1) (ykc_193 (e := (2, .aload_n kF0, 0)) rfl) rfl rfl ?_
    refine gt_ogk (A := 170) (v := .int T) (ykc_193 (e := (5, .getfield 136, 0)) rfl) rfl hP1 rfl rfl f1_170_14 rfl ?_
    refine gt_push (v := .int ((Int8.ofInt 76).toInt32)) (n := 2) (ykc_193 (e := (1, .bipush 76, 0)) rfl) rfl rfl ?_
    refine gt_ile_f (ykc_193 (e := (4, .if_icmp .le 5, 16)) rfl) (by rw [yb76]; omega) rfl ?_
    refine gt_alu (st' := [.int (Int32.ofInt (-1))]) (ykc_193 (e := (0, .iconst (-1), 0)) rfl) rfl rfl ?_
    refine gt_ret (ykc_193 (e := (7, .ireturn, 0)) rfl) rfl ?_
    exact Or.inr ⟨h76, fun c => u1.2.1 176 c (fun q => absurd q.1 (by decide))⟩
end YT
