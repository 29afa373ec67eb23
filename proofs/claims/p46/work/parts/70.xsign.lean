/-! sign and end: the class's text and the reference's tape stay equally long; one check a length -/
set_option maxRecDepth 6000 in
theorem xFk {m : Int} {ph : pm_H} {a i c k : Nat} {x : Int32} {lo hi : Int} (ho : xown a = some i) (ht : ∃ t, xkt i = some (some a, t)) (hk : k / 4096 = a ∧ k % 4096 = c ∧ k < 17592186044416) (hg : xget ph a c = some (.int x)) (h1 : lo ≤ x.toInt) (h2 : x.toInt ≤ hi) : xhF xX m ph [(k, .inl (lo, hi))] := fun k' h' hm => by
  obtain ⟨k1, k2, k3⟩ := hk
  obtain ⟨t, ht⟩ := ht
  rcases List.mem_cons.mp hm with e | e
  · cases e
    exact ⟨k3, ⟨i, t, by rw [k1]; exact ho, by rw [k1]; exact ht⟩, .int x, by rw [k1, k2]; exact hg, x, rfl, h1, h2⟩
  · cases e
set_option maxRecDepth 6000 in
theorem xhF_getA {m : Int} {ph : pm_H} {fs : List (Nat × xh)} {k a c : Nat} {lo hi : Int} (h : xhF xX m ph fs) (hm : (k, Sum.inl (lo, hi)) ∈ fs) (hk : k / 4096 = a) (hc : k % 4096 = c) : ∃ x : Int32, xget ph a c = some (.int x) ∧ lo ≤ x.toInt ∧ x.toInt ≤ hi := by
  obtain ⟨-, -, v, h3, x, e, h5, h6⟩ := h k _ hm
  subst e
  rw [hk, hc] at h3
  exact ⟨x, h3, h5, h6⟩
set_option maxRecDepth 6000 in
theorem xHE_gA {gA : List Nat} {gF : List (Nat × Nat)} {a i k : Nat} {v : Value} (ho : xown a = some i) (h : xmemP gF i k = true) : xHE xX gA gF (fun p => xget p a k = some v) := fun p p' hs hp => (hs.2 a i k ho (xmemP_in h)).symm.trans hp
/-- the two texts are the same -/
def xtie (ph : pm_H) : Prop := ∃ t : Int32, xget ph 1 1 = some (.int t) ∧ xget ph 170 14 = some (.int t) ∧ ∀ i : Nat, (i : Int) < t.toInt → xget ph 2 i = xget ph 176 i
def xgA_TI : List Nat := [45, 6]
def xgF_TI : List (Nat × Nat) := [(44, 1), (0, 14)]
set_option maxRecDepth 6000 in
theorem xHE_ti : xHE xX xgA_TI xgF_TI xtie := fun p p' hs ⟨t, h1, h2, h3⟩ => ⟨t, (hs.2 1 44 1 rfl (by decide)).symm.trans h1, (hs.2 170 0 14 rfl (by decide)).symm.trans h2, fun i hi => (xget_at (hs.1 2 45 rfl (by decide)).symm i).trans ((h3 i hi).trans (xget_at (hs.1 176 6 rfl (by decide)) i))⟩
set_option maxRecDepth 6000 in
theorem xHE_tie : xHE xX xgA_VR xgF_VR xtie := xHE_sub (by decide +kernel) (by decide +kernel) xHE_ti
def xgR (t : Nat) : Int := bif Nat.ble t 76 then Int.ofNat (t + 4) else Int.negSucc 0
def xgS (t : Nat) : Int := bif Nat.ble t 76 then Int.ofNat (t + 4) else Int.ofNat t
def xfull : Int × Int := (Int.negSucc 2147483647, Int.ofNat 2147483647)
/-! the class -/
def xsd0 (t : Nat) (cs : List Nat) : xnd × List Nat := ((0, [some (.inr (.inr (.inl 44))), some (.inl xfull), none], [(4097, .inl (Int.ofNat t, Int.ofNat t))], 0, (Int.ofNat 5, [])), cs)
def xsd1 (t : Nat) : xnd × List Nat := ((22, [some (.inr (.inr (.inl 44))), some (.inl xfull), some (.inl (Int.ofNat 0, Int.ofNat 4))], [(4097, .inl (Int.ofNat t, Int.ofNat t))], 0, (Int.ofNat 4, [(Int.negSucc 0, false, 2)])), [1])
def xsns (t : Nat) : xns := bif Nat.ble t 76 then [[xsd0 t [1], xsd1 t]] else [[xsd0 t []]]
def xgB (t : Nat) : Int := bif Nat.ble t 76 then Int.ofNat 1 else Int.ofNat 0
set_option maxRecDepth 6000 in
theorem xsC : (List.range 81).all (fun t => (xsns t).all (fun c => c.all (fun nd => xnchk xX xsp_95_0 xt_95 [22] (xsns t) (some (.inl (xgB t, xgB t))) [(4097, .inl (xgS t, xgS t))] 600 nd))) = true := by decide +kernel
set_option maxRecDepth 6000 in
theorem xsns0 (t : Nat) : ∃ cs, pm_nth2 (xsns t) 0 = some ((0, xenth 3 [.inr (.inr (.inl 44)), .inl xfull], [(4097, .inl (Int.ofNat t, Int.ofNat t))], 0, (Int.ofNat 5, [])), cs) := by
  unfold xsns
  cases Nat.ble t 76 with
  | true => exact ⟨[1], rfl⟩
  | false => exact ⟨[], rfl⟩
set_option maxRecDepth 6000 in
theorem xn_95_t {E : pm_H → Prop} (hE : xHE xX xgA_G28 xgF_G28 E) {t : Nat} (ht : t < 81) : xcon xX kK E 1 95 [.inr (.inr (.inl 44)), .inl xfull] [(4097, .inl (Int.ofNat t, Int.ofNat t))] 0 (some (.inl (xgB t, xgB t))) [(4097, .inl (xgS t, xgS t))] := by
  obtain ⟨cs, h0⟩ := xsns0 t
  have h := List.all_eq_true.mp xsC t (List.mem_range.mpr ht)
  exact xnodes_ok (nl := 3) (f := 600) (sp := xsp_95_0) (T := xt_95) (cps := [22]) (ns := xsns t) rfl rfl (xq_95 hE) h0 (fun c hc nd hnd => List.all_eq_true.mp (List.all_eq_true.mp h c hc) nd hnd)
set_option maxRecDepth 6000 in
theorem xn_99_r {D : Nat} {ph : pm_H} {s : Int32} {fl : List Value} (hat : pm_at ph 1 = some (.inr (9, fl))) (hv : fl[1]? = some (.int s)) : pm_Rd kK false (D + 1) 99 [.ref 1] ph (some (.int s), ph, 0, 0) := by
  refine ⟨rfl, 3, ?_⟩
  have he : pm_ent kK 99 [.ref 1] ph = (0, [some (.ref 1)], [], ph, 0, 0) := rfl
  rw [he, pm_Tn, ks2 (ykc_99 (e := (2, .aload_n kF0, 0)) rfl) (v := .ref 1) (n := 1) rfl]
  simp only
  rw [pm_Tn, xgfs (ykc_99 (e := (5, .getfield 13, 0)) rfl) rfl hat hv]
  simp only
  rw [pm_Tn, ks7 (ykc_99 (e := (7, .ireturn, 0)) rfl) (v := some (.int s)) rfl]
set_option maxRecDepth 6000 in
theorem xgR_1 {t : Nat} (h : Nat.ble t 76 = true) : xgB t = 1 ∧ xgS t = (t : Int) + 4 ∧ xgR t = (t : Int) + 4 := by
  unfold xgB xgS xgR
  rw [h]
  exact ⟨rfl, rfl, rfl⟩
set_option maxRecDepth 6000 in
theorem xgR_0 {t : Nat} (h : Nat.ble t 76 = false) : xgB t = 0 ∧ xgS t = (t : Int) ∧ xgR t = -1 := by
  unfold xgB xgS xgR
  rw [h]
  exact ⟨rfl, rfl, rfl⟩
set_option maxRecDepth 6000 in
/-- the class's sign, by hand around append -/
theorem xn_122_h {E : pm_H → Prop} (hE : xHE xX xgA_G28 xgF_G28 E) {k : Nat} (hk : k < 81) {m : Int} (hm : m ≤ 2147483646) (h0m : (0 : Int) ≤ m) {D : Nat} (hD : 3 ≤ D) {ph : pm_H} {t y : Int32} (e : t.toInt = (k : Int)) (h1 : xget ph 1 1 = some (.int t)) (hP : xH xX kK m 0 ph) (g9 : E ph) : ∃ v ph', pm_Rd kK false D 122 [.ref 0, .int y] ph (v, ph', 0, 0) ∧ (∃ r s : Int32, v = some (.int r) ∧ r.toInt = xgR k ∧ xget ph' 1 1 = some (.int s) ∧ s.toInt = xgS k ∧ xH xX kK m 0 ph' ∧ E ph') := by
  obtain ⟨D', rfl⟩ : ∃ D', D = D' + 1 + 1 := ⟨D - 2, by omega⟩
  obtain ⟨fl0, hat0, hfl0⟩ := xO_at (a := 0) hP rfl rfl
  obtain ⟨v4, hv4, hv⟩ := hfl0 0 _ rfl
  have e4 : v4 = .ref 1 := xaO (m' := 0) (A := 1) hP rfl hv
  subst e4
  obtain ⟨fl1, hat1, -⟩ := xO_at (a := 1) hP rfl rfl
  refine xRd_mk (nl := 2) rfl rfl ?_
  show xGT kK (D' + 1) 122 _ (0, [some (.ref 0), some (.int y)], [], ph, 0, 0)
  refine gt_load (v := .ref 0) (n := 1) (ykc_122 (e := (2, .aload_n kF0, 0)) rfl) rfl rfl ?_
  refine gt_gfo (ykc_122 (e := (5, .getfield 10, 0)) rfl) rfl hat0 hv4 rfl ?_
  refine gt_load (v := .int y) (n := 1) (ykc_122 (e := (2, .iload_n kF1, 0)) rfl) rfl rfl ?_
  obtain ⟨v, ph1, a1, a2, a3, ⟨u, e1, z, e2, z1, z2⟩, a5⟩ := (xn_95_t hE hk) (D' + 1) (by omega) m hm h0m [.ref 1, .int y] ph ⟨xaRi rfl (by decide), xaT, trivial⟩ (xFk (a := 1) (c := 1) rfl ⟨_, rfl⟩ ⟨rfl, rfl, by decide⟩ h1 (by rw [e]; exact Int.le_refl _) (by rw [e]; exact Int.le_refl _)) hP g9
  subst e1 e2
  obtain ⟨s, s1, s2, s3⟩ := xhF_getA (a := 1) (c := 1) a5 (List.Mem.head _) rfl rfl
  refine gt_call (r := []) (P := fun v ph' => v = some (.int z) ∧ ph' = ph1) (ykc_122 (e := (6, .invokevirtual 104, 0)) rfl) (xinvV rfl rfl hat1 rfl rfl) ⟨_, _, a1, rfl, rfl⟩ rfl (fun vv pp hv => ?_)
  obtain ⟨q1, q2⟩ := hv
  subst q1 q2
  change xGT kK (D' + 1) 122 _ (8, [some (.ref 0), some (.int y)], [.int z], pp, 0, 0)
  cases hb : Nat.ble k 76 with
  | true =>
    obtain ⟨b1, b2, b3⟩ := xgR_1 hb
    refine gt_zeq_f (ykc_122 (e := (4, .ifCond .eq 13, 21)) rfl) (by omega) rfl ?_
    obtain ⟨fl0, hat0, hfl0⟩ := xO_at (a := 0) a2 rfl rfl
    obtain ⟨v4, hv4, hv⟩ := hfl0 0 _ rfl
    have e4 : v4 = .ref 1 := xaO (m' := 0) (A := 1) a2 rfl hv
    subst e4
    obtain ⟨fl1, hat1, -⟩ := xO_at (a := 1) a2 rfl rfl
    refine gt_load (v := .ref 0) (n := 1) (ykc_122 (e := (2, .aload_n kF0, 0)) rfl) rfl rfl ?_
    refine gt_gfo (ykc_122 (e := (5, .getfield 10, 0)) rfl) rfl hat0 hv4 rfl ?_
    refine gt_call (r := []) (P := fun v ph' => v = some (.int s) ∧ ph' = pp) (ykc_122 (e := (6, .invokevirtual 108, 0)) rfl) (xinvV rfl rfl hat1 rfl rfl) ⟨_, _, xn_99_r hat1 (by unfold xget at s1; rw [hat1] at s1; exact s1), rfl, rfl⟩ rfl (fun vv p2 hv => ?_)
    obtain ⟨q1, q2⟩ := hv
    subst q1 q2
    refine gt_br (pc' := 22) (st' := [.int s]) (ykc_122 (e := (4, .goto 4, 22)) rfl) rfl ?_
    refine gt_ret (ykc_122 (e := (7, .ireturn, 0)) rfl) rfl ?_
    exact ⟨s, s, rfl, by omega, s1, by omega, a2, a3⟩
  | false =>
    obtain ⟨b1, b2, b3⟩ := xgR_0 hb
    refine gt_zeq_t (ykc_122 (e := (4, .ifCond .eq 13, 21)) rfl) (by omega) ?_
    refine gt_alu (st' := [.int (Int32.ofInt (-1))]) (ykc_122 (e := (0, .iconst (-1), 0)) rfl) rfl rfl ?_
    refine gt_ret (ykc_122 (e := (7, .ireturn, 0)) rfl) rfl ?_
    exact ⟨_, s, rfl, by rw [b3]; decide, s1, by omega, a2, a3⟩
def xndE (t : Nat) (lo hi : Int) : xnd × List Nat := ((0, [some (.inr (.inr (.inl 31))), some (.inl (lo, hi))], [(4097, .inl (Int.ofNat t, Int.ofNat t))], 0, (Int.ofNat 0, [])), [])
noncomputable def xeC (t : Nat) (lo hi : Int) (s r : Nat) : Bool := xnchk xX xsp_123_0 xt_123 [] [[xndE t lo hi]] (some (.inl (Int.ofNat r, Int.ofNat r))) [(4097, .inl (Int.ofNat s, Int.ofNat s))] 600 (xndE t lo hi)
set_option maxRecDepth 6000 in
theorem xeC1 : (List.range 81).all (fun t => xeC t (Int.negSucc 2147483647) (Int.negSucc 0) t 0) = true := by decide +kernel
set_option maxRecDepth 6000 in
theorem xeC2 : (List.range 81).all (fun t => xeC t (Int.ofNat (t + 1)) (Int.ofNat 2147483647) t 0) = true := by decide +kernel
set_option maxRecDepth 6000 in
theorem xn_123_t {E : pm_H → Prop} (hE : xHE xX xgA_G29 xgF_G29 E) {t s r : Nat} {lo hi : Int} (h : xeC t lo hi s r = true) : xcon xX kK E 2 123 [.inr (.inr (.inl 31)), .inl (lo, hi)] [(4097, .inl (Int.ofNat t, Int.ofNat t))] 0 (some (.inl (Int.ofNat r, Int.ofNat r))) [(4097, .inl (Int.ofNat s, Int.ofNat s))] := xnodes_ok (nl := 2) (f := 600) (sp := xsp_123_0) (T := xt_123) (cps := []) (ns := [[xndE t lo hi]]) rfl rfl (xq_123 hE) rfl (List.forall_mem_cons.mpr ⟨List.forall_mem_cons.mpr ⟨h, fun _ h => absurd h List.not_mem_nil⟩, fun _ h => absurd h List.not_mem_nil⟩)
/-! the reference -/
def xmd0 (t : Nat) (cs : List Nat) : xnd × List Nat := ((0, [some (.inr (.inr (.inl 0))), some (.inl xfull), none], [(696334, .inl (Int.ofNat t, Int.ofNat t))], 0, (Int.ofNat 5, [])), cs)
def xmd1 (t : Nat) : xnd × List Nat := ((18, [some (.inr (.inr (.inl 0))), some (.inl xfull), some (.inl (Int.ofNat 0, Int.ofNat 4))], [(696320, .inl (Int.ofNat 0, Int.ofNat 0)), (696334, .inl (Int.ofNat t, Int.ofNat t))], 0, (Int.ofNat 4, [(Int.negSucc 0, false, 2)])), [1])
def xmns (t : Nat) : xns := bif Nat.ble t 76 then [[xmd0 t [1], xmd1 t]] else [[xmd0 t []]]
set_option maxRecDepth 6000 in
theorem xmC : (List.range 81).all (fun t => (xmns t).all (fun c => c.all (fun nd => xnchk xX xsp_193_0 xt_193 [18] (xmns t) (some (.inl (xgR t, xgR t))) [(696334, .inl (xgS t, xgS t))] 600 nd))) = true := by decide +kernel
set_option maxRecDepth 6000 in
theorem xmns0 (t : Nat) : ∃ cs, pm_nth2 (xmns t) 0 = some ((0, xenth 3 [.inr (.inr (.inl 0)), .inl xfull], [(696334, .inl (Int.ofNat t, Int.ofNat t))], 0, (Int.ofNat 5, [])), cs) := by
  unfold xmns
  cases Nat.ble t 76 with
  | true => exact ⟨[1], rfl⟩
  | false => exact ⟨[], rfl⟩
set_option maxRecDepth 6000 in
theorem xn_193_t {E : pm_H → Prop} (hE : xHE xX xgA_G59 xgF_G59 E) {t : Nat} (ht : t < 81) : xcon xX kK E 1 193 [.inr (.inr (.inl 0)), .inl xfull] [(696334, .inl (Int.ofNat t, Int.ofNat t))] 0 (some (.inl (xgR t, xgR t))) [(696334, .inl (xgS t, xgS t))] := by
  obtain ⟨cs, h0⟩ := xmns0 t
  have h := List.all_eq_true.mp xmC t (List.mem_range.mpr ht)
  exact xnodes_ok (nl := 3) (f := 600) (sp := xsp_193_0) (T := xt_193) (cps := [18]) (ns := xmns t) rfl rfl (xq_193 hE) h0 (fun c hc nd hnd => List.all_eq_true.mp (List.all_eq_true.mp h c hc) nd hnd)
def xmdE (t : Nat) (lo hi : Int) : xnd × List Nat := ((0, [some (.inr (.inr (.inl 0))), some (.inl (lo, hi))], [(696334, .inl (Int.ofNat t, Int.ofNat t))], 0, (Int.ofNat 0, [])), [])
noncomputable def xeM (t : Nat) (lo hi : Int) (s r : Nat) : Bool := xnchk xX xsp_194_0 xt_194 [] [[xmdE t lo hi]] (some (.inl (Int.ofNat r, Int.ofNat r))) [(696334, .inl (Int.ofNat s, Int.ofNat s))] 600 (xmdE t lo hi)
set_option maxRecDepth 6000 in
theorem xeM1 : (List.range 81).all (fun t => xeM t (Int.negSucc 2147483647) (Int.negSucc 0) t 0) = true := by decide +kernel
set_option maxRecDepth 6000 in
theorem xeM2 : (List.range 81).all (fun t => xeM t (Int.ofNat (t + 1)) (Int.ofNat 2147483647) t 0) = true := by decide +kernel
set_option maxRecDepth 6000 in
theorem xn_194_t {E : pm_H → Prop} (hE : xHE xX xgA_G60 xgF_G60 E) {t s r : Nat} {lo hi : Int} (h : xeM t lo hi s r = true) : xcon xX kK E 2 194 [.inr (.inr (.inl 0)), .inl (lo, hi)] [(696334, .inl (Int.ofNat t, Int.ofNat t))] 0 (some (.inl (Int.ofNat r, Int.ofNat r))) [(696334, .inl (Int.ofNat s, Int.ofNat s))] := xnodes_ok (nl := 2) (f := 600) (sp := xsp_194_0) (T := xt_194) (cps := []) (ns := [[xmdE t lo hi]]) rfl rfl (xq_194 hE) rfl (List.forall_mem_cons.mpr ⟨List.forall_mem_cons.mpr ⟨h, fun _ h => absurd h List.not_mem_nil⟩, fun _ h => absurd h List.not_mem_nil⟩)
/-! both -/
set_option maxRecDepth 6000 in
theorem xtie_t {m : Int} {w : Nat} {ph : pm_H} (hP : xH xX kK m w ph) (h : xtie ph) : ∃ (t : Int32) (n : Nat), n < 81 ∧ t.toInt = (n : Int) ∧ xget ph 1 1 = some (.int t) ∧ xget ph 170 14 = some (.int t) := by
  obtain ⟨t, h1, h2, -⟩ := h
  obtain ⟨x, h3, h4, h5⟩ := xM_fi (k := 14) hP rfl
  have e := xget_int h2 h3
  subst e
  have h4 : (0 : Int) ≤ t.toInt := h4
  have h5 : t.toInt ≤ 80 := h5
  exact ⟨t, t.toInt.toNat, by omega, by omega, h1, h2⟩
set_option maxRecDepth 6000 in
theorem xsignE {n : Nat} {m : Int} (hm : m ≤ 2147483646) (h0m : (0 : Int) ≤ m) {D : Nat} (hD : 3 ≤ D) {ph : pm_H} {y : Int32} (hP : xH xX kK m 0 ph) (hE : (xV ph ∧ xtie ph) ∧ xINV n ph) : ∃ r ph1 ph2, pm_Rd kK false D 122 [.ref 0, .int y] ph (some (.int r), ph1, 0, 0) ∧ pm_Rd kK false D 193 [.ref 170, .int y] ph1 (some (.int r), ph2, 0, 0) ∧ xH xX kK m 0 ph1 ∧ xH xX kK m 0 ph2 ∧ (xV ph2 ∧ xtie ph2) ∧ xINV n ph2 := by
  obtain ⟨t, k, hk, e, h1, h2⟩ := xtie_t hP hE.1.2
  have h3 : ∀ i : Nat, (i : Int) < t.toInt → xget ph 2 i = xget ph 176 i := by
    obtain ⟨t', h1', -, h3⟩ := hE.1.2
    have e := xget_int h1 h1'
    subst e
    exact h3
  obtain ⟨v, ph1, a1, r, s, e1, r1, s1, s2, a2, a3⟩ := xn_122_h (E := fun p => (xV p ∧ xget p 170 14 = some (.int t) ∧ pm_at p 176 = pm_at ph 176) ∧ xINV n p) (xHE_and (xHE_and (xHE_sub (by decide +kernel) (by decide +kernel) xHEV) (xHE_and (xHE_g rfl) (xHE_at (i := 6) rfl (by decide)))) (xHE_sub (by decide +kernel) (by decide +kernel) (xHEI n))) hk hm h0m hD (y := y) e h1 hP ⟨⟨hE.1.1, h2, rfl⟩, hE.2⟩
  subst e1
  obtain ⟨v2, ph2, b1, b2, b3, ⟨u2, e3, q, e4, q1, q2⟩, b5⟩ := (xn_193_t (E := fun p => (xV p ∧ xget p 1 1 = some (.int s) ∧ pm_at p 2 = pm_at ph1 2) ∧ xINV n p) (xHE_and (xHE_and (xHE_sub (by decide +kernel) (by decide +kernel) xHEV) (xHE_and (xHE_gA rfl rfl) (xHE_at (i := 45) rfl (by decide)))) (xHE_sub (by decide +kernel) (by decide +kernel) (xHEI n))) hk) D (by omega) m hm h0m [.ref 170, .int y] ph1 ⟨xaRi rfl (by decide), xaT, trivial⟩ (xFk (a := 170) (c := 14) rfl ⟨_, rfl⟩ ⟨rfl, rfl, by decide⟩ a3.1.2.1 (by rw [e]; exact Int.le_refl _) (by rw [e]; exact Int.le_refl _)) a2 ⟨⟨a3.1.1, s1, rfl⟩, a3.2⟩
  subst e3 e4
  obtain ⟨z, z1, z2, z3⟩ := xhF_getA (a := 170) (c := 14) b5 (List.Mem.head _) rfl rfl
  have er : r = q := Int32.toInt_inj.mp (by omega)
  have es : s = z := Int32.toInt_inj.mp (by omega)
  subst er es
  refine ⟨r, ph1, ph2, a1, b1, a2, b2, ⟨b3.1.1, s, b3.1.2.1, z1, fun i hi => ?_⟩, b3.2⟩
  have f1 : ∀ c, xget ph1 176 c = xget ph 176 c := fun c => xget_at a3.1.2.2 c
  have f2 : ∀ c, xget ph2 2 c = xget ph1 2 c := fun c => xget_at b3.1.2.2 c
  obtain ⟨vC, pC, rC, cC⟩ := ysignC (D := 1) (y := y) hP h1 e (by omega)
  have eC := yRd_det _ _ _ _ _ _ _ a1 rC
  cases eC
  obtain ⟨vM, pM, rM, cM⟩ := ysignM (D := 1) (y := y) a2 a3.1.2.1 e (by omega)
  have eM := yRd_det _ _ _ _ _ _ _ b1 rM
  cases eM
  rcases cC with ⟨q1, q2, q3⟩ | ⟨q1, q2⟩
  · rcases cM with ⟨w1, w2, w3⟩ | ⟨w1, -⟩
    · have hb : Nat.ble k 76 = true := Nat.ble_eq_true_of_le q1
      have s3 := (xgR_1 hb).2.1
      by_cases hik : i < k
      · rw [f2, q3 i hik, w3 i hik, f1]
        exact h3 i (by omega)
      · have ej : i = k + (i - k) := by omega
        rw [f2, ej, q2 (i - k) (by omega), w2 (i - k) (by omega)]
    · omega
  · rcases cM with ⟨w1, -⟩ | ⟨w1, w2⟩
    · omega
    · have hb : Nat.ble k 76 = false := by
        cases hq : Nat.ble k 76 with
        | false => rfl
        | true => exact absurd (Nat.le_of_ble_eq_true hq) (by omega)
      have s3 := (xgR_0 hb).2.1
      rw [f2, w2, f1, ← q2]
      exact h3 i (by omega)
set_option maxRecDepth 6000 in
theorem xendE {n : Nat} {m : Int} (hm : m ≤ 2147483646) (h0m : (0 : Int) ≤ m) {D : Nat} (hD : 3 ≤ D) {ph : pm_H} {y : Int32} (hP : xH xX kK m 0 ph) (hE : (xV ph ∧ xtie ph) ∧ xINV n ph) : ∃ r ph1 ph2, pm_Rd kK false D 123 [.ref 0, .int y] ph (some (.int r), ph1, 0, 0) ∧ pm_Rd kK false D 194 [.ref 170, .int y] ph1 (some (.int r), ph2, 0, 0) ∧ xH xX kK m 0 ph1 ∧ xH xX kK m 0 ph2 ∧ (xV ph2 ∧ xtie ph2) ∧ xINV n ph2 := by
  obtain ⟨t, k, hk, e, h1, h2⟩ := xtie_t hP hE.1.2
  have h3 : ∀ i : Nat, (i : Int) < t.toInt → xget ph 2 i = xget ph 176 i := by
    obtain ⟨t', h1', -, h3⟩ := hE.1.2
    have e := xget_int h1 h1'
    subst e
    exact h3
  by_cases gy : 0 ≤ y.toInt ∧ y.toInt ≤ (k : Int)
  · obtain ⟨fl0, hat0, hfl0⟩ := xO_at (a := 0) hP rfl rfl
    obtain ⟨v0, hv0, hv⟩ := hfl0 0 _ rfl
    have e0 : v0 = .ref 1 := xaO (m' := 0) (A := 1) hP rfl hv
    subst e0
    have hz0 : zc ph 0 0 = some (.ref 1) := by
      unfold zc
      rw [hat0]
      exact hv0
    obtain ⟨fl1, hat1, -⟩ := xO_at (a := 1) hP rfl rfl
    have hz1 : zc ph 1 1 = some (.int t) := by
      unfold zc
      unfold xget at h1
      rw [hat1] at h1 ⊢
      exact h1
    obtain ⟨v, ph1, a1, a2, a3, ⟨u, e1, r, e2, -, -⟩, -⟩ := (xn_123_0 (E := fun p => (xV p ∧ xget p 170 14 = some (.int t) ∧ pm_at p 176 = pm_at ph 176 ∧ pm_at p 2 = pm_at ph 2) ∧ xINV n p) (xHE_and (xHE_and (xHE_sub (by decide +kernel) (by decide +kernel) xHEV) (xHE_and (xHE_g rfl) (xHE_and (xHE_at (i := 6) rfl (by decide)) (xHE_at (i := 45) rfl (by decide))))) (xHE_sub (by decide +kernel) (by decide +kernel) (xHEI n)))) D (by omega) m hm h0m [.ref 0, .int y] ph ⟨xaRi rfl (by decide), xaI (x32_lo y) (x32_hi y), trivial⟩ (fun _ _ h => absurd h List.not_mem_nil) hP ⟨⟨hE.1.1, h2, rfl, rfl⟩, hE.2⟩
    subst e1 e2
    obtain ⟨w1, w2⟩ := zc_endX (y := y) hz0 hz1 (by omega) _ _ a1
    have w2 := Value.int.inj (Option.some.inj w2)
    subst w2
    obtain ⟨fl2, hat2, -⟩ := xO_at (a := 1) a2 rfl rfl
    have s1 : xget ph1 1 1 = some (.int y) := by
      unfold zc at w1
      unfold xget
      rw [hat2] at w1 ⊢
      exact w1
    obtain ⟨fl3, hat3, -⟩ := xO_at (a := 170) a2 rfl rfl
    have hz3 : zc ph1 170 14 = some (.int t) := by
      have h9 := a3.1.2.1
      unfold zc
      unfold xget at h9
      rw [hat3] at h9 ⊢
      exact h9
    obtain ⟨v2, ph2, b1, b2, b3, ⟨u2, e3, q, e4, -, -⟩, -⟩ := (xn_194_0 (E := fun p => (xV p ∧ xget p 1 1 = some (.int y) ∧ pm_at p 2 = pm_at ph1 2 ∧ pm_at p 176 = pm_at ph1 176) ∧ xINV n p) (xHE_and (xHE_and (xHE_sub (by decide +kernel) (by decide +kernel) xHEV) (xHE_and (xHE_gA rfl rfl) (xHE_and (xHE_at (i := 45) rfl (by decide)) (xHE_at (i := 6) rfl (by decide))))) (xHE_sub (by decide +kernel) (by decide +kernel) (xHEI n)))) D (by omega) m hm h0m [.ref 170, .int y] ph1 ⟨xaRi rfl (by decide), xaI (x32_lo y) (x32_hi y), trivial⟩ (fun _ _ h => absurd h List.not_mem_nil) a2 ⟨⟨a3.1.1, s1, rfl, rfl⟩, a3.2⟩
    subst e3 e4
    obtain ⟨w3, w4⟩ := zm_endX (y := y) hz3 (by omega) _ _ b1
    have w4 := Value.int.inj (Option.some.inj w4)
    subst w4
    obtain ⟨fl4, hat4, -⟩ := xO_at (a := 170) b2 rfl rfl
    have z1 : xget ph2 170 14 = some (.int y) := by
      unfold zc at w3
      unfold xget
      rw [hat4] at w3 ⊢
      exact w3
    refine ⟨_, ph1, ph2, a1, b1, a2, b2, ⟨b3.1.1, y, b3.1.2.1, z1, fun i hi => ?_⟩, b3.2⟩
    rw [xget_at b3.1.2.2.1 i, xget_at a3.1.2.2.2 i, xget_at b3.1.2.2.2 i, xget_at a3.1.2.2.1 i]
    exact h3 i (by omega)
  obtain ⟨lo, hi, s0, r0, y1, y2, c1, c2, c3⟩ : ∃ (lo hi : Int) (s0 r0 : Nat), lo ≤ y.toInt ∧ y.toInt ≤ hi ∧ xeC k lo hi s0 r0 = true ∧ xeM k lo hi s0 r0 = true ∧ s0 ≤ k := by
    by_cases g1 : y.toInt < 0
    · exact ⟨_, _, k, 0, x32_lo y, show y.toInt ≤ -1 by omega, List.all_eq_true.mp xeC1 k (List.mem_range.mpr hk), List.all_eq_true.mp xeM1 k (List.mem_range.mpr hk), Nat.le_refl _⟩
    · by_cases g2 : (k : Int) < y.toInt
      · exact ⟨_, _, k, 0, show ((k + 1 : Nat) : Int) ≤ y.toInt by omega, x32_hi y, List.all_eq_true.mp xeC2 k (List.mem_range.mpr hk), List.all_eq_true.mp xeM2 k (List.mem_range.mpr hk), Nat.le_refl _⟩
      · exact absurd (show 0 ≤ y.toInt ∧ y.toInt ≤ (k : Int) from ⟨by omega, by omega⟩) gy
  obtain ⟨v, ph1, a1, a2, a3, ⟨u, e1, r, e2, r1, r2⟩, a5⟩ := (xn_123_t (E := fun p => (xV p ∧ xget p 170 14 = some (.int t) ∧ pm_at p 176 = pm_at ph 176 ∧ pm_at p 2 = pm_at ph 2) ∧ xINV n p) (xHE_and (xHE_and (xHE_sub (by decide +kernel) (by decide +kernel) xHEV) (xHE_and (xHE_g rfl) (xHE_and (xHE_at (i := 6) rfl (by decide)) (xHE_at (i := 45) rfl (by decide))))) (xHE_sub (by decide +kernel) (by decide +kernel) (xHEI n))) c1) D (by omega) m hm h0m [.ref 0, .int y] ph ⟨xaRi rfl (by decide), xaI y1 y2, trivial⟩ (xFk (a := 1) (c := 1) rfl ⟨_, rfl⟩ ⟨rfl, rfl, by decide⟩ h1 (by rw [e]; exact Int.le_refl _) (by rw [e]; exact Int.le_refl _)) hP ⟨⟨hE.1.1, h2, rfl, rfl⟩, hE.2⟩
  subst e1 e2
  obtain ⟨s, s1, s2, s3⟩ := xhF_getA (a := 1) (c := 1) a5 (List.Mem.head _) rfl rfl
  obtain ⟨v2, ph2, b1, b2, b3, ⟨u2, e3, q, e4, q1, q2⟩, b5⟩ := (xn_194_t (E := fun p => (xV p ∧ xget p 1 1 = some (.int s) ∧ pm_at p 2 = pm_at ph1 2 ∧ pm_at p 176 = pm_at ph1 176) ∧ xINV n p) (xHE_and (xHE_and (xHE_sub (by decide +kernel) (by decide +kernel) xHEV) (xHE_and (xHE_gA rfl rfl) (xHE_and (xHE_at (i := 45) rfl (by decide)) (xHE_at (i := 6) rfl (by decide))))) (xHE_sub (by decide +kernel) (by decide +kernel) (xHEI n))) c2) D (by omega) m hm h0m [.ref 170, .int y] ph1 ⟨xaRi rfl (by decide), xaI y1 y2, trivial⟩ (xFk (a := 170) (c := 14) rfl ⟨_, rfl⟩ ⟨rfl, rfl, by decide⟩ a3.1.2.1 (by rw [e]; exact Int.le_refl _) (by rw [e]; exact Int.le_refl _)) a2 ⟨⟨a3.1.1, s1, rfl, rfl⟩, a3.2⟩
  subst e3 e4
  obtain ⟨z, z1, z2, z3⟩ := xhF_getA (a := 170) (c := 14) b5 (List.Mem.head _) rfl rfl
  have s2 : (s0 : Int) ≤ s.toInt := s2
  have s3 : s.toInt ≤ (s0 : Int) := s3
  have z2 : (s0 : Int) ≤ z.toInt := z2
  have z3 : z.toInt ≤ (s0 : Int) := z3
  have es : s = z := Int32.toInt_inj.mp (by omega)
  have r1 : (r0 : Int) ≤ r.toInt := r1
  have r2 : r.toInt ≤ (r0 : Int) := r2
  have q1 : (r0 : Int) ≤ q.toInt := q1
  have q2 : q.toInt ≤ (r0 : Int) := q2
  have er : r = q := Int32.toInt_inj.mp (by omega)
  subst es er
  refine ⟨r, ph1, ph2, a1, b1, a2, b2, ⟨b3.1.1, s, b3.1.2.1, z1, fun i hi => ?_⟩, b3.2⟩
  rw [xget_at b3.1.2.2.1 i, xget_at a3.1.2.2.2 i, xget_at b3.1.2.2.2 i, xget_at a3.1.2.2.1 i]
  exact h3 i (by omega)
