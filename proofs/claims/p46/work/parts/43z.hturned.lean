
/-! place, fewWith, turned, by hand, printed by wip/x/h_turned.py -/
def xgi (ph : pm_H) (a i : Nat) : Int := match xget ph a i with
  | some (.int x) => x.toInt
  | _ => 0
set_option maxRecDepth 6000 in
theorem xsh255 {m : Int} {w k : Nat} {z : Int32} (h0 : 0 ≤ z.toInt) (h1 : z.toInt ≤ 255) : xeG m w z.toInt (xat [(1, some (Int.ofNat 0, Int.ofNat 255))] (k % 1)) := by
  rw [Nat.mod_one]
  exact ⟨h0, h1⟩
set_option maxRecDepth 6000 in
theorem xgi_of {ph : pm_H} {a i : Nat} {x : Int32} (h : xget ph a i = some (.int x)) : xgi ph a i = x.toInt := by unfold xgi; rw [h]
set_option maxRecDepth 6000 in
theorem xgi_eq {ph ph' : pm_H} {a i : Nat} (h : xget ph' a i = xget ph a i) : xgi ph' a i = xgi ph a i := by unfold xgi; rw [h]
set_option maxRecDepth 6000 in
theorem xplace_all : (List.range 9).all (fun p => (List.range 256).all (fun s => decide (((Int32.ofInt (p : Int) <<< ((Int8.ofInt 8).toInt32 &&& 31)) ||| Int32.ofInt (s : Int)).toInt = ((256 * p + s : Nat) : Int)))) = true := by decide +kernel
set_option maxRecDepth 6000 in
theorem xplace_i {p s : Int32} {pn sn : Nat} (hp : p.toInt = (pn : Int)) (hs : s.toInt = (sn : Int)) (h1 : pn < 9) (h2 : sn < 256) : ((p <<< ((Int8.ofInt 8).toInt32 &&& 31)) ||| s).toInt = ((256 * pn + sn : Nat) : Int) := by
  have h := of_decide_eq_true (List.all_eq_true.mp (List.all_eq_true.mp xplace_all pn (List.mem_range.mpr h1)) sn (List.mem_range.mpr h2))
  have e1 : Int32.ofInt (pn : Int) = p := by rw [← hp]; exact Int32.ofInt_toInt p
  have e2 : Int32.ofInt (sn : Int) = s := by rw [← hs]; exact Int32.ofInt_toInt s
  rw [e1, e2] at h
  exact h
set_option maxRecDepth 6000 in
theorem xshl9_all : (List.range 9).all (fun k => decide ((Int32.ofInt 1 <<< (Int32.ofInt (k : Int) &&& 31)).toInt = ((2 ^ k : Nat) : Int))) = true := by decide +kernel
set_option maxRecDepth 6000 in
theorem ti_shl9 {k : Int32} {kn : Nat} (hk : k.toInt = (kn : Int)) (h : kn < 9) : (Int32.ofInt 1 <<< (k &&& 31)).toInt = ((2 ^ kn : Nat) : Int) := by
  have h9 := of_decide_eq_true (List.all_eq_true.mp xshl9_all kn (List.mem_range.mpr h))
  have e2 : Int32.ofInt (kn : Int) = k := by rw [← hk]; exact Int32.ofInt_toInt k
  rw [e2] at h9
  exact h9
set_option maxRecDepth 6000 in
theorem xpow9 {t : Nat} (h : t ≤ 8) : 1 ≤ 2 ^ t ∧ 2 ^ t ≤ 256 := ⟨Nat.two_pow_pos t, (Nat.pow_le_pow_right (by decide) h : 2 ^ t ≤ 2 ^ 8)⟩
set_option maxRecDepth 6000 in
theorem xor_ones {a b t : Nat} (ha : a ≤ 2 ^ t - 1) (hb : b ≤ 2 ^ t - 1) : a ||| b ≤ 2 ^ t - 1 := by
  have := Nat.two_pow_pos t
  have h := Nat.or_lt_two_pow (x := a) (y := b) (n := t) (by omega) (by omega)
  omega

set_option maxRecDepth 6000 in
theorem xplace {D pn sn : Nat} {p s : Int32} {ph : pm_H} (hp : p.toInt = (pn : Int)) (hs : s.toInt = (sn : Int)) (h1 : pn < 9) (h2 : sn < 256) : ∃ v ph', pm_Rd kK false (D + 1) 274 [.int p, .int s] ph (v, ph', 0, 0) ∧ (∃ z : Int32, v = some (.int z) ∧ ph' = ph ∧ z.toInt = ((256 * pn + sn : Nat) : Int)) := by
  refine xRd_mk (nl := 2) rfl rfl ?_
  show xGT kK D 274 _ (0, [some (.int p), some (.int s)], [], ph, 0, 0)
  refine gt_load (v := .int p) (n := 1) (ykc_274 (e := (2, .iload_n kF0, 0)) rfl) rfl rfl ?_
  refine gt_push (v := .int ((Int8.ofInt 8).toInt32)) (n := 2) (ykc_274 (e := (1, .bipush 8, 0)) rfl) rfl rfl ?_
  refine gt_alu (st' := [.int (p <<< (((Int8.ofInt 8).toInt32) &&& 31))]) (ykc_274 (e := (0, .ishl, 0)) rfl) rfl rfl ?_
  refine gt_load (v := .int s) (n := 1) (ykc_274 (e := (2, .iload_n kF1, 0)) rfl) rfl rfl ?_
  obtain ⟨z, e_z, h_z⟩ : ∃ zq : Int32, (p <<< (((Int8.ofInt 8).toInt32) &&& 31)) ||| s = zq ∧ zq.toInt = ((256 * pn + sn : Nat) : Int) := ⟨_, rfl, xplace_i hp hs h1 h2⟩
  refine gt_alu (st' := [.int z]) (ykc_274 (e := (0, .ior, 0)) rfl) (by rw [← e_z]; exact rfl) rfl ?_
  refine gt_ret (ykc_274 (e := (7, .ireturn, 0)) rfl) rfl ?_
  exact ⟨z, rfl, rfl, h_z⟩

/-- how few more if one is turned to v -/
def xFW (ph : pm_H) (p s v : Nat) : Int := xgi ph 191 (256 * (p + 1) + (s ||| (xgi ph 190 (8 * p + v)).toNat)) + (if (v : Int) = xgi ph 174 (8 + p) then 0 else 1)
set_option maxRecDepth 6000 in
theorem xfewWith {m : Int} {w D pn sn vn A : Nat} {p s v : Int32} {ph : pm_H} (hP : xH xX kK m w ph) (hp : p.toInt = (pn : Int)) (hs : s.toInt = (sn : Int)) (hvn : v.toInt = (vn : Int)) (h1 : pn < 8) (h2 : sn ≤ A) (h3 : vn < 8) (hA : A ≤ 255) (hsx : sn ||| (xgi ph 190 (8 * pn + vn)).toNat ≤ A) (hfb : 0 ≤ xgi ph 191 (256 * (pn + 1) + (sn ||| (xgi ph 190 (8 * pn + vn)).toNat)) ∧ xgi ph 191 (256 * (pn + 1) + (sn ||| (xgi ph 190 (8 * pn + vn)).toNat)) ≤ 1000000) : ∃ r ph', pm_Rd kK false (D + 1 + 1) 275 [.ref 170, .int p, .int s, .int v] ph (r, ph', 0, 0) ∧ (∃ z : Int32, r = some (.int z) ∧ ph' = ph ∧ z.toInt = xFW ph pn sn vn) := by
  obtain ⟨lS, hS, -⟩ := xA_at (A := 190) hP rfl rfl
  obtain ⟨lF, hF, -⟩ := xA_at (A := 191) hP rfl rfl
  obtain ⟨lN, hN, -⟩ := xA_at (A := 174) hP rfl rfl
  have hAS : ∃ l, pm_at ph 190 = some (.inl (0, .inl l)) := ⟨lS, hS⟩
  have hAF : ∃ l, pm_at ph 191 = some (.inl (0, .inl l)) := ⟨lF, hF⟩
  have hAN : ∃ l, pm_at ph 174 = some (.inl (0, .inl l)) := ⟨lN, hN⟩
  obtain ⟨x, hx, bx⟩ := xA_el (A := 190) (k := 8 * pn + vn) hP rfl rfl (by omega)
  have bx0 : 0 ≤ x.toInt := by
    have e1 : (8 * pn + vn) % 1 = 0 := Nat.mod_one _
    rw [e1] at bx
    exact bx.1
  obtain ⟨xn, hxn⟩ : ∃ n : Nat, x.toInt = (n : Int) := ⟨x.toInt.toNat, by omega⟩
  have ex : (xgi ph 190 (8 * pn + vn)).toNat = xn := by rw [xgi_of hx]; omega
  rw [ex] at hsx hfb
  obtain ⟨y, hy, -⟩ := xA_el (A := 191) (k := 256 * (pn + 1) + (sn ||| xn)) hP rfl rfl (by omega)
  rw [xgi_of hy] at hfb
  obtain ⟨f, hf, -⟩ := xA_el (A := 174) (k := 8 + pn) hP rfl rfl (by omega)
  have hFW : xFW ph pn sn vn = y.toInt + (if (vn : Int) = f.toInt then 0 else 1) := by
    unfold xFW
    rw [ex, xgi_of hy, xgi_of hf]
  refine xRd_mk (nl := 4) rfl rfl ?_
  show xGT kK (D + 1) 275 _ (0, [some (.ref 170), some (.int p), some (.int s), some (.int v)], [], ph, 0, 0)
  refine gt_load (v := .ref 170) (n := 1) (ykc_275 (e := (2, .aload_n kF0, 0)) rfl) rfl rfl ?_
  refine gt_gfr (A := 191) (ykc_275 (e := (5, .getfield 92, 0)) rfl) rfl hP rfl rfl rfl ?_
  refine gt_load (v := .int p) (n := 1) (ykc_275 (e := (2, .iload_n kF1, 0)) rfl) rfl rfl ?_
  refine gt_alu (st' := [.int (Int32.ofInt 1), .int p, .ref 191]) (ykc_275 (e := (0, .iconst 1, 0)) rfl) rfl rfl ?_
  obtain ⟨p1, e_p1, h_p1⟩ : ∃ zq : Int32, p + (Int32.ofInt 1) = zq ∧ zq.toInt = ((pn + 1 : Nat) : Int) := ⟨_, rfl, by rw [ti_add (by rw [xi1]; omega) (by rw [xi1]; omega), xi1, hp]; omega⟩
  refine gt_alu (st' := [.int p1, .ref 191]) (ykc_275 (e := (0, .iadd, 0)) rfl) (by rw [← e_p1]; exact rfl) rfl ?_
  refine gt_load (v := .int s) (n := 1) (ykc_275 (e := (2, .iload_n kF2, 0)) rfl) rfl rfl ?_
  refine gt_load (v := .ref 170) (n := 1) (ykc_275 (e := (2, .aload_n kF0, 0)) rfl) rfl rfl ?_
  refine gt_gfr (A := 190) (ykc_275 (e := (5, .getfield 89, 0)) rfl) rfl hP rfl rfl rfl ?_
  refine gt_push (v := .int ((Int8.ofInt 8).toInt32)) (n := 2) (ykc_275 (e := (1, .bipush 8, 0)) rfl) rfl rfl ?_
  refine gt_load (v := .int p) (n := 1) (ykc_275 (e := (2, .iload_n kF1, 0)) rfl) rfl rfl ?_
  obtain ⟨m8, e_m8, h_m8⟩ : ∃ zq : Int32, ((Int8.ofInt 8).toInt32) * p = zq ∧ zq.toInt = 8 * p.toInt := ⟨_, rfl, by rw [ti_mul (by rw [xc8]; omega) (by rw [xc8]; omega), xc8]⟩
  refine gt_alu (st' := [.int m8, .ref 190, .int s, .int p1, .ref 191]) (ykc_275 (e := (0, .imul, 0)) rfl) (by rw [← e_m8]; exact rfl) rfl ?_
  refine gt_load (v := .int v) (n := 1) (ykc_275 (e := (2, .iload_n kF3, 0)) rfl) rfl rfl ?_
  obtain ⟨ix, e_ix, h_ix⟩ : ∃ zq : Int32, m8 + v = zq ∧ zq.toInt = ((8 * pn + vn : Nat) : Int) := ⟨_, rfl, by rw [ti_add (by rw [h_m8]; omega) (by rw [h_m8]; omega), h_m8]; omega⟩
  refine gt_alu (st' := [.int ix, .ref 190, .int s, .int p1, .ref 191]) (ykc_275 (e := (0, .iadd, 0)) rfl) (by rw [← e_ix]; exact rfl) rfl ?_
  refine gt_ialk (y := x) (ykc_275 (e := (5, .iaload, 0)) rfl) hx hAS (by omega) rfl ?_
  obtain ⟨sx, e_sx, h_sx⟩ : ∃ zq : Int32, s ||| x = zq ∧ zq.toInt = ((sn ||| xn : Nat) : Int) := ⟨_, rfl, ti_or hs hxn⟩
  refine gt_alu (st' := [.int sx, .int p1, .ref 191]) (ykc_275 (e := (0, .ior, 0)) rfl) (by rw [← e_sx]; exact rfl) rfl ?_
  refine gt_cs (n := 2) (as := [.int p1, .int sx]) (r := [.ref 191]) (ykc_275 (e := (6, .invokestatic 437, 0)) rfl) rfl rfl rfl rfl (xplace (D := D) h_p1 h_sx (by omega) (by omega)) rfl (fun vv ph1 hv => ?_)
  obtain ⟨pl, e9, e8, pl_s⟩ := hv; subst e9; have e7 := e8.symm; subst e7
  change xGT kK (D + 1) 275 _ (23, [some (.ref 170), some (.int p), some (.int s), some (.int v)], [.int pl, .ref 191], ph, 0, 0)
  refine gt_ialk (y := y) (ykc_275 (e := (5, .iaload, 0)) rfl) hy hAF (by omega) rfl ?_
  refine gt_load (v := .int v) (n := 1) (ykc_275 (e := (2, .iload_n kF3, 0)) rfl) rfl rfl ?_
  refine gt_load (v := .ref 170) (n := 1) (ykc_275 (e := (2, .aload_n kF0, 0)) rfl) rfl rfl ?_
  refine gt_gfr (A := 174) (ykc_275 (e := (5, .getfield 41, 0)) rfl) rfl hP rfl rfl rfl ?_
  refine gt_push (v := .int ((Int8.ofInt 8).toInt32)) (n := 2) (ykc_275 (e := (1, .bipush 8, 0)) rfl) rfl rfl ?_
  refine gt_load (v := .int p) (n := 1) (ykc_275 (e := (2, .iload_n kF1, 0)) rfl) rfl rfl ?_
  obtain ⟨q8, e_q8, h_q8⟩ : ∃ zq : Int32, ((Int8.ofInt 8).toInt32) + p = zq ∧ zq.toInt = 8 + p.toInt := ⟨_, rfl, by rw [ti_add (by rw [xc8]; omega) (by rw [xc8]; omega), xc8]⟩
  refine gt_alu (st' := [.int q8, .ref 174, .int v, .int y]) (ykc_275 (e := (0, .iadd, 0)) rfl) (by rw [← e_q8]; exact rfl) rfl ?_
  refine gt_ialk (y := f) (ykc_275 (e := (5, .iaload, 0)) rfl) hf hAN (by omega) rfl ?_
  by_cases hvf : v.toInt = f.toInt
  · refine gt_ieq_t (ykc_275 (e := (4, .if_icmp .eq 7, 41)) rfl) hvf ?_
    refine gt_alu (st' := [.int (Int32.ofInt 0), .int y]) (ykc_275 (e := (0, .iconst 0, 0)) rfl) rfl rfl ?_
    refine gt_cs (n := 1) (as := [.int (Int32.ofInt 0)]) (r := [.int y]) (ykc_275 (e := (6, .invokestatic 154, 0)) rfl) rfl rfl rfl rfl (xflag (D := D)) rfl (fun vv ph102 hv => ?_)
    obtain ⟨fl, e9, e8, fl_s⟩ := hv; subst e9; have e7 := e8.symm; subst e7
    have fl_0 : fl.toInt = 0 := by rw [fl_s, if_pos (by decide)]
    change xGT kK (D + 1) 275 _ (45, [some (.ref 170), some (.int p), some (.int s), some (.int v)], [.int fl, .int y], ph, 0, 0)
    obtain ⟨z, e_z, h_z⟩ : ∃ zq : Int32, y + fl = zq ∧ zq.toInt = y.toInt := ⟨_, rfl, by rw [ti_add (by rw [fl_0]; omega) (by rw [fl_0]; omega), fl_0]; omega⟩
    refine gt_alu (st' := [.int z]) (ykc_275 (e := (0, .iadd, 0)) rfl) (by rw [← e_z]; exact rfl) rfl ?_
    refine gt_ret (ykc_275 (e := (7, .ireturn, 0)) rfl) rfl ?_
    exact ⟨z, rfl, rfl, by rw [hFW, if_pos (by omega), h_z]; omega⟩
  · refine gt_ieq_f (ykc_275 (e := (4, .if_icmp .eq 7, 41)) rfl) hvf rfl ?_
    refine gt_alu (st' := [.int (Int32.ofInt 1), .int y]) (ykc_275 (e := (0, .iconst 1, 0)) rfl) rfl rfl ?_
    refine gt_br (pc' := 42) (st' := [.int (Int32.ofInt 1), .int y]) (ykc_275 (e := (4, .goto 4, 42)) rfl) rfl ?_
    refine gt_cs (n := 1) (as := [.int (Int32.ofInt 1)]) (r := [.int y]) (ykc_275 (e := (6, .invokestatic 154, 0)) rfl) rfl rfl rfl rfl (xflag (D := D)) rfl (fun vv ph102 hv => ?_)
    obtain ⟨fl, e9, e8, fl_s⟩ := hv; subst e9; have e7 := e8.symm; subst e7
    have fl_1 : fl.toInt = 1 := by rw [fl_s, if_neg (by decide)]
    change xGT kK (D + 1) 275 _ (45, [some (.ref 170), some (.int p), some (.int s), some (.int v)], [.int fl, .int y], ph, 0, 0)
    obtain ⟨z, e_z, h_z⟩ : ∃ zq : Int32, y + fl = zq ∧ zq.toInt = y.toInt + 1 := ⟨_, rfl, by rw [ti_add (by rw [fl_1]; omega) (by rw [fl_1]; omega), fl_1]⟩
    refine gt_alu (st' := [.int z]) (ykc_275 (e := (0, .iadd, 0)) rfl) (by rw [← e_z]; exact rfl) rfl ?_
    refine gt_ret (ykc_275 (e := (7, .ireturn, 0)) rfl) rfl ?_
    exact ⟨z, rfl, rfl, by rw [hFW, if_neg (by omega), h_z]⟩

set_option maxRecDepth 6000 in
theorem xHE_sameT {X : xD} {E : pm_H → Prop} {gA : List Nat} {gF : List (Nat × Nat)} {ph : pm_H} (hE : xHE X gA gF E) : xHE X gA gF (fun p => E p ∧ xSame X gA gF ph p) := fun p p' hs hp => ⟨hE p p' hs hp.1, fun a i ha hi => (hp.2.1 a i ha hi).trans (hs.1 a i ha hi), fun a i k ha hi => (hp.2.2 a i k ha hi).trans (hs.2 a i k ha hi)⟩
set_option maxRecDepth 6000 in
theorem xwst {E : pm_H → Prop} (hE : xHE xX xgA_G96 xgF_G96 E) (hV : ∀ p, E p → xV p) (hN : ∀ p, E p → xPG p) {m : Int} (hm : m ≤ 2147483646) (h0m : (0 : Int) ≤ m) {D tn : Nat} (hD : 13 ≤ D) {ph : pm_H} (hP : xH xX kK m 0 ph) (g9 : E ph) {p f T : Int32} (hp0 : 0 ≤ p.toInt) (hp1 : p.toInt ≤ 7) (hT : xget ph 170 6 = some (.int T)) (ht : T.toInt = (tn : Int)) (ht8 : tn ≤ 8) : ∃ v ph', pm_Rd kK false D 273 [.ref 170, .int p, .int f] ph (v, ph', 0, 0) ∧ (∃ z : Int32, v = some (.int z) ∧ 0 ≤ z.toInt ∧ z.toInt ≤ ((2 ^ tn - 1 : Nat) : Int) ∧ xH xX kK m 0 ph' ∧ E ph' ∧ xSame xX xgA_G8 xgF_G8 ph ph') := by
  have hE2 : xHE xX xgA_G8 xgF_G8 E := xHE_sub (by decide +kernel) (by decide +kernel) hE
  rcases (show tn = 0 ∨ tn = 1 ∨ tn = 2 ∨ tn = 3 ∨ tn = 4 ∨ tn = 5 ∨ tn = 6 ∨ tn = 7 ∨ tn = 8 by omega) with h | h | h | h | h | h | h | h | h
  · subst h
    obtain ⟨v, ph', k1, k2, k3, ⟨u, e, z, e2, z0, z1⟩, -⟩ := xcon_go (w := 0) (xn_273_1 (E := fun q => E q ∧ xSame xX xgA_G8 xgF_G8 ph q) (xHE_sameT hE2) (fun p h => hV p h.1) (fun p h => hN p h.1)) rfl rfl rfl rfl hD hm h0m (Nat.le_refl _) (vs := [.ref 170, .int p, .int f]) ⟨xaRi rfl (by decide), xaI hp0 hp1, xaT, trivial⟩ (xF1 (by decide) hT (by rw [ht]; exact Int.le_refl _) (by rw [ht]; exact Int.le_refl _)) hP ⟨g9, fun _ _ _ _ => rfl, fun _ _ _ _ _ => rfl⟩
    exact ⟨v, ph', k1, z, by rw [e, e2], z0, z1, k2, k3.1, k3.2⟩
  · subst h
    obtain ⟨v, ph', k1, k2, k3, ⟨u, e, z, e2, z0, z1⟩, -⟩ := xcon_go (w := 0) (xn_273_2 (E := fun q => E q ∧ xSame xX xgA_G8 xgF_G8 ph q) (xHE_sameT hE2) (fun p h => hV p h.1) (fun p h => hN p h.1)) rfl rfl rfl rfl hD hm h0m (Nat.le_refl _) (vs := [.ref 170, .int p, .int f]) ⟨xaRi rfl (by decide), xaI hp0 hp1, xaT, trivial⟩ (xF1 (by decide) hT (by rw [ht]; exact Int.le_refl _) (by rw [ht]; exact Int.le_refl _)) hP ⟨g9, fun _ _ _ _ => rfl, fun _ _ _ _ _ => rfl⟩
    exact ⟨v, ph', k1, z, by rw [e, e2], z0, z1, k2, k3.1, k3.2⟩
  · subst h
    obtain ⟨v, ph', k1, k2, k3, ⟨u, e, z, e2, z0, z1⟩, -⟩ := xcon_go (w := 0) (xn_273_3 (E := fun q => E q ∧ xSame xX xgA_G8 xgF_G8 ph q) (xHE_sameT hE2) (fun p h => hV p h.1) (fun p h => hN p h.1)) rfl rfl rfl rfl hD hm h0m (Nat.le_refl _) (vs := [.ref 170, .int p, .int f]) ⟨xaRi rfl (by decide), xaI hp0 hp1, xaT, trivial⟩ (xF1 (by decide) hT (by rw [ht]; exact Int.le_refl _) (by rw [ht]; exact Int.le_refl _)) hP ⟨g9, fun _ _ _ _ => rfl, fun _ _ _ _ _ => rfl⟩
    exact ⟨v, ph', k1, z, by rw [e, e2], z0, z1, k2, k3.1, k3.2⟩
  · subst h
    obtain ⟨v, ph', k1, k2, k3, ⟨u, e, z, e2, z0, z1⟩, -⟩ := xcon_go (w := 0) (xn_273_4 (E := fun q => E q ∧ xSame xX xgA_G8 xgF_G8 ph q) (xHE_sameT hE2) (fun p h => hV p h.1) (fun p h => hN p h.1)) rfl rfl rfl rfl hD hm h0m (Nat.le_refl _) (vs := [.ref 170, .int p, .int f]) ⟨xaRi rfl (by decide), xaI hp0 hp1, xaT, trivial⟩ (xF1 (by decide) hT (by rw [ht]; exact Int.le_refl _) (by rw [ht]; exact Int.le_refl _)) hP ⟨g9, fun _ _ _ _ => rfl, fun _ _ _ _ _ => rfl⟩
    exact ⟨v, ph', k1, z, by rw [e, e2], z0, z1, k2, k3.1, k3.2⟩
  · subst h
    obtain ⟨v, ph', k1, k2, k3, ⟨u, e, z, e2, z0, z1⟩, -⟩ := xcon_go (w := 0) (xn_273_5 (E := fun q => E q ∧ xSame xX xgA_G8 xgF_G8 ph q) (xHE_sameT hE2) (fun p h => hV p h.1) (fun p h => hN p h.1)) rfl rfl rfl rfl hD hm h0m (Nat.le_refl _) (vs := [.ref 170, .int p, .int f]) ⟨xaRi rfl (by decide), xaI hp0 hp1, xaT, trivial⟩ (xF1 (by decide) hT (by rw [ht]; exact Int.le_refl _) (by rw [ht]; exact Int.le_refl _)) hP ⟨g9, fun _ _ _ _ => rfl, fun _ _ _ _ _ => rfl⟩
    exact ⟨v, ph', k1, z, by rw [e, e2], z0, z1, k2, k3.1, k3.2⟩
  · subst h
    obtain ⟨v, ph', k1, k2, k3, ⟨u, e, z, e2, z0, z1⟩, -⟩ := xcon_go (w := 0) (xn_273_6 (E := fun q => E q ∧ xSame xX xgA_G8 xgF_G8 ph q) (xHE_sameT hE2) (fun p h => hV p h.1) (fun p h => hN p h.1)) rfl rfl rfl rfl hD hm h0m (Nat.le_refl _) (vs := [.ref 170, .int p, .int f]) ⟨xaRi rfl (by decide), xaI hp0 hp1, xaT, trivial⟩ (xF1 (by decide) hT (by rw [ht]; exact Int.le_refl _) (by rw [ht]; exact Int.le_refl _)) hP ⟨g9, fun _ _ _ _ => rfl, fun _ _ _ _ _ => rfl⟩
    exact ⟨v, ph', k1, z, by rw [e, e2], z0, z1, k2, k3.1, k3.2⟩
  · subst h
    obtain ⟨v, ph', k1, k2, k3, ⟨u, e, z, e2, z0, z1⟩, -⟩ := xcon_go (w := 0) (xn_273_7 (E := fun q => E q ∧ xSame xX xgA_G8 xgF_G8 ph q) (xHE_sameT hE2) (fun p h => hV p h.1) (fun p h => hN p h.1)) rfl rfl rfl rfl hD hm h0m (Nat.le_refl _) (vs := [.ref 170, .int p, .int f]) ⟨xaRi rfl (by decide), xaI hp0 hp1, xaT, trivial⟩ (xF1 (by decide) hT (by rw [ht]; exact Int.le_refl _) (by rw [ht]; exact Int.le_refl _)) hP ⟨g9, fun _ _ _ _ => rfl, fun _ _ _ _ _ => rfl⟩
    exact ⟨v, ph', k1, z, by rw [e, e2], z0, z1, k2, k3.1, k3.2⟩
  · subst h
    obtain ⟨v, ph', k1, k2, k3, ⟨u, e, z, e2, z0, z1⟩, -⟩ := xcon_go (w := 0) (xn_273_8 (E := fun q => E q ∧ xSame xX xgA_G8 xgF_G8 ph q) (xHE_sameT hE2) (fun p h => hV p h.1) (fun p h => hN p h.1)) rfl rfl rfl rfl hD hm h0m (Nat.le_refl _) (vs := [.ref 170, .int p, .int f]) ⟨xaRi rfl (by decide), xaI hp0 hp1, xaT, trivial⟩ (xF1 (by decide) hT (by rw [ht]; exact Int.le_refl _) (by rw [ht]; exact Int.le_refl _)) hP ⟨g9, fun _ _ _ _ => rfl, fun _ _ _ _ _ => rfl⟩
    exact ⟨v, ph', k1, z, by rw [e, e2], z0, z1, k2, k3.1, k3.2⟩
  · subst h
    obtain ⟨v, ph', k1, k2, k3, ⟨u, e, z, e2, z0, z1⟩, -⟩ := xcon_go (w := 0) (xn_273_9 (E := fun q => E q ∧ xSame xX xgA_G8 xgF_G8 ph q) (xHE_sameT hE2) (fun p h => hV p h.1) (fun p h => hN p h.1)) rfl rfl rfl rfl hD hm h0m (Nat.le_refl _) (vs := [.ref 170, .int p, .int f]) ⟨xaRi rfl (by decide), xaI hp0 hp1, xaT, trivial⟩ (xF1 (by decide) hT (by rw [ht]; exact Int.le_refl _) (by rw [ht]; exact Int.le_refl _)) hP ⟨g9, fun _ _ _ _ => rfl, fun _ _ _ _ _ => rfl⟩
    exact ⟨v, ph', k1, z, by rw [e, e2], z0, z1, k2, k3.1, k3.2⟩
set_option maxRecDepth 6000 in
theorem xsame_fT {gA : List Nat} {gF : List (Nat × Nat)} {ph p : pm_H} {a i k : Nat} (h : xSame xX gA gF ph p) (ho : xown a = some i) (hk : xmemP gF i k = true) : xget p a k = xget ph a k := (h.2 a i k ho (xmemP_in hk)).symm
set_option maxRecDepth 6000 in
theorem xsame_aT {gA : List Nat} {gF : List (Nat × Nat)} {ph p : pm_H} {a i : Nat} (h : xSame xX gA gF ph p) (ho : xown a = some i) (hk : xmemN gA i = true) : pm_at p a = pm_at ph a := (h.1 a i ho (xmemN_in hk)).symm
set_option maxRecDepth 6000 in
theorem xget_atT {ph p : pm_H} {a : Nat} (h : pm_at p a = pm_at ph a) (i : Nat) : xget p a i = xget ph a i := by unfold xget; rw [h]

set_option maxRecDepth 6000 in
theorem xtur_v {E : pm_H → Prop} (hE : xHE xX xgA_G96 xgF_G96 E) {m : Int} (hm : m ≤ 2147483646) (h0m : (0 : Int) ≤ m) {D pN tn : Nat} {P T : Int32} {Q : Option Value → pm_H → Prop} (hPn : P.toInt = (pN : Int)) (hp8 : pN ≤ 8) (ht : T.toInt = (tn : Int)) (ht8 : tn ≤ 8) (hV : ∀ p, E p → xV p) (hN : ∀ p, E p → xPG p) (hD : 13 ≤ D) {p : Int32} {pn : Nat} (hpn : p.toInt = (pn : Int)) (hpP : pn < pN) {o3 o4 o5 : Option Value} (kk : ∀ (p1 v : Int32) (ph : pm_H), p1.toInt = p.toInt + 1 → xH xX kK m 0 ph → E ph → xget ph 170 5 = some (.int P) → xget ph 170 6 = some (.int T) → (∀ i, i < 8 * (pn + 1) → 0 ≤ xgi ph 190 i ∧ xgi ph 190 i ≤ ((2 ^ tn - 1 : Nat) : Int)) → xGT kK D 276 Q (7, [some (.ref 170), some (.int p1), some (.int v), o3, o4, o5], [], ph, 0, 0)) : ∀ (s : Nat) (v : Int32) (vn : Nat) (ph : pm_H), xH xX kK m 0 ph → E ph → xget ph 170 5 = some (.int P) → xget ph 170 6 = some (.int T) → (∀ i, i < 8 * pn + vn → 0 ≤ xgi ph 190 i ∧ xgi ph 190 i ≤ ((2 ^ tn - 1 : Nat) : Int)) → v.toInt = (vn : Int) → vn + s = 8 → xGT kK D 276 Q (17, [some (.ref 170), some (.int p), some (.int v), o3, o4, o5], [], ph, 0, 0) := by
  intro s
  induction s with
  | zero =>
    intro v vn ph hP g9 hPe hTe hsh hvn hvs
    refine gt_load (v := .int v) (n := 1) (ykc_276 (e := (2, .iload_n kF2, 0)) rfl) rfl rfl ?_
    refine gt_push (v := .int ((Int8.ofInt 8).toInt32)) (n := 2) (ykc_276 (e := (1, .bipush 8, 0)) rfl) rfl rfl ?_
    refine gt_ige_t (ykc_276 (e := (4, .if_icmp .ge 26, 46)) rfl) (by rw [xc8]; omega) ?_
    obtain ⟨p1, e_p1, h_p1⟩ : ∃ zq : Int32, p + Int32.ofInt 1 = zq ∧ zq.toInt = p.toInt + 1 := ⟨_, rfl, by rw [ti_add (by rw [xi1]; omega) (by rw [xi1]; omega), xi1]⟩
    refine gt_store (L' := [some (.ref 170), some (.int p1), some (.int v), o3, o4, o5]) (st' := []) (n := 3) (ykc_276 (e := (3, .iinc 1 1, 0)) rfl) (by rw [← e_p1]; rfl) rfl ?_
    refine gt_br (pc' := 7) (st' := []) (ykc_276 (e := (4, .goto (-42), 7)) rfl) rfl ?_
    exact kk p1 _ ph h_p1 hP g9 hPe hTe (fun i hi => hsh i (by omega))
  | succ s ih =>
    intro v vn ph hP g9 hPe hTe hsh hvn hvs
    refine gt_load (v := .int v) (n := 1) (ykc_276 (e := (2, .iload_n kF2, 0)) rfl) rfl rfl ?_
    refine gt_push (v := .int ((Int8.ofInt 8).toInt32)) (n := 2) (ykc_276 (e := (1, .bipush 8, 0)) rfl) rfl rfl ?_
    refine gt_ige_f (ykc_276 (e := (4, .if_icmp .ge 26, 46)) rfl) (by rw [xc8]; omega) rfl ?_
    refine gt_load (v := .ref 170) (n := 1) (ykc_276 (e := (2, .aload_n kF0, 0)) rfl) rfl rfl ?_
    refine gt_gfr (A := 190) (ykc_276 (e := (5, .getfield 89, 0)) rfl) rfl hP rfl rfl rfl ?_
    refine gt_push (v := .int ((Int8.ofInt 8).toInt32)) (n := 2) (ykc_276 (e := (1, .bipush 8, 0)) rfl) rfl rfl ?_
    refine gt_load (v := .int p) (n := 1) (ykc_276 (e := (2, .iload_n kF1, 0)) rfl) rfl rfl ?_
    obtain ⟨m8, e_m8, h_m8⟩ : ∃ zq : Int32, ((Int8.ofInt 8).toInt32) * p = zq ∧ zq.toInt = 8 * p.toInt := ⟨_, rfl, by rw [ti_mul (by rw [xc8]; omega) (by rw [xc8]; omega), xc8]⟩
    refine gt_alu (st' := [.int m8, .ref 190]) (ykc_276 (e := (0, .imul, 0)) rfl) (by rw [← e_m8]; exact rfl) rfl ?_
    refine gt_load (v := .int v) (n := 1) (ykc_276 (e := (2, .iload_n kF2, 0)) rfl) rfl rfl ?_
    obtain ⟨ix, e_ix, h_ix⟩ : ∃ zq : Int32, m8 + v = zq ∧ zq.toInt = ((8 * pn + vn : Nat) : Int) := ⟨_, rfl, by rw [ti_add (by rw [h_m8]; omega) (by rw [h_m8]; omega), h_m8]; omega⟩
    refine gt_alu (st' := [.int ix, .ref 190]) (ykc_276 (e := (0, .iadd, 0)) rfl) (by rw [← e_ix]; exact rfl) rfl ?_
    refine gt_load (v := .ref 170) (n := 1) (ykc_276 (e := (2, .aload_n kF0, 0)) rfl) rfl rfl ?_
    refine gt_load (v := .int p) (n := 1) (ykc_276 (e := (2, .iload_n kF1, 0)) rfl) rfl rfl ?_
    refine gt_load (v := .int v) (n := 1) (ykc_276 (e := (2, .iload_n kF2, 0)) rfl) rfl rfl ?_
    refine gt_cv (n := 2) (as := [.ref 170, .int p, .int v]) (r := [.int ix, .ref 190]) (ykc_276 (e := (6, .invokevirtual 440, 0)) rfl) rfl hP rfl rfl rfl (xwst hE hV hN hm h0m hD hP g9 (by omega) (by omega) hTe ht ht8) rfl (fun vv ph101 hv => ?_)
    obtain ⟨z, e9, z0, z1, hP1, g91, hsm⟩ := hv; subst e9
    change xGT kK D 276 Q (39, [some (.ref 170), some (.int p), some (.int v), o3, o4, o5], [.int z, .int ix, .ref 190], ph101, 0, 0)
    refine gt_ias (A := 190) (y := z) (x := ix) (ykc_276 (e := (5, .iastore, 0)) rfl) hP1 rfl rfl (by omega) (by omega) (xsh255 z0 (by have := xpow9 ht8; omega)) rfl (fun ph102 hP102 u102 => ?_)
    obtain ⟨v1, e_v1, h_v1⟩ : ∃ zq : Int32, v + Int32.ofInt 1 = zq ∧ zq.toInt = v.toInt + 1 := ⟨_, rfl, by rw [ti_add (by rw [xi1]; omega) (by rw [xi1]; omega), xi1]⟩
    refine gt_store (L' := [some (.ref 170), some (.int p), some (.int v1), o3, o4, o5]) (st' := []) (n := 3) (ykc_276 (e := (3, .iinc 2 1, 0)) rfl) (by rw [← e_v1]; rfl) rfl ?_
    refine gt_br (pc' := 17) (st' := []) (ykc_276 (e := (4, .goto (-26), 17)) rfl) rfl ?_
    refine ih v1 (vn + 1) _ hP102 (xu1_E hE u102 rfl rfl rfl g91) ((u102.2.1 170 5 (fun q => absurd q.1 (by decide))).trans ((xsame_fT (a := 170) (i := 0) (k := 5) hsm rfl rfl).trans hPe)) ((u102.2.1 170 6 (fun q => absurd q.1 (by decide))).trans ((xsame_fT (a := 170) (i := 0) (k := 6) hsm rfl rfl).trans hTe)) (fun i hi => ?_) (by omega) (by omega)
    by_cases ei : i = ix.toInt.toNat
    · subst ei
      rw [xgi_of u102.1]
      exact ⟨z0, z1⟩
    · rw [xgi_eq (u102.2.1 190 i (fun q => ei q.2)), xgi_eq (xget_atT (xsame_aT (a := 190) (i := 20) hsm rfl rfl) i)]
      exact hsh i (by omega)

set_option maxRecDepth 6000 in
theorem xtur_p {E : pm_H → Prop} (hE : xHE xX xgA_G96 xgF_G96 E) {m : Int} (hm : m ≤ 2147483646) (h0m : (0 : Int) ≤ m) {D pN tn : Nat} {P T : Int32} {Q : Option Value → pm_H → Prop} (hPn : P.toInt = (pN : Int)) (hp8 : pN ≤ 8) (ht : T.toInt = (tn : Int)) (ht8 : tn ≤ 8) (hV : ∀ p, E p → xV p) (hN : ∀ p, E p → xPG p) (hD : 13 ≤ D) {o3 o4 o5 : Option Value} (kk : ∀ (p : Int32) (o2 : Option Value) (ph : pm_H), xH xX kK m 0 ph → E ph → xget ph 170 5 = some (.int P) → xget ph 170 6 = some (.int T) → (∀ i, i < 8 * pN → 0 ≤ xgi ph 190 i ∧ xgi ph 190 i ≤ ((2 ^ tn - 1 : Nat) : Int)) → xGT kK D 276 Q (52, [some (.ref 170), some (.int p), o2, o3, o4, o5], [], ph, 0, 0)) : ∀ (s : Nat) (p : Int32) (pn : Nat) (o2 : Option Value) (ph : pm_H), xH xX kK m 0 ph → E ph → xget ph 170 5 = some (.int P) → xget ph 170 6 = some (.int T) → (∀ i, i < 8 * pn → 0 ≤ xgi ph 190 i ∧ xgi ph 190 i ≤ ((2 ^ tn - 1 : Nat) : Int)) → p.toInt = (pn : Int) → pn + s = pN → xGT kK D 276 Q (7, [some (.ref 170), some (.int p), o2, o3, o4, o5], [], ph, 0, 0) := by
  intro s
  induction s with
  | zero =>
    intro p pn o2 ph hP g9 hPe hTe hsh hpn hps
    refine gt_load (v := .int p) (n := 1) (ykc_276 (e := (2, .iload_n kF1, 0)) rfl) rfl rfl ?_
    refine gt_load (v := .ref 170) (n := 1) (ykc_276 (e := (2, .aload_n kF0, 0)) rfl) rfl rfl ?_
    refine gt_gfk (v := .int P) (ykc_276 (e := (5, .getfield 130, 0)) rfl) rfl hP hPe rfl ?_
    refine gt_ige_t (ykc_276 (e := (4, .if_icmp .ge 40, 52)) rfl) (by omega) ?_
    exact kk p _ ph hP g9 hPe hTe (fun i hi => hsh i (by omega))
  | succ s ih =>
    intro p pn o2 ph hP g9 hPe hTe hsh hpn hps
    refine gt_load (v := .int p) (n := 1) (ykc_276 (e := (2, .iload_n kF1, 0)) rfl) rfl rfl ?_
    refine gt_load (v := .ref 170) (n := 1) (ykc_276 (e := (2, .aload_n kF0, 0)) rfl) rfl rfl ?_
    refine gt_gfk (v := .int P) (ykc_276 (e := (5, .getfield 130, 0)) rfl) rfl hP hPe rfl ?_
    refine gt_ige_f (ykc_276 (e := (4, .if_icmp .ge 40, 52)) rfl) (by omega) rfl ?_
    refine gt_alu (st' := [.int (Int32.ofInt 0)]) (ykc_276 (e := (0, .iconst 0, 0)) rfl) rfl rfl ?_
    refine gt_store (L' := [some (.ref 170), some (.int p), some (.int (Int32.ofInt 0)), o3, o4, o5]) (st' := []) (n := 1) (ykc_276 (e := (3, .istore_n kF2, 0)) rfl) rfl rfl ?_
    refine xtur_v hE hm h0m hPn hp8 ht ht8 hV hN hD hpn (by omega) ?_ 8 _ 0 ph hP g9 hPe hTe (fun i hi => hsh i (by omega)) (by decide) (by omega)
    intro p1 v2 ph2 e1 hP2 g92 hPe2 hTe2 hsh2
    exact ih p1 (pn + 1) _ ph2 hP2 g92 hPe2 hTe2 hsh2 (by omega) (by omega)

set_option maxRecDepth 6000 in
theorem xtur_r {E : pm_H → Prop} (hE : xHE xX xgA_G96 xgF_G96 E) {m : Int} (hm : m ≤ 2147483646) (h0m : (0 : Int) ≤ m) {D' pN tn : Nat} {P T : Int32} {Q : Option Value → pm_H → Prop} (hPn : P.toInt = (pN : Int)) (hp8 : pN ≤ 8) (ht : T.toInt = (tn : Int)) (ht8 : tn ≤ 8) {al : Int32} (hal : al.toInt = ((2 ^ tn - 1 : Nat) : Int)) {o3 o4 o5 : Option Value} (kk : ∀ (sn : Int32) (ph : pm_H), xH xX kK m 0 ph → E ph → xget ph 170 5 = some (.int P) → xget ph 170 6 = some (.int T) → (∀ i, i < 8 * pN → 0 ≤ xgi ph 190 i ∧ xgi ph 190 i ≤ ((2 ^ tn - 1 : Nat) : Int)) → (∀ s, s < 2 ^ tn → 0 ≤ xgi ph 191 (256 * pN + s) ∧ xgi ph 191 (256 * pN + s) ≤ 1000000) → xGT kK (D' + 1) 276 Q (99, [some (.ref 170), some (.int al), some (.int sn), o3, o4, o5], [], ph, 0, 0)) : ∀ (s : Nat) (sn : Int32) (snn : Nat) (ph : pm_H), xH xX kK m 0 ph → E ph → xget ph 170 5 = some (.int P) → xget ph 170 6 = some (.int T) → (∀ i, i < 8 * pN → 0 ≤ xgi ph 190 i ∧ xgi ph 190 i ≤ ((2 ^ tn - 1 : Nat) : Int)) → (∀ s, s < snn → 0 ≤ xgi ph 191 (256 * pN + s) ∧ xgi ph 191 (256 * pN + s) ≤ 1000000) → sn.toInt = (snn : Int) → snn + s = 2 ^ tn → xGT kK (D' + 1) 276 Q (63, [some (.ref 170), some (.int al), some (.int sn), o3, o4, o5], [], ph, 0, 0) := by
  have hpw := xpow9 ht8
  intro s
  induction s with
  | zero =>
    intro sn snn ph hP g9 hPe hTe hsh hfb hsn hss
    refine gt_load (v := .int sn) (n := 1) (ykc_276 (e := (2, .iload_n kF2, 0)) rfl) rfl rfl ?_
    refine gt_load (v := .int al) (n := 1) (ykc_276 (e := (2, .iload_n kF1, 0)) rfl) rfl rfl ?_
    refine gt_igt_t (ykc_276 (e := (4, .if_icmp .gt 34, 99)) rfl) (by omega) ?_
    exact kk sn ph hP g9 hPe hTe hsh (fun i hi => hfb i (by omega))
  | succ s ih =>
    intro sn snn ph hP g9 hPe hTe hsh hfb hsn hss
    refine gt_load (v := .int sn) (n := 1) (ykc_276 (e := (2, .iload_n kF2, 0)) rfl) rfl rfl ?_
    refine gt_load (v := .int al) (n := 1) (ykc_276 (e := (2, .iload_n kF1, 0)) rfl) rfl rfl ?_
    refine gt_igt_f (ykc_276 (e := (4, .if_icmp .gt 34, 99)) rfl) (by omega) rfl ?_
    refine gt_load (v := .ref 170) (n := 1) (ykc_276 (e := (2, .aload_n kF0, 0)) rfl) rfl rfl ?_
    refine gt_gfr (A := 191) (ykc_276 (e := (5, .getfield 92, 0)) rfl) rfl hP rfl rfl rfl ?_
    refine gt_load (v := .ref 170) (n := 1) (ykc_276 (e := (2, .aload_n kF0, 0)) rfl) rfl rfl ?_
    refine gt_gfk (v := .int P) (ykc_276 (e := (5, .getfield 130, 0)) rfl) rfl hP hPe rfl ?_
    refine gt_load (v := .int sn) (n := 1) (ykc_276 (e := (2, .iload_n kF2, 0)) rfl) rfl rfl ?_
    refine gt_cs (n := 2) (as := [.int P, .int sn]) (r := [.ref 191]) (ykc_276 (e := (6, .invokestatic 437, 0)) rfl) rfl rfl rfl rfl (xplace (D := D') hPn hsn (by omega) (by have := xpow9 ht8; omega)) rfl (fun vv ph101 hv => ?_)
    obtain ⟨pl, e9, e8, pl_s⟩ := hv; subst e9; have e7 := e8.symm; subst e7
    change xGT kK (D' + 1) 276 Q (80, [some (.ref 170), some (.int al), some (.int sn), o3, o4, o5], [.int pl, .ref 191], ph, 0, 0)
    refine gt_load (v := .int sn) (n := 1) (ykc_276 (e := (2, .iload_n kF2, 0)) rfl) rfl rfl ?_
    refine gt_load (v := .int al) (n := 1) (ykc_276 (e := (2, .iload_n kF1, 0)) rfl) rfl rfl ?_
    by_cases hal9 : sn.toInt ≠ al.toInt
    · refine gt_ine_t (ykc_276 (e := (4, .if_icmp .ne 7, 89)) rfl) hal9 ?_
      refine gt_push (v := .int (1000000 : Int32)) (n := 3) (ykc_276 (e := (1, .ldc_w 432, 0)) rfl) rfl rfl ?_
      refine gt_ias (A := 191) (y := (1000000 : Int32)) (x := pl) (ykc_276 (e := (5, .iastore, 0)) rfl) hP rfl rfl (by omega) (by have := xpow9 ht8; omega) xany rfl (fun ph202 hP202 u202 => ?_)
      have f202_5 : xget ph202 170 5 = some (.int P) := (u202.2.1 170 5 (fun q => absurd q.1 (by decide))).trans hPe
      have f202_6 : xget ph202 170 6 = some (.int T) := (u202.2.1 170 6 (fun q => absurd q.1 (by decide))).trans hTe
      obtain ⟨s1, e_s1, h_s1⟩ : ∃ zq : Int32, sn + Int32.ofInt 1 = zq ∧ zq.toInt = sn.toInt + 1 := ⟨_, rfl, by rw [ti_add (by rw [xi1]; omega) (by rw [xi1]; omega), xi1]⟩
      refine gt_store (L' := [some (.ref 170), some (.int al), some (.int s1), o3, o4, o5]) (st' := []) (n := 3) (ykc_276 (e := (3, .iinc 2 1, 0)) rfl) (by rw [← e_s1]; rfl) rfl ?_
      refine gt_br (pc' := 63) (st' := []) (ykc_276 (e := (4, .goto (-33), 63)) rfl) rfl ?_
      refine ih s1 (snn + 1) _ hP202 (xu1_E hE u202 rfl rfl rfl g9) ((u202.2.1 170 5 (fun q => absurd q.1 (by decide))).trans hPe) ((u202.2.1 170 6 (fun q => absurd q.1 (by decide))).trans hTe) (fun i hi => by rw [xgi_eq (u202.2.1 190 i (fun q => absurd q.1 (by decide)))]; exact hsh i hi) (fun i hi => ?_) (by omega) (by omega)
      by_cases ei : 256 * pN + i = pl.toInt.toNat
      · rw [ei, xgi_of u202.1]
        decide
      · rw [xgi_eq (u202.2.1 191 _ (fun q => ei q.2))]
        exact hfb i (by omega)
    · refine gt_ine_f (ykc_276 (e := (4, .if_icmp .ne 7, 89)) rfl) (by omega) rfl ?_
      refine gt_alu (st' := [.int (Int32.ofInt 0), .int pl, .ref 191]) (ykc_276 (e := (0, .iconst 0, 0)) rfl) rfl rfl ?_
      refine gt_br (pc' := 92) (st' := [.int (Int32.ofInt 0), .int pl, .ref 191]) (ykc_276 (e := (4, .goto 6, 92)) rfl) rfl ?_
      refine gt_ias (A := 191) (y := Int32.ofInt 0) (x := pl) (ykc_276 (e := (5, .iastore, 0)) rfl) hP rfl rfl (by omega) (by have := xpow9 ht8; omega) xany rfl (fun ph202 hP202 u202 => ?_)
      have f202_5 : xget ph202 170 5 = some (.int P) := (u202.2.1 170 5 (fun q => absurd q.1 (by decide))).trans hPe
      have f202_6 : xget ph202 170 6 = some (.int T) := (u202.2.1 170 6 (fun q => absurd q.1 (by decide))).trans hTe
      obtain ⟨s1, e_s1, h_s1⟩ : ∃ zq : Int32, sn + Int32.ofInt 1 = zq ∧ zq.toInt = sn.toInt + 1 := ⟨_, rfl, by rw [ti_add (by rw [xi1]; omega) (by rw [xi1]; omega), xi1]⟩
      refine gt_store (L' := [some (.ref 170), some (.int al), some (.int s1), o3, o4, o5]) (st' := []) (n := 3) (ykc_276 (e := (3, .iinc 2 1, 0)) rfl) (by rw [← e_s1]; rfl) rfl ?_
      refine gt_br (pc' := 63) (st' := []) (ykc_276 (e := (4, .goto (-33), 63)) rfl) rfl ?_
      refine ih s1 (snn + 1) _ hP202 (xu1_E hE u202 rfl rfl rfl g9) ((u202.2.1 170 5 (fun q => absurd q.1 (by decide))).trans hPe) ((u202.2.1 170 6 (fun q => absurd q.1 (by decide))).trans hTe) (fun i hi => by rw [xgi_eq (u202.2.1 190 i (fun q => absurd q.1 (by decide)))]; exact hsh i hi) (fun i hi => ?_) (by omega) (by omega)
      by_cases ei : 256 * pN + i = pl.toInt.toNat
      · rw [ei, xgi_of u202.1]
        decide
      · rw [xgi_eq (u202.2.1 191 _ (fun q => ei q.2))]
        exact hfb i (by omega)

set_option maxRecDepth 6000 in
theorem xmin2 {x s y : Int32} (e : (if s < x then s else x) = y) : y.toInt = min x.toInt s.toInt := by
  by_cases q : s < x
  · rw [if_pos q] at e
    subst e
    have := x32lt.mp q
    omega
  · rw [if_neg q] at e
    subst e
    have : ¬ s.toInt < x.toInt := fun r => q (x32lt.mpr r)
    omega
set_option maxRecDepth 6000 in
theorem xtur_l {m : Int} {D' pn snn : Nat} {Q : Option Value → pm_H → Prop} {al p sn : Int32} {ph : pm_H} (hP : xH xX kK m 0 ph) (hpn : p.toInt = (pn : Int)) (hsn : sn.toInt = (snn : Int)) (hp8 : pn < 8) (hA : snn ≤ 255) (hsx : ∀ v, v < 8 → snn ||| (xgi ph 190 (8 * pn + v)).toNat ≤ 255) (hfb : ∀ v, v < 8 → 0 ≤ xgi ph 191 (256 * (pn + 1) + (snn ||| (xgi ph 190 (8 * pn + v)).toNat)) ∧ xgi ph 191 (256 * (pn + 1) + (snn ||| (xgi ph 190 (8 * pn + v)).toNat)) ≤ 1000000) (kk : ∀ (le v : Int32), 0 ≤ le.toInt → le.toInt ≤ 1000000 → (le.toInt = 1000000 ∨ ∃ v, v < 8 ∧ xFW ph pn snn v = le.toInt) → xGT kK (D' + 1 + 1) 276 Q (153, [some (.ref 170), some (.int al), some (.int p), some (.int sn), some (.int le), some (.int v)], [], ph, 0, 0)) : ∀ (s : Nat) (le v : Int32) (vn : Nat), 0 ≤ le.toInt → le.toInt ≤ 1000000 → (le.toInt = 1000000 ∨ ∃ v, v < 8 ∧ xFW ph pn snn v = le.toInt) → v.toInt = (vn : Int) → vn + s = 8 → xGT kK (D' + 1 + 1) 276 Q (125, [some (.ref 170), some (.int al), some (.int p), some (.int sn), some (.int le), some (.int v)], [], ph, 0, 0) := by
  intro s
  induction s with
  | zero =>
    intro le v vn h0 h1 h2 hvn hvs
    refine gt_load (v := .int v) (n := 2) (ykc_276 (e := (2, .iload 5, 0)) rfl) rfl rfl ?_
    refine gt_push (v := .int ((Int8.ofInt 8).toInt32)) (n := 2) (ykc_276 (e := (1, .bipush 8, 0)) rfl) rfl rfl ?_
    refine gt_ige_t (ykc_276 (e := (4, .if_icmp .ge 24, 153)) rfl) (by rw [xc8]; omega) ?_
    exact kk le v h0 h1 h2
  | succ s ih =>
    intro le v vn h0 h1 h2 hvn hvs
    refine gt_load (v := .int v) (n := 2) (ykc_276 (e := (2, .iload 5, 0)) rfl) rfl rfl ?_
    refine gt_push (v := .int ((Int8.ofInt 8).toInt32)) (n := 2) (ykc_276 (e := (1, .bipush 8, 0)) rfl) rfl rfl ?_
    refine gt_ige_f (ykc_276 (e := (4, .if_icmp .ge 24, 153)) rfl) (by rw [xc8]; omega) rfl ?_
    refine gt_load (v := .int le) (n := 2) (ykc_276 (e := (2, .iload 4, 0)) rfl) rfl rfl ?_
    refine gt_load (v := .ref 170) (n := 1) (ykc_276 (e := (2, .aload_n kF0, 0)) rfl) rfl rfl ?_
    refine gt_load (v := .int p) (n := 1) (ykc_276 (e := (2, .iload_n kF2, 0)) rfl) rfl rfl ?_
    refine gt_load (v := .int sn) (n := 1) (ykc_276 (e := (2, .iload_n kF3, 0)) rfl) rfl rfl ?_
    refine gt_load (v := .int v) (n := 2) (ykc_276 (e := (2, .iload 5, 0)) rfl) rfl rfl ?_
    refine gt_cv (n := 3) (as := [.ref 170, .int p, .int sn, .int v]) (r := [.int le]) (ykc_276 (e := (6, .invokevirtual 443, 0)) rfl) rfl hP rfl rfl rfl (xfewWith (D := D') hP hpn hsn hvn (by omega) hA (by omega) (Nat.le_refl _) (hsx vn (by omega)) (hfb vn (by omega))) rfl (fun vv ph101 hv => ?_)
    obtain ⟨z, e9, e8, z_s⟩ := hv; subst e9; have e7 := e8.symm; subst e7
    change xGT kK (D' + 1 + 1) 276 Q (142, [some (.ref 170), some (.int al), some (.int p), some (.int sn), some (.int le), some (.int v)], [.int z, .int le], ph, 0, 0)
    obtain ⟨l1, e_l1⟩ : ∃ zq : Int32, (if z < le then z else le) = zq := ⟨_, rfl⟩
    refine gt_mem (n := 3) (st' := [.int l1]) (ph' := ph) (ykc_276 (e := (5, .invokestatic 145, 0)) rfl) (by rw [← e_l1]; rfl) rfl ?_
    refine gt_store (L' := [some (.ref 170), some (.int al), some (.int p), some (.int sn), some (.int l1), some (.int v)]) (st' := []) (n := 2) (ykc_276 (e := (3, .istore 4, 0)) rfl) rfl rfl ?_
    obtain ⟨v1, e_v1, h_v1⟩ : ∃ zq : Int32, v + Int32.ofInt 1 = zq ∧ zq.toInt = v.toInt + 1 := ⟨_, rfl, by rw [ti_add (by rw [xi1]; omega) (by rw [xi1]; omega), xi1]⟩
    refine gt_store (L' := [some (.ref 170), some (.int al), some (.int p), some (.int sn), some (.int l1), some (.int v1)]) (st' := []) (n := 3) (ykc_276 (e := (3, .iinc 5 1, 0)) rfl) (by rw [← e_v1]; rfl) rfl ?_
    refine gt_br (pc' := 125) (st' := []) (ykc_276 (e := (4, .goto (-25), 125)) rfl) rfl ?_
    have hm9 := xmin2 e_l1
    have hfw : 0 ≤ xFW ph pn snn vn := by
      have := (hfb vn (by omega)).1
      unfold xFW
      by_cases q : (vn : Int) = xgi ph 174 (8 + pn)
      · rw [if_pos q]; omega
      · rw [if_neg q]; omega
    refine ih l1 v1 (vn + 1) (by omega) (by omega) ?_ (by omega) (by omega)
    rcases (show l1.toInt = le.toInt ∨ l1.toInt = z.toInt by omega) with q | q
    · rcases h2 with h2 | ⟨v9, h3, h4⟩
      · exact Or.inl (by omega)
      · exact Or.inr ⟨v9, h3, by omega⟩
    · exact Or.inr ⟨vn, by omega, by omega⟩

set_option maxRecDepth 6000 in
theorem xtur_s {E : pm_H → Prop} (hE : xHE xX xgA_G96 xgF_G96 E) {m : Int} (hm : m ≤ 2147483646) (h0m : (0 : Int) ≤ m) {D' pN tn : Nat} {P T : Int32} {Q : Option Value → pm_H → Prop} (hPn : P.toInt = (pN : Int)) (hp8 : pN ≤ 8) (ht : T.toInt = (tn : Int)) (ht8 : tn ≤ 8) {al : Int32} (hal : al.toInt = ((2 ^ tn - 1 : Nat) : Int)) {p : Int32} {pn : Nat} (hpn : p.toInt = (pn : Int)) (hpP : pn < pN) (kk : ∀ (p1 sn : Int32) (o4 o5 : Option Value) (ph : pm_H), p1.toInt = p.toInt - 1 → xH xX kK m 0 ph → E ph → xget ph 170 5 = some (.int P) → xget ph 170 6 = some (.int T) → (∀ i, i < 8 * pN → 0 ≤ xgi ph 190 i ∧ xgi ph 190 i ≤ ((2 ^ tn - 1 : Nat) : Int)) → (∀ p s, pn ≤ p → p ≤ pN → s < 2 ^ tn → 0 ≤ xgi ph 191 (256 * p + s) ∧ xgi ph 191 (256 * p + s) ≤ 1000000) → (∀ p s, pn ≤ p → p < pN → s < 2 ^ tn → (xgi ph 191 (256 * p + s) = 1000000 ∨ ∃ v, v < 8 ∧ xFW ph p s v = xgi ph 191 (256 * p + s))) → xGT kK (D' + 1 + 1) 276 Q (106, [some (.ref 170), some (.int al), some (.int p1), some (.int sn), o4, o5], [], ph, 0, 0)) : ∀ (s : Nat) (sn : Int32) (snn : Nat) (o4 o5 : Option Value) (ph : pm_H), xH xX kK m 0 ph → E ph → xget ph 170 5 = some (.int P) → xget ph 170 6 = some (.int T) → (∀ i, i < 8 * pN → 0 ≤ xgi ph 190 i ∧ xgi ph 190 i ≤ ((2 ^ tn - 1 : Nat) : Int)) → (∀ p s, (pn + 1) ≤ p → p ≤ pN → s < 2 ^ tn → 0 ≤ xgi ph 191 (256 * p + s) ∧ xgi ph 191 (256 * p + s) ≤ 1000000) → (∀ p s, (pn + 1) ≤ p → p < pN → s < 2 ^ tn → (xgi ph 191 (256 * p + s) = 1000000 ∨ ∃ v, v < 8 ∧ xFW ph p s v = xgi ph 191 (256 * p + s))) → (∀ s, s < snn → 0 ≤ xgi ph 191 (256 * pn + s) ∧ xgi ph 191 (256 * pn + s) ≤ 1000000) → (∀ s, s < snn → (xgi ph 191 (256 * pn + s) = 1000000 ∨ ∃ v, v < 8 ∧ xFW ph pn s v = xgi ph 191 (256 * pn + s))) → sn.toInt = (snn : Int) → snn + s = 2 ^ tn → xGT kK (D' + 1 + 1) 276 Q (112, [some (.ref 170), some (.int al), some (.int p), some (.int sn), o4, o5], [], ph, 0, 0) := by
  have hpw := xpow9 ht8
  intro s
  induction s with
  | zero =>
    intro sn snn o4 o5 ph hP g9 hPe hTe hsh hfb hdp hpf hpd hsn hss
    refine gt_load (v := .int sn) (n := 1) (ykc_276 (e := (2, .iload_n kF3, 0)) rfl) rfl rfl ?_
    refine gt_load (v := .int al) (n := 1) (ykc_276 (e := (2, .iload_n kF1, 0)) rfl) rfl rfl ?_
    refine gt_igt_t (ykc_276 (e := (4, .if_icmp .gt 57, 171)) rfl) (by omega) ?_
    obtain ⟨p1, e_p1, h_p1⟩ : ∃ zq : Int32, p + Int32.ofInt (-1) = zq ∧ zq.toInt = p.toInt - 1 := ⟨_, rfl, by rw [ti_add (by rw [xim1]; omega) (by rw [xim1]; omega), xim1]; omega⟩
    refine gt_store (L' := [some (.ref 170), some (.int al), some (.int p1), some (.int sn), o4, o5]) (st' := []) (n := 3) (ykc_276 (e := (3, .iinc 2 (-1), 0)) rfl) (by rw [← e_p1]; rfl) rfl ?_
    refine gt_br (pc' := 106) (st' := []) (ykc_276 (e := (4, .goto (-68), 106)) rfl) rfl ?_
    have ess : snn = 2 ^ tn := by omega
    subst ess
    refine kk p1 sn _ _ ph h_p1 hP g9 hPe hTe hsh (fun q s h1 h2 h3 => ?_) (fun q s h1 h2 h3 => ?_)
    · rcases Nat.eq_or_lt_of_le h1 with h | h
      · subst h; exact hpf s h3
      · exact hfb q s h h2 h3
    · rcases Nat.eq_or_lt_of_le h1 with h | h
      · subst h; exact hpd s h3
      · exact hdp q s h h2 h3
  | succ s ih =>
    intro sn snn o4 o5 ph hP g9 hPe hTe hsh hfb hdp hpf hpd hsn hss
    refine gt_load (v := .int sn) (n := 1) (ykc_276 (e := (2, .iload_n kF3, 0)) rfl) rfl rfl ?_
    refine gt_load (v := .int al) (n := 1) (ykc_276 (e := (2, .iload_n kF1, 0)) rfl) rfl rfl ?_
    refine gt_igt_f (ykc_276 (e := (4, .if_icmp .gt 57, 171)) rfl) (by omega) rfl ?_
    refine gt_push (v := .int (1000000 : Int32)) (n := 3) (ykc_276 (e := (1, .ldc_w 432, 0)) rfl) rfl rfl ?_
    refine gt_store (L' := [some (.ref 170), some (.int al), some (.int p), some (.int sn), some (.int (1000000 : Int32)), o5]) (st' := []) (n := 2) (ykc_276 (e := (3, .istore 4, 0)) rfl) rfl rfl ?_
    refine gt_alu (st' := [.int (Int32.ofInt 0)]) (ykc_276 (e := (0, .iconst 0, 0)) rfl) rfl rfl ?_
    refine gt_store (L' := [some (.ref 170), some (.int al), some (.int p), some (.int sn), some (.int (1000000 : Int32)), some (.int (Int32.ofInt 0))]) (st' := []) (n := 2) (ykc_276 (e := (3, .istore 5, 0)) rfl) rfl rfl ?_
    have hor : ∀ v, v < 8 → snn ||| (xgi ph 190 (8 * pn + v)).toNat ≤ 2 ^ tn - 1 := fun v hv => by
      have h := hsh (8 * pn + v) (by omega)
      exact xor_ones (by omega) (by omega)
    have zN : (1000000 : Int32).toInt = 1000000 := by decide
    refine xtur_l (m := m) hP hpn hsn (by omega) (by omega) (fun v hv => by have := hor v hv; omega) (fun v hv => hfb (pn + 1) _ (Nat.le_refl _) (by omega) (by have := hor v hv; omega)) ?_ 8 _ _ 0 (by rw [zN]; decide) (by rw [zN]; decide) (Or.inl zN) (by decide) (by omega)
    intro le2 v2 l0 l1 l2
    refine gt_load (v := .ref 170) (n := 1) (ykc_276 (e := (2, .aload_n kF0, 0)) rfl) rfl rfl ?_
    refine gt_gfr (A := 191) (ykc_276 (e := (5, .getfield 92, 0)) rfl) rfl hP rfl rfl rfl ?_
    refine gt_load (v := .int p) (n := 1) (ykc_276 (e := (2, .iload_n kF2, 0)) rfl) rfl rfl ?_
    refine gt_load (v := .int sn) (n := 1) (ykc_276 (e := (2, .iload_n kF3, 0)) rfl) rfl rfl ?_
    refine gt_cs (n := 2) (as := [.int p, .int sn]) (r := [.ref 191]) (ykc_276 (e := (6, .invokestatic 437, 0)) rfl) rfl rfl rfl rfl (xplace (D := D' + 1) hpn hsn (by omega) (by omega)) rfl (fun vv ph1 hv => ?_)
    obtain ⟨pl, e9, e8, pl_s⟩ := hv; subst e9; have e7 := e8.symm; subst e7
    change xGT kK (D' + 1 + 1) 276 Q (162, [some (.ref 170), some (.int al), some (.int p), some (.int sn), some (.int le2), some (.int v2)], [.int pl, .ref 191], ph, 0, 0)
    refine gt_load (v := .int le2) (n := 2) (ykc_276 (e := (2, .iload 4, 0)) rfl) rfl rfl ?_
    refine gt_ias (A := 191) (y := le2) (x := pl) (ykc_276 (e := (5, .iastore, 0)) rfl) hP rfl rfl (by omega) (by omega) xany rfl (fun ph2 hP2 u2 => ?_)
    have f2_5 : xget ph2 170 5 = some (.int P) := (u2.2.1 170 5 (fun q => absurd q.1 (by decide))).trans hPe
    have f2_6 : xget ph2 170 6 = some (.int T) := (u2.2.1 170 6 (fun q => absurd q.1 (by decide))).trans hTe
    obtain ⟨s1, e_s1, h_s1⟩ : ∃ zq : Int32, sn + Int32.ofInt 1 = zq ∧ zq.toInt = sn.toInt + 1 := ⟨_, rfl, by rw [ti_add (by rw [xi1]; omega) (by rw [xi1]; omega), xi1]⟩
    refine gt_store (L' := [some (.ref 170), some (.int al), some (.int p), some (.int s1), some (.int le2), some (.int v2)]) (st' := []) (n := 3) (ykc_276 (e := (3, .iinc 3 1, 0)) rfl) (by rw [← e_s1]; rfl) rfl ?_
    refine gt_br (pc' := 112) (st' := []) (ykc_276 (e := (4, .goto (-56), 112)) rfl) rfl ?_
    have hkeep : ∀ i, i ≠ pl.toInt.toNat → xgi ph2 191 i = xgi ph 191 i := fun i hi => xgi_eq (u2.2.1 191 i (fun q => hi q.2))
    have hkS : ∀ i, xgi ph2 190 i = xgi ph 190 i := fun i => xgi_eq (u2.2.1 190 i (fun q => absurd q.1 (by decide)))
    have hkN : ∀ i, xgi ph2 174 i = xgi ph 174 i := fun i => xgi_eq (u2.2.1 174 i (fun q => absurd q.1 (by decide)))
    have hFWs : ∀ q s v, pn ≤ q → q < pN → s < 2 ^ tn → v < 8 → xFW ph2 q s v = xFW ph q s v := fun q s v h1 h2 h3 h4 => by
      unfold xFW
      rw [hkS, hkN, hkeep]
      intro e
      have h := hsh (8 * q + v) (by omega)
      have := xor_ones (t := tn) (a := s) (b := (xgi ph 190 (8 * q + v)).toNat) (by omega) (by omega)
      omega
    refine ih s1 (snn + 1) _ _ _ hP2 (xu1_E hE u2 rfl rfl rfl g9) ((u2.2.1 170 5 (fun q => absurd q.1 (by decide))).trans hPe) ((u2.2.1 170 6 (fun q => absurd q.1 (by decide))).trans hTe) (fun i hi => by rw [hkS]; exact hsh i hi) (fun q s h1 h2 h3 => by rw [hkeep _ (by omega)]; exact hfb q s h1 h2 h3) (fun q s h1 h2 h3 => ?_) (fun s h1 => ?_) (fun s h1 => ?_) (by omega) (by omega)
    · rw [hkeep _ (by omega)]
      rcases hdp q s h1 h2 h3 with h | ⟨v, hv, h⟩
      · exact Or.inl h
      · exact Or.inr ⟨v, hv, by rw [hFWs q s v (by omega) h2 h3 hv]; exact h⟩
    · by_cases es : s = snn
      · subst es
        have e : 256 * pn + s = pl.toInt.toNat := by omega
        rw [e, xgi_of u2.1]
        exact ⟨l0, l1⟩
      · rw [hkeep _ (by omega)]
        exact hpf s (by omega)
    · by_cases es : s = snn
      · subst es
        have e : 256 * pn + s = pl.toInt.toNat := by omega
        rw [e, xgi_of u2.1]
        rcases l2 with h | ⟨v, hv, h⟩
        · exact Or.inl h
        · exact Or.inr ⟨v, hv, by rw [hFWs pn s v (Nat.le_refl _) hpP (by omega) hv]; exact h⟩
      · rw [hkeep _ (by omega)]
        rcases hpd s (by omega) with h | ⟨v, hv, h⟩
        · exact Or.inl h
        · exact Or.inr ⟨v, hv, by rw [hFWs pn s v (Nat.le_refl _) hpP (by omega) hv]; exact h⟩

set_option maxRecDepth 6000 in
theorem xtur_d {E : pm_H → Prop} (hE : xHE xX xgA_G96 xgF_G96 E) {m : Int} (hm : m ≤ 2147483646) (h0m : (0 : Int) ≤ m) {D' pN tn : Nat} {P T : Int32} {Q : Option Value → pm_H → Prop} (hPn : P.toInt = (pN : Int)) (hp8 : pN ≤ 8) (ht : T.toInt = (tn : Int)) (ht8 : tn ≤ 8) {al : Int32} (hal : al.toInt = ((2 ^ tn - 1 : Nat) : Int)) (kk : ∀ (p : Int32) (o3 o4 o5 : Option Value) (ph : pm_H), xH xX kK m 0 ph → E ph → xget ph 170 5 = some (.int P) → xget ph 170 6 = some (.int T) → (∀ i, i < 8 * pN → 0 ≤ xgi ph 190 i ∧ xgi ph 190 i ≤ ((2 ^ tn - 1 : Nat) : Int)) → (∀ p s, 0 ≤ p → p ≤ pN → s < 2 ^ tn → 0 ≤ xgi ph 191 (256 * p + s) ∧ xgi ph 191 (256 * p + s) ≤ 1000000) → (∀ p s, 0 ≤ p → p < pN → s < 2 ^ tn → (xgi ph 191 (256 * p + s) = 1000000 ∨ ∃ v, v < 8 ∧ xFW ph p s v = xgi ph 191 (256 * p + s))) → xGT kK (D' + 1 + 1) 276 Q (177, [some (.ref 170), some (.int al), some (.int p), o3, o4, o5], [], ph, 0, 0)) : ∀ (pn : Nat) (p : Int32) (o3 o4 o5 : Option Value) (ph : pm_H), xH xX kK m 0 ph → E ph → xget ph 170 5 = some (.int P) → xget ph 170 6 = some (.int T) → (∀ i, i < 8 * pN → 0 ≤ xgi ph 190 i ∧ xgi ph 190 i ≤ ((2 ^ tn - 1 : Nat) : Int)) → (∀ p s, pn ≤ p → p ≤ pN → s < 2 ^ tn → 0 ≤ xgi ph 191 (256 * p + s) ∧ xgi ph 191 (256 * p + s) ≤ 1000000) → (∀ p s, pn ≤ p → p < pN → s < 2 ^ tn → (xgi ph 191 (256 * p + s) = 1000000 ∨ ∃ v, v < 8 ∧ xFW ph p s v = xgi ph 191 (256 * p + s))) → p.toInt = (pn : Int) - 1 → pn ≤ pN → xGT kK (D' + 1 + 1) 276 Q (106, [some (.ref 170), some (.int al), some (.int p), o3, o4, o5], [], ph, 0, 0) := by
  intro pn
  induction pn with
  | zero =>
    intro p o3 o4 o5 ph hP g9 hPe hTe hsh hfb hdp hpn hpl
    refine gt_load (v := .int p) (n := 1) (ykc_276 (e := (2, .iload_n kF2, 0)) rfl) rfl rfl ?_
    refine gt_zlt_t (ykc_276 (e := (4, .ifCond .lt 70, 177)) rfl) (by omega) ?_
    exact kk p _ _ _ ph hP g9 hPe hTe hsh hfb hdp
  | succ pn ih =>
    intro p o3 o4 o5 ph hP g9 hPe hTe hsh hfb hdp hpn hpl
    refine gt_load (v := .int p) (n := 1) (ykc_276 (e := (2, .iload_n kF2, 0)) rfl) rfl rfl ?_
    refine gt_zlt_f (ykc_276 (e := (4, .ifCond .lt 70, 177)) rfl) (by omega) rfl ?_
    refine gt_alu (st' := [.int (Int32.ofInt 0)]) (ykc_276 (e := (0, .iconst 0, 0)) rfl) rfl rfl ?_
    refine gt_store (L' := [some (.ref 170), some (.int al), some (.int p), some (.int (Int32.ofInt 0)), o4, o5]) (st' := []) (n := 1) (ykc_276 (e := (3, .istore_n kF3, 0)) rfl) rfl rfl ?_
    refine xtur_s hE hm h0m hPn hp8 ht ht8 hal (p := p) (pn := pn) (by omega) (by omega) ?_ (2 ^ tn) _ 0 _ _ ph hP g9 hPe hTe hsh hfb hdp (fun s h => absurd h (Nat.not_lt_zero _)) (fun s h => absurd h (Nat.not_lt_zero _)) (by decide) (by omega)
    intro p1 sn2 o42 o52 ph2 e1 hP2 g92 hPe2 hTe2 hsh2 hfb2 hdp2
    exact ih p1 _ _ _ ph2 hP2 g92 hPe2 hTe2 hsh2 hfb2 hdp2 (by omega) (by omega)

set_option maxRecDepth 6000 in
theorem xtur_w {m : Int} {D' pn snn : Nat} {Q : Option Value → pm_H → Prop} {al its p sn y : Int32} {ph : pm_H} (hP : xH xX kK m 0 ph) (hpn : p.toInt = (pn : Int)) (hsn : sn.toInt = (snn : Int)) (hp8 : pn < 8) (hA : snn ≤ 255) (hsx : ∀ v, v < 8 → snn ||| (xgi ph 190 (8 * pn + v)).toNat ≤ 255) (hfb : ∀ v, v < 8 → 0 ≤ xgi ph 191 (256 * (pn + 1) + (snn ||| (xgi ph 190 (8 * pn + v)).toNat)) ∧ xgi ph 191 (256 * (pn + 1) + (snn ||| (xgi ph 190 (8 * pn + v)).toNat)) ≤ 1000000) (hy2 : xget ph 191 (256 * pn + snn) = some (.int y)) {v9 : Nat} (hv8 : v9 < 8) (hv9 : xFW ph pn snn v9 = y.toInt) (kk : ∀ (v : Int32) (vn : Nat), v.toInt = (vn : Int) → vn < 8 → xFW ph pn snn vn = y.toInt → xGT kK (D' + 1 + 1) 276 Q (249, [some (.ref 170), some (.int al), some (.int its), some (.int sn), some (.int p), some (.int v)], [], ph, 0, 0)) : ∀ (s : Nat) (v : Int32) (vn : Nat), v.toInt = (vn : Int) → vn + s = v9 → xGT kK (D' + 1 + 1) 276 Q (220, [some (.ref 170), some (.int al), some (.int its), some (.int sn), some (.int p), some (.int v)], [], ph, 0, 0) := by
  have hAF : ∃ l, pm_at ph 191 = some (.inl (0, .inl l)) := by
    obtain ⟨l, h, -⟩ := xA_at (A := 191) hP rfl rfl
    exact ⟨l, h⟩
  intro s
  induction s with
  | zero =>
    intro v vn hvn hvs
    have ev : vn = v9 := by omega
    subst ev
    refine gt_load (v := .ref 170) (n := 1) (ykc_276 (e := (2, .aload_n kF0, 0)) rfl) rfl rfl ?_
    refine gt_load (v := .int p) (n := 2) (ykc_276 (e := (2, .iload 4, 0)) rfl) rfl rfl ?_
    refine gt_load (v := .int sn) (n := 1) (ykc_276 (e := (2, .iload_n kF3, 0)) rfl) rfl rfl ?_
    refine gt_load (v := .int v) (n := 2) (ykc_276 (e := (2, .iload 5, 0)) rfl) rfl rfl ?_
    refine gt_cv (n := 3) (as := [.ref 170, .int p, .int sn, .int v]) (r := []) (ykc_276 (e := (6, .invokevirtual 443, 0)) rfl) rfl hP rfl rfl rfl (xfewWith (D := D') hP hpn hsn hvn (by omega) hA (by omega) (Nat.le_refl _) (hsx vn (by omega)) (hfb vn (by omega))) rfl (fun vv ph1 hv => ?_)
    obtain ⟨z, e9, e8, z_s⟩ := hv; subst e9; have e7 := e8.symm; subst e7
    change xGT kK (D' + 1 + 1) 276 Q (229, [some (.ref 170), some (.int al), some (.int its), some (.int sn), some (.int p), some (.int v)], [.int z], ph, 0, 0)
    refine gt_load (v := .ref 170) (n := 1) (ykc_276 (e := (2, .aload_n kF0, 0)) rfl) rfl rfl ?_
    refine gt_gfr (A := 191) (ykc_276 (e := (5, .getfield 92, 0)) rfl) rfl hP rfl rfl rfl ?_
    refine gt_load (v := .int p) (n := 2) (ykc_276 (e := (2, .iload 4, 0)) rfl) rfl rfl ?_
    refine gt_load (v := .int sn) (n := 1) (ykc_276 (e := (2, .iload_n kF3, 0)) rfl) rfl rfl ?_
    refine gt_cs (n := 2) (as := [.int p, .int sn]) (r := [.ref 191, .int z]) (ykc_276 (e := (6, .invokestatic 437, 0)) rfl) rfl rfl rfl rfl (xplace (D := D' + 1) hpn hsn (by omega) (by omega)) rfl (fun vv ph2 hv => ?_)
    obtain ⟨pl, e9, e8, pl_s⟩ := hv; subst e9; have e7 := e8.symm; subst e7
    change xGT kK (D' + 1 + 1) 276 Q (239, [some (.ref 170), some (.int al), some (.int its), some (.int sn), some (.int p), some (.int v)], [.int pl, .ref 191, .int z], ph, 0, 0)
    refine gt_ialk (y := y) (ykc_276 (e := (5, .iaload, 0)) rfl) hy2 hAF (by omega) rfl ?_
    have hzy : z.toInt = y.toInt := by omega
    refine gt_ieq_t (ykc_276 (e := (4, .if_icmp .eq 9, 249)) rfl) hzy ?_
    exact kk v vn hvn hv8 hv9
  | succ s ih =>
    intro v vn hvn hvs
    refine gt_load (v := .ref 170) (n := 1) (ykc_276 (e := (2, .aload_n kF0, 0)) rfl) rfl rfl ?_
    refine gt_load (v := .int p) (n := 2) (ykc_276 (e := (2, .iload 4, 0)) rfl) rfl rfl ?_
    refine gt_load (v := .int sn) (n := 1) (ykc_276 (e := (2, .iload_n kF3, 0)) rfl) rfl rfl ?_
    refine gt_load (v := .int v) (n := 2) (ykc_276 (e := (2, .iload 5, 0)) rfl) rfl rfl ?_
    refine gt_cv (n := 3) (as := [.ref 170, .int p, .int sn, .int v]) (r := []) (ykc_276 (e := (6, .invokevirtual 443, 0)) rfl) rfl hP rfl rfl rfl (xfewWith (D := D') hP hpn hsn hvn (by omega) hA (by omega) (Nat.le_refl _) (hsx vn (by omega)) (hfb vn (by omega))) rfl (fun vv ph1 hv => ?_)
    obtain ⟨z, e9, e8, z_s⟩ := hv; subst e9; have e7 := e8.symm; subst e7
    change xGT kK (D' + 1 + 1) 276 Q (229, [some (.ref 170), some (.int al), some (.int its), some (.int sn), some (.int p), some (.int v)], [.int z], ph, 0, 0)
    refine gt_load (v := .ref 170) (n := 1) (ykc_276 (e := (2, .aload_n kF0, 0)) rfl) rfl rfl ?_
    refine gt_gfr (A := 191) (ykc_276 (e := (5, .getfield 92, 0)) rfl) rfl hP rfl rfl rfl ?_
    refine gt_load (v := .int p) (n := 2) (ykc_276 (e := (2, .iload 4, 0)) rfl) rfl rfl ?_
    refine gt_load (v := .int sn) (n := 1) (ykc_276 (e := (2, .iload_n kF3, 0)) rfl) rfl rfl ?_
    refine gt_cs (n := 2) (as := [.int p, .int sn]) (r := [.ref 191, .int z]) (ykc_276 (e := (6, .invokestatic 437, 0)) rfl) rfl rfl rfl rfl (xplace (D := D' + 1) hpn hsn (by omega) (by omega)) rfl (fun vv ph2 hv => ?_)
    obtain ⟨pl, e9, e8, pl_s⟩ := hv; subst e9; have e7 := e8.symm; subst e7
    change xGT kK (D' + 1 + 1) 276 Q (239, [some (.ref 170), some (.int al), some (.int its), some (.int sn), some (.int p), some (.int v)], [.int pl, .ref 191, .int z], ph, 0, 0)
    refine gt_ialk (y := y) (ykc_276 (e := (5, .iaload, 0)) rfl) hy2 hAF (by omega) rfl ?_
    by_cases hzy : z.toInt = y.toInt
    · refine gt_ieq_t (ykc_276 (e := (4, .if_icmp .eq 9, 249)) rfl) hzy ?_
      exact kk v vn hvn (by omega) (by omega)
    · refine gt_ieq_f (ykc_276 (e := (4, .if_icmp .eq 9, 249)) rfl) hzy rfl ?_
      obtain ⟨v1, e_v1, h_v1⟩ : ∃ zq : Int32, v + Int32.ofInt 1 = zq ∧ zq.toInt = v.toInt + 1 := ⟨_, rfl, by rw [ti_add (by rw [xi1]; omega) (by rw [xi1]; omega), xi1]⟩
      refine gt_store (L' := [some (.ref 170), some (.int al), some (.int its), some (.int sn), some (.int p), some (.int v1)]) (st' := []) (n := 3) (ykc_276 (e := (3, .iinc 5 1, 0)) rfl) (by rw [← e_v1]; rfl) rfl ?_
      refine gt_br (pc' := 220) (st' := []) (ykc_276 (e := (4, .goto (-26), 220)) rfl) rfl ?_
      exact ih v1 (vn + 1) (by omega) (by omega)

set_option maxRecDepth 6000 in
theorem xtur_t {E : pm_H → Prop} (hE : xHE xX xgA_G96 xgF_G96 E) {m : Int} (hm : m ≤ 2147483646) (h0m : (0 : Int) ≤ m) {D' pN tn : Nat} {P T : Int32} {Q : Option Value → pm_H → Prop} (hPn : P.toInt = (pN : Int)) (hp8 : pN ≤ 8) (ht : T.toInt = (tn : Int)) (ht8 : tn ≤ 8) {al its : Int32} (hQ : ∀ ph' : pm_H, xH xX kK m 0 ph' → E ph' → Q (some (.int its)) ph') : ∀ (s : Nat) (sn p t : Int32) (snn pn : Nat) (o5 : Option Value) (ph : pm_H), xH xX kK m 0 ph → E ph → xget ph 170 5 = some (.int P) → xget ph 170 6 = some (.int T) → (∀ i, i < 8 * pN → 0 ≤ xgi ph 190 i ∧ xgi ph 190 i ≤ ((2 ^ tn - 1 : Nat) : Int)) → (∀ p s, 0 ≤ p → p ≤ pN → s < 2 ^ tn → 0 ≤ xgi ph 191 (256 * p + s) ∧ xgi ph 191 (256 * p + s) ≤ 1000000) → (∀ p s, 0 ≤ p → p < pN → s < 2 ^ tn → (xgi ph 191 (256 * p + s) = 1000000 ∨ ∃ v, v < 8 ∧ xFW ph p s v = xgi ph 191 (256 * p + s))) → sn.toInt = (snn : Int) → snn < 2 ^ tn → p.toInt = (pn : Int) → pn + s = pN → xget ph 170 1 = some (.int t) → t.toInt = (pn : Int) → (pn < pN → xgi ph 191 (256 * pn + snn) < 1000000) → xGT kK (D' + 1 + 1) 276 Q (208, [some (.ref 170), some (.int al), some (.int its), some (.int sn), some (.int p), o5], [], ph, 0, 0) := by
  have hpw := xpow9 ht8
  intro s
  induction s with
  | zero =>
    intro sn p t snn pn o5 ph hP g9 hPe hTe hsh hfb hdp hsn hs9 hpn hps htl ht9 hlt
    refine gt_load (v := .int p) (n := 2) (ykc_276 (e := (2, .iload 4, 0)) rfl) rfl rfl ?_
    refine gt_load (v := .ref 170) (n := 1) (ykc_276 (e := (2, .aload_n kF0, 0)) rfl) rfl rfl ?_
    refine gt_gfk (v := .int P) (ykc_276 (e := (5, .getfield 130, 0)) rfl) rfl hP hPe rfl ?_
    refine gt_ige_t (ykc_276 (e := (4, .if_icmp .ge 64, 278)) rfl) (by omega) ?_
    refine gt_load (v := .int its) (n := 1) (ykc_276 (e := (2, .iload_n kF2, 0)) rfl) rfl rfl ?_
    refine gt_ret (ykc_276 (e := (7, .ireturn, 0)) rfl) rfl ?_
    exact hQ _ hP g9
  | succ s ih =>
    intro sn p t snn pn o5 ph hP g9 hPe hTe hsh hfb hdp hsn hs9 hpn hps htl ht9 hlt
    refine gt_load (v := .int p) (n := 2) (ykc_276 (e := (2, .iload 4, 0)) rfl) rfl rfl ?_
    refine gt_load (v := .ref 170) (n := 1) (ykc_276 (e := (2, .aload_n kF0, 0)) rfl) rfl rfl ?_
    refine gt_gfk (v := .int P) (ykc_276 (e := (5, .getfield 130, 0)) rfl) rfl hP hPe rfl ?_
    refine gt_ige_f (ykc_276 (e := (4, .if_icmp .ge 64, 278)) rfl) (by omega) rfl ?_
    refine gt_alu (st' := [.int (Int32.ofInt 0)]) (ykc_276 (e := (0, .iconst 0, 0)) rfl) rfl rfl ?_
    refine gt_store (L' := [some (.ref 170), some (.int al), some (.int its), some (.int sn), some (.int p), some (.int (Int32.ofInt 0))]) (st' := []) (n := 2) (ykc_276 (e := (3, .istore 5, 0)) rfl) rfl rfl ?_
    have hor : ∀ v, v < 8 → snn ||| (xgi ph 190 (8 * pn + v)).toNat ≤ 2 ^ tn - 1 := fun v hv => by
      have h := hsh (8 * pn + v) (by omega)
      exact xor_ones (by omega) (by omega)
    obtain ⟨y, hy, -⟩ := xA_el (A := 191) (k := 256 * pn + snn) hP rfl rfl (by omega)
    have hyi := xgi_of hy
    have hl9 := hlt (by omega)
    rcases hdp pn snn (Nat.zero_le _) (by omega) hs9 with h | ⟨v9, hv8, hv9⟩
    · omega
    refine xtur_w (m := m) hP hpn hsn (by omega) (by omega) (fun v hv => by have := hor v hv; omega) (fun v hv => hfb (pn + 1) _ (Nat.zero_le _) (by omega) (by have := hor v hv; omega)) hy hv8 (by rw [hv9, hyi]) ?_ v9 _ 0 (by decide) (by omega)
    intro v vn hvn hv8 hfw
    have hAS : ∃ l, pm_at ph 190 = some (.inl (0, .inl l)) := by
      obtain ⟨l, h, -⟩ := xA_at (A := 190) hP rfl rfl
      exact ⟨l, h⟩
    obtain ⟨x, hx, -⟩ := xA_el (A := 190) (k := 8 * pn + vn) hP rfl rfl (by omega)
    have hxi := xgi_of hx
    have hsx := hsh (8 * pn + vn) (by omega)
    obtain ⟨xn, hxn⟩ : ∃ n : Nat, x.toInt = (n : Int) := ⟨x.toInt.toNat, by omega⟩
    have ho9 := hor vn hv8
    have exn : (xgi ph 190 (8 * pn + vn)).toNat = xn := by omega
    rw [exn] at ho9
    refine gt_load (v := .int sn) (n := 1) (ykc_276 (e := (2, .iload_n kF3, 0)) rfl) rfl rfl ?_
    refine gt_load (v := .ref 170) (n := 1) (ykc_276 (e := (2, .aload_n kF0, 0)) rfl) rfl rfl ?_
    refine gt_gfr (A := 190) (ykc_276 (e := (5, .getfield 89, 0)) rfl) rfl hP rfl rfl rfl ?_
    refine gt_push (v := .int ((Int8.ofInt 8).toInt32)) (n := 2) (ykc_276 (e := (1, .bipush 8, 0)) rfl) rfl rfl ?_
    refine gt_load (v := .int p) (n := 2) (ykc_276 (e := (2, .iload 4, 0)) rfl) rfl rfl ?_
    obtain ⟨m8, e_m8, h_m8⟩ : ∃ zq : Int32, ((Int8.ofInt 8).toInt32) * p = zq ∧ zq.toInt = 8 * p.toInt := ⟨_, rfl, by rw [ti_mul (by rw [xc8]; omega) (by rw [xc8]; omega), xc8]⟩
    refine gt_alu (st' := [.int m8, .ref 190, .int sn]) (ykc_276 (e := (0, .imul, 0)) rfl) (by rw [← e_m8]; exact rfl) rfl ?_
    refine gt_load (v := .int v) (n := 2) (ykc_276 (e := (2, .iload 5, 0)) rfl) rfl rfl ?_
    obtain ⟨ix, e_ix, h_ix⟩ : ∃ zq : Int32, m8 + v = zq ∧ zq.toInt = ((8 * pn + vn : Nat) : Int) := ⟨_, rfl, by rw [ti_add (by rw [h_m8]; omega) (by rw [h_m8]; omega), h_m8]; omega⟩
    refine gt_alu (st' := [.int ix, .ref 190, .int sn]) (ykc_276 (e := (0, .iadd, 0)) rfl) (by rw [← e_ix]; exact rfl) rfl ?_
    refine gt_ialk (y := x) (ykc_276 (e := (5, .iaload, 0)) rfl) hx hAS (by omega) rfl ?_
    obtain ⟨s2, e_s2, h_s2⟩ : ∃ zq : Int32, sn ||| x = zq ∧ zq.toInt = ((snn ||| xn : Nat) : Int) := ⟨_, rfl, ti_or hsn hxn⟩
    refine gt_alu (st' := [.int s2]) (ykc_276 (e := (0, .ior, 0)) rfl) (by rw [← e_s2]; exact rfl) rfl ?_
    refine gt_store (L' := [some (.ref 170), some (.int al), some (.int its), some (.int s2), some (.int p), some (.int v)]) (st' := []) (n := 1) (ykc_276 (e := (3, .istore_n kF3, 0)) rfl) rfl rfl ?_
    refine gt_load (v := .ref 170) (n := 1) (ykc_276 (e := (2, .aload_n kF0, 0)) rfl) rfl rfl ?_
    refine gt_load (v := .int v) (n := 2) (ykc_276 (e := (2, .iload 5, 0)) rfl) rfl rfl ?_
    refine gt_alu (st' := [.long v.toInt64, .ref 170]) (ykc_276 (e := (0, .i2l, 0)) rfl) rfl rfl ?_
    refine gt_cv (n := 1) (as := [.ref 170, .long v.toInt64]) (r := []) (ykc_276 (e := (6, .invokevirtual 373, 0)) rfl) rfl hP rfl rfl rfl (xenters (D := D' + 1) hP htl (by omega) (by omega)) rfl (fun vv ph1 hv => ?_)
    obtain ⟨t1, e9, h_t1, hP1, u1⟩ := hv; subst e9
    change xGT kK (D' + 1 + 1) 276 Q (272, [some (.ref 170), some (.int al), some (.int its), some (.int s2), some (.int p), some (.int v)], [], ph1, 0, 0)
    obtain ⟨p1, e_p1, h_p1⟩ : ∃ zq : Int32, p + Int32.ofInt 1 = zq ∧ zq.toInt = p.toInt + 1 := ⟨_, rfl, by rw [ti_add (by rw [xi1]; omega) (by rw [xi1]; omega), xi1]⟩
    refine gt_store (L' := [some (.ref 170), some (.int al), some (.int its), some (.int s2), some (.int p1), some (.int v)]) (st' := []) (n := 3) (ykc_276 (e := (3, .iinc 4 1, 0)) rfl) (by rw [← e_p1]; rfl) rfl ?_
    refine gt_br (pc' := 208) (st' := []) (ykc_276 (e := (4, .goto (-67), 208)) rfl) rfl ?_
    have hk : ∀ a i, a ≠ 170 → xgi ph1 a i = xgi ph a i := fun a i h => xgi_eq (u1.2.1 a i (fun q => h q.1))
    have hFWs : ∀ q s v, xFW ph1 q s v = xFW ph q s v := fun q s v => by
      unfold xFW
      rw [hk _ _ (by decide), hk _ _ (by decide), hk _ _ (by decide)]
    refine ih s2 p1 t1 (snn ||| xn) (pn + 1) _ ph1 hP1 (xent1_E hE u1 rfl rfl rfl g9) ((u1.2.1 170 5 (by decide)).trans hPe) ((u1.2.1 170 6 (by decide)).trans hTe) (fun i hi => by rw [hk _ _ (by decide)]; exact hsh i hi) (fun q s h1 h2 h3 => by rw [hk _ _ (by decide)]; exact hfb q s h1 h2 h3) (fun q s h1 h2 h3 => ?_) h_s2 (by omega) (by omega) (by omega) u1.1 (by omega) (fun h9 => ?_)
    · rw [hk _ _ (by decide)]
      rcases hdp q s h1 h2 h3 with h | ⟨v, hv, h⟩
      · exact Or.inl h
      · exact Or.inr ⟨v, hv, by rw [hFWs]; exact h⟩
    · rw [hk _ _ (by decide)]
      unfold xFW at hfw
      rw [exn] at hfw
      by_cases q : (vn : Int) = xgi ph 174 (8 + pn)
      · rw [if_pos q] at hfw; omega
      · rw [if_neg q] at hfw; omega

set_option maxRecDepth 6000 in
theorem xNEVt : (1000000 : Int32).toInt = 1000000 := by decide
set_option maxRecDepth 6000 in
theorem xturned {E : pm_H → Prop} (hE : xHE xX xgA_G96 xgF_G96 E) (hV : ∀ p, E p → xV p) (hN : ∀ p, E p → xPG p) : xcon xX kK E 30 276 [.inr (.inr (.inl 0))] [] 0 (some (.inl ((Int.negSucc 2147483647), (Int.ofNat 2147483647)))) [] := by
  intro D hD m hm h0m vs ph hv hf hP g9
  obtain ⟨D', rfl⟩ : ∃ D', D = D' + 1 + 1 + 1 := ⟨D - 3, by omega⟩
  have h0m : (0 : Int) ≤ m := h0m
  match vs, hv with
  | [v1], ⟨q1, _⟩ =>
  have e1 := xaO hP (A := 170) rfl q1
  subst e1
  suffices hs : ∃ v ph', pm_Rd kK false (D' + 1 + 1 + 1) 276 [.ref 170] ph (v, ph', 0, 0) ∧ (∃ z : Int32, v = some (.int z) ∧ xH xX kK m 0 ph' ∧ E ph') by
    obtain ⟨v, ph', k1, z, e, hP1, g91⟩ := hs
    exact ⟨v, ph', k1, hP1, g91, ⟨_, e, xaT⟩, xF0⟩
  obtain ⟨P, hPe, p0, p1⟩ := xM_fi (k := 5) hP rfl
  obtain ⟨T, hTe, u0, u1⟩ := xM_fi (k := 6) hP rfl
  have p0 : 0 ≤ P.toInt := p0
  have p1 : P.toInt ≤ 8 := p1
  have u0 : 0 ≤ T.toInt := u0
  have u1 : T.toInt ≤ 8 := u1
  obtain ⟨pN, hPn⟩ : ∃ n : Nat, P.toInt = (n : Int) := ⟨P.toInt.toNat, by omega⟩
  obtain ⟨tn, ht⟩ : ∃ n : Nat, T.toInt = (n : Int) := ⟨T.toInt.toNat, by omega⟩
  have hp8 : pN ≤ 8 := by omega
  have ht8 : tn ≤ 8 := by omega
  have hpw := xpow9 ht8
  refine xRd_mk (nl := 6) rfl rfl ?_
  show xGT kK (D' + 1 + 1) 276 _ (0, [some (.ref 170), none, none, none, none, none], [], ph, 0, 0)
  refine gt_load (v := .ref 170) (n := 1) (ykc_276 (e := (2, .aload_n kF0, 0)) rfl) rfl rfl ?_
  refine gt_alu (st' := [.int (Int32.ofInt 0), .ref 170]) (ykc_276 (e := (0, .iconst 0, 0)) rfl) rfl rfl ?_
  refine gt_pf (y := Int32.ofInt 0) (ykc_276 (e := (5, .putfield 3, 0)) rfl) rfl hP rfl rfl (by decide) (by decide) rfl (fun ph1 hP1 w1 => ?_)
  have f1_5 : xget ph1 170 5 = some (.int P) := (w1.2.1 170 5 (by decide)).trans hPe
  have f1_6 : xget ph1 170 6 = some (.int T) := (w1.2.1 170 6 (by decide)).trans hTe
  refine gt_alu (st' := [.int (Int32.ofInt 0)]) (ykc_276 (e := (0, .iconst 0, 0)) rfl) rfl rfl ?_
  refine gt_store (L' := [some (.ref 170), some (.int (Int32.ofInt 0)), none, none, none, none]) (st' := []) (n := 1) (ykc_276 (e := (3, .istore_n kF1, 0)) rfl) rfl rfl ?_
  refine xtur_p hE hm h0m hPn hp8 ht ht8 hV hN (by omega) ?_ pN _ 0 _ ph1 hP1 (xu1_E hE w1 rfl rfl rfl g9) f1_5 f1_6 (fun i hi => absurd hi (by omega)) (by decide) (by omega)
  intro p2 o22 ph2 hP2 g92 hPe2 hTe2 hsh2
  refine gt_alu (st' := [.int (Int32.ofInt 1)]) (ykc_276 (e := (0, .iconst 1, 0)) rfl) rfl rfl ?_
  refine gt_load (v := .ref 170) (n := 1) (ykc_276 (e := (2, .aload_n kF0, 0)) rfl) rfl rfl ?_
  refine gt_gfk (v := .int T) (ykc_276 (e := (5, .getfield 133, 0)) rfl) rfl hP2 hTe2 rfl ?_
  obtain ⟨q1, e_q1, h_q1⟩ : ∃ zq : Int32, (Int32.ofInt 1) <<< (T &&& 31) = zq ∧ zq.toInt = ((2 ^ tn : Nat) : Int) := ⟨_, rfl, ti_shl9 ht (by omega)⟩
  refine gt_alu (st' := [.int q1]) (ykc_276 (e := (0, .ishl, 0)) rfl) (by rw [← e_q1]; exact rfl) rfl ?_
  refine gt_alu (st' := [.int (Int32.ofInt 1), .int q1]) (ykc_276 (e := (0, .iconst 1, 0)) rfl) rfl rfl ?_
  obtain ⟨al, e_al, h_al⟩ : ∃ zq : Int32, q1 - (Int32.ofInt 1) = zq ∧ zq.toInt = ((2 ^ tn - 1 : Nat) : Int) := ⟨_, rfl, by rw [ti_sub (by rw [xi1]; omega) (by rw [xi1]; omega), xi1]; omega⟩
  refine gt_alu (st' := [.int al]) (ykc_276 (e := (0, .isub, 0)) rfl) (by rw [← e_al]; exact rfl) rfl ?_
  refine gt_store (L' := [some (.ref 170), some (.int al), o22, none, none, none]) (st' := []) (n := 1) (ykc_276 (e := (3, .istore_n kF1, 0)) rfl) rfl rfl ?_
  refine gt_alu (st' := [.int (Int32.ofInt 0)]) (ykc_276 (e := (0, .iconst 0, 0)) rfl) rfl rfl ?_
  refine gt_store (L' := [some (.ref 170), some (.int al), some (.int (Int32.ofInt 0)), none, none, none]) (st' := []) (n := 1) (ykc_276 (e := (3, .istore_n kF2, 0)) rfl) rfl rfl ?_
  refine xtur_r hE hm h0m hPn hp8 ht ht8 h_al ?_ (2 ^ tn) _ 0 ph2 hP2 g92 hPe2 hTe2 hsh2 (fun s h => absurd h (Nat.not_lt_zero _)) (by decide) (by omega)
  intro sn3 ph3 hP3 g93 hPe3 hTe3 hsh3 hfr3
  refine gt_load (v := .ref 170) (n := 1) (ykc_276 (e := (2, .aload_n kF0, 0)) rfl) rfl rfl ?_
  refine gt_gfk (v := .int P) (ykc_276 (e := (5, .getfield 130, 0)) rfl) rfl hP3 hPe3 rfl ?_
  refine gt_alu (st' := [.int (Int32.ofInt 1), .int P]) (ykc_276 (e := (0, .iconst 1, 0)) rfl) rfl rfl ?_
  obtain ⟨pz, e_pz, h_pz⟩ : ∃ zq : Int32, P - (Int32.ofInt 1) = zq ∧ zq.toInt = P.toInt - 1 := ⟨_, rfl, by rw [ti_sub (by rw [xi1]; omega) (by rw [xi1]; omega), xi1]⟩
  refine gt_alu (st' := [.int pz]) (ykc_276 (e := (0, .isub, 0)) rfl) (by rw [← e_pz]; exact rfl) rfl ?_
  refine gt_store (L' := [some (.ref 170), some (.int al), some (.int pz), none, none, none]) (st' := []) (n := 1) (ykc_276 (e := (3, .istore_n kF2, 0)) rfl) rfl rfl ?_
  refine xtur_d hE hm h0m hPn hp8 ht ht8 h_al ?_ pN _ _ _ _ ph3 hP3 g93 hPe3 hTe3 hsh3 (fun q s h1 h2 h3 => ?_) (fun q s h1 h2 h3 => absurd h1 (by omega)) (by omega) (Nat.le_refl _)
  case refine_2 =>
    have eq : q = pN := by omega
    subst eq
    exact hfr3 s h3
  intro p4 o34 o44 o54 ph4 hP4 g94 hPe4 hTe4 hsh4 hfb4 hdp4
  refine gt_load (v := .ref 170) (n := 1) (ykc_276 (e := (2, .aload_n kF0, 0)) rfl) rfl rfl ?_
  refine gt_gfr (A := 191) (ykc_276 (e := (5, .getfield 92, 0)) rfl) rfl hP4 rfl rfl rfl ?_
  refine gt_alu (st' := [.int (Int32.ofInt 0), .ref 191]) (ykc_276 (e := (0, .iconst 0, 0)) rfl) rfl rfl ?_
  refine gt_alu (st' := [.int (Int32.ofInt 0), .int (Int32.ofInt 0), .ref 191]) (ykc_276 (e := (0, .iconst 0, 0)) rfl) rfl rfl ?_
  refine gt_cs (n := 2) (as := [.int (Int32.ofInt 0), .int (Int32.ofInt 0)]) (r := [.ref 191]) (ykc_276 (e := (6, .invokestatic 437, 0)) rfl) rfl rfl rfl rfl (xplace (D := D' + 1) (pn := 0) (sn := 0) (by decide) (by decide) (by decide) (by decide)) rfl (fun vv ph1 hv => ?_)
  obtain ⟨pl, e9, e8, pl_s⟩ := hv; subst e9; have e7 := e8.symm; subst e7
  change xGT kK (D' + 1 + 1) 276 _ (186, [some (.ref 170), some (.int al), some (.int p4), o34, o44, o54], [.int pl, .ref 191], ph4, 0, 0)
  refine gt_ial (A := 191) (ykc_276 (e := (5, .iaload, 0)) rfl) hP4 rfl rfl (by omega) (by omega) rfl (fun its g_its b_its => ?_)
  refine gt_store (L' := [some (.ref 170), some (.int al), some (.int its), o34, o44, o54]) (st' := []) (n := 1) (ykc_276 (e := (3, .istore_n kF2, 0)) rfl) rfl rfl ?_
  refine gt_load (v := .int its) (n := 1) (ykc_276 (e := (2, .iload_n kF2, 0)) rfl) rfl rfl ?_
  refine gt_push (v := .int (1000000 : Int32)) (n := 3) (ykc_276 (e := (1, .ldc_w 432, 0)) rfl) rfl rfl ?_
  by_cases hits : 1000000 ≤ its.toInt
  · refine gt_ilt_f (ykc_276 (e := (4, .if_icmp .lt 6, 198)) rfl) (by rw [xNEVt]; omega) rfl ?_
    refine gt_push (v := .int ((Int8.ofInt (-2)).toInt32)) (n := 2) (ykc_276 (e := (1, .bipush (-2), 0)) rfl) rfl rfl ?_
    refine gt_ret (ykc_276 (e := (7, .ireturn, 0)) rfl) rfl ?_
    exact ⟨_, rfl, hP4, g94⟩
  · refine gt_ilt_t (ykc_276 (e := (4, .if_icmp .lt 6, 198)) rfl) (by rw [xNEVt]; omega) ?_
    refine gt_load (v := .ref 170) (n := 1) (ykc_276 (e := (2, .aload_n kF0, 0)) rfl) rfl rfl ?_
    refine gt_alu (st' := [.int (Int32.ofInt 0), .ref 170]) (ykc_276 (e := (0, .iconst 0, 0)) rfl) rfl rfl ?_
    refine gt_pf (y := Int32.ofInt 0) (ykc_276 (e := (5, .putfield 15, 0)) rfl) rfl hP4 rfl rfl (by decide) (by decide) rfl (fun ph102 hP102 u102 => ?_)
    have f102_5 : xget ph102 170 5 = some (.int P) := (u102.2.1 170 5 (by decide)).trans hPe4
    have f102_6 : xget ph102 170 6 = some (.int T) := (u102.2.1 170 6 (by decide)).trans hTe4
    refine gt_alu (st' := [.int (Int32.ofInt 0)]) (ykc_276 (e := (0, .iconst 0, 0)) rfl) rfl rfl ?_
    refine gt_store (L' := [some (.ref 170), some (.int al), some (.int its), some (.int (Int32.ofInt 0)), o44, o54]) (st' := []) (n := 1) (ykc_276 (e := (3, .istore_n kF3, 0)) rfl) rfl rfl ?_
    refine gt_alu (st' := [.int (Int32.ofInt 0)]) (ykc_276 (e := (0, .iconst 0, 0)) rfl) rfl rfl ?_
    refine gt_store (L' := [some (.ref 170), some (.int al), some (.int its), some (.int (Int32.ofInt 0)), some (.int (Int32.ofInt 0)), o54]) (st' := []) (n := 2) (ykc_276 (e := (3, .istore 4, 0)) rfl) rfl rfl ?_
    have epl : pl.toInt.toNat = 0 := by omega
    have hk : ∀ a i, a ≠ 170 → xgi ph102 a i = xgi ph4 a i := fun a i h => xgi_eq (u102.2.1 a i (fun q => h q.1))
    have hFWs : ∀ q s v, xFW ph102 q s v = xFW ph4 q s v := fun q s v => by
      unfold xFW
      rw [hk _ _ (by decide), hk _ _ (by decide), hk _ _ (by decide)]
    refine xtur_t hE hm h0m hPn hp8 ht ht8 (fun ph' h1 h2 => ⟨its, rfl, h1, h2⟩) pN _ _ _ 0 0 _ ph102 hP102 (xu1_E hE u102 rfl rfl rfl g94) ((u102.2.1 170 5 (by decide)).trans hPe4) ((u102.2.1 170 6 (by decide)).trans hTe4) (fun i hi => by rw [hk _ _ (by decide)]; exact hsh4 i hi) (fun q s h1 h2 h3 => by rw [hk _ _ (by decide)]; exact hfb4 q s h1 h2 h3) (fun q s h1 h2 h3 => ?_) (by decide) (by omega) (by decide) (by omega) u102.1 (by decide) (fun h9 => ?_)
    · rw [hk _ _ (by decide)]
      rcases hdp4 q s h1 h2 h3 with h | ⟨v, hv, h⟩
      · exact Or.inl h
      · exact Or.inr ⟨v, hv, by rw [hFWs]; exact h⟩
    · rw [hk _ _ (by decide)]
      rw [epl] at g_its
      rw [show 256 * 0 + 0 = 0 from rfl, xgi_of g_its]
      omega

