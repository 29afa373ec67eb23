/-! the call law of the reference, by hand, printed by wip/x/h_xlaw.py -/
set_option maxRecDepth 6000 in
theorem xallseen {E : pm_H → Prop} (hE : xHE xX xgA_G8 xgF_G8 E) (hV : ∀ p, E p → xV p) {m : Int} (hm : m ≤ 2147483646) (h0m : (0 : Int) ≤ m) {D : Nat} (hD : 13 ≤ D) {ph : pm_H} (hP : xH xX kK m 0 ph) (g9 : E ph) : ∃ v ph', pm_Rd kK false D 227 [.ref 170, .ref 174] ph (v, ph', 0, 0) ∧ (∃ z : Int64, v = some (.long z) ∧ xH xX kK m 0 ph' ∧ E ph') := by
  obtain ⟨v, ph', k1, k2, k3, ⟨u, e, z, e2, -⟩, -⟩ := (xn_227_0 hE hV) D hD m hm h0m [.ref 170, .ref 174] ph ⟨xaRi rfl (by decide), xaRi rfl (by decide), trivial⟩ xF0 hP g9
  exact ⟨v, ph', k1, z, by rw [e, e2], k2, k3⟩
set_option maxRecDepth 6000 in
theorem xbits {E : pm_H → Prop} {m : Int} (hm : m ≤ 2147483646) (h0m : (0 : Int) ≤ m) {D : Nat} (hD : 1 ≤ D) {ph : pm_H} {x : Int64} (hP : xH xX kK m 0 ph) (g9 : E ph) : ∃ v ph', pm_Rd kK false D 305 [.long x] ph (v, ph', 0, 0) ∧ (∃ z : Int32, v = some (.int z) ∧ xH xX kK m 0 ph' ∧ E ph') := by
  obtain ⟨v, ph', k1, k2, k3, ⟨u, e, z, e2, -⟩, -⟩ := (xn_305_0 (E := E)) D hD m hm h0m [.long x] ph ⟨xaL, trivial⟩ xF0 hP g9
  exact ⟨v, ph', k1, z, by rw [e, e2], k2, k3⟩
set_option maxRecDepth 6000 in
theorem xent_all : (List.range 2).all (fun k => xs_186 (xhmV 1 [.inr (.inr (.inl 0)), .inr (.inl (Int.negSucc 9223372036854775807, Int.ofNat 9223372036854775807))]) (xrsA xX [(none, [(696321, .inl (Int.ofNat (k + 1), Int.ofNat (k + 1)))])]) (4, [], [], xhmF 3 [(696321, .inl (Int.ofNat k, Int.ofNat k))], 0, [])) = true := by decide +kernel
set_option maxRecDepth 6000 in
theorem xenter {E : pm_H → Prop} (hE : xHE xX xgA_G58 xgF_G58 E) {m : Int} (hm : m ≤ 2147483646) (h0m : (0 : Int) ≤ m) {D : Nat} (hD : 1 ≤ D) {ph : pm_H} {x : Int64} {k : Nat} (hk : k < 2) (hP : xH xX kK m 0 ph) (g9 : E ph) (q1 : xiN ph 1 k) : ∃ v ph', pm_Rd kK false D 186 [.ref 170, .long x] ph (v, ph', 0, 0) ∧ (v = none ∧ xH xX kK m 0 ph' ∧ E ph' ∧ xiN ph' 1 (k + 1)) := by
  obtain ⟨y, y1, y2⟩ := q1
  obtain ⟨v, ph', k1, k2, k3, q, hq, k4, k5⟩ := xcok_alt (pre := [.inr (.inr (.inl 0)), .inr (.inl (Int.negSucc 9223372036854775807, Int.ofNat 9223372036854775807))]) (fp := [(696321, .inl (Int.ofNat k, Int.ofNat k))]) (xso_186 hE) (List.all_eq_true.mp xent_all k (List.mem_range.mpr hk)) D hD m hm h0m [.ref 170, .long x] ph ⟨xaRi rfl (by decide), xaL, trivial⟩ (xF1 (k := 696321) (x := y) (by decide) y1 (by show (k : Int) ≤ y.toInt; omega) (by show y.toInt ≤ (k : Int); omega)) hP g9
  have e := List.mem_singleton.mp hq
  subst e
  obtain ⟨x1, a1, b1, c1⟩ := xF_in (a := 170) (c := 1) k5 List.mem_cons_self (by decide) (by decide)
  have b1 : ((k + 1 : Nat) : Int) ≤ x1.toInt := b1
  have c1 : x1.toInt ≤ ((k + 1 : Nat) : Int) := c1
  exact ⟨v, ph', k1, k4, k2, k3, x1, a1, by omega⟩
noncomputable def xgA_LW : List Nat := 9 :: 10 :: xgA_G101
noncomputable def xgF_LW : List (Nat × Nat) := (0, 14) :: xgF_G101
set_option maxRecDepth 6000 in
theorem xHE_iN {gA : List Nat} {gF : List (Nat × Nat)} {k n : Nat} (h : xmemP gF 0 k = true) : xHE xX gA gF (fun p => xiN p k n) := fun p p' hs hp => by
  obtain ⟨x, h1, h2⟩ := hp
  exact ⟨x, (hs.2 170 0 k rfl (xmemP_in h)).symm.trans h1, h2⟩
set_option maxRecDepth 6000 in
theorem xHE_g {gA : List Nat} {gF : List (Nat × Nat)} {k : Nat} {v : Value} (h : xmemP gF 0 k = true) : xHE xX gA gF (fun p => xget p 170 k = some v) := fun p p' hs hp => (hs.2 170 0 k rfl (xmemP_in h)).symm.trans hp
set_option maxRecDepth 6000 in
theorem xHE_at {gA : List Nat} {gF : List (Nat × Nat)} {a i : Nat} {c : Option pm_C} (ho : xown a = some i) (h : xmemN gA i = true) : xHE xX gA gF (fun p => pm_at p a = c) := fun p p' hs hp => (hs.1 a i ho (xmemN_in h)).symm.trans hp
set_option maxRecDepth 6000 in
theorem xHE_and {gA : List Nat} {gF : List (Nat × Nat)} {E F : pm_H → Prop} (h1 : xHE xX gA gF E) (h2 : xHE xX gA gF F) : xHE xX gA gF (fun p => E p ∧ F p) := fun p p' hs hp => ⟨h1 p p' hs hp.1, h2 p p' hs hp.2⟩

set_option maxRecDepth 6000 in
theorem xlw_loop {E : pm_H → Prop} {gA : List Nat} {gF : List (Nat × Nat)} (hE : xHE xX gA gF E) (hg : xmemN gA 27 = false) (hl : ∀ k, xmemP gF 27 k = false) {m : Int} {D : Nat} {Q : Option Value → pm_H → Prop} {z s1 w y : Int32} {n : Nat} {l : List Int32} (hn : n ≤ 80) (hll : l.length = 80) (hy : y.toInt = (n : Int)) (hQ : ∀ ph' l' (x : Int32), xH xX kK m 0 ph' → E ph' → xget ph' 170 23 = some (.int y) → pm_at ph' 179 = some (.inl (0, .inl l)) → pm_at ph' 197 = some (.inl (0, .inl l')) → l'.length = 80 → l'.take n = l.take n → xGT kK D 290 Q (71, [some (.ref 170), some (.int z), some (.int s1), some (.int w), some (.int x)], [], ph', 0, 0)) : ∀ (s i : Nat) (x : Int32) (l2 : List Int32) (ph : pm_H), n - i < s → i ≤ n → x.toInt = (i : Int) → xH xX kK m 0 ph → E ph → xget ph 170 23 = some (.int y) → pm_at ph 197 = some (.inl (0, .inl l2)) → l2.length = 80 → pm_at ph 179 = some (.inl (0, .inl l)) → l2.take i = l.take i → xGT kK D 290 Q (42, [some (.ref 170), some (.int z), some (.int s1), some (.int w), some (.int x)], [], ph, 0, 0) := by
  intro s
  induction s with
  | zero => intro i x l2 ph h; omega
  | succ s ih =>
    intro i x l2 ph hs hi hx hP g9 q23 hat hlen hal htk
    by_cases hin : i = n
    · subst hin
      refine gt_load (v := .int x) (n := 2) (ykc_290 (e := (2, .iload 4, 0)) rfl) rfl rfl ?_
      refine gt_load (v := .ref 170) (n := 1) (ykc_290 (e := (2, .aload_n kF0, 0)) rfl) rfl rfl ?_
      refine gt_gfk (v := .int y) (ykc_290 (e := (5, .getfield 248, 0)) rfl) rfl hP q23 rfl ?_
      refine gt_ige_t (ykc_290 (e := (4, .if_icmp .ge 23, 71)) rfl) (by omega) ?_
      exact hQ ph l2 x hP g9 q23 hal hat hlen htk
    · have hi2 : i < n := by omega
      refine gt_load (v := .int x) (n := 2) (ykc_290 (e := (2, .iload 4, 0)) rfl) rfl rfl ?_
      refine gt_load (v := .ref 170) (n := 1) (ykc_290 (e := (2, .aload_n kF0, 0)) rfl) rfl rfl ?_
      refine gt_gfk (v := .int y) (ykc_290 (e := (5, .getfield 248, 0)) rfl) rfl hP q23 rfl ?_
      refine gt_ige_f (ykc_290 (e := (4, .if_icmp .ge 23, 71)) rfl) (by omega) rfl ?_
      refine gt_load (v := .ref 170) (n := 1) (ykc_290 (e := (2, .aload_n kF0, 0)) rfl) rfl rfl ?_
      refine gt_gfr (A := 197) (ykc_290 (e := (5, .getfield 110, 0)) rfl) rfl hP rfl rfl rfl ?_
      refine gt_load (v := .int x) (n := 2) (ykc_290 (e := (2, .iload 4, 0)) rfl) rfl rfl ?_
      refine gt_load (v := .ref 170) (n := 1) (ykc_290 (e := (2, .aload_n kF0, 0)) rfl) rfl rfl ?_
      refine gt_gfr (A := 179) (ykc_290 (e := (5, .getfield 56, 0)) rfl) rfl hP rfl rfl rfl ?_
      refine gt_load (v := .int x) (n := 2) (ykc_290 (e := (2, .iload 4, 0)) rfl) rfl rfl ?_
      refine gt_ial (A := 179) (ykc_290 (e := (5, .iaload, 0)) rfl) hP rfl rfl (by omega) (by omega) rfl (fun e0 g_e0 b_e0 => ?_)
      refine gt_ias (A := 197) (y := e0) (x := x) (ykc_290 (e := (5, .iastore, 0)) rfl) hP rfl rfl (by omega) (by omega) xany rfl (fun ph101 hP101 u101 => ?_)
      have f101_23 : xget ph101 170 23 = some (.int y) := (u101.2.1 170 23 (fun q => absurd q.1 (by decide))).trans q23
      obtain ⟨x1, e_x1, h_x1⟩ : ∃ zq : Int32, x + Int32.ofInt 1 = zq ∧ zq.toInt = x.toInt + 1 := ⟨_, rfl, by rw [ti_add (by rw [xi1]; omega) (by rw [xi1]; omega), xi1]⟩
      refine gt_store (L' := [some (.ref 170), some (.int z), some (.int s1), some (.int w), some (.int x1)]) (st' := []) (n := 3) (ykc_290 (e := (3, .iinc 4 1, 0)) rfl) (by rw [← e_x1]; rfl) rfl ?_
      refine gt_br (pc' := 42) (st' := []) (ykc_290 (e := (4, .goto (-26), 42)) rfl) rfl ?_
      obtain ⟨l3, hat3, hlen3, -⟩ := xA_at (A := 197) hP101 rfl rfl
      have el := xu1_list hat hat3 (by omega) (by omega) u101
      have ek : x.toInt.toNat = i := by omega
      rw [ek] at el
      have ge : l[i]? = some e0 := by
        have g := g_e0
        unfold xget at g
        rw [hal, ek] at g
        have g : (l[i]?).map Value.int = some (.int e0) := g
        obtain ⟨w, w1, w2⟩ := Option.map_eq_some_iff.mp g
        cases w2
        exact w1
      refine ih (i + 1) x1 l3 _ (by omega) (by omega) (by omega) hP101 (xu1_E hE u101 (i := 27) rfl hg (hl _) g9) ((u101.2.1 170 23 (fun q => absurd q.1 (by decide))).trans q23) hat3 (by omega) ((u101.2.2 179 (by decide)).trans hal) ?_
      rw [el, xtake_set (by omega), htk, List.take_succ, ge]
      rfl

set_option maxRecDepth 6000 in
theorem xlw_71 {E : pm_H → Prop} (hE : xHE xX xgA_G101 xgF_LW E) {m : Int} (hm : m ≤ 2147483646) (h0m : (0 : Int) ≤ m) {D' : Nat} (hD : 20 ≤ D') {Q : Option Value → pm_H → Prop} {z s1 w x xc : Int32} {n c : Nat} {lR lW : List Int32} (hQ : ∀ (r : Int32) ph', xH xX kK m 0 ph' → E ph' → xV ph' → Q (some (.int r)) ph') {ph : pm_H} (hP : xH xX kK m 0 ph) (g9 : E ph) (q24 : xget ph 170 24 = some (.int xc)) (ec : xc.toInt = (c : Int)) (hc : c ≤ 40) (hR : pm_at ph 180 = some (.inl (0, .inl lR))) (hlR : lR.length = 80) (hvR : xvc (lR.take c) 0 = true) (hW : pm_at ph 197 = some (.inl (0, .inl lW))) (hlW : lW.length = 80) (hvW : xvc (lW.take n) 0 = true) (hn : n ≤ 80) (hw : w.toInt = (n : Int)) : xGT kK (D' + 1) 290 Q (71, [some (.ref 170), some (.int z), some (.int s1), some (.int w), some (.int x)], [], ph, 0, 0) := by
  have hE7 : xHE xX xgA_G74 xgF_G74 (fun p => E p ∧ pm_at p 197 = some (.inl (0, .inl lW))) := xHE_and (xHE_sub (by decide +kernel) (by decide +kernel) hE) (xHE_at (i := 27) rfl (by decide))
  have hE8 : xHE xX xgA_G8 xgF_G8 (fun p => (E p ∧ pm_at p 197 = some (.inl (0, .inl lW))) ∧ xV p) := xHE_and (xHE_and (xHE_sub (by decide +kernel) (by decide +kernel) hE) (xHE_at (i := 27) rfl (by decide))) (xHE_sub (by decide +kernel) (by decide +kernel) xHEV)
  have hE9 : xHE xX xgA_G74 xgF_G74 E := xHE_sub (by decide +kernel) (by decide +kernel) hE
  have hE10 : xHE xX xgA_G58 xgF_G58 (fun p => E p ∧ xV p) := xHE_and (xHE_sub (by decide +kernel) (by decide +kernel) hE) (xHE_sub (by decide +kernel) (by decide +kernel) xHEV)
  refine gt_load (v := .ref 170) (n := 1) (ykc_290 (e := (2, .aload_n kF0, 0)) rfl) rfl rfl ?_
  refine gt_load (v := .ref 170) (n := 1) (ykc_290 (e := (2, .aload_n kF0, 0)) rfl) rfl rfl ?_
  refine gt_gfr (A := 180) (ykc_290 (e := (5, .getfield 59, 0)) rfl) rfl hP rfl rfl rfl ?_
  refine gt_load (v := .ref 170) (n := 1) (ykc_290 (e := (2, .aload_n kF0, 0)) rfl) rfl rfl ?_
  refine gt_gfk (v := .int xc) (ykc_290 (e := (5, .getfield 227, 0)) rfl) rfl hP q24 rfl ?_
  refine gt_cv (n := 2) (as := [.ref 170, .ref 180, .int xc]) (r := []) (ykc_290 (e := (6, .invokevirtual 254, 0)) rfl) rfl hP rfl rfl rfl (xlaycR (D := D') (n := c) hE7 (by omega) hlR ec hP ⟨g9, hW⟩ hR hvR) rfl (fun vv ph1 hv => ?_)
  obtain ⟨e9, hP1, g1, hV1, -⟩ := hv; subst e9
  change xGT kK (D' + 1) 290 Q (83, [some (.ref 170), some (.int z), some (.int s1), some (.int w), some (.int x)], [], ph1, 0, 0)
  refine gt_load (v := .ref 170) (n := 1) (ykc_290 (e := (2, .aload_n kF0, 0)) rfl) rfl rfl ?_
  refine gt_load (v := .ref 170) (n := 1) (ykc_290 (e := (2, .aload_n kF0, 0)) rfl) rfl rfl ?_
  refine gt_gfr (A := 174) (ykc_290 (e := (5, .getfield 41, 0)) rfl) rfl hP1 rfl rfl rfl ?_
  refine gt_cv (n := 1) (as := [.ref 170, .ref 174]) (r := []) (ykc_290 (e := (6, .invokevirtual 417, 0)) rfl) rfl hP1 rfl rfl rfl (xallseen hE8 (fun p h => h.2) hm h0m (by omega) hP1 ⟨g1, hV1⟩) rfl (fun vv ph2 hv => ?_)
  obtain ⟨s2, e9, hP2, g2⟩ := hv; subst e9
  change xGT kK (D' + 1) 290 Q (91, [some (.ref 170), some (.int z), some (.int s1), some (.int w), some (.int x)], [.long s2], ph2, 0, 0)
  refine gt_cs (n := 1) (as := [.long s2]) (r := []) (ykc_290 (e := (6, .invokestatic 405, 0)) rfl) rfl rfl rfl rfl (xbits (E := fun p => (E p ∧ pm_at p 197 = some (.inl (0, .inl lW))) ∧ xV p) hm h0m (by omega) hP2 g2) rfl (fun vv ph3 hv => ?_)
  obtain ⟨s3, e9, hP3, g3⟩ := hv; subst e9
  change xGT kK (D' + 1) 290 Q (94, [some (.ref 170), some (.int z), some (.int s1), some (.int w), some (.int x)], [.int s3], ph3, 0, 0)
  refine gt_store (L' := [some (.ref 170), some (.int z), some (.int s1), some (.int w), some (.int s3)]) (st' := []) (n := 2) (ykc_290 (e := (3, .istore 4, 0)) rfl) rfl rfl ?_
  refine gt_load (v := .ref 170) (n := 1) (ykc_290 (e := (2, .aload_n kF0, 0)) rfl) rfl rfl ?_
  refine gt_load (v := .ref 170) (n := 1) (ykc_290 (e := (2, .aload_n kF0, 0)) rfl) rfl rfl ?_
  refine gt_gfr (A := 197) (ykc_290 (e := (5, .getfield 110, 0)) rfl) rfl hP3 rfl rfl rfl ?_
  refine gt_load (v := .int w) (n := 1) (ykc_290 (e := (2, .iload_n kF3, 0)) rfl) rfl rfl ?_
  refine gt_cv (n := 2) (as := [.ref 170, .ref 197, .int w]) (r := []) (ykc_290 (e := (6, .invokevirtual 254, 0)) rfl) rfl hP3 rfl rfl rfl (xlaycW (D := D') (n := n) hE9 hn hlW hw hP3 g3.1.1 g3.1.2 hvW) rfl (fun vv ph4 hv => ?_)
  obtain ⟨e9, hP4, g4, hV4, -⟩ := hv; subst e9
  change xGT kK (D' + 1) 290 Q (105, [some (.ref 170), some (.int z), some (.int s1), some (.int w), some (.int s3)], [], ph4, 0, 0)
  refine gt_load (v := .ref 170) (n := 1) (ykc_290 (e := (2, .aload_n kF0, 0)) rfl) rfl rfl ?_
  refine gt_alu (st' := [.int (Int32.ofInt 0), .ref 170]) (ykc_290 (e := (0, .iconst 0, 0)) rfl) rfl rfl ?_
  refine gt_pf (y := Int32.ofInt 0) (ykc_290 (e := (5, .putfield 15, 0)) rfl) rfl hP4 rfl rfl (by decide) (by decide) rfl (fun ph5 hP5 u5 => ?_)
  have g5 : E ph5 ∧ xV ph5 := ⟨xu1_E hE u5 rfl rfl rfl g4, xu1_E xHEV u5 rfl rfl rfl hV4⟩
  have q5 : xiN ph5 1 0 := ⟨_, u5.1, by decide⟩
  refine gt_load (v := .ref 170) (n := 1) (ykc_290 (e := (2, .aload_n kF0, 0)) rfl) rfl rfl ?_
  refine gt_load (v := .int s3) (n := 2) (ykc_290 (e := (2, .iload 4, 0)) rfl) rfl rfl ?_
  refine gt_alu (st' := [.long s3.toInt64, .ref 170]) (ykc_290 (e := (0, .i2l, 0)) rfl) rfl rfl ?_
  refine gt_cv (n := 1) (as := [.ref 170, .long s3.toInt64]) (r := []) (ykc_290 (e := (6, .invokevirtual 373, 0)) rfl) rfl hP5 rfl rfl rfl (xenter hE10 hm h0m (by omega) (k := 0) (by decide) hP5 g5 q5) rfl (fun vv ph6 hv => ?_)
  obtain ⟨e9, hP6, g6, q6⟩ := hv; subst e9
  change xGT kK (D' + 1) 290 Q (117, [some (.ref 170), some (.int z), some (.int s1), some (.int w), some (.int s3)], [], ph6, 0, 0)
  refine gt_load (v := .ref 170) (n := 1) (ykc_290 (e := (2, .aload_n kF0, 0)) rfl) rfl rfl ?_
  refine gt_load (v := .int s1) (n := 1) (ykc_290 (e := (2, .iload_n kF2, 0)) rfl) rfl rfl ?_
  refine gt_alu (st' := [.long s1.toInt64, .ref 170]) (ykc_290 (e := (0, .i2l, 0)) rfl) rfl rfl ?_
  refine gt_cv (n := 1) (as := [.ref 170, .long s1.toInt64]) (r := []) (ykc_290 (e := (6, .invokevirtual 373, 0)) rfl) rfl hP6 rfl rfl rfl (xenter hE10 hm h0m (by omega) (k := 1) (by decide) hP6 g6 q6) rfl (fun vv ph7 hv => ?_)
  obtain ⟨e9, hP7, g7, q7⟩ := hv; subst e9
  change xGT kK (D' + 1) 290 Q (123, [some (.ref 170), some (.int z), some (.int s1), some (.int w), some (.int s3)], [], ph7, 0, 0)
  refine gt_load (v := .int s3) (n := 2) (ykc_290 (e := (2, .iload 4, 0)) rfl) rfl rfl ?_
  refine gt_load (v := .int s1) (n := 1) (ykc_290 (e := (2, .iload_n kF2, 0)) rfl) rfl rfl ?_
  refine gt_alu (st' := [.int (s3 - s1)]) (ykc_290 (e := (0, .isub, 0)) rfl) rfl rfl ?_
  refine gt_ret (ykc_290 (e := (7, .ireturn, 0)) rfl) rfl ?_
  exact hQ _ _ hP7 g7.1 g7.2

set_option maxRecDepth 6000 in
theorem xl27 : ∀ k, xmemP xgF_G8 27 k = false := by
  intro k
  have h : xgF_G8.all (fun p => !(Nat.beq p.1 27)) = true := by decide +kernel
  cases hk : xmemP xgF_G8 27 k with
  | false => rfl
  | true =>
    have h2 := List.all_eq_true.mp h _ (xmemP_in hk)
    have h2 : (!(Nat.beq 27 27)) = true := h2
    exact absurd h2 (by decide)

set_option maxRecDepth 6000 in
theorem xlaw {E : pm_H → Prop} (hE : xHE xX xgA_G101 xgF_G101 E) {m : Int} (hm : m ≤ 2147483646) (h0m : (0 : Int) ≤ m) {D : Nat} (hD : 110 ≤ D) {ph : pm_H} (hP : xH xX kK m 0 ph) (g9 : E ph) (hV : xV ph) : ∃ v ph', pm_Rd kK false D 290 [.ref 170] ph (v, ph', 0, 0) ∧ (∃ r : Int32, v = some (.int r) ∧ xH xX kK m 0 ph' ∧ E ph' ∧ xV ph' ∧ xiN ph' 14 0) := by
  obtain ⟨D', rfl⟩ : ∃ D', D = D' + 1 + 1 := ⟨D - 2, by omega⟩
  have hE1 := hE
  have hE2 : xHE xX xgA_G73 xgF_G73 (fun p => E p ∧ xV p) := xHE_and (xHE_sub (by decide +kernel) (by decide +kernel) hE) (xHE_sub (by decide +kernel) (by decide +kernel) xHEV)
  have hE6 : xHE xX xgA_G101 xgF_LW (fun p => E p ∧ xiN p 14 0) := xHE_and (xHE_sub (by decide +kernel) (by decide +kernel) hE) (xHE_iN (by decide))
  refine xRd_mk (nl := 5) rfl rfl ?_
  show xGT kK (D' + 1) 290 _ (0, [some (.ref 170), none, none, none, none], [], ph, 0, 0)
  refine gt_load (v := .ref 170) (n := 1) (ykc_290 (e := (2, .aload_n kF0, 0)) rfl) rfl rfl ?_
  refine gt_alu (st' := [.int (Int32.ofInt 0), .ref 170]) (ykc_290 (e := (0, .iconst 0, 0)) rfl) rfl rfl ?_
  refine gt_pf (y := Int32.ofInt 0) (ykc_290 (e := (5, .putfield 3, 0)) rfl) rfl hP rfl rfl (by decide) (by decide) rfl (fun ph1 hP1 u1 => ?_)
  have g1 : E ph1 ∧ xV ph1 := ⟨xu1_E hE1 u1 rfl rfl rfl g9, xu1_E xHEV u1 rfl rfl rfl hV⟩
  refine gt_load (v := .ref 170) (n := 1) (ykc_290 (e := (2, .aload_n kF0, 0)) rfl) rfl rfl ?_
  refine gt_cv (n := 0) (as := [.ref 170]) (r := []) (ykc_290 (e := (6, .invokevirtual 251, 0)) rfl) rfl hP1 rfl rfl rfl (xrrule hE2 hm h0m (by omega) hP1 g1) rfl (fun vv ph2 hv => ?_)
  obtain ⟨z1, c, lR, e9, hP2, g2, hz, hc, ⟨xc, qc, ec⟩, ht, hat, hlen, hvc⟩ := hv; subst e9
  change xGT kK (D' + 1) 290 _ (9, [some (.ref 170), none, none, none, none], [.int z1], ph2, 0, 0)
  refine gt_store (L' := [some (.ref 170), some (.int z1), none, none, none]) (st' := []) (n := 1) (ykc_290 (e := (3, .istore_n kF1, 0)) rfl) rfl rfl ?_
  by_cases hq : z1.toInt < 0
  · refine gt_load (v := .int z1) (n := 1) (ykc_290 (e := (2, .iload_n kF1, 0)) rfl) rfl rfl ?_
    refine gt_zge_f (ykc_290 (e := (4, .ifCond .ge 11, 22)) rfl) hq rfl ?_
    refine gt_load (v := .int z1) (n := 1) (ykc_290 (e := (2, .iload_n kF1, 0)) rfl) rfl rfl ?_
    refine gt_alu (st' := [.int (Int32.ofInt 1), .int z1]) (ykc_290 (e := (0, .iconst 1, 0)) rfl) rfl rfl ?_
    refine gt_alu (st' := [.int (z1 + (Int32.ofInt 1))]) (ykc_290 (e := (0, .iadd, 0)) rfl) rfl rfl ?_
    refine gt_push (v := .int ((Int16.ofInt 10000).toInt32)) (n := 3) (ykc_290 (e := (1, .sipush 10000, 0)) rfl) rfl rfl ?_
    refine gt_alu (st' := [.int ((z1 + (Int32.ofInt 1)) - ((Int16.ofInt 10000).toInt32))]) (ykc_290 (e := (0, .isub, 0)) rfl) rfl rfl ?_
    refine gt_ret (ykc_290 (e := (7, .ireturn, 0)) rfl) rfl ?_
    exact ⟨_, rfl, hP2, g2.1, g2.2, ht⟩
  · have hE5 : xHE xX xgA_G8 xgF_G8 (fun p => (E p ∧ xiN p 14 0 ∧ pm_at p 180 = some (.inl (0, .inl lR)) ∧ xget p 170 24 = some (.int xc)) ∧ xV p) := xHE_and (xHE_and (xHE_sub (by decide +kernel) (by decide +kernel) hE) (xHE_and (xHE_iN (by decide)) (xHE_and (xHE_at (i := 10) rfl (by decide)) (xHE_g (by decide))))) (xHE_sub (by decide +kernel) (by decide +kernel) xHEV)
    refine gt_load (v := .int z1) (n := 1) (ykc_290 (e := (2, .iload_n kF1, 0)) rfl) rfl rfl ?_
    refine gt_zge_t (ykc_290 (e := (4, .ifCond .ge 11, 22)) rfl) (by omega) ?_
    refine gt_load (v := .ref 170) (n := 1) (ykc_290 (e := (2, .aload_n kF0, 0)) rfl) rfl rfl ?_
    refine gt_load (v := .ref 170) (n := 1) (ykc_290 (e := (2, .aload_n kF0, 0)) rfl) rfl rfl ?_
    refine gt_gfr (A := 174) (ykc_290 (e := (5, .getfield 41, 0)) rfl) rfl hP2 rfl rfl rfl ?_
    refine gt_cv (n := 1) (as := [.ref 170, .ref 174]) (r := []) (ykc_290 (e := (6, .invokevirtual 417, 0)) rfl) rfl hP2 rfl rfl rfl (xallseen hE5 (fun p h => h.2) hm h0m (by omega) hP2 ⟨⟨g2.1, ht, hat, qc⟩, g2.2⟩) rfl (fun vv ph103 hv => ?_)
    obtain ⟨s1, e9, hP3, g3⟩ := hv; subst e9
    change xGT kK (D' + 1) 290 _ (30, [some (.ref 170), some (.int z1), none, none, none], [.long s1], ph103, 0, 0)
    refine gt_cs (n := 1) (as := [.long s1]) (r := []) (ykc_290 (e := (6, .invokestatic 405, 0)) rfl) rfl rfl rfl rfl (xbits (E := fun p => (E p ∧ xiN p 14 0 ∧ pm_at p 180 = some (.inl (0, .inl lR)) ∧ xget p 170 24 = some (.int xc)) ∧ xV p) hm h0m (by omega) hP3 g3) rfl (fun vv ph104 hv => ?_)
    obtain ⟨s2, e9, hP4, g4⟩ := hv; subst e9
    change xGT kK (D' + 1) 290 _ (33, [some (.ref 170), some (.int z1), none, none, none], [.int s2], ph104, 0, 0)
    refine gt_store (L' := [some (.ref 170), some (.int z1), some (.int s2), none, none]) (st' := []) (n := 1) (ykc_290 (e := (3, .istore_n kF2, 0)) rfl) rfl rfl ?_
    refine gt_load (v := .ref 170) (n := 1) (ykc_290 (e := (2, .aload_n kF0, 0)) rfl) rfl rfl ?_
    refine gt_gfi (ykc_290 (e := (5, .getfield 248, 0)) rfl) rfl hP4 rfl rfl (fun codeLong f_codeLong f0_codeLong f1_codeLong => ?_)
    refine gt_store (L' := [some (.ref 170), some (.int z1), some (.int s2), some (.int codeLong), none]) (st' := []) (n := 1) (ykc_290 (e := (3, .istore_n kF3, 0)) rfl) rfl rfl ?_
    refine gt_alu (st' := [.int (Int32.ofInt 0)]) (ykc_290 (e := (0, .iconst 0, 0)) rfl) rfl rfl ?_
    refine gt_store (L' := [some (.ref 170), some (.int z1), some (.int s2), some (.int codeLong), some (.int (Int32.ofInt 0))]) (st' := []) (n := 2) (ykc_290 (e := (3, .istore 4, 0)) rfl) rfl rfl ?_
    obtain ⟨⟨h1, h2, h3, h4⟩, l0, n0, v1, v2, v3, v4⟩ := id g4
    have ey := xget_int f_codeLong v2
    obtain ⟨lW, hW, hlW, -⟩ := xA_at (A := 197) hP4 rfl rfl
    obtain ⟨l9, hl9, hl9l, -⟩ := xA_at (A := 179) hP4 rfl rfl
    rw [v1] at hl9
    cases hl9
    have hy : codeLong.toInt = (n0 : Int) := by rw [ey, Int32.toInt_ofNat_of_lt (by omega)]
    have hEL : xHE xX xgA_LW xgF_G8 (fun p => (E p ∧ xiN p 14 0) ∧ pm_at p 180 = some (.inl (0, .inl lR)) ∧ xget p 170 24 = some (.int xc)) := xHE_and (xHE_and (xHE_sub (by decide +kernel) (by decide +kernel) hE) (xHE_iN (by decide))) (xHE_and (xHE_at (i := 10) rfl (by decide)) (xHE_g (by decide)))
    exact xlw_loop hEL (by decide) xl27 v3 hl9l hy (fun ph' l' x a1 a2 a3 a4 a5 a6 a7 => xlw_71 hE6 hm h0m (by omega) (fun r p b1 b2 b3 => ⟨r, rfl, b1, b2.1, b3, b2.2⟩) a1 a2.1 a2.2.2 ec hc a2.2.1 hlen (hvc (by omega)) a5 a6 (by rw [a7]; exact v4) v3 hy) (n0 + 1) 0 _ lW _ (by omega) (by omega) (by decide) hP4 ⟨⟨h1, h2⟩, h3, h4⟩ f_codeLong hW hlW v1 (by rw [List.take_zero, List.take_zero])

