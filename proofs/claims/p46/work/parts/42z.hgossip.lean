
/-! gossip, by hand, printed by wip/x/h_gossip.py -/
set_option maxRecDepth 6000 in
theorem xbits_all : (List.range 256).all (fun x => (List.range 8).all (fun k => decide (((Int32.ofInt (x : Int)).toInt64 >>> ((Int32.ofInt (k : Int)).toInt64 &&& 63)) &&& Int64.ofNat kG1 = Int64.ofNat kG1 ↔ x.testBit k = true))) = true := by decide +kernel
set_option maxRecDepth 6000 in
theorem xhasb_n {x k : Int32} {xn kn : Nat} (hx : x.toInt = (xn : Int)) (hk : k.toInt = (kn : Int)) (h1 : xn < 256) (h2 : kn < 8) : xhasb x.toInt64 k ↔ xn.testBit kn = true := by
  have h := of_decide_eq_true (List.all_eq_true.mp (List.all_eq_true.mp xbits_all xn (List.mem_range.mpr h1)) kn (List.mem_range.mpr h2))
  have e1 : Int32.ofInt (xn : Int) = x := by rw [← hx]; exact Int32.ofInt_toInt x
  have e2 : Int32.ofInt (kn : Int) = k := by rw [← hk]; exact Int32.ofInt_toInt k
  rw [e1, e2] at h
  exact h
set_option maxRecDepth 6000 in
theorem xshl_all : (List.range 8).all (fun k => decide ((Int32.ofInt 1 <<< (Int32.ofInt (k : Int) &&& 31)).toInt = ((2 ^ k : Nat) : Int))) = true := by decide +kernel
set_option maxRecDepth 6000 in
theorem ti_shl1 {k : Int32} {kn : Nat} (hk : k.toInt = (kn : Int)) (h : kn < 8) : (Int32.ofInt 1 <<< (k &&& 31)).toInt = ((2 ^ kn : Nat) : Int) := by
  have h9 := of_decide_eq_true (List.all_eq_true.mp xshl_all kn (List.mem_range.mpr h))
  have e2 : Int32.ofInt (kn : Int) = k := by rw [← hk]; exact Int32.ofInt_toInt k
  rw [e2] at h9
  exact h9
set_option maxRecDepth 6000 in
theorem ti_or {x y : Int32} {a b : Nat} (hx : x.toInt = (a : Int)) (hy : y.toInt = (b : Int)) : (x ||| y).toInt = ((a ||| b : Nat) : Int) := by
  obtain ⟨ex, lx⟩ := xnn (x := x) (by omega)
  obtain ⟨ey, ly⟩ := xnn (x := y) (by omega)
  have h3 : (x ||| y).toBitVec.toNat = x.toBitVec.toNat ||| y.toBitVec.toNat := by simp
  have h5 : x.toBitVec.toNat ||| y.toBitVec.toNat < 2 ^ 31 := Nat.or_lt_two_pow (by omega) (by omega)
  have h6 : (x ||| y).toInt = ((x ||| y).toBitVec.toNat : Int) := xnb (by omega)
  have e1 : x.toBitVec.toNat = a := by omega
  have e2 : y.toBitVec.toNat = b := by omega
  rw [h6, h3, e1, e2]
/-- how many of eight are not among them -/
def xoff (b : Nat) : Nat := ((List.range 8).filter (fun k => !b.testBit k)).length
set_option maxRecDepth 6000 in
theorem xoff_lt {b m : Nat} {k : Nat} (hk : k < 8) (h1 : b.testBit k = false) (h2 : m.testBit k = true) : xoff (b ||| m) < xoff b := by
  have hsub : ∀ (l : List Nat), (l.filter (fun k => !(b ||| m).testBit k)).length ≤ (l.filter (fun k => !b.testBit k)).length := fun l => by
    induction l with
    | nil => exact Nat.le_refl _
    | cons a l ih =>
      rw [List.filter_cons, List.filter_cons, Nat.testBit_or]
      cases hb : b.testBit a with
      | true => simp only [Bool.true_or, Bool.not_true]; exact ih
      | false =>
        cases hm : m.testBit a with
        | true => simp only [Bool.or_true, Bool.not_true, Bool.not_false, if_true]; exact Nat.le_succ_of_le ih
        | false => simp only [Bool.or_false, Bool.not_false, if_true, List.length_cons]; omega
  have hstrict : ∀ (l : List Nat), k ∈ l → (l.filter (fun k => !(b ||| m).testBit k)).length < (l.filter (fun k => !b.testBit k)).length := fun l => by
    induction l with
    | nil => intro h; cases h
    | cons a l ih =>
      intro h
      rw [List.filter_cons, List.filter_cons, Nat.testBit_or]
      rcases List.mem_cons.mp h with e | e
      · subst e
        rw [h1, h2]
        have := hsub l
        simp only [Bool.or_true, Bool.not_true, Bool.not_false, if_true, List.length_cons]
        show (l.filter _).length < _
        omega
      · have := ih e
        cases hb : b.testBit a with
        | true => simp only [Bool.true_or, Bool.not_true]; exact this
        | false =>
          cases hm : m.testBit a with
          | true => simp only [Bool.or_true, Bool.not_true, Bool.not_false, if_true, List.length_cons]; show (l.filter _).length < _; omega
          | false => simp only [Bool.or_false, Bool.not_false, if_true, List.length_cons]; omega
  exact hstrict _ (List.mem_range.mpr hk)
/-- what is more is none, or holds one that was not among them -/
def xmore (b m : Nat) : Prop := m = 0 ∨ ∃ k, k < 8 ∧ b.testBit k = false ∧ m.testBit k = true
set_option maxRecDepth 6000 in
theorem xmore_or {b m k : Nat} (hk : k < 8) (h : b.testBit k = false) : xmore b (m ||| 2 ^ k) := Or.inr ⟨k, hk, h, by rw [Nat.testBit_or, Nat.testBit_two_pow_self]; exact Bool.or_true _⟩

set_option maxRecDepth 6000 in
theorem xgossip_b {E : pm_H → Prop} (hE : xHE xX xgA_G94 xgF_G94 E) (hV : ∀ p, E p → xV p) {m : Int} (hm : m ≤ 2147483646) (h0m : (0 : Int) ≤ m) {D : Nat} (hD : 20 ≤ D) {p P : Int32} (hp1 : P.toInt ≤ 8) {Q : Option Value → pm_H → Prop} (hcall : ∀ (a b : Int32) (ph : pm_H), xH xX kK m 0 ph → E ph → 0 ≤ a.toInt → a.toInt ≤ 7 → 0 ≤ b.toInt → b.toInt ≤ 7 → ∃ v ph', pm_Rd kK false D 232 [.ref 170, .ref 174, .int a, .int b] ph (v, ph', 0, 0) ∧ (∃ z : Int32, v = some (.int z) ∧ xH xX kK m 0 ph' ∧ E ph' ∧ xget ph' 170 5 = xget ph 170 5)) {bits a : Int32} {Bn : Nat} (hBn : bits.toInt = (Bn : Int)) (hB : Bn < 256) (ha0 : 0 ≤ a.toInt) (ha1 : a.toInt < P.toInt) {rd3 : Int32} (kk : ∀ (more : Int32) (mn : Nat) (b : Int32) (ph : pm_H), xH xX kK m 0 ph → E ph → xget ph 170 5 = some (.int P) → more.toInt = (mn : Int) → mn < 256 → xmore Bn mn → xGT kK D 270 Q (118, [some (.ref 170), some (.int p), some (.int bits), some (.int rd3), some (.int more), some (.int a), some (.int b)], [], ph, 0, 0)) : ∀ (s : Nat) (more b : Int32) (mn : Nat) (ph : pm_H), xH xX kK m 0 ph → E ph → xget ph 170 5 = some (.int P) → more.toInt = (mn : Int) → mn < 256 → xmore Bn mn → 0 ≤ b.toInt → P.toInt ≤ b.toInt + s → xGT kK D 270 Q (55, [some (.ref 170), some (.int p), some (.int bits), some (.int rd3), some (.int more), some (.int a), some (.int b)], [], ph, 0, 0) := by
  obtain ⟨D', rfl⟩ : ∃ D', D = D' + 1 := ⟨D - 1, by omega⟩
  intro s
  induction s with
  | zero =>
    intro more b mn ph hP g9 hPe hmn hm9 hmo hb0 hbs
    refine gt_load (v := .int b) (n := 2) (ykc_270 (e := (2, .iload 6, 0)) rfl) rfl rfl ?_
    refine gt_load (v := .ref 170) (n := 1) (ykc_270 (e := (2, .aload_n kF0, 0)) rfl) rfl rfl ?_
    refine gt_gfk (v := .int P) (ykc_270 (e := (5, .getfield 130, 0)) rfl) rfl hP hPe rfl ?_
    refine gt_ige_t (ykc_270 (e := (4, .if_icmp .ge 57, 118)) rfl) (by omega) ?_
    exact kk _ mn _ _ hP g9 hPe hmn hm9 hmo
  | succ s ih =>
    intro more b mn ph hP g9 hPe hmn hm9 hmo hb0 hbs
    by_cases hbP : P.toInt ≤ b.toInt
    · refine gt_load (v := .int b) (n := 2) (ykc_270 (e := (2, .iload 6, 0)) rfl) rfl rfl ?_
      refine gt_load (v := .ref 170) (n := 1) (ykc_270 (e := (2, .aload_n kF0, 0)) rfl) rfl rfl ?_
      refine gt_gfk (v := .int P) (ykc_270 (e := (5, .getfield 130, 0)) rfl) rfl hP hPe rfl ?_
      refine gt_ige_t (ykc_270 (e := (4, .if_icmp .ge 57, 118)) rfl) (by omega) ?_
      exact kk _ mn _ _ hP g9 hPe hmn hm9 hmo
    obtain ⟨bn, hbn⟩ : ∃ n : Nat, b.toInt = (n : Int) := ⟨b.toInt.toNat, by omega⟩
    have hsame : ∀ (m1 b1 : Int32) (ph : pm_H), xH xX kK m 0 ph → E ph → xget ph 170 5 = some (.int P) → m1.toInt = ((mn ||| 0 : Nat) : Int) → b1.toInt = b.toInt + 1 → xGT kK (D' + 1) 270 Q (55, [some (.ref 170), some (.int p), some (.int bits), some (.int rd3), some (.int m1), some (.int a), some (.int b1)], [], ph, 0, 0) := fun m1 b1 ph hP g9 hPe h1 h2 => ih m1 b1 mn ph hP g9 hPe (by rw [h1, Nat.or_zero]) hm9 hmo (by omega) (by omega)
    refine gt_load (v := .int b) (n := 2) (ykc_270 (e := (2, .iload 6, 0)) rfl) rfl rfl ?_
    refine gt_load (v := .ref 170) (n := 1) (ykc_270 (e := (2, .aload_n kF0, 0)) rfl) rfl rfl ?_
    refine gt_gfk (v := .int P) (ykc_270 (e := (5, .getfield 130, 0)) rfl) rfl hP hPe rfl ?_
    refine gt_ige_f (ykc_270 (e := (4, .if_icmp .ge 57, 118)) rfl) (by omega) rfl ?_
    refine gt_load (v := .int more) (n := 2) (ykc_270 (e := (2, .iload 4, 0)) rfl) rfl rfl ?_
    refine gt_load (v := .int bits) (n := 1) (ykc_270 (e := (2, .iload_n kF2, 0)) rfl) rfl rfl ?_
    refine gt_alu (st' := [.long bits.toInt64, .int more]) (ykc_270 (e := (0, .i2l, 0)) rfl) rfl rfl ?_
    refine gt_load (v := .int a) (n := 2) (ykc_270 (e := (2, .iload 5, 0)) rfl) rfl rfl ?_
    refine gt_cs (n := 2) (as := [.long bits.toInt64, .int a]) (r := [.int more]) (ykc_270 (e := (6, .invokestatic 304, 0)) rfl) rfl rfl rfl rfl (xhas_run (D := D')) rfl (fun vv ph101 hv => ?_)
    obtain ⟨z1, e9, e8, z1_s⟩ := hv; subst e9; have e7 := e8.symm; subst e7
    change xGT kK (D' + 1) 270 Q (73, [some (.ref 170), some (.int p), some (.int bits), some (.int rd3), some (.int more), some (.int a), some (.int b)], [.int z1, .int more], ph, 0, 0)
    by_cases hz1 : z1.toInt = 0
    · refine gt_zeq_t (ykc_270 (e := (4, .ifCond .eq 35, 108)) rfl) hz1 ?_
      refine gt_alu (st' := [.int (Int32.ofInt 0), .int more]) (ykc_270 (e := (0, .iconst 0, 0)) rfl) rfl rfl ?_
      obtain ⟨m1, e_m1, h_m1⟩ : ∃ zq : Int32, more ||| (Int32.ofInt 0) = zq ∧ zq.toInt = ((mn ||| 0 : Nat) : Int) := ⟨_, rfl, ti_or hmn (by decide)⟩
      refine gt_alu (st' := [.int m1]) (ykc_270 (e := (0, .ior, 0)) rfl) (by rw [← e_m1]; exact rfl) rfl ?_
      refine gt_store (L' := [some (.ref 170), some (.int p), some (.int bits), some (.int rd3), some (.int m1), some (.int a), some (.int b)]) (st' := []) (n := 2) (ykc_270 (e := (3, .istore 4, 0)) rfl) rfl rfl ?_
      obtain ⟨b1, e_b1, h_b1⟩ : ∃ zq : Int32, b + Int32.ofInt 1 = zq ∧ zq.toInt = b.toInt + 1 := ⟨_, rfl, by rw [ti_add (by rw [xi1]; omega) (by rw [xi1]; omega), xi1]⟩
      refine gt_store (L' := [some (.ref 170), some (.int p), some (.int bits), some (.int rd3), some (.int m1), some (.int a), some (.int b1)]) (st' := []) (n := 3) (ykc_270 (e := (3, .iinc 6 1, 0)) rfl) (by rw [← e_b1]; rfl) rfl ?_
      refine gt_br (pc' := 55) (st' := []) (ykc_270 (e := (4, .goto (-60), 55)) rfl) rfl ?_
      exact hsame _ _ _ hP g9 hPe h_m1 h_b1
    · refine gt_zeq_f (ykc_270 (e := (4, .ifCond .eq 35, 108)) rfl) (by omega) rfl ?_
      refine gt_load (v := .int bits) (n := 1) (ykc_270 (e := (2, .iload_n kF2, 0)) rfl) rfl rfl ?_
      refine gt_alu (st' := [.long bits.toInt64, .int more]) (ykc_270 (e := (0, .i2l, 0)) rfl) rfl rfl ?_
      refine gt_load (v := .int b) (n := 2) (ykc_270 (e := (2, .iload 6, 0)) rfl) rfl rfl ?_
      refine gt_cs (n := 2) (as := [.long bits.toInt64, .int b]) (r := [.int more]) (ykc_270 (e := (6, .invokestatic 304, 0)) rfl) rfl rfl rfl rfl (xhas_run (D := D')) rfl (fun vv ph202 hv => ?_)
      obtain ⟨z2, e9, e8, z2_s⟩ := hv; subst e9; have e7 := e8.symm; subst e7
      change xGT kK (D' + 1) 270 Q (83, [some (.ref 170), some (.int p), some (.int bits), some (.int rd3), some (.int more), some (.int a), some (.int b)], [.int z2, .int more], ph, 0, 0)
      by_cases hz2 : z2.toInt = 0
      case neg =>
        refine gt_zne_t (ykc_270 (e := (4, .ifCond .ne 25, 108)) rfl) (by omega) ?_
        refine gt_alu (st' := [.int (Int32.ofInt 0), .int more]) (ykc_270 (e := (0, .iconst 0, 0)) rfl) rfl rfl ?_
        obtain ⟨m1, e_m1, h_m1⟩ : ∃ zq : Int32, more ||| (Int32.ofInt 0) = zq ∧ zq.toInt = ((mn ||| 0 : Nat) : Int) := ⟨_, rfl, ti_or hmn (by decide)⟩
        refine gt_alu (st' := [.int m1]) (ykc_270 (e := (0, .ior, 0)) rfl) (by rw [← e_m1]; exact rfl) rfl ?_
        refine gt_store (L' := [some (.ref 170), some (.int p), some (.int bits), some (.int rd3), some (.int m1), some (.int a), some (.int b)]) (st' := []) (n := 2) (ykc_270 (e := (3, .istore 4, 0)) rfl) rfl rfl ?_
        obtain ⟨b1, e_b1, h_b1⟩ : ∃ zq : Int32, b + Int32.ofInt 1 = zq ∧ zq.toInt = b.toInt + 1 := ⟨_, rfl, by rw [ti_add (by rw [xi1]; omega) (by rw [xi1]; omega), xi1]⟩
        refine gt_store (L' := [some (.ref 170), some (.int p), some (.int bits), some (.int rd3), some (.int m1), some (.int a), some (.int b1)]) (st' := []) (n := 3) (ykc_270 (e := (3, .iinc 6 1, 0)) rfl) (by rw [← e_b1]; rfl) rfl ?_
        refine gt_br (pc' := 55) (st' := []) (ykc_270 (e := (4, .goto (-60), 55)) rfl) rfl ?_
        exact hsame _ _ _ hP g9 hPe h_m1 h_b1
      case pos =>
        refine gt_zne_f (ykc_270 (e := (4, .ifCond .ne 25, 108)) rfl) hz2 rfl ?_
        refine gt_load (v := .ref 170) (n := 1) (ykc_270 (e := (2, .aload_n kF0, 0)) rfl) rfl rfl ?_
        refine gt_load (v := .ref 170) (n := 1) (ykc_270 (e := (2, .aload_n kF0, 0)) rfl) rfl rfl ?_
        refine gt_gfr (A := 174) (ykc_270 (e := (5, .getfield 41, 0)) rfl) rfl hP rfl rfl rfl ?_
        refine gt_load (v := .int a) (n := 2) (ykc_270 (e := (2, .iload 5, 0)) rfl) rfl rfl ?_
        refine gt_load (v := .int b) (n := 2) (ykc_270 (e := (2, .iload 6, 0)) rfl) rfl rfl ?_
        refine gt_cv (n := 3) (as := [.ref 170, .ref 174, .int a, .int b]) (r := [.int more]) (ykc_270 (e := (6, .invokevirtual 344, 0)) rfl) rfl hP rfl rfl rfl (hcall a b ph hP g9 (by omega) (by omega) (by omega) (by omega)) rfl (fun vv ph303 hv => ?_)
        obtain ⟨z3, e9, hP1, g91, hPe1⟩ := hv; subst e9
        change xGT kK (D' + 1) 270 Q (98, [some (.ref 170), some (.int p), some (.int bits), some (.int rd3), some (.int more), some (.int a), some (.int b)], [.int z3, .int more], ph303, 0, 0)
        replace hPe1 := hPe1.trans hPe
        by_cases hz3 : z3.toInt = 0
        · refine gt_zeq_t (ykc_270 (e := (4, .ifCond .eq 10, 108)) rfl) hz3 ?_
          refine gt_alu (st' := [.int (Int32.ofInt 0), .int more]) (ykc_270 (e := (0, .iconst 0, 0)) rfl) rfl rfl ?_
          obtain ⟨m1, e_m1, h_m1⟩ : ∃ zq : Int32, more ||| (Int32.ofInt 0) = zq ∧ zq.toInt = ((mn ||| 0 : Nat) : Int) := ⟨_, rfl, ti_or hmn (by decide)⟩
          refine gt_alu (st' := [.int m1]) (ykc_270 (e := (0, .ior, 0)) rfl) (by rw [← e_m1]; exact rfl) rfl ?_
          refine gt_store (L' := [some (.ref 170), some (.int p), some (.int bits), some (.int rd3), some (.int m1), some (.int a), some (.int b)]) (st' := []) (n := 2) (ykc_270 (e := (3, .istore 4, 0)) rfl) rfl rfl ?_
          obtain ⟨b1, e_b1, h_b1⟩ : ∃ zq : Int32, b + Int32.ofInt 1 = zq ∧ zq.toInt = b.toInt + 1 := ⟨_, rfl, by rw [ti_add (by rw [xi1]; omega) (by rw [xi1]; omega), xi1]⟩
          refine gt_store (L' := [some (.ref 170), some (.int p), some (.int bits), some (.int rd3), some (.int m1), some (.int a), some (.int b1)]) (st' := []) (n := 3) (ykc_270 (e := (3, .iinc 6 1, 0)) rfl) (by rw [← e_b1]; rfl) rfl ?_
          refine gt_br (pc' := 55) (st' := []) (ykc_270 (e := (4, .goto (-60), 55)) rfl) rfl ?_
          exact hsame _ _ _ hP1 g91 hPe1 h_m1 h_b1
        · refine gt_zeq_f (ykc_270 (e := (4, .ifCond .eq 10, 108)) rfl) hz3 rfl ?_
          refine gt_alu (st' := [.int (Int32.ofInt 1), .int more]) (ykc_270 (e := (0, .iconst 1, 0)) rfl) rfl rfl ?_
          refine gt_load (v := .int b) (n := 2) (ykc_270 (e := (2, .iload 6, 0)) rfl) rfl rfl ?_
          obtain ⟨s1, e_s1, h_s1⟩ : ∃ zq : Int32, (Int32.ofInt 1) <<< (b &&& 31) = zq ∧ zq.toInt = ((2 ^ bn : Nat) : Int) := ⟨_, rfl, ti_shl1 hbn (by omega)⟩
          refine gt_alu (st' := [.int s1, .int more]) (ykc_270 (e := (0, .ishl, 0)) rfl) (by rw [← e_s1]; exact rfl) rfl ?_
          refine gt_br (pc' := 109) (st' := [.int s1, .int more]) (ykc_270 (e := (4, .goto 4, 109)) rfl) rfl ?_
          obtain ⟨m1, e_m1, h_m1⟩ : ∃ zq : Int32, more ||| s1 = zq ∧ zq.toInt = ((mn ||| 2 ^ bn : Nat) : Int) := ⟨_, rfl, ti_or hmn h_s1⟩
          refine gt_alu (st' := [.int m1]) (ykc_270 (e := (0, .ior, 0)) rfl) (by rw [← e_m1]; exact rfl) rfl ?_
          refine gt_store (L' := [some (.ref 170), some (.int p), some (.int bits), some (.int rd3), some (.int m1), some (.int a), some (.int b)]) (st' := []) (n := 2) (ykc_270 (e := (3, .istore 4, 0)) rfl) rfl rfl ?_
          obtain ⟨b1, e_b1, h_b1⟩ : ∃ zq : Int32, b + Int32.ofInt 1 = zq ∧ zq.toInt = b.toInt + 1 := ⟨_, rfl, by rw [ti_add (by rw [xi1]; omega) (by rw [xi1]; omega), xi1]⟩
          refine gt_store (L' := [some (.ref 170), some (.int p), some (.int bits), some (.int rd3), some (.int m1), some (.int a), some (.int b1)]) (st' := []) (n := 3) (ykc_270 (e := (3, .iinc 6 1, 0)) rfl) (by rw [← e_b1]; rfl) rfl ?_
          refine gt_br (pc' := 55) (st' := []) (ykc_270 (e := (4, .goto (-60), 55)) rfl) rfl ?_
          have hnot : Bn.testBit bn = false := by
            have hx := xhasb_n hBn hbn hB (by omega)
            cases hq : Bn.testBit bn with
            | false => rfl
            | true =>
              have h9 := hx.mpr hq
              rcases z2_s with h | h
              · omega
              · exact absurd h9 h.2
          exact ih m1 b1 (mn ||| 2 ^ bn) _ hP1 g91 hPe1 h_m1 (Nat.or_lt_two_pow (n := 8) hm9 (Nat.pow_lt_pow_right (by decide) (show bn < 8 by omega))) (xmore_or (by omega) hnot) (by omega) (by omega)

set_option maxRecDepth 6000 in
theorem xgossip_a {E : pm_H → Prop} (hE : xHE xX xgA_G94 xgF_G94 E) (hV : ∀ p, E p → xV p) {m : Int} (hm : m ≤ 2147483646) (h0m : (0 : Int) ≤ m) {D : Nat} (hD : 20 ≤ D) {p P : Int32} (hp1 : P.toInt ≤ 8) {Q : Option Value → pm_H → Prop} (hcall : ∀ (a b : Int32) (ph : pm_H), xH xX kK m 0 ph → E ph → 0 ≤ a.toInt → a.toInt ≤ 7 → 0 ≤ b.toInt → b.toInt ≤ 7 → ∃ v ph', pm_Rd kK false D 232 [.ref 170, .ref 174, .int a, .int b] ph (v, ph', 0, 0) ∧ (∃ z : Int32, v = some (.int z) ∧ xH xX kK m 0 ph' ∧ E ph' ∧ xget ph' 170 5 = xget ph 170 5)) {bits : Int32} {Bn : Nat} (hBn : bits.toInt = (Bn : Int)) (hB : Bn < 256) {rd3 : Int32} (kk : ∀ (more : Int32) (mn : Nat) (a : Int32) (o6 : Option Value) (ph : pm_H), xH xX kK m 0 ph → E ph → xget ph 170 5 = some (.int P) → more.toInt = (mn : Int) → mn < 256 → xmore Bn mn → xGT kK D 270 Q (24, [some (.ref 170), some (.int p), some (.int bits), some (.int rd3), some (.int more), some (.int a), o6], [], ph, 0, 0)) : ∀ (s : Nat) (more a : Int32) (mn : Nat) (o6 : Option Value) (ph : pm_H), xH xX kK m 0 ph → E ph → xget ph 170 5 = some (.int P) → more.toInt = (mn : Int) → mn < 256 → xmore Bn mn → 0 ≤ a.toInt → P.toInt ≤ a.toInt + s → xGT kK D 270 Q (43, [some (.ref 170), some (.int p), some (.int bits), some (.int rd3), some (.int more), some (.int a), o6], [], ph, 0, 0) := by
  intro s
  induction s with
  | zero =>
    intro more a mn o6 ph hP g9 hPe hmn hm9 hmo ha0 has
    refine gt_load (v := .int a) (n := 2) (ykc_270 (e := (2, .iload 5, 0)) rfl) rfl rfl ?_
    refine gt_load (v := .ref 170) (n := 1) (ykc_270 (e := (2, .aload_n kF0, 0)) rfl) rfl rfl ?_
    refine gt_gfk (v := .int P) (ykc_270 (e := (5, .getfield 130, 0)) rfl) rfl hP hPe rfl ?_
    refine gt_ige_t (ykc_270 (e := (4, .if_icmp .ge 75, 124)) rfl) (by omega) ?_
    refine gt_br (pc' := 24) (st' := []) (ykc_270 (e := (4, .goto (-100), 24)) rfl) rfl ?_
    exact kk _ mn _ _ _ hP g9 hPe hmn hm9 hmo
  | succ s ih =>
    intro more a mn o6 ph hP g9 hPe hmn hm9 hmo ha0 has
    by_cases haP : P.toInt ≤ a.toInt
    · refine gt_load (v := .int a) (n := 2) (ykc_270 (e := (2, .iload 5, 0)) rfl) rfl rfl ?_
      refine gt_load (v := .ref 170) (n := 1) (ykc_270 (e := (2, .aload_n kF0, 0)) rfl) rfl rfl ?_
      refine gt_gfk (v := .int P) (ykc_270 (e := (5, .getfield 130, 0)) rfl) rfl hP hPe rfl ?_
      refine gt_ige_t (ykc_270 (e := (4, .if_icmp .ge 75, 124)) rfl) (by omega) ?_
      refine gt_br (pc' := 24) (st' := []) (ykc_270 (e := (4, .goto (-100), 24)) rfl) rfl ?_
      exact kk _ mn _ _ _ hP g9 hPe hmn hm9 hmo
    refine gt_load (v := .int a) (n := 2) (ykc_270 (e := (2, .iload 5, 0)) rfl) rfl rfl ?_
    refine gt_load (v := .ref 170) (n := 1) (ykc_270 (e := (2, .aload_n kF0, 0)) rfl) rfl rfl ?_
    refine gt_gfk (v := .int P) (ykc_270 (e := (5, .getfield 130, 0)) rfl) rfl hP hPe rfl ?_
    refine gt_ige_f (ykc_270 (e := (4, .if_icmp .ge 75, 124)) rfl) (by omega) rfl ?_
    refine gt_alu (st' := [.int (Int32.ofInt 0)]) (ykc_270 (e := (0, .iconst 0, 0)) rfl) rfl rfl ?_
    refine gt_store (L' := [some (.ref 170), some (.int p), some (.int bits), some (.int rd3), some (.int more), some (.int a), some (.int (Int32.ofInt 0))]) (st' := []) (n := 2) (ykc_270 (e := (3, .istore 6, 0)) rfl) rfl rfl ?_
    have z0 : (Int32.ofInt 0).toInt = 0 := by decide
    refine xgossip_b hE hV hm h0m hD hp1 hcall hBn hB ha0 (by omega) ?_ P.toInt.toNat more (Int32.ofInt 0) mn ph hP g9 hPe hmn hm9 hmo (by omega) (by omega)
    intro more2 mn2 b2 ph2 hP2 g92 hPe2 hmn2 hm92 hmo2
    obtain ⟨a1, e_a1, h_a1⟩ : ∃ zq : Int32, a + Int32.ofInt 1 = zq ∧ zq.toInt = a.toInt + 1 := ⟨_, rfl, by rw [ti_add (by rw [xi1]; omega) (by rw [xi1]; omega), xi1]⟩
    refine gt_store (L' := [some (.ref 170), some (.int p), some (.int bits), some (.int rd3), some (.int more2), some (.int a1), some (.int b2)]) (st' := []) (n := 3) (ykc_270 (e := (3, .iinc 5 1, 0)) rfl) (by rw [← e_a1]; rfl) rfl ?_
    refine gt_br (pc' := 43) (st' := []) (ykc_270 (e := (4, .goto (-78), 43)) rfl) rfl ?_
    exact ih _ _ mn2 _ _ hP2 g92 hPe2 hmn2 hm92 hmo2 (by omega) (by omega)

set_option maxRecDepth 6000 in
theorem xgossip_pass {E : pm_H → Prop} (hE : xHE xX xgA_G94 xgF_G94 E) (hV : ∀ p, E p → xV p) {m : Int} (hm : m ≤ 2147483646) (h0m : (0 : Int) ≤ m) {D : Nat} (hD : 20 ≤ D) {p P : Int32} (hp1 : P.toInt ≤ 8) {Q : Option Value → pm_H → Prop} (hcall : ∀ (a b : Int32) (ph : pm_H), xH xX kK m 0 ph → E ph → 0 ≤ a.toInt → a.toInt ≤ 7 → 0 ≤ b.toInt → b.toInt ≤ 7 → ∃ v ph', pm_Rd kK false D 232 [.ref 170, .ref 174, .int a, .int b] ph (v, ph', 0, 0) ∧ (∃ z : Int32, v = some (.int z) ∧ xH xX kK m 0 ph' ∧ E ph' ∧ xget ph' 170 5 = xget ph 170 5)) {bits more rd : Int32} {Bn mn : Nat} (hBn : bits.toInt = (Bn : Int)) (hB : Bn < 256) (hmn : more.toInt = (mn : Int)) (hm9 : mn < 256) (hmz : more.toInt ≠ 0) {o5 o6 : Option Value} {ph : pm_H} (hP : xH xX kK m 0 ph) (g9 : E ph) (hPe : xget ph 170 5 = some (.int P)) (kk : ∀ (bits2 more2 rd2 : Int32) (mn2 : Nat) (o5 o6 : Option Value) (ph : pm_H), bits2.toInt = ((Bn ||| mn : Nat) : Int) → xH xX kK m 0 ph → E ph → xget ph 170 5 = some (.int P) → more2.toInt = (mn2 : Int) → mn2 < 256 → xmore (Bn ||| mn) mn2 → xGT kK D 270 Q (24, [some (.ref 170), some (.int p), some (.int bits2), some (.int rd2), some (.int more2), o5, o6], [], ph, 0, 0)) : xGT kK D 270 Q (24, [some (.ref 170), some (.int p), some (.int bits), some (.int rd), some (.int more), o5, o6], [], ph, 0, 0) := by
  refine gt_load (v := .int more) (n := 2) (ykc_270 (e := (2, .iload 4, 0)) rfl) rfl rfl ?_
  refine gt_zeq_f (ykc_270 (e := (4, .ifCond .eq 101, 127)) rfl) hmz rfl ?_
  refine gt_store (L' := [some (.ref 170), some (.int p), some (.int bits), some (.int (rd + Int32.ofInt 1)), some (.int more), o5, o6]) (st' := []) (n := 3) (ykc_270 (e := (3, .iinc 3 1, 0)) rfl) rfl rfl ?_
  refine gt_load (v := .int bits) (n := 1) (ykc_270 (e := (2, .iload_n kF2, 0)) rfl) rfl rfl ?_
  refine gt_load (v := .int more) (n := 2) (ykc_270 (e := (2, .iload 4, 0)) rfl) rfl rfl ?_
  obtain ⟨bits2, e_bits2, h_bits2⟩ : ∃ zq : Int32, bits ||| more = zq ∧ zq.toInt = ((Bn ||| mn : Nat) : Int) := ⟨_, rfl, ti_or hBn hmn⟩
  refine gt_alu (st' := [.int bits2]) (ykc_270 (e := (0, .ior, 0)) rfl) (by rw [← e_bits2]; exact rfl) rfl ?_
  refine gt_store (L' := [some (.ref 170), some (.int p), some (.int bits2), some (.int (rd + Int32.ofInt 1)), some (.int more), o5, o6]) (st' := []) (n := 1) (ykc_270 (e := (3, .istore_n kF2, 0)) rfl) rfl rfl ?_
  refine gt_alu (st' := [.int (Int32.ofInt 0)]) (ykc_270 (e := (0, .iconst 0, 0)) rfl) rfl rfl ?_
  refine gt_store (L' := [some (.ref 170), some (.int p), some (.int bits2), some (.int (rd + Int32.ofInt 1)), some (.int (Int32.ofInt 0)), o5, o6]) (st' := []) (n := 2) (ykc_270 (e := (3, .istore 4, 0)) rfl) rfl rfl ?_
  refine gt_alu (st' := [.int (Int32.ofInt 0)]) (ykc_270 (e := (0, .iconst 0, 0)) rfl) rfl rfl ?_
  refine gt_store (L' := [some (.ref 170), some (.int p), some (.int bits2), some (.int (rd + Int32.ofInt 1)), some (.int (Int32.ofInt 0)), some (.int (Int32.ofInt 0)), o6]) (st' := []) (n := 2) (ykc_270 (e := (3, .istore 5, 0)) rfl) rfl rfl ?_
  have z0 : (Int32.ofInt 0).toInt = 0 := by decide
  have z00 : (Int32.ofInt 0).toInt = ((0 : Nat) : Int) := by decide
  exact xgossip_a hE hV hm h0m hD hp1 hcall h_bits2 (Nat.or_lt_two_pow (n := 8) hB hm9) (fun more2 mn2 a2 o6 ph2 h1 h2 h3 h4 h5 h6 => kk _ _ _ mn2 _ _ ph2 h_bits2 h1 h2 h3 h4 h5 h6) P.toInt.toNat _ _ 0 _ ph hP g9 hPe z00 (by decide) (Or.inl rfl) (by omega) (by omega)
set_option maxRecDepth 6000 in
theorem xgossip_loop {E : pm_H → Prop} (hE : xHE xX xgA_G94 xgF_G94 E) (hV : ∀ p, E p → xV p) {m : Int} (hm : m ≤ 2147483646) (h0m : (0 : Int) ≤ m) {D : Nat} (hD : 20 ≤ D) {p P : Int32} (hp1 : P.toInt ≤ 8) {Q : Option Value → pm_H → Prop} (hcall : ∀ (a b : Int32) (ph : pm_H), xH xX kK m 0 ph → E ph → 0 ≤ a.toInt → a.toInt ≤ 7 → 0 ≤ b.toInt → b.toInt ≤ 7 → ∃ v ph', pm_Rd kK false D 232 [.ref 170, .ref 174, .int a, .int b] ph (v, ph', 0, 0) ∧ (∃ z : Int32, v = some (.int z) ∧ xH xX kK m 0 ph' ∧ E ph' ∧ xget ph' 170 5 = xget ph 170 5)) (kk : ∀ (bits rd more : Int32) (o5 o6 : Option Value) (ph : pm_H), xH xX kK m 0 ph → E ph → more.toInt = 0 → xGT kK D 270 Q (24, [some (.ref 170), some (.int p), some (.int bits), some (.int rd), some (.int more), o5, o6], [], ph, 0, 0)) : ∀ (s : Nat) (bits more rd : Int32) (Bn mn : Nat) (o5 o6 : Option Value) (ph : pm_H), xoff Bn < s → bits.toInt = (Bn : Int) → Bn < 256 → more.toInt = (mn : Int) → mn < 256 → xmore Bn mn → xH xX kK m 0 ph → E ph → xget ph 170 5 = some (.int P) → xGT kK D 270 Q (24, [some (.ref 170), some (.int p), some (.int bits), some (.int rd), some (.int more), o5, o6], [], ph, 0, 0) := by
  intro s
  induction s with
  | zero => intro bits more rd Bn mn o5 o6 ph h; omega
  | succ s ih =>
    intro bits more rd Bn mn o5 o6 ph hs hBn hB hmn hm9 hmo hP g9 hPe
    by_cases hmz : more.toInt = 0
    · exact kk _ _ _ _ _ ph hP g9 hmz
    · refine xgossip_pass hE hV hm h0m hD hp1 hcall hBn hB hmn hm9 hmz hP g9 hPe ?_
      intro bits2 more2 rd2 mn2 o5 o6 ph2 h1 h2 h3 h4 h5 h6 h7
      rcases hmo with h | ⟨k, k1, k2, k3⟩
      · omega
      · have := xoff_lt k1 k2 k3
        exact ih _ _ _ (Bn ||| mn) mn2 _ _ _ (by omega) h1 (Nat.or_lt_two_pow (n := 8) hB hm9) h5 h6 h7 h2 h3 h4

set_option maxRecDepth 6000 in
theorem xgossip_end {E : pm_H → Prop} (hE : xHE xX xgA_G94 xgF_G94 E) (hV : ∀ p, E p → xV p) {m : Int} (hm : m ≤ 2147483646) (h0m : (0 : Int) ≤ m) {D' : Nat} {p P : Int32} (hp1 : P.toInt ≤ 8) {Q : Option Value → pm_H → Prop} (hQ : ∀ (z : Int32) (ph' : pm_H), xH xX kK m 0 ph' → E ph' → Q (some (.int z)) ph') {bits more rd : Int32} {o5 o6 : Option Value} {ph : pm_H} (hP : xH xX kK m 0 ph) (g9 : E ph) (hmz : more.toInt = 0) : xGT kK (D' + 1) 270 Q (24, [some (.ref 170), some (.int p), some (.int bits), some (.int rd), some (.int more), o5, o6], [], ph, 0, 0) := by
  refine gt_load (v := .int more) (n := 2) (ykc_270 (e := (2, .iload 4, 0)) rfl) rfl rfl ?_
  refine gt_zeq_t (ykc_270 (e := (4, .ifCond .eq 101, 127)) rfl) hmz ?_
  refine gt_load (v := .ref 170) (n := 1) (ykc_270 (e := (2, .aload_n kF0, 0)) rfl) rfl rfl ?_
  refine gt_alu (st' := [.int (Int32.ofInt 0), .ref 170]) (ykc_270 (e := (0, .iconst 0, 0)) rfl) rfl rfl ?_
  refine gt_pf (y := Int32.ofInt 0) (ykc_270 (e := (5, .putfield 15, 0)) rfl) rfl hP rfl rfl (by decide) (by decide) rfl (fun ph1 hP1 u1 => ?_)
  refine gt_load (v := .ref 170) (n := 1) (ykc_270 (e := (2, .aload_n kF0, 0)) rfl) rfl rfl ?_
  refine gt_load (v := .int rd) (n := 1) (ykc_270 (e := (2, .iload_n kF3, 0)) rfl) rfl rfl ?_
  refine gt_alu (st' := [.long rd.toInt64, .ref 170]) (ykc_270 (e := (0, .i2l, 0)) rfl) rfl rfl ?_
  refine gt_cv (n := 1) (as := [.ref 170, .long rd.toInt64]) (r := []) (ykc_270 (e := (6, .invokevirtual 373, 0)) rfl) rfl hP1 rfl rfl rfl (xenters (D := D') hP1 u1.1 (by decide) (by decide)) rfl (fun vv ph2 hv => ?_)
  obtain ⟨t1, e9, h_t1, hP2, u2⟩ := hv; subst e9
  change xGT kK (D' + 1) 270 Q (138, [some (.ref 170), some (.int p), some (.int bits), some (.int rd), some (.int more), o5, o6], [], ph2, 0, 0)
  refine gt_load (v := .int bits) (n := 1) (ykc_270 (e := (2, .iload_n kF2, 0)) rfl) rfl rfl ?_
  refine gt_ret (ykc_270 (e := (7, .ireturn, 0)) rfl) rfl ?_
  exact hQ _ _ hP2 (xent1_E hE u2 rfl rfl rfl (xu1_E hE u1 rfl rfl rfl g9))

set_option maxRecDepth 6000 in
theorem xgossip {E : pm_H → Prop} (hE : xHE xX xgA_G94 xgF_G94 E) (hV : ∀ p, E p → xV p) : xcon xX kK E 25 270 [.inr (.inr (.inl 0)), .inl ((Int.negSucc 2147483647), (Int.ofNat 2147483647))] [] 0 (some (.inl ((Int.negSucc 2147483647), (Int.ofNat 2147483647)))) [] := by
  intro D hD m hm h0m vs ph hv hf hP g9
  obtain ⟨D', rfl⟩ : ∃ D', D = D' + 1 + 1 + 1 := ⟨D - 3, by omega⟩
  have h0m : (0 : Int) ≤ m := h0m
  match vs, hv with
  | [v1, v2], ⟨q1, ⟨p, e2, _, _⟩, _⟩ =>
  have e1 := xaO hP (A := 170) rfl q1
  subst e1 e2
  suffices hs : ∃ v ph', pm_Rd kK false (D' + 1 + 1 + 1) 270 [.ref 170, .int p] ph (v, ph', 0, 0) ∧ (∃ z : Int32, v = some (.int z) ∧ xH xX kK m 0 ph' ∧ E ph') by
    obtain ⟨v, ph', k1, z, e, hP1, g91⟩ := hs
    exact ⟨v, ph', k1, hP1, g91, ⟨_, e, xaT⟩, xF0⟩
  obtain ⟨P, hPe, p0, p1⟩ := xM_fi (k := 5) hP rfl
  have p0 : 0 ≤ P.toInt := p0
  have p1 : P.toInt ≤ 8 := p1
  have hE0 : xHE xX xgA_G8 xgF_G8 E := xHE_sub (by decide +kernel) (by decide +kernel) hE
  have hcall : ∀ (a b : Int32) (ph : pm_H), xH xX kK m 0 ph → E ph → 0 ≤ a.toInt → a.toInt ≤ 7 → 0 ≤ b.toInt → b.toInt ≤ 7 → ∃ v ph', pm_Rd kK false (D' + 1 + 1) 232 [.ref 170, .ref 174, .int a, .int b] ph (v, ph', 0, 0) ∧ (∃ z : Int32, v = some (.int z) ∧ xH xX kK m 0 ph' ∧ E ph' ∧ xget ph' 170 5 = xget ph 170 5) := fun a b ph hP g9 a0 a1 b0 b1 => by
    obtain ⟨v, ph', k1, k2, k3, ⟨u, e, z, e2, -, -⟩, k5⟩ := xcon_go (w := 0) (xtell_174 (E := fun q => E q ∧ xcells xX [(0, 5)] ph q) (xHE_cells (by decide +kernel) hE0) (fun p h => hV p h.1)) rfl rfl rfl rfl (D := D' + 1 + 1) (by omega) hm h0m (Nat.le_refl _) (vs := [.ref 170, .ref 174, .int a, .int b]) ⟨xaRi rfl (by decide), xaRi rfl (by decide), xaI a0 a1, xaI b0 b1, trivial⟩ xF0 hP ⟨g9, fun _ _ _ _ _ => rfl⟩
    exact ⟨v, ph', k1, z, by rw [e, e2], k2, k3.1, k3.2 170 0 5 rfl List.mem_cons_self⟩
  refine xRd_mk (nl := 7) rfl rfl ?_
  show xGT kK (D' + 1 + 1) 270 _ (0, [some (.ref 170), some (.int p), none, none, none, none, none], [], ph, 0, 0)
  refine gt_load (v := .ref 170) (n := 1) (ykc_270 (e := (2, .aload_n kF0, 0)) rfl) rfl rfl ?_
  refine gt_alu (st' := [.int (Int32.ofInt 0), .ref 170]) (ykc_270 (e := (0, .iconst 0, 0)) rfl) rfl rfl ?_
  refine gt_pf (y := Int32.ofInt 0) (ykc_270 (e := (5, .putfield 3, 0)) rfl) rfl hP rfl rfl (by decide) (by decide) rfl (fun ph1 hP1 u1 => ?_)
  have f1_5 : xget ph1 170 5 = some (.int P) := (u1.2.1 170 5 (by decide)).trans hPe
  refine gt_load (v := .ref 170) (n := 1) (ykc_270 (e := (2, .aload_n kF0, 0)) rfl) rfl rfl ?_
  refine gt_load (v := .int p) (n := 1) (ykc_270 (e := (2, .iload_n kF1, 0)) rfl) rfl rfl ?_
  refine gt_cv (n := 1) (as := [.ref 170, .int p]) (r := []) (ykc_270 (e := (6, .invokevirtual 315, 0)) rfl) rfl hP1 rfl rfl rfl (xisPerson (D := D') hP1 f1_5) rfl (fun vv ph2 hv => ?_)
  obtain ⟨z, e9, e8, z_s⟩ := hv; subst e9; have e7 := e8.symm; subst e7
  change xGT kK (D' + 1 + 1) 270 _ (10, [some (.ref 170), some (.int p), none, none, none, none, none], [.int z], ph1, 0, 0)
  have g91 := xu1_E hE u1 rfl rfl rfl g9
  by_cases hz : z.toInt = 0
  · refine gt_zne_f (ykc_270 (e := (4, .ifCond .ne 5, 15)) rfl) hz rfl ?_
    refine gt_alu (st' := [.int (Int32.ofInt (-1))]) (ykc_270 (e := (0, .iconst (-1), 0)) rfl) rfl rfl ?_
    refine gt_ret (ykc_270 (e := (7, .ireturn, 0)) rfl) rfl ?_
    exact ⟨_, rfl, hP1, g91⟩
  · obtain ⟨pn, hpn⟩ : ∃ n : Nat, p.toInt = (n : Int) := ⟨p.toInt.toNat, by omega⟩
    refine gt_zne_t (ykc_270 (e := (4, .ifCond .ne 5, 15)) rfl) hz ?_
    refine gt_alu (st' := [.int (Int32.ofInt 1)]) (ykc_270 (e := (0, .iconst 1, 0)) rfl) rfl rfl ?_
    refine gt_load (v := .int p) (n := 1) (ykc_270 (e := (2, .iload_n kF1, 0)) rfl) rfl rfl ?_
    obtain ⟨bits, e_bits, h_bits⟩ : ∃ zq : Int32, (Int32.ofInt 1) <<< (p &&& 31) = zq ∧ zq.toInt = ((2 ^ pn : Nat) : Int) := ⟨_, rfl, ti_shl1 hpn (by omega)⟩
    refine gt_alu (st' := [.int bits]) (ykc_270 (e := (0, .ishl, 0)) rfl) (by rw [← e_bits]; exact rfl) rfl ?_
    refine gt_store (L' := [some (.ref 170), some (.int p), some (.int bits), none, none, none, none]) (st' := []) (n := 1) (ykc_270 (e := (3, .istore_n kF2, 0)) rfl) rfl rfl ?_
    refine gt_alu (st' := [.int (Int32.ofInt (-1))]) (ykc_270 (e := (0, .iconst (-1), 0)) rfl) rfl rfl ?_
    refine gt_store (L' := [some (.ref 170), some (.int p), some (.int bits), some (.int (Int32.ofInt (-1))), none, none, none]) (st' := []) (n := 1) (ykc_270 (e := (3, .istore_n kF3, 0)) rfl) rfl rfl ?_
    refine gt_load (v := .int bits) (n := 1) (ykc_270 (e := (2, .iload_n kF2, 0)) rfl) rfl rfl ?_
    refine gt_store (L' := [some (.ref 170), some (.int p), some (.int bits), some (.int (Int32.ofInt (-1))), some (.int bits), none, none]) (st' := []) (n := 2) (ykc_270 (e := (3, .istore 4, 0)) rfl) rfl rfl ?_
    have hB : 2 ^ pn < 256 := Nat.pow_lt_pow_right (m := pn) (n := 8) (by decide) (by omega)
    have hne : bits.toInt ≠ 0 := by
      have := Nat.two_pow_pos pn
      omega
    refine xgossip_pass hE hV hm h0m (by omega) p1 hcall h_bits hB h_bits hB hne hP1 g91 f1_5 ?_
    intro bits2 more2 rd2 mn2 o5 o6 ph2 h1 h2 h3 h4 h5 h6 h7
    exact xgossip_loop hE hV hm h0m (by omega) p1 hcall (fun bits rd more o5 o6 ph h1 h2 h3 => xgossip_end hE hV hm h0m p1 (fun z ph' h1 h2 => ⟨z, rfl, h1, h2⟩) h1 h2 h3) _ _ _ _ _ _ _ _ _ (Nat.lt_succ_self _) h1 (Nat.or_lt_two_pow (n := 8) hB hB) h5 h6 h7 h2 h3 h4

