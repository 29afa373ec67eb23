
/-! worked, ruled, by hand, printed by wip/x/h_ruled.py -/
set_option maxRecDepth 6000 in
theorem xzf {a b : Int} (h : b < a) : zle a b = false := by
  cases hq : zle a b with
  | false => rfl
  | true => have := zle_le hq; omega

set_option maxRecDepth 6000 in
theorem xflag {D : Nat} {x : Int32} {ph : pm_H} : ∃ v ph', pm_Rd kK false (D + 1) 184 [.int x] ph (v, ph', 0, 0) ∧ (∃ z : Int32, v = some (.int z) ∧ ph' = ph ∧ z.toInt = if x.toInt = 0 then 0 else 1) := by
  refine xRd_mk (nl := 1) rfl rfl ?_
  show xGT kK D 184 _ (0, [some (.int x)], [], ph, 0, 0)
  refine gt_load (v := .int x) (n := 1) (ykc_184 (e := (2, .iload_n kF0, 0)) rfl) rfl rfl ?_
  by_cases h : x.toInt = 0
  · refine gt_zeq_t (ykc_184 (e := (4, .ifCond .eq 7, 8)) rfl) h ?_
    refine gt_alu (st' := [.int (Int32.ofInt 0)]) (ykc_184 (e := (0, .iconst 0, 0)) rfl) rfl rfl ?_
    refine gt_ret (ykc_184 (e := (7, .ireturn, 0)) rfl) rfl ?_
    exact ⟨_, rfl, rfl, by rw [if_pos h]; decide⟩
  · refine gt_zeq_f (ykc_184 (e := (4, .ifCond .eq 7, 8)) rfl) h rfl ?_
    refine gt_alu (st' := [.int (Int32.ofInt 1)]) (ykc_184 (e := (0, .iconst 1, 0)) rfl) rfl rfl ?_
    refine gt_br (pc' := 9) (st' := [.int (Int32.ofInt 1)]) (ykc_184 (e := (4, .goto 4, 9)) rfl) rfl ?_
    refine gt_ret (ykc_184 (e := (7, .ireturn, 0)) rfl) rfl ?_
    exact ⟨_, rfl, rfl, by rw [if_neg h]; decide⟩
set_option maxRecDepth 6000 in
/-- a table of branches -/
theorem xts_in {pc aux : Nat} {d lo hi o : Int} {offs : Array Int} {x : Int32} {r : List Value} {t : Nat} (h1 : lo ≤ x.toInt) (h2 : x.toInt ≤ hi) (h3 : offs[(x.toInt - lo).toNat]? = some o) (h4 : pm_tgt pc o = some t) : pm_br (.tableswitch d lo hi offs) aux pc (.int x :: r) = some (t, r) := by
  show (bif decide (x.toInt < lo) || decide (hi < x.toInt) then (match pm_tgt pc d with
    | some t => some (t, r)
    | none => none) else (match offs[(x.toInt - lo).toNat]? with
    | some o => (match pm_tgt pc o with
      | some t => some (t, r)
      | none => none)
    | none => none)) = _
  rw [decide_eq_false (by omega), decide_eq_false (by omega), h3]
  simp only [Bool.or_self, cond_false, h4]
set_option maxRecDepth 6000 in
theorem xts_out {pc aux : Nat} {d lo hi : Int} {offs : Array Int} {x : Int32} {r : List Value} {t : Nat} (h1 : x.toInt < lo ∨ hi < x.toInt) (h4 : pm_tgt pc d = some t) : pm_br (.tableswitch d lo hi offs) aux pc (.int x :: r) = some (t, r) := by
  show (bif decide (x.toInt < lo) || decide (hi < x.toInt) then (match pm_tgt pc d with
    | some t => some (t, r)
    | none => none) else _) = _
  have e : (decide (x.toInt < lo) || decide (hi < x.toInt)) = true := by
    rcases h1 with h | h
    · rw [decide_eq_true h]; rfl
    · rw [decide_eq_true h]; exact Bool.or_true _
  rw [e]
  simp only [cond_true, h4]

set_option maxRecDepth 6000 in
theorem xworked {D : Nat} {c x y : Int32} {ph : pm_H} : ∃ v ph', pm_Rd kK false (D + 1 + 1) 218 [.int c, .int x, .int y] ph (v, ph', 0, 0) ∧ (∃ z : Int32, v = some (.int z) ∧ ph' = ph) := by
  refine xRd_mk (nl := 3) rfl rfl ?_
  show xGT kK (D + 1) 218 _ (0, [some (.int c), some (.int x), some (.int y)], [], ph, 0, 0)
  refine gt_load (v := .int c) (n := 1) (ykc_218 (e := (2, .iload_n kF0, 0)) rfl) rfl rfl ?_
  rcases (show c.toInt = 0 ∨ c.toInt = 1 ∨ c.toInt = 2 ∨ c.toInt = 3 ∨ c.toInt = 4 ∨ c.toInt = 5 ∨ (c.toInt < 0 ∨ 5 < c.toInt) by omega) with hc | hc | hc | hc | hc | hc | hc
  · refine gt_br (pc' := 40) (st' := []) (ykc_218 (e := (4, .tableswitch 93 0 5 #[39, 53, 67, 81, 85, 89], 39)) rfl) (xts_in (by omega) (by omega) (by rw [show (c.toInt - 0).toNat = 0 by omega]; rfl) rfl) ?_
    refine gt_load (v := .int x) (n := 1) (ykc_218 (e := (2, .iload_n kF1, 0)) rfl) rfl rfl ?_
    refine gt_load (v := .int y) (n := 1) (ykc_218 (e := (2, .iload_n kF2, 0)) rfl) rfl rfl ?_
    by_cases q : y.toInt ≤ x.toInt
    · refine gt_ige_t (ykc_218 (e := (4, .if_icmp .ge 7, 49)) rfl) q ?_
      refine gt_alu (st' := [.int (Int32.ofInt 0)]) (ykc_218 (e := (0, .iconst 0, 0)) rfl) rfl rfl ?_
      refine gt_cs (n := 1) (as := [.int (Int32.ofInt 0)]) (r := []) (ykc_218 (e := (6, .invokestatic 154, 0)) rfl) rfl rfl rfl rfl (xflag (D := D)) rfl (fun vv ph201 hv => ?_)
      obtain ⟨z, e9, e8, z_s⟩ := hv; subst e9; have e7 := e8.symm; subst e7
      change xGT kK (D + 1) 218 _ (53, [some (.int c), some (.int x), some (.int y)], [.int z], ph, 0, 0)
      refine gt_ret (ykc_218 (e := (7, .ireturn, 0)) rfl) rfl ?_
      exact ⟨_, rfl, rfl⟩
    · refine gt_ige_f (ykc_218 (e := (4, .if_icmp .ge 7, 49)) rfl) (by omega) rfl ?_
      refine gt_alu (st' := [.int (Int32.ofInt 1)]) (ykc_218 (e := (0, .iconst 1, 0)) rfl) rfl rfl ?_
      refine gt_br (pc' := 50) (st' := [.int (Int32.ofInt 1)]) (ykc_218 (e := (4, .goto 4, 50)) rfl) rfl ?_
      refine gt_cs (n := 1) (as := [.int (Int32.ofInt 1)]) (r := []) (ykc_218 (e := (6, .invokestatic 154, 0)) rfl) rfl rfl rfl rfl (xflag (D := D)) rfl (fun vv ph201 hv => ?_)
      obtain ⟨z, e9, e8, z_s⟩ := hv; subst e9; have e7 := e8.symm; subst e7
      change xGT kK (D + 1) 218 _ (53, [some (.int c), some (.int x), some (.int y)], [.int z], ph, 0, 0)
      refine gt_ret (ykc_218 (e := (7, .ireturn, 0)) rfl) rfl ?_
      exact ⟨_, rfl, rfl⟩
  · refine gt_br (pc' := 54) (st' := []) (ykc_218 (e := (4, .tableswitch 93 0 5 #[39, 53, 67, 81, 85, 89], 39)) rfl) (xts_in (by omega) (by omega) (by rw [show (c.toInt - 0).toNat = 1 by omega]; rfl) rfl) ?_
    refine gt_load (v := .int x) (n := 1) (ykc_218 (e := (2, .iload_n kF1, 0)) rfl) rfl rfl ?_
    refine gt_load (v := .int y) (n := 1) (ykc_218 (e := (2, .iload_n kF2, 0)) rfl) rfl rfl ?_
    by_cases q : x.toInt ≤ y.toInt
    · refine gt_ile_t (ykc_218 (e := (4, .if_icmp .le 7, 63)) rfl) q ?_
      refine gt_alu (st' := [.int (Int32.ofInt 0)]) (ykc_218 (e := (0, .iconst 0, 0)) rfl) rfl rfl ?_
      refine gt_cs (n := 1) (as := [.int (Int32.ofInt 0)]) (r := []) (ykc_218 (e := (6, .invokestatic 154, 0)) rfl) rfl rfl rfl rfl (xflag (D := D)) rfl (fun vv ph201 hv => ?_)
      obtain ⟨z, e9, e8, z_s⟩ := hv; subst e9; have e7 := e8.symm; subst e7
      change xGT kK (D + 1) 218 _ (67, [some (.int c), some (.int x), some (.int y)], [.int z], ph, 0, 0)
      refine gt_ret (ykc_218 (e := (7, .ireturn, 0)) rfl) rfl ?_
      exact ⟨_, rfl, rfl⟩
    · refine gt_ile_f (ykc_218 (e := (4, .if_icmp .le 7, 63)) rfl) (by omega) rfl ?_
      refine gt_alu (st' := [.int (Int32.ofInt 1)]) (ykc_218 (e := (0, .iconst 1, 0)) rfl) rfl rfl ?_
      refine gt_br (pc' := 64) (st' := [.int (Int32.ofInt 1)]) (ykc_218 (e := (4, .goto 4, 64)) rfl) rfl ?_
      refine gt_cs (n := 1) (as := [.int (Int32.ofInt 1)]) (r := []) (ykc_218 (e := (6, .invokestatic 154, 0)) rfl) rfl rfl rfl rfl (xflag (D := D)) rfl (fun vv ph201 hv => ?_)
      obtain ⟨z, e9, e8, z_s⟩ := hv; subst e9; have e7 := e8.symm; subst e7
      change xGT kK (D + 1) 218 _ (67, [some (.int c), some (.int x), some (.int y)], [.int z], ph, 0, 0)
      refine gt_ret (ykc_218 (e := (7, .ireturn, 0)) rfl) rfl ?_
      exact ⟨_, rfl, rfl⟩
  · refine gt_br (pc' := 68) (st' := []) (ykc_218 (e := (4, .tableswitch 93 0 5 #[39, 53, 67, 81, 85, 89], 39)) rfl) (xts_in (by omega) (by omega) (by rw [show (c.toInt - 0).toNat = 2 by omega]; rfl) rfl) ?_
    refine gt_load (v := .int x) (n := 1) (ykc_218 (e := (2, .iload_n kF1, 0)) rfl) rfl rfl ?_
    refine gt_load (v := .int y) (n := 1) (ykc_218 (e := (2, .iload_n kF2, 0)) rfl) rfl rfl ?_
    by_cases q : x.toInt ≠ y.toInt
    · refine gt_ine_t (ykc_218 (e := (4, .if_icmp .ne 7, 77)) rfl) q ?_
      refine gt_alu (st' := [.int (Int32.ofInt 0)]) (ykc_218 (e := (0, .iconst 0, 0)) rfl) rfl rfl ?_
      refine gt_cs (n := 1) (as := [.int (Int32.ofInt 0)]) (r := []) (ykc_218 (e := (6, .invokestatic 154, 0)) rfl) rfl rfl rfl rfl (xflag (D := D)) rfl (fun vv ph201 hv => ?_)
      obtain ⟨z, e9, e8, z_s⟩ := hv; subst e9; have e7 := e8.symm; subst e7
      change xGT kK (D + 1) 218 _ (81, [some (.int c), some (.int x), some (.int y)], [.int z], ph, 0, 0)
      refine gt_ret (ykc_218 (e := (7, .ireturn, 0)) rfl) rfl ?_
      exact ⟨_, rfl, rfl⟩
    · refine gt_ine_f (ykc_218 (e := (4, .if_icmp .ne 7, 77)) rfl) (by omega) rfl ?_
      refine gt_alu (st' := [.int (Int32.ofInt 1)]) (ykc_218 (e := (0, .iconst 1, 0)) rfl) rfl rfl ?_
      refine gt_br (pc' := 78) (st' := [.int (Int32.ofInt 1)]) (ykc_218 (e := (4, .goto 4, 78)) rfl) rfl ?_
      refine gt_cs (n := 1) (as := [.int (Int32.ofInt 1)]) (r := []) (ykc_218 (e := (6, .invokestatic 154, 0)) rfl) rfl rfl rfl rfl (xflag (D := D)) rfl (fun vv ph201 hv => ?_)
      obtain ⟨z, e9, e8, z_s⟩ := hv; subst e9; have e7 := e8.symm; subst e7
      change xGT kK (D + 1) 218 _ (81, [some (.int c), some (.int x), some (.int y)], [.int z], ph, 0, 0)
      refine gt_ret (ykc_218 (e := (7, .ireturn, 0)) rfl) rfl ?_
      exact ⟨_, rfl, rfl⟩
  · refine gt_br (pc' := 82) (st' := []) (ykc_218 (e := (4, .tableswitch 93 0 5 #[39, 53, 67, 81, 85, 89], 39)) rfl) (xts_in (by omega) (by omega) (by rw [show (c.toInt - 0).toNat = 3 by omega]; rfl) rfl) ?_
    refine gt_load (v := .int x) (n := 1) (ykc_218 (e := (2, .iload_n kF1, 0)) rfl) rfl rfl ?_
    refine gt_load (v := .int y) (n := 1) (ykc_218 (e := (2, .iload_n kF2, 0)) rfl) rfl rfl ?_
    refine gt_alu (st' := [.int (x + y)]) (ykc_218 (e := (0, .iadd, 0)) rfl) rfl rfl ?_
    refine gt_ret (ykc_218 (e := (7, .ireturn, 0)) rfl) rfl ?_
    exact ⟨_, rfl, rfl⟩
  · refine gt_br (pc' := 86) (st' := []) (ykc_218 (e := (4, .tableswitch 93 0 5 #[39, 53, 67, 81, 85, 89], 39)) rfl) (xts_in (by omega) (by omega) (by rw [show (c.toInt - 0).toNat = 4 by omega]; rfl) rfl) ?_
    refine gt_load (v := .int x) (n := 1) (ykc_218 (e := (2, .iload_n kF1, 0)) rfl) rfl rfl ?_
    refine gt_load (v := .int y) (n := 1) (ykc_218 (e := (2, .iload_n kF2, 0)) rfl) rfl rfl ?_
    refine gt_alu (st' := [.int (x - y)]) (ykc_218 (e := (0, .isub, 0)) rfl) rfl rfl ?_
    refine gt_ret (ykc_218 (e := (7, .ireturn, 0)) rfl) rfl ?_
    exact ⟨_, rfl, rfl⟩
  · refine gt_br (pc' := 90) (st' := []) (ykc_218 (e := (4, .tableswitch 93 0 5 #[39, 53, 67, 81, 85, 89], 39)) rfl) (xts_in (by omega) (by omega) (by rw [show (c.toInt - 0).toNat = 5 by omega]; rfl) rfl) ?_
    refine gt_load (v := .int x) (n := 1) (ykc_218 (e := (2, .iload_n kF1, 0)) rfl) rfl rfl ?_
    refine gt_load (v := .int y) (n := 1) (ykc_218 (e := (2, .iload_n kF2, 0)) rfl) rfl rfl ?_
    refine gt_alu (st' := [.int (x * y)]) (ykc_218 (e := (0, .imul, 0)) rfl) rfl rfl ?_
    refine gt_ret (ykc_218 (e := (7, .ireturn, 0)) rfl) rfl ?_
    exact ⟨_, rfl, rfl⟩
  · refine gt_br (pc' := 94) (st' := []) (ykc_218 (e := (4, .tableswitch 93 0 5 #[39, 53, 67, 81, 85, 89], 39)) rfl) (xts_out (by omega) rfl) ?_
    refine gt_load (v := .int y) (n := 1) (ykc_218 (e := (2, .iload_n kF2, 0)) rfl) rfl rfl ?_
    by_cases q : y.toInt ≠ 0
    · refine gt_zne_t (ykc_218 (e := (4, .ifCond .ne 7, 102)) rfl) q ?_
      refine gt_load (v := .int x) (n := 1) (ykc_218 (e := (2, .iload_n kF1, 0)) rfl) rfl rfl ?_
      refine gt_load (v := .int y) (n := 1) (ykc_218 (e := (2, .iload_n kF2, 0)) rfl) rfl rfl ?_
      refine gt_alu (st' := [.int (x / y)]) (ykc_218 (e := (0, .idiv, 0)) rfl) (xv_idiv x y _ q) rfl ?_
      refine gt_ret (ykc_218 (e := (7, .ireturn, 0)) rfl) rfl ?_
      exact ⟨_, rfl, rfl⟩
    · refine gt_zne_f (ykc_218 (e := (4, .ifCond .ne 7, 102)) rfl) (by omega) rfl ?_
      refine gt_alu (st' := [.int (Int32.ofInt 0)]) (ykc_218 (e := (0, .iconst 0, 0)) rfl) rfl rfl ?_
      refine gt_br (pc' := 105) (st' := [.int (Int32.ofInt 0)]) (ykc_218 (e := (4, .goto 6, 105)) rfl) rfl ?_
      refine gt_ret (ykc_218 (e := (7, .ireturn, 0)) rfl) rfl ?_
      exact ⟨_, rfl, rfl⟩

set_option maxRecDepth 6000 in
theorem xi1 : (Int32.ofInt 1).toInt = 1 := by decide
set_option maxRecDepth 6000 in
theorem xim1 : (Int32.ofInt (-1)).toInt = -1 := by decide
set_option maxRecDepth 6000 in
theorem x1000 : ((Int16.ofInt 1000).toInt32).toInt = 1000 := by decide
set_option maxRecDepth 6000 in
theorem x2000 : ((Int16.ofInt 2000).toInt32).toInt = 2000 := by decide
set_option maxRecDepth 6000 in
theorem x3000 : ((Int16.ofInt 3000).toInt32).toInt = 3000 := by decide
set_option maxRecDepth 6000 in
theorem xany {m : Int} {w k : Nat} {y : Int32} : xeG m w y.toInt (xat [] k) := ⟨x32_lo y, x32_hi y⟩
set_option maxRecDepth 6000 in
theorem xruled_loop {E : pm_H → Prop} (hE : xHE xX xgA_G8 xgF_G8 E) {m : Int} {w D n : Nat} {l : List Int32} {N : Int32} {Q : Option Value → pm_H → Prop} (hNn : N.toInt = (n : Int)) (hn : n ≤ 80) (hlen : l.length = 80) (hQ : ∀ (z : Int32) (ph' : pm_H), xH xX kK m w ph' → E ph' → Q (some (.int z)) ph') : ∀ (s : Nat) (t k : Int32) (o3 : Option Value) (d : Nat) (ph : pm_H), xH xX kK m w ph → E ph → xget ph 170 23 = some (.int N) → pm_at ph 179 = some (.inl (0, .inl l)) → k.toInt + s = n → 0 ≤ k.toInt → t.toInt = (d : Int) → xvc ((l.take n).drop k.toInt.toNat) d = true → d ≤ 80 → xGT kK (D + 1 + 1) 219 Q (4, [some (.ref 170), some (.int t), some (.int k), o3], [], ph, 0, 0) := by
  intro s
  induction s with
  | zero =>
    intro t k o3 d ph hP g9 hN hat hk hk0 ht hxv hd
    refine gt_load (v := .int k) (n := 1) (ykc_219 (e := (2, .iload_n kF2, 0)) rfl) rfl rfl ?_
    refine gt_load (v := .ref 170) (n := 1) (ykc_219 (e := (2, .aload_n kF0, 0)) rfl) rfl rfl ?_
    refine gt_gfk (v := .int N) (ykc_219 (e := (5, .getfield 248, 0)) rfl) rfl hP hN rfl ?_
    refine gt_ige_t (ykc_219 (e := (4, .if_icmp .ge 116, 125)) rfl) (by omega) ?_
    refine gt_load (v := .ref 170) (n := 1) (ykc_219 (e := (2, .aload_n kF0, 0)) rfl) rfl rfl ?_
    refine gt_gfk (v := .int N) (ykc_219 (e := (5, .getfield 248, 0)) rfl) rfl hP hN rfl ?_
    by_cases q : N.toInt ≠ 0
    · refine gt_zne_t (ykc_219 (e := (4, .ifCond .ne 19, 148)) rfl) q ?_
      refine gt_load (v := .ref 170) (n := 1) (ykc_219 (e := (2, .aload_n kF0, 0)) rfl) rfl rfl ?_
      refine gt_gfr (A := 181) (ykc_219 (e := (5, .getfield 62, 0)) rfl) rfl hP rfl rfl rfl ?_
      refine gt_alu (st' := [.int (Int32.ofInt 0), .ref 181]) (ykc_219 (e := (0, .iconst 0, 0)) rfl) rfl rfl ?_
      refine gt_ial (A := 181) (ykc_219 (e := (5, .iaload, 0)) rfl) hP rfl rfl (by decide) (by decide) rfl (fun z g_z b_z => ?_)
      refine gt_ret (ykc_219 (e := (7, .ireturn, 0)) rfl) rfl ?_
      exact hQ _ _ hP g9
    · refine gt_zne_f (ykc_219 (e := (4, .ifCond .ne 19, 148)) rfl) (by omega) rfl ?_
      refine gt_load (v := .ref 170) (n := 1) (ykc_219 (e := (2, .aload_n kF0, 0)) rfl) rfl rfl ?_
      refine gt_gfr (A := 182) (ykc_219 (e := (5, .getfield 65, 0)) rfl) rfl hP rfl rfl rfl ?_
      refine gt_alu (st' := [.int (Int32.ofInt 1), .ref 182]) (ykc_219 (e := (0, .iconst 1, 0)) rfl) rfl rfl ?_
      refine gt_ial (A := 182) (ykc_219 (e := (5, .iaload, 0)) rfl) hP rfl rfl (by decide) (by decide) rfl (fun z1 g_z1 b_z1 => ?_)
      refine gt_load (v := .ref 170) (n := 1) (ykc_219 (e := (2, .aload_n kF0, 0)) rfl) rfl rfl ?_
      refine gt_gfr (A := 182) (ykc_219 (e := (5, .getfield 65, 0)) rfl) rfl hP rfl rfl rfl ?_
      refine gt_alu (st' := [.int (Int32.ofInt 0), .ref 182, .int z1]) (ykc_219 (e := (0, .iconst 0, 0)) rfl) rfl rfl ?_
      refine gt_ial (A := 182) (ykc_219 (e := (5, .iaload, 0)) rfl) hP rfl rfl (by decide) (by decide) rfl (fun z2 g_z2 b_z2 => ?_)
      refine gt_alu (st' := [.int (z1 - z2)]) (ykc_219 (e := (0, .isub, 0)) rfl) rfl rfl ?_
      refine gt_br (pc' := 154) (st' := [.int (z1 - z2)]) (ykc_219 (e := (4, .goto 9, 154)) rfl) rfl ?_
      refine gt_ret (ykc_219 (e := (7, .ireturn, 0)) rfl) rfl ?_
      exact hQ _ _ hP g9
  | succ s ih0 =>
    have ih : ∀ (t k : Int32) (o3 : Option Value) (d : Nat) (ph : pm_H), xH xX kK m w ph → E ph → xget ph 170 23 = some (.int N) → pm_at ph 179 = some (.inl (0, .inl l)) → k.toInt + s = n → 0 ≤ k.toInt → t.toInt = (d : Int) → xvc ((l.take n).drop k.toInt.toNat) d = true → d ≤ 80 → xGT kK (D + 1 + 1) 219 Q (4, [some (.ref 170), some (.int t), some (.int k), o3], [], ph, 0, 0) := ih0
    intro t k o3 d ph hP g9 hN hat hk hk0 ht hxv hd
    have hA : ∃ l, pm_at ph 179 = some (.inl (0, .inl l)) := ⟨l, hat⟩
    have hlt : k.toInt.toNat < l.length := by omega
    obtain ⟨c, hc9⟩ : ∃ c, l[k.toInt.toNat]? = some c := ⟨_, List.getElem?_eq_getElem hlt⟩
    have hc : xget ph 179 k.toInt.toNat = some (.int c) := by
      unfold xget
      rw [hat]
      show (l[k.toInt.toNat]?).map Value.int = _
      rw [hc9]
      rfl
    have hdrop : (l.take n).drop k.toInt.toNat = c :: (l.take n).drop (k.toInt.toNat + 1) := by
      have h1 : (l.take n)[k.toInt.toNat]? = some c := by rw [List.getElem?_take_of_lt (by omega)]; exact hc9
      obtain ⟨h2, h3⟩ := List.getElem?_eq_some_iff.mp h1
      rw [List.drop_eq_getElem_cons h2, h3]
    rw [hdrop] at hxv
    unfold xvc at hxv
    refine gt_load (v := .int k) (n := 1) (ykc_219 (e := (2, .iload_n kF2, 0)) rfl) rfl rfl ?_
    refine gt_load (v := .ref 170) (n := 1) (ykc_219 (e := (2, .aload_n kF0, 0)) rfl) rfl rfl ?_
    refine gt_gfk (v := .int N) (ykc_219 (e := (5, .getfield 248, 0)) rfl) rfl hP hN rfl ?_
    refine gt_ige_f (ykc_219 (e := (4, .if_icmp .ge 116, 125)) rfl) (by omega) rfl ?_
    refine gt_load (v := .ref 170) (n := 1) (ykc_219 (e := (2, .aload_n kF0, 0)) rfl) rfl rfl ?_
    refine gt_gfr (A := 179) (ykc_219 (e := (5, .getfield 56, 0)) rfl) rfl hP rfl rfl rfl ?_
    refine gt_load (v := .int k) (n := 1) (ykc_219 (e := (2, .iload_n kF2, 0)) rfl) rfl rfl ?_
    refine gt_ialk (y := c) (ykc_219 (e := (5, .iaload, 0)) rfl) hc hA (by omega) rfl ?_
    refine gt_store (L' := [some (.ref 170), some (.int t), some (.int k), some (.int c)]) (st' := []) (n := 1) (ykc_219 (e := (3, .istore_n kF3, 0)) rfl) rfl rfl ?_
    refine gt_load (v := .int c) (n := 1) (ykc_219 (e := (2, .iload_n kF3, 0)) rfl) rfl rfl ?_
    refine gt_push (v := .int ((Int16.ofInt 3000).toInt32)) (n := 3) (ykc_219 (e := (1, .sipush 3000, 0)) rfl) rfl rfl ?_
    rcases (show c.toInt = 3000 ∨ (2000 ≤ c.toInt ∧ c.toInt ≠ 3000) ∨ (1000 ≤ c.toInt ∧ c.toInt < 2000) ∨ c.toInt < 1000 by omega) with q | q | q | q
    · rw [zle_iff.mpr (show (3000 : Int) ≤ c.toInt by omega), zle_iff.mpr (show c.toInt ≤ 3000 by omega)] at hxv
      simp only [cond_true] at hxv
      obtain ⟨h1, hx3⟩ := x_and hxv
      have h1 := Nat.le_of_ble_eq_true h1
      refine gt_ine_f (ykc_219 (e := (4, .if_icmp .ne 23, 46)) rfl) (by rw [x3000]; omega) rfl ?_
      refine gt_load (v := .ref 170) (n := 1) (ykc_219 (e := (2, .aload_n kF0, 0)) rfl) rfl rfl ?_
      refine gt_gfr (A := 181) (ykc_219 (e := (5, .getfield 62, 0)) rfl) rfl hP rfl rfl rfl ?_
      refine gt_load (v := .int t) (n := 1) (ykc_219 (e := (2, .iload_n kF1, 0)) rfl) rfl rfl ?_
      refine gt_alu (st' := [.int (Int32.ofInt 1), .int t, .ref 181]) (ykc_219 (e := (0, .iconst 1, 0)) rfl) rfl rfl ?_
      obtain ⟨i1, e_i1, h_i1⟩ : ∃ zq : Int32, t - (Int32.ofInt 1) = zq ∧ zq.toInt = t.toInt - 1 := ⟨_, rfl, by rw [ti_sub (by rw [xi1]; omega) (by rw [xi1]; omega), xi1]⟩
      refine gt_alu (st' := [.int i1, .ref 181]) (ykc_219 (e := (0, .isub, 0)) rfl) (by rw [← e_i1]; exact rfl) rfl ?_
      refine gt_load (v := .ref 170) (n := 1) (ykc_219 (e := (2, .aload_n kF0, 0)) rfl) rfl rfl ?_
      refine gt_gfr (A := 181) (ykc_219 (e := (5, .getfield 62, 0)) rfl) rfl hP rfl rfl rfl ?_
      refine gt_load (v := .int t) (n := 1) (ykc_219 (e := (2, .iload_n kF1, 0)) rfl) rfl rfl ?_
      refine gt_alu (st' := [.int (Int32.ofInt 1), .int t, .ref 181, .int i1, .ref 181]) (ykc_219 (e := (0, .iconst 1, 0)) rfl) rfl rfl ?_
      obtain ⟨i2, e_i2, h_i2⟩ : ∃ zq : Int32, t - (Int32.ofInt 1) = zq ∧ zq.toInt = t.toInt - 1 := ⟨_, rfl, by rw [ti_sub (by rw [xi1]; omega) (by rw [xi1]; omega), xi1]⟩
      refine gt_alu (st' := [.int i2, .ref 181, .int i1, .ref 181]) (ykc_219 (e := (0, .isub, 0)) rfl) (by rw [← e_i2]; exact rfl) rfl ?_
      refine gt_ial (A := 181) (ykc_219 (e := (5, .iaload, 0)) rfl) hP rfl rfl (by omega) (by omega) rfl (fun y g_y b_y => ?_)
      refine gt_alu (st' := [.int (-y), .int i1, .ref 181]) (ykc_219 (e := (0, .ineg, 0)) rfl) rfl rfl ?_
      refine gt_ias (A := 181) (y := -y) (x := i1) (ykc_219 (e := (5, .iastore, 0)) rfl) hP rfl rfl (by omega) (by omega) xany rfl (fun ph201 hP201 u201 => ?_)
      have f201_23 : xget ph201 170 23 = some (.int N) := (u201.2.1 170 23 (fun q => absurd q.1 (by decide))).trans hN
      refine gt_br (pc' := 119) (st' := []) (ykc_219 (e := (4, .goto 76, 119)) rfl) rfl ?_
      obtain ⟨k1, e_k1, h_k1⟩ : ∃ zq : Int32, k + Int32.ofInt 1 = zq ∧ zq.toInt = k.toInt + 1 := ⟨_, rfl, by rw [ti_add (by rw [xi1]; omega) (by rw [xi1]; omega), xi1]⟩
      refine gt_store (L' := [some (.ref 170), some (.int t), some (.int k1), some (.int c)]) (st' := []) (n := 3) (ykc_219 (e := (3, .iinc 2 1, 0)) rfl) (by rw [← e_k1]; rfl) rfl ?_
      refine gt_br (pc' := 4) (st' := []) (ykc_219 (e := (4, .goto (-118), 4)) rfl) rfl ?_
      exact ih t k1 _ (d) _ hP201 (xu1_E hE u201 rfl rfl rfl g9) ((u201.2.1 170 23 (fun q => absurd q.1 (by decide))).trans hN) ((u201.2.2 179 (by decide)).trans hat) (by omega) (by omega) (by omega) (by rw [show k1.toInt.toNat = k.toInt.toNat + 1 by omega]; exact hx3) (by omega)
    · have hx9 : (bif Nat.ble 2 d then xvc ((l.take n).drop (k.toInt.toNat + 1)) (d - 1) else false) = true := by
        rcases (show 3000 < c.toInt ∨ c.toInt < 3000 by omega) with r | r
        · rw [zle_iff.mpr (show (3000 : Int) ≤ c.toInt by omega), xzf (show c.toInt > 3000 by omega)] at hxv
          exact hxv
        · rw [xzf (show (3000 : Int) > c.toInt by omega), zle_iff.mpr (show (2000 : Int) ≤ c.toInt by omega)] at hxv
          exact hxv
      obtain ⟨h1, hx3⟩ := x_and hx9
      have h1 := Nat.le_of_ble_eq_true h1
      refine gt_ine_t (ykc_219 (e := (4, .if_icmp .ne 23, 46)) rfl) (by rw [x3000]; omega) ?_
      refine gt_load (v := .int c) (n := 1) (ykc_219 (e := (2, .iload_n kF3, 0)) rfl) rfl rfl ?_
      refine gt_push (v := .int ((Int16.ofInt 2000).toInt32)) (n := 3) (ykc_219 (e := (1, .sipush 2000, 0)) rfl) rfl rfl ?_
      refine gt_ilt_f (ykc_219 (e := (4, .if_icmp .lt 39, 89)) rfl) (by rw [x2000]; omega) rfl ?_
      obtain ⟨t1, e_t1, h_t1⟩ : ∃ zq : Int32, t + Int32.ofInt (-1) = zq ∧ zq.toInt = t.toInt - 1 := ⟨_, rfl, by rw [ti_add (by rw [xim1]; omega) (by rw [xim1]; omega), xim1]; omega⟩
      refine gt_store (L' := [some (.ref 170), some (.int t1), some (.int k), some (.int c)]) (st' := []) (n := 3) (ykc_219 (e := (3, .iinc 1 (-1), 0)) rfl) (by rw [← e_t1]; rfl) rfl ?_
      refine gt_load (v := .ref 170) (n := 1) (ykc_219 (e := (2, .aload_n kF0, 0)) rfl) rfl rfl ?_
      refine gt_gfr (A := 181) (ykc_219 (e := (5, .getfield 62, 0)) rfl) rfl hP rfl rfl rfl ?_
      refine gt_load (v := .int t1) (n := 1) (ykc_219 (e := (2, .iload_n kF1, 0)) rfl) rfl rfl ?_
      refine gt_alu (st' := [.int (Int32.ofInt 1), .int t1, .ref 181]) (ykc_219 (e := (0, .iconst 1, 0)) rfl) rfl rfl ?_
      obtain ⟨i1, e_i1, h_i1⟩ : ∃ zq : Int32, t1 - (Int32.ofInt 1) = zq ∧ zq.toInt = t.toInt - 2 := ⟨_, rfl, by rw [ti_sub (by rw [xi1]; omega) (by rw [xi1]; omega), xi1]; omega⟩
      refine gt_alu (st' := [.int i1, .ref 181]) (ykc_219 (e := (0, .isub, 0)) rfl) (by rw [← e_i1]; exact rfl) rfl ?_
      refine gt_load (v := .int c) (n := 1) (ykc_219 (e := (2, .iload_n kF3, 0)) rfl) rfl rfl ?_
      refine gt_push (v := .int ((Int16.ofInt 2000).toInt32)) (n := 3) (ykc_219 (e := (1, .sipush 2000, 0)) rfl) rfl rfl ?_
      refine gt_alu (st' := [.int (c - ((Int16.ofInt 2000).toInt32)), .int i1, .ref 181]) (ykc_219 (e := (0, .isub, 0)) rfl) rfl rfl ?_
      refine gt_load (v := .ref 170) (n := 1) (ykc_219 (e := (2, .aload_n kF0, 0)) rfl) rfl rfl ?_
      refine gt_gfr (A := 181) (ykc_219 (e := (5, .getfield 62, 0)) rfl) rfl hP rfl rfl rfl ?_
      refine gt_load (v := .int t1) (n := 1) (ykc_219 (e := (2, .iload_n kF1, 0)) rfl) rfl rfl ?_
      refine gt_alu (st' := [.int (Int32.ofInt 1), .int t1, .ref 181, .int (c - ((Int16.ofInt 2000).toInt32)), .int i1, .ref 181]) (ykc_219 (e := (0, .iconst 1, 0)) rfl) rfl rfl ?_
      obtain ⟨i2, e_i2, h_i2⟩ : ∃ zq : Int32, t1 - (Int32.ofInt 1) = zq ∧ zq.toInt = t.toInt - 2 := ⟨_, rfl, by rw [ti_sub (by rw [xi1]; omega) (by rw [xi1]; omega), xi1]; omega⟩
      refine gt_alu (st' := [.int i2, .ref 181, .int (c - ((Int16.ofInt 2000).toInt32)), .int i1, .ref 181]) (ykc_219 (e := (0, .isub, 0)) rfl) (by rw [← e_i2]; exact rfl) rfl ?_
      refine gt_ial (A := 181) (ykc_219 (e := (5, .iaload, 0)) rfl) hP rfl rfl (by omega) (by omega) rfl (fun y1 g_y1 b_y1 => ?_)
      refine gt_load (v := .ref 170) (n := 1) (ykc_219 (e := (2, .aload_n kF0, 0)) rfl) rfl rfl ?_
      refine gt_gfr (A := 181) (ykc_219 (e := (5, .getfield 62, 0)) rfl) rfl hP rfl rfl rfl ?_
      refine gt_load (v := .int t1) (n := 1) (ykc_219 (e := (2, .iload_n kF1, 0)) rfl) rfl rfl ?_
      refine gt_ial (A := 181) (ykc_219 (e := (5, .iaload, 0)) rfl) hP rfl rfl (by omega) (by omega) rfl (fun y2 g_y2 b_y2 => ?_)
      refine gt_cs (n := 3) (as := [.int (c - ((Int16.ofInt 2000).toInt32)), .int y1, .int y2]) (r := [.int i1, .ref 181]) (ykc_219 (e := (6, .invokestatic 258, 0)) rfl) rfl rfl rfl rfl (xworked (D := D)) rfl (fun vv ph301 hv => ?_)
      obtain ⟨z, e9, e8⟩ := hv; subst e9; have e7 := e8.symm; subst e7
      change xGT kK (D + 1 + 1) 219 Q (85, [some (.ref 170), some (.int t1), some (.int k), some (.int c)], [.int z, .int i1, .ref 181], ph, 0, 0)
      refine gt_ias (A := 181) (y := z) (x := i1) (ykc_219 (e := (5, .iastore, 0)) rfl) hP rfl rfl (by omega) (by omega) xany rfl (fun ph302 hP302 u302 => ?_)
      have f302_23 : xget ph302 170 23 = some (.int N) := (u302.2.1 170 23 (fun q => absurd q.1 (by decide))).trans hN
      refine gt_br (pc' := 119) (st' := []) (ykc_219 (e := (4, .goto 33, 119)) rfl) rfl ?_
      obtain ⟨k1, e_k1, h_k1⟩ : ∃ zq : Int32, k + Int32.ofInt 1 = zq ∧ zq.toInt = k.toInt + 1 := ⟨_, rfl, by rw [ti_add (by rw [xi1]; omega) (by rw [xi1]; omega), xi1]⟩
      refine gt_store (L' := [some (.ref 170), some (.int t1), some (.int k1), some (.int c)]) (st' := []) (n := 3) (ykc_219 (e := (3, .iinc 2 1, 0)) rfl) (by rw [← e_k1]; rfl) rfl ?_
      refine gt_br (pc' := 4) (st' := []) (ykc_219 (e := (4, .goto (-118), 4)) rfl) rfl ?_
      exact ih t1 k1 _ (d - 1) _ hP302 (xu1_E hE u302 rfl rfl rfl g9) ((u302.2.1 170 23 (fun q => absurd q.1 (by decide))).trans hN) ((u302.2.2 179 (by decide)).trans hat) (by omega) (by omega) (by omega) (by rw [show k1.toInt.toNat = k.toInt.toNat + 1 by omega]; exact hx3) (by omega)
    · rw [xzf (show (3000 : Int) > c.toInt by omega), xzf (show (2000 : Int) > c.toInt by omega), zle_iff.mpr (show (1000 : Int) ≤ c.toInt by omega)] at hxv
      simp only [cond_true, cond_false] at hxv
      obtain ⟨h0, hx9⟩ := x_and hxv
      have h0 := zle_le h0
      obtain ⟨h1, hx3⟩ := x_and hx9
      have h1 : d < 80 := Nat.le_of_ble_eq_true h1
      refine gt_ine_t (ykc_219 (e := (4, .if_icmp .ne 23, 46)) rfl) (by rw [x3000]; omega) ?_
      refine gt_load (v := .int c) (n := 1) (ykc_219 (e := (2, .iload_n kF3, 0)) rfl) rfl rfl ?_
      refine gt_push (v := .int ((Int16.ofInt 2000).toInt32)) (n := 3) (ykc_219 (e := (1, .sipush 2000, 0)) rfl) rfl rfl ?_
      refine gt_ilt_t (ykc_219 (e := (4, .if_icmp .lt 39, 89)) rfl) (by rw [x2000]; omega) ?_
      refine gt_load (v := .ref 170) (n := 1) (ykc_219 (e := (2, .aload_n kF0, 0)) rfl) rfl rfl ?_
      refine gt_gfr (A := 181) (ykc_219 (e := (5, .getfield 62, 0)) rfl) rfl hP rfl rfl rfl ?_
      refine gt_load (v := .int t) (n := 1) (ykc_219 (e := (2, .iload_n kF1, 0)) rfl) rfl rfl ?_
      refine gt_load (v := .int c) (n := 1) (ykc_219 (e := (2, .iload_n kF3, 0)) rfl) rfl rfl ?_
      refine gt_push (v := .int ((Int16.ofInt 1000).toInt32)) (n := 3) (ykc_219 (e := (1, .sipush 1000, 0)) rfl) rfl rfl ?_
      refine gt_ilt_f (ykc_219 (e := (4, .if_icmp .lt 16, 114)) rfl) (by rw [x1000]; omega) rfl ?_
      refine gt_load (v := .ref 170) (n := 1) (ykc_219 (e := (2, .aload_n kF0, 0)) rfl) rfl rfl ?_
      refine gt_gfr (A := 182) (ykc_219 (e := (5, .getfield 65, 0)) rfl) rfl hP rfl rfl rfl ?_
      refine gt_load (v := .int c) (n := 1) (ykc_219 (e := (2, .iload_n kF3, 0)) rfl) rfl rfl ?_
      refine gt_push (v := .int ((Int16.ofInt 1000).toInt32)) (n := 3) (ykc_219 (e := (1, .sipush 1000, 0)) rfl) rfl rfl ?_
      obtain ⟨i1, e_i1, h_i1⟩ : ∃ zq : Int32, c - ((Int16.ofInt 1000).toInt32) = zq ∧ zq.toInt = c.toInt - 1000 := ⟨_, rfl, by rw [ti_sub (by rw [x1000]; omega) (by rw [x1000]; omega), x1000]⟩
      refine gt_alu (st' := [.int i1, .ref 182, .int t, .ref 181]) (ykc_219 (e := (0, .isub, 0)) rfl) (by rw [← e_i1]; exact rfl) rfl ?_
      refine gt_ial (A := 182) (ykc_219 (e := (5, .iaload, 0)) rfl) hP rfl rfl (by omega) (by omega) rfl (fun y g_y b_y => ?_)
      refine gt_br (pc' := 115) (st' := [.int y, .int t, .ref 181]) (ykc_219 (e := (4, .goto 4, 115)) rfl) rfl ?_
      refine gt_ias (A := 181) (y := y) (x := t) (ykc_219 (e := (5, .iastore, 0)) rfl) hP rfl rfl (by omega) (by omega) xany rfl (fun ph401 hP401 u401 => ?_)
      have f401_23 : xget ph401 170 23 = some (.int N) := (u401.2.1 170 23 (fun q => absurd q.1 (by decide))).trans hN
      obtain ⟨t1, e_t1, h_t1⟩ : ∃ zq : Int32, t + Int32.ofInt 1 = zq ∧ zq.toInt = t.toInt + 1 := ⟨_, rfl, by rw [ti_add (by rw [xi1]; omega) (by rw [xi1]; omega), xi1]⟩
      refine gt_store (L' := [some (.ref 170), some (.int t1), some (.int k), some (.int c)]) (st' := []) (n := 3) (ykc_219 (e := (3, .iinc 1 1, 0)) rfl) (by rw [← e_t1]; rfl) rfl ?_
      obtain ⟨k1, e_k1, h_k1⟩ : ∃ zq : Int32, k + Int32.ofInt 1 = zq ∧ zq.toInt = k.toInt + 1 := ⟨_, rfl, by rw [ti_add (by rw [xi1]; omega) (by rw [xi1]; omega), xi1]⟩
      refine gt_store (L' := [some (.ref 170), some (.int t1), some (.int k1), some (.int c)]) (st' := []) (n := 3) (ykc_219 (e := (3, .iinc 2 1, 0)) rfl) (by rw [← e_k1]; rfl) rfl ?_
      refine gt_br (pc' := 4) (st' := []) (ykc_219 (e := (4, .goto (-118), 4)) rfl) rfl ?_
      exact ih t1 k1 _ (d + 1) _ hP401 (xu1_E hE u401 rfl rfl rfl g9) ((u401.2.1 170 23 (fun q => absurd q.1 (by decide))).trans hN) ((u401.2.2 179 (by decide)).trans hat) (by omega) (by omega) (by omega) (by rw [show k1.toInt.toNat = k.toInt.toNat + 1 by omega]; exact hx3) (by omega)
    · rw [xzf (show (3000 : Int) > c.toInt by omega), xzf (show (2000 : Int) > c.toInt by omega), xzf (show (1000 : Int) > c.toInt by omega)] at hxv
      simp only [cond_true, cond_false] at hxv
      obtain ⟨h1, hx3⟩ := x_and hxv
      have h1 : d < 80 := Nat.le_of_ble_eq_true h1
      refine gt_ine_t (ykc_219 (e := (4, .if_icmp .ne 23, 46)) rfl) (by rw [x3000]; omega) ?_
      refine gt_load (v := .int c) (n := 1) (ykc_219 (e := (2, .iload_n kF3, 0)) rfl) rfl rfl ?_
      refine gt_push (v := .int ((Int16.ofInt 2000).toInt32)) (n := 3) (ykc_219 (e := (1, .sipush 2000, 0)) rfl) rfl rfl ?_
      refine gt_ilt_t (ykc_219 (e := (4, .if_icmp .lt 39, 89)) rfl) (by rw [x2000]; omega) ?_
      refine gt_load (v := .ref 170) (n := 1) (ykc_219 (e := (2, .aload_n kF0, 0)) rfl) rfl rfl ?_
      refine gt_gfr (A := 181) (ykc_219 (e := (5, .getfield 62, 0)) rfl) rfl hP rfl rfl rfl ?_
      refine gt_load (v := .int t) (n := 1) (ykc_219 (e := (2, .iload_n kF1, 0)) rfl) rfl rfl ?_
      refine gt_load (v := .int c) (n := 1) (ykc_219 (e := (2, .iload_n kF3, 0)) rfl) rfl rfl ?_
      refine gt_push (v := .int ((Int16.ofInt 1000).toInt32)) (n := 3) (ykc_219 (e := (1, .sipush 1000, 0)) rfl) rfl rfl ?_
      refine gt_ilt_t (ykc_219 (e := (4, .if_icmp .lt 16, 114)) rfl) (by rw [x1000]; omega) ?_
      refine gt_load (v := .int c) (n := 1) (ykc_219 (e := (2, .iload_n kF3, 0)) rfl) rfl rfl ?_
      refine gt_ias (A := 181) (y := c) (x := t) (ykc_219 (e := (5, .iastore, 0)) rfl) hP rfl rfl (by omega) (by omega) xany rfl (fun ph401 hP401 u401 => ?_)
      have f401_23 : xget ph401 170 23 = some (.int N) := (u401.2.1 170 23 (fun q => absurd q.1 (by decide))).trans hN
      obtain ⟨t1, e_t1, h_t1⟩ : ∃ zq : Int32, t + Int32.ofInt 1 = zq ∧ zq.toInt = t.toInt + 1 := ⟨_, rfl, by rw [ti_add (by rw [xi1]; omega) (by rw [xi1]; omega), xi1]⟩
      refine gt_store (L' := [some (.ref 170), some (.int t1), some (.int k), some (.int c)]) (st' := []) (n := 3) (ykc_219 (e := (3, .iinc 1 1, 0)) rfl) (by rw [← e_t1]; rfl) rfl ?_
      obtain ⟨k1, e_k1, h_k1⟩ : ∃ zq : Int32, k + Int32.ofInt 1 = zq ∧ zq.toInt = k.toInt + 1 := ⟨_, rfl, by rw [ti_add (by rw [xi1]; omega) (by rw [xi1]; omega), xi1]⟩
      refine gt_store (L' := [some (.ref 170), some (.int t1), some (.int k1), some (.int c)]) (st' := []) (n := 3) (ykc_219 (e := (3, .iinc 2 1, 0)) rfl) (by rw [← e_k1]; rfl) rfl ?_
      refine gt_br (pc' := 4) (st' := []) (ykc_219 (e := (4, .goto (-118), 4)) rfl) rfl ?_
      exact ih t1 k1 _ (d + 1) _ hP401 (xu1_E hE u401 rfl rfl rfl g9) ((u401.2.1 170 23 (fun q => absurd q.1 (by decide))).trans hN) ((u401.2.2 179 (by decide)).trans hat) (by omega) (by omega) (by omega) (by rw [show k1.toInt.toNat = k.toInt.toNat + 1 by omega]; exact hx3) (by omega)
set_option maxRecDepth 6000 in
theorem xruled {E : pm_H → Prop} (hE : xHE xX xgA_G8 xgF_G8 E) (hV : ∀ p, E p → xV p) : xcon xX kK E 10 219 [.inr (.inr (.inl 0))] [] 0 (some (.inl ((Int.negSucc 2147483647), (Int.ofNat 2147483647)))) [] := by
  intro D' hD' m hm h0m vs ph hv hf hP g9
  obtain ⟨D, rfl⟩ : ∃ D, D' = D + 1 + 1 + 1 := ⟨D' - 3, by omega⟩
  match vs, hv with
  | [v1], ⟨q1, _⟩ =>
  have e1 := xaO hP (A := 170) rfl q1
  subst e1
  suffices hs : ∃ v ph', pm_Rd kK false (D + 1 + 1 + 1) 219 [.ref 170] ph (v, ph', 0, 0) ∧ (∃ z : Int32, v = some (.int z) ∧ xH xX kK m 0 ph' ∧ E ph') by
    obtain ⟨v, ph', k1, z, e, hP1, g91⟩ := hs
    exact ⟨v, ph', k1, hP1, g91, ⟨_, e, xaT⟩, xF0⟩
  obtain ⟨l, n, hat, hN, hn, hxv⟩ := hV ph g9
  obtain ⟨l2, hat2, hlen, -⟩ := xA_at (A := 179) hP rfl rfl
  rw [hat] at hat2
  cases hat2
  refine xRd_mk (nl := 4) rfl rfl ?_
  show xGT kK (D + 1 + 1) 219 _ (0, [some (.ref 170), none, none, none], [], ph, 0, 0)
  refine gt_alu (st' := [.int (Int32.ofInt 0)]) (ykc_219 (e := (0, .iconst 0, 0)) rfl) rfl rfl ?_
  refine gt_store (L' := [some (.ref 170), some (.int (Int32.ofInt 0)), none, none]) (st' := []) (n := 1) (ykc_219 (e := (3, .istore_n kF1, 0)) rfl) rfl rfl ?_
  refine gt_alu (st' := [.int (Int32.ofInt 0)]) (ykc_219 (e := (0, .iconst 0, 0)) rfl) rfl rfl ?_
  refine gt_store (L' := [some (.ref 170), some (.int (Int32.ofInt 0)), some (.int (Int32.ofInt 0)), none]) (st' := []) (n := 1) (ykc_219 (e := (3, .istore_n kF2, 0)) rfl) rfl rfl ?_
  have hNn : (Int32.ofNat n).toInt = (n : Int) := by rw [Int32.toInt_ofNat']; exact xbm (by omega) (by omega)
  have z0 : (Int32.ofInt 0).toInt = 0 := by decide
  refine xruled_loop hE hNn hn hlen (fun z ph' h1 h2 => ⟨z, rfl, h1, h2⟩) n _ _ _ 0 ph hP g9 hN hat (by omega) (by omega) (by omega) ?_ (by omega)
  rw [z0]
  exact hxv

