/-! ahead on a fresh object, printed by wip/pm/gen17.py -/
theorem kmc_244 {pc : Nat} {e : Nat × Instr × Nat} (h : pm_tl kc_244 pc = some e) : pm_code kK 244 pc = some e := h
theorem kpx_body {n i r h : Int32} {u4 : Option Value} {R : pm_R} (hin : i.toInt < n.toInt) (kk : pm_Te kK false (pm_Rd kK false 38) 92 (2, [some (.ref 10), some (.ref 37), some (.int n), some (.int (i + Int32.ofInt 1)), some (.int (Int32.ofInt 0))], [], (kYx r (h + (Int32.ofInt 1 : Int32))), 0, 0) R) : pm_Te kK false (pm_Rd kK false 38) 92 (2, [some (.ref 10), some (.ref 37), some (.int n), some (.int i), u4], [], (kYx r h), 0, 0) R := by
  rw [← kyx_sT (h := h) (h2 := h + (Int32.ofInt 1 : Int32))] at kk
  refine .step (x' := (3, [some (.ref 10), some (.ref 37), some (.int n), some (.int i), u4], [.int i], (kYx r h), 0, 0)) (ks2 (v := .int i) (n := 1) (kmc_92 (e := (2, .iload_n kF3, 0)) rfl) rfl) ?_
  refine .step (x' := (4, [some (.ref 10), some (.ref 37), some (.int n), some (.int i), u4], [.int n, .int i], (kYx r h), 0, 0)) (ks2 (v := .int n) (n := 1) (kmc_92 (e := (2, .iload_n kF2, 0)) rfl) rfl) ?_
  refine .step (x' := (7, [some (.ref 10), some (.ref 37), some (.int n), some (.int i), u4], [], (kYx r h), 0, 0)) (ks4 (pc' := 7) (st' := []) (kmc_92 (e := (4, .if_icmp .ge 107, 111)) rfl) (kbi_ge (b := false) (sd_lef (a := n.toInt) (b := i.toInt) rfl rfl (by omega)))) ?_
  refine .step (x' := (8, [some (.ref 10), some (.ref 37), some (.int n), some (.int i), u4], [.ref 10], (kYx r h), 0, 0)) (ks2 (v := .ref 10) (n := 1) (kmc_92 (e := (2, .aload_n kF0, 0)) rfl) rfl) ?_
  refine .step (x' := (9, [some (.ref 10), some (.ref 37), some (.int n), some (.int i), u4], [.ref 10, .ref 10], (kYx r h), 0, 0)) (ks2 (v := .ref 10) (n := 1) (kmc_92 (e := (2, .aload_n kF0, 0)) rfl) rfl) ?_
  refine .step (x' := (12, [some (.ref 10), some (.ref 37), some (.int n), some (.int i), u4], [.ref 11, .ref 10], (kYx r h), 0, 0)) (skg (v := .ref 11) (kmc_92 (e := (5, .getfield 18, 0)) rfl) rfl (kyx_o (by decide) (by decide) kat_10) rfl) ?_
  refine .step (x' := (13, [some (.ref 10), some (.ref 37), some (.int n), some (.int i), u4], [.ref 37, .ref 11, .ref 10], (kYx r h), 0, 0)) (ks2 (v := .ref 37) (n := 1) (kmc_92 (e := (2, .aload_n kF1, 0)) rfl) rfl) ?_
  refine .call (v := some (.long (Int64.ofNat 0))) (ph' := (kYx r h)) (c1 := 0) (s1 := 0) (j := 85) (as := [.ref 10, .ref 11, .ref 37]) (pc := 16) (L := [some (.ref 10), some (.ref 37), some (.int n), some (.int i), u4]) (st := []) (ks6 (kmc_92 (e := (6, .invokevirtual 118, 0)) rfl) (sk_v (n := 2) (a := 10) rfl rfl (kyx_o (by decide) (by decide) kat_10) rfl rfl)) (show pm_Rd kK false 38 85 [.ref 10, .ref 11, .ref 37] (kYx r h) (some (.long (Int64.ofNat 0)), (kYx r h), 0, 0) from ?_) ?_
  · refine pm_Rd.mk (K := kK) (al := false) (d := 37) (mj := 85) rfl ?_
    show pm_Te kK false (pm_Rd kK false 37) 85 (0, [some (.ref 10), some (.ref 11), some (.ref 37), none, none, none, none], [], (kYx r h), 0, 0) _
    refine .step (x' := (1, [some (.ref 10), some (.ref 11), some (.ref 37), none, none, none, none], [.long (Int64.ofNat 0)], (kYx r h), 0, 0)) (ks0 (st' := [.long (Int64.ofNat 0)]) (kmc_85 (e := (0, .lconst kG0, 0)) rfl) rfl) ?_
    refine .step (x' := (2, [some (.ref 10), some (.ref 11), some (.ref 37), some (.long (Int64.ofNat 0)), none, none, none], [], (kYx r h), 0, 0)) (ks3 (L' := [some (.ref 10), some (.ref 11), some (.ref 37), some (.long (Int64.ofNat 0)), none, none, none]) (st' := []) (n := 1) (kmc_85 (e := (3, .lstore_n kF3, 0)) rfl) rfl) ?_
    refine .step (x' := (3, [some (.ref 10), some (.ref 11), some (.ref 37), some (.long (Int64.ofNat 0)), none, none, none], [.int (Int32.ofInt 0)], (kYx r h), 0, 0)) (ks0 (st' := [.int (Int32.ofInt 0)]) (kmc_85 (e := (0, .iconst 0, 0)) rfl) rfl) ?_
    refine .step (x' := (5, [some (.ref 10), some (.ref 11), some (.ref 37), some (.long (Int64.ofNat 0)), none, some (.int (Int32.ofInt 0)), none], [], (kYx r h), 0, 0)) (ks3 (L' := [some (.ref 10), some (.ref 11), some (.ref 37), some (.long (Int64.ofNat 0)), none, some (.int (Int32.ofInt 0)), none]) (st' := []) (n := 2) (kmc_85 (e := (3, .istore 5, 0)) rfl) rfl) ?_
    refine .step (x' := (7, [some (.ref 10), some (.ref 11), some (.ref 37), some (.long (Int64.ofNat 0)), none, some (.int (Int32.ofInt 0)), none], [.int (Int32.ofInt 0)], (kYx r h), 0, 0)) (ks2 (v := .int (Int32.ofInt 0)) (n := 2) (kmc_85 (e := (2, .iload 5, 0)) rfl) rfl) ?_
    refine .step (x' := (8, [some (.ref 10), some (.ref 11), some (.ref 37), some (.long (Int64.ofNat 0)), none, some (.int (Int32.ofInt 0)), none], [.ref 37, .int (Int32.ofInt 0)], (kYx r h), 0, 0)) (ks2 (v := .ref 37) (n := 1) (kmc_85 (e := (2, .aload_n kF2, 0)) rfl) rfl) ?_
    refine .step (x' := (11, [some (.ref 10), some (.ref 11), some (.ref 37), some (.long (Int64.ofNat 0)), none, some (.int (Int32.ofInt 0)), none], [.int 0, .int (Int32.ofInt 0)], (kYx r h), 0, 0)) (skg (v := .int 0) (kmc_85 (e := (5, .getfield 122, 0)) rfl) rfl kyx_T rfl) ?_
    refine .step (x' := (91, [some (.ref 10), some (.ref 11), some (.ref 37), some (.long (Int64.ofNat 0)), none, some (.int (Int32.ofInt 0)), none], [], (kYx r h), 0, 0)) (ks4 (pc' := 91) (st' := []) (kmc_85 (e := (4, .if_icmp .ge 80, 91)) rfl) (kbi_ge (b := true) (by decide +kernel))) ?_
    refine .step (x' := (92, [some (.ref 10), some (.ref 11), some (.ref 37), some (.long (Int64.ofNat 0)), none, some (.int (Int32.ofInt 0)), none], [.long (Int64.ofNat 0)], (kYx r h), 0, 0)) (ks2 (v := .long (Int64.ofNat 0)) (n := 1) (kmc_85 (e := (2, .lload_n kF3, 0)) rfl) rfl) ?_
    exact .ret (ks7 (kmc_85 (e := (7, .lreturn, 0)) rfl) rfl)
  show pm_Te kK false (pm_Rd kK false 38) 92 (16, [some (.ref 10), some (.ref 37), some (.int n), some (.int i), u4], [.long (Int64.ofNat 0)], (kYx r h), 0, 0) _
  refine .step (x' := (17, [some (.ref 10), some (.ref 37), some (.int n), some (.int i), u4], [], (kYx r h), 0, 0)) (ks0 (st' := []) (kmc_92 (e := (0, .pop2, 0)) rfl) rfl) ?_
  refine .step (x' := (18, [some (.ref 10), some (.ref 37), some (.int n), some (.int i), u4], [.int (Int32.ofInt 0)], (kYx r h), 0, 0)) (ks0 (st' := [.int (Int32.ofInt 0)]) (kmc_92 (e := (0, .iconst 0, 0)) rfl) rfl) ?_
  refine .step (x' := (20, [some (.ref 10), some (.ref 37), some (.int n), some (.int i), some (.int (Int32.ofInt 0))], [], (kYx r h), 0, 0)) (ks3 (L' := [some (.ref 10), some (.ref 37), some (.int n), some (.int i), some (.int (Int32.ofInt 0))]) (st' := []) (n := 2) (kmc_92 (e := (3, .istore 4, 0)) rfl) rfl) ?_
  refine .step (x' := (22, [some (.ref 10), some (.ref 37), some (.int n), some (.int i), some (.int (Int32.ofInt 0))], [.int (Int32.ofInt 0)], (kYx r h), 0, 0)) (ks2 (v := .int (Int32.ofInt 0)) (n := 2) (kmc_92 (e := (2, .iload 4, 0)) rfl) rfl) ?_
  refine .step (x' := (23, [some (.ref 10), some (.ref 37), some (.int n), some (.int i), some (.int (Int32.ofInt 0))], [.ref 37, .int (Int32.ofInt 0)], (kYx r h), 0, 0)) (ks2 (v := .ref 37) (n := 1) (kmc_92 (e := (2, .aload_n kF1, 0)) rfl) rfl) ?_
  refine .step (x' := (26, [some (.ref 10), some (.ref 37), some (.int n), some (.int i), some (.int (Int32.ofInt 0))], [.int 0, .int (Int32.ofInt 0)], (kYx r h), 0, 0)) (skg (v := .int 0) (kmc_92 (e := (5, .getfield 122, 0)) rfl) rfl kyx_T rfl) ?_
  refine .step (x' := (56, [some (.ref 10), some (.ref 37), some (.int n), some (.int i), some (.int (Int32.ofInt 0))], [], (kYx r h), 0, 0)) (ks4 (pc' := 56) (st' := []) (kmc_92 (e := (4, .if_icmp .ge 30, 56)) rfl) (kbi_ge (b := true) (by decide +kernel))) ?_
  refine .step (x' := (57, [some (.ref 10), some (.ref 37), some (.int n), some (.int i), some (.int (Int32.ofInt 0))], [.int (Int32.ofInt 0)], (kYx r h), 0, 0)) (ks0 (st' := [.int (Int32.ofInt 0)]) (kmc_92 (e := (0, .iconst 0, 0)) rfl) rfl) ?_
  refine .step (x' := (59, [some (.ref 10), some (.ref 37), some (.int n), some (.int i), some (.int (Int32.ofInt 0))], [], (kYx r h), 0, 0)) (ks3 (L' := [some (.ref 10), some (.ref 37), some (.int n), some (.int i), some (.int (Int32.ofInt 0))]) (st' := []) (n := 2) (kmc_92 (e := (3, .istore 4, 0)) rfl) rfl) ?_
  refine .step (x' := (61, [some (.ref 10), some (.ref 37), some (.int n), some (.int i), some (.int (Int32.ofInt 0))], [.int (Int32.ofInt 0)], (kYx r h), 0, 0)) (ks2 (v := .int (Int32.ofInt 0)) (n := 2) (kmc_92 (e := (2, .iload 4, 0)) rfl) rfl) ?_
  refine .step (x' := (62, [some (.ref 10), some (.ref 37), some (.int n), some (.int i), some (.int (Int32.ofInt 0))], [.ref 37, .int (Int32.ofInt 0)], (kYx r h), 0, 0)) (ks2 (v := .ref 37) (n := 1) (kmc_92 (e := (2, .aload_n kF1, 0)) rfl) rfl) ?_
  refine .step (x' := (65, [some (.ref 10), some (.ref 37), some (.int n), some (.int i), some (.int (Int32.ofInt 0))], [.int 0, .int (Int32.ofInt 0)], (kYx r h), 0, 0)) (skg (v := .int 0) (kmc_92 (e := (5, .getfield 122, 0)) rfl) rfl kyx_T rfl) ?_
  refine .step (x' := (95, [some (.ref 10), some (.ref 37), some (.int n), some (.int i), some (.int (Int32.ofInt 0))], [], (kYx r h), 0, 0)) (ks4 (pc' := 95) (st' := []) (kmc_92 (e := (4, .if_icmp .ge 30, 95)) rfl) (kbi_ge (b := true) (by decide +kernel))) ?_
  refine .step (x' := (96, [some (.ref 10), some (.ref 37), some (.int n), some (.int i), some (.int (Int32.ofInt 0))], [.ref 37], (kYx r h), 0, 0)) (ks2 (v := .ref 37) (n := 1) (kmc_92 (e := (2, .aload_n kF1, 0)) rfl) rfl) ?_
  refine .step (x' := (97, [some (.ref 10), some (.ref 37), some (.int n), some (.int i), some (.int (Int32.ofInt 0))], [.ref 37, .ref 37], (kYx r h), 0, 0)) (ks0 (st' := [.ref 37, .ref 37]) (kmc_92 (e := (0, .dup, 0)) rfl) rfl) ?_
  refine .step (x' := (100, [some (.ref 10), some (.ref 37), some (.int n), some (.int i), some (.int (Int32.ofInt 0))], [.int h, .ref 37], (kYx r h), 0, 0)) (skg (v := .int h) (kmc_92 (e := (5, .getfield 69, 0)) rfl) rfl kyx_T rfl) ?_
  refine .step (x' := (101, [some (.ref 10), some (.ref 37), some (.int n), some (.int i), some (.int (Int32.ofInt 0))], [.int (Int32.ofInt 1), .int h, .ref 37], (kYx r h), 0, 0)) (ks0 (st' := [.int (Int32.ofInt 1), .int h, .ref 37]) (kmc_92 (e := (0, .iconst 1, 0)) rfl) rfl) ?_
  refine .step (x' := (102, [some (.ref 10), some (.ref 37), some (.int n), some (.int i), some (.int (Int32.ofInt 0))], [.int (h + (Int32.ofInt 1 : Int32)), .ref 37], (kYx r h), 0, 0)) (ks0 (st' := [.int (h + (Int32.ofInt 1 : Int32)), .ref 37]) (kmc_92 (e := (0, .iadd, 0)) rfl) rfl) ?_
  refine .step (x' := (105, [some (.ref 10), some (.ref 37), some (.int n), some (.int i), some (.int (Int32.ofInt 0))], [], ((kYx r h).set 37 (.inr (10, [.int 0, .int 0, .int (h + (Int32.ofInt 1 : Int32)), .ref 38, .ref 39, .ref 40, .ref 41, .ref 42]))), 0, 0)) (skw (kmc_92 (e := (5, .putfield 69, 0)) rfl) rfl kyx_T rfl rfl) ?_
  refine .step (x' := (108, [some (.ref 10), some (.ref 37), some (.int n), some (.int (i + Int32.ofInt 1)), some (.int (Int32.ofInt 0))], [], ((kYx r h).set 37 (.inr (10, [.int 0, .int 0, .int (h + (Int32.ofInt 1 : Int32)), .ref 38, .ref 39, .ref 40, .ref 41, .ref 42]))), 0, 0)) (ks3 (L' := [some (.ref 10), some (.ref 37), some (.int n), some (.int (i + Int32.ofInt 1)), some (.int (Int32.ofInt 0))]) (st' := []) (n := 3) (kmc_92 (e := (3, .iinc 3 1, 0)) rfl) rfl) ?_
  refine .step (x' := (2, [some (.ref 10), some (.ref 37), some (.int n), some (.int (i + Int32.ofInt 1)), some (.int (Int32.ofInt 0))], [], ((kYx r h).set 37 (.inr (10, [.int 0, .int 0, .int (h + (Int32.ofInt 1 : Int32)), .ref 38, .ref 39, .ref 40, .ref 41, .ref 42]))), 0, 0)) (ks4 (pc' := 2) (st' := []) (kmc_92 (e := (4, .goto (-106), 2)) rfl) rfl) ?_
  exact kk
theorem kpx_end {n i r h : Int32} {u4 : Option Value} (hin : n.toInt ≤ i.toInt) : pm_Te kK false (pm_Rd kK false 38) 92 (2, [some (.ref 10), some (.ref 37), some (.int n), some (.int i), u4], [], (kYx r h), 0, 0) (some (.int (Int32.ofInt 0)), kYx r h, 0, 0) := by
  refine .step (x' := (3, [some (.ref 10), some (.ref 37), some (.int n), some (.int i), u4], [.int i], (kYx r h), 0, 0)) (ks2 (v := .int i) (n := 1) (kmc_92 (e := (2, .iload_n kF3, 0)) rfl) rfl) ?_
  refine .step (x' := (4, [some (.ref 10), some (.ref 37), some (.int n), some (.int i), u4], [.int n, .int i], (kYx r h), 0, 0)) (ks2 (v := .int n) (n := 1) (kmc_92 (e := (2, .iload_n kF2, 0)) rfl) rfl) ?_
  refine .step (x' := (111, [some (.ref 10), some (.ref 37), some (.int n), some (.int i), u4], [], (kYx r h), 0, 0)) (ks4 (pc' := 111) (st' := []) (kmc_92 (e := (4, .if_icmp .ge 107, 111)) rfl) (kbi_ge (b := true) (sd_let (a := n.toInt) (b := i.toInt) rfl rfl (by omega)))) ?_
  refine .step (x' := (112, [some (.ref 10), some (.ref 37), some (.int n), some (.int i), u4], [.ref 37], (kYx r h), 0, 0)) (ks2 (v := .ref 37) (n := 1) (kmc_92 (e := (2, .aload_n kF1, 0)) rfl) rfl) ?_
  refine .call (v := some (.int (Int32.ofInt 0))) (ph' := (kYx r h)) (c1 := 0) (s1 := 0) (j := 108) (as := [.ref 37]) (pc := 115) (L := [some (.ref 10), some (.ref 37), some (.int n), some (.int i), u4]) (st := []) (ks6 (kmc_92 (e := (6, .invokevirtual 143, 0)) rfl) (sk_v (n := 0) (a := 37) rfl rfl kyx_T rfl rfl)) (show pm_Rd kK false 38 108 [.ref 37] (kYx r h) (some (.int (Int32.ofInt 0)), (kYx r h), 0, 0) from ?_) ?_
  · refine pm_Rd.mk (K := kK) (al := false) (d := 37) (mj := 108) rfl ?_
    show pm_Te kK false (pm_Rd kK false 37) 108 (0, [some (.ref 37), none, none], [], (kYx r h), 0, 0) _
    refine .step (x' := (1, [some (.ref 37), none, none], [.int (Int32.ofInt 0)], (kYx r h), 0, 0)) (ks0 (st' := [.int (Int32.ofInt 0)]) (kmc_108 (e := (0, .iconst 0, 0)) rfl) rfl) ?_
    refine .step (x' := (2, [some (.ref 37), some (.int (Int32.ofInt 0)), none], [], (kYx r h), 0, 0)) (ks3 (L' := [some (.ref 37), some (.int (Int32.ofInt 0)), none]) (st' := []) (n := 1) (kmc_108 (e := (3, .istore_n kF1, 0)) rfl) rfl) ?_
    refine .step (x' := (3, [some (.ref 37), some (.int (Int32.ofInt 0)), none], [.int (Int32.ofInt 0)], (kYx r h), 0, 0)) (ks0 (st' := [.int (Int32.ofInt 0)]) (kmc_108 (e := (0, .iconst 0, 0)) rfl) rfl) ?_
    refine .step (x' := (4, [some (.ref 37), some (.int (Int32.ofInt 0)), some (.int (Int32.ofInt 0))], [], (kYx r h), 0, 0)) (ks3 (L' := [some (.ref 37), some (.int (Int32.ofInt 0)), some (.int (Int32.ofInt 0))]) (st' := []) (n := 1) (kmc_108 (e := (3, .istore_n kF2, 0)) rfl) rfl) ?_
    refine .step (x' := (5, [some (.ref 37), some (.int (Int32.ofInt 0)), some (.int (Int32.ofInt 0))], [.int (Int32.ofInt 0)], (kYx r h), 0, 0)) (ks2 (v := .int (Int32.ofInt 0)) (n := 1) (kmc_108 (e := (2, .iload_n kF2, 0)) rfl) rfl) ?_
    refine .step (x' := (6, [some (.ref 37), some (.int (Int32.ofInt 0)), some (.int (Int32.ofInt 0))], [.ref 37, .int (Int32.ofInt 0)], (kYx r h), 0, 0)) (ks2 (v := .ref 37) (n := 1) (kmc_108 (e := (2, .aload_n kF0, 0)) rfl) rfl) ?_
    refine .step (x' := (9, [some (.ref 37), some (.int (Int32.ofInt 0)), some (.int (Int32.ofInt 0))], [.int 0, .int (Int32.ofInt 0)], (kYx r h), 0, 0)) (skg (v := .int 0) (kmc_108 (e := (5, .getfield 30, 0)) rfl) rfl kyx_T rfl) ?_
    refine .step (x' := (36, [some (.ref 37), some (.int (Int32.ofInt 0)), some (.int (Int32.ofInt 0))], [], (kYx r h), 0, 0)) (ks4 (pc' := 36) (st' := []) (kmc_108 (e := (4, .if_icmp .ge 27, 36)) rfl) (kbi_ge (b := true) (by decide +kernel))) ?_
    refine .step (x' := (37, [some (.ref 37), some (.int (Int32.ofInt 0)), some (.int (Int32.ofInt 0))], [.int (Int32.ofInt 0)], (kYx r h), 0, 0)) (ks2 (v := .int (Int32.ofInt 0)) (n := 1) (kmc_108 (e := (2, .iload_n kF1, 0)) rfl) rfl) ?_
    exact .ret (ks7 (kmc_108 (e := (7, .ireturn, 0)) rfl) rfl)
  show pm_Te kK false (pm_Rd kK false 38) 92 (115, [some (.ref 10), some (.ref 37), some (.int n), some (.int i), u4], [.int (Int32.ofInt 0)], (kYx r h), 0, 0) _
  exact .ret (ks7 (kmc_92 (e := (7, .ireturn, 0)) rfl) rfl)
theorem kpx_loop : ∀ (k : Nat) (n i r h : Int32) (u4 : Option Value), i.toInt + (k : Int) = n.toInt → 0 ≤ i.toInt → n.toInt ≤ 99 → ∃ h2, pm_Te kK false (pm_Rd kK false 38) 92 (2, [some (.ref 10), some (.ref 37), some (.int n), some (.int i), u4], [], (kYx r h), 0, 0) (some (.int (Int32.ofInt 0)), kYx r h2, 0, 0) := by
  intro k
  induction k with
  | zero =>
    intro n i r h u4 h1 h2 h3
    exact ⟨h, kpx_end (by omega)⟩
  | succ k ih =>
    intro n i r h u4 h1 h2 h3
    have e := ki_add1 (i := i) (by omega) h2
    obtain ⟨h2', g1⟩ := ih n (i + Int32.ofInt 1) r (h + (Int32.ofInt 1 : Int32)) (some (.int (Int32.ofInt 0))) (by omega) (by omega) h3
    exact ⟨h2', kpx_body (by omega) g1⟩
theorem kpx_head {n r h : Int32} {R : pm_R} (kk : pm_Te kK false (pm_Rd kK false 38) 92 (2, [some (.ref 10), some (.ref 37), some (.int n), some (.int (Int32.ofInt 0)), none], [], (kYx r h), 0, 0) R) : pm_Te kK false (pm_Rd kK false 38) 92 (0, [some (.ref 10), some (.ref 37), some (.int n), none, none], [], (kYx r h), 0, 0) R := by
  refine .step (x' := (1, [some (.ref 10), some (.ref 37), some (.int n), none, none], [.int (Int32.ofInt 0)], (kYx r h), 0, 0)) (ks0 (st' := [.int (Int32.ofInt 0)]) (kmc_92 (e := (0, .iconst 0, 0)) rfl) rfl) ?_
  refine .step (x' := (2, [some (.ref 10), some (.ref 37), some (.int n), some (.int (Int32.ofInt 0)), none], [], (kYx r h), 0, 0)) (ks3 (L' := [some (.ref 10), some (.ref 37), some (.int n), some (.int (Int32.ofInt 0)), none]) (st' := []) (n := 1) (kmc_92 (e := (3, .istore_n kF3, 0)) rfl) rfl) ?_
  exact kk
theorem kyx_00 : kYx 0 0 = kH0 := by
  have e : kH0.set 167 (kgc 0) = kH0 := sk_set (sk_at (kat_167.trans (congrArg some (kq_c_eq _ _ (by decide +kernel)))))
  rw [← kyx_0 (r := 0)]
  exact e
theorem kpx_run {n : Int32} (h0 : 0 ≤ n.toInt) (h1 : n.toInt ≤ 99) : ∃ h2, pm_Rd kK false 39 92 [.ref 10, .ref 37, .int n] kH0 (some (.int (Int32.ofInt 0)), kYx 0 h2, 0, 0) := by
  have e : (Int32.ofInt 0).toInt = 0 := by decide +kernel
  obtain ⟨h2, g1⟩ := kpx_loop n.toInt.toNat n (Int32.ofInt 0) 0 0 none (by omega) (by omega) h1
  have g2 := kpx_head g1
  rw [kyx_00] at g2
  exact ⟨h2, pm_Rd.mk (d := 38) rfl g2⟩
theorem kax_run {x h2 : Int32} (hx0 : 0 ≤ x.toInt) (hx1 : x.toInt ≤ 99) (hd : pm_Rd kK false 39 92 [.ref 10, .ref 37, .int x] kH0 (some (.int (Int32.ofInt 0)), kYx 0 h2, 0, 0)) : pm_Rd kK false 40 156 [.ref 0, .int x] kH0 (some (.int (Int32.ofInt 0)), (kYx 0 h2), 0, 0) := by
  refine pm_Rd.mk (K := kK) (al := false) (d := 39) (mj := 156) rfl ?_
  show pm_Te kK false (pm_Rd kK false 39) 156 (0, [some (.ref 0), some (.int x), none, none], [], kH0, 0, 0) _
  refine .step (x' := (1, [some (.ref 0), some (.int x), none, none], [.int x], kH0, 0, 0)) (ks2 (v := .int x) (n := 1) (kmc_156 (e := (2, .iload_n kF1, 0)) rfl) rfl) ?_
  refine .step (x' := (4, [some (.ref 0), some (.int x), none, none], [], kH0, 0, 0)) (ks4 (pc' := 4) (st' := []) (kmc_156 (e := (4, .ifCond .lt 9, 10)) rfl) (kbz_lt (b := false) (sd_ltf (a := x.toInt) (b := 0) rfl (sz_c (k := 0) (by decide +kernel)) (by omega)))) ?_
  refine .step (x' := (5, [some (.ref 0), some (.int x), none, none], [.int x], kH0, 0, 0)) (ks2 (v := .int x) (n := 1) (kmc_156 (e := (2, .iload_n kF1, 0)) rfl) rfl) ?_
  refine .step (x' := (7, [some (.ref 0), some (.int x), none, none], [.int ((Int8.ofInt 99).toInt32), .int x], kH0, 0, 0)) (ks1 (v := .int ((Int8.ofInt 99).toInt32)) (n := 2) (kmc_156 (e := (1, .bipush 99, 0)) rfl) rfl) ?_
  refine .step (x' := (12, [some (.ref 0), some (.int x), none, none], [], kH0, 0, 0)) (ks4 (pc' := 12) (st' := []) (kmc_156 (e := (4, .if_icmp .le 5, 12)) rfl) (kbi_le (b := true) (sd_let (a := x.toInt) (b := 99) rfl (sz_c (k := 99) (by decide +kernel)) (by omega)))) ?_
  refine .step (x' := (13, [some (.ref 0), some (.int x), none, none], [.ref 0], kH0, 0, 0)) (ks2 (v := .ref 0) (n := 1) (kmc_156 (e := (2, .aload_n kF0, 0)) rfl) rfl) ?_
  refine .step (x' := (16, [some (.ref 0), some (.int x), none, none], [.ref 37], kH0, 0, 0)) (skg (v := .ref 37) (kmc_156 (e := (5, .getfield 49, 0)) rfl) rfl kat_0 rfl) ?_
  refine .step (x' := (17, [some (.ref 0), some (.int x), none, none], [.ref 0, .ref 37], kH0, 0, 0)) (ks2 (v := .ref 0) (n := 1) (kmc_156 (e := (2, .aload_n kF0, 0)) rfl) rfl) ?_
  refine .step (x' := (20, [some (.ref 0), some (.int x), none, none], [.ref 25, .ref 37], kH0, 0, 0)) (skg (v := .ref 25) (kmc_156 (e := (5, .getfield 42, 0)) rfl) rfl kat_0 rfl) ?_
  refine .call (v := none) (ph' := kH0) (c1 := 0) (s1 := 0) (j := 103) (as := [.ref 37, .ref 25]) (pc := 23) (L := [some (.ref 0), some (.int x), none, none]) (st := []) (ks6 (kmc_156 (e := (6, .invokevirtual 235, 0)) rfl) (sk_v (n := 1) (a := 37) rfl rfl kat_37 rfl rfl)) (show pm_Rd kK false 39 103 [.ref 37, .ref 25] kH0 (none, kH0, 0, 0) from ?_) ?_
  · exact fo_ev_ok kTTq 73 39 103 [.ref 37, .ref 25] kH0 _ (kq_r_eq (by decide +kernel))
  show pm_Te kK false (pm_Rd kK false 39) 156 (23, [some (.ref 0), some (.int x), none, none], [], kH0, 0, 0) _
  refine .step (x' := (24, [some (.ref 0), some (.int x), none, none], [.ref 0], kH0, 0, 0)) (ks2 (v := .ref 0) (n := 1) (kmc_156 (e := (2, .aload_n kF0, 0)) rfl) rfl) ?_
  refine .step (x' := (27, [some (.ref 0), some (.int x), none, none], [.ref 10], kH0, 0, 0)) (skg (v := .ref 10) (kmc_156 (e := (5, .getfield 35, 0)) rfl) rfl kat_0 rfl) ?_
  refine .step (x' := (28, [some (.ref 0), some (.int x), none, none], [.ref 0, .ref 10], kH0, 0, 0)) (ks2 (v := .ref 0) (n := 1) (kmc_156 (e := (2, .aload_n kF0, 0)) rfl) rfl) ?_
  refine .step (x' := (31, [some (.ref 0), some (.int x), none, none], [.ref 37, .ref 10], kH0, 0, 0)) (skg (v := .ref 37) (kmc_156 (e := (5, .getfield 49, 0)) rfl) rfl kat_0 rfl) ?_
  refine .step (x' := (32, [some (.ref 0), some (.int x), none, none], [.int x, .ref 37, .ref 10], kH0, 0, 0)) (ks2 (v := .int x) (n := 1) (kmc_156 (e := (2, .iload_n kF1, 0)) rfl) rfl) ?_
  refine .call (v := some (.int (Int32.ofInt 0))) (ph' := (kYx 0 h2)) (c1 := 0) (s1 := 0) (j := 92) (as := [.ref 10, .ref 37, .int x]) (pc := 35) (L := [some (.ref 0), some (.int x), none, none]) (st := []) (ks6 (kmc_156 (e := (6, .invokevirtual 239, 0)) rfl) (sk_v (n := 2) (a := 10) rfl rfl kat_10 rfl rfl)) (show pm_Rd kK false 39 92 [.ref 10, .ref 37, .int x] kH0 (some (.int (Int32.ofInt 0)), (kYx 0 h2), 0, 0) from ?_) ?_
  · exact hd
  show pm_Te kK false (pm_Rd kK false 39) 156 (35, [some (.ref 0), some (.int x), none, none], [.int (Int32.ofInt 0)], (kYx 0 h2), 0, 0) _
  refine .step (x' := (36, [some (.ref 0), some (.int x), some (.int (Int32.ofInt 0)), none], [], (kYx 0 h2), 0, 0)) (ks3 (L' := [some (.ref 0), some (.int x), some (.int (Int32.ofInt 0)), none]) (st' := []) (n := 1) (kmc_156 (e := (3, .istore_n kF2, 0)) rfl) rfl) ?_
  refine .step (x' := (37, [some (.ref 0), some (.int x), some (.int (Int32.ofInt 0)), none], [.ref 0], (kYx 0 h2), 0, 0)) (ks2 (v := .ref 0) (n := 1) (kmc_156 (e := (2, .aload_n kF0, 0)) rfl) rfl) ?_
  refine .step (x' := (40, [some (.ref 0), some (.int x), some (.int (Int32.ofInt 0)), none], [.ref 3], (kYx 0 h2), 0, 0)) (skg (v := .ref 3) (kmc_156 (e := (5, .getfield 19, 0)) rfl) rfl (kyx_o (by decide) (by decide) kat_0) rfl) ?_
  refine .call (v := some (.ref 3)) (ph' := (kYx 0 h2)) (c1 := 0) (s1 := 0) (j := 57) (as := [.ref 3]) (pc := 43) (L := [some (.ref 0), some (.int x), some (.int (Int32.ofInt 0)), none]) (st := []) (ks6 (kmc_156 (e := (6, .invokevirtual 245, 0)) rfl) (sk_v (n := 0) (a := 3) rfl rfl (kyx_o (by decide) (by decide) kat_3) rfl rfl)) (show pm_Rd kK false 39 57 [.ref 3] (kYx 0 h2) (some (.ref 3), (kYx 0 h2), 0, 0) from ?_) ?_
  · refine pm_Rd.mk (K := kK) (al := false) (d := 38) (mj := 57) rfl ?_
    show pm_Te kK false (pm_Rd kK false 38) 57 (0, [some (.ref 3)], [], (kYx 0 h2), 0, 0) _
    refine .step (x' := (1, [some (.ref 3)], [.ref 3], (kYx 0 h2), 0, 0)) (ks2 (v := .ref 3) (n := 1) (kmc_57 (e := (2, .aload_n kF0, 0)) rfl) rfl) ?_
    refine .step (x' := (2, [some (.ref 3)], [.int (Int32.ofInt 0), .ref 3], (kYx 0 h2), 0, 0)) (ks0 (st' := [.int (Int32.ofInt 0), .ref 3]) (kmc_57 (e := (0, .iconst 0, 0)) rfl) rfl) ?_
    refine .step (x' := (5, [some (.ref 3)], [], (kYx 0 h2), 0, 0)) (skp (kmc_57 (e := (5, .putfield 15, 0)) rfl) rfl (kyx_o (by decide) (by decide) kat_3) (by decide +kernel) rfl) ?_
    refine .step (x' := (6, [some (.ref 3)], [.ref 3], (kYx 0 h2), 0, 0)) (ks2 (v := .ref 3) (n := 1) (kmc_57 (e := (2, .aload_n kF0, 0)) rfl) rfl) ?_
    exact .ret (ks7 (kmc_57 (e := (7, .areturn, 0)) rfl) rfl)
  show pm_Te kK false (pm_Rd kK false 39) 156 (43, [some (.ref 0), some (.int x), some (.int (Int32.ofInt 0)), none], [.ref 3], (kYx 0 h2), 0, 0) _
  refine .step (x' := (44, [some (.ref 0), some (.int x), some (.int (Int32.ofInt 0)), none], [], (kYx 0 h2), 0, 0)) (ks0 (st' := []) (kmc_156 (e := (0, .pop, 0)) rfl) rfl) ?_
  refine .step (x' := (45, [some (.ref 0), some (.int x), some (.int (Int32.ofInt 0)), none], [.int (Int32.ofInt 0)], (kYx 0 h2), 0, 0)) (ks0 (st' := [.int (Int32.ofInt 0)]) (kmc_156 (e := (0, .iconst 0, 0)) rfl) rfl) ?_
  refine .step (x' := (46, [some (.ref 0), some (.int x), some (.int (Int32.ofInt 0)), some (.int (Int32.ofInt 0))], [], (kYx 0 h2), 0, 0)) (ks3 (L' := [some (.ref 0), some (.int x), some (.int (Int32.ofInt 0)), some (.int (Int32.ofInt 0))]) (st' := []) (n := 1) (kmc_156 (e := (3, .istore_n kF3, 0)) rfl) rfl) ?_
  refine .step (x' := (47, [some (.ref 0), some (.int x), some (.int (Int32.ofInt 0)), some (.int (Int32.ofInt 0))], [.int (Int32.ofInt 0)], (kYx 0 h2), 0, 0)) (ks2 (v := .int (Int32.ofInt 0)) (n := 1) (kmc_156 (e := (2, .iload_n kF3, 0)) rfl) rfl) ?_
  refine .step (x' := (48, [some (.ref 0), some (.int x), some (.int (Int32.ofInt 0)), some (.int (Int32.ofInt 0))], [.ref 0, .int (Int32.ofInt 0)], (kYx 0 h2), 0, 0)) (ks2 (v := .ref 0) (n := 1) (kmc_156 (e := (2, .aload_n kF0, 0)) rfl) rfl) ?_
  refine .step (x' := (51, [some (.ref 0), some (.int x), some (.int (Int32.ofInt 0)), some (.int (Int32.ofInt 0))], [.ref 37, .int (Int32.ofInt 0)], (kYx 0 h2), 0, 0)) (skg (v := .ref 37) (kmc_156 (e := (5, .getfield 49, 0)) rfl) rfl (kyx_o (by decide) (by decide) kat_0) rfl) ?_
  refine .step (x' := (54, [some (.ref 0), some (.int x), some (.int (Int32.ofInt 0)), some (.int (Int32.ofInt 0))], [.int 0, .int (Int32.ofInt 0)], (kYx 0 h2), 0, 0)) (skg (v := .int 0) (kmc_156 (e := (5, .getfield 130, 0)) rfl) rfl kyx_T rfl) ?_
  refine .step (x' := (87, [some (.ref 0), some (.int x), some (.int (Int32.ofInt 0)), some (.int (Int32.ofInt 0))], [], (kYx 0 h2), 0, 0)) (ks4 (pc' := 87) (st' := []) (kmc_156 (e := (4, .if_icmp .ge 33, 87)) rfl) (kbi_ge (b := true) (by decide +kernel))) ?_
  refine .step (x' := (88, [some (.ref 0), some (.int x), some (.int (Int32.ofInt 0)), some (.int (Int32.ofInt 0))], [.int (Int32.ofInt 0)], (kYx 0 h2), 0, 0)) (ks2 (v := .int (Int32.ofInt 0)) (n := 1) (kmc_156 (e := (2, .iload_n kF2, 0)) rfl) rfl) ?_
  exact .ret (ks7 (kmc_156 (e := (7, .ireturn, 0)) rfl) rfl)
theorem kax_fr {h2 : Int32} : kFr (kYx 0 h2) := fun a d ha hd => kyx_o (by omega) (by omega) hd
theorem kpm_goes {P : pm_H} (hP : kFr P) (r h : Int32) : pm_Rd kK false 38 243 [.ref 170, .ref 175] (kYm P r h) (none, kYm P r (h + (Int32.ofInt 1 : Int32)), 0, 0) := by
  rw [← kym_sT (h := h) (h2 := h + (Int32.ofInt 1 : Int32))]
  refine pm_Rd.mk (K := kK) (al := false) (d := 37) (mj := 243) rfl ?_
  show pm_Te kK false (pm_Rd kK false 37) 243 (0, [some (.ref 170), some (.ref 175), none, none], [], (kYm P r h), 0, 0) _
  refine .step (x' := (1, [some (.ref 170), some (.ref 175), none, none], [.int (Int32.ofInt 0)], (kYm P r h), 0, 0)) (ks0 (st' := [.int (Int32.ofInt 0)]) (kmc_243 (e := (0, .iconst 0, 0)) rfl) rfl) ?_
  refine .step (x' := (2, [some (.ref 170), some (.ref 175), some (.int (Int32.ofInt 0)), none], [], (kYm P r h), 0, 0)) (ks3 (L' := [some (.ref 170), some (.ref 175), some (.int (Int32.ofInt 0)), none]) (st' := []) (n := 1) (kmc_243 (e := (3, .istore_n kF2, 0)) rfl) rfl) ?_
  refine .step (x' := (3, [some (.ref 170), some (.ref 175), some (.int (Int32.ofInt 0)), none], [.int (Int32.ofInt 0)], (kYm P r h), 0, 0)) (ks2 (v := .int (Int32.ofInt 0)) (n := 1) (kmc_243 (e := (2, .iload_n kF2, 0)) rfl) rfl) ?_
  refine .step (x' := (4, [some (.ref 170), some (.ref 175), some (.int (Int32.ofInt 0)), none], [.ref 170, .int (Int32.ofInt 0)], (kYm P r h), 0, 0)) (ks2 (v := .ref 170) (n := 1) (kmc_243 (e := (2, .aload_n kF0, 0)) rfl) rfl) ?_
  refine .step (x' := (7, [some (.ref 170), some (.ref 175), some (.int (Int32.ofInt 0)), none], [.int 0, .int (Int32.ofInt 0)], (kYm P r h), 0, 0)) (skg (v := .int 0) (kmc_243 (e := (5, .getfield 130, 0)) rfl) rfl (kym_M hP) rfl) ?_
  refine .step (x' := (40, [some (.ref 170), some (.ref 175), some (.int (Int32.ofInt 0)), none], [], (kYm P r h), 0, 0)) (ks4 (pc' := 40) (st' := []) (kmc_243 (e := (4, .if_icmp .ge 33, 40)) rfl) (kbi_ge (b := true) (by decide +kernel))) ?_
  refine .step (x' := (41, [some (.ref 170), some (.ref 175), some (.int (Int32.ofInt 0)), none], [.int (Int32.ofInt 0)], (kYm P r h), 0, 0)) (ks0 (st' := [.int (Int32.ofInt 0)]) (kmc_243 (e := (0, .iconst 0, 0)) rfl) rfl) ?_
  refine .step (x' := (42, [some (.ref 170), some (.ref 175), some (.int (Int32.ofInt 0)), none], [], (kYm P r h), 0, 0)) (ks3 (L' := [some (.ref 170), some (.ref 175), some (.int (Int32.ofInt 0)), none]) (st' := []) (n := 1) (kmc_243 (e := (3, .istore_n kF2, 0)) rfl) rfl) ?_
  refine .step (x' := (43, [some (.ref 170), some (.ref 175), some (.int (Int32.ofInt 0)), none], [.int (Int32.ofInt 0)], (kYm P r h), 0, 0)) (ks2 (v := .int (Int32.ofInt 0)) (n := 1) (kmc_243 (e := (2, .iload_n kF2, 0)) rfl) rfl) ?_
  refine .step (x' := (44, [some (.ref 170), some (.ref 175), some (.int (Int32.ofInt 0)), none], [.ref 170, .int (Int32.ofInt 0)], (kYm P r h), 0, 0)) (ks2 (v := .ref 170) (n := 1) (kmc_243 (e := (2, .aload_n kF0, 0)) rfl) rfl) ?_
  refine .step (x' := (47, [some (.ref 170), some (.ref 175), some (.int (Int32.ofInt 0)), none], [.int 0, .int (Int32.ofInt 0)], (kYm P r h), 0, 0)) (skg (v := .int 0) (kmc_243 (e := (5, .getfield 130, 0)) rfl) rfl (kym_M hP) rfl) ?_
  refine .step (x' := (114, [some (.ref 170), some (.ref 175), some (.int (Int32.ofInt 0)), none], [], (kYm P r h), 0, 0)) (ks4 (pc' := 114) (st' := []) (kmc_243 (e := (4, .if_icmp .ge 67, 114)) rfl) (kbi_ge (b := true) (by decide +kernel))) ?_
  refine .step (x' := (115, [some (.ref 170), some (.ref 175), some (.int (Int32.ofInt 0)), none], [.int (Int32.ofInt 0)], (kYm P r h), 0, 0)) (ks0 (st' := [.int (Int32.ofInt 0)]) (kmc_243 (e := (0, .iconst 0, 0)) rfl) rfl) ?_
  refine .step (x' := (116, [some (.ref 170), some (.ref 175), some (.int (Int32.ofInt 0)), none], [], (kYm P r h), 0, 0)) (ks3 (L' := [some (.ref 170), some (.ref 175), some (.int (Int32.ofInt 0)), none]) (st' := []) (n := 1) (kmc_243 (e := (3, .istore_n kF2, 0)) rfl) rfl) ?_
  refine .step (x' := (117, [some (.ref 170), some (.ref 175), some (.int (Int32.ofInt 0)), none], [.int (Int32.ofInt 0)], (kYm P r h), 0, 0)) (ks2 (v := .int (Int32.ofInt 0)) (n := 1) (kmc_243 (e := (2, .iload_n kF2, 0)) rfl) rfl) ?_
  refine .step (x' := (118, [some (.ref 170), some (.ref 175), some (.int (Int32.ofInt 0)), none], [.ref 170, .int (Int32.ofInt 0)], (kYm P r h), 0, 0)) (ks2 (v := .ref 170) (n := 1) (kmc_243 (e := (2, .aload_n kF0, 0)) rfl) rfl) ?_
  refine .step (x' := (121, [some (.ref 170), some (.ref 175), some (.int (Int32.ofInt 0)), none], [.int 0, .int (Int32.ofInt 0)], (kYm P r h), 0, 0)) (skg (v := .int 0) (kmc_243 (e := (5, .getfield 130, 0)) rfl) rfl (kym_M hP) rfl) ?_
  refine .step (x' := (142, [some (.ref 170), some (.ref 175), some (.int (Int32.ofInt 0)), none], [], (kYm P r h), 0, 0)) (ks4 (pc' := 142) (st' := []) (kmc_243 (e := (4, .if_icmp .ge 21, 142)) rfl) (kbi_ge (b := true) (by decide +kernel))) ?_
  refine .step (x' := (143, [some (.ref 170), some (.ref 175), some (.int (Int32.ofInt 0)), none], [.ref 175], (kYm P r h), 0, 0)) (ks2 (v := .ref 175) (n := 1) (kmc_243 (e := (2, .aload_n kF1, 0)) rfl) rfl) ?_
  refine .step (x' := (145, [some (.ref 170), some (.ref 175), some (.int (Int32.ofInt 0)), none], [.int ((Int8.ofInt 40).toInt32), .ref 175], (kYm P r h), 0, 0)) (ks1 (v := .int ((Int8.ofInt 40).toInt32)) (n := 2) (kmc_243 (e := (1, .bipush 40, 0)) rfl) rfl) ?_
  refine .step (x' := (146, [some (.ref 170), some (.ref 175), some (.int (Int32.ofInt 0)), none], [.int ((Int8.ofInt 40).toInt32), .ref 175, .int ((Int8.ofInt 40).toInt32), .ref 175], (kYm P r h), 0, 0)) (ks0 (st' := [.int ((Int8.ofInt 40).toInt32), .ref 175, .int ((Int8.ofInt 40).toInt32), .ref 175]) (kmc_243 (e := (0, .dup2, 0)) rfl) rfl) ?_
  refine .step (x' := (147, [some (.ref 170), some (.ref 175), some (.int (Int32.ofInt 0)), none], [.int h, .int ((Int8.ofInt 40).toInt32), .ref 175], (kYm P r h), 0, 0)) (skal (x := h) (kmc_243 (e := (5, .iaload, 0)) rfl) (kym_T hP) ((su_i (k := 40) (by decide +kernel) (by decide)).trans rfl)) ?_
  refine .step (x' := (148, [some (.ref 170), some (.ref 175), some (.int (Int32.ofInt 0)), none], [.int (Int32.ofInt 1), .int h, .int ((Int8.ofInt 40).toInt32), .ref 175], (kYm P r h), 0, 0)) (ks0 (st' := [.int (Int32.ofInt 1), .int h, .int ((Int8.ofInt 40).toInt32), .ref 175]) (kmc_243 (e := (0, .iconst 1, 0)) rfl) rfl) ?_
  refine .step (x' := (149, [some (.ref 170), some (.ref 175), some (.int (Int32.ofInt 0)), none], [.int (h + (Int32.ofInt 1 : Int32)), .int ((Int8.ofInt 40).toInt32), .ref 175], (kYm P r h), 0, 0)) (ks0 (st' := [.int (h + (Int32.ofInt 1 : Int32)), .int ((Int8.ofInt 40).toInt32), .ref 175]) (kmc_243 (e := (0, .iadd, 0)) rfl) rfl) ?_
  refine .step (x' := (150, [some (.ref 170), some (.ref 175), some (.int (Int32.ofInt 0)), none], [], ((kYm P r h).set 175 (.inl (0, .inl (((List.replicate 41 0).set 40 h).set 40 (h + (Int32.ofInt 1 : Int32)))))), 0, 0)) (skas (kmc_243 (e := (5, .iastore, 0)) rfl) (kym_T hP) (su_p (k := 40) (by decide +kernel) (by decide) rfl)) ?_
  exact .ret (ks7 (kmc_243 (e := (7, .return_, 0)) rfl) rfl)
theorem kpm_body {P : pm_H} (hP : kFr P) {n i r h : Int32} {R : pm_R} (hin : i.toInt < n.toInt) (kk : pm_Te kK false (pm_Rd kK false 38) 244 (2, [some (.ref 170), some (.ref 175), some (.int n), some (.int (i + Int32.ofInt 1))], [], (kYm P r (h + (Int32.ofInt 1 : Int32))), 0, 0) R) : pm_Te kK false (pm_Rd kK false 38) 244 (2, [some (.ref 170), some (.ref 175), some (.int n), some (.int i)], [], (kYm P r h), 0, 0) R := by
  refine .step (x' := (3, [some (.ref 170), some (.ref 175), some (.int n), some (.int i)], [.int i], (kYm P r h), 0, 0)) (ks2 (v := .int i) (n := 1) (kmc_244 (e := (2, .iload_n kF3, 0)) rfl) rfl) ?_
  refine .step (x' := (4, [some (.ref 170), some (.ref 175), some (.int n), some (.int i)], [.int n, .int i], (kYm P r h), 0, 0)) (ks2 (v := .int n) (n := 1) (kmc_244 (e := (2, .iload_n kF2, 0)) rfl) rfl) ?_
  refine .step (x' := (7, [some (.ref 170), some (.ref 175), some (.int n), some (.int i)], [], (kYm P r h), 0, 0)) (ks4 (pc' := 7) (st' := []) (kmc_244 (e := (4, .if_icmp .ge 14, 18)) rfl) (kbi_ge (b := false) (sd_lef (a := n.toInt) (b := i.toInt) rfl rfl (by omega)))) ?_
  refine .step (x' := (8, [some (.ref 170), some (.ref 175), some (.int n), some (.int i)], [.ref 170], (kYm P r h), 0, 0)) (ks2 (v := .ref 170) (n := 1) (kmc_244 (e := (2, .aload_n kF0, 0)) rfl) rfl) ?_
  refine .step (x' := (9, [some (.ref 170), some (.ref 175), some (.int n), some (.int i)], [.ref 175, .ref 170], (kYm P r h), 0, 0)) (ks2 (v := .ref 175) (n := 1) (kmc_244 (e := (2, .aload_n kF1, 0)) rfl) rfl) ?_
  refine .call (v := none) (ph' := (kYm P r (h + (Int32.ofInt 1 : Int32)))) (c1 := 0) (s1 := 0) (j := 243) (as := [.ref 170, .ref 175]) (pc := 12) (L := [some (.ref 170), some (.ref 175), some (.int n), some (.int i)]) (st := []) (ks6 (kmc_244 (e := (6, .invokevirtual 347, 0)) rfl) (sk_v (n := 1) (a := 170) rfl rfl (kym_M hP) rfl rfl)) (show pm_Rd kK false 38 243 [.ref 170, .ref 175] (kYm P r h) (none, (kYm P r (h + (Int32.ofInt 1 : Int32))), 0, 0) from ?_) ?_
  · exact kpm_goes hP r h
  show pm_Te kK false (pm_Rd kK false 38) 244 (12, [some (.ref 170), some (.ref 175), some (.int n), some (.int i)], [], (kYm P r (h + (Int32.ofInt 1 : Int32))), 0, 0) _
  refine .step (x' := (15, [some (.ref 170), some (.ref 175), some (.int n), some (.int (i + Int32.ofInt 1))], [], (kYm P r (h + (Int32.ofInt 1 : Int32))), 0, 0)) (ks3 (L' := [some (.ref 170), some (.ref 175), some (.int n), some (.int (i + Int32.ofInt 1))]) (st' := []) (n := 3) (kmc_244 (e := (3, .iinc 3 1, 0)) rfl) rfl) ?_
  refine .step (x' := (2, [some (.ref 170), some (.ref 175), some (.int n), some (.int (i + Int32.ofInt 1))], [], (kYm P r (h + (Int32.ofInt 1 : Int32))), 0, 0)) (ks4 (pc' := 2) (st' := []) (kmc_244 (e := (4, .goto (-13), 2)) rfl) rfl) ?_
  exact kk
theorem kpm_end {P : pm_H} (hP : kFr P) {n i r h : Int32} (hin : n.toInt ≤ i.toInt) : pm_Te kK false (pm_Rd kK false 38) 244 (2, [some (.ref 170), some (.ref 175), some (.int n), some (.int i)], [], (kYm P r h), 0, 0) (none, kYm P r h, 0, 0) := by
  refine .step (x' := (3, [some (.ref 170), some (.ref 175), some (.int n), some (.int i)], [.int i], (kYm P r h), 0, 0)) (ks2 (v := .int i) (n := 1) (kmc_244 (e := (2, .iload_n kF3, 0)) rfl) rfl) ?_
  refine .step (x' := (4, [some (.ref 170), some (.ref 175), some (.int n), some (.int i)], [.int n, .int i], (kYm P r h), 0, 0)) (ks2 (v := .int n) (n := 1) (kmc_244 (e := (2, .iload_n kF2, 0)) rfl) rfl) ?_
  refine .step (x' := (18, [some (.ref 170), some (.ref 175), some (.int n), some (.int i)], [], (kYm P r h), 0, 0)) (ks4 (pc' := 18) (st' := []) (kmc_244 (e := (4, .if_icmp .ge 14, 18)) rfl) (kbi_ge (b := true) (sd_let (a := n.toInt) (b := i.toInt) rfl rfl (by omega)))) ?_
  exact .ret (ks7 (kmc_244 (e := (7, .return_, 0)) rfl) rfl)
theorem kpm_head {P : pm_H} (hP : kFr P) {n r h : Int32} {R : pm_R} (kk : pm_Te kK false (pm_Rd kK false 38) 244 (2, [some (.ref 170), some (.ref 175), some (.int n), some (.int (Int32.ofInt 0))], [], (kYm P r h), 0, 0) R) : pm_Te kK false (pm_Rd kK false 38) 244 (0, [some (.ref 170), some (.ref 175), some (.int n), none], [], (kYm P r h), 0, 0) R := by
  refine .step (x' := (1, [some (.ref 170), some (.ref 175), some (.int n), none], [.int (Int32.ofInt 0)], (kYm P r h), 0, 0)) (ks0 (st' := [.int (Int32.ofInt 0)]) (kmc_244 (e := (0, .iconst 0, 0)) rfl) rfl) ?_
  refine .step (x' := (2, [some (.ref 170), some (.ref 175), some (.int n), some (.int (Int32.ofInt 0))], [], (kYm P r h), 0, 0)) (ks3 (L' := [some (.ref 170), some (.ref 175), some (.int n), some (.int (Int32.ofInt 0))]) (st' := []) (n := 1) (kmc_244 (e := (3, .istore_n kF3, 0)) rfl) rfl) ?_
  exact kk
theorem kpm_loop {P : pm_H} (hP : kFr P) : ∀ (k : Nat) (n i r h : Int32), i.toInt + (k : Int) = n.toInt → 0 ≤ i.toInt → n.toInt ≤ 99 → ∃ h2, pm_Te kK false (pm_Rd kK false 38) 244 (2, [some (.ref 170), some (.ref 175), some (.int n), some (.int i)], [], (kYm P r h), 0, 0) (none, kYm P r h2, 0, 0) := by
  intro k
  induction k with
  | zero =>
    intro n i r h h1 h2 h3
    exact ⟨h, kpm_end hP (by omega)⟩
  | succ k ih =>
    intro n i r h h1 h2 h3
    have e := ki_add1 (i := i) (by omega) h2
    obtain ⟨h2', g1⟩ := ih n (i + Int32.ofInt 1) r (h + (Int32.ofInt 1 : Int32)) (by omega) (by omega) h3
    exact ⟨h2', kpm_body hP (by omega) g1⟩
theorem kym_00 {P : pm_H} (hP : kFr P) : kYm P 0 0 = P := by
  have e : P.set 170 (kmcc 0) = P := sk_set (sk_at ((hP 170 _ (by decide) kat_170).trans (congrArg some (kq_c_eq _ _ (by decide +kernel)))))
  rw [← kym_0 hP (r := 0)]
  exact e
theorem kpm_run {P : pm_H} (hP : kFr P) {n : Int32} (h0 : 0 ≤ n.toInt) (h1 : n.toInt ≤ 99) : ∃ h2, pm_Rd kK false 39 244 [.ref 170, .ref 175, .int n] P (none, kYm P 0 h2, 0, 0) := by
  have e : (Int32.ofInt 0).toInt = 0 := by decide +kernel
  obtain ⟨h2, g1⟩ := kpm_loop hP n.toInt.toNat n (Int32.ofInt 0) 0 0 (by omega) (by omega) h1
  have g2 := kpm_head hP g1
  rw [kym_00 hP] at g2
  exact ⟨h2, pm_Rd.mk (d := 38) rfl g2⟩
theorem kam_run {P : pm_H} (hP : kFr P) {x h2 : Int32} (hx0 : 0 ≤ x.toInt) (hx1 : x.toInt ≤ 99) (hd : pm_Rd kK false 39 244 [.ref 170, .ref 175, .int x] P (none, kYm P 0 h2, 0, 0)) : pm_Rd kK false 40 270 [.ref 170, .int x] P (some (.int (Int32.ofInt 0)), (kYm P 0 h2), 0, 0) := by
  refine pm_Rd.mk (K := kK) (al := false) (d := 39) (mj := 270) rfl ?_
  show pm_Te kK false (pm_Rd kK false 39) 270 (0, [some (.ref 170), some (.int x), none], [], P, 0, 0) _
  refine .step (x' := (1, [some (.ref 170), some (.int x), none], [.ref 170], P, 0, 0)) (ks2 (v := .ref 170) (n := 1) (kmc_270 (e := (2, .aload_n kF0, 0)) rfl) rfl) ?_
  refine .step (x' := (2, [some (.ref 170), some (.int x), none], [.int (Int32.ofInt 0), .ref 170], P, 0, 0)) (ks0 (st' := [.int (Int32.ofInt 0), .ref 170]) (kmc_270 (e := (0, .iconst 0, 0)) rfl) rfl) ?_
  refine .step (x' := (5, [some (.ref 170), some (.int x), none], [], P, 0, 0)) (skp (kmc_270 (e := (5, .putfield 3, 0)) rfl) rfl (hP 170 _ (by decide) kat_170) (by decide +kernel) rfl) ?_
  refine .step (x' := (6, [some (.ref 170), some (.int x), none], [.int x], P, 0, 0)) (ks2 (v := .int x) (n := 1) (kmc_270 (e := (2, .iload_n kF1, 0)) rfl) rfl) ?_
  refine .step (x' := (7, [some (.ref 170), some (.int x), none], [.long (x.toInt64)], P, 0, 0)) (ks0 (st' := [.long (x.toInt64)]) (kmc_270 (e := (0, .i2l, 0)) rfl) rfl) ?_
  refine .step (x' := (8, [some (.ref 170), some (.int x), none], [.long (Int64.ofNat 0), .long (x.toInt64)], P, 0, 0)) (ks0 (st' := [.long (Int64.ofNat 0), .long (x.toInt64)]) (kmc_270 (e := (0, .lconst kG0, 0)) rfl) rfl) ?_
  refine .step (x' := (11, [some (.ref 170), some (.int x), none], [.long 99, .long (Int64.ofNat 0), .long (x.toInt64)], P, 0, 0)) (ks1 (v := .long 99) (n := 3) (kmc_270 (e := (1, .ldc2_w 430, 0)) rfl) rfl) ?_
  refine .call (v := some (.int (Int32.ofInt 1))) (ph' := P) (c1 := 0) (s1 := 0) (j := 183) (as := [.long (x.toInt64), .long (Int64.ofNat 0), .long 99]) (pc := 14) (L := [some (.ref 170), some (.int x), none]) (st := []) (ks6 (kmc_270 (e := (6, .invokestatic 126, 0)) rfl) (sk_s (n := 3) rfl rfl rfl)) (show pm_Rd kK false 39 183 [.long (x.toInt64), .long (Int64.ofNat 0), .long 99] P (some (.int (Int32.ofInt 1)), P, 0, 0) from ?_) ?_
  · refine pm_Rd.mk (K := kK) (al := false) (d := 38) (mj := 183) rfl ?_
    show pm_Te kK false (pm_Rd kK false 38) 183 (0, [some (.long (x.toInt64)), none, some (.long (Int64.ofNat 0)), none, some (.long 99), none], [], P, 0, 0) _
    refine .step (x' := (1, [some (.long (x.toInt64)), none, some (.long (Int64.ofNat 0)), none, some (.long 99), none], [.long (x.toInt64)], P, 0, 0)) (ks2 (v := .long (x.toInt64)) (n := 1) (kmc_183 (e := (2, .lload_n kF0, 0)) rfl) rfl) ?_
    refine .step (x' := (2, [some (.long (x.toInt64)), none, some (.long (Int64.ofNat 0)), none, some (.long 99), none], [.long (Int64.ofNat 0), .long (x.toInt64)], P, 0, 0)) (ks2 (v := .long (Int64.ofNat 0)) (n := 1) (kmc_183 (e := (2, .lload_n kF2, 0)) rfl) rfl) ?_
    refine .step (x' := (3, [some (.long (x.toInt64)), none, some (.long (Int64.ofNat 0)), none, some (.long 99), none], [.int (lg_cmp (x.toInt64) (Int64.ofNat 0))], P, 0, 0)) (ks0 (st' := [.int (lg_cmp (x.toInt64) (Int64.ofNat 0))]) (kmc_183 (e := (0, .lcmp, 0)) rfl) rfl) ?_
    refine .step (x' := (6, [some (.long (x.toInt64)), none, some (.long (Int64.ofNat 0)), none, some (.long 99), none], [], P, 0, 0)) (ks4 (pc' := 6) (st' := []) (kmc_183 (e := (4, .ifCond .lt 14, 17)) rfl) (kbz_lt (b := false) (sc_ge (a := x.toInt) (b := 0) (sz_l _) (sz_cl (k := 0) (by decide +kernel)) (by omega)))) ?_
    refine .step (x' := (7, [some (.long (x.toInt64)), none, some (.long (Int64.ofNat 0)), none, some (.long 99), none], [.long (x.toInt64)], P, 0, 0)) (ks2 (v := .long (x.toInt64)) (n := 1) (kmc_183 (e := (2, .lload_n kF0, 0)) rfl) rfl) ?_
    refine .step (x' := (9, [some (.long (x.toInt64)), none, some (.long (Int64.ofNat 0)), none, some (.long 99), none], [.long 99, .long (x.toInt64)], P, 0, 0)) (ks2 (v := .long 99) (n := 2) (kmc_183 (e := (2, .lload 4, 0)) rfl) rfl) ?_
    refine .step (x' := (10, [some (.long (x.toInt64)), none, some (.long (Int64.ofNat 0)), none, some (.long 99), none], [.int (lg_cmp (x.toInt64) 99)], P, 0, 0)) (ks0 (st' := [.int (lg_cmp (x.toInt64) 99)]) (kmc_183 (e := (0, .lcmp, 0)) rfl) rfl) ?_
    refine .step (x' := (13, [some (.long (x.toInt64)), none, some (.long (Int64.ofNat 0)), none, some (.long 99), none], [], P, 0, 0)) (ks4 (pc' := 13) (st' := []) (kmc_183 (e := (4, .ifCond .gt 7, 17)) rfl) (kbz_gt (b := false) (sc_le (a := x.toInt) (b := 99) (sz_l _) (sz_cl (k := 99) (by decide +kernel)) (by omega)))) ?_
    refine .step (x' := (14, [some (.long (x.toInt64)), none, some (.long (Int64.ofNat 0)), none, some (.long 99), none], [.int (Int32.ofInt 1)], P, 0, 0)) (ks0 (st' := [.int (Int32.ofInt 1)]) (kmc_183 (e := (0, .iconst 1, 0)) rfl) rfl) ?_
    refine .step (x' := (18, [some (.long (x.toInt64)), none, some (.long (Int64.ofNat 0)), none, some (.long 99), none], [.int (Int32.ofInt 1)], P, 0, 0)) (ks4 (pc' := 18) (st' := [.int (Int32.ofInt 1)]) (kmc_183 (e := (4, .goto 4, 18)) rfl) rfl) ?_
    exact .ret (ks7 (kmc_183 (e := (7, .ireturn, 0)) rfl) (sr_z (by decide +kernel)))
  show pm_Te kK false (pm_Rd kK false 39) 270 (14, [some (.ref 170), some (.int x), none], [.int (Int32.ofInt 1)], P, 0, 0) _
  refine .step (x' := (19, [some (.ref 170), some (.int x), none], [], P, 0, 0)) (ks4 (pc' := 19) (st' := []) (kmc_270 (e := (4, .ifCond .ne 5, 19)) rfl) (kbz_ne (b := false) (by decide +kernel))) ?_
  refine .step (x' := (20, [some (.ref 170), some (.int x), none], [.ref 170], P, 0, 0)) (ks2 (v := .ref 170) (n := 1) (kmc_270 (e := (2, .aload_n kF0, 0)) rfl) rfl) ?_
  refine .call (v := none) (ph' := P) (c1 := 0) (s1 := 0) (j := 257) (as := [.ref 170]) (pc := 23) (L := [some (.ref 170), some (.int x), none]) (st := []) (ks6 (kmc_270 (e := (6, .invokevirtual 424, 0)) rfl) (sk_v (n := 0) (a := 170) rfl rfl (hP 170 _ (by decide) kat_170) rfl rfl)) (show pm_Rd kK false 39 257 [.ref 170] P (none, P, 0, 0) from ?_) ?_
  · refine pm_Rd.mk (K := kK) (al := false) (d := 38) (mj := 257) rfl ?_
    show pm_Te kK false (pm_Rd kK false 38) 257 (0, [some (.ref 170), none], [], P, 0, 0) _
    refine .step (x' := (1, [some (.ref 170), none], [.int (Int32.ofInt 0)], P, 0, 0)) (ks0 (st' := [.int (Int32.ofInt 0)]) (kmc_257 (e := (0, .iconst 0, 0)) rfl) rfl) ?_
    refine .step (x' := (2, [some (.ref 170), some (.int (Int32.ofInt 0))], [], P, 0, 0)) (ks3 (L' := [some (.ref 170), some (.int (Int32.ofInt 0))]) (st' := []) (n := 1) (kmc_257 (e := (3, .istore_n kF1, 0)) rfl) rfl) ?_
    refine .step (x' := (3, [some (.ref 170), some (.int (Int32.ofInt 0))], [.int (Int32.ofInt 0)], P, 0, 0)) (ks2 (v := .int (Int32.ofInt 0)) (n := 1) (kmc_257 (e := (2, .iload_n kF1, 0)) rfl) rfl) ?_
    refine .step (x' := (5, [some (.ref 170), some (.int (Int32.ofInt 0))], [.int ((Int8.ofInt 41).toInt32), .int (Int32.ofInt 0)], P, 0, 0)) (ks1 (v := .int ((Int8.ofInt 41).toInt32)) (n := 2) (kmc_257 (e := (1, .bipush 41, 0)) rfl) rfl) ?_
    refine .step (x' := (8, [some (.ref 170), some (.int (Int32.ofInt 0))], [], P, 0, 0)) (ks4 (pc' := 8) (st' := []) (kmc_257 (e := (4, .if_icmp .ge 21, 26)) rfl) (kbi_ge (b := false) (by decide +kernel))) ?_
    refine .step (x' := (9, [some (.ref 170), some (.int (Int32.ofInt 0))], [.ref 170], P, 0, 0)) (ks2 (v := .ref 170) (n := 1) (kmc_257 (e := (2, .aload_n kF0, 0)) rfl) rfl) ?_
    refine .step (x' := (12, [some (.ref 170), some (.int (Int32.ofInt 0))], [.ref 175], P, 0, 0)) (skg (v := .ref 175) (kmc_257 (e := (5, .getfield 44, 0)) rfl) rfl (hP 170 _ (by decide) kat_170) rfl) ?_
    refine .step (x' := (13, [some (.ref 170), some (.int (Int32.ofInt 0))], [.int (Int32.ofInt 0), .ref 175], P, 0, 0)) (ks2 (v := .int (Int32.ofInt 0)) (n := 1) (kmc_257 (e := (2, .iload_n kF1, 0)) rfl) rfl) ?_
    refine .step (x' := (14, [some (.ref 170), some (.int (Int32.ofInt 0))], [.ref 170, .int (Int32.ofInt 0), .ref 175], P, 0, 0)) (ks2 (v := .ref 170) (n := 1) (kmc_257 (e := (2, .aload_n kF0, 0)) rfl) rfl) ?_
    refine .step (x' := (17, [some (.ref 170), some (.int (Int32.ofInt 0))], [.ref 174, .int (Int32.ofInt 0), .ref 175], P, 0, 0)) (skg (v := .ref 174) (kmc_257 (e := (5, .getfield 41, 0)) rfl) rfl (hP 170 _ (by decide) kat_170) rfl) ?_
    refine .step (x' := (18, [some (.ref 170), some (.int (Int32.ofInt 0))], [.int (Int32.ofInt 0), .ref 174, .int (Int32.ofInt 0), .ref 175], P, 0, 0)) (ks2 (v := .int (Int32.ofInt 0)) (n := 1) (kmc_257 (e := (2, .iload_n kF1, 0)) rfl) rfl) ?_
    refine .step (x' := (19, [some (.ref 170), some (.int (Int32.ofInt 0))], [.int 0, .int (Int32.ofInt 0), .ref 175], P, 0, 0)) (skal (x := 0) (kmc_257 (e := (5, .iaload, 0)) rfl) (hP 174 _ (by decide) kat_174) ((su_i (k := 0) (by decide +kernel) (by decide)).trans rfl)) ?_
    refine .step (x' := (20, [some (.ref 170), some (.int (Int32.ofInt 0))], [], P, 0, 0)) (skas0 (kmc_257 (e := (5, .iastore, 0)) rfl) (hP 175 _ (by decide) kat_175) (k := 0) (by decide +kernel) (by decide) (by decide +kernel)) ?_
    refine .step (x' := (23, [some (.ref 170), some (.int 1)], [], P, 0, 0)) (ks3 (L' := [some (.ref 170), some (.int 1)]) (st' := []) (n := 3) (kmc_257 (e := (3, .iinc 1 1, 0)) rfl) (sa_iinc (i := 1) rfl (by decide +kernel) rfl rfl)) ?_
    refine .step (x' := (2, [some (.ref 170), some (.int 1)], [], P, 0, 0)) (ks4 (pc' := 2) (st' := []) (kmc_257 (e := (4, .goto (-21), 2)) rfl) rfl) ?_
    refine .step (x' := (3, [some (.ref 170), some (.int 1)], [.int 1], P, 0, 0)) (ks2 (v := .int 1) (n := 1) (kmc_257 (e := (2, .iload_n kF1, 0)) rfl) rfl) ?_
    refine .step (x' := (5, [some (.ref 170), some (.int 1)], [.int ((Int8.ofInt 41).toInt32), .int 1], P, 0, 0)) (ks1 (v := .int ((Int8.ofInt 41).toInt32)) (n := 2) (kmc_257 (e := (1, .bipush 41, 0)) rfl) rfl) ?_
    refine .step (x' := (8, [some (.ref 170), some (.int 1)], [], P, 0, 0)) (ks4 (pc' := 8) (st' := []) (kmc_257 (e := (4, .if_icmp .ge 21, 26)) rfl) (kbi_ge (b := false) (by decide +kernel))) ?_
    refine .step (x' := (9, [some (.ref 170), some (.int 1)], [.ref 170], P, 0, 0)) (ks2 (v := .ref 170) (n := 1) (kmc_257 (e := (2, .aload_n kF0, 0)) rfl) rfl) ?_
    refine .step (x' := (12, [some (.ref 170), some (.int 1)], [.ref 175], P, 0, 0)) (skg (v := .ref 175) (kmc_257 (e := (5, .getfield 44, 0)) rfl) rfl (hP 170 _ (by decide) kat_170) rfl) ?_
    refine .step (x' := (13, [some (.ref 170), some (.int 1)], [.int 1, .ref 175], P, 0, 0)) (ks2 (v := .int 1) (n := 1) (kmc_257 (e := (2, .iload_n kF1, 0)) rfl) rfl) ?_
    refine .step (x' := (14, [some (.ref 170), some (.int 1)], [.ref 170, .int 1, .ref 175], P, 0, 0)) (ks2 (v := .ref 170) (n := 1) (kmc_257 (e := (2, .aload_n kF0, 0)) rfl) rfl) ?_
    refine .step (x' := (17, [some (.ref 170), some (.int 1)], [.ref 174, .int 1, .ref 175], P, 0, 0)) (skg (v := .ref 174) (kmc_257 (e := (5, .getfield 41, 0)) rfl) rfl (hP 170 _ (by decide) kat_170) rfl) ?_
    refine .step (x' := (18, [some (.ref 170), some (.int 1)], [.int 1, .ref 174, .int 1, .ref 175], P, 0, 0)) (ks2 (v := .int 1) (n := 1) (kmc_257 (e := (2, .iload_n kF1, 0)) rfl) rfl) ?_
    refine .step (x' := (19, [some (.ref 170), some (.int 1)], [.int 0, .int 1, .ref 175], P, 0, 0)) (skal (x := 0) (kmc_257 (e := (5, .iaload, 0)) rfl) (hP 174 _ (by decide) kat_174) ((su_i (k := 1) (by decide +kernel) (by decide)).trans rfl)) ?_
    refine .step (x' := (20, [some (.ref 170), some (.int 1)], [], P, 0, 0)) (skas0 (kmc_257 (e := (5, .iastore, 0)) rfl) (hP 175 _ (by decide) kat_175) (k := 1) (by decide +kernel) (by decide) (by decide +kernel)) ?_
    refine .step (x' := (23, [some (.ref 170), some (.int 2)], [], P, 0, 0)) (ks3 (L' := [some (.ref 170), some (.int 2)]) (st' := []) (n := 3) (kmc_257 (e := (3, .iinc 1 1, 0)) rfl) (sa_iinc (i := 1) rfl (by decide +kernel) rfl rfl)) ?_
    refine .step (x' := (2, [some (.ref 170), some (.int 2)], [], P, 0, 0)) (ks4 (pc' := 2) (st' := []) (kmc_257 (e := (4, .goto (-21), 2)) rfl) rfl) ?_
    refine .step (x' := (3, [some (.ref 170), some (.int 2)], [.int 2], P, 0, 0)) (ks2 (v := .int 2) (n := 1) (kmc_257 (e := (2, .iload_n kF1, 0)) rfl) rfl) ?_
    refine .step (x' := (5, [some (.ref 170), some (.int 2)], [.int ((Int8.ofInt 41).toInt32), .int 2], P, 0, 0)) (ks1 (v := .int ((Int8.ofInt 41).toInt32)) (n := 2) (kmc_257 (e := (1, .bipush 41, 0)) rfl) rfl) ?_
    refine .step (x' := (8, [some (.ref 170), some (.int 2)], [], P, 0, 0)) (ks4 (pc' := 8) (st' := []) (kmc_257 (e := (4, .if_icmp .ge 21, 26)) rfl) (kbi_ge (b := false) (by decide +kernel))) ?_
    refine .step (x' := (9, [some (.ref 170), some (.int 2)], [.ref 170], P, 0, 0)) (ks2 (v := .ref 170) (n := 1) (kmc_257 (e := (2, .aload_n kF0, 0)) rfl) rfl) ?_
    refine .step (x' := (12, [some (.ref 170), some (.int 2)], [.ref 175], P, 0, 0)) (skg (v := .ref 175) (kmc_257 (e := (5, .getfield 44, 0)) rfl) rfl (hP 170 _ (by decide) kat_170) rfl) ?_
    refine .step (x' := (13, [some (.ref 170), some (.int 2)], [.int 2, .ref 175], P, 0, 0)) (ks2 (v := .int 2) (n := 1) (kmc_257 (e := (2, .iload_n kF1, 0)) rfl) rfl) ?_
    refine .step (x' := (14, [some (.ref 170), some (.int 2)], [.ref 170, .int 2, .ref 175], P, 0, 0)) (ks2 (v := .ref 170) (n := 1) (kmc_257 (e := (2, .aload_n kF0, 0)) rfl) rfl) ?_
    refine .step (x' := (17, [some (.ref 170), some (.int 2)], [.ref 174, .int 2, .ref 175], P, 0, 0)) (skg (v := .ref 174) (kmc_257 (e := (5, .getfield 41, 0)) rfl) rfl (hP 170 _ (by decide) kat_170) rfl) ?_
    refine .step (x' := (18, [some (.ref 170), some (.int 2)], [.int 2, .ref 174, .int 2, .ref 175], P, 0, 0)) (ks2 (v := .int 2) (n := 1) (kmc_257 (e := (2, .iload_n kF1, 0)) rfl) rfl) ?_
    refine .step (x' := (19, [some (.ref 170), some (.int 2)], [.int 0, .int 2, .ref 175], P, 0, 0)) (skal (x := 0) (kmc_257 (e := (5, .iaload, 0)) rfl) (hP 174 _ (by decide) kat_174) ((su_i (k := 2) (by decide +kernel) (by decide)).trans rfl)) ?_
    refine .step (x' := (20, [some (.ref 170), some (.int 2)], [], P, 0, 0)) (skas0 (kmc_257 (e := (5, .iastore, 0)) rfl) (hP 175 _ (by decide) kat_175) (k := 2) (by decide +kernel) (by decide) (by decide +kernel)) ?_
    refine .step (x' := (23, [some (.ref 170), some (.int 3)], [], P, 0, 0)) (ks3 (L' := [some (.ref 170), some (.int 3)]) (st' := []) (n := 3) (kmc_257 (e := (3, .iinc 1 1, 0)) rfl) (sa_iinc (i := 1) rfl (by decide +kernel) rfl rfl)) ?_
    refine .step (x' := (2, [some (.ref 170), some (.int 3)], [], P, 0, 0)) (ks4 (pc' := 2) (st' := []) (kmc_257 (e := (4, .goto (-21), 2)) rfl) rfl) ?_
    refine .step (x' := (3, [some (.ref 170), some (.int 3)], [.int 3], P, 0, 0)) (ks2 (v := .int 3) (n := 1) (kmc_257 (e := (2, .iload_n kF1, 0)) rfl) rfl) ?_
    refine .step (x' := (5, [some (.ref 170), some (.int 3)], [.int ((Int8.ofInt 41).toInt32), .int 3], P, 0, 0)) (ks1 (v := .int ((Int8.ofInt 41).toInt32)) (n := 2) (kmc_257 (e := (1, .bipush 41, 0)) rfl) rfl) ?_
    refine .step (x' := (8, [some (.ref 170), some (.int 3)], [], P, 0, 0)) (ks4 (pc' := 8) (st' := []) (kmc_257 (e := (4, .if_icmp .ge 21, 26)) rfl) (kbi_ge (b := false) (by decide +kernel))) ?_
    refine .step (x' := (9, [some (.ref 170), some (.int 3)], [.ref 170], P, 0, 0)) (ks2 (v := .ref 170) (n := 1) (kmc_257 (e := (2, .aload_n kF0, 0)) rfl) rfl) ?_
    refine .step (x' := (12, [some (.ref 170), some (.int 3)], [.ref 175], P, 0, 0)) (skg (v := .ref 175) (kmc_257 (e := (5, .getfield 44, 0)) rfl) rfl (hP 170 _ (by decide) kat_170) rfl) ?_
    refine .step (x' := (13, [some (.ref 170), some (.int 3)], [.int 3, .ref 175], P, 0, 0)) (ks2 (v := .int 3) (n := 1) (kmc_257 (e := (2, .iload_n kF1, 0)) rfl) rfl) ?_
    refine .step (x' := (14, [some (.ref 170), some (.int 3)], [.ref 170, .int 3, .ref 175], P, 0, 0)) (ks2 (v := .ref 170) (n := 1) (kmc_257 (e := (2, .aload_n kF0, 0)) rfl) rfl) ?_
    refine .step (x' := (17, [some (.ref 170), some (.int 3)], [.ref 174, .int 3, .ref 175], P, 0, 0)) (skg (v := .ref 174) (kmc_257 (e := (5, .getfield 41, 0)) rfl) rfl (hP 170 _ (by decide) kat_170) rfl) ?_
    refine .step (x' := (18, [some (.ref 170), some (.int 3)], [.int 3, .ref 174, .int 3, .ref 175], P, 0, 0)) (ks2 (v := .int 3) (n := 1) (kmc_257 (e := (2, .iload_n kF1, 0)) rfl) rfl) ?_
    refine .step (x' := (19, [some (.ref 170), some (.int 3)], [.int 0, .int 3, .ref 175], P, 0, 0)) (skal (x := 0) (kmc_257 (e := (5, .iaload, 0)) rfl) (hP 174 _ (by decide) kat_174) ((su_i (k := 3) (by decide +kernel) (by decide)).trans rfl)) ?_
    refine .step (x' := (20, [some (.ref 170), some (.int 3)], [], P, 0, 0)) (skas0 (kmc_257 (e := (5, .iastore, 0)) rfl) (hP 175 _ (by decide) kat_175) (k := 3) (by decide +kernel) (by decide) (by decide +kernel)) ?_
    refine .step (x' := (23, [some (.ref 170), some (.int 4)], [], P, 0, 0)) (ks3 (L' := [some (.ref 170), some (.int 4)]) (st' := []) (n := 3) (kmc_257 (e := (3, .iinc 1 1, 0)) rfl) (sa_iinc (i := 1) rfl (by decide +kernel) rfl rfl)) ?_
    refine .step (x' := (2, [some (.ref 170), some (.int 4)], [], P, 0, 0)) (ks4 (pc' := 2) (st' := []) (kmc_257 (e := (4, .goto (-21), 2)) rfl) rfl) ?_
    refine .step (x' := (3, [some (.ref 170), some (.int 4)], [.int 4], P, 0, 0)) (ks2 (v := .int 4) (n := 1) (kmc_257 (e := (2, .iload_n kF1, 0)) rfl) rfl) ?_
    refine .step (x' := (5, [some (.ref 170), some (.int 4)], [.int ((Int8.ofInt 41).toInt32), .int 4], P, 0, 0)) (ks1 (v := .int ((Int8.ofInt 41).toInt32)) (n := 2) (kmc_257 (e := (1, .bipush 41, 0)) rfl) rfl) ?_
    refine .step (x' := (8, [some (.ref 170), some (.int 4)], [], P, 0, 0)) (ks4 (pc' := 8) (st' := []) (kmc_257 (e := (4, .if_icmp .ge 21, 26)) rfl) (kbi_ge (b := false) (by decide +kernel))) ?_
    refine .step (x' := (9, [some (.ref 170), some (.int 4)], [.ref 170], P, 0, 0)) (ks2 (v := .ref 170) (n := 1) (kmc_257 (e := (2, .aload_n kF0, 0)) rfl) rfl) ?_
    refine .step (x' := (12, [some (.ref 170), some (.int 4)], [.ref 175], P, 0, 0)) (skg (v := .ref 175) (kmc_257 (e := (5, .getfield 44, 0)) rfl) rfl (hP 170 _ (by decide) kat_170) rfl) ?_
    refine .step (x' := (13, [some (.ref 170), some (.int 4)], [.int 4, .ref 175], P, 0, 0)) (ks2 (v := .int 4) (n := 1) (kmc_257 (e := (2, .iload_n kF1, 0)) rfl) rfl) ?_
    refine .step (x' := (14, [some (.ref 170), some (.int 4)], [.ref 170, .int 4, .ref 175], P, 0, 0)) (ks2 (v := .ref 170) (n := 1) (kmc_257 (e := (2, .aload_n kF0, 0)) rfl) rfl) ?_
    refine .step (x' := (17, [some (.ref 170), some (.int 4)], [.ref 174, .int 4, .ref 175], P, 0, 0)) (skg (v := .ref 174) (kmc_257 (e := (5, .getfield 41, 0)) rfl) rfl (hP 170 _ (by decide) kat_170) rfl) ?_
    refine .step (x' := (18, [some (.ref 170), some (.int 4)], [.int 4, .ref 174, .int 4, .ref 175], P, 0, 0)) (ks2 (v := .int 4) (n := 1) (kmc_257 (e := (2, .iload_n kF1, 0)) rfl) rfl) ?_
    refine .step (x' := (19, [some (.ref 170), some (.int 4)], [.int 0, .int 4, .ref 175], P, 0, 0)) (skal (x := 0) (kmc_257 (e := (5, .iaload, 0)) rfl) (hP 174 _ (by decide) kat_174) ((su_i (k := 4) (by decide +kernel) (by decide)).trans rfl)) ?_
    refine .step (x' := (20, [some (.ref 170), some (.int 4)], [], P, 0, 0)) (skas0 (kmc_257 (e := (5, .iastore, 0)) rfl) (hP 175 _ (by decide) kat_175) (k := 4) (by decide +kernel) (by decide) (by decide +kernel)) ?_
    refine .step (x' := (23, [some (.ref 170), some (.int 5)], [], P, 0, 0)) (ks3 (L' := [some (.ref 170), some (.int 5)]) (st' := []) (n := 3) (kmc_257 (e := (3, .iinc 1 1, 0)) rfl) (sa_iinc (i := 1) rfl (by decide +kernel) rfl rfl)) ?_
    refine .step (x' := (2, [some (.ref 170), some (.int 5)], [], P, 0, 0)) (ks4 (pc' := 2) (st' := []) (kmc_257 (e := (4, .goto (-21), 2)) rfl) rfl) ?_
    refine .step (x' := (3, [some (.ref 170), some (.int 5)], [.int 5], P, 0, 0)) (ks2 (v := .int 5) (n := 1) (kmc_257 (e := (2, .iload_n kF1, 0)) rfl) rfl) ?_
    refine .step (x' := (5, [some (.ref 170), some (.int 5)], [.int ((Int8.ofInt 41).toInt32), .int 5], P, 0, 0)) (ks1 (v := .int ((Int8.ofInt 41).toInt32)) (n := 2) (kmc_257 (e := (1, .bipush 41, 0)) rfl) rfl) ?_
    refine .step (x' := (8, [some (.ref 170), some (.int 5)], [], P, 0, 0)) (ks4 (pc' := 8) (st' := []) (kmc_257 (e := (4, .if_icmp .ge 21, 26)) rfl) (kbi_ge (b := false) (by decide +kernel))) ?_
    refine .step (x' := (9, [some (.ref 170), some (.int 5)], [.ref 170], P, 0, 0)) (ks2 (v := .ref 170) (n := 1) (kmc_257 (e := (2, .aload_n kF0, 0)) rfl) rfl) ?_
    refine .step (x' := (12, [some (.ref 170), some (.int 5)], [.ref 175], P, 0, 0)) (skg (v := .ref 175) (kmc_257 (e := (5, .getfield 44, 0)) rfl) rfl (hP 170 _ (by decide) kat_170) rfl) ?_
    refine .step (x' := (13, [some (.ref 170), some (.int 5)], [.int 5, .ref 175], P, 0, 0)) (ks2 (v := .int 5) (n := 1) (kmc_257 (e := (2, .iload_n kF1, 0)) rfl) rfl) ?_
    refine .step (x' := (14, [some (.ref 170), some (.int 5)], [.ref 170, .int 5, .ref 175], P, 0, 0)) (ks2 (v := .ref 170) (n := 1) (kmc_257 (e := (2, .aload_n kF0, 0)) rfl) rfl) ?_
    refine .step (x' := (17, [some (.ref 170), some (.int 5)], [.ref 174, .int 5, .ref 175], P, 0, 0)) (skg (v := .ref 174) (kmc_257 (e := (5, .getfield 41, 0)) rfl) rfl (hP 170 _ (by decide) kat_170) rfl) ?_
    refine .step (x' := (18, [some (.ref 170), some (.int 5)], [.int 5, .ref 174, .int 5, .ref 175], P, 0, 0)) (ks2 (v := .int 5) (n := 1) (kmc_257 (e := (2, .iload_n kF1, 0)) rfl) rfl) ?_
    refine .step (x' := (19, [some (.ref 170), some (.int 5)], [.int 0, .int 5, .ref 175], P, 0, 0)) (skal (x := 0) (kmc_257 (e := (5, .iaload, 0)) rfl) (hP 174 _ (by decide) kat_174) ((su_i (k := 5) (by decide +kernel) (by decide)).trans rfl)) ?_
    refine .step (x' := (20, [some (.ref 170), some (.int 5)], [], P, 0, 0)) (skas0 (kmc_257 (e := (5, .iastore, 0)) rfl) (hP 175 _ (by decide) kat_175) (k := 5) (by decide +kernel) (by decide) (by decide +kernel)) ?_
    refine .step (x' := (23, [some (.ref 170), some (.int 6)], [], P, 0, 0)) (ks3 (L' := [some (.ref 170), some (.int 6)]) (st' := []) (n := 3) (kmc_257 (e := (3, .iinc 1 1, 0)) rfl) (sa_iinc (i := 1) rfl (by decide +kernel) rfl rfl)) ?_
    refine .step (x' := (2, [some (.ref 170), some (.int 6)], [], P, 0, 0)) (ks4 (pc' := 2) (st' := []) (kmc_257 (e := (4, .goto (-21), 2)) rfl) rfl) ?_
    refine .step (x' := (3, [some (.ref 170), some (.int 6)], [.int 6], P, 0, 0)) (ks2 (v := .int 6) (n := 1) (kmc_257 (e := (2, .iload_n kF1, 0)) rfl) rfl) ?_
    refine .step (x' := (5, [some (.ref 170), some (.int 6)], [.int ((Int8.ofInt 41).toInt32), .int 6], P, 0, 0)) (ks1 (v := .int ((Int8.ofInt 41).toInt32)) (n := 2) (kmc_257 (e := (1, .bipush 41, 0)) rfl) rfl) ?_
    refine .step (x' := (8, [some (.ref 170), some (.int 6)], [], P, 0, 0)) (ks4 (pc' := 8) (st' := []) (kmc_257 (e := (4, .if_icmp .ge 21, 26)) rfl) (kbi_ge (b := false) (by decide +kernel))) ?_
    refine .step (x' := (9, [some (.ref 170), some (.int 6)], [.ref 170], P, 0, 0)) (ks2 (v := .ref 170) (n := 1) (kmc_257 (e := (2, .aload_n kF0, 0)) rfl) rfl) ?_
    refine .step (x' := (12, [some (.ref 170), some (.int 6)], [.ref 175], P, 0, 0)) (skg (v := .ref 175) (kmc_257 (e := (5, .getfield 44, 0)) rfl) rfl (hP 170 _ (by decide) kat_170) rfl) ?_
    refine .step (x' := (13, [some (.ref 170), some (.int 6)], [.int 6, .ref 175], P, 0, 0)) (ks2 (v := .int 6) (n := 1) (kmc_257 (e := (2, .iload_n kF1, 0)) rfl) rfl) ?_
    refine .step (x' := (14, [some (.ref 170), some (.int 6)], [.ref 170, .int 6, .ref 175], P, 0, 0)) (ks2 (v := .ref 170) (n := 1) (kmc_257 (e := (2, .aload_n kF0, 0)) rfl) rfl) ?_
    refine .step (x' := (17, [some (.ref 170), some (.int 6)], [.ref 174, .int 6, .ref 175], P, 0, 0)) (skg (v := .ref 174) (kmc_257 (e := (5, .getfield 41, 0)) rfl) rfl (hP 170 _ (by decide) kat_170) rfl) ?_
    refine .step (x' := (18, [some (.ref 170), some (.int 6)], [.int 6, .ref 174, .int 6, .ref 175], P, 0, 0)) (ks2 (v := .int 6) (n := 1) (kmc_257 (e := (2, .iload_n kF1, 0)) rfl) rfl) ?_
    refine .step (x' := (19, [some (.ref 170), some (.int 6)], [.int 0, .int 6, .ref 175], P, 0, 0)) (skal (x := 0) (kmc_257 (e := (5, .iaload, 0)) rfl) (hP 174 _ (by decide) kat_174) ((su_i (k := 6) (by decide +kernel) (by decide)).trans rfl)) ?_
    refine .step (x' := (20, [some (.ref 170), some (.int 6)], [], P, 0, 0)) (skas0 (kmc_257 (e := (5, .iastore, 0)) rfl) (hP 175 _ (by decide) kat_175) (k := 6) (by decide +kernel) (by decide) (by decide +kernel)) ?_
    refine .step (x' := (23, [some (.ref 170), some (.int 7)], [], P, 0, 0)) (ks3 (L' := [some (.ref 170), some (.int 7)]) (st' := []) (n := 3) (kmc_257 (e := (3, .iinc 1 1, 0)) rfl) (sa_iinc (i := 1) rfl (by decide +kernel) rfl rfl)) ?_
    refine .step (x' := (2, [some (.ref 170), some (.int 7)], [], P, 0, 0)) (ks4 (pc' := 2) (st' := []) (kmc_257 (e := (4, .goto (-21), 2)) rfl) rfl) ?_
    refine .step (x' := (3, [some (.ref 170), some (.int 7)], [.int 7], P, 0, 0)) (ks2 (v := .int 7) (n := 1) (kmc_257 (e := (2, .iload_n kF1, 0)) rfl) rfl) ?_
    refine .step (x' := (5, [some (.ref 170), some (.int 7)], [.int ((Int8.ofInt 41).toInt32), .int 7], P, 0, 0)) (ks1 (v := .int ((Int8.ofInt 41).toInt32)) (n := 2) (kmc_257 (e := (1, .bipush 41, 0)) rfl) rfl) ?_
    refine .step (x' := (8, [some (.ref 170), some (.int 7)], [], P, 0, 0)) (ks4 (pc' := 8) (st' := []) (kmc_257 (e := (4, .if_icmp .ge 21, 26)) rfl) (kbi_ge (b := false) (by decide +kernel))) ?_
    refine .step (x' := (9, [some (.ref 170), some (.int 7)], [.ref 170], P, 0, 0)) (ks2 (v := .ref 170) (n := 1) (kmc_257 (e := (2, .aload_n kF0, 0)) rfl) rfl) ?_
    refine .step (x' := (12, [some (.ref 170), some (.int 7)], [.ref 175], P, 0, 0)) (skg (v := .ref 175) (kmc_257 (e := (5, .getfield 44, 0)) rfl) rfl (hP 170 _ (by decide) kat_170) rfl) ?_
    refine .step (x' := (13, [some (.ref 170), some (.int 7)], [.int 7, .ref 175], P, 0, 0)) (ks2 (v := .int 7) (n := 1) (kmc_257 (e := (2, .iload_n kF1, 0)) rfl) rfl) ?_
    refine .step (x' := (14, [some (.ref 170), some (.int 7)], [.ref 170, .int 7, .ref 175], P, 0, 0)) (ks2 (v := .ref 170) (n := 1) (kmc_257 (e := (2, .aload_n kF0, 0)) rfl) rfl) ?_
    refine .step (x' := (17, [some (.ref 170), some (.int 7)], [.ref 174, .int 7, .ref 175], P, 0, 0)) (skg (v := .ref 174) (kmc_257 (e := (5, .getfield 41, 0)) rfl) rfl (hP 170 _ (by decide) kat_170) rfl) ?_
    refine .step (x' := (18, [some (.ref 170), some (.int 7)], [.int 7, .ref 174, .int 7, .ref 175], P, 0, 0)) (ks2 (v := .int 7) (n := 1) (kmc_257 (e := (2, .iload_n kF1, 0)) rfl) rfl) ?_
    refine .step (x' := (19, [some (.ref 170), some (.int 7)], [.int 0, .int 7, .ref 175], P, 0, 0)) (skal (x := 0) (kmc_257 (e := (5, .iaload, 0)) rfl) (hP 174 _ (by decide) kat_174) ((su_i (k := 7) (by decide +kernel) (by decide)).trans rfl)) ?_
    refine .step (x' := (20, [some (.ref 170), some (.int 7)], [], P, 0, 0)) (skas0 (kmc_257 (e := (5, .iastore, 0)) rfl) (hP 175 _ (by decide) kat_175) (k := 7) (by decide +kernel) (by decide) (by decide +kernel)) ?_
    refine .step (x' := (23, [some (.ref 170), some (.int 8)], [], P, 0, 0)) (ks3 (L' := [some (.ref 170), some (.int 8)]) (st' := []) (n := 3) (kmc_257 (e := (3, .iinc 1 1, 0)) rfl) (sa_iinc (i := 1) rfl (by decide +kernel) rfl rfl)) ?_
    refine .step (x' := (2, [some (.ref 170), some (.int 8)], [], P, 0, 0)) (ks4 (pc' := 2) (st' := []) (kmc_257 (e := (4, .goto (-21), 2)) rfl) rfl) ?_
    refine .step (x' := (3, [some (.ref 170), some (.int 8)], [.int 8], P, 0, 0)) (ks2 (v := .int 8) (n := 1) (kmc_257 (e := (2, .iload_n kF1, 0)) rfl) rfl) ?_
    refine .step (x' := (5, [some (.ref 170), some (.int 8)], [.int ((Int8.ofInt 41).toInt32), .int 8], P, 0, 0)) (ks1 (v := .int ((Int8.ofInt 41).toInt32)) (n := 2) (kmc_257 (e := (1, .bipush 41, 0)) rfl) rfl) ?_
    refine .step (x' := (8, [some (.ref 170), some (.int 8)], [], P, 0, 0)) (ks4 (pc' := 8) (st' := []) (kmc_257 (e := (4, .if_icmp .ge 21, 26)) rfl) (kbi_ge (b := false) (by decide +kernel))) ?_
    refine .step (x' := (9, [some (.ref 170), some (.int 8)], [.ref 170], P, 0, 0)) (ks2 (v := .ref 170) (n := 1) (kmc_257 (e := (2, .aload_n kF0, 0)) rfl) rfl) ?_
    refine .step (x' := (12, [some (.ref 170), some (.int 8)], [.ref 175], P, 0, 0)) (skg (v := .ref 175) (kmc_257 (e := (5, .getfield 44, 0)) rfl) rfl (hP 170 _ (by decide) kat_170) rfl) ?_
    refine .step (x' := (13, [some (.ref 170), some (.int 8)], [.int 8, .ref 175], P, 0, 0)) (ks2 (v := .int 8) (n := 1) (kmc_257 (e := (2, .iload_n kF1, 0)) rfl) rfl) ?_
    refine .step (x' := (14, [some (.ref 170), some (.int 8)], [.ref 170, .int 8, .ref 175], P, 0, 0)) (ks2 (v := .ref 170) (n := 1) (kmc_257 (e := (2, .aload_n kF0, 0)) rfl) rfl) ?_
    refine .step (x' := (17, [some (.ref 170), some (.int 8)], [.ref 174, .int 8, .ref 175], P, 0, 0)) (skg (v := .ref 174) (kmc_257 (e := (5, .getfield 41, 0)) rfl) rfl (hP 170 _ (by decide) kat_170) rfl) ?_
    refine .step (x' := (18, [some (.ref 170), some (.int 8)], [.int 8, .ref 174, .int 8, .ref 175], P, 0, 0)) (ks2 (v := .int 8) (n := 1) (kmc_257 (e := (2, .iload_n kF1, 0)) rfl) rfl) ?_
    refine .step (x' := (19, [some (.ref 170), some (.int 8)], [.int 0, .int 8, .ref 175], P, 0, 0)) (skal (x := 0) (kmc_257 (e := (5, .iaload, 0)) rfl) (hP 174 _ (by decide) kat_174) ((su_i (k := 8) (by decide +kernel) (by decide)).trans rfl)) ?_
    refine .step (x' := (20, [some (.ref 170), some (.int 8)], [], P, 0, 0)) (skas0 (kmc_257 (e := (5, .iastore, 0)) rfl) (hP 175 _ (by decide) kat_175) (k := 8) (by decide +kernel) (by decide) (by decide +kernel)) ?_
    refine .step (x' := (23, [some (.ref 170), some (.int 9)], [], P, 0, 0)) (ks3 (L' := [some (.ref 170), some (.int 9)]) (st' := []) (n := 3) (kmc_257 (e := (3, .iinc 1 1, 0)) rfl) (sa_iinc (i := 1) rfl (by decide +kernel) rfl rfl)) ?_
    refine .step (x' := (2, [some (.ref 170), some (.int 9)], [], P, 0, 0)) (ks4 (pc' := 2) (st' := []) (kmc_257 (e := (4, .goto (-21), 2)) rfl) rfl) ?_
    refine .step (x' := (3, [some (.ref 170), some (.int 9)], [.int 9], P, 0, 0)) (ks2 (v := .int 9) (n := 1) (kmc_257 (e := (2, .iload_n kF1, 0)) rfl) rfl) ?_
    refine .step (x' := (5, [some (.ref 170), some (.int 9)], [.int ((Int8.ofInt 41).toInt32), .int 9], P, 0, 0)) (ks1 (v := .int ((Int8.ofInt 41).toInt32)) (n := 2) (kmc_257 (e := (1, .bipush 41, 0)) rfl) rfl) ?_
    refine .step (x' := (8, [some (.ref 170), some (.int 9)], [], P, 0, 0)) (ks4 (pc' := 8) (st' := []) (kmc_257 (e := (4, .if_icmp .ge 21, 26)) rfl) (kbi_ge (b := false) (by decide +kernel))) ?_
    refine .step (x' := (9, [some (.ref 170), some (.int 9)], [.ref 170], P, 0, 0)) (ks2 (v := .ref 170) (n := 1) (kmc_257 (e := (2, .aload_n kF0, 0)) rfl) rfl) ?_
    refine .step (x' := (12, [some (.ref 170), some (.int 9)], [.ref 175], P, 0, 0)) (skg (v := .ref 175) (kmc_257 (e := (5, .getfield 44, 0)) rfl) rfl (hP 170 _ (by decide) kat_170) rfl) ?_
    refine .step (x' := (13, [some (.ref 170), some (.int 9)], [.int 9, .ref 175], P, 0, 0)) (ks2 (v := .int 9) (n := 1) (kmc_257 (e := (2, .iload_n kF1, 0)) rfl) rfl) ?_
    refine .step (x' := (14, [some (.ref 170), some (.int 9)], [.ref 170, .int 9, .ref 175], P, 0, 0)) (ks2 (v := .ref 170) (n := 1) (kmc_257 (e := (2, .aload_n kF0, 0)) rfl) rfl) ?_
    refine .step (x' := (17, [some (.ref 170), some (.int 9)], [.ref 174, .int 9, .ref 175], P, 0, 0)) (skg (v := .ref 174) (kmc_257 (e := (5, .getfield 41, 0)) rfl) rfl (hP 170 _ (by decide) kat_170) rfl) ?_
    refine .step (x' := (18, [some (.ref 170), some (.int 9)], [.int 9, .ref 174, .int 9, .ref 175], P, 0, 0)) (ks2 (v := .int 9) (n := 1) (kmc_257 (e := (2, .iload_n kF1, 0)) rfl) rfl) ?_
    refine .step (x' := (19, [some (.ref 170), some (.int 9)], [.int 0, .int 9, .ref 175], P, 0, 0)) (skal (x := 0) (kmc_257 (e := (5, .iaload, 0)) rfl) (hP 174 _ (by decide) kat_174) ((su_i (k := 9) (by decide +kernel) (by decide)).trans rfl)) ?_
    refine .step (x' := (20, [some (.ref 170), some (.int 9)], [], P, 0, 0)) (skas0 (kmc_257 (e := (5, .iastore, 0)) rfl) (hP 175 _ (by decide) kat_175) (k := 9) (by decide +kernel) (by decide) (by decide +kernel)) ?_
    refine .step (x' := (23, [some (.ref 170), some (.int 10)], [], P, 0, 0)) (ks3 (L' := [some (.ref 170), some (.int 10)]) (st' := []) (n := 3) (kmc_257 (e := (3, .iinc 1 1, 0)) rfl) (sa_iinc (i := 1) rfl (by decide +kernel) rfl rfl)) ?_
    refine .step (x' := (2, [some (.ref 170), some (.int 10)], [], P, 0, 0)) (ks4 (pc' := 2) (st' := []) (kmc_257 (e := (4, .goto (-21), 2)) rfl) rfl) ?_
    refine .step (x' := (3, [some (.ref 170), some (.int 10)], [.int 10], P, 0, 0)) (ks2 (v := .int 10) (n := 1) (kmc_257 (e := (2, .iload_n kF1, 0)) rfl) rfl) ?_
    refine .step (x' := (5, [some (.ref 170), some (.int 10)], [.int ((Int8.ofInt 41).toInt32), .int 10], P, 0, 0)) (ks1 (v := .int ((Int8.ofInt 41).toInt32)) (n := 2) (kmc_257 (e := (1, .bipush 41, 0)) rfl) rfl) ?_
    refine .step (x' := (8, [some (.ref 170), some (.int 10)], [], P, 0, 0)) (ks4 (pc' := 8) (st' := []) (kmc_257 (e := (4, .if_icmp .ge 21, 26)) rfl) (kbi_ge (b := false) (by decide +kernel))) ?_
    refine .step (x' := (9, [some (.ref 170), some (.int 10)], [.ref 170], P, 0, 0)) (ks2 (v := .ref 170) (n := 1) (kmc_257 (e := (2, .aload_n kF0, 0)) rfl) rfl) ?_
    refine .step (x' := (12, [some (.ref 170), some (.int 10)], [.ref 175], P, 0, 0)) (skg (v := .ref 175) (kmc_257 (e := (5, .getfield 44, 0)) rfl) rfl (hP 170 _ (by decide) kat_170) rfl) ?_
    refine .step (x' := (13, [some (.ref 170), some (.int 10)], [.int 10, .ref 175], P, 0, 0)) (ks2 (v := .int 10) (n := 1) (kmc_257 (e := (2, .iload_n kF1, 0)) rfl) rfl) ?_
    refine .step (x' := (14, [some (.ref 170), some (.int 10)], [.ref 170, .int 10, .ref 175], P, 0, 0)) (ks2 (v := .ref 170) (n := 1) (kmc_257 (e := (2, .aload_n kF0, 0)) rfl) rfl) ?_
    refine .step (x' := (17, [some (.ref 170), some (.int 10)], [.ref 174, .int 10, .ref 175], P, 0, 0)) (skg (v := .ref 174) (kmc_257 (e := (5, .getfield 41, 0)) rfl) rfl (hP 170 _ (by decide) kat_170) rfl) ?_
    refine .step (x' := (18, [some (.ref 170), some (.int 10)], [.int 10, .ref 174, .int 10, .ref 175], P, 0, 0)) (ks2 (v := .int 10) (n := 1) (kmc_257 (e := (2, .iload_n kF1, 0)) rfl) rfl) ?_
    refine .step (x' := (19, [some (.ref 170), some (.int 10)], [.int 0, .int 10, .ref 175], P, 0, 0)) (skal (x := 0) (kmc_257 (e := (5, .iaload, 0)) rfl) (hP 174 _ (by decide) kat_174) ((su_i (k := 10) (by decide +kernel) (by decide)).trans rfl)) ?_
    refine .step (x' := (20, [some (.ref 170), some (.int 10)], [], P, 0, 0)) (skas0 (kmc_257 (e := (5, .iastore, 0)) rfl) (hP 175 _ (by decide) kat_175) (k := 10) (by decide +kernel) (by decide) (by decide +kernel)) ?_
    refine .step (x' := (23, [some (.ref 170), some (.int 11)], [], P, 0, 0)) (ks3 (L' := [some (.ref 170), some (.int 11)]) (st' := []) (n := 3) (kmc_257 (e := (3, .iinc 1 1, 0)) rfl) (sa_iinc (i := 1) rfl (by decide +kernel) rfl rfl)) ?_
    refine .step (x' := (2, [some (.ref 170), some (.int 11)], [], P, 0, 0)) (ks4 (pc' := 2) (st' := []) (kmc_257 (e := (4, .goto (-21), 2)) rfl) rfl) ?_
    refine .step (x' := (3, [some (.ref 170), some (.int 11)], [.int 11], P, 0, 0)) (ks2 (v := .int 11) (n := 1) (kmc_257 (e := (2, .iload_n kF1, 0)) rfl) rfl) ?_
    refine .step (x' := (5, [some (.ref 170), some (.int 11)], [.int ((Int8.ofInt 41).toInt32), .int 11], P, 0, 0)) (ks1 (v := .int ((Int8.ofInt 41).toInt32)) (n := 2) (kmc_257 (e := (1, .bipush 41, 0)) rfl) rfl) ?_
    refine .step (x' := (8, [some (.ref 170), some (.int 11)], [], P, 0, 0)) (ks4 (pc' := 8) (st' := []) (kmc_257 (e := (4, .if_icmp .ge 21, 26)) rfl) (kbi_ge (b := false) (by decide +kernel))) ?_
    refine .step (x' := (9, [some (.ref 170), some (.int 11)], [.ref 170], P, 0, 0)) (ks2 (v := .ref 170) (n := 1) (kmc_257 (e := (2, .aload_n kF0, 0)) rfl) rfl) ?_
    refine .step (x' := (12, [some (.ref 170), some (.int 11)], [.ref 175], P, 0, 0)) (skg (v := .ref 175) (kmc_257 (e := (5, .getfield 44, 0)) rfl) rfl (hP 170 _ (by decide) kat_170) rfl) ?_
    refine .step (x' := (13, [some (.ref 170), some (.int 11)], [.int 11, .ref 175], P, 0, 0)) (ks2 (v := .int 11) (n := 1) (kmc_257 (e := (2, .iload_n kF1, 0)) rfl) rfl) ?_
    refine .step (x' := (14, [some (.ref 170), some (.int 11)], [.ref 170, .int 11, .ref 175], P, 0, 0)) (ks2 (v := .ref 170) (n := 1) (kmc_257 (e := (2, .aload_n kF0, 0)) rfl) rfl) ?_
    refine .step (x' := (17, [some (.ref 170), some (.int 11)], [.ref 174, .int 11, .ref 175], P, 0, 0)) (skg (v := .ref 174) (kmc_257 (e := (5, .getfield 41, 0)) rfl) rfl (hP 170 _ (by decide) kat_170) rfl) ?_
    refine .step (x' := (18, [some (.ref 170), some (.int 11)], [.int 11, .ref 174, .int 11, .ref 175], P, 0, 0)) (ks2 (v := .int 11) (n := 1) (kmc_257 (e := (2, .iload_n kF1, 0)) rfl) rfl) ?_
    refine .step (x' := (19, [some (.ref 170), some (.int 11)], [.int 0, .int 11, .ref 175], P, 0, 0)) (skal (x := 0) (kmc_257 (e := (5, .iaload, 0)) rfl) (hP 174 _ (by decide) kat_174) ((su_i (k := 11) (by decide +kernel) (by decide)).trans rfl)) ?_
    refine .step (x' := (20, [some (.ref 170), some (.int 11)], [], P, 0, 0)) (skas0 (kmc_257 (e := (5, .iastore, 0)) rfl) (hP 175 _ (by decide) kat_175) (k := 11) (by decide +kernel) (by decide) (by decide +kernel)) ?_
    refine .step (x' := (23, [some (.ref 170), some (.int 12)], [], P, 0, 0)) (ks3 (L' := [some (.ref 170), some (.int 12)]) (st' := []) (n := 3) (kmc_257 (e := (3, .iinc 1 1, 0)) rfl) (sa_iinc (i := 1) rfl (by decide +kernel) rfl rfl)) ?_
    refine .step (x' := (2, [some (.ref 170), some (.int 12)], [], P, 0, 0)) (ks4 (pc' := 2) (st' := []) (kmc_257 (e := (4, .goto (-21), 2)) rfl) rfl) ?_
    refine .step (x' := (3, [some (.ref 170), some (.int 12)], [.int 12], P, 0, 0)) (ks2 (v := .int 12) (n := 1) (kmc_257 (e := (2, .iload_n kF1, 0)) rfl) rfl) ?_
    refine .step (x' := (5, [some (.ref 170), some (.int 12)], [.int ((Int8.ofInt 41).toInt32), .int 12], P, 0, 0)) (ks1 (v := .int ((Int8.ofInt 41).toInt32)) (n := 2) (kmc_257 (e := (1, .bipush 41, 0)) rfl) rfl) ?_
    refine .step (x' := (8, [some (.ref 170), some (.int 12)], [], P, 0, 0)) (ks4 (pc' := 8) (st' := []) (kmc_257 (e := (4, .if_icmp .ge 21, 26)) rfl) (kbi_ge (b := false) (by decide +kernel))) ?_
    refine .step (x' := (9, [some (.ref 170), some (.int 12)], [.ref 170], P, 0, 0)) (ks2 (v := .ref 170) (n := 1) (kmc_257 (e := (2, .aload_n kF0, 0)) rfl) rfl) ?_
    refine .step (x' := (12, [some (.ref 170), some (.int 12)], [.ref 175], P, 0, 0)) (skg (v := .ref 175) (kmc_257 (e := (5, .getfield 44, 0)) rfl) rfl (hP 170 _ (by decide) kat_170) rfl) ?_
    refine .step (x' := (13, [some (.ref 170), some (.int 12)], [.int 12, .ref 175], P, 0, 0)) (ks2 (v := .int 12) (n := 1) (kmc_257 (e := (2, .iload_n kF1, 0)) rfl) rfl) ?_
    refine .step (x' := (14, [some (.ref 170), some (.int 12)], [.ref 170, .int 12, .ref 175], P, 0, 0)) (ks2 (v := .ref 170) (n := 1) (kmc_257 (e := (2, .aload_n kF0, 0)) rfl) rfl) ?_
    refine .step (x' := (17, [some (.ref 170), some (.int 12)], [.ref 174, .int 12, .ref 175], P, 0, 0)) (skg (v := .ref 174) (kmc_257 (e := (5, .getfield 41, 0)) rfl) rfl (hP 170 _ (by decide) kat_170) rfl) ?_
    refine .step (x' := (18, [some (.ref 170), some (.int 12)], [.int 12, .ref 174, .int 12, .ref 175], P, 0, 0)) (ks2 (v := .int 12) (n := 1) (kmc_257 (e := (2, .iload_n kF1, 0)) rfl) rfl) ?_
    refine .step (x' := (19, [some (.ref 170), some (.int 12)], [.int 0, .int 12, .ref 175], P, 0, 0)) (skal (x := 0) (kmc_257 (e := (5, .iaload, 0)) rfl) (hP 174 _ (by decide) kat_174) ((su_i (k := 12) (by decide +kernel) (by decide)).trans rfl)) ?_
    refine .step (x' := (20, [some (.ref 170), some (.int 12)], [], P, 0, 0)) (skas0 (kmc_257 (e := (5, .iastore, 0)) rfl) (hP 175 _ (by decide) kat_175) (k := 12) (by decide +kernel) (by decide) (by decide +kernel)) ?_
    refine .step (x' := (23, [some (.ref 170), some (.int 13)], [], P, 0, 0)) (ks3 (L' := [some (.ref 170), some (.int 13)]) (st' := []) (n := 3) (kmc_257 (e := (3, .iinc 1 1, 0)) rfl) (sa_iinc (i := 1) rfl (by decide +kernel) rfl rfl)) ?_
    refine .step (x' := (2, [some (.ref 170), some (.int 13)], [], P, 0, 0)) (ks4 (pc' := 2) (st' := []) (kmc_257 (e := (4, .goto (-21), 2)) rfl) rfl) ?_
    refine .step (x' := (3, [some (.ref 170), some (.int 13)], [.int 13], P, 0, 0)) (ks2 (v := .int 13) (n := 1) (kmc_257 (e := (2, .iload_n kF1, 0)) rfl) rfl) ?_
    refine .step (x' := (5, [some (.ref 170), some (.int 13)], [.int ((Int8.ofInt 41).toInt32), .int 13], P, 0, 0)) (ks1 (v := .int ((Int8.ofInt 41).toInt32)) (n := 2) (kmc_257 (e := (1, .bipush 41, 0)) rfl) rfl) ?_
    refine .step (x' := (8, [some (.ref 170), some (.int 13)], [], P, 0, 0)) (ks4 (pc' := 8) (st' := []) (kmc_257 (e := (4, .if_icmp .ge 21, 26)) rfl) (kbi_ge (b := false) (by decide +kernel))) ?_
    refine .step (x' := (9, [some (.ref 170), some (.int 13)], [.ref 170], P, 0, 0)) (ks2 (v := .ref 170) (n := 1) (kmc_257 (e := (2, .aload_n kF0, 0)) rfl) rfl) ?_
    refine .step (x' := (12, [some (.ref 170), some (.int 13)], [.ref 175], P, 0, 0)) (skg (v := .ref 175) (kmc_257 (e := (5, .getfield 44, 0)) rfl) rfl (hP 170 _ (by decide) kat_170) rfl) ?_
    refine .step (x' := (13, [some (.ref 170), some (.int 13)], [.int 13, .ref 175], P, 0, 0)) (ks2 (v := .int 13) (n := 1) (kmc_257 (e := (2, .iload_n kF1, 0)) rfl) rfl) ?_
    refine .step (x' := (14, [some (.ref 170), some (.int 13)], [.ref 170, .int 13, .ref 175], P, 0, 0)) (ks2 (v := .ref 170) (n := 1) (kmc_257 (e := (2, .aload_n kF0, 0)) rfl) rfl) ?_
    refine .step (x' := (17, [some (.ref 170), some (.int 13)], [.ref 174, .int 13, .ref 175], P, 0, 0)) (skg (v := .ref 174) (kmc_257 (e := (5, .getfield 41, 0)) rfl) rfl (hP 170 _ (by decide) kat_170) rfl) ?_
    refine .step (x' := (18, [some (.ref 170), some (.int 13)], [.int 13, .ref 174, .int 13, .ref 175], P, 0, 0)) (ks2 (v := .int 13) (n := 1) (kmc_257 (e := (2, .iload_n kF1, 0)) rfl) rfl) ?_
    refine .step (x' := (19, [some (.ref 170), some (.int 13)], [.int 0, .int 13, .ref 175], P, 0, 0)) (skal (x := 0) (kmc_257 (e := (5, .iaload, 0)) rfl) (hP 174 _ (by decide) kat_174) ((su_i (k := 13) (by decide +kernel) (by decide)).trans rfl)) ?_
    refine .step (x' := (20, [some (.ref 170), some (.int 13)], [], P, 0, 0)) (skas0 (kmc_257 (e := (5, .iastore, 0)) rfl) (hP 175 _ (by decide) kat_175) (k := 13) (by decide +kernel) (by decide) (by decide +kernel)) ?_
    refine .step (x' := (23, [some (.ref 170), some (.int 14)], [], P, 0, 0)) (ks3 (L' := [some (.ref 170), some (.int 14)]) (st' := []) (n := 3) (kmc_257 (e := (3, .iinc 1 1, 0)) rfl) (sa_iinc (i := 1) rfl (by decide +kernel) rfl rfl)) ?_
    refine .step (x' := (2, [some (.ref 170), some (.int 14)], [], P, 0, 0)) (ks4 (pc' := 2) (st' := []) (kmc_257 (e := (4, .goto (-21), 2)) rfl) rfl) ?_
    refine .step (x' := (3, [some (.ref 170), some (.int 14)], [.int 14], P, 0, 0)) (ks2 (v := .int 14) (n := 1) (kmc_257 (e := (2, .iload_n kF1, 0)) rfl) rfl) ?_
    refine .step (x' := (5, [some (.ref 170), some (.int 14)], [.int ((Int8.ofInt 41).toInt32), .int 14], P, 0, 0)) (ks1 (v := .int ((Int8.ofInt 41).toInt32)) (n := 2) (kmc_257 (e := (1, .bipush 41, 0)) rfl) rfl) ?_
    refine .step (x' := (8, [some (.ref 170), some (.int 14)], [], P, 0, 0)) (ks4 (pc' := 8) (st' := []) (kmc_257 (e := (4, .if_icmp .ge 21, 26)) rfl) (kbi_ge (b := false) (by decide +kernel))) ?_
    refine .step (x' := (9, [some (.ref 170), some (.int 14)], [.ref 170], P, 0, 0)) (ks2 (v := .ref 170) (n := 1) (kmc_257 (e := (2, .aload_n kF0, 0)) rfl) rfl) ?_
    refine .step (x' := (12, [some (.ref 170), some (.int 14)], [.ref 175], P, 0, 0)) (skg (v := .ref 175) (kmc_257 (e := (5, .getfield 44, 0)) rfl) rfl (hP 170 _ (by decide) kat_170) rfl) ?_
    refine .step (x' := (13, [some (.ref 170), some (.int 14)], [.int 14, .ref 175], P, 0, 0)) (ks2 (v := .int 14) (n := 1) (kmc_257 (e := (2, .iload_n kF1, 0)) rfl) rfl) ?_
    refine .step (x' := (14, [some (.ref 170), some (.int 14)], [.ref 170, .int 14, .ref 175], P, 0, 0)) (ks2 (v := .ref 170) (n := 1) (kmc_257 (e := (2, .aload_n kF0, 0)) rfl) rfl) ?_
    refine .step (x' := (17, [some (.ref 170), some (.int 14)], [.ref 174, .int 14, .ref 175], P, 0, 0)) (skg (v := .ref 174) (kmc_257 (e := (5, .getfield 41, 0)) rfl) rfl (hP 170 _ (by decide) kat_170) rfl) ?_
    refine .step (x' := (18, [some (.ref 170), some (.int 14)], [.int 14, .ref 174, .int 14, .ref 175], P, 0, 0)) (ks2 (v := .int 14) (n := 1) (kmc_257 (e := (2, .iload_n kF1, 0)) rfl) rfl) ?_
    refine .step (x' := (19, [some (.ref 170), some (.int 14)], [.int 0, .int 14, .ref 175], P, 0, 0)) (skal (x := 0) (kmc_257 (e := (5, .iaload, 0)) rfl) (hP 174 _ (by decide) kat_174) ((su_i (k := 14) (by decide +kernel) (by decide)).trans rfl)) ?_
    refine .step (x' := (20, [some (.ref 170), some (.int 14)], [], P, 0, 0)) (skas0 (kmc_257 (e := (5, .iastore, 0)) rfl) (hP 175 _ (by decide) kat_175) (k := 14) (by decide +kernel) (by decide) (by decide +kernel)) ?_
    refine .step (x' := (23, [some (.ref 170), some (.int 15)], [], P, 0, 0)) (ks3 (L' := [some (.ref 170), some (.int 15)]) (st' := []) (n := 3) (kmc_257 (e := (3, .iinc 1 1, 0)) rfl) (sa_iinc (i := 1) rfl (by decide +kernel) rfl rfl)) ?_
    refine .step (x' := (2, [some (.ref 170), some (.int 15)], [], P, 0, 0)) (ks4 (pc' := 2) (st' := []) (kmc_257 (e := (4, .goto (-21), 2)) rfl) rfl) ?_
    refine .step (x' := (3, [some (.ref 170), some (.int 15)], [.int 15], P, 0, 0)) (ks2 (v := .int 15) (n := 1) (kmc_257 (e := (2, .iload_n kF1, 0)) rfl) rfl) ?_
    refine .step (x' := (5, [some (.ref 170), some (.int 15)], [.int ((Int8.ofInt 41).toInt32), .int 15], P, 0, 0)) (ks1 (v := .int ((Int8.ofInt 41).toInt32)) (n := 2) (kmc_257 (e := (1, .bipush 41, 0)) rfl) rfl) ?_
    refine .step (x' := (8, [some (.ref 170), some (.int 15)], [], P, 0, 0)) (ks4 (pc' := 8) (st' := []) (kmc_257 (e := (4, .if_icmp .ge 21, 26)) rfl) (kbi_ge (b := false) (by decide +kernel))) ?_
    refine .step (x' := (9, [some (.ref 170), some (.int 15)], [.ref 170], P, 0, 0)) (ks2 (v := .ref 170) (n := 1) (kmc_257 (e := (2, .aload_n kF0, 0)) rfl) rfl) ?_
    refine .step (x' := (12, [some (.ref 170), some (.int 15)], [.ref 175], P, 0, 0)) (skg (v := .ref 175) (kmc_257 (e := (5, .getfield 44, 0)) rfl) rfl (hP 170 _ (by decide) kat_170) rfl) ?_
    refine .step (x' := (13, [some (.ref 170), some (.int 15)], [.int 15, .ref 175], P, 0, 0)) (ks2 (v := .int 15) (n := 1) (kmc_257 (e := (2, .iload_n kF1, 0)) rfl) rfl) ?_
    refine .step (x' := (14, [some (.ref 170), some (.int 15)], [.ref 170, .int 15, .ref 175], P, 0, 0)) (ks2 (v := .ref 170) (n := 1) (kmc_257 (e := (2, .aload_n kF0, 0)) rfl) rfl) ?_
    refine .step (x' := (17, [some (.ref 170), some (.int 15)], [.ref 174, .int 15, .ref 175], P, 0, 0)) (skg (v := .ref 174) (kmc_257 (e := (5, .getfield 41, 0)) rfl) rfl (hP 170 _ (by decide) kat_170) rfl) ?_
    refine .step (x' := (18, [some (.ref 170), some (.int 15)], [.int 15, .ref 174, .int 15, .ref 175], P, 0, 0)) (ks2 (v := .int 15) (n := 1) (kmc_257 (e := (2, .iload_n kF1, 0)) rfl) rfl) ?_
    refine .step (x' := (19, [some (.ref 170), some (.int 15)], [.int 0, .int 15, .ref 175], P, 0, 0)) (skal (x := 0) (kmc_257 (e := (5, .iaload, 0)) rfl) (hP 174 _ (by decide) kat_174) ((su_i (k := 15) (by decide +kernel) (by decide)).trans rfl)) ?_
    refine .step (x' := (20, [some (.ref 170), some (.int 15)], [], P, 0, 0)) (skas0 (kmc_257 (e := (5, .iastore, 0)) rfl) (hP 175 _ (by decide) kat_175) (k := 15) (by decide +kernel) (by decide) (by decide +kernel)) ?_
    refine .step (x' := (23, [some (.ref 170), some (.int 16)], [], P, 0, 0)) (ks3 (L' := [some (.ref 170), some (.int 16)]) (st' := []) (n := 3) (kmc_257 (e := (3, .iinc 1 1, 0)) rfl) (sa_iinc (i := 1) rfl (by decide +kernel) rfl rfl)) ?_
    refine .step (x' := (2, [some (.ref 170), some (.int 16)], [], P, 0, 0)) (ks4 (pc' := 2) (st' := []) (kmc_257 (e := (4, .goto (-21), 2)) rfl) rfl) ?_
    refine .step (x' := (3, [some (.ref 170), some (.int 16)], [.int 16], P, 0, 0)) (ks2 (v := .int 16) (n := 1) (kmc_257 (e := (2, .iload_n kF1, 0)) rfl) rfl) ?_
    refine .step (x' := (5, [some (.ref 170), some (.int 16)], [.int ((Int8.ofInt 41).toInt32), .int 16], P, 0, 0)) (ks1 (v := .int ((Int8.ofInt 41).toInt32)) (n := 2) (kmc_257 (e := (1, .bipush 41, 0)) rfl) rfl) ?_
    refine .step (x' := (8, [some (.ref 170), some (.int 16)], [], P, 0, 0)) (ks4 (pc' := 8) (st' := []) (kmc_257 (e := (4, .if_icmp .ge 21, 26)) rfl) (kbi_ge (b := false) (by decide +kernel))) ?_
    refine .step (x' := (9, [some (.ref 170), some (.int 16)], [.ref 170], P, 0, 0)) (ks2 (v := .ref 170) (n := 1) (kmc_257 (e := (2, .aload_n kF0, 0)) rfl) rfl) ?_
    refine .step (x' := (12, [some (.ref 170), some (.int 16)], [.ref 175], P, 0, 0)) (skg (v := .ref 175) (kmc_257 (e := (5, .getfield 44, 0)) rfl) rfl (hP 170 _ (by decide) kat_170) rfl) ?_
    refine .step (x' := (13, [some (.ref 170), some (.int 16)], [.int 16, .ref 175], P, 0, 0)) (ks2 (v := .int 16) (n := 1) (kmc_257 (e := (2, .iload_n kF1, 0)) rfl) rfl) ?_
    refine .step (x' := (14, [some (.ref 170), some (.int 16)], [.ref 170, .int 16, .ref 175], P, 0, 0)) (ks2 (v := .ref 170) (n := 1) (kmc_257 (e := (2, .aload_n kF0, 0)) rfl) rfl) ?_
    refine .step (x' := (17, [some (.ref 170), some (.int 16)], [.ref 174, .int 16, .ref 175], P, 0, 0)) (skg (v := .ref 174) (kmc_257 (e := (5, .getfield 41, 0)) rfl) rfl (hP 170 _ (by decide) kat_170) rfl) ?_
    refine .step (x' := (18, [some (.ref 170), some (.int 16)], [.int 16, .ref 174, .int 16, .ref 175], P, 0, 0)) (ks2 (v := .int 16) (n := 1) (kmc_257 (e := (2, .iload_n kF1, 0)) rfl) rfl) ?_
    refine .step (x' := (19, [some (.ref 170), some (.int 16)], [.int 0, .int 16, .ref 175], P, 0, 0)) (skal (x := 0) (kmc_257 (e := (5, .iaload, 0)) rfl) (hP 174 _ (by decide) kat_174) ((su_i (k := 16) (by decide +kernel) (by decide)).trans rfl)) ?_
    refine .step (x' := (20, [some (.ref 170), some (.int 16)], [], P, 0, 0)) (skas0 (kmc_257 (e := (5, .iastore, 0)) rfl) (hP 175 _ (by decide) kat_175) (k := 16) (by decide +kernel) (by decide) (by decide +kernel)) ?_
    refine .step (x' := (23, [some (.ref 170), some (.int 17)], [], P, 0, 0)) (ks3 (L' := [some (.ref 170), some (.int 17)]) (st' := []) (n := 3) (kmc_257 (e := (3, .iinc 1 1, 0)) rfl) (sa_iinc (i := 1) rfl (by decide +kernel) rfl rfl)) ?_
    refine .step (x' := (2, [some (.ref 170), some (.int 17)], [], P, 0, 0)) (ks4 (pc' := 2) (st' := []) (kmc_257 (e := (4, .goto (-21), 2)) rfl) rfl) ?_
    refine .step (x' := (3, [some (.ref 170), some (.int 17)], [.int 17], P, 0, 0)) (ks2 (v := .int 17) (n := 1) (kmc_257 (e := (2, .iload_n kF1, 0)) rfl) rfl) ?_
    refine .step (x' := (5, [some (.ref 170), some (.int 17)], [.int ((Int8.ofInt 41).toInt32), .int 17], P, 0, 0)) (ks1 (v := .int ((Int8.ofInt 41).toInt32)) (n := 2) (kmc_257 (e := (1, .bipush 41, 0)) rfl) rfl) ?_
    refine .step (x' := (8, [some (.ref 170), some (.int 17)], [], P, 0, 0)) (ks4 (pc' := 8) (st' := []) (kmc_257 (e := (4, .if_icmp .ge 21, 26)) rfl) (kbi_ge (b := false) (by decide +kernel))) ?_
    refine .step (x' := (9, [some (.ref 170), some (.int 17)], [.ref 170], P, 0, 0)) (ks2 (v := .ref 170) (n := 1) (kmc_257 (e := (2, .aload_n kF0, 0)) rfl) rfl) ?_
    refine .step (x' := (12, [some (.ref 170), some (.int 17)], [.ref 175], P, 0, 0)) (skg (v := .ref 175) (kmc_257 (e := (5, .getfield 44, 0)) rfl) rfl (hP 170 _ (by decide) kat_170) rfl) ?_
    refine .step (x' := (13, [some (.ref 170), some (.int 17)], [.int 17, .ref 175], P, 0, 0)) (ks2 (v := .int 17) (n := 1) (kmc_257 (e := (2, .iload_n kF1, 0)) rfl) rfl) ?_
    refine .step (x' := (14, [some (.ref 170), some (.int 17)], [.ref 170, .int 17, .ref 175], P, 0, 0)) (ks2 (v := .ref 170) (n := 1) (kmc_257 (e := (2, .aload_n kF0, 0)) rfl) rfl) ?_
    refine .step (x' := (17, [some (.ref 170), some (.int 17)], [.ref 174, .int 17, .ref 175], P, 0, 0)) (skg (v := .ref 174) (kmc_257 (e := (5, .getfield 41, 0)) rfl) rfl (hP 170 _ (by decide) kat_170) rfl) ?_
    refine .step (x' := (18, [some (.ref 170), some (.int 17)], [.int 17, .ref 174, .int 17, .ref 175], P, 0, 0)) (ks2 (v := .int 17) (n := 1) (kmc_257 (e := (2, .iload_n kF1, 0)) rfl) rfl) ?_
    refine .step (x' := (19, [some (.ref 170), some (.int 17)], [.int 0, .int 17, .ref 175], P, 0, 0)) (skal (x := 0) (kmc_257 (e := (5, .iaload, 0)) rfl) (hP 174 _ (by decide) kat_174) ((su_i (k := 17) (by decide +kernel) (by decide)).trans rfl)) ?_
    refine .step (x' := (20, [some (.ref 170), some (.int 17)], [], P, 0, 0)) (skas0 (kmc_257 (e := (5, .iastore, 0)) rfl) (hP 175 _ (by decide) kat_175) (k := 17) (by decide +kernel) (by decide) (by decide +kernel)) ?_
    refine .step (x' := (23, [some (.ref 170), some (.int 18)], [], P, 0, 0)) (ks3 (L' := [some (.ref 170), some (.int 18)]) (st' := []) (n := 3) (kmc_257 (e := (3, .iinc 1 1, 0)) rfl) (sa_iinc (i := 1) rfl (by decide +kernel) rfl rfl)) ?_
    refine .step (x' := (2, [some (.ref 170), some (.int 18)], [], P, 0, 0)) (ks4 (pc' := 2) (st' := []) (kmc_257 (e := (4, .goto (-21), 2)) rfl) rfl) ?_
    refine .step (x' := (3, [some (.ref 170), some (.int 18)], [.int 18], P, 0, 0)) (ks2 (v := .int 18) (n := 1) (kmc_257 (e := (2, .iload_n kF1, 0)) rfl) rfl) ?_
    refine .step (x' := (5, [some (.ref 170), some (.int 18)], [.int ((Int8.ofInt 41).toInt32), .int 18], P, 0, 0)) (ks1 (v := .int ((Int8.ofInt 41).toInt32)) (n := 2) (kmc_257 (e := (1, .bipush 41, 0)) rfl) rfl) ?_
    refine .step (x' := (8, [some (.ref 170), some (.int 18)], [], P, 0, 0)) (ks4 (pc' := 8) (st' := []) (kmc_257 (e := (4, .if_icmp .ge 21, 26)) rfl) (kbi_ge (b := false) (by decide +kernel))) ?_
    refine .step (x' := (9, [some (.ref 170), some (.int 18)], [.ref 170], P, 0, 0)) (ks2 (v := .ref 170) (n := 1) (kmc_257 (e := (2, .aload_n kF0, 0)) rfl) rfl) ?_
    refine .step (x' := (12, [some (.ref 170), some (.int 18)], [.ref 175], P, 0, 0)) (skg (v := .ref 175) (kmc_257 (e := (5, .getfield 44, 0)) rfl) rfl (hP 170 _ (by decide) kat_170) rfl) ?_
    refine .step (x' := (13, [some (.ref 170), some (.int 18)], [.int 18, .ref 175], P, 0, 0)) (ks2 (v := .int 18) (n := 1) (kmc_257 (e := (2, .iload_n kF1, 0)) rfl) rfl) ?_
    refine .step (x' := (14, [some (.ref 170), some (.int 18)], [.ref 170, .int 18, .ref 175], P, 0, 0)) (ks2 (v := .ref 170) (n := 1) (kmc_257 (e := (2, .aload_n kF0, 0)) rfl) rfl) ?_
    refine .step (x' := (17, [some (.ref 170), some (.int 18)], [.ref 174, .int 18, .ref 175], P, 0, 0)) (skg (v := .ref 174) (kmc_257 (e := (5, .getfield 41, 0)) rfl) rfl (hP 170 _ (by decide) kat_170) rfl) ?_
    refine .step (x' := (18, [some (.ref 170), some (.int 18)], [.int 18, .ref 174, .int 18, .ref 175], P, 0, 0)) (ks2 (v := .int 18) (n := 1) (kmc_257 (e := (2, .iload_n kF1, 0)) rfl) rfl) ?_
    refine .step (x' := (19, [some (.ref 170), some (.int 18)], [.int 0, .int 18, .ref 175], P, 0, 0)) (skal (x := 0) (kmc_257 (e := (5, .iaload, 0)) rfl) (hP 174 _ (by decide) kat_174) ((su_i (k := 18) (by decide +kernel) (by decide)).trans rfl)) ?_
    refine .step (x' := (20, [some (.ref 170), some (.int 18)], [], P, 0, 0)) (skas0 (kmc_257 (e := (5, .iastore, 0)) rfl) (hP 175 _ (by decide) kat_175) (k := 18) (by decide +kernel) (by decide) (by decide +kernel)) ?_
    refine .step (x' := (23, [some (.ref 170), some (.int 19)], [], P, 0, 0)) (ks3 (L' := [some (.ref 170), some (.int 19)]) (st' := []) (n := 3) (kmc_257 (e := (3, .iinc 1 1, 0)) rfl) (sa_iinc (i := 1) rfl (by decide +kernel) rfl rfl)) ?_
    refine .step (x' := (2, [some (.ref 170), some (.int 19)], [], P, 0, 0)) (ks4 (pc' := 2) (st' := []) (kmc_257 (e := (4, .goto (-21), 2)) rfl) rfl) ?_
    refine .step (x' := (3, [some (.ref 170), some (.int 19)], [.int 19], P, 0, 0)) (ks2 (v := .int 19) (n := 1) (kmc_257 (e := (2, .iload_n kF1, 0)) rfl) rfl) ?_
    refine .step (x' := (5, [some (.ref 170), some (.int 19)], [.int ((Int8.ofInt 41).toInt32), .int 19], P, 0, 0)) (ks1 (v := .int ((Int8.ofInt 41).toInt32)) (n := 2) (kmc_257 (e := (1, .bipush 41, 0)) rfl) rfl) ?_
    refine .step (x' := (8, [some (.ref 170), some (.int 19)], [], P, 0, 0)) (ks4 (pc' := 8) (st' := []) (kmc_257 (e := (4, .if_icmp .ge 21, 26)) rfl) (kbi_ge (b := false) (by decide +kernel))) ?_
    refine .step (x' := (9, [some (.ref 170), some (.int 19)], [.ref 170], P, 0, 0)) (ks2 (v := .ref 170) (n := 1) (kmc_257 (e := (2, .aload_n kF0, 0)) rfl) rfl) ?_
    refine .step (x' := (12, [some (.ref 170), some (.int 19)], [.ref 175], P, 0, 0)) (skg (v := .ref 175) (kmc_257 (e := (5, .getfield 44, 0)) rfl) rfl (hP 170 _ (by decide) kat_170) rfl) ?_
    refine .step (x' := (13, [some (.ref 170), some (.int 19)], [.int 19, .ref 175], P, 0, 0)) (ks2 (v := .int 19) (n := 1) (kmc_257 (e := (2, .iload_n kF1, 0)) rfl) rfl) ?_
    refine .step (x' := (14, [some (.ref 170), some (.int 19)], [.ref 170, .int 19, .ref 175], P, 0, 0)) (ks2 (v := .ref 170) (n := 1) (kmc_257 (e := (2, .aload_n kF0, 0)) rfl) rfl) ?_
    refine .step (x' := (17, [some (.ref 170), some (.int 19)], [.ref 174, .int 19, .ref 175], P, 0, 0)) (skg (v := .ref 174) (kmc_257 (e := (5, .getfield 41, 0)) rfl) rfl (hP 170 _ (by decide) kat_170) rfl) ?_
    refine .step (x' := (18, [some (.ref 170), some (.int 19)], [.int 19, .ref 174, .int 19, .ref 175], P, 0, 0)) (ks2 (v := .int 19) (n := 1) (kmc_257 (e := (2, .iload_n kF1, 0)) rfl) rfl) ?_
    refine .step (x' := (19, [some (.ref 170), some (.int 19)], [.int 0, .int 19, .ref 175], P, 0, 0)) (skal (x := 0) (kmc_257 (e := (5, .iaload, 0)) rfl) (hP 174 _ (by decide) kat_174) ((su_i (k := 19) (by decide +kernel) (by decide)).trans rfl)) ?_
    refine .step (x' := (20, [some (.ref 170), some (.int 19)], [], P, 0, 0)) (skas0 (kmc_257 (e := (5, .iastore, 0)) rfl) (hP 175 _ (by decide) kat_175) (k := 19) (by decide +kernel) (by decide) (by decide +kernel)) ?_
    refine .step (x' := (23, [some (.ref 170), some (.int 20)], [], P, 0, 0)) (ks3 (L' := [some (.ref 170), some (.int 20)]) (st' := []) (n := 3) (kmc_257 (e := (3, .iinc 1 1, 0)) rfl) (sa_iinc (i := 1) rfl (by decide +kernel) rfl rfl)) ?_
    refine .step (x' := (2, [some (.ref 170), some (.int 20)], [], P, 0, 0)) (ks4 (pc' := 2) (st' := []) (kmc_257 (e := (4, .goto (-21), 2)) rfl) rfl) ?_
    refine .step (x' := (3, [some (.ref 170), some (.int 20)], [.int 20], P, 0, 0)) (ks2 (v := .int 20) (n := 1) (kmc_257 (e := (2, .iload_n kF1, 0)) rfl) rfl) ?_
    refine .step (x' := (5, [some (.ref 170), some (.int 20)], [.int ((Int8.ofInt 41).toInt32), .int 20], P, 0, 0)) (ks1 (v := .int ((Int8.ofInt 41).toInt32)) (n := 2) (kmc_257 (e := (1, .bipush 41, 0)) rfl) rfl) ?_
    refine .step (x' := (8, [some (.ref 170), some (.int 20)], [], P, 0, 0)) (ks4 (pc' := 8) (st' := []) (kmc_257 (e := (4, .if_icmp .ge 21, 26)) rfl) (kbi_ge (b := false) (by decide +kernel))) ?_
    refine .step (x' := (9, [some (.ref 170), some (.int 20)], [.ref 170], P, 0, 0)) (ks2 (v := .ref 170) (n := 1) (kmc_257 (e := (2, .aload_n kF0, 0)) rfl) rfl) ?_
    refine .step (x' := (12, [some (.ref 170), some (.int 20)], [.ref 175], P, 0, 0)) (skg (v := .ref 175) (kmc_257 (e := (5, .getfield 44, 0)) rfl) rfl (hP 170 _ (by decide) kat_170) rfl) ?_
    refine .step (x' := (13, [some (.ref 170), some (.int 20)], [.int 20, .ref 175], P, 0, 0)) (ks2 (v := .int 20) (n := 1) (kmc_257 (e := (2, .iload_n kF1, 0)) rfl) rfl) ?_
    refine .step (x' := (14, [some (.ref 170), some (.int 20)], [.ref 170, .int 20, .ref 175], P, 0, 0)) (ks2 (v := .ref 170) (n := 1) (kmc_257 (e := (2, .aload_n kF0, 0)) rfl) rfl) ?_
    refine .step (x' := (17, [some (.ref 170), some (.int 20)], [.ref 174, .int 20, .ref 175], P, 0, 0)) (skg (v := .ref 174) (kmc_257 (e := (5, .getfield 41, 0)) rfl) rfl (hP 170 _ (by decide) kat_170) rfl) ?_
    refine .step (x' := (18, [some (.ref 170), some (.int 20)], [.int 20, .ref 174, .int 20, .ref 175], P, 0, 0)) (ks2 (v := .int 20) (n := 1) (kmc_257 (e := (2, .iload_n kF1, 0)) rfl) rfl) ?_
    refine .step (x' := (19, [some (.ref 170), some (.int 20)], [.int 0, .int 20, .ref 175], P, 0, 0)) (skal (x := 0) (kmc_257 (e := (5, .iaload, 0)) rfl) (hP 174 _ (by decide) kat_174) ((su_i (k := 20) (by decide +kernel) (by decide)).trans rfl)) ?_
    refine .step (x' := (20, [some (.ref 170), some (.int 20)], [], P, 0, 0)) (skas0 (kmc_257 (e := (5, .iastore, 0)) rfl) (hP 175 _ (by decide) kat_175) (k := 20) (by decide +kernel) (by decide) (by decide +kernel)) ?_
    refine .step (x' := (23, [some (.ref 170), some (.int 21)], [], P, 0, 0)) (ks3 (L' := [some (.ref 170), some (.int 21)]) (st' := []) (n := 3) (kmc_257 (e := (3, .iinc 1 1, 0)) rfl) (sa_iinc (i := 1) rfl (by decide +kernel) rfl rfl)) ?_
    refine .step (x' := (2, [some (.ref 170), some (.int 21)], [], P, 0, 0)) (ks4 (pc' := 2) (st' := []) (kmc_257 (e := (4, .goto (-21), 2)) rfl) rfl) ?_
    refine .step (x' := (3, [some (.ref 170), some (.int 21)], [.int 21], P, 0, 0)) (ks2 (v := .int 21) (n := 1) (kmc_257 (e := (2, .iload_n kF1, 0)) rfl) rfl) ?_
    refine .step (x' := (5, [some (.ref 170), some (.int 21)], [.int ((Int8.ofInt 41).toInt32), .int 21], P, 0, 0)) (ks1 (v := .int ((Int8.ofInt 41).toInt32)) (n := 2) (kmc_257 (e := (1, .bipush 41, 0)) rfl) rfl) ?_
    refine .step (x' := (8, [some (.ref 170), some (.int 21)], [], P, 0, 0)) (ks4 (pc' := 8) (st' := []) (kmc_257 (e := (4, .if_icmp .ge 21, 26)) rfl) (kbi_ge (b := false) (by decide +kernel))) ?_
    refine .step (x' := (9, [some (.ref 170), some (.int 21)], [.ref 170], P, 0, 0)) (ks2 (v := .ref 170) (n := 1) (kmc_257 (e := (2, .aload_n kF0, 0)) rfl) rfl) ?_
    refine .step (x' := (12, [some (.ref 170), some (.int 21)], [.ref 175], P, 0, 0)) (skg (v := .ref 175) (kmc_257 (e := (5, .getfield 44, 0)) rfl) rfl (hP 170 _ (by decide) kat_170) rfl) ?_
    refine .step (x' := (13, [some (.ref 170), some (.int 21)], [.int 21, .ref 175], P, 0, 0)) (ks2 (v := .int 21) (n := 1) (kmc_257 (e := (2, .iload_n kF1, 0)) rfl) rfl) ?_
    refine .step (x' := (14, [some (.ref 170), some (.int 21)], [.ref 170, .int 21, .ref 175], P, 0, 0)) (ks2 (v := .ref 170) (n := 1) (kmc_257 (e := (2, .aload_n kF0, 0)) rfl) rfl) ?_
    refine .step (x' := (17, [some (.ref 170), some (.int 21)], [.ref 174, .int 21, .ref 175], P, 0, 0)) (skg (v := .ref 174) (kmc_257 (e := (5, .getfield 41, 0)) rfl) rfl (hP 170 _ (by decide) kat_170) rfl) ?_
    refine .step (x' := (18, [some (.ref 170), some (.int 21)], [.int 21, .ref 174, .int 21, .ref 175], P, 0, 0)) (ks2 (v := .int 21) (n := 1) (kmc_257 (e := (2, .iload_n kF1, 0)) rfl) rfl) ?_
    refine .step (x' := (19, [some (.ref 170), some (.int 21)], [.int 0, .int 21, .ref 175], P, 0, 0)) (skal (x := 0) (kmc_257 (e := (5, .iaload, 0)) rfl) (hP 174 _ (by decide) kat_174) ((su_i (k := 21) (by decide +kernel) (by decide)).trans rfl)) ?_
    refine .step (x' := (20, [some (.ref 170), some (.int 21)], [], P, 0, 0)) (skas0 (kmc_257 (e := (5, .iastore, 0)) rfl) (hP 175 _ (by decide) kat_175) (k := 21) (by decide +kernel) (by decide) (by decide +kernel)) ?_
    refine .step (x' := (23, [some (.ref 170), some (.int 22)], [], P, 0, 0)) (ks3 (L' := [some (.ref 170), some (.int 22)]) (st' := []) (n := 3) (kmc_257 (e := (3, .iinc 1 1, 0)) rfl) (sa_iinc (i := 1) rfl (by decide +kernel) rfl rfl)) ?_
    refine .step (x' := (2, [some (.ref 170), some (.int 22)], [], P, 0, 0)) (ks4 (pc' := 2) (st' := []) (kmc_257 (e := (4, .goto (-21), 2)) rfl) rfl) ?_
    refine .step (x' := (3, [some (.ref 170), some (.int 22)], [.int 22], P, 0, 0)) (ks2 (v := .int 22) (n := 1) (kmc_257 (e := (2, .iload_n kF1, 0)) rfl) rfl) ?_
    refine .step (x' := (5, [some (.ref 170), some (.int 22)], [.int ((Int8.ofInt 41).toInt32), .int 22], P, 0, 0)) (ks1 (v := .int ((Int8.ofInt 41).toInt32)) (n := 2) (kmc_257 (e := (1, .bipush 41, 0)) rfl) rfl) ?_
    refine .step (x' := (8, [some (.ref 170), some (.int 22)], [], P, 0, 0)) (ks4 (pc' := 8) (st' := []) (kmc_257 (e := (4, .if_icmp .ge 21, 26)) rfl) (kbi_ge (b := false) (by decide +kernel))) ?_
    refine .step (x' := (9, [some (.ref 170), some (.int 22)], [.ref 170], P, 0, 0)) (ks2 (v := .ref 170) (n := 1) (kmc_257 (e := (2, .aload_n kF0, 0)) rfl) rfl) ?_
    refine .step (x' := (12, [some (.ref 170), some (.int 22)], [.ref 175], P, 0, 0)) (skg (v := .ref 175) (kmc_257 (e := (5, .getfield 44, 0)) rfl) rfl (hP 170 _ (by decide) kat_170) rfl) ?_
    refine .step (x' := (13, [some (.ref 170), some (.int 22)], [.int 22, .ref 175], P, 0, 0)) (ks2 (v := .int 22) (n := 1) (kmc_257 (e := (2, .iload_n kF1, 0)) rfl) rfl) ?_
    refine .step (x' := (14, [some (.ref 170), some (.int 22)], [.ref 170, .int 22, .ref 175], P, 0, 0)) (ks2 (v := .ref 170) (n := 1) (kmc_257 (e := (2, .aload_n kF0, 0)) rfl) rfl) ?_
    refine .step (x' := (17, [some (.ref 170), some (.int 22)], [.ref 174, .int 22, .ref 175], P, 0, 0)) (skg (v := .ref 174) (kmc_257 (e := (5, .getfield 41, 0)) rfl) rfl (hP 170 _ (by decide) kat_170) rfl) ?_
    refine .step (x' := (18, [some (.ref 170), some (.int 22)], [.int 22, .ref 174, .int 22, .ref 175], P, 0, 0)) (ks2 (v := .int 22) (n := 1) (kmc_257 (e := (2, .iload_n kF1, 0)) rfl) rfl) ?_
    refine .step (x' := (19, [some (.ref 170), some (.int 22)], [.int 0, .int 22, .ref 175], P, 0, 0)) (skal (x := 0) (kmc_257 (e := (5, .iaload, 0)) rfl) (hP 174 _ (by decide) kat_174) ((su_i (k := 22) (by decide +kernel) (by decide)).trans rfl)) ?_
    refine .step (x' := (20, [some (.ref 170), some (.int 22)], [], P, 0, 0)) (skas0 (kmc_257 (e := (5, .iastore, 0)) rfl) (hP 175 _ (by decide) kat_175) (k := 22) (by decide +kernel) (by decide) (by decide +kernel)) ?_
    refine .step (x' := (23, [some (.ref 170), some (.int 23)], [], P, 0, 0)) (ks3 (L' := [some (.ref 170), some (.int 23)]) (st' := []) (n := 3) (kmc_257 (e := (3, .iinc 1 1, 0)) rfl) (sa_iinc (i := 1) rfl (by decide +kernel) rfl rfl)) ?_
    refine .step (x' := (2, [some (.ref 170), some (.int 23)], [], P, 0, 0)) (ks4 (pc' := 2) (st' := []) (kmc_257 (e := (4, .goto (-21), 2)) rfl) rfl) ?_
    refine .step (x' := (3, [some (.ref 170), some (.int 23)], [.int 23], P, 0, 0)) (ks2 (v := .int 23) (n := 1) (kmc_257 (e := (2, .iload_n kF1, 0)) rfl) rfl) ?_
    refine .step (x' := (5, [some (.ref 170), some (.int 23)], [.int ((Int8.ofInt 41).toInt32), .int 23], P, 0, 0)) (ks1 (v := .int ((Int8.ofInt 41).toInt32)) (n := 2) (kmc_257 (e := (1, .bipush 41, 0)) rfl) rfl) ?_
    refine .step (x' := (8, [some (.ref 170), some (.int 23)], [], P, 0, 0)) (ks4 (pc' := 8) (st' := []) (kmc_257 (e := (4, .if_icmp .ge 21, 26)) rfl) (kbi_ge (b := false) (by decide +kernel))) ?_
    refine .step (x' := (9, [some (.ref 170), some (.int 23)], [.ref 170], P, 0, 0)) (ks2 (v := .ref 170) (n := 1) (kmc_257 (e := (2, .aload_n kF0, 0)) rfl) rfl) ?_
    refine .step (x' := (12, [some (.ref 170), some (.int 23)], [.ref 175], P, 0, 0)) (skg (v := .ref 175) (kmc_257 (e := (5, .getfield 44, 0)) rfl) rfl (hP 170 _ (by decide) kat_170) rfl) ?_
    refine .step (x' := (13, [some (.ref 170), some (.int 23)], [.int 23, .ref 175], P, 0, 0)) (ks2 (v := .int 23) (n := 1) (kmc_257 (e := (2, .iload_n kF1, 0)) rfl) rfl) ?_
    refine .step (x' := (14, [some (.ref 170), some (.int 23)], [.ref 170, .int 23, .ref 175], P, 0, 0)) (ks2 (v := .ref 170) (n := 1) (kmc_257 (e := (2, .aload_n kF0, 0)) rfl) rfl) ?_
    refine .step (x' := (17, [some (.ref 170), some (.int 23)], [.ref 174, .int 23, .ref 175], P, 0, 0)) (skg (v := .ref 174) (kmc_257 (e := (5, .getfield 41, 0)) rfl) rfl (hP 170 _ (by decide) kat_170) rfl) ?_
    refine .step (x' := (18, [some (.ref 170), some (.int 23)], [.int 23, .ref 174, .int 23, .ref 175], P, 0, 0)) (ks2 (v := .int 23) (n := 1) (kmc_257 (e := (2, .iload_n kF1, 0)) rfl) rfl) ?_
    refine .step (x' := (19, [some (.ref 170), some (.int 23)], [.int 0, .int 23, .ref 175], P, 0, 0)) (skal (x := 0) (kmc_257 (e := (5, .iaload, 0)) rfl) (hP 174 _ (by decide) kat_174) ((su_i (k := 23) (by decide +kernel) (by decide)).trans rfl)) ?_
    refine .step (x' := (20, [some (.ref 170), some (.int 23)], [], P, 0, 0)) (skas0 (kmc_257 (e := (5, .iastore, 0)) rfl) (hP 175 _ (by decide) kat_175) (k := 23) (by decide +kernel) (by decide) (by decide +kernel)) ?_
    refine .step (x' := (23, [some (.ref 170), some (.int 24)], [], P, 0, 0)) (ks3 (L' := [some (.ref 170), some (.int 24)]) (st' := []) (n := 3) (kmc_257 (e := (3, .iinc 1 1, 0)) rfl) (sa_iinc (i := 1) rfl (by decide +kernel) rfl rfl)) ?_
    refine .step (x' := (2, [some (.ref 170), some (.int 24)], [], P, 0, 0)) (ks4 (pc' := 2) (st' := []) (kmc_257 (e := (4, .goto (-21), 2)) rfl) rfl) ?_
    refine .step (x' := (3, [some (.ref 170), some (.int 24)], [.int 24], P, 0, 0)) (ks2 (v := .int 24) (n := 1) (kmc_257 (e := (2, .iload_n kF1, 0)) rfl) rfl) ?_
    refine .step (x' := (5, [some (.ref 170), some (.int 24)], [.int ((Int8.ofInt 41).toInt32), .int 24], P, 0, 0)) (ks1 (v := .int ((Int8.ofInt 41).toInt32)) (n := 2) (kmc_257 (e := (1, .bipush 41, 0)) rfl) rfl) ?_
    refine .step (x' := (8, [some (.ref 170), some (.int 24)], [], P, 0, 0)) (ks4 (pc' := 8) (st' := []) (kmc_257 (e := (4, .if_icmp .ge 21, 26)) rfl) (kbi_ge (b := false) (by decide +kernel))) ?_
    refine .step (x' := (9, [some (.ref 170), some (.int 24)], [.ref 170], P, 0, 0)) (ks2 (v := .ref 170) (n := 1) (kmc_257 (e := (2, .aload_n kF0, 0)) rfl) rfl) ?_
    refine .step (x' := (12, [some (.ref 170), some (.int 24)], [.ref 175], P, 0, 0)) (skg (v := .ref 175) (kmc_257 (e := (5, .getfield 44, 0)) rfl) rfl (hP 170 _ (by decide) kat_170) rfl) ?_
    refine .step (x' := (13, [some (.ref 170), some (.int 24)], [.int 24, .ref 175], P, 0, 0)) (ks2 (v := .int 24) (n := 1) (kmc_257 (e := (2, .iload_n kF1, 0)) rfl) rfl) ?_
    refine .step (x' := (14, [some (.ref 170), some (.int 24)], [.ref 170, .int 24, .ref 175], P, 0, 0)) (ks2 (v := .ref 170) (n := 1) (kmc_257 (e := (2, .aload_n kF0, 0)) rfl) rfl) ?_
    refine .step (x' := (17, [some (.ref 170), some (.int 24)], [.ref 174, .int 24, .ref 175], P, 0, 0)) (skg (v := .ref 174) (kmc_257 (e := (5, .getfield 41, 0)) rfl) rfl (hP 170 _ (by decide) kat_170) rfl) ?_
    refine .step (x' := (18, [some (.ref 170), some (.int 24)], [.int 24, .ref 174, .int 24, .ref 175], P, 0, 0)) (ks2 (v := .int 24) (n := 1) (kmc_257 (e := (2, .iload_n kF1, 0)) rfl) rfl) ?_
    refine .step (x' := (19, [some (.ref 170), some (.int 24)], [.int 0, .int 24, .ref 175], P, 0, 0)) (skal (x := 0) (kmc_257 (e := (5, .iaload, 0)) rfl) (hP 174 _ (by decide) kat_174) ((su_i (k := 24) (by decide +kernel) (by decide)).trans rfl)) ?_
    refine .step (x' := (20, [some (.ref 170), some (.int 24)], [], P, 0, 0)) (skas0 (kmc_257 (e := (5, .iastore, 0)) rfl) (hP 175 _ (by decide) kat_175) (k := 24) (by decide +kernel) (by decide) (by decide +kernel)) ?_
    refine .step (x' := (23, [some (.ref 170), some (.int 25)], [], P, 0, 0)) (ks3 (L' := [some (.ref 170), some (.int 25)]) (st' := []) (n := 3) (kmc_257 (e := (3, .iinc 1 1, 0)) rfl) (sa_iinc (i := 1) rfl (by decide +kernel) rfl rfl)) ?_
    refine .step (x' := (2, [some (.ref 170), some (.int 25)], [], P, 0, 0)) (ks4 (pc' := 2) (st' := []) (kmc_257 (e := (4, .goto (-21), 2)) rfl) rfl) ?_
    refine .step (x' := (3, [some (.ref 170), some (.int 25)], [.int 25], P, 0, 0)) (ks2 (v := .int 25) (n := 1) (kmc_257 (e := (2, .iload_n kF1, 0)) rfl) rfl) ?_
    refine .step (x' := (5, [some (.ref 170), some (.int 25)], [.int ((Int8.ofInt 41).toInt32), .int 25], P, 0, 0)) (ks1 (v := .int ((Int8.ofInt 41).toInt32)) (n := 2) (kmc_257 (e := (1, .bipush 41, 0)) rfl) rfl) ?_
    refine .step (x' := (8, [some (.ref 170), some (.int 25)], [], P, 0, 0)) (ks4 (pc' := 8) (st' := []) (kmc_257 (e := (4, .if_icmp .ge 21, 26)) rfl) (kbi_ge (b := false) (by decide +kernel))) ?_
    refine .step (x' := (9, [some (.ref 170), some (.int 25)], [.ref 170], P, 0, 0)) (ks2 (v := .ref 170) (n := 1) (kmc_257 (e := (2, .aload_n kF0, 0)) rfl) rfl) ?_
    refine .step (x' := (12, [some (.ref 170), some (.int 25)], [.ref 175], P, 0, 0)) (skg (v := .ref 175) (kmc_257 (e := (5, .getfield 44, 0)) rfl) rfl (hP 170 _ (by decide) kat_170) rfl) ?_
    refine .step (x' := (13, [some (.ref 170), some (.int 25)], [.int 25, .ref 175], P, 0, 0)) (ks2 (v := .int 25) (n := 1) (kmc_257 (e := (2, .iload_n kF1, 0)) rfl) rfl) ?_
    refine .step (x' := (14, [some (.ref 170), some (.int 25)], [.ref 170, .int 25, .ref 175], P, 0, 0)) (ks2 (v := .ref 170) (n := 1) (kmc_257 (e := (2, .aload_n kF0, 0)) rfl) rfl) ?_
    refine .step (x' := (17, [some (.ref 170), some (.int 25)], [.ref 174, .int 25, .ref 175], P, 0, 0)) (skg (v := .ref 174) (kmc_257 (e := (5, .getfield 41, 0)) rfl) rfl (hP 170 _ (by decide) kat_170) rfl) ?_
    refine .step (x' := (18, [some (.ref 170), some (.int 25)], [.int 25, .ref 174, .int 25, .ref 175], P, 0, 0)) (ks2 (v := .int 25) (n := 1) (kmc_257 (e := (2, .iload_n kF1, 0)) rfl) rfl) ?_
    refine .step (x' := (19, [some (.ref 170), some (.int 25)], [.int 0, .int 25, .ref 175], P, 0, 0)) (skal (x := 0) (kmc_257 (e := (5, .iaload, 0)) rfl) (hP 174 _ (by decide) kat_174) ((su_i (k := 25) (by decide +kernel) (by decide)).trans rfl)) ?_
    refine .step (x' := (20, [some (.ref 170), some (.int 25)], [], P, 0, 0)) (skas0 (kmc_257 (e := (5, .iastore, 0)) rfl) (hP 175 _ (by decide) kat_175) (k := 25) (by decide +kernel) (by decide) (by decide +kernel)) ?_
    refine .step (x' := (23, [some (.ref 170), some (.int 26)], [], P, 0, 0)) (ks3 (L' := [some (.ref 170), some (.int 26)]) (st' := []) (n := 3) (kmc_257 (e := (3, .iinc 1 1, 0)) rfl) (sa_iinc (i := 1) rfl (by decide +kernel) rfl rfl)) ?_
    refine .step (x' := (2, [some (.ref 170), some (.int 26)], [], P, 0, 0)) (ks4 (pc' := 2) (st' := []) (kmc_257 (e := (4, .goto (-21), 2)) rfl) rfl) ?_
    refine .step (x' := (3, [some (.ref 170), some (.int 26)], [.int 26], P, 0, 0)) (ks2 (v := .int 26) (n := 1) (kmc_257 (e := (2, .iload_n kF1, 0)) rfl) rfl) ?_
    refine .step (x' := (5, [some (.ref 170), some (.int 26)], [.int ((Int8.ofInt 41).toInt32), .int 26], P, 0, 0)) (ks1 (v := .int ((Int8.ofInt 41).toInt32)) (n := 2) (kmc_257 (e := (1, .bipush 41, 0)) rfl) rfl) ?_
    refine .step (x' := (8, [some (.ref 170), some (.int 26)], [], P, 0, 0)) (ks4 (pc' := 8) (st' := []) (kmc_257 (e := (4, .if_icmp .ge 21, 26)) rfl) (kbi_ge (b := false) (by decide +kernel))) ?_
    refine .step (x' := (9, [some (.ref 170), some (.int 26)], [.ref 170], P, 0, 0)) (ks2 (v := .ref 170) (n := 1) (kmc_257 (e := (2, .aload_n kF0, 0)) rfl) rfl) ?_
    refine .step (x' := (12, [some (.ref 170), some (.int 26)], [.ref 175], P, 0, 0)) (skg (v := .ref 175) (kmc_257 (e := (5, .getfield 44, 0)) rfl) rfl (hP 170 _ (by decide) kat_170) rfl) ?_
    refine .step (x' := (13, [some (.ref 170), some (.int 26)], [.int 26, .ref 175], P, 0, 0)) (ks2 (v := .int 26) (n := 1) (kmc_257 (e := (2, .iload_n kF1, 0)) rfl) rfl) ?_
    refine .step (x' := (14, [some (.ref 170), some (.int 26)], [.ref 170, .int 26, .ref 175], P, 0, 0)) (ks2 (v := .ref 170) (n := 1) (kmc_257 (e := (2, .aload_n kF0, 0)) rfl) rfl) ?_
    refine .step (x' := (17, [some (.ref 170), some (.int 26)], [.ref 174, .int 26, .ref 175], P, 0, 0)) (skg (v := .ref 174) (kmc_257 (e := (5, .getfield 41, 0)) rfl) rfl (hP 170 _ (by decide) kat_170) rfl) ?_
    refine .step (x' := (18, [some (.ref 170), some (.int 26)], [.int 26, .ref 174, .int 26, .ref 175], P, 0, 0)) (ks2 (v := .int 26) (n := 1) (kmc_257 (e := (2, .iload_n kF1, 0)) rfl) rfl) ?_
    refine .step (x' := (19, [some (.ref 170), some (.int 26)], [.int 0, .int 26, .ref 175], P, 0, 0)) (skal (x := 0) (kmc_257 (e := (5, .iaload, 0)) rfl) (hP 174 _ (by decide) kat_174) ((su_i (k := 26) (by decide +kernel) (by decide)).trans rfl)) ?_
    refine .step (x' := (20, [some (.ref 170), some (.int 26)], [], P, 0, 0)) (skas0 (kmc_257 (e := (5, .iastore, 0)) rfl) (hP 175 _ (by decide) kat_175) (k := 26) (by decide +kernel) (by decide) (by decide +kernel)) ?_
    refine .step (x' := (23, [some (.ref 170), some (.int 27)], [], P, 0, 0)) (ks3 (L' := [some (.ref 170), some (.int 27)]) (st' := []) (n := 3) (kmc_257 (e := (3, .iinc 1 1, 0)) rfl) (sa_iinc (i := 1) rfl (by decide +kernel) rfl rfl)) ?_
    refine .step (x' := (2, [some (.ref 170), some (.int 27)], [], P, 0, 0)) (ks4 (pc' := 2) (st' := []) (kmc_257 (e := (4, .goto (-21), 2)) rfl) rfl) ?_
    refine .step (x' := (3, [some (.ref 170), some (.int 27)], [.int 27], P, 0, 0)) (ks2 (v := .int 27) (n := 1) (kmc_257 (e := (2, .iload_n kF1, 0)) rfl) rfl) ?_
    refine .step (x' := (5, [some (.ref 170), some (.int 27)], [.int ((Int8.ofInt 41).toInt32), .int 27], P, 0, 0)) (ks1 (v := .int ((Int8.ofInt 41).toInt32)) (n := 2) (kmc_257 (e := (1, .bipush 41, 0)) rfl) rfl) ?_
    refine .step (x' := (8, [some (.ref 170), some (.int 27)], [], P, 0, 0)) (ks4 (pc' := 8) (st' := []) (kmc_257 (e := (4, .if_icmp .ge 21, 26)) rfl) (kbi_ge (b := false) (by decide +kernel))) ?_
    refine .step (x' := (9, [some (.ref 170), some (.int 27)], [.ref 170], P, 0, 0)) (ks2 (v := .ref 170) (n := 1) (kmc_257 (e := (2, .aload_n kF0, 0)) rfl) rfl) ?_
    refine .step (x' := (12, [some (.ref 170), some (.int 27)], [.ref 175], P, 0, 0)) (skg (v := .ref 175) (kmc_257 (e := (5, .getfield 44, 0)) rfl) rfl (hP 170 _ (by decide) kat_170) rfl) ?_
    refine .step (x' := (13, [some (.ref 170), some (.int 27)], [.int 27, .ref 175], P, 0, 0)) (ks2 (v := .int 27) (n := 1) (kmc_257 (e := (2, .iload_n kF1, 0)) rfl) rfl) ?_
    refine .step (x' := (14, [some (.ref 170), some (.int 27)], [.ref 170, .int 27, .ref 175], P, 0, 0)) (ks2 (v := .ref 170) (n := 1) (kmc_257 (e := (2, .aload_n kF0, 0)) rfl) rfl) ?_
    refine .step (x' := (17, [some (.ref 170), some (.int 27)], [.ref 174, .int 27, .ref 175], P, 0, 0)) (skg (v := .ref 174) (kmc_257 (e := (5, .getfield 41, 0)) rfl) rfl (hP 170 _ (by decide) kat_170) rfl) ?_
    refine .step (x' := (18, [some (.ref 170), some (.int 27)], [.int 27, .ref 174, .int 27, .ref 175], P, 0, 0)) (ks2 (v := .int 27) (n := 1) (kmc_257 (e := (2, .iload_n kF1, 0)) rfl) rfl) ?_
    refine .step (x' := (19, [some (.ref 170), some (.int 27)], [.int 0, .int 27, .ref 175], P, 0, 0)) (skal (x := 0) (kmc_257 (e := (5, .iaload, 0)) rfl) (hP 174 _ (by decide) kat_174) ((su_i (k := 27) (by decide +kernel) (by decide)).trans rfl)) ?_
    refine .step (x' := (20, [some (.ref 170), some (.int 27)], [], P, 0, 0)) (skas0 (kmc_257 (e := (5, .iastore, 0)) rfl) (hP 175 _ (by decide) kat_175) (k := 27) (by decide +kernel) (by decide) (by decide +kernel)) ?_
    refine .step (x' := (23, [some (.ref 170), some (.int 28)], [], P, 0, 0)) (ks3 (L' := [some (.ref 170), some (.int 28)]) (st' := []) (n := 3) (kmc_257 (e := (3, .iinc 1 1, 0)) rfl) (sa_iinc (i := 1) rfl (by decide +kernel) rfl rfl)) ?_
    refine .step (x' := (2, [some (.ref 170), some (.int 28)], [], P, 0, 0)) (ks4 (pc' := 2) (st' := []) (kmc_257 (e := (4, .goto (-21), 2)) rfl) rfl) ?_
    refine .step (x' := (3, [some (.ref 170), some (.int 28)], [.int 28], P, 0, 0)) (ks2 (v := .int 28) (n := 1) (kmc_257 (e := (2, .iload_n kF1, 0)) rfl) rfl) ?_
    refine .step (x' := (5, [some (.ref 170), some (.int 28)], [.int ((Int8.ofInt 41).toInt32), .int 28], P, 0, 0)) (ks1 (v := .int ((Int8.ofInt 41).toInt32)) (n := 2) (kmc_257 (e := (1, .bipush 41, 0)) rfl) rfl) ?_
    refine .step (x' := (8, [some (.ref 170), some (.int 28)], [], P, 0, 0)) (ks4 (pc' := 8) (st' := []) (kmc_257 (e := (4, .if_icmp .ge 21, 26)) rfl) (kbi_ge (b := false) (by decide +kernel))) ?_
    refine .step (x' := (9, [some (.ref 170), some (.int 28)], [.ref 170], P, 0, 0)) (ks2 (v := .ref 170) (n := 1) (kmc_257 (e := (2, .aload_n kF0, 0)) rfl) rfl) ?_
    refine .step (x' := (12, [some (.ref 170), some (.int 28)], [.ref 175], P, 0, 0)) (skg (v := .ref 175) (kmc_257 (e := (5, .getfield 44, 0)) rfl) rfl (hP 170 _ (by decide) kat_170) rfl) ?_
    refine .step (x' := (13, [some (.ref 170), some (.int 28)], [.int 28, .ref 175], P, 0, 0)) (ks2 (v := .int 28) (n := 1) (kmc_257 (e := (2, .iload_n kF1, 0)) rfl) rfl) ?_
    refine .step (x' := (14, [some (.ref 170), some (.int 28)], [.ref 170, .int 28, .ref 175], P, 0, 0)) (ks2 (v := .ref 170) (n := 1) (kmc_257 (e := (2, .aload_n kF0, 0)) rfl) rfl) ?_
    refine .step (x' := (17, [some (.ref 170), some (.int 28)], [.ref 174, .int 28, .ref 175], P, 0, 0)) (skg (v := .ref 174) (kmc_257 (e := (5, .getfield 41, 0)) rfl) rfl (hP 170 _ (by decide) kat_170) rfl) ?_
    refine .step (x' := (18, [some (.ref 170), some (.int 28)], [.int 28, .ref 174, .int 28, .ref 175], P, 0, 0)) (ks2 (v := .int 28) (n := 1) (kmc_257 (e := (2, .iload_n kF1, 0)) rfl) rfl) ?_
    refine .step (x' := (19, [some (.ref 170), some (.int 28)], [.int 0, .int 28, .ref 175], P, 0, 0)) (skal (x := 0) (kmc_257 (e := (5, .iaload, 0)) rfl) (hP 174 _ (by decide) kat_174) ((su_i (k := 28) (by decide +kernel) (by decide)).trans rfl)) ?_
    refine .step (x' := (20, [some (.ref 170), some (.int 28)], [], P, 0, 0)) (skas0 (kmc_257 (e := (5, .iastore, 0)) rfl) (hP 175 _ (by decide) kat_175) (k := 28) (by decide +kernel) (by decide) (by decide +kernel)) ?_
    refine .step (x' := (23, [some (.ref 170), some (.int 29)], [], P, 0, 0)) (ks3 (L' := [some (.ref 170), some (.int 29)]) (st' := []) (n := 3) (kmc_257 (e := (3, .iinc 1 1, 0)) rfl) (sa_iinc (i := 1) rfl (by decide +kernel) rfl rfl)) ?_
    refine .step (x' := (2, [some (.ref 170), some (.int 29)], [], P, 0, 0)) (ks4 (pc' := 2) (st' := []) (kmc_257 (e := (4, .goto (-21), 2)) rfl) rfl) ?_
    refine .step (x' := (3, [some (.ref 170), some (.int 29)], [.int 29], P, 0, 0)) (ks2 (v := .int 29) (n := 1) (kmc_257 (e := (2, .iload_n kF1, 0)) rfl) rfl) ?_
    refine .step (x' := (5, [some (.ref 170), some (.int 29)], [.int ((Int8.ofInt 41).toInt32), .int 29], P, 0, 0)) (ks1 (v := .int ((Int8.ofInt 41).toInt32)) (n := 2) (kmc_257 (e := (1, .bipush 41, 0)) rfl) rfl) ?_
    refine .step (x' := (8, [some (.ref 170), some (.int 29)], [], P, 0, 0)) (ks4 (pc' := 8) (st' := []) (kmc_257 (e := (4, .if_icmp .ge 21, 26)) rfl) (kbi_ge (b := false) (by decide +kernel))) ?_
    refine .step (x' := (9, [some (.ref 170), some (.int 29)], [.ref 170], P, 0, 0)) (ks2 (v := .ref 170) (n := 1) (kmc_257 (e := (2, .aload_n kF0, 0)) rfl) rfl) ?_
    refine .step (x' := (12, [some (.ref 170), some (.int 29)], [.ref 175], P, 0, 0)) (skg (v := .ref 175) (kmc_257 (e := (5, .getfield 44, 0)) rfl) rfl (hP 170 _ (by decide) kat_170) rfl) ?_
    refine .step (x' := (13, [some (.ref 170), some (.int 29)], [.int 29, .ref 175], P, 0, 0)) (ks2 (v := .int 29) (n := 1) (kmc_257 (e := (2, .iload_n kF1, 0)) rfl) rfl) ?_
    refine .step (x' := (14, [some (.ref 170), some (.int 29)], [.ref 170, .int 29, .ref 175], P, 0, 0)) (ks2 (v := .ref 170) (n := 1) (kmc_257 (e := (2, .aload_n kF0, 0)) rfl) rfl) ?_
    refine .step (x' := (17, [some (.ref 170), some (.int 29)], [.ref 174, .int 29, .ref 175], P, 0, 0)) (skg (v := .ref 174) (kmc_257 (e := (5, .getfield 41, 0)) rfl) rfl (hP 170 _ (by decide) kat_170) rfl) ?_
    refine .step (x' := (18, [some (.ref 170), some (.int 29)], [.int 29, .ref 174, .int 29, .ref 175], P, 0, 0)) (ks2 (v := .int 29) (n := 1) (kmc_257 (e := (2, .iload_n kF1, 0)) rfl) rfl) ?_
    refine .step (x' := (19, [some (.ref 170), some (.int 29)], [.int 0, .int 29, .ref 175], P, 0, 0)) (skal (x := 0) (kmc_257 (e := (5, .iaload, 0)) rfl) (hP 174 _ (by decide) kat_174) ((su_i (k := 29) (by decide +kernel) (by decide)).trans rfl)) ?_
    refine .step (x' := (20, [some (.ref 170), some (.int 29)], [], P, 0, 0)) (skas0 (kmc_257 (e := (5, .iastore, 0)) rfl) (hP 175 _ (by decide) kat_175) (k := 29) (by decide +kernel) (by decide) (by decide +kernel)) ?_
    refine .step (x' := (23, [some (.ref 170), some (.int 30)], [], P, 0, 0)) (ks3 (L' := [some (.ref 170), some (.int 30)]) (st' := []) (n := 3) (kmc_257 (e := (3, .iinc 1 1, 0)) rfl) (sa_iinc (i := 1) rfl (by decide +kernel) rfl rfl)) ?_
    refine .step (x' := (2, [some (.ref 170), some (.int 30)], [], P, 0, 0)) (ks4 (pc' := 2) (st' := []) (kmc_257 (e := (4, .goto (-21), 2)) rfl) rfl) ?_
    refine .step (x' := (3, [some (.ref 170), some (.int 30)], [.int 30], P, 0, 0)) (ks2 (v := .int 30) (n := 1) (kmc_257 (e := (2, .iload_n kF1, 0)) rfl) rfl) ?_
    refine .step (x' := (5, [some (.ref 170), some (.int 30)], [.int ((Int8.ofInt 41).toInt32), .int 30], P, 0, 0)) (ks1 (v := .int ((Int8.ofInt 41).toInt32)) (n := 2) (kmc_257 (e := (1, .bipush 41, 0)) rfl) rfl) ?_
    refine .step (x' := (8, [some (.ref 170), some (.int 30)], [], P, 0, 0)) (ks4 (pc' := 8) (st' := []) (kmc_257 (e := (4, .if_icmp .ge 21, 26)) rfl) (kbi_ge (b := false) (by decide +kernel))) ?_
    refine .step (x' := (9, [some (.ref 170), some (.int 30)], [.ref 170], P, 0, 0)) (ks2 (v := .ref 170) (n := 1) (kmc_257 (e := (2, .aload_n kF0, 0)) rfl) rfl) ?_
    refine .step (x' := (12, [some (.ref 170), some (.int 30)], [.ref 175], P, 0, 0)) (skg (v := .ref 175) (kmc_257 (e := (5, .getfield 44, 0)) rfl) rfl (hP 170 _ (by decide) kat_170) rfl) ?_
    refine .step (x' := (13, [some (.ref 170), some (.int 30)], [.int 30, .ref 175], P, 0, 0)) (ks2 (v := .int 30) (n := 1) (kmc_257 (e := (2, .iload_n kF1, 0)) rfl) rfl) ?_
    refine .step (x' := (14, [some (.ref 170), some (.int 30)], [.ref 170, .int 30, .ref 175], P, 0, 0)) (ks2 (v := .ref 170) (n := 1) (kmc_257 (e := (2, .aload_n kF0, 0)) rfl) rfl) ?_
    refine .step (x' := (17, [some (.ref 170), some (.int 30)], [.ref 174, .int 30, .ref 175], P, 0, 0)) (skg (v := .ref 174) (kmc_257 (e := (5, .getfield 41, 0)) rfl) rfl (hP 170 _ (by decide) kat_170) rfl) ?_
    refine .step (x' := (18, [some (.ref 170), some (.int 30)], [.int 30, .ref 174, .int 30, .ref 175], P, 0, 0)) (ks2 (v := .int 30) (n := 1) (kmc_257 (e := (2, .iload_n kF1, 0)) rfl) rfl) ?_
    refine .step (x' := (19, [some (.ref 170), some (.int 30)], [.int 0, .int 30, .ref 175], P, 0, 0)) (skal (x := 0) (kmc_257 (e := (5, .iaload, 0)) rfl) (hP 174 _ (by decide) kat_174) ((su_i (k := 30) (by decide +kernel) (by decide)).trans rfl)) ?_
    refine .step (x' := (20, [some (.ref 170), some (.int 30)], [], P, 0, 0)) (skas0 (kmc_257 (e := (5, .iastore, 0)) rfl) (hP 175 _ (by decide) kat_175) (k := 30) (by decide +kernel) (by decide) (by decide +kernel)) ?_
    refine .step (x' := (23, [some (.ref 170), some (.int 31)], [], P, 0, 0)) (ks3 (L' := [some (.ref 170), some (.int 31)]) (st' := []) (n := 3) (kmc_257 (e := (3, .iinc 1 1, 0)) rfl) (sa_iinc (i := 1) rfl (by decide +kernel) rfl rfl)) ?_
    refine .step (x' := (2, [some (.ref 170), some (.int 31)], [], P, 0, 0)) (ks4 (pc' := 2) (st' := []) (kmc_257 (e := (4, .goto (-21), 2)) rfl) rfl) ?_
    refine .step (x' := (3, [some (.ref 170), some (.int 31)], [.int 31], P, 0, 0)) (ks2 (v := .int 31) (n := 1) (kmc_257 (e := (2, .iload_n kF1, 0)) rfl) rfl) ?_
    refine .step (x' := (5, [some (.ref 170), some (.int 31)], [.int ((Int8.ofInt 41).toInt32), .int 31], P, 0, 0)) (ks1 (v := .int ((Int8.ofInt 41).toInt32)) (n := 2) (kmc_257 (e := (1, .bipush 41, 0)) rfl) rfl) ?_
    refine .step (x' := (8, [some (.ref 170), some (.int 31)], [], P, 0, 0)) (ks4 (pc' := 8) (st' := []) (kmc_257 (e := (4, .if_icmp .ge 21, 26)) rfl) (kbi_ge (b := false) (by decide +kernel))) ?_
    refine .step (x' := (9, [some (.ref 170), some (.int 31)], [.ref 170], P, 0, 0)) (ks2 (v := .ref 170) (n := 1) (kmc_257 (e := (2, .aload_n kF0, 0)) rfl) rfl) ?_
    refine .step (x' := (12, [some (.ref 170), some (.int 31)], [.ref 175], P, 0, 0)) (skg (v := .ref 175) (kmc_257 (e := (5, .getfield 44, 0)) rfl) rfl (hP 170 _ (by decide) kat_170) rfl) ?_
    refine .step (x' := (13, [some (.ref 170), some (.int 31)], [.int 31, .ref 175], P, 0, 0)) (ks2 (v := .int 31) (n := 1) (kmc_257 (e := (2, .iload_n kF1, 0)) rfl) rfl) ?_
    refine .step (x' := (14, [some (.ref 170), some (.int 31)], [.ref 170, .int 31, .ref 175], P, 0, 0)) (ks2 (v := .ref 170) (n := 1) (kmc_257 (e := (2, .aload_n kF0, 0)) rfl) rfl) ?_
    refine .step (x' := (17, [some (.ref 170), some (.int 31)], [.ref 174, .int 31, .ref 175], P, 0, 0)) (skg (v := .ref 174) (kmc_257 (e := (5, .getfield 41, 0)) rfl) rfl (hP 170 _ (by decide) kat_170) rfl) ?_
    refine .step (x' := (18, [some (.ref 170), some (.int 31)], [.int 31, .ref 174, .int 31, .ref 175], P, 0, 0)) (ks2 (v := .int 31) (n := 1) (kmc_257 (e := (2, .iload_n kF1, 0)) rfl) rfl) ?_
    refine .step (x' := (19, [some (.ref 170), some (.int 31)], [.int 0, .int 31, .ref 175], P, 0, 0)) (skal (x := 0) (kmc_257 (e := (5, .iaload, 0)) rfl) (hP 174 _ (by decide) kat_174) ((su_i (k := 31) (by decide +kernel) (by decide)).trans rfl)) ?_
    refine .step (x' := (20, [some (.ref 170), some (.int 31)], [], P, 0, 0)) (skas0 (kmc_257 (e := (5, .iastore, 0)) rfl) (hP 175 _ (by decide) kat_175) (k := 31) (by decide +kernel) (by decide) (by decide +kernel)) ?_
    refine .step (x' := (23, [some (.ref 170), some (.int 32)], [], P, 0, 0)) (ks3 (L' := [some (.ref 170), some (.int 32)]) (st' := []) (n := 3) (kmc_257 (e := (3, .iinc 1 1, 0)) rfl) (sa_iinc (i := 1) rfl (by decide +kernel) rfl rfl)) ?_
    refine .step (x' := (2, [some (.ref 170), some (.int 32)], [], P, 0, 0)) (ks4 (pc' := 2) (st' := []) (kmc_257 (e := (4, .goto (-21), 2)) rfl) rfl) ?_
    refine .step (x' := (3, [some (.ref 170), some (.int 32)], [.int 32], P, 0, 0)) (ks2 (v := .int 32) (n := 1) (kmc_257 (e := (2, .iload_n kF1, 0)) rfl) rfl) ?_
    refine .step (x' := (5, [some (.ref 170), some (.int 32)], [.int ((Int8.ofInt 41).toInt32), .int 32], P, 0, 0)) (ks1 (v := .int ((Int8.ofInt 41).toInt32)) (n := 2) (kmc_257 (e := (1, .bipush 41, 0)) rfl) rfl) ?_
    refine .step (x' := (8, [some (.ref 170), some (.int 32)], [], P, 0, 0)) (ks4 (pc' := 8) (st' := []) (kmc_257 (e := (4, .if_icmp .ge 21, 26)) rfl) (kbi_ge (b := false) (by decide +kernel))) ?_
    refine .step (x' := (9, [some (.ref 170), some (.int 32)], [.ref 170], P, 0, 0)) (ks2 (v := .ref 170) (n := 1) (kmc_257 (e := (2, .aload_n kF0, 0)) rfl) rfl) ?_
    refine .step (x' := (12, [some (.ref 170), some (.int 32)], [.ref 175], P, 0, 0)) (skg (v := .ref 175) (kmc_257 (e := (5, .getfield 44, 0)) rfl) rfl (hP 170 _ (by decide) kat_170) rfl) ?_
    refine .step (x' := (13, [some (.ref 170), some (.int 32)], [.int 32, .ref 175], P, 0, 0)) (ks2 (v := .int 32) (n := 1) (kmc_257 (e := (2, .iload_n kF1, 0)) rfl) rfl) ?_
    refine .step (x' := (14, [some (.ref 170), some (.int 32)], [.ref 170, .int 32, .ref 175], P, 0, 0)) (ks2 (v := .ref 170) (n := 1) (kmc_257 (e := (2, .aload_n kF0, 0)) rfl) rfl) ?_
    refine .step (x' := (17, [some (.ref 170), some (.int 32)], [.ref 174, .int 32, .ref 175], P, 0, 0)) (skg (v := .ref 174) (kmc_257 (e := (5, .getfield 41, 0)) rfl) rfl (hP 170 _ (by decide) kat_170) rfl) ?_
    refine .step (x' := (18, [some (.ref 170), some (.int 32)], [.int 32, .ref 174, .int 32, .ref 175], P, 0, 0)) (ks2 (v := .int 32) (n := 1) (kmc_257 (e := (2, .iload_n kF1, 0)) rfl) rfl) ?_
    refine .step (x' := (19, [some (.ref 170), some (.int 32)], [.int 0, .int 32, .ref 175], P, 0, 0)) (skal (x := 0) (kmc_257 (e := (5, .iaload, 0)) rfl) (hP 174 _ (by decide) kat_174) ((su_i (k := 32) (by decide +kernel) (by decide)).trans rfl)) ?_
    refine .step (x' := (20, [some (.ref 170), some (.int 32)], [], P, 0, 0)) (skas0 (kmc_257 (e := (5, .iastore, 0)) rfl) (hP 175 _ (by decide) kat_175) (k := 32) (by decide +kernel) (by decide) (by decide +kernel)) ?_
    refine .step (x' := (23, [some (.ref 170), some (.int 33)], [], P, 0, 0)) (ks3 (L' := [some (.ref 170), some (.int 33)]) (st' := []) (n := 3) (kmc_257 (e := (3, .iinc 1 1, 0)) rfl) (sa_iinc (i := 1) rfl (by decide +kernel) rfl rfl)) ?_
    refine .step (x' := (2, [some (.ref 170), some (.int 33)], [], P, 0, 0)) (ks4 (pc' := 2) (st' := []) (kmc_257 (e := (4, .goto (-21), 2)) rfl) rfl) ?_
    refine .step (x' := (3, [some (.ref 170), some (.int 33)], [.int 33], P, 0, 0)) (ks2 (v := .int 33) (n := 1) (kmc_257 (e := (2, .iload_n kF1, 0)) rfl) rfl) ?_
    refine .step (x' := (5, [some (.ref 170), some (.int 33)], [.int ((Int8.ofInt 41).toInt32), .int 33], P, 0, 0)) (ks1 (v := .int ((Int8.ofInt 41).toInt32)) (n := 2) (kmc_257 (e := (1, .bipush 41, 0)) rfl) rfl) ?_
    refine .step (x' := (8, [some (.ref 170), some (.int 33)], [], P, 0, 0)) (ks4 (pc' := 8) (st' := []) (kmc_257 (e := (4, .if_icmp .ge 21, 26)) rfl) (kbi_ge (b := false) (by decide +kernel))) ?_
    refine .step (x' := (9, [some (.ref 170), some (.int 33)], [.ref 170], P, 0, 0)) (ks2 (v := .ref 170) (n := 1) (kmc_257 (e := (2, .aload_n kF0, 0)) rfl) rfl) ?_
    refine .step (x' := (12, [some (.ref 170), some (.int 33)], [.ref 175], P, 0, 0)) (skg (v := .ref 175) (kmc_257 (e := (5, .getfield 44, 0)) rfl) rfl (hP 170 _ (by decide) kat_170) rfl) ?_
    refine .step (x' := (13, [some (.ref 170), some (.int 33)], [.int 33, .ref 175], P, 0, 0)) (ks2 (v := .int 33) (n := 1) (kmc_257 (e := (2, .iload_n kF1, 0)) rfl) rfl) ?_
    refine .step (x' := (14, [some (.ref 170), some (.int 33)], [.ref 170, .int 33, .ref 175], P, 0, 0)) (ks2 (v := .ref 170) (n := 1) (kmc_257 (e := (2, .aload_n kF0, 0)) rfl) rfl) ?_
    refine .step (x' := (17, [some (.ref 170), some (.int 33)], [.ref 174, .int 33, .ref 175], P, 0, 0)) (skg (v := .ref 174) (kmc_257 (e := (5, .getfield 41, 0)) rfl) rfl (hP 170 _ (by decide) kat_170) rfl) ?_
    refine .step (x' := (18, [some (.ref 170), some (.int 33)], [.int 33, .ref 174, .int 33, .ref 175], P, 0, 0)) (ks2 (v := .int 33) (n := 1) (kmc_257 (e := (2, .iload_n kF1, 0)) rfl) rfl) ?_
    refine .step (x' := (19, [some (.ref 170), some (.int 33)], [.int 0, .int 33, .ref 175], P, 0, 0)) (skal (x := 0) (kmc_257 (e := (5, .iaload, 0)) rfl) (hP 174 _ (by decide) kat_174) ((su_i (k := 33) (by decide +kernel) (by decide)).trans rfl)) ?_
    refine .step (x' := (20, [some (.ref 170), some (.int 33)], [], P, 0, 0)) (skas0 (kmc_257 (e := (5, .iastore, 0)) rfl) (hP 175 _ (by decide) kat_175) (k := 33) (by decide +kernel) (by decide) (by decide +kernel)) ?_
    refine .step (x' := (23, [some (.ref 170), some (.int 34)], [], P, 0, 0)) (ks3 (L' := [some (.ref 170), some (.int 34)]) (st' := []) (n := 3) (kmc_257 (e := (3, .iinc 1 1, 0)) rfl) (sa_iinc (i := 1) rfl (by decide +kernel) rfl rfl)) ?_
    refine .step (x' := (2, [some (.ref 170), some (.int 34)], [], P, 0, 0)) (ks4 (pc' := 2) (st' := []) (kmc_257 (e := (4, .goto (-21), 2)) rfl) rfl) ?_
    refine .step (x' := (3, [some (.ref 170), some (.int 34)], [.int 34], P, 0, 0)) (ks2 (v := .int 34) (n := 1) (kmc_257 (e := (2, .iload_n kF1, 0)) rfl) rfl) ?_
    refine .step (x' := (5, [some (.ref 170), some (.int 34)], [.int ((Int8.ofInt 41).toInt32), .int 34], P, 0, 0)) (ks1 (v := .int ((Int8.ofInt 41).toInt32)) (n := 2) (kmc_257 (e := (1, .bipush 41, 0)) rfl) rfl) ?_
    refine .step (x' := (8, [some (.ref 170), some (.int 34)], [], P, 0, 0)) (ks4 (pc' := 8) (st' := []) (kmc_257 (e := (4, .if_icmp .ge 21, 26)) rfl) (kbi_ge (b := false) (by decide +kernel))) ?_
    refine .step (x' := (9, [some (.ref 170), some (.int 34)], [.ref 170], P, 0, 0)) (ks2 (v := .ref 170) (n := 1) (kmc_257 (e := (2, .aload_n kF0, 0)) rfl) rfl) ?_
    refine .step (x' := (12, [some (.ref 170), some (.int 34)], [.ref 175], P, 0, 0)) (skg (v := .ref 175) (kmc_257 (e := (5, .getfield 44, 0)) rfl) rfl (hP 170 _ (by decide) kat_170) rfl) ?_
    refine .step (x' := (13, [some (.ref 170), some (.int 34)], [.int 34, .ref 175], P, 0, 0)) (ks2 (v := .int 34) (n := 1) (kmc_257 (e := (2, .iload_n kF1, 0)) rfl) rfl) ?_
    refine .step (x' := (14, [some (.ref 170), some (.int 34)], [.ref 170, .int 34, .ref 175], P, 0, 0)) (ks2 (v := .ref 170) (n := 1) (kmc_257 (e := (2, .aload_n kF0, 0)) rfl) rfl) ?_
    refine .step (x' := (17, [some (.ref 170), some (.int 34)], [.ref 174, .int 34, .ref 175], P, 0, 0)) (skg (v := .ref 174) (kmc_257 (e := (5, .getfield 41, 0)) rfl) rfl (hP 170 _ (by decide) kat_170) rfl) ?_
    refine .step (x' := (18, [some (.ref 170), some (.int 34)], [.int 34, .ref 174, .int 34, .ref 175], P, 0, 0)) (ks2 (v := .int 34) (n := 1) (kmc_257 (e := (2, .iload_n kF1, 0)) rfl) rfl) ?_
    refine .step (x' := (19, [some (.ref 170), some (.int 34)], [.int 0, .int 34, .ref 175], P, 0, 0)) (skal (x := 0) (kmc_257 (e := (5, .iaload, 0)) rfl) (hP 174 _ (by decide) kat_174) ((su_i (k := 34) (by decide +kernel) (by decide)).trans rfl)) ?_
    refine .step (x' := (20, [some (.ref 170), some (.int 34)], [], P, 0, 0)) (skas0 (kmc_257 (e := (5, .iastore, 0)) rfl) (hP 175 _ (by decide) kat_175) (k := 34) (by decide +kernel) (by decide) (by decide +kernel)) ?_
    refine .step (x' := (23, [some (.ref 170), some (.int 35)], [], P, 0, 0)) (ks3 (L' := [some (.ref 170), some (.int 35)]) (st' := []) (n := 3) (kmc_257 (e := (3, .iinc 1 1, 0)) rfl) (sa_iinc (i := 1) rfl (by decide +kernel) rfl rfl)) ?_
    refine .step (x' := (2, [some (.ref 170), some (.int 35)], [], P, 0, 0)) (ks4 (pc' := 2) (st' := []) (kmc_257 (e := (4, .goto (-21), 2)) rfl) rfl) ?_
    refine .step (x' := (3, [some (.ref 170), some (.int 35)], [.int 35], P, 0, 0)) (ks2 (v := .int 35) (n := 1) (kmc_257 (e := (2, .iload_n kF1, 0)) rfl) rfl) ?_
    refine .step (x' := (5, [some (.ref 170), some (.int 35)], [.int ((Int8.ofInt 41).toInt32), .int 35], P, 0, 0)) (ks1 (v := .int ((Int8.ofInt 41).toInt32)) (n := 2) (kmc_257 (e := (1, .bipush 41, 0)) rfl) rfl) ?_
    refine .step (x' := (8, [some (.ref 170), some (.int 35)], [], P, 0, 0)) (ks4 (pc' := 8) (st' := []) (kmc_257 (e := (4, .if_icmp .ge 21, 26)) rfl) (kbi_ge (b := false) (by decide +kernel))) ?_
    refine .step (x' := (9, [some (.ref 170), some (.int 35)], [.ref 170], P, 0, 0)) (ks2 (v := .ref 170) (n := 1) (kmc_257 (e := (2, .aload_n kF0, 0)) rfl) rfl) ?_
    refine .step (x' := (12, [some (.ref 170), some (.int 35)], [.ref 175], P, 0, 0)) (skg (v := .ref 175) (kmc_257 (e := (5, .getfield 44, 0)) rfl) rfl (hP 170 _ (by decide) kat_170) rfl) ?_
    refine .step (x' := (13, [some (.ref 170), some (.int 35)], [.int 35, .ref 175], P, 0, 0)) (ks2 (v := .int 35) (n := 1) (kmc_257 (e := (2, .iload_n kF1, 0)) rfl) rfl) ?_
    refine .step (x' := (14, [some (.ref 170), some (.int 35)], [.ref 170, .int 35, .ref 175], P, 0, 0)) (ks2 (v := .ref 170) (n := 1) (kmc_257 (e := (2, .aload_n kF0, 0)) rfl) rfl) ?_
    refine .step (x' := (17, [some (.ref 170), some (.int 35)], [.ref 174, .int 35, .ref 175], P, 0, 0)) (skg (v := .ref 174) (kmc_257 (e := (5, .getfield 41, 0)) rfl) rfl (hP 170 _ (by decide) kat_170) rfl) ?_
    refine .step (x' := (18, [some (.ref 170), some (.int 35)], [.int 35, .ref 174, .int 35, .ref 175], P, 0, 0)) (ks2 (v := .int 35) (n := 1) (kmc_257 (e := (2, .iload_n kF1, 0)) rfl) rfl) ?_
    refine .step (x' := (19, [some (.ref 170), some (.int 35)], [.int 0, .int 35, .ref 175], P, 0, 0)) (skal (x := 0) (kmc_257 (e := (5, .iaload, 0)) rfl) (hP 174 _ (by decide) kat_174) ((su_i (k := 35) (by decide +kernel) (by decide)).trans rfl)) ?_
    refine .step (x' := (20, [some (.ref 170), some (.int 35)], [], P, 0, 0)) (skas0 (kmc_257 (e := (5, .iastore, 0)) rfl) (hP 175 _ (by decide) kat_175) (k := 35) (by decide +kernel) (by decide) (by decide +kernel)) ?_
    refine .step (x' := (23, [some (.ref 170), some (.int 36)], [], P, 0, 0)) (ks3 (L' := [some (.ref 170), some (.int 36)]) (st' := []) (n := 3) (kmc_257 (e := (3, .iinc 1 1, 0)) rfl) (sa_iinc (i := 1) rfl (by decide +kernel) rfl rfl)) ?_
    refine .step (x' := (2, [some (.ref 170), some (.int 36)], [], P, 0, 0)) (ks4 (pc' := 2) (st' := []) (kmc_257 (e := (4, .goto (-21), 2)) rfl) rfl) ?_
    refine .step (x' := (3, [some (.ref 170), some (.int 36)], [.int 36], P, 0, 0)) (ks2 (v := .int 36) (n := 1) (kmc_257 (e := (2, .iload_n kF1, 0)) rfl) rfl) ?_
    refine .step (x' := (5, [some (.ref 170), some (.int 36)], [.int ((Int8.ofInt 41).toInt32), .int 36], P, 0, 0)) (ks1 (v := .int ((Int8.ofInt 41).toInt32)) (n := 2) (kmc_257 (e := (1, .bipush 41, 0)) rfl) rfl) ?_
    refine .step (x' := (8, [some (.ref 170), some (.int 36)], [], P, 0, 0)) (ks4 (pc' := 8) (st' := []) (kmc_257 (e := (4, .if_icmp .ge 21, 26)) rfl) (kbi_ge (b := false) (by decide +kernel))) ?_
    refine .step (x' := (9, [some (.ref 170), some (.int 36)], [.ref 170], P, 0, 0)) (ks2 (v := .ref 170) (n := 1) (kmc_257 (e := (2, .aload_n kF0, 0)) rfl) rfl) ?_
    refine .step (x' := (12, [some (.ref 170), some (.int 36)], [.ref 175], P, 0, 0)) (skg (v := .ref 175) (kmc_257 (e := (5, .getfield 44, 0)) rfl) rfl (hP 170 _ (by decide) kat_170) rfl) ?_
    refine .step (x' := (13, [some (.ref 170), some (.int 36)], [.int 36, .ref 175], P, 0, 0)) (ks2 (v := .int 36) (n := 1) (kmc_257 (e := (2, .iload_n kF1, 0)) rfl) rfl) ?_
    refine .step (x' := (14, [some (.ref 170), some (.int 36)], [.ref 170, .int 36, .ref 175], P, 0, 0)) (ks2 (v := .ref 170) (n := 1) (kmc_257 (e := (2, .aload_n kF0, 0)) rfl) rfl) ?_
    refine .step (x' := (17, [some (.ref 170), some (.int 36)], [.ref 174, .int 36, .ref 175], P, 0, 0)) (skg (v := .ref 174) (kmc_257 (e := (5, .getfield 41, 0)) rfl) rfl (hP 170 _ (by decide) kat_170) rfl) ?_
    refine .step (x' := (18, [some (.ref 170), some (.int 36)], [.int 36, .ref 174, .int 36, .ref 175], P, 0, 0)) (ks2 (v := .int 36) (n := 1) (kmc_257 (e := (2, .iload_n kF1, 0)) rfl) rfl) ?_
    refine .step (x' := (19, [some (.ref 170), some (.int 36)], [.int 0, .int 36, .ref 175], P, 0, 0)) (skal (x := 0) (kmc_257 (e := (5, .iaload, 0)) rfl) (hP 174 _ (by decide) kat_174) ((su_i (k := 36) (by decide +kernel) (by decide)).trans rfl)) ?_
    refine .step (x' := (20, [some (.ref 170), some (.int 36)], [], P, 0, 0)) (skas0 (kmc_257 (e := (5, .iastore, 0)) rfl) (hP 175 _ (by decide) kat_175) (k := 36) (by decide +kernel) (by decide) (by decide +kernel)) ?_
    refine .step (x' := (23, [some (.ref 170), some (.int 37)], [], P, 0, 0)) (ks3 (L' := [some (.ref 170), some (.int 37)]) (st' := []) (n := 3) (kmc_257 (e := (3, .iinc 1 1, 0)) rfl) (sa_iinc (i := 1) rfl (by decide +kernel) rfl rfl)) ?_
    refine .step (x' := (2, [some (.ref 170), some (.int 37)], [], P, 0, 0)) (ks4 (pc' := 2) (st' := []) (kmc_257 (e := (4, .goto (-21), 2)) rfl) rfl) ?_
    refine .step (x' := (3, [some (.ref 170), some (.int 37)], [.int 37], P, 0, 0)) (ks2 (v := .int 37) (n := 1) (kmc_257 (e := (2, .iload_n kF1, 0)) rfl) rfl) ?_
    refine .step (x' := (5, [some (.ref 170), some (.int 37)], [.int ((Int8.ofInt 41).toInt32), .int 37], P, 0, 0)) (ks1 (v := .int ((Int8.ofInt 41).toInt32)) (n := 2) (kmc_257 (e := (1, .bipush 41, 0)) rfl) rfl) ?_
    refine .step (x' := (8, [some (.ref 170), some (.int 37)], [], P, 0, 0)) (ks4 (pc' := 8) (st' := []) (kmc_257 (e := (4, .if_icmp .ge 21, 26)) rfl) (kbi_ge (b := false) (by decide +kernel))) ?_
    refine .step (x' := (9, [some (.ref 170), some (.int 37)], [.ref 170], P, 0, 0)) (ks2 (v := .ref 170) (n := 1) (kmc_257 (e := (2, .aload_n kF0, 0)) rfl) rfl) ?_
    refine .step (x' := (12, [some (.ref 170), some (.int 37)], [.ref 175], P, 0, 0)) (skg (v := .ref 175) (kmc_257 (e := (5, .getfield 44, 0)) rfl) rfl (hP 170 _ (by decide) kat_170) rfl) ?_
    refine .step (x' := (13, [some (.ref 170), some (.int 37)], [.int 37, .ref 175], P, 0, 0)) (ks2 (v := .int 37) (n := 1) (kmc_257 (e := (2, .iload_n kF1, 0)) rfl) rfl) ?_
    refine .step (x' := (14, [some (.ref 170), some (.int 37)], [.ref 170, .int 37, .ref 175], P, 0, 0)) (ks2 (v := .ref 170) (n := 1) (kmc_257 (e := (2, .aload_n kF0, 0)) rfl) rfl) ?_
    refine .step (x' := (17, [some (.ref 170), some (.int 37)], [.ref 174, .int 37, .ref 175], P, 0, 0)) (skg (v := .ref 174) (kmc_257 (e := (5, .getfield 41, 0)) rfl) rfl (hP 170 _ (by decide) kat_170) rfl) ?_
    refine .step (x' := (18, [some (.ref 170), some (.int 37)], [.int 37, .ref 174, .int 37, .ref 175], P, 0, 0)) (ks2 (v := .int 37) (n := 1) (kmc_257 (e := (2, .iload_n kF1, 0)) rfl) rfl) ?_
    refine .step (x' := (19, [some (.ref 170), some (.int 37)], [.int 0, .int 37, .ref 175], P, 0, 0)) (skal (x := 0) (kmc_257 (e := (5, .iaload, 0)) rfl) (hP 174 _ (by decide) kat_174) ((su_i (k := 37) (by decide +kernel) (by decide)).trans rfl)) ?_
    refine .step (x' := (20, [some (.ref 170), some (.int 37)], [], P, 0, 0)) (skas0 (kmc_257 (e := (5, .iastore, 0)) rfl) (hP 175 _ (by decide) kat_175) (k := 37) (by decide +kernel) (by decide) (by decide +kernel)) ?_
    refine .step (x' := (23, [some (.ref 170), some (.int 38)], [], P, 0, 0)) (ks3 (L' := [some (.ref 170), some (.int 38)]) (st' := []) (n := 3) (kmc_257 (e := (3, .iinc 1 1, 0)) rfl) (sa_iinc (i := 1) rfl (by decide +kernel) rfl rfl)) ?_
    refine .step (x' := (2, [some (.ref 170), some (.int 38)], [], P, 0, 0)) (ks4 (pc' := 2) (st' := []) (kmc_257 (e := (4, .goto (-21), 2)) rfl) rfl) ?_
    refine .step (x' := (3, [some (.ref 170), some (.int 38)], [.int 38], P, 0, 0)) (ks2 (v := .int 38) (n := 1) (kmc_257 (e := (2, .iload_n kF1, 0)) rfl) rfl) ?_
    refine .step (x' := (5, [some (.ref 170), some (.int 38)], [.int ((Int8.ofInt 41).toInt32), .int 38], P, 0, 0)) (ks1 (v := .int ((Int8.ofInt 41).toInt32)) (n := 2) (kmc_257 (e := (1, .bipush 41, 0)) rfl) rfl) ?_
    refine .step (x' := (8, [some (.ref 170), some (.int 38)], [], P, 0, 0)) (ks4 (pc' := 8) (st' := []) (kmc_257 (e := (4, .if_icmp .ge 21, 26)) rfl) (kbi_ge (b := false) (by decide +kernel))) ?_
    refine .step (x' := (9, [some (.ref 170), some (.int 38)], [.ref 170], P, 0, 0)) (ks2 (v := .ref 170) (n := 1) (kmc_257 (e := (2, .aload_n kF0, 0)) rfl) rfl) ?_
    refine .step (x' := (12, [some (.ref 170), some (.int 38)], [.ref 175], P, 0, 0)) (skg (v := .ref 175) (kmc_257 (e := (5, .getfield 44, 0)) rfl) rfl (hP 170 _ (by decide) kat_170) rfl) ?_
    refine .step (x' := (13, [some (.ref 170), some (.int 38)], [.int 38, .ref 175], P, 0, 0)) (ks2 (v := .int 38) (n := 1) (kmc_257 (e := (2, .iload_n kF1, 0)) rfl) rfl) ?_
    refine .step (x' := (14, [some (.ref 170), some (.int 38)], [.ref 170, .int 38, .ref 175], P, 0, 0)) (ks2 (v := .ref 170) (n := 1) (kmc_257 (e := (2, .aload_n kF0, 0)) rfl) rfl) ?_
    refine .step (x' := (17, [some (.ref 170), some (.int 38)], [.ref 174, .int 38, .ref 175], P, 0, 0)) (skg (v := .ref 174) (kmc_257 (e := (5, .getfield 41, 0)) rfl) rfl (hP 170 _ (by decide) kat_170) rfl) ?_
    refine .step (x' := (18, [some (.ref 170), some (.int 38)], [.int 38, .ref 174, .int 38, .ref 175], P, 0, 0)) (ks2 (v := .int 38) (n := 1) (kmc_257 (e := (2, .iload_n kF1, 0)) rfl) rfl) ?_
    refine .step (x' := (19, [some (.ref 170), some (.int 38)], [.int 0, .int 38, .ref 175], P, 0, 0)) (skal (x := 0) (kmc_257 (e := (5, .iaload, 0)) rfl) (hP 174 _ (by decide) kat_174) ((su_i (k := 38) (by decide +kernel) (by decide)).trans rfl)) ?_
    refine .step (x' := (20, [some (.ref 170), some (.int 38)], [], P, 0, 0)) (skas0 (kmc_257 (e := (5, .iastore, 0)) rfl) (hP 175 _ (by decide) kat_175) (k := 38) (by decide +kernel) (by decide) (by decide +kernel)) ?_
    refine .step (x' := (23, [some (.ref 170), some (.int 39)], [], P, 0, 0)) (ks3 (L' := [some (.ref 170), some (.int 39)]) (st' := []) (n := 3) (kmc_257 (e := (3, .iinc 1 1, 0)) rfl) (sa_iinc (i := 1) rfl (by decide +kernel) rfl rfl)) ?_
    refine .step (x' := (2, [some (.ref 170), some (.int 39)], [], P, 0, 0)) (ks4 (pc' := 2) (st' := []) (kmc_257 (e := (4, .goto (-21), 2)) rfl) rfl) ?_
    refine .step (x' := (3, [some (.ref 170), some (.int 39)], [.int 39], P, 0, 0)) (ks2 (v := .int 39) (n := 1) (kmc_257 (e := (2, .iload_n kF1, 0)) rfl) rfl) ?_
    refine .step (x' := (5, [some (.ref 170), some (.int 39)], [.int ((Int8.ofInt 41).toInt32), .int 39], P, 0, 0)) (ks1 (v := .int ((Int8.ofInt 41).toInt32)) (n := 2) (kmc_257 (e := (1, .bipush 41, 0)) rfl) rfl) ?_
    refine .step (x' := (8, [some (.ref 170), some (.int 39)], [], P, 0, 0)) (ks4 (pc' := 8) (st' := []) (kmc_257 (e := (4, .if_icmp .ge 21, 26)) rfl) (kbi_ge (b := false) (by decide +kernel))) ?_
    refine .step (x' := (9, [some (.ref 170), some (.int 39)], [.ref 170], P, 0, 0)) (ks2 (v := .ref 170) (n := 1) (kmc_257 (e := (2, .aload_n kF0, 0)) rfl) rfl) ?_
    refine .step (x' := (12, [some (.ref 170), some (.int 39)], [.ref 175], P, 0, 0)) (skg (v := .ref 175) (kmc_257 (e := (5, .getfield 44, 0)) rfl) rfl (hP 170 _ (by decide) kat_170) rfl) ?_
    refine .step (x' := (13, [some (.ref 170), some (.int 39)], [.int 39, .ref 175], P, 0, 0)) (ks2 (v := .int 39) (n := 1) (kmc_257 (e := (2, .iload_n kF1, 0)) rfl) rfl) ?_
    refine .step (x' := (14, [some (.ref 170), some (.int 39)], [.ref 170, .int 39, .ref 175], P, 0, 0)) (ks2 (v := .ref 170) (n := 1) (kmc_257 (e := (2, .aload_n kF0, 0)) rfl) rfl) ?_
    refine .step (x' := (17, [some (.ref 170), some (.int 39)], [.ref 174, .int 39, .ref 175], P, 0, 0)) (skg (v := .ref 174) (kmc_257 (e := (5, .getfield 41, 0)) rfl) rfl (hP 170 _ (by decide) kat_170) rfl) ?_
    refine .step (x' := (18, [some (.ref 170), some (.int 39)], [.int 39, .ref 174, .int 39, .ref 175], P, 0, 0)) (ks2 (v := .int 39) (n := 1) (kmc_257 (e := (2, .iload_n kF1, 0)) rfl) rfl) ?_
    refine .step (x' := (19, [some (.ref 170), some (.int 39)], [.int 0, .int 39, .ref 175], P, 0, 0)) (skal (x := 0) (kmc_257 (e := (5, .iaload, 0)) rfl) (hP 174 _ (by decide) kat_174) ((su_i (k := 39) (by decide +kernel) (by decide)).trans rfl)) ?_
    refine .step (x' := (20, [some (.ref 170), some (.int 39)], [], P, 0, 0)) (skas0 (kmc_257 (e := (5, .iastore, 0)) rfl) (hP 175 _ (by decide) kat_175) (k := 39) (by decide +kernel) (by decide) (by decide +kernel)) ?_
    refine .step (x' := (23, [some (.ref 170), some (.int 40)], [], P, 0, 0)) (ks3 (L' := [some (.ref 170), some (.int 40)]) (st' := []) (n := 3) (kmc_257 (e := (3, .iinc 1 1, 0)) rfl) (sa_iinc (i := 1) rfl (by decide +kernel) rfl rfl)) ?_
    refine .step (x' := (2, [some (.ref 170), some (.int 40)], [], P, 0, 0)) (ks4 (pc' := 2) (st' := []) (kmc_257 (e := (4, .goto (-21), 2)) rfl) rfl) ?_
    refine .step (x' := (3, [some (.ref 170), some (.int 40)], [.int 40], P, 0, 0)) (ks2 (v := .int 40) (n := 1) (kmc_257 (e := (2, .iload_n kF1, 0)) rfl) rfl) ?_
    refine .step (x' := (5, [some (.ref 170), some (.int 40)], [.int ((Int8.ofInt 41).toInt32), .int 40], P, 0, 0)) (ks1 (v := .int ((Int8.ofInt 41).toInt32)) (n := 2) (kmc_257 (e := (1, .bipush 41, 0)) rfl) rfl) ?_
    refine .step (x' := (8, [some (.ref 170), some (.int 40)], [], P, 0, 0)) (ks4 (pc' := 8) (st' := []) (kmc_257 (e := (4, .if_icmp .ge 21, 26)) rfl) (kbi_ge (b := false) (by decide +kernel))) ?_
    refine .step (x' := (9, [some (.ref 170), some (.int 40)], [.ref 170], P, 0, 0)) (ks2 (v := .ref 170) (n := 1) (kmc_257 (e := (2, .aload_n kF0, 0)) rfl) rfl) ?_
    refine .step (x' := (12, [some (.ref 170), some (.int 40)], [.ref 175], P, 0, 0)) (skg (v := .ref 175) (kmc_257 (e := (5, .getfield 44, 0)) rfl) rfl (hP 170 _ (by decide) kat_170) rfl) ?_
    refine .step (x' := (13, [some (.ref 170), some (.int 40)], [.int 40, .ref 175], P, 0, 0)) (ks2 (v := .int 40) (n := 1) (kmc_257 (e := (2, .iload_n kF1, 0)) rfl) rfl) ?_
    refine .step (x' := (14, [some (.ref 170), some (.int 40)], [.ref 170, .int 40, .ref 175], P, 0, 0)) (ks2 (v := .ref 170) (n := 1) (kmc_257 (e := (2, .aload_n kF0, 0)) rfl) rfl) ?_
    refine .step (x' := (17, [some (.ref 170), some (.int 40)], [.ref 174, .int 40, .ref 175], P, 0, 0)) (skg (v := .ref 174) (kmc_257 (e := (5, .getfield 41, 0)) rfl) rfl (hP 170 _ (by decide) kat_170) rfl) ?_
    refine .step (x' := (18, [some (.ref 170), some (.int 40)], [.int 40, .ref 174, .int 40, .ref 175], P, 0, 0)) (ks2 (v := .int 40) (n := 1) (kmc_257 (e := (2, .iload_n kF1, 0)) rfl) rfl) ?_
    refine .step (x' := (19, [some (.ref 170), some (.int 40)], [.int 0, .int 40, .ref 175], P, 0, 0)) (skal (x := 0) (kmc_257 (e := (5, .iaload, 0)) rfl) (hP 174 _ (by decide) kat_174) ((su_i (k := 40) (by decide +kernel) (by decide)).trans rfl)) ?_
    refine .step (x' := (20, [some (.ref 170), some (.int 40)], [], P, 0, 0)) (skas0 (kmc_257 (e := (5, .iastore, 0)) rfl) (hP 175 _ (by decide) kat_175) (k := 40) (by decide +kernel) (by decide) (by decide +kernel)) ?_
    refine .step (x' := (23, [some (.ref 170), some (.int 41)], [], P, 0, 0)) (ks3 (L' := [some (.ref 170), some (.int 41)]) (st' := []) (n := 3) (kmc_257 (e := (3, .iinc 1 1, 0)) rfl) (sa_iinc (i := 1) rfl (by decide +kernel) rfl rfl)) ?_
    refine .step (x' := (2, [some (.ref 170), some (.int 41)], [], P, 0, 0)) (ks4 (pc' := 2) (st' := []) (kmc_257 (e := (4, .goto (-21), 2)) rfl) rfl) ?_
    refine .step (x' := (3, [some (.ref 170), some (.int 41)], [.int 41], P, 0, 0)) (ks2 (v := .int 41) (n := 1) (kmc_257 (e := (2, .iload_n kF1, 0)) rfl) rfl) ?_
    refine .step (x' := (5, [some (.ref 170), some (.int 41)], [.int ((Int8.ofInt 41).toInt32), .int 41], P, 0, 0)) (ks1 (v := .int ((Int8.ofInt 41).toInt32)) (n := 2) (kmc_257 (e := (1, .bipush 41, 0)) rfl) rfl) ?_
    refine .step (x' := (26, [some (.ref 170), some (.int 41)], [], P, 0, 0)) (ks4 (pc' := 26) (st' := []) (kmc_257 (e := (4, .if_icmp .ge 21, 26)) rfl) (kbi_ge (b := true) (by decide +kernel))) ?_
    exact .ret (ks7 (kmc_257 (e := (7, .return_, 0)) rfl) rfl)
  show pm_Te kK false (pm_Rd kK false 39) 270 (23, [some (.ref 170), some (.int x), none], [], P, 0, 0) _
  refine .step (x' := (24, [some (.ref 170), some (.int x), none], [.ref 170], P, 0, 0)) (ks2 (v := .ref 170) (n := 1) (kmc_270 (e := (2, .aload_n kF0, 0)) rfl) rfl) ?_
  refine .step (x' := (25, [some (.ref 170), some (.int x), none], [.ref 170, .ref 170], P, 0, 0)) (ks2 (v := .ref 170) (n := 1) (kmc_270 (e := (2, .aload_n kF0, 0)) rfl) rfl) ?_
  refine .step (x' := (28, [some (.ref 170), some (.int x), none], [.ref 175, .ref 170], P, 0, 0)) (skg (v := .ref 175) (kmc_270 (e := (5, .getfield 44, 0)) rfl) rfl (hP 170 _ (by decide) kat_170) rfl) ?_
  refine .step (x' := (29, [some (.ref 170), some (.int x), none], [.int x, .ref 175, .ref 170], P, 0, 0)) (ks2 (v := .int x) (n := 1) (kmc_270 (e := (2, .iload_n kF1, 0)) rfl) rfl) ?_
  refine .call (v := none) (ph' := (kYm P 0 h2)) (c1 := 0) (s1 := 0) (j := 244) (as := [.ref 170, .ref 175, .int x]) (pc := 32) (L := [some (.ref 170), some (.int x), none]) (st := []) (ks6 (kmc_270 (e := (6, .invokevirtual 370, 0)) rfl) (sk_v (n := 2) (a := 170) rfl rfl (hP 170 _ (by decide) kat_170) rfl rfl)) (show pm_Rd kK false 39 244 [.ref 170, .ref 175, .int x] P (none, (kYm P 0 h2), 0, 0) from ?_) ?_
  · exact hd
  show pm_Te kK false (pm_Rd kK false 39) 270 (32, [some (.ref 170), some (.int x), none], [], (kYm P 0 h2), 0, 0) _
  refine .step (x' := (33, [some (.ref 170), some (.int x), none], [.ref 170], (kYm P 0 h2), 0, 0)) (ks2 (v := .ref 170) (n := 1) (kmc_270 (e := (2, .aload_n kF0, 0)) rfl) rfl) ?_
  refine .step (x' := (34, [some (.ref 170), some (.int x), none], [.int (Int32.ofInt 0), .ref 170], (kYm P 0 h2), 0, 0)) (ks0 (st' := [.int (Int32.ofInt 0), .ref 170]) (kmc_270 (e := (0, .iconst 0, 0)) rfl) rfl) ?_
  refine .step (x' := (37, [some (.ref 170), some (.int x), none], [], (kYm P 0 h2), 0, 0)) (skp (kmc_270 (e := (5, .putfield 15, 0)) rfl) rfl (kym_M hP) (by decide +kernel) rfl) ?_
  refine .step (x' := (38, [some (.ref 170), some (.int x), none], [.int (Int32.ofInt 0)], (kYm P 0 h2), 0, 0)) (ks0 (st' := [.int (Int32.ofInt 0)]) (kmc_270 (e := (0, .iconst 0, 0)) rfl) rfl) ?_
  refine .step (x' := (39, [some (.ref 170), some (.int x), some (.int (Int32.ofInt 0))], [], (kYm P 0 h2), 0, 0)) (ks3 (L' := [some (.ref 170), some (.int x), some (.int (Int32.ofInt 0))]) (st' := []) (n := 1) (kmc_270 (e := (3, .istore_n kF2, 0)) rfl) rfl) ?_
  refine .step (x' := (40, [some (.ref 170), some (.int x), some (.int (Int32.ofInt 0))], [.int (Int32.ofInt 0)], (kYm P 0 h2), 0, 0)) (ks2 (v := .int (Int32.ofInt 0)) (n := 1) (kmc_270 (e := (2, .iload_n kF2, 0)) rfl) rfl) ?_
  refine .step (x' := (41, [some (.ref 170), some (.int x), some (.int (Int32.ofInt 0))], [.ref 170, .int (Int32.ofInt 0)], (kYm P 0 h2), 0, 0)) (ks2 (v := .ref 170) (n := 1) (kmc_270 (e := (2, .aload_n kF0, 0)) rfl) rfl) ?_
  refine .step (x' := (44, [some (.ref 170), some (.int x), some (.int (Int32.ofInt 0))], [.int 0, .int (Int32.ofInt 0)], (kYm P 0 h2), 0, 0)) (skg (v := .int 0) (kmc_270 (e := (5, .getfield 130, 0)) rfl) rfl (kym_M hP) rfl) ?_
  refine .step (x' := (67, [some (.ref 170), some (.int x), some (.int (Int32.ofInt 0))], [], (kYm P 0 h2), 0, 0)) (ks4 (pc' := 67) (st' := []) (kmc_270 (e := (4, .if_icmp .ge 23, 67)) rfl) (kbi_ge (b := true) (by decide +kernel))) ?_
  refine .step (x' := (68, [some (.ref 170), some (.int x), some (.int (Int32.ofInt 0))], [.ref 170], (kYm P 0 h2), 0, 0)) (ks2 (v := .ref 170) (n := 1) (kmc_270 (e := (2, .aload_n kF0, 0)) rfl) rfl) ?_
  refine .step (x' := (69, [some (.ref 170), some (.int x), some (.int (Int32.ofInt 0))], [.ref 170, .ref 170], (kYm P 0 h2), 0, 0)) (ks2 (v := .ref 170) (n := 1) (kmc_270 (e := (2, .aload_n kF0, 0)) rfl) rfl) ?_
  refine .step (x' := (72, [some (.ref 170), some (.int x), some (.int (Int32.ofInt 0))], [.ref 175, .ref 170], (kYm P 0 h2), 0, 0)) (skg (v := .ref 175) (kmc_270 (e := (5, .getfield 44, 0)) rfl) rfl (kym_M hP) rfl) ?_
  refine .call (v := some (.int (Int32.ofInt 0))) (ph' := (kYm P 0 h2)) (c1 := 0) (s1 := 0) (j := 235) (as := [.ref 170, .ref 175]) (pc := 75) (L := [some (.ref 170), some (.int x), some (.int (Int32.ofInt 0))]) (st := []) (ks6 (kmc_270 (e := (6, .invokevirtual 366, 0)) rfl) (sk_v (n := 1) (a := 170) rfl rfl (kym_M hP) rfl rfl)) (show pm_Rd kK false 39 235 [.ref 170, .ref 175] (kYm P 0 h2) (some (.int (Int32.ofInt 0)), (kYm P 0 h2), 0, 0) from ?_) ?_
  · refine pm_Rd.mk (K := kK) (al := false) (d := 38) (mj := 235) rfl ?_
    show pm_Te kK false (pm_Rd kK false 38) 235 (0, [some (.ref 170), some (.ref 175), none, none], [], (kYm P 0 h2), 0, 0) _
    refine .step (x' := (1, [some (.ref 170), some (.ref 175), none, none], [.int (Int32.ofInt 0)], (kYm P 0 h2), 0, 0)) (ks0 (st' := [.int (Int32.ofInt 0)]) (kmc_235 (e := (0, .iconst 0, 0)) rfl) rfl) ?_
    refine .step (x' := (2, [some (.ref 170), some (.ref 175), some (.int (Int32.ofInt 0)), none], [], (kYm P 0 h2), 0, 0)) (ks3 (L' := [some (.ref 170), some (.ref 175), some (.int (Int32.ofInt 0)), none]) (st' := []) (n := 1) (kmc_235 (e := (3, .istore_n kF2, 0)) rfl) rfl) ?_
    refine .step (x' := (3, [some (.ref 170), some (.ref 175), some (.int (Int32.ofInt 0)), none], [.int (Int32.ofInt 0)], (kYm P 0 h2), 0, 0)) (ks0 (st' := [.int (Int32.ofInt 0)]) (kmc_235 (e := (0, .iconst 0, 0)) rfl) rfl) ?_
    refine .step (x' := (4, [some (.ref 170), some (.ref 175), some (.int (Int32.ofInt 0)), some (.int (Int32.ofInt 0))], [], (kYm P 0 h2), 0, 0)) (ks3 (L' := [some (.ref 170), some (.ref 175), some (.int (Int32.ofInt 0)), some (.int (Int32.ofInt 0))]) (st' := []) (n := 1) (kmc_235 (e := (3, .istore_n kF3, 0)) rfl) rfl) ?_
    refine .step (x' := (5, [some (.ref 170), some (.ref 175), some (.int (Int32.ofInt 0)), some (.int (Int32.ofInt 0))], [.int (Int32.ofInt 0)], (kYm P 0 h2), 0, 0)) (ks2 (v := .int (Int32.ofInt 0)) (n := 1) (kmc_235 (e := (2, .iload_n kF3, 0)) rfl) rfl) ?_
    refine .step (x' := (6, [some (.ref 170), some (.ref 175), some (.int (Int32.ofInt 0)), some (.int (Int32.ofInt 0))], [.ref 170, .int (Int32.ofInt 0)], (kYm P 0 h2), 0, 0)) (ks2 (v := .ref 170) (n := 1) (kmc_235 (e := (2, .aload_n kF0, 0)) rfl) rfl) ?_
    refine .step (x' := (9, [some (.ref 170), some (.ref 175), some (.int (Int32.ofInt 0)), some (.int (Int32.ofInt 0))], [.int 0, .int (Int32.ofInt 0)], (kYm P 0 h2), 0, 0)) (skg (v := .int 0) (kmc_235 (e := (5, .getfield 130, 0)) rfl) rfl (kym_M hP) rfl) ?_
    refine .step (x' := (30, [some (.ref 170), some (.ref 175), some (.int (Int32.ofInt 0)), some (.int (Int32.ofInt 0))], [], (kYm P 0 h2), 0, 0)) (ks4 (pc' := 30) (st' := []) (kmc_235 (e := (4, .if_icmp .ge 21, 30)) rfl) (kbi_ge (b := true) (by decide +kernel))) ?_
    refine .step (x' := (31, [some (.ref 170), some (.ref 175), some (.int (Int32.ofInt 0)), some (.int (Int32.ofInt 0))], [.int (Int32.ofInt 0)], (kYm P 0 h2), 0, 0)) (ks2 (v := .int (Int32.ofInt 0)) (n := 1) (kmc_235 (e := (2, .iload_n kF2, 0)) rfl) rfl) ?_
    exact .ret (ks7 (kmc_235 (e := (7, .ireturn, 0)) rfl) rfl)
  show pm_Te kK false (pm_Rd kK false 39) 270 (75, [some (.ref 170), some (.int x), some (.int (Int32.ofInt 0))], [.int (Int32.ofInt 0)], (kYm P 0 h2), 0, 0) _
  exact .ret (ks7 (kmc_270 (e := (7, .ireturn, 0)) rfl) rfl)
theorem kTi_ahead {x : Int32} (h0 : 0 ≤ x.toInt) (h1 : x.toInt ≤ 99) : kSame 40 true 156 270 [.int x] kH0 := by
  obtain ⟨h2, g1⟩ := kpx_run h0 h1
  obtain ⟨h3, g2⟩ := kpm_run (kax_fr (h2 := h2)) h0 h1
  exact ⟨_, _, _, 0, 0, 0, 0, kax_run h0 h1 g1, kam_run kax_fr h0 h1 g2, by decide, by decide, ⟨_, kax_fr 170 _ (by decide) kat_170⟩, fun _ => ⟨_, rfl⟩, fun h => by cases h⟩
