/-! Further blocks, summaries, contracts, printed by wip/x/xprint.py -/
/-! 256 BVModel.copies (G93) -/
theorem xkc_256 {pc : Nat} {e : Nat × Instr × Nat} (h : pm_tl kc_256 pc = some e) : pm_code kK 256 pc = some e := h
noncomputable def xb_256_0 : xb := xpush (xci (Int.ofNat 0)) (xis 1 (xj 2))
theorem xp_256_0 {E : pm_H → Prop} (hE : xHE xX xgA_G93 xgF_G93 E) : xok xX kK kK E 0 256 0 xb_256_0 := xpush0_ok (xkc_256 rfl) (fun _ => rfl) (xci_ok (by decide +kernel)) (xis_ok (i := 1) 1 (xkc_256 rfl) (fo_sin kF1) (xj_ok))
noncomputable def xb_256_2 : xb := xil 1 (xpush (xci (Int.ofNat 41)) (xif2 xr_ge xr_lt 26 (xal 0 (xgf xX 13 12 (xil 1 (xal 0 (xgf xX 13 11 (xil 1 (xial xX (xias xX xgA_G93 xgF_G93 (xinc 1 (Int.ofNat 1) (xj 2))))))))))))
theorem xp_256_2 {E : pm_H → Prop} (hE : xHE xX xgA_G93 xgF_G93 E) : xok xX kK kK E 0 256 2 xb_256_2 := xil_ok (i := 1) 1 (xkc_256 rfl) (fo_lin kF1) (xpush1_ok 2 (xkc_256 rfl) rfl (xci_ok (by decide +kernel)) (xif2_ok (aux := 26) (xkc_256 rfl) xr_ge_ok xr_lt_ok fo_ic_ge xb_ge (xal_ok (i := 0) 1 (xkc_256 rfl) (fo_lan kF0) (xgf_ok (b := 0) (by decide) (xkc_256 rfl) rfl (xil_ok (i := 1) 1 (xkc_256 rfl) (fo_lin kF1) (xal_ok (i := 0) 1 (xkc_256 rfl) (fo_lan kF0) (xgf_ok (b := 0) (by decide) (xkc_256 rfl) rfl (xil_ok (i := 1) 1 (xkc_256 rfl) (fo_lin kF1) (xial_ok (xkc_256 rfl) (xias_ok xsn_G93 hE (xkc_256 rfl) (xinc_ok (xkc_256 rfl) (by decide +kernel) (xgoto_ok (xkc_256 rfl)))))))))))))
noncomputable def xb_256_26 : xb := xrv0
theorem xp_256_26 {E : pm_H → Prop} (hE : xHE xX xgA_G93 xgF_G93 E) : xok xX kK kK E 0 256 26 xb_256_26 := xrv0_ok (xkc_256 rfl) rfl
noncomputable def xt_256 : List (Nat × xb) := [(0, xb_256_0), (2, xb_256_2), (26, xb_256_26)]
theorem xq_256 {E : pm_H → Prop} (hE : xHE xX xgA_G93 xgF_G93 E) : ∀ q ∈ xt_256, xok xX kK kK E 0 256 q.1 q.2 := List.forall_mem_cons.mpr ⟨xp_256_0 hE, List.forall_mem_cons.mpr ⟨xp_256_2 hE, List.forall_mem_cons.mpr ⟨xp_256_26 hE, fun _ h => absurd h List.not_mem_nil⟩⟩⟩
def xnd_256_0_0 : List (xnd × List Nat) := [((0, [some (.inr (.inr (.inl 0))), none], [], 0, ((Int.ofNat 42), [])), [1]),
  ((2, [some (.inr (.inr (.inl 0))), some (.inl ((Int.ofNat 0), (Int.ofNat 0)))], [], 0, ((Int.ofNat 41), [((Int.negSucc 0), false, 1)])), [2]),
  ((2, [some (.inr (.inr (.inl 0))), some (.inl ((Int.ofNat 1), (Int.ofNat 1)))], [], 0, ((Int.ofNat 41), [((Int.negSucc 0), false, 1)])), [3]),
  ((2, [some (.inr (.inr (.inl 0))), some (.inl ((Int.ofNat 2), (Int.ofNat 2)))], [], 0, ((Int.ofNat 41), [((Int.negSucc 0), false, 1)])), [4]),
  ((2, [some (.inr (.inr (.inl 0))), some (.inl ((Int.ofNat 3), (Int.ofNat 3)))], [], 0, ((Int.ofNat 41), [((Int.negSucc 0), false, 1)])), [5]),
  ((2, [some (.inr (.inr (.inl 0))), some (.inl ((Int.ofNat 4), (Int.ofNat 4)))], [], 0, ((Int.ofNat 41), [((Int.negSucc 0), false, 1)])), [6]),
  ((2, [some (.inr (.inr (.inl 0))), some (.inl ((Int.ofNat 5), (Int.ofNat 5)))], [], 0, ((Int.ofNat 41), [((Int.negSucc 0), false, 1)])), [7]),
  ((2, [some (.inr (.inr (.inl 0))), some (.inl ((Int.ofNat 6), (Int.ofNat 6)))], [], 0, ((Int.ofNat 41), [((Int.negSucc 0), false, 1)])), [8]),
  ((2, [some (.inr (.inr (.inl 0))), some (.inl ((Int.ofNat 7), (Int.ofNat 7)))], [], 0, ((Int.ofNat 41), [((Int.negSucc 0), false, 1)])), [9]),
  ((2, [some (.inr (.inr (.inl 0))), some (.inl ((Int.ofNat 8), (Int.ofNat 8)))], [], 0, ((Int.ofNat 41), [((Int.negSucc 0), false, 1)])), [10]),
  ((2, [some (.inr (.inr (.inl 0))), some (.inl ((Int.ofNat 9), (Int.ofNat 9)))], [], 0, ((Int.ofNat 41), [((Int.negSucc 0), false, 1)])), [11]),
  ((2, [some (.inr (.inr (.inl 0))), some (.inl ((Int.ofNat 10), (Int.ofNat 10)))], [], 0, ((Int.ofNat 41), [((Int.negSucc 0), false, 1)])), [12]),
  ((2, [some (.inr (.inr (.inl 0))), some (.inl ((Int.ofNat 11), (Int.ofNat 11)))], [], 0, ((Int.ofNat 41), [((Int.negSucc 0), false, 1)])), [13]),
  ((2, [some (.inr (.inr (.inl 0))), some (.inl ((Int.ofNat 12), (Int.ofNat 12)))], [], 0, ((Int.ofNat 41), [((Int.negSucc 0), false, 1)])), [14]),
  ((2, [some (.inr (.inr (.inl 0))), some (.inl ((Int.ofNat 13), (Int.ofNat 13)))], [], 0, ((Int.ofNat 41), [((Int.negSucc 0), false, 1)])), [15]),
  ((2, [some (.inr (.inr (.inl 0))), some (.inl ((Int.ofNat 14), (Int.ofNat 14)))], [], 0, ((Int.ofNat 41), [((Int.negSucc 0), false, 1)])), [16])]
def xnd_256_0_1 : List (xnd × List Nat) := [((2, [some (.inr (.inr (.inl 0))), some (.inl ((Int.ofNat 15), (Int.ofNat 15)))], [], 0, ((Int.ofNat 41), [((Int.negSucc 0), false, 1)])), [17]),
  ((2, [some (.inr (.inr (.inl 0))), some (.inl ((Int.ofNat 16), (Int.ofNat 16)))], [], 0, ((Int.ofNat 41), [((Int.negSucc 0), false, 1)])), [18]),
  ((2, [some (.inr (.inr (.inl 0))), some (.inl ((Int.ofNat 17), (Int.ofNat 17)))], [], 0, ((Int.ofNat 41), [((Int.negSucc 0), false, 1)])), [19]),
  ((2, [some (.inr (.inr (.inl 0))), some (.inl ((Int.ofNat 18), (Int.ofNat 18)))], [], 0, ((Int.ofNat 41), [((Int.negSucc 0), false, 1)])), [20]),
  ((2, [some (.inr (.inr (.inl 0))), some (.inl ((Int.ofNat 19), (Int.ofNat 19)))], [], 0, ((Int.ofNat 41), [((Int.negSucc 0), false, 1)])), [21]),
  ((2, [some (.inr (.inr (.inl 0))), some (.inl ((Int.ofNat 20), (Int.ofNat 20)))], [], 0, ((Int.ofNat 41), [((Int.negSucc 0), false, 1)])), [22]),
  ((2, [some (.inr (.inr (.inl 0))), some (.inl ((Int.ofNat 21), (Int.ofNat 21)))], [], 0, ((Int.ofNat 41), [((Int.negSucc 0), false, 1)])), [23]),
  ((2, [some (.inr (.inr (.inl 0))), some (.inl ((Int.ofNat 22), (Int.ofNat 22)))], [], 0, ((Int.ofNat 41), [((Int.negSucc 0), false, 1)])), [24]),
  ((2, [some (.inr (.inr (.inl 0))), some (.inl ((Int.ofNat 23), (Int.ofNat 23)))], [], 0, ((Int.ofNat 41), [((Int.negSucc 0), false, 1)])), [25]),
  ((2, [some (.inr (.inr (.inl 0))), some (.inl ((Int.ofNat 24), (Int.ofNat 24)))], [], 0, ((Int.ofNat 41), [((Int.negSucc 0), false, 1)])), [26]),
  ((2, [some (.inr (.inr (.inl 0))), some (.inl ((Int.ofNat 25), (Int.ofNat 25)))], [], 0, ((Int.ofNat 41), [((Int.negSucc 0), false, 1)])), [27]),
  ((2, [some (.inr (.inr (.inl 0))), some (.inl ((Int.ofNat 26), (Int.ofNat 26)))], [], 0, ((Int.ofNat 41), [((Int.negSucc 0), false, 1)])), [28]),
  ((2, [some (.inr (.inr (.inl 0))), some (.inl ((Int.ofNat 27), (Int.ofNat 27)))], [], 0, ((Int.ofNat 41), [((Int.negSucc 0), false, 1)])), [29]),
  ((2, [some (.inr (.inr (.inl 0))), some (.inl ((Int.ofNat 28), (Int.ofNat 28)))], [], 0, ((Int.ofNat 41), [((Int.negSucc 0), false, 1)])), [30]),
  ((2, [some (.inr (.inr (.inl 0))), some (.inl ((Int.ofNat 29), (Int.ofNat 29)))], [], 0, ((Int.ofNat 41), [((Int.negSucc 0), false, 1)])), [31]),
  ((2, [some (.inr (.inr (.inl 0))), some (.inl ((Int.ofNat 30), (Int.ofNat 30)))], [], 0, ((Int.ofNat 41), [((Int.negSucc 0), false, 1)])), [32])]
def xnd_256_0_2 : List (xnd × List Nat) := [((2, [some (.inr (.inr (.inl 0))), some (.inl ((Int.ofNat 31), (Int.ofNat 31)))], [], 0, ((Int.ofNat 41), [((Int.negSucc 0), false, 1)])), [33]),
  ((2, [some (.inr (.inr (.inl 0))), some (.inl ((Int.ofNat 32), (Int.ofNat 32)))], [], 0, ((Int.ofNat 41), [((Int.negSucc 0), false, 1)])), [34]),
  ((2, [some (.inr (.inr (.inl 0))), some (.inl ((Int.ofNat 33), (Int.ofNat 33)))], [], 0, ((Int.ofNat 41), [((Int.negSucc 0), false, 1)])), [35]),
  ((2, [some (.inr (.inr (.inl 0))), some (.inl ((Int.ofNat 34), (Int.ofNat 34)))], [], 0, ((Int.ofNat 41), [((Int.negSucc 0), false, 1)])), [36]),
  ((2, [some (.inr (.inr (.inl 0))), some (.inl ((Int.ofNat 35), (Int.ofNat 35)))], [], 0, ((Int.ofNat 41), [((Int.negSucc 0), false, 1)])), [37]),
  ((2, [some (.inr (.inr (.inl 0))), some (.inl ((Int.ofNat 36), (Int.ofNat 36)))], [], 0, ((Int.ofNat 41), [((Int.negSucc 0), false, 1)])), [38]),
  ((2, [some (.inr (.inr (.inl 0))), some (.inl ((Int.ofNat 37), (Int.ofNat 37)))], [], 0, ((Int.ofNat 41), [((Int.negSucc 0), false, 1)])), [39]),
  ((2, [some (.inr (.inr (.inl 0))), some (.inl ((Int.ofNat 38), (Int.ofNat 38)))], [], 0, ((Int.ofNat 41), [((Int.negSucc 0), false, 1)])), [40]),
  ((2, [some (.inr (.inr (.inl 0))), some (.inl ((Int.ofNat 39), (Int.ofNat 39)))], [], 0, ((Int.ofNat 41), [((Int.negSucc 0), false, 1)])), [41]),
  ((2, [some (.inr (.inr (.inl 0))), some (.inl ((Int.ofNat 40), (Int.ofNat 40)))], [], 0, ((Int.ofNat 41), [((Int.negSucc 0), false, 1)])), [42]),
  ((2, [some (.inr (.inr (.inl 0))), some (.inl ((Int.ofNat 41), (Int.ofNat 41)))], [(716840, .inr (.inr (.inr 0)))], 0, ((Int.ofNat 41), [((Int.negSucc 0), false, 1)])), [])]
def xns_256_0 : xns := [xnd_256_0_0, xnd_256_0_1, xnd_256_0_2]
def xsp_256_0 : Nat → Option (Bool × Nat) := fun _ => none
theorem xck_256_0_0 : xnd_256_0_0.all (xnchk xX xsp_256_0 xt_256 [2] xns_256_0 (none) [] 600) = true := by decide +kernel
theorem xck_256_0_1 : xnd_256_0_1.all (xnchk xX xsp_256_0 xt_256 [2] xns_256_0 (none) [] 600) = true := by decide +kernel
theorem xck_256_0_2 : xnd_256_0_2.all (xnchk xX xsp_256_0 xt_256 [2] xns_256_0 (none) [] 600) = true := by decide +kernel
theorem xn_256_0 {E : pm_H → Prop} (hE : xHE xX xgA_G93 xgF_G93 E) : xcon xX kK E 1 256 [.inr (.inr (.inl 0))] [] 0 (none) [] := xnodes_ok (nl := 2) (f := 600) (sp := xsp_256_0) (T := xt_256) (cps := [2]) (ns := xns_256_0) rfl rfl (xq_256 hE) rfl (List.forall_mem_cons.mpr ⟨List.all_eq_true.mp xck_256_0_0, List.forall_mem_cons.mpr ⟨List.all_eq_true.mp xck_256_0_1, List.forall_mem_cons.mpr ⟨List.all_eq_true.mp xck_256_0_2, fun _ h => absurd h List.not_mem_nil⟩⟩⟩)
noncomputable def xs_256 : xc := xalt xX [.inr (.inr (.inl 0))] (xctrG xX xkF_G93 [.inr (.inr (.inl 0))] [] 0 (none) []) (xnone)
theorem xso_256 {E : pm_H → Prop} (hE : xHE xX xgA_G93 xgF_G93 E) : xcok xX kK E 1 256 xs_256 := xalt_ok (xctrG_ok rfl rfl rfl rfl (fun ph => xn_256_0 (E := fun p => E p ∧ xcells xX xkF_G93 ph p) (xHE_cells (kF := xkF_G93) (by decide +kernel) hE))) (xnone_ok)
/-! 257 BVModel.sees (G94V) -/
theorem xkc_257 {pc : Nat} {e : Nat × Instr × Nat} (h : pm_tl kc_257 pc = some e) : pm_code kK 257 pc = some e := h
noncomputable def xb_257_0 : xb := xal 0 (xpush (xci (Int.ofNat 0)) (xpf xX xgF_G94 13 0 0 (xal 0 (xil 1 (xcallV xX 13 1 xs_190 (xif1 xr_ne xr_eq 17 (xpush (xcl (Int.negSucc 0)) (xrl))))))))
theorem xp_257_0 {E : pm_H → Prop} (hE : xHE xX xgA_G94 xgF_G94 E) (hV : ∀ p, E p → xV p) : xok xX kK kK E 12 257 0 xb_257_0 := xal_ok (i := 0) 1 (xkc_257 rfl) (fo_lan kF0) (xpush0_ok (xkc_257 rfl) (fun _ => rfl) (xci_ok (by decide +kernel)) (xpf_ok xsn_G94 hE (by decide) (xkc_257 rfl) rfl rfl xz0 (xal_ok (i := 0) 1 (xkc_257 rfl) (fo_lan kF0) (xil_ok (i := 1) 1 (xkc_257 rfl) (fo_lin kF1) (xcallV_ok (xkc_257 rfl) rfl (Nat.le_of_ble_eq_true rfl) xso_190 (xif1_ok (pb := fun x => fo_ne x 0) (aux := 17) (xkc_257 rfl) xr_ne_ok xr_eq_ok fo_iz_ne xz_ne xy_ne (xpush1_ok 3 (xkc_257 rfl) rfl (xcl_ok (by decide +kernel)) (xrl_ok (xkc_257 rfl) rfl))))))))
noncomputable def xb_257_17 : xb := xal 0 (xal 0 (xgf xX 13 11 (xil 1 (xcallV xX 13 2 xs_226 (xls 2 (xal 0 (xpush (xci (Int.ofNat 0)) (xpf xX xgF_G94 13 1 0 (xal 0 (xll 2 (xcallS 1 xs_305 (xalu xa_i2l (xcallV xX 13 1 xs_186 (xal 0 (xal 0 (xal 0 (xgf xX 13 11 (xll 2 (xcallV xX 13 2 xs_229 (xpush (xci (Int.ofNat 1)) (xil 1 (xalu (xa2 xo_shl) (xpush (xci (Int.negSucc 0)) (xalu (xa2 xo_top) (xalu (xa2 xo_and) (xalu xa_i2l (xcallV xX 13 1 xs_186 (xll 2 (xrl)))))))))))))))))))))))))))))
theorem xp_257_17 {E : pm_H → Prop} (hE : xHE xX xgA_G94 xgF_G94 E) (hV : ∀ p, E p → xV p) : xok xX kK kK E 12 257 17 xb_257_17 := xal_ok (i := 0) 1 (xkc_257 rfl) (fo_lan kF0) (xal_ok (i := 0) 1 (xkc_257 rfl) (fo_lan kF0) (xgf_ok (b := 0) (by decide) (xkc_257 rfl) rfl (xil_ok (i := 1) 1 (xkc_257 rfl) (fo_lin kF1) (xcallV_ok (xkc_257 rfl) rfl (Nat.le_of_ble_eq_true rfl) (xso_226 (xhe_G94_G8 hE) hV) (xls_ok (i := 2) 1 (xkc_257 rfl) (fo_sln kF2) (xal_ok (i := 0) 1 (xkc_257 rfl) (fo_lan kF0) (xpush0_ok (xkc_257 rfl) (fun _ => rfl) (xci_ok (by decide +kernel)) (xpf_ok xsn_G94 hE (by decide) (xkc_257 rfl) rfl rfl xz0 (xal_ok (i := 0) 1 (xkc_257 rfl) (fo_lan kF0) (xll_ok (i := 2) 1 (xkc_257 rfl) (fo_lln kF2) (xcallS_ok (xkc_257 rfl) rfl (Nat.le_of_ble_eq_true rfl) xso_305 (xalu_ok (xkc_257 rfl) xa_i2l_ok (xcallV_ok (xkc_257 rfl) rfl (Nat.le_of_ble_eq_true rfl) (xso_186 (xhe_G94_G58 hE)) (xal_ok (i := 0) 1 (xkc_257 rfl) (fo_lan kF0) (xal_ok (i := 0) 1 (xkc_257 rfl) (fo_lan kF0) (xal_ok (i := 0) 1 (xkc_257 rfl) (fo_lan kF0) (xgf_ok (b := 0) (by decide) (xkc_257 rfl) rfl (xll_ok (i := 2) 1 (xkc_257 rfl) (fo_lln kF2) (xcallV_ok (xkc_257 rfl) rfl (Nat.le_of_ble_eq_true rfl) xso_229 (xpush0_ok (xkc_257 rfl) (fun _ => rfl) (xci_ok (by decide +kernel)) (xil_ok (i := 1) 1 (xkc_257 rfl) (fo_lin kF1) (xalu_ok (xkc_257 rfl) (xa2_ok xo_shl_ok (fun _ _ _ _ => rfl)) (xpush0_ok (xkc_257 rfl) (fun _ => rfl) (xci_ok (by decide +kernel)) (xalu_ok (xkc_257 rfl) (xa2_ok (xo_top_ok (fun x y => x ^^^ y)) (fun _ _ _ _ => rfl)) (xalu_ok (xkc_257 rfl) (xa2_ok xo_and_ok (fun _ _ _ _ => rfl)) (xalu_ok (xkc_257 rfl) xa_i2l_ok (xcallV_ok (xkc_257 rfl) rfl (Nat.le_of_ble_eq_true rfl) (xso_186 (xhe_G94_G58 hE)) (xll_ok (i := 2) 1 (xkc_257 rfl) (fo_lln kF2) (xrl_ok (xkc_257 rfl) rfl)))))))))))))))))))))))))))))
noncomputable def xt_257 : List (Nat × xb) := [(0, xb_257_0), (17, xb_257_17)]
theorem xq_257 {E : pm_H → Prop} (hE : xHE xX xgA_G94 xgF_G94 E) (hV : ∀ p, E p → xV p) : ∀ q ∈ xt_257, xok xX kK kK E 12 257 q.1 q.2 := List.forall_mem_cons.mpr ⟨xp_257_0 hE hV, List.forall_mem_cons.mpr ⟨xp_257_17 hE hV, fun _ h => absurd h List.not_mem_nil⟩⟩
def xnd_257_0_0 : List (xnd × List Nat) := [((0, [some (.inr (.inr (.inl 0))), some (.inl ((Int.negSucc 2147483647), (Int.ofNat 2147483647))), none, none], [], 0, ((Int.ofNat 0), [])), [])]
def xns_257_0 : xns := [xnd_257_0_0]
def xsp_257_0 : Nat → Option (Bool × Nat) := fun _ => none
theorem xck_257_0_0 : xnd_257_0_0.all (xnchk xX xsp_257_0 xt_257 [] xns_257_0 (some (.inr (.inl ((Int.negSucc 9223372036854775807), (Int.ofNat 9223372036854775807))))) [] 600) = true := by decide +kernel
theorem xn_257_0 {E : pm_H → Prop} (hE : xHE xX xgA_G94 xgF_G94 E) (hV : ∀ p, E p → xV p) : xcon xX kK E 13 257 [.inr (.inr (.inl 0)), .inl ((Int.negSucc 2147483647), (Int.ofNat 2147483647))] [] 0 (some (.inr (.inl ((Int.negSucc 9223372036854775807), (Int.ofNat 9223372036854775807))))) [] := xnodes_ok (nl := 4) (f := 600) (sp := xsp_257_0) (T := xt_257) (cps := []) (ns := xns_257_0) rfl rfl (xq_257 hE hV) rfl (List.forall_mem_cons.mpr ⟨List.all_eq_true.mp xck_257_0_0, fun _ h => absurd h List.not_mem_nil⟩)
/-! 258 BVModel.seers (G94V) -/
theorem xkc_258 {pc : Nat} {e : Nat × Instr × Nat} (h : pm_tl kc_258 pc = some e) : pm_code kK 258 pc = some e := h
noncomputable def xb_258_0 : xb := xspb xX 696324 [((Int.ofNat 3), (Int.ofNat 6)), ((Int.ofNat 7), (Int.ofNat 7))] (xal 0 (xpush (xci (Int.ofNat 0)) (xpf xX xgF_G94 13 0 0 (xal 0 (xil 1 (xcallV xX 13 1 xs_189 (xif1 xr_ne xr_eq 15 (xpush (xci (Int.negSucc 0)) (xri)))))))))
theorem xp_258_0 {E : pm_H → Prop} (hE : xHE xX xgA_G94 xgF_G94 E) (hV : ∀ p, E p → xV p) : xok xX kK kK E 13 258 0 xb_258_0 := xspb_ok (xal_ok (i := 0) 1 (xkc_258 rfl) (fo_lan kF0) (xpush0_ok (xkc_258 rfl) (fun _ => rfl) (xci_ok (by decide +kernel)) (xpf_ok xsn_G94 hE (by decide) (xkc_258 rfl) rfl rfl xz0 (xal_ok (i := 0) 1 (xkc_258 rfl) (fo_lan kF0) (xil_ok (i := 1) 1 (xkc_258 rfl) (fo_lin kF1) (xcallV_ok (xkc_258 rfl) rfl (Nat.le_of_ble_eq_true rfl) xso_189 (xif1_ok (pb := fun x => fo_ne x 0) (aux := 15) (xkc_258 rfl) xr_ne_ok xr_eq_ok fo_iz_ne xz_ne xy_ne (xpush0_ok (xkc_258 rfl) (fun _ => rfl) (xci_ok (by decide +kernel)) (xri_ok (xkc_258 rfl) rfl)))))))))
noncomputable def xb_258_15 : xb := xal 0 (xal 0 (xgf xX 13 11 (xil 1 (xcallV xX 13 2 xs_230 (xis 2 (xal 0 (xpush (xci (Int.ofNat 0)) (xpf xX xgF_G94 13 1 0 (xal 0 (xil 2 (xcallS 1 xs_303 (xalu xa_i2l (xcallV xX 13 1 xs_186 (xal 0 (xal 0 (xal 0 (xgf xX 13 11 (xpush (xcl (Int.ofNat 1)) (xil 1 (xalu xaLs (xcallV xX 13 2 xs_228 (xalu xa_i2l (xcallV xX 13 1 xs_186 (xil 2 (xri)))))))))))))))))))))))))
theorem xp_258_15 {E : pm_H → Prop} (hE : xHE xX xgA_G94 xgF_G94 E) (hV : ∀ p, E p → xV p) : xok xX kK kK E 13 258 15 xb_258_15 := xal_ok (i := 0) 1 (xkc_258 rfl) (fo_lan kF0) (xal_ok (i := 0) 1 (xkc_258 rfl) (fo_lan kF0) (xgf_ok (b := 0) (by decide) (xkc_258 rfl) rfl (xil_ok (i := 1) 1 (xkc_258 rfl) (fo_lin kF1) (xcallV_ok (xkc_258 rfl) rfl (Nat.le_of_ble_eq_true rfl) (xso_230 (xhe_G94_G8 hE) hV) (xis_ok (i := 2) 1 (xkc_258 rfl) (fo_sin kF2) (xal_ok (i := 0) 1 (xkc_258 rfl) (fo_lan kF0) (xpush0_ok (xkc_258 rfl) (fun _ => rfl) (xci_ok (by decide +kernel)) (xpf_ok xsn_G94 hE (by decide) (xkc_258 rfl) rfl rfl xz0 (xal_ok (i := 0) 1 (xkc_258 rfl) (fo_lan kF0) (xil_ok (i := 2) 1 (xkc_258 rfl) (fo_lin kF2) (xcallS_ok (xkc_258 rfl) rfl (Nat.le_of_ble_eq_true rfl) xso_303 (xalu_ok (xkc_258 rfl) xa_i2l_ok (xcallV_ok (xkc_258 rfl) rfl (Nat.le_of_ble_eq_true rfl) (xso_186 (xhe_G94_G58 hE)) (xal_ok (i := 0) 1 (xkc_258 rfl) (fo_lan kF0) (xal_ok (i := 0) 1 (xkc_258 rfl) (fo_lan kF0) (xal_ok (i := 0) 1 (xkc_258 rfl) (fo_lan kF0) (xgf_ok (b := 0) (by decide) (xkc_258 rfl) rfl (xpush0_ok (xkc_258 rfl) (fun _ => rfl) (xcl_ok (by decide +kernel)) (xil_ok (i := 1) 1 (xkc_258 rfl) (fo_lin kF1) (xalu_ok (xkc_258 rfl) (xaLs_ok (F := fun x y => x <<< (y.toInt64 &&& 63)) (fun _ _ _ => rfl)) (xcallV_ok (xkc_258 rfl) rfl (Nat.le_of_ble_eq_true rfl) xso_228 (xalu_ok (xkc_258 rfl) xa_i2l_ok (xcallV_ok (xkc_258 rfl) rfl (Nat.le_of_ble_eq_true rfl) (xso_186 (xhe_G94_G58 hE)) (xil_ok (i := 2) 1 (xkc_258 rfl) (fo_lin kF2) (xri_ok (xkc_258 rfl) rfl)))))))))))))))))))))))))
noncomputable def xt_258 : List (Nat × xb) := [(0, xb_258_0), (15, xb_258_15)]
theorem xq_258 {E : pm_H → Prop} (hE : xHE xX xgA_G94 xgF_G94 E) (hV : ∀ p, E p → xV p) : ∀ q ∈ xt_258, xok xX kK kK E 13 258 q.1 q.2 := List.forall_mem_cons.mpr ⟨xp_258_0 hE hV, List.forall_mem_cons.mpr ⟨xp_258_15 hE hV, fun _ h => absurd h List.not_mem_nil⟩⟩
def xnd_258_0_0 : List (xnd × List Nat) := [((0, [some (.inr (.inr (.inl 0))), some (.inl ((Int.negSucc 2147483647), (Int.ofNat 2147483647))), none], [], 0, ((Int.ofNat 0), [])), [])]
def xns_258_0 : xns := [xnd_258_0_0]
def xsp_258_0 : Nat → Option (Bool × Nat) := fun _ => none
theorem xck_258_0_0 : xnd_258_0_0.all (xnchk xX xsp_258_0 xt_258 [] xns_258_0 (some (.inl ((Int.negSucc 0), (Int.ofNat 255)))) [] 600) = true := by decide +kernel
theorem xn_258_0 {E : pm_H → Prop} (hE : xHE xX xgA_G94 xgF_G94 E) (hV : ∀ p, E p → xV p) : xcon xX kK E 14 258 [.inr (.inr (.inl 0)), .inl ((Int.negSucc 2147483647), (Int.ofNat 2147483647))] [] 0 (some (.inl ((Int.negSucc 0), (Int.ofNat 255)))) [] := xnodes_ok (nl := 3) (f := 600) (sp := xsp_258_0) (T := xt_258) (cps := []) (ns := xns_258_0) rfl rfl (xq_258 hE hV) rfl (List.forall_mem_cons.mpr ⟨List.all_eq_true.mp xck_258_0_0, fun _ h => absurd h List.not_mem_nil⟩)
/-! 259 BVModel.free (P) -/
theorem xkc_259 {pc : Nat} {e : Nat × Instr × Nat} (h : pm_tl kc_259 pc = some e) : pm_code kK 259 pc = some e := h
noncomputable def xb_259_0 : xb := xpush (xcl (Int.ofNat 0)) (xls 1 (xpush (xci (Int.ofNat 0)) (xis 3 (xj 4))))
theorem xp_259_0 {E : pm_H → Prop} : xok xX kK kK E 1 259 0 xb_259_0 := xpush0_ok (xkc_259 rfl) (fun _ => rfl) (xcl_ok (by decide +kernel)) (xls_ok (i := 1) 1 (xkc_259 rfl) (fo_sln kF1) (xpush0_ok (xkc_259 rfl) (fun _ => rfl) (xci_ok (by decide +kernel)) (xis_ok (i := 3) 1 (xkc_259 rfl) (fo_sin kF3) (xj_ok))))
noncomputable def xb_259_4 : xb := xil 3 (xal 0 (xcallV xX 13 0 xs_188 (xif2 xr_ge xr_lt 37 (xll 1 (xal 0 (xgf xX 13 9 (xil 3 (xbal xX (xif1 xr_eq xr_ne 26 (xpush (xcl (Int.ofNat 0)) (xj 29)))))))))))
theorem xp_259_4 {E : pm_H → Prop} : xok xX kK kK E 1 259 4 xb_259_4 := xil_ok (i := 3) 1 (xkc_259 rfl) (fo_lin kF3) (xal_ok (i := 0) 1 (xkc_259 rfl) (fo_lan kF0) (xcallV_ok (xkc_259 rfl) rfl (Nat.le_of_ble_eq_true rfl) xso_188 (xif2_ok (aux := 37) (xkc_259 rfl) xr_ge_ok xr_lt_ok fo_ic_ge xb_ge (xll_ok (i := 1) 1 (xkc_259 rfl) (fo_lln kF1) (xal_ok (i := 0) 1 (xkc_259 rfl) (fo_lan kF0) (xgf_ok (b := 0) (by decide) (xkc_259 rfl) rfl (xil_ok (i := 3) 1 (xkc_259 rfl) (fo_lin kF3) (xbal_ok (xkc_259 rfl) (xif1_ok (pb := fun x => fo_eq x 0) (aux := 26) (xkc_259 rfl) xr_eq_ok xr_ne_ok fo_iz_eq xz_eq xy_eq (xpush0_ok (xkc_259 rfl) (fun _ => rfl) (xcl_ok (by decide +kernel)) (xgoto_ok (xkc_259 rfl))))))))))))
noncomputable def xb_259_26 : xb := xpush (xcl (Int.ofNat 1)) (xil 3 (xalu xaLs (xj 29)))
theorem xp_259_26 {E : pm_H → Prop} : xok xX kK kK E 1 259 26 xb_259_26 := xpush0_ok (xkc_259 rfl) (fun _ => rfl) (xcl_ok (by decide +kernel)) (xil_ok (i := 3) 1 (xkc_259 rfl) (fo_lin kF3) (xalu_ok (xkc_259 rfl) (xaLs_ok (F := fun x y => x <<< (y.toInt64 &&& 63)) (fun _ _ _ => rfl)) (xj_ok)))
noncomputable def xb_259_29 : xb := xalu xaL2 (xls 1 (xinc 3 (Int.ofNat 1) (xj 4)))
theorem xp_259_29 {E : pm_H → Prop} : xok xX kK kK E 1 259 29 xb_259_29 := xalu_ok (xkc_259 rfl) (xaL2_ok (F := fun x y => x ||| y) (fun _ _ _ => rfl)) (xls_ok (i := 1) 1 (xkc_259 rfl) (fo_sln kF1) (xinc_ok (xkc_259 rfl) (by decide +kernel) (xgoto_ok (xkc_259 rfl))))
noncomputable def xb_259_37 : xb := xll 1 (xrl)
theorem xp_259_37 {E : pm_H → Prop} : xok xX kK kK E 1 259 37 xb_259_37 := xll_ok (i := 1) 1 (xkc_259 rfl) (fo_lln kF1) (xrl_ok (xkc_259 rfl) rfl)
noncomputable def xt_259 : List (Nat × xb) := [(0, xb_259_0), (4, xb_259_4), (26, xb_259_26), (29, xb_259_29), (37, xb_259_37)]
theorem xq_259 {E : pm_H → Prop} : ∀ q ∈ xt_259, xok xX kK kK E 1 259 q.1 q.2 := List.forall_mem_cons.mpr ⟨xp_259_0, List.forall_mem_cons.mpr ⟨xp_259_4, List.forall_mem_cons.mpr ⟨xp_259_26, List.forall_mem_cons.mpr ⟨xp_259_29, List.forall_mem_cons.mpr ⟨xp_259_37, fun _ h => absurd h List.not_mem_nil⟩⟩⟩⟩⟩
def xnd_259_0_0 : List (xnd × List Nat) := [((0, [some (.inr (.inr (.inl 0))), none, none, none], [], 0, ((Int.ofNat 50), [])), [1]),
  ((4, [some (.inr (.inr (.inl 0))), some (.inr (.inl ((Int.negSucc 9223372036854775807), (Int.ofNat 9223372036854775807)))), none, some (.inl ((Int.ofNat 0), (Int.ofNat 49)))], [], 0, ((Int.ofNat 49), [((Int.negSucc 0), false, 3)])), [1])]
def xns_259_0 : xns := [xnd_259_0_0]
def xsp_259_0 : Nat → Option (Bool × Nat) := fun _ => none
theorem xck_259_0_0 : xnd_259_0_0.all (xnchk xX xsp_259_0 xt_259 [4] xns_259_0 (some (.inr (.inl ((Int.negSucc 9223372036854775807), (Int.ofNat 9223372036854775807))))) [] 600) = true := by decide +kernel
theorem xn_259_0 {E : pm_H → Prop} : xcon xX kK E 2 259 [.inr (.inr (.inl 0))] [] 0 (some (.inr (.inl ((Int.negSucc 9223372036854775807), (Int.ofNat 9223372036854775807))))) [] := xnodes_ok (nl := 4) (f := 600) (sp := xsp_259_0) (T := xt_259) (cps := [4]) (ns := xns_259_0) rfl rfl (xq_259) rfl (List.forall_mem_cons.mpr ⟨List.all_eq_true.mp xck_259_0_0, fun _ h => absurd h List.not_mem_nil⟩)
noncomputable def xs_259 : xc := xalt xX [.inr (.inr (.inl 0))] (xctrP xX [.inr (.inr (.inl 0))] [] (some (.inr (.inl ((Int.negSucc 9223372036854775807), (Int.ofNat 9223372036854775807)))))) (xnone)
theorem xso_259 {E : pm_H → Prop} : xcok xX kK E 2 259 xs_259 := xalt_ok (xctrP_ok rfl rfl rfl (fun E2 => xn_259_0 (E := E2))) (xnone_ok)
/-! 260 BVModel.hidden (G94V) -/
theorem xkc_260 {pc : Nat} {e : Nat × Instr × Nat} (h : pm_tl kc_260 pc = some e) : pm_code kK 260 pc = some e := h
noncomputable def xb_260_0 : xb := xal 0 (xpush (xci (Int.ofNat 0)) (xpf xX xgF_G94 13 0 0 (xal 0 (xcallV xX 13 0 xs_259 (xal 0 (xal 0 (xgf xX 13 11 (xcallV xX 13 1 xs_227 (xpush (xcl (Int.negSucc 0)) (xalu xaL2 (xalu xaL2 (xls 1 (xal 0 (xpush (xci (Int.ofNat 0)) (xpf xX xgF_G94 13 1 0 (xal 0 (xll 1 (xcallS 1 xs_305 (xalu xa_i2l (xcallV xX 13 1 xs_186 (xal 0 (xal 0 (xal 0 (xgf xX 13 11 (xll 1 (xcallV xX 13 2 xs_228 (xalu xa_i2l (xcallV xX 13 1 xs_186 (xll 1 (xrl))))))))))))))))))))))))))))))
theorem xp_260_0 {E : pm_H → Prop} (hE : xHE xX xgA_G94 xgF_G94 E) (hV : ∀ p, E p → xV p) : xok xX kK kK E 13 260 0 xb_260_0 := xal_ok (i := 0) 1 (xkc_260 rfl) (fo_lan kF0) (xpush0_ok (xkc_260 rfl) (fun _ => rfl) (xci_ok (by decide +kernel)) (xpf_ok xsn_G94 hE (by decide) (xkc_260 rfl) rfl rfl xz0 (xal_ok (i := 0) 1 (xkc_260 rfl) (fo_lan kF0) (xcallV_ok (xkc_260 rfl) rfl (Nat.le_of_ble_eq_true rfl) xso_259 (xal_ok (i := 0) 1 (xkc_260 rfl) (fo_lan kF0) (xal_ok (i := 0) 1 (xkc_260 rfl) (fo_lan kF0) (xgf_ok (b := 0) (by decide) (xkc_260 rfl) rfl (xcallV_ok (xkc_260 rfl) rfl (Nat.le_of_ble_eq_true rfl) (xso_227 (xhe_G94_G8 hE) hV) (xpush1_ok 3 (xkc_260 rfl) rfl (xcl_ok (by decide +kernel)) (xalu_ok (xkc_260 rfl) (xaL2_ok (F := fun x y => x ^^^ y) (fun _ _ _ => rfl)) (xalu_ok (xkc_260 rfl) (xaL2_ok (F := fun x y => x &&& y) (fun _ _ _ => rfl)) (xls_ok (i := 1) 1 (xkc_260 rfl) (fo_sln kF1) (xal_ok (i := 0) 1 (xkc_260 rfl) (fo_lan kF0) (xpush0_ok (xkc_260 rfl) (fun _ => rfl) (xci_ok (by decide +kernel)) (xpf_ok xsn_G94 hE (by decide) (xkc_260 rfl) rfl rfl xz0 (xal_ok (i := 0) 1 (xkc_260 rfl) (fo_lan kF0) (xll_ok (i := 1) 1 (xkc_260 rfl) (fo_lln kF1) (xcallS_ok (xkc_260 rfl) rfl (Nat.le_of_ble_eq_true rfl) xso_305 (xalu_ok (xkc_260 rfl) xa_i2l_ok (xcallV_ok (xkc_260 rfl) rfl (Nat.le_of_ble_eq_true rfl) (xso_186 (xhe_G94_G58 hE)) (xal_ok (i := 0) 1 (xkc_260 rfl) (fo_lan kF0) (xal_ok (i := 0) 1 (xkc_260 rfl) (fo_lan kF0) (xal_ok (i := 0) 1 (xkc_260 rfl) (fo_lan kF0) (xgf_ok (b := 0) (by decide) (xkc_260 rfl) rfl (xll_ok (i := 1) 1 (xkc_260 rfl) (fo_lln kF1) (xcallV_ok (xkc_260 rfl) rfl (Nat.le_of_ble_eq_true rfl) xso_228 (xalu_ok (xkc_260 rfl) xa_i2l_ok (xcallV_ok (xkc_260 rfl) rfl (Nat.le_of_ble_eq_true rfl) (xso_186 (xhe_G94_G58 hE)) (xll_ok (i := 1) 1 (xkc_260 rfl) (fo_lln kF1) (xrl_ok (xkc_260 rfl) rfl))))))))))))))))))))))))))))))
noncomputable def xt_260 : List (Nat × xb) := [(0, xb_260_0)]
theorem xq_260 {E : pm_H → Prop} (hE : xHE xX xgA_G94 xgF_G94 E) (hV : ∀ p, E p → xV p) : ∀ q ∈ xt_260, xok xX kK kK E 13 260 q.1 q.2 := List.forall_mem_cons.mpr ⟨xp_260_0 hE hV, fun _ h => absurd h List.not_mem_nil⟩
def xnd_260_0_0 : List (xnd × List Nat) := [((0, [some (.inr (.inr (.inl 0))), none, none], [], 0, ((Int.ofNat 0), [])), [])]
def xns_260_0 : xns := [xnd_260_0_0]
def xsp_260_0 : Nat → Option (Bool × Nat) := fun _ => none
theorem xck_260_0_0 : xnd_260_0_0.all (xnchk xX xsp_260_0 xt_260 [] xns_260_0 (some (.inr (.inl ((Int.negSucc 9223372036854775807), (Int.ofNat 9223372036854775807))))) [] 600) = true := by decide +kernel
theorem xn_260_0 {E : pm_H → Prop} (hE : xHE xX xgA_G94 xgF_G94 E) (hV : ∀ p, E p → xV p) : xcon xX kK E 14 260 [.inr (.inr (.inl 0))] [] 0 (some (.inr (.inl ((Int.negSucc 9223372036854775807), (Int.ofNat 9223372036854775807))))) [] := xnodes_ok (nl := 3) (f := 600) (sp := xsp_260_0) (T := xt_260) (cps := []) (ns := xns_260_0) rfl rfl (xq_260 hE hV) rfl (List.forall_mem_cons.mpr ⟨List.all_eq_true.mp xck_260_0_0, fun _ h => absurd h List.not_mem_nil⟩)
/-! 261 BVModel.pairs (G94NV) -/
theorem xkc_261 {pc : Nat} {e : Nat × Instr × Nat} (h : pm_tl kc_261 pc = some e) : pm_code kK 261 pc = some e := h
noncomputable def xb_261_0 : xb := xspb xX 696325 [((Int.ofNat 0), (Int.ofNat 0)), ((Int.ofNat 1), (Int.ofNat 1)), ((Int.ofNat 2), (Int.ofNat 2)), ((Int.ofNat 3), (Int.ofNat 3)), ((Int.ofNat 4), (Int.ofNat 4)), ((Int.ofNat 5), (Int.ofNat 5)), ((Int.ofNat 6), (Int.ofNat 6)), ((Int.ofNat 7), (Int.ofNat 7)), ((Int.ofNat 8), (Int.ofNat 8))] (xspb xX 696324 [((Int.ofNat 3), (Int.ofNat 6)), ((Int.ofNat 7), (Int.ofNat 7))] (xal 0 (xpush (xci (Int.ofNat 0)) (xpf xX xgF_G94 13 0 0 (xpush (xci (Int.ofNat 0)) (xis 1 (xpush (xci (Int.ofNat 0)) (xis 2 (xpush (xci (Int.negSucc 0)) (xis 3 (xpush (xci (Int.negSucc 0)) (xis 4 (xpush (xci (Int.ofNat 0)) (xis 5 (xj 17)))))))))))))))
theorem xp_261_0 {E : pm_H → Prop} (hE : xHE xX xgA_G94 xgF_G94 E) (hV : ∀ p, E p → xV p) (hN : ∀ p, E p → xPG p) : xok xX kK kK E 20 261 0 xb_261_0 := xspb_ok (xspb_ok (xal_ok (i := 0) 1 (xkc_261 rfl) (fo_lan kF0) (xpush0_ok (xkc_261 rfl) (fun _ => rfl) (xci_ok (by decide +kernel)) (xpf_ok xsn_G94 hE (by decide) (xkc_261 rfl) rfl rfl xz0 (xpush0_ok (xkc_261 rfl) (fun _ => rfl) (xci_ok (by decide +kernel)) (xis_ok (i := 1) 1 (xkc_261 rfl) (fo_sin kF1) (xpush0_ok (xkc_261 rfl) (fun _ => rfl) (xci_ok (by decide +kernel)) (xis_ok (i := 2) 1 (xkc_261 rfl) (fo_sin kF2) (xpush0_ok (xkc_261 rfl) (fun _ => rfl) (xci_ok (by decide +kernel)) (xis_ok (i := 3) 1 (xkc_261 rfl) (fo_sin kF3) (xpush0_ok (xkc_261 rfl) (fun _ => rfl) (xci_ok (by decide +kernel)) (xis_ok (i := 4) 2 (xkc_261 rfl) (fo_si 4) (xpush0_ok (xkc_261 rfl) (fun _ => rfl) (xci_ok (by decide +kernel)) (xis_ok (i := 5) 2 (xkc_261 rfl) (fo_si 5) (xj_ok)))))))))))))))
noncomputable def xb_261_17 : xb := xil 5 (xal 0 (xgf xX 13 5 (xif2 xr_ge xr_lt 113 (xil 5 (xpush (xci (Int.ofNat 1)) (xalu xa_add (xis 6 (xj 32))))))))
theorem xp_261_17 {E : pm_H → Prop} (hE : xHE xX xgA_G94 xgF_G94 E) (hV : ∀ p, E p → xV p) (hN : ∀ p, E p → xPG p) : xok xX kK kK E 20 261 17 xb_261_17 := xil_ok (i := 5) 2 (xkc_261 rfl) (fo_li 5) (xal_ok (i := 0) 1 (xkc_261 rfl) (fo_lan kF0) (xgf_ok (b := 0) (by decide) (xkc_261 rfl) rfl (xif2_ok (aux := 113) (xkc_261 rfl) xr_ge_ok xr_lt_ok fo_ic_ge xb_ge (xil_ok (i := 5) 2 (xkc_261 rfl) (fo_li 5) (xpush0_ok (xkc_261 rfl) (fun _ => rfl) (xci_ok (by decide +kernel)) (xalu_ok (xkc_261 rfl) xa_add_ok (xis_ok (i := 6) 2 (xkc_261 rfl) (fo_si 6) (xj_ok))))))))
noncomputable def xb_261_32 : xb := xil 6 (xal 0 (xgf xX 13 5 (xif2 xr_ge xr_lt 107 (xal 0 (xal 0 (xgf xX 13 11 (xil 5 (xil 6 (xcallV xX 13 3 xs_231 (xif1 xr_eq xr_ne 101 (xil 1 (xif1 xr_ne xr_eq 65 (xil 5 (xj 66))))))))))))))
theorem xp_261_32 {E : pm_H → Prop} (hE : xHE xX xgA_G94 xgF_G94 E) (hV : ∀ p, E p → xV p) (hN : ∀ p, E p → xPG p) : xok xX kK kK E 20 261 32 xb_261_32 := xil_ok (i := 6) 2 (xkc_261 rfl) (fo_li 6) (xal_ok (i := 0) 1 (xkc_261 rfl) (fo_lan kF0) (xgf_ok (b := 0) (by decide) (xkc_261 rfl) rfl (xif2_ok (aux := 107) (xkc_261 rfl) xr_ge_ok xr_lt_ok fo_ic_ge xb_ge (xal_ok (i := 0) 1 (xkc_261 rfl) (fo_lan kF0) (xal_ok (i := 0) 1 (xkc_261 rfl) (fo_lan kF0) (xgf_ok (b := 0) (by decide) (xkc_261 rfl) rfl (xil_ok (i := 5) 2 (xkc_261 rfl) (fo_li 5) (xil_ok (i := 6) 2 (xkc_261 rfl) (fo_li 6) (xcallV_ok (xkc_261 rfl) rfl (Nat.le_of_ble_eq_true rfl) (xso_231 (xhe_G94_G8 hE) hV hN) (xif1_ok (pb := fun x => fo_eq x 0) (aux := 101) (xkc_261 rfl) xr_eq_ok xr_ne_ok fo_iz_eq xz_eq xy_eq (xil_ok (i := 1) 1 (xkc_261 rfl) (fo_lin kF1) (xif1_ok (pb := fun x => fo_ne x 0) (aux := 65) (xkc_261 rfl) xr_ne_ok xr_eq_ok fo_iz_ne xz_ne xy_ne (xil_ok (i := 5) 2 (xkc_261 rfl) (fo_li 5) (xgoto_ok (xkc_261 rfl)))))))))))))))
noncomputable def xb_261_65 : xb := xil 3 (xj 66)
theorem xp_261_65 {E : pm_H → Prop} (hE : xHE xX xgA_G94 xgF_G94 E) (hV : ∀ p, E p → xV p) (hN : ∀ p, E p → xPG p) : xok xX kK kK E 20 261 65 xb_261_65 := xil_ok (i := 3) 1 (xkc_261 rfl) (fo_lin kF3) (xj_ok)
noncomputable def xb_261_66 : xb := xis 3 (xil 1 (xif1 xr_ne xr_eq 76 (xil 6 (xj 78))))
theorem xp_261_66 {E : pm_H → Prop} (hE : xHE xX xgA_G94 xgF_G94 E) (hV : ∀ p, E p → xV p) (hN : ∀ p, E p → xPG p) : xok xX kK kK E 20 261 66 xb_261_66 := xis_ok (i := 3) 1 (xkc_261 rfl) (fo_sin kF3) (xil_ok (i := 1) 1 (xkc_261 rfl) (fo_lin kF1) (xif1_ok (pb := fun x => fo_ne x 0) (aux := 76) (xkc_261 rfl) xr_ne_ok xr_eq_ok fo_iz_ne xz_ne xy_ne (xil_ok (i := 6) 2 (xkc_261 rfl) (fo_li 6) (xgoto_ok (xkc_261 rfl)))))
noncomputable def xb_261_76 : xb := xil 4 (xj 78)
theorem xp_261_76 {E : pm_H → Prop} (hE : xHE xX xgA_G94 xgF_G94 E) (hV : ∀ p, E p → xV p) (hN : ∀ p, E p → xPG p) : xok xX kK kK E 20 261 76 xb_261_76 := xil_ok (i := 4) 2 (xkc_261 rfl) (fo_li 4) (xj_ok)
noncomputable def xb_261_78 : xb := xis 4 (xinc 1 (Int.ofNat 1) (xil 2 (xal 0 (xal 0 (xgf xX 13 11 (xil 5 (xil 6 (xcallV xX 13 3 xs_232 (xcallS 1 xs_184 (xalu xa_add (xis 2 (xj 101))))))))))))
theorem xp_261_78 {E : pm_H → Prop} (hE : xHE xX xgA_G94 xgF_G94 E) (hV : ∀ p, E p → xV p) (hN : ∀ p, E p → xPG p) : xok xX kK kK E 20 261 78 xb_261_78 := xis_ok (i := 4) 2 (xkc_261 rfl) (fo_si 4) (xinc_ok (xkc_261 rfl) (by decide +kernel) (xil_ok (i := 2) 1 (xkc_261 rfl) (fo_lin kF2) (xal_ok (i := 0) 1 (xkc_261 rfl) (fo_lan kF0) (xal_ok (i := 0) 1 (xkc_261 rfl) (fo_lan kF0) (xgf_ok (b := 0) (by decide) (xkc_261 rfl) rfl (xil_ok (i := 5) 2 (xkc_261 rfl) (fo_li 5) (xil_ok (i := 6) 2 (xkc_261 rfl) (fo_li 6) (xcallV_ok (xkc_261 rfl) rfl (Nat.le_of_ble_eq_true rfl) (xso_232 (xhe_G94_G8 hE) hV) (xcallS_ok (xkc_261 rfl) rfl (Nat.le_of_ble_eq_true rfl) xso_184 (xalu_ok (xkc_261 rfl) xa_add_ok (xis_ok (i := 2) 1 (xkc_261 rfl) (fo_sin kF2) (xj_ok))))))))))))
noncomputable def xb_261_101 : xb := xinc 6 (Int.ofNat 1) (xj 32)
theorem xp_261_101 {E : pm_H → Prop} (hE : xHE xX xgA_G94 xgF_G94 E) (hV : ∀ p, E p → xV p) (hN : ∀ p, E p → xPG p) : xok xX kK kK E 20 261 101 xb_261_101 := xinc_ok (xkc_261 rfl) (by decide +kernel) (xgoto_ok (xkc_261 rfl))
noncomputable def xb_261_107 : xb := xinc 5 (Int.ofNat 1) (xj 17)
theorem xp_261_107 {E : pm_H → Prop} (hE : xHE xX xgA_G94 xgF_G94 E) (hV : ∀ p, E p → xV p) (hN : ∀ p, E p → xPG p) : xok xX kK kK E 20 261 107 xb_261_107 := xinc_ok (xkc_261 rfl) (by decide +kernel) (xgoto_ok (xkc_261 rfl))
noncomputable def xb_261_113 : xb := xal 0 (xpush (xci (Int.ofNat 0)) (xpf xX xgF_G94 13 1 0 (xal 0 (xil 2 (xalu xa_i2l (xcallV xX 13 1 xs_186 (xil 1 (xif1 xr_le xr_gt 141 (xal 0 (xil 3 (xalu xa_i2l (xcallV xX 13 1 xs_186 (xal 0 (xil 4 (xalu xa_i2l (xcallV xX 13 1 xs_186 (xj 141)))))))))))))))))
theorem xp_261_113 {E : pm_H → Prop} (hE : xHE xX xgA_G94 xgF_G94 E) (hV : ∀ p, E p → xV p) (hN : ∀ p, E p → xPG p) : xok xX kK kK E 20 261 113 xb_261_113 := xal_ok (i := 0) 1 (xkc_261 rfl) (fo_lan kF0) (xpush0_ok (xkc_261 rfl) (fun _ => rfl) (xci_ok (by decide +kernel)) (xpf_ok xsn_G94 hE (by decide) (xkc_261 rfl) rfl rfl xz0 (xal_ok (i := 0) 1 (xkc_261 rfl) (fo_lan kF0) (xil_ok (i := 2) 1 (xkc_261 rfl) (fo_lin kF2) (xalu_ok (xkc_261 rfl) xa_i2l_ok (xcallV_ok (xkc_261 rfl) rfl (Nat.le_of_ble_eq_true rfl) (xso_186 (xhe_G94_G58 hE)) (xil_ok (i := 1) 1 (xkc_261 rfl) (fo_lin kF1) (xif1_ok (pb := fun x => fo_le x 0) (aux := 141) (xkc_261 rfl) xr_le_ok xr_gt_ok fo_iz_le xz_le xy_le (xal_ok (i := 0) 1 (xkc_261 rfl) (fo_lan kF0) (xil_ok (i := 3) 1 (xkc_261 rfl) (fo_lin kF3) (xalu_ok (xkc_261 rfl) xa_i2l_ok (xcallV_ok (xkc_261 rfl) rfl (Nat.le_of_ble_eq_true rfl) (xso_186 (xhe_G94_G58 hE)) (xal_ok (i := 0) 1 (xkc_261 rfl) (fo_lan kF0) (xil_ok (i := 4) 2 (xkc_261 rfl) (fo_li 4) (xalu_ok (xkc_261 rfl) xa_i2l_ok (xcallV_ok (xkc_261 rfl) rfl (Nat.le_of_ble_eq_true rfl) (xso_186 (xhe_G94_G58 hE)) (xj_ok)))))))))))))))))
noncomputable def xb_261_141 : xb := xil 1 (xri)
theorem xp_261_141 {E : pm_H → Prop} (hE : xHE xX xgA_G94 xgF_G94 E) (hV : ∀ p, E p → xV p) (hN : ∀ p, E p → xPG p) : xok xX kK kK E 20 261 141 xb_261_141 := xil_ok (i := 1) 1 (xkc_261 rfl) (fo_lin kF1) (xri_ok (xkc_261 rfl) rfl)
noncomputable def xt_261 : List (Nat × xb) := [(0, xb_261_0), (17, xb_261_17), (32, xb_261_32), (65, xb_261_65), (66, xb_261_66), (76, xb_261_76), (78, xb_261_78), (101, xb_261_101), (107, xb_261_107), (113, xb_261_113), (141, xb_261_141)]
theorem xq_261 {E : pm_H → Prop} (hE : xHE xX xgA_G94 xgF_G94 E) (hV : ∀ p, E p → xV p) (hN : ∀ p, E p → xPG p) : ∀ q ∈ xt_261, xok xX kK kK E 20 261 q.1 q.2 := List.forall_mem_cons.mpr ⟨xp_261_0 hE hV hN, List.forall_mem_cons.mpr ⟨xp_261_17 hE hV hN, List.forall_mem_cons.mpr ⟨xp_261_32 hE hV hN, List.forall_mem_cons.mpr ⟨xp_261_65 hE hV hN, List.forall_mem_cons.mpr ⟨xp_261_66 hE hV hN, List.forall_mem_cons.mpr ⟨xp_261_76 hE hV hN, List.forall_mem_cons.mpr ⟨xp_261_78 hE hV hN, List.forall_mem_cons.mpr ⟨xp_261_101 hE hV hN, List.forall_mem_cons.mpr ⟨xp_261_107 hE hV hN, List.forall_mem_cons.mpr ⟨xp_261_113 hE hV hN, List.forall_mem_cons.mpr ⟨xp_261_141 hE hV hN, fun _ h => absurd h List.not_mem_nil⟩⟩⟩⟩⟩⟩⟩⟩⟩⟩⟩
def xnd_261_0_0 : List (xnd × List Nat) := [((0, [some (.inr (.inr (.inl 0))), none, none, none, none, none, none], [], 0, ((Int.ofNat 81), [])), [1, 2, 3, 4, 5, 6, 7, 8, 9, 10, 11, 12, 13, 14, 15, 16, 17, 18]),
  ((17, [some (.inr (.inr (.inl 0))), some (.inl ((Int.negSucc 2147483647), (Int.ofNat 2147483647))), some (.inl ((Int.negSucc 2147483647), (Int.ofNat 2147483647))), some (.inl ((Int.negSucc 0), (Int.ofNat 7))), some (.inl ((Int.negSucc 0), (Int.ofNat 7))), some (.inl ((Int.ofNat 0), (Int.ofNat 8))), none], [(696320, .inl ((Int.ofNat 0), (Int.ofNat 0))), (696324, .inl ((Int.ofNat 7), (Int.ofNat 7))), (696325, .inl ((Int.ofNat 8), (Int.ofNat 8)))], 0, ((Int.ofNat 80), [((Int.negSucc 8), false, 5)])), [19]),
  ((17, [some (.inr (.inr (.inl 0))), some (.inl ((Int.negSucc 2147483647), (Int.ofNat 2147483647))), some (.inl ((Int.negSucc 2147483647), (Int.ofNat 2147483647))), some (.inl ((Int.negSucc 0), (Int.ofNat 7))), some (.inl ((Int.negSucc 0), (Int.ofNat 7))), some (.inl ((Int.ofNat 0), (Int.ofNat 8))), none], [(696320, .inl ((Int.ofNat 0), (Int.ofNat 0))), (696324, .inl ((Int.ofNat 3), (Int.ofNat 6))), (696325, .inl ((Int.ofNat 8), (Int.ofNat 8)))], 0, ((Int.ofNat 80), [((Int.negSucc 8), false, 5)])), [20]),
  ((17, [some (.inr (.inr (.inl 0))), some (.inl ((Int.negSucc 2147483647), (Int.ofNat 2147483647))), some (.inl ((Int.negSucc 2147483647), (Int.ofNat 2147483647))), some (.inl ((Int.negSucc 0), (Int.ofNat 6))), some (.inl ((Int.negSucc 0), (Int.ofNat 6))), some (.inl ((Int.ofNat 0), (Int.ofNat 7))), none], [(696320, .inl ((Int.ofNat 0), (Int.ofNat 0))), (696324, .inl ((Int.ofNat 7), (Int.ofNat 7))), (696325, .inl ((Int.ofNat 7), (Int.ofNat 7)))], 0, ((Int.ofNat 80), [((Int.negSucc 8), false, 5)])), [21]),
  ((17, [some (.inr (.inr (.inl 0))), some (.inl ((Int.negSucc 2147483647), (Int.ofNat 2147483647))), some (.inl ((Int.negSucc 2147483647), (Int.ofNat 2147483647))), some (.inl ((Int.negSucc 0), (Int.ofNat 6))), some (.inl ((Int.negSucc 0), (Int.ofNat 6))), some (.inl ((Int.ofNat 0), (Int.ofNat 7))), none], [(696320, .inl ((Int.ofNat 0), (Int.ofNat 0))), (696324, .inl ((Int.ofNat 3), (Int.ofNat 6))), (696325, .inl ((Int.ofNat 7), (Int.ofNat 7)))], 0, ((Int.ofNat 80), [((Int.negSucc 8), false, 5)])), [22]),
  ((17, [some (.inr (.inr (.inl 0))), some (.inl ((Int.negSucc 2147483647), (Int.ofNat 2147483647))), some (.inl ((Int.negSucc 2147483647), (Int.ofNat 2147483647))), some (.inl ((Int.negSucc 0), (Int.ofNat 5))), some (.inl ((Int.negSucc 0), (Int.ofNat 5))), some (.inl ((Int.ofNat 0), (Int.ofNat 6))), none], [(696320, .inl ((Int.ofNat 0), (Int.ofNat 0))), (696324, .inl ((Int.ofNat 7), (Int.ofNat 7))), (696325, .inl ((Int.ofNat 6), (Int.ofNat 6)))], 0, ((Int.ofNat 80), [((Int.negSucc 8), false, 5)])), [23]),
  ((17, [some (.inr (.inr (.inl 0))), some (.inl ((Int.negSucc 2147483647), (Int.ofNat 2147483647))), some (.inl ((Int.negSucc 2147483647), (Int.ofNat 2147483647))), some (.inl ((Int.negSucc 0), (Int.ofNat 5))), some (.inl ((Int.negSucc 0), (Int.ofNat 5))), some (.inl ((Int.ofNat 0), (Int.ofNat 6))), none], [(696320, .inl ((Int.ofNat 0), (Int.ofNat 0))), (696324, .inl ((Int.ofNat 3), (Int.ofNat 6))), (696325, .inl ((Int.ofNat 6), (Int.ofNat 6)))], 0, ((Int.ofNat 80), [((Int.negSucc 8), false, 5)])), [24]),
  ((17, [some (.inr (.inr (.inl 0))), some (.inl ((Int.negSucc 2147483647), (Int.ofNat 2147483647))), some (.inl ((Int.negSucc 2147483647), (Int.ofNat 2147483647))), some (.inl ((Int.negSucc 0), (Int.ofNat 4))), some (.inl ((Int.negSucc 0), (Int.ofNat 4))), some (.inl ((Int.ofNat 0), (Int.ofNat 5))), none], [(696320, .inl ((Int.ofNat 0), (Int.ofNat 0))), (696324, .inl ((Int.ofNat 7), (Int.ofNat 7))), (696325, .inl ((Int.ofNat 5), (Int.ofNat 5)))], 0, ((Int.ofNat 80), [((Int.negSucc 8), false, 5)])), [25]),
  ((17, [some (.inr (.inr (.inl 0))), some (.inl ((Int.negSucc 2147483647), (Int.ofNat 2147483647))), some (.inl ((Int.negSucc 2147483647), (Int.ofNat 2147483647))), some (.inl ((Int.negSucc 0), (Int.ofNat 4))), some (.inl ((Int.negSucc 0), (Int.ofNat 4))), some (.inl ((Int.ofNat 0), (Int.ofNat 5))), none], [(696320, .inl ((Int.ofNat 0), (Int.ofNat 0))), (696324, .inl ((Int.ofNat 3), (Int.ofNat 6))), (696325, .inl ((Int.ofNat 5), (Int.ofNat 5)))], 0, ((Int.ofNat 80), [((Int.negSucc 8), false, 5)])), [26]),
  ((17, [some (.inr (.inr (.inl 0))), some (.inl ((Int.negSucc 2147483647), (Int.ofNat 2147483647))), some (.inl ((Int.negSucc 2147483647), (Int.ofNat 2147483647))), some (.inl ((Int.negSucc 0), (Int.ofNat 3))), some (.inl ((Int.negSucc 0), (Int.ofNat 3))), some (.inl ((Int.ofNat 0), (Int.ofNat 4))), none], [(696320, .inl ((Int.ofNat 0), (Int.ofNat 0))), (696324, .inl ((Int.ofNat 7), (Int.ofNat 7))), (696325, .inl ((Int.ofNat 4), (Int.ofNat 4)))], 0, ((Int.ofNat 80), [((Int.negSucc 8), false, 5)])), [27]),
  ((17, [some (.inr (.inr (.inl 0))), some (.inl ((Int.negSucc 2147483647), (Int.ofNat 2147483647))), some (.inl ((Int.negSucc 2147483647), (Int.ofNat 2147483647))), some (.inl ((Int.negSucc 0), (Int.ofNat 3))), some (.inl ((Int.negSucc 0), (Int.ofNat 3))), some (.inl ((Int.ofNat 0), (Int.ofNat 4))), none], [(696320, .inl ((Int.ofNat 0), (Int.ofNat 0))), (696324, .inl ((Int.ofNat 3), (Int.ofNat 6))), (696325, .inl ((Int.ofNat 4), (Int.ofNat 4)))], 0, ((Int.ofNat 80), [((Int.negSucc 8), false, 5)])), [28]),
  ((17, [some (.inr (.inr (.inl 0))), some (.inl ((Int.negSucc 2147483647), (Int.ofNat 2147483647))), some (.inl ((Int.negSucc 2147483647), (Int.ofNat 2147483647))), some (.inl ((Int.negSucc 0), (Int.ofNat 2))), some (.inl ((Int.negSucc 0), (Int.ofNat 2))), some (.inl ((Int.ofNat 0), (Int.ofNat 3))), none], [(696320, .inl ((Int.ofNat 0), (Int.ofNat 0))), (696324, .inl ((Int.ofNat 7), (Int.ofNat 7))), (696325, .inl ((Int.ofNat 3), (Int.ofNat 3)))], 0, ((Int.ofNat 80), [((Int.negSucc 8), false, 5)])), [29]),
  ((17, [some (.inr (.inr (.inl 0))), some (.inl ((Int.negSucc 2147483647), (Int.ofNat 2147483647))), some (.inl ((Int.negSucc 2147483647), (Int.ofNat 2147483647))), some (.inl ((Int.negSucc 0), (Int.ofNat 2))), some (.inl ((Int.negSucc 0), (Int.ofNat 2))), some (.inl ((Int.ofNat 0), (Int.ofNat 3))), none], [(696320, .inl ((Int.ofNat 0), (Int.ofNat 0))), (696324, .inl ((Int.ofNat 3), (Int.ofNat 6))), (696325, .inl ((Int.ofNat 3), (Int.ofNat 3)))], 0, ((Int.ofNat 80), [((Int.negSucc 8), false, 5)])), [30]),
  ((17, [some (.inr (.inr (.inl 0))), some (.inl ((Int.negSucc 2147483647), (Int.ofNat 2147483647))), some (.inl ((Int.negSucc 2147483647), (Int.ofNat 2147483647))), some (.inl ((Int.negSucc 0), (Int.ofNat 1))), some (.inl ((Int.negSucc 0), (Int.ofNat 1))), some (.inl ((Int.ofNat 0), (Int.ofNat 2))), none], [(696320, .inl ((Int.ofNat 0), (Int.ofNat 0))), (696324, .inl ((Int.ofNat 7), (Int.ofNat 7))), (696325, .inl ((Int.ofNat 2), (Int.ofNat 2)))], 0, ((Int.ofNat 80), [((Int.negSucc 8), false, 5)])), [31]),
  ((17, [some (.inr (.inr (.inl 0))), some (.inl ((Int.negSucc 2147483647), (Int.ofNat 2147483647))), some (.inl ((Int.negSucc 2147483647), (Int.ofNat 2147483647))), some (.inl ((Int.negSucc 0), (Int.ofNat 1))), some (.inl ((Int.negSucc 0), (Int.ofNat 1))), some (.inl ((Int.ofNat 0), (Int.ofNat 2))), none], [(696320, .inl ((Int.ofNat 0), (Int.ofNat 0))), (696324, .inl ((Int.ofNat 3), (Int.ofNat 6))), (696325, .inl ((Int.ofNat 2), (Int.ofNat 2)))], 0, ((Int.ofNat 80), [((Int.negSucc 8), false, 5)])), [32]),
  ((17, [some (.inr (.inr (.inl 0))), some (.inl ((Int.ofNat 0), (Int.ofNat 0))), some (.inl ((Int.ofNat 0), (Int.ofNat 0))), some (.inl ((Int.negSucc 0), (Int.negSucc 0))), some (.inl ((Int.negSucc 0), (Int.negSucc 0))), some (.inl ((Int.ofNat 0), (Int.ofNat 1))), none], [(696320, .inl ((Int.ofNat 0), (Int.ofNat 0))), (696324, .inl ((Int.ofNat 7), (Int.ofNat 7))), (696325, .inl ((Int.ofNat 1), (Int.ofNat 1)))], 0, ((Int.ofNat 80), [((Int.negSucc 8), false, 5)])), [33])]
def xnd_261_0_1 : List (xnd × List Nat) := [((17, [some (.inr (.inr (.inl 0))), some (.inl ((Int.ofNat 0), (Int.ofNat 0))), some (.inl ((Int.ofNat 0), (Int.ofNat 0))), some (.inl ((Int.negSucc 0), (Int.negSucc 0))), some (.inl ((Int.negSucc 0), (Int.negSucc 0))), some (.inl ((Int.ofNat 0), (Int.ofNat 1))), none], [(696320, .inl ((Int.ofNat 0), (Int.ofNat 0))), (696324, .inl ((Int.ofNat 3), (Int.ofNat 6))), (696325, .inl ((Int.ofNat 1), (Int.ofNat 1)))], 0, ((Int.ofNat 80), [((Int.negSucc 8), false, 5)])), [34]),
  ((17, [some (.inr (.inr (.inl 0))), some (.inl ((Int.ofNat 0), (Int.ofNat 0))), some (.inl ((Int.ofNat 0), (Int.ofNat 0))), some (.inl ((Int.negSucc 0), (Int.negSucc 0))), some (.inl ((Int.negSucc 0), (Int.negSucc 0))), some (.inl ((Int.ofNat 0), (Int.ofNat 0))), none], [(696320, .inl ((Int.ofNat 0), (Int.ofNat 0))), (696324, .inl ((Int.ofNat 7), (Int.ofNat 7))), (696325, .inl ((Int.ofNat 0), (Int.ofNat 0)))], 0, ((Int.ofNat 80), [((Int.negSucc 8), false, 5)])), []),
  ((17, [some (.inr (.inr (.inl 0))), some (.inl ((Int.ofNat 0), (Int.ofNat 0))), some (.inl ((Int.ofNat 0), (Int.ofNat 0))), some (.inl ((Int.negSucc 0), (Int.negSucc 0))), some (.inl ((Int.negSucc 0), (Int.negSucc 0))), some (.inl ((Int.ofNat 0), (Int.ofNat 0))), none], [(696320, .inl ((Int.ofNat 0), (Int.ofNat 0))), (696324, .inl ((Int.ofNat 3), (Int.ofNat 6))), (696325, .inl ((Int.ofNat 0), (Int.ofNat 0)))], 0, ((Int.ofNat 80), [((Int.negSucc 8), false, 5)])), []),
  ((32, [some (.inr (.inr (.inl 0))), some (.inl ((Int.negSucc 2147483647), (Int.ofNat 2147483647))), some (.inl ((Int.negSucc 2147483647), (Int.ofNat 2147483647))), some (.inl ((Int.negSucc 0), (Int.ofNat 7))), some (.inl ((Int.negSucc 0), (Int.ofNat 7))), some (.inl ((Int.ofNat 0), (Int.ofNat 7))), some (.inl ((Int.ofNat 1), (Int.ofNat 8)))], [(696320, .inl ((Int.ofNat 0), (Int.ofNat 0))), (696324, .inl ((Int.ofNat 7), (Int.ofNat 7))), (696325, .inl ((Int.ofNat 8), (Int.ofNat 8)))], 0, ((Int.ofNat 80), [((Int.negSucc 0), false, 6), ((Int.negSucc 8), false, 5)])), [19, 1]),
  ((32, [some (.inr (.inr (.inl 0))), some (.inl ((Int.negSucc 2147483647), (Int.ofNat 2147483647))), some (.inl ((Int.negSucc 2147483647), (Int.ofNat 2147483647))), some (.inl ((Int.negSucc 0), (Int.ofNat 7))), some (.inl ((Int.negSucc 0), (Int.ofNat 7))), some (.inl ((Int.ofNat 0), (Int.ofNat 7))), some (.inl ((Int.ofNat 1), (Int.ofNat 8)))], [(696320, .inl ((Int.ofNat 0), (Int.ofNat 0))), (696324, .inl ((Int.ofNat 3), (Int.ofNat 6))), (696325, .inl ((Int.ofNat 8), (Int.ofNat 8)))], 0, ((Int.ofNat 80), [((Int.negSucc 0), false, 6), ((Int.negSucc 8), false, 5)])), [20, 2]),
  ((32, [some (.inr (.inr (.inl 0))), some (.inl ((Int.negSucc 2147483647), (Int.ofNat 2147483647))), some (.inl ((Int.negSucc 2147483647), (Int.ofNat 2147483647))), some (.inl ((Int.negSucc 0), (Int.ofNat 6))), some (.inl ((Int.negSucc 0), (Int.ofNat 6))), some (.inl ((Int.ofNat 0), (Int.ofNat 6))), some (.inl ((Int.ofNat 1), (Int.ofNat 7)))], [(696320, .inl ((Int.ofNat 0), (Int.ofNat 0))), (696324, .inl ((Int.ofNat 7), (Int.ofNat 7))), (696325, .inl ((Int.ofNat 7), (Int.ofNat 7)))], 0, ((Int.ofNat 80), [((Int.negSucc 0), false, 6), ((Int.negSucc 8), false, 5)])), [21, 3]),
  ((32, [some (.inr (.inr (.inl 0))), some (.inl ((Int.negSucc 2147483647), (Int.ofNat 2147483647))), some (.inl ((Int.negSucc 2147483647), (Int.ofNat 2147483647))), some (.inl ((Int.negSucc 0), (Int.ofNat 6))), some (.inl ((Int.negSucc 0), (Int.ofNat 6))), some (.inl ((Int.ofNat 0), (Int.ofNat 6))), some (.inl ((Int.ofNat 1), (Int.ofNat 7)))], [(696320, .inl ((Int.ofNat 0), (Int.ofNat 0))), (696324, .inl ((Int.ofNat 3), (Int.ofNat 6))), (696325, .inl ((Int.ofNat 7), (Int.ofNat 7)))], 0, ((Int.ofNat 80), [((Int.negSucc 0), false, 6), ((Int.negSucc 8), false, 5)])), [22, 4]),
  ((32, [some (.inr (.inr (.inl 0))), some (.inl ((Int.negSucc 2147483647), (Int.ofNat 2147483647))), some (.inl ((Int.negSucc 2147483647), (Int.ofNat 2147483647))), some (.inl ((Int.negSucc 0), (Int.ofNat 5))), some (.inl ((Int.negSucc 0), (Int.ofNat 5))), some (.inl ((Int.ofNat 0), (Int.ofNat 5))), some (.inl ((Int.ofNat 1), (Int.ofNat 6)))], [(696320, .inl ((Int.ofNat 0), (Int.ofNat 0))), (696324, .inl ((Int.ofNat 7), (Int.ofNat 7))), (696325, .inl ((Int.ofNat 6), (Int.ofNat 6)))], 0, ((Int.ofNat 80), [((Int.negSucc 0), false, 6), ((Int.negSucc 8), false, 5)])), [23, 5]),
  ((32, [some (.inr (.inr (.inl 0))), some (.inl ((Int.negSucc 2147483647), (Int.ofNat 2147483647))), some (.inl ((Int.negSucc 2147483647), (Int.ofNat 2147483647))), some (.inl ((Int.negSucc 0), (Int.ofNat 5))), some (.inl ((Int.negSucc 0), (Int.ofNat 5))), some (.inl ((Int.ofNat 0), (Int.ofNat 5))), some (.inl ((Int.ofNat 1), (Int.ofNat 6)))], [(696320, .inl ((Int.ofNat 0), (Int.ofNat 0))), (696324, .inl ((Int.ofNat 3), (Int.ofNat 6))), (696325, .inl ((Int.ofNat 6), (Int.ofNat 6)))], 0, ((Int.ofNat 80), [((Int.negSucc 0), false, 6), ((Int.negSucc 8), false, 5)])), [24, 6]),
  ((32, [some (.inr (.inr (.inl 0))), some (.inl ((Int.negSucc 2147483647), (Int.ofNat 2147483647))), some (.inl ((Int.negSucc 2147483647), (Int.ofNat 2147483647))), some (.inl ((Int.negSucc 0), (Int.ofNat 4))), some (.inl ((Int.negSucc 0), (Int.ofNat 4))), some (.inl ((Int.ofNat 0), (Int.ofNat 4))), some (.inl ((Int.ofNat 1), (Int.ofNat 5)))], [(696320, .inl ((Int.ofNat 0), (Int.ofNat 0))), (696324, .inl ((Int.ofNat 7), (Int.ofNat 7))), (696325, .inl ((Int.ofNat 5), (Int.ofNat 5)))], 0, ((Int.ofNat 80), [((Int.negSucc 0), false, 6), ((Int.negSucc 8), false, 5)])), [25, 7]),
  ((32, [some (.inr (.inr (.inl 0))), some (.inl ((Int.negSucc 2147483647), (Int.ofNat 2147483647))), some (.inl ((Int.negSucc 2147483647), (Int.ofNat 2147483647))), some (.inl ((Int.negSucc 0), (Int.ofNat 4))), some (.inl ((Int.negSucc 0), (Int.ofNat 4))), some (.inl ((Int.ofNat 0), (Int.ofNat 4))), some (.inl ((Int.ofNat 1), (Int.ofNat 5)))], [(696320, .inl ((Int.ofNat 0), (Int.ofNat 0))), (696324, .inl ((Int.ofNat 3), (Int.ofNat 6))), (696325, .inl ((Int.ofNat 5), (Int.ofNat 5)))], 0, ((Int.ofNat 80), [((Int.negSucc 0), false, 6), ((Int.negSucc 8), false, 5)])), [26, 8]),
  ((32, [some (.inr (.inr (.inl 0))), some (.inl ((Int.negSucc 2147483647), (Int.ofNat 2147483647))), some (.inl ((Int.negSucc 2147483647), (Int.ofNat 2147483647))), some (.inl ((Int.negSucc 0), (Int.ofNat 3))), some (.inl ((Int.negSucc 0), (Int.ofNat 3))), some (.inl ((Int.ofNat 0), (Int.ofNat 3))), some (.inl ((Int.ofNat 1), (Int.ofNat 4)))], [(696320, .inl ((Int.ofNat 0), (Int.ofNat 0))), (696324, .inl ((Int.ofNat 7), (Int.ofNat 7))), (696325, .inl ((Int.ofNat 4), (Int.ofNat 4)))], 0, ((Int.ofNat 80), [((Int.negSucc 0), false, 6), ((Int.negSucc 8), false, 5)])), [27, 9]),
  ((32, [some (.inr (.inr (.inl 0))), some (.inl ((Int.negSucc 2147483647), (Int.ofNat 2147483647))), some (.inl ((Int.negSucc 2147483647), (Int.ofNat 2147483647))), some (.inl ((Int.negSucc 0), (Int.ofNat 3))), some (.inl ((Int.negSucc 0), (Int.ofNat 3))), some (.inl ((Int.ofNat 0), (Int.ofNat 3))), some (.inl ((Int.ofNat 1), (Int.ofNat 4)))], [(696320, .inl ((Int.ofNat 0), (Int.ofNat 0))), (696324, .inl ((Int.ofNat 3), (Int.ofNat 6))), (696325, .inl ((Int.ofNat 4), (Int.ofNat 4)))], 0, ((Int.ofNat 80), [((Int.negSucc 0), false, 6), ((Int.negSucc 8), false, 5)])), [28, 10]),
  ((32, [some (.inr (.inr (.inl 0))), some (.inl ((Int.negSucc 2147483647), (Int.ofNat 2147483647))), some (.inl ((Int.negSucc 2147483647), (Int.ofNat 2147483647))), some (.inl ((Int.negSucc 0), (Int.ofNat 2))), some (.inl ((Int.negSucc 0), (Int.ofNat 2))), some (.inl ((Int.ofNat 0), (Int.ofNat 2))), some (.inl ((Int.ofNat 1), (Int.ofNat 3)))], [(696320, .inl ((Int.ofNat 0), (Int.ofNat 0))), (696324, .inl ((Int.ofNat 7), (Int.ofNat 7))), (696325, .inl ((Int.ofNat 3), (Int.ofNat 3)))], 0, ((Int.ofNat 80), [((Int.negSucc 0), false, 6), ((Int.negSucc 8), false, 5)])), [29, 11]),
  ((32, [some (.inr (.inr (.inl 0))), some (.inl ((Int.negSucc 2147483647), (Int.ofNat 2147483647))), some (.inl ((Int.negSucc 2147483647), (Int.ofNat 2147483647))), some (.inl ((Int.negSucc 0), (Int.ofNat 2))), some (.inl ((Int.negSucc 0), (Int.ofNat 2))), some (.inl ((Int.ofNat 0), (Int.ofNat 2))), some (.inl ((Int.ofNat 1), (Int.ofNat 3)))], [(696320, .inl ((Int.ofNat 0), (Int.ofNat 0))), (696324, .inl ((Int.ofNat 3), (Int.ofNat 6))), (696325, .inl ((Int.ofNat 3), (Int.ofNat 3)))], 0, ((Int.ofNat 80), [((Int.negSucc 0), false, 6), ((Int.negSucc 8), false, 5)])), [30, 12]),
  ((32, [some (.inr (.inr (.inl 0))), some (.inl ((Int.negSucc 2147483647), (Int.ofNat 2147483647))), some (.inl ((Int.negSucc 2147483647), (Int.ofNat 2147483647))), some (.inl ((Int.negSucc 0), (Int.ofNat 1))), some (.inl ((Int.negSucc 0), (Int.ofNat 1))), some (.inl ((Int.ofNat 0), (Int.ofNat 1))), some (.inl ((Int.ofNat 1), (Int.ofNat 2)))], [(696320, .inl ((Int.ofNat 0), (Int.ofNat 0))), (696324, .inl ((Int.ofNat 7), (Int.ofNat 7))), (696325, .inl ((Int.ofNat 2), (Int.ofNat 2)))], 0, ((Int.ofNat 80), [((Int.negSucc 0), false, 6), ((Int.negSucc 8), false, 5)])), [31, 13])]
def xnd_261_0_2 : List (xnd × List Nat) := [((32, [some (.inr (.inr (.inl 0))), some (.inl ((Int.negSucc 2147483647), (Int.ofNat 2147483647))), some (.inl ((Int.negSucc 2147483647), (Int.ofNat 2147483647))), some (.inl ((Int.negSucc 0), (Int.ofNat 1))), some (.inl ((Int.negSucc 0), (Int.ofNat 1))), some (.inl ((Int.ofNat 0), (Int.ofNat 1))), some (.inl ((Int.ofNat 1), (Int.ofNat 2)))], [(696320, .inl ((Int.ofNat 0), (Int.ofNat 0))), (696324, .inl ((Int.ofNat 3), (Int.ofNat 6))), (696325, .inl ((Int.ofNat 2), (Int.ofNat 2)))], 0, ((Int.ofNat 80), [((Int.negSucc 0), false, 6), ((Int.negSucc 8), false, 5)])), [32, 14]),
  ((32, [some (.inr (.inr (.inl 0))), some (.inl ((Int.ofNat 0), (Int.ofNat 0))), some (.inl ((Int.ofNat 0), (Int.ofNat 0))), some (.inl ((Int.negSucc 0), (Int.negSucc 0))), some (.inl ((Int.negSucc 0), (Int.negSucc 0))), some (.inl ((Int.ofNat 0), (Int.ofNat 0))), some (.inl ((Int.ofNat 1), (Int.ofNat 1)))], [(696320, .inl ((Int.ofNat 0), (Int.ofNat 0))), (696324, .inl ((Int.ofNat 7), (Int.ofNat 7))), (696325, .inl ((Int.ofNat 1), (Int.ofNat 1)))], 0, ((Int.ofNat 80), [((Int.negSucc 0), false, 6), ((Int.negSucc 8), false, 5)])), [15]),
  ((32, [some (.inr (.inr (.inl 0))), some (.inl ((Int.ofNat 0), (Int.ofNat 0))), some (.inl ((Int.ofNat 0), (Int.ofNat 0))), some (.inl ((Int.negSucc 0), (Int.negSucc 0))), some (.inl ((Int.negSucc 0), (Int.negSucc 0))), some (.inl ((Int.ofNat 0), (Int.ofNat 0))), some (.inl ((Int.ofNat 1), (Int.ofNat 1)))], [(696320, .inl ((Int.ofNat 0), (Int.ofNat 0))), (696324, .inl ((Int.ofNat 3), (Int.ofNat 6))), (696325, .inl ((Int.ofNat 1), (Int.ofNat 1)))], 0, ((Int.ofNat 80), [((Int.negSucc 0), false, 6), ((Int.negSucc 8), false, 5)])), [16])]
def xns_261_0 : xns := [xnd_261_0_0, xnd_261_0_1, xnd_261_0_2]
def xsp_261_0 : Nat → Option (Bool × Nat) := fun _ => none
theorem xck_261_0_0 : xnd_261_0_0.all (xnchk xX xsp_261_0 xt_261 [17, 32] xns_261_0 (some (.inl ((Int.negSucc 2147483647), (Int.ofNat 2147483647)))) [] 600) = true := by decide +kernel
theorem xck_261_0_1 : xnd_261_0_1.all (xnchk xX xsp_261_0 xt_261 [17, 32] xns_261_0 (some (.inl ((Int.negSucc 2147483647), (Int.ofNat 2147483647)))) [] 600) = true := by decide +kernel
theorem xck_261_0_2 : xnd_261_0_2.all (xnchk xX xsp_261_0 xt_261 [17, 32] xns_261_0 (some (.inl ((Int.negSucc 2147483647), (Int.ofNat 2147483647)))) [] 600) = true := by decide +kernel
theorem xn_261_0 {E : pm_H → Prop} (hE : xHE xX xgA_G94 xgF_G94 E) (hV : ∀ p, E p → xV p) (hN : ∀ p, E p → xPG p) : xcon xX kK E 21 261 [.inr (.inr (.inl 0))] [] 0 (some (.inl ((Int.negSucc 2147483647), (Int.ofNat 2147483647)))) [] := xnodes_ok (nl := 7) (f := 600) (sp := xsp_261_0) (T := xt_261) (cps := [17, 32]) (ns := xns_261_0) rfl rfl (xq_261 hE hV hN) rfl (List.forall_mem_cons.mpr ⟨List.all_eq_true.mp xck_261_0_0, List.forall_mem_cons.mpr ⟨List.all_eq_true.mp xck_261_0_1, List.forall_mem_cons.mpr ⟨List.all_eq_true.mp xck_261_0_2, fun _ h => absurd h List.not_mem_nil⟩⟩⟩)
/-! 262 BVModel.behind (G94NV) -/
theorem xkc_262 {pc : Nat} {e : Nat × Instr × Nat} (h : pm_tl kc_262 pc = some e) : pm_code kK 262 pc = some e := h
noncomputable def xb_262_0 : xb := xspb xX 696325 [((Int.ofNat 0), (Int.ofNat 0)), ((Int.ofNat 1), (Int.ofNat 1)), ((Int.ofNat 2), (Int.ofNat 2)), ((Int.ofNat 3), (Int.ofNat 3)), ((Int.ofNat 4), (Int.ofNat 4)), ((Int.ofNat 5), (Int.ofNat 5)), ((Int.ofNat 6), (Int.ofNat 6)), ((Int.ofNat 7), (Int.ofNat 7)), ((Int.ofNat 8), (Int.ofNat 8))] (xspb xX 696324 [((Int.ofNat 3), (Int.ofNat 6)), ((Int.ofNat 7), (Int.ofNat 7))] (xal 0 (xpush (xci (Int.ofNat 0)) (xpf xX xgF_G94 13 0 0 (xal 0 (xil 1 (xcallV xX 13 1 xs_190 (xif1 xr_ne xr_eq 15 (xpush (xci (Int.negSucc 0)) (xri))))))))))
theorem xp_262_0 {E : pm_H → Prop} (hE : xHE xX xgA_G94 xgF_G94 E) (hV : ∀ p, E p → xV p) (hN : ∀ p, E p → xPG p) : xok xX kK kK E 13 262 0 xb_262_0 := xspb_ok (xspb_ok (xal_ok (i := 0) 1 (xkc_262 rfl) (fo_lan kF0) (xpush0_ok (xkc_262 rfl) (fun _ => rfl) (xci_ok (by decide +kernel)) (xpf_ok xsn_G94 hE (by decide) (xkc_262 rfl) rfl rfl xz0 (xal_ok (i := 0) 1 (xkc_262 rfl) (fo_lan kF0) (xil_ok (i := 1) 1 (xkc_262 rfl) (fo_lin kF1) (xcallV_ok (xkc_262 rfl) rfl (Nat.le_of_ble_eq_true rfl) xso_190 (xif1_ok (pb := fun x => fo_ne x 0) (aux := 15) (xkc_262 rfl) xr_ne_ok xr_eq_ok fo_iz_ne xz_ne xy_ne (xpush0_ok (xkc_262 rfl) (fun _ => rfl) (xci_ok (by decide +kernel)) (xri_ok (xkc_262 rfl) rfl))))))))))
noncomputable def xb_262_15 : xb := xal 0 (xal 0 (xgf xX 13 11 (xal 0 (xgf xX 13 11 (xil 1 (xialP (xcallV xX 13 2 xs_230 (xal 0 (xal 0 (xgf xX 13 11 (xal 0 (xal 0 (xgf xX 13 11 (xil 1 (xcallV xX 13 2 xs_226 (xcallV xX 13 2 xs_229 (xpush (xci (Int.negSucc 0)) (xalu (xa2 xo_top) (xalu (xa2 xo_and) (xis 2 (xal 0 (xpush (xci (Int.ofNat 0)) (xpf xX xgF_G94 13 1 0 (xal 0 (xil 2 (xcallS 1 xs_303 (xalu xa_i2l (xcallV xX 13 1 xs_186 (xil 2 (xri))))))))))))))))))))))))))))))
theorem xp_262_15 {E : pm_H → Prop} (hE : xHE xX xgA_G94 xgF_G94 E) (hV : ∀ p, E p → xV p) (hN : ∀ p, E p → xPG p) : xok xX kK kK E 13 262 15 xb_262_15 := xal_ok (i := 0) 1 (xkc_262 rfl) (fo_lan kF0) (xal_ok (i := 0) 1 (xkc_262 rfl) (fo_lan kF0) (xgf_ok (b := 0) (by decide) (xkc_262 rfl) rfl (xal_ok (i := 0) 1 (xkc_262 rfl) (fo_lan kF0) (xgf_ok (b := 0) (by decide) (xkc_262 rfl) rfl (xil_ok (i := 1) 1 (xkc_262 rfl) (fo_lin kF1) (xialP_ok hN (xkc_262 rfl) (xcallV_ok (xkc_262 rfl) rfl (Nat.le_of_ble_eq_true rfl) (xso_230 (xhe_G94_G8 hE) hV) (xal_ok (i := 0) 1 (xkc_262 rfl) (fo_lan kF0) (xal_ok (i := 0) 1 (xkc_262 rfl) (fo_lan kF0) (xgf_ok (b := 0) (by decide) (xkc_262 rfl) rfl (xal_ok (i := 0) 1 (xkc_262 rfl) (fo_lan kF0) (xal_ok (i := 0) 1 (xkc_262 rfl) (fo_lan kF0) (xgf_ok (b := 0) (by decide) (xkc_262 rfl) rfl (xil_ok (i := 1) 1 (xkc_262 rfl) (fo_lin kF1) (xcallV_ok (xkc_262 rfl) rfl (Nat.le_of_ble_eq_true rfl) (xso_226 (xhe_G94_G8 hE) hV) (xcallV_ok (xkc_262 rfl) rfl (Nat.le_of_ble_eq_true rfl) xso_229 (xpush0_ok (xkc_262 rfl) (fun _ => rfl) (xci_ok (by decide +kernel)) (xalu_ok (xkc_262 rfl) (xa2_ok (xo_top_ok (fun x y => x ^^^ y)) (fun _ _ _ _ => rfl)) (xalu_ok (xkc_262 rfl) (xa2_ok xo_and_ok (fun _ _ _ _ => rfl)) (xis_ok (i := 2) 1 (xkc_262 rfl) (fo_sin kF2) (xal_ok (i := 0) 1 (xkc_262 rfl) (fo_lan kF0) (xpush0_ok (xkc_262 rfl) (fun _ => rfl) (xci_ok (by decide +kernel)) (xpf_ok xsn_G94 hE (by decide) (xkc_262 rfl) rfl rfl xz0 (xal_ok (i := 0) 1 (xkc_262 rfl) (fo_lan kF0) (xil_ok (i := 2) 1 (xkc_262 rfl) (fo_lin kF2) (xcallS_ok (xkc_262 rfl) rfl (Nat.le_of_ble_eq_true rfl) xso_303 (xalu_ok (xkc_262 rfl) xa_i2l_ok (xcallV_ok (xkc_262 rfl) rfl (Nat.le_of_ble_eq_true rfl) (xso_186 (xhe_G94_G58 hE)) (xil_ok (i := 2) 1 (xkc_262 rfl) (fo_lin kF2) (xri_ok (xkc_262 rfl) rfl))))))))))))))))))))))))))))))
noncomputable def xt_262 : List (Nat × xb) := [(0, xb_262_0), (15, xb_262_15)]
theorem xq_262 {E : pm_H → Prop} (hE : xHE xX xgA_G94 xgF_G94 E) (hV : ∀ p, E p → xV p) (hN : ∀ p, E p → xPG p) : ∀ q ∈ xt_262, xok xX kK kK E 13 262 q.1 q.2 := List.forall_mem_cons.mpr ⟨xp_262_0 hE hV hN, List.forall_mem_cons.mpr ⟨xp_262_15 hE hV hN, fun _ h => absurd h List.not_mem_nil⟩⟩
def xnd_262_0_0 : List (xnd × List Nat) := [((0, [some (.inr (.inr (.inl 0))), some (.inl ((Int.negSucc 2147483647), (Int.ofNat 2147483647))), none], [], 0, ((Int.ofNat 0), [])), [])]
def xns_262_0 : xns := [xnd_262_0_0]
def xsp_262_0 : Nat → Option (Bool × Nat) := fun _ => none
theorem xck_262_0_0 : xnd_262_0_0.all (xnchk xX xsp_262_0 xt_262 [] xns_262_0 (some (.inl ((Int.negSucc 0), (Int.ofNat 255)))) [] 600) = true := by decide +kernel
theorem xn_262_0 {E : pm_H → Prop} (hE : xHE xX xgA_G94 xgF_G94 E) (hV : ∀ p, E p → xV p) (hN : ∀ p, E p → xPG p) : xcon xX kK E 14 262 [.inr (.inr (.inl 0)), .inl ((Int.negSucc 2147483647), (Int.ofNat 2147483647))] [] 0 (some (.inl ((Int.negSucc 0), (Int.ofNat 255)))) [] := xnodes_ok (nl := 3) (f := 600) (sp := xsp_262_0) (T := xt_262) (cps := []) (ns := xns_262_0) rfl rfl (xq_262 hE hV hN) rfl (List.forall_mem_cons.mpr ⟨List.all_eq_true.mp xck_262_0_0, fun _ h => absurd h List.not_mem_nil⟩)
/-! 263 BVModel.widest (G94V) -/
theorem xkc_263 {pc : Nat} {e : Nat × Instr × Nat} (h : pm_tl kc_263 pc = some e) : pm_code kK 263 pc = some e := h
noncomputable def xb_263_0 : xb := xal 0 (xpush (xci (Int.ofNat 0)) (xpf xX xgF_G94 13 0 0 (xal 0 (xgf xX 13 5 (xif1 xr_ne xr_eq 15 (xpush (xci (Int.negSucc 1)) (xri)))))))
theorem xp_263_0 {E : pm_H → Prop} (hE : xHE xX xgA_G94 xgF_G94 E) (hV : ∀ p, E p → xV p) : xok xX kK kK E 12 263 0 xb_263_0 := xal_ok (i := 0) 1 (xkc_263 rfl) (fo_lan kF0) (xpush0_ok (xkc_263 rfl) (fun _ => rfl) (xci_ok (by decide +kernel)) (xpf_ok xsn_G94 hE (by decide) (xkc_263 rfl) rfl rfl xz0 (xal_ok (i := 0) 1 (xkc_263 rfl) (fo_lan kF0) (xgf_ok (b := 0) (by decide) (xkc_263 rfl) rfl (xif1_ok (pb := fun x => fo_ne x 0) (aux := 15) (xkc_263 rfl) xr_ne_ok xr_eq_ok fo_iz_ne xz_ne xy_ne (xpush1_ok 2 (xkc_263 rfl) rfl (xci_ok (by decide +kernel)) (xri_ok (xkc_263 rfl) rfl)))))))
noncomputable def xb_263_15 : xb := xpush (xci (Int.ofNat 0)) (xis 1 (xpush (xci (Int.ofNat 0)) (xis 2 (xpush (xci (Int.ofNat 1)) (xis 3 (xj 21))))))
theorem xp_263_15 {E : pm_H → Prop} (hE : xHE xX xgA_G94 xgF_G94 E) (hV : ∀ p, E p → xV p) : xok xX kK kK E 12 263 15 xb_263_15 := xpush0_ok (xkc_263 rfl) (fun _ => rfl) (xci_ok (by decide +kernel)) (xis_ok (i := 1) 1 (xkc_263 rfl) (fo_sin kF1) (xpush0_ok (xkc_263 rfl) (fun _ => rfl) (xci_ok (by decide +kernel)) (xis_ok (i := 2) 1 (xkc_263 rfl) (fo_sin kF2) (xpush0_ok (xkc_263 rfl) (fun _ => rfl) (xci_ok (by decide +kernel)) (xis_ok (i := 3) 1 (xkc_263 rfl) (fo_sin kF3) (xj_ok))))))
noncomputable def xb_263_21 : xb := xil 3 (xal 0 (xgf xX 13 5 (xif2 xr_ge xr_lt 95 (xal 0 (xal 0 (xgf xX 13 11 (xil 3 (xcallV xX 13 2 xs_226 (xcallS 1 xs_305 (xis 4 (xil 4 (xal 0 (xal 0 (xgf xX 13 11 (xil 1 (xcallV xX 13 2 xs_226 (xcallS 1 xs_305 (xif2 xr_le xr_gt 64 (xil 3 (xj 65))))))))))))))))))))
theorem xp_263_21 {E : pm_H → Prop} (hE : xHE xX xgA_G94 xgF_G94 E) (hV : ∀ p, E p → xV p) : xok xX kK kK E 12 263 21 xb_263_21 := xil_ok (i := 3) 1 (xkc_263 rfl) (fo_lin kF3) (xal_ok (i := 0) 1 (xkc_263 rfl) (fo_lan kF0) (xgf_ok (b := 0) (by decide) (xkc_263 rfl) rfl (xif2_ok (aux := 95) (xkc_263 rfl) xr_ge_ok xr_lt_ok fo_ic_ge xb_ge (xal_ok (i := 0) 1 (xkc_263 rfl) (fo_lan kF0) (xal_ok (i := 0) 1 (xkc_263 rfl) (fo_lan kF0) (xgf_ok (b := 0) (by decide) (xkc_263 rfl) rfl (xil_ok (i := 3) 1 (xkc_263 rfl) (fo_lin kF3) (xcallV_ok (xkc_263 rfl) rfl (Nat.le_of_ble_eq_true rfl) (xso_226 (xhe_G94_G8 hE) hV) (xcallS_ok (xkc_263 rfl) rfl (Nat.le_of_ble_eq_true rfl) xso_305 (xis_ok (i := 4) 2 (xkc_263 rfl) (fo_si 4) (xil_ok (i := 4) 2 (xkc_263 rfl) (fo_li 4) (xal_ok (i := 0) 1 (xkc_263 rfl) (fo_lan kF0) (xal_ok (i := 0) 1 (xkc_263 rfl) (fo_lan kF0) (xgf_ok (b := 0) (by decide) (xkc_263 rfl) rfl (xil_ok (i := 1) 1 (xkc_263 rfl) (fo_lin kF1) (xcallV_ok (xkc_263 rfl) rfl (Nat.le_of_ble_eq_true rfl) (xso_226 (xhe_G94_G8 hE) hV) (xcallS_ok (xkc_263 rfl) rfl (Nat.le_of_ble_eq_true rfl) xso_305 (xif2_ok (aux := 64) (xkc_263 rfl) xr_le_ok xr_gt_ok fo_ic_le xb_le (xil_ok (i := 3) 1 (xkc_263 rfl) (fo_lin kF3) (xgoto_ok (xkc_263 rfl)))))))))))))))))))))
noncomputable def xb_263_64 : xb := xil 1 (xj 65)
theorem xp_263_64 {E : pm_H → Prop} (hE : xHE xX xgA_G94 xgF_G94 E) (hV : ∀ p, E p → xV p) : xok xX kK kK E 12 263 64 xb_263_64 := xil_ok (i := 1) 1 (xkc_263 rfl) (fo_lin kF1) (xj_ok)
noncomputable def xb_263_65 : xb := xis 1 (xil 4 (xal 0 (xal 0 (xgf xX 13 11 (xil 2 (xcallV xX 13 2 xs_226 (xcallS 1 xs_305 (xif2 xr_ge xr_lt 87 (xil 3 (xj 88))))))))))
theorem xp_263_65 {E : pm_H → Prop} (hE : xHE xX xgA_G94 xgF_G94 E) (hV : ∀ p, E p → xV p) : xok xX kK kK E 12 263 65 xb_263_65 := xis_ok (i := 1) 1 (xkc_263 rfl) (fo_sin kF1) (xil_ok (i := 4) 2 (xkc_263 rfl) (fo_li 4) (xal_ok (i := 0) 1 (xkc_263 rfl) (fo_lan kF0) (xal_ok (i := 0) 1 (xkc_263 rfl) (fo_lan kF0) (xgf_ok (b := 0) (by decide) (xkc_263 rfl) rfl (xil_ok (i := 2) 1 (xkc_263 rfl) (fo_lin kF2) (xcallV_ok (xkc_263 rfl) rfl (Nat.le_of_ble_eq_true rfl) (xso_226 (xhe_G94_G8 hE) hV) (xcallS_ok (xkc_263 rfl) rfl (Nat.le_of_ble_eq_true rfl) xso_305 (xif2_ok (aux := 87) (xkc_263 rfl) xr_ge_ok xr_lt_ok fo_ic_ge xb_ge (xil_ok (i := 3) 1 (xkc_263 rfl) (fo_lin kF3) (xgoto_ok (xkc_263 rfl)))))))))))
noncomputable def xb_263_87 : xb := xil 2 (xj 88)
theorem xp_263_87 {E : pm_H → Prop} (hE : xHE xX xgA_G94 xgF_G94 E) (hV : ∀ p, E p → xV p) : xok xX kK kK E 12 263 87 xb_263_87 := xil_ok (i := 2) 1 (xkc_263 rfl) (fo_lin kF2) (xj_ok)
noncomputable def xb_263_88 : xb := xis 2 (xinc 3 (Int.ofNat 1) (xj 21))
theorem xp_263_88 {E : pm_H → Prop} (hE : xHE xX xgA_G94 xgF_G94 E) (hV : ∀ p, E p → xV p) : xok xX kK kK E 12 263 88 xb_263_88 := xis_ok (i := 2) 1 (xkc_263 rfl) (fo_sin kF2) (xinc_ok (xkc_263 rfl) (by decide +kernel) (xgoto_ok (xkc_263 rfl)))
noncomputable def xb_263_95 : xb := xal 0 (xpush (xci (Int.ofNat 0)) (xpf xX xgF_G94 13 1 0 (xal 0 (xal 0 (xal 0 (xgf xX 13 11 (xil 1 (xcallV xX 13 2 xs_226 (xcallS 1 xs_305 (xalu xa_i2l (xcallV xX 13 1 xs_186 (xal 0 (xil 2 (xalu xa_i2l (xcallV xX 13 1 xs_186 (xal 0 (xal 0 (xal 0 (xgf xX 13 11 (xil 2 (xcallV xX 13 2 xs_226 (xcallS 1 xs_305 (xalu xa_i2l (xcallV xX 13 1 xs_186 (xil 1 (xri))))))))))))))))))))))))))
theorem xp_263_95 {E : pm_H → Prop} (hE : xHE xX xgA_G94 xgF_G94 E) (hV : ∀ p, E p → xV p) : xok xX kK kK E 12 263 95 xb_263_95 := xal_ok (i := 0) 1 (xkc_263 rfl) (fo_lan kF0) (xpush0_ok (xkc_263 rfl) (fun _ => rfl) (xci_ok (by decide +kernel)) (xpf_ok xsn_G94 hE (by decide) (xkc_263 rfl) rfl rfl xz0 (xal_ok (i := 0) 1 (xkc_263 rfl) (fo_lan kF0) (xal_ok (i := 0) 1 (xkc_263 rfl) (fo_lan kF0) (xal_ok (i := 0) 1 (xkc_263 rfl) (fo_lan kF0) (xgf_ok (b := 0) (by decide) (xkc_263 rfl) rfl (xil_ok (i := 1) 1 (xkc_263 rfl) (fo_lin kF1) (xcallV_ok (xkc_263 rfl) rfl (Nat.le_of_ble_eq_true rfl) (xso_226 (xhe_G94_G8 hE) hV) (xcallS_ok (xkc_263 rfl) rfl (Nat.le_of_ble_eq_true rfl) xso_305 (xalu_ok (xkc_263 rfl) xa_i2l_ok (xcallV_ok (xkc_263 rfl) rfl (Nat.le_of_ble_eq_true rfl) (xso_186 (xhe_G94_G58 hE)) (xal_ok (i := 0) 1 (xkc_263 rfl) (fo_lan kF0) (xil_ok (i := 2) 1 (xkc_263 rfl) (fo_lin kF2) (xalu_ok (xkc_263 rfl) xa_i2l_ok (xcallV_ok (xkc_263 rfl) rfl (Nat.le_of_ble_eq_true rfl) (xso_186 (xhe_G94_G58 hE)) (xal_ok (i := 0) 1 (xkc_263 rfl) (fo_lan kF0) (xal_ok (i := 0) 1 (xkc_263 rfl) (fo_lan kF0) (xal_ok (i := 0) 1 (xkc_263 rfl) (fo_lan kF0) (xgf_ok (b := 0) (by decide) (xkc_263 rfl) rfl (xil_ok (i := 2) 1 (xkc_263 rfl) (fo_lin kF2) (xcallV_ok (xkc_263 rfl) rfl (Nat.le_of_ble_eq_true rfl) (xso_226 (xhe_G94_G8 hE) hV) (xcallS_ok (xkc_263 rfl) rfl (Nat.le_of_ble_eq_true rfl) xso_305 (xalu_ok (xkc_263 rfl) xa_i2l_ok (xcallV_ok (xkc_263 rfl) rfl (Nat.le_of_ble_eq_true rfl) (xso_186 (xhe_G94_G58 hE)) (xil_ok (i := 1) 1 (xkc_263 rfl) (fo_lin kF1) (xri_ok (xkc_263 rfl) rfl))))))))))))))))))))))))))
noncomputable def xt_263 : List (Nat × xb) := [(0, xb_263_0), (15, xb_263_15), (21, xb_263_21), (64, xb_263_64), (65, xb_263_65), (87, xb_263_87), (88, xb_263_88), (95, xb_263_95)]
theorem xq_263 {E : pm_H → Prop} (hE : xHE xX xgA_G94 xgF_G94 E) (hV : ∀ p, E p → xV p) : ∀ q ∈ xt_263, xok xX kK kK E 12 263 q.1 q.2 := List.forall_mem_cons.mpr ⟨xp_263_0 hE hV, List.forall_mem_cons.mpr ⟨xp_263_15 hE hV, List.forall_mem_cons.mpr ⟨xp_263_21 hE hV, List.forall_mem_cons.mpr ⟨xp_263_64 hE hV, List.forall_mem_cons.mpr ⟨xp_263_65 hE hV, List.forall_mem_cons.mpr ⟨xp_263_87 hE hV, List.forall_mem_cons.mpr ⟨xp_263_88 hE hV, List.forall_mem_cons.mpr ⟨xp_263_95 hE hV, fun _ h => absurd h List.not_mem_nil⟩⟩⟩⟩⟩⟩⟩⟩
def xnd_263_0_0 : List (xnd × List Nat) := [((0, [some (.inr (.inr (.inl 0))), none, none, none, none], [], 0, ((Int.ofNat 8), [])), [1]),
  ((21, [some (.inr (.inr (.inl 0))), some (.inl ((Int.ofNat 0), (Int.ofNat 7))), some (.inl ((Int.ofNat 0), (Int.ofNat 7))), some (.inl ((Int.ofNat 1), (Int.ofNat 8))), none], [(696320, .inl ((Int.ofNat 0), (Int.ofNat 0))), (696325, .inl ((Int.ofNat 1), (Int.ofNat 8)))], 0, ((Int.ofNat 8), [((Int.negSucc 0), false, 3)])), [1])]
def xns_263_0 : xns := [xnd_263_0_0]
def xsp_263_0 : Nat → Option (Bool × Nat) := fun _ => none
theorem xck_263_0_0 : xnd_263_0_0.all (xnchk xX xsp_263_0 xt_263 [21] xns_263_0 (some (.inl ((Int.negSucc 1), (Int.ofNat 7)))) [] 600) = true := by decide +kernel
theorem xn_263_0 {E : pm_H → Prop} (hE : xHE xX xgA_G94 xgF_G94 E) (hV : ∀ p, E p → xV p) : xcon xX kK E 13 263 [.inr (.inr (.inl 0))] [] 0 (some (.inl ((Int.negSucc 1), (Int.ofNat 7)))) [] := xnodes_ok (nl := 5) (f := 600) (sp := xsp_263_0) (T := xt_263) (cps := [21]) (ns := xns_263_0) rfl rfl (xq_263 hE hV) rfl (List.forall_mem_cons.mpr ⟨List.all_eq_true.mp xck_263_0_0, fun _ h => absurd h List.not_mem_nil⟩)
/-! 264 BVModel.isFewer (P) -/
theorem xkc_264 {pc : Nat} {e : Nat × Instr × Nat} (h : pm_tl kc_264 pc = some e) : pm_code kK 264 pc = some e := h
noncomputable def xb_264_0 : xb := xil 1 (xif1 xr_lt xr_ge 15 (xil 0 (xcallS 1 xs_303 (xil 1 (xcallS 1 xs_303 (xif2 xr_ge xr_lt 19 (xj 15)))))))
theorem xp_264_0 {E : pm_H → Prop} : xok xX kK kK E 1 264 0 xb_264_0 := xil_ok (i := 1) 1 (xkc_264 rfl) (fo_lin kF1) (xif1_ok (pb := fun x => fo_lt x 0) (aux := 15) (xkc_264 rfl) xr_lt_ok xr_ge_ok fo_iz_lt xz_lt xy_lt (xil_ok (i := 0) 1 (xkc_264 rfl) (fo_lin kF0) (xcallS_ok (xkc_264 rfl) rfl (Nat.le_of_ble_eq_true rfl) xso_303 (xil_ok (i := 1) 1 (xkc_264 rfl) (fo_lin kF1) (xcallS_ok (xkc_264 rfl) rfl (Nat.le_of_ble_eq_true rfl) xso_303 (xif2_ok (aux := 19) (xkc_264 rfl) xr_ge_ok xr_lt_ok fo_ic_ge xb_ge (xj_ok)))))))
noncomputable def xb_264_15 : xb := xpush (xci (Int.ofNat 1)) (xj 20)
theorem xp_264_15 {E : pm_H → Prop} : xok xX kK kK E 1 264 15 xb_264_15 := xpush0_ok (xkc_264 rfl) (fun _ => rfl) (xci_ok (by decide +kernel)) (xgoto_ok (xkc_264 rfl))
noncomputable def xb_264_19 : xb := xpush (xci (Int.ofNat 0)) (xj 20)
theorem xp_264_19 {E : pm_H → Prop} : xok xX kK kK E 1 264 19 xb_264_19 := xpush0_ok (xkc_264 rfl) (fun _ => rfl) (xci_ok (by decide +kernel)) (xj_ok)
noncomputable def xb_264_20 : xb := xrz
theorem xp_264_20 {E : pm_H → Prop} : xok xX kK kK E 1 264 20 xb_264_20 := xrz_ok (xkc_264 rfl) rfl
noncomputable def xt_264 : List (Nat × xb) := [(0, xb_264_0), (15, xb_264_15), (19, xb_264_19), (20, xb_264_20)]
theorem xq_264 {E : pm_H → Prop} : ∀ q ∈ xt_264, xok xX kK kK E 1 264 q.1 q.2 := List.forall_mem_cons.mpr ⟨xp_264_0, List.forall_mem_cons.mpr ⟨xp_264_15, List.forall_mem_cons.mpr ⟨xp_264_19, List.forall_mem_cons.mpr ⟨xp_264_20, fun _ h => absurd h List.not_mem_nil⟩⟩⟩⟩
noncomputable def xs_264 : xc := xinl xt_264 600 2
theorem xso_264 {E : pm_H → Prop} : xcok xX kK E 2 264 xs_264 := xinl_ok rfl (xq_264)
/-! 265 BVModel.watch (G94V) -/
theorem xkc_265 {pc : Nat} {e : Nat × Instr × Nat} (h : pm_tl kc_265 pc = some e) : pm_code kK 265 pc = some e := h
noncomputable def xb_265_0 : xb := xal 0 (xpush (xci (Int.ofNat 0)) (xpf xX xgF_G94 13 0 0 (xal 0 (xal 0 (xgf xX 13 11 (xcallV xX 13 1 xs_227 (xls 1 (xpush (xci (Int.ofNat 0)) (xis 3 (xj 16))))))))))
theorem xp_265_0 {E : pm_H → Prop} (hE : xHE xX xgA_G94 xgF_G94 E) (hV : ∀ p, E p → xV p) : xok xX kK kK E 13 265 0 xb_265_0 := xal_ok (i := 0) 1 (xkc_265 rfl) (fo_lan kF0) (xpush0_ok (xkc_265 rfl) (fun _ => rfl) (xci_ok (by decide +kernel)) (xpf_ok xsn_G94 hE (by decide) (xkc_265 rfl) rfl rfl xz0 (xal_ok (i := 0) 1 (xkc_265 rfl) (fo_lan kF0) (xal_ok (i := 0) 1 (xkc_265 rfl) (fo_lan kF0) (xgf_ok (b := 0) (by decide) (xkc_265 rfl) rfl (xcallV_ok (xkc_265 rfl) rfl (Nat.le_of_ble_eq_true rfl) (xso_227 (xhe_G94_G8 hE) hV) (xls_ok (i := 1) 1 (xkc_265 rfl) (fo_sln kF1) (xpush0_ok (xkc_265 rfl) (fun _ => rfl) (xci_ok (by decide +kernel)) (xis_ok (i := 3) 1 (xkc_265 rfl) (fo_sin kF3) (xj_ok))))))))))
noncomputable def xb_265_16 : xb := xil 3 (xal 0 (xgf xX 13 5 (xif2 xr_ge xr_lt 45 (xal 0 (xgf xX 13 35 (xil 3 (xal 0 (xal 0 (xgf xX 13 11 (xil 3 (xcallV xX 13 2 xs_226 (xlas xX xgA_G94 (xinc 3 (Int.ofNat 1) (xj 16))))))))))))))
theorem xp_265_16 {E : pm_H → Prop} (hE : xHE xX xgA_G94 xgF_G94 E) (hV : ∀ p, E p → xV p) : xok xX kK kK E 13 265 16 xb_265_16 := xil_ok (i := 3) 1 (xkc_265 rfl) (fo_lin kF3) (xal_ok (i := 0) 1 (xkc_265 rfl) (fo_lan kF0) (xgf_ok (b := 0) (by decide) (xkc_265 rfl) rfl (xif2_ok (aux := 45) (xkc_265 rfl) xr_ge_ok xr_lt_ok fo_ic_ge xb_ge (xal_ok (i := 0) 1 (xkc_265 rfl) (fo_lan kF0) (xgf_ok (b := 0) (by decide) (xkc_265 rfl) rfl (xil_ok (i := 3) 1 (xkc_265 rfl) (fo_lin kF3) (xal_ok (i := 0) 1 (xkc_265 rfl) (fo_lan kF0) (xal_ok (i := 0) 1 (xkc_265 rfl) (fo_lan kF0) (xgf_ok (b := 0) (by decide) (xkc_265 rfl) rfl (xil_ok (i := 3) 1 (xkc_265 rfl) (fo_lin kF3) (xcallV_ok (xkc_265 rfl) rfl (Nat.le_of_ble_eq_true rfl) (xso_226 (xhe_G94_G8 hE) hV) (xlas_ok xsn_G94 hE (xkc_265 rfl) (xinc_ok (xkc_265 rfl) (by decide +kernel) (xgoto_ok (xkc_265 rfl)))))))))))))))
noncomputable def xb_265_45 : xb := xpush (xci (Int.negSucc 0)) (xis 3 (xpush (xci (Int.ofNat 0)) (xis 4 (xj 50))))
theorem xp_265_45 {E : pm_H → Prop} (hE : xHE xX xgA_G94 xgF_G94 E) (hV : ∀ p, E p → xV p) : xok xX kK kK E 13 265 45 xb_265_45 := xpush0_ok (xkc_265 rfl) (fun _ => rfl) (xci_ok (by decide +kernel)) (xis_ok (i := 3) 1 (xkc_265 rfl) (fo_sin kF3) (xpush0_ok (xkc_265 rfl) (fun _ => rfl) (xci_ok (by decide +kernel)) (xis_ok (i := 4) 2 (xkc_265 rfl) (fo_si 4) (xj_ok))))
noncomputable def xb_265_50 : xb := xil 4 (xpush (xci (Int.ofNat 1)) (xal 0 (xgf xX 13 5 (xalu (xa2 xo_shl) (xif2 xr_ge xr_lt 138 (xpush (xcl (Int.ofNat 0)) (xls 5 (xpush (xci (Int.ofNat 0)) (xis 7 (xj 67))))))))))
theorem xp_265_50 {E : pm_H → Prop} (hE : xHE xX xgA_G94 xgF_G94 E) (hV : ∀ p, E p → xV p) : xok xX kK kK E 13 265 50 xb_265_50 := xil_ok (i := 4) 2 (xkc_265 rfl) (fo_li 4) (xpush0_ok (xkc_265 rfl) (fun _ => rfl) (xci_ok (by decide +kernel)) (xal_ok (i := 0) 1 (xkc_265 rfl) (fo_lan kF0) (xgf_ok (b := 0) (by decide) (xkc_265 rfl) rfl (xalu_ok (xkc_265 rfl) (xa2_ok xo_shl_ok (fun _ _ _ _ => rfl)) (xif2_ok (aux := 138) (xkc_265 rfl) xr_ge_ok xr_lt_ok fo_ic_ge xb_ge (xpush0_ok (xkc_265 rfl) (fun _ => rfl) (xcl_ok (by decide +kernel)) (xls_ok (i := 5) 2 (xkc_265 rfl) (fo_sl 5) (xpush0_ok (xkc_265 rfl) (fun _ => rfl) (xci_ok (by decide +kernel)) (xis_ok (i := 7) 2 (xkc_265 rfl) (fo_si 7) (xj_ok))))))))))
noncomputable def xb_265_67 : xb := xil 7 (xal 0 (xgf xX 13 5 (xif2 xr_ge xr_lt 109 (xll 5 (xil 4 (xalu xa_i2l (xil 7 (xcallS 2 xs_183 (xif1 xr_eq xr_ne 99 (xal 0 (xgf xX 13 35 (xil 7 (xlal xX (xj 100))))))))))))))
theorem xp_265_67 {E : pm_H → Prop} (hE : xHE xX xgA_G94 xgF_G94 E) (hV : ∀ p, E p → xV p) : xok xX kK kK E 13 265 67 xb_265_67 := xil_ok (i := 7) 2 (xkc_265 rfl) (fo_li 7) (xal_ok (i := 0) 1 (xkc_265 rfl) (fo_lan kF0) (xgf_ok (b := 0) (by decide) (xkc_265 rfl) rfl (xif2_ok (aux := 109) (xkc_265 rfl) xr_ge_ok xr_lt_ok fo_ic_ge xb_ge (xll_ok (i := 5) 2 (xkc_265 rfl) (fo_lli 5) (xil_ok (i := 4) 2 (xkc_265 rfl) (fo_li 4) (xalu_ok (xkc_265 rfl) xa_i2l_ok (xil_ok (i := 7) 2 (xkc_265 rfl) (fo_li 7) (xcallS_ok (xkc_265 rfl) rfl (Nat.le_of_ble_eq_true rfl) xso_183 (xif1_ok (pb := fun x => fo_eq x 0) (aux := 99) (xkc_265 rfl) xr_eq_ok xr_ne_ok fo_iz_eq xz_eq xy_eq (xal_ok (i := 0) 1 (xkc_265 rfl) (fo_lan kF0) (xgf_ok (b := 0) (by decide) (xkc_265 rfl) rfl (xil_ok (i := 7) 2 (xkc_265 rfl) (fo_li 7) (xlal_ok (xkc_265 rfl) (xgoto_ok (xkc_265 rfl)))))))))))))))
noncomputable def xb_265_99 : xb := xpush (xcl (Int.ofNat 0)) (xj 100)
theorem xp_265_99 {E : pm_H → Prop} (hE : xHE xX xgA_G94 xgF_G94 E) (hV : ∀ p, E p → xV p) : xok xX kK kK E 13 265 99 xb_265_99 := xpush0_ok (xkc_265 rfl) (fun _ => rfl) (xcl_ok (by decide +kernel)) (xj_ok)
noncomputable def xb_265_100 : xb := xalu xaL2 (xls 5 (xinc 7 (Int.ofNat 1) (xj 67)))
theorem xp_265_100 {E : pm_H → Prop} (hE : xHE xX xgA_G94 xgF_G94 E) (hV : ∀ p, E p → xV p) : xok xX kK kK E 13 265 100 xb_265_100 := xalu_ok (xkc_265 rfl) (xaL2_ok (F := fun x y => x ||| y) (fun _ _ _ => rfl)) (xls_ok (i := 5) 2 (xkc_265 rfl) (fo_sl 5) (xinc_ok (xkc_265 rfl) (by decide +kernel) (xgoto_ok (xkc_265 rfl))))
noncomputable def xb_265_109 : xb := xll 5 (xll 1 (xalu xa_cmp (xif1 xr_ne xr_eq 130 (xil 4 (xil 3 (xcallS 2 xs_264 (xif1 xr_eq xr_ne 130 (xil 4 (xj 131)))))))))
theorem xp_265_109 {E : pm_H → Prop} (hE : xHE xX xgA_G94 xgF_G94 E) (hV : ∀ p, E p → xV p) : xok xX kK kK E 13 265 109 xb_265_109 := xll_ok (i := 5) 2 (xkc_265 rfl) (fo_lli 5) (xll_ok (i := 1) 1 (xkc_265 rfl) (fo_lln kF1) (xalu_ok (xkc_265 rfl) xa_cmp_ok (xif1_ok (pb := fun x => fo_ne x 0) (aux := 130) (xkc_265 rfl) xr_ne_ok xr_eq_ok fo_iz_ne xz_ne xy_ne (xil_ok (i := 4) 2 (xkc_265 rfl) (fo_li 4) (xil_ok (i := 3) 1 (xkc_265 rfl) (fo_lin kF3) (xcallS_ok (xkc_265 rfl) rfl (Nat.le_of_ble_eq_true rfl) xso_264 (xif1_ok (pb := fun x => fo_eq x 0) (aux := 130) (xkc_265 rfl) xr_eq_ok xr_ne_ok fo_iz_eq xz_eq xy_eq (xil_ok (i := 4) 2 (xkc_265 rfl) (fo_li 4) (xgoto_ok (xkc_265 rfl))))))))))
noncomputable def xb_265_130 : xb := xil 3 (xj 131)
theorem xp_265_130 {E : pm_H → Prop} (hE : xHE xX xgA_G94 xgF_G94 E) (hV : ∀ p, E p → xV p) : xok xX kK kK E 13 265 130 xb_265_130 := xil_ok (i := 3) 1 (xkc_265 rfl) (fo_lin kF3) (xj_ok)
noncomputable def xb_265_131 : xb := xis 3 (xinc 4 (Int.ofNat 1) (xj 50))
theorem xp_265_131 {E : pm_H → Prop} (hE : xHE xX xgA_G94 xgF_G94 E) (hV : ∀ p, E p → xV p) : xok xX kK kK E 13 265 131 xb_265_131 := xis_ok (i := 3) 1 (xkc_265 rfl) (fo_sin kF3) (xinc_ok (xkc_265 rfl) (by decide +kernel) (xgoto_ok (xkc_265 rfl)))
noncomputable def xb_265_138 : xb := xal 0 (xpush (xci (Int.ofNat 0)) (xpf xX xgF_G94 13 1 0 (xal 0 (xil 3 (xalu xa_i2l (xcallV xX 13 1 xs_186 (xil 3 (xcallS 1 xs_303 (xri)))))))))
theorem xp_265_138 {E : pm_H → Prop} (hE : xHE xX xgA_G94 xgF_G94 E) (hV : ∀ p, E p → xV p) : xok xX kK kK E 13 265 138 xb_265_138 := xal_ok (i := 0) 1 (xkc_265 rfl) (fo_lan kF0) (xpush0_ok (xkc_265 rfl) (fun _ => rfl) (xci_ok (by decide +kernel)) (xpf_ok xsn_G94 hE (by decide) (xkc_265 rfl) rfl rfl xz0 (xal_ok (i := 0) 1 (xkc_265 rfl) (fo_lan kF0) (xil_ok (i := 3) 1 (xkc_265 rfl) (fo_lin kF3) (xalu_ok (xkc_265 rfl) xa_i2l_ok (xcallV_ok (xkc_265 rfl) rfl (Nat.le_of_ble_eq_true rfl) (xso_186 (xhe_G94_G58 hE)) (xil_ok (i := 3) 1 (xkc_265 rfl) (fo_lin kF3) (xcallS_ok (xkc_265 rfl) rfl (Nat.le_of_ble_eq_true rfl) xso_303 (xri_ok (xkc_265 rfl) rfl)))))))))
noncomputable def xt_265 : List (Nat × xb) := [(0, xb_265_0), (16, xb_265_16), (45, xb_265_45), (50, xb_265_50), (67, xb_265_67), (99, xb_265_99), (100, xb_265_100), (109, xb_265_109), (130, xb_265_130), (131, xb_265_131), (138, xb_265_138)]
theorem xq_265 {E : pm_H → Prop} (hE : xHE xX xgA_G94 xgF_G94 E) (hV : ∀ p, E p → xV p) : ∀ q ∈ xt_265, xok xX kK kK E 13 265 q.1 q.2 := List.forall_mem_cons.mpr ⟨xp_265_0 hE hV, List.forall_mem_cons.mpr ⟨xp_265_16 hE hV, List.forall_mem_cons.mpr ⟨xp_265_45 hE hV, List.forall_mem_cons.mpr ⟨xp_265_50 hE hV, List.forall_mem_cons.mpr ⟨xp_265_67 hE hV, List.forall_mem_cons.mpr ⟨xp_265_99 hE hV, List.forall_mem_cons.mpr ⟨xp_265_100 hE hV, List.forall_mem_cons.mpr ⟨xp_265_109 hE hV, List.forall_mem_cons.mpr ⟨xp_265_130 hE hV, List.forall_mem_cons.mpr ⟨xp_265_131 hE hV, List.forall_mem_cons.mpr ⟨xp_265_138 hE hV, fun _ h => absurd h List.not_mem_nil⟩⟩⟩⟩⟩⟩⟩⟩⟩⟩⟩
def xnd_265_0_0 : List (xnd × List Nat) := [((0, [some (.inr (.inr (.inl 0))), none, none, none, none, none, none, none], [], 0, ((Int.ofNat 2579), [])), [1]),
  ((16, [some (.inr (.inr (.inl 0))), some (.inr (.inl ((Int.negSucc 9223372036854775807), (Int.ofNat 9223372036854775807)))), none, some (.inl ((Int.ofNat 0), (Int.ofNat 8))), none, none, none, none], [(696320, .inl ((Int.ofNat 0), (Int.ofNat 0)))], 0, ((Int.ofNat 2578), [((Int.negSucc 0), false, 3)])), [1, 2]),
  ((50, [some (.inr (.inr (.inl 0))), some (.inr (.inl ((Int.negSucc 9223372036854775807), (Int.ofNat 9223372036854775807)))), none, some (.inl ((Int.negSucc 0), (Int.ofNat 255))), some (.inl ((Int.ofNat 0), (Int.ofNat 256))), none, none, none], [(696320, .inl ((Int.ofNat 0), (Int.ofNat 0)))], 0, ((Int.ofNat 2569), [((Int.negSucc 9), false, 4)])), [3]),
  ((67, [some (.inr (.inr (.inl 0))), some (.inr (.inl ((Int.negSucc 9223372036854775807), (Int.ofNat 9223372036854775807)))), none, some (.inl ((Int.negSucc 0), (Int.ofNat 255))), some (.inl ((Int.ofNat 0), (Int.ofNat 255))), some (.inr (.inl ((Int.negSucc 9223372036854775807), (Int.ofNat 9223372036854775807)))), none, some (.inl ((Int.ofNat 0), (Int.ofNat 8)))], [(696320, .inl ((Int.ofNat 0), (Int.ofNat 0)))], 0, ((Int.ofNat 2568), [((Int.negSucc 0), false, 7), ((Int.negSucc 9), false, 4)])), [3, 2])]
def xns_265_0 : xns := [xnd_265_0_0]
def xsp_265_0 : Nat → Option (Bool × Nat) := fun _ => none
theorem xck_265_0_0 : xnd_265_0_0.all (xnchk xX xsp_265_0 xt_265 [16, 50, 67] xns_265_0 (some (.inl ((Int.ofNat 0), (Int.ofNat 63)))) [] 600) = true := by decide +kernel
theorem xn_265_0 {E : pm_H → Prop} (hE : xHE xX xgA_G94 xgF_G94 E) (hV : ∀ p, E p → xV p) : xcon xX kK E 14 265 [.inr (.inr (.inl 0))] [] 0 (some (.inl ((Int.ofNat 0), (Int.ofNat 63)))) [] := xnodes_ok (nl := 8) (f := 600) (sp := xsp_265_0) (T := xt_265) (cps := [16, 50, 67]) (ns := xns_265_0) rfl rfl (xq_265 hE hV) rfl (List.forall_mem_cons.mpr ⟨List.all_eq_true.mp xck_265_0_0, fun _ h => absurd h List.not_mem_nil⟩)
/-! 345 BVModel.hourGoes (G8V) -/
noncomputable def xb_345_0 : xb := xpush (xci (Int.ofNat 0)) (xis 2 (xj 2))
theorem xp_345_0 {E : pm_H → Prop} (hE : xHE xX xgA_G8 xgF_G8 E) (hV : ∀ p, E p → xV p) : xok xX kK kK E 20 242 0 xb_345_0 := xpush0_ok (xkc_242 rfl) (fun _ => rfl) (xci_ok (by decide +kernel)) (xis_ok (i := 2) 1 (xkc_242 rfl) (fo_sin kF2) (xj_ok))
noncomputable def xb_345_2 : xb := xil 2 (xal 0 (xgf xX 13 5 (xif2 xr_ge xr_lt 40 (xal 0 (xgf xX 13 29 (xil 2 (xal 1 (xpush (xci (Int.ofNat 24)) (xil 2 (xalu xa_add (xial xX (xal 0 (xal 1 (xal 0 (xal 1 (xil 2 (xcallV xX 13 2 xs_226 (xcallV xX 13 2 xs_228 (xalu (xa2 xo_or) (xias xX xgA_G8 xgF_G8 (xinc 2 (Int.ofNat 1) (xj 2))))))))))))))))))))))
theorem xp_345_2 {E : pm_H → Prop} (hE : xHE xX xgA_G8 xgF_G8 E) (hV : ∀ p, E p → xV p) : xok xX kK kK E 20 242 2 xb_345_2 := xil_ok (i := 2) 1 (xkc_242 rfl) (fo_lin kF2) (xal_ok (i := 0) 1 (xkc_242 rfl) (fo_lan kF0) (xgf_ok (b := 0) (by decide) (xkc_242 rfl) rfl (xif2_ok (aux := 40) (xkc_242 rfl) xr_ge_ok xr_lt_ok fo_ic_ge xb_ge (xal_ok (i := 0) 1 (xkc_242 rfl) (fo_lan kF0) (xgf_ok (b := 0) (by decide) (xkc_242 rfl) rfl (xil_ok (i := 2) 1 (xkc_242 rfl) (fo_lin kF2) (xal_ok (i := 1) 1 (xkc_242 rfl) (fo_lan kF1) (xpush1_ok 2 (xkc_242 rfl) rfl (xci_ok (by decide +kernel)) (xil_ok (i := 2) 1 (xkc_242 rfl) (fo_lin kF2) (xalu_ok (xkc_242 rfl) xa_add_ok (xial_ok (xkc_242 rfl) (xal_ok (i := 0) 1 (xkc_242 rfl) (fo_lan kF0) (xal_ok (i := 1) 1 (xkc_242 rfl) (fo_lan kF1) (xal_ok (i := 0) 1 (xkc_242 rfl) (fo_lan kF0) (xal_ok (i := 1) 1 (xkc_242 rfl) (fo_lan kF1) (xil_ok (i := 2) 1 (xkc_242 rfl) (fo_lin kF2) (xcallV_ok (xkc_242 rfl) rfl (Nat.le_of_ble_eq_true rfl) (xso_226 (xhe_G8_G8 hE) hV) (xcallV_ok (xkc_242 rfl) rfl (Nat.le_of_ble_eq_true rfl) xso_228 (xalu_ok (xkc_242 rfl) (xa2_ok xo_or_ok (fun _ _ _ _ => rfl)) (xias_ok xsn_G8 hE (xkc_242 rfl) (xinc_ok (xkc_242 rfl) (by decide +kernel) (xgoto_ok (xkc_242 rfl)))))))))))))))))))))))
noncomputable def xb_345_40 : xb := xpush (xci (Int.ofNat 0)) (xis 2 (xj 42))
theorem xp_345_40 {E : pm_H → Prop} (hE : xHE xX xgA_G8 xgF_G8 E) (hV : ∀ p, E p → xV p) : xok xX kK kK E 20 242 40 xb_345_40 := xpush0_ok (xkc_242 rfl) (fun _ => rfl) (xci_ok (by decide +kernel)) (xis_ok (i := 2) 1 (xkc_242 rfl) (fo_sin kF2) (xj_ok))
noncomputable def xb_345_42 : xb := xil 2 (xal 0 (xgf xX 13 5 (xif2 xr_ge xr_lt 114 (xil 2 (xpush (xci (Int.ofNat 1)) (xalu xa_add (xis 3 (xj 54))))))))
theorem xp_345_42 {E : pm_H → Prop} (hE : xHE xX xgA_G8 xgF_G8 E) (hV : ∀ p, E p → xV p) : xok xX kK kK E 20 242 42 xb_345_42 := xil_ok (i := 2) 1 (xkc_242 rfl) (fo_lin kF2) (xal_ok (i := 0) 1 (xkc_242 rfl) (fo_lan kF0) (xgf_ok (b := 0) (by decide) (xkc_242 rfl) rfl (xif2_ok (aux := 114) (xkc_242 rfl) xr_ge_ok xr_lt_ok fo_ic_ge xb_ge (xil_ok (i := 2) 1 (xkc_242 rfl) (fo_lin kF2) (xpush0_ok (xkc_242 rfl) (fun _ => rfl) (xci_ok (by decide +kernel)) (xalu_ok (xkc_242 rfl) xa_add_ok (xis_ok (i := 3) 1 (xkc_242 rfl) (fo_sin kF3) (xj_ok))))))))
noncomputable def xb_345_54 : xb := xil 3 (xal 0 (xgf xX 13 5 (xif2 xr_ge xr_lt 108 (xal 0 (xal 1 (xil 2 (xil 3 (xcallV xX 13 3 xs_232 (xif1 xr_eq xr_ne 102 (xal 0 (xgf xX 13 29 (xil 2 (xalu xa_dup2 (xial xX (xal 1 (xpush (xci (Int.ofNat 24)) (xil 3 (xalu xa_add (xial xX (xalu (xa2 xo_or) (xias xX xgA_G8 xgF_G8 (xal 0 (xgf xX 13 29 (xil 3 (xalu xa_dup2 (xial xX (xal 1 (xpush (xci (Int.ofNat 24)) (xil 2 (xalu xa_add (xial xX (xalu (xa2 xo_or) (xias xX xgA_G8 xgF_G8 (xj 102))))))))))))))))))))))))))))))))))
theorem xp_345_54 {E : pm_H → Prop} (hE : xHE xX xgA_G8 xgF_G8 E) (hV : ∀ p, E p → xV p) : xok xX kK kK E 20 242 54 xb_345_54 := xil_ok (i := 3) 1 (xkc_242 rfl) (fo_lin kF3) (xal_ok (i := 0) 1 (xkc_242 rfl) (fo_lan kF0) (xgf_ok (b := 0) (by decide) (xkc_242 rfl) rfl (xif2_ok (aux := 108) (xkc_242 rfl) xr_ge_ok xr_lt_ok fo_ic_ge xb_ge (xal_ok (i := 0) 1 (xkc_242 rfl) (fo_lan kF0) (xal_ok (i := 1) 1 (xkc_242 rfl) (fo_lan kF1) (xil_ok (i := 2) 1 (xkc_242 rfl) (fo_lin kF2) (xil_ok (i := 3) 1 (xkc_242 rfl) (fo_lin kF3) (xcallV_ok (xkc_242 rfl) rfl (Nat.le_of_ble_eq_true rfl) (xso_232 (xhe_G8_G8 hE) hV) (xif1_ok (pb := fun x => fo_eq x 0) (aux := 102) (xkc_242 rfl) xr_eq_ok xr_ne_ok fo_iz_eq xz_eq xy_eq (xal_ok (i := 0) 1 (xkc_242 rfl) (fo_lan kF0) (xgf_ok (b := 0) (by decide) (xkc_242 rfl) rfl (xil_ok (i := 2) 1 (xkc_242 rfl) (fo_lin kF2) (xalu_ok (xkc_242 rfl) xa_dup2_ok (xial_ok (xkc_242 rfl) (xal_ok (i := 1) 1 (xkc_242 rfl) (fo_lan kF1) (xpush1_ok 2 (xkc_242 rfl) rfl (xci_ok (by decide +kernel)) (xil_ok (i := 3) 1 (xkc_242 rfl) (fo_lin kF3) (xalu_ok (xkc_242 rfl) xa_add_ok (xial_ok (xkc_242 rfl) (xalu_ok (xkc_242 rfl) (xa2_ok xo_or_ok (fun _ _ _ _ => rfl)) (xias_ok xsn_G8 hE (xkc_242 rfl) (xal_ok (i := 0) 1 (xkc_242 rfl) (fo_lan kF0) (xgf_ok (b := 0) (by decide) (xkc_242 rfl) rfl (xil_ok (i := 3) 1 (xkc_242 rfl) (fo_lin kF3) (xalu_ok (xkc_242 rfl) xa_dup2_ok (xial_ok (xkc_242 rfl) (xal_ok (i := 1) 1 (xkc_242 rfl) (fo_lan kF1) (xpush1_ok 2 (xkc_242 rfl) rfl (xci_ok (by decide +kernel)) (xil_ok (i := 2) 1 (xkc_242 rfl) (fo_lin kF2) (xalu_ok (xkc_242 rfl) xa_add_ok (xial_ok (xkc_242 rfl) (xalu_ok (xkc_242 rfl) (xa2_ok xo_or_ok (fun _ _ _ _ => rfl)) (xias_ok xsn_G8 hE (xkc_242 rfl) (xj_ok))))))))))))))))))))))))))))))))))
noncomputable def xb_345_102 : xb := xinc 3 (Int.ofNat 1) (xj 54)
theorem xp_345_102 {E : pm_H → Prop} (hE : xHE xX xgA_G8 xgF_G8 E) (hV : ∀ p, E p → xV p) : xok xX kK kK E 20 242 102 xb_345_102 := xinc_ok (xkc_242 rfl) (by decide +kernel) (xgoto_ok (xkc_242 rfl))
noncomputable def xb_345_108 : xb := xinc 2 (Int.ofNat 1) (xj 42)
theorem xp_345_108 {E : pm_H → Prop} (hE : xHE xX xgA_G8 xgF_G8 E) (hV : ∀ p, E p → xV p) : xok xX kK kK E 20 242 108 xb_345_108 := xinc_ok (xkc_242 rfl) (by decide +kernel) (xgoto_ok (xkc_242 rfl))
noncomputable def xb_345_114 : xb := xpush (xci (Int.ofNat 0)) (xis 2 (xj 116))
theorem xp_345_114 {E : pm_H → Prop} (hE : xHE xX xgA_G8 xgF_G8 E) (hV : ∀ p, E p → xV p) : xok xX kK kK E 20 242 114 xb_345_114 := xpush0_ok (xkc_242 rfl) (fun _ => rfl) (xci_ok (by decide +kernel)) (xis_ok (i := 2) 1 (xkc_242 rfl) (fo_sin kF2) (xj_ok))
noncomputable def xb_345_116 : xb := xil 2 (xal 0 (xgf xX 13 5 (xif2 xr_ge xr_lt 142 (xal 1 (xpush (xci (Int.ofNat 24)) (xil 2 (xalu xa_add (xal 0 (xgf xX 13 29 (xil 2 (xial xX (xias xX xgA_G8 xgF_G8 (xinc 2 (Int.ofNat 1) (xj 116))))))))))))))
theorem xp_345_116 {E : pm_H → Prop} (hE : xHE xX xgA_G8 xgF_G8 E) (hV : ∀ p, E p → xV p) : xok xX kK kK E 20 242 116 xb_345_116 := xil_ok (i := 2) 1 (xkc_242 rfl) (fo_lin kF2) (xal_ok (i := 0) 1 (xkc_242 rfl) (fo_lan kF0) (xgf_ok (b := 0) (by decide) (xkc_242 rfl) rfl (xif2_ok (aux := 142) (xkc_242 rfl) xr_ge_ok xr_lt_ok fo_ic_ge xb_ge (xal_ok (i := 1) 1 (xkc_242 rfl) (fo_lan kF1) (xpush1_ok 2 (xkc_242 rfl) rfl (xci_ok (by decide +kernel)) (xil_ok (i := 2) 1 (xkc_242 rfl) (fo_lin kF2) (xalu_ok (xkc_242 rfl) xa_add_ok (xal_ok (i := 0) 1 (xkc_242 rfl) (fo_lan kF0) (xgf_ok (b := 0) (by decide) (xkc_242 rfl) rfl (xil_ok (i := 2) 1 (xkc_242 rfl) (fo_lin kF2) (xial_ok (xkc_242 rfl) (xias_ok xsn_G8 hE (xkc_242 rfl) (xinc_ok (xkc_242 rfl) (by decide +kernel) (xgoto_ok (xkc_242 rfl)))))))))))))))
noncomputable def xb_345_142 : xb := xal 1 (xpush (xci (Int.ofNat 40)) (xalu xa_dup2 (xial xX (xpush (xci (Int.ofNat 1)) (xalu xa_add (xias xX xgA_G8 xgF_G8 (xrv0)))))))
theorem xp_345_142 {E : pm_H → Prop} (hE : xHE xX xgA_G8 xgF_G8 E) (hV : ∀ p, E p → xV p) : xok xX kK kK E 20 242 142 xb_345_142 := xal_ok (i := 1) 1 (xkc_242 rfl) (fo_lan kF1) (xpush1_ok 2 (xkc_242 rfl) rfl (xci_ok (by decide +kernel)) (xalu_ok (xkc_242 rfl) xa_dup2_ok (xial_ok (xkc_242 rfl) (xpush0_ok (xkc_242 rfl) (fun _ => rfl) (xci_ok (by decide +kernel)) (xalu_ok (xkc_242 rfl) xa_add_ok (xias_ok xsn_G8 hE (xkc_242 rfl) (xrv0_ok (xkc_242 rfl) rfl)))))))
noncomputable def xt_345 : List (Nat × xb) := [(0, xb_345_0), (2, xb_345_2), (40, xb_345_40), (42, xb_345_42), (54, xb_345_54), (102, xb_345_102), (108, xb_345_108), (114, xb_345_114), (116, xb_345_116), (142, xb_345_142)]
theorem xq_345 {E : pm_H → Prop} (hE : xHE xX xgA_G8 xgF_G8 E) (hV : ∀ p, E p → xV p) : ∀ q ∈ xt_345, xok xX kK kK E 20 242 q.1 q.2 := List.forall_mem_cons.mpr ⟨xp_345_0 hE hV, List.forall_mem_cons.mpr ⟨xp_345_2 hE hV, List.forall_mem_cons.mpr ⟨xp_345_40 hE hV, List.forall_mem_cons.mpr ⟨xp_345_42 hE hV, List.forall_mem_cons.mpr ⟨xp_345_54 hE hV, List.forall_mem_cons.mpr ⟨xp_345_102 hE hV, List.forall_mem_cons.mpr ⟨xp_345_108 hE hV, List.forall_mem_cons.mpr ⟨xp_345_114 hE hV, List.forall_mem_cons.mpr ⟨xp_345_116 hE hV, List.forall_mem_cons.mpr ⟨xp_345_142 hE hV, fun _ h => absurd h List.not_mem_nil⟩⟩⟩⟩⟩⟩⟩⟩⟩⟩
def xnd_345_0_0 : List (xnd × List Nat) := [((0, [some (.inr (.inr (.inl 0))), some (.inr (.inr (.inl 5))), none, none], [], 1, ((Int.ofNat 99), [])), [1]),
  ((2, [some (.inr (.inr (.inl 0))), some (.inr (.inr (.inl 5))), some (.inl ((Int.ofNat 0), (Int.ofNat 8))), none], [], 1, ((Int.ofNat 98), [((Int.negSucc 0), false, 2)])), [1, 2]),
  ((42, [some (.inr (.inr (.inl 0))), some (.inr (.inr (.inl 5))), some (.inl ((Int.ofNat 0), (Int.ofNat 8))), none], [], 1, ((Int.ofNat 89), [((Int.negSucc 8), false, 2)])), [3, 4]),
  ((54, [some (.inr (.inr (.inl 0))), some (.inr (.inr (.inl 5))), some (.inl ((Int.ofNat 0), (Int.ofNat 7))), some (.inl ((Int.ofNat 1), (Int.ofNat 8)))], [(696325, .inl ((Int.ofNat 1), (Int.ofNat 8)))], 1, ((Int.ofNat 89), [((Int.negSucc 0), false, 3), ((Int.negSucc 8), false, 2)])), [3, 2]),
  ((116, [some (.inr (.inr (.inl 0))), some (.inr (.inr (.inl 5))), some (.inl ((Int.ofNat 0), (Int.ofNat 8))), none], [], 1, ((Int.ofNat 8), [((Int.negSucc 0), false, 2)])), [4])]
def xns_345_0 : xns := [xnd_345_0_0]
def xsp_345_0 : Nat → Option (Bool × Nat) := fun _ => none
theorem xck_345_0_0 : xnd_345_0_0.all (xnchk xX xsp_345_0 xt_345 [2, 42, 54, 116] xns_345_0 (none) [] 600) = true := by decide +kernel
theorem xn_345_0 {E : pm_H → Prop} (hE : xHE xX xgA_G8 xgF_G8 E) (hV : ∀ p, E p → xV p) : xcon xX kK E 21 242 [.inr (.inr (.inl 0)), .inr (.inr (.inl 5))] [] 1 (none) [] := xnodes_ok (nl := 4) (f := 600) (sp := xsp_345_0) (T := xt_345) (cps := [2, 42, 54, 116]) (ns := xns_345_0) rfl rfl (xq_345 hE hV) rfl (List.forall_mem_cons.mpr ⟨List.all_eq_true.mp xck_345_0_0, fun _ h => absurd h List.not_mem_nil⟩)
noncomputable def xs_345 : xc := xalt xX [.inr (.inr (.inl 0)), .inr (.inr (.inl 5))] (xctrG xX xkF_G8 [.inr (.inr (.inl 0)), .inr (.inr (.inl 5))] [] 1 (none) []) (xnone)
theorem xso_345 {E : pm_H → Prop} (hE : xHE xX xgA_G8 xgF_G8 E) (hV : ∀ p, E p → xV p) : xcok xX kK E 21 242 xs_345 := xalt_ok (xctrG_ok rfl rfl rfl rfl (fun ph => xn_345_0 (E := fun p => E p ∧ xcells xX xkF_G8 ph p) (xHE_cells (kF := xkF_G8) (by decide +kernel) hE) (fun p h => hV p h.1))) (xnone_ok)
/-! 266 BVModel.learns (G95V) -/
theorem xkc_266 {pc : Nat} {e : Nat × Instr × Nat} (h : pm_tl kc_266 pc = some e) : pm_code kK 266 pc = some e := h
noncomputable def xb_266_0 : xb := xal 0 (xpush (xci (Int.ofNat 0)) (xpf xX xgF_G95 13 0 0 (xal 0 (xil 1 (xcallV xX 13 1 xs_190 (xif1 xr_eq xr_ne 21 (xal 0 (xil 2 (xcallV xX 13 1 xs_191 (xif1 xr_ne xr_eq 23 (xj 21)))))))))))
theorem xp_266_0 {E : pm_H → Prop} (hE : xHE xX xgA_G95 xgF_G95 E) (hV : ∀ p, E p → xV p) : xok xX kK kK E 21 266 0 xb_266_0 := xal_ok (i := 0) 1 (xkc_266 rfl) (fo_lan kF0) (xpush0_ok (xkc_266 rfl) (fun _ => rfl) (xci_ok (by decide +kernel)) (xpf_ok xsn_G95 hE (by decide) (xkc_266 rfl) rfl rfl xz0 (xal_ok (i := 0) 1 (xkc_266 rfl) (fo_lan kF0) (xil_ok (i := 1) 1 (xkc_266 rfl) (fo_lin kF1) (xcallV_ok (xkc_266 rfl) rfl (Nat.le_of_ble_eq_true rfl) xso_190 (xif1_ok (pb := fun x => fo_eq x 0) (aux := 21) (xkc_266 rfl) xr_eq_ok xr_ne_ok fo_iz_eq xz_eq xy_eq (xal_ok (i := 0) 1 (xkc_266 rfl) (fo_lan kF0) (xil_ok (i := 2) 1 (xkc_266 rfl) (fo_lin kF2) (xcallV_ok (xkc_266 rfl) rfl (Nat.le_of_ble_eq_true rfl) xso_191 (xif1_ok (pb := fun x => fo_ne x 0) (aux := 23) (xkc_266 rfl) xr_ne_ok xr_eq_ok fo_iz_ne xz_ne xy_ne (xj_ok)))))))))))
noncomputable def xb_266_21 : xb := xpush (xci (Int.negSucc 0)) (xri)
theorem xp_266_21 {E : pm_H → Prop} (hE : xHE xX xgA_G95 xgF_G95 E) (hV : ∀ p, E p → xV p) : xok xX kK kK E 21 266 21 xb_266_21 := xpush0_ok (xkc_266 rfl) (fun _ => rfl) (xci_ok (by decide +kernel)) (xri_ok (xkc_266 rfl) rfl)
noncomputable def xb_266_23 : xb := xal 0 (xcallV xX 13 0 xs_256 (xpush (xci (Int.ofNat 0)) (xis 3 (xj 29))))
theorem xp_266_23 {E : pm_H → Prop} (hE : xHE xX xgA_G95 xgF_G95 E) (hV : ∀ p, E p → xV p) : xok xX kK kK E 21 266 23 xb_266_23 := xal_ok (i := 0) 1 (xkc_266 rfl) (fo_lan kF0) (xcallV_ok (xkc_266 rfl) rfl (Nat.le_of_ble_eq_true rfl) (xso_256 (xhe_G95_G93 hE)) (xpush0_ok (xkc_266 rfl) (fun _ => rfl) (xci_ok (by decide +kernel)) (xis_ok (i := 3) 1 (xkc_266 rfl) (fo_sin kF3) (xj_ok))))
noncomputable def xb_266_29 : xb := xil 3 (xpush (xci (Int.ofNat 99)) (xif2 xr_gt xr_le 90 (xal 0 (xgf xX 13 12 (xpush (xci (Int.ofNat 24)) (xil 1 (xalu xa_add (xial xX (xalu xa_i2l (xil 2 (xcallS 2 xs_183 (xif1 xr_eq xr_ne 76 (xal 0 (xpush (xci (Int.ofNat 0)) (xpf xX xgF_G95 13 1 0 (xal 0 (xal 0 (xal 0 (xgf xX 13 12 (xil 2 (xcallV xX 13 2 xs_233 (xcallS 1 xs_303 (xalu xa_i2l (xcallV xX 13 1 xs_186 (xil 3 (xri))))))))))))))))))))))))))
theorem xp_266_29 {E : pm_H → Prop} (hE : xHE xX xgA_G95 xgF_G95 E) (hV : ∀ p, E p → xV p) : xok xX kK kK E 21 266 29 xb_266_29 := xil_ok (i := 3) 1 (xkc_266 rfl) (fo_lin kF3) (xpush1_ok 2 (xkc_266 rfl) rfl (xci_ok (by decide +kernel)) (xif2_ok (aux := 90) (xkc_266 rfl) xr_gt_ok xr_le_ok fo_ic_gt xb_gt (xal_ok (i := 0) 1 (xkc_266 rfl) (fo_lan kF0) (xgf_ok (b := 0) (by decide) (xkc_266 rfl) rfl (xpush1_ok 2 (xkc_266 rfl) rfl (xci_ok (by decide +kernel)) (xil_ok (i := 1) 1 (xkc_266 rfl) (fo_lin kF1) (xalu_ok (xkc_266 rfl) xa_add_ok (xial_ok (xkc_266 rfl) (xalu_ok (xkc_266 rfl) xa_i2l_ok (xil_ok (i := 2) 1 (xkc_266 rfl) (fo_lin kF2) (xcallS_ok (xkc_266 rfl) rfl (Nat.le_of_ble_eq_true rfl) xso_183 (xif1_ok (pb := fun x => fo_eq x 0) (aux := 76) (xkc_266 rfl) xr_eq_ok xr_ne_ok fo_iz_eq xz_eq xy_eq (xal_ok (i := 0) 1 (xkc_266 rfl) (fo_lan kF0) (xpush0_ok (xkc_266 rfl) (fun _ => rfl) (xci_ok (by decide +kernel)) (xpf_ok xsn_G95 hE (by decide) (xkc_266 rfl) rfl rfl xz0 (xal_ok (i := 0) 1 (xkc_266 rfl) (fo_lan kF0) (xal_ok (i := 0) 1 (xkc_266 rfl) (fo_lan kF0) (xal_ok (i := 0) 1 (xkc_266 rfl) (fo_lan kF0) (xgf_ok (b := 0) (by decide) (xkc_266 rfl) rfl (xil_ok (i := 2) 1 (xkc_266 rfl) (fo_lin kF2) (xcallV_ok (xkc_266 rfl) rfl (Nat.le_of_ble_eq_true rfl) xso_233 (xcallS_ok (xkc_266 rfl) rfl (Nat.le_of_ble_eq_true rfl) xso_303 (xalu_ok (xkc_266 rfl) xa_i2l_ok (xcallV_ok (xkc_266 rfl) rfl (Nat.le_of_ble_eq_true rfl) (xso_186 (xhe_G95_G58 hE)) (xil_ok (i := 3) 1 (xkc_266 rfl) (fo_lin kF3) (xri_ok (xkc_266 rfl) rfl))))))))))))))))))))))))))
noncomputable def xb_266_76 : xb := xal 0 (xal 0 (xgf xX 13 12 (xcallV xX 13 1 xs_345 (xinc 3 (Int.ofNat 1) (xj 29)))))
theorem xp_266_76 {E : pm_H → Prop} (hE : xHE xX xgA_G95 xgF_G95 E) (hV : ∀ p, E p → xV p) : xok xX kK kK E 21 266 76 xb_266_76 := xal_ok (i := 0) 1 (xkc_266 rfl) (fo_lan kF0) (xal_ok (i := 0) 1 (xkc_266 rfl) (fo_lan kF0) (xgf_ok (b := 0) (by decide) (xkc_266 rfl) rfl (xcallV_ok (xkc_266 rfl) rfl (Nat.le_of_ble_eq_true rfl) (xso_345 (xhe_G95_G8 hE) hV) (xinc_ok (xkc_266 rfl) (by decide +kernel) (xgoto_ok (xkc_266 rfl))))))
noncomputable def xb_266_90 : xb := xpush (xci (Int.negSucc 1)) (xri)
theorem xp_266_90 {E : pm_H → Prop} (hE : xHE xX xgA_G95 xgF_G95 E) (hV : ∀ p, E p → xV p) : xok xX kK kK E 21 266 90 xb_266_90 := xpush1_ok 2 (xkc_266 rfl) rfl (xci_ok (by decide +kernel)) (xri_ok (xkc_266 rfl) rfl)
noncomputable def xt_266 : List (Nat × xb) := [(0, xb_266_0), (21, xb_266_21), (23, xb_266_23), (29, xb_266_29), (76, xb_266_76), (90, xb_266_90)]
theorem xq_266 {E : pm_H → Prop} (hE : xHE xX xgA_G95 xgF_G95 E) (hV : ∀ p, E p → xV p) : ∀ q ∈ xt_266, xok xX kK kK E 21 266 q.1 q.2 := List.forall_mem_cons.mpr ⟨xp_266_0 hE hV, List.forall_mem_cons.mpr ⟨xp_266_21 hE hV, List.forall_mem_cons.mpr ⟨xp_266_23 hE hV, List.forall_mem_cons.mpr ⟨xp_266_29 hE hV, List.forall_mem_cons.mpr ⟨xp_266_76 hE hV, List.forall_mem_cons.mpr ⟨xp_266_90 hE hV, fun _ h => absurd h List.not_mem_nil⟩⟩⟩⟩⟩⟩
def xnd_266_0_0 : List (xnd × List Nat) := [((0, [some (.inr (.inr (.inl 0))), some (.inl ((Int.negSucc 2147483647), (Int.ofNat 2147483647))), some (.inl ((Int.negSucc 2147483647), (Int.ofNat 2147483647))), none], [], 100, ((Int.ofNat 101), [])), [1]),
  ((29, [some (.inr (.inr (.inl 0))), some (.inl ((Int.ofNat 0), (Int.ofNat 7))), some (.inl ((Int.ofNat 0), (Int.ofNat 7))), some (.inl ((Int.ofNat 0), (Int.ofNat 0)))], [(696320, .inl ((Int.ofNat 0), (Int.ofNat 0))), (696325, .inl ((Int.ofNat 1), (Int.ofNat 8))), (696326, .inl ((Int.ofNat 1), (Int.ofNat 8)))], 100, ((Int.ofNat 100), [((Int.negSucc 0), false, 3)])), [2]),
  ((29, [some (.inr (.inr (.inl 0))), some (.inl ((Int.ofNat 0), (Int.ofNat 7))), some (.inl ((Int.ofNat 0), (Int.ofNat 7))), some (.inl ((Int.ofNat 1), (Int.ofNat 1)))], [(696320, .inl ((Int.ofNat 0), (Int.ofNat 0))), (696325, .inl ((Int.ofNat 1), (Int.ofNat 8))), (696326, .inl ((Int.ofNat 1), (Int.ofNat 8)))], 99, ((Int.ofNat 100), [((Int.negSucc 0), false, 3)])), [3]),
  ((29, [some (.inr (.inr (.inl 0))), some (.inl ((Int.ofNat 0), (Int.ofNat 7))), some (.inl ((Int.ofNat 0), (Int.ofNat 7))), some (.inl ((Int.ofNat 2), (Int.ofNat 2)))], [(696320, .inl ((Int.ofNat 0), (Int.ofNat 0))), (696325, .inl ((Int.ofNat 1), (Int.ofNat 8))), (696326, .inl ((Int.ofNat 1), (Int.ofNat 8)))], 98, ((Int.ofNat 100), [((Int.negSucc 0), false, 3)])), [4]),
  ((29, [some (.inr (.inr (.inl 0))), some (.inl ((Int.ofNat 0), (Int.ofNat 7))), some (.inl ((Int.ofNat 0), (Int.ofNat 7))), some (.inl ((Int.ofNat 3), (Int.ofNat 3)))], [(696320, .inl ((Int.ofNat 0), (Int.ofNat 0))), (696325, .inl ((Int.ofNat 1), (Int.ofNat 8))), (696326, .inl ((Int.ofNat 1), (Int.ofNat 8)))], 97, ((Int.ofNat 100), [((Int.negSucc 0), false, 3)])), [5]),
  ((29, [some (.inr (.inr (.inl 0))), some (.inl ((Int.ofNat 0), (Int.ofNat 7))), some (.inl ((Int.ofNat 0), (Int.ofNat 7))), some (.inl ((Int.ofNat 4), (Int.ofNat 4)))], [(696320, .inl ((Int.ofNat 0), (Int.ofNat 0))), (696325, .inl ((Int.ofNat 1), (Int.ofNat 8))), (696326, .inl ((Int.ofNat 1), (Int.ofNat 8)))], 96, ((Int.ofNat 100), [((Int.negSucc 0), false, 3)])), [6]),
  ((29, [some (.inr (.inr (.inl 0))), some (.inl ((Int.ofNat 0), (Int.ofNat 7))), some (.inl ((Int.ofNat 0), (Int.ofNat 7))), some (.inl ((Int.ofNat 5), (Int.ofNat 5)))], [(696320, .inl ((Int.ofNat 0), (Int.ofNat 0))), (696325, .inl ((Int.ofNat 1), (Int.ofNat 8))), (696326, .inl ((Int.ofNat 1), (Int.ofNat 8)))], 95, ((Int.ofNat 100), [((Int.negSucc 0), false, 3)])), [7]),
  ((29, [some (.inr (.inr (.inl 0))), some (.inl ((Int.ofNat 0), (Int.ofNat 7))), some (.inl ((Int.ofNat 0), (Int.ofNat 7))), some (.inl ((Int.ofNat 6), (Int.ofNat 6)))], [(696320, .inl ((Int.ofNat 0), (Int.ofNat 0))), (696325, .inl ((Int.ofNat 1), (Int.ofNat 8))), (696326, .inl ((Int.ofNat 1), (Int.ofNat 8)))], 94, ((Int.ofNat 100), [((Int.negSucc 0), false, 3)])), [8]),
  ((29, [some (.inr (.inr (.inl 0))), some (.inl ((Int.ofNat 0), (Int.ofNat 7))), some (.inl ((Int.ofNat 0), (Int.ofNat 7))), some (.inl ((Int.ofNat 7), (Int.ofNat 7)))], [(696320, .inl ((Int.ofNat 0), (Int.ofNat 0))), (696325, .inl ((Int.ofNat 1), (Int.ofNat 8))), (696326, .inl ((Int.ofNat 1), (Int.ofNat 8)))], 93, ((Int.ofNat 100), [((Int.negSucc 0), false, 3)])), [9]),
  ((29, [some (.inr (.inr (.inl 0))), some (.inl ((Int.ofNat 0), (Int.ofNat 7))), some (.inl ((Int.ofNat 0), (Int.ofNat 7))), some (.inl ((Int.ofNat 8), (Int.ofNat 8)))], [(696320, .inl ((Int.ofNat 0), (Int.ofNat 0))), (696325, .inl ((Int.ofNat 1), (Int.ofNat 8))), (696326, .inl ((Int.ofNat 1), (Int.ofNat 8)))], 92, ((Int.ofNat 100), [((Int.negSucc 0), false, 3)])), [10]),
  ((29, [some (.inr (.inr (.inl 0))), some (.inl ((Int.ofNat 0), (Int.ofNat 7))), some (.inl ((Int.ofNat 0), (Int.ofNat 7))), some (.inl ((Int.ofNat 9), (Int.ofNat 9)))], [(696320, .inl ((Int.ofNat 0), (Int.ofNat 0))), (696325, .inl ((Int.ofNat 1), (Int.ofNat 8))), (696326, .inl ((Int.ofNat 1), (Int.ofNat 8)))], 91, ((Int.ofNat 100), [((Int.negSucc 0), false, 3)])), [11]),
  ((29, [some (.inr (.inr (.inl 0))), some (.inl ((Int.ofNat 0), (Int.ofNat 7))), some (.inl ((Int.ofNat 0), (Int.ofNat 7))), some (.inl ((Int.ofNat 10), (Int.ofNat 10)))], [(696320, .inl ((Int.ofNat 0), (Int.ofNat 0))), (696325, .inl ((Int.ofNat 1), (Int.ofNat 8))), (696326, .inl ((Int.ofNat 1), (Int.ofNat 8)))], 90, ((Int.ofNat 100), [((Int.negSucc 0), false, 3)])), [12]),
  ((29, [some (.inr (.inr (.inl 0))), some (.inl ((Int.ofNat 0), (Int.ofNat 7))), some (.inl ((Int.ofNat 0), (Int.ofNat 7))), some (.inl ((Int.ofNat 11), (Int.ofNat 11)))], [(696320, .inl ((Int.ofNat 0), (Int.ofNat 0))), (696325, .inl ((Int.ofNat 1), (Int.ofNat 8))), (696326, .inl ((Int.ofNat 1), (Int.ofNat 8)))], 89, ((Int.ofNat 100), [((Int.negSucc 0), false, 3)])), [13]),
  ((29, [some (.inr (.inr (.inl 0))), some (.inl ((Int.ofNat 0), (Int.ofNat 7))), some (.inl ((Int.ofNat 0), (Int.ofNat 7))), some (.inl ((Int.ofNat 12), (Int.ofNat 12)))], [(696320, .inl ((Int.ofNat 0), (Int.ofNat 0))), (696325, .inl ((Int.ofNat 1), (Int.ofNat 8))), (696326, .inl ((Int.ofNat 1), (Int.ofNat 8)))], 88, ((Int.ofNat 100), [((Int.negSucc 0), false, 3)])), [14]),
  ((29, [some (.inr (.inr (.inl 0))), some (.inl ((Int.ofNat 0), (Int.ofNat 7))), some (.inl ((Int.ofNat 0), (Int.ofNat 7))), some (.inl ((Int.ofNat 13), (Int.ofNat 13)))], [(696320, .inl ((Int.ofNat 0), (Int.ofNat 0))), (696325, .inl ((Int.ofNat 1), (Int.ofNat 8))), (696326, .inl ((Int.ofNat 1), (Int.ofNat 8)))], 87, ((Int.ofNat 100), [((Int.negSucc 0), false, 3)])), [15]),
  ((29, [some (.inr (.inr (.inl 0))), some (.inl ((Int.ofNat 0), (Int.ofNat 7))), some (.inl ((Int.ofNat 0), (Int.ofNat 7))), some (.inl ((Int.ofNat 14), (Int.ofNat 14)))], [(696320, .inl ((Int.ofNat 0), (Int.ofNat 0))), (696325, .inl ((Int.ofNat 1), (Int.ofNat 8))), (696326, .inl ((Int.ofNat 1), (Int.ofNat 8)))], 86, ((Int.ofNat 100), [((Int.negSucc 0), false, 3)])), [16])]
def xnd_266_0_1 : List (xnd × List Nat) := [((29, [some (.inr (.inr (.inl 0))), some (.inl ((Int.ofNat 0), (Int.ofNat 7))), some (.inl ((Int.ofNat 0), (Int.ofNat 7))), some (.inl ((Int.ofNat 15), (Int.ofNat 15)))], [(696320, .inl ((Int.ofNat 0), (Int.ofNat 0))), (696325, .inl ((Int.ofNat 1), (Int.ofNat 8))), (696326, .inl ((Int.ofNat 1), (Int.ofNat 8)))], 85, ((Int.ofNat 100), [((Int.negSucc 0), false, 3)])), [17]),
  ((29, [some (.inr (.inr (.inl 0))), some (.inl ((Int.ofNat 0), (Int.ofNat 7))), some (.inl ((Int.ofNat 0), (Int.ofNat 7))), some (.inl ((Int.ofNat 16), (Int.ofNat 16)))], [(696320, .inl ((Int.ofNat 0), (Int.ofNat 0))), (696325, .inl ((Int.ofNat 1), (Int.ofNat 8))), (696326, .inl ((Int.ofNat 1), (Int.ofNat 8)))], 84, ((Int.ofNat 100), [((Int.negSucc 0), false, 3)])), [18]),
  ((29, [some (.inr (.inr (.inl 0))), some (.inl ((Int.ofNat 0), (Int.ofNat 7))), some (.inl ((Int.ofNat 0), (Int.ofNat 7))), some (.inl ((Int.ofNat 17), (Int.ofNat 17)))], [(696320, .inl ((Int.ofNat 0), (Int.ofNat 0))), (696325, .inl ((Int.ofNat 1), (Int.ofNat 8))), (696326, .inl ((Int.ofNat 1), (Int.ofNat 8)))], 83, ((Int.ofNat 100), [((Int.negSucc 0), false, 3)])), [19]),
  ((29, [some (.inr (.inr (.inl 0))), some (.inl ((Int.ofNat 0), (Int.ofNat 7))), some (.inl ((Int.ofNat 0), (Int.ofNat 7))), some (.inl ((Int.ofNat 18), (Int.ofNat 18)))], [(696320, .inl ((Int.ofNat 0), (Int.ofNat 0))), (696325, .inl ((Int.ofNat 1), (Int.ofNat 8))), (696326, .inl ((Int.ofNat 1), (Int.ofNat 8)))], 82, ((Int.ofNat 100), [((Int.negSucc 0), false, 3)])), [20]),
  ((29, [some (.inr (.inr (.inl 0))), some (.inl ((Int.ofNat 0), (Int.ofNat 7))), some (.inl ((Int.ofNat 0), (Int.ofNat 7))), some (.inl ((Int.ofNat 19), (Int.ofNat 19)))], [(696320, .inl ((Int.ofNat 0), (Int.ofNat 0))), (696325, .inl ((Int.ofNat 1), (Int.ofNat 8))), (696326, .inl ((Int.ofNat 1), (Int.ofNat 8)))], 81, ((Int.ofNat 100), [((Int.negSucc 0), false, 3)])), [21]),
  ((29, [some (.inr (.inr (.inl 0))), some (.inl ((Int.ofNat 0), (Int.ofNat 7))), some (.inl ((Int.ofNat 0), (Int.ofNat 7))), some (.inl ((Int.ofNat 20), (Int.ofNat 20)))], [(696320, .inl ((Int.ofNat 0), (Int.ofNat 0))), (696325, .inl ((Int.ofNat 1), (Int.ofNat 8))), (696326, .inl ((Int.ofNat 1), (Int.ofNat 8)))], 80, ((Int.ofNat 100), [((Int.negSucc 0), false, 3)])), [22]),
  ((29, [some (.inr (.inr (.inl 0))), some (.inl ((Int.ofNat 0), (Int.ofNat 7))), some (.inl ((Int.ofNat 0), (Int.ofNat 7))), some (.inl ((Int.ofNat 21), (Int.ofNat 21)))], [(696320, .inl ((Int.ofNat 0), (Int.ofNat 0))), (696325, .inl ((Int.ofNat 1), (Int.ofNat 8))), (696326, .inl ((Int.ofNat 1), (Int.ofNat 8)))], 79, ((Int.ofNat 100), [((Int.negSucc 0), false, 3)])), [23]),
  ((29, [some (.inr (.inr (.inl 0))), some (.inl ((Int.ofNat 0), (Int.ofNat 7))), some (.inl ((Int.ofNat 0), (Int.ofNat 7))), some (.inl ((Int.ofNat 22), (Int.ofNat 22)))], [(696320, .inl ((Int.ofNat 0), (Int.ofNat 0))), (696325, .inl ((Int.ofNat 1), (Int.ofNat 8))), (696326, .inl ((Int.ofNat 1), (Int.ofNat 8)))], 78, ((Int.ofNat 100), [((Int.negSucc 0), false, 3)])), [24]),
  ((29, [some (.inr (.inr (.inl 0))), some (.inl ((Int.ofNat 0), (Int.ofNat 7))), some (.inl ((Int.ofNat 0), (Int.ofNat 7))), some (.inl ((Int.ofNat 23), (Int.ofNat 23)))], [(696320, .inl ((Int.ofNat 0), (Int.ofNat 0))), (696325, .inl ((Int.ofNat 1), (Int.ofNat 8))), (696326, .inl ((Int.ofNat 1), (Int.ofNat 8)))], 77, ((Int.ofNat 100), [((Int.negSucc 0), false, 3)])), [25]),
  ((29, [some (.inr (.inr (.inl 0))), some (.inl ((Int.ofNat 0), (Int.ofNat 7))), some (.inl ((Int.ofNat 0), (Int.ofNat 7))), some (.inl ((Int.ofNat 24), (Int.ofNat 24)))], [(696320, .inl ((Int.ofNat 0), (Int.ofNat 0))), (696325, .inl ((Int.ofNat 1), (Int.ofNat 8))), (696326, .inl ((Int.ofNat 1), (Int.ofNat 8)))], 76, ((Int.ofNat 100), [((Int.negSucc 0), false, 3)])), [26]),
  ((29, [some (.inr (.inr (.inl 0))), some (.inl ((Int.ofNat 0), (Int.ofNat 7))), some (.inl ((Int.ofNat 0), (Int.ofNat 7))), some (.inl ((Int.ofNat 25), (Int.ofNat 25)))], [(696320, .inl ((Int.ofNat 0), (Int.ofNat 0))), (696325, .inl ((Int.ofNat 1), (Int.ofNat 8))), (696326, .inl ((Int.ofNat 1), (Int.ofNat 8)))], 75, ((Int.ofNat 100), [((Int.negSucc 0), false, 3)])), [27]),
  ((29, [some (.inr (.inr (.inl 0))), some (.inl ((Int.ofNat 0), (Int.ofNat 7))), some (.inl ((Int.ofNat 0), (Int.ofNat 7))), some (.inl ((Int.ofNat 26), (Int.ofNat 26)))], [(696320, .inl ((Int.ofNat 0), (Int.ofNat 0))), (696325, .inl ((Int.ofNat 1), (Int.ofNat 8))), (696326, .inl ((Int.ofNat 1), (Int.ofNat 8)))], 74, ((Int.ofNat 100), [((Int.negSucc 0), false, 3)])), [28]),
  ((29, [some (.inr (.inr (.inl 0))), some (.inl ((Int.ofNat 0), (Int.ofNat 7))), some (.inl ((Int.ofNat 0), (Int.ofNat 7))), some (.inl ((Int.ofNat 27), (Int.ofNat 27)))], [(696320, .inl ((Int.ofNat 0), (Int.ofNat 0))), (696325, .inl ((Int.ofNat 1), (Int.ofNat 8))), (696326, .inl ((Int.ofNat 1), (Int.ofNat 8)))], 73, ((Int.ofNat 100), [((Int.negSucc 0), false, 3)])), [29]),
  ((29, [some (.inr (.inr (.inl 0))), some (.inl ((Int.ofNat 0), (Int.ofNat 7))), some (.inl ((Int.ofNat 0), (Int.ofNat 7))), some (.inl ((Int.ofNat 28), (Int.ofNat 28)))], [(696320, .inl ((Int.ofNat 0), (Int.ofNat 0))), (696325, .inl ((Int.ofNat 1), (Int.ofNat 8))), (696326, .inl ((Int.ofNat 1), (Int.ofNat 8)))], 72, ((Int.ofNat 100), [((Int.negSucc 0), false, 3)])), [30]),
  ((29, [some (.inr (.inr (.inl 0))), some (.inl ((Int.ofNat 0), (Int.ofNat 7))), some (.inl ((Int.ofNat 0), (Int.ofNat 7))), some (.inl ((Int.ofNat 29), (Int.ofNat 29)))], [(696320, .inl ((Int.ofNat 0), (Int.ofNat 0))), (696325, .inl ((Int.ofNat 1), (Int.ofNat 8))), (696326, .inl ((Int.ofNat 1), (Int.ofNat 8)))], 71, ((Int.ofNat 100), [((Int.negSucc 0), false, 3)])), [31]),
  ((29, [some (.inr (.inr (.inl 0))), some (.inl ((Int.ofNat 0), (Int.ofNat 7))), some (.inl ((Int.ofNat 0), (Int.ofNat 7))), some (.inl ((Int.ofNat 30), (Int.ofNat 30)))], [(696320, .inl ((Int.ofNat 0), (Int.ofNat 0))), (696325, .inl ((Int.ofNat 1), (Int.ofNat 8))), (696326, .inl ((Int.ofNat 1), (Int.ofNat 8)))], 70, ((Int.ofNat 100), [((Int.negSucc 0), false, 3)])), [32])]
def xnd_266_0_2 : List (xnd × List Nat) := [((29, [some (.inr (.inr (.inl 0))), some (.inl ((Int.ofNat 0), (Int.ofNat 7))), some (.inl ((Int.ofNat 0), (Int.ofNat 7))), some (.inl ((Int.ofNat 31), (Int.ofNat 31)))], [(696320, .inl ((Int.ofNat 0), (Int.ofNat 0))), (696325, .inl ((Int.ofNat 1), (Int.ofNat 8))), (696326, .inl ((Int.ofNat 1), (Int.ofNat 8)))], 69, ((Int.ofNat 100), [((Int.negSucc 0), false, 3)])), [33]),
  ((29, [some (.inr (.inr (.inl 0))), some (.inl ((Int.ofNat 0), (Int.ofNat 7))), some (.inl ((Int.ofNat 0), (Int.ofNat 7))), some (.inl ((Int.ofNat 32), (Int.ofNat 32)))], [(696320, .inl ((Int.ofNat 0), (Int.ofNat 0))), (696325, .inl ((Int.ofNat 1), (Int.ofNat 8))), (696326, .inl ((Int.ofNat 1), (Int.ofNat 8)))], 68, ((Int.ofNat 100), [((Int.negSucc 0), false, 3)])), [34]),
  ((29, [some (.inr (.inr (.inl 0))), some (.inl ((Int.ofNat 0), (Int.ofNat 7))), some (.inl ((Int.ofNat 0), (Int.ofNat 7))), some (.inl ((Int.ofNat 33), (Int.ofNat 33)))], [(696320, .inl ((Int.ofNat 0), (Int.ofNat 0))), (696325, .inl ((Int.ofNat 1), (Int.ofNat 8))), (696326, .inl ((Int.ofNat 1), (Int.ofNat 8)))], 67, ((Int.ofNat 100), [((Int.negSucc 0), false, 3)])), [35]),
  ((29, [some (.inr (.inr (.inl 0))), some (.inl ((Int.ofNat 0), (Int.ofNat 7))), some (.inl ((Int.ofNat 0), (Int.ofNat 7))), some (.inl ((Int.ofNat 34), (Int.ofNat 34)))], [(696320, .inl ((Int.ofNat 0), (Int.ofNat 0))), (696325, .inl ((Int.ofNat 1), (Int.ofNat 8))), (696326, .inl ((Int.ofNat 1), (Int.ofNat 8)))], 66, ((Int.ofNat 100), [((Int.negSucc 0), false, 3)])), [36]),
  ((29, [some (.inr (.inr (.inl 0))), some (.inl ((Int.ofNat 0), (Int.ofNat 7))), some (.inl ((Int.ofNat 0), (Int.ofNat 7))), some (.inl ((Int.ofNat 35), (Int.ofNat 35)))], [(696320, .inl ((Int.ofNat 0), (Int.ofNat 0))), (696325, .inl ((Int.ofNat 1), (Int.ofNat 8))), (696326, .inl ((Int.ofNat 1), (Int.ofNat 8)))], 65, ((Int.ofNat 100), [((Int.negSucc 0), false, 3)])), [37]),
  ((29, [some (.inr (.inr (.inl 0))), some (.inl ((Int.ofNat 0), (Int.ofNat 7))), some (.inl ((Int.ofNat 0), (Int.ofNat 7))), some (.inl ((Int.ofNat 36), (Int.ofNat 36)))], [(696320, .inl ((Int.ofNat 0), (Int.ofNat 0))), (696325, .inl ((Int.ofNat 1), (Int.ofNat 8))), (696326, .inl ((Int.ofNat 1), (Int.ofNat 8)))], 64, ((Int.ofNat 100), [((Int.negSucc 0), false, 3)])), [38]),
  ((29, [some (.inr (.inr (.inl 0))), some (.inl ((Int.ofNat 0), (Int.ofNat 7))), some (.inl ((Int.ofNat 0), (Int.ofNat 7))), some (.inl ((Int.ofNat 37), (Int.ofNat 37)))], [(696320, .inl ((Int.ofNat 0), (Int.ofNat 0))), (696325, .inl ((Int.ofNat 1), (Int.ofNat 8))), (696326, .inl ((Int.ofNat 1), (Int.ofNat 8)))], 63, ((Int.ofNat 100), [((Int.negSucc 0), false, 3)])), [39]),
  ((29, [some (.inr (.inr (.inl 0))), some (.inl ((Int.ofNat 0), (Int.ofNat 7))), some (.inl ((Int.ofNat 0), (Int.ofNat 7))), some (.inl ((Int.ofNat 38), (Int.ofNat 38)))], [(696320, .inl ((Int.ofNat 0), (Int.ofNat 0))), (696325, .inl ((Int.ofNat 1), (Int.ofNat 8))), (696326, .inl ((Int.ofNat 1), (Int.ofNat 8)))], 62, ((Int.ofNat 100), [((Int.negSucc 0), false, 3)])), [40]),
  ((29, [some (.inr (.inr (.inl 0))), some (.inl ((Int.ofNat 0), (Int.ofNat 7))), some (.inl ((Int.ofNat 0), (Int.ofNat 7))), some (.inl ((Int.ofNat 39), (Int.ofNat 39)))], [(696320, .inl ((Int.ofNat 0), (Int.ofNat 0))), (696325, .inl ((Int.ofNat 1), (Int.ofNat 8))), (696326, .inl ((Int.ofNat 1), (Int.ofNat 8)))], 61, ((Int.ofNat 100), [((Int.negSucc 0), false, 3)])), [41]),
  ((29, [some (.inr (.inr (.inl 0))), some (.inl ((Int.ofNat 0), (Int.ofNat 7))), some (.inl ((Int.ofNat 0), (Int.ofNat 7))), some (.inl ((Int.ofNat 40), (Int.ofNat 40)))], [(696320, .inl ((Int.ofNat 0), (Int.ofNat 0))), (696325, .inl ((Int.ofNat 1), (Int.ofNat 8))), (696326, .inl ((Int.ofNat 1), (Int.ofNat 8)))], 60, ((Int.ofNat 100), [((Int.negSucc 0), false, 3)])), [42]),
  ((29, [some (.inr (.inr (.inl 0))), some (.inl ((Int.ofNat 0), (Int.ofNat 7))), some (.inl ((Int.ofNat 0), (Int.ofNat 7))), some (.inl ((Int.ofNat 41), (Int.ofNat 41)))], [(696320, .inl ((Int.ofNat 0), (Int.ofNat 0))), (696325, .inl ((Int.ofNat 1), (Int.ofNat 8))), (696326, .inl ((Int.ofNat 1), (Int.ofNat 8)))], 59, ((Int.ofNat 100), [((Int.negSucc 0), false, 3)])), [43]),
  ((29, [some (.inr (.inr (.inl 0))), some (.inl ((Int.ofNat 0), (Int.ofNat 7))), some (.inl ((Int.ofNat 0), (Int.ofNat 7))), some (.inl ((Int.ofNat 42), (Int.ofNat 42)))], [(696320, .inl ((Int.ofNat 0), (Int.ofNat 0))), (696325, .inl ((Int.ofNat 1), (Int.ofNat 8))), (696326, .inl ((Int.ofNat 1), (Int.ofNat 8)))], 58, ((Int.ofNat 100), [((Int.negSucc 0), false, 3)])), [44]),
  ((29, [some (.inr (.inr (.inl 0))), some (.inl ((Int.ofNat 0), (Int.ofNat 7))), some (.inl ((Int.ofNat 0), (Int.ofNat 7))), some (.inl ((Int.ofNat 43), (Int.ofNat 43)))], [(696320, .inl ((Int.ofNat 0), (Int.ofNat 0))), (696325, .inl ((Int.ofNat 1), (Int.ofNat 8))), (696326, .inl ((Int.ofNat 1), (Int.ofNat 8)))], 57, ((Int.ofNat 100), [((Int.negSucc 0), false, 3)])), [45]),
  ((29, [some (.inr (.inr (.inl 0))), some (.inl ((Int.ofNat 0), (Int.ofNat 7))), some (.inl ((Int.ofNat 0), (Int.ofNat 7))), some (.inl ((Int.ofNat 44), (Int.ofNat 44)))], [(696320, .inl ((Int.ofNat 0), (Int.ofNat 0))), (696325, .inl ((Int.ofNat 1), (Int.ofNat 8))), (696326, .inl ((Int.ofNat 1), (Int.ofNat 8)))], 56, ((Int.ofNat 100), [((Int.negSucc 0), false, 3)])), [46]),
  ((29, [some (.inr (.inr (.inl 0))), some (.inl ((Int.ofNat 0), (Int.ofNat 7))), some (.inl ((Int.ofNat 0), (Int.ofNat 7))), some (.inl ((Int.ofNat 45), (Int.ofNat 45)))], [(696320, .inl ((Int.ofNat 0), (Int.ofNat 0))), (696325, .inl ((Int.ofNat 1), (Int.ofNat 8))), (696326, .inl ((Int.ofNat 1), (Int.ofNat 8)))], 55, ((Int.ofNat 100), [((Int.negSucc 0), false, 3)])), [47]),
  ((29, [some (.inr (.inr (.inl 0))), some (.inl ((Int.ofNat 0), (Int.ofNat 7))), some (.inl ((Int.ofNat 0), (Int.ofNat 7))), some (.inl ((Int.ofNat 46), (Int.ofNat 46)))], [(696320, .inl ((Int.ofNat 0), (Int.ofNat 0))), (696325, .inl ((Int.ofNat 1), (Int.ofNat 8))), (696326, .inl ((Int.ofNat 1), (Int.ofNat 8)))], 54, ((Int.ofNat 100), [((Int.negSucc 0), false, 3)])), [48])]
def xnd_266_0_3 : List (xnd × List Nat) := [((29, [some (.inr (.inr (.inl 0))), some (.inl ((Int.ofNat 0), (Int.ofNat 7))), some (.inl ((Int.ofNat 0), (Int.ofNat 7))), some (.inl ((Int.ofNat 47), (Int.ofNat 47)))], [(696320, .inl ((Int.ofNat 0), (Int.ofNat 0))), (696325, .inl ((Int.ofNat 1), (Int.ofNat 8))), (696326, .inl ((Int.ofNat 1), (Int.ofNat 8)))], 53, ((Int.ofNat 100), [((Int.negSucc 0), false, 3)])), [49]),
  ((29, [some (.inr (.inr (.inl 0))), some (.inl ((Int.ofNat 0), (Int.ofNat 7))), some (.inl ((Int.ofNat 0), (Int.ofNat 7))), some (.inl ((Int.ofNat 48), (Int.ofNat 48)))], [(696320, .inl ((Int.ofNat 0), (Int.ofNat 0))), (696325, .inl ((Int.ofNat 1), (Int.ofNat 8))), (696326, .inl ((Int.ofNat 1), (Int.ofNat 8)))], 52, ((Int.ofNat 100), [((Int.negSucc 0), false, 3)])), [50]),
  ((29, [some (.inr (.inr (.inl 0))), some (.inl ((Int.ofNat 0), (Int.ofNat 7))), some (.inl ((Int.ofNat 0), (Int.ofNat 7))), some (.inl ((Int.ofNat 49), (Int.ofNat 49)))], [(696320, .inl ((Int.ofNat 0), (Int.ofNat 0))), (696325, .inl ((Int.ofNat 1), (Int.ofNat 8))), (696326, .inl ((Int.ofNat 1), (Int.ofNat 8)))], 51, ((Int.ofNat 100), [((Int.negSucc 0), false, 3)])), [51]),
  ((29, [some (.inr (.inr (.inl 0))), some (.inl ((Int.ofNat 0), (Int.ofNat 7))), some (.inl ((Int.ofNat 0), (Int.ofNat 7))), some (.inl ((Int.ofNat 50), (Int.ofNat 50)))], [(696320, .inl ((Int.ofNat 0), (Int.ofNat 0))), (696325, .inl ((Int.ofNat 1), (Int.ofNat 8))), (696326, .inl ((Int.ofNat 1), (Int.ofNat 8)))], 50, ((Int.ofNat 100), [((Int.negSucc 0), false, 3)])), [52]),
  ((29, [some (.inr (.inr (.inl 0))), some (.inl ((Int.ofNat 0), (Int.ofNat 7))), some (.inl ((Int.ofNat 0), (Int.ofNat 7))), some (.inl ((Int.ofNat 51), (Int.ofNat 51)))], [(696320, .inl ((Int.ofNat 0), (Int.ofNat 0))), (696325, .inl ((Int.ofNat 1), (Int.ofNat 8))), (696326, .inl ((Int.ofNat 1), (Int.ofNat 8)))], 49, ((Int.ofNat 100), [((Int.negSucc 0), false, 3)])), [53]),
  ((29, [some (.inr (.inr (.inl 0))), some (.inl ((Int.ofNat 0), (Int.ofNat 7))), some (.inl ((Int.ofNat 0), (Int.ofNat 7))), some (.inl ((Int.ofNat 52), (Int.ofNat 52)))], [(696320, .inl ((Int.ofNat 0), (Int.ofNat 0))), (696325, .inl ((Int.ofNat 1), (Int.ofNat 8))), (696326, .inl ((Int.ofNat 1), (Int.ofNat 8)))], 48, ((Int.ofNat 100), [((Int.negSucc 0), false, 3)])), [54]),
  ((29, [some (.inr (.inr (.inl 0))), some (.inl ((Int.ofNat 0), (Int.ofNat 7))), some (.inl ((Int.ofNat 0), (Int.ofNat 7))), some (.inl ((Int.ofNat 53), (Int.ofNat 53)))], [(696320, .inl ((Int.ofNat 0), (Int.ofNat 0))), (696325, .inl ((Int.ofNat 1), (Int.ofNat 8))), (696326, .inl ((Int.ofNat 1), (Int.ofNat 8)))], 47, ((Int.ofNat 100), [((Int.negSucc 0), false, 3)])), [55]),
  ((29, [some (.inr (.inr (.inl 0))), some (.inl ((Int.ofNat 0), (Int.ofNat 7))), some (.inl ((Int.ofNat 0), (Int.ofNat 7))), some (.inl ((Int.ofNat 54), (Int.ofNat 54)))], [(696320, .inl ((Int.ofNat 0), (Int.ofNat 0))), (696325, .inl ((Int.ofNat 1), (Int.ofNat 8))), (696326, .inl ((Int.ofNat 1), (Int.ofNat 8)))], 46, ((Int.ofNat 100), [((Int.negSucc 0), false, 3)])), [56]),
  ((29, [some (.inr (.inr (.inl 0))), some (.inl ((Int.ofNat 0), (Int.ofNat 7))), some (.inl ((Int.ofNat 0), (Int.ofNat 7))), some (.inl ((Int.ofNat 55), (Int.ofNat 55)))], [(696320, .inl ((Int.ofNat 0), (Int.ofNat 0))), (696325, .inl ((Int.ofNat 1), (Int.ofNat 8))), (696326, .inl ((Int.ofNat 1), (Int.ofNat 8)))], 45, ((Int.ofNat 100), [((Int.negSucc 0), false, 3)])), [57]),
  ((29, [some (.inr (.inr (.inl 0))), some (.inl ((Int.ofNat 0), (Int.ofNat 7))), some (.inl ((Int.ofNat 0), (Int.ofNat 7))), some (.inl ((Int.ofNat 56), (Int.ofNat 56)))], [(696320, .inl ((Int.ofNat 0), (Int.ofNat 0))), (696325, .inl ((Int.ofNat 1), (Int.ofNat 8))), (696326, .inl ((Int.ofNat 1), (Int.ofNat 8)))], 44, ((Int.ofNat 100), [((Int.negSucc 0), false, 3)])), [58]),
  ((29, [some (.inr (.inr (.inl 0))), some (.inl ((Int.ofNat 0), (Int.ofNat 7))), some (.inl ((Int.ofNat 0), (Int.ofNat 7))), some (.inl ((Int.ofNat 57), (Int.ofNat 57)))], [(696320, .inl ((Int.ofNat 0), (Int.ofNat 0))), (696325, .inl ((Int.ofNat 1), (Int.ofNat 8))), (696326, .inl ((Int.ofNat 1), (Int.ofNat 8)))], 43, ((Int.ofNat 100), [((Int.negSucc 0), false, 3)])), [59]),
  ((29, [some (.inr (.inr (.inl 0))), some (.inl ((Int.ofNat 0), (Int.ofNat 7))), some (.inl ((Int.ofNat 0), (Int.ofNat 7))), some (.inl ((Int.ofNat 58), (Int.ofNat 58)))], [(696320, .inl ((Int.ofNat 0), (Int.ofNat 0))), (696325, .inl ((Int.ofNat 1), (Int.ofNat 8))), (696326, .inl ((Int.ofNat 1), (Int.ofNat 8)))], 42, ((Int.ofNat 100), [((Int.negSucc 0), false, 3)])), [60]),
  ((29, [some (.inr (.inr (.inl 0))), some (.inl ((Int.ofNat 0), (Int.ofNat 7))), some (.inl ((Int.ofNat 0), (Int.ofNat 7))), some (.inl ((Int.ofNat 59), (Int.ofNat 59)))], [(696320, .inl ((Int.ofNat 0), (Int.ofNat 0))), (696325, .inl ((Int.ofNat 1), (Int.ofNat 8))), (696326, .inl ((Int.ofNat 1), (Int.ofNat 8)))], 41, ((Int.ofNat 100), [((Int.negSucc 0), false, 3)])), [61]),
  ((29, [some (.inr (.inr (.inl 0))), some (.inl ((Int.ofNat 0), (Int.ofNat 7))), some (.inl ((Int.ofNat 0), (Int.ofNat 7))), some (.inl ((Int.ofNat 60), (Int.ofNat 60)))], [(696320, .inl ((Int.ofNat 0), (Int.ofNat 0))), (696325, .inl ((Int.ofNat 1), (Int.ofNat 8))), (696326, .inl ((Int.ofNat 1), (Int.ofNat 8)))], 40, ((Int.ofNat 100), [((Int.negSucc 0), false, 3)])), [62]),
  ((29, [some (.inr (.inr (.inl 0))), some (.inl ((Int.ofNat 0), (Int.ofNat 7))), some (.inl ((Int.ofNat 0), (Int.ofNat 7))), some (.inl ((Int.ofNat 61), (Int.ofNat 61)))], [(696320, .inl ((Int.ofNat 0), (Int.ofNat 0))), (696325, .inl ((Int.ofNat 1), (Int.ofNat 8))), (696326, .inl ((Int.ofNat 1), (Int.ofNat 8)))], 39, ((Int.ofNat 100), [((Int.negSucc 0), false, 3)])), [63]),
  ((29, [some (.inr (.inr (.inl 0))), some (.inl ((Int.ofNat 0), (Int.ofNat 7))), some (.inl ((Int.ofNat 0), (Int.ofNat 7))), some (.inl ((Int.ofNat 62), (Int.ofNat 62)))], [(696320, .inl ((Int.ofNat 0), (Int.ofNat 0))), (696325, .inl ((Int.ofNat 1), (Int.ofNat 8))), (696326, .inl ((Int.ofNat 1), (Int.ofNat 8)))], 38, ((Int.ofNat 100), [((Int.negSucc 0), false, 3)])), [64])]
def xnd_266_0_4 : List (xnd × List Nat) := [((29, [some (.inr (.inr (.inl 0))), some (.inl ((Int.ofNat 0), (Int.ofNat 7))), some (.inl ((Int.ofNat 0), (Int.ofNat 7))), some (.inl ((Int.ofNat 63), (Int.ofNat 63)))], [(696320, .inl ((Int.ofNat 0), (Int.ofNat 0))), (696325, .inl ((Int.ofNat 1), (Int.ofNat 8))), (696326, .inl ((Int.ofNat 1), (Int.ofNat 8)))], 37, ((Int.ofNat 100), [((Int.negSucc 0), false, 3)])), [65]),
  ((29, [some (.inr (.inr (.inl 0))), some (.inl ((Int.ofNat 0), (Int.ofNat 7))), some (.inl ((Int.ofNat 0), (Int.ofNat 7))), some (.inl ((Int.ofNat 64), (Int.ofNat 64)))], [(696320, .inl ((Int.ofNat 0), (Int.ofNat 0))), (696325, .inl ((Int.ofNat 1), (Int.ofNat 8))), (696326, .inl ((Int.ofNat 1), (Int.ofNat 8)))], 36, ((Int.ofNat 100), [((Int.negSucc 0), false, 3)])), [66]),
  ((29, [some (.inr (.inr (.inl 0))), some (.inl ((Int.ofNat 0), (Int.ofNat 7))), some (.inl ((Int.ofNat 0), (Int.ofNat 7))), some (.inl ((Int.ofNat 65), (Int.ofNat 65)))], [(696320, .inl ((Int.ofNat 0), (Int.ofNat 0))), (696325, .inl ((Int.ofNat 1), (Int.ofNat 8))), (696326, .inl ((Int.ofNat 1), (Int.ofNat 8)))], 35, ((Int.ofNat 100), [((Int.negSucc 0), false, 3)])), [67]),
  ((29, [some (.inr (.inr (.inl 0))), some (.inl ((Int.ofNat 0), (Int.ofNat 7))), some (.inl ((Int.ofNat 0), (Int.ofNat 7))), some (.inl ((Int.ofNat 66), (Int.ofNat 66)))], [(696320, .inl ((Int.ofNat 0), (Int.ofNat 0))), (696325, .inl ((Int.ofNat 1), (Int.ofNat 8))), (696326, .inl ((Int.ofNat 1), (Int.ofNat 8)))], 34, ((Int.ofNat 100), [((Int.negSucc 0), false, 3)])), [68]),
  ((29, [some (.inr (.inr (.inl 0))), some (.inl ((Int.ofNat 0), (Int.ofNat 7))), some (.inl ((Int.ofNat 0), (Int.ofNat 7))), some (.inl ((Int.ofNat 67), (Int.ofNat 67)))], [(696320, .inl ((Int.ofNat 0), (Int.ofNat 0))), (696325, .inl ((Int.ofNat 1), (Int.ofNat 8))), (696326, .inl ((Int.ofNat 1), (Int.ofNat 8)))], 33, ((Int.ofNat 100), [((Int.negSucc 0), false, 3)])), [69]),
  ((29, [some (.inr (.inr (.inl 0))), some (.inl ((Int.ofNat 0), (Int.ofNat 7))), some (.inl ((Int.ofNat 0), (Int.ofNat 7))), some (.inl ((Int.ofNat 68), (Int.ofNat 68)))], [(696320, .inl ((Int.ofNat 0), (Int.ofNat 0))), (696325, .inl ((Int.ofNat 1), (Int.ofNat 8))), (696326, .inl ((Int.ofNat 1), (Int.ofNat 8)))], 32, ((Int.ofNat 100), [((Int.negSucc 0), false, 3)])), [70]),
  ((29, [some (.inr (.inr (.inl 0))), some (.inl ((Int.ofNat 0), (Int.ofNat 7))), some (.inl ((Int.ofNat 0), (Int.ofNat 7))), some (.inl ((Int.ofNat 69), (Int.ofNat 69)))], [(696320, .inl ((Int.ofNat 0), (Int.ofNat 0))), (696325, .inl ((Int.ofNat 1), (Int.ofNat 8))), (696326, .inl ((Int.ofNat 1), (Int.ofNat 8)))], 31, ((Int.ofNat 100), [((Int.negSucc 0), false, 3)])), [71]),
  ((29, [some (.inr (.inr (.inl 0))), some (.inl ((Int.ofNat 0), (Int.ofNat 7))), some (.inl ((Int.ofNat 0), (Int.ofNat 7))), some (.inl ((Int.ofNat 70), (Int.ofNat 70)))], [(696320, .inl ((Int.ofNat 0), (Int.ofNat 0))), (696325, .inl ((Int.ofNat 1), (Int.ofNat 8))), (696326, .inl ((Int.ofNat 1), (Int.ofNat 8)))], 30, ((Int.ofNat 100), [((Int.negSucc 0), false, 3)])), [72]),
  ((29, [some (.inr (.inr (.inl 0))), some (.inl ((Int.ofNat 0), (Int.ofNat 7))), some (.inl ((Int.ofNat 0), (Int.ofNat 7))), some (.inl ((Int.ofNat 71), (Int.ofNat 71)))], [(696320, .inl ((Int.ofNat 0), (Int.ofNat 0))), (696325, .inl ((Int.ofNat 1), (Int.ofNat 8))), (696326, .inl ((Int.ofNat 1), (Int.ofNat 8)))], 29, ((Int.ofNat 100), [((Int.negSucc 0), false, 3)])), [73]),
  ((29, [some (.inr (.inr (.inl 0))), some (.inl ((Int.ofNat 0), (Int.ofNat 7))), some (.inl ((Int.ofNat 0), (Int.ofNat 7))), some (.inl ((Int.ofNat 72), (Int.ofNat 72)))], [(696320, .inl ((Int.ofNat 0), (Int.ofNat 0))), (696325, .inl ((Int.ofNat 1), (Int.ofNat 8))), (696326, .inl ((Int.ofNat 1), (Int.ofNat 8)))], 28, ((Int.ofNat 100), [((Int.negSucc 0), false, 3)])), [74]),
  ((29, [some (.inr (.inr (.inl 0))), some (.inl ((Int.ofNat 0), (Int.ofNat 7))), some (.inl ((Int.ofNat 0), (Int.ofNat 7))), some (.inl ((Int.ofNat 73), (Int.ofNat 73)))], [(696320, .inl ((Int.ofNat 0), (Int.ofNat 0))), (696325, .inl ((Int.ofNat 1), (Int.ofNat 8))), (696326, .inl ((Int.ofNat 1), (Int.ofNat 8)))], 27, ((Int.ofNat 100), [((Int.negSucc 0), false, 3)])), [75]),
  ((29, [some (.inr (.inr (.inl 0))), some (.inl ((Int.ofNat 0), (Int.ofNat 7))), some (.inl ((Int.ofNat 0), (Int.ofNat 7))), some (.inl ((Int.ofNat 74), (Int.ofNat 74)))], [(696320, .inl ((Int.ofNat 0), (Int.ofNat 0))), (696325, .inl ((Int.ofNat 1), (Int.ofNat 8))), (696326, .inl ((Int.ofNat 1), (Int.ofNat 8)))], 26, ((Int.ofNat 100), [((Int.negSucc 0), false, 3)])), [76]),
  ((29, [some (.inr (.inr (.inl 0))), some (.inl ((Int.ofNat 0), (Int.ofNat 7))), some (.inl ((Int.ofNat 0), (Int.ofNat 7))), some (.inl ((Int.ofNat 75), (Int.ofNat 75)))], [(696320, .inl ((Int.ofNat 0), (Int.ofNat 0))), (696325, .inl ((Int.ofNat 1), (Int.ofNat 8))), (696326, .inl ((Int.ofNat 1), (Int.ofNat 8)))], 25, ((Int.ofNat 100), [((Int.negSucc 0), false, 3)])), [77]),
  ((29, [some (.inr (.inr (.inl 0))), some (.inl ((Int.ofNat 0), (Int.ofNat 7))), some (.inl ((Int.ofNat 0), (Int.ofNat 7))), some (.inl ((Int.ofNat 76), (Int.ofNat 76)))], [(696320, .inl ((Int.ofNat 0), (Int.ofNat 0))), (696325, .inl ((Int.ofNat 1), (Int.ofNat 8))), (696326, .inl ((Int.ofNat 1), (Int.ofNat 8)))], 24, ((Int.ofNat 100), [((Int.negSucc 0), false, 3)])), [78]),
  ((29, [some (.inr (.inr (.inl 0))), some (.inl ((Int.ofNat 0), (Int.ofNat 7))), some (.inl ((Int.ofNat 0), (Int.ofNat 7))), some (.inl ((Int.ofNat 77), (Int.ofNat 77)))], [(696320, .inl ((Int.ofNat 0), (Int.ofNat 0))), (696325, .inl ((Int.ofNat 1), (Int.ofNat 8))), (696326, .inl ((Int.ofNat 1), (Int.ofNat 8)))], 23, ((Int.ofNat 100), [((Int.negSucc 0), false, 3)])), [79]),
  ((29, [some (.inr (.inr (.inl 0))), some (.inl ((Int.ofNat 0), (Int.ofNat 7))), some (.inl ((Int.ofNat 0), (Int.ofNat 7))), some (.inl ((Int.ofNat 78), (Int.ofNat 78)))], [(696320, .inl ((Int.ofNat 0), (Int.ofNat 0))), (696325, .inl ((Int.ofNat 1), (Int.ofNat 8))), (696326, .inl ((Int.ofNat 1), (Int.ofNat 8)))], 22, ((Int.ofNat 100), [((Int.negSucc 0), false, 3)])), [80])]
def xnd_266_0_5 : List (xnd × List Nat) := [((29, [some (.inr (.inr (.inl 0))), some (.inl ((Int.ofNat 0), (Int.ofNat 7))), some (.inl ((Int.ofNat 0), (Int.ofNat 7))), some (.inl ((Int.ofNat 79), (Int.ofNat 79)))], [(696320, .inl ((Int.ofNat 0), (Int.ofNat 0))), (696325, .inl ((Int.ofNat 1), (Int.ofNat 8))), (696326, .inl ((Int.ofNat 1), (Int.ofNat 8)))], 21, ((Int.ofNat 100), [((Int.negSucc 0), false, 3)])), [81]),
  ((29, [some (.inr (.inr (.inl 0))), some (.inl ((Int.ofNat 0), (Int.ofNat 7))), some (.inl ((Int.ofNat 0), (Int.ofNat 7))), some (.inl ((Int.ofNat 80), (Int.ofNat 80)))], [(696320, .inl ((Int.ofNat 0), (Int.ofNat 0))), (696325, .inl ((Int.ofNat 1), (Int.ofNat 8))), (696326, .inl ((Int.ofNat 1), (Int.ofNat 8)))], 20, ((Int.ofNat 100), [((Int.negSucc 0), false, 3)])), [82]),
  ((29, [some (.inr (.inr (.inl 0))), some (.inl ((Int.ofNat 0), (Int.ofNat 7))), some (.inl ((Int.ofNat 0), (Int.ofNat 7))), some (.inl ((Int.ofNat 81), (Int.ofNat 81)))], [(696320, .inl ((Int.ofNat 0), (Int.ofNat 0))), (696325, .inl ((Int.ofNat 1), (Int.ofNat 8))), (696326, .inl ((Int.ofNat 1), (Int.ofNat 8)))], 19, ((Int.ofNat 100), [((Int.negSucc 0), false, 3)])), [83]),
  ((29, [some (.inr (.inr (.inl 0))), some (.inl ((Int.ofNat 0), (Int.ofNat 7))), some (.inl ((Int.ofNat 0), (Int.ofNat 7))), some (.inl ((Int.ofNat 82), (Int.ofNat 82)))], [(696320, .inl ((Int.ofNat 0), (Int.ofNat 0))), (696325, .inl ((Int.ofNat 1), (Int.ofNat 8))), (696326, .inl ((Int.ofNat 1), (Int.ofNat 8)))], 18, ((Int.ofNat 100), [((Int.negSucc 0), false, 3)])), [84]),
  ((29, [some (.inr (.inr (.inl 0))), some (.inl ((Int.ofNat 0), (Int.ofNat 7))), some (.inl ((Int.ofNat 0), (Int.ofNat 7))), some (.inl ((Int.ofNat 83), (Int.ofNat 83)))], [(696320, .inl ((Int.ofNat 0), (Int.ofNat 0))), (696325, .inl ((Int.ofNat 1), (Int.ofNat 8))), (696326, .inl ((Int.ofNat 1), (Int.ofNat 8)))], 17, ((Int.ofNat 100), [((Int.negSucc 0), false, 3)])), [85]),
  ((29, [some (.inr (.inr (.inl 0))), some (.inl ((Int.ofNat 0), (Int.ofNat 7))), some (.inl ((Int.ofNat 0), (Int.ofNat 7))), some (.inl ((Int.ofNat 84), (Int.ofNat 84)))], [(696320, .inl ((Int.ofNat 0), (Int.ofNat 0))), (696325, .inl ((Int.ofNat 1), (Int.ofNat 8))), (696326, .inl ((Int.ofNat 1), (Int.ofNat 8)))], 16, ((Int.ofNat 100), [((Int.negSucc 0), false, 3)])), [86]),
  ((29, [some (.inr (.inr (.inl 0))), some (.inl ((Int.ofNat 0), (Int.ofNat 7))), some (.inl ((Int.ofNat 0), (Int.ofNat 7))), some (.inl ((Int.ofNat 85), (Int.ofNat 85)))], [(696320, .inl ((Int.ofNat 0), (Int.ofNat 0))), (696325, .inl ((Int.ofNat 1), (Int.ofNat 8))), (696326, .inl ((Int.ofNat 1), (Int.ofNat 8)))], 15, ((Int.ofNat 100), [((Int.negSucc 0), false, 3)])), [87]),
  ((29, [some (.inr (.inr (.inl 0))), some (.inl ((Int.ofNat 0), (Int.ofNat 7))), some (.inl ((Int.ofNat 0), (Int.ofNat 7))), some (.inl ((Int.ofNat 86), (Int.ofNat 86)))], [(696320, .inl ((Int.ofNat 0), (Int.ofNat 0))), (696325, .inl ((Int.ofNat 1), (Int.ofNat 8))), (696326, .inl ((Int.ofNat 1), (Int.ofNat 8)))], 14, ((Int.ofNat 100), [((Int.negSucc 0), false, 3)])), [88]),
  ((29, [some (.inr (.inr (.inl 0))), some (.inl ((Int.ofNat 0), (Int.ofNat 7))), some (.inl ((Int.ofNat 0), (Int.ofNat 7))), some (.inl ((Int.ofNat 87), (Int.ofNat 87)))], [(696320, .inl ((Int.ofNat 0), (Int.ofNat 0))), (696325, .inl ((Int.ofNat 1), (Int.ofNat 8))), (696326, .inl ((Int.ofNat 1), (Int.ofNat 8)))], 13, ((Int.ofNat 100), [((Int.negSucc 0), false, 3)])), [89]),
  ((29, [some (.inr (.inr (.inl 0))), some (.inl ((Int.ofNat 0), (Int.ofNat 7))), some (.inl ((Int.ofNat 0), (Int.ofNat 7))), some (.inl ((Int.ofNat 88), (Int.ofNat 88)))], [(696320, .inl ((Int.ofNat 0), (Int.ofNat 0))), (696325, .inl ((Int.ofNat 1), (Int.ofNat 8))), (696326, .inl ((Int.ofNat 1), (Int.ofNat 8)))], 12, ((Int.ofNat 100), [((Int.negSucc 0), false, 3)])), [90]),
  ((29, [some (.inr (.inr (.inl 0))), some (.inl ((Int.ofNat 0), (Int.ofNat 7))), some (.inl ((Int.ofNat 0), (Int.ofNat 7))), some (.inl ((Int.ofNat 89), (Int.ofNat 89)))], [(696320, .inl ((Int.ofNat 0), (Int.ofNat 0))), (696325, .inl ((Int.ofNat 1), (Int.ofNat 8))), (696326, .inl ((Int.ofNat 1), (Int.ofNat 8)))], 11, ((Int.ofNat 100), [((Int.negSucc 0), false, 3)])), [91]),
  ((29, [some (.inr (.inr (.inl 0))), some (.inl ((Int.ofNat 0), (Int.ofNat 7))), some (.inl ((Int.ofNat 0), (Int.ofNat 7))), some (.inl ((Int.ofNat 90), (Int.ofNat 90)))], [(696320, .inl ((Int.ofNat 0), (Int.ofNat 0))), (696325, .inl ((Int.ofNat 1), (Int.ofNat 8))), (696326, .inl ((Int.ofNat 1), (Int.ofNat 8)))], 10, ((Int.ofNat 100), [((Int.negSucc 0), false, 3)])), [92]),
  ((29, [some (.inr (.inr (.inl 0))), some (.inl ((Int.ofNat 0), (Int.ofNat 7))), some (.inl ((Int.ofNat 0), (Int.ofNat 7))), some (.inl ((Int.ofNat 91), (Int.ofNat 91)))], [(696320, .inl ((Int.ofNat 0), (Int.ofNat 0))), (696325, .inl ((Int.ofNat 1), (Int.ofNat 8))), (696326, .inl ((Int.ofNat 1), (Int.ofNat 8)))], 9, ((Int.ofNat 100), [((Int.negSucc 0), false, 3)])), [93]),
  ((29, [some (.inr (.inr (.inl 0))), some (.inl ((Int.ofNat 0), (Int.ofNat 7))), some (.inl ((Int.ofNat 0), (Int.ofNat 7))), some (.inl ((Int.ofNat 92), (Int.ofNat 92)))], [(696320, .inl ((Int.ofNat 0), (Int.ofNat 0))), (696325, .inl ((Int.ofNat 1), (Int.ofNat 8))), (696326, .inl ((Int.ofNat 1), (Int.ofNat 8)))], 8, ((Int.ofNat 100), [((Int.negSucc 0), false, 3)])), [94]),
  ((29, [some (.inr (.inr (.inl 0))), some (.inl ((Int.ofNat 0), (Int.ofNat 7))), some (.inl ((Int.ofNat 0), (Int.ofNat 7))), some (.inl ((Int.ofNat 93), (Int.ofNat 93)))], [(696320, .inl ((Int.ofNat 0), (Int.ofNat 0))), (696325, .inl ((Int.ofNat 1), (Int.ofNat 8))), (696326, .inl ((Int.ofNat 1), (Int.ofNat 8)))], 7, ((Int.ofNat 100), [((Int.negSucc 0), false, 3)])), [95]),
  ((29, [some (.inr (.inr (.inl 0))), some (.inl ((Int.ofNat 0), (Int.ofNat 7))), some (.inl ((Int.ofNat 0), (Int.ofNat 7))), some (.inl ((Int.ofNat 94), (Int.ofNat 94)))], [(696320, .inl ((Int.ofNat 0), (Int.ofNat 0))), (696325, .inl ((Int.ofNat 1), (Int.ofNat 8))), (696326, .inl ((Int.ofNat 1), (Int.ofNat 8)))], 6, ((Int.ofNat 100), [((Int.negSucc 0), false, 3)])), [96])]
def xnd_266_0_6 : List (xnd × List Nat) := [((29, [some (.inr (.inr (.inl 0))), some (.inl ((Int.ofNat 0), (Int.ofNat 7))), some (.inl ((Int.ofNat 0), (Int.ofNat 7))), some (.inl ((Int.ofNat 95), (Int.ofNat 95)))], [(696320, .inl ((Int.ofNat 0), (Int.ofNat 0))), (696325, .inl ((Int.ofNat 1), (Int.ofNat 8))), (696326, .inl ((Int.ofNat 1), (Int.ofNat 8)))], 5, ((Int.ofNat 100), [((Int.negSucc 0), false, 3)])), [97]),
  ((29, [some (.inr (.inr (.inl 0))), some (.inl ((Int.ofNat 0), (Int.ofNat 7))), some (.inl ((Int.ofNat 0), (Int.ofNat 7))), some (.inl ((Int.ofNat 96), (Int.ofNat 96)))], [(696320, .inl ((Int.ofNat 0), (Int.ofNat 0))), (696325, .inl ((Int.ofNat 1), (Int.ofNat 8))), (696326, .inl ((Int.ofNat 1), (Int.ofNat 8)))], 4, ((Int.ofNat 100), [((Int.negSucc 0), false, 3)])), [98]),
  ((29, [some (.inr (.inr (.inl 0))), some (.inl ((Int.ofNat 0), (Int.ofNat 7))), some (.inl ((Int.ofNat 0), (Int.ofNat 7))), some (.inl ((Int.ofNat 97), (Int.ofNat 97)))], [(696320, .inl ((Int.ofNat 0), (Int.ofNat 0))), (696325, .inl ((Int.ofNat 1), (Int.ofNat 8))), (696326, .inl ((Int.ofNat 1), (Int.ofNat 8)))], 3, ((Int.ofNat 100), [((Int.negSucc 0), false, 3)])), [99]),
  ((29, [some (.inr (.inr (.inl 0))), some (.inl ((Int.ofNat 0), (Int.ofNat 7))), some (.inl ((Int.ofNat 0), (Int.ofNat 7))), some (.inl ((Int.ofNat 98), (Int.ofNat 98)))], [(696320, .inl ((Int.ofNat 0), (Int.ofNat 0))), (696325, .inl ((Int.ofNat 1), (Int.ofNat 8))), (696326, .inl ((Int.ofNat 1), (Int.ofNat 8)))], 2, ((Int.ofNat 100), [((Int.negSucc 0), false, 3)])), [100]),
  ((29, [some (.inr (.inr (.inl 0))), some (.inl ((Int.ofNat 0), (Int.ofNat 7))), some (.inl ((Int.ofNat 0), (Int.ofNat 7))), some (.inl ((Int.ofNat 99), (Int.ofNat 99)))], [(696320, .inl ((Int.ofNat 0), (Int.ofNat 0))), (696325, .inl ((Int.ofNat 1), (Int.ofNat 8))), (696326, .inl ((Int.ofNat 1), (Int.ofNat 8)))], 1, ((Int.ofNat 100), [((Int.negSucc 0), false, 3)])), [101]),
  ((29, [some (.inr (.inr (.inl 0))), some (.inl ((Int.ofNat 0), (Int.ofNat 7))), some (.inl ((Int.ofNat 0), (Int.ofNat 7))), some (.inl ((Int.ofNat 100), (Int.ofNat 100)))], [(696320, .inl ((Int.ofNat 0), (Int.ofNat 0))), (696325, .inl ((Int.ofNat 1), (Int.ofNat 8))), (696326, .inl ((Int.ofNat 1), (Int.ofNat 8)))], 0, ((Int.ofNat 100), [((Int.negSucc 0), false, 3)])), [])]
def xns_266_0 : xns := [xnd_266_0_0, xnd_266_0_1, xnd_266_0_2, xnd_266_0_3, xnd_266_0_4, xnd_266_0_5, xnd_266_0_6]
def xsp_266_0 : Nat → Option (Bool × Nat) := fun _ => none
theorem xck_266_0_0 : xnd_266_0_0.all (xnchk xX xsp_266_0 xt_266 [29] xns_266_0 (some (.inl ((Int.negSucc 1), (Int.ofNat 99)))) [] 600) = true := by decide +kernel
theorem xck_266_0_1 : xnd_266_0_1.all (xnchk xX xsp_266_0 xt_266 [29] xns_266_0 (some (.inl ((Int.negSucc 1), (Int.ofNat 99)))) [] 600) = true := by decide +kernel
theorem xck_266_0_2 : xnd_266_0_2.all (xnchk xX xsp_266_0 xt_266 [29] xns_266_0 (some (.inl ((Int.negSucc 1), (Int.ofNat 99)))) [] 600) = true := by decide +kernel
theorem xck_266_0_3 : xnd_266_0_3.all (xnchk xX xsp_266_0 xt_266 [29] xns_266_0 (some (.inl ((Int.negSucc 1), (Int.ofNat 99)))) [] 600) = true := by decide +kernel
theorem xck_266_0_4 : xnd_266_0_4.all (xnchk xX xsp_266_0 xt_266 [29] xns_266_0 (some (.inl ((Int.negSucc 1), (Int.ofNat 99)))) [] 600) = true := by decide +kernel
theorem xck_266_0_5 : xnd_266_0_5.all (xnchk xX xsp_266_0 xt_266 [29] xns_266_0 (some (.inl ((Int.negSucc 1), (Int.ofNat 99)))) [] 600) = true := by decide +kernel
theorem xck_266_0_6 : xnd_266_0_6.all (xnchk xX xsp_266_0 xt_266 [29] xns_266_0 (some (.inl ((Int.negSucc 1), (Int.ofNat 99)))) [] 600) = true := by decide +kernel
theorem xn_266_0 {E : pm_H → Prop} (hE : xHE xX xgA_G95 xgF_G95 E) (hV : ∀ p, E p → xV p) : xcon xX kK E 22 266 [.inr (.inr (.inl 0)), .inl ((Int.negSucc 2147483647), (Int.ofNat 2147483647)), .inl ((Int.negSucc 2147483647), (Int.ofNat 2147483647))] [] 100 (some (.inl ((Int.negSucc 1), (Int.ofNat 99)))) [] := xnodes_ok (nl := 4) (f := 600) (sp := xsp_266_0) (T := xt_266) (cps := [29]) (ns := xns_266_0) rfl rfl (xq_266 hE hV) rfl (List.forall_mem_cons.mpr ⟨List.all_eq_true.mp xck_266_0_0, List.forall_mem_cons.mpr ⟨List.all_eq_true.mp xck_266_0_1, List.forall_mem_cons.mpr ⟨List.all_eq_true.mp xck_266_0_2, List.forall_mem_cons.mpr ⟨List.all_eq_true.mp xck_266_0_3, List.forall_mem_cons.mpr ⟨List.all_eq_true.mp xck_266_0_4, List.forall_mem_cons.mpr ⟨List.all_eq_true.mp xck_266_0_5, List.forall_mem_cons.mpr ⟨List.all_eq_true.mp xck_266_0_6, fun _ h => absurd h List.not_mem_nil⟩⟩⟩⟩⟩⟩⟩)
/-! 267 BVModel.firstWithout (P) -/
theorem xkc_267 {pc : Nat} {e : Nat × Instr × Nat} (h : pm_tl kc_267 pc = some e) : pm_code kK 267 pc = some e := h
noncomputable def xb_267_0 : xb := xpush (xci (Int.negSucc 0)) (xis 2 (xal 0 (xgf xX 13 5 (xpush (xci (Int.ofNat 1)) (xalu (xa2 xo_sub) (xis 3 (xj 9)))))))
theorem xp_267_0 {E : pm_H → Prop} : xok xX kK kK E 1 267 0 xb_267_0 := xpush0_ok (xkc_267 rfl) (fun _ => rfl) (xci_ok (by decide +kernel)) (xis_ok (i := 2) 1 (xkc_267 rfl) (fo_sin kF2) (xal_ok (i := 0) 1 (xkc_267 rfl) (fo_lan kF0) (xgf_ok (b := 0) (by decide) (xkc_267 rfl) rfl (xpush0_ok (xkc_267 rfl) (fun _ => rfl) (xci_ok (by decide +kernel)) (xalu_ok (xkc_267 rfl) (xa2_ok xo_sub_ok (fun _ _ _ _ => rfl)) (xis_ok (i := 3) 1 (xkc_267 rfl) (fo_sin kF3) (xj_ok)))))))
noncomputable def xb_267_9 : xb := xil 3 (xif1 xr_lt xr_ge 41 (xal 1 (xpush (xci (Int.ofNat 24)) (xil 3 (xalu xa_add (xial xX (xcallS 1 xs_303 (xal 0 (xgf xX 13 6 (xif2 xr_ge xr_lt 33 (xil 3 (xj 34))))))))))))
theorem xp_267_9 {E : pm_H → Prop} : xok xX kK kK E 1 267 9 xb_267_9 := xil_ok (i := 3) 1 (xkc_267 rfl) (fo_lin kF3) (xif1_ok (pb := fun x => fo_lt x 0) (aux := 41) (xkc_267 rfl) xr_lt_ok xr_ge_ok fo_iz_lt xz_lt xy_lt (xal_ok (i := 1) 1 (xkc_267 rfl) (fo_lan kF1) (xpush1_ok 2 (xkc_267 rfl) rfl (xci_ok (by decide +kernel)) (xil_ok (i := 3) 1 (xkc_267 rfl) (fo_lin kF3) (xalu_ok (xkc_267 rfl) xa_add_ok (xial_ok (xkc_267 rfl) (xcallS_ok (xkc_267 rfl) rfl (Nat.le_of_ble_eq_true rfl) xso_303 (xal_ok (i := 0) 1 (xkc_267 rfl) (fo_lan kF0) (xgf_ok (b := 0) (by decide) (xkc_267 rfl) rfl (xif2_ok (aux := 33) (xkc_267 rfl) xr_ge_ok xr_lt_ok fo_ic_ge xb_ge (xil_ok (i := 3) 1 (xkc_267 rfl) (fo_lin kF3) (xgoto_ok (xkc_267 rfl)))))))))))))
noncomputable def xb_267_33 : xb := xil 2 (xj 34)
theorem xp_267_33 {E : pm_H → Prop} : xok xX kK kK E 1 267 33 xb_267_33 := xil_ok (i := 2) 1 (xkc_267 rfl) (fo_lin kF2) (xj_ok)
noncomputable def xb_267_34 : xb := xis 2 (xinc 3 (Int.negSucc 0) (xj 9))
theorem xp_267_34 {E : pm_H → Prop} : xok xX kK kK E 1 267 34 xb_267_34 := xis_ok (i := 2) 1 (xkc_267 rfl) (fo_sin kF2) (xinc_ok (xkc_267 rfl) (by decide +kernel) (xgoto_ok (xkc_267 rfl)))
noncomputable def xb_267_41 : xb := xil 2 (xri)
theorem xp_267_41 {E : pm_H → Prop} : xok xX kK kK E 1 267 41 xb_267_41 := xil_ok (i := 2) 1 (xkc_267 rfl) (fo_lin kF2) (xri_ok (xkc_267 rfl) rfl)
noncomputable def xt_267 : List (Nat × xb) := [(0, xb_267_0), (9, xb_267_9), (33, xb_267_33), (34, xb_267_34), (41, xb_267_41)]
theorem xq_267 {E : pm_H → Prop} : ∀ q ∈ xt_267, xok xX kK kK E 1 267 q.1 q.2 := List.forall_mem_cons.mpr ⟨xp_267_0, List.forall_mem_cons.mpr ⟨xp_267_9, List.forall_mem_cons.mpr ⟨xp_267_33, List.forall_mem_cons.mpr ⟨xp_267_34, List.forall_mem_cons.mpr ⟨xp_267_41, fun _ h => absurd h List.not_mem_nil⟩⟩⟩⟩⟩
def xnd_267_0_0 : List (xnd × List Nat) := [((0, [some (.inr (.inr (.inl 0))), some (.inr (.inr (.inl 5))), none, none], [], 0, ((Int.ofNat 9), [])), [1]),
  ((9, [some (.inr (.inr (.inl 0))), some (.inr (.inr (.inl 5))), some (.inl ((Int.negSucc 0), (Int.ofNat 7))), some (.inl ((Int.negSucc 0), (Int.ofNat 7)))], [], 0, ((Int.ofNat 1), [((Int.ofNat 1), false, 3)])), [1])]
def xns_267_0 : xns := [xnd_267_0_0]
def xsp_267_0 : Nat → Option (Bool × Nat) := fun _ => none
theorem xck_267_0_0 : xnd_267_0_0.all (xnchk xX xsp_267_0 xt_267 [9] xns_267_0 (some (.inl ((Int.negSucc 0), (Int.ofNat 7)))) [] 600) = true := by decide +kernel
theorem xn_267_0 {E : pm_H → Prop} : xcon xX kK E 2 267 [.inr (.inr (.inl 0)), .inr (.inr (.inl 5))] [] 0 (some (.inl ((Int.negSucc 0), (Int.ofNat 7)))) [] := xnodes_ok (nl := 4) (f := 600) (sp := xsp_267_0) (T := xt_267) (cps := [9]) (ns := xns_267_0) rfl rfl (xq_267) rfl (List.forall_mem_cons.mpr ⟨List.all_eq_true.mp xck_267_0_0, fun _ h => absurd h List.not_mem_nil⟩)
noncomputable def xs_267 : xc := xalt xX [.inr (.inr (.inl 0)), .inr (.inr (.inl 5))] (xctrP xX [.inr (.inr (.inl 0)), .inr (.inr (.inl 5))] [] (some (.inl ((Int.negSucc 0), (Int.ofNat 7))))) (xnone)
theorem xso_267 {E : pm_H → Prop} : xcok xX kK E 2 267 xs_267 := xalt_ok (xctrP_ok rfl rfl rfl (fun E2 => xn_267_0 (E := E2))) (xnone_ok)
/-! 268 BVModel.all (G95V) -/
theorem xkc_268 {pc : Nat} {e : Nat × Instr × Nat} (h : pm_tl kc_268 pc = some e) : pm_code kK 268 pc = some e := h
noncomputable def xb_268_0 : xb := xal 0 (xpush (xci (Int.ofNat 0)) (xpf xX xgF_G95 13 0 0 (xal 0 (xcallV xX 13 0 xs_256 (xpush (xci (Int.negSucc 0)) (xis 1 (xpush (xci (Int.ofNat 0)) (xis 2 (xj 13)))))))))
theorem xp_268_0 {E : pm_H → Prop} (hE : xHE xX xgA_G95 xgF_G95 E) (hV : ∀ p, E p → xV p) : xok xX kK kK E 21 268 0 xb_268_0 := xal_ok (i := 0) 1 (xkc_268 rfl) (fo_lan kF0) (xpush0_ok (xkc_268 rfl) (fun _ => rfl) (xci_ok (by decide +kernel)) (xpf_ok xsn_G95 hE (by decide) (xkc_268 rfl) rfl rfl xz0 (xal_ok (i := 0) 1 (xkc_268 rfl) (fo_lan kF0) (xcallV_ok (xkc_268 rfl) rfl (Nat.le_of_ble_eq_true rfl) (xso_256 (xhe_G95_G93 hE)) (xpush0_ok (xkc_268 rfl) (fun _ => rfl) (xci_ok (by decide +kernel)) (xis_ok (i := 1) 1 (xkc_268 rfl) (fo_sin kF1) (xpush0_ok (xkc_268 rfl) (fun _ => rfl) (xci_ok (by decide +kernel)) (xis_ok (i := 2) 1 (xkc_268 rfl) (fo_sin kF2) (xj_ok)))))))))
noncomputable def xb_268_13 : xb := xil 2 (xpush (xci (Int.ofNat 99)) (xif2 xr_gt xr_le 61 (xal 0 (xal 0 (xgf xX 13 12 (xcallV xX 13 1 xs_267 (xis 3 (xil 3 (xif1 xr_ge xr_lt 45 (xal 0 (xpush (xci (Int.ofNat 0)) (xpf xX xgF_G95 13 1 0 (xal 0 (xil 1 (xalu xa_i2l (xcallV xX 13 1 xs_186 (xil 2 (xri))))))))))))))))))
theorem xp_268_13 {E : pm_H → Prop} (hE : xHE xX xgA_G95 xgF_G95 E) (hV : ∀ p, E p → xV p) : xok xX kK kK E 21 268 13 xb_268_13 := xil_ok (i := 2) 1 (xkc_268 rfl) (fo_lin kF2) (xpush1_ok 2 (xkc_268 rfl) rfl (xci_ok (by decide +kernel)) (xif2_ok (aux := 61) (xkc_268 rfl) xr_gt_ok xr_le_ok fo_ic_gt xb_gt (xal_ok (i := 0) 1 (xkc_268 rfl) (fo_lan kF0) (xal_ok (i := 0) 1 (xkc_268 rfl) (fo_lan kF0) (xgf_ok (b := 0) (by decide) (xkc_268 rfl) rfl (xcallV_ok (xkc_268 rfl) rfl (Nat.le_of_ble_eq_true rfl) xso_267 (xis_ok (i := 3) 1 (xkc_268 rfl) (fo_sin kF3) (xil_ok (i := 3) 1 (xkc_268 rfl) (fo_lin kF3) (xif1_ok (pb := fun x => fo_ge x 0) (aux := 45) (xkc_268 rfl) xr_ge_ok xr_lt_ok fo_iz_ge xz_ge xy_ge (xal_ok (i := 0) 1 (xkc_268 rfl) (fo_lan kF0) (xpush0_ok (xkc_268 rfl) (fun _ => rfl) (xci_ok (by decide +kernel)) (xpf_ok xsn_G95 hE (by decide) (xkc_268 rfl) rfl rfl xz0 (xal_ok (i := 0) 1 (xkc_268 rfl) (fo_lan kF0) (xil_ok (i := 1) 1 (xkc_268 rfl) (fo_lin kF1) (xalu_ok (xkc_268 rfl) xa_i2l_ok (xcallV_ok (xkc_268 rfl) rfl (Nat.le_of_ble_eq_true rfl) (xso_186 (xhe_G95_G58 hE)) (xil_ok (i := 2) 1 (xkc_268 rfl) (fo_lin kF2) (xri_ok (xkc_268 rfl) rfl))))))))))))))))))
noncomputable def xb_268_45 : xb := xil 3 (xis 1 (xal 0 (xal 0 (xgf xX 13 12 (xcallV xX 13 1 xs_345 (xinc 2 (Int.ofNat 1) (xj 13)))))))
theorem xp_268_45 {E : pm_H → Prop} (hE : xHE xX xgA_G95 xgF_G95 E) (hV : ∀ p, E p → xV p) : xok xX kK kK E 21 268 45 xb_268_45 := xil_ok (i := 3) 1 (xkc_268 rfl) (fo_lin kF3) (xis_ok (i := 1) 1 (xkc_268 rfl) (fo_sin kF1) (xal_ok (i := 0) 1 (xkc_268 rfl) (fo_lan kF0) (xal_ok (i := 0) 1 (xkc_268 rfl) (fo_lan kF0) (xgf_ok (b := 0) (by decide) (xkc_268 rfl) rfl (xcallV_ok (xkc_268 rfl) rfl (Nat.le_of_ble_eq_true rfl) (xso_345 (xhe_G95_G8 hE) hV) (xinc_ok (xkc_268 rfl) (by decide +kernel) (xgoto_ok (xkc_268 rfl))))))))
noncomputable def xb_268_61 : xb := xpush (xci (Int.negSucc 1)) (xri)
theorem xp_268_61 {E : pm_H → Prop} (hE : xHE xX xgA_G95 xgF_G95 E) (hV : ∀ p, E p → xV p) : xok xX kK kK E 21 268 61 xb_268_61 := xpush1_ok 2 (xkc_268 rfl) rfl (xci_ok (by decide +kernel)) (xri_ok (xkc_268 rfl) rfl)
noncomputable def xt_268 : List (Nat × xb) := [(0, xb_268_0), (13, xb_268_13), (45, xb_268_45), (61, xb_268_61)]
theorem xq_268 {E : pm_H → Prop} (hE : xHE xX xgA_G95 xgF_G95 E) (hV : ∀ p, E p → xV p) : ∀ q ∈ xt_268, xok xX kK kK E 21 268 q.1 q.2 := List.forall_mem_cons.mpr ⟨xp_268_0 hE hV, List.forall_mem_cons.mpr ⟨xp_268_13 hE hV, List.forall_mem_cons.mpr ⟨xp_268_45 hE hV, List.forall_mem_cons.mpr ⟨xp_268_61 hE hV, fun _ h => absurd h List.not_mem_nil⟩⟩⟩⟩
def xnd_268_0_0 : List (xnd × List Nat) := [((0, [some (.inr (.inr (.inl 0))), none, none, none], [], 100, ((Int.ofNat 101), [])), [1]),
  ((13, [some (.inr (.inr (.inl 0))), some (.inl ((Int.negSucc 0), (Int.negSucc 0))), some (.inl ((Int.ofNat 0), (Int.ofNat 0))), none], [(696320, .inl ((Int.ofNat 0), (Int.ofNat 0)))], 100, ((Int.ofNat 100), [((Int.negSucc 0), false, 2)])), [2]),
  ((13, [some (.inr (.inr (.inl 0))), some (.inl ((Int.ofNat 0), (Int.ofNat 7))), some (.inl ((Int.ofNat 1), (Int.ofNat 1))), none], [(696320, .inl ((Int.ofNat 0), (Int.ofNat 0)))], 99, ((Int.ofNat 100), [((Int.negSucc 0), false, 2)])), [3]),
  ((13, [some (.inr (.inr (.inl 0))), some (.inl ((Int.ofNat 0), (Int.ofNat 7))), some (.inl ((Int.ofNat 2), (Int.ofNat 2))), none], [(696320, .inl ((Int.ofNat 0), (Int.ofNat 0)))], 98, ((Int.ofNat 100), [((Int.negSucc 0), false, 2)])), [4]),
  ((13, [some (.inr (.inr (.inl 0))), some (.inl ((Int.ofNat 0), (Int.ofNat 7))), some (.inl ((Int.ofNat 3), (Int.ofNat 3))), none], [(696320, .inl ((Int.ofNat 0), (Int.ofNat 0)))], 97, ((Int.ofNat 100), [((Int.negSucc 0), false, 2)])), [5]),
  ((13, [some (.inr (.inr (.inl 0))), some (.inl ((Int.ofNat 0), (Int.ofNat 7))), some (.inl ((Int.ofNat 4), (Int.ofNat 4))), none], [(696320, .inl ((Int.ofNat 0), (Int.ofNat 0)))], 96, ((Int.ofNat 100), [((Int.negSucc 0), false, 2)])), [6]),
  ((13, [some (.inr (.inr (.inl 0))), some (.inl ((Int.ofNat 0), (Int.ofNat 7))), some (.inl ((Int.ofNat 5), (Int.ofNat 5))), none], [(696320, .inl ((Int.ofNat 0), (Int.ofNat 0)))], 95, ((Int.ofNat 100), [((Int.negSucc 0), false, 2)])), [7]),
  ((13, [some (.inr (.inr (.inl 0))), some (.inl ((Int.ofNat 0), (Int.ofNat 7))), some (.inl ((Int.ofNat 6), (Int.ofNat 6))), none], [(696320, .inl ((Int.ofNat 0), (Int.ofNat 0)))], 94, ((Int.ofNat 100), [((Int.negSucc 0), false, 2)])), [8]),
  ((13, [some (.inr (.inr (.inl 0))), some (.inl ((Int.ofNat 0), (Int.ofNat 7))), some (.inl ((Int.ofNat 7), (Int.ofNat 7))), none], [(696320, .inl ((Int.ofNat 0), (Int.ofNat 0)))], 93, ((Int.ofNat 100), [((Int.negSucc 0), false, 2)])), [9]),
  ((13, [some (.inr (.inr (.inl 0))), some (.inl ((Int.ofNat 0), (Int.ofNat 7))), some (.inl ((Int.ofNat 8), (Int.ofNat 8))), none], [(696320, .inl ((Int.ofNat 0), (Int.ofNat 0)))], 92, ((Int.ofNat 100), [((Int.negSucc 0), false, 2)])), [10]),
  ((13, [some (.inr (.inr (.inl 0))), some (.inl ((Int.ofNat 0), (Int.ofNat 7))), some (.inl ((Int.ofNat 9), (Int.ofNat 9))), none], [(696320, .inl ((Int.ofNat 0), (Int.ofNat 0)))], 91, ((Int.ofNat 100), [((Int.negSucc 0), false, 2)])), [11]),
  ((13, [some (.inr (.inr (.inl 0))), some (.inl ((Int.ofNat 0), (Int.ofNat 7))), some (.inl ((Int.ofNat 10), (Int.ofNat 10))), none], [(696320, .inl ((Int.ofNat 0), (Int.ofNat 0)))], 90, ((Int.ofNat 100), [((Int.negSucc 0), false, 2)])), [12]),
  ((13, [some (.inr (.inr (.inl 0))), some (.inl ((Int.ofNat 0), (Int.ofNat 7))), some (.inl ((Int.ofNat 11), (Int.ofNat 11))), none], [(696320, .inl ((Int.ofNat 0), (Int.ofNat 0)))], 89, ((Int.ofNat 100), [((Int.negSucc 0), false, 2)])), [13]),
  ((13, [some (.inr (.inr (.inl 0))), some (.inl ((Int.ofNat 0), (Int.ofNat 7))), some (.inl ((Int.ofNat 12), (Int.ofNat 12))), none], [(696320, .inl ((Int.ofNat 0), (Int.ofNat 0)))], 88, ((Int.ofNat 100), [((Int.negSucc 0), false, 2)])), [14]),
  ((13, [some (.inr (.inr (.inl 0))), some (.inl ((Int.ofNat 0), (Int.ofNat 7))), some (.inl ((Int.ofNat 13), (Int.ofNat 13))), none], [(696320, .inl ((Int.ofNat 0), (Int.ofNat 0)))], 87, ((Int.ofNat 100), [((Int.negSucc 0), false, 2)])), [15]),
  ((13, [some (.inr (.inr (.inl 0))), some (.inl ((Int.ofNat 0), (Int.ofNat 7))), some (.inl ((Int.ofNat 14), (Int.ofNat 14))), none], [(696320, .inl ((Int.ofNat 0), (Int.ofNat 0)))], 86, ((Int.ofNat 100), [((Int.negSucc 0), false, 2)])), [16])]
def xnd_268_0_1 : List (xnd × List Nat) := [((13, [some (.inr (.inr (.inl 0))), some (.inl ((Int.ofNat 0), (Int.ofNat 7))), some (.inl ((Int.ofNat 15), (Int.ofNat 15))), none], [(696320, .inl ((Int.ofNat 0), (Int.ofNat 0)))], 85, ((Int.ofNat 100), [((Int.negSucc 0), false, 2)])), [17]),
  ((13, [some (.inr (.inr (.inl 0))), some (.inl ((Int.ofNat 0), (Int.ofNat 7))), some (.inl ((Int.ofNat 16), (Int.ofNat 16))), none], [(696320, .inl ((Int.ofNat 0), (Int.ofNat 0)))], 84, ((Int.ofNat 100), [((Int.negSucc 0), false, 2)])), [18]),
  ((13, [some (.inr (.inr (.inl 0))), some (.inl ((Int.ofNat 0), (Int.ofNat 7))), some (.inl ((Int.ofNat 17), (Int.ofNat 17))), none], [(696320, .inl ((Int.ofNat 0), (Int.ofNat 0)))], 83, ((Int.ofNat 100), [((Int.negSucc 0), false, 2)])), [19]),
  ((13, [some (.inr (.inr (.inl 0))), some (.inl ((Int.ofNat 0), (Int.ofNat 7))), some (.inl ((Int.ofNat 18), (Int.ofNat 18))), none], [(696320, .inl ((Int.ofNat 0), (Int.ofNat 0)))], 82, ((Int.ofNat 100), [((Int.negSucc 0), false, 2)])), [20]),
  ((13, [some (.inr (.inr (.inl 0))), some (.inl ((Int.ofNat 0), (Int.ofNat 7))), some (.inl ((Int.ofNat 19), (Int.ofNat 19))), none], [(696320, .inl ((Int.ofNat 0), (Int.ofNat 0)))], 81, ((Int.ofNat 100), [((Int.negSucc 0), false, 2)])), [21]),
  ((13, [some (.inr (.inr (.inl 0))), some (.inl ((Int.ofNat 0), (Int.ofNat 7))), some (.inl ((Int.ofNat 20), (Int.ofNat 20))), none], [(696320, .inl ((Int.ofNat 0), (Int.ofNat 0)))], 80, ((Int.ofNat 100), [((Int.negSucc 0), false, 2)])), [22]),
  ((13, [some (.inr (.inr (.inl 0))), some (.inl ((Int.ofNat 0), (Int.ofNat 7))), some (.inl ((Int.ofNat 21), (Int.ofNat 21))), none], [(696320, .inl ((Int.ofNat 0), (Int.ofNat 0)))], 79, ((Int.ofNat 100), [((Int.negSucc 0), false, 2)])), [23]),
  ((13, [some (.inr (.inr (.inl 0))), some (.inl ((Int.ofNat 0), (Int.ofNat 7))), some (.inl ((Int.ofNat 22), (Int.ofNat 22))), none], [(696320, .inl ((Int.ofNat 0), (Int.ofNat 0)))], 78, ((Int.ofNat 100), [((Int.negSucc 0), false, 2)])), [24]),
  ((13, [some (.inr (.inr (.inl 0))), some (.inl ((Int.ofNat 0), (Int.ofNat 7))), some (.inl ((Int.ofNat 23), (Int.ofNat 23))), none], [(696320, .inl ((Int.ofNat 0), (Int.ofNat 0)))], 77, ((Int.ofNat 100), [((Int.negSucc 0), false, 2)])), [25]),
  ((13, [some (.inr (.inr (.inl 0))), some (.inl ((Int.ofNat 0), (Int.ofNat 7))), some (.inl ((Int.ofNat 24), (Int.ofNat 24))), none], [(696320, .inl ((Int.ofNat 0), (Int.ofNat 0)))], 76, ((Int.ofNat 100), [((Int.negSucc 0), false, 2)])), [26]),
  ((13, [some (.inr (.inr (.inl 0))), some (.inl ((Int.ofNat 0), (Int.ofNat 7))), some (.inl ((Int.ofNat 25), (Int.ofNat 25))), none], [(696320, .inl ((Int.ofNat 0), (Int.ofNat 0)))], 75, ((Int.ofNat 100), [((Int.negSucc 0), false, 2)])), [27]),
  ((13, [some (.inr (.inr (.inl 0))), some (.inl ((Int.ofNat 0), (Int.ofNat 7))), some (.inl ((Int.ofNat 26), (Int.ofNat 26))), none], [(696320, .inl ((Int.ofNat 0), (Int.ofNat 0)))], 74, ((Int.ofNat 100), [((Int.negSucc 0), false, 2)])), [28]),
  ((13, [some (.inr (.inr (.inl 0))), some (.inl ((Int.ofNat 0), (Int.ofNat 7))), some (.inl ((Int.ofNat 27), (Int.ofNat 27))), none], [(696320, .inl ((Int.ofNat 0), (Int.ofNat 0)))], 73, ((Int.ofNat 100), [((Int.negSucc 0), false, 2)])), [29]),
  ((13, [some (.inr (.inr (.inl 0))), some (.inl ((Int.ofNat 0), (Int.ofNat 7))), some (.inl ((Int.ofNat 28), (Int.ofNat 28))), none], [(696320, .inl ((Int.ofNat 0), (Int.ofNat 0)))], 72, ((Int.ofNat 100), [((Int.negSucc 0), false, 2)])), [30]),
  ((13, [some (.inr (.inr (.inl 0))), some (.inl ((Int.ofNat 0), (Int.ofNat 7))), some (.inl ((Int.ofNat 29), (Int.ofNat 29))), none], [(696320, .inl ((Int.ofNat 0), (Int.ofNat 0)))], 71, ((Int.ofNat 100), [((Int.negSucc 0), false, 2)])), [31]),
  ((13, [some (.inr (.inr (.inl 0))), some (.inl ((Int.ofNat 0), (Int.ofNat 7))), some (.inl ((Int.ofNat 30), (Int.ofNat 30))), none], [(696320, .inl ((Int.ofNat 0), (Int.ofNat 0)))], 70, ((Int.ofNat 100), [((Int.negSucc 0), false, 2)])), [32])]
def xnd_268_0_2 : List (xnd × List Nat) := [((13, [some (.inr (.inr (.inl 0))), some (.inl ((Int.ofNat 0), (Int.ofNat 7))), some (.inl ((Int.ofNat 31), (Int.ofNat 31))), none], [(696320, .inl ((Int.ofNat 0), (Int.ofNat 0)))], 69, ((Int.ofNat 100), [((Int.negSucc 0), false, 2)])), [33]),
  ((13, [some (.inr (.inr (.inl 0))), some (.inl ((Int.ofNat 0), (Int.ofNat 7))), some (.inl ((Int.ofNat 32), (Int.ofNat 32))), none], [(696320, .inl ((Int.ofNat 0), (Int.ofNat 0)))], 68, ((Int.ofNat 100), [((Int.negSucc 0), false, 2)])), [34]),
  ((13, [some (.inr (.inr (.inl 0))), some (.inl ((Int.ofNat 0), (Int.ofNat 7))), some (.inl ((Int.ofNat 33), (Int.ofNat 33))), none], [(696320, .inl ((Int.ofNat 0), (Int.ofNat 0)))], 67, ((Int.ofNat 100), [((Int.negSucc 0), false, 2)])), [35]),
  ((13, [some (.inr (.inr (.inl 0))), some (.inl ((Int.ofNat 0), (Int.ofNat 7))), some (.inl ((Int.ofNat 34), (Int.ofNat 34))), none], [(696320, .inl ((Int.ofNat 0), (Int.ofNat 0)))], 66, ((Int.ofNat 100), [((Int.negSucc 0), false, 2)])), [36]),
  ((13, [some (.inr (.inr (.inl 0))), some (.inl ((Int.ofNat 0), (Int.ofNat 7))), some (.inl ((Int.ofNat 35), (Int.ofNat 35))), none], [(696320, .inl ((Int.ofNat 0), (Int.ofNat 0)))], 65, ((Int.ofNat 100), [((Int.negSucc 0), false, 2)])), [37]),
  ((13, [some (.inr (.inr (.inl 0))), some (.inl ((Int.ofNat 0), (Int.ofNat 7))), some (.inl ((Int.ofNat 36), (Int.ofNat 36))), none], [(696320, .inl ((Int.ofNat 0), (Int.ofNat 0)))], 64, ((Int.ofNat 100), [((Int.negSucc 0), false, 2)])), [38]),
  ((13, [some (.inr (.inr (.inl 0))), some (.inl ((Int.ofNat 0), (Int.ofNat 7))), some (.inl ((Int.ofNat 37), (Int.ofNat 37))), none], [(696320, .inl ((Int.ofNat 0), (Int.ofNat 0)))], 63, ((Int.ofNat 100), [((Int.negSucc 0), false, 2)])), [39]),
  ((13, [some (.inr (.inr (.inl 0))), some (.inl ((Int.ofNat 0), (Int.ofNat 7))), some (.inl ((Int.ofNat 38), (Int.ofNat 38))), none], [(696320, .inl ((Int.ofNat 0), (Int.ofNat 0)))], 62, ((Int.ofNat 100), [((Int.negSucc 0), false, 2)])), [40]),
  ((13, [some (.inr (.inr (.inl 0))), some (.inl ((Int.ofNat 0), (Int.ofNat 7))), some (.inl ((Int.ofNat 39), (Int.ofNat 39))), none], [(696320, .inl ((Int.ofNat 0), (Int.ofNat 0)))], 61, ((Int.ofNat 100), [((Int.negSucc 0), false, 2)])), [41]),
  ((13, [some (.inr (.inr (.inl 0))), some (.inl ((Int.ofNat 0), (Int.ofNat 7))), some (.inl ((Int.ofNat 40), (Int.ofNat 40))), none], [(696320, .inl ((Int.ofNat 0), (Int.ofNat 0)))], 60, ((Int.ofNat 100), [((Int.negSucc 0), false, 2)])), [42]),
  ((13, [some (.inr (.inr (.inl 0))), some (.inl ((Int.ofNat 0), (Int.ofNat 7))), some (.inl ((Int.ofNat 41), (Int.ofNat 41))), none], [(696320, .inl ((Int.ofNat 0), (Int.ofNat 0)))], 59, ((Int.ofNat 100), [((Int.negSucc 0), false, 2)])), [43]),
  ((13, [some (.inr (.inr (.inl 0))), some (.inl ((Int.ofNat 0), (Int.ofNat 7))), some (.inl ((Int.ofNat 42), (Int.ofNat 42))), none], [(696320, .inl ((Int.ofNat 0), (Int.ofNat 0)))], 58, ((Int.ofNat 100), [((Int.negSucc 0), false, 2)])), [44]),
  ((13, [some (.inr (.inr (.inl 0))), some (.inl ((Int.ofNat 0), (Int.ofNat 7))), some (.inl ((Int.ofNat 43), (Int.ofNat 43))), none], [(696320, .inl ((Int.ofNat 0), (Int.ofNat 0)))], 57, ((Int.ofNat 100), [((Int.negSucc 0), false, 2)])), [45]),
  ((13, [some (.inr (.inr (.inl 0))), some (.inl ((Int.ofNat 0), (Int.ofNat 7))), some (.inl ((Int.ofNat 44), (Int.ofNat 44))), none], [(696320, .inl ((Int.ofNat 0), (Int.ofNat 0)))], 56, ((Int.ofNat 100), [((Int.negSucc 0), false, 2)])), [46]),
  ((13, [some (.inr (.inr (.inl 0))), some (.inl ((Int.ofNat 0), (Int.ofNat 7))), some (.inl ((Int.ofNat 45), (Int.ofNat 45))), none], [(696320, .inl ((Int.ofNat 0), (Int.ofNat 0)))], 55, ((Int.ofNat 100), [((Int.negSucc 0), false, 2)])), [47]),
  ((13, [some (.inr (.inr (.inl 0))), some (.inl ((Int.ofNat 0), (Int.ofNat 7))), some (.inl ((Int.ofNat 46), (Int.ofNat 46))), none], [(696320, .inl ((Int.ofNat 0), (Int.ofNat 0)))], 54, ((Int.ofNat 100), [((Int.negSucc 0), false, 2)])), [48])]
def xnd_268_0_3 : List (xnd × List Nat) := [((13, [some (.inr (.inr (.inl 0))), some (.inl ((Int.ofNat 0), (Int.ofNat 7))), some (.inl ((Int.ofNat 47), (Int.ofNat 47))), none], [(696320, .inl ((Int.ofNat 0), (Int.ofNat 0)))], 53, ((Int.ofNat 100), [((Int.negSucc 0), false, 2)])), [49]),
  ((13, [some (.inr (.inr (.inl 0))), some (.inl ((Int.ofNat 0), (Int.ofNat 7))), some (.inl ((Int.ofNat 48), (Int.ofNat 48))), none], [(696320, .inl ((Int.ofNat 0), (Int.ofNat 0)))], 52, ((Int.ofNat 100), [((Int.negSucc 0), false, 2)])), [50]),
  ((13, [some (.inr (.inr (.inl 0))), some (.inl ((Int.ofNat 0), (Int.ofNat 7))), some (.inl ((Int.ofNat 49), (Int.ofNat 49))), none], [(696320, .inl ((Int.ofNat 0), (Int.ofNat 0)))], 51, ((Int.ofNat 100), [((Int.negSucc 0), false, 2)])), [51]),
  ((13, [some (.inr (.inr (.inl 0))), some (.inl ((Int.ofNat 0), (Int.ofNat 7))), some (.inl ((Int.ofNat 50), (Int.ofNat 50))), none], [(696320, .inl ((Int.ofNat 0), (Int.ofNat 0)))], 50, ((Int.ofNat 100), [((Int.negSucc 0), false, 2)])), [52]),
  ((13, [some (.inr (.inr (.inl 0))), some (.inl ((Int.ofNat 0), (Int.ofNat 7))), some (.inl ((Int.ofNat 51), (Int.ofNat 51))), none], [(696320, .inl ((Int.ofNat 0), (Int.ofNat 0)))], 49, ((Int.ofNat 100), [((Int.negSucc 0), false, 2)])), [53]),
  ((13, [some (.inr (.inr (.inl 0))), some (.inl ((Int.ofNat 0), (Int.ofNat 7))), some (.inl ((Int.ofNat 52), (Int.ofNat 52))), none], [(696320, .inl ((Int.ofNat 0), (Int.ofNat 0)))], 48, ((Int.ofNat 100), [((Int.negSucc 0), false, 2)])), [54]),
  ((13, [some (.inr (.inr (.inl 0))), some (.inl ((Int.ofNat 0), (Int.ofNat 7))), some (.inl ((Int.ofNat 53), (Int.ofNat 53))), none], [(696320, .inl ((Int.ofNat 0), (Int.ofNat 0)))], 47, ((Int.ofNat 100), [((Int.negSucc 0), false, 2)])), [55]),
  ((13, [some (.inr (.inr (.inl 0))), some (.inl ((Int.ofNat 0), (Int.ofNat 7))), some (.inl ((Int.ofNat 54), (Int.ofNat 54))), none], [(696320, .inl ((Int.ofNat 0), (Int.ofNat 0)))], 46, ((Int.ofNat 100), [((Int.negSucc 0), false, 2)])), [56]),
  ((13, [some (.inr (.inr (.inl 0))), some (.inl ((Int.ofNat 0), (Int.ofNat 7))), some (.inl ((Int.ofNat 55), (Int.ofNat 55))), none], [(696320, .inl ((Int.ofNat 0), (Int.ofNat 0)))], 45, ((Int.ofNat 100), [((Int.negSucc 0), false, 2)])), [57]),
  ((13, [some (.inr (.inr (.inl 0))), some (.inl ((Int.ofNat 0), (Int.ofNat 7))), some (.inl ((Int.ofNat 56), (Int.ofNat 56))), none], [(696320, .inl ((Int.ofNat 0), (Int.ofNat 0)))], 44, ((Int.ofNat 100), [((Int.negSucc 0), false, 2)])), [58]),
  ((13, [some (.inr (.inr (.inl 0))), some (.inl ((Int.ofNat 0), (Int.ofNat 7))), some (.inl ((Int.ofNat 57), (Int.ofNat 57))), none], [(696320, .inl ((Int.ofNat 0), (Int.ofNat 0)))], 43, ((Int.ofNat 100), [((Int.negSucc 0), false, 2)])), [59]),
  ((13, [some (.inr (.inr (.inl 0))), some (.inl ((Int.ofNat 0), (Int.ofNat 7))), some (.inl ((Int.ofNat 58), (Int.ofNat 58))), none], [(696320, .inl ((Int.ofNat 0), (Int.ofNat 0)))], 42, ((Int.ofNat 100), [((Int.negSucc 0), false, 2)])), [60]),
  ((13, [some (.inr (.inr (.inl 0))), some (.inl ((Int.ofNat 0), (Int.ofNat 7))), some (.inl ((Int.ofNat 59), (Int.ofNat 59))), none], [(696320, .inl ((Int.ofNat 0), (Int.ofNat 0)))], 41, ((Int.ofNat 100), [((Int.negSucc 0), false, 2)])), [61]),
  ((13, [some (.inr (.inr (.inl 0))), some (.inl ((Int.ofNat 0), (Int.ofNat 7))), some (.inl ((Int.ofNat 60), (Int.ofNat 60))), none], [(696320, .inl ((Int.ofNat 0), (Int.ofNat 0)))], 40, ((Int.ofNat 100), [((Int.negSucc 0), false, 2)])), [62]),
  ((13, [some (.inr (.inr (.inl 0))), some (.inl ((Int.ofNat 0), (Int.ofNat 7))), some (.inl ((Int.ofNat 61), (Int.ofNat 61))), none], [(696320, .inl ((Int.ofNat 0), (Int.ofNat 0)))], 39, ((Int.ofNat 100), [((Int.negSucc 0), false, 2)])), [63]),
  ((13, [some (.inr (.inr (.inl 0))), some (.inl ((Int.ofNat 0), (Int.ofNat 7))), some (.inl ((Int.ofNat 62), (Int.ofNat 62))), none], [(696320, .inl ((Int.ofNat 0), (Int.ofNat 0)))], 38, ((Int.ofNat 100), [((Int.negSucc 0), false, 2)])), [64])]
def xnd_268_0_4 : List (xnd × List Nat) := [((13, [some (.inr (.inr (.inl 0))), some (.inl ((Int.ofNat 0), (Int.ofNat 7))), some (.inl ((Int.ofNat 63), (Int.ofNat 63))), none], [(696320, .inl ((Int.ofNat 0), (Int.ofNat 0)))], 37, ((Int.ofNat 100), [((Int.negSucc 0), false, 2)])), [65]),
  ((13, [some (.inr (.inr (.inl 0))), some (.inl ((Int.ofNat 0), (Int.ofNat 7))), some (.inl ((Int.ofNat 64), (Int.ofNat 64))), none], [(696320, .inl ((Int.ofNat 0), (Int.ofNat 0)))], 36, ((Int.ofNat 100), [((Int.negSucc 0), false, 2)])), [66]),
  ((13, [some (.inr (.inr (.inl 0))), some (.inl ((Int.ofNat 0), (Int.ofNat 7))), some (.inl ((Int.ofNat 65), (Int.ofNat 65))), none], [(696320, .inl ((Int.ofNat 0), (Int.ofNat 0)))], 35, ((Int.ofNat 100), [((Int.negSucc 0), false, 2)])), [67]),
  ((13, [some (.inr (.inr (.inl 0))), some (.inl ((Int.ofNat 0), (Int.ofNat 7))), some (.inl ((Int.ofNat 66), (Int.ofNat 66))), none], [(696320, .inl ((Int.ofNat 0), (Int.ofNat 0)))], 34, ((Int.ofNat 100), [((Int.negSucc 0), false, 2)])), [68]),
  ((13, [some (.inr (.inr (.inl 0))), some (.inl ((Int.ofNat 0), (Int.ofNat 7))), some (.inl ((Int.ofNat 67), (Int.ofNat 67))), none], [(696320, .inl ((Int.ofNat 0), (Int.ofNat 0)))], 33, ((Int.ofNat 100), [((Int.negSucc 0), false, 2)])), [69]),
  ((13, [some (.inr (.inr (.inl 0))), some (.inl ((Int.ofNat 0), (Int.ofNat 7))), some (.inl ((Int.ofNat 68), (Int.ofNat 68))), none], [(696320, .inl ((Int.ofNat 0), (Int.ofNat 0)))], 32, ((Int.ofNat 100), [((Int.negSucc 0), false, 2)])), [70]),
  ((13, [some (.inr (.inr (.inl 0))), some (.inl ((Int.ofNat 0), (Int.ofNat 7))), some (.inl ((Int.ofNat 69), (Int.ofNat 69))), none], [(696320, .inl ((Int.ofNat 0), (Int.ofNat 0)))], 31, ((Int.ofNat 100), [((Int.negSucc 0), false, 2)])), [71]),
  ((13, [some (.inr (.inr (.inl 0))), some (.inl ((Int.ofNat 0), (Int.ofNat 7))), some (.inl ((Int.ofNat 70), (Int.ofNat 70))), none], [(696320, .inl ((Int.ofNat 0), (Int.ofNat 0)))], 30, ((Int.ofNat 100), [((Int.negSucc 0), false, 2)])), [72]),
  ((13, [some (.inr (.inr (.inl 0))), some (.inl ((Int.ofNat 0), (Int.ofNat 7))), some (.inl ((Int.ofNat 71), (Int.ofNat 71))), none], [(696320, .inl ((Int.ofNat 0), (Int.ofNat 0)))], 29, ((Int.ofNat 100), [((Int.negSucc 0), false, 2)])), [73]),
  ((13, [some (.inr (.inr (.inl 0))), some (.inl ((Int.ofNat 0), (Int.ofNat 7))), some (.inl ((Int.ofNat 72), (Int.ofNat 72))), none], [(696320, .inl ((Int.ofNat 0), (Int.ofNat 0)))], 28, ((Int.ofNat 100), [((Int.negSucc 0), false, 2)])), [74]),
  ((13, [some (.inr (.inr (.inl 0))), some (.inl ((Int.ofNat 0), (Int.ofNat 7))), some (.inl ((Int.ofNat 73), (Int.ofNat 73))), none], [(696320, .inl ((Int.ofNat 0), (Int.ofNat 0)))], 27, ((Int.ofNat 100), [((Int.negSucc 0), false, 2)])), [75]),
  ((13, [some (.inr (.inr (.inl 0))), some (.inl ((Int.ofNat 0), (Int.ofNat 7))), some (.inl ((Int.ofNat 74), (Int.ofNat 74))), none], [(696320, .inl ((Int.ofNat 0), (Int.ofNat 0)))], 26, ((Int.ofNat 100), [((Int.negSucc 0), false, 2)])), [76]),
  ((13, [some (.inr (.inr (.inl 0))), some (.inl ((Int.ofNat 0), (Int.ofNat 7))), some (.inl ((Int.ofNat 75), (Int.ofNat 75))), none], [(696320, .inl ((Int.ofNat 0), (Int.ofNat 0)))], 25, ((Int.ofNat 100), [((Int.negSucc 0), false, 2)])), [77]),
  ((13, [some (.inr (.inr (.inl 0))), some (.inl ((Int.ofNat 0), (Int.ofNat 7))), some (.inl ((Int.ofNat 76), (Int.ofNat 76))), none], [(696320, .inl ((Int.ofNat 0), (Int.ofNat 0)))], 24, ((Int.ofNat 100), [((Int.negSucc 0), false, 2)])), [78]),
  ((13, [some (.inr (.inr (.inl 0))), some (.inl ((Int.ofNat 0), (Int.ofNat 7))), some (.inl ((Int.ofNat 77), (Int.ofNat 77))), none], [(696320, .inl ((Int.ofNat 0), (Int.ofNat 0)))], 23, ((Int.ofNat 100), [((Int.negSucc 0), false, 2)])), [79]),
  ((13, [some (.inr (.inr (.inl 0))), some (.inl ((Int.ofNat 0), (Int.ofNat 7))), some (.inl ((Int.ofNat 78), (Int.ofNat 78))), none], [(696320, .inl ((Int.ofNat 0), (Int.ofNat 0)))], 22, ((Int.ofNat 100), [((Int.negSucc 0), false, 2)])), [80])]
def xnd_268_0_5 : List (xnd × List Nat) := [((13, [some (.inr (.inr (.inl 0))), some (.inl ((Int.ofNat 0), (Int.ofNat 7))), some (.inl ((Int.ofNat 79), (Int.ofNat 79))), none], [(696320, .inl ((Int.ofNat 0), (Int.ofNat 0)))], 21, ((Int.ofNat 100), [((Int.negSucc 0), false, 2)])), [81]),
  ((13, [some (.inr (.inr (.inl 0))), some (.inl ((Int.ofNat 0), (Int.ofNat 7))), some (.inl ((Int.ofNat 80), (Int.ofNat 80))), none], [(696320, .inl ((Int.ofNat 0), (Int.ofNat 0)))], 20, ((Int.ofNat 100), [((Int.negSucc 0), false, 2)])), [82]),
  ((13, [some (.inr (.inr (.inl 0))), some (.inl ((Int.ofNat 0), (Int.ofNat 7))), some (.inl ((Int.ofNat 81), (Int.ofNat 81))), none], [(696320, .inl ((Int.ofNat 0), (Int.ofNat 0)))], 19, ((Int.ofNat 100), [((Int.negSucc 0), false, 2)])), [83]),
  ((13, [some (.inr (.inr (.inl 0))), some (.inl ((Int.ofNat 0), (Int.ofNat 7))), some (.inl ((Int.ofNat 82), (Int.ofNat 82))), none], [(696320, .inl ((Int.ofNat 0), (Int.ofNat 0)))], 18, ((Int.ofNat 100), [((Int.negSucc 0), false, 2)])), [84]),
  ((13, [some (.inr (.inr (.inl 0))), some (.inl ((Int.ofNat 0), (Int.ofNat 7))), some (.inl ((Int.ofNat 83), (Int.ofNat 83))), none], [(696320, .inl ((Int.ofNat 0), (Int.ofNat 0)))], 17, ((Int.ofNat 100), [((Int.negSucc 0), false, 2)])), [85]),
  ((13, [some (.inr (.inr (.inl 0))), some (.inl ((Int.ofNat 0), (Int.ofNat 7))), some (.inl ((Int.ofNat 84), (Int.ofNat 84))), none], [(696320, .inl ((Int.ofNat 0), (Int.ofNat 0)))], 16, ((Int.ofNat 100), [((Int.negSucc 0), false, 2)])), [86]),
  ((13, [some (.inr (.inr (.inl 0))), some (.inl ((Int.ofNat 0), (Int.ofNat 7))), some (.inl ((Int.ofNat 85), (Int.ofNat 85))), none], [(696320, .inl ((Int.ofNat 0), (Int.ofNat 0)))], 15, ((Int.ofNat 100), [((Int.negSucc 0), false, 2)])), [87]),
  ((13, [some (.inr (.inr (.inl 0))), some (.inl ((Int.ofNat 0), (Int.ofNat 7))), some (.inl ((Int.ofNat 86), (Int.ofNat 86))), none], [(696320, .inl ((Int.ofNat 0), (Int.ofNat 0)))], 14, ((Int.ofNat 100), [((Int.negSucc 0), false, 2)])), [88]),
  ((13, [some (.inr (.inr (.inl 0))), some (.inl ((Int.ofNat 0), (Int.ofNat 7))), some (.inl ((Int.ofNat 87), (Int.ofNat 87))), none], [(696320, .inl ((Int.ofNat 0), (Int.ofNat 0)))], 13, ((Int.ofNat 100), [((Int.negSucc 0), false, 2)])), [89]),
  ((13, [some (.inr (.inr (.inl 0))), some (.inl ((Int.ofNat 0), (Int.ofNat 7))), some (.inl ((Int.ofNat 88), (Int.ofNat 88))), none], [(696320, .inl ((Int.ofNat 0), (Int.ofNat 0)))], 12, ((Int.ofNat 100), [((Int.negSucc 0), false, 2)])), [90]),
  ((13, [some (.inr (.inr (.inl 0))), some (.inl ((Int.ofNat 0), (Int.ofNat 7))), some (.inl ((Int.ofNat 89), (Int.ofNat 89))), none], [(696320, .inl ((Int.ofNat 0), (Int.ofNat 0)))], 11, ((Int.ofNat 100), [((Int.negSucc 0), false, 2)])), [91]),
  ((13, [some (.inr (.inr (.inl 0))), some (.inl ((Int.ofNat 0), (Int.ofNat 7))), some (.inl ((Int.ofNat 90), (Int.ofNat 90))), none], [(696320, .inl ((Int.ofNat 0), (Int.ofNat 0)))], 10, ((Int.ofNat 100), [((Int.negSucc 0), false, 2)])), [92]),
  ((13, [some (.inr (.inr (.inl 0))), some (.inl ((Int.ofNat 0), (Int.ofNat 7))), some (.inl ((Int.ofNat 91), (Int.ofNat 91))), none], [(696320, .inl ((Int.ofNat 0), (Int.ofNat 0)))], 9, ((Int.ofNat 100), [((Int.negSucc 0), false, 2)])), [93]),
  ((13, [some (.inr (.inr (.inl 0))), some (.inl ((Int.ofNat 0), (Int.ofNat 7))), some (.inl ((Int.ofNat 92), (Int.ofNat 92))), none], [(696320, .inl ((Int.ofNat 0), (Int.ofNat 0)))], 8, ((Int.ofNat 100), [((Int.negSucc 0), false, 2)])), [94]),
  ((13, [some (.inr (.inr (.inl 0))), some (.inl ((Int.ofNat 0), (Int.ofNat 7))), some (.inl ((Int.ofNat 93), (Int.ofNat 93))), none], [(696320, .inl ((Int.ofNat 0), (Int.ofNat 0)))], 7, ((Int.ofNat 100), [((Int.negSucc 0), false, 2)])), [95]),
  ((13, [some (.inr (.inr (.inl 0))), some (.inl ((Int.ofNat 0), (Int.ofNat 7))), some (.inl ((Int.ofNat 94), (Int.ofNat 94))), none], [(696320, .inl ((Int.ofNat 0), (Int.ofNat 0)))], 6, ((Int.ofNat 100), [((Int.negSucc 0), false, 2)])), [96])]
def xnd_268_0_6 : List (xnd × List Nat) := [((13, [some (.inr (.inr (.inl 0))), some (.inl ((Int.ofNat 0), (Int.ofNat 7))), some (.inl ((Int.ofNat 95), (Int.ofNat 95))), none], [(696320, .inl ((Int.ofNat 0), (Int.ofNat 0)))], 5, ((Int.ofNat 100), [((Int.negSucc 0), false, 2)])), [97]),
  ((13, [some (.inr (.inr (.inl 0))), some (.inl ((Int.ofNat 0), (Int.ofNat 7))), some (.inl ((Int.ofNat 96), (Int.ofNat 96))), none], [(696320, .inl ((Int.ofNat 0), (Int.ofNat 0)))], 4, ((Int.ofNat 100), [((Int.negSucc 0), false, 2)])), [98]),
  ((13, [some (.inr (.inr (.inl 0))), some (.inl ((Int.ofNat 0), (Int.ofNat 7))), some (.inl ((Int.ofNat 97), (Int.ofNat 97))), none], [(696320, .inl ((Int.ofNat 0), (Int.ofNat 0)))], 3, ((Int.ofNat 100), [((Int.negSucc 0), false, 2)])), [99]),
  ((13, [some (.inr (.inr (.inl 0))), some (.inl ((Int.ofNat 0), (Int.ofNat 7))), some (.inl ((Int.ofNat 98), (Int.ofNat 98))), none], [(696320, .inl ((Int.ofNat 0), (Int.ofNat 0)))], 2, ((Int.ofNat 100), [((Int.negSucc 0), false, 2)])), [100]),
  ((13, [some (.inr (.inr (.inl 0))), some (.inl ((Int.ofNat 0), (Int.ofNat 7))), some (.inl ((Int.ofNat 99), (Int.ofNat 99))), none], [(696320, .inl ((Int.ofNat 0), (Int.ofNat 0)))], 1, ((Int.ofNat 100), [((Int.negSucc 0), false, 2)])), [101]),
  ((13, [some (.inr (.inr (.inl 0))), some (.inl ((Int.ofNat 0), (Int.ofNat 7))), some (.inl ((Int.ofNat 100), (Int.ofNat 100))), none], [(696320, .inl ((Int.ofNat 0), (Int.ofNat 0)))], 0, ((Int.ofNat 100), [((Int.negSucc 0), false, 2)])), [])]
def xns_268_0 : xns := [xnd_268_0_0, xnd_268_0_1, xnd_268_0_2, xnd_268_0_3, xnd_268_0_4, xnd_268_0_5, xnd_268_0_6]
def xsp_268_0 : Nat → Option (Bool × Nat) := fun _ => none
theorem xck_268_0_0 : xnd_268_0_0.all (xnchk xX xsp_268_0 xt_268 [13] xns_268_0 (some (.inl ((Int.negSucc 1), (Int.ofNat 99)))) [] 600) = true := by decide +kernel
theorem xck_268_0_1 : xnd_268_0_1.all (xnchk xX xsp_268_0 xt_268 [13] xns_268_0 (some (.inl ((Int.negSucc 1), (Int.ofNat 99)))) [] 600) = true := by decide +kernel
theorem xck_268_0_2 : xnd_268_0_2.all (xnchk xX xsp_268_0 xt_268 [13] xns_268_0 (some (.inl ((Int.negSucc 1), (Int.ofNat 99)))) [] 600) = true := by decide +kernel
theorem xck_268_0_3 : xnd_268_0_3.all (xnchk xX xsp_268_0 xt_268 [13] xns_268_0 (some (.inl ((Int.negSucc 1), (Int.ofNat 99)))) [] 600) = true := by decide +kernel
theorem xck_268_0_4 : xnd_268_0_4.all (xnchk xX xsp_268_0 xt_268 [13] xns_268_0 (some (.inl ((Int.negSucc 1), (Int.ofNat 99)))) [] 600) = true := by decide +kernel
theorem xck_268_0_5 : xnd_268_0_5.all (xnchk xX xsp_268_0 xt_268 [13] xns_268_0 (some (.inl ((Int.negSucc 1), (Int.ofNat 99)))) [] 600) = true := by decide +kernel
theorem xck_268_0_6 : xnd_268_0_6.all (xnchk xX xsp_268_0 xt_268 [13] xns_268_0 (some (.inl ((Int.negSucc 1), (Int.ofNat 99)))) [] 600) = true := by decide +kernel
theorem xn_268_0 {E : pm_H → Prop} (hE : xHE xX xgA_G95 xgF_G95 E) (hV : ∀ p, E p → xV p) : xcon xX kK E 22 268 [.inr (.inr (.inl 0))] [] 100 (some (.inl ((Int.negSucc 1), (Int.ofNat 99)))) [] := xnodes_ok (nl := 4) (f := 600) (sp := xsp_268_0) (T := xt_268) (cps := [13]) (ns := xns_268_0) rfl rfl (xq_268 hE hV) rfl (List.forall_mem_cons.mpr ⟨List.all_eq_true.mp xck_268_0_0, List.forall_mem_cons.mpr ⟨List.all_eq_true.mp xck_268_0_1, List.forall_mem_cons.mpr ⟨List.all_eq_true.mp xck_268_0_2, List.forall_mem_cons.mpr ⟨List.all_eq_true.mp xck_268_0_3, List.forall_mem_cons.mpr ⟨List.all_eq_true.mp xck_268_0_4, List.forall_mem_cons.mpr ⟨List.all_eq_true.mp xck_268_0_5, List.forall_mem_cons.mpr ⟨List.all_eq_true.mp xck_268_0_6, fun _ h => absurd h List.not_mem_nil⟩⟩⟩⟩⟩⟩⟩)

/-! Further blocks, summaries, contracts, printed by wip/x/xprint.py -/
/-! 346 BVModel.goesOn (G8V) -/
noncomputable def xb_346_0 : xb := xpush (xci (Int.ofNat 0)) (xis 3 (xj 2))
theorem xp_346_0 {E : pm_H → Prop} (hE : xHE xX xgA_G8 xgF_G8 E) (hV : ∀ p, E p → xV p) : xok xX kK kK E 21 243 0 xb_346_0 := xpush0_ok (xkc_243 rfl) (fun _ => rfl) (xci_ok (by decide +kernel)) (xis_ok (i := 3) 1 (xkc_243 rfl) (fo_sin kF3) (xj_ok))
noncomputable def xb_346_2 : xb := xil 3 (xil 2 (xif2 xr_ge xr_lt 18 (xal 0 (xal 1 (xcallV xX 13 1 xs_345 (xinc 3 (Int.ofNat 1) (xj 2)))))))
theorem xp_346_2 {E : pm_H → Prop} (hE : xHE xX xgA_G8 xgF_G8 E) (hV : ∀ p, E p → xV p) : xok xX kK kK E 21 243 2 xb_346_2 := xil_ok (i := 3) 1 (xkc_243 rfl) (fo_lin kF3) (xil_ok (i := 2) 1 (xkc_243 rfl) (fo_lin kF2) (xif2_ok (aux := 18) (xkc_243 rfl) xr_ge_ok xr_lt_ok fo_ic_ge xb_ge (xal_ok (i := 0) 1 (xkc_243 rfl) (fo_lan kF0) (xal_ok (i := 1) 1 (xkc_243 rfl) (fo_lan kF1) (xcallV_ok (xkc_243 rfl) rfl (Nat.le_of_ble_eq_true rfl) (xso_345 (xhe_G8_G8 hE) hV) (xinc_ok (xkc_243 rfl) (by decide +kernel) (xgoto_ok (xkc_243 rfl))))))))
noncomputable def xb_346_18 : xb := xrv0
theorem xp_346_18 {E : pm_H → Prop} (hE : xHE xX xgA_G8 xgF_G8 E) (hV : ∀ p, E p → xV p) : xok xX kK kK E 21 243 18 xb_346_18 := xrv0_ok (xkc_243 rfl) rfl
noncomputable def xt_346 : List (Nat × xb) := [(0, xb_346_0), (2, xb_346_2), (18, xb_346_18)]
theorem xq_346 {E : pm_H → Prop} (hE : xHE xX xgA_G8 xgF_G8 E) (hV : ∀ p, E p → xV p) : ∀ q ∈ xt_346, xok xX kK kK E 21 243 q.1 q.2 := List.forall_mem_cons.mpr ⟨xp_346_0 hE hV, List.forall_mem_cons.mpr ⟨xp_346_2 hE hV, List.forall_mem_cons.mpr ⟨xp_346_18 hE hV, fun _ h => absurd h List.not_mem_nil⟩⟩⟩
def xnd_346_0_0 : List (xnd × List Nat) := [((0, [some (.inr (.inr (.inl 0))), some (.inr (.inr (.inl 5))), some (.inl ((Int.ofNat 0), (Int.ofNat 99))), none], [], 99, ((Int.ofNat 0), [])), [])]
def xns_346_0 : xns := [xnd_346_0_0]
def xsp_346_0 : Nat → Option (Bool × Nat) := fun _ => none
theorem xck_346_0_0 : xnd_346_0_0.all (xnchk xX xsp_346_0 xt_346 [] xns_346_0 (none) [] 600) = true := by decide +kernel
theorem xn_346_0 {E : pm_H → Prop} (hE : xHE xX xgA_G8 xgF_G8 E) (hV : ∀ p, E p → xV p) : xcon xX kK E 22 243 [.inr (.inr (.inl 0)), .inr (.inr (.inl 5)), .inl ((Int.ofNat 0), (Int.ofNat 99))] [] 99 (none) [] := xnodes_ok (nl := 4) (f := 600) (sp := xsp_346_0) (T := xt_346) (cps := []) (ns := xns_346_0) rfl rfl (xq_346 hE hV) rfl (List.forall_mem_cons.mpr ⟨List.all_eq_true.mp xck_346_0_0, fun _ h => absurd h List.not_mem_nil⟩)
noncomputable def xs_346 : xc := xalt xX [.inr (.inr (.inl 0)), .inr (.inr (.inl 5)), .inl ((Int.ofNat 0), (Int.ofNat 99))] (xctrG xX xkF_G8 [.inr (.inr (.inl 0)), .inr (.inr (.inl 5)), .inl ((Int.ofNat 0), (Int.ofNat 99))] [] 99 (none) []) (xnone)
theorem xso_346 {E : pm_H → Prop} (hE : xHE xX xgA_G8 xgF_G8 E) (hV : ∀ p, E p → xV p) : xcok xX kK E 22 243 xs_346 := xalt_ok (xctrG_ok rfl rfl rfl rfl (fun ph => xn_346_0 (E := fun p => E p ∧ xcells xX xkF_G8 ph p) (xHE_cells (kF := xkF_G8) (by decide +kernel) hE) (fun p h => hV p h.1))) (xnone_ok)
/-! 269 BVModel.ahead (G95V) -/
theorem xkc_269 {pc : Nat} {e : Nat × Instr × Nat} (h : pm_tl kc_269 pc = some e) : pm_code kK 269 pc = some e := h
noncomputable def xb_269_0 : xb := xal 0 (xpush (xci (Int.ofNat 0)) (xpf xX xgF_G95 13 0 0 (xil 1 (xalu xa_i2l (xpush (xcl (Int.ofNat 0)) (xpush (xcl (Int.ofNat 99)) (xcallS 3 xs_182 (xif1 xr_ne xr_eq 19 (xpush (xci (Int.negSucc 0)) (xri))))))))))
theorem xp_269_0 {E : pm_H → Prop} (hE : xHE xX xgA_G95 xgF_G95 E) (hV : ∀ p, E p → xV p) : xok xX kK kK E 22 269 0 xb_269_0 := xal_ok (i := 0) 1 (xkc_269 rfl) (fo_lan kF0) (xpush0_ok (xkc_269 rfl) (fun _ => rfl) (xci_ok (by decide +kernel)) (xpf_ok xsn_G95 hE (by decide) (xkc_269 rfl) rfl rfl xz0 (xil_ok (i := 1) 1 (xkc_269 rfl) (fo_lin kF1) (xalu_ok (xkc_269 rfl) xa_i2l_ok (xpush0_ok (xkc_269 rfl) (fun _ => rfl) (xcl_ok (by decide +kernel)) (xpush1_ok 3 (xkc_269 rfl) rfl (xcl_ok (by decide +kernel)) (xcallS_ok (xkc_269 rfl) rfl (Nat.le_of_ble_eq_true rfl) xso_182 (xif1_ok (pb := fun x => fo_ne x 0) (aux := 19) (xkc_269 rfl) xr_ne_ok xr_eq_ok fo_iz_ne xz_ne xy_ne (xpush0_ok (xkc_269 rfl) (fun _ => rfl) (xci_ok (by decide +kernel)) (xri_ok (xkc_269 rfl) rfl))))))))))
noncomputable def xb_269_19 : xb := xal 0 (xcallV xX 13 0 xs_256 (xal 0 (xal 0 (xgf xX 13 12 (xil 1 (xcallV xX 13 2 xs_346 (xal 0 (xpush (xci (Int.ofNat 0)) (xpf xX xgF_G95 13 1 0 (xpush (xci (Int.ofNat 0)) (xis 2 (xj 39))))))))))))
theorem xp_269_19 {E : pm_H → Prop} (hE : xHE xX xgA_G95 xgF_G95 E) (hV : ∀ p, E p → xV p) : xok xX kK kK E 22 269 19 xb_269_19 := xal_ok (i := 0) 1 (xkc_269 rfl) (fo_lan kF0) (xcallV_ok (xkc_269 rfl) rfl (Nat.le_of_ble_eq_true rfl) (xso_256 (xhe_G95_G93 hE)) (xal_ok (i := 0) 1 (xkc_269 rfl) (fo_lan kF0) (xal_ok (i := 0) 1 (xkc_269 rfl) (fo_lan kF0) (xgf_ok (b := 0) (by decide) (xkc_269 rfl) rfl (xil_ok (i := 1) 1 (xkc_269 rfl) (fo_lin kF1) (xcallV_ok (xkc_269 rfl) rfl (Nat.le_of_ble_eq_true rfl) (xso_346 (xhe_G95_G8 hE) hV) (xal_ok (i := 0) 1 (xkc_269 rfl) (fo_lan kF0) (xpush0_ok (xkc_269 rfl) (fun _ => rfl) (xci_ok (by decide +kernel)) (xpf_ok xsn_G95 hE (by decide) (xkc_269 rfl) rfl rfl xz0 (xpush0_ok (xkc_269 rfl) (fun _ => rfl) (xci_ok (by decide +kernel)) (xis_ok (i := 2) 1 (xkc_269 rfl) (fo_sin kF2) (xj_ok))))))))))))
noncomputable def xb_269_39 : xb := xil 2 (xal 0 (xgf xX 13 5 (xif2 xr_ge xr_lt 67 (xal 0 (xal 0 (xgf xX 13 12 (xpush (xci (Int.ofNat 24)) (xil 2 (xalu xa_add (xial xX (xalu xa_i2l (xcallV xX 13 1 xs_186 (xinc 2 (Int.ofNat 1) (xj 39))))))))))))))
theorem xp_269_39 {E : pm_H → Prop} (hE : xHE xX xgA_G95 xgF_G95 E) (hV : ∀ p, E p → xV p) : xok xX kK kK E 22 269 39 xb_269_39 := xil_ok (i := 2) 1 (xkc_269 rfl) (fo_lin kF2) (xal_ok (i := 0) 1 (xkc_269 rfl) (fo_lan kF0) (xgf_ok (b := 0) (by decide) (xkc_269 rfl) rfl (xif2_ok (aux := 67) (xkc_269 rfl) xr_ge_ok xr_lt_ok fo_ic_ge xb_ge (xal_ok (i := 0) 1 (xkc_269 rfl) (fo_lan kF0) (xal_ok (i := 0) 1 (xkc_269 rfl) (fo_lan kF0) (xgf_ok (b := 0) (by decide) (xkc_269 rfl) rfl (xpush1_ok 2 (xkc_269 rfl) rfl (xci_ok (by decide +kernel)) (xil_ok (i := 2) 1 (xkc_269 rfl) (fo_lin kF2) (xalu_ok (xkc_269 rfl) xa_add_ok (xial_ok (xkc_269 rfl) (xalu_ok (xkc_269 rfl) xa_i2l_ok (xcallV_ok (xkc_269 rfl) rfl (Nat.le_of_ble_eq_true rfl) (xso_186 (xhe_G95_G58 hE)) (xinc_ok (xkc_269 rfl) (by decide +kernel) (xgoto_ok (xkc_269 rfl)))))))))))))))
noncomputable def xb_269_67 : xb := xal 0 (xal 0 (xgf xX 13 12 (xcallV xX 13 1 xs_234 (xri))))
theorem xp_269_67 {E : pm_H → Prop} (hE : xHE xX xgA_G95 xgF_G95 E) (hV : ∀ p, E p → xV p) : xok xX kK kK E 22 269 67 xb_269_67 := xal_ok (i := 0) 1 (xkc_269 rfl) (fo_lan kF0) (xal_ok (i := 0) 1 (xkc_269 rfl) (fo_lan kF0) (xgf_ok (b := 0) (by decide) (xkc_269 rfl) rfl (xcallV_ok (xkc_269 rfl) rfl (Nat.le_of_ble_eq_true rfl) xso_234 (xri_ok (xkc_269 rfl) rfl))))
noncomputable def xt_269 : List (Nat × xb) := [(0, xb_269_0), (19, xb_269_19), (39, xb_269_39), (67, xb_269_67)]
theorem xq_269 {E : pm_H → Prop} (hE : xHE xX xgA_G95 xgF_G95 E) (hV : ∀ p, E p → xV p) : ∀ q ∈ xt_269, xok xX kK kK E 22 269 q.1 q.2 := List.forall_mem_cons.mpr ⟨xp_269_0 hE hV, List.forall_mem_cons.mpr ⟨xp_269_19 hE hV, List.forall_mem_cons.mpr ⟨xp_269_39 hE hV, List.forall_mem_cons.mpr ⟨xp_269_67 hE hV, fun _ h => absurd h List.not_mem_nil⟩⟩⟩⟩
def xnd_269_0_0 : List (xnd × List Nat) := [((0, [some (.inr (.inr (.inl 0))), some (.inl ((Int.negSucc 2147483647), (Int.ofNat 2147483647))), none], [], 99, ((Int.ofNat 9), [])), [1]),
  ((39, [some (.inr (.inr (.inl 0))), none, some (.inl ((Int.ofNat 0), (Int.ofNat 0)))], [(696320, .inl ((Int.ofNat 0), (Int.ofNat 0))), (696321, .inl ((Int.ofNat 0), (Int.ofNat 0)))], 0, ((Int.ofNat 8), [((Int.negSucc 0), false, 2)])), [2]),
  ((39, [some (.inr (.inr (.inl 0))), none, some (.inl ((Int.ofNat 1), (Int.ofNat 1)))], [(696320, .inl ((Int.ofNat 0), (Int.ofNat 0))), (696321, .inl ((Int.ofNat 1), (Int.ofNat 1))), (696325, .inl ((Int.ofNat 1), (Int.ofNat 8)))], 0, ((Int.ofNat 8), [((Int.negSucc 0), false, 2)])), [3]),
  ((39, [some (.inr (.inr (.inl 0))), none, some (.inl ((Int.ofNat 2), (Int.ofNat 2)))], [(696320, .inl ((Int.ofNat 0), (Int.ofNat 0))), (696321, .inl ((Int.ofNat 2), (Int.ofNat 2))), (696325, .inl ((Int.ofNat 2), (Int.ofNat 8)))], 0, ((Int.ofNat 8), [((Int.negSucc 0), false, 2)])), [4]),
  ((39, [some (.inr (.inr (.inl 0))), none, some (.inl ((Int.ofNat 3), (Int.ofNat 3)))], [(696320, .inl ((Int.ofNat 0), (Int.ofNat 0))), (696321, .inl ((Int.ofNat 3), (Int.ofNat 3))), (696325, .inl ((Int.ofNat 3), (Int.ofNat 8)))], 0, ((Int.ofNat 8), [((Int.negSucc 0), false, 2)])), [5]),
  ((39, [some (.inr (.inr (.inl 0))), none, some (.inl ((Int.ofNat 4), (Int.ofNat 4)))], [(696320, .inl ((Int.ofNat 0), (Int.ofNat 0))), (696321, .inl ((Int.ofNat 4), (Int.ofNat 4))), (696325, .inl ((Int.ofNat 4), (Int.ofNat 8)))], 0, ((Int.ofNat 8), [((Int.negSucc 0), false, 2)])), [6]),
  ((39, [some (.inr (.inr (.inl 0))), none, some (.inl ((Int.ofNat 5), (Int.ofNat 5)))], [(696320, .inl ((Int.ofNat 0), (Int.ofNat 0))), (696321, .inl ((Int.ofNat 5), (Int.ofNat 5))), (696325, .inl ((Int.ofNat 5), (Int.ofNat 8)))], 0, ((Int.ofNat 8), [((Int.negSucc 0), false, 2)])), [7]),
  ((39, [some (.inr (.inr (.inl 0))), none, some (.inl ((Int.ofNat 6), (Int.ofNat 6)))], [(696320, .inl ((Int.ofNat 0), (Int.ofNat 0))), (696321, .inl ((Int.ofNat 6), (Int.ofNat 6))), (696325, .inl ((Int.ofNat 6), (Int.ofNat 8)))], 0, ((Int.ofNat 8), [((Int.negSucc 0), false, 2)])), [8]),
  ((39, [some (.inr (.inr (.inl 0))), none, some (.inl ((Int.ofNat 7), (Int.ofNat 7)))], [(696320, .inl ((Int.ofNat 0), (Int.ofNat 0))), (696321, .inl ((Int.ofNat 7), (Int.ofNat 7))), (696325, .inl ((Int.ofNat 7), (Int.ofNat 8)))], 0, ((Int.ofNat 8), [((Int.negSucc 0), false, 2)])), [9]),
  ((39, [some (.inr (.inr (.inl 0))), none, some (.inl ((Int.ofNat 8), (Int.ofNat 8)))], [(696320, .inl ((Int.ofNat 0), (Int.ofNat 0))), (696321, .inl ((Int.ofNat 8), (Int.ofNat 8))), (696325, .inl ((Int.ofNat 8), (Int.ofNat 8)))], 0, ((Int.ofNat 8), [((Int.negSucc 0), false, 2)])), [])]
def xns_269_0 : xns := [xnd_269_0_0]
def xsp_269_0 : Nat → Option (Bool × Nat) := fun _ => none
theorem xck_269_0_0 : xnd_269_0_0.all (xnchk xX xsp_269_0 xt_269 [39] xns_269_0 (some (.inl ((Int.negSucc 2147483647), (Int.ofNat 2147483647)))) [] 600) = true := by decide +kernel
theorem xn_269_0 {E : pm_H → Prop} (hE : xHE xX xgA_G95 xgF_G95 E) (hV : ∀ p, E p → xV p) : xcon xX kK E 23 269 [.inr (.inr (.inl 0)), .inl ((Int.negSucc 2147483647), (Int.ofNat 2147483647))] [] 99 (some (.inl ((Int.negSucc 2147483647), (Int.ofNat 2147483647)))) [] := xnodes_ok (nl := 3) (f := 600) (sp := xsp_269_0) (T := xt_269) (cps := [39]) (ns := xns_269_0) rfl rfl (xq_269 hE hV) rfl (List.forall_mem_cons.mpr ⟨List.all_eq_true.mp xck_269_0_0, fun _ h => absurd h List.not_mem_nil⟩)


/-! gossip, by hand, printed by wip/x/h_gossip.py -/
set_option maxRecDepth 6000 in
theorem xbits_all : (List.range 256).all (fun x => (List.range 8).all (fun k => decide (((Int32.ofInt (x : Int)).toInt64 >>> ((Int32.ofInt (k : Int)).toInt64 &&& 63)) &&& Int64.ofNat kG1 = Int64.ofNat kG1 ↔ x.testBit k = true))) = true := by decide +kernel
set_option maxRecDepth 6000 in
theorem xhasb_n {x k : Int32} {xn kn : Nat} (hx : x.toInt = (xn : Int)) (hk : k.toInt = (kn : Int)) (h1 : xn < 256) (h2 : kn < 8) : xhasb x.toInt64 k ↔ xn.testBit kn = true := by
  have h := of_decide_eq_true (List.all_eq_true.mp (List.all_eq_true.mp xbits_all xn (List.mem_range.mpr h1)) kn (List.mem_range.mpr h2))
  have e1 : Int32.ofInt (xn : Int) = x := by rw [← hx]; exact Int32.ofInt_toInt x
  have e2 : Int32.ofInt (kn : Int) = k := by rw [← hk]; exact Int32.ofInt_toInt k
  rw [e1, e2] at h
  exact h
set_option maxRecDepth 6000 in
theorem xshl_all : (List.range 8).all (fun k => decide ((Int32.ofInt 1 <<< (Int32.ofInt (k : Int) &&& 31)).toInt = ((2 ^ k : Nat) : Int))) = true := by decide +kernel
set_option maxRecDepth 6000 in
theorem ti_shl1 {k : Int32} {kn : Nat} (hk : k.toInt = (kn : Int)) (h : kn < 8) : (Int32.ofInt 1 <<< (k &&& 31)).toInt = ((2 ^ kn : Nat) : Int) := by
  have h9 := of_decide_eq_true (List.all_eq_true.mp xshl_all kn (List.mem_range.mpr h))
  have e2 : Int32.ofInt (kn : Int) = k := by rw [← hk]; exact Int32.ofInt_toInt k
  rw [e2] at h9
  exact h9
set_option maxRecDepth 6000 in
theorem ti_or {x y : Int32} {a b : Nat} (hx : x.toInt = (a : Int)) (hy : y.toInt = (b : Int)) : (x ||| y).toInt = ((a ||| b : Nat) : Int) := by
  obtain ⟨ex, lx⟩ := xnn (x := x) (by omega)
  obtain ⟨ey, ly⟩ := xnn (x := y) (by omega)
  have h3 : (x ||| y).toBitVec.toNat = x.toBitVec.toNat ||| y.toBitVec.toNat := by simp
  have h5 : x.toBitVec.toNat ||| y.toBitVec.toNat < 2 ^ 31 := Nat.or_lt_two_pow (by omega) (by omega)
  have h6 : (x ||| y).toInt = ((x ||| y).toBitVec.toNat : Int) := xnb (by omega)
  have e1 : x.toBitVec.toNat = a := by omega
  have e2 : y.toBitVec.toNat = b := by omega
  rw [h6, h3, e1, e2]
/-- how many of eight are not among them -/
def xoff (b : Nat) : Nat := ((List.range 8).filter (fun k => !b.testBit k)).length
set_option maxRecDepth 6000 in
theorem xoff_lt {b m : Nat} {k : Nat} (hk : k < 8) (h1 : b.testBit k = false) (h2 : m.testBit k = true) : xoff (b ||| m) < xoff b := by
  have hsub : ∀ (l : List Nat), (l.filter (fun k => !(b ||| m).testBit k)).length ≤ (l.filter (fun k => !b.testBit k)).length := fun l => by
    induction l with
    | nil => exact Nat.le_refl _
    | cons a l ih =>
      rw [List.filter_cons, List.filter_cons, Nat.testBit_or]
      cases hb : b.testBit a with
      | true => simp only [Bool.true_or, Bool.not_true]; exact ih
      | false =>
        cases hm : m.testBit a with
        | true => simp only [Bool.or_true, Bool.not_true, Bool.not_false, if_true]; exact Nat.le_succ_of_le ih
        | false => simp only [Bool.or_false, Bool.not_false, if_true, List.length_cons]; omega
  have hstrict : ∀ (l : List Nat), k ∈ l → (l.filter (fun k => !(b ||| m).testBit k)).length < (l.filter (fun k => !b.testBit k)).length := fun l => by
    induction l with
    | nil => intro h; cases h
    | cons a l ih =>
      intro h
      rw [List.filter_cons, List.filter_cons, Nat.testBit_or]
      rcases List.mem_cons.mp h with e | e
      · subst e
        rw [h1, h2]
        have := hsub l
        simp only [Bool.or_true, Bool.not_true, Bool.not_false, if_true, List.length_cons]
        show (l.filter _).length < _
        omega
      · have := ih e
        cases hb : b.testBit a with
        | true => simp only [Bool.true_or, Bool.not_true]; exact this
        | false =>
          cases hm : m.testBit a with
          | true => simp only [Bool.or_true, Bool.not_true, Bool.not_false, if_true, List.length_cons]; show (l.filter _).length < _; omega
          | false => simp only [Bool.or_false, Bool.not_false, if_true, List.length_cons]; omega
  exact hstrict _ (List.mem_range.mpr hk)
/-- what is more is none, or holds one that was not among them -/
def xmore (b m : Nat) : Prop := m = 0 ∨ ∃ k, k < 8 ∧ b.testBit k = false ∧ m.testBit k = true
set_option maxRecDepth 6000 in
theorem xmore_or {b m k : Nat} (hk : k < 8) (h : b.testBit k = false) : xmore b (m ||| 2 ^ k) := Or.inr ⟨k, hk, h, by rw [Nat.testBit_or, Nat.testBit_two_pow_self]; exact Bool.or_true _⟩

set_option maxRecDepth 6000 in
theorem xgossip_b {E : pm_H → Prop} (hE : xHE xX xgA_G94 xgF_G94 E) (hV : ∀ p, E p → xV p) {m : Int} (hm : m ≤ 2147483646) (h0m : (0 : Int) ≤ m) {D : Nat} (hD : 20 ≤ D) {p P : Int32} (hp1 : P.toInt ≤ 8) {Q : Option Value → pm_H → Prop} (hcall : ∀ (a b : Int32) (ph : pm_H), xH xX kK m 0 ph → E ph → 0 ≤ a.toInt → a.toInt ≤ 7 → 0 ≤ b.toInt → b.toInt ≤ 7 → ∃ v ph', pm_Rd kK false D 232 [.ref 170, .ref 174, .int a, .int b] ph (v, ph', 0, 0) ∧ (∃ z : Int32, v = some (.int z) ∧ xH xX kK m 0 ph' ∧ E ph' ∧ xget ph' 170 5 = xget ph 170 5)) {bits a : Int32} {Bn : Nat} (hBn : bits.toInt = (Bn : Int)) (hB : Bn < 256) (ha0 : 0 ≤ a.toInt) (ha1 : a.toInt < P.toInt) {rd3 : Int32} (kk : ∀ (more : Int32) (mn : Nat) (b : Int32) (ph : pm_H), xH xX kK m 0 ph → E ph → xget ph 170 5 = some (.int P) → more.toInt = (mn : Int) → mn < 256 → xmore Bn mn → xGT kK D 270 Q (118, [some (.ref 170), some (.int p), some (.int bits), some (.int rd3), some (.int more), some (.int a), some (.int b)], [], ph, 0, 0)) : ∀ (s : Nat) (more b : Int32) (mn : Nat) (ph : pm_H), xH xX kK m 0 ph → E ph → xget ph 170 5 = some (.int P) → more.toInt = (mn : Int) → mn < 256 → xmore Bn mn → 0 ≤ b.toInt → P.toInt ≤ b.toInt + s → xGT kK D 270 Q (55, [some (.ref 170), some (.int p), some (.int bits), some (.int rd3), some (.int more), some (.int a), some (.int b)], [], ph, 0, 0) := by
  obtain ⟨D', rfl⟩ : ∃ D', D = D' + 1 := ⟨D - 1, by omega⟩
  intro s
  induction s with
  | zero =>
    intro more b mn ph hP g9 hPe hmn hm9 hmo hb0 hbs
    refine gt_load (v := .int b) (n := 2) (ykc_270 (e := (2, .iload 6, 0)) rfl) rfl rfl ?_
    refine gt_load (v := .ref 170) (n := 1) (ykc_270 (e := (2, .aload_n kF0, 0)) rfl) rfl rfl ?_
    refine gt_gfk (v := .int P) (ykc_270 (e := (5, .getfield 130, 0)) rfl) rfl hP hPe rfl ?_
    refine gt_ige_t (ykc_270 (e := (4, .if_icmp .ge 57, 118)) rfl) (by omega) ?_
    exact kk _ mn _ _ hP g9 hPe hmn hm9 hmo
  | succ s ih =>
    intro more b mn ph hP g9 hPe hmn hm9 hmo hb0 hbs
    by_cases hbP : P.toInt ≤ b.toInt
    · refine gt_load (v := .int b) (n := 2) (ykc_270 (e := (2, .iload 6, 0)) rfl) rfl rfl ?_
      refine gt_load (v := .ref 170) (n := 1) (ykc_270 (e := (2, .aload_n kF0, 0)) rfl) rfl rfl ?_
      refine gt_gfk (v := .int P) (ykc_270 (e := (5, .getfield 130, 0)) rfl) rfl hP hPe rfl ?_
      refine gt_ige_t (ykc_270 (e := (4, .if_icmp .ge 57, 118)) rfl) (by omega) ?_
      exact kk _ mn _ _ hP g9 hPe hmn hm9 hmo
    obtain ⟨bn, hbn⟩ : ∃ n : Nat, b.toInt = (n : Int) := ⟨b.toInt.toNat, by omega⟩
    have hsame : ∀ (m1 b1 : Int32) (ph : pm_H), xH xX kK m 0 ph → E ph → xget ph 170 5 = some (.int P) → m1.toInt = ((mn ||| 0 : Nat) : Int) → b1.toInt = b.toInt + 1 → xGT kK (D' + 1) 270 Q (55, [some (.ref 170), some (.int p), some (.int bits), some (.int rd3), some (.int m1), some (.int a), some (.int b1)], [], ph, 0, 0) := fun m1 b1 ph hP g9 hPe h1 h2 => ih m1 b1 mn ph hP g9 hPe (by rw [h1, Nat.or_zero]) hm9 hmo (by omega) (by omega)
    refine gt_load (v := .int b) (n := 2) (ykc_270 (e := (2, .iload 6, 0)) rfl) rfl rfl ?_
    refine gt_load (v := .ref 170) (n := 1) (ykc_270 (e := (2, .aload_n kF0, 0)) rfl) rfl rfl ?_
    refine gt_gfk (v := .int P) (ykc_270 (e := (5, .getfield 130, 0)) rfl) rfl hP hPe rfl ?_
    refine gt_ige_f (ykc_270 (e := (4, .if_icmp .ge 57, 118)) rfl) (by omega) rfl ?_
    refine gt_load (v := .int more) (n := 2) (ykc_270 (e := (2, .iload 4, 0)) rfl) rfl rfl ?_
    refine gt_load (v := .int bits) (n := 1) (ykc_270 (e := (2, .iload_n kF2, 0)) rfl) rfl rfl ?_
    refine gt_alu (st' := [.long bits.toInt64, .int more]) (ykc_270 (e := (0, .i2l, 0)) rfl) rfl rfl ?_
    refine gt_load (v := .int a) (n := 2) (ykc_270 (e := (2, .iload 5, 0)) rfl) rfl rfl ?_
    refine gt_cs (n := 2) (as := [.long bits.toInt64, .int a]) (r := [.int more]) (ykc_270 (e := (6, .invokestatic 304, 0)) rfl) rfl rfl rfl rfl (xhas_run (D := D')) rfl (fun vv ph101 hv => ?_)
    obtain ⟨z1, e9, e8, z1_s⟩ := hv; subst e9; have e7 := e8.symm; subst e7
    change xGT kK (D' + 1) 270 Q (73, [some (.ref 170), some (.int p), some (.int bits), some (.int rd3), some (.int more), some (.int a), some (.int b)], [.int z1, .int more], ph, 0, 0)
    by_cases hz1 : z1.toInt = 0
    · refine gt_zeq_t (ykc_270 (e := (4, .ifCond .eq 35, 108)) rfl) hz1 ?_
      refine gt_alu (st' := [.int (Int32.ofInt 0), .int more]) (ykc_270 (e := (0, .iconst 0, 0)) rfl) rfl rfl ?_
      obtain ⟨m1, e_m1, h_m1⟩ : ∃ zq : Int32, more ||| (Int32.ofInt 0) = zq ∧ zq.toInt = ((mn ||| 0 : Nat) : Int) := ⟨_, rfl, ti_or hmn (by decide)⟩
      refine gt_alu (st' := [.int m1]) (ykc_270 (e := (0, .ior, 0)) rfl) (by rw [← e_m1]; exact rfl) rfl ?_
      refine gt_store (L' := [some (.ref 170), some (.int p), some (.int bits), some (.int rd3), some (.int m1), some (.int a), some (.int b)]) (st' := []) (n := 2) (ykc_270 (e := (3, .istore 4, 0)) rfl) rfl rfl ?_
      obtain ⟨b1, e_b1, h_b1⟩ : ∃ zq : Int32, b + Int32.ofInt 1 = zq ∧ zq.toInt = b.toInt + 1 := ⟨_, rfl, by rw [ti_add (by rw [xi1]; omega) (by rw [xi1]; omega), xi1]⟩
      refine gt_store (L' := [some (.ref 170), some (.int p), some (.int bits), some (.int rd3), some (.int m1), some (.int a), some (.int b1)]) (st' := []) (n := 3) (ykc_270 (e := (3, .iinc 6 1, 0)) rfl) (by rw [← e_b1]; rfl) rfl ?_
      refine gt_br (pc' := 55) (st' := []) (ykc_270 (e := (4, .goto (-60), 55)) rfl) rfl ?_
      exact hsame _ _ _ hP g9 hPe h_m1 h_b1
    · refine gt_zeq_f (ykc_270 (e := (4, .ifCond .eq 35, 108)) rfl) (by omega) rfl ?_
      refine gt_load (v := .int bits) (n := 1) (ykc_270 (e := (2, .iload_n kF2, 0)) rfl) rfl rfl ?_
      refine gt_alu (st' := [.long bits.toInt64, .int more]) (ykc_270 (e := (0, .i2l, 0)) rfl) rfl rfl ?_
      refine gt_load (v := .int b) (n := 2) (ykc_270 (e := (2, .iload 6, 0)) rfl) rfl rfl ?_
      refine gt_cs (n := 2) (as := [.long bits.toInt64, .int b]) (r := [.int more]) (ykc_270 (e := (6, .invokestatic 304, 0)) rfl) rfl rfl rfl rfl (xhas_run (D := D')) rfl (fun vv ph202 hv => ?_)
      obtain ⟨z2, e9, e8, z2_s⟩ := hv; subst e9; have e7 := e8.symm; subst e7
      change xGT kK (D' + 1) 270 Q (83, [some (.ref 170), some (.int p), some (.int bits), some (.int rd3), some (.int more), some (.int a), some (.int b)], [.int z2, .int more], ph, 0, 0)
      by_cases hz2 : z2.toInt = 0
      case neg =>
        refine gt_zne_t (ykc_270 (e := (4, .ifCond .ne 25, 108)) rfl) (by omega) ?_
        refine gt_alu (st' := [.int (Int32.ofInt 0), .int more]) (ykc_270 (e := (0, .iconst 0, 0)) rfl) rfl rfl ?_
        obtain ⟨m1, e_m1, h_m1⟩ : ∃ zq : Int32, more ||| (Int32.ofInt 0) = zq ∧ zq.toInt = ((mn ||| 0 : Nat) : Int) := ⟨_, rfl, ti_or hmn (by decide)⟩
        refine gt_alu (st' := [.int m1]) (ykc_270 (e := (0, .ior, 0)) rfl) (by rw [← e_m1]; exact rfl) rfl ?_
        refine gt_store (L' := [some (.ref 170), some (.int p), some (.int bits), some (.int rd3), some (.int m1), some (.int a), some (.int b)]) (st' := []) (n := 2) (ykc_270 (e := (3, .istore 4, 0)) rfl) rfl rfl ?_
        obtain ⟨b1, e_b1, h_b1⟩ : ∃ zq : Int32, b + Int32.ofInt 1 = zq ∧ zq.toInt = b.toInt + 1 := ⟨_, rfl, by rw [ti_add (by rw [xi1]; omega) (by rw [xi1]; omega), xi1]⟩
        refine gt_store (L' := [some (.ref 170), some (.int p), some (.int bits), some (.int rd3), some (.int m1), some (.int a), some (.int b1)]) (st' := []) (n := 3) (ykc_270 (e := (3, .iinc 6 1, 0)) rfl) (by rw [← e_b1]; rfl) rfl ?_
        refine gt_br (pc' := 55) (st' := []) (ykc_270 (e := (4, .goto (-60), 55)) rfl) rfl ?_
        exact hsame _ _ _ hP g9 hPe h_m1 h_b1
      case pos =>
        refine gt_zne_f (ykc_270 (e := (4, .ifCond .ne 25, 108)) rfl) hz2 rfl ?_
        refine gt_load (v := .ref 170) (n := 1) (ykc_270 (e := (2, .aload_n kF0, 0)) rfl) rfl rfl ?_
        refine gt_load (v := .ref 170) (n := 1) (ykc_270 (e := (2, .aload_n kF0, 0)) rfl) rfl rfl ?_
        refine gt_gfr (A := 174) (ykc_270 (e := (5, .getfield 41, 0)) rfl) rfl hP rfl rfl rfl ?_
        refine gt_load (v := .int a) (n := 2) (ykc_270 (e := (2, .iload 5, 0)) rfl) rfl rfl ?_
        refine gt_load (v := .int b) (n := 2) (ykc_270 (e := (2, .iload 6, 0)) rfl) rfl rfl ?_
        refine gt_cv (n := 3) (as := [.ref 170, .ref 174, .int a, .int b]) (r := [.int more]) (ykc_270 (e := (6, .invokevirtual 344, 0)) rfl) rfl hP rfl rfl rfl (hcall a b ph hP g9 (by omega) (by omega) (by omega) (by omega)) rfl (fun vv ph303 hv => ?_)
        obtain ⟨z3, e9, hP1, g91, hPe1⟩ := hv; subst e9
        change xGT kK (D' + 1) 270 Q (98, [some (.ref 170), some (.int p), some (.int bits), some (.int rd3), some (.int more), some (.int a), some (.int b)], [.int z3, .int more], ph303, 0, 0)
        replace hPe1 := hPe1.trans hPe
        by_cases hz3 : z3.toInt = 0
        · refine gt_zeq_t (ykc_270 (e := (4, .ifCond .eq 10, 108)) rfl) hz3 ?_
          refine gt_alu (st' := [.int (Int32.ofInt 0), .int more]) (ykc_270 (e := (0, .iconst 0, 0)) rfl) rfl rfl ?_
          obtain ⟨m1, e_m1, h_m1⟩ : ∃ zq : Int32, more ||| (Int32.ofInt 0) = zq ∧ zq.toInt = ((mn ||| 0 : Nat) : Int) := ⟨_, rfl, ti_or hmn (by decide)⟩
          refine gt_alu (st' := [.int m1]) (ykc_270 (e := (0, .ior, 0)) rfl) (by rw [← e_m1]; exact rfl) rfl ?_
          refine gt_store (L' := [some (.ref 170), some (.int p), some (.int bits), some (.int rd3), some (.int m1), some (.int a), some (.int b)]) (st' := []) (n := 2) (ykc_270 (e := (3, .istore 4, 0)) rfl) rfl rfl ?_
          obtain ⟨b1, e_b1, h_b1⟩ : ∃ zq : Int32, b + Int32.ofInt 1 = zq ∧ zq.toInt = b.toInt + 1 := ⟨_, rfl, by rw [ti_add (by rw [xi1]; omega) (by rw [xi1]; omega), xi1]⟩
          refine gt_store (L' := [some (.ref 170), some (.int p), some (.int bits), some (.int rd3), some (.int m1), some (.int a), some (.int b1)]) (st' := []) (n := 3) (ykc_270 (e := (3, .iinc 6 1, 0)) rfl) (by rw [← e_b1]; rfl) rfl ?_
          refine gt_br (pc' := 55) (st' := []) (ykc_270 (e := (4, .goto (-60), 55)) rfl) rfl ?_
          exact hsame _ _ _ hP1 g91 hPe1 h_m1 h_b1
        · refine gt_zeq_f (ykc_270 (e := (4, .ifCond .eq 10, 108)) rfl) hz3 rfl ?_
          refine gt_alu (st' := [.int (Int32.ofInt 1), .int more]) (ykc_270 (e := (0, .iconst 1, 0)) rfl) rfl rfl ?_
          refine gt_load (v := .int b) (n := 2) (ykc_270 (e := (2, .iload 6, 0)) rfl) rfl rfl ?_
          obtain ⟨s1, e_s1, h_s1⟩ : ∃ zq : Int32, (Int32.ofInt 1) <<< (b &&& 31) = zq ∧ zq.toInt = ((2 ^ bn : Nat) : Int) := ⟨_, rfl, ti_shl1 hbn (by omega)⟩
          refine gt_alu (st' := [.int s1, .int more]) (ykc_270 (e := (0, .ishl, 0)) rfl) (by rw [← e_s1]; exact rfl) rfl ?_
          refine gt_br (pc' := 109) (st' := [.int s1, .int more]) (ykc_270 (e := (4, .goto 4, 109)) rfl) rfl ?_
          obtain ⟨m1, e_m1, h_m1⟩ : ∃ zq : Int32, more ||| s1 = zq ∧ zq.toInt = ((mn ||| 2 ^ bn : Nat) : Int) := ⟨_, rfl, ti_or hmn h_s1⟩
          refine gt_alu (st' := [.int m1]) (ykc_270 (e := (0, .ior, 0)) rfl) (by rw [← e_m1]; exact rfl) rfl ?_
          refine gt_store (L' := [some (.ref 170), some (.int p), some (.int bits), some (.int rd3), some (.int m1), some (.int a), some (.int b)]) (st' := []) (n := 2) (ykc_270 (e := (3, .istore 4, 0)) rfl) rfl rfl ?_
          obtain ⟨b1, e_b1, h_b1⟩ : ∃ zq : Int32, b + Int32.ofInt 1 = zq ∧ zq.toInt = b.toInt + 1 := ⟨_, rfl, by rw [ti_add (by rw [xi1]; omega) (by rw [xi1]; omega), xi1]⟩
          refine gt_store (L' := [some (.ref 170), some (.int p), some (.int bits), some (.int rd3), some (.int m1), some (.int a), some (.int b1)]) (st' := []) (n := 3) (ykc_270 (e := (3, .iinc 6 1, 0)) rfl) (by rw [← e_b1]; rfl) rfl ?_
          refine gt_br (pc' := 55) (st' := []) (ykc_270 (e := (4, .goto (-60), 55)) rfl) rfl ?_
          have hnot : Bn.testBit bn = false := by
            have hx := xhasb_n hBn hbn hB (by omega)
            cases hq : Bn.testBit bn with
            | false => rfl
            | true =>
              have h9 := hx.mpr hq
              rcases z2_s with h | h
              · omega
              · exact absurd h9 h.2
          exact ih m1 b1 (mn ||| 2 ^ bn) _ hP1 g91 hPe1 h_m1 (Nat.or_lt_two_pow (n := 8) hm9 (Nat.pow_lt_pow_right (by decide) (show bn < 8 by omega))) (xmore_or (by omega) hnot) (by omega) (by omega)

set_option maxRecDepth 6000 in
theorem xgossip_a {E : pm_H → Prop} (hE : xHE xX xgA_G94 xgF_G94 E) (hV : ∀ p, E p → xV p) {m : Int} (hm : m ≤ 2147483646) (h0m : (0 : Int) ≤ m) {D : Nat} (hD : 20 ≤ D) {p P : Int32} (hp1 : P.toInt ≤ 8) {Q : Option Value → pm_H → Prop} (hcall : ∀ (a b : Int32) (ph : pm_H), xH xX kK m 0 ph → E ph → 0 ≤ a.toInt → a.toInt ≤ 7 → 0 ≤ b.toInt → b.toInt ≤ 7 → ∃ v ph', pm_Rd kK false D 232 [.ref 170, .ref 174, .int a, .int b] ph (v, ph', 0, 0) ∧ (∃ z : Int32, v = some (.int z) ∧ xH xX kK m 0 ph' ∧ E ph' ∧ xget ph' 170 5 = xget ph 170 5)) {bits : Int32} {Bn : Nat} (hBn : bits.toInt = (Bn : Int)) (hB : Bn < 256) {rd3 : Int32} (kk : ∀ (more : Int32) (mn : Nat) (a : Int32) (o6 : Option Value) (ph : pm_H), xH xX kK m 0 ph → E ph → xget ph 170 5 = some (.int P) → more.toInt = (mn : Int) → mn < 256 → xmore Bn mn → xGT kK D 270 Q (24, [some (.ref 170), some (.int p), some (.int bits), some (.int rd3), some (.int more), some (.int a), o6], [], ph, 0, 0)) : ∀ (s : Nat) (more a : Int32) (mn : Nat) (o6 : Option Value) (ph : pm_H), xH xX kK m 0 ph → E ph → xget ph 170 5 = some (.int P) → more.toInt = (mn : Int) → mn < 256 → xmore Bn mn → 0 ≤ a.toInt → P.toInt ≤ a.toInt + s → xGT kK D 270 Q (43, [some (.ref 170), some (.int p), some (.int bits), some (.int rd3), some (.int more), some (.int a), o6], [], ph, 0, 0) := by
  intro s
  induction s with
  | zero =>
    intro more a mn o6 ph hP g9 hPe hmn hm9 hmo ha0 has
    refine gt_load (v := .int a) (n := 2) (ykc_270 (e := (2, .iload 5, 0)) rfl) rfl rfl ?_
    refine gt_load (v := .ref 170) (n := 1) (ykc_270 (e := (2, .aload_n kF0, 0)) rfl) rfl rfl ?_
    refine gt_gfk (v := .int P) (ykc_270 (e := (5, .getfield 130, 0)) rfl) rfl hP hPe rfl ?_
    refine gt_ige_t (ykc_270 (e := (4, .if_icmp .ge 75, 124)) rfl) (by omega) ?_
    refine gt_br (pc' := 24) (st' := []) (ykc_270 (e := (4, .goto (-100), 24)) rfl) rfl ?_
    exact kk _ mn _ _ _ hP g9 hPe hmn hm9 hmo
  | succ s ih =>
    intro more a mn o6 ph hP g9 hPe hmn hm9 hmo ha0 has
    by_cases haP : P.toInt ≤ a.toInt
    · refine gt_load (v := .int a) (n := 2) (ykc_270 (e := (2, .iload 5, 0)) rfl) rfl rfl ?_
      refine gt_load (v := .ref 170) (n := 1) (ykc_270 (e := (2, .aload_n kF0, 0)) rfl) rfl rfl ?_
      refine gt_gfk (v := .int P) (ykc_270 (e := (5, .getfield 130, 0)) rfl) rfl hP hPe rfl ?_
      refine gt_ige_t (ykc_270 (e := (4, .if_icmp .ge 75, 124)) rfl) (by omega) ?_
      refine gt_br (pc' := 24) (st' := []) (ykc_270 (e := (4, .goto (-100), 24)) rfl) rfl ?_
      exact kk _ mn _ _ _ hP g9 hPe hmn hm9 hmo
    refine gt_load (v := .int a) (n := 2) (ykc_270 (e := (2, .iload 5, 0)) rfl) rfl rfl ?_
    refine gt_load (v := .ref 170) (n := 1) (ykc_270 (e := (2, .aload_n kF0, 0)) rfl) rfl rfl ?_
    refine gt_gfk (v := .int P) (ykc_270 (e := (5, .getfield 130, 0)) rfl) rfl hP hPe rfl ?_
    refine gt_ige_f (ykc_270 (e := (4, .if_icmp .ge 75, 124)) rfl) (by omega) rfl ?_
    refine gt_alu (st' := [.int (Int32.ofInt 0)]) (ykc_270 (e := (0, .iconst 0, 0)) rfl) rfl rfl ?_
    refine gt_store (L' := [some (.ref 170), some (.int p), some (.int bits), some (.int rd3), some (.int more), some (.int a), some (.int (Int32.ofInt 0))]) (st' := []) (n := 2) (ykc_270 (e := (3, .istore 6, 0)) rfl) rfl rfl ?_
    have z0 : (Int32.ofInt 0).toInt = 0 := by decide
    refine xgossip_b hE hV hm h0m hD hp1 hcall hBn hB ha0 (by omega) ?_ P.toInt.toNat more (Int32.ofInt 0) mn ph hP g9 hPe hmn hm9 hmo (by omega) (by omega)
    intro more2 mn2 b2 ph2 hP2 g92 hPe2 hmn2 hm92 hmo2
    obtain ⟨a1, e_a1, h_a1⟩ : ∃ zq : Int32, a + Int32.ofInt 1 = zq ∧ zq.toInt = a.toInt + 1 := ⟨_, rfl, by rw [ti_add (by rw [xi1]; omega) (by rw [xi1]; omega), xi1]⟩
    refine gt_store (L' := [some (.ref 170), some (.int p), some (.int bits), some (.int rd3), some (.int more2), some (.int a1), some (.int b2)]) (st' := []) (n := 3) (ykc_270 (e := (3, .iinc 5 1, 0)) rfl) (by rw [← e_a1]; rfl) rfl ?_
    refine gt_br (pc' := 43) (st' := []) (ykc_270 (e := (4, .goto (-78), 43)) rfl) rfl ?_
    exact ih _ _ mn2 _ _ hP2 g92 hPe2 hmn2 hm92 hmo2 (by omega) (by omega)

set_option maxRecDepth 6000 in
theorem xgossip_pass {E : pm_H → Prop} (hE : xHE xX xgA_G94 xgF_G94 E) (hV : ∀ p, E p → xV p) {m : Int} (hm : m ≤ 2147483646) (h0m : (0 : Int) ≤ m) {D : Nat} (hD : 20 ≤ D) {p P : Int32} (hp1 : P.toInt ≤ 8) {Q : Option Value → pm_H → Prop} (hcall : ∀ (a b : Int32) (ph : pm_H), xH xX kK m 0 ph → E ph → 0 ≤ a.toInt → a.toInt ≤ 7 → 0 ≤ b.toInt → b.toInt ≤ 7 → ∃ v ph', pm_Rd kK false D 232 [.ref 170, .ref 174, .int a, .int b] ph (v, ph', 0, 0) ∧ (∃ z : Int32, v = some (.int z) ∧ xH xX kK m 0 ph' ∧ E ph' ∧ xget ph' 170 5 = xget ph 170 5)) {bits more rd : Int32} {Bn mn : Nat} (hBn : bits.toInt = (Bn : Int)) (hB : Bn < 256) (hmn : more.toInt = (mn : Int)) (hm9 : mn < 256) (hmz : more.toInt ≠ 0) {o5 o6 : Option Value} {ph : pm_H} (hP : xH xX kK m 0 ph) (g9 : E ph) (hPe : xget ph 170 5 = some (.int P)) (kk : ∀ (bits2 more2 rd2 : Int32) (mn2 : Nat) (o5 o6 : Option Value) (ph : pm_H), bits2.toInt = ((Bn ||| mn : Nat) : Int) → xH xX kK m 0 ph → E ph → xget ph 170 5 = some (.int P) → more2.toInt = (mn2 : Int) → mn2 < 256 → xmore (Bn ||| mn) mn2 → xGT kK D 270 Q (24, [some (.ref 170), some (.int p), some (.int bits2), some (.int rd2), some (.int more2), o5, o6], [], ph, 0, 0)) : xGT kK D 270 Q (24, [some (.ref 170), some (.int p), some (.int bits), some (.int rd), some (.int more), o5, o6], [], ph, 0, 0) := by
  refine gt_load (v := .int more) (n := 2) (ykc_270 (e := (2, .iload 4, 0)) rfl) rfl rfl ?_
  refine gt_zeq_f (ykc_270 (e := (4, .ifCond .eq 101, 127)) rfl) hmz rfl ?_
  refine gt_store (L' := [some (.ref 170), some (.int p), some (.int bits), some (.int (rd + Int32.ofInt 1)), some (.int more), o5, o6]) (st' := []) (n := 3) (ykc_270 (e := (3, .iinc 3 1, 0)) rfl) rfl rfl ?_
  refine gt_load (v := .int bits) (n := 1) (ykc_270 (e := (2, .iload_n kF2, 0)) rfl) rfl rfl ?_
  refine gt_load (v := .int more) (n := 2) (ykc_270 (e := (2, .iload 4, 0)) rfl) rfl rfl ?_
  obtain ⟨bits2, e_bits2, h_bits2⟩ : ∃ zq : Int32, bits ||| more = zq ∧ zq.toInt = ((Bn ||| mn : Nat) : Int) := ⟨_, rfl, ti_or hBn hmn⟩
  refine gt_alu (st' := [.int bits2]) (ykc_270 (e := (0, .ior, 0)) rfl) (by rw [← e_bits2]; exact rfl) rfl ?_
  refine gt_store (L' := [some (.ref 170), some (.int p), some (.int bits2), some (.int (rd + Int32.ofInt 1)), some (.int more), o5, o6]) (st' := []) (n := 1) (ykc_270 (e := (3, .istore_n kF2, 0)) rfl) rfl rfl ?_
  refine gt_alu (st' := [.int (Int32.ofInt 0)]) (ykc_270 (e := (0, .iconst 0, 0)) rfl) rfl rfl ?_
  refine gt_store (L' := [some (.ref 170), some (.int p), some (.int bits2), some (.int (rd + Int32.ofInt 1)), some (.int (Int32.ofInt 0)), o5, o6]) (st' := []) (n := 2) (ykc_270 (e := (3, .istore 4, 0)) rfl) rfl rfl ?_
  refine gt_alu (st' := [.int (Int32.ofInt 0)]) (ykc_270 (e := (0, .iconst 0, 0)) rfl) rfl rfl ?_
  refine gt_store (L' := [some (.ref 170), some (.int p), some (.int bits2), some (.int (rd + Int32.ofInt 1)), some (.int (Int32.ofInt 0)), some (.int (Int32.ofInt 0)), o6]) (st' := []) (n := 2) (ykc_270 (e := (3, .istore 5, 0)) rfl) rfl rfl ?_
  have z0 : (Int32.ofInt 0).toInt = 0 := by decide
  have z00 : (Int32.ofInt 0).toInt = ((0 : Nat) : Int) := by decide
  exact xgossip_a hE hV hm h0m hD hp1 hcall h_bits2 (Nat.or_lt_two_pow (n := 8) hB hm9) (fun more2 mn2 a2 o6 ph2 h1 h2 h3 h4 h5 h6 => kk _ _ _ mn2 _ _ ph2 h_bits2 h1 h2 h3 h4 h5 h6) P.toInt.toNat _ _ 0 _ ph hP g9 hPe z00 (by decide) (Or.inl rfl) (by omega) (by omega)
set_option maxRecDepth 6000 in
theorem xgossip_loop {E : pm_H → Prop} (hE : xHE xX xgA_G94 xgF_G94 E) (hV : ∀ p, E p → xV p) {m : Int} (hm : m ≤ 2147483646) (h0m : (0 : Int) ≤ m) {D : Nat} (hD : 20 ≤ D) {p P : Int32} (hp1 : P.toInt ≤ 8) {Q : Option Value → pm_H → Prop} (hcall : ∀ (a b : Int32) (ph : pm_H), xH xX kK m 0 ph → E ph → 0 ≤ a.toInt → a.toInt ≤ 7 → 0 ≤ b.toInt → b.toInt ≤ 7 → ∃ v ph', pm_Rd kK false D 232 [.ref 170, .ref 174, .int a, .int b] ph (v, ph', 0, 0) ∧ (∃ z : Int32, v = some (.int z) ∧ xH xX kK m 0 ph' ∧ E ph' ∧ xget ph' 170 5 = xget ph 170 5)) (kk : ∀ (bits rd more : Int32) (o5 o6 : Option Value) (ph : pm_H), xH xX kK m 0 ph → E ph → more.toInt = 0 → xGT kK D 270 Q (24, [some (.ref 170), some (.int p), some (.int bits), some (.int rd), some (.int more), o5, o6], [], ph, 0, 0)) : ∀ (s : Nat) (bits more rd : Int32) (Bn mn : Nat) (o5 o6 : Option Value) (ph : pm_H), xoff Bn < s → bits.toInt = (Bn : Int) → Bn < 256 → more.toInt = (mn : Int) → mn < 256 → xmore Bn mn → xH xX kK m 0 ph → E ph → xget ph 170 5 = some (.int P) → xGT kK D 270 Q (24, [some (.ref 170), some (.int p), some (.int bits), some (.int rd), some (.int more), o5, o6], [], ph, 0, 0) := by
  intro s
  induction s with
  | zero => intro bits more rd Bn mn o5 o6 ph h; omega
  | succ s ih =>
    intro bits more rd Bn mn o5 o6 ph hs hBn hB hmn hm9 hmo hP g9 hPe
    by_cases hmz : more.toInt = 0
    · exact kk _ _ _ _ _ ph hP g9 hmz
    · refine xgossip_pass hE hV hm h0m hD hp1 hcall hBn hB hmn hm9 hmz hP g9 hPe ?_
      intro bits2 more2 rd2 mn2 o5 o6 ph2 h1 h2 h3 h4 h5 h6 h7
      rcases hmo with h | ⟨k, k1, k2, k3⟩
      · omega
      · have := xoff_lt k1 k2 k3
        exact ih _ _ _ (Bn ||| mn) mn2 _ _ _ (by omega) h1 (Nat.or_lt_two_pow (n := 8) hB hm9) h5 h6 h7 h2 h3 h4

set_option maxRecDepth 6000 in
theorem xgossip_end {E : pm_H → Prop} (hE : xHE xX xgA_G94 xgF_G94 E) (hV : ∀ p, E p → xV p) {m : Int} (hm : m ≤ 2147483646) (h0m : (0 : Int) ≤ m) {D' : Nat} {p P : Int32} (hp1 : P.toInt ≤ 8) {Q : Option Value → pm_H → Prop} (hQ : ∀ (z : Int32) (ph' : pm_H), xH xX kK m 0 ph' → E ph' → Q (some (.int z)) ph') {bits more rd : Int32} {o5 o6 : Option Value} {ph : pm_H} (hP : xH xX kK m 0 ph) (g9 : E ph) (hmz : more.toInt = 0) : xGT kK (D' + 1) 270 Q (24, [some (.ref 170), some (.int p), some (.int bits), some (.int rd), some (.int more), o5, o6], [], ph, 0, 0) := by
  refine gt_load (v := .int more) (n := 2) (ykc_270 (e := (2, .iload 4, 0)) rfl) rfl rfl ?_
  refine gt_zeq_t (ykc_270 (e := (4, .ifCond .eq 101, 127)) rfl) hmz ?_
  refine gt_load (v := .ref 170) (n := 1) (ykc_270 (e := (2, .aload_n kF0, 0)) rfl) rfl rfl ?_
  refine gt_alu (st' := [.int (Int32.ofInt 0), .ref 170]) (ykc_270 (e := (0, .iconst 0, 0)) rfl) rfl rfl ?_
  refine gt_pf (y := Int32.ofInt 0) (ykc_270 (e := (5, .putfield 15, 0)) rfl) rfl hP rfl rfl (by decide) (by decide) rfl (fun ph1 hP1 u1 => ?_)
  refine gt_load (v := .ref 170) (n := 1) (ykc_270 (e := (2, .aload_n kF0, 0)) rfl) rfl rfl ?_
  refine gt_load (v := .int rd) (n := 1) (ykc_270 (e := (2, .iload_n kF3, 0)) rfl) rfl rfl ?_
  refine gt_alu (st' := [.long rd.toInt64, .ref 170]) (ykc_270 (e := (0, .i2l, 0)) rfl) rfl rfl ?_
  refine gt_cv (n := 1) (as := [.ref 170, .long rd.toInt64]) (r := []) (ykc_270 (e := (6, .invokevirtual 373, 0)) rfl) rfl hP1 rfl rfl rfl (xenters (D := D') hP1 u1.1 (by decide) (by decide)) rfl (fun vv ph2 hv => ?_)
  obtain ⟨t1, e9, h_t1, hP2, u2⟩ := hv; subst e9
  change xGT kK (D' + 1) 270 Q (138, [some (.ref 170), some (.int p), some (.int bits), some (.int rd), some (.int more), o5, o6], [], ph2, 0, 0)
  refine gt_load (v := .int bits) (n := 1) (ykc_270 (e := (2, .iload_n kF2, 0)) rfl) rfl rfl ?_
  refine gt_ret (ykc_270 (e := (7, .ireturn, 0)) rfl) rfl ?_
  exact hQ _ _ hP2 (xent1_E hE u2 rfl rfl rfl (xu1_E hE u1 rfl rfl rfl g9))

set_option maxRecDepth 6000 in
theorem xgossip {E : pm_H → Prop} (hE : xHE xX xgA_G94 xgF_G94 E) (hV : ∀ p, E p → xV p) : xcon xX kK E 25 270 [.inr (.inr (.inl 0)), .inl ((Int.negSucc 2147483647), (Int.ofNat 2147483647))] [] 0 (some (.inl ((Int.negSucc 2147483647), (Int.ofNat 2147483647)))) [] := by
  intro D hD m hm h0m vs ph hv hf hP g9
  obtain ⟨D', rfl⟩ : ∃ D', D = D' + 1 + 1 + 1 := ⟨D - 3, by omega⟩
  have h0m : (0 : Int) ≤ m := h0m
  match vs, hv with
  | [v1, v2], ⟨q1, ⟨p, e2, _, _⟩, _⟩ =>
  have e1 := xaO hP (A := 170) rfl q1
  subst e1 e2
  suffices hs : ∃ v ph', pm_Rd kK false (D' + 1 + 1 + 1) 270 [.ref 170, .int p] ph (v, ph', 0, 0) ∧ (∃ z : Int32, v = some (.int z) ∧ xH xX kK m 0 ph' ∧ E ph') by
    obtain ⟨v, ph', k1, z, e, hP1, g91⟩ := hs
    exact ⟨v, ph', k1, hP1, g91, ⟨_, e, xaT⟩, xF0⟩
  obtain ⟨P, hPe, p0, p1⟩ := xM_fi (k := 5) hP rfl
  have p0 : 0 ≤ P.toInt := p0
  have p1 : P.toInt ≤ 8 := p1
  have hE0 : xHE xX xgA_G8 xgF_G8 E := xHE_sub (by decide +kernel) (by decide +kernel) hE
  have hcall : ∀ (a b : Int32) (ph : pm_H), xH xX kK m 0 ph → E ph → 0 ≤ a.toInt → a.toInt ≤ 7 → 0 ≤ b.toInt → b.toInt ≤ 7 → ∃ v ph', pm_Rd kK false (D' + 1 + 1) 232 [.ref 170, .ref 174, .int a, .int b] ph (v, ph', 0, 0) ∧ (∃ z : Int32, v = some (.int z) ∧ xH xX kK m 0 ph' ∧ E ph' ∧ xget ph' 170 5 = xget ph 170 5) := fun a b ph hP g9 a0 a1 b0 b1 => by
    obtain ⟨v, ph', k1, k2, k3, ⟨u, e, z, e2, -, -⟩, k5⟩ := xcon_go (w := 0) (xtell_174 (E := fun q => E q ∧ xcells xX [(0, 5)] ph q) (xHE_cells (by decide +kernel) hE0) (fun p h => hV p h.1)) rfl rfl rfl rfl (D := D' + 1 + 1) (by omega) hm h0m (Nat.le_refl _) (vs := [.ref 170, .ref 174, .int a, .int b]) ⟨xaRi rfl (by decide), xaRi rfl (by decide), xaI a0 a1, xaI b0 b1, trivial⟩ xF0 hP ⟨g9, fun _ _ _ _ _ => rfl⟩
    exact ⟨v, ph', k1, z, by rw [e, e2], k2, k3.1, k3.2 170 0 5 rfl List.mem_cons_self⟩
  refine xRd_mk (nl := 7) rfl rfl ?_
  show xGT kK (D' + 1 + 1) 270 _ (0, [some (.ref 170), some (.int p), none, none, none, none, none], [], ph, 0, 0)
  refine gt_load (v := .ref 170) (n := 1) (ykc_270 (e := (2, .aload_n kF0, 0)) rfl) rfl rfl ?_
  refine gt_alu (st' := [.int (Int32.ofInt 0), .ref 170]) (ykc_270 (e := (0, .iconst 0, 0)) rfl) rfl rfl ?_
  refine gt_pf (y := Int32.ofInt 0) (ykc_270 (e := (5, .putfield 3, 0)) rfl) rfl hP rfl rfl (by decide) (by decide) rfl (fun ph1 hP1 u1 => ?_)
  have f1_5 : xget ph1 170 5 = some (.int P) := (u1.2.1 170 5 (by decide)).trans hPe
  refine gt_load (v := .ref 170) (n := 1) (ykc_270 (e := (2, .aload_n kF0, 0)) rfl) rfl rfl ?_
  refine gt_load (v := .int p) (n := 1) (ykc_270 (e := (2, .iload_n kF1, 0)) rfl) rfl rfl ?_
  refine gt_cv (n := 1) (as := [.ref 170, .int p]) (r := []) (ykc_270 (e := (6, .invokevirtual 315, 0)) rfl) rfl hP1 rfl rfl rfl (xisPerson (D := D') hP1 f1_5) rfl (fun vv ph2 hv => ?_)
  obtain ⟨z, e9, e8, z_s⟩ := hv; subst e9; have e7 := e8.symm; subst e7
  change xGT kK (D' + 1 + 1) 270 _ (10, [some (.ref 170), some (.int p), none, none, none, none, none], [.int z], ph1, 0, 0)
  have g91 := xu1_E hE u1 rfl rfl rfl g9
  by_cases hz : z.toInt = 0
  · refine gt_zne_f (ykc_270 (e := (4, .ifCond .ne 5, 15)) rfl) hz rfl ?_
    refine gt_alu (st' := [.int (Int32.ofInt (-1))]) (ykc_270 (e := (0, .iconst (-1), 0)) rfl) rfl rfl ?_
    refine gt_ret (ykc_270 (e := (7, .ireturn, 0)) rfl) rfl ?_
    exact ⟨_, rfl, hP1, g91⟩
  · obtain ⟨pn, hpn⟩ : ∃ n : Nat, p.toInt = (n : Int) := ⟨p.toInt.toNat, by omega⟩
    refine gt_zne_t (ykc_270 (e := (4, .ifCond .ne 5, 15)) rfl) hz ?_
    refine gt_alu (st' := [.int (Int32.ofInt 1)]) (ykc_270 (e := (0, .iconst 1, 0)) rfl) rfl rfl ?_
    refine gt_load (v := .int p) (n := 1) (ykc_270 (e := (2, .iload_n kF1, 0)) rfl) rfl rfl ?_
    obtain ⟨bits, e_bits, h_bits⟩ : ∃ zq : Int32, (Int32.ofInt 1) <<< (p &&& 31) = zq ∧ zq.toInt = ((2 ^ pn : Nat) : Int) := ⟨_, rfl, ti_shl1 hpn (by omega)⟩
    refine gt_alu (st' := [.int bits]) (ykc_270 (e := (0, .ishl, 0)) rfl) (by rw [← e_bits]; exact rfl) rfl ?_
    refine gt_store (L' := [some (.ref 170), some (.int p), some (.int bits), none, none, none, none]) (st' := []) (n := 1) (ykc_270 (e := (3, .istore_n kF2, 0)) rfl) rfl rfl ?_
    refine gt_alu (st' := [.int (Int32.ofInt (-1))]) (ykc_270 (e := (0, .iconst (-1), 0)) rfl) rfl rfl ?_
    refine gt_store (L' := [some (.ref 170), some (.int p), some (.int bits), some (.int (Int32.ofInt (-1))), none, none, none]) (st' := []) (n := 1) (ykc_270 (e := (3, .istore_n kF3, 0)) rfl) rfl rfl ?_
    refine gt_load (v := .int bits) (n := 1) (ykc_270 (e := (2, .iload_n kF2, 0)) rfl) rfl rfl ?_
    refine gt_store (L' := [some (.ref 170), some (.int p), some (.int bits), some (.int (Int32.ofInt (-1))), some (.int bits), none, none]) (st' := []) (n := 2) (ykc_270 (e := (3, .istore 4, 0)) rfl) rfl rfl ?_
    have hB : 2 ^ pn < 256 := Nat.pow_lt_pow_right (m := pn) (n := 8) (by decide) (by omega)
    have hne : bits.toInt ≠ 0 := by
      have := Nat.two_pow_pos pn
      omega
    refine xgossip_pass hE hV hm h0m (by omega) p1 hcall h_bits hB h_bits hB hne hP1 g91 f1_5 ?_
    intro bits2 more2 rd2 mn2 o5 o6 ph2 h1 h2 h3 h4 h5 h6 h7
    exact xgossip_loop hE hV hm h0m (by omega) p1 hcall (fun bits rd more o5 o6 ph h1 h2 h3 => xgossip_end hE hV hm h0m p1 (fun z ph' h1 h2 => ⟨z, rfl, h1, h2⟩) h1 h2 h3) _ _ _ _ _ _ _ _ _ (Nat.lt_succ_self _) h1 (Nat.or_lt_two_pow (n := 8) hB hB) h5 h6 h7 h2 h3 h4

/-! Further blocks, summaries, contracts, printed by wip/x/xprint.py -/
/-- BVModel.gossip, by hand -/
theorem xn_270_0 {E : pm_H → Prop} (hE : xHE xX xgA_G94 xgF_G94 E) (hV : ∀ p, E p → xV p) : xcon xX kK E 25 270 [.inr (.inr (.inl 0)), .inl ((Int.negSucc 2147483647), (Int.ofNat 2147483647))] [] 0 (some (.inl ((Int.negSucc 2147483647), (Int.ofNat 2147483647)))) [] := xgossip hE hV
noncomputable def xs_270 : xc := xalt xX [.inr (.inr (.inl 0)), .inl ((Int.negSucc 2147483647), (Int.ofNat 2147483647))] (xctrG xX xkF_G94 [.inr (.inr (.inl 0)), .inl ((Int.negSucc 2147483647), (Int.ofNat 2147483647))] [] 0 (some (.inl ((Int.negSucc 2147483647), (Int.ofNat 2147483647)))) []) (xnone)
theorem xso_270 {E : pm_H → Prop} (hE : xHE xX xgA_G94 xgF_G94 E) (hV : ∀ p, E p → xV p) : xcok xX kK E 25 270 xs_270 := xalt_ok (xctrG_ok rfl rfl rfl rfl (fun ph => xn_270_0 (E := fun p => E p ∧ xcells xX xkF_G94 ph p) (xHE_cells (kF := xkF_G94) (by decide +kernel) hE) (fun p h => hV p h.1))) (xnone_ok)
/-! 271 BVModel.wouldSee (G8V) -/
theorem xkc_271 {pc : Nat} {e : Nat × Instr × Nat} (h : pm_tl kc_271 pc = some e) : pm_code kK 271 pc = some e := h
noncomputable def xb_271_0 : xb := xal 0 (xal 0 (xgf xX 13 11 (xil 1 (xial xX (xil 2 (xil 3 (xal 0 (xgf xX 13 11 (xpush (xci (Int.ofNat 16)) (xil 1 (xalu xa_add (xial xX (xal 0 (xal 0 (xgf xX 13 11 (xil 1 (xal 0 (xgf xX 13 11 (xpush (xci (Int.ofNat 16)) (xil 1 (xalu xa_add (xial xX (xcallV xX 13 3 xs_220 (xcallV xX 13 5 xs_224 (xrz)))))))))))))))))))))))))
theorem xp_271_0 {E : pm_H → Prop} (hE : xHE xX xgA_G8 xgF_G8 E) (hV : ∀ p, E p → xV p) : xok xX kK kK E 11 271 0 xb_271_0 := xal_ok (i := 0) 1 (xkc_271 rfl) (fo_lan kF0) (xal_ok (i := 0) 1 (xkc_271 rfl) (fo_lan kF0) (xgf_ok (b := 0) (by decide) (xkc_271 rfl) rfl (xil_ok (i := 1) 1 (xkc_271 rfl) (fo_lin kF1) (xial_ok (xkc_271 rfl) (xil_ok (i := 2) 1 (xkc_271 rfl) (fo_lin kF2) (xil_ok (i := 3) 1 (xkc_271 rfl) (fo_lin kF3) (xal_ok (i := 0) 1 (xkc_271 rfl) (fo_lan kF0) (xgf_ok (b := 0) (by decide) (xkc_271 rfl) rfl (xpush1_ok 2 (xkc_271 rfl) rfl (xci_ok (by decide +kernel)) (xil_ok (i := 1) 1 (xkc_271 rfl) (fo_lin kF1) (xalu_ok (xkc_271 rfl) xa_add_ok (xial_ok (xkc_271 rfl) (xal_ok (i := 0) 1 (xkc_271 rfl) (fo_lan kF0) (xal_ok (i := 0) 1 (xkc_271 rfl) (fo_lan kF0) (xgf_ok (b := 0) (by decide) (xkc_271 rfl) rfl (xil_ok (i := 1) 1 (xkc_271 rfl) (fo_lin kF1) (xal_ok (i := 0) 1 (xkc_271 rfl) (fo_lan kF0) (xgf_ok (b := 0) (by decide) (xkc_271 rfl) rfl (xpush1_ok 2 (xkc_271 rfl) rfl (xci_ok (by decide +kernel)) (xil_ok (i := 1) 1 (xkc_271 rfl) (fo_lin kF1) (xalu_ok (xkc_271 rfl) xa_add_ok (xial_ok (xkc_271 rfl) (xcallV_ok (xkc_271 rfl) rfl (Nat.le_of_ble_eq_true rfl) (xso_220 (xhe_G8_G8 hE) hV) (xcallV_ok (xkc_271 rfl) rfl (Nat.le_of_ble_eq_true rfl) xso_224 (xrz_ok (xkc_271 rfl) rfl)))))))))))))))))))))))))
noncomputable def xt_271 : List (Nat × xb) := [(0, xb_271_0)]
theorem xq_271 {E : pm_H → Prop} (hE : xHE xX xgA_G8 xgF_G8 E) (hV : ∀ p, E p → xV p) : ∀ q ∈ xt_271, xok xX kK kK E 11 271 q.1 q.2 := List.forall_mem_cons.mpr ⟨xp_271_0 hE hV, fun _ h => absurd h List.not_mem_nil⟩
def xnd_271_0_0 : List (xnd × List Nat) := [((0, [some (.inr (.inr (.inl 0))), some (.inl ((Int.ofNat 0), (Int.ofNat 7))), some (.inl ((Int.ofNat 0), (Int.ofNat 48))), some (.inl ((Int.negSucc 2147483647), (Int.ofNat 2147483647)))], [(696324, .inl ((Int.ofNat 7), (Int.ofNat 7)))], 0, ((Int.ofNat 0), [])), [])]
def xns_271_0 : xns := [xnd_271_0_0]
def xsp_271_0 : Nat → Option (Bool × Nat) := fun _ => none
theorem xck_271_0_0 : xnd_271_0_0.all (xnchk xX xsp_271_0 xt_271 [] xns_271_0 (some (.inl ((Int.ofNat 0), (Int.ofNat 1)))) [] 600) = true := by decide +kernel
theorem xn_271_0 {E : pm_H → Prop} (hE : xHE xX xgA_G8 xgF_G8 E) (hV : ∀ p, E p → xV p) : xcon xX kK E 12 271 [.inr (.inr (.inl 0)), .inl ((Int.ofNat 0), (Int.ofNat 7)), .inl ((Int.ofNat 0), (Int.ofNat 48)), .inl ((Int.negSucc 2147483647), (Int.ofNat 2147483647))] [(696324, .inl ((Int.ofNat 7), (Int.ofNat 7)))] 0 (some (.inl ((Int.ofNat 0), (Int.ofNat 1)))) [] := xnodes_ok (nl := 4) (f := 600) (sp := xsp_271_0) (T := xt_271) (cps := []) (ns := xns_271_0) rfl rfl (xq_271 hE hV) rfl (List.forall_mem_cons.mpr ⟨List.all_eq_true.mp xck_271_0_0, fun _ h => absurd h List.not_mem_nil⟩)
def xnd_271_1_0 : List (xnd × List Nat) := [((0, [some (.inr (.inr (.inl 0))), some (.inl ((Int.ofNat 0), (Int.ofNat 7))), some (.inl ((Int.ofNat 0), (Int.ofNat 47))), some (.inl ((Int.negSucc 2147483647), (Int.ofNat 2147483647)))], [], 0, ((Int.ofNat 0), [])), [])]
def xns_271_1 : xns := [xnd_271_1_0]
def xsp_271_1 : Nat → Option (Bool × Nat) := fun _ => none
theorem xck_271_1_0 : xnd_271_1_0.all (xnchk xX xsp_271_1 xt_271 [] xns_271_1 (some (.inl ((Int.ofNat 0), (Int.ofNat 1)))) [] 600) = true := by decide +kernel
theorem xn_271_1 {E : pm_H → Prop} (hE : xHE xX xgA_G8 xgF_G8 E) (hV : ∀ p, E p → xV p) : xcon xX kK E 12 271 [.inr (.inr (.inl 0)), .inl ((Int.ofNat 0), (Int.ofNat 7)), .inl ((Int.ofNat 0), (Int.ofNat 47)), .inl ((Int.negSucc 2147483647), (Int.ofNat 2147483647))] [] 0 (some (.inl ((Int.ofNat 0), (Int.ofNat 1)))) [] := xnodes_ok (nl := 4) (f := 600) (sp := xsp_271_1) (T := xt_271) (cps := []) (ns := xns_271_1) rfl rfl (xq_271 hE hV) rfl (List.forall_mem_cons.mpr ⟨List.all_eq_true.mp xck_271_1_0, fun _ h => absurd h List.not_mem_nil⟩)
noncomputable def xs_271 : xc := xaltF xX [.inr (.inr (.inl 0)), .inl ((Int.ofNat 0), (Int.ofNat 7)), .inl ((Int.ofNat 0), (Int.ofNat 48)), .inl ((Int.negSucc 2147483647), (Int.ofNat 2147483647))] [(696324, .inl ((Int.ofNat 7), (Int.ofNat 7)))] (xctrG xX xkF_G8 [.inr (.inr (.inl 0)), .inl ((Int.ofNat 0), (Int.ofNat 7)), .inl ((Int.ofNat 0), (Int.ofNat 48)), .inl ((Int.negSucc 2147483647), (Int.ofNat 2147483647))] [(696324, .inl ((Int.ofNat 7), (Int.ofNat 7)))] 0 (some (.inl ((Int.ofNat 0), (Int.ofNat 1)))) []) (xalt xX [.inr (.inr (.inl 0)), .inl ((Int.ofNat 0), (Int.ofNat 7)), .inl ((Int.ofNat 0), (Int.ofNat 47)), .inl ((Int.negSucc 2147483647), (Int.ofNat 2147483647))] (xctrG xX xkF_G8 [.inr (.inr (.inl 0)), .inl ((Int.ofNat 0), (Int.ofNat 7)), .inl ((Int.ofNat 0), (Int.ofNat 47)), .inl ((Int.negSucc 2147483647), (Int.ofNat 2147483647))] [] 0 (some (.inl ((Int.ofNat 0), (Int.ofNat 1)))) []) (xnone))
theorem xso_271 {E : pm_H → Prop} (hE : xHE xX xgA_G8 xgF_G8 E) (hV : ∀ p, E p → xV p) : xcok xX kK E 12 271 xs_271 := xaltF_ok (xctrG_ok rfl rfl rfl rfl (fun ph => xn_271_0 (E := fun p => E p ∧ xcells xX xkF_G8 ph p) (xHE_cells (kF := xkF_G8) (by decide +kernel) hE) (fun p h => hV p h.1))) (xalt_ok (xctrG_ok rfl rfl rfl rfl (fun ph => xn_271_1 (E := fun p => E p ∧ xcells xX xkF_G8 ph p) (xHE_cells (kF := xkF_G8) (by decide +kernel) hE) (fun p h => hV p h.1))) (xnone_ok))
/-! 272 BVModel.eighths (G94V) -/
theorem xkc_272 {pc : Nat} {e : Nat × Instr × Nat} (h : pm_tl kc_272 pc = some e) : pm_code kK 272 pc = some e := h
noncomputable def xb_272_0 : xb := xspb xX 696324 [((Int.ofNat 3), (Int.ofNat 6)), ((Int.ofNat 7), (Int.ofNat 7))] (xal 0 (xpush (xci (Int.ofNat 0)) (xpf xX xgF_G94 13 0 0 (xal 0 (xil 1 (xcallV xX 13 1 xs_190 (xif1 xr_eq xr_ne 21 (xal 0 (xil 2 (xcallV xX 13 1 xs_189 (xif1 xr_ne xr_eq 23 (xj 21))))))))))))
theorem xp_272_0 {E : pm_H → Prop} (hE : xHE xX xgA_G94 xgF_G94 E) (hV : ∀ p, E p → xV p) : xok xX kK kK E 12 272 0 xb_272_0 := xspb_ok (xal_ok (i := 0) 1 (xkc_272 rfl) (fo_lan kF0) (xpush0_ok (xkc_272 rfl) (fun _ => rfl) (xci_ok (by decide +kernel)) (xpf_ok xsn_G94 hE (by decide) (xkc_272 rfl) rfl rfl xz0 (xal_ok (i := 0) 1 (xkc_272 rfl) (fo_lan kF0) (xil_ok (i := 1) 1 (xkc_272 rfl) (fo_lin kF1) (xcallV_ok (xkc_272 rfl) rfl (Nat.le_of_ble_eq_true rfl) xso_190 (xif1_ok (pb := fun x => fo_eq x 0) (aux := 21) (xkc_272 rfl) xr_eq_ok xr_ne_ok fo_iz_eq xz_eq xy_eq (xal_ok (i := 0) 1 (xkc_272 rfl) (fo_lan kF0) (xil_ok (i := 2) 1 (xkc_272 rfl) (fo_lin kF2) (xcallV_ok (xkc_272 rfl) rfl (Nat.le_of_ble_eq_true rfl) xso_189 (xif1_ok (pb := fun x => fo_ne x 0) (aux := 23) (xkc_272 rfl) xr_ne_ok xr_eq_ok fo_iz_ne xz_ne xy_ne (xj_ok))))))))))))
noncomputable def xb_272_21 : xb := xpush (xci (Int.negSucc 0)) (xri)
theorem xp_272_21 {E : pm_H → Prop} (hE : xHE xX xgA_G94 xgF_G94 E) (hV : ∀ p, E p → xV p) : xok xX kK kK E 12 272 21 xb_272_21 := xpush0_ok (xkc_272 rfl) (fun _ => rfl) (xci_ok (by decide +kernel)) (xri_ok (xkc_272 rfl) rfl)
noncomputable def xb_272_23 : xb := xpush (xci (Int.negSucc 0)) (xis 3 (xpush (xci (Int.ofNat 1000000)) (xis 4 (xpush (xci (Int.ofNat 0)) (xis 5 (xj 33))))))
theorem xp_272_23 {E : pm_H → Prop} (hE : xHE xX xgA_G94 xgF_G94 E) (hV : ∀ p, E p → xV p) : xok xX kK kK E 12 272 23 xb_272_23 := xpush0_ok (xkc_272 rfl) (fun _ => rfl) (xci_ok (by decide +kernel)) (xis_ok (i := 3) 1 (xkc_272 rfl) (fo_sin kF3) (xpush1_ok 3 (xkc_272 rfl) rfl (xci_ok (by decide +kernel)) (xis_ok (i := 4) 2 (xkc_272 rfl) (fo_si 4) (xpush0_ok (xkc_272 rfl) (fun _ => rfl) (xci_ok (by decide +kernel)) (xis_ok (i := 5) 2 (xkc_272 rfl) (fo_si 5) (xj_ok))))))
noncomputable def xb_272_33 : xb := xil 5 (xpush (xci (Int.ofNat 8)) (xif2 xr_ge xr_lt 87 (xal 0 (xgf xX 13 11 (xpush (xci (Int.ofNat 8)) (xil 1 (xalu xa_add (xial xX (xil 5 (xcallS 2 xs_222 (xis 6 (xil 6 (xil 4 (xif2 xr_ge xr_lt 81 (xal 0 (xil 1 (xil 2 (xil 5 (xcallV xX 13 3 xs_271 (xif1 xr_eq xr_ne 81 (xil 5 (xis 3 (xil 6 (xis 4 (xj 81)))))))))))))))))))))))))
theorem xp_272_33 {E : pm_H → Prop} (hE : xHE xX xgA_G94 xgF_G94 E) (hV : ∀ p, E p → xV p) : xok xX kK kK E 12 272 33 xb_272_33 := xil_ok (i := 5) 2 (xkc_272 rfl) (fo_li 5) (xpush1_ok 2 (xkc_272 rfl) rfl (xci_ok (by decide +kernel)) (xif2_ok (aux := 87) (xkc_272 rfl) xr_ge_ok xr_lt_ok fo_ic_ge xb_ge (xal_ok (i := 0) 1 (xkc_272 rfl) (fo_lan kF0) (xgf_ok (b := 0) (by decide) (xkc_272 rfl) rfl (xpush1_ok 2 (xkc_272 rfl) rfl (xci_ok (by decide +kernel)) (xil_ok (i := 1) 1 (xkc_272 rfl) (fo_lin kF1) (xalu_ok (xkc_272 rfl) xa_add_ok (xial_ok (xkc_272 rfl) (xil_ok (i := 5) 2 (xkc_272 rfl) (fo_li 5) (xcallS_ok (xkc_272 rfl) rfl (Nat.le_of_ble_eq_true rfl) xso_222 (xis_ok (i := 6) 2 (xkc_272 rfl) (fo_si 6) (xil_ok (i := 6) 2 (xkc_272 rfl) (fo_li 6) (xil_ok (i := 4) 2 (xkc_272 rfl) (fo_li 4) (xif2_ok (aux := 81) (xkc_272 rfl) xr_ge_ok xr_lt_ok fo_ic_ge xb_ge (xal_ok (i := 0) 1 (xkc_272 rfl) (fo_lan kF0) (xil_ok (i := 1) 1 (xkc_272 rfl) (fo_lin kF1) (xil_ok (i := 2) 1 (xkc_272 rfl) (fo_lin kF2) (xil_ok (i := 5) 2 (xkc_272 rfl) (fo_li 5) (xcallV_ok (xkc_272 rfl) rfl (Nat.le_of_ble_eq_true rfl) (xso_271 (xhe_G94_G8 hE) hV) (xif1_ok (pb := fun x => fo_eq x 0) (aux := 81) (xkc_272 rfl) xr_eq_ok xr_ne_ok fo_iz_eq xz_eq xy_eq (xil_ok (i := 5) 2 (xkc_272 rfl) (fo_li 5) (xis_ok (i := 3) 1 (xkc_272 rfl) (fo_sin kF3) (xil_ok (i := 6) 2 (xkc_272 rfl) (fo_li 6) (xis_ok (i := 4) 2 (xkc_272 rfl) (fo_si 4) (xj_ok)))))))))))))))))))))))))
noncomputable def xb_272_81 : xb := xinc 5 (Int.ofNat 1) (xj 33)
theorem xp_272_81 {E : pm_H → Prop} (hE : xHE xX xgA_G94 xgF_G94 E) (hV : ∀ p, E p → xV p) : xok xX kK kK E 12 272 81 xb_272_81 := xinc_ok (xkc_272 rfl) (by decide +kernel) (xgoto_ok (xkc_272 rfl))
noncomputable def xb_272_87 : xb := xil 3 (xif1 xr_ge xr_lt 94 (xpush (xci (Int.negSucc 1)) (xri)))
theorem xp_272_87 {E : pm_H → Prop} (hE : xHE xX xgA_G94 xgF_G94 E) (hV : ∀ p, E p → xV p) : xok xX kK kK E 12 272 87 xb_272_87 := xil_ok (i := 3) 1 (xkc_272 rfl) (fo_lin kF3) (xif1_ok (pb := fun x => fo_ge x 0) (aux := 94) (xkc_272 rfl) xr_ge_ok xr_lt_ok fo_iz_ge xz_ge xy_ge (xpush1_ok 2 (xkc_272 rfl) rfl (xci_ok (by decide +kernel)) (xri_ok (xkc_272 rfl) rfl)))
noncomputable def xb_272_94 : xb := xal 0 (xpush (xci (Int.ofNat 0)) (xpf xX xgF_G94 13 1 0 (xal 0 (xil 3 (xalu xa_i2l (xcallV xX 13 1 xs_186 (xil 4 (xri))))))))
theorem xp_272_94 {E : pm_H → Prop} (hE : xHE xX xgA_G94 xgF_G94 E) (hV : ∀ p, E p → xV p) : xok xX kK kK E 12 272 94 xb_272_94 := xal_ok (i := 0) 1 (xkc_272 rfl) (fo_lan kF0) (xpush0_ok (xkc_272 rfl) (fun _ => rfl) (xci_ok (by decide +kernel)) (xpf_ok xsn_G94 hE (by decide) (xkc_272 rfl) rfl rfl xz0 (xal_ok (i := 0) 1 (xkc_272 rfl) (fo_lan kF0) (xil_ok (i := 3) 1 (xkc_272 rfl) (fo_lin kF3) (xalu_ok (xkc_272 rfl) xa_i2l_ok (xcallV_ok (xkc_272 rfl) rfl (Nat.le_of_ble_eq_true rfl) (xso_186 (xhe_G94_G58 hE)) (xil_ok (i := 4) 2 (xkc_272 rfl) (fo_li 4) (xri_ok (xkc_272 rfl) rfl))))))))
noncomputable def xt_272 : List (Nat × xb) := [(0, xb_272_0), (21, xb_272_21), (23, xb_272_23), (33, xb_272_33), (81, xb_272_81), (87, xb_272_87), (94, xb_272_94)]
theorem xq_272 {E : pm_H → Prop} (hE : xHE xX xgA_G94 xgF_G94 E) (hV : ∀ p, E p → xV p) : ∀ q ∈ xt_272, xok xX kK kK E 12 272 q.1 q.2 := List.forall_mem_cons.mpr ⟨xp_272_0 hE hV, List.forall_mem_cons.mpr ⟨xp_272_21 hE hV, List.forall_mem_cons.mpr ⟨xp_272_23 hE hV, List.forall_mem_cons.mpr ⟨xp_272_33 hE hV, List.forall_mem_cons.mpr ⟨xp_272_81 hE hV, List.forall_mem_cons.mpr ⟨xp_272_87 hE hV, List.forall_mem_cons.mpr ⟨xp_272_94 hE hV, fun _ h => absurd h List.not_mem_nil⟩⟩⟩⟩⟩⟩⟩
def xnd_272_0_0 : List (xnd × List Nat) := [((0, [some (.inr (.inr (.inl 0))), some (.inl ((Int.negSucc 2147483647), (Int.ofNat 2147483647))), some (.inl ((Int.negSucc 2147483647), (Int.ofNat 2147483647))), none, none, none, none], [], 0, ((Int.ofNat 9), [])), [1, 2]),
  ((33, [some (.inr (.inr (.inl 0))), some (.inl ((Int.ofNat 0), (Int.ofNat 7))), some (.inl ((Int.ofNat 0), (Int.ofNat 48))), some (.inl ((Int.negSucc 0), (Int.ofNat 7))), some (.inl ((Int.negSucc 2147483647), (Int.ofNat 1000000))), some (.inl ((Int.ofNat 0), (Int.ofNat 8))), none], [(696320, .inl ((Int.ofNat 0), (Int.ofNat 0))), (696324, .inl ((Int.ofNat 7), (Int.ofNat 7))), (696325, .inl ((Int.ofNat 1), (Int.ofNat 8)))], 0, ((Int.ofNat 8), [((Int.negSucc 0), false, 5)])), [1]),
  ((33, [some (.inr (.inr (.inl 0))), some (.inl ((Int.ofNat 0), (Int.ofNat 7))), some (.inl ((Int.ofNat 0), (Int.ofNat 41))), some (.inl ((Int.negSucc 0), (Int.ofNat 7))), some (.inl ((Int.negSucc 2147483647), (Int.ofNat 1000000))), some (.inl ((Int.ofNat 0), (Int.ofNat 8))), none], [(696320, .inl ((Int.ofNat 0), (Int.ofNat 0))), (696324, .inl ((Int.ofNat 3), (Int.ofNat 6))), (696325, .inl ((Int.ofNat 1), (Int.ofNat 8)))], 0, ((Int.ofNat 8), [((Int.negSucc 0), false, 5)])), [2])]
def xns_272_0 : xns := [xnd_272_0_0]
def xsp_272_0 : Nat → Option (Bool × Nat) := fun _ => none
theorem xck_272_0_0 : xnd_272_0_0.all (xnchk xX xsp_272_0 xt_272 [33] xns_272_0 (some (.inl ((Int.negSucc 2147483647), (Int.ofNat 1000000)))) [] 600) = true := by decide +kernel
theorem xn_272_0 {E : pm_H → Prop} (hE : xHE xX xgA_G94 xgF_G94 E) (hV : ∀ p, E p → xV p) : xcon xX kK E 13 272 [.inr (.inr (.inl 0)), .inl ((Int.negSucc 2147483647), (Int.ofNat 2147483647)), .inl ((Int.negSucc 2147483647), (Int.ofNat 2147483647))] [] 0 (some (.inl ((Int.negSucc 2147483647), (Int.ofNat 1000000)))) [] := xnodes_ok (nl := 7) (f := 600) (sp := xsp_272_0) (T := xt_272) (cps := [33]) (ns := xns_272_0) rfl rfl (xq_272 hE hV) rfl (List.forall_mem_cons.mpr ⟨List.all_eq_true.mp xck_272_0_0, fun _ h => absurd h List.not_mem_nil⟩)
/-! 273 BVModel.wouldSeeThings (G8NV) -/
theorem xkc_273 {pc : Nat} {e : Nat × Instr × Nat} (h : pm_tl kc_273 pc = some e) : pm_code kK 273 pc = some e := h
noncomputable def xb_273_0 : xb := xspb xX 696326 [((Int.ofNat 0), (Int.ofNat 0)), ((Int.ofNat 1), (Int.ofNat 1)), ((Int.ofNat 2), (Int.ofNat 2)), ((Int.ofNat 3), (Int.ofNat 3)), ((Int.ofNat 4), (Int.ofNat 4)), ((Int.ofNat 5), (Int.ofNat 5)), ((Int.ofNat 6), (Int.ofNat 6)), ((Int.ofNat 7), (Int.ofNat 7)), ((Int.ofNat 8), (Int.ofNat 8))] (xspb xX 696324 [((Int.ofNat 3), (Int.ofNat 6)), ((Int.ofNat 7), (Int.ofNat 7))] (xpush (xci (Int.ofNat 0)) (xis 3 (xpush (xci (Int.ofNat 0)) (xis 4 (xj 5))))))
theorem xp_273_0 {E : pm_H → Prop} (hE : xHE xX xgA_G8 xgF_G8 E) (hV : ∀ p, E p → xV p) (hN : ∀ p, E p → xPG p) : xok xX kK kK E 12 273 0 xb_273_0 := xspb_ok (xspb_ok (xpush0_ok (xkc_273 rfl) (fun _ => rfl) (xci_ok (by decide +kernel)) (xis_ok (i := 3) 1 (xkc_273 rfl) (fo_sin kF3) (xpush0_ok (xkc_273 rfl) (fun _ => rfl) (xci_ok (by decide +kernel)) (xis_ok (i := 4) 2 (xkc_273 rfl) (fo_si 4) (xj_ok))))))
noncomputable def xb_273_5 : xb := xil 4 (xal 0 (xgf xX 13 6 (xif2 xr_ge xr_lt 50 (xil 3 (xal 0 (xil 1 (xal 0 (xgf xX 13 11 (xpush (xci (Int.ofNat 32)) (xil 4 (xalu xa_add (xialP (xil 2 (xcallV xX 13 3 xs_271 (xif1 xr_eq xr_ne 41 (xpush (xci (Int.ofNat 1)) (xil 4 (xalu (xa2 xo_shl) (xj 42)))))))))))))))))))
theorem xp_273_5 {E : pm_H → Prop} (hE : xHE xX xgA_G8 xgF_G8 E) (hV : ∀ p, E p → xV p) (hN : ∀ p, E p → xPG p) : xok xX kK kK E 12 273 5 xb_273_5 := xil_ok (i := 4) 2 (xkc_273 rfl) (fo_li 4) (xal_ok (i := 0) 1 (xkc_273 rfl) (fo_lan kF0) (xgf_ok (b := 0) (by decide) (xkc_273 rfl) rfl (xif2_ok (aux := 50) (xkc_273 rfl) xr_ge_ok xr_lt_ok fo_ic_ge xb_ge (xil_ok (i := 3) 1 (xkc_273 rfl) (fo_lin kF3) (xal_ok (i := 0) 1 (xkc_273 rfl) (fo_lan kF0) (xil_ok (i := 1) 1 (xkc_273 rfl) (fo_lin kF1) (xal_ok (i := 0) 1 (xkc_273 rfl) (fo_lan kF0) (xgf_ok (b := 0) (by decide) (xkc_273 rfl) rfl (xpush1_ok 2 (xkc_273 rfl) rfl (xci_ok (by decide +kernel)) (xil_ok (i := 4) 2 (xkc_273 rfl) (fo_li 4) (xalu_ok (xkc_273 rfl) xa_add_ok (xialP_ok hN (xkc_273 rfl) (xil_ok (i := 2) 1 (xkc_273 rfl) (fo_lin kF2) (xcallV_ok (xkc_273 rfl) rfl (Nat.le_of_ble_eq_true rfl) (xso_271 (xhe_G8_G8 hE) hV) (xif1_ok (pb := fun x => fo_eq x 0) (aux := 41) (xkc_273 rfl) xr_eq_ok xr_ne_ok fo_iz_eq xz_eq xy_eq (xpush0_ok (xkc_273 rfl) (fun _ => rfl) (xci_ok (by decide +kernel)) (xil_ok (i := 4) 2 (xkc_273 rfl) (fo_li 4) (xalu_ok (xkc_273 rfl) (xa2_ok xo_shl_ok (fun _ _ _ _ => rfl)) (xgoto_ok (xkc_273 rfl))))))))))))))))))))
noncomputable def xb_273_41 : xb := xpush (xci (Int.ofNat 0)) (xj 42)
theorem xp_273_41 {E : pm_H → Prop} (hE : xHE xX xgA_G8 xgF_G8 E) (hV : ∀ p, E p → xV p) (hN : ∀ p, E p → xPG p) : xok xX kK kK E 12 273 41 xb_273_41 := xpush0_ok (xkc_273 rfl) (fun _ => rfl) (xci_ok (by decide +kernel)) (xj_ok)
noncomputable def xb_273_42 : xb := xalu (xa2 xo_or) (xis 3 (xinc 4 (Int.ofNat 1) (xj 5)))
theorem xp_273_42 {E : pm_H → Prop} (hE : xHE xX xgA_G8 xgF_G8 E) (hV : ∀ p, E p → xV p) (hN : ∀ p, E p → xPG p) : xok xX kK kK E 12 273 42 xb_273_42 := xalu_ok (xkc_273 rfl) (xa2_ok xo_or_ok (fun _ _ _ _ => rfl)) (xis_ok (i := 3) 1 (xkc_273 rfl) (fo_sin kF3) (xinc_ok (xkc_273 rfl) (by decide +kernel) (xgoto_ok (xkc_273 rfl))))
noncomputable def xb_273_50 : xb := xil 3 (xri)
theorem xp_273_50 {E : pm_H → Prop} (hE : xHE xX xgA_G8 xgF_G8 E) (hV : ∀ p, E p → xV p) (hN : ∀ p, E p → xPG p) : xok xX kK kK E 12 273 50 xb_273_50 := xil_ok (i := 3) 1 (xkc_273 rfl) (fo_lin kF3) (xri_ok (xkc_273 rfl) rfl)
noncomputable def xt_273 : List (Nat × xb) := [(0, xb_273_0), (5, xb_273_5), (41, xb_273_41), (42, xb_273_42), (50, xb_273_50)]
theorem xq_273 {E : pm_H → Prop} (hE : xHE xX xgA_G8 xgF_G8 E) (hV : ∀ p, E p → xV p) (hN : ∀ p, E p → xPG p) : ∀ q ∈ xt_273, xok xX kK kK E 12 273 q.1 q.2 := List.forall_mem_cons.mpr ⟨xp_273_0 hE hV hN, List.forall_mem_cons.mpr ⟨xp_273_5 hE hV hN, List.forall_mem_cons.mpr ⟨xp_273_41 hE hV hN, List.forall_mem_cons.mpr ⟨xp_273_42 hE hV hN, List.forall_mem_cons.mpr ⟨xp_273_50 hE hV hN, fun _ h => absurd h List.not_mem_nil⟩⟩⟩⟩⟩
def xnd_273_0_0 : List (xnd × List Nat) := [((0, [some (.inr (.inr (.inl 0))), some (.inl ((Int.ofNat 0), (Int.ofNat 7))), some (.inl ((Int.negSucc 2147483647), (Int.ofNat 2147483647))), none, none], [], 0, ((Int.ofNat 9), [])), [1, 2, 3, 4, 5, 6, 7, 8, 9, 10, 11, 12, 13, 14, 15, 16, 17, 18]),
  ((5, [some (.inr (.inr (.inl 0))), some (.inl ((Int.ofNat 0), (Int.ofNat 7))), some (.inl ((Int.negSucc 2147483647), (Int.ofNat 2147483647))), some (.inl ((Int.ofNat 0), (Int.ofNat 0))), some (.inl ((Int.ofNat 0), (Int.ofNat 0)))], [(696324, .inl ((Int.ofNat 7), (Int.ofNat 7))), (696326, .inl ((Int.ofNat 8), (Int.ofNat 8)))], 0, ((Int.ofNat 8), [((Int.negSucc 0), false, 4)])), [19]),
  ((5, [some (.inr (.inr (.inl 0))), some (.inl ((Int.ofNat 0), (Int.ofNat 7))), some (.inl ((Int.negSucc 2147483647), (Int.ofNat 2147483647))), some (.inl ((Int.ofNat 0), (Int.ofNat 0))), some (.inl ((Int.ofNat 0), (Int.ofNat 0)))], [(696324, .inl ((Int.ofNat 3), (Int.ofNat 6))), (696326, .inl ((Int.ofNat 8), (Int.ofNat 8)))], 0, ((Int.ofNat 8), [((Int.negSucc 0), false, 4)])), [20]),
  ((5, [some (.inr (.inr (.inl 0))), some (.inl ((Int.ofNat 0), (Int.ofNat 7))), some (.inl ((Int.negSucc 2147483647), (Int.ofNat 2147483647))), some (.inl ((Int.ofNat 0), (Int.ofNat 0))), some (.inl ((Int.ofNat 0), (Int.ofNat 0)))], [(696324, .inl ((Int.ofNat 7), (Int.ofNat 7))), (696326, .inl ((Int.ofNat 7), (Int.ofNat 7)))], 0, ((Int.ofNat 8), [((Int.negSucc 0), false, 4)])), [21]),
  ((5, [some (.inr (.inr (.inl 0))), some (.inl ((Int.ofNat 0), (Int.ofNat 7))), some (.inl ((Int.negSucc 2147483647), (Int.ofNat 2147483647))), some (.inl ((Int.ofNat 0), (Int.ofNat 0))), some (.inl ((Int.ofNat 0), (Int.ofNat 0)))], [(696324, .inl ((Int.ofNat 3), (Int.ofNat 6))), (696326, .inl ((Int.ofNat 7), (Int.ofNat 7)))], 0, ((Int.ofNat 8), [((Int.negSucc 0), false, 4)])), [22]),
  ((5, [some (.inr (.inr (.inl 0))), some (.inl ((Int.ofNat 0), (Int.ofNat 7))), some (.inl ((Int.negSucc 2147483647), (Int.ofNat 2147483647))), some (.inl ((Int.ofNat 0), (Int.ofNat 0))), some (.inl ((Int.ofNat 0), (Int.ofNat 0)))], [(696324, .inl ((Int.ofNat 7), (Int.ofNat 7))), (696326, .inl ((Int.ofNat 6), (Int.ofNat 6)))], 0, ((Int.ofNat 8), [((Int.negSucc 0), false, 4)])), [23]),
  ((5, [some (.inr (.inr (.inl 0))), some (.inl ((Int.ofNat 0), (Int.ofNat 7))), some (.inl ((Int.negSucc 2147483647), (Int.ofNat 2147483647))), some (.inl ((Int.ofNat 0), (Int.ofNat 0))), some (.inl ((Int.ofNat 0), (Int.ofNat 0)))], [(696324, .inl ((Int.ofNat 3), (Int.ofNat 6))), (696326, .inl ((Int.ofNat 6), (Int.ofNat 6)))], 0, ((Int.ofNat 8), [((Int.negSucc 0), false, 4)])), [24]),
  ((5, [some (.inr (.inr (.inl 0))), some (.inl ((Int.ofNat 0), (Int.ofNat 7))), some (.inl ((Int.negSucc 2147483647), (Int.ofNat 2147483647))), some (.inl ((Int.ofNat 0), (Int.ofNat 0))), some (.inl ((Int.ofNat 0), (Int.ofNat 0)))], [(696324, .inl ((Int.ofNat 7), (Int.ofNat 7))), (696326, .inl ((Int.ofNat 5), (Int.ofNat 5)))], 0, ((Int.ofNat 8), [((Int.negSucc 0), false, 4)])), [25]),
  ((5, [some (.inr (.inr (.inl 0))), some (.inl ((Int.ofNat 0), (Int.ofNat 7))), some (.inl ((Int.negSucc 2147483647), (Int.ofNat 2147483647))), some (.inl ((Int.ofNat 0), (Int.ofNat 0))), some (.inl ((Int.ofNat 0), (Int.ofNat 0)))], [(696324, .inl ((Int.ofNat 3), (Int.ofNat 6))), (696326, .inl ((Int.ofNat 5), (Int.ofNat 5)))], 0, ((Int.ofNat 8), [((Int.negSucc 0), false, 4)])), [26]),
  ((5, [some (.inr (.inr (.inl 0))), some (.inl ((Int.ofNat 0), (Int.ofNat 7))), some (.inl ((Int.negSucc 2147483647), (Int.ofNat 2147483647))), some (.inl ((Int.ofNat 0), (Int.ofNat 0))), some (.inl ((Int.ofNat 0), (Int.ofNat 0)))], [(696324, .inl ((Int.ofNat 7), (Int.ofNat 7))), (696326, .inl ((Int.ofNat 4), (Int.ofNat 4)))], 0, ((Int.ofNat 8), [((Int.negSucc 0), false, 4)])), [27]),
  ((5, [some (.inr (.inr (.inl 0))), some (.inl ((Int.ofNat 0), (Int.ofNat 7))), some (.inl ((Int.negSucc 2147483647), (Int.ofNat 2147483647))), some (.inl ((Int.ofNat 0), (Int.ofNat 0))), some (.inl ((Int.ofNat 0), (Int.ofNat 0)))], [(696324, .inl ((Int.ofNat 3), (Int.ofNat 6))), (696326, .inl ((Int.ofNat 4), (Int.ofNat 4)))], 0, ((Int.ofNat 8), [((Int.negSucc 0), false, 4)])), [28]),
  ((5, [some (.inr (.inr (.inl 0))), some (.inl ((Int.ofNat 0), (Int.ofNat 7))), some (.inl ((Int.negSucc 2147483647), (Int.ofNat 2147483647))), some (.inl ((Int.ofNat 0), (Int.ofNat 0))), some (.inl ((Int.ofNat 0), (Int.ofNat 0)))], [(696324, .inl ((Int.ofNat 7), (Int.ofNat 7))), (696326, .inl ((Int.ofNat 3), (Int.ofNat 3)))], 0, ((Int.ofNat 8), [((Int.negSucc 0), false, 4)])), [29]),
  ((5, [some (.inr (.inr (.inl 0))), some (.inl ((Int.ofNat 0), (Int.ofNat 7))), some (.inl ((Int.negSucc 2147483647), (Int.ofNat 2147483647))), some (.inl ((Int.ofNat 0), (Int.ofNat 0))), some (.inl ((Int.ofNat 0), (Int.ofNat 0)))], [(696324, .inl ((Int.ofNat 3), (Int.ofNat 6))), (696326, .inl ((Int.ofNat 3), (Int.ofNat 3)))], 0, ((Int.ofNat 8), [((Int.negSucc 0), false, 4)])), [30]),
  ((5, [some (.inr (.inr (.inl 0))), some (.inl ((Int.ofNat 0), (Int.ofNat 7))), some (.inl ((Int.negSucc 2147483647), (Int.ofNat 2147483647))), some (.inl ((Int.ofNat 0), (Int.ofNat 0))), some (.inl ((Int.ofNat 0), (Int.ofNat 0)))], [(696324, .inl ((Int.ofNat 7), (Int.ofNat 7))), (696326, .inl ((Int.ofNat 2), (Int.ofNat 2)))], 0, ((Int.ofNat 8), [((Int.negSucc 0), false, 4)])), [31]),
  ((5, [some (.inr (.inr (.inl 0))), some (.inl ((Int.ofNat 0), (Int.ofNat 7))), some (.inl ((Int.negSucc 2147483647), (Int.ofNat 2147483647))), some (.inl ((Int.ofNat 0), (Int.ofNat 0))), some (.inl ((Int.ofNat 0), (Int.ofNat 0)))], [(696324, .inl ((Int.ofNat 3), (Int.ofNat 6))), (696326, .inl ((Int.ofNat 2), (Int.ofNat 2)))], 0, ((Int.ofNat 8), [((Int.negSucc 0), false, 4)])), [32]),
  ((5, [some (.inr (.inr (.inl 0))), some (.inl ((Int.ofNat 0), (Int.ofNat 7))), some (.inl ((Int.negSucc 2147483647), (Int.ofNat 2147483647))), some (.inl ((Int.ofNat 0), (Int.ofNat 0))), some (.inl ((Int.ofNat 0), (Int.ofNat 0)))], [(696324, .inl ((Int.ofNat 7), (Int.ofNat 7))), (696326, .inl ((Int.ofNat 1), (Int.ofNat 1)))], 0, ((Int.ofNat 8), [((Int.negSucc 0), false, 4)])), [33])]
def xnd_273_0_1 : List (xnd × List Nat) := [((5, [some (.inr (.inr (.inl 0))), some (.inl ((Int.ofNat 0), (Int.ofNat 7))), some (.inl ((Int.negSucc 2147483647), (Int.ofNat 2147483647))), some (.inl ((Int.ofNat 0), (Int.ofNat 0))), some (.inl ((Int.ofNat 0), (Int.ofNat 0)))], [(696324, .inl ((Int.ofNat 3), (Int.ofNat 6))), (696326, .inl ((Int.ofNat 1), (Int.ofNat 1)))], 0, ((Int.ofNat 8), [((Int.negSucc 0), false, 4)])), [34]),
  ((5, [some (.inr (.inr (.inl 0))), some (.inl ((Int.ofNat 0), (Int.ofNat 7))), some (.inl ((Int.negSucc 2147483647), (Int.ofNat 2147483647))), some (.inl ((Int.ofNat 0), (Int.ofNat 0))), some (.inl ((Int.ofNat 0), (Int.ofNat 0)))], [(696324, .inl ((Int.ofNat 7), (Int.ofNat 7))), (696326, .inl ((Int.ofNat 0), (Int.ofNat 0)))], 0, ((Int.ofNat 8), [((Int.negSucc 0), false, 4)])), []),
  ((5, [some (.inr (.inr (.inl 0))), some (.inl ((Int.ofNat 0), (Int.ofNat 7))), some (.inl ((Int.negSucc 2147483647), (Int.ofNat 2147483647))), some (.inl ((Int.ofNat 0), (Int.ofNat 0))), some (.inl ((Int.ofNat 0), (Int.ofNat 0)))], [(696324, .inl ((Int.ofNat 3), (Int.ofNat 6))), (696326, .inl ((Int.ofNat 0), (Int.ofNat 0)))], 0, ((Int.ofNat 8), [((Int.negSucc 0), false, 4)])), []),
  ((5, [some (.inr (.inr (.inl 0))), some (.inl ((Int.ofNat 0), (Int.ofNat 7))), some (.inl ((Int.negSucc 2147483647), (Int.ofNat 2147483647))), some (.inl ((Int.ofNat 0), (Int.ofNat 1))), some (.inl ((Int.ofNat 1), (Int.ofNat 1)))], [(696324, .inl ((Int.ofNat 7), (Int.ofNat 7))), (696326, .inl ((Int.ofNat 8), (Int.ofNat 8)))], 0, ((Int.ofNat 8), [((Int.negSucc 0), false, 4)])), [35]),
  ((5, [some (.inr (.inr (.inl 0))), some (.inl ((Int.ofNat 0), (Int.ofNat 7))), some (.inl ((Int.negSucc 2147483647), (Int.ofNat 2147483647))), some (.inl ((Int.ofNat 0), (Int.ofNat 1))), some (.inl ((Int.ofNat 1), (Int.ofNat 1)))], [(696324, .inl ((Int.ofNat 3), (Int.ofNat 6))), (696326, .inl ((Int.ofNat 8), (Int.ofNat 8)))], 0, ((Int.ofNat 8), [((Int.negSucc 0), false, 4)])), [36]),
  ((5, [some (.inr (.inr (.inl 0))), some (.inl ((Int.ofNat 0), (Int.ofNat 7))), some (.inl ((Int.negSucc 2147483647), (Int.ofNat 2147483647))), some (.inl ((Int.ofNat 0), (Int.ofNat 1))), some (.inl ((Int.ofNat 1), (Int.ofNat 1)))], [(696324, .inl ((Int.ofNat 7), (Int.ofNat 7))), (696326, .inl ((Int.ofNat 7), (Int.ofNat 7)))], 0, ((Int.ofNat 8), [((Int.negSucc 0), false, 4)])), [37]),
  ((5, [some (.inr (.inr (.inl 0))), some (.inl ((Int.ofNat 0), (Int.ofNat 7))), some (.inl ((Int.negSucc 2147483647), (Int.ofNat 2147483647))), some (.inl ((Int.ofNat 0), (Int.ofNat 1))), some (.inl ((Int.ofNat 1), (Int.ofNat 1)))], [(696324, .inl ((Int.ofNat 3), (Int.ofNat 6))), (696326, .inl ((Int.ofNat 7), (Int.ofNat 7)))], 0, ((Int.ofNat 8), [((Int.negSucc 0), false, 4)])), [38]),
  ((5, [some (.inr (.inr (.inl 0))), some (.inl ((Int.ofNat 0), (Int.ofNat 7))), some (.inl ((Int.negSucc 2147483647), (Int.ofNat 2147483647))), some (.inl ((Int.ofNat 0), (Int.ofNat 1))), some (.inl ((Int.ofNat 1), (Int.ofNat 1)))], [(696324, .inl ((Int.ofNat 7), (Int.ofNat 7))), (696326, .inl ((Int.ofNat 6), (Int.ofNat 6)))], 0, ((Int.ofNat 8), [((Int.negSucc 0), false, 4)])), [39]),
  ((5, [some (.inr (.inr (.inl 0))), some (.inl ((Int.ofNat 0), (Int.ofNat 7))), some (.inl ((Int.negSucc 2147483647), (Int.ofNat 2147483647))), some (.inl ((Int.ofNat 0), (Int.ofNat 1))), some (.inl ((Int.ofNat 1), (Int.ofNat 1)))], [(696324, .inl ((Int.ofNat 3), (Int.ofNat 6))), (696326, .inl ((Int.ofNat 6), (Int.ofNat 6)))], 0, ((Int.ofNat 8), [((Int.negSucc 0), false, 4)])), [40]),
  ((5, [some (.inr (.inr (.inl 0))), some (.inl ((Int.ofNat 0), (Int.ofNat 7))), some (.inl ((Int.negSucc 2147483647), (Int.ofNat 2147483647))), some (.inl ((Int.ofNat 0), (Int.ofNat 1))), some (.inl ((Int.ofNat 1), (Int.ofNat 1)))], [(696324, .inl ((Int.ofNat 7), (Int.ofNat 7))), (696326, .inl ((Int.ofNat 5), (Int.ofNat 5)))], 0, ((Int.ofNat 8), [((Int.negSucc 0), false, 4)])), [41]),
  ((5, [some (.inr (.inr (.inl 0))), some (.inl ((Int.ofNat 0), (Int.ofNat 7))), some (.inl ((Int.negSucc 2147483647), (Int.ofNat 2147483647))), some (.inl ((Int.ofNat 0), (Int.ofNat 1))), some (.inl ((Int.ofNat 1), (Int.ofNat 1)))], [(696324, .inl ((Int.ofNat 3), (Int.ofNat 6))), (696326, .inl ((Int.ofNat 5), (Int.ofNat 5)))], 0, ((Int.ofNat 8), [((Int.negSucc 0), false, 4)])), [42]),
  ((5, [some (.inr (.inr (.inl 0))), some (.inl ((Int.ofNat 0), (Int.ofNat 7))), some (.inl ((Int.negSucc 2147483647), (Int.ofNat 2147483647))), some (.inl ((Int.ofNat 0), (Int.ofNat 1))), some (.inl ((Int.ofNat 1), (Int.ofNat 1)))], [(696324, .inl ((Int.ofNat 7), (Int.ofNat 7))), (696326, .inl ((Int.ofNat 4), (Int.ofNat 4)))], 0, ((Int.ofNat 8), [((Int.negSucc 0), false, 4)])), [43]),
  ((5, [some (.inr (.inr (.inl 0))), some (.inl ((Int.ofNat 0), (Int.ofNat 7))), some (.inl ((Int.negSucc 2147483647), (Int.ofNat 2147483647))), some (.inl ((Int.ofNat 0), (Int.ofNat 1))), some (.inl ((Int.ofNat 1), (Int.ofNat 1)))], [(696324, .inl ((Int.ofNat 3), (Int.ofNat 6))), (696326, .inl ((Int.ofNat 4), (Int.ofNat 4)))], 0, ((Int.ofNat 8), [((Int.negSucc 0), false, 4)])), [44]),
  ((5, [some (.inr (.inr (.inl 0))), some (.inl ((Int.ofNat 0), (Int.ofNat 7))), some (.inl ((Int.negSucc 2147483647), (Int.ofNat 2147483647))), some (.inl ((Int.ofNat 0), (Int.ofNat 1))), some (.inl ((Int.ofNat 1), (Int.ofNat 1)))], [(696324, .inl ((Int.ofNat 7), (Int.ofNat 7))), (696326, .inl ((Int.ofNat 3), (Int.ofNat 3)))], 0, ((Int.ofNat 8), [((Int.negSucc 0), false, 4)])), [45]),
  ((5, [some (.inr (.inr (.inl 0))), some (.inl ((Int.ofNat 0), (Int.ofNat 7))), some (.inl ((Int.negSucc 2147483647), (Int.ofNat 2147483647))), some (.inl ((Int.ofNat 0), (Int.ofNat 1))), some (.inl ((Int.ofNat 1), (Int.ofNat 1)))], [(696324, .inl ((Int.ofNat 3), (Int.ofNat 6))), (696326, .inl ((Int.ofNat 3), (Int.ofNat 3)))], 0, ((Int.ofNat 8), [((Int.negSucc 0), false, 4)])), [46]),
  ((5, [some (.inr (.inr (.inl 0))), some (.inl ((Int.ofNat 0), (Int.ofNat 7))), some (.inl ((Int.negSucc 2147483647), (Int.ofNat 2147483647))), some (.inl ((Int.ofNat 0), (Int.ofNat 1))), some (.inl ((Int.ofNat 1), (Int.ofNat 1)))], [(696324, .inl ((Int.ofNat 7), (Int.ofNat 7))), (696326, .inl ((Int.ofNat 2), (Int.ofNat 2)))], 0, ((Int.ofNat 8), [((Int.negSucc 0), false, 4)])), [47])]
def xnd_273_0_2 : List (xnd × List Nat) := [((5, [some (.inr (.inr (.inl 0))), some (.inl ((Int.ofNat 0), (Int.ofNat 7))), some (.inl ((Int.negSucc 2147483647), (Int.ofNat 2147483647))), some (.inl ((Int.ofNat 0), (Int.ofNat 1))), some (.inl ((Int.ofNat 1), (Int.ofNat 1)))], [(696324, .inl ((Int.ofNat 3), (Int.ofNat 6))), (696326, .inl ((Int.ofNat 2), (Int.ofNat 2)))], 0, ((Int.ofNat 8), [((Int.negSucc 0), false, 4)])), [48]),
  ((5, [some (.inr (.inr (.inl 0))), some (.inl ((Int.ofNat 0), (Int.ofNat 7))), some (.inl ((Int.negSucc 2147483647), (Int.ofNat 2147483647))), some (.inl ((Int.ofNat 0), (Int.ofNat 1))), some (.inl ((Int.ofNat 1), (Int.ofNat 1)))], [(696324, .inl ((Int.ofNat 7), (Int.ofNat 7))), (696326, .inl ((Int.ofNat 1), (Int.ofNat 1)))], 0, ((Int.ofNat 8), [((Int.negSucc 0), false, 4)])), []),
  ((5, [some (.inr (.inr (.inl 0))), some (.inl ((Int.ofNat 0), (Int.ofNat 7))), some (.inl ((Int.negSucc 2147483647), (Int.ofNat 2147483647))), some (.inl ((Int.ofNat 0), (Int.ofNat 1))), some (.inl ((Int.ofNat 1), (Int.ofNat 1)))], [(696324, .inl ((Int.ofNat 3), (Int.ofNat 6))), (696326, .inl ((Int.ofNat 1), (Int.ofNat 1)))], 0, ((Int.ofNat 8), [((Int.negSucc 0), false, 4)])), []),
  ((5, [some (.inr (.inr (.inl 0))), some (.inl ((Int.ofNat 0), (Int.ofNat 7))), some (.inl ((Int.negSucc 2147483647), (Int.ofNat 2147483647))), some (.inl ((Int.ofNat 0), (Int.ofNat 3))), some (.inl ((Int.ofNat 2), (Int.ofNat 2)))], [(696324, .inl ((Int.ofNat 7), (Int.ofNat 7))), (696326, .inl ((Int.ofNat 8), (Int.ofNat 8)))], 0, ((Int.ofNat 8), [((Int.negSucc 0), false, 4)])), [49]),
  ((5, [some (.inr (.inr (.inl 0))), some (.inl ((Int.ofNat 0), (Int.ofNat 7))), some (.inl ((Int.negSucc 2147483647), (Int.ofNat 2147483647))), some (.inl ((Int.ofNat 0), (Int.ofNat 3))), some (.inl ((Int.ofNat 2), (Int.ofNat 2)))], [(696324, .inl ((Int.ofNat 3), (Int.ofNat 6))), (696326, .inl ((Int.ofNat 8), (Int.ofNat 8)))], 0, ((Int.ofNat 8), [((Int.negSucc 0), false, 4)])), [50]),
  ((5, [some (.inr (.inr (.inl 0))), some (.inl ((Int.ofNat 0), (Int.ofNat 7))), some (.inl ((Int.negSucc 2147483647), (Int.ofNat 2147483647))), some (.inl ((Int.ofNat 0), (Int.ofNat 3))), some (.inl ((Int.ofNat 2), (Int.ofNat 2)))], [(696324, .inl ((Int.ofNat 7), (Int.ofNat 7))), (696326, .inl ((Int.ofNat 7), (Int.ofNat 7)))], 0, ((Int.ofNat 8), [((Int.negSucc 0), false, 4)])), [51]),
  ((5, [some (.inr (.inr (.inl 0))), some (.inl ((Int.ofNat 0), (Int.ofNat 7))), some (.inl ((Int.negSucc 2147483647), (Int.ofNat 2147483647))), some (.inl ((Int.ofNat 0), (Int.ofNat 3))), some (.inl ((Int.ofNat 2), (Int.ofNat 2)))], [(696324, .inl ((Int.ofNat 3), (Int.ofNat 6))), (696326, .inl ((Int.ofNat 7), (Int.ofNat 7)))], 0, ((Int.ofNat 8), [((Int.negSucc 0), false, 4)])), [52]),
  ((5, [some (.inr (.inr (.inl 0))), some (.inl ((Int.ofNat 0), (Int.ofNat 7))), some (.inl ((Int.negSucc 2147483647), (Int.ofNat 2147483647))), some (.inl ((Int.ofNat 0), (Int.ofNat 3))), some (.inl ((Int.ofNat 2), (Int.ofNat 2)))], [(696324, .inl ((Int.ofNat 7), (Int.ofNat 7))), (696326, .inl ((Int.ofNat 6), (Int.ofNat 6)))], 0, ((Int.ofNat 8), [((Int.negSucc 0), false, 4)])), [53]),
  ((5, [some (.inr (.inr (.inl 0))), some (.inl ((Int.ofNat 0), (Int.ofNat 7))), some (.inl ((Int.negSucc 2147483647), (Int.ofNat 2147483647))), some (.inl ((Int.ofNat 0), (Int.ofNat 3))), some (.inl ((Int.ofNat 2), (Int.ofNat 2)))], [(696324, .inl ((Int.ofNat 3), (Int.ofNat 6))), (696326, .inl ((Int.ofNat 6), (Int.ofNat 6)))], 0, ((Int.ofNat 8), [((Int.negSucc 0), false, 4)])), [54]),
  ((5, [some (.inr (.inr (.inl 0))), some (.inl ((Int.ofNat 0), (Int.ofNat 7))), some (.inl ((Int.negSucc 2147483647), (Int.ofNat 2147483647))), some (.inl ((Int.ofNat 0), (Int.ofNat 3))), some (.inl ((Int.ofNat 2), (Int.ofNat 2)))], [(696324, .inl ((Int.ofNat 7), (Int.ofNat 7))), (696326, .inl ((Int.ofNat 5), (Int.ofNat 5)))], 0, ((Int.ofNat 8), [((Int.negSucc 0), false, 4)])), [55]),
  ((5, [some (.inr (.inr (.inl 0))), some (.inl ((Int.ofNat 0), (Int.ofNat 7))), some (.inl ((Int.negSucc 2147483647), (Int.ofNat 2147483647))), some (.inl ((Int.ofNat 0), (Int.ofNat 3))), some (.inl ((Int.ofNat 2), (Int.ofNat 2)))], [(696324, .inl ((Int.ofNat 3), (Int.ofNat 6))), (696326, .inl ((Int.ofNat 5), (Int.ofNat 5)))], 0, ((Int.ofNat 8), [((Int.negSucc 0), false, 4)])), [56]),
  ((5, [some (.inr (.inr (.inl 0))), some (.inl ((Int.ofNat 0), (Int.ofNat 7))), some (.inl ((Int.negSucc 2147483647), (Int.ofNat 2147483647))), some (.inl ((Int.ofNat 0), (Int.ofNat 3))), some (.inl ((Int.ofNat 2), (Int.ofNat 2)))], [(696324, .inl ((Int.ofNat 7), (Int.ofNat 7))), (696326, .inl ((Int.ofNat 4), (Int.ofNat 4)))], 0, ((Int.ofNat 8), [((Int.negSucc 0), false, 4)])), [57]),
  ((5, [some (.inr (.inr (.inl 0))), some (.inl ((Int.ofNat 0), (Int.ofNat 7))), some (.inl ((Int.negSucc 2147483647), (Int.ofNat 2147483647))), some (.inl ((Int.ofNat 0), (Int.ofNat 3))), some (.inl ((Int.ofNat 2), (Int.ofNat 2)))], [(696324, .inl ((Int.ofNat 3), (Int.ofNat 6))), (696326, .inl ((Int.ofNat 4), (Int.ofNat 4)))], 0, ((Int.ofNat 8), [((Int.negSucc 0), false, 4)])), [58]),
  ((5, [some (.inr (.inr (.inl 0))), some (.inl ((Int.ofNat 0), (Int.ofNat 7))), some (.inl ((Int.negSucc 2147483647), (Int.ofNat 2147483647))), some (.inl ((Int.ofNat 0), (Int.ofNat 3))), some (.inl ((Int.ofNat 2), (Int.ofNat 2)))], [(696324, .inl ((Int.ofNat 7), (Int.ofNat 7))), (696326, .inl ((Int.ofNat 3), (Int.ofNat 3)))], 0, ((Int.ofNat 8), [((Int.negSucc 0), false, 4)])), [59]),
  ((5, [some (.inr (.inr (.inl 0))), some (.inl ((Int.ofNat 0), (Int.ofNat 7))), some (.inl ((Int.negSucc 2147483647), (Int.ofNat 2147483647))), some (.inl ((Int.ofNat 0), (Int.ofNat 3))), some (.inl ((Int.ofNat 2), (Int.ofNat 2)))], [(696324, .inl ((Int.ofNat 3), (Int.ofNat 6))), (696326, .inl ((Int.ofNat 3), (Int.ofNat 3)))], 0, ((Int.ofNat 8), [((Int.negSucc 0), false, 4)])), [60]),
  ((5, [some (.inr (.inr (.inl 0))), some (.inl ((Int.ofNat 0), (Int.ofNat 7))), some (.inl ((Int.negSucc 2147483647), (Int.ofNat 2147483647))), some (.inl ((Int.ofNat 0), (Int.ofNat 3))), some (.inl ((Int.ofNat 2), (Int.ofNat 2)))], [(696324, .inl ((Int.ofNat 7), (Int.ofNat 7))), (696326, .inl ((Int.ofNat 2), (Int.ofNat 2)))], 0, ((Int.ofNat 8), [((Int.negSucc 0), false, 4)])), [])]
def xnd_273_0_3 : List (xnd × List Nat) := [((5, [some (.inr (.inr (.inl 0))), some (.inl ((Int.ofNat 0), (Int.ofNat 7))), some (.inl ((Int.negSucc 2147483647), (Int.ofNat 2147483647))), some (.inl ((Int.ofNat 0), (Int.ofNat 3))), some (.inl ((Int.ofNat 2), (Int.ofNat 2)))], [(696324, .inl ((Int.ofNat 3), (Int.ofNat 6))), (696326, .inl ((Int.ofNat 2), (Int.ofNat 2)))], 0, ((Int.ofNat 8), [((Int.negSucc 0), false, 4)])), []),
  ((5, [some (.inr (.inr (.inl 0))), some (.inl ((Int.ofNat 0), (Int.ofNat 7))), some (.inl ((Int.negSucc 2147483647), (Int.ofNat 2147483647))), some (.inl ((Int.ofNat 0), (Int.ofNat 7))), some (.inl ((Int.ofNat 3), (Int.ofNat 3)))], [(696324, .inl ((Int.ofNat 7), (Int.ofNat 7))), (696326, .inl ((Int.ofNat 8), (Int.ofNat 8)))], 0, ((Int.ofNat 8), [((Int.negSucc 0), false, 4)])), [61]),
  ((5, [some (.inr (.inr (.inl 0))), some (.inl ((Int.ofNat 0), (Int.ofNat 7))), some (.inl ((Int.negSucc 2147483647), (Int.ofNat 2147483647))), some (.inl ((Int.ofNat 0), (Int.ofNat 7))), some (.inl ((Int.ofNat 3), (Int.ofNat 3)))], [(696324, .inl ((Int.ofNat 3), (Int.ofNat 6))), (696326, .inl ((Int.ofNat 8), (Int.ofNat 8)))], 0, ((Int.ofNat 8), [((Int.negSucc 0), false, 4)])), [62]),
  ((5, [some (.inr (.inr (.inl 0))), some (.inl ((Int.ofNat 0), (Int.ofNat 7))), some (.inl ((Int.negSucc 2147483647), (Int.ofNat 2147483647))), some (.inl ((Int.ofNat 0), (Int.ofNat 7))), some (.inl ((Int.ofNat 3), (Int.ofNat 3)))], [(696324, .inl ((Int.ofNat 7), (Int.ofNat 7))), (696326, .inl ((Int.ofNat 7), (Int.ofNat 7)))], 0, ((Int.ofNat 8), [((Int.negSucc 0), false, 4)])), [63]),
  ((5, [some (.inr (.inr (.inl 0))), some (.inl ((Int.ofNat 0), (Int.ofNat 7))), some (.inl ((Int.negSucc 2147483647), (Int.ofNat 2147483647))), some (.inl ((Int.ofNat 0), (Int.ofNat 7))), some (.inl ((Int.ofNat 3), (Int.ofNat 3)))], [(696324, .inl ((Int.ofNat 3), (Int.ofNat 6))), (696326, .inl ((Int.ofNat 7), (Int.ofNat 7)))], 0, ((Int.ofNat 8), [((Int.negSucc 0), false, 4)])), [64]),
  ((5, [some (.inr (.inr (.inl 0))), some (.inl ((Int.ofNat 0), (Int.ofNat 7))), some (.inl ((Int.negSucc 2147483647), (Int.ofNat 2147483647))), some (.inl ((Int.ofNat 0), (Int.ofNat 7))), some (.inl ((Int.ofNat 3), (Int.ofNat 3)))], [(696324, .inl ((Int.ofNat 7), (Int.ofNat 7))), (696326, .inl ((Int.ofNat 6), (Int.ofNat 6)))], 0, ((Int.ofNat 8), [((Int.negSucc 0), false, 4)])), [65]),
  ((5, [some (.inr (.inr (.inl 0))), some (.inl ((Int.ofNat 0), (Int.ofNat 7))), some (.inl ((Int.negSucc 2147483647), (Int.ofNat 2147483647))), some (.inl ((Int.ofNat 0), (Int.ofNat 7))), some (.inl ((Int.ofNat 3), (Int.ofNat 3)))], [(696324, .inl ((Int.ofNat 3), (Int.ofNat 6))), (696326, .inl ((Int.ofNat 6), (Int.ofNat 6)))], 0, ((Int.ofNat 8), [((Int.negSucc 0), false, 4)])), [66]),
  ((5, [some (.inr (.inr (.inl 0))), some (.inl ((Int.ofNat 0), (Int.ofNat 7))), some (.inl ((Int.negSucc 2147483647), (Int.ofNat 2147483647))), some (.inl ((Int.ofNat 0), (Int.ofNat 7))), some (.inl ((Int.ofNat 3), (Int.ofNat 3)))], [(696324, .inl ((Int.ofNat 7), (Int.ofNat 7))), (696326, .inl ((Int.ofNat 5), (Int.ofNat 5)))], 0, ((Int.ofNat 8), [((Int.negSucc 0), false, 4)])), [67]),
  ((5, [some (.inr (.inr (.inl 0))), some (.inl ((Int.ofNat 0), (Int.ofNat 7))), some (.inl ((Int.negSucc 2147483647), (Int.ofNat 2147483647))), some (.inl ((Int.ofNat 0), (Int.ofNat 7))), some (.inl ((Int.ofNat 3), (Int.ofNat 3)))], [(696324, .inl ((Int.ofNat 3), (Int.ofNat 6))), (696326, .inl ((Int.ofNat 5), (Int.ofNat 5)))], 0, ((Int.ofNat 8), [((Int.negSucc 0), false, 4)])), [68]),
  ((5, [some (.inr (.inr (.inl 0))), some (.inl ((Int.ofNat 0), (Int.ofNat 7))), some (.inl ((Int.negSucc 2147483647), (Int.ofNat 2147483647))), some (.inl ((Int.ofNat 0), (Int.ofNat 7))), some (.inl ((Int.ofNat 3), (Int.ofNat 3)))], [(696324, .inl ((Int.ofNat 7), (Int.ofNat 7))), (696326, .inl ((Int.ofNat 4), (Int.ofNat 4)))], 0, ((Int.ofNat 8), [((Int.negSucc 0), false, 4)])), [69]),
  ((5, [some (.inr (.inr (.inl 0))), some (.inl ((Int.ofNat 0), (Int.ofNat 7))), some (.inl ((Int.negSucc 2147483647), (Int.ofNat 2147483647))), some (.inl ((Int.ofNat 0), (Int.ofNat 7))), some (.inl ((Int.ofNat 3), (Int.ofNat 3)))], [(696324, .inl ((Int.ofNat 3), (Int.ofNat 6))), (696326, .inl ((Int.ofNat 4), (Int.ofNat 4)))], 0, ((Int.ofNat 8), [((Int.negSucc 0), false, 4)])), [70]),
  ((5, [some (.inr (.inr (.inl 0))), some (.inl ((Int.ofNat 0), (Int.ofNat 7))), some (.inl ((Int.negSucc 2147483647), (Int.ofNat 2147483647))), some (.inl ((Int.ofNat 0), (Int.ofNat 7))), some (.inl ((Int.ofNat 3), (Int.ofNat 3)))], [(696324, .inl ((Int.ofNat 7), (Int.ofNat 7))), (696326, .inl ((Int.ofNat 3), (Int.ofNat 3)))], 0, ((Int.ofNat 8), [((Int.negSucc 0), false, 4)])), []),
  ((5, [some (.inr (.inr (.inl 0))), some (.inl ((Int.ofNat 0), (Int.ofNat 7))), some (.inl ((Int.negSucc 2147483647), (Int.ofNat 2147483647))), some (.inl ((Int.ofNat 0), (Int.ofNat 7))), some (.inl ((Int.ofNat 3), (Int.ofNat 3)))], [(696324, .inl ((Int.ofNat 3), (Int.ofNat 6))), (696326, .inl ((Int.ofNat 3), (Int.ofNat 3)))], 0, ((Int.ofNat 8), [((Int.negSucc 0), false, 4)])), []),
  ((5, [some (.inr (.inr (.inl 0))), some (.inl ((Int.ofNat 0), (Int.ofNat 7))), some (.inl ((Int.negSucc 2147483647), (Int.ofNat 2147483647))), some (.inl ((Int.ofNat 0), (Int.ofNat 15))), some (.inl ((Int.ofNat 4), (Int.ofNat 4)))], [(696324, .inl ((Int.ofNat 7), (Int.ofNat 7))), (696326, .inl ((Int.ofNat 8), (Int.ofNat 8)))], 0, ((Int.ofNat 8), [((Int.negSucc 0), false, 4)])), [71]),
  ((5, [some (.inr (.inr (.inl 0))), some (.inl ((Int.ofNat 0), (Int.ofNat 7))), some (.inl ((Int.negSucc 2147483647), (Int.ofNat 2147483647))), some (.inl ((Int.ofNat 0), (Int.ofNat 15))), some (.inl ((Int.ofNat 4), (Int.ofNat 4)))], [(696324, .inl ((Int.ofNat 3), (Int.ofNat 6))), (696326, .inl ((Int.ofNat 8), (Int.ofNat 8)))], 0, ((Int.ofNat 8), [((Int.negSucc 0), false, 4)])), [72]),
  ((5, [some (.inr (.inr (.inl 0))), some (.inl ((Int.ofNat 0), (Int.ofNat 7))), some (.inl ((Int.negSucc 2147483647), (Int.ofNat 2147483647))), some (.inl ((Int.ofNat 0), (Int.ofNat 15))), some (.inl ((Int.ofNat 4), (Int.ofNat 4)))], [(696324, .inl ((Int.ofNat 7), (Int.ofNat 7))), (696326, .inl ((Int.ofNat 7), (Int.ofNat 7)))], 0, ((Int.ofNat 8), [((Int.negSucc 0), false, 4)])), [73])]
def xnd_273_0_4 : List (xnd × List Nat) := [((5, [some (.inr (.inr (.inl 0))), some (.inl ((Int.ofNat 0), (Int.ofNat 7))), some (.inl ((Int.negSucc 2147483647), (Int.ofNat 2147483647))), some (.inl ((Int.ofNat 0), (Int.ofNat 15))), some (.inl ((Int.ofNat 4), (Int.ofNat 4)))], [(696324, .inl ((Int.ofNat 3), (Int.ofNat 6))), (696326, .inl ((Int.ofNat 7), (Int.ofNat 7)))], 0, ((Int.ofNat 8), [((Int.negSucc 0), false, 4)])), [74]),
  ((5, [some (.inr (.inr (.inl 0))), some (.inl ((Int.ofNat 0), (Int.ofNat 7))), some (.inl ((Int.negSucc 2147483647), (Int.ofNat 2147483647))), some (.inl ((Int.ofNat 0), (Int.ofNat 15))), some (.inl ((Int.ofNat 4), (Int.ofNat 4)))], [(696324, .inl ((Int.ofNat 7), (Int.ofNat 7))), (696326, .inl ((Int.ofNat 6), (Int.ofNat 6)))], 0, ((Int.ofNat 8), [((Int.negSucc 0), false, 4)])), [75]),
  ((5, [some (.inr (.inr (.inl 0))), some (.inl ((Int.ofNat 0), (Int.ofNat 7))), some (.inl ((Int.negSucc 2147483647), (Int.ofNat 2147483647))), some (.inl ((Int.ofNat 0), (Int.ofNat 15))), some (.inl ((Int.ofNat 4), (Int.ofNat 4)))], [(696324, .inl ((Int.ofNat 3), (Int.ofNat 6))), (696326, .inl ((Int.ofNat 6), (Int.ofNat 6)))], 0, ((Int.ofNat 8), [((Int.negSucc 0), false, 4)])), [76]),
  ((5, [some (.inr (.inr (.inl 0))), some (.inl ((Int.ofNat 0), (Int.ofNat 7))), some (.inl ((Int.negSucc 2147483647), (Int.ofNat 2147483647))), some (.inl ((Int.ofNat 0), (Int.ofNat 15))), some (.inl ((Int.ofNat 4), (Int.ofNat 4)))], [(696324, .inl ((Int.ofNat 7), (Int.ofNat 7))), (696326, .inl ((Int.ofNat 5), (Int.ofNat 5)))], 0, ((Int.ofNat 8), [((Int.negSucc 0), false, 4)])), [77]),
  ((5, [some (.inr (.inr (.inl 0))), some (.inl ((Int.ofNat 0), (Int.ofNat 7))), some (.inl ((Int.negSucc 2147483647), (Int.ofNat 2147483647))), some (.inl ((Int.ofNat 0), (Int.ofNat 15))), some (.inl ((Int.ofNat 4), (Int.ofNat 4)))], [(696324, .inl ((Int.ofNat 3), (Int.ofNat 6))), (696326, .inl ((Int.ofNat 5), (Int.ofNat 5)))], 0, ((Int.ofNat 8), [((Int.negSucc 0), false, 4)])), [78]),
  ((5, [some (.inr (.inr (.inl 0))), some (.inl ((Int.ofNat 0), (Int.ofNat 7))), some (.inl ((Int.negSucc 2147483647), (Int.ofNat 2147483647))), some (.inl ((Int.ofNat 0), (Int.ofNat 15))), some (.inl ((Int.ofNat 4), (Int.ofNat 4)))], [(696324, .inl ((Int.ofNat 7), (Int.ofNat 7))), (696326, .inl ((Int.ofNat 4), (Int.ofNat 4)))], 0, ((Int.ofNat 8), [((Int.negSucc 0), false, 4)])), []),
  ((5, [some (.inr (.inr (.inl 0))), some (.inl ((Int.ofNat 0), (Int.ofNat 7))), some (.inl ((Int.negSucc 2147483647), (Int.ofNat 2147483647))), some (.inl ((Int.ofNat 0), (Int.ofNat 15))), some (.inl ((Int.ofNat 4), (Int.ofNat 4)))], [(696324, .inl ((Int.ofNat 3), (Int.ofNat 6))), (696326, .inl ((Int.ofNat 4), (Int.ofNat 4)))], 0, ((Int.ofNat 8), [((Int.negSucc 0), false, 4)])), []),
  ((5, [some (.inr (.inr (.inl 0))), some (.inl ((Int.ofNat 0), (Int.ofNat 7))), some (.inl ((Int.negSucc 2147483647), (Int.ofNat 2147483647))), some (.inl ((Int.ofNat 0), (Int.ofNat 31))), some (.inl ((Int.ofNat 5), (Int.ofNat 5)))], [(696324, .inl ((Int.ofNat 7), (Int.ofNat 7))), (696326, .inl ((Int.ofNat 8), (Int.ofNat 8)))], 0, ((Int.ofNat 8), [((Int.negSucc 0), false, 4)])), [79]),
  ((5, [some (.inr (.inr (.inl 0))), some (.inl ((Int.ofNat 0), (Int.ofNat 7))), some (.inl ((Int.negSucc 2147483647), (Int.ofNat 2147483647))), some (.inl ((Int.ofNat 0), (Int.ofNat 31))), some (.inl ((Int.ofNat 5), (Int.ofNat 5)))], [(696324, .inl ((Int.ofNat 3), (Int.ofNat 6))), (696326, .inl ((Int.ofNat 8), (Int.ofNat 8)))], 0, ((Int.ofNat 8), [((Int.negSucc 0), false, 4)])), [80]),
  ((5, [some (.inr (.inr (.inl 0))), some (.inl ((Int.ofNat 0), (Int.ofNat 7))), some (.inl ((Int.negSucc 2147483647), (Int.ofNat 2147483647))), some (.inl ((Int.ofNat 0), (Int.ofNat 31))), some (.inl ((Int.ofNat 5), (Int.ofNat 5)))], [(696324, .inl ((Int.ofNat 7), (Int.ofNat 7))), (696326, .inl ((Int.ofNat 7), (Int.ofNat 7)))], 0, ((Int.ofNat 8), [((Int.negSucc 0), false, 4)])), [81]),
  ((5, [some (.inr (.inr (.inl 0))), some (.inl ((Int.ofNat 0), (Int.ofNat 7))), some (.inl ((Int.negSucc 2147483647), (Int.ofNat 2147483647))), some (.inl ((Int.ofNat 0), (Int.ofNat 31))), some (.inl ((Int.ofNat 5), (Int.ofNat 5)))], [(696324, .inl ((Int.ofNat 3), (Int.ofNat 6))), (696326, .inl ((Int.ofNat 7), (Int.ofNat 7)))], 0, ((Int.ofNat 8), [((Int.negSucc 0), false, 4)])), [82]),
  ((5, [some (.inr (.inr (.inl 0))), some (.inl ((Int.ofNat 0), (Int.ofNat 7))), some (.inl ((Int.negSucc 2147483647), (Int.ofNat 2147483647))), some (.inl ((Int.ofNat 0), (Int.ofNat 31))), some (.inl ((Int.ofNat 5), (Int.ofNat 5)))], [(696324, .inl ((Int.ofNat 7), (Int.ofNat 7))), (696326, .inl ((Int.ofNat 6), (Int.ofNat 6)))], 0, ((Int.ofNat 8), [((Int.negSucc 0), false, 4)])), [83]),
  ((5, [some (.inr (.inr (.inl 0))), some (.inl ((Int.ofNat 0), (Int.ofNat 7))), some (.inl ((Int.negSucc 2147483647), (Int.ofNat 2147483647))), some (.inl ((Int.ofNat 0), (Int.ofNat 31))), some (.inl ((Int.ofNat 5), (Int.ofNat 5)))], [(696324, .inl ((Int.ofNat 3), (Int.ofNat 6))), (696326, .inl ((Int.ofNat 6), (Int.ofNat 6)))], 0, ((Int.ofNat 8), [((Int.negSucc 0), false, 4)])), [84]),
  ((5, [some (.inr (.inr (.inl 0))), some (.inl ((Int.ofNat 0), (Int.ofNat 7))), some (.inl ((Int.negSucc 2147483647), (Int.ofNat 2147483647))), some (.inl ((Int.ofNat 0), (Int.ofNat 31))), some (.inl ((Int.ofNat 5), (Int.ofNat 5)))], [(696324, .inl ((Int.ofNat 7), (Int.ofNat 7))), (696326, .inl ((Int.ofNat 5), (Int.ofNat 5)))], 0, ((Int.ofNat 8), [((Int.negSucc 0), false, 4)])), []),
  ((5, [some (.inr (.inr (.inl 0))), some (.inl ((Int.ofNat 0), (Int.ofNat 7))), some (.inl ((Int.negSucc 2147483647), (Int.ofNat 2147483647))), some (.inl ((Int.ofNat 0), (Int.ofNat 31))), some (.inl ((Int.ofNat 5), (Int.ofNat 5)))], [(696324, .inl ((Int.ofNat 3), (Int.ofNat 6))), (696326, .inl ((Int.ofNat 5), (Int.ofNat 5)))], 0, ((Int.ofNat 8), [((Int.negSucc 0), false, 4)])), []),
  ((5, [some (.inr (.inr (.inl 0))), some (.inl ((Int.ofNat 0), (Int.ofNat 7))), some (.inl ((Int.negSucc 2147483647), (Int.ofNat 2147483647))), some (.inl ((Int.ofNat 0), (Int.ofNat 63))), some (.inl ((Int.ofNat 6), (Int.ofNat 6)))], [(696324, .inl ((Int.ofNat 7), (Int.ofNat 7))), (696326, .inl ((Int.ofNat 8), (Int.ofNat 8)))], 0, ((Int.ofNat 8), [((Int.negSucc 0), false, 4)])), [85])]
def xnd_273_0_5 : List (xnd × List Nat) := [((5, [some (.inr (.inr (.inl 0))), some (.inl ((Int.ofNat 0), (Int.ofNat 7))), some (.inl ((Int.negSucc 2147483647), (Int.ofNat 2147483647))), some (.inl ((Int.ofNat 0), (Int.ofNat 63))), some (.inl ((Int.ofNat 6), (Int.ofNat 6)))], [(696324, .inl ((Int.ofNat 3), (Int.ofNat 6))), (696326, .inl ((Int.ofNat 8), (Int.ofNat 8)))], 0, ((Int.ofNat 8), [((Int.negSucc 0), false, 4)])), [86]),
  ((5, [some (.inr (.inr (.inl 0))), some (.inl ((Int.ofNat 0), (Int.ofNat 7))), some (.inl ((Int.negSucc 2147483647), (Int.ofNat 2147483647))), some (.inl ((Int.ofNat 0), (Int.ofNat 63))), some (.inl ((Int.ofNat 6), (Int.ofNat 6)))], [(696324, .inl ((Int.ofNat 7), (Int.ofNat 7))), (696326, .inl ((Int.ofNat 7), (Int.ofNat 7)))], 0, ((Int.ofNat 8), [((Int.negSucc 0), false, 4)])), [87]),
  ((5, [some (.inr (.inr (.inl 0))), some (.inl ((Int.ofNat 0), (Int.ofNat 7))), some (.inl ((Int.negSucc 2147483647), (Int.ofNat 2147483647))), some (.inl ((Int.ofNat 0), (Int.ofNat 63))), some (.inl ((Int.ofNat 6), (Int.ofNat 6)))], [(696324, .inl ((Int.ofNat 3), (Int.ofNat 6))), (696326, .inl ((Int.ofNat 7), (Int.ofNat 7)))], 0, ((Int.ofNat 8), [((Int.negSucc 0), false, 4)])), [88]),
  ((5, [some (.inr (.inr (.inl 0))), some (.inl ((Int.ofNat 0), (Int.ofNat 7))), some (.inl ((Int.negSucc 2147483647), (Int.ofNat 2147483647))), some (.inl ((Int.ofNat 0), (Int.ofNat 63))), some (.inl ((Int.ofNat 6), (Int.ofNat 6)))], [(696324, .inl ((Int.ofNat 7), (Int.ofNat 7))), (696326, .inl ((Int.ofNat 6), (Int.ofNat 6)))], 0, ((Int.ofNat 8), [((Int.negSucc 0), false, 4)])), []),
  ((5, [some (.inr (.inr (.inl 0))), some (.inl ((Int.ofNat 0), (Int.ofNat 7))), some (.inl ((Int.negSucc 2147483647), (Int.ofNat 2147483647))), some (.inl ((Int.ofNat 0), (Int.ofNat 63))), some (.inl ((Int.ofNat 6), (Int.ofNat 6)))], [(696324, .inl ((Int.ofNat 3), (Int.ofNat 6))), (696326, .inl ((Int.ofNat 6), (Int.ofNat 6)))], 0, ((Int.ofNat 8), [((Int.negSucc 0), false, 4)])), []),
  ((5, [some (.inr (.inr (.inl 0))), some (.inl ((Int.ofNat 0), (Int.ofNat 7))), some (.inl ((Int.negSucc 2147483647), (Int.ofNat 2147483647))), some (.inl ((Int.ofNat 0), (Int.ofNat 127))), some (.inl ((Int.ofNat 7), (Int.ofNat 7)))], [(696324, .inl ((Int.ofNat 7), (Int.ofNat 7))), (696326, .inl ((Int.ofNat 8), (Int.ofNat 8)))], 0, ((Int.ofNat 8), [((Int.negSucc 0), false, 4)])), [89]),
  ((5, [some (.inr (.inr (.inl 0))), some (.inl ((Int.ofNat 0), (Int.ofNat 7))), some (.inl ((Int.negSucc 2147483647), (Int.ofNat 2147483647))), some (.inl ((Int.ofNat 0), (Int.ofNat 127))), some (.inl ((Int.ofNat 7), (Int.ofNat 7)))], [(696324, .inl ((Int.ofNat 3), (Int.ofNat 6))), (696326, .inl ((Int.ofNat 8), (Int.ofNat 8)))], 0, ((Int.ofNat 8), [((Int.negSucc 0), false, 4)])), [90]),
  ((5, [some (.inr (.inr (.inl 0))), some (.inl ((Int.ofNat 0), (Int.ofNat 7))), some (.inl ((Int.negSucc 2147483647), (Int.ofNat 2147483647))), some (.inl ((Int.ofNat 0), (Int.ofNat 127))), some (.inl ((Int.ofNat 7), (Int.ofNat 7)))], [(696324, .inl ((Int.ofNat 7), (Int.ofNat 7))), (696326, .inl ((Int.ofNat 7), (Int.ofNat 7)))], 0, ((Int.ofNat 8), [((Int.negSucc 0), false, 4)])), []),
  ((5, [some (.inr (.inr (.inl 0))), some (.inl ((Int.ofNat 0), (Int.ofNat 7))), some (.inl ((Int.negSucc 2147483647), (Int.ofNat 2147483647))), some (.inl ((Int.ofNat 0), (Int.ofNat 127))), some (.inl ((Int.ofNat 7), (Int.ofNat 7)))], [(696324, .inl ((Int.ofNat 3), (Int.ofNat 6))), (696326, .inl ((Int.ofNat 7), (Int.ofNat 7)))], 0, ((Int.ofNat 8), [((Int.negSucc 0), false, 4)])), []),
  ((5, [some (.inr (.inr (.inl 0))), some (.inl ((Int.ofNat 0), (Int.ofNat 7))), some (.inl ((Int.negSucc 2147483647), (Int.ofNat 2147483647))), some (.inl ((Int.ofNat 0), (Int.ofNat 255))), some (.inl ((Int.ofNat 8), (Int.ofNat 8)))], [(696324, .inl ((Int.ofNat 7), (Int.ofNat 7))), (696326, .inl ((Int.ofNat 8), (Int.ofNat 8)))], 0, ((Int.ofNat 8), [((Int.negSucc 0), false, 4)])), []),
  ((5, [some (.inr (.inr (.inl 0))), some (.inl ((Int.ofNat 0), (Int.ofNat 7))), some (.inl ((Int.negSucc 2147483647), (Int.ofNat 2147483647))), some (.inl ((Int.ofNat 0), (Int.ofNat 255))), some (.inl ((Int.ofNat 8), (Int.ofNat 8)))], [(696324, .inl ((Int.ofNat 3), (Int.ofNat 6))), (696326, .inl ((Int.ofNat 8), (Int.ofNat 8)))], 0, ((Int.ofNat 8), [((Int.negSucc 0), false, 4)])), [])]
def xns_273_0 : xns := [xnd_273_0_0, xnd_273_0_1, xnd_273_0_2, xnd_273_0_3, xnd_273_0_4, xnd_273_0_5]
def xsp_273_0 : Nat → Option (Bool × Nat) := fun _ => none
theorem xck_273_0_0 : xnd_273_0_0.all (xnchk xX xsp_273_0 xt_273 [5] xns_273_0 (some (.inl ((Int.ofNat 0), (Int.ofNat 255)))) [] 600) = true := by decide +kernel
theorem xck_273_0_1 : xnd_273_0_1.all (xnchk xX xsp_273_0 xt_273 [5] xns_273_0 (some (.inl ((Int.ofNat 0), (Int.ofNat 255)))) [] 600) = true := by decide +kernel
theorem xck_273_0_2 : xnd_273_0_2.all (xnchk xX xsp_273_0 xt_273 [5] xns_273_0 (some (.inl ((Int.ofNat 0), (Int.ofNat 255)))) [] 600) = true := by decide +kernel
theorem xck_273_0_3 : xnd_273_0_3.all (xnchk xX xsp_273_0 xt_273 [5] xns_273_0 (some (.inl ((Int.ofNat 0), (Int.ofNat 255)))) [] 600) = true := by decide +kernel
theorem xck_273_0_4 : xnd_273_0_4.all (xnchk xX xsp_273_0 xt_273 [5] xns_273_0 (some (.inl ((Int.ofNat 0), (Int.ofNat 255)))) [] 600) = true := by decide +kernel
theorem xck_273_0_5 : xnd_273_0_5.all (xnchk xX xsp_273_0 xt_273 [5] xns_273_0 (some (.inl ((Int.ofNat 0), (Int.ofNat 255)))) [] 600) = true := by decide +kernel
theorem xn_273_0 {E : pm_H → Prop} (hE : xHE xX xgA_G8 xgF_G8 E) (hV : ∀ p, E p → xV p) (hN : ∀ p, E p → xPG p) : xcon xX kK E 13 273 [.inr (.inr (.inl 0)), .inl ((Int.ofNat 0), (Int.ofNat 7)), .inl ((Int.negSucc 2147483647), (Int.ofNat 2147483647))] [] 0 (some (.inl ((Int.ofNat 0), (Int.ofNat 255)))) [] := xnodes_ok (nl := 5) (f := 600) (sp := xsp_273_0) (T := xt_273) (cps := [5]) (ns := xns_273_0) rfl rfl (xq_273 hE hV hN) rfl (List.forall_mem_cons.mpr ⟨List.all_eq_true.mp xck_273_0_0, List.forall_mem_cons.mpr ⟨List.all_eq_true.mp xck_273_0_1, List.forall_mem_cons.mpr ⟨List.all_eq_true.mp xck_273_0_2, List.forall_mem_cons.mpr ⟨List.all_eq_true.mp xck_273_0_3, List.forall_mem_cons.mpr ⟨List.all_eq_true.mp xck_273_0_4, List.forall_mem_cons.mpr ⟨List.all_eq_true.mp xck_273_0_5, fun _ h => absurd h List.not_mem_nil⟩⟩⟩⟩⟩⟩)
def xnd_273_1_0 : List (xnd × List Nat) := [((0, [some (.inr (.inr (.inl 0))), some (.inl ((Int.ofNat 0), (Int.ofNat 7))), some (.inl ((Int.negSucc 2147483647), (Int.ofNat 2147483647))), none, none], [(696326, .inl ((Int.ofNat 0), (Int.ofNat 0)))], 0, ((Int.ofNat 8), [])), [1, 2]),
  ((5, [some (.inr (.inr (.inl 0))), some (.inl ((Int.ofNat 0), (Int.ofNat 7))), some (.inl ((Int.negSucc 2147483647), (Int.ofNat 2147483647))), some (.inl ((Int.ofNat 0), (Int.ofNat 0))), some (.inl ((Int.ofNat 0), (Int.ofNat 0)))], [(696324, .inl ((Int.ofNat 7), (Int.ofNat 7))), (696326, .inl ((Int.ofNat 0), (Int.ofNat 0)))], 0, ((Int.ofNat 7), [((Int.negSucc 0), false, 1)])), []),
  ((5, [some (.inr (.inr (.inl 0))), some (.inl ((Int.ofNat 0), (Int.ofNat 7))), some (.inl ((Int.negSucc 2147483647), (Int.ofNat 2147483647))), some (.inl ((Int.ofNat 0), (Int.ofNat 0))), some (.inl ((Int.ofNat 0), (Int.ofNat 0)))], [(696324, .inl ((Int.ofNat 3), (Int.ofNat 6))), (696326, .inl ((Int.ofNat 0), (Int.ofNat 0)))], 0, ((Int.ofNat 7), [((Int.negSucc 0), false, 1)])), [])]
def xns_273_1 : xns := [xnd_273_1_0]
def xsp_273_1 : Nat → Option (Bool × Nat) := fun _ => none
theorem xck_273_1_0 : xnd_273_1_0.all (xnchk xX xsp_273_1 xt_273 [5] xns_273_1 (some (.inl ((Int.ofNat 0), (Int.ofNat 0)))) [] 600) = true := by decide +kernel
theorem xn_273_1 {E : pm_H → Prop} (hE : xHE xX xgA_G8 xgF_G8 E) (hV : ∀ p, E p → xV p) (hN : ∀ p, E p → xPG p) : xcon xX kK E 13 273 [.inr (.inr (.inl 0)), .inl ((Int.ofNat 0), (Int.ofNat 7)), .inl ((Int.negSucc 2147483647), (Int.ofNat 2147483647))] [(696326, .inl ((Int.ofNat 0), (Int.ofNat 0)))] 0 (some (.inl ((Int.ofNat 0), (Int.ofNat 0)))) [] := xnodes_ok (nl := 5) (f := 600) (sp := xsp_273_1) (T := xt_273) (cps := [5]) (ns := xns_273_1) rfl rfl (xq_273 hE hV hN) rfl (List.forall_mem_cons.mpr ⟨List.all_eq_true.mp xck_273_1_0, fun _ h => absurd h List.not_mem_nil⟩)
def xnd_273_2_0 : List (xnd × List Nat) := [((0, [some (.inr (.inr (.inl 0))), some (.inl ((Int.ofNat 0), (Int.ofNat 7))), some (.inl ((Int.negSucc 2147483647), (Int.ofNat 2147483647))), none, none], [(696326, .inl ((Int.ofNat 1), (Int.ofNat 1)))], 0, ((Int.ofNat 2), [])), [1, 2]),
  ((5, [some (.inr (.inr (.inl 0))), some (.inl ((Int.ofNat 0), (Int.ofNat 7))), some (.inl ((Int.negSucc 2147483647), (Int.ofNat 2147483647))), some (.inl ((Int.ofNat 0), (Int.ofNat 0))), some (.inl ((Int.ofNat 0), (Int.ofNat 0)))], [(696324, .inl ((Int.ofNat 7), (Int.ofNat 7))), (696326, .inl ((Int.ofNat 1), (Int.ofNat 1)))], 0, ((Int.ofNat 1), [((Int.negSucc 0), false, 4)])), [3]),
  ((5, [some (.inr (.inr (.inl 0))), some (.inl ((Int.ofNat 0), (Int.ofNat 7))), some (.inl ((Int.negSucc 2147483647), (Int.ofNat 2147483647))), some (.inl ((Int.ofNat 0), (Int.ofNat 0))), some (.inl ((Int.ofNat 0), (Int.ofNat 0)))], [(696324, .inl ((Int.ofNat 3), (Int.ofNat 6))), (696326, .inl ((Int.ofNat 1), (Int.ofNat 1)))], 0, ((Int.ofNat 1), [((Int.negSucc 0), false, 4)])), [4]),
  ((5, [some (.inr (.inr (.inl 0))), some (.inl ((Int.ofNat 0), (Int.ofNat 7))), some (.inl ((Int.negSucc 2147483647), (Int.ofNat 2147483647))), some (.inl ((Int.ofNat 0), (Int.ofNat 1))), some (.inl ((Int.ofNat 1), (Int.ofNat 1)))], [(696324, .inl ((Int.ofNat 7), (Int.ofNat 7))), (696326, .inl ((Int.ofNat 1), (Int.ofNat 1)))], 0, ((Int.ofNat 1), [((Int.negSucc 0), false, 4)])), []),
  ((5, [some (.inr (.inr (.inl 0))), some (.inl ((Int.ofNat 0), (Int.ofNat 7))), some (.inl ((Int.negSucc 2147483647), (Int.ofNat 2147483647))), some (.inl ((Int.ofNat 0), (Int.ofNat 1))), some (.inl ((Int.ofNat 1), (Int.ofNat 1)))], [(696324, .inl ((Int.ofNat 3), (Int.ofNat 6))), (696326, .inl ((Int.ofNat 1), (Int.ofNat 1)))], 0, ((Int.ofNat 1), [((Int.negSucc 0), false, 4)])), [])]
def xns_273_2 : xns := [xnd_273_2_0]
def xsp_273_2 : Nat → Option (Bool × Nat) := fun _ => none
theorem xck_273_2_0 : xnd_273_2_0.all (xnchk xX xsp_273_2 xt_273 [5] xns_273_2 (some (.inl ((Int.ofNat 0), (Int.ofNat 1)))) [] 600) = true := by decide +kernel
theorem xn_273_2 {E : pm_H → Prop} (hE : xHE xX xgA_G8 xgF_G8 E) (hV : ∀ p, E p → xV p) (hN : ∀ p, E p → xPG p) : xcon xX kK E 13 273 [.inr (.inr (.inl 0)), .inl ((Int.ofNat 0), (Int.ofNat 7)), .inl ((Int.negSucc 2147483647), (Int.ofNat 2147483647))] [(696326, .inl ((Int.ofNat 1), (Int.ofNat 1)))] 0 (some (.inl ((Int.ofNat 0), (Int.ofNat 1)))) [] := xnodes_ok (nl := 5) (f := 600) (sp := xsp_273_2) (T := xt_273) (cps := [5]) (ns := xns_273_2) rfl rfl (xq_273 hE hV hN) rfl (List.forall_mem_cons.mpr ⟨List.all_eq_true.mp xck_273_2_0, fun _ h => absurd h List.not_mem_nil⟩)
def xnd_273_3_0 : List (xnd × List Nat) := [((0, [some (.inr (.inr (.inl 0))), some (.inl ((Int.ofNat 0), (Int.ofNat 7))), some (.inl ((Int.negSucc 2147483647), (Int.ofNat 2147483647))), none, none], [(696326, .inl ((Int.ofNat 2), (Int.ofNat 2)))], 0, ((Int.ofNat 3), [])), [1, 2]),
  ((5, [some (.inr (.inr (.inl 0))), some (.inl ((Int.ofNat 0), (Int.ofNat 7))), some (.inl ((Int.negSucc 2147483647), (Int.ofNat 2147483647))), some (.inl ((Int.ofNat 0), (Int.ofNat 0))), some (.inl ((Int.ofNat 0), (Int.ofNat 0)))], [(696324, .inl ((Int.ofNat 7), (Int.ofNat 7))), (696326, .inl ((Int.ofNat 2), (Int.ofNat 2)))], 0, ((Int.ofNat 2), [((Int.negSucc 0), false, 4)])), [3]),
  ((5, [some (.inr (.inr (.inl 0))), some (.inl ((Int.ofNat 0), (Int.ofNat 7))), some (.inl ((Int.negSucc 2147483647), (Int.ofNat 2147483647))), some (.inl ((Int.ofNat 0), (Int.ofNat 0))), some (.inl ((Int.ofNat 0), (Int.ofNat 0)))], [(696324, .inl ((Int.ofNat 3), (Int.ofNat 6))), (696326, .inl ((Int.ofNat 2), (Int.ofNat 2)))], 0, ((Int.ofNat 2), [((Int.negSucc 0), false, 4)])), [4]),
  ((5, [some (.inr (.inr (.inl 0))), some (.inl ((Int.ofNat 0), (Int.ofNat 7))), some (.inl ((Int.negSucc 2147483647), (Int.ofNat 2147483647))), some (.inl ((Int.ofNat 0), (Int.ofNat 1))), some (.inl ((Int.ofNat 1), (Int.ofNat 1)))], [(696324, .inl ((Int.ofNat 7), (Int.ofNat 7))), (696326, .inl ((Int.ofNat 2), (Int.ofNat 2)))], 0, ((Int.ofNat 2), [((Int.negSucc 0), false, 4)])), [5]),
  ((5, [some (.inr (.inr (.inl 0))), some (.inl ((Int.ofNat 0), (Int.ofNat 7))), some (.inl ((Int.negSucc 2147483647), (Int.ofNat 2147483647))), some (.inl ((Int.ofNat 0), (Int.ofNat 1))), some (.inl ((Int.ofNat 1), (Int.ofNat 1)))], [(696324, .inl ((Int.ofNat 3), (Int.ofNat 6))), (696326, .inl ((Int.ofNat 2), (Int.ofNat 2)))], 0, ((Int.ofNat 2), [((Int.negSucc 0), false, 4)])), [6]),
  ((5, [some (.inr (.inr (.inl 0))), some (.inl ((Int.ofNat 0), (Int.ofNat 7))), some (.inl ((Int.negSucc 2147483647), (Int.ofNat 2147483647))), some (.inl ((Int.ofNat 0), (Int.ofNat 3))), some (.inl ((Int.ofNat 2), (Int.ofNat 2)))], [(696324, .inl ((Int.ofNat 7), (Int.ofNat 7))), (696326, .inl ((Int.ofNat 2), (Int.ofNat 2)))], 0, ((Int.ofNat 2), [((Int.negSucc 0), false, 4)])), []),
  ((5, [some (.inr (.inr (.inl 0))), some (.inl ((Int.ofNat 0), (Int.ofNat 7))), some (.inl ((Int.negSucc 2147483647), (Int.ofNat 2147483647))), some (.inl ((Int.ofNat 0), (Int.ofNat 3))), some (.inl ((Int.ofNat 2), (Int.ofNat 2)))], [(696324, .inl ((Int.ofNat 3), (Int.ofNat 6))), (696326, .inl ((Int.ofNat 2), (Int.ofNat 2)))], 0, ((Int.ofNat 2), [((Int.negSucc 0), false, 4)])), [])]
def xns_273_3 : xns := [xnd_273_3_0]
def xsp_273_3 : Nat → Option (Bool × Nat) := fun _ => none
theorem xck_273_3_0 : xnd_273_3_0.all (xnchk xX xsp_273_3 xt_273 [5] xns_273_3 (some (.inl ((Int.ofNat 0), (Int.ofNat 3)))) [] 600) = true := by decide +kernel
theorem xn_273_3 {E : pm_H → Prop} (hE : xHE xX xgA_G8 xgF_G8 E) (hV : ∀ p, E p → xV p) (hN : ∀ p, E p → xPG p) : xcon xX kK E 13 273 [.inr (.inr (.inl 0)), .inl ((Int.ofNat 0), (Int.ofNat 7)), .inl ((Int.negSucc 2147483647), (Int.ofNat 2147483647))] [(696326, .inl ((Int.ofNat 2), (Int.ofNat 2)))] 0 (some (.inl ((Int.ofNat 0), (Int.ofNat 3)))) [] := xnodes_ok (nl := 5) (f := 600) (sp := xsp_273_3) (T := xt_273) (cps := [5]) (ns := xns_273_3) rfl rfl (xq_273 hE hV hN) rfl (List.forall_mem_cons.mpr ⟨List.all_eq_true.mp xck_273_3_0, fun _ h => absurd h List.not_mem_nil⟩)
def xnd_273_4_0 : List (xnd × List Nat) := [((0, [some (.inr (.inr (.inl 0))), some (.inl ((Int.ofNat 0), (Int.ofNat 7))), some (.inl ((Int.negSucc 2147483647), (Int.ofNat 2147483647))), none, none], [(696326, .inl ((Int.ofNat 3), (Int.ofNat 3)))], 0, ((Int.ofNat 4), [])), [1, 2]),
  ((5, [some (.inr (.inr (.inl 0))), some (.inl ((Int.ofNat 0), (Int.ofNat 7))), some (.inl ((Int.negSucc 2147483647), (Int.ofNat 2147483647))), some (.inl ((Int.ofNat 0), (Int.ofNat 0))), some (.inl ((Int.ofNat 0), (Int.ofNat 0)))], [(696324, .inl ((Int.ofNat 7), (Int.ofNat 7))), (696326, .inl ((Int.ofNat 3), (Int.ofNat 3)))], 0, ((Int.ofNat 3), [((Int.negSucc 0), false, 4)])), [3]),
  ((5, [some (.inr (.inr (.inl 0))), some (.inl ((Int.ofNat 0), (Int.ofNat 7))), some (.inl ((Int.negSucc 2147483647), (Int.ofNat 2147483647))), some (.inl ((Int.ofNat 0), (Int.ofNat 0))), some (.inl ((Int.ofNat 0), (Int.ofNat 0)))], [(696324, .inl ((Int.ofNat 3), (Int.ofNat 6))), (696326, .inl ((Int.ofNat 3), (Int.ofNat 3)))], 0, ((Int.ofNat 3), [((Int.negSucc 0), false, 4)])), [4]),
  ((5, [some (.inr (.inr (.inl 0))), some (.inl ((Int.ofNat 0), (Int.ofNat 7))), some (.inl ((Int.negSucc 2147483647), (Int.ofNat 2147483647))), some (.inl ((Int.ofNat 0), (Int.ofNat 1))), some (.inl ((Int.ofNat 1), (Int.ofNat 1)))], [(696324, .inl ((Int.ofNat 7), (Int.ofNat 7))), (696326, .inl ((Int.ofNat 3), (Int.ofNat 3)))], 0, ((Int.ofNat 3), [((Int.negSucc 0), false, 4)])), [5]),
  ((5, [some (.inr (.inr (.inl 0))), some (.inl ((Int.ofNat 0), (Int.ofNat 7))), some (.inl ((Int.negSucc 2147483647), (Int.ofNat 2147483647))), some (.inl ((Int.ofNat 0), (Int.ofNat 1))), some (.inl ((Int.ofNat 1), (Int.ofNat 1)))], [(696324, .inl ((Int.ofNat 3), (Int.ofNat 6))), (696326, .inl ((Int.ofNat 3), (Int.ofNat 3)))], 0, ((Int.ofNat 3), [((Int.negSucc 0), false, 4)])), [6]),
  ((5, [some (.inr (.inr (.inl 0))), some (.inl ((Int.ofNat 0), (Int.ofNat 7))), some (.inl ((Int.negSucc 2147483647), (Int.ofNat 2147483647))), some (.inl ((Int.ofNat 0), (Int.ofNat 3))), some (.inl ((Int.ofNat 2), (Int.ofNat 2)))], [(696324, .inl ((Int.ofNat 7), (Int.ofNat 7))), (696326, .inl ((Int.ofNat 3), (Int.ofNat 3)))], 0, ((Int.ofNat 3), [((Int.negSucc 0), false, 4)])), [7]),
  ((5, [some (.inr (.inr (.inl 0))), some (.inl ((Int.ofNat 0), (Int.ofNat 7))), some (.inl ((Int.negSucc 2147483647), (Int.ofNat 2147483647))), some (.inl ((Int.ofNat 0), (Int.ofNat 3))), some (.inl ((Int.ofNat 2), (Int.ofNat 2)))], [(696324, .inl ((Int.ofNat 3), (Int.ofNat 6))), (696326, .inl ((Int.ofNat 3), (Int.ofNat 3)))], 0, ((Int.ofNat 3), [((Int.negSucc 0), false, 4)])), [8]),
  ((5, [some (.inr (.inr (.inl 0))), some (.inl ((Int.ofNat 0), (Int.ofNat 7))), some (.inl ((Int.negSucc 2147483647), (Int.ofNat 2147483647))), some (.inl ((Int.ofNat 0), (Int.ofNat 7))), some (.inl ((Int.ofNat 3), (Int.ofNat 3)))], [(696324, .inl ((Int.ofNat 7), (Int.ofNat 7))), (696326, .inl ((Int.ofNat 3), (Int.ofNat 3)))], 0, ((Int.ofNat 3), [((Int.negSucc 0), false, 4)])), []),
  ((5, [some (.inr (.inr (.inl 0))), some (.inl ((Int.ofNat 0), (Int.ofNat 7))), some (.inl ((Int.negSucc 2147483647), (Int.ofNat 2147483647))), some (.inl ((Int.ofNat 0), (Int.ofNat 7))), some (.inl ((Int.ofNat 3), (Int.ofNat 3)))], [(696324, .inl ((Int.ofNat 3), (Int.ofNat 6))), (696326, .inl ((Int.ofNat 3), (Int.ofNat 3)))], 0, ((Int.ofNat 3), [((Int.negSucc 0), false, 4)])), [])]
def xns_273_4 : xns := [xnd_273_4_0]
def xsp_273_4 : Nat → Option (Bool × Nat) := fun _ => none
theorem xck_273_4_0 : xnd_273_4_0.all (xnchk xX xsp_273_4 xt_273 [5] xns_273_4 (some (.inl ((Int.ofNat 0), (Int.ofNat 7)))) [] 600) = true := by decide +kernel
theorem xn_273_4 {E : pm_H → Prop} (hE : xHE xX xgA_G8 xgF_G8 E) (hV : ∀ p, E p → xV p) (hN : ∀ p, E p → xPG p) : xcon xX kK E 13 273 [.inr (.inr (.inl 0)), .inl ((Int.ofNat 0), (Int.ofNat 7)), .inl ((Int.negSucc 2147483647), (Int.ofNat 2147483647))] [(696326, .inl ((Int.ofNat 3), (Int.ofNat 3)))] 0 (some (.inl ((Int.ofNat 0), (Int.ofNat 7)))) [] := xnodes_ok (nl := 5) (f := 600) (sp := xsp_273_4) (T := xt_273) (cps := [5]) (ns := xns_273_4) rfl rfl (xq_273 hE hV hN) rfl (List.forall_mem_cons.mpr ⟨List.all_eq_true.mp xck_273_4_0, fun _ h => absurd h List.not_mem_nil⟩)
def xnd_273_5_0 : List (xnd × List Nat) := [((0, [some (.inr (.inr (.inl 0))), some (.inl ((Int.ofNat 0), (Int.ofNat 7))), some (.inl ((Int.negSucc 2147483647), (Int.ofNat 2147483647))), none, none], [(696326, .inl ((Int.ofNat 4), (Int.ofNat 4)))], 0, ((Int.ofNat 5), [])), [1, 2]),
  ((5, [some (.inr (.inr (.inl 0))), some (.inl ((Int.ofNat 0), (Int.ofNat 7))), some (.inl ((Int.negSucc 2147483647), (Int.ofNat 2147483647))), some (.inl ((Int.ofNat 0), (Int.ofNat 0))), some (.inl ((Int.ofNat 0), (Int.ofNat 0)))], [(696324, .inl ((Int.ofNat 7), (Int.ofNat 7))), (696326, .inl ((Int.ofNat 4), (Int.ofNat 4)))], 0, ((Int.ofNat 4), [((Int.negSucc 0), false, 4)])), [3]),
  ((5, [some (.inr (.inr (.inl 0))), some (.inl ((Int.ofNat 0), (Int.ofNat 7))), some (.inl ((Int.negSucc 2147483647), (Int.ofNat 2147483647))), some (.inl ((Int.ofNat 0), (Int.ofNat 0))), some (.inl ((Int.ofNat 0), (Int.ofNat 0)))], [(696324, .inl ((Int.ofNat 3), (Int.ofNat 6))), (696326, .inl ((Int.ofNat 4), (Int.ofNat 4)))], 0, ((Int.ofNat 4), [((Int.negSucc 0), false, 4)])), [4]),
  ((5, [some (.inr (.inr (.inl 0))), some (.inl ((Int.ofNat 0), (Int.ofNat 7))), some (.inl ((Int.negSucc 2147483647), (Int.ofNat 2147483647))), some (.inl ((Int.ofNat 0), (Int.ofNat 1))), some (.inl ((Int.ofNat 1), (Int.ofNat 1)))], [(696324, .inl ((Int.ofNat 7), (Int.ofNat 7))), (696326, .inl ((Int.ofNat 4), (Int.ofNat 4)))], 0, ((Int.ofNat 4), [((Int.negSucc 0), false, 4)])), [5]),
  ((5, [some (.inr (.inr (.inl 0))), some (.inl ((Int.ofNat 0), (Int.ofNat 7))), some (.inl ((Int.negSucc 2147483647), (Int.ofNat 2147483647))), some (.inl ((Int.ofNat 0), (Int.ofNat 1))), some (.inl ((Int.ofNat 1), (Int.ofNat 1)))], [(696324, .inl ((Int.ofNat 3), (Int.ofNat 6))), (696326, .inl ((Int.ofNat 4), (Int.ofNat 4)))], 0, ((Int.ofNat 4), [((Int.negSucc 0), false, 4)])), [6]),
  ((5, [some (.inr (.inr (.inl 0))), some (.inl ((Int.ofNat 0), (Int.ofNat 7))), some (.inl ((Int.negSucc 2147483647), (Int.ofNat 2147483647))), some (.inl ((Int.ofNat 0), (Int.ofNat 3))), some (.inl ((Int.ofNat 2), (Int.ofNat 2)))], [(696324, .inl ((Int.ofNat 7), (Int.ofNat 7))), (696326, .inl ((Int.ofNat 4), (Int.ofNat 4)))], 0, ((Int.ofNat 4), [((Int.negSucc 0), false, 4)])), [7]),
  ((5, [some (.inr (.inr (.inl 0))), some (.inl ((Int.ofNat 0), (Int.ofNat 7))), some (.inl ((Int.negSucc 2147483647), (Int.ofNat 2147483647))), some (.inl ((Int.ofNat 0), (Int.ofNat 3))), some (.inl ((Int.ofNat 2), (Int.ofNat 2)))], [(696324, .inl ((Int.ofNat 3), (Int.ofNat 6))), (696326, .inl ((Int.ofNat 4), (Int.ofNat 4)))], 0, ((Int.ofNat 4), [((Int.negSucc 0), false, 4)])), [8]),
  ((5, [some (.inr (.inr (.inl 0))), some (.inl ((Int.ofNat 0), (Int.ofNat 7))), some (.inl ((Int.negSucc 2147483647), (Int.ofNat 2147483647))), some (.inl ((Int.ofNat 0), (Int.ofNat 7))), some (.inl ((Int.ofNat 3), (Int.ofNat 3)))], [(696324, .inl ((Int.ofNat 7), (Int.ofNat 7))), (696326, .inl ((Int.ofNat 4), (Int.ofNat 4)))], 0, ((Int.ofNat 4), [((Int.negSucc 0), false, 4)])), [9]),
  ((5, [some (.inr (.inr (.inl 0))), some (.inl ((Int.ofNat 0), (Int.ofNat 7))), some (.inl ((Int.negSucc 2147483647), (Int.ofNat 2147483647))), some (.inl ((Int.ofNat 0), (Int.ofNat 7))), some (.inl ((Int.ofNat 3), (Int.ofNat 3)))], [(696324, .inl ((Int.ofNat 3), (Int.ofNat 6))), (696326, .inl ((Int.ofNat 4), (Int.ofNat 4)))], 0, ((Int.ofNat 4), [((Int.negSucc 0), false, 4)])), [10]),
  ((5, [some (.inr (.inr (.inl 0))), some (.inl ((Int.ofNat 0), (Int.ofNat 7))), some (.inl ((Int.negSucc 2147483647), (Int.ofNat 2147483647))), some (.inl ((Int.ofNat 0), (Int.ofNat 15))), some (.inl ((Int.ofNat 4), (Int.ofNat 4)))], [(696324, .inl ((Int.ofNat 7), (Int.ofNat 7))), (696326, .inl ((Int.ofNat 4), (Int.ofNat 4)))], 0, ((Int.ofNat 4), [((Int.negSucc 0), false, 4)])), []),
  ((5, [some (.inr (.inr (.inl 0))), some (.inl ((Int.ofNat 0), (Int.ofNat 7))), some (.inl ((Int.negSucc 2147483647), (Int.ofNat 2147483647))), some (.inl ((Int.ofNat 0), (Int.ofNat 15))), some (.inl ((Int.ofNat 4), (Int.ofNat 4)))], [(696324, .inl ((Int.ofNat 3), (Int.ofNat 6))), (696326, .inl ((Int.ofNat 4), (Int.ofNat 4)))], 0, ((Int.ofNat 4), [((Int.negSucc 0), false, 4)])), [])]
def xns_273_5 : xns := [xnd_273_5_0]
def xsp_273_5 : Nat → Option (Bool × Nat) := fun _ => none
theorem xck_273_5_0 : xnd_273_5_0.all (xnchk xX xsp_273_5 xt_273 [5] xns_273_5 (some (.inl ((Int.ofNat 0), (Int.ofNat 15)))) [] 600) = true := by decide +kernel
theorem xn_273_5 {E : pm_H → Prop} (hE : xHE xX xgA_G8 xgF_G8 E) (hV : ∀ p, E p → xV p) (hN : ∀ p, E p → xPG p) : xcon xX kK E 13 273 [.inr (.inr (.inl 0)), .inl ((Int.ofNat 0), (Int.ofNat 7)), .inl ((Int.negSucc 2147483647), (Int.ofNat 2147483647))] [(696326, .inl ((Int.ofNat 4), (Int.ofNat 4)))] 0 (some (.inl ((Int.ofNat 0), (Int.ofNat 15)))) [] := xnodes_ok (nl := 5) (f := 600) (sp := xsp_273_5) (T := xt_273) (cps := [5]) (ns := xns_273_5) rfl rfl (xq_273 hE hV hN) rfl (List.forall_mem_cons.mpr ⟨List.all_eq_true.mp xck_273_5_0, fun _ h => absurd h List.not_mem_nil⟩)
def xnd_273_6_0 : List (xnd × List Nat) := [((0, [some (.inr (.inr (.inl 0))), some (.inl ((Int.ofNat 0), (Int.ofNat 7))), some (.inl ((Int.negSucc 2147483647), (Int.ofNat 2147483647))), none, none], [(696326, .inl ((Int.ofNat 5), (Int.ofNat 5)))], 0, ((Int.ofNat 6), [])), [1, 2]),
  ((5, [some (.inr (.inr (.inl 0))), some (.inl ((Int.ofNat 0), (Int.ofNat 7))), some (.inl ((Int.negSucc 2147483647), (Int.ofNat 2147483647))), some (.inl ((Int.ofNat 0), (Int.ofNat 0))), some (.inl ((Int.ofNat 0), (Int.ofNat 0)))], [(696324, .inl ((Int.ofNat 7), (Int.ofNat 7))), (696326, .inl ((Int.ofNat 5), (Int.ofNat 5)))], 0, ((Int.ofNat 5), [((Int.negSucc 0), false, 4)])), [3]),
  ((5, [some (.inr (.inr (.inl 0))), some (.inl ((Int.ofNat 0), (Int.ofNat 7))), some (.inl ((Int.negSucc 2147483647), (Int.ofNat 2147483647))), some (.inl ((Int.ofNat 0), (Int.ofNat 0))), some (.inl ((Int.ofNat 0), (Int.ofNat 0)))], [(696324, .inl ((Int.ofNat 3), (Int.ofNat 6))), (696326, .inl ((Int.ofNat 5), (Int.ofNat 5)))], 0, ((Int.ofNat 5), [((Int.negSucc 0), false, 4)])), [4]),
  ((5, [some (.inr (.inr (.inl 0))), some (.inl ((Int.ofNat 0), (Int.ofNat 7))), some (.inl ((Int.negSucc 2147483647), (Int.ofNat 2147483647))), some (.inl ((Int.ofNat 0), (Int.ofNat 1))), some (.inl ((Int.ofNat 1), (Int.ofNat 1)))], [(696324, .inl ((Int.ofNat 7), (Int.ofNat 7))), (696326, .inl ((Int.ofNat 5), (Int.ofNat 5)))], 0, ((Int.ofNat 5), [((Int.negSucc 0), false, 4)])), [5]),
  ((5, [some (.inr (.inr (.inl 0))), some (.inl ((Int.ofNat 0), (Int.ofNat 7))), some (.inl ((Int.negSucc 2147483647), (Int.ofNat 2147483647))), some (.inl ((Int.ofNat 0), (Int.ofNat 1))), some (.inl ((Int.ofNat 1), (Int.ofNat 1)))], [(696324, .inl ((Int.ofNat 3), (Int.ofNat 6))), (696326, .inl ((Int.ofNat 5), (Int.ofNat 5)))], 0, ((Int.ofNat 5), [((Int.negSucc 0), false, 4)])), [6]),
  ((5, [some (.inr (.inr (.inl 0))), some (.inl ((Int.ofNat 0), (Int.ofNat 7))), some (.inl ((Int.negSucc 2147483647), (Int.ofNat 2147483647))), some (.inl ((Int.ofNat 0), (Int.ofNat 3))), some (.inl ((Int.ofNat 2), (Int.ofNat 2)))], [(696324, .inl ((Int.ofNat 7), (Int.ofNat 7))), (696326, .inl ((Int.ofNat 5), (Int.ofNat 5)))], 0, ((Int.ofNat 5), [((Int.negSucc 0), false, 4)])), [7]),
  ((5, [some (.inr (.inr (.inl 0))), some (.inl ((Int.ofNat 0), (Int.ofNat 7))), some (.inl ((Int.negSucc 2147483647), (Int.ofNat 2147483647))), some (.inl ((Int.ofNat 0), (Int.ofNat 3))), some (.inl ((Int.ofNat 2), (Int.ofNat 2)))], [(696324, .inl ((Int.ofNat 3), (Int.ofNat 6))), (696326, .inl ((Int.ofNat 5), (Int.ofNat 5)))], 0, ((Int.ofNat 5), [((Int.negSucc 0), false, 4)])), [8]),
  ((5, [some (.inr (.inr (.inl 0))), some (.inl ((Int.ofNat 0), (Int.ofNat 7))), some (.inl ((Int.negSucc 2147483647), (Int.ofNat 2147483647))), some (.inl ((Int.ofNat 0), (Int.ofNat 7))), some (.inl ((Int.ofNat 3), (Int.ofNat 3)))], [(696324, .inl ((Int.ofNat 7), (Int.ofNat 7))), (696326, .inl ((Int.ofNat 5), (Int.ofNat 5)))], 0, ((Int.ofNat 5), [((Int.negSucc 0), false, 4)])), [9]),
  ((5, [some (.inr (.inr (.inl 0))), some (.inl ((Int.ofNat 0), (Int.ofNat 7))), some (.inl ((Int.negSucc 2147483647), (Int.ofNat 2147483647))), some (.inl ((Int.ofNat 0), (Int.ofNat 7))), some (.inl ((Int.ofNat 3), (Int.ofNat 3)))], [(696324, .inl ((Int.ofNat 3), (Int.ofNat 6))), (696326, .inl ((Int.ofNat 5), (Int.ofNat 5)))], 0, ((Int.ofNat 5), [((Int.negSucc 0), false, 4)])), [10]),
  ((5, [some (.inr (.inr (.inl 0))), some (.inl ((Int.ofNat 0), (Int.ofNat 7))), some (.inl ((Int.negSucc 2147483647), (Int.ofNat 2147483647))), some (.inl ((Int.ofNat 0), (Int.ofNat 15))), some (.inl ((Int.ofNat 4), (Int.ofNat 4)))], [(696324, .inl ((Int.ofNat 7), (Int.ofNat 7))), (696326, .inl ((Int.ofNat 5), (Int.ofNat 5)))], 0, ((Int.ofNat 5), [((Int.negSucc 0), false, 4)])), [11]),
  ((5, [some (.inr (.inr (.inl 0))), some (.inl ((Int.ofNat 0), (Int.ofNat 7))), some (.inl ((Int.negSucc 2147483647), (Int.ofNat 2147483647))), some (.inl ((Int.ofNat 0), (Int.ofNat 15))), some (.inl ((Int.ofNat 4), (Int.ofNat 4)))], [(696324, .inl ((Int.ofNat 3), (Int.ofNat 6))), (696326, .inl ((Int.ofNat 5), (Int.ofNat 5)))], 0, ((Int.ofNat 5), [((Int.negSucc 0), false, 4)])), [12]),
  ((5, [some (.inr (.inr (.inl 0))), some (.inl ((Int.ofNat 0), (Int.ofNat 7))), some (.inl ((Int.negSucc 2147483647), (Int.ofNat 2147483647))), some (.inl ((Int.ofNat 0), (Int.ofNat 31))), some (.inl ((Int.ofNat 5), (Int.ofNat 5)))], [(696324, .inl ((Int.ofNat 7), (Int.ofNat 7))), (696326, .inl ((Int.ofNat 5), (Int.ofNat 5)))], 0, ((Int.ofNat 5), [((Int.negSucc 0), false, 4)])), []),
  ((5, [some (.inr (.inr (.inl 0))), some (.inl ((Int.ofNat 0), (Int.ofNat 7))), some (.inl ((Int.negSucc 2147483647), (Int.ofNat 2147483647))), some (.inl ((Int.ofNat 0), (Int.ofNat 31))), some (.inl ((Int.ofNat 5), (Int.ofNat 5)))], [(696324, .inl ((Int.ofNat 3), (Int.ofNat 6))), (696326, .inl ((Int.ofNat 5), (Int.ofNat 5)))], 0, ((Int.ofNat 5), [((Int.negSucc 0), false, 4)])), [])]
def xns_273_6 : xns := [xnd_273_6_0]
def xsp_273_6 : Nat → Option (Bool × Nat) := fun _ => none
theorem xck_273_6_0 : xnd_273_6_0.all (xnchk xX xsp_273_6 xt_273 [5] xns_273_6 (some (.inl ((Int.ofNat 0), (Int.ofNat 31)))) [] 600) = true := by decide +kernel
theorem xn_273_6 {E : pm_H → Prop} (hE : xHE xX xgA_G8 xgF_G8 E) (hV : ∀ p, E p → xV p) (hN : ∀ p, E p → xPG p) : xcon xX kK E 13 273 [.inr (.inr (.inl 0)), .inl ((Int.ofNat 0), (Int.ofNat 7)), .inl ((Int.negSucc 2147483647), (Int.ofNat 2147483647))] [(696326, .inl ((Int.ofNat 5), (Int.ofNat 5)))] 0 (some (.inl ((Int.ofNat 0), (Int.ofNat 31)))) [] := xnodes_ok (nl := 5) (f := 600) (sp := xsp_273_6) (T := xt_273) (cps := [5]) (ns := xns_273_6) rfl rfl (xq_273 hE hV hN) rfl (List.forall_mem_cons.mpr ⟨List.all_eq_true.mp xck_273_6_0, fun _ h => absurd h List.not_mem_nil⟩)
def xnd_273_7_0 : List (xnd × List Nat) := [((0, [some (.inr (.inr (.inl 0))), some (.inl ((Int.ofNat 0), (Int.ofNat 7))), some (.inl ((Int.negSucc 2147483647), (Int.ofNat 2147483647))), none, none], [(696326, .inl ((Int.ofNat 6), (Int.ofNat 6)))], 0, ((Int.ofNat 7), [])), [1, 2]),
  ((5, [some (.inr (.inr (.inl 0))), some (.inl ((Int.ofNat 0), (Int.ofNat 7))), some (.inl ((Int.negSucc 2147483647), (Int.ofNat 2147483647))), some (.inl ((Int.ofNat 0), (Int.ofNat 0))), some (.inl ((Int.ofNat 0), (Int.ofNat 0)))], [(696324, .inl ((Int.ofNat 7), (Int.ofNat 7))), (696326, .inl ((Int.ofNat 6), (Int.ofNat 6)))], 0, ((Int.ofNat 6), [((Int.negSucc 0), false, 4)])), [3]),
  ((5, [some (.inr (.inr (.inl 0))), some (.inl ((Int.ofNat 0), (Int.ofNat 7))), some (.inl ((Int.negSucc 2147483647), (Int.ofNat 2147483647))), some (.inl ((Int.ofNat 0), (Int.ofNat 0))), some (.inl ((Int.ofNat 0), (Int.ofNat 0)))], [(696324, .inl ((Int.ofNat 3), (Int.ofNat 6))), (696326, .inl ((Int.ofNat 6), (Int.ofNat 6)))], 0, ((Int.ofNat 6), [((Int.negSucc 0), false, 4)])), [4]),
  ((5, [some (.inr (.inr (.inl 0))), some (.inl ((Int.ofNat 0), (Int.ofNat 7))), some (.inl ((Int.negSucc 2147483647), (Int.ofNat 2147483647))), some (.inl ((Int.ofNat 0), (Int.ofNat 1))), some (.inl ((Int.ofNat 1), (Int.ofNat 1)))], [(696324, .inl ((Int.ofNat 7), (Int.ofNat 7))), (696326, .inl ((Int.ofNat 6), (Int.ofNat 6)))], 0, ((Int.ofNat 6), [((Int.negSucc 0), false, 4)])), [5]),
  ((5, [some (.inr (.inr (.inl 0))), some (.inl ((Int.ofNat 0), (Int.ofNat 7))), some (.inl ((Int.negSucc 2147483647), (Int.ofNat 2147483647))), some (.inl ((Int.ofNat 0), (Int.ofNat 1))), some (.inl ((Int.ofNat 1), (Int.ofNat 1)))], [(696324, .inl ((Int.ofNat 3), (Int.ofNat 6))), (696326, .inl ((Int.ofNat 6), (Int.ofNat 6)))], 0, ((Int.ofNat 6), [((Int.negSucc 0), false, 4)])), [6]),
  ((5, [some (.inr (.inr (.inl 0))), some (.inl ((Int.ofNat 0), (Int.ofNat 7))), some (.inl ((Int.negSucc 2147483647), (Int.ofNat 2147483647))), some (.inl ((Int.ofNat 0), (Int.ofNat 3))), some (.inl ((Int.ofNat 2), (Int.ofNat 2)))], [(696324, .inl ((Int.ofNat 7), (Int.ofNat 7))), (696326, .inl ((Int.ofNat 6), (Int.ofNat 6)))], 0, ((Int.ofNat 6), [((Int.negSucc 0), false, 4)])), [7]),
  ((5, [some (.inr (.inr (.inl 0))), some (.inl ((Int.ofNat 0), (Int.ofNat 7))), some (.inl ((Int.negSucc 2147483647), (Int.ofNat 2147483647))), some (.inl ((Int.ofNat 0), (Int.ofNat 3))), some (.inl ((Int.ofNat 2), (Int.ofNat 2)))], [(696324, .inl ((Int.ofNat 3), (Int.ofNat 6))), (696326, .inl ((Int.ofNat 6), (Int.ofNat 6)))], 0, ((Int.ofNat 6), [((Int.negSucc 0), false, 4)])), [8]),
  ((5, [some (.inr (.inr (.inl 0))), some (.inl ((Int.ofNat 0), (Int.ofNat 7))), some (.inl ((Int.negSucc 2147483647), (Int.ofNat 2147483647))), some (.inl ((Int.ofNat 0), (Int.ofNat 7))), some (.inl ((Int.ofNat 3), (Int.ofNat 3)))], [(696324, .inl ((Int.ofNat 7), (Int.ofNat 7))), (696326, .inl ((Int.ofNat 6), (Int.ofNat 6)))], 0, ((Int.ofNat 6), [((Int.negSucc 0), false, 4)])), [9]),
  ((5, [some (.inr (.inr (.inl 0))), some (.inl ((Int.ofNat 0), (Int.ofNat 7))), some (.inl ((Int.negSucc 2147483647), (Int.ofNat 2147483647))), some (.inl ((Int.ofNat 0), (Int.ofNat 7))), some (.inl ((Int.ofNat 3), (Int.ofNat 3)))], [(696324, .inl ((Int.ofNat 3), (Int.ofNat 6))), (696326, .inl ((Int.ofNat 6), (Int.ofNat 6)))], 0, ((Int.ofNat 6), [((Int.negSucc 0), false, 4)])), [10]),
  ((5, [some (.inr (.inr (.inl 0))), some (.inl ((Int.ofNat 0), (Int.ofNat 7))), some (.inl ((Int.negSucc 2147483647), (Int.ofNat 2147483647))), some (.inl ((Int.ofNat 0), (Int.ofNat 15))), some (.inl ((Int.ofNat 4), (Int.ofNat 4)))], [(696324, .inl ((Int.ofNat 7), (Int.ofNat 7))), (696326, .inl ((Int.ofNat 6), (Int.ofNat 6)))], 0, ((Int.ofNat 6), [((Int.negSucc 0), false, 4)])), [11]),
  ((5, [some (.inr (.inr (.inl 0))), some (.inl ((Int.ofNat 0), (Int.ofNat 7))), some (.inl ((Int.negSucc 2147483647), (Int.ofNat 2147483647))), some (.inl ((Int.ofNat 0), (Int.ofNat 15))), some (.inl ((Int.ofNat 4), (Int.ofNat 4)))], [(696324, .inl ((Int.ofNat 3), (Int.ofNat 6))), (696326, .inl ((Int.ofNat 6), (Int.ofNat 6)))], 0, ((Int.ofNat 6), [((Int.negSucc 0), false, 4)])), [12]),
  ((5, [some (.inr (.inr (.inl 0))), some (.inl ((Int.ofNat 0), (Int.ofNat 7))), some (.inl ((Int.negSucc 2147483647), (Int.ofNat 2147483647))), some (.inl ((Int.ofNat 0), (Int.ofNat 31))), some (.inl ((Int.ofNat 5), (Int.ofNat 5)))], [(696324, .inl ((Int.ofNat 7), (Int.ofNat 7))), (696326, .inl ((Int.ofNat 6), (Int.ofNat 6)))], 0, ((Int.ofNat 6), [((Int.negSucc 0), false, 4)])), [13]),
  ((5, [some (.inr (.inr (.inl 0))), some (.inl ((Int.ofNat 0), (Int.ofNat 7))), some (.inl ((Int.negSucc 2147483647), (Int.ofNat 2147483647))), some (.inl ((Int.ofNat 0), (Int.ofNat 31))), some (.inl ((Int.ofNat 5), (Int.ofNat 5)))], [(696324, .inl ((Int.ofNat 3), (Int.ofNat 6))), (696326, .inl ((Int.ofNat 6), (Int.ofNat 6)))], 0, ((Int.ofNat 6), [((Int.negSucc 0), false, 4)])), [14]),
  ((5, [some (.inr (.inr (.inl 0))), some (.inl ((Int.ofNat 0), (Int.ofNat 7))), some (.inl ((Int.negSucc 2147483647), (Int.ofNat 2147483647))), some (.inl ((Int.ofNat 0), (Int.ofNat 63))), some (.inl ((Int.ofNat 6), (Int.ofNat 6)))], [(696324, .inl ((Int.ofNat 7), (Int.ofNat 7))), (696326, .inl ((Int.ofNat 6), (Int.ofNat 6)))], 0, ((Int.ofNat 6), [((Int.negSucc 0), false, 4)])), []),
  ((5, [some (.inr (.inr (.inl 0))), some (.inl ((Int.ofNat 0), (Int.ofNat 7))), some (.inl ((Int.negSucc 2147483647), (Int.ofNat 2147483647))), some (.inl ((Int.ofNat 0), (Int.ofNat 63))), some (.inl ((Int.ofNat 6), (Int.ofNat 6)))], [(696324, .inl ((Int.ofNat 3), (Int.ofNat 6))), (696326, .inl ((Int.ofNat 6), (Int.ofNat 6)))], 0, ((Int.ofNat 6), [((Int.negSucc 0), false, 4)])), [])]
def xns_273_7 : xns := [xnd_273_7_0]
def xsp_273_7 : Nat → Option (Bool × Nat) := fun _ => none
theorem xck_273_7_0 : xnd_273_7_0.all (xnchk xX xsp_273_7 xt_273 [5] xns_273_7 (some (.inl ((Int.ofNat 0), (Int.ofNat 63)))) [] 600) = true := by decide +kernel
theorem xn_273_7 {E : pm_H → Prop} (hE : xHE xX xgA_G8 xgF_G8 E) (hV : ∀ p, E p → xV p) (hN : ∀ p, E p → xPG p) : xcon xX kK E 13 273 [.inr (.inr (.inl 0)), .inl ((Int.ofNat 0), (Int.ofNat 7)), .inl ((Int.negSucc 2147483647), (Int.ofNat 2147483647))] [(696326, .inl ((Int.ofNat 6), (Int.ofNat 6)))] 0 (some (.inl ((Int.ofNat 0), (Int.ofNat 63)))) [] := xnodes_ok (nl := 5) (f := 600) (sp := xsp_273_7) (T := xt_273) (cps := [5]) (ns := xns_273_7) rfl rfl (xq_273 hE hV hN) rfl (List.forall_mem_cons.mpr ⟨List.all_eq_true.mp xck_273_7_0, fun _ h => absurd h List.not_mem_nil⟩)
def xnd_273_8_0 : List (xnd × List Nat) := [((0, [some (.inr (.inr (.inl 0))), some (.inl ((Int.ofNat 0), (Int.ofNat 7))), some (.inl ((Int.negSucc 2147483647), (Int.ofNat 2147483647))), none, none], [(696326, .inl ((Int.ofNat 7), (Int.ofNat 7)))], 0, ((Int.ofNat 8), [])), [1, 2]),
  ((5, [some (.inr (.inr (.inl 0))), some (.inl ((Int.ofNat 0), (Int.ofNat 7))), some (.inl ((Int.negSucc 2147483647), (Int.ofNat 2147483647))), some (.inl ((Int.ofNat 0), (Int.ofNat 0))), some (.inl ((Int.ofNat 0), (Int.ofNat 0)))], [(696324, .inl ((Int.ofNat 7), (Int.ofNat 7))), (696326, .inl ((Int.ofNat 7), (Int.ofNat 7)))], 0, ((Int.ofNat 7), [((Int.negSucc 0), false, 4)])), [3]),
  ((5, [some (.inr (.inr (.inl 0))), some (.inl ((Int.ofNat 0), (Int.ofNat 7))), some (.inl ((Int.negSucc 2147483647), (Int.ofNat 2147483647))), some (.inl ((Int.ofNat 0), (Int.ofNat 0))), some (.inl ((Int.ofNat 0), (Int.ofNat 0)))], [(696324, .inl ((Int.ofNat 3), (Int.ofNat 6))), (696326, .inl ((Int.ofNat 7), (Int.ofNat 7)))], 0, ((Int.ofNat 7), [((Int.negSucc 0), false, 4)])), [4]),
  ((5, [some (.inr (.inr (.inl 0))), some (.inl ((Int.ofNat 0), (Int.ofNat 7))), some (.inl ((Int.negSucc 2147483647), (Int.ofNat 2147483647))), some (.inl ((Int.ofNat 0), (Int.ofNat 1))), some (.inl ((Int.ofNat 1), (Int.ofNat 1)))], [(696324, .inl ((Int.ofNat 7), (Int.ofNat 7))), (696326, .inl ((Int.ofNat 7), (Int.ofNat 7)))], 0, ((Int.ofNat 7), [((Int.negSucc 0), false, 4)])), [5]),
  ((5, [some (.inr (.inr (.inl 0))), some (.inl ((Int.ofNat 0), (Int.ofNat 7))), some (.inl ((Int.negSucc 2147483647), (Int.ofNat 2147483647))), some (.inl ((Int.ofNat 0), (Int.ofNat 1))), some (.inl ((Int.ofNat 1), (Int.ofNat 1)))], [(696324, .inl ((Int.ofNat 3), (Int.ofNat 6))), (696326, .inl ((Int.ofNat 7), (Int.ofNat 7)))], 0, ((Int.ofNat 7), [((Int.negSucc 0), false, 4)])), [6]),
  ((5, [some (.inr (.inr (.inl 0))), some (.inl ((Int.ofNat 0), (Int.ofNat 7))), some (.inl ((Int.negSucc 2147483647), (Int.ofNat 2147483647))), some (.inl ((Int.ofNat 0), (Int.ofNat 3))), some (.inl ((Int.ofNat 2), (Int.ofNat 2)))], [(696324, .inl ((Int.ofNat 7), (Int.ofNat 7))), (696326, .inl ((Int.ofNat 7), (Int.ofNat 7)))], 0, ((Int.ofNat 7), [((Int.negSucc 0), false, 4)])), [7]),
  ((5, [some (.inr (.inr (.inl 0))), some (.inl ((Int.ofNat 0), (Int.ofNat 7))), some (.inl ((Int.negSucc 2147483647), (Int.ofNat 2147483647))), some (.inl ((Int.ofNat 0), (Int.ofNat 3))), some (.inl ((Int.ofNat 2), (Int.ofNat 2)))], [(696324, .inl ((Int.ofNat 3), (Int.ofNat 6))), (696326, .inl ((Int.ofNat 7), (Int.ofNat 7)))], 0, ((Int.ofNat 7), [((Int.negSucc 0), false, 4)])), [8]),
  ((5, [some (.inr (.inr (.inl 0))), some (.inl ((Int.ofNat 0), (Int.ofNat 7))), some (.inl ((Int.negSucc 2147483647), (Int.ofNat 2147483647))), some (.inl ((Int.ofNat 0), (Int.ofNat 7))), some (.inl ((Int.ofNat 3), (Int.ofNat 3)))], [(696324, .inl ((Int.ofNat 7), (Int.ofNat 7))), (696326, .inl ((Int.ofNat 7), (Int.ofNat 7)))], 0, ((Int.ofNat 7), [((Int.negSucc 0), false, 4)])), [9]),
  ((5, [some (.inr (.inr (.inl 0))), some (.inl ((Int.ofNat 0), (Int.ofNat 7))), some (.inl ((Int.negSucc 2147483647), (Int.ofNat 2147483647))), some (.inl ((Int.ofNat 0), (Int.ofNat 7))), some (.inl ((Int.ofNat 3), (Int.ofNat 3)))], [(696324, .inl ((Int.ofNat 3), (Int.ofNat 6))), (696326, .inl ((Int.ofNat 7), (Int.ofNat 7)))], 0, ((Int.ofNat 7), [((Int.negSucc 0), false, 4)])), [10]),
  ((5, [some (.inr (.inr (.inl 0))), some (.inl ((Int.ofNat 0), (Int.ofNat 7))), some (.inl ((Int.negSucc 2147483647), (Int.ofNat 2147483647))), some (.inl ((Int.ofNat 0), (Int.ofNat 15))), some (.inl ((Int.ofNat 4), (Int.ofNat 4)))], [(696324, .inl ((Int.ofNat 7), (Int.ofNat 7))), (696326, .inl ((Int.ofNat 7), (Int.ofNat 7)))], 0, ((Int.ofNat 7), [((Int.negSucc 0), false, 4)])), [11]),
  ((5, [some (.inr (.inr (.inl 0))), some (.inl ((Int.ofNat 0), (Int.ofNat 7))), some (.inl ((Int.negSucc 2147483647), (Int.ofNat 2147483647))), some (.inl ((Int.ofNat 0), (Int.ofNat 15))), some (.inl ((Int.ofNat 4), (Int.ofNat 4)))], [(696324, .inl ((Int.ofNat 3), (Int.ofNat 6))), (696326, .inl ((Int.ofNat 7), (Int.ofNat 7)))], 0, ((Int.ofNat 7), [((Int.negSucc 0), false, 4)])), [12]),
  ((5, [some (.inr (.inr (.inl 0))), some (.inl ((Int.ofNat 0), (Int.ofNat 7))), some (.inl ((Int.negSucc 2147483647), (Int.ofNat 2147483647))), some (.inl ((Int.ofNat 0), (Int.ofNat 31))), some (.inl ((Int.ofNat 5), (Int.ofNat 5)))], [(696324, .inl ((Int.ofNat 7), (Int.ofNat 7))), (696326, .inl ((Int.ofNat 7), (Int.ofNat 7)))], 0, ((Int.ofNat 7), [((Int.negSucc 0), false, 4)])), [13]),
  ((5, [some (.inr (.inr (.inl 0))), some (.inl ((Int.ofNat 0), (Int.ofNat 7))), some (.inl ((Int.negSucc 2147483647), (Int.ofNat 2147483647))), some (.inl ((Int.ofNat 0), (Int.ofNat 31))), some (.inl ((Int.ofNat 5), (Int.ofNat 5)))], [(696324, .inl ((Int.ofNat 3), (Int.ofNat 6))), (696326, .inl ((Int.ofNat 7), (Int.ofNat 7)))], 0, ((Int.ofNat 7), [((Int.negSucc 0), false, 4)])), [14]),
  ((5, [some (.inr (.inr (.inl 0))), some (.inl ((Int.ofNat 0), (Int.ofNat 7))), some (.inl ((Int.negSucc 2147483647), (Int.ofNat 2147483647))), some (.inl ((Int.ofNat 0), (Int.ofNat 63))), some (.inl ((Int.ofNat 6), (Int.ofNat 6)))], [(696324, .inl ((Int.ofNat 7), (Int.ofNat 7))), (696326, .inl ((Int.ofNat 7), (Int.ofNat 7)))], 0, ((Int.ofNat 7), [((Int.negSucc 0), false, 4)])), [15]),
  ((5, [some (.inr (.inr (.inl 0))), some (.inl ((Int.ofNat 0), (Int.ofNat 7))), some (.inl ((Int.negSucc 2147483647), (Int.ofNat 2147483647))), some (.inl ((Int.ofNat 0), (Int.ofNat 63))), some (.inl ((Int.ofNat 6), (Int.ofNat 6)))], [(696324, .inl ((Int.ofNat 3), (Int.ofNat 6))), (696326, .inl ((Int.ofNat 7), (Int.ofNat 7)))], 0, ((Int.ofNat 7), [((Int.negSucc 0), false, 4)])), [16]),
  ((5, [some (.inr (.inr (.inl 0))), some (.inl ((Int.ofNat 0), (Int.ofNat 7))), some (.inl ((Int.negSucc 2147483647), (Int.ofNat 2147483647))), some (.inl ((Int.ofNat 0), (Int.ofNat 127))), some (.inl ((Int.ofNat 7), (Int.ofNat 7)))], [(696324, .inl ((Int.ofNat 7), (Int.ofNat 7))), (696326, .inl ((Int.ofNat 7), (Int.ofNat 7)))], 0, ((Int.ofNat 7), [((Int.negSucc 0), false, 4)])), [])]
def xnd_273_8_1 : List (xnd × List Nat) := [((5, [some (.inr (.inr (.inl 0))), some (.inl ((Int.ofNat 0), (Int.ofNat 7))), some (.inl ((Int.negSucc 2147483647), (Int.ofNat 2147483647))), some (.inl ((Int.ofNat 0), (Int.ofNat 127))), some (.inl ((Int.ofNat 7), (Int.ofNat 7)))], [(696324, .inl ((Int.ofNat 3), (Int.ofNat 6))), (696326, .inl ((Int.ofNat 7), (Int.ofNat 7)))], 0, ((Int.ofNat 7), [((Int.negSucc 0), false, 4)])), [])]
def xns_273_8 : xns := [xnd_273_8_0, xnd_273_8_1]
def xsp_273_8 : Nat → Option (Bool × Nat) := fun _ => none
theorem xck_273_8_0 : xnd_273_8_0.all (xnchk xX xsp_273_8 xt_273 [5] xns_273_8 (some (.inl ((Int.ofNat 0), (Int.ofNat 127)))) [] 600) = true := by decide +kernel
theorem xck_273_8_1 : xnd_273_8_1.all (xnchk xX xsp_273_8 xt_273 [5] xns_273_8 (some (.inl ((Int.ofNat 0), (Int.ofNat 127)))) [] 600) = true := by decide +kernel
theorem xn_273_8 {E : pm_H → Prop} (hE : xHE xX xgA_G8 xgF_G8 E) (hV : ∀ p, E p → xV p) (hN : ∀ p, E p → xPG p) : xcon xX kK E 13 273 [.inr (.inr (.inl 0)), .inl ((Int.ofNat 0), (Int.ofNat 7)), .inl ((Int.negSucc 2147483647), (Int.ofNat 2147483647))] [(696326, .inl ((Int.ofNat 7), (Int.ofNat 7)))] 0 (some (.inl ((Int.ofNat 0), (Int.ofNat 127)))) [] := xnodes_ok (nl := 5) (f := 600) (sp := xsp_273_8) (T := xt_273) (cps := [5]) (ns := xns_273_8) rfl rfl (xq_273 hE hV hN) rfl (List.forall_mem_cons.mpr ⟨List.all_eq_true.mp xck_273_8_0, List.forall_mem_cons.mpr ⟨List.all_eq_true.mp xck_273_8_1, fun _ h => absurd h List.not_mem_nil⟩⟩)
def xnd_273_9_0 : List (xnd × List Nat) := [((0, [some (.inr (.inr (.inl 0))), some (.inl ((Int.ofNat 0), (Int.ofNat 7))), some (.inl ((Int.negSucc 2147483647), (Int.ofNat 2147483647))), none, none], [(696326, .inl ((Int.ofNat 8), (Int.ofNat 8)))], 0, ((Int.ofNat 9), [])), [1, 2]),
  ((5, [some (.inr (.inr (.inl 0))), some (.inl ((Int.ofNat 0), (Int.ofNat 7))), some (.inl ((Int.negSucc 2147483647), (Int.ofNat 2147483647))), some (.inl ((Int.ofNat 0), (Int.ofNat 0))), some (.inl ((Int.ofNat 0), (Int.ofNat 0)))], [(696324, .inl ((Int.ofNat 7), (Int.ofNat 7))), (696326, .inl ((Int.ofNat 8), (Int.ofNat 8)))], 0, ((Int.ofNat 8), [((Int.negSucc 0), false, 4)])), [3]),
  ((5, [some (.inr (.inr (.inl 0))), some (.inl ((Int.ofNat 0), (Int.ofNat 7))), some (.inl ((Int.negSucc 2147483647), (Int.ofNat 2147483647))), some (.inl ((Int.ofNat 0), (Int.ofNat 0))), some (.inl ((Int.ofNat 0), (Int.ofNat 0)))], [(696324, .inl ((Int.ofNat 3), (Int.ofNat 6))), (696326, .inl ((Int.ofNat 8), (Int.ofNat 8)))], 0, ((Int.ofNat 8), [((Int.negSucc 0), false, 4)])), [4]),
  ((5, [some (.inr (.inr (.inl 0))), some (.inl ((Int.ofNat 0), (Int.ofNat 7))), some (.inl ((Int.negSucc 2147483647), (Int.ofNat 2147483647))), some (.inl ((Int.ofNat 0), (Int.ofNat 1))), some (.inl ((Int.ofNat 1), (Int.ofNat 1)))], [(696324, .inl ((Int.ofNat 7), (Int.ofNat 7))), (696326, .inl ((Int.ofNat 8), (Int.ofNat 8)))], 0, ((Int.ofNat 8), [((Int.negSucc 0), false, 4)])), [5]),
  ((5, [some (.inr (.inr (.inl 0))), some (.inl ((Int.ofNat 0), (Int.ofNat 7))), some (.inl ((Int.negSucc 2147483647), (Int.ofNat 2147483647))), some (.inl ((Int.ofNat 0), (Int.ofNat 1))), some (.inl ((Int.ofNat 1), (Int.ofNat 1)))], [(696324, .inl ((Int.ofNat 3), (Int.ofNat 6))), (696326, .inl ((Int.ofNat 8), (Int.ofNat 8)))], 0, ((Int.ofNat 8), [((Int.negSucc 0), false, 4)])), [6]),
  ((5, [some (.inr (.inr (.inl 0))), some (.inl ((Int.ofNat 0), (Int.ofNat 7))), some (.inl ((Int.negSucc 2147483647), (Int.ofNat 2147483647))), some (.inl ((Int.ofNat 0), (Int.ofNat 3))), some (.inl ((Int.ofNat 2), (Int.ofNat 2)))], [(696324, .inl ((Int.ofNat 7), (Int.ofNat 7))), (696326, .inl ((Int.ofNat 8), (Int.ofNat 8)))], 0, ((Int.ofNat 8), [((Int.negSucc 0), false, 4)])), [7]),
  ((5, [some (.inr (.inr (.inl 0))), some (.inl ((Int.ofNat 0), (Int.ofNat 7))), some (.inl ((Int.negSucc 2147483647), (Int.ofNat 2147483647))), some (.inl ((Int.ofNat 0), (Int.ofNat 3))), some (.inl ((Int.ofNat 2), (Int.ofNat 2)))], [(696324, .inl ((Int.ofNat 3), (Int.ofNat 6))), (696326, .inl ((Int.ofNat 8), (Int.ofNat 8)))], 0, ((Int.ofNat 8), [((Int.negSucc 0), false, 4)])), [8]),
  ((5, [some (.inr (.inr (.inl 0))), some (.inl ((Int.ofNat 0), (Int.ofNat 7))), some (.inl ((Int.negSucc 2147483647), (Int.ofNat 2147483647))), some (.inl ((Int.ofNat 0), (Int.ofNat 7))), some (.inl ((Int.ofNat 3), (Int.ofNat 3)))], [(696324, .inl ((Int.ofNat 7), (Int.ofNat 7))), (696326, .inl ((Int.ofNat 8), (Int.ofNat 8)))], 0, ((Int.ofNat 8), [((Int.negSucc 0), false, 4)])), [9]),
  ((5, [some (.inr (.inr (.inl 0))), some (.inl ((Int.ofNat 0), (Int.ofNat 7))), some (.inl ((Int.negSucc 2147483647), (Int.ofNat 2147483647))), some (.inl ((Int.ofNat 0), (Int.ofNat 7))), some (.inl ((Int.ofNat 3), (Int.ofNat 3)))], [(696324, .inl ((Int.ofNat 3), (Int.ofNat 6))), (696326, .inl ((Int.ofNat 8), (Int.ofNat 8)))], 0, ((Int.ofNat 8), [((Int.negSucc 0), false, 4)])), [10]),
  ((5, [some (.inr (.inr (.inl 0))), some (.inl ((Int.ofNat 0), (Int.ofNat 7))), some (.inl ((Int.negSucc 2147483647), (Int.ofNat 2147483647))), some (.inl ((Int.ofNat 0), (Int.ofNat 15))), some (.inl ((Int.ofNat 4), (Int.ofNat 4)))], [(696324, .inl ((Int.ofNat 7), (Int.ofNat 7))), (696326, .inl ((Int.ofNat 8), (Int.ofNat 8)))], 0, ((Int.ofNat 8), [((Int.negSucc 0), false, 4)])), [11]),
  ((5, [some (.inr (.inr (.inl 0))), some (.inl ((Int.ofNat 0), (Int.ofNat 7))), some (.inl ((Int.negSucc 2147483647), (Int.ofNat 2147483647))), some (.inl ((Int.ofNat 0), (Int.ofNat 15))), some (.inl ((Int.ofNat 4), (Int.ofNat 4)))], [(696324, .inl ((Int.ofNat 3), (Int.ofNat 6))), (696326, .inl ((Int.ofNat 8), (Int.ofNat 8)))], 0, ((Int.ofNat 8), [((Int.negSucc 0), false, 4)])), [12]),
  ((5, [some (.inr (.inr (.inl 0))), some (.inl ((Int.ofNat 0), (Int.ofNat 7))), some (.inl ((Int.negSucc 2147483647), (Int.ofNat 2147483647))), some (.inl ((Int.ofNat 0), (Int.ofNat 31))), some (.inl ((Int.ofNat 5), (Int.ofNat 5)))], [(696324, .inl ((Int.ofNat 7), (Int.ofNat 7))), (696326, .inl ((Int.ofNat 8), (Int.ofNat 8)))], 0, ((Int.ofNat 8), [((Int.negSucc 0), false, 4)])), [13]),
  ((5, [some (.inr (.inr (.inl 0))), some (.inl ((Int.ofNat 0), (Int.ofNat 7))), some (.inl ((Int.negSucc 2147483647), (Int.ofNat 2147483647))), some (.inl ((Int.ofNat 0), (Int.ofNat 31))), some (.inl ((Int.ofNat 5), (Int.ofNat 5)))], [(696324, .inl ((Int.ofNat 3), (Int.ofNat 6))), (696326, .inl ((Int.ofNat 8), (Int.ofNat 8)))], 0, ((Int.ofNat 8), [((Int.negSucc 0), false, 4)])), [14]),
  ((5, [some (.inr (.inr (.inl 0))), some (.inl ((Int.ofNat 0), (Int.ofNat 7))), some (.inl ((Int.negSucc 2147483647), (Int.ofNat 2147483647))), some (.inl ((Int.ofNat 0), (Int.ofNat 63))), some (.inl ((Int.ofNat 6), (Int.ofNat 6)))], [(696324, .inl ((Int.ofNat 7), (Int.ofNat 7))), (696326, .inl ((Int.ofNat 8), (Int.ofNat 8)))], 0, ((Int.ofNat 8), [((Int.negSucc 0), false, 4)])), [15]),
  ((5, [some (.inr (.inr (.inl 0))), some (.inl ((Int.ofNat 0), (Int.ofNat 7))), some (.inl ((Int.negSucc 2147483647), (Int.ofNat 2147483647))), some (.inl ((Int.ofNat 0), (Int.ofNat 63))), some (.inl ((Int.ofNat 6), (Int.ofNat 6)))], [(696324, .inl ((Int.ofNat 3), (Int.ofNat 6))), (696326, .inl ((Int.ofNat 8), (Int.ofNat 8)))], 0, ((Int.ofNat 8), [((Int.negSucc 0), false, 4)])), [16]),
  ((5, [some (.inr (.inr (.inl 0))), some (.inl ((Int.ofNat 0), (Int.ofNat 7))), some (.inl ((Int.negSucc 2147483647), (Int.ofNat 2147483647))), some (.inl ((Int.ofNat 0), (Int.ofNat 127))), some (.inl ((Int.ofNat 7), (Int.ofNat 7)))], [(696324, .inl ((Int.ofNat 7), (Int.ofNat 7))), (696326, .inl ((Int.ofNat 8), (Int.ofNat 8)))], 0, ((Int.ofNat 8), [((Int.negSucc 0), false, 4)])), [17])]
def xnd_273_9_1 : List (xnd × List Nat) := [((5, [some (.inr (.inr (.inl 0))), some (.inl ((Int.ofNat 0), (Int.ofNat 7))), some (.inl ((Int.negSucc 2147483647), (Int.ofNat 2147483647))), some (.inl ((Int.ofNat 0), (Int.ofNat 127))), some (.inl ((Int.ofNat 7), (Int.ofNat 7)))], [(696324, .inl ((Int.ofNat 3), (Int.ofNat 6))), (696326, .inl ((Int.ofNat 8), (Int.ofNat 8)))], 0, ((Int.ofNat 8), [((Int.negSucc 0), false, 4)])), [18]),
  ((5, [some (.inr (.inr (.inl 0))), some (.inl ((Int.ofNat 0), (Int.ofNat 7))), some (.inl ((Int.negSucc 2147483647), (Int.ofNat 2147483647))), some (.inl ((Int.ofNat 0), (Int.ofNat 255))), some (.inl ((Int.ofNat 8), (Int.ofNat 8)))], [(696324, .inl ((Int.ofNat 7), (Int.ofNat 7))), (696326, .inl ((Int.ofNat 8), (Int.ofNat 8)))], 0, ((Int.ofNat 8), [((Int.negSucc 0), false, 4)])), []),
  ((5, [some (.inr (.inr (.inl 0))), some (.inl ((Int.ofNat 0), (Int.ofNat 7))), some (.inl ((Int.negSucc 2147483647), (Int.ofNat 2147483647))), some (.inl ((Int.ofNat 0), (Int.ofNat 255))), some (.inl ((Int.ofNat 8), (Int.ofNat 8)))], [(696324, .inl ((Int.ofNat 3), (Int.ofNat 6))), (696326, .inl ((Int.ofNat 8), (Int.ofNat 8)))], 0, ((Int.ofNat 8), [((Int.negSucc 0), false, 4)])), [])]
def xns_273_9 : xns := [xnd_273_9_0, xnd_273_9_1]
def xsp_273_9 : Nat → Option (Bool × Nat) := fun _ => none
theorem xck_273_9_0 : xnd_273_9_0.all (xnchk xX xsp_273_9 xt_273 [5] xns_273_9 (some (.inl ((Int.ofNat 0), (Int.ofNat 255)))) [] 600) = true := by decide +kernel
theorem xck_273_9_1 : xnd_273_9_1.all (xnchk xX xsp_273_9 xt_273 [5] xns_273_9 (some (.inl ((Int.ofNat 0), (Int.ofNat 255)))) [] 600) = true := by decide +kernel
theorem xn_273_9 {E : pm_H → Prop} (hE : xHE xX xgA_G8 xgF_G8 E) (hV : ∀ p, E p → xV p) (hN : ∀ p, E p → xPG p) : xcon xX kK E 13 273 [.inr (.inr (.inl 0)), .inl ((Int.ofNat 0), (Int.ofNat 7)), .inl ((Int.negSucc 2147483647), (Int.ofNat 2147483647))] [(696326, .inl ((Int.ofNat 8), (Int.ofNat 8)))] 0 (some (.inl ((Int.ofNat 0), (Int.ofNat 255)))) [] := xnodes_ok (nl := 5) (f := 600) (sp := xsp_273_9) (T := xt_273) (cps := [5]) (ns := xns_273_9) rfl rfl (xq_273 hE hV hN) rfl (List.forall_mem_cons.mpr ⟨List.all_eq_true.mp xck_273_9_0, List.forall_mem_cons.mpr ⟨List.all_eq_true.mp xck_273_9_1, fun _ h => absurd h List.not_mem_nil⟩⟩)
noncomputable def xs_273 : xc := xalt xX [.inr (.inr (.inl 0)), .inl ((Int.ofNat 0), (Int.ofNat 7)), .inl ((Int.negSucc 2147483647), (Int.ofNat 2147483647))] (xctrG xX xkF_G8 [.inr (.inr (.inl 0)), .inl ((Int.ofNat 0), (Int.ofNat 7)), .inl ((Int.negSucc 2147483647), (Int.ofNat 2147483647))] [] 0 (some (.inl ((Int.ofNat 0), (Int.ofNat 255)))) []) (xaltF xX [.inr (.inr (.inl 0)), .inl ((Int.ofNat 0), (Int.ofNat 7)), .inl ((Int.negSucc 2147483647), (Int.ofNat 2147483647))] [(696326, .inl ((Int.ofNat 0), (Int.ofNat 0)))] (xctrG xX xkF_G8 [.inr (.inr (.inl 0)), .inl ((Int.ofNat 0), (Int.ofNat 7)), .inl ((Int.negSucc 2147483647), (Int.ofNat 2147483647))] [(696326, .inl ((Int.ofNat 0), (Int.ofNat 0)))] 0 (some (.inl ((Int.ofNat 0), (Int.ofNat 0)))) []) (xaltF xX [.inr (.inr (.inl 0)), .inl ((Int.ofNat 0), (Int.ofNat 7)), .inl ((Int.negSucc 2147483647), (Int.ofNat 2147483647))] [(696326, .inl ((Int.ofNat 1), (Int.ofNat 1)))] (xctrG xX xkF_G8 [.inr (.inr (.inl 0)), .inl ((Int.ofNat 0), (Int.ofNat 7)), .inl ((Int.negSucc 2147483647), (Int.ofNat 2147483647))] [(696326, .inl ((Int.ofNat 1), (Int.ofNat 1)))] 0 (some (.inl ((Int.ofNat 0), (Int.ofNat 1)))) []) (xaltF xX [.inr (.inr (.inl 0)), .inl ((Int.ofNat 0), (Int.ofNat 7)), .inl ((Int.negSucc 2147483647), (Int.ofNat 2147483647))] [(696326, .inl ((Int.ofNat 2), (Int.ofNat 2)))] (xctrG xX xkF_G8 [.inr (.inr (.inl 0)), .inl ((Int.ofNat 0), (Int.ofNat 7)), .inl ((Int.negSucc 2147483647), (Int.ofNat 2147483647))] [(696326, .inl ((Int.ofNat 2), (Int.ofNat 2)))] 0 (some (.inl ((Int.ofNat 0), (Int.ofNat 3)))) []) (xaltF xX [.inr (.inr (.inl 0)), .inl ((Int.ofNat 0), (Int.ofNat 7)), .inl ((Int.negSucc 2147483647), (Int.ofNat 2147483647))] [(696326, .inl ((Int.ofNat 3), (Int.ofNat 3)))] (xctrG xX xkF_G8 [.inr (.inr (.inl 0)), .inl ((Int.ofNat 0), (Int.ofNat 7)), .inl ((Int.negSucc 2147483647), (Int.ofNat 2147483647))] [(696326, .inl ((Int.ofNat 3), (Int.ofNat 3)))] 0 (some (.inl ((Int.ofNat 0), (Int.ofNat 7)))) []) (xaltF xX [.inr (.inr (.inl 0)), .inl ((Int.ofNat 0), (Int.ofNat 7)), .inl ((Int.negSucc 2147483647), (Int.ofNat 2147483647))] [(696326, .inl ((Int.ofNat 4), (Int.ofNat 4)))] (xctrG xX xkF_G8 [.inr (.inr (.inl 0)), .inl ((Int.ofNat 0), (Int.ofNat 7)), .inl ((Int.negSucc 2147483647), (Int.ofNat 2147483647))] [(696326, .inl ((Int.ofNat 4), (Int.ofNat 4)))] 0 (some (.inl ((Int.ofNat 0), (Int.ofNat 15)))) []) (xaltF xX [.inr (.inr (.inl 0)), .inl ((Int.ofNat 0), (Int.ofNat 7)), .inl ((Int.negSucc 2147483647), (Int.ofNat 2147483647))] [(696326, .inl ((Int.ofNat 5), (Int.ofNat 5)))] (xctrG xX xkF_G8 [.inr (.inr (.inl 0)), .inl ((Int.ofNat 0), (Int.ofNat 7)), .inl ((Int.negSucc 2147483647), (Int.ofNat 2147483647))] [(696326, .inl ((Int.ofNat 5), (Int.ofNat 5)))] 0 (some (.inl ((Int.ofNat 0), (Int.ofNat 31)))) []) (xaltF xX [.inr (.inr (.inl 0)), .inl ((Int.ofNat 0), (Int.ofNat 7)), .inl ((Int.negSucc 2147483647), (Int.ofNat 2147483647))] [(696326, .inl ((Int.ofNat 6), (Int.ofNat 6)))] (xctrG xX xkF_G8 [.inr (.inr (.inl 0)), .inl ((Int.ofNat 0), (Int.ofNat 7)), .inl ((Int.negSucc 2147483647), (Int.ofNat 2147483647))] [(696326, .inl ((Int.ofNat 6), (Int.ofNat 6)))] 0 (some (.inl ((Int.ofNat 0), (Int.ofNat 63)))) []) (xaltF xX [.inr (.inr (.inl 0)), .inl ((Int.ofNat 0), (Int.ofNat 7)), .inl ((Int.negSucc 2147483647), (Int.ofNat 2147483647))] [(696326, .inl ((Int.ofNat 7), (Int.ofNat 7)))] (xctrG xX xkF_G8 [.inr (.inr (.inl 0)), .inl ((Int.ofNat 0), (Int.ofNat 7)), .inl ((Int.negSucc 2147483647), (Int.ofNat 2147483647))] [(696326, .inl ((Int.ofNat 7), (Int.ofNat 7)))] 0 (some (.inl ((Int.ofNat 0), (Int.ofNat 127)))) []) (xaltF xX [.inr (.inr (.inl 0)), .inl ((Int.ofNat 0), (Int.ofNat 7)), .inl ((Int.negSucc 2147483647), (Int.ofNat 2147483647))] [(696326, .inl ((Int.ofNat 8), (Int.ofNat 8)))] (xctrG xX xkF_G8 [.inr (.inr (.inl 0)), .inl ((Int.ofNat 0), (Int.ofNat 7)), .inl ((Int.negSucc 2147483647), (Int.ofNat 2147483647))] [(696326, .inl ((Int.ofNat 8), (Int.ofNat 8)))] 0 (some (.inl ((Int.ofNat 0), (Int.ofNat 255)))) []) (xnone))))))))))
theorem xso_273 {E : pm_H → Prop} (hE : xHE xX xgA_G8 xgF_G8 E) (hV : ∀ p, E p → xV p) (hN : ∀ p, E p → xPG p) : xcok xX kK E 13 273 xs_273 := xalt_ok (xctrG_ok rfl rfl rfl rfl (fun ph => xn_273_0 (E := fun p => E p ∧ xcells xX xkF_G8 ph p) (xHE_cells (kF := xkF_G8) (by decide +kernel) hE) (fun p h => hV p h.1) (fun p h => hN p h.1))) (xaltF_ok (xctrG_ok rfl rfl rfl rfl (fun ph => xn_273_1 (E := fun p => E p ∧ xcells xX xkF_G8 ph p) (xHE_cells (kF := xkF_G8) (by decide +kernel) hE) (fun p h => hV p h.1) (fun p h => hN p h.1))) (xaltF_ok (xctrG_ok rfl rfl rfl rfl (fun ph => xn_273_2 (E := fun p => E p ∧ xcells xX xkF_G8 ph p) (xHE_cells (kF := xkF_G8) (by decide +kernel) hE) (fun p h => hV p h.1) (fun p h => hN p h.1))) (xaltF_ok (xctrG_ok rfl rfl rfl rfl (fun ph => xn_273_3 (E := fun p => E p ∧ xcells xX xkF_G8 ph p) (xHE_cells (kF := xkF_G8) (by decide +kernel) hE) (fun p h => hV p h.1) (fun p h => hN p h.1))) (xaltF_ok (xctrG_ok rfl rfl rfl rfl (fun ph => xn_273_4 (E := fun p => E p ∧ xcells xX xkF_G8 ph p) (xHE_cells (kF := xkF_G8) (by decide +kernel) hE) (fun p h => hV p h.1) (fun p h => hN p h.1))) (xaltF_ok (xctrG_ok rfl rfl rfl rfl (fun ph => xn_273_5 (E := fun p => E p ∧ xcells xX xkF_G8 ph p) (xHE_cells (kF := xkF_G8) (by decide +kernel) hE) (fun p h => hV p h.1) (fun p h => hN p h.1))) (xaltF_ok (xctrG_ok rfl rfl rfl rfl (fun ph => xn_273_6 (E := fun p => E p ∧ xcells xX xkF_G8 ph p) (xHE_cells (kF := xkF_G8) (by decide +kernel) hE) (fun p h => hV p h.1) (fun p h => hN p h.1))) (xaltF_ok (xctrG_ok rfl rfl rfl rfl (fun ph => xn_273_7 (E := fun p => E p ∧ xcells xX xkF_G8 ph p) (xHE_cells (kF := xkF_G8) (by decide +kernel) hE) (fun p h => hV p h.1) (fun p h => hN p h.1))) (xaltF_ok (xctrG_ok rfl rfl rfl rfl (fun ph => xn_273_8 (E := fun p => E p ∧ xcells xX xkF_G8 ph p) (xHE_cells (kF := xkF_G8) (by decide +kernel) hE) (fun p h => hV p h.1) (fun p h => hN p h.1))) (xaltF_ok (xctrG_ok rfl rfl rfl rfl (fun ph => xn_273_9 (E := fun p => E p ∧ xcells xX xkF_G8 ph p) (xHE_cells (kF := xkF_G8) (by decide +kernel) hE) (fun p h => hV p h.1) (fun p h => hN p h.1))) (xnone_ok))))))))))


/-! place, fewWith, turned, by hand, printed by wip/x/h_turned.py -/
def xgi (ph : pm_H) (a i : Nat) : Int := match xget ph a i with
  | some (.int x) => x.toInt
  | _ => 0
set_option maxRecDepth 6000 in
theorem xsh255 {m : Int} {w k : Nat} {z : Int32} (h0 : 0 ≤ z.toInt) (h1 : z.toInt ≤ 255) : xeG m w z.toInt (xat [(1, some (Int.ofNat 0, Int.ofNat 255))] (k % 1)) := by
  rw [Nat.mod_one]
  exact ⟨h0, h1⟩
set_option maxRecDepth 6000 in
theorem xgi_of {ph : pm_H} {a i : Nat} {x : Int32} (h : xget ph a i = some (.int x)) : xgi ph a i = x.toInt := by unfold xgi; rw [h]
set_option maxRecDepth 6000 in
theorem xgi_eq {ph ph' : pm_H} {a i : Nat} (h : xget ph' a i = xget ph a i) : xgi ph' a i = xgi ph a i := by unfold xgi; rw [h]
set_option maxRecDepth 6000 in
theorem xplace_all : (List.range 9).all (fun p => (List.range 256).all (fun s => decide (((Int32.ofInt (p : Int) <<< ((Int8.ofInt 8).toInt32 &&& 31)) ||| Int32.ofInt (s : Int)).toInt = ((256 * p + s : Nat) : Int)))) = true := by decide +kernel
set_option maxRecDepth 6000 in
theorem xplace_i {p s : Int32} {pn sn : Nat} (hp : p.toInt = (pn : Int)) (hs : s.toInt = (sn : Int)) (h1 : pn < 9) (h2 : sn < 256) : ((p <<< ((Int8.ofInt 8).toInt32 &&& 31)) ||| s).toInt = ((256 * pn + sn : Nat) : Int) := by
  have h := of_decide_eq_true (List.all_eq_true.mp (List.all_eq_true.mp xplace_all pn (List.mem_range.mpr h1)) sn (List.mem_range.mpr h2))
  have e1 : Int32.ofInt (pn : Int) = p := by rw [← hp]; exact Int32.ofInt_toInt p
  have e2 : Int32.ofInt (sn : Int) = s := by rw [← hs]; exact Int32.ofInt_toInt s
  rw [e1, e2] at h
  exact h
set_option maxRecDepth 6000 in
theorem xshl9_all : (List.range 9).all (fun k => decide ((Int32.ofInt 1 <<< (Int32.ofInt (k : Int) &&& 31)).toInt = ((2 ^ k : Nat) : Int))) = true := by decide +kernel
set_option maxRecDepth 6000 in
theorem ti_shl9 {k : Int32} {kn : Nat} (hk : k.toInt = (kn : Int)) (h : kn < 9) : (Int32.ofInt 1 <<< (k &&& 31)).toInt = ((2 ^ kn : Nat) : Int) := by
  have h9 := of_decide_eq_true (List.all_eq_true.mp xshl9_all kn (List.mem_range.mpr h))
  have e2 : Int32.ofInt (kn : Int) = k := by rw [← hk]; exact Int32.ofInt_toInt k
  rw [e2] at h9
  exact h9
set_option maxRecDepth 6000 in
theorem xpow9 {t : Nat} (h : t ≤ 8) : 1 ≤ 2 ^ t ∧ 2 ^ t ≤ 256 := ⟨Nat.two_pow_pos t, (Nat.pow_le_pow_right (by decide) h : 2 ^ t ≤ 2 ^ 8)⟩
set_option maxRecDepth 6000 in
theorem xor_ones {a b t : Nat} (ha : a ≤ 2 ^ t - 1) (hb : b ≤ 2 ^ t - 1) : a ||| b ≤ 2 ^ t - 1 := by
  have := Nat.two_pow_pos t
  have h := Nat.or_lt_two_pow (x := a) (y := b) (n := t) (by omega) (by omega)
  omega

set_option maxRecDepth 6000 in
theorem xplace {D pn sn : Nat} {p s : Int32} {ph : pm_H} (hp : p.toInt = (pn : Int)) (hs : s.toInt = (sn : Int)) (h1 : pn < 9) (h2 : sn < 256) : ∃ v ph', pm_Rd kK false (D + 1) 274 [.int p, .int s] ph (v, ph', 0, 0) ∧ (∃ z : Int32, v = some (.int z) ∧ ph' = ph ∧ z.toInt = ((256 * pn + sn : Nat) : Int)) := by
  refine xRd_mk (nl := 2) rfl rfl ?_
  show xGT kK D 274 _ (0, [some (.int p), some (.int s)], [], ph, 0, 0)
  refine gt_load (v := .int p) (n := 1) (ykc_274 (e := (2, .iload_n kF0, 0)) rfl) rfl rfl ?_
  refine gt_push (v := .int ((Int8.ofInt 8).toInt32)) (n := 2) (ykc_274 (e := (1, .bipush 8, 0)) rfl) rfl rfl ?_
  refine gt_alu (st' := [.int (p <<< (((Int8.ofInt 8).toInt32) &&& 31))]) (ykc_274 (e := (0, .ishl, 0)) rfl) rfl rfl ?_
  refine gt_load (v := .int s) (n := 1) (ykc_274 (e := (2, .iload_n kF1, 0)) rfl) rfl rfl ?_
  obtain ⟨z, e_z, h_z⟩ : ∃ zq : Int32, (p <<< (((Int8.ofInt 8).toInt32) &&& 31)) ||| s = zq ∧ zq.toInt = ((256 * pn + sn : Nat) : Int) := ⟨_, rfl, xplace_i hp hs h1 h2⟩
  refine gt_alu (st' := [.int z]) (ykc_274 (e := (0, .ior, 0)) rfl) (by rw [← e_z]; exact rfl) rfl ?_
  refine gt_ret (ykc_274 (e := (7, .ireturn, 0)) rfl) rfl ?_
  exact ⟨z, rfl, rfl, h_z⟩

/-- how few more if one is turned to v -/
def xFW (ph : pm_H) (p s v : Nat) : Int := xgi ph 191 (256 * (p + 1) + (s ||| (xgi ph 190 (8 * p + v)).toNat)) + (if (v : Int) = xgi ph 174 (8 + p) then 0 else 1)
set_option maxRecDepth 6000 in
theorem xfewWith {m : Int} {w D pn sn vn A : Nat} {p s v : Int32} {ph : pm_H} (hP : xH xX kK m w ph) (hp : p.toInt = (pn : Int)) (hs : s.toInt = (sn : Int)) (hvn : v.toInt = (vn : Int)) (h1 : pn < 8) (h2 : sn ≤ A) (h3 : vn < 8) (hA : A ≤ 255) (hsx : sn ||| (xgi ph 190 (8 * pn + vn)).toNat ≤ A) (hfb : 0 ≤ xgi ph 191 (256 * (pn + 1) + (sn ||| (xgi ph 190 (8 * pn + vn)).toNat)) ∧ xgi ph 191 (256 * (pn + 1) + (sn ||| (xgi ph 190 (8 * pn + vn)).toNat)) ≤ 1000000) : ∃ r ph', pm_Rd kK false (D + 1 + 1) 275 [.ref 170, .int p, .int s, .int v] ph (r, ph', 0, 0) ∧ (∃ z : Int32, r = some (.int z) ∧ ph' = ph ∧ z.toInt = xFW ph pn sn vn) := by
  obtain ⟨lS, hS, -⟩ := xA_at (A := 190) hP rfl rfl
  obtain ⟨lF, hF, -⟩ := xA_at (A := 191) hP rfl rfl
  obtain ⟨lN, hN, -⟩ := xA_at (A := 174) hP rfl rfl
  have hAS : ∃ l, pm_at ph 190 = some (.inl (0, .inl l)) := ⟨lS, hS⟩
  have hAF : ∃ l, pm_at ph 191 = some (.inl (0, .inl l)) := ⟨lF, hF⟩
  have hAN : ∃ l, pm_at ph 174 = some (.inl (0, .inl l)) := ⟨lN, hN⟩
  obtain ⟨x, hx, bx⟩ := xA_el (A := 190) (k := 8 * pn + vn) hP rfl rfl (by omega)
  have bx0 : 0 ≤ x.toInt := by
    have e1 : (8 * pn + vn) % 1 = 0 := Nat.mod_one _
    rw [e1] at bx
    exact bx.1
  obtain ⟨xn, hxn⟩ : ∃ n : Nat, x.toInt = (n : Int) := ⟨x.toInt.toNat, by omega⟩
  have ex : (xgi ph 190 (8 * pn + vn)).toNat = xn := by rw [xgi_of hx]; omega
  rw [ex] at hsx hfb
  obtain ⟨y, hy, -⟩ := xA_el (A := 191) (k := 256 * (pn + 1) + (sn ||| xn)) hP rfl rfl (by omega)
  rw [xgi_of hy] at hfb
  obtain ⟨f, hf, -⟩ := xA_el (A := 174) (k := 8 + pn) hP rfl rfl (by omega)
  have hFW : xFW ph pn sn vn = y.toInt + (if (vn : Int) = f.toInt then 0 else 1) := by
    unfold xFW
    rw [ex, xgi_of hy, xgi_of hf]
  refine xRd_mk (nl := 4) rfl rfl ?_
  show xGT kK (D + 1) 275 _ (0, [some (.ref 170), some (.int p), some (.int s), some (.int v)], [], ph, 0, 0)
  refine gt_load (v := .ref 170) (n := 1) (ykc_275 (e := (2, .aload_n kF0, 0)) rfl) rfl rfl ?_
  refine gt_gfr (A := 191) (ykc_275 (e := (5, .getfield 92, 0)) rfl) rfl hP rfl rfl rfl ?_
  refine gt_load (v := .int p) (n := 1) (ykc_275 (e := (2, .iload_n kF1, 0)) rfl) rfl rfl ?_
  refine gt_alu (st' := [.int (Int32.ofInt 1), .int p, .ref 191]) (ykc_275 (e := (0, .iconst 1, 0)) rfl) rfl rfl ?_
  obtain ⟨p1, e_p1, h_p1⟩ : ∃ zq : Int32, p + (Int32.ofInt 1) = zq ∧ zq.toInt = ((pn + 1 : Nat) : Int) := ⟨_, rfl, by rw [ti_add (by rw [xi1]; omega) (by rw [xi1]; omega), xi1, hp]; omega⟩
  refine gt_alu (st' := [.int p1, .ref 191]) (ykc_275 (e := (0, .iadd, 0)) rfl) (by rw [← e_p1]; exact rfl) rfl ?_
  refine gt_load (v := .int s) (n := 1) (ykc_275 (e := (2, .iload_n kF2, 0)) rfl) rfl rfl ?_
  refine gt_load (v := .ref 170) (n := 1) (ykc_275 (e := (2, .aload_n kF0, 0)) rfl) rfl rfl ?_
  refine gt_gfr (A := 190) (ykc_275 (e := (5, .getfield 89, 0)) rfl) rfl hP rfl rfl rfl ?_
  refine gt_push (v := .int ((Int8.ofInt 8).toInt32)) (n := 2) (ykc_275 (e := (1, .bipush 8, 0)) rfl) rfl rfl ?_
  refine gt_load (v := .int p) (n := 1) (ykc_275 (e := (2, .iload_n kF1, 0)) rfl) rfl rfl ?_
  obtain ⟨m8, e_m8, h_m8⟩ : ∃ zq : Int32, ((Int8.ofInt 8).toInt32) * p = zq ∧ zq.toInt = 8 * p.toInt := ⟨_, rfl, by rw [ti_mul (by rw [xc8]; omega) (by rw [xc8]; omega), xc8]⟩
  refine gt_alu (st' := [.int m8, .ref 190, .int s, .int p1, .ref 191]) (ykc_275 (e := (0, .imul, 0)) rfl) (by rw [← e_m8]; exact rfl) rfl ?_
  refine gt_load (v := .int v) (n := 1) (ykc_275 (e := (2, .iload_n kF3, 0)) rfl) rfl rfl ?_
  obtain ⟨ix, e_ix, h_ix⟩ : ∃ zq : Int32, m8 + v = zq ∧ zq.toInt = ((8 * pn + vn : Nat) : Int) := ⟨_, rfl, by rw [ti_add (by rw [h_m8]; omega) (by rw [h_m8]; omega), h_m8]; omega⟩
  refine gt_alu (st' := [.int ix, .ref 190, .int s, .int p1, .ref 191]) (ykc_275 (e := (0, .iadd, 0)) rfl) (by rw [← e_ix]; exact rfl) rfl ?_
  refine gt_ialk (y := x) (ykc_275 (e := (5, .iaload, 0)) rfl) hx hAS (by omega) rfl ?_
  obtain ⟨sx, e_sx, h_sx⟩ : ∃ zq : Int32, s ||| x = zq ∧ zq.toInt = ((sn ||| xn : Nat) : Int) := ⟨_, rfl, ti_or hs hxn⟩
  refine gt_alu (st' := [.int sx, .int p1, .ref 191]) (ykc_275 (e := (0, .ior, 0)) rfl) (by rw [← e_sx]; exact rfl) rfl ?_
  refine gt_cs (n := 2) (as := [.int p1, .int sx]) (r := [.ref 191]) (ykc_275 (e := (6, .invokestatic 437, 0)) rfl) rfl rfl rfl rfl (xplace (D := D) h_p1 h_sx (by omega) (by omega)) rfl (fun vv ph1 hv => ?_)
  obtain ⟨pl, e9, e8, pl_s⟩ := hv; subst e9; have e7 := e8.symm; subst e7
  change xGT kK (D + 1) 275 _ (23, [some (.ref 170), some (.int p), some (.int s), some (.int v)], [.int pl, .ref 191], ph, 0, 0)
  refine gt_ialk (y := y) (ykc_275 (e := (5, .iaload, 0)) rfl) hy hAF (by omega) rfl ?_
  refine gt_load (v := .int v) (n := 1) (ykc_275 (e := (2, .iload_n kF3, 0)) rfl) rfl rfl ?_
  refine gt_load (v := .ref 170) (n := 1) (ykc_275 (e := (2, .aload_n kF0, 0)) rfl) rfl rfl ?_
  refine gt_gfr (A := 174) (ykc_275 (e := (5, .getfield 41, 0)) rfl) rfl hP rfl rfl rfl ?_
  refine gt_push (v := .int ((Int8.ofInt 8).toInt32)) (n := 2) (ykc_275 (e := (1, .bipush 8, 0)) rfl) rfl rfl ?_
  refine gt_load (v := .int p) (n := 1) (ykc_275 (e := (2, .iload_n kF1, 0)) rfl) rfl rfl ?_
  obtain ⟨q8, e_q8, h_q8⟩ : ∃ zq : Int32, ((Int8.ofInt 8).toInt32) + p = zq ∧ zq.toInt = 8 + p.toInt := ⟨_, rfl, by rw [ti_add (by rw [xc8]; omega) (by rw [xc8]; omega), xc8]⟩
  refine gt_alu (st' := [.int q8, .ref 174, .int v, .int y]) (ykc_275 (e := (0, .iadd, 0)) rfl) (by rw [← e_q8]; exact rfl) rfl ?_
  refine gt_ialk (y := f) (ykc_275 (e := (5, .iaload, 0)) rfl) hf hAN (by omega) rfl ?_
  by_cases hvf : v.toInt = f.toInt
  · refine gt_ieq_t (ykc_275 (e := (4, .if_icmp .eq 7, 41)) rfl) hvf ?_
    refine gt_alu (st' := [.int (Int32.ofInt 0), .int y]) (ykc_275 (e := (0, .iconst 0, 0)) rfl) rfl rfl ?_
    refine gt_cs (n := 1) (as := [.int (Int32.ofInt 0)]) (r := [.int y]) (ykc_275 (e := (6, .invokestatic 154, 0)) rfl) rfl rfl rfl rfl (xflag (D := D)) rfl (fun vv ph102 hv => ?_)
    obtain ⟨fl, e9, e8, fl_s⟩ := hv; subst e9; have e7 := e8.symm; subst e7
    have fl_0 : fl.toInt = 0 := by rw [fl_s, if_pos (by decide)]
    change xGT kK (D + 1) 275 _ (45, [some (.ref 170), some (.int p), some (.int s), some (.int v)], [.int fl, .int y], ph, 0, 0)
    obtain ⟨z, e_z, h_z⟩ : ∃ zq : Int32, y + fl = zq ∧ zq.toInt = y.toInt := ⟨_, rfl, by rw [ti_add (by rw [fl_0]; omega) (by rw [fl_0]; omega), fl_0]; omega⟩
    refine gt_alu (st' := [.int z]) (ykc_275 (e := (0, .iadd, 0)) rfl) (by rw [← e_z]; exact rfl) rfl ?_
    refine gt_ret (ykc_275 (e := (7, .ireturn, 0)) rfl) rfl ?_
    exact ⟨z, rfl, rfl, by rw [hFW, if_pos (by omega), h_z]; omega⟩
  · refine gt_ieq_f (ykc_275 (e := (4, .if_icmp .eq 7, 41)) rfl) hvf rfl ?_
    refine gt_alu (st' := [.int (Int32.ofInt 1), .int y]) (ykc_275 (e := (0, .iconst 1, 0)) rfl) rfl rfl ?_
    refine gt_br (pc' := 42) (st' := [.int (Int32.ofInt 1), .int y]) (ykc_275 (e := (4, .goto 4, 42)) rfl) rfl ?_
    refine gt_cs (n := 1) (as := [.int (Int32.ofInt 1)]) (r := [.int y]) (ykc_275 (e := (6, .invokestatic 154, 0)) rfl) rfl rfl rfl rfl (xflag (D := D)) rfl (fun vv ph102 hv => ?_)
    obtain ⟨fl, e9, e8, fl_s⟩ := hv; subst e9; have e7 := e8.symm; subst e7
    have fl_1 : fl.toInt = 1 := by rw [fl_s, if_neg (by decide)]
    change xGT kK (D + 1) 275 _ (45, [some (.ref 170), some (.int p), some (.int s), some (.int v)], [.int fl, .int y], ph, 0, 0)
    obtain ⟨z, e_z, h_z⟩ : ∃ zq : Int32, y + fl = zq ∧ zq.toInt = y.toInt + 1 := ⟨_, rfl, by rw [ti_add (by rw [fl_1]; omega) (by rw [fl_1]; omega), fl_1]⟩
    refine gt_alu (st' := [.int z]) (ykc_275 (e := (0, .iadd, 0)) rfl) (by rw [← e_z]; exact rfl) rfl ?_
    refine gt_ret (ykc_275 (e := (7, .ireturn, 0)) rfl) rfl ?_
    exact ⟨z, rfl, rfl, by rw [hFW, if_neg (by omega), h_z]⟩

set_option maxRecDepth 6000 in
theorem xHE_sameT {X : xD} {E : pm_H → Prop} {gA : List Nat} {gF : List (Nat × Nat)} {ph : pm_H} (hE : xHE X gA gF E) : xHE X gA gF (fun p => E p ∧ xSame X gA gF ph p) := fun p p' hs hp => ⟨hE p p' hs hp.1, fun a i ha hi => (hp.2.1 a i ha hi).trans (hs.1 a i ha hi), fun a i k ha hi => (hp.2.2 a i k ha hi).trans (hs.2 a i k ha hi)⟩
set_option maxRecDepth 6000 in
theorem xwst {E : pm_H → Prop} (hE : xHE xX xgA_G96 xgF_G96 E) (hV : ∀ p, E p → xV p) (hN : ∀ p, E p → xPG p) {m : Int} (hm : m ≤ 2147483646) (h0m : (0 : Int) ≤ m) {D tn : Nat} (hD : 13 ≤ D) {ph : pm_H} (hP : xH xX kK m 0 ph) (g9 : E ph) {p f T : Int32} (hp0 : 0 ≤ p.toInt) (hp1 : p.toInt ≤ 7) (hT : xget ph 170 6 = some (.int T)) (ht : T.toInt = (tn : Int)) (ht8 : tn ≤ 8) : ∃ v ph', pm_Rd kK false D 273 [.ref 170, .int p, .int f] ph (v, ph', 0, 0) ∧ (∃ z : Int32, v = some (.int z) ∧ 0 ≤ z.toInt ∧ z.toInt ≤ ((2 ^ tn - 1 : Nat) : Int) ∧ xH xX kK m 0 ph' ∧ E ph' ∧ xSame xX xgA_G8 xgF_G8 ph ph') := by
  have hE2 : xHE xX xgA_G8 xgF_G8 E := xHE_sub (by decide +kernel) (by decide +kernel) hE
  rcases (show tn = 0 ∨ tn = 1 ∨ tn = 2 ∨ tn = 3 ∨ tn = 4 ∨ tn = 5 ∨ tn = 6 ∨ tn = 7 ∨ tn = 8 by omega) with h | h | h | h | h | h | h | h | h
  · subst h
    obtain ⟨v, ph', k1, k2, k3, ⟨u, e, z, e2, z0, z1⟩, -⟩ := xcon_go (w := 0) (xn_273_1 (E := fun q => E q ∧ xSame xX xgA_G8 xgF_G8 ph q) (xHE_sameT hE2) (fun p h => hV p h.1) (fun p h => hN p h.1)) rfl rfl rfl rfl hD hm h0m (Nat.le_refl _) (vs := [.ref 170, .int p, .int f]) ⟨xaRi rfl (by decide), xaI hp0 hp1, xaT, trivial⟩ (xF1 (by decide) hT (by rw [ht]; exact Int.le_refl _) (by rw [ht]; exact Int.le_refl _)) hP ⟨g9, fun _ _ _ _ => rfl, fun _ _ _ _ _ => rfl⟩
    exact ⟨v, ph', k1, z, by rw [e, e2], z0, z1, k2, k3.1, k3.2⟩
  · subst h
    obtain ⟨v, ph', k1, k2, k3, ⟨u, e, z, e2, z0, z1⟩, -⟩ := xcon_go (w := 0) (xn_273_2 (E := fun q => E q ∧ xSame xX xgA_G8 xgF_G8 ph q) (xHE_sameT hE2) (fun p h => hV p h.1) (fun p h => hN p h.1)) rfl rfl rfl rfl hD hm h0m (Nat.le_refl _) (vs := [.ref 170, .int p, .int f]) ⟨xaRi rfl (by decide), xaI hp0 hp1, xaT, trivial⟩ (xF1 (by decide) hT (by rw [ht]; exact Int.le_refl _) (by rw [ht]; exact Int.le_refl _)) hP ⟨g9, fun _ _ _ _ => rfl, fun _ _ _ _ _ => rfl⟩
    exact ⟨v, ph', k1, z, by rw [e, e2], z0, z1, k2, k3.1, k3.2⟩
  · subst h
    obtain ⟨v, ph', k1, k2, k3, ⟨u, e, z, e2, z0, z1⟩, -⟩ := xcon_go (w := 0) (xn_273_3 (E := fun q => E q ∧ xSame xX xgA_G8 xgF_G8 ph q) (xHE_sameT hE2) (fun p h => hV p h.1) (fun p h => hN p h.1)) rfl rfl rfl rfl hD hm h0m (Nat.le_refl _) (vs := [.ref 170, .int p, .int f]) ⟨xaRi rfl (by decide), xaI hp0 hp1, xaT, trivial⟩ (xF1 (by decide) hT (by rw [ht]; exact Int.le_refl _) (by rw [ht]; exact Int.le_refl _)) hP ⟨g9, fun _ _ _ _ => rfl, fun _ _ _ _ _ => rfl⟩
    exact ⟨v, ph', k1, z, by rw [e, e2], z0, z1, k2, k3.1, k3.2⟩
  · subst h
    obtain ⟨v, ph', k1, k2, k3, ⟨u, e, z, e2, z0, z1⟩, -⟩ := xcon_go (w := 0) (xn_273_4 (E := fun q => E q ∧ xSame xX xgA_G8 xgF_G8 ph q) (xHE_sameT hE2) (fun p h => hV p h.1) (fun p h => hN p h.1)) rfl rfl rfl rfl hD hm h0m (Nat.le_refl _) (vs := [.ref 170, .int p, .int f]) ⟨xaRi rfl (by decide), xaI hp0 hp1, xaT, trivial⟩ (xF1 (by decide) hT (by rw [ht]; exact Int.le_refl _) (by rw [ht]; exact Int.le_refl _)) hP ⟨g9, fun _ _ _ _ => rfl, fun _ _ _ _ _ => rfl⟩
    exact ⟨v, ph', k1, z, by rw [e, e2], z0, z1, k2, k3.1, k3.2⟩
  · subst h
    obtain ⟨v, ph', k1, k2, k3, ⟨u, e, z, e2, z0, z1⟩, -⟩ := xcon_go (w := 0) (xn_273_5 (E := fun q => E q ∧ xSame xX xgA_G8 xgF_G8 ph q) (xHE_sameT hE2) (fun p h => hV p h.1) (fun p h => hN p h.1)) rfl rfl rfl rfl hD hm h0m (Nat.le_refl _) (vs := [.ref 170, .int p, .int f]) ⟨xaRi rfl (by decide), xaI hp0 hp1, xaT, trivial⟩ (xF1 (by decide) hT (by rw [ht]; exact Int.le_refl _) (by rw [ht]; exact Int.le_refl _)) hP ⟨g9, fun _ _ _ _ => rfl, fun _ _ _ _ _ => rfl⟩
    exact ⟨v, ph', k1, z, by rw [e, e2], z0, z1, k2, k3.1, k3.2⟩
  · subst h
    obtain ⟨v, ph', k1, k2, k3, ⟨u, e, z, e2, z0, z1⟩, -⟩ := xcon_go (w := 0) (xn_273_6 (E := fun q => E q ∧ xSame xX xgA_G8 xgF_G8 ph q) (xHE_sameT hE2) (fun p h => hV p h.1) (fun p h => hN p h.1)) rfl rfl rfl rfl hD hm h0m (Nat.le_refl _) (vs := [.ref 170, .int p, .int f]) ⟨xaRi rfl (by decide), xaI hp0 hp1, xaT, trivial⟩ (xF1 (by decide) hT (by rw [ht]; exact Int.le_refl _) (by rw [ht]; exact Int.le_refl _)) hP ⟨g9, fun _ _ _ _ => rfl, fun _ _ _ _ _ => rfl⟩
    exact ⟨v, ph', k1, z, by rw [e, e2], z0, z1, k2, k3.1, k3.2⟩
  · subst h
    obtain ⟨v, ph', k1, k2, k3, ⟨u, e, z, e2, z0, z1⟩, -⟩ := xcon_go (w := 0) (xn_273_7 (E := fun q => E q ∧ xSame xX xgA_G8 xgF_G8 ph q) (xHE_sameT hE2) (fun p h => hV p h.1) (fun p h => hN p h.1)) rfl rfl rfl rfl hD hm h0m (Nat.le_refl _) (vs := [.ref 170, .int p, .int f]) ⟨xaRi rfl (by decide), xaI hp0 hp1, xaT, trivial⟩ (xF1 (by decide) hT (by rw [ht]; exact Int.le_refl _) (by rw [ht]; exact Int.le_refl _)) hP ⟨g9, fun _ _ _ _ => rfl, fun _ _ _ _ _ => rfl⟩
    exact ⟨v, ph', k1, z, by rw [e, e2], z0, z1, k2, k3.1, k3.2⟩
  · subst h
    obtain ⟨v, ph', k1, k2, k3, ⟨u, e, z, e2, z0, z1⟩, -⟩ := xcon_go (w := 0) (xn_273_8 (E := fun q => E q ∧ xSame xX xgA_G8 xgF_G8 ph q) (xHE_sameT hE2) (fun p h => hV p h.1) (fun p h => hN p h.1)) rfl rfl rfl rfl hD hm h0m (Nat.le_refl _) (vs := [.ref 170, .int p, .int f]) ⟨xaRi rfl (by decide), xaI hp0 hp1, xaT, trivial⟩ (xF1 (by decide) hT (by rw [ht]; exact Int.le_refl _) (by rw [ht]; exact Int.le_refl _)) hP ⟨g9, fun _ _ _ _ => rfl, fun _ _ _ _ _ => rfl⟩
    exact ⟨v, ph', k1, z, by rw [e, e2], z0, z1, k2, k3.1, k3.2⟩
  · subst h
    obtain ⟨v, ph', k1, k2, k3, ⟨u, e, z, e2, z0, z1⟩, -⟩ := xcon_go (w := 0) (xn_273_9 (E := fun q => E q ∧ xSame xX xgA_G8 xgF_G8 ph q) (xHE_sameT hE2) (fun p h => hV p h.1) (fun p h => hN p h.1)) rfl rfl rfl rfl hD hm h0m (Nat.le_refl _) (vs := [.ref 170, .int p, .int f]) ⟨xaRi rfl (by decide), xaI hp0 hp1, xaT, trivial⟩ (xF1 (by decide) hT (by rw [ht]; exact Int.le_refl _) (by rw [ht]; exact Int.le_refl _)) hP ⟨g9, fun _ _ _ _ => rfl, fun _ _ _ _ _ => rfl⟩
    exact ⟨v, ph', k1, z, by rw [e, e2], z0, z1, k2, k3.1, k3.2⟩
set_option maxRecDepth 6000 in
theorem xsame_fT {gA : List Nat} {gF : List (Nat × Nat)} {ph p : pm_H} {a i k : Nat} (h : xSame xX gA gF ph p) (ho : xown a = some i) (hk : xmemP gF i k = true) : xget p a k = xget ph a k := (h.2 a i k ho (xmemP_in hk)).symm
set_option maxRecDepth 6000 in
theorem xsame_aT {gA : List Nat} {gF : List (Nat × Nat)} {ph p : pm_H} {a i : Nat} (h : xSame xX gA gF ph p) (ho : xown a = some i) (hk : xmemN gA i = true) : pm_at p a = pm_at ph a := (h.1 a i ho (xmemN_in hk)).symm
set_option maxRecDepth 6000 in
theorem xget_atT {ph p : pm_H} {a : Nat} (h : pm_at p a = pm_at ph a) (i : Nat) : xget p a i = xget ph a i := by unfold xget; rw [h]

set_option maxRecDepth 6000 in
theorem xtur_v {E : pm_H → Prop} (hE : xHE xX xgA_G96 xgF_G96 E) {m : Int} (hm : m ≤ 2147483646) (h0m : (0 : Int) ≤ m) {D pN tn : Nat} {P T : Int32} {Q : Option Value → pm_H → Prop} (hPn : P.toInt = (pN : Int)) (hp8 : pN ≤ 8) (ht : T.toInt = (tn : Int)) (ht8 : tn ≤ 8) (hV : ∀ p, E p → xV p) (hN : ∀ p, E p → xPG p) (hD : 13 ≤ D) {p : Int32} {pn : Nat} (hpn : p.toInt = (pn : Int)) (hpP : pn < pN) {o3 o4 o5 : Option Value} (kk : ∀ (p1 v : Int32) (ph : pm_H), p1.toInt = p.toInt + 1 → xH xX kK m 0 ph → E ph → xget ph 170 5 = some (.int P) → xget ph 170 6 = some (.int T) → (∀ i, i < 8 * (pn + 1) → 0 ≤ xgi ph 190 i ∧ xgi ph 190 i ≤ ((2 ^ tn - 1 : Nat) : Int)) → xGT kK D 276 Q (7, [some (.ref 170), some (.int p1), some (.int v), o3, o4, o5], [], ph, 0, 0)) : ∀ (s : Nat) (v : Int32) (vn : Nat) (ph : pm_H), xH xX kK m 0 ph → E ph → xget ph 170 5 = some (.int P) → xget ph 170 6 = some (.int T) → (∀ i, i < 8 * pn + vn → 0 ≤ xgi ph 190 i ∧ xgi ph 190 i ≤ ((2 ^ tn - 1 : Nat) : Int)) → v.toInt = (vn : Int) → vn + s = 8 → xGT kK D 276 Q (17, [some (.ref 170), some (.int p), some (.int v), o3, o4, o5], [], ph, 0, 0) := by
  intro s
  induction s with
  | zero =>
    intro v vn ph hP g9 hPe hTe hsh hvn hvs
    refine gt_load (v := .int v) (n := 1) (ykc_276 (e := (2, .iload_n kF2, 0)) rfl) rfl rfl ?_
    refine gt_push (v := .int ((Int8.ofInt 8).toInt32)) (n := 2) (ykc_276 (e := (1, .bipush 8, 0)) rfl) rfl rfl ?_
    refine gt_ige_t (ykc_276 (e := (4, .if_icmp .ge 26, 46)) rfl) (by rw [xc8]; omega) ?_
    obtain ⟨p1, e_p1, h_p1⟩ : ∃ zq : Int32, p + Int32.ofInt 1 = zq ∧ zq.toInt = p.toInt + 1 := ⟨_, rfl, by rw [ti_add (by rw [xi1]; omega) (by rw [xi1]; omega), xi1]⟩
    refine gt_store (L' := [some (.ref 170), some (.int p1), some (.int v), o3, o4, o5]) (st' := []) (n := 3) (ykc_276 (e := (3, .iinc 1 1, 0)) rfl) (by rw [← e_p1]; rfl) rfl ?_
    refine gt_br (pc' := 7) (st' := []) (ykc_276 (e := (4, .goto (-42), 7)) rfl) rfl ?_
    exact kk p1 _ ph h_p1 hP g9 hPe hTe (fun i hi => hsh i (by omega))
  | succ s ih =>
    intro v vn ph hP g9 hPe hTe hsh hvn hvs
    refine gt_load (v := .int v) (n := 1) (ykc_276 (e := (2, .iload_n kF2, 0)) rfl) rfl rfl ?_
    refine gt_push (v := .int ((Int8.ofInt 8).toInt32)) (n := 2) (ykc_276 (e := (1, .bipush 8, 0)) rfl) rfl rfl ?_
    refine gt_ige_f (ykc_276 (e := (4, .if_icmp .ge 26, 46)) rfl) (by rw [xc8]; omega) rfl ?_
    refine gt_load (v := .ref 170) (n := 1) (ykc_276 (e := (2, .aload_n kF0, 0)) rfl) rfl rfl ?_
    refine gt_gfr (A := 190) (ykc_276 (e := (5, .getfield 89, 0)) rfl) rfl hP rfl rfl rfl ?_
    refine gt_push (v := .int ((Int8.ofInt 8).toInt32)) (n := 2) (ykc_276 (e := (1, .bipush 8, 0)) rfl) rfl rfl ?_
    refine gt_load (v := .int p) (n := 1) (ykc_276 (e := (2, .iload_n kF1, 0)) rfl) rfl rfl ?_
    obtain ⟨m8, e_m8, h_m8⟩ : ∃ zq : Int32, ((Int8.ofInt 8).toInt32) * p = zq ∧ zq.toInt = 8 * p.toInt := ⟨_, rfl, by rw [ti_mul (by rw [xc8]; omega) (by rw [xc8]; omega), xc8]⟩
    refine gt_alu (st' := [.int m8, .ref 190]) (ykc_276 (e := (0, .imul, 0)) rfl) (by rw [← e_m8]; exact rfl) rfl ?_
    refine gt_load (v := .int v) (n := 1) (ykc_276 (e := (2, .iload_n kF2, 0)) rfl) rfl rfl ?_
    obtain ⟨ix, e_ix, h_ix⟩ : ∃ zq : Int32, m8 + v = zq ∧ zq.toInt = ((8 * pn + vn : Nat) : Int) := ⟨_, rfl, by rw [ti_add (by rw [h_m8]; omega) (by rw [h_m8]; omega), h_m8]; omega⟩
    refine gt_alu (st' := [.int ix, .ref 190]) (ykc_276 (e := (0, .iadd, 0)) rfl) (by rw [← e_ix]; exact rfl) rfl ?_
    refine gt_load (v := .ref 170) (n := 1) (ykc_276 (e := (2, .aload_n kF0, 0)) rfl) rfl rfl ?_
    refine gt_load (v := .int p) (n := 1) (ykc_276 (e := (2, .iload_n kF1, 0)) rfl) rfl rfl ?_
    refine gt_load (v := .int v) (n := 1) (ykc_276 (e := (2, .iload_n kF2, 0)) rfl) rfl rfl ?_
    refine gt_cv (n := 2) (as := [.ref 170, .int p, .int v]) (r := [.int ix, .ref 190]) (ykc_276 (e := (6, .invokevirtual 440, 0)) rfl) rfl hP rfl rfl rfl (xwst hE hV hN hm h0m hD hP g9 (by omega) (by omega) hTe ht ht8) rfl (fun vv ph101 hv => ?_)
    obtain ⟨z, e9, z0, z1, hP1, g91, hsm⟩ := hv; subst e9
    change xGT kK D 276 Q (39, [some (.ref 170), some (.int p), some (.int v), o3, o4, o5], [.int z, .int ix, .ref 190], ph101, 0, 0)
    refine gt_ias (A := 190) (y := z) (x := ix) (ykc_276 (e := (5, .iastore, 0)) rfl) hP1 rfl rfl (by omega) (by omega) (xsh255 z0 (by have := xpow9 ht8; omega)) rfl (fun ph102 hP102 u102 => ?_)
    obtain ⟨v1, e_v1, h_v1⟩ : ∃ zq : Int32, v + Int32.ofInt 1 = zq ∧ zq.toInt = v.toInt + 1 := ⟨_, rfl, by rw [ti_add (by rw [xi1]; omega) (by rw [xi1]; omega), xi1]⟩
    refine gt_store (L' := [some (.ref 170), some (.int p), some (.int v1), o3, o4, o5]) (st' := []) (n := 3) (ykc_276 (e := (3, .iinc 2 1, 0)) rfl) (by rw [← e_v1]; rfl) rfl ?_
    refine gt_br (pc' := 17) (st' := []) (ykc_276 (e := (4, .goto (-26), 17)) rfl) rfl ?_
    refine ih v1 (vn + 1) _ hP102 (xu1_E hE u102 rfl rfl rfl g91) ((u102.2.1 170 5 (fun q => absurd q.1 (by decide))).trans ((xsame_fT (a := 170) (i := 0) (k := 5) hsm rfl rfl).trans hPe)) ((u102.2.1 170 6 (fun q => absurd q.1 (by decide))).trans ((xsame_fT (a := 170) (i := 0) (k := 6) hsm rfl rfl).trans hTe)) (fun i hi => ?_) (by omega) (by omega)
    by_cases ei : i = ix.toInt.toNat
    · subst ei
      rw [xgi_of u102.1]
      exact ⟨z0, z1⟩
    · rw [xgi_eq (u102.2.1 190 i (fun q => ei q.2)), xgi_eq (xget_atT (xsame_aT (a := 190) (i := 20) hsm rfl rfl) i)]
      exact hsh i (by omega)

set_option maxRecDepth 6000 in
theorem xtur_p {E : pm_H → Prop} (hE : xHE xX xgA_G96 xgF_G96 E) {m : Int} (hm : m ≤ 2147483646) (h0m : (0 : Int) ≤ m) {D pN tn : Nat} {P T : Int32} {Q : Option Value → pm_H → Prop} (hPn : P.toInt = (pN : Int)) (hp8 : pN ≤ 8) (ht : T.toInt = (tn : Int)) (ht8 : tn ≤ 8) (hV : ∀ p, E p → xV p) (hN : ∀ p, E p → xPG p) (hD : 13 ≤ D) {o3 o4 o5 : Option Value} (kk : ∀ (p : Int32) (o2 : Option Value) (ph : pm_H), xH xX kK m 0 ph → E ph → xget ph 170 5 = some (.int P) → xget ph 170 6 = some (.int T) → (∀ i, i < 8 * pN → 0 ≤ xgi ph 190 i ∧ xgi ph 190 i ≤ ((2 ^ tn - 1 : Nat) : Int)) → xGT kK D 276 Q (52, [some (.ref 170), some (.int p), o2, o3, o4, o5], [], ph, 0, 0)) : ∀ (s : Nat) (p : Int32) (pn : Nat) (o2 : Option Value) (ph : pm_H), xH xX kK m 0 ph → E ph → xget ph 170 5 = some (.int P) → xget ph 170 6 = some (.int T) → (∀ i, i < 8 * pn → 0 ≤ xgi ph 190 i ∧ xgi ph 190 i ≤ ((2 ^ tn - 1 : Nat) : Int)) → p.toInt = (pn : Int) → pn + s = pN → xGT kK D 276 Q (7, [some (.ref 170), some (.int p), o2, o3, o4, o5], [], ph, 0, 0) := by
  intro s
  induction s with
  | zero =>
    intro p pn o2 ph hP g9 hPe hTe hsh hpn hps
    refine gt_load (v := .int p) (n := 1) (ykc_276 (e := (2, .iload_n kF1, 0)) rfl) rfl rfl ?_
    refine gt_load (v := .ref 170) (n := 1) (ykc_276 (e := (2, .aload_n kF0, 0)) rfl) rfl rfl ?_
    refine gt_gfk (v := .int P) (ykc_276 (e := (5, .getfield 130, 0)) rfl) rfl hP hPe rfl ?_
    refine gt_ige_t (ykc_276 (e := (4, .if_icmp .ge 40, 52)) rfl) (by omega) ?_
    exact kk p _ ph hP g9 hPe hTe (fun i hi => hsh i (by omega))
  | succ s ih =>
    intro p pn o2 ph hP g9 hPe hTe hsh hpn hps
    refine gt_load (v := .int p) (n := 1) (ykc_276 (e := (2, .iload_n kF1, 0)) rfl) rfl rfl ?_
    refine gt_load (v := .ref 170) (n := 1) (ykc_276 (e := (2, .aload_n kF0, 0)) rfl) rfl rfl ?_
    refine gt_gfk (v := .int P) (ykc_276 (e := (5, .getfield 130, 0)) rfl) rfl hP hPe rfl ?_
    refine gt_ige_f (ykc_276 (e := (4, .if_icmp .ge 40, 52)) rfl) (by omega) rfl ?_
    refine gt_alu (st' := [.int (Int32.ofInt 0)]) (ykc_276 (e := (0, .iconst 0, 0)) rfl) rfl rfl ?_
    refine gt_store (L' := [some (.ref 170), some (.int p), some (.int (Int32.ofInt 0)), o3, o4, o5]) (st' := []) (n := 1) (ykc_276 (e := (3, .istore_n kF2, 0)) rfl) rfl rfl ?_
    refine xtur_v hE hm h0m hPn hp8 ht ht8 hV hN hD hpn (by omega) ?_ 8 _ 0 ph hP g9 hPe hTe (fun i hi => hsh i (by omega)) (by decide) (by omega)
    intro p1 v2 ph2 e1 hP2 g92 hPe2 hTe2 hsh2
    exact ih p1 (pn + 1) _ ph2 hP2 g92 hPe2 hTe2 hsh2 (by omega) (by omega)

set_option maxRecDepth 6000 in
theorem xtur_r {E : pm_H → Prop} (hE : xHE xX xgA_G96 xgF_G96 E) {m : Int} (hm : m ≤ 2147483646) (h0m : (0 : Int) ≤ m) {D' pN tn : Nat} {P T : Int32} {Q : Option Value → pm_H → Prop} (hPn : P.toInt = (pN : Int)) (hp8 : pN ≤ 8) (ht : T.toInt = (tn : Int)) (ht8 : tn ≤ 8) {al : Int32} (hal : al.toInt = ((2 ^ tn - 1 : Nat) : Int)) {o3 o4 o5 : Option Value} (kk : ∀ (sn : Int32) (ph : pm_H), xH xX kK m 0 ph → E ph → xget ph 170 5 = some (.int P) → xget ph 170 6 = some (.int T) → (∀ i, i < 8 * pN → 0 ≤ xgi ph 190 i ∧ xgi ph 190 i ≤ ((2 ^ tn - 1 : Nat) : Int)) → (∀ s, s < 2 ^ tn → 0 ≤ xgi ph 191 (256 * pN + s) ∧ xgi ph 191 (256 * pN + s) ≤ 1000000) → xGT kK (D' + 1) 276 Q (99, [some (.ref 170), some (.int al), some (.int sn), o3, o4, o5], [], ph, 0, 0)) : ∀ (s : Nat) (sn : Int32) (snn : Nat) (ph : pm_H), xH xX kK m 0 ph → E ph → xget ph 170 5 = some (.int P) → xget ph 170 6 = some (.int T) → (∀ i, i < 8 * pN → 0 ≤ xgi ph 190 i ∧ xgi ph 190 i ≤ ((2 ^ tn - 1 : Nat) : Int)) → (∀ s, s < snn → 0 ≤ xgi ph 191 (256 * pN + s) ∧ xgi ph 191 (256 * pN + s) ≤ 1000000) → sn.toInt = (snn : Int) → snn + s = 2 ^ tn → xGT kK (D' + 1) 276 Q (63, [some (.ref 170), some (.int al), some (.int sn), o3, o4, o5], [], ph, 0, 0) := by
  have hpw := xpow9 ht8
  intro s
  induction s with
  | zero =>
    intro sn snn ph hP g9 hPe hTe hsh hfb hsn hss
    refine gt_load (v := .int sn) (n := 1) (ykc_276 (e := (2, .iload_n kF2, 0)) rfl) rfl rfl ?_
    refine gt_load (v := .int al) (n := 1) (ykc_276 (e := (2, .iload_n kF1, 0)) rfl) rfl rfl ?_
    refine gt_igt_t (ykc_276 (e := (4, .if_icmp .gt 34, 99)) rfl) (by omega) ?_
    exact kk sn ph hP g9 hPe hTe hsh (fun i hi => hfb i (by omega))
  | succ s ih =>
    intro sn snn ph hP g9 hPe hTe hsh hfb hsn hss
    refine gt_load (v := .int sn) (n := 1) (ykc_276 (e := (2, .iload_n kF2, 0)) rfl) rfl rfl ?_
    refine gt_load (v := .int al) (n := 1) (ykc_276 (e := (2, .iload_n kF1, 0)) rfl) rfl rfl ?_
    refine gt_igt_f (ykc_276 (e := (4, .if_icmp .gt 34, 99)) rfl) (by omega) rfl ?_
    refine gt_load (v := .ref 170) (n := 1) (ykc_276 (e := (2, .aload_n kF0, 0)) rfl) rfl rfl ?_
    refine gt_gfr (A := 191) (ykc_276 (e := (5, .getfield 92, 0)) rfl) rfl hP rfl rfl rfl ?_
    refine gt_load (v := .ref 170) (n := 1) (ykc_276 (e := (2, .aload_n kF0, 0)) rfl) rfl rfl ?_
    refine gt_gfk (v := .int P) (ykc_276 (e := (5, .getfield 130, 0)) rfl) rfl hP hPe rfl ?_
    refine gt_load (v := .int sn) (n := 1) (ykc_276 (e := (2, .iload_n kF2, 0)) rfl) rfl rfl ?_
    refine gt_cs (n := 2) (as := [.int P, .int sn]) (r := [.ref 191]) (ykc_276 (e := (6, .invokestatic 437, 0)) rfl) rfl rfl rfl rfl (xplace (D := D') hPn hsn (by omega) (by have := xpow9 ht8; omega)) rfl (fun vv ph101 hv => ?_)
    obtain ⟨pl, e9, e8, pl_s⟩ := hv; subst e9; have e7 := e8.symm; subst e7
    change xGT kK (D' + 1) 276 Q (80, [some (.ref 170), some (.int al), some (.int sn), o3, o4, o5], [.int pl, .ref 191], ph, 0, 0)
    refine gt_load (v := .int sn) (n := 1) (ykc_276 (e := (2, .iload_n kF2, 0)) rfl) rfl rfl ?_
    refine gt_load (v := .int al) (n := 1) (ykc_276 (e := (2, .iload_n kF1, 0)) rfl) rfl rfl ?_
    by_cases hal9 : sn.toInt ≠ al.toInt
    · refine gt_ine_t (ykc_276 (e := (4, .if_icmp .ne 7, 89)) rfl) hal9 ?_
      refine gt_push (v := .int (1000000 : Int32)) (n := 3) (ykc_276 (e := (1, .ldc_w 432, 0)) rfl) rfl rfl ?_
      refine gt_ias (A := 191) (y := (1000000 : Int32)) (x := pl) (ykc_276 (e := (5, .iastore, 0)) rfl) hP rfl rfl (by omega) (by have := xpow9 ht8; omega) xany rfl (fun ph202 hP202 u202 => ?_)
      have f202_5 : xget ph202 170 5 = some (.int P) := (u202.2.1 170 5 (fun q => absurd q.1 (by decide))).trans hPe
      have f202_6 : xget ph202 170 6 = some (.int T) := (u202.2.1 170 6 (fun q => absurd q.1 (by decide))).trans hTe
      obtain ⟨s1, e_s1, h_s1⟩ : ∃ zq : Int32, sn + Int32.ofInt 1 = zq ∧ zq.toInt = sn.toInt + 1 := ⟨_, rfl, by rw [ti_add (by rw [xi1]; omega) (by rw [xi1]; omega), xi1]⟩
      refine gt_store (L' := [some (.ref 170), some (.int al), some (.int s1), o3, o4, o5]) (st' := []) (n := 3) (ykc_276 (e := (3, .iinc 2 1, 0)) rfl) (by rw [← e_s1]; rfl) rfl ?_
      refine gt_br (pc' := 63) (st' := []) (ykc_276 (e := (4, .goto (-33), 63)) rfl) rfl ?_
      refine ih s1 (snn + 1) _ hP202 (xu1_E hE u202 rfl rfl rfl g9) ((u202.2.1 170 5 (fun q => absurd q.1 (by decide))).trans hPe) ((u202.2.1 170 6 (fun q => absurd q.1 (by decide))).trans hTe) (fun i hi => by rw [xgi_eq (u202.2.1 190 i (fun q => absurd q.1 (by decide)))]; exact hsh i hi) (fun i hi => ?_) (by omega) (by omega)
      by_cases ei : 256 * pN + i = pl.toInt.toNat
      · rw [ei, xgi_of u202.1]
        decide
      · rw [xgi_eq (u202.2.1 191 _ (fun q => ei q.2))]
        exact hfb i (by omega)
    · refine gt_ine_f (ykc_276 (e := (4, .if_icmp .ne 7, 89)) rfl) (by omega) rfl ?_
      refine gt_alu (st' := [.int (Int32.ofInt 0), .int pl, .ref 191]) (ykc_276 (e := (0, .iconst 0, 0)) rfl) rfl rfl ?_
      refine gt_br (pc' := 92) (st' := [.int (Int32.ofInt 0), .int pl, .ref 191]) (ykc_276 (e := (4, .goto 6, 92)) rfl) rfl ?_
      refine gt_ias (A := 191) (y := Int32.ofInt 0) (x := pl) (ykc_276 (e := (5, .iastore, 0)) rfl) hP rfl rfl (by omega) (by have := xpow9 ht8; omega) xany rfl (fun ph202 hP202 u202 => ?_)
      have f202_5 : xget ph202 170 5 = some (.int P) := (u202.2.1 170 5 (fun q => absurd q.1 (by decide))).trans hPe
      have f202_6 : xget ph202 170 6 = some (.int T) := (u202.2.1 170 6 (fun q => absurd q.1 (by decide))).trans hTe
      obtain ⟨s1, e_s1, h_s1⟩ : ∃ zq : Int32, sn + Int32.ofInt 1 = zq ∧ zq.toInt = sn.toInt + 1 := ⟨_, rfl, by rw [ti_add (by rw [xi1]; omega) (by rw [xi1]; omega), xi1]⟩
      refine gt_store (L' := [some (.ref 170), some (.int al), some (.int s1), o3, o4, o5]) (st' := []) (n := 3) (ykc_276 (e := (3, .iinc 2 1, 0)) rfl) (by rw [← e_s1]; rfl) rfl ?_
      refine gt_br (pc' := 63) (st' := []) (ykc_276 (e := (4, .goto (-33), 63)) rfl) rfl ?_
      refine ih s1 (snn + 1) _ hP202 (xu1_E hE u202 rfl rfl rfl g9) ((u202.2.1 170 5 (fun q => absurd q.1 (by decide))).trans hPe) ((u202.2.1 170 6 (fun q => absurd q.1 (by decide))).trans hTe) (fun i hi => by rw [xgi_eq (u202.2.1 190 i (fun q => absurd q.1 (by decide)))]; exact hsh i hi) (fun i hi => ?_) (by omega) (by omega)
      by_cases ei : 256 * pN + i = pl.toInt.toNat
      · rw [ei, xgi_of u202.1]
        decide
      · rw [xgi_eq (u202.2.1 191 _ (fun q => ei q.2))]
        exact hfb i (by omega)

set_option maxRecDepth 6000 in
theorem xmin2 {x s y : Int32} (e : (if s < x then s else x) = y) : y.toInt = min x.toInt s.toInt := by
  by_cases q : s < x
  · rw [if_pos q] at e
    subst e
    have := x32lt.mp q
    omega
  · rw [if_neg q] at e
    subst e
    have : ¬ s.toInt < x.toInt := fun r => q (x32lt.mpr r)
    omega
set_option maxRecDepth 6000 in
theorem xtur_l {m : Int} {D' pn snn : Nat} {Q : Option Value → pm_H → Prop} {al p sn : Int32} {ph : pm_H} (hP : xH xX kK m 0 ph) (hpn : p.toInt = (pn : Int)) (hsn : sn.toInt = (snn : Int)) (hp8 : pn < 8) (hA : snn ≤ 255) (hsx : ∀ v, v < 8 → snn ||| (xgi ph 190 (8 * pn + v)).toNat ≤ 255) (hfb : ∀ v, v < 8 → 0 ≤ xgi ph 191 (256 * (pn + 1) + (snn ||| (xgi ph 190 (8 * pn + v)).toNat)) ∧ xgi ph 191 (256 * (pn + 1) + (snn ||| (xgi ph 190 (8 * pn + v)).toNat)) ≤ 1000000) (kk : ∀ (le v : Int32), 0 ≤ le.toInt → le.toInt ≤ 1000000 → (le.toInt = 1000000 ∨ ∃ v, v < 8 ∧ xFW ph pn snn v = le.toInt) → xGT kK (D' + 1 + 1) 276 Q (153, [some (.ref 170), some (.int al), some (.int p), some (.int sn), some (.int le), some (.int v)], [], ph, 0, 0)) : ∀ (s : Nat) (le v : Int32) (vn : Nat), 0 ≤ le.toInt → le.toInt ≤ 1000000 → (le.toInt = 1000000 ∨ ∃ v, v < 8 ∧ xFW ph pn snn v = le.toInt) → v.toInt = (vn : Int) → vn + s = 8 → xGT kK (D' + 1 + 1) 276 Q (125, [some (.ref 170), some (.int al), some (.int p), some (.int sn), some (.int le), some (.int v)], [], ph, 0, 0) := by
  intro s
  induction s with
  | zero =>
    intro le v vn h0 h1 h2 hvn hvs
    refine gt_load (v := .int v) (n := 2) (ykc_276 (e := (2, .iload 5, 0)) rfl) rfl rfl ?_
    refine gt_push (v := .int ((Int8.ofInt 8).toInt32)) (n := 2) (ykc_276 (e := (1, .bipush 8, 0)) rfl) rfl rfl ?_
    refine gt_ige_t (ykc_276 (e := (4, .if_icmp .ge 24, 153)) rfl) (by rw [xc8]; omega) ?_
    exact kk le v h0 h1 h2
  | succ s ih =>
    intro le v vn h0 h1 h2 hvn hvs
    refine gt_load (v := .int v) (n := 2) (ykc_276 (e := (2, .iload 5, 0)) rfl) rfl rfl ?_
    refine gt_push (v := .int ((Int8.ofInt 8).toInt32)) (n := 2) (ykc_276 (e := (1, .bipush 8, 0)) rfl) rfl rfl ?_
    refine gt_ige_f (ykc_276 (e := (4, .if_icmp .ge 24, 153)) rfl) (by rw [xc8]; omega) rfl ?_
    refine gt_load (v := .int le) (n := 2) (ykc_276 (e := (2, .iload 4, 0)) rfl) rfl rfl ?_
    refine gt_load (v := .ref 170) (n := 1) (ykc_276 (e := (2, .aload_n kF0, 0)) rfl) rfl rfl ?_
    refine gt_load (v := .int p) (n := 1) (ykc_276 (e := (2, .iload_n kF2, 0)) rfl) rfl rfl ?_
    refine gt_load (v := .int sn) (n := 1) (ykc_276 (e := (2, .iload_n kF3, 0)) rfl) rfl rfl ?_
    refine gt_load (v := .int v) (n := 2) (ykc_276 (e := (2, .iload 5, 0)) rfl) rfl rfl ?_
    refine gt_cv (n := 3) (as := [.ref 170, .int p, .int sn, .int v]) (r := [.int le]) (ykc_276 (e := (6, .invokevirtual 443, 0)) rfl) rfl hP rfl rfl rfl (xfewWith (D := D') hP hpn hsn hvn (by omega) hA (by omega) (Nat.le_refl _) (hsx vn (by omega)) (hfb vn (by omega))) rfl (fun vv ph101 hv => ?_)
    obtain ⟨z, e9, e8, z_s⟩ := hv; subst e9; have e7 := e8.symm; subst e7
    change xGT kK (D' + 1 + 1) 276 Q (142, [some (.ref 170), some (.int al), some (.int p), some (.int sn), some (.int le), some (.int v)], [.int z, .int le], ph, 0, 0)
    obtain ⟨l1, e_l1⟩ : ∃ zq : Int32, (if z < le then z else le) = zq := ⟨_, rfl⟩
    refine gt_mem (n := 3) (st' := [.int l1]) (ph' := ph) (ykc_276 (e := (5, .invokestatic 145, 0)) rfl) (by rw [← e_l1]; rfl) rfl ?_
    refine gt_store (L' := [some (.ref 170), some (.int al), some (.int p), some (.int sn), some (.int l1), some (.int v)]) (st' := []) (n := 2) (ykc_276 (e := (3, .istore 4, 0)) rfl) rfl rfl ?_
    obtain ⟨v1, e_v1, h_v1⟩ : ∃ zq : Int32, v + Int32.ofInt 1 = zq ∧ zq.toInt = v.toInt + 1 := ⟨_, rfl, by rw [ti_add (by rw [xi1]; omega) (by rw [xi1]; omega), xi1]⟩
    refine gt_store (L' := [some (.ref 170), some (.int al), some (.int p), some (.int sn), some (.int l1), some (.int v1)]) (st' := []) (n := 3) (ykc_276 (e := (3, .iinc 5 1, 0)) rfl) (by rw [← e_v1]; rfl) rfl ?_
    refine gt_br (pc' := 125) (st' := []) (ykc_276 (e := (4, .goto (-25), 125)) rfl) rfl ?_
    have hm9 := xmin2 e_l1
    have hfw : 0 ≤ xFW ph pn snn vn := by
      have := (hfb vn (by omega)).1
      unfold xFW
      by_cases q : (vn : Int) = xgi ph 174 (8 + pn)
      · rw [if_pos q]; omega
      · rw [if_neg q]; omega
    refine ih l1 v1 (vn + 1) (by omega) (by omega) ?_ (by omega) (by omega)
    rcases (show l1.toInt = le.toInt ∨ l1.toInt = z.toInt by omega) with q | q
    · rcases h2 with h2 | ⟨v9, h3, h4⟩
      · exact Or.inl (by omega)
      · exact Or.inr ⟨v9, h3, by omega⟩
    · exact Or.inr ⟨vn, by omega, by omega⟩

set_option maxRecDepth 6000 in
theorem xtur_s {E : pm_H → Prop} (hE : xHE xX xgA_G96 xgF_G96 E) {m : Int} (hm : m ≤ 2147483646) (h0m : (0 : Int) ≤ m) {D' pN tn : Nat} {P T : Int32} {Q : Option Value → pm_H → Prop} (hPn : P.toInt = (pN : Int)) (hp8 : pN ≤ 8) (ht : T.toInt = (tn : Int)) (ht8 : tn ≤ 8) {al : Int32} (hal : al.toInt = ((2 ^ tn - 1 : Nat) : Int)) {p : Int32} {pn : Nat} (hpn : p.toInt = (pn : Int)) (hpP : pn < pN) (kk : ∀ (p1 sn : Int32) (o4 o5 : Option Value) (ph : pm_H), p1.toInt = p.toInt - 1 → xH xX kK m 0 ph → E ph → xget ph 170 5 = some (.int P) → xget ph 170 6 = some (.int T) → (∀ i, i < 8 * pN → 0 ≤ xgi ph 190 i ∧ xgi ph 190 i ≤ ((2 ^ tn - 1 : Nat) : Int)) → (∀ p s, pn ≤ p → p ≤ pN → s < 2 ^ tn → 0 ≤ xgi ph 191 (256 * p + s) ∧ xgi ph 191 (256 * p + s) ≤ 1000000) → (∀ p s, pn ≤ p → p < pN → s < 2 ^ tn → (xgi ph 191 (256 * p + s) = 1000000 ∨ ∃ v, v < 8 ∧ xFW ph p s v = xgi ph 191 (256 * p + s))) → xGT kK (D' + 1 + 1) 276 Q (106, [some (.ref 170), some (.int al), some (.int p1), some (.int sn), o4, o5], [], ph, 0, 0)) : ∀ (s : Nat) (sn : Int32) (snn : Nat) (o4 o5 : Option Value) (ph : pm_H), xH xX kK m 0 ph → E ph → xget ph 170 5 = some (.int P) → xget ph 170 6 = some (.int T) → (∀ i, i < 8 * pN → 0 ≤ xgi ph 190 i ∧ xgi ph 190 i ≤ ((2 ^ tn - 1 : Nat) : Int)) → (∀ p s, (pn + 1) ≤ p → p ≤ pN → s < 2 ^ tn → 0 ≤ xgi ph 191 (256 * p + s) ∧ xgi ph 191 (256 * p + s) ≤ 1000000) → (∀ p s, (pn + 1) ≤ p → p < pN → s < 2 ^ tn → (xgi ph 191 (256 * p + s) = 1000000 ∨ ∃ v, v < 8 ∧ xFW ph p s v = xgi ph 191 (256 * p + s))) → (∀ s, s < snn → 0 ≤ xgi ph 191 (256 * pn + s) ∧ xgi ph 191 (256 * pn + s) ≤ 1000000) → (∀ s, s < snn → (xgi ph 191 (256 * pn + s) = 1000000 ∨ ∃ v, v < 8 ∧ xFW ph pn s v = xgi ph 191 (256 * pn + s))) → sn.toInt = (snn : Int) → snn + s = 2 ^ tn → xGT kK (D' + 1 + 1) 276 Q (112, [some (.ref 170), some (.int al), some (.int p), some (.int sn), o4, o5], [], ph, 0, 0) := by
  have hpw := xpow9 ht8
  intro s
  induction s with
  | zero =>
    intro sn snn o4 o5 ph hP g9 hPe hTe hsh hfb hdp hpf hpd hsn hss
    refine gt_load (v := .int sn) (n := 1) (ykc_276 (e := (2, .iload_n kF3, 0)) rfl) rfl rfl ?_
    refine gt_load (v := .int al) (n := 1) (ykc_276 (e := (2, .iload_n kF1, 0)) rfl) rfl rfl ?_
    refine gt_igt_t (ykc_276 (e := (4, .if_icmp .gt 57, 171)) rfl) (by omega) ?_
    obtain ⟨p1, e_p1, h_p1⟩ : ∃ zq : Int32, p + Int32.ofInt (-1) = zq ∧ zq.toInt = p.toInt - 1 := ⟨_, rfl, by rw [ti_add (by rw [xim1]; omega) (by rw [xim1]; omega), xim1]; omega⟩
    refine gt_store (L' := [some (.ref 170), some (.int al), some (.int p1), some (.int sn), o4, o5]) (st' := []) (n := 3) (ykc_276 (e := (3, .iinc 2 (-1), 0)) rfl) (by rw [← e_p1]; rfl) rfl ?_
    refine gt_br (pc' := 106) (st' := []) (ykc_276 (e := (4, .goto (-68), 106)) rfl) rfl ?_
    have ess : snn = 2 ^ tn := by omega
    subst ess
    refine kk p1 sn _ _ ph h_p1 hP g9 hPe hTe hsh (fun q s h1 h2 h3 => ?_) (fun q s h1 h2 h3 => ?_)
    · rcases Nat.eq_or_lt_of_le h1 with h | h
      · subst h; exact hpf s h3
      · exact hfb q s h h2 h3
    · rcases Nat.eq_or_lt_of_le h1 with h | h
      · subst h; exact hpd s h3
      · exact hdp q s h h2 h3
  | succ s ih =>
    intro sn snn o4 o5 ph hP g9 hPe hTe hsh hfb hdp hpf hpd hsn hss
    refine gt_load (v := .int sn) (n := 1) (ykc_276 (e := (2, .iload_n kF3, 0)) rfl) rfl rfl ?_
    refine gt_load (v := .int al) (n := 1) (ykc_276 (e := (2, .iload_n kF1, 0)) rfl) rfl rfl ?_
    refine gt_igt_f (ykc_276 (e := (4, .if_icmp .gt 57, 171)) rfl) (by omega) rfl ?_
    refine gt_push (v := .int (1000000 : Int32)) (n := 3) (ykc_276 (e := (1, .ldc_w 432, 0)) rfl) rfl rfl ?_
    refine gt_store (L' := [some (.ref 170), some (.int al), some (.int p), some (.int sn), some (.int (1000000 : Int32)), o5]) (st' := []) (n := 2) (ykc_276 (e := (3, .istore 4, 0)) rfl) rfl rfl ?_
    refine gt_alu (st' := [.int (Int32.ofInt 0)]) (ykc_276 (e := (0, .iconst 0, 0)) rfl) rfl rfl ?_
    refine gt_store (L' := [some (.ref 170), some (.int al), some (.int p), some (.int sn), some (.int (1000000 : Int32)), some (.int (Int32.ofInt 0))]) (st' := []) (n := 2) (ykc_276 (e := (3, .istore 5, 0)) rfl) rfl rfl ?_
    have hor : ∀ v, v < 8 → snn ||| (xgi ph 190 (8 * pn + v)).toNat ≤ 2 ^ tn - 1 := fun v hv => by
      have h := hsh (8 * pn + v) (by omega)
      exact xor_ones (by omega) (by omega)
    have zN : (1000000 : Int32).toInt = 1000000 := by decide
    refine xtur_l (m := m) hP hpn hsn (by omega) (by omega) (fun v hv => by have := hor v hv; omega) (fun v hv => hfb (pn + 1) _ (Nat.le_refl _) (by omega) (by have := hor v hv; omega)) ?_ 8 _ _ 0 (by rw [zN]; decide) (by rw [zN]; decide) (Or.inl zN) (by decide) (by omega)
    intro le2 v2 l0 l1 l2
    refine gt_load (v := .ref 170) (n := 1) (ykc_276 (e := (2, .aload_n kF0, 0)) rfl) rfl rfl ?_
    refine gt_gfr (A := 191) (ykc_276 (e := (5, .getfield 92, 0)) rfl) rfl hP rfl rfl rfl ?_
    refine gt_load (v := .int p) (n := 1) (ykc_276 (e := (2, .iload_n kF2, 0)) rfl) rfl rfl ?_
    refine gt_load (v := .int sn) (n := 1) (ykc_276 (e := (2, .iload_n kF3, 0)) rfl) rfl rfl ?_
    refine gt_cs (n := 2) (as := [.int p, .int sn]) (r := [.ref 191]) (ykc_276 (e := (6, .invokestatic 437, 0)) rfl) rfl rfl rfl rfl (xplace (D := D' + 1) hpn hsn (by omega) (by omega)) rfl (fun vv ph1 hv => ?_)
    obtain ⟨pl, e9, e8, pl_s⟩ := hv; subst e9; have e7 := e8.symm; subst e7
    change xGT kK (D' + 1 + 1) 276 Q (162, [some (.ref 170), some (.int al), some (.int p), some (.int sn), some (.int le2), some (.int v2)], [.int pl, .ref 191], ph, 0, 0)
    refine gt_load (v := .int le2) (n := 2) (ykc_276 (e := (2, .iload 4, 0)) rfl) rfl rfl ?_
    refine gt_ias (A := 191) (y := le2) (x := pl) (ykc_276 (e := (5, .iastore, 0)) rfl) hP rfl rfl (by omega) (by omega) xany rfl (fun ph2 hP2 u2 => ?_)
    have f2_5 : xget ph2 170 5 = some (.int P) := (u2.2.1 170 5 (fun q => absurd q.1 (by decide))).trans hPe
    have f2_6 : xget ph2 170 6 = some (.int T) := (u2.2.1 170 6 (fun q => absurd q.1 (by decide))).trans hTe
    obtain ⟨s1, e_s1, h_s1⟩ : ∃ zq : Int32, sn + Int32.ofInt 1 = zq ∧ zq.toInt = sn.toInt + 1 := ⟨_, rfl, by rw [ti_add (by rw [xi1]; omega) (by rw [xi1]; omega), xi1]⟩
    refine gt_store (L' := [some (.ref 170), some (.int al), some (.int p), some (.int s1), some (.int le2), some (.int v2)]) (st' := []) (n := 3) (ykc_276 (e := (3, .iinc 3 1, 0)) rfl) (by rw [← e_s1]; rfl) rfl ?_
    refine gt_br (pc' := 112) (st' := []) (ykc_276 (e := (4, .goto (-56), 112)) rfl) rfl ?_
    have hkeep : ∀ i, i ≠ pl.toInt.toNat → xgi ph2 191 i = xgi ph 191 i := fun i hi => xgi_eq (u2.2.1 191 i (fun q => hi q.2))
    have hkS : ∀ i, xgi ph2 190 i = xgi ph 190 i := fun i => xgi_eq (u2.2.1 190 i (fun q => absurd q.1 (by decide)))
    have hkN : ∀ i, xgi ph2 174 i = xgi ph 174 i := fun i => xgi_eq (u2.2.1 174 i (fun q => absurd q.1 (by decide)))
    have hFWs : ∀ q s v, pn ≤ q → q < pN → s < 2 ^ tn → v < 8 → xFW ph2 q s v = xFW ph q s v := fun q s v h1 h2 h3 h4 => by
      unfold xFW
      rw [hkS, hkN, hkeep]
      intro e
      have h := hsh (8 * q + v) (by omega)
      have := xor_ones (t := tn) (a := s) (b := (xgi ph 190 (8 * q + v)).toNat) (by omega) (by omega)
      omega
    refine ih s1 (snn + 1) _ _ _ hP2 (xu1_E hE u2 rfl rfl rfl g9) ((u2.2.1 170 5 (fun q => absurd q.1 (by decide))).trans hPe) ((u2.2.1 170 6 (fun q => absurd q.1 (by decide))).trans hTe) (fun i hi => by rw [hkS]; exact hsh i hi) (fun q s h1 h2 h3 => by rw [hkeep _ (by omega)]; exact hfb q s h1 h2 h3) (fun q s h1 h2 h3 => ?_) (fun s h1 => ?_) (fun s h1 => ?_) (by omega) (by omega)
    · rw [hkeep _ (by omega)]
      rcases hdp q s h1 h2 h3 with h | ⟨v, hv, h⟩
      · exact Or.inl h
      · exact Or.inr ⟨v, hv, by rw [hFWs q s v (by omega) h2 h3 hv]; exact h⟩
    · by_cases es : s = snn
      · subst es
        have e : 256 * pn + s = pl.toInt.toNat := by omega
        rw [e, xgi_of u2.1]
        exact ⟨l0, l1⟩
      · rw [hkeep _ (by omega)]
        exact hpf s (by omega)
    · by_cases es : s = snn
      · subst es
        have e : 256 * pn + s = pl.toInt.toNat := by omega
        rw [e, xgi_of u2.1]
        rcases l2 with h | ⟨v, hv, h⟩
        · exact Or.inl h
        · exact Or.inr ⟨v, hv, by rw [hFWs pn s v (Nat.le_refl _) hpP (by omega) hv]; exact h⟩
      · rw [hkeep _ (by omega)]
        rcases hpd s (by omega) with h | ⟨v, hv, h⟩
        · exact Or.inl h
        · exact Or.inr ⟨v, hv, by rw [hFWs pn s v (Nat.le_refl _) hpP (by omega) hv]; exact h⟩

set_option maxRecDepth 6000 in
theorem xtur_d {E : pm_H → Prop} (hE : xHE xX xgA_G96 xgF_G96 E) {m : Int} (hm : m ≤ 2147483646) (h0m : (0 : Int) ≤ m) {D' pN tn : Nat} {P T : Int32} {Q : Option Value → pm_H → Prop} (hPn : P.toInt = (pN : Int)) (hp8 : pN ≤ 8) (ht : T.toInt = (tn : Int)) (ht8 : tn ≤ 8) {al : Int32} (hal : al.toInt = ((2 ^ tn - 1 : Nat) : Int)) (kk : ∀ (p : Int32) (o3 o4 o5 : Option Value) (ph : pm_H), xH xX kK m 0 ph → E ph → xget ph 170 5 = some (.int P) → xget ph 170 6 = some (.int T) → (∀ i, i < 8 * pN → 0 ≤ xgi ph 190 i ∧ xgi ph 190 i ≤ ((2 ^ tn - 1 : Nat) : Int)) → (∀ p s, 0 ≤ p → p ≤ pN → s < 2 ^ tn → 0 ≤ xgi ph 191 (256 * p + s) ∧ xgi ph 191 (256 * p + s) ≤ 1000000) → (∀ p s, 0 ≤ p → p < pN → s < 2 ^ tn → (xgi ph 191 (256 * p + s) = 1000000 ∨ ∃ v, v < 8 ∧ xFW ph p s v = xgi ph 191 (256 * p + s))) → xGT kK (D' + 1 + 1) 276 Q (177, [some (.ref 170), some (.int al), some (.int p), o3, o4, o5], [], ph, 0, 0)) : ∀ (pn : Nat) (p : Int32) (o3 o4 o5 : Option Value) (ph : pm_H), xH xX kK m 0 ph → E ph → xget ph 170 5 = some (.int P) → xget ph 170 6 = some (.int T) → (∀ i, i < 8 * pN → 0 ≤ xgi ph 190 i ∧ xgi ph 190 i ≤ ((2 ^ tn - 1 : Nat) : Int)) → (∀ p s, pn ≤ p → p ≤ pN → s < 2 ^ tn → 0 ≤ xgi ph 191 (256 * p + s) ∧ xgi ph 191 (256 * p + s) ≤ 1000000) → (∀ p s, pn ≤ p → p < pN → s < 2 ^ tn → (xgi ph 191 (256 * p + s) = 1000000 ∨ ∃ v, v < 8 ∧ xFW ph p s v = xgi ph 191 (256 * p + s))) → p.toInt = (pn : Int) - 1 → pn ≤ pN → xGT kK (D' + 1 + 1) 276 Q (106, [some (.ref 170), some (.int al), some (.int p), o3, o4, o5], [], ph, 0, 0) := by
  intro pn
  induction pn with
  | zero =>
    intro p o3 o4 o5 ph hP g9 hPe hTe hsh hfb hdp hpn hpl
    refine gt_load (v := .int p) (n := 1) (ykc_276 (e := (2, .iload_n kF2, 0)) rfl) rfl rfl ?_
    refine gt_zlt_t (ykc_276 (e := (4, .ifCond .lt 70, 177)) rfl) (by omega) ?_
    exact kk p _ _ _ ph hP g9 hPe hTe hsh hfb hdp
  | succ pn ih =>
    intro p o3 o4 o5 ph hP g9 hPe hTe hsh hfb hdp hpn hpl
    refine gt_load (v := .int p) (n := 1) (ykc_276 (e := (2, .iload_n kF2, 0)) rfl) rfl rfl ?_
    refine gt_zlt_f (ykc_276 (e := (4, .ifCond .lt 70, 177)) rfl) (by omega) rfl ?_
    refine gt_alu (st' := [.int (Int32.ofInt 0)]) (ykc_276 (e := (0, .iconst 0, 0)) rfl) rfl rfl ?_
    refine gt_store (L' := [some (.ref 170), some (.int al), some (.int p), some (.int (Int32.ofInt 0)), o4, o5]) (st' := []) (n := 1) (ykc_276 (e := (3, .istore_n kF3, 0)) rfl) rfl rfl ?_
    refine xtur_s hE hm h0m hPn hp8 ht ht8 hal (p := p) (pn := pn) (by omega) (by omega) ?_ (2 ^ tn) _ 0 _ _ ph hP g9 hPe hTe hsh hfb hdp (fun s h => absurd h (Nat.not_lt_zero _)) (fun s h => absurd h (Nat.not_lt_zero _)) (by decide) (by omega)
    intro p1 sn2 o42 o52 ph2 e1 hP2 g92 hPe2 hTe2 hsh2 hfb2 hdp2
    exact ih p1 _ _ _ ph2 hP2 g92 hPe2 hTe2 hsh2 hfb2 hdp2 (by omega) (by omega)

set_option maxRecDepth 6000 in
theorem xtur_w {m : Int} {D' pn snn : Nat} {Q : Option Value → pm_H → Prop} {al its p sn y : Int32} {ph : pm_H} (hP : xH xX kK m 0 ph) (hpn : p.toInt = (pn : Int)) (hsn : sn.toInt = (snn : Int)) (hp8 : pn < 8) (hA : snn ≤ 255) (hsx : ∀ v, v < 8 → snn ||| (xgi ph 190 (8 * pn + v)).toNat ≤ 255) (hfb : ∀ v, v < 8 → 0 ≤ xgi ph 191 (256 * (pn + 1) + (snn ||| (xgi ph 190 (8 * pn + v)).toNat)) ∧ xgi ph 191 (256 * (pn + 1) + (snn ||| (xgi ph 190 (8 * pn + v)).toNat)) ≤ 1000000) (hy2 : xget ph 191 (256 * pn + snn) = some (.int y)) {v9 : Nat} (hv8 : v9 < 8) (hv9 : xFW ph pn snn v9 = y.toInt) (kk : ∀ (v : Int32) (vn : Nat), v.toInt = (vn : Int) → vn < 8 → xFW ph pn snn vn = y.toInt → xGT kK (D' + 1 + 1) 276 Q (249, [some (.ref 170), some (.int al), some (.int its), some (.int sn), some (.int p), some (.int v)], [], ph, 0, 0)) : ∀ (s : Nat) (v : Int32) (vn : Nat), v.toInt = (vn : Int) → vn + s = v9 → xGT kK (D' + 1 + 1) 276 Q (220, [some (.ref 170), some (.int al), some (.int its), some (.int sn), some (.int p), some (.int v)], [], ph, 0, 0) := by
  have hAF : ∃ l, pm_at ph 191 = some (.inl (0, .inl l)) := by
    obtain ⟨l, h, -⟩ := xA_at (A := 191) hP rfl rfl
    exact ⟨l, h⟩
  intro s
  induction s with
  | zero =>
    intro v vn hvn hvs
    have ev : vn = v9 := by omega
    subst ev
    refine gt_load (v := .ref 170) (n := 1) (ykc_276 (e := (2, .aload_n kF0, 0)) rfl) rfl rfl ?_
    refine gt_load (v := .int p) (n := 2) (ykc_276 (e := (2, .iload 4, 0)) rfl) rfl rfl ?_
    refine gt_load (v := .int sn) (n := 1) (ykc_276 (e := (2, .iload_n kF3, 0)) rfl) rfl rfl ?_
    refine gt_load (v := .int v) (n := 2) (ykc_276 (e := (2, .iload 5, 0)) rfl) rfl rfl ?_
    refine gt_cv (n := 3) (as := [.ref 170, .int p, .int sn, .int v]) (r := []) (ykc_276 (e := (6, .invokevirtual 443, 0)) rfl) rfl hP rfl rfl rfl (xfewWith (D := D') hP hpn hsn hvn (by omega) hA (by omega) (Nat.le_refl _) (hsx vn (by omega)) (hfb vn (by omega))) rfl (fun vv ph1 hv => ?_)
    obtain ⟨z, e9, e8, z_s⟩ := hv; subst e9; have e7 := e8.symm; subst e7
    change xGT kK (D' + 1 + 1) 276 Q (229, [some (.ref 170), some (.int al), some (.int its), some (.int sn), some (.int p), some (.int v)], [.int z], ph, 0, 0)
    refine gt_load (v := .ref 170) (n := 1) (ykc_276 (e := (2, .aload_n kF0, 0)) rfl) rfl rfl ?_
    refine gt_gfr (A := 191) (ykc_276 (e := (5, .getfield 92, 0)) rfl) rfl hP rfl rfl rfl ?_
    refine gt_load (v := .int p) (n := 2) (ykc_276 (e := (2, .iload 4, 0)) rfl) rfl rfl ?_
    refine gt_load (v := .int sn) (n := 1) (ykc_276 (e := (2, .iload_n kF3, 0)) rfl) rfl rfl ?_
    refine gt_cs (n := 2) (as := [.int p, .int sn]) (r := [.ref 191, .int z]) (ykc_276 (e := (6, .invokestatic 437, 0)) rfl) rfl rfl rfl rfl (xplace (D := D' + 1) hpn hsn (by omega) (by omega)) rfl (fun vv ph2 hv => ?_)
    obtain ⟨pl, e9, e8, pl_s⟩ := hv; subst e9; have e7 := e8.symm; subst e7
    change xGT kK (D' + 1 + 1) 276 Q (239, [some (.ref 170), some (.int al), some (.int its), some (.int sn), some (.int p), some (.int v)], [.int pl, .ref 191, .int z], ph, 0, 0)
    refine gt_ialk (y := y) (ykc_276 (e := (5, .iaload, 0)) rfl) hy2 hAF (by omega) rfl ?_
    have hzy : z.toInt = y.toInt := by omega
    refine gt_ieq_t (ykc_276 (e := (4, .if_icmp .eq 9, 249)) rfl) hzy ?_
    exact kk v vn hvn hv8 hv9
  | succ s ih =>
    intro v vn hvn hvs
    refine gt_load (v := .ref 170) (n := 1) (ykc_276 (e := (2, .aload_n kF0, 0)) rfl) rfl rfl ?_
    refine gt_load (v := .int p) (n := 2) (ykc_276 (e := (2, .iload 4, 0)) rfl) rfl rfl ?_
    refine gt_load (v := .int sn) (n := 1) (ykc_276 (e := (2, .iload_n kF3, 0)) rfl) rfl rfl ?_
    refine gt_load (v := .int v) (n := 2) (ykc_276 (e := (2, .iload 5, 0)) rfl) rfl rfl ?_
    refine gt_cv (n := 3) (as := [.ref 170, .int p, .int sn, .int v]) (r := []) (ykc_276 (e := (6, .invokevirtual 443, 0)) rfl) rfl hP rfl rfl rfl (xfewWith (D := D') hP hpn hsn hvn (by omega) hA (by omega) (Nat.le_refl _) (hsx vn (by omega)) (hfb vn (by omega))) rfl (fun vv ph1 hv => ?_)
    obtain ⟨z, e9, e8, z_s⟩ := hv; subst e9; have e7 := e8.symm; subst e7
    change xGT kK (D' + 1 + 1) 276 Q (229, [some (.ref 170), some (.int al), some (.int its), some (.int sn), some (.int p), some (.int v)], [.int z], ph, 0, 0)
    refine gt_load (v := .ref 170) (n := 1) (ykc_276 (e := (2, .aload_n kF0, 0)) rfl) rfl rfl ?_
    refine gt_gfr (A := 191) (ykc_276 (e := (5, .getfield 92, 0)) rfl) rfl hP rfl rfl rfl ?_
    refine gt_load (v := .int p) (n := 2) (ykc_276 (e := (2, .iload 4, 0)) rfl) rfl rfl ?_
    refine gt_load (v := .int sn) (n := 1) (ykc_276 (e := (2, .iload_n kF3, 0)) rfl) rfl rfl ?_
    refine gt_cs (n := 2) (as := [.int p, .int sn]) (r := [.ref 191, .int z]) (ykc_276 (e := (6, .invokestatic 437, 0)) rfl) rfl rfl rfl rfl (xplace (D := D' + 1) hpn hsn (by omega) (by omega)) rfl (fun vv ph2 hv => ?_)
    obtain ⟨pl, e9, e8, pl_s⟩ := hv; subst e9; have e7 := e8.symm; subst e7
    change xGT kK (D' + 1 + 1) 276 Q (239, [some (.ref 170), some (.int al), some (.int its), some (.int sn), some (.int p), some (.int v)], [.int pl, .ref 191, .int z], ph, 0, 0)
    refine gt_ialk (y := y) (ykc_276 (e := (5, .iaload, 0)) rfl) hy2 hAF (by omega) rfl ?_
    by_cases hzy : z.toInt = y.toInt
    · refine gt_ieq_t (ykc_276 (e := (4, .if_icmp .eq 9, 249)) rfl) hzy ?_
      exact kk v vn hvn (by omega) (by omega)
    · refine gt_ieq_f (ykc_276 (e := (4, .if_icmp .eq 9, 249)) rfl) hzy rfl ?_
      obtain ⟨v1, e_v1, h_v1⟩ : ∃ zq : Int32, v + Int32.ofInt 1 = zq ∧ zq.toInt = v.toInt + 1 := ⟨_, rfl, by rw [ti_add (by rw [xi1]; omega) (by rw [xi1]; omega), xi1]⟩
      refine gt_store (L' := [some (.ref 170), some (.int al), some (.int its), some (.int sn), some (.int p), some (.int v1)]) (st' := []) (n := 3) (ykc_276 (e := (3, .iinc 5 1, 0)) rfl) (by rw [← e_v1]; rfl) rfl ?_
      refine gt_br (pc' := 220) (st' := []) (ykc_276 (e := (4, .goto (-26), 220)) rfl) rfl ?_
      exact ih v1 (vn + 1) (by omega) (by omega)

set_option maxRecDepth 6000 in
theorem xtur_t {E : pm_H → Prop} (hE : xHE xX xgA_G96 xgF_G96 E) {m : Int} (hm : m ≤ 2147483646) (h0m : (0 : Int) ≤ m) {D' pN tn : Nat} {P T : Int32} {Q : Option Value → pm_H → Prop} (hPn : P.toInt = (pN : Int)) (hp8 : pN ≤ 8) (ht : T.toInt = (tn : Int)) (ht8 : tn ≤ 8) {al its : Int32} (hQ : ∀ ph' : pm_H, xH xX kK m 0 ph' → E ph' → Q (some (.int its)) ph') : ∀ (s : Nat) (sn p t : Int32) (snn pn : Nat) (o5 : Option Value) (ph : pm_H), xH xX kK m 0 ph → E ph → xget ph 170 5 = some (.int P) → xget ph 170 6 = some (.int T) → (∀ i, i < 8 * pN → 0 ≤ xgi ph 190 i ∧ xgi ph 190 i ≤ ((2 ^ tn - 1 : Nat) : Int)) → (∀ p s, 0 ≤ p → p ≤ pN → s < 2 ^ tn → 0 ≤ xgi ph 191 (256 * p + s) ∧ xgi ph 191 (256 * p + s) ≤ 1000000) → (∀ p s, 0 ≤ p → p < pN → s < 2 ^ tn → (xgi ph 191 (256 * p + s) = 1000000 ∨ ∃ v, v < 8 ∧ xFW ph p s v = xgi ph 191 (256 * p + s))) → sn.toInt = (snn : Int) → snn < 2 ^ tn → p.toInt = (pn : Int) → pn + s = pN → xget ph 170 1 = some (.int t) → t.toInt = (pn : Int) → (pn < pN → xgi ph 191 (256 * pn + snn) < 1000000) → xGT kK (D' + 1 + 1) 276 Q (208, [some (.ref 170), some (.int al), some (.int its), some (.int sn), some (.int p), o5], [], ph, 0, 0) := by
  have hpw := xpow9 ht8
  intro s
  induction s with
  | zero =>
    intro sn p t snn pn o5 ph hP g9 hPe hTe hsh hfb hdp hsn hs9 hpn hps htl ht9 hlt
    refine gt_load (v := .int p) (n := 2) (ykc_276 (e := (2, .iload 4, 0)) rfl) rfl rfl ?_
    refine gt_load (v := .ref 170) (n := 1) (ykc_276 (e := (2, .aload_n kF0, 0)) rfl) rfl rfl ?_
    refine gt_gfk (v := .int P) (ykc_276 (e := (5, .getfield 130, 0)) rfl) rfl hP hPe rfl ?_
    refine gt_ige_t (ykc_276 (e := (4, .if_icmp .ge 64, 278)) rfl) (by omega) ?_
    refine gt_load (v := .int its) (n := 1) (ykc_276 (e := (2, .iload_n kF2, 0)) rfl) rfl rfl ?_
    refine gt_ret (ykc_276 (e := (7, .ireturn, 0)) rfl) rfl ?_
    exact hQ _ hP g9
  | succ s ih =>
    intro sn p t snn pn o5 ph hP g9 hPe hTe hsh hfb hdp hsn hs9 hpn hps htl ht9 hlt
    refine gt_load (v := .int p) (n := 2) (ykc_276 (e := (2, .iload 4, 0)) rfl) rfl rfl ?_
    refine gt_load (v := .ref 170) (n := 1) (ykc_276 (e := (2, .aload_n kF0, 0)) rfl) rfl rfl ?_
    refine gt_gfk (v := .int P) (ykc_276 (e := (5, .getfield 130, 0)) rfl) rfl hP hPe rfl ?_
    refine gt_ige_f (ykc_276 (e := (4, .if_icmp .ge 64, 278)) rfl) (by omega) rfl ?_
    refine gt_alu (st' := [.int (Int32.ofInt 0)]) (ykc_276 (e := (0, .iconst 0, 0)) rfl) rfl rfl ?_
    refine gt_store (L' := [some (.ref 170), some (.int al), some (.int its), some (.int sn), some (.int p), some (.int (Int32.ofInt 0))]) (st' := []) (n := 2) (ykc_276 (e := (3, .istore 5, 0)) rfl) rfl rfl ?_
    have hor : ∀ v, v < 8 → snn ||| (xgi ph 190 (8 * pn + v)).toNat ≤ 2 ^ tn - 1 := fun v hv => by
      have h := hsh (8 * pn + v) (by omega)
      exact xor_ones (by omega) (by omega)
    obtain ⟨y, hy, -⟩ := xA_el (A := 191) (k := 256 * pn + snn) hP rfl rfl (by omega)
    have hyi := xgi_of hy
    have hl9 := hlt (by omega)
    rcases hdp pn snn (Nat.zero_le _) (by omega) hs9 with h | ⟨v9, hv8, hv9⟩
    · omega
    refine xtur_w (m := m) hP hpn hsn (by omega) (by omega) (fun v hv => by have := hor v hv; omega) (fun v hv => hfb (pn + 1) _ (Nat.zero_le _) (by omega) (by have := hor v hv; omega)) hy hv8 (by rw [hv9, hyi]) ?_ v9 _ 0 (by decide) (by omega)
    intro v vn hvn hv8 hfw
    have hAS : ∃ l, pm_at ph 190 = some (.inl (0, .inl l)) := by
      obtain ⟨l, h, -⟩ := xA_at (A := 190) hP rfl rfl
      exact ⟨l, h⟩
    obtain ⟨x, hx, -⟩ := xA_el (A := 190) (k := 8 * pn + vn) hP rfl rfl (by omega)
    have hxi := xgi_of hx
    have hsx := hsh (8 * pn + vn) (by omega)
    obtain ⟨xn, hxn⟩ : ∃ n : Nat, x.toInt = (n : Int) := ⟨x.toInt.toNat, by omega⟩
    have ho9 := hor vn hv8
    have exn : (xgi ph 190 (8 * pn + vn)).toNat = xn := by omega
    rw [exn] at ho9
    refine gt_load (v := .int sn) (n := 1) (ykc_276 (e := (2, .iload_n kF3, 0)) rfl) rfl rfl ?_
    refine gt_load (v := .ref 170) (n := 1) (ykc_276 (e := (2, .aload_n kF0, 0)) rfl) rfl rfl ?_
    refine gt_gfr (A := 190) (ykc_276 (e := (5, .getfield 89, 0)) rfl) rfl hP rfl rfl rfl ?_
    refine gt_push (v := .int ((Int8.ofInt 8).toInt32)) (n := 2) (ykc_276 (e := (1, .bipush 8, 0)) rfl) rfl rfl ?_
    refine gt_load (v := .int p) (n := 2) (ykc_276 (e := (2, .iload 4, 0)) rfl) rfl rfl ?_
    obtain ⟨m8, e_m8, h_m8⟩ : ∃ zq : Int32, ((Int8.ofInt 8).toInt32) * p = zq ∧ zq.toInt = 8 * p.toInt := ⟨_, rfl, by rw [ti_mul (by rw [xc8]; omega) (by rw [xc8]; omega), xc8]⟩
    refine gt_alu (st' := [.int m8, .ref 190, .int sn]) (ykc_276 (e := (0, .imul, 0)) rfl) (by rw [← e_m8]; exact rfl) rfl ?_
    refine gt_load (v := .int v) (n := 2) (ykc_276 (e := (2, .iload 5, 0)) rfl) rfl rfl ?_
    obtain ⟨ix, e_ix, h_ix⟩ : ∃ zq : Int32, m8 + v = zq ∧ zq.toInt = ((8 * pn + vn : Nat) : Int) := ⟨_, rfl, by rw [ti_add (by rw [h_m8]; omega) (by rw [h_m8]; omega), h_m8]; omega⟩
    refine gt_alu (st' := [.int ix, .ref 190, .int sn]) (ykc_276 (e := (0, .iadd, 0)) rfl) (by rw [← e_ix]; exact rfl) rfl ?_
    refine gt_ialk (y := x) (ykc_276 (e := (5, .iaload, 0)) rfl) hx hAS (by omega) rfl ?_
    obtain ⟨s2, e_s2, h_s2⟩ : ∃ zq : Int32, sn ||| x = zq ∧ zq.toInt = ((snn ||| xn : Nat) : Int) := ⟨_, rfl, ti_or hsn hxn⟩
    refine gt_alu (st' := [.int s2]) (ykc_276 (e := (0, .ior, 0)) rfl) (by rw [← e_s2]; exact rfl) rfl ?_
    refine gt_store (L' := [some (.ref 170), some (.int al), some (.int its), some (.int s2), some (.int p), some (.int v)]) (st' := []) (n := 1) (ykc_276 (e := (3, .istore_n kF3, 0)) rfl) rfl rfl ?_
    refine gt_load (v := .ref 170) (n := 1) (ykc_276 (e := (2, .aload_n kF0, 0)) rfl) rfl rfl ?_
    refine gt_load (v := .int v) (n := 2) (ykc_276 (e := (2, .iload 5, 0)) rfl) rfl rfl ?_
    refine gt_alu (st' := [.long v.toInt64, .ref 170]) (ykc_276 (e := (0, .i2l, 0)) rfl) rfl rfl ?_
    refine gt_cv (n := 1) (as := [.ref 170, .long v.toInt64]) (r := []) (ykc_276 (e := (6, .invokevirtual 373, 0)) rfl) rfl hP rfl rfl rfl (xenters (D := D' + 1) hP htl (by omega) (by omega)) rfl (fun vv ph1 hv => ?_)
    obtain ⟨t1, e9, h_t1, hP1, u1⟩ := hv; subst e9
    change xGT kK (D' + 1 + 1) 276 Q (272, [some (.ref 170), some (.int al), some (.int its), some (.int s2), some (.int p), some (.int v)], [], ph1, 0, 0)
    obtain ⟨p1, e_p1, h_p1⟩ : ∃ zq : Int32, p + Int32.ofInt 1 = zq ∧ zq.toInt = p.toInt + 1 := ⟨_, rfl, by rw [ti_add (by rw [xi1]; omega) (by rw [xi1]; omega), xi1]⟩
    refine gt_store (L' := [some (.ref 170), some (.int al), some (.int its), some (.int s2), some (.int p1), some (.int v)]) (st' := []) (n := 3) (ykc_276 (e := (3, .iinc 4 1, 0)) rfl) (by rw [← e_p1]; rfl) rfl ?_
    refine gt_br (pc' := 208) (st' := []) (ykc_276 (e := (4, .goto (-67), 208)) rfl) rfl ?_
    have hk : ∀ a i, a ≠ 170 → xgi ph1 a i = xgi ph a i := fun a i h => xgi_eq (u1.2.1 a i (fun q => h q.1))
    have hFWs : ∀ q s v, xFW ph1 q s v = xFW ph q s v := fun q s v => by
      unfold xFW
      rw [hk _ _ (by decide), hk _ _ (by decide), hk _ _ (by decide)]
    refine ih s2 p1 t1 (snn ||| xn) (pn + 1) _ ph1 hP1 (xent1_E hE u1 rfl rfl rfl g9) ((u1.2.1 170 5 (by decide)).trans hPe) ((u1.2.1 170 6 (by decide)).trans hTe) (fun i hi => by rw [hk _ _ (by decide)]; exact hsh i hi) (fun q s h1 h2 h3 => by rw [hk _ _ (by decide)]; exact hfb q s h1 h2 h3) (fun q s h1 h2 h3 => ?_) h_s2 (by omega) (by omega) (by omega) u1.1 (by omega) (fun h9 => ?_)
    · rw [hk _ _ (by decide)]
      rcases hdp q s h1 h2 h3 with h | ⟨v, hv, h⟩
      · exact Or.inl h
      · exact Or.inr ⟨v, hv, by rw [hFWs]; exact h⟩
    · rw [hk _ _ (by decide)]
      unfold xFW at hfw
      rw [exn] at hfw
      by_cases q : (vn : Int) = xgi ph 174 (8 + pn)
      · rw [if_pos q] at hfw; omega
      · rw [if_neg q] at hfw; omega

set_option maxRecDepth 6000 in
theorem xNEVt : (1000000 : Int32).toInt = 1000000 := by decide
set_option maxRecDepth 6000 in
theorem xturned {E : pm_H → Prop} (hE : xHE xX xgA_G96 xgF_G96 E) (hV : ∀ p, E p → xV p) (hN : ∀ p, E p → xPG p) : xcon xX kK E 30 276 [.inr (.inr (.inl 0))] [] 0 (some (.inl ((Int.negSucc 2147483647), (Int.ofNat 2147483647)))) [] := by
  intro D hD m hm h0m vs ph hv hf hP g9
  obtain ⟨D', rfl⟩ : ∃ D', D = D' + 1 + 1 + 1 := ⟨D - 3, by omega⟩
  have h0m : (0 : Int) ≤ m := h0m
  match vs, hv with
  | [v1], ⟨q1, _⟩ =>
  have e1 := xaO hP (A := 170) rfl q1
  subst e1
  suffices hs : ∃ v ph', pm_Rd kK false (D' + 1 + 1 + 1) 276 [.ref 170] ph (v, ph', 0, 0) ∧ (∃ z : Int32, v = some (.int z) ∧ xH xX kK m 0 ph' ∧ E ph') by
    obtain ⟨v, ph', k1, z, e, hP1, g91⟩ := hs
    exact ⟨v, ph', k1, hP1, g91, ⟨_, e, xaT⟩, xF0⟩
  obtain ⟨P, hPe, p0, p1⟩ := xM_fi (k := 5) hP rfl
  obtain ⟨T, hTe, u0, u1⟩ := xM_fi (k := 6) hP rfl
  have p0 : 0 ≤ P.toInt := p0
  have p1 : P.toInt ≤ 8 := p1
  have u0 : 0 ≤ T.toInt := u0
  have u1 : T.toInt ≤ 8 := u1
  obtain ⟨pN, hPn⟩ : ∃ n : Nat, P.toInt = (n : Int) := ⟨P.toInt.toNat, by omega⟩
  obtain ⟨tn, ht⟩ : ∃ n : Nat, T.toInt = (n : Int) := ⟨T.toInt.toNat, by omega⟩
  have hp8 : pN ≤ 8 := by omega
  have ht8 : tn ≤ 8 := by omega
  have hpw := xpow9 ht8
  refine xRd_mk (nl := 6) rfl rfl ?_
  show xGT kK (D' + 1 + 1) 276 _ (0, [some (.ref 170), none, none, none, none, none], [], ph, 0, 0)
  refine gt_load (v := .ref 170) (n := 1) (ykc_276 (e := (2, .aload_n kF0, 0)) rfl) rfl rfl ?_
  refine gt_alu (st' := [.int (Int32.ofInt 0), .ref 170]) (ykc_276 (e := (0, .iconst 0, 0)) rfl) rfl rfl ?_
  refine gt_pf (y := Int32.ofInt 0) (ykc_276 (e := (5, .putfield 3, 0)) rfl) rfl hP rfl rfl (by decide) (by decide) rfl (fun ph1 hP1 w1 => ?_)
  have f1_5 : xget ph1 170 5 = some (.int P) := (w1.2.1 170 5 (by decide)).trans hPe
  have f1_6 : xget ph1 170 6 = some (.int T) := (w1.2.1 170 6 (by decide)).trans hTe
  refine gt_alu (st' := [.int (Int32.ofInt 0)]) (ykc_276 (e := (0, .iconst 0, 0)) rfl) rfl rfl ?_
  refine gt_store (L' := [some (.ref 170), some (.int (Int32.ofInt 0)), none, none, none, none]) (st' := []) (n := 1) (ykc_276 (e := (3, .istore_n kF1, 0)) rfl) rfl rfl ?_
  refine xtur_p hE hm h0m hPn hp8 ht ht8 hV hN (by omega) ?_ pN _ 0 _ ph1 hP1 (xu1_E hE w1 rfl rfl rfl g9) f1_5 f1_6 (fun i hi => absurd hi (by omega)) (by decide) (by omega)
  intro p2 o22 ph2 hP2 g92 hPe2 hTe2 hsh2
  refine gt_alu (st' := [.int (Int32.ofInt 1)]) (ykc_276 (e := (0, .iconst 1, 0)) rfl) rfl rfl ?_
  refine gt_load (v := .ref 170) (n := 1) (ykc_276 (e := (2, .aload_n kF0, 0)) rfl) rfl rfl ?_
  refine gt_gfk (v := .int T) (ykc_276 (e := (5, .getfield 133, 0)) rfl) rfl hP2 hTe2 rfl ?_
  obtain ⟨q1, e_q1, h_q1⟩ : ∃ zq : Int32, (Int32.ofInt 1) <<< (T &&& 31) = zq ∧ zq.toInt = ((2 ^ tn : Nat) : Int) := ⟨_, rfl, ti_shl9 ht (by omega)⟩
  refine gt_alu (st' := [.int q1]) (ykc_276 (e := (0, .ishl, 0)) rfl) (by rw [← e_q1]; exact rfl) rfl ?_
  refine gt_alu (st' := [.int (Int32.ofInt 1), .int q1]) (ykc_276 (e := (0, .iconst 1, 0)) rfl) rfl rfl ?_
  obtain ⟨al, e_al, h_al⟩ : ∃ zq : Int32, q1 - (Int32.ofInt 1) = zq ∧ zq.toInt = ((2 ^ tn - 1 : Nat) : Int) := ⟨_, rfl, by rw [ti_sub (by rw [xi1]; omega) (by rw [xi1]; omega), xi1]; omega⟩
  refine gt_alu (st' := [.int al]) (ykc_276 (e := (0, .isub, 0)) rfl) (by rw [← e_al]; exact rfl) rfl ?_
  refine gt_store (L' := [some (.ref 170), some (.int al), o22, none, none, none]) (st' := []) (n := 1) (ykc_276 (e := (3, .istore_n kF1, 0)) rfl) rfl rfl ?_
  refine gt_alu (st' := [.int (Int32.ofInt 0)]) (ykc_276 (e := (0, .iconst 0, 0)) rfl) rfl rfl ?_
  refine gt_store (L' := [some (.ref 170), some (.int al), some (.int (Int32.ofInt 0)), none, none, none]) (st' := []) (n := 1) (ykc_276 (e := (3, .istore_n kF2, 0)) rfl) rfl rfl ?_
  refine xtur_r hE hm h0m hPn hp8 ht ht8 h_al ?_ (2 ^ tn) _ 0 ph2 hP2 g92 hPe2 hTe2 hsh2 (fun s h => absurd h (Nat.not_lt_zero _)) (by decide) (by omega)
  intro sn3 ph3 hP3 g93 hPe3 hTe3 hsh3 hfr3
  refine gt_load (v := .ref 170) (n := 1) (ykc_276 (e := (2, .aload_n kF0, 0)) rfl) rfl rfl ?_
  refine gt_gfk (v := .int P) (ykc_276 (e := (5, .getfield 130, 0)) rfl) rfl hP3 hPe3 rfl ?_
  refine gt_alu (st' := [.int (Int32.ofInt 1), .int P]) (ykc_276 (e := (0, .iconst 1, 0)) rfl) rfl rfl ?_
  obtain ⟨pz, e_pz, h_pz⟩ : ∃ zq : Int32, P - (Int32.ofInt 1) = zq ∧ zq.toInt = P.toInt - 1 := ⟨_, rfl, by rw [ti_sub (by rw [xi1]; omega) (by rw [xi1]; omega), xi1]⟩
  refine gt_alu (st' := [.int pz]) (ykc_276 (e := (0, .isub, 0)) rfl) (by rw [← e_pz]; exact rfl) rfl ?_
  refine gt_store (L' := [some (.ref 170), some (.int al), some (.int pz), none, none, none]) (st' := []) (n := 1) (ykc_276 (e := (3, .istore_n kF2, 0)) rfl) rfl rfl ?_
  refine xtur_d hE hm h0m hPn hp8 ht ht8 h_al ?_ pN _ _ _ _ ph3 hP3 g93 hPe3 hTe3 hsh3 (fun q s h1 h2 h3 => ?_) (fun q s h1 h2 h3 => absurd h1 (by omega)) (by omega) (Nat.le_refl _)
  case refine_2 =>
    have eq : q = pN := by omega
    subst eq
    exact hfr3 s h3
  intro p4 o34 o44 o54 ph4 hP4 g94 hPe4 hTe4 hsh4 hfb4 hdp4
  refine gt_load (v := .ref 170) (n := 1) (ykc_276 (e := (2, .aload_n kF0, 0)) rfl) rfl rfl ?_
  refine gt_gfr (A := 191) (ykc_276 (e := (5, .getfield 92, 0)) rfl) rfl hP4 rfl rfl rfl ?_
  refine gt_alu (st' := [.int (Int32.ofInt 0), .ref 191]) (ykc_276 (e := (0, .iconst 0, 0)) rfl) rfl rfl ?_
  refine gt_alu (st' := [.int (Int32.ofInt 0), .int (Int32.ofInt 0), .ref 191]) (ykc_276 (e := (0, .iconst 0, 0)) rfl) rfl rfl ?_
  refine gt_cs (n := 2) (as := [.int (Int32.ofInt 0), .int (Int32.ofInt 0)]) (r := [.ref 191]) (ykc_276 (e := (6, .invokestatic 437, 0)) rfl) rfl rfl rfl rfl (xplace (D := D' + 1) (pn := 0) (sn := 0) (by decide) (by decide) (by decide) (by decide)) rfl (fun vv ph1 hv => ?_)
  obtain ⟨pl, e9, e8, pl_s⟩ := hv; subst e9; have e7 := e8.symm; subst e7
  change xGT kK (D' + 1 + 1) 276 _ (186, [some (.ref 170), some (.int al), some (.int p4), o34, o44, o54], [.int pl, .ref 191], ph4, 0, 0)
  refine gt_ial (A := 191) (ykc_276 (e := (5, .iaload, 0)) rfl) hP4 rfl rfl (by omega) (by omega) rfl (fun its g_its b_its => ?_)
  refine gt_store (L' := [some (.ref 170), some (.int al), some (.int its), o34, o44, o54]) (st' := []) (n := 1) (ykc_276 (e := (3, .istore_n kF2, 0)) rfl) rfl rfl ?_
  refine gt_load (v := .int its) (n := 1) (ykc_276 (e := (2, .iload_n kF2, 0)) rfl) rfl rfl ?_
  refine gt_push (v := .int (1000000 : Int32)) (n := 3) (ykc_276 (e := (1, .ldc_w 432, 0)) rfl) rfl rfl ?_
  by_cases hits : 1000000 ≤ its.toInt
  · refine gt_ilt_f (ykc_276 (e := (4, .if_icmp .lt 6, 198)) rfl) (by rw [xNEVt]; omega) rfl ?_
    refine gt_push (v := .int ((Int8.ofInt (-2)).toInt32)) (n := 2) (ykc_276 (e := (1, .bipush (-2), 0)) rfl) rfl rfl ?_
    refine gt_ret (ykc_276 (e := (7, .ireturn, 0)) rfl) rfl ?_
    exact ⟨_, rfl, hP4, g94⟩
  · refine gt_ilt_t (ykc_276 (e := (4, .if_icmp .lt 6, 198)) rfl) (by rw [xNEVt]; omega) ?_
    refine gt_load (v := .ref 170) (n := 1) (ykc_276 (e := (2, .aload_n kF0, 0)) rfl) rfl rfl ?_
    refine gt_alu (st' := [.int (Int32.ofInt 0), .ref 170]) (ykc_276 (e := (0, .iconst 0, 0)) rfl) rfl rfl ?_
    refine gt_pf (y := Int32.ofInt 0) (ykc_276 (e := (5, .putfield 15, 0)) rfl) rfl hP4 rfl rfl (by decide) (by decide) rfl (fun ph102 hP102 u102 => ?_)
    have f102_5 : xget ph102 170 5 = some (.int P) := (u102.2.1 170 5 (by decide)).trans hPe4
    have f102_6 : xget ph102 170 6 = some (.int T) := (u102.2.1 170 6 (by decide)).trans hTe4
    refine gt_alu (st' := [.int (Int32.ofInt 0)]) (ykc_276 (e := (0, .iconst 0, 0)) rfl) rfl rfl ?_
    refine gt_store (L' := [some (.ref 170), some (.int al), some (.int its), some (.int (Int32.ofInt 0)), o44, o54]) (st' := []) (n := 1) (ykc_276 (e := (3, .istore_n kF3, 0)) rfl) rfl rfl ?_
    refine gt_alu (st' := [.int (Int32.ofInt 0)]) (ykc_276 (e := (0, .iconst 0, 0)) rfl) rfl rfl ?_
    refine gt_store (L' := [some (.ref 170), some (.int al), some (.int its), some (.int (Int32.ofInt 0)), some (.int (Int32.ofInt 0)), o54]) (st' := []) (n := 2) (ykc_276 (e := (3, .istore 4, 0)) rfl) rfl rfl ?_
    have epl : pl.toInt.toNat = 0 := by omega
    have hk : ∀ a i, a ≠ 170 → xgi ph102 a i = xgi ph4 a i := fun a i h => xgi_eq (u102.2.1 a i (fun q => h q.1))
    have hFWs : ∀ q s v, xFW ph102 q s v = xFW ph4 q s v := fun q s v => by
      unfold xFW
      rw [hk _ _ (by decide), hk _ _ (by decide), hk _ _ (by decide)]
    refine xtur_t hE hm h0m hPn hp8 ht ht8 (fun ph' h1 h2 => ⟨its, rfl, h1, h2⟩) pN _ _ _ 0 0 _ ph102 hP102 (xu1_E hE u102 rfl rfl rfl g94) ((u102.2.1 170 5 (by decide)).trans hPe4) ((u102.2.1 170 6 (by decide)).trans hTe4) (fun i hi => by rw [hk _ _ (by decide)]; exact hsh4 i hi) (fun q s h1 h2 h3 => by rw [hk _ _ (by decide)]; exact hfb4 q s h1 h2 h3) (fun q s h1 h2 h3 => ?_) (by decide) (by omega) (by decide) (by omega) u102.1 (by decide) (fun h9 => ?_)
    · rw [hk _ _ (by decide)]
      rcases hdp4 q s h1 h2 h3 with h | ⟨v, hv, h⟩
      · exact Or.inl h
      · exact Or.inr ⟨v, hv, by rw [hFWs]; exact h⟩
    · rw [hk _ _ (by decide)]
      rw [epl] at g_its
      rw [show 256 * 0 + 0 = 0 from rfl, xgi_of g_its]
      omega

/-! Further blocks, summaries, contracts, printed by wip/x/xprint.py -/
/-- BVModel.turned, by hand -/
theorem xn_276_0 {E : pm_H → Prop} (hE : xHE xX xgA_G96 xgF_G96 E) (hV : ∀ p, E p → xV p) (hN : ∀ p, E p → xPG p) : xcon xX kK E 30 276 [.inr (.inr (.inl 0))] [] 0 (some (.inl ((Int.negSucc 2147483647), (Int.ofNat 2147483647)))) [] := xturned hE hV hN
noncomputable def xs_276 : xc := xalt xX [.inr (.inr (.inl 0))] (xctrG xX xkF_G96 [.inr (.inr (.inl 0))] [] 0 (some (.inl ((Int.negSucc 2147483647), (Int.ofNat 2147483647)))) []) (xnone)
theorem xso_276 {E : pm_H → Prop} (hE : xHE xX xgA_G96 xgF_G96 E) (hV : ∀ p, E p → xV p) (hN : ∀ p, E p → xPG p) : xcok xX kK E 30 276 xs_276 := xalt_ok (xctrG_ok rfl rfl rfl rfl (fun ph => xn_276_0 (E := fun p => E p ∧ xcells xX xkF_G96 ph p) (xHE_cells (kF := xkF_G96) (by decide +kernel) hE) (fun p h => hV p h.1) (fun p h => hN p h.1))) (xnone_ok)
/-! 277 BVModel.best (G94NV) -/
theorem xkc_277 {pc : Nat} {e : Nat × Instr × Nat} (h : pm_tl kc_277 pc = some e) : pm_code kK 277 pc = some e := h
noncomputable def xb_277_0 : xb := xal 0 (xpush (xci (Int.ofNat 0)) (xpf xX xgF_G94 13 0 0 (xal 0 (xil 1 (xcallV xX 13 1 xs_190 (xif1 xr_ne xr_eq 15 (xpush (xci (Int.negSucc 0)) (xri))))))))
theorem xp_277_0 {E : pm_H → Prop} (hE : xHE xX xgA_G94 xgF_G94 E) (hV : ∀ p, E p → xV p) (hN : ∀ p, E p → xPG p) : xok xX kK kK E 13 277 0 xb_277_0 := xal_ok (i := 0) 1 (xkc_277 rfl) (fo_lan kF0) (xpush0_ok (xkc_277 rfl) (fun _ => rfl) (xci_ok (by decide +kernel)) (xpf_ok xsn_G94 hE (by decide) (xkc_277 rfl) rfl rfl xz0 (xal_ok (i := 0) 1 (xkc_277 rfl) (fo_lan kF0) (xil_ok (i := 1) 1 (xkc_277 rfl) (fo_lin kF1) (xcallV_ok (xkc_277 rfl) rfl (Nat.le_of_ble_eq_true rfl) xso_190 (xif1_ok (pb := fun x => fo_ne x 0) (aux := 15) (xkc_277 rfl) xr_ne_ok xr_eq_ok fo_iz_ne xz_ne xy_ne (xpush0_ok (xkc_277 rfl) (fun _ => rfl) (xci_ok (by decide +kernel)) (xri_ok (xkc_277 rfl) rfl))))))))
noncomputable def xb_277_15 : xb := xpush (xci (Int.ofNat 0)) (xis 2 (xpush (xci (Int.ofNat 1)) (xis 3 (xj 19))))
theorem xp_277_15 {E : pm_H → Prop} (hE : xHE xX xgA_G94 xgF_G94 E) (hV : ∀ p, E p → xV p) (hN : ∀ p, E p → xPG p) : xok xX kK kK E 13 277 15 xb_277_15 := xpush0_ok (xkc_277 rfl) (fun _ => rfl) (xci_ok (by decide +kernel)) (xis_ok (i := 2) 1 (xkc_277 rfl) (fo_sin kF2) (xpush0_ok (xkc_277 rfl) (fun _ => rfl) (xci_ok (by decide +kernel)) (xis_ok (i := 3) 1 (xkc_277 rfl) (fo_sin kF3) (xj_ok))))
noncomputable def xb_277_19 : xb := xil 3 (xpush (xci (Int.ofNat 8)) (xif2 xr_ge xr_lt 58 (xal 0 (xil 1 (xil 3 (xcallV xX 13 2 xs_273 (xcallS 1 xs_303 (xal 0 (xil 1 (xil 2 (xcallV xX 13 2 xs_273 (xcallS 1 xs_303 (xif2 xr_le xr_gt 50 (xil 3 (xj 51)))))))))))))))
theorem xp_277_19 {E : pm_H → Prop} (hE : xHE xX xgA_G94 xgF_G94 E) (hV : ∀ p, E p → xV p) (hN : ∀ p, E p → xPG p) : xok xX kK kK E 13 277 19 xb_277_19 := xil_ok (i := 3) 1 (xkc_277 rfl) (fo_lin kF3) (xpush1_ok 2 (xkc_277 rfl) rfl (xci_ok (by decide +kernel)) (xif2_ok (aux := 58) (xkc_277 rfl) xr_ge_ok xr_lt_ok fo_ic_ge xb_ge (xal_ok (i := 0) 1 (xkc_277 rfl) (fo_lan kF0) (xil_ok (i := 1) 1 (xkc_277 rfl) (fo_lin kF1) (xil_ok (i := 3) 1 (xkc_277 rfl) (fo_lin kF3) (xcallV_ok (xkc_277 rfl) rfl (Nat.le_of_ble_eq_true rfl) (xso_273 (xhe_G94_G8 hE) hV hN) (xcallS_ok (xkc_277 rfl) rfl (Nat.le_of_ble_eq_true rfl) xso_303 (xal_ok (i := 0) 1 (xkc_277 rfl) (fo_lan kF0) (xil_ok (i := 1) 1 (xkc_277 rfl) (fo_lin kF1) (xil_ok (i := 2) 1 (xkc_277 rfl) (fo_lin kF2) (xcallV_ok (xkc_277 rfl) rfl (Nat.le_of_ble_eq_true rfl) (xso_273 (xhe_G94_G8 hE) hV hN) (xcallS_ok (xkc_277 rfl) rfl (Nat.le_of_ble_eq_true rfl) xso_303 (xif2_ok (aux := 50) (xkc_277 rfl) xr_le_ok xr_gt_ok fo_ic_le xb_le (xil_ok (i := 3) 1 (xkc_277 rfl) (fo_lin kF3) (xgoto_ok (xkc_277 rfl))))))))))))))))
noncomputable def xb_277_50 : xb := xil 2 (xj 51)
theorem xp_277_50 {E : pm_H → Prop} (hE : xHE xX xgA_G94 xgF_G94 E) (hV : ∀ p, E p → xV p) (hN : ∀ p, E p → xPG p) : xok xX kK kK E 13 277 50 xb_277_50 := xil_ok (i := 2) 1 (xkc_277 rfl) (fo_lin kF2) (xj_ok)
noncomputable def xb_277_51 : xb := xis 2 (xinc 3 (Int.ofNat 1) (xj 19))
theorem xp_277_51 {E : pm_H → Prop} (hE : xHE xX xgA_G94 xgF_G94 E) (hV : ∀ p, E p → xV p) (hN : ∀ p, E p → xPG p) : xok xX kK kK E 13 277 51 xb_277_51 := xis_ok (i := 2) 1 (xkc_277 rfl) (fo_sin kF2) (xinc_ok (xkc_277 rfl) (by decide +kernel) (xgoto_ok (xkc_277 rfl)))
noncomputable def xb_277_58 : xb := xal 0 (xpush (xci (Int.ofNat 0)) (xpf xX xgF_G94 13 1 0 (xal 0 (xal 0 (xil 1 (xil 2 (xcallV xX 13 2 xs_273 (xalu xa_i2l (xcallV xX 13 1 xs_186 (xil 2 (xri)))))))))))
theorem xp_277_58 {E : pm_H → Prop} (hE : xHE xX xgA_G94 xgF_G94 E) (hV : ∀ p, E p → xV p) (hN : ∀ p, E p → xPG p) : xok xX kK kK E 13 277 58 xb_277_58 := xal_ok (i := 0) 1 (xkc_277 rfl) (fo_lan kF0) (xpush0_ok (xkc_277 rfl) (fun _ => rfl) (xci_ok (by decide +kernel)) (xpf_ok xsn_G94 hE (by decide) (xkc_277 rfl) rfl rfl xz0 (xal_ok (i := 0) 1 (xkc_277 rfl) (fo_lan kF0) (xal_ok (i := 0) 1 (xkc_277 rfl) (fo_lan kF0) (xil_ok (i := 1) 1 (xkc_277 rfl) (fo_lin kF1) (xil_ok (i := 2) 1 (xkc_277 rfl) (fo_lin kF2) (xcallV_ok (xkc_277 rfl) rfl (Nat.le_of_ble_eq_true rfl) (xso_273 (xhe_G94_G8 hE) hV hN) (xalu_ok (xkc_277 rfl) xa_i2l_ok (xcallV_ok (xkc_277 rfl) rfl (Nat.le_of_ble_eq_true rfl) (xso_186 (xhe_G94_G58 hE)) (xil_ok (i := 2) 1 (xkc_277 rfl) (fo_lin kF2) (xri_ok (xkc_277 rfl) rfl)))))))))))
noncomputable def xt_277 : List (Nat × xb) := [(0, xb_277_0), (15, xb_277_15), (19, xb_277_19), (50, xb_277_50), (51, xb_277_51), (58, xb_277_58)]
theorem xq_277 {E : pm_H → Prop} (hE : xHE xX xgA_G94 xgF_G94 E) (hV : ∀ p, E p → xV p) (hN : ∀ p, E p → xPG p) : ∀ q ∈ xt_277, xok xX kK kK E 13 277 q.1 q.2 := List.forall_mem_cons.mpr ⟨xp_277_0 hE hV hN, List.forall_mem_cons.mpr ⟨xp_277_15 hE hV hN, List.forall_mem_cons.mpr ⟨xp_277_19 hE hV hN, List.forall_mem_cons.mpr ⟨xp_277_50 hE hV hN, List.forall_mem_cons.mpr ⟨xp_277_51 hE hV hN, List.forall_mem_cons.mpr ⟨xp_277_58 hE hV hN, fun _ h => absurd h List.not_mem_nil⟩⟩⟩⟩⟩⟩
def xnd_277_0_0 : List (xnd × List Nat) := [((0, [some (.inr (.inr (.inl 0))), some (.inl ((Int.negSucc 2147483647), (Int.ofNat 2147483647))), none, none], [], 0, ((Int.ofNat 8), [])), [1]),
  ((19, [some (.inr (.inr (.inl 0))), some (.inl ((Int.ofNat 0), (Int.ofNat 7))), some (.inl ((Int.ofNat 0), (Int.ofNat 7))), some (.inl ((Int.ofNat 1), (Int.ofNat 8)))], [(696320, .inl ((Int.ofNat 0), (Int.ofNat 0))), (696325, .inl ((Int.ofNat 1), (Int.ofNat 8)))], 0, ((Int.ofNat 8), [((Int.negSucc 0), false, 3)])), [1])]
def xns_277_0 : xns := [xnd_277_0_0]
def xsp_277_0 : Nat → Option (Bool × Nat) := fun _ => none
theorem xck_277_0_0 : xnd_277_0_0.all (xnchk xX xsp_277_0 xt_277 [19] xns_277_0 (some (.inl ((Int.negSucc 0), (Int.ofNat 7)))) [] 600) = true := by decide +kernel
theorem xn_277_0 {E : pm_H → Prop} (hE : xHE xX xgA_G94 xgF_G94 E) (hV : ∀ p, E p → xV p) (hN : ∀ p, E p → xPG p) : xcon xX kK E 14 277 [.inr (.inr (.inl 0)), .inl ((Int.negSucc 2147483647), (Int.ofNat 2147483647))] [] 0 (some (.inl ((Int.negSucc 0), (Int.ofNat 7)))) [] := xnodes_ok (nl := 4) (f := 600) (sp := xsp_277_0) (T := xt_277) (cps := [19]) (ns := xns_277_0) rfl rfl (xq_277 hE hV hN) rfl (List.forall_mem_cons.mpr ⟨List.all_eq_true.mp xck_277_0_0, fun _ h => absurd h List.not_mem_nil⟩)
/-! 278 BVModel.bears (G94V) -/
theorem xkc_278 {pc : Nat} {e : Nat × Instr × Nat} (h : pm_tl kc_278 pc = some e) : pm_code kK 278 pc = some e := h
noncomputable def xb_278_0 : xb := xspb xX 696324 [((Int.ofNat 3), (Int.ofNat 6)), ((Int.ofNat 7), (Int.ofNat 7))] (xal 0 (xpush (xci (Int.ofNat 0)) (xpf xX xgF_G94 13 0 0 (xal 0 (xil 1 (xcallV xX 13 1 xs_190 (xif1 xr_eq xr_ne 21 (xal 0 (xil 2 (xcallV xX 13 1 xs_189 (xif1 xr_ne xr_eq 23 (xj 21))))))))))))
theorem xp_278_0 {E : pm_H → Prop} (hE : xHE xX xgA_G94 xgF_G94 E) (hV : ∀ p, E p → xV p) : xok xX kK kK E 11 278 0 xb_278_0 := xspb_ok (xal_ok (i := 0) 1 (xkc_278 rfl) (fo_lan kF0) (xpush0_ok (xkc_278 rfl) (fun _ => rfl) (xci_ok (by decide +kernel)) (xpf_ok xsn_G94 hE (by decide) (xkc_278 rfl) rfl rfl xz0 (xal_ok (i := 0) 1 (xkc_278 rfl) (fo_lan kF0) (xil_ok (i := 1) 1 (xkc_278 rfl) (fo_lin kF1) (xcallV_ok (xkc_278 rfl) rfl (Nat.le_of_ble_eq_true rfl) xso_190 (xif1_ok (pb := fun x => fo_eq x 0) (aux := 21) (xkc_278 rfl) xr_eq_ok xr_ne_ok fo_iz_eq xz_eq xy_eq (xal_ok (i := 0) 1 (xkc_278 rfl) (fo_lan kF0) (xil_ok (i := 2) 1 (xkc_278 rfl) (fo_lin kF2) (xcallV_ok (xkc_278 rfl) rfl (Nat.le_of_ble_eq_true rfl) xso_189 (xif1_ok (pb := fun x => fo_ne x 0) (aux := 23) (xkc_278 rfl) xr_ne_ok xr_eq_ok fo_iz_ne xz_ne xy_ne (xj_ok))))))))))))
noncomputable def xb_278_21 : xb := xpush (xci (Int.negSucc 0)) (xri)
theorem xp_278_21 {E : pm_H → Prop} (hE : xHE xX xgA_G94 xgF_G94 E) (hV : ∀ p, E p → xV p) : xok xX kK kK E 11 278 21 xb_278_21 := xpush0_ok (xkc_278 rfl) (fun _ => rfl) (xci_ok (by decide +kernel)) (xri_ok (xkc_278 rfl) rfl)
noncomputable def xb_278_23 : xb := xpush (xci (Int.ofNat 4)) (xis 3 (xj 25))
theorem xp_278_23 {E : pm_H → Prop} (hE : xHE xX xgA_G94 xgF_G94 E) (hV : ∀ p, E p → xV p) : xok xX kK kK E 11 278 23 xb_278_23 := xpush0_ok (xkc_278 rfl) (fun _ => rfl) (xci_ok (by decide +kernel)) (xis_ok (i := 3) 1 (xkc_278 rfl) (fo_sin kF3) (xj_ok))
noncomputable def xb_278_25 : xb := xil 3 (xif1 xr_lt xr_ge 87 (xal 0 (xal 0 (xgf xX 13 11 (xil 1 (xil 3 (xcallV xX 13 3 xs_220 (xis 4 (xal 0 (xal 0 (xgf xX 13 11 (xil 1 (xial xX (xil 2 (xal 0 (xgf xX 13 11 (xpush (xci (Int.ofNat 8)) (xil 1 (xalu xa_add (xial xX (xil 3 (xil 4 (xcallV xX 13 5 xs_224 (xif1 xr_eq xr_ne 81 (xal 0 (xpush (xci (Int.ofNat 0)) (xpf xX xgF_G94 13 1 0 (xal 0 (xil 4 (xalu xa_i2l (xcallV xX 13 1 xs_186 (xil 3 (xri)))))))))))))))))))))))))))))))))
theorem xp_278_25 {E : pm_H → Prop} (hE : xHE xX xgA_G94 xgF_G94 E) (hV : ∀ p, E p → xV p) : xok xX kK kK E 11 278 25 xb_278_25 := xil_ok (i := 3) 1 (xkc_278 rfl) (fo_lin kF3) (xif1_ok (pb := fun x => fo_lt x 0) (aux := 87) (xkc_278 rfl) xr_lt_ok xr_ge_ok fo_iz_lt xz_lt xy_lt (xal_ok (i := 0) 1 (xkc_278 rfl) (fo_lan kF0) (xal_ok (i := 0) 1 (xkc_278 rfl) (fo_lan kF0) (xgf_ok (b := 0) (by decide) (xkc_278 rfl) rfl (xil_ok (i := 1) 1 (xkc_278 rfl) (fo_lin kF1) (xil_ok (i := 3) 1 (xkc_278 rfl) (fo_lin kF3) (xcallV_ok (xkc_278 rfl) rfl (Nat.le_of_ble_eq_true rfl) (xso_220 (xhe_G94_G8 hE) hV) (xis_ok (i := 4) 2 (xkc_278 rfl) (fo_si 4) (xal_ok (i := 0) 1 (xkc_278 rfl) (fo_lan kF0) (xal_ok (i := 0) 1 (xkc_278 rfl) (fo_lan kF0) (xgf_ok (b := 0) (by decide) (xkc_278 rfl) rfl (xil_ok (i := 1) 1 (xkc_278 rfl) (fo_lin kF1) (xial_ok (xkc_278 rfl) (xil_ok (i := 2) 1 (xkc_278 rfl) (fo_lin kF2) (xal_ok (i := 0) 1 (xkc_278 rfl) (fo_lan kF0) (xgf_ok (b := 0) (by decide) (xkc_278 rfl) rfl (xpush1_ok 2 (xkc_278 rfl) rfl (xci_ok (by decide +kernel)) (xil_ok (i := 1) 1 (xkc_278 rfl) (fo_lin kF1) (xalu_ok (xkc_278 rfl) xa_add_ok (xial_ok (xkc_278 rfl) (xil_ok (i := 3) 1 (xkc_278 rfl) (fo_lin kF3) (xil_ok (i := 4) 2 (xkc_278 rfl) (fo_li 4) (xcallV_ok (xkc_278 rfl) rfl (Nat.le_of_ble_eq_true rfl) xso_224 (xif1_ok (pb := fun x => fo_eq x 0) (aux := 81) (xkc_278 rfl) xr_eq_ok xr_ne_ok fo_iz_eq xz_eq xy_eq (xal_ok (i := 0) 1 (xkc_278 rfl) (fo_lan kF0) (xpush0_ok (xkc_278 rfl) (fun _ => rfl) (xci_ok (by decide +kernel)) (xpf_ok xsn_G94 hE (by decide) (xkc_278 rfl) rfl rfl xz0 (xal_ok (i := 0) 1 (xkc_278 rfl) (fo_lan kF0) (xil_ok (i := 4) 2 (xkc_278 rfl) (fo_li 4) (xalu_ok (xkc_278 rfl) xa_i2l_ok (xcallV_ok (xkc_278 rfl) rfl (Nat.le_of_ble_eq_true rfl) (xso_186 (xhe_G94_G58 hE)) (xil_ok (i := 3) 1 (xkc_278 rfl) (fo_lin kF3) (xri_ok (xkc_278 rfl) rfl)))))))))))))))))))))))))))))))))
noncomputable def xb_278_81 : xb := xinc 3 (Int.negSucc 0) (xj 25)
theorem xp_278_81 {E : pm_H → Prop} (hE : xHE xX xgA_G94 xgF_G94 E) (hV : ∀ p, E p → xV p) : xok xX kK kK E 11 278 81 xb_278_81 := xinc_ok (xkc_278 rfl) (by decide +kernel) (xgoto_ok (xkc_278 rfl))
noncomputable def xb_278_87 : xb := xpush (xci (Int.negSucc 1)) (xri)
theorem xp_278_87 {E : pm_H → Prop} (hE : xHE xX xgA_G94 xgF_G94 E) (hV : ∀ p, E p → xV p) : xok xX kK kK E 11 278 87 xb_278_87 := xpush1_ok 2 (xkc_278 rfl) rfl (xci_ok (by decide +kernel)) (xri_ok (xkc_278 rfl) rfl)
noncomputable def xt_278 : List (Nat × xb) := [(0, xb_278_0), (21, xb_278_21), (23, xb_278_23), (25, xb_278_25), (81, xb_278_81), (87, xb_278_87)]
theorem xq_278 {E : pm_H → Prop} (hE : xHE xX xgA_G94 xgF_G94 E) (hV : ∀ p, E p → xV p) : ∀ q ∈ xt_278, xok xX kK kK E 11 278 q.1 q.2 := List.forall_mem_cons.mpr ⟨xp_278_0 hE hV, List.forall_mem_cons.mpr ⟨xp_278_21 hE hV, List.forall_mem_cons.mpr ⟨xp_278_23 hE hV, List.forall_mem_cons.mpr ⟨xp_278_25 hE hV, List.forall_mem_cons.mpr ⟨xp_278_81 hE hV, List.forall_mem_cons.mpr ⟨xp_278_87 hE hV, fun _ h => absurd h List.not_mem_nil⟩⟩⟩⟩⟩⟩
def xnd_278_0_0 : List (xnd × List Nat) := [((0, [some (.inr (.inr (.inl 0))), some (.inl ((Int.negSucc 2147483647), (Int.ofNat 2147483647))), some (.inl ((Int.negSucc 2147483647), (Int.ofNat 2147483647))), none, none], [], 0, ((Int.ofNat 6), [])), [1, 2]),
  ((25, [some (.inr (.inr (.inl 0))), some (.inl ((Int.ofNat 0), (Int.ofNat 7))), some (.inl ((Int.ofNat 0), (Int.ofNat 48))), some (.inl ((Int.negSucc 0), (Int.ofNat 4))), none], [(696320, .inl ((Int.ofNat 0), (Int.ofNat 0))), (696324, .inl ((Int.ofNat 7), (Int.ofNat 7))), (696325, .inl ((Int.ofNat 1), (Int.ofNat 8)))], 0, ((Int.ofNat 1), [((Int.ofNat 1), false, 3)])), [1]),
  ((25, [some (.inr (.inr (.inl 0))), some (.inl ((Int.ofNat 0), (Int.ofNat 7))), some (.inl ((Int.ofNat 0), (Int.ofNat 41))), some (.inl ((Int.negSucc 0), (Int.ofNat 4))), none], [(696320, .inl ((Int.ofNat 0), (Int.ofNat 0))), (696324, .inl ((Int.ofNat 3), (Int.ofNat 6))), (696325, .inl ((Int.ofNat 1), (Int.ofNat 8)))], 0, ((Int.ofNat 1), [((Int.ofNat 1), false, 3)])), [2])]
def xns_278_0 : xns := [xnd_278_0_0]
def xsp_278_0 : Nat → Option (Bool × Nat) := fun _ => none
theorem xck_278_0_0 : xnd_278_0_0.all (xnchk xX xsp_278_0 xt_278 [25] xns_278_0 (some (.inl ((Int.negSucc 1), (Int.ofNat 4)))) [] 600) = true := by decide +kernel
theorem xn_278_0 {E : pm_H → Prop} (hE : xHE xX xgA_G94 xgF_G94 E) (hV : ∀ p, E p → xV p) : xcon xX kK E 12 278 [.inr (.inr (.inl 0)), .inl ((Int.negSucc 2147483647), (Int.ofNat 2147483647)), .inl ((Int.negSucc 2147483647), (Int.ofNat 2147483647))] [] 0 (some (.inl ((Int.negSucc 1), (Int.ofNat 4)))) [] := xnodes_ok (nl := 5) (f := 600) (sp := xsp_278_0) (T := xt_278) (cps := [25]) (ns := xns_278_0) rfl rfl (xq_278 hE hV) rfl (List.forall_mem_cons.mpr ⟨List.all_eq_true.mp xck_278_0_0, fun _ h => absurd h List.not_mem_nil⟩)


/-! laysSteps, laysWay, by hand, printed by wip/x/h_lays.py -/
set_option maxRecDepth 6000 in
theorem xbes_all : (List.range 5).all (fun r => (List.range 5).all (fun c => xs_192 (xhmV 1 [.inr (.inr (.inl 0)), .inl (-1, 48), .inl (0, 7)]) (xrs0 xX (some (.inl (-1, (Int.ofNat ((r + 3) * (c + 3))) - 1))) []) (6, [], [], xhmF 4 [(696323, .inl (Int.ofNat (r + 3), Int.ofNat (r + 3))), (696324, .inl (Int.ofNat (c + 3), Int.ofNat (c + 3)))], 0, []))) = true := by decide +kernel
set_option maxRecDepth 6000 in
theorem xF2 {m : Int} {ph : pm_H} {k k2 : Nat} {x y : Int32} {lo hi lo2 hi2 : Int} (hk : xown (k / 4096) = some 0 ∧ k / 4096 = 170 ∧ k < 17592186044416) (hg : xget ph 170 (k % 4096) = some (.int x)) (h1 : lo ≤ x.toInt) (h2 : x.toInt ≤ hi) (hk2 : xown (k2 / 4096) = some 0 ∧ k2 / 4096 = 170 ∧ k2 < 17592186044416) (hg2 : xget ph 170 (k2 % 4096) = some (.int y)) (h3 : lo2 ≤ y.toInt) (h4 : y.toInt ≤ hi2) : xhF xX m ph [(k, .inl (lo, hi)), (k2, .inl (lo2, hi2))] := fun k' h' hm => by
  rcases List.mem_cons.mp hm with e | e
  · cases e
    exact xF1 hk hg h1 h2 _ _ List.mem_cons_self
  · exact xF1 hk2 hg2 h3 h4 _ _ e
set_option maxRecDepth 6000 in
theorem xbeside {m : Int} {w D Rn Cn : Nat} {f k R C : Int32} {ph : pm_H} (hm : m ≤ 2147483646) (hw : (w : Int) ≤ m) (hD : 5 ≤ D) (hP : xH xX kK m w ph) (hR : xget ph 170 3 = some (.int R)) (hC : xget ph 170 4 = some (.int C)) (eR : R.toInt = (Rn : Int)) (eC : C.toInt = (Cn : Int)) (r0 : 3 ≤ Rn) (r1 : Rn ≤ 7) (c0 : 3 ≤ Cn) (c1 : Cn ≤ 7) (f0 : -1 ≤ f.toInt) (f1 : f.toInt ≤ 48) (k0 : 0 ≤ k.toInt) (k1 : k.toInt ≤ 7) : ∃ v ph', pm_Rd kK false D 192 [.ref 170, .int f, .int k] ph (v, ph', 0, 0) ∧ (∃ z : Int32, v = some (.int z) ∧ ph' = ph ∧ -1 ≤ z.toInt ∧ z.toInt < ((Rn * Cn : Nat) : Int)) := by
  obtain ⟨r, rfl⟩ : ∃ r, Rn = r + 3 := ⟨Rn - 3, by omega⟩
  obtain ⟨c, rfl⟩ : ∃ c, Cn = c + 3 := ⟨Cn - 3, by omega⟩
  have hchk := List.all_eq_true.mp (List.all_eq_true.mp xbes_all r (List.mem_range.mpr (by omega))) c (List.mem_range.mpr (by omega))
  have hcon := xcok_con (E := fun p => p = ph) (W := 0) (pre := [.inr (.inr (.inl 0)), .inl (-1, 48), .inl (0, 7)]) (fp := [(696323, .inl (Int.ofNat (r + 3), Int.ofNat (r + 3))), (696324, .inl (Int.ofNat (c + 3), Int.ofNat (c + 3)))]) (fq := []) (res := some (.inl (-1, (Int.ofNat ((r + 3) * (c + 3))) - 1))) (xso_192) hchk
  obtain ⟨v, ph', q1, q2, q3, ⟨u, e, z, e2, z0, z1⟩, q5⟩ := xcon_go (w := w) hcon rfl rfl rfl rfl (Nat.le_trans (by decide) hD) hm hw (Nat.zero_le _) (vs := [.ref 170, .int f, .int k]) ⟨xaRi rfl (by decide), xaI f0 f1, xaI k0 k1, trivial⟩ (xF2 (by decide) hR (by rw [eR]; exact Int.le_refl _) (by rw [eR]; exact Int.le_refl _) (by decide) hC (by rw [eC]; exact Int.le_refl _) (by rw [eC]; exact Int.le_refl _)) hP rfl
  have z1 : z.toInt ≤ (((r + 3) * (c + 3) : Nat) : Int) - 1 := z1
  exact ⟨v, ph', q1, z, by rw [e, e2], q3, z0, by omega⟩
set_option maxRecDepth 6000 in
theorem xcnt_set (p : Int32 → Bool) : ∀ (l : List Int32) (k : Nat) (x y : Int32), l[k]? = some x → ((l.set k y).countP p : Int) = (l.countP p : Int) - (if p x = true then 1 else 0) + (if p y = true then 1 else 0) := by
  intro l
  induction l with
  | nil => intro k x y h; cases h
  | cons a l ih =>
    intro k x y h
    cases k with
    | zero =>
      have e : a = x := Option.some.inj h
      subst e
      show (((y :: l).countP p : Nat) : Int) = (((a :: l).countP p : Nat) : Int) - _ + _
      rw [List.countP_cons, List.countP_cons]
      by_cases h1 : p a = true <;> by_cases h2 : p y = true <;> simp only [h1, h2, if_true, if_false, Bool.false_eq_true] <;> omega
    | succ k =>
      have h : l[k]? = some x := h
      have := ih k x y h
      show (((a :: l.set k y).countP p : Nat) : Int) = (((a :: l).countP p : Nat) : Int) - _ + _
      rw [List.countP_cons, List.countP_cons]
      by_cases h1 : p a = true <;> simp only [h1, if_true, if_false, Bool.false_eq_true] <;> omega
def xfin (x : Int32) : Bool := x.toInt != 1000000
set_option maxRecDepth 6000 in
theorem xfin_t {x : Int32} (h : x.toInt ≠ 1000000) : xfin x = true := by unfold xfin; simp [h]
set_option maxRecDepth 6000 in
theorem xfin_f {x : Int32} (h : x.toInt = 1000000) : ¬ xfin x = true := by unfold xfin; simp [h]
/-- how far, so far -/
def xfar (N : Nat) (ph : pm_H) : Prop := ∃ l : List Int32, pm_at ph 192 = some (.inl (0, .inl l)) ∧ l.length = 49 ∧ ∀ (f : Nat) (x : Int32), f < N → l[f]? = some x → (x.toInt = 1000000 ∨ (0 ≤ x.toInt ∧ x.toInt + 1 ≤ ((l.take N).countP xfin : Int)))
set_option maxRecDepth 6000 in
theorem xu1_list {ph ph' : pm_H} {A k : Nat} {y : Int32} {l l' : List Int32} (h : pm_at ph A = some (.inl (0, .inl l))) (h' : pm_at ph' A = some (.inl (0, .inl l'))) (hl : l'.length = l.length) (hk : k < l.length) (u : xu1 ph ph' A k (.int y)) : l' = l.set k y := by
  apply List.ext_getElem?
  intro i
  have gl : ∀ i, xget ph A i = (l[i]?).map Value.int := fun i => by unfold xget; rw [h]; rfl
  have gl' : ∀ i, xget ph' A i = (l'[i]?).map Value.int := fun i => by unfold xget; rw [h']; rfl
  have inj : ∀ (a b : Option Int32), a.map Value.int = b.map Value.int → a = b := fun a b q => by
    cases a with
    | none => cases b with | none => rfl | some _ => cases q
    | some a => cases b with
      | none => cases q
      | some b => cases q; rfl
  by_cases e : i = k
  · subst e
    rw [List.getElem?_set_self hk]
    apply inj
    rw [← gl' i]
    exact u.1
  · rw [List.getElem?_set_ne (Ne.symm e)]
    apply inj
    rw [← gl' i, ← gl i]
    exact u.2.1 A i (fun q => e q.2)
set_option maxRecDepth 6000 in
theorem xfar_set {N f : Nat} {ph ph' : pm_H} {x y z : Int32} {m : Int} {w g : Nat} (hN : N ≤ 49) (hP' : xH xX kK m w ph') (h : xfar N ph) (hf : f < N) (hg : g < N) (hx : xget ph 192 f = some (.int x)) (hz : xget ph 192 g = some (.int z)) (u : xu1 ph ph' 192 f (.int y)) (hy : y.toInt = min x.toInt (z.toInt + 1)) : xfar N ph' := by
  obtain ⟨l, hat, hlen, hI⟩ := h
  obtain ⟨l', hat', hlen', -⟩ := xA_at (A := 192) hP' rfl rfl
  have e := xu1_list hat hat' (by omega) (by omega) u
  have gl : ∀ i v, xget ph 192 i = some (.int v) → l[i]? = some v := fun i v q => by
    unfold xget at q
    rw [hat] at q
    have q : (l[i]?).map Value.int = some (.int v) := q
    cases hq : l[i]? with
    | none => rw [hq] at q; cases q
    | some a => rw [hq] at q; cases q; rfl
  have lx := gl f x hx
  have lz := gl g z hz
  have Ix := hI f x hf lx
  have Iz := hI g z hg lz
  have tx : (l.take N)[f]? = some x := by rw [List.getElem?_take_of_lt hf]; exact lx
  have hc := xcnt_set xfin (l.take N) f x y tx
  have ets : (l.set f y).take N = (l.take N).set f y := List.take_set
  refine ⟨l', hat', hlen', fun i v hi hv => ?_⟩
  rw [e] at hv ⊢
  rw [ets]
  by_cases ei : i = f
  · subst ei
    rw [List.getElem?_set_self (by omega)] at hv
    cases hv
    rcases Ix with h1 | ⟨h1, h2⟩
    · rcases Iz with h3 | ⟨h3, h4⟩
      · left; omega
      · right
        have hyf : y.toInt ≠ 1000000 := by
          have hcl : ((l.take N).countP xfin : Int) ≤ 49 := by
            have := List.countP_le_length (p := xfin) (l := l.take N)
            rw [List.length_take] at this
            omega
          omega
        rw [if_neg (xfin_f h1), if_pos (xfin_t hyf)] at hc
        have hcl : ((l.take N).countP xfin : Int) ≤ 49 := by
          have := List.countP_le_length (p := xfin) (l := l.take N)
          rw [List.length_take] at this
          omega
        omega
    · have hcl : ((l.take N).countP xfin : Int) ≤ 49 := by
        have := List.countP_le_length (p := xfin) (l := l.take N)
        rw [List.length_take] at this
        omega
      rw [if_pos (xfin_t (x := x) (by omega))] at hc
      right
      rcases Iz with h3 | ⟨h3, h4⟩
      · rw [if_pos (xfin_t (x := y) (by omega))] at hc
        omega
      · rw [if_pos (xfin_t (x := y) (by omega))] at hc
        omega
  · rw [List.getElem?_set_ne (Ne.symm ei)] at hv
    rcases hI i v hi hv with h1 | ⟨h1, h2⟩
    · exact Or.inl h1
    · right
      refine ⟨h1, ?_⟩
      have hcl : ((l.take N).countP xfin : Int) ≤ 49 := by
        have := List.countP_le_length (p := xfin) (l := l.take N)
        rw [List.length_take] at this
        omega
      rcases Ix with q1 | ⟨q1, q2⟩
      · rw [if_neg (xfin_f q1)] at hc
        by_cases hy9 : xfin y = true
        · rw [if_pos hy9] at hc; omega
        · rw [if_neg hy9] at hc; omega
      · rw [if_pos (xfin_t (x := x) (by omega))] at hc
        have hyf : y.toInt ≠ 1000000 := by
          rcases Iz with h3 | ⟨h3, h4⟩ <;> omega
        rw [if_pos (xfin_t hyf)] at hc
        omega
set_option maxRecDepth 6000 in
/-- what a cell of it is -/
theorem xfar_get {N f : Nat} {ph : pm_H} {x : Int32} (hN : N ≤ 49) (h : xfar N ph) (hf : f < N) (hx : xget ph 192 f = some (.int x)) : x.toInt = 1000000 ∨ (0 ≤ x.toInt ∧ x.toInt ≤ 48) := by
  obtain ⟨l, hat, hlen, hI⟩ := h
  have lx : l[f]? = some x := by
    unfold xget at hx
    rw [hat] at hx
    have q : (l[f]?).map Value.int = some (.int x) := hx
    cases hq : l[f]? with
    | none => rw [hq] at q; cases q
    | some a => rw [hq] at q; cases q; rfl
  have hcl : ((l.take N).countP xfin : Int) ≤ 49 := by
    have := List.countP_le_length (p := xfin) (l := l.take N)
    rw [List.length_take] at this
    omega
  rcases hI f x hf lx with h1 | h1
  · exact Or.inl h1
  · exact Or.inr (by omega)
set_option maxRecDepth 6000 in
theorem xfar_same {N f : Nat} {ph ph' : pm_H} {x : Int32} {m : Int} {w : Nat} (hN : N ≤ 49) (hP' : xH xX kK m w ph') (h : xfar N ph) (hf : f < N) (hx : xget ph 192 f = some (.int x)) (u : xu1 ph ph' 192 f (.int x)) : xfar N ph' := by
  obtain ⟨l, hat, hlen, hI⟩ := h
  obtain ⟨l', hat', hlen', -⟩ := xA_at (A := 192) hP' rfl rfl
  have e := xu1_list hat hat' (by omega) (by omega) u
  have lx : l[f]? = some x := by
    unfold xget at hx
    rw [hat] at hx
    have q : (l[f]?).map Value.int = some (.int x) := hx
    cases hq : l[f]? with
    | none => rw [hq] at q; cases q
    | some a => rw [hq] at q; cases q; rfl
  have e2 : l.set f x = l := by
    apply List.ext_getElem?
    intro i
    by_cases ei : i = f
    · subst ei; rw [List.getElem?_set_self (by omega), lx]
    · rw [List.getElem?_set_ne (Ne.symm ei)]
  rw [e2] at e
  subst e
  exact ⟨l', hat', hlen', hI⟩

set_option maxRecDepth 6000 in
theorem xfields {m : Int} {w D Rn Cn : Nat} {R C : Int32} {ph : pm_H} (hP : xH xX kK m w ph) (hR : xget ph 170 3 = some (.int R)) (hC : xget ph 170 4 = some (.int C)) (eR : R.toInt = (Rn : Int)) (eC : C.toInt = (Cn : Int)) (r1 : Rn ≤ 7) (c1 : Cn ≤ 7) : ∃ v ph', pm_Rd kK false (D + 1) 188 [.ref 170] ph (v, ph', 0, 0) ∧ (∃ z : Int32, v = some (.int z) ∧ ph' = ph ∧ z.toInt = ((Rn * Cn : Nat) : Int)) := by
  have hb : Rn * Cn ≤ 7 * 7 := Nat.mul_le_mul r1 c1
  have hb2 : ((Rn : Int) * (Cn : Int)) = ((Rn * Cn : Nat) : Int) := (Int.natCast_mul Rn Cn).symm
  refine xRd_mk (nl := 1) rfl rfl ?_
  show xGT kK D 188 _ (0, [some (.ref 170)], [], ph, 0, 0)
  refine gt_load (v := .ref 170) (n := 1) (ykc_188 (e := (2, .aload_n kF0, 0)) rfl) rfl rfl ?_
  refine gt_gfk (v := .int R) (ykc_188 (e := (5, .getfield 24, 0)) rfl) rfl hP hR rfl ?_
  refine gt_load (v := .ref 170) (n := 1) (ykc_188 (e := (2, .aload_n kF0, 0)) rfl) rfl rfl ?_
  refine gt_gfk (v := .int C) (ykc_188 (e := (5, .getfield 27, 0)) rfl) rfl hP hC rfl ?_
  obtain ⟨z, e_z, h_z⟩ : ∃ zq : Int32, R * C = zq ∧ zq.toInt = ((Rn * Cn : Nat) : Int) := ⟨_, rfl, by rw [ti_mul (by rw [eR, eC, hb2]; omega) (by rw [eR, eC, hb2]; omega), eR, eC]; exact (Int.natCast_mul Rn Cn).symm⟩
  refine gt_alu (st' := [.int z]) (ykc_188 (e := (0, .imul, 0)) rfl) (by rw [← e_z]; exact rfl) rfl ?_
  refine gt_ret (ykc_188 (e := (7, .ireturn, 0)) rfl) rfl ?_
  exact ⟨z, rfl, rfl, h_z⟩

set_option maxRecDepth 6000 in
theorem xmin_i {x s y : Int32} {z : Int} (e : (if s < x then s else x) = y) (h : s.toInt = z + 1) : y.toInt = min x.toInt (z + 1) := by
  by_cases q : s < x
  · rw [if_pos q] at e
    subst e
    have := x32lt.mp q
    omega
  · rw [if_neg q] at e
    subst e
    have : ¬ s.toInt < x.toInt := fun r => q (x32lt.mpr r)
    omega
set_option maxRecDepth 6000 in
theorem xlays_w {E : pm_H → Prop} (hE : xHE xX xgA_G97 xgF_G97 E) {m : Int} {w D Rn Cn : Nat} {R C fr goal : Int32} {over : Int64} {Q : Option Value → pm_H → Prop} (hm : m ≤ 2147483646) (hw : (w : Int) ≤ m) (hD : 5 ≤ D) (eR : R.toInt = (Rn : Int)) (eC : C.toInt = (Cn : Int)) (r0 : 3 ≤ Rn) (r1 : Rn ≤ 7) (c0 : 3 ≤ Cn) (c1 : Cn ≤ 7) {f : Int32} (hf0 : 0 ≤ f.toInt) (hf1 : f.toInt < ((Rn * Cn : Nat) : Int)) {n0 : Int32} (kk : ∀ (k : Int32) (o8 o9 : Option Value) (ph : pm_H), xH xX kK m w ph → E ph → xget ph 170 3 = some (.int R) → xget ph 170 4 = some (.int C) → xfar (Rn * Cn) ph → xGT kK D 279 Q (171, [some (.ref 170), some (.int fr), some (.int goal), some (.long over), none, some (.int n0), some (.int f), some (.int k), o8, o9], [], ph, 0, 0)) : ∀ (s : Nat) (k : Int32) (o8 o9 : Option Value) (ph : pm_H), xH xX kK m w ph → E ph → xget ph 170 3 = some (.int R) → xget ph 170 4 = some (.int C) → xfar (Rn * Cn) ph → 0 ≤ k.toInt → 8 ≤ k.toInt + s → xGT kK D 279 Q (65, [some (.ref 170), some (.int fr), some (.int goal), some (.long over), none, some (.int n0), some (.int f), some (.int k), o8, o9], [], ph, 0, 0) := by
  obtain ⟨D', rfl⟩ : ∃ D', D = D' + 1 := ⟨D - 1, by omega⟩
  have hN : Rn * Cn ≤ 49 := Nat.mul_le_mul r1 c1
  intro s
  induction s with
  | zero =>
    intro k o8 o9 ph hP g9 hR hC hfar hk0 hks
    refine gt_load (v := .int k) (n := 2) (ykc_279 (e := (2, .iload 7, 0)) rfl) rfl rfl ?_
    refine gt_push (v := .int ((Int8.ofInt 8).toInt32)) (n := 2) (ykc_279 (e := (1, .bipush 8, 0)) rfl) rfl rfl ?_
    refine gt_ige_t (ykc_279 (e := (4, .if_icmp .ge 102, 171)) rfl) (by rw [xc8]; omega) ?_
    exact kk _ _ _ _ hP g9 hR hC hfar
  | succ s ih =>
    intro k o8 o9 ph hP g9 hR hC hfar hk0 hks
    by_cases hk8 : 8 ≤ k.toInt
    · refine gt_load (v := .int k) (n := 2) (ykc_279 (e := (2, .iload 7, 0)) rfl) rfl rfl ?_
      refine gt_push (v := .int ((Int8.ofInt 8).toInt32)) (n := 2) (ykc_279 (e := (1, .bipush 8, 0)) rfl) rfl rfl ?_
      refine gt_ige_t (ykc_279 (e := (4, .if_icmp .ge 102, 171)) rfl) (by rw [xc8]; omega) ?_
      exact kk _ _ _ _ hP g9 hR hC hfar
    refine gt_load (v := .int k) (n := 2) (ykc_279 (e := (2, .iload 7, 0)) rfl) rfl rfl ?_
    refine gt_push (v := .int ((Int8.ofInt 8).toInt32)) (n := 2) (ykc_279 (e := (1, .bipush 8, 0)) rfl) rfl rfl ?_
    refine gt_ige_f (ykc_279 (e := (4, .if_icmp .ge 102, 171)) rfl) (by rw [xc8]; omega) rfl ?_
    refine gt_load (v := .ref 170) (n := 1) (ykc_279 (e := (2, .aload_n kF0, 0)) rfl) rfl rfl ?_
    refine gt_load (v := .int f) (n := 2) (ykc_279 (e := (2, .iload 6, 0)) rfl) rfl rfl ?_
    refine gt_load (v := .int k) (n := 2) (ykc_279 (e := (2, .iload 7, 0)) rfl) rfl rfl ?_
    refine gt_cv (n := 2) (as := [.ref 170, .int f, .int k]) (r := []) (ykc_279 (e := (6, .invokevirtual 353, 0)) rfl) rfl hP rfl rfl rfl (xbeside hm hw (by omega) hP hR hC eR eC r0 r1 c0 c1 (by omega) (by omega) (by omega) (by omega)) rfl (fun vv ph101 hv => ?_)
    obtain ⟨g, e9, e8, g0, g1⟩ := hv; subst e9; have e7 := e8.symm; subst e7
    change xGT kK (D' + 1) 279 Q (80, [some (.ref 170), some (.int fr), some (.int goal), some (.long over), none, some (.int n0), some (.int f), some (.int k), o8, o9], [.int g], ph, 0, 0)
    refine gt_store (L' := [some (.ref 170), some (.int fr), some (.int goal), some (.long over), none, some (.int n0), some (.int f), some (.int k), some (.int g), o9]) (st' := []) (n := 2) (ykc_279 (e := (3, .istore 8, 0)) rfl) rfl rfl ?_
    refine gt_load (v := .int g) (n := 2) (ykc_279 (e := (2, .iload 8, 0)) rfl) rfl rfl ?_
    by_cases hg : g.toInt < 0
    · refine gt_zlt_t (ykc_279 (e := (4, .ifCond .lt 37, 121)) rfl) hg ?_
      refine gt_alu (st' := [.int (Int32.ofInt 0)]) (ykc_279 (e := (0, .iconst 0, 0)) rfl) rfl rfl ?_
      refine gt_store (L' := [some (.ref 170), some (.int fr), some (.int goal), some (.long over), none, some (.int n0), some (.int f), some (.int k), some (.int g), some (.int (Int32.ofInt 0))]) (st' := []) (n := 2) (ykc_279 (e := (3, .istore 9, 0)) rfl) rfl rfl ?_
      refine gt_load (v := .ref 170) (n := 1) (ykc_279 (e := (2, .aload_n kF0, 0)) rfl) rfl rfl ?_
      refine gt_gfr (A := 192) (ykc_279 (e := (5, .getfield 95, 0)) rfl) rfl hP rfl rfl rfl ?_
      refine gt_load (v := .int f) (n := 2) (ykc_279 (e := (2, .iload 6, 0)) rfl) rfl rfl ?_
      refine gt_load (v := .int (Int32.ofInt 0)) (n := 2) (ykc_279 (e := (2, .iload 9, 0)) rfl) rfl rfl ?_
      refine gt_zeq_t (ykc_279 (e := (4, .ifCond .eq 25, 157)) rfl) (by decide) ?_
      refine gt_load (v := .ref 170) (n := 1) (ykc_279 (e := (2, .aload_n kF0, 0)) rfl) rfl rfl ?_
      refine gt_gfr (A := 192) (ykc_279 (e := (5, .getfield 95, 0)) rfl) rfl hP rfl rfl rfl ?_
      refine gt_load (v := .int f) (n := 2) (ykc_279 (e := (2, .iload 6, 0)) rfl) rfl rfl ?_
      refine gt_ial (A := 192) (ykc_279 (e := (5, .iaload, 0)) rfl) hP rfl rfl (by omega) (by omega) rfl (fun x g_x b_x => ?_)
      refine gt_ias (A := 192) (y := x) (x := f) (ykc_279 (e := (5, .iastore, 0)) rfl) hP rfl rfl (by omega) (by omega) xany rfl (fun ph202 hP202 u202 => ?_)
      have f202_3 : xget ph202 170 3 = some (.int R) := (u202.2.1 170 3 (fun q => absurd q.1 (by decide))).trans hR
      have f202_4 : xget ph202 170 4 = some (.int C) := (u202.2.1 170 4 (fun q => absurd q.1 (by decide))).trans hC
      obtain ⟨k1, e_k1, h_k1⟩ : ∃ zq : Int32, k + Int32.ofInt 1 = zq ∧ zq.toInt = k.toInt + 1 := ⟨_, rfl, by rw [ti_add (by rw [xi1]; omega) (by rw [xi1]; omega), xi1]⟩
      refine gt_store (L' := [some (.ref 170), some (.int fr), some (.int goal), some (.long over), none, some (.int n0), some (.int f), some (.int k1), some (.int g), some (.int (Int32.ofInt 0))]) (st' := []) (n := 3) (ykc_279 (e := (3, .iinc 7 1, 0)) rfl) (by rw [← e_k1]; rfl) rfl ?_
      refine gt_br (pc' := 65) (st' := []) (ykc_279 (e := (4, .goto (-103), 65)) rfl) rfl ?_
      exact ih k1 _ _ ph202 hP202 (xu1_E hE u202 rfl rfl rfl g9) ((u202.2.1 170 3 (fun q => absurd q.1 (by decide))).trans hR) ((u202.2.1 170 4 (fun q => absurd q.1 (by decide))).trans hC) (xfar_same hN hP202 hfar (by omega) g_x u202) (by omega) (by omega)
    · refine gt_zlt_f (ykc_279 (e := (4, .ifCond .lt 37, 121)) rfl) (by omega) rfl ?_
      refine gt_load (v := .int f) (n := 2) (ykc_279 (e := (2, .iload 6, 0)) rfl) rfl rfl ?_
      refine gt_load (v := .int fr) (n := 1) (ykc_279 (e := (2, .iload_n kF1, 0)) rfl) rfl rfl ?_
      by_cases hff : f.toInt = fr.toInt
      · refine gt_ieq_t (ykc_279 (e := (4, .if_icmp .eq 12, 102)) rfl) hff ?_
        refine gt_load (v := .int g) (n := 2) (ykc_279 (e := (2, .iload 8, 0)) rfl) rfl rfl ?_
        refine gt_load (v := .int goal) (n := 1) (ykc_279 (e := (2, .iload_n kF2, 0)) rfl) rfl rfl ?_
        by_cases hgg : g.toInt = goal.toInt
        · refine gt_ieq_t (ykc_279 (e := (4, .if_icmp .eq 12, 117)) rfl) hgg ?_
          refine gt_alu (st' := [.int (Int32.ofInt 1)]) (ykc_279 (e := (0, .iconst 1, 0)) rfl) rfl rfl ?_
          refine gt_br (pc' := 122) (st' := [.int (Int32.ofInt 1)]) (ykc_279 (e := (4, .goto 4, 122)) rfl) rfl ?_
          refine gt_store (L' := [some (.ref 170), some (.int fr), some (.int goal), some (.long over), none, some (.int n0), some (.int f), some (.int k), some (.int g), some (.int (Int32.ofInt 1))]) (st' := []) (n := 2) (ykc_279 (e := (3, .istore 9, 0)) rfl) rfl rfl ?_
          refine gt_load (v := .ref 170) (n := 1) (ykc_279 (e := (2, .aload_n kF0, 0)) rfl) rfl rfl ?_
          refine gt_gfr (A := 192) (ykc_279 (e := (5, .getfield 95, 0)) rfl) rfl hP rfl rfl rfl ?_
          refine gt_load (v := .int f) (n := 2) (ykc_279 (e := (2, .iload 6, 0)) rfl) rfl rfl ?_
          refine gt_load (v := .int (Int32.ofInt 1)) (n := 2) (ykc_279 (e := (2, .iload 9, 0)) rfl) rfl rfl ?_
          refine gt_zeq_f (ykc_279 (e := (4, .ifCond .eq 25, 157)) rfl) (by decide) rfl ?_
          refine gt_load (v := .ref 170) (n := 1) (ykc_279 (e := (2, .aload_n kF0, 0)) rfl) rfl rfl ?_
          refine gt_gfr (A := 192) (ykc_279 (e := (5, .getfield 95, 0)) rfl) rfl hP rfl rfl rfl ?_
          refine gt_load (v := .int f) (n := 2) (ykc_279 (e := (2, .iload 6, 0)) rfl) rfl rfl ?_
          refine gt_ial (A := 192) (ykc_279 (e := (5, .iaload, 0)) rfl) hP rfl rfl (by omega) (by omega) rfl (fun x g_x b_x => ?_)
          refine gt_load (v := .ref 170) (n := 1) (ykc_279 (e := (2, .aload_n kF0, 0)) rfl) rfl rfl ?_
          refine gt_gfr (A := 192) (ykc_279 (e := (5, .getfield 95, 0)) rfl) rfl hP rfl rfl rfl ?_
          refine gt_load (v := .int g) (n := 2) (ykc_279 (e := (2, .iload 8, 0)) rfl) rfl rfl ?_
          refine gt_ial (A := 192) (ykc_279 (e := (5, .iaload, 0)) rfl) hP rfl rfl (by omega) (by omega) rfl (fun z g_z b_z => ?_)
          have hz9 := xfar_get hN hfar (show g.toInt.toNat < Rn * Cn by omega) g_z
          refine gt_alu (st' := [.int (Int32.ofInt 1), .int z, .int x, .int f, .ref 192]) (ykc_279 (e := (0, .iconst 1, 0)) rfl) rfl rfl ?_
          obtain ⟨s, e_s, h_s⟩ : ∃ zq : Int32, z + (Int32.ofInt 1) = zq ∧ zq.toInt = z.toInt + 1 := ⟨_, rfl, by rw [ti_add (by rw [xi1]; omega) (by rw [xi1]; omega), xi1]⟩
          refine gt_alu (st' := [.int s, .int x, .int f, .ref 192]) (ykc_279 (e := (0, .iadd, 0)) rfl) (by rw [← e_s]; exact rfl) rfl ?_
          obtain ⟨y, e_y⟩ : ∃ zq : Int32, (if s < x then s else x) = zq := ⟨_, rfl⟩
          refine gt_mem (n := 3) (st' := [.int y, .int f, .ref 192]) (ph' := ph) (ykc_279 (e := (5, .invokestatic 145, 0)) rfl) (by rw [← e_y]; rfl) rfl ?_
          refine gt_br (pc' := 164) (st' := [.int y, .int f, .ref 192]) (ykc_279 (e := (4, .goto 10, 164)) rfl) rfl ?_
          refine gt_ias (A := 192) (y := y) (x := f) (ykc_279 (e := (5, .iastore, 0)) rfl) hP rfl rfl (by omega) (by omega) xany rfl (fun ph402 hP402 u402 => ?_)
          have f402_3 : xget ph402 170 3 = some (.int R) := (u402.2.1 170 3 (fun q => absurd q.1 (by decide))).trans hR
          have f402_4 : xget ph402 170 4 = some (.int C) := (u402.2.1 170 4 (fun q => absurd q.1 (by decide))).trans hC
          obtain ⟨k1, e_k1, h_k1⟩ : ∃ zq : Int32, k + Int32.ofInt 1 = zq ∧ zq.toInt = k.toInt + 1 := ⟨_, rfl, by rw [ti_add (by rw [xi1]; omega) (by rw [xi1]; omega), xi1]⟩
          refine gt_store (L' := [some (.ref 170), some (.int fr), some (.int goal), some (.long over), none, some (.int n0), some (.int f), some (.int k1), some (.int g), some (.int (Int32.ofInt 1))]) (st' := []) (n := 3) (ykc_279 (e := (3, .iinc 7 1, 0)) rfl) (by rw [← e_k1]; rfl) rfl ?_
          refine gt_br (pc' := 65) (st' := []) (ykc_279 (e := (4, .goto (-103), 65)) rfl) rfl ?_
          exact ih k1 _ _ ph402 hP402 (xu1_E hE u402 rfl rfl rfl g9) ((u402.2.1 170 3 (fun q => absurd q.1 (by decide))).trans hR) ((u402.2.1 170 4 (fun q => absurd q.1 (by decide))).trans hC) (xfar_set hN hP402 hfar (by omega) (show g.toInt.toNat < Rn * Cn by omega) g_x g_z u402 (xmin_i e_y h_s)) (by omega) (by omega)
        · refine gt_ieq_f (ykc_279 (e := (4, .if_icmp .eq 12, 117)) rfl) hgg rfl ?_
          refine gt_load (v := .long over) (n := 1) (ykc_279 (e := (2, .lload_n kF3, 0)) rfl) rfl rfl ?_
          refine gt_load (v := .int g) (n := 2) (ykc_279 (e := (2, .iload 8, 0)) rfl) rfl rfl ?_
          refine gt_cs (n := 2) (as := [.long over, .int g]) (r := []) (ykc_279 (e := (6, .invokestatic 304, 0)) rfl) rfl rfl rfl rfl (xhas_run (D := D')) rfl (fun vv ph402 hv => ?_)
          obtain ⟨z2, e9, e8, z2_s⟩ := hv; subst e9; have e7 := e8.symm; subst e7
          change xGT kK (D' + 1) 279 Q (114, [some (.ref 170), some (.int fr), some (.int goal), some (.long over), none, some (.int n0), some (.int f), some (.int k), some (.int g), o9], [.int z2], ph, 0, 0)
          by_cases hz2 : z2.toInt = 0
          · refine gt_zeq_t (ykc_279 (e := (4, .ifCond .eq 7, 121)) rfl) hz2 ?_
            refine gt_alu (st' := [.int (Int32.ofInt 0)]) (ykc_279 (e := (0, .iconst 0, 0)) rfl) rfl rfl ?_
            refine gt_store (L' := [some (.ref 170), some (.int fr), some (.int goal), some (.long over), none, some (.int n0), some (.int f), some (.int k), some (.int g), some (.int (Int32.ofInt 0))]) (st' := []) (n := 2) (ykc_279 (e := (3, .istore 9, 0)) rfl) rfl rfl ?_
            refine gt_load (v := .ref 170) (n := 1) (ykc_279 (e := (2, .aload_n kF0, 0)) rfl) rfl rfl ?_
            refine gt_gfr (A := 192) (ykc_279 (e := (5, .getfield 95, 0)) rfl) rfl hP rfl rfl rfl ?_
            refine gt_load (v := .int f) (n := 2) (ykc_279 (e := (2, .iload 6, 0)) rfl) rfl rfl ?_
            refine gt_load (v := .int (Int32.ofInt 0)) (n := 2) (ykc_279 (e := (2, .iload 9, 0)) rfl) rfl rfl ?_
            refine gt_zeq_t (ykc_279 (e := (4, .ifCond .eq 25, 157)) rfl) (by decide) ?_
            refine gt_load (v := .ref 170) (n := 1) (ykc_279 (e := (2, .aload_n kF0, 0)) rfl) rfl rfl ?_
            refine gt_gfr (A := 192) (ykc_279 (e := (5, .getfield 95, 0)) rfl) rfl hP rfl rfl rfl ?_
            refine gt_load (v := .int f) (n := 2) (ykc_279 (e := (2, .iload 6, 0)) rfl) rfl rfl ?_
            refine gt_ial (A := 192) (ykc_279 (e := (5, .iaload, 0)) rfl) hP rfl rfl (by omega) (by omega) rfl (fun x g_x b_x => ?_)
            refine gt_ias (A := 192) (y := x) (x := f) (ykc_279 (e := (5, .iastore, 0)) rfl) hP rfl rfl (by omega) (by omega) xany rfl (fun ph503 hP503 u503 => ?_)
            have f503_3 : xget ph503 170 3 = some (.int R) := (u503.2.1 170 3 (fun q => absurd q.1 (by decide))).trans hR
            have f503_4 : xget ph503 170 4 = some (.int C) := (u503.2.1 170 4 (fun q => absurd q.1 (by decide))).trans hC
            obtain ⟨k1, e_k1, h_k1⟩ : ∃ zq : Int32, k + Int32.ofInt 1 = zq ∧ zq.toInt = k.toInt + 1 := ⟨_, rfl, by rw [ti_add (by rw [xi1]; omega) (by rw [xi1]; omega), xi1]⟩
            refine gt_store (L' := [some (.ref 170), some (.int fr), some (.int goal), some (.long over), none, some (.int n0), some (.int f), some (.int k1), some (.int g), some (.int (Int32.ofInt 0))]) (st' := []) (n := 3) (ykc_279 (e := (3, .iinc 7 1, 0)) rfl) (by rw [← e_k1]; rfl) rfl ?_
            refine gt_br (pc' := 65) (st' := []) (ykc_279 (e := (4, .goto (-103), 65)) rfl) rfl ?_
            exact ih k1 _ _ ph503 hP503 (xu1_E hE u503 rfl rfl rfl g9) ((u503.2.1 170 3 (fun q => absurd q.1 (by decide))).trans hR) ((u503.2.1 170 4 (fun q => absurd q.1 (by decide))).trans hC) (xfar_same hN hP503 hfar (by omega) g_x u503) (by omega) (by omega)
          · refine gt_zeq_f (ykc_279 (e := (4, .ifCond .eq 7, 121)) rfl) hz2 rfl ?_
            refine gt_alu (st' := [.int (Int32.ofInt 1)]) (ykc_279 (e := (0, .iconst 1, 0)) rfl) rfl rfl ?_
            refine gt_br (pc' := 122) (st' := [.int (Int32.ofInt 1)]) (ykc_279 (e := (4, .goto 4, 122)) rfl) rfl ?_
            refine gt_store (L' := [some (.ref 170), some (.int fr), some (.int goal), some (.long over), none, some (.int n0), some (.int f), some (.int k), some (.int g), some (.int (Int32.ofInt 1))]) (st' := []) (n := 2) (ykc_279 (e := (3, .istore 9, 0)) rfl) rfl rfl ?_
            refine gt_load (v := .ref 170) (n := 1) (ykc_279 (e := (2, .aload_n kF0, 0)) rfl) rfl rfl ?_
            refine gt_gfr (A := 192) (ykc_279 (e := (5, .getfield 95, 0)) rfl) rfl hP rfl rfl rfl ?_
            refine gt_load (v := .int f) (n := 2) (ykc_279 (e := (2, .iload 6, 0)) rfl) rfl rfl ?_
            refine gt_load (v := .int (Int32.ofInt 1)) (n := 2) (ykc_279 (e := (2, .iload 9, 0)) rfl) rfl rfl ?_
            refine gt_zeq_f (ykc_279 (e := (4, .ifCond .eq 25, 157)) rfl) (by decide) rfl ?_
            refine gt_load (v := .ref 170) (n := 1) (ykc_279 (e := (2, .aload_n kF0, 0)) rfl) rfl rfl ?_
            refine gt_gfr (A := 192) (ykc_279 (e := (5, .getfield 95, 0)) rfl) rfl hP rfl rfl rfl ?_
            refine gt_load (v := .int f) (n := 2) (ykc_279 (e := (2, .iload 6, 0)) rfl) rfl rfl ?_
            refine gt_ial (A := 192) (ykc_279 (e := (5, .iaload, 0)) rfl) hP rfl rfl (by omega) (by omega) rfl (fun x g_x b_x => ?_)
            refine gt_load (v := .ref 170) (n := 1) (ykc_279 (e := (2, .aload_n kF0, 0)) rfl) rfl rfl ?_
            refine gt_gfr (A := 192) (ykc_279 (e := (5, .getfield 95, 0)) rfl) rfl hP rfl rfl rfl ?_
            refine gt_load (v := .int g) (n := 2) (ykc_279 (e := (2, .iload 8, 0)) rfl) rfl rfl ?_
            refine gt_ial (A := 192) (ykc_279 (e := (5, .iaload, 0)) rfl) hP rfl rfl (by omega) (by omega) rfl (fun z g_z b_z => ?_)
            have hz9 := xfar_get hN hfar (show g.toInt.toNat < Rn * Cn by omega) g_z
            refine gt_alu (st' := [.int (Int32.ofInt 1), .int z, .int x, .int f, .ref 192]) (ykc_279 (e := (0, .iconst 1, 0)) rfl) rfl rfl ?_
            obtain ⟨s, e_s, h_s⟩ : ∃ zq : Int32, z + (Int32.ofInt 1) = zq ∧ zq.toInt = z.toInt + 1 := ⟨_, rfl, by rw [ti_add (by rw [xi1]; omega) (by rw [xi1]; omega), xi1]⟩
            refine gt_alu (st' := [.int s, .int x, .int f, .ref 192]) (ykc_279 (e := (0, .iadd, 0)) rfl) (by rw [← e_s]; exact rfl) rfl ?_
            obtain ⟨y, e_y⟩ : ∃ zq : Int32, (if s < x then s else x) = zq := ⟨_, rfl⟩
            refine gt_mem (n := 3) (st' := [.int y, .int f, .ref 192]) (ph' := ph) (ykc_279 (e := (5, .invokestatic 145, 0)) rfl) (by rw [← e_y]; rfl) rfl ?_
            refine gt_br (pc' := 164) (st' := [.int y, .int f, .ref 192]) (ykc_279 (e := (4, .goto 10, 164)) rfl) rfl ?_
            refine gt_ias (A := 192) (y := y) (x := f) (ykc_279 (e := (5, .iastore, 0)) rfl) hP rfl rfl (by omega) (by omega) xany rfl (fun ph503 hP503 u503 => ?_)
            have f503_3 : xget ph503 170 3 = some (.int R) := (u503.2.1 170 3 (fun q => absurd q.1 (by decide))).trans hR
            have f503_4 : xget ph503 170 4 = some (.int C) := (u503.2.1 170 4 (fun q => absurd q.1 (by decide))).trans hC
            obtain ⟨k1, e_k1, h_k1⟩ : ∃ zq : Int32, k + Int32.ofInt 1 = zq ∧ zq.toInt = k.toInt + 1 := ⟨_, rfl, by rw [ti_add (by rw [xi1]; omega) (by rw [xi1]; omega), xi1]⟩
            refine gt_store (L' := [some (.ref 170), some (.int fr), some (.int goal), some (.long over), none, some (.int n0), some (.int f), some (.int k1), some (.int g), some (.int (Int32.ofInt 1))]) (st' := []) (n := 3) (ykc_279 (e := (3, .iinc 7 1, 0)) rfl) (by rw [← e_k1]; rfl) rfl ?_
            refine gt_br (pc' := 65) (st' := []) (ykc_279 (e := (4, .goto (-103), 65)) rfl) rfl ?_
            exact ih k1 _ _ ph503 hP503 (xu1_E hE u503 rfl rfl rfl g9) ((u503.2.1 170 3 (fun q => absurd q.1 (by decide))).trans hR) ((u503.2.1 170 4 (fun q => absurd q.1 (by decide))).trans hC) (xfar_set hN hP503 hfar (by omega) (show g.toInt.toNat < Rn * Cn by omega) g_x g_z u503 (xmin_i e_y h_s)) (by omega) (by omega)
      · refine gt_ieq_f (ykc_279 (e := (4, .if_icmp .eq 12, 102)) rfl) hff rfl ?_
        refine gt_load (v := .long over) (n := 1) (ykc_279 (e := (2, .lload_n kF3, 0)) rfl) rfl rfl ?_
        refine gt_load (v := .int f) (n := 2) (ykc_279 (e := (2, .iload 6, 0)) rfl) rfl rfl ?_
        refine gt_cs (n := 2) (as := [.long over, .int f]) (r := []) (ykc_279 (e := (6, .invokestatic 304, 0)) rfl) rfl rfl rfl rfl (xhas_run (D := D')) rfl (fun vv ph302 hv => ?_)
        obtain ⟨z1, e9, e8, z1_s⟩ := hv; subst e9; have e7 := e8.symm; subst e7
        change xGT kK (D' + 1) 279 Q (99, [some (.ref 170), some (.int fr), some (.int goal), some (.long over), none, some (.int n0), some (.int f), some (.int k), some (.int g), o9], [.int z1], ph, 0, 0)
        by_cases hz1 : z1.toInt = 0
        · refine gt_zeq_t (ykc_279 (e := (4, .ifCond .eq 22, 121)) rfl) hz1 ?_
          refine gt_alu (st' := [.int (Int32.ofInt 0)]) (ykc_279 (e := (0, .iconst 0, 0)) rfl) rfl rfl ?_
          refine gt_store (L' := [some (.ref 170), some (.int fr), some (.int goal), some (.long over), none, some (.int n0), some (.int f), some (.int k), some (.int g), some (.int (Int32.ofInt 0))]) (st' := []) (n := 2) (ykc_279 (e := (3, .istore 9, 0)) rfl) rfl rfl ?_
          refine gt_load (v := .ref 170) (n := 1) (ykc_279 (e := (2, .aload_n kF0, 0)) rfl) rfl rfl ?_
          refine gt_gfr (A := 192) (ykc_279 (e := (5, .getfield 95, 0)) rfl) rfl hP rfl rfl rfl ?_
          refine gt_load (v := .int f) (n := 2) (ykc_279 (e := (2, .iload 6, 0)) rfl) rfl rfl ?_
          refine gt_load (v := .int (Int32.ofInt 0)) (n := 2) (ykc_279 (e := (2, .iload 9, 0)) rfl) rfl rfl ?_
          refine gt_zeq_t (ykc_279 (e := (4, .ifCond .eq 25, 157)) rfl) (by decide) ?_
          refine gt_load (v := .ref 170) (n := 1) (ykc_279 (e := (2, .aload_n kF0, 0)) rfl) rfl rfl ?_
          refine gt_gfr (A := 192) (ykc_279 (e := (5, .getfield 95, 0)) rfl) rfl hP rfl rfl rfl ?_
          refine gt_load (v := .int f) (n := 2) (ykc_279 (e := (2, .iload 6, 0)) rfl) rfl rfl ?_
          refine gt_ial (A := 192) (ykc_279 (e := (5, .iaload, 0)) rfl) hP rfl rfl (by omega) (by omega) rfl (fun x g_x b_x => ?_)
          refine gt_ias (A := 192) (y := x) (x := f) (ykc_279 (e := (5, .iastore, 0)) rfl) hP rfl rfl (by omega) (by omega) xany rfl (fun ph403 hP403 u403 => ?_)
          have f403_3 : xget ph403 170 3 = some (.int R) := (u403.2.1 170 3 (fun q => absurd q.1 (by decide))).trans hR
          have f403_4 : xget ph403 170 4 = some (.int C) := (u403.2.1 170 4 (fun q => absurd q.1 (by decide))).trans hC
          obtain ⟨k1, e_k1, h_k1⟩ : ∃ zq : Int32, k + Int32.ofInt 1 = zq ∧ zq.toInt = k.toInt + 1 := ⟨_, rfl, by rw [ti_add (by rw [xi1]; omega) (by rw [xi1]; omega), xi1]⟩
          refine gt_store (L' := [some (.ref 170), some (.int fr), some (.int goal), some (.long over), none, some (.int n0), some (.int f), some (.int k1), some (.int g), some (.int (Int32.ofInt 0))]) (st' := []) (n := 3) (ykc_279 (e := (3, .iinc 7 1, 0)) rfl) (by rw [← e_k1]; rfl) rfl ?_
          refine gt_br (pc' := 65) (st' := []) (ykc_279 (e := (4, .goto (-103), 65)) rfl) rfl ?_
          exact ih k1 _ _ ph403 hP403 (xu1_E hE u403 rfl rfl rfl g9) ((u403.2.1 170 3 (fun q => absurd q.1 (by decide))).trans hR) ((u403.2.1 170 4 (fun q => absurd q.1 (by decide))).trans hC) (xfar_same hN hP403 hfar (by omega) g_x u403) (by omega) (by omega)
        · refine gt_zeq_f (ykc_279 (e := (4, .ifCond .eq 22, 121)) rfl) hz1 rfl ?_
          refine gt_load (v := .int g) (n := 2) (ykc_279 (e := (2, .iload 8, 0)) rfl) rfl rfl ?_
          refine gt_load (v := .int goal) (n := 1) (ykc_279 (e := (2, .iload_n kF2, 0)) rfl) rfl rfl ?_
          by_cases hgg : g.toInt = goal.toInt
          · refine gt_ieq_t (ykc_279 (e := (4, .if_icmp .eq 12, 117)) rfl) hgg ?_
            refine gt_alu (st' := [.int (Int32.ofInt 1)]) (ykc_279 (e := (0, .iconst 1, 0)) rfl) rfl rfl ?_
            refine gt_br (pc' := 122) (st' := [.int (Int32.ofInt 1)]) (ykc_279 (e := (4, .goto 4, 122)) rfl) rfl ?_
            refine gt_store (L' := [some (.ref 170), some (.int fr), some (.int goal), some (.long over), none, some (.int n0), some (.int f), some (.int k), some (.int g), some (.int (Int32.ofInt 1))]) (st' := []) (n := 2) (ykc_279 (e := (3, .istore 9, 0)) rfl) rfl rfl ?_
            refine gt_load (v := .ref 170) (n := 1) (ykc_279 (e := (2, .aload_n kF0, 0)) rfl) rfl rfl ?_
            refine gt_gfr (A := 192) (ykc_279 (e := (5, .getfield 95, 0)) rfl) rfl hP rfl rfl rfl ?_
            refine gt_load (v := .int f) (n := 2) (ykc_279 (e := (2, .iload 6, 0)) rfl) rfl rfl ?_
            refine gt_load (v := .int (Int32.ofInt 1)) (n := 2) (ykc_279 (e := (2, .iload 9, 0)) rfl) rfl rfl ?_
            refine gt_zeq_f (ykc_279 (e := (4, .ifCond .eq 25, 157)) rfl) (by decide) rfl ?_
            refine gt_load (v := .ref 170) (n := 1) (ykc_279 (e := (2, .aload_n kF0, 0)) rfl) rfl rfl ?_
            refine gt_gfr (A := 192) (ykc_279 (e := (5, .getfield 95, 0)) rfl) rfl hP rfl rfl rfl ?_
            refine gt_load (v := .int f) (n := 2) (ykc_279 (e := (2, .iload 6, 0)) rfl) rfl rfl ?_
            refine gt_ial (A := 192) (ykc_279 (e := (5, .iaload, 0)) rfl) hP rfl rfl (by omega) (by omega) rfl (fun x g_x b_x => ?_)
            refine gt_load (v := .ref 170) (n := 1) (ykc_279 (e := (2, .aload_n kF0, 0)) rfl) rfl rfl ?_
            refine gt_gfr (A := 192) (ykc_279 (e := (5, .getfield 95, 0)) rfl) rfl hP rfl rfl rfl ?_
            refine gt_load (v := .int g) (n := 2) (ykc_279 (e := (2, .iload 8, 0)) rfl) rfl rfl ?_
            refine gt_ial (A := 192) (ykc_279 (e := (5, .iaload, 0)) rfl) hP rfl rfl (by omega) (by omega) rfl (fun z g_z b_z => ?_)
            have hz9 := xfar_get hN hfar (show g.toInt.toNat < Rn * Cn by omega) g_z
            refine gt_alu (st' := [.int (Int32.ofInt 1), .int z, .int x, .int f, .ref 192]) (ykc_279 (e := (0, .iconst 1, 0)) rfl) rfl rfl ?_
            obtain ⟨s, e_s, h_s⟩ : ∃ zq : Int32, z + (Int32.ofInt 1) = zq ∧ zq.toInt = z.toInt + 1 := ⟨_, rfl, by rw [ti_add (by rw [xi1]; omega) (by rw [xi1]; omega), xi1]⟩
            refine gt_alu (st' := [.int s, .int x, .int f, .ref 192]) (ykc_279 (e := (0, .iadd, 0)) rfl) (by rw [← e_s]; exact rfl) rfl ?_
            obtain ⟨y, e_y⟩ : ∃ zq : Int32, (if s < x then s else x) = zq := ⟨_, rfl⟩
            refine gt_mem (n := 3) (st' := [.int y, .int f, .ref 192]) (ph' := ph) (ykc_279 (e := (5, .invokestatic 145, 0)) rfl) (by rw [← e_y]; rfl) rfl ?_
            refine gt_br (pc' := 164) (st' := [.int y, .int f, .ref 192]) (ykc_279 (e := (4, .goto 10, 164)) rfl) rfl ?_
            refine gt_ias (A := 192) (y := y) (x := f) (ykc_279 (e := (5, .iastore, 0)) rfl) hP rfl rfl (by omega) (by omega) xany rfl (fun ph503 hP503 u503 => ?_)
            have f503_3 : xget ph503 170 3 = some (.int R) := (u503.2.1 170 3 (fun q => absurd q.1 (by decide))).trans hR
            have f503_4 : xget ph503 170 4 = some (.int C) := (u503.2.1 170 4 (fun q => absurd q.1 (by decide))).trans hC
            obtain ⟨k1, e_k1, h_k1⟩ : ∃ zq : Int32, k + Int32.ofInt 1 = zq ∧ zq.toInt = k.toInt + 1 := ⟨_, rfl, by rw [ti_add (by rw [xi1]; omega) (by rw [xi1]; omega), xi1]⟩
            refine gt_store (L' := [some (.ref 170), some (.int fr), some (.int goal), some (.long over), none, some (.int n0), some (.int f), some (.int k1), some (.int g), some (.int (Int32.ofInt 1))]) (st' := []) (n := 3) (ykc_279 (e := (3, .iinc 7 1, 0)) rfl) (by rw [← e_k1]; rfl) rfl ?_
            refine gt_br (pc' := 65) (st' := []) (ykc_279 (e := (4, .goto (-103), 65)) rfl) rfl ?_
            exact ih k1 _ _ ph503 hP503 (xu1_E hE u503 rfl rfl rfl g9) ((u503.2.1 170 3 (fun q => absurd q.1 (by decide))).trans hR) ((u503.2.1 170 4 (fun q => absurd q.1 (by decide))).trans hC) (xfar_set hN hP503 hfar (by omega) (show g.toInt.toNat < Rn * Cn by omega) g_x g_z u503 (xmin_i e_y h_s)) (by omega) (by omega)
          · refine gt_ieq_f (ykc_279 (e := (4, .if_icmp .eq 12, 117)) rfl) hgg rfl ?_
            refine gt_load (v := .long over) (n := 1) (ykc_279 (e := (2, .lload_n kF3, 0)) rfl) rfl rfl ?_
            refine gt_load (v := .int g) (n := 2) (ykc_279 (e := (2, .iload 8, 0)) rfl) rfl rfl ?_
            refine gt_cs (n := 2) (as := [.long over, .int g]) (r := []) (ykc_279 (e := (6, .invokestatic 304, 0)) rfl) rfl rfl rfl rfl (xhas_run (D := D')) rfl (fun vv ph503 hv => ?_)
            obtain ⟨z2, e9, e8, z2_s⟩ := hv; subst e9; have e7 := e8.symm; subst e7
            change xGT kK (D' + 1) 279 Q (114, [some (.ref 170), some (.int fr), some (.int goal), some (.long over), none, some (.int n0), some (.int f), some (.int k), some (.int g), o9], [.int z2], ph, 0, 0)
            by_cases hz2 : z2.toInt = 0
            · refine gt_zeq_t (ykc_279 (e := (4, .ifCond .eq 7, 121)) rfl) hz2 ?_
              refine gt_alu (st' := [.int (Int32.ofInt 0)]) (ykc_279 (e := (0, .iconst 0, 0)) rfl) rfl rfl ?_
              refine gt_store (L' := [some (.ref 170), some (.int fr), some (.int goal), some (.long over), none, some (.int n0), some (.int f), some (.int k), some (.int g), some (.int (Int32.ofInt 0))]) (st' := []) (n := 2) (ykc_279 (e := (3, .istore 9, 0)) rfl) rfl rfl ?_
              refine gt_load (v := .ref 170) (n := 1) (ykc_279 (e := (2, .aload_n kF0, 0)) rfl) rfl rfl ?_
              refine gt_gfr (A := 192) (ykc_279 (e := (5, .getfield 95, 0)) rfl) rfl hP rfl rfl rfl ?_
              refine gt_load (v := .int f) (n := 2) (ykc_279 (e := (2, .iload 6, 0)) rfl) rfl rfl ?_
              refine gt_load (v := .int (Int32.ofInt 0)) (n := 2) (ykc_279 (e := (2, .iload 9, 0)) rfl) rfl rfl ?_
              refine gt_zeq_t (ykc_279 (e := (4, .ifCond .eq 25, 157)) rfl) (by decide) ?_
              refine gt_load (v := .ref 170) (n := 1) (ykc_279 (e := (2, .aload_n kF0, 0)) rfl) rfl rfl ?_
              refine gt_gfr (A := 192) (ykc_279 (e := (5, .getfield 95, 0)) rfl) rfl hP rfl rfl rfl ?_
              refine gt_load (v := .int f) (n := 2) (ykc_279 (e := (2, .iload 6, 0)) rfl) rfl rfl ?_
              refine gt_ial (A := 192) (ykc_279 (e := (5, .iaload, 0)) rfl) hP rfl rfl (by omega) (by omega) rfl (fun x g_x b_x => ?_)
              refine gt_ias (A := 192) (y := x) (x := f) (ykc_279 (e := (5, .iastore, 0)) rfl) hP rfl rfl (by omega) (by omega) xany rfl (fun ph604 hP604 u604 => ?_)
              have f604_3 : xget ph604 170 3 = some (.int R) := (u604.2.1 170 3 (fun q => absurd q.1 (by decide))).trans hR
              have f604_4 : xget ph604 170 4 = some (.int C) := (u604.2.1 170 4 (fun q => absurd q.1 (by decide))).trans hC
              obtain ⟨k1, e_k1, h_k1⟩ : ∃ zq : Int32, k + Int32.ofInt 1 = zq ∧ zq.toInt = k.toInt + 1 := ⟨_, rfl, by rw [ti_add (by rw [xi1]; omega) (by rw [xi1]; omega), xi1]⟩
              refine gt_store (L' := [some (.ref 170), some (.int fr), some (.int goal), some (.long over), none, some (.int n0), some (.int f), some (.int k1), some (.int g), some (.int (Int32.ofInt 0))]) (st' := []) (n := 3) (ykc_279 (e := (3, .iinc 7 1, 0)) rfl) (by rw [← e_k1]; rfl) rfl ?_
              refine gt_br (pc' := 65) (st' := []) (ykc_279 (e := (4, .goto (-103), 65)) rfl) rfl ?_
              exact ih k1 _ _ ph604 hP604 (xu1_E hE u604 rfl rfl rfl g9) ((u604.2.1 170 3 (fun q => absurd q.1 (by decide))).trans hR) ((u604.2.1 170 4 (fun q => absurd q.1 (by decide))).trans hC) (xfar_same hN hP604 hfar (by omega) g_x u604) (by omega) (by omega)
            · refine gt_zeq_f (ykc_279 (e := (4, .ifCond .eq 7, 121)) rfl) hz2 rfl ?_
              refine gt_alu (st' := [.int (Int32.ofInt 1)]) (ykc_279 (e := (0, .iconst 1, 0)) rfl) rfl rfl ?_
              refine gt_br (pc' := 122) (st' := [.int (Int32.ofInt 1)]) (ykc_279 (e := (4, .goto 4, 122)) rfl) rfl ?_
              refine gt_store (L' := [some (.ref 170), some (.int fr), some (.int goal), some (.long over), none, some (.int n0), some (.int f), some (.int k), some (.int g), some (.int (Int32.ofInt 1))]) (st' := []) (n := 2) (ykc_279 (e := (3, .istore 9, 0)) rfl) rfl rfl ?_
              refine gt_load (v := .ref 170) (n := 1) (ykc_279 (e := (2, .aload_n kF0, 0)) rfl) rfl rfl ?_
              refine gt_gfr (A := 192) (ykc_279 (e := (5, .getfield 95, 0)) rfl) rfl hP rfl rfl rfl ?_
              refine gt_load (v := .int f) (n := 2) (ykc_279 (e := (2, .iload 6, 0)) rfl) rfl rfl ?_
              refine gt_load (v := .int (Int32.ofInt 1)) (n := 2) (ykc_279 (e := (2, .iload 9, 0)) rfl) rfl rfl ?_
              refine gt_zeq_f (ykc_279 (e := (4, .ifCond .eq 25, 157)) rfl) (by decide) rfl ?_
              refine gt_load (v := .ref 170) (n := 1) (ykc_279 (e := (2, .aload_n kF0, 0)) rfl) rfl rfl ?_
              refine gt_gfr (A := 192) (ykc_279 (e := (5, .getfield 95, 0)) rfl) rfl hP rfl rfl rfl ?_
              refine gt_load (v := .int f) (n := 2) (ykc_279 (e := (2, .iload 6, 0)) rfl) rfl rfl ?_
              refine gt_ial (A := 192) (ykc_279 (e := (5, .iaload, 0)) rfl) hP rfl rfl (by omega) (by omega) rfl (fun x g_x b_x => ?_)
              refine gt_load (v := .ref 170) (n := 1) (ykc_279 (e := (2, .aload_n kF0, 0)) rfl) rfl rfl ?_
              refine gt_gfr (A := 192) (ykc_279 (e := (5, .getfield 95, 0)) rfl) rfl hP rfl rfl rfl ?_
              refine gt_load (v := .int g) (n := 2) (ykc_279 (e := (2, .iload 8, 0)) rfl) rfl rfl ?_
              refine gt_ial (A := 192) (ykc_279 (e := (5, .iaload, 0)) rfl) hP rfl rfl (by omega) (by omega) rfl (fun z g_z b_z => ?_)
              have hz9 := xfar_get hN hfar (show g.toInt.toNat < Rn * Cn by omega) g_z
              refine gt_alu (st' := [.int (Int32.ofInt 1), .int z, .int x, .int f, .ref 192]) (ykc_279 (e := (0, .iconst 1, 0)) rfl) rfl rfl ?_
              obtain ⟨s, e_s, h_s⟩ : ∃ zq : Int32, z + (Int32.ofInt 1) = zq ∧ zq.toInt = z.toInt + 1 := ⟨_, rfl, by rw [ti_add (by rw [xi1]; omega) (by rw [xi1]; omega), xi1]⟩
              refine gt_alu (st' := [.int s, .int x, .int f, .ref 192]) (ykc_279 (e := (0, .iadd, 0)) rfl) (by rw [← e_s]; exact rfl) rfl ?_
              obtain ⟨y, e_y⟩ : ∃ zq : Int32, (if s < x then s else x) = zq := ⟨_, rfl⟩
              refine gt_mem (n := 3) (st' := [.int y, .int f, .ref 192]) (ph' := ph) (ykc_279 (e := (5, .invokestatic 145, 0)) rfl) (by rw [← e_y]; rfl) rfl ?_
              refine gt_br (pc' := 164) (st' := [.int y, .int f, .ref 192]) (ykc_279 (e := (4, .goto 10, 164)) rfl) rfl ?_
              refine gt_ias (A := 192) (y := y) (x := f) (ykc_279 (e := (5, .iastore, 0)) rfl) hP rfl rfl (by omega) (by omega) xany rfl (fun ph604 hP604 u604 => ?_)
              have f604_3 : xget ph604 170 3 = some (.int R) := (u604.2.1 170 3 (fun q => absurd q.1 (by decide))).trans hR
              have f604_4 : xget ph604 170 4 = some (.int C) := (u604.2.1 170 4 (fun q => absurd q.1 (by decide))).trans hC
              obtain ⟨k1, e_k1, h_k1⟩ : ∃ zq : Int32, k + Int32.ofInt 1 = zq ∧ zq.toInt = k.toInt + 1 := ⟨_, rfl, by rw [ti_add (by rw [xi1]; omega) (by rw [xi1]; omega), xi1]⟩
              refine gt_store (L' := [some (.ref 170), some (.int fr), some (.int goal), some (.long over), none, some (.int n0), some (.int f), some (.int k1), some (.int g), some (.int (Int32.ofInt 1))]) (st' := []) (n := 3) (ykc_279 (e := (3, .iinc 7 1, 0)) rfl) (by rw [← e_k1]; rfl) rfl ?_
              refine gt_br (pc' := 65) (st' := []) (ykc_279 (e := (4, .goto (-103), 65)) rfl) rfl ?_
              exact ih k1 _ _ ph604 hP604 (xu1_E hE u604 rfl rfl rfl g9) ((u604.2.1 170 3 (fun q => absurd q.1 (by decide))).trans hR) ((u604.2.1 170 4 (fun q => absurd q.1 (by decide))).trans hC) (xfar_set hN hP604 hfar (by omega) (show g.toInt.toNat < Rn * Cn by omega) g_x g_z u604 (xmin_i e_y h_s)) (by omega) (by omega)

set_option maxRecDepth 6000 in
theorem xlays_f {E : pm_H → Prop} (hE : xHE xX xgA_G97 xgF_G97 E) {m : Int} {w D Rn Cn : Nat} {R C fr goal : Int32} {over : Int64} {Q : Option Value → pm_H → Prop} (hm : m ≤ 2147483646) (hw : (w : Int) ≤ m) (hD : 5 ≤ D) (eR : R.toInt = (Rn : Int)) (eC : C.toInt = (Cn : Int)) (r0 : 3 ≤ Rn) (r1 : Rn ≤ 7) (c0 : 3 ≤ Cn) (c1 : Cn ≤ 7) {n0 : Int32} (kk : ∀ (f : Int32) (o7 o8 o9 : Option Value) (ph : pm_H), xH xX kK m w ph → E ph → xget ph 170 3 = some (.int R) → xget ph 170 4 = some (.int C) → xfar (Rn * Cn) ph → xGT kK D 279 Q (177, [some (.ref 170), some (.int fr), some (.int goal), some (.long over), none, some (.int n0), some (.int f), o7, o8, o9], [], ph, 0, 0)) : ∀ (s : Nat) (f : Int32) (o7 o8 o9 : Option Value) (ph : pm_H), xH xX kK m w ph → E ph → xget ph 170 3 = some (.int R) → xget ph 170 4 = some (.int C) → xfar (Rn * Cn) ph → 0 ≤ f.toInt → ((Rn * Cn : Nat) : Int) ≤ f.toInt + s → xGT kK D 279 Q (53, [some (.ref 170), some (.int fr), some (.int goal), some (.long over), none, some (.int n0), some (.int f), o7, o8, o9], [], ph, 0, 0) := by
  obtain ⟨D', rfl⟩ : ∃ D', D = D' + 1 := ⟨D - 1, by omega⟩
  have hN : Rn * Cn ≤ 49 := Nat.mul_le_mul r1 c1
  intro s
  induction s with
  | zero =>
    intro f o7 o8 o9 ph hP g9 hR hC hfar hf0 hfs
    refine gt_load (v := .int f) (n := 2) (ykc_279 (e := (2, .iload 6, 0)) rfl) rfl rfl ?_
    refine gt_load (v := .ref 170) (n := 1) (ykc_279 (e := (2, .aload_n kF0, 0)) rfl) rfl rfl ?_
    refine gt_cv (n := 0) (as := [.ref 170]) (r := [.int f]) (ykc_279 (e := (6, .invokevirtual 122, 0)) rfl) rfl hP rfl rfl rfl (xfields (D := D') hP hR hC eR eC r1 c1) rfl (fun vv ph1 hv => ?_)
    obtain ⟨n, e9, e8, h_n⟩ := hv; subst e9; have e7 := e8.symm; subst e7
    change xGT kK (D' + 1) 279 Q (59, [some (.ref 170), some (.int fr), some (.int goal), some (.long over), none, some (.int n0), some (.int f), o7, o8, o9], [.int n, .int f], ph, 0, 0)
    refine gt_ige_t (ykc_279 (e := (4, .if_icmp .ge 118, 177)) rfl) (by omega) ?_
    exact kk _ _ _ _ _ hP g9 hR hC hfar
  | succ s ih =>
    intro f o7 o8 o9 ph hP g9 hR hC hfar hf0 hfs
    by_cases hfN : ((Rn * Cn : Nat) : Int) ≤ f.toInt
    · refine gt_load (v := .int f) (n := 2) (ykc_279 (e := (2, .iload 6, 0)) rfl) rfl rfl ?_
      refine gt_load (v := .ref 170) (n := 1) (ykc_279 (e := (2, .aload_n kF0, 0)) rfl) rfl rfl ?_
      refine gt_cv (n := 0) (as := [.ref 170]) (r := [.int f]) (ykc_279 (e := (6, .invokevirtual 122, 0)) rfl) rfl hP rfl rfl rfl (xfields (D := D') hP hR hC eR eC r1 c1) rfl (fun vv ph1 hv => ?_)
      obtain ⟨n, e9, e8, h_n⟩ := hv; subst e9; have e7 := e8.symm; subst e7
      change xGT kK (D' + 1) 279 Q (59, [some (.ref 170), some (.int fr), some (.int goal), some (.long over), none, some (.int n0), some (.int f), o7, o8, o9], [.int n, .int f], ph, 0, 0)
      refine gt_ige_t (ykc_279 (e := (4, .if_icmp .ge 118, 177)) rfl) (by omega) ?_
      exact kk _ _ _ _ _ hP g9 hR hC hfar
    refine gt_load (v := .int f) (n := 2) (ykc_279 (e := (2, .iload 6, 0)) rfl) rfl rfl ?_
    refine gt_load (v := .ref 170) (n := 1) (ykc_279 (e := (2, .aload_n kF0, 0)) rfl) rfl rfl ?_
    refine gt_cv (n := 0) (as := [.ref 170]) (r := [.int f]) (ykc_279 (e := (6, .invokevirtual 122, 0)) rfl) rfl hP rfl rfl rfl (xfields (D := D') hP hR hC eR eC r1 c1) rfl (fun vv ph1 hv => ?_)
    obtain ⟨n, e9, e8, h_n⟩ := hv; subst e9; have e7 := e8.symm; subst e7
    change xGT kK (D' + 1) 279 Q (59, [some (.ref 170), some (.int fr), some (.int goal), some (.long over), none, some (.int n0), some (.int f), o7, o8, o9], [.int n, .int f], ph, 0, 0)
    refine gt_ige_f (ykc_279 (e := (4, .if_icmp .ge 118, 177)) rfl) (by omega) rfl ?_
    refine gt_alu (st' := [.int (Int32.ofInt 0)]) (ykc_279 (e := (0, .iconst 0, 0)) rfl) rfl rfl ?_
    refine gt_store (L' := [some (.ref 170), some (.int fr), some (.int goal), some (.long over), none, some (.int n0), some (.int f), some (.int (Int32.ofInt 0)), o8, o9]) (st' := []) (n := 2) (ykc_279 (e := (3, .istore 7, 0)) rfl) rfl rfl ?_
    have z0 : (Int32.ofInt 0).toInt = 0 := by decide
    refine xlays_w hE hm hw hD eR eC r0 r1 c0 c1 hf0 (by omega) ?_ 8 _ _ _ ph hP g9 hR hC hfar (by omega) (by omega)
    intro k2 o82 o92 ph2 hP2 g92 hR2 hC2 hfar2
    obtain ⟨f1, e_f1, h_f1⟩ : ∃ zq : Int32, f + Int32.ofInt 1 = zq ∧ zq.toInt = f.toInt + 1 := ⟨_, rfl, by rw [ti_add (by rw [xi1]; omega) (by rw [xi1]; omega), xi1]⟩
    refine gt_store (L' := [some (.ref 170), some (.int fr), some (.int goal), some (.long over), none, some (.int n0), some (.int f1), some (.int k2), o82, o92]) (st' := []) (n := 3) (ykc_279 (e := (3, .iinc 6 1, 0)) rfl) (by rw [← e_f1]; rfl) rfl ?_
    refine gt_br (pc' := 53) (st' := []) (ykc_279 (e := (4, .goto (-121), 53)) rfl) rfl ?_
    exact ih f1 _ _ _ ph2 hP2 g92 hR2 hC2 hfar2 (by omega) (by omega)

set_option maxRecDepth 6000 in
theorem xlays_n {E : pm_H → Prop} (hE : xHE xX xgA_G97 xgF_G97 E) {m : Int} {w D Rn Cn : Nat} {R C fr goal : Int32} {over : Int64} {Q : Option Value → pm_H → Prop} (hm : m ≤ 2147483646) (hw : (w : Int) ≤ m) (hD : 5 ≤ D) (eR : R.toInt = (Rn : Int)) (eC : C.toInt = (Cn : Int)) (r0 : 3 ≤ Rn) (r1 : Rn ≤ 7) (c0 : 3 ≤ Cn) (c1 : Cn ≤ 7) (kk : ∀ (o5 o6 o7 o8 o9 : Option Value) (ph : pm_H), xH xX kK m w ph → E ph → xget ph 170 3 = some (.int R) → xget ph 170 4 = some (.int C) → xfar (Rn * Cn) ph → xGT kK D 279 Q (183, [some (.ref 170), some (.int fr), some (.int goal), some (.long over), none, o5, o6, o7, o8, o9], [], ph, 0, 0)) : ∀ (s : Nat) (n0 : Int32) (o6 o7 o8 o9 : Option Value) (ph : pm_H), xH xX kK m w ph → E ph → xget ph 170 3 = some (.int R) → xget ph 170 4 = some (.int C) → xfar (Rn * Cn) ph → 0 ≤ n0.toInt → ((Rn * Cn : Nat) : Int) ≤ n0.toInt + s → xGT kK D 279 Q (41, [some (.ref 170), some (.int fr), some (.int goal), some (.long over), none, some (.int n0), o6, o7, o8, o9], [], ph, 0, 0) := by
  obtain ⟨D', rfl⟩ : ∃ D', D = D' + 1 := ⟨D - 1, by omega⟩
  have hN : Rn * Cn ≤ 49 := Nat.mul_le_mul r1 c1
  intro s
  induction s with
  | zero =>
    intro n0 o6 o7 o8 o9 ph hP g9 hR hC hfar hf0 hfs
    refine gt_load (v := .int n0) (n := 2) (ykc_279 (e := (2, .iload 5, 0)) rfl) rfl rfl ?_
    refine gt_load (v := .ref 170) (n := 1) (ykc_279 (e := (2, .aload_n kF0, 0)) rfl) rfl rfl ?_
    refine gt_cv (n := 0) (as := [.ref 170]) (r := [.int n0]) (ykc_279 (e := (6, .invokevirtual 122, 0)) rfl) rfl hP rfl rfl rfl (xfields (D := D') hP hR hC eR eC r1 c1) rfl (fun vv ph1 hv => ?_)
    obtain ⟨n, e9, e8, h_n⟩ := hv; subst e9; have e7 := e8.symm; subst e7
    change xGT kK (D' + 1) 279 Q (47, [some (.ref 170), some (.int fr), some (.int goal), some (.long over), none, some (.int n0), o6, o7, o8, o9], [.int n, .int n0], ph, 0, 0)
    refine gt_ige_t (ykc_279 (e := (4, .if_icmp .ge 136, 183)) rfl) (by omega) ?_
    exact kk _ _ _ _ _ _ hP g9 hR hC hfar
  | succ s ih =>
    intro n0 o6 o7 o8 o9 ph hP g9 hR hC hfar hf0 hfs
    by_cases hfN : ((Rn * Cn : Nat) : Int) ≤ n0.toInt
    · refine gt_load (v := .int n0) (n := 2) (ykc_279 (e := (2, .iload 5, 0)) rfl) rfl rfl ?_
      refine gt_load (v := .ref 170) (n := 1) (ykc_279 (e := (2, .aload_n kF0, 0)) rfl) rfl rfl ?_
      refine gt_cv (n := 0) (as := [.ref 170]) (r := [.int n0]) (ykc_279 (e := (6, .invokevirtual 122, 0)) rfl) rfl hP rfl rfl rfl (xfields (D := D') hP hR hC eR eC r1 c1) rfl (fun vv ph1 hv => ?_)
      obtain ⟨n, e9, e8, h_n⟩ := hv; subst e9; have e7 := e8.symm; subst e7
      change xGT kK (D' + 1) 279 Q (47, [some (.ref 170), some (.int fr), some (.int goal), some (.long over), none, some (.int n0), o6, o7, o8, o9], [.int n, .int n0], ph, 0, 0)
      refine gt_ige_t (ykc_279 (e := (4, .if_icmp .ge 136, 183)) rfl) (by omega) ?_
      exact kk _ _ _ _ _ _ hP g9 hR hC hfar
    refine gt_load (v := .int n0) (n := 2) (ykc_279 (e := (2, .iload 5, 0)) rfl) rfl rfl ?_
    refine gt_load (v := .ref 170) (n := 1) (ykc_279 (e := (2, .aload_n kF0, 0)) rfl) rfl rfl ?_
    refine gt_cv (n := 0) (as := [.ref 170]) (r := [.int n0]) (ykc_279 (e := (6, .invokevirtual 122, 0)) rfl) rfl hP rfl rfl rfl (xfields (D := D') hP hR hC eR eC r1 c1) rfl (fun vv ph1 hv => ?_)
    obtain ⟨n, e9, e8, h_n⟩ := hv; subst e9; have e7 := e8.symm; subst e7
    change xGT kK (D' + 1) 279 Q (47, [some (.ref 170), some (.int fr), some (.int goal), some (.long over), none, some (.int n0), o6, o7, o8, o9], [.int n, .int n0], ph, 0, 0)
    refine gt_ige_f (ykc_279 (e := (4, .if_icmp .ge 136, 183)) rfl) (by omega) rfl ?_
    refine gt_alu (st' := [.int (Int32.ofInt 0)]) (ykc_279 (e := (0, .iconst 0, 0)) rfl) rfl rfl ?_
    refine gt_store (L' := [some (.ref 170), some (.int fr), some (.int goal), some (.long over), none, some (.int n0), some (.int (Int32.ofInt 0)), o7, o8, o9]) (st' := []) (n := 2) (ykc_279 (e := (3, .istore 6, 0)) rfl) rfl rfl ?_
    have z0 : (Int32.ofInt 0).toInt = 0 := by decide
    refine xlays_f hE hm hw hD eR eC r0 r1 c0 c1 ?_ (Rn * Cn) _ _ _ _ ph hP g9 hR hC hfar (by omega) (by omega)
    intro f2 o72 o82 o92 ph2 hP2 g92 hR2 hC2 hfar2
    obtain ⟨n1, e_n1, h_n1⟩ : ∃ zq : Int32, n0 + Int32.ofInt 1 = zq ∧ zq.toInt = n0.toInt + 1 := ⟨_, rfl, by rw [ti_add (by rw [xi1]; omega) (by rw [xi1]; omega), xi1]⟩
    refine gt_store (L' := [some (.ref 170), some (.int fr), some (.int goal), some (.long over), none, some (.int n1), some (.int f2), o72, o82, o92]) (st' := []) (n := 3) (ykc_279 (e := (3, .iinc 5 1, 0)) rfl) (by rw [← e_n1]; rfl) rfl ?_
    refine gt_br (pc' := 41) (st' := []) (ykc_279 (e := (4, .goto (-139), 41)) rfl) rfl ?_
    exact ih n1 _ _ _ _ ph2 hP2 g92 hR2 hC2 hfar2 (by omega) (by omega)

set_option maxRecDepth 6000 in
theorem xlays_0 {E : pm_H → Prop} (hE : xHE xX xgA_G97 xgF_G97 E) {m : Int} {w D Rn Cn : Nat} {R C fr goal : Int32} {over : Int64} {Q : Option Value → pm_H → Prop} (hm : m ≤ 2147483646) (hw : (w : Int) ≤ m) (hD : 5 ≤ D) (eR : R.toInt = (Rn : Int)) (eC : C.toInt = (Cn : Int)) (r0 : 3 ≤ Rn) (r1 : Rn ≤ 7) (c0 : 3 ≤ Cn) (c1 : Cn ≤ 7) (hg0 : 0 ≤ goal.toInt) (hg1 : goal.toInt < ((Rn * Cn : Nat) : Int)) (kk : ∀ (ph : pm_H), xH xX kK m w ph → E ph → xget ph 170 3 = some (.int R) → xget ph 170 4 = some (.int C) → xfar (Rn * Cn) ph → xGT kK D 279 Q (41, [some (.ref 170), some (.int fr), some (.int goal), some (.long over), none, some (.int (Int32.ofInt 0)), none, none, none, none], [], ph, 0, 0)) : ∀ (s : Nat) (f : Int32) (ph : pm_H), xH xX kK m w ph → E ph → xget ph 170 3 = some (.int R) → xget ph 170 4 = some (.int C) → (∀ (i : Nat) (x : Int32), i < f.toInt.toNat → xget ph 192 i = some (.int x) → (((i : Int) = goal.toInt ∧ x.toInt = 0) ∨ ((i : Int) ≠ goal.toInt ∧ x.toInt = 1000000))) → 0 ≤ f.toInt → ((Rn * Cn : Nat) : Int) ≤ f.toInt + s → xGT kK D 279 Q (3, [some (.ref 170), some (.int fr), some (.int goal), some (.long over), none, some (.int f), none, none, none, none], [], ph, 0, 0) := by
  obtain ⟨D', rfl⟩ : ∃ D', D = D' + 1 := ⟨D - 1, by omega⟩
  have hN : Rn * Cn ≤ 49 := Nat.mul_le_mul r1 c1
  have z00 : (Int32.ofInt 0).toInt = 0 := by decide
  have done : ∀ (f : Int32) (ph : pm_H), xH xX kK m w ph → (∀ (i : Nat) (x : Int32), i < f.toInt.toNat → xget ph 192 i = some (.int x) → (((i : Int) = goal.toInt ∧ x.toInt = 0) ∨ ((i : Int) ≠ goal.toInt ∧ x.toInt = 1000000))) → ((Rn * Cn : Nat) : Int) ≤ f.toInt → xfar (Rn * Cn) ph := fun f ph hP hfill hf => by
    obtain ⟨l, hat, hlen, -⟩ := xA_at (A := 192) hP rfl rfl
    have gl : ∀ i v, l[i]? = some v → xget ph 192 i = some (.int v) := fun i v q => by
      unfold xget
      rw [hat]
      show (l[i]?).map Value.int = _
      rw [q]
      rfl
    obtain ⟨gn, hgn⟩ : ∃ n : Nat, goal.toInt = (n : Int) := ⟨goal.toInt.toNat, by omega⟩
    obtain ⟨v, hv⟩ : ∃ v, l[gn]? = some v := ⟨_, List.getElem?_eq_getElem (by omega)⟩
    have hv2 := hfill gn v (by omega) (gl _ _ hv)
    have hpos : 0 < (l.take (Rn * Cn)).countP xfin := by
      refine List.countP_pos_iff.mpr ⟨v, ?_, xfin_t (by omega)⟩
      refine List.mem_of_getElem? (i := gn) ?_
      rw [List.getElem?_take_of_lt (by omega)]
      exact hv
    refine ⟨l, hat, hlen, fun i x hi hx => ?_⟩
    rcases hfill i x (by omega) (gl _ _ hx) with ⟨-, h⟩ | ⟨-, h⟩
    · exact Or.inr ⟨by omega, by omega⟩
    · exact Or.inl h
  intro s
  induction s with
  | zero =>
    intro f ph hP g9 hR hC hfill hf0 hfs
    refine gt_load (v := .int f) (n := 2) (ykc_279 (e := (2, .iload 5, 0)) rfl) rfl rfl ?_
    refine gt_load (v := .ref 170) (n := 1) (ykc_279 (e := (2, .aload_n kF0, 0)) rfl) rfl rfl ?_
    refine gt_cv (n := 0) (as := [.ref 170]) (r := [.int f]) (ykc_279 (e := (6, .invokevirtual 122, 0)) rfl) rfl hP rfl rfl rfl (xfields (D := D') hP hR hC eR eC r1 c1) rfl (fun vv ph1 hv => ?_)
    obtain ⟨n, e9, e8, h_n⟩ := hv; subst e9; have e7 := e8.symm; subst e7
    change xGT kK (D' + 1) 279 Q (9, [some (.ref 170), some (.int fr), some (.int goal), some (.long over), none, some (.int f), none, none, none, none], [.int n, .int f], ph, 0, 0)
    refine gt_ige_t (ykc_279 (e := (4, .if_icmp .ge 29, 38)) rfl) (by omega) ?_
    refine gt_alu (st' := [.int (Int32.ofInt 0)]) (ykc_279 (e := (0, .iconst 0, 0)) rfl) rfl rfl ?_
    refine gt_store (L' := [some (.ref 170), some (.int fr), some (.int goal), some (.long over), none, some (.int (Int32.ofInt 0)), none, none, none, none]) (st' := []) (n := 2) (ykc_279 (e := (3, .istore 5, 0)) rfl) rfl rfl ?_
    exact kk ph hP g9 hR hC (done f ph hP hfill (by omega))
  | succ s ih =>
    intro f ph hP g9 hR hC hfill hf0 hfs
    by_cases hfN : ((Rn * Cn : Nat) : Int) ≤ f.toInt
    · refine gt_load (v := .int f) (n := 2) (ykc_279 (e := (2, .iload 5, 0)) rfl) rfl rfl ?_
      refine gt_load (v := .ref 170) (n := 1) (ykc_279 (e := (2, .aload_n kF0, 0)) rfl) rfl rfl ?_
      refine gt_cv (n := 0) (as := [.ref 170]) (r := [.int f]) (ykc_279 (e := (6, .invokevirtual 122, 0)) rfl) rfl hP rfl rfl rfl (xfields (D := D') hP hR hC eR eC r1 c1) rfl (fun vv ph1 hv => ?_)
      obtain ⟨n, e9, e8, h_n⟩ := hv; subst e9; have e7 := e8.symm; subst e7
      change xGT kK (D' + 1) 279 Q (9, [some (.ref 170), some (.int fr), some (.int goal), some (.long over), none, some (.int f), none, none, none, none], [.int n, .int f], ph, 0, 0)
      refine gt_ige_t (ykc_279 (e := (4, .if_icmp .ge 29, 38)) rfl) (by omega) ?_
      refine gt_alu (st' := [.int (Int32.ofInt 0)]) (ykc_279 (e := (0, .iconst 0, 0)) rfl) rfl rfl ?_
      refine gt_store (L' := [some (.ref 170), some (.int fr), some (.int goal), some (.long over), none, some (.int (Int32.ofInt 0)), none, none, none, none]) (st' := []) (n := 2) (ykc_279 (e := (3, .istore 5, 0)) rfl) rfl rfl ?_
      exact kk ph hP g9 hR hC (done f ph hP hfill (by omega))
    refine gt_load (v := .int f) (n := 2) (ykc_279 (e := (2, .iload 5, 0)) rfl) rfl rfl ?_
    refine gt_load (v := .ref 170) (n := 1) (ykc_279 (e := (2, .aload_n kF0, 0)) rfl) rfl rfl ?_
    refine gt_cv (n := 0) (as := [.ref 170]) (r := [.int f]) (ykc_279 (e := (6, .invokevirtual 122, 0)) rfl) rfl hP rfl rfl rfl (xfields (D := D') hP hR hC eR eC r1 c1) rfl (fun vv ph1 hv => ?_)
    obtain ⟨n, e9, e8, h_n⟩ := hv; subst e9; have e7 := e8.symm; subst e7
    change xGT kK (D' + 1) 279 Q (9, [some (.ref 170), some (.int fr), some (.int goal), some (.long over), none, some (.int f), none, none, none, none], [.int n, .int f], ph, 0, 0)
    refine gt_ige_f (ykc_279 (e := (4, .if_icmp .ge 29, 38)) rfl) (by omega) rfl ?_
    refine gt_load (v := .ref 170) (n := 1) (ykc_279 (e := (2, .aload_n kF0, 0)) rfl) rfl rfl ?_
    refine gt_gfr (A := 192) (ykc_279 (e := (5, .getfield 95, 0)) rfl) rfl hP rfl rfl rfl ?_
    refine gt_load (v := .int f) (n := 2) (ykc_279 (e := (2, .iload 5, 0)) rfl) rfl rfl ?_
    refine gt_load (v := .int f) (n := 2) (ykc_279 (e := (2, .iload 5, 0)) rfl) rfl rfl ?_
    refine gt_load (v := .int goal) (n := 1) (ykc_279 (e := (2, .iload_n kF2, 0)) rfl) rfl rfl ?_
    by_cases hfg : f.toInt ≠ goal.toInt
    · refine gt_ine_t (ykc_279 (e := (4, .if_icmp .ne 7, 28)) rfl) hfg ?_
      refine gt_push (v := .int (1000000 : Int32)) (n := 3) (ykc_279 (e := (1, .ldc_w 432, 0)) rfl) rfl rfl ?_
      refine gt_ias (A := 192) (y := (1000000 : Int32)) (x := f) (ykc_279 (e := (5, .iastore, 0)) rfl) hP rfl rfl (by omega) (by omega) xany rfl (fun ph202 hP202 u202 => ?_)
      have f202_3 : xget ph202 170 3 = some (.int R) := (u202.2.1 170 3 (fun q => absurd q.1 (by decide))).trans hR
      have f202_4 : xget ph202 170 4 = some (.int C) := (u202.2.1 170 4 (fun q => absurd q.1 (by decide))).trans hC
      obtain ⟨f1, e_f1, h_f1⟩ : ∃ zq : Int32, f + Int32.ofInt 1 = zq ∧ zq.toInt = f.toInt + 1 := ⟨_, rfl, by rw [ti_add (by rw [xi1]; omega) (by rw [xi1]; omega), xi1]⟩
      refine gt_store (L' := [some (.ref 170), some (.int fr), some (.int goal), some (.long over), none, some (.int f1), none, none, none, none]) (st' := []) (n := 3) (ykc_279 (e := (3, .iinc 5 1, 0)) rfl) (by rw [← e_f1]; rfl) rfl ?_
      refine gt_br (pc' := 3) (st' := []) (ykc_279 (e := (4, .goto (-32), 3)) rfl) rfl ?_
      exact ih f1 ph202 hP202 (xu1_E hE u202 rfl rfl rfl g9) ((u202.2.1 170 3 (fun q => absurd q.1 (by decide))).trans hR) ((u202.2.1 170 4 (fun q => absurd q.1 (by decide))).trans hC) (fun i x hi hx => by
        by_cases ei : i = f.toInt.toNat
        · subst ei
          have e9 := xget_int hx u202.1
          subst e9
          exact Or.inr ⟨by omega, by decide⟩
        · exact hfill i x (by omega) ((u202.2.1 192 i (fun q => ei q.2)).symm.trans hx)) (by omega) (by omega)
    · refine gt_ine_f (ykc_279 (e := (4, .if_icmp .ne 7, 28)) rfl) (by omega) rfl ?_
      refine gt_alu (st' := [.int (Int32.ofInt 0), .int f, .ref 192]) (ykc_279 (e := (0, .iconst 0, 0)) rfl) rfl rfl ?_
      refine gt_br (pc' := 31) (st' := [.int (Int32.ofInt 0), .int f, .ref 192]) (ykc_279 (e := (4, .goto 6, 31)) rfl) rfl ?_
      refine gt_ias (A := 192) (y := Int32.ofInt 0) (x := f) (ykc_279 (e := (5, .iastore, 0)) rfl) hP rfl rfl (by omega) (by omega) xany rfl (fun ph202 hP202 u202 => ?_)
      have f202_3 : xget ph202 170 3 = some (.int R) := (u202.2.1 170 3 (fun q => absurd q.1 (by decide))).trans hR
      have f202_4 : xget ph202 170 4 = some (.int C) := (u202.2.1 170 4 (fun q => absurd q.1 (by decide))).trans hC
      obtain ⟨f1, e_f1, h_f1⟩ : ∃ zq : Int32, f + Int32.ofInt 1 = zq ∧ zq.toInt = f.toInt + 1 := ⟨_, rfl, by rw [ti_add (by rw [xi1]; omega) (by rw [xi1]; omega), xi1]⟩
      refine gt_store (L' := [some (.ref 170), some (.int fr), some (.int goal), some (.long over), none, some (.int f1), none, none, none, none]) (st' := []) (n := 3) (ykc_279 (e := (3, .iinc 5 1, 0)) rfl) (by rw [← e_f1]; rfl) rfl ?_
      refine gt_br (pc' := 3) (st' := []) (ykc_279 (e := (4, .goto (-32), 3)) rfl) rfl ?_
      exact ih f1 ph202 hP202 (xu1_E hE u202 rfl rfl rfl g9) ((u202.2.1 170 3 (fun q => absurd q.1 (by decide))).trans hR) ((u202.2.1 170 4 (fun q => absurd q.1 (by decide))).trans hC) (fun i x hi hx => by
        by_cases ei : i = f.toInt.toNat
        · subst ei
          have e9 := xget_int hx u202.1
          subst e9
          exact Or.inl ⟨by omega, by decide⟩
        · exact hfill i x (by omega) ((u202.2.1 192 i (fun q => ei q.2)).symm.trans hx)) (by omega) (by omega)

set_option maxRecDepth 6000 in
theorem xlaysSteps {E : pm_H → Prop} (hE : xHE xX xgA_G97 xgF_G97 E) {m : Int} {w D Rn Cn : Nat} {R C fr goal : Int32} {over : Int64} (hm : m ≤ 2147483646) (hw : (w : Int) ≤ m) (hD : 5 ≤ D) (eR : R.toInt = (Rn : Int)) (eC : C.toInt = (Cn : Int)) (r0 : 3 ≤ Rn) (r1 : Rn ≤ 7) (c0 : 3 ≤ Cn) (c1 : Cn ≤ 7) (hg0 : 0 ≤ goal.toInt) (hg1 : goal.toInt < ((Rn * Cn : Nat) : Int)) {ph : pm_H} (hP : xH xX kK m w ph) (g9 : E ph) (hR : xget ph 170 3 = some (.int R)) (hC : xget ph 170 4 = some (.int C)) : ∃ v ph', pm_Rd kK false (D + 1) 279 [.ref 170, .int fr, .int goal, .long over] ph (v, ph', 0, 0) ∧ (v = none ∧ xH xX kK m w ph' ∧ E ph' ∧ xget ph' 170 3 = some (.int R) ∧ xget ph' 170 4 = some (.int C) ∧ xfar (Rn * Cn) ph') := by
  have z0 : (Int32.ofInt 0).toInt = 0 := by decide
  refine xRd_mk (nl := 10) rfl rfl ?_
  show xGT kK D 279 _ (0, [some (.ref 170), some (.int fr), some (.int goal), some (.long over), none, none, none, none, none, none], [], ph, 0, 0)
  refine gt_alu (st' := [.int (Int32.ofInt 0)]) (ykc_279 (e := (0, .iconst 0, 0)) rfl) rfl rfl ?_
  refine gt_store (L' := [some (.ref 170), some (.int fr), some (.int goal), some (.long over), none, some (.int (Int32.ofInt 0)), none, none, none, none]) (st' := []) (n := 2) (ykc_279 (e := (3, .istore 5, 0)) rfl) rfl rfl ?_
  refine xlays_0 hE hm hw hD eR eC r0 r1 c0 c1 hg0 hg1 ?_ (Rn * Cn) _ ph hP g9 hR hC (fun i x hi => by rw [z0] at hi; exact absurd hi (Nat.not_lt_zero _)) (by omega) (by omega)
  intro ph1 hP1 g91 hR1 hC1 hfar1
  refine xlays_n hE hm hw hD eR eC r0 r1 c0 c1 ?_ (Rn * Cn) _ _ _ _ _ ph1 hP1 g91 hR1 hC1 hfar1 (by omega) (by omega)
  intro o5 o6 o7 o8 o9 ph2 hP2 g92 hR2 hC2 hfar2
  refine gt_ret (ykc_279 (e := (7, .return_, 0)) rfl) rfl ?_
  exact ⟨rfl, hP2, g92, hR2, hC2, hfar2⟩

set_option maxRecDepth 6000 in
theorem xway_w {E : pm_H → Prop} (hE : xHE xX xgA_G97 xgF_G97 E) {m : Int} {w D Rn Cn : Nat} {R C fr goal : Int32} {over : Int64} {Q : Option Value → pm_H → Prop} (hm : m ≤ 2147483646) (hw : (w : Int) ≤ m) (hD : 5 ≤ D) (eR : R.toInt = (Rn : Int)) (eC : C.toInt = (Cn : Int)) (r0 : 3 ≤ Rn) (r1 : Rn ≤ 7) (c0 : 3 ≤ Cn) (c1 : Cn ≤ 7) {x f left : Int32} (hf0 : -1 ≤ f.toInt) (hf1 : f.toInt ≤ 48) {ph : pm_H} (hP : xH xX kK m w ph) (hR : xget ph 170 3 = some (.int R)) (hC : xget ph 170 4 = some (.int C)) (kk : ∀ (nx k : Int32) (o9 o10 : Option Value), -1 ≤ nx.toInt → nx.toInt ≤ 48 → xGT kK D 280 Q (164, [some (.ref 170), some (.int fr), some (.int goal), some (.long over), none, some (.int f), some (.int left), some (.int nx), some (.int k), o9, o10], [], ph, 0, 0)) : ∀ (s : Nat) (nx k : Int32) (o9 o10 : Option Value), -1 ≤ nx.toInt → nx.toInt ≤ 48 → 0 ≤ k.toInt → 8 ≤ k.toInt + s → xGT kK D 280 Q (76, [some (.ref 170), some (.int fr), some (.int goal), some (.long over), none, some (.int f), some (.int left), some (.int nx), some (.int k), o9, o10], [], ph, 0, 0) := by
  obtain ⟨D', rfl⟩ : ∃ D', D = D' + 1 := ⟨D - 1, by omega⟩
  have hN : Rn * Cn ≤ 49 := Nat.mul_le_mul r1 c1
  intro s
  induction s with
  | zero =>
    intro nx k o9 o10 hn0 hn1 hk0 hks
    refine gt_load (v := .int k) (n := 2) (ykc_280 (e := (2, .iload 8, 0)) rfl) rfl rfl ?_
    refine gt_push (v := .int ((Int8.ofInt 8).toInt32)) (n := 2) (ykc_280 (e := (1, .bipush 8, 0)) rfl) rfl rfl ?_
    refine gt_ige_t (ykc_280 (e := (4, .if_icmp .ge 84, 164)) rfl) (by rw [xc8]; omega) ?_
    exact kk _ _ _ _ hn0 hn1
  | succ s ih0 =>
    have ih : ∀ (nx k : Int32) (o9 o10 : Option Value), -1 ≤ nx.toInt → nx.toInt ≤ 48 → 0 ≤ k.toInt → 8 ≤ k.toInt + s → xGT kK (D' + 1) 280 Q (76, [some (.ref 170), some (.int fr), some (.int goal), some (.long over), none, some (.int f), some (.int left), some (.int nx), some (.int k), o9, o10], [], ph, 0, 0) := ih0
    intro nx k o9 o10 hn0 hn1 hk0 hks
    by_cases hk8 : 8 ≤ k.toInt
    · refine gt_load (v := .int k) (n := 2) (ykc_280 (e := (2, .iload 8, 0)) rfl) rfl rfl ?_
      refine gt_push (v := .int ((Int8.ofInt 8).toInt32)) (n := 2) (ykc_280 (e := (1, .bipush 8, 0)) rfl) rfl rfl ?_
      refine gt_ige_t (ykc_280 (e := (4, .if_icmp .ge 84, 164)) rfl) (by rw [xc8]; omega) ?_
      exact kk _ _ _ _ hn0 hn1
    refine gt_load (v := .int k) (n := 2) (ykc_280 (e := (2, .iload 8, 0)) rfl) rfl rfl ?_
    refine gt_push (v := .int ((Int8.ofInt 8).toInt32)) (n := 2) (ykc_280 (e := (1, .bipush 8, 0)) rfl) rfl rfl ?_
    refine gt_ige_f (ykc_280 (e := (4, .if_icmp .ge 84, 164)) rfl) (by rw [xc8]; omega) rfl ?_
    refine gt_load (v := .ref 170) (n := 1) (ykc_280 (e := (2, .aload_n kF0, 0)) rfl) rfl rfl ?_
    refine gt_load (v := .int f) (n := 2) (ykc_280 (e := (2, .iload 5, 0)) rfl) rfl rfl ?_
    refine gt_load (v := .int k) (n := 2) (ykc_280 (e := (2, .iload 8, 0)) rfl) rfl rfl ?_
    refine gt_cv (n := 2) (as := [.ref 170, .int f, .int k]) (r := []) (ykc_280 (e := (6, .invokevirtual 353, 0)) rfl) rfl hP rfl rfl rfl (xbeside hm hw (by omega) hP hR hC eR eC r0 r1 c0 c1 (by omega) (by omega) (by omega) (by omega)) rfl (fun vv ph101 hv => ?_)
    obtain ⟨g, e9, e8, g0, g1⟩ := hv; subst e9; have e7 := e8.symm; subst e7
    change xGT kK (D' + 1) 280 Q (91, [some (.ref 170), some (.int fr), some (.int goal), some (.long over), none, some (.int f), some (.int left), some (.int nx), some (.int k), o9, o10], [.int g], ph, 0, 0)
    refine gt_store (L' := [some (.ref 170), some (.int fr), some (.int goal), some (.long over), none, some (.int f), some (.int left), some (.int nx), some (.int k), some (.int g), o10]) (st' := []) (n := 2) (ykc_280 (e := (3, .istore 9, 0)) rfl) rfl rfl ?_
    refine gt_load (v := .int g) (n := 2) (ykc_280 (e := (2, .iload 9, 0)) rfl) rfl rfl ?_
    by_cases hg : g.toInt < 0
    · refine gt_zlt_t (ykc_280 (e := (4, .ifCond .lt 34, 129)) rfl) hg ?_
      refine gt_alu (st' := [.int (Int32.ofInt 0)]) (ykc_280 (e := (0, .iconst 0, 0)) rfl) rfl rfl ?_
      refine gt_store (L' := [some (.ref 170), some (.int fr), some (.int goal), some (.long over), none, some (.int f), some (.int left), some (.int nx), some (.int k), some (.int g), some (.int (Int32.ofInt 0))]) (st' := []) (n := 2) (ykc_280 (e := (3, .istore 10, 0)) rfl) rfl rfl ?_
      refine gt_load (v := .int (Int32.ofInt 0)) (n := 2) (ykc_280 (e := (2, .iload 10, 0)) rfl) rfl rfl ?_
      refine gt_zeq_t (ykc_280 (e := (4, .ifCond .eq 20, 154)) rfl) (by decide) ?_
      refine gt_load (v := .int nx) (n := 2) (ykc_280 (e := (2, .iload 7, 0)) rfl) rfl rfl ?_
      refine gt_store (L' := [some (.ref 170), some (.int fr), some (.int goal), some (.long over), none, some (.int f), some (.int left), some (.int nx), some (.int k), some (.int g), some (.int (Int32.ofInt 0))]) (st' := []) (n := 2) (ykc_280 (e := (3, .istore 7, 0)) rfl) rfl rfl ?_
      obtain ⟨k1, e_k1, h_k1⟩ : ∃ zq : Int32, k + Int32.ofInt 1 = zq ∧ zq.toInt = k.toInt + 1 := ⟨_, rfl, by rw [ti_add (by rw [xi1]; omega) (by rw [xi1]; omega), xi1]⟩
      refine gt_store (L' := [some (.ref 170), some (.int fr), some (.int goal), some (.long over), none, some (.int f), some (.int left), some (.int nx), some (.int k1), some (.int g), some (.int (Int32.ofInt 0))]) (st' := []) (n := 3) (ykc_280 (e := (3, .iinc 8 1, 0)) rfl) (by rw [← e_k1]; rfl) rfl ?_
      refine gt_br (pc' := 76) (st' := []) (ykc_280 (e := (4, .goto (-85), 76)) rfl) rfl ?_
      exact ih nx k1 _ _ (by omega) (by omega) (by omega) (by omega)
    · refine gt_zlt_f (ykc_280 (e := (4, .ifCond .lt 34, 129)) rfl) (by omega) rfl ?_
      refine gt_load (v := .ref 170) (n := 1) (ykc_280 (e := (2, .aload_n kF0, 0)) rfl) rfl rfl ?_
      refine gt_gfr (A := 192) (ykc_280 (e := (5, .getfield 95, 0)) rfl) rfl hP rfl rfl rfl ?_
      refine gt_load (v := .int g) (n := 2) (ykc_280 (e := (2, .iload 9, 0)) rfl) rfl rfl ?_
      refine gt_ial (A := 192) (ykc_280 (e := (5, .iaload, 0)) rfl) hP rfl rfl (by omega) (by omega) rfl (fun v g_v b_v => ?_)
      refine gt_load (v := .int left) (n := 2) (ykc_280 (e := (2, .iload 6, 0)) rfl) rfl rfl ?_
      by_cases hv9 : v.toInt ≠ left.toInt
      · refine gt_ine_t (ykc_280 (e := (4, .if_icmp .ne 22, 129)) rfl) hv9 ?_
        refine gt_alu (st' := [.int (Int32.ofInt 0)]) (ykc_280 (e := (0, .iconst 0, 0)) rfl) rfl rfl ?_
        refine gt_store (L' := [some (.ref 170), some (.int fr), some (.int goal), some (.long over), none, some (.int f), some (.int left), some (.int nx), some (.int k), some (.int g), some (.int (Int32.ofInt 0))]) (st' := []) (n := 2) (ykc_280 (e := (3, .istore 10, 0)) rfl) rfl rfl ?_
        refine gt_load (v := .int (Int32.ofInt 0)) (n := 2) (ykc_280 (e := (2, .iload 10, 0)) rfl) rfl rfl ?_
        refine gt_zeq_t (ykc_280 (e := (4, .ifCond .eq 20, 154)) rfl) (by decide) ?_
        refine gt_load (v := .int nx) (n := 2) (ykc_280 (e := (2, .iload 7, 0)) rfl) rfl rfl ?_
        refine gt_store (L' := [some (.ref 170), some (.int fr), some (.int goal), some (.long over), none, some (.int f), some (.int left), some (.int nx), some (.int k), some (.int g), some (.int (Int32.ofInt 0))]) (st' := []) (n := 2) (ykc_280 (e := (3, .istore 7, 0)) rfl) rfl rfl ?_
        obtain ⟨k1, e_k1, h_k1⟩ : ∃ zq : Int32, k + Int32.ofInt 1 = zq ∧ zq.toInt = k.toInt + 1 := ⟨_, rfl, by rw [ti_add (by rw [xi1]; omega) (by rw [xi1]; omega), xi1]⟩
        refine gt_store (L' := [some (.ref 170), some (.int fr), some (.int goal), some (.long over), none, some (.int f), some (.int left), some (.int nx), some (.int k1), some (.int g), some (.int (Int32.ofInt 0))]) (st' := []) (n := 3) (ykc_280 (e := (3, .iinc 8 1, 0)) rfl) (by rw [← e_k1]; rfl) rfl ?_
        refine gt_br (pc' := 76) (st' := []) (ykc_280 (e := (4, .goto (-85), 76)) rfl) rfl ?_
        exact ih nx k1 _ _ (by omega) (by omega) (by omega) (by omega)
      · refine gt_ine_f (ykc_280 (e := (4, .if_icmp .ne 22, 129)) rfl) (by omega) rfl ?_
        refine gt_load (v := .int g) (n := 2) (ykc_280 (e := (2, .iload 9, 0)) rfl) rfl rfl ?_
        refine gt_load (v := .int goal) (n := 1) (ykc_280 (e := (2, .iload_n kF2, 0)) rfl) rfl rfl ?_
        by_cases hgg : g.toInt = goal.toInt
        · refine gt_ieq_t (ykc_280 (e := (4, .if_icmp .eq 12, 125)) rfl) hgg ?_
          refine gt_alu (st' := [.int (Int32.ofInt 1)]) (ykc_280 (e := (0, .iconst 1, 0)) rfl) rfl rfl ?_
          refine gt_br (pc' := 130) (st' := [.int (Int32.ofInt 1)]) (ykc_280 (e := (4, .goto 4, 130)) rfl) rfl ?_
          refine gt_store (L' := [some (.ref 170), some (.int fr), some (.int goal), some (.long over), none, some (.int f), some (.int left), some (.int nx), some (.int k), some (.int g), some (.int (Int32.ofInt 1))]) (st' := []) (n := 2) (ykc_280 (e := (3, .istore 10, 0)) rfl) rfl rfl ?_
          refine gt_load (v := .int (Int32.ofInt 1)) (n := 2) (ykc_280 (e := (2, .iload 10, 0)) rfl) rfl rfl ?_
          refine gt_zeq_f (ykc_280 (e := (4, .ifCond .eq 20, 154)) rfl) (by decide) rfl ?_
          refine gt_load (v := .int nx) (n := 2) (ykc_280 (e := (2, .iload 7, 0)) rfl) rfl rfl ?_
          by_cases hn0 : nx.toInt < 0
          · refine gt_zlt_t (ykc_280 (e := (4, .ifCond .lt 10, 149)) rfl) hn0 ?_
            refine gt_load (v := .int g) (n := 2) (ykc_280 (e := (2, .iload 9, 0)) rfl) rfl rfl ?_
            refine gt_br (pc' := 156) (st' := [.int g]) (ykc_280 (e := (4, .goto 5, 156)) rfl) rfl ?_
            refine gt_store (L' := [some (.ref 170), some (.int fr), some (.int goal), some (.long over), none, some (.int f), some (.int left), some (.int g), some (.int k), some (.int g), some (.int (Int32.ofInt 1))]) (st' := []) (n := 2) (ykc_280 (e := (3, .istore 7, 0)) rfl) rfl rfl ?_
            obtain ⟨k1, e_k1, h_k1⟩ : ∃ zq : Int32, k + Int32.ofInt 1 = zq ∧ zq.toInt = k.toInt + 1 := ⟨_, rfl, by rw [ti_add (by rw [xi1]; omega) (by rw [xi1]; omega), xi1]⟩
            refine gt_store (L' := [some (.ref 170), some (.int fr), some (.int goal), some (.long over), none, some (.int f), some (.int left), some (.int g), some (.int k1), some (.int g), some (.int (Int32.ofInt 1))]) (st' := []) (n := 3) (ykc_280 (e := (3, .iinc 8 1, 0)) rfl) (by rw [← e_k1]; rfl) rfl ?_
            refine gt_br (pc' := 76) (st' := []) (ykc_280 (e := (4, .goto (-85), 76)) rfl) rfl ?_
            exact ih g k1 _ _ (by omega) (by omega) (by omega) (by omega)
          · refine gt_zlt_f (ykc_280 (e := (4, .ifCond .lt 10, 149)) rfl) (by omega) rfl ?_
            refine gt_load (v := .int g) (n := 2) (ykc_280 (e := (2, .iload 9, 0)) rfl) rfl rfl ?_
            refine gt_load (v := .int nx) (n := 2) (ykc_280 (e := (2, .iload 7, 0)) rfl) rfl rfl ?_
            by_cases hgn : nx.toInt ≤ g.toInt
            · refine gt_ige_t (ykc_280 (e := (4, .if_icmp .ge 8, 154)) rfl) hgn ?_
              refine gt_load (v := .int nx) (n := 2) (ykc_280 (e := (2, .iload 7, 0)) rfl) rfl rfl ?_
              refine gt_store (L' := [some (.ref 170), some (.int fr), some (.int goal), some (.long over), none, some (.int f), some (.int left), some (.int nx), some (.int k), some (.int g), some (.int (Int32.ofInt 1))]) (st' := []) (n := 2) (ykc_280 (e := (3, .istore 7, 0)) rfl) rfl rfl ?_
              obtain ⟨k1, e_k1, h_k1⟩ : ∃ zq : Int32, k + Int32.ofInt 1 = zq ∧ zq.toInt = k.toInt + 1 := ⟨_, rfl, by rw [ti_add (by rw [xi1]; omega) (by rw [xi1]; omega), xi1]⟩
              refine gt_store (L' := [some (.ref 170), some (.int fr), some (.int goal), some (.long over), none, some (.int f), some (.int left), some (.int nx), some (.int k1), some (.int g), some (.int (Int32.ofInt 1))]) (st' := []) (n := 3) (ykc_280 (e := (3, .iinc 8 1, 0)) rfl) (by rw [← e_k1]; rfl) rfl ?_
              refine gt_br (pc' := 76) (st' := []) (ykc_280 (e := (4, .goto (-85), 76)) rfl) rfl ?_
              exact ih nx k1 _ _ (by omega) (by omega) (by omega) (by omega)
            · refine gt_ige_f (ykc_280 (e := (4, .if_icmp .ge 8, 154)) rfl) (by omega) rfl ?_
              refine gt_load (v := .int g) (n := 2) (ykc_280 (e := (2, .iload 9, 0)) rfl) rfl rfl ?_
              refine gt_br (pc' := 156) (st' := [.int g]) (ykc_280 (e := (4, .goto 5, 156)) rfl) rfl ?_
              refine gt_store (L' := [some (.ref 170), some (.int fr), some (.int goal), some (.long over), none, some (.int f), some (.int left), some (.int g), some (.int k), some (.int g), some (.int (Int32.ofInt 1))]) (st' := []) (n := 2) (ykc_280 (e := (3, .istore 7, 0)) rfl) rfl rfl ?_
              obtain ⟨k1, e_k1, h_k1⟩ : ∃ zq : Int32, k + Int32.ofInt 1 = zq ∧ zq.toInt = k.toInt + 1 := ⟨_, rfl, by rw [ti_add (by rw [xi1]; omega) (by rw [xi1]; omega), xi1]⟩
              refine gt_store (L' := [some (.ref 170), some (.int fr), some (.int goal), some (.long over), none, some (.int f), some (.int left), some (.int g), some (.int k1), some (.int g), some (.int (Int32.ofInt 1))]) (st' := []) (n := 3) (ykc_280 (e := (3, .iinc 8 1, 0)) rfl) (by rw [← e_k1]; rfl) rfl ?_
              refine gt_br (pc' := 76) (st' := []) (ykc_280 (e := (4, .goto (-85), 76)) rfl) rfl ?_
              exact ih g k1 _ _ (by omega) (by omega) (by omega) (by omega)
        · refine gt_ieq_f (ykc_280 (e := (4, .if_icmp .eq 12, 125)) rfl) hgg rfl ?_
          refine gt_load (v := .long over) (n := 1) (ykc_280 (e := (2, .lload_n kF3, 0)) rfl) rfl rfl ?_
          refine gt_load (v := .int g) (n := 2) (ykc_280 (e := (2, .iload 9, 0)) rfl) rfl rfl ?_
          refine gt_cs (n := 2) (as := [.long over, .int g]) (r := []) (ykc_280 (e := (6, .invokestatic 304, 0)) rfl) rfl rfl rfl rfl (xhas_run (D := D')) rfl (fun vv ph402 hv => ?_)
          obtain ⟨z1, e9, e8, z1_s⟩ := hv; subst e9; have e7 := e8.symm; subst e7
          change xGT kK (D' + 1) 280 Q (122, [some (.ref 170), some (.int fr), some (.int goal), some (.long over), none, some (.int f), some (.int left), some (.int nx), some (.int k), some (.int g), o10], [.int z1], ph, 0, 0)
          by_cases hz1 : z1.toInt = 0
          · refine gt_zeq_t (ykc_280 (e := (4, .ifCond .eq 7, 129)) rfl) hz1 ?_
            refine gt_alu (st' := [.int (Int32.ofInt 0)]) (ykc_280 (e := (0, .iconst 0, 0)) rfl) rfl rfl ?_
            refine gt_store (L' := [some (.ref 170), some (.int fr), some (.int goal), some (.long over), none, some (.int f), some (.int left), some (.int nx), some (.int k), some (.int g), some (.int (Int32.ofInt 0))]) (st' := []) (n := 2) (ykc_280 (e := (3, .istore 10, 0)) rfl) rfl rfl ?_
            refine gt_load (v := .int (Int32.ofInt 0)) (n := 2) (ykc_280 (e := (2, .iload 10, 0)) rfl) rfl rfl ?_
            refine gt_zeq_t (ykc_280 (e := (4, .ifCond .eq 20, 154)) rfl) (by decide) ?_
            refine gt_load (v := .int nx) (n := 2) (ykc_280 (e := (2, .iload 7, 0)) rfl) rfl rfl ?_
            refine gt_store (L' := [some (.ref 170), some (.int fr), some (.int goal), some (.long over), none, some (.int f), some (.int left), some (.int nx), some (.int k), some (.int g), some (.int (Int32.ofInt 0))]) (st' := []) (n := 2) (ykc_280 (e := (3, .istore 7, 0)) rfl) rfl rfl ?_
            obtain ⟨k1, e_k1, h_k1⟩ : ∃ zq : Int32, k + Int32.ofInt 1 = zq ∧ zq.toInt = k.toInt + 1 := ⟨_, rfl, by rw [ti_add (by rw [xi1]; omega) (by rw [xi1]; omega), xi1]⟩
            refine gt_store (L' := [some (.ref 170), some (.int fr), some (.int goal), some (.long over), none, some (.int f), some (.int left), some (.int nx), some (.int k1), some (.int g), some (.int (Int32.ofInt 0))]) (st' := []) (n := 3) (ykc_280 (e := (3, .iinc 8 1, 0)) rfl) (by rw [← e_k1]; rfl) rfl ?_
            refine gt_br (pc' := 76) (st' := []) (ykc_280 (e := (4, .goto (-85), 76)) rfl) rfl ?_
            exact ih nx k1 _ _ (by omega) (by omega) (by omega) (by omega)
          · refine gt_zeq_f (ykc_280 (e := (4, .ifCond .eq 7, 129)) rfl) hz1 rfl ?_
            refine gt_alu (st' := [.int (Int32.ofInt 1)]) (ykc_280 (e := (0, .iconst 1, 0)) rfl) rfl rfl ?_
            refine gt_br (pc' := 130) (st' := [.int (Int32.ofInt 1)]) (ykc_280 (e := (4, .goto 4, 130)) rfl) rfl ?_
            refine gt_store (L' := [some (.ref 170), some (.int fr), some (.int goal), some (.long over), none, some (.int f), some (.int left), some (.int nx), some (.int k), some (.int g), some (.int (Int32.ofInt 1))]) (st' := []) (n := 2) (ykc_280 (e := (3, .istore 10, 0)) rfl) rfl rfl ?_
            refine gt_load (v := .int (Int32.ofInt 1)) (n := 2) (ykc_280 (e := (2, .iload 10, 0)) rfl) rfl rfl ?_
            refine gt_zeq_f (ykc_280 (e := (4, .ifCond .eq 20, 154)) rfl) (by decide) rfl ?_
            refine gt_load (v := .int nx) (n := 2) (ykc_280 (e := (2, .iload 7, 0)) rfl) rfl rfl ?_
            by_cases hn0 : nx.toInt < 0
            · refine gt_zlt_t (ykc_280 (e := (4, .ifCond .lt 10, 149)) rfl) hn0 ?_
              refine gt_load (v := .int g) (n := 2) (ykc_280 (e := (2, .iload 9, 0)) rfl) rfl rfl ?_
              refine gt_br (pc' := 156) (st' := [.int g]) (ykc_280 (e := (4, .goto 5, 156)) rfl) rfl ?_
              refine gt_store (L' := [some (.ref 170), some (.int fr), some (.int goal), some (.long over), none, some (.int f), some (.int left), some (.int g), some (.int k), some (.int g), some (.int (Int32.ofInt 1))]) (st' := []) (n := 2) (ykc_280 (e := (3, .istore 7, 0)) rfl) rfl rfl ?_
              obtain ⟨k1, e_k1, h_k1⟩ : ∃ zq : Int32, k + Int32.ofInt 1 = zq ∧ zq.toInt = k.toInt + 1 := ⟨_, rfl, by rw [ti_add (by rw [xi1]; omega) (by rw [xi1]; omega), xi1]⟩
              refine gt_store (L' := [some (.ref 170), some (.int fr), some (.int goal), some (.long over), none, some (.int f), some (.int left), some (.int g), some (.int k1), some (.int g), some (.int (Int32.ofInt 1))]) (st' := []) (n := 3) (ykc_280 (e := (3, .iinc 8 1, 0)) rfl) (by rw [← e_k1]; rfl) rfl ?_
              refine gt_br (pc' := 76) (st' := []) (ykc_280 (e := (4, .goto (-85), 76)) rfl) rfl ?_
              exact ih g k1 _ _ (by omega) (by omega) (by omega) (by omega)
            · refine gt_zlt_f (ykc_280 (e := (4, .ifCond .lt 10, 149)) rfl) (by omega) rfl ?_
              refine gt_load (v := .int g) (n := 2) (ykc_280 (e := (2, .iload 9, 0)) rfl) rfl rfl ?_
              refine gt_load (v := .int nx) (n := 2) (ykc_280 (e := (2, .iload 7, 0)) rfl) rfl rfl ?_
              by_cases hgn : nx.toInt ≤ g.toInt
              · refine gt_ige_t (ykc_280 (e := (4, .if_icmp .ge 8, 154)) rfl) hgn ?_
                refine gt_load (v := .int nx) (n := 2) (ykc_280 (e := (2, .iload 7, 0)) rfl) rfl rfl ?_
                refine gt_store (L' := [some (.ref 170), some (.int fr), some (.int goal), some (.long over), none, some (.int f), some (.int left), some (.int nx), some (.int k), some (.int g), some (.int (Int32.ofInt 1))]) (st' := []) (n := 2) (ykc_280 (e := (3, .istore 7, 0)) rfl) rfl rfl ?_
                obtain ⟨k1, e_k1, h_k1⟩ : ∃ zq : Int32, k + Int32.ofInt 1 = zq ∧ zq.toInt = k.toInt + 1 := ⟨_, rfl, by rw [ti_add (by rw [xi1]; omega) (by rw [xi1]; omega), xi1]⟩
                refine gt_store (L' := [some (.ref 170), some (.int fr), some (.int goal), some (.long over), none, some (.int f), some (.int left), some (.int nx), some (.int k1), some (.int g), some (.int (Int32.ofInt 1))]) (st' := []) (n := 3) (ykc_280 (e := (3, .iinc 8 1, 0)) rfl) (by rw [← e_k1]; rfl) rfl ?_
                refine gt_br (pc' := 76) (st' := []) (ykc_280 (e := (4, .goto (-85), 76)) rfl) rfl ?_
                exact ih nx k1 _ _ (by omega) (by omega) (by omega) (by omega)
              · refine gt_ige_f (ykc_280 (e := (4, .if_icmp .ge 8, 154)) rfl) (by omega) rfl ?_
                refine gt_load (v := .int g) (n := 2) (ykc_280 (e := (2, .iload 9, 0)) rfl) rfl rfl ?_
                refine gt_br (pc' := 156) (st' := [.int g]) (ykc_280 (e := (4, .goto 5, 156)) rfl) rfl ?_
                refine gt_store (L' := [some (.ref 170), some (.int fr), some (.int goal), some (.long over), none, some (.int f), some (.int left), some (.int g), some (.int k), some (.int g), some (.int (Int32.ofInt 1))]) (st' := []) (n := 2) (ykc_280 (e := (3, .istore 7, 0)) rfl) rfl rfl ?_
                obtain ⟨k1, e_k1, h_k1⟩ : ∃ zq : Int32, k + Int32.ofInt 1 = zq ∧ zq.toInt = k.toInt + 1 := ⟨_, rfl, by rw [ti_add (by rw [xi1]; omega) (by rw [xi1]; omega), xi1]⟩
                refine gt_store (L' := [some (.ref 170), some (.int fr), some (.int goal), some (.long over), none, some (.int f), some (.int left), some (.int g), some (.int k1), some (.int g), some (.int (Int32.ofInt 1))]) (st' := []) (n := 3) (ykc_280 (e := (3, .iinc 8 1, 0)) rfl) (by rw [← e_k1]; rfl) rfl ?_
                refine gt_br (pc' := 76) (st' := []) (ykc_280 (e := (4, .goto (-85), 76)) rfl) rfl ?_
                exact ih g k1 _ _ (by omega) (by omega) (by omega) (by omega)

set_option maxRecDepth 6000 in
theorem xway_l {E : pm_H → Prop} (hE : xHE xX xgA_G97 xgF_G97 E) {m : Int} {w D Rn Cn : Nat} {R C fr goal : Int32} {over : Int64} {Q : Option Value → pm_H → Prop} (hm : m ≤ 2147483646) (hw : (w : Int) ≤ m) (hD : 5 ≤ D) (eR : R.toInt = (Rn : Int)) (eC : C.toInt = (Cn : Int)) (r0 : 3 ≤ Rn) (r1 : Rn ≤ 7) (c0 : 3 ≤ Cn) (c1 : Cn ≤ 7) {x : Int32} (hf0 : 0 ≤ fr.toInt) (hf1 : fr.toInt < 49) (hQ : ∀ ph' : pm_H, xH xX kK m w ph' → E ph' → Q (some (.int x)) ph') : ∀ (s : Nat) (f left t : Int32) (o7 o8 o9 o10 : Option Value) (ph : pm_H), xH xX kK m w ph → E ph → xget ph 170 3 = some (.int R) → xget ph 170 4 = some (.int C) → xget ph 170 1 = some (.int t) → xget ph 192 fr.toInt.toNat = some (.int x) → -1 ≤ f.toInt → f.toInt ≤ 48 → left.toInt < s → 0 ≤ t.toInt → t.toInt ≤ 49 → t.toInt + left.toInt ≤ 48 → xGT kK D 280 Q (65, [some (.ref 170), some (.int fr), some (.int goal), some (.long over), none, some (.int f), some (.int left), o7, o8, o9, o10], [], ph, 0, 0) := by
  obtain ⟨D', rfl⟩ : ∃ D', D = D' + 1 := ⟨D - 1, by omega⟩
  have hN : Rn * Cn ≤ 49 := Nat.mul_le_mul r1 c1
  intro s
  induction s with
  | zero =>
    intro f left t o7 o8 o9 o10 ph hP g9 hR hC ht hx f0 f1 hls t0 t1 htl
    have hl : left.toInt < 0 := by omega
    have hA : ∃ l, pm_at ph 192 = some (.inl (0, .inl l)) := by
      obtain ⟨l, h, -⟩ := xA_at (A := 192) hP rfl rfl
      exact ⟨l, h⟩
    refine gt_load (v := .int left) (n := 2) (ykc_280 (e := (2, .iload 6, 0)) rfl) rfl rfl ?_
    refine gt_zlt_t (ykc_280 (e := (4, .ifCond .lt 114, 181)) rfl) hl ?_
    refine gt_load (v := .ref 170) (n := 1) (ykc_280 (e := (2, .aload_n kF0, 0)) rfl) rfl rfl ?_
    refine gt_gfr (A := 192) (ykc_280 (e := (5, .getfield 95, 0)) rfl) rfl hP rfl rfl rfl ?_
    refine gt_load (v := .int fr) (n := 1) (ykc_280 (e := (2, .iload_n kF1, 0)) rfl) rfl rfl ?_
    refine gt_ialk (y := x) (ykc_280 (e := (5, .iaload, 0)) rfl) hx hA (by omega) rfl ?_
    refine gt_ret (ykc_280 (e := (7, .ireturn, 0)) rfl) rfl ?_
    exact hQ _ hP g9
  | succ s ih =>
    intro f left t o7 o8 o9 o10 ph hP g9 hR hC ht hx f0 f1 hls t0 t1 htl
    have hA : ∃ l, pm_at ph 192 = some (.inl (0, .inl l)) := by
      obtain ⟨l, h, -⟩ := xA_at (A := 192) hP rfl rfl
      exact ⟨l, h⟩
    refine gt_load (v := .int left) (n := 2) (ykc_280 (e := (2, .iload 6, 0)) rfl) rfl rfl ?_
    by_cases hl : left.toInt < 0
    · refine gt_zlt_t (ykc_280 (e := (4, .ifCond .lt 114, 181)) rfl) hl ?_
      refine gt_load (v := .ref 170) (n := 1) (ykc_280 (e := (2, .aload_n kF0, 0)) rfl) rfl rfl ?_
      refine gt_gfr (A := 192) (ykc_280 (e := (5, .getfield 95, 0)) rfl) rfl hP rfl rfl rfl ?_
      refine gt_load (v := .int fr) (n := 1) (ykc_280 (e := (2, .iload_n kF1, 0)) rfl) rfl rfl ?_
      refine gt_ialk (y := x) (ykc_280 (e := (5, .iaload, 0)) rfl) hx hA (by omega) rfl ?_
      refine gt_ret (ykc_280 (e := (7, .ireturn, 0)) rfl) rfl ?_
      exact hQ _ hP g9
    · refine gt_zlt_f (ykc_280 (e := (4, .ifCond .lt 114, 181)) rfl) (by omega) rfl ?_
      refine gt_alu (st' := [.int (Int32.ofInt (-1))]) (ykc_280 (e := (0, .iconst (-1), 0)) rfl) rfl rfl ?_
      refine gt_store (L' := [some (.ref 170), some (.int fr), some (.int goal), some (.long over), none, some (.int f), some (.int left), some (.int (Int32.ofInt (-1))), o8, o9, o10]) (st' := []) (n := 2) (ykc_280 (e := (3, .istore 7, 0)) rfl) rfl rfl ?_
      refine gt_alu (st' := [.int (Int32.ofInt 0)]) (ykc_280 (e := (0, .iconst 0, 0)) rfl) rfl rfl ?_
      refine gt_store (L' := [some (.ref 170), some (.int fr), some (.int goal), some (.long over), none, some (.int f), some (.int left), some (.int (Int32.ofInt (-1))), some (.int (Int32.ofInt 0)), o9, o10]) (st' := []) (n := 2) (ykc_280 (e := (3, .istore 8, 0)) rfl) rfl rfl ?_
      have z00 : (Int32.ofInt 0).toInt = 0 := by decide
      refine xway_w (x := x) hE hm hw hD eR eC r0 r1 c0 c1 f0 f1 hP hR hC ?_ 8 _ _ _ _ (by rw [xim1]; omega) (by rw [xim1]; omega) (by omega) (by omega)
      intro nx2 k2 o92 o102 hn0 hn1
      refine gt_load (v := .int nx2) (n := 2) (ykc_280 (e := (2, .iload 7, 0)) rfl) rfl rfl ?_
      refine gt_store (L' := [some (.ref 170), some (.int fr), some (.int goal), some (.long over), none, some (.int nx2), some (.int left), some (.int nx2), some (.int k2), o92, o102]) (st' := []) (n := 2) (ykc_280 (e := (3, .istore 5, 0)) rfl) rfl rfl ?_
      refine gt_load (v := .ref 170) (n := 1) (ykc_280 (e := (2, .aload_n kF0, 0)) rfl) rfl rfl ?_
      refine gt_load (v := .int nx2) (n := 2) (ykc_280 (e := (2, .iload 5, 0)) rfl) rfl rfl ?_
      refine gt_alu (st' := [.long nx2.toInt64, .ref 170]) (ykc_280 (e := (0, .i2l, 0)) rfl) rfl rfl ?_
      refine gt_cv (n := 1) (as := [.ref 170, .long nx2.toInt64]) (r := []) (ykc_280 (e := (6, .invokevirtual 373, 0)) rfl) rfl hP rfl rfl rfl (xenters (D := D') hP ht (by omega) (by omega)) rfl (fun vv ph1 hv => ?_)
      obtain ⟨t1, e9, h_t1, hP1, u1⟩ := hv; subst e9
      change xGT kK (D' + 1) 280 Q (175, [some (.ref 170), some (.int fr), some (.int goal), some (.long over), none, some (.int nx2), some (.int left), some (.int nx2), some (.int k2), o92, o102], [], ph1, 0, 0)
      obtain ⟨left1, e_left1, h_left1⟩ : ∃ zq : Int32, left + Int32.ofInt (-1) = zq ∧ zq.toInt = left.toInt - 1 := ⟨_, rfl, by rw [ti_add (by rw [xim1]; omega) (by rw [xim1]; omega), xim1]; omega⟩
      refine gt_store (L' := [some (.ref 170), some (.int fr), some (.int goal), some (.long over), none, some (.int nx2), some (.int left1), some (.int nx2), some (.int k2), o92, o102]) (st' := []) (n := 3) (ykc_280 (e := (3, .iinc 6 (-1), 0)) rfl) (by rw [← e_left1]; rfl) rfl ?_
      refine gt_br (pc' := 65) (st' := []) (ykc_280 (e := (4, .goto (-113), 65)) rfl) rfl ?_
      exact ih nx2 left1 t1 _ _ _ _ ph1 hP1 (xent1_E hE u1 rfl rfl rfl g9) ((u1.2.1 170 3 (by decide)).trans hR) ((u1.2.1 170 4 (by decide)).trans hC) u1.1 ((u1.2.1 192 _ (fun q => absurd q.1 (by decide))).trans hx) hn0 hn1 (by omega) (by omega) (by omega) (by omega)

set_option maxRecDepth 6000 in
theorem xNEV : (1000000 : Int32).toInt = 1000000 := by decide
set_option maxRecDepth 6000 in
theorem xlays {E : pm_H → Prop} (hE : xHE xX xgA_G97 xgF_G97 E) {Rn Cn : Nat} (r0 : 3 ≤ Rn) (r1 : Rn ≤ 7) (c0 : 3 ≤ Cn) (c1 : Cn ≤ 7) {hi : Int} (hhi : hi = ((Rn * Cn : Nat) : Int) - 1) : xcon xX kK E 10 280 [.inr (.inr (.inl 0)), .inl (Int.ofNat 0, hi), .inl (Int.ofNat 0, hi), .inr (.inl ((Int.negSucc 9223372036854775807), (Int.ofNat 9223372036854775807)))] [(696323, .inl (Int.ofNat Rn, Int.ofNat Rn)), (696324, .inl (Int.ofNat Cn, Int.ofNat Cn))] 0 (some (.inl ((Int.negSucc 1), (Int.ofNat 48)))) [] := by
  intro D hD m hm h0m vs ph hv hf hP g9
  obtain ⟨D', rfl⟩ : ∃ D', D = D' + 1 + 1 + 1 := ⟨D - 3, by omega⟩
  match vs, hv with
  | [v1, v2, v3, v4], ⟨q1, ⟨fr, e2, f0, f1⟩, ⟨goal, e3, hg0, g1⟩, ⟨over, e4, _, _⟩, _⟩ =>
  have e1 := xaO hP (A := 170) rfl q1
  subst e1 e2 e3 e4
  have f0 : 0 ≤ fr.toInt := f0
  have hg0 : 0 ≤ goal.toInt := hg0
  have hg1 : goal.toInt < ((Rn * Cn : Nat) : Int) := by omega
  have hf1 : fr.toInt < ((Rn * Cn : Nat) : Int) := by omega
  have hN : Rn * Cn ≤ 49 := Nat.mul_le_mul r1 c1
  have hw : ((0 : Nat) : Int) ≤ m := h0m
  have fact : ∀ (k c : Nat) (key : Nat), key = 170 * 4096 + k → k < 4096 → (key, (.inl (Int.ofNat c, Int.ofNat c) : xh)) ∈ [(696323, (.inl (Int.ofNat Rn, Int.ofNat Rn) : xh)), (696324, .inl (Int.ofNat Cn, Int.ofNat Cn))] → ∃ x : Int32, xget ph 170 k = some (.int x) ∧ x.toInt = (c : Int) := fun k c key e hk hm9 => by
    obtain ⟨-, -, v, h1, x, e9, h2, h3⟩ := hf key _ hm9
    subst e9
    have ek : key / 4096 = 170 ∧ key % 4096 = k := by omega
    rw [ek.1, ek.2] at h1
    have h2 : (c : Int) ≤ x.toInt := h2
    have h3 : x.toInt ≤ (c : Int) := h3
    exact ⟨x, h1, by omega⟩
  obtain ⟨R, hR, eR⟩ := fact 3 Rn 696323 (by decide) (by decide) List.mem_cons_self
  obtain ⟨C, hC, eC⟩ := fact 4 Cn 696324 (by decide) (by decide) (List.mem_cons_of_mem _ List.mem_cons_self)
  suffices hs : ∃ v ph', pm_Rd kK false (D' + 1 + 1 + 1) 280 [.ref 170, .int fr, .int goal, .long over] ph (v, ph', 0, 0) ∧ (∃ z : Int32, v = some (.int z) ∧ -2 ≤ z.toInt ∧ z.toInt ≤ 48 ∧ xH xX kK m 0 ph' ∧ E ph') by
    obtain ⟨v, ph', k1, z, e, z0, z1, hP1, g91⟩ := hs
    exact ⟨v, ph', k1, hP1, g91, ⟨_, e, z, rfl, z0, z1⟩, xF0⟩
  refine xRd_mk (nl := 11) rfl rfl ?_
  show xGT kK (D' + 1 + 1) 280 _ (0, [some (.ref 170), some (.int fr), some (.int goal), some (.long over), none, none, none, none, none, none, none], [], ph, 0, 0)
  refine gt_load (v := .ref 170) (n := 1) (ykc_280 (e := (2, .aload_n kF0, 0)) rfl) rfl rfl ?_
  refine gt_load (v := .int fr) (n := 1) (ykc_280 (e := (2, .iload_n kF1, 0)) rfl) rfl rfl ?_
  refine gt_load (v := .int goal) (n := 1) (ykc_280 (e := (2, .iload_n kF2, 0)) rfl) rfl rfl ?_
  refine gt_load (v := .long over) (n := 1) (ykc_280 (e := (2, .lload_n kF3, 0)) rfl) rfl rfl ?_
  refine gt_cv (n := 3) (as := [.ref 170, .int fr, .int goal, .long over]) (r := []) (ykc_280 (e := (6, .invokevirtual 446, 0)) rfl) rfl hP rfl rfl rfl (xlaysSteps hE hm hw (by omega) eR eC r0 r1 c0 c1 hg0 hg1 hP g9 hR hC) rfl (fun vv ph1 hv => ?_)
  obtain ⟨e9, hP1, g91, hR1, hC1, hfar⟩ := hv; subst e9
  change xGT kK (D' + 1 + 1) 280 _ (7, [some (.ref 170), some (.int fr), some (.int goal), some (.long over), none, none, none, none, none, none, none], [], ph1, 0, 0)
  refine gt_load (v := .ref 170) (n := 1) (ykc_280 (e := (2, .aload_n kF0, 0)) rfl) rfl rfl ?_
  refine gt_gfr (A := 172) (ykc_280 (e := (5, .getfield 33, 0)) rfl) rfl hP1 rfl rfl rfl ?_
  refine gt_load (v := .int fr) (n := 1) (ykc_280 (e := (2, .iload_n kF1, 0)) rfl) rfl rfl ?_
  refine gt_bal (A := 172) (ykc_280 (e := (5, .baload, 0)) rfl) hP1 rfl rfl (by omega) (by omega) rfl (fun k1 g_k1 b0_k1 b1_k1 => ?_)
  by_cases hk1 : k1.toInt ≠ 0
  · refine gt_zne_t (ykc_280 (e := (4, .ifCond .ne 24, 37)) rfl) hk1 ?_
    refine gt_push (v := .int ((Int8.ofInt (-2)).toInt32)) (n := 2) (ykc_280 (e := (1, .bipush (-2), 0)) rfl) rfl rfl ?_
    refine gt_ret (ykc_280 (e := (7, .ireturn, 0)) rfl) rfl ?_
    exact ⟨_, rfl, by decide, by decide, hP1, g91⟩
  · refine gt_zne_f (ykc_280 (e := (4, .ifCond .ne 24, 37)) rfl) (by omega) rfl ?_
    refine gt_load (v := .ref 170) (n := 1) (ykc_280 (e := (2, .aload_n kF0, 0)) rfl) rfl rfl ?_
    refine gt_gfr (A := 172) (ykc_280 (e := (5, .getfield 33, 0)) rfl) rfl hP1 rfl rfl rfl ?_
    refine gt_load (v := .int goal) (n := 1) (ykc_280 (e := (2, .iload_n kF2, 0)) rfl) rfl rfl ?_
    refine gt_bal (A := 172) (ykc_280 (e := (5, .baload, 0)) rfl) hP1 rfl rfl (by omega) (by omega) rfl (fun k2 g_k2 b0_k2 b1_k2 => ?_)
    by_cases hk2 : k2.toInt ≠ 0
    · refine gt_zne_t (ykc_280 (e := (4, .ifCond .ne 15, 37)) rfl) hk2 ?_
      refine gt_push (v := .int ((Int8.ofInt (-2)).toInt32)) (n := 2) (ykc_280 (e := (1, .bipush (-2), 0)) rfl) rfl rfl ?_
      refine gt_ret (ykc_280 (e := (7, .ireturn, 0)) rfl) rfl ?_
      exact ⟨_, rfl, by decide, by decide, hP1, g91⟩
    · refine gt_zne_f (ykc_280 (e := (4, .ifCond .ne 15, 37)) rfl) (by omega) rfl ?_
      refine gt_load (v := .ref 170) (n := 1) (ykc_280 (e := (2, .aload_n kF0, 0)) rfl) rfl rfl ?_
      refine gt_gfr (A := 192) (ykc_280 (e := (5, .getfield 95, 0)) rfl) rfl hP1 rfl rfl rfl ?_
      refine gt_load (v := .int fr) (n := 1) (ykc_280 (e := (2, .iload_n kF1, 0)) rfl) rfl rfl ?_
      refine gt_ial (A := 192) (ykc_280 (e := (5, .iaload, 0)) rfl) hP1 rfl rfl (by omega) (by omega) rfl (fun x g_x b_x => ?_)
      refine gt_push (v := .int (1000000 : Int32)) (n := 3) (ykc_280 (e := (1, .ldc_w 432, 0)) rfl) rfl rfl ?_
      have hx9 := xfar_get hN hfar (show fr.toInt.toNat < Rn * Cn by omega) g_x
      by_cases hxN : 1000000 ≤ x.toInt
      · refine gt_ilt_f (ykc_280 (e := (4, .if_icmp .lt 6, 40)) rfl) (by rw [xNEV]; omega) rfl ?_
        refine gt_push (v := .int ((Int8.ofInt (-2)).toInt32)) (n := 2) (ykc_280 (e := (1, .bipush (-2), 0)) rfl) rfl rfl ?_
        refine gt_ret (ykc_280 (e := (7, .ireturn, 0)) rfl) rfl ?_
        exact ⟨_, rfl, by decide, by decide, hP1, g91⟩
      · refine gt_ilt_t (ykc_280 (e := (4, .if_icmp .lt 6, 40)) rfl) (by rw [xNEV]; omega) ?_
        refine gt_load (v := .ref 170) (n := 1) (ykc_280 (e := (2, .aload_n kF0, 0)) rfl) rfl rfl ?_
        refine gt_alu (st' := [.int (Int32.ofInt 0), .ref 170]) (ykc_280 (e := (0, .iconst 0, 0)) rfl) rfl rfl ?_
        refine gt_pf (y := Int32.ofInt 0) (ykc_280 (e := (5, .putfield 15, 0)) rfl) rfl hP1 rfl rfl (by decide) (by decide) rfl (fun ph302 hP302 u302 => ?_)
        have f302_3 : xget ph302 170 3 = some (.int R) := (u302.2.1 170 3 (by decide)).trans hR1
        have f302_4 : xget ph302 170 4 = some (.int C) := (u302.2.1 170 4 (by decide)).trans hC1
        refine gt_load (v := .int fr) (n := 1) (ykc_280 (e := (2, .iload_n kF1, 0)) rfl) rfl rfl ?_
        refine gt_store (L' := [some (.ref 170), some (.int fr), some (.int goal), some (.long over), none, some (.int fr), none, none, none, none, none]) (st' := []) (n := 2) (ykc_280 (e := (3, .istore 5, 0)) rfl) rfl rfl ?_
        refine gt_load (v := .ref 170) (n := 1) (ykc_280 (e := (2, .aload_n kF0, 0)) rfl) rfl rfl ?_
        refine gt_load (v := .int fr) (n := 2) (ykc_280 (e := (2, .iload 5, 0)) rfl) rfl rfl ?_
        refine gt_alu (st' := [.long fr.toInt64, .ref 170]) (ykc_280 (e := (0, .i2l, 0)) rfl) rfl rfl ?_
        refine gt_cv (n := 1) (as := [.ref 170, .long fr.toInt64]) (r := []) (ykc_280 (e := (6, .invokevirtual 373, 0)) rfl) rfl hP302 rfl rfl rfl (xenters (D := D' + 1) hP302 u302.1 (by decide) (by decide)) rfl (fun vv ph303 hv => ?_)
        obtain ⟨t1, e9, h_t1, hP303, u303⟩ := hv; subst e9
        have hx303 : xget ph303 192 fr.toInt.toNat = some (.int x) := (u303.2.1 192 _ (fun q => absurd q.1 (by decide))).trans ((u302.2.1 192 _ (fun q => absurd q.1 (by decide))).trans g_x)
        obtain ⟨l9, hA9, -⟩ := xA_at (A := 192) hP303 rfl rfl
        have hA303 : ∃ l, pm_at ph303 192 = some (.inl (0, .inl l)) := ⟨l9, hA9⟩
        change xGT kK (D' + 1 + 1) 280 _ (55, [some (.ref 170), some (.int fr), some (.int goal), some (.long over), none, some (.int fr), none, none, none, none, none], [], ph303, 0, 0)
        refine gt_load (v := .ref 170) (n := 1) (ykc_280 (e := (2, .aload_n kF0, 0)) rfl) rfl rfl ?_
        refine gt_gfr (A := 192) (ykc_280 (e := (5, .getfield 95, 0)) rfl) rfl hP303 rfl rfl rfl ?_
        refine gt_load (v := .int fr) (n := 1) (ykc_280 (e := (2, .iload_n kF1, 0)) rfl) rfl rfl ?_
        refine gt_ialk (y := x) (ykc_280 (e := (5, .iaload, 0)) rfl) hx303 hA303 (by omega) rfl ?_
        refine gt_alu (st' := [.int (Int32.ofInt 1), .int x]) (ykc_280 (e := (0, .iconst 1, 0)) rfl) rfl rfl ?_
        obtain ⟨left, e_left, h_left⟩ : ∃ zq : Int32, x - (Int32.ofInt 1) = zq ∧ zq.toInt = x.toInt - 1 := ⟨_, rfl, by rw [ti_sub (by rw [xi1]; omega) (by rw [xi1]; omega), xi1]⟩
        refine gt_alu (st' := [.int left]) (ykc_280 (e := (0, .isub, 0)) rfl) (by rw [← e_left]; exact rfl) rfl ?_
        refine gt_store (L' := [some (.ref 170), some (.int fr), some (.int goal), some (.long over), none, some (.int fr), some (.int left), none, none, none, none]) (st' := []) (n := 2) (ykc_280 (e := (3, .istore 6, 0)) rfl) rfl rfl ?_
        have z00 : (Int32.ofInt 0).toInt = 0 := by decide
        exact xway_l hE hm hw (by omega) eR eC r0 r1 c0 c1 (x := x) f0 (by omega) (fun ph' h1 h2 => ⟨x, rfl, by omega, by omega, h1, h2⟩) (left.toInt.toNat + 1) fr left t1 _ _ _ _ ph303 hP303 (xent1_E hE u303 rfl rfl rfl (xu1_E hE u302 rfl rfl rfl g91)) ((u303.2.1 170 3 (by decide)).trans ((u302.2.1 170 3 (by decide)).trans hR1)) ((u303.2.1 170 4 (by decide)).trans ((u302.2.1 170 4 (by decide)).trans hC1)) u303.1 hx303 (by omega) (by omega) (by omega) (by omega) (by omega) (by omega)

set_option maxRecDepth 6000 in
theorem xlays_v0 {E : pm_H → Prop} (hE : xHE xX xgA_G97 xgF_G97 E) : xcon xX kK E 10 280 [.inr (.inr (.inl 0)), .inl ((Int.ofNat 0), (Int.ofNat 8)), .inl ((Int.ofNat 0), (Int.ofNat 8)), .inr (.inl ((Int.negSucc 9223372036854775807), (Int.ofNat 9223372036854775807)))] [(696323, .inl ((Int.ofNat 3), (Int.ofNat 3))), (696324, .inl ((Int.ofNat 3), (Int.ofNat 3)))] 0 (some (.inl ((Int.negSucc 1), (Int.ofNat 48)))) [] := xlays hE (Rn := 3) (Cn := 3) (by decide) (by decide) (by decide) (by decide) rfl
set_option maxRecDepth 6000 in
theorem xlays_v1 {E : pm_H → Prop} (hE : xHE xX xgA_G97 xgF_G97 E) : xcon xX kK E 10 280 [.inr (.inr (.inl 0)), .inl ((Int.ofNat 0), (Int.ofNat 11)), .inl ((Int.ofNat 0), (Int.ofNat 11)), .inr (.inl ((Int.negSucc 9223372036854775807), (Int.ofNat 9223372036854775807)))] [(696323, .inl ((Int.ofNat 3), (Int.ofNat 3))), (696324, .inl ((Int.ofNat 4), (Int.ofNat 4)))] 0 (some (.inl ((Int.negSucc 1), (Int.ofNat 48)))) [] := xlays hE (Rn := 3) (Cn := 4) (by decide) (by decide) (by decide) (by decide) rfl
set_option maxRecDepth 6000 in
theorem xlays_v2 {E : pm_H → Prop} (hE : xHE xX xgA_G97 xgF_G97 E) : xcon xX kK E 10 280 [.inr (.inr (.inl 0)), .inl ((Int.ofNat 0), (Int.ofNat 14)), .inl ((Int.ofNat 0), (Int.ofNat 14)), .inr (.inl ((Int.negSucc 9223372036854775807), (Int.ofNat 9223372036854775807)))] [(696323, .inl ((Int.ofNat 3), (Int.ofNat 3))), (696324, .inl ((Int.ofNat 5), (Int.ofNat 5)))] 0 (some (.inl ((Int.negSucc 1), (Int.ofNat 48)))) [] := xlays hE (Rn := 3) (Cn := 5) (by decide) (by decide) (by decide) (by decide) rfl
set_option maxRecDepth 6000 in
theorem xlays_v3 {E : pm_H → Prop} (hE : xHE xX xgA_G97 xgF_G97 E) : xcon xX kK E 10 280 [.inr (.inr (.inl 0)), .inl ((Int.ofNat 0), (Int.ofNat 17)), .inl ((Int.ofNat 0), (Int.ofNat 17)), .inr (.inl ((Int.negSucc 9223372036854775807), (Int.ofNat 9223372036854775807)))] [(696323, .inl ((Int.ofNat 3), (Int.ofNat 3))), (696324, .inl ((Int.ofNat 6), (Int.ofNat 6)))] 0 (some (.inl ((Int.negSucc 1), (Int.ofNat 48)))) [] := xlays hE (Rn := 3) (Cn := 6) (by decide) (by decide) (by decide) (by decide) rfl
set_option maxRecDepth 6000 in
theorem xlays_v4 {E : pm_H → Prop} (hE : xHE xX xgA_G97 xgF_G97 E) : xcon xX kK E 10 280 [.inr (.inr (.inl 0)), .inl ((Int.ofNat 0), (Int.ofNat 20)), .inl ((Int.ofNat 0), (Int.ofNat 20)), .inr (.inl ((Int.negSucc 9223372036854775807), (Int.ofNat 9223372036854775807)))] [(696323, .inl ((Int.ofNat 3), (Int.ofNat 3))), (696324, .inl ((Int.ofNat 7), (Int.ofNat 7)))] 0 (some (.inl ((Int.negSucc 1), (Int.ofNat 48)))) [] := xlays hE (Rn := 3) (Cn := 7) (by decide) (by decide) (by decide) (by decide) rfl
set_option maxRecDepth 6000 in
theorem xlays_v5 {E : pm_H → Prop} (hE : xHE xX xgA_G97 xgF_G97 E) : xcon xX kK E 10 280 [.inr (.inr (.inl 0)), .inl ((Int.ofNat 0), (Int.ofNat 11)), .inl ((Int.ofNat 0), (Int.ofNat 11)), .inr (.inl ((Int.negSucc 9223372036854775807), (Int.ofNat 9223372036854775807)))] [(696323, .inl ((Int.ofNat 4), (Int.ofNat 4))), (696324, .inl ((Int.ofNat 3), (Int.ofNat 3)))] 0 (some (.inl ((Int.negSucc 1), (Int.ofNat 48)))) [] := xlays hE (Rn := 4) (Cn := 3) (by decide) (by decide) (by decide) (by decide) rfl
set_option maxRecDepth 6000 in
theorem xlays_v6 {E : pm_H → Prop} (hE : xHE xX xgA_G97 xgF_G97 E) : xcon xX kK E 10 280 [.inr (.inr (.inl 0)), .inl ((Int.ofNat 0), (Int.ofNat 15)), .inl ((Int.ofNat 0), (Int.ofNat 15)), .inr (.inl ((Int.negSucc 9223372036854775807), (Int.ofNat 9223372036854775807)))] [(696323, .inl ((Int.ofNat 4), (Int.ofNat 4))), (696324, .inl ((Int.ofNat 4), (Int.ofNat 4)))] 0 (some (.inl ((Int.negSucc 1), (Int.ofNat 48)))) [] := xlays hE (Rn := 4) (Cn := 4) (by decide) (by decide) (by decide) (by decide) rfl
set_option maxRecDepth 6000 in
theorem xlays_v7 {E : pm_H → Prop} (hE : xHE xX xgA_G97 xgF_G97 E) : xcon xX kK E 10 280 [.inr (.inr (.inl 0)), .inl ((Int.ofNat 0), (Int.ofNat 19)), .inl ((Int.ofNat 0), (Int.ofNat 19)), .inr (.inl ((Int.negSucc 9223372036854775807), (Int.ofNat 9223372036854775807)))] [(696323, .inl ((Int.ofNat 4), (Int.ofNat 4))), (696324, .inl ((Int.ofNat 5), (Int.ofNat 5)))] 0 (some (.inl ((Int.negSucc 1), (Int.ofNat 48)))) [] := xlays hE (Rn := 4) (Cn := 5) (by decide) (by decide) (by decide) (by decide) rfl
set_option maxRecDepth 6000 in
theorem xlays_v8 {E : pm_H → Prop} (hE : xHE xX xgA_G97 xgF_G97 E) : xcon xX kK E 10 280 [.inr (.inr (.inl 0)), .inl ((Int.ofNat 0), (Int.ofNat 23)), .inl ((Int.ofNat 0), (Int.ofNat 23)), .inr (.inl ((Int.negSucc 9223372036854775807), (Int.ofNat 9223372036854775807)))] [(696323, .inl ((Int.ofNat 4), (Int.ofNat 4))), (696324, .inl ((Int.ofNat 6), (Int.ofNat 6)))] 0 (some (.inl ((Int.negSucc 1), (Int.ofNat 48)))) [] := xlays hE (Rn := 4) (Cn := 6) (by decide) (by decide) (by decide) (by decide) rfl
set_option maxRecDepth 6000 in
theorem xlays_v9 {E : pm_H → Prop} (hE : xHE xX xgA_G97 xgF_G97 E) : xcon xX kK E 10 280 [.inr (.inr (.inl 0)), .inl ((Int.ofNat 0), (Int.ofNat 27)), .inl ((Int.ofNat 0), (Int.ofNat 27)), .inr (.inl ((Int.negSucc 9223372036854775807), (Int.ofNat 9223372036854775807)))] [(696323, .inl ((Int.ofNat 4), (Int.ofNat 4))), (696324, .inl ((Int.ofNat 7), (Int.ofNat 7)))] 0 (some (.inl ((Int.negSucc 1), (Int.ofNat 48)))) [] := xlays hE (Rn := 4) (Cn := 7) (by decide) (by decide) (by decide) (by decide) rfl
set_option maxRecDepth 6000 in
theorem xlays_v10 {E : pm_H → Prop} (hE : xHE xX xgA_G97 xgF_G97 E) : xcon xX kK E 10 280 [.inr (.inr (.inl 0)), .inl ((Int.ofNat 0), (Int.ofNat 14)), .inl ((Int.ofNat 0), (Int.ofNat 14)), .inr (.inl ((Int.negSucc 9223372036854775807), (Int.ofNat 9223372036854775807)))] [(696323, .inl ((Int.ofNat 5), (Int.ofNat 5))), (696324, .inl ((Int.ofNat 3), (Int.ofNat 3)))] 0 (some (.inl ((Int.negSucc 1), (Int.ofNat 48)))) [] := xlays hE (Rn := 5) (Cn := 3) (by decide) (by decide) (by decide) (by decide) rfl
set_option maxRecDepth 6000 in
theorem xlays_v11 {E : pm_H → Prop} (hE : xHE xX xgA_G97 xgF_G97 E) : xcon xX kK E 10 280 [.inr (.inr (.inl 0)), .inl ((Int.ofNat 0), (Int.ofNat 19)), .inl ((Int.ofNat 0), (Int.ofNat 19)), .inr (.inl ((Int.negSucc 9223372036854775807), (Int.ofNat 9223372036854775807)))] [(696323, .inl ((Int.ofNat 5), (Int.ofNat 5))), (696324, .inl ((Int.ofNat 4), (Int.ofNat 4)))] 0 (some (.inl ((Int.negSucc 1), (Int.ofNat 48)))) [] := xlays hE (Rn := 5) (Cn := 4) (by decide) (by decide) (by decide) (by decide) rfl
set_option maxRecDepth 6000 in
theorem xlays_v12 {E : pm_H → Prop} (hE : xHE xX xgA_G97 xgF_G97 E) : xcon xX kK E 10 280 [.inr (.inr (.inl 0)), .inl ((Int.ofNat 0), (Int.ofNat 24)), .inl ((Int.ofNat 0), (Int.ofNat 24)), .inr (.inl ((Int.negSucc 9223372036854775807), (Int.ofNat 9223372036854775807)))] [(696323, .inl ((Int.ofNat 5), (Int.ofNat 5))), (696324, .inl ((Int.ofNat 5), (Int.ofNat 5)))] 0 (some (.inl ((Int.negSucc 1), (Int.ofNat 48)))) [] := xlays hE (Rn := 5) (Cn := 5) (by decide) (by decide) (by decide) (by decide) rfl
set_option maxRecDepth 6000 in
theorem xlays_v13 {E : pm_H → Prop} (hE : xHE xX xgA_G97 xgF_G97 E) : xcon xX kK E 10 280 [.inr (.inr (.inl 0)), .inl ((Int.ofNat 0), (Int.ofNat 29)), .inl ((Int.ofNat 0), (Int.ofNat 29)), .inr (.inl ((Int.negSucc 9223372036854775807), (Int.ofNat 9223372036854775807)))] [(696323, .inl ((Int.ofNat 5), (Int.ofNat 5))), (696324, .inl ((Int.ofNat 6), (Int.ofNat 6)))] 0 (some (.inl ((Int.negSucc 1), (Int.ofNat 48)))) [] := xlays hE (Rn := 5) (Cn := 6) (by decide) (by decide) (by decide) (by decide) rfl
set_option maxRecDepth 6000 in
theorem xlays_v14 {E : pm_H → Prop} (hE : xHE xX xgA_G97 xgF_G97 E) : xcon xX kK E 10 280 [.inr (.inr (.inl 0)), .inl ((Int.ofNat 0), (Int.ofNat 34)), .inl ((Int.ofNat 0), (Int.ofNat 34)), .inr (.inl ((Int.negSucc 9223372036854775807), (Int.ofNat 9223372036854775807)))] [(696323, .inl ((Int.ofNat 5), (Int.ofNat 5))), (696324, .inl ((Int.ofNat 7), (Int.ofNat 7)))] 0 (some (.inl ((Int.negSucc 1), (Int.ofNat 48)))) [] := xlays hE (Rn := 5) (Cn := 7) (by decide) (by decide) (by decide) (by decide) rfl
set_option maxRecDepth 6000 in
theorem xlays_v15 {E : pm_H → Prop} (hE : xHE xX xgA_G97 xgF_G97 E) : xcon xX kK E 10 280 [.inr (.inr (.inl 0)), .inl ((Int.ofNat 0), (Int.ofNat 17)), .inl ((Int.ofNat 0), (Int.ofNat 17)), .inr (.inl ((Int.negSucc 9223372036854775807), (Int.ofNat 9223372036854775807)))] [(696323, .inl ((Int.ofNat 6), (Int.ofNat 6))), (696324, .inl ((Int.ofNat 3), (Int.ofNat 3)))] 0 (some (.inl ((Int.negSucc 1), (Int.ofNat 48)))) [] := xlays hE (Rn := 6) (Cn := 3) (by decide) (by decide) (by decide) (by decide) rfl
set_option maxRecDepth 6000 in
theorem xlays_v16 {E : pm_H → Prop} (hE : xHE xX xgA_G97 xgF_G97 E) : xcon xX kK E 10 280 [.inr (.inr (.inl 0)), .inl ((Int.ofNat 0), (Int.ofNat 23)), .inl ((Int.ofNat 0), (Int.ofNat 23)), .inr (.inl ((Int.negSucc 9223372036854775807), (Int.ofNat 9223372036854775807)))] [(696323, .inl ((Int.ofNat 6), (Int.ofNat 6))), (696324, .inl ((Int.ofNat 4), (Int.ofNat 4)))] 0 (some (.inl ((Int.negSucc 1), (Int.ofNat 48)))) [] := xlays hE (Rn := 6) (Cn := 4) (by decide) (by decide) (by decide) (by decide) rfl
set_option maxRecDepth 6000 in
theorem xlays_v17 {E : pm_H → Prop} (hE : xHE xX xgA_G97 xgF_G97 E) : xcon xX kK E 10 280 [.inr (.inr (.inl 0)), .inl ((Int.ofNat 0), (Int.ofNat 29)), .inl ((Int.ofNat 0), (Int.ofNat 29)), .inr (.inl ((Int.negSucc 9223372036854775807), (Int.ofNat 9223372036854775807)))] [(696323, .inl ((Int.ofNat 6), (Int.ofNat 6))), (696324, .inl ((Int.ofNat 5), (Int.ofNat 5)))] 0 (some (.inl ((Int.negSucc 1), (Int.ofNat 48)))) [] := xlays hE (Rn := 6) (Cn := 5) (by decide) (by decide) (by decide) (by decide) rfl
set_option maxRecDepth 6000 in
theorem xlays_v18 {E : pm_H → Prop} (hE : xHE xX xgA_G97 xgF_G97 E) : xcon xX kK E 10 280 [.inr (.inr (.inl 0)), .inl ((Int.ofNat 0), (Int.ofNat 35)), .inl ((Int.ofNat 0), (Int.ofNat 35)), .inr (.inl ((Int.negSucc 9223372036854775807), (Int.ofNat 9223372036854775807)))] [(696323, .inl ((Int.ofNat 6), (Int.ofNat 6))), (696324, .inl ((Int.ofNat 6), (Int.ofNat 6)))] 0 (some (.inl ((Int.negSucc 1), (Int.ofNat 48)))) [] := xlays hE (Rn := 6) (Cn := 6) (by decide) (by decide) (by decide) (by decide) rfl
set_option maxRecDepth 6000 in
theorem xlays_v19 {E : pm_H → Prop} (hE : xHE xX xgA_G97 xgF_G97 E) : xcon xX kK E 10 280 [.inr (.inr (.inl 0)), .inl ((Int.ofNat 0), (Int.ofNat 41)), .inl ((Int.ofNat 0), (Int.ofNat 41)), .inr (.inl ((Int.negSucc 9223372036854775807), (Int.ofNat 9223372036854775807)))] [(696323, .inl ((Int.ofNat 6), (Int.ofNat 6))), (696324, .inl ((Int.ofNat 7), (Int.ofNat 7)))] 0 (some (.inl ((Int.negSucc 1), (Int.ofNat 48)))) [] := xlays hE (Rn := 6) (Cn := 7) (by decide) (by decide) (by decide) (by decide) rfl
set_option maxRecDepth 6000 in
theorem xlays_v20 {E : pm_H → Prop} (hE : xHE xX xgA_G97 xgF_G97 E) : xcon xX kK E 10 280 [.inr (.inr (.inl 0)), .inl ((Int.ofNat 0), (Int.ofNat 20)), .inl ((Int.ofNat 0), (Int.ofNat 20)), .inr (.inl ((Int.negSucc 9223372036854775807), (Int.ofNat 9223372036854775807)))] [(696323, .inl ((Int.ofNat 7), (Int.ofNat 7))), (696324, .inl ((Int.ofNat 3), (Int.ofNat 3)))] 0 (some (.inl ((Int.negSucc 1), (Int.ofNat 48)))) [] := xlays hE (Rn := 7) (Cn := 3) (by decide) (by decide) (by decide) (by decide) rfl
set_option maxRecDepth 6000 in
theorem xlays_v21 {E : pm_H → Prop} (hE : xHE xX xgA_G97 xgF_G97 E) : xcon xX kK E 10 280 [.inr (.inr (.inl 0)), .inl ((Int.ofNat 0), (Int.ofNat 27)), .inl ((Int.ofNat 0), (Int.ofNat 27)), .inr (.inl ((Int.negSucc 9223372036854775807), (Int.ofNat 9223372036854775807)))] [(696323, .inl ((Int.ofNat 7), (Int.ofNat 7))), (696324, .inl ((Int.ofNat 4), (Int.ofNat 4)))] 0 (some (.inl ((Int.negSucc 1), (Int.ofNat 48)))) [] := xlays hE (Rn := 7) (Cn := 4) (by decide) (by decide) (by decide) (by decide) rfl
set_option maxRecDepth 6000 in
theorem xlays_v22 {E : pm_H → Prop} (hE : xHE xX xgA_G97 xgF_G97 E) : xcon xX kK E 10 280 [.inr (.inr (.inl 0)), .inl ((Int.ofNat 0), (Int.ofNat 34)), .inl ((Int.ofNat 0), (Int.ofNat 34)), .inr (.inl ((Int.negSucc 9223372036854775807), (Int.ofNat 9223372036854775807)))] [(696323, .inl ((Int.ofNat 7), (Int.ofNat 7))), (696324, .inl ((Int.ofNat 5), (Int.ofNat 5)))] 0 (some (.inl ((Int.negSucc 1), (Int.ofNat 48)))) [] := xlays hE (Rn := 7) (Cn := 5) (by decide) (by decide) (by decide) (by decide) rfl
set_option maxRecDepth 6000 in
theorem xlays_v23 {E : pm_H → Prop} (hE : xHE xX xgA_G97 xgF_G97 E) : xcon xX kK E 10 280 [.inr (.inr (.inl 0)), .inl ((Int.ofNat 0), (Int.ofNat 41)), .inl ((Int.ofNat 0), (Int.ofNat 41)), .inr (.inl ((Int.negSucc 9223372036854775807), (Int.ofNat 9223372036854775807)))] [(696323, .inl ((Int.ofNat 7), (Int.ofNat 7))), (696324, .inl ((Int.ofNat 6), (Int.ofNat 6)))] 0 (some (.inl ((Int.negSucc 1), (Int.ofNat 48)))) [] := xlays hE (Rn := 7) (Cn := 6) (by decide) (by decide) (by decide) (by decide) rfl
set_option maxRecDepth 6000 in
theorem xlays_v24 {E : pm_H → Prop} (hE : xHE xX xgA_G97 xgF_G97 E) : xcon xX kK E 10 280 [.inr (.inr (.inl 0)), .inl ((Int.ofNat 0), (Int.ofNat 48)), .inl ((Int.ofNat 0), (Int.ofNat 48)), .inr (.inl ((Int.negSucc 9223372036854775807), (Int.ofNat 9223372036854775807)))] [(696323, .inl ((Int.ofNat 7), (Int.ofNat 7))), (696324, .inl ((Int.ofNat 7), (Int.ofNat 7)))] 0 (some (.inl ((Int.negSucc 1), (Int.ofNat 48)))) [] := xlays hE (Rn := 7) (Cn := 7) (by decide) (by decide) (by decide) (by decide) rfl
