/-! The two constructors, the loop's head, the switch -/
theorem ks_new {K : pm_K} {mj pc i ci n N : Nat} {v0 : Value} {L : List (Option Value)} {st : List Value} {ph : pm_H} {c s : Nat} (hc : pm_code K mj pc = some (5, .new i, 0)) (hl : pm_lnk K (pm_own K mj) i = some (9, ci, n, v0)) (hN : ph.length = N) (hb : Nat.blt N 1048575 = true) : pm_step K true mj (pc, L, st, ph, c, s) = some (.inl (pc + 3, L, .ref N :: st, ph ++ [.inr (ci, pm_new0 K ci)], c + 1, s + n)) := by
  refine ks5 hc ?_
  unfold pm_mem
  simp only [hl, hN, hb, Bool.and_self, cond_true]
theorem kHx_len : kHx.length = 170 := by decide +kernel
theorem kHxm_len : (kHx ++ kHm).length = 201 := by decide +kernel
section KHD
variable {xs : Nat → Int32} {N : Nat}
def kC0 : Nat := 0 + 1 + 169 + 1 + 30 + 1
def kS0 : Nat := 0 + 15 + 5082 + 49 + 4783 + 1
theorem kctor : pm_Se (kK2 xs N) true (pm_Rd kK true 12) 0 (pm_ent (kK2 xs N) 0 [.ref 1048581] []) (23, kLL (Int32.ofInt 0), [], kH0, kC0, kS0) := by
  refine .step (x' := (3, [some (.ref 1048581), none, none, none, none, none, none, none], [.ref 0], [.inr (12, knw 12)], 0 + 1, 0 + 15)) (ks_new (i := 8) (ci := 12) (n := 15) (N := 0) rfl rfl rfl rfl) ?_
  refine .step (ks0 (st' := [.ref 0, .ref 0]) (kcL (e := (0, .dup, 0)) rfl) rfl) ?_
  refine .call (j := 121) (as := [.ref 0]) (ks6 (r0 := [.ref 0]) (kcL (e := (6, .invokespecial 22, 0)) rfl) rfl) (pm_ev_R _ _ _ _ _ _ _ _ kctor_x) ?_
  refine .step (ks3 (n := 1) (L' := [some (.ref 1048581), some (.ref 0), none, none, none, none, none, none]) (st' := []) (kcL (e := (3, .astore_n kF1, 0)) rfl) rfl) ?_
  refine .step (ks_new (i := 23) (ci := 13) (n := 49) (N := 170) rfl rfl kHx_len rfl) ?_
  refine .step (ks0 (st' := [.ref 170, .ref 170]) (kcL (e := (0, .dup, 0)) rfl) rfl) ?_
  refine .call (j := 188) (as := [.ref 170]) (ks6 (r0 := [.ref 170]) (kcL (e := (6, .invokespecial 25, 0)) rfl) rfl) (pm_ev_R _ _ _ _ _ _ _ _ kctor_m) ?_
  refine .step (ks3 (n := 1) (L' := [some (.ref 1048581), some (.ref 0), some (.ref 170), none, none, none, none, none]) (st' := []) (kcL (e := (3, .astore_n kF2, 0)) rfl) rfl) ?_
  refine .step (ks0 (st' := [.int (Int32.ofInt 1)]) (kcL (e := (0, .iconst 1, 0)) rfl) rfl) ?_
  refine .step (ks5 (n := 2) (st' := [.ref 201]) (ph' := (kHx ++ kHm) ++ [.inl (2, .inr (.inl [0]))]) (c1 := 1) (s1 := 1) (kcL (e := (5, .newarray .long, 0)) rfl) ?_) ?_
  · have e1 : decide (Int32.ofInt 1 < 0) = false := by decide +kernel
    have e2 : (Int32.ofInt 1).toNatClampNeg = 1 := by decide +kernel
    have e3 : Nat.blt 201 1048575 = true := rfl
    have e4 : Nat.ble 1 1000000 = true := rfl
    unfold pm_mem
    simp only [e1, e2, cond_false, pm_blank, kHxm_len, e3, e4, Bool.and_self, cond_true]
    rfl
  refine .step (ks3 (n := 1) (L' := [some (.ref 1048581), some (.ref 0), some (.ref 170), some (.ref 201), none, none, none, none]) (st' := []) (kcL (e := (3, .astore_n kF3, 0)) rfl) rfl) ?_
  refine .step (ks0 (st' := [.int (Int32.ofInt 0)]) (kcL (e := (0, .iconst 0, 0)) rfl) rfl) ?_
  exact .step (ks3 (n := 2) (L' := kLL (Int32.ofInt 0)) (st' := []) (kcL (e := (3, .istore 4, 0)) rfl) rfl) .rf
variable {ph : pm_H} {c s : Nat} {C : Nat → List Value → pm_H → pm_R → Prop}
/-- the loop's test, with 0 in i -/
theorem khead (y : pm_S) {t : Nat} (ht : (bif decide (Int32.ofNat N - Int32.ofInt 5 < Int32.ofInt 0) then 1540 else 32) = t) (kk : pm_Se (kK2 xs N) false C 0 (t, kLL (Int32.ofInt 0), [], ph, c, s) y) : pm_Se (kK2 xs N) false C 0 (23, kLL (Int32.ofInt 0), [], ph, c, s) y := by
  refine .step (ks2 (n := 2) (v := .int (Int32.ofInt 0)) (kcL (e := (2, .iload 4, 0)) rfl) rfl) ?_
  refine .step (ks2 (n := 1) (v := .ref 1048581) (kcL (e := (2, .aload_n kF0, 0)) rfl) rfl) ?_
  refine .step (ks5 (n := 1) (c1 := 0) (s1 := 0) (st' := [.int (Int32.ofNat N), .int (Int32.ofInt 0)]) (ph' := ph) (kcL (e := (5, .arraylength, 0)) rfl) rfl) ?_
  refine .step (ks0 (st' := [.int (Int32.ofInt 5), .int (Int32.ofNat N), .int (Int32.ofInt 0)]) (kcL (e := (0, .iconst 5, 0)) rfl) rfl) ?_
  refine .step (ks0 (st' := [.int (Int32.ofNat N - Int32.ofInt 5), .int (Int32.ofInt 0)]) (kcL (e := (0, .isub, 0)) rfl) rfl) ?_
  refine .step (ks4 (pc' := t) (st' := []) (kcL (e := (4, .if_icmp .gt 1511, 1540)) rfl) ?_) kk
  rw [← ht]
  rfl
/-- a script of fewer than 5 -/
theorem kshort (hN : N < 5) (hc : c ≤ 600002) (hs : s ≤ 7302232) : kGoal xs N 23 (kLL (Int32.ofInt 0)) [] ph c s := by
  refine ⟨kLL (Int32.ofInt 0), ph, c, s, hc, hs, khead (t := 1540) _ ?_ ?_⟩
  · match N, hN with
    | 0, _ => decide +kernel
    | 1, _ => decide +kernel
    | 2, _ => decide +kernel
    | 3, _ => decide +kernel
    | 4, _ => decide +kernel
    | q + 5, h => exact absurd h (by omega)
  · refine .step (ks0 (st' := [.int 1]) (kcL (e := (0, .iconst 1, 0)) rfl) ?_) .rf
    have e : Int32.ofInt 1 = 1 := by decide +kernel
    show some [Value.int (Int32.ofInt 1)] = _
    rw [e]
/-- to the switch -/
theorem kswitch {k t : Nat} (hk : xs 0 &&& (Int8.ofInt 63).toInt32 = Int32.ofNat k) (ht : pm_br (.tableswitch 1495 0 46 #[201, 226, 251, 264, 277, 290, 303, 316, 384, 452, 513, 538, 575, 612, 649, 686, 699, 712, 738, 763, 777, 790, 815, 828, 841, 878, 891, 916, 941, 978, 991, 1016, 1053, 1090, 1127, 1164, 1177, 1191, 1204, 1253, 1290, 1303, 1328, 1365, 1390, 1415, 1440]) 201 39 [.int (Int32.ofNat k)] = some (t, [])) (y : pm_S) (kk : pm_Se (kK2 xs 5) false C 0 (t, kLL (Int32.ofInt 0), [], ph, c, s) y) : pm_Se (kK2 xs 5) false C 0 (23, kLL (Int32.ofInt 0), [], ph, c, s) y := by
  refine khead (t := 32) y (by decide +kernel) ?_
  refine .step (ks2 (n := 1) (v := .ref 1048581) (kcL (e := (2, .aload_n kF0, 0)) rfl) rfl) ?_
  refine .step (ks2 (n := 2) (v := .int (Int32.ofInt 0)) (kcL (e := (2, .iload 4, 0)) rfl) rfl) ?_
  refine .step (ks5 (n := 1) (c1 := 0) (s1 := 0) (st' := [.int (xs 0)]) (ph' := ph) (kcL (e := (5, .iaload, 0)) rfl) ?_) ?_
  · have e1 : pm_inb (Int32.ofInt 0) 5 = true := by decide +kernel
    have e2 : (Int32.ofInt 0).toNatClampNeg = 0 := by decide +kernel
    show (bif pm_inb (Int32.ofInt 0) 5 then some (1, Value.int (xs (Int32.ofInt 0).toNatClampNeg) :: [], ph, 0, 0) else none) = _
    rw [e1, e2]
    rfl
  refine .step (x' := (38, kLL (Int32.ofInt 0), [.int (Int8.ofInt 63).toInt32, .int (xs 0)], ph, c, s)) ?_ ?_
  · have hcd : pm_code (kK2 xs 5) 0 36 = some (1, .bipush 63, 0) := kcL rfl
    have hpu : pm_push (kK2 xs 5) (pm_own (kK2 xs 5) 0) (.bipush 63) = some (.int (Int8.ofInt 63).toInt32, 2) := rfl
    show pm_step (kK2 xs 5) false 0 (36, kLL (Int32.ofInt 0), [.int (xs 0)], ph, c, s) = _
    unfold pm_step
    simp only [hcd, hpu]
  refine .step (ks0 (st' := [.int (xs 0 &&& (Int8.ofInt 63).toInt32)]) (kcL (e := (0, .iand, 0)) rfl) rfl) ?_
  refine .step (ks4 (pc' := t) (st' := []) (kcL (e := (4, .tableswitch 1495 0 46 #[201, 226, 251, 264, 277, 290, 303, 316, 384, 452, 513, 538, 575, 612, 649, 686, 699, 712, 738, 763, 777, 790, 815, 828, 841, 878, 891, 916, 941, 978, 991, 1016, 1053, 1090, 1127, 1164, 1177, 1191, 1204, 1253, 1290, 1303, 1328, 1365, 1390, 1415, 1440], 201)) rfl) ?_) kk
  rw [hk]
  exact ht
theorem k64 (v : Int32) : ∃ k, k < 64 ∧ v &&& (Int8.ofInt 63).toInt32 = Int32.ofNat k := by
  have e : (Int8.ofInt 63).toInt32 = 63 := by decide +kernel
  rw [e]
  refine ⟨(v &&& 63).toBitVec.toNat, ?_, ?_⟩
  · have h : (v &&& 63).toBitVec.toNat = v.toBitVec.toNat &&& 63 := by simp
    rw [h]
    exact Nat.lt_of_le_of_lt Nat.and_le_right (by decide)
  · apply Int32.toBitVec_inj.mp
    apply BitVec.eq_of_toNat_eq
    simp
end KHD
