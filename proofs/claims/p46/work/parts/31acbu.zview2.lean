/-! the land's view with any numbers: what it leaves, by W; printed by wip/z/z1p_view.py -/
theorem zc_e8A {a b : Int32} {ph : pm_H} : zM 47 [.int a, .int b] ph (fun v q => ph = q ∧ ∃ y : Int32, v = some (.int y)) := by
  obtain ⟨Q, hQ⟩ : ∃ Q : Option Value → pm_H → Prop, Q = (fun v q => ph = q ∧ ∃ y : Int32, v = some (.int y)) := ⟨_, rfl⟩
  rw [← hQ]
  refine zM_mk fun n D => ?_
  show zW n D 47 Q 0 [some (.int a), some (.int b), none] [] ph
  have c_0 : ((Int8.ofInt 7).toInt32).toInt = 7 := by decide
  have c_1 : ((Int8.ofInt 8).toInt32).toInt = 8 := by decide
  refine w_load (pc' := 1) (v := .int a) (m := 1) (ykc_47 (e := (2, .iload_n kF0, 0)) rfl) rfl rfl ?_
  refine w_load (pc' := 2) (v := .int b) (m := 1) (ykc_47 (e := (2, .iload_n kF1, 0)) rfl) rfl rfl ?_
  refine w_alu (pc' := 3) (st' := [.int (a - b)]) (ykc_47 (e := (0, .isub, 0)) rfl) rfl rfl ?_
  refine w_push (pc' := 5) (v := .int ((Int8.ofInt 7).toInt32)) (m := 2) (ykc_47 (e := (1, .bipush 7, 0)) rfl) rfl rfl ?_
  refine w_alu (pc' := 6) (st' := [.int ((a - b) &&& ((Int8.ofInt 7).toInt32))]) (ykc_47 (e := (0, .iand, 0)) rfl) rfl rfl ?_
  refine w_store (pc' := 7) (L' := [some (.int a), some (.int b), some (.int ((a - b) &&& ((Int8.ofInt 7).toInt32)))]) (st' := []) (m := 1) (ykc_47 (e := (3, .istore_n kF2, 0)) rfl) rfl rfl ?_
  refine w_load (pc' := 8) (v := .int ((a - b) &&& ((Int8.ofInt 7).toInt32))) (m := 1) (ykc_47 (e := (2, .iload_n kF2, 0)) rfl) rfl rfl ?_
  refine w_push (pc' := 10) (v := .int ((Int8.ofInt 8).toInt32)) (m := 2) (ykc_47 (e := (1, .bipush 8, 0)) rfl) rfl rfl ?_
  refine w_load (pc' := 11) (v := .int ((a - b) &&& ((Int8.ofInt 7).toInt32))) (m := 1) (ykc_47 (e := (2, .iload_n kF2, 0)) rfl) rfl rfl ?_
  refine w_alu (pc' := 12) (st' := [.int (((Int8.ofInt 8).toInt32) - ((a - b) &&& ((Int8.ofInt 7).toInt32))), .int ((a - b) &&& ((Int8.ofInt 7).toInt32))]) (ykc_47 (e := (0, .isub, 0)) rfl) rfl rfl ?_
  obtain ⟨z647, e_z647⟩ : ∃ zq : Int32, (if (((Int8.ofInt 8).toInt32) - ((a - b) &&& ((Int8.ofInt 7).toInt32))) < ((a - b) &&& ((Int8.ofInt 7).toInt32)) then (((Int8.ofInt 8).toInt32) - ((a - b) &&& ((Int8.ofInt 7).toInt32))) else ((a - b) &&& ((Int8.ofInt 7).toInt32))) = zq := ⟨_, rfl⟩
  refine w_mem1 (pc' := 15) (m := 3) (st' := [.int z647]) (ph' := ph) (ykc_47 (e := (5, .invokestatic 85, 0)) rfl) (by rw [← e_z647]; rfl) rfl ?_
  refine w_ret (v := (some (.int z647))) (ykc_47 (e := (7, .ireturn, 0)) rfl) (zr_v rfl) ?_
  rw [hQ]
  exact ⟨rfl, _, rfl⟩
theorem zc_viewE {ph : pm_H} {R C : Nat} {rk : Nat → Bool} (hS : zSh ph) (hL : zCl ph R C rk) (hc : zCc ph R C rk) {x1 x2 x3 x4 : Int32} : zM 48 [.ref 5, .int x1, .int x2, .int x3, .int x4] ph (fun v q => zFr [8, 9] [(5, 4)] ph q ∧ zCc q R C rk) := by
  obtain ⟨Q, hQ⟩ : ∃ Q : Option Value → pm_H → Prop, Q = (fun v q => zFr [8, 9] [(5, 4)] ph q ∧ zCc q R C rk) := ⟨_, rfl⟩
  rw [← hQ]
  refine zM_mk fun n D => ?_
  show zW n D 48 Q 0 [some (.ref 5), some (.int x1), some (.int x2), some (.int x3), some (.int x4), none, none, none] [] ph
  have c_0 : ((Int8.ofInt 6).toInt32).toInt = 6 := by decide
  have c_1 : ((Int8.ofInt 7).toInt32).toInt = 7 := by decide
  have c_2 : ((Int8.ofInt 8).toInt32).toInt = 8 := by decide
  have c_3 : (Int32.ofInt 0).toInt = 0 := by decide
  have c_4 : (Int32.ofInt 1).toInt = 1 := by decide
  have c_5 : (Int32.ofInt 4).toInt = 4 := by decide
  have hL0 := hL
  have hc0 := hc
  have hx4 := x32_lo x4
  have hx5 := x32_hi x4
  have hx6 := x32_lo x1
  have hx7 := x32_hi x1
  obtain ⟨gR, gC, gN, gK, gA, hR3, hR7, hC3, hC7⟩ := hL
  have hRC := zRC49 hR7 hC7
  have tR := znt (k := R) (by omega)
  have tC := znt (k := C) (by omega)
  have tRC := znt (k := R * C) (by omega)
  obtain ⟨x, hx, hcx⟩ := hc
  refine w_load (pc' := 1) (v := .ref 5) (m := 1) (ykc_48 (e := (2, .aload_n kF0, 0)) rfl) rfl rfl ?_
  refine w_load (pc' := 2) (v := .int x1) (m := 1) (ykc_48 (e := (2, .iload_n kF1, 0)) rfl) rfl rfl ?_
  refine w_cv (as := [.ref 5, .int x1]) (r := []) (ykc_48 (e := (6, .invokevirtual 64, 0)) rfl) rfl rfl rfl rfl (zc_holds hS hL0 (f := x1)) (fun v648 ph649 hv => ?_)
  obtain ⟨rfl, rfl⟩ := hv
  show zW n D 48 Q 5 [some (.ref 5), some (.int x1), some (.int x2), some (.int x3), some (.int x4), none, none, none] [.int (zI (decide (0 ≤ x1.toInt ∧ x1.toInt < ((R * C : Nat) : Int))))] ph
  refine w_bne (ykc_48 (e := (4, .ifCond .ne 5, 10)) rfl) rfl (fun b650 => ?_) (fun b650 => ?_)
  · have d9 := of_decide_eq_true b650
    obtain ⟨f, hf, rfl⟩ : ∃ f : Nat, f < R * C ∧ x1 = zn f := ⟨x1.toInt.toNat, by omega, zn_of (by omega)⟩
    have tf := znt (k := f) (by have := zRC49 hR7 hC7; omega)
    have hRC9 := zRC49 hR7 hC7
    have hT : ∀ (n : Nat) (ph1 : pm_H), zFr [8, 9] [(5, 4)] ph ph1 → zCc ph1 R C rk → zW n D 48 Q 26 [some (.ref 5), some (.int (zn f)), some (.int x2), some (.int x3), some (.int x4), none, none, none] [] ph1 := by
      intro n ph1 hf1 hcq
      refine w_alu (pc' := 27) (st' := [.long (Int64.ofNat kG0)]) (ykc_48 (e := (0, .lconst kG0, 0)) rfl) rfl rfl ?_
      refine w_store (pc' := 29) (L' := [some (.ref 5), some (.int (zn f)), some (.int x2), some (.int x3), some (.int x4), some (.long (Int64.ofNat kG0)), none, none]) (st' := []) (m := 2) (ykc_48 (e := (3, .lstore 5, 0)) rfl) rfl rfl ?_
      refine w_alu (pc' := 30) (st' := [.int (Int32.ofInt 0)]) (ykc_48 (e := (0, .iconst 0, 0)) rfl) rfl rfl ?_
      refine w_store (pc' := 32) (L' := [some (.ref 5), some (.int (zn f)), some (.int x2), some (.int x3), some (.int x4), some (.long (Int64.ofNat kG0)), none, some (.int (Int32.ofInt 0))]) (st' := []) (m := 2) (ykc_48 (e := (3, .istore 7, 0)) rfl) rfl rfl ?_
      have hl : ∀ (n : Nat), ∀ (k : Nat) (a9 : Int64), (k ≤ 8) → zW n D 48 Q 32 [some (.ref 5), some (.int (zn f)), some (.int x2), some (.int x3), some (.int x4), some (.long a9), none, some (.int (zn k))] [] ph1 := by
        intro n
        induction n using Nat.strongRecOn with
        | ind n ih =>
          intro k a9 hk
          have tk := znt (k := k) (by omega)
          refine w_load (pc' := 34) (v := .int (zn k)) (m := 2) (ykc_48 (e := (2, .iload 7, 0)) rfl) rfl rfl ?_
          refine w_push (pc' := 36) (v := .int ((Int8.ofInt 8).toInt32)) (m := 2) (ykc_48 (e := (1, .bipush 8, 0)) rfl) rfl rfl ?_
          refine w_ige (ykc_48 (e := (4, .if_icmp .ge 38, 74)) rfl) rfl (fun b651 => ?_) (fun b651 => ?_)
          · refine w_alu (pc' := 75) (st' := [.int (Int32.ofInt 0)]) (ykc_48 (e := (0, .iconst 0, 0)) rfl) rfl rfl ?_
            refine w_push (pc' := 77) (v := .int ((Int8.ofInt 6).toInt32)) (m := 2) (ykc_48 (e := (1, .bipush 6, 0)) rfl) rfl rfl ?_
            refine w_load (pc' := 79) (v := .int x4) (m := 2) (ykc_48 (e := (2, .iload 4, 0)) rfl) rfl rfl ?_
            obtain ⟨z652, e_z652⟩ : ∃ zq : Int32, (if x4 < ((Int8.ofInt 6).toInt32) then x4 else ((Int8.ofInt 6).toInt32)) = zq := ⟨_, rfl⟩
            have h_z652 := zminI e_z652
            refine w_mem1 (pc' := 82) (m := 3) (st' := [.int z652, .int (Int32.ofInt 0)]) (ph' := ph1) (ykc_48 (e := (5, .invokestatic 85, 0)) rfl) (by rw [← e_z652]; rfl) rfl ?_
            obtain ⟨z653, e_z653⟩ : ∃ zq : Int32, (if (Int32.ofInt 0) < z652 then z652 else (Int32.ofInt 0)) = zq := ⟨_, rfl⟩
            have h_z653 := zmaxI e_z653
            have n_z653 : z653.toInt = (((max 0 (min 6 x4.toInt)).toNat : Nat) : Int) := by omega
            refine w_mem1 (pc' := 85) (m := 3) (st' := [.int z653]) (ph' := ph1) (ykc_48 (e := (5, .invokestatic 97, 0)) rfl) (by rw [← e_z653]; rfl) rfl ?_
            refine w_store (pc' := 87) (L' := [some (.ref 5), some (.int (zn f)), some (.int x2), some (.int x3), some (.int x4), some (.long a9), none, some (.int z653)]) (st' := []) (m := 2) (ykc_48 (e := (3, .istore 7, 0)) rfl) rfl rfl ?_
            refine w_load (pc' := 89) (v := .long a9) (m := 2) (ykc_48 (e := (2, .lload 5, 0)) rfl) rfl rfl ?_
            refine w_load (pc' := 90) (v := .ref 5) (m := 1) (ykc_48 (e := (2, .aload_n kF0, 0)) rfl) rfl rfl ?_
            refine w_gf (pc' := 93) (v := .ref 9) (ykc_48 (e := (5, .getfield 22, 0)) rfl) rfl ((hf1.1 5 8 (by decide) (by decide)).trans (zsg hS zs_5_8)) rfl ?_
            refine w_load (pc' := 94) (v := .int (zn f)) (m := 1) (ykc_48 (e := (2, .iload_n kF1, 0)) rfl) rfl rfl ?_
            refine w_push (pc' := 96) (v := .int ((Int8.ofInt 7).toInt32)) (m := 2) (ykc_48 (e := (1, .bipush 7, 0)) rfl) rfl rfl ?_
            have e654 : (zn f) * ((Int8.ofInt 7).toInt32) = zn (7 * f) := (zmulK (a := f) (b := 7) (znt (by omega)) c_1 (by omega))
            have te654 := znt (k := 7 * f) (by omega)
            refine w_alu (pc' := 97) (st' := [.int (zn (7 * f)), .ref 9, .long a9]) (ykc_48 (e := (0, .imul, 0)) rfl) (by show some ([.int ((zn f) * ((Int8.ofInt 7).toInt32)), .ref 9, .long a9] : List Value) = _; rw [e654]) rfl ?_
            refine w_load (pc' := 99) (v := .int z653) (m := 2) (ykc_48 (e := (2, .iload 7, 0)) rfl) rfl rfl ?_
            have e655 : (zn (7 * f)) + z653 = zn (7 * f + ((max 0 (min 6 x4.toInt)).toNat)) := (zaddN (a := 7 * f) (b := (max 0 (min 6 x4.toInt)).toNat) (znt (by omega)) (by omega) (by omega)) 
            have te655 := znt (k := 7 * f + ((max 0 (min 6 x4.toInt)).toNat)) (by omega)
            refine w_alu (pc' := 100) (st' := [.int (zn (7 * f + ((max 0 (min 6 x4.toInt)).toNat))), .ref 9, .long a9]) (ykc_48 (e := (0, .iadd, 0)) rfl) (by rw [← e655]; rfl) rfl ?_
            refine w_lal (pc' := 101) (k := 7 * f + ((max 0 (min 6 x4.toInt)).toNat)) (ykc_48 (e := (5, .laload, 0)) rfl) (by omega) rfl (fun y9 g_y9 => ?_)
            refine w_alu (pc' := 102) (st' := [.long (a9 &&& y9)]) (ykc_48 (e := (0, .land, 0)) rfl) rfl rfl ?_
            refine w_alu (pc' := 103) (st' := [.long (Int64.ofNat kG1), .long (a9 &&& y9)]) (ykc_48 (e := (0, .lconst kG1, 0)) rfl) rfl rfl ?_
            refine w_load (pc' := 104) (v := .int (zn f)) (m := 1) (ykc_48 (e := (2, .iload_n kF1, 0)) rfl) rfl rfl ?_
            refine w_alu (pc' := 105) (st' := [.long ((Int64.ofNat kG1) <<< ((zn f).toInt64 &&& 63)), .long (a9 &&& y9)]) (ykc_48 (e := (0, .lshl, 0)) rfl) rfl rfl ?_
            refine w_alu (pc' := 106) (st' := [.long ((a9 &&& y9) ||| ((Int64.ofNat kG1) <<< ((zn f).toInt64 &&& 63)))]) (ykc_48 (e := (0, .lor, 0)) rfl) rfl rfl ?_
            refine w_ret (v := (some (.long ((a9 &&& y9) ||| ((Int64.ofNat kG1) <<< ((zn f).toInt64 &&& 63)))))) (ykc_48 (e := (7, .lreturn, 0)) rfl) (zr_v rfl) ?_
            rw [hQ]
            exact ⟨hf1, hcq⟩
          · refine w_load (pc' := 41) (v := .int (zn k)) (m := 2) (ykc_48 (e := (2, .iload 7, 0)) rfl) rfl rfl ?_
            refine w_load (pc' := 42) (v := .int x2) (m := 1) (ykc_48 (e := (2, .iload_n kF2, 0)) rfl) rfl rfl ?_
            refine w_cs (as := [.int (zn k), .int x2]) (r := []) (ykc_48 (e := (6, .invokestatic 94, 0)) rfl) rfl rfl rfl rfl (zc_e8A) (fun v656 ph657 hv => ?_)
            obtain ⟨rfl, e9, rfl⟩ := hv
            show zW n D 48 Q 45 [some (.ref 5), some (.int (zn f)), some (.int x2), some (.int x3), some (.int x4), some (.long a9), none, some (.int (zn k))] [.int e9] ph1
            refine w_alu (pc' := 46) (st' := [.int (Int32.ofInt 4), .int e9]) (ykc_48 (e := (0, .iconst 4, 0)) rfl) rfl rfl ?_
            refine w_load (pc' := 47) (v := .int x3) (m := 1) (ykc_48 (e := (2, .iload_n kF3, 0)) rfl) rfl rfl ?_
            refine w_alu (pc' := 48) (st' := [.int ((Int32.ofInt 4) - x3), .int e9]) (ykc_48 (e := (0, .isub, 0)) rfl) rfl rfl ?_
            refine w_igt (ykc_48 (e := (4, .if_icmp .gt 20, 68)) rfl) rfl (fun b658 => ?_) (fun b658 => ?_)
            · have e659 : (zn k) + Int32.ofInt 1 = zn (k + 1) := (zaddN (a := k) (b := 1) (znt (by omega)) c_4 (by omega))
              have te659 := znt (k := k + 1) (by omega)
              refine w_store (pc' := 71) (L' := [some (.ref 5), some (.int (zn f)), some (.int x2), some (.int x3), some (.int x4), some (.long a9), none, some (.int (zn (k + 1)))]) (st' := []) (m := 3) (ykc_48 (e := (3, .iinc 7 1, 0)) rfl) (by rw [← e659]; rfl) rfl ?_
              refine w_gb (ykc_48 (e := (4, .goto (-39), 32)) rfl) (fun k660 hk660 => ?_)
              exact ih k660 hk660 (k + 1) _ (by omega)
            · refine w_load (pc' := 53) (v := .long a9) (m := 2) (ykc_48 (e := (2, .lload 5, 0)) rfl) rfl rfl ?_
              refine w_load (pc' := 54) (v := .ref 5) (m := 1) (ykc_48 (e := (2, .aload_n kF0, 0)) rfl) rfl rfl ?_
              refine w_gf (pc' := 57) (v := .ref 8) (ykc_48 (e := (5, .getfield 18, 0)) rfl) rfl ((hf1.1 5 7 (by decide) (by decide)).trans (zsg hS zs_5_7)) rfl ?_
              refine w_load (pc' := 58) (v := .int (zn f)) (m := 1) (ykc_48 (e := (2, .iload_n kF1, 0)) rfl) rfl rfl ?_
              refine w_push (pc' := 60) (v := .int ((Int8.ofInt 8).toInt32)) (m := 2) (ykc_48 (e := (1, .bipush 8, 0)) rfl) rfl rfl ?_
              have e661 : (zn f) * ((Int8.ofInt 8).toInt32) = zn (8 * f) := (zmulK (a := f) (b := 8) (znt (by omega)) c_2 (by omega))
              have te661 := znt (k := 8 * f) (by omega)
              refine w_alu (pc' := 61) (st' := [.int (zn (8 * f)), .ref 8, .long a9]) (ykc_48 (e := (0, .imul, 0)) rfl) (by show some ([.int ((zn f) * ((Int8.ofInt 8).toInt32)), .ref 8, .long a9] : List Value) = _; rw [e661]) rfl ?_
              refine w_load (pc' := 63) (v := .int (zn k)) (m := 2) (ykc_48 (e := (2, .iload 7, 0)) rfl) rfl rfl ?_
              have e662 : (zn (8 * f)) + (zn k) = zn (8 * f + k) := (zaddN (a := 8 * f) (b := k) (znt (by omega)) (znt (by omega)) (by omega)) 
              have te662 := znt (k := 8 * f + k) (by omega)
              refine w_alu (pc' := 64) (st' := [.int (zn (8 * f + k)), .ref 8, .long a9]) (ykc_48 (e := (0, .iadd, 0)) rfl) (by rw [← e662]; rfl) rfl ?_
              refine w_lal (pc' := 65) (k := 8 * f + k) (ykc_48 (e := (5, .laload, 0)) rfl) (by omega) rfl (fun y8 g_y8 => ?_)
              refine w_alu (pc' := 66) (st' := [.long (a9 ||| y8)]) (ykc_48 (e := (0, .lor, 0)) rfl) rfl rfl ?_
              refine w_store (pc' := 68) (L' := [some (.ref 5), some (.int (zn f)), some (.int x2), some (.int x3), some (.int x4), some (.long (a9 ||| y8)), none, some (.int (zn k))]) (st' := []) (m := 2) (ykc_48 (e := (3, .lstore 5, 0)) rfl) rfl rfl ?_
              have e663 : (zn k) + Int32.ofInt 1 = zn (k + 1) := (zaddN (a := k) (b := 1) (znt (by omega)) c_4 (by omega))
              have te663 := znt (k := k + 1) (by omega)
              refine w_store (pc' := 71) (L' := [some (.ref 5), some (.int (zn f)), some (.int x2), some (.int x3), some (.int x4), some (.long (a9 ||| y8)), none, some (.int (zn (k + 1)))]) (st' := []) (m := 3) (ykc_48 (e := (3, .iinc 7 1, 0)) rfl) (by rw [← e663]; rfl) rfl ?_
              refine w_gb (ykc_48 (e := (4, .goto (-39), 32)) rfl) (fun k664 hk664 => ?_)
              exact ih k664 hk664 (k + 1) _ (by omega)
      exact hl n 0 _ (Nat.zero_le _)
    refine w_load (pc' := 11) (v := .ref 5) (m := 1) (ykc_48 (e := (2, .aload_n kF0, 0)) rfl) rfl rfl ?_
    refine w_gf (pc' := 14) (v := .long x) (ykc_48 (e := (5, .getfield 57, 0)) rfl) rfl hx rfl ?_
    refine w_load (pc' := 15) (v := .int (zn f)) (m := 1) (ykc_48 (e := (2, .iload_n kF1, 0)) rfl) rfl rfl ?_
    refine w_cs (as := [.long x, .int (zn f)]) (r := []) (ykc_48 (e := (6, .invokestatic 68, 0)) rfl) rfl rfl rfl rfl (zc_has (kn := f) (by omega) (by omega)) (fun v665 ph666 hv => ?_)
    obtain ⟨rfl, rfl⟩ := hv
    show zW n D 48 Q 18 [some (.ref 5), some (.int (zn f)), some (.int x2), some (.int x3), some (.int x4), none, none, none] [.int (zI (zb x f))] ph
    refine w_bne (ykc_48 (e := (4, .ifCond .ne 8, 26)) rfl) rfl (fun b667 => ?_) (fun b667 => ?_)
    · exact hT n _ zFr_refl hc0
    · refine w_load (pc' := 22) (v := .ref 5) (m := 1) (ykc_48 (e := (2, .aload_n kF0, 0)) rfl) rfl rfl ?_
      refine w_load (pc' := 23) (v := .int (zn f)) (m := 1) (ykc_48 (e := (2, .iload_n kF1, 0)) rfl) rfl rfl ?_
      refine w_cv (as := [.ref 5, .int (zn f)]) (r := []) (ykc_48 (e := (6, .invokevirtual 90, 0)) rfl) rfl rfl rfl rfl (zc_survey hS hL0 (f := f) hf hx) (fun v668 ph669 hv => ?_)
      obtain ⟨rfl, fv, fv4, fv8, fv9, fo8, fo9⟩ := hv
      show zW n D 48 Q 26 [some (.ref 5), some (.int (zn f)), some (.int x2), some (.int x3), some (.int x4), none, none, none] [] ph669
      refine hT n _ fv ⟨_, fv4, fun g hg hb => ?_⟩
      by_cases e : g = f
      · subst e
        exact ⟨fv8, fv9⟩
      · rw [zb_or, zL1, zb_bit (by omega) (by omega), decide_eq_false e, Bool.or_false] at hb
        exact ⟨fun w hw => (fo8 _ (by omega)).trans ((hcx g hg hb).1 w hw), fun d hd => (fo9 _ (by omega)).trans ((hcx g hg hb).2 d hd)⟩
  · refine w_alu (pc' := 9) (st' := [.long (Int64.ofNat kG0)]) (ykc_48 (e := (0, .lconst kG0, 0)) rfl) rfl rfl ?_
    refine w_ret (v := (some (.long (Int64.ofNat kG0)))) (ykc_48 (e := (7, .lreturn, 0)) rfl) (zr_v rfl) ?_
    rw [hQ]
    exact ⟨zFr_refl, hc0⟩
