/-! the class: land and states, by W; printed by wip/z/z_i_class.py -/
/-- the class's valley -/
def zCl (ph : pm_H) (R C : Nat) (rk : Nat → Bool) : Prop := zc ph 5 0 = some (.int (zn R)) ∧ zc ph 5 1 = some (.int (zn C)) ∧ zc ph 5 2 = some (.int (zn (R * C))) ∧ zc ph 5 3 = some (.long (zS rk (R * C))) ∧ (∀ f, f < R * C → zc ph 6 f = some (.int (zn (f / C))) ∧ zc ph 7 f = some (.int (zn (f % C)))) ∧ 3 ≤ R ∧ R ≤ 7 ∧ 3 ≤ C ∧ C ≤ 7
/-- a State at S: its arrays, its contents -/
def zSs (ph : pm_H) (S : Nat) : Prop := zc ph S 3 = some (.ref (S + 1)) ∧ zc ph S 4 = some (.ref (S + 2)) ∧ zc ph S 5 = some (.ref (S + 3)) ∧ zc ph S 6 = some (.ref (S + 4)) ∧ zc ph S 7 = some (.ref (S + 5)) ∧ zln ph (S + 1) = some 8 ∧ zln ph (S + 2) = some 8 ∧ zln ph (S + 3) = some 8 ∧ zln ph (S + 4) = some 8 ∧ zln ph (S + 5) = some 8
def zSd (ph : pm_H) (S P G : Nat) (v : Nat → Nat) : Prop := zc ph S 0 = some (.int (zn P)) ∧ P ≤ 8 ∧ zc ph S 1 = some (.int (zn G)) ∧ G ≤ 8 ∧ zc ph S 2 = some (.int (zn (v 40))) ∧ (∀ i, i < P → zc ph (S + 1) i = some (.int (zn (v i))) ∧ zc ph (S + 2) i = some (.int (zn (v (8 + i)))) ∧ zc ph (S + 3) i = some (.int (zn (v (16 + i)))) ∧ zc ph (S + 4) i = some (.int (zn (v (24 + i))))) ∧ ∀ i, i < G → zc ph (S + 5) i = some (.int (zn (v (32 + i))))
theorem zSs_get {ph : pm_H} (hS : zSh ph) {S : Nat} (h : zlk zstatL S 3 = some (S + 1) ∧ zlk zstatL S 4 = some (S + 2) ∧ zlk zstatL S 5 = some (S + 3) ∧ zlk zstatL S 6 = some (S + 4) ∧ zlk zstatL S 7 = some (S + 5)) (h2 : zll zlenL (S + 1) = some 8 ∧ zll zlenL (S + 2) = some 8 ∧ zll zlenL (S + 3) = some 8 ∧ zll zlenL (S + 4) = some 8 ∧ zll zlenL (S + 5) = some 8) : zSs ph S := ⟨hS.1 _ _ _ h.1, hS.1 _ _ _ h.2.1, hS.1 _ _ _ h.2.2.1, hS.1 _ _ _ h.2.2.2.1, hS.1 _ _ _ h.2.2.2.2, hS.2 _ _ h2.1, hS.2 _ _ h2.2.1, hS.2 _ _ h2.2.2.1, hS.2 _ _ h2.2.2.2.1, hS.2 _ _ h2.2.2.2.2⟩
/-- the addresses of States -/
def zSadr (S : Nat) : Bool := S == 25 || S == 31 || S == 37 || (45 ≤ S && S ≤ 129 && (S - 45) % 6 == 0) || S == 136 || S == 142 || S == 148
theorem zSs_all : (List.range 160).all (fun S => !zSadr S || ((zlk zstatL S 3 == some (S + 1) && zlk zstatL S 4 == some (S + 2) && zlk zstatL S 5 == some (S + 3) && zlk zstatL S 6 == some (S + 4) && zlk zstatL S 7 == some (S + 5)) && (zll zlenL (S + 1) == some 8 && zll zlenL (S + 2) == some 8 && zll zlenL (S + 3) == some 8 && zll zlenL (S + 4) == some 8 && zll zlenL (S + 5) == some 8))) = true := by decide +kernel
theorem zSs_of {ph : pm_H} (hS : zSh ph) {S : Nat} (h : zSadr S = true) : zSs ph S := by
  have hlt : S < 160 := by
    unfold zSadr at h
    simp only [Bool.or_eq_true, Bool.and_eq_true, beq_iff_eq, decide_eq_true_eq] at h
    omega
  have h1 := List.all_eq_true.mp zSs_all S (List.mem_range.mpr hlt)
  rw [h] at h1
  simp only [Bool.not_true, Bool.false_or, Bool.and_eq_true, beq_iff_eq] at h1
  exact zSs_get hS ⟨h1.1.1.1.1.1, h1.1.1.1.1.2, h1.1.1.1.2, h1.1.1.2, h1.1.2⟩ ⟨h1.2.1.1.1.1, h1.2.1.1.1.2, h1.2.1.1.2, h1.2.1.2, h1.2.2⟩
/-- (int) (x >> f & 1) << k -/
theorem zcb {x : Int64} {f k : Nat} (hf : f < 64) (hk : k < 32) : ((x >>> ((zn f).toInt64 &&& 63)) &&& Int64.ofNat kG1).toInt32 <<< (zn k &&& 31) = bif zb x f then Int32.ofInt 1 <<< (zn k &&& 31) else Int32.ofInt 0 := by
  have h0 : zb (x >>> ((zn f).toInt64 &&& 63)) 0 = zb x f := zb_shr (i := 0) hf (by omega)
  cases hb : zb x f with
  | true =>
    rw [zL1, (zand1_64 _).mpr (h0.trans hb)]
    rfl
  | false =>
    have e : (x >>> ((zn f).toInt64 &&& 63)) &&& 1 = 0 := zb_ext fun i hi => by
      rw [zb_and, zb_1 hi]
      by_cases q : i = 0
      · subst q; rw [h0, hb]; simp [zb]
      · simp [q, zb]
    rw [zL1, e, cond_false]
    refine zd_ext fun i hi => ?_
    rw [zd_shl hk hi]
    simp [zd]
theorem zc_has {x : Int64} {k : Int32} {kn : Nat} {ph : pm_H} (hk : k.toInt = (kn : Int)) (h64 : kn < 64) : zM 163 [.long x, .int k] ph (fun v q => ph = q ∧ v = some (.int (zI (zb x kn)))) := by
  obtain ⟨Q, hQ⟩ : ∃ Q : Option Value → pm_H → Prop, Q = (fun v q => ph = q ∧ v = some (.int (zI (zb x kn)))) := ⟨_, rfl⟩
  rw [← hQ]
  refine zM_mk fun n D => ?_
  show zW n D 163 Q 0 [some (.long x), none, some (.int k)] [] ph
  have c_0 : (Int32.ofInt 0).toInt = 0 := by decide +kernel
  have c_1 : (Int32.ofInt 1).toInt = 1 := by decide +kernel
  obtain rfl := zn_of hk
  have hz := zhas (x := x) h64
  show zW n D 163 Q 0 [some (.long x), none, some (.int (zn kn))] [] ph
  refine w_load (pc' := 1) (v := .long x) (m := 1) (ykc_163 (e := (2, .lload_n kF0, 0)) rfl) rfl rfl ?_
  refine w_load (pc' := 2) (v := .int (zn kn)) (m := 1) (ykc_163 (e := (2, .iload_n kF2, 0)) rfl) rfl rfl ?_
  refine w_alu (pc' := 3) (st' := [.long (x >>> ((zn kn).toInt64 &&& 63))]) (ykc_163 (e := (0, .lshr, 0)) rfl) rfl rfl ?_
  refine w_alu (pc' := 4) (st' := [.long (Int64.ofNat kG1), .long (x >>> ((zn kn).toInt64 &&& 63))]) (ykc_163 (e := (0, .lconst kG1, 0)) rfl) rfl rfl ?_
  refine w_alu (pc' := 5) (st' := [.long ((x >>> ((zn kn).toInt64 &&& 63)) &&& (Int64.ofNat kG1))]) (ykc_163 (e := (0, .land, 0)) rfl) rfl rfl ?_
  refine w_alu (pc' := 6) (st' := [.long (Int64.ofNat kG1), .long ((x >>> ((zn kn).toInt64 &&& 63)) &&& (Int64.ofNat kG1))]) (ykc_163 (e := (0, .lconst kG1, 0)) rfl) rfl rfl ?_
  refine w_alu (pc' := 7) (st' := [.int (lg_cmp ((x >>> ((zn kn).toInt64 &&& 63)) &&& (Int64.ofNat kG1)) (Int64.ofNat kG1))]) (ykc_163 (e := (0, .lcmp, 0)) rfl) rfl rfl ?_
  refine w_zne (ykc_163 (e := (4, .ifCond .ne 7, 14)) rfl) rfl (fun b433 => ?_) (fun b433 => ?_)
  · refine w_alu (pc' := 15) (st' := [.int (Int32.ofInt 0)]) (ykc_163 (e := (0, .iconst 0, 0)) rfl) rfl rfl ?_
    refine w_ret (v := (some (.int (Int32.ofInt 0)))) (ykc_163 (e := (7, .ireturn, 0)) rfl) zr_z ?_
    rw [hQ, zi0]
    exact ⟨rfl, zvB ((Bool.eq_false_iff.mpr (fun q => b433 (hz.mpr q))).symm)⟩
  · refine w_alu (pc' := 11) (st' := [.int (Int32.ofInt 1)]) (ykc_163 (e := (0, .iconst 1, 0)) rfl) rfl rfl ?_
    refine w_br (pc' := 15) (st' := [.int (Int32.ofInt 1)]) (ykc_163 (e := (4, .goto 4, 15)) rfl) rfl ?_
    refine w_ret (v := (some (.int (Int32.ofInt 1)))) (ykc_163 (e := (7, .ireturn, 0)) rfl) zr_z ?_
    rw [hQ, zi1]
    exact ⟨rfl, zvB ((hz.mp b433).symm)⟩
theorem zc_rows {ph : pm_H} {R C : Nat} {rk : Nat → Bool} (hS : zSh ph) (hL : zCl ph R C rk) : zM 37 [.ref 5] ph (fun v q => ph = q ∧ v = some (.int (zn R))) := by
  obtain ⟨Q, hQ⟩ : ∃ Q : Option Value → pm_H → Prop, Q = (fun v q => ph = q ∧ v = some (.int (zn R))) := ⟨_, rfl⟩
  rw [← hQ]
  refine zM_mk fun n D => ?_
  show zW n D 37 Q 0 [some (.ref 5)] [] ph
  obtain ⟨gR, gC, gN, gK, gA, hR3, hR7, hC3, hC7⟩ := hL
  have hRC := zRC49 hR7 hC7
  have tR := znt (k := R) (by omega)
  have tC := znt (k := C) (by omega)
  have tRC := znt (k := R * C) (by omega)
  refine w_load (pc' := 1) (v := .ref 5) (m := 1) (ykc_37 (e := (2, .aload_n kF0, 0)) rfl) rfl rfl ?_
  refine w_gf (pc' := 4) (v := .int (zn R)) (ykc_37 (e := (5, .getfield 46, 0)) rfl) rfl gR rfl ?_
  refine w_ret (v := (some (.int (zn R)))) (ykc_37 (e := (7, .ireturn, 0)) rfl) (zr_v rfl) ?_
  rw [hQ]
  exact ⟨rfl, rfl⟩
theorem zc_cols {ph : pm_H} {R C : Nat} {rk : Nat → Bool} (hS : zSh ph) (hL : zCl ph R C rk) : zM 38 [.ref 5] ph (fun v q => ph = q ∧ v = some (.int (zn C))) := by
  obtain ⟨Q, hQ⟩ : ∃ Q : Option Value → pm_H → Prop, Q = (fun v q => ph = q ∧ v = some (.int (zn C))) := ⟨_, rfl⟩
  rw [← hQ]
  refine zM_mk fun n D => ?_
  show zW n D 38 Q 0 [some (.ref 5)] [] ph
  obtain ⟨gR, gC, gN, gK, gA, hR3, hR7, hC3, hC7⟩ := hL
  have hRC := zRC49 hR7 hC7
  have tR := znt (k := R) (by omega)
  have tC := znt (k := C) (by omega)
  have tRC := znt (k := R * C) (by omega)
  refine w_load (pc' := 1) (v := .ref 5) (m := 1) (ykc_38 (e := (2, .aload_n kF0, 0)) rfl) rfl rfl ?_
  refine w_gf (pc' := 4) (v := .int (zn C)) (ykc_38 (e := (5, .getfield 50, 0)) rfl) rfl gC rfl ?_
  refine w_ret (v := (some (.int (zn C)))) (ykc_38 (e := (7, .ireturn, 0)) rfl) (zr_v rfl) ?_
  rw [hQ]
  exact ⟨rfl, rfl⟩
theorem zc_fields {ph : pm_H} {R C : Nat} {rk : Nat → Bool} (hS : zSh ph) (hL : zCl ph R C rk) : zM 39 [.ref 5] ph (fun v q => ph = q ∧ v = some (.int (zn (R * C)))) := by
  obtain ⟨Q, hQ⟩ : ∃ Q : Option Value → pm_H → Prop, Q = (fun v q => ph = q ∧ v = some (.int (zn (R * C)))) := ⟨_, rfl⟩
  rw [← hQ]
  refine zM_mk fun n D => ?_
  show zW n D 39 Q 0 [some (.ref 5)] [] ph
  obtain ⟨gR, gC, gN, gK, gA, hR3, hR7, hC3, hC7⟩ := hL
  have hRC := zRC49 hR7 hC7
  have tR := znt (k := R) (by omega)
  have tC := znt (k := C) (by omega)
  have tRC := znt (k := R * C) (by omega)
  refine w_load (pc' := 1) (v := .ref 5) (m := 1) (ykc_39 (e := (2, .aload_n kF0, 0)) rfl) rfl rfl ?_
  refine w_gf (pc' := 4) (v := .int (zn (R * C))) (ykc_39 (e := (5, .getfield 60, 0)) rfl) rfl gN rfl ?_
  refine w_ret (v := (some (.int (zn (R * C))))) (ykc_39 (e := (7, .ireturn, 0)) rfl) (zr_v rfl) ?_
  rw [hQ]
  exact ⟨rfl, rfl⟩
theorem zc_holds {ph : pm_H} {R C : Nat} {rk : Nat → Bool} (hS : zSh ph) (hL : zCl ph R C rk) {f : Int32} : zM 40 [.ref 5, .int f] ph (fun v q => ph = q ∧ v = some (.int (zI (decide (0 ≤ f.toInt ∧ f.toInt < ((R * C : Nat) : Int)))))) := by
  obtain ⟨Q, hQ⟩ : ∃ Q : Option Value → pm_H → Prop, Q = (fun v q => ph = q ∧ v = some (.int (zI (decide (0 ≤ f.toInt ∧ f.toInt < ((R * C : Nat) : Int)))))) := ⟨_, rfl⟩
  rw [← hQ]
  refine zM_mk fun n D => ?_
  show zW n D 40 Q 0 [some (.ref 5), some (.int f)] [] ph
  have c_0 : ((Int8.ofInt 49).toInt32).toInt = 49 := by decide +kernel
  have c_1 : (Int32.ofInt 0).toInt = 0 := by decide +kernel
  have c_2 : (Int32.ofInt 1).toInt = 1 := by decide +kernel
  obtain ⟨gR, gC, gN, gK, gA, hR3, hR7, hC3, hC7⟩ := hL
  have hRC := zRC49 hR7 hC7
  have tR := znt (k := R) (by omega)
  have tC := znt (k := C) (by omega)
  have tRC := znt (k := R * C) (by omega)
  refine w_load (pc' := 1) (v := .int f) (m := 1) (ykc_40 (e := (2, .iload_n kF1, 0)) rfl) rfl rfl ?_
  refine w_zlt (ykc_40 (e := (4, .ifCond .lt 21, 22)) rfl) rfl (fun b434 => ?_) (fun b434 => ?_)
  · refine w_alu (pc' := 23) (st' := [.int (Int32.ofInt 0)]) (ykc_40 (e := (0, .iconst 0, 0)) rfl) rfl rfl ?_
    refine w_ret (v := (some (.int (Int32.ofInt 0)))) (ykc_40 (e := (7, .ireturn, 0)) rfl) zr_z ?_
    rw [hQ, zi0]
    exact ⟨rfl, zvB ((decide_eq_false (by omega)).symm)⟩
  · refine w_load (pc' := 5) (v := .int f) (m := 1) (ykc_40 (e := (2, .iload_n kF1, 0)) rfl) rfl rfl ?_
    refine w_load (pc' := 6) (v := .ref 5) (m := 1) (ykc_40 (e := (2, .aload_n kF0, 0)) rfl) rfl rfl ?_
    refine w_gf (pc' := 9) (v := .int (zn (R * C))) (ykc_40 (e := (5, .getfield 60, 0)) rfl) rfl gN rfl ?_
    refine w_ige (ykc_40 (e := (4, .if_icmp .ge 13, 22)) rfl) rfl (fun b435 => ?_) (fun b435 => ?_)
    · refine w_alu (pc' := 23) (st' := [.int (Int32.ofInt 0)]) (ykc_40 (e := (0, .iconst 0, 0)) rfl) rfl rfl ?_
      refine w_ret (v := (some (.int (Int32.ofInt 0)))) (ykc_40 (e := (7, .ireturn, 0)) rfl) zr_z ?_
      rw [hQ, zi0]
      exact ⟨rfl, zvB ((decide_eq_false (by omega)).symm)⟩
    · refine w_load (pc' := 13) (v := .int f) (m := 1) (ykc_40 (e := (2, .iload_n kF1, 0)) rfl) rfl rfl ?_
      refine w_push (pc' := 15) (v := .int ((Int8.ofInt 49).toInt32)) (m := 2) (ykc_40 (e := (1, .bipush 49, 0)) rfl) rfl rfl ?_
      refine w_ige (ykc_40 (e := (4, .if_icmp .ge 7, 22)) rfl) rfl (fun b436 => ?_) (fun b436 => ?_)
      · refine w_alu (pc' := 23) (st' := [.int (Int32.ofInt 0)]) (ykc_40 (e := (0, .iconst 0, 0)) rfl) rfl rfl ?_
        refine w_ret (v := (some (.int (Int32.ofInt 0)))) (ykc_40 (e := (7, .ireturn, 0)) rfl) zr_z ?_
        rw [hQ, zi0]
        exact ⟨rfl, zvB ((decide_eq_false (by omega)).symm)⟩
      · refine w_alu (pc' := 19) (st' := [.int (Int32.ofInt 1)]) (ykc_40 (e := (0, .iconst 1, 0)) rfl) rfl rfl ?_
        refine w_br (pc' := 23) (st' := [.int (Int32.ofInt 1)]) (ykc_40 (e := (4, .goto 4, 23)) rfl) rfl ?_
        refine w_ret (v := (some (.int (Int32.ofInt 1)))) (ykc_40 (e := (7, .ireturn, 0)) rfl) zr_z ?_
        rw [hQ, zi1]
        exact ⟨rfl, zvB ((decide_eq_true (by omega)).symm)⟩
/-- the FIELD at a ROW and a COLUMN, or -1 -/
def zfa (R C : Nat) (x y : Int) : Int := if 0 ≤ x ∧ x < (R : Int) ∧ 0 ≤ y ∧ y < (C : Int) then ((x.toNat * C + y.toNat : Nat) : Int) else -1
theorem zc_fat {ph : pm_H} {R C : Nat} {rk : Nat → Bool} (hS : zSh ph) (hL : zCl ph R C rk) {x y : Int32} : zM 44 [.ref 5, .int x, .int y] ph (fun v q => ph = q ∧ ∃ z : Int32, v = some (.int z) ∧ z.toInt = zfa R C x.toInt y.toInt) := by
  obtain ⟨Q, hQ⟩ : ∃ Q : Option Value → pm_H → Prop, Q = (fun v q => ph = q ∧ ∃ z : Int32, v = some (.int z) ∧ z.toInt = zfa R C x.toInt y.toInt) := ⟨_, rfl⟩
  rw [← hQ]
  refine zM_mk fun n D => ?_
  show zW n D 44 Q 0 [some (.ref 5), some (.int x), some (.int y), none] [] ph
  have c_0 : (Int32.ofInt (-1)).toInt = -1 := by decide +kernel
  have c_1 : (Int32.ofInt 0).toInt = 0 := by decide +kernel
  have c_2 : (Int32.ofInt 1).toInt = 1 := by decide +kernel
  obtain ⟨gR, gC, gN, gK, gA, hR3, hR7, hC3, hC7⟩ := hL
  have hRC := zRC49 hR7 hC7
  have tR := znt (k := R) (by omega)
  have tC := znt (k := C) (by omega)
  have tRC := znt (k := R * C) (by omega)
  refine w_load (pc' := 1) (v := .int x) (m := 1) (ykc_44 (e := (2, .iload_n kF1, 0)) rfl) rfl rfl ?_
  refine w_zlt (ykc_44 (e := (4, .ifCond .lt 27, 28)) rfl) rfl (fun b437 => ?_) (fun b437 => ?_)
  · refine w_alu (pc' := 29) (st' := [.int (Int32.ofInt 0)]) (ykc_44 (e := (0, .iconst 0, 0)) rfl) rfl rfl ?_
    refine w_store (pc' := 30) (L' := [some (.ref 5), some (.int x), some (.int y), some (.int (Int32.ofInt 0))]) (st' := []) (m := 1) (ykc_44 (e := (3, .istore_n kF3, 0)) rfl) rfl rfl ?_
    refine w_load (pc' := 31) (v := .int (Int32.ofInt 0)) (m := 1) (ykc_44 (e := (2, .iload_n kF3, 0)) rfl) rfl rfl ?_
    refine w_zeq (ykc_44 (e := (4, .ifCond .eq 14, 45)) rfl) rfl (fun b438 => ?_) (fun q => by exfalso; omega)
    refine w_alu (pc' := 46) (st' := [.int (Int32.ofInt (-1))]) (ykc_44 (e := (0, .iconst (-1), 0)) rfl) rfl rfl ?_
    refine w_ret (v := (some (.int (Int32.ofInt (-1))))) (ykc_44 (e := (7, .ireturn, 0)) rfl) (zr_v rfl) ?_
    rw [hQ]
    exact ⟨rfl, _, rfl, by unfold zfa; rw [if_neg (by omega)]; omega⟩
  · refine w_load (pc' := 5) (v := .int x) (m := 1) (ykc_44 (e := (2, .iload_n kF1, 0)) rfl) rfl rfl ?_
    refine w_load (pc' := 6) (v := .ref 5) (m := 1) (ykc_44 (e := (2, .aload_n kF0, 0)) rfl) rfl rfl ?_
    refine w_gf (pc' := 9) (v := .int (zn R)) (ykc_44 (e := (5, .getfield 46, 0)) rfl) rfl gR rfl ?_
    refine w_ige (ykc_44 (e := (4, .if_icmp .ge 19, 28)) rfl) rfl (fun b439 => ?_) (fun b439 => ?_)
    · refine w_alu (pc' := 29) (st' := [.int (Int32.ofInt 0)]) (ykc_44 (e := (0, .iconst 0, 0)) rfl) rfl rfl ?_
      refine w_store (pc' := 30) (L' := [some (.ref 5), some (.int x), some (.int y), some (.int (Int32.ofInt 0))]) (st' := []) (m := 1) (ykc_44 (e := (3, .istore_n kF3, 0)) rfl) rfl rfl ?_
      refine w_load (pc' := 31) (v := .int (Int32.ofInt 0)) (m := 1) (ykc_44 (e := (2, .iload_n kF3, 0)) rfl) rfl rfl ?_
      refine w_zeq (ykc_44 (e := (4, .ifCond .eq 14, 45)) rfl) rfl (fun b440 => ?_) (fun q => by exfalso; omega)
      refine w_alu (pc' := 46) (st' := [.int (Int32.ofInt (-1))]) (ykc_44 (e := (0, .iconst (-1), 0)) rfl) rfl rfl ?_
      refine w_ret (v := (some (.int (Int32.ofInt (-1))))) (ykc_44 (e := (7, .ireturn, 0)) rfl) (zr_v rfl) ?_
      rw [hQ]
      exact ⟨rfl, _, rfl, by unfold zfa; rw [if_neg (by omega)]; omega⟩
    · refine w_load (pc' := 13) (v := .int y) (m := 1) (ykc_44 (e := (2, .iload_n kF2, 0)) rfl) rfl rfl ?_
      refine w_zlt (ykc_44 (e := (4, .ifCond .lt 15, 28)) rfl) rfl (fun b441 => ?_) (fun b441 => ?_)
      · refine w_alu (pc' := 29) (st' := [.int (Int32.ofInt 0)]) (ykc_44 (e := (0, .iconst 0, 0)) rfl) rfl rfl ?_
        refine w_store (pc' := 30) (L' := [some (.ref 5), some (.int x), some (.int y), some (.int (Int32.ofInt 0))]) (st' := []) (m := 1) (ykc_44 (e := (3, .istore_n kF3, 0)) rfl) rfl rfl ?_
        refine w_load (pc' := 31) (v := .int (Int32.ofInt 0)) (m := 1) (ykc_44 (e := (2, .iload_n kF3, 0)) rfl) rfl rfl ?_
        refine w_zeq (ykc_44 (e := (4, .ifCond .eq 14, 45)) rfl) rfl (fun b442 => ?_) (fun q => by exfalso; omega)
        refine w_alu (pc' := 46) (st' := [.int (Int32.ofInt (-1))]) (ykc_44 (e := (0, .iconst (-1), 0)) rfl) rfl rfl ?_
        refine w_ret (v := (some (.int (Int32.ofInt (-1))))) (ykc_44 (e := (7, .ireturn, 0)) rfl) (zr_v rfl) ?_
        rw [hQ]
        exact ⟨rfl, _, rfl, by unfold zfa; rw [if_neg (by omega)]; omega⟩
      · refine w_load (pc' := 17) (v := .int y) (m := 1) (ykc_44 (e := (2, .iload_n kF2, 0)) rfl) rfl rfl ?_
        refine w_load (pc' := 18) (v := .ref 5) (m := 1) (ykc_44 (e := (2, .aload_n kF0, 0)) rfl) rfl rfl ?_
        refine w_gf (pc' := 21) (v := .int (zn C)) (ykc_44 (e := (5, .getfield 50, 0)) rfl) rfl gC rfl ?_
        refine w_ige (ykc_44 (e := (4, .if_icmp .ge 7, 28)) rfl) rfl (fun b443 => ?_) (fun b443 => ?_)
        · refine w_alu (pc' := 29) (st' := [.int (Int32.ofInt 0)]) (ykc_44 (e := (0, .iconst 0, 0)) rfl) rfl rfl ?_
          refine w_store (pc' := 30) (L' := [some (.ref 5), some (.int x), some (.int y), some (.int (Int32.ofInt 0))]) (st' := []) (m := 1) (ykc_44 (e := (3, .istore_n kF3, 0)) rfl) rfl rfl ?_
          refine w_load (pc' := 31) (v := .int (Int32.ofInt 0)) (m := 1) (ykc_44 (e := (2, .iload_n kF3, 0)) rfl) rfl rfl ?_
          refine w_zeq (ykc_44 (e := (4, .ifCond .eq 14, 45)) rfl) rfl (fun b444 => ?_) (fun q => by exfalso; omega)
          refine w_alu (pc' := 46) (st' := [.int (Int32.ofInt (-1))]) (ykc_44 (e := (0, .iconst (-1), 0)) rfl) rfl rfl ?_
          refine w_ret (v := (some (.int (Int32.ofInt (-1))))) (ykc_44 (e := (7, .ireturn, 0)) rfl) (zr_v rfl) ?_
          rw [hQ]
          exact ⟨rfl, _, rfl, by unfold zfa; rw [if_neg (by omega)]; omega⟩
        · refine w_alu (pc' := 25) (st' := [.int (Int32.ofInt 1)]) (ykc_44 (e := (0, .iconst 1, 0)) rfl) rfl rfl ?_
          refine w_br (pc' := 29) (st' := [.int (Int32.ofInt 1)]) (ykc_44 (e := (4, .goto 4, 29)) rfl) rfl ?_
          refine w_store (pc' := 30) (L' := [some (.ref 5), some (.int x), some (.int y), some (.int (Int32.ofInt 1))]) (st' := []) (m := 1) (ykc_44 (e := (3, .istore_n kF3, 0)) rfl) rfl rfl ?_
          refine w_load (pc' := 31) (v := .int (Int32.ofInt 1)) (m := 1) (ykc_44 (e := (2, .iload_n kF3, 0)) rfl) rfl rfl ?_
          refine w_zeq (ykc_44 (e := (4, .ifCond .eq 14, 45)) rfl) rfl (fun q => by exfalso; omega) (fun b445 => ?_)
          refine w_load (pc' := 35) (v := .int x) (m := 1) (ykc_44 (e := (2, .iload_n kF1, 0)) rfl) rfl rfl ?_
          refine w_load (pc' := 36) (v := .ref 5) (m := 1) (ykc_44 (e := (2, .aload_n kF0, 0)) rfl) rfl rfl ?_
          refine w_gf (pc' := 39) (v := .int (zn C)) (ykc_44 (e := (5, .getfield 50, 0)) rfl) rfl gC rfl ?_
          have m446 : x.toInt.toNat * C ≤ 7 * 7 := Nat.mul_le_mul (by omega) (by omega)
          have zm446 := Nat.zero_le (x.toInt.toNat * C)
          have e447 : x * (zn C) = zn (x.toInt.toNat * C) := zn_of (zmulN (by omega) (by omega) (by omega) (by omega))
          have te447 := znt (k := x.toInt.toNat * C) (by omega)
          refine w_alu (pc' := 40) (st' := [.int (zn (x.toInt.toNat * C))]) (ykc_44 (e := (0, .imul, 0)) rfl) (by rw [← e447]; rfl) rfl ?_
          refine w_load (pc' := 41) (v := .int y) (m := 1) (ykc_44 (e := (2, .iload_n kF2, 0)) rfl) rfl rfl ?_
          obtain ⟨z448, e_z448, h_z448⟩ : ∃ zq : Int32, (zn (x.toInt.toNat * C)) + y = zq ∧ zq.toInt = ((x.toInt.toNat * C : Nat) : Int) + y.toInt := ⟨_, rfl, (by have := ti_add (x := (zn (x.toInt.toNat * C))) (y := y) (by omega) (by omega); omega)⟩
          refine w_alu (pc' := 42) (st' := [.int z448]) (ykc_44 (e := (0, .iadd, 0)) rfl) (by rw [← e_z448]; rfl) rfl ?_
          refine w_br (pc' := 46) (st' := [.int z448]) (ykc_44 (e := (4, .goto 4, 46)) rfl) rfl ?_
          refine w_ret (v := (some (.int z448))) (ykc_44 (e := (7, .ireturn, 0)) rfl) (zr_v rfl) ?_
          rw [hQ]
          exact ⟨rfl, _, rfl, by unfold zfa; rw [if_pos (by omega)]; omega⟩
theorem zc_rock {ph : pm_H} {R C : Nat} {rk : Nat → Bool} (hS : zSh ph) (hL : zCl ph R C rk) {f : Int32} (hf : f.toInt < ((R * C : Nat) : Int)) : zM 45 [.ref 5, .int f] ph (fun v q => ph = q ∧ v = some (.int (zI (decide (0 ≤ f.toInt) && rk f.toInt.toNat)))) := by
  obtain ⟨Q, hQ⟩ : ∃ Q : Option Value → pm_H → Prop, Q = (fun v q => ph = q ∧ v = some (.int (zI (decide (0 ≤ f.toInt) && rk f.toInt.toNat)))) := ⟨_, rfl⟩
  rw [← hQ]
  refine zM_mk fun n D => ?_
  show zW n D 45 Q 0 [some (.ref 5), some (.int f)] [] ph
  have c_0 : (Int32.ofInt 0).toInt = 0 := by decide +kernel
  have c_1 : (Int32.ofInt 1).toInt = 1 := by decide +kernel
  obtain ⟨gR, gC, gN, gK, gA, hR3, hR7, hC3, hC7⟩ := hL
  have hRC := zRC49 hR7 hC7
  have tR := znt (k := R) (by omega)
  have tC := znt (k := C) (by omega)
  have tRC := znt (k := R * C) (by omega)
  refine w_load (pc' := 1) (v := .int f) (m := 1) (ykc_45 (e := (2, .iload_n kF1, 0)) rfl) rfl rfl ?_
  refine w_zlt (ykc_45 (e := (4, .ifCond .lt 18, 19)) rfl) rfl (fun b449 => ?_) (fun b449 => ?_)
  · refine w_alu (pc' := 20) (st' := [.int (Int32.ofInt 0)]) (ykc_45 (e := (0, .iconst 0, 0)) rfl) rfl rfl ?_
    refine w_ret (v := (some (.int (Int32.ofInt 0)))) (ykc_45 (e := (7, .ireturn, 0)) rfl) zr_z ?_
    rw [hQ, zi0]
    exact ⟨rfl, zvB (by rw [decide_eq_false (show ¬ 0 ≤ f.toInt by omega)]; rfl)⟩
  · refine w_load (pc' := 5) (v := .ref 5) (m := 1) (ykc_45 (e := (2, .aload_n kF0, 0)) rfl) rfl rfl ?_
    refine w_gf (pc' := 8) (v := .long (zS rk (R * C))) (ykc_45 (e := (5, .getfield 53, 0)) rfl) rfl gK rfl ?_
    refine w_load (pc' := 9) (v := .int f) (m := 1) (ykc_45 (e := (2, .iload_n kF1, 0)) rfl) rfl rfl ?_
    refine w_cs (as := [.long (zS rk (R * C)), .int f]) (r := []) (ykc_45 (e := (6, .invokestatic 68, 0)) rfl) rfl rfl rfl rfl (zc_has (kn := f.toInt.toNat) (by omega) (by omega)) (fun v450 ph451 hv => ?_)
    obtain ⟨rfl, rfl⟩ := hv
    have hbit := zS_b (f := rk) (n := R * C) (by omega) (k := f.toInt.toNat) (by omega)
    rw [decide_eq_true (show f.toInt.toNat < R * C by omega), Bool.true_and] at hbit
    rw [hbit]
    show zW n D 45 Q 12 [some (.ref 5), some (.int f)] [.int (zI (rk f.toInt.toNat))] ph
    refine w_beq (ykc_45 (e := (4, .ifCond .eq 7, 19)) rfl) rfl (fun b452 => ?_) (fun b452 => ?_)
    · refine w_alu (pc' := 20) (st' := [.int (Int32.ofInt 0)]) (ykc_45 (e := (0, .iconst 0, 0)) rfl) rfl rfl ?_
      refine w_ret (v := (some (.int (Int32.ofInt 0)))) (ykc_45 (e := (7, .ireturn, 0)) rfl) zr_z ?_
      rw [hQ, zi0]
      exact ⟨rfl, zvB (by rw [decide_eq_true (show 0 ≤ f.toInt by omega), b452]; rfl)⟩
    · refine w_alu (pc' := 16) (st' := [.int (Int32.ofInt 1)]) (ykc_45 (e := (0, .iconst 1, 0)) rfl) rfl rfl ?_
      refine w_br (pc' := 20) (st' := [.int (Int32.ofInt 1)]) (ykc_45 (e := (4, .goto 4, 20)) rfl) rfl ?_
      refine w_ret (v := (some (.int (Int32.ofInt 1)))) (ykc_45 (e := (7, .ireturn, 0)) rfl) zr_z ?_
      rw [hQ, zi1]
      exact ⟨rfl, zvB (by rw [decide_eq_true (show 0 ≤ f.toInt by omega), b452]; rfl)⟩
theorem zand7 : ∀ a : Nat, a < 8 → ∀ b : Nat, b < 8 → (((zn a - zn b) &&& (Int8.ofInt 7).toInt32).toInt = (((a : Int) - b) % 8)) := by decide
theorem zc_e8 {ph : pm_H} {a b : Nat} (ha : a < 8) (hb : b < 8) : zM 47 [.int (zn a), .int (zn b)] ph (fun v q => ph = q ∧ v = some (.int (zn (ze8 a b)))) := by
  obtain ⟨Q, hQ⟩ : ∃ Q : Option Value → pm_H → Prop, Q = (fun v q => ph = q ∧ v = some (.int (zn (ze8 a b)))) := ⟨_, rfl⟩
  rw [← hQ]
  refine zM_mk fun n D => ?_
  show zW n D 47 Q 0 [some (.int (zn a)), some (.int (zn b)), none] [] ph
  have c_0 : ((Int8.ofInt 7).toInt32).toInt = 7 := by decide +kernel
  have c_1 : ((Int8.ofInt 8).toInt32).toInt = 8 := by decide +kernel
  have ta := znt (k := a) (by omega)
  have tb := znt (k := b) (by omega)
  refine w_load (pc' := 1) (v := .int (zn a)) (m := 1) (ykc_47 (e := (2, .iload_n kF0, 0)) rfl) rfl rfl ?_
  refine w_load (pc' := 2) (v := .int (zn b)) (m := 1) (ykc_47 (e := (2, .iload_n kF1, 0)) rfl) rfl rfl ?_
  refine w_alu (pc' := 3) (st' := [.int ((zn a) - (zn b))]) (ykc_47 (e := (0, .isub, 0)) rfl) rfl rfl ?_
  refine w_push (pc' := 5) (v := .int ((Int8.ofInt 7).toInt32)) (m := 2) (ykc_47 (e := (1, .bipush 7, 0)) rfl) rfl rfl ?_
  obtain ⟨z453, e_z453, h_z453⟩ : ∃ zq : Int32, ((zn a) - (zn b)) &&& ((Int8.ofInt 7).toInt32) = zq ∧ zq.toInt = ((a : Int) - b) % 8 := ⟨_, rfl, (zand7 a ha b hb)⟩
  refine w_alu (pc' := 6) (st' := [.int z453]) (ykc_47 (e := (0, .iand, 0)) rfl) (by rw [← e_z453]; rfl) rfl ?_
  refine w_store (pc' := 7) (L' := [some (.int (zn a)), some (.int (zn b)), some (.int z453)]) (st' := []) (m := 1) (ykc_47 (e := (3, .istore_n kF2, 0)) rfl) rfl rfl ?_
  refine w_load (pc' := 8) (v := .int z453) (m := 1) (ykc_47 (e := (2, .iload_n kF2, 0)) rfl) rfl rfl ?_
  refine w_push (pc' := 10) (v := .int ((Int8.ofInt 8).toInt32)) (m := 2) (ykc_47 (e := (1, .bipush 8, 0)) rfl) rfl rfl ?_
  refine w_load (pc' := 11) (v := .int z453) (m := 1) (ykc_47 (e := (2, .iload_n kF2, 0)) rfl) rfl rfl ?_
  obtain ⟨z454, e_z454, h_z454⟩ : ∃ zq : Int32, ((Int8.ofInt 8).toInt32) - z453 = zq ∧ zq.toInt = (8 : Int) - (((a : Int) - b) % 8) := ⟨_, rfl, (by have := ti_sub (x := ((Int8.ofInt 8).toInt32)) (y := z453) (by omega) (by omega); omega)⟩
  refine w_alu (pc' := 12) (st' := [.int z454, .int z453]) (ykc_47 (e := (0, .isub, 0)) rfl) (by rw [← e_z454]; rfl) rfl ?_
  obtain ⟨z455, e_z455⟩ : ∃ zq : Int32, (if z454 < z453 then z454 else z453) = zq := ⟨_, rfl⟩
  have h_z455 := zminI e_z455
  refine w_mem1 (pc' := 15) (m := 3) (st' := [.int z455]) (ph' := ph) (ykc_47 (e := (5, .invokestatic 85, 0)) rfl) (by rw [← e_z455]; rfl) rfl ?_
  refine w_ret (v := (some (.int z455))) (ykc_47 (e := (7, .ireturn, 0)) rfl) (zr_v rfl) ?_
  rw [hQ]
  exact ⟨rfl, by rw [zn_of (x := z455) (k := ze8 a b) (by unfold ze8; omega)]⟩
theorem zc_hasP {ph : pm_H} {S P G : Nat} {v : Nat → Nat} (hs : zSs ph S) (hd : zSd ph S P G v) {i : Int32} : zM 106 [.ref S, .int i] ph (fun v0 q => ph = q ∧ v0 = some (.int (zI (decide (0 ≤ i.toInt ∧ i.toInt < ((P : Nat) : Int)))))) := by
  obtain ⟨Q, hQ⟩ : ∃ Q : Option Value → pm_H → Prop, Q = (fun v0 q => ph = q ∧ v0 = some (.int (zI (decide (0 ≤ i.toInt ∧ i.toInt < ((P : Nat) : Int)))))) := ⟨_, rfl⟩
  rw [← hQ]
  refine zM_mk fun n D => ?_
  show zW n D 106 Q 0 [some (.ref S), some (.int i)] [] ph
  have c_0 : ((Int8.ofInt 8).toInt32).toInt = 8 := by decide +kernel
  have c_1 : (Int32.ofInt 0).toInt = 0 := by decide +kernel
  have c_2 : (Int32.ofInt 1).toInt = 1 := by decide +kernel
  have hd0 := hd
  have hs0 := hs
  obtain ⟨r3, r4, r5, r6, r7, l1, l2, l3, l4, l5⟩ := hs
  obtain ⟨gP, hP8, gG, hG8, gH, gv, gw⟩ := hd
  have tP := znt (k := P) (by omega)
  have tG := znt (k := G) (by omega)
  refine w_load (pc' := 1) (v := .int i) (m := 1) (ykc_106 (e := (2, .iload_n kF1, 0)) rfl) rfl rfl ?_
  refine w_zlt (ykc_106 (e := (4, .ifCond .lt 21, 22)) rfl) rfl (fun b456 => ?_) (fun b456 => ?_)
  · refine w_alu (pc' := 23) (st' := [.int (Int32.ofInt 0)]) (ykc_106 (e := (0, .iconst 0, 0)) rfl) rfl rfl ?_
    refine w_ret (v := (some (.int (Int32.ofInt 0)))) (ykc_106 (e := (7, .ireturn, 0)) rfl) zr_z ?_
    rw [hQ, zi0]
    exact ⟨rfl, zvB ((decide_eq_false (by omega)).symm)⟩
  · refine w_load (pc' := 5) (v := .int i) (m := 1) (ykc_106 (e := (2, .iload_n kF1, 0)) rfl) rfl rfl ?_
    refine w_load (pc' := 6) (v := .ref S) (m := 1) (ykc_106 (e := (2, .aload_n kF0, 0)) rfl) rfl rfl ?_
    refine w_gf (pc' := 9) (v := .int (zn P)) (ykc_106 (e := (5, .getfield 30, 0)) rfl) rfl gP rfl ?_
    refine w_ige (ykc_106 (e := (4, .if_icmp .ge 13, 22)) rfl) rfl (fun b457 => ?_) (fun b457 => ?_)
    · refine w_alu (pc' := 23) (st' := [.int (Int32.ofInt 0)]) (ykc_106 (e := (0, .iconst 0, 0)) rfl) rfl rfl ?_
      refine w_ret (v := (some (.int (Int32.ofInt 0)))) (ykc_106 (e := (7, .ireturn, 0)) rfl) zr_z ?_
      rw [hQ, zi0]
      exact ⟨rfl, zvB ((decide_eq_false (by omega)).symm)⟩
    · refine w_load (pc' := 13) (v := .int i) (m := 1) (ykc_106 (e := (2, .iload_n kF1, 0)) rfl) rfl rfl ?_
      refine w_push (pc' := 15) (v := .int ((Int8.ofInt 8).toInt32)) (m := 2) (ykc_106 (e := (1, .bipush 8, 0)) rfl) rfl rfl ?_
      refine w_ige (ykc_106 (e := (4, .if_icmp .ge 7, 22)) rfl) rfl (fun b458 => ?_) (fun b458 => ?_)
      · refine w_alu (pc' := 23) (st' := [.int (Int32.ofInt 0)]) (ykc_106 (e := (0, .iconst 0, 0)) rfl) rfl rfl ?_
        refine w_ret (v := (some (.int (Int32.ofInt 0)))) (ykc_106 (e := (7, .ireturn, 0)) rfl) zr_z ?_
        rw [hQ, zi0]
        exact ⟨rfl, zvB ((decide_eq_false (by omega)).symm)⟩
      · refine w_alu (pc' := 19) (st' := [.int (Int32.ofInt 1)]) (ykc_106 (e := (0, .iconst 1, 0)) rfl) rfl rfl ?_
        refine w_br (pc' := 23) (st' := [.int (Int32.ofInt 1)]) (ykc_106 (e := (4, .goto 4, 23)) rfl) rfl ?_
        refine w_ret (v := (some (.int (Int32.ofInt 1)))) (ykc_106 (e := (7, .ireturn, 0)) rfl) zr_z ?_
        rw [hQ, zi1]
        exact ⟨rfl, zvB ((decide_eq_true (by omega)).symm)⟩
theorem zc_hasT {ph : pm_H} {S P G : Nat} {v : Nat → Nat} (hs : zSs ph S) (hd : zSd ph S P G v) {i : Int32} : zM 107 [.ref S, .int i] ph (fun v0 q => ph = q ∧ v0 = some (.int (zI (decide (0 ≤ i.toInt ∧ i.toInt < ((G : Nat) : Int)))))) := by
  obtain ⟨Q, hQ⟩ : ∃ Q : Option Value → pm_H → Prop, Q = (fun v0 q => ph = q ∧ v0 = some (.int (zI (decide (0 ≤ i.toInt ∧ i.toInt < ((G : Nat) : Int)))))) := ⟨_, rfl⟩
  rw [← hQ]
  refine zM_mk fun n D => ?_
  show zW n D 107 Q 0 [some (.ref S), some (.int i)] [] ph
  have c_0 : ((Int8.ofInt 8).toInt32).toInt = 8 := by decide +kernel
  have c_1 : (Int32.ofInt 0).toInt = 0 := by decide +kernel
  have c_2 : (Int32.ofInt 1).toInt = 1 := by decide +kernel
  have hd0 := hd
  have hs0 := hs
  obtain ⟨r3, r4, r5, r6, r7, l1, l2, l3, l4, l5⟩ := hs
  obtain ⟨gP, hP8, gG, hG8, gH, gv, gw⟩ := hd
  have tP := znt (k := P) (by omega)
  have tG := znt (k := G) (by omega)
  refine w_load (pc' := 1) (v := .int i) (m := 1) (ykc_107 (e := (2, .iload_n kF1, 0)) rfl) rfl rfl ?_
  refine w_zlt (ykc_107 (e := (4, .ifCond .lt 21, 22)) rfl) rfl (fun b459 => ?_) (fun b459 => ?_)
  · refine w_alu (pc' := 23) (st' := [.int (Int32.ofInt 0)]) (ykc_107 (e := (0, .iconst 0, 0)) rfl) rfl rfl ?_
    refine w_ret (v := (some (.int (Int32.ofInt 0)))) (ykc_107 (e := (7, .ireturn, 0)) rfl) zr_z ?_
    rw [hQ, zi0]
    exact ⟨rfl, zvB ((decide_eq_false (by omega)).symm)⟩
  · refine w_load (pc' := 5) (v := .int i) (m := 1) (ykc_107 (e := (2, .iload_n kF1, 0)) rfl) rfl rfl ?_
    refine w_load (pc' := 6) (v := .ref S) (m := 1) (ykc_107 (e := (2, .aload_n kF0, 0)) rfl) rfl rfl ?_
    refine w_gf (pc' := 9) (v := .int (zn G)) (ykc_107 (e := (5, .getfield 34, 0)) rfl) rfl gG rfl ?_
    refine w_ige (ykc_107 (e := (4, .if_icmp .ge 13, 22)) rfl) rfl (fun b460 => ?_) (fun b460 => ?_)
    · refine w_alu (pc' := 23) (st' := [.int (Int32.ofInt 0)]) (ykc_107 (e := (0, .iconst 0, 0)) rfl) rfl rfl ?_
      refine w_ret (v := (some (.int (Int32.ofInt 0)))) (ykc_107 (e := (7, .ireturn, 0)) rfl) zr_z ?_
      rw [hQ, zi0]
      exact ⟨rfl, zvB ((decide_eq_false (by omega)).symm)⟩
    · refine w_load (pc' := 13) (v := .int i) (m := 1) (ykc_107 (e := (2, .iload_n kF1, 0)) rfl) rfl rfl ?_
      refine w_push (pc' := 15) (v := .int ((Int8.ofInt 8).toInt32)) (m := 2) (ykc_107 (e := (1, .bipush 8, 0)) rfl) rfl rfl ?_
      refine w_ige (ykc_107 (e := (4, .if_icmp .ge 7, 22)) rfl) rfl (fun b461 => ?_) (fun b461 => ?_)
      · refine w_alu (pc' := 23) (st' := [.int (Int32.ofInt 0)]) (ykc_107 (e := (0, .iconst 0, 0)) rfl) rfl rfl ?_
        refine w_ret (v := (some (.int (Int32.ofInt 0)))) (ykc_107 (e := (7, .ireturn, 0)) rfl) zr_z ?_
        rw [hQ, zi0]
        exact ⟨rfl, zvB ((decide_eq_false (by omega)).symm)⟩
      · refine w_alu (pc' := 19) (st' := [.int (Int32.ofInt 1)]) (ykc_107 (e := (0, .iconst 1, 0)) rfl) rfl rfl ?_
        refine w_br (pc' := 23) (st' := [.int (Int32.ofInt 1)]) (ykc_107 (e := (4, .goto 4, 23)) rfl) rfl ?_
        refine w_ret (v := (some (.int (Int32.ofInt 1)))) (ykc_107 (e := (7, .ireturn, 0)) rfl) zr_z ?_
        rw [hQ, zi1]
        exact ⟨rfl, zvB ((decide_eq_true (by omega)).symm)⟩
theorem zc_known {ph : pm_H} {S P G : Nat} {v : Nat → Nat} (hs : zSs ph S) (hd : zSd ph S P G v) : zM 108 [.ref S] ph (fun v0 q => ph = q ∧ v0 = some (.int (zKw v P))) := by
  obtain ⟨Q, hQ⟩ : ∃ Q : Option Value → pm_H → Prop, Q = (fun v0 q => ph = q ∧ v0 = some (.int (zKw v P))) := ⟨_, rfl⟩
  rw [← hQ]
  refine zM_mk fun n D => ?_
  show zW n D 108 Q 0 [some (.ref S), none, none] [] ph
  have c_0 : ((Int8.ofInt 8).toInt32).toInt = 8 := by decide +kernel
  have c_1 : (Int32.ofInt 0).toInt = 0 := by decide +kernel
  have c_2 : (Int32.ofInt 1).toInt = 1 := by decide +kernel
  have hd0 := hd
  have hs0 := hs
  obtain ⟨r3, r4, r5, r6, r7, l1, l2, l3, l4, l5⟩ := hs
  obtain ⟨gP, hP8, gG, hG8, gH, gv, gw⟩ := hd
  have tP := znt (k := P) (by omega)
  have tG := znt (k := G) (by omega)
  refine w_alu (pc' := 1) (st' := [.int (Int32.ofInt 0)]) (ykc_108 (e := (0, .iconst 0, 0)) rfl) rfl rfl ?_
  refine w_store (pc' := 2) (L' := [some (.ref S), some (.int (Int32.ofInt 0)), none]) (st' := []) (m := 1) (ykc_108 (e := (3, .istore_n kF1, 0)) rfl) rfl rfl ?_
  refine w_alu (pc' := 3) (st' := [.int (Int32.ofInt 0)]) (ykc_108 (e := (0, .iconst 0, 0)) rfl) rfl rfl ?_
  refine w_store (pc' := 4) (L' := [some (.ref S), some (.int (Int32.ofInt 0)), some (.int (Int32.ofInt 0))]) (st' := []) (m := 1) (ykc_108 (e := (3, .istore_n kF2, 0)) rfl) rfl rfl ?_
  have hl : ∀ (n : Nat), ∀ (k : Nat), (k ≤ P) → zW n D 108 Q 4 [some (.ref S), some (.int (zKw v k)), some (.int (zn k))] [] ph := by
    intro n
    induction n using Nat.strongRecOn with
    | ind n ih =>
      intro k hk
      have tk := znt (k := k) (by omega)
      refine w_load (pc' := 5) (v := .int (zn k)) (m := 1) (ykc_108 (e := (2, .iload_n kF2, 0)) rfl) rfl rfl ?_
      refine w_load (pc' := 6) (v := .ref S) (m := 1) (ykc_108 (e := (2, .aload_n kF0, 0)) rfl) rfl rfl ?_
      refine w_gf (pc' := 9) (v := .int (zn P)) (ykc_108 (e := (5, .getfield 30, 0)) rfl) rfl gP rfl ?_
      refine w_ige (ykc_108 (e := (4, .if_icmp .ge 27, 36)) rfl) rfl (fun b462 => ?_) (fun b462 => ?_)
      · refine w_load (pc' := 37) (v := .int (zKw v k)) (m := 1) (ykc_108 (e := (2, .iload_n kF1, 0)) rfl) rfl rfl ?_
        refine w_ret (v := (some (.int (zKw v k)))) (ykc_108 (e := (7, .ireturn, 0)) rfl) (zr_v rfl) ?_
        have ek : P = k := by omega
        subst ek
        rw [hQ]
        exact ⟨rfl, rfl⟩
      · refine w_load (pc' := 13) (v := .int (zn k)) (m := 1) (ykc_108 (e := (2, .iload_n kF2, 0)) rfl) rfl rfl ?_
        refine w_push (pc' := 15) (v := .int ((Int8.ofInt 8).toInt32)) (m := 2) (ykc_108 (e := (1, .bipush 8, 0)) rfl) rfl rfl ?_
        refine w_ige (ykc_108 (e := (4, .if_icmp .ge 21, 36)) rfl) rfl (fun q => by exfalso; omega) (fun b463 => ?_)
        refine w_load (pc' := 19) (v := .int (zKw v k)) (m := 1) (ykc_108 (e := (2, .iload_n kF1, 0)) rfl) rfl rfl ?_
        refine w_load (pc' := 20) (v := .ref S) (m := 1) (ykc_108 (e := (2, .aload_n kF0, 0)) rfl) rfl rfl ?_
        refine w_gf (pc' := 23) (v := .ref (S + 4)) (ykc_108 (e := (5, .getfield 21, 0)) rfl) rfl r6 rfl ?_
        refine w_load (pc' := 24) (v := .int (zn k)) (m := 1) (ykc_108 (e := (2, .iload_n kF2, 0)) rfl) rfl rfl ?_
        refine w_ialk (pc' := 25) (k := k) (ykc_108 (e := (5, .iaload, 0)) rfl) (gv k (by omega)).2.2.2 (by omega) rfl ?_
        refine w_cs (as := [.int (zn (v (24 + k)))]) (r := [.int (zKw v k)]) (ykc_108 (e := (6, .invokestatic 46, 0)) rfl) rfl rfl rfl rfl (zj_pc) (fun v464 ph465 hv => ?_)
        obtain ⟨rfl, rfl⟩ := hv
        show zW n D 108 Q 28 [some (.ref S), some (.int (zKw v k)), some (.int (zn k))] [.int (zpc (zn (v (24 + k)))), .int (zKw v k)] ph
        refine w_alu (pc' := 29) (st' := [.int ((zKw v k) + (zpc (zn (v (24 + k)))))]) (ykc_108 (e := (0, .iadd, 0)) rfl) rfl rfl ?_
        refine w_store (pc' := 30) (L' := [some (.ref S), some (.int ((zKw v k) + (zpc (zn (v (24 + k)))))), some (.int (zn k))]) (st' := []) (m := 1) (ykc_108 (e := (3, .istore_n kF1, 0)) rfl) rfl rfl ?_
        have e466 : (zn k) + Int32.ofInt 1 = zn (k + 1) := (zaddN (a := k) (b := 1) (znt (by omega)) c_2 (by omega))
        have te466 := znt (k := k + 1) (by omega)
        refine w_store (pc' := 33) (L' := [some (.ref S), some (.int ((zKw v k) + (zpc (zn (v (24 + k)))))), some (.int (zn (k + 1)))]) (st' := []) (m := 3) (ykc_108 (e := (3, .iinc 2 1, 0)) rfl) (by rw [← e466]; rfl) rfl ?_
        refine w_gb (ykc_108 (e := (4, .goto (-29), 4)) rfl) (fun k467 hk467 => ?_)
        exact ih k467 hk467 (k + 1) (by omega)
  exact hl n 0 (Nat.zero_le _)
theorem zc_ton {ph : pm_H} {S P G : Nat} {v : Nat → Nat} (hs : zSs ph S) (hd : zSd ph S P G v) {x : Int64} (hb : ∀ i, i < G → v (32 + i) < 64) : zM 114 [.ref S, .long x] ph (fun v0 q => ph = q ∧ v0 = some (.int (zTon G v x))) := by
  obtain ⟨Q, hQ⟩ : ∃ Q : Option Value → pm_H → Prop, Q = (fun v0 q => ph = q ∧ v0 = some (.int (zTon G v x))) := ⟨_, rfl⟩
  rw [← hQ]
  refine zM_mk fun n D => ?_
  show zW n D 114 Q 0 [some (.ref S), some (.long x), none, none, none] [] ph
  have c_0 : ((Int8.ofInt 8).toInt32).toInt = 8 := by decide +kernel
  have c_1 : (Int32.ofInt 0).toInt = 0 := by decide +kernel
  have c_2 : (Int32.ofInt 1).toInt = 1 := by decide +kernel
  have hd0 := hd
  have hs0 := hs
  obtain ⟨r3, r4, r5, r6, r7, l1, l2, l3, l4, l5⟩ := hs
  obtain ⟨gP, hP8, gG, hG8, gH, gv, gw⟩ := hd
  have tP := znt (k := P) (by omega)
  have tG := znt (k := G) (by omega)
  refine w_alu (pc' := 1) (st' := [.int (Int32.ofInt 0)]) (ykc_114 (e := (0, .iconst 0, 0)) rfl) rfl rfl ?_
  refine w_store (pc' := 2) (L' := [some (.ref S), some (.long x), none, some (.int (Int32.ofInt 0)), none]) (st' := []) (m := 1) (ykc_114 (e := (3, .istore_n kF3, 0)) rfl) rfl rfl ?_
  refine w_alu (pc' := 3) (st' := [.int (Int32.ofInt 0)]) (ykc_114 (e := (0, .iconst 0, 0)) rfl) rfl rfl ?_
  refine w_store (pc' := 5) (L' := [some (.ref S), some (.long x), none, some (.int (Int32.ofInt 0)), some (.int (Int32.ofInt 0))]) (st' := []) (m := 2) (ykc_114 (e := (3, .istore 4, 0)) rfl) rfl rfl ?_
  have hl : ∀ (n : Nat), ∀ (k : Nat), (k ≤ G) → zW n D 114 Q 5 [some (.ref S), some (.long x), none, some (.int (zT (fun t => zb x (v (32 + t))) k)), some (.int (zn k))] [] ph := by
    intro n
    induction n using Nat.strongRecOn with
    | ind n ih =>
      intro k hk
      have tk := znt (k := k) (by omega)
      refine w_load (pc' := 7) (v := .int (zn k)) (m := 2) (ykc_114 (e := (2, .iload 4, 0)) rfl) rfl rfl ?_
      refine w_load (pc' := 8) (v := .ref S) (m := 1) (ykc_114 (e := (2, .aload_n kF0, 0)) rfl) rfl rfl ?_
      refine w_gf (pc' := 11) (v := .int (zn G)) (ykc_114 (e := (5, .getfield 34, 0)) rfl) rfl gG rfl ?_
      refine w_ige (ykc_114 (e := (4, .if_icmp .ge 34, 45)) rfl) rfl (fun b468 => ?_) (fun b468 => ?_)
      · refine w_load (pc' := 46) (v := .int (zT (fun t => zb x (v (32 + t))) k)) (m := 1) (ykc_114 (e := (2, .iload_n kF3, 0)) rfl) rfl rfl ?_
        refine w_ret (v := (some (.int (zT (fun t => zb x (v (32 + t))) k)))) (ykc_114 (e := (7, .ireturn, 0)) rfl) (zr_v rfl) ?_
        have ek : G = k := by omega
        subst ek
        rw [hQ]
        exact ⟨rfl, rfl⟩
      · refine w_load (pc' := 16) (v := .int (zn k)) (m := 2) (ykc_114 (e := (2, .iload 4, 0)) rfl) rfl rfl ?_
        refine w_push (pc' := 18) (v := .int ((Int8.ofInt 8).toInt32)) (m := 2) (ykc_114 (e := (1, .bipush 8, 0)) rfl) rfl rfl ?_
        refine w_ige (ykc_114 (e := (4, .if_icmp .ge 27, 45)) rfl) rfl (fun q => by exfalso; omega) (fun b469 => ?_)
        refine w_load (pc' := 22) (v := .int (zT (fun t => zb x (v (32 + t))) k)) (m := 1) (ykc_114 (e := (2, .iload_n kF3, 0)) rfl) rfl rfl ?_
        refine w_load (pc' := 23) (v := .long x) (m := 1) (ykc_114 (e := (2, .lload_n kF1, 0)) rfl) rfl rfl ?_
        refine w_load (pc' := 24) (v := .ref S) (m := 1) (ykc_114 (e := (2, .aload_n kF0, 0)) rfl) rfl rfl ?_
        refine w_gf (pc' := 27) (v := .ref (S + 5)) (ykc_114 (e := (5, .getfield 24, 0)) rfl) rfl r7 rfl ?_
        refine w_load (pc' := 29) (v := .int (zn k)) (m := 2) (ykc_114 (e := (2, .iload 4, 0)) rfl) rfl rfl ?_
        refine w_ialk (pc' := 30) (k := k) (ykc_114 (e := (5, .iaload, 0)) rfl) (gw k (by omega)) (by omega) rfl ?_
        refine w_alu (pc' := 31) (st' := [.long (x >>> ((zn (v (32 + k))).toInt64 &&& 63)), .int (zT (fun t => zb x (v (32 + t))) k)]) (ykc_114 (e := (0, .lshr, 0)) rfl) rfl rfl ?_
        refine w_alu (pc' := 32) (st' := [.long (Int64.ofNat kG1), .long (x >>> ((zn (v (32 + k))).toInt64 &&& 63)), .int (zT (fun t => zb x (v (32 + t))) k)]) (ykc_114 (e := (0, .lconst kG1, 0)) rfl) rfl rfl ?_
        refine w_alu (pc' := 33) (st' := [.long ((x >>> ((zn (v (32 + k))).toInt64 &&& 63)) &&& (Int64.ofNat kG1)), .int (zT (fun t => zb x (v (32 + t))) k)]) (ykc_114 (e := (0, .land, 0)) rfl) rfl rfl ?_
        refine w_alu (pc' := 34) (st' := [.int (((x >>> ((zn (v (32 + k))).toInt64 &&& 63)) &&& (Int64.ofNat kG1)).toInt32), .int (zT (fun t => zb x (v (32 + t))) k)]) (ykc_114 (e := (0, .l2i, 0)) rfl) rfl rfl ?_
        refine w_load (pc' := 36) (v := .int (zn k)) (m := 2) (ykc_114 (e := (2, .iload 4, 0)) rfl) rfl rfl ?_
        refine w_alu (pc' := 37) (st' := [.int ((((x >>> ((zn (v (32 + k))).toInt64 &&& 63)) &&& (Int64.ofNat kG1)).toInt32) <<< ((zn k) &&& 31)), .int (zT (fun t => zb x (v (32 + t))) k)]) (ykc_114 (e := (0, .ishl, 0)) rfl) rfl rfl ?_
        refine w_alu (pc' := 38) (st' := [.int ((zT (fun t => zb x (v (32 + t))) k) ||| ((((x >>> ((zn (v (32 + k))).toInt64 &&& 63)) &&& (Int64.ofNat kG1)).toInt32) <<< ((zn k) &&& 31)))]) (ykc_114 (e := (0, .ior, 0)) rfl) rfl rfl ?_
        refine w_store (pc' := 39) (L' := [some (.ref S), some (.long x), none, some (.int ((zT (fun t => zb x (v (32 + t))) k) ||| ((((x >>> ((zn (v (32 + k))).toInt64 &&& 63)) &&& (Int64.ofNat kG1)).toInt32) <<< ((zn k) &&& 31)))), some (.int (zn k))]) (st' := []) (m := 1) (ykc_114 (e := (3, .istore_n kF3, 0)) rfl) rfl rfl ?_
        have e470 : (zn k) + Int32.ofInt 1 = zn (k + 1) := (zaddN (a := k) (b := 1) (znt (by omega)) c_2 (by omega))
        have te470 := znt (k := k + 1) (by omega)
        refine w_store (pc' := 42) (L' := [some (.ref S), some (.long x), none, some (.int ((zT (fun t => zb x (v (32 + t))) k) ||| ((((x >>> ((zn (v (32 + k))).toInt64 &&& 63)) &&& (Int64.ofNat kG1)).toInt32) <<< ((zn k) &&& 31)))), some (.int (zn (k + 1)))]) (st' := []) (m := 3) (ykc_114 (e := (3, .iinc 4 1, 0)) rfl) (by rw [← e470]; rfl) rfl ?_
        refine w_gb (ykc_114 (e := (4, .goto (-37), 5)) rfl) (fun k471 hk471 => ?_)
        have et : zT (fun t => zb x (v (32 + t))) (k + 1) = (zT (fun t => zb x (v (32 + t))) k) ||| ((((x >>> ((zn (v (32 + k))).toInt64 &&& 63)) &&& (Int64.ofNat kG1)).toInt32) <<< ((zn k) &&& 31)) := by
          show (zT (fun t => zb x (v (32 + t))) k ||| bif (fun t => zb x (v (32 + t))) k then _ else _) = _
          rw [zcb (hb k (by omega)) (by omega)]
        have h9 := ih k471 hk471 (k + 1) (by omega)
        rw [et] at h9
        exact h9
  exact hl n 0 (Nat.zero_le _)
theorem zc_pon {ph : pm_H} {S P G : Nat} {v : Nat → Nat} (hs : zSs ph S) (hd : zSd ph S P G v) {x : Int64} (hb : ∀ i, i < P → v i < 64) : zM 113 [.ref S, .long x] ph (fun v0 q => ph = q ∧ v0 = some (.int (zPon P v x))) := by
  obtain ⟨Q, hQ⟩ : ∃ Q : Option Value → pm_H → Prop, Q = (fun v0 q => ph = q ∧ v0 = some (.int (zPon P v x))) := ⟨_, rfl⟩
  rw [← hQ]
  refine zM_mk fun n D => ?_
  show zW n D 113 Q 0 [some (.ref S), some (.long x), none, none, none] [] ph
  have c_0 : ((Int8.ofInt 8).toInt32).toInt = 8 := by decide +kernel
  have c_1 : (Int32.ofInt 0).toInt = 0 := by decide +kernel
  have c_2 : (Int32.ofInt 1).toInt = 1 := by decide +kernel
  have hd0 := hd
  have hs0 := hs
  obtain ⟨r3, r4, r5, r6, r7, l1, l2, l3, l4, l5⟩ := hs
  obtain ⟨gP, hP8, gG, hG8, gH, gv, gw⟩ := hd
  have tP := znt (k := P) (by omega)
  have tG := znt (k := G) (by omega)
  refine w_alu (pc' := 1) (st' := [.int (Int32.ofInt 0)]) (ykc_113 (e := (0, .iconst 0, 0)) rfl) rfl rfl ?_
  refine w_store (pc' := 2) (L' := [some (.ref S), some (.long x), none, some (.int (Int32.ofInt 0)), none]) (st' := []) (m := 1) (ykc_113 (e := (3, .istore_n kF3, 0)) rfl) rfl rfl ?_
  refine w_alu (pc' := 3) (st' := [.int (Int32.ofInt 0)]) (ykc_113 (e := (0, .iconst 0, 0)) rfl) rfl rfl ?_
  refine w_store (pc' := 5) (L' := [some (.ref S), some (.long x), none, some (.int (Int32.ofInt 0)), some (.int (Int32.ofInt 0))]) (st' := []) (m := 2) (ykc_113 (e := (3, .istore 4, 0)) rfl) rfl rfl ?_
  have hl : ∀ (n : Nat), ∀ (k : Nat), (k ≤ P) → zW n D 113 Q 5 [some (.ref S), some (.long x), none, some (.int (zT (fun p => zb x (v p)) k)), some (.int (zn k))] [] ph := by
    intro n
    induction n using Nat.strongRecOn with
    | ind n ih =>
      intro k hk
      have tk := znt (k := k) (by omega)
      refine w_load (pc' := 7) (v := .int (zn k)) (m := 2) (ykc_113 (e := (2, .iload 4, 0)) rfl) rfl rfl ?_
      refine w_load (pc' := 8) (v := .ref S) (m := 1) (ykc_113 (e := (2, .aload_n kF0, 0)) rfl) rfl rfl ?_
      refine w_gf (pc' := 11) (v := .int (zn P)) (ykc_113 (e := (5, .getfield 30, 0)) rfl) rfl gP rfl ?_
      refine w_ige (ykc_113 (e := (4, .if_icmp .ge 34, 45)) rfl) rfl (fun b472 => ?_) (fun b472 => ?_)
      · refine w_load (pc' := 46) (v := .int (zT (fun p => zb x (v p)) k)) (m := 1) (ykc_113 (e := (2, .iload_n kF3, 0)) rfl) rfl rfl ?_
        refine w_ret (v := (some (.int (zT (fun p => zb x (v p)) k)))) (ykc_113 (e := (7, .ireturn, 0)) rfl) (zr_v rfl) ?_
        have ek : P = k := by omega
        subst ek
        rw [hQ]
        exact ⟨rfl, rfl⟩
      · refine w_load (pc' := 16) (v := .int (zn k)) (m := 2) (ykc_113 (e := (2, .iload 4, 0)) rfl) rfl rfl ?_
        refine w_push (pc' := 18) (v := .int ((Int8.ofInt 8).toInt32)) (m := 2) (ykc_113 (e := (1, .bipush 8, 0)) rfl) rfl rfl ?_
        refine w_ige (ykc_113 (e := (4, .if_icmp .ge 27, 45)) rfl) rfl (fun q => by exfalso; omega) (fun b473 => ?_)
        refine w_load (pc' := 22) (v := .int (zT (fun p => zb x (v p)) k)) (m := 1) (ykc_113 (e := (2, .iload_n kF3, 0)) rfl) rfl rfl ?_
        refine w_load (pc' := 23) (v := .long x) (m := 1) (ykc_113 (e := (2, .lload_n kF1, 0)) rfl) rfl rfl ?_
        refine w_load (pc' := 24) (v := .ref S) (m := 1) (ykc_113 (e := (2, .aload_n kF0, 0)) rfl) rfl rfl ?_
        refine w_gf (pc' := 27) (v := .ref (S + 1)) (ykc_113 (e := (5, .getfield 9, 0)) rfl) rfl r3 rfl ?_
        refine w_load (pc' := 29) (v := .int (zn k)) (m := 2) (ykc_113 (e := (2, .iload 4, 0)) rfl) rfl rfl ?_
        refine w_ialk (pc' := 30) (k := k) (ykc_113 (e := (5, .iaload, 0)) rfl) (gv k (by omega)).1 (by omega) rfl ?_
        refine w_alu (pc' := 31) (st' := [.long (x >>> ((zn (v k)).toInt64 &&& 63)), .int (zT (fun p => zb x (v p)) k)]) (ykc_113 (e := (0, .lshr, 0)) rfl) rfl rfl ?_
        refine w_alu (pc' := 32) (st' := [.long (Int64.ofNat kG1), .long (x >>> ((zn (v k)).toInt64 &&& 63)), .int (zT (fun p => zb x (v p)) k)]) (ykc_113 (e := (0, .lconst kG1, 0)) rfl) rfl rfl ?_
        refine w_alu (pc' := 33) (st' := [.long ((x >>> ((zn (v k)).toInt64 &&& 63)) &&& (Int64.ofNat kG1)), .int (zT (fun p => zb x (v p)) k)]) (ykc_113 (e := (0, .land, 0)) rfl) rfl rfl ?_
        refine w_alu (pc' := 34) (st' := [.int (((x >>> ((zn (v k)).toInt64 &&& 63)) &&& (Int64.ofNat kG1)).toInt32), .int (zT (fun p => zb x (v p)) k)]) (ykc_113 (e := (0, .l2i, 0)) rfl) rfl rfl ?_
        refine w_load (pc' := 36) (v := .int (zn k)) (m := 2) (ykc_113 (e := (2, .iload 4, 0)) rfl) rfl rfl ?_
        refine w_alu (pc' := 37) (st' := [.int ((((x >>> ((zn (v k)).toInt64 &&& 63)) &&& (Int64.ofNat kG1)).toInt32) <<< ((zn k) &&& 31)), .int (zT (fun p => zb x (v p)) k)]) (ykc_113 (e := (0, .ishl, 0)) rfl) rfl rfl ?_
        refine w_alu (pc' := 38) (st' := [.int ((zT (fun p => zb x (v p)) k) ||| ((((x >>> ((zn (v k)).toInt64 &&& 63)) &&& (Int64.ofNat kG1)).toInt32) <<< ((zn k) &&& 31)))]) (ykc_113 (e := (0, .ior, 0)) rfl) rfl rfl ?_
        refine w_store (pc' := 39) (L' := [some (.ref S), some (.long x), none, some (.int ((zT (fun p => zb x (v p)) k) ||| ((((x >>> ((zn (v k)).toInt64 &&& 63)) &&& (Int64.ofNat kG1)).toInt32) <<< ((zn k) &&& 31)))), some (.int (zn k))]) (st' := []) (m := 1) (ykc_113 (e := (3, .istore_n kF3, 0)) rfl) rfl rfl ?_
        have e474 : (zn k) + Int32.ofInt 1 = zn (k + 1) := (zaddN (a := k) (b := 1) (znt (by omega)) c_2 (by omega))
        have te474 := znt (k := k + 1) (by omega)
        refine w_store (pc' := 42) (L' := [some (.ref S), some (.long x), none, some (.int ((zT (fun p => zb x (v p)) k) ||| ((((x >>> ((zn (v k)).toInt64 &&& 63)) &&& (Int64.ofNat kG1)).toInt32) <<< ((zn k) &&& 31)))), some (.int (zn (k + 1)))]) (st' := []) (m := 3) (ykc_113 (e := (3, .iinc 4 1, 0)) rfl) (by rw [← e474]; rfl) rfl ?_
        refine w_gb (ykc_113 (e := (4, .goto (-37), 5)) rfl) (fun k475 hk475 => ?_)
        have et : zT (fun p => zb x (v p)) (k + 1) = (zT (fun p => zb x (v p)) k) ||| ((((x >>> ((zn (v k)).toInt64 &&& 63)) &&& (Int64.ofNat kG1)).toInt32) <<< ((zn k) &&& 31)) := by
          show (zT (fun p => zb x (v p)) k ||| bif (fun p => zb x (v p)) k then _ else _) = _
          rw [zcb (hb k (by omega)) (by omega)]
        have h9 := ih k475 hk475 (k + 1) (by omega)
        rw [et] at h9
        exact h9
  exact hl n 0 (Nat.zero_le _)
