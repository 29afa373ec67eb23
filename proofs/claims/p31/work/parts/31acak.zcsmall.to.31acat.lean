/-! joined: 31acak.zcsmall.lean.txt 31acal.zcsee.lean.txt 31acam.zcview.lean.txt 31acan.zcpass.lean.txt 31acao.zchour.lean.txt 31acap.zcpass.lean.txt 31acaq.zchist.lean.txt 31acar.zcacts.lean.txt 31acas.zacts.lean.txt 31acat.zmcall.lean.txt -/
section
/-! the class: land and states, by W; printed by wip/z/z_i_class.py -/
/-- the class's valley -/
def zCl (ph : pm_H) (R C : Nat) (rk : Nat → Bool) : Prop := zc ph 5 0 = some (.int (zn R)) ∧ zc ph 5 1 = some (.int (zn C)) ∧ zc ph 5 2 = some (.int (zn (R * C))) ∧ zc ph 5 3 = some (.long (zS rk (R * C))) ∧ (∀ f, f < R * C → zc ph 6 f = some (.int (zn (f / C))) ∧ zc ph 7 f = some (.int (zn (f % C)))) ∧ 3 ≤ R ∧ R ≤ 7 ∧ 3 ≤ C ∧ C ≤ 7
/-- a State at S: its arrays, its contents -/
def zSs (ph : pm_H) (S : Nat) : Prop := zc ph S 3 = some (.ref (S + 1)) ∧ zc ph S 4 = some (.ref (S + 2)) ∧ zc ph S 5 = some (.ref (S + 3)) ∧ zc ph S 6 = some (.ref (S + 4)) ∧ zc ph S 7 = some (.ref (S + 5)) ∧ zln ph (S + 1) = some 8 ∧ zln ph (S + 2) = some 8 ∧ zln ph (S + 3) = some 8 ∧ zln ph (S + 4) = some 8 ∧ zln ph (S + 5) = some 8
def zSd (ph : pm_H) (S P G : Nat) (v : Nat → Nat) : Prop := zc ph S 0 = some (.int (zn P)) ∧ P ≤ 8 ∧ zc ph S 1 = some (.int (zn G)) ∧ G ≤ 8 ∧ zc ph S 2 = some (.int (zn (v 40))) ∧ (∀ i, i < P → zc ph (S + 1) i = some (.int (zn (v i))) ∧ zc ph (S + 2) i = some (.int (zn (v (8 + i)))) ∧ zc ph (S + 3) i = some (.int (zn (v (16 + i)))) ∧ zc ph (S + 4) i = some (.int (zn (v (24 + i))))) ∧ ∀ i, i < G → zc ph (S + 5) i = some (.int (zn (v (32 + i))))
theorem zSs_get {ph : pm_H} (hS : zSh ph) {S : Nat} (h : zlk zstatL S 3 = some (S + 1) ∧ zlk zstatL S 4 = some (S + 2) ∧ zlk zstatL S 5 = some (S + 3) ∧ zlk zstatL S 6 = some (S + 4) ∧ zlk zstatL S 7 = some (S + 5)) (h2 : zll zlenL (S + 1) = some 8 ∧ zll zlenL (S + 2) = some 8 ∧ zll zlenL (S + 3) = some 8 ∧ zll zlenL (S + 4) = some 8 ∧ zll zlenL (S + 5) = some 8) : zSs ph S := ⟨hS.1 _ _ _ h.1, hS.1 _ _ _ h.2.1, hS.1 _ _ _ h.2.2.1, hS.1 _ _ _ h.2.2.2.1, hS.1 _ _ _ h.2.2.2.2, hS.2 _ _ h2.1, hS.2 _ _ h2.2.1, hS.2 _ _ h2.2.2.1, hS.2 _ _ h2.2.2.2.1, hS.2 _ _ h2.2.2.2.2⟩
/-- the addresses of States -/
def zSadr (S : Nat) : Bool := S == 25 || S == 31 || S == 37 || (45 ≤ S && S ≤ 129 && (S - 45) % 6 == 0) || S == 136 || S == 142 || S == 148
theorem zSs_all : (List.range 160).all (fun S => !zSadr S || ((zlk zstatL S 3 == some (S + 1) && zlk zstatL S 4 == some (S + 2) && zlk zstatL S 5 == some (S + 3) && zlk zstatL S 6 == some (S + 4) && zlk zstatL S 7 == some (S + 5)) && (zll zlenL (S + 1) == some 8 && zll zlenL (S + 2) == some 8 && zll zlenL (S + 3) == some 8 && zll zlenL (S + 4) == some 8 && zll zlenL (S + 5) == some 8))) = true := by decide +kernel
theorem zSs_of {ph : pm_H} (hS : zSh ph) {S : Nat} (h : zSadr S = true) : zSs ph S := by
  have hlt : S < 160 := by
    unfold zSadr at h
    simp only [Bool.or_eq_true, Bool.and_eq_true, beq_iff_eq, decide_eq_true_eq] at h
    omega
  have h1 := List.all_eq_true.mp zSs_all S (List.mem_range.mpr hlt)
  rw [h] at h1
  simp only [Bool.not_true, Bool.false_or, Bool.and_eq_true, beq_iff_eq] at h1
  exact zSs_get hS ⟨h1.1.1.1.1.1, h1.1.1.1.1.2, h1.1.1.1.2, h1.1.1.2, h1.1.2⟩ ⟨h1.2.1.1.1.1, h1.2.1.1.1.2, h1.2.1.1.2, h1.2.1.2, h1.2.2⟩
/-- (int) (x >> f & 1) << k -/
theorem zcb {x : Int64} {f k : Nat} (hf : f < 64) (hk : k < 32) : ((x >>> ((zn f).toInt64 &&& 63)) &&& Int64.ofNat kG1).toInt32 <<< (zn k &&& 31) = bif zb x f then Int32.ofInt 1 <<< (zn k &&& 31) else Int32.ofInt 0 := by
  have h0 : zb (x >>> ((zn f).toInt64 &&& 63)) 0 = zb x f := zb_shr (i := 0) hf (by omega)
  cases hb : zb x f with
  | true =>
    rw [zL1, (zand1_64 _).mpr (h0.trans hb)]
    rfl
  | false =>
    have e : (x >>> ((zn f).toInt64 &&& 63)) &&& 1 = 0 := zb_ext fun i hi => by
      rw [zb_and, zb_1 hi]
      by_cases q : i = 0
      · subst q; rw [h0, hb]; simp [zb]
      · simp [q, zb]
    rw [zL1, e, cond_false]
    refine zd_ext fun i hi => ?_
    rw [zd_shl hk hi]
    simp [zd]
theorem zc_has {x : Int64} {k : Int32} {kn : Nat} {ph : pm_H} (hk : k.toInt = (kn : Int)) (h64 : kn < 64) : zM 163 [.long x, .int k] ph (fun v q => ph = q ∧ v = some (.int (zI (zb x kn)))) := by
  obtain ⟨Q, hQ⟩ : ∃ Q : Option Value → pm_H → Prop, Q = (fun v q => ph = q ∧ v = some (.int (zI (zb x kn)))) := ⟨_, rfl⟩
  rw [← hQ]
  refine zM_mk fun n D => ?_
  show zW n D 163 Q 0 [some (.long x), none, some (.int k)] [] ph
  have c_0 : (Int32.ofInt 0).toInt = 0 := by decide
  have c_1 : (Int32.ofInt 1).toInt = 1 := by decide
  obtain rfl := zn_of hk
  have hz := zhas (x := x) h64
  show zW n D 163 Q 0 [some (.long x), none, some (.int (zn kn))] [] ph
  refine w_load (pc' := 1) (v := .long x) (m := 1) (ykc_163 (e := (2, .lload_n kF0, 0)) rfl) rfl rfl ?_
  refine w_load (pc' := 2) (v := .int (zn kn)) (m := 1) (ykc_163 (e := (2, .iload_n kF2, 0)) rfl) rfl rfl ?_
  refine w_alu (pc' := 3) (st' := [.long (x >>> ((zn kn).toInt64 &&& 63))]) (ykc_163 (e := (0, .lshr, 0)) rfl) rfl rfl ?_
  refine w_alu (pc' := 4) (st' := [.long (Int64.ofNat kG1), .long (x >>> ((zn kn).toInt64 &&& 63))]) (ykc_163 (e := (0, .lconst kG1, 0)) rfl) rfl rfl ?_
  refine w_alu (pc' := 5) (st' := [.long ((x >>> ((zn kn).toInt64 &&& 63)) &&& (Int64.ofNat kG1))]) (ykc_163 (e := (0, .land, 0)) rfl) rfl rfl ?_
  refine w_alu (pc' := 6) (st' := [.long (Int64.ofNat kG1), .long ((x >>> ((zn kn).toInt64 &&& 63)) &&& (Int64.ofNat kG1))]) (ykc_163 (e := (0, .lconst kG1, 0)) rfl) rfl rfl ?_
  refine w_alu (pc' := 7) (st' := [.int (lg_cmp ((x >>> ((zn kn).toInt64 &&& 63)) &&& (Int64.ofNat kG1)) (Int64.ofNat kG1))]) (ykc_163 (e := (0, .lcmp, 0)) rfl) rfl rfl ?_
  refine w_zne (ykc_163 (e := (4, .ifCond .ne 7, 14)) rfl) rfl (fun b433 => ?_) (fun b433 => ?_)
  · refine w_alu (pc' := 15) (st' := [.int (Int32.ofInt 0)]) (ykc_163 (e := (0, .iconst 0, 0)) rfl) rfl rfl ?_
    refine w_ret (v := (some (.int (Int32.ofInt 0)))) (ykc_163 (e := (7, .ireturn, 0)) rfl) zr_z ?_
    rw [hQ, zi0]
    exact ⟨rfl, zvB ((Bool.eq_false_iff.mpr (fun q => b433 (hz.mpr q))).symm)⟩
  · refine w_alu (pc' := 11) (st' := [.int (Int32.ofInt 1)]) (ykc_163 (e := (0, .iconst 1, 0)) rfl) rfl rfl ?_
    refine w_br (pc' := 15) (st' := [.int (Int32.ofInt 1)]) (ykc_163 (e := (4, .goto 4, 15)) rfl) rfl ?_
    refine w_ret (v := (some (.int (Int32.ofInt 1)))) (ykc_163 (e := (7, .ireturn, 0)) rfl) zr_z ?_
    rw [hQ, zi1]
    exact ⟨rfl, zvB ((hz.mp b433).symm)⟩
theorem zc_rows {ph : pm_H} {R C : Nat} {rk : Nat → Bool} (hS : zSh ph) (hL : zCl ph R C rk) : zM 37 [.ref 5] ph (fun v q => ph = q ∧ v = some (.int (zn R))) := by
  obtain ⟨Q, hQ⟩ : ∃ Q : Option Value → pm_H → Prop, Q = (fun v q => ph = q ∧ v = some (.int (zn R))) := ⟨_, rfl⟩
  rw [← hQ]
  refine zM_mk fun n D => ?_
  show zW n D 37 Q 0 [some (.ref 5)] [] ph
  obtain ⟨gR, gC, gN, gK, gA, hR3, hR7, hC3, hC7⟩ := hL
  have hRC := zRC49 hR7 hC7
  have tR := znt (k := R) (by omega)
  have tC := znt (k := C) (by omega)
  have tRC := znt (k := R * C) (by omega)
  refine w_load (pc' := 1) (v := .ref 5) (m := 1) (ykc_37 (e := (2, .aload_n kF0, 0)) rfl) rfl rfl ?_
  refine w_gf (pc' := 4) (v := .int (zn R)) (ykc_37 (e := (5, .getfield 46, 0)) rfl) rfl gR rfl ?_
  refine w_ret (v := (some (.int (zn R)))) (ykc_37 (e := (7, .ireturn, 0)) rfl) (zr_v rfl) ?_
  rw [hQ]
  exact ⟨rfl, rfl⟩
theorem zc_cols {ph : pm_H} {R C : Nat} {rk : Nat → Bool} (hS : zSh ph) (hL : zCl ph R C rk) : zM 38 [.ref 5] ph (fun v q => ph = q ∧ v = some (.int (zn C))) := by
  obtain ⟨Q, hQ⟩ : ∃ Q : Option Value → pm_H → Prop, Q = (fun v q => ph = q ∧ v = some (.int (zn C))) := ⟨_, rfl⟩
  rw [← hQ]
  refine zM_mk fun n D => ?_
  show zW n D 38 Q 0 [some (.ref 5)] [] ph
  obtain ⟨gR, gC, gN, gK, gA, hR3, hR7, hC3, hC7⟩ := hL
  have hRC := zRC49 hR7 hC7
  have tR := znt (k := R) (by omega)
  have tC := znt (k := C) (by omega)
  have tRC := znt (k := R * C) (by omega)
  refine w_load (pc' := 1) (v := .ref 5) (m := 1) (ykc_38 (e := (2, .aload_n kF0, 0)) rfl) rfl rfl ?_
  refine w_gf (pc' := 4) (v := .int (zn C)) (ykc_38 (e := (5, .getfield 50, 0)) rfl) rfl gC rfl ?_
  refine w_ret (v := (some (.int (zn C)))) (ykc_38 (e := (7, .ireturn, 0)) rfl) (zr_v rfl) ?_
  rw [hQ]
  exact ⟨rfl, rfl⟩
theorem zc_fields {ph : pm_H} {R C : Nat} {rk : Nat → Bool} (hS : zSh ph) (hL : zCl ph R C rk) : zM 39 [.ref 5] ph (fun v q => ph = q ∧ v = some (.int (zn (R * C)))) := by
  obtain ⟨Q, hQ⟩ : ∃ Q : Option Value → pm_H → Prop, Q = (fun v q => ph = q ∧ v = some (.int (zn (R * C)))) := ⟨_, rfl⟩
  rw [← hQ]
  refine zM_mk fun n D => ?_
  show zW n D 39 Q 0 [some (.ref 5)] [] ph
  obtain ⟨gR, gC, gN, gK, gA, hR3, hR7, hC3, hC7⟩ := hL
  have hRC := zRC49 hR7 hC7
  have tR := znt (k := R) (by omega)
  have tC := znt (k := C) (by omega)
  have tRC := znt (k := R * C) (by omega)
  refine w_load (pc' := 1) (v := .ref 5) (m := 1) (ykc_39 (e := (2, .aload_n kF0, 0)) rfl) rfl rfl ?_
  refine w_gf (pc' := 4) (v := .int (zn (R * C))) (ykc_39 (e := (5, .getfield 60, 0)) rfl) rfl gN rfl ?_
  refine w_ret (v := (some (.int (zn (R * C))))) (ykc_39 (e := (7, .ireturn, 0)) rfl) (zr_v rfl) ?_
  rw [hQ]
  exact ⟨rfl, rfl⟩
theorem zc_holds {ph : pm_H} {R C : Nat} {rk : Nat → Bool} (hS : zSh ph) (hL : zCl ph R C rk) {f : Int32} : zM 40 [.ref 5, .int f] ph (fun v q => ph = q ∧ v = some (.int (zI (decide (0 ≤ f.toInt ∧ f.toInt < ((R * C : Nat) : Int)))))) := by
  obtain ⟨Q, hQ⟩ : ∃ Q : Option Value → pm_H → Prop, Q = (fun v q => ph = q ∧ v = some (.int (zI (decide (0 ≤ f.toInt ∧ f.toInt < ((R * C : Nat) : Int)))))) := ⟨_, rfl⟩
  rw [← hQ]
  refine zM_mk fun n D => ?_
  show zW n D 40 Q 0 [some (.ref 5), some (.int f)] [] ph
  have c_0 : ((Int8.ofInt 49).toInt32).toInt = 49 := by decide
  have c_1 : (Int32.ofInt 0).toInt = 0 := by decide
  have c_2 : (Int32.ofInt 1).toInt = 1 := by decide
  obtain ⟨gR, gC, gN, gK, gA, hR3, hR7, hC3, hC7⟩ := hL
  have hRC := zRC49 hR7 hC7
  have tR := znt (k := R) (by omega)
  have tC := znt (k := C) (by omega)
  have tRC := znt (k := R * C) (by omega)
  refine w_load (pc' := 1) (v := .int f) (m := 1) (ykc_40 (e := (2, .iload_n kF1, 0)) rfl) rfl rfl ?_
  refine w_zlt (ykc_40 (e := (4, .ifCond .lt 21, 22)) rfl) rfl (fun b434 => ?_) (fun b434 => ?_)
  · refine w_alu (pc' := 23) (st' := [.int (Int32.ofInt 0)]) (ykc_40 (e := (0, .iconst 0, 0)) rfl) rfl rfl ?_
    refine w_ret (v := (some (.int (Int32.ofInt 0)))) (ykc_40 (e := (7, .ireturn, 0)) rfl) zr_z ?_
    rw [hQ, zi0]
    exact ⟨rfl, zvB ((decide_eq_false (by omega)).symm)⟩
  · refine w_load (pc' := 5) (v := .int f) (m := 1) (ykc_40 (e := (2, .iload_n kF1, 0)) rfl) rfl rfl ?_
    refine w_load (pc' := 6) (v := .ref 5) (m := 1) (ykc_40 (e := (2, .aload_n kF0, 0)) rfl) rfl rfl ?_
    refine w_gf (pc' := 9) (v := .int (zn (R * C))) (ykc_40 (e := (5, .getfield 60, 0)) rfl) rfl gN rfl ?_
    refine w_ige (ykc_40 (e := (4, .if_icmp .ge 13, 22)) rfl) rfl (fun b435 => ?_) (fun b435 => ?_)
    · refine w_alu (pc' := 23) (st' := [.int (Int32.ofInt 0)]) (ykc_40 (e := (0, .iconst 0, 0)) rfl) rfl rfl ?_
      refine w_ret (v := (some (.int (Int32.ofInt 0)))) (ykc_40 (e := (7, .ireturn, 0)) rfl) zr_z ?_
      rw [hQ, zi0]
      exact ⟨rfl, zvB ((decide_eq_false (by omega)).symm)⟩
    · refine w_load (pc' := 13) (v := .int f) (m := 1) (ykc_40 (e := (2, .iload_n kF1, 0)) rfl) rfl rfl ?_
      refine w_push (pc' := 15) (v := .int ((Int8.ofInt 49).toInt32)) (m := 2) (ykc_40 (e := (1, .bipush 49, 0)) rfl) rfl rfl ?_
      refine w_ige (ykc_40 (e := (4, .if_icmp .ge 7, 22)) rfl) rfl (fun b436 => ?_) (fun b436 => ?_)
      · refine w_alu (pc' := 23) (st' := [.int (Int32.ofInt 0)]) (ykc_40 (e := (0, .iconst 0, 0)) rfl) rfl rfl ?_
        refine w_ret (v := (some (.int (Int32.ofInt 0)))) (ykc_40 (e := (7, .ireturn, 0)) rfl) zr_z ?_
        rw [hQ, zi0]
        exact ⟨rfl, zvB ((decide_eq_false (by omega)).symm)⟩
      · refine w_alu (pc' := 19) (st' := [.int (Int32.ofInt 1)]) (ykc_40 (e := (0, .iconst 1, 0)) rfl) rfl rfl ?_
        refine w_br (pc' := 23) (st' := [.int (Int32.ofInt 1)]) (ykc_40 (e := (4, .goto 4, 23)) rfl) rfl ?_
        refine w_ret (v := (some (.int (Int32.ofInt 1)))) (ykc_40 (e := (7, .ireturn, 0)) rfl) zr_z ?_
        rw [hQ, zi1]
        exact ⟨rfl, zvB ((decide_eq_true (by omega)).symm)⟩
/-- the FIELD at a ROW and a COLUMN, or -1 -/
def zfa (R C : Nat) (x y : Int) : Int := if 0 ≤ x ∧ x < (R : Int) ∧ 0 ≤ y ∧ y < (C : Int) then ((x.toNat * C + y.toNat : Nat) : Int) else -1
theorem zc_fat {ph : pm_H} {R C : Nat} {rk : Nat → Bool} (hS : zSh ph) (hL : zCl ph R C rk) {x y : Int32} : zM 44 [.ref 5, .int x, .int y] ph (fun v q => ph = q ∧ ∃ z : Int32, v = some (.int z) ∧ z.toInt = zfa R C x.toInt y.toInt) := by
  obtain ⟨Q, hQ⟩ : ∃ Q : Option Value → pm_H → Prop, Q = (fun v q => ph = q ∧ ∃ z : Int32, v = some (.int z) ∧ z.toInt = zfa R C x.toInt y.toInt) := ⟨_, rfl⟩
  rw [← hQ]
  refine zM_mk fun n D => ?_
  show zW n D 44 Q 0 [some (.ref 5), some (.int x), some (.int y), none] [] ph
  have c_0 : (Int32.ofInt (-1)).toInt = -1 := by decide
  have c_1 : (Int32.ofInt 0).toInt = 0 := by decide
  have c_2 : (Int32.ofInt 1).toInt = 1 := by decide
  obtain ⟨gR, gC, gN, gK, gA, hR3, hR7, hC3, hC7⟩ := hL
  have hRC := zRC49 hR7 hC7
  have tR := znt (k := R) (by omega)
  have tC := znt (k := C) (by omega)
  have tRC := znt (k := R * C) (by omega)
  refine w_load (pc' := 1) (v := .int x) (m := 1) (ykc_44 (e := (2, .iload_n kF1, 0)) rfl) rfl rfl ?_
  refine w_zlt (ykc_44 (e := (4, .ifCond .lt 27, 28)) rfl) rfl (fun b437 => ?_) (fun b437 => ?_)
  · refine w_alu (pc' := 29) (st' := [.int (Int32.ofInt 0)]) (ykc_44 (e := (0, .iconst 0, 0)) rfl) rfl rfl ?_
    refine w_store (pc' := 30) (L' := [some (.ref 5), some (.int x), some (.int y), some (.int (Int32.ofInt 0))]) (st' := []) (m := 1) (ykc_44 (e := (3, .istore_n kF3, 0)) rfl) rfl rfl ?_
    refine w_load (pc' := 31) (v := .int (Int32.ofInt 0)) (m := 1) (ykc_44 (e := (2, .iload_n kF3, 0)) rfl) rfl rfl ?_
    refine w_zeq (ykc_44 (e := (4, .ifCond .eq 14, 45)) rfl) rfl (fun b438 => ?_) (fun q => by exfalso; omega)
    refine w_alu (pc' := 46) (st' := [.int (Int32.ofInt (-1))]) (ykc_44 (e := (0, .iconst (-1), 0)) rfl) rfl rfl ?_
    refine w_ret (v := (some (.int (Int32.ofInt (-1))))) (ykc_44 (e := (7, .ireturn, 0)) rfl) (zr_v rfl) ?_
    rw [hQ]
    exact ⟨rfl, _, rfl, by unfold zfa; rw [if_neg (by omega)]; omega⟩
  · refine w_load (pc' := 5) (v := .int x) (m := 1) (ykc_44 (e := (2, .iload_n kF1, 0)) rfl) rfl rfl ?_
    refine w_load (pc' := 6) (v := .ref 5) (m := 1) (ykc_44 (e := (2, .aload_n kF0, 0)) rfl) rfl rfl ?_
    refine w_gf (pc' := 9) (v := .int (zn R)) (ykc_44 (e := (5, .getfield 46, 0)) rfl) rfl gR rfl ?_
    refine w_ige (ykc_44 (e := (4, .if_icmp .ge 19, 28)) rfl) rfl (fun b439 => ?_) (fun b439 => ?_)
    · refine w_alu (pc' := 29) (st' := [.int (Int32.ofInt 0)]) (ykc_44 (e := (0, .iconst 0, 0)) rfl) rfl rfl ?_
      refine w_store (pc' := 30) (L' := [some (.ref 5), some (.int x), some (.int y), some (.int (Int32.ofInt 0))]) (st' := []) (m := 1) (ykc_44 (e := (3, .istore_n kF3, 0)) rfl) rfl rfl ?_
      refine w_load (pc' := 31) (v := .int (Int32.ofInt 0)) (m := 1) (ykc_44 (e := (2, .iload_n kF3, 0)) rfl) rfl rfl ?_
      refine w_zeq (ykc_44 (e := (4, .ifCond .eq 14, 45)) rfl) rfl (fun b440 => ?_) (fun q => by exfalso; omega)
      refine w_alu (pc' := 46) (st' := [.int (Int32.ofInt (-1))]) (ykc_44 (e := (0, .iconst (-1), 0)) rfl) rfl rfl ?_
      refine w_ret (v := (some (.int (Int32.ofInt (-1))))) (ykc_44 (e := (7, .ireturn, 0)) rfl) (zr_v rfl) ?_
      rw [hQ]
      exact ⟨rfl, _, rfl, by unfold zfa; rw [if_neg (by omega)]; omega⟩
    · refine w_load (pc' := 13) (v := .int y) (m := 1) (ykc_44 (e := (2, .iload_n kF2, 0)) rfl) rfl rfl ?_
      refine w_zlt (ykc_44 (e := (4, .ifCond .lt 15, 28)) rfl) rfl (fun b441 => ?_) (fun b441 => ?_)
      · refine w_alu (pc' := 29) (st' := [.int (Int32.ofInt 0)]) (ykc_44 (e := (0, .iconst 0, 0)) rfl) rfl rfl ?_
        refine w_store (pc' := 30) (L' := [some (.ref 5), some (.int x), some (.int y), some (.int (Int32.ofInt 0))]) (st' := []) (m := 1) (ykc_44 (e := (3, .istore_n kF3, 0)) rfl) rfl rfl ?_
        refine w_load (pc' := 31) (v := .int (Int32.ofInt 0)) (m := 1) (ykc_44 (e := (2, .iload_n kF3, 0)) rfl) rfl rfl ?_
        refine w_zeq (ykc_44 (e := (4, .ifCond .eq 14, 45)) rfl) rfl (fun b442 => ?_) (fun q => by exfalso; omega)
        refine w_alu (pc' := 46) (st' := [.int (Int32.ofInt (-1))]) (ykc_44 (e := (0, .iconst (-1), 0)) rfl) rfl rfl ?_
        refine w_ret (v := (some (.int (Int32.ofInt (-1))))) (ykc_44 (e := (7, .ireturn, 0)) rfl) (zr_v rfl) ?_
        rw [hQ]
        exact ⟨rfl, _, rfl, by unfold zfa; rw [if_neg (by omega)]; omega⟩
      · refine w_load (pc' := 17) (v := .int y) (m := 1) (ykc_44 (e := (2, .iload_n kF2, 0)) rfl) rfl rfl ?_
        refine w_load (pc' := 18) (v := .ref 5) (m := 1) (ykc_44 (e := (2, .aload_n kF0, 0)) rfl) rfl rfl ?_
        refine w_gf (pc' := 21) (v := .int (zn C)) (ykc_44 (e := (5, .getfield 50, 0)) rfl) rfl gC rfl ?_
        refine w_ige (ykc_44 (e := (4, .if_icmp .ge 7, 28)) rfl) rfl (fun b443 => ?_) (fun b443 => ?_)
        · refine w_alu (pc' := 29) (st' := [.int (Int32.ofInt 0)]) (ykc_44 (e := (0, .iconst 0, 0)) rfl) rfl rfl ?_
          refine w_store (pc' := 30) (L' := [some (.ref 5), some (.int x), some (.int y), some (.int (Int32.ofInt 0))]) (st' := []) (m := 1) (ykc_44 (e := (3, .istore_n kF3, 0)) rfl) rfl rfl ?_
          refine w_load (pc' := 31) (v := .int (Int32.ofInt 0)) (m := 1) (ykc_44 (e := (2, .iload_n kF3, 0)) rfl) rfl rfl ?_
          refine w_zeq (ykc_44 (e := (4, .ifCond .eq 14, 45)) rfl) rfl (fun b444 => ?_) (fun q => by exfalso; omega)
          refine w_alu (pc' := 46) (st' := [.int (Int32.ofInt (-1))]) (ykc_44 (e := (0, .iconst (-1), 0)) rfl) rfl rfl ?_
          refine w_ret (v := (some (.int (Int32.ofInt (-1))))) (ykc_44 (e := (7, .ireturn, 0)) rfl) (zr_v rfl) ?_
          rw [hQ]
          exact ⟨rfl, _, rfl, by unfold zfa; rw [if_neg (by omega)]; omega⟩
        · refine w_alu (pc' := 25) (st' := [.int (Int32.ofInt 1)]) (ykc_44 (e := (0, .iconst 1, 0)) rfl) rfl rfl ?_
          refine w_br (pc' := 29) (st' := [.int (Int32.ofInt 1)]) (ykc_44 (e := (4, .goto 4, 29)) rfl) rfl ?_
          refine w_store (pc' := 30) (L' := [some (.ref 5), some (.int x), some (.int y), some (.int (Int32.ofInt 1))]) (st' := []) (m := 1) (ykc_44 (e := (3, .istore_n kF3, 0)) rfl) rfl rfl ?_
          refine w_load (pc' := 31) (v := .int (Int32.ofInt 1)) (m := 1) (ykc_44 (e := (2, .iload_n kF3, 0)) rfl) rfl rfl ?_
          refine w_zeq (ykc_44 (e := (4, .ifCond .eq 14, 45)) rfl) rfl (fun q => by exfalso; omega) (fun b445 => ?_)
          refine w_load (pc' := 35) (v := .int x) (m := 1) (ykc_44 (e := (2, .iload_n kF1, 0)) rfl) rfl rfl ?_
          refine w_load (pc' := 36) (v := .ref 5) (m := 1) (ykc_44 (e := (2, .aload_n kF0, 0)) rfl) rfl rfl ?_
          refine w_gf (pc' := 39) (v := .int (zn C)) (ykc_44 (e := (5, .getfield 50, 0)) rfl) rfl gC rfl ?_
          have m446 : x.toInt.toNat * C ≤ 7 * 7 := Nat.mul_le_mul (by omega) (by omega)
          have zm446 := Nat.zero_le (x.toInt.toNat * C)
          have e447 : x * (zn C) = zn (x.toInt.toNat * C) := zn_of (zmulN (by omega) (by omega) (by omega) (by omega))
          have te447 := znt (k := x.toInt.toNat * C) (by omega)
          refine w_alu (pc' := 40) (st' := [.int (zn (x.toInt.toNat * C))]) (ykc_44 (e := (0, .imul, 0)) rfl) (by rw [← e447]; rfl) rfl ?_
          refine w_load (pc' := 41) (v := .int y) (m := 1) (ykc_44 (e := (2, .iload_n kF2, 0)) rfl) rfl rfl ?_
          obtain ⟨z448, e_z448, h_z448⟩ : ∃ zq : Int32, (zn (x.toInt.toNat * C)) + y = zq ∧ zq.toInt = ((x.toInt.toNat * C : Nat) : Int) + y.toInt := ⟨_, rfl, (by have := ti_add (x := (zn (x.toInt.toNat * C))) (y := y) (by omega) (by omega); omega)⟩
          refine w_alu (pc' := 42) (st' := [.int z448]) (ykc_44 (e := (0, .iadd, 0)) rfl) (by rw [← e_z448]; rfl) rfl ?_
          refine w_br (pc' := 46) (st' := [.int z448]) (ykc_44 (e := (4, .goto 4, 46)) rfl) rfl ?_
          refine w_ret (v := (some (.int z448))) (ykc_44 (e := (7, .ireturn, 0)) rfl) (zr_v rfl) ?_
          rw [hQ]
          exact ⟨rfl, _, rfl, by unfold zfa; rw [if_pos (by omega)]; omega⟩
theorem zc_rock {ph : pm_H} {R C : Nat} {rk : Nat → Bool} (hS : zSh ph) (hL : zCl ph R C rk) {f : Int32} (hf : f.toInt < ((R * C : Nat) : Int)) : zM 45 [.ref 5, .int f] ph (fun v q => ph = q ∧ v = some (.int (zI (decide (0 ≤ f.toInt) && rk f.toInt.toNat)))) := by
  obtain ⟨Q, hQ⟩ : ∃ Q : Option Value → pm_H → Prop, Q = (fun v q => ph = q ∧ v = some (.int (zI (decide (0 ≤ f.toInt) && rk f.toInt.toNat)))) := ⟨_, rfl⟩
  rw [← hQ]
  refine zM_mk fun n D => ?_
  show zW n D 45 Q 0 [some (.ref 5), some (.int f)] [] ph
  have c_0 : (Int32.ofInt 0).toInt = 0 := by decide
  have c_1 : (Int32.ofInt 1).toInt = 1 := by decide
  obtain ⟨gR, gC, gN, gK, gA, hR3, hR7, hC3, hC7⟩ := hL
  have hRC := zRC49 hR7 hC7
  have tR := znt (k := R) (by omega)
  have tC := znt (k := C) (by omega)
  have tRC := znt (k := R * C) (by omega)
  refine w_load (pc' := 1) (v := .int f) (m := 1) (ykc_45 (e := (2, .iload_n kF1, 0)) rfl) rfl rfl ?_
  refine w_zlt (ykc_45 (e := (4, .ifCond .lt 18, 19)) rfl) rfl (fun b449 => ?_) (fun b449 => ?_)
  · refine w_alu (pc' := 20) (st' := [.int (Int32.ofInt 0)]) (ykc_45 (e := (0, .iconst 0, 0)) rfl) rfl rfl ?_
    refine w_ret (v := (some (.int (Int32.ofInt 0)))) (ykc_45 (e := (7, .ireturn, 0)) rfl) zr_z ?_
    rw [hQ, zi0]
    exact ⟨rfl, zvB (by rw [decide_eq_false (show ¬ 0 ≤ f.toInt by omega)]; rfl)⟩
  · refine w_load (pc' := 5) (v := .ref 5) (m := 1) (ykc_45 (e := (2, .aload_n kF0, 0)) rfl) rfl rfl ?_
    refine w_gf (pc' := 8) (v := .long (zS rk (R * C))) (ykc_45 (e := (5, .getfield 53, 0)) rfl) rfl gK rfl ?_
    refine w_load (pc' := 9) (v := .int f) (m := 1) (ykc_45 (e := (2, .iload_n kF1, 0)) rfl) rfl rfl ?_
    refine w_cs (as := [.long (zS rk (R * C)), .int f]) (r := []) (ykc_45 (e := (6, .invokestatic 68, 0)) rfl) rfl rfl rfl rfl (zc_has (kn := f.toInt.toNat) (by omega) (by omega)) (fun v450 ph451 hv => ?_)
    obtain ⟨rfl, rfl⟩ := hv
    have hbit := zS_b (f := rk) (n := R * C) (by omega) (k := f.toInt.toNat) (by omega)
    rw [decide_eq_true (show f.toInt.toNat < R * C by omega), Bool.true_and] at hbit
    rw [hbit]
    show zW n D 45 Q 12 [some (.ref 5), some (.int f)] [.int (zI (rk f.toInt.toNat))] ph
    refine w_beq (ykc_45 (e := (4, .ifCond .eq 7, 19)) rfl) rfl (fun b452 => ?_) (fun b452 => ?_)
    · refine w_alu (pc' := 20) (st' := [.int (Int32.ofInt 0)]) (ykc_45 (e := (0, .iconst 0, 0)) rfl) rfl rfl ?_
      refine w_ret (v := (some (.int (Int32.ofInt 0)))) (ykc_45 (e := (7, .ireturn, 0)) rfl) zr_z ?_
      rw [hQ, zi0]
      exact ⟨rfl, zvB (by rw [decide_eq_true (show 0 ≤ f.toInt by omega), b452]; rfl)⟩
    · refine w_alu (pc' := 16) (st' := [.int (Int32.ofInt 1)]) (ykc_45 (e := (0, .iconst 1, 0)) rfl) rfl rfl ?_
      refine w_br (pc' := 20) (st' := [.int (Int32.ofInt 1)]) (ykc_45 (e := (4, .goto 4, 20)) rfl) rfl ?_
      refine w_ret (v := (some (.int (Int32.ofInt 1)))) (ykc_45 (e := (7, .ireturn, 0)) rfl) zr_z ?_
      rw [hQ, zi1]
      exact ⟨rfl, zvB (by rw [decide_eq_true (show 0 ≤ f.toInt by omega), b452]; rfl)⟩
theorem zand7 : ∀ a : Nat, a < 8 → ∀ b : Nat, b < 8 → (((zn a - zn b) &&& (Int8.ofInt 7).toInt32).toInt = (((a : Int) - b) % 8)) := by decide
theorem zc_e8 {ph : pm_H} {a b : Nat} (ha : a < 8) (hb : b < 8) : zM 47 [.int (zn a), .int (zn b)] ph (fun v q => ph = q ∧ v = some (.int (zn (ze8 a b)))) := by
  obtain ⟨Q, hQ⟩ : ∃ Q : Option Value → pm_H → Prop, Q = (fun v q => ph = q ∧ v = some (.int (zn (ze8 a b)))) := ⟨_, rfl⟩
  rw [← hQ]
  refine zM_mk fun n D => ?_
  show zW n D 47 Q 0 [some (.int (zn a)), some (.int (zn b)), none] [] ph
  have c_0 : ((Int8.ofInt 7).toInt32).toInt = 7 := by decide
  have c_1 : ((Int8.ofInt 8).toInt32).toInt = 8 := by decide
  have ta := znt (k := a) (by omega)
  have tb := znt (k := b) (by omega)
  refine w_load (pc' := 1) (v := .int (zn a)) (m := 1) (ykc_47 (e := (2, .iload_n kF0, 0)) rfl) rfl rfl ?_
  refine w_load (pc' := 2) (v := .int (zn b)) (m := 1) (ykc_47 (e := (2, .iload_n kF1, 0)) rfl) rfl rfl ?_
  refine w_alu (pc' := 3) (st' := [.int ((zn a) - (zn b))]) (ykc_47 (e := (0, .isub, 0)) rfl) rfl rfl ?_
  refine w_push (pc' := 5) (v := .int ((Int8.ofInt 7).toInt32)) (m := 2) (ykc_47 (e := (1, .bipush 7, 0)) rfl) rfl rfl ?_
  obtain ⟨z453, e_z453, h_z453⟩ : ∃ zq : Int32, ((zn a) - (zn b)) &&& ((Int8.ofInt 7).toInt32) = zq ∧ zq.toInt = ((a : Int) - b) % 8 := ⟨_, rfl, (zand7 a ha b hb)⟩
  refine w_alu (pc' := 6) (st' := [.int z453]) (ykc_47 (e := (0, .iand, 0)) rfl) (by rw [← e_z453]; rfl) rfl ?_
  refine w_store (pc' := 7) (L' := [some (.int (zn a)), some (.int (zn b)), some (.int z453)]) (st' := []) (m := 1) (ykc_47 (e := (3, .istore_n kF2, 0)) rfl) rfl rfl ?_
  refine w_load (pc' := 8) (v := .int z453) (m := 1) (ykc_47 (e := (2, .iload_n kF2, 0)) rfl) rfl rfl ?_
  refine w_push (pc' := 10) (v := .int ((Int8.ofInt 8).toInt32)) (m := 2) (ykc_47 (e := (1, .bipush 8, 0)) rfl) rfl rfl ?_
  refine w_load (pc' := 11) (v := .int z453) (m := 1) (ykc_47 (e := (2, .iload_n kF2, 0)) rfl) rfl rfl ?_
  obtain ⟨z454, e_z454, h_z454⟩ : ∃ zq : Int32, ((Int8.ofInt 8).toInt32) - z453 = zq ∧ zq.toInt = (8 : Int) - (((a : Int) - b) % 8) := ⟨_, rfl, (by have := ti_sub (x := ((Int8.ofInt 8).toInt32)) (y := z453) (by omega) (by omega); omega)⟩
  refine w_alu (pc' := 12) (st' := [.int z454, .int z453]) (ykc_47 (e := (0, .isub, 0)) rfl) (by rw [← e_z454]; rfl) rfl ?_
  obtain ⟨z455, e_z455⟩ : ∃ zq : Int32, (if z454 < z453 then z454 else z453) = zq := ⟨_, rfl⟩
  have h_z455 := zminI e_z455
  refine w_mem1 (pc' := 15) (m := 3) (st' := [.int z455]) (ph' := ph) (ykc_47 (e := (5, .invokestatic 85, 0)) rfl) (by rw [← e_z455]; rfl) rfl ?_
  refine w_ret (v := (some (.int z455))) (ykc_47 (e := (7, .ireturn, 0)) rfl) (zr_v rfl) ?_
  rw [hQ]
  exact ⟨rfl, by rw [zn_of (x := z455) (k := ze8 a b) (by unfold ze8; omega)]⟩
theorem zc_hasP {ph : pm_H} {S P G : Nat} {v : Nat → Nat} (hs : zSs ph S) (hd : zSd ph S P G v) {i : Int32} : zM 106 [.ref S, .int i] ph (fun v0 q => ph = q ∧ v0 = some (.int (zI (decide (0 ≤ i.toInt ∧ i.toInt < ((P : Nat) : Int)))))) := by
  obtain ⟨Q, hQ⟩ : ∃ Q : Option Value → pm_H → Prop, Q = (fun v0 q => ph = q ∧ v0 = some (.int (zI (decide (0 ≤ i.toInt ∧ i.toInt < ((P : Nat) : Int)))))) := ⟨_, rfl⟩
  rw [← hQ]
  refine zM_mk fun n D => ?_
  show zW n D 106 Q 0 [some (.ref S), some (.int i)] [] ph
  have c_0 : ((Int8.ofInt 8).toInt32).toInt = 8 := by decide
  have c_1 : (Int32.ofInt 0).toInt = 0 := by decide
  have c_2 : (Int32.ofInt 1).toInt = 1 := by decide
  have hd0 := hd
  have hs0 := hs
  obtain ⟨r3, r4, r5, r6, r7, l1, l2, l3, l4, l5⟩ := hs
  obtain ⟨gP, hP8, gG, hG8, gH, gv, gw⟩ := hd
  have tP := znt (k := P) (by omega)
  have tG := znt (k := G) (by omega)
  refine w_load (pc' := 1) (v := .int i) (m := 1) (ykc_106 (e := (2, .iload_n kF1, 0)) rfl) rfl rfl ?_
  refine w_zlt (ykc_106 (e := (4, .ifCond .lt 21, 22)) rfl) rfl (fun b456 => ?_) (fun b456 => ?_)
  · refine w_alu (pc' := 23) (st' := [.int (Int32.ofInt 0)]) (ykc_106 (e := (0, .iconst 0, 0)) rfl) rfl rfl ?_
    refine w_ret (v := (some (.int (Int32.ofInt 0)))) (ykc_106 (e := (7, .ireturn, 0)) rfl) zr_z ?_
    rw [hQ, zi0]
    exact ⟨rfl, zvB ((decide_eq_false (by omega)).symm)⟩
  · refine w_load (pc' := 5) (v := .int i) (m := 1) (ykc_106 (e := (2, .iload_n kF1, 0)) rfl) rfl rfl ?_
    refine w_load (pc' := 6) (v := .ref S) (m := 1) (ykc_106 (e := (2, .aload_n kF0, 0)) rfl) rfl rfl ?_
    refine w_gf (pc' := 9) (v := .int (zn P)) (ykc_106 (e := (5, .getfield 30, 0)) rfl) rfl gP rfl ?_
    refine w_ige (ykc_106 (e := (4, .if_icmp .ge 13, 22)) rfl) rfl (fun b457 => ?_) (fun b457 => ?_)
    · refine w_alu (pc' := 23) (st' := [.int (Int32.ofInt 0)]) (ykc_106 (e := (0, .iconst 0, 0)) rfl) rfl rfl ?_
      refine w_ret (v := (some (.int (Int32.ofInt 0)))) (ykc_106 (e := (7, .ireturn, 0)) rfl) zr_z ?_
      rw [hQ, zi0]
      exact ⟨rfl, zvB ((decide_eq_false (by omega)).symm)⟩
    · refine w_load (pc' := 13) (v := .int i) (m := 1) (ykc_106 (e := (2, .iload_n kF1, 0)) rfl) rfl rfl ?_
      refine w_push (pc' := 15) (v := .int ((Int8.ofInt 8).toInt32)) (m := 2) (ykc_106 (e := (1, .bipush 8, 0)) rfl) rfl rfl ?_
      refine w_ige (ykc_106 (e := (4, .if_icmp .ge 7, 22)) rfl) rfl (fun b458 => ?_) (fun b458 => ?_)
      · refine w_alu (pc' := 23) (st' := [.int (Int32.ofInt 0)]) (ykc_106 (e := (0, .iconst 0, 0)) rfl) rfl rfl ?_
        refine w_ret (v := (some (.int (Int32.ofInt 0)))) (ykc_106 (e := (7, .ireturn, 0)) rfl) zr_z ?_
        rw [hQ, zi0]
        exact ⟨rfl, zvB ((decide_eq_false (by omega)).symm)⟩
      · refine w_alu (pc' := 19) (st' := [.int (Int32.ofInt 1)]) (ykc_106 (e := (0, .iconst 1, 0)) rfl) rfl rfl ?_
        refine w_br (pc' := 23) (st' := [.int (Int32.ofInt 1)]) (ykc_106 (e := (4, .goto 4, 23)) rfl) rfl ?_
        refine w_ret (v := (some (.int (Int32.ofInt 1)))) (ykc_106 (e := (7, .ireturn, 0)) rfl) zr_z ?_
        rw [hQ, zi1]
        exact ⟨rfl, zvB ((decide_eq_true (by omega)).symm)⟩
theorem zc_hasT {ph : pm_H} {S P G : Nat} {v : Nat → Nat} (hs : zSs ph S) (hd : zSd ph S P G v) {i : Int32} : zM 107 [.ref S, .int i] ph (fun v0 q => ph = q ∧ v0 = some (.int (zI (decide (0 ≤ i.toInt ∧ i.toInt < ((G : Nat) : Int)))))) := by
  obtain ⟨Q, hQ⟩ : ∃ Q : Option Value → pm_H → Prop, Q = (fun v0 q => ph = q ∧ v0 = some (.int (zI (decide (0 ≤ i.toInt ∧ i.toInt < ((G : Nat) : Int)))))) := ⟨_, rfl⟩
  rw [← hQ]
  refine zM_mk fun n D => ?_
  show zW n D 107 Q 0 [some (.ref S), some (.int i)] [] ph
  have c_0 : ((Int8.ofInt 8).toInt32).toInt = 8 := by decide
  have c_1 : (Int32.ofInt 0).toInt = 0 := by decide
  have c_2 : (Int32.ofInt 1).toInt = 1 := by decide
  have hd0 := hd
  have hs0 := hs
  obtain ⟨r3, r4, r5, r6, r7, l1, l2, l3, l4, l5⟩ := hs
  obtain ⟨gP, hP8, gG, hG8, gH, gv, gw⟩ := hd
  have tP := znt (k := P) (by omega)
  have tG := znt (k := G) (by omega)
  refine w_load (pc' := 1) (v := .int i) (m := 1) (ykc_107 (e := (2, .iload_n kF1, 0)) rfl) rfl rfl ?_
  refine w_zlt (ykc_107 (e := (4, .ifCond .lt 21, 22)) rfl) rfl (fun b459 => ?_) (fun b459 => ?_)
  · refine w_alu (pc' := 23) (st' := [.int (Int32.ofInt 0)]) (ykc_107 (e := (0, .iconst 0, 0)) rfl) rfl rfl ?_
    refine w_ret (v := (some (.int (Int32.ofInt 0)))) (ykc_107 (e := (7, .ireturn, 0)) rfl) zr_z ?_
    rw [hQ, zi0]
    exact ⟨rfl, zvB ((decide_eq_false (by omega)).symm)⟩
  · refine w_load (pc' := 5) (v := .int i) (m := 1) (ykc_107 (e := (2, .iload_n kF1, 0)) rfl) rfl rfl ?_
    refine w_load (pc' := 6) (v := .ref S) (m := 1) (ykc_107 (e := (2, .aload_n kF0, 0)) rfl) rfl rfl ?_
    refine w_gf (pc' := 9) (v := .int (zn G)) (ykc_107 (e := (5, .getfield 34, 0)) rfl) rfl gG rfl ?_
    refine w_ige (ykc_107 (e := (4, .if_icmp .ge 13, 22)) rfl) rfl (fun b460 => ?_) (fun b460 => ?_)
    · refine w_alu (pc' := 23) (st' := [.int (Int32.ofInt 0)]) (ykc_107 (e := (0, .iconst 0, 0)) rfl) rfl rfl ?_
      refine w_ret (v := (some (.int (Int32.ofInt 0)))) (ykc_107 (e := (7, .ireturn, 0)) rfl) zr_z ?_
      rw [hQ, zi0]
      exact ⟨rfl, zvB ((decide_eq_false (by omega)).symm)⟩
    · refine w_load (pc' := 13) (v := .int i) (m := 1) (ykc_107 (e := (2, .iload_n kF1, 0)) rfl) rfl rfl ?_
      refine w_push (pc' := 15) (v := .int ((Int8.ofInt 8).toInt32)) (m := 2) (ykc_107 (e := (1, .bipush 8, 0)) rfl) rfl rfl ?_
      refine w_ige (ykc_107 (e := (4, .if_icmp .ge 7, 22)) rfl) rfl (fun b461 => ?_) (fun b461 => ?_)
      · refine w_alu (pc' := 23) (st' := [.int (Int32.ofInt 0)]) (ykc_107 (e := (0, .iconst 0, 0)) rfl) rfl rfl ?_
        refine w_ret (v := (some (.int (Int32.ofInt 0)))) (ykc_107 (e := (7, .ireturn, 0)) rfl) zr_z ?_
        rw [hQ, zi0]
        exact ⟨rfl, zvB ((decide_eq_false (by omega)).symm)⟩
      · refine w_alu (pc' := 19) (st' := [.int (Int32.ofInt 1)]) (ykc_107 (e := (0, .iconst 1, 0)) rfl) rfl rfl ?_
        refine w_br (pc' := 23) (st' := [.int (Int32.ofInt 1)]) (ykc_107 (e := (4, .goto 4, 23)) rfl) rfl ?_
        refine w_ret (v := (some (.int (Int32.ofInt 1)))) (ykc_107 (e := (7, .ireturn, 0)) rfl) zr_z ?_
        rw [hQ, zi1]
        exact ⟨rfl, zvB ((decide_eq_true (by omega)).symm)⟩
theorem zc_known {ph : pm_H} {S P G : Nat} {v : Nat → Nat} (hs : zSs ph S) (hd : zSd ph S P G v) : zM 108 [.ref S] ph (fun v0 q => ph = q ∧ v0 = some (.int (zKw v P))) := by
  obtain ⟨Q, hQ⟩ : ∃ Q : Option Value → pm_H → Prop, Q = (fun v0 q => ph = q ∧ v0 = some (.int (zKw v P))) := ⟨_, rfl⟩
  rw [← hQ]
  refine zM_mk fun n D => ?_
  show zW n D 108 Q 0 [some (.ref S), none, none] [] ph
  have c_0 : ((Int8.ofInt 8).toInt32).toInt = 8 := by decide
  have c_1 : (Int32.ofInt 0).toInt = 0 := by decide
  have c_2 : (Int32.ofInt 1).toInt = 1 := by decide
  have hd0 := hd
  have hs0 := hs
  obtain ⟨r3, r4, r5, r6, r7, l1, l2, l3, l4, l5⟩ := hs
  obtain ⟨gP, hP8, gG, hG8, gH, gv, gw⟩ := hd
  have tP := znt (k := P) (by omega)
  have tG := znt (k := G) (by omega)
  refine w_alu (pc' := 1) (st' := [.int (Int32.ofInt 0)]) (ykc_108 (e := (0, .iconst 0, 0)) rfl) rfl rfl ?_
  refine w_store (pc' := 2) (L' := [some (.ref S), some (.int (Int32.ofInt 0)), none]) (st' := []) (m := 1) (ykc_108 (e := (3, .istore_n kF1, 0)) rfl) rfl rfl ?_
  refine w_alu (pc' := 3) (st' := [.int (Int32.ofInt 0)]) (ykc_108 (e := (0, .iconst 0, 0)) rfl) rfl rfl ?_
  refine w_store (pc' := 4) (L' := [some (.ref S), some (.int (Int32.ofInt 0)), some (.int (Int32.ofInt 0))]) (st' := []) (m := 1) (ykc_108 (e := (3, .istore_n kF2, 0)) rfl) rfl rfl ?_
  have hl : ∀ (n : Nat), ∀ (k : Nat), (k ≤ P) → zW n D 108 Q 4 [some (.ref S), some (.int (zKw v k)), some (.int (zn k))] [] ph := by
    intro n
    induction n using Nat.strongRecOn with
    | ind n ih =>
      intro k hk
      have tk := znt (k := k) (by omega)
      refine w_load (pc' := 5) (v := .int (zn k)) (m := 1) (ykc_108 (e := (2, .iload_n kF2, 0)) rfl) rfl rfl ?_
      refine w_load (pc' := 6) (v := .ref S) (m := 1) (ykc_108 (e := (2, .aload_n kF0, 0)) rfl) rfl rfl ?_
      refine w_gf (pc' := 9) (v := .int (zn P)) (ykc_108 (e := (5, .getfield 30, 0)) rfl) rfl gP rfl ?_
      refine w_ige (ykc_108 (e := (4, .if_icmp .ge 27, 36)) rfl) rfl (fun b462 => ?_) (fun b462 => ?_)
      · refine w_load (pc' := 37) (v := .int (zKw v k)) (m := 1) (ykc_108 (e := (2, .iload_n kF1, 0)) rfl) rfl rfl ?_
        refine w_ret (v := (some (.int (zKw v k)))) (ykc_108 (e := (7, .ireturn, 0)) rfl) (zr_v rfl) ?_
        have ek : P = k := by omega
        subst ek
        rw [hQ]
        exact ⟨rfl, rfl⟩
      · refine w_load (pc' := 13) (v := .int (zn k)) (m := 1) (ykc_108 (e := (2, .iload_n kF2, 0)) rfl) rfl rfl ?_
        refine w_push (pc' := 15) (v := .int ((Int8.ofInt 8).toInt32)) (m := 2) (ykc_108 (e := (1, .bipush 8, 0)) rfl) rfl rfl ?_
        refine w_ige (ykc_108 (e := (4, .if_icmp .ge 21, 36)) rfl) rfl (fun q => by exfalso; omega) (fun b463 => ?_)
        refine w_load (pc' := 19) (v := .int (zKw v k)) (m := 1) (ykc_108 (e := (2, .iload_n kF1, 0)) rfl) rfl rfl ?_
        refine w_load (pc' := 20) (v := .ref S) (m := 1) (ykc_108 (e := (2, .aload_n kF0, 0)) rfl) rfl rfl ?_
        refine w_gf (pc' := 23) (v := .ref (S + 4)) (ykc_108 (e := (5, .getfield 21, 0)) rfl) rfl r6 rfl ?_
        refine w_load (pc' := 24) (v := .int (zn k)) (m := 1) (ykc_108 (e := (2, .iload_n kF2, 0)) rfl) rfl rfl ?_
        refine w_ialk (pc' := 25) (k := k) (ykc_108 (e := (5, .iaload, 0)) rfl) (gv k (by omega)).2.2.2 (by omega) rfl ?_
        refine w_cs (as := [.int (zn (v (24 + k)))]) (r := [.int (zKw v k)]) (ykc_108 (e := (6, .invokestatic 46, 0)) rfl) rfl rfl rfl rfl (zj_pc) (fun v464 ph465 hv => ?_)
        obtain ⟨rfl, rfl⟩ := hv
        show zW n D 108 Q 28 [some (.ref S), some (.int (zKw v k)), some (.int (zn k))] [.int (zpc (zn (v (24 + k)))), .int (zKw v k)] ph
        refine w_alu (pc' := 29) (st' := [.int ((zKw v k) + (zpc (zn (v (24 + k)))))]) (ykc_108 (e := (0, .iadd, 0)) rfl) rfl rfl ?_
        refine w_store (pc' := 30) (L' := [some (.ref S), some (.int ((zKw v k) + (zpc (zn (v (24 + k)))))), some (.int (zn k))]) (st' := []) (m := 1) (ykc_108 (e := (3, .istore_n kF1, 0)) rfl) rfl rfl ?_
        have e466 : (zn k) + Int32.ofInt 1 = zn (k + 1) := (zaddN (a := k) (b := 1) (znt (by omega)) c_2 (by omega))
        have te466 := znt (k := k + 1) (by omega)
        refine w_store (pc' := 33) (L' := [some (.ref S), some (.int ((zKw v k) + (zpc (zn (v (24 + k)))))), some (.int (zn (k + 1)))]) (st' := []) (m := 3) (ykc_108 (e := (3, .iinc 2 1, 0)) rfl) (by rw [← e466]; rfl) rfl ?_
        refine w_gb (ykc_108 (e := (4, .goto (-29), 4)) rfl) (fun k467 hk467 => ?_)
        exact ih k467 hk467 (k + 1) (by omega)
  exact hl n 0 (Nat.zero_le _)
theorem zc_ton {ph : pm_H} {S P G : Nat} {v : Nat → Nat} (hs : zSs ph S) (hd : zSd ph S P G v) {x : Int64} (hb : ∀ i, i < G → v (32 + i) < 64) : zM 114 [.ref S, .long x] ph (fun v0 q => ph = q ∧ v0 = some (.int (zTon G v x))) := by
  obtain ⟨Q, hQ⟩ : ∃ Q : Option Value → pm_H → Prop, Q = (fun v0 q => ph = q ∧ v0 = some (.int (zTon G v x))) := ⟨_, rfl⟩
  rw [← hQ]
  refine zM_mk fun n D => ?_
  show zW n D 114 Q 0 [some (.ref S), some (.long x), none, none, none] [] ph
  have c_0 : ((Int8.ofInt 8).toInt32).toInt = 8 := by decide
  have c_1 : (Int32.ofInt 0).toInt = 0 := by decide
  have c_2 : (Int32.ofInt 1).toInt = 1 := by decide
  have hd0 := hd
  have hs0 := hs
  obtain ⟨r3, r4, r5, r6, r7, l1, l2, l3, l4, l5⟩ := hs
  obtain ⟨gP, hP8, gG, hG8, gH, gv, gw⟩ := hd
  have tP := znt (k := P) (by omega)
  have tG := znt (k := G) (by omega)
  refine w_alu (pc' := 1) (st' := [.int (Int32.ofInt 0)]) (ykc_114 (e := (0, .iconst 0, 0)) rfl) rfl rfl ?_
  refine w_store (pc' := 2) (L' := [some (.ref S), some (.long x), none, some (.int (Int32.ofInt 0)), none]) (st' := []) (m := 1) (ykc_114 (e := (3, .istore_n kF3, 0)) rfl) rfl rfl ?_
  refine w_alu (pc' := 3) (st' := [.int (Int32.ofInt 0)]) (ykc_114 (e := (0, .iconst 0, 0)) rfl) rfl rfl ?_
  refine w_store (pc' := 5) (L' := [some (.ref S), some (.long x), none, some (.int (Int32.ofInt 0)), some (.int (Int32.ofInt 0))]) (st' := []) (m := 2) (ykc_114 (e := (3, .istore 4, 0)) rfl) rfl rfl ?_
  have hl : ∀ (n : Nat), ∀ (k : Nat), (k ≤ G) → zW n D 114 Q 5 [some (.ref S), some (.long x), none, some (.int (zT (fun t => zb x (v (32 + t))) k)), some (.int (zn k))] [] ph := by
    intro n
    induction n using Nat.strongRecOn with
    | ind n ih =>
      intro k hk
      have tk := znt (k := k) (by omega)
      refine w_load (pc' := 7) (v := .int (zn k)) (m := 2) (ykc_114 (e := (2, .iload 4, 0)) rfl) rfl rfl ?_
      refine w_load (pc' := 8) (v := .ref S) (m := 1) (ykc_114 (e := (2, .aload_n kF0, 0)) rfl) rfl rfl ?_
      refine w_gf (pc' := 11) (v := .int (zn G)) (ykc_114 (e := (5, .getfield 34, 0)) rfl) rfl gG rfl ?_
      refine w_ige (ykc_114 (e := (4, .if_icmp .ge 34, 45)) rfl) rfl (fun b468 => ?_) (fun b468 => ?_)
      · refine w_load (pc' := 46) (v := .int (zT (fun t => zb x (v (32 + t))) k)) (m := 1) (ykc_114 (e := (2, .iload_n kF3, 0)) rfl) rfl rfl ?_
        refine w_ret (v := (some (.int (zT (fun t => zb x (v (32 + t))) k)))) (ykc_114 (e := (7, .ireturn, 0)) rfl) (zr_v rfl) ?_
        have ek : G = k := by omega
        subst ek
        rw [hQ]
        exact ⟨rfl, rfl⟩
      · refine w_load (pc' := 16) (v := .int (zn k)) (m := 2) (ykc_114 (e := (2, .iload 4, 0)) rfl) rfl rfl ?_
        refine w_push (pc' := 18) (v := .int ((Int8.ofInt 8).toInt32)) (m := 2) (ykc_114 (e := (1, .bipush 8, 0)) rfl) rfl rfl ?_
        refine w_ige (ykc_114 (e := (4, .if_icmp .ge 27, 45)) rfl) rfl (fun q => by exfalso; omega) (fun b469 => ?_)
        refine w_load (pc' := 22) (v := .int (zT (fun t => zb x (v (32 + t))) k)) (m := 1) (ykc_114 (e := (2, .iload_n kF3, 0)) rfl) rfl rfl ?_
        refine w_load (pc' := 23) (v := .long x) (m := 1) (ykc_114 (e := (2, .lload_n kF1, 0)) rfl) rfl rfl ?_
        refine w_load (pc' := 24) (v := .ref S) (m := 1) (ykc_114 (e := (2, .aload_n kF0, 0)) rfl) rfl rfl ?_
        refine w_gf (pc' := 27) (v := .ref (S + 5)) (ykc_114 (e := (5, .getfield 24, 0)) rfl) rfl r7 rfl ?_
        refine w_load (pc' := 29) (v := .int (zn k)) (m := 2) (ykc_114 (e := (2, .iload 4, 0)) rfl) rfl rfl ?_
        refine w_ialk (pc' := 30) (k := k) (ykc_114 (e := (5, .iaload, 0)) rfl) (gw k (by omega)) (by omega) rfl ?_
        refine w_alu (pc' := 31) (st' := [.long (x >>> ((zn (v (32 + k))).toInt64 &&& 63)), .int (zT (fun t => zb x (v (32 + t))) k)]) (ykc_114 (e := (0, .lshr, 0)) rfl) rfl rfl ?_
        refine w_alu (pc' := 32) (st' := [.long (Int64.ofNat kG1), .long (x >>> ((zn (v (32 + k))).toInt64 &&& 63)), .int (zT (fun t => zb x (v (32 + t))) k)]) (ykc_114 (e := (0, .lconst kG1, 0)) rfl) rfl rfl ?_
        refine w_alu (pc' := 33) (st' := [.long ((x >>> ((zn (v (32 + k))).toInt64 &&& 63)) &&& (Int64.ofNat kG1)), .int (zT (fun t => zb x (v (32 + t))) k)]) (ykc_114 (e := (0, .land, 0)) rfl) rfl rfl ?_
        refine w_alu (pc' := 34) (st' := [.int (((x >>> ((zn (v (32 + k))).toInt64 &&& 63)) &&& (Int64.ofNat kG1)).toInt32), .int (zT (fun t => zb x (v (32 + t))) k)]) (ykc_114 (e := (0, .l2i, 0)) rfl) rfl rfl ?_
        refine w_load (pc' := 36) (v := .int (zn k)) (m := 2) (ykc_114 (e := (2, .iload 4, 0)) rfl) rfl rfl ?_
        refine w_alu (pc' := 37) (st' := [.int ((((x >>> ((zn (v (32 + k))).toInt64 &&& 63)) &&& (Int64.ofNat kG1)).toInt32) <<< ((zn k) &&& 31)), .int (zT (fun t => zb x (v (32 + t))) k)]) (ykc_114 (e := (0, .ishl, 0)) rfl) rfl rfl ?_
        refine w_alu (pc' := 38) (st' := [.int ((zT (fun t => zb x (v (32 + t))) k) ||| ((((x >>> ((zn (v (32 + k))).toInt64 &&& 63)) &&& (Int64.ofNat kG1)).toInt32) <<< ((zn k) &&& 31)))]) (ykc_114 (e := (0, .ior, 0)) rfl) rfl rfl ?_
        refine w_store (pc' := 39) (L' := [some (.ref S), some (.long x), none, some (.int ((zT (fun t => zb x (v (32 + t))) k) ||| ((((x >>> ((zn (v (32 + k))).toInt64 &&& 63)) &&& (Int64.ofNat kG1)).toInt32) <<< ((zn k) &&& 31)))), some (.int (zn k))]) (st' := []) (m := 1) (ykc_114 (e := (3, .istore_n kF3, 0)) rfl) rfl rfl ?_
        have e470 : (zn k) + Int32.ofInt 1 = zn (k + 1) := (zaddN (a := k) (b := 1) (znt (by omega)) c_2 (by omega))
        have te470 := znt (k := k + 1) (by omega)
        refine w_store (pc' := 42) (L' := [some (.ref S), some (.long x), none, some (.int ((zT (fun t => zb x (v (32 + t))) k) ||| ((((x >>> ((zn (v (32 + k))).toInt64 &&& 63)) &&& (Int64.ofNat kG1)).toInt32) <<< ((zn k) &&& 31)))), some (.int (zn (k + 1)))]) (st' := []) (m := 3) (ykc_114 (e := (3, .iinc 4 1, 0)) rfl) (by rw [← e470]; rfl) rfl ?_
        refine w_gb (ykc_114 (e := (4, .goto (-37), 5)) rfl) (fun k471 hk471 => ?_)
        have et : zT (fun t => zb x (v (32 + t))) (k + 1) = (zT (fun t => zb x (v (32 + t))) k) ||| ((((x >>> ((zn (v (32 + k))).toInt64 &&& 63)) &&& (Int64.ofNat kG1)).toInt32) <<< ((zn k) &&& 31)) := by
          show (zT (fun t => zb x (v (32 + t))) k ||| bif (fun t => zb x (v (32 + t))) k then _ else _) = _
          rw [zcb (hb k (by omega)) (by omega)]
        have h9 := ih k471 hk471 (k + 1) (by omega)
        rw [et] at h9
        exact h9
  exact hl n 0 (Nat.zero_le _)
theorem zc_pon {ph : pm_H} {S P G : Nat} {v : Nat → Nat} (hs : zSs ph S) (hd : zSd ph S P G v) {x : Int64} (hb : ∀ i, i < P → v i < 64) : zM 113 [.ref S, .long x] ph (fun v0 q => ph = q ∧ v0 = some (.int (zPon P v x))) := by
  obtain ⟨Q, hQ⟩ : ∃ Q : Option Value → pm_H → Prop, Q = (fun v0 q => ph = q ∧ v0 = some (.int (zPon P v x))) := ⟨_, rfl⟩
  rw [← hQ]
  refine zM_mk fun n D => ?_
  show zW n D 113 Q 0 [some (.ref S), some (.long x), none, none, none] [] ph
  have c_0 : ((Int8.ofInt 8).toInt32).toInt = 8 := by decide
  have c_1 : (Int32.ofInt 0).toInt = 0 := by decide
  have c_2 : (Int32.ofInt 1).toInt = 1 := by decide
  have hd0 := hd
  have hs0 := hs
  obtain ⟨r3, r4, r5, r6, r7, l1, l2, l3, l4, l5⟩ := hs
  obtain ⟨gP, hP8, gG, hG8, gH, gv, gw⟩ := hd
  have tP := znt (k := P) (by omega)
  have tG := znt (k := G) (by omega)
  refine w_alu (pc' := 1) (st' := [.int (Int32.ofInt 0)]) (ykc_113 (e := (0, .iconst 0, 0)) rfl) rfl rfl ?_
  refine w_store (pc' := 2) (L' := [some (.ref S), some (.long x), none, some (.int (Int32.ofInt 0)), none]) (st' := []) (m := 1) (ykc_113 (e := (3, .istore_n kF3, 0)) rfl) rfl rfl ?_
  refine w_alu (pc' := 3) (st' := [.int (Int32.ofInt 0)]) (ykc_113 (e := (0, .iconst 0, 0)) rfl) rfl rfl ?_
  refine w_store (pc' := 5) (L' := [some (.ref S), some (.long x), none, some (.int (Int32.ofInt 0)), some (.int (Int32.ofInt 0))]) (st' := []) (m := 2) (ykc_113 (e := (3, .istore 4, 0)) rfl) rfl rfl ?_
  have hl : ∀ (n : Nat), ∀ (k : Nat), (k ≤ P) → zW n D 113 Q 5 [some (.ref S), some (.long x), none, some (.int (zT (fun p => zb x (v p)) k)), some (.int (zn k))] [] ph := by
    intro n
    induction n using Nat.strongRecOn with
    | ind n ih =>
      intro k hk
      have tk := znt (k := k) (by omega)
      refine w_load (pc' := 7) (v := .int (zn k)) (m := 2) (ykc_113 (e := (2, .iload 4, 0)) rfl) rfl rfl ?_
      refine w_load (pc' := 8) (v := .ref S) (m := 1) (ykc_113 (e := (2, .aload_n kF0, 0)) rfl) rfl rfl ?_
      refine w_gf (pc' := 11) (v := .int (zn P)) (ykc_113 (e := (5, .getfield 30, 0)) rfl) rfl gP rfl ?_
      refine w_ige (ykc_113 (e := (4, .if_icmp .ge 34, 45)) rfl) rfl (fun b472 => ?_) (fun b472 => ?_)
      · refine w_load (pc' := 46) (v := .int (zT (fun p => zb x (v p)) k)) (m := 1) (ykc_113 (e := (2, .iload_n kF3, 0)) rfl) rfl rfl ?_
        refine w_ret (v := (some (.int (zT (fun p => zb x (v p)) k)))) (ykc_113 (e := (7, .ireturn, 0)) rfl) (zr_v rfl) ?_
        have ek : P = k := by omega
        subst ek
        rw [hQ]
        exact ⟨rfl, rfl⟩
      · refine w_load (pc' := 16) (v := .int (zn k)) (m := 2) (ykc_113 (e := (2, .iload 4, 0)) rfl) rfl rfl ?_
        refine w_push (pc' := 18) (v := .int ((Int8.ofInt 8).toInt32)) (m := 2) (ykc_113 (e := (1, .bipush 8, 0)) rfl) rfl rfl ?_
        refine w_ige (ykc_113 (e := (4, .if_icmp .ge 27, 45)) rfl) rfl (fun q => by exfalso; omega) (fun b473 => ?_)
        refine w_load (pc' := 22) (v := .int (zT (fun p => zb x (v p)) k)) (m := 1) (ykc_113 (e := (2, .iload_n kF3, 0)) rfl) rfl rfl ?_
        refine w_load (pc' := 23) (v := .long x) (m := 1) (ykc_113 (e := (2, .lload_n kF1, 0)) rfl) rfl rfl ?_
        refine w_load (pc' := 24) (v := .ref S) (m := 1) (ykc_113 (e := (2, .aload_n kF0, 0)) rfl) rfl rfl ?_
        refine w_gf (pc' := 27) (v := .ref (S + 1)) (ykc_113 (e := (5, .getfield 9, 0)) rfl) rfl r3 rfl ?_
        refine w_load (pc' := 29) (v := .int (zn k)) (m := 2) (ykc_113 (e := (2, .iload 4, 0)) rfl) rfl rfl ?_
        refine w_ialk (pc' := 30) (k := k) (ykc_113 (e := (5, .iaload, 0)) rfl) (gv k (by omega)).1 (by omega) rfl ?_
        refine w_alu (pc' := 31) (st' := [.long (x >>> ((zn (v k)).toInt64 &&& 63)), .int (zT (fun p => zb x (v p)) k)]) (ykc_113 (e := (0, .lshr, 0)) rfl) rfl rfl ?_
        refine w_alu (pc' := 32) (st' := [.long (Int64.ofNat kG1), .long (x >>> ((zn (v k)).toInt64 &&& 63)), .int (zT (fun p => zb x (v p)) k)]) (ykc_113 (e := (0, .lconst kG1, 0)) rfl) rfl rfl ?_
        refine w_alu (pc' := 33) (st' := [.long ((x >>> ((zn (v k)).toInt64 &&& 63)) &&& (Int64.ofNat kG1)), .int (zT (fun p => zb x (v p)) k)]) (ykc_113 (e := (0, .land, 0)) rfl) rfl rfl ?_
        refine w_alu (pc' := 34) (st' := [.int (((x >>> ((zn (v k)).toInt64 &&& 63)) &&& (Int64.ofNat kG1)).toInt32), .int (zT (fun p => zb x (v p)) k)]) (ykc_113 (e := (0, .l2i, 0)) rfl) rfl rfl ?_
        refine w_load (pc' := 36) (v := .int (zn k)) (m := 2) (ykc_113 (e := (2, .iload 4, 0)) rfl) rfl rfl ?_
        refine w_alu (pc' := 37) (st' := [.int ((((x >>> ((zn (v k)).toInt64 &&& 63)) &&& (Int64.ofNat kG1)).toInt32) <<< ((zn k) &&& 31)), .int (zT (fun p => zb x (v p)) k)]) (ykc_113 (e := (0, .ishl, 0)) rfl) rfl rfl ?_
        refine w_alu (pc' := 38) (st' := [.int ((zT (fun p => zb x (v p)) k) ||| ((((x >>> ((zn (v k)).toInt64 &&& 63)) &&& (Int64.ofNat kG1)).toInt32) <<< ((zn k) &&& 31)))]) (ykc_113 (e := (0, .ior, 0)) rfl) rfl rfl ?_
        refine w_store (pc' := 39) (L' := [some (.ref S), some (.long x), none, some (.int ((zT (fun p => zb x (v p)) k) ||| ((((x >>> ((zn (v k)).toInt64 &&& 63)) &&& (Int64.ofNat kG1)).toInt32) <<< ((zn k) &&& 31)))), some (.int (zn k))]) (st' := []) (m := 1) (ykc_113 (e := (3, .istore_n kF3, 0)) rfl) rfl rfl ?_
        have e474 : (zn k) + Int32.ofInt 1 = zn (k + 1) := (zaddN (a := k) (b := 1) (znt (by omega)) c_2 (by omega))
        have te474 := znt (k := k + 1) (by omega)
        refine w_store (pc' := 42) (L' := [some (.ref S), some (.long x), none, some (.int ((zT (fun p => zb x (v p)) k) ||| ((((x >>> ((zn (v k)).toInt64 &&& 63)) &&& (Int64.ofNat kG1)).toInt32) <<< ((zn k) &&& 31)))), some (.int (zn (k + 1)))]) (st' := []) (m := 3) (ykc_113 (e := (3, .iinc 4 1, 0)) rfl) (by rw [← e474]; rfl) rfl ?_
        refine w_gb (ykc_113 (e := (4, .goto (-37), 5)) rfl) (fun k475 hk475 => ?_)
        have et : zT (fun p => zb x (v p)) (k + 1) = (zT (fun p => zb x (v p)) k) ||| ((((x >>> ((zn (v k)).toInt64 &&& 63)) &&& (Int64.ofNat kG1)).toInt32) <<< ((zn k) &&& 31)) := by
          show (zT (fun p => zb x (v p)) k ||| bif (fun p => zb x (v p)) k then _ else _) = _
          rw [zcb (hb k (by omega)) (by omega)]
        have h9 := ih k475 hk475 (k + 1) (by omega)
        rw [et] at h9
        exact h9
  exact hl n 0 (Nat.zero_le _)
end
section
/-! the class: rule, REACH, views, by W; printed by wip/z/z_j_csee.py -/
/-- an act as the class writes it, a code as the class writes it -/
def zoc (a : Nat) : Int := if a = 0 then -60 else if a = 1 then -62 else if a = 2 then -61 else if a = 3 then -43 else if a = 4 then -45 else if a = 5 then -42 else -47
theorem zoc_b {a : Nat} : -62 ≤ zoc a ∧ zoc a ≤ -42 := by
  unfold zoc
  (repeat' split) <;> omega
theorem zoc_t {a : Nat} : (Int32.ofInt (zoc a)).toInt = zoc a := by
  have h := @zoc_b a
  exact Int32.toInt_ofInt_of_le (by omega) (by omega)
def zcc (c : Nat) : Int32 := if c < 2000 then zn c else if c = 3000 then Int32.ofInt (-109) else Int32.ofInt (zoc (c - 2000))
/-- a Formula at F holds k codes -/
def zFm (ph : pm_H) (F k : Nat) (c : Nat → Nat) : Prop := zc ph F 0 = some (.ref (F + 1)) ∧ zc ph F 8 = some (.ref (F + 4)) ∧ zc ph F 1 = some (.int (zn k)) ∧ 1 ≤ k ∧ k ≤ 40 ∧ (∀ i, i < k → zc ph (F + 1) i = some (.int (zcc (c i)))) ∧ zcg k c
theorem zneg_t {x : Int32} {d : Int} (h : x.toInt = d) (h1 : -1000 ≤ d) (h2 : d ≤ 1000) : (-x).toInt = -d := by
  rw [Int32.toInt_neg, h, xbm (by omega) (by omega)]
theorem zc_comb {c a b : Int32} {k : Nat} {ph : pm_H} (hc : c.toInt = -(zoc k)) (hk : k < 7) : zM 14 [.int c, .int a, .int b] ph (fun v q => ph = q ∧ v = some (.int (zwk k a b))) := by
  obtain ⟨Q, hQ⟩ : ∃ Q : Option Value → pm_H → Prop, Q = (fun v q => ph = q ∧ v = some (.int (zwk k a b))) := ⟨_, rfl⟩
  rw [← hQ]
  refine zM_mk fun n D => ?_
  show zW n D 14 Q 0 [some (.int c), some (.int a), some (.int b)] [] ph
  have c_0 : (Int32.ofInt 0).toInt = 0 := by decide
  have c_1 : (Int32.ofInt 1).toInt = 1 := by decide
  refine w_load (pc' := 1) (v := .int c) (m := 1) (ykc_14 (e := (2, .iload_n kF0, 0)) rfl) rfl rfl ?_
  rcases (show k = 0 ∨ k = 1 ∨ k = 2 ∨ k = 3 ∨ k = 4 ∨ k = 5 ∨ k = 6 by omega) with e | e | e | e | e | e | e
  · subst e
    have hc : c.toInt = 60 := hc
    refine w_br (pc' := 100) (st' := []) (ykc_14 (e := (4, .tableswitch 156 42 62 #[140, 132, 156, 136, 156, 144, 156, 156, 156, 156, 156, 156, 156, 156, 156, 156, 156, 156, 99, 121, 110], 99)) rfl) (zts_i (k := 18) (o := 99) (by omega) (by omega) rfl rfl) ?_
    refine w_load (pc' := 101) (v := .int a) (m := 1) (ykc_14 (e := (2, .iload_n kF1, 0)) rfl) rfl rfl ?_
    refine w_load (pc' := 102) (v := .int b) (m := 1) (ykc_14 (e := (2, .iload_n kF2, 0)) rfl) rfl rfl ?_
    refine w_ige (ykc_14 (e := (4, .if_icmp .ge 7, 109)) rfl) rfl (fun b476 => ?_) (fun b476 => ?_)
    · refine w_alu (pc' := 110) (st' := [.int (Int32.ofInt 0)]) (ykc_14 (e := (0, .iconst 0, 0)) rfl) rfl rfl ?_
      refine w_ret (v := (some (.int (Int32.ofInt 0)))) (ykc_14 (e := (7, .ireturn, 0)) rfl) (zr_v rfl) ?_
      rw [hQ, zi0]
      exact ⟨rfl, zvB (by exact (decide_eq_false (by omega)).symm)⟩
    · refine w_alu (pc' := 106) (st' := [.int (Int32.ofInt 1)]) (ykc_14 (e := (0, .iconst 1, 0)) rfl) rfl rfl ?_
      refine w_br (pc' := 110) (st' := [.int (Int32.ofInt 1)]) (ykc_14 (e := (4, .goto 4, 110)) rfl) rfl ?_
      refine w_ret (v := (some (.int (Int32.ofInt 1)))) (ykc_14 (e := (7, .ireturn, 0)) rfl) (zr_v rfl) ?_
      rw [hQ, zi1]
      exact ⟨rfl, zvB (by exact (decide_eq_true (by omega)).symm)⟩
  · subst e
    have hc : c.toInt = 62 := hc
    refine w_br (pc' := 111) (st' := []) (ykc_14 (e := (4, .tableswitch 156 42 62 #[140, 132, 156, 136, 156, 144, 156, 156, 156, 156, 156, 156, 156, 156, 156, 156, 156, 156, 99, 121, 110], 99)) rfl) (zts_i (k := 20) (o := 110) (by omega) (by omega) rfl rfl) ?_
    refine w_load (pc' := 112) (v := .int a) (m := 1) (ykc_14 (e := (2, .iload_n kF1, 0)) rfl) rfl rfl ?_
    refine w_load (pc' := 113) (v := .int b) (m := 1) (ykc_14 (e := (2, .iload_n kF2, 0)) rfl) rfl rfl ?_
    refine w_ile (ykc_14 (e := (4, .if_icmp .le 7, 120)) rfl) rfl (fun b477 => ?_) (fun b477 => ?_)
    · refine w_alu (pc' := 121) (st' := [.int (Int32.ofInt 0)]) (ykc_14 (e := (0, .iconst 0, 0)) rfl) rfl rfl ?_
      refine w_ret (v := (some (.int (Int32.ofInt 0)))) (ykc_14 (e := (7, .ireturn, 0)) rfl) (zr_v rfl) ?_
      rw [hQ, zi0]
      exact ⟨rfl, zvB (by exact (decide_eq_false (by omega)).symm)⟩
    · refine w_alu (pc' := 117) (st' := [.int (Int32.ofInt 1)]) (ykc_14 (e := (0, .iconst 1, 0)) rfl) rfl rfl ?_
      refine w_br (pc' := 121) (st' := [.int (Int32.ofInt 1)]) (ykc_14 (e := (4, .goto 4, 121)) rfl) rfl ?_
      refine w_ret (v := (some (.int (Int32.ofInt 1)))) (ykc_14 (e := (7, .ireturn, 0)) rfl) (zr_v rfl) ?_
      rw [hQ, zi1]
      exact ⟨rfl, zvB (by exact (decide_eq_true (by omega)).symm)⟩
  · subst e
    have hc : c.toInt = 61 := hc
    refine w_br (pc' := 122) (st' := []) (ykc_14 (e := (4, .tableswitch 156 42 62 #[140, 132, 156, 136, 156, 144, 156, 156, 156, 156, 156, 156, 156, 156, 156, 156, 156, 156, 99, 121, 110], 99)) rfl) (zts_i (k := 19) (o := 121) (by omega) (by omega) rfl rfl) ?_
    refine w_load (pc' := 123) (v := .int a) (m := 1) (ykc_14 (e := (2, .iload_n kF1, 0)) rfl) rfl rfl ?_
    refine w_load (pc' := 124) (v := .int b) (m := 1) (ykc_14 (e := (2, .iload_n kF2, 0)) rfl) rfl rfl ?_
    refine w_ine (ykc_14 (e := (4, .if_icmp .ne 7, 131)) rfl) rfl (fun b478 => ?_) (fun b478 => ?_)
    · refine w_alu (pc' := 132) (st' := [.int (Int32.ofInt 0)]) (ykc_14 (e := (0, .iconst 0, 0)) rfl) rfl rfl ?_
      refine w_ret (v := (some (.int (Int32.ofInt 0)))) (ykc_14 (e := (7, .ireturn, 0)) rfl) (zr_v rfl) ?_
      rw [hQ, zi0]
      exact ⟨rfl, zvB (by exact (decide_eq_false (by omega)).symm)⟩
    · refine w_alu (pc' := 128) (st' := [.int (Int32.ofInt 1)]) (ykc_14 (e := (0, .iconst 1, 0)) rfl) rfl rfl ?_
      refine w_br (pc' := 132) (st' := [.int (Int32.ofInt 1)]) (ykc_14 (e := (4, .goto 4, 132)) rfl) rfl ?_
      refine w_ret (v := (some (.int (Int32.ofInt 1)))) (ykc_14 (e := (7, .ireturn, 0)) rfl) (zr_v rfl) ?_
      rw [hQ, zi1]
      exact ⟨rfl, zvB (by exact (decide_eq_true (by omega)).symm)⟩
  · subst e
    have hc : c.toInt = 43 := hc
    refine w_br (pc' := 133) (st' := []) (ykc_14 (e := (4, .tableswitch 156 42 62 #[140, 132, 156, 136, 156, 144, 156, 156, 156, 156, 156, 156, 156, 156, 156, 156, 156, 156, 99, 121, 110], 99)) rfl) (zts_i (k := 1) (o := 132) (by omega) (by omega) rfl rfl) ?_
    refine w_load (pc' := 134) (v := .int a) (m := 1) (ykc_14 (e := (2, .iload_n kF1, 0)) rfl) rfl rfl ?_
    refine w_load (pc' := 135) (v := .int b) (m := 1) (ykc_14 (e := (2, .iload_n kF2, 0)) rfl) rfl rfl ?_
    refine w_alu (pc' := 136) (st' := [.int (a + b)]) (ykc_14 (e := (0, .iadd, 0)) rfl) rfl rfl ?_
    refine w_ret (v := (some (.int (a + b)))) (ykc_14 (e := (7, .ireturn, 0)) rfl) (zr_v rfl) ?_
    rw [hQ]
    exact ⟨rfl, rfl⟩
  · subst e
    have hc : c.toInt = 45 := hc
    refine w_br (pc' := 137) (st' := []) (ykc_14 (e := (4, .tableswitch 156 42 62 #[140, 132, 156, 136, 156, 144, 156, 156, 156, 156, 156, 156, 156, 156, 156, 156, 156, 156, 99, 121, 110], 99)) rfl) (zts_i (k := 3) (o := 136) (by omega) (by omega) rfl rfl) ?_
    refine w_load (pc' := 138) (v := .int a) (m := 1) (ykc_14 (e := (2, .iload_n kF1, 0)) rfl) rfl rfl ?_
    refine w_load (pc' := 139) (v := .int b) (m := 1) (ykc_14 (e := (2, .iload_n kF2, 0)) rfl) rfl rfl ?_
    refine w_alu (pc' := 140) (st' := [.int (a - b)]) (ykc_14 (e := (0, .isub, 0)) rfl) rfl rfl ?_
    refine w_ret (v := (some (.int (a - b)))) (ykc_14 (e := (7, .ireturn, 0)) rfl) (zr_v rfl) ?_
    rw [hQ]
    exact ⟨rfl, rfl⟩
  · subst e
    have hc : c.toInt = 42 := hc
    refine w_br (pc' := 141) (st' := []) (ykc_14 (e := (4, .tableswitch 156 42 62 #[140, 132, 156, 136, 156, 144, 156, 156, 156, 156, 156, 156, 156, 156, 156, 156, 156, 156, 99, 121, 110], 99)) rfl) (zts_i (k := 0) (o := 140) (by omega) (by omega) rfl rfl) ?_
    refine w_load (pc' := 142) (v := .int a) (m := 1) (ykc_14 (e := (2, .iload_n kF1, 0)) rfl) rfl rfl ?_
    refine w_load (pc' := 143) (v := .int b) (m := 1) (ykc_14 (e := (2, .iload_n kF2, 0)) rfl) rfl rfl ?_
    refine w_alu (pc' := 144) (st' := [.int (a * b)]) (ykc_14 (e := (0, .imul, 0)) rfl) rfl rfl ?_
    refine w_ret (v := (some (.int (a * b)))) (ykc_14 (e := (7, .ireturn, 0)) rfl) (zr_v rfl) ?_
    rw [hQ]
    exact ⟨rfl, rfl⟩
  · subst e
    have hc : c.toInt = 47 := hc
    refine w_br (pc' := 145) (st' := []) (ykc_14 (e := (4, .tableswitch 156 42 62 #[140, 132, 156, 136, 156, 144, 156, 156, 156, 156, 156, 156, 156, 156, 156, 156, 156, 156, 99, 121, 110], 99)) rfl) (zts_i (k := 5) (o := 144) (by omega) (by omega) rfl rfl) ?_
    refine w_load (pc' := 146) (v := .int b) (m := 1) (ykc_14 (e := (2, .iload_n kF2, 0)) rfl) rfl rfl ?_
    refine w_zne (ykc_14 (e := (4, .ifCond .ne 7, 153)) rfl) rfl (fun b479 => ?_) (fun b479 => ?_)
    · refine w_load (pc' := 154) (v := .int a) (m := 1) (ykc_14 (e := (2, .iload_n kF1, 0)) rfl) rfl rfl ?_
      refine w_load (pc' := 155) (v := .int b) (m := 1) (ykc_14 (e := (2, .iload_n kF2, 0)) rfl) rfl rfl ?_
      refine w_idiv (pc' := 156) (ykc_14 (e := (0, .idiv, 0)) rfl) rfl (fun d480 => ?_)
      show zW n D 14 Q 156 [some (.int c), some (.int a), some (.int b)] [.int (a / b)] ph
      refine w_ret (v := (some (.int (a / b)))) (ykc_14 (e := (7, .ireturn, 0)) rfl) (zr_v rfl) ?_
      rw [hQ]
      exact ⟨rfl, by show _ = some (Value.int (if b.toInt = 0 then Int32.ofInt 0 else a / b)); rw [if_neg b479]⟩
    · refine w_alu (pc' := 150) (st' := [.int (Int32.ofInt 0)]) (ykc_14 (e := (0, .iconst 0, 0)) rfl) rfl rfl ?_
      refine w_br (pc' := 156) (st' := [.int (Int32.ofInt 0)]) (ykc_14 (e := (4, .goto 6, 156)) rfl) rfl ?_
      refine w_ret (v := (some (.int (Int32.ofInt 0)))) (ykc_14 (e := (7, .ireturn, 0)) rfl) (zr_v rfl) ?_
      rw [hQ]
      exact ⟨rfl, by show _ = some (Value.int (if b.toInt = 0 then Int32.ofInt 0 else a / b)); rw [if_pos b479]⟩
theorem zc_value {ph : pm_H} (hS : zSh ph) {F cn : Nat} {cd : Nat → Nat} (hF : F = 11 ∨ F = 16) (hfm : zFm ph F cn cd) {as : Nat → Int32} (ha : ∀ i, i < 8 → zc ph 22 i = some (.int (as i))) : zM 13 [.ref F, .ref 22] ph (fun v q => zFr [15, 20] [] ph q ∧ v = some (.int (zval as cn cd))) := by
  obtain ⟨Q, hQ⟩ : ∃ Q : Option Value → pm_H → Prop, Q = (fun v q => zFr [15, 20] [] ph q ∧ v = some (.int (zval as cn cd))) := ⟨_, rfl⟩
  rw [← hQ]
  refine zM_mk fun n D => ?_
  show zW n D 13 Q 0 [some (.ref F), some (.ref 22), none, none, none, none] [] ph
  have c_0 : ((Int16.ofInt 1000).toInt32).toInt = 1000 := by decide
  have c_1 : ((Int8.ofInt (-109)).toInt32).toInt = -109 := by decide
  have c_2 : ((Int8.ofInt 40).toInt32).toInt = 40 := by decide
  have c_3 : (Int32.ofInt (-1)).toInt = -1 := by decide
  have c_4 : (Int32.ofInt 0).toInt = 0 := by decide
  have c_5 : (Int32.ofInt 1).toInt = 1 := by decide
  obtain ⟨fr0, fr8, gcn, hc1, hc40, gcd, hcg⟩ := hfm
  have tcn := znt (k := cn) (by omega)
  have hmem : F + 4 ∈ [15, 20] := by rcases hF with e | e <;> subst e <;> simp
  refine w_alu (pc' := 1) (st' := [.int (Int32.ofInt 0)]) (ykc_13 (e := (0, .iconst 0, 0)) rfl) rfl rfl ?_
  refine w_store (pc' := 2) (L' := [some (.ref F), some (.ref 22), some (.int (Int32.ofInt 0)), none, none, none]) (st' := []) (m := 1) (ykc_13 (e := (3, .istore_n kF2, 0)) rfl) rfl rfl ?_
  refine w_alu (pc' := 3) (st' := [.int (Int32.ofInt 0)]) (ykc_13 (e := (0, .iconst 0, 0)) rfl) rfl rfl ?_
  refine w_store (pc' := 4) (L' := [some (.ref F), some (.ref 22), some (.int (Int32.ofInt 0)), some (.int (Int32.ofInt 0)), none, none]) (st' := []) (m := 1) (ykc_13 (e := (3, .istore_n kF3, 0)) rfl) rfl rfl ?_
  have hl : ∀ (n : Nat), ∀ (k : Nat) (x4 x5 : Option Value) (ph1 : pm_H), (k ≤ cn) → (zFr [15, 20] [] ph ph1) → (∀ i, i < ztp cd k → zc ph1 (F + 4) i = some (.int (zsk as cd k i))) → (ztp cd k ≤ k) → zW n D 13 Q 4 [some (.ref F), some (.ref 22), some (.int (zn (ztp cd k))), some (.int (zn k)), x4, x5] [] ph1 := by
    intro n
    induction n using Nat.strongRecOn with
    | ind n ih =>
      intro k x4 x5 ph1 hk hf hst htp
      have tk := znt (k := k) (by omega)
      have tt := znt (k := ztp cd k) (by omega)
      refine w_load (pc' := 5) (v := .int (zn k)) (m := 1) (ykc_13 (e := (2, .iload_n kF3, 0)) rfl) rfl rfl ?_
      refine w_load (pc' := 6) (v := .ref F) (m := 1) (ykc_13 (e := (2, .aload_n kF0, 0)) rfl) rfl rfl ?_
      refine w_gf (pc' := 9) (v := .int (zn cn)) (ykc_13 (e := (5, .getfield 55, 0)) rfl) rfl ((hf.1 F 1 (by simp <;> omega) (by simp <;> omega)).trans gcn) rfl ?_
      refine w_ige (ykc_13 (e := (4, .if_icmp .ge 157, 166)) rfl) rfl (fun b481 => ?_) (fun b481 => ?_)
      · refine w_load (pc' := 167) (v := .ref F) (m := 1) (ykc_13 (e := (2, .aload_n kF0, 0)) rfl) rfl rfl ?_
        have hl1 := hcg.1 (by omega)
        have ek0 : ztp cd k = ztp cd cn := by rw [show k = cn by omega]
        refine w_gf (pc' := 170) (v := .ref (F + 4)) (ykc_13 (e := (5, .getfield 20, 0)) rfl) rfl ((hf.1 F 8 (by simp <;> omega) (by simp <;> omega)).trans fr8) rfl ?_
        refine w_alu (pc' := 171) (st' := [.int (Int32.ofInt 0), .ref (F + 4)]) (ykc_13 (e := (0, .iconst 0, 0)) rfl) rfl rfl ?_
        refine w_ialk (pc' := 172) (k := 0) (ykc_13 (e := (5, .iaload, 0)) rfl) (hst 0 (by omega)) (by omega) rfl ?_
        refine w_ret (v := (some (.int (zsk as cd k 0)))) (ykc_13 (e := (7, .ireturn, 0)) rfl) (zr_v rfl) ?_
        have ek : k = cn := by omega
        subst ek
        rw [hQ]
        exact ⟨hf, by unfold zval; rw [if_neg (show ¬ k = 0 by omega)]⟩
      · refine w_load (pc' := 13) (v := .int (zn k)) (m := 1) (ykc_13 (e := (2, .iload_n kF3, 0)) rfl) rfl rfl ?_
        refine w_push (pc' := 15) (v := .int ((Int8.ofInt 40).toInt32)) (m := 2) (ykc_13 (e := (1, .bipush 40, 0)) rfl) rfl rfl ?_
        refine w_ige (ykc_13 (e := (4, .if_icmp .ge 151, 166)) rfl) rfl (fun q => by exfalso; omega) (fun b482 => ?_)
        refine w_load (pc' := 19) (v := .ref F) (m := 1) (ykc_13 (e := (2, .aload_n kF0, 0)) rfl) rfl rfl ?_
        refine w_gf (pc' := 22) (v := .ref (F + 1)) (ykc_13 (e := (5, .getfield 9, 0)) rfl) rfl ((hf.1 F 0 (by simp <;> omega) (by simp <;> omega)).trans fr0) rfl ?_
        refine w_load (pc' := 23) (v := .int (zn k)) (m := 1) (ykc_13 (e := (2, .iload_n kF3, 0)) rfl) rfl rfl ?_
        refine w_ialk (pc' := 24) (k := k) (ykc_13 (e := (5, .iaload, 0)) rfl) ((hf.1 (F + 1) k (by simp <;> omega) (by simp <;> omega)).trans (gcd k (by omega))) (by omega) rfl ?_
        have hg := (hcg.2 k (by omega)).2.2
        have hlen : (zln ph1 22) = some 8 := ((hf.2 22).trans (zsl hS zl_22))
        rcases hg with hg | hg | hg | hg
        · have tc := znt (k := cd k) (by omega)
          rw [show zcc (cd k) = zn (cd k) from if_pos (by omega)]
          show zW n D 13 Q 24 [some (.ref F), some (.ref 22), some (.int (zn (ztp cd k))), some (.int (zn k)), x4, x5] [.int (zn (cd k))] ph1
          refine w_store (pc' := 26) (L' := [some (.ref F), some (.ref 22), some (.int (zn (ztp cd k))), some (.int (zn k)), some (.int (zn (cd k))), x5]) (st' := []) (m := 2) (ykc_13 (e := (3, .istore 4, 0)) rfl) rfl rfl ?_
          refine w_load (pc' := 28) (v := .int (zn (cd k))) (m := 2) (ykc_13 (e := (2, .iload 4, 0)) rfl) rfl rfl ?_
          refine w_zlt (ykc_13 (e := (4, .ifCond .lt 65, 93)) rfl) rfl (fun q => by exfalso; omega) (fun b483 => ?_)
          refine w_load (pc' := 32) (v := .int (zn (ztp cd k))) (m := 1) (ykc_13 (e := (2, .iload_n kF2, 0)) rfl) rfl rfl ?_
          refine w_push (pc' := 34) (v := .int ((Int8.ofInt 40).toInt32)) (m := 2) (ykc_13 (e := (1, .bipush 40, 0)) rfl) rfl rfl ?_
          refine w_ige (ykc_13 (e := (4, .if_icmp .ge 59, 93)) rfl) rfl (fun q => by exfalso; omega) (fun b484 => ?_)
          refine w_load (pc' := 39) (v := .int (zn (cd k))) (m := 2) (ykc_13 (e := (2, .iload 4, 0)) rfl) rfl rfl ?_
          refine w_push (pc' := 42) (v := .int ((Int16.ofInt 1000).toInt32)) (m := 3) (ykc_13 (e := (1, .sipush 1000, 0)) rfl) rfl rfl ?_
          refine w_ilt (ykc_13 (e := (4, .if_icmp .lt 18, 60)) rfl) rfl (fun b485 => ?_) (fun q => by exfalso; omega)
          refine w_alu (pc' := 61) (st' := [.int (Int32.ofInt 0)]) (ykc_13 (e := (0, .iconst 0, 0)) rfl) rfl rfl ?_
          refine w_store (pc' := 63) (L' := [some (.ref F), some (.ref 22), some (.int (zn (ztp cd k))), some (.int (zn k)), some (.int (zn (cd k))), some (.int (Int32.ofInt 0))]) (st' := []) (m := 2) (ykc_13 (e := (3, .istore 5, 0)) rfl) rfl rfl ?_
          refine w_load (pc' := 64) (v := .ref F) (m := 1) (ykc_13 (e := (2, .aload_n kF0, 0)) rfl) rfl rfl ?_
          refine w_gf (pc' := 67) (v := .ref (F + 4)) (ykc_13 (e := (5, .getfield 20, 0)) rfl) rfl ((hf.1 F 8 (by simp <;> omega) (by simp <;> omega)).trans fr8) rfl ?_
          refine w_load (pc' := 68) (v := .int (zn (ztp cd k))) (m := 1) (ykc_13 (e := (2, .iload_n kF2, 0)) rfl) rfl rfl ?_
          refine w_load (pc' := 70) (v := .int (Int32.ofInt 0)) (m := 2) (ykc_13 (e := (2, .iload 5, 0)) rfl) rfl rfl ?_
          refine w_zeq (ykc_13 (e := (4, .ifCond .eq 14, 84)) rfl) rfl (fun b486 => ?_) (fun q => by exfalso; omega)
          refine w_load (pc' := 86) (v := .int (zn (cd k))) (m := 2) (ykc_13 (e := (2, .iload 4, 0)) rfl) rfl rfl ?_
          refine w_ias (pc' := 87) (k := ztp cd k) (ykc_13 (e := (5, .iastore, 0)) rfl) (by omega) rfl (fun ph488 u487 => ?_)
          have e489 : (zn (ztp cd k)) + Int32.ofInt 1 = zn (ztp cd k + 1) := (zaddN (a := ztp cd k) (b := 1) (znt (by omega)) c_5 (by omega))
          have te489 := znt (k := ztp cd k + 1) (by omega)
          refine w_store (pc' := 90) (L' := [some (.ref F), some (.ref 22), some (.int (zn (ztp cd k + 1))), some (.int (zn k)), some (.int (zn (cd k))), some (.int (Int32.ofInt 0))]) (st' := []) (m := 3) (ykc_13 (e := (3, .iinc 2 1, 0)) rfl) (by rw [← e489]; rfl) rfl ?_
          refine w_br (pc' := 160) (st' := []) (ykc_13 (e := (4, .goto 70, 160)) rfl) rfl ?_
          have e490 : (zn k) + Int32.ofInt 1 = zn (k + 1) := (zaddN (a := k) (b := 1) (znt (by omega)) c_5 (by omega))
          have te490 := znt (k := k + 1) (by omega)
          refine w_store (pc' := 163) (L' := [some (.ref F), some (.ref 22), some (.int (zn (ztp cd k + 1))), some (.int (zn (k + 1))), some (.int (zn (cd k))), some (.int (Int32.ofInt 0))]) (st' := []) (m := 3) (ykc_13 (e := (3, .iinc 3 1, 0)) rfl) (by rw [← e490]; rfl) rfl ?_
          refine w_gb (ykc_13 (e := (4, .goto (-159), 4)) rfl) (fun k491 hk491 => ?_)
          have et : ztp cd (k + 1) = ztp cd k + 1 := by
            show (if cd k = 3000 then _ else if 2000 ≤ cd k then _ else _) = _
            rw [if_neg (show ¬ cd k = 3000 by omega), if_neg (show ¬ 2000 ≤ cd k by omega)]
          have es : zsk as cd (k + 1) = zup (zsk as cd k) (ztp cd k) (zn (cd k)) := by
            show (if cd k = 3000 then _ else if 2000 ≤ cd k then _ else _) = _
            rw [if_neg (show ¬ cd k = 3000 by omega), if_neg (show ¬ 2000 ≤ cd k by omega), if_neg (show ¬ 1000 ≤ cd k by omega)]
          have h9 := ih k491 hk491 (k + 1) (some (.int (zn (cd k)))) (some (.int (Int32.ofInt 0))) ph488 (by omega) (zFr_add hf u487 (Or.inl hmem)) (fun i hi => by
            rw [et] at hi
            rw [es]
            by_cases e9 : i = ztp cd k
            · rw [e9, zup_i]
              exact u487.1
            · rw [zup_n e9]
              exact (u487.2.1 (F + 4) i (fun q => e9 q.2)).trans (hst i (by omega))) (by rw [et]; omega)
          rw [et] at h9
          exact h9
        · have tc := znt (k := cd k) (by omega)
          rw [show zcc (cd k) = zn (cd k) from if_pos (by omega)]
          show zW n D 13 Q 24 [some (.ref F), some (.ref 22), some (.int (zn (ztp cd k))), some (.int (zn k)), x4, x5] [.int (zn (cd k))] ph1
          refine w_store (pc' := 26) (L' := [some (.ref F), some (.ref 22), some (.int (zn (ztp cd k))), some (.int (zn k)), some (.int (zn (cd k))), x5]) (st' := []) (m := 2) (ykc_13 (e := (3, .istore 4, 0)) rfl) rfl rfl ?_
          refine w_load (pc' := 28) (v := .int (zn (cd k))) (m := 2) (ykc_13 (e := (2, .iload 4, 0)) rfl) rfl rfl ?_
          refine w_zlt (ykc_13 (e := (4, .ifCond .lt 65, 93)) rfl) rfl (fun q => by exfalso; omega) (fun b492 => ?_)
          refine w_load (pc' := 32) (v := .int (zn (ztp cd k))) (m := 1) (ykc_13 (e := (2, .iload_n kF2, 0)) rfl) rfl rfl ?_
          refine w_push (pc' := 34) (v := .int ((Int8.ofInt 40).toInt32)) (m := 2) (ykc_13 (e := (1, .bipush 40, 0)) rfl) rfl rfl ?_
          refine w_ige (ykc_13 (e := (4, .if_icmp .ge 59, 93)) rfl) rfl (fun q => by exfalso; omega) (fun b493 => ?_)
          refine w_load (pc' := 39) (v := .int (zn (cd k))) (m := 2) (ykc_13 (e := (2, .iload 4, 0)) rfl) rfl rfl ?_
          refine w_push (pc' := 42) (v := .int ((Int16.ofInt 1000).toInt32)) (m := 3) (ykc_13 (e := (1, .sipush 1000, 0)) rfl) rfl rfl ?_
          refine w_ilt (ykc_13 (e := (4, .if_icmp .lt 18, 60)) rfl) rfl (fun q => by exfalso; omega) (fun b494 => ?_)
          refine w_load (pc' := 47) (v := .int (zn (cd k))) (m := 2) (ykc_13 (e := (2, .iload 4, 0)) rfl) rfl rfl ?_
          refine w_push (pc' := 50) (v := .int ((Int16.ofInt 1000).toInt32)) (m := 3) (ykc_13 (e := (1, .sipush 1000, 0)) rfl) rfl rfl ?_
          have e495 : (zn (cd k)) - ((Int16.ofInt 1000).toInt32) = zn (cd k - 1000) := zsubN (a := cd k) (b := 1000) (znt (by omega)) c_0 (by omega)
          have te495 := znt (k := cd k - 1000) (by omega)
          refine w_alu (pc' := 51) (st' := [.int (zn (cd k - 1000))]) (ykc_13 (e := (0, .isub, 0)) rfl) (by show some ([.int ((zn (cd k)) - ((Int16.ofInt 1000).toInt32))] : List Value) = _; rw [e495]) rfl ?_
          refine w_load (pc' := 52) (v := .ref 22) (m := 1) (ykc_13 (e := (2, .aload_n kF1, 0)) rfl) rfl rfl ?_
          have cn496 : (Int32.ofNat 8).toInt = 8 := by decide
          refine w_aln (ykc_13 (e := (5, .arraylength, 0)) rfl) ((hf.2 22).trans (zsl hS zl_22)) rfl ?_
          refine w_ige (ykc_13 (e := (4, .if_icmp .ge 7, 60)) rfl) rfl (fun q => by exfalso; omega) (fun b497 => ?_)
          refine w_alu (pc' := 57) (st' := [.int (Int32.ofInt 1)]) (ykc_13 (e := (0, .iconst 1, 0)) rfl) rfl rfl ?_
          refine w_br (pc' := 61) (st' := [.int (Int32.ofInt 1)]) (ykc_13 (e := (4, .goto 4, 61)) rfl) rfl ?_
          refine w_store (pc' := 63) (L' := [some (.ref F), some (.ref 22), some (.int (zn (ztp cd k))), some (.int (zn k)), some (.int (zn (cd k))), some (.int (Int32.ofInt 1))]) (st' := []) (m := 2) (ykc_13 (e := (3, .istore 5, 0)) rfl) rfl rfl ?_
          refine w_load (pc' := 64) (v := .ref F) (m := 1) (ykc_13 (e := (2, .aload_n kF0, 0)) rfl) rfl rfl ?_
          refine w_gf (pc' := 67) (v := .ref (F + 4)) (ykc_13 (e := (5, .getfield 20, 0)) rfl) rfl ((hf.1 F 8 (by simp <;> omega) (by simp <;> omega)).trans fr8) rfl ?_
          refine w_load (pc' := 68) (v := .int (zn (ztp cd k))) (m := 1) (ykc_13 (e := (2, .iload_n kF2, 0)) rfl) rfl rfl ?_
          refine w_load (pc' := 70) (v := .int (Int32.ofInt 1)) (m := 2) (ykc_13 (e := (2, .iload 5, 0)) rfl) rfl rfl ?_
          refine w_zeq (ykc_13 (e := (4, .ifCond .eq 14, 84)) rfl) rfl (fun q => by exfalso; omega) (fun b498 => ?_)
          refine w_load (pc' := 74) (v := .ref 22) (m := 1) (ykc_13 (e := (2, .aload_n kF1, 0)) rfl) rfl rfl ?_
          refine w_load (pc' := 76) (v := .int (zn (cd k))) (m := 2) (ykc_13 (e := (2, .iload 4, 0)) rfl) rfl rfl ?_
          refine w_push (pc' := 79) (v := .int ((Int16.ofInt 1000).toInt32)) (m := 3) (ykc_13 (e := (1, .sipush 1000, 0)) rfl) rfl rfl ?_
          have e499 : (zn (cd k)) - ((Int16.ofInt 1000).toInt32) = zn (cd k - 1000) := zsubN (a := cd k) (b := 1000) (znt (by omega)) c_0 (by omega)
          have te499 := znt (k := cd k - 1000) (by omega)
          refine w_alu (pc' := 80) (st' := [.int (zn (cd k - 1000)), .ref 22, .int (zn (ztp cd k)), .ref (F + 4)]) (ykc_13 (e := (0, .isub, 0)) rfl) (by show some ([.int ((zn (cd k)) - ((Int16.ofInt 1000).toInt32)), .ref 22, .int (zn (ztp cd k)), .ref (F + 4)] : List Value) = _; rw [e499]) rfl ?_
          refine w_ialk (pc' := 81) (k := cd k - 1000) (ykc_13 (e := (5, .iaload, 0)) rfl) ((hf.1 22 (cd k - 1000) (by decide) (by simp)).trans (ha (cd k - 1000) (by omega))) (by omega) rfl ?_
          refine w_br (pc' := 86) (st' := [.int (as (cd k - 1000)), .int (zn (ztp cd k)), .ref (F + 4)]) (ykc_13 (e := (4, .goto 5, 86)) rfl) rfl ?_
          refine w_ias (pc' := 87) (k := ztp cd k) (ykc_13 (e := (5, .iastore, 0)) rfl) (by omega) rfl (fun ph501 u500 => ?_)
          have e502 : (zn (ztp cd k)) + Int32.ofInt 1 = zn (ztp cd k + 1) := (zaddN (a := ztp cd k) (b := 1) (znt (by omega)) c_5 (by omega))
          have te502 := znt (k := ztp cd k + 1) (by omega)
          refine w_store (pc' := 90) (L' := [some (.ref F), some (.ref 22), some (.int (zn (ztp cd k + 1))), some (.int (zn k)), some (.int (zn (cd k))), some (.int (Int32.ofInt 1))]) (st' := []) (m := 3) (ykc_13 (e := (3, .iinc 2 1, 0)) rfl) (by rw [← e502]; rfl) rfl ?_
          refine w_br (pc' := 160) (st' := []) (ykc_13 (e := (4, .goto 70, 160)) rfl) rfl ?_
          have e503 : (zn k) + Int32.ofInt 1 = zn (k + 1) := (zaddN (a := k) (b := 1) (znt (by omega)) c_5 (by omega))
          have te503 := znt (k := k + 1) (by omega)
          refine w_store (pc' := 163) (L' := [some (.ref F), some (.ref 22), some (.int (zn (ztp cd k + 1))), some (.int (zn (k + 1))), some (.int (zn (cd k))), some (.int (Int32.ofInt 1))]) (st' := []) (m := 3) (ykc_13 (e := (3, .iinc 3 1, 0)) rfl) (by rw [← e503]; rfl) rfl ?_
          refine w_gb (ykc_13 (e := (4, .goto (-159), 4)) rfl) (fun k504 hk504 => ?_)
          have et : ztp cd (k + 1) = ztp cd k + 1 := by
            show (if cd k = 3000 then _ else if 2000 ≤ cd k then _ else _) = _
            rw [if_neg (show ¬ cd k = 3000 by omega), if_neg (show ¬ 2000 ≤ cd k by omega)]
          have es : zsk as cd (k + 1) = zup (zsk as cd k) (ztp cd k) (as (cd k - 1000)) := by
            show (if cd k = 3000 then _ else if 2000 ≤ cd k then _ else _) = _
            rw [if_neg (show ¬ cd k = 3000 by omega), if_neg (show ¬ 2000 ≤ cd k by omega), if_pos (show 1000 ≤ cd k by omega)]
          have h9 := ih k504 hk504 (k + 1) (some (.int (zn (cd k)))) (some (.int (Int32.ofInt 1))) ph501 (by omega) (zFr_add hf u500 (Or.inl hmem)) (fun i hi => by
            rw [et] at hi
            rw [es]
            by_cases e9 : i = ztp cd k
            · rw [e9, zup_i]
              exact u500.1
            · rw [zup_n e9]
              exact (u500.2.1 (F + 4) i (fun q => e9 q.2)).trans (hst i (by omega))) (by rw [et]; omega)
          rw [et] at h9
          exact h9
        · obtain ⟨a, hca⟩ : ∃ a, cd k = 2000 + a := ⟨cd k - 2000, by omega⟩
          have h2 : 2 ≤ ztp cd k := (hcg.2 k (by omega)).2.1 (by omega) (by omega)
          have ta := @zoc_t a
          have tb := @zoc_b a
          rw [show zcc (cd k) = Int32.ofInt (zoc a) by unfold zcc; rw [if_neg (by omega), if_neg (by omega), show cd k - 2000 = a by omega]]
          show zW n D 13 Q 24 [some (.ref F), some (.ref 22), some (.int (zn (ztp cd k))), some (.int (zn k)), x4, x5] [.int (Int32.ofInt (zoc a))] ph1
          refine w_store (pc' := 26) (L' := [some (.ref F), some (.ref 22), some (.int (zn (ztp cd k))), some (.int (zn k)), some (.int (Int32.ofInt (zoc a))), x5]) (st' := []) (m := 2) (ykc_13 (e := (3, .istore 4, 0)) rfl) rfl rfl ?_
          refine w_load (pc' := 28) (v := .int (Int32.ofInt (zoc a))) (m := 2) (ykc_13 (e := (2, .iload 4, 0)) rfl) rfl rfl ?_
          refine w_zlt (ykc_13 (e := (4, .ifCond .lt 65, 93)) rfl) rfl (fun b505 => ?_) (fun q => by exfalso; omega)
          refine w_load (pc' := 95) (v := .int (Int32.ofInt (zoc a))) (m := 2) (ykc_13 (e := (2, .iload 4, 0)) rfl) rfl rfl ?_
          refine w_push (pc' := 97) (v := .int ((Int8.ofInt (-109)).toInt32)) (m := 2) (ykc_13 (e := (1, .bipush (-109), 0)) rfl) rfl rfl ?_
          refine w_ine (ykc_13 (e := (4, .if_icmp .ne 27, 124)) rfl) rfl (fun b506 => ?_) (fun q => by exfalso; omega)
          refine w_load (pc' := 125) (v := .int (zn (ztp cd k))) (m := 1) (ykc_13 (e := (2, .iload_n kF2, 0)) rfl) rfl rfl ?_
          refine w_alu (pc' := 126) (st' := [.int (Int32.ofInt 1), .int (zn (ztp cd k))]) (ykc_13 (e := (0, .iconst 1, 0)) rfl) rfl rfl ?_
          refine w_ile (ykc_13 (e := (4, .if_icmp .le 34, 160)) rfl) rfl (fun q => by exfalso; omega) (fun b507 => ?_)
          have e508 : (zn (ztp cd k)) + Int32.ofInt (-1) = zn (ztp cd k - 1) := (zdecN (a := ztp cd k) (znt (by omega)) (by omega))
          have te508 := znt (k := ztp cd k - 1) (by omega)
          refine w_store (pc' := 132) (L' := [some (.ref F), some (.ref 22), some (.int (zn (ztp cd k - 1))), some (.int (zn k)), some (.int (Int32.ofInt (zoc a))), x5]) (st' := []) (m := 3) (ykc_13 (e := (3, .iinc 2 (-1), 0)) rfl) (by rw [← e508]; rfl) rfl ?_
          refine w_load (pc' := 133) (v := .ref F) (m := 1) (ykc_13 (e := (2, .aload_n kF0, 0)) rfl) rfl rfl ?_
          refine w_gf (pc' := 136) (v := .ref (F + 4)) (ykc_13 (e := (5, .getfield 20, 0)) rfl) rfl ((hf.1 F 8 (by simp <;> omega) (by simp <;> omega)).trans fr8) rfl ?_
          refine w_load (pc' := 137) (v := .int (zn (ztp cd k - 1))) (m := 1) (ykc_13 (e := (2, .iload_n kF2, 0)) rfl) rfl rfl ?_
          refine w_alu (pc' := 138) (st' := [.int (Int32.ofInt 1), .int (zn (ztp cd k - 1)), .ref (F + 4)]) (ykc_13 (e := (0, .iconst 1, 0)) rfl) rfl rfl ?_
          have e509 : (zn (ztp cd k - 1)) - (Int32.ofInt 1) = zn (ztp cd k - 2) := zsubN (a := ztp cd k - 1) (b := 1) (znt (by omega)) c_5 (by omega)
          have te509 := znt (k := ztp cd k - 2) (by omega)
          refine w_alu (pc' := 139) (st' := [.int (zn (ztp cd k - 2)), .ref (F + 4)]) (ykc_13 (e := (0, .isub, 0)) rfl) (by show some ([.int ((zn (ztp cd k - 1)) - (Int32.ofInt 1)), .ref (F + 4)] : List Value) = _; rw [e509]) rfl ?_
          refine w_load (pc' := 141) (v := .int (Int32.ofInt (zoc a))) (m := 2) (ykc_13 (e := (2, .iload 4, 0)) rfl) rfl rfl ?_
          obtain ⟨z510, e_z510, h_z510⟩ : ∃ zq : Int32, -(Int32.ofInt (zoc a)) = zq ∧ zq.toInt = -(zoc a) := ⟨_, rfl, (zneg_t ta (by omega) (by omega))⟩
          refine w_alu (pc' := 142) (st' := [.int z510, .int (zn (ztp cd k - 2)), .ref (F + 4)]) (ykc_13 (e := (0, .ineg, 0)) rfl) (by rw [← e_z510]; rfl) rfl ?_
          refine w_load (pc' := 143) (v := .ref F) (m := 1) (ykc_13 (e := (2, .aload_n kF0, 0)) rfl) rfl rfl ?_
          refine w_gf (pc' := 146) (v := .ref (F + 4)) (ykc_13 (e := (5, .getfield 20, 0)) rfl) rfl ((hf.1 F 8 (by simp <;> omega) (by simp <;> omega)).trans fr8) rfl ?_
          refine w_load (pc' := 147) (v := .int (zn (ztp cd k - 1))) (m := 1) (ykc_13 (e := (2, .iload_n kF2, 0)) rfl) rfl rfl ?_
          refine w_alu (pc' := 148) (st' := [.int (Int32.ofInt 1), .int (zn (ztp cd k - 1)), .ref (F + 4), .int z510, .int (zn (ztp cd k - 2)), .ref (F + 4)]) (ykc_13 (e := (0, .iconst 1, 0)) rfl) rfl rfl ?_
          have e511 : (zn (ztp cd k - 1)) - (Int32.ofInt 1) = zn (ztp cd k - 2) := zsubN (a := ztp cd k - 1) (b := 1) (znt (by omega)) c_5 (by omega)
          have te511 := znt (k := ztp cd k - 2) (by omega)
          refine w_alu (pc' := 149) (st' := [.int (zn (ztp cd k - 2)), .ref (F + 4), .int z510, .int (zn (ztp cd k - 2)), .ref (F + 4)]) (ykc_13 (e := (0, .isub, 0)) rfl) (by show some ([.int ((zn (ztp cd k - 1)) - (Int32.ofInt 1)), .ref (F + 4), .int z510, .int (zn (ztp cd k - 2)), .ref (F + 4)] : List Value) = _; rw [e511]) rfl ?_
          refine w_ialk (pc' := 150) (k := ztp cd k - 2) (ykc_13 (e := (5, .iaload, 0)) rfl) (hst (ztp cd k - 2) (by omega)) (by omega) rfl ?_
          refine w_load (pc' := 151) (v := .ref F) (m := 1) (ykc_13 (e := (2, .aload_n kF0, 0)) rfl) rfl rfl ?_
          refine w_gf (pc' := 154) (v := .ref (F + 4)) (ykc_13 (e := (5, .getfield 20, 0)) rfl) rfl ((hf.1 F 8 (by simp <;> omega) (by simp <;> omega)).trans fr8) rfl ?_
          refine w_load (pc' := 155) (v := .int (zn (ztp cd k - 1))) (m := 1) (ykc_13 (e := (2, .iload_n kF2, 0)) rfl) rfl rfl ?_
          refine w_ialk (pc' := 156) (k := ztp cd k - 1) (ykc_13 (e := (5, .iaload, 0)) rfl) (hst (ztp cd k - 1) (by omega)) (by omega) rfl ?_
          refine w_cs (as := [.int z510, .int (zsk as cd k (ztp cd k - 2)), .int (zsk as cd k (ztp cd k - 1))]) (r := [.int (zn (ztp cd k - 2)), .ref (F + 4)]) (ykc_13 (e := (6, .invokestatic 92, 0)) rfl) rfl rfl rfl rfl (zc_comb (k := cd k - 2000) (by rw [show cd k - 2000 = a by omega]; omega) (by omega)) (fun v512 ph513 hv => ?_)
          obtain ⟨rfl, rfl⟩ := hv
          show zW n D 13 Q 159 [some (.ref F), some (.ref 22), some (.int (zn (ztp cd k - 1))), some (.int (zn k)), some (.int (Int32.ofInt (zoc a))), x5] [.int (zwk (cd k - 2000) (zsk as cd k (ztp cd k - 2)) (zsk as cd k (ztp cd k - 1))), .int (zn (ztp cd k - 2)), .ref (F + 4)] ph1
          refine w_ias (pc' := 160) (k := ztp cd k - 2) (ykc_13 (e := (5, .iastore, 0)) rfl) (by omega) rfl (fun ph515 u514 => ?_)
          have e516 : (zn k) + Int32.ofInt 1 = zn (k + 1) := (zaddN (a := k) (b := 1) (znt (by omega)) c_5 (by omega))
          have te516 := znt (k := k + 1) (by omega)
          refine w_store (pc' := 163) (L' := [some (.ref F), some (.ref 22), some (.int (zn (ztp cd k - 1))), some (.int (zn (k + 1))), some (.int (Int32.ofInt (zoc a))), x5]) (st' := []) (m := 3) (ykc_13 (e := (3, .iinc 3 1, 0)) rfl) (by rw [← e516]; rfl) rfl ?_
          refine w_gb (ykc_13 (e := (4, .goto (-159), 4)) rfl) (fun k517 hk517 => ?_)
          have et : ztp cd (k + 1) = ztp cd k - 1 := by
            show (if cd k = 3000 then _ else if 2000 ≤ cd k then _ else _) = _
            rw [if_neg (show ¬ cd k = 3000 by omega), if_pos (show 2000 ≤ cd k by omega)]
          have es : zsk as cd (k + 1) = zup (zsk as cd k) (ztp cd k - 2) (zwk (cd k - 2000) (zsk as cd k (ztp cd k - 2)) (zsk as cd k (ztp cd k - 1))) := by
            show (if cd k = 3000 then _ else if 2000 ≤ cd k then _ else _) = _
            rw [if_neg (show ¬ cd k = 3000 by omega), if_pos (show 2000 ≤ cd k by omega)]
          have h9 := ih k517 hk517 (k + 1) (some (.int (Int32.ofInt (zoc a)))) (x5) ph515 (by omega) (zFr_add hf u514 (Or.inl hmem)) (fun i hi => by
            rw [et] at hi
            rw [es]
            by_cases e9 : i = ztp cd k - 2
            · rw [e9, zup_i]
              exact u514.1
            · rw [zup_n e9]
              exact (u514.2.1 (F + 4) i (fun q => e9 q.2)).trans (hst i (by omega))) (by rw [et]; omega)
          rw [et] at h9
          exact h9
        · have h1 : 1 ≤ ztp cd k := (hcg.2 k (by omega)).1 (by omega)
          rw [show zcc (cd k) = Int32.ofInt (-109) by unfold zcc; rw [if_neg (by omega), if_pos (by omega)]]
          have tm : (Int32.ofInt (-109)).toInt = -109 := by decide
          show zW n D 13 Q 24 [some (.ref F), some (.ref 22), some (.int (zn (ztp cd k))), some (.int (zn k)), x4, x5] [.int (Int32.ofInt (-109))] ph1
          refine w_store (pc' := 26) (L' := [some (.ref F), some (.ref 22), some (.int (zn (ztp cd k))), some (.int (zn k)), some (.int (Int32.ofInt (-109))), x5]) (st' := []) (m := 2) (ykc_13 (e := (3, .istore 4, 0)) rfl) rfl rfl ?_
          refine w_load (pc' := 28) (v := .int (Int32.ofInt (-109))) (m := 2) (ykc_13 (e := (2, .iload 4, 0)) rfl) rfl rfl ?_
          refine w_zlt (ykc_13 (e := (4, .ifCond .lt 65, 93)) rfl) rfl (fun b518 => ?_) (fun q => by exfalso; omega)
          refine w_load (pc' := 95) (v := .int (Int32.ofInt (-109))) (m := 2) (ykc_13 (e := (2, .iload 4, 0)) rfl) rfl rfl ?_
          refine w_push (pc' := 97) (v := .int ((Int8.ofInt (-109)).toInt32)) (m := 2) (ykc_13 (e := (1, .bipush (-109), 0)) rfl) rfl rfl ?_
          refine w_ine (ykc_13 (e := (4, .if_icmp .ne 27, 124)) rfl) rfl (fun q => by exfalso; omega) (fun b519 => ?_)
          refine w_load (pc' := 101) (v := .int (zn (ztp cd k))) (m := 1) (ykc_13 (e := (2, .iload_n kF2, 0)) rfl) rfl rfl ?_
          refine w_zle (ykc_13 (e := (4, .ifCond .le 23, 124)) rfl) rfl (fun q => by exfalso; omega) (fun b520 => ?_)
          refine w_load (pc' := 105) (v := .ref F) (m := 1) (ykc_13 (e := (2, .aload_n kF0, 0)) rfl) rfl rfl ?_
          refine w_gf (pc' := 108) (v := .ref (F + 4)) (ykc_13 (e := (5, .getfield 20, 0)) rfl) rfl ((hf.1 F 8 (by simp <;> omega) (by simp <;> omega)).trans fr8) rfl ?_
          refine w_load (pc' := 109) (v := .int (zn (ztp cd k))) (m := 1) (ykc_13 (e := (2, .iload_n kF2, 0)) rfl) rfl rfl ?_
          refine w_alu (pc' := 110) (st' := [.int (Int32.ofInt 1), .int (zn (ztp cd k)), .ref (F + 4)]) (ykc_13 (e := (0, .iconst 1, 0)) rfl) rfl rfl ?_
          have e521 : (zn (ztp cd k)) - (Int32.ofInt 1) = zn (ztp cd k - 1) := zsubN (a := ztp cd k) (b := 1) (znt (by omega)) c_5 (by omega)
          have te521 := znt (k := ztp cd k - 1) (by omega)
          refine w_alu (pc' := 111) (st' := [.int (zn (ztp cd k - 1)), .ref (F + 4)]) (ykc_13 (e := (0, .isub, 0)) rfl) (by show some ([.int ((zn (ztp cd k)) - (Int32.ofInt 1)), .ref (F + 4)] : List Value) = _; rw [e521]) rfl ?_
          refine w_load (pc' := 112) (v := .ref F) (m := 1) (ykc_13 (e := (2, .aload_n kF0, 0)) rfl) rfl rfl ?_
          refine w_gf (pc' := 115) (v := .ref (F + 4)) (ykc_13 (e := (5, .getfield 20, 0)) rfl) rfl ((hf.1 F 8 (by simp <;> omega) (by simp <;> omega)).trans fr8) rfl ?_
          refine w_load (pc' := 116) (v := .int (zn (ztp cd k))) (m := 1) (ykc_13 (e := (2, .iload_n kF2, 0)) rfl) rfl rfl ?_
          refine w_alu (pc' := 117) (st' := [.int (Int32.ofInt 1), .int (zn (ztp cd k)), .ref (F + 4), .int (zn (ztp cd k - 1)), .ref (F + 4)]) (ykc_13 (e := (0, .iconst 1, 0)) rfl) rfl rfl ?_
          have e522 : (zn (ztp cd k)) - (Int32.ofInt 1) = zn (ztp cd k - 1) := zsubN (a := ztp cd k) (b := 1) (znt (by omega)) c_5 (by omega)
          have te522 := znt (k := ztp cd k - 1) (by omega)
          refine w_alu (pc' := 118) (st' := [.int (zn (ztp cd k - 1)), .ref (F + 4), .int (zn (ztp cd k - 1)), .ref (F + 4)]) (ykc_13 (e := (0, .isub, 0)) rfl) (by show some ([.int ((zn (ztp cd k)) - (Int32.ofInt 1)), .ref (F + 4), .int (zn (ztp cd k - 1)), .ref (F + 4)] : List Value) = _; rw [e522]) rfl ?_
          refine w_ialk (pc' := 119) (k := ztp cd k - 1) (ykc_13 (e := (5, .iaload, 0)) rfl) (hst (ztp cd k - 1) (by omega)) (by omega) rfl ?_
          refine w_alu (pc' := 120) (st' := [.int (-(zsk as cd k (ztp cd k - 1))), .int (zn (ztp cd k - 1)), .ref (F + 4)]) (ykc_13 (e := (0, .ineg, 0)) rfl) rfl rfl ?_
          refine w_ias (pc' := 121) (k := ztp cd k - 1) (ykc_13 (e := (5, .iastore, 0)) rfl) (by omega) rfl (fun ph524 u523 => ?_)
          refine w_br (pc' := 160) (st' := []) (ykc_13 (e := (4, .goto 39, 160)) rfl) rfl ?_
          have e525 : (zn k) + Int32.ofInt 1 = zn (k + 1) := (zaddN (a := k) (b := 1) (znt (by omega)) c_5 (by omega))
          have te525 := znt (k := k + 1) (by omega)
          refine w_store (pc' := 163) (L' := [some (.ref F), some (.ref 22), some (.int (zn (ztp cd k))), some (.int (zn (k + 1))), some (.int (Int32.ofInt (-109))), x5]) (st' := []) (m := 3) (ykc_13 (e := (3, .iinc 3 1, 0)) rfl) (by rw [← e525]; rfl) rfl ?_
          refine w_gb (ykc_13 (e := (4, .goto (-159), 4)) rfl) (fun k526 hk526 => ?_)
          have et : ztp cd (k + 1) = ztp cd k := by
            show (if cd k = 3000 then _ else if 2000 ≤ cd k then _ else _) = _
            rw [if_pos (show cd k = 3000 by omega)]
          have es : zsk as cd (k + 1) = zup (zsk as cd k) (ztp cd k - 1) (-(zsk as cd k (ztp cd k - 1))) := by
            show (if cd k = 3000 then _ else if 2000 ≤ cd k then _ else _) = _
            rw [if_pos (show cd k = 3000 by omega)]
          have h9 := ih k526 hk526 (k + 1) (some (.int (Int32.ofInt (-109)))) (x5) ph524 (by omega) (zFr_add hf u523 (Or.inl hmem)) (fun i hi => by
            rw [et] at hi
            rw [es]
            by_cases e9 : i = ztp cd k - 1
            · rw [e9, zup_i]
              exact u523.1
            · rw [zup_n e9]
              exact (u523.2.1 (F + 4) i (fun q => e9 q.2)).trans (hst i (by omega))) (by rw [et]; omega)
          rw [et] at h9
          exact h9
  exact hl n 0 none none ph (by omega) zFr_refl (fun i hi => absurd hi (Nat.not_lt_zero i)) (Nat.le_refl _)
end
section
/-! the class: views and their rows, by W; printed by wip/z/z_k_cview.py -/
/-- rows and columns from f to g -/
def zgr (C f g : Nat) : Int := ((g / C : Nat) : Int) - (f / C : Nat)
def zgc (C f g : Nat) : Int := ((g % C : Nat) : Int) - (f % C : Nat)
def zds (C f g : Nat) : Nat := max (zgr C f g).natAbs (zgc C f g).natAbs
def zTw (C : Nat) (rk : Nat → Bool) (f w : Nat) (g : Nat) : Bool := !decide (g = f) && (zclr C rk f g 7 && decide (zway (zgr C f g) (zgc C f g) = w))
def zWi (C f d : Nat) (g : Nat) : Bool := !decide (g = f) && decide (zds C f g ≤ d)
/-- the rows kept of the FIELDS that were surveyed -/
def zCc (ph : pm_H) (R C : Nat) (rk : Nat → Bool) : Prop := ∃ x, zc ph 5 4 = some (.long x) ∧ ∀ f, f < R * C → zb x f = true → (∀ w, w < 8 → zc ph 8 (8 * f + w) = some (.long (zS (zTw C rk f w) (R * C)))) ∧ ∀ d, d < 7 → zc ph 9 (7 * f + d) = some (.long (zS (zWi C f d) (R * C)))
theorem zstp_e {a b i : Nat} : zstp a b i = b ↔ ((b : Int) - a).natAbs ≤ i := by
  unfold zstp
  split <;> omega
theorem zpos_e {C f g i : Nat} (hC : 0 < C) : zpos C f g i = g ↔ zds C f g ≤ i := by
  have h6 : zstp (f % C) (g % C) i < C := zstp_lt (Nat.mod_lt f hC) (Nat.mod_lt g hC)
  unfold zpos
  rw [zC_eq hC h6, zstp_e, zstp_e]
  unfold zds zgr zgc
  omega
theorem zclr_f {C : Nat} {rk : Nat → Bool} {a g i : Nat} (h : zclr C rk a g i = false) (k : Nat) : zclr C rk a g (i + k) = false := by
  induction k with
  | zero => exact h
  | succ k ih =>
    show (zclr C rk a g (i + k) && _) = false
    rw [ih]
    rfl
theorem zds_6 {R C f g : Nat} (hC : 0 < C) (hC7 : C ≤ 7) (hR7 : R ≤ 7) (hf : f < R * C) (hg : g < R * C) : zds C f g ≤ 6 := (zpos_e hC).mp (zpos_f hC hC7 hR7 hf hg (Nat.le_refl 6))
theorem zds_1 {C f g : Nat} (hC : 0 < C) (h : f ≠ g) : 1 ≤ zds C f g := by
  apply Nat.lt_of_not_le
  intro h2
  have h3 := (zpos_e (i := 0) hC).mpr (by omega)
  unfold zpos at h3
  rw [zstp_0, zstp_0, Nat.div_add_mod] at h3
  exact h h3
theorem zmulK {x y : Int32} {a b : Nat} (hx : x.toInt = (a : Int)) (hy : y.toInt = (b : Int)) (h : b * a < 2147483648) : x * y = zn (b * a) := zn_of (by
  have e : x.toInt * y.toInt = ((b * a : Nat) : Int) := by rw [hx, hy, Nat.mul_comm]; rfl
  rw [ti_mul (by rw [e]; omega) (by rw [e]; omega), e])
/-- scratch of the class -/
def zCx (p q : pm_H) : Prop := zFr [8, 9, 15, 20, 22, 23, 24] [(5, 4)] p q
def zCy (p q : pm_H) : Prop := zFr [8, 9] [(5, 4)] p q
theorem zCl_F {A : List Nat} {F : List (Nat × Nat)} {p q : pm_H} {R C : Nat} {rk : Nat → Bool} (f : zFr A F p q) (h1 : 5 ∉ A ∧ 6 ∉ A ∧ 7 ∉ A) (h2 : ∀ i, i < 4 → (5, i) ∉ F) (h3 : ∀ i, (6, i) ∉ F ∧ (7, i) ∉ F) (h : zCl p R C rk) : zCl q R C rk := ⟨(f.1 _ _ h1.1 (h2 0 (by decide))).trans h.1, (f.1 _ _ h1.1 (h2 1 (by decide))).trans h.2.1, (f.1 _ _ h1.1 (h2 2 (by decide))).trans h.2.2.1, (f.1 _ _ h1.1 (h2 3 (by decide))).trans h.2.2.2.1, fun i hi => ⟨(f.1 _ _ h1.2.1 (h3 i).1).trans (h.2.2.2.2.1 i hi).1, (f.1 _ _ h1.2.2 (h3 i).2).trans (h.2.2.2.2.1 i hi).2⟩, h.2.2.2.2.2⟩
theorem zCy_l {p q : pm_H} {R C : Nat} {rk : Nat → Bool} (f : zFr [8, 9] [(5, 4)] p q) (h : zCl p R C rk) : zCl q R C rk := zCl_F f (by simp) (by intro i hi; simp <;> omega) (by simp) h
theorem zCy_S {p q : pm_H} (f : zFr [8, 9] [(5, 4)] p q) (h : zSh p) : zSh q := zSh_F f (by decide +kernel) h
theorem zCx_l {p q : pm_H} {R C : Nat} {rk : Nat → Bool} (f : zCx p q) (h : zCl p R C rk) : zCl q R C rk := zCl_F f (by simp) (by intro i hi; simp <;> omega) (by simp) h
theorem zCx_S {p q : pm_H} (f : zCx p q) (h : zSh p) : zSh q := zSh_F f (by decide +kernel) h
theorem zc_clear {ph : pm_H} {R C : Nat} {rk : Nat → Bool} (hS : zSh ph) (hL : zCl ph R C rk) {f g : Nat} {dx dy : Int32} (hf : f < R * C) (hg : g < R * C) (hne : f ≠ g) (hdx : dx.toInt = zgr C f g) (hdy : dy.toInt = zgc C f g) : zM 50 [.ref 5, .int (zn f), .int dx, .int dy] ph (fun v q => ph = q ∧ v = some (.int (zI (zclr C rk f g 7)))) := by
  obtain ⟨Q, hQ⟩ : ∃ Q : Option Value → pm_H → Prop, Q = (fun v q => ph = q ∧ v = some (.int (zI (zclr C rk f g 7)))) := ⟨_, rfl⟩
  rw [← hQ]
  refine zM_mk fun n D => ?_
  show zW n D 50 Q 0 [some (.ref 5), some (.int (zn f)), some (.int dx), some (.int dy), none, none, none, none] [] ph
  have c_0 : (Int32.ofInt 0).toInt = 0 := by decide
  have c_1 : (Int32.ofInt 1).toInt = 1 := by decide
  obtain ⟨gR, gC, gN, gK, gA, hR3, hR7, hC3, hC7⟩ := hL
  have hRC := zRC49 hR7 hC7
  have tR := znt (k := R) (by omega)
  have tC := znt (k := C) (by omega)
  have tRC := znt (k := R * C) (by omega)
  have tf := znt (k := f) (by omega)
  have f1 : f / C < R := (Nat.div_lt_iff_lt_mul (by omega)).mpr hf
  have f2 := Nat.mod_lt f (show 0 < C by omega)
  have p1 := Nat.zero_le (f / C)
  have p3 := Nat.zero_le (f % C)
  have g1 : g / C < R := (Nat.div_lt_iff_lt_mul (by omega)).mpr hg
  have g2 := Nat.mod_lt g (show 0 < C by omega)
  have p2 := Nat.zero_le (g / C)
  have p4 := Nat.zero_le (g % C)
  have er : zgr C f g = ((g / C : Nat) : Int) - (f / C : Nat) := rfl
  have ec : zgc C f g = ((g % C : Nat) : Int) - (f % C : Nat) := rfl
  have eds : zds C f g = max (zgr C f g).natAbs (zgc C f g).natAbs := rfl
  have hd6 := zds_6 (by omega) hC7 hR7 hf hg
  have hd1 := zds_1 (C := C) (by omega) hne
  have er2 : zgr C f g = ((g / C : Nat) : Int) - (f / C : Nat) := rfl
  have ec2 : zgc C f g = ((g % C : Nat) : Int) - (f % C : Nat) := rfl
  refine w_load (pc' := 1) (v := .int dx) (m := 1) (ykc_50 (e := (2, .iload_n kF2, 0)) rfl) rfl rfl ?_
  obtain ⟨z527, e_z527⟩ : ∃ zq : Int32, (if 0 ≤ dx then dx else 0 - dx) = zq := ⟨_, rfl⟩
  have h_z527 := zabsI e_z527
  refine w_mem1 (pc' := 4) (m := 3) (st' := [.int z527]) (ph' := ph) (ykc_50 (e := (5, .invokestatic 100, 0)) rfl) (by rw [← e_z527]; rfl) rfl ?_
  refine w_load (pc' := 5) (v := .int dy) (m := 1) (ykc_50 (e := (2, .iload_n kF3, 0)) rfl) rfl rfl ?_
  obtain ⟨z528, e_z528⟩ : ∃ zq : Int32, (if 0 ≤ dy then dy else 0 - dy) = zq := ⟨_, rfl⟩
  have h_z528 := zabsI e_z528
  refine w_mem1 (pc' := 8) (m := 3) (st' := [.int z528, .int z527]) (ph' := ph) (ykc_50 (e := (5, .invokestatic 100, 0)) rfl) (by rw [← e_z528]; rfl) rfl ?_
  obtain ⟨z529, e_z529⟩ : ∃ zq : Int32, (if z527 < z528 then z528 else z527) = zq := ⟨_, rfl⟩
  have h_z529 := zmaxI e_z529
  refine w_mem1 (pc' := 11) (m := 3) (st' := [.int z529]) (ph' := ph) (ykc_50 (e := (5, .invokestatic 97, 0)) rfl) (by rw [← e_z529]; rfl) rfl ?_
  refine w_store (pc' := 13) (L' := [some (.ref 5), some (.int (zn f)), some (.int dx), some (.int dy), some (.int z529), none, none, none]) (st' := []) (m := 2) (ykc_50 (e := (3, .istore 4, 0)) rfl) rfl rfl ?_
  refine w_alu (pc' := 14) (st' := [.int (Int32.ofInt 1)]) (ykc_50 (e := (0, .iconst 1, 0)) rfl) rfl rfl ?_
  refine w_store (pc' := 16) (L' := [some (.ref 5), some (.int (zn f)), some (.int dx), some (.int dy), some (.int z529), some (.int (Int32.ofInt 1)), none, none]) (st' := []) (m := 2) (ykc_50 (e := (3, .istore 5, 0)) rfl) rfl rfl ?_
  have tfar : z529.toInt = ((zds C f g : Nat) : Int) := by omega
  clear eds er ec h_z527 h_z528 h_z529
  have hl : ∀ (n : Nat), ∀ (m : Nat) (x6 x7 : Option Value), (m + 1 ≤ zds C f g) → (zclr C rk f g m = true) → zW n D 50 Q 16 [some (.ref 5), some (.int (zn f)), some (.int dx), some (.int dy), some (.int z529), some (.int (zn (m + 1))), x6, x7] [] ph := by
    intro n
    induction n using Nat.strongRecOn with
    | ind n ih =>
      intro m x6 x7 hm hc
      have tm := znt (k := m + 1) (by omega)
      have s3 := zstp_lt (i := m + 1) f1 g1
      have s4 := zstp_lt (i := m + 1) f2 g2
      refine w_load (pc' := 18) (v := .int (zn (m + 1))) (m := 2) (ykc_50 (e := (2, .iload 5, 0)) rfl) rfl rfl ?_
      refine w_load (pc' := 20) (v := .int z529) (m := 2) (ykc_50 (e := (2, .iload 4, 0)) rfl) rfl rfl ?_
      refine w_ige (ykc_50 (e := (4, .if_icmp .ge 75, 95)) rfl) rfl (fun b530 => ?_) (fun b530 => ?_)
      · refine w_alu (pc' := 96) (st' := [.int (Int32.ofInt 1)]) (ykc_50 (e := (0, .iconst 1, 0)) rfl) rfl rfl ?_
        refine w_ret (v := (some (.int (Int32.ofInt 1)))) (ykc_50 (e := (7, .ireturn, 0)) rfl) zr_z ?_
        have hm2 : zds C f g = m + 1 := by omega
        have hp := (zpos_e (C := C) (f := f) (g := g) (i := m + 1) (show 0 < C by omega)).mpr (by omega)
        have h1 : zclr C rk f g (m + 1) = true := by
          show (zclr C rk f g m && (decide (zpos C f g (m + 1) = g) || !rk (zpos C f g (m + 1)))) = true
          rw [hc, hp]
          simp
        have h2 := (zclr_e (rk := rk) (show 0 < C by omega) hp (7 - (m + 1))).1
        rw [show m + 1 + (7 - (m + 1)) = 7 by omega, h1] at h2
        rw [hQ, zi1]
        exact ⟨rfl, zvB h2.symm⟩
      · refine w_load (pc' := 24) (v := .ref 5) (m := 1) (ykc_50 (e := (2, .aload_n kF0, 0)) rfl) rfl rfl ?_
        refine w_gf (pc' := 27) (v := .ref 6) (ykc_50 (e := (5, .getfield 9, 0)) rfl) rfl (zsg hS zs_5_5) rfl ?_
        refine w_load (pc' := 28) (v := .int (zn f)) (m := 1) (ykc_50 (e := (2, .iload_n kF1, 0)) rfl) rfl rfl ?_
        have q531 : f / C < R := (Nat.div_lt_iff_lt_mul (by omega)).mpr (show f < R * C by omega)
        have zq531 := Nat.zero_le (f / C)
        have tq531 := znt (k := f / C) (by omega)
        refine w_ialk (pc' := 29) (k := f) (ykc_50 (e := (5, .iaload, 0)) rfl) (gA f (by omega)).1 (by omega) rfl ?_
        refine w_load (pc' := 31) (v := .int (zn (m + 1))) (m := 2) (ykc_50 (e := (2, .iload 5, 0)) rfl) rfl rfl ?_
        obtain ⟨z532, e_z532, h_z532⟩ : ∃ zq : Int32, -(zn (m + 1)) = zq ∧ zq.toInt = -((m + 1 : Nat) : Int) := ⟨_, rfl, (zneg_t tm (by omega) (by omega))⟩
        refine w_alu (pc' := 32) (st' := [.int z532, .int (zn (f / C))]) (ykc_50 (e := (0, .ineg, 0)) rfl) (by rw [← e_z532]; rfl) rfl ?_
        refine w_load (pc' := 34) (v := .int (zn (m + 1))) (m := 2) (ykc_50 (e := (2, .iload 5, 0)) rfl) rfl rfl ?_
        refine w_load (pc' := 35) (v := .int dx) (m := 1) (ykc_50 (e := (2, .iload_n kF2, 0)) rfl) rfl rfl ?_
        obtain ⟨z533, e_z533⟩ : ∃ zq : Int32, (if dx < (zn (m + 1)) then dx else (zn (m + 1))) = zq := ⟨_, rfl⟩
        have h_z533 := zminI e_z533
        refine w_mem1 (pc' := 38) (m := 3) (st' := [.int z533, .int z532, .int (zn (f / C))]) (ph' := ph) (ykc_50 (e := (5, .invokestatic 85, 0)) rfl) (by rw [← e_z533]; rfl) rfl ?_
        obtain ⟨z534, e_z534⟩ : ∃ zq : Int32, (if z532 < z533 then z533 else z532) = zq := ⟨_, rfl⟩
        have h_z534 := zmaxI e_z534
        refine w_mem1 (pc' := 41) (m := 3) (st' := [.int z534, .int (zn (f / C))]) (ph' := ph) (ykc_50 (e := (5, .invokestatic 97, 0)) rfl) (by rw [← e_z534]; rfl) rfl ?_
        have e535 : (zn (f / C)) + z534 = zn (zstp (f / C) (g / C) (m + 1)) := zn_of (by have := ti_add (x := (zn (f / C))) (y := z534) (by omega) (by omega); rw [this]; unfold zstp; split <;> omega)
        have te535 := znt (k := zstp (f / C) (g / C) (m + 1)) (by omega)
        refine w_alu (pc' := 42) (st' := [.int (zn (zstp (f / C) (g / C) (m + 1)))]) (ykc_50 (e := (0, .iadd, 0)) rfl) (by rw [← e535]; rfl) rfl ?_
        refine w_store (pc' := 44) (L' := [some (.ref 5), some (.int (zn f)), some (.int dx), some (.int dy), some (.int z529), some (.int (zn (m + 1))), some (.int (zn (zstp (f / C) (g / C) (m + 1)))), x7]) (st' := []) (m := 2) (ykc_50 (e := (3, .istore 6, 0)) rfl) rfl rfl ?_
        refine w_load (pc' := 45) (v := .ref 5) (m := 1) (ykc_50 (e := (2, .aload_n kF0, 0)) rfl) rfl rfl ?_
        refine w_gf (pc' := 48) (v := .ref 7) (ykc_50 (e := (5, .getfield 15, 0)) rfl) rfl (zsg hS zs_5_6) rfl ?_
        refine w_load (pc' := 49) (v := .int (zn f)) (m := 1) (ykc_50 (e := (2, .iload_n kF1, 0)) rfl) rfl rfl ?_
        have q536 := Nat.mod_lt (f) (show 0 < C by omega)
        have zq536 := Nat.zero_le (f % C)
        have tq536 := znt (k := f % C) (by omega)
        refine w_ialk (pc' := 50) (k := f) (ykc_50 (e := (5, .iaload, 0)) rfl) (gA f (by omega)).2 (by omega) rfl ?_
        refine w_load (pc' := 52) (v := .int (zn (m + 1))) (m := 2) (ykc_50 (e := (2, .iload 5, 0)) rfl) rfl rfl ?_
        obtain ⟨z537, e_z537, h_z537⟩ : ∃ zq : Int32, -(zn (m + 1)) = zq ∧ zq.toInt = -((m + 1 : Nat) : Int) := ⟨_, rfl, (zneg_t tm (by omega) (by omega))⟩
        refine w_alu (pc' := 53) (st' := [.int z537, .int (zn (f % C))]) (ykc_50 (e := (0, .ineg, 0)) rfl) (by rw [← e_z537]; rfl) rfl ?_
        refine w_load (pc' := 55) (v := .int (zn (m + 1))) (m := 2) (ykc_50 (e := (2, .iload 5, 0)) rfl) rfl rfl ?_
        refine w_load (pc' := 56) (v := .int dy) (m := 1) (ykc_50 (e := (2, .iload_n kF3, 0)) rfl) rfl rfl ?_
        obtain ⟨z538, e_z538⟩ : ∃ zq : Int32, (if dy < (zn (m + 1)) then dy else (zn (m + 1))) = zq := ⟨_, rfl⟩
        have h_z538 := zminI e_z538
        refine w_mem1 (pc' := 59) (m := 3) (st' := [.int z538, .int z537, .int (zn (f % C))]) (ph' := ph) (ykc_50 (e := (5, .invokestatic 85, 0)) rfl) (by rw [← e_z538]; rfl) rfl ?_
        obtain ⟨z539, e_z539⟩ : ∃ zq : Int32, (if z537 < z538 then z538 else z537) = zq := ⟨_, rfl⟩
        have h_z539 := zmaxI e_z539
        refine w_mem1 (pc' := 62) (m := 3) (st' := [.int z539, .int (zn (f % C))]) (ph' := ph) (ykc_50 (e := (5, .invokestatic 97, 0)) rfl) (by rw [← e_z539]; rfl) rfl ?_
        have e540 : (zn (f % C)) + z539 = zn (zstp (f % C) (g % C) (m + 1)) := zn_of (by have := ti_add (x := (zn (f % C))) (y := z539) (by omega) (by omega); rw [this]; unfold zstp; split <;> omega)
        have te540 := znt (k := zstp (f % C) (g % C) (m + 1)) (by omega)
        refine w_alu (pc' := 63) (st' := [.int (zn (zstp (f % C) (g % C) (m + 1)))]) (ykc_50 (e := (0, .iadd, 0)) rfl) (by rw [← e540]; rfl) rfl ?_
        refine w_store (pc' := 65) (L' := [some (.ref 5), some (.int (zn f)), some (.int dx), some (.int dy), some (.int z529), some (.int (zn (m + 1))), some (.int (zn (zstp (f / C) (g / C) (m + 1)))), some (.int (zn (zstp (f % C) (g % C) (m + 1))))]) (st' := []) (m := 2) (ykc_50 (e := (3, .istore 7, 0)) rfl) rfl rfl ?_
        refine w_load (pc' := 66) (v := .ref 5) (m := 1) (ykc_50 (e := (2, .aload_n kF0, 0)) rfl) rfl rfl ?_
        refine w_gf (pc' := 69) (v := .long (zS rk (R * C))) (ykc_50 (e := (5, .getfield 53, 0)) rfl) rfl gK rfl ?_
        refine w_load (pc' := 71) (v := .int (zn (zstp (f / C) (g / C) (m + 1)))) (m := 2) (ykc_50 (e := (2, .iload 6, 0)) rfl) rfl rfl ?_
        refine w_load (pc' := 72) (v := .ref 5) (m := 1) (ykc_50 (e := (2, .aload_n kF0, 0)) rfl) rfl rfl ?_
        refine w_gf (pc' := 75) (v := .int (zn C)) (ykc_50 (e := (5, .getfield 50, 0)) rfl) rfl gC rfl ?_
        have m541 : zstp (f / C) (g / C) (m + 1) * C ≤ 7 * 7 := Nat.mul_le_mul (by omega) (by omega)
        have zm541 := Nat.zero_le (zstp (f / C) (g / C) (m + 1) * C)
        have e542 : (zn (zstp (f / C) (g / C) (m + 1))) * (zn C) = zn (zstp (f / C) (g / C) (m + 1) * C) := zn_of (zmulN (by omega) (by omega) (by omega) (by omega))
        have te542 := znt (k := zstp (f / C) (g / C) (m + 1) * C) (by omega)
        refine w_alu (pc' := 76) (st' := [.int (zn (zstp (f / C) (g / C) (m + 1) * C)), .long (zS rk (R * C))]) (ykc_50 (e := (0, .imul, 0)) rfl) (by rw [← e542]; rfl) rfl ?_
        refine w_load (pc' := 78) (v := .int (zn (zstp (f % C) (g % C) (m + 1)))) (m := 2) (ykc_50 (e := (2, .iload 7, 0)) rfl) rfl rfl ?_
        have hps : zpos C f g (m + 1) = zstp (f / C) (g / C) (m + 1) * C + zstp (f % C) (g % C) (m + 1) := by unfold zpos; rw [Nat.mul_comm]
        have hpl := zpos_lt (i := m + 1) (show 0 < C by omega) hf hg
        have e543 : (zn (zstp (f / C) (g / C) (m + 1) * C)) + (zn (zstp (f % C) (g % C) (m + 1))) = zn (zpos C f g (m + 1)) := zn_of (by have := ti_add (x := (zn (zstp (f / C) (g / C) (m + 1) * C))) (y := (zn (zstp (f % C) (g % C) (m + 1)))) (by omega) (by omega); rw [hps]; omega)
        have te543 := znt (k := zpos C f g (m + 1)) (by omega)
        refine w_alu (pc' := 79) (st' := [.int (zn (zpos C f g (m + 1))), .long (zS rk (R * C))]) (ykc_50 (e := (0, .iadd, 0)) rfl) (by rw [← e543]; rfl) rfl ?_
        refine w_alu (pc' := 80) (st' := [.long ((zS rk (R * C)) >>> ((zn (zpos C f g (m + 1))).toInt64 &&& 63))]) (ykc_50 (e := (0, .lshr, 0)) rfl) rfl rfl ?_
        refine w_alu (pc' := 81) (st' := [.long (Int64.ofNat kG1), .long ((zS rk (R * C)) >>> ((zn (zpos C f g (m + 1))).toInt64 &&& 63))]) (ykc_50 (e := (0, .lconst kG1, 0)) rfl) rfl rfl ?_
        refine w_alu (pc' := 82) (st' := [.long (((zS rk (R * C)) >>> ((zn (zpos C f g (m + 1))).toInt64 &&& 63)) &&& (Int64.ofNat kG1))]) (ykc_50 (e := (0, .land, 0)) rfl) rfl rfl ?_
        refine w_alu (pc' := 83) (st' := [.long (Int64.ofNat kG1), .long (((zS rk (R * C)) >>> ((zn (zpos C f g (m + 1))).toInt64 &&& 63)) &&& (Int64.ofNat kG1))]) (ykc_50 (e := (0, .lconst kG1, 0)) rfl) rfl rfl ?_
        refine w_alu (pc' := 84) (st' := [.int (lg_cmp (((zS rk (R * C)) >>> ((zn (zpos C f g (m + 1))).toInt64 &&& 63)) &&& (Int64.ofNat kG1)) (Int64.ofNat kG1))]) (ykc_50 (e := (0, .lcmp, 0)) rfl) rfl rfl ?_
        have hz := zhas (x := zS rk (R * C)) (k := zpos C f g (m + 1)) (by omega)
        have hb0 := zS_b (f := rk) (n := R * C) (by omega) (k := zpos C f g (m + 1)) (by omega)
        rw [decide_eq_true hpl, Bool.true_and] at hb0
        rw [hb0] at hz
        have hpn : zpos C f g (m + 1) ≠ g := fun q => by have := (zpos_e (show 0 < C by omega)).mp q; omega
        refine w_zne (ykc_50 (e := (4, .ifCond .ne 5, 89)) rfl) rfl (fun b544 => ?_) (fun b544 => ?_)
        · have e545 : (zn (m + 1)) + Int32.ofInt 1 = zn (m + 1 + 1) := (zaddN (a := m + 1) (b := 1) (znt (by omega)) c_1 (by omega))
          have te545 := znt (k := m + 1 + 1) (by omega)
          refine w_store (pc' := 92) (L' := [some (.ref 5), some (.int (zn f)), some (.int dx), some (.int dy), some (.int z529), some (.int (zn (m + 1 + 1))), some (.int (zn (zstp (f / C) (g / C) (m + 1)))), some (.int (zn (zstp (f % C) (g % C) (m + 1))))]) (st' := []) (m := 3) (ykc_50 (e := (3, .iinc 5 1, 0)) rfl) (by rw [← e545]; rfl) rfl ?_
          refine w_gb (ykc_50 (e := (4, .goto (-76), 16)) rfl) (fun k546 hk546 => ?_)
          have h1 : zclr C rk f g (m + 1) = true := by
            show (zclr C rk f g m && (decide (zpos C f g (m + 1) = g) || !rk (zpos C f g (m + 1)))) = true
            rw [hc, Bool.eq_false_iff.mpr (fun q => b544 (hz.mpr q))]
            simp
          exact ih k546 hk546 (m + 1) _ _ (by omega) h1
        · refine w_alu (pc' := 88) (st' := [.int (Int32.ofInt 0)]) (ykc_50 (e := (0, .iconst 0, 0)) rfl) rfl rfl ?_
          refine w_ret (v := (some (.int (Int32.ofInt 0)))) (ykc_50 (e := (7, .ireturn, 0)) rfl) zr_z ?_
          have h1 : zclr C rk f g (m + 1) = false := by
            show (zclr C rk f g m && (decide (zpos C f g (m + 1) = g) || !rk (zpos C f g (m + 1)))) = false
            rw [hz.mp b544, decide_eq_false hpn]
            simp
          have h2 := zclr_f h1 (7 - (m + 1))
          rw [show m + 1 + (7 - (m + 1)) = 7 by omega] at h2
          rw [hQ, zi0]
          exact ⟨rfl, zvB h2.symm⟩
  exact hl n 0 none none (by omega) rfl
theorem zc_way {x y : Int32} {ph : pm_H} {d r : Int} (hx : x.toInt = d) (hy : y.toInt = r) (b1 : -60 ≤ d) (b2 : d ≤ 60) (b3 : -60 ≤ r) (b4 : r ≤ 60) (h0 : d ≠ 0 ∨ r ≠ 0) : zM 51 [.int x, .int y] ph (fun v q => ph = q ∧ v = some (.int (zn (zway d r)))) := by
  obtain ⟨Q, hQ⟩ : ∃ Q : Option Value → pm_H → Prop, Q = (fun v q => ph = q ∧ v = some (.int (zn (zway d r)))) := ⟨_, rfl⟩
  rw [← hQ]
  refine zM_mk fun n D => ?_
  show zW n D 51 Q 0 [some (.int x), some (.int y)] [] ph
  have c_0 : ((Int8.ofInt 6).toInt32).toInt = 6 := by decide
  have c_1 : ((Int8.ofInt 7).toInt32).toInt = 7 := by decide
  have c_2 : (Int32.ofInt 0).toInt = 0 := by decide
  have c_3 : (Int32.ofInt 1).toInt = 1 := by decide
  have c_4 : (Int32.ofInt 2).toInt = 2 := by decide
  have c_5 : (Int32.ofInt 3).toInt = 3 := by decide
  have c_6 : (Int32.ofInt 4).toInt = 4 := by decide
  have c_7 : (Int32.ofInt 5).toInt = 5 := by decide
  refine w_load (pc' := 1) (v := .int x) (m := 1) (ykc_51 (e := (2, .iload_n kF0, 0)) rfl) rfl rfl ?_
  obtain ⟨z547, e_z547⟩ : ∃ zq : Int32, (if 0 ≤ x then x else 0 - x) = zq := ⟨_, rfl⟩
  have h_z547 := zabsI e_z547
  refine w_mem1 (pc' := 4) (m := 3) (st' := [.int z547]) (ph' := ph) (ykc_51 (e := (5, .invokestatic 100, 0)) rfl) (by rw [← e_z547]; rfl) rfl ?_
  refine w_alu (pc' := 5) (st' := [.int (Int32.ofInt 2), .int z547]) (ykc_51 (e := (0, .iconst 2, 0)) rfl) rfl rfl ?_
  refine w_load (pc' := 6) (v := .int y) (m := 1) (ykc_51 (e := (2, .iload_n kF1, 0)) rfl) rfl rfl ?_
  obtain ⟨z548, e_z548⟩ : ∃ zq : Int32, (if 0 ≤ y then y else 0 - y) = zq := ⟨_, rfl⟩
  have h_z548 := zabsI e_z548
  refine w_mem1 (pc' := 9) (m := 3) (st' := [.int z548, .int (Int32.ofInt 2), .int z547]) (ph' := ph) (ykc_51 (e := (5, .invokestatic 100, 0)) rfl) (by rw [← e_z548]; rfl) rfl ?_
  obtain ⟨z549, e_z549, h_z549⟩ : ∃ zq : Int32, (Int32.ofInt 2) * z548 = zq ∧ zq.toInt = (2 : Int) * z548.toInt := ⟨_, rfl, (by rw [ti_mul (by rw [show (Int32.ofInt 2).toInt = (2 : Int) by omega, show z548.toInt = z548.toInt by omega]; omega) (by rw [show (Int32.ofInt 2).toInt = (2 : Int) by omega, show z548.toInt = z548.toInt by omega]; omega), show (Int32.ofInt 2).toInt = (2 : Int) by omega, show z548.toInt = z548.toInt by omega] <;> omega)⟩
  refine w_alu (pc' := 10) (st' := [.int z549, .int z547]) (ykc_51 (e := (0, .imul, 0)) rfl) (by rw [← e_z549]; rfl) rfl ?_
  refine w_ile (ykc_51 (e := (4, .if_icmp .le 13, 23)) rfl) rfl (fun b550 => ?_) (fun b550 => ?_)
  · refine w_load (pc' := 24) (v := .int y) (m := 1) (ykc_51 (e := (2, .iload_n kF1, 0)) rfl) rfl rfl ?_
    obtain ⟨z551, e_z551⟩ : ∃ zq : Int32, (if 0 ≤ y then y else 0 - y) = zq := ⟨_, rfl⟩
    have h_z551 := zabsI e_z551
    refine w_mem1 (pc' := 27) (m := 3) (st' := [.int z551]) (ph' := ph) (ykc_51 (e := (5, .invokestatic 100, 0)) rfl) (by rw [← e_z551]; rfl) rfl ?_
    refine w_alu (pc' := 28) (st' := [.int (Int32.ofInt 2), .int z551]) (ykc_51 (e := (0, .iconst 2, 0)) rfl) rfl rfl ?_
    refine w_load (pc' := 29) (v := .int x) (m := 1) (ykc_51 (e := (2, .iload_n kF0, 0)) rfl) rfl rfl ?_
    obtain ⟨z552, e_z552⟩ : ∃ zq : Int32, (if 0 ≤ x then x else 0 - x) = zq := ⟨_, rfl⟩
    have h_z552 := zabsI e_z552
    refine w_mem1 (pc' := 32) (m := 3) (st' := [.int z552, .int (Int32.ofInt 2), .int z551]) (ph' := ph) (ykc_51 (e := (5, .invokestatic 100, 0)) rfl) (by rw [← e_z552]; rfl) rfl ?_
    obtain ⟨z553, e_z553, h_z553⟩ : ∃ zq : Int32, (Int32.ofInt 2) * z552 = zq ∧ zq.toInt = (2 : Int) * z552.toInt := ⟨_, rfl, (by rw [ti_mul (by rw [show (Int32.ofInt 2).toInt = (2 : Int) by omega, show z552.toInt = z552.toInt by omega]; omega) (by rw [show (Int32.ofInt 2).toInt = (2 : Int) by omega, show z552.toInt = z552.toInt by omega]; omega), show (Int32.ofInt 2).toInt = (2 : Int) by omega, show z552.toInt = z552.toInt by omega] <;> omega)⟩
    refine w_alu (pc' := 33) (st' := [.int z553, .int z551]) (ykc_51 (e := (0, .imul, 0)) rfl) (by rw [← e_z553]; rfl) rfl ?_
    refine w_ile (ykc_51 (e := (4, .if_icmp .le 14, 47)) rfl) rfl (fun b554 => ?_) (fun b554 => ?_)
    · refine w_load (pc' := 48) (v := .int x) (m := 1) (ykc_51 (e := (2, .iload_n kF0, 0)) rfl) rfl rfl ?_
      refine w_zge (ykc_51 (e := (4, .ifCond .ge 14, 62)) rfl) rfl (fun b555 => ?_) (fun b555 => ?_)
      · refine w_load (pc' := 63) (v := .int y) (m := 1) (ykc_51 (e := (2, .iload_n kF1, 0)) rfl) rfl rfl ?_
        refine w_zle (ykc_51 (e := (4, .ifCond .le 7, 70)) rfl) rfl (fun b556 => ?_) (fun b556 => ?_)
        · refine w_alu (pc' := 71) (st' := [.int (Int32.ofInt 5)]) (ykc_51 (e := (0, .iconst 5, 0)) rfl) rfl rfl ?_
          refine w_ret (v := (some (.int (Int32.ofInt 5)))) (ykc_51 (e := (7, .ireturn, 0)) rfl) (zr_v rfl) ?_
          rw [hQ]
          exact ⟨rfl, by rw [zn_of (x := Int32.ofInt 5) (k := zway d r) (by unfold zway; (repeat' split) <;> omega)]⟩
        · refine w_alu (pc' := 67) (st' := [.int (Int32.ofInt 3)]) (ykc_51 (e := (0, .iconst 3, 0)) rfl) rfl rfl ?_
          refine w_br (pc' := 71) (st' := [.int (Int32.ofInt 3)]) (ykc_51 (e := (4, .goto 4, 71)) rfl) rfl ?_
          refine w_ret (v := (some (.int (Int32.ofInt 3)))) (ykc_51 (e := (7, .ireturn, 0)) rfl) (zr_v rfl) ?_
          rw [hQ]
          exact ⟨rfl, by rw [zn_of (x := Int32.ofInt 3) (k := zway d r) (by unfold zway; (repeat' split) <;> omega)]⟩
      · refine w_load (pc' := 52) (v := .int y) (m := 1) (ykc_51 (e := (2, .iload_n kF1, 0)) rfl) rfl rfl ?_
        refine w_zle (ykc_51 (e := (4, .ifCond .le 7, 59)) rfl) rfl (fun b557 => ?_) (fun b557 => ?_)
        · refine w_push (pc' := 61) (v := .int ((Int8.ofInt 7).toInt32)) (m := 2) (ykc_51 (e := (1, .bipush 7, 0)) rfl) rfl rfl ?_
          refine w_ret (v := (some (.int ((Int8.ofInt 7).toInt32)))) (ykc_51 (e := (7, .ireturn, 0)) rfl) (zr_v rfl) ?_
          rw [hQ]
          exact ⟨rfl, by rw [zn_of (x := (Int8.ofInt 7).toInt32) (k := zway d r) (by unfold zway; (repeat' split) <;> omega)]⟩
        · refine w_alu (pc' := 56) (st' := [.int (Int32.ofInt 1)]) (ykc_51 (e := (0, .iconst 1, 0)) rfl) rfl rfl ?_
          refine w_br (pc' := 61) (st' := [.int (Int32.ofInt 1)]) (ykc_51 (e := (4, .goto 5, 61)) rfl) rfl ?_
          refine w_ret (v := (some (.int (Int32.ofInt 1)))) (ykc_51 (e := (7, .ireturn, 0)) rfl) (zr_v rfl) ?_
          rw [hQ]
          exact ⟨rfl, by rw [zn_of (x := Int32.ofInt 1) (k := zway d r) (by unfold zway; (repeat' split) <;> omega)]⟩
    · refine w_load (pc' := 37) (v := .int y) (m := 1) (ykc_51 (e := (2, .iload_n kF1, 0)) rfl) rfl rfl ?_
      refine w_zle (ykc_51 (e := (4, .ifCond .le 7, 44)) rfl) rfl (fun b558 => ?_) (fun b558 => ?_)
      · refine w_push (pc' := 46) (v := .int ((Int8.ofInt 6).toInt32)) (m := 2) (ykc_51 (e := (1, .bipush 6, 0)) rfl) rfl rfl ?_
        refine w_ret (v := (some (.int ((Int8.ofInt 6).toInt32)))) (ykc_51 (e := (7, .ireturn, 0)) rfl) (zr_v rfl) ?_
        rw [hQ]
        exact ⟨rfl, by rw [zn_of (x := (Int8.ofInt 6).toInt32) (k := zway d r) (by unfold zway; (repeat' split) <;> omega)]⟩
      · refine w_alu (pc' := 41) (st' := [.int (Int32.ofInt 2)]) (ykc_51 (e := (0, .iconst 2, 0)) rfl) rfl rfl ?_
        refine w_br (pc' := 46) (st' := [.int (Int32.ofInt 2)]) (ykc_51 (e := (4, .goto 5, 46)) rfl) rfl ?_
        refine w_ret (v := (some (.int (Int32.ofInt 2)))) (ykc_51 (e := (7, .ireturn, 0)) rfl) (zr_v rfl) ?_
        rw [hQ]
        exact ⟨rfl, by rw [zn_of (x := Int32.ofInt 2) (k := zway d r) (by unfold zway; (repeat' split) <;> omega)]⟩
  · refine w_load (pc' := 14) (v := .int x) (m := 1) (ykc_51 (e := (2, .iload_n kF0, 0)) rfl) rfl rfl ?_
    refine w_zge (ykc_51 (e := (4, .ifCond .ge 7, 21)) rfl) rfl (fun b559 => ?_) (fun b559 => ?_)
    · refine w_alu (pc' := 22) (st' := [.int (Int32.ofInt 4)]) (ykc_51 (e := (0, .iconst 4, 0)) rfl) rfl rfl ?_
      refine w_ret (v := (some (.int (Int32.ofInt 4)))) (ykc_51 (e := (7, .ireturn, 0)) rfl) (zr_v rfl) ?_
      rw [hQ]
      exact ⟨rfl, by rw [zn_of (x := Int32.ofInt 4) (k := zway d r) (by unfold zway; (repeat' split) <;> omega)]⟩
    · refine w_alu (pc' := 18) (st' := [.int (Int32.ofInt 0)]) (ykc_51 (e := (0, .iconst 0, 0)) rfl) rfl rfl ?_
      refine w_br (pc' := 22) (st' := [.int (Int32.ofInt 0)]) (ykc_51 (e := (4, .goto 4, 22)) rfl) rfl ?_
      refine w_ret (v := (some (.int (Int32.ofInt 0)))) (ykc_51 (e := (7, .ireturn, 0)) rfl) (zr_v rfl) ?_
      rw [hQ]
      exact ⟨rfl, by rw [zn_of (x := Int32.ofInt 0) (k := zway d r) (by unfold zway; (repeat' split) <;> omega)]⟩
theorem zS_s {f : Nat → Bool} {k : Nat} : zS f (k + 1) = zS f k ||| (bif f k then Int64.ofNat kG1 <<< ((zn k).toInt64 &&& 63) else Int64.ofNat kG0) := rfl
theorem zor0 (x : Int64) : x ||| Int64.ofNat kG0 = x := zb_ext fun k hk => by rw [zb_or, zL0]; simp [zb]
theorem zc_survey {ph : pm_H} {R C : Nat} {rk : Nat → Bool} (hS : zSh ph) (hL : zCl ph R C rk) {f : Nat} (hf : f < R * C) {x : Int64} (hx : zc ph 5 4 = some (.long x)) : zM 49 [.ref 5, .int (zn f)] ph (fun v q => v = none ∧ zFr [8, 9] [(5, 4)] ph q ∧ zc q 5 4 = some (.long (x ||| (Int64.ofNat kG1 <<< ((zn f).toInt64 &&& 63)))) ∧ (∀ w, w < 8 → zc q 8 (8 * f + w) = some (.long (zS (zTw C rk f w) (R * C)))) ∧ (∀ d, d < 7 → zc q 9 (7 * f + d) = some (.long (zS (zWi C f d) (R * C)))) ∧ (∀ i, i < 8 * f ∨ 8 * f + 8 ≤ i → zc q 8 i = zc ph 8 i) ∧ ∀ i, i < 7 * f ∨ 7 * f + 7 ≤ i → zc q 9 i = zc ph 9 i) := by
  obtain ⟨Q, hQ⟩ : ∃ Q : Option Value → pm_H → Prop, Q = (fun v q => v = none ∧ zFr [8, 9] [(5, 4)] ph q ∧ zc q 5 4 = some (.long (x ||| (Int64.ofNat kG1 <<< ((zn f).toInt64 &&& 63)))) ∧ (∀ w, w < 8 → zc q 8 (8 * f + w) = some (.long (zS (zTw C rk f w) (R * C)))) ∧ (∀ d, d < 7 → zc q 9 (7 * f + d) = some (.long (zS (zWi C f d) (R * C)))) ∧ (∀ i, i < 8 * f ∨ 8 * f + 8 ≤ i → zc q 8 i = zc ph 8 i) ∧ ∀ i, i < 7 * f ∨ 7 * f + 7 ≤ i → zc q 9 i = zc ph 9 i) := ⟨_, rfl⟩
  rw [← hQ]
  refine zM_mk fun n D => ?_
  show zW n D 49 Q 0 [some (.ref 5), some (.int (zn f)), none, none, none, none, none] [] ph
  have c_0 : ((Int8.ofInt 49).toInt32).toInt = 49 := by decide
  have c_1 : ((Int8.ofInt 7).toInt32).toInt = 7 := by decide
  have c_2 : ((Int8.ofInt 8).toInt32).toInt = 8 := by decide
  have c_3 : (Int32.ofInt 0).toInt = 0 := by decide
  have c_4 : (Int32.ofInt 1).toInt = 1 := by decide
  have hL0 := hL
  obtain ⟨gR, gC, gN, gK, gA, hR3, hR7, hC3, hC7⟩ := hL
  have hRC := zRC49 hR7 hC7
  have tR := znt (k := R) (by omega)
  have tC := znt (k := C) (by omega)
  have tRC := znt (k := R * C) (by omega)
  have tf := znt (k := f) (by omega)
  have f1 : f / C < R := (Nat.div_lt_iff_lt_mul (by omega)).mpr hf
  have f2 := Nat.mod_lt f (show 0 < C by omega)
  have p1 := Nat.zero_le (f / C)
  have p3 := Nat.zero_le (f % C)
  have hC : ∀ (n : Nat), ∀ (k : Nat) (x3 x4 x5 x6 : Option Value) (ph1 : pm_H), (k ≤ R * C) → (zFr [8, 9] [(5, 4)] ph ph1) → (zc ph1 5 4 = some (.long (x ||| (Int64.ofNat kG1 <<< ((zn f).toInt64 &&& 63))))) → (∀ w, w < 8 → zc ph1 8 (8 * f + w) = some (.long (zS (zTw C rk f w) k))) → (∀ d, d < 7 → zc ph1 9 (7 * f + d) = some (.long (zS (zWi C f d) k))) → (∀ i, i < 8 * f ∨ 8 * f + 8 ≤ i → zc ph1 8 i = zc ph 8 i) → (∀ i, i < 7 * f ∨ 7 * f + 7 ≤ i → zc ph1 9 i = zc ph 9 i) → zW n D 49 Q 66 [some (.ref 5), some (.int (zn f)), some (.int (zn k)), x3, x4, x5, x6] [] ph1 := by
    intro n
    induction n using Nat.strongRecOn with
    | ind n ih =>
      intro k x3 x4 x5 x6 ph1 hk hf1 h54 h8 h9 o8 o9
      have tk := znt (k := k) (by omega)
      refine w_load (pc' := 67) (v := .int (zn k)) (m := 1) (ykc_49 (e := (2, .iload_n kF2, 0)) rfl) rfl rfl ?_
      refine w_load (pc' := 68) (v := .ref 5) (m := 1) (ykc_49 (e := (2, .aload_n kF0, 0)) rfl) rfl rfl ?_
      refine w_gf (pc' := 71) (v := .int (zn (R * C))) (ykc_49 (e := (5, .getfield 60, 0)) rfl) rfl ((hf1.1 5 2 (by decide) (by decide)).trans gN) rfl ?_
      refine w_ige (ykc_49 (e := (4, .if_icmp .ge 134, 205)) rfl) rfl (fun b560 => ?_) (fun b560 => ?_)
      · refine w_ret (v := none) (ykc_49 (e := (7, .return_, 0)) rfl) (zr_v rfl) ?_
        have ek : k = R * C := by omega
        subst ek
        rw [hQ]
        exact ⟨rfl, hf1, h54, h8, h9, o8, o9⟩
      · refine w_load (pc' := 75) (v := .int (zn k)) (m := 1) (ykc_49 (e := (2, .iload_n kF2, 0)) rfl) rfl rfl ?_
        refine w_push (pc' := 77) (v := .int ((Int8.ofInt 49).toInt32)) (m := 2) (ykc_49 (e := (1, .bipush 49, 0)) rfl) rfl rfl ?_
        refine w_ige (ykc_49 (e := (4, .if_icmp .ge 128, 205)) rfl) rfl (fun q => by exfalso; omega) (fun b561 => ?_)
        refine w_load (pc' := 81) (v := .int (zn k)) (m := 1) (ykc_49 (e := (2, .iload_n kF2, 0)) rfl) rfl rfl ?_
        refine w_load (pc' := 82) (v := .int (zn f)) (m := 1) (ykc_49 (e := (2, .iload_n kF1, 0)) rfl) rfl rfl ?_
        refine w_ine (ykc_49 (e := (4, .if_icmp .ne 6, 88)) rfl) rfl (fun b562 => ?_) (fun b562 => ?_)
        · refine w_load (pc' := 89) (v := .ref 5) (m := 1) (ykc_49 (e := (2, .aload_n kF0, 0)) rfl) rfl rfl ?_
          refine w_gf (pc' := 92) (v := .ref 6) (ykc_49 (e := (5, .getfield 9, 0)) rfl) rfl ((hf1.1 5 5 (by decide) (by decide)).trans (zsg hS zs_5_5)) rfl ?_
          refine w_load (pc' := 93) (v := .int (zn k)) (m := 1) (ykc_49 (e := (2, .iload_n kF2, 0)) rfl) rfl rfl ?_
          have q563 : k / C < R := (Nat.div_lt_iff_lt_mul (by omega)).mpr (show k < R * C by omega)
          have zq563 := Nat.zero_le (k / C)
          have tq563 := znt (k := k / C) (by omega)
          refine w_ialk (pc' := 94) (k := k) (ykc_49 (e := (5, .iaload, 0)) rfl) ((hf1.1 6 k (by decide) (by simp)).trans (gA k (by omega)).1) (by omega) rfl ?_
          refine w_load (pc' := 95) (v := .ref 5) (m := 1) (ykc_49 (e := (2, .aload_n kF0, 0)) rfl) rfl rfl ?_
          refine w_gf (pc' := 98) (v := .ref 6) (ykc_49 (e := (5, .getfield 9, 0)) rfl) rfl ((hf1.1 5 5 (by decide) (by decide)).trans (zsg hS zs_5_5)) rfl ?_
          refine w_load (pc' := 99) (v := .int (zn f)) (m := 1) (ykc_49 (e := (2, .iload_n kF1, 0)) rfl) rfl rfl ?_
          have q564 : f / C < R := (Nat.div_lt_iff_lt_mul (by omega)).mpr (show f < R * C by omega)
          have zq564 := Nat.zero_le (f / C)
          have tq564 := znt (k := f / C) (by omega)
          refine w_ialk (pc' := 100) (k := f) (ykc_49 (e := (5, .iaload, 0)) rfl) ((hf1.1 6 f (by decide) (by simp)).trans (gA f (by omega)).1) (by omega) rfl ?_
          obtain ⟨z565, e_z565, h_z565⟩ : ∃ zq : Int32, (zn (k / C)) - (zn (f / C)) = zq ∧ zq.toInt = ((k / C : Nat) : Int) - ((f / C : Nat) : Int) := ⟨_, rfl, (by have := ti_sub (x := (zn (k / C))) (y := (zn (f / C))) (by omega) (by omega); omega)⟩
          refine w_alu (pc' := 101) (st' := [.int z565]) (ykc_49 (e := (0, .isub, 0)) rfl) (by rw [← e_z565]; rfl) rfl ?_
          refine w_store (pc' := 102) (L' := [some (.ref 5), some (.int (zn f)), some (.int (zn k)), some (.int z565), x4, x5, x6]) (st' := []) (m := 1) (ykc_49 (e := (3, .istore_n kF3, 0)) rfl) rfl rfl ?_
          refine w_load (pc' := 103) (v := .ref 5) (m := 1) (ykc_49 (e := (2, .aload_n kF0, 0)) rfl) rfl rfl ?_
          refine w_gf (pc' := 106) (v := .ref 7) (ykc_49 (e := (5, .getfield 15, 0)) rfl) rfl ((hf1.1 5 6 (by decide) (by decide)).trans (zsg hS zs_5_6)) rfl ?_
          refine w_load (pc' := 107) (v := .int (zn k)) (m := 1) (ykc_49 (e := (2, .iload_n kF2, 0)) rfl) rfl rfl ?_
          have q566 := Nat.mod_lt (k) (show 0 < C by omega)
          have zq566 := Nat.zero_le (k % C)
          have tq566 := znt (k := k % C) (by omega)
          refine w_ialk (pc' := 108) (k := k) (ykc_49 (e := (5, .iaload, 0)) rfl) ((hf1.1 7 k (by decide) (by simp)).trans (gA k (by omega)).2) (by omega) rfl ?_
          refine w_load (pc' := 109) (v := .ref 5) (m := 1) (ykc_49 (e := (2, .aload_n kF0, 0)) rfl) rfl rfl ?_
          refine w_gf (pc' := 112) (v := .ref 7) (ykc_49 (e := (5, .getfield 15, 0)) rfl) rfl ((hf1.1 5 6 (by decide) (by decide)).trans (zsg hS zs_5_6)) rfl ?_
          refine w_load (pc' := 113) (v := .int (zn f)) (m := 1) (ykc_49 (e := (2, .iload_n kF1, 0)) rfl) rfl rfl ?_
          have q567 := Nat.mod_lt (f) (show 0 < C by omega)
          have zq567 := Nat.zero_le (f % C)
          have tq567 := znt (k := f % C) (by omega)
          refine w_ialk (pc' := 114) (k := f) (ykc_49 (e := (5, .iaload, 0)) rfl) ((hf1.1 7 f (by decide) (by simp)).trans (gA f (by omega)).2) (by omega) rfl ?_
          obtain ⟨z568, e_z568, h_z568⟩ : ∃ zq : Int32, (zn (k % C)) - (zn (f % C)) = zq ∧ zq.toInt = ((k % C : Nat) : Int) - ((f % C : Nat) : Int) := ⟨_, rfl, (by have := ti_sub (x := (zn (k % C))) (y := (zn (f % C))) (by omega) (by omega); omega)⟩
          refine w_alu (pc' := 115) (st' := [.int z568]) (ykc_49 (e := (0, .isub, 0)) rfl) (by rw [← e_z568]; rfl) rfl ?_
          refine w_store (pc' := 117) (L' := [some (.ref 5), some (.int (zn f)), some (.int (zn k)), some (.int z565), some (.int z568), x5, x6]) (st' := []) (m := 2) (ykc_49 (e := (3, .istore 4, 0)) rfl) rfl rfl ?_
          refine w_load (pc' := 118) (v := .int z565) (m := 1) (ykc_49 (e := (2, .iload_n kF3, 0)) rfl) rfl rfl ?_
          obtain ⟨z569, e_z569⟩ : ∃ zq : Int32, (if 0 ≤ z565 then z565 else 0 - z565) = zq := ⟨_, rfl⟩
          have h_z569 := zabsI e_z569
          refine w_mem1 (pc' := 121) (m := 3) (st' := [.int z569]) (ph' := ph1) (ykc_49 (e := (5, .invokestatic 100, 0)) rfl) (by rw [← e_z569]; rfl) rfl ?_
          refine w_load (pc' := 123) (v := .int z568) (m := 2) (ykc_49 (e := (2, .iload 4, 0)) rfl) rfl rfl ?_
          obtain ⟨z570, e_z570⟩ : ∃ zq : Int32, (if 0 ≤ z568 then z568 else 0 - z568) = zq := ⟨_, rfl⟩
          have h_z570 := zabsI e_z570
          refine w_mem1 (pc' := 126) (m := 3) (st' := [.int z570, .int z569]) (ph' := ph1) (ykc_49 (e := (5, .invokestatic 100, 0)) rfl) (by rw [← e_z570]; rfl) rfl ?_
          obtain ⟨z571, e_z571⟩ : ∃ zq : Int32, (if z569 < z570 then z570 else z569) = zq := ⟨_, rfl⟩
          have h_z571 := zmaxI e_z571
          refine w_mem1 (pc' := 129) (m := 3) (st' := [.int z571]) (ph' := ph1) (ykc_49 (e := (5, .invokestatic 97, 0)) rfl) (by rw [← e_z571]; rfl) rfl ?_
          refine w_store (pc' := 131) (L' := [some (.ref 5), some (.int (zn f)), some (.int (zn k)), some (.int z565), some (.int z568), some (.int z571), x6]) (st' := []) (m := 2) (ykc_49 (e := (3, .istore 5, 0)) rfl) rfl rfl ?_
          refine w_load (pc' := 133) (v := .int z571) (m := 2) (ykc_49 (e := (2, .iload 5, 0)) rfl) rfl rfl ?_
          refine w_store (pc' := 135) (L' := [some (.ref 5), some (.int (zn f)), some (.int (zn k)), some (.int z565), some (.int z568), some (.int z571), some (.int z571)]) (st' := []) (m := 2) (ykc_49 (e := (3, .istore 6, 0)) rfl) rfl rfl ?_
          have hne : f ≠ k := by omega
          have hkR : k < R * C := by omega
          have g1 : k / C < R := (Nat.div_lt_iff_lt_mul (by omega)).mpr hkR
          have g2 := Nat.mod_lt k (show 0 < C by omega)
          have er : zgr C f k = ((k / C : Nat) : Int) - (f / C : Nat) := rfl
          have ec : zgc C f k = ((k % C : Nat) : Int) - (f % C : Nat) := rfl
          have eds : zds C f k = max (zgr C f k).natAbs (zgc C f k).natAbs := rfl
          have hd6 := zds_6 (by omega) hC7 hR7 hf hkR
          have hd1 := zds_1 (C := C) (by omega) hne
          have tfa : z571.toInt = ((zds C f k : Nat) : Int) := by omega
          have ddn : z565.toInt = zgr C f k := by omega
          have drt : z568.toInt = zgc C f k := by omega
          obtain rfl := zn_of tfa
          have er2 := er
          have ec2 := ec
          clear eds
          have hD : ∀ (n572 : Nat), n572 ≤ n → ∀ (d : Nat) (ph2 : pm_H), zds C f k ≤ d → d ≤ 7 → zFr [8, 9] [(5, 4)] ph ph2 → zc ph2 5 4 = some (.long (x ||| (Int64.ofNat kG1 <<< ((zn f).toInt64 &&& 63)))) → (∀ i, zc ph2 8 i = zc ph1 8 i) → (∀ e, e < 7 → zc ph2 9 (7 * f + e) = some (.long (if zds C f k ≤ e ∧ e < d then zS (zWi C f e) (k + 1) else zS (zWi C f e) k))) → (∀ i, i < 7 * f ∨ 7 * f + 7 ≤ i → zc ph2 9 i = zc ph 9 i) → zW n572 D 49 Q 135 [some (.ref 5), some (.int (zn f)), some (.int (zn k)), some (.int z565), some (.int z568), some (.int (zn (zds C f k))), some (.int (zn d))] [] ph2 := by
            intro n572
            induction n572 using Nat.strongRecOn with
            | ind n572 ihD =>
              intro hnD d ph2 hd hd7 hf2 h542 e8 e9 p9
              have td := znt (k := d) (by omega)
              refine w_load (pc' := 137) (v := .int (zn d)) (m := 2) (ykc_49 (e := (2, .iload 6, 0)) rfl) rfl rfl ?_
              refine w_push (pc' := 139) (v := .int ((Int8.ofInt 7).toInt32)) (m := 2) (ykc_49 (e := (1, .bipush 7, 0)) rfl) rfl rfl ?_
              refine w_ige (ykc_49 (e := (4, .if_icmp .ge 27, 166)) rfl) rfl (fun b573 => ?_) (fun b573 => ?_)
              · refine w_load (pc' := 167) (v := .ref 5) (m := 1) (ykc_49 (e := (2, .aload_n kF0, 0)) rfl) rfl rfl ?_
                refine w_load (pc' := 168) (v := .int (zn f)) (m := 1) (ykc_49 (e := (2, .iload_n kF1, 0)) rfl) rfl rfl ?_
                refine w_load (pc' := 169) (v := .int z565) (m := 1) (ykc_49 (e := (2, .iload_n kF3, 0)) rfl) rfl rfl ?_
                refine w_load (pc' := 171) (v := .int z568) (m := 2) (ykc_49 (e := (2, .iload 4, 0)) rfl) rfl rfl ?_
                refine w_cv (as := [.ref 5, .int (zn f), .int z565, .int z568]) (r := []) (ykc_49 (e := (6, .invokevirtual 103, 0)) rfl) rfl rfl rfl rfl (zc_clear (zCy_S hf2 hS) (zCy_l hf2 hL0) (f := f) (g := k) (by omega) (by omega) (by omega) (by omega) (by omega)) (fun v574 ph575 hv => ?_)
                obtain ⟨rfl, rfl⟩ := hv
                show zW n572 D 49 Q 174 [some (.ref 5), some (.int (zn f)), some (.int (zn k)), some (.int z565), some (.int z568), some (.int (zn (zds C f k))), some (.int (zn d))] [.int (zI (zclr C rk f k 7))] ph2
                refine w_beq (ykc_49 (e := (4, .ifCond .eq 25, 199)) rfl) rfl (fun b576 => ?_) (fun b576 => ?_)
                · have e577 : (zn k) + Int32.ofInt 1 = zn (k + 1) := (zaddN (a := k) (b := 1) (znt (by omega)) c_4 (by omega))
                  have te577 := znt (k := k + 1) (by omega)
                  refine w_store (pc' := 202) (L' := [some (.ref 5), some (.int (zn f)), some (.int (zn (k + 1))), some (.int z565), some (.int z568), some (.int (zn (zds C f k))), some (.int (zn d))]) (st' := []) (m := 3) (ykc_49 (e := (3, .iinc 2 1, 0)) rfl) (by rw [← e577]; rfl) rfl ?_
                  refine w_gb (ykc_49 (e := (4, .goto (-136), 66)) rfl) (fun k578 hk578 => ?_)
                  have hcl : zclr C rk f k 7 = false := b576
                  exact ih k578 (by omega) (k + 1) _ _ _ _ _ (by omega) hf2 h542 (fun w hw => by
                    rw [zS_s, show zTw C rk f w k = false by unfold zTw; rw [hcl]; simp, cond_false, zor0]
                    exact (e8 _).trans (h8 w hw)) (fun e he => by
                    have h := e9 e he
                    by_cases q2 : zds C f k ≤ e
                    · rw [if_pos ⟨q2, by omega⟩] at h
                      exact h
                    · rw [if_neg (fun q => q2 q.1)] at h
                      rw [zS_s, show zWi C f e k = false by unfold zWi; rw [decide_eq_false q2]; simp, cond_false, zor0]
                      exact h) (fun i hi => (e8 i).trans (o8 i hi)) p9
                · refine w_load (pc' := 178) (v := .ref 5) (m := 1) (ykc_49 (e := (2, .aload_n kF0, 0)) rfl) rfl rfl ?_
                  refine w_gf (pc' := 181) (v := .ref 8) (ykc_49 (e := (5, .getfield 18, 0)) rfl) rfl ((hf2.1 5 7 (by decide) (by decide)).trans (zsg hS zs_5_7)) rfl ?_
                  refine w_load (pc' := 182) (v := .int (zn f)) (m := 1) (ykc_49 (e := (2, .iload_n kF1, 0)) rfl) rfl rfl ?_
                  refine w_push (pc' := 184) (v := .int ((Int8.ofInt 8).toInt32)) (m := 2) (ykc_49 (e := (1, .bipush 8, 0)) rfl) rfl rfl ?_
                  have e579 : (zn f) * ((Int8.ofInt 8).toInt32) = zn (8 * f) := (zmulK (a := f) (b := 8) (znt (by omega)) c_2 (by omega))
                  have te579 := znt (k := 8 * f) (by omega)
                  refine w_alu (pc' := 185) (st' := [.int (zn (8 * f)), .ref 8]) (ykc_49 (e := (0, .imul, 0)) rfl) (by show some ([.int ((zn f) * ((Int8.ofInt 8).toInt32)), .ref 8] : List Value) = _; rw [e579]) rfl ?_
                  refine w_load (pc' := 186) (v := .int z565) (m := 1) (ykc_49 (e := (2, .iload_n kF3, 0)) rfl) rfl rfl ?_
                  refine w_load (pc' := 188) (v := .int z568) (m := 2) (ykc_49 (e := (2, .iload 4, 0)) rfl) rfl rfl ?_
                  refine w_cs (as := [.int z565, .int z568]) (r := [.int (zn (8 * f)), .ref 8]) (ykc_49 (e := (6, .invokestatic 107, 0)) rfl) rfl rfl rfl rfl (zc_way (d := zgr C f k) (r := zgc C f k) (by omega) (by omega) (by omega) (by omega) (by omega) (by omega) (by omega)) (fun v580 ph581 hv => ?_)
                  obtain ⟨rfl, rfl⟩ := hv
                  have tw8 := @zway_lt (zgr C f k) (zgc C f k)
                  have tw := znt (k := zway (zgr C f k) (zgc C f k)) (by omega)
                  show zW n572 D 49 Q 191 [some (.ref 5), some (.int (zn f)), some (.int (zn k)), some (.int z565), some (.int z568), some (.int (zn (zds C f k))), some (.int (zn d))] [.int (zn (zway (zgr C f k) (zgc C f k))), .int (zn (8 * f)), .ref 8] ph2
                  have e582 : (zn (8 * f)) + (zn (zway (zgr C f k) (zgc C f k))) = zn (8 * f + (zway (zgr C f k) (zgc C f k))) := (zaddN (a := 8 * f) (b := zway (zgr C f k) (zgc C f k)) (znt (by omega)) (znt (by omega)) (by omega)) 
                  have te582 := znt (k := 8 * f + (zway (zgr C f k) (zgc C f k))) (by omega)
                  refine w_alu (pc' := 192) (st' := [.int (zn (8 * f + (zway (zgr C f k) (zgc C f k)))), .ref 8]) (ykc_49 (e := (0, .iadd, 0)) rfl) (by rw [← e582]; rfl) rfl ?_
                  refine w_alu (pc' := 193) (st' := [.int (zn (8 * f + (zway (zgr C f k) (zgc C f k)))), .ref 8, .int (zn (8 * f + (zway (zgr C f k) (zgc C f k)))), .ref 8]) (ykc_49 (e := (0, .dup2, 0)) rfl) rfl rfl ?_
                  refine w_lalk (pc' := 194) (k := 8 * f + (zway (zgr C f k) (zgc C f k))) (ykc_49 (e := (5, .laload, 0)) rfl) ((e8 _).trans (h8 _ (by omega))) (by omega) rfl ?_
                  refine w_alu (pc' := 195) (st' := [.long (Int64.ofNat kG1), .long (zS (zTw C rk f (zway (zgr C f k) (zgc C f k))) k), .int (zn (8 * f + (zway (zgr C f k) (zgc C f k)))), .ref 8]) (ykc_49 (e := (0, .lconst kG1, 0)) rfl) rfl rfl ?_
                  refine w_load (pc' := 196) (v := .int (zn k)) (m := 1) (ykc_49 (e := (2, .iload_n kF2, 0)) rfl) rfl rfl ?_
                  refine w_alu (pc' := 197) (st' := [.long ((Int64.ofNat kG1) <<< ((zn k).toInt64 &&& 63)), .long (zS (zTw C rk f (zway (zgr C f k) (zgc C f k))) k), .int (zn (8 * f + (zway (zgr C f k) (zgc C f k)))), .ref 8]) (ykc_49 (e := (0, .lshl, 0)) rfl) rfl rfl ?_
                  refine w_alu (pc' := 198) (st' := [.long ((zS (zTw C rk f (zway (zgr C f k) (zgc C f k))) k) ||| ((Int64.ofNat kG1) <<< ((zn k).toInt64 &&& 63))), .int (zn (8 * f + (zway (zgr C f k) (zgc C f k)))), .ref 8]) (ykc_49 (e := (0, .lor, 0)) rfl) rfl rfl ?_
                  refine w_las (pc' := 199) (k := 8 * f + (zway (zgr C f k) (zgc C f k))) (ykc_49 (e := (5, .lastore, 0)) rfl) (by omega) rfl (fun ph584 u583 => ?_)
                  have e585 : (zn k) + Int32.ofInt 1 = zn (k + 1) := (zaddN (a := k) (b := 1) (znt (by omega)) c_4 (by omega))
                  have te585 := znt (k := k + 1) (by omega)
                  refine w_store (pc' := 202) (L' := [some (.ref 5), some (.int (zn f)), some (.int (zn (k + 1))), some (.int z565), some (.int z568), some (.int (zn (zds C f k))), some (.int (zn d))]) (st' := []) (m := 3) (ykc_49 (e := (3, .iinc 2 1, 0)) rfl) (by rw [← e585]; rfl) rfl ?_
                  refine w_gb (ykc_49 (e := (4, .goto (-136), 66)) rfl) (fun k586 hk586 => ?_)
                  have hcl : zclr C rk f k 7 = true := b576
                  exact ih k586 (by omega) (k + 1) _ _ _ _ _ (by omega) (zFr_add hf2 u583 (Or.inl (by simp))) ((u583.2.1 5 4 (fun q => absurd q.1 (by decide))).trans h542) (fun w hw => by
                    by_cases q1 : w = zway (zgr C f k) (zgc C f k)
                    · rw [q1, zS_s, show zTw C rk f (zway (zgr C f k) (zgc C f k)) k = true by unfold zTw; rw [decide_eq_false (fun q => hne q.symm), hcl, decide_eq_true rfl]; rfl, cond_true]
                      exact u583.1
                    · rw [zS_s, show zTw C rk f w k = false by unfold zTw; rw [decide_eq_false (show ¬ zway (zgr C f k) (zgc C f k) = w from fun q => q1 q.symm)]; simp, cond_false, zor0]
                      exact (u583.2.1 8 (8 * f + w) (fun q => q1 (by have q2 := q.2; omega))).trans ((e8 _).trans (h8 w hw))) (fun e he => by
                    refine (u583.2.1 9 (7 * f + e) (fun q => absurd q.1 (by decide))).trans ?_
                    have h := e9 e he
                    by_cases q2 : zds C f k ≤ e
                    · rw [if_pos ⟨q2, by omega⟩] at h
                      exact h
                    · rw [if_neg (fun q => q2 q.1)] at h
                      rw [zS_s, show zWi C f e k = false by unfold zWi; rw [decide_eq_false q2]; simp, cond_false, zor0]
                      exact h) (fun i hi => (u583.2.1 8 i (fun q => by have q2 := q.2; omega)).trans ((e8 i).trans (o8 i hi))) (fun i hi => (u583.2.1 9 i (fun q => absurd q.1 (by decide))).trans (p9 i hi))
              · refine w_load (pc' := 143) (v := .ref 5) (m := 1) (ykc_49 (e := (2, .aload_n kF0, 0)) rfl) rfl rfl ?_
                refine w_gf (pc' := 146) (v := .ref 9) (ykc_49 (e := (5, .getfield 22, 0)) rfl) rfl ((hf2.1 5 8 (by decide) (by decide)).trans (zsg hS zs_5_8)) rfl ?_
                refine w_load (pc' := 147) (v := .int (zn f)) (m := 1) (ykc_49 (e := (2, .iload_n kF1, 0)) rfl) rfl rfl ?_
                refine w_push (pc' := 149) (v := .int ((Int8.ofInt 7).toInt32)) (m := 2) (ykc_49 (e := (1, .bipush 7, 0)) rfl) rfl rfl ?_
                have e587 : (zn f) * ((Int8.ofInt 7).toInt32) = zn (7 * f) := (zmulK (a := f) (b := 7) (znt (by omega)) c_1 (by omega))
                have te587 := znt (k := 7 * f) (by omega)
                refine w_alu (pc' := 150) (st' := [.int (zn (7 * f)), .ref 9]) (ykc_49 (e := (0, .imul, 0)) rfl) (by show some ([.int ((zn f) * ((Int8.ofInt 7).toInt32)), .ref 9] : List Value) = _; rw [e587]) rfl ?_
                refine w_load (pc' := 152) (v := .int (zn d)) (m := 2) (ykc_49 (e := (2, .iload 6, 0)) rfl) rfl rfl ?_
                have e588 : (zn (7 * f)) + (zn d) = zn (7 * f + d) := (zaddN (a := 7 * f) (b := d) (znt (by omega)) (znt (by omega)) (by omega)) 
                have te588 := znt (k := 7 * f + d) (by omega)
                refine w_alu (pc' := 153) (st' := [.int (zn (7 * f + d)), .ref 9]) (ykc_49 (e := (0, .iadd, 0)) rfl) (by rw [← e588]; rfl) rfl ?_
                refine w_alu (pc' := 154) (st' := [.int (zn (7 * f + d)), .ref 9, .int (zn (7 * f + d)), .ref 9]) (ykc_49 (e := (0, .dup2, 0)) rfl) rfl rfl ?_
                refine w_lalk (pc' := 155) (k := 7 * f + d) (ykc_49 (e := (5, .laload, 0)) rfl) (by have h := e9 d (by omega); rwa [if_neg (by omega)] at h) (by omega) rfl ?_
                refine w_alu (pc' := 156) (st' := [.long (Int64.ofNat kG1), .long (zS (zWi C f d) k), .int (zn (7 * f + d)), .ref 9]) (ykc_49 (e := (0, .lconst kG1, 0)) rfl) rfl rfl ?_
                refine w_load (pc' := 157) (v := .int (zn k)) (m := 1) (ykc_49 (e := (2, .iload_n kF2, 0)) rfl) rfl rfl ?_
                refine w_alu (pc' := 158) (st' := [.long ((Int64.ofNat kG1) <<< ((zn k).toInt64 &&& 63)), .long (zS (zWi C f d) k), .int (zn (7 * f + d)), .ref 9]) (ykc_49 (e := (0, .lshl, 0)) rfl) rfl rfl ?_
                refine w_alu (pc' := 159) (st' := [.long ((zS (zWi C f d) k) ||| ((Int64.ofNat kG1) <<< ((zn k).toInt64 &&& 63))), .int (zn (7 * f + d)), .ref 9]) (ykc_49 (e := (0, .lor, 0)) rfl) rfl rfl ?_
                refine w_las (pc' := 160) (k := 7 * f + d) (ykc_49 (e := (5, .lastore, 0)) rfl) (by omega) rfl (fun ph590 u589 => ?_)
                have e591 : (zn d) + Int32.ofInt 1 = zn (d + 1) := (zaddN (a := d) (b := 1) (znt (by omega)) c_4 (by omega))
                have te591 := znt (k := d + 1) (by omega)
                refine w_store (pc' := 163) (L' := [some (.ref 5), some (.int (zn f)), some (.int (zn k)), some (.int z565), some (.int z568), some (.int (zn (zds C f k))), some (.int (zn (d + 1)))]) (st' := []) (m := 3) (ykc_49 (e := (3, .iinc 6 1, 0)) rfl) (by rw [← e591]; rfl) rfl ?_
                refine w_gb (ykc_49 (e := (4, .goto (-28), 135)) rfl) (fun k592 hk592 => ?_)
                exact ihD k592 hk592 (by omega) (d + 1) _ (by omega) (by omega) (zFr_add hf2 u589 (Or.inl (by simp))) ((u589.2.1 5 4 (fun q => absurd q.1 (by decide))).trans h542) (fun i => (u589.2.1 8 i (fun q => absurd q.1 (by decide))).trans (e8 i)) (fun e he => by
                  by_cases q1 : e = d
                  · subst q1
                    rw [if_pos (by omega), zS_s, show zWi C f e k = true by unfold zWi; rw [decide_eq_false (fun q => hne q.symm), decide_eq_true hd]; rfl, cond_true]
                    exact u589.1
                  · refine (u589.2.1 9 (7 * f + e) (fun q => q1 (by have q2 := q.2; omega))).trans ((e9 e he).trans ?_)
                    by_cases q2 : zds C f k ≤ e ∧ e < d
                    · rw [if_pos q2, if_pos (by omega)]
                    · rw [if_neg q2, if_neg (by omega)]) (fun i hi => (u589.2.1 9 i (fun q => by have q2 := q.2; omega)).trans (p9 i hi))
          exact hD n (Nat.le_refl _) (zds C f k) ph1 (by omega) (by omega) hf1 h54 (fun i => rfl) (fun e he => by rw [if_neg (by omega)]; exact h9 e he) o9
        · refine w_br (pc' := 199) (st' := []) (ykc_49 (e := (4, .goto 114, 199)) rfl) rfl ?_
          have e593 : (zn k) + Int32.ofInt 1 = zn (k + 1) := (zaddN (a := k) (b := 1) (znt (by omega)) c_4 (by omega))
          have te593 := znt (k := k + 1) (by omega)
          refine w_store (pc' := 202) (L' := [some (.ref 5), some (.int (zn f)), some (.int (zn (k + 1))), x3, x4, x5, x6]) (st' := []) (m := 3) (ykc_49 (e := (3, .iinc 2 1, 0)) rfl) (by rw [← e593]; rfl) rfl ?_
          refine w_gb (ykc_49 (e := (4, .goto (-136), 66)) rfl) (fun k594 hk594 => ?_)
          have ekf : k = f := by omega
          exact ih k594 hk594 (k + 1) _ _ _ _ ph1 (by omega) hf1 h54 (fun w hw => by
            rw [zS_s, show zTw C rk f w k = false by unfold zTw; rw [decide_eq_true ekf]; rfl, cond_false, zor0]
            exact h8 w hw) (fun d hd => by
            rw [zS_s, show zWi C f d k = false by unfold zWi; rw [decide_eq_true ekf]; rfl, cond_false, zor0]
            exact h9 d hd) o8 o9
  have hB : ∀ (n : Nat), ∀ (k : Nat) (ph1 : pm_H), (k ≤ 7) → (zFr [8, 9] [(5, 4)] ph ph1) → (zc ph1 5 4 = some (.long (x ||| (Int64.ofNat kG1 <<< ((zn f).toInt64 &&& 63))))) → (∀ w, w < 8 → zc ph1 8 (8 * f + w) = some (.long (Int64.ofNat kG0))) → (∀ d, d < k → zc ph1 9 (7 * f + d) = some (.long (Int64.ofNat kG0))) → (∀ i, i < 8 * f ∨ 8 * f + 8 ≤ i → zc ph1 8 i = zc ph 8 i) → (∀ i, i < 7 * f ∨ 7 * f + 7 ≤ i → zc ph1 9 i = zc ph 9 i) → zW n D 49 Q 40 [some (.ref 5), some (.int (zn f)), some (.int (zn k)), none, none, none, none] [] ph1 := by
    intro n
    induction n using Nat.strongRecOn with
    | ind n ih =>
      intro k ph1 hk hf1 h54 h8 h9 o8 o9
      have tk := znt (k := k) (by omega)
      refine w_load (pc' := 41) (v := .int (zn k)) (m := 1) (ykc_49 (e := (2, .iload_n kF2, 0)) rfl) rfl rfl ?_
      refine w_push (pc' := 43) (v := .int ((Int8.ofInt 7).toInt32)) (m := 2) (ykc_49 (e := (1, .bipush 7, 0)) rfl) rfl rfl ?_
      refine w_ige (ykc_49 (e := (4, .if_icmp .ge 21, 64)) rfl) rfl (fun b595 => ?_) (fun b595 => ?_)
      · refine w_alu (pc' := 65) (st' := [.int (Int32.ofInt 0)]) (ykc_49 (e := (0, .iconst 0, 0)) rfl) rfl rfl ?_
        refine w_store (pc' := 66) (L' := [some (.ref 5), some (.int (zn f)), some (.int (Int32.ofInt 0)), none, none, none, none]) (st' := []) (m := 1) (ykc_49 (e := (3, .istore_n kF2, 0)) rfl) rfl rfl ?_
        exact hC n 0 _ _ _ _ ph1 (Nat.zero_le _) hf1 h54 h8 (fun d hd => h9 d (by omega)) o8 o9
      · refine w_load (pc' := 47) (v := .ref 5) (m := 1) (ykc_49 (e := (2, .aload_n kF0, 0)) rfl) rfl rfl ?_
        refine w_gf (pc' := 50) (v := .ref 9) (ykc_49 (e := (5, .getfield 22, 0)) rfl) rfl ((hf1.1 5 8 (by decide) (by decide)).trans (zsg hS zs_5_8)) rfl ?_
        refine w_load (pc' := 51) (v := .int (zn f)) (m := 1) (ykc_49 (e := (2, .iload_n kF1, 0)) rfl) rfl rfl ?_
        refine w_push (pc' := 53) (v := .int ((Int8.ofInt 7).toInt32)) (m := 2) (ykc_49 (e := (1, .bipush 7, 0)) rfl) rfl rfl ?_
        have e596 : (zn f) * ((Int8.ofInt 7).toInt32) = zn (7 * f) := (zmulK (a := f) (b := 7) (znt (by omega)) c_1 (by omega))
        have te596 := znt (k := 7 * f) (by omega)
        refine w_alu (pc' := 54) (st' := [.int (zn (7 * f)), .ref 9]) (ykc_49 (e := (0, .imul, 0)) rfl) (by show some ([.int ((zn f) * ((Int8.ofInt 7).toInt32)), .ref 9] : List Value) = _; rw [e596]) rfl ?_
        refine w_load (pc' := 55) (v := .int (zn k)) (m := 1) (ykc_49 (e := (2, .iload_n kF2, 0)) rfl) rfl rfl ?_
        have e597 : (zn (7 * f)) + (zn k) = zn (7 * f + k) := (zaddN (a := 7 * f) (b := k) (znt (by omega)) (znt (by omega)) (by omega)) 
        have te597 := znt (k := 7 * f + k) (by omega)
        refine w_alu (pc' := 56) (st' := [.int (zn (7 * f + k)), .ref 9]) (ykc_49 (e := (0, .iadd, 0)) rfl) (by rw [← e597]; rfl) rfl ?_
        refine w_alu (pc' := 57) (st' := [.long (Int64.ofNat kG0), .int (zn (7 * f + k)), .ref 9]) (ykc_49 (e := (0, .lconst kG0, 0)) rfl) rfl rfl ?_
        refine w_las (pc' := 58) (k := 7 * f + k) (ykc_49 (e := (5, .lastore, 0)) rfl) (by omega) rfl (fun ph599 u598 => ?_)
        have e600 : (zn k) + Int32.ofInt 1 = zn (k + 1) := (zaddN (a := k) (b := 1) (znt (by omega)) c_4 (by omega))
        have te600 := znt (k := k + 1) (by omega)
        refine w_store (pc' := 61) (L' := [some (.ref 5), some (.int (zn f)), some (.int (zn (k + 1))), none, none, none, none]) (st' := []) (m := 3) (ykc_49 (e := (3, .iinc 2 1, 0)) rfl) (by rw [← e600]; rfl) rfl ?_
        refine w_gb (ykc_49 (e := (4, .goto (-21), 40)) rfl) (fun k601 hk601 => ?_)
        exact ih k601 hk601 (k + 1) _ (by omega) (zFr_add hf1 u598 (Or.inl (by simp))) ((u598.2.1 5 4 (fun q => absurd q.1 (by decide))).trans h54) (fun w hw => (u598.2.1 8 _ (fun q => absurd q.1 (by decide))).trans (h8 w hw)) (fun d hd => by
          by_cases q1 : d = k
          · subst q1
            exact u598.1
          · exact (u598.2.1 9 (7 * f + d) (fun q => q1 (by have q2 := q.2; omega))).trans (h9 d (by omega))) (fun i hi => (u598.2.1 8 i (fun q => absurd q.1 (by decide))).trans (o8 i hi)) (fun i hi => (u598.2.1 9 i (fun q => by have q2 := q.2; omega)).trans (o9 i hi))
  have hA : ∀ (n : Nat), ∀ (k : Nat) (ph1 : pm_H), (k ≤ 8) → (zFr [8, 9] [(5, 4)] ph ph1) → (zc ph1 5 4 = some (.long (x ||| (Int64.ofNat kG1 <<< ((zn f).toInt64 &&& 63))))) → (∀ w, w < k → zc ph1 8 (8 * f + w) = some (.long (Int64.ofNat kG0))) → (∀ i, i < 8 * f ∨ 8 * f + 8 ≤ i → zc ph1 8 i = zc ph 8 i) → (∀ i, zc ph1 9 i = zc ph 9 i) → zW n D 49 Q 14 [some (.ref 5), some (.int (zn f)), some (.int (zn k)), none, none, none, none] [] ph1 := by
    intro n
    induction n using Nat.strongRecOn with
    | ind n ih =>
      intro k ph1 hk hf1 h54 h8 o8 o9
      have tk := znt (k := k) (by omega)
      refine w_load (pc' := 15) (v := .int (zn k)) (m := 1) (ykc_49 (e := (2, .iload_n kF2, 0)) rfl) rfl rfl ?_
      refine w_push (pc' := 17) (v := .int ((Int8.ofInt 8).toInt32)) (m := 2) (ykc_49 (e := (1, .bipush 8, 0)) rfl) rfl rfl ?_
      refine w_ige (ykc_49 (e := (4, .if_icmp .ge 21, 38)) rfl) rfl (fun b602 => ?_) (fun b602 => ?_)
      · refine w_alu (pc' := 39) (st' := [.int (Int32.ofInt 0)]) (ykc_49 (e := (0, .iconst 0, 0)) rfl) rfl rfl ?_
        refine w_store (pc' := 40) (L' := [some (.ref 5), some (.int (zn f)), some (.int (Int32.ofInt 0)), none, none, none, none]) (st' := []) (m := 1) (ykc_49 (e := (3, .istore_n kF2, 0)) rfl) rfl rfl ?_
        exact hB n 0 ph1 (Nat.zero_le _) hf1 h54 (fun w hw => h8 w (by omega)) (fun d hd => absurd hd (Nat.not_lt_zero d)) o8 (fun i _ => o9 i)
      · refine w_load (pc' := 21) (v := .ref 5) (m := 1) (ykc_49 (e := (2, .aload_n kF0, 0)) rfl) rfl rfl ?_
        refine w_gf (pc' := 24) (v := .ref 8) (ykc_49 (e := (5, .getfield 18, 0)) rfl) rfl ((hf1.1 5 7 (by decide) (by decide)).trans (zsg hS zs_5_7)) rfl ?_
        refine w_load (pc' := 25) (v := .int (zn f)) (m := 1) (ykc_49 (e := (2, .iload_n kF1, 0)) rfl) rfl rfl ?_
        refine w_push (pc' := 27) (v := .int ((Int8.ofInt 8).toInt32)) (m := 2) (ykc_49 (e := (1, .bipush 8, 0)) rfl) rfl rfl ?_
        have e603 : (zn f) * ((Int8.ofInt 8).toInt32) = zn (8 * f) := (zmulK (a := f) (b := 8) (znt (by omega)) c_2 (by omega))
        have te603 := znt (k := 8 * f) (by omega)
        refine w_alu (pc' := 28) (st' := [.int (zn (8 * f)), .ref 8]) (ykc_49 (e := (0, .imul, 0)) rfl) (by show some ([.int ((zn f) * ((Int8.ofInt 8).toInt32)), .ref 8] : List Value) = _; rw [e603]) rfl ?_
        refine w_load (pc' := 29) (v := .int (zn k)) (m := 1) (ykc_49 (e := (2, .iload_n kF2, 0)) rfl) rfl rfl ?_
        have e604 : (zn (8 * f)) + (zn k) = zn (8 * f + k) := (zaddN (a := 8 * f) (b := k) (znt (by omega)) (znt (by omega)) (by omega)) 
        have te604 := znt (k := 8 * f + k) (by omega)
        refine w_alu (pc' := 30) (st' := [.int (zn (8 * f + k)), .ref 8]) (ykc_49 (e := (0, .iadd, 0)) rfl) (by rw [← e604]; rfl) rfl ?_
        refine w_alu (pc' := 31) (st' := [.long (Int64.ofNat kG0), .int (zn (8 * f + k)), .ref 8]) (ykc_49 (e := (0, .lconst kG0, 0)) rfl) rfl rfl ?_
        refine w_las (pc' := 32) (k := 8 * f + k) (ykc_49 (e := (5, .lastore, 0)) rfl) (by omega) rfl (fun ph606 u605 => ?_)
        have e607 : (zn k) + Int32.ofInt 1 = zn (k + 1) := (zaddN (a := k) (b := 1) (znt (by omega)) c_4 (by omega))
        have te607 := znt (k := k + 1) (by omega)
        refine w_store (pc' := 35) (L' := [some (.ref 5), some (.int (zn f)), some (.int (zn (k + 1))), none, none, none, none]) (st' := []) (m := 3) (ykc_49 (e := (3, .iinc 2 1, 0)) rfl) (by rw [← e607]; rfl) rfl ?_
        refine w_gb (ykc_49 (e := (4, .goto (-21), 14)) rfl) (fun k608 hk608 => ?_)
        exact ih k608 hk608 (k + 1) _ (by omega) (zFr_add hf1 u605 (Or.inl (by simp))) ((u605.2.1 5 4 (fun q => absurd q.1 (by decide))).trans h54) (fun w hw => by
          by_cases q1 : w = k
          · subst q1
            exact u605.1
          · exact (u605.2.1 8 (8 * f + w) (fun q => q1 (by have q2 := q.2; omega))).trans (h8 w (by omega))) (fun i hi => (u605.2.1 8 i (fun q => by have q2 := q.2; omega)).trans (o8 i hi)) (fun i => (u605.2.1 9 i (fun q => absurd q.1 (by decide))).trans (o9 i))
  refine w_load (pc' := 1) (v := .ref 5) (m := 1) (ykc_49 (e := (2, .aload_n kF0, 0)) rfl) rfl rfl ?_
  refine w_alu (pc' := 2) (st' := [.ref 5, .ref 5]) (ykc_49 (e := (0, .dup, 0)) rfl) rfl rfl ?_
  refine w_gf (pc' := 5) (v := .long x) (ykc_49 (e := (5, .getfield 57, 0)) rfl) rfl hx rfl ?_
  refine w_alu (pc' := 6) (st' := [.long (Int64.ofNat kG1), .long x, .ref 5]) (ykc_49 (e := (0, .lconst kG1, 0)) rfl) rfl rfl ?_
  refine w_load (pc' := 7) (v := .int (zn f)) (m := 1) (ykc_49 (e := (2, .iload_n kF1, 0)) rfl) rfl rfl ?_
  refine w_alu (pc' := 8) (st' := [.long ((Int64.ofNat kG1) <<< ((zn f).toInt64 &&& 63)), .long x, .ref 5]) (ykc_49 (e := (0, .lshl, 0)) rfl) rfl rfl ?_
  refine w_alu (pc' := 9) (st' := [.long (x ||| ((Int64.ofNat kG1) <<< ((zn f).toInt64 &&& 63))), .ref 5]) (ykc_49 (e := (0, .lor, 0)) rfl) rfl rfl ?_
  refine w_pf (pc' := 12) (ykc_49 (e := (5, .putfield 57, 0)) rfl) rfl rfl (fun ph610 u609 => ?_)
  refine w_alu (pc' := 13) (st' := [.int (Int32.ofInt 0)]) (ykc_49 (e := (0, .iconst 0, 0)) rfl) rfl rfl ?_
  refine w_store (pc' := 14) (L' := [some (.ref 5), some (.int (zn f)), some (.int (Int32.ofInt 0)), none, none, none, none]) (st' := []) (m := 1) (ykc_49 (e := (3, .istore_n kF2, 0)) rfl) rfl rfl ?_
  exact hA n 0 ph610 (Nat.zero_le _) (zFr_st u609 (Or.inr (by simp))) u609.1 (fun w hw => absurd hw (Nat.not_lt_zero w)) (fun i _ => u609.2.1 8 i (fun q => absurd q.1 (by decide))) (fun i => u609.2.1 9 i (fun q => absurd q.1 (by decide)))
end
section
/-! the class: what one SEES, hours, by W; printed by wip/z/z_l_cpass.py -/
theorem zS_ext {f g : Nat → Bool} {n : Nat} (h : ∀ k, k < n → f k = g k) : zS f n = zS g n := by
  induction n with
  | zero => rfl
  | succ n ih => rw [zS_s, zS_s, ih (fun k hk => h k (by omega)), h n (by omega)]
theorem zT_s {f : Nat → Bool} {k : Nat} : zT f (k + 1) = zT f k ||| (bif f k then Int32.ofInt 1 <<< (zn k &&& 31) else Int32.ofInt 0) := rfl
theorem zT_ext {f g : Nat → Bool} {n : Nat} (h : ∀ k, k < n → f k = g k) : zT f n = zT g n := by
  induction n with
  | zero => rfl
  | succ n ih => rw [zT_s, zT_s, ih (fun k hk => h k (by omega)), h n (by omega)]
/-- toward all ways within the brim, so far: the ways before w -/
noncomputable def zTa (C : Nat) (rk : Nat → Bool) (n f fc br : Nat) : Nat → Int64
  | 0 => Int64.ofNat kG0
  | w + 1 => if ze8 w fc + br ≤ 4 then zTa C rk n f fc br w ||| zS (zTw C rk f w) n else zTa C rk n f fc br w
theorem zTa_b {C : Nat} {rk : Nat → Bool} {n f fc br : Nat} (hn : n ≤ 64) {g : Nat} (hg : g < 64) : ∀ w, zb (zTa C rk n f fc br w) g = (decide (g < n) && (!decide (g = f) && (zclr C rk f g 7 && decide (zway (zgr C f g) (zgc C f g) < w ∧ ze8 (zway (zgr C f g) (zgc C f g)) fc + br ≤ 4)))) := by
  intro w
  induction w with
  | zero => rw [show zTa C rk n f fc br 0 = Int64.ofNat kG0 from rfl, zL0]; simp [zb]
  | succ w ih =>
    unfold zTa
    by_cases h : ze8 w fc + br ≤ 4
    · rw [if_pos h, zb_or, ih, zS_b hn hg]
      unfold zTw
      by_cases e : zway (zgr C f g) (zgc C f g) = w
      · have h1 : ¬ (zway (zgr C f g) (zgc C f g) < w) := by omega
        simp [e, h]
      · have h1 : (zway (zgr C f g) (zgc C f g) < w + 1) ↔ (zway (zgr C f g) (zgc C f g) < w) := by omega
        simp [e, h1]
    · rw [if_neg h, ih]
      by_cases e : zway (zgr C f g) (zgc C f g) = w
      · simp [e, h]
      · have h1 : (zway (zgr C f g) (zgc C f g) < w + 1) ↔ (zway (zgr C f g) (zgc C f g) < w) := by omega
        simp [h1]
theorem zview {R C : Nat} {rk : Nat → Bool} {f fc br re far : Nat} (hC : 0 < C) (hC7 : C ≤ 7) (hR7 : R ≤ 7) (hf : f < R * C) (hfar : far = min 6 re) : (zTa C rk (R * C) f fc br 8 &&& zS (zWi C f far) (R * C)) ||| Int64.ofNat kG1 <<< ((zn f).toInt64 &&& 63) = zS (fun g => zsee C rk f g fc br re) (R * C) := by
  have hRC := zRC49 hR7 hC7
  refine zb_ext fun g hg => ?_
  rw [zb_or, zb_and, zTa_b (by omega) hg, zS_b (by omega) hg, zS_b (by omega) hg, zL1, zb_bit (by omega) hg]
  have hw8 : zway (zgr C f g) (zgc C f g) < 8 := zway_lt
  unfold zWi zsee
  by_cases hgn : g < R * C
  · have hd6 := zds_6 hC hC7 hR7 hf hgn
    have hd : (zds C f g ≤ far) ↔ (max (((g / C : Nat) : Int) - (f / C : Nat)).natAbs (((g % C : Nat) : Int) - (f % C : Nat)).natAbs ≤ re) := by
      show _ ↔ zds C f g ≤ re
      omega
    by_cases e : g = f
    · subst e
      simp [hgn]
    · have e2 : ¬ f = g := fun q => e q.symm
      have hw : (zway (zgr C f g) (zgc C f g) < 8 ∧ ze8 (zway (zgr C f g) (zgc C f g)) fc + br ≤ 4) ↔ (ze8 (zway (((g / C : Nat) : Int) - (f / C : Nat)) (((g % C : Nat) : Int) - (f % C : Nat))) fc + br ≤ 4) := ⟨fun q => q.2, fun q => ⟨hw8, q⟩⟩
      have hd9 : decide (zds C f g ≤ far) = decide (max (((g / C : Nat) : Int) - (f / C : Nat)).natAbs (((g % C : Nat) : Int) - (f % C : Nat)).natAbs ≤ re) := decide_eq_decide.mpr hd
      have hw9 : decide (zway (zgr C f g) (zgc C f g) < 8 ∧ ze8 (zway (zgr C f g) (zgc C f g)) fc + br ≤ 4) = decide (ze8 (zway (((g / C : Nat) : Int) - (f / C : Nat)) (((g % C : Nat) : Int) - (f % C : Nat))) fc + br ≤ 4) := decide_eq_decide.mpr hw
      rw [hd9, hw9, decide_eq_false e, decide_eq_false e2, decide_eq_true hgn]
      simp only [Bool.true_and, Bool.not_false, Bool.or_false, Bool.false_or]
      cases zclr C rk f g 7 <;> simp [Bool.and_comm]
  · have e : ¬ g = f := by omega
    simp [hgn, e]
theorem zCc_F {A : List Nat} {F : List (Nat × Nat)} {p q : pm_H} {R C : Nat} {rk : Nat → Bool} (f : zFr A F p q) (h1 : 5 ∉ A ∧ 8 ∉ A ∧ 9 ∉ A) (h2 : (5, 4) ∉ F) (h3 : ∀ i, (8, i) ∉ F ∧ (9, i) ∉ F) (h : zCc p R C rk) : zCc q R C rk := by
  obtain ⟨x, h4, h5⟩ := h
  exact ⟨x, (f.1 _ _ h1.1 h2).trans h4, fun g hg hb => ⟨fun w hw => (f.1 _ _ h1.2.1 (h3 _).1).trans ((h5 g hg hb).1 w hw), fun d hd => (f.1 _ _ h1.2.2 (h3 _).2).trans ((h5 g hg hb).2 d hd)⟩⟩
theorem zc_view {ph : pm_H} {R C : Nat} {rk : Nat → Bool} (hS : zSh ph) (hL : zCl ph R C rk) {f fc br re : Nat} (hc : zCc ph R C rk) (hf : f < R * C) (hfc : fc < 8) (hbr : br ≤ 4) (hre : re ≤ 9) : zM 48 [.ref 5, .int (zn f), .int (zn fc), .int (zn br), .int (zn re)] ph (fun v q => zFr [8, 9] [(5, 4)] ph q ∧ zCc q R C rk ∧ v = some (.long (zS (fun g => zsee C rk f g fc br re) (R * C)))) := by
  obtain ⟨Q, hQ⟩ : ∃ Q : Option Value → pm_H → Prop, Q = (fun v q => zFr [8, 9] [(5, 4)] ph q ∧ zCc q R C rk ∧ v = some (.long (zS (fun g => zsee C rk f g fc br re) (R * C)))) := ⟨_, rfl⟩
  rw [← hQ]
  refine zM_mk fun n D => ?_
  show zW n D 48 Q 0 [some (.ref 5), some (.int (zn f)), some (.int (zn fc)), some (.int (zn br)), some (.int (zn re)), none, none, none] [] ph
  have c_0 : ((Int8.ofInt 6).toInt32).toInt = 6 := by decide
  have c_1 : ((Int8.ofInt 7).toInt32).toInt = 7 := by decide
  have c_2 : ((Int8.ofInt 8).toInt32).toInt = 8 := by decide
  have c_3 : (Int32.ofInt 0).toInt = 0 := by decide
  have c_4 : (Int32.ofInt 1).toInt = 1 := by decide
  have c_5 : (Int32.ofInt 4).toInt = 4 := by decide
  have hL0 := hL
  obtain ⟨gR, gC, gN, gK, gA, hR3, hR7, hC3, hC7⟩ := hL
  have hRC := zRC49 hR7 hC7
  have tR := znt (k := R) (by omega)
  have tC := znt (k := C) (by omega)
  have tRC := znt (k := R * C) (by omega)
  have tf := znt (k := f) (by omega)
  have tfc := znt (k := fc) (by omega)
  have tbr := znt (k := br) (by omega)
  have tre := znt (k := re) (by omega)
  obtain ⟨x, hx, hcx⟩ := hc
  have hT : ∀ (n : Nat) (ph1 : pm_H) (y : Int64), zFr [8, 9] [(5, 4)] ph ph1 → zc ph1 5 4 = some (.long y) → (∀ g, g < R * C → zb y g = true → (∀ w, w < 8 → zc ph1 8 (8 * g + w) = some (.long (zS (zTw C rk g w) (R * C)))) ∧ ∀ d, d < 7 → zc ph1 9 (7 * g + d) = some (.long (zS (zWi C g d) (R * C)))) → zb y f = true → zW n D 48 Q 26 [some (.ref 5), some (.int (zn f)), some (.int (zn fc)), some (.int (zn br)), some (.int (zn re)), none, none, none] [] ph1 := by
    intro n ph1 y hf1 hy hcy hyf
    obtain ⟨h8, h9⟩ := hcy f hf hyf
    refine w_alu (pc' := 27) (st' := [.long (Int64.ofNat kG0)]) (ykc_48 (e := (0, .lconst kG0, 0)) rfl) rfl rfl ?_
    refine w_store (pc' := 29) (L' := [some (.ref 5), some (.int (zn f)), some (.int (zn fc)), some (.int (zn br)), some (.int (zn re)), some (.long (Int64.ofNat kG0)), none, none]) (st' := []) (m := 2) (ykc_48 (e := (3, .lstore 5, 0)) rfl) rfl rfl ?_
    refine w_alu (pc' := 30) (st' := [.int (Int32.ofInt 0)]) (ykc_48 (e := (0, .iconst 0, 0)) rfl) rfl rfl ?_
    refine w_store (pc' := 32) (L' := [some (.ref 5), some (.int (zn f)), some (.int (zn fc)), some (.int (zn br)), some (.int (zn re)), some (.long (Int64.ofNat kG0)), none, some (.int (Int32.ofInt 0))]) (st' := []) (m := 2) (ykc_48 (e := (3, .istore 7, 0)) rfl) rfl rfl ?_
    have hl : ∀ (n : Nat), ∀ (k : Nat), (k ≤ 8) → zW n D 48 Q 32 [some (.ref 5), some (.int (zn f)), some (.int (zn fc)), some (.int (zn br)), some (.int (zn re)), some (.long (zTa C rk (R * C) f fc br k)), none, some (.int (zn k))] [] ph1 := by
      intro n
      induction n using Nat.strongRecOn with
      | ind n ih =>
        intro k hk
        have tk := znt (k := k) (by omega)
        refine w_load (pc' := 34) (v := .int (zn k)) (m := 2) (ykc_48 (e := (2, .iload 7, 0)) rfl) rfl rfl ?_
        refine w_push (pc' := 36) (v := .int ((Int8.ofInt 8).toInt32)) (m := 2) (ykc_48 (e := (1, .bipush 8, 0)) rfl) rfl rfl ?_
        refine w_ige (ykc_48 (e := (4, .if_icmp .ge 38, 74)) rfl) rfl (fun b611 => ?_) (fun b611 => ?_)
        · refine w_alu (pc' := 75) (st' := [.int (Int32.ofInt 0)]) (ykc_48 (e := (0, .iconst 0, 0)) rfl) rfl rfl ?_
          refine w_push (pc' := 77) (v := .int ((Int8.ofInt 6).toInt32)) (m := 2) (ykc_48 (e := (1, .bipush 6, 0)) rfl) rfl rfl ?_
          refine w_load (pc' := 79) (v := .int (zn re)) (m := 2) (ykc_48 (e := (2, .iload 4, 0)) rfl) rfl rfl ?_
          obtain ⟨z612, e_z612⟩ : ∃ zq : Int32, (if (zn re) < ((Int8.ofInt 6).toInt32) then (zn re) else ((Int8.ofInt 6).toInt32)) = zq := ⟨_, rfl⟩
          have h_z612 := zminI e_z612
          refine w_mem1 (pc' := 82) (m := 3) (st' := [.int z612, .int (Int32.ofInt 0)]) (ph' := ph1) (ykc_48 (e := (5, .invokestatic 85, 0)) rfl) (by rw [← e_z612]; rfl) rfl ?_
          obtain ⟨z613, e_z613⟩ : ∃ zq : Int32, (if (Int32.ofInt 0) < z612 then z612 else (Int32.ofInt 0)) = zq := ⟨_, rfl⟩
          have h_z613 := zmaxI e_z613
          have n_z613 : z613.toInt = ((min 6 re : Nat) : Int) := by omega
          refine w_mem1 (pc' := 85) (m := 3) (st' := [.int z613]) (ph' := ph1) (ykc_48 (e := (5, .invokestatic 97, 0)) rfl) (by rw [← e_z613]; rfl) rfl ?_
          refine w_store (pc' := 87) (L' := [some (.ref 5), some (.int (zn f)), some (.int (zn fc)), some (.int (zn br)), some (.int (zn re)), some (.long (zTa C rk (R * C) f fc br k)), none, some (.int z613)]) (st' := []) (m := 2) (ykc_48 (e := (3, .istore 7, 0)) rfl) rfl rfl ?_
          refine w_load (pc' := 89) (v := .long (zTa C rk (R * C) f fc br k)) (m := 2) (ykc_48 (e := (2, .lload 5, 0)) rfl) rfl rfl ?_
          refine w_load (pc' := 90) (v := .ref 5) (m := 1) (ykc_48 (e := (2, .aload_n kF0, 0)) rfl) rfl rfl ?_
          refine w_gf (pc' := 93) (v := .ref 9) (ykc_48 (e := (5, .getfield 22, 0)) rfl) rfl ((hf1.1 5 8 (by decide) (by decide)).trans (zsg hS zs_5_8)) rfl ?_
          refine w_load (pc' := 94) (v := .int (zn f)) (m := 1) (ykc_48 (e := (2, .iload_n kF1, 0)) rfl) rfl rfl ?_
          refine w_push (pc' := 96) (v := .int ((Int8.ofInt 7).toInt32)) (m := 2) (ykc_48 (e := (1, .bipush 7, 0)) rfl) rfl rfl ?_
          have e614 : (zn f) * ((Int8.ofInt 7).toInt32) = zn (7 * f) := (zmulK (a := f) (b := 7) (znt (by omega)) c_1 (by omega))
          have te614 := znt (k := 7 * f) (by omega)
          refine w_alu (pc' := 97) (st' := [.int (zn (7 * f)), .ref 9, .long (zTa C rk (R * C) f fc br k)]) (ykc_48 (e := (0, .imul, 0)) rfl) (by show some ([.int ((zn f) * ((Int8.ofInt 7).toInt32)), .ref 9, .long (zTa C rk (R * C) f fc br k)] : List Value) = _; rw [e614]) rfl ?_
          refine w_load (pc' := 99) (v := .int z613) (m := 2) (ykc_48 (e := (2, .iload 7, 0)) rfl) rfl rfl ?_
          have e615 : (zn (7 * f)) + z613 = zn (7 * f + (min 6 re)) := (zaddN (a := 7 * f) (b := min 6 re) (znt (by omega)) (by omega) (by omega)) 
          have te615 := znt (k := 7 * f + (min 6 re)) (by omega)
          refine w_alu (pc' := 100) (st' := [.int (zn (7 * f + (min 6 re))), .ref 9, .long (zTa C rk (R * C) f fc br k)]) (ykc_48 (e := (0, .iadd, 0)) rfl) (by rw [← e615]; rfl) rfl ?_
          refine w_lalk (pc' := 101) (k := 7 * f + (min 6 re)) (ykc_48 (e := (5, .laload, 0)) rfl) (h9 (min 6 re) (by omega)) (by omega) rfl ?_
          refine w_alu (pc' := 102) (st' := [.long ((zTa C rk (R * C) f fc br k) &&& (zS (zWi C f (min 6 re)) (R * C)))]) (ykc_48 (e := (0, .land, 0)) rfl) rfl rfl ?_
          refine w_alu (pc' := 103) (st' := [.long (Int64.ofNat kG1), .long ((zTa C rk (R * C) f fc br k) &&& (zS (zWi C f (min 6 re)) (R * C)))]) (ykc_48 (e := (0, .lconst kG1, 0)) rfl) rfl rfl ?_
          refine w_load (pc' := 104) (v := .int (zn f)) (m := 1) (ykc_48 (e := (2, .iload_n kF1, 0)) rfl) rfl rfl ?_
          refine w_alu (pc' := 105) (st' := [.long ((Int64.ofNat kG1) <<< ((zn f).toInt64 &&& 63)), .long ((zTa C rk (R * C) f fc br k) &&& (zS (zWi C f (min 6 re)) (R * C)))]) (ykc_48 (e := (0, .lshl, 0)) rfl) rfl rfl ?_
          refine w_alu (pc' := 106) (st' := [.long (((zTa C rk (R * C) f fc br k) &&& (zS (zWi C f (min 6 re)) (R * C))) ||| ((Int64.ofNat kG1) <<< ((zn f).toInt64 &&& 63)))]) (ykc_48 (e := (0, .lor, 0)) rfl) rfl rfl ?_
          refine w_ret (v := (some (.long (((zTa C rk (R * C) f fc br k) &&& (zS (zWi C f (min 6 re)) (R * C))) ||| ((Int64.ofNat kG1) <<< ((zn f).toInt64 &&& 63)))))) (ykc_48 (e := (7, .lreturn, 0)) rfl) (zr_v rfl) ?_
          have ek : k = 8 := by omega
          subst ek
          rw [hQ]
          refine ⟨hf1, ⟨y, hy, hcy⟩, ?_⟩
          rw [← zview (R := R) (C := C) (rk := rk) (f := f) (fc := fc) (br := br) (re := re) (by omega) hC7 hR7 hf rfl]
        · refine w_load (pc' := 41) (v := .int (zn k)) (m := 2) (ykc_48 (e := (2, .iload 7, 0)) rfl) rfl rfl ?_
          refine w_load (pc' := 42) (v := .int (zn fc)) (m := 1) (ykc_48 (e := (2, .iload_n kF2, 0)) rfl) rfl rfl ?_
          refine w_cs (as := [.int (zn k), .int (zn fc)]) (r := []) (ykc_48 (e := (6, .invokestatic 94, 0)) rfl) rfl rfl rfl rfl (zc_e8 (a := k) (b := fc) (by omega) (by omega)) (fun v616 ph617 hv => ?_)
          obtain ⟨rfl, rfl⟩ := hv
          have te := znt (k := ze8 k fc) (by unfold ze8; omega)
          show zW n D 48 Q 45 [some (.ref 5), some (.int (zn f)), some (.int (zn fc)), some (.int (zn br)), some (.int (zn re)), some (.long (zTa C rk (R * C) f fc br k)), none, some (.int (zn k))] [.int (zn (ze8 k fc))] ph1
          refine w_alu (pc' := 46) (st' := [.int (Int32.ofInt 4), .int (zn (ze8 k fc))]) (ykc_48 (e := (0, .iconst 4, 0)) rfl) rfl rfl ?_
          refine w_load (pc' := 47) (v := .int (zn br)) (m := 1) (ykc_48 (e := (2, .iload_n kF3, 0)) rfl) rfl rfl ?_
          obtain ⟨z618, e_z618, h_z618⟩ : ∃ zq : Int32, (Int32.ofInt 4) - (zn br) = zq ∧ zq.toInt = (4 : Int) - ((br : Nat) : Int) := ⟨_, rfl, (by have := ti_sub (x := (Int32.ofInt 4)) (y := (zn br)) (by omega) (by omega); omega)⟩
          refine w_alu (pc' := 48) (st' := [.int z618, .int (zn (ze8 k fc))]) (ykc_48 (e := (0, .isub, 0)) rfl) (by rw [← e_z618]; rfl) rfl ?_
          refine w_igt (ykc_48 (e := (4, .if_icmp .gt 20, 68)) rfl) rfl (fun b619 => ?_) (fun b619 => ?_)
          · have e620 : (zn k) + Int32.ofInt 1 = zn (k + 1) := (zaddN (a := k) (b := 1) (znt (by omega)) c_4 (by omega))
            have te620 := znt (k := k + 1) (by omega)
            refine w_store (pc' := 71) (L' := [some (.ref 5), some (.int (zn f)), some (.int (zn fc)), some (.int (zn br)), some (.int (zn re)), some (.long (zTa C rk (R * C) f fc br k)), none, some (.int (zn (k + 1)))]) (st' := []) (m := 3) (ykc_48 (e := (3, .iinc 7 1, 0)) rfl) (by rw [← e620]; rfl) rfl ?_
            refine w_gb (ykc_48 (e := (4, .goto (-39), 32)) rfl) (fun k621 hk621 => ?_)
            have et : zTa C rk (R * C) f fc br (k + 1) = zTa C rk (R * C) f fc br k := by
              show (if ze8 k fc + br ≤ 4 then _ else _) = _
              rw [if_neg (by omega)]
            have h9x := ih k621 hk621 (k + 1) (by omega)
            rw [et] at h9x
            exact h9x
          · refine w_load (pc' := 53) (v := .long (zTa C rk (R * C) f fc br k)) (m := 2) (ykc_48 (e := (2, .lload 5, 0)) rfl) rfl rfl ?_
            refine w_load (pc' := 54) (v := .ref 5) (m := 1) (ykc_48 (e := (2, .aload_n kF0, 0)) rfl) rfl rfl ?_
            refine w_gf (pc' := 57) (v := .ref 8) (ykc_48 (e := (5, .getfield 18, 0)) rfl) rfl ((hf1.1 5 7 (by decide) (by decide)).trans (zsg hS zs_5_7)) rfl ?_
            refine w_load (pc' := 58) (v := .int (zn f)) (m := 1) (ykc_48 (e := (2, .iload_n kF1, 0)) rfl) rfl rfl ?_
            refine w_push (pc' := 60) (v := .int ((Int8.ofInt 8).toInt32)) (m := 2) (ykc_48 (e := (1, .bipush 8, 0)) rfl) rfl rfl ?_
            have e622 : (zn f) * ((Int8.ofInt 8).toInt32) = zn (8 * f) := (zmulK (a := f) (b := 8) (znt (by omega)) c_2 (by omega))
            have te622 := znt (k := 8 * f) (by omega)
            refine w_alu (pc' := 61) (st' := [.int (zn (8 * f)), .ref 8, .long (zTa C rk (R * C) f fc br k)]) (ykc_48 (e := (0, .imul, 0)) rfl) (by show some ([.int ((zn f) * ((Int8.ofInt 8).toInt32)), .ref 8, .long (zTa C rk (R * C) f fc br k)] : List Value) = _; rw [e622]) rfl ?_
            refine w_load (pc' := 63) (v := .int (zn k)) (m := 2) (ykc_48 (e := (2, .iload 7, 0)) rfl) rfl rfl ?_
            have e623 : (zn (8 * f)) + (zn k) = zn (8 * f + k) := (zaddN (a := 8 * f) (b := k) (znt (by omega)) (znt (by omega)) (by omega)) 
            have te623 := znt (k := 8 * f + k) (by omega)
            refine w_alu (pc' := 64) (st' := [.int (zn (8 * f + k)), .ref 8, .long (zTa C rk (R * C) f fc br k)]) (ykc_48 (e := (0, .iadd, 0)) rfl) (by rw [← e623]; rfl) rfl ?_
            refine w_lalk (pc' := 65) (k := 8 * f + k) (ykc_48 (e := (5, .laload, 0)) rfl) (h8 k (by omega)) (by omega) rfl ?_
            refine w_alu (pc' := 66) (st' := [.long ((zTa C rk (R * C) f fc br k) ||| (zS (zTw C rk f k) (R * C)))]) (ykc_48 (e := (0, .lor, 0)) rfl) rfl rfl ?_
            refine w_store (pc' := 68) (L' := [some (.ref 5), some (.int (zn f)), some (.int (zn fc)), some (.int (zn br)), some (.int (zn re)), some (.long ((zTa C rk (R * C) f fc br k) ||| (zS (zTw C rk f k) (R * C)))), none, some (.int (zn k))]) (st' := []) (m := 2) (ykc_48 (e := (3, .lstore 5, 0)) rfl) rfl rfl ?_
            have e624 : (zn k) + Int32.ofInt 1 = zn (k + 1) := (zaddN (a := k) (b := 1) (znt (by omega)) c_4 (by omega))
            have te624 := znt (k := k + 1) (by omega)
            refine w_store (pc' := 71) (L' := [some (.ref 5), some (.int (zn f)), some (.int (zn fc)), some (.int (zn br)), some (.int (zn re)), some (.long ((zTa C rk (R * C) f fc br k) ||| (zS (zTw C rk f k) (R * C)))), none, some (.int (zn (k + 1)))]) (st' := []) (m := 3) (ykc_48 (e := (3, .iinc 7 1, 0)) rfl) (by rw [← e624]; rfl) rfl ?_
            refine w_gb (ykc_48 (e := (4, .goto (-39), 32)) rfl) (fun k625 hk625 => ?_)
            have et : zTa C rk (R * C) f fc br (k + 1) = (zTa C rk (R * C) f fc br k) ||| (zS (zTw C rk f k) (R * C)) := by
              show (if ze8 k fc + br ≤ 4 then _ else _) = _
              rw [if_pos (by omega)]
            have h9x := ih k625 hk625 (k + 1) (by omega)
            rw [et] at h9x
            exact h9x
    exact hl n 0 (Nat.zero_le _)
  refine w_load (pc' := 1) (v := .ref 5) (m := 1) (ykc_48 (e := (2, .aload_n kF0, 0)) rfl) rfl rfl ?_
  refine w_load (pc' := 2) (v := .int (zn f)) (m := 1) (ykc_48 (e := (2, .iload_n kF1, 0)) rfl) rfl rfl ?_
  refine w_cv (as := [.ref 5, .int (zn f)]) (r := []) (ykc_48 (e := (6, .invokevirtual 64, 0)) rfl) rfl rfl rfl rfl (zc_holds hS hL0 (f := (zn f))) (fun v626 ph627 hv => ?_)
  obtain ⟨rfl, rfl⟩ := hv
  show zW n D 48 Q 5 [some (.ref 5), some (.int (zn f)), some (.int (zn fc)), some (.int (zn br)), some (.int (zn re)), none, none, none] [.int (zI (decide (0 ≤ (zn f).toInt ∧ (zn f).toInt < ((R * C : Nat) : Int))))] ph
  refine w_bne (ykc_48 (e := (4, .ifCond .ne 5, 10)) rfl) rfl (fun b628 => ?_) (fun q => by have := of_decide_eq_false q; omega)
  refine w_load (pc' := 11) (v := .ref 5) (m := 1) (ykc_48 (e := (2, .aload_n kF0, 0)) rfl) rfl rfl ?_
  refine w_gf (pc' := 14) (v := .long x) (ykc_48 (e := (5, .getfield 57, 0)) rfl) rfl hx rfl ?_
  refine w_load (pc' := 15) (v := .int (zn f)) (m := 1) (ykc_48 (e := (2, .iload_n kF1, 0)) rfl) rfl rfl ?_
  refine w_cs (as := [.long x, .int (zn f)]) (r := []) (ykc_48 (e := (6, .invokestatic 68, 0)) rfl) rfl rfl rfl rfl (zc_has (kn := f) (by omega) (by omega)) (fun v629 ph630 hv => ?_)
  obtain ⟨rfl, rfl⟩ := hv
  show zW n D 48 Q 18 [some (.ref 5), some (.int (zn f)), some (.int (zn fc)), some (.int (zn br)), some (.int (zn re)), none, none, none] [.int (zI (zb x f))] ph
  refine w_bne (ykc_48 (e := (4, .ifCond .ne 8, 26)) rfl) rfl (fun b631 => ?_) (fun b631 => ?_)
  · exact hT n _ _ zFr_refl hx hcx b631
  · refine w_load (pc' := 22) (v := .ref 5) (m := 1) (ykc_48 (e := (2, .aload_n kF0, 0)) rfl) rfl rfl ?_
    refine w_load (pc' := 23) (v := .int (zn f)) (m := 1) (ykc_48 (e := (2, .iload_n kF1, 0)) rfl) rfl rfl ?_
    refine w_cv (as := [.ref 5, .int (zn f)]) (r := []) (ykc_48 (e := (6, .invokevirtual 90, 0)) rfl) rfl rfl rfl rfl (zc_survey hS hL0 (f := f) hf hx) (fun v632 ph633 hv => ?_)
    obtain ⟨rfl, fv, fv4, fv8, fv9, fo8, fo9⟩ := hv
    show zW n D 48 Q 26 [some (.ref 5), some (.int (zn f)), some (.int (zn fc)), some (.int (zn br)), some (.int (zn re)), none, none, none] [] ph633
    refine hT n _ _ fv fv4 (fun g hg hb => ?_) ?_
    · by_cases e : g = f
      · subst e
        exact ⟨fv8, fv9⟩
      · rw [zb_or, zL1, zb_bit (by omega) (by omega), decide_eq_false e, Bool.or_false] at hb
        exact ⟨fun w hw => (fo8 _ (by omega)).trans ((hcx g hg hb).1 w hw), fun d hd => (fo9 _ (by omega)).trans ((hcx g hg hb).2 d hd)⟩
    · rw [zb_or, zL1, zb_bit (by omega) (by omega), decide_eq_true rfl, Bool.or_true]
/-- how many bits -/
def zpn (b : Nat) : Nat := (zpc (zn b)).toInt.toNat
theorem zpn_s : ∀ k, k < 8 → ∀ b, b < 2 ^ k → zpn (b ||| 2 ^ k) = zpn b + 1 := by decide +kernel
theorem zpn_n : ∀ b, b < 256 → zpc (zn b) = zn (zpn b) ∧ zpn b ≤ 8 := by decide +kernel
def zcn (f : Nat → Bool) : Nat → Nat
  | 0 => 0
  | k + 1 => zcn f k + (bif f k then 1 else 0)
theorem zNs_2 {f : Nat → Bool} {n : Nat} : zNs f n < 2 ^ n := by
  induction n with
  | zero => exact (by decide : (0 : Nat) < 1)
  | succ n ih =>
    have h1 : zNs f n < 2 ^ (n + 1) := Nat.lt_trans ih (Nat.pow_lt_pow_right (by decide) (Nat.lt_succ_self n))
    have h2 : 2 ^ n < 2 ^ (n + 1) := Nat.pow_lt_pow_right (by decide) (Nat.lt_succ_self n)
    show zNs f n ||| _ < _
    cases f n with
    | true => exact Nat.or_lt_two_pow h1 h2
    | false => exact Nat.or_lt_two_pow h1 (Nat.lt_of_le_of_lt (Nat.zero_le _) h1)
theorem zpn_c {f : Nat → Bool} {n : Nat} (hn : n ≤ 8) : zpn (zNs f n) = zcn f n := by
  induction n with
  | zero => exact (by decide : zpn 0 = 0)
  | succ n ih =>
    show zpn (zNs f n ||| _) = zcn f n + _
    cases f n with
    | true => rw [cond_true, cond_true, zpn_s n (by omega) _ zNs_2, ih (by omega)]
    | false => rw [cond_false, cond_false, Nat.or_zero, ih (by omega), Nat.add_zero]
theorem zpc_T {f : Nat → Bool} {n : Nat} (hn : n ≤ 8) : zpc (zT f n) = zn (zcn f n) := by
  rw [zT_N hn, (zpn_n _ (zNs_lt hn)).1, zpn_c hn]
theorem zcn_t {v : Nat → Nat} {f n : Nat} : zcn (fun q => decide (v q = f)) n = zct v f n := by
  induction n with
  | zero => rfl
  | succ n ih =>
    show zcn _ n + (bif decide (v n = f) then 1 else 0) = zct v f n + (if v n = f then 1 else 0)
    rw [ih]
    by_cases e : v n = f
    · rw [decide_eq_true e, if_pos e]; rfl
    · rw [decide_eq_false e, if_neg e]; rfl
theorem zpon_1 {P : Nat} {v : Nat → Nat} {f : Nat} (hP : P ≤ 8) (hf : f < 64) (hv : ∀ q, q < P → v q < 64) : zpc (zPon P v (Int64.ofNat kG1 <<< ((zn f).toInt64 &&& 63))) = zn (zct v f P) := by
  unfold zPon
  rw [zT_ext (g := fun q => decide (v q = f)) (fun q hq => by show zb _ (v q) = _; rw [zL1, zb_bit hf (hv q hq)]), zpc_T hP, zcn_t]
/-- the class's light; all that a look wants -/
def zCi (ph : pm_H) (sn : Nat) (sk : Nat → Nat) : Prop := zc ph 10 4 = some (.int (zn sn)) ∧ 1 ≤ sn ∧ sn ≤ 20 ∧ ∀ i, i < sn → zc ph 21 i = some (.int (zn (sk i))) ∧ sk i ≤ 9
def zCe (ph : pm_H) (E : zEn) (F : Nat) : Prop := zCl ph E.1 E.2.1 E.2.2.1 ∧ zCi ph E.2.2.2.1 E.2.2.2.2.1 ∧ zFm ph F E.2.2.2.2.2.1 E.2.2.2.2.2.2 ∧ (F = 11 ∨ F = 16)
theorem zCi_F {A : List Nat} {F : List (Nat × Nat)} {p q : pm_H} {sn : Nat} {sk : Nat → Nat} (f : zFr A F p q) (h1 : 10 ∉ A ∧ 21 ∉ A) (h2 : (10, 4) ∉ F ∧ ∀ i, (21, i) ∉ F) (h : zCi p sn sk) : zCi q sn sk := ⟨(f.1 _ _ h1.1 h2.1).trans h.1, h.2.1, h.2.2.1, fun i hi => ⟨(f.1 _ _ h1.2 (h2.2 i)).trans (h.2.2.2 i hi).1, (h.2.2.2 i hi).2⟩⟩
theorem zFm_F {A : List Nat} {F : List (Nat × Nat)} {p q : pm_H} {G k : Nat} {c : Nat → Nat} (f : zFr A F p q) (h1 : G ∉ A ∧ G + 1 ∉ A) (h2 : ∀ i, (G, i) ∉ F ∧ (G + 1, i) ∉ F) (h : zFm p G k c) : zFm q G k c := ⟨(f.1 _ _ h1.1 (h2 0).1).trans h.1, (f.1 _ _ h1.1 (h2 8).1).trans h.2.1, (f.1 _ _ h1.1 (h2 1).1).trans h.2.2.1, h.2.2.2.1, h.2.2.2.2.1, fun i hi => (f.1 _ _ h1.2 (h2 i).2).trans (h.2.2.2.2.2.1 i hi), h.2.2.2.2.2.2⟩
theorem zCx_e {p q : pm_H} {E : zEn} {G : Nat} (f : zCx p q) (h : zCe p E G) : zCe q E G := by
  refine ⟨zCx_l f h.1, zCi_F f (by simp) (by simp) h.2.1, ?_, h.2.2.2⟩
  rcases h.2.2.2 with e | e
  · subst e; exact zFm_F f (by simp) (by simp) h.2.2.1
  · subst e; exact zFm_F f (by simp) (by simp) h.2.2.1
theorem zSs_F {A : List Nat} {F : List (Nat × Nat)} {p q : pm_H} {S : Nat} (f : zFr A F p q) (h1 : S ∉ A) (h2 : ∀ i, (S, i) ∉ F) (h : zSs p S) : zSs q S := ⟨(f.1 _ _ h1 (h2 3)).trans h.1, (f.1 _ _ h1 (h2 4)).trans h.2.1, (f.1 _ _ h1 (h2 5)).trans h.2.2.1, (f.1 _ _ h1 (h2 6)).trans h.2.2.2.1, (f.1 _ _ h1 (h2 7)).trans h.2.2.2.2.1, (f.2 _).trans h.2.2.2.2.2.1, (f.2 _).trans h.2.2.2.2.2.2.1, (f.2 _).trans h.2.2.2.2.2.2.2.1, (f.2 _).trans h.2.2.2.2.2.2.2.2.1, (f.2 _).trans h.2.2.2.2.2.2.2.2.2⟩
theorem zSd_F {A : List Nat} {F : List (Nat × Nat)} {p q : pm_H} {S P G : Nat} {v : Nat → Nat} (f : zFr A F p q) (h1 : ∀ i, i < 6 → S + i ∉ A) (h2 : ∀ j i, j < 6 → (S + j, i) ∉ F) (h : zSd p S P G v) : zSd q S P G v := ⟨(f.1 _ _ (h1 0 (by decide)) (h2 0 0 (by decide))).trans h.1, h.2.1, (f.1 _ _ (h1 0 (by decide)) (h2 0 1 (by decide))).trans h.2.2.1, h.2.2.2.1, (f.1 _ _ (h1 0 (by decide)) (h2 0 2 (by decide))).trans h.2.2.2.2.1, fun i hi => ⟨(f.1 _ _ (h1 1 (by decide)) (h2 1 i (by decide))).trans (h.2.2.2.2.2.1 i hi).1, (f.1 _ _ (h1 2 (by decide)) (h2 2 i (by decide))).trans (h.2.2.2.2.2.1 i hi).2.1, (f.1 _ _ (h1 3 (by decide)) (h2 3 i (by decide))).trans (h.2.2.2.2.2.1 i hi).2.2.1, (f.1 _ _ (h1 4 (by decide)) (h2 4 i (by decide))).trans (h.2.2.2.2.2.1 i hi).2.2.2⟩, fun i hi => (f.1 _ _ (h1 5 (by decide)) (h2 5 i (by decide))).trans (h.2.2.2.2.2.2 i hi)⟩
theorem zCx_s {p q : pm_H} {S : Nat} (hS : 25 ≤ S) (f : zCx p q) (h : zSs p S) : zSs q S := zSs_F f (by simp <;> omega) (by simp <;> omega) h
theorem zCx_d {p q : pm_H} {S P G : Nat} {v : Nat → Nat} (hS : 25 ≤ S) (f : zCx p q) (h : zSd p S P G v) : zSd q S P G v := zSd_F f (by intro i hi; simp <;> omega) (by intro j i hj; simp <;> omega) h
/-- a State that a look wants -/
def zCt (ph : pm_H) (S P G : Nat) (v : Nat → Nat) : Prop := (25 ≤ S ∧ zSs ph S) ∧ zSd ph S P G v
theorem zCx_t {p q : pm_H} {S P G : Nat} {v : Nat → Nat} (f : zCx p q) (h : zCt p S P G v) : zCt q S P G v := ⟨⟨h.1.1, zCx_s h.1.1 f h.1.2⟩, zCx_d h.1.1 f h.2⟩
theorem zCx_m {A : List Nat} {F : List (Nat × Nat)} {p q : pm_H} (f : zFr A F p q) (hA : ∀ a ∈ A, a ∈ [8, 9, 15, 20, 22, 23, 24]) (hF : ∀ x ∈ F, x ∈ [(5, 4)]) : zCx p q := zFr_mono f hA hF
theorem zc_rowOf {ph : pm_H} {R C : Nat} {rk : Nat → Bool} (hS : zSh ph) (hL : zCl ph R C rk) {f : Nat} (hf : f < R * C) : zM 42 [.ref 5, .int (zn f)] ph (fun v q => ph = q ∧ v = some (.int (zn (f / C)))) := by
  obtain ⟨Q, hQ⟩ : ∃ Q : Option Value → pm_H → Prop, Q = (fun v q => ph = q ∧ v = some (.int (zn (f / C)))) := ⟨_, rfl⟩
  rw [← hQ]
  refine zM_mk fun n D => ?_
  show zW n D 42 Q 0 [some (.ref 5), some (.int (zn f))] [] ph
  have c_0 : (Int32.ofInt (-1)).toInt = -1 := by decide
  have hL0 := hL
  obtain ⟨gR, gC, gN, gK, gA, hR3, hR7, hC3, hC7⟩ := hL
  have hRC := zRC49 hR7 hC7
  have tR := znt (k := R) (by omega)
  have tC := znt (k := C) (by omega)
  have tRC := znt (k := R * C) (by omega)
  have tf := znt (k := f) (by omega)
  refine w_load (pc' := 1) (v := .ref 5) (m := 1) (ykc_42 (e := (2, .aload_n kF0, 0)) rfl) rfl rfl ?_
  refine w_load (pc' := 2) (v := .int (zn f)) (m := 1) (ykc_42 (e := (2, .iload_n kF1, 0)) rfl) rfl rfl ?_
  refine w_cv (as := [.ref 5, .int (zn f)]) (r := []) (ykc_42 (e := (6, .invokevirtual 64, 0)) rfl) rfl rfl rfl rfl (zc_holds hS hL0 (f := (zn f))) (fun v634 ph635 hv => ?_)
  obtain ⟨rfl, rfl⟩ := hv
  show zW n D 42 Q 5 [some (.ref 5), some (.int (zn f))] [.int (zI (decide (0 ≤ (zn f).toInt ∧ (zn f).toInt < ((R * C : Nat) : Int))))] ph
  refine w_beq (ykc_42 (e := (4, .ifCond .eq 12, 17)) rfl) rfl (fun q => by have := of_decide_eq_false q; omega) (fun b636 => ?_)
  refine w_load (pc' := 9) (v := .ref 5) (m := 1) (ykc_42 (e := (2, .aload_n kF0, 0)) rfl) rfl rfl ?_
  refine w_gf (pc' := 12) (v := .ref 6) (ykc_42 (e := (5, .getfield 9, 0)) rfl) rfl (zsg hS zs_5_5) rfl ?_
  refine w_load (pc' := 13) (v := .int (zn f)) (m := 1) (ykc_42 (e := (2, .iload_n kF1, 0)) rfl) rfl rfl ?_
  have q637 : f / C < R := (Nat.div_lt_iff_lt_mul (by omega)).mpr (show f < R * C by omega)
  have zq637 := Nat.zero_le (f / C)
  have tq637 := znt (k := f / C) (by omega)
  refine w_ialk (pc' := 14) (k := f) (ykc_42 (e := (5, .iaload, 0)) rfl) (gA f (by omega)).1 (by omega) rfl ?_
  refine w_br (pc' := 18) (st' := [.int (zn (f / C))]) (ykc_42 (e := (4, .goto 4, 18)) rfl) rfl ?_
  refine w_ret (v := (some (.int (zn (f / C))))) (ykc_42 (e := (7, .ireturn, 0)) rfl) (zr_v rfl) ?_
  rw [hQ]
  exact ⟨rfl, rfl⟩
theorem zc_colOf {ph : pm_H} {R C : Nat} {rk : Nat → Bool} (hS : zSh ph) (hL : zCl ph R C rk) {f : Nat} (hf : f < R * C) : zM 43 [.ref 5, .int (zn f)] ph (fun v q => ph = q ∧ v = some (.int (zn (f % C)))) := by
  obtain ⟨Q, hQ⟩ : ∃ Q : Option Value → pm_H → Prop, Q = (fun v q => ph = q ∧ v = some (.int (zn (f % C)))) := ⟨_, rfl⟩
  rw [← hQ]
  refine zM_mk fun n D => ?_
  show zW n D 43 Q 0 [some (.ref 5), some (.int (zn f))] [] ph
  have c_0 : (Int32.ofInt (-1)).toInt = -1 := by decide
  have hL0 := hL
  obtain ⟨gR, gC, gN, gK, gA, hR3, hR7, hC3, hC7⟩ := hL
  have hRC := zRC49 hR7 hC7
  have tR := znt (k := R) (by omega)
  have tC := znt (k := C) (by omega)
  have tRC := znt (k := R * C) (by omega)
  have tf := znt (k := f) (by omega)
  refine w_load (pc' := 1) (v := .ref 5) (m := 1) (ykc_43 (e := (2, .aload_n kF0, 0)) rfl) rfl rfl ?_
  refine w_load (pc' := 2) (v := .int (zn f)) (m := 1) (ykc_43 (e := (2, .iload_n kF1, 0)) rfl) rfl rfl ?_
  refine w_cv (as := [.ref 5, .int (zn f)]) (r := []) (ykc_43 (e := (6, .invokevirtual 64, 0)) rfl) rfl rfl rfl rfl (zc_holds hS hL0 (f := (zn f))) (fun v638 ph639 hv => ?_)
  obtain ⟨rfl, rfl⟩ := hv
  show zW n D 43 Q 5 [some (.ref 5), some (.int (zn f))] [.int (zI (decide (0 ≤ (zn f).toInt ∧ (zn f).toInt < ((R * C : Nat) : Int))))] ph
  refine w_beq (ykc_43 (e := (4, .ifCond .eq 12, 17)) rfl) rfl (fun q => by have := of_decide_eq_false q; omega) (fun b640 => ?_)
  refine w_load (pc' := 9) (v := .ref 5) (m := 1) (ykc_43 (e := (2, .aload_n kF0, 0)) rfl) rfl rfl ?_
  refine w_gf (pc' := 12) (v := .ref 7) (ykc_43 (e := (5, .getfield 15, 0)) rfl) rfl (zsg hS zs_5_6) rfl ?_
  refine w_load (pc' := 13) (v := .int (zn f)) (m := 1) (ykc_43 (e := (2, .iload_n kF1, 0)) rfl) rfl rfl ?_
  have q641 := Nat.mod_lt (f) (show 0 < C by omega)
  have zq641 := Nat.zero_le (f % C)
  have tq641 := znt (k := f % C) (by omega)
  refine w_ialk (pc' := 14) (k := f) (ykc_43 (e := (5, .iaload, 0)) rfl) (gA f (by omega)).2 (by omega) rfl ?_
  refine w_br (pc' := 18) (st' := [.int (zn (f % C))]) (ykc_43 (e := (4, .goto 4, 18)) rfl) rfl ?_
  refine w_ret (v := (some (.int (zn (f % C))))) (ykc_43 (e := (7, .ireturn, 0)) rfl) (zr_v rfl) ?_
  rw [hQ]
  exact ⟨rfl, rfl⟩
theorem zc_light {ph : pm_H} (hS : zSh ph) {sn h : Nat} {sk : Nat → Nat} (hi : zCi ph sn sk) (hh : h < 2147483648) : zM 76 [.ref 10, .int (zn h)] ph (fun v q => ph = q ∧ v = some (.int (zn (sk (h % sn))))) := by
  obtain ⟨Q, hQ⟩ : ∃ Q : Option Value → pm_H → Prop, Q = (fun v q => ph = q ∧ v = some (.int (zn (sk (h % sn))))) := ⟨_, rfl⟩
  rw [← hQ]
  refine zM_mk fun n D => ?_
  show zW n D 76 Q 0 [some (.ref 10), some (.int (zn h))] [] ph
  have c_0 : ((Int8.ofInt 20).toInt32).toInt = 20 := by decide
  have c_1 : (Int32.ofInt 0).toInt = 0 := by decide
  have c_2 : (Int32.ofInt 1).toInt = 1 := by decide
  obtain ⟨gs, hs1, hs20, gk⟩ := hi
  have ts := znt (k := sn) (by omega)
  have th := znt hh
  have hm := Nat.mod_lt h (show 0 < sn by omega)
  refine w_load (pc' := 1) (v := .ref 10) (m := 1) (ykc_76 (e := (2, .aload_n kF0, 0)) rfl) rfl rfl ?_
  refine w_gf (pc' := 4) (v := .int (zn sn)) (ykc_76 (e := (5, .getfield 29, 0)) rfl) rfl gs rfl ?_
  refine w_alu (pc' := 5) (st' := [.int (Int32.ofInt 1), .int (zn sn)]) (ykc_76 (e := (0, .iconst 1, 0)) rfl) rfl rfl ?_
  refine w_ilt (ykc_76 (e := (4, .if_icmp .lt 16, 21)) rfl) rfl (fun q => by exfalso; omega) (fun b642 => ?_)
  refine w_load (pc' := 9) (v := .ref 10) (m := 1) (ykc_76 (e := (2, .aload_n kF0, 0)) rfl) rfl rfl ?_
  refine w_gf (pc' := 12) (v := .int (zn sn)) (ykc_76 (e := (5, .getfield 29, 0)) rfl) rfl gs rfl ?_
  refine w_push (pc' := 14) (v := .int ((Int8.ofInt 20).toInt32)) (m := 2) (ykc_76 (e := (1, .bipush 20, 0)) rfl) rfl rfl ?_
  refine w_igt (ykc_76 (e := (4, .if_icmp .gt 7, 21)) rfl) rfl (fun q => by exfalso; omega) (fun b643 => ?_)
  refine w_load (pc' := 18) (v := .int (zn h)) (m := 1) (ykc_76 (e := (2, .iload_n kF1, 0)) rfl) rfl rfl ?_
  refine w_zge (ykc_76 (e := (4, .ifCond .ge 5, 23)) rfl) rfl (fun b644 => ?_) (fun q => by exfalso; omega)
  refine w_load (pc' := 24) (v := .ref 10) (m := 1) (ykc_76 (e := (2, .aload_n kF0, 0)) rfl) rfl rfl ?_
  refine w_gf (pc' := 27) (v := .ref 21) (ykc_76 (e := (5, .getfield 25, 0)) rfl) rfl (zsg hS zs_10_3) rfl ?_
  refine w_load (pc' := 28) (v := .int (zn h)) (m := 1) (ykc_76 (e := (2, .iload_n kF1, 0)) rfl) rfl rfl ?_
  refine w_load (pc' := 29) (v := .ref 10) (m := 1) (ykc_76 (e := (2, .aload_n kF0, 0)) rfl) rfl rfl ?_
  refine w_gf (pc' := 32) (v := .int (zn sn)) (ykc_76 (e := (5, .getfield 29, 0)) rfl) rfl gs rfl ?_
  refine w_irem (pc' := 33) (ykc_76 (e := (0, .irem, 0)) rfl) rfl (fun d645 => ?_)
  have e646 : (zn h) - (zn h) / (zn sn) * (zn sn) = zn (h % sn) := zn_of (zremN (by omega) (by omega) (by omega))
  have te646 := znt (k := h % sn) (by omega)
  rw [e646]
  show zW n D 76 Q 33 [some (.ref 10), some (.int (zn h))] [.int (zn (h % sn)), .ref 21] ph
  refine w_ialk (pc' := 34) (k := h % sn) (ykc_76 (e := (5, .iaload, 0)) rfl) (gk (h % sn) (by omega)).1 (by omega) rfl ?_
  refine w_ret (v := (some (.int (zn (sk (h % sn)))))) (ykc_76 (e := (7, .ireturn, 0)) rfl) (zr_v rfl) ?_
  rw [hQ]
  exact ⟨rfl, rfl⟩
end
section
/-! the class: REACH, looks, hours, by W; printed by wip/z/z_m_chour.py -/
def zCr (p q : pm_H) : Prop := zFr [15, 20, 22] [] p q
theorem zCr_x {p q : pm_H} (f : zCr p q) : zCx p q := zFr_mono f (by simp) (by simp)
theorem zCr_S {p q : pm_H} (f : zCr p q) (h : zSh p) : zSh q := zCx_S (zCr_x f) h
theorem zCr_l {p q : pm_H} {R C : Nat} {rk : Nat → Bool} (f : zCr p q) (h : zCl p R C rk) : zCl q R C rk := zCx_l (zCr_x f) h
theorem zCr_e {p q : pm_H} {E : zEn} {G : Nat} (f : zCr p q) (h : zCe p E G) : zCe q E G := zCx_e (zCr_x f) h
theorem zCr_t {p q : pm_H} {S P G : Nat} {v : Nat → Nat} (f : zCr p q) (h : zCt p S P G v) : zCt q S P G v := zCx_t (zCr_x f) h
theorem zCr_c {p q : pm_H} {R C : Nat} {rk : Nat → Bool} (f : zCr p q) (h : zCc p R C rk) : zCc q R C rk := zCc_F f (by simp) (by simp) (by simp) h
theorem zCy_x {p q : pm_H} (f : zFr [8, 9] [(5, 4)] p q) : zCx p q := zFr_mono f (by simp) (by simp)
theorem zCr_i {p q : pm_H} {sn : Nat} {sk : Nat → Nat} (f : zCr p q) (h : zCi p sn sk) : zCi q sn sk := zCi_F f (by simp) (by simp) h
theorem zc_reach {ph : pm_H} {E : zEn} {F S P G : Nat} {v : Nat → Nat} (hS : zSh ph) (hE : zCe ph E F) (ht : zCt ph S P G v) (hO : zOk E.1 E.2.1 P G v) {p br : Nat} (hp : p < P) (hb : br ≤ 4) : zM 81 [.ref 10, .ref F, .ref S, .int (zn p), .int (zn br)] ph (fun v0 q => zCr ph q ∧ v0 = some (.int (zn (zRe E P v p br)))) := by
  obtain ⟨Q, hQ⟩ : ∃ Q : Option Value → pm_H → Prop, Q = (fun v0 q => zCr ph q ∧ v0 = some (.int (zn (zRe E P v p br)))) := ⟨_, rfl⟩
  rw [← hQ]
  refine zM_mk fun n D => ?_
  show zW n D 81 Q 0 [some (.ref 10), some (.ref F), some (.ref S), some (.int (zn p)), some (.int (zn br)), none] [] ph
  have c_0 : ((Int8.ofInt 6).toInt32).toInt = 6 := by decide
  have c_1 : ((Int8.ofInt 7).toInt32).toInt = 7 := by decide
  have c_2 : ((Int8.ofInt 9).toInt32).toInt = 9 := by decide
  have c_3 : (Int32.ofInt 0).toInt = 0 := by decide
  have c_4 : (Int32.ofInt 1).toInt = 1 := by decide
  have c_5 : (Int32.ofInt 2).toInt = 2 := by decide
  have c_6 : (Int32.ofInt 3).toInt = 3 := by decide
  have c_7 : (Int32.ofInt 4).toInt = 4 := by decide
  have c_8 : (Int32.ofInt 5).toInt = 5 := by decide
  obtain ⟨R, C, rk, sn, sk, cn, cd⟩ := E
  have hL0 : zCl ph R C rk := hE.1
  have hi0 : zCi ph sn sk := hE.2.1
  have hF : F = 11 ∨ F = 16 := hE.2.2.2
  have hE0 : zCe ph (R, C, rk, sn, sk, cn, cd) F := hE
  have hO0 : zOk R C P G v := hO
  have hL := hL0
  have hs := ht.1.2
  have hd := ht.2
  have h25 := ht.1.1
  obtain ⟨gR, gC, gN, gK, gA, hR3, hR7, hC3, hC7⟩ := hL
  have hRC := zRC49 hR7 hC7
  have tR := znt (k := R) (by omega)
  have tC := znt (k := C) (by omega)
  have tRC := znt (k := R * C) (by omega)
  have hd0 := hd
  have hs0 := hs
  obtain ⟨r3, r4, r5, r6, r7, l1, l2, l3, l4, l5⟩ := hs
  obtain ⟨gP, hP8, gG, hG8, gH, gv, gw⟩ := hd
  have tP := znt (k := P) (by omega)
  have tG := znt (k := G) (by omega)
  have h40 := hO0.2.2
  have t40 := znt (k := v 40) (by omega)
  have tp := znt (k := p) (by omega)
  have tb := znt (k := br) (by omega)
  refine w_load (pc' := 1) (v := .ref S) (m := 1) (ykc_81 (e := (2, .aload_n kF2, 0)) rfl) rfl rfl ?_
  refine w_gf (pc' := 4) (v := .ref (S + 1)) (ykc_81 (e := (5, .getfield 66, 0)) rfl) rfl r3 rfl ?_
  refine w_load (pc' := 5) (v := .int (zn p)) (m := 1) (ykc_81 (e := (2, .iload_n kF3, 0)) rfl) rfl rfl ?_
  have q647 := hO0.1 p (by omega)
  have tq647 := znt (k := v p) (by omega)
  refine w_ialk (pc' := 6) (k := p) (ykc_81 (e := (5, .iaload, 0)) rfl) (gv p (by omega)).1 (by omega) rfl ?_
  refine w_store (pc' := 8) (L' := [some (.ref 10), some (.ref F), some (.ref S), some (.int (zn p)), some (.int (zn br)), some (.int (zn (v p)))]) (st' := []) (m := 2) (ykc_81 (e := (3, .istore 5, 0)) rfl) rfl rfl ?_
  refine w_load (pc' := 9) (v := .ref 10) (m := 1) (ykc_81 (e := (2, .aload_n kF0, 0)) rfl) rfl rfl ?_
  refine w_gf (pc' := 12) (v := .ref 22) (ykc_81 (e := (5, .getfield 33, 0)) rfl) rfl (zsg hS zs_10_5) rfl ?_
  refine w_alu (pc' := 13) (st' := [.int (Int32.ofInt 0), .ref 22]) (ykc_81 (e := (0, .iconst 0, 0)) rfl) rfl rfl ?_
  refine w_load (pc' := 15) (v := .int (zn br)) (m := 2) (ykc_81 (e := (2, .iload 4, 0)) rfl) rfl rfl ?_
  refine w_ias (pc' := 16) (k := 0) (ykc_81 (e := (5, .iastore, 0)) rfl) (by omega) rfl (fun ph649 u648 => ?_)
  refine w_load (pc' := 17) (v := .ref 10) (m := 1) (ykc_81 (e := (2, .aload_n kF0, 0)) rfl) rfl rfl ?_
  refine w_gf (pc' := 20) (v := .ref 22) (ykc_81 (e := (5, .getfield 33, 0)) rfl) rfl ((u648.2.1 10 5 (fun q => absurd q.1 (by decide))).trans (zsg hS zs_10_5)) rfl ?_
  refine w_alu (pc' := 21) (st' := [.int (Int32.ofInt 1), .ref 22]) (ykc_81 (e := (0, .iconst 1, 0)) rfl) rfl rfl ?_
  refine w_load (pc' := 22) (v := .ref 10) (m := 1) (ykc_81 (e := (2, .aload_n kF0, 0)) rfl) rfl rfl ?_
  refine w_load (pc' := 23) (v := .ref S) (m := 1) (ykc_81 (e := (2, .aload_n kF2, 0)) rfl) rfl rfl ?_
  refine w_gf (pc' := 26) (v := .int (zn (v 40))) (ykc_81 (e := (5, .getfield 69, 0)) rfl) rfl ((u648.2.1 S 2 (fun q => by have q2 := q.1; omega)).trans gH) rfl ?_
  refine w_cv (as := [.ref 10, .int (zn (v 40))]) (r := [.int (Int32.ofInt 1), .ref 22]) (ykc_81 (e := (6, .invokevirtual 72, 0)) rfl) rfl rfl rfl rfl (zc_light (zCr_S (zFr_st u648 (Or.inl (by simp))) hS) (zCr_i (zFr_st u648 (Or.inl (by simp))) hi0) (h := v 40) (by omega)) (fun v650 ph651 hv => ?_)
  obtain ⟨rfl, rfl⟩ := hv
  show zW n D 81 Q 29 [some (.ref 10), some (.ref F), some (.ref S), some (.int (zn p)), some (.int (zn br)), some (.int (zn (v p)))] [.int (zn (sk ((v 40) % sn))), .int (Int32.ofInt 1), .ref 22] ph649
  refine w_ias (pc' := 30) (k := 1) (ykc_81 (e := (5, .iastore, 0)) rfl) (by omega) rfl (fun ph653 u652 => ?_)
  refine w_load (pc' := 31) (v := .ref 10) (m := 1) (ykc_81 (e := (2, .aload_n kF0, 0)) rfl) rfl rfl ?_
  refine w_gf (pc' := 34) (v := .ref 22) (ykc_81 (e := (5, .getfield 33, 0)) rfl) rfl ((u652.2.1 10 5 (fun q => absurd q.1 (by decide))).trans ((u648.2.1 10 5 (fun q => absurd q.1 (by decide))).trans (zsg hS zs_10_5))) rfl ?_
  refine w_alu (pc' := 35) (st' := [.int (Int32.ofInt 2), .ref 22]) (ykc_81 (e := (0, .iconst 2, 0)) rfl) rfl rfl ?_
  refine w_load (pc' := 36) (v := .ref S) (m := 1) (ykc_81 (e := (2, .aload_n kF2, 0)) rfl) rfl rfl ?_
  refine w_gf (pc' := 39) (v := .ref (S + 4)) (ykc_81 (e := (5, .getfield 75, 0)) rfl) rfl ((u652.2.1 S 6 (fun q => by have q2 := q.1; omega)).trans ((u648.2.1 S 6 (fun q => by have q2 := q.1; omega)).trans r6)) rfl ?_
  refine w_load (pc' := 40) (v := .int (zn p)) (m := 1) (ykc_81 (e := (2, .iload_n kF3, 0)) rfl) rfl rfl ?_
  have q654 := hO0.1 p (by omega)
  have tq654 := znt (k := v (24 + p)) (by omega)
  refine w_ialk (pc' := 41) (k := p) (ykc_81 (e := (5, .iaload, 0)) rfl) ((u652.2.1 (S + 4) p (fun q => by have q2 := q.1; omega)).trans ((u648.2.1 (S + 4) p (fun q => by have q2 := q.1; omega)).trans (gv p (by omega)).2.2.2)) (by omega) rfl ?_
  refine w_cs (as := [.int (zn (v (24 + p)))]) (r := [.int (Int32.ofInt 2), .ref 22]) (ykc_81 (e := (6, .invokestatic 78, 0)) rfl) rfl rfl rfl rfl (zj_pc) (fun v655 ph656 hv => ?_)
  obtain ⟨rfl, rfl⟩ := hv
  show zW n D 81 Q 44 [some (.ref 10), some (.ref F), some (.ref S), some (.int (zn p)), some (.int (zn br)), some (.int (zn (v p)))] [.int (zpc (zn (v (24 + p)))), .int (Int32.ofInt 2), .ref 22] ph653
  refine w_ias (pc' := 45) (k := 2) (ykc_81 (e := (5, .iastore, 0)) rfl) (by omega) rfl (fun ph658 u657 => ?_)
  refine w_load (pc' := 46) (v := .ref 10) (m := 1) (ykc_81 (e := (2, .aload_n kF0, 0)) rfl) rfl rfl ?_
  refine w_gf (pc' := 49) (v := .ref 22) (ykc_81 (e := (5, .getfield 33, 0)) rfl) rfl ((u657.2.1 10 5 (fun q => absurd q.1 (by decide))).trans ((u652.2.1 10 5 (fun q => absurd q.1 (by decide))).trans ((u648.2.1 10 5 (fun q => absurd q.1 (by decide))).trans (zsg hS zs_10_5)))) rfl ?_
  refine w_alu (pc' := 50) (st' := [.int (Int32.ofInt 3), .ref 22]) (ykc_81 (e := (0, .iconst 3, 0)) rfl) rfl rfl ?_
  refine w_load (pc' := 51) (v := .ref S) (m := 1) (ykc_81 (e := (2, .aload_n kF2, 0)) rfl) rfl rfl ?_
  refine w_gf (pc' := 54) (v := .ref (S + 2)) (ykc_81 (e := (5, .getfield 83, 0)) rfl) rfl ((u657.2.1 S 4 (fun q => by have q2 := q.1; omega)).trans ((u652.2.1 S 4 (fun q => by have q2 := q.1; omega)).trans ((u648.2.1 S 4 (fun q => by have q2 := q.1; omega)).trans r4))) rfl ?_
  refine w_load (pc' := 55) (v := .int (zn p)) (m := 1) (ykc_81 (e := (2, .iload_n kF3, 0)) rfl) rfl rfl ?_
  have q659 := hO0.1 p (by omega)
  have tq659 := znt (k := v (8 + p)) (by omega)
  refine w_ialk (pc' := 56) (k := p) (ykc_81 (e := (5, .iaload, 0)) rfl) ((u657.2.1 (S + 2) p (fun q => by have q2 := q.1; omega)).trans ((u652.2.1 (S + 2) p (fun q => by have q2 := q.1; omega)).trans ((u648.2.1 (S + 2) p (fun q => by have q2 := q.1; omega)).trans (gv p (by omega)).2.1))) (by omega) rfl ?_
  refine w_ias (pc' := 57) (k := 3) (ykc_81 (e := (5, .iastore, 0)) rfl) (by omega) rfl (fun ph661 u660 => ?_)
  refine w_load (pc' := 58) (v := .ref 10) (m := 1) (ykc_81 (e := (2, .aload_n kF0, 0)) rfl) rfl rfl ?_
  refine w_gf (pc' := 61) (v := .ref 22) (ykc_81 (e := (5, .getfield 33, 0)) rfl) rfl ((u660.2.1 10 5 (fun q => absurd q.1 (by decide))).trans ((u657.2.1 10 5 (fun q => absurd q.1 (by decide))).trans ((u652.2.1 10 5 (fun q => absurd q.1 (by decide))).trans ((u648.2.1 10 5 (fun q => absurd q.1 (by decide))).trans (zsg hS zs_10_5))))) rfl ?_
  refine w_alu (pc' := 62) (st' := [.int (Int32.ofInt 4), .ref 22]) (ykc_81 (e := (0, .iconst 4, 0)) rfl) rfl rfl ?_
  refine w_load (pc' := 63) (v := .ref 10) (m := 1) (ykc_81 (e := (2, .aload_n kF0, 0)) rfl) rfl rfl ?_
  refine w_gf (pc' := 66) (v := .ref 5) (ykc_81 (e := (5, .getfield 9, 0)) rfl) rfl ((u660.2.1 10 0 (fun q => absurd q.1 (by decide))).trans ((u657.2.1 10 0 (fun q => absurd q.1 (by decide))).trans ((u652.2.1 10 0 (fun q => absurd q.1 (by decide))).trans ((u648.2.1 10 0 (fun q => absurd q.1 (by decide))).trans (zsg hS zs_10_0))))) rfl ?_
  refine w_load (pc' := 68) (v := .int (zn (v p))) (m := 2) (ykc_81 (e := (2, .iload 5, 0)) rfl) rfl rfl ?_
  refine w_cv (as := [.ref 5, .int (zn (v p))]) (r := [.int (Int32.ofInt 4), .ref 22]) (ykc_81 (e := (6, .invokevirtual 86, 0)) rfl) rfl rfl rfl rfl (zc_rowOf (zCr_S (zFr_trans (zFr_trans (zFr_trans (zFr_st u648 (Or.inl (by simp))) (zFr_st u652 (Or.inl (by simp)))) (zFr_st u657 (Or.inl (by simp)))) (zFr_st u660 (Or.inl (by simp)))) hS) (zCr_l (zFr_trans (zFr_trans (zFr_trans (zFr_st u648 (Or.inl (by simp))) (zFr_st u652 (Or.inl (by simp)))) (zFr_st u657 (Or.inl (by simp)))) (zFr_st u660 (Or.inl (by simp)))) hL0) (f := v p) (by omega)) (fun v663 ph664 hv => ?_)
  obtain ⟨rfl, rfl⟩ := hv
  have q662 : v p < R * C := by omega
  have mq662 : (v p) / C < R := (Nat.div_lt_iff_lt_mul (by omega)).mpr q662
  have zq662 := Nat.zero_le ((v p) / C)
  have tq662 := znt (k := (v p) / C) (by omega)
  show zW n D 81 Q 71 [some (.ref 10), some (.ref F), some (.ref S), some (.int (zn p)), some (.int (zn br)), some (.int (zn (v p)))] [.int (zn ((v p) / C)), .int (Int32.ofInt 4), .ref 22] ph661
  refine w_ias (pc' := 72) (k := 4) (ykc_81 (e := (5, .iastore, 0)) rfl) (by omega) rfl (fun ph666 u665 => ?_)
  refine w_load (pc' := 73) (v := .ref 10) (m := 1) (ykc_81 (e := (2, .aload_n kF0, 0)) rfl) rfl rfl ?_
  refine w_gf (pc' := 76) (v := .ref 22) (ykc_81 (e := (5, .getfield 33, 0)) rfl) rfl ((u665.2.1 10 5 (fun q => absurd q.1 (by decide))).trans ((u660.2.1 10 5 (fun q => absurd q.1 (by decide))).trans ((u657.2.1 10 5 (fun q => absurd q.1 (by decide))).trans ((u652.2.1 10 5 (fun q => absurd q.1 (by decide))).trans ((u648.2.1 10 5 (fun q => absurd q.1 (by decide))).trans (zsg hS zs_10_5)))))) rfl ?_
  refine w_alu (pc' := 77) (st' := [.int (Int32.ofInt 5), .ref 22]) (ykc_81 (e := (0, .iconst 5, 0)) rfl) rfl rfl ?_
  refine w_load (pc' := 78) (v := .ref 10) (m := 1) (ykc_81 (e := (2, .aload_n kF0, 0)) rfl) rfl rfl ?_
  refine w_gf (pc' := 81) (v := .ref 5) (ykc_81 (e := (5, .getfield 9, 0)) rfl) rfl ((u665.2.1 10 0 (fun q => absurd q.1 (by decide))).trans ((u660.2.1 10 0 (fun q => absurd q.1 (by decide))).trans ((u657.2.1 10 0 (fun q => absurd q.1 (by decide))).trans ((u652.2.1 10 0 (fun q => absurd q.1 (by decide))).trans ((u648.2.1 10 0 (fun q => absurd q.1 (by decide))).trans (zsg hS zs_10_0)))))) rfl ?_
  refine w_load (pc' := 83) (v := .int (zn (v p))) (m := 2) (ykc_81 (e := (2, .iload 5, 0)) rfl) rfl rfl ?_
  refine w_cv (as := [.ref 5, .int (zn (v p))]) (r := [.int (Int32.ofInt 5), .ref 22]) (ykc_81 (e := (6, .invokevirtual 91, 0)) rfl) rfl rfl rfl rfl (zc_colOf (zCr_S (zFr_trans (zFr_trans (zFr_trans (zFr_trans (zFr_st u648 (Or.inl (by simp))) (zFr_st u652 (Or.inl (by simp)))) (zFr_st u657 (Or.inl (by simp)))) (zFr_st u660 (Or.inl (by simp)))) (zFr_st u665 (Or.inl (by simp)))) hS) (zCr_l (zFr_trans (zFr_trans (zFr_trans (zFr_trans (zFr_st u648 (Or.inl (by simp))) (zFr_st u652 (Or.inl (by simp)))) (zFr_st u657 (Or.inl (by simp)))) (zFr_st u660 (Or.inl (by simp)))) (zFr_st u665 (Or.inl (by simp)))) hL0) (f := v p) (by omega)) (fun v668 ph669 hv => ?_)
  obtain ⟨rfl, rfl⟩ := hv
  have q667 : v p < R * C := by omega
  have mq667 := Nat.mod_lt (v p) (show 0 < C by omega)
  have zq667 := Nat.zero_le ((v p) % C)
  have tq667 := znt (k := (v p) % C) (by omega)
  show zW n D 81 Q 86 [some (.ref 10), some (.ref F), some (.ref S), some (.int (zn p)), some (.int (zn br)), some (.int (zn (v p)))] [.int (zn ((v p) % C)), .int (Int32.ofInt 5), .ref 22] ph666
  refine w_ias (pc' := 87) (k := 5) (ykc_81 (e := (5, .iastore, 0)) rfl) (by omega) rfl (fun ph671 u670 => ?_)
  refine w_load (pc' := 88) (v := .ref 10) (m := 1) (ykc_81 (e := (2, .aload_n kF0, 0)) rfl) rfl rfl ?_
  refine w_gf (pc' := 91) (v := .ref 22) (ykc_81 (e := (5, .getfield 33, 0)) rfl) rfl ((u670.2.1 10 5 (fun q => absurd q.1 (by decide))).trans ((u665.2.1 10 5 (fun q => absurd q.1 (by decide))).trans ((u660.2.1 10 5 (fun q => absurd q.1 (by decide))).trans ((u657.2.1 10 5 (fun q => absurd q.1 (by decide))).trans ((u652.2.1 10 5 (fun q => absurd q.1 (by decide))).trans ((u648.2.1 10 5 (fun q => absurd q.1 (by decide))).trans (zsg hS zs_10_5))))))) rfl ?_
  refine w_push (pc' := 93) (v := .int ((Int8.ofInt 6).toInt32)) (m := 2) (ykc_81 (e := (1, .bipush 6, 0)) rfl) rfl rfl ?_
  refine w_load (pc' := 94) (v := .ref S) (m := 1) (ykc_81 (e := (2, .aload_n kF2, 0)) rfl) rfl rfl ?_
  refine w_gf (pc' := 97) (v := .int (zn (v 40))) (ykc_81 (e := (5, .getfield 69, 0)) rfl) rfl ((u670.2.1 S 2 (fun q => by have q2 := q.1; omega)).trans ((u665.2.1 S 2 (fun q => by have q2 := q.1; omega)).trans ((u660.2.1 S 2 (fun q => by have q2 := q.1; omega)).trans ((u657.2.1 S 2 (fun q => by have q2 := q.1; omega)).trans ((u652.2.1 S 2 (fun q => by have q2 := q.1; omega)).trans ((u648.2.1 S 2 (fun q => by have q2 := q.1; omega)).trans gH)))))) rfl ?_
  refine w_push (pc' := 99) (v := .int ((Int8.ofInt 7).toInt32)) (m := 2) (ykc_81 (e := (1, .bipush 7, 0)) rfl) rfl rfl ?_
  refine w_irem (pc' := 100) (ykc_81 (e := (0, .irem, 0)) rfl) rfl (fun d673 => ?_)
  have m672 := Nat.mod_lt (v 40) (show 0 < 7 by omega)
  have zm672 := Nat.zero_le (v 40 % 7)
  have e674 : (zn (v 40)) - (zn (v 40)) / ((Int8.ofInt 7).toInt32) * ((Int8.ofInt 7).toInt32) = zn (v 40 % 7) := zn_of (zremN (by omega) (by omega) (by omega))
  have te674 := znt (k := v 40 % 7) (by omega)
  rw [e674]
  show zW n D 81 Q 100 [some (.ref 10), some (.ref F), some (.ref S), some (.int (zn p)), some (.int (zn br)), some (.int (zn (v p)))] [.int (zn (v 40 % 7)), .int ((Int8.ofInt 6).toInt32), .ref 22] ph671
  refine w_ias (pc' := 101) (k := 6) (ykc_81 (e := (5, .iastore, 0)) rfl) (by omega) rfl (fun ph676 u675 => ?_)
  refine w_load (pc' := 102) (v := .ref 10) (m := 1) (ykc_81 (e := (2, .aload_n kF0, 0)) rfl) rfl rfl ?_
  refine w_gf (pc' := 105) (v := .ref 22) (ykc_81 (e := (5, .getfield 33, 0)) rfl) rfl ((u675.2.1 10 5 (fun q => absurd q.1 (by decide))).trans ((u670.2.1 10 5 (fun q => absurd q.1 (by decide))).trans ((u665.2.1 10 5 (fun q => absurd q.1 (by decide))).trans ((u660.2.1 10 5 (fun q => absurd q.1 (by decide))).trans ((u657.2.1 10 5 (fun q => absurd q.1 (by decide))).trans ((u652.2.1 10 5 (fun q => absurd q.1 (by decide))).trans ((u648.2.1 10 5 (fun q => absurd q.1 (by decide))).trans (zsg hS zs_10_5)))))))) rfl ?_
  refine w_push (pc' := 107) (v := .int ((Int8.ofInt 7).toInt32)) (m := 2) (ykc_81 (e := (1, .bipush 7, 0)) rfl) rfl rfl ?_
  refine w_load (pc' := 108) (v := .ref S) (m := 1) (ykc_81 (e := (2, .aload_n kF2, 0)) rfl) rfl rfl ?_
  refine w_alu (pc' := 109) (st' := [.long (Int64.ofNat kG1), .ref S, .int ((Int8.ofInt 7).toInt32), .ref 22]) (ykc_81 (e := (0, .lconst kG1, 0)) rfl) rfl rfl ?_
  refine w_load (pc' := 111) (v := .int (zn (v p))) (m := 2) (ykc_81 (e := (2, .iload 5, 0)) rfl) rfl rfl ?_
  refine w_alu (pc' := 112) (st' := [.long ((Int64.ofNat kG1) <<< ((zn (v p)).toInt64 &&& 63)), .ref S, .int ((Int8.ofInt 7).toInt32), .ref 22]) (ykc_81 (e := (0, .lshl, 0)) rfl) rfl rfl ?_
  refine w_cv (as := [.ref S, .long ((Int64.ofNat kG1) <<< ((zn (v p)).toInt64 &&& 63))]) (r := [.int ((Int8.ofInt 7).toInt32), .ref 22]) (ykc_81 (e := (6, .invokevirtual 94, 0)) rfl) rfl rfl rfl rfl (zc_pon (zCr_t (zFr_trans (zFr_trans (zFr_trans (zFr_trans (zFr_trans (zFr_trans (zFr_st u648 (Or.inl (by simp))) (zFr_st u652 (Or.inl (by simp)))) (zFr_st u657 (Or.inl (by simp)))) (zFr_st u660 (Or.inl (by simp)))) (zFr_st u665 (Or.inl (by simp)))) (zFr_st u670 (Or.inl (by simp)))) (zFr_st u675 (Or.inl (by simp)))) ht).1.2 (zCr_t (zFr_trans (zFr_trans (zFr_trans (zFr_trans (zFr_trans (zFr_trans (zFr_st u648 (Or.inl (by simp))) (zFr_st u652 (Or.inl (by simp)))) (zFr_st u657 (Or.inl (by simp)))) (zFr_st u660 (Or.inl (by simp)))) (zFr_st u665 (Or.inl (by simp)))) (zFr_st u670 (Or.inl (by simp)))) (zFr_st u675 (Or.inl (by simp)))) ht).2 (x := (Int64.ofNat kG1) <<< ((zn (v p)).toInt64 &&& 63)) (fun i hi => by have := (hO0.1 i hi).1; omega)) (fun v677 ph678 hv => ?_)
  obtain ⟨rfl, rfl⟩ := hv
  show zW n D 81 Q 115 [some (.ref 10), some (.ref F), some (.ref S), some (.int (zn p)), some (.int (zn br)), some (.int (zn (v p)))] [.int (zPon P v ((Int64.ofNat kG1) <<< ((zn (v p)).toInt64 &&& 63))), .int ((Int8.ofInt 7).toInt32), .ref 22] ph676
  refine w_cs (as := [.int (zPon P v ((Int64.ofNat kG1) <<< ((zn (v p)).toInt64 &&& 63)))]) (r := [.int ((Int8.ofInt 7).toInt32), .ref 22]) (ykc_81 (e := (6, .invokestatic 78, 0)) rfl) rfl rfl rfl rfl (zj_pc) (fun v679 ph680 hv => ?_)
  obtain ⟨rfl, rfl⟩ := hv
  rw [zpon_1 hP8 (by omega) (fun q hq => by have := (hO0.1 q hq).1; omega)]
  have hct := @zct_le v (v p) P
  have tct := znt (k := zct v (v p) P) (by omega)
  show zW n D 81 Q 118 [some (.ref 10), some (.ref F), some (.ref S), some (.int (zn p)), some (.int (zn br)), some (.int (zn (v p)))] [.int (zn (zct v (v p) P)), .int ((Int8.ofInt 7).toInt32), .ref 22] ph676
  refine w_ias (pc' := 119) (k := 7) (ykc_81 (e := (5, .iastore, 0)) rfl) (by omega) rfl (fun ph682 u681 => ?_)
  refine w_alu (pc' := 120) (st' := [.int (Int32.ofInt 0)]) (ykc_81 (e := (0, .iconst 0, 0)) rfl) rfl rfl ?_
  refine w_push (pc' := 122) (v := .int ((Int8.ofInt 9).toInt32)) (m := 2) (ykc_81 (e := (1, .bipush 9, 0)) rfl) rfl rfl ?_
  refine w_load (pc' := 123) (v := .ref F) (m := 1) (ykc_81 (e := (2, .aload_n kF1, 0)) rfl) rfl rfl ?_
  refine w_load (pc' := 124) (v := .ref 10) (m := 1) (ykc_81 (e := (2, .aload_n kF0, 0)) rfl) rfl rfl ?_
  refine w_gf (pc' := 127) (v := .ref 22) (ykc_81 (e := (5, .getfield 33, 0)) rfl) rfl ((u681.2.1 10 5 (fun q => absurd q.1 (by decide))).trans ((u675.2.1 10 5 (fun q => absurd q.1 (by decide))).trans ((u670.2.1 10 5 (fun q => absurd q.1 (by decide))).trans ((u665.2.1 10 5 (fun q => absurd q.1 (by decide))).trans ((u660.2.1 10 5 (fun q => absurd q.1 (by decide))).trans ((u657.2.1 10 5 (fun q => absurd q.1 (by decide))).trans ((u652.2.1 10 5 (fun q => absurd q.1 (by decide))).trans ((u648.2.1 10 5 (fun q => absurd q.1 (by decide))).trans (zsg hS zs_10_5))))))))) rfl ?_
  refine w_cv (as := [.ref F, .ref 22]) (r := [.int ((Int8.ofInt 9).toInt32), .int (Int32.ofInt 0)]) (ykc_81 (e := (6, .invokevirtual 98, 0)) rfl) rfl rfl rfl rfl (zc_value (zCr_S (zFr_trans (zFr_trans (zFr_trans (zFr_trans (zFr_trans (zFr_trans (zFr_trans (zFr_st u648 (Or.inl (by simp))) (zFr_st u652 (Or.inl (by simp)))) (zFr_st u657 (Or.inl (by simp)))) (zFr_st u660 (Or.inl (by simp)))) (zFr_st u665 (Or.inl (by simp)))) (zFr_st u670 (Or.inl (by simp)))) (zFr_st u675 (Or.inl (by simp)))) (zFr_st u681 (Or.inl (by simp)))) hS) hF (zCr_e (zFr_trans (zFr_trans (zFr_trans (zFr_trans (zFr_trans (zFr_trans (zFr_trans (zFr_st u648 (Or.inl (by simp))) (zFr_st u652 (Or.inl (by simp)))) (zFr_st u657 (Or.inl (by simp)))) (zFr_st u660 (Or.inl (by simp)))) (zFr_st u665 (Or.inl (by simp)))) (zFr_st u670 (Or.inl (by simp)))) (zFr_st u675 (Or.inl (by simp)))) (zFr_st u681 (Or.inl (by simp)))) hE0).2.2.1 (as := zas (R, C, rk, sn, sk, cn, cd) P v p br) (fun i hi => by
      rcases (show i = 0 ∨ i = 1 ∨ i = 2 ∨ i = 3 ∨ i = 4 ∨ i = 5 ∨ i = 6 ∨ i = 7 by omega) with e | e | e | e | e | e | e | e
      · subst e; exact ((u681.2.1 22 0 (fun q => absurd q.2 (by decide))).trans ((u675.2.1 22 0 (fun q => absurd q.2 (by decide))).trans ((u670.2.1 22 0 (fun q => absurd q.2 (by decide))).trans ((u665.2.1 22 0 (fun q => absurd q.2 (by decide))).trans ((u660.2.1 22 0 (fun q => absurd q.2 (by decide))).trans ((u657.2.1 22 0 (fun q => absurd q.2 (by decide))).trans ((u652.2.1 22 0 (fun q => absurd q.2 (by decide))).trans u648.1))))))).trans (by unfold zas; simp)
      · subst e; exact ((u681.2.1 22 1 (fun q => absurd q.2 (by decide))).trans ((u675.2.1 22 1 (fun q => absurd q.2 (by decide))).trans ((u670.2.1 22 1 (fun q => absurd q.2 (by decide))).trans ((u665.2.1 22 1 (fun q => absurd q.2 (by decide))).trans ((u660.2.1 22 1 (fun q => absurd q.2 (by decide))).trans ((u657.2.1 22 1 (fun q => absurd q.2 (by decide))).trans u652.1)))))).trans (by unfold zas; simp)
      · subst e; exact ((u681.2.1 22 2 (fun q => absurd q.2 (by decide))).trans ((u675.2.1 22 2 (fun q => absurd q.2 (by decide))).trans ((u670.2.1 22 2 (fun q => absurd q.2 (by decide))).trans ((u665.2.1 22 2 (fun q => absurd q.2 (by decide))).trans ((u660.2.1 22 2 (fun q => absurd q.2 (by decide))).trans u657.1))))).trans (by unfold zas; simp)
      · subst e; exact ((u681.2.1 22 3 (fun q => absurd q.2 (by decide))).trans ((u675.2.1 22 3 (fun q => absurd q.2 (by decide))).trans ((u670.2.1 22 3 (fun q => absurd q.2 (by decide))).trans ((u665.2.1 22 3 (fun q => absurd q.2 (by decide))).trans u660.1)))).trans (by unfold zas; simp)
      · subst e; exact ((u681.2.1 22 4 (fun q => absurd q.2 (by decide))).trans ((u675.2.1 22 4 (fun q => absurd q.2 (by decide))).trans ((u670.2.1 22 4 (fun q => absurd q.2 (by decide))).trans u665.1))).trans (by unfold zas; simp)
      · subst e; exact ((u681.2.1 22 5 (fun q => absurd q.2 (by decide))).trans ((u675.2.1 22 5 (fun q => absurd q.2 (by decide))).trans u670.1)).trans (by unfold zas; simp)
      · subst e; exact ((u681.2.1 22 6 (fun q => absurd q.2 (by decide))).trans u675.1).trans (by unfold zas; simp)
      · subst e; exact u681.1.trans (by unfold zas; simp))) (fun v684 ph685 hv => ?_)
  obtain ⟨f683, rfl⟩ := hv
  have f683 : zCr _ _ := zFr_mono f683 (by simp) (by simp)
  show zW n D 81 Q 130 [some (.ref 10), some (.ref F), some (.ref S), some (.int (zn p)), some (.int (zn br)), some (.int (zn (v p)))] [.int (zval (zas (R, C, rk, sn, sk, cn, cd) P v p br) cn cd), .int ((Int8.ofInt 9).toInt32), .int (Int32.ofInt 0)] ph685
  obtain ⟨z686, e_z686⟩ : ∃ zq : Int32, (if (zval (zas (R, C, rk, sn, sk, cn, cd) P v p br) cn cd) < ((Int8.ofInt 9).toInt32) then (zval (zas (R, C, rk, sn, sk, cn, cd) P v p br) cn cd) else ((Int8.ofInt 9).toInt32)) = zq := ⟨_, rfl⟩
  have h_z686 := zminI e_z686
  refine w_mem1 (pc' := 133) (m := 3) (st' := [.int z686, .int (Int32.ofInt 0)]) (ph' := ph685) (ykc_81 (e := (5, .invokestatic 102, 0)) rfl) (by rw [← e_z686]; rfl) rfl ?_
  obtain ⟨z687, e_z687⟩ : ∃ zq : Int32, (if (Int32.ofInt 0) < z686 then z686 else (Int32.ofInt 0)) = zq := ⟨_, rfl⟩
  have h_z687 := zmaxI e_z687
  refine w_mem1 (pc' := 136) (m := 3) (st' := [.int z687]) (ph' := ph685) (ykc_81 (e := (5, .invokestatic 108, 0)) rfl) (by rw [← e_z687]; rfl) rfl ?_
  refine w_ret (v := (some (.int z687))) (ykc_81 (e := (7, .ireturn, 0)) rfl) (zr_v rfl) ?_
  rw [hQ]
  exact ⟨(zFr_trans (zFr_trans (zFr_trans (zFr_trans (zFr_trans (zFr_trans (zFr_trans (zFr_trans (zFr_st u648 (Or.inl (by simp))) (zFr_st u652 (Or.inl (by simp)))) (zFr_st u657 (Or.inl (by simp)))) (zFr_st u660 (Or.inl (by simp)))) (zFr_st u665 (Or.inl (by simp)))) (zFr_st u670 (Or.inl (by simp)))) (zFr_st u675 (Or.inl (by simp)))) (zFr_st u681 (Or.inl (by simp)))) f683), by rw [zn_of (x := z687) (k := zrc (zval (zas (R, C, rk, sn, sk, cn, cd) P v p br) cn cd)) (by rw [zrcI]; omega)]; rfl⟩
theorem zc_look {ph : pm_H} {E : zEn} {F S P G : Nat} {v : Nat → Nat} (hS : zSh ph) (hE : zCe ph E F) (ht : zCt ph S P G v) (hO : zOk E.1 E.2.1 P G v) (hc : zCc ph E.1 E.2.1 E.2.2.1) : zM 85 [.ref 10, .ref F, .ref S] ph (fun v0 q => zCx ph q ∧ zCc q E.1 E.2.1 E.2.2.1 ∧ (∀ i, i < P → zc q 23 i = some (.long (zVw E P v i))) ∧ v0 = some (.long (zAll E P v))) := by
  obtain ⟨Q, hQ⟩ : ∃ Q : Option Value → pm_H → Prop, Q = (fun v0 q => zCx ph q ∧ zCc q E.1 E.2.1 E.2.2.1 ∧ (∀ i, i < P → zc q 23 i = some (.long (zVw E P v i))) ∧ v0 = some (.long (zAll E P v))) := ⟨_, rfl⟩
  rw [← hQ]
  refine zM_mk fun n D => ?_
  show zW n D 85 Q 0 [some (.ref 10), some (.ref F), some (.ref S), none, none, none, none] [] ph
  have c_0 : ((Int8.ofInt 8).toInt32).toInt = 8 := by decide
  have c_1 : (Int32.ofInt 0).toInt = 0 := by decide
  have c_2 : (Int32.ofInt 1).toInt = 1 := by decide
  obtain ⟨R, C, rk, sn, sk, cn, cd⟩ := E
  have hL0 : zCl ph R C rk := hE.1
  have hi0 : zCi ph sn sk := hE.2.1
  have hF : F = 11 ∨ F = 16 := hE.2.2.2
  have hE0 : zCe ph (R, C, rk, sn, sk, cn, cd) F := hE
  have hO0 : zOk R C P G v := hO
  have hL := hL0
  have hs := ht.1.2
  have hd := ht.2
  have h25 := ht.1.1
  obtain ⟨gR, gC, gN, gK, gA, hR3, hR7, hC3, hC7⟩ := hL
  have hRC := zRC49 hR7 hC7
  have tR := znt (k := R) (by omega)
  have tC := znt (k := C) (by omega)
  have tRC := znt (k := R * C) (by omega)
  have hd0 := hd
  have hs0 := hs
  obtain ⟨r3, r4, r5, r6, r7, l1, l2, l3, l4, l5⟩ := hs
  obtain ⟨gP, hP8, gG, hG8, gH, gv, gw⟩ := hd
  have tP := znt (k := P) (by omega)
  have tG := znt (k := G) (by omega)
  have h40 := hO0.2.2
  have t40 := znt (k := v 40) (by omega)
  refine w_alu (pc' := 1) (st' := [.long (Int64.ofNat kG0)]) (ykc_85 (e := (0, .lconst kG0, 0)) rfl) rfl rfl ?_
  refine w_store (pc' := 2) (L' := [some (.ref 10), some (.ref F), some (.ref S), some (.long (Int64.ofNat kG0)), none, none, none]) (st' := []) (m := 1) (ykc_85 (e := (3, .lstore_n kF3, 0)) rfl) rfl rfl ?_
  refine w_alu (pc' := 3) (st' := [.int (Int32.ofInt 0)]) (ykc_85 (e := (0, .iconst 0, 0)) rfl) rfl rfl ?_
  refine w_store (pc' := 5) (L' := [some (.ref 10), some (.ref F), some (.ref S), some (.long (Int64.ofNat kG0)), none, some (.int (Int32.ofInt 0)), none]) (st' := []) (m := 2) (ykc_85 (e := (3, .istore 5, 0)) rfl) rfl rfl ?_
  have hl : ∀ (n : Nat), ∀ (k : Nat) (x6 : Option Value) (ph1 : pm_H), (k ≤ P) → (zCx ph ph1) → (zCc ph1 R C rk) → (∀ i, i < k → zc ph1 23 i = some (.long (zVw (R, C, rk, sn, sk, cn, cd) P v i))) → zW n D 85 Q 5 [some (.ref 10), some (.ref F), some (.ref S), some (.long (zU (zVw (R, C, rk, sn, sk, cn, cd) P v) k)), none, some (.int (zn k)), x6] [] ph1 := by
    intro n
    induction n using Nat.strongRecOn with
    | ind n ih =>
      intro k x6 ph1 hk hf hc1 hvw
      have tk := znt (k := k) (by omega)
      refine w_load (pc' := 7) (v := .int (zn k)) (m := 2) (ykc_85 (e := (2, .iload 5, 0)) rfl) rfl rfl ?_
      refine w_load (pc' := 8) (v := .ref S) (m := 1) (ykc_85 (e := (2, .aload_n kF2, 0)) rfl) rfl rfl ?_
      refine w_gf (pc' := 11) (v := .int (zn P)) (ykc_85 (e := (5, .getfield 122, 0)) rfl) rfl ((hf.1 S 0 (by simp <;> omega) (by simp <;> omega)).trans gP) rfl ?_
      refine w_ige (ykc_85 (e := (4, .if_icmp .ge 80, 91)) rfl) rfl (fun b688 => ?_) (fun b688 => ?_)
      · refine w_load (pc' := 92) (v := .long (zU (zVw (R, C, rk, sn, sk, cn, cd) P v) k)) (m := 1) (ykc_85 (e := (2, .lload_n kF3, 0)) rfl) rfl rfl ?_
        refine w_ret (v := (some (.long (zU (zVw (R, C, rk, sn, sk, cn, cd) P v) k)))) (ykc_85 (e := (7, .lreturn, 0)) rfl) (zr_v rfl) ?_
        have ek : P = k := by omega
        subst ek
        rw [hQ]
        exact ⟨hf, hc1, hvw, rfl⟩
      · refine w_load (pc' := 16) (v := .int (zn k)) (m := 2) (ykc_85 (e := (2, .iload 5, 0)) rfl) rfl rfl ?_
        refine w_push (pc' := 18) (v := .int ((Int8.ofInt 8).toInt32)) (m := 2) (ykc_85 (e := (1, .bipush 8, 0)) rfl) rfl rfl ?_
        refine w_ige (ykc_85 (e := (4, .if_icmp .ge 73, 91)) rfl) rfl (fun q => by exfalso; omega) (fun b689 => ?_)
        refine w_load (pc' := 22) (v := .ref 10) (m := 1) (ykc_85 (e := (2, .aload_n kF0, 0)) rfl) rfl rfl ?_
        refine w_load (pc' := 23) (v := .ref F) (m := 1) (ykc_85 (e := (2, .aload_n kF1, 0)) rfl) rfl rfl ?_
        refine w_load (pc' := 24) (v := .ref S) (m := 1) (ykc_85 (e := (2, .aload_n kF2, 0)) rfl) rfl rfl ?_
        refine w_load (pc' := 26) (v := .int (zn k)) (m := 2) (ykc_85 (e := (2, .iload 5, 0)) rfl) rfl rfl ?_
        refine w_load (pc' := 27) (v := .ref S) (m := 1) (ykc_85 (e := (2, .aload_n kF2, 0)) rfl) rfl rfl ?_
        refine w_gf (pc' := 30) (v := .ref (S + 3)) (ykc_85 (e := (5, .getfield 59, 0)) rfl) rfl ((hf.1 S 5 (by simp <;> omega) (by simp <;> omega)).trans r5) rfl ?_
        refine w_load (pc' := 32) (v := .int (zn k)) (m := 2) (ykc_85 (e := (2, .iload 5, 0)) rfl) rfl rfl ?_
        have q690 := hO0.1 k (by omega)
        have tq690 := znt (k := v (16 + k)) (by omega)
        refine w_ialk (pc' := 33) (k := k) (ykc_85 (e := (5, .iaload, 0)) rfl) ((hf.1 (S + 3) k (by simp <;> omega) (by simp <;> omega)).trans (gv k (by omega)).2.2.1) (by omega) rfl ?_
        refine w_cv (as := [.ref 10, .ref F, .ref S, .int (zn k), .int (zn (v (16 + k)))]) (r := []) (ykc_85 (e := (6, .invokevirtual 62, 0)) rfl) rfl rfl rfl rfl (zc_reach (zCx_S hf hS) (zCx_e hf hE0) (zCx_t hf ht) hO0 (p := k) (br := v (16 + k)) (by omega) (by omega)) (fun v692 ph693 hv => ?_)
        obtain ⟨f691, rfl⟩ := hv
        have rf691 := @zRe_9 (R, C, rk, sn, sk, cn, cd) P v k (v (16 + k))
        have trf691 := znt (k := zRe (R, C, rk, sn, sk, cn, cd) P v k (v (16 + k))) (by omega)
        show zW n D 85 Q 36 [some (.ref 10), some (.ref F), some (.ref S), some (.long (zU (zVw (R, C, rk, sn, sk, cn, cd) P v) k)), none, some (.int (zn k)), x6] [.int (zn (zRe (R, C, rk, sn, sk, cn, cd) P v k (v (16 + k))))] ph693
        refine w_store (pc' := 38) (L' := [some (.ref 10), some (.ref F), some (.ref S), some (.long (zU (zVw (R, C, rk, sn, sk, cn, cd) P v) k)), none, some (.int (zn k)), some (.int (zn (zRe (R, C, rk, sn, sk, cn, cd) P v k (v (16 + k)))))]) (st' := []) (m := 2) (ykc_85 (e := (3, .istore 6, 0)) rfl) rfl rfl ?_
        refine w_load (pc' := 39) (v := .ref 10) (m := 1) (ykc_85 (e := (2, .aload_n kF0, 0)) rfl) rfl rfl ?_
        refine w_gf (pc' := 42) (v := .ref 23) (ykc_85 (e := (5, .getfield 36, 0)) rfl) rfl ((f691.1 10 6 (by decide) (by decide)).trans ((hf.1 10 6 (by decide) (by decide)).trans (zsg hS zs_10_6))) rfl ?_
        refine w_load (pc' := 44) (v := .int (zn k)) (m := 2) (ykc_85 (e := (2, .iload 5, 0)) rfl) rfl rfl ?_
        refine w_load (pc' := 45) (v := .ref 10) (m := 1) (ykc_85 (e := (2, .aload_n kF0, 0)) rfl) rfl rfl ?_
        refine w_gf (pc' := 48) (v := .ref 5) (ykc_85 (e := (5, .getfield 9, 0)) rfl) rfl ((f691.1 10 0 (by decide) (by decide)).trans ((hf.1 10 0 (by decide) (by decide)).trans (zsg hS zs_10_0))) rfl ?_
        refine w_load (pc' := 49) (v := .ref S) (m := 1) (ykc_85 (e := (2, .aload_n kF2, 0)) rfl) rfl rfl ?_
        refine w_gf (pc' := 52) (v := .ref (S + 1)) (ykc_85 (e := (5, .getfield 66, 0)) rfl) rfl ((f691.1 S 3 (by simp <;> omega) (by simp <;> omega)).trans ((hf.1 S 3 (by simp <;> omega) (by simp <;> omega)).trans r3)) rfl ?_
        refine w_load (pc' := 54) (v := .int (zn k)) (m := 2) (ykc_85 (e := (2, .iload 5, 0)) rfl) rfl rfl ?_
        have q694 := hO0.1 k (by omega)
        have tq694 := znt (k := v k) (by omega)
        refine w_ialk (pc' := 55) (k := k) (ykc_85 (e := (5, .iaload, 0)) rfl) ((f691.1 (S + 1) k (by simp <;> omega) (by simp <;> omega)).trans ((hf.1 (S + 1) k (by simp <;> omega) (by simp <;> omega)).trans (gv k (by omega)).1)) (by omega) rfl ?_
        refine w_load (pc' := 56) (v := .ref S) (m := 1) (ykc_85 (e := (2, .aload_n kF2, 0)) rfl) rfl rfl ?_
        refine w_gf (pc' := 59) (v := .ref (S + 2)) (ykc_85 (e := (5, .getfield 83, 0)) rfl) rfl ((f691.1 S 4 (by simp <;> omega) (by simp <;> omega)).trans ((hf.1 S 4 (by simp <;> omega) (by simp <;> omega)).trans r4)) rfl ?_
        refine w_load (pc' := 61) (v := .int (zn k)) (m := 2) (ykc_85 (e := (2, .iload 5, 0)) rfl) rfl rfl ?_
        have q695 := hO0.1 k (by omega)
        have tq695 := znt (k := v (8 + k)) (by omega)
        refine w_ialk (pc' := 62) (k := k) (ykc_85 (e := (5, .iaload, 0)) rfl) ((f691.1 (S + 2) k (by simp <;> omega) (by simp <;> omega)).trans ((hf.1 (S + 2) k (by simp <;> omega) (by simp <;> omega)).trans (gv k (by omega)).2.1)) (by omega) rfl ?_
        refine w_load (pc' := 63) (v := .ref S) (m := 1) (ykc_85 (e := (2, .aload_n kF2, 0)) rfl) rfl rfl ?_
        refine w_gf (pc' := 66) (v := .ref (S + 3)) (ykc_85 (e := (5, .getfield 59, 0)) rfl) rfl ((f691.1 S 5 (by simp <;> omega) (by simp <;> omega)).trans ((hf.1 S 5 (by simp <;> omega) (by simp <;> omega)).trans r5)) rfl ?_
        refine w_load (pc' := 68) (v := .int (zn k)) (m := 2) (ykc_85 (e := (2, .iload 5, 0)) rfl) rfl rfl ?_
        have q696 := hO0.1 k (by omega)
        have tq696 := znt (k := v (16 + k)) (by omega)
        refine w_ialk (pc' := 69) (k := k) (ykc_85 (e := (5, .iaload, 0)) rfl) ((f691.1 (S + 3) k (by simp <;> omega) (by simp <;> omega)).trans ((hf.1 (S + 3) k (by simp <;> omega) (by simp <;> omega)).trans (gv k (by omega)).2.2.1)) (by omega) rfl ?_
        refine w_load (pc' := 71) (v := .int (zn (zRe (R, C, rk, sn, sk, cn, cd) P v k (v (16 + k))))) (m := 2) (ykc_85 (e := (2, .iload 6, 0)) rfl) rfl rfl ?_
        refine w_cv (as := [.ref 5, .int (zn (v k)), .int (zn (v (8 + k))), .int (zn (v (16 + k))), .int (zn (zRe (R, C, rk, sn, sk, cn, cd) P v k (v (16 + k))))]) (r := [.int (zn k), .ref 23]) (ykc_85 (e := (6, .invokevirtual 115, 0)) rfl) rfl rfl rfl rfl (zc_view (zCx_S (zFr_trans hf (zCr_x f691)) hS) (zCx_l (zFr_trans hf (zCr_x f691)) hL0) (f := v k) (fc := v (8 + k)) (br := v (16 + k)) (re := zRe (R, C, rk, sn, sk, cn, cd) P v k (v (16 + k))) (zCr_c f691 hc1) (by omega) (by omega) (by omega) (by omega)) (fun v699 ph700 hv => ?_)
        obtain ⟨f697, hc698, rfl⟩ := hv
        show zW n D 85 Q 74 [some (.ref 10), some (.ref F), some (.ref S), some (.long (zU (zVw (R, C, rk, sn, sk, cn, cd) P v) k)), none, some (.int (zn k)), some (.int (zn (zRe (R, C, rk, sn, sk, cn, cd) P v k (v (16 + k)))))] [.long (zS (fun g => zsee C rk (v k) g (v (8 + k)) (v (16 + k)) (zRe (R, C, rk, sn, sk, cn, cd) P v k (v (16 + k)))) (R * C)), .int (zn k), .ref 23] ph700
        refine w_las (pc' := 75) (k := k) (ykc_85 (e := (5, .lastore, 0)) rfl) (by omega) rfl (fun ph702 u701 => ?_)
        refine w_load (pc' := 76) (v := .long (zU (zVw (R, C, rk, sn, sk, cn, cd) P v) k)) (m := 1) (ykc_85 (e := (2, .lload_n kF3, 0)) rfl) rfl rfl ?_
        refine w_load (pc' := 77) (v := .ref 10) (m := 1) (ykc_85 (e := (2, .aload_n kF0, 0)) rfl) rfl rfl ?_
        refine w_gf (pc' := 80) (v := .ref 23) (ykc_85 (e := (5, .getfield 36, 0)) rfl) rfl ((u701.2.1 10 6 (fun q => absurd q.1 (by decide))).trans ((f697.1 10 6 (by decide) (by decide)).trans ((f691.1 10 6 (by decide) (by decide)).trans ((hf.1 10 6 (by decide) (by decide)).trans (zsg hS zs_10_6))))) rfl ?_
        refine w_load (pc' := 82) (v := .int (zn k)) (m := 2) (ykc_85 (e := (2, .iload 5, 0)) rfl) rfl rfl ?_
        refine w_lalk (pc' := 83) (k := k) (ykc_85 (e := (5, .laload, 0)) rfl) u701.1 (by omega) rfl ?_
        refine w_alu (pc' := 84) (st' := [.long ((zU (zVw (R, C, rk, sn, sk, cn, cd) P v) k) ||| (zS (fun g => zsee C rk (v k) g (v (8 + k)) (v (16 + k)) (zRe (R, C, rk, sn, sk, cn, cd) P v k (v (16 + k)))) (R * C)))]) (ykc_85 (e := (0, .lor, 0)) rfl) rfl rfl ?_
        refine w_store (pc' := 85) (L' := [some (.ref 10), some (.ref F), some (.ref S), some (.long ((zU (zVw (R, C, rk, sn, sk, cn, cd) P v) k) ||| (zS (fun g => zsee C rk (v k) g (v (8 + k)) (v (16 + k)) (zRe (R, C, rk, sn, sk, cn, cd) P v k (v (16 + k)))) (R * C)))), none, some (.int (zn k)), some (.int (zn (zRe (R, C, rk, sn, sk, cn, cd) P v k (v (16 + k)))))]) (st' := []) (m := 1) (ykc_85 (e := (3, .lstore_n kF3, 0)) rfl) rfl rfl ?_
        have e703 : (zn k) + Int32.ofInt 1 = zn (k + 1) := (zaddN (a := k) (b := 1) (znt (by omega)) c_2 (by omega))
        have te703 := znt (k := k + 1) (by omega)
        refine w_store (pc' := 88) (L' := [some (.ref 10), some (.ref F), some (.ref S), some (.long ((zU (zVw (R, C, rk, sn, sk, cn, cd) P v) k) ||| (zS (fun g => zsee C rk (v k) g (v (8 + k)) (v (16 + k)) (zRe (R, C, rk, sn, sk, cn, cd) P v k (v (16 + k)))) (R * C)))), none, some (.int (zn (k + 1))), some (.int (zn (zRe (R, C, rk, sn, sk, cn, cd) P v k (v (16 + k)))))]) (st' := []) (m := 3) (ykc_85 (e := (3, .iinc 5 1, 0)) rfl) (by rw [← e703]; rfl) rfl ?_
        refine w_gb (ykc_85 (e := (4, .goto (-83), 5)) rfl) (fun k704 hk704 => ?_)
        have e1 : zVw (R, C, rk, sn, sk, cn, cd) P v k = zS (fun g => zsee C rk (v k) g (v (8 + k)) (v (16 + k)) (zRe (R, C, rk, sn, sk, cn, cd) P v k (v (16 + k)))) (R * C) := rfl
        exact ih k704 hk704 (k + 1) _ _ (by omega) (zFr_trans (zFr_trans (zFr_trans hf (zCr_x f691)) (zCy_x f697)) (zFr_st u701 (Or.inl (by simp)))) (zCc_F (A := [23]) (F := []) (zFr_st u701 (Or.inl (by simp))) (by simp) (by simp) (by simp) hc698) (fun i hi => by
          by_cases e : i = k
          · subst e
            exact u701.1
          · exact (u701.2.1 23 i (fun q => e q.2)).trans ((f697.1 23 i (by decide) (by simp)).trans ((f691.1 23 i (by decide) (by simp)).trans (hvw i (by omega)))))
  exact hl n 0 none ph (Nat.zero_le _) zFr_refl hc (fun i hi => absurd hi (Nat.not_lt_zero i))
theorem zVw_b {E : zEn} {P p g : Nat} {v : Nat → Nat} (hn : E.1 * E.2.1 ≤ 64) (hg : g < E.1 * E.2.1) : zb (zVw E P v p) g = zSv E P v p g := by
  unfold zVw
  rw [zS_b hn (by omega), decide_eq_true hg, Bool.true_and]
theorem zc_meet {ph : pm_H} {E : zEn} {F S P G : Nat} {v : Nat → Nat} (hS : zSh ph) (hE : zCe ph E F) (ht : zCt ph S P G v) (hO : zOk E.1 E.2.1 P G v) (hvw : ∀ i, i < P → zc ph 23 i = some (.long (zVw E P v i))) {a b : Nat} (ha : a < P) (hb : b < P) : zM 89 [.ref 10, .ref S, .int (zn a), .int (zn b)] ph (fun v0 q => ph = q ∧ v0 = some (.int (zI (zMeet E P v a b)))) := by
  obtain ⟨Q, hQ⟩ : ∃ Q : Option Value → pm_H → Prop, Q = (fun v0 q => ph = q ∧ v0 = some (.int (zI (zMeet E P v a b)))) := ⟨_, rfl⟩
  rw [← hQ]
  refine zM_mk fun n D => ?_
  show zW n D 89 Q 0 [some (.ref 10), some (.ref S), some (.int (zn a)), some (.int (zn b))] [] ph
  have c_0 : (Int32.ofInt 0).toInt = 0 := by decide
  have c_1 : (Int32.ofInt 1).toInt = 1 := by decide
  obtain ⟨R, C, rk, sn, sk, cn, cd⟩ := E
  have hL0 : zCl ph R C rk := hE.1
  have hi0 : zCi ph sn sk := hE.2.1
  have hF : F = 11 ∨ F = 16 := hE.2.2.2
  have hE0 : zCe ph (R, C, rk, sn, sk, cn, cd) F := hE
  have hO0 : zOk R C P G v := hO
  have hL := hL0
  have hs := ht.1.2
  have hd := ht.2
  have h25 := ht.1.1
  obtain ⟨gR, gC, gN, gK, gA, hR3, hR7, hC3, hC7⟩ := hL
  have hRC := zRC49 hR7 hC7
  have tR := znt (k := R) (by omega)
  have tC := znt (k := C) (by omega)
  have tRC := znt (k := R * C) (by omega)
  have hd0 := hd
  have hs0 := hs
  obtain ⟨r3, r4, r5, r6, r7, l1, l2, l3, l4, l5⟩ := hs
  obtain ⟨gP, hP8, gG, hG8, gH, gv, gw⟩ := hd
  have tP := znt (k := P) (by omega)
  have tG := znt (k := G) (by omega)
  have h40 := hO0.2.2
  have t40 := znt (k := v 40) (by omega)
  have ta := znt (k := a) (by omega)
  have tb := znt (k := b) (by omega)
  refine w_load (pc' := 1) (v := .ref S) (m := 1) (ykc_89 (e := (2, .aload_n kF1, 0)) rfl) rfl rfl ?_
  refine w_load (pc' := 2) (v := .int (zn a)) (m := 1) (ykc_89 (e := (2, .iload_n kF2, 0)) rfl) rfl rfl ?_
  refine w_cv (as := [.ref S, .int (zn a)]) (r := []) (ykc_89 (e := (6, .invokevirtual 53, 0)) rfl) rfl rfl rfl rfl (zc_hasP ht.1.2 ht.2 (i := (zn a))) (fun v705 ph706 hv => ?_)
  obtain ⟨rfl, rfl⟩ := hv
  show zW n D 89 Q 5 [some (.ref 10), some (.ref S), some (.int (zn a)), some (.int (zn b))] [.int (zI (decide (0 ≤ (zn a).toInt ∧ (zn a).toInt < ((P : Nat) : Int))))] ph
  refine w_beq (ykc_89 (e := (4, .ifCond .eq 11, 16)) rfl) rfl (fun q => by have := of_decide_eq_false q; omega) (fun b707 => ?_)
  refine w_load (pc' := 9) (v := .ref S) (m := 1) (ykc_89 (e := (2, .aload_n kF1, 0)) rfl) rfl rfl ?_
  refine w_load (pc' := 10) (v := .int (zn b)) (m := 1) (ykc_89 (e := (2, .iload_n kF3, 0)) rfl) rfl rfl ?_
  refine w_cv (as := [.ref S, .int (zn b)]) (r := []) (ykc_89 (e := (6, .invokevirtual 53, 0)) rfl) rfl rfl rfl rfl (zc_hasP ht.1.2 ht.2 (i := (zn b))) (fun v708 ph709 hv => ?_)
  obtain ⟨rfl, rfl⟩ := hv
  show zW n D 89 Q 13 [some (.ref 10), some (.ref S), some (.int (zn a)), some (.int (zn b))] [.int (zI (decide (0 ≤ (zn b).toInt ∧ (zn b).toInt < ((P : Nat) : Int))))] ph
  refine w_bne (ykc_89 (e := (4, .ifCond .ne 5, 18)) rfl) rfl (fun b710 => ?_) (fun q => by have := of_decide_eq_false q; omega)
  refine w_load (pc' := 19) (v := .ref 10) (m := 1) (ykc_89 (e := (2, .aload_n kF0, 0)) rfl) rfl rfl ?_
  refine w_gf (pc' := 22) (v := .ref 23) (ykc_89 (e := (5, .getfield 36, 0)) rfl) rfl (zsg hS zs_10_6) rfl ?_
  refine w_load (pc' := 23) (v := .int (zn a)) (m := 1) (ykc_89 (e := (2, .iload_n kF2, 0)) rfl) rfl rfl ?_
  refine w_lalk (pc' := 24) (k := a) (ykc_89 (e := (5, .laload, 0)) rfl) (hvw a (by omega)) (by omega) rfl ?_
  refine w_load (pc' := 25) (v := .ref S) (m := 1) (ykc_89 (e := (2, .aload_n kF1, 0)) rfl) rfl rfl ?_
  refine w_gf (pc' := 28) (v := .ref (S + 1)) (ykc_89 (e := (5, .getfield 66, 0)) rfl) rfl r3 rfl ?_
  refine w_load (pc' := 29) (v := .int (zn b)) (m := 1) (ykc_89 (e := (2, .iload_n kF3, 0)) rfl) rfl rfl ?_
  have q711 := hO0.1 b (by omega)
  have tq711 := znt (k := v b) (by omega)
  refine w_ialk (pc' := 30) (k := b) (ykc_89 (e := (5, .iaload, 0)) rfl) (gv b (by omega)).1 (by omega) rfl ?_
  refine w_cs (as := [.long (zVw (R, C, rk, sn, sk, cn, cd) P v a), .int (zn (v b))]) (r := []) (ykc_89 (e := (6, .invokestatic 125, 0)) rfl) rfl rfl rfl rfl (zc_has (kn := v b) (by omega) (by omega)) (fun v712 ph713 hv => ?_)
  obtain ⟨rfl, rfl⟩ := hv
  rw [zVw_b (show R * C ≤ 64 by omega) (show v b < R * C by omega)]
  show zW n D 89 Q 33 [some (.ref 10), some (.ref S), some (.int (zn a)), some (.int (zn b))] [.int (zI (zSv (R, C, rk, sn, sk, cn, cd) P v a (v b)))] ph
  refine w_beq (ykc_89 (e := (4, .ifCond .eq 25, 58)) rfl) rfl (fun b714 => ?_) (fun b714 => ?_)
  · refine w_alu (pc' := 59) (st' := [.int (Int32.ofInt 0)]) (ykc_89 (e := (0, .iconst 0, 0)) rfl) rfl rfl ?_
    refine w_ret (v := (some (.int (Int32.ofInt 0)))) (ykc_89 (e := (7, .ireturn, 0)) rfl) zr_z ?_
    rw [hQ, zi0]
    exact ⟨rfl, zvB (by unfold zMeet; simp [b714])⟩
  · refine w_load (pc' := 37) (v := .ref 10) (m := 1) (ykc_89 (e := (2, .aload_n kF0, 0)) rfl) rfl rfl ?_
    refine w_gf (pc' := 40) (v := .ref 23) (ykc_89 (e := (5, .getfield 36, 0)) rfl) rfl (zsg hS zs_10_6) rfl ?_
    refine w_load (pc' := 41) (v := .int (zn b)) (m := 1) (ykc_89 (e := (2, .iload_n kF3, 0)) rfl) rfl rfl ?_
    refine w_lalk (pc' := 42) (k := b) (ykc_89 (e := (5, .laload, 0)) rfl) (hvw b (by omega)) (by omega) rfl ?_
    refine w_load (pc' := 43) (v := .ref S) (m := 1) (ykc_89 (e := (2, .aload_n kF1, 0)) rfl) rfl rfl ?_
    refine w_gf (pc' := 46) (v := .ref (S + 1)) (ykc_89 (e := (5, .getfield 66, 0)) rfl) rfl r3 rfl ?_
    refine w_load (pc' := 47) (v := .int (zn a)) (m := 1) (ykc_89 (e := (2, .iload_n kF2, 0)) rfl) rfl rfl ?_
    have q715 := hO0.1 a (by omega)
    have tq715 := znt (k := v a) (by omega)
    refine w_ialk (pc' := 48) (k := a) (ykc_89 (e := (5, .iaload, 0)) rfl) (gv a (by omega)).1 (by omega) rfl ?_
    refine w_cs (as := [.long (zVw (R, C, rk, sn, sk, cn, cd) P v b), .int (zn (v a))]) (r := []) (ykc_89 (e := (6, .invokestatic 125, 0)) rfl) rfl rfl rfl rfl (zc_has (kn := v a) (by omega) (by omega)) (fun v716 ph717 hv => ?_)
    obtain ⟨rfl, rfl⟩ := hv
    rw [zVw_b (show R * C ≤ 64 by omega) (show v a < R * C by omega)]
    show zW n D 89 Q 51 [some (.ref 10), some (.ref S), some (.int (zn a)), some (.int (zn b))] [.int (zI (zSv (R, C, rk, sn, sk, cn, cd) P v b (v a)))] ph
    refine w_beq (ykc_89 (e := (4, .ifCond .eq 7, 58)) rfl) rfl (fun b718 => ?_) (fun b718 => ?_)
    · refine w_alu (pc' := 59) (st' := [.int (Int32.ofInt 0)]) (ykc_89 (e := (0, .iconst 0, 0)) rfl) rfl rfl ?_
      refine w_ret (v := (some (.int (Int32.ofInt 0)))) (ykc_89 (e := (7, .ireturn, 0)) rfl) zr_z ?_
      rw [hQ, zi0]
      exact ⟨rfl, zvB (by unfold zMeet; simp [b714, b718])⟩
    · refine w_alu (pc' := 55) (st' := [.int (Int32.ofInt 1)]) (ykc_89 (e := (0, .iconst 1, 0)) rfl) rfl rfl ?_
      refine w_br (pc' := 59) (st' := [.int (Int32.ofInt 1)]) (ykc_89 (e := (4, .goto 4, 59)) rfl) rfl ?_
      refine w_ret (v := (some (.int (Int32.ofInt 1)))) (ykc_89 (e := (7, .ireturn, 0)) rfl) zr_z ?_
      rw [hQ, zi1]
      exact ⟨rfl, zvB (by unfold zMeet; simp [b714, b718])⟩
theorem zc_tell {ph : pm_H} {E : zEn} {F S P G : Nat} {v : Nat → Nat} (hS : zSh ph) (hE : zCe ph E F) (ht : zCt ph S P G v) (hO : zOk E.1 E.2.1 P G v) (hvw : ∀ i, i < P → zc ph 23 i = some (.long (zVw E P v i))) {a b : Nat} (ha : a < P) (hb : b < P) : zM 90 [.ref 10, .ref S, .int (zn a), .int (zn b)] ph (fun v0 q => ph = q ∧ v0 = some (.int (zI (zTell E P v a b)))) := by
  obtain ⟨Q, hQ⟩ : ∃ Q : Option Value → pm_H → Prop, Q = (fun v0 q => ph = q ∧ v0 = some (.int (zI (zTell E P v a b)))) := ⟨_, rfl⟩
  rw [← hQ]
  refine zM_mk fun n D => ?_
  show zW n D 90 Q 0 [some (.ref 10), some (.ref S), some (.int (zn a)), some (.int (zn b)), none, none] [] ph
  have c_0 : (Int32.ofInt 0).toInt = 0 := by decide
  have c_1 : (Int32.ofInt 1).toInt = 1 := by decide
  obtain ⟨R, C, rk, sn, sk, cn, cd⟩ := E
  have hL0 : zCl ph R C rk := hE.1
  have hi0 : zCi ph sn sk := hE.2.1
  have hF : F = 11 ∨ F = 16 := hE.2.2.2
  have hE0 : zCe ph (R, C, rk, sn, sk, cn, cd) F := hE
  have hO0 : zOk R C P G v := hO
  have hL := hL0
  have hs := ht.1.2
  have hd := ht.2
  have h25 := ht.1.1
  obtain ⟨gR, gC, gN, gK, gA, hR3, hR7, hC3, hC7⟩ := hL
  have hRC := zRC49 hR7 hC7
  have tR := znt (k := R) (by omega)
  have tC := znt (k := C) (by omega)
  have tRC := znt (k := R * C) (by omega)
  have hd0 := hd
  have hs0 := hs
  obtain ⟨r3, r4, r5, r6, r7, l1, l2, l3, l4, l5⟩ := hs
  obtain ⟨gP, hP8, gG, hG8, gH, gv, gw⟩ := hd
  have tP := znt (k := P) (by omega)
  have tG := znt (k := G) (by omega)
  have h40 := hO0.2.2
  have t40 := znt (k := v 40) (by omega)
  have ta := znt (k := a) (by omega)
  have tb := znt (k := b) (by omega)
  refine w_load (pc' := 1) (v := .ref 10) (m := 1) (ykc_90 (e := (2, .aload_n kF0, 0)) rfl) rfl rfl ?_
  refine w_load (pc' := 2) (v := .ref S) (m := 1) (ykc_90 (e := (2, .aload_n kF1, 0)) rfl) rfl rfl ?_
  refine w_load (pc' := 3) (v := .int (zn a)) (m := 1) (ykc_90 (e := (2, .iload_n kF2, 0)) rfl) rfl rfl ?_
  refine w_load (pc' := 4) (v := .int (zn b)) (m := 1) (ykc_90 (e := (2, .iload_n kF3, 0)) rfl) rfl rfl ?_
  refine w_cv (as := [.ref 10, .ref S, .int (zn a), .int (zn b)]) (r := []) (ykc_90 (e := (6, .invokevirtual 129, 0)) rfl) rfl rfl rfl rfl (zc_meet hS hE0 ht hO0 hvw (a := a) (b := b) (by omega) (by omega)) (fun v719 ph720 hv => ?_)
  obtain ⟨rfl, rfl⟩ := hv
  show zW n D 90 Q 7 [some (.ref 10), some (.ref S), some (.int (zn a)), some (.int (zn b)), none, none] [.int (zI (zMeet (R, C, rk, sn, sk, cn, cd) P v a b))] ph
  refine w_bne (ykc_90 (e := (4, .ifCond .ne 5, 12)) rfl) rfl (fun b721 => ?_) (fun b721 => ?_)
  · refine w_load (pc' := 13) (v := .ref 10) (m := 1) (ykc_90 (e := (2, .aload_n kF0, 0)) rfl) rfl rfl ?_
    refine w_gf (pc' := 16) (v := .ref 5) (ykc_90 (e := (5, .getfield 9, 0)) rfl) rfl (zsg hS zs_10_0) rfl ?_
    refine w_load (pc' := 17) (v := .ref S) (m := 1) (ykc_90 (e := (2, .aload_n kF1, 0)) rfl) rfl rfl ?_
    refine w_gf (pc' := 20) (v := .ref (S + 1)) (ykc_90 (e := (5, .getfield 66, 0)) rfl) rfl r3 rfl ?_
    refine w_load (pc' := 21) (v := .int (zn a)) (m := 1) (ykc_90 (e := (2, .iload_n kF2, 0)) rfl) rfl rfl ?_
    have q722 := hO0.1 a (by omega)
    have tq722 := znt (k := v a) (by omega)
    refine w_ialk (pc' := 22) (k := a) (ykc_90 (e := (5, .iaload, 0)) rfl) (gv a (by omega)).1 (by omega) rfl ?_
    refine w_cv (as := [.ref 5, .int (zn (v a))]) (r := []) (ykc_90 (e := (6, .invokevirtual 86, 0)) rfl) rfl rfl rfl rfl (zc_rowOf hS hL0 (f := v a) (by omega)) (fun v724 ph725 hv => ?_)
    obtain ⟨rfl, rfl⟩ := hv
    have q723 : v a < R * C := by omega
    have mq723 : (v a) / C < R := (Nat.div_lt_iff_lt_mul (by omega)).mpr q723
    have zq723 := Nat.zero_le ((v a) / C)
    have tq723 := znt (k := (v a) / C) (by omega)
    show zW n D 90 Q 25 [some (.ref 10), some (.ref S), some (.int (zn a)), some (.int (zn b)), none, none] [.int (zn ((v a) / C))] ph
    refine w_load (pc' := 26) (v := .ref 10) (m := 1) (ykc_90 (e := (2, .aload_n kF0, 0)) rfl) rfl rfl ?_
    refine w_gf (pc' := 29) (v := .ref 5) (ykc_90 (e := (5, .getfield 9, 0)) rfl) rfl (zsg hS zs_10_0) rfl ?_
    refine w_load (pc' := 30) (v := .ref S) (m := 1) (ykc_90 (e := (2, .aload_n kF1, 0)) rfl) rfl rfl ?_
    refine w_gf (pc' := 33) (v := .ref (S + 1)) (ykc_90 (e := (5, .getfield 66, 0)) rfl) rfl r3 rfl ?_
    refine w_load (pc' := 34) (v := .int (zn b)) (m := 1) (ykc_90 (e := (2, .iload_n kF3, 0)) rfl) rfl rfl ?_
    have q726 := hO0.1 b (by omega)
    have tq726 := znt (k := v b) (by omega)
    refine w_ialk (pc' := 35) (k := b) (ykc_90 (e := (5, .iaload, 0)) rfl) (gv b (by omega)).1 (by omega) rfl ?_
    refine w_cv (as := [.ref 5, .int (zn (v b))]) (r := [.int (zn ((v a) / C))]) (ykc_90 (e := (6, .invokevirtual 86, 0)) rfl) rfl rfl rfl rfl (zc_rowOf hS hL0 (f := v b) (by omega)) (fun v728 ph729 hv => ?_)
    obtain ⟨rfl, rfl⟩ := hv
    have q727 : v b < R * C := by omega
    have mq727 : (v b) / C < R := (Nat.div_lt_iff_lt_mul (by omega)).mpr q727
    have zq727 := Nat.zero_le ((v b) / C)
    have tq727 := znt (k := (v b) / C) (by omega)
    show zW n D 90 Q 38 [some (.ref 10), some (.ref S), some (.int (zn a)), some (.int (zn b)), none, none] [.int (zn ((v b) / C)), .int (zn ((v a) / C))] ph
    obtain ⟨z730, e_z730, h_z730⟩ : ∃ zq : Int32, (zn ((v a) / C)) - (zn ((v b) / C)) = zq ∧ zq.toInt = (((v a) / C : Nat) : Int) - (((v b) / C : Nat) : Int) := ⟨_, rfl, (by have := ti_sub (x := (zn ((v a) / C))) (y := (zn ((v b) / C))) (by omega) (by omega); omega)⟩
    refine w_alu (pc' := 39) (st' := [.int z730]) (ykc_90 (e := (0, .isub, 0)) rfl) (by rw [← e_z730]; rfl) rfl ?_
    refine w_store (pc' := 41) (L' := [some (.ref 10), some (.ref S), some (.int (zn a)), some (.int (zn b)), some (.int z730), none]) (st' := []) (m := 2) (ykc_90 (e := (3, .istore 4, 0)) rfl) rfl rfl ?_
    refine w_load (pc' := 42) (v := .ref 10) (m := 1) (ykc_90 (e := (2, .aload_n kF0, 0)) rfl) rfl rfl ?_
    refine w_gf (pc' := 45) (v := .ref 5) (ykc_90 (e := (5, .getfield 9, 0)) rfl) rfl (zsg hS zs_10_0) rfl ?_
    refine w_load (pc' := 46) (v := .ref S) (m := 1) (ykc_90 (e := (2, .aload_n kF1, 0)) rfl) rfl rfl ?_
    refine w_gf (pc' := 49) (v := .ref (S + 1)) (ykc_90 (e := (5, .getfield 66, 0)) rfl) rfl r3 rfl ?_
    refine w_load (pc' := 50) (v := .int (zn a)) (m := 1) (ykc_90 (e := (2, .iload_n kF2, 0)) rfl) rfl rfl ?_
    have q731 := hO0.1 a (by omega)
    have tq731 := znt (k := v a) (by omega)
    refine w_ialk (pc' := 51) (k := a) (ykc_90 (e := (5, .iaload, 0)) rfl) (gv a (by omega)).1 (by omega) rfl ?_
    refine w_cv (as := [.ref 5, .int (zn (v a))]) (r := []) (ykc_90 (e := (6, .invokevirtual 91, 0)) rfl) rfl rfl rfl rfl (zc_colOf hS hL0 (f := v a) (by omega)) (fun v733 ph734 hv => ?_)
    obtain ⟨rfl, rfl⟩ := hv
    have q732 : v a < R * C := by omega
    have mq732 := Nat.mod_lt (v a) (show 0 < C by omega)
    have zq732 := Nat.zero_le ((v a) % C)
    have tq732 := znt (k := (v a) % C) (by omega)
    show zW n D 90 Q 54 [some (.ref 10), some (.ref S), some (.int (zn a)), some (.int (zn b)), some (.int z730), none] [.int (zn ((v a) % C))] ph
    refine w_load (pc' := 55) (v := .ref 10) (m := 1) (ykc_90 (e := (2, .aload_n kF0, 0)) rfl) rfl rfl ?_
    refine w_gf (pc' := 58) (v := .ref 5) (ykc_90 (e := (5, .getfield 9, 0)) rfl) rfl (zsg hS zs_10_0) rfl ?_
    refine w_load (pc' := 59) (v := .ref S) (m := 1) (ykc_90 (e := (2, .aload_n kF1, 0)) rfl) rfl rfl ?_
    refine w_gf (pc' := 62) (v := .ref (S + 1)) (ykc_90 (e := (5, .getfield 66, 0)) rfl) rfl r3 rfl ?_
    refine w_load (pc' := 63) (v := .int (zn b)) (m := 1) (ykc_90 (e := (2, .iload_n kF3, 0)) rfl) rfl rfl ?_
    have q735 := hO0.1 b (by omega)
    have tq735 := znt (k := v b) (by omega)
    refine w_ialk (pc' := 64) (k := b) (ykc_90 (e := (5, .iaload, 0)) rfl) (gv b (by omega)).1 (by omega) rfl ?_
    refine w_cv (as := [.ref 5, .int (zn (v b))]) (r := [.int (zn ((v a) % C))]) (ykc_90 (e := (6, .invokevirtual 91, 0)) rfl) rfl rfl rfl rfl (zc_colOf hS hL0 (f := v b) (by omega)) (fun v737 ph738 hv => ?_)
    obtain ⟨rfl, rfl⟩ := hv
    have q736 : v b < R * C := by omega
    have mq736 := Nat.mod_lt (v b) (show 0 < C by omega)
    have zq736 := Nat.zero_le ((v b) % C)
    have tq736 := znt (k := (v b) % C) (by omega)
    show zW n D 90 Q 67 [some (.ref 10), some (.ref S), some (.int (zn a)), some (.int (zn b)), some (.int z730), none] [.int (zn ((v b) % C)), .int (zn ((v a) % C))] ph
    obtain ⟨z739, e_z739, h_z739⟩ : ∃ zq : Int32, (zn ((v a) % C)) - (zn ((v b) % C)) = zq ∧ zq.toInt = (((v a) % C : Nat) : Int) - (((v b) % C : Nat) : Int) := ⟨_, rfl, (by have := ti_sub (x := (zn ((v a) % C))) (y := (zn ((v b) % C))) (by omega) (by omega); omega)⟩
    refine w_alu (pc' := 68) (st' := [.int z739]) (ykc_90 (e := (0, .isub, 0)) rfl) (by rw [← e_z739]; rfl) rfl ?_
    refine w_store (pc' := 70) (L' := [some (.ref 10), some (.ref S), some (.int (zn a)), some (.int (zn b)), some (.int z730), some (.int z739)]) (st' := []) (m := 2) (ykc_90 (e := (3, .istore 5, 0)) rfl) rfl rfl ?_
    refine w_load (pc' := 72) (v := .int z730) (m := 2) (ykc_90 (e := (2, .iload 4, 0)) rfl) rfl rfl ?_
    obtain ⟨z740, e_z740⟩ : ∃ zq : Int32, (if 0 ≤ z730 then z730 else 0 - z730) = zq := ⟨_, rfl⟩
    have h_z740 := zabsI e_z740
    refine w_mem1 (pc' := 75) (m := 3) (st' := [.int z740]) (ph' := ph) (ykc_90 (e := (5, .invokestatic 133, 0)) rfl) (by rw [← e_z740]; rfl) rfl ?_
    refine w_alu (pc' := 76) (st' := [.int (Int32.ofInt 1), .int z740]) (ykc_90 (e := (0, .iconst 1, 0)) rfl) rfl rfl ?_
    refine w_igt (ykc_90 (e := (4, .if_icmp .gt 16, 92)) rfl) rfl (fun b741 => ?_) (fun b741 => ?_)
    · refine w_alu (pc' := 93) (st' := [.int (Int32.ofInt 0)]) (ykc_90 (e := (0, .iconst 0, 0)) rfl) rfl rfl ?_
      refine w_ret (v := (some (.int (Int32.ofInt 0)))) (ykc_90 (e := (7, .ireturn, 0)) rfl) zr_z ?_
      have nr : zNear C (v a) (v b) = false := decide_eq_false (by omega)
      rw [hQ, zi0]
      exact ⟨rfl, zvB (by unfold zTell; rw [b721]; show _ = (zNear C (v a) (v b) && true); rw [nr]; rfl)⟩
    · refine w_load (pc' := 81) (v := .int z739) (m := 2) (ykc_90 (e := (2, .iload 5, 0)) rfl) rfl rfl ?_
      obtain ⟨z742, e_z742⟩ : ∃ zq : Int32, (if 0 ≤ z739 then z739 else 0 - z739) = zq := ⟨_, rfl⟩
      have h_z742 := zabsI e_z742
      refine w_mem1 (pc' := 84) (m := 3) (st' := [.int z742]) (ph' := ph) (ykc_90 (e := (5, .invokestatic 133, 0)) rfl) (by rw [← e_z742]; rfl) rfl ?_
      refine w_alu (pc' := 85) (st' := [.int (Int32.ofInt 1), .int z742]) (ykc_90 (e := (0, .iconst 1, 0)) rfl) rfl rfl ?_
      refine w_igt (ykc_90 (e := (4, .if_icmp .gt 7, 92)) rfl) rfl (fun b743 => ?_) (fun b743 => ?_)
      · refine w_alu (pc' := 93) (st' := [.int (Int32.ofInt 0)]) (ykc_90 (e := (0, .iconst 0, 0)) rfl) rfl rfl ?_
        refine w_ret (v := (some (.int (Int32.ofInt 0)))) (ykc_90 (e := (7, .ireturn, 0)) rfl) zr_z ?_
        have nr : zNear C (v a) (v b) = false := decide_eq_false (by omega)
        rw [hQ, zi0]
        exact ⟨rfl, zvB (by unfold zTell; rw [b721]; show _ = (zNear C (v a) (v b) && true); rw [nr]; rfl)⟩
      · refine w_alu (pc' := 89) (st' := [.int (Int32.ofInt 1)]) (ykc_90 (e := (0, .iconst 1, 0)) rfl) rfl rfl ?_
        refine w_br (pc' := 93) (st' := [.int (Int32.ofInt 1)]) (ykc_90 (e := (4, .goto 4, 93)) rfl) rfl ?_
        refine w_ret (v := (some (.int (Int32.ofInt 1)))) (ykc_90 (e := (7, .ireturn, 0)) rfl) zr_z ?_
        have nr : zNear C (v a) (v b) = true := decide_eq_true (by omega)
        rw [hQ, zi1]
        exact ⟨rfl, zvB (by unfold zTell; rw [b721]; show _ = (zNear C (v a) (v b) && true); rw [nr]; rfl)⟩
  · refine w_alu (pc' := 11) (st' := [.int (Int32.ofInt 0)]) (ykc_90 (e := (0, .iconst 0, 0)) rfl) rfl rfl ?_
    refine w_ret (v := (some (.int (Int32.ofInt 0)))) (ykc_90 (e := (7, .ireturn, 0)) rfl) zr_z ?_
    rw [hQ, zi0]
    exact ⟨rfl, zvB (by unfold zTell; rw [b721]; simp)⟩
/-- what one KNOWS an HOUR later, as the class reckons it -/
noncomputable def zLi (E : zEn) (P G : Nat) (v : Nat → Nat) (p : Nat) : Nat → Nat
  | 0 => zHb E P G v p
  | k + 1 => bif zTell E P v p k then zLi E P G v p k ||| v (24 + k) else zLi E P G v p k
theorem zLi_lt {E : zEn} {P G : Nat} {v : Nat → Nat} {p : Nat} (hv : ∀ i, i < P → v (24 + i) < 256) (hp : p < P) (hG : G ≤ 8) : ∀ k, k ≤ P → zLi E P G v p k < 256 := by
  intro k
  induction k with
  | zero => intro _; exact zHb_lt (hv p hp) hG
  | succ k ih =>
    intro hk
    unfold zLi
    cases zTell E P v p k with
    | true => exact zor_lt (ih (by omega)) (hv k (by omega))
    | false => exact ih (by omega)
noncomputable def zHq (E : zEn) (P G : Nat) (v : Nat → Nat) (i : Nat) : Nat := if 24 ≤ i ∧ i < 24 + P then zLi E P G v (i - 24) P else if i = 40 then v 40 + 1 else v i
theorem znew {a b : Nat} (ha : a < 256) (hb : b < 256) (h : (zn a &&& (zn b ^^^ Int32.ofInt (-1))).toInt = 0) : b ||| a = b := by
  have e : zn a &&& (zn b ^^^ Int32.ofInt (-1)) = 0 := Int32.toInt_inj.mp h
  have e2 : zn b ||| zn a = zn b := zd_ext fun k hk => by
    have h3 : zd (zn a &&& (zn b ^^^ Int32.ofInt (-1))) k = false := by rw [e]; simp [zd]
    have h4 : ∀ k, k < 32 → zd (Int32.ofInt (-1)) k = true := by decide
    rw [zd_and, zd_xor, h4 k hk] at h3
    rw [zd_or]
    cases ha : zd (zn a) k <;> cases hb : zd (zn b) k <;> simp [ha, hb] at h3 ⊢
  rw [zor_n hb ha] at e2
  exact zn_inj e2 (by have := zor_lt hb ha; omega) (by omega)
theorem zc_learn {ph : pm_H} {E : zEn} {F S P G : Nat} {v : Nat → Nat} (hS : zSh ph) (hE : zCe ph E F) (ht : zCt ph S P G v) (hO : zOk E.1 E.2.1 P G v) (hvw : ∀ i, i < P → zc ph 23 i = some (.long (zVw E P v i))) {p : Nat} (hp : p < P) : zM 93 [.ref 10, .ref S, .int (zn p)] ph (fun v0 q => ph = q ∧ v0 = some (.int (zn (zLi E P G v p P)))) := by
  obtain ⟨Q, hQ⟩ : ∃ Q : Option Value → pm_H → Prop, Q = (fun v0 q => ph = q ∧ v0 = some (.int (zn (zLi E P G v p P)))) := ⟨_, rfl⟩
  rw [← hQ]
  refine zM_mk fun n D => ?_
  show zW n D 93 Q 0 [some (.ref 10), some (.ref S), some (.int (zn p)), none, none] [] ph
  have c_0 : ((Int8.ofInt 8).toInt32).toInt = 8 := by decide
  have c_1 : (Int32.ofInt (-1)).toInt = -1 := by decide
  have c_2 : (Int32.ofInt 0).toInt = 0 := by decide
  have c_3 : (Int32.ofInt 1).toInt = 1 := by decide
  obtain ⟨R, C, rk, sn, sk, cn, cd⟩ := E
  have hL0 : zCl ph R C rk := hE.1
  have hi0 : zCi ph sn sk := hE.2.1
  have hF : F = 11 ∨ F = 16 := hE.2.2.2
  have hE0 : zCe ph (R, C, rk, sn, sk, cn, cd) F := hE
  have hO0 : zOk R C P G v := hO
  have hL := hL0
  have hs := ht.1.2
  have hd := ht.2
  have h25 := ht.1.1
  obtain ⟨gR, gC, gN, gK, gA, hR3, hR7, hC3, hC7⟩ := hL
  have hRC := zRC49 hR7 hC7
  have tR := znt (k := R) (by omega)
  have tC := znt (k := C) (by omega)
  have tRC := znt (k := R * C) (by omega)
  have hd0 := hd
  have hs0 := hs
  obtain ⟨r3, r4, r5, r6, r7, l1, l2, l3, l4, l5⟩ := hs
  obtain ⟨gP, hP8, gG, hG8, gH, gv, gw⟩ := hd
  have tP := znt (k := P) (by omega)
  have tG := znt (k := G) (by omega)
  have h40 := hO0.2.2
  have t40 := znt (k := v 40) (by omega)
  have tp := znt (k := p) (by omega)
  have hv256 : ∀ i, i < P → v (24 + i) < 256 := fun i hi => (hO0.1 i hi).2.2.2
  refine w_load (pc' := 1) (v := .ref S) (m := 1) (ykc_93 (e := (2, .aload_n kF1, 0)) rfl) rfl rfl ?_
  refine w_gf (pc' := 4) (v := .ref (S + 4)) (ykc_93 (e := (5, .getfield 75, 0)) rfl) rfl r6 rfl ?_
  refine w_load (pc' := 5) (v := .int (zn p)) (m := 1) (ykc_93 (e := (2, .iload_n kF2, 0)) rfl) rfl rfl ?_
  have q744 := hO0.1 p (by omega)
  have tq744 := znt (k := v (24 + p)) (by omega)
  refine w_ialk (pc' := 6) (k := p) (ykc_93 (e := (5, .iaload, 0)) rfl) (gv p (by omega)).2.2.2 (by omega) rfl ?_
  refine w_load (pc' := 7) (v := .ref S) (m := 1) (ykc_93 (e := (2, .aload_n kF1, 0)) rfl) rfl rfl ?_
  refine w_load (pc' := 8) (v := .ref 10) (m := 1) (ykc_93 (e := (2, .aload_n kF0, 0)) rfl) rfl rfl ?_
  refine w_gf (pc' := 11) (v := .ref 23) (ykc_93 (e := (5, .getfield 36, 0)) rfl) rfl (zsg hS zs_10_6) rfl ?_
  refine w_load (pc' := 12) (v := .int (zn p)) (m := 1) (ykc_93 (e := (2, .iload_n kF2, 0)) rfl) rfl rfl ?_
  refine w_lalk (pc' := 13) (k := p) (ykc_93 (e := (5, .laload, 0)) rfl) (hvw p (by omega)) (by omega) rfl ?_
  refine w_cv (as := [.ref S, .long (zVw (R, C, rk, sn, sk, cn, cd) P v p)]) (r := [.int (zn (v (24 + p)))]) (ykc_93 (e := (6, .invokevirtual 146, 0)) rfl) rfl rfl rfl rfl (zc_ton ht.1.2 ht.2 (x := zVw (R, C, rk, sn, sk, cn, cd) P v p) (fun i hi => by have := hO0.2.1 i hi; omega)) (fun v745 ph746 hv => ?_)
  obtain ⟨rfl, rfl⟩ := hv
  show zW n D 93 Q 16 [some (.ref 10), some (.ref S), some (.int (zn p)), none, none] [.int (zTon G v (zVw (R, C, rk, sn, sk, cn, cd) P v p)), .int (zn (v (24 + p)))] ph
  refine w_alu (pc' := 17) (st' := [.int (zn (zLi (R, C, rk, sn, sk, cn, cd) P G v p 0))]) (ykc_93 (e := (0, .ior, 0)) rfl) (by rw [← ((by unfold zTon; rw [zT_N hG8, zor_n (by omega) (zNs_lt hG8)]; rfl) : (zn (v (24 + p))) ||| (zTon G v (zVw (R, C, rk, sn, sk, cn, cd) P v p)) = zn (zLi (R, C, rk, sn, sk, cn, cd) P G v p 0))]; rfl) rfl ?_
  refine w_store (pc' := 18) (L' := [some (.ref 10), some (.ref S), some (.int (zn p)), some (.int (zn (zLi (R, C, rk, sn, sk, cn, cd) P G v p 0))), none]) (st' := []) (m := 1) (ykc_93 (e := (3, .istore_n kF3, 0)) rfl) rfl rfl ?_
  refine w_alu (pc' := 19) (st' := [.int (Int32.ofInt 0)]) (ykc_93 (e := (0, .iconst 0, 0)) rfl) rfl rfl ?_
  refine w_store (pc' := 21) (L' := [some (.ref 10), some (.ref S), some (.int (zn p)), some (.int (zn (zLi (R, C, rk, sn, sk, cn, cd) P G v p 0))), some (.int (Int32.ofInt 0))]) (st' := []) (m := 2) (ykc_93 (e := (3, .istore 4, 0)) rfl) rfl rfl ?_
  have hl : ∀ (n : Nat), ∀ (k : Nat), (k ≤ P) → zW n D 93 Q 21 [some (.ref 10), some (.ref S), some (.int (zn p)), some (.int (zn (zLi (R, C, rk, sn, sk, cn, cd) P G v p k))), some (.int (zn k))] [] ph := by
    intro n
    induction n using Nat.strongRecOn with
    | ind n ih =>
      intro k hk
      have tk := znt (k := k) (by omega)
      have hlt := zLi_lt (E := (R, C, rk, sn, sk, cn, cd)) (G := G) hv256 hp hG8 k hk
      have tl := znt (k := zLi (R, C, rk, sn, sk, cn, cd) P G v p k) (by omega)
      refine w_load (pc' := 23) (v := .int (zn k)) (m := 2) (ykc_93 (e := (2, .iload 4, 0)) rfl) rfl rfl ?_
      refine w_load (pc' := 24) (v := .ref S) (m := 1) (ykc_93 (e := (2, .aload_n kF1, 0)) rfl) rfl rfl ?_
      refine w_gf (pc' := 27) (v := .int (zn P)) (ykc_93 (e := (5, .getfield 122, 0)) rfl) rfl gP rfl ?_
      refine w_ige (ykc_93 (e := (4, .if_icmp .ge 51, 78)) rfl) rfl (fun b747 => ?_) (fun b747 => ?_)
      · refine w_load (pc' := 79) (v := .int (zn (zLi (R, C, rk, sn, sk, cn, cd) P G v p k))) (m := 1) (ykc_93 (e := (2, .iload_n kF3, 0)) rfl) rfl rfl ?_
        refine w_ret (v := (some (.int (zn (zLi (R, C, rk, sn, sk, cn, cd) P G v p k))))) (ykc_93 (e := (7, .ireturn, 0)) rfl) (zr_v rfl) ?_
        have ek : P = k := by omega
        subst ek
        rw [hQ]
        exact ⟨rfl, rfl⟩
      · refine w_load (pc' := 32) (v := .int (zn k)) (m := 2) (ykc_93 (e := (2, .iload 4, 0)) rfl) rfl rfl ?_
        refine w_push (pc' := 34) (v := .int ((Int8.ofInt 8).toInt32)) (m := 2) (ykc_93 (e := (1, .bipush 8, 0)) rfl) rfl rfl ?_
        refine w_ige (ykc_93 (e := (4, .if_icmp .ge 44, 78)) rfl) rfl (fun q => by exfalso; omega) (fun b748 => ?_)
        refine w_load (pc' := 38) (v := .ref S) (m := 1) (ykc_93 (e := (2, .aload_n kF1, 0)) rfl) rfl rfl ?_
        refine w_gf (pc' := 41) (v := .ref (S + 4)) (ykc_93 (e := (5, .getfield 75, 0)) rfl) rfl r6 rfl ?_
        refine w_load (pc' := 43) (v := .int (zn k)) (m := 2) (ykc_93 (e := (2, .iload 4, 0)) rfl) rfl rfl ?_
        have q749 := hO0.1 k (by omega)
        have tq749 := znt (k := v (24 + k)) (by omega)
        refine w_ialk (pc' := 44) (k := k) (ykc_93 (e := (5, .iaload, 0)) rfl) (gv k (by omega)).2.2.2 (by omega) rfl ?_
        refine w_load (pc' := 45) (v := .int (zn (zLi (R, C, rk, sn, sk, cn, cd) P G v p k))) (m := 1) (ykc_93 (e := (2, .iload_n kF3, 0)) rfl) rfl rfl ?_
        refine w_alu (pc' := 46) (st' := [.int (Int32.ofInt (-1)), .int (zn (zLi (R, C, rk, sn, sk, cn, cd) P G v p k)), .int (zn (v (24 + k)))]) (ykc_93 (e := (0, .iconst (-1), 0)) rfl) rfl rfl ?_
        refine w_alu (pc' := 47) (st' := [.int ((zn (zLi (R, C, rk, sn, sk, cn, cd) P G v p k)) ^^^ (Int32.ofInt (-1))), .int (zn (v (24 + k)))]) (ykc_93 (e := (0, .ixor, 0)) rfl) rfl rfl ?_
        refine w_alu (pc' := 48) (st' := [.int ((zn (v (24 + k))) &&& ((zn (zLi (R, C, rk, sn, sk, cn, cd) P G v p k)) ^^^ (Int32.ofInt (-1))))]) (ykc_93 (e := (0, .iand, 0)) rfl) rfl rfl ?_
        refine w_zeq (ykc_93 (e := (4, .ifCond .eq 24, 72)) rfl) rfl (fun b750 => ?_) (fun b750 => ?_)
        · have e751 : (zn k) + Int32.ofInt 1 = zn (k + 1) := (zaddN (a := k) (b := 1) (znt (by omega)) c_3 (by omega))
          have te751 := znt (k := k + 1) (by omega)
          refine w_store (pc' := 75) (L' := [some (.ref 10), some (.ref S), some (.int (zn p)), some (.int (zn (zLi (R, C, rk, sn, sk, cn, cd) P G v p k))), some (.int (zn (k + 1)))]) (st' := []) (m := 3) (ykc_93 (e := (3, .iinc 4 1, 0)) rfl) (by rw [← e751]; rfl) rfl ?_
          refine w_gb (ykc_93 (e := (4, .goto (-54), 21)) rfl) (fun k752 hk752 => ?_)
          have et : zLi (R, C, rk, sn, sk, cn, cd) P G v p (k + 1) = zLi (R, C, rk, sn, sk, cn, cd) P G v p k := by
            show (bif zTell (R, C, rk, sn, sk, cn, cd) P v p k then zLi (R, C, rk, sn, sk, cn, cd) P G v p k ||| v (24 + k) else zLi (R, C, rk, sn, sk, cn, cd) P G v p k) = _
            rw [znew (hv256 k (by omega)) hlt b750]
            cases zTell (R, C, rk, sn, sk, cn, cd) P v p k <;> rfl
          have h9 := ih k752 hk752 (k + 1) (by omega)
          rw [et] at h9
          exact h9
        · refine w_load (pc' := 52) (v := .ref 10) (m := 1) (ykc_93 (e := (2, .aload_n kF0, 0)) rfl) rfl rfl ?_
          refine w_load (pc' := 53) (v := .ref S) (m := 1) (ykc_93 (e := (2, .aload_n kF1, 0)) rfl) rfl rfl ?_
          refine w_load (pc' := 54) (v := .int (zn p)) (m := 1) (ykc_93 (e := (2, .iload_n kF2, 0)) rfl) rfl rfl ?_
          refine w_load (pc' := 56) (v := .int (zn k)) (m := 2) (ykc_93 (e := (2, .iload 4, 0)) rfl) rfl rfl ?_
          refine w_cv (as := [.ref 10, .ref S, .int (zn p), .int (zn k)]) (r := []) (ykc_93 (e := (6, .invokevirtual 136, 0)) rfl) rfl rfl rfl rfl (zc_tell hS hE0 ht hO0 hvw (a := p) (b := k) (by omega) (by omega)) (fun v753 ph754 hv => ?_)
          obtain ⟨rfl, rfl⟩ := hv
          show zW n D 93 Q 59 [some (.ref 10), some (.ref S), some (.int (zn p)), some (.int (zn (zLi (R, C, rk, sn, sk, cn, cd) P G v p k))), some (.int (zn k))] [.int (zI (zTell (R, C, rk, sn, sk, cn, cd) P v p k))] ph
          refine w_beq (ykc_93 (e := (4, .ifCond .eq 13, 72)) rfl) rfl (fun b755 => ?_) (fun b755 => ?_)
          · have e756 : (zn k) + Int32.ofInt 1 = zn (k + 1) := (zaddN (a := k) (b := 1) (znt (by omega)) c_3 (by omega))
            have te756 := znt (k := k + 1) (by omega)
            refine w_store (pc' := 75) (L' := [some (.ref 10), some (.ref S), some (.int (zn p)), some (.int (zn (zLi (R, C, rk, sn, sk, cn, cd) P G v p k))), some (.int (zn (k + 1)))]) (st' := []) (m := 3) (ykc_93 (e := (3, .iinc 4 1, 0)) rfl) (by rw [← e756]; rfl) rfl ?_
            refine w_gb (ykc_93 (e := (4, .goto (-54), 21)) rfl) (fun k757 hk757 => ?_)
            have et : zLi (R, C, rk, sn, sk, cn, cd) P G v p (k + 1) = zLi (R, C, rk, sn, sk, cn, cd) P G v p k := by
              show (bif zTell (R, C, rk, sn, sk, cn, cd) P v p k then _ else _) = _
              rw [b755]
              rfl
            have h9 := ih k757 hk757 (k + 1) (by omega)
            rw [et] at h9
            exact h9
          · refine w_load (pc' := 63) (v := .int (zn (zLi (R, C, rk, sn, sk, cn, cd) P G v p k))) (m := 1) (ykc_93 (e := (2, .iload_n kF3, 0)) rfl) rfl rfl ?_
            refine w_load (pc' := 64) (v := .ref S) (m := 1) (ykc_93 (e := (2, .aload_n kF1, 0)) rfl) rfl rfl ?_
            refine w_gf (pc' := 67) (v := .ref (S + 4)) (ykc_93 (e := (5, .getfield 75, 0)) rfl) rfl r6 rfl ?_
            refine w_load (pc' := 69) (v := .int (zn k)) (m := 2) (ykc_93 (e := (2, .iload 4, 0)) rfl) rfl rfl ?_
            have q758 := hO0.1 k (by omega)
            have tq758 := znt (k := v (24 + k)) (by omega)
            refine w_ialk (pc' := 70) (k := k) (ykc_93 (e := (5, .iaload, 0)) rfl) (gv k (by omega)).2.2.2 (by omega) rfl ?_
            refine w_alu (pc' := 71) (st' := [.int (zn (zLi (R, C, rk, sn, sk, cn, cd) P G v p k ||| v (24 + k)))]) (ykc_93 (e := (0, .ior, 0)) rfl) (by rw [← (zor_n hlt (by omega) : (zn (zLi (R, C, rk, sn, sk, cn, cd) P G v p k)) ||| (zn (v (24 + k))) = zn (zLi (R, C, rk, sn, sk, cn, cd) P G v p k ||| v (24 + k)))]; rfl) rfl ?_
            refine w_store (pc' := 72) (L' := [some (.ref 10), some (.ref S), some (.int (zn p)), some (.int (zn (zLi (R, C, rk, sn, sk, cn, cd) P G v p k ||| v (24 + k)))), some (.int (zn k))]) (st' := []) (m := 1) (ykc_93 (e := (3, .istore_n kF3, 0)) rfl) rfl rfl ?_
            have e759 : (zn k) + Int32.ofInt 1 = zn (k + 1) := (zaddN (a := k) (b := 1) (znt (by omega)) c_3 (by omega))
            have te759 := znt (k := k + 1) (by omega)
            refine w_store (pc' := 75) (L' := [some (.ref 10), some (.ref S), some (.int (zn p)), some (.int (zn (zLi (R, C, rk, sn, sk, cn, cd) P G v p k ||| v (24 + k)))), some (.int (zn (k + 1)))]) (st' := []) (m := 3) (ykc_93 (e := (3, .iinc 4 1, 0)) rfl) (by rw [← e759]; rfl) rfl ?_
            refine w_gb (ykc_93 (e := (4, .goto (-54), 21)) rfl) (fun k760 hk760 => ?_)
            have et : zLi (R, C, rk, sn, sk, cn, cd) P G v p (k + 1) = zLi (R, C, rk, sn, sk, cn, cd) P G v p k ||| v (24 + k) := by
              show (bif zTell (R, C, rk, sn, sk, cn, cd) P v p k then _ else _) = _
              rw [b755]
              rfl
            have h9 := ih k760 hk760 (k + 1) (by omega)
            rw [et] at h9
            exact h9
  exact hl n 0 (Nat.zero_le _)
end
section
/-! the class: hours pass, by W; printed by wip/z/z_n_cpass.py -/
def zCp (S : Nat) (p q : pm_H) : Prop := zFr [8, 9, 15, 20, 22, 23, 24, S + 4] [(5, 4), (S, 2)] p q
theorem zCx_p {S : Nat} {p q : pm_H} (f : zCx p q) : zCp S p q := zFr_mono f (by simp <;> omega) (by simp)
theorem zCp_S {S : Nat} (hS2 : S = 25 ∨ S = 37) {p q : pm_H} (f : zCp S p q) (h : zSh p) : zSh q := by
  rcases hS2 with e | e <;> subst e
  · exact zSh_F f (by decide +kernel) h
  · exact zSh_F f (by decide +kernel) h
theorem zCp_e {S : Nat} (hS2 : S = 25 ∨ S = 37) {p q : pm_H} {E : zEn} {G : Nat} (f : zCp S p q) (h : zCe p E G) : zCe q E G := by
  rcases hS2 with e | e <;> subst e
  · refine ⟨zCl_F f (by simp) (by intro i hi; simp <;> omega) (by simp) h.1, zCi_F f (by simp) (by simp) h.2.1, ?_, h.2.2.2⟩
    rcases h.2.2.2 with e | e
    · subst e; exact zFm_F f (by simp) (by simp) h.2.2.1
    · subst e; exact zFm_F f (by simp) (by simp) h.2.2.1
  · refine ⟨zCl_F f (by simp) (by intro i hi; simp <;> omega) (by simp) h.1, zCi_F f (by simp) (by simp) h.2.1, ?_, h.2.2.2⟩
    rcases h.2.2.2 with e | e
    · subst e; exact zFm_F f (by simp) (by simp) h.2.2.1
    · subst e; exact zFm_F f (by simp) (by simp) h.2.2.1
theorem zHq_ok {E : zEn} {R C P G : Nat} {v : Nat → Nat} (h : zOk R C P G v) (hP : P ≤ 8) (hG : G ≤ 8) (h40 : v 40 < 999999) : zOk R C P G (zHq E P G v) := by
  have hv : ∀ i, i < P → v (24 + i) < 256 := fun i hi => (h.1 i hi).2.2.2
  refine ⟨fun p hp => ⟨?_, ?_, ?_, ?_⟩, fun t ht => ?_, ?_⟩
  · unfold zHq; rw [if_neg (by omega), if_neg (by omega)]; exact (h.1 p hp).1
  · unfold zHq; rw [if_neg (by omega), if_neg (by omega)]; exact (h.1 p hp).2.1
  · unfold zHq; rw [if_neg (by omega), if_neg (by omega)]; exact (h.1 p hp).2.2.1
  · unfold zHq; rw [if_pos (by omega), show 24 + p - 24 = p by omega]; exact zLi_lt hv hp hG P (Nat.le_refl P)
  · unfold zHq; rw [if_neg (by omega), if_neg (by omega)]; exact h.2.1 t ht
  · unfold zHq; rw [if_neg (by omega), if_pos rfl]; omega
noncomputable def zHqn (E : zEn) (P G : Nat) (v : Nat → Nat) : Nat → Nat → Nat
  | 0 => v
  | n + 1 => zHq E P G (zHqn E P G v n)
theorem zHqn_40 {E : zEn} {P G : Nat} {v : Nat → Nat} (hP : P ≤ 8) : ∀ n, zHqn E P G v n 40 = v 40 + n := by
  intro n
  induction n with
  | zero => rfl
  | succ n ih =>
    show zHq E P G (zHqn E P G v n) 40 = _
    unfold zHq
    rw [if_neg (by omega), if_pos rfl, ih]
    omega
theorem zHqn_ok {E : zEn} {R C P G : Nat} {v : Nat → Nat} (h : zOk R C P G v) (hP : P ≤ 8) (hG : G ≤ 8) : ∀ n, v 40 + n < 999999 → zOk R C P G (zHqn E P G v n) := by
  intro n
  induction n with
  | zero => intro _; exact h
  | succ n ih =>
    intro hn
    exact zHq_ok (ih (by omega)) hP hG (by rw [zHqn_40 hP]; omega)
theorem zSd_w {p q : pm_H} {S P G : Nat} {v u : Nat → Nat} (h25 : 25 ≤ S) (f : zFr [24, S + 4] [(S, 2)] p q) (hd : zSd p S P G v) (h24 : ∀ i, i < P → zc q (S + 4) i = some (.int (zn (u (24 + i))))) (h40 : zc q S 2 = some (.int (zn (u 40)))) (hu : ∀ i, (i < 24 ∨ (32 ≤ i ∧ i < 40)) → u i = v i) : zSd q S P G u := by
  obtain ⟨g0, gP, g1, gG, -, g3, g4⟩ := hd
  refine ⟨(f.1 _ _ (by simp <;> omega) (by simp)).trans g0, gP, (f.1 _ _ (by simp <;> omega) (by simp)).trans g1, gG, h40, fun i hi => ⟨?_, ?_, ?_, h24 i hi⟩, fun i hi => ?_⟩
  · rw [hu i (by omega)]; exact (f.1 _ _ (by simp <;> omega) (by simp)).trans (g3 i hi).1
  · rw [hu (8 + i) (by omega)]; exact (f.1 _ _ (by simp <;> omega) (by simp)).trans (g3 i hi).2.1
  · rw [hu (16 + i) (by omega)]; exact (f.1 _ _ (by simp <;> omega) (by simp)).trans (g3 i hi).2.2.1
  · rw [hu (32 + i) (by omega)]; exact (f.1 _ _ (by simp <;> omega) (by simp)).trans (g4 i hi)
theorem zSs_w {p q : pm_H} {S : Nat} (h25 : 25 ≤ S) (g : zFr [24, S + 4] [(S, 2)] p q) (h : zSs p S) : zSs q S := ⟨(g.1 _ _ (by simp <;> omega) (by simp)).trans h.1, (g.1 _ _ (by simp <;> omega) (by simp)).trans h.2.1, (g.1 _ _ (by simp <;> omega) (by simp)).trans h.2.2.1, (g.1 _ _ (by simp <;> omega) (by simp)).trans h.2.2.2.1, (g.1 _ _ (by simp <;> omega) (by simp)).trans h.2.2.2.2.1, (g.2 _).trans h.2.2.2.2.2.1, (g.2 _).trans h.2.2.2.2.2.2.1, (g.2 _).trans h.2.2.2.2.2.2.2.1, (g.2 _).trans h.2.2.2.2.2.2.2.2.1, (g.2 _).trans h.2.2.2.2.2.2.2.2.2⟩
theorem zC24_S {p q : pm_H} (f : zFr [24] [] p q) (h : zSh p) : zSh q := zCx_S (zFr_mono f (by simp) (by simp)) h
theorem zC24_e {p q : pm_H} {E : zEn} {G : Nat} (f : zFr [24] [] p q) (h : zCe p E G) : zCe q E G := zCx_e (zFr_mono f (by simp) (by simp)) h
theorem zC24_t {p q : pm_H} {S P G : Nat} {v : Nat → Nat} (f : zFr [24] [] p q) (h : zCt p S P G v) : zCt q S P G v := zCx_t (zFr_mono f (by simp) (by simp)) h
theorem zc_hour1 {n D : Nat} {Q : Option Value → pm_H → Prop} {ph : pm_H} {E : zEn} {F S P G : Nat} {v : Nat → Nat} (hS : zSh ph) (hE : zCe ph E F) (ht : zCt ph S P G v) (hO : zOk E.1 E.2.1 P G v) (hS2 : S = 25 ∨ S = 37) (hr : zc ph 10 1 = some (.ref F)) (hc : zCc ph E.1 E.2.1 E.2.2.1) (h999 : v 40 < 999999) {xn xh : Int32} {x4 : Option Value} (kk : ∀ (q : pm_H) (x4 : Option Value), zCp S ph q → zCt q S P G (zHq E P G v) → zCc q E.1 E.2.1 E.2.2.1 → zW n D 92 Q 105 [some (.ref 10), some (.ref S), some (.int xn), some (.int xh), x4] [] q) : zW n D 92 Q 7 [some (.ref 10), some (.ref S), some (.int xn), some (.int xh), x4] [] ph := by
  obtain ⟨R, C, rk, sn, sk, cn, cd⟩ := E
  have hL0 : zCl ph R C rk := hE.1
  have hi0 : zCi ph sn sk := hE.2.1
  have hF : F = 11 ∨ F = 16 := hE.2.2.2
  have hE0 : zCe ph (R, C, rk, sn, sk, cn, cd) F := hE
  have hO0 : zOk R C P G v := hO
  have hL := hL0
  have hs := ht.1.2
  have hd := ht.2
  have h25 := ht.1.1
  obtain ⟨gR, gC, gN, gK, gA, hR3, hR7, hC3, hC7⟩ := hL
  have hRC := zRC49 hR7 hC7
  have tR := znt (k := R) (by omega)
  have tC := znt (k := C) (by omega)
  have tRC := znt (k := R * C) (by omega)
  have hd0 := hd
  have hs0 := hs
  obtain ⟨r3, r4, r5, r6, r7, l1, l2, l3, l4, l5⟩ := hs
  obtain ⟨gP, hP8, gG, hG8, gH, gv, gw⟩ := hd
  have tP := znt (k := P) (by omega)
  have tG := znt (k := G) (by omega)
  have h40 := hO0.2.2
  have t40 := znt (k := v 40) (by omega)
  have hv256 : ∀ i, i < P → v (24 + i) < 256 := fun i hi => (hO0.1 i hi).2.2.2
  have c_0 : ((Int8.ofInt 8).toInt32).toInt = 8 := by decide
  have c_1 : (Int32.ofInt 0).toInt = 0 := by decide
  have c_2 : (Int32.ofInt 1).toInt = 1 := by decide
  refine w_load (pc' := 8) (v := .ref 10) (m := 1) (ykc_92 (e := (2, .aload_n kF0, 0)) rfl) rfl rfl ?_
  refine w_load (pc' := 9) (v := .ref 10) (m := 1) (ykc_92 (e := (2, .aload_n kF0, 0)) rfl) rfl rfl ?_
  refine w_gf (pc' := 12) (v := .ref F) (ykc_92 (e := (5, .getfield 18, 0)) rfl) rfl hr rfl ?_
  refine w_load (pc' := 13) (v := .ref S) (m := 1) (ykc_92 (e := (2, .aload_n kF1, 0)) rfl) rfl rfl ?_
  refine w_cv (as := [.ref 10, .ref F, .ref S]) (r := []) (ykc_92 (e := (6, .invokevirtual 118, 0)) rfl) rfl rfl rfl rfl (zc_look hS hE0 ht hO0 hc) (fun v762 ph763 hv => ?_)
  obtain ⟨f761, hc1, hvw, rfl⟩ := hv
  show zW n D 92 Q 16 [some (.ref 10), some (.ref S), some (.int xn), some (.int xh), x4] [.long (zAll (R, C, rk, sn, sk, cn, cd) P v)] ph763
  refine w_alu (pc' := 17) (st' := []) (ykc_92 (e := (0, .pop2, 0)) rfl) rfl rfl ?_
  have hS1 := zCx_S f761 hS
  have hE1 := zCx_e f761 hE0
  have ht1 := zCx_t f761 ht
  have hl2 : ∀ (n1 : Nat), n1 ≤ n → ∀ (k : Nat) (ph1 : pm_H), (k ≤ P) → (zCp S ph ph1) → (zFr [24, S + 4] [] ph763 ph1) → (∀ i, i < P → zc ph1 24 i = some (.int (zn (zLi (R, C, rk, sn, sk, cn, cd) P G v i P)))) → (∀ i, i < k → zc ph1 (S + 4) i = some (.int (zn (zLi (R, C, rk, sn, sk, cn, cd) P G v i P)))) → zW n1 D 92 Q 59 [some (.ref 10), some (.ref S), some (.int xn), some (.int xh), some (.int (zn k))] [] ph1 := by
    intro n1
    induction n1 using Nat.strongRecOn with
    | ind n1 ih =>
      intro hlim k ph1 hk hf hg hln hkn
      have tk := znt (k := k) (by omega)
      obtain ⟨r3, r4, r5, r6, r7, -⟩ := ht1.1.2
      obtain ⟨gP1, -, -, -, gH1, -⟩ := ht1.2
      refine w_load (pc' := 61) (v := .int (zn k)) (m := 2) (ykc_92 (e := (2, .iload 4, 0)) rfl) rfl rfl ?_
      refine w_load (pc' := 62) (v := .ref S) (m := 1) (ykc_92 (e := (2, .aload_n kF1, 0)) rfl) rfl rfl ?_
      refine w_gf (pc' := 65) (v := .int (zn P)) (ykc_92 (e := (5, .getfield 122, 0)) rfl) rfl ((hg.1 S 0 (by simp <;> omega) (by simp <;> omega)).trans gP1) rfl ?_
      refine w_ige (ykc_92 (e := (4, .if_icmp .ge 30, 95)) rfl) rfl (fun b764 => ?_) (fun b764 => ?_)
      · refine w_load (pc' := 96) (v := .ref S) (m := 1) (ykc_92 (e := (2, .aload_n kF1, 0)) rfl) rfl rfl ?_
        refine w_alu (pc' := 97) (st' := [.ref S, .ref S]) (ykc_92 (e := (0, .dup, 0)) rfl) rfl rfl ?_
        refine w_gf (pc' := 100) (v := .int (zn (v 40))) (ykc_92 (e := (5, .getfield 69, 0)) rfl) rfl ((hg.1 S 2 (by simp <;> omega) (by simp <;> omega)).trans gH1) rfl ?_
        refine w_alu (pc' := 101) (st' := [.int (Int32.ofInt 1), .int (zn (v 40)), .ref S]) (ykc_92 (e := (0, .iconst 1, 0)) rfl) rfl rfl ?_
        have e765 : (zn (v 40)) + (Int32.ofInt 1) = zn (v 40 + 1) := (zaddN (a := v 40) (b := 1) (znt (by omega)) c_2 (by omega)) 
        have te765 := znt (k := v 40 + 1) (by omega)
        refine w_alu (pc' := 102) (st' := [.int (zn (v 40 + 1)), .ref S]) (ykc_92 (e := (0, .iadd, 0)) rfl) (by rw [← e765]; rfl) rfl ?_
        refine w_pf (pc' := 105) (ykc_92 (e := (5, .putfield 69, 0)) rfl) rfl rfl (fun ph767 u766 => ?_)
        have ek : P = k := by omega
        subst ek
        have g : zFr [24, S + 4] [(S, 2)] ph763 _ := zFr_add (zFr_mono hg (by simp) (by simp)) u766 (Or.inr (by simp))
        refine zW_le (kk _ _ (zFr_add hf u766 (Or.inr (by simp))) ⟨⟨h25, zSs_w h25 g ht1.1.2⟩, zSd_w h25 g ht1.2 (fun i hi => ?_) ?_ (fun i hi => ?_)⟩ (zCc_F g (by simp <;> omega) (by simp <;> omega) (by simp <;> omega) hc1)) hlim
        · unfold zHq
          rw [if_pos (by omega), show 24 + i - 24 = i by omega]
          exact (u766.2.1 (S + 4) i (fun q => by have q2 := q.1; omega)).trans (hkn i hi)
        · unfold zHq
          rw [if_neg (by omega), if_pos rfl]
          exact u766.1
        · unfold zHq
          rw [if_neg (by omega), if_neg (by omega)]
      · refine w_load (pc' := 70) (v := .int (zn k)) (m := 2) (ykc_92 (e := (2, .iload 4, 0)) rfl) rfl rfl ?_
        refine w_push (pc' := 72) (v := .int ((Int8.ofInt 8).toInt32)) (m := 2) (ykc_92 (e := (1, .bipush 8, 0)) rfl) rfl rfl ?_
        refine w_ige (ykc_92 (e := (4, .if_icmp .ge 23, 95)) rfl) rfl (fun q => by exfalso; omega) (fun b768 => ?_)
        refine w_load (pc' := 76) (v := .ref S) (m := 1) (ykc_92 (e := (2, .aload_n kF1, 0)) rfl) rfl rfl ?_
        refine w_gf (pc' := 79) (v := .ref (S + 4)) (ykc_92 (e := (5, .getfield 75, 0)) rfl) rfl ((hg.1 S 6 (by simp <;> omega) (by simp <;> omega)).trans r6) rfl ?_
        refine w_load (pc' := 81) (v := .int (zn k)) (m := 2) (ykc_92 (e := (2, .iload 4, 0)) rfl) rfl rfl ?_
        refine w_load (pc' := 82) (v := .ref 10) (m := 1) (ykc_92 (e := (2, .aload_n kF0, 0)) rfl) rfl rfl ?_
        refine w_gf (pc' := 85) (v := .ref 24) (ykc_92 (e := (5, .getfield 40, 0)) rfl) rfl ((hg.1 10 7 (by simp <;> omega) (by simp <;> omega)).trans (zsg hS1 zs_10_7)) rfl ?_
        refine w_load (pc' := 87) (v := .int (zn k)) (m := 2) (ykc_92 (e := (2, .iload 4, 0)) rfl) rfl rfl ?_
        refine w_ialk (pc' := 88) (k := k) (ykc_92 (e := (5, .iaload, 0)) rfl) (hln k (by omega)) (by omega) rfl ?_
        refine w_ias (pc' := 89) (k := k) (ykc_92 (e := (5, .iastore, 0)) rfl) (by omega) rfl (fun ph770 u769 => ?_)
        have e771 : (zn k) + Int32.ofInt 1 = zn (k + 1) := (zaddN (a := k) (b := 1) (znt (by omega)) c_2 (by omega))
        have te771 := znt (k := k + 1) (by omega)
        refine w_store (pc' := 92) (L' := [some (.ref 10), some (.ref S), some (.int xn), some (.int xh), some (.int (zn (k + 1)))]) (st' := []) (m := 3) (ykc_92 (e := (3, .iinc 4 1, 0)) rfl) (by rw [← e771]; rfl) rfl ?_
        refine w_gb (ykc_92 (e := (4, .goto (-33), 59)) rfl) (fun k772 hk772 => ?_)
        exact ih k772 hk772 (by omega) (k + 1) _ (by omega) (zFr_add hf u769 (Or.inl (by simp))) (zFr_add hg u769 (Or.inl (by simp))) (fun i hi => (u769.2.1 24 i (fun q => by have q2 := q.1; omega)).trans (hln i hi)) (fun i hi => by
          by_cases e : i = k
          · subst e
            exact u769.1
          · exact (u769.2.1 (S + 4) i (fun q => e q.2)).trans (hkn i (by omega)))
  have hl1 : ∀ (n1 : Nat), n1 ≤ n → ∀ (k : Nat) (ph1 : pm_H), (k ≤ P) → (zCp S ph ph1) → (zFr [24] [] ph763 ph1) → (∀ i, i < k → zc ph1 24 i = some (.int (zn (zLi (R, C, rk, sn, sk, cn, cd) P G v i P)))) → zW n1 D 92 Q 20 [some (.ref 10), some (.ref S), some (.int xn), some (.int xh), some (.int (zn k))] [] ph1 := by
    intro n1
    induction n1 using Nat.strongRecOn with
    | ind n1 ih =>
      intro hlim k ph1 hk hf hg hln
      have tk := znt (k := k) (by omega)
      obtain ⟨gP1, -⟩ := ht1.2
      refine w_load (pc' := 22) (v := .int (zn k)) (m := 2) (ykc_92 (e := (2, .iload 4, 0)) rfl) rfl rfl ?_
      refine w_load (pc' := 23) (v := .ref S) (m := 1) (ykc_92 (e := (2, .aload_n kF1, 0)) rfl) rfl rfl ?_
      refine w_gf (pc' := 26) (v := .int (zn P)) (ykc_92 (e := (5, .getfield 122, 0)) rfl) rfl ((hg.1 S 0 (by simp <;> omega) (by simp <;> omega)).trans gP1) rfl ?_
      refine w_ige (ykc_92 (e := (4, .if_icmp .ge 30, 56)) rfl) rfl (fun b773 => ?_) (fun b773 => ?_)
      · refine w_alu (pc' := 57) (st' := [.int (Int32.ofInt 0)]) (ykc_92 (e := (0, .iconst 0, 0)) rfl) rfl rfl ?_
        refine w_store (pc' := 59) (L' := [some (.ref 10), some (.ref S), some (.int xn), some (.int xh), some (.int (Int32.ofInt 0))]) (st' := []) (m := 2) (ykc_92 (e := (3, .istore 4, 0)) rfl) rfl rfl ?_
        have ek : P = k := by omega
        subst ek
        exact hl2 n1 hlim 0 ph1 (Nat.zero_le _) hf (zFr_mono hg (by simp) (by simp)) hln (fun i hi => absurd hi (Nat.not_lt_zero i))
      · refine w_load (pc' := 31) (v := .int (zn k)) (m := 2) (ykc_92 (e := (2, .iload 4, 0)) rfl) rfl rfl ?_
        refine w_push (pc' := 33) (v := .int ((Int8.ofInt 8).toInt32)) (m := 2) (ykc_92 (e := (1, .bipush 8, 0)) rfl) rfl rfl ?_
        refine w_ige (ykc_92 (e := (4, .if_icmp .ge 23, 56)) rfl) rfl (fun q => by exfalso; omega) (fun b774 => ?_)
        refine w_load (pc' := 37) (v := .ref 10) (m := 1) (ykc_92 (e := (2, .aload_n kF0, 0)) rfl) rfl rfl ?_
        refine w_gf (pc' := 40) (v := .ref 24) (ykc_92 (e := (5, .getfield 40, 0)) rfl) rfl ((hg.1 10 7 (by simp <;> omega) (by simp <;> omega)).trans (zsg hS1 zs_10_7)) rfl ?_
        refine w_load (pc' := 42) (v := .int (zn k)) (m := 2) (ykc_92 (e := (2, .iload 4, 0)) rfl) rfl rfl ?_
        refine w_load (pc' := 43) (v := .ref 10) (m := 1) (ykc_92 (e := (2, .aload_n kF0, 0)) rfl) rfl rfl ?_
        refine w_load (pc' := 44) (v := .ref S) (m := 1) (ykc_92 (e := (2, .aload_n kF1, 0)) rfl) rfl rfl ?_
        refine w_load (pc' := 46) (v := .int (zn k)) (m := 2) (ykc_92 (e := (2, .iload 4, 0)) rfl) rfl rfl ?_
        refine w_cv (as := [.ref 10, .ref S, .int (zn k)]) (r := [.int (zn k), .ref 24]) (ykc_92 (e := (6, .invokevirtual 139, 0)) rfl) rfl rfl rfl rfl (zc_learn (zC24_S hg hS1) (zC24_e hg hE1) (zC24_t hg ht1) hO0 (fun i hi => (hg.1 23 i (by simp) (by simp)).trans (hvw i hi)) (p := k) (by omega)) (fun v775 ph776 hv => ?_)
        obtain ⟨rfl, rfl⟩ := hv
        have hlt := zLi_lt (E := (R, C, rk, sn, sk, cn, cd)) (G := G) (p := k) hv256 (by omega) hG8 P (Nat.le_refl P)
        have tl := znt (k := zLi (R, C, rk, sn, sk, cn, cd) P G v k P) (by omega)
        show zW n1 D 92 Q 49 [some (.ref 10), some (.ref S), some (.int xn), some (.int xh), some (.int (zn k))] [.int (zn (zLi (R, C, rk, sn, sk, cn, cd) P G v k P)), .int (zn k), .ref 24] ph1
        refine w_ias (pc' := 50) (k := k) (ykc_92 (e := (5, .iastore, 0)) rfl) (by omega) rfl (fun ph778 u777 => ?_)
        have e779 : (zn k) + Int32.ofInt 1 = zn (k + 1) := (zaddN (a := k) (b := 1) (znt (by omega)) c_2 (by omega))
        have te779 := znt (k := k + 1) (by omega)
        refine w_store (pc' := 53) (L' := [some (.ref 10), some (.ref S), some (.int xn), some (.int xh), some (.int (zn (k + 1)))]) (st' := []) (m := 3) (ykc_92 (e := (3, .iinc 4 1, 0)) rfl) (by rw [← e779]; rfl) rfl ?_
        refine w_gb (ykc_92 (e := (4, .goto (-33), 20)) rfl) (fun k780 hk780 => ?_)
        exact ih k780 hk780 (by omega) (k + 1) _ (by omega) (zFr_add hf u777 (Or.inl (by simp))) (zFr_add hg u777 (Or.inl (by simp))) (fun i hi => by
          by_cases e : i = k
          · subst e
            exact u777.1
          · exact (u777.2.1 24 i (fun q => e q.2)).trans (hln i (by omega)))
  refine w_alu (pc' := 18) (st' := [.int (Int32.ofInt 0)]) (ykc_92 (e := (0, .iconst 0, 0)) rfl) rfl rfl ?_
  refine w_store (pc' := 20) (L' := [some (.ref 10), some (.ref S), some (.int xn), some (.int xh), some (.int (Int32.ofInt 0))]) (st' := []) (m := 2) (ykc_92 (e := (3, .istore 4, 0)) rfl) rfl rfl ?_
  exact hl1 n (Nat.le_refl n) 0 ph763 (Nat.zero_le _) (zCx_p f761) zFr_refl (fun i hi => absurd hi (Nat.not_lt_zero i))
theorem zc_pass {ph : pm_H} {E : zEn} {F S P G : Nat} {v : Nat → Nat} (hS : zSh ph) (hE : zCe ph E F) (ht : zCt ph S P G v) (hO : zOk E.1 E.2.1 P G v) (hS2 : S = 25 ∨ S = 37) (hr : zc ph 10 1 = some (.ref F)) (hc : zCc ph E.1 E.2.1 E.2.2.1) {N : Nat} (hN : v 40 + N < 999999) : zM 92 [.ref 10, .ref S, .int (zn N)] ph (fun v0 q => zCp S ph q ∧ zCt q S P G (zHqn E P G v N) ∧ zCc q E.1 E.2.1 E.2.2.1 ∧ v0 = some (.int (zKw (zHqn E P G v N) P))) := by
  obtain ⟨Q, hQ⟩ : ∃ Q : Option Value → pm_H → Prop, Q = (fun v0 q => zCp S ph q ∧ zCt q S P G (zHqn E P G v N) ∧ zCc q E.1 E.2.1 E.2.2.1 ∧ v0 = some (.int (zKw (zHqn E P G v N) P))) := ⟨_, rfl⟩
  rw [← hQ]
  refine zM_mk fun n D => ?_
  show zW n D 92 Q 0 [some (.ref 10), some (.ref S), some (.int (zn N)), none, none] [] ph
  have c_0 : ((Int8.ofInt 8).toInt32).toInt = 8 := by decide
  have c_1 : (Int32.ofInt 0).toInt = 0 := by decide
  have c_2 : (Int32.ofInt 1).toInt = 1 := by decide
  have tN := znt (k := N) (by omega)
  have hG8 : G ≤ 8 := ht.2.2.2.2.1
  have hP8 : P ≤ 8 := ht.2.2.1
  refine w_alu (pc' := 1) (st' := [.int (Int32.ofInt 0)]) (ykc_92 (e := (0, .iconst 0, 0)) rfl) rfl rfl ?_
  refine w_store (pc' := 2) (L' := [some (.ref 10), some (.ref S), some (.int (zn N)), some (.int (Int32.ofInt 0)), none]) (st' := []) (m := 1) (ykc_92 (e := (3, .istore_n kF3, 0)) rfl) rfl rfl ?_
  have hl : ∀ (n : Nat), ∀ (h : Nat) (x4 : Option Value) (ph1 : pm_H), (h ≤ N) → (zCp S ph ph1) → (zCt ph1 S P G (zHqn E P G v h)) → (zCc ph1 E.1 E.2.1 E.2.2.1) → zW n D 92 Q 2 [some (.ref 10), some (.ref S), some (.int (zn N)), some (.int (zn h)), x4] [] ph1 := by
    intro n
    induction n using Nat.strongRecOn with
    | ind n ih =>
      intro h x4 ph1 hh hf ht1 hc1
      have th := znt (k := h) (by omega)
      refine w_load (pc' := 3) (v := .int (zn h)) (m := 1) (ykc_92 (e := (2, .iload_n kF3, 0)) rfl) rfl rfl ?_
      refine w_load (pc' := 4) (v := .int (zn N)) (m := 1) (ykc_92 (e := (2, .iload_n kF2, 0)) rfl) rfl rfl ?_
      refine w_ige (ykc_92 (e := (4, .if_icmp .ge 107, 111)) rfl) rfl (fun b781 => ?_) (fun b781 => ?_)
      · refine w_load (pc' := 112) (v := .ref S) (m := 1) (ykc_92 (e := (2, .aload_n kF1, 0)) rfl) rfl rfl ?_
        refine w_cv (as := [.ref S]) (r := []) (ykc_92 (e := (6, .invokevirtual 143, 0)) rfl) rfl rfl rfl rfl (zc_known ht1.1.2 ht1.2) (fun v782 ph783 hv => ?_)
        obtain ⟨rfl, rfl⟩ := hv
        show zW n D 92 Q 115 [some (.ref 10), some (.ref S), some (.int (zn N)), some (.int (zn h)), x4] [.int (zKw (zHqn E P G v h) P)] ph1
        refine w_ret (v := (some (.int (zKw (zHqn E P G v h) P)))) (ykc_92 (e := (7, .ireturn, 0)) rfl) (zr_v rfl) ?_
        have eh : h = N := by omega
        subst eh
        rw [hQ]
        exact ⟨hf, ht1, hc1, rfl⟩
      · refine zc_hour1 (zCp_S hS2 hf hS) (zCp_e hS2 hf hE) ht1 (zHqn_ok hO hP8 hG8 h (by omega)) hS2 ((hf.1 10 1 (by simp <;> omega) (by simp <;> omega)).trans hr) hc1 (by rw [zHqn_40 hP8]; omega) (fun q x4 hf2 ht2 hc2 => ?_)
        have hf3 : zCp S ph q := zFr_trans hf hf2
        have e784 : (zn h) + Int32.ofInt 1 = zn (h + 1) := (zaddN (a := h) (b := 1) (znt (by omega)) c_2 (by omega))
        have te784 := znt (k := h + 1) (by omega)
        refine w_store (pc' := 108) (L' := [some (.ref 10), some (.ref S), some (.int (zn N)), some (.int (zn (h + 1))), x4]) (st' := []) (m := 3) (ykc_92 (e := (3, .iinc 3 1, 0)) rfl) (by rw [← e784]; rfl) rfl ?_
        refine w_gb (ykc_92 (e := (4, .goto (-106), 2)) rfl) (fun k785 hk785 => ?_)
        exact ih k785 hk785 (h + 1) _ _ (by omega) hf3 ht2 hc2
  exact hl n 0 none ph (Nat.zero_le _) zFr_refl ht hc
end
section
/-! the class: copies, history, by W; printed by wip/z/z_o_chist.py -/
theorem zFr_ac {A : List Nat} {F : List (Nat × Nat)} {p q : pm_H} {B : Nat} (hf : ∀ b c, b ≠ B → zc q b c = zc p b c) (hl : ∀ b, zln q b = zln p b) (h : B ∈ A) : zFr A F p q := ⟨fun b c h1 _ => hf b c (fun e => by subst e; exact h1 h), hl⟩
/-- a State is written at S -/
def zCo (S : Nat) (p q : pm_H) : Prop := zFr [S + 1, S + 2, S + 3, S + 4, S + 5] [(S, 0), (S, 1), (S, 2)] p q
theorem zc_copy {ph : pm_H} {S T P G : Nat} {v : Nat → Nat} (hs : zSs ph T) (hs2 : zSs ph S) (hd : zSd ph T P G v) (hst : S + 5 < T ∨ T + 5 < S) : zM 103 [.ref S, .ref T] ph (fun v0 q => v0 = none ∧ zCo S ph q ∧ zSd q S P G v) := by
  obtain ⟨Q, hQ⟩ : ∃ Q : Option Value → pm_H → Prop, Q = (fun v0 q => v0 = none ∧ zCo S ph q ∧ zSd q S P G v) := ⟨_, rfl⟩
  rw [← hQ]
  refine zM_mk fun n D => ?_
  show zW n D 103 Q 0 [some (.ref S), some (.ref T)] [] ph
  have c_0 : ((Int8.ofInt 8).toInt32).toInt = 8 := by decide
  have c_1 : (Int32.ofInt 0).toInt = 0 := by decide
  have hd0 := hd
  have hs0 := hs
  obtain ⟨r3, r4, r5, r6, r7, l1, l2, l3, l4, l5⟩ := hs
  obtain ⟨gP, hP8, gG, hG8, gH, gv, gw⟩ := hd
  have tP := znt (k := P) (by omega)
  have tG := znt (k := G) (by omega)
  obtain ⟨e3, e4, e5, e6, e7, m1, m2, m3, m4, m5⟩ := hs2
  refine w_load (pc' := 1) (v := .ref S) (m := 1) (ykc_103 (e := (2, .aload_n kF0, 0)) rfl) rfl rfl ?_
  refine w_load (pc' := 2) (v := .ref T) (m := 1) (ykc_103 (e := (2, .aload_n kF1, 0)) rfl) rfl rfl ?_
  refine w_gf (pc' := 5) (v := .int (zn P)) (ykc_103 (e := (5, .getfield 30, 0)) rfl) rfl gP rfl ?_
  refine w_pf (pc' := 8) (ykc_103 (e := (5, .putfield 30, 0)) rfl) rfl rfl (fun ph787 u786 => ?_)
  refine w_load (pc' := 9) (v := .ref S) (m := 1) (ykc_103 (e := (2, .aload_n kF0, 0)) rfl) rfl rfl ?_
  refine w_load (pc' := 10) (v := .ref T) (m := 1) (ykc_103 (e := (2, .aload_n kF1, 0)) rfl) rfl rfl ?_
  refine w_gf (pc' := 13) (v := .int (zn G)) (ykc_103 (e := (5, .getfield 34, 0)) rfl) rfl ((u786.2.1 T 1 (fun q => by have q2 := q.1; omega)).trans gG) rfl ?_
  refine w_pf (pc' := 16) (ykc_103 (e := (5, .putfield 34, 0)) rfl) rfl rfl (fun ph789 u788 => ?_)
  refine w_load (pc' := 17) (v := .ref S) (m := 1) (ykc_103 (e := (2, .aload_n kF0, 0)) rfl) rfl rfl ?_
  refine w_load (pc' := 18) (v := .ref T) (m := 1) (ykc_103 (e := (2, .aload_n kF1, 0)) rfl) rfl rfl ?_
  refine w_gf (pc' := 21) (v := .int (zn (v 40))) (ykc_103 (e := (5, .getfield 37, 0)) rfl) rfl ((u788.2.1 T 2 (fun q => by have q2 := q.1; omega)).trans ((u786.2.1 T 2 (fun q => by have q2 := q.1; omega)).trans gH)) rfl ?_
  refine w_pf (pc' := 24) (ykc_103 (e := (5, .putfield 37, 0)) rfl) rfl rfl (fun ph791 u790 => ?_)
  refine w_load (pc' := 25) (v := .ref T) (m := 1) (ykc_103 (e := (2, .aload_n kF1, 0)) rfl) rfl rfl ?_
  refine w_gf (pc' := 28) (v := .ref (T + 1)) (ykc_103 (e := (5, .getfield 9, 0)) rfl) rfl ((u790.2.1 T 3 (fun q => by have q2 := q.1; omega)).trans ((u788.2.1 T 3 (fun q => by have q2 := q.1; omega)).trans ((u786.2.1 T 3 (fun q => by have q2 := q.1; omega)).trans r3))) rfl ?_
  refine w_alu (pc' := 29) (st' := [.int (Int32.ofInt 0), .ref (T + 1)]) (ykc_103 (e := (0, .iconst 0, 0)) rfl) rfl rfl ?_
  refine w_load (pc' := 30) (v := .ref S) (m := 1) (ykc_103 (e := (2, .aload_n kF0, 0)) rfl) rfl rfl ?_
  refine w_gf (pc' := 33) (v := .ref (S + 1)) (ykc_103 (e := (5, .getfield 9, 0)) rfl) rfl ((u790.2.1 S 3 (fun q => absurd q.2 (by decide))).trans ((u788.2.1 S 3 (fun q => absurd q.2 (by decide))).trans ((u786.2.1 S 3 (fun q => absurd q.2 (by decide))).trans e3))) rfl ?_
  refine w_alu (pc' := 34) (st' := [.int (Int32.ofInt 0), .ref (S + 1), .int (Int32.ofInt 0), .ref (T + 1)]) (ykc_103 (e := (0, .iconst 0, 0)) rfl) rfl rfl ?_
  refine w_push (pc' := 36) (v := .int ((Int8.ofInt 8).toInt32)) (m := 2) (ykc_103 (e := (1, .bipush 8, 0)) rfl) rfl rfl ?_
  refine w_ac8 (ykc_103 (e := (5, .invokestatic 40, 0)) rfl) rfl ((u790.2.2 (T + 1)).trans ((u788.2.2 (T + 1)).trans ((u786.2.2 (T + 1)).trans l1))) ((u790.2.2 (S + 1)).trans ((u788.2.2 (S + 1)).trans ((u786.2.2 (S + 1)).trans m1))) rfl (fun ph792 u793_a u793_b u793_c => ?_)
  refine w_load (pc' := 40) (v := .ref T) (m := 1) (ykc_103 (e := (2, .aload_n kF1, 0)) rfl) rfl rfl ?_
  refine w_gf (pc' := 43) (v := .ref (T + 2)) (ykc_103 (e := (5, .getfield 15, 0)) rfl) rfl ((u793_b T 4 (by omega)).trans ((u790.2.1 T 4 (fun q => by have q2 := q.1; omega)).trans ((u788.2.1 T 4 (fun q => by have q2 := q.1; omega)).trans ((u786.2.1 T 4 (fun q => by have q2 := q.1; omega)).trans r4)))) rfl ?_
  refine w_alu (pc' := 44) (st' := [.int (Int32.ofInt 0), .ref (T + 2)]) (ykc_103 (e := (0, .iconst 0, 0)) rfl) rfl rfl ?_
  refine w_load (pc' := 45) (v := .ref S) (m := 1) (ykc_103 (e := (2, .aload_n kF0, 0)) rfl) rfl rfl ?_
  refine w_gf (pc' := 48) (v := .ref (S + 2)) (ykc_103 (e := (5, .getfield 15, 0)) rfl) rfl ((u793_b S 4 (by omega)).trans ((u790.2.1 S 4 (fun q => absurd q.2 (by decide))).trans ((u788.2.1 S 4 (fun q => absurd q.2 (by decide))).trans ((u786.2.1 S 4 (fun q => absurd q.2 (by decide))).trans e4)))) rfl ?_
  refine w_alu (pc' := 49) (st' := [.int (Int32.ofInt 0), .ref (S + 2), .int (Int32.ofInt 0), .ref (T + 2)]) (ykc_103 (e := (0, .iconst 0, 0)) rfl) rfl rfl ?_
  refine w_push (pc' := 51) (v := .int ((Int8.ofInt 8).toInt32)) (m := 2) (ykc_103 (e := (1, .bipush 8, 0)) rfl) rfl rfl ?_
  refine w_ac8 (ykc_103 (e := (5, .invokestatic 40, 0)) rfl) rfl ((u793_c (T + 2)).trans ((u790.2.2 (T + 2)).trans ((u788.2.2 (T + 2)).trans ((u786.2.2 (T + 2)).trans l2)))) ((u793_c (S + 2)).trans ((u790.2.2 (S + 2)).trans ((u788.2.2 (S + 2)).trans ((u786.2.2 (S + 2)).trans m2)))) rfl (fun ph794 u795_a u795_b u795_c => ?_)
  refine w_load (pc' := 55) (v := .ref T) (m := 1) (ykc_103 (e := (2, .aload_n kF1, 0)) rfl) rfl rfl ?_
  refine w_gf (pc' := 58) (v := .ref (T + 3)) (ykc_103 (e := (5, .getfield 18, 0)) rfl) rfl ((u795_b T 5 (by omega)).trans ((u793_b T 5 (by omega)).trans ((u790.2.1 T 5 (fun q => by have q2 := q.1; omega)).trans ((u788.2.1 T 5 (fun q => by have q2 := q.1; omega)).trans ((u786.2.1 T 5 (fun q => by have q2 := q.1; omega)).trans r5))))) rfl ?_
  refine w_alu (pc' := 59) (st' := [.int (Int32.ofInt 0), .ref (T + 3)]) (ykc_103 (e := (0, .iconst 0, 0)) rfl) rfl rfl ?_
  refine w_load (pc' := 60) (v := .ref S) (m := 1) (ykc_103 (e := (2, .aload_n kF0, 0)) rfl) rfl rfl ?_
  refine w_gf (pc' := 63) (v := .ref (S + 3)) (ykc_103 (e := (5, .getfield 18, 0)) rfl) rfl ((u795_b S 5 (by omega)).trans ((u793_b S 5 (by omega)).trans ((u790.2.1 S 5 (fun q => absurd q.2 (by decide))).trans ((u788.2.1 S 5 (fun q => absurd q.2 (by decide))).trans ((u786.2.1 S 5 (fun q => absurd q.2 (by decide))).trans e5))))) rfl ?_
  refine w_alu (pc' := 64) (st' := [.int (Int32.ofInt 0), .ref (S + 3), .int (Int32.ofInt 0), .ref (T + 3)]) (ykc_103 (e := (0, .iconst 0, 0)) rfl) rfl rfl ?_
  refine w_push (pc' := 66) (v := .int ((Int8.ofInt 8).toInt32)) (m := 2) (ykc_103 (e := (1, .bipush 8, 0)) rfl) rfl rfl ?_
  refine w_ac8 (ykc_103 (e := (5, .invokestatic 40, 0)) rfl) rfl ((u795_c (T + 3)).trans ((u793_c (T + 3)).trans ((u790.2.2 (T + 3)).trans ((u788.2.2 (T + 3)).trans ((u786.2.2 (T + 3)).trans l3))))) ((u795_c (S + 3)).trans ((u793_c (S + 3)).trans ((u790.2.2 (S + 3)).trans ((u788.2.2 (S + 3)).trans ((u786.2.2 (S + 3)).trans m3))))) rfl (fun ph796 u797_a u797_b u797_c => ?_)
  refine w_load (pc' := 70) (v := .ref T) (m := 1) (ykc_103 (e := (2, .aload_n kF1, 0)) rfl) rfl rfl ?_
  refine w_gf (pc' := 73) (v := .ref (T + 4)) (ykc_103 (e := (5, .getfield 21, 0)) rfl) rfl ((u797_b T 6 (by omega)).trans ((u795_b T 6 (by omega)).trans ((u793_b T 6 (by omega)).trans ((u790.2.1 T 6 (fun q => by have q2 := q.1; omega)).trans ((u788.2.1 T 6 (fun q => by have q2 := q.1; omega)).trans ((u786.2.1 T 6 (fun q => by have q2 := q.1; omega)).trans r6)))))) rfl ?_
  refine w_alu (pc' := 74) (st' := [.int (Int32.ofInt 0), .ref (T + 4)]) (ykc_103 (e := (0, .iconst 0, 0)) rfl) rfl rfl ?_
  refine w_load (pc' := 75) (v := .ref S) (m := 1) (ykc_103 (e := (2, .aload_n kF0, 0)) rfl) rfl rfl ?_
  refine w_gf (pc' := 78) (v := .ref (S + 4)) (ykc_103 (e := (5, .getfield 21, 0)) rfl) rfl ((u797_b S 6 (by omega)).trans ((u795_b S 6 (by omega)).trans ((u793_b S 6 (by omega)).trans ((u790.2.1 S 6 (fun q => absurd q.2 (by decide))).trans ((u788.2.1 S 6 (fun q => absurd q.2 (by decide))).trans ((u786.2.1 S 6 (fun q => absurd q.2 (by decide))).trans e6)))))) rfl ?_
  refine w_alu (pc' := 79) (st' := [.int (Int32.ofInt 0), .ref (S + 4), .int (Int32.ofInt 0), .ref (T + 4)]) (ykc_103 (e := (0, .iconst 0, 0)) rfl) rfl rfl ?_
  refine w_push (pc' := 81) (v := .int ((Int8.ofInt 8).toInt32)) (m := 2) (ykc_103 (e := (1, .bipush 8, 0)) rfl) rfl rfl ?_
  refine w_ac8 (ykc_103 (e := (5, .invokestatic 40, 0)) rfl) rfl ((u797_c (T + 4)).trans ((u795_c (T + 4)).trans ((u793_c (T + 4)).trans ((u790.2.2 (T + 4)).trans ((u788.2.2 (T + 4)).trans ((u786.2.2 (T + 4)).trans l4)))))) ((u797_c (S + 4)).trans ((u795_c (S + 4)).trans ((u793_c (S + 4)).trans ((u790.2.2 (S + 4)).trans ((u788.2.2 (S + 4)).trans ((u786.2.2 (S + 4)).trans m4)))))) rfl (fun ph798 u799_a u799_b u799_c => ?_)
  refine w_load (pc' := 85) (v := .ref T) (m := 1) (ykc_103 (e := (2, .aload_n kF1, 0)) rfl) rfl rfl ?_
  refine w_gf (pc' := 88) (v := .ref (T + 5)) (ykc_103 (e := (5, .getfield 24, 0)) rfl) rfl ((u799_b T 7 (by omega)).trans ((u797_b T 7 (by omega)).trans ((u795_b T 7 (by omega)).trans ((u793_b T 7 (by omega)).trans ((u790.2.1 T 7 (fun q => by have q2 := q.1; omega)).trans ((u788.2.1 T 7 (fun q => by have q2 := q.1; omega)).trans ((u786.2.1 T 7 (fun q => by have q2 := q.1; omega)).trans r7))))))) rfl ?_
  refine w_alu (pc' := 89) (st' := [.int (Int32.ofInt 0), .ref (T + 5)]) (ykc_103 (e := (0, .iconst 0, 0)) rfl) rfl rfl ?_
  refine w_load (pc' := 90) (v := .ref S) (m := 1) (ykc_103 (e := (2, .aload_n kF0, 0)) rfl) rfl rfl ?_
  refine w_gf (pc' := 93) (v := .ref (S + 5)) (ykc_103 (e := (5, .getfield 24, 0)) rfl) rfl ((u799_b S 7 (by omega)).trans ((u797_b S 7 (by omega)).trans ((u795_b S 7 (by omega)).trans ((u793_b S 7 (by omega)).trans ((u790.2.1 S 7 (fun q => absurd q.2 (by decide))).trans ((u788.2.1 S 7 (fun q => absurd q.2 (by decide))).trans ((u786.2.1 S 7 (fun q => absurd q.2 (by decide))).trans e7))))))) rfl ?_
  refine w_alu (pc' := 94) (st' := [.int (Int32.ofInt 0), .ref (S + 5), .int (Int32.ofInt 0), .ref (T + 5)]) (ykc_103 (e := (0, .iconst 0, 0)) rfl) rfl rfl ?_
  refine w_push (pc' := 96) (v := .int ((Int8.ofInt 8).toInt32)) (m := 2) (ykc_103 (e := (1, .bipush 8, 0)) rfl) rfl rfl ?_
  refine w_ac8 (ykc_103 (e := (5, .invokestatic 40, 0)) rfl) rfl ((u799_c (T + 5)).trans ((u797_c (T + 5)).trans ((u795_c (T + 5)).trans ((u793_c (T + 5)).trans ((u790.2.2 (T + 5)).trans ((u788.2.2 (T + 5)).trans ((u786.2.2 (T + 5)).trans l5))))))) ((u799_c (S + 5)).trans ((u797_c (S + 5)).trans ((u795_c (S + 5)).trans ((u793_c (S + 5)).trans ((u790.2.2 (S + 5)).trans ((u788.2.2 (S + 5)).trans ((u786.2.2 (S + 5)).trans m5))))))) rfl (fun ph800 u801_a u801_b u801_c => ?_)
  refine w_ret (v := none) (ykc_103 (e := (7, .return_, 0)) rfl) (zr_v rfl) ?_
  rw [hQ]
  exact ⟨rfl, (zFr_trans (zFr_trans (zFr_trans (zFr_trans (zFr_trans (zFr_trans (zFr_trans (zFr_st u786 (Or.inr (by simp))) (zFr_st u788 (Or.inr (by simp)))) (zFr_st u790 (Or.inr (by simp)))) (zFr_ac u793_b u793_c (by simp))) (zFr_ac u795_b u795_c (by simp))) (zFr_ac u797_b u797_c (by simp))) (zFr_ac u799_b u799_c (by simp))) (zFr_ac u801_b u801_c (by simp))), ((u801_b S 0 (by omega)).trans ((u799_b S 0 (by omega)).trans ((u797_b S 0 (by omega)).trans ((u795_b S 0 (by omega)).trans ((u793_b S 0 (by omega)).trans ((u790.2.1 S 0 (fun q => absurd q.2 (by decide))).trans ((u788.2.1 S 0 (fun q => absurd q.2 (by decide))).trans u786.1))))))), hP8, ((u801_b S 1 (by omega)).trans ((u799_b S 1 (by omega)).trans ((u797_b S 1 (by omega)).trans ((u795_b S 1 (by omega)).trans ((u793_b S 1 (by omega)).trans ((u790.2.1 S 1 (fun q => absurd q.2 (by decide))).trans u788.1)))))), hG8, ((u801_b S 2 (by omega)).trans ((u799_b S 2 (by omega)).trans ((u797_b S 2 (by omega)).trans ((u795_b S 2 (by omega)).trans ((u793_b S 2 (by omega)).trans u790.1))))), fun i hi => ⟨((u801_b (S + 1) i (by omega)).trans ((u799_b (S + 1) i (by omega)).trans ((u797_b (S + 1) i (by omega)).trans ((u795_b (S + 1) i (by omega)).trans ((u793_a i (by omega)).trans ((u790.2.1 (T + 1) i (fun q => by have q2 := q.1; omega)).trans ((u788.2.1 (T + 1) i (fun q => by have q2 := q.1; omega)).trans ((u786.2.1 (T + 1) i (fun q => by have q2 := q.1; omega)).trans (gv i (by omega)).1)))))))), ((u801_b (S + 2) i (by omega)).trans ((u799_b (S + 2) i (by omega)).trans ((u797_b (S + 2) i (by omega)).trans ((u795_a i (by omega)).trans ((u793_b (T + 2) i (by omega)).trans ((u790.2.1 (T + 2) i (fun q => by have q2 := q.1; omega)).trans ((u788.2.1 (T + 2) i (fun q => by have q2 := q.1; omega)).trans ((u786.2.1 (T + 2) i (fun q => by have q2 := q.1; omega)).trans (gv i (by omega)).2.1)))))))), ((u801_b (S + 3) i (by omega)).trans ((u799_b (S + 3) i (by omega)).trans ((u797_a i (by omega)).trans ((u795_b (T + 3) i (by omega)).trans ((u793_b (T + 3) i (by omega)).trans ((u790.2.1 (T + 3) i (fun q => by have q2 := q.1; omega)).trans ((u788.2.1 (T + 3) i (fun q => by have q2 := q.1; omega)).trans ((u786.2.1 (T + 3) i (fun q => by have q2 := q.1; omega)).trans (gv i (by omega)).2.2.1)))))))), ((u801_b (S + 4) i (by omega)).trans ((u799_a i (by omega)).trans ((u797_b (T + 4) i (by omega)).trans ((u795_b (T + 4) i (by omega)).trans ((u793_b (T + 4) i (by omega)).trans ((u790.2.1 (T + 4) i (fun q => by have q2 := q.1; omega)).trans ((u788.2.1 (T + 4) i (fun q => by have q2 := q.1; omega)).trans ((u786.2.1 (T + 4) i (fun q => by have q2 := q.1; omega)).trans (gv i (by omega)).2.2.2))))))))⟩, fun i hi => ((u801_a i (by omega)).trans ((u799_b (T + 5) i (by omega)).trans ((u797_b (T + 5) i (by omega)).trans ((u795_b (T + 5) i (by omega)).trans ((u793_b (T + 5) i (by omega)).trans ((u790.2.1 (T + 5) i (fun q => by have q2 := q.1; omega)).trans ((u788.2.1 (T + 5) i (fun q => by have q2 := q.1; omega)).trans ((u786.2.1 (T + 5) i (fun q => by have q2 := q.1; omega)).trans (gw i (by omega))))))))))⟩
theorem zCo_s {S T : Nat} {p q : pm_H} (hst : S + 5 < T ∨ T + 5 < S ∨ S = T) (f : zCo S p q) (h : zSs p T) : zSs q T := by
  have k3 : ∀ i, 3 ≤ i → zc q T i = zc p T i := fun i hi => f.1 T i (by simp <;> omega) (by simp <;> omega)
  exact ⟨(k3 3 (by omega)).trans h.1, (k3 4 (by omega)).trans h.2.1, (k3 5 (by omega)).trans h.2.2.1, (k3 6 (by omega)).trans h.2.2.2.1, (k3 7 (by omega)).trans h.2.2.2.2.1, (f.2 _).trans h.2.2.2.2.2.1, (f.2 _).trans h.2.2.2.2.2.2.1, (f.2 _).trans h.2.2.2.2.2.2.2.1, (f.2 _).trans h.2.2.2.2.2.2.2.2.1, (f.2 _).trans h.2.2.2.2.2.2.2.2.2⟩
theorem zCo_d {S T P G : Nat} {v : Nat → Nat} {p q : pm_H} (hst : S + 5 < T ∨ T + 5 < S) (f : zCo S p q) (h : zSd p T P G v) : zSd q T P G v := zSd_F f (by intro i hi; simp <;> omega) (by intro j i hj; simp <;> omega) h
/-- the classes of States: now, before, trial; past; shelf -/
theorem zSadr_past {i : Nat} (hi : i < 15) : zSadr (45 + 6 * i) = true := by
  have h : ∀ i, i < 15 → zSadr (45 + 6 * i) = true := by decide
  exact h i hi
theorem zSadr_shelf {i : Nat} (hi : i < 3) : zSadr (136 + 6 * i) = true := by
  have h : ∀ i, i < 3 → zSadr (136 + 6 * i) = true := by decide
  exact h i hi
theorem zco_ok : (List.range 160).all (fun S => !zSadr S || zok [S + 1, S + 2, S + 3, S + 4, S + 5] [(S, 0), (S, 1), (S, 2)]) = true := by decide +kernel
theorem zCo_S {S : Nat} {p q : pm_H} (hS : zSadr S = true) (f : zCo S p q) (h : zSh p) : zSh q := by
  have hlt : S < 160 := by
    unfold zSadr at hS
    simp only [Bool.or_eq_true, Bool.and_eq_true, beq_iff_eq, decide_eq_true_eq] at hS
    omega
  have h1 := List.all_eq_true.mp zco_ok S (List.mem_range.mpr hlt)
  rw [hS] at h1
  exact zSh_F f (by simpa using h1) h
theorem zs_44 : ∀ i, i < 15 → zlk zstatL 44 i = some (45 + 6 * i) := by decide +kernel
theorem zs_135 : ∀ i, i < 3 → zlk zstatL 135 i = some (136 + 6 * i) := by decide +kernel
theorem zc_push {ph : pm_H} (hS : zSh ph) {T P G nx u : Nat} {v : Nat → Nat} (hT : T = 25 ∨ T = 31) (hd : zSd ph T P G v) (hnx : zc ph 43 1 = some (.int (zn nx))) (hu : zc ph 43 2 = some (.int (zn u))) (hn15 : nx < 15) (hu15 : u ≤ 15) : zM 28 [.ref 43, .ref T] ph (fun v0 q => v0 = none ∧ (∃ q1 q2, zCo (45 + 6 * nx) ph q1 ∧ zst q1 q2 43 1 (.int (zn (if nx + 1 < 15 then nx + 1 else 0))) ∧ zst q2 q 43 2 (.int (zn (min 15 (u + 1))))) ∧ zSd q (45 + 6 * nx) P G v) := by
  obtain ⟨Q, hQ⟩ : ∃ Q : Option Value → pm_H → Prop, Q = (fun v0 q => v0 = none ∧ (∃ q1 q2, zCo (45 + 6 * nx) ph q1 ∧ zst q1 q2 43 1 (.int (zn (if nx + 1 < 15 then nx + 1 else 0))) ∧ zst q2 q 43 2 (.int (zn (min 15 (u + 1))))) ∧ zSd q (45 + 6 * nx) P G v) := ⟨_, rfl⟩
  rw [← hQ]
  refine zM_mk fun n D => ?_
  show zW n D 28 Q 0 [some (.ref 43), some (.ref T)] [] ph
  have c_0 : ((Int8.ofInt 15).toInt32).toInt = 15 := by decide
  have c_1 : (Int32.ofInt 0).toInt = 0 := by decide
  have c_2 : (Int32.ofInt 1).toInt = 1 := by decide
  have tnx := znt (k := nx) (by omega)
  have tu := znt (k := u) (by omega)
  refine w_load (pc' := 1) (v := .ref 43) (m := 1) (ykc_28 (e := (2, .aload_n kF0, 0)) rfl) rfl rfl ?_
  refine w_gf (pc' := 4) (v := .int (zn nx)) (ykc_28 (e := (5, .getfield 23, 0)) rfl) rfl hnx rfl ?_
  refine w_zlt (ykc_28 (e := (4, .ifCond .lt 12, 16)) rfl) rfl (fun q => by exfalso; omega) (fun b802 => ?_)
  refine w_load (pc' := 8) (v := .ref 43) (m := 1) (ykc_28 (e := (2, .aload_n kF0, 0)) rfl) rfl rfl ?_
  refine w_gf (pc' := 11) (v := .int (zn nx)) (ykc_28 (e := (5, .getfield 23, 0)) rfl) rfl hnx rfl ?_
  refine w_push (pc' := 13) (v := .int ((Int8.ofInt 15).toInt32)) (m := 2) (ykc_28 (e := (1, .bipush 15, 0)) rfl) rfl rfl ?_
  refine w_ilt (ykc_28 (e := (4, .if_icmp .lt 4, 17)) rfl) rfl (fun b803 => ?_) (fun q => by exfalso; omega)
  refine w_load (pc' := 18) (v := .ref 43) (m := 1) (ykc_28 (e := (2, .aload_n kF0, 0)) rfl) rfl rfl ?_
  refine w_gf (pc' := 21) (v := .ref 44) (ykc_28 (e := (5, .getfield 11, 0)) rfl) rfl (zsg hS zs_43_0) rfl ?_
  refine w_load (pc' := 22) (v := .ref 43) (m := 1) (ykc_28 (e := (2, .aload_n kF0, 0)) rfl) rfl rfl ?_
  refine w_gf (pc' := 25) (v := .int (zn nx)) (ykc_28 (e := (5, .getfield 23, 0)) rfl) rfl hnx rfl ?_
  refine w_aalk (pc' := 26) (k := nx) (ykc_28 (e := (5, .aaload, 0)) rfl) (hS.1 _ _ _ (zs_44 nx (by omega))) (by omega) rfl ?_
  refine w_load (pc' := 27) (v := .ref T) (m := 1) (ykc_28 (e := (2, .aload_n kF1, 0)) rfl) rfl rfl ?_
  refine w_cv (as := [.ref (45 + 6 * nx), .ref T]) (r := []) (ykc_28 (e := (6, .invokevirtual 29, 0)) rfl) rfl rfl rfl rfl (zc_copy (zSs_of hS (by rcases hT with e | e <;> subst e <;> decide)) (zSs_of hS (zSadr_past hn15)) hd (by omega)) (fun v804 ph805 hv => ?_)
  obtain ⟨rfl, fc, fd⟩ := hv
  show zW n D 28 Q 30 [some (.ref 43), some (.ref T)] [] ph805
  refine w_load (pc' := 31) (v := .ref 43) (m := 1) (ykc_28 (e := (2, .aload_n kF0, 0)) rfl) rfl rfl ?_
  refine w_load (pc' := 32) (v := .ref 43) (m := 1) (ykc_28 (e := (2, .aload_n kF0, 0)) rfl) rfl rfl ?_
  refine w_gf (pc' := 35) (v := .int (zn nx)) (ykc_28 (e := (5, .getfield 23, 0)) rfl) rfl ((fc.1 43 1 (by simp <;> omega) (by simp <;> omega)).trans hnx) rfl ?_
  refine w_alu (pc' := 36) (st' := [.int (Int32.ofInt 1), .int (zn nx), .ref 43]) (ykc_28 (e := (0, .iconst 1, 0)) rfl) rfl rfl ?_
  have e806 : (zn nx) + (Int32.ofInt 1) = zn (nx + 1) := (zaddN (a := nx) (b := 1) (znt (by omega)) c_2 (by omega)) 
  have te806 := znt (k := nx + 1) (by omega)
  refine w_alu (pc' := 37) (st' := [.int (zn (nx + 1)), .ref 43]) (ykc_28 (e := (0, .iadd, 0)) rfl) (by rw [← e806]; rfl) rfl ?_
  refine w_push (pc' := 39) (v := .int ((Int8.ofInt 15).toInt32)) (m := 2) (ykc_28 (e := (1, .bipush 15, 0)) rfl) rfl rfl ?_
  refine w_ige (ykc_28 (e := (4, .if_icmp .ge 12, 51)) rfl) rfl (fun b807 => ?_) (fun b807 => ?_)
  · refine w_alu (pc' := 52) (st' := [.int (Int32.ofInt 0), .ref 43]) (ykc_28 (e := (0, .iconst 0, 0)) rfl) rfl rfl ?_
    refine w_pf (pc' := 55) (ykc_28 (e := (5, .putfield 23, 0)) rfl) rfl rfl (fun ph809 u808 => ?_)
    refine w_load (pc' := 56) (v := .ref 43) (m := 1) (ykc_28 (e := (2, .aload_n kF0, 0)) rfl) rfl rfl ?_
    refine w_push (pc' := 58) (v := .int ((Int8.ofInt 15).toInt32)) (m := 2) (ykc_28 (e := (1, .bipush 15, 0)) rfl) rfl rfl ?_
    refine w_load (pc' := 59) (v := .ref 43) (m := 1) (ykc_28 (e := (2, .aload_n kF0, 0)) rfl) rfl rfl ?_
    refine w_gf (pc' := 62) (v := .int (zn u)) (ykc_28 (e := (5, .getfield 26, 0)) rfl) rfl ((u808.2.1 43 2 (fun q => absurd q.2 (by decide))).trans ((fc.1 43 2 (by simp <;> omega) (by simp <;> omega)).trans hu)) rfl ?_
    refine w_alu (pc' := 63) (st' := [.int (Int32.ofInt 1), .int (zn u), .int ((Int8.ofInt 15).toInt32), .ref 43]) (ykc_28 (e := (0, .iconst 1, 0)) rfl) rfl rfl ?_
    have e810 : (zn u) + (Int32.ofInt 1) = zn (u + 1) := (zaddN (a := u) (b := 1) (znt (by omega)) c_2 (by omega)) 
    have te810 := znt (k := u + 1) (by omega)
    refine w_alu (pc' := 64) (st' := [.int (zn (u + 1)), .int ((Int8.ofInt 15).toInt32), .ref 43]) (ykc_28 (e := (0, .iadd, 0)) rfl) (by rw [← e810]; rfl) rfl ?_
    obtain ⟨z811, e_z811⟩ : ∃ zq : Int32, (if (zn (u + 1)) < ((Int8.ofInt 15).toInt32) then (zn (u + 1)) else ((Int8.ofInt 15).toInt32)) = zq := ⟨_, rfl⟩
    have h_z811 := zminI e_z811
    have n_z811 : z811.toInt = ((min 15 (u + 1) : Nat) : Int) := by omega
    refine w_mem1 (pc' := 67) (m := 3) (st' := [.int z811, .ref 43]) (ph' := ph809) (ykc_28 (e := (5, .invokestatic 33, 0)) rfl) (by rw [← e_z811]; rfl) rfl ?_
    refine w_pf (pc' := 70) (ykc_28 (e := (5, .putfield 26, 0)) rfl) rfl rfl (fun ph813 u812 => ?_)
    refine w_ret (v := none) (ykc_28 (e := (7, .return_, 0)) rfl) (zr_v rfl) ?_
    obtain rfl := zn_of n_z811
    rw [hQ]
    refine ⟨rfl, ⟨_, _, fc, ?_, u812⟩, zSd_F (A := []) (F := [(43, 1), (43, 2)]) (zFr_trans (zFr_st u808 (Or.inr (by simp))) (zFr_st u812 (Or.inr (by simp)))) (by intro i hi; simp) (by intro j i hj; simp <;> omega) fd⟩
    rw [if_neg (show ¬ nx + 1 < 15 by omega)]
    exact u808
  · refine w_load (pc' := 43) (v := .ref 43) (m := 1) (ykc_28 (e := (2, .aload_n kF0, 0)) rfl) rfl rfl ?_
    refine w_gf (pc' := 46) (v := .int (zn nx)) (ykc_28 (e := (5, .getfield 23, 0)) rfl) rfl ((fc.1 43 1 (by simp <;> omega) (by simp <;> omega)).trans hnx) rfl ?_
    refine w_alu (pc' := 47) (st' := [.int (Int32.ofInt 1), .int (zn nx), .ref 43]) (ykc_28 (e := (0, .iconst 1, 0)) rfl) rfl rfl ?_
    have e814 : (zn nx) + (Int32.ofInt 1) = zn (nx + 1) := (zaddN (a := nx) (b := 1) (znt (by omega)) c_2 (by omega)) 
    have te814 := znt (k := nx + 1) (by omega)
    refine w_alu (pc' := 48) (st' := [.int (zn (nx + 1)), .ref 43]) (ykc_28 (e := (0, .iadd, 0)) rfl) (by rw [← e814]; rfl) rfl ?_
    refine w_br (pc' := 52) (st' := [.int (zn (nx + 1)), .ref 43]) (ykc_28 (e := (4, .goto 4, 52)) rfl) rfl ?_
    refine w_pf (pc' := 55) (ykc_28 (e := (5, .putfield 23, 0)) rfl) rfl rfl (fun ph816 u815 => ?_)
    refine w_load (pc' := 56) (v := .ref 43) (m := 1) (ykc_28 (e := (2, .aload_n kF0, 0)) rfl) rfl rfl ?_
    refine w_push (pc' := 58) (v := .int ((Int8.ofInt 15).toInt32)) (m := 2) (ykc_28 (e := (1, .bipush 15, 0)) rfl) rfl rfl ?_
    refine w_load (pc' := 59) (v := .ref 43) (m := 1) (ykc_28 (e := (2, .aload_n kF0, 0)) rfl) rfl rfl ?_
    refine w_gf (pc' := 62) (v := .int (zn u)) (ykc_28 (e := (5, .getfield 26, 0)) rfl) rfl ((u815.2.1 43 2 (fun q => absurd q.2 (by decide))).trans ((fc.1 43 2 (by simp <;> omega) (by simp <;> omega)).trans hu)) rfl ?_
    refine w_alu (pc' := 63) (st' := [.int (Int32.ofInt 1), .int (zn u), .int ((Int8.ofInt 15).toInt32), .ref 43]) (ykc_28 (e := (0, .iconst 1, 0)) rfl) rfl rfl ?_
    have e817 : (zn u) + (Int32.ofInt 1) = zn (u + 1) := (zaddN (a := u) (b := 1) (znt (by omega)) c_2 (by omega)) 
    have te817 := znt (k := u + 1) (by omega)
    refine w_alu (pc' := 64) (st' := [.int (zn (u + 1)), .int ((Int8.ofInt 15).toInt32), .ref 43]) (ykc_28 (e := (0, .iadd, 0)) rfl) (by rw [← e817]; rfl) rfl ?_
    obtain ⟨z818, e_z818⟩ : ∃ zq : Int32, (if (zn (u + 1)) < ((Int8.ofInt 15).toInt32) then (zn (u + 1)) else ((Int8.ofInt 15).toInt32)) = zq := ⟨_, rfl⟩
    have h_z818 := zminI e_z818
    have n_z818 : z818.toInt = ((min 15 (u + 1) : Nat) : Int) := by omega
    refine w_mem1 (pc' := 67) (m := 3) (st' := [.int z818, .ref 43]) (ph' := ph816) (ykc_28 (e := (5, .invokestatic 33, 0)) rfl) (by rw [← e_z818]; rfl) rfl ?_
    refine w_pf (pc' := 70) (ykc_28 (e := (5, .putfield 26, 0)) rfl) rfl rfl (fun ph820 u819 => ?_)
    refine w_ret (v := none) (ykc_28 (e := (7, .return_, 0)) rfl) (zr_v rfl) ?_
    obtain rfl := zn_of n_z818
    rw [hQ]
    refine ⟨rfl, ⟨_, _, fc, ?_, u819⟩, zSd_F (A := []) (F := [(43, 1), (43, 2)]) (zFr_trans (zFr_st u815 (Or.inr (by simp))) (zFr_st u819 (Or.inr (by simp)))) (by intro i hi; simp) (by intro j i hj; simp <;> omega) fd⟩
    rw [if_pos (show nx + 1 < 15 by omega)]
    exact u815
theorem zc_pop {ph : pm_H} (hS : zSh ph) {P G nx u : Nat} {w : Nat → Nat} (hnx : zc ph 43 1 = some (.int (zn nx))) (hu : zc ph 43 2 = some (.int (zn u))) (hn15 : nx < 15) (hu15 : u ≤ 15) (hd : 0 < u → zSd ph (45 + 6 * ((nx + 14) % 15)) P G w) : zM 29 [.ref 43, .ref 25] ph (fun v0 q => (u = 0 ∧ ph = q ∧ v0 = some (.int (zI false))) ∨ (0 < u ∧ v0 = some (.int (zI true)) ∧ (∃ q1 q2, zCo 25 ph q1 ∧ zst q1 q2 43 1 (.int (zn ((nx + 14) % 15))) ∧ zst q2 q 43 2 (.int (zn (u - 1)))) ∧ zSd q 25 P G w)) := by
  obtain ⟨Q, hQ⟩ : ∃ Q : Option Value → pm_H → Prop, Q = (fun v0 q => (u = 0 ∧ ph = q ∧ v0 = some (.int (zI false))) ∨ (0 < u ∧ v0 = some (.int (zI true)) ∧ (∃ q1 q2, zCo 25 ph q1 ∧ zst q1 q2 43 1 (.int (zn ((nx + 14) % 15))) ∧ zst q2 q 43 2 (.int (zn (u - 1)))) ∧ zSd q 25 P G w)) := ⟨_, rfl⟩
  rw [← hQ]
  refine zM_mk fun n D => ?_
  show zW n D 29 Q 0 [some (.ref 43), some (.ref 25), none] [] ph
  have c_0 : ((Int8.ofInt 14).toInt32).toInt = 14 := by decide
  have c_1 : ((Int8.ofInt 15).toInt32).toInt = 15 := by decide
  have c_2 : (Int32.ofInt 0).toInt = 0 := by decide
  have c_3 : (Int32.ofInt 1).toInt = 1 := by decide
  have tnx := znt (k := nx) (by omega)
  have tu := znt (k := u) (by omega)
  have tl := znt (k := (nx + 14) % 15) (by omega)
  refine w_load (pc' := 1) (v := .ref 43) (m := 1) (ykc_29 (e := (2, .aload_n kF0, 0)) rfl) rfl rfl ?_
  refine w_gf (pc' := 4) (v := .int (zn nx)) (ykc_29 (e := (5, .getfield 23, 0)) rfl) rfl hnx rfl ?_
  suffices j822 : ∀ y_ : Int32, (y_ = zn ((nx + 14) % 15)) → zW n D 29 Q 18 [some (.ref 43), some (.ref 25), none] [.int y_] ph by
    refine w_zle (ykc_29 (e := (4, .ifCond .le 12, 16)) rfl) rfl (fun b823 => ?_) (fun b823 => ?_)
    · refine w_push (pc' := 18) (v := .int ((Int8.ofInt 14).toInt32)) (m := 2) (ykc_29 (e := (1, .bipush 14, 0)) rfl) rfl rfl ?_
      exact j822 ((Int8.ofInt 14).toInt32) (zn_of (by omega))
    · refine w_load (pc' := 8) (v := .ref 43) (m := 1) (ykc_29 (e := (2, .aload_n kF0, 0)) rfl) rfl rfl ?_
      refine w_gf (pc' := 11) (v := .int (zn nx)) (ykc_29 (e := (5, .getfield 23, 0)) rfl) rfl hnx rfl ?_
      refine w_alu (pc' := 12) (st' := [.int (Int32.ofInt 1), .int (zn nx)]) (ykc_29 (e := (0, .iconst 1, 0)) rfl) rfl rfl ?_
      obtain ⟨z824, e_z824, h_z824⟩ : ∃ zq : Int32, (zn nx) - (Int32.ofInt 1) = zq ∧ zq.toInt = ((nx : Nat) : Int) - (1 : Int) := ⟨_, rfl, (by have := ti_sub (x := (zn nx)) (y := (Int32.ofInt 1)) (by omega) (by omega); omega)⟩
      refine w_alu (pc' := 13) (st' := [.int z824]) (ykc_29 (e := (0, .isub, 0)) rfl) (by rw [← e_z824]; rfl) rfl ?_
      refine w_br (pc' := 18) (st' := [.int z824]) (ykc_29 (e := (4, .goto 5, 18)) rfl) rfl ?_
      exact j822 z824 (zn_of (by omega))
  intro y821 h_y821
  show zW n D 29 Q 18 [some (.ref 43), some (.ref 25), none] [.int y821] ph
  subst h_y821
  show zW n D 29 Q 18 [some (.ref 43), some (.ref 25), none] [.int (zn ((nx + 14) % 15))] ph
  refine w_store (pc' := 19) (L' := [some (.ref 43), some (.ref 25), some (.int (zn ((nx + 14) % 15)))]) (st' := []) (m := 1) (ykc_29 (e := (3, .istore_n kF2, 0)) rfl) rfl rfl ?_
  refine w_load (pc' := 20) (v := .ref 43) (m := 1) (ykc_29 (e := (2, .aload_n kF0, 0)) rfl) rfl rfl ?_
  refine w_gf (pc' := 23) (v := .int (zn u)) (ykc_29 (e := (5, .getfield 26, 0)) rfl) rfl hu rfl ?_
  refine w_zeq (ykc_29 (e := (4, .ifCond .eq 9, 32)) rfl) rfl (fun b825 => ?_) (fun b825 => ?_)
  · refine w_alu (pc' := 33) (st' := [.int (Int32.ofInt 0)]) (ykc_29 (e := (0, .iconst 0, 0)) rfl) rfl rfl ?_
    refine w_ret (v := (some (.int (Int32.ofInt 0)))) (ykc_29 (e := (7, .ireturn, 0)) rfl) zr_z ?_
    rw [hQ, zi0]
    exact Or.inl ⟨by omega, rfl, rfl⟩
  · refine w_load (pc' := 27) (v := .int (zn ((nx + 14) % 15))) (m := 1) (ykc_29 (e := (2, .iload_n kF2, 0)) rfl) rfl rfl ?_
    refine w_push (pc' := 29) (v := .int ((Int8.ofInt 15).toInt32)) (m := 2) (ykc_29 (e := (1, .bipush 15, 0)) rfl) rfl rfl ?_
    refine w_ilt (ykc_29 (e := (4, .if_icmp .lt 5, 34)) rfl) rfl (fun b826 => ?_) (fun q => by exfalso; omega)
    refine w_load (pc' := 35) (v := .ref 25) (m := 1) (ykc_29 (e := (2, .aload_n kF1, 0)) rfl) rfl rfl ?_
    refine w_load (pc' := 36) (v := .ref 43) (m := 1) (ykc_29 (e := (2, .aload_n kF0, 0)) rfl) rfl rfl ?_
    refine w_gf (pc' := 39) (v := .ref 44) (ykc_29 (e := (5, .getfield 11, 0)) rfl) rfl (zsg hS zs_43_0) rfl ?_
    refine w_load (pc' := 40) (v := .int (zn ((nx + 14) % 15))) (m := 1) (ykc_29 (e := (2, .iload_n kF2, 0)) rfl) rfl rfl ?_
    refine w_aalk (pc' := 41) (k := (nx + 14) % 15) (ykc_29 (e := (5, .aaload, 0)) rfl) (hS.1 _ _ _ (zs_44 ((nx + 14) % 15) (by omega))) (by omega) rfl ?_
    refine w_cv (as := [.ref 25, .ref (45 + 6 * ((nx + 14) % 15))]) (r := []) (ykc_29 (e := (6, .invokevirtual 29, 0)) rfl) rfl rfl rfl rfl (zc_copy (zSs_of hS (zSadr_past (by omega))) (zSs_of hS (S := 25) (by decide)) (hd (by omega)) (by omega)) (fun v827 ph828 hv => ?_)
    obtain ⟨rfl, fc, fd⟩ := hv
    show zW n D 29 Q 44 [some (.ref 43), some (.ref 25), some (.int (zn ((nx + 14) % 15)))] [] ph828
    refine w_load (pc' := 45) (v := .ref 43) (m := 1) (ykc_29 (e := (2, .aload_n kF0, 0)) rfl) rfl rfl ?_
    refine w_load (pc' := 46) (v := .int (zn ((nx + 14) % 15))) (m := 1) (ykc_29 (e := (2, .iload_n kF2, 0)) rfl) rfl rfl ?_
    refine w_pf (pc' := 49) (ykc_29 (e := (5, .putfield 23, 0)) rfl) rfl rfl (fun ph830 u829 => ?_)
    refine w_load (pc' := 50) (v := .ref 43) (m := 1) (ykc_29 (e := (2, .aload_n kF0, 0)) rfl) rfl rfl ?_
    refine w_alu (pc' := 51) (st' := [.ref 43, .ref 43]) (ykc_29 (e := (0, .dup, 0)) rfl) rfl rfl ?_
    refine w_gf (pc' := 54) (v := .int (zn u)) (ykc_29 (e := (5, .getfield 26, 0)) rfl) rfl ((u829.2.1 43 2 (fun q => absurd q.2 (by decide))).trans ((fc.1 43 2 (by decide) (by decide)).trans hu)) rfl ?_
    refine w_alu (pc' := 55) (st' := [.int (Int32.ofInt 1), .int (zn u), .ref 43]) (ykc_29 (e := (0, .iconst 1, 0)) rfl) rfl rfl ?_
    have e831 : (zn u) - (Int32.ofInt 1) = zn (u - 1) := zsubN (a := u) (b := 1) (znt (by omega)) c_3 (by omega)
    have te831 := znt (k := u - 1) (by omega)
    refine w_alu (pc' := 56) (st' := [.int (zn (u - 1)), .ref 43]) (ykc_29 (e := (0, .isub, 0)) rfl) (by show some ([.int ((zn u) - (Int32.ofInt 1)), .ref 43] : List Value) = _; rw [e831]) rfl ?_
    refine w_pf (pc' := 59) (ykc_29 (e := (5, .putfield 26, 0)) rfl) rfl rfl (fun ph833 u832 => ?_)
    refine w_alu (pc' := 60) (st' := [.int (Int32.ofInt 1)]) (ykc_29 (e := (0, .iconst 1, 0)) rfl) rfl rfl ?_
    refine w_ret (v := (some (.int (Int32.ofInt 1)))) (ykc_29 (e := (7, .ireturn, 0)) rfl) zr_z ?_
    rw [hQ, zi1]
    exact Or.inr ⟨by omega, rfl, ⟨_, _, fc, u829, u832⟩, zSd_F (A := []) (F := [(43, 1), (43, 2)]) (zFr_trans (zFr_st u829 (Or.inr (by simp))) (zFr_st u832 (Or.inr (by simp)))) (by intro i hi; simp) (by intro j i hj; simp <;> omega) fd⟩
end
section
/-! the class: what is kept, steps, acts, by W; printed by wip/z/z_p_cacts.py -/
theorem w_iar {n D j pc pc' aux A k m : Nat} {Q : Option Value → pm_H → Prop} {L : List (Option Value)} {st : List Value} {ph : pm_H} {x y : Int32} {f : Nat → Value} (hc : pm_code kK j pc = some (5, .iaload, aux)) (hA : Nat.blt A 1048576 = false) (hr : pm_rat kK A = some (0, m, f)) (hf : f k = .int y) (hx : x.toInt = (k : Int)) (hp : pc + 1 = pc') (kk : zW n D j Q pc' L (.int y :: st) ph) : zW n D j Q pc L (.int x :: .ref A :: st) ph := w_mem hc fun m' st2 ph2 c2 s2 hm => by
  subst hp
  have ha : pm_at ph A = none := by
    unfold pm_at
    rw [hA]
    rfl
  have e : x.toNatClampNeg = k := by
    show x.toInt.toNat = k
    omega
  unfold pm_mem at hm
  simp only [ha, hr, e, hf] at hm
  have hm := zbif hm
  cases hm
  exact kk
theorem zDN : ∃ m f, pm_rat kK 1048576 = some (0, m, f) ∧ ∀ k, k < 8 → f k = .int (Int32.ofInt (zdn k)) := ⟨_, _, rfl, fun k hk => by
  rcases (show k = 0 ∨ k = 1 ∨ k = 2 ∨ k = 3 ∨ k = 4 ∨ k = 5 ∨ k = 6 ∨ k = 7 by omega) with e | e | e | e | e | e | e | e <;> subst e <;> rfl⟩
theorem zRG : ∃ m f, pm_rat kK 1048577 = some (0, m, f) ∧ ∀ k, k < 8 → f k = .int (Int32.ofInt (zrg k)) := ⟨_, _, rfl, fun k hk => by
  rcases (show k = 0 ∨ k = 1 ∨ k = 2 ∨ k = 3 ∨ k = 4 ∨ k = 5 ∨ k = 6 ∨ k = 7 by omega) with e | e | e | e | e | e | e | e <;> subst e <;> rfl⟩
/-- the FIELD a step leads to where it is no rock, or -1 -/
def zbk (R C : Nat) (rk : Nat → Bool) (f w : Nat) : Int := if zin R C f w = true ∧ rk (zto C f w) = false then (zto C f w : Int) else -1
theorem zfa_b {R C : Nat} {x y : Int} (hC : C ≤ 7) (hR : R ≤ 7) : -1 ≤ zfa R C x y ∧ zfa R C x y < ((R * C : Nat) : Int) ∨ R * C = 0 := by
  unfold zfa
  split
  · next h =>
    have h1 : x.toNat + 1 ≤ R := by omega
    have h2 : (x.toNat + 1) * C ≤ R * C := Nat.mul_le_mul_right C h1
    rw [Nat.add_mul] at h2
    omega
  · omega
theorem zfa_to {R C f w : Nat} : zfa R C (((f / C : Nat) : Int) + zdn w) (((f % C : Nat) : Int) + zrg w) = if zin R C f w = true then (zto C f w : Int) else -1 := by
  unfold zfa zin zto
  by_cases h : 0 ≤ ((f / C : Nat) : Int) + zdn w ∧ ((f / C : Nat) : Int) + zdn w < (R : Int) ∧ 0 ≤ ((f % C : Nat) : Int) + zrg w ∧ ((f % C : Nat) : Int) + zrg w < (C : Int)
  · rw [if_pos h, if_pos (decide_eq_true h), Nat.mul_comm]
  · rw [if_neg h, if_neg (fun q => h (of_decide_eq_true q))]
theorem zc_beside {ph : pm_H} {R C : Nat} {rk : Nat → Bool} (hS : zSh ph) (hL : zCl ph R C rk) {f w : Nat} (hf : f < R * C) (hw : w < 8) : zM 46 [.ref 5, .int (zn f), .int (zn w)] ph (fun v0 q => ph = q ∧ ∃ z : Int32, v0 = some (.int z) ∧ z.toInt = zbk R C rk f w) := by
  obtain ⟨Q, hQ⟩ : ∃ Q : Option Value → pm_H → Prop, Q = (fun v0 q => ph = q ∧ ∃ z : Int32, v0 = some (.int z) ∧ z.toInt = zbk R C rk f w) := ⟨_, rfl⟩
  rw [← hQ]
  refine zM_mk fun n D => ?_
  show zW n D 46 Q 0 [some (.ref 5), some (.int (zn f)), some (.int (zn w)), none] [] ph
  have c_0 : ((Int8.ofInt 8).toInt32).toInt = 8 := by decide
  have c_1 : (Int32.ofInt (-1)).toInt = -1 := by decide
  have hL0 := hL
  obtain ⟨gR, gC, gN, gK, gA, hR3, hR7, hC3, hC7⟩ := hL
  have hRC := zRC49 hR7 hC7
  have tR := znt (k := R) (by omega)
  have tC := znt (k := C) (by omega)
  have tRC := znt (k := R * C) (by omega)
  have tf := znt (k := f) (by omega)
  have tw := znt (k := w) (by omega)
  have d1 := @zdn_b w
  have d2 := @zrt_b w
  obtain ⟨md, fd, rd, vd⟩ := zDN
  obtain ⟨mr, fr, rr, vr⟩ := zRG
  have td1 : (Int32.ofInt (zdn w)).toInt = zdn w := Int32.toInt_ofInt_of_le (by omega) (by omega)
  have td2 : (Int32.ofInt (zrg w)).toInt = zrg w := Int32.toInt_ofInt_of_le (by omega) (by omega)
  refine w_load (pc' := 1) (v := .ref 5) (m := 1) (ykc_46 (e := (2, .aload_n kF0, 0)) rfl) rfl rfl ?_
  refine w_load (pc' := 2) (v := .int (zn f)) (m := 1) (ykc_46 (e := (2, .iload_n kF1, 0)) rfl) rfl rfl ?_
  refine w_cv (as := [.ref 5, .int (zn f)]) (r := []) (ykc_46 (e := (6, .invokevirtual 64, 0)) rfl) rfl rfl rfl rfl (zc_holds hS hL0 (f := (zn f))) (fun v834 ph835 hv => ?_)
  obtain ⟨rfl, rfl⟩ := hv
  show zW n D 46 Q 5 [some (.ref 5), some (.int (zn f)), some (.int (zn w)), none] [.int (zI (decide (0 ≤ (zn f).toInt ∧ (zn f).toInt < ((R * C : Nat) : Int))))] ph
  refine w_beq (ykc_46 (e := (4, .ifCond .eq 13, 18)) rfl) rfl (fun q => by have := of_decide_eq_false q; omega) (fun b836 => ?_)
  refine w_load (pc' := 9) (v := .int (zn w)) (m := 1) (ykc_46 (e := (2, .iload_n kF2, 0)) rfl) rfl rfl ?_
  refine w_zlt (ykc_46 (e := (4, .ifCond .lt 9, 18)) rfl) rfl (fun q => by exfalso; omega) (fun b837 => ?_)
  refine w_load (pc' := 13) (v := .int (zn w)) (m := 1) (ykc_46 (e := (2, .iload_n kF2, 0)) rfl) rfl rfl ?_
  refine w_push (pc' := 15) (v := .int ((Int8.ofInt 8).toInt32)) (m := 2) (ykc_46 (e := (1, .bipush 8, 0)) rfl) rfl rfl ?_
  refine w_ilt (ykc_46 (e := (4, .if_icmp .lt 5, 20)) rfl) rfl (fun b838 => ?_) (fun q => by exfalso; omega)
  refine w_load (pc' := 21) (v := .ref 5) (m := 1) (ykc_46 (e := (2, .aload_n kF0, 0)) rfl) rfl rfl ?_
  refine w_load (pc' := 22) (v := .ref 5) (m := 1) (ykc_46 (e := (2, .aload_n kF0, 0)) rfl) rfl rfl ?_
  refine w_gf (pc' := 25) (v := .ref 6) (ykc_46 (e := (5, .getfield 9, 0)) rfl) rfl (zsg hS zs_5_5) rfl ?_
  refine w_load (pc' := 26) (v := .int (zn f)) (m := 1) (ykc_46 (e := (2, .iload_n kF1, 0)) rfl) rfl rfl ?_
  have q839 : f / C < R := (Nat.div_lt_iff_lt_mul (by omega)).mpr (show f < R * C by omega)
  have zq839 := Nat.zero_le (f / C)
  have tq839 := znt (k := f / C) (by omega)
  refine w_ialk (pc' := 27) (k := f) (ykc_46 (e := (5, .iaload, 0)) rfl) (gA f (by omega)).1 (by omega) rfl ?_
  refine w_push (pc' := 30) (v := .ref 1048576) (m := 3) (ykc_46 (e := (1, .getstatic 72, 0)) rfl) rfl rfl ?_
  refine w_load (pc' := 31) (v := .int (zn w)) (m := 1) (ykc_46 (e := (2, .iload_n kF2, 0)) rfl) rfl rfl ?_
  refine w_iar (pc' := 32) (k := w) (ykc_46 (e := (5, .iaload, 0)) rfl) rfl rd (vd w hw) (by omega) rfl ?_
  obtain ⟨z840, e_z840, h_z840⟩ : ∃ zq : Int32, (zn (f / C)) + (Int32.ofInt (zdn w)) = zq ∧ zq.toInt = ((f / C : Nat) : Int) + (zdn w) := ⟨_, rfl, (by have := ti_add (x := (zn (f / C))) (y := (Int32.ofInt (zdn w))) (by omega) (by omega); omega)⟩
  refine w_alu (pc' := 33) (st' := [.int z840, .ref 5]) (ykc_46 (e := (0, .iadd, 0)) rfl) (by rw [← e_z840]; rfl) rfl ?_
  refine w_load (pc' := 34) (v := .ref 5) (m := 1) (ykc_46 (e := (2, .aload_n kF0, 0)) rfl) rfl rfl ?_
  refine w_gf (pc' := 37) (v := .ref 7) (ykc_46 (e := (5, .getfield 15, 0)) rfl) rfl (zsg hS zs_5_6) rfl ?_
  refine w_load (pc' := 38) (v := .int (zn f)) (m := 1) (ykc_46 (e := (2, .iload_n kF1, 0)) rfl) rfl rfl ?_
  have q841 := Nat.mod_lt (f) (show 0 < C by omega)
  have zq841 := Nat.zero_le (f % C)
  have tq841 := znt (k := f % C) (by omega)
  refine w_ialk (pc' := 39) (k := f) (ykc_46 (e := (5, .iaload, 0)) rfl) (gA f (by omega)).2 (by omega) rfl ?_
  refine w_push (pc' := 42) (v := .ref 1048577) (m := 3) (ykc_46 (e := (1, .getstatic 75, 0)) rfl) rfl rfl ?_
  refine w_load (pc' := 43) (v := .int (zn w)) (m := 1) (ykc_46 (e := (2, .iload_n kF2, 0)) rfl) rfl rfl ?_
  refine w_iar (pc' := 44) (k := w) (ykc_46 (e := (5, .iaload, 0)) rfl) rfl rr (vr w hw) (by omega) rfl ?_
  obtain ⟨z842, e_z842, h_z842⟩ : ∃ zq : Int32, (zn (f % C)) + (Int32.ofInt (zrg w)) = zq ∧ zq.toInt = ((f % C : Nat) : Int) + (zrg w) := ⟨_, rfl, (by have := ti_add (x := (zn (f % C))) (y := (Int32.ofInt (zrg w))) (by omega) (by omega); omega)⟩
  refine w_alu (pc' := 45) (st' := [.int z842, .int z840, .ref 5]) (ykc_46 (e := (0, .iadd, 0)) rfl) (by rw [← e_z842]; rfl) rfl ?_
  refine w_cv (as := [.ref 5, .int z840, .int z842]) (r := []) (ykc_46 (e := (6, .invokevirtual 78, 0)) rfl) rfl rfl rfl rfl (zc_fat hS hL0 (x := z840) (y := z842)) (fun v844 ph845 hv => ?_)
  obtain ⟨rfl, g843, rfl, hz_g843⟩ := hv
  rw [show z840.toInt = ((f / C : Nat) : Int) + zdn w by omega, show z842.toInt = ((f % C : Nat) : Int) + zrg w by omega, zfa_to] at hz_g843
  have hzb : -1 ≤ g843.toInt ∧ g843.toInt < ((R * C : Nat) : Int) := by
    rw [hz_g843]
    split
    · next h => have := zto_lt h; omega
    · omega
  show zW n D 46 Q 48 [some (.ref 5), some (.int (zn f)), some (.int (zn w)), none] [.int g843] ph
  refine w_store (pc' := 49) (L' := [some (.ref 5), some (.int (zn f)), some (.int (zn w)), some (.int g843)]) (st' := []) (m := 1) (ykc_46 (e := (3, .istore_n kF3, 0)) rfl) rfl rfl ?_
  refine w_load (pc' := 50) (v := .ref 5) (m := 1) (ykc_46 (e := (2, .aload_n kF0, 0)) rfl) rfl rfl ?_
  refine w_load (pc' := 51) (v := .int g843) (m := 1) (ykc_46 (e := (2, .iload_n kF3, 0)) rfl) rfl rfl ?_
  refine w_cv (as := [.ref 5, .int g843]) (r := []) (ykc_46 (e := (6, .invokevirtual 82, 0)) rfl) rfl rfl rfl rfl (zc_rock hS hL0 (f := g843) (by omega)) (fun v846 ph847 hv => ?_)
  obtain ⟨rfl, rfl⟩ := hv
  show zW n D 46 Q 54 [some (.ref 5), some (.int (zn f)), some (.int (zn w)), some (.int g843)] [.int (zI (decide (0 ≤ g843.toInt) && rk g843.toInt.toNat))] ph
  refine w_beq (ykc_46 (e := (4, .ifCond .eq 7, 61)) rfl) rfl (fun b848 => ?_) (fun b848 => ?_)
  · refine w_load (pc' := 62) (v := .int g843) (m := 1) (ykc_46 (e := (2, .iload_n kF3, 0)) rfl) rfl rfl ?_
    refine w_ret (v := (some (.int g843))) (ykc_46 (e := (7, .ireturn, 0)) rfl) (zr_v rfl) ?_
    rw [hQ]
    refine ⟨rfl, _, rfl, ?_⟩
    unfold zbk
    by_cases hin : zin R C f w = true
    · rw [if_pos hin] at hz_g843
      have h1 := b848
      rw [decide_eq_true (show 0 ≤ g843.toInt by omega), Bool.true_and, show g843.toInt.toNat = zto C f w by omega] at h1
      rw [if_pos ⟨hin, h1⟩]
      exact hz_g843
    · rw [if_neg hin] at hz_g843
      rw [if_neg (fun q => hin q.1)]
      exact hz_g843
  · refine w_alu (pc' := 58) (st' := [.int (Int32.ofInt (-1))]) (ykc_46 (e := (0, .iconst (-1), 0)) rfl) rfl rfl ?_
    refine w_br (pc' := 62) (st' := [.int (Int32.ofInt (-1))]) (ykc_46 (e := (4, .goto 4, 62)) rfl) rfl ?_
    refine w_ret (v := (some (.int (Int32.ofInt (-1))))) (ykc_46 (e := (7, .ireturn, 0)) rfl) (zr_v rfl) ?_
    rw [hQ]
    refine ⟨rfl, _, rfl, ?_⟩
    have h1 := (Bool.and_eq_true _ _).mp b848
    have h2 := of_decide_eq_true h1.1
    have hin : zin R C f w = true := by
      apply Classical.byContradiction
      intro q
      rw [if_neg q] at hz_g843
      omega
    rw [if_pos hin] at hz_g843
    have h3 := h1.2
    rw [show g843.toInt.toNat = zto C f w by omega] at h3
    unfold zbk
    rw [if_neg (fun q => by rw [h3] at q; exact absurd q.2 (by decide))]
    omega
theorem zbit8 : ∀ b, b < 8 → ∀ i, i < 3 → (zn b >>> (zn i &&& 31)) &&& Int32.ofInt 1 = zI (b.testBit i) := by decide +kernel
theorem zset8 : ∀ b, b < 8 → ∀ i, i < 3 → zn b ||| (Int32.ofInt 1 <<< (zn i &&& 31)) = zn (b ||| 2 ^ i) ∧ b ||| 2 ^ i < 8 := by decide +kernel
theorem zc_hold {ph : pm_H} (hS : zSh ph) {x : Int32} {P G fl : Nat} {v : Nat → Nat} (hd : zSd ph 25 P G v) (hfl : zc ph 43 4 = some (.int (zn fl))) (h8 : fl < 8) : zM 31 [.ref 43, .int x, .ref 25] ph (fun v0 q => ((x.toInt < 0 ∨ 3 ≤ x.toInt) ∧ ph = q ∧ v0 = some (.int (zI false))) ∨ (∃ i, x.toInt = (i : Nat) ∧ i < 3 ∧ v0 = some (.int (zI true)) ∧ (∃ q1, zCo (136 + 6 * i) ph q1 ∧ zst q1 q 43 4 (.int (zn (fl ||| 2 ^ i)))) ∧ zSd q (136 + 6 * i) P G v)) := by
  obtain ⟨Q, hQ⟩ : ∃ Q : Option Value → pm_H → Prop, Q = (fun v0 q => ((x.toInt < 0 ∨ 3 ≤ x.toInt) ∧ ph = q ∧ v0 = some (.int (zI false))) ∨ (∃ i, x.toInt = (i : Nat) ∧ i < 3 ∧ v0 = some (.int (zI true)) ∧ (∃ q1, zCo (136 + 6 * i) ph q1 ∧ zst q1 q 43 4 (.int (zn (fl ||| 2 ^ i)))) ∧ zSd q (136 + 6 * i) P G v)) := ⟨_, rfl⟩
  rw [← hQ]
  refine zM_mk fun n D => ?_
  show zW n D 31 Q 0 [some (.ref 43), some (.int x), some (.ref 25)] [] ph
  have c_0 : (Int32.ofInt 0).toInt = 0 := by decide
  have c_1 : (Int32.ofInt 1).toInt = 1 := by decide
  have c_2 : (Int32.ofInt 3).toInt = 3 := by decide
  have tfl := znt (k := fl) (by omega)
  refine w_load (pc' := 1) (v := .int x) (m := 1) (ykc_31 (e := (2, .iload_n kF1, 0)) rfl) rfl rfl ?_
  refine w_zlt (ykc_31 (e := (4, .ifCond .lt 8, 9)) rfl) rfl (fun b849 => ?_) (fun b849 => ?_)
  · refine w_alu (pc' := 10) (st' := [.int (Int32.ofInt 0)]) (ykc_31 (e := (0, .iconst 0, 0)) rfl) rfl rfl ?_
    refine w_ret (v := (some (.int (Int32.ofInt 0)))) (ykc_31 (e := (7, .ireturn, 0)) rfl) zr_z ?_
    rw [hQ, zi0]
    exact Or.inl ⟨by omega, rfl, rfl⟩
  · refine w_load (pc' := 5) (v := .int x) (m := 1) (ykc_31 (e := (2, .iload_n kF1, 0)) rfl) rfl rfl ?_
    refine w_alu (pc' := 6) (st' := [.int (Int32.ofInt 3), .int x]) (ykc_31 (e := (0, .iconst 3, 0)) rfl) rfl rfl ?_
    refine w_ilt (ykc_31 (e := (4, .if_icmp .lt 5, 11)) rfl) rfl (fun b850 => ?_) (fun b850 => ?_)
    · obtain ⟨i, hi⟩ : ∃ i : Nat, x.toInt = (i : Int) := ⟨x.toInt.toNat, by omega⟩
      obtain rfl := zn_of hi
      show zW n D 31 Q 11 [some (.ref 43), some (.int (zn i)), some (.ref 25)] [] ph
      refine w_load (pc' := 12) (v := .ref 43) (m := 1) (ykc_31 (e := (2, .aload_n kF0, 0)) rfl) rfl rfl ?_
      refine w_gf (pc' := 15) (v := .ref 135) (ykc_31 (e := (5, .getfield 16, 0)) rfl) rfl (zsg hS zs_43_3) rfl ?_
      refine w_load (pc' := 16) (v := .int (zn i)) (m := 1) (ykc_31 (e := (2, .iload_n kF1, 0)) rfl) rfl rfl ?_
      refine w_aalk (pc' := 17) (k := i) (ykc_31 (e := (5, .aaload, 0)) rfl) (hS.1 _ _ _ (zs_135 i (by omega))) (by omega) rfl ?_
      refine w_load (pc' := 18) (v := .ref 25) (m := 1) (ykc_31 (e := (2, .aload_n kF2, 0)) rfl) rfl rfl ?_
      refine w_cv (as := [.ref (136 + 6 * i), .ref 25]) (r := []) (ykc_31 (e := (6, .invokevirtual 29, 0)) rfl) rfl rfl rfl rfl (zc_copy (zSs_of hS (S := 25) (by decide)) (zSs_of hS (zSadr_shelf (by omega))) hd (by omega)) (fun v851 ph852 hv => ?_)
      obtain ⟨rfl, fc, fd⟩ := hv
      show zW n D 31 Q 21 [some (.ref 43), some (.int (zn i)), some (.ref 25)] [] ph852
      refine w_load (pc' := 22) (v := .ref 43) (m := 1) (ykc_31 (e := (2, .aload_n kF0, 0)) rfl) rfl rfl ?_
      refine w_alu (pc' := 23) (st' := [.ref 43, .ref 43]) (ykc_31 (e := (0, .dup, 0)) rfl) rfl rfl ?_
      refine w_gf (pc' := 26) (v := .int (zn fl)) (ykc_31 (e := (5, .getfield 19, 0)) rfl) rfl ((fc.1 43 4 (by simp <;> omega) (by simp <;> omega)).trans hfl) rfl ?_
      refine w_alu (pc' := 27) (st' := [.int (Int32.ofInt 1), .int (zn fl), .ref 43]) (ykc_31 (e := (0, .iconst 1, 0)) rfl) rfl rfl ?_
      refine w_load (pc' := 28) (v := .int (zn i)) (m := 1) (ykc_31 (e := (2, .iload_n kF1, 0)) rfl) rfl rfl ?_
      refine w_alu (pc' := 29) (st' := [.int ((Int32.ofInt 1) <<< ((zn i) &&& 31)), .int (zn fl), .ref 43]) (ykc_31 (e := (0, .ishl, 0)) rfl) rfl rfl ?_
      refine w_alu (pc' := 30) (st' := [.int (zn (fl ||| 2 ^ i)), .ref 43]) (ykc_31 (e := (0, .ior, 0)) rfl) (by rw [← ((zset8 fl h8 i (by omega)).1 : (zn fl) ||| ((Int32.ofInt 1) <<< ((zn i) &&& 31)) = zn (fl ||| 2 ^ i))]; rfl) rfl ?_
      refine w_pf (pc' := 33) (ykc_31 (e := (5, .putfield 19, 0)) rfl) rfl rfl (fun ph854 u853 => ?_)
      refine w_alu (pc' := 34) (st' := [.int (Int32.ofInt 1)]) (ykc_31 (e := (0, .iconst 1, 0)) rfl) rfl rfl ?_
      refine w_ret (v := (some (.int (Int32.ofInt 1)))) (ykc_31 (e := (7, .ireturn, 0)) rfl) zr_z ?_
      rw [hQ, zi1]
      exact Or.inr ⟨i, hi, by omega, rfl, ⟨_, fc, u853⟩, zSd_F (A := []) (F := [(43, 4)]) (zFr_st u853 (Or.inr (by simp))) (by intro j hj; simp) (by intro j k hj; simp <;> omega) fd⟩
    · refine w_alu (pc' := 10) (st' := [.int (Int32.ofInt 0)]) (ykc_31 (e := (0, .iconst 0, 0)) rfl) rfl rfl ?_
      refine w_ret (v := (some (.int (Int32.ofInt 0)))) (ykc_31 (e := (7, .ireturn, 0)) rfl) zr_z ?_
      rw [hQ, zi0]
      exact Or.inl ⟨by omega, rfl, rfl⟩
theorem zc_bring {ph : pm_H} (hS : zSh ph) {x : Int32} {P G fl : Nat} {v : Nat → Nat → Nat} (hd : ∀ i, i < 3 → fl.testBit i = true → zSd ph (136 + 6 * i) P G (v i)) (hfl : zc ph 43 4 = some (.int (zn fl))) (h8 : fl < 8) : zM 32 [.ref 43, .int x, .ref 25] ph (fun v0 q => ((x.toInt < 0 ∨ 3 ≤ x.toInt ∨ fl.testBit x.toInt.toNat = false) ∧ ph = q ∧ v0 = some (.int (zI false))) ∨ (∃ i, x.toInt = (i : Nat) ∧ i < 3 ∧ fl.testBit i = true ∧ v0 = some (.int (zI true)) ∧ (∃ q1, zCo 25 ph q1 ∧ zst q1 q 43 2 (.int (Int32.ofInt 0))) ∧ zSd q 25 P G (v i))) := by
  obtain ⟨Q, hQ⟩ : ∃ Q : Option Value → pm_H → Prop, Q = (fun v0 q => ((x.toInt < 0 ∨ 3 ≤ x.toInt ∨ fl.testBit x.toInt.toNat = false) ∧ ph = q ∧ v0 = some (.int (zI false))) ∨ (∃ i, x.toInt = (i : Nat) ∧ i < 3 ∧ fl.testBit i = true ∧ v0 = some (.int (zI true)) ∧ (∃ q1, zCo 25 ph q1 ∧ zst q1 q 43 2 (.int (Int32.ofInt 0))) ∧ zSd q 25 P G (v i))) := ⟨_, rfl⟩
  rw [← hQ]
  refine zM_mk fun n D => ?_
  show zW n D 32 Q 0 [some (.ref 43), some (.int x), some (.ref 25)] [] ph
  have c_0 : (Int32.ofInt 0).toInt = 0 := by decide
  have c_1 : (Int32.ofInt 1).toInt = 1 := by decide
  have c_2 : (Int32.ofInt 3).toInt = 3 := by decide
  have tfl := znt (k := fl) (by omega)
  refine w_load (pc' := 1) (v := .int x) (m := 1) (ykc_32 (e := (2, .iload_n kF1, 0)) rfl) rfl rfl ?_
  refine w_zlt (ykc_32 (e := (4, .ifCond .lt 19, 20)) rfl) rfl (fun b855 => ?_) (fun b855 => ?_)
  · refine w_alu (pc' := 21) (st' := [.int (Int32.ofInt 0)]) (ykc_32 (e := (0, .iconst 0, 0)) rfl) rfl rfl ?_
    refine w_ret (v := (some (.int (Int32.ofInt 0)))) (ykc_32 (e := (7, .ireturn, 0)) rfl) zr_z ?_
    rw [hQ, zi0]
    exact Or.inl ⟨by omega, rfl, rfl⟩
  · refine w_load (pc' := 5) (v := .int x) (m := 1) (ykc_32 (e := (2, .iload_n kF1, 0)) rfl) rfl rfl ?_
    refine w_alu (pc' := 6) (st' := [.int (Int32.ofInt 3), .int x]) (ykc_32 (e := (0, .iconst 3, 0)) rfl) rfl rfl ?_
    refine w_ige (ykc_32 (e := (4, .if_icmp .ge 14, 20)) rfl) rfl (fun b856 => ?_) (fun b856 => ?_)
    · refine w_alu (pc' := 21) (st' := [.int (Int32.ofInt 0)]) (ykc_32 (e := (0, .iconst 0, 0)) rfl) rfl rfl ?_
      refine w_ret (v := (some (.int (Int32.ofInt 0)))) (ykc_32 (e := (7, .ireturn, 0)) rfl) zr_z ?_
      rw [hQ, zi0]
      exact Or.inl ⟨by omega, rfl, rfl⟩
    · obtain ⟨i, hi⟩ : ∃ i : Nat, x.toInt = (i : Int) := ⟨x.toInt.toNat, by omega⟩
      obtain rfl := zn_of hi
      show zW n D 32 Q 9 [some (.ref 43), some (.int (zn i)), some (.ref 25)] [] ph
      refine w_load (pc' := 10) (v := .ref 43) (m := 1) (ykc_32 (e := (2, .aload_n kF0, 0)) rfl) rfl rfl ?_
      refine w_gf (pc' := 13) (v := .int (zn fl)) (ykc_32 (e := (5, .getfield 19, 0)) rfl) rfl hfl rfl ?_
      refine w_load (pc' := 14) (v := .int (zn i)) (m := 1) (ykc_32 (e := (2, .iload_n kF1, 0)) rfl) rfl rfl ?_
      refine w_alu (pc' := 15) (st' := [.int ((zn fl) >>> ((zn i) &&& 31))]) (ykc_32 (e := (0, .ishr, 0)) rfl) rfl rfl ?_
      refine w_alu (pc' := 16) (st' := [.int (Int32.ofInt 1), .int ((zn fl) >>> ((zn i) &&& 31))]) (ykc_32 (e := (0, .iconst 1, 0)) rfl) rfl rfl ?_
      refine w_alu (pc' := 17) (st' := [.int (zI (fl.testBit i))]) (ykc_32 (e := (0, .iand, 0)) rfl) (by rw [← (zbit8 fl h8 i (by omega) : ((zn fl) >>> ((zn i) &&& 31)) &&& (Int32.ofInt 1) = zI (fl.testBit i))]; rfl) rfl ?_
      refine w_bne (ykc_32 (e := (4, .ifCond .ne 5, 22)) rfl) rfl (fun b857 => ?_) (fun b857 => ?_)
      · refine w_load (pc' := 23) (v := .ref 25) (m := 1) (ykc_32 (e := (2, .aload_n kF2, 0)) rfl) rfl rfl ?_
        refine w_load (pc' := 24) (v := .ref 43) (m := 1) (ykc_32 (e := (2, .aload_n kF0, 0)) rfl) rfl rfl ?_
        refine w_gf (pc' := 27) (v := .ref 135) (ykc_32 (e := (5, .getfield 16, 0)) rfl) rfl (zsg hS zs_43_3) rfl ?_
        refine w_load (pc' := 28) (v := .int (zn i)) (m := 1) (ykc_32 (e := (2, .iload_n kF1, 0)) rfl) rfl rfl ?_
        refine w_aalk (pc' := 29) (k := i) (ykc_32 (e := (5, .aaload, 0)) rfl) (hS.1 _ _ _ (zs_135 i (by omega))) (by omega) rfl ?_
        refine w_cv (as := [.ref 25, .ref (136 + 6 * i)]) (r := []) (ykc_32 (e := (6, .invokevirtual 29, 0)) rfl) rfl rfl rfl rfl (zc_copy (zSs_of hS (zSadr_shelf (by omega))) (zSs_of hS (S := 25) (by decide)) (hd i (by omega) b857) (by omega)) (fun v858 ph859 hv => ?_)
        obtain ⟨rfl, fc, fd⟩ := hv
        show zW n D 32 Q 32 [some (.ref 43), some (.int (zn i)), some (.ref 25)] [] ph859
        refine w_load (pc' := 33) (v := .ref 43) (m := 1) (ykc_32 (e := (2, .aload_n kF0, 0)) rfl) rfl rfl ?_
        refine w_alu (pc' := 34) (st' := [.int (Int32.ofInt 0), .ref 43]) (ykc_32 (e := (0, .iconst 0, 0)) rfl) rfl rfl ?_
        refine w_pf (pc' := 37) (ykc_32 (e := (5, .putfield 26, 0)) rfl) rfl rfl (fun ph861 u860 => ?_)
        refine w_alu (pc' := 38) (st' := [.int (Int32.ofInt 1)]) (ykc_32 (e := (0, .iconst 1, 0)) rfl) rfl rfl ?_
        refine w_ret (v := (some (.int (Int32.ofInt 1)))) (ykc_32 (e := (7, .ireturn, 0)) rfl) zr_z ?_
        rw [hQ, zi1]
        exact Or.inr ⟨i, hi, by omega, b857, rfl, ⟨_, fc, u860⟩, zSd_F (A := []) (F := [(43, 2)]) (zFr_st u860 (Or.inr (by simp))) (by intro j hj; simp) (by intro j k hj; simp <;> omega) fd⟩
      · refine w_alu (pc' := 21) (st' := [.int (Int32.ofInt 0)]) (ykc_32 (e := (0, .iconst 0, 0)) rfl) rfl rfl ?_
        refine w_ret (v := (some (.int (Int32.ofInt 0)))) (ykc_32 (e := (7, .ireturn, 0)) rfl) zr_z ?_
        rw [hQ, zi0]
        exact Or.inl ⟨Or.inr (Or.inr (by rw [hi]; exact b857)), rfl, rfl⟩
end
section
/-! acts: faces, steps, trims, puts, by W; printed by wip/z/z_q_acts.py -/
theorem zNr_u {p q : pm_H} {A i x : Nat} {v : Nat → Nat} (u : zst p q A i (.int (zn x))) (h : zNr p A 0 v) : zNr q A 0 (znu v i x) := fun j hj => by
  rw [Nat.zero_add]
  unfold znu
  by_cases e : j = i
  · rw [if_pos e, e]
    exact u.1
  · rw [if_neg e]
    exact (u.2.1 A j (fun q => e q.2)).trans (zNr0 h hj)
theorem zSd_u {p q : pm_H} {S P G a i x : Nat} {v : Nat → Nat} (ha : a = 1 ∨ a = 2 ∨ a = 3 ∨ a = 5) (hi : i < 8) (u : zst p q (S + a) i (.int (zn x))) (h : zSd p S P G v) : zSd q S P G (znu v (8 * (a - 1) + i) x) := by
  obtain ⟨g0, gP, g1, gG, g2, g3, g4⟩ := h
  have k : ∀ b j y, zc p (S + b) j = some (.int (zn (v y))) → 1 ≤ b → j < 8 → y = 8 * (b - 1) + j → zc q (S + b) j = some (.int (zn (znu v (8 * (a - 1) + i) x y))) := by
    intro b j y hy h1 h8 e
    unfold znu
    by_cases e2 : b = a ∧ j = i
    · obtain ⟨rfl, rfl⟩ := e2
      rw [if_pos e]
      exact u.1
    · rw [if_neg (by omega)]
      exact (u.2.1 _ _ (fun q => e2 (by omega))).trans hy
  have k0 : ∀ c, zc q S c = zc p S c := fun c => u.2.1 S c (fun q => by have := q.1; omega)
  refine ⟨(k0 0).trans g0, gP, (k0 1).trans g1, gG, ?_, fun j hj => ⟨k 1 j j (g3 j hj).1 (by omega) (by omega) (by omega), k 2 j (8 + j) (g3 j hj).2.1 (by omega) (by omega) (by omega), k 3 j (16 + j) (g3 j hj).2.2.1 (by omega) (by omega) (by omega), k 4 j (24 + j) (g3 j hj).2.2.2 (by omega) (by omega) (by omega)⟩, fun j hj => k 5 j (32 + j) (g4 j hj) (by omega) (by omega) (by omega)⟩
  unfold znu
  rw [if_neg (by omega)]
  exact (k0 2).trans g2
theorem zm_faces1 {ph : pm_H} {R C P G A : Nat} {rk : Nat → Bool} {v : Nat → Nat} (hS : zSh ph) (hL : zMl ph R C rk) (hN : zMp ph P G) (hA : A = 174 ∨ A = 175) (hv : zNr ph A 0 v) (hO0 : zOk R C P G v) {x y : Int32} : zM 244 [.ref 170, .ref A, .int x, .int y] ph (fun v0 q => ((x.toInt < 0 ∨ (P : Int) ≤ x.toInt ∨ y.toInt < 0 ∨ 8 ≤ y.toInt) ∧ ph = q ∧ v0 = some (.int (Int32.ofInt (-1)))) ∨ (∃ p f, x = zn p ∧ y = zn f ∧ p < P ∧ f < 8 ∧ v0 = some (.int (zn (ze8 (v (8 + p)) f))) ∧ zst ph q A (8 + p) (.int (zn f)))) := by
  obtain ⟨Q, hQ⟩ : ∃ Q : Option Value → pm_H → Prop, Q = (fun v0 q => ((x.toInt < 0 ∨ (P : Int) ≤ x.toInt ∨ y.toInt < 0 ∨ 8 ≤ y.toInt) ∧ ph = q ∧ v0 = some (.int (Int32.ofInt (-1)))) ∨ (∃ p f, x = zn p ∧ y = zn f ∧ p < P ∧ f < 8 ∧ v0 = some (.int (zn (ze8 (v (8 + p)) f))) ∧ zst ph q A (8 + p) (.int (zn f)))) := ⟨_, rfl⟩
  rw [← hQ]
  refine zM_mk fun n D => ?_
  show zW n D 244 Q 0 [some (.ref 170), some (.ref A), some (.int x), some (.int y), none] [] ph
  have c_0 : ((Int8.ofInt 8).toInt32).toInt = 8 := by decide
  have c_1 : (Int32.ofInt (-1)).toInt = -1 := by decide
  have hL0 := hL
  have hN0 := hN
  have hx0 := x32_lo x
  have hx1 := x32_hi x
  have hy0 := x32_lo y
  have hy1 := x32_hi y
  obtain ⟨gR, gC, gK, hR3, hR7, hC3, hC7⟩ := hL
  have hRC := zRC49 hR7 hC7
  have tR := znt (k := R) (by omega)
  have tC := znt (k := C) (by omega)
  obtain ⟨gP, hP8, gG, hG8⟩ := hN
  have tP := znt (k := P) (by omega)
  have tG := znt (k := G) (by omega)
  refine w_load (pc' := 1) (v := .ref 170) (m := 1) (ykc_244 (e := (2, .aload_n kF0, 0)) rfl) rfl rfl ?_
  refine w_load (pc' := 2) (v := .int x) (m := 1) (ykc_244 (e := (2, .iload_n kF2, 0)) rfl) rfl rfl ?_
  refine w_cv (as := [.ref 170, .int x]) (r := []) (ykc_244 (e := (6, .invokevirtual 315, 0)) rfl) rfl rfl rfl rfl (zm_isPerson hN0 (p := x)) (fun v862 ph863 hv => ?_)
  obtain ⟨rfl, rfl⟩ := hv
  show zW n D 244 Q 5 [some (.ref 170), some (.ref A), some (.int x), some (.int y), none] [.int (zI (decide (0 ≤ x.toInt ∧ x.toInt < ((P : Nat) : Int))))] ph
  refine w_beq (ykc_244 (e := (4, .ifCond .eq 15, 20)) rfl) rfl (fun b864 => ?_) (fun b864 => ?_)
  · refine w_alu (pc' := 21) (st' := [.int (Int32.ofInt (-1))]) (ykc_244 (e := (0, .iconst (-1), 0)) rfl) rfl rfl ?_
    refine w_ret (v := (some (.int (Int32.ofInt (-1))))) (ykc_244 (e := (7, .ireturn, 0)) rfl) (zr_v rfl) ?_
    have d9 := of_decide_eq_false b864
    rw [hQ]
    exact Or.inl ⟨by omega, rfl, rfl⟩
  · refine w_load (pc' := 9) (v := .int y) (m := 1) (ykc_244 (e := (2, .iload_n kF3, 0)) rfl) rfl rfl ?_
    refine w_alu (pc' := 10) (st' := [.long y.toInt64]) (ykc_244 (e := (0, .i2l, 0)) rfl) rfl rfl ?_
    refine w_alu (pc' := 11) (st' := [.long (Int64.ofNat kG0), .long y.toInt64]) (ykc_244 (e := (0, .lconst kG0, 0)) rfl) rfl rfl ?_
    refine w_push (pc' := 14) (v := .long (7 : Int64)) (m := 3) (ykc_244 (e := (1, .ldc2_w 351, 0)) rfl) rfl rfl ?_
    refine w_cs (as := [.long y.toInt64, .long (Int64.ofNat kG0), .long (7 : Int64)]) (r := []) (ykc_244 (e := (6, .invokestatic 126, 0)) rfl) rfl rfl rfl rfl (zm_in (x := y.toInt) (y := (0 : Int)) (z := (7 : Int)) (by first | exact ztl | (rw [ztl]; omega) | decide | omega) (by first | exact ztl | (rw [ztl]; omega) | decide | omega) (by first | exact ztl | (rw [ztl]; omega) | decide | omega)) (fun v865 ph866 hv => ?_)
    obtain ⟨rfl, rfl⟩ := hv
    show zW n D 244 Q 17 [some (.ref 170), some (.ref A), some (.int x), some (.int y), none] [.int (zI (decide ((0 : Int) ≤ y.toInt ∧ y.toInt ≤ (7 : Int))))] ph
    refine w_bne (ykc_244 (e := (4, .ifCond .ne 5, 22)) rfl) rfl (fun b867 => ?_) (fun b867 => ?_)
    · have db864 := of_decide_eq_true b864
      have db867 := of_decide_eq_true b867
      obtain ⟨p, hp⟩ : ∃ p : Nat, x.toInt = (p : Int) := ⟨x.toInt.toNat, by omega⟩
      obtain rfl := zn_of hp
      obtain ⟨f, hf⟩ : ∃ f : Nat, y.toInt = (f : Int) := ⟨y.toInt.toNat, by omega⟩
      obtain rfl := zn_of hf
      show zW n D 244 Q 22 [some (.ref 170), some (.ref A), some (.int (zn p)), some (.int (zn f)), none] [] ph
      refine w_load (pc' := 23) (v := .ref A) (m := 1) (ykc_244 (e := (2, .aload_n kF1, 0)) rfl) rfl rfl ?_
      refine w_push (pc' := 25) (v := .int ((Int8.ofInt 8).toInt32)) (m := 2) (ykc_244 (e := (1, .bipush 8, 0)) rfl) rfl rfl ?_
      refine w_load (pc' := 26) (v := .int (zn p)) (m := 1) (ykc_244 (e := (2, .iload_n kF2, 0)) rfl) rfl rfl ?_
      have e868 : ((Int8.ofInt 8).toInt32) + (zn p) = zn (8 + p) := (zaddN (a := 8) (b := p) c_0 (znt (by omega)) (by omega)) 
      have te868 := znt (k := 8 + p) (by omega)
      refine w_alu (pc' := 27) (st' := [.int (zn (8 + p)), .ref A]) (ykc_244 (e := (0, .iadd, 0)) rfl) (by rw [← e868]; rfl) rfl ?_
      have q869 := hO0.1 p (by omega)
      have tq869 := znt (k := v (8 + p)) (by omega)
      refine w_ialk (pc' := 28) (k := 8 + p) (ykc_244 (e := (5, .iaload, 0)) rfl) (zNr0 hv (i := 8 + p) (by omega)) (by omega) rfl ?_
      refine w_load (pc' := 29) (v := .int (zn f)) (m := 1) (ykc_244 (e := (2, .iload_n kF3, 0)) rfl) rfl rfl ?_
      refine w_cs (as := [.int (zn (v (8 + p))), .int (zn f)]) (r := []) (ykc_244 (e := (6, .invokestatic 285, 0)) rfl) rfl rfl rfl rfl (zm_e8 (a := v (8 + p)) (b := f) (by omega) (by omega) (by omega) (by omega)) (fun v870 ph871 hv => ?_)
      obtain ⟨rfl, rfl⟩ := hv
      have te := znt (k := ze8 (v (8 + p)) f) (by unfold ze8; omega)
      show zW n D 244 Q 32 [some (.ref 170), some (.ref A), some (.int (zn p)), some (.int (zn f)), none] [.int (zn (ze8 (v (8 + p)) f))] ph
      refine w_store (pc' := 34) (L' := [some (.ref 170), some (.ref A), some (.int (zn p)), some (.int (zn f)), some (.int (zn (ze8 (v (8 + p)) f)))]) (st' := []) (m := 2) (ykc_244 (e := (3, .istore 4, 0)) rfl) rfl rfl ?_
      refine w_load (pc' := 35) (v := .ref A) (m := 1) (ykc_244 (e := (2, .aload_n kF1, 0)) rfl) rfl rfl ?_
      refine w_push (pc' := 37) (v := .int ((Int8.ofInt 8).toInt32)) (m := 2) (ykc_244 (e := (1, .bipush 8, 0)) rfl) rfl rfl ?_
      refine w_load (pc' := 38) (v := .int (zn p)) (m := 1) (ykc_244 (e := (2, .iload_n kF2, 0)) rfl) rfl rfl ?_
      have e872 : ((Int8.ofInt 8).toInt32) + (zn p) = zn (8 + p) := (zaddN (a := 8) (b := p) c_0 (znt (by omega)) (by omega)) 
      have te872 := znt (k := 8 + p) (by omega)
      refine w_alu (pc' := 39) (st' := [.int (zn (8 + p)), .ref A]) (ykc_244 (e := (0, .iadd, 0)) rfl) (by rw [← e872]; rfl) rfl ?_
      refine w_load (pc' := 40) (v := .int (zn f)) (m := 1) (ykc_244 (e := (2, .iload_n kF3, 0)) rfl) rfl rfl ?_
      refine w_ias (pc' := 41) (k := 8 + p) (ykc_244 (e := (5, .iastore, 0)) rfl) (by omega) rfl (fun ph874 u873 => ?_)
      refine w_load (pc' := 43) (v := .int (zn (ze8 (v (8 + p)) f))) (m := 2) (ykc_244 (e := (2, .iload 4, 0)) rfl) rfl rfl ?_
      refine w_ret (v := (some (.int (zn (ze8 (v (8 + p)) f))))) (ykc_244 (e := (7, .ireturn, 0)) rfl) (zr_v rfl) ?_
      rw [hQ]
      exact Or.inr ⟨p, f, rfl, rfl, by omega, by omega, rfl, u873⟩
    · refine w_alu (pc' := 21) (st' := [.int (Int32.ofInt (-1))]) (ykc_244 (e := (0, .iconst (-1), 0)) rfl) rfl rfl ?_
      refine w_ret (v := (some (.int (Int32.ofInt (-1))))) (ykc_244 (e := (7, .ireturn, 0)) rfl) (zr_v rfl) ?_
      have d9 := of_decide_eq_false b867
      rw [hQ]
      exact Or.inl ⟨by omega, rfl, rfl⟩
theorem zm_steps1 {ph : pm_H} {R C P G A : Nat} {rk : Nat → Bool} {v : Nat → Nat} (hS : zSh ph) (hL : zMl ph R C rk) (hN : zMp ph P G) (hA : A = 174 ∨ A = 175) (hv : zNr ph A 0 v) (hO0 : zOk R C P G v) {x y : Int32} : zM 245 [.ref 170, .ref A, .int x, .int y] ph (fun v0 q => ((x.toInt < 0 ∨ (P : Int) ≤ x.toInt ∨ y.toInt < 0 ∨ 8 ≤ y.toInt) ∧ ph = q ∧ v0 = some (.int (Int32.ofInt (-1)))) ∨ (∃ p f, x = zn p ∧ y = zn f ∧ p < P ∧ f < 8 ∧ ((zbk R C rk (v p) f = -1 ∧ ph = q ∧ v0 = some (.int (Int8.ofInt (-2)).toInt32)) ∨ (∃ g, g < R * C ∧ zbk R C rk (v p) f = (g : Nat) ∧ v0 = some (.int (zn g)) ∧ zst ph q A p (.int (zn g)))))) := by
  obtain ⟨Q, hQ⟩ : ∃ Q : Option Value → pm_H → Prop, Q = (fun v0 q => ((x.toInt < 0 ∨ (P : Int) ≤ x.toInt ∨ y.toInt < 0 ∨ 8 ≤ y.toInt) ∧ ph = q ∧ v0 = some (.int (Int32.ofInt (-1)))) ∨ (∃ p f, x = zn p ∧ y = zn f ∧ p < P ∧ f < 8 ∧ ((zbk R C rk (v p) f = -1 ∧ ph = q ∧ v0 = some (.int (Int8.ofInt (-2)).toInt32)) ∨ (∃ g, g < R * C ∧ zbk R C rk (v p) f = (g : Nat) ∧ v0 = some (.int (zn g)) ∧ zst ph q A p (.int (zn g)))))) := ⟨_, rfl⟩
  rw [← hQ]
  refine zM_mk fun n D => ?_
  show zW n D 245 Q 0 [some (.ref 170), some (.ref A), some (.int x), some (.int y), none] [] ph
  have c_0 : ((Int8.ofInt (-2)).toInt32).toInt = -2 := by decide
  have c_1 : (Int32.ofInt (-1)).toInt = -1 := by decide
  have hL0 := hL
  have hN0 := hN
  have hx0 := x32_lo x
  have hx1 := x32_hi x
  have hy0 := x32_lo y
  have hy1 := x32_hi y
  obtain ⟨gR, gC, gK, hR3, hR7, hC3, hC7⟩ := hL
  have hRC := zRC49 hR7 hC7
  have tR := znt (k := R) (by omega)
  have tC := znt (k := C) (by omega)
  obtain ⟨gP, hP8, gG, hG8⟩ := hN
  have tP := znt (k := P) (by omega)
  have tG := znt (k := G) (by omega)
  refine w_load (pc' := 1) (v := .ref 170) (m := 1) (ykc_245 (e := (2, .aload_n kF0, 0)) rfl) rfl rfl ?_
  refine w_load (pc' := 2) (v := .int x) (m := 1) (ykc_245 (e := (2, .iload_n kF2, 0)) rfl) rfl rfl ?_
  refine w_cv (as := [.ref 170, .int x]) (r := []) (ykc_245 (e := (6, .invokevirtual 315, 0)) rfl) rfl rfl rfl rfl (zm_isPerson hN0 (p := x)) (fun v875 ph876 hv => ?_)
  obtain ⟨rfl, rfl⟩ := hv
  show zW n D 245 Q 5 [some (.ref 170), some (.ref A), some (.int x), some (.int y), none] [.int (zI (decide (0 ≤ x.toInt ∧ x.toInt < ((P : Nat) : Int))))] ph
  refine w_beq (ykc_245 (e := (4, .ifCond .eq 15, 20)) rfl) rfl (fun b877 => ?_) (fun b877 => ?_)
  · refine w_alu (pc' := 21) (st' := [.int (Int32.ofInt (-1))]) (ykc_245 (e := (0, .iconst (-1), 0)) rfl) rfl rfl ?_
    refine w_ret (v := (some (.int (Int32.ofInt (-1))))) (ykc_245 (e := (7, .ireturn, 0)) rfl) (zr_v rfl) ?_
    have d9 := of_decide_eq_false b877
    rw [hQ]
    exact Or.inl ⟨by omega, rfl, rfl⟩
  · refine w_load (pc' := 9) (v := .int y) (m := 1) (ykc_245 (e := (2, .iload_n kF3, 0)) rfl) rfl rfl ?_
    refine w_alu (pc' := 10) (st' := [.long y.toInt64]) (ykc_245 (e := (0, .i2l, 0)) rfl) rfl rfl ?_
    refine w_alu (pc' := 11) (st' := [.long (Int64.ofNat kG0), .long y.toInt64]) (ykc_245 (e := (0, .lconst kG0, 0)) rfl) rfl rfl ?_
    refine w_push (pc' := 14) (v := .long (7 : Int64)) (m := 3) (ykc_245 (e := (1, .ldc2_w 351, 0)) rfl) rfl rfl ?_
    refine w_cs (as := [.long y.toInt64, .long (Int64.ofNat kG0), .long (7 : Int64)]) (r := []) (ykc_245 (e := (6, .invokestatic 126, 0)) rfl) rfl rfl rfl rfl (zm_in (x := y.toInt) (y := (0 : Int)) (z := (7 : Int)) (by first | exact ztl | (rw [ztl]; omega) | decide | omega) (by first | exact ztl | (rw [ztl]; omega) | decide | omega) (by first | exact ztl | (rw [ztl]; omega) | decide | omega)) (fun v878 ph879 hv => ?_)
    obtain ⟨rfl, rfl⟩ := hv
    show zW n D 245 Q 17 [some (.ref 170), some (.ref A), some (.int x), some (.int y), none] [.int (zI (decide ((0 : Int) ≤ y.toInt ∧ y.toInt ≤ (7 : Int))))] ph
    refine w_bne (ykc_245 (e := (4, .ifCond .ne 5, 22)) rfl) rfl (fun b880 => ?_) (fun b880 => ?_)
    · have db877 := of_decide_eq_true b877
      have db880 := of_decide_eq_true b880
      obtain ⟨p, hp⟩ : ∃ p : Nat, x.toInt = (p : Int) := ⟨x.toInt.toNat, by omega⟩
      obtain rfl := zn_of hp
      obtain ⟨f, hf⟩ : ∃ f : Nat, y.toInt = (f : Int) := ⟨y.toInt.toNat, by omega⟩
      obtain rfl := zn_of hf
      show zW n D 245 Q 22 [some (.ref 170), some (.ref A), some (.int (zn p)), some (.int (zn f)), none] [] ph
      refine w_load (pc' := 23) (v := .ref 170) (m := 1) (ykc_245 (e := (2, .aload_n kF0, 0)) rfl) rfl rfl ?_
      refine w_load (pc' := 24) (v := .ref A) (m := 1) (ykc_245 (e := (2, .aload_n kF1, 0)) rfl) rfl rfl ?_
      refine w_load (pc' := 25) (v := .int (zn p)) (m := 1) (ykc_245 (e := (2, .iload_n kF2, 0)) rfl) rfl rfl ?_
      have q881 := hO0.1 p (by omega)
      have tq881 := znt (k := v p) (by omega)
      refine w_ialk (pc' := 26) (k := p) (ykc_245 (e := (5, .iaload, 0)) rfl) (zNr0 hv (i := p) (by omega)) (by omega) rfl ?_
      refine w_load (pc' := 27) (v := .int (zn f)) (m := 1) (ykc_245 (e := (2, .iload_n kF3, 0)) rfl) rfl rfl ?_
      refine w_cv (as := [.ref 170, .int (zn (v p)), .int (zn f)]) (r := []) (ykc_245 (e := (6, .invokevirtual 353, 0)) rfl) rfl rfl rfl rfl (zm_beside hS hL0 (f := v p) (w := f) (by omega) (by omega)) (fun v883 ph884 hv => ?_)
      obtain ⟨rfl, g882, rfl, hz_g882⟩ := hv
      have hb_g882 := @zbf_b R C (v p) f
      show zW n D 245 Q 30 [some (.ref 170), some (.ref A), some (.int (zn p)), some (.int (zn f)), none] [.int g882] ph
      refine w_store (pc' := 32) (L' := [some (.ref 170), some (.ref A), some (.int (zn p)), some (.int (zn f)), some (.int g882)]) (st' := []) (m := 2) (ykc_245 (e := (3, .istore 4, 0)) rfl) rfl rfl ?_
      refine w_load (pc' := 34) (v := .int g882) (m := 2) (ykc_245 (e := (2, .iload 4, 0)) rfl) rfl rfl ?_
      refine w_zlt (ykc_245 (e := (4, .ifCond .lt 13, 47)) rfl) rfl (fun b885 => ?_) (fun b885 => ?_)
      · refine w_push (pc' := 49) (v := .int ((Int8.ofInt (-2)).toInt32)) (m := 2) (ykc_245 (e := (1, .bipush (-2), 0)) rfl) rfl rfl ?_
        refine w_ret (v := (some (.int ((Int8.ofInt (-2)).toInt32)))) (ykc_245 (e := (7, .ireturn, 0)) rfl) (zr_v rfl) ?_
        have hin : ¬ zin R C (v p) f = true := by
          intro q
          have h9 : zbf R C (v p) f = (zto C (v p) f : Nat) := if_pos q
          omega
        have hb9 : zbk R C rk (v p) f = -1 := if_neg (fun q => hin q.1)
        rw [hQ]
        exact Or.inr ⟨p, f, rfl, rfl, by omega, by omega, Or.inl ⟨hb9, rfl, rfl⟩⟩
      · have hin : zin R C (v p) f = true := by
          apply Classical.byContradiction
          intro q
          have h9 : zbf R C (v p) f = -1 := if_neg q
          omega
        have hz9 : zbf R C (v p) f = (zto C (v p) f : Nat) := if_pos hin
        have hlt := zto_lt hin
        obtain rfl := zn_of (k := zto C (v p) f) (x := g882) (by omega)
        have tto := znt (k := zto C (v p) f) (by omega)
        show zW n D 245 Q 37 [some (.ref 170), some (.ref A), some (.int (zn p)), some (.int (zn f)), some (.int (zn (zto C (v p) f)))] [] ph
        refine w_load (pc' := 38) (v := .ref 170) (m := 1) (ykc_245 (e := (2, .aload_n kF0, 0)) rfl) rfl rfl ?_
        refine w_gf (pc' := 41) (v := .ref 172) (ykc_245 (e := (5, .getfield 33, 0)) rfl) rfl (zsg hS zs_170_9) rfl ?_
        refine w_load (pc' := 43) (v := .int (zn (zto C (v p) f))) (m := 2) (ykc_245 (e := (2, .iload 4, 0)) rfl) rfl rfl ?_
        refine w_balk (pc' := 44) (k := zto C (v p) f) (ykc_245 (e := (5, .baload, 0)) rfl) (gK (zto C (v p) f) (by omega)) (by omega) rfl ?_
        refine w_beq (ykc_245 (e := (4, .ifCond .eq 6, 50)) rfl) rfl (fun b886 => ?_) (fun b886 => ?_)
        · refine w_load (pc' := 51) (v := .ref A) (m := 1) (ykc_245 (e := (2, .aload_n kF1, 0)) rfl) rfl rfl ?_
          refine w_load (pc' := 52) (v := .int (zn p)) (m := 1) (ykc_245 (e := (2, .iload_n kF2, 0)) rfl) rfl rfl ?_
          refine w_load (pc' := 54) (v := .int (zn (zto C (v p) f))) (m := 2) (ykc_245 (e := (2, .iload 4, 0)) rfl) rfl rfl ?_
          refine w_ias (pc' := 55) (k := p) (ykc_245 (e := (5, .iastore, 0)) rfl) (by omega) rfl (fun ph888 u887 => ?_)
          refine w_load (pc' := 57) (v := .int (zn (zto C (v p) f))) (m := 2) (ykc_245 (e := (2, .iload 4, 0)) rfl) rfl rfl ?_
          refine w_ret (v := (some (.int (zn (zto C (v p) f))))) (ykc_245 (e := (7, .ireturn, 0)) rfl) (zr_v rfl) ?_
          have hb9 : zbk R C rk (v p) f = (zto C (v p) f : Nat) := if_pos ⟨hin, b886⟩
          rw [hQ]
          exact Or.inr ⟨p, f, rfl, rfl, by omega, by omega, Or.inr ⟨_, hlt, hb9, rfl, u887⟩⟩
        · refine w_push (pc' := 49) (v := .int ((Int8.ofInt (-2)).toInt32)) (m := 2) (ykc_245 (e := (1, .bipush (-2), 0)) rfl) rfl rfl ?_
          refine w_ret (v := (some (.int ((Int8.ofInt (-2)).toInt32)))) (ykc_245 (e := (7, .ireturn, 0)) rfl) (zr_v rfl) ?_
          have hb9 : zbk R C rk (v p) f = -1 := if_neg (fun q => by rw [b886] at q; exact absurd q.2 (by decide))
          rw [hQ]
          exact Or.inr ⟨p, f, rfl, rfl, by omega, by omega, Or.inl ⟨hb9, rfl, rfl⟩⟩
    · refine w_alu (pc' := 21) (st' := [.int (Int32.ofInt (-1))]) (ykc_245 (e := (0, .iconst (-1), 0)) rfl) rfl rfl ?_
      refine w_ret (v := (some (.int (Int32.ofInt (-1))))) (ykc_245 (e := (7, .ireturn, 0)) rfl) (zr_v rfl) ?_
      have d9 := of_decide_eq_false b880
      rw [hQ]
      exact Or.inl ⟨by omega, rfl, rfl⟩
theorem zm_trims1 {ph : pm_H} {R C P G : Nat} {rk : Nat → Bool} {v : Nat → Nat} (hS : zSh ph) (hL : zMl ph R C rk) (hN : zMp ph P G) (hv : zNr ph 174 0 v) (hO0 : zOk R C P G v) {x y : Int32} : zM 246 [.ref 170, .int x, .int y] ph (fun v0 q => ((x.toInt < 0 ∨ (P : Int) ≤ x.toInt ∨ y.toInt < 0 ∨ 5 ≤ y.toInt) ∧ ph = q ∧ v0 = some (.int (Int32.ofInt (-1)))) ∨ (∃ p f, x = zn p ∧ y = zn f ∧ p < P ∧ f ≤ 4 ∧ v0 = some (.int (zn (v (16 + p)))) ∧ zst ph q 174 (16 + p) (.int (zn f)))) := by
  obtain ⟨Q, hQ⟩ : ∃ Q : Option Value → pm_H → Prop, Q = (fun v0 q => ((x.toInt < 0 ∨ (P : Int) ≤ x.toInt ∨ y.toInt < 0 ∨ 5 ≤ y.toInt) ∧ ph = q ∧ v0 = some (.int (Int32.ofInt (-1)))) ∨ (∃ p f, x = zn p ∧ y = zn f ∧ p < P ∧ f ≤ 4 ∧ v0 = some (.int (zn (v (16 + p)))) ∧ zst ph q 174 (16 + p) (.int (zn f)))) := ⟨_, rfl⟩
  rw [← hQ]
  refine zM_mk fun n D => ?_
  show zW n D 246 Q 0 [some (.ref 170), some (.int x), some (.int y), none] [] ph
  have c_0 : ((Int8.ofInt 16).toInt32).toInt = 16 := by decide
  have c_1 : (Int32.ofInt (-1)).toInt = -1 := by decide
  have hL0 := hL
  have hN0 := hN
  have hx0 := x32_lo x
  have hx1 := x32_hi x
  have hy0 := x32_lo y
  have hy1 := x32_hi y
  obtain ⟨gR, gC, gK, hR3, hR7, hC3, hC7⟩ := hL
  have hRC := zRC49 hR7 hC7
  have tR := znt (k := R) (by omega)
  have tC := znt (k := C) (by omega)
  obtain ⟨gP, hP8, gG, hG8⟩ := hN
  have tP := znt (k := P) (by omega)
  have tG := znt (k := G) (by omega)
  refine w_load (pc' := 1) (v := .ref 170) (m := 1) (ykc_246 (e := (2, .aload_n kF0, 0)) rfl) rfl rfl ?_
  refine w_load (pc' := 2) (v := .int x) (m := 1) (ykc_246 (e := (2, .iload_n kF1, 0)) rfl) rfl rfl ?_
  refine w_cv (as := [.ref 170, .int x]) (r := []) (ykc_246 (e := (6, .invokevirtual 315, 0)) rfl) rfl rfl rfl rfl (zm_isPerson hN0 (p := x)) (fun v889 ph890 hv => ?_)
  obtain ⟨rfl, rfl⟩ := hv
  show zW n D 246 Q 5 [some (.ref 170), some (.int x), some (.int y), none] [.int (zI (decide (0 ≤ x.toInt ∧ x.toInt < ((P : Nat) : Int))))] ph
  refine w_beq (ykc_246 (e := (4, .ifCond .eq 15, 20)) rfl) rfl (fun b891 => ?_) (fun b891 => ?_)
  · refine w_alu (pc' := 21) (st' := [.int (Int32.ofInt (-1))]) (ykc_246 (e := (0, .iconst (-1), 0)) rfl) rfl rfl ?_
    refine w_ret (v := (some (.int (Int32.ofInt (-1))))) (ykc_246 (e := (7, .ireturn, 0)) rfl) (zr_v rfl) ?_
    have d9 := of_decide_eq_false b891
    rw [hQ]
    exact Or.inl ⟨by omega, rfl, rfl⟩
  · refine w_load (pc' := 9) (v := .int y) (m := 1) (ykc_246 (e := (2, .iload_n kF2, 0)) rfl) rfl rfl ?_
    refine w_alu (pc' := 10) (st' := [.long y.toInt64]) (ykc_246 (e := (0, .i2l, 0)) rfl) rfl rfl ?_
    refine w_alu (pc' := 11) (st' := [.long (Int64.ofNat kG0), .long y.toInt64]) (ykc_246 (e := (0, .lconst kG0, 0)) rfl) rfl rfl ?_
    refine w_push (pc' := 14) (v := .long (4 : Int64)) (m := 3) (ykc_246 (e := (1, .ldc2_w 356, 0)) rfl) rfl rfl ?_
    refine w_cs (as := [.long y.toInt64, .long (Int64.ofNat kG0), .long (4 : Int64)]) (r := []) (ykc_246 (e := (6, .invokestatic 126, 0)) rfl) rfl rfl rfl rfl (zm_in (x := y.toInt) (y := (0 : Int)) (z := (4 : Int)) (by first | exact ztl | (rw [ztl]; omega) | decide | omega) (by first | exact ztl | (rw [ztl]; omega) | decide | omega) (by first | exact ztl | (rw [ztl]; omega) | decide | omega)) (fun v892 ph893 hv => ?_)
    obtain ⟨rfl, rfl⟩ := hv
    show zW n D 246 Q 17 [some (.ref 170), some (.int x), some (.int y), none] [.int (zI (decide ((0 : Int) ≤ y.toInt ∧ y.toInt ≤ (4 : Int))))] ph
    refine w_bne (ykc_246 (e := (4, .ifCond .ne 5, 22)) rfl) rfl (fun b894 => ?_) (fun b894 => ?_)
    · have db891 := of_decide_eq_true b891
      have db894 := of_decide_eq_true b894
      obtain ⟨p, hp⟩ : ∃ p : Nat, x.toInt = (p : Int) := ⟨x.toInt.toNat, by omega⟩
      obtain rfl := zn_of hp
      obtain ⟨f, hf⟩ : ∃ f : Nat, y.toInt = (f : Int) := ⟨y.toInt.toNat, by omega⟩
      obtain rfl := zn_of hf
      show zW n D 246 Q 22 [some (.ref 170), some (.int (zn p)), some (.int (zn f)), none] [] ph
      refine w_load (pc' := 23) (v := .ref 170) (m := 1) (ykc_246 (e := (2, .aload_n kF0, 0)) rfl) rfl rfl ?_
      refine w_gf (pc' := 26) (v := .ref 174) (ykc_246 (e := (5, .getfield 41, 0)) rfl) rfl (zsg hS zs_170_11) rfl ?_
      refine w_push (pc' := 28) (v := .int ((Int8.ofInt 16).toInt32)) (m := 2) (ykc_246 (e := (1, .bipush 16, 0)) rfl) rfl rfl ?_
      refine w_load (pc' := 29) (v := .int (zn p)) (m := 1) (ykc_246 (e := (2, .iload_n kF1, 0)) rfl) rfl rfl ?_
      have e895 : ((Int8.ofInt 16).toInt32) + (zn p) = zn (16 + p) := (zaddN (a := 16) (b := p) c_0 (znt (by omega)) (by omega)) 
      have te895 := znt (k := 16 + p) (by omega)
      refine w_alu (pc' := 30) (st' := [.int (zn (16 + p)), .ref 174]) (ykc_246 (e := (0, .iadd, 0)) rfl) (by rw [← e895]; rfl) rfl ?_
      have q896 := hO0.1 p (by omega)
      have tq896 := znt (k := v (16 + p)) (by omega)
      refine w_ialk (pc' := 31) (k := 16 + p) (ykc_246 (e := (5, .iaload, 0)) rfl) (zNr0 hv (i := 16 + p) (by omega)) (by omega) rfl ?_
      refine w_store (pc' := 32) (L' := [some (.ref 170), some (.int (zn p)), some (.int (zn f)), some (.int (zn (v (16 + p))))]) (st' := []) (m := 1) (ykc_246 (e := (3, .istore_n kF3, 0)) rfl) rfl rfl ?_
      refine w_load (pc' := 33) (v := .ref 170) (m := 1) (ykc_246 (e := (2, .aload_n kF0, 0)) rfl) rfl rfl ?_
      refine w_gf (pc' := 36) (v := .ref 174) (ykc_246 (e := (5, .getfield 41, 0)) rfl) rfl (zsg hS zs_170_11) rfl ?_
      refine w_push (pc' := 38) (v := .int ((Int8.ofInt 16).toInt32)) (m := 2) (ykc_246 (e := (1, .bipush 16, 0)) rfl) rfl rfl ?_
      refine w_load (pc' := 39) (v := .int (zn p)) (m := 1) (ykc_246 (e := (2, .iload_n kF1, 0)) rfl) rfl rfl ?_
      have e897 : ((Int8.ofInt 16).toInt32) + (zn p) = zn (16 + p) := (zaddN (a := 16) (b := p) c_0 (znt (by omega)) (by omega)) 
      have te897 := znt (k := 16 + p) (by omega)
      refine w_alu (pc' := 40) (st' := [.int (zn (16 + p)), .ref 174]) (ykc_246 (e := (0, .iadd, 0)) rfl) (by rw [← e897]; rfl) rfl ?_
      refine w_load (pc' := 41) (v := .int (zn f)) (m := 1) (ykc_246 (e := (2, .iload_n kF2, 0)) rfl) rfl rfl ?_
      refine w_ias (pc' := 42) (k := 16 + p) (ykc_246 (e := (5, .iastore, 0)) rfl) (by omega) rfl (fun ph899 u898 => ?_)
      refine w_load (pc' := 43) (v := .int (zn (v (16 + p)))) (m := 1) (ykc_246 (e := (2, .iload_n kF3, 0)) rfl) rfl rfl ?_
      refine w_ret (v := (some (.int (zn (v (16 + p)))))) (ykc_246 (e := (7, .ireturn, 0)) rfl) (zr_v rfl) ?_
      rw [hQ]
      exact Or.inr ⟨p, f, rfl, rfl, by omega, by omega, rfl, u898⟩
    · refine w_alu (pc' := 21) (st' := [.int (Int32.ofInt (-1))]) (ykc_246 (e := (0, .iconst (-1), 0)) rfl) rfl rfl ?_
      refine w_ret (v := (some (.int (Int32.ofInt (-1))))) (ykc_246 (e := (7, .ireturn, 0)) rfl) (zr_v rfl) ?_
      have d9 := of_decide_eq_false b894
      rw [hQ]
      exact Or.inl ⟨by omega, rfl, rfl⟩
theorem zm_puts1 {ph : pm_H} {R C P G : Nat} {rk : Nat → Bool} {v : Nat → Nat} (hS : zSh ph) (hL : zMl ph R C rk) (hN : zMp ph P G) (hv : zNr ph 174 0 v) (hO0 : zOk R C P G v) {x y : Int32} : zM 247 [.ref 170, .int x, .int y] ph (fun v0 q => ((x.toInt < 0 ∨ (G : Int) ≤ x.toInt ∨ y.toInt < 0 ∨ ((R * C : Nat) : Int) ≤ y.toInt) ∧ ph = q ∧ v0 = some (.int (Int32.ofInt (-1)))) ∨ (∃ p f, x = zn p ∧ y = zn f ∧ p < G ∧ f < R * C ∧ zst ph q 174 (32 + p) (.int (zn f)) ∧ ((v (32 + p) = f ∧ v0 = some (.int (Int8.ofInt (-2)).toInt32)) ∨ (v (32 + p) ≠ f ∧ v0 = some (.int (zn (v (32 + p)))))))) := by
  obtain ⟨Q, hQ⟩ : ∃ Q : Option Value → pm_H → Prop, Q = (fun v0 q => ((x.toInt < 0 ∨ (G : Int) ≤ x.toInt ∨ y.toInt < 0 ∨ ((R * C : Nat) : Int) ≤ y.toInt) ∧ ph = q ∧ v0 = some (.int (Int32.ofInt (-1)))) ∨ (∃ p f, x = zn p ∧ y = zn f ∧ p < G ∧ f < R * C ∧ zst ph q 174 (32 + p) (.int (zn f)) ∧ ((v (32 + p) = f ∧ v0 = some (.int (Int8.ofInt (-2)).toInt32)) ∨ (v (32 + p) ≠ f ∧ v0 = some (.int (zn (v (32 + p)))))))) := ⟨_, rfl⟩
  rw [← hQ]
  refine zM_mk fun n D => ?_
  show zW n D 247 Q 0 [some (.ref 170), some (.int x), some (.int y), none] [] ph
  have c_0 : ((Int8.ofInt (-2)).toInt32).toInt = -2 := by decide
  have c_1 : ((Int8.ofInt 32).toInt32).toInt = 32 := by decide
  have c_2 : (Int32.ofInt (-1)).toInt = -1 := by decide
  have hL0 := hL
  have hN0 := hN
  have hx0 := x32_lo x
  have hx1 := x32_hi x
  have hy0 := x32_lo y
  have hy1 := x32_hi y
  obtain ⟨gR, gC, gK, hR3, hR7, hC3, hC7⟩ := hL
  have hRC := zRC49 hR7 hC7
  have tR := znt (k := R) (by omega)
  have tC := znt (k := C) (by omega)
  obtain ⟨gP, hP8, gG, hG8⟩ := hN
  have tP := znt (k := P) (by omega)
  have tG := znt (k := G) (by omega)
  refine w_load (pc' := 1) (v := .ref 170) (m := 1) (ykc_247 (e := (2, .aload_n kF0, 0)) rfl) rfl rfl ?_
  refine w_load (pc' := 2) (v := .int x) (m := 1) (ykc_247 (e := (2, .iload_n kF1, 0)) rfl) rfl rfl ?_
  refine w_cv (as := [.ref 170, .int x]) (r := []) (ykc_247 (e := (6, .invokevirtual 327, 0)) rfl) rfl rfl rfl rfl (zm_isThing hN0 (t := x)) (fun v900 ph901 hv => ?_)
  obtain ⟨rfl, rfl⟩ := hv
  show zW n D 247 Q 5 [some (.ref 170), some (.int x), some (.int y), none] [.int (zI (decide (0 ≤ x.toInt ∧ x.toInt < ((G : Nat) : Int))))] ph
  refine w_beq (ykc_247 (e := (4, .ifCond .eq 11, 16)) rfl) rfl (fun b902 => ?_) (fun b902 => ?_)
  · refine w_alu (pc' := 17) (st' := [.int (Int32.ofInt (-1))]) (ykc_247 (e := (0, .iconst (-1), 0)) rfl) rfl rfl ?_
    refine w_ret (v := (some (.int (Int32.ofInt (-1))))) (ykc_247 (e := (7, .ireturn, 0)) rfl) (zr_v rfl) ?_
    have d9 := of_decide_eq_false b902
    rw [hQ]
    exact Or.inl ⟨by omega, rfl, rfl⟩
  · refine w_load (pc' := 9) (v := .ref 170) (m := 1) (ykc_247 (e := (2, .aload_n kF0, 0)) rfl) rfl rfl ?_
    refine w_load (pc' := 10) (v := .int y) (m := 1) (ykc_247 (e := (2, .iload_n kF2, 0)) rfl) rfl rfl ?_
    refine w_cv (as := [.ref 170, .int y]) (r := []) (ykc_247 (e := (6, .invokevirtual 358, 0)) rfl) rfl rfl rfl rfl (zm_isField hS hL0 (f := y)) (fun v903 ph904 hv => ?_)
    obtain ⟨rfl, rfl⟩ := hv
    show zW n D 247 Q 13 [some (.ref 170), some (.int x), some (.int y), none] [.int (zI (decide (0 ≤ y.toInt ∧ y.toInt < ((R * C : Nat) : Int))))] ph
    refine w_bne (ykc_247 (e := (4, .ifCond .ne 5, 18)) rfl) rfl (fun b905 => ?_) (fun b905 => ?_)
    · have db902 := of_decide_eq_true b902
      have db905 := of_decide_eq_true b905
      obtain ⟨p, hp⟩ : ∃ p : Nat, x.toInt = (p : Int) := ⟨x.toInt.toNat, by omega⟩
      obtain rfl := zn_of hp
      obtain ⟨f, hf⟩ : ∃ f : Nat, y.toInt = (f : Int) := ⟨y.toInt.toNat, by omega⟩
      obtain rfl := zn_of hf
      show zW n D 247 Q 18 [some (.ref 170), some (.int (zn p)), some (.int (zn f)), none] [] ph
      refine w_load (pc' := 19) (v := .ref 170) (m := 1) (ykc_247 (e := (2, .aload_n kF0, 0)) rfl) rfl rfl ?_
      refine w_gf (pc' := 22) (v := .ref 174) (ykc_247 (e := (5, .getfield 41, 0)) rfl) rfl (zsg hS zs_170_11) rfl ?_
      refine w_push (pc' := 24) (v := .int ((Int8.ofInt 32).toInt32)) (m := 2) (ykc_247 (e := (1, .bipush 32, 0)) rfl) rfl rfl ?_
      refine w_load (pc' := 25) (v := .int (zn p)) (m := 1) (ykc_247 (e := (2, .iload_n kF1, 0)) rfl) rfl rfl ?_
      have e906 : ((Int8.ofInt 32).toInt32) + (zn p) = zn (32 + p) := (zaddN (a := 32) (b := p) c_1 (znt (by omega)) (by omega)) 
      have te906 := znt (k := 32 + p) (by omega)
      refine w_alu (pc' := 26) (st' := [.int (zn (32 + p)), .ref 174]) (ykc_247 (e := (0, .iadd, 0)) rfl) (by rw [← e906]; rfl) rfl ?_
      have q907 := hO0.2.1 p (by omega)
      have tq907 := znt (k := v (32 + p)) (by omega)
      refine w_ialk (pc' := 27) (k := 32 + p) (ykc_247 (e := (5, .iaload, 0)) rfl) (zNr0 hv (i := 32 + p) (by omega)) (by omega) rfl ?_
      refine w_store (pc' := 28) (L' := [some (.ref 170), some (.int (zn p)), some (.int (zn f)), some (.int (zn (v (32 + p))))]) (st' := []) (m := 1) (ykc_247 (e := (3, .istore_n kF3, 0)) rfl) rfl rfl ?_
      refine w_load (pc' := 29) (v := .ref 170) (m := 1) (ykc_247 (e := (2, .aload_n kF0, 0)) rfl) rfl rfl ?_
      refine w_gf (pc' := 32) (v := .ref 174) (ykc_247 (e := (5, .getfield 41, 0)) rfl) rfl (zsg hS zs_170_11) rfl ?_
      refine w_push (pc' := 34) (v := .int ((Int8.ofInt 32).toInt32)) (m := 2) (ykc_247 (e := (1, .bipush 32, 0)) rfl) rfl rfl ?_
      refine w_load (pc' := 35) (v := .int (zn p)) (m := 1) (ykc_247 (e := (2, .iload_n kF1, 0)) rfl) rfl rfl ?_
      have e908 : ((Int8.ofInt 32).toInt32) + (zn p) = zn (32 + p) := (zaddN (a := 32) (b := p) c_1 (znt (by omega)) (by omega)) 
      have te908 := znt (k := 32 + p) (by omega)
      refine w_alu (pc' := 36) (st' := [.int (zn (32 + p)), .ref 174]) (ykc_247 (e := (0, .iadd, 0)) rfl) (by rw [← e908]; rfl) rfl ?_
      refine w_load (pc' := 37) (v := .int (zn f)) (m := 1) (ykc_247 (e := (2, .iload_n kF2, 0)) rfl) rfl rfl ?_
      refine w_ias (pc' := 38) (k := 32 + p) (ykc_247 (e := (5, .iastore, 0)) rfl) (by omega) rfl (fun ph910 u909 => ?_)
      refine w_load (pc' := 39) (v := .int (zn (v (32 + p)))) (m := 1) (ykc_247 (e := (2, .iload_n kF3, 0)) rfl) rfl rfl ?_
      refine w_load (pc' := 40) (v := .int (zn f)) (m := 1) (ykc_247 (e := (2, .iload_n kF2, 0)) rfl) rfl rfl ?_
      refine w_ine (ykc_247 (e := (4, .if_icmp .ne 8, 48)) rfl) rfl (fun b911 => ?_) (fun b911 => ?_)
      · refine w_load (pc' := 49) (v := .int (zn (v (32 + p)))) (m := 1) (ykc_247 (e := (2, .iload_n kF3, 0)) rfl) rfl rfl ?_
        refine w_ret (v := (some (.int (zn (v (32 + p)))))) (ykc_247 (e := (7, .ireturn, 0)) rfl) (zr_v rfl) ?_
        rw [hQ]
        exact Or.inr ⟨p, f, rfl, rfl, by omega, by omega, u909, Or.inr ⟨by omega, rfl⟩⟩
      · refine w_push (pc' := 45) (v := .int ((Int8.ofInt (-2)).toInt32)) (m := 2) (ykc_247 (e := (1, .bipush (-2), 0)) rfl) rfl rfl ?_
        refine w_br (pc' := 49) (st' := [.int ((Int8.ofInt (-2)).toInt32)]) (ykc_247 (e := (4, .goto 4, 49)) rfl) rfl ?_
        refine w_ret (v := (some (.int ((Int8.ofInt (-2)).toInt32)))) (ykc_247 (e := (7, .ireturn, 0)) rfl) (zr_v rfl) ?_
        rw [hQ]
        exact Or.inr ⟨p, f, rfl, rfl, by omega, by omega, u909, Or.inl ⟨by omega, rfl⟩⟩
    · refine w_alu (pc' := 17) (st' := [.int (Int32.ofInt (-1))]) (ykc_247 (e := (0, .iconst (-1), 0)) rfl) rfl rfl ?_
      refine w_ret (v := (some (.int (Int32.ofInt (-1))))) (ykc_247 (e := (7, .ireturn, 0)) rfl) (zr_v rfl) ?_
      have d9 := of_decide_eq_false b905
      rw [hQ]
      exact Or.inl ⟨by omega, rfl, rfl⟩
theorem zc_isWay {y : Int32} {ph : pm_H} : zM 146 [.int y] ph (fun v0 q => ph = q ∧ v0 = some (.int (zI (decide (0 ≤ y.toInt ∧ y.toInt < 8))))) := by
  obtain ⟨Q, hQ⟩ : ∃ Q : Option Value → pm_H → Prop, Q = (fun v0 q => ph = q ∧ v0 = some (.int (zI (decide (0 ≤ y.toInt ∧ y.toInt < 8))))) := ⟨_, rfl⟩
  rw [← hQ]
  refine zM_mk fun n D => ?_
  show zW n D 146 Q 0 [some (.int y)] [] ph
  have c_0 : ((Int8.ofInt 8).toInt32).toInt = 8 := by decide
  have c_1 : (Int32.ofInt 0).toInt = 0 := by decide
  have c_2 : (Int32.ofInt 1).toInt = 1 := by decide
  refine w_load (pc' := 1) (v := .int y) (m := 1) (ykc_146 (e := (2, .iload_n kF0, 0)) rfl) rfl rfl ?_
  refine w_zlt (ykc_146 (e := (4, .ifCond .lt 13, 14)) rfl) rfl (fun b912 => ?_) (fun b912 => ?_)
  · refine w_alu (pc' := 15) (st' := [.int (Int32.ofInt 0)]) (ykc_146 (e := (0, .iconst 0, 0)) rfl) rfl rfl ?_
    refine w_ret (v := (some (.int (Int32.ofInt 0)))) (ykc_146 (e := (7, .ireturn, 0)) rfl) zr_z ?_
    rw [hQ, zi0]
    exact ⟨rfl, zvB ((decide_eq_false (by omega)).symm)⟩
  · refine w_load (pc' := 5) (v := .int y) (m := 1) (ykc_146 (e := (2, .iload_n kF0, 0)) rfl) rfl rfl ?_
    refine w_push (pc' := 7) (v := .int ((Int8.ofInt 8).toInt32)) (m := 2) (ykc_146 (e := (1, .bipush 8, 0)) rfl) rfl rfl ?_
    refine w_ige (ykc_146 (e := (4, .if_icmp .ge 7, 14)) rfl) rfl (fun b913 => ?_) (fun b913 => ?_)
    · refine w_alu (pc' := 15) (st' := [.int (Int32.ofInt 0)]) (ykc_146 (e := (0, .iconst 0, 0)) rfl) rfl rfl ?_
      refine w_ret (v := (some (.int (Int32.ofInt 0)))) (ykc_146 (e := (7, .ireturn, 0)) rfl) zr_z ?_
      rw [hQ, zi0]
      exact ⟨rfl, zvB ((decide_eq_false (by omega)).symm)⟩
    · refine w_alu (pc' := 11) (st' := [.int (Int32.ofInt 1)]) (ykc_146 (e := (0, .iconst 1, 0)) rfl) rfl rfl ?_
      refine w_br (pc' := 15) (st' := [.int (Int32.ofInt 1)]) (ykc_146 (e := (4, .goto 4, 15)) rfl) rfl ?_
      refine w_ret (v := (some (.int (Int32.ofInt 1)))) (ykc_146 (e := (7, .ireturn, 0)) rfl) zr_z ?_
      rw [hQ, zi1]
      exact ⟨rfl, zvB ((decide_eq_true (by omega)).symm)⟩
theorem zc_turnTo {ph : pm_H} {R C P G : Nat} {rk : Nat → Bool} {v : Nat → Nat} (hS : zSh ph) (hL : zCl ph R C rk) (hd : zSd ph 25 P G v) (hO0 : zOk R C P G v) {x y : Int32} : zM 142 [.ref 0, .int x, .int y] ph (fun v0 q => ((x.toInt < 0 ∨ (P : Int) ≤ x.toInt ∨ y.toInt < 0 ∨ 8 ≤ y.toInt) ∧ ph = q ∧ v0 = some (.int (Int32.ofInt (-1)))) ∨ (∃ p f, x = zn p ∧ y = zn f ∧ p < P ∧ f < 8 ∧ v0 = some (.int (zn (ze8 (v (8 + p)) f))) ∧ zst ph q 27 p (.int (zn f)))) := by
  obtain ⟨Q, hQ⟩ : ∃ Q : Option Value → pm_H → Prop, Q = (fun v0 q => ((x.toInt < 0 ∨ (P : Int) ≤ x.toInt ∨ y.toInt < 0 ∨ 8 ≤ y.toInt) ∧ ph = q ∧ v0 = some (.int (Int32.ofInt (-1)))) ∨ (∃ p f, x = zn p ∧ y = zn f ∧ p < P ∧ f < 8 ∧ v0 = some (.int (zn (ze8 (v (8 + p)) f))) ∧ zst ph q 27 p (.int (zn f)))) := ⟨_, rfl⟩
  rw [← hQ]
  refine zM_mk fun n D => ?_
  show zW n D 142 Q 0 [some (.ref 0), some (.int x), some (.int y), none] [] ph
  have c_0 : (Int32.ofInt (-1)).toInt = -1 := by decide
  have hL0 := hL
  have hs : zSs ph 25 := zSs_of hS (by decide)
  have hx0 := x32_lo x
  have hx1 := x32_hi x
  have hy0 := x32_lo y
  have hy1 := x32_hi y
  obtain ⟨gR, gC, gN, gK, gA, hR3, hR7, hC3, hC7⟩ := hL
  have hRC := zRC49 hR7 hC7
  have tR := znt (k := R) (by omega)
  have tC := znt (k := C) (by omega)
  have tRC := znt (k := R * C) (by omega)
  have hdK := hd
  obtain ⟨gP, hP8, gG, hG8, gH, gv, gw⟩ := hd
  have tP := znt (k := P) (by omega)
  have tG := znt (k := G) (by omega)
  refine w_load (pc' := 1) (v := .ref 0) (m := 1) (ykc_142 (e := (2, .aload_n kF0, 0)) rfl) rfl rfl ?_
  refine w_gf (pc' := 4) (v := .ref 25) (ykc_142 (e := (5, .getfield 42, 0)) rfl) rfl (zsg hS zs_0_4) rfl ?_
  refine w_load (pc' := 5) (v := .int x) (m := 1) (ykc_142 (e := (2, .iload_n kF1, 0)) rfl) rfl rfl ?_
  refine w_cv (as := [.ref 25, .int x]) (r := []) (ykc_142 (e := (6, .invokevirtual 167, 0)) rfl) rfl rfl rfl rfl (zc_hasP hs hdK (i := x)) (fun v914 ph915 hv => ?_)
  obtain ⟨rfl, rfl⟩ := hv
  show zW n D 142 Q 8 [some (.ref 0), some (.int x), some (.int y), none] [.int (zI (decide (0 ≤ x.toInt ∧ x.toInt < ((P : Nat) : Int))))] ph
  refine w_beq (ykc_142 (e := (4, .ifCond .eq 10, 18)) rfl) rfl (fun b916 => ?_) (fun b916 => ?_)
  · refine w_alu (pc' := 19) (st' := [.int (Int32.ofInt (-1))]) (ykc_142 (e := (0, .iconst (-1), 0)) rfl) rfl rfl ?_
    refine w_ret (v := (some (.int (Int32.ofInt (-1))))) (ykc_142 (e := (7, .ireturn, 0)) rfl) (zr_v rfl) ?_
    have d9 := of_decide_eq_false b916
    rw [hQ]
    exact Or.inl ⟨by omega, rfl, rfl⟩
  · refine w_load (pc' := 12) (v := .int y) (m := 1) (ykc_142 (e := (2, .iload_n kF2, 0)) rfl) rfl rfl ?_
    refine w_cs (as := [.int y]) (r := []) (ykc_142 (e := (6, .invokestatic 293, 0)) rfl) rfl rfl rfl rfl (zc_isWay (y := y)) (fun v917 ph918 hv => ?_)
    obtain ⟨rfl, rfl⟩ := hv
    show zW n D 142 Q 15 [some (.ref 0), some (.int x), some (.int y), none] [.int (zI (decide (0 ≤ y.toInt ∧ y.toInt < 8)))] ph
    refine w_bne (ykc_142 (e := (4, .ifCond .ne 5, 20)) rfl) rfl (fun b919 => ?_) (fun b919 => ?_)
    · have db916 := of_decide_eq_true b916
      have db919 := of_decide_eq_true b919
      obtain ⟨p, hp⟩ : ∃ p : Nat, x.toInt = (p : Int) := ⟨x.toInt.toNat, by omega⟩
      obtain rfl := zn_of hp
      obtain ⟨f, hf⟩ : ∃ f : Nat, y.toInt = (f : Int) := ⟨y.toInt.toNat, by omega⟩
      obtain rfl := zn_of hf
      show zW n D 142 Q 20 [some (.ref 0), some (.int (zn p)), some (.int (zn f)), none] [] ph
      refine w_load (pc' := 21) (v := .ref 0) (m := 1) (ykc_142 (e := (2, .aload_n kF0, 0)) rfl) rfl rfl ?_
      refine w_gf (pc' := 24) (v := .ref 25) (ykc_142 (e := (5, .getfield 42, 0)) rfl) rfl (zsg hS zs_0_4) rfl ?_
      refine w_gf (pc' := 27) (v := .ref 27) (ykc_142 (e := (5, .getfield 177, 0)) rfl) rfl (zsg hS zs_25_4) rfl ?_
      refine w_load (pc' := 28) (v := .int (zn p)) (m := 1) (ykc_142 (e := (2, .iload_n kF1, 0)) rfl) rfl rfl ?_
      have q920 := hO0.1 p (by omega)
      have tq920 := znt (k := v (8 + p)) (by omega)
      refine w_ialk (pc' := 29) (k := p) (ykc_142 (e := (5, .iaload, 0)) rfl) (gv p (by omega)).2.1 (by omega) rfl ?_
      refine w_load (pc' := 30) (v := .int (zn f)) (m := 1) (ykc_142 (e := (2, .iload_n kF2, 0)) rfl) rfl rfl ?_
      refine w_cs (as := [.int (zn (v (8 + p))), .int (zn f)]) (r := []) (ykc_142 (e := (6, .invokestatic 296, 0)) rfl) rfl rfl rfl rfl (zc_e8 (a := v (8 + p)) (b := f) (by omega) (by omega)) (fun v921 ph922 hv => ?_)
      obtain ⟨rfl, rfl⟩ := hv
      have te := znt (k := ze8 (v (8 + p)) f) (by unfold ze8; omega)
      show zW n D 142 Q 33 [some (.ref 0), some (.int (zn p)), some (.int (zn f)), none] [.int (zn (ze8 (v (8 + p)) f))] ph
      refine w_store (pc' := 34) (L' := [some (.ref 0), some (.int (zn p)), some (.int (zn f)), some (.int (zn (ze8 (v (8 + p)) f)))]) (st' := []) (m := 1) (ykc_142 (e := (3, .istore_n kF3, 0)) rfl) rfl rfl ?_
      refine w_load (pc' := 35) (v := .ref 0) (m := 1) (ykc_142 (e := (2, .aload_n kF0, 0)) rfl) rfl rfl ?_
      refine w_gf (pc' := 38) (v := .ref 25) (ykc_142 (e := (5, .getfield 42, 0)) rfl) rfl (zsg hS zs_0_4) rfl ?_
      refine w_gf (pc' := 41) (v := .ref 27) (ykc_142 (e := (5, .getfield 177, 0)) rfl) rfl (zsg hS zs_25_4) rfl ?_
      refine w_load (pc' := 42) (v := .int (zn p)) (m := 1) (ykc_142 (e := (2, .iload_n kF1, 0)) rfl) rfl rfl ?_
      refine w_load (pc' := 43) (v := .int (zn f)) (m := 1) (ykc_142 (e := (2, .iload_n kF2, 0)) rfl) rfl rfl ?_
      refine w_ias (pc' := 44) (k := p) (ykc_142 (e := (5, .iastore, 0)) rfl) (by omega) rfl (fun ph924 u923 => ?_)
      refine w_load (pc' := 45) (v := .int (zn (ze8 (v (8 + p)) f))) (m := 1) (ykc_142 (e := (2, .iload_n kF3, 0)) rfl) rfl rfl ?_
      refine w_ret (v := (some (.int (zn (ze8 (v (8 + p)) f))))) (ykc_142 (e := (7, .ireturn, 0)) rfl) (zr_v rfl) ?_
      rw [hQ]
      exact Or.inr ⟨p, f, rfl, rfl, by omega, by omega, rfl, u923⟩
    · refine w_alu (pc' := 19) (st' := [.int (Int32.ofInt (-1))]) (ykc_142 (e := (0, .iconst (-1), 0)) rfl) rfl rfl ?_
      refine w_ret (v := (some (.int (Int32.ofInt (-1))))) (ykc_142 (e := (7, .ireturn, 0)) rfl) (zr_v rfl) ?_
      have d9 := of_decide_eq_false b919
      rw [hQ]
      exact Or.inl ⟨by omega, rfl, rfl⟩
theorem zc_trimTo {ph : pm_H} {R C P G : Nat} {rk : Nat → Bool} {v : Nat → Nat} (hS : zSh ph) (hL : zCl ph R C rk) (hd : zSd ph 25 P G v) (hO0 : zOk R C P G v) {x y : Int32} : zM 144 [.ref 0, .int x, .int y] ph (fun v0 q => ((x.toInt < 0 ∨ (P : Int) ≤ x.toInt ∨ y.toInt < 0 ∨ 5 ≤ y.toInt) ∧ ph = q ∧ v0 = some (.int (Int32.ofInt (-1)))) ∨ (∃ p f, x = zn p ∧ y = zn f ∧ p < P ∧ f ≤ 4 ∧ v0 = some (.int (zn (v (16 + p)))) ∧ zst ph q 28 p (.int (zn f)))) := by
  obtain ⟨Q, hQ⟩ : ∃ Q : Option Value → pm_H → Prop, Q = (fun v0 q => ((x.toInt < 0 ∨ (P : Int) ≤ x.toInt ∨ y.toInt < 0 ∨ 5 ≤ y.toInt) ∧ ph = q ∧ v0 = some (.int (Int32.ofInt (-1)))) ∨ (∃ p f, x = zn p ∧ y = zn f ∧ p < P ∧ f ≤ 4 ∧ v0 = some (.int (zn (v (16 + p)))) ∧ zst ph q 28 p (.int (zn f)))) := ⟨_, rfl⟩
  rw [← hQ]
  refine zM_mk fun n D => ?_
  show zW n D 144 Q 0 [some (.ref 0), some (.int x), some (.int y), none] [] ph
  have c_0 : (Int32.ofInt (-1)).toInt = -1 := by decide
  have c_1 : (Int32.ofInt 4).toInt = 4 := by decide
  have hL0 := hL
  have hs : zSs ph 25 := zSs_of hS (by decide)
  have hx0 := x32_lo x
  have hx1 := x32_hi x
  have hy0 := x32_lo y
  have hy1 := x32_hi y
  obtain ⟨gR, gC, gN, gK, gA, hR3, hR7, hC3, hC7⟩ := hL
  have hRC := zRC49 hR7 hC7
  have tR := znt (k := R) (by omega)
  have tC := znt (k := C) (by omega)
  have tRC := znt (k := R * C) (by omega)
  have hdK := hd
  obtain ⟨gP, hP8, gG, hG8, gH, gv, gw⟩ := hd
  have tP := znt (k := P) (by omega)
  have tG := znt (k := G) (by omega)
  refine w_load (pc' := 1) (v := .ref 0) (m := 1) (ykc_144 (e := (2, .aload_n kF0, 0)) rfl) rfl rfl ?_
  refine w_gf (pc' := 4) (v := .ref 25) (ykc_144 (e := (5, .getfield 42, 0)) rfl) rfl (zsg hS zs_0_4) rfl ?_
  refine w_load (pc' := 5) (v := .int x) (m := 1) (ykc_144 (e := (2, .iload_n kF1, 0)) rfl) rfl rfl ?_
  refine w_cv (as := [.ref 25, .int x]) (r := []) (ykc_144 (e := (6, .invokevirtual 167, 0)) rfl) rfl rfl rfl rfl (zc_hasP hs hdK (i := x)) (fun v925 ph926 hv => ?_)
  obtain ⟨rfl, rfl⟩ := hv
  show zW n D 144 Q 8 [some (.ref 0), some (.int x), some (.int y), none] [.int (zI (decide (0 ≤ x.toInt ∧ x.toInt < ((P : Nat) : Int))))] ph
  refine w_beq (ykc_144 (e := (4, .ifCond .eq 12, 20)) rfl) rfl (fun b927 => ?_) (fun b927 => ?_)
  · refine w_alu (pc' := 21) (st' := [.int (Int32.ofInt (-1))]) (ykc_144 (e := (0, .iconst (-1), 0)) rfl) rfl rfl ?_
    refine w_ret (v := (some (.int (Int32.ofInt (-1))))) (ykc_144 (e := (7, .ireturn, 0)) rfl) (zr_v rfl) ?_
    have d9 := of_decide_eq_false b927
    rw [hQ]
    exact Or.inl ⟨by omega, rfl, rfl⟩
  · refine w_load (pc' := 12) (v := .int y) (m := 1) (ykc_144 (e := (2, .iload_n kF2, 0)) rfl) rfl rfl ?_
    refine w_zlt (ykc_144 (e := (4, .ifCond .lt 8, 20)) rfl) rfl (fun b928 => ?_) (fun b928 => ?_)
    · refine w_alu (pc' := 21) (st' := [.int (Int32.ofInt (-1))]) (ykc_144 (e := (0, .iconst (-1), 0)) rfl) rfl rfl ?_
      refine w_ret (v := (some (.int (Int32.ofInt (-1))))) (ykc_144 (e := (7, .ireturn, 0)) rfl) (zr_v rfl) ?_
      rw [hQ]
      exact Or.inl ⟨by omega, rfl, rfl⟩
    · refine w_load (pc' := 16) (v := .int y) (m := 1) (ykc_144 (e := (2, .iload_n kF2, 0)) rfl) rfl rfl ?_
      refine w_alu (pc' := 17) (st' := [.int (Int32.ofInt 4), .int y]) (ykc_144 (e := (0, .iconst 4, 0)) rfl) rfl rfl ?_
      refine w_ile (ykc_144 (e := (4, .if_icmp .le 5, 22)) rfl) rfl (fun b929 => ?_) (fun b929 => ?_)
      · have db927 := of_decide_eq_true b927
        obtain ⟨p, hp⟩ : ∃ p : Nat, x.toInt = (p : Int) := ⟨x.toInt.toNat, by omega⟩
        obtain rfl := zn_of hp
        obtain ⟨f, hf⟩ : ∃ f : Nat, y.toInt = (f : Int) := ⟨y.toInt.toNat, by omega⟩
        obtain rfl := zn_of hf
        show zW n D 144 Q 22 [some (.ref 0), some (.int (zn p)), some (.int (zn f)), none] [] ph
        refine w_load (pc' := 23) (v := .ref 0) (m := 1) (ykc_144 (e := (2, .aload_n kF0, 0)) rfl) rfl rfl ?_
        refine w_gf (pc' := 26) (v := .ref 25) (ykc_144 (e := (5, .getfield 42, 0)) rfl) rfl (zsg hS zs_0_4) rfl ?_
        refine w_gf (pc' := 29) (v := .ref 28) (ykc_144 (e := (5, .getfield 180, 0)) rfl) rfl (zsg hS zs_25_5) rfl ?_
        refine w_load (pc' := 30) (v := .int (zn p)) (m := 1) (ykc_144 (e := (2, .iload_n kF1, 0)) rfl) rfl rfl ?_
        have q930 := hO0.1 p (by omega)
        have tq930 := znt (k := v (16 + p)) (by omega)
        refine w_ialk (pc' := 31) (k := p) (ykc_144 (e := (5, .iaload, 0)) rfl) (gv p (by omega)).2.2.1 (by omega) rfl ?_
        refine w_store (pc' := 32) (L' := [some (.ref 0), some (.int (zn p)), some (.int (zn f)), some (.int (zn (v (16 + p))))]) (st' := []) (m := 1) (ykc_144 (e := (3, .istore_n kF3, 0)) rfl) rfl rfl ?_
        refine w_load (pc' := 33) (v := .ref 0) (m := 1) (ykc_144 (e := (2, .aload_n kF0, 0)) rfl) rfl rfl ?_
        refine w_gf (pc' := 36) (v := .ref 25) (ykc_144 (e := (5, .getfield 42, 0)) rfl) rfl (zsg hS zs_0_4) rfl ?_
        refine w_gf (pc' := 39) (v := .ref 28) (ykc_144 (e := (5, .getfield 180, 0)) rfl) rfl (zsg hS zs_25_5) rfl ?_
        refine w_load (pc' := 40) (v := .int (zn p)) (m := 1) (ykc_144 (e := (2, .iload_n kF1, 0)) rfl) rfl rfl ?_
        refine w_load (pc' := 41) (v := .int (zn f)) (m := 1) (ykc_144 (e := (2, .iload_n kF2, 0)) rfl) rfl rfl ?_
        refine w_ias (pc' := 42) (k := p) (ykc_144 (e := (5, .iastore, 0)) rfl) (by omega) rfl (fun ph932 u931 => ?_)
        refine w_load (pc' := 43) (v := .int (zn (v (16 + p)))) (m := 1) (ykc_144 (e := (2, .iload_n kF3, 0)) rfl) rfl rfl ?_
        refine w_ret (v := (some (.int (zn (v (16 + p)))))) (ykc_144 (e := (7, .ireturn, 0)) rfl) (zr_v rfl) ?_
        rw [hQ]
        exact Or.inr ⟨p, f, rfl, rfl, by omega, by omega, rfl, u931⟩
      · refine w_alu (pc' := 21) (st' := [.int (Int32.ofInt (-1))]) (ykc_144 (e := (0, .iconst (-1), 0)) rfl) rfl rfl ?_
        refine w_ret (v := (some (.int (Int32.ofInt (-1))))) (ykc_144 (e := (7, .ireturn, 0)) rfl) (zr_v rfl) ?_
        rw [hQ]
        exact Or.inl ⟨by omega, rfl, rfl⟩
theorem zc_putOn {ph : pm_H} {R C P G : Nat} {rk : Nat → Bool} {v : Nat → Nat} (hS : zSh ph) (hL : zCl ph R C rk) (hd : zSd ph 25 P G v) (hO0 : zOk R C P G v) {x y : Int32} : zM 145 [.ref 0, .int x, .int y] ph (fun v0 q => ((x.toInt < 0 ∨ (G : Int) ≤ x.toInt ∨ y.toInt < 0 ∨ ((R * C : Nat) : Int) ≤ y.toInt) ∧ ph = q ∧ v0 = some (.int (Int32.ofInt (-1)))) ∨ (∃ p f, x = zn p ∧ y = zn f ∧ p < G ∧ f < R * C ∧ ((v (32 + p) = f ∧ ph = q ∧ v0 = some (.int (Int8.ofInt (-2)).toInt32)) ∨ (v (32 + p) ≠ f ∧ v0 = some (.int (zn (v (32 + p)))) ∧ zst ph q 30 p (.int (zn f)))))) := by
  obtain ⟨Q, hQ⟩ : ∃ Q : Option Value → pm_H → Prop, Q = (fun v0 q => ((x.toInt < 0 ∨ (G : Int) ≤ x.toInt ∨ y.toInt < 0 ∨ ((R * C : Nat) : Int) ≤ y.toInt) ∧ ph = q ∧ v0 = some (.int (Int32.ofInt (-1)))) ∨ (∃ p f, x = zn p ∧ y = zn f ∧ p < G ∧ f < R * C ∧ ((v (32 + p) = f ∧ ph = q ∧ v0 = some (.int (Int8.ofInt (-2)).toInt32)) ∨ (v (32 + p) ≠ f ∧ v0 = some (.int (zn (v (32 + p)))) ∧ zst ph q 30 p (.int (zn f)))))) := ⟨_, rfl⟩
  rw [← hQ]
  refine zM_mk fun n D => ?_
  show zW n D 145 Q 0 [some (.ref 0), some (.int x), some (.int y), none] [] ph
  have c_0 : ((Int8.ofInt (-2)).toInt32).toInt = -2 := by decide
  have c_1 : (Int32.ofInt (-1)).toInt = -1 := by decide
  have hL0 := hL
  have hs : zSs ph 25 := zSs_of hS (by decide)
  have hx0 := x32_lo x
  have hx1 := x32_hi x
  have hy0 := x32_lo y
  have hy1 := x32_hi y
  obtain ⟨gR, gC, gN, gK, gA, hR3, hR7, hC3, hC7⟩ := hL
  have hRC := zRC49 hR7 hC7
  have tR := znt (k := R) (by omega)
  have tC := znt (k := C) (by omega)
  have tRC := znt (k := R * C) (by omega)
  have hdK := hd
  obtain ⟨gP, hP8, gG, hG8, gH, gv, gw⟩ := hd
  have tP := znt (k := P) (by omega)
  have tG := znt (k := G) (by omega)
  refine w_load (pc' := 1) (v := .ref 0) (m := 1) (ykc_145 (e := (2, .aload_n kF0, 0)) rfl) rfl rfl ?_
  refine w_gf (pc' := 4) (v := .ref 25) (ykc_145 (e := (5, .getfield 42, 0)) rfl) rfl (zsg hS zs_0_4) rfl ?_
  refine w_load (pc' := 5) (v := .int x) (m := 1) (ykc_145 (e := (2, .iload_n kF1, 0)) rfl) rfl rfl ?_
  refine w_cv (as := [.ref 25, .int x]) (r := []) (ykc_145 (e := (6, .invokevirtual 198, 0)) rfl) rfl rfl rfl rfl (zc_hasT hs hdK (i := x)) (fun v933 ph934 hv => ?_)
  obtain ⟨rfl, rfl⟩ := hv
  show zW n D 145 Q 8 [some (.ref 0), some (.int x), some (.int y), none] [.int (zI (decide (0 ≤ x.toInt ∧ x.toInt < ((G : Nat) : Int))))] ph
  refine w_beq (ykc_145 (e := (4, .ifCond .eq 14, 22)) rfl) rfl (fun b935 => ?_) (fun b935 => ?_)
  · refine w_alu (pc' := 23) (st' := [.int (Int32.ofInt (-1))]) (ykc_145 (e := (0, .iconst (-1), 0)) rfl) rfl rfl ?_
    refine w_ret (v := (some (.int (Int32.ofInt (-1))))) (ykc_145 (e := (7, .ireturn, 0)) rfl) (zr_v rfl) ?_
    have d9 := of_decide_eq_false b935
    rw [hQ]
    exact Or.inl ⟨by omega, rfl, rfl⟩
  · refine w_load (pc' := 12) (v := .ref 0) (m := 1) (ykc_145 (e := (2, .aload_n kF0, 0)) rfl) rfl rfl ?_
    refine w_gf (pc' := 15) (v := .ref 5) (ykc_145 (e := (5, .getfield 26, 0)) rfl) rfl (zsg hS zs_0_2) rfl ?_
    refine w_load (pc' := 16) (v := .int y) (m := 1) (ykc_145 (e := (2, .iload_n kF2, 0)) rfl) rfl rfl ?_
    refine w_cv (as := [.ref 5, .int y]) (r := []) (ykc_145 (e := (6, .invokevirtual 302, 0)) rfl) rfl rfl rfl rfl (zc_holds hS hL0 (f := y)) (fun v936 ph937 hv => ?_)
    obtain ⟨rfl, rfl⟩ := hv
    show zW n D 145 Q 19 [some (.ref 0), some (.int x), some (.int y), none] [.int (zI (decide (0 ≤ y.toInt ∧ y.toInt < ((R * C : Nat) : Int))))] ph
    refine w_bne (ykc_145 (e := (4, .ifCond .ne 5, 24)) rfl) rfl (fun b938 => ?_) (fun b938 => ?_)
    · have db935 := of_decide_eq_true b935
      have db938 := of_decide_eq_true b938
      obtain ⟨p, hp⟩ : ∃ p : Nat, x.toInt = (p : Int) := ⟨x.toInt.toNat, by omega⟩
      obtain rfl := zn_of hp
      obtain ⟨f, hf⟩ : ∃ f : Nat, y.toInt = (f : Int) := ⟨y.toInt.toNat, by omega⟩
      obtain rfl := zn_of hf
      show zW n D 145 Q 24 [some (.ref 0), some (.int (zn p)), some (.int (zn f)), none] [] ph
      refine w_load (pc' := 25) (v := .ref 0) (m := 1) (ykc_145 (e := (2, .aload_n kF0, 0)) rfl) rfl rfl ?_
      refine w_gf (pc' := 28) (v := .ref 25) (ykc_145 (e := (5, .getfield 42, 0)) rfl) rfl (zsg hS zs_0_4) rfl ?_
      refine w_gf (pc' := 31) (v := .ref 30) (ykc_145 (e := (5, .getfield 201, 0)) rfl) rfl (zsg hS zs_25_7) rfl ?_
      refine w_load (pc' := 32) (v := .int (zn p)) (m := 1) (ykc_145 (e := (2, .iload_n kF1, 0)) rfl) rfl rfl ?_
      have q939 := hO0.2.1 p (by omega)
      have tq939 := znt (k := v (32 + p)) (by omega)
      refine w_ialk (pc' := 33) (k := p) (ykc_145 (e := (5, .iaload, 0)) rfl) (gw p (by omega)) (by omega) rfl ?_
      refine w_store (pc' := 34) (L' := [some (.ref 0), some (.int (zn p)), some (.int (zn f)), some (.int (zn (v (32 + p))))]) (st' := []) (m := 1) (ykc_145 (e := (3, .istore_n kF3, 0)) rfl) rfl rfl ?_
      refine w_load (pc' := 35) (v := .int (zn (v (32 + p)))) (m := 1) (ykc_145 (e := (2, .iload_n kF3, 0)) rfl) rfl rfl ?_
      refine w_load (pc' := 36) (v := .int (zn f)) (m := 1) (ykc_145 (e := (2, .iload_n kF2, 0)) rfl) rfl rfl ?_
      refine w_ine (ykc_145 (e := (4, .if_icmp .ne 6, 42)) rfl) rfl (fun b940 => ?_) (fun b940 => ?_)
      · refine w_load (pc' := 43) (v := .ref 0) (m := 1) (ykc_145 (e := (2, .aload_n kF0, 0)) rfl) rfl rfl ?_
        refine w_gf (pc' := 46) (v := .ref 25) (ykc_145 (e := (5, .getfield 42, 0)) rfl) rfl (zsg hS zs_0_4) rfl ?_
        refine w_gf (pc' := 49) (v := .ref 30) (ykc_145 (e := (5, .getfield 201, 0)) rfl) rfl (zsg hS zs_25_7) rfl ?_
        refine w_load (pc' := 50) (v := .int (zn p)) (m := 1) (ykc_145 (e := (2, .iload_n kF1, 0)) rfl) rfl rfl ?_
        refine w_load (pc' := 51) (v := .int (zn f)) (m := 1) (ykc_145 (e := (2, .iload_n kF2, 0)) rfl) rfl rfl ?_
        refine w_ias (pc' := 52) (k := p) (ykc_145 (e := (5, .iastore, 0)) rfl) (by omega) rfl (fun ph942 u941 => ?_)
        refine w_load (pc' := 53) (v := .int (zn (v (32 + p)))) (m := 1) (ykc_145 (e := (2, .iload_n kF3, 0)) rfl) rfl rfl ?_
        refine w_ret (v := (some (.int (zn (v (32 + p)))))) (ykc_145 (e := (7, .ireturn, 0)) rfl) (zr_v rfl) ?_
        rw [hQ]
        exact Or.inr ⟨p, f, rfl, rfl, by omega, by omega, Or.inr ⟨by omega, rfl, u941⟩⟩
      · refine w_push (pc' := 41) (v := .int ((Int8.ofInt (-2)).toInt32)) (m := 2) (ykc_145 (e := (1, .bipush (-2), 0)) rfl) rfl rfl ?_
        refine w_ret (v := (some (.int ((Int8.ofInt (-2)).toInt32)))) (ykc_145 (e := (7, .ireturn, 0)) rfl) (zr_v rfl) ?_
        rw [hQ]
        exact Or.inr ⟨p, f, rfl, rfl, by omega, by omega, Or.inl ⟨by omega, rfl, rfl⟩⟩
    · refine w_alu (pc' := 23) (st' := [.int (Int32.ofInt (-1))]) (ykc_145 (e := (0, .iconst (-1), 0)) rfl) rfl rfl ?_
      refine w_ret (v := (some (.int (Int32.ofInt (-1))))) (ykc_145 (e := (7, .ireturn, 0)) rfl) (zr_v rfl) ?_
      have d9 := of_decide_eq_false b938
      rw [hQ]
      exact Or.inl ⟨by omega, rfl, rfl⟩
theorem zc_walk {ph : pm_H} {R C P G : Nat} {rk : Nat → Bool} {v : Nat → Nat} (hS : zSh ph) (hL : zCl ph R C rk) (hd : zSd ph 25 P G v) (hO0 : zOk R C P G v) {x y : Int32} : zM 143 [.ref 0, .int x, .int y] ph (fun v0 q => ((x.toInt < 0 ∨ (P : Int) ≤ x.toInt ∨ y.toInt < 0 ∨ 8 ≤ y.toInt) ∧ ph = q ∧ v0 = some (.int (Int32.ofInt (-1)))) ∨ (∃ p f, x = zn p ∧ y = zn f ∧ p < P ∧ f < 8 ∧ ((zbk R C rk (v p) f = -1 ∧ ph = q ∧ v0 = some (.int (Int8.ofInt (-2)).toInt32)) ∨ (∃ g, g < R * C ∧ zbk R C rk (v p) f = (g : Nat) ∧ v0 = some (.int (zn g)) ∧ zst ph q 26 p (.int (zn g)))))) := by
  obtain ⟨Q, hQ⟩ : ∃ Q : Option Value → pm_H → Prop, Q = (fun v0 q => ((x.toInt < 0 ∨ (P : Int) ≤ x.toInt ∨ y.toInt < 0 ∨ 8 ≤ y.toInt) ∧ ph = q ∧ v0 = some (.int (Int32.ofInt (-1)))) ∨ (∃ p f, x = zn p ∧ y = zn f ∧ p < P ∧ f < 8 ∧ ((zbk R C rk (v p) f = -1 ∧ ph = q ∧ v0 = some (.int (Int8.ofInt (-2)).toInt32)) ∨ (∃ g, g < R * C ∧ zbk R C rk (v p) f = (g : Nat) ∧ v0 = some (.int (zn g)) ∧ zst ph q 26 p (.int (zn g)))))) := ⟨_, rfl⟩
  rw [← hQ]
  refine zM_mk fun n D => ?_
  show zW n D 143 Q 0 [some (.ref 0), some (.int x), some (.int y), none] [] ph
  have c_0 : ((Int8.ofInt (-2)).toInt32).toInt = -2 := by decide
  have c_1 : (Int32.ofInt (-1)).toInt = -1 := by decide
  have hL0 := hL
  have hs : zSs ph 25 := zSs_of hS (by decide)
  have hx0 := x32_lo x
  have hx1 := x32_hi x
  have hy0 := x32_lo y
  have hy1 := x32_hi y
  obtain ⟨gR, gC, gN, gK, gA, hR3, hR7, hC3, hC7⟩ := hL
  have hRC := zRC49 hR7 hC7
  have tR := znt (k := R) (by omega)
  have tC := znt (k := C) (by omega)
  have tRC := znt (k := R * C) (by omega)
  have hdK := hd
  obtain ⟨gP, hP8, gG, hG8, gH, gv, gw⟩ := hd
  have tP := znt (k := P) (by omega)
  have tG := znt (k := G) (by omega)
  refine w_load (pc' := 1) (v := .ref 0) (m := 1) (ykc_143 (e := (2, .aload_n kF0, 0)) rfl) rfl rfl ?_
  refine w_gf (pc' := 4) (v := .ref 25) (ykc_143 (e := (5, .getfield 42, 0)) rfl) rfl (zsg hS zs_0_4) rfl ?_
  refine w_load (pc' := 5) (v := .int x) (m := 1) (ykc_143 (e := (2, .iload_n kF1, 0)) rfl) rfl rfl ?_
  refine w_cv (as := [.ref 25, .int x]) (r := []) (ykc_143 (e := (6, .invokevirtual 167, 0)) rfl) rfl rfl rfl rfl (zc_hasP hs hdK (i := x)) (fun v943 ph944 hv => ?_)
  obtain ⟨rfl, rfl⟩ := hv
  show zW n D 143 Q 8 [some (.ref 0), some (.int x), some (.int y), none] [.int (zI (decide (0 ≤ x.toInt ∧ x.toInt < ((P : Nat) : Int))))] ph
  refine w_beq (ykc_143 (e := (4, .ifCond .eq 10, 18)) rfl) rfl (fun b945 => ?_) (fun b945 => ?_)
  · refine w_alu (pc' := 19) (st' := [.int (Int32.ofInt (-1))]) (ykc_143 (e := (0, .iconst (-1), 0)) rfl) rfl rfl ?_
    refine w_ret (v := (some (.int (Int32.ofInt (-1))))) (ykc_143 (e := (7, .ireturn, 0)) rfl) (zr_v rfl) ?_
    have d9 := of_decide_eq_false b945
    rw [hQ]
    exact Or.inl ⟨by omega, rfl, rfl⟩
  · refine w_load (pc' := 12) (v := .int y) (m := 1) (ykc_143 (e := (2, .iload_n kF2, 0)) rfl) rfl rfl ?_
    refine w_cs (as := [.int y]) (r := []) (ykc_143 (e := (6, .invokestatic 293, 0)) rfl) rfl rfl rfl rfl (zc_isWay (y := y)) (fun v946 ph947 hv => ?_)
    obtain ⟨rfl, rfl⟩ := hv
    show zW n D 143 Q 15 [some (.ref 0), some (.int x), some (.int y), none] [.int (zI (decide (0 ≤ y.toInt ∧ y.toInt < 8)))] ph
    refine w_bne (ykc_143 (e := (4, .ifCond .ne 5, 20)) rfl) rfl (fun b948 => ?_) (fun b948 => ?_)
    · have db945 := of_decide_eq_true b945
      have db948 := of_decide_eq_true b948
      obtain ⟨p, hp⟩ : ∃ p : Nat, x.toInt = (p : Int) := ⟨x.toInt.toNat, by omega⟩
      obtain rfl := zn_of hp
      obtain ⟨f, hf⟩ : ∃ f : Nat, y.toInt = (f : Int) := ⟨y.toInt.toNat, by omega⟩
      obtain rfl := zn_of hf
      show zW n D 143 Q 20 [some (.ref 0), some (.int (zn p)), some (.int (zn f)), none] [] ph
      refine w_load (pc' := 21) (v := .ref 0) (m := 1) (ykc_143 (e := (2, .aload_n kF0, 0)) rfl) rfl rfl ?_
      refine w_gf (pc' := 24) (v := .ref 5) (ykc_143 (e := (5, .getfield 26, 0)) rfl) rfl (zsg hS zs_0_2) rfl ?_
      refine w_load (pc' := 25) (v := .ref 0) (m := 1) (ykc_143 (e := (2, .aload_n kF0, 0)) rfl) rfl rfl ?_
      refine w_gf (pc' := 28) (v := .ref 25) (ykc_143 (e := (5, .getfield 42, 0)) rfl) rfl (zsg hS zs_0_4) rfl ?_
      refine w_gf (pc' := 31) (v := .ref 26) (ykc_143 (e := (5, .getfield 173, 0)) rfl) rfl (zsg hS zs_25_3) rfl ?_
      refine w_load (pc' := 32) (v := .int (zn p)) (m := 1) (ykc_143 (e := (2, .iload_n kF1, 0)) rfl) rfl rfl ?_
      have q949 := hO0.1 p (by omega)
      have tq949 := znt (k := v (p)) (by omega)
      refine w_ialk (pc' := 33) (k := p) (ykc_143 (e := (5, .iaload, 0)) rfl) (gv p (by omega)).1 (by omega) rfl ?_
      refine w_load (pc' := 34) (v := .int (zn f)) (m := 1) (ykc_143 (e := (2, .iload_n kF2, 0)) rfl) rfl rfl ?_
      refine w_cv (as := [.ref 5, .int (zn (v (p))), .int (zn f)]) (r := []) (ykc_143 (e := (6, .invokevirtual 299, 0)) rfl) rfl rfl rfl rfl (zc_beside hS hL0 (f := v p) (w := f) (by omega) (by omega)) (fun v951 ph952 hv => ?_)
      obtain ⟨rfl, g950, rfl, hz_g950⟩ := hv
      have hzb : zbk R C rk (v p) f = -1 ∨ ∃ g, g < R * C ∧ zbk R C rk (v p) f = (g : Nat) := by
        unfold zbk
        split
        · next h => exact Or.inr ⟨_, zto_lt h.1, rfl⟩
        · exact Or.inl rfl
      show zW n D 143 Q 37 [some (.ref 0), some (.int (zn p)), some (.int (zn f)), none] [.int g950] ph
      refine w_store (pc' := 38) (L' := [some (.ref 0), some (.int (zn p)), some (.int (zn f)), some (.int g950)]) (st' := []) (m := 1) (ykc_143 (e := (3, .istore_n kF3, 0)) rfl) rfl rfl ?_
      refine w_load (pc' := 39) (v := .int g950) (m := 1) (ykc_143 (e := (2, .iload_n kF3, 0)) rfl) rfl rfl ?_
      refine w_zge (ykc_143 (e := (4, .ifCond .ge 6, 45)) rfl) rfl (fun b953 => ?_) (fun b953 => ?_)
      · obtain ⟨g, hg, hbg⟩ : ∃ g, g < R * C ∧ zbk R C rk (v p) f = (g : Nat) := by
          rcases hzb with h | h
          · omega
          · exact h
        obtain rfl := zn_of (k := g) (x := g950) (by omega)
        have tg := znt (k := g) (by omega)
        show zW n D 143 Q 45 [some (.ref 0), some (.int (zn p)), some (.int (zn f)), some (.int (zn g))] [] ph
        refine w_load (pc' := 46) (v := .ref 0) (m := 1) (ykc_143 (e := (2, .aload_n kF0, 0)) rfl) rfl rfl ?_
        refine w_gf (pc' := 49) (v := .ref 25) (ykc_143 (e := (5, .getfield 42, 0)) rfl) rfl (zsg hS zs_0_4) rfl ?_
        refine w_gf (pc' := 52) (v := .ref 26) (ykc_143 (e := (5, .getfield 173, 0)) rfl) rfl (zsg hS zs_25_3) rfl ?_
        refine w_load (pc' := 53) (v := .int (zn p)) (m := 1) (ykc_143 (e := (2, .iload_n kF1, 0)) rfl) rfl rfl ?_
        refine w_load (pc' := 54) (v := .int (zn g)) (m := 1) (ykc_143 (e := (2, .iload_n kF3, 0)) rfl) rfl rfl ?_
        refine w_ias (pc' := 55) (k := p) (ykc_143 (e := (5, .iastore, 0)) rfl) (by omega) rfl (fun ph955 u954 => ?_)
        refine w_load (pc' := 56) (v := .int (zn g)) (m := 1) (ykc_143 (e := (2, .iload_n kF3, 0)) rfl) rfl rfl ?_
        refine w_ret (v := (some (.int (zn g)))) (ykc_143 (e := (7, .ireturn, 0)) rfl) (zr_v rfl) ?_
        rw [hQ]
        exact Or.inr ⟨p, f, rfl, rfl, by omega, by omega, Or.inr ⟨g, hg, hbg, rfl, u954⟩⟩
      · refine w_push (pc' := 44) (v := .int ((Int8.ofInt (-2)).toInt32)) (m := 2) (ykc_143 (e := (1, .bipush (-2), 0)) rfl) rfl rfl ?_
        refine w_ret (v := (some (.int ((Int8.ofInt (-2)).toInt32)))) (ykc_143 (e := (7, .ireturn, 0)) rfl) (zr_v rfl) ?_
        have hb9 : zbk R C rk (v p) f = -1 := by
          rcases hzb with h | ⟨g, -, h⟩
          · exact h
          · omega
        rw [hQ]
        exact Or.inr ⟨p, f, rfl, rfl, by omega, by omega, Or.inl ⟨hb9, rfl, rfl⟩⟩
    · refine w_alu (pc' := 19) (st' := [.int (Int32.ofInt (-1))]) (ykc_143 (e := (0, .iconst (-1), 0)) rfl) rfl rfl ?_
      refine w_ret (v := (some (.int (Int32.ofInt (-1))))) (ykc_143 (e := (7, .ireturn, 0)) rfl) (zr_v rfl) ?_
      have d9 := of_decide_eq_false b948
      rw [hQ]
      exact Or.inl ⟨by omega, rfl, rfl⟩
end
section
/-! the reference: faces, steps, trims, puts, undo, keep, again, heard, forget, by W; printed by wip/z/z_r_mwr.py -/
def zWp (u : Nat) (w : Nat → Nat → Nat) (v : Nat → Nat) (i : Nat) : Nat → Nat := if i = u then v else w i
/-- what is kept -/
def zMk (ph : pm_H) (ch : Nat) (kp : Nat → Bool) (kc : Nat → Nat) (sv : Nat → Nat → Nat) : Prop := zc ph 170 7 = some (.int (zn ch)) ∧ ch ≤ 1000 ∧ ∀ i, i < 3 → zc ph 198 i = some (.int (zI (kp i))) ∧ zc ph 199 i = some (.int (zn (kc i))) ∧ kc i ≤ ch ∧ (kp i = true → zNr ph 200 (41 * i) (sv i))
def zMu (ph : pm_H) (u : Nat) (w : Nat → Nat → Nat) : Prop := zc ph 170 27 = some (.int (zn u)) ∧ u ≤ 15 ∧ zUr ph u w
def zMh (ph : pm_H) (hn : Nat) : Prop := zc ph 170 39 = some (.int (zn hn)) ∧ hn ≤ 10
theorem zMk_F {A : List Nat} {F : List (Nat × Nat)} {p q : pm_H} {ch : Nat} {kp : Nat → Bool} {kc : Nat → Nat} {sv : Nat → Nat → Nat} (f : zFr A F p q) (h1 : 170 ∉ A ∧ 198 ∉ A ∧ 199 ∉ A ∧ 200 ∉ A) (h2 : (170, 7) ∉ F) (h3 : ∀ i, (198, i) ∉ F ∧ (199, i) ∉ F ∧ (200, i) ∉ F) (h : zMk p ch kp kc sv) : zMk q ch kp kc sv := ⟨(f.1 _ _ h1.1 h2).trans h.1, h.2.1, fun i hi => ⟨(f.1 _ _ h1.2.1 (h3 i).1).trans (h.2.2 i hi).1, (f.1 _ _ h1.2.2.1 (h3 i).2.1).trans (h.2.2 i hi).2.1, (h.2.2 i hi).2.2.1, fun k => zNr_F f (fun j => (h3 j).2.2) h1.2.2.2 ((h.2.2 i hi).2.2.2 k)⟩⟩
theorem zMu_F {A : List Nat} {F : List (Nat × Nat)} {p q : pm_H} {u : Nat} {w : Nat → Nat → Nat} (f : zFr A F p q) (h1 : 170 ∉ A ∧ 183 ∉ A) (h2 : (170, 27) ∉ F) (h3 : ∀ i, (183, i) ∉ F) (h : zMu p u w) : zMu q u w := ⟨(f.1 _ _ h1.1 h2).trans h.1, h.2.1, zUr_F f h3 h1.2 h.2.2⟩
theorem zMh_F {A : List Nat} {F : List (Nat × Nat)} {p q : pm_H} {hn : Nat} (f : zFr A F p q) (h1 : 170 ∉ A) (h2 : (170, 39) ∉ F) (h : zMh p hn) : zMh q hn := ⟨(f.1 _ _ h1 h2).trans h.1, h.2⟩
/-- all of the reference that the calls tie -/
def zKM (ph : pm_H) (R C : Nat) (rk : Nat → Bool) (P G : Nat) (v : Nat → Nat) (u : Nat) (w : Nat → Nat → Nat) (ch : Nat) (kp : Nat → Bool) (kc : Nat → Nat) (sv : Nat → Nat → Nat) (hn : Nat) : Prop := zMl ph R C rk ∧ zMp ph P G ∧ zNr ph 174 0 v ∧ zMu ph u w ∧ zMk ph ch kp kc sv ∧ zMh ph hn
theorem zAd_15 {u : Nat} (hu : u ≤ 15) : zAd u ≤ 15 := by
  unfold zAd
  split <;> omega
theorem zWp_r {p q : pm_H} {u : Nat} {w : Nat → Nat → Nat} {v : Nat → Nat} (h : zUr p u w) (h1 : zNr q 183 (41 * u) v) (h2 : ∀ i, i < 41 * u → zc q 183 i = zc p 183 i) : zUr q (u + 1) (zWp u w v) := fun i hi => by
  unfold zWp
  by_cases e : i = u
  · rw [if_pos e, e]
    exact h1
  · rw [if_neg e]
    exact fun j hj => (h2 _ (by omega)).trans (h i (by omega) j hj)
theorem zm_counted {ph : pm_H} {w : Nat → Nat → Nat} {u : Nat} {x : Int32} (hS : zSh ph) (gu : zc ph 170 27 = some (.int (zn u))) (hu : u ≤ 15) (hw : zUr ph (u + 1) w) : zM 240 [.ref 170, .int x] ph (fun v0 q => (x.toInt < 0 ∧ ph = q ∧ v0 = some (.int x)) ∨ (0 ≤ x.toInt ∧ v0 = some (.int x) ∧ zFr [183] [(170, 27)] ph q ∧ zc q 170 27 = some (.int (zn (zAd u))) ∧ zUr q (zAd u) (zAw u w))) := by
  obtain ⟨Q, hQ⟩ : ∃ Q : Option Value → pm_H → Prop, Q = (fun v0 q => (x.toInt < 0 ∧ ph = q ∧ v0 = some (.int x)) ∨ (0 ≤ x.toInt ∧ v0 = some (.int x) ∧ zFr [183] [(170, 27)] ph q ∧ zc q 170 27 = some (.int (zn (zAd u))) ∧ zUr q (zAd u) (zAw u w))) := ⟨_, rfl⟩
  rw [← hQ]
  refine zM_mk fun n D => ?_
  show zW n D 240 Q 0 [some (.ref 170), some (.int x)] [] ph
  refine w_load (pc' := 1) (v := .int x) (m := 1) (ykc_240 (e := (2, .iload_n kF1, 0)) rfl) rfl rfl ?_
  refine w_zge (ykc_240 (e := (4, .ifCond .ge 7, 8)) rfl) rfl (fun b956 => ?_) (fun b956 => ?_)
  · refine w_load (pc' := 9) (v := .ref 170) (m := 1) (ykc_240 (e := (2, .aload_n kF0, 0)) rfl) rfl rfl ?_
    refine w_load (pc' := 10) (v := .int x) (m := 1) (ykc_240 (e := (2, .iload_n kF1, 0)) rfl) rfl rfl ?_
    refine w_cv (as := [.ref 170, .int x]) (r := []) (ykc_240 (e := (6, .invokevirtual 341, 0)) rfl) rfl rfl rfl rfl (zm_adds (x := x) hS gu hu hw) (fun v957 ph958 hv => ?_)
    obtain ⟨rfl, fa, ga, ra⟩ := hv
    show zW n D 240 Q 13 [some (.ref 170), some (.int x)] [.int x] ph958
    refine w_ret (v := (some (.int x))) (ykc_240 (e := (7, .ireturn, 0)) rfl) (zr_v rfl) ?_
    rw [hQ]
    exact Or.inr ⟨by omega, rfl, fa, ga, ra⟩
  · refine w_load (pc' := 5) (v := .int x) (m := 1) (ykc_240 (e := (2, .iload_n kF1, 0)) rfl) rfl rfl ?_
    refine w_br (pc' := 13) (st' := [.int x]) (ykc_240 (e := (4, .goto 8, 13)) rfl) rfl ?_
    refine w_ret (v := (some (.int x))) (ykc_240 (e := (7, .ireturn, 0)) rfl) (zr_v rfl) ?_
    rw [hQ]
    exact Or.inl ⟨by omega, rfl, rfl⟩
theorem zm_faces {ph : pm_H} {R C P G u ch hn : Nat} {rk : Nat → Bool} {v : Nat → Nat} {w : Nat → Nat → Nat} {kp : Nat → Bool} {kc : Nat → Nat} {sv : Nat → Nat → Nat} (hS : zSh ph) (hK : zKM ph R C rk P G v u w ch kp kc sv hn) (hO0 : zOk R C P G v) {x y : Int32} : zM 249 [.ref 170, .int x, .int y] ph (fun v0 q => ((x.toInt < 0 ∨ (P : Int) ≤ x.toInt ∨ y.toInt < 0 ∨ 8 ≤ y.toInt) ∧ v0 = some (.int (Int32.ofInt (-1))) ∧ zKM q R C rk P G v u w ch kp kc sv hn) ∨ (∃ p f, x = zn p ∧ y = zn f ∧ p < P ∧ f < 8 ∧ v0 = some (.int (zn (ze8 (v (8 + p)) f))) ∧ zKM q R C rk P G (znu v (8 + p) f) (zAd u) (zAw u (zWp u w v)) ch kp kc sv hn)) := by
  obtain ⟨Q, hQ⟩ : ∃ Q : Option Value → pm_H → Prop, Q = (fun v0 q => ((x.toInt < 0 ∨ (P : Int) ≤ x.toInt ∨ y.toInt < 0 ∨ 8 ≤ y.toInt) ∧ v0 = some (.int (Int32.ofInt (-1))) ∧ zKM q R C rk P G v u w ch kp kc sv hn) ∨ (∃ p f, x = zn p ∧ y = zn f ∧ p < P ∧ f < 8 ∧ v0 = some (.int (zn (ze8 (v (8 + p)) f))) ∧ zKM q R C rk P G (znu v (8 + p) f) (zAd u) (zAw u (zWp u w v)) ch kp kc sv hn)) := ⟨_, rfl⟩
  rw [← hQ]
  refine zM_mk fun n D => ?_
  show zW n D 249 Q 0 [some (.ref 170), some (.int x), some (.int y)] [] ph
  have c_0 : (Int32.ofInt 0).toInt = 0 := by decide
  obtain ⟨hL, hN, hv, hU, hk, hh⟩ := hK
  have hL0 := hL
  have hN0 := hN
  have hu15 := hU.2.1
  obtain ⟨gR, gC, gK, hR3, hR7, hC3, hC7⟩ := hL
  have hRC := zRC49 hR7 hC7
  have tR := znt (k := R) (by omega)
  have tC := znt (k := C) (by omega)
  obtain ⟨gP, hP8, gG, hG8⟩ := hN
  have tP := znt (k := P) (by omega)
  have tG := znt (k := G) (by omega)
  have tu := znt (k := u) (by omega)
  have hn10 := hh.2
  have thn := znt (k := hn) (by omega)
  refine w_load (pc' := 1) (v := .ref 170) (m := 1) (ykc_249 (e := (2, .aload_n kF0, 0)) rfl) rfl rfl ?_
  refine w_alu (pc' := 2) (st' := [.int (Int32.ofInt 0), .ref 170]) (ykc_249 (e := (0, .iconst 0, 0)) rfl) rfl rfl ?_
  refine w_pf (pc' := 5) (ykc_249 (e := (5, .putfield 3, 0)) rfl) rfl rfl (fun ph960 u959 => ?_)
  refine w_load (pc' := 6) (v := .ref 170) (m := 1) (ykc_249 (e := (2, .aload_n kF0, 0)) rfl) rfl rfl ?_
  have f0 : zFr [] [(170, 0)] ph ph960 := zFr_st u959 (Or.inr (by simp))
  have hS1 := zSh_st u959 (by decide +kernel) hS
  have hv1 := zNr_F f0 (by simp) (by simp) hv
  have hU1 := zMu_F f0 (by simp) (by simp) (by simp) hU
  refine w_cv (as := [.ref 170]) (r := []) (ykc_249 (e := (6, .invokevirtual 363, 0)) rfl) rfl rfl rfl rfl (zm_putsBy hS1 hv1 hU1.1 hu15) (fun v961 ph962 hv => ?_)
  obtain ⟨rfl, fp, gp, op⟩ := hv
  show zW n D 249 Q 9 [some (.ref 170), some (.int x), some (.int y)] [] ph962
  refine w_load (pc' := 10) (v := .ref 170) (m := 1) (ykc_249 (e := (2, .aload_n kF0, 0)) rfl) rfl rfl ?_
  refine w_load (pc' := 11) (v := .ref 170) (m := 1) (ykc_249 (e := (2, .aload_n kF0, 0)) rfl) rfl rfl ?_
  refine w_load (pc' := 12) (v := .ref 170) (m := 1) (ykc_249 (e := (2, .aload_n kF0, 0)) rfl) rfl rfl ?_
  refine w_gf (pc' := 15) (v := .ref 174) (ykc_249 (e := (5, .getfield 41, 0)) rfl) rfl ((fp.1 170 11 (by decide) (by decide)).trans ((u959.2.1 170 11 (fun q => absurd q.2 (by decide))).trans (zsg hS zs_170_11))) rfl ?_
  refine w_load (pc' := 16) (v := .int x) (m := 1) (ykc_249 (e := (2, .iload_n kF1, 0)) rfl) rfl rfl ?_
  refine w_load (pc' := 17) (v := .int y) (m := 1) (ykc_249 (e := (2, .iload_n kF2, 0)) rfl) rfl rfl ?_
  have hr := zWp_r hU1.2.2 gp op
  have f1 : zFr [183] [(170, 0)] ph ph962 := zFr_trans (zFr_mono f0 (by simp) (by simp)) (zFr_mono fp (by simp) (by simp))
  have hS2 := zSh_F f1 (by decide +kernel) hS
  have hL2 := zMl_F f1 (by simp) (by simp) (by simp) (by simp) hL0
  have hN2 := zMp_F f1 (by simp) (by simp) (by simp) hN0
  have hv2 := zNr_F f1 (by simp) (by simp) hv
  have gu2 := (f1.1 170 27 (by simp) (by simp)).trans hU.1
  refine w_cv (as := [.ref 170, .ref 174, .int x, .int y]) (r := [.ref 170]) (ykc_249 (e := (6, .invokevirtual 377, 0)) rfl) rfl rfl rfl rfl (zm_faces1 hS2 hL2 hN2 (Or.inl rfl) hv2 hO0 (x := x) (y := y)) (fun v963 ph964 hv => ?_)
  rcases hv with ⟨hbad, rfl, rfl⟩ | ⟨p, f, rfl, rfl, hp9, hf9, rfl, ua⟩
  · show zW n D 249 Q 20 [some (.ref 170), some (.int x), some (.int y)] [.int (Int32.ofInt (-1)), .ref 170] ph962
    refine w_cv (as := [.ref 170, .int (Int32.ofInt (-1))]) (r := []) (ykc_249 (e := (6, .invokevirtual 380, 0)) rfl) rfl rfl rfl rfl (zm_counted (x := Int32.ofInt (-1)) hS2 gu2 hu15 hr) (fun v965 ph966 hv => ?_)
    rcases hv with ⟨-, rfl, rfl⟩ | ⟨h9, -⟩
    rotate_left
    · exact absurd h9 (by decide)
    show zW n D 249 Q 23 [some (.ref 170), some (.int x), some (.int y)] [.int (Int32.ofInt (-1))] ph962
    refine w_ret (v := (some (.int (Int32.ofInt (-1))))) (ykc_249 (e := (7, .ireturn, 0)) rfl) (zr_v rfl) ?_
    rw [hQ]
    exact Or.inl ⟨hbad, rfl, zMl_F f1 (by simp) (by simp) (by simp) (by simp) hL0, zMp_F f1 (by simp) (by simp) (by simp) hN0, hv2, ⟨gu2, hu15, fun i hi => by have h := hr i (by omega); unfold zWp at h; rwa [if_neg (by omega)] at h⟩, zMk_F f1 (by simp) (by simp) (by simp) hk, zMh_F f1 (by simp) (by simp) hh⟩
  · have f2 : zFr [174, 183] [(170, 0)] ph ph964 := zFr_trans (zFr_mono f1 (by simp) (by simp)) (zFr_st ua (Or.inl (by simp)))
    have hS3 := zSh_F f2 (by decide +kernel) hS
    have gu3 := (f2.1 170 27 (by simp) (by simp)).trans hU.1
    have hr3 := zUr_F (A := [174]) (F := []) (zFr_st ua (Or.inl (by simp))) (by simp) (by simp) hr
    have hq := hO0.1 p (by omega)
    have t9 : (0 : Int) ≤ (zn (ze8 (v (8 + p)) f)).toInt := by
      rw [znt (by unfold ze8; omega)]
      exact Int.natCast_nonneg _
    show zW n D 249 Q 20 [some (.ref 170), some (.int (zn p)), some (.int (zn f))] [.int (zn (ze8 (v (8 + p)) f)), .ref 170] ph964
    refine w_cv (as := [.ref 170, .int (zn (ze8 (v (8 + p)) f))]) (r := []) (ykc_249 (e := (6, .invokevirtual 380, 0)) rfl) rfl rfl rfl rfl (zm_counted (x := zn (ze8 (v (8 + p)) f)) hS3 gu3 hu15 hr3) (fun v967 ph968 hv => ?_)
    rcases hv with ⟨h9, -⟩ | ⟨-, rfl, fa, ga, ra⟩
    · omega
    show zW n D 249 Q 23 [some (.ref 170), some (.int (zn p)), some (.int (zn f))] [.int (zn (ze8 (v (8 + p)) f))] ph968
    refine w_ret (v := (some (.int (zn (ze8 (v (8 + p)) f))))) (ykc_249 (e := (7, .ireturn, 0)) rfl) (zr_v rfl) ?_
    rw [hQ]
    have f3 : zFr [174, 183] [(170, 0), (170, 27)] ph _ := zFr_trans (zFr_mono f2 (by simp) (by simp)) (zFr_mono fa (by simp) (by simp))
    exact Or.inr ⟨p, f, rfl, rfl, hp9, hf9, rfl, zMl_F f3 (by simp) (by simp) (by simp) (by simp) hL0, zMp_F f3 (by simp) (by simp) (by simp) hN0, zNr_F fa (by simp) (by simp) (zNr_u ua hv2), ⟨ga, zAd_15 hu15, ra⟩, zMk_F f3 (by simp) (by simp) (by simp) hk, zMh_F f3 (by simp) (by simp) hh⟩
theorem zm_trims {ph : pm_H} {R C P G u ch hn : Nat} {rk : Nat → Bool} {v : Nat → Nat} {w : Nat → Nat → Nat} {kp : Nat → Bool} {kc : Nat → Nat} {sv : Nat → Nat → Nat} (hS : zSh ph) (hK : zKM ph R C rk P G v u w ch kp kc sv hn) (hO0 : zOk R C P G v) {x y : Int32} : zM 251 [.ref 170, .int x, .int y] ph (fun v0 q => ((x.toInt < 0 ∨ (P : Int) ≤ x.toInt ∨ y.toInt < 0 ∨ 5 ≤ y.toInt) ∧ v0 = some (.int (Int32.ofInt (-1))) ∧ zKM q R C rk P G v u w ch kp kc sv hn) ∨ (∃ p f, x = zn p ∧ y = zn f ∧ p < P ∧ f ≤ 4 ∧ v0 = some (.int (zn (v (16 + p)))) ∧ zKM q R C rk P G (znu v (16 + p) f) (zAd u) (zAw u (zWp u w v)) ch kp kc sv hn)) := by
  obtain ⟨Q, hQ⟩ : ∃ Q : Option Value → pm_H → Prop, Q = (fun v0 q => ((x.toInt < 0 ∨ (P : Int) ≤ x.toInt ∨ y.toInt < 0 ∨ 5 ≤ y.toInt) ∧ v0 = some (.int (Int32.ofInt (-1))) ∧ zKM q R C rk P G v u w ch kp kc sv hn) ∨ (∃ p f, x = zn p ∧ y = zn f ∧ p < P ∧ f ≤ 4 ∧ v0 = some (.int (zn (v (16 + p)))) ∧ zKM q R C rk P G (znu v (16 + p) f) (zAd u) (zAw u (zWp u w v)) ch kp kc sv hn)) := ⟨_, rfl⟩
  rw [← hQ]
  refine zM_mk fun n D => ?_
  show zW n D 251 Q 0 [some (.ref 170), some (.int x), some (.int y)] [] ph
  have c_0 : (Int32.ofInt 0).toInt = 0 := by decide
  obtain ⟨hL, hN, hv, hU, hk, hh⟩ := hK
  have hL0 := hL
  have hN0 := hN
  have hu15 := hU.2.1
  obtain ⟨gR, gC, gK, hR3, hR7, hC3, hC7⟩ := hL
  have hRC := zRC49 hR7 hC7
  have tR := znt (k := R) (by omega)
  have tC := znt (k := C) (by omega)
  obtain ⟨gP, hP8, gG, hG8⟩ := hN
  have tP := znt (k := P) (by omega)
  have tG := znt (k := G) (by omega)
  have tu := znt (k := u) (by omega)
  have hn10 := hh.2
  have thn := znt (k := hn) (by omega)
  refine w_load (pc' := 1) (v := .ref 170) (m := 1) (ykc_251 (e := (2, .aload_n kF0, 0)) rfl) rfl rfl ?_
  refine w_alu (pc' := 2) (st' := [.int (Int32.ofInt 0), .ref 170]) (ykc_251 (e := (0, .iconst 0, 0)) rfl) rfl rfl ?_
  refine w_pf (pc' := 5) (ykc_251 (e := (5, .putfield 3, 0)) rfl) rfl rfl (fun ph970 u969 => ?_)
  refine w_load (pc' := 6) (v := .ref 170) (m := 1) (ykc_251 (e := (2, .aload_n kF0, 0)) rfl) rfl rfl ?_
  have f0 : zFr [] [(170, 0)] ph ph970 := zFr_st u969 (Or.inr (by simp))
  have hS1 := zSh_st u969 (by decide +kernel) hS
  have hv1 := zNr_F f0 (by simp) (by simp) hv
  have hU1 := zMu_F f0 (by simp) (by simp) (by simp) hU
  refine w_cv (as := [.ref 170]) (r := []) (ykc_251 (e := (6, .invokevirtual 363, 0)) rfl) rfl rfl rfl rfl (zm_putsBy hS1 hv1 hU1.1 hu15) (fun v971 ph972 hv => ?_)
  obtain ⟨rfl, fp, gp, op⟩ := hv
  show zW n D 251 Q 9 [some (.ref 170), some (.int x), some (.int y)] [] ph972
  refine w_load (pc' := 10) (v := .ref 170) (m := 1) (ykc_251 (e := (2, .aload_n kF0, 0)) rfl) rfl rfl ?_
  refine w_load (pc' := 11) (v := .ref 170) (m := 1) (ykc_251 (e := (2, .aload_n kF0, 0)) rfl) rfl rfl ?_
  refine w_load (pc' := 12) (v := .int x) (m := 1) (ykc_251 (e := (2, .iload_n kF1, 0)) rfl) rfl rfl ?_
  refine w_load (pc' := 13) (v := .int y) (m := 1) (ykc_251 (e := (2, .iload_n kF2, 0)) rfl) rfl rfl ?_
  have hr := zWp_r hU1.2.2 gp op
  have f1 : zFr [183] [(170, 0)] ph ph972 := zFr_trans (zFr_mono f0 (by simp) (by simp)) (zFr_mono fp (by simp) (by simp))
  have hS2 := zSh_F f1 (by decide +kernel) hS
  have hL2 := zMl_F f1 (by simp) (by simp) (by simp) (by simp) hL0
  have hN2 := zMp_F f1 (by simp) (by simp) (by simp) hN0
  have hv2 := zNr_F f1 (by simp) (by simp) hv
  have gu2 := (f1.1 170 27 (by simp) (by simp)).trans hU.1
  refine w_cv (as := [.ref 170, .int x, .int y]) (r := [.ref 170]) (ykc_251 (e := (6, .invokevirtual 386, 0)) rfl) rfl rfl rfl rfl (zm_trims1 hS2 hL2 hN2 hv2 hO0 (x := x) (y := y)) (fun v973 ph974 hv => ?_)
  rcases hv with ⟨hbad, rfl, rfl⟩ | ⟨p, f, rfl, rfl, hp9, hf9, rfl, ua⟩
  · show zW n D 251 Q 16 [some (.ref 170), some (.int x), some (.int y)] [.int (Int32.ofInt (-1)), .ref 170] ph972
    refine w_cv (as := [.ref 170, .int (Int32.ofInt (-1))]) (r := []) (ykc_251 (e := (6, .invokevirtual 380, 0)) rfl) rfl rfl rfl rfl (zm_counted (x := Int32.ofInt (-1)) hS2 gu2 hu15 hr) (fun v975 ph976 hv => ?_)
    rcases hv with ⟨-, rfl, rfl⟩ | ⟨h9, -⟩
    rotate_left
    · exact absurd h9 (by decide)
    show zW n D 251 Q 19 [some (.ref 170), some (.int x), some (.int y)] [.int (Int32.ofInt (-1))] ph972
    refine w_ret (v := (some (.int (Int32.ofInt (-1))))) (ykc_251 (e := (7, .ireturn, 0)) rfl) (zr_v rfl) ?_
    rw [hQ]
    exact Or.inl ⟨hbad, rfl, zMl_F f1 (by simp) (by simp) (by simp) (by simp) hL0, zMp_F f1 (by simp) (by simp) (by simp) hN0, hv2, ⟨gu2, hu15, fun i hi => by have h := hr i (by omega); unfold zWp at h; rwa [if_neg (by omega)] at h⟩, zMk_F f1 (by simp) (by simp) (by simp) hk, zMh_F f1 (by simp) (by simp) hh⟩
  · have f2 : zFr [174, 183] [(170, 0)] ph ph974 := zFr_trans (zFr_mono f1 (by simp) (by simp)) (zFr_st ua (Or.inl (by simp)))
    have hS3 := zSh_F f2 (by decide +kernel) hS
    have gu3 := (f2.1 170 27 (by simp) (by simp)).trans hU.1
    have hr3 := zUr_F (A := [174]) (F := []) (zFr_st ua (Or.inl (by simp))) (by simp) (by simp) hr
    have hq := hO0.1 p (by omega)
    have t9 : (0 : Int) ≤ (zn (v (16 + p))).toInt := by
      rw [znt (by omega)]
      exact Int.natCast_nonneg _
    show zW n D 251 Q 16 [some (.ref 170), some (.int (zn p)), some (.int (zn f))] [.int (zn (v (16 + p))), .ref 170] ph974
    refine w_cv (as := [.ref 170, .int (zn (v (16 + p)))]) (r := []) (ykc_251 (e := (6, .invokevirtual 380, 0)) rfl) rfl rfl rfl rfl (zm_counted (x := zn (v (16 + p))) hS3 gu3 hu15 hr3) (fun v977 ph978 hv => ?_)
    rcases hv with ⟨h9, -⟩ | ⟨-, rfl, fa, ga, ra⟩
    · omega
    show zW n D 251 Q 19 [some (.ref 170), some (.int (zn p)), some (.int (zn f))] [.int (zn (v (16 + p)))] ph978
    refine w_ret (v := (some (.int (zn (v (16 + p)))))) (ykc_251 (e := (7, .ireturn, 0)) rfl) (zr_v rfl) ?_
    rw [hQ]
    have f3 : zFr [174, 183] [(170, 0), (170, 27)] ph _ := zFr_trans (zFr_mono f2 (by simp) (by simp)) (zFr_mono fa (by simp) (by simp))
    exact Or.inr ⟨p, f, rfl, rfl, hp9, hf9, rfl, zMl_F f3 (by simp) (by simp) (by simp) (by simp) hL0, zMp_F f3 (by simp) (by simp) (by simp) hN0, zNr_F fa (by simp) (by simp) (zNr_u ua hv2), ⟨ga, zAd_15 hu15, ra⟩, zMk_F f3 (by simp) (by simp) (by simp) hk, zMh_F f3 (by simp) (by simp) hh⟩
theorem znu_id {v : Nat → Nat} {i x : Nat} (h : v i = x) : znu v i x = v := by
  funext j
  unfold znu
  by_cases e : j = i
  · rw [if_pos e, e, h]
  · rw [if_neg e]
theorem zm_steps {ph : pm_H} {R C P G u ch hn : Nat} {rk : Nat → Bool} {v : Nat → Nat} {w : Nat → Nat → Nat} {kp : Nat → Bool} {kc : Nat → Nat} {sv : Nat → Nat → Nat} (hS : zSh ph) (hK : zKM ph R C rk P G v u w ch kp kc sv hn) (hO0 : zOk R C P G v) {x y : Int32} : zM 250 [.ref 170, .int x, .int y] ph (fun v0 q => ((x.toInt < 0 ∨ (P : Int) ≤ x.toInt ∨ y.toInt < 0 ∨ 8 ≤ y.toInt) ∧ v0 = some (.int (Int32.ofInt (-1))) ∧ zKM q R C rk P G v u w ch kp kc sv hn) ∨ (∃ p f, x = zn p ∧ y = zn f ∧ p < P ∧ f < 8 ∧ zbk R C rk (v p) f = -1 ∧ v0 = some (.int (Int8.ofInt (-2)).toInt32) ∧ zKM q R C rk P G v u w ch kp kc sv hn) ∨ (∃ p f, x = zn p ∧ y = zn f ∧ p < P ∧ f < 8 ∧ ∃ g, g < R * C ∧ zbk R C rk (v p) f = (g : Nat) ∧ v0 = some (.int (zn g)) ∧ zKM q R C rk P G (znu v p g) (zAd u) (zAw u (zWp u w v)) ch kp kc sv hn)) := by
  obtain ⟨Q, hQ⟩ : ∃ Q : Option Value → pm_H → Prop, Q = (fun v0 q => ((x.toInt < 0 ∨ (P : Int) ≤ x.toInt ∨ y.toInt < 0 ∨ 8 ≤ y.toInt) ∧ v0 = some (.int (Int32.ofInt (-1))) ∧ zKM q R C rk P G v u w ch kp kc sv hn) ∨ (∃ p f, x = zn p ∧ y = zn f ∧ p < P ∧ f < 8 ∧ zbk R C rk (v p) f = -1 ∧ v0 = some (.int (Int8.ofInt (-2)).toInt32) ∧ zKM q R C rk P G v u w ch kp kc sv hn) ∨ (∃ p f, x = zn p ∧ y = zn f ∧ p < P ∧ f < 8 ∧ ∃ g, g < R * C ∧ zbk R C rk (v p) f = (g : Nat) ∧ v0 = some (.int (zn g)) ∧ zKM q R C rk P G (znu v p g) (zAd u) (zAw u (zWp u w v)) ch kp kc sv hn)) := ⟨_, rfl⟩
  rw [← hQ]
  refine zM_mk fun n D => ?_
  show zW n D 250 Q 0 [some (.ref 170), some (.int x), some (.int y)] [] ph
  have c_0 : (Int32.ofInt 0).toInt = 0 := by decide
  obtain ⟨hL, hN, hv, hU, hk, hh⟩ := hK
  have hL0 := hL
  have hN0 := hN
  have hu15 := hU.2.1
  obtain ⟨gR, gC, gK, hR3, hR7, hC3, hC7⟩ := hL
  have hRC := zRC49 hR7 hC7
  have tR := znt (k := R) (by omega)
  have tC := znt (k := C) (by omega)
  obtain ⟨gP, hP8, gG, hG8⟩ := hN
  have tP := znt (k := P) (by omega)
  have tG := znt (k := G) (by omega)
  have tu := znt (k := u) (by omega)
  have hn10 := hh.2
  have thn := znt (k := hn) (by omega)
  refine w_load (pc' := 1) (v := .ref 170) (m := 1) (ykc_250 (e := (2, .aload_n kF0, 0)) rfl) rfl rfl ?_
  refine w_alu (pc' := 2) (st' := [.int (Int32.ofInt 0), .ref 170]) (ykc_250 (e := (0, .iconst 0, 0)) rfl) rfl rfl ?_
  refine w_pf (pc' := 5) (ykc_250 (e := (5, .putfield 3, 0)) rfl) rfl rfl (fun ph980 u979 => ?_)
  refine w_load (pc' := 6) (v := .ref 170) (m := 1) (ykc_250 (e := (2, .aload_n kF0, 0)) rfl) rfl rfl ?_
  have f0 : zFr [] [(170, 0)] ph ph980 := zFr_st u979 (Or.inr (by simp))
  have hS1 := zSh_st u979 (by decide +kernel) hS
  have hv1 := zNr_F f0 (by simp) (by simp) hv
  have hU1 := zMu_F f0 (by simp) (by simp) (by simp) hU
  refine w_cv (as := [.ref 170]) (r := []) (ykc_250 (e := (6, .invokevirtual 363, 0)) rfl) rfl rfl rfl rfl (zm_putsBy hS1 hv1 hU1.1 hu15) (fun v981 ph982 hv => ?_)
  obtain ⟨rfl, fp, gp, op⟩ := hv
  show zW n D 250 Q 9 [some (.ref 170), some (.int x), some (.int y)] [] ph982
  refine w_load (pc' := 10) (v := .ref 170) (m := 1) (ykc_250 (e := (2, .aload_n kF0, 0)) rfl) rfl rfl ?_
  refine w_load (pc' := 11) (v := .ref 170) (m := 1) (ykc_250 (e := (2, .aload_n kF0, 0)) rfl) rfl rfl ?_
  refine w_load (pc' := 12) (v := .ref 170) (m := 1) (ykc_250 (e := (2, .aload_n kF0, 0)) rfl) rfl rfl ?_
  refine w_gf (pc' := 15) (v := .ref 174) (ykc_250 (e := (5, .getfield 41, 0)) rfl) rfl ((fp.1 170 11 (by decide) (by decide)).trans ((u979.2.1 170 11 (fun q => absurd q.2 (by decide))).trans (zsg hS zs_170_11))) rfl ?_
  refine w_load (pc' := 16) (v := .int x) (m := 1) (ykc_250 (e := (2, .iload_n kF1, 0)) rfl) rfl rfl ?_
  refine w_load (pc' := 17) (v := .int y) (m := 1) (ykc_250 (e := (2, .iload_n kF2, 0)) rfl) rfl rfl ?_
  have hr := zWp_r hU1.2.2 gp op
  have f1 : zFr [183] [(170, 0)] ph ph982 := zFr_trans (zFr_mono f0 (by simp) (by simp)) (zFr_mono fp (by simp) (by simp))
  have hS2 := zSh_F f1 (by decide +kernel) hS
  have hL2 := zMl_F f1 (by simp) (by simp) (by simp) (by simp) hL0
  have hN2 := zMp_F f1 (by simp) (by simp) (by simp) hN0
  have hv2 := zNr_F f1 (by simp) (by simp) hv
  have gu2 := (f1.1 170 27 (by simp) (by simp)).trans hU.1
  refine w_cv (as := [.ref 170, .ref 174, .int x, .int y]) (r := [.ref 170]) (ykc_250 (e := (6, .invokevirtual 383, 0)) rfl) rfl rfl rfl rfl (zm_steps1 hS2 hL2 hN2 (Or.inl rfl) hv2 hO0 (x := x) (y := y)) (fun v983 ph984 hv => ?_)
  rcases hv with ⟨hbad, rfl, rfl⟩ | ⟨p, f, rfl, rfl, hp9, hf9, ⟨hb9, rfl, rfl⟩ | ⟨g, hg9, hb9, rfl, ua⟩⟩
  · show zW n D 250 Q 20 [some (.ref 170), some (.int x), some (.int y)] [.int (Int32.ofInt (-1)), .ref 170] ph982
    refine w_cv (as := [.ref 170, .int (Int32.ofInt (-1))]) (r := []) (ykc_250 (e := (6, .invokevirtual 380, 0)) rfl) rfl rfl rfl rfl (zm_counted (x := Int32.ofInt (-1)) hS2 gu2 hu15 hr) (fun v985 ph986 hv => ?_)
    rcases hv with ⟨-, rfl, rfl⟩ | ⟨h9, -⟩
    rotate_left
    · exact absurd h9 (by decide)
    show zW n D 250 Q 23 [some (.ref 170), some (.int x), some (.int y)] [.int (Int32.ofInt (-1))] ph982
    refine w_ret (v := (some (.int (Int32.ofInt (-1))))) (ykc_250 (e := (7, .ireturn, 0)) rfl) (zr_v rfl) ?_
    rw [hQ]
    exact Or.inl ⟨hbad, rfl, zMl_F f1 (by simp) (by simp) (by simp) (by simp) hL0, zMp_F f1 (by simp) (by simp) (by simp) hN0, hv2, ⟨gu2, hu15, fun i hi => by have h := hr i (by omega); unfold zWp at h; rwa [if_neg (by omega)] at h⟩, zMk_F f1 (by simp) (by simp) (by simp) hk, zMh_F f1 (by simp) (by simp) hh⟩
  · show zW n D 250 Q 20 [some (.ref 170), some (.int (zn p)), some (.int (zn f))] [.int ((Int8.ofInt (-2)).toInt32), .ref 170] ph982
    refine w_cv (as := [.ref 170, .int ((Int8.ofInt (-2)).toInt32)]) (r := []) (ykc_250 (e := (6, .invokevirtual 380, 0)) rfl) rfl rfl rfl rfl (zm_counted (x := (Int8.ofInt (-2)).toInt32) hS2 gu2 hu15 hr) (fun v987 ph988 hv => ?_)
    rcases hv with ⟨-, rfl, rfl⟩ | ⟨h9, -⟩
    rotate_left
    · exact absurd h9 (by decide)
    show zW n D 250 Q 23 [some (.ref 170), some (.int (zn p)), some (.int (zn f))] [.int ((Int8.ofInt (-2)).toInt32)] ph982
    refine w_ret (v := (some (.int ((Int8.ofInt (-2)).toInt32)))) (ykc_250 (e := (7, .ireturn, 0)) rfl) (zr_v rfl) ?_
    rw [hQ]
    exact Or.inr (Or.inl ⟨p, f, rfl, rfl, hp9, hf9, hb9, rfl, zMl_F f1 (by simp) (by simp) (by simp) (by simp) hL0, zMp_F f1 (by simp) (by simp) (by simp) hN0, hv2, ⟨gu2, hu15, fun i hi => by have h := hr i (by omega); unfold zWp at h; rwa [if_neg (by omega)] at h⟩, zMk_F f1 (by simp) (by simp) (by simp) hk, zMh_F f1 (by simp) (by simp) hh⟩)
  · have f2 : zFr [174, 183] [(170, 0)] ph ph984 := zFr_trans (zFr_mono f1 (by simp) (by simp)) (zFr_st ua (Or.inl (by simp)))
    have hS3 := zSh_F f2 (by decide +kernel) hS
    have gu3 := (f2.1 170 27 (by simp) (by simp)).trans hU.1
    have hr3 := zUr_F (A := [174]) (F := []) (zFr_st ua (Or.inl (by simp))) (by simp) (by simp) hr
    have hq := hO0.1 p (by omega)
    have t9 := znt (k := g) (by have := zRC49 hR7 hC7; omega)
    show zW n D 250 Q 20 [some (.ref 170), some (.int (zn p)), some (.int (zn f))] [.int (zn g), .ref 170] ph984
    refine w_cv (as := [.ref 170, .int (zn g)]) (r := []) (ykc_250 (e := (6, .invokevirtual 380, 0)) rfl) rfl rfl rfl rfl (zm_counted (x := zn g) hS3 gu3 hu15 hr3) (fun v989 ph990 hv => ?_)
    rcases hv with ⟨h9, -⟩ | ⟨-, rfl, fa, ga, ra⟩
    · omega
    show zW n D 250 Q 23 [some (.ref 170), some (.int (zn p)), some (.int (zn f))] [.int (zn g)] ph990
    refine w_ret (v := (some (.int (zn g)))) (ykc_250 (e := (7, .ireturn, 0)) rfl) (zr_v rfl) ?_
    rw [hQ]
    have f3 : zFr [174, 183] [(170, 0), (170, 27)] ph _ := zFr_trans (zFr_mono f2 (by simp) (by simp)) (zFr_mono fa (by simp) (by simp))
    exact (Or.inr ∘ Or.inr) ⟨p, f, rfl, rfl, hp9, hf9, g, hg9, hb9, rfl, zMl_F f3 (by simp) (by simp) (by simp) (by simp) hL0, zMp_F f3 (by simp) (by simp) (by simp) hN0, zNr_F fa (by simp) (by simp) (zNr_u ua hv2), ⟨ga, zAd_15 hu15, ra⟩, zMk_F f3 (by simp) (by simp) (by simp) hk, zMh_F f3 (by simp) (by simp) hh⟩
theorem zm_puts {ph : pm_H} {R C P G u ch hn : Nat} {rk : Nat → Bool} {v : Nat → Nat} {w : Nat → Nat → Nat} {kp : Nat → Bool} {kc : Nat → Nat} {sv : Nat → Nat → Nat} (hS : zSh ph) (hK : zKM ph R C rk P G v u w ch kp kc sv hn) (hO0 : zOk R C P G v) {x y : Int32} : zM 252 [.ref 170, .int x, .int y] ph (fun v0 q => ((x.toInt < 0 ∨ (G : Int) ≤ x.toInt ∨ y.toInt < 0 ∨ ((R * C : Nat) : Int) ≤ y.toInt) ∧ v0 = some (.int (Int32.ofInt (-1))) ∧ zKM q R C rk P G v u w ch kp kc sv hn) ∨ (∃ p f, x = zn p ∧ y = zn f ∧ p < G ∧ f < R * C ∧ v (32 + p) = f ∧ v0 = some (.int (Int8.ofInt (-2)).toInt32) ∧ zKM q R C rk P G v u w ch kp kc sv hn) ∨ (∃ p f, x = zn p ∧ y = zn f ∧ p < G ∧ f < R * C ∧ v (32 + p) ≠ f ∧ v0 = some (.int (zn (v (32 + p)))) ∧ zKM q R C rk P G (znu v (32 + p) f) (zAd u) (zAw u (zWp u w v)) ch kp kc sv hn)) := by
  obtain ⟨Q, hQ⟩ : ∃ Q : Option Value → pm_H → Prop, Q = (fun v0 q => ((x.toInt < 0 ∨ (G : Int) ≤ x.toInt ∨ y.toInt < 0 ∨ ((R * C : Nat) : Int) ≤ y.toInt) ∧ v0 = some (.int (Int32.ofInt (-1))) ∧ zKM q R C rk P G v u w ch kp kc sv hn) ∨ (∃ p f, x = zn p ∧ y = zn f ∧ p < G ∧ f < R * C ∧ v (32 + p) = f ∧ v0 = some (.int (Int8.ofInt (-2)).toInt32) ∧ zKM q R C rk P G v u w ch kp kc sv hn) ∨ (∃ p f, x = zn p ∧ y = zn f ∧ p < G ∧ f < R * C ∧ v (32 + p) ≠ f ∧ v0 = some (.int (zn (v (32 + p)))) ∧ zKM q R C rk P G (znu v (32 + p) f) (zAd u) (zAw u (zWp u w v)) ch kp kc sv hn)) := ⟨_, rfl⟩
  rw [← hQ]
  refine zM_mk fun n D => ?_
  show zW n D 252 Q 0 [some (.ref 170), some (.int x), some (.int y)] [] ph
  have c_0 : (Int32.ofInt 0).toInt = 0 := by decide
  obtain ⟨hL, hN, hv, hU, hk, hh⟩ := hK
  have hL0 := hL
  have hN0 := hN
  have hu15 := hU.2.1
  obtain ⟨gR, gC, gK, hR3, hR7, hC3, hC7⟩ := hL
  have hRC := zRC49 hR7 hC7
  have tR := znt (k := R) (by omega)
  have tC := znt (k := C) (by omega)
  obtain ⟨gP, hP8, gG, hG8⟩ := hN
  have tP := znt (k := P) (by omega)
  have tG := znt (k := G) (by omega)
  have tu := znt (k := u) (by omega)
  have hn10 := hh.2
  have thn := znt (k := hn) (by omega)
  refine w_load (pc' := 1) (v := .ref 170) (m := 1) (ykc_252 (e := (2, .aload_n kF0, 0)) rfl) rfl rfl ?_
  refine w_alu (pc' := 2) (st' := [.int (Int32.ofInt 0), .ref 170]) (ykc_252 (e := (0, .iconst 0, 0)) rfl) rfl rfl ?_
  refine w_pf (pc' := 5) (ykc_252 (e := (5, .putfield 3, 0)) rfl) rfl rfl (fun ph992 u991 => ?_)
  refine w_load (pc' := 6) (v := .ref 170) (m := 1) (ykc_252 (e := (2, .aload_n kF0, 0)) rfl) rfl rfl ?_
  have f0 : zFr [] [(170, 0)] ph ph992 := zFr_st u991 (Or.inr (by simp))
  have hS1 := zSh_st u991 (by decide +kernel) hS
  have hv1 := zNr_F f0 (by simp) (by simp) hv
  have hU1 := zMu_F f0 (by simp) (by simp) (by simp) hU
  refine w_cv (as := [.ref 170]) (r := []) (ykc_252 (e := (6, .invokevirtual 363, 0)) rfl) rfl rfl rfl rfl (zm_putsBy hS1 hv1 hU1.1 hu15) (fun v993 ph994 hv => ?_)
  obtain ⟨rfl, fp, gp, op⟩ := hv
  show zW n D 252 Q 9 [some (.ref 170), some (.int x), some (.int y)] [] ph994
  refine w_load (pc' := 10) (v := .ref 170) (m := 1) (ykc_252 (e := (2, .aload_n kF0, 0)) rfl) rfl rfl ?_
  refine w_load (pc' := 11) (v := .ref 170) (m := 1) (ykc_252 (e := (2, .aload_n kF0, 0)) rfl) rfl rfl ?_
  refine w_load (pc' := 12) (v := .int x) (m := 1) (ykc_252 (e := (2, .iload_n kF1, 0)) rfl) rfl rfl ?_
  refine w_load (pc' := 13) (v := .int y) (m := 1) (ykc_252 (e := (2, .iload_n kF2, 0)) rfl) rfl rfl ?_
  have hr := zWp_r hU1.2.2 gp op
  have f1 : zFr [183] [(170, 0)] ph ph994 := zFr_trans (zFr_mono f0 (by simp) (by simp)) (zFr_mono fp (by simp) (by simp))
  have hS2 := zSh_F f1 (by decide +kernel) hS
  have hL2 := zMl_F f1 (by simp) (by simp) (by simp) (by simp) hL0
  have hN2 := zMp_F f1 (by simp) (by simp) (by simp) hN0
  have hv2 := zNr_F f1 (by simp) (by simp) hv
  have gu2 := (f1.1 170 27 (by simp) (by simp)).trans hU.1
  refine w_cv (as := [.ref 170, .int x, .int y]) (r := [.ref 170]) (ykc_252 (e := (6, .invokevirtual 389, 0)) rfl) rfl rfl rfl rfl (zm_puts1 hS2 hL2 hN2 hv2 hO0 (x := x) (y := y)) (fun v995 ph996 hv => ?_)
  rcases hv with ⟨hbad, rfl, rfl⟩ | ⟨p, f, rfl, rfl, hp9, hf9, ua, ⟨hs9, rfl⟩ | ⟨hs9, rfl⟩⟩
  · show zW n D 252 Q 16 [some (.ref 170), some (.int x), some (.int y)] [.int (Int32.ofInt (-1)), .ref 170] ph994
    refine w_cv (as := [.ref 170, .int (Int32.ofInt (-1))]) (r := []) (ykc_252 (e := (6, .invokevirtual 380, 0)) rfl) rfl rfl rfl rfl (zm_counted (x := Int32.ofInt (-1)) hS2 gu2 hu15 hr) (fun v997 ph998 hv => ?_)
    rcases hv with ⟨-, rfl, rfl⟩ | ⟨h9, -⟩
    rotate_left
    · exact absurd h9 (by decide)
    show zW n D 252 Q 19 [some (.ref 170), some (.int x), some (.int y)] [.int (Int32.ofInt (-1))] ph994
    refine w_ret (v := (some (.int (Int32.ofInt (-1))))) (ykc_252 (e := (7, .ireturn, 0)) rfl) (zr_v rfl) ?_
    rw [hQ]
    exact Or.inl ⟨hbad, rfl, zMl_F f1 (by simp) (by simp) (by simp) (by simp) hL0, zMp_F f1 (by simp) (by simp) (by simp) hN0, hv2, ⟨gu2, hu15, fun i hi => by have h := hr i (by omega); unfold zWp at h; rwa [if_neg (by omega)] at h⟩, zMk_F f1 (by simp) (by simp) (by simp) hk, zMh_F f1 (by simp) (by simp) hh⟩
  · have f2 : zFr [174, 183] [(170, 0)] ph ph996 := zFr_trans (zFr_mono f1 (by simp) (by simp)) (zFr_st ua (Or.inl (by simp)))
    have hS3 := zSh_F f2 (by decide +kernel) hS
    have gu3 := (f2.1 170 27 (by simp) (by simp)).trans hU.1
    have hr3 := zUr_F (A := [174]) (F := []) (zFr_st ua (Or.inl (by simp))) (by simp) (by simp) hr
    
    show zW n D 252 Q 16 [some (.ref 170), some (.int (zn p)), some (.int (zn f))] [.int ((Int8.ofInt (-2)).toInt32), .ref 170] ph996
    refine w_cv (as := [.ref 170, .int ((Int8.ofInt (-2)).toInt32)]) (r := []) (ykc_252 (e := (6, .invokevirtual 380, 0)) rfl) rfl rfl rfl rfl (zm_counted (x := (Int8.ofInt (-2)).toInt32) hS3 gu3 hu15 hr3) (fun v999 ph1000 hv => ?_)
    rcases hv with ⟨-, rfl, rfl⟩ | ⟨h9, -⟩
    rotate_left
    · exact absurd h9 (by decide)
    show zW n D 252 Q 19 [some (.ref 170), some (.int (zn p)), some (.int (zn f))] [.int ((Int8.ofInt (-2)).toInt32)] ph996
    refine w_ret (v := (some (.int ((Int8.ofInt (-2)).toInt32)))) (ykc_252 (e := (7, .ireturn, 0)) rfl) (zr_v rfl) ?_
    rw [hQ]
    have hv3 := zNr_u ua hv2
    rw [znu_id hs9] at hv3
    exact Or.inr (Or.inl ⟨p, f, rfl, rfl, hp9, hf9, hs9, rfl, zMl_F f2 (by simp) (by simp) (by simp) (by simp) hL0, zMp_F f2 (by simp) (by simp) (by simp) hN0, hv3, ⟨gu3, hu15, fun i hi => by have h := hr3 i (by omega); unfold zWp at h; rwa [if_neg (by omega)] at h⟩, zMk_F f2 (by simp) (by simp) (by simp) hk, zMh_F f2 (by simp) (by simp) hh⟩)
  · have f2 : zFr [174, 183] [(170, 0)] ph ph996 := zFr_trans (zFr_mono f1 (by simp) (by simp)) (zFr_st ua (Or.inl (by simp)))
    have hS3 := zSh_F f2 (by decide +kernel) hS
    have gu3 := (f2.1 170 27 (by simp) (by simp)).trans hU.1
    have hr3 := zUr_F (A := [174]) (F := []) (zFr_st ua (Or.inl (by simp))) (by simp) (by simp) hr
    have hq := hO0.2.1 p (by omega)
    have t9 := znt (k := v (32 + p)) (by have := zRC49 hR7 hC7; omega)
    show zW n D 252 Q 16 [some (.ref 170), some (.int (zn p)), some (.int (zn f))] [.int (zn (v (32 + p))), .ref 170] ph996
    refine w_cv (as := [.ref 170, .int (zn (v (32 + p)))]) (r := []) (ykc_252 (e := (6, .invokevirtual 380, 0)) rfl) rfl rfl rfl rfl (zm_counted (x := zn (v (32 + p))) hS3 gu3 hu15 hr3) (fun v1001 ph1002 hv => ?_)
    rcases hv with ⟨h9, -⟩ | ⟨-, rfl, fa, ga, ra⟩
    · omega
    show zW n D 252 Q 19 [some (.ref 170), some (.int (zn p)), some (.int (zn f))] [.int (zn (v (32 + p)))] ph1002
    refine w_ret (v := (some (.int (zn (v (32 + p)))))) (ykc_252 (e := (7, .ireturn, 0)) rfl) (zr_v rfl) ?_
    rw [hQ]
    have f3 : zFr [174, 183] [(170, 0), (170, 27)] ph _ := zFr_trans (zFr_mono f2 (by simp) (by simp)) (zFr_mono fa (by simp) (by simp))
    exact (Or.inr ∘ Or.inr) ⟨p, f, rfl, rfl, hp9, hf9, hs9, rfl, zMl_F f3 (by simp) (by simp) (by simp) (by simp) hL0, zMp_F f3 (by simp) (by simp) (by simp) hN0, zNr_F fa (by simp) (by simp) (zNr_u ua hv2), ⟨ga, zAd_15 hu15, ra⟩, zMk_F f3 (by simp) (by simp) (by simp) hk, zMh_F f3 (by simp) (by simp) hh⟩
end
