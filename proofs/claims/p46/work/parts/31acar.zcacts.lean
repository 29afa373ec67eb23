/-! the class: what is kept, steps, acts, by W; printed by wip/z/z_p_cacts.py -/
theorem w_iar {n D j pc pc' aux A k m : Nat} {Q : Option Value → pm_H → Prop} {L : List (Option Value)} {st : List Value} {ph : pm_H} {x y : Int32} {f : Nat → Value} (hc : pm_code kK j pc = some (5, .iaload, aux)) (hA : Nat.blt A 1048576 = false) (hr : pm_rat kK A = some (0, m, f)) (hf : f k = .int y) (hx : x.toInt = (k : Int)) (hp : pc + 1 = pc') (kk : zW n D j Q pc' L (.int y :: st) ph) : zW n D j Q pc L (.int x :: .ref A :: st) ph := w_mem hc fun m' st2 ph2 c2 s2 hm => by
  subst hp
  have ha : pm_at ph A = none := by
    unfold pm_at
    rw [hA]
    rfl
  have e : x.toNatClampNeg = k := by
    show x.toInt.toNat = k
    omega
  unfold pm_mem at hm
  simp only [ha, hr, e, hf] at hm
  have hm := zbif hm
  cases hm
  exact kk
theorem zDN : ∃ m f, pm_rat kK 1048576 = some (0, m, f) ∧ ∀ k, k < 8 → f k = .int (Int32.ofInt (zdn k)) := ⟨_, _, rfl, fun k hk => by
  rcases (show k = 0 ∨ k = 1 ∨ k = 2 ∨ k = 3 ∨ k = 4 ∨ k = 5 ∨ k = 6 ∨ k = 7 by omega) with e | e | e | e | e | e | e | e <;> subst e <;> rfl⟩
theorem zRG : ∃ m f, pm_rat kK 1048577 = some (0, m, f) ∧ ∀ k, k < 8 → f k = .int (Int32.ofInt (zrg k)) := ⟨_, _, rfl, fun k hk => by
  rcases (show k = 0 ∨ k = 1 ∨ k = 2 ∨ k = 3 ∨ k = 4 ∨ k = 5 ∨ k = 6 ∨ k = 7 by omega) with e | e | e | e | e | e | e | e <;> subst e <;> rfl⟩
/-- the FIELD a step leads to where it is no rock, or -1 -/
def zbk (R C : Nat) (rk : Nat → Bool) (f w : Nat) : Int := if zin R C f w = true ∧ rk (zto C f w) = false then (zto C f w : Int) else -1
theorem zfa_to {R C f w : Nat} : zfa R C (((f / C : Nat) : Int) + zdn w) (((f % C : Nat) : Int) + zrg w) = if zin R C f w = true then (zto C f w : Int) else -1 := by
  unfold zfa zin zto
  by_cases h : 0 ≤ ((f / C : Nat) : Int) + zdn w ∧ ((f / C : Nat) : Int) + zdn w < (R : Int) ∧ 0 ≤ ((f % C : Nat) : Int) + zrg w ∧ ((f % C : Nat) : Int) + zrg w < (C : Int)
  · rw [if_pos h, if_pos (decide_eq_true h), Nat.mul_comm]
  · rw [if_neg h, if_neg (fun q => h (of_decide_eq_true q))]
theorem zc_beside {ph : pm_H} {R C : Nat} {rk : Nat → Bool} (hS : zSh ph) (hL : zCl ph R C rk) {f w : Nat} (hf : f < R * C) (hw : w < 8) : zM 46 [.ref 5, .int (zn f), .int (zn w)] ph (fun v0 q => ph = q ∧ ∃ z : Int32, v0 = some (.int z) ∧ z.toInt = zbk R C rk f w) := by
  obtain ⟨Q, hQ⟩ : ∃ Q : Option Value → pm_H → Prop, Q = (fun v0 q => ph = q ∧ ∃ z : Int32, v0 = some (.int z) ∧ z.toInt = zbk R C rk f w) := ⟨_, rfl⟩
  rw [← hQ]
  refine zM_mk fun n D => ?_
  show zW n D 46 Q 0 [some (.ref 5), some (.int (zn f)), some (.int (zn w)), none] [] ph
  have c_0 : ((Int8.ofInt 8).toInt32).toInt = 8 := by decide
  have c_1 : (Int32.ofInt (-1)).toInt = -1 := by decide
  have hL0 := hL
  obtain ⟨gR, gC, gN, gK, gA, hR3, hR7, hC3, hC7⟩ := hL
  have hRC := zRC49 hR7 hC7
  have tR := znt (k := R) (by omega)
  have tC := znt (k := C) (by omega)
  have tRC := znt (k := R * C) (by omega)
  have tf := znt (k := f) (by omega)
  have tw := znt (k := w) (by omega)
  have d1 := @zdn_b w
  have d2 := @zrt_b w
  obtain ⟨md, fd, rd, vd⟩ := zDN
  obtain ⟨mr, fr, rr, vr⟩ := zRG
  have td1 : (Int32.ofInt (zdn w)).toInt = zdn w := Int32.toInt_ofInt_of_le (by omega) (by omega)
  have td2 : (Int32.ofInt (zrg w)).toInt = zrg w := Int32.toInt_ofInt_of_le (by omega) (by omega)
  refine w_load (pc' := 1) (v := .ref 5) (m := 1) (ykc_46 (e := (2, .aload_n kF0, 0)) rfl) rfl rfl ?_
  refine w_load (pc' := 2) (v := .int (zn f)) (m := 1) (ykc_46 (e := (2, .iload_n kF1, 0)) rfl) rfl rfl ?_
  refine w_cv (as := [.ref 5, .int (zn f)]) (r := []) (ykc_46 (e := (6, .invokevirtual 64, 0)) rfl) rfl rfl rfl rfl (zc_holds hS hL0 (f := (zn f))) (fun v834 ph835 hv => ?_)
  obtain ⟨rfl, rfl⟩ := hv
  show zW n D 46 Q 5 [some (.ref 5), some (.int (zn f)), some (.int (zn w)), none] [.int (zI (decide (0 ≤ (zn f).toInt ∧ (zn f).toInt < ((R * C : Nat) : Int))))] ph
  refine w_beq (ykc_46 (e := (4, .ifCond .eq 13, 18)) rfl) rfl (fun q => by have := of_decide_eq_false q; omega) (fun b836 => ?_)
  refine w_load (pc' := 9) (v := .int (zn w)) (m := 1) (ykc_46 (e := (2, .iload_n kF2, 0)) rfl) rfl rfl ?_
  refine w_zlt (ykc_46 (e := (4, .ifCond .lt 9, 18)) rfl) rfl (fun q => by exfalso; omega) (fun b837 => ?_)
  refine w_load (pc' := 13) (v := .int (zn w)) (m := 1) (ykc_46 (e := (2, .iload_n kF2, 0)) rfl) rfl rfl ?_
  refine w_push (pc' := 15) (v := .int ((Int8.ofInt 8).toInt32)) (m := 2) (ykc_46 (e := (1, .bipush 8, 0)) rfl) rfl rfl ?_
  refine w_ilt (ykc_46 (e := (4, .if_icmp .lt 5, 20)) rfl) rfl (fun b838 => ?_) (fun q => by exfalso; omega)
  refine w_load (pc' := 21) (v := .ref 5) (m := 1) (ykc_46 (e := (2, .aload_n kF0, 0)) rfl) rfl rfl ?_
  refine w_load (pc' := 22) (v := .ref 5) (m := 1) (ykc_46 (e := (2, .aload_n kF0, 0)) rfl) rfl rfl ?_
  refine w_gf (pc' := 25) (v := .ref 6) (ykc_46 (e := (5, .getfield 9, 0)) rfl) rfl (zsg hS zs_5_5) rfl ?_
  refine w_load (pc' := 26) (v := .int (zn f)) (m := 1) (ykc_46 (e := (2, .iload_n kF1, 0)) rfl) rfl rfl ?_
  have q839 : f / C < R := (Nat.div_lt_iff_lt_mul (by omega)).mpr (show f < R * C by omega)
  have zq839 := Nat.zero_le (f / C)
  have tq839 := znt (k := f / C) (by omega)
  refine w_ialk (pc' := 27) (k := f) (ykc_46 (e := (5, .iaload, 0)) rfl) (gA f (by omega)).1 (by omega) rfl ?_
  refine w_push (pc' := 30) (v := .ref 1048576) (m := 3) (ykc_46 (e := (1, .getstatic 72, 0)) rfl) rfl rfl ?_
  refine w_load (pc' := 31) (v := .int (zn w)) (m := 1) (ykc_46 (e := (2, .iload_n kF2, 0)) rfl) rfl rfl ?_
  refine w_iar (pc' := 32) (k := w) (ykc_46 (e := (5, .iaload, 0)) rfl) rfl rd (vd w hw) (by omega) rfl ?_
  obtain ⟨z840, e_z840, h_z840⟩ : ∃ zq : Int32, (zn (f / C)) + (Int32.ofInt (zdn w)) = zq ∧ zq.toInt = ((f / C : Nat) : Int) + (zdn w) := ⟨_, rfl, (by have := ti_add (x := (zn (f / C))) (y := (Int32.ofInt (zdn w))) (by omega) (by omega); omega)⟩
  refine w_alu (pc' := 33) (st' := [.int z840, .ref 5]) (ykc_46 (e := (0, .iadd, 0)) rfl) (by rw [← e_z840]; rfl) rfl ?_
  refine w_load (pc' := 34) (v := .ref 5) (m := 1) (ykc_46 (e := (2, .aload_n kF0, 0)) rfl) rfl rfl ?_
  refine w_gf (pc' := 37) (v := .ref 7) (ykc_46 (e := (5, .getfield 15, 0)) rfl) rfl (zsg hS zs_5_6) rfl ?_
  refine w_load (pc' := 38) (v := .int (zn f)) (m := 1) (ykc_46 (e := (2, .iload_n kF1, 0)) rfl) rfl rfl ?_
  have q841 := Nat.mod_lt (f) (show 0 < C by omega)
  have zq841 := Nat.zero_le (f % C)
  have tq841 := znt (k := f % C) (by omega)
  refine w_ialk (pc' := 39) (k := f) (ykc_46 (e := (5, .iaload, 0)) rfl) (gA f (by omega)).2 (by omega) rfl ?_
  refine w_push (pc' := 42) (v := .ref 1048577) (m := 3) (ykc_46 (e := (1, .getstatic 75, 0)) rfl) rfl rfl ?_
  refine w_load (pc' := 43) (v := .int (zn w)) (m := 1) (ykc_46 (e := (2, .iload_n kF2, 0)) rfl) rfl rfl ?_
  refine w_iar (pc' := 44) (k := w) (ykc_46 (e := (5, .iaload, 0)) rfl) rfl rr (vr w hw) (by omega) rfl ?_
  obtain ⟨z842, e_z842, h_z842⟩ : ∃ zq : Int32, (zn (f % C)) + (Int32.ofInt (zrg w)) = zq ∧ zq.toInt = ((f % C : Nat) : Int) + (zrg w) := ⟨_, rfl, (by have := ti_add (x := (zn (f % C))) (y := (Int32.ofInt (zrg w))) (by omega) (by omega); omega)⟩
  refine w_alu (pc' := 45) (st' := [.int z842, .int z840, .ref 5]) (ykc_46 (e := (0, .iadd, 0)) rfl) (by rw [← e_z842]; rfl) rfl ?_
  refine w_cv (as := [.ref 5, .int z840, .int z842]) (r := []) (ykc_46 (e := (6, .invokevirtual 78, 0)) rfl) rfl rfl rfl rfl (zc_fat hS hL0 (x := z840) (y := z842)) (fun v844 ph845 hv => ?_)
  obtain ⟨rfl, g843, rfl, hz_g843⟩ := hv
  rw [show z840.toInt = ((f / C : Nat) : Int) + zdn w by omega, show z842.toInt = ((f % C : Nat) : Int) + zrg w by omega, zfa_to] at hz_g843
  have hzb : -1 ≤ g843.toInt ∧ g843.toInt < ((R * C : Nat) : Int) := by
    rw [hz_g843]
    split
    · next h => have := zto_lt h; omega
    · omega
  show zW n D 46 Q 48 [some (.ref 5), some (.int (zn f)), some (.int (zn w)), none] [.int g843] ph
  refine w_store (pc' := 49) (L' := [some (.ref 5), some (.int (zn f)), some (.int (zn w)), some (.int g843)]) (st' := []) (m := 1) (ykc_46 (e := (3, .istore_n kF3, 0)) rfl) rfl rfl ?_
  refine w_load (pc' := 50) (v := .ref 5) (m := 1) (ykc_46 (e := (2, .aload_n kF0, 0)) rfl) rfl rfl ?_
  refine w_load (pc' := 51) (v := .int g843) (m := 1) (ykc_46 (e := (2, .iload_n kF3, 0)) rfl) rfl rfl ?_
  refine w_cv (as := [.ref 5, .int g843]) (r := []) (ykc_46 (e := (6, .invokevirtual 82, 0)) rfl) rfl rfl rfl rfl (zc_rock hS hL0 (f := g843) (by omega)) (fun v846 ph847 hv => ?_)
  obtain ⟨rfl, rfl⟩ := hv
  show zW n D 46 Q 54 [some (.ref 5), some (.int (zn f)), some (.int (zn w)), some (.int g843)] [.int (zI (decide (0 ≤ g843.toInt) && rk g843.toInt.toNat))] ph
  refine w_beq (ykc_46 (e := (4, .ifCond .eq 7, 61)) rfl) rfl (fun b848 => ?_) (fun b848 => ?_)
  · refine w_load (pc' := 62) (v := .int g843) (m := 1) (ykc_46 (e := (2, .iload_n kF3, 0)) rfl) rfl rfl ?_
    refine w_ret (v := (some (.int g843))) (ykc_46 (e := (7, .ireturn, 0)) rfl) (zr_v rfl) ?_
    rw [hQ]
    refine ⟨rfl, _, rfl, ?_⟩
    unfold zbk
    by_cases hin : zin R C f w = true
    · rw [if_pos hin] at hz_g843
      have h1 := b848
      rw [decide_eq_true (show 0 ≤ g843.toInt by omega), Bool.true_and, show g843.toInt.toNat = zto C f w by omega] at h1
      rw [if_pos ⟨hin, h1⟩]
      exact hz_g843
    · rw [if_neg hin] at hz_g843
      rw [if_neg (fun q => hin q.1)]
      exact hz_g843
  · refine w_alu (pc' := 58) (st' := [.int (Int32.ofInt (-1))]) (ykc_46 (e := (0, .iconst (-1), 0)) rfl) rfl rfl ?_
    refine w_br (pc' := 62) (st' := [.int (Int32.ofInt (-1))]) (ykc_46 (e := (4, .goto 4, 62)) rfl) rfl ?_
    refine w_ret (v := (some (.int (Int32.ofInt (-1))))) (ykc_46 (e := (7, .ireturn, 0)) rfl) (zr_v rfl) ?_
    rw [hQ]
    refine ⟨rfl, _, rfl, ?_⟩
    have h1 := (Bool.and_eq_true _ _).mp b848
    have h2 := of_decide_eq_true h1.1
    have hin : zin R C f w = true := by
      apply Classical.byContradiction
      intro q
      rw [if_neg q] at hz_g843
      omega
    rw [if_pos hin] at hz_g843
    have h3 := h1.2
    rw [show g843.toInt.toNat = zto C f w by omega] at h3
    unfold zbk
    rw [if_neg (fun q => by rw [h3] at q; exact absurd q.2 (by decide))]
    omega
theorem zbit8 : ∀ b, b < 8 → ∀ i, i < 3 → (zn b >>> (zn i &&& 31)) &&& Int32.ofInt 1 = zI (b.testBit i) := by decide +kernel
theorem zset8 : ∀ b, b < 8 → ∀ i, i < 3 → zn b ||| (Int32.ofInt 1 <<< (zn i &&& 31)) = zn (b ||| 2 ^ i) ∧ b ||| 2 ^ i < 8 := by decide +kernel
theorem zc_hold {ph : pm_H} (hS : zSh ph) {x : Int32} {P G fl : Nat} {v : Nat → Nat} (hd : zSd ph 25 P G v) (hfl : zc ph 43 4 = some (.int (zn fl))) (h8 : fl < 8) : zM 31 [.ref 43, .int x, .ref 25] ph (fun v0 q => ((x.toInt < 0 ∨ 3 ≤ x.toInt) ∧ ph = q ∧ v0 = some (.int (zI false))) ∨ (∃ i, x.toInt = (i : Nat) ∧ i < 3 ∧ v0 = some (.int (zI true)) ∧ (∃ q1, zCo (136 + 6 * i) ph q1 ∧ zst q1 q 43 4 (.int (zn (fl ||| 2 ^ i)))) ∧ zSd q (136 + 6 * i) P G v)) := by
  obtain ⟨Q, hQ⟩ : ∃ Q : Option Value → pm_H → Prop, Q = (fun v0 q => ((x.toInt < 0 ∨ 3 ≤ x.toInt) ∧ ph = q ∧ v0 = some (.int (zI false))) ∨ (∃ i, x.toInt = (i : Nat) ∧ i < 3 ∧ v0 = some (.int (zI true)) ∧ (∃ q1, zCo (136 + 6 * i) ph q1 ∧ zst q1 q 43 4 (.int (zn (fl ||| 2 ^ i)))) ∧ zSd q (136 + 6 * i) P G v)) := ⟨_, rfl⟩
  rw [← hQ]
  refine zM_mk fun n D => ?_
  show zW n D 31 Q 0 [some (.ref 43), some (.int x), some (.ref 25)] [] ph
  have c_0 : (Int32.ofInt 0).toInt = 0 := by decide
  have c_1 : (Int32.ofInt 1).toInt = 1 := by decide
  have c_2 : (Int32.ofInt 3).toInt = 3 := by decide
  have tfl := znt (k := fl) (by omega)
  refine w_load (pc' := 1) (v := .int x) (m := 1) (ykc_31 (e := (2, .iload_n kF1, 0)) rfl) rfl rfl ?_
  refine w_zlt (ykc_31 (e := (4, .ifCond .lt 8, 9)) rfl) rfl (fun b849 => ?_) (fun b849 => ?_)
  · refine w_alu (pc' := 10) (st' := [.int (Int32.ofInt 0)]) (ykc_31 (e := (0, .iconst 0, 0)) rfl) rfl rfl ?_
    refine w_ret (v := (some (.int (Int32.ofInt 0)))) (ykc_31 (e := (7, .ireturn, 0)) rfl) zr_z ?_
    rw [hQ, zi0]
    exact Or.inl ⟨by omega, rfl, rfl⟩
  · refine w_load (pc' := 5) (v := .int x) (m := 1) (ykc_31 (e := (2, .iload_n kF1, 0)) rfl) rfl rfl ?_
    refine w_alu (pc' := 6) (st' := [.int (Int32.ofInt 3), .int x]) (ykc_31 (e := (0, .iconst 3, 0)) rfl) rfl rfl ?_
    refine w_ilt (ykc_31 (e := (4, .if_icmp .lt 5, 11)) rfl) rfl (fun b850 => ?_) (fun b850 => ?_)
    · obtain ⟨i, hi⟩ : ∃ i : Nat, x.toInt = (i : Int) := ⟨x.toInt.toNat, by omega⟩
      obtain rfl := zn_of hi
      show zW n D 31 Q 11 [some (.ref 43), some (.int (zn i)), some (.ref 25)] [] ph
      refine w_load (pc' := 12) (v := .ref 43) (m := 1) (ykc_31 (e := (2, .aload_n kF0, 0)) rfl) rfl rfl ?_
      refine w_gf (pc' := 15) (v := .ref 135) (ykc_31 (e := (5, .getfield 16, 0)) rfl) rfl (zsg hS zs_43_3) rfl ?_
      refine w_load (pc' := 16) (v := .int (zn i)) (m := 1) (ykc_31 (e := (2, .iload_n kF1, 0)) rfl) rfl rfl ?_
      refine w_aalk (pc' := 17) (k := i) (ykc_31 (e := (5, .aaload, 0)) rfl) (hS.1 _ _ _ (zs_135 i (by omega))) (by omega) rfl ?_
      refine w_load (pc' := 18) (v := .ref 25) (m := 1) (ykc_31 (e := (2, .aload_n kF2, 0)) rfl) rfl rfl ?_
      refine w_cv (as := [.ref (136 + 6 * i), .ref 25]) (r := []) (ykc_31 (e := (6, .invokevirtual 29, 0)) rfl) rfl rfl rfl rfl (zc_copy (zSs_of hS (S := 25) (by decide)) (zSs_of hS (zSadr_shelf (by omega))) hd (by omega)) (fun v851 ph852 hv => ?_)
      obtain ⟨rfl, fc, fd⟩ := hv
      show zW n D 31 Q 21 [some (.ref 43), some (.int (zn i)), some (.ref 25)] [] ph852
      refine w_load (pc' := 22) (v := .ref 43) (m := 1) (ykc_31 (e := (2, .aload_n kF0, 0)) rfl) rfl rfl ?_
      refine w_alu (pc' := 23) (st' := [.ref 43, .ref 43]) (ykc_31 (e := (0, .dup, 0)) rfl) rfl rfl ?_
      refine w_gf (pc' := 26) (v := .int (zn fl)) (ykc_31 (e := (5, .getfield 19, 0)) rfl) rfl ((fc.1 43 4 (by simp <;> omega) (by simp <;> omega)).trans hfl) rfl ?_
      refine w_alu (pc' := 27) (st' := [.int (Int32.ofInt 1), .int (zn fl), .ref 43]) (ykc_31 (e := (0, .iconst 1, 0)) rfl) rfl rfl ?_
      refine w_load (pc' := 28) (v := .int (zn i)) (m := 1) (ykc_31 (e := (2, .iload_n kF1, 0)) rfl) rfl rfl ?_
      refine w_alu (pc' := 29) (st' := [.int ((Int32.ofInt 1) <<< ((zn i) &&& 31)), .int (zn fl), .ref 43]) (ykc_31 (e := (0, .ishl, 0)) rfl) rfl rfl ?_
      refine w_alu (pc' := 30) (st' := [.int (zn (fl ||| 2 ^ i)), .ref 43]) (ykc_31 (e := (0, .ior, 0)) rfl) (by rw [← ((zset8 fl h8 i (by omega)).1 : (zn fl) ||| ((Int32.ofInt 1) <<< ((zn i) &&& 31)) = zn (fl ||| 2 ^ i))]; rfl) rfl ?_
      refine w_pf (pc' := 33) (ykc_31 (e := (5, .putfield 19, 0)) rfl) rfl rfl (fun ph854 u853 => ?_)
      refine w_alu (pc' := 34) (st' := [.int (Int32.ofInt 1)]) (ykc_31 (e := (0, .iconst 1, 0)) rfl) rfl rfl ?_
      refine w_ret (v := (some (.int (Int32.ofInt 1)))) (ykc_31 (e := (7, .ireturn, 0)) rfl) zr_z ?_
      rw [hQ, zi1]
      exact Or.inr ⟨i, hi, by omega, rfl, ⟨_, fc, u853⟩, zSd_F (A := []) (F := [(43, 4)]) (zFr_st u853 (Or.inr (by simp))) (by intro j hj; simp) (by intro j k hj; simp <;> omega) fd⟩
    · refine w_alu (pc' := 10) (st' := [.int (Int32.ofInt 0)]) (ykc_31 (e := (0, .iconst 0, 0)) rfl) rfl rfl ?_
      refine w_ret (v := (some (.int (Int32.ofInt 0)))) (ykc_31 (e := (7, .ireturn, 0)) rfl) zr_z ?_
      rw [hQ, zi0]
      exact Or.inl ⟨by omega, rfl, rfl⟩
theorem zc_bring {ph : pm_H} (hS : zSh ph) {x : Int32} {P G fl : Nat} {v : Nat → Nat → Nat} (hd : ∀ i, i < 3 → fl.testBit i = true → zSd ph (136 + 6 * i) P G (v i)) (hfl : zc ph 43 4 = some (.int (zn fl))) (h8 : fl < 8) : zM 32 [.ref 43, .int x, .ref 25] ph (fun v0 q => ((x.toInt < 0 ∨ 3 ≤ x.toInt ∨ fl.testBit x.toInt.toNat = false) ∧ ph = q ∧ v0 = some (.int (zI false))) ∨ (∃ i, x.toInt = (i : Nat) ∧ i < 3 ∧ fl.testBit i = true ∧ v0 = some (.int (zI true)) ∧ (∃ q1, zCo 25 ph q1 ∧ zst q1 q 43 2 (.int (Int32.ofInt 0))) ∧ zSd q 25 P G (v i))) := by
  obtain ⟨Q, hQ⟩ : ∃ Q : Option Value → pm_H → Prop, Q = (fun v0 q => ((x.toInt < 0 ∨ 3 ≤ x.toInt ∨ fl.testBit x.toInt.toNat = false) ∧ ph = q ∧ v0 = some (.int (zI false))) ∨ (∃ i, x.toInt = (i : Nat) ∧ i < 3 ∧ fl.testBit i = true ∧ v0 = some (.int (zI true)) ∧ (∃ q1, zCo 25 ph q1 ∧ zst q1 q 43 2 (.int (Int32.ofInt 0))) ∧ zSd q 25 P G (v i))) := ⟨_, rfl⟩
  rw [← hQ]
  refine zM_mk fun n D => ?_
  show zW n D 32 Q 0 [some (.ref 43), some (.int x), some (.ref 25)] [] ph
  have c_0 : (Int32.ofInt 0).toInt = 0 := by decide
  have c_1 : (Int32.ofInt 1).toInt = 1 := by decide
  have c_2 : (Int32.ofInt 3).toInt = 3 := by decide
  have tfl := znt (k := fl) (by omega)
  refine w_load (pc' := 1) (v := .int x) (m := 1) (ykc_32 (e := (2, .iload_n kF1, 0)) rfl) rfl rfl ?_
  refine w_zlt (ykc_32 (e := (4, .ifCond .lt 19, 20)) rfl) rfl (fun b855 => ?_) (fun b855 => ?_)
  · refine w_alu (pc' := 21) (st' := [.int (Int32.ofInt 0)]) (ykc_32 (e := (0, .iconst 0, 0)) rfl) rfl rfl ?_
    refine w_ret (v := (some (.int (Int32.ofInt 0)))) (ykc_32 (e := (7, .ireturn, 0)) rfl) zr_z ?_
    rw [hQ, zi0]
    exact Or.inl ⟨by omega, rfl, rfl⟩
  · refine w_load (pc' := 5) (v := .int x) (m := 1) (ykc_32 (e := (2, .iload_n kF1, 0)) rfl) rfl rfl ?_
    refine w_alu (pc' := 6) (st' := [.int (Int32.ofInt 3), .int x]) (ykc_32 (e := (0, .iconst 3, 0)) rfl) rfl rfl ?_
    refine w_ige (ykc_32 (e := (4, .if_icmp .ge 14, 20)) rfl) rfl (fun b856 => ?_) (fun b856 => ?_)
    · refine w_alu (pc' := 21) (st' := [.int (Int32.ofInt 0)]) (ykc_32 (e := (0, .iconst 0, 0)) rfl) rfl rfl ?_
      refine w_ret (v := (some (.int (Int32.ofInt 0)))) (ykc_32 (e := (7, .ireturn, 0)) rfl) zr_z ?_
      rw [hQ, zi0]
      exact Or.inl ⟨by omega, rfl, rfl⟩
    · obtain ⟨i, hi⟩ : ∃ i : Nat, x.toInt = (i : Int) := ⟨x.toInt.toNat, by omega⟩
      obtain rfl := zn_of hi
      show zW n D 32 Q 9 [some (.ref 43), some (.int (zn i)), some (.ref 25)] [] ph
      refine w_load (pc' := 10) (v := .ref 43) (m := 1) (ykc_32 (e := (2, .aload_n kF0, 0)) rfl) rfl rfl ?_
      refine w_gf (pc' := 13) (v := .int (zn fl)) (ykc_32 (e := (5, .getfield 19, 0)) rfl) rfl hfl rfl ?_
      refine w_load (pc' := 14) (v := .int (zn i)) (m := 1) (ykc_32 (e := (2, .iload_n kF1, 0)) rfl) rfl rfl ?_
      refine w_alu (pc' := 15) (st' := [.int ((zn fl) >>> ((zn i) &&& 31))]) (ykc_32 (e := (0, .ishr, 0)) rfl) rfl rfl ?_
      refine w_alu (pc' := 16) (st' := [.int (Int32.ofInt 1), .int ((zn fl) >>> ((zn i) &&& 31))]) (ykc_32 (e := (0, .iconst 1, 0)) rfl) rfl rfl ?_
      refine w_alu (pc' := 17) (st' := [.int (zI (fl.testBit i))]) (ykc_32 (e := (0, .iand, 0)) rfl) (by rw [← (zbit8 fl h8 i (by omega) : ((zn fl) >>> ((zn i) &&& 31)) &&& (Int32.ofInt 1) = zI (fl.testBit i))]; rfl) rfl ?_
      refine w_bne (ykc_32 (e := (4, .ifCond .ne 5, 22)) rfl) rfl (fun b857 => ?_) (fun b857 => ?_)
      · refine w_load (pc' := 23) (v := .ref 25) (m := 1) (ykc_32 (e := (2, .aload_n kF2, 0)) rfl) rfl rfl ?_
        refine w_load (pc' := 24) (v := .ref 43) (m := 1) (ykc_32 (e := (2, .aload_n kF0, 0)) rfl) rfl rfl ?_
        refine w_gf (pc' := 27) (v := .ref 135) (ykc_32 (e := (5, .getfield 16, 0)) rfl) rfl (zsg hS zs_43_3) rfl ?_
        refine w_load (pc' := 28) (v := .int (zn i)) (m := 1) (ykc_32 (e := (2, .iload_n kF1, 0)) rfl) rfl rfl ?_
        refine w_aalk (pc' := 29) (k := i) (ykc_32 (e := (5, .aaload, 0)) rfl) (hS.1 _ _ _ (zs_135 i (by omega))) (by omega) rfl ?_
        refine w_cv (as := [.ref 25, .ref (136 + 6 * i)]) (r := []) (ykc_32 (e := (6, .invokevirtual 29, 0)) rfl) rfl rfl rfl rfl (zc_copy (zSs_of hS (zSadr_shelf (by omega))) (zSs_of hS (S := 25) (by decide)) (hd i (by omega) b857) (by omega)) (fun v858 ph859 hv => ?_)
        obtain ⟨rfl, fc, fd⟩ := hv
        show zW n D 32 Q 32 [some (.ref 43), some (.int (zn i)), some (.ref 25)] [] ph859
        refine w_load (pc' := 33) (v := .ref 43) (m := 1) (ykc_32 (e := (2, .aload_n kF0, 0)) rfl) rfl rfl ?_
        refine w_alu (pc' := 34) (st' := [.int (Int32.ofInt 0), .ref 43]) (ykc_32 (e := (0, .iconst 0, 0)) rfl) rfl rfl ?_
        refine w_pf (pc' := 37) (ykc_32 (e := (5, .putfield 26, 0)) rfl) rfl rfl (fun ph861 u860 => ?_)
        refine w_alu (pc' := 38) (st' := [.int (Int32.ofInt 1)]) (ykc_32 (e := (0, .iconst 1, 0)) rfl) rfl rfl ?_
        refine w_ret (v := (some (.int (Int32.ofInt 1)))) (ykc_32 (e := (7, .ireturn, 0)) rfl) zr_z ?_
        rw [hQ, zi1]
        exact Or.inr ⟨i, hi, by omega, b857, rfl, ⟨_, fc, u860⟩, zSd_F (A := []) (F := [(43, 2)]) (zFr_st u860 (Or.inr (by simp))) (by intro j hj; simp) (by intro j k hj; simp <;> omega) fd⟩
      · refine w_alu (pc' := 21) (st' := [.int (Int32.ofInt 0)]) (ykc_32 (e := (0, .iconst 0, 0)) rfl) rfl rfl ?_
        refine w_ret (v := (some (.int (Int32.ofInt 0)))) (ykc_32 (e := (7, .ireturn, 0)) rfl) zr_z ?_
        rw [hQ, zi0]
        exact Or.inl ⟨Or.inr (Or.inr (by rw [hi]; exact b857)), rfl, rfl⟩
