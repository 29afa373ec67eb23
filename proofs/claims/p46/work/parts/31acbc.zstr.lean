/-! strings, texts, by W; printed by wip/z/z1a_str.py -/
theorem zm1sub {y : Int32} {d : Int} (hy : y.toInt = d) (h1 : -1000 ≤ d) (h2 : d ≤ 2147483647) : ((Int32.ofInt (-1)) - y).toInt = (-1 : Int) - d := by
  have h := ti_sub (x := Int32.ofInt (-1)) (y := y) (by rw [hy, show (Int32.ofInt (-1)).toInt = -1 by decide]; omega) (by rw [hy, show (Int32.ofInt (-1)).toInt = -1 by decide]; omega)
  rw [h, hy, show (Int32.ofInt (-1)).toInt = -1 by decide]
theorem zbif2 {α : Type} {b : Bool} {x : Option α} {y : α} (h : (bif b then x else none) = some y) : x = some y := by
  cases b with
  | false => cases h
  | true => exact h
theorem zb4 {α : Type} {a b c d : Bool} {X w : α} (h : (bif a then some X else bif b then some X else bif c then some X else bif d then some X else none) = some w) : w = X := by
  cases a <;> cases b <;> cases c <;> cases d <;> first | exact (Option.some.inj h).symm | cases h
theorem zr_i {kd : Nat} {x : Int32} : ∀ w, pm_ret kd .ireturn [.int x] = some w → w = some (.int x) := fun w h => zb4 h
theorem zgf7 {K : pm_K} {al : Bool} {ow fi k i i9 A m' c2 s2 : Nat} {v v0 : Value} {st st2 : List Value} {ph ph2 : pm_H} (hl : pm_lnk K ow fi = some (7, k, i, v0)) (hA : Nat.blt A 1048576 = false) (ha : A - 1048576 = i9) (hr : pm_ro K i9 k = some v) (hm : pm_mem K al ow (.getfield fi) (.ref A :: st) ph = some (m', st2, ph2, c2, s2)) : 3 = m' ∧ v :: st = st2 ∧ ph = ph2 := by
  unfold pm_mem at hm
  simp only [hl, hA, cond_false, ha, hr] at hm
  cases hm
  exact ⟨rfl, rfl, rfl⟩
theorem zin2 {K : pm_K} {ow fi na i9 A j' j2 : Nat} {st r as2 r2 : List Value} {ph : pm_H} (hl : pm_lnk K ow fi = some (2, j', na, .null)) (hd : st.drop na = .ref A :: r) (hA : Nat.blt A 1048576 = false) (ha : A - 1048576 = i9) (hi : pm_inv K ow (.invokevirtual fi) st ph = some (j2, as2, r2)) : j' = j2 ∧ .ref A :: (st.take na).reverse = as2 ∧ r = r2 := by
  unfold pm_inv at hi
  simp only [hl, hd, hA, cond_false, ha] at hi
  cases hq : pm_ro K i9 0 with
  | none => simp only [hq] at hi; cases hi
  | some c =>
    simp only [hq] at hi
    have hi := zbif hi
    cases hi
    exact ⟨rfl, rfl, rfl⟩
section ZSR
variable {n D j pc pc' aux na fi ci k A B i i9 m : Nat} {Q : Option Value → pm_H → Prop} {ins : Instr} {L : List (Option Value)} {st r as : List Value} {ph : pm_H} {v v0 : Value}
theorem zat_hi (hA : Nat.blt A 1048576 = false) : pm_at ph A = none := by
  unfold pm_at
  rw [hA]
  rfl
theorem w_gfr (hc : pm_code kK j pc = some (5, .getfield fi, aux)) (hl : pm_lnk kK (pm_own kK j) fi = some (7, k, i, v0)) (hA : Nat.blt A 1048576 = false ∧ A - 1048576 = i9) (hr : pm_ro kK i9 k = some v) (hp : pc + 3 = pc') (kk : zW n D j Q pc' L (v :: st) ph) : zW n D j Q pc L (.ref A :: st) ph := w_mem hc fun m' st2 ph2 c2 s2 hm => by
  obtain ⟨e1, e2, e3⟩ := zgf7 hl hA.1 hA.2 hr hm
  subst hp e1 e2 e3
  exact kk
theorem w_alr {t : Nat} {f : Nat → Value} (hc : pm_code kK j pc = some (5, .arraylength, aux)) (hr : Nat.blt A 1048576 = false ∧ pm_rat kK A = some (t, m, f)) (hp : pc + 1 = pc') (kk : zW n D j Q pc' L (.int (Int32.ofNat m) :: st) ph) : zW n D j Q pc L (.ref A :: st) ph := w_mem hc fun m' st2 ph2 c2 s2 hm => by
  subst hp
  unfold pm_mem at hm
  simp only [zat_hi hr.1, hr.2] at hm
  cases hm
  exact kk
theorem w_blr {x y : Int32} {f : Nat → Value} (hc : pm_code kK j pc = some (5, .baload, aux)) (hr : Nat.blt A 1048576 = false ∧ pm_rat kK A = some (3, m, f) ∧ f k = .int y) (hx : x.toInt = (k : Int)) (hp : pc + 1 = pc') (kk : zW n D j Q pc' L (.int y :: st) ph) : zW n D j Q pc L (.int x :: .ref A :: st) ph := w_mem hc fun m' st2 ph2 c2 s2 hm => by
  subst hp
  have e : x.toNatClampNeg = k := by
    show x.toInt.toNat = k
    omega
  unfold pm_mem at hm
  simp only [zat_hi hr.1, hr.2.1, e, hr.2.2] at hm
  have hm := zbif hm
  cases hm
  exact kk
theorem w_cvr {j' : Nat} {P : Option Value → pm_H → Prop} (hA : Nat.blt A 1048576 = false ∧ A - 1048576 = i9) (hc : pm_code kK j pc = some (6, .invokevirtual fi, aux)) (hl : pm_lnk kK (pm_own kK j) fi = some (2, j', na, .null)) (hd : st.drop na = .ref A :: r) (ha : .ref A :: (st.take na).reverse = as) (hp : pc + 3 = pc') (hz : zM j' as ph P) (kk : ∀ v ph', P v ph' → zW n D j Q pc' L (v.toList ++ r) ph') : zW n D j Q pc L st ph := w_inv hc fun j2 as2 r2 hi => by
  obtain ⟨e1, e2, e3⟩ := zin2 hl hd hA.1 hA.2 hi
  subst hp ha e1 e2 e3
  exact ⟨P, hz, kk⟩
theorem w_mac {j' : Nat} {P : Option Value → pm_H → Prop} {x y : Int32} (hc : pm_code kK j pc = some (8, ins, aux)) (hl : pm_lnk kK (pm_own kK j) aux = some (1, j', 3, v0)) (hp : pc + 6 = pc') (hz : zM j' [.int x, .int y, .null] ph P) (kk : ∀ v ph', P v ph' → zW n D j Q pc' L (v.toList ++ r) ph') : zW n D j Q pc L (.int y :: .int x :: r) ph := fun k hk cs ss r9 hr => by
  cases k with
  | zero => exact hr.elim
  | succ k =>
    rw [pm_Tn] at hr
    unfold pm_step at hr
    simp only [hc] at hr
    cases hm : pm_mac kK (pm_own kK j) aux (.int y :: .int x :: r) ph with
    | none => simp only [hm] at hr
    | some q =>
      obtain ⟨j2, as2, r2⟩ := q
      simp only [hm] at hr
      obtain ⟨v, ph', c1, s1, h1, h2⟩ := hr
      unfold pm_mac at hm
      have hm := zbif2 hm
      unfold pm_inv at hm
      simp only [hl] at hm
      have hm := zbif hm
      cases hm
      subst hp
      exact kk v ph' (hz D _ h1) k (by omega) _ _ r9 h2
end ZSR
/-- a string at s, its signs at B, so many of them, cs -/
def zStr (s B N : Nat) (cs : Nat → Nat) : Prop := ∃ i9, (Nat.blt s 1048576 = false ∧ s - 1048576 = i9) ∧ pm_ro kK i9 0 = some (.ref B) ∧ pm_ro kK i9 1 = some (.int 0) ∧ Nat.blt B 1048576 = false ∧ N ≤ 20 ∧ ∃ f, pm_rat kK B = some (3, N, f) ∧ ∀ k, k < N → f k = .int (zn (cs k)) ∧ cs k < 128
def zls (l : List Nat) (k : Nat) : Nat := l.getD k 0
theorem zchr : ∀ c, c < 128 → (((zn c &&& (Int16.ofInt 255).toInt32).toUInt32 % 65536).toInt32) = zn c := by decide
theorem zstr_dot : zStr 1048627 1048587 2 (zls [46, 35]) := ⟨_, ⟨rfl, rfl⟩, rfl, rfl, rfl, by decide, _, rfl, fun k hk => by
  rcases (show k = 0 ∨ k = 1 by omega) with e | e <;> subst e <;> exact ⟨rfl, by decide⟩⟩
theorem zstr_lets : zStr 1048628 1048588 8 (zls [98, 108, 107, 102, 114, 99, 110, 112]) := ⟨_, ⟨rfl, rfl⟩, rfl, rfl, rfl, by decide, _, rfl, fun k hk => by
  rcases (show k = 0 ∨ k = 1 ∨ k = 2 ∨ k = 3 ∨ k = 4 ∨ k = 5 ∨ k = 6 ∨ k = 7 by omega) with e | e | e | e | e | e | e | e <;> subst e <;> exact ⟨rfl, by decide⟩⟩
theorem zstr_cmp : zStr 1048629 1048589 3 (zls [60, 62, 61]) := ⟨_, ⟨rfl, rfl⟩, rfl, rfl, rfl, by decide, _, rfl, fun k hk => by
  rcases (show k = 0 ∨ k = 1 ∨ k = 2 by omega) with e | e | e <;> subst e <;> exact ⟨rfl, by decide⟩⟩
theorem zstr_add : zStr 1048630 1048590 2 (zls [43, 45]) := ⟨_, ⟨rfl, rfl⟩, rfl, rfl, rfl, by decide, _, rfl, fun k hk => by
  rcases (show k = 0 ∨ k = 1 by omega) with e | e <;> subst e <;> exact ⟨rfl, by decide⟩⟩
theorem zstr_mul : zStr 1048631 1048591 2 (zls [42, 47]) := ⟨_, ⟨rfl, rfl⟩, rfl, rfl, rfl, by decide, _, rfl, fun k hk => by
  rcases (show k = 0 ∨ k = 1 by omega) with e | e <;> subst e <;> exact ⟨rfl, by decide⟩⟩
theorem zstr_day : zStr 1048632 1048592 5 (zls [110, 102, 103, 98, 112]) := ⟨_, ⟨rfl, rfl⟩, rfl, rfl, rfl, by decide, _, rfl, fun k hk => by
  rcases (show k = 0 ∨ k = 1 ∨ k = 2 ∨ k = 3 ∨ k = 4 by omega) with e | e | e | e | e <;> subst e <;> exact ⟨rfl, by decide⟩⟩
theorem zstr_letc : zStr 1048626 1048586 8 (zls [98, 108, 107, 102, 114, 99, 110, 112]) := ⟨_, ⟨rfl, rfl⟩, rfl, rfl, rfl, by decide, _, rfl, fun k hk => by
  rcases (show k = 0 ∨ k = 1 ∨ k = 2 ∨ k = 3 ∨ k = 4 ∨ k = 5 ∨ k = 6 ∨ k = 7 by omega) with e | e | e | e | e | e | e | e <;> subst e <;> exact ⟨rfl, by decide⟩⟩
theorem zj_latin {s B N : Nat} {cs : Nat → Nat} {ph : pm_H} (hst : zStr s B N cs) : zM 311 [.ref s] ph (fun v q => ph = q ∧ v = some (.int (zI true))) := by
  obtain ⟨Q, hQ⟩ : ∃ Q : Option Value → pm_H → Prop, Q = (fun v q => ph = q ∧ v = some (.int (zI true))) := ⟨_, rfl⟩
  rw [← hQ]
  refine zM_mk fun n D => ?_
  show zW n D 311 Q 0 [some (.ref s)] [] ph
  have c_0 : (Int32.ofInt 0).toInt = 0 := by decide +kernel
  have c_1 : (Int32.ofInt 1).toInt = 1 := by decide +kernel
  obtain ⟨i9, s1, s2, s3, s4, s5, f, s6, s7⟩ := hst
  have k0 : (0 : Int32).toInt = 0 := by decide
  have k1 : (1 : Int32).toInt = 1 := by decide
  refine w_push (pc' := 3) (v := .int (1 : Int32)) (m := 3) (ykc_311 (e := (1, .getstatic 38, 0)) rfl) rfl rfl ?_
  refine w_zeq (ykc_311 (e := (4, .ifCond .eq 14, 17)) rfl) rfl (fun q => by exfalso; omega) (fun b1395 => ?_)
  refine w_load (pc' := 7) (v := .ref s) (m := 1) (ykc_311 (e := (2, .aload_n kF0, 0)) rfl) rfl rfl ?_
  refine w_gfr (pc' := 10) (v := .int 0) (ykc_311 (e := (5, .getfield 15, 0)) rfl) rfl s1 s3 rfl ?_
  refine w_zne (ykc_311 (e := (4, .ifCond .ne 7, 17)) rfl) rfl (fun q => by exfalso; omega) (fun b1396 => ?_)
  refine w_alu (pc' := 14) (st' := [.int (Int32.ofInt 1)]) (ykc_311 (e := (0, .iconst 1, 0)) rfl) rfl rfl ?_
  refine w_br (pc' := 18) (st' := [.int (Int32.ofInt 1)]) (ykc_311 (e := (4, .goto 4, 18)) rfl) rfl ?_
  refine w_ret (v := (some (.int (Int32.ofInt 1)))) (ykc_311 (e := (7, .ireturn, 0)) rfl) zr_z ?_
  rw [hQ, zi1]
  exact ⟨rfl, rfl⟩
theorem zj_coder {s B N : Nat} {cs : Nat → Nat} {ph : pm_H} (hst : zStr s B N cs) : zM 310 [.ref s] ph (fun v q => ph = q ∧ v = some (.int 0)) := by
  obtain ⟨Q, hQ⟩ : ∃ Q : Option Value → pm_H → Prop, Q = (fun v q => ph = q ∧ v = some (.int 0)) := ⟨_, rfl⟩
  rw [← hQ]
  refine zM_mk fun n D => ?_
  show zW n D 310 Q 0 [some (.ref s)] [] ph
  have c_0 : (Int32.ofInt 1).toInt = 1 := by decide +kernel
  obtain ⟨i9, s1, s2, s3, s4, s5, f, s6, s7⟩ := hst
  have k0 : (0 : Int32).toInt = 0 := by decide
  have k1 : (1 : Int32).toInt = 1 := by decide
  refine w_push (pc' := 3) (v := .int (1 : Int32)) (m := 3) (ykc_310 (e := (1, .getstatic 38, 0)) rfl) rfl rfl ?_
  refine w_zeq (ykc_310 (e := (4, .ifCond .eq 10, 13)) rfl) rfl (fun q => by exfalso; omega) (fun b1397 => ?_)
  refine w_load (pc' := 7) (v := .ref s) (m := 1) (ykc_310 (e := (2, .aload_n kF0, 0)) rfl) rfl rfl ?_
  refine w_gfr (pc' := 10) (v := .int 0) (ykc_310 (e := (5, .getfield 15, 0)) rfl) rfl s1 s3 rfl ?_
  refine w_br (pc' := 14) (st' := [.int 0]) (ykc_310 (e := (4, .goto 4, 14)) rfl) rfl ?_
  refine w_ret (v := (some (.int 0))) (ykc_310 (e := (7, .ireturn, 0)) rfl) zr_i ?_
  rw [hQ]
  exact ⟨rfl, rfl⟩
theorem zsh0 : ∀ N, N ≤ 20 → Int32.ofNat N >>> ((0 : Int32) &&& 31) = zn N := by decide
theorem zj_len {s B N : Nat} {cs : Nat → Nat} {ph : pm_H} (hst : zStr s B N cs) : zM 306 [.ref s] ph (fun v q => ph = q ∧ v = some (.int (zn N))) := by
  obtain ⟨Q, hQ⟩ : ∃ Q : Option Value → pm_H → Prop, Q = (fun v q => ph = q ∧ v = some (.int (zn N))) := ⟨_, rfl⟩
  rw [← hQ]
  refine zM_mk fun n D => ?_
  show zW n D 306 Q 0 [some (.ref s)] [] ph
  obtain ⟨i9, s1, s2, s3, s4, s5, f, s6, s7⟩ := hst
  have k0 : (0 : Int32).toInt = 0 := by decide
  have k1 : (1 : Int32).toInt = 1 := by decide
  refine w_load (pc' := 1) (v := .ref s) (m := 1) (ykc_306 (e := (2, .aload_n kF0, 0)) rfl) rfl rfl ?_
  refine w_gfr (pc' := 4) (v := .ref B) (ykc_306 (e := (5, .getfield 9, 0)) rfl) rfl s1 s2 rfl ?_
  refine w_alr (ykc_306 (e := (5, .arraylength, 0)) rfl) ⟨s4, s6⟩ rfl ?_
  refine w_load (pc' := 6) (v := .ref s) (m := 1) (ykc_306 (e := (2, .aload_n kF0, 0)) rfl) rfl rfl ?_
  refine w_cvr s1 (as := [.ref s]) (r := [.int (Int32.ofNat N)]) (ykc_306 (e := (6, .invokevirtual 335, 0)) rfl) rfl rfl rfl rfl (zj_coder ⟨i9, s1, s2, s3, s4, s5, f, s6, s7⟩) (fun v1398 ph1399 hv => ?_)
  obtain ⟨rfl, rfl⟩ := hv
  show zW n D 306 Q 9 [some (.ref s)] [.int 0, .int (Int32.ofNat N)] ph
  refine w_alu (pc' := 10) (st' := [.int ((Int32.ofNat N) >>> (0 &&& 31))]) (ykc_306 (e := (0, .ishr, 0)) rfl) rfl rfl ?_
  refine w_ret (v := (some (.int ((Int32.ofNat N) >>> (0 &&& 31))))) (ykc_306 (e := (7, .ireturn, 0)) rfl) (zr_v rfl) ?_
  rw [hQ]
  exact ⟨rfl, by rw [show (Int32.ofNat N) >>> (0 &&& 31) = zn N from zsh0 N s5]⟩
theorem zj_chk {x y : Int32} {a b : Nat} {ph : pm_H} (hx : x.toInt = (a : Int)) (hy : y.toInt = (b : Int)) (hab : a < b) : zM 329 [.int x, .int y, .null] ph (fun v q => ph = q ∧ v = some (.int x)) := by
  obtain ⟨Q, hQ⟩ : ∃ Q : Option Value → pm_H → Prop, Q = (fun v q => ph = q ∧ v = some (.int x)) := ⟨_, rfl⟩
  rw [← hQ]
  refine zM_mk fun n D => ?_
  show zW n D 329 Q 0 [some (.int x), some (.int y), some (.null)] [] ph
  refine w_load (pc' := 1) (v := .int x) (m := 1) (ykc_329 (e := (2, .iload_n kF0, 0)) rfl) rfl rfl ?_
  refine w_zlt (ykc_329 (e := (4, .ifCond .lt 8, 9)) rfl) rfl (fun q => by exfalso; omega) (fun b1400 => ?_)
  refine w_load (pc' := 5) (v := .int x) (m := 1) (ykc_329 (e := (2, .iload_n kF0, 0)) rfl) rfl rfl ?_
  refine w_load (pc' := 6) (v := .int y) (m := 1) (ykc_329 (e := (2, .iload_n kF1, 0)) rfl) rfl rfl ?_
  refine w_ilt (ykc_329 (e := (4, .if_icmp .lt 10, 16)) rfl) rfl (fun b1401 => ?_) (fun q => by exfalso; omega)
  refine w_load (pc' := 17) (v := .int x) (m := 1) (ykc_329 (e := (2, .iload_n kF0, 0)) rfl) rfl rfl ?_
  refine w_ret (v := (some (.int x))) (ykc_329 (e := (7, .ireturn, 0)) rfl) (zr_v rfl) ?_
  rw [hQ]
  exact ⟨rfl, rfl⟩
theorem zj_chk2 {x y : Int32} {a b : Nat} {ph : pm_H} (hx : x.toInt = (a : Int)) (hy : y.toInt = (b : Int)) (hab : a < b) : zM 312 [.int x, .int y] ph (fun v q => ph = q ∧ v = none) := by
  obtain ⟨Q, hQ⟩ : ∃ Q : Option Value → pm_H → Prop, Q = (fun v q => ph = q ∧ v = none) := ⟨_, rfl⟩
  rw [← hQ]
  refine zM_mk fun n D => ?_
  show zW n D 312 Q 0 [some (.int x), some (.int y)] [] ph
  refine w_load (pc' := 1) (v := .int x) (m := 1) (ykc_312 (e := (2, .iload_n kF0, 0)) rfl) rfl rfl ?_
  refine w_load (pc' := 2) (v := .int y) (m := 1) (ykc_312 (e := (2, .iload_n kF1, 0)) rfl) rfl rfl ?_
  refine w_mac (ykc_312 (e := (8, .getstatic 1053, 1059)) rfl) rfl rfl (zj_chk hx hy hab) (fun v1402 ph1403 hv => ?_)
  obtain ⟨rfl, rfl⟩ := hv
  show zW n D 312 Q 8 [some (.int x), some (.int y)] [.int x] ph
  refine w_alu (pc' := 9) (st' := []) (ykc_312 (e := (0, .pop, 0)) rfl) rfl rfl ?_
  refine w_ret (v := none) (ykc_312 (e := (7, .return_, 0)) rfl) (zr_v rfl) ?_
  rw [hQ]
  exact ⟨rfl, rfl⟩
theorem zj_chr1 {s B N : Nat} {cs : Nat → Nat} {ph : pm_H} (hst : zStr s B N cs) {x : Int32} {k : Nat} (hx : x.toInt = (k : Int)) (hk : k < N) : zM 314 [.ref B, .int x] ph (fun v q => ph = q ∧ v = some (.int (zn (cs k)))) := by
  obtain ⟨Q, hQ⟩ : ∃ Q : Option Value → pm_H → Prop, Q = (fun v q => ph = q ∧ v = some (.int (zn (cs k)))) := ⟨_, rfl⟩
  rw [← hQ]
  refine zM_mk fun n D => ?_
  show zW n D 314 Q 0 [some (.ref B), some (.int x)] [] ph
  have c_0 : ((Int16.ofInt 255).toInt32).toInt = 255 := by decide +kernel
  obtain ⟨i9, s1, s2, s3, s4, s5, f, s6, s7⟩ := hst
  have k0 : (0 : Int32).toInt = 0 := by decide
  have k1 : (1 : Int32).toInt = 1 := by decide
  refine w_load (pc' := 1) (v := .int x) (m := 1) (ykc_314 (e := (2, .iload_n kF1, 0)) rfl) rfl rfl ?_
  refine w_load (pc' := 2) (v := .ref B) (m := 1) (ykc_314 (e := (2, .aload_n kF0, 0)) rfl) rfl rfl ?_
  refine w_alr (ykc_314 (e := (5, .arraylength, 0)) rfl) ⟨s4, s6⟩ rfl ?_
  refine w_cs (as := [.int x, .int (Int32.ofNat N)]) (r := []) (ykc_314 (e := (6, .invokestatic 9, 0)) rfl) rfl rfl rfl rfl (zj_chk2 (a := k) (b := N) hx (znt (by omega)) hk) (fun v1404 ph1405 hv => ?_)
  obtain ⟨rfl, rfl⟩ := hv
  show zW n D 314 Q 6 [some (.ref B), some (.int x)] [] ph
  refine w_load (pc' := 7) (v := .ref B) (m := 1) (ykc_314 (e := (2, .aload_n kF0, 0)) rfl) rfl rfl ?_
  refine w_load (pc' := 8) (v := .int x) (m := 1) (ykc_314 (e := (2, .iload_n kF1, 0)) rfl) rfl rfl ?_
  refine w_blr (pc' := 9) (k := k) (y := zn (cs k)) (ykc_314 (e := (5, .baload, 0)) rfl) ⟨s4, s6, (s7 k hk).1⟩ (by omega) rfl ?_
  refine w_push (pc' := 12) (v := .int ((Int16.ofInt 255).toInt32)) (m := 3) (ykc_314 (e := (1, .sipush 255, 0)) rfl) rfl rfl ?_
  refine w_alu (pc' := 13) (st' := [.int ((zn (cs k)) &&& ((Int16.ofInt 255).toInt32))]) (ykc_314 (e := (0, .iand, 0)) rfl) rfl rfl ?_
  refine w_alu (pc' := 14) (st' := [.int (zn (cs k))]) (ykc_314 (e := (0, .i2c, 0)) rfl) (by show some ([.int ((((zn (cs k)) &&& ((Int16.ofInt 255).toInt32)).toUInt32 % 65536).toInt32)] : List Value) = _; rw [(zchr _ (s7 k hk).2 : (((zn (cs k)) &&& ((Int16.ofInt 255).toInt32)).toUInt32 % 65536).toInt32 = zn (cs k))]) rfl ?_
  refine w_ret (v := (some (.int (zn (cs k))))) (ykc_314 (e := (7, .ireturn, 0)) rfl) zr_i ?_
  rw [hQ]
  exact ⟨rfl, rfl⟩
theorem zj_chr {s B N : Nat} {cs : Nat → Nat} {ph : pm_H} (hst : zStr s B N cs) {x : Int32} {k : Nat} (hx : x.toInt = (k : Int)) (hk : k < N) : zM 307 [.ref s, .int x] ph (fun v q => ph = q ∧ v = some (.int (zn (cs k)))) := by
  obtain ⟨Q, hQ⟩ : ∃ Q : Option Value → pm_H → Prop, Q = (fun v q => ph = q ∧ v = some (.int (zn (cs k)))) := ⟨_, rfl⟩
  rw [← hQ]
  refine zM_mk fun n D => ?_
  show zW n D 307 Q 0 [some (.ref s), some (.int x)] [] ph
  obtain ⟨i9, s1, s2, s3, s4, s5, f, s6, s7⟩ := hst
  have k0 : (0 : Int32).toInt = 0 := by decide
  have k1 : (1 : Int32).toInt = 1 := by decide
  refine w_load (pc' := 1) (v := .ref s) (m := 1) (ykc_307 (e := (2, .aload_n kF0, 0)) rfl) rfl rfl ?_
  refine w_cvr s1 (as := [.ref s]) (r := []) (ykc_307 (e := (6, .invokevirtual 492, 0)) rfl) rfl rfl rfl rfl (zj_latin ⟨i9, s1, s2, s3, s4, s5, f, s6, s7⟩) (fun v1406 ph1407 hv => ?_)
  obtain ⟨rfl, rfl⟩ := hv
  show zW n D 307 Q 4 [some (.ref s), some (.int x)] [.int (zI true)] ph
  refine w_beq (ykc_307 (e := (4, .ifCond .eq 12, 16)) rfl) rfl (fun q => absurd q (by decide)) (fun b1408 => ?_)
  refine w_load (pc' := 8) (v := .ref s) (m := 1) (ykc_307 (e := (2, .aload_n kF0, 0)) rfl) rfl rfl ?_
  refine w_gfr (pc' := 11) (v := .ref B) (ykc_307 (e := (5, .getfield 9, 0)) rfl) rfl s1 s2 rfl ?_
  refine w_load (pc' := 12) (v := .int x) (m := 1) (ykc_307 (e := (2, .iload_n kF1, 0)) rfl) rfl rfl ?_
  refine w_cs (as := [.ref B, .int x]) (r := []) (ykc_307 (e := (6, .invokestatic 495, 0)) rfl) rfl rfl rfl rfl (zj_chr1 ⟨i9, s1, s2, s3, s4, s5, f, s6, s7⟩ hx hk) (fun v1409 ph1410 hv => ?_)
  obtain ⟨rfl, rfl⟩ := hv
  show zW n D 307 Q 15 [some (.ref s), some (.int x)] [.int (zn (cs k))] ph
  refine w_ret (v := (some (.int (zn (cs k))))) (ykc_307 (e := (7, .ireturn, 0)) rfl) zr_i ?_
  rw [hQ]
  exact ⟨rfl, rfl⟩
