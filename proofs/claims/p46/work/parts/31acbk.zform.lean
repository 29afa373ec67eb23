/-! the class reads a RULE, by W; printed by wip/z/z1g_form.py -/
/-- the sign of what waits; a code that can stand; what can wait -/
def zwo (o : Nat) : Nat := if o = 0 then 40 else if o = 2000 then 60 else if o = 2001 then 62 else if o = 2002 then 61 else if o = 2003 then 43 else if o = 2004 then 45 else if o = 2005 then 42 else if o = 2006 then 47 else 109
def zcv (c : Nat) : Prop := c < 1008 ∨ (2000 ≤ c ∧ c < 2007) ∨ c = 3000
def zvo (o : Nat) : Prop := o = 0 ∨ (2000 ≤ o ∧ o < 2007) ∨ o = 3000
/-- how a sign binds -/
def zbs (c : Nat) : Nat := if c = 109 then 4 else if zop c = 0 then 0 else zbd (zop c)
theorem zbs_4 {c : Nat} : zbs c ≤ 4 := by
  unfold zbs
  split
  · omega
  · split
    · omega
    · next h => exact Nat.le_succ_of_le (zbd_op h).2
theorem zwo_lt {o : Nat} : zwo o < 128 := by unfold zwo; (repeat' split) <;> omega
theorem zbs_wo {o : Nat} (h : zvo o) : zbs (zwo o) = zbd o := by
  rcases (show o = 0 ∨ o = 2000 ∨ o = 2001 ∨ o = 2002 ∨ o = 2003 ∨ o = 2004 ∨ o = 2005 ∨ o = 2006 ∨ o = 3000 by unfold zvo at h; omega) with e | e | e | e | e | e | e | e | e <;> subst e <;> decide
theorem zwo_neg {o : Nat} (h : zvo o) (h0 : 1 ≤ zbd o) : -(zn (zwo o)) = zcc o := by
  rcases (show o = 0 ∨ o = 2000 ∨ o = 2001 ∨ o = 2002 ∨ o = 2003 ∨ o = 2004 ∨ o = 2005 ∨ o = 2006 ∨ o = 3000 by unfold zvo at h; omega) with e | e | e | e | e | e | e | e | e <;> subst e <;> first | exact absurd h0 (by decide) | decide
theorem zwo_op {c : Nat} (h : zop c ≠ 0) : zwo (zop c) = c ∧ zvo (zop c) := by
  unfold zop at h
  repeat' split at h
  all_goals first | (exfalso; exact h rfl) | (subst_vars; exact ⟨rfl, Or.inr (Or.inl (by decide))⟩)
theorem zvo_v {o : Nat} (h : zvo o) (h0 : 1 ≤ zbd o) : zcv o := by
  rcases h with h | h | h
  · subst h; exact absurd h0 (by decide)
  · exact Or.inr (Or.inl h)
  · exact Or.inr (Or.inr h)
theorem zcc_n {c : Nat} (h : c < 2000) : zcc c = zn c := if_pos h
/-- the signs by which bindingOf branches -/
def zbT (k : Nat) : Nat := if k = 0 then 84 else 74 + 2 * k
theorem zbr9 : (List.range 256).all (fun c => match pm_br (.lookupswitch 83 #[(42, 79), (43, 77), (45, 77), (47, 79), (60, 75), (61, 75), (62, 75), (109, 81)]) 75 1 [.int (zn c)] with
  | some (t, []) => Nat.beq t (zbT (zbs c))
  | _ => false) = true := by decide +kernel
theorem zbr9c {c k : Nat} (h : c < 256) (hk : zbs c = k) : pm_br (.lookupswitch 83 #[(42, 79), (43, 77), (45, 77), (47, 79), (60, 75), (61, 75), (62, 75), (109, 81)]) 75 1 [.int (zn c)] = some (zbT k, []) := by
  have h1 := List.all_eq_true.mp zbr9 c (List.mem_range.mpr h)
  generalize pm_br (.lookupswitch 83 #[(42, 79), (43, 77), (45, 77), (47, 79), (60, 75), (61, 75), (62, 75), (109, 81)]) 75 1 [.int (zn c)] = x at h1
  rw [hk] at h1
  match x, h1 with
  | some (t, []), h1 => rw [Nat.eq_of_beq_eq_true h1]
theorem zc_bind {c : Nat} {ph : pm_H} (hc : c < 256) : zM 9 [.int (zn c)] ph (fun v0 q => ph = q ∧ v0 = some (.int (zn (zbs c)))) := by
  obtain ⟨Q, hQ⟩ : ∃ Q : Option Value → pm_H → Prop, Q = (fun v0 q => ph = q ∧ v0 = some (.int (zn (zbs c)))) := ⟨_, rfl⟩
  rw [← hQ]
  refine zM_mk fun n D => ?_
  show zW n D 9 Q 0 [some (.int (zn c))] [] ph
  have c_0 : (Int32.ofInt 0).toInt = 0 := by decide
  have c_1 : (Int32.ofInt 1).toInt = 1 := by decide
  have c_2 : (Int32.ofInt 2).toInt = 2 := by decide
  have c_3 : (Int32.ofInt 3).toInt = 3 := by decide
  have c_4 : (Int32.ofInt 4).toInt = 4 := by decide
  have h4 := @zbs_4 c
  refine w_load (pc' := 1) (v := .int (zn c)) (m := 1) (ykc_9 (e := (2, .iload_n kF0, 0)) rfl) rfl rfl ?_
  rcases (show zbs c = 0 ∨ zbs c = 1 ∨ zbs c = 2 ∨ zbs c = 3 ∨ zbs c = 4 by omega) with e | e | e | e | e
  · refine w_br (pc' := 84) (st' := []) (ykc_9 (e := (4, .lookupswitch 83 #[(42, 79), (43, 77), (45, 77), (47, 79), (60, 75), (61, 75), (62, 75), (109, 81)], 75)) rfl) (zbr9c hc e) ?_
    refine w_alu (pc' := 85) (st' := [.int (Int32.ofInt 0)]) (ykc_9 (e := (0, .iconst 0, 0)) rfl) rfl rfl ?_
    refine w_ret (v := (some (.int (Int32.ofInt 0)))) (ykc_9 (e := (7, .ireturn, 0)) rfl) (zr_v rfl) ?_
    rw [hQ, e]
    exact ⟨rfl, rfl⟩
  · refine w_br (pc' := 76) (st' := []) (ykc_9 (e := (4, .lookupswitch 83 #[(42, 79), (43, 77), (45, 77), (47, 79), (60, 75), (61, 75), (62, 75), (109, 81)], 75)) rfl) (zbr9c hc e) ?_
    refine w_alu (pc' := 77) (st' := [.int (Int32.ofInt 1)]) (ykc_9 (e := (0, .iconst 1, 0)) rfl) rfl rfl ?_
    refine w_ret (v := (some (.int (Int32.ofInt 1)))) (ykc_9 (e := (7, .ireturn, 0)) rfl) (zr_v rfl) ?_
    rw [hQ, e]
    exact ⟨rfl, rfl⟩
  · refine w_br (pc' := 78) (st' := []) (ykc_9 (e := (4, .lookupswitch 83 #[(42, 79), (43, 77), (45, 77), (47, 79), (60, 75), (61, 75), (62, 75), (109, 81)], 75)) rfl) (zbr9c hc e) ?_
    refine w_alu (pc' := 79) (st' := [.int (Int32.ofInt 2)]) (ykc_9 (e := (0, .iconst 2, 0)) rfl) rfl rfl ?_
    refine w_ret (v := (some (.int (Int32.ofInt 2)))) (ykc_9 (e := (7, .ireturn, 0)) rfl) (zr_v rfl) ?_
    rw [hQ, e]
    exact ⟨rfl, rfl⟩
  · refine w_br (pc' := 80) (st' := []) (ykc_9 (e := (4, .lookupswitch 83 #[(42, 79), (43, 77), (45, 77), (47, 79), (60, 75), (61, 75), (62, 75), (109, 81)], 75)) rfl) (zbr9c hc e) ?_
    refine w_alu (pc' := 81) (st' := [.int (Int32.ofInt 3)]) (ykc_9 (e := (0, .iconst 3, 0)) rfl) rfl rfl ?_
    refine w_ret (v := (some (.int (Int32.ofInt 3)))) (ykc_9 (e := (7, .ireturn, 0)) rfl) (zr_v rfl) ?_
    rw [hQ, e]
    exact ⟨rfl, rfl⟩
  · refine w_br (pc' := 82) (st' := []) (ykc_9 (e := (4, .lookupswitch 83 #[(42, 79), (43, 77), (45, 77), (47, 79), (60, 75), (61, 75), (62, 75), (109, 81)], 75)) rfl) (zbr9c hc e) ?_
    refine w_alu (pc' := 83) (st' := [.int (Int32.ofInt 4)]) (ykc_9 (e := (0, .iconst 4, 0)) rfl) rfl rfl ?_
    refine w_ret (v := (some (.int (Int32.ofInt 4)))) (ykc_9 (e := (7, .ireturn, 0)) rfl) (zr_v rfl) ?_
    rw [hQ, e]
    exact ⟨rfl, rfl⟩
theorem zc_emit {ph : pm_H} {F k : Nat} {x : Int32} (hp : zc ph F 0 = some (.ref (F + 1))) (hk : zc ph F 1 = some (.int (zn k))) (h40 : k < 40) : zM 11 [.ref F, .int x] ph (fun v0 q => v0 = none ∧ zFr [F + 1] [(F, 1)] ph q ∧ zc q F 1 = some (.int (zn (k + 1))) ∧ zc q (F + 1) k = some (.int x) ∧ ∀ i, i ≠ k → zc q (F + 1) i = zc ph (F + 1) i) := by
  obtain ⟨Q, hQ⟩ : ∃ Q : Option Value → pm_H → Prop, Q = (fun v0 q => v0 = none ∧ zFr [F + 1] [(F, 1)] ph q ∧ zc q F 1 = some (.int (zn (k + 1))) ∧ zc q (F + 1) k = some (.int x) ∧ ∀ i, i ≠ k → zc q (F + 1) i = zc ph (F + 1) i) := ⟨_, rfl⟩
  rw [← hQ]
  refine zM_mk fun n D => ?_
  show zW n D 11 Q 0 [some (.ref F), some (.int x)] [] ph
  have c_0 : ((Int8.ofInt 40).toInt32).toInt = 40 := by decide
  have c_1 : (Int32.ofInt 1).toInt = 1 := by decide
  have tk := znt (k := k) (by omega)
  refine w_load (pc' := 1) (v := .ref F) (m := 1) (ykc_11 (e := (2, .aload_n kF0, 0)) rfl) rfl rfl ?_
  refine w_gf (pc' := 4) (v := .int (zn k)) (ykc_11 (e := (5, .getfield 55, 0)) rfl) rfl hk rfl ?_
  refine w_zlt (ykc_11 (e := (4, .ifCond .lt 32, 36)) rfl) rfl (fun q => by exfalso; omega) (fun b1517 => ?_)
  refine w_load (pc' := 8) (v := .ref F) (m := 1) (ykc_11 (e := (2, .aload_n kF0, 0)) rfl) rfl rfl ?_
  refine w_gf (pc' := 11) (v := .int (zn k)) (ykc_11 (e := (5, .getfield 55, 0)) rfl) rfl hk rfl ?_
  refine w_push (pc' := 13) (v := .int ((Int8.ofInt 40).toInt32)) (m := 2) (ykc_11 (e := (1, .bipush 40, 0)) rfl) rfl rfl ?_
  refine w_ige (ykc_11 (e := (4, .if_icmp .ge 23, 36)) rfl) rfl (fun q => by exfalso; omega) (fun b1518 => ?_)
  refine w_load (pc' := 17) (v := .ref F) (m := 1) (ykc_11 (e := (2, .aload_n kF0, 0)) rfl) rfl rfl ?_
  refine w_gf (pc' := 20) (v := .ref (F + 1)) (ykc_11 (e := (5, .getfield 9, 0)) rfl) rfl hp rfl ?_
  refine w_load (pc' := 21) (v := .ref F) (m := 1) (ykc_11 (e := (2, .aload_n kF0, 0)) rfl) rfl rfl ?_
  refine w_gf (pc' := 24) (v := .int (zn k)) (ykc_11 (e := (5, .getfield 55, 0)) rfl) rfl hk rfl ?_
  refine w_load (pc' := 25) (v := .int x) (m := 1) (ykc_11 (e := (2, .iload_n kF1, 0)) rfl) rfl rfl ?_
  refine w_ias (pc' := 26) (k := k) (ykc_11 (e := (5, .iastore, 0)) rfl) (by omega) rfl (fun ph1520 u1519 => ?_)
  refine w_load (pc' := 27) (v := .ref F) (m := 1) (ykc_11 (e := (2, .aload_n kF0, 0)) rfl) rfl rfl ?_
  refine w_alu (pc' := 28) (st' := [.ref F, .ref F]) (ykc_11 (e := (0, .dup, 0)) rfl) rfl rfl ?_
  refine w_gf (pc' := 31) (v := .int (zn k)) (ykc_11 (e := (5, .getfield 55, 0)) rfl) rfl ((u1519.2.1 F 1 (fun q => by have q2 := q.1; omega)).trans hk) rfl ?_
  refine w_alu (pc' := 32) (st' := [.int (Int32.ofInt 1), .int (zn k), .ref F]) (ykc_11 (e := (0, .iconst 1, 0)) rfl) rfl rfl ?_
  have e1521 : (zn k) + (Int32.ofInt 1) = zn (k + 1) := (zaddN (a := k) (b := 1) (znt (by omega)) c_1 (by omega)) 
  have te1521 := znt (k := k + 1) (by omega)
  refine w_alu (pc' := 33) (st' := [.int (zn (k + 1)), .ref F]) (ykc_11 (e := (0, .iadd, 0)) rfl) (by rw [← e1521]; rfl) rfl ?_
  refine w_pf (pc' := 36) (ykc_11 (e := (5, .putfield 55, 0)) rfl) rfl rfl (fun ph1523 u1522 => ?_)
  refine w_ret (v := none) (ykc_11 (e := (7, .return_, 0)) rfl) (zr_v rfl) ?_
  rw [hQ]
  exact ⟨rfl, zFr_trans (zFr_st u1519 (Or.inl (by simp))) (zFr_st u1522 (Or.inr (by simp))), u1522.1, (u1522.2.1 (F + 1) k (fun q => by have q1 := q.1; omega)).trans u1519.1, fun i hi => (u1522.2.1 (F + 1) i (fun q => by have q1 := q.1; omega)).trans (u1519.2.1 (F + 1) i (fun q => hi q.2))⟩
theorem zc_holdF {ph : pm_H} {F k : Nat} {x : Int32} (hp : zc ph F 2 = some (.ref (F + 2))) (hk : zc ph F 3 = some (.int (zn k))) (h40 : k < 40) : zM 12 [.ref F, .int x] ph (fun v0 q => v0 = none ∧ zFr [F + 2] [(F, 3)] ph q ∧ zc q F 3 = some (.int (zn (k + 1))) ∧ zc q (F + 2) k = some (.int x) ∧ ∀ i, i ≠ k → zc q (F + 2) i = zc ph (F + 2) i) := by
  obtain ⟨Q, hQ⟩ : ∃ Q : Option Value → pm_H → Prop, Q = (fun v0 q => v0 = none ∧ zFr [F + 2] [(F, 3)] ph q ∧ zc q F 3 = some (.int (zn (k + 1))) ∧ zc q (F + 2) k = some (.int x) ∧ ∀ i, i ≠ k → zc q (F + 2) i = zc ph (F + 2) i) := ⟨_, rfl⟩
  rw [← hQ]
  refine zM_mk fun n D => ?_
  show zW n D 12 Q 0 [some (.ref F), some (.int x)] [] ph
  have c_0 : ((Int8.ofInt 40).toInt32).toInt = 40 := by decide
  have c_1 : (Int32.ofInt 1).toInt = 1 := by decide
  have tk := znt (k := k) (by omega)
  refine w_load (pc' := 1) (v := .ref F) (m := 1) (ykc_12 (e := (2, .aload_n kF0, 0)) rfl) rfl rfl ?_
  refine w_gf (pc' := 4) (v := .int (zn k)) (ykc_12 (e := (5, .getfield 57, 0)) rfl) rfl hk rfl ?_
  refine w_zlt (ykc_12 (e := (4, .ifCond .lt 32, 36)) rfl) rfl (fun q => by exfalso; omega) (fun b1524 => ?_)
  refine w_load (pc' := 8) (v := .ref F) (m := 1) (ykc_12 (e := (2, .aload_n kF0, 0)) rfl) rfl rfl ?_
  refine w_gf (pc' := 11) (v := .int (zn k)) (ykc_12 (e := (5, .getfield 57, 0)) rfl) rfl hk rfl ?_
  refine w_push (pc' := 13) (v := .int ((Int8.ofInt 40).toInt32)) (m := 2) (ykc_12 (e := (1, .bipush 40, 0)) rfl) rfl rfl ?_
  refine w_ige (ykc_12 (e := (4, .if_icmp .ge 23, 36)) rfl) rfl (fun q => by exfalso; omega) (fun b1525 => ?_)
  refine w_load (pc' := 17) (v := .ref F) (m := 1) (ykc_12 (e := (2, .aload_n kF0, 0)) rfl) rfl rfl ?_
  refine w_gf (pc' := 20) (v := .ref (F + 2)) (ykc_12 (e := (5, .getfield 13, 0)) rfl) rfl hp rfl ?_
  refine w_load (pc' := 21) (v := .ref F) (m := 1) (ykc_12 (e := (2, .aload_n kF0, 0)) rfl) rfl rfl ?_
  refine w_gf (pc' := 24) (v := .int (zn k)) (ykc_12 (e := (5, .getfield 57, 0)) rfl) rfl hk rfl ?_
  refine w_load (pc' := 25) (v := .int x) (m := 1) (ykc_12 (e := (2, .iload_n kF1, 0)) rfl) rfl rfl ?_
  refine w_ias (pc' := 26) (k := k) (ykc_12 (e := (5, .iastore, 0)) rfl) (by omega) rfl (fun ph1527 u1526 => ?_)
  refine w_load (pc' := 27) (v := .ref F) (m := 1) (ykc_12 (e := (2, .aload_n kF0, 0)) rfl) rfl rfl ?_
  refine w_alu (pc' := 28) (st' := [.ref F, .ref F]) (ykc_12 (e := (0, .dup, 0)) rfl) rfl rfl ?_
  refine w_gf (pc' := 31) (v := .int (zn k)) (ykc_12 (e := (5, .getfield 57, 0)) rfl) rfl ((u1526.2.1 F 3 (fun q => by have q2 := q.1; omega)).trans hk) rfl ?_
  refine w_alu (pc' := 32) (st' := [.int (Int32.ofInt 1), .int (zn k), .ref F]) (ykc_12 (e := (0, .iconst 1, 0)) rfl) rfl rfl ?_
  have e1528 : (zn k) + (Int32.ofInt 1) = zn (k + 1) := (zaddN (a := k) (b := 1) (znt (by omega)) c_1 (by omega)) 
  have te1528 := znt (k := k + 1) (by omega)
  refine w_alu (pc' := 33) (st' := [.int (zn (k + 1)), .ref F]) (ykc_12 (e := (0, .iadd, 0)) rfl) (by rw [← e1528]; rfl) rfl ?_
  refine w_pf (pc' := 36) (ykc_12 (e := (5, .putfield 57, 0)) rfl) rfl rfl (fun ph1530 u1529 => ?_)
  refine w_ret (v := none) (ykc_12 (e := (7, .return_, 0)) rfl) (zr_v rfl) ?_
  rw [hQ]
  exact ⟨rfl, zFr_trans (zFr_st u1526 (Or.inl (by simp))) (zFr_st u1529 (Or.inr (by simp))), u1529.1, (u1529.2.1 (F + 2) k (fun q => by have q1 := q.1; omega)).trans u1526.1, fun i hi => (u1529.2.1 (F + 2) i (fun q => by have q1 := q.1; omega)).trans (u1526.2.1 (F + 2) i (fun q => hi q.2))⟩
/-- a Formula at F that is being read -/
def zFp (ph : pm_H) (F : Nat) : Prop := zc ph F 0 = some (.ref (F + 1)) ∧ zc ph F 2 = some (.ref (F + 2)) ∧ zc ph F 4 = some (.ref (F + 3))
def zFc (ph : pm_H) (F : Nat) (C : List Nat) : Prop := zc ph F 1 = some (.int (zn C.length)) ∧ ∀ i c, C[i]? = some c → zc ph (F + 1) (C.length - 1 - i) = some (.int (zcc c)) ∧ zcv c
def zFw (ph : pm_H) (F : Nat) (W : List Nat) : Prop := zc ph F 3 = some (.int (zn W.length)) ∧ ∀ i o, W[i]? = some o → zc ph (F + 2) (W.length - 1 - i) = some (.int (zn (zwo o))) ∧ zvo o
def zFb (ph : pm_H) (F : Nat) (cm : Nat → Bool) : Prop := ∀ i, i < 5 → zc ph (F + 3) i = some (.int (zI (cm i)))
def zFd (ph : pm_H) (F dp dg : Nat) (wt : Bool) : Prop := zc ph F 5 = some (.int (zn dp)) ∧ dp ≤ 4 ∧ zc ph F 6 = some (.int (zn dg)) ∧ dg ≤ 3 ∧ zc ph F 7 = some (.int (zI wt))
section ZFX
variable {A : List Nat} {L : List (Nat × Nat)} {p q : pm_H} {F dp dg k : Nat} {C W : List Nat} {cm : Nat → Bool} {wt : Bool}
theorem zFp_F (f : zFr A L p q) (h1 : F ∉ A) (h2 : (F, 0) ∉ L ∧ (F, 2) ∉ L ∧ (F, 4) ∉ L) (h : zFp p F) : zFp q F := ⟨(f.1 _ _ h1 h2.1).trans h.1, (f.1 _ _ h1 h2.2.1).trans h.2.1, (f.1 _ _ h1 h2.2.2).trans h.2.2⟩
theorem zFc_F (f : zFr A L p q) (h1 : F ∉ A ∧ F + 1 ∉ A) (h2 : (F, 1) ∉ L ∧ ∀ i, (F + 1, i) ∉ L) (h : zFc p F C) : zFc q F C := ⟨(f.1 _ _ h1.1 h2.1).trans h.1, fun i c hc => ⟨(f.1 _ _ h1.2 (h2.2 _)).trans (h.2 i c hc).1, (h.2 i c hc).2⟩⟩
theorem zFw_F (f : zFr A L p q) (h1 : F ∉ A ∧ F + 2 ∉ A) (h2 : (F, 3) ∉ L ∧ ∀ i, (F + 2, i) ∉ L) (h : zFw p F W) : zFw q F W := ⟨(f.1 _ _ h1.1 h2.1).trans h.1, fun i c hc => ⟨(f.1 _ _ h1.2 (h2.2 _)).trans (h.2 i c hc).1, (h.2 i c hc).2⟩⟩
theorem zFb_F (f : zFr A L p q) (h1 : F + 3 ∉ A) (h2 : ∀ i, (F + 3, i) ∉ L) (h : zFb p F cm) : zFb q F cm := fun i hi => (f.1 _ _ h1 (h2 i)).trans (h i hi)
/-- one code more -/
theorem zFc_c {c : Nat} (h : zFc p F C) (h1 : zc q F 1 = some (.int (zn (C.length + 1)))) (h2 : zc q (F + 1) C.length = some (.int (zcc c))) (h3 : ∀ i, i ≠ C.length → zc q (F + 1) i = zc p (F + 1) i) (hc : zcv c) : zFc q F (c :: C) := by
  refine ⟨h1, fun i x hx => ?_⟩
  cases i with
  | zero =>
    cases hx
    exact ⟨by rw [show (c :: C).length - 1 - 0 = C.length by simp]; exact h2, hc⟩
  | succ i =>
    have hx : C[i]? = some x := hx
    have hi := (List.getElem?_eq_some_iff.mp hx).1
    obtain ⟨g1, g2⟩ := h.2 i x hx
    refine ⟨?_, g2⟩
    rw [show (c :: C).length - 1 - (i + 1) = C.length - 1 - i by simp; omega, h3 _ (by omega)]
    exact g1
theorem zFw_c {o : Nat} (h : zFw p F W) (h1 : zc q F 3 = some (.int (zn (W.length + 1)))) (h2 : zc q (F + 2) W.length = some (.int (zn (zwo o)))) (h3 : ∀ i, i ≠ W.length → zc q (F + 2) i = zc p (F + 2) i) (hc : zvo o) : zFw q F (o :: W) := by
  refine ⟨h1, fun i x hx => ?_⟩
  cases i with
  | zero =>
    cases hx
    exact ⟨by rw [show (o :: W).length - 1 - 0 = W.length by simp]; exact h2, hc⟩
  | succ i =>
    have hx : W[i]? = some x := hx
    have hi := (List.getElem?_eq_some_iff.mp hx).1
    obtain ⟨g1, g2⟩ := h.2 i x hx
    refine ⟨?_, g2⟩
    rw [show (o :: W).length - 1 - (i + 1) = W.length - 1 - i by simp; omega, h3 _ (by omega)]
    exact g1
/-- the latest one that waits; without it -/
theorem zFw_h {o : Nat} (h : zFw p F (o :: W)) : zc p (F + 2) W.length = some (.int (zn (zwo o))) ∧ zvo o := by
  have h2 := h.2 0 o rfl
  rwa [show (o :: W).length - 1 - 0 = W.length by simp] at h2
theorem zFw_t {o : Nat} (h : zFw p F (o :: W)) (h1 : zc q F 3 = some (.int (zn W.length))) (h3 : ∀ i, zc q (F + 2) i = zc p (F + 2) i) : zFw q F W := by
  refine ⟨h1, fun i x hx => ?_⟩
  have h2 := h.2 (i + 1) x hx
  rw [show (o :: W).length - 1 - (i + 1) = W.length - 1 - i by simp; omega] at h2
  exact ⟨(h3 _).trans h2.1, h2.2⟩
theorem zrl_len {b : Nat} : ∀ {W C : List Nat}, (zrl b W C).1.length + (zrl b W C).2.length = W.length + C.length
  | [], _ => rfl
  | o :: W, C => by
    show (if b ≤ zbd o then zrl b W (o :: C) else (o :: W, C)).1.length + (if b ≤ zbd o then zrl b W (o :: C) else (o :: W, C)).2.length = _
    split
    · rw [zrl_len (W := W) (C := o :: C)]; simp; omega
    · rfl
end ZFX
theorem zc_release {ph : pm_H} {F b : Nat} {x : Int32} {C W : List Nat} (hp : zFp ph F) (hC : zFc ph F C) (hW : zFw ph F W) (hx : x.toInt = (b : Int)) (hb : 1 ≤ b) (h40 : C.length + W.length ≤ 40) : zM 10 [.ref F, .int x] ph (fun v0 q => v0 = none ∧ zFr [F + 1] [(F, 1), (F, 3)] ph q ∧ zFc q F (zrl b W C).2 ∧ zFw q F (zrl b W C).1) := by
  obtain ⟨Q, hQ⟩ : ∃ Q : Option Value → pm_H → Prop, Q = (fun v0 q => v0 = none ∧ zFr [F + 1] [(F, 1), (F, 3)] ph q ∧ zFc q F (zrl b W C).2 ∧ zFw q F (zrl b W C).1) := ⟨_, rfl⟩
  rw [← hQ]
  refine zM_mk fun n D => ?_
  show zW n D 10 Q 0 [some (.ref F), some (.int x)] [] ph
  have c_0 : (Int32.ofInt 1).toInt = 1 := by decide
  have hx9 := x32_hi x
  have hl : ∀ (n : Nat), ∀ (W2 C2 : List Nat) (ph1 : pm_H), (zFr [F + 1] [(F, 1), (F, 3)] ph ph1) → (zFc ph1 F C2) → (zFw ph1 F W2) → (zrl b W2 C2 = zrl b W C) → (C2.length + W2.length ≤ 40) → zW n D 10 Q 0 [some (.ref F), some (.int x)] [] ph1 := by
    intro n
    induction n using Nat.strongRecOn with
    | ind n ih =>
      intro W2 C2 ph1 hf hC1 hW1 hz h41
      have hp1 := zFp_F hf (by simp) (by simp) hp
      cases W2 with
      | nil =>
        have t0 := znt (k := 0) (by omega)
        refine w_load (pc' := 1) (v := .ref F) (m := 1) (ykc_10 (e := (2, .aload_n kF0, 0)) rfl) rfl rfl ?_
        refine w_gf (pc' := 4) (v := .int (zn 0)) (ykc_10 (e := (5, .getfield 57, 0)) rfl) rfl hW1.1 rfl ?_
        refine w_zle (ykc_10 (e := (4, .ifCond .le 48, 52)) rfl) rfl (fun b1531 => ?_) (fun q => by exfalso; omega)
        refine w_ret (v := none) (ykc_10 (e := (7, .return_, 0)) rfl) (zr_v rfl) ?_
        rw [hQ, ← hz]
        exact ⟨rfl, hf, hC1, hW1⟩
      | cons o W3 =>
        have hl9 : C2.length + (W3.length + 1) ≤ 40 := h41
        have tw := znt (k := W3.length + 1) (by omega)
        have tw2 := znt (k := W3.length) (by omega)
        obtain ⟨ho, hov⟩ := zFw_h hW1
        have ho128 := @zwo_lt o
        have to := znt (k := zwo o) (by omega)
        have hbo := zbs_wo hov
        have hzr : zrl b (o :: W3) C2 = if b ≤ zbd o then zrl b W3 (o :: C2) else (o :: W3, C2) := rfl
        refine w_load (pc' := 1) (v := .ref F) (m := 1) (ykc_10 (e := (2, .aload_n kF0, 0)) rfl) rfl rfl ?_
        refine w_gf (pc' := 4) (v := .int (zn (W3.length + 1))) (ykc_10 (e := (5, .getfield 57, 0)) rfl) rfl hW1.1 rfl ?_
        refine w_zle (ykc_10 (e := (4, .ifCond .le 48, 52)) rfl) rfl (fun q => by exfalso; omega) (fun b1532 => ?_)
        refine w_load (pc' := 8) (v := .ref F) (m := 1) (ykc_10 (e := (2, .aload_n kF0, 0)) rfl) rfl rfl ?_
        refine w_gf (pc' := 11) (v := .ref (F + 2)) (ykc_10 (e := (5, .getfield 13, 0)) rfl) rfl hp1.2.1 rfl ?_
        refine w_load (pc' := 12) (v := .ref F) (m := 1) (ykc_10 (e := (2, .aload_n kF0, 0)) rfl) rfl rfl ?_
        refine w_gf (pc' := 15) (v := .int (zn (W3.length + 1))) (ykc_10 (e := (5, .getfield 57, 0)) rfl) rfl hW1.1 rfl ?_
        refine w_alu (pc' := 16) (st' := [.int (Int32.ofInt 1), .int (zn (W3.length + 1)), .ref (F + 2)]) (ykc_10 (e := (0, .iconst 1, 0)) rfl) rfl rfl ?_
        have e1533 : (zn (W3.length + 1)) - (Int32.ofInt 1) = zn (W3.length) := zsubN (a := W3.length + 1) (b := 1) (znt (by omega)) c_0 (by omega)
        have te1533 := znt (k := W3.length) (by omega)
        refine w_alu (pc' := 17) (st' := [.int (zn (W3.length)), .ref (F + 2)]) (ykc_10 (e := (0, .isub, 0)) rfl) (by show some ([.int ((zn (W3.length + 1)) - (Int32.ofInt 1)), .ref (F + 2)] : List Value) = _; rw [e1533]) rfl ?_
        refine w_ialk (pc' := 18) (k := W3.length) (ykc_10 (e := (5, .iaload, 0)) rfl) ho (by omega) rfl ?_
        refine w_cs (as := [.int (zn (zwo o))]) (r := []) (ykc_10 (e := (6, .invokestatic 89, 0)) rfl) rfl rfl rfl rfl (zc_bind (c := zwo o) (by omega)) (fun v1534 ph1535 hv => ?_)
        obtain ⟨rfl, rfl⟩ := hv
        have tb9 := znt (k := zbs (zwo o)) (by have := @zbs_4 (zwo o); omega)
        have hb9 := @zbs_4 (zwo o)
        show zW n D 10 Q 21 [some (.ref F), some (.int x)] [.int (zn (zbs (zwo o)))] ph1
        refine w_load (pc' := 22) (v := .int x) (m := 1) (ykc_10 (e := (2, .iload_n kF1, 0)) rfl) rfl rfl ?_
        refine w_ilt (ykc_10 (e := (4, .if_icmp .lt 30, 52)) rfl) rfl (fun b1536 => ?_) (fun b1536 => ?_)
        · refine w_ret (v := none) (ykc_10 (e := (7, .return_, 0)) rfl) (zr_v rfl) ?_
          have hbb : ¬ b ≤ zbd o := by omega
          rw [hQ, ← hz, hzr, if_neg hbb]
          exact ⟨rfl, hf, hC1, hW1⟩
        · refine w_load (pc' := 26) (v := .ref F) (m := 1) (ykc_10 (e := (2, .aload_n kF0, 0)) rfl) rfl rfl ?_
          refine w_alu (pc' := 27) (st' := [.ref F, .ref F]) (ykc_10 (e := (0, .dup, 0)) rfl) rfl rfl ?_
          refine w_gf (pc' := 30) (v := .int (zn (W3.length + 1))) (ykc_10 (e := (5, .getfield 57, 0)) rfl) rfl hW1.1 rfl ?_
          refine w_alu (pc' := 31) (st' := [.int (Int32.ofInt 1), .int (zn (W3.length + 1)), .ref F]) (ykc_10 (e := (0, .iconst 1, 0)) rfl) rfl rfl ?_
          have e1537 : (zn (W3.length + 1)) - (Int32.ofInt 1) = zn (W3.length) := zsubN (a := W3.length + 1) (b := 1) (znt (by omega)) c_0 (by omega)
          have te1537 := znt (k := W3.length) (by omega)
          refine w_alu (pc' := 32) (st' := [.int (zn (W3.length)), .ref F]) (ykc_10 (e := (0, .isub, 0)) rfl) (by show some ([.int ((zn (W3.length + 1)) - (Int32.ofInt 1)), .ref F] : List Value) = _; rw [e1537]) rfl ?_
          refine w_pf (pc' := 35) (ykc_10 (e := (5, .putfield 57, 0)) rfl) rfl rfl (fun ph1539 u1538 => ?_)
          refine w_load (pc' := 36) (v := .ref F) (m := 1) (ykc_10 (e := (2, .aload_n kF0, 0)) rfl) rfl rfl ?_
          refine w_load (pc' := 37) (v := .ref F) (m := 1) (ykc_10 (e := (2, .aload_n kF0, 0)) rfl) rfl rfl ?_
          refine w_gf (pc' := 40) (v := .ref (F + 2)) (ykc_10 (e := (5, .getfield 13, 0)) rfl) rfl ((u1538.2.1 F 2 (fun q => absurd q.2 (by decide))).trans hp1.2.1) rfl ?_
          refine w_load (pc' := 41) (v := .ref F) (m := 1) (ykc_10 (e := (2, .aload_n kF0, 0)) rfl) rfl rfl ?_
          refine w_gf (pc' := 44) (v := .int (zn (W3.length))) (ykc_10 (e := (5, .getfield 57, 0)) rfl) rfl u1538.1 rfl ?_
          refine w_ialk (pc' := 45) (k := W3.length) (ykc_10 (e := (5, .iaload, 0)) rfl) ((u1538.2.1 (F + 2) W3.length (fun q => by have q2 := q.1; omega)).trans ho) (by omega) rfl ?_
          have hbb : b ≤ zbd o := by omega
          refine w_alu (pc' := 46) (st' := [.int (zcc o), .ref F]) (ykc_10 (e := (0, .ineg, 0)) rfl) (by show some ([.int (-(zn (zwo o))), .ref F] : List Value) = _; rw [(zwo_neg hov (by omega) : -(zn (zwo o)) = zcc o)]) rfl ?_
          have fu : zFr [F + 1] [(F, 1), (F, 3)] ph1 ph1539 := zFr_st u1538 (Or.inr (by simp))
          have hp2 := zFp_F fu (by simp) (by simp) hp1
          have hC2 : zFc ph1539 F C2 := zFc_F (A := []) (L := [(F, 3)]) (zFr_st u1538 (Or.inr (by simp))) (by simp) (by simp) hC1
          refine w_cv (as := [.ref F, .int (zcc o)]) (r := []) (ykc_10 (e := (6, .invokevirtual 70, 0)) rfl) rfl rfl rfl rfl (zc_emit hp2.1 hC2.1 (by omega)) (fun v1540 ph1541 hv => ?_)
          obtain ⟨rfl, fe, g1, g2, g3⟩ := hv
          show zW n D 10 Q 49 [some (.ref F), some (.int x)] [] ph1541
          refine w_gb (ykc_10 (e := (4, .goto (-49), 0)) rfl) (fun k1542 hk1542 => ?_)
          exact ih k1542 hk1542 W3 (o :: C2) _ (zFr_trans hf (zFr_trans fu (zFr_mono fe (by simp) (by simp)))) (zFc_c hC2 g1 g2 g3 (zvo_v hov (by omega))) (zFw_t hW1 ((fe.1 F 3 (by simp) (by simp)).trans u1538.1) (fun i => (fe.1 (F + 2) i (by simp) (by simp)).trans (u1538.2.1 (F + 2) i (fun q => by have q1 := q.1; omega)))) (by rw [← hz, hzr, if_pos hbb]) (by show C2.length + 1 + W3.length ≤ 40; omega)
  exact hl n W C ph zFr_refl hC hW rfl h40
theorem zi2b : (List.range 256).all (fun c => decide (((zn c).toInt8.toInt32).toInt = if c < 128 then (c : Int) else (c : Int) - 256)) = true := by decide +kernel
theorem zi2bc {c : Nat} (h : c < 256) : ((zn c).toInt8.toInt32).toInt = if c < 128 then (c : Int) else (c : Int) - 256 := of_decide_eq_true (List.all_eq_true.mp zi2b c (List.mem_range.mpr h))
theorem zj_can {c : Nat} {ph : pm_H} (hc : c < 256) : zM 315 [.int (zn c)] ph (fun v0 q => ph = q ∧ v0 = some (.int (zI true))) := by
  obtain ⟨Q, hQ⟩ : ∃ Q : Option Value → pm_H → Prop, Q = (fun v0 q => ph = q ∧ v0 = some (.int (zI true))) := ⟨_, rfl⟩
  rw [← hQ]
  refine zM_mk fun n D => ?_
  show zW n D 315 Q 0 [some (.int (zn c))] [] ph
  have c_0 : ((Int16.ofInt 255).toInt32).toInt = 255 := by decide
  have c_1 : (Int32.ofInt 0).toInt = 0 := by decide
  have c_2 : (Int32.ofInt 1).toInt = 1 := by decide
  have tc := znt (k := c) (by omega)
  refine w_load (pc' := 1) (v := .int (zn c)) (m := 1) (ykc_315 (e := (2, .iload_n kF0, 0)) rfl) rfl rfl ?_
  refine w_zlt (ykc_315 (e := (4, .ifCond .lt 14, 15)) rfl) rfl (fun q => by exfalso; omega) (fun b1543 => ?_)
  refine w_load (pc' := 5) (v := .int (zn c)) (m := 1) (ykc_315 (e := (2, .iload_n kF0, 0)) rfl) rfl rfl ?_
  refine w_push (pc' := 8) (v := .int ((Int16.ofInt 255).toInt32)) (m := 3) (ykc_315 (e := (1, .sipush 255, 0)) rfl) rfl rfl ?_
  refine w_igt (ykc_315 (e := (4, .if_icmp .gt 7, 15)) rfl) rfl (fun q => by exfalso; omega) (fun b1544 => ?_)
  refine w_alu (pc' := 12) (st' := [.int (Int32.ofInt 1)]) (ykc_315 (e := (0, .iconst 1, 0)) rfl) rfl rfl ?_
  refine w_br (pc' := 16) (st' := [.int (Int32.ofInt 1)]) (ykc_315 (e := (4, .goto 4, 16)) rfl) rfl ?_
  refine w_ret (v := (some (.int (Int32.ofInt 1)))) (ykc_315 (e := (7, .ireturn, 0)) rfl) zr_z ?_
  rw [hQ, zi1]
  exact ⟨rfl, rfl⟩
theorem zj_ixc {s B N : Nat} {cs : Nat → Nat} {ph : pm_H} (hst : zStr s B N cs) {c : Nat} (hc : c < 256) {x0 x1 : Int32} (hx0 : x0.toInt = 0) (hx1 : x1.toInt = (N : Int)) : zM 317 [.ref B, .int (zn c), .int x0, .int x1] ph (fun v0 q => ph = q ∧ ((∃ k, k < N ∧ cs k = c ∧ v0 = some (.int (zn k))) ∨ ((∀ k, k < N → cs k ≠ c) ∧ v0 = some (.int (Int32.ofInt (-1)))))) := by
  obtain ⟨Q, hQ⟩ : ∃ Q : Option Value → pm_H → Prop, Q = (fun v0 q => ph = q ∧ ((∃ k, k < N ∧ cs k = c ∧ v0 = some (.int (zn k))) ∨ ((∀ k, k < N → cs k ≠ c) ∧ v0 = some (.int (Int32.ofInt (-1)))))) := ⟨_, rfl⟩
  rw [← hQ]
  refine zM_mk fun n D => ?_
  show zW n D 317 Q 0 [some (.ref B), some (.int (zn c)), some (.int x0), some (.int x1), none, none] [] ph
  have c_0 : (Int32.ofInt (-1)).toInt = -1 := by decide
  have c_1 : (Int32.ofInt 1).toInt = 1 := by decide
  obtain ⟨i9, s1, s2, s3, s4, s5, f, s6, s7⟩ := hst
  have tc := znt (k := c) (by omega)
  have hb8 := zi2bc hc
  refine w_load (pc' := 1) (v := .int (zn c)) (m := 1) (ykc_317 (e := (2, .iload_n kF1, 0)) rfl) rfl rfl ?_
  refine w_alu (pc' := 2) (st' := [.int ((zn c).toInt8.toInt32)]) (ykc_317 (e := (0, .i2b, 0)) rfl) rfl rfl ?_
  refine w_store (pc' := 4) (L' := [some (.ref B), some (.int (zn c)), some (.int x0), some (.int x1), some (.int ((zn c).toInt8.toInt32)), none]) (st' := []) (m := 2) (ykc_317 (e := (3, .istore 4, 0)) rfl) rfl rfl ?_
  refine w_load (pc' := 5) (v := .int x0) (m := 1) (ykc_317 (e := (2, .iload_n kF2, 0)) rfl) rfl rfl ?_
  refine w_store (pc' := 7) (L' := [some (.ref B), some (.int (zn c)), some (.int x0), some (.int x1), some (.int ((zn c).toInt8.toInt32)), some (.int x0)]) (st' := []) (m := 2) (ykc_317 (e := (3, .istore 5, 0)) rfl) rfl rfl ?_
  have hl : ∀ (n : Nat), ∀ (k : Nat) (z : Int32), (k ≤ N) → (z.toInt = (k : Int)) → (∀ i, i < k → cs i ≠ c) → zW n D 317 Q 7 [some (.ref B), some (.int (zn c)), some (.int x0), some (.int x1), some (.int ((zn c).toInt8.toInt32)), some (.int z)] [] ph := by
    intro n
    induction n using Nat.strongRecOn with
    | ind n ih =>
      intro k z hk hz hno
      refine w_load (pc' := 9) (v := .int z) (m := 2) (ykc_317 (e := (2, .iload 5, 0)) rfl) rfl rfl ?_
      refine w_load (pc' := 10) (v := .int x1) (m := 1) (ykc_317 (e := (2, .iload_n kF3, 0)) rfl) rfl rfl ?_
      refine w_ige (ykc_317 (e := (4, .if_icmp .ge 21, 31)) rfl) rfl (fun b1545 => ?_) (fun b1545 => ?_)
      · refine w_alu (pc' := 32) (st' := [.int (Int32.ofInt (-1))]) (ykc_317 (e := (0, .iconst (-1), 0)) rfl) rfl rfl ?_
        refine w_ret (v := (some (.int (Int32.ofInt (-1))))) (ykc_317 (e := (7, .ireturn, 0)) rfl) (zr_v rfl) ?_
        have ek : k = N := by omega
        subst ek
        rw [hQ]
        exact ⟨rfl, Or.inr ⟨hno, rfl⟩⟩
      · refine w_load (pc' := 14) (v := .ref B) (m := 1) (ykc_317 (e := (2, .aload_n kF0, 0)) rfl) rfl rfl ?_
        refine w_load (pc' := 16) (v := .int z) (m := 2) (ykc_317 (e := (2, .iload 5, 0)) rfl) rfl rfl ?_
        obtain ⟨hfk, hck⟩ := s7 k (by omega)
        have tck := znt (k := cs k) (by omega)
        refine w_blr (pc' := 17) (k := k) (y := zn (cs k)) (ykc_317 (e := (5, .baload, 0)) rfl) ⟨s4, s6, hfk⟩ (by omega) rfl ?_
        refine w_load (pc' := 19) (v := .int ((zn c).toInt8.toInt32)) (m := 2) (ykc_317 (e := (2, .iload 4, 0)) rfl) rfl rfl ?_
        refine w_ine (ykc_317 (e := (4, .if_icmp .ne 6, 25)) rfl) rfl (fun b1546 => ?_) (fun b1546 => ?_)
        · have e1547 : z + Int32.ofInt 1 = zn (k + 1) := (zaddN (a := k) (b := 1) (by omega) c_1 (by omega))
          have te1547 := znt (k := k + 1) (by omega)
          refine w_store (pc' := 28) (L' := [some (.ref B), some (.int (zn c)), some (.int x0), some (.int x1), some (.int ((zn c).toInt8.toInt32)), some (.int (zn (k + 1)))]) (st' := []) (m := 3) (ykc_317 (e := (3, .iinc 5 1, 0)) rfl) (by rw [← e1547]; rfl) rfl ?_
          refine w_gb (ykc_317 (e := (4, .goto (-21), 7)) rfl) (fun k1548 hk1548 => ?_)
          exact ih k1548 hk1548 (k + 1) _ (by omega) (by omega) (fun i hi => by
            by_cases e : i = k
            · subst e
              intro q
              rw [if_pos (by omega)] at hb8
              omega
            · exact hno i (by omega))
        · refine w_load (pc' := 24) (v := .int z) (m := 2) (ykc_317 (e := (2, .iload 5, 0)) rfl) rfl rfl ?_
          refine w_ret (v := (some (.int z))) (ykc_317 (e := (7, .ireturn, 0)) rfl) (zr_v rfl) ?_
          have hz9 : z = zn k := zn_of hz
          rw [hQ, hz9]
          exact ⟨rfl, Or.inl ⟨k, by omega, by split at hb8 <;> omega, rfl⟩⟩
  exact hl n 0 x0 (Nat.zero_le _) hx0 (fun i hi => absurd hi (Nat.not_lt_zero i))
theorem zj_ix4 {s B N : Nat} {cs : Nat → Nat} {ph : pm_H} (hst : zStr s B N cs) {c : Nat} (hc : c < 256) {x0 x1 : Int32} (hx0 : x0.toInt = 0) (hx1 : x1.toInt = (N : Int)) : zM 316 [.ref B, .int (zn c), .int x0, .int x1] ph (fun v0 q => ph = q ∧ ((∃ k, k < N ∧ cs k = c ∧ v0 = some (.int (zn k))) ∨ ((∀ k, k < N → cs k ≠ c) ∧ v0 = some (.int (Int32.ofInt (-1)))))) := by
  obtain ⟨Q, hQ⟩ : ∃ Q : Option Value → pm_H → Prop, Q = (fun v0 q => ph = q ∧ ((∃ k, k < N ∧ cs k = c ∧ v0 = some (.int (zn k))) ∨ ((∀ k, k < N → cs k ≠ c) ∧ v0 = some (.int (Int32.ofInt (-1)))))) := ⟨_, rfl⟩
  rw [← hQ]
  refine zM_mk fun n D => ?_
  show zW n D 316 Q 0 [some (.ref B), some (.int (zn c)), some (.int x0), some (.int x1)] [] ph
  have c_0 : (Int32.ofInt (-1)).toInt = -1 := by decide
  have c_1 : (Int32.ofInt 0).toInt = 0 := by decide
  have hst0 := hst
  obtain ⟨i9, s1, s2, s3, s4, s5, f, s6, s7⟩ := hst
  have tN : (Int32.ofNat N).toInt = (N : Int) := znt (by omega)
  refine w_load (pc' := 1) (v := .int (zn c)) (m := 1) (ykc_316 (e := (2, .iload_n kF1, 0)) rfl) rfl rfl ?_
  refine w_cs (as := [.int (zn c)]) (r := []) (ykc_316 (e := (6, .invokestatic 88, 0)) rfl) rfl rfl rfl rfl (zj_can hc) (fun v1549 ph1550 hv => ?_)
  obtain ⟨rfl, rfl⟩ := hv
  show zW n D 316 Q 4 [some (.ref B), some (.int (zn c)), some (.int x0), some (.int x1)] [.int (zI true)] ph
  refine w_bne (ykc_316 (e := (4, .ifCond .ne 5, 9)) rfl) rfl (fun b1551 => ?_) (fun q => absurd q (by decide))
  refine w_load (pc' := 10) (v := .int x0) (m := 1) (ykc_316 (e := (2, .iload_n kF2, 0)) rfl) rfl rfl ?_
  refine w_alu (pc' := 11) (st' := [.int (Int32.ofInt 0), .int x0]) (ykc_316 (e := (0, .iconst 0, 0)) rfl) rfl rfl ?_
  obtain ⟨z1552, e_z1552⟩ : ∃ zq : Int32, (if x0 < (Int32.ofInt 0) then (Int32.ofInt 0) else x0) = zq := ⟨_, rfl⟩
  have h_z1552 := zmaxI e_z1552
  have n_z1552 : z1552.toInt = ((0 : Nat) : Int) := by omega
  refine w_mem1 (pc' := 14) (m := 3) (st' := [.int z1552]) (ph' := ph) (ykc_316 (e := (5, .invokestatic 92, 0)) rfl) (by rw [← e_z1552]; rfl) rfl ?_
  refine w_store (pc' := 15) (L' := [some (.ref B), some (.int (zn c)), some (.int z1552), some (.int x1)]) (st' := []) (m := 1) (ykc_316 (e := (3, .istore_n kF2, 0)) rfl) rfl rfl ?_
  refine w_load (pc' := 16) (v := .int x1) (m := 1) (ykc_316 (e := (2, .iload_n kF3, 0)) rfl) rfl rfl ?_
  refine w_load (pc' := 17) (v := .ref B) (m := 1) (ykc_316 (e := (2, .aload_n kF0, 0)) rfl) rfl rfl ?_
  refine w_alr (ykc_316 (e := (5, .arraylength, 0)) rfl) ⟨s4, s6⟩ rfl ?_
  obtain ⟨z1553, e_z1553⟩ : ∃ zq : Int32, (if (Int32.ofNat N) < x1 then (Int32.ofNat N) else x1) = zq := ⟨_, rfl⟩
  have h_z1553 := zminI e_z1553
  have n_z1553 : z1553.toInt = ((N : Nat) : Int) := by omega
  refine w_mem1 (pc' := 21) (m := 3) (st' := [.int z1553]) (ph' := ph) (ykc_316 (e := (5, .invokestatic 38, 0)) rfl) (by rw [← e_z1553]; rfl) rfl ?_
  refine w_store (pc' := 22) (L' := [some (.ref B), some (.int (zn c)), some (.int z1552), some (.int z1553)]) (st' := []) (m := 1) (ykc_316 (e := (3, .istore_n kF3, 0)) rfl) rfl rfl ?_
  refine w_load (pc' := 23) (v := .int z1552) (m := 1) (ykc_316 (e := (2, .iload_n kF2, 0)) rfl) rfl rfl ?_
  refine w_load (pc' := 24) (v := .int z1553) (m := 1) (ykc_316 (e := (2, .iload_n kF3, 0)) rfl) rfl rfl ?_
  refine w_ilt (ykc_316 (e := (4, .if_icmp .lt 5, 29)) rfl) rfl (fun b1554 => ?_) (fun b1554 => ?_)
  · refine w_load (pc' := 30) (v := .ref B) (m := 1) (ykc_316 (e := (2, .aload_n kF0, 0)) rfl) rfl rfl ?_
    refine w_load (pc' := 31) (v := .int (zn c)) (m := 1) (ykc_316 (e := (2, .iload_n kF1, 0)) rfl) rfl rfl ?_
    refine w_load (pc' := 32) (v := .int z1552) (m := 1) (ykc_316 (e := (2, .iload_n kF2, 0)) rfl) rfl rfl ?_
    refine w_load (pc' := 33) (v := .int z1553) (m := 1) (ykc_316 (e := (2, .iload_n kF3, 0)) rfl) rfl rfl ?_
    refine w_cs (as := [.ref B, .int (zn c), .int z1552, .int z1553]) (r := []) (ykc_316 (e := (6, .invokestatic 95, 0)) rfl) rfl rfl rfl rfl (zj_ixc hst0 hc (x0 := z1552) (x1 := z1553) (by omega) (by omega)) (fun v1555 ph1556 hv => ?_)
    rcases hv with ⟨rfl, ⟨k, h1, h2, rfl⟩ | ⟨h1, rfl⟩⟩
    · show zW n D 316 Q 36 [some (.ref B), some (.int (zn c)), some (.int z1552), some (.int z1553)] [.int (zn k)] ph
      refine w_ret (v := (some (.int (zn k)))) (ykc_316 (e := (7, .ireturn, 0)) rfl) (zr_v rfl) ?_
      rw [hQ]
      exact ⟨rfl, Or.inl ⟨k, h1, h2, rfl⟩⟩
    · show zW n D 316 Q 36 [some (.ref B), some (.int (zn c)), some (.int z1552), some (.int z1553)] [.int (Int32.ofInt (-1))] ph
      refine w_ret (v := (some (.int (Int32.ofInt (-1))))) (ykc_316 (e := (7, .ireturn, 0)) rfl) (zr_v rfl) ?_
      rw [hQ]
      exact ⟨rfl, Or.inr ⟨h1, rfl⟩⟩
    
  · refine w_alu (pc' := 28) (st' := [.int (Int32.ofInt (-1))]) (ykc_316 (e := (0, .iconst (-1), 0)) rfl) rfl rfl ?_
    refine w_ret (v := (some (.int (Int32.ofInt (-1))))) (ykc_316 (e := (7, .ireturn, 0)) rfl) (zr_v rfl) ?_
    rw [hQ]
    exact ⟨rfl, Or.inr ⟨fun k hk => absurd hk (by omega), rfl⟩⟩
theorem zj_ix2 {s B N : Nat} {cs : Nat → Nat} {ph : pm_H} (hst : zStr s B N cs) {c : Nat} (hc : c < 256) {x0 : Int32} (hx0 : x0.toInt = 0) : zM 309 [.ref s, .int (zn c), .int x0] ph (fun v0 q => ph = q ∧ ((∃ k, k < N ∧ cs k = c ∧ v0 = some (.int (zn k))) ∨ ((∀ k, k < N → cs k ≠ c) ∧ v0 = some (.int (Int32.ofInt (-1)))))) := by
  obtain ⟨Q, hQ⟩ : ∃ Q : Option Value → pm_H → Prop, Q = (fun v0 q => ph = q ∧ ((∃ k, k < N ∧ cs k = c ∧ v0 = some (.int (zn k))) ∨ ((∀ k, k < N → cs k ≠ c) ∧ v0 = some (.int (Int32.ofInt (-1)))))) := ⟨_, rfl⟩
  rw [← hQ]
  refine zM_mk fun n D => ?_
  show zW n D 309 Q 0 [some (.ref s), some (.int (zn c)), some (.int x0)] [] ph
  have hst0 := hst
  obtain ⟨i9, s1, s2, s3, s4, s5, f, s6, s7⟩ := hst
  have k0 : (0 : Int32).toInt = 0 := by decide
  have k1 : (1 : Int32).toInt = 1 := by decide
  refine w_load (pc' := 1) (v := .ref s) (m := 1) (ykc_309 (e := (2, .aload_n kF0, 0)) rfl) rfl rfl ?_
  refine w_cvr s1 (as := [.ref s]) (r := []) (ykc_309 (e := (6, .invokevirtual 492, 0)) rfl) rfl rfl rfl rfl (zj_latin hst0) (fun v1557 ph1558 hv => ?_)
  obtain ⟨rfl, rfl⟩ := hv
  show zW n D 309 Q 4 [some (.ref s), some (.int (zn c)), some (.int x0)] [.int (zI true)] ph
  refine w_beq (ykc_309 (e := (4, .ifCond .eq 19, 23)) rfl) rfl (fun q => absurd q (by decide)) (fun b1559 => ?_)
  refine w_load (pc' := 8) (v := .ref s) (m := 1) (ykc_309 (e := (2, .aload_n kF0, 0)) rfl) rfl rfl ?_
  refine w_gfr (pc' := 11) (v := .ref B) (ykc_309 (e := (5, .getfield 9, 0)) rfl) rfl s1 s2 rfl ?_
  refine w_load (pc' := 12) (v := .int (zn c)) (m := 1) (ykc_309 (e := (2, .iload_n kF1, 0)) rfl) rfl rfl ?_
  refine w_load (pc' := 13) (v := .int x0) (m := 1) (ykc_309 (e := (2, .iload_n kF2, 0)) rfl) rfl rfl ?_
  refine w_load (pc' := 14) (v := .ref s) (m := 1) (ykc_309 (e := (2, .aload_n kF0, 0)) rfl) rfl rfl ?_
  refine w_cvr s1 (as := [.ref s]) (r := [.int x0, .int (zn c), .ref B]) (ykc_309 (e := (6, .invokevirtual 505, 0)) rfl) rfl rfl rfl rfl (zj_len hst0) (fun v1560 ph1561 hv => ?_)
  obtain ⟨rfl, rfl⟩ := hv
  have tN := znt (k := N) (by omega)
  show zW n D 309 Q 17 [some (.ref s), some (.int (zn c)), some (.int x0)] [.int (zn N), .int x0, .int (zn c), .ref B] ph
  refine w_cs (as := [.ref B, .int (zn c), .int x0, .int (zn N)]) (r := []) (ykc_309 (e := (6, .invokestatic 637, 0)) rfl) rfl rfl rfl rfl (zj_ix4 hst0 hc hx0 (by omega)) (fun v1562 ph1563 hv => ?_)
  rcases hv with ⟨rfl, ⟨k, h1, h2, rfl⟩ | ⟨h1, rfl⟩⟩
  · show zW n D 309 Q 20 [some (.ref s), some (.int (zn c)), some (.int x0)] [.int (zn k)] ph
    refine w_br (pc' := 36) (st' := [.int (zn k)]) (ykc_309 (e := (4, .goto 16, 36)) rfl) rfl ?_
    refine w_ret (v := (some (.int (zn k)))) (ykc_309 (e := (7, .ireturn, 0)) rfl) (zr_v rfl) ?_
    rw [hQ]
    exact ⟨rfl, Or.inl ⟨k, h1, h2, rfl⟩⟩
  · show zW n D 309 Q 20 [some (.ref s), some (.int (zn c)), some (.int x0)] [.int (Int32.ofInt (-1))] ph
    refine w_br (pc' := 36) (st' := [.int (Int32.ofInt (-1))]) (ykc_309 (e := (4, .goto 16, 36)) rfl) rfl ?_
    refine w_ret (v := (some (.int (Int32.ofInt (-1))))) (ykc_309 (e := (7, .ireturn, 0)) rfl) (zr_v rfl) ?_
    rw [hQ]
    exact ⟨rfl, Or.inr ⟨h1, rfl⟩⟩
  
theorem zj_ix {s B N : Nat} {cs : Nat → Nat} {ph : pm_H} (hst : zStr s B N cs) {c : Nat} (hc : c < 256) : zM 308 [.ref s, .int (zn c)] ph (fun v0 q => ph = q ∧ ((∃ k, k < N ∧ cs k = c ∧ v0 = some (.int (zn k))) ∨ ((∀ k, k < N → cs k ≠ c) ∧ v0 = some (.int (Int32.ofInt (-1)))))) := by
  obtain ⟨Q, hQ⟩ : ∃ Q : Option Value → pm_H → Prop, Q = (fun v0 q => ph = q ∧ ((∃ k, k < N ∧ cs k = c ∧ v0 = some (.int (zn k))) ∨ ((∀ k, k < N → cs k ≠ c) ∧ v0 = some (.int (Int32.ofInt (-1)))))) := ⟨_, rfl⟩
  rw [← hQ]
  refine zM_mk fun n D => ?_
  show zW n D 308 Q 0 [some (.ref s), some (.int (zn c))] [] ph
  have c_0 : (Int32.ofInt 0).toInt = 0 := by decide
  have hst0 := hst
  obtain ⟨i9, s1, s2, s3, s4, s5, f, s6, s7⟩ := hst
  have k0 : (0 : Int32).toInt = 0 := by decide
  have k1 : (1 : Int32).toInt = 1 := by decide
  refine w_load (pc' := 1) (v := .ref s) (m := 1) (ykc_308 (e := (2, .aload_n kF0, 0)) rfl) rfl rfl ?_
  refine w_load (pc' := 2) (v := .int (zn c)) (m := 1) (ykc_308 (e := (2, .iload_n kF1, 0)) rfl) rfl rfl ?_
  refine w_alu (pc' := 3) (st' := [.int (Int32.ofInt 0), .int (zn c), .ref s]) (ykc_308 (e := (0, .iconst 0, 0)) rfl) rfl rfl ?_
  refine w_cvr s1 (as := [.ref s, .int (zn c), .int (Int32.ofInt 0)]) (r := []) (ykc_308 (e := (6, .invokevirtual 633, 0)) rfl) rfl rfl rfl rfl (zj_ix2 hst0 hc (by omega)) (fun v1564 ph1565 hv => ?_)
  rcases hv with ⟨rfl, ⟨k, h1, h2, rfl⟩ | ⟨h1, rfl⟩⟩
  · show zW n D 308 Q 6 [some (.ref s), some (.int (zn c))] [.int (zn k)] ph
    refine w_ret (v := (some (.int (zn k)))) (ykc_308 (e := (7, .ireturn, 0)) rfl) (zr_v rfl) ?_
    rw [hQ]
    exact ⟨rfl, Or.inl ⟨k, h1, h2, rfl⟩⟩
  · show zW n D 308 Q 6 [some (.ref s), some (.int (zn c))] [.int (Int32.ofInt (-1))] ph
    refine w_ret (v := (some (.int (Int32.ofInt (-1))))) (ykc_308 (e := (7, .ireturn, 0)) rfl) (zr_v rfl) ?_
    rw [hQ]
    exact ⟨rfl, Or.inr ⟨h1, rfl⟩⟩
  
theorem zlt_ls : ∀ k, k < 8 → zlt (zls [98, 108, 107, 102, 114, 99, 110, 112] k) = k := by decide
theorem zlt_ls2 {c : Nat} (h : zlt c < 8) : zls [98, 108, 107, 102, 114, 99, 110, 112] (zlt c) = c := by
  unfold zlt at h ⊢
  repeat' split
  all_goals first | (subst_vars; rfl) | (exfalso; simp_all)
/-- a letter's place -/
theorem zc_letter {c : Nat} {ph : pm_H} (hc : c < 256) : zM 308 [.ref 1048626, .int (zn c)] ph (fun v0 q => ph = q ∧ ((zlt c < 8 ∧ v0 = some (.int (zn (zlt c)))) ∨ (¬ zlt c < 8 ∧ v0 = some (.int (Int32.ofInt (-1)))))) := zM_imp (zj_ix zstr_letc hc) fun v q h => by
  obtain ⟨h0, ⟨k, h1, h2, h3⟩ | ⟨h1, h2⟩⟩ := h
  · have e : zlt c = k := by rw [← h2]; exact zlt_ls k h1
    exact ⟨h0, Or.inl ⟨by omega, by rw [e]; exact h3⟩⟩
  · exact ⟨h0, Or.inr ⟨fun q => h1 _ q (zlt_ls2 q), h2⟩⟩
