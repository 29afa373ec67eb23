/-! people and things of the class, by W; printed by wip/z/z1e_people.py -/
/-- one more of PEOPLE; k LINES of them; one more THING; k of them -/
def zad (v : Nat → Nat) (P f a b : Nat) : Nat → Nat := znu (znu (znu (znu v P f) (8 + P) a) (16 + P) b) (24 + P) 0
def zPv (C : Nat) (t : Nat → Nat) (P : Nat) (v : Nat → Nat) : Nat → Nat → Nat
  | 0 => v
  | k + 1 => zad (zPv C t P v k) (P + k) (zLf C t (5 * k)) (t (5 * k + 2) - 48) (t (5 * k + 3) - 48)
def zGv (C : Nat) (t : Nat → Nat) (G : Nat) (v : Nat → Nat) : Nat → Nat → Nat
  | 0 => v
  | k + 1 => znu (zGv C t G v k) (32 + (G + k)) (zLf C t (3 * k))
theorem znu_e {f : Nat → Nat} {i x : Nat} : znu f i x i = x := if_pos rfl
theorem znu_n {f : Nat → Nat} {i j x : Nat} (h : j ≠ i) : znu f i x j = f j := if_neg h
theorem zad_o {v : Nat → Nat} {P f a b j : Nat} (h : j ≠ P ∧ j ≠ 8 + P ∧ j ≠ 16 + P ∧ j ≠ 24 + P) : zad v P f a b j = v j := by
  unfold zad
  rw [znu_n h.2.2.2, znu_n h.2.2.1, znu_n h.2.1, znu_n h.1]
theorem zad_f {v : Nat → Nat} {P f a b : Nat} : zad v P f a b P = f ∧ zad v P f a b (8 + P) = a ∧ zad v P f a b (16 + P) = b ∧ zad v P f a b (24 + P) = 0 := by
  unfold zad
  refine ⟨?_, ?_, ?_, znu_e⟩
  · rw [znu_n (by omega), znu_n (by omega), znu_n (by omega), znu_e]
  · rw [znu_n (by omega), znu_n (by omega), znu_e]
  · rw [znu_n (by omega), znu_e]
theorem zOk_ad {R C P G f a b : Nat} {v : Nat → Nat} (hP : P < 8) (h : zOk R C P G v) (hf : f < R * C) (ha : a < 8) (hb : b ≤ 4) : zOk R C (P + 1) G (zad v P f a b) := by
  obtain ⟨e1, e2, e3, e4⟩ := @zad_f v P f a b
  refine ⟨fun p hp => ?_, fun t ht => ?_, ?_⟩
  · by_cases e : p = P
    · subst e
      rw [e1, e2, e3, e4]
      exact ⟨hf, ha, hb, by decide⟩
    · rw [zad_o (by omega), zad_o (by omega), zad_o (by omega), zad_o (by omega)]
      exact h.1 p (by omega)
  · rw [zad_o (by omega)]
    exact h.2.1 t ht
  · rw [zad_o (by omega)]
    exact h.2.2
theorem zOk_ag {R C P G f : Nat} {v : Nat → Nat} (hP : P ≤ 8) (hG : G < 8) (h : zOk R C P G v) (hf : f < R * C) : zOk R C P (G + 1) (znu v (32 + G) f) := by
  refine ⟨fun p hp => ?_, fun t ht => ?_, ?_⟩
  · rw [znu_n (by omega), znu_n (by omega), znu_n (by omega), znu_n (by omega)]
    exact h.1 p hp
  · by_cases e : t = G
    · subst e; rw [znu_e]; exact hf
    · rw [znu_n (by omega)]; exact h.2.1 t (by omega)
  · rw [znu_n (by omega)]
    exact h.2.2
theorem zPv_ok {R C P G n k : Nat} {rk : Nat → Bool} {t v : Nat → Nat} (hR : 3 ≤ R) (hC : 3 ≤ C) (h : zOk R C P G v) (hg : ∀ l, l < k → zLg R C rk 4 n t (5 * l) 4 = 4) (hk : P + k ≤ 8) : zOk R C (P + k) G (zPv C t P v k) := by
  induction k with
  | zero => exact h
  | succ k ih =>
    have h1 := ih (fun l hl => hg l (by omega)) (by omega)
    have g := hg k (by omega)
    have g0 := zLk_d (zLg_a g 0 (by omega))
    have g1 := zLk_d (zLg_a g 1 (by omega))
    have g2 := zLk_d (zLg_a g 2 (by omega))
    have g3 := zLk_d (zLg_a g 3 (by omega))
    have b0 : zLb R C 0 = R := rfl
    have b1 : zLb R C 1 = C := rfl
    have b2 : zLb R C 2 = 8 := rfl
    have b3 : zLb R C 3 = 5 := rfl
    rw [Nat.add_zero] at g0
    exact zOk_ad (show P + k < 8 by omega) h1 (zLf_lt (by omega) (by omega) (by omega) (by omega)) (by omega) (by omega)
theorem zGv_ok {R C P G n k : Nat} {rk : Nat → Bool} {t v : Nat → Nat} (hR : 3 ≤ R) (hC : 3 ≤ C) (hP : P ≤ 8) (h : zOk R C P G v) (hg : ∀ l, l < k → zLg R C rk 2 n t (3 * l) 2 = 2) (hk : G + k ≤ 8) : zOk R C P (G + k) (zGv C t G v k) := by
  induction k with
  | zero => exact h
  | succ k ih =>
    have h1 := ih (fun l hl => hg l (by omega)) (by omega)
    have g := hg k (by omega)
    have g0 := zLk_d (zLg_a g 0 (by omega))
    have g1 := zLk_d (zLg_a g 1 (by omega))
    have b0 : zLb R C 0 = R := rfl
    have b1 : zLb R C 1 = C := rfl
    rw [Nat.add_zero] at g0
    exact zOk_ag hP (show G + k < 8 by omega) h1 (zLf_lt (by omega) (by omega) (by omega) (by omega))
theorem zCk_F2 {A : List Nat} {F : List (Nat × Nat)} {p q : pm_H} {P G fl : Nat} {sv : Nat → Nat → Nat} (f : zFr A F p q) (h1 : 43 ∉ A) (h2 : (43, 4) ∉ F) (h3 : ∀ j, 136 ≤ j → j < 154 → j ∉ A) (h4 : ∀ j i, 136 ≤ j → j < 154 → (j, i) ∉ F) (h : zCk p P G fl sv) : zCk q P G fl sv := ⟨(f.1 _ _ h1 h2).trans h.1, h.2.1, fun i hi hb => zSd_F f (fun j hj => h3 _ (by omega) (by omega)) (fun j k hj => h4 _ _ (by omega) (by omega)) (h.2.2 i hi hb)⟩
/-- an answer is no more than the room -/
theorem zLo_r {R C wd st n room : Nat} {rk : Nat → Bool} {t : Nat → Nat} : ∀ f l, l + f = 9 → l ≤ room → room ≤ 8 → zLo R C rk wd st n t room f l ≤ (room : Int) := by
  intro f
  induction f with
  | zero => intro l h1 h2 h3; show (0 : Int) ≤ _; omega
  | succ f ih =>
    intro l h1 h2 h3
    unfold zLo
    split
    · omega
    · split
      · omega
      · split
        · omega
        · split
          · omega
          · exact ih (l + 1) (by omega) (by omega) h3
theorem zLa_r {R C wd st n room : Nat} {rk : Nat → Bool} {t : Nat → Nat} (h : room ≤ 8) : zLa R C rk wd st n t room ≤ (room : Int) := by
  unfold zLa
  split
  · omega
  · exact zLo_r 9 0 rfl (Nat.zero_le _) h
theorem zc_addP {ph : pm_H} {P G : Nat} {v : Nat → Nat} (hS : zSh ph) (hd : zSd ph 25 P G v) {x y z : Int32} {f a b : Nat} (hx : x = zn f) (hy : y = zn a) (hz : z = zn b) (h8 : P < 8) : zM 104 [.ref 25, .int x, .int y, .int z] ph (fun v0 q => v0 = none ∧ zFr [26, 27, 28, 29] [(25, 0)] ph q ∧ zSd q 25 (P + 1) G (zad v P f a b)) := by
  obtain ⟨Q, hQ⟩ : ∃ Q : Option Value → pm_H → Prop, Q = (fun v0 q => v0 = none ∧ zFr [26, 27, 28, 29] [(25, 0)] ph q ∧ zSd q 25 (P + 1) G (zad v P f a b)) := ⟨_, rfl⟩
  rw [← hQ]
  refine zM_mk fun n D => ?_
  show zW n D 104 Q 0 [some (.ref 25), some (.int x), some (.int y), some (.int z)] [] ph
  have c_0 : ((Int8.ofInt 8).toInt32).toInt = 8 := by decide
  have c_1 : (Int32.ofInt 0).toInt = 0 := by decide
  have c_2 : (Int32.ofInt 1).toInt = 1 := by decide
  subst hx hy hz
  show zW n D 104 Q 0 [some (.ref 25), some (.int (zn f)), some (.int (zn a)), some (.int (zn b))] [] ph
  obtain ⟨gP, hP8, gG, hG8, g40, gp, gg⟩ := hd
  have tP := znt (k := P) (by omega)
  have tG := znt (k := G) (by omega)
  refine w_load (pc' := 1) (v := .ref 25) (m := 1) (ykc_104 (e := (2, .aload_n kF0, 0)) rfl) rfl rfl ?_
  refine w_gf (pc' := 4) (v := .int (zn P)) (ykc_104 (e := (5, .getfield 30, 0)) rfl) rfl gP rfl ?_
  refine w_zlt (ykc_104 (e := (4, .ifCond .lt 12, 16)) rfl) rfl (fun q => by exfalso; omega) (fun b1809 => ?_)
  refine w_load (pc' := 8) (v := .ref 25) (m := 1) (ykc_104 (e := (2, .aload_n kF0, 0)) rfl) rfl rfl ?_
  refine w_gf (pc' := 11) (v := .int (zn P)) (ykc_104 (e := (5, .getfield 30, 0)) rfl) rfl gP rfl ?_
  refine w_push (pc' := 13) (v := .int ((Int8.ofInt 8).toInt32)) (m := 2) (ykc_104 (e := (1, .bipush 8, 0)) rfl) rfl rfl ?_
  refine w_ilt (ykc_104 (e := (4, .if_icmp .lt 4, 17)) rfl) rfl (fun b1810 => ?_) (fun q => by exfalso; omega)
  refine w_load (pc' := 18) (v := .ref 25) (m := 1) (ykc_104 (e := (2, .aload_n kF0, 0)) rfl) rfl rfl ?_
  refine w_gf (pc' := 21) (v := .ref 26) (ykc_104 (e := (5, .getfield 9, 0)) rfl) rfl (zsg hS zs_25_3) rfl ?_
  refine w_load (pc' := 22) (v := .ref 25) (m := 1) (ykc_104 (e := (2, .aload_n kF0, 0)) rfl) rfl rfl ?_
  refine w_gf (pc' := 25) (v := .int (zn P)) (ykc_104 (e := (5, .getfield 30, 0)) rfl) rfl gP rfl ?_
  refine w_load (pc' := 26) (v := .int (zn f)) (m := 1) (ykc_104 (e := (2, .iload_n kF1, 0)) rfl) rfl rfl ?_
  refine w_ias (pc' := 27) (k := P) (ykc_104 (e := (5, .iastore, 0)) rfl) (by omega) rfl (fun ph1812 u1811 => ?_)
  refine w_load (pc' := 28) (v := .ref 25) (m := 1) (ykc_104 (e := (2, .aload_n kF0, 0)) rfl) rfl rfl ?_
  refine w_gf (pc' := 31) (v := .ref 27) (ykc_104 (e := (5, .getfield 15, 0)) rfl) rfl ((u1811.2.1 25 4 (fun q => absurd q.1 (by decide))).trans (zsg hS zs_25_4)) rfl ?_
  refine w_load (pc' := 32) (v := .ref 25) (m := 1) (ykc_104 (e := (2, .aload_n kF0, 0)) rfl) rfl rfl ?_
  refine w_gf (pc' := 35) (v := .int (zn P)) (ykc_104 (e := (5, .getfield 30, 0)) rfl) rfl ((u1811.2.1 25 0 (fun q => absurd q.1 (by decide))).trans gP) rfl ?_
  refine w_load (pc' := 36) (v := .int (zn a)) (m := 1) (ykc_104 (e := (2, .iload_n kF2, 0)) rfl) rfl rfl ?_
  refine w_ias (pc' := 37) (k := P) (ykc_104 (e := (5, .iastore, 0)) rfl) (by omega) rfl (fun ph1814 u1813 => ?_)
  refine w_load (pc' := 38) (v := .ref 25) (m := 1) (ykc_104 (e := (2, .aload_n kF0, 0)) rfl) rfl rfl ?_
  refine w_gf (pc' := 41) (v := .ref 28) (ykc_104 (e := (5, .getfield 18, 0)) rfl) rfl ((u1813.2.1 25 5 (fun q => absurd q.1 (by decide))).trans ((u1811.2.1 25 5 (fun q => absurd q.1 (by decide))).trans (zsg hS zs_25_5))) rfl ?_
  refine w_load (pc' := 42) (v := .ref 25) (m := 1) (ykc_104 (e := (2, .aload_n kF0, 0)) rfl) rfl rfl ?_
  refine w_gf (pc' := 45) (v := .int (zn P)) (ykc_104 (e := (5, .getfield 30, 0)) rfl) rfl ((u1813.2.1 25 0 (fun q => absurd q.1 (by decide))).trans ((u1811.2.1 25 0 (fun q => absurd q.1 (by decide))).trans gP)) rfl ?_
  refine w_load (pc' := 46) (v := .int (zn b)) (m := 1) (ykc_104 (e := (2, .iload_n kF3, 0)) rfl) rfl rfl ?_
  refine w_ias (pc' := 47) (k := P) (ykc_104 (e := (5, .iastore, 0)) rfl) (by omega) rfl (fun ph1816 u1815 => ?_)
  refine w_load (pc' := 48) (v := .ref 25) (m := 1) (ykc_104 (e := (2, .aload_n kF0, 0)) rfl) rfl rfl ?_
  refine w_gf (pc' := 51) (v := .ref 29) (ykc_104 (e := (5, .getfield 21, 0)) rfl) rfl ((u1815.2.1 25 6 (fun q => absurd q.1 (by decide))).trans ((u1813.2.1 25 6 (fun q => absurd q.1 (by decide))).trans ((u1811.2.1 25 6 (fun q => absurd q.1 (by decide))).trans (zsg hS zs_25_6)))) rfl ?_
  refine w_load (pc' := 52) (v := .ref 25) (m := 1) (ykc_104 (e := (2, .aload_n kF0, 0)) rfl) rfl rfl ?_
  refine w_gf (pc' := 55) (v := .int (zn P)) (ykc_104 (e := (5, .getfield 30, 0)) rfl) rfl ((u1815.2.1 25 0 (fun q => absurd q.1 (by decide))).trans ((u1813.2.1 25 0 (fun q => absurd q.1 (by decide))).trans ((u1811.2.1 25 0 (fun q => absurd q.1 (by decide))).trans gP))) rfl ?_
  refine w_alu (pc' := 56) (st' := [.int (Int32.ofInt 0), .int (zn P), .ref 29]) (ykc_104 (e := (0, .iconst 0, 0)) rfl) rfl rfl ?_
  refine w_ias (pc' := 57) (k := P) (ykc_104 (e := (5, .iastore, 0)) rfl) (by omega) rfl (fun ph1818 u1817 => ?_)
  refine w_load (pc' := 58) (v := .ref 25) (m := 1) (ykc_104 (e := (2, .aload_n kF0, 0)) rfl) rfl rfl ?_
  refine w_alu (pc' := 59) (st' := [.ref 25, .ref 25]) (ykc_104 (e := (0, .dup, 0)) rfl) rfl rfl ?_
  refine w_gf (pc' := 62) (v := .int (zn P)) (ykc_104 (e := (5, .getfield 30, 0)) rfl) rfl ((u1817.2.1 25 0 (fun q => absurd q.1 (by decide))).trans ((u1815.2.1 25 0 (fun q => absurd q.1 (by decide))).trans ((u1813.2.1 25 0 (fun q => absurd q.1 (by decide))).trans ((u1811.2.1 25 0 (fun q => absurd q.1 (by decide))).trans gP)))) rfl ?_
  refine w_alu (pc' := 63) (st' := [.int (Int32.ofInt 1), .int (zn P), .ref 25]) (ykc_104 (e := (0, .iconst 1, 0)) rfl) rfl rfl ?_
  have e1819 : (zn P) + (Int32.ofInt 1) = zn (P + 1) := (zaddN (a := P) (b := 1) (znt (by omega)) c_2 (by omega)) 
  have te1819 := znt (k := P + 1) (by omega)
  refine w_alu (pc' := 64) (st' := [.int (zn (P + 1)), .ref 25]) (ykc_104 (e := (0, .iadd, 0)) rfl) (by rw [← e1819]; rfl) rfl ?_
  refine w_pf (pc' := 67) (ykc_104 (e := (5, .putfield 30, 0)) rfl) rfl rfl (fun ph1821 u1820 => ?_)
  refine w_ret (v := none) (ykc_104 (e := (7, .return_, 0)) rfl) (zr_v rfl) ?_
  obtain ⟨e1, e2, e3, e4⟩ := @zad_f v P f a b
  have hf5 : zFr [26, 27, 28, 29] [(25, 0)] ph ph1821 := (zFr_trans (zFr_trans (zFr_trans (zFr_trans (zFr_st u1811 (Or.inl (by simp))) (zFr_st u1813 (Or.inl (by simp)))) (zFr_st u1815 (Or.inl (by simp)))) (zFr_st u1817 (Or.inl (by simp)))) (zFr_st u1820 (Or.inr (by simp))))
  have m : ∀ A i, A ∈ [26, 27, 28, 29] → i ≠ P → zc ph1821 A i = zc ph A i := fun A i hA hi => (u1820.2.1 A i (fun q => by have q1 := q.1; subst q1; simp at hA)).trans ((u1817.2.1 A i (fun q => hi q.2)).trans ((u1815.2.1 A i (fun q => hi q.2)).trans ((u1813.2.1 A i (fun q => hi q.2)).trans (u1811.2.1 A i (fun q => hi q.2)))))
  rw [hQ]
  refine ⟨rfl, hf5, u1820.1, by omega, ((u1820.2.1 25 1 (fun q => absurd q.2 (by decide))).trans ((u1817.2.1 25 1 (fun q => absurd q.1 (by decide))).trans ((u1815.2.1 25 1 (fun q => absurd q.1 (by decide))).trans ((u1813.2.1 25 1 (fun q => absurd q.1 (by decide))).trans ((u1811.2.1 25 1 (fun q => absurd q.1 (by decide))).trans gG))))), hG8, ?_, fun i hi => ⟨?_, ?_, ?_, ?_⟩, fun i hi => ?_⟩
  · rw [zad_o (by omega)]
    exact (hf5.1 25 2 (by decide) (by decide)).trans g40
  · by_cases e : i = P
    · subst e; rw [e1]; exact ((u1820.2.1 26 i (fun q => absurd q.1 (by decide))).trans ((u1817.2.1 26 i (fun q => absurd q.1 (by decide))).trans ((u1815.2.1 26 i (fun q => absurd q.1 (by decide))).trans ((u1813.2.1 26 i (fun q => absurd q.1 (by decide))).trans u1811.1))))
    · rw [zad_o (by omega)]; exact (m 26 i (by simp) e).trans (gp i (by omega)).1
  · by_cases e : i = P
    · subst e; rw [e2]; exact ((u1820.2.1 27 i (fun q => absurd q.1 (by decide))).trans ((u1817.2.1 27 i (fun q => absurd q.1 (by decide))).trans ((u1815.2.1 27 i (fun q => absurd q.1 (by decide))).trans u1813.1)))
    · rw [zad_o (by omega)]; exact (m 27 i (by simp) e).trans (gp i (by omega)).2.1
  · by_cases e : i = P
    · subst e; rw [e3]; exact ((u1820.2.1 28 i (fun q => absurd q.1 (by decide))).trans ((u1817.2.1 28 i (fun q => absurd q.1 (by decide))).trans u1815.1))
    · rw [zad_o (by omega)]; exact (m 28 i (by simp) e).trans (gp i (by omega)).2.2.1
  · by_cases e : i = P
    · subst e; rw [e4]; exact ((u1820.2.1 29 i (fun q => absurd q.1 (by decide))).trans u1817.1)
    · rw [zad_o (by omega)]; exact (m 29 i (by simp) e).trans (gp i (by omega)).2.2.2
  · rw [zad_o (by omega)]
    exact (hf5.1 30 i (by decide) (by simp)).trans (gg i hi)
theorem zc_addT {ph : pm_H} {P G : Nat} {v : Nat → Nat} (hS : zSh ph) (hd : zSd ph 25 P G v) {x : Int32} {f : Nat} (hx : x = zn f) (h8 : G < 8) : zM 105 [.ref 25, .int x] ph (fun v0 q => v0 = none ∧ zFr [30] [(25, 1)] ph q ∧ zSd q 25 P (G + 1) (znu v (32 + G) f)) := by
  obtain ⟨Q, hQ⟩ : ∃ Q : Option Value → pm_H → Prop, Q = (fun v0 q => v0 = none ∧ zFr [30] [(25, 1)] ph q ∧ zSd q 25 P (G + 1) (znu v (32 + G) f)) := ⟨_, rfl⟩
  rw [← hQ]
  refine zM_mk fun n D => ?_
  show zW n D 105 Q 0 [some (.ref 25), some (.int x)] [] ph
  have c_0 : ((Int8.ofInt 8).toInt32).toInt = 8 := by decide
  have c_1 : (Int32.ofInt 1).toInt = 1 := by decide
  subst hx
  show zW n D 105 Q 0 [some (.ref 25), some (.int (zn f))] [] ph
  obtain ⟨gP, hP8, gG, hG8, g40, gp, gg⟩ := hd
  have tP := znt (k := P) (by omega)
  have tG := znt (k := G) (by omega)
  refine w_load (pc' := 1) (v := .ref 25) (m := 1) (ykc_105 (e := (2, .aload_n kF0, 0)) rfl) rfl rfl ?_
  refine w_gf (pc' := 4) (v := .int (zn G)) (ykc_105 (e := (5, .getfield 34, 0)) rfl) rfl gG rfl ?_
  refine w_zlt (ykc_105 (e := (4, .ifCond .lt 12, 16)) rfl) rfl (fun q => by exfalso; omega) (fun b1822 => ?_)
  refine w_load (pc' := 8) (v := .ref 25) (m := 1) (ykc_105 (e := (2, .aload_n kF0, 0)) rfl) rfl rfl ?_
  refine w_gf (pc' := 11) (v := .int (zn G)) (ykc_105 (e := (5, .getfield 34, 0)) rfl) rfl gG rfl ?_
  refine w_push (pc' := 13) (v := .int ((Int8.ofInt 8).toInt32)) (m := 2) (ykc_105 (e := (1, .bipush 8, 0)) rfl) rfl rfl ?_
  refine w_ilt (ykc_105 (e := (4, .if_icmp .lt 4, 17)) rfl) rfl (fun b1823 => ?_) (fun q => by exfalso; omega)
  refine w_load (pc' := 18) (v := .ref 25) (m := 1) (ykc_105 (e := (2, .aload_n kF0, 0)) rfl) rfl rfl ?_
  refine w_gf (pc' := 21) (v := .ref 30) (ykc_105 (e := (5, .getfield 24, 0)) rfl) rfl (zsg hS zs_25_7) rfl ?_
  refine w_load (pc' := 22) (v := .ref 25) (m := 1) (ykc_105 (e := (2, .aload_n kF0, 0)) rfl) rfl rfl ?_
  refine w_gf (pc' := 25) (v := .int (zn G)) (ykc_105 (e := (5, .getfield 34, 0)) rfl) rfl gG rfl ?_
  refine w_load (pc' := 26) (v := .int (zn f)) (m := 1) (ykc_105 (e := (2, .iload_n kF1, 0)) rfl) rfl rfl ?_
  refine w_ias (pc' := 27) (k := G) (ykc_105 (e := (5, .iastore, 0)) rfl) (by omega) rfl (fun ph1825 u1824 => ?_)
  refine w_load (pc' := 28) (v := .ref 25) (m := 1) (ykc_105 (e := (2, .aload_n kF0, 0)) rfl) rfl rfl ?_
  refine w_alu (pc' := 29) (st' := [.ref 25, .ref 25]) (ykc_105 (e := (0, .dup, 0)) rfl) rfl rfl ?_
  refine w_gf (pc' := 32) (v := .int (zn G)) (ykc_105 (e := (5, .getfield 34, 0)) rfl) rfl ((u1824.2.1 25 1 (fun q => absurd q.1 (by decide))).trans gG) rfl ?_
  refine w_alu (pc' := 33) (st' := [.int (Int32.ofInt 1), .int (zn G), .ref 25]) (ykc_105 (e := (0, .iconst 1, 0)) rfl) rfl rfl ?_
  have e1826 : (zn G) + (Int32.ofInt 1) = zn (G + 1) := (zaddN (a := G) (b := 1) (znt (by omega)) c_1 (by omega)) 
  have te1826 := znt (k := G + 1) (by omega)
  refine w_alu (pc' := 34) (st' := [.int (zn (G + 1)), .ref 25]) (ykc_105 (e := (0, .iadd, 0)) rfl) (by rw [← e1826]; rfl) rfl ?_
  refine w_pf (pc' := 37) (ykc_105 (e := (5, .putfield 34, 0)) rfl) rfl rfl (fun ph1828 u1827 => ?_)
  refine w_ret (v := none) (ykc_105 (e := (7, .return_, 0)) rfl) (zr_v rfl) ?_
  have hf5 : zFr [30] [(25, 1)] ph ph1828 := zFr_trans (zFr_st u1824 (Or.inl (by simp))) (zFr_st u1827 (Or.inr (by simp)))
  rw [hQ]
  refine ⟨rfl, hf5, ((u1827.2.1 25 0 (fun q => absurd q.2 (by decide))).trans ((u1824.2.1 25 0 (fun q => absurd q.1 (by decide))).trans gP)), hP8, u1827.1, by omega, ?_, fun i hi => ?_, fun i hi => ?_⟩
  · rw [znu_n (by omega)]
    exact (hf5.1 25 2 (by decide) (by decide)).trans g40
  · rw [znu_n (by omega), znu_n (by omega), znu_n (by omega), znu_n (by omega)]
    obtain ⟨h1, h2, h3, h4⟩ := gp i hi
    exact ⟨(hf5.1 26 i (by decide) (by simp)).trans h1, (hf5.1 27 i (by decide) (by simp)).trans h2, (hf5.1 28 i (by decide) (by simp)).trans h3, (hf5.1 29 i (by decide) (by simp)).trans h4⟩
  · by_cases e : i = G
    · subst e; rw [znu_e]; exact (u1827.2.1 30 i (fun q => absurd q.1 (by decide))).trans u1824.1
    · rw [znu_n (by omega)]; exact (u1827.2.1 30 i (fun q => absurd q.1 (by decide))).trans ((u1824.2.1 30 i (fun q => e q.2)).trans (gg i (by omega)))
theorem zc_people {ph : pm_H} {ln : Nat} {t : Nat → Nat} {R C P G nx u fl hn : Nat} {rk : Nat → Bool} {v : Nat → Nat} {w : Nat → Nat → Nat} {sv : Nat → Nat → Nat} (hS : zSh ph) (hT : zTc ph ln t) (hB : zBd ph) (hK : zKC ph R C rk P G v nx u w fl sv hn) : zM 125 [.ref 0] ph (fun v0 q => zBd q ∧ ∃ z : Int32, v0 = some (.int z) ∧ z.toInt = zLa R C rk 4 5 ln t (8 - P) ∧ ((zLa R C rk 4 5 ln t (8 - P) ≤ 0 ∧ zKC q R C rk P G v nx u w fl sv hn) ∨ (∃ k : Nat, 0 < k ∧ (k : Int) = zLa R C rk 4 5 ln t (8 - P) ∧ (∀ l, l < k → zLg R C rk 4 ln t (5 * l) 4 = 4) ∧ zKC q R C rk (P + k) G (zPv C t P v k) nx 0 w 0 sv hn))) := by
  obtain ⟨Q, hQ⟩ : ∃ Q : Option Value → pm_H → Prop, Q = (fun v0 q => zBd q ∧ ∃ z : Int32, v0 = some (.int z) ∧ z.toInt = zLa R C rk 4 5 ln t (8 - P) ∧ ((zLa R C rk 4 5 ln t (8 - P) ≤ 0 ∧ zKC q R C rk P G v nx u w fl sv hn) ∨ (∃ k : Nat, 0 < k ∧ (k : Int) = zLa R C rk 4 5 ln t (8 - P) ∧ (∀ l, l < k → zLg R C rk 4 ln t (5 * l) 4 = 4) ∧ zKC q R C rk (P + k) G (zPv C t P v k) nx 0 w 0 sv hn))) := ⟨_, rfl⟩
  rw [← hQ]
  refine zM_mk fun n D => ?_
  show zW n D 125 Q 0 [some (.ref 0), none, none, none] [] ph
  have c_0 : ((Int8.ofInt 8).toInt32).toInt = 8 := by decide
  have c_1 : (Int32.ofInt 0).toInt = 0 := by decide
  have c_2 : (Int32.ofInt 1).toInt = 1 := by decide
  have c_3 : (Int32.ofInt 2).toInt = 2 := by decide
  have c_4 : (Int32.ofInt 3).toInt = 3 := by decide
  have c_5 : (Int32.ofInt 4).toInt = 4 := by decide
  obtain ⟨hL, hd, hU, hk, hh⟩ := hK
  obtain ⟨gP, hP8, gG, hG8, g40, gp, gg⟩ := id hd
  have tP := znt (k := P) (by omega)
  have tG := znt (k := G) (by omega)
  have hR37 : 3 ≤ R ∧ R ≤ 7 := ⟨hL.2.2.2.2.2.1, hL.2.2.2.2.2.2.1⟩
  have hC37 : 3 ≤ C ∧ C ≤ 7 := hL.2.2.2.2.2.2.2
  have hRC49 : R * C ≤ 49 := zRC49 hR37.2 hC37.2
  have hr := @zLa_r R C 4 5 ln (8 - P) rk t (by omega)
  refine w_load (pc' := 1) (v := .ref 0) (m := 1) (ykc_125 (e := (2, .aload_n kF0, 0)) rfl) rfl rfl ?_
  refine w_gf (pc' := 4) (v := .ref 154) (ykc_125 (e := (5, .getfield 62, 0)) rfl) rfl (zsg hS zs_0_8) rfl ?_
  refine w_load (pc' := 5) (v := .ref 0) (m := 1) (ykc_125 (e := (2, .aload_n kF0, 0)) rfl) rfl rfl ?_
  refine w_gf (pc' := 8) (v := .ref 1) (ykc_125 (e := (5, .getfield 10, 0)) rfl) rfl (zsg hS zs_0_0) rfl ?_
  refine w_load (pc' := 9) (v := .ref 0) (m := 1) (ykc_125 (e := (2, .aload_n kF0, 0)) rfl) rfl rfl ?_
  refine w_gf (pc' := 12) (v := .ref 5) (ykc_125 (e := (5, .getfield 26, 0)) rfl) rfl (zsg hS zs_0_2) rfl ?_
  refine w_alu (pc' := 13) (st' := [.int (Int32.ofInt 4), .ref 5, .ref 1, .ref 154]) (ykc_125 (e := (0, .iconst 4, 0)) rfl) rfl rfl ?_
  refine w_push (pc' := 15) (v := .int ((Int8.ofInt 8).toInt32)) (m := 2) (ykc_125 (e := (1, .bipush 8, 0)) rfl) rfl rfl ?_
  refine w_load (pc' := 16) (v := .ref 0) (m := 1) (ykc_125 (e := (2, .aload_n kF0, 0)) rfl) rfl rfl ?_
  refine w_gf (pc' := 19) (v := .ref 25) (ykc_125 (e := (5, .getfield 42, 0)) rfl) rfl (zsg hS zs_0_4) rfl ?_
  refine w_gf (pc' := 22) (v := .int (zn P)) (ykc_125 (e := (5, .getfield 130, 0)) rfl) rfl gP rfl ?_
  have e1829 : ((Int8.ofInt 8).toInt32) - (zn P) = zn (8 - P) := zsubN (a := 8) (b := P) c_0 (znt (by omega)) (by omega)
  have te1829 := znt (k := 8 - P) (by omega)
  refine w_alu (pc' := 23) (st' := [.int (zn (8 - P)), .int (Int32.ofInt 4), .ref 5, .ref 1, .ref 154]) (ykc_125 (e := (0, .isub, 0)) rfl) (by show some ([.int (((Int8.ofInt 8).toInt32) - (zn P)), .int (Int32.ofInt 4), .ref 5, .ref 1, .ref 154] : List Value) = _; rw [e1829]) rfl ?_
  refine w_cv (as := [.ref 154, .ref 1, .ref 5, .int (Int32.ofInt 4), .int (zn (8 - P))]) (r := []) (ykc_125 (e := (6, .invokevirtual 133, 0)) rfl) rfl rfl rfl rfl (zc_lread4 hS hL hT hB (by omega) (znt (by omega)) (by omega)) (fun v1830 ph1831 hv => ?_)
  obtain ⟨fr, hw, zl, rfl, ezl, hgl⟩ := hv
  show zW n D 125 Q 26 [some (.ref 0), none, none, none] [.int zl] ph1831
  refine w_store (pc' := 27) (L' := [some (.ref 0), some (.int zl), none, none]) (st' := []) (m := 1) (ykc_125 (e := (3, .istore_n kF1, 0)) rfl) rfl rfl ?_
  refine w_load (pc' := 28) (v := .ref 0) (m := 1) (ykc_125 (e := (2, .aload_n kF0, 0)) rfl) rfl rfl ?_
  refine w_gf (pc' := 31) (v := .ref 1) (ykc_125 (e := (5, .getfield 10, 0)) rfl) rfl ((fr.1 0 0 (by decide) (by decide)).trans (zsg hS zs_0_0)) rfl ?_
  refine w_cv (as := [.ref 1]) (r := []) (ykc_125 (e := (6, .invokevirtual 119, 0)) rfl) rfl rfl rfl rfl (zc_tclear) (fun v1832 ph1833 hv => ?_)
  obtain ⟨rfl, ft, gt1⟩ := hv
  show zW n D 125 Q 34 [some (.ref 0), some (.int zl), none, none] [] ph1833
  refine w_alu (pc' := 35) (st' := [.int (Int32.ofInt 0)]) (ykc_125 (e := (0, .iconst 0, 0)) rfl) rfl rfl ?_
  refine w_store (pc' := 36) (L' := [some (.ref 0), some (.int zl), some (.int (Int32.ofInt 0)), none]) (st' := []) (m := 1) (ykc_125 (e := (3, .istore_n kF2, 0)) rfl) rfl rfl ?_
  have f1 : zFr [155] [(1, 1), (154, 2), (156, 0), (156, 1)] ph ph1833 := zFr_trans (zFr_mono fr (by simp) (by simp)) (zFr_mono ft (by simp) (by simp))
  have hS1 := zSh_F f1 (by decide +kernel) hS
  have hL1 := zCl_F f1 (by simp) (by intro i hi; simp <;> omega) (by simp) hL
  have hd1 := zSd_F f1 (by intro i hi; simp <;> omega) (by intro j i hj; simp <;> omega) hd
  have hU1 := zCu_F f1 (by simp) (by simp) (by intro j h1 h2; simp <;> omega) (by intro j i h1 h2; simp <;> omega) hU
  have hk1 := zCk_F2 f1 (by simp) (by simp) (by intro j h1 h2; simp <;> omega) (by intro j i h1 h2; simp <;> omega) hk
  have hh1 : zCh ph1833 hn := ⟨(f1.1 0 14 (by decide) (by decide)).trans hh.1, hh.2⟩
  have hw1 := (ft.1 154 2 (by decide) (by decide)).trans hw
  have hB1 : zBd ph1833 := ⟨(f1.1 156 2 (by decide) (by decide)).trans hB.1, (f1.1 156 3 (by decide) (by decide)).trans hB.2⟩
  have hgl1 : ∀ l : Nat, (l : Int) < zLa R C rk 4 5 ln t (8 - P) → zLg R C rk 4 ln t (5 * l) 4 = 4 ∧ ∀ i, i < 4 → zc ph1833 155 (l * 4 + i) = some (.int (zn (t (5 * l + i) - 48))) := fun l hl => ⟨(hgl l hl).1, fun i hi => (ft.1 155 _ (by decide) (by simp)).trans ((hgl l hl).2 i hi)⟩
  have hl : ∀ (n : Nat), ∀ (k : Nat) (x3 : Option Value) (ph2 : pm_H), (k = 0 ∨ (k : Int) ≤ zLa R C rk 4 5 ln t (8 - P)) → (zFr [26, 27, 28, 29] [(25, 0)] ph1833 ph2) → (zSd ph2 25 (P + k) G (zPv C t P v k)) → zW n D 125 Q 36 [some (.ref 0), some (.int zl), some (.int (zn k)), x3] [] ph2 := by
    intro n
    induction n using Nat.strongRecOn with
    | ind n ih =>
      intro k x3 ph2 hk9 hf hd2
      have tk := znt (k := k) (by omega)
      have hS2 := zSh_F hf (by decide +kernel) hS1
      have hL2 := zCl_F hf (by simp) (by intro i hi; simp <;> omega) (by simp) hL1
      have hw2 := (hf.1 154 2 (by decide) (by decide)).trans hw1
      refine w_load (pc' := 37) (v := .int (zn k)) (m := 1) (ykc_125 (e := (2, .iload_n kF2, 0)) rfl) rfl rfl ?_
      refine w_load (pc' := 38) (v := .int zl) (m := 1) (ykc_125 (e := (2, .iload_n kF1, 0)) rfl) rfl rfl ?_
      refine w_ige (ykc_125 (e := (4, .if_icmp .ge 61, 99)) rfl) rfl (fun b1834 => ?_) (fun b1834 => ?_)
      · refine w_load (pc' := 100) (v := .int zl) (m := 1) (ykc_125 (e := (2, .iload_n kF1, 0)) rfl) rfl rfl ?_
        refine w_zle (ykc_125 (e := (4, .ifCond .le 10, 110)) rfl) rfl (fun b1835 => ?_) (fun b1835 => ?_)
        · refine w_load (pc' := 111) (v := .int zl) (m := 1) (ykc_125 (e := (2, .iload_n kF1, 0)) rfl) rfl rfl ?_
          refine w_ret (v := (some (.int zl))) (ykc_125 (e := (7, .ireturn, 0)) rfl) (zr_v rfl) ?_
          have ek : k = 0 := by omega
          subst ek
          rw [hQ]
          refine ⟨⟨(hf.1 156 2 (by decide) (by decide)).trans hB1.1, (hf.1 156 3 (by decide) (by decide)).trans hB1.2⟩, _, rfl, ezl, Or.inl ⟨by omega, hL2, hd2, zCu_F hf (by simp) (by simp) (by intro j h1 h2; simp <;> omega) (by intro j i h1 h2; simp <;> omega) hU1, zCk_F hf (by simp) (by simp) (by intro j h1 h2; simp <;> omega) (by intro j i h1 h2; simp <;> omega) hk1, (hf.1 0 14 (by decide) (by decide)).trans hh1.1, hh1.2⟩⟩
        · refine w_load (pc' := 104) (v := .ref 0) (m := 1) (ykc_125 (e := (2, .aload_n kF0, 0)) rfl) rfl rfl ?_
          refine w_gf (pc' := 107) (v := .ref 43) (ykc_125 (e := (5, .getfield 55, 0)) rfl) rfl (zsg hS2 zs_0_7) rfl ?_
          refine w_cv (as := [.ref 43]) (r := []) (ykc_125 (e := (6, .invokevirtual 123, 0)) rfl) rfl rfl rfl rfl (zc_hclear hS2) (fun v1836 ph1837 hv => ?_)
          obtain ⟨rfl, fh, gh2, gh4⟩ := hv
          show zW n D 125 Q 110 [some (.ref 0), some (.int zl), some (.int (zn k)), x3] [] ph1837
          refine w_load (pc' := 111) (v := .int zl) (m := 1) (ykc_125 (e := (2, .iload_n kF1, 0)) rfl) rfl rfl ?_
          refine w_ret (v := (some (.int zl))) (ykc_125 (e := (7, .ireturn, 0)) rfl) (zr_v rfl) ?_
          have f3 : zFr [26, 27, 28, 29] [(25, 0), (43, 2), (43, 4)] ph1833 _ := zFr_trans (zFr_mono hf (by simp) (by simp)) (zFr_mono fh (by simp) (by simp))
          rw [hQ]
          refine ⟨⟨(f3.1 156 2 (by decide) (by decide)).trans hB1.1, (f3.1 156 3 (by decide) (by decide)).trans hB1.2⟩, _, rfl, ezl, Or.inr ⟨k, by omega, by omega, fun l hl => (hgl1 l (by omega)).1, zCl_F f3 (by simp) (by intro i hi; simp <;> omega) (by simp) hL1, zSd_F fh (by intro i hi; simp) (by intro j i hj; simp <;> omega) hd2, ⟨(f3.1 43 1 (by decide) (by decide)).trans hU1.1, hU1.2.1, gh2, by decide, fun i hi => absurd hi (Nat.not_lt_zero i)⟩, ⟨gh4, by decide, fun i hi h => absurd h (by rw [Nat.zero_testBit]; decide)⟩, (f3.1 0 14 (by decide) (by decide)).trans hh1.1, hh1.2⟩⟩
      · have gk := (hgl1 k (by omega)).1
        have g0 := zLk_d (zLg_a gk 0 (by omega))
        have g1 := zLk_d (zLg_a gk 1 (by omega))
        have b0 : zLb R C 0 = R := rfl
        have b1 : zLb R C 1 = C := rfl
        have g2 := zLk_d (zLg_a gk 2 (by omega))
        have g3 := zLk_d (zLg_a gk 3 (by omega))
        have b2 : zLb R C 2 = 8 := rfl
        have b3 : zLb R C 3 = 5 := rfl
        rw [Nat.add_zero] at g0
        refine w_load (pc' := 42) (v := .ref 0) (m := 1) (ykc_125 (e := (2, .aload_n kF0, 0)) rfl) rfl rfl ?_
        refine w_gf (pc' := 45) (v := .ref 5) (ykc_125 (e := (5, .getfield 26, 0)) rfl) rfl (zsg hS2 zs_0_2) rfl ?_
        refine w_load (pc' := 46) (v := .ref 0) (m := 1) (ykc_125 (e := (2, .aload_n kF0, 0)) rfl) rfl rfl ?_
        refine w_gf (pc' := 49) (v := .ref 154) (ykc_125 (e := (5, .getfield 62, 0)) rfl) rfl (zsg hS2 zs_0_8) rfl ?_
        refine w_load (pc' := 50) (v := .int (zn k)) (m := 1) (ykc_125 (e := (2, .iload_n kF2, 0)) rfl) rfl rfl ?_
        refine w_alu (pc' := 51) (st' := [.int (Int32.ofInt 0), .int (zn k), .ref 154, .ref 5]) (ykc_125 (e := (0, .iconst 0, 0)) rfl) rfl rfl ?_
        refine w_cv (as := [.ref 154, .int (zn k), .int (Int32.ofInt 0)]) (r := [.ref 5]) (ykc_125 (e := (6, .invokevirtual 136, 0)) rfl) rfl rfl rfl rfl (zc_ldig4 (l := k) (i := 0) (d := t (5 * k) - 48) hS2 hw2 (by omega) (by omega) (by omega) (by omega) ((hf.1 155 _ (by decide) (by simp)).trans ((hgl1 k (by omega)).2 0 (by omega)))) (fun v1838 ph1839 hv => ?_)
        obtain ⟨rfl, rfl⟩ := hv
        have td0 := znt (k := t (5 * k) - 48) (by omega)
        show zW n D 125 Q 54 [some (.ref 0), some (.int zl), some (.int (zn k)), x3] [.int (zn (t (5 * k) - 48)), .ref 5] ph2
        refine w_load (pc' := 55) (v := .ref 0) (m := 1) (ykc_125 (e := (2, .aload_n kF0, 0)) rfl) rfl rfl ?_
        refine w_gf (pc' := 58) (v := .ref 154) (ykc_125 (e := (5, .getfield 62, 0)) rfl) rfl (zsg hS2 zs_0_8) rfl ?_
        refine w_load (pc' := 59) (v := .int (zn k)) (m := 1) (ykc_125 (e := (2, .iload_n kF2, 0)) rfl) rfl rfl ?_
        refine w_alu (pc' := 60) (st' := [.int (Int32.ofInt 1), .int (zn k), .ref 154, .int (zn (t (5 * k) - 48)), .ref 5]) (ykc_125 (e := (0, .iconst 1, 0)) rfl) rfl rfl ?_
        refine w_cv (as := [.ref 154, .int (zn k), .int (Int32.ofInt 1)]) (r := [.int (zn (t (5 * k) - 48)), .ref 5]) (ykc_125 (e := (6, .invokevirtual 136, 0)) rfl) rfl rfl rfl rfl (zc_ldig4 (l := k) (i := 1) (d := t (5 * k + 1) - 48) hS2 hw2 (by omega) (by omega) (by omega) (by omega) ((hf.1 155 _ (by decide) (by simp)).trans ((hgl1 k (by omega)).2 1 (by omega)))) (fun v1840 ph1841 hv => ?_)
        obtain ⟨rfl, rfl⟩ := hv
        have td1 := znt (k := t (5 * k + 1) - 48) (by omega)
        show zW n D 125 Q 63 [some (.ref 0), some (.int zl), some (.int (zn k)), x3] [.int (zn (t (5 * k + 1) - 48)), .int (zn (t (5 * k) - 48)), .ref 5] ph2
        refine w_cv (as := [.ref 5, .int (zn (t (5 * k) - 48)), .int (zn (t (5 * k + 1) - 48))]) (r := []) (ykc_125 (e := (6, .invokevirtual 140, 0)) rfl) rfl rfl rfl rfl (zc_fat hS2 hL2) (fun v1842 ph1843 hv => ?_)
        obtain ⟨rfl, zf, rfl, ef⟩ := hv
        rw [td0, td1, zLf_c (by omega) (by omega) (by omega) (by omega)] at ef
        have lf := zLf_lt (R := R) (C := C) (t := t) (p := 5 * k) (by omega) (by omega) (by omega) (by omega)
        show zW n D 125 Q 66 [some (.ref 0), some (.int zl), some (.int (zn k)), x3] [.int zf] ph2
        refine w_store (pc' := 67) (L' := [some (.ref 0), some (.int zl), some (.int (zn k)), some (.int zf)]) (st' := []) (m := 1) (ykc_125 (e := (3, .istore_n kF3, 0)) rfl) rfl rfl ?_
        refine w_load (pc' := 68) (v := .ref 0) (m := 1) (ykc_125 (e := (2, .aload_n kF0, 0)) rfl) rfl rfl ?_
        refine w_gf (pc' := 71) (v := .ref 25) (ykc_125 (e := (5, .getfield 42, 0)) rfl) rfl (zsg hS2 zs_0_4) rfl ?_
        refine w_load (pc' := 72) (v := .int zf) (m := 1) (ykc_125 (e := (2, .iload_n kF3, 0)) rfl) rfl rfl ?_
        refine w_load (pc' := 73) (v := .ref 0) (m := 1) (ykc_125 (e := (2, .aload_n kF0, 0)) rfl) rfl rfl ?_
        refine w_gf (pc' := 76) (v := .ref 154) (ykc_125 (e := (5, .getfield 62, 0)) rfl) rfl (zsg hS2 zs_0_8) rfl ?_
        refine w_load (pc' := 77) (v := .int (zn k)) (m := 1) (ykc_125 (e := (2, .iload_n kF2, 0)) rfl) rfl rfl ?_
        refine w_alu (pc' := 78) (st' := [.int (Int32.ofInt 2), .int (zn k), .ref 154, .int zf, .ref 25]) (ykc_125 (e := (0, .iconst 2, 0)) rfl) rfl rfl ?_
        refine w_cv (as := [.ref 154, .int (zn k), .int (Int32.ofInt 2)]) (r := [.int zf, .ref 25]) (ykc_125 (e := (6, .invokevirtual 136, 0)) rfl) rfl rfl rfl rfl (zc_ldig4 (l := k) (i := 2) (d := t (5 * k + 2) - 48) hS2 hw2 (by omega) (by omega) (by omega) (by omega) ((hf.1 155 _ (by decide) (by simp)).trans ((hgl1 k (by omega)).2 2 (by omega)))) (fun v1844 ph1845 hv => ?_)
        obtain ⟨rfl, rfl⟩ := hv
        have td2 := znt (k := t (5 * k + 2) - 48) (by omega)
        show zW n D 125 Q 81 [some (.ref 0), some (.int zl), some (.int (zn k)), some (.int zf)] [.int (zn (t (5 * k + 2) - 48)), .int zf, .ref 25] ph2
        refine w_load (pc' := 82) (v := .ref 0) (m := 1) (ykc_125 (e := (2, .aload_n kF0, 0)) rfl) rfl rfl ?_
        refine w_gf (pc' := 85) (v := .ref 154) (ykc_125 (e := (5, .getfield 62, 0)) rfl) rfl (zsg hS2 zs_0_8) rfl ?_
        refine w_load (pc' := 86) (v := .int (zn k)) (m := 1) (ykc_125 (e := (2, .iload_n kF2, 0)) rfl) rfl rfl ?_
        refine w_alu (pc' := 87) (st' := [.int (Int32.ofInt 3), .int (zn k), .ref 154, .int (zn (t (5 * k + 2) - 48)), .int zf, .ref 25]) (ykc_125 (e := (0, .iconst 3, 0)) rfl) rfl rfl ?_
        refine w_cv (as := [.ref 154, .int (zn k), .int (Int32.ofInt 3)]) (r := [.int (zn (t (5 * k + 2) - 48)), .int zf, .ref 25]) (ykc_125 (e := (6, .invokevirtual 136, 0)) rfl) rfl rfl rfl rfl (zc_ldig4 (l := k) (i := 3) (d := t (5 * k + 3) - 48) hS2 hw2 (by omega) (by omega) (by omega) (by omega) ((hf.1 155 _ (by decide) (by simp)).trans ((hgl1 k (by omega)).2 3 (by omega)))) (fun v1846 ph1847 hv => ?_)
        obtain ⟨rfl, rfl⟩ := hv
        have td3 := znt (k := t (5 * k + 3) - 48) (by omega)
        show zW n D 125 Q 90 [some (.ref 0), some (.int zl), some (.int (zn k)), some (.int zf)] [.int (zn (t (5 * k + 3) - 48)), .int (zn (t (5 * k + 2) - 48)), .int zf, .ref 25] ph2
        refine w_cv (as := [.ref 25, .int zf, .int (zn (t (5 * k + 2) - 48)), .int (zn (t (5 * k + 3) - 48))]) (r := []) (ykc_125 (e := (6, .invokevirtual 143, 0)) rfl) rfl rfl rfl rfl (zc_addP hS2 hd2 (zn_of ef) rfl rfl (by omega)) (fun v1848 ph1849 hv => ?_)
        obtain ⟨rfl, fa, hd3⟩ := hv
        show zW n D 125 Q 93 [some (.ref 0), some (.int zl), some (.int (zn k)), some (.int zf)] [] ph1849
        have e1850 : (zn k) + Int32.ofInt 1 = zn (k + 1) := (zaddN (a := k) (b := 1) (znt (by omega)) c_2 (by omega))
        have te1850 := znt (k := k + 1) (by omega)
        refine w_store (pc' := 96) (L' := [some (.ref 0), some (.int zl), some (.int (zn (k + 1))), some (.int zf)]) (st' := []) (m := 3) (ykc_125 (e := (3, .iinc 2 1, 0)) rfl) (by rw [← e1850]; rfl) rfl ?_
        refine w_gb (ykc_125 (e := (4, .goto (-60), 36)) rfl) (fun k1851 hk1851 => ?_)
        exact ih k1851 hk1851 (k + 1) _ _ (Or.inr (by omega)) (zFr_trans hf (zFr_mono fa (by simp) (by simp))) hd3
  exact hl n 0 _ ph1833 (Or.inl rfl) zFr_refl hd1
theorem zc_things {ph : pm_H} {ln : Nat} {t : Nat → Nat} {R C P G nx u fl hn : Nat} {rk : Nat → Bool} {v : Nat → Nat} {w : Nat → Nat → Nat} {sv : Nat → Nat → Nat} (hS : zSh ph) (hT : zTc ph ln t) (hB : zBd ph) (hK : zKC ph R C rk P G v nx u w fl sv hn) : zM 126 [.ref 0] ph (fun v0 q => zBd q ∧ ∃ z : Int32, v0 = some (.int z) ∧ z.toInt = zLa R C rk 2 3 ln t (8 - G) ∧ ((zLa R C rk 2 3 ln t (8 - G) ≤ 0 ∧ zKC q R C rk P G v nx u w fl sv hn) ∨ (∃ k : Nat, 0 < k ∧ (k : Int) = zLa R C rk 2 3 ln t (8 - G) ∧ (∀ l, l < k → zLg R C rk 2 ln t (3 * l) 2 = 2) ∧ zKC q R C rk P (G + k) (zGv C t G v k) nx 0 w 0 sv hn))) := by
  obtain ⟨Q, hQ⟩ : ∃ Q : Option Value → pm_H → Prop, Q = (fun v0 q => zBd q ∧ ∃ z : Int32, v0 = some (.int z) ∧ z.toInt = zLa R C rk 2 3 ln t (8 - G) ∧ ((zLa R C rk 2 3 ln t (8 - G) ≤ 0 ∧ zKC q R C rk P G v nx u w fl sv hn) ∨ (∃ k : Nat, 0 < k ∧ (k : Int) = zLa R C rk 2 3 ln t (8 - G) ∧ (∀ l, l < k → zLg R C rk 2 ln t (3 * l) 2 = 2) ∧ zKC q R C rk P (G + k) (zGv C t G v k) nx 0 w 0 sv hn))) := ⟨_, rfl⟩
  rw [← hQ]
  refine zM_mk fun n D => ?_
  show zW n D 126 Q 0 [some (.ref 0), none, none] [] ph
  have c_0 : ((Int8.ofInt 8).toInt32).toInt = 8 := by decide
  have c_1 : (Int32.ofInt 0).toInt = 0 := by decide
  have c_2 : (Int32.ofInt 1).toInt = 1 := by decide
  have c_3 : (Int32.ofInt 2).toInt = 2 := by decide
  obtain ⟨hL, hd, hU, hk, hh⟩ := hK
  obtain ⟨gP, hP8, gG, hG8, g40, gp, gg⟩ := id hd
  have tP := znt (k := P) (by omega)
  have tG := znt (k := G) (by omega)
  have hR37 : 3 ≤ R ∧ R ≤ 7 := ⟨hL.2.2.2.2.2.1, hL.2.2.2.2.2.2.1⟩
  have hC37 : 3 ≤ C ∧ C ≤ 7 := hL.2.2.2.2.2.2.2
  have hRC49 : R * C ≤ 49 := zRC49 hR37.2 hC37.2
  have hr := @zLa_r R C 2 3 ln (8 - G) rk t (by omega)
  refine w_load (pc' := 1) (v := .ref 0) (m := 1) (ykc_126 (e := (2, .aload_n kF0, 0)) rfl) rfl rfl ?_
  refine w_gf (pc' := 4) (v := .ref 154) (ykc_126 (e := (5, .getfield 62, 0)) rfl) rfl (zsg hS zs_0_8) rfl ?_
  refine w_load (pc' := 5) (v := .ref 0) (m := 1) (ykc_126 (e := (2, .aload_n kF0, 0)) rfl) rfl rfl ?_
  refine w_gf (pc' := 8) (v := .ref 1) (ykc_126 (e := (5, .getfield 10, 0)) rfl) rfl (zsg hS zs_0_0) rfl ?_
  refine w_load (pc' := 9) (v := .ref 0) (m := 1) (ykc_126 (e := (2, .aload_n kF0, 0)) rfl) rfl rfl ?_
  refine w_gf (pc' := 12) (v := .ref 5) (ykc_126 (e := (5, .getfield 26, 0)) rfl) rfl (zsg hS zs_0_2) rfl ?_
  refine w_alu (pc' := 13) (st' := [.int (Int32.ofInt 2), .ref 5, .ref 1, .ref 154]) (ykc_126 (e := (0, .iconst 2, 0)) rfl) rfl rfl ?_
  refine w_push (pc' := 15) (v := .int ((Int8.ofInt 8).toInt32)) (m := 2) (ykc_126 (e := (1, .bipush 8, 0)) rfl) rfl rfl ?_
  refine w_load (pc' := 16) (v := .ref 0) (m := 1) (ykc_126 (e := (2, .aload_n kF0, 0)) rfl) rfl rfl ?_
  refine w_gf (pc' := 19) (v := .ref 25) (ykc_126 (e := (5, .getfield 42, 0)) rfl) rfl (zsg hS zs_0_4) rfl ?_
  refine w_gf (pc' := 22) (v := .int (zn G)) (ykc_126 (e := (5, .getfield 147, 0)) rfl) rfl gG rfl ?_
  have e1852 : ((Int8.ofInt 8).toInt32) - (zn G) = zn (8 - G) := zsubN (a := 8) (b := G) c_0 (znt (by omega)) (by omega)
  have te1852 := znt (k := 8 - G) (by omega)
  refine w_alu (pc' := 23) (st' := [.int (zn (8 - G)), .int (Int32.ofInt 2), .ref 5, .ref 1, .ref 154]) (ykc_126 (e := (0, .isub, 0)) rfl) (by show some ([.int (((Int8.ofInt 8).toInt32) - (zn G)), .int (Int32.ofInt 2), .ref 5, .ref 1, .ref 154] : List Value) = _; rw [e1852]) rfl ?_
  refine w_cv (as := [.ref 154, .ref 1, .ref 5, .int (Int32.ofInt 2), .int (zn (8 - G))]) (r := []) (ykc_126 (e := (6, .invokevirtual 133, 0)) rfl) rfl rfl rfl rfl (zc_lread2 hS hL hT hB (by omega) (znt (by omega)) (by omega)) (fun v1853 ph1854 hv => ?_)
  obtain ⟨fr, hw, zl, rfl, ezl, hgl⟩ := hv
  show zW n D 126 Q 26 [some (.ref 0), none, none] [.int zl] ph1854
  refine w_store (pc' := 27) (L' := [some (.ref 0), some (.int zl), none]) (st' := []) (m := 1) (ykc_126 (e := (3, .istore_n kF1, 0)) rfl) rfl rfl ?_
  refine w_load (pc' := 28) (v := .ref 0) (m := 1) (ykc_126 (e := (2, .aload_n kF0, 0)) rfl) rfl rfl ?_
  refine w_gf (pc' := 31) (v := .ref 1) (ykc_126 (e := (5, .getfield 10, 0)) rfl) rfl ((fr.1 0 0 (by decide) (by decide)).trans (zsg hS zs_0_0)) rfl ?_
  refine w_cv (as := [.ref 1]) (r := []) (ykc_126 (e := (6, .invokevirtual 119, 0)) rfl) rfl rfl rfl rfl (zc_tclear) (fun v1855 ph1856 hv => ?_)
  obtain ⟨rfl, ft, gt1⟩ := hv
  show zW n D 126 Q 34 [some (.ref 0), some (.int zl), none] [] ph1856
  refine w_alu (pc' := 35) (st' := [.int (Int32.ofInt 0)]) (ykc_126 (e := (0, .iconst 0, 0)) rfl) rfl rfl ?_
  refine w_store (pc' := 36) (L' := [some (.ref 0), some (.int zl), some (.int (Int32.ofInt 0))]) (st' := []) (m := 1) (ykc_126 (e := (3, .istore_n kF2, 0)) rfl) rfl rfl ?_
  have f1 : zFr [155] [(1, 1), (154, 2), (156, 0), (156, 1)] ph ph1856 := zFr_trans (zFr_mono fr (by simp) (by simp)) (zFr_mono ft (by simp) (by simp))
  have hS1 := zSh_F f1 (by decide +kernel) hS
  have hL1 := zCl_F f1 (by simp) (by intro i hi; simp <;> omega) (by simp) hL
  have hd1 := zSd_F f1 (by intro i hi; simp <;> omega) (by intro j i hj; simp <;> omega) hd
  have hU1 := zCu_F f1 (by simp) (by simp) (by intro j h1 h2; simp <;> omega) (by intro j i h1 h2; simp <;> omega) hU
  have hk1 := zCk_F2 f1 (by simp) (by simp) (by intro j h1 h2; simp <;> omega) (by intro j i h1 h2; simp <;> omega) hk
  have hh1 : zCh ph1856 hn := ⟨(f1.1 0 14 (by decide) (by decide)).trans hh.1, hh.2⟩
  have hw1 := (ft.1 154 2 (by decide) (by decide)).trans hw
  have hB1 : zBd ph1856 := ⟨(f1.1 156 2 (by decide) (by decide)).trans hB.1, (f1.1 156 3 (by decide) (by decide)).trans hB.2⟩
  have hgl1 : ∀ l : Nat, (l : Int) < zLa R C rk 2 3 ln t (8 - G) → zLg R C rk 2 ln t (3 * l) 2 = 2 ∧ ∀ i, i < 2 → zc ph1856 155 (l * 2 + i) = some (.int (zn (t (3 * l + i) - 48))) := fun l hl => ⟨(hgl l hl).1, fun i hi => (ft.1 155 _ (by decide) (by simp)).trans ((hgl l hl).2 i hi)⟩
  have hl : ∀ (n : Nat), ∀ (k : Nat) (ph2 : pm_H), (k = 0 ∨ (k : Int) ≤ zLa R C rk 2 3 ln t (8 - G)) → (zFr [30] [(25, 1)] ph1856 ph2) → (zSd ph2 25 P (G + k) (zGv C t G v k)) → zW n D 126 Q 36 [some (.ref 0), some (.int zl), some (.int (zn k))] [] ph2 := by
    intro n
    induction n using Nat.strongRecOn with
    | ind n ih =>
      intro k ph2 hk9 hf hd2
      have tk := znt (k := k) (by omega)
      have hS2 := zSh_F hf (by decide +kernel) hS1
      have hL2 := zCl_F hf (by simp) (by intro i hi; simp <;> omega) (by simp) hL1
      have hw2 := (hf.1 154 2 (by decide) (by decide)).trans hw1
      refine w_load (pc' := 37) (v := .int (zn k)) (m := 1) (ykc_126 (e := (2, .iload_n kF2, 0)) rfl) rfl rfl ?_
      refine w_load (pc' := 38) (v := .int zl) (m := 1) (ykc_126 (e := (2, .iload_n kF1, 0)) rfl) rfl rfl ?_
      refine w_ige (ykc_126 (e := (4, .if_icmp .ge 41, 79)) rfl) rfl (fun b1857 => ?_) (fun b1857 => ?_)
      · refine w_load (pc' := 80) (v := .int zl) (m := 1) (ykc_126 (e := (2, .iload_n kF1, 0)) rfl) rfl rfl ?_
        refine w_zle (ykc_126 (e := (4, .ifCond .le 10, 90)) rfl) rfl (fun b1858 => ?_) (fun b1858 => ?_)
        · refine w_load (pc' := 91) (v := .int zl) (m := 1) (ykc_126 (e := (2, .iload_n kF1, 0)) rfl) rfl rfl ?_
          refine w_ret (v := (some (.int zl))) (ykc_126 (e := (7, .ireturn, 0)) rfl) (zr_v rfl) ?_
          have ek : k = 0 := by omega
          subst ek
          rw [hQ]
          refine ⟨⟨(hf.1 156 2 (by decide) (by decide)).trans hB1.1, (hf.1 156 3 (by decide) (by decide)).trans hB1.2⟩, _, rfl, ezl, Or.inl ⟨by omega, hL2, hd2, zCu_F hf (by simp) (by simp) (by intro j h1 h2; simp <;> omega) (by intro j i h1 h2; simp <;> omega) hU1, zCk_F hf (by simp) (by simp) (by intro j h1 h2; simp <;> omega) (by intro j i h1 h2; simp <;> omega) hk1, (hf.1 0 14 (by decide) (by decide)).trans hh1.1, hh1.2⟩⟩
        · refine w_load (pc' := 84) (v := .ref 0) (m := 1) (ykc_126 (e := (2, .aload_n kF0, 0)) rfl) rfl rfl ?_
          refine w_gf (pc' := 87) (v := .ref 43) (ykc_126 (e := (5, .getfield 55, 0)) rfl) rfl (zsg hS2 zs_0_7) rfl ?_
          refine w_cv (as := [.ref 43]) (r := []) (ykc_126 (e := (6, .invokevirtual 123, 0)) rfl) rfl rfl rfl rfl (zc_hclear hS2) (fun v1859 ph1860 hv => ?_)
          obtain ⟨rfl, fh, gh2, gh4⟩ := hv
          show zW n D 126 Q 90 [some (.ref 0), some (.int zl), some (.int (zn k))] [] ph1860
          refine w_load (pc' := 91) (v := .int zl) (m := 1) (ykc_126 (e := (2, .iload_n kF1, 0)) rfl) rfl rfl ?_
          refine w_ret (v := (some (.int zl))) (ykc_126 (e := (7, .ireturn, 0)) rfl) (zr_v rfl) ?_
          have f3 : zFr [30] [(25, 1), (43, 2), (43, 4)] ph1856 _ := zFr_trans (zFr_mono hf (by simp) (by simp)) (zFr_mono fh (by simp) (by simp))
          rw [hQ]
          refine ⟨⟨(f3.1 156 2 (by decide) (by decide)).trans hB1.1, (f3.1 156 3 (by decide) (by decide)).trans hB1.2⟩, _, rfl, ezl, Or.inr ⟨k, by omega, by omega, fun l hl => (hgl1 l (by omega)).1, zCl_F f3 (by simp) (by intro i hi; simp <;> omega) (by simp) hL1, zSd_F fh (by intro i hi; simp) (by intro j i hj; simp <;> omega) hd2, ⟨(f3.1 43 1 (by decide) (by decide)).trans hU1.1, hU1.2.1, gh2, by decide, fun i hi => absurd hi (Nat.not_lt_zero i)⟩, ⟨gh4, by decide, fun i hi h => absurd h (by rw [Nat.zero_testBit]; decide)⟩, (f3.1 0 14 (by decide) (by decide)).trans hh1.1, hh1.2⟩⟩
      · have gk := (hgl1 k (by omega)).1
        have g0 := zLk_d (zLg_a gk 0 (by omega))
        have g1 := zLk_d (zLg_a gk 1 (by omega))
        have b0 : zLb R C 0 = R := rfl
        have b1 : zLb R C 1 = C := rfl
        rw [Nat.add_zero] at g0
        refine w_load (pc' := 42) (v := .ref 0) (m := 1) (ykc_126 (e := (2, .aload_n kF0, 0)) rfl) rfl rfl ?_
        refine w_gf (pc' := 45) (v := .ref 25) (ykc_126 (e := (5, .getfield 42, 0)) rfl) rfl (zsg hS2 zs_0_4) rfl ?_
        refine w_load (pc' := 46) (v := .ref 0) (m := 1) (ykc_126 (e := (2, .aload_n kF0, 0)) rfl) rfl rfl ?_
        refine w_gf (pc' := 49) (v := .ref 5) (ykc_126 (e := (5, .getfield 26, 0)) rfl) rfl (zsg hS2 zs_0_2) rfl ?_
        refine w_load (pc' := 50) (v := .ref 0) (m := 1) (ykc_126 (e := (2, .aload_n kF0, 0)) rfl) rfl rfl ?_
        refine w_gf (pc' := 53) (v := .ref 154) (ykc_126 (e := (5, .getfield 62, 0)) rfl) rfl (zsg hS2 zs_0_8) rfl ?_
        refine w_load (pc' := 54) (v := .int (zn k)) (m := 1) (ykc_126 (e := (2, .iload_n kF2, 0)) rfl) rfl rfl ?_
        refine w_alu (pc' := 55) (st' := [.int (Int32.ofInt 0), .int (zn k), .ref 154, .ref 5, .ref 25]) (ykc_126 (e := (0, .iconst 0, 0)) rfl) rfl rfl ?_
        refine w_cv (as := [.ref 154, .int (zn k), .int (Int32.ofInt 0)]) (r := [.ref 5, .ref 25]) (ykc_126 (e := (6, .invokevirtual 136, 0)) rfl) rfl rfl rfl rfl (zc_ldig2 (l := k) (i := 0) (d := t (3 * k) - 48) hS2 hw2 (by omega) (by omega) (by omega) (by omega) ((hf.1 155 _ (by decide) (by simp)).trans ((hgl1 k (by omega)).2 0 (by omega)))) (fun v1861 ph1862 hv => ?_)
        obtain ⟨rfl, rfl⟩ := hv
        have td0 := znt (k := t (3 * k) - 48) (by omega)
        show zW n D 126 Q 58 [some (.ref 0), some (.int zl), some (.int (zn k))] [.int (zn (t (3 * k) - 48)), .ref 5, .ref 25] ph2
        refine w_load (pc' := 59) (v := .ref 0) (m := 1) (ykc_126 (e := (2, .aload_n kF0, 0)) rfl) rfl rfl ?_
        refine w_gf (pc' := 62) (v := .ref 154) (ykc_126 (e := (5, .getfield 62, 0)) rfl) rfl (zsg hS2 zs_0_8) rfl ?_
        refine w_load (pc' := 63) (v := .int (zn k)) (m := 1) (ykc_126 (e := (2, .iload_n kF2, 0)) rfl) rfl rfl ?_
        refine w_alu (pc' := 64) (st' := [.int (Int32.ofInt 1), .int (zn k), .ref 154, .int (zn (t (3 * k) - 48)), .ref 5, .ref 25]) (ykc_126 (e := (0, .iconst 1, 0)) rfl) rfl rfl ?_
        refine w_cv (as := [.ref 154, .int (zn k), .int (Int32.ofInt 1)]) (r := [.int (zn (t (3 * k) - 48)), .ref 5, .ref 25]) (ykc_126 (e := (6, .invokevirtual 136, 0)) rfl) rfl rfl rfl rfl (zc_ldig2 (l := k) (i := 1) (d := t (3 * k + 1) - 48) hS2 hw2 (by omega) (by omega) (by omega) (by omega) ((hf.1 155 _ (by decide) (by simp)).trans ((hgl1 k (by omega)).2 1 (by omega)))) (fun v1863 ph1864 hv => ?_)
        obtain ⟨rfl, rfl⟩ := hv
        have td1 := znt (k := t (3 * k + 1) - 48) (by omega)
        show zW n D 126 Q 67 [some (.ref 0), some (.int zl), some (.int (zn k))] [.int (zn (t (3 * k + 1) - 48)), .int (zn (t (3 * k) - 48)), .ref 5, .ref 25] ph2
        refine w_cv (as := [.ref 5, .int (zn (t (3 * k) - 48)), .int (zn (t (3 * k + 1) - 48))]) (r := [.ref 25]) (ykc_126 (e := (6, .invokevirtual 140, 0)) rfl) rfl rfl rfl rfl (zc_fat hS2 hL2) (fun v1865 ph1866 hv => ?_)
        obtain ⟨rfl, zf, rfl, ef⟩ := hv
        rw [td0, td1, zLf_c (by omega) (by omega) (by omega) (by omega)] at ef
        have lf := zLf_lt (R := R) (C := C) (t := t) (p := 3 * k) (by omega) (by omega) (by omega) (by omega)
        show zW n D 126 Q 70 [some (.ref 0), some (.int zl), some (.int (zn k))] [.int zf, .ref 25] ph2
        refine w_cv (as := [.ref 25, .int zf]) (r := []) (ykc_126 (e := (6, .invokevirtual 150, 0)) rfl) rfl rfl rfl rfl (zc_addT hS2 hd2 (zn_of ef) (by omega)) (fun v1867 ph1868 hv => ?_)
        obtain ⟨rfl, fa, hd3⟩ := hv
        show zW n D 126 Q 73 [some (.ref 0), some (.int zl), some (.int (zn k))] [] ph1868
        have e1869 : (zn k) + Int32.ofInt 1 = zn (k + 1) := (zaddN (a := k) (b := 1) (znt (by omega)) c_2 (by omega))
        have te1869 := znt (k := k + 1) (by omega)
        refine w_store (pc' := 76) (L' := [some (.ref 0), some (.int zl), some (.int (zn (k + 1)))]) (st' := []) (m := 3) (ykc_126 (e := (3, .iinc 2 1, 0)) rfl) (by rw [← e1869]; rfl) rfl ?_
        refine w_gb (ykc_126 (e := (4, .goto (-40), 36)) rfl) (fun k1870 hk1870 => ?_)
        exact ih k1870 hk1870 (k + 1) _ (Or.inr (by omega)) (zFr_trans hf (zFr_mono fa (by simp) (by simp))) hd3
  exact hl n 0 ph1856 (Or.inl rfl) zFr_refl hd1
