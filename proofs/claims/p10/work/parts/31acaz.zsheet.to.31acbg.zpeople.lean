/-! sheet, by W; printed by wip/z/z_x_sheet.py -/
/-- an end that is known to be, and what every end fulfils -/
theorem zM_of {j D : Nat} {as : List Value} {ph : pm_H} {P : Option Value → pm_H → Prop} (h : ∃ v q, pm_Rd kK false D j as ph (v, q, 0, 0) ∧ P v q) : zM j as ph P := fun D2 r hr => by
  obtain ⟨v, q, h1, h2⟩ := h
  have e := yRd_det _ _ _ _ _ _ _ hr h1
  subst e
  exact h2
theorem zM_use {j D : Nat} {as : List Value} {ph : pm_H} {P T : Option Value → pm_H → Prop} (hz : zM j as ph P) (h : ∃ v q, pm_Rd kK false D j as ph (v, q, 0, 0) ∧ T v q) : ∃ v q, pm_Rd kK false D j as ph (v, q, 0, 0) ∧ T v q ∧ P v q := by
  obtain ⟨v, q, h1, h2⟩ := h
  exact ⟨v, q, h1, h2, hz _ _ h1⟩
/-- a SHEET's entry, held between 0 and 4 -/
def zq4 (x : Int32) : Nat := (max 0 (min 4 x.toInt)).toNat
theorem zq4_le {x : Int32} : zq4 x ≤ 4 := by
  unfold zq4
  omega
def zsck (kd x : Int32) : Int32 := if kd.toInt = 0 then x.toInt8.toInt32 else if kd.toInt = 1 then x.toInt16.toInt32 else x
def zsq (f st : Int32) : Nat → Int32
  | 0 => f
  | i + 1 => zsq f st i + st
theorem zsq_eq {f st : Int32} : ∀ k, f + zn k * st = zsq f st k
  | 0 => by
    show f + Int32.ofNat 0 * st = f
    rw [show Int32.ofNat 0 = 0 from rfl, Int32.zero_mul, Int32.add_zero]
  | k + 1 => by
    show f + zn (k + 1) * st = zsq f st k + st
    rw [← zsq_eq k, show zn (k + 1) = zn k + 1 from Int32.ofNat_add k 1, Int32.add_mul, Int32.one_mul, Int32.add_assoc]
def zsv (kd nn f st : Int32) (i : Nat) : Nat := if kd.toInt = 3 ∨ nn.toInt ≤ (i : Int) then 0 else zq4 (zsck kd (zsq f st i))
theorem zsv_le {kd nn f st : Int32} {i : Nat} : zsv kd nn f st i ≤ 4 := by
  unfold zsv
  split
  · exact Nat.zero_le _
  · exact zq4_le
def zsh (v : Nat → Nat) (P : Nat) (kd nn f st : Int32) (i : Nat) : Nat := if 16 ≤ i ∧ i < 16 + P then zsv kd nn f st (i - 16) else v i
theorem zsh_b {v : Nat → Nat} {P i : Nat} {kd nn f st : Int32} (h : i < P) : zsh v P kd nn f st (16 + i) = zsv kd nn f st i := by
  unfold zsh
  rw [if_pos (by omega), show 16 + i - 16 = i by omega]
theorem zsh_o {v : Nat → Nat} {P i : Nat} {kd nn f st : Int32} (h : ¬ (16 ≤ i ∧ i < 16 + P)) : zsh v P kd nn f st i = v i := if_neg h
/-- how broad all BRIMS are together -/
def zBs (v : Nat → Nat) : Nat → Int32
  | 0 => Int32.ofInt 0
  | p + 1 => zBs v p + zn (v (16 + p))
def zsa (v : Nat → Nat) (P : Nat) (kd nn f st : Int32) : Int32 := if kd.toInt < 0 ∨ 3 < kd.toInt ∨ 8 < nn.toInt then Int32.ofInt (-1) else if kd.toInt = 3 then (Int8.ofInt (-3)).toInt32 else if nn.toInt < 0 then (Int8.ofInt (-2)).toInt32 else zBs (zsh v P kd nn f st) P
def zsr (v : Nat → Nat) (P : Nat) (kd nn f st : Int32) : Nat → Nat := if (kd.toInt < 0 ∨ 3 < kd.toInt ∨ 8 < nn.toInt) ∨ (kd.toInt ≠ 3 ∧ nn.toInt < 0) then v else zsh v P kd nn f st
theorem zsh_ok {R C P G : Nat} {v : Nat → Nat} {kd nn f st : Int32} (hP : P ≤ 8) (h : zOk R C P G v) : zOk R C P G (zsh v P kd nn f st) := by
  refine ⟨fun p hp => ⟨?_, ?_, ?_, ?_⟩, fun t ht => ?_, ?_⟩
  · rw [zsh_o (by omega)]; exact (h.1 p hp).1
  · rw [zsh_o (by omega)]; exact (h.1 p hp).2.1
  · rw [zsh_b hp]; have := @zsv_le kd nn f st p; omega
  · rw [zsh_o (by omega)]; exact (h.1 p hp).2.2.2
  · rw [zsh_o (by omega)]; exact h.2.1 t ht
  · rw [zsh_o (by omega)]; exact h.2.2
theorem zSd_sh {p q : pm_H} {P G : Nat} {v u : Nat → Nat} (f : zFr [28] [] p q) (hd : zSd p 25 P G v) (h : ∀ i, i < P → zc q 28 i = some (.int (zn (u (16 + i))))) (hu : ∀ i, ¬ (16 ≤ i ∧ i < 16 + P) → u i = v i) : zSd q 25 P G u := by
  obtain ⟨g0, gP, g1, gG, g2, g3, g4⟩ := hd
  refine ⟨(f.1 25 0 (by decide) (by simp)).trans g0, gP, (f.1 25 1 (by decide) (by simp)).trans g1, gG, ?_, fun i hi => ⟨?_, ?_, h i hi, ?_⟩, fun i hi => ?_⟩
  · rw [hu 40 (by omega)]; exact (f.1 25 2 (by decide) (by simp)).trans g2
  · rw [hu i (by omega)]; exact (f.1 (25 + 1) i (by decide) (by simp)).trans (g3 i hi).1
  · rw [hu (8 + i) (by omega)]; exact (f.1 (25 + 2) i (by decide) (by simp)).trans (g3 i hi).2.1
  · rw [hu (24 + i) (by omega)]; exact (f.1 (25 + 4) i (by decide) (by simp)).trans (g3 i hi).2.2.2
  · rw [hu (32 + i) (by omega)]; exact (f.1 (25 + 5) i (by decide) (by simp)).trans (g4 i hi)
theorem zKC_sh {p q : pm_H} {R C P G nx u fl hn : Nat} {rk : Nat → Bool} {v v2 : Nat → Nat} {w sv : Nat → Nat → Nat} (f : zFr [28] [] p q) (h : zKC p R C rk P G v nx u w fl sv hn) (hd : zSd q 25 P G v2) : zKC q R C rk P G v2 nx u w fl sv hn := ⟨zCl_F f (by simp) (by intro i hi; simp) (by simp) h.1, hd, zCu_F f (by simp) (by simp) (by intro j h1 h2; simp <;> omega) (by intro j i h1 h2; simp) h.2.2.1, zCk_F f (by simp) (by simp) (by intro j h1 h2; simp <;> omega) (by intro j i h1 h2; simp) h.2.2.2.1, (f.1 _ _ (by simp) (by simp)).trans h.2.2.2.2.1, h.2.2.2.2.2⟩
theorem zc_entry {ph : pm_H} {kd x : Int32} : zM 132 [.int kd, .int x] ph (fun v0 q => ph = q ∧ v0 = some (.int (zn (zq4 (zsck kd x))))) := by
  obtain ⟨Q, hQ⟩ : ∃ Q : Option Value → pm_H → Prop, Q = (fun v0 q => ph = q ∧ v0 = some (.int (zn (zq4 (zsck kd x))))) := ⟨_, rfl⟩
  rw [← hQ]
  refine zM_mk fun n D => ?_
  show zW n D 132 Q 0 [some (.int kd), some (.int x), none] [] ph
  have c_0 : (Int32.ofInt 0).toInt = 0 := by decide
  have c_1 : (Int32.ofInt 1).toInt = 1 := by decide
  have c_2 : (Int32.ofInt 4).toInt = 4 := by decide
  refine w_load (pc' := 1) (v := .int kd) (m := 1) (ykc_132 (e := (2, .iload_n kF0, 0)) rfl) rfl rfl ?_
  refine w_zne (ykc_132 (e := (4, .ifCond .ne 8, 9)) rfl) rfl (fun b1124 => ?_) (fun b1124 => ?_)
  · refine w_load (pc' := 10) (v := .int kd) (m := 1) (ykc_132 (e := (2, .iload_n kF0, 0)) rfl) rfl rfl ?_
    refine w_alu (pc' := 11) (st' := [.int (Int32.ofInt 1), .int kd]) (ykc_132 (e := (0, .iconst 1, 0)) rfl) rfl rfl ?_
    refine w_ine (ykc_132 (e := (4, .if_icmp .ne 8, 19)) rfl) rfl (fun b1125 => ?_) (fun b1125 => ?_)
    · refine w_load (pc' := 20) (v := .int x) (m := 1) (ykc_132 (e := (2, .iload_n kF1, 0)) rfl) rfl rfl ?_
      refine w_store (pc' := 21) (L' := [some (.int kd), some (.int x), some (.int x)]) (st' := []) (m := 1) (ykc_132 (e := (3, .istore_n kF2, 0)) rfl) rfl rfl ?_
      refine w_alu (pc' := 22) (st' := [.int (Int32.ofInt 0)]) (ykc_132 (e := (0, .iconst 0, 0)) rfl) rfl rfl ?_
      refine w_alu (pc' := 23) (st' := [.int (Int32.ofInt 4), .int (Int32.ofInt 0)]) (ykc_132 (e := (0, .iconst 4, 0)) rfl) rfl rfl ?_
      refine w_load (pc' := 24) (v := .int x) (m := 1) (ykc_132 (e := (2, .iload_n kF2, 0)) rfl) rfl rfl ?_
      obtain ⟨z1126, e_z1126⟩ : ∃ zq : Int32, (if x < (Int32.ofInt 4) then x else (Int32.ofInt 4)) = zq := ⟨_, rfl⟩
      have h_z1126 := zminI e_z1126
      refine w_mem1 (pc' := 27) (m := 3) (st' := [.int z1126, .int (Int32.ofInt 0)]) (ph' := ph) (ykc_132 (e := (5, .invokestatic 227, 0)) rfl) (by rw [← e_z1126]; rfl) rfl ?_
      obtain ⟨z1127, e_z1127⟩ : ∃ zq : Int32, (if (Int32.ofInt 0) < z1126 then z1126 else (Int32.ofInt 0)) = zq := ⟨_, rfl⟩
      have h_z1127 := zmaxI e_z1127
      refine w_mem1 (pc' := 30) (m := 3) (st' := [.int z1127]) (ph' := ph) (ykc_132 (e := (5, .invokestatic 232, 0)) rfl) (by rw [← e_z1127]; rfl) rfl ?_
      refine w_ret (v := (some (.int z1127))) (ykc_132 (e := (7, .ireturn, 0)) rfl) (zr_v rfl) ?_
      have e9 : zsck kd x = x := by
        unfold zsck
        rw [if_neg (by omega), if_neg (by omega)]
      rw [hQ]
      exact ⟨rfl, by rw [zn_of (x := z1127) (k := zq4 (zsck kd x)) (by unfold zq4; rw [e9]; omega)]⟩
    · refine w_load (pc' := 15) (v := .int x) (m := 1) (ykc_132 (e := (2, .iload_n kF1, 0)) rfl) rfl rfl ?_
      obtain ⟨z1128, e_z1128, h_z1128⟩ : ∃ zq : Int32, x.toInt16.toInt32 = zq ∧ zq.toInt = (x.toInt16.toInt32).toInt := ⟨_, rfl, rfl⟩
      refine w_alu (pc' := 16) (st' := [.int z1128]) (ykc_132 (e := (0, .i2s, 0)) rfl) (by rw [← e_z1128]; rfl) rfl ?_
      refine w_br (pc' := 20) (st' := [.int z1128]) (ykc_132 (e := (4, .goto 4, 20)) rfl) rfl ?_
      refine w_store (pc' := 21) (L' := [some (.int kd), some (.int x), some (.int z1128)]) (st' := []) (m := 1) (ykc_132 (e := (3, .istore_n kF2, 0)) rfl) rfl rfl ?_
      refine w_alu (pc' := 22) (st' := [.int (Int32.ofInt 0)]) (ykc_132 (e := (0, .iconst 0, 0)) rfl) rfl rfl ?_
      refine w_alu (pc' := 23) (st' := [.int (Int32.ofInt 4), .int (Int32.ofInt 0)]) (ykc_132 (e := (0, .iconst 4, 0)) rfl) rfl rfl ?_
      refine w_load (pc' := 24) (v := .int z1128) (m := 1) (ykc_132 (e := (2, .iload_n kF2, 0)) rfl) rfl rfl ?_
      obtain ⟨z1129, e_z1129⟩ : ∃ zq : Int32, (if z1128 < (Int32.ofInt 4) then z1128 else (Int32.ofInt 4)) = zq := ⟨_, rfl⟩
      have h_z1129 := zminI e_z1129
      refine w_mem1 (pc' := 27) (m := 3) (st' := [.int z1129, .int (Int32.ofInt 0)]) (ph' := ph) (ykc_132 (e := (5, .invokestatic 227, 0)) rfl) (by rw [← e_z1129]; rfl) rfl ?_
      obtain ⟨z1130, e_z1130⟩ : ∃ zq : Int32, (if (Int32.ofInt 0) < z1129 then z1129 else (Int32.ofInt 0)) = zq := ⟨_, rfl⟩
      have h_z1130 := zmaxI e_z1130
      refine w_mem1 (pc' := 30) (m := 3) (st' := [.int z1130]) (ph' := ph) (ykc_132 (e := (5, .invokestatic 232, 0)) rfl) (by rw [← e_z1130]; rfl) rfl ?_
      refine w_ret (v := (some (.int z1130))) (ykc_132 (e := (7, .ireturn, 0)) rfl) (zr_v rfl) ?_
      have e9 : zsck kd x = x.toInt16.toInt32 := by
        unfold zsck
        rw [if_neg (by omega), if_pos (by omega)]
      rw [hQ]
      exact ⟨rfl, by rw [zn_of (x := z1130) (k := zq4 (zsck kd x)) (by unfold zq4; rw [e9]; omega)]⟩
  · refine w_load (pc' := 5) (v := .int x) (m := 1) (ykc_132 (e := (2, .iload_n kF1, 0)) rfl) rfl rfl ?_
    obtain ⟨z1131, e_z1131, h_z1131⟩ : ∃ zq : Int32, x.toInt8.toInt32 = zq ∧ zq.toInt = (x.toInt8.toInt32).toInt := ⟨_, rfl, rfl⟩
    refine w_alu (pc' := 6) (st' := [.int z1131]) (ykc_132 (e := (0, .i2b, 0)) rfl) (by rw [← e_z1131]; rfl) rfl ?_
    refine w_br (pc' := 20) (st' := [.int z1131]) (ykc_132 (e := (4, .goto 14, 20)) rfl) rfl ?_
    refine w_store (pc' := 21) (L' := [some (.int kd), some (.int x), some (.int z1131)]) (st' := []) (m := 1) (ykc_132 (e := (3, .istore_n kF2, 0)) rfl) rfl rfl ?_
    refine w_alu (pc' := 22) (st' := [.int (Int32.ofInt 0)]) (ykc_132 (e := (0, .iconst 0, 0)) rfl) rfl rfl ?_
    refine w_alu (pc' := 23) (st' := [.int (Int32.ofInt 4), .int (Int32.ofInt 0)]) (ykc_132 (e := (0, .iconst 4, 0)) rfl) rfl rfl ?_
    refine w_load (pc' := 24) (v := .int z1131) (m := 1) (ykc_132 (e := (2, .iload_n kF2, 0)) rfl) rfl rfl ?_
    obtain ⟨z1132, e_z1132⟩ : ∃ zq : Int32, (if z1131 < (Int32.ofInt 4) then z1131 else (Int32.ofInt 4)) = zq := ⟨_, rfl⟩
    have h_z1132 := zminI e_z1132
    refine w_mem1 (pc' := 27) (m := 3) (st' := [.int z1132, .int (Int32.ofInt 0)]) (ph' := ph) (ykc_132 (e := (5, .invokestatic 227, 0)) rfl) (by rw [← e_z1132]; rfl) rfl ?_
    obtain ⟨z1133, e_z1133⟩ : ∃ zq : Int32, (if (Int32.ofInt 0) < z1132 then z1132 else (Int32.ofInt 0)) = zq := ⟨_, rfl⟩
    have h_z1133 := zmaxI e_z1133
    refine w_mem1 (pc' := 30) (m := 3) (st' := [.int z1133]) (ph' := ph) (ykc_132 (e := (5, .invokestatic 232, 0)) rfl) (by rw [← e_z1133]; rfl) rfl ?_
    refine w_ret (v := (some (.int z1133))) (ykc_132 (e := (7, .ireturn, 0)) rfl) (zr_v rfl) ?_
    have e9 : zsck kd x = x.toInt8.toInt32 := if_pos (by omega)
    rw [hQ]
    exact ⟨rfl, by rw [zn_of (x := z1133) (k := zq4 (zsck kd x)) (by unfold zq4; rw [e9]; omega)]⟩
theorem zc_brims {ph : pm_H} {S P G : Nat} {v : Nat → Nat} (hs : zSs ph S) (hd : zSd ph S P G v) : zM 112 [.ref S] ph (fun v0 q => ph = q ∧ v0 = some (.int (zBs v P))) := by
  obtain ⟨Q, hQ⟩ : ∃ Q : Option Value → pm_H → Prop, Q = (fun v0 q => ph = q ∧ v0 = some (.int (zBs v P))) := ⟨_, rfl⟩
  rw [← hQ]
  refine zM_mk fun n D => ?_
  show zW n D 112 Q 0 [some (.ref S), none, none] [] ph
  have c_0 : ((Int8.ofInt 8).toInt32).toInt = 8 := by decide
  have c_1 : (Int32.ofInt 0).toInt = 0 := by decide
  have c_2 : (Int32.ofInt 1).toInt = 1 := by decide
  have hd0 := hd
  have hs0 := hs
  obtain ⟨r3, r4, r5, r6, r7, l1, l2, l3, l4, l5⟩ := hs
  obtain ⟨gP, hP8, gG, hG8, gH, gv, gw⟩ := hd
  have tP := znt (k := P) (by omega)
  have tG := znt (k := G) (by omega)
  refine w_alu (pc' := 1) (st' := [.int (Int32.ofInt 0)]) (ykc_112 (e := (0, .iconst 0, 0)) rfl) rfl rfl ?_
  refine w_store (pc' := 2) (L' := [some (.ref S), some (.int (Int32.ofInt 0)), none]) (st' := []) (m := 1) (ykc_112 (e := (3, .istore_n kF1, 0)) rfl) rfl rfl ?_
  refine w_alu (pc' := 3) (st' := [.int (Int32.ofInt 0)]) (ykc_112 (e := (0, .iconst 0, 0)) rfl) rfl rfl ?_
  refine w_store (pc' := 4) (L' := [some (.ref S), some (.int (Int32.ofInt 0)), some (.int (Int32.ofInt 0))]) (st' := []) (m := 1) (ykc_112 (e := (3, .istore_n kF2, 0)) rfl) rfl rfl ?_
  have hl : ∀ (n : Nat), ∀ (k : Nat), (k ≤ P) → zW n D 112 Q 4 [some (.ref S), some (.int (zBs v k)), some (.int (zn k))] [] ph := by
    intro n
    induction n using Nat.strongRecOn with
    | ind n ih =>
      intro k hk
      have tk := znt (k := k) (by omega)
      refine w_load (pc' := 5) (v := .int (zn k)) (m := 1) (ykc_112 (e := (2, .iload_n kF2, 0)) rfl) rfl rfl ?_
      refine w_load (pc' := 6) (v := .ref S) (m := 1) (ykc_112 (e := (2, .aload_n kF0, 0)) rfl) rfl rfl ?_
      refine w_gf (pc' := 9) (v := .int (zn P)) (ykc_112 (e := (5, .getfield 30, 0)) rfl) rfl gP rfl ?_
      refine w_ige (ykc_112 (e := (4, .if_icmp .ge 24, 33)) rfl) rfl (fun b1134 => ?_) (fun b1134 => ?_)
      · refine w_load (pc' := 34) (v := .int (zBs v k)) (m := 1) (ykc_112 (e := (2, .iload_n kF1, 0)) rfl) rfl rfl ?_
        refine w_ret (v := (some (.int (zBs v k)))) (ykc_112 (e := (7, .ireturn, 0)) rfl) (zr_v rfl) ?_
        have ek : P = k := by omega
        subst ek
        rw [hQ]
        exact ⟨rfl, rfl⟩
      · refine w_load (pc' := 13) (v := .int (zn k)) (m := 1) (ykc_112 (e := (2, .iload_n kF2, 0)) rfl) rfl rfl ?_
        refine w_push (pc' := 15) (v := .int ((Int8.ofInt 8).toInt32)) (m := 2) (ykc_112 (e := (1, .bipush 8, 0)) rfl) rfl rfl ?_
        refine w_ige (ykc_112 (e := (4, .if_icmp .ge 18, 33)) rfl) rfl (fun q => by exfalso; omega) (fun b1135 => ?_)
        refine w_load (pc' := 19) (v := .int (zBs v k)) (m := 1) (ykc_112 (e := (2, .iload_n kF1, 0)) rfl) rfl rfl ?_
        refine w_load (pc' := 20) (v := .ref S) (m := 1) (ykc_112 (e := (2, .aload_n kF0, 0)) rfl) rfl rfl ?_
        refine w_gf (pc' := 23) (v := .ref (S + 3)) (ykc_112 (e := (5, .getfield 18, 0)) rfl) rfl r5 rfl ?_
        refine w_load (pc' := 24) (v := .int (zn k)) (m := 1) (ykc_112 (e := (2, .iload_n kF2, 0)) rfl) rfl rfl ?_
        refine w_ialk (pc' := 25) (k := k) (ykc_112 (e := (5, .iaload, 0)) rfl) (gv k (by omega)).2.2.1 (by omega) rfl ?_
        refine w_alu (pc' := 26) (st' := [.int ((zBs v k) + (zn (v (16 + k))))]) (ykc_112 (e := (0, .iadd, 0)) rfl) rfl rfl ?_
        refine w_store (pc' := 27) (L' := [some (.ref S), some (.int ((zBs v k) + (zn (v (16 + k))))), some (.int (zn k))]) (st' := []) (m := 1) (ykc_112 (e := (3, .istore_n kF1, 0)) rfl) rfl rfl ?_
        have e1136 : (zn k) + Int32.ofInt 1 = zn (k + 1) := (zaddN (a := k) (b := 1) (znt (by omega)) c_2 (by omega))
        have te1136 := znt (k := k + 1) (by omega)
        refine w_store (pc' := 30) (L' := [some (.ref S), some (.int ((zBs v k) + (zn (v (16 + k))))), some (.int (zn (k + 1)))]) (st' := []) (m := 3) (ykc_112 (e := (3, .iinc 2 1, 0)) rfl) (by rw [← e1136]; rfl) rfl ?_
        refine w_gb (ykc_112 (e := (4, .goto (-26), 4)) rfl) (fun k1137 hk1137 => ?_)
        exact ih k1137 hk1137 (k + 1) (by omega)
  exact hl n 0 (Nat.zero_le _)
theorem zc_fill28 {ph : pm_H} (hS : zSh ph) : zM 328 [.ref 28, .int (Int32.ofInt 0)] ph (fun v0 q => v0 = none ∧ zFr [28] [] ph q ∧ ∀ i, i < 8 → zc q 28 i = some (.int (zn 0))) := by
  obtain ⟨Q, hQ⟩ : ∃ Q : Option Value → pm_H → Prop, Q = (fun v0 q => v0 = none ∧ zFr [28] [] ph q ∧ ∀ i, i < 8 → zc q 28 i = some (.int (zn 0))) := ⟨_, rfl⟩
  rw [← hQ]
  refine zM_mk fun n D => ?_
  show zW n D 328 Q 0 [some (.ref 28), some (.int (Int32.ofInt 0)), none, none] [] ph
  have c_0 : (Int32.ofInt 0).toInt = 0 := by decide
  have c_1 : (Int32.ofInt 1).toInt = 1 := by decide
  refine w_alu (pc' := 1) (st' := [.int (Int32.ofInt 0)]) (ykc_328 (e := (0, .iconst 0, 0)) rfl) rfl rfl ?_
  refine w_store (pc' := 2) (L' := [some (.ref 28), some (.int (Int32.ofInt 0)), some (.int (Int32.ofInt 0)), none]) (st' := []) (m := 1) (ykc_328 (e := (3, .istore_n kF2, 0)) rfl) rfl rfl ?_
  refine w_load (pc' := 3) (v := .ref 28) (m := 1) (ykc_328 (e := (2, .aload_n kF0, 0)) rfl) rfl rfl ?_
  have cn1138 : (Int32.ofNat 8).toInt = 8 := by decide
  refine w_aln (ykc_328 (e := (5, .arraylength, 0)) rfl) (zsl hS zl_28) rfl ?_
  refine w_store (pc' := 5) (L' := [some (.ref 28), some (.int (Int32.ofInt 0)), some (.int (Int32.ofInt 0)), some (.int (Int32.ofNat 8))]) (st' := []) (m := 1) (ykc_328 (e := (3, .istore_n kF3, 0)) rfl) rfl rfl ?_
  have hl : ∀ (n : Nat), ∀ (k : Nat) (ph1 : pm_H), (k ≤ 8) → (zFr [28] [] ph ph1) → (∀ i, i < k → zc ph1 28 i = some (.int (zn 0))) → zW n D 328 Q 5 [some (.ref 28), some (.int (Int32.ofInt 0)), some (.int (zn k)), some (.int (Int32.ofNat 8))] [] ph1 := by
    intro n
    induction n using Nat.strongRecOn with
    | ind n ih =>
      intro k ph1 hk hf hr
      have tk := znt (k := k) (by omega)
      refine w_load (pc' := 6) (v := .int (zn k)) (m := 1) (ykc_328 (e := (2, .iload_n kF2, 0)) rfl) rfl rfl ?_
      refine w_load (pc' := 7) (v := .int (Int32.ofNat 8)) (m := 1) (ykc_328 (e := (2, .iload_n kF3, 0)) rfl) rfl rfl ?_
      refine w_ige (ykc_328 (e := (4, .if_icmp .ge 13, 20)) rfl) rfl (fun b1139 => ?_) (fun b1139 => ?_)
      · refine w_ret (v := none) (ykc_328 (e := (7, .return_, 0)) rfl) (zr_v rfl) ?_
        have ek : k = 8 := by omega
        subst ek
        rw [hQ]
        exact ⟨rfl, hf, hr⟩
      · refine w_load (pc' := 11) (v := .ref 28) (m := 1) (ykc_328 (e := (2, .aload_n kF0, 0)) rfl) rfl rfl ?_
        refine w_load (pc' := 12) (v := .int (zn k)) (m := 1) (ykc_328 (e := (2, .iload_n kF2, 0)) rfl) rfl rfl ?_
        refine w_load (pc' := 13) (v := .int (Int32.ofInt 0)) (m := 1) (ykc_328 (e := (2, .iload_n kF1, 0)) rfl) rfl rfl ?_
        refine w_ias (pc' := 14) (k := k) (ykc_328 (e := (5, .iastore, 0)) rfl) (by omega) rfl (fun ph1141 u1140 => ?_)
        have e1142 : (zn k) + Int32.ofInt 1 = zn (k + 1) := (zaddN (a := k) (b := 1) (znt (by omega)) c_1 (by omega))
        have te1142 := znt (k := k + 1) (by omega)
        refine w_store (pc' := 17) (L' := [some (.ref 28), some (.int (Int32.ofInt 0)), some (.int (zn (k + 1))), some (.int (Int32.ofNat 8))]) (st' := []) (m := 3) (ykc_328 (e := (3, .iinc 2 1, 0)) rfl) (by rw [← e1142]; rfl) rfl ?_
        refine w_gb (ykc_328 (e := (4, .goto (-12), 5)) rfl) (fun k1143 hk1143 => ?_)
        exact ih k1143 hk1143 (k + 1) _ (by omega) (zFr_add hf u1140 (Or.inl (by simp))) (fun i hi => by
          by_cases e : i = k
          · subst e
            exact u1140.1
          · exact (u1140.2.1 28 i (fun q => e q.2)).trans (hr i (by omega)))
  exact hl n 0 ph (Nat.zero_le _) zFr_refl (fun i hi => absurd hi (Nat.not_lt_zero i))
theorem zc_sheet {ph : pm_H} {R C P G nx u fl hn : Nat} {rk : Nat → Bool} {v : Nat → Nat} {w : Nat → Nat → Nat} {sv : Nat → Nat → Nat} (hS : zSh ph) (hK : zKC ph R C rk P G v nx u w fl sv hn) (hO0 : zOk R C P G v) {kd nn ff sp : Int32} : zM 131 [.ref 0, .int kd, .int nn, .int ff, .int sp] ph (fun v0 q => v0 = some (.int (zsa v P kd nn ff sp)) ∧ zKC q R C rk P G (zsr v P kd nn ff sp) nx u w fl sv hn) := by
  obtain ⟨Q, hQ⟩ : ∃ Q : Option Value → pm_H → Prop, Q = (fun v0 q => v0 = some (.int (zsa v P kd nn ff sp)) ∧ zKC q R C rk P G (zsr v P kd nn ff sp) nx u w fl sv hn) := ⟨_, rfl⟩
  rw [← hQ]
  refine zM_mk fun n D => ?_
  show zW n D 131 Q 0 [some (.ref 0), some (.int kd), some (.int nn), some (.int ff), some (.int sp), none] [] ph
  have c_0 : ((Int8.ofInt (-2)).toInt32).toInt = -2 := by decide
  have c_1 : ((Int8.ofInt (-3)).toInt32).toInt = -3 := by decide
  have c_2 : ((Int8.ofInt 8).toInt32).toInt = 8 := by decide
  have c_3 : (Int32.ofInt (-1)).toInt = -1 := by decide
  have c_4 : (Int32.ofInt 0).toInt = 0 := by decide
  have c_5 : (Int32.ofInt 1).toInt = 1 := by decide
  have c_6 : (Int32.ofInt 3).toInt = 3 := by decide
  have hd := hK.2.1
  obtain ⟨gP, hP8, -⟩ := hK.2.1
  have tP := znt (k := P) (by omega)
  refine w_load (pc' := 1) (v := .int kd) (m := 1) (ykc_131 (e := (2, .iload_n kF1, 0)) rfl) rfl rfl ?_
  refine w_zlt (ykc_131 (e := (4, .ifCond .lt 14, 15)) rfl) rfl (fun b1144 => ?_) (fun b1144 => ?_)
  · refine w_alu (pc' := 16) (st' := [.int (Int32.ofInt (-1))]) (ykc_131 (e := (0, .iconst (-1), 0)) rfl) rfl rfl ?_
    refine w_ret (v := (some (.int (Int32.ofInt (-1))))) (ykc_131 (e := (7, .ireturn, 0)) rfl) (zr_v rfl) ?_
    have ea : zsa v P kd nn ff sp = Int32.ofInt (-1) := if_pos (by omega)
    have er : zsr v P kd nn ff sp = v := if_pos (Or.inl (by omega))
    rw [hQ]
    refine ⟨by rw [ea], ?_⟩
    rw [er]
    exact hK
  · refine w_load (pc' := 5) (v := .int kd) (m := 1) (ykc_131 (e := (2, .iload_n kF1, 0)) rfl) rfl rfl ?_
    refine w_alu (pc' := 6) (st' := [.int (Int32.ofInt 3), .int kd]) (ykc_131 (e := (0, .iconst 3, 0)) rfl) rfl rfl ?_
    refine w_igt (ykc_131 (e := (4, .if_icmp .gt 9, 15)) rfl) rfl (fun b1145 => ?_) (fun b1145 => ?_)
    · refine w_alu (pc' := 16) (st' := [.int (Int32.ofInt (-1))]) (ykc_131 (e := (0, .iconst (-1), 0)) rfl) rfl rfl ?_
      refine w_ret (v := (some (.int (Int32.ofInt (-1))))) (ykc_131 (e := (7, .ireturn, 0)) rfl) (zr_v rfl) ?_
      have ea : zsa v P kd nn ff sp = Int32.ofInt (-1) := if_pos (by omega)
      have er : zsr v P kd nn ff sp = v := if_pos (Or.inl (by omega))
      rw [hQ]
      refine ⟨by rw [ea], ?_⟩
      rw [er]
      exact hK
    · refine w_load (pc' := 10) (v := .int nn) (m := 1) (ykc_131 (e := (2, .iload_n kF2, 0)) rfl) rfl rfl ?_
      refine w_push (pc' := 12) (v := .int ((Int8.ofInt 8).toInt32)) (m := 2) (ykc_131 (e := (1, .bipush 8, 0)) rfl) rfl rfl ?_
      refine w_ile (ykc_131 (e := (4, .if_icmp .le 5, 17)) rfl) rfl (fun b1146 => ?_) (fun b1146 => ?_)
      · refine w_load (pc' := 18) (v := .int kd) (m := 1) (ykc_131 (e := (2, .iload_n kF1, 0)) rfl) rfl rfl ?_
        refine w_alu (pc' := 19) (st' := [.int (Int32.ofInt 3), .int kd]) (ykc_131 (e := (0, .iconst 3, 0)) rfl) rfl rfl ?_
        refine w_ine (ykc_131 (e := (4, .if_icmp .ne 17, 36)) rfl) rfl (fun b1147 => ?_) (fun b1147 => ?_)
        · refine w_load (pc' := 37) (v := .int nn) (m := 1) (ykc_131 (e := (2, .iload_n kF2, 0)) rfl) rfl rfl ?_
          refine w_zge (ykc_131 (e := (4, .ifCond .ge 6, 43)) rfl) rfl (fun b1148 => ?_) (fun b1148 => ?_)
          · refine w_alu (pc' := 44) (st' := [.int (Int32.ofInt 0)]) (ykc_131 (e := (0, .iconst 0, 0)) rfl) rfl rfl ?_
            refine w_store (pc' := 46) (L' := [some (.ref 0), some (.int kd), some (.int nn), some (.int ff), some (.int sp), some (.int (Int32.ofInt 0))]) (st' := []) (m := 2) (ykc_131 (e := (3, .istore 5, 0)) rfl) rfl rfl ?_
            have hl : ∀ (n : Nat), ∀ (k : Nat) (ph1 : pm_H), (k ≤ P) → (zFr [28] [] ph ph1) → (∀ i, i < k → zc ph1 28 i = some (.int (zn (zsv kd nn ff sp i)))) → zW n D 131 Q 46 [some (.ref 0), some (.int kd), some (.int nn), some (.int ff), some (.int sp), some (.int (zn k))] [] ph1 := by
              intro n
              induction n using Nat.strongRecOn with
              | ind n ih =>
                intro k ph1 hk hf hr
                have tk := znt (k := k) (by omega)
                refine w_load (pc' := 48) (v := .int (zn k)) (m := 2) (ykc_131 (e := (2, .iload 5, 0)) rfl) rfl rfl ?_
                refine w_load (pc' := 49) (v := .ref 0) (m := 1) (ykc_131 (e := (2, .aload_n kF0, 0)) rfl) rfl rfl ?_
                refine w_gf (pc' := 52) (v := .ref 25) (ykc_131 (e := (5, .getfield 42, 0)) rfl) rfl ((hf.1 0 4 (by decide) (by decide)).trans (zsg hS zs_0_4)) rfl ?_
                refine w_gf (pc' := 55) (v := .int (zn P)) (ykc_131 (e := (5, .getfield 130, 0)) rfl) rfl ((hf.1 25 0 (by decide) (by decide)).trans gP) rfl ?_
                refine w_ige (ykc_131 (e := (4, .if_icmp .ge 47, 102)) rfl) rfl (fun b1149 => ?_) (fun b1149 => ?_)
                · have ek : P = k := by omega
                  subst ek
                  have hd9 := zSd_sh (u := zsh v P kd nn ff sp) hf hd (fun i hi => by rw [zsh_b hi]; exact hr i hi) (fun i hi => zsh_o hi)
                  refine w_load (pc' := 103) (v := .ref 0) (m := 1) (ykc_131 (e := (2, .aload_n kF0, 0)) rfl) rfl rfl ?_
                  refine w_gf (pc' := 106) (v := .ref 25) (ykc_131 (e := (5, .getfield 42, 0)) rfl) rfl ((hf.1 0 4 (by decide) (by decide)).trans (zsg hS zs_0_4)) rfl ?_
                  refine w_cv (as := [.ref 25]) (r := []) (ykc_131 (e := (6, .invokevirtual 224, 0)) rfl) rfl rfl rfl rfl (zc_brims (zSs_of (zSh_F hf (by decide +kernel) hS) (S := 25) (by decide)) hd9) (fun v1150 ph1151 hv => ?_)
                  obtain ⟨rfl, rfl⟩ := hv
                  show zW n D 131 Q 109 [some (.ref 0), some (.int kd), some (.int nn), some (.int ff), some (.int sp), some (.int (zn P))] [.int (zBs (zsh v P kd nn ff sp) P)] ph1
                  refine w_ret (v := (some (.int (zBs (zsh v P kd nn ff sp) P)))) (ykc_131 (e := (7, .ireturn, 0)) rfl) (zr_v rfl) ?_
                  have ea : zsa v P kd nn ff sp = zBs (zsh v P kd nn ff sp) P := by
                    unfold zsa
                    rw [if_neg (by omega), if_neg (by omega), if_neg (by omega)]
                  have er : zsr v P kd nn ff sp = zsh v P kd nn ff sp := if_neg (by omega)
                  rw [hQ]
                  refine ⟨by rw [ea], ?_⟩
                  rw [er]
                  exact zKC_sh hf hK hd9
                · refine w_load (pc' := 60) (v := .int (zn k)) (m := 2) (ykc_131 (e := (2, .iload 5, 0)) rfl) rfl rfl ?_
                  refine w_push (pc' := 62) (v := .int ((Int8.ofInt 8).toInt32)) (m := 2) (ykc_131 (e := (1, .bipush 8, 0)) rfl) rfl rfl ?_
                  refine w_ige (ykc_131 (e := (4, .if_icmp .ge 40, 102)) rfl) rfl (fun q => by exfalso; omega) (fun b1152 => ?_)
                  refine w_load (pc' := 66) (v := .ref 0) (m := 1) (ykc_131 (e := (2, .aload_n kF0, 0)) rfl) rfl rfl ?_
                  refine w_gf (pc' := 69) (v := .ref 25) (ykc_131 (e := (5, .getfield 42, 0)) rfl) rfl ((hf.1 0 4 (by decide) (by decide)).trans (zsg hS zs_0_4)) rfl ?_
                  refine w_gf (pc' := 72) (v := .ref 28) (ykc_131 (e := (5, .getfield 180, 0)) rfl) rfl ((hf.1 25 5 (by decide) (by decide)).trans (zsg hS zs_25_5)) rfl ?_
                  refine w_load (pc' := 74) (v := .int (zn k)) (m := 2) (ykc_131 (e := (2, .iload 5, 0)) rfl) rfl rfl ?_
                  refine w_load (pc' := 76) (v := .int (zn k)) (m := 2) (ykc_131 (e := (2, .iload 5, 0)) rfl) rfl rfl ?_
                  refine w_load (pc' := 77) (v := .int nn) (m := 1) (ykc_131 (e := (2, .iload_n kF2, 0)) rfl) rfl rfl ?_
                  refine w_ige (ykc_131 (e := (4, .if_icmp .ge 17, 94)) rfl) rfl (fun b1153 => ?_) (fun b1153 => ?_)
                  · refine w_alu (pc' := 95) (st' := [.int (Int32.ofInt 0), .int (zn k), .ref 28]) (ykc_131 (e := (0, .iconst 0, 0)) rfl) rfl rfl ?_
                    refine w_ias (pc' := 96) (k := k) (ykc_131 (e := (5, .iastore, 0)) rfl) (by omega) rfl (fun ph1155 u1154 => ?_)
                    have e1156 : (zn k) + Int32.ofInt 1 = zn (k + 1) := (zaddN (a := k) (b := 1) (znt (by omega)) c_5 (by omega))
                    have te1156 := znt (k := k + 1) (by omega)
                    refine w_store (pc' := 99) (L' := [some (.ref 0), some (.int kd), some (.int nn), some (.int ff), some (.int sp), some (.int (zn (k + 1)))]) (st' := []) (m := 3) (ykc_131 (e := (3, .iinc 5 1, 0)) rfl) (by rw [← e1156]; rfl) rfl ?_
                    refine w_gb (ykc_131 (e := (4, .goto (-53), 46)) rfl) (fun k1157 hk1157 => ?_)
                    exact ih k1157 hk1157 (k + 1) _ (by omega) (zFr_add hf u1154 (Or.inl (by simp))) (fun i hi => by
                      by_cases e : i = k
                      · subst e
                        rw [show zsv kd nn ff sp i = 0 from if_pos (Or.inr (by omega))]
                        exact u1154.1
                      · exact (u1154.2.1 28 i (fun q => e q.2)).trans (hr i (by omega)))
                  · refine w_load (pc' := 81) (v := .int kd) (m := 1) (ykc_131 (e := (2, .iload_n kF1, 0)) rfl) rfl rfl ?_
                    refine w_load (pc' := 82) (v := .int ff) (m := 1) (ykc_131 (e := (2, .iload_n kF3, 0)) rfl) rfl rfl ?_
                    refine w_load (pc' := 84) (v := .int (zn k)) (m := 2) (ykc_131 (e := (2, .iload 5, 0)) rfl) rfl rfl ?_
                    refine w_load (pc' := 86) (v := .int sp) (m := 2) (ykc_131 (e := (2, .iload 4, 0)) rfl) rfl rfl ?_
                    refine w_alu (pc' := 87) (st' := [.int ((zn k) * sp), .int ff, .int kd, .int (zn k), .ref 28]) (ykc_131 (e := (0, .imul, 0)) rfl) rfl rfl ?_
                    refine w_alu (pc' := 88) (st' := [.int (zsq ff sp k), .int kd, .int (zn k), .ref 28]) (ykc_131 (e := (0, .iadd, 0)) rfl) (by rw [← (zsq_eq k : ff + ((zn k) * sp) = zsq ff sp k)]; rfl) rfl ?_
                    refine w_cs (as := [.int kd, .int (zsq ff sp k)]) (r := [.int (zn k), .ref 28]) (ykc_131 (e := (6, .invokestatic 221, 0)) rfl) rfl rfl rfl rfl (zc_entry (kd := kd) (x := (zsq ff sp k))) (fun v1158 ph1159 hv => ?_)
                    obtain ⟨rfl, rfl⟩ := hv
                    show zW n D 131 Q 91 [some (.ref 0), some (.int kd), some (.int nn), some (.int ff), some (.int sp), some (.int (zn k))] [.int (zn (zq4 (zsck kd (zsq ff sp k)))), .int (zn k), .ref 28] ph1
                    refine w_br (pc' := 95) (st' := [.int (zn (zq4 (zsck kd (zsq ff sp k)))), .int (zn k), .ref 28]) (ykc_131 (e := (4, .goto 4, 95)) rfl) rfl ?_
                    refine w_ias (pc' := 96) (k := k) (ykc_131 (e := (5, .iastore, 0)) rfl) (by omega) rfl (fun ph1161 u1160 => ?_)
                    have e1162 : (zn k) + Int32.ofInt 1 = zn (k + 1) := (zaddN (a := k) (b := 1) (znt (by omega)) c_5 (by omega))
                    have te1162 := znt (k := k + 1) (by omega)
                    refine w_store (pc' := 99) (L' := [some (.ref 0), some (.int kd), some (.int nn), some (.int ff), some (.int sp), some (.int (zn (k + 1)))]) (st' := []) (m := 3) (ykc_131 (e := (3, .iinc 5 1, 0)) rfl) (by rw [← e1162]; rfl) rfl ?_
                    refine w_gb (ykc_131 (e := (4, .goto (-53), 46)) rfl) (fun k1163 hk1163 => ?_)
                    exact ih k1163 hk1163 (k + 1) _ (by omega) (zFr_add hf u1160 (Or.inl (by simp))) (fun i hi => by
                      by_cases e : i = k
                      · subst e
                        rw [show zsv kd nn ff sp i = zq4 (zsck kd (zsq ff sp i)) from if_neg (by omega)]
                        exact u1160.1
                      · exact (u1160.2.1 28 i (fun q => e q.2)).trans (hr i (by omega)))
            exact hl n 0 ph (Nat.zero_le _) zFr_refl (fun i hi => absurd hi (Nat.not_lt_zero i))
          · refine w_push (pc' := 42) (v := .int ((Int8.ofInt (-2)).toInt32)) (m := 2) (ykc_131 (e := (1, .bipush (-2), 0)) rfl) rfl rfl ?_
            refine w_ret (v := (some (.int ((Int8.ofInt (-2)).toInt32)))) (ykc_131 (e := (7, .ireturn, 0)) rfl) (zr_v rfl) ?_
            have ea : zsa v P kd nn ff sp = (Int8.ofInt (-2)).toInt32 := (by
              unfold zsa
              rw [if_neg (by omega), if_neg (by omega), if_pos (by omega)])
            have er : zsr v P kd nn ff sp = v := if_pos (Or.inr (by omega))
            rw [hQ]
            refine ⟨by rw [ea], ?_⟩
            rw [er]
            exact hK
        · refine w_load (pc' := 23) (v := .ref 0) (m := 1) (ykc_131 (e := (2, .aload_n kF0, 0)) rfl) rfl rfl ?_
          refine w_gf (pc' := 26) (v := .ref 25) (ykc_131 (e := (5, .getfield 42, 0)) rfl) rfl (zsg hS zs_0_4) rfl ?_
          refine w_gf (pc' := 29) (v := .ref 28) (ykc_131 (e := (5, .getfield 180, 0)) rfl) rfl (zsg hS zs_25_5) rfl ?_
          refine w_alu (pc' := 30) (st' := [.int (Int32.ofInt 0), .ref 28]) (ykc_131 (e := (0, .iconst 0, 0)) rfl) rfl rfl ?_
          refine w_cs (as := [.ref 28, .int (Int32.ofInt 0)]) (r := []) (ykc_131 (e := (6, .invokestatic 215, 0)) rfl) rfl rfl rfl rfl (zc_fill28 hS) (fun v1164 ph1165 hv => ?_)
          obtain ⟨rfl, ff9, fr9⟩ := hv
          show zW n D 131 Q 33 [some (.ref 0), some (.int kd), some (.int nn), some (.int ff), some (.int sp), none] [] ph1165
          refine w_push (pc' := 35) (v := .int ((Int8.ofInt (-3)).toInt32)) (m := 2) (ykc_131 (e := (1, .bipush (-3), 0)) rfl) rfl rfl ?_
          refine w_ret (v := (some (.int ((Int8.ofInt (-3)).toInt32)))) (ykc_131 (e := (7, .ireturn, 0)) rfl) (zr_v rfl) ?_
          have ea : zsa v P kd nn ff sp = (Int8.ofInt (-3)).toInt32 := by
            unfold zsa
            rw [if_neg (by omega), if_pos (by omega)]
          have er : zsr v P kd nn ff sp = zsh v P kd nn ff sp := if_neg (by omega)
          rw [hQ]
          refine ⟨by rw [ea], ?_⟩
          rw [er]
          exact zKC_sh ff9 hK (zSd_sh ff9 hd (fun i hi => by
            rw [zsh_b hi, show zsv kd nn ff sp i = 0 from if_pos (Or.inl (by omega))]
            exact fr9 i (by omega)) (fun i hi => zsh_o hi))
      · refine w_alu (pc' := 16) (st' := [.int (Int32.ofInt (-1))]) (ykc_131 (e := (0, .iconst (-1), 0)) rfl) rfl rfl ?_
        refine w_ret (v := (some (.int (Int32.ofInt (-1))))) (ykc_131 (e := (7, .ireturn, 0)) rfl) (zr_v rfl) ?_
        have ea : zsa v P kd nn ff sp = Int32.ofInt (-1) := if_pos (by omega)
        have er : zsr v P kd nn ff sp = v := if_pos (Or.inl (by omega))
        rw [hQ]
        refine ⟨by rw [ea], ?_⟩
        rw [er]
        exact hK
theorem zm_sheet {ph : pm_H} {R C P G u ch hn : Nat} {rk : Nat → Bool} {v : Nat → Nat} {w : Nat → Nat → Nat} {kp : Nat → Bool} {kc : Nat → Nat} {sv : Nat → Nat → Nat} (hS : zSh ph) (hK : zKM ph R C rk P G v u w ch kp kc sv hn) (hO0 : zOk R C P G v) {kd nn ff sp : Int32} : zM 237 [.ref 170, .int kd, .int nn, .int ff, .int sp] ph (fun v0 q => v0 = some (.int (zsa v P kd nn ff sp)) ∧ zKM q R C rk P G (zsr v P kd nn ff sp) u w ch kp kc sv hn) := by
  obtain ⟨Q, hQ⟩ : ∃ Q : Option Value → pm_H → Prop, Q = (fun v0 q => v0 = some (.int (zsa v P kd nn ff sp)) ∧ zKM q R C rk P G (zsr v P kd nn ff sp) u w ch kp kc sv hn) := ⟨_, rfl⟩
  rw [← hQ]
  refine zM_mk fun n D => ?_
  show zW n D 237 Q 0 [some (.ref 170), some (.int kd), some (.int nn), some (.int ff), some (.int sp), none, none, none, none] [] ph
  have c_0 : ((Int8.ofInt (-2)).toInt32).toInt = -2 := by decide
  have c_1 : ((Int8.ofInt (-3)).toInt32).toInt = -3 := by decide
  have c_2 : ((Int8.ofInt 16).toInt32).toInt = 16 := by decide
  have c_3 : ((Int8.ofInt 8).toInt32).toInt = 8 := by decide
  have c_4 : (Int32.ofInt (-1)).toInt = -1 := by decide
  have c_5 : (Int32.ofInt 0).toInt = 0 := by decide
  have c_6 : (Int32.ofInt 1).toInt = 1 := by decide
  have c_7 : (Int32.ofInt 3).toInt = 3 := by decide
  have c_8 : (Int32.ofInt 4).toInt = 4 := by decide
  obtain ⟨hL, hN, hv, hU, hk, hh⟩ := hK
  have hL0 := hL
  have hN0 := hN
  have hu15 := hU.2.1
  obtain ⟨gR, gC, gK, hR3, hR7, hC3, hC7⟩ := hL
  have hRC := zRC49 hR7 hC7
  have tR := znt (k := R) (by omega)
  have tC := znt (k := C) (by omega)
  obtain ⟨gP, hP8, gG, hG8⟩ := hN
  have tP := znt (k := P) (by omega)
  have tG := znt (k := G) (by omega)
  have tu := znt (k := u) (by omega)
  have hn10 := hh.2
  have thn := znt (k := hn) (by omega)
  refine w_load (pc' := 1) (v := .ref 170) (m := 1) (ykc_237 (e := (2, .aload_n kF0, 0)) rfl) rfl rfl ?_
  refine w_alu (pc' := 2) (st' := [.int (Int32.ofInt 0), .ref 170]) (ykc_237 (e := (0, .iconst 0, 0)) rfl) rfl rfl ?_
  refine w_pf (pc' := 5) (ykc_237 (e := (5, .putfield 3, 0)) rfl) rfl rfl (fun ph1167 u1166 => ?_)
  refine w_load (pc' := 6) (v := .int kd) (m := 1) (ykc_237 (e := (2, .iload_n kF1, 0)) rfl) rfl rfl ?_
  refine w_alu (pc' := 7) (st' := [.long kd.toInt64]) (ykc_237 (e := (0, .i2l, 0)) rfl) rfl rfl ?_
  refine w_alu (pc' := 8) (st' := [.long (Int64.ofNat kG0), .long kd.toInt64]) (ykc_237 (e := (0, .lconst kG0, 0)) rfl) rfl rfl ?_
  refine w_push (pc' := 11) (v := .long (3 : Int64)) (m := 3) (ykc_237 (e := (1, .ldc2_w 339, 0)) rfl) rfl rfl ?_
  refine w_cs (as := [.long kd.toInt64, .long (Int64.ofNat kG0), .long (3 : Int64)]) (r := []) (ykc_237 (e := (6, .invokestatic 126, 0)) rfl) rfl rfl rfl rfl (zm_in (x := kd.toInt) (y := (0 : Int)) (z := (3 : Int)) (by first | exact ztl | (rw [ztl]; omega) | decide | omega) (by first | exact ztl | (rw [ztl]; omega) | decide | omega) (by first | exact ztl | (rw [ztl]; omega) | decide | omega)) (fun v1168 ph1169 hv => ?_)
  obtain ⟨rfl, rfl⟩ := hv
  show zW n D 237 Q 14 [some (.ref 170), some (.int kd), some (.int nn), some (.int ff), some (.int sp), none, none, none, none] [.int (zI (decide ((0 : Int) ≤ kd.toInt ∧ kd.toInt ≤ (3 : Int))))] ph1167
  refine w_beq (ykc_237 (e := (4, .ifCond .eq 9, 23)) rfl) rfl (fun b1170 => ?_) (fun b1170 => ?_)
  · refine w_alu (pc' := 24) (st' := [.int (Int32.ofInt (-1))]) (ykc_237 (e := (0, .iconst (-1), 0)) rfl) rfl rfl ?_
    refine w_ret (v := (some (.int (Int32.ofInt (-1))))) (ykc_237 (e := (7, .ireturn, 0)) rfl) (zr_v rfl) ?_
    have f2 : zFr [] [(170, 0)] ph _ := zFr_st u1166 (Or.inr (by simp))
    have d9 := of_decide_eq_false b1170
    have ea : zsa v P kd nn ff sp = Int32.ofInt (-1) := if_pos (by omega)
    have er : zsr v P kd nn ff sp = v := if_pos (Or.inl (by omega))
    rw [hQ]
    refine ⟨by rw [ea], ?_⟩
    rw [er]
    exact ⟨zMl_F f2 (by simp) (by simp) (by simp) (by simp) hL0, zMp_F f2 (by simp) (by simp) (by simp) hN0, zNr_F f2 (by simp) (by simp) hv, zMu_F f2 (by simp) (by simp) (by simp) hU, zMk_F f2 (by simp) (by simp) (by simp) hk, zMh_F f2 (by simp) (by simp) hh⟩
  · refine w_load (pc' := 18) (v := .int nn) (m := 1) (ykc_237 (e := (2, .iload_n kF2, 0)) rfl) rfl rfl ?_
    refine w_push (pc' := 20) (v := .int ((Int8.ofInt 8).toInt32)) (m := 2) (ykc_237 (e := (1, .bipush 8, 0)) rfl) rfl rfl ?_
    refine w_ile (ykc_237 (e := (4, .if_icmp .le 5, 25)) rfl) rfl (fun b1171 => ?_) (fun b1171 => ?_)
    · refine w_load (pc' := 26) (v := .int kd) (m := 1) (ykc_237 (e := (2, .iload_n kF1, 0)) rfl) rfl rfl ?_
      refine w_alu (pc' := 27) (st' := [.int (Int32.ofInt 3), .int kd]) (ykc_237 (e := (0, .iconst 3, 0)) rfl) rfl rfl ?_
      refine w_ieq (ykc_237 (e := (4, .if_icmp .eq 10, 37)) rfl) rfl (fun b1172 => ?_) (fun b1172 => ?_)
      · refine w_alu (pc' := 38) (st' := [.int (Int32.ofInt 0)]) (ykc_237 (e := (0, .iconst 0, 0)) rfl) rfl rfl ?_
        refine w_store (pc' := 40) (L' := [some (.ref 170), some (.int kd), some (.int nn), some (.int ff), some (.int sp), some (.int (Int32.ofInt 0)), none, none, none]) (st' := []) (m := 2) (ykc_237 (e := (3, .istore 5, 0)) rfl) rfl rfl ?_
        refine w_load (pc' := 41) (v := .int ff) (m := 1) (ykc_237 (e := (2, .iload_n kF3, 0)) rfl) rfl rfl ?_
        refine w_store (pc' := 43) (L' := [some (.ref 170), some (.int kd), some (.int nn), some (.int ff), some (.int sp), some (.int (Int32.ofInt 0)), some (.int ff), none, none]) (st' := []) (m := 2) (ykc_237 (e := (3, .istore 6, 0)) rfl) rfl rfl ?_
        refine w_alu (pc' := 44) (st' := [.int (Int32.ofInt 0)]) (ykc_237 (e := (0, .iconst 0, 0)) rfl) rfl rfl ?_
        refine w_store (pc' := 46) (L' := [some (.ref 170), some (.int kd), some (.int nn), some (.int ff), some (.int sp), some (.int (Int32.ofInt 0)), some (.int ff), some (.int (Int32.ofInt 0)), none]) (st' := []) (m := 2) (ykc_237 (e := (3, .istore 7, 0)) rfl) rfl rfl ?_
        have d9 := of_decide_eq_true b1170
        have f1 : zFr [] [(170, 0)] ph ph1167 := zFr_st u1166 (Or.inr (by simp))
        have hS1 := zSh_F f1 (by decide +kernel) hS
        have hgo : ¬ ((kd.toInt < 0 ∨ 3 < kd.toInt ∨ 8 < nn.toInt) ∨ (kd.toInt ≠ 3 ∧ nn.toInt < 0)) := by omega
        have hkd : 0 ≤ kd.toInt ∧ kd.toInt ≤ 3 ∧ nn.toInt ≤ 8 ∧ (kd.toInt = 3 ∨ 0 ≤ nn.toInt) := by omega
        have hl : ∀ (n : Nat), ∀ (k : Nat) (x8 : Option Value) (ph9 : pm_H), (k ≤ P) → (zFr [174] [] ph1167 ph9) → (∀ i, i < k → zc ph9 174 (16 + i) = some (.int (zn (zsv kd nn ff sp i)))) → (∀ j, ¬ (16 ≤ j ∧ j < 16 + k) → zc ph9 174 j = zc ph1167 174 j) → zW n D 237 Q 46 [some (.ref 170), some (.int kd), some (.int nn), some (.int ff), some (.int sp), some (.int (zBs (zsh v P kd nn ff sp) k)), some (.int (zsq ff sp k)), some (.int (zn k)), x8] [] ph9 := by
          intro n
          induction n using Nat.strongRecOn with
          | ind n ih =>
            intro k x8 ph9 hk9 hf hr ho
            have tk := znt (k := k) (by omega)
            refine w_load (pc' := 48) (v := .int (zn k)) (m := 2) (ykc_237 (e := (2, .iload 7, 0)) rfl) rfl rfl ?_
            refine w_load (pc' := 49) (v := .ref 170) (m := 1) (ykc_237 (e := (2, .aload_n kF0, 0)) rfl) rfl rfl ?_
            refine w_gf (pc' := 52) (v := .int (zn P)) (ykc_237 (e := (5, .getfield 130, 0)) rfl) rfl ((hf.1 170 5 (by decide) (by decide)).trans ((f1.1 170 5 (by decide) (by simp)).trans hN0.1)) rfl ?_
            refine w_ige (ykc_237 (e := (4, .if_icmp .ge 91, 143)) rfl) rfl (fun b1173 => ?_) (fun b1173 => ?_)
            · refine w_load (pc' := 144) (v := .int kd) (m := 1) (ykc_237 (e := (2, .iload_n kF1, 0)) rfl) rfl rfl ?_
              refine w_alu (pc' := 145) (st' := [.int (Int32.ofInt 3), .int kd]) (ykc_237 (e := (0, .iconst 3, 0)) rfl) rfl rfl ?_
              refine w_ine (ykc_237 (e := (4, .if_icmp .ne 8, 153)) rfl) rfl (fun b1174 => ?_) (fun b1174 => ?_)
              · refine w_load (pc' := 155) (v := .int (zBs (zsh v P kd nn ff sp) k)) (m := 2) (ykc_237 (e := (2, .iload 5, 0)) rfl) rfl rfl ?_
                refine w_ret (v := (some (.int (zBs (zsh v P kd nn ff sp) k)))) (ykc_237 (e := (7, .ireturn, 0)) rfl) (zr_v rfl) ?_
                have ek : P = k := by omega
                subst ek
                have f2 : zFr [174] [(170, 0)] ph ph9 := zFr_trans (zFr_mono f1 (by simp) (by simp)) (zFr_mono hf (by simp) (by simp))
                have ea : zsa v P kd nn ff sp = zBs (zsh v P kd nn ff sp) P := by
                  unfold zsa
                  rw [if_neg (by omega), if_neg (by omega), if_neg (by omega)]
                have er : zsr v P kd nn ff sp = zsh v P kd nn ff sp := if_neg hgo
                rw [hQ]
                refine ⟨by rw [ea], ?_⟩
                rw [er]
                exact ⟨zMl_F f2 (by simp) (by simp) (by simp) (by simp) hL0, zMp_F f2 (by simp) (by simp) (by simp) hN0, fun i hi => by
                  rw [Nat.zero_add]
                  by_cases e : 16 ≤ i ∧ i < 16 + P
                  · have h := hr (i - 16) (by omega)
                    rw [show 16 + (i - 16) = i by omega] at h
                    rw [show zsh v P kd nn ff sp i = zsv kd nn ff sp (i - 16) from if_pos e]
                    exact h
                  · rw [zsh_o e]
                    exact (ho i e).trans ((f1.1 174 i (by simp) (by simp)).trans (zNr0 hv hi)), zMu_F f2 (by simp) (by simp) (by simp) hU, zMk_F f2 (by simp) (by simp) (by simp) hk, zMh_F f2 (by simp) (by simp) hh⟩
              · refine w_push (pc' := 150) (v := .int ((Int8.ofInt (-3)).toInt32)) (m := 2) (ykc_237 (e := (1, .bipush (-3), 0)) rfl) rfl rfl ?_
                refine w_br (pc' := 155) (st' := [.int ((Int8.ofInt (-3)).toInt32)]) (ykc_237 (e := (4, .goto 5, 155)) rfl) rfl ?_
                refine w_ret (v := (some (.int ((Int8.ofInt (-3)).toInt32)))) (ykc_237 (e := (7, .ireturn, 0)) rfl) (zr_v rfl) ?_
                have ek : P = k := by omega
                subst ek
                have f2 : zFr [174] [(170, 0)] ph ph9 := zFr_trans (zFr_mono f1 (by simp) (by simp)) (zFr_mono hf (by simp) (by simp))
                have ea : zsa v P kd nn ff sp = (Int8.ofInt (-3)).toInt32 := by
                  unfold zsa
                  rw [if_neg (by omega), if_pos (by omega)]
                have er : zsr v P kd nn ff sp = zsh v P kd nn ff sp := if_neg hgo
                rw [hQ]
                refine ⟨by rw [ea], ?_⟩
                rw [er]
                exact ⟨zMl_F f2 (by simp) (by simp) (by simp) (by simp) hL0, zMp_F f2 (by simp) (by simp) (by simp) hN0, fun i hi => by
                  rw [Nat.zero_add]
                  by_cases e : 16 ≤ i ∧ i < 16 + P
                  · have h := hr (i - 16) (by omega)
                    rw [show 16 + (i - 16) = i by omega] at h
                    rw [show zsh v P kd nn ff sp i = zsv kd nn ff sp (i - 16) from if_pos e]
                    exact h
                  · rw [zsh_o e]
                    exact (ho i e).trans ((f1.1 174 i (by simp) (by simp)).trans (zNr0 hv hi)), zMu_F f2 (by simp) (by simp) (by simp) hU, zMk_F f2 (by simp) (by simp) (by simp) hk, zMh_F f2 (by simp) (by simp) hh⟩
            · refine w_load (pc' := 56) (v := .int kd) (m := 1) (ykc_237 (e := (2, .iload_n kF1, 0)) rfl) rfl rfl ?_
              refine w_zne (ykc_237 (e := (4, .ifCond .ne 9, 65)) rfl) rfl (fun b1175 => ?_) (fun b1175 => ?_)
              · refine w_load (pc' := 66) (v := .int kd) (m := 1) (ykc_237 (e := (2, .iload_n kF1, 0)) rfl) rfl rfl ?_
                refine w_alu (pc' := 67) (st' := [.int (Int32.ofInt 1), .int kd]) (ykc_237 (e := (0, .iconst 1, 0)) rfl) rfl rfl ?_
                refine w_ine (ykc_237 (e := (4, .if_icmp .ne 9, 76)) rfl) rfl (fun b1176 => ?_) (fun b1176 => ?_)
                · refine w_load (pc' := 78) (v := .int (zsq ff sp k)) (m := 2) (ykc_237 (e := (2, .iload 6, 0)) rfl) rfl rfl ?_
                  refine w_store (pc' := 80) (L' := [some (.ref 170), some (.int kd), some (.int nn), some (.int ff), some (.int sp), some (.int (zBs (zsh v P kd nn ff sp) k)), some (.int (zsq ff sp k)), some (.int (zn k)), some (.int (zsq ff sp k))]) (st' := []) (m := 2) (ykc_237 (e := (3, .istore 8, 0)) rfl) rfl rfl ?_
                  have e9 : zsck kd (zsq ff sp k) = zsq ff sp k := (by
                    unfold zsck
                    rw [if_neg (by omega), if_neg (by omega)])
                  refine w_load (pc' := 81) (v := .ref 170) (m := 1) (ykc_237 (e := (2, .aload_n kF0, 0)) rfl) rfl rfl ?_
                  refine w_gf (pc' := 84) (v := .ref 174) (ykc_237 (e := (5, .getfield 41, 0)) rfl) rfl ((hf.1 170 11 (by decide) (by decide)).trans (zsg hS1 zs_170_11)) rfl ?_
                  refine w_push (pc' := 86) (v := .int ((Int8.ofInt 16).toInt32)) (m := 2) (ykc_237 (e := (1, .bipush 16, 0)) rfl) rfl rfl ?_
                  refine w_load (pc' := 88) (v := .int (zn k)) (m := 2) (ykc_237 (e := (2, .iload 7, 0)) rfl) rfl rfl ?_
                  have e1177 : ((Int8.ofInt 16).toInt32) + (zn k) = zn (16 + k) := (zaddN (a := 16) (b := k) c_2 (znt (by omega)) (by omega)) 
                  have te1177 := znt (k := 16 + k) (by omega)
                  refine w_alu (pc' := 89) (st' := [.int (zn (16 + k)), .ref 174]) (ykc_237 (e := (0, .iadd, 0)) rfl) (by rw [← e1177]; rfl) rfl ?_
                  refine w_load (pc' := 90) (v := .int kd) (m := 1) (ykc_237 (e := (2, .iload_n kF1, 0)) rfl) rfl rfl ?_
                  refine w_alu (pc' := 91) (st' := [.int (Int32.ofInt 3), .int kd, .int (zn (16 + k)), .ref 174]) (ykc_237 (e := (0, .iconst 3, 0)) rfl) rfl rfl ?_
                  refine w_ieq (ykc_237 (e := (4, .if_icmp .eq 9, 100)) rfl) rfl (fun b1178 => ?_) (fun b1178 => ?_)
                  · refine w_alu (pc' := 101) (st' := [.int (Int32.ofInt 0), .int (zn (16 + k)), .ref 174]) (ykc_237 (e := (0, .iconst 0, 0)) rfl) rfl rfl ?_
                    refine w_br (pc' := 114) (st' := [.int (Int32.ofInt 0), .int (zn (16 + k)), .ref 174]) (ykc_237 (e := (4, .goto 13, 114)) rfl) rfl ?_
                    have ev : zsv kd nn ff sp k = 0 := if_pos (by omega)
                    have ez : Int32.ofInt 0 = zn (zsv kd nn ff sp k) := by
                      rw [ev]
                      rfl
                    rw [ez]
                    show zW n D 237 Q 114 [some (.ref 170), some (.int kd), some (.int nn), some (.int ff), some (.int sp), some (.int (zBs (zsh v P kd nn ff sp) k)), some (.int (zsq ff sp k)), some (.int (zn k)), some (.int (zsq ff sp k))] [.int (zn (zsv kd nn ff sp k)), .int (zn (16 + k)), .ref 174] ph9
                    refine w_ias (pc' := 115) (k := 16 + k) (ykc_237 (e := (5, .iastore, 0)) rfl) (by omega) rfl (fun ph1180 u1179 => ?_)
                    refine w_load (pc' := 117) (v := .int (zBs (zsh v P kd nn ff sp) k)) (m := 2) (ykc_237 (e := (2, .iload 5, 0)) rfl) rfl rfl ?_
                    refine w_load (pc' := 118) (v := .ref 170) (m := 1) (ykc_237 (e := (2, .aload_n kF0, 0)) rfl) rfl rfl ?_
                    refine w_gf (pc' := 121) (v := .ref 174) (ykc_237 (e := (5, .getfield 41, 0)) rfl) rfl ((u1179.2.1 170 11 (fun q => absurd q.1 (by decide))).trans ((hf.1 170 11 (by decide) (by decide)).trans (zsg hS1 zs_170_11))) rfl ?_
                    refine w_push (pc' := 123) (v := .int ((Int8.ofInt 16).toInt32)) (m := 2) (ykc_237 (e := (1, .bipush 16, 0)) rfl) rfl rfl ?_
                    refine w_load (pc' := 125) (v := .int (zn k)) (m := 2) (ykc_237 (e := (2, .iload 7, 0)) rfl) rfl rfl ?_
                    have e1181 : ((Int8.ofInt 16).toInt32) + (zn k) = zn (16 + k) := (zaddN (a := 16) (b := k) c_2 (znt (by omega)) (by omega)) 
                    have te1181 := znt (k := 16 + k) (by omega)
                    refine w_alu (pc' := 126) (st' := [.int (zn (16 + k)), .ref 174, .int (zBs (zsh v P kd nn ff sp) k)]) (ykc_237 (e := (0, .iadd, 0)) rfl) (by rw [← e1181]; rfl) rfl ?_
                    refine w_ialk (pc' := 127) (k := 16 + k) (ykc_237 (e := (5, .iaload, 0)) rfl) u1179.1 (by omega) rfl ?_
                    refine w_alu (pc' := 128) (st' := [.int ((zBs (zsh v P kd nn ff sp) k) + (zn (zsv kd nn ff sp k)))]) (ykc_237 (e := (0, .iadd, 0)) rfl) rfl rfl ?_
                    refine w_store (pc' := 130) (L' := [some (.ref 170), some (.int kd), some (.int nn), some (.int ff), some (.int sp), some (.int ((zBs (zsh v P kd nn ff sp) k) + (zn (zsv kd nn ff sp k)))), some (.int (zsq ff sp k)), some (.int (zn k)), some (.int (zsq ff sp k))]) (st' := []) (m := 2) (ykc_237 (e := (3, .istore 5, 0)) rfl) rfl rfl ?_
                    refine w_load (pc' := 132) (v := .int (zsq ff sp k)) (m := 2) (ykc_237 (e := (2, .iload 6, 0)) rfl) rfl rfl ?_
                    refine w_load (pc' := 134) (v := .int sp) (m := 2) (ykc_237 (e := (2, .iload 4, 0)) rfl) rfl rfl ?_
                    refine w_alu (pc' := 135) (st' := [.int ((zsq ff sp k) + sp)]) (ykc_237 (e := (0, .iadd, 0)) rfl) rfl rfl ?_
                    refine w_store (pc' := 137) (L' := [some (.ref 170), some (.int kd), some (.int nn), some (.int ff), some (.int sp), some (.int ((zBs (zsh v P kd nn ff sp) k) + (zn (zsv kd nn ff sp k)))), some (.int ((zsq ff sp k) + sp)), some (.int (zn k)), some (.int (zsq ff sp k))]) (st' := []) (m := 2) (ykc_237 (e := (3, .istore 6, 0)) rfl) rfl rfl ?_
                    have e1182 : (zn k) + Int32.ofInt 1 = zn (k + 1) := (zaddN (a := k) (b := 1) (znt (by omega)) c_6 (by omega))
                    have te1182 := znt (k := k + 1) (by omega)
                    refine w_store (pc' := 140) (L' := [some (.ref 170), some (.int kd), some (.int nn), some (.int ff), some (.int sp), some (.int ((zBs (zsh v P kd nn ff sp) k) + (zn (zsv kd nn ff sp k)))), some (.int ((zsq ff sp k) + sp)), some (.int (zn (k + 1))), some (.int (zsq ff sp k))]) (st' := []) (m := 3) (ykc_237 (e := (3, .iinc 7 1, 0)) rfl) (by rw [← e1182]; rfl) rfl ?_
                    refine w_gb (ykc_237 (e := (4, .goto (-94), 46)) rfl) (fun k1183 hk1183 => ?_)
                    have h9 := ih k1183 hk1183 (k + 1) (some (.int (zsq ff sp k))) _ (by omega) (zFr_add hf u1179 (Or.inl (by simp))) (fun i hi => by
                      by_cases e : i = k
                      · subst e
                        exact u1179.1
                      · exact (u1179.2.1 174 (16 + i) (fun q => e (by have q2 := q.2; omega))).trans (hr i (by omega))) (fun j hj => (u1179.2.1 174 j (fun q => by have q2 := q.2; omega)).trans (ho j (by omega)))
                    rw [show zBs (zsh v P kd nn ff sp) (k + 1) = zBs (zsh v P kd nn ff sp) k + zn (zsv kd nn ff sp k) by
                      show _ + zn (zsh v P kd nn ff sp (16 + k)) = _
                      rw [zsh_b (by omega)]] at h9
                    exact h9
                  · refine w_load (pc' := 96) (v := .int (zn k)) (m := 2) (ykc_237 (e := (2, .iload 7, 0)) rfl) rfl rfl ?_
                    refine w_load (pc' := 97) (v := .int nn) (m := 1) (ykc_237 (e := (2, .iload_n kF2, 0)) rfl) rfl rfl ?_
                    refine w_ilt (ykc_237 (e := (4, .if_icmp .lt 7, 104)) rfl) rfl (fun b1184 => ?_) (fun b1184 => ?_)
                    · refine w_alu (pc' := 105) (st' := [.int (Int32.ofInt 0), .int (zn (16 + k)), .ref 174]) (ykc_237 (e := (0, .iconst 0, 0)) rfl) rfl rfl ?_
                      refine w_alu (pc' := 106) (st' := [.int (Int32.ofInt 4), .int (Int32.ofInt 0), .int (zn (16 + k)), .ref 174]) (ykc_237 (e := (0, .iconst 4, 0)) rfl) rfl rfl ?_
                      refine w_load (pc' := 108) (v := .int (zsq ff sp k)) (m := 2) (ykc_237 (e := (2, .iload 8, 0)) rfl) rfl rfl ?_
                      obtain ⟨z1185, e_z1185⟩ : ∃ zq : Int32, (if (zsq ff sp k) < (Int32.ofInt 4) then (zsq ff sp k) else (Int32.ofInt 4)) = zq := ⟨_, rfl⟩
                      have h_z1185 := zminI e_z1185
                      refine w_mem1 (pc' := 111) (m := 3) (st' := [.int z1185, .int (Int32.ofInt 0), .int (zn (16 + k)), .ref 174]) (ph' := ph9) (ykc_237 (e := (5, .invokestatic 145, 0)) rfl) (by rw [← e_z1185]; rfl) rfl ?_
                      obtain ⟨z1186, e_z1186⟩ : ∃ zq : Int32, (if (Int32.ofInt 0) < z1185 then z1185 else (Int32.ofInt 0)) = zq := ⟨_, rfl⟩
                      have h_z1186 := zmaxI e_z1186
                      refine w_mem1 (pc' := 114) (m := 3) (st' := [.int z1186, .int (zn (16 + k)), .ref 174]) (ph' := ph9) (ykc_237 (e := (5, .invokestatic 273, 0)) rfl) (by rw [← e_z1186]; rfl) rfl ?_
                      have ev : zsv kd nn ff sp k = zq4 (zsck kd (zsq ff sp k)) := if_neg (by omega)
                      have ez : z1186 = zn (zsv kd nn ff sp k) := zn_of (by rw [ev, e9]; unfold zq4; omega)
                      rw [ez]
                      show zW n D 237 Q 114 [some (.ref 170), some (.int kd), some (.int nn), some (.int ff), some (.int sp), some (.int (zBs (zsh v P kd nn ff sp) k)), some (.int (zsq ff sp k)), some (.int (zn k)), some (.int (zsq ff sp k))] [.int (zn (zsv kd nn ff sp k)), .int (zn (16 + k)), .ref 174] ph9
                      refine w_ias (pc' := 115) (k := 16 + k) (ykc_237 (e := (5, .iastore, 0)) rfl) (by omega) rfl (fun ph1188 u1187 => ?_)
                      refine w_load (pc' := 117) (v := .int (zBs (zsh v P kd nn ff sp) k)) (m := 2) (ykc_237 (e := (2, .iload 5, 0)) rfl) rfl rfl ?_
                      refine w_load (pc' := 118) (v := .ref 170) (m := 1) (ykc_237 (e := (2, .aload_n kF0, 0)) rfl) rfl rfl ?_
                      refine w_gf (pc' := 121) (v := .ref 174) (ykc_237 (e := (5, .getfield 41, 0)) rfl) rfl ((u1187.2.1 170 11 (fun q => absurd q.1 (by decide))).trans ((hf.1 170 11 (by decide) (by decide)).trans (zsg hS1 zs_170_11))) rfl ?_
                      refine w_push (pc' := 123) (v := .int ((Int8.ofInt 16).toInt32)) (m := 2) (ykc_237 (e := (1, .bipush 16, 0)) rfl) rfl rfl ?_
                      refine w_load (pc' := 125) (v := .int (zn k)) (m := 2) (ykc_237 (e := (2, .iload 7, 0)) rfl) rfl rfl ?_
                      have e1189 : ((Int8.ofInt 16).toInt32) + (zn k) = zn (16 + k) := (zaddN (a := 16) (b := k) c_2 (znt (by omega)) (by omega)) 
                      have te1189 := znt (k := 16 + k) (by omega)
                      refine w_alu (pc' := 126) (st' := [.int (zn (16 + k)), .ref 174, .int (zBs (zsh v P kd nn ff sp) k)]) (ykc_237 (e := (0, .iadd, 0)) rfl) (by rw [← e1189]; rfl) rfl ?_
                      refine w_ialk (pc' := 127) (k := 16 + k) (ykc_237 (e := (5, .iaload, 0)) rfl) u1187.1 (by omega) rfl ?_
                      refine w_alu (pc' := 128) (st' := [.int ((zBs (zsh v P kd nn ff sp) k) + (zn (zsv kd nn ff sp k)))]) (ykc_237 (e := (0, .iadd, 0)) rfl) rfl rfl ?_
                      refine w_store (pc' := 130) (L' := [some (.ref 170), some (.int kd), some (.int nn), some (.int ff), some (.int sp), some (.int ((zBs (zsh v P kd nn ff sp) k) + (zn (zsv kd nn ff sp k)))), some (.int (zsq ff sp k)), some (.int (zn k)), some (.int (zsq ff sp k))]) (st' := []) (m := 2) (ykc_237 (e := (3, .istore 5, 0)) rfl) rfl rfl ?_
                      refine w_load (pc' := 132) (v := .int (zsq ff sp k)) (m := 2) (ykc_237 (e := (2, .iload 6, 0)) rfl) rfl rfl ?_
                      refine w_load (pc' := 134) (v := .int sp) (m := 2) (ykc_237 (e := (2, .iload 4, 0)) rfl) rfl rfl ?_
                      refine w_alu (pc' := 135) (st' := [.int ((zsq ff sp k) + sp)]) (ykc_237 (e := (0, .iadd, 0)) rfl) rfl rfl ?_
                      refine w_store (pc' := 137) (L' := [some (.ref 170), some (.int kd), some (.int nn), some (.int ff), some (.int sp), some (.int ((zBs (zsh v P kd nn ff sp) k) + (zn (zsv kd nn ff sp k)))), some (.int ((zsq ff sp k) + sp)), some (.int (zn k)), some (.int (zsq ff sp k))]) (st' := []) (m := 2) (ykc_237 (e := (3, .istore 6, 0)) rfl) rfl rfl ?_
                      have e1190 : (zn k) + Int32.ofInt 1 = zn (k + 1) := (zaddN (a := k) (b := 1) (znt (by omega)) c_6 (by omega))
                      have te1190 := znt (k := k + 1) (by omega)
                      refine w_store (pc' := 140) (L' := [some (.ref 170), some (.int kd), some (.int nn), some (.int ff), some (.int sp), some (.int ((zBs (zsh v P kd nn ff sp) k) + (zn (zsv kd nn ff sp k)))), some (.int ((zsq ff sp k) + sp)), some (.int (zn (k + 1))), some (.int (zsq ff sp k))]) (st' := []) (m := 3) (ykc_237 (e := (3, .iinc 7 1, 0)) rfl) (by rw [← e1190]; rfl) rfl ?_
                      refine w_gb (ykc_237 (e := (4, .goto (-94), 46)) rfl) (fun k1191 hk1191 => ?_)
                      have h9 := ih k1191 hk1191 (k + 1) (some (.int (zsq ff sp k))) _ (by omega) (zFr_add hf u1187 (Or.inl (by simp))) (fun i hi => by
                        by_cases e : i = k
                        · subst e
                          exact u1187.1
                        · exact (u1187.2.1 174 (16 + i) (fun q => e (by have q2 := q.2; omega))).trans (hr i (by omega))) (fun j hj => (u1187.2.1 174 j (fun q => by have q2 := q.2; omega)).trans (ho j (by omega)))
                      rw [show zBs (zsh v P kd nn ff sp) (k + 1) = zBs (zsh v P kd nn ff sp) k + zn (zsv kd nn ff sp k) by
                        show _ + zn (zsh v P kd nn ff sp (16 + k)) = _
                        rw [zsh_b (by omega)]] at h9
                      exact h9
                    · refine w_alu (pc' := 101) (st' := [.int (Int32.ofInt 0), .int (zn (16 + k)), .ref 174]) (ykc_237 (e := (0, .iconst 0, 0)) rfl) rfl rfl ?_
                      refine w_br (pc' := 114) (st' := [.int (Int32.ofInt 0), .int (zn (16 + k)), .ref 174]) (ykc_237 (e := (4, .goto 13, 114)) rfl) rfl ?_
                      have ev : zsv kd nn ff sp k = 0 := if_pos (by omega)
                      have ez : Int32.ofInt 0 = zn (zsv kd nn ff sp k) := by
                        rw [ev]
                        rfl
                      rw [ez]
                      show zW n D 237 Q 114 [some (.ref 170), some (.int kd), some (.int nn), some (.int ff), some (.int sp), some (.int (zBs (zsh v P kd nn ff sp) k)), some (.int (zsq ff sp k)), some (.int (zn k)), some (.int (zsq ff sp k))] [.int (zn (zsv kd nn ff sp k)), .int (zn (16 + k)), .ref 174] ph9
                      refine w_ias (pc' := 115) (k := 16 + k) (ykc_237 (e := (5, .iastore, 0)) rfl) (by omega) rfl (fun ph1193 u1192 => ?_)
                      refine w_load (pc' := 117) (v := .int (zBs (zsh v P kd nn ff sp) k)) (m := 2) (ykc_237 (e := (2, .iload 5, 0)) rfl) rfl rfl ?_
                      refine w_load (pc' := 118) (v := .ref 170) (m := 1) (ykc_237 (e := (2, .aload_n kF0, 0)) rfl) rfl rfl ?_
                      refine w_gf (pc' := 121) (v := .ref 174) (ykc_237 (e := (5, .getfield 41, 0)) rfl) rfl ((u1192.2.1 170 11 (fun q => absurd q.1 (by decide))).trans ((hf.1 170 11 (by decide) (by decide)).trans (zsg hS1 zs_170_11))) rfl ?_
                      refine w_push (pc' := 123) (v := .int ((Int8.ofInt 16).toInt32)) (m := 2) (ykc_237 (e := (1, .bipush 16, 0)) rfl) rfl rfl ?_
                      refine w_load (pc' := 125) (v := .int (zn k)) (m := 2) (ykc_237 (e := (2, .iload 7, 0)) rfl) rfl rfl ?_
                      have e1194 : ((Int8.ofInt 16).toInt32) + (zn k) = zn (16 + k) := (zaddN (a := 16) (b := k) c_2 (znt (by omega)) (by omega)) 
                      have te1194 := znt (k := 16 + k) (by omega)
                      refine w_alu (pc' := 126) (st' := [.int (zn (16 + k)), .ref 174, .int (zBs (zsh v P kd nn ff sp) k)]) (ykc_237 (e := (0, .iadd, 0)) rfl) (by rw [← e1194]; rfl) rfl ?_
                      refine w_ialk (pc' := 127) (k := 16 + k) (ykc_237 (e := (5, .iaload, 0)) rfl) u1192.1 (by omega) rfl ?_
                      refine w_alu (pc' := 128) (st' := [.int ((zBs (zsh v P kd nn ff sp) k) + (zn (zsv kd nn ff sp k)))]) (ykc_237 (e := (0, .iadd, 0)) rfl) rfl rfl ?_
                      refine w_store (pc' := 130) (L' := [some (.ref 170), some (.int kd), some (.int nn), some (.int ff), some (.int sp), some (.int ((zBs (zsh v P kd nn ff sp) k) + (zn (zsv kd nn ff sp k)))), some (.int (zsq ff sp k)), some (.int (zn k)), some (.int (zsq ff sp k))]) (st' := []) (m := 2) (ykc_237 (e := (3, .istore 5, 0)) rfl) rfl rfl ?_
                      refine w_load (pc' := 132) (v := .int (zsq ff sp k)) (m := 2) (ykc_237 (e := (2, .iload 6, 0)) rfl) rfl rfl ?_
                      refine w_load (pc' := 134) (v := .int sp) (m := 2) (ykc_237 (e := (2, .iload 4, 0)) rfl) rfl rfl ?_
                      refine w_alu (pc' := 135) (st' := [.int ((zsq ff sp k) + sp)]) (ykc_237 (e := (0, .iadd, 0)) rfl) rfl rfl ?_
                      refine w_store (pc' := 137) (L' := [some (.ref 170), some (.int kd), some (.int nn), some (.int ff), some (.int sp), some (.int ((zBs (zsh v P kd nn ff sp) k) + (zn (zsv kd nn ff sp k)))), some (.int ((zsq ff sp k) + sp)), some (.int (zn k)), some (.int (zsq ff sp k))]) (st' := []) (m := 2) (ykc_237 (e := (3, .istore 6, 0)) rfl) rfl rfl ?_
                      have e1195 : (zn k) + Int32.ofInt 1 = zn (k + 1) := (zaddN (a := k) (b := 1) (znt (by omega)) c_6 (by omega))
                      have te1195 := znt (k := k + 1) (by omega)
                      refine w_store (pc' := 140) (L' := [some (.ref 170), some (.int kd), some (.int nn), some (.int ff), some (.int sp), some (.int ((zBs (zsh v P kd nn ff sp) k) + (zn (zsv kd nn ff sp k)))), some (.int ((zsq ff sp k) + sp)), some (.int (zn (k + 1))), some (.int (zsq ff sp k))]) (st' := []) (m := 3) (ykc_237 (e := (3, .iinc 7 1, 0)) rfl) (by rw [← e1195]; rfl) rfl ?_
                      refine w_gb (ykc_237 (e := (4, .goto (-94), 46)) rfl) (fun k1196 hk1196 => ?_)
                      have h9 := ih k1196 hk1196 (k + 1) (some (.int (zsq ff sp k))) _ (by omega) (zFr_add hf u1192 (Or.inl (by simp))) (fun i hi => by
                        by_cases e : i = k
                        · subst e
                          exact u1192.1
                        · exact (u1192.2.1 174 (16 + i) (fun q => e (by have q2 := q.2; omega))).trans (hr i (by omega))) (fun j hj => (u1192.2.1 174 j (fun q => by have q2 := q.2; omega)).trans (ho j (by omega)))
                      rw [show zBs (zsh v P kd nn ff sp) (k + 1) = zBs (zsh v P kd nn ff sp) k + zn (zsv kd nn ff sp k) by
                        show _ + zn (zsh v P kd nn ff sp (16 + k)) = _
                        rw [zsh_b (by omega)]] at h9
                      exact h9
                · refine w_load (pc' := 72) (v := .int (zsq ff sp k)) (m := 2) (ykc_237 (e := (2, .iload 6, 0)) rfl) rfl rfl ?_
                  obtain ⟨z1197, e_z1197, h_z1197⟩ : ∃ zq : Int32, (zsq ff sp k).toInt16.toInt32 = zq ∧ zq.toInt = ((zsq ff sp k).toInt16.toInt32).toInt := ⟨_, rfl, rfl⟩
                  refine w_alu (pc' := 73) (st' := [.int z1197]) (ykc_237 (e := (0, .i2s, 0)) rfl) (by rw [← e_z1197]; rfl) rfl ?_
                  refine w_br (pc' := 78) (st' := [.int z1197]) (ykc_237 (e := (4, .goto 5, 78)) rfl) rfl ?_
                  refine w_store (pc' := 80) (L' := [some (.ref 170), some (.int kd), some (.int nn), some (.int ff), some (.int sp), some (.int (zBs (zsh v P kd nn ff sp) k)), some (.int (zsq ff sp k)), some (.int (zn k)), some (.int z1197)]) (st' := []) (m := 2) (ykc_237 (e := (3, .istore 8, 0)) rfl) rfl rfl ?_
                  have e9 : zsck kd (zsq ff sp k) = (zsq ff sp k).toInt16.toInt32 := (by
                    unfold zsck
                    rw [if_neg (by omega), if_pos (by omega)])
                  refine w_load (pc' := 81) (v := .ref 170) (m := 1) (ykc_237 (e := (2, .aload_n kF0, 0)) rfl) rfl rfl ?_
                  refine w_gf (pc' := 84) (v := .ref 174) (ykc_237 (e := (5, .getfield 41, 0)) rfl) rfl ((hf.1 170 11 (by decide) (by decide)).trans (zsg hS1 zs_170_11)) rfl ?_
                  refine w_push (pc' := 86) (v := .int ((Int8.ofInt 16).toInt32)) (m := 2) (ykc_237 (e := (1, .bipush 16, 0)) rfl) rfl rfl ?_
                  refine w_load (pc' := 88) (v := .int (zn k)) (m := 2) (ykc_237 (e := (2, .iload 7, 0)) rfl) rfl rfl ?_
                  have e1198 : ((Int8.ofInt 16).toInt32) + (zn k) = zn (16 + k) := (zaddN (a := 16) (b := k) c_2 (znt (by omega)) (by omega)) 
                  have te1198 := znt (k := 16 + k) (by omega)
                  refine w_alu (pc' := 89) (st' := [.int (zn (16 + k)), .ref 174]) (ykc_237 (e := (0, .iadd, 0)) rfl) (by rw [← e1198]; rfl) rfl ?_
                  refine w_load (pc' := 90) (v := .int kd) (m := 1) (ykc_237 (e := (2, .iload_n kF1, 0)) rfl) rfl rfl ?_
                  refine w_alu (pc' := 91) (st' := [.int (Int32.ofInt 3), .int kd, .int (zn (16 + k)), .ref 174]) (ykc_237 (e := (0, .iconst 3, 0)) rfl) rfl rfl ?_
                  refine w_ieq (ykc_237 (e := (4, .if_icmp .eq 9, 100)) rfl) rfl (fun b1199 => ?_) (fun b1199 => ?_)
                  · refine w_alu (pc' := 101) (st' := [.int (Int32.ofInt 0), .int (zn (16 + k)), .ref 174]) (ykc_237 (e := (0, .iconst 0, 0)) rfl) rfl rfl ?_
                    refine w_br (pc' := 114) (st' := [.int (Int32.ofInt 0), .int (zn (16 + k)), .ref 174]) (ykc_237 (e := (4, .goto 13, 114)) rfl) rfl ?_
                    have ev : zsv kd nn ff sp k = 0 := if_pos (by omega)
                    have ez : Int32.ofInt 0 = zn (zsv kd nn ff sp k) := by
                      rw [ev]
                      rfl
                    rw [ez]
                    show zW n D 237 Q 114 [some (.ref 170), some (.int kd), some (.int nn), some (.int ff), some (.int sp), some (.int (zBs (zsh v P kd nn ff sp) k)), some (.int (zsq ff sp k)), some (.int (zn k)), some (.int z1197)] [.int (zn (zsv kd nn ff sp k)), .int (zn (16 + k)), .ref 174] ph9
                    refine w_ias (pc' := 115) (k := 16 + k) (ykc_237 (e := (5, .iastore, 0)) rfl) (by omega) rfl (fun ph1201 u1200 => ?_)
                    refine w_load (pc' := 117) (v := .int (zBs (zsh v P kd nn ff sp) k)) (m := 2) (ykc_237 (e := (2, .iload 5, 0)) rfl) rfl rfl ?_
                    refine w_load (pc' := 118) (v := .ref 170) (m := 1) (ykc_237 (e := (2, .aload_n kF0, 0)) rfl) rfl rfl ?_
                    refine w_gf (pc' := 121) (v := .ref 174) (ykc_237 (e := (5, .getfield 41, 0)) rfl) rfl ((u1200.2.1 170 11 (fun q => absurd q.1 (by decide))).trans ((hf.1 170 11 (by decide) (by decide)).trans (zsg hS1 zs_170_11))) rfl ?_
                    refine w_push (pc' := 123) (v := .int ((Int8.ofInt 16).toInt32)) (m := 2) (ykc_237 (e := (1, .bipush 16, 0)) rfl) rfl rfl ?_
                    refine w_load (pc' := 125) (v := .int (zn k)) (m := 2) (ykc_237 (e := (2, .iload 7, 0)) rfl) rfl rfl ?_
                    have e1202 : ((Int8.ofInt 16).toInt32) + (zn k) = zn (16 + k) := (zaddN (a := 16) (b := k) c_2 (znt (by omega)) (by omega)) 
                    have te1202 := znt (k := 16 + k) (by omega)
                    refine w_alu (pc' := 126) (st' := [.int (zn (16 + k)), .ref 174, .int (zBs (zsh v P kd nn ff sp) k)]) (ykc_237 (e := (0, .iadd, 0)) rfl) (by rw [← e1202]; rfl) rfl ?_
                    refine w_ialk (pc' := 127) (k := 16 + k) (ykc_237 (e := (5, .iaload, 0)) rfl) u1200.1 (by omega) rfl ?_
                    refine w_alu (pc' := 128) (st' := [.int ((zBs (zsh v P kd nn ff sp) k) + (zn (zsv kd nn ff sp k)))]) (ykc_237 (e := (0, .iadd, 0)) rfl) rfl rfl ?_
                    refine w_store (pc' := 130) (L' := [some (.ref 170), some (.int kd), some (.int nn), some (.int ff), some (.int sp), some (.int ((zBs (zsh v P kd nn ff sp) k) + (zn (zsv kd nn ff sp k)))), some (.int (zsq ff sp k)), some (.int (zn k)), some (.int z1197)]) (st' := []) (m := 2) (ykc_237 (e := (3, .istore 5, 0)) rfl) rfl rfl ?_
                    refine w_load (pc' := 132) (v := .int (zsq ff sp k)) (m := 2) (ykc_237 (e := (2, .iload 6, 0)) rfl) rfl rfl ?_
                    refine w_load (pc' := 134) (v := .int sp) (m := 2) (ykc_237 (e := (2, .iload 4, 0)) rfl) rfl rfl ?_
                    refine w_alu (pc' := 135) (st' := [.int ((zsq ff sp k) + sp)]) (ykc_237 (e := (0, .iadd, 0)) rfl) rfl rfl ?_
                    refine w_store (pc' := 137) (L' := [some (.ref 170), some (.int kd), some (.int nn), some (.int ff), some (.int sp), some (.int ((zBs (zsh v P kd nn ff sp) k) + (zn (zsv kd nn ff sp k)))), some (.int ((zsq ff sp k) + sp)), some (.int (zn k)), some (.int z1197)]) (st' := []) (m := 2) (ykc_237 (e := (3, .istore 6, 0)) rfl) rfl rfl ?_
                    have e1203 : (zn k) + Int32.ofInt 1 = zn (k + 1) := (zaddN (a := k) (b := 1) (znt (by omega)) c_6 (by omega))
                    have te1203 := znt (k := k + 1) (by omega)
                    refine w_store (pc' := 140) (L' := [some (.ref 170), some (.int kd), some (.int nn), some (.int ff), some (.int sp), some (.int ((zBs (zsh v P kd nn ff sp) k) + (zn (zsv kd nn ff sp k)))), some (.int ((zsq ff sp k) + sp)), some (.int (zn (k + 1))), some (.int z1197)]) (st' := []) (m := 3) (ykc_237 (e := (3, .iinc 7 1, 0)) rfl) (by rw [← e1203]; rfl) rfl ?_
                    refine w_gb (ykc_237 (e := (4, .goto (-94), 46)) rfl) (fun k1204 hk1204 => ?_)
                    have h9 := ih k1204 hk1204 (k + 1) (some (.int z1197)) _ (by omega) (zFr_add hf u1200 (Or.inl (by simp))) (fun i hi => by
                      by_cases e : i = k
                      · subst e
                        exact u1200.1
                      · exact (u1200.2.1 174 (16 + i) (fun q => e (by have q2 := q.2; omega))).trans (hr i (by omega))) (fun j hj => (u1200.2.1 174 j (fun q => by have q2 := q.2; omega)).trans (ho j (by omega)))
                    rw [show zBs (zsh v P kd nn ff sp) (k + 1) = zBs (zsh v P kd nn ff sp) k + zn (zsv kd nn ff sp k) by
                      show _ + zn (zsh v P kd nn ff sp (16 + k)) = _
                      rw [zsh_b (by omega)]] at h9
                    exact h9
                  · refine w_load (pc' := 96) (v := .int (zn k)) (m := 2) (ykc_237 (e := (2, .iload 7, 0)) rfl) rfl rfl ?_
                    refine w_load (pc' := 97) (v := .int nn) (m := 1) (ykc_237 (e := (2, .iload_n kF2, 0)) rfl) rfl rfl ?_
                    refine w_ilt (ykc_237 (e := (4, .if_icmp .lt 7, 104)) rfl) rfl (fun b1205 => ?_) (fun b1205 => ?_)
                    · refine w_alu (pc' := 105) (st' := [.int (Int32.ofInt 0), .int (zn (16 + k)), .ref 174]) (ykc_237 (e := (0, .iconst 0, 0)) rfl) rfl rfl ?_
                      refine w_alu (pc' := 106) (st' := [.int (Int32.ofInt 4), .int (Int32.ofInt 0), .int (zn (16 + k)), .ref 174]) (ykc_237 (e := (0, .iconst 4, 0)) rfl) rfl rfl ?_
                      refine w_load (pc' := 108) (v := .int z1197) (m := 2) (ykc_237 (e := (2, .iload 8, 0)) rfl) rfl rfl ?_
                      obtain ⟨z1206, e_z1206⟩ : ∃ zq : Int32, (if z1197 < (Int32.ofInt 4) then z1197 else (Int32.ofInt 4)) = zq := ⟨_, rfl⟩
                      have h_z1206 := zminI e_z1206
                      refine w_mem1 (pc' := 111) (m := 3) (st' := [.int z1206, .int (Int32.ofInt 0), .int (zn (16 + k)), .ref 174]) (ph' := ph9) (ykc_237 (e := (5, .invokestatic 145, 0)) rfl) (by rw [← e_z1206]; rfl) rfl ?_
                      obtain ⟨z1207, e_z1207⟩ : ∃ zq : Int32, (if (Int32.ofInt 0) < z1206 then z1206 else (Int32.ofInt 0)) = zq := ⟨_, rfl⟩
                      have h_z1207 := zmaxI e_z1207
                      refine w_mem1 (pc' := 114) (m := 3) (st' := [.int z1207, .int (zn (16 + k)), .ref 174]) (ph' := ph9) (ykc_237 (e := (5, .invokestatic 273, 0)) rfl) (by rw [← e_z1207]; rfl) rfl ?_
                      have ev : zsv kd nn ff sp k = zq4 (zsck kd (zsq ff sp k)) := if_neg (by omega)
                      have ez : z1207 = zn (zsv kd nn ff sp k) := zn_of (by rw [ev, e9]; unfold zq4; omega)
                      rw [ez]
                      show zW n D 237 Q 114 [some (.ref 170), some (.int kd), some (.int nn), some (.int ff), some (.int sp), some (.int (zBs (zsh v P kd nn ff sp) k)), some (.int (zsq ff sp k)), some (.int (zn k)), some (.int z1197)] [.int (zn (zsv kd nn ff sp k)), .int (zn (16 + k)), .ref 174] ph9
                      refine w_ias (pc' := 115) (k := 16 + k) (ykc_237 (e := (5, .iastore, 0)) rfl) (by omega) rfl (fun ph1209 u1208 => ?_)
                      refine w_load (pc' := 117) (v := .int (zBs (zsh v P kd nn ff sp) k)) (m := 2) (ykc_237 (e := (2, .iload 5, 0)) rfl) rfl rfl ?_
                      refine w_load (pc' := 118) (v := .ref 170) (m := 1) (ykc_237 (e := (2, .aload_n kF0, 0)) rfl) rfl rfl ?_
                      refine w_gf (pc' := 121) (v := .ref 174) (ykc_237 (e := (5, .getfield 41, 0)) rfl) rfl ((u1208.2.1 170 11 (fun q => absurd q.1 (by decide))).trans ((hf.1 170 11 (by decide) (by decide)).trans (zsg hS1 zs_170_11))) rfl ?_
                      refine w_push (pc' := 123) (v := .int ((Int8.ofInt 16).toInt32)) (m := 2) (ykc_237 (e := (1, .bipush 16, 0)) rfl) rfl rfl ?_
                      refine w_load (pc' := 125) (v := .int (zn k)) (m := 2) (ykc_237 (e := (2, .iload 7, 0)) rfl) rfl rfl ?_
                      have e1210 : ((Int8.ofInt 16).toInt32) + (zn k) = zn (16 + k) := (zaddN (a := 16) (b := k) c_2 (znt (by omega)) (by omega)) 
                      have te1210 := znt (k := 16 + k) (by omega)
                      refine w_alu (pc' := 126) (st' := [.int (zn (16 + k)), .ref 174, .int (zBs (zsh v P kd nn ff sp) k)]) (ykc_237 (e := (0, .iadd, 0)) rfl) (by rw [← e1210]; rfl) rfl ?_
                      refine w_ialk (pc' := 127) (k := 16 + k) (ykc_237 (e := (5, .iaload, 0)) rfl) u1208.1 (by omega) rfl ?_
                      refine w_alu (pc' := 128) (st' := [.int ((zBs (zsh v P kd nn ff sp) k) + (zn (zsv kd nn ff sp k)))]) (ykc_237 (e := (0, .iadd, 0)) rfl) rfl rfl ?_
                      refine w_store (pc' := 130) (L' := [some (.ref 170), some (.int kd), some (.int nn), some (.int ff), some (.int sp), some (.int ((zBs (zsh v P kd nn ff sp) k) + (zn (zsv kd nn ff sp k)))), some (.int (zsq ff sp k)), some (.int (zn k)), some (.int z1197)]) (st' := []) (m := 2) (ykc_237 (e := (3, .istore 5, 0)) rfl) rfl rfl ?_
                      refine w_load (pc' := 132) (v := .int (zsq ff sp k)) (m := 2) (ykc_237 (e := (2, .iload 6, 0)) rfl) rfl rfl ?_
                      refine w_load (pc' := 134) (v := .int sp) (m := 2) (ykc_237 (e := (2, .iload 4, 0)) rfl) rfl rfl ?_
                      refine w_alu (pc' := 135) (st' := [.int ((zsq ff sp k) + sp)]) (ykc_237 (e := (0, .iadd, 0)) rfl) rfl rfl ?_
                      refine w_store (pc' := 137) (L' := [some (.ref 170), some (.int kd), some (.int nn), some (.int ff), some (.int sp), some (.int ((zBs (zsh v P kd nn ff sp) k) + (zn (zsv kd nn ff sp k)))), some (.int ((zsq ff sp k) + sp)), some (.int (zn k)), some (.int z1197)]) (st' := []) (m := 2) (ykc_237 (e := (3, .istore 6, 0)) rfl) rfl rfl ?_
                      have e1211 : (zn k) + Int32.ofInt 1 = zn (k + 1) := (zaddN (a := k) (b := 1) (znt (by omega)) c_6 (by omega))
                      have te1211 := znt (k := k + 1) (by omega)
                      refine w_store (pc' := 140) (L' := [some (.ref 170), some (.int kd), some (.int nn), some (.int ff), some (.int sp), some (.int ((zBs (zsh v P kd nn ff sp) k) + (zn (zsv kd nn ff sp k)))), some (.int ((zsq ff sp k) + sp)), some (.int (zn (k + 1))), some (.int z1197)]) (st' := []) (m := 3) (ykc_237 (e := (3, .iinc 7 1, 0)) rfl) (by rw [← e1211]; rfl) rfl ?_
                      refine w_gb (ykc_237 (e := (4, .goto (-94), 46)) rfl) (fun k1212 hk1212 => ?_)
                      have h9 := ih k1212 hk1212 (k + 1) (some (.int z1197)) _ (by omega) (zFr_add hf u1208 (Or.inl (by simp))) (fun i hi => by
                        by_cases e : i = k
                        · subst e
                          exact u1208.1
                        · exact (u1208.2.1 174 (16 + i) (fun q => e (by have q2 := q.2; omega))).trans (hr i (by omega))) (fun j hj => (u1208.2.1 174 j (fun q => by have q2 := q.2; omega)).trans (ho j (by omega)))
                      rw [show zBs (zsh v P kd nn ff sp) (k + 1) = zBs (zsh v P kd nn ff sp) k + zn (zsv kd nn ff sp k) by
                        show _ + zn (zsh v P kd nn ff sp (16 + k)) = _
                        rw [zsh_b (by omega)]] at h9
                      exact h9
                    · refine w_alu (pc' := 101) (st' := [.int (Int32.ofInt 0), .int (zn (16 + k)), .ref 174]) (ykc_237 (e := (0, .iconst 0, 0)) rfl) rfl rfl ?_
                      refine w_br (pc' := 114) (st' := [.int (Int32.ofInt 0), .int (zn (16 + k)), .ref 174]) (ykc_237 (e := (4, .goto 13, 114)) rfl) rfl ?_
                      have ev : zsv kd nn ff sp k = 0 := if_pos (by omega)
                      have ez : Int32.ofInt 0 = zn (zsv kd nn ff sp k) := by
                        rw [ev]
                        rfl
                      rw [ez]
                      show zW n D 237 Q 114 [some (.ref 170), some (.int kd), some (.int nn), some (.int ff), some (.int sp), some (.int (zBs (zsh v P kd nn ff sp) k)), some (.int (zsq ff sp k)), some (.int (zn k)), some (.int z1197)] [.int (zn (zsv kd nn ff sp k)), .int (zn (16 + k)), .ref 174] ph9
                      refine w_ias (pc' := 115) (k := 16 + k) (ykc_237 (e := (5, .iastore, 0)) rfl) (by omega) rfl (fun ph1214 u1213 => ?_)
                      refine w_load (pc' := 117) (v := .int (zBs (zsh v P kd nn ff sp) k)) (m := 2) (ykc_237 (e := (2, .iload 5, 0)) rfl) rfl rfl ?_
                      refine w_load (pc' := 118) (v := .ref 170) (m := 1) (ykc_237 (e := (2, .aload_n kF0, 0)) rfl) rfl rfl ?_
                      refine w_gf (pc' := 121) (v := .ref 174) (ykc_237 (e := (5, .getfield 41, 0)) rfl) rfl ((u1213.2.1 170 11 (fun q => absurd q.1 (by decide))).trans ((hf.1 170 11 (by decide) (by decide)).trans (zsg hS1 zs_170_11))) rfl ?_
                      refine w_push (pc' := 123) (v := .int ((Int8.ofInt 16).toInt32)) (m := 2) (ykc_237 (e := (1, .bipush 16, 0)) rfl) rfl rfl ?_
                      refine w_load (pc' := 125) (v := .int (zn k)) (m := 2) (ykc_237 (e := (2, .iload 7, 0)) rfl) rfl rfl ?_
                      have e1215 : ((Int8.ofInt 16).toInt32) + (zn k) = zn (16 + k) := (zaddN (a := 16) (b := k) c_2 (znt (by omega)) (by omega)) 
                      have te1215 := znt (k := 16 + k) (by omega)
                      refine w_alu (pc' := 126) (st' := [.int (zn (16 + k)), .ref 174, .int (zBs (zsh v P kd nn ff sp) k)]) (ykc_237 (e := (0, .iadd, 0)) rfl) (by rw [← e1215]; rfl) rfl ?_
                      refine w_ialk (pc' := 127) (k := 16 + k) (ykc_237 (e := (5, .iaload, 0)) rfl) u1213.1 (by omega) rfl ?_
                      refine w_alu (pc' := 128) (st' := [.int ((zBs (zsh v P kd nn ff sp) k) + (zn (zsv kd nn ff sp k)))]) (ykc_237 (e := (0, .iadd, 0)) rfl) rfl rfl ?_
                      refine w_store (pc' := 130) (L' := [some (.ref 170), some (.int kd), some (.int nn), some (.int ff), some (.int sp), some (.int ((zBs (zsh v P kd nn ff sp) k) + (zn (zsv kd nn ff sp k)))), some (.int (zsq ff sp k)), some (.int (zn k)), some (.int z1197)]) (st' := []) (m := 2) (ykc_237 (e := (3, .istore 5, 0)) rfl) rfl rfl ?_
                      refine w_load (pc' := 132) (v := .int (zsq ff sp k)) (m := 2) (ykc_237 (e := (2, .iload 6, 0)) rfl) rfl rfl ?_
                      refine w_load (pc' := 134) (v := .int sp) (m := 2) (ykc_237 (e := (2, .iload 4, 0)) rfl) rfl rfl ?_
                      refine w_alu (pc' := 135) (st' := [.int ((zsq ff sp k) + sp)]) (ykc_237 (e := (0, .iadd, 0)) rfl) rfl rfl ?_
                      refine w_store (pc' := 137) (L' := [some (.ref 170), some (.int kd), some (.int nn), some (.int ff), some (.int sp), some (.int ((zBs (zsh v P kd nn ff sp) k) + (zn (zsv kd nn ff sp k)))), some (.int ((zsq ff sp k) + sp)), some (.int (zn k)), some (.int z1197)]) (st' := []) (m := 2) (ykc_237 (e := (3, .istore 6, 0)) rfl) rfl rfl ?_
                      have e1216 : (zn k) + Int32.ofInt 1 = zn (k + 1) := (zaddN (a := k) (b := 1) (znt (by omega)) c_6 (by omega))
                      have te1216 := znt (k := k + 1) (by omega)
                      refine w_store (pc' := 140) (L' := [some (.ref 170), some (.int kd), some (.int nn), some (.int ff), some (.int sp), some (.int ((zBs (zsh v P kd nn ff sp) k) + (zn (zsv kd nn ff sp k)))), some (.int ((zsq ff sp k) + sp)), some (.int (zn (k + 1))), some (.int z1197)]) (st' := []) (m := 3) (ykc_237 (e := (3, .iinc 7 1, 0)) rfl) (by rw [← e1216]; rfl) rfl ?_
                      refine w_gb (ykc_237 (e := (4, .goto (-94), 46)) rfl) (fun k1217 hk1217 => ?_)
                      have h9 := ih k1217 hk1217 (k + 1) (some (.int z1197)) _ (by omega) (zFr_add hf u1213 (Or.inl (by simp))) (fun i hi => by
                        by_cases e : i = k
                        · subst e
                          exact u1213.1
                        · exact (u1213.2.1 174 (16 + i) (fun q => e (by have q2 := q.2; omega))).trans (hr i (by omega))) (fun j hj => (u1213.2.1 174 j (fun q => by have q2 := q.2; omega)).trans (ho j (by omega)))
                      rw [show zBs (zsh v P kd nn ff sp) (k + 1) = zBs (zsh v P kd nn ff sp) k + zn (zsv kd nn ff sp k) by
                        show _ + zn (zsh v P kd nn ff sp (16 + k)) = _
                        rw [zsh_b (by omega)]] at h9
                      exact h9
              · refine w_load (pc' := 61) (v := .int (zsq ff sp k)) (m := 2) (ykc_237 (e := (2, .iload 6, 0)) rfl) rfl rfl ?_
                obtain ⟨z1218, e_z1218, h_z1218⟩ : ∃ zq : Int32, (zsq ff sp k).toInt8.toInt32 = zq ∧ zq.toInt = ((zsq ff sp k).toInt8.toInt32).toInt := ⟨_, rfl, rfl⟩
                refine w_alu (pc' := 62) (st' := [.int z1218]) (ykc_237 (e := (0, .i2b, 0)) rfl) (by rw [← e_z1218]; rfl) rfl ?_
                refine w_br (pc' := 78) (st' := [.int z1218]) (ykc_237 (e := (4, .goto 16, 78)) rfl) rfl ?_
                refine w_store (pc' := 80) (L' := [some (.ref 170), some (.int kd), some (.int nn), some (.int ff), some (.int sp), some (.int (zBs (zsh v P kd nn ff sp) k)), some (.int (zsq ff sp k)), some (.int (zn k)), some (.int z1218)]) (st' := []) (m := 2) (ykc_237 (e := (3, .istore 8, 0)) rfl) rfl rfl ?_
                have e9 : zsck kd (zsq ff sp k) = (zsq ff sp k).toInt8.toInt32 := if_pos (by omega)
                refine w_load (pc' := 81) (v := .ref 170) (m := 1) (ykc_237 (e := (2, .aload_n kF0, 0)) rfl) rfl rfl ?_
                refine w_gf (pc' := 84) (v := .ref 174) (ykc_237 (e := (5, .getfield 41, 0)) rfl) rfl ((hf.1 170 11 (by decide) (by decide)).trans (zsg hS1 zs_170_11)) rfl ?_
                refine w_push (pc' := 86) (v := .int ((Int8.ofInt 16).toInt32)) (m := 2) (ykc_237 (e := (1, .bipush 16, 0)) rfl) rfl rfl ?_
                refine w_load (pc' := 88) (v := .int (zn k)) (m := 2) (ykc_237 (e := (2, .iload 7, 0)) rfl) rfl rfl ?_
                have e1219 : ((Int8.ofInt 16).toInt32) + (zn k) = zn (16 + k) := (zaddN (a := 16) (b := k) c_2 (znt (by omega)) (by omega)) 
                have te1219 := znt (k := 16 + k) (by omega)
                refine w_alu (pc' := 89) (st' := [.int (zn (16 + k)), .ref 174]) (ykc_237 (e := (0, .iadd, 0)) rfl) (by rw [← e1219]; rfl) rfl ?_
                refine w_load (pc' := 90) (v := .int kd) (m := 1) (ykc_237 (e := (2, .iload_n kF1, 0)) rfl) rfl rfl ?_
                refine w_alu (pc' := 91) (st' := [.int (Int32.ofInt 3), .int kd, .int (zn (16 + k)), .ref 174]) (ykc_237 (e := (0, .iconst 3, 0)) rfl) rfl rfl ?_
                refine w_ieq (ykc_237 (e := (4, .if_icmp .eq 9, 100)) rfl) rfl (fun b1220 => ?_) (fun b1220 => ?_)
                · refine w_alu (pc' := 101) (st' := [.int (Int32.ofInt 0), .int (zn (16 + k)), .ref 174]) (ykc_237 (e := (0, .iconst 0, 0)) rfl) rfl rfl ?_
                  refine w_br (pc' := 114) (st' := [.int (Int32.ofInt 0), .int (zn (16 + k)), .ref 174]) (ykc_237 (e := (4, .goto 13, 114)) rfl) rfl ?_
                  have ev : zsv kd nn ff sp k = 0 := if_pos (by omega)
                  have ez : Int32.ofInt 0 = zn (zsv kd nn ff sp k) := by
                    rw [ev]
                    rfl
                  rw [ez]
                  show zW n D 237 Q 114 [some (.ref 170), some (.int kd), some (.int nn), some (.int ff), some (.int sp), some (.int (zBs (zsh v P kd nn ff sp) k)), some (.int (zsq ff sp k)), some (.int (zn k)), some (.int z1218)] [.int (zn (zsv kd nn ff sp k)), .int (zn (16 + k)), .ref 174] ph9
                  refine w_ias (pc' := 115) (k := 16 + k) (ykc_237 (e := (5, .iastore, 0)) rfl) (by omega) rfl (fun ph1222 u1221 => ?_)
                  refine w_load (pc' := 117) (v := .int (zBs (zsh v P kd nn ff sp) k)) (m := 2) (ykc_237 (e := (2, .iload 5, 0)) rfl) rfl rfl ?_
                  refine w_load (pc' := 118) (v := .ref 170) (m := 1) (ykc_237 (e := (2, .aload_n kF0, 0)) rfl) rfl rfl ?_
                  refine w_gf (pc' := 121) (v := .ref 174) (ykc_237 (e := (5, .getfield 41, 0)) rfl) rfl ((u1221.2.1 170 11 (fun q => absurd q.1 (by decide))).trans ((hf.1 170 11 (by decide) (by decide)).trans (zsg hS1 zs_170_11))) rfl ?_
                  refine w_push (pc' := 123) (v := .int ((Int8.ofInt 16).toInt32)) (m := 2) (ykc_237 (e := (1, .bipush 16, 0)) rfl) rfl rfl ?_
                  refine w_load (pc' := 125) (v := .int (zn k)) (m := 2) (ykc_237 (e := (2, .iload 7, 0)) rfl) rfl rfl ?_
                  have e1223 : ((Int8.ofInt 16).toInt32) + (zn k) = zn (16 + k) := (zaddN (a := 16) (b := k) c_2 (znt (by omega)) (by omega)) 
                  have te1223 := znt (k := 16 + k) (by omega)
                  refine w_alu (pc' := 126) (st' := [.int (zn (16 + k)), .ref 174, .int (zBs (zsh v P kd nn ff sp) k)]) (ykc_237 (e := (0, .iadd, 0)) rfl) (by rw [← e1223]; rfl) rfl ?_
                  refine w_ialk (pc' := 127) (k := 16 + k) (ykc_237 (e := (5, .iaload, 0)) rfl) u1221.1 (by omega) rfl ?_
                  refine w_alu (pc' := 128) (st' := [.int ((zBs (zsh v P kd nn ff sp) k) + (zn (zsv kd nn ff sp k)))]) (ykc_237 (e := (0, .iadd, 0)) rfl) rfl rfl ?_
                  refine w_store (pc' := 130) (L' := [some (.ref 170), some (.int kd), some (.int nn), some (.int ff), some (.int sp), some (.int ((zBs (zsh v P kd nn ff sp) k) + (zn (zsv kd nn ff sp k)))), some (.int (zsq ff sp k)), some (.int (zn k)), some (.int z1218)]) (st' := []) (m := 2) (ykc_237 (e := (3, .istore 5, 0)) rfl) rfl rfl ?_
                  refine w_load (pc' := 132) (v := .int (zsq ff sp k)) (m := 2) (ykc_237 (e := (2, .iload 6, 0)) rfl) rfl rfl ?_
                  refine w_load (pc' := 134) (v := .int sp) (m := 2) (ykc_237 (e := (2, .iload 4, 0)) rfl) rfl rfl ?_
                  refine w_alu (pc' := 135) (st' := [.int ((zsq ff sp k) + sp)]) (ykc_237 (e := (0, .iadd, 0)) rfl) rfl rfl ?_
                  refine w_store (pc' := 137) (L' := [some (.ref 170), some (.int kd), some (.int nn), some (.int ff), some (.int sp), some (.int ((zBs (zsh v P kd nn ff sp) k) + (zn (zsv kd nn ff sp k)))), some (.int ((zsq ff sp k) + sp)), some (.int (zn k)), some (.int z1218)]) (st' := []) (m := 2) (ykc_237 (e := (3, .istore 6, 0)) rfl) rfl rfl ?_
                  have e1224 : (zn k) + Int32.ofInt 1 = zn (k + 1) := (zaddN (a := k) (b := 1) (znt (by omega)) c_6 (by omega))
                  have te1224 := znt (k := k + 1) (by omega)
                  refine w_store (pc' := 140) (L' := [some (.ref 170), some (.int kd), some (.int nn), some (.int ff), some (.int sp), some (.int ((zBs (zsh v P kd nn ff sp) k) + (zn (zsv kd nn ff sp k)))), some (.int ((zsq ff sp k) + sp)), some (.int (zn (k + 1))), some (.int z1218)]) (st' := []) (m := 3) (ykc_237 (e := (3, .iinc 7 1, 0)) rfl) (by rw [← e1224]; rfl) rfl ?_
                  refine w_gb (ykc_237 (e := (4, .goto (-94), 46)) rfl) (fun k1225 hk1225 => ?_)
                  have h9 := ih k1225 hk1225 (k + 1) (some (.int z1218)) _ (by omega) (zFr_add hf u1221 (Or.inl (by simp))) (fun i hi => by
                    by_cases e : i = k
                    · subst e
                      exact u1221.1
                    · exact (u1221.2.1 174 (16 + i) (fun q => e (by have q2 := q.2; omega))).trans (hr i (by omega))) (fun j hj => (u1221.2.1 174 j (fun q => by have q2 := q.2; omega)).trans (ho j (by omega)))
                  rw [show zBs (zsh v P kd nn ff sp) (k + 1) = zBs (zsh v P kd nn ff sp) k + zn (zsv kd nn ff sp k) by
                    show _ + zn (zsh v P kd nn ff sp (16 + k)) = _
                    rw [zsh_b (by omega)]] at h9
                  exact h9
                · refine w_load (pc' := 96) (v := .int (zn k)) (m := 2) (ykc_237 (e := (2, .iload 7, 0)) rfl) rfl rfl ?_
                  refine w_load (pc' := 97) (v := .int nn) (m := 1) (ykc_237 (e := (2, .iload_n kF2, 0)) rfl) rfl rfl ?_
                  refine w_ilt (ykc_237 (e := (4, .if_icmp .lt 7, 104)) rfl) rfl (fun b1226 => ?_) (fun b1226 => ?_)
                  · refine w_alu (pc' := 105) (st' := [.int (Int32.ofInt 0), .int (zn (16 + k)), .ref 174]) (ykc_237 (e := (0, .iconst 0, 0)) rfl) rfl rfl ?_
                    refine w_alu (pc' := 106) (st' := [.int (Int32.ofInt 4), .int (Int32.ofInt 0), .int (zn (16 + k)), .ref 174]) (ykc_237 (e := (0, .iconst 4, 0)) rfl) rfl rfl ?_
                    refine w_load (pc' := 108) (v := .int z1218) (m := 2) (ykc_237 (e := (2, .iload 8, 0)) rfl) rfl rfl ?_
                    obtain ⟨z1227, e_z1227⟩ : ∃ zq : Int32, (if z1218 < (Int32.ofInt 4) then z1218 else (Int32.ofInt 4)) = zq := ⟨_, rfl⟩
                    have h_z1227 := zminI e_z1227
                    refine w_mem1 (pc' := 111) (m := 3) (st' := [.int z1227, .int (Int32.ofInt 0), .int (zn (16 + k)), .ref 174]) (ph' := ph9) (ykc_237 (e := (5, .invokestatic 145, 0)) rfl) (by rw [← e_z1227]; rfl) rfl ?_
                    obtain ⟨z1228, e_z1228⟩ : ∃ zq : Int32, (if (Int32.ofInt 0) < z1227 then z1227 else (Int32.ofInt 0)) = zq := ⟨_, rfl⟩
                    have h_z1228 := zmaxI e_z1228
                    refine w_mem1 (pc' := 114) (m := 3) (st' := [.int z1228, .int (zn (16 + k)), .ref 174]) (ph' := ph9) (ykc_237 (e := (5, .invokestatic 273, 0)) rfl) (by rw [← e_z1228]; rfl) rfl ?_
                    have ev : zsv kd nn ff sp k = zq4 (zsck kd (zsq ff sp k)) := if_neg (by omega)
                    have ez : z1228 = zn (zsv kd nn ff sp k) := zn_of (by rw [ev, e9]; unfold zq4; omega)
                    rw [ez]
                    show zW n D 237 Q 114 [some (.ref 170), some (.int kd), some (.int nn), some (.int ff), some (.int sp), some (.int (zBs (zsh v P kd nn ff sp) k)), some (.int (zsq ff sp k)), some (.int (zn k)), some (.int z1218)] [.int (zn (zsv kd nn ff sp k)), .int (zn (16 + k)), .ref 174] ph9
                    refine w_ias (pc' := 115) (k := 16 + k) (ykc_237 (e := (5, .iastore, 0)) rfl) (by omega) rfl (fun ph1230 u1229 => ?_)
                    refine w_load (pc' := 117) (v := .int (zBs (zsh v P kd nn ff sp) k)) (m := 2) (ykc_237 (e := (2, .iload 5, 0)) rfl) rfl rfl ?_
                    refine w_load (pc' := 118) (v := .ref 170) (m := 1) (ykc_237 (e := (2, .aload_n kF0, 0)) rfl) rfl rfl ?_
                    refine w_gf (pc' := 121) (v := .ref 174) (ykc_237 (e := (5, .getfield 41, 0)) rfl) rfl ((u1229.2.1 170 11 (fun q => absurd q.1 (by decide))).trans ((hf.1 170 11 (by decide) (by decide)).trans (zsg hS1 zs_170_11))) rfl ?_
                    refine w_push (pc' := 123) (v := .int ((Int8.ofInt 16).toInt32)) (m := 2) (ykc_237 (e := (1, .bipush 16, 0)) rfl) rfl rfl ?_
                    refine w_load (pc' := 125) (v := .int (zn k)) (m := 2) (ykc_237 (e := (2, .iload 7, 0)) rfl) rfl rfl ?_
                    have e1231 : ((Int8.ofInt 16).toInt32) + (zn k) = zn (16 + k) := (zaddN (a := 16) (b := k) c_2 (znt (by omega)) (by omega)) 
                    have te1231 := znt (k := 16 + k) (by omega)
                    refine w_alu (pc' := 126) (st' := [.int (zn (16 + k)), .ref 174, .int (zBs (zsh v P kd nn ff sp) k)]) (ykc_237 (e := (0, .iadd, 0)) rfl) (by rw [← e1231]; rfl) rfl ?_
                    refine w_ialk (pc' := 127) (k := 16 + k) (ykc_237 (e := (5, .iaload, 0)) rfl) u1229.1 (by omega) rfl ?_
                    refine w_alu (pc' := 128) (st' := [.int ((zBs (zsh v P kd nn ff sp) k) + (zn (zsv kd nn ff sp k)))]) (ykc_237 (e := (0, .iadd, 0)) rfl) rfl rfl ?_
                    refine w_store (pc' := 130) (L' := [some (.ref 170), some (.int kd), some (.int nn), some (.int ff), some (.int sp), some (.int ((zBs (zsh v P kd nn ff sp) k) + (zn (zsv kd nn ff sp k)))), some (.int (zsq ff sp k)), some (.int (zn k)), some (.int z1218)]) (st' := []) (m := 2) (ykc_237 (e := (3, .istore 5, 0)) rfl) rfl rfl ?_
                    refine w_load (pc' := 132) (v := .int (zsq ff sp k)) (m := 2) (ykc_237 (e := (2, .iload 6, 0)) rfl) rfl rfl ?_
                    refine w_load (pc' := 134) (v := .int sp) (m := 2) (ykc_237 (e := (2, .iload 4, 0)) rfl) rfl rfl ?_
                    refine w_alu (pc' := 135) (st' := [.int ((zsq ff sp k) + sp)]) (ykc_237 (e := (0, .iadd, 0)) rfl) rfl rfl ?_
                    refine w_store (pc' := 137) (L' := [some (.ref 170), some (.int kd), some (.int nn), some (.int ff), some (.int sp), some (.int ((zBs (zsh v P kd nn ff sp) k) + (zn (zsv kd nn ff sp k)))), some (.int ((zsq ff sp k) + sp)), some (.int (zn k)), some (.int z1218)]) (st' := []) (m := 2) (ykc_237 (e := (3, .istore 6, 0)) rfl) rfl rfl ?_
                    have e1232 : (zn k) + Int32.ofInt 1 = zn (k + 1) := (zaddN (a := k) (b := 1) (znt (by omega)) c_6 (by omega))
                    have te1232 := znt (k := k + 1) (by omega)
                    refine w_store (pc' := 140) (L' := [some (.ref 170), some (.int kd), some (.int nn), some (.int ff), some (.int sp), some (.int ((zBs (zsh v P kd nn ff sp) k) + (zn (zsv kd nn ff sp k)))), some (.int ((zsq ff sp k) + sp)), some (.int (zn (k + 1))), some (.int z1218)]) (st' := []) (m := 3) (ykc_237 (e := (3, .iinc 7 1, 0)) rfl) (by rw [← e1232]; rfl) rfl ?_
                    refine w_gb (ykc_237 (e := (4, .goto (-94), 46)) rfl) (fun k1233 hk1233 => ?_)
                    have h9 := ih k1233 hk1233 (k + 1) (some (.int z1218)) _ (by omega) (zFr_add hf u1229 (Or.inl (by simp))) (fun i hi => by
                      by_cases e : i = k
                      · subst e
                        exact u1229.1
                      · exact (u1229.2.1 174 (16 + i) (fun q => e (by have q2 := q.2; omega))).trans (hr i (by omega))) (fun j hj => (u1229.2.1 174 j (fun q => by have q2 := q.2; omega)).trans (ho j (by omega)))
                    rw [show zBs (zsh v P kd nn ff sp) (k + 1) = zBs (zsh v P kd nn ff sp) k + zn (zsv kd nn ff sp k) by
                      show _ + zn (zsh v P kd nn ff sp (16 + k)) = _
                      rw [zsh_b (by omega)]] at h9
                    exact h9
                  · refine w_alu (pc' := 101) (st' := [.int (Int32.ofInt 0), .int (zn (16 + k)), .ref 174]) (ykc_237 (e := (0, .iconst 0, 0)) rfl) rfl rfl ?_
                    refine w_br (pc' := 114) (st' := [.int (Int32.ofInt 0), .int (zn (16 + k)), .ref 174]) (ykc_237 (e := (4, .goto 13, 114)) rfl) rfl ?_
                    have ev : zsv kd nn ff sp k = 0 := if_pos (by omega)
                    have ez : Int32.ofInt 0 = zn (zsv kd nn ff sp k) := by
                      rw [ev]
                      rfl
                    rw [ez]
                    show zW n D 237 Q 114 [some (.ref 170), some (.int kd), some (.int nn), some (.int ff), some (.int sp), some (.int (zBs (zsh v P kd nn ff sp) k)), some (.int (zsq ff sp k)), some (.int (zn k)), some (.int z1218)] [.int (zn (zsv kd nn ff sp k)), .int (zn (16 + k)), .ref 174] ph9
                    refine w_ias (pc' := 115) (k := 16 + k) (ykc_237 (e := (5, .iastore, 0)) rfl) (by omega) rfl (fun ph1235 u1234 => ?_)
                    refine w_load (pc' := 117) (v := .int (zBs (zsh v P kd nn ff sp) k)) (m := 2) (ykc_237 (e := (2, .iload 5, 0)) rfl) rfl rfl ?_
                    refine w_load (pc' := 118) (v := .ref 170) (m := 1) (ykc_237 (e := (2, .aload_n kF0, 0)) rfl) rfl rfl ?_
                    refine w_gf (pc' := 121) (v := .ref 174) (ykc_237 (e := (5, .getfield 41, 0)) rfl) rfl ((u1234.2.1 170 11 (fun q => absurd q.1 (by decide))).trans ((hf.1 170 11 (by decide) (by decide)).trans (zsg hS1 zs_170_11))) rfl ?_
                    refine w_push (pc' := 123) (v := .int ((Int8.ofInt 16).toInt32)) (m := 2) (ykc_237 (e := (1, .bipush 16, 0)) rfl) rfl rfl ?_
                    refine w_load (pc' := 125) (v := .int (zn k)) (m := 2) (ykc_237 (e := (2, .iload 7, 0)) rfl) rfl rfl ?_
                    have e1236 : ((Int8.ofInt 16).toInt32) + (zn k) = zn (16 + k) := (zaddN (a := 16) (b := k) c_2 (znt (by omega)) (by omega)) 
                    have te1236 := znt (k := 16 + k) (by omega)
                    refine w_alu (pc' := 126) (st' := [.int (zn (16 + k)), .ref 174, .int (zBs (zsh v P kd nn ff sp) k)]) (ykc_237 (e := (0, .iadd, 0)) rfl) (by rw [← e1236]; rfl) rfl ?_
                    refine w_ialk (pc' := 127) (k := 16 + k) (ykc_237 (e := (5, .iaload, 0)) rfl) u1234.1 (by omega) rfl ?_
                    refine w_alu (pc' := 128) (st' := [.int ((zBs (zsh v P kd nn ff sp) k) + (zn (zsv kd nn ff sp k)))]) (ykc_237 (e := (0, .iadd, 0)) rfl) rfl rfl ?_
                    refine w_store (pc' := 130) (L' := [some (.ref 170), some (.int kd), some (.int nn), some (.int ff), some (.int sp), some (.int ((zBs (zsh v P kd nn ff sp) k) + (zn (zsv kd nn ff sp k)))), some (.int (zsq ff sp k)), some (.int (zn k)), some (.int z1218)]) (st' := []) (m := 2) (ykc_237 (e := (3, .istore 5, 0)) rfl) rfl rfl ?_
                    refine w_load (pc' := 132) (v := .int (zsq ff sp k)) (m := 2) (ykc_237 (e := (2, .iload 6, 0)) rfl) rfl rfl ?_
                    refine w_load (pc' := 134) (v := .int sp) (m := 2) (ykc_237 (e := (2, .iload 4, 0)) rfl) rfl rfl ?_
                    refine w_alu (pc' := 135) (st' := [.int ((zsq ff sp k) + sp)]) (ykc_237 (e := (0, .iadd, 0)) rfl) rfl rfl ?_
                    refine w_store (pc' := 137) (L' := [some (.ref 170), some (.int kd), some (.int nn), some (.int ff), some (.int sp), some (.int ((zBs (zsh v P kd nn ff sp) k) + (zn (zsv kd nn ff sp k)))), some (.int ((zsq ff sp k) + sp)), some (.int (zn k)), some (.int z1218)]) (st' := []) (m := 2) (ykc_237 (e := (3, .istore 6, 0)) rfl) rfl rfl ?_
                    have e1237 : (zn k) + Int32.ofInt 1 = zn (k + 1) := (zaddN (a := k) (b := 1) (znt (by omega)) c_6 (by omega))
                    have te1237 := znt (k := k + 1) (by omega)
                    refine w_store (pc' := 140) (L' := [some (.ref 170), some (.int kd), some (.int nn), some (.int ff), some (.int sp), some (.int ((zBs (zsh v P kd nn ff sp) k) + (zn (zsv kd nn ff sp k)))), some (.int ((zsq ff sp k) + sp)), some (.int (zn (k + 1))), some (.int z1218)]) (st' := []) (m := 3) (ykc_237 (e := (3, .iinc 7 1, 0)) rfl) (by rw [← e1237]; rfl) rfl ?_
                    refine w_gb (ykc_237 (e := (4, .goto (-94), 46)) rfl) (fun k1238 hk1238 => ?_)
                    have h9 := ih k1238 hk1238 (k + 1) (some (.int z1218)) _ (by omega) (zFr_add hf u1234 (Or.inl (by simp))) (fun i hi => by
                      by_cases e : i = k
                      · subst e
                        exact u1234.1
                      · exact (u1234.2.1 174 (16 + i) (fun q => e (by have q2 := q.2; omega))).trans (hr i (by omega))) (fun j hj => (u1234.2.1 174 j (fun q => by have q2 := q.2; omega)).trans (ho j (by omega)))
                    rw [show zBs (zsh v P kd nn ff sp) (k + 1) = zBs (zsh v P kd nn ff sp) k + zn (zsv kd nn ff sp k) by
                      show _ + zn (zsh v P kd nn ff sp (16 + k)) = _
                      rw [zsh_b (by omega)]] at h9
                    exact h9
        exact hl n 0 _ ph1167 (Nat.zero_le _) zFr_refl (fun i hi => absurd hi (Nat.not_lt_zero i)) (fun j _ => rfl)
      · refine w_load (pc' := 31) (v := .int nn) (m := 1) (ykc_237 (e := (2, .iload_n kF2, 0)) rfl) rfl rfl ?_
        refine w_zge (ykc_237 (e := (4, .ifCond .ge 6, 37)) rfl) rfl (fun b1239 => ?_) (fun b1239 => ?_)
        · refine w_alu (pc' := 38) (st' := [.int (Int32.ofInt 0)]) (ykc_237 (e := (0, .iconst 0, 0)) rfl) rfl rfl ?_
          refine w_store (pc' := 40) (L' := [some (.ref 170), some (.int kd), some (.int nn), some (.int ff), some (.int sp), some (.int (Int32.ofInt 0)), none, none, none]) (st' := []) (m := 2) (ykc_237 (e := (3, .istore 5, 0)) rfl) rfl rfl ?_
          refine w_load (pc' := 41) (v := .int ff) (m := 1) (ykc_237 (e := (2, .iload_n kF3, 0)) rfl) rfl rfl ?_
          refine w_store (pc' := 43) (L' := [some (.ref 170), some (.int kd), some (.int nn), some (.int ff), some (.int sp), some (.int (Int32.ofInt 0)), some (.int ff), none, none]) (st' := []) (m := 2) (ykc_237 (e := (3, .istore 6, 0)) rfl) rfl rfl ?_
          refine w_alu (pc' := 44) (st' := [.int (Int32.ofInt 0)]) (ykc_237 (e := (0, .iconst 0, 0)) rfl) rfl rfl ?_
          refine w_store (pc' := 46) (L' := [some (.ref 170), some (.int kd), some (.int nn), some (.int ff), some (.int sp), some (.int (Int32.ofInt 0)), some (.int ff), some (.int (Int32.ofInt 0)), none]) (st' := []) (m := 2) (ykc_237 (e := (3, .istore 7, 0)) rfl) rfl rfl ?_
          have d9 := of_decide_eq_true b1170
          have f1 : zFr [] [(170, 0)] ph ph1167 := zFr_st u1166 (Or.inr (by simp))
          have hS1 := zSh_F f1 (by decide +kernel) hS
          have hgo : ¬ ((kd.toInt < 0 ∨ 3 < kd.toInt ∨ 8 < nn.toInt) ∨ (kd.toInt ≠ 3 ∧ nn.toInt < 0)) := by omega
          have hkd : 0 ≤ kd.toInt ∧ kd.toInt ≤ 3 ∧ nn.toInt ≤ 8 ∧ (kd.toInt = 3 ∨ 0 ≤ nn.toInt) := by omega
          have hl : ∀ (n : Nat), ∀ (k : Nat) (x8 : Option Value) (ph9 : pm_H), (k ≤ P) → (zFr [174] [] ph1167 ph9) → (∀ i, i < k → zc ph9 174 (16 + i) = some (.int (zn (zsv kd nn ff sp i)))) → (∀ j, ¬ (16 ≤ j ∧ j < 16 + k) → zc ph9 174 j = zc ph1167 174 j) → zW n D 237 Q 46 [some (.ref 170), some (.int kd), some (.int nn), some (.int ff), some (.int sp), some (.int (zBs (zsh v P kd nn ff sp) k)), some (.int (zsq ff sp k)), some (.int (zn k)), x8] [] ph9 := by
            intro n
            induction n using Nat.strongRecOn with
            | ind n ih =>
              intro k x8 ph9 hk9 hf hr ho
              have tk := znt (k := k) (by omega)
              refine w_load (pc' := 48) (v := .int (zn k)) (m := 2) (ykc_237 (e := (2, .iload 7, 0)) rfl) rfl rfl ?_
              refine w_load (pc' := 49) (v := .ref 170) (m := 1) (ykc_237 (e := (2, .aload_n kF0, 0)) rfl) rfl rfl ?_
              refine w_gf (pc' := 52) (v := .int (zn P)) (ykc_237 (e := (5, .getfield 130, 0)) rfl) rfl ((hf.1 170 5 (by decide) (by decide)).trans ((f1.1 170 5 (by decide) (by simp)).trans hN0.1)) rfl ?_
              refine w_ige (ykc_237 (e := (4, .if_icmp .ge 91, 143)) rfl) rfl (fun b1240 => ?_) (fun b1240 => ?_)
              · refine w_load (pc' := 144) (v := .int kd) (m := 1) (ykc_237 (e := (2, .iload_n kF1, 0)) rfl) rfl rfl ?_
                refine w_alu (pc' := 145) (st' := [.int (Int32.ofInt 3), .int kd]) (ykc_237 (e := (0, .iconst 3, 0)) rfl) rfl rfl ?_
                refine w_ine (ykc_237 (e := (4, .if_icmp .ne 8, 153)) rfl) rfl (fun b1241 => ?_) (fun b1241 => ?_)
                · refine w_load (pc' := 155) (v := .int (zBs (zsh v P kd nn ff sp) k)) (m := 2) (ykc_237 (e := (2, .iload 5, 0)) rfl) rfl rfl ?_
                  refine w_ret (v := (some (.int (zBs (zsh v P kd nn ff sp) k)))) (ykc_237 (e := (7, .ireturn, 0)) rfl) (zr_v rfl) ?_
                  have ek : P = k := by omega
                  subst ek
                  have f2 : zFr [174] [(170, 0)] ph ph9 := zFr_trans (zFr_mono f1 (by simp) (by simp)) (zFr_mono hf (by simp) (by simp))
                  have ea : zsa v P kd nn ff sp = zBs (zsh v P kd nn ff sp) P := by
                    unfold zsa
                    rw [if_neg (by omega), if_neg (by omega), if_neg (by omega)]
                  have er : zsr v P kd nn ff sp = zsh v P kd nn ff sp := if_neg hgo
                  rw [hQ]
                  refine ⟨by rw [ea], ?_⟩
                  rw [er]
                  exact ⟨zMl_F f2 (by simp) (by simp) (by simp) (by simp) hL0, zMp_F f2 (by simp) (by simp) (by simp) hN0, fun i hi => by
                    rw [Nat.zero_add]
                    by_cases e : 16 ≤ i ∧ i < 16 + P
                    · have h := hr (i - 16) (by omega)
                      rw [show 16 + (i - 16) = i by omega] at h
                      rw [show zsh v P kd nn ff sp i = zsv kd nn ff sp (i - 16) from if_pos e]
                      exact h
                    · rw [zsh_o e]
                      exact (ho i e).trans ((f1.1 174 i (by simp) (by simp)).trans (zNr0 hv hi)), zMu_F f2 (by simp) (by simp) (by simp) hU, zMk_F f2 (by simp) (by simp) (by simp) hk, zMh_F f2 (by simp) (by simp) hh⟩
                · refine w_push (pc' := 150) (v := .int ((Int8.ofInt (-3)).toInt32)) (m := 2) (ykc_237 (e := (1, .bipush (-3), 0)) rfl) rfl rfl ?_
                  refine w_br (pc' := 155) (st' := [.int ((Int8.ofInt (-3)).toInt32)]) (ykc_237 (e := (4, .goto 5, 155)) rfl) rfl ?_
                  refine w_ret (v := (some (.int ((Int8.ofInt (-3)).toInt32)))) (ykc_237 (e := (7, .ireturn, 0)) rfl) (zr_v rfl) ?_
                  have ek : P = k := by omega
                  subst ek
                  have f2 : zFr [174] [(170, 0)] ph ph9 := zFr_trans (zFr_mono f1 (by simp) (by simp)) (zFr_mono hf (by simp) (by simp))
                  have ea : zsa v P kd nn ff sp = (Int8.ofInt (-3)).toInt32 := by
                    unfold zsa
                    rw [if_neg (by omega), if_pos (by omega)]
                  have er : zsr v P kd nn ff sp = zsh v P kd nn ff sp := if_neg hgo
                  rw [hQ]
                  refine ⟨by rw [ea], ?_⟩
                  rw [er]
                  exact ⟨zMl_F f2 (by simp) (by simp) (by simp) (by simp) hL0, zMp_F f2 (by simp) (by simp) (by simp) hN0, fun i hi => by
                    rw [Nat.zero_add]
                    by_cases e : 16 ≤ i ∧ i < 16 + P
                    · have h := hr (i - 16) (by omega)
                      rw [show 16 + (i - 16) = i by omega] at h
                      rw [show zsh v P kd nn ff sp i = zsv kd nn ff sp (i - 16) from if_pos e]
                      exact h
                    · rw [zsh_o e]
                      exact (ho i e).trans ((f1.1 174 i (by simp) (by simp)).trans (zNr0 hv hi)), zMu_F f2 (by simp) (by simp) (by simp) hU, zMk_F f2 (by simp) (by simp) (by simp) hk, zMh_F f2 (by simp) (by simp) hh⟩
              · refine w_load (pc' := 56) (v := .int kd) (m := 1) (ykc_237 (e := (2, .iload_n kF1, 0)) rfl) rfl rfl ?_
                refine w_zne (ykc_237 (e := (4, .ifCond .ne 9, 65)) rfl) rfl (fun b1242 => ?_) (fun b1242 => ?_)
                · refine w_load (pc' := 66) (v := .int kd) (m := 1) (ykc_237 (e := (2, .iload_n kF1, 0)) rfl) rfl rfl ?_
                  refine w_alu (pc' := 67) (st' := [.int (Int32.ofInt 1), .int kd]) (ykc_237 (e := (0, .iconst 1, 0)) rfl) rfl rfl ?_
                  refine w_ine (ykc_237 (e := (4, .if_icmp .ne 9, 76)) rfl) rfl (fun b1243 => ?_) (fun b1243 => ?_)
                  · refine w_load (pc' := 78) (v := .int (zsq ff sp k)) (m := 2) (ykc_237 (e := (2, .iload 6, 0)) rfl) rfl rfl ?_
                    refine w_store (pc' := 80) (L' := [some (.ref 170), some (.int kd), some (.int nn), some (.int ff), some (.int sp), some (.int (zBs (zsh v P kd nn ff sp) k)), some (.int (zsq ff sp k)), some (.int (zn k)), some (.int (zsq ff sp k))]) (st' := []) (m := 2) (ykc_237 (e := (3, .istore 8, 0)) rfl) rfl rfl ?_
                    have e9 : zsck kd (zsq ff sp k) = zsq ff sp k := (by
                      unfold zsck
                      rw [if_neg (by omega), if_neg (by omega)])
                    refine w_load (pc' := 81) (v := .ref 170) (m := 1) (ykc_237 (e := (2, .aload_n kF0, 0)) rfl) rfl rfl ?_
                    refine w_gf (pc' := 84) (v := .ref 174) (ykc_237 (e := (5, .getfield 41, 0)) rfl) rfl ((hf.1 170 11 (by decide) (by decide)).trans (zsg hS1 zs_170_11)) rfl ?_
                    refine w_push (pc' := 86) (v := .int ((Int8.ofInt 16).toInt32)) (m := 2) (ykc_237 (e := (1, .bipush 16, 0)) rfl) rfl rfl ?_
                    refine w_load (pc' := 88) (v := .int (zn k)) (m := 2) (ykc_237 (e := (2, .iload 7, 0)) rfl) rfl rfl ?_
                    have e1244 : ((Int8.ofInt 16).toInt32) + (zn k) = zn (16 + k) := (zaddN (a := 16) (b := k) c_2 (znt (by omega)) (by omega)) 
                    have te1244 := znt (k := 16 + k) (by omega)
                    refine w_alu (pc' := 89) (st' := [.int (zn (16 + k)), .ref 174]) (ykc_237 (e := (0, .iadd, 0)) rfl) (by rw [← e1244]; rfl) rfl ?_
                    refine w_load (pc' := 90) (v := .int kd) (m := 1) (ykc_237 (e := (2, .iload_n kF1, 0)) rfl) rfl rfl ?_
                    refine w_alu (pc' := 91) (st' := [.int (Int32.ofInt 3), .int kd, .int (zn (16 + k)), .ref 174]) (ykc_237 (e := (0, .iconst 3, 0)) rfl) rfl rfl ?_
                    refine w_ieq (ykc_237 (e := (4, .if_icmp .eq 9, 100)) rfl) rfl (fun b1245 => ?_) (fun b1245 => ?_)
                    · refine w_alu (pc' := 101) (st' := [.int (Int32.ofInt 0), .int (zn (16 + k)), .ref 174]) (ykc_237 (e := (0, .iconst 0, 0)) rfl) rfl rfl ?_
                      refine w_br (pc' := 114) (st' := [.int (Int32.ofInt 0), .int (zn (16 + k)), .ref 174]) (ykc_237 (e := (4, .goto 13, 114)) rfl) rfl ?_
                      have ev : zsv kd nn ff sp k = 0 := if_pos (by omega)
                      have ez : Int32.ofInt 0 = zn (zsv kd nn ff sp k) := by
                        rw [ev]
                        rfl
                      rw [ez]
                      show zW n D 237 Q 114 [some (.ref 170), some (.int kd), some (.int nn), some (.int ff), some (.int sp), some (.int (zBs (zsh v P kd nn ff sp) k)), some (.int (zsq ff sp k)), some (.int (zn k)), some (.int (zsq ff sp k))] [.int (zn (zsv kd nn ff sp k)), .int (zn (16 + k)), .ref 174] ph9
                      refine w_ias (pc' := 115) (k := 16 + k) (ykc_237 (e := (5, .iastore, 0)) rfl) (by omega) rfl (fun ph1247 u1246 => ?_)
                      refine w_load (pc' := 117) (v := .int (zBs (zsh v P kd nn ff sp) k)) (m := 2) (ykc_237 (e := (2, .iload 5, 0)) rfl) rfl rfl ?_
                      refine w_load (pc' := 118) (v := .ref 170) (m := 1) (ykc_237 (e := (2, .aload_n kF0, 0)) rfl) rfl rfl ?_
                      refine w_gf (pc' := 121) (v := .ref 174) (ykc_237 (e := (5, .getfield 41, 0)) rfl) rfl ((u1246.2.1 170 11 (fun q => absurd q.1 (by decide))).trans ((hf.1 170 11 (by decide) (by decide)).trans (zsg hS1 zs_170_11))) rfl ?_
                      refine w_push (pc' := 123) (v := .int ((Int8.ofInt 16).toInt32)) (m := 2) (ykc_237 (e := (1, .bipush 16, 0)) rfl) rfl rfl ?_
                      refine w_load (pc' := 125) (v := .int (zn k)) (m := 2) (ykc_237 (e := (2, .iload 7, 0)) rfl) rfl rfl ?_
                      have e1248 : ((Int8.ofInt 16).toInt32) + (zn k) = zn (16 + k) := (zaddN (a := 16) (b := k) c_2 (znt (by omega)) (by omega)) 
                      have te1248 := znt (k := 16 + k) (by omega)
                      refine w_alu (pc' := 126) (st' := [.int (zn (16 + k)), .ref 174, .int (zBs (zsh v P kd nn ff sp) k)]) (ykc_237 (e := (0, .iadd, 0)) rfl) (by rw [← e1248]; rfl) rfl ?_
                      refine w_ialk (pc' := 127) (k := 16 + k) (ykc_237 (e := (5, .iaload, 0)) rfl) u1246.1 (by omega) rfl ?_
                      refine w_alu (pc' := 128) (st' := [.int ((zBs (zsh v P kd nn ff sp) k) + (zn (zsv kd nn ff sp k)))]) (ykc_237 (e := (0, .iadd, 0)) rfl) rfl rfl ?_
                      refine w_store (pc' := 130) (L' := [some (.ref 170), some (.int kd), some (.int nn), some (.int ff), some (.int sp), some (.int ((zBs (zsh v P kd nn ff sp) k) + (zn (zsv kd nn ff sp k)))), some (.int (zsq ff sp k)), some (.int (zn k)), some (.int (zsq ff sp k))]) (st' := []) (m := 2) (ykc_237 (e := (3, .istore 5, 0)) rfl) rfl rfl ?_
                      refine w_load (pc' := 132) (v := .int (zsq ff sp k)) (m := 2) (ykc_237 (e := (2, .iload 6, 0)) rfl) rfl rfl ?_
                      refine w_load (pc' := 134) (v := .int sp) (m := 2) (ykc_237 (e := (2, .iload 4, 0)) rfl) rfl rfl ?_
                      refine w_alu (pc' := 135) (st' := [.int ((zsq ff sp k) + sp)]) (ykc_237 (e := (0, .iadd, 0)) rfl) rfl rfl ?_
                      refine w_store (pc' := 137) (L' := [some (.ref 170), some (.int kd), some (.int nn), some (.int ff), some (.int sp), some (.int ((zBs (zsh v P kd nn ff sp) k) + (zn (zsv kd nn ff sp k)))), some (.int ((zsq ff sp k) + sp)), some (.int (zn k)), some (.int (zsq ff sp k))]) (st' := []) (m := 2) (ykc_237 (e := (3, .istore 6, 0)) rfl) rfl rfl ?_
                      have e1249 : (zn k) + Int32.ofInt 1 = zn (k + 1) := (zaddN (a := k) (b := 1) (znt (by omega)) c_6 (by omega))
                      have te1249 := znt (k := k + 1) (by omega)
                      refine w_store (pc' := 140) (L' := [some (.ref 170), some (.int kd), some (.int nn), some (.int ff), some (.int sp), some (.int ((zBs (zsh v P kd nn ff sp) k) + (zn (zsv kd nn ff sp k)))), some (.int ((zsq ff sp k) + sp)), some (.int (zn (k + 1))), some (.int (zsq ff sp k))]) (st' := []) (m := 3) (ykc_237 (e := (3, .iinc 7 1, 0)) rfl) (by rw [← e1249]; rfl) rfl ?_
                      refine w_gb (ykc_237 (e := (4, .goto (-94), 46)) rfl) (fun k1250 hk1250 => ?_)
                      have h9 := ih k1250 hk1250 (k + 1) (some (.int (zsq ff sp k))) _ (by omega) (zFr_add hf u1246 (Or.inl (by simp))) (fun i hi => by
                        by_cases e : i = k
                        · subst e
                          exact u1246.1
                        · exact (u1246.2.1 174 (16 + i) (fun q => e (by have q2 := q.2; omega))).trans (hr i (by omega))) (fun j hj => (u1246.2.1 174 j (fun q => by have q2 := q.2; omega)).trans (ho j (by omega)))
                      rw [show zBs (zsh v P kd nn ff sp) (k + 1) = zBs (zsh v P kd nn ff sp) k + zn (zsv kd nn ff sp k) by
                        show _ + zn (zsh v P kd nn ff sp (16 + k)) = _
                        rw [zsh_b (by omega)]] at h9
                      exact h9
                    · refine w_load (pc' := 96) (v := .int (zn k)) (m := 2) (ykc_237 (e := (2, .iload 7, 0)) rfl) rfl rfl ?_
                      refine w_load (pc' := 97) (v := .int nn) (m := 1) (ykc_237 (e := (2, .iload_n kF2, 0)) rfl) rfl rfl ?_
                      refine w_ilt (ykc_237 (e := (4, .if_icmp .lt 7, 104)) rfl) rfl (fun b1251 => ?_) (fun b1251 => ?_)
                      · refine w_alu (pc' := 105) (st' := [.int (Int32.ofInt 0), .int (zn (16 + k)), .ref 174]) (ykc_237 (e := (0, .iconst 0, 0)) rfl) rfl rfl ?_
                        refine w_alu (pc' := 106) (st' := [.int (Int32.ofInt 4), .int (Int32.ofInt 0), .int (zn (16 + k)), .ref 174]) (ykc_237 (e := (0, .iconst 4, 0)) rfl) rfl rfl ?_
                        refine w_load (pc' := 108) (v := .int (zsq ff sp k)) (m := 2) (ykc_237 (e := (2, .iload 8, 0)) rfl) rfl rfl ?_
                        obtain ⟨z1252, e_z1252⟩ : ∃ zq : Int32, (if (zsq ff sp k) < (Int32.ofInt 4) then (zsq ff sp k) else (Int32.ofInt 4)) = zq := ⟨_, rfl⟩
                        have h_z1252 := zminI e_z1252
                        refine w_mem1 (pc' := 111) (m := 3) (st' := [.int z1252, .int (Int32.ofInt 0), .int (zn (16 + k)), .ref 174]) (ph' := ph9) (ykc_237 (e := (5, .invokestatic 145, 0)) rfl) (by rw [← e_z1252]; rfl) rfl ?_
                        obtain ⟨z1253, e_z1253⟩ : ∃ zq : Int32, (if (Int32.ofInt 0) < z1252 then z1252 else (Int32.ofInt 0)) = zq := ⟨_, rfl⟩
                        have h_z1253 := zmaxI e_z1253
                        refine w_mem1 (pc' := 114) (m := 3) (st' := [.int z1253, .int (zn (16 + k)), .ref 174]) (ph' := ph9) (ykc_237 (e := (5, .invokestatic 273, 0)) rfl) (by rw [← e_z1253]; rfl) rfl ?_
                        have ev : zsv kd nn ff sp k = zq4 (zsck kd (zsq ff sp k)) := if_neg (by omega)
                        have ez : z1253 = zn (zsv kd nn ff sp k) := zn_of (by rw [ev, e9]; unfold zq4; omega)
                        rw [ez]
                        show zW n D 237 Q 114 [some (.ref 170), some (.int kd), some (.int nn), some (.int ff), some (.int sp), some (.int (zBs (zsh v P kd nn ff sp) k)), some (.int (zsq ff sp k)), some (.int (zn k)), some (.int (zsq ff sp k))] [.int (zn (zsv kd nn ff sp k)), .int (zn (16 + k)), .ref 174] ph9
                        refine w_ias (pc' := 115) (k := 16 + k) (ykc_237 (e := (5, .iastore, 0)) rfl) (by omega) rfl (fun ph1255 u1254 => ?_)
                        refine w_load (pc' := 117) (v := .int (zBs (zsh v P kd nn ff sp) k)) (m := 2) (ykc_237 (e := (2, .iload 5, 0)) rfl) rfl rfl ?_
                        refine w_load (pc' := 118) (v := .ref 170) (m := 1) (ykc_237 (e := (2, .aload_n kF0, 0)) rfl) rfl rfl ?_
                        refine w_gf (pc' := 121) (v := .ref 174) (ykc_237 (e := (5, .getfield 41, 0)) rfl) rfl ((u1254.2.1 170 11 (fun q => absurd q.1 (by decide))).trans ((hf.1 170 11 (by decide) (by decide)).trans (zsg hS1 zs_170_11))) rfl ?_
                        refine w_push (pc' := 123) (v := .int ((Int8.ofInt 16).toInt32)) (m := 2) (ykc_237 (e := (1, .bipush 16, 0)) rfl) rfl rfl ?_
                        refine w_load (pc' := 125) (v := .int (zn k)) (m := 2) (ykc_237 (e := (2, .iload 7, 0)) rfl) rfl rfl ?_
                        have e1256 : ((Int8.ofInt 16).toInt32) + (zn k) = zn (16 + k) := (zaddN (a := 16) (b := k) c_2 (znt (by omega)) (by omega)) 
                        have te1256 := znt (k := 16 + k) (by omega)
                        refine w_alu (pc' := 126) (st' := [.int (zn (16 + k)), .ref 174, .int (zBs (zsh v P kd nn ff sp) k)]) (ykc_237 (e := (0, .iadd, 0)) rfl) (by rw [← e1256]; rfl) rfl ?_
                        refine w_ialk (pc' := 127) (k := 16 + k) (ykc_237 (e := (5, .iaload, 0)) rfl) u1254.1 (by omega) rfl ?_
                        refine w_alu (pc' := 128) (st' := [.int ((zBs (zsh v P kd nn ff sp) k) + (zn (zsv kd nn ff sp k)))]) (ykc_237 (e := (0, .iadd, 0)) rfl) rfl rfl ?_
                        refine w_store (pc' := 130) (L' := [some (.ref 170), some (.int kd), some (.int nn), some (.int ff), some (.int sp), some (.int ((zBs (zsh v P kd nn ff sp) k) + (zn (zsv kd nn ff sp k)))), some (.int (zsq ff sp k)), some (.int (zn k)), some (.int (zsq ff sp k))]) (st' := []) (m := 2) (ykc_237 (e := (3, .istore 5, 0)) rfl) rfl rfl ?_
                        refine w_load (pc' := 132) (v := .int (zsq ff sp k)) (m := 2) (ykc_237 (e := (2, .iload 6, 0)) rfl) rfl rfl ?_
                        refine w_load (pc' := 134) (v := .int sp) (m := 2) (ykc_237 (e := (2, .iload 4, 0)) rfl) rfl rfl ?_
                        refine w_alu (pc' := 135) (st' := [.int ((zsq ff sp k) + sp)]) (ykc_237 (e := (0, .iadd, 0)) rfl) rfl rfl ?_
                        refine w_store (pc' := 137) (L' := [some (.ref 170), some (.int kd), some (.int nn), some (.int ff), some (.int sp), some (.int ((zBs (zsh v P kd nn ff sp) k) + (zn (zsv kd nn ff sp k)))), some (.int ((zsq ff sp k) + sp)), some (.int (zn k)), some (.int (zsq ff sp k))]) (st' := []) (m := 2) (ykc_237 (e := (3, .istore 6, 0)) rfl) rfl rfl ?_
                        have e1257 : (zn k) + Int32.ofInt 1 = zn (k + 1) := (zaddN (a := k) (b := 1) (znt (by omega)) c_6 (by omega))
                        have te1257 := znt (k := k + 1) (by omega)
                        refine w_store (pc' := 140) (L' := [some (.ref 170), some (.int kd), some (.int nn), some (.int ff), some (.int sp), some (.int ((zBs (zsh v P kd nn ff sp) k) + (zn (zsv kd nn ff sp k)))), some (.int ((zsq ff sp k) + sp)), some (.int (zn (k + 1))), some (.int (zsq ff sp k))]) (st' := []) (m := 3) (ykc_237 (e := (3, .iinc 7 1, 0)) rfl) (by rw [← e1257]; rfl) rfl ?_
                        refine w_gb (ykc_237 (e := (4, .goto (-94), 46)) rfl) (fun k1258 hk1258 => ?_)
                        have h9 := ih k1258 hk1258 (k + 1) (some (.int (zsq ff sp k))) _ (by omega) (zFr_add hf u1254 (Or.inl (by simp))) (fun i hi => by
                          by_cases e : i = k
                          · subst e
                            exact u1254.1
                          · exact (u1254.2.1 174 (16 + i) (fun q => e (by have q2 := q.2; omega))).trans (hr i (by omega))) (fun j hj => (u1254.2.1 174 j (fun q => by have q2 := q.2; omega)).trans (ho j (by omega)))
                        rw [show zBs (zsh v P kd nn ff sp) (k + 1) = zBs (zsh v P kd nn ff sp) k + zn (zsv kd nn ff sp k) by
                          show _ + zn (zsh v P kd nn ff sp (16 + k)) = _
                          rw [zsh_b (by omega)]] at h9
                        exact h9
                      · refine w_alu (pc' := 101) (st' := [.int (Int32.ofInt 0), .int (zn (16 + k)), .ref 174]) (ykc_237 (e := (0, .iconst 0, 0)) rfl) rfl rfl ?_
                        refine w_br (pc' := 114) (st' := [.int (Int32.ofInt 0), .int (zn (16 + k)), .ref 174]) (ykc_237 (e := (4, .goto 13, 114)) rfl) rfl ?_
                        have ev : zsv kd nn ff sp k = 0 := if_pos (by omega)
                        have ez : Int32.ofInt 0 = zn (zsv kd nn ff sp k) := by
                          rw [ev]
                          rfl
                        rw [ez]
                        show zW n D 237 Q 114 [some (.ref 170), some (.int kd), some (.int nn), some (.int ff), some (.int sp), some (.int (zBs (zsh v P kd nn ff sp) k)), some (.int (zsq ff sp k)), some (.int (zn k)), some (.int (zsq ff sp k))] [.int (zn (zsv kd nn ff sp k)), .int (zn (16 + k)), .ref 174] ph9
                        refine w_ias (pc' := 115) (k := 16 + k) (ykc_237 (e := (5, .iastore, 0)) rfl) (by omega) rfl (fun ph1260 u1259 => ?_)
                        refine w_load (pc' := 117) (v := .int (zBs (zsh v P kd nn ff sp) k)) (m := 2) (ykc_237 (e := (2, .iload 5, 0)) rfl) rfl rfl ?_
                        refine w_load (pc' := 118) (v := .ref 170) (m := 1) (ykc_237 (e := (2, .aload_n kF0, 0)) rfl) rfl rfl ?_
                        refine w_gf (pc' := 121) (v := .ref 174) (ykc_237 (e := (5, .getfield 41, 0)) rfl) rfl ((u1259.2.1 170 11 (fun q => absurd q.1 (by decide))).trans ((hf.1 170 11 (by decide) (by decide)).trans (zsg hS1 zs_170_11))) rfl ?_
                        refine w_push (pc' := 123) (v := .int ((Int8.ofInt 16).toInt32)) (m := 2) (ykc_237 (e := (1, .bipush 16, 0)) rfl) rfl rfl ?_
                        refine w_load (pc' := 125) (v := .int (zn k)) (m := 2) (ykc_237 (e := (2, .iload 7, 0)) rfl) rfl rfl ?_
                        have e1261 : ((Int8.ofInt 16).toInt32) + (zn k) = zn (16 + k) := (zaddN (a := 16) (b := k) c_2 (znt (by omega)) (by omega)) 
                        have te1261 := znt (k := 16 + k) (by omega)
                        refine w_alu (pc' := 126) (st' := [.int (zn (16 + k)), .ref 174, .int (zBs (zsh v P kd nn ff sp) k)]) (ykc_237 (e := (0, .iadd, 0)) rfl) (by rw [← e1261]; rfl) rfl ?_
                        refine w_ialk (pc' := 127) (k := 16 + k) (ykc_237 (e := (5, .iaload, 0)) rfl) u1259.1 (by omega) rfl ?_
                        refine w_alu (pc' := 128) (st' := [.int ((zBs (zsh v P kd nn ff sp) k) + (zn (zsv kd nn ff sp k)))]) (ykc_237 (e := (0, .iadd, 0)) rfl) rfl rfl ?_
                        refine w_store (pc' := 130) (L' := [some (.ref 170), some (.int kd), some (.int nn), some (.int ff), some (.int sp), some (.int ((zBs (zsh v P kd nn ff sp) k) + (zn (zsv kd nn ff sp k)))), some (.int (zsq ff sp k)), some (.int (zn k)), some (.int (zsq ff sp k))]) (st' := []) (m := 2) (ykc_237 (e := (3, .istore 5, 0)) rfl) rfl rfl ?_
                        refine w_load (pc' := 132) (v := .int (zsq ff sp k)) (m := 2) (ykc_237 (e := (2, .iload 6, 0)) rfl) rfl rfl ?_
                        refine w_load (pc' := 134) (v := .int sp) (m := 2) (ykc_237 (e := (2, .iload 4, 0)) rfl) rfl rfl ?_
                        refine w_alu (pc' := 135) (st' := [.int ((zsq ff sp k) + sp)]) (ykc_237 (e := (0, .iadd, 0)) rfl) rfl rfl ?_
                        refine w_store (pc' := 137) (L' := [some (.ref 170), some (.int kd), some (.int nn), some (.int ff), some (.int sp), some (.int ((zBs (zsh v P kd nn ff sp) k) + (zn (zsv kd nn ff sp k)))), some (.int ((zsq ff sp k) + sp)), some (.int (zn k)), some (.int (zsq ff sp k))]) (st' := []) (m := 2) (ykc_237 (e := (3, .istore 6, 0)) rfl) rfl rfl ?_
                        have e1262 : (zn k) + Int32.ofInt 1 = zn (k + 1) := (zaddN (a := k) (b := 1) (znt (by omega)) c_6 (by omega))
                        have te1262 := znt (k := k + 1) (by omega)
                        refine w_store (pc' := 140) (L' := [some (.ref 170), some (.int kd), some (.int nn), some (.int ff), some (.int sp), some (.int ((zBs (zsh v P kd nn ff sp) k) + (zn (zsv kd nn ff sp k)))), some (.int ((zsq ff sp k) + sp)), some (.int (zn (k + 1))), some (.int (zsq ff sp k))]) (st' := []) (m := 3) (ykc_237 (e := (3, .iinc 7 1, 0)) rfl) (by rw [← e1262]; rfl) rfl ?_
                        refine w_gb (ykc_237 (e := (4, .goto (-94), 46)) rfl) (fun k1263 hk1263 => ?_)
                        have h9 := ih k1263 hk1263 (k + 1) (some (.int (zsq ff sp k))) _ (by omega) (zFr_add hf u1259 (Or.inl (by simp))) (fun i hi => by
                          by_cases e : i = k
                          · subst e
                            exact u1259.1
                          · exact (u1259.2.1 174 (16 + i) (fun q => e (by have q2 := q.2; omega))).trans (hr i (by omega))) (fun j hj => (u1259.2.1 174 j (fun q => by have q2 := q.2; omega)).trans (ho j (by omega)))
                        rw [show zBs (zsh v P kd nn ff sp) (k + 1) = zBs (zsh v P kd nn ff sp) k + zn (zsv kd nn ff sp k) by
                          show _ + zn (zsh v P kd nn ff sp (16 + k)) = _
                          rw [zsh_b (by omega)]] at h9
                        exact h9
                  · refine w_load (pc' := 72) (v := .int (zsq ff sp k)) (m := 2) (ykc_237 (e := (2, .iload 6, 0)) rfl) rfl rfl ?_
                    obtain ⟨z1264, e_z1264, h_z1264⟩ : ∃ zq : Int32, (zsq ff sp k).toInt16.toInt32 = zq ∧ zq.toInt = ((zsq ff sp k).toInt16.toInt32).toInt := ⟨_, rfl, rfl⟩
                    refine w_alu (pc' := 73) (st' := [.int z1264]) (ykc_237 (e := (0, .i2s, 0)) rfl) (by rw [← e_z1264]; rfl) rfl ?_
                    refine w_br (pc' := 78) (st' := [.int z1264]) (ykc_237 (e := (4, .goto 5, 78)) rfl) rfl ?_
                    refine w_store (pc' := 80) (L' := [some (.ref 170), some (.int kd), some (.int nn), some (.int ff), some (.int sp), some (.int (zBs (zsh v P kd nn ff sp) k)), some (.int (zsq ff sp k)), some (.int (zn k)), some (.int z1264)]) (st' := []) (m := 2) (ykc_237 (e := (3, .istore 8, 0)) rfl) rfl rfl ?_
                    have e9 : zsck kd (zsq ff sp k) = (zsq ff sp k).toInt16.toInt32 := (by
                      unfold zsck
                      rw [if_neg (by omega), if_pos (by omega)])
                    refine w_load (pc' := 81) (v := .ref 170) (m := 1) (ykc_237 (e := (2, .aload_n kF0, 0)) rfl) rfl rfl ?_
                    refine w_gf (pc' := 84) (v := .ref 174) (ykc_237 (e := (5, .getfield 41, 0)) rfl) rfl ((hf.1 170 11 (by decide) (by decide)).trans (zsg hS1 zs_170_11)) rfl ?_
                    refine w_push (pc' := 86) (v := .int ((Int8.ofInt 16).toInt32)) (m := 2) (ykc_237 (e := (1, .bipush 16, 0)) rfl) rfl rfl ?_
                    refine w_load (pc' := 88) (v := .int (zn k)) (m := 2) (ykc_237 (e := (2, .iload 7, 0)) rfl) rfl rfl ?_
                    have e1265 : ((Int8.ofInt 16).toInt32) + (zn k) = zn (16 + k) := (zaddN (a := 16) (b := k) c_2 (znt (by omega)) (by omega)) 
                    have te1265 := znt (k := 16 + k) (by omega)
                    refine w_alu (pc' := 89) (st' := [.int (zn (16 + k)), .ref 174]) (ykc_237 (e := (0, .iadd, 0)) rfl) (by rw [← e1265]; rfl) rfl ?_
                    refine w_load (pc' := 90) (v := .int kd) (m := 1) (ykc_237 (e := (2, .iload_n kF1, 0)) rfl) rfl rfl ?_
                    refine w_alu (pc' := 91) (st' := [.int (Int32.ofInt 3), .int kd, .int (zn (16 + k)), .ref 174]) (ykc_237 (e := (0, .iconst 3, 0)) rfl) rfl rfl ?_
                    refine w_ieq (ykc_237 (e := (4, .if_icmp .eq 9, 100)) rfl) rfl (fun b1266 => ?_) (fun b1266 => ?_)
                    · refine w_alu (pc' := 101) (st' := [.int (Int32.ofInt 0), .int (zn (16 + k)), .ref 174]) (ykc_237 (e := (0, .iconst 0, 0)) rfl) rfl rfl ?_
                      refine w_br (pc' := 114) (st' := [.int (Int32.ofInt 0), .int (zn (16 + k)), .ref 174]) (ykc_237 (e := (4, .goto 13, 114)) rfl) rfl ?_
                      have ev : zsv kd nn ff sp k = 0 := if_pos (by omega)
                      have ez : Int32.ofInt 0 = zn (zsv kd nn ff sp k) := by
                        rw [ev]
                        rfl
                      rw [ez]
                      show zW n D 237 Q 114 [some (.ref 170), some (.int kd), some (.int nn), some (.int ff), some (.int sp), some (.int (zBs (zsh v P kd nn ff sp) k)), some (.int (zsq ff sp k)), some (.int (zn k)), some (.int z1264)] [.int (zn (zsv kd nn ff sp k)), .int (zn (16 + k)), .ref 174] ph9
                      refine w_ias (pc' := 115) (k := 16 + k) (ykc_237 (e := (5, .iastore, 0)) rfl) (by omega) rfl (fun ph1268 u1267 => ?_)
                      refine w_load (pc' := 117) (v := .int (zBs (zsh v P kd nn ff sp) k)) (m := 2) (ykc_237 (e := (2, .iload 5, 0)) rfl) rfl rfl ?_
                      refine w_load (pc' := 118) (v := .ref 170) (m := 1) (ykc_237 (e := (2, .aload_n kF0, 0)) rfl) rfl rfl ?_
                      refine w_gf (pc' := 121) (v := .ref 174) (ykc_237 (e := (5, .getfield 41, 0)) rfl) rfl ((u1267.2.1 170 11 (fun q => absurd q.1 (by decide))).trans ((hf.1 170 11 (by decide) (by decide)).trans (zsg hS1 zs_170_11))) rfl ?_
                      refine w_push (pc' := 123) (v := .int ((Int8.ofInt 16).toInt32)) (m := 2) (ykc_237 (e := (1, .bipush 16, 0)) rfl) rfl rfl ?_
                      refine w_load (pc' := 125) (v := .int (zn k)) (m := 2) (ykc_237 (e := (2, .iload 7, 0)) rfl) rfl rfl ?_
                      have e1269 : ((Int8.ofInt 16).toInt32) + (zn k) = zn (16 + k) := (zaddN (a := 16) (b := k) c_2 (znt (by omega)) (by omega)) 
                      have te1269 := znt (k := 16 + k) (by omega)
                      refine w_alu (pc' := 126) (st' := [.int (zn (16 + k)), .ref 174, .int (zBs (zsh v P kd nn ff sp) k)]) (ykc_237 (e := (0, .iadd, 0)) rfl) (by rw [← e1269]; rfl) rfl ?_
                      refine w_ialk (pc' := 127) (k := 16 + k) (ykc_237 (e := (5, .iaload, 0)) rfl) u1267.1 (by omega) rfl ?_
                      refine w_alu (pc' := 128) (st' := [.int ((zBs (zsh v P kd nn ff sp) k) + (zn (zsv kd nn ff sp k)))]) (ykc_237 (e := (0, .iadd, 0)) rfl) rfl rfl ?_
                      refine w_store (pc' := 130) (L' := [some (.ref 170), some (.int kd), some (.int nn), some (.int ff), some (.int sp), some (.int ((zBs (zsh v P kd nn ff sp) k) + (zn (zsv kd nn ff sp k)))), some (.int (zsq ff sp k)), some (.int (zn k)), some (.int z1264)]) (st' := []) (m := 2) (ykc_237 (e := (3, .istore 5, 0)) rfl) rfl rfl ?_
                      refine w_load (pc' := 132) (v := .int (zsq ff sp k)) (m := 2) (ykc_237 (e := (2, .iload 6, 0)) rfl) rfl rfl ?_
                      refine w_load (pc' := 134) (v := .int sp) (m := 2) (ykc_237 (e := (2, .iload 4, 0)) rfl) rfl rfl ?_
                      refine w_alu (pc' := 135) (st' := [.int ((zsq ff sp k) + sp)]) (ykc_237 (e := (0, .iadd, 0)) rfl) rfl rfl ?_
                      refine w_store (pc' := 137) (L' := [some (.ref 170), some (.int kd), some (.int nn), some (.int ff), some (.int sp), some (.int ((zBs (zsh v P kd nn ff sp) k) + (zn (zsv kd nn ff sp k)))), some (.int ((zsq ff sp k) + sp)), some (.int (zn k)), some (.int z1264)]) (st' := []) (m := 2) (ykc_237 (e := (3, .istore 6, 0)) rfl) rfl rfl ?_
                      have e1270 : (zn k) + Int32.ofInt 1 = zn (k + 1) := (zaddN (a := k) (b := 1) (znt (by omega)) c_6 (by omega))
                      have te1270 := znt (k := k + 1) (by omega)
                      refine w_store (pc' := 140) (L' := [some (.ref 170), some (.int kd), some (.int nn), some (.int ff), some (.int sp), some (.int ((zBs (zsh v P kd nn ff sp) k) + (zn (zsv kd nn ff sp k)))), some (.int ((zsq ff sp k) + sp)), some (.int (zn (k + 1))), some (.int z1264)]) (st' := []) (m := 3) (ykc_237 (e := (3, .iinc 7 1, 0)) rfl) (by rw [← e1270]; rfl) rfl ?_
                      refine w_gb (ykc_237 (e := (4, .goto (-94), 46)) rfl) (fun k1271 hk1271 => ?_)
                      have h9 := ih k1271 hk1271 (k + 1) (some (.int z1264)) _ (by omega) (zFr_add hf u1267 (Or.inl (by simp))) (fun i hi => by
                        by_cases e : i = k
                        · subst e
                          exact u1267.1
                        · exact (u1267.2.1 174 (16 + i) (fun q => e (by have q2 := q.2; omega))).trans (hr i (by omega))) (fun j hj => (u1267.2.1 174 j (fun q => by have q2 := q.2; omega)).trans (ho j (by omega)))
                      rw [show zBs (zsh v P kd nn ff sp) (k + 1) = zBs (zsh v P kd nn ff sp) k + zn (zsv kd nn ff sp k) by
                        show _ + zn (zsh v P kd nn ff sp (16 + k)) = _
                        rw [zsh_b (by omega)]] at h9
                      exact h9
                    · refine w_load (pc' := 96) (v := .int (zn k)) (m := 2) (ykc_237 (e := (2, .iload 7, 0)) rfl) rfl rfl ?_
                      refine w_load (pc' := 97) (v := .int nn) (m := 1) (ykc_237 (e := (2, .iload_n kF2, 0)) rfl) rfl rfl ?_
                      refine w_ilt (ykc_237 (e := (4, .if_icmp .lt 7, 104)) rfl) rfl (fun b1272 => ?_) (fun b1272 => ?_)
                      · refine w_alu (pc' := 105) (st' := [.int (Int32.ofInt 0), .int (zn (16 + k)), .ref 174]) (ykc_237 (e := (0, .iconst 0, 0)) rfl) rfl rfl ?_
                        refine w_alu (pc' := 106) (st' := [.int (Int32.ofInt 4), .int (Int32.ofInt 0), .int (zn (16 + k)), .ref 174]) (ykc_237 (e := (0, .iconst 4, 0)) rfl) rfl rfl ?_
                        refine w_load (pc' := 108) (v := .int z1264) (m := 2) (ykc_237 (e := (2, .iload 8, 0)) rfl) rfl rfl ?_
                        obtain ⟨z1273, e_z1273⟩ : ∃ zq : Int32, (if z1264 < (Int32.ofInt 4) then z1264 else (Int32.ofInt 4)) = zq := ⟨_, rfl⟩
                        have h_z1273 := zminI e_z1273
                        refine w_mem1 (pc' := 111) (m := 3) (st' := [.int z1273, .int (Int32.ofInt 0), .int (zn (16 + k)), .ref 174]) (ph' := ph9) (ykc_237 (e := (5, .invokestatic 145, 0)) rfl) (by rw [← e_z1273]; rfl) rfl ?_
                        obtain ⟨z1274, e_z1274⟩ : ∃ zq : Int32, (if (Int32.ofInt 0) < z1273 then z1273 else (Int32.ofInt 0)) = zq := ⟨_, rfl⟩
                        have h_z1274 := zmaxI e_z1274
                        refine w_mem1 (pc' := 114) (m := 3) (st' := [.int z1274, .int (zn (16 + k)), .ref 174]) (ph' := ph9) (ykc_237 (e := (5, .invokestatic 273, 0)) rfl) (by rw [← e_z1274]; rfl) rfl ?_
                        have ev : zsv kd nn ff sp k = zq4 (zsck kd (zsq ff sp k)) := if_neg (by omega)
                        have ez : z1274 = zn (zsv kd nn ff sp k) := zn_of (by rw [ev, e9]; unfold zq4; omega)
                        rw [ez]
                        show zW n D 237 Q 114 [some (.ref 170), some (.int kd), some (.int nn), some (.int ff), some (.int sp), some (.int (zBs (zsh v P kd nn ff sp) k)), some (.int (zsq ff sp k)), some (.int (zn k)), some (.int z1264)] [.int (zn (zsv kd nn ff sp k)), .int (zn (16 + k)), .ref 174] ph9
                        refine w_ias (pc' := 115) (k := 16 + k) (ykc_237 (e := (5, .iastore, 0)) rfl) (by omega) rfl (fun ph1276 u1275 => ?_)
                        refine w_load (pc' := 117) (v := .int (zBs (zsh v P kd nn ff sp) k)) (m := 2) (ykc_237 (e := (2, .iload 5, 0)) rfl) rfl rfl ?_
                        refine w_load (pc' := 118) (v := .ref 170) (m := 1) (ykc_237 (e := (2, .aload_n kF0, 0)) rfl) rfl rfl ?_
                        refine w_gf (pc' := 121) (v := .ref 174) (ykc_237 (e := (5, .getfield 41, 0)) rfl) rfl ((u1275.2.1 170 11 (fun q => absurd q.1 (by decide))).trans ((hf.1 170 11 (by decide) (by decide)).trans (zsg hS1 zs_170_11))) rfl ?_
                        refine w_push (pc' := 123) (v := .int ((Int8.ofInt 16).toInt32)) (m := 2) (ykc_237 (e := (1, .bipush 16, 0)) rfl) rfl rfl ?_
                        refine w_load (pc' := 125) (v := .int (zn k)) (m := 2) (ykc_237 (e := (2, .iload 7, 0)) rfl) rfl rfl ?_
                        have e1277 : ((Int8.ofInt 16).toInt32) + (zn k) = zn (16 + k) := (zaddN (a := 16) (b := k) c_2 (znt (by omega)) (by omega)) 
                        have te1277 := znt (k := 16 + k) (by omega)
                        refine w_alu (pc' := 126) (st' := [.int (zn (16 + k)), .ref 174, .int (zBs (zsh v P kd nn ff sp) k)]) (ykc_237 (e := (0, .iadd, 0)) rfl) (by rw [← e1277]; rfl) rfl ?_
                        refine w_ialk (pc' := 127) (k := 16 + k) (ykc_237 (e := (5, .iaload, 0)) rfl) u1275.1 (by omega) rfl ?_
                        refine w_alu (pc' := 128) (st' := [.int ((zBs (zsh v P kd nn ff sp) k) + (zn (zsv kd nn ff sp k)))]) (ykc_237 (e := (0, .iadd, 0)) rfl) rfl rfl ?_
                        refine w_store (pc' := 130) (L' := [some (.ref 170), some (.int kd), some (.int nn), some (.int ff), some (.int sp), some (.int ((zBs (zsh v P kd nn ff sp) k) + (zn (zsv kd nn ff sp k)))), some (.int (zsq ff sp k)), some (.int (zn k)), some (.int z1264)]) (st' := []) (m := 2) (ykc_237 (e := (3, .istore 5, 0)) rfl) rfl rfl ?_
                        refine w_load (pc' := 132) (v := .int (zsq ff sp k)) (m := 2) (ykc_237 (e := (2, .iload 6, 0)) rfl) rfl rfl ?_
                        refine w_load (pc' := 134) (v := .int sp) (m := 2) (ykc_237 (e := (2, .iload 4, 0)) rfl) rfl rfl ?_
                        refine w_alu (pc' := 135) (st' := [.int ((zsq ff sp k) + sp)]) (ykc_237 (e := (0, .iadd, 0)) rfl) rfl rfl ?_
                        refine w_store (pc' := 137) (L' := [some (.ref 170), some (.int kd), some (.int nn), some (.int ff), some (.int sp), some (.int ((zBs (zsh v P kd nn ff sp) k) + (zn (zsv kd nn ff sp k)))), some (.int ((zsq ff sp k) + sp)), some (.int (zn k)), some (.int z1264)]) (st' := []) (m := 2) (ykc_237 (e := (3, .istore 6, 0)) rfl) rfl rfl ?_
                        have e1278 : (zn k) + Int32.ofInt 1 = zn (k + 1) := (zaddN (a := k) (b := 1) (znt (by omega)) c_6 (by omega))
                        have te1278 := znt (k := k + 1) (by omega)
                        refine w_store (pc' := 140) (L' := [some (.ref 170), some (.int kd), some (.int nn), some (.int ff), some (.int sp), some (.int ((zBs (zsh v P kd nn ff sp) k) + (zn (zsv kd nn ff sp k)))), some (.int ((zsq ff sp k) + sp)), some (.int (zn (k + 1))), some (.int z1264)]) (st' := []) (m := 3) (ykc_237 (e := (3, .iinc 7 1, 0)) rfl) (by rw [← e1278]; rfl) rfl ?_
                        refine w_gb (ykc_237 (e := (4, .goto (-94), 46)) rfl) (fun k1279 hk1279 => ?_)
                        have h9 := ih k1279 hk1279 (k + 1) (some (.int z1264)) _ (by omega) (zFr_add hf u1275 (Or.inl (by simp))) (fun i hi => by
                          by_cases e : i = k
                          · subst e
                            exact u1275.1
                          · exact (u1275.2.1 174 (16 + i) (fun q => e (by have q2 := q.2; omega))).trans (hr i (by omega))) (fun j hj => (u1275.2.1 174 j (fun q => by have q2 := q.2; omega)).trans (ho j (by omega)))
                        rw [show zBs (zsh v P kd nn ff sp) (k + 1) = zBs (zsh v P kd nn ff sp) k + zn (zsv kd nn ff sp k) by
                          show _ + zn (zsh v P kd nn ff sp (16 + k)) = _
                          rw [zsh_b (by omega)]] at h9
                        exact h9
                      · refine w_alu (pc' := 101) (st' := [.int (Int32.ofInt 0), .int (zn (16 + k)), .ref 174]) (ykc_237 (e := (0, .iconst 0, 0)) rfl) rfl rfl ?_
                        refine w_br (pc' := 114) (st' := [.int (Int32.ofInt 0), .int (zn (16 + k)), .ref 174]) (ykc_237 (e := (4, .goto 13, 114)) rfl) rfl ?_
                        have ev : zsv kd nn ff sp k = 0 := if_pos (by omega)
                        have ez : Int32.ofInt 0 = zn (zsv kd nn ff sp k) := by
                          rw [ev]
                          rfl
                        rw [ez]
                        show zW n D 237 Q 114 [some (.ref 170), some (.int kd), some (.int nn), some (.int ff), some (.int sp), some (.int (zBs (zsh v P kd nn ff sp) k)), some (.int (zsq ff sp k)), some (.int (zn k)), some (.int z1264)] [.int (zn (zsv kd nn ff sp k)), .int (zn (16 + k)), .ref 174] ph9
                        refine w_ias (pc' := 115) (k := 16 + k) (ykc_237 (e := (5, .iastore, 0)) rfl) (by omega) rfl (fun ph1281 u1280 => ?_)
                        refine w_load (pc' := 117) (v := .int (zBs (zsh v P kd nn ff sp) k)) (m := 2) (ykc_237 (e := (2, .iload 5, 0)) rfl) rfl rfl ?_
                        refine w_load (pc' := 118) (v := .ref 170) (m := 1) (ykc_237 (e := (2, .aload_n kF0, 0)) rfl) rfl rfl ?_
                        refine w_gf (pc' := 121) (v := .ref 174) (ykc_237 (e := (5, .getfield 41, 0)) rfl) rfl ((u1280.2.1 170 11 (fun q => absurd q.1 (by decide))).trans ((hf.1 170 11 (by decide) (by decide)).trans (zsg hS1 zs_170_11))) rfl ?_
                        refine w_push (pc' := 123) (v := .int ((Int8.ofInt 16).toInt32)) (m := 2) (ykc_237 (e := (1, .bipush 16, 0)) rfl) rfl rfl ?_
                        refine w_load (pc' := 125) (v := .int (zn k)) (m := 2) (ykc_237 (e := (2, .iload 7, 0)) rfl) rfl rfl ?_
                        have e1282 : ((Int8.ofInt 16).toInt32) + (zn k) = zn (16 + k) := (zaddN (a := 16) (b := k) c_2 (znt (by omega)) (by omega)) 
                        have te1282 := znt (k := 16 + k) (by omega)
                        refine w_alu (pc' := 126) (st' := [.int (zn (16 + k)), .ref 174, .int (zBs (zsh v P kd nn ff sp) k)]) (ykc_237 (e := (0, .iadd, 0)) rfl) (by rw [← e1282]; rfl) rfl ?_
                        refine w_ialk (pc' := 127) (k := 16 + k) (ykc_237 (e := (5, .iaload, 0)) rfl) u1280.1 (by omega) rfl ?_
                        refine w_alu (pc' := 128) (st' := [.int ((zBs (zsh v P kd nn ff sp) k) + (zn (zsv kd nn ff sp k)))]) (ykc_237 (e := (0, .iadd, 0)) rfl) rfl rfl ?_
                        refine w_store (pc' := 130) (L' := [some (.ref 170), some (.int kd), some (.int nn), some (.int ff), some (.int sp), some (.int ((zBs (zsh v P kd nn ff sp) k) + (zn (zsv kd nn ff sp k)))), some (.int (zsq ff sp k)), some (.int (zn k)), some (.int z1264)]) (st' := []) (m := 2) (ykc_237 (e := (3, .istore 5, 0)) rfl) rfl rfl ?_
                        refine w_load (pc' := 132) (v := .int (zsq ff sp k)) (m := 2) (ykc_237 (e := (2, .iload 6, 0)) rfl) rfl rfl ?_
                        refine w_load (pc' := 134) (v := .int sp) (m := 2) (ykc_237 (e := (2, .iload 4, 0)) rfl) rfl rfl ?_
                        refine w_alu (pc' := 135) (st' := [.int ((zsq ff sp k) + sp)]) (ykc_237 (e := (0, .iadd, 0)) rfl) rfl rfl ?_
                        refine w_store (pc' := 137) (L' := [some (.ref 170), some (.int kd), some (.int nn), some (.int ff), some (.int sp), some (.int ((zBs (zsh v P kd nn ff sp) k) + (zn (zsv kd nn ff sp k)))), some (.int ((zsq ff sp k) + sp)), some (.int (zn k)), some (.int z1264)]) (st' := []) (m := 2) (ykc_237 (e := (3, .istore 6, 0)) rfl) rfl rfl ?_
                        have e1283 : (zn k) + Int32.ofInt 1 = zn (k + 1) := (zaddN (a := k) (b := 1) (znt (by omega)) c_6 (by omega))
                        have te1283 := znt (k := k + 1) (by omega)
                        refine w_store (pc' := 140) (L' := [some (.ref 170), some (.int kd), some (.int nn), some (.int ff), some (.int sp), some (.int ((zBs (zsh v P kd nn ff sp) k) + (zn (zsv kd nn ff sp k)))), some (.int ((zsq ff sp k) + sp)), some (.int (zn (k + 1))), some (.int z1264)]) (st' := []) (m := 3) (ykc_237 (e := (3, .iinc 7 1, 0)) rfl) (by rw [← e1283]; rfl) rfl ?_
                        refine w_gb (ykc_237 (e := (4, .goto (-94), 46)) rfl) (fun k1284 hk1284 => ?_)
                        have h9 := ih k1284 hk1284 (k + 1) (some (.int z1264)) _ (by omega) (zFr_add hf u1280 (Or.inl (by simp))) (fun i hi => by
                          by_cases e : i = k
                          · subst e
                            exact u1280.1
                          · exact (u1280.2.1 174 (16 + i) (fun q => e (by have q2 := q.2; omega))).trans (hr i (by omega))) (fun j hj => (u1280.2.1 174 j (fun q => by have q2 := q.2; omega)).trans (ho j (by omega)))
                        rw [show zBs (zsh v P kd nn ff sp) (k + 1) = zBs (zsh v P kd nn ff sp) k + zn (zsv kd nn ff sp k) by
                          show _ + zn (zsh v P kd nn ff sp (16 + k)) = _
                          rw [zsh_b (by omega)]] at h9
                        exact h9
                · refine w_load (pc' := 61) (v := .int (zsq ff sp k)) (m := 2) (ykc_237 (e := (2, .iload 6, 0)) rfl) rfl rfl ?_
                  obtain ⟨z1285, e_z1285, h_z1285⟩ : ∃ zq : Int32, (zsq ff sp k).toInt8.toInt32 = zq ∧ zq.toInt = ((zsq ff sp k).toInt8.toInt32).toInt := ⟨_, rfl, rfl⟩
                  refine w_alu (pc' := 62) (st' := [.int z1285]) (ykc_237 (e := (0, .i2b, 0)) rfl) (by rw [← e_z1285]; rfl) rfl ?_
                  refine w_br (pc' := 78) (st' := [.int z1285]) (ykc_237 (e := (4, .goto 16, 78)) rfl) rfl ?_
                  refine w_store (pc' := 80) (L' := [some (.ref 170), some (.int kd), some (.int nn), some (.int ff), some (.int sp), some (.int (zBs (zsh v P kd nn ff sp) k)), some (.int (zsq ff sp k)), some (.int (zn k)), some (.int z1285)]) (st' := []) (m := 2) (ykc_237 (e := (3, .istore 8, 0)) rfl) rfl rfl ?_
                  have e9 : zsck kd (zsq ff sp k) = (zsq ff sp k).toInt8.toInt32 := if_pos (by omega)
                  refine w_load (pc' := 81) (v := .ref 170) (m := 1) (ykc_237 (e := (2, .aload_n kF0, 0)) rfl) rfl rfl ?_
                  refine w_gf (pc' := 84) (v := .ref 174) (ykc_237 (e := (5, .getfield 41, 0)) rfl) rfl ((hf.1 170 11 (by decide) (by decide)).trans (zsg hS1 zs_170_11)) rfl ?_
                  refine w_push (pc' := 86) (v := .int ((Int8.ofInt 16).toInt32)) (m := 2) (ykc_237 (e := (1, .bipush 16, 0)) rfl) rfl rfl ?_
                  refine w_load (pc' := 88) (v := .int (zn k)) (m := 2) (ykc_237 (e := (2, .iload 7, 0)) rfl) rfl rfl ?_
                  have e1286 : ((Int8.ofInt 16).toInt32) + (zn k) = zn (16 + k) := (zaddN (a := 16) (b := k) c_2 (znt (by omega)) (by omega)) 
                  have te1286 := znt (k := 16 + k) (by omega)
                  refine w_alu (pc' := 89) (st' := [.int (zn (16 + k)), .ref 174]) (ykc_237 (e := (0, .iadd, 0)) rfl) (by rw [← e1286]; rfl) rfl ?_
                  refine w_load (pc' := 90) (v := .int kd) (m := 1) (ykc_237 (e := (2, .iload_n kF1, 0)) rfl) rfl rfl ?_
                  refine w_alu (pc' := 91) (st' := [.int (Int32.ofInt 3), .int kd, .int (zn (16 + k)), .ref 174]) (ykc_237 (e := (0, .iconst 3, 0)) rfl) rfl rfl ?_
                  refine w_ieq (ykc_237 (e := (4, .if_icmp .eq 9, 100)) rfl) rfl (fun b1287 => ?_) (fun b1287 => ?_)
                  · refine w_alu (pc' := 101) (st' := [.int (Int32.ofInt 0), .int (zn (16 + k)), .ref 174]) (ykc_237 (e := (0, .iconst 0, 0)) rfl) rfl rfl ?_
                    refine w_br (pc' := 114) (st' := [.int (Int32.ofInt 0), .int (zn (16 + k)), .ref 174]) (ykc_237 (e := (4, .goto 13, 114)) rfl) rfl ?_
                    have ev : zsv kd nn ff sp k = 0 := if_pos (by omega)
                    have ez : Int32.ofInt 0 = zn (zsv kd nn ff sp k) := by
                      rw [ev]
                      rfl
                    rw [ez]
                    show zW n D 237 Q 114 [some (.ref 170), some (.int kd), some (.int nn), some (.int ff), some (.int sp), some (.int (zBs (zsh v P kd nn ff sp) k)), some (.int (zsq ff sp k)), some (.int (zn k)), some (.int z1285)] [.int (zn (zsv kd nn ff sp k)), .int (zn (16 + k)), .ref 174] ph9
                    refine w_ias (pc' := 115) (k := 16 + k) (ykc_237 (e := (5, .iastore, 0)) rfl) (by omega) rfl (fun ph1289 u1288 => ?_)
                    refine w_load (pc' := 117) (v := .int (zBs (zsh v P kd nn ff sp) k)) (m := 2) (ykc_237 (e := (2, .iload 5, 0)) rfl) rfl rfl ?_
                    refine w_load (pc' := 118) (v := .ref 170) (m := 1) (ykc_237 (e := (2, .aload_n kF0, 0)) rfl) rfl rfl ?_
                    refine w_gf (pc' := 121) (v := .ref 174) (ykc_237 (e := (5, .getfield 41, 0)) rfl) rfl ((u1288.2.1 170 11 (fun q => absurd q.1 (by decide))).trans ((hf.1 170 11 (by decide) (by decide)).trans (zsg hS1 zs_170_11))) rfl ?_
                    refine w_push (pc' := 123) (v := .int ((Int8.ofInt 16).toInt32)) (m := 2) (ykc_237 (e := (1, .bipush 16, 0)) rfl) rfl rfl ?_
                    refine w_load (pc' := 125) (v := .int (zn k)) (m := 2) (ykc_237 (e := (2, .iload 7, 0)) rfl) rfl rfl ?_
                    have e1290 : ((Int8.ofInt 16).toInt32) + (zn k) = zn (16 + k) := (zaddN (a := 16) (b := k) c_2 (znt (by omega)) (by omega)) 
                    have te1290 := znt (k := 16 + k) (by omega)
                    refine w_alu (pc' := 126) (st' := [.int (zn (16 + k)), .ref 174, .int (zBs (zsh v P kd nn ff sp) k)]) (ykc_237 (e := (0, .iadd, 0)) rfl) (by rw [← e1290]; rfl) rfl ?_
                    refine w_ialk (pc' := 127) (k := 16 + k) (ykc_237 (e := (5, .iaload, 0)) rfl) u1288.1 (by omega) rfl ?_
                    refine w_alu (pc' := 128) (st' := [.int ((zBs (zsh v P kd nn ff sp) k) + (zn (zsv kd nn ff sp k)))]) (ykc_237 (e := (0, .iadd, 0)) rfl) rfl rfl ?_
                    refine w_store (pc' := 130) (L' := [some (.ref 170), some (.int kd), some (.int nn), some (.int ff), some (.int sp), some (.int ((zBs (zsh v P kd nn ff sp) k) + (zn (zsv kd nn ff sp k)))), some (.int (zsq ff sp k)), some (.int (zn k)), some (.int z1285)]) (st' := []) (m := 2) (ykc_237 (e := (3, .istore 5, 0)) rfl) rfl rfl ?_
                    refine w_load (pc' := 132) (v := .int (zsq ff sp k)) (m := 2) (ykc_237 (e := (2, .iload 6, 0)) rfl) rfl rfl ?_
                    refine w_load (pc' := 134) (v := .int sp) (m := 2) (ykc_237 (e := (2, .iload 4, 0)) rfl) rfl rfl ?_
                    refine w_alu (pc' := 135) (st' := [.int ((zsq ff sp k) + sp)]) (ykc_237 (e := (0, .iadd, 0)) rfl) rfl rfl ?_
                    refine w_store (pc' := 137) (L' := [some (.ref 170), some (.int kd), some (.int nn), some (.int ff), some (.int sp), some (.int ((zBs (zsh v P kd nn ff sp) k) + (zn (zsv kd nn ff sp k)))), some (.int ((zsq ff sp k) + sp)), some (.int (zn k)), some (.int z1285)]) (st' := []) (m := 2) (ykc_237 (e := (3, .istore 6, 0)) rfl) rfl rfl ?_
                    have e1291 : (zn k) + Int32.ofInt 1 = zn (k + 1) := (zaddN (a := k) (b := 1) (znt (by omega)) c_6 (by omega))
                    have te1291 := znt (k := k + 1) (by omega)
                    refine w_store (pc' := 140) (L' := [some (.ref 170), some (.int kd), some (.int nn), some (.int ff), some (.int sp), some (.int ((zBs (zsh v P kd nn ff sp) k) + (zn (zsv kd nn ff sp k)))), some (.int ((zsq ff sp k) + sp)), some (.int (zn (k + 1))), some (.int z1285)]) (st' := []) (m := 3) (ykc_237 (e := (3, .iinc 7 1, 0)) rfl) (by rw [← e1291]; rfl) rfl ?_
                    refine w_gb (ykc_237 (e := (4, .goto (-94), 46)) rfl) (fun k1292 hk1292 => ?_)
                    have h9 := ih k1292 hk1292 (k + 1) (some (.int z1285)) _ (by omega) (zFr_add hf u1288 (Or.inl (by simp))) (fun i hi => by
                      by_cases e : i = k
                      · subst e
                        exact u1288.1
                      · exact (u1288.2.1 174 (16 + i) (fun q => e (by have q2 := q.2; omega))).trans (hr i (by omega))) (fun j hj => (u1288.2.1 174 j (fun q => by have q2 := q.2; omega)).trans (ho j (by omega)))
                    rw [show zBs (zsh v P kd nn ff sp) (k + 1) = zBs (zsh v P kd nn ff sp) k + zn (zsv kd nn ff sp k) by
                      show _ + zn (zsh v P kd nn ff sp (16 + k)) = _
                      rw [zsh_b (by omega)]] at h9
                    exact h9
                  · refine w_load (pc' := 96) (v := .int (zn k)) (m := 2) (ykc_237 (e := (2, .iload 7, 0)) rfl) rfl rfl ?_
                    refine w_load (pc' := 97) (v := .int nn) (m := 1) (ykc_237 (e := (2, .iload_n kF2, 0)) rfl) rfl rfl ?_
                    refine w_ilt (ykc_237 (e := (4, .if_icmp .lt 7, 104)) rfl) rfl (fun b1293 => ?_) (fun b1293 => ?_)
                    · refine w_alu (pc' := 105) (st' := [.int (Int32.ofInt 0), .int (zn (16 + k)), .ref 174]) (ykc_237 (e := (0, .iconst 0, 0)) rfl) rfl rfl ?_
                      refine w_alu (pc' := 106) (st' := [.int (Int32.ofInt 4), .int (Int32.ofInt 0), .int (zn (16 + k)), .ref 174]) (ykc_237 (e := (0, .iconst 4, 0)) rfl) rfl rfl ?_
                      refine w_load (pc' := 108) (v := .int z1285) (m := 2) (ykc_237 (e := (2, .iload 8, 0)) rfl) rfl rfl ?_
                      obtain ⟨z1294, e_z1294⟩ : ∃ zq : Int32, (if z1285 < (Int32.ofInt 4) then z1285 else (Int32.ofInt 4)) = zq := ⟨_, rfl⟩
                      have h_z1294 := zminI e_z1294
                      refine w_mem1 (pc' := 111) (m := 3) (st' := [.int z1294, .int (Int32.ofInt 0), .int (zn (16 + k)), .ref 174]) (ph' := ph9) (ykc_237 (e := (5, .invokestatic 145, 0)) rfl) (by rw [← e_z1294]; rfl) rfl ?_
                      obtain ⟨z1295, e_z1295⟩ : ∃ zq : Int32, (if (Int32.ofInt 0) < z1294 then z1294 else (Int32.ofInt 0)) = zq := ⟨_, rfl⟩
                      have h_z1295 := zmaxI e_z1295
                      refine w_mem1 (pc' := 114) (m := 3) (st' := [.int z1295, .int (zn (16 + k)), .ref 174]) (ph' := ph9) (ykc_237 (e := (5, .invokestatic 273, 0)) rfl) (by rw [← e_z1295]; rfl) rfl ?_
                      have ev : zsv kd nn ff sp k = zq4 (zsck kd (zsq ff sp k)) := if_neg (by omega)
                      have ez : z1295 = zn (zsv kd nn ff sp k) := zn_of (by rw [ev, e9]; unfold zq4; omega)
                      rw [ez]
                      show zW n D 237 Q 114 [some (.ref 170), some (.int kd), some (.int nn), some (.int ff), some (.int sp), some (.int (zBs (zsh v P kd nn ff sp) k)), some (.int (zsq ff sp k)), some (.int (zn k)), some (.int z1285)] [.int (zn (zsv kd nn ff sp k)), .int (zn (16 + k)), .ref 174] ph9
                      refine w_ias (pc' := 115) (k := 16 + k) (ykc_237 (e := (5, .iastore, 0)) rfl) (by omega) rfl (fun ph1297 u1296 => ?_)
                      refine w_load (pc' := 117) (v := .int (zBs (zsh v P kd nn ff sp) k)) (m := 2) (ykc_237 (e := (2, .iload 5, 0)) rfl) rfl rfl ?_
                      refine w_load (pc' := 118) (v := .ref 170) (m := 1) (ykc_237 (e := (2, .aload_n kF0, 0)) rfl) rfl rfl ?_
                      refine w_gf (pc' := 121) (v := .ref 174) (ykc_237 (e := (5, .getfield 41, 0)) rfl) rfl ((u1296.2.1 170 11 (fun q => absurd q.1 (by decide))).trans ((hf.1 170 11 (by decide) (by decide)).trans (zsg hS1 zs_170_11))) rfl ?_
                      refine w_push (pc' := 123) (v := .int ((Int8.ofInt 16).toInt32)) (m := 2) (ykc_237 (e := (1, .bipush 16, 0)) rfl) rfl rfl ?_
                      refine w_load (pc' := 125) (v := .int (zn k)) (m := 2) (ykc_237 (e := (2, .iload 7, 0)) rfl) rfl rfl ?_
                      have e1298 : ((Int8.ofInt 16).toInt32) + (zn k) = zn (16 + k) := (zaddN (a := 16) (b := k) c_2 (znt (by omega)) (by omega)) 
                      have te1298 := znt (k := 16 + k) (by omega)
                      refine w_alu (pc' := 126) (st' := [.int (zn (16 + k)), .ref 174, .int (zBs (zsh v P kd nn ff sp) k)]) (ykc_237 (e := (0, .iadd, 0)) rfl) (by rw [← e1298]; rfl) rfl ?_
                      refine w_ialk (pc' := 127) (k := 16 + k) (ykc_237 (e := (5, .iaload, 0)) rfl) u1296.1 (by omega) rfl ?_
                      refine w_alu (pc' := 128) (st' := [.int ((zBs (zsh v P kd nn ff sp) k) + (zn (zsv kd nn ff sp k)))]) (ykc_237 (e := (0, .iadd, 0)) rfl) rfl rfl ?_
                      refine w_store (pc' := 130) (L' := [some (.ref 170), some (.int kd), some (.int nn), some (.int ff), some (.int sp), some (.int ((zBs (zsh v P kd nn ff sp) k) + (zn (zsv kd nn ff sp k)))), some (.int (zsq ff sp k)), some (.int (zn k)), some (.int z1285)]) (st' := []) (m := 2) (ykc_237 (e := (3, .istore 5, 0)) rfl) rfl rfl ?_
                      refine w_load (pc' := 132) (v := .int (zsq ff sp k)) (m := 2) (ykc_237 (e := (2, .iload 6, 0)) rfl) rfl rfl ?_
                      refine w_load (pc' := 134) (v := .int sp) (m := 2) (ykc_237 (e := (2, .iload 4, 0)) rfl) rfl rfl ?_
                      refine w_alu (pc' := 135) (st' := [.int ((zsq ff sp k) + sp)]) (ykc_237 (e := (0, .iadd, 0)) rfl) rfl rfl ?_
                      refine w_store (pc' := 137) (L' := [some (.ref 170), some (.int kd), some (.int nn), some (.int ff), some (.int sp), some (.int ((zBs (zsh v P kd nn ff sp) k) + (zn (zsv kd nn ff sp k)))), some (.int ((zsq ff sp k) + sp)), some (.int (zn k)), some (.int z1285)]) (st' := []) (m := 2) (ykc_237 (e := (3, .istore 6, 0)) rfl) rfl rfl ?_
                      have e1299 : (zn k) + Int32.ofInt 1 = zn (k + 1) := (zaddN (a := k) (b := 1) (znt (by omega)) c_6 (by omega))
                      have te1299 := znt (k := k + 1) (by omega)
                      refine w_store (pc' := 140) (L' := [some (.ref 170), some (.int kd), some (.int nn), some (.int ff), some (.int sp), some (.int ((zBs (zsh v P kd nn ff sp) k) + (zn (zsv kd nn ff sp k)))), some (.int ((zsq ff sp k) + sp)), some (.int (zn (k + 1))), some (.int z1285)]) (st' := []) (m := 3) (ykc_237 (e := (3, .iinc 7 1, 0)) rfl) (by rw [← e1299]; rfl) rfl ?_
                      refine w_gb (ykc_237 (e := (4, .goto (-94), 46)) rfl) (fun k1300 hk1300 => ?_)
                      have h9 := ih k1300 hk1300 (k + 1) (some (.int z1285)) _ (by omega) (zFr_add hf u1296 (Or.inl (by simp))) (fun i hi => by
                        by_cases e : i = k
                        · subst e
                          exact u1296.1
                        · exact (u1296.2.1 174 (16 + i) (fun q => e (by have q2 := q.2; omega))).trans (hr i (by omega))) (fun j hj => (u1296.2.1 174 j (fun q => by have q2 := q.2; omega)).trans (ho j (by omega)))
                      rw [show zBs (zsh v P kd nn ff sp) (k + 1) = zBs (zsh v P kd nn ff sp) k + zn (zsv kd nn ff sp k) by
                        show _ + zn (zsh v P kd nn ff sp (16 + k)) = _
                        rw [zsh_b (by omega)]] at h9
                      exact h9
                    · refine w_alu (pc' := 101) (st' := [.int (Int32.ofInt 0), .int (zn (16 + k)), .ref 174]) (ykc_237 (e := (0, .iconst 0, 0)) rfl) rfl rfl ?_
                      refine w_br (pc' := 114) (st' := [.int (Int32.ofInt 0), .int (zn (16 + k)), .ref 174]) (ykc_237 (e := (4, .goto 13, 114)) rfl) rfl ?_
                      have ev : zsv kd nn ff sp k = 0 := if_pos (by omega)
                      have ez : Int32.ofInt 0 = zn (zsv kd nn ff sp k) := by
                        rw [ev]
                        rfl
                      rw [ez]
                      show zW n D 237 Q 114 [some (.ref 170), some (.int kd), some (.int nn), some (.int ff), some (.int sp), some (.int (zBs (zsh v P kd nn ff sp) k)), some (.int (zsq ff sp k)), some (.int (zn k)), some (.int z1285)] [.int (zn (zsv kd nn ff sp k)), .int (zn (16 + k)), .ref 174] ph9
                      refine w_ias (pc' := 115) (k := 16 + k) (ykc_237 (e := (5, .iastore, 0)) rfl) (by omega) rfl (fun ph1302 u1301 => ?_)
                      refine w_load (pc' := 117) (v := .int (zBs (zsh v P kd nn ff sp) k)) (m := 2) (ykc_237 (e := (2, .iload 5, 0)) rfl) rfl rfl ?_
                      refine w_load (pc' := 118) (v := .ref 170) (m := 1) (ykc_237 (e := (2, .aload_n kF0, 0)) rfl) rfl rfl ?_
                      refine w_gf (pc' := 121) (v := .ref 174) (ykc_237 (e := (5, .getfield 41, 0)) rfl) rfl ((u1301.2.1 170 11 (fun q => absurd q.1 (by decide))).trans ((hf.1 170 11 (by decide) (by decide)).trans (zsg hS1 zs_170_11))) rfl ?_
                      refine w_push (pc' := 123) (v := .int ((Int8.ofInt 16).toInt32)) (m := 2) (ykc_237 (e := (1, .bipush 16, 0)) rfl) rfl rfl ?_
                      refine w_load (pc' := 125) (v := .int (zn k)) (m := 2) (ykc_237 (e := (2, .iload 7, 0)) rfl) rfl rfl ?_
                      have e1303 : ((Int8.ofInt 16).toInt32) + (zn k) = zn (16 + k) := (zaddN (a := 16) (b := k) c_2 (znt (by omega)) (by omega)) 
                      have te1303 := znt (k := 16 + k) (by omega)
                      refine w_alu (pc' := 126) (st' := [.int (zn (16 + k)), .ref 174, .int (zBs (zsh v P kd nn ff sp) k)]) (ykc_237 (e := (0, .iadd, 0)) rfl) (by rw [← e1303]; rfl) rfl ?_
                      refine w_ialk (pc' := 127) (k := 16 + k) (ykc_237 (e := (5, .iaload, 0)) rfl) u1301.1 (by omega) rfl ?_
                      refine w_alu (pc' := 128) (st' := [.int ((zBs (zsh v P kd nn ff sp) k) + (zn (zsv kd nn ff sp k)))]) (ykc_237 (e := (0, .iadd, 0)) rfl) rfl rfl ?_
                      refine w_store (pc' := 130) (L' := [some (.ref 170), some (.int kd), some (.int nn), some (.int ff), some (.int sp), some (.int ((zBs (zsh v P kd nn ff sp) k) + (zn (zsv kd nn ff sp k)))), some (.int (zsq ff sp k)), some (.int (zn k)), some (.int z1285)]) (st' := []) (m := 2) (ykc_237 (e := (3, .istore 5, 0)) rfl) rfl rfl ?_
                      refine w_load (pc' := 132) (v := .int (zsq ff sp k)) (m := 2) (ykc_237 (e := (2, .iload 6, 0)) rfl) rfl rfl ?_
                      refine w_load (pc' := 134) (v := .int sp) (m := 2) (ykc_237 (e := (2, .iload 4, 0)) rfl) rfl rfl ?_
                      refine w_alu (pc' := 135) (st' := [.int ((zsq ff sp k) + sp)]) (ykc_237 (e := (0, .iadd, 0)) rfl) rfl rfl ?_
                      refine w_store (pc' := 137) (L' := [some (.ref 170), some (.int kd), some (.int nn), some (.int ff), some (.int sp), some (.int ((zBs (zsh v P kd nn ff sp) k) + (zn (zsv kd nn ff sp k)))), some (.int ((zsq ff sp k) + sp)), some (.int (zn k)), some (.int z1285)]) (st' := []) (m := 2) (ykc_237 (e := (3, .istore 6, 0)) rfl) rfl rfl ?_
                      have e1304 : (zn k) + Int32.ofInt 1 = zn (k + 1) := (zaddN (a := k) (b := 1) (znt (by omega)) c_6 (by omega))
                      have te1304 := znt (k := k + 1) (by omega)
                      refine w_store (pc' := 140) (L' := [some (.ref 170), some (.int kd), some (.int nn), some (.int ff), some (.int sp), some (.int ((zBs (zsh v P kd nn ff sp) k) + (zn (zsv kd nn ff sp k)))), some (.int ((zsq ff sp k) + sp)), some (.int (zn (k + 1))), some (.int z1285)]) (st' := []) (m := 3) (ykc_237 (e := (3, .iinc 7 1, 0)) rfl) (by rw [← e1304]; rfl) rfl ?_
                      refine w_gb (ykc_237 (e := (4, .goto (-94), 46)) rfl) (fun k1305 hk1305 => ?_)
                      have h9 := ih k1305 hk1305 (k + 1) (some (.int z1285)) _ (by omega) (zFr_add hf u1301 (Or.inl (by simp))) (fun i hi => by
                        by_cases e : i = k
                        · subst e
                          exact u1301.1
                        · exact (u1301.2.1 174 (16 + i) (fun q => e (by have q2 := q.2; omega))).trans (hr i (by omega))) (fun j hj => (u1301.2.1 174 j (fun q => by have q2 := q.2; omega)).trans (ho j (by omega)))
                      rw [show zBs (zsh v P kd nn ff sp) (k + 1) = zBs (zsh v P kd nn ff sp) k + zn (zsv kd nn ff sp k) by
                        show _ + zn (zsh v P kd nn ff sp (16 + k)) = _
                        rw [zsh_b (by omega)]] at h9
                      exact h9
          exact hl n 0 _ ph1167 (Nat.zero_le _) zFr_refl (fun i hi => absurd hi (Nat.not_lt_zero i)) (fun j _ => rfl)
        · refine w_push (pc' := 36) (v := .int ((Int8.ofInt (-2)).toInt32)) (m := 2) (ykc_237 (e := (1, .bipush (-2), 0)) rfl) rfl rfl ?_
          refine w_ret (v := (some (.int ((Int8.ofInt (-2)).toInt32)))) (ykc_237 (e := (7, .ireturn, 0)) rfl) (zr_v rfl) ?_
          have f2 : zFr [] [(170, 0)] ph _ := zFr_st u1166 (Or.inr (by simp))
          have d9 := of_decide_eq_true b1170
          have ea : zsa v P kd nn ff sp = (Int8.ofInt (-2)).toInt32 := (by
            unfold zsa
            rw [if_neg (by omega), if_neg (by omega), if_pos (by omega)])
          have er : zsr v P kd nn ff sp = v := if_pos (Or.inr (by omega))
          rw [hQ]
          refine ⟨by rw [ea], ?_⟩
          rw [er]
          exact ⟨zMl_F f2 (by simp) (by simp) (by simp) (by simp) hL0, zMp_F f2 (by simp) (by simp) (by simp) hN0, zNr_F f2 (by simp) (by simp) hv, zMu_F f2 (by simp) (by simp) (by simp) hU, zMk_F f2 (by simp) (by simp) (by simp) hk, zMh_F f2 (by simp) (by simp) hh⟩
    · refine w_alu (pc' := 24) (st' := [.int (Int32.ofInt (-1))]) (ykc_237 (e := (0, .iconst (-1), 0)) rfl) rfl rfl ?_
      refine w_ret (v := (some (.int (Int32.ofInt (-1))))) (ykc_237 (e := (7, .ireturn, 0)) rfl) (zr_v rfl) ?_
      have f2 : zFr [] [(170, 0)] ph _ := zFr_st u1166 (Or.inr (by simp))
      have d9 := of_decide_eq_true b1170
      have ea : zsa v P kd nn ff sp = Int32.ofInt (-1) := if_pos (by omega)
      have er : zsr v P kd nn ff sp = v := if_pos (Or.inl (by omega))
      rw [hQ]
      refine ⟨by rw [ea], ?_⟩
      rw [er]
      exact ⟨zMl_F f2 (by simp) (by simp) (by simp) (by simp) hL0, zMp_F f2 (by simp) (by simp) (by simp) hN0, zNr_F f2 (by simp) (by simp) hv, zMu_F f2 (by simp) (by simp) (by simp) hU, zMk_F f2 (by simp) (by simp) (by simp) hk, zMh_F f2 (by simp) (by simp) hh⟩

/-! the class: heard, by W; printed by wip/z/z_y_heard.py -/
theorem zc_heard {ph : pm_H} {R C P G nx u fl hn : Nat} {rk : Nat → Bool} {v : Nat → Nat} {w : Nat → Nat → Nat} {sv : Nat → Nat → Nat} (hS : zSh ph) (hK : zKC ph R C rk P G v nx u w fl sv hn) (hO0 : zOk R C P G v) {x y : Int32} (h13 : ∃ m, zc ph 0 13 = some (.long m)) (h82 : ∀ p, p < P → zM 82 [.ref 10, .ref 25, .int (zn p)] ph (fun v0 q => zCx ph q ∧ ∃ m, v0 = some (.long m))) : zM 166 [.ref 0, .int x, .int y] ph (fun v0 q => ((x.toInt < 0 ∨ (P : Int) ≤ x.toInt ∨ y.toInt < 0 ∨ 1 < y.toInt ∨ hn = 10) ∧ v0 = some (.int (Int32.ofInt (-1))) ∧ zKC q R C rk P G v nx u w fl sv hn) ∨ (0 ≤ x.toInt ∧ x.toInt < (P : Int) ∧ 0 ≤ y.toInt ∧ y.toInt ≤ 1 ∧ hn < 10 ∧ v0 = some (.int (zn (hn + 1))) ∧ zKC q R C rk P G v nx u w fl sv (hn + 1))) := by
  obtain ⟨Q, hQ⟩ : ∃ Q : Option Value → pm_H → Prop, Q = (fun v0 q => ((x.toInt < 0 ∨ (P : Int) ≤ x.toInt ∨ y.toInt < 0 ∨ 1 < y.toInt ∨ hn = 10) ∧ v0 = some (.int (Int32.ofInt (-1))) ∧ zKC q R C rk P G v nx u w fl sv hn) ∨ (0 ≤ x.toInt ∧ x.toInt < (P : Int) ∧ 0 ≤ y.toInt ∧ y.toInt ≤ 1 ∧ hn < 10 ∧ v0 = some (.int (zn (hn + 1))) ∧ zKC q R C rk P G v nx u w fl sv (hn + 1))) := ⟨_, rfl⟩
  rw [← hQ]
  refine zM_mk fun n D => ?_
  show zW n D 166 Q 0 [some (.ref 0), some (.int x), some (.int y), none, none] [] ph
  have c_0 : ((Int8.ofInt 10).toInt32).toInt = 10 := by decide
  have c_1 : (Int32.ofInt (-1)).toInt = -1 := by decide
  have c_2 : (Int32.ofInt 1).toInt = 1 := by decide
  obtain ⟨m13, h13m⟩ := h13
  have hd := hK.2.1
  have hh := hK.2.2.2.2
  have hP8 : P ≤ 8 := hd.2.1
  have thn := znt (k := hn) (by have := hh.2; omega)
  have hn10 := hh.2
  refine w_load (pc' := 1) (v := .ref 0) (m := 1) (ykc_166 (e := (2, .aload_n kF0, 0)) rfl) rfl rfl ?_
  refine w_gf (pc' := 4) (v := .ref 25) (ykc_166 (e := (5, .getfield 42, 0)) rfl) rfl (zsg hS zs_0_4) rfl ?_
  refine w_load (pc' := 5) (v := .int x) (m := 1) (ykc_166 (e := (2, .iload_n kF1, 0)) rfl) rfl rfl ?_
  refine w_cv (as := [.ref 25, .int x]) (r := []) (ykc_166 (e := (6, .invokevirtual 167, 0)) rfl) rfl rfl rfl rfl (zc_hasP (zSs_of hS (S := 25) (by decide)) hd (i := x)) (fun v1306 ph1307 hv => ?_)
  obtain ⟨rfl, rfl⟩ := hv
  show zW n D 166 Q 8 [some (.ref 0), some (.int x), some (.int y), none, none] [.int (zI (decide (0 ≤ x.toInt ∧ x.toInt < ((P : Nat) : Int))))] ph
  refine w_beq (ykc_166 (e := (4, .ifCond .eq 21, 29)) rfl) rfl (fun b1308 => ?_) (fun b1308 => ?_)
  · refine w_alu (pc' := 30) (st' := [.int (Int32.ofInt (-1))]) (ykc_166 (e := (0, .iconst (-1), 0)) rfl) rfl rfl ?_
    refine w_ret (v := (some (.int (Int32.ofInt (-1))))) (ykc_166 (e := (7, .ireturn, 0)) rfl) (zr_v rfl) ?_
    have d9 := of_decide_eq_false b1308
    rw [hQ]
    exact Or.inl ⟨by omega, rfl, hK⟩
  · refine w_load (pc' := 12) (v := .int y) (m := 1) (ykc_166 (e := (2, .iload_n kF2, 0)) rfl) rfl rfl ?_
    refine w_zlt (ykc_166 (e := (4, .ifCond .lt 17, 29)) rfl) rfl (fun b1309 => ?_) (fun b1309 => ?_)
    · refine w_alu (pc' := 30) (st' := [.int (Int32.ofInt (-1))]) (ykc_166 (e := (0, .iconst (-1), 0)) rfl) rfl rfl ?_
      refine w_ret (v := (some (.int (Int32.ofInt (-1))))) (ykc_166 (e := (7, .ireturn, 0)) rfl) (zr_v rfl) ?_
      rw [hQ]
      exact Or.inl ⟨by omega, rfl, hK⟩
    · refine w_load (pc' := 16) (v := .int y) (m := 1) (ykc_166 (e := (2, .iload_n kF2, 0)) rfl) rfl rfl ?_
      refine w_alu (pc' := 17) (st' := [.int (Int32.ofInt 1), .int y]) (ykc_166 (e := (0, .iconst 1, 0)) rfl) rfl rfl ?_
      refine w_igt (ykc_166 (e := (4, .if_icmp .gt 12, 29)) rfl) rfl (fun b1310 => ?_) (fun b1310 => ?_)
      · refine w_alu (pc' := 30) (st' := [.int (Int32.ofInt (-1))]) (ykc_166 (e := (0, .iconst (-1), 0)) rfl) rfl rfl ?_
        refine w_ret (v := (some (.int (Int32.ofInt (-1))))) (ykc_166 (e := (7, .ireturn, 0)) rfl) (zr_v rfl) ?_
        rw [hQ]
        exact Or.inl ⟨by omega, rfl, hK⟩
      · refine w_load (pc' := 21) (v := .ref 0) (m := 1) (ykc_166 (e := (2, .aload_n kF0, 0)) rfl) rfl rfl ?_
        refine w_gf (pc' := 24) (v := .int (zn hn)) (ykc_166 (e := (5, .getfield 100, 0)) rfl) rfl hh.1 rfl ?_
        refine w_push (pc' := 26) (v := .int ((Int8.ofInt 10).toInt32)) (m := 2) (ykc_166 (e := (1, .bipush 10, 0)) rfl) rfl rfl ?_
        refine w_ilt (ykc_166 (e := (4, .if_icmp .lt 5, 31)) rfl) rfl (fun b1311 => ?_) (fun b1311 => ?_)
        · have d9 := of_decide_eq_true b1308
          obtain ⟨p, hp⟩ : ∃ p : Nat, x.toInt = (p : Int) := ⟨x.toInt.toNat, by omega⟩
          obtain rfl := zn_of hp
          have hpP : p < P := by omega
          have tp := znt (k := p) (by omega)
          show zW n D 166 Q 31 [some (.ref 0), some (.int (zn p)), some (.int y), none, none] [] ph
          refine w_load (pc' := 32) (v := .ref 0) (m := 1) (ykc_166 (e := (2, .aload_n kF0, 0)) rfl) rfl rfl ?_
          refine w_gf (pc' := 35) (v := .ref 10) (ykc_166 (e := (5, .getfield 35, 0)) rfl) rfl (zsg hS zs_0_3) rfl ?_
          refine w_load (pc' := 36) (v := .ref 0) (m := 1) (ykc_166 (e := (2, .aload_n kF0, 0)) rfl) rfl rfl ?_
          refine w_gf (pc' := 39) (v := .ref 25) (ykc_166 (e := (5, .getfield 42, 0)) rfl) rfl (zsg hS zs_0_4) rfl ?_
          refine w_load (pc' := 40) (v := .int (zn p)) (m := 1) (ykc_166 (e := (2, .iload_n kF1, 0)) rfl) rfl rfl ?_
          refine w_cv (as := [.ref 10, .ref 25, .int (zn p)]) (r := []) (ykc_166 (e := (6, .invokevirtual 190, 0)) rfl) rfl rfl rfl rfl (h82 p hpP) (fun v1312 ph1313 hv => ?_)
          obtain ⟨f82, m82, rfl⟩ := hv
          show zW n D 166 Q 43 [some (.ref 0), some (.int (zn p)), some (.int y), none, none] [.long m82] ph1313
          refine w_store (pc' := 44) (L' := [some (.ref 0), some (.int (zn p)), some (.int y), some (.long m82), none]) (st' := []) (m := 1) (ykc_166 (e := (3, .lstore_n kF3, 0)) rfl) rfl rfl ?_
          refine w_load (pc' := 45) (v := .ref 0) (m := 1) (ykc_166 (e := (2, .aload_n kF0, 0)) rfl) rfl rfl ?_
          refine w_alu (pc' := 46) (st' := [.ref 0, .ref 0]) (ykc_166 (e := (0, .dup, 0)) rfl) rfl rfl ?_
          refine w_gf (pc' := 49) (v := .long m13) (ykc_166 (e := (5, .getfield 96, 0)) rfl) rfl ((f82.1 0 13 (by decide) (by decide)).trans h13m) rfl ?_
          refine w_load (pc' := 50) (v := .int y) (m := 1) (ykc_166 (e := (2, .iload_n kF2, 0)) rfl) rfl rfl ?_
          refine w_alu (pc' := 51) (st' := [.int (Int32.ofInt 1), .int y, .long m13, .ref 0]) (ykc_166 (e := (0, .iconst 1, 0)) rfl) rfl rfl ?_
          refine w_ine (ykc_166 (e := (4, .if_icmp .ne 7, 58)) rfl) rfl (fun b1314 => ?_) (fun b1314 => ?_)
          · refine w_load (pc' := 59) (v := .long m82) (m := 1) (ykc_166 (e := (2, .lload_n kF3, 0)) rfl) rfl rfl ?_
            refine w_push (pc' := 62) (v := .long (-1 : Int64)) (m := 3) (ykc_166 (e := (1, .ldc2_w 94, 0)) rfl) rfl rfl ?_
            refine w_alu (pc' := 63) (st' := [.long (m82 ^^^ (-1 : Int64)), .long m13, .ref 0]) (ykc_166 (e := (0, .lxor, 0)) rfl) rfl rfl ?_
            refine w_alu (pc' := 64) (st' := [.long (m13 &&& (m82 ^^^ (-1 : Int64))), .ref 0]) (ykc_166 (e := (0, .land, 0)) rfl) rfl rfl ?_
            refine w_pf (pc' := 67) (ykc_166 (e := (5, .putfield 96, 0)) rfl) rfl rfl (fun ph1316 u1315 => ?_)
            refine w_load (pc' := 68) (v := .ref 0) (m := 1) (ykc_166 (e := (2, .aload_n kF0, 0)) rfl) rfl rfl ?_
            refine w_alu (pc' := 69) (st' := [.ref 0, .ref 0]) (ykc_166 (e := (0, .dup, 0)) rfl) rfl rfl ?_
            refine w_gf (pc' := 72) (v := .int (zn hn)) (ykc_166 (e := (5, .getfield 100, 0)) rfl) rfl ((u1315.2.1 0 14 (fun q => absurd q.2 (by decide))).trans ((f82.1 0 14 (by decide) (by decide)).trans hh.1)) rfl ?_
            refine w_alu (pc' := 73) (st' := [.int (Int32.ofInt 1), .int (zn hn), .ref 0]) (ykc_166 (e := (0, .iconst 1, 0)) rfl) rfl rfl ?_
            have e1317 : (zn hn) + (Int32.ofInt 1) = zn (hn + 1) := (zaddN (a := hn) (b := 1) (znt (by omega)) c_2 (by omega)) 
            have te1317 := znt (k := hn + 1) (by omega)
            refine w_alu (pc' := 74) (st' := [.int (zn (hn + 1)), .ref 0]) (ykc_166 (e := (0, .iadd, 0)) rfl) (by rw [← e1317]; rfl) rfl ?_
            refine w_pf (pc' := 77) (ykc_166 (e := (5, .putfield 100, 0)) rfl) rfl rfl (fun ph1319 u1318 => ?_)
            refine w_load (pc' := 78) (v := .ref 0) (m := 1) (ykc_166 (e := (2, .aload_n kF0, 0)) rfl) rfl rfl ?_
            refine w_gf (pc' := 81) (v := .int (zn (hn + 1))) (ykc_166 (e := (5, .getfield 100, 0)) rfl) rfl u1318.1 rfl ?_
            refine w_ret (v := (some (.int (zn (hn + 1))))) (ykc_166 (e := (7, .ireturn, 0)) rfl) (zr_v rfl) ?_
            have f2 : zFr [8, 9, 15, 20, 22, 23, 24] [(5, 4), (0, 13), (0, 14)] ph _ := zFr_trans (zFr_mono f82 (by simp) (by simp)) (zFr_trans (zFr_st u1315 (Or.inr (by simp))) (zFr_st u1318 (Or.inr (by simp))))
            rw [hQ]
            exact Or.inr ⟨by omega, by omega, by omega, by omega, by omega, rfl, zCl_F f2 (by simp) (by intro i hi; simp <;> omega) (by simp) hK.1, zSd_F f2 (by intro j hj; simp <;> omega) (by intro j k hj; simp <;> omega) hd, zCu_F f2 (by simp) (by simp) (by intro j h1 h2; simp <;> omega) (by intro j i h1 h2; simp <;> omega) hK.2.2.1, zCk_F f2 (by simp) (by simp) (by intro j h1 h2; simp <;> omega) (by intro j i h1 h2; simp <;> omega) hK.2.2.2.1, u1318.1, by omega⟩
          · refine w_load (pc' := 55) (v := .long m82) (m := 1) (ykc_166 (e := (2, .lload_n kF3, 0)) rfl) rfl rfl ?_
            refine w_br (pc' := 63) (st' := [.long m82, .long m13, .ref 0]) (ykc_166 (e := (4, .goto 8, 63)) rfl) rfl ?_
            refine w_alu (pc' := 64) (st' := [.long (m13 &&& m82), .ref 0]) (ykc_166 (e := (0, .land, 0)) rfl) rfl rfl ?_
            refine w_pf (pc' := 67) (ykc_166 (e := (5, .putfield 96, 0)) rfl) rfl rfl (fun ph1321 u1320 => ?_)
            refine w_load (pc' := 68) (v := .ref 0) (m := 1) (ykc_166 (e := (2, .aload_n kF0, 0)) rfl) rfl rfl ?_
            refine w_alu (pc' := 69) (st' := [.ref 0, .ref 0]) (ykc_166 (e := (0, .dup, 0)) rfl) rfl rfl ?_
            refine w_gf (pc' := 72) (v := .int (zn hn)) (ykc_166 (e := (5, .getfield 100, 0)) rfl) rfl ((u1320.2.1 0 14 (fun q => absurd q.2 (by decide))).trans ((f82.1 0 14 (by decide) (by decide)).trans hh.1)) rfl ?_
            refine w_alu (pc' := 73) (st' := [.int (Int32.ofInt 1), .int (zn hn), .ref 0]) (ykc_166 (e := (0, .iconst 1, 0)) rfl) rfl rfl ?_
            have e1322 : (zn hn) + (Int32.ofInt 1) = zn (hn + 1) := (zaddN (a := hn) (b := 1) (znt (by omega)) c_2 (by omega)) 
            have te1322 := znt (k := hn + 1) (by omega)
            refine w_alu (pc' := 74) (st' := [.int (zn (hn + 1)), .ref 0]) (ykc_166 (e := (0, .iadd, 0)) rfl) (by rw [← e1322]; rfl) rfl ?_
            refine w_pf (pc' := 77) (ykc_166 (e := (5, .putfield 100, 0)) rfl) rfl rfl (fun ph1324 u1323 => ?_)
            refine w_load (pc' := 78) (v := .ref 0) (m := 1) (ykc_166 (e := (2, .aload_n kF0, 0)) rfl) rfl rfl ?_
            refine w_gf (pc' := 81) (v := .int (zn (hn + 1))) (ykc_166 (e := (5, .getfield 100, 0)) rfl) rfl u1323.1 rfl ?_
            refine w_ret (v := (some (.int (zn (hn + 1))))) (ykc_166 (e := (7, .ireturn, 0)) rfl) (zr_v rfl) ?_
            have f2 : zFr [8, 9, 15, 20, 22, 23, 24] [(5, 4), (0, 13), (0, 14)] ph _ := zFr_trans (zFr_mono f82 (by simp) (by simp)) (zFr_trans (zFr_st u1320 (Or.inr (by simp))) (zFr_st u1323 (Or.inr (by simp))))
            rw [hQ]
            exact Or.inr ⟨by omega, by omega, by omega, by omega, by omega, rfl, zCl_F f2 (by simp) (by intro i hi; simp <;> omega) (by simp) hK.1, zSd_F f2 (by intro j hj; simp <;> omega) (by intro j k hj; simp <;> omega) hd, zCu_F f2 (by simp) (by simp) (by intro j h1 h2; simp <;> omega) (by intro j i h1 h2; simp <;> omega) hK.2.2.1, zCk_F f2 (by simp) (by simp) (by intro j h1 h2; simp <;> omega) (by intro j i h1 h2; simp <;> omega) hK.2.2.2.1, u1323.1, by omega⟩
        · refine w_alu (pc' := 30) (st' := [.int (Int32.ofInt (-1))]) (ykc_166 (e := (0, .iconst (-1), 0)) rfl) rfl rfl ?_
          refine w_ret (v := (some (.int (Int32.ofInt (-1))))) (ykc_166 (e := (7, .ireturn, 0)) rfl) (zr_v rfl) ?_
          rw [hQ]
          exact Or.inl ⟨by omega, rfl, hK⟩

/-! hours, of both, by W; printed by wip/z/z_z_hours.py -/
theorem zKC_n {p q : pm_H} {R C P G nx u fl hn : Nat} {rk : Nat → Bool} {v : Nat → Nat} {w sv : Nat → Nat → Nat} (f : zFr [4] [(3, 1)] p q) (h : zKC p R C rk P G v nx u w fl sv hn) : zKC q R C rk P G v nx u w fl sv hn := ⟨zCl_F f (by simp) (by intro i hi; simp) (by simp) h.1, zSd_F f (by intro j hj; simp <;> omega) (by intro j k hj; simp <;> omega) h.2.1, zCu_F f (by simp) (by simp) (by intro j h1 h2; simp <;> omega) (by intro j i h1 h2; simp <;> omega) h.2.2.1, zCk_F f (by simp) (by simp) (by intro j h1 h2; simp <;> omega) (by intro j i h1 h2; simp <;> omega) h.2.2.2.1, (f.1 _ _ (by simp) (by simp)).trans h.2.2.2.2.1, h.2.2.2.2.2⟩
theorem zN_S {p q : pm_H} (f : zFr [4] [(3, 1)] p q) (h : zSh p) : zSh q := zSh_F f (by decide +kernel) h
theorem zN_b {p q : pm_H} {P G : Nat} {v : Nat → Nat} (f : zFr [4] [(3, 1)] p q) (h : zSd p 31 P G v) : zSd q 31 P G v := zSd_F f (by intro j hj; simp <;> omega) (by intro j k hj; simp <;> omega) h
/-- hours passed, then the row before them put into the history -/
theorem zKC_pp {p1 p2 q1 q2 q : pm_H} {R C P G nx u fl hn : Nat} {rk : Nat → Bool} {v v2 : Nat → Nat} {w sv : Nat → Nat → Nat} (h : zKC p1 R C rk P G v nx u w fl sv hn) (f0 : zCp 25 p1 p2) (hd2 : zSd p2 25 P G v2) (f : zCo (45 + 6 * nx) p2 q1) (u1 : zst q1 q2 43 1 (.int (zn (if nx + 1 < 15 then nx + 1 else 0)))) (u2 : zst q2 q 43 2 (.int (zn (min 15 (u + 1))))) (hd : zSd q (45 + 6 * nx) P G v) : zKC q R C rk P G v2 (if nx + 1 < 15 then nx + 1 else 0) (zAd u) (zAw u (zWp u w v)) fl sv hn := by
  obtain ⟨hL, h25, hU, hk, hh⟩ := h
  have fr : zFr [] [(43, 1), (43, 2)] q1 q := zFr_trans (zFr_st u1 (Or.inr (by simp))) (zFr_st u2 (Or.inr (by simp)))
  have hnx := hU.2.1
  refine ⟨?_, ?_, zCu_push (zCu_F f0 (by simp) (by simp) (by intro j h1 h2; simp <;> omega) (by intro j i h1 h2; simp <;> omega) hU) f u1 u2 hd, ?_, ?_, hh.2⟩
  · exact zCl_F fr (by simp) (by intro i hi; simp) (by simp) (zCl_F f (by simp <;> omega) (by intro i hi; simp <;> omega) (by intro i; simp <;> omega) (zCl_F f0 (by simp) (by intro i hi; simp <;> omega) (by simp) hL))
  · exact zSd_F fr (by intro j hj; simp) (by intro j k hj; simp <;> omega) (zCo_d (by omega) f hd2)
  · exact zCk_F fr (by simp) (by simp) (by intro j h1 h2; simp) (by intro j i h1 h2; simp <;> omega) (zCk_F f (by simp <;> omega) (by simp <;> omega) (by intro j h1 h2; simp <;> omega) (by intro j i h1 h2; simp <;> omega) (zCk_F f0 (by simp) (by simp) (by intro j h1 h2; simp <;> omega) (by intro j i h1 h2; simp <;> omega) hk))
  · exact (fr.1 _ _ (by simp) (by simp)).trans ((f.1 _ _ (by simp <;> omega) (by simp <;> omega)).trans ((f0.1 _ _ (by simp) (by simp)).trans hh.1))
theorem zc_anew {ph : pm_H} : zM 57 [.ref 3] ph (fun v0 q => v0 = some (.ref 3) ∧ zFr [4] [(3, 1)] ph q ∧ zc q 3 1 = some (.int (zn 0))) := by
  obtain ⟨Q, hQ⟩ : ∃ Q : Option Value → pm_H → Prop, Q = (fun v0 q => v0 = some (.ref 3) ∧ zFr [4] [(3, 1)] ph q ∧ zc q 3 1 = some (.int (zn 0))) := ⟨_, rfl⟩
  rw [← hQ]
  refine zM_mk fun n D => ?_
  show zW n D 57 Q 0 [some (.ref 3)] [] ph
  have c_0 : (Int32.ofInt 0).toInt = 0 := by decide
  refine w_load (pc' := 1) (v := .ref 3) (m := 1) (ykc_57 (e := (2, .aload_n kF0, 0)) rfl) rfl rfl ?_
  refine w_alu (pc' := 2) (st' := [.int (Int32.ofInt 0), .ref 3]) (ykc_57 (e := (0, .iconst 0, 0)) rfl) rfl rfl ?_
  refine w_pf (pc' := 5) (ykc_57 (e := (5, .putfield 15, 0)) rfl) rfl rfl (fun ph1326 u1325 => ?_)
  refine w_load (pc' := 6) (v := .ref 3) (m := 1) (ykc_57 (e := (2, .aload_n kF0, 0)) rfl) rfl rfl ?_
  refine w_ret (v := (some (.ref 3))) (ykc_57 (e := (7, .areturn, 0)) rfl) (zr_v rfl) ?_
  rw [hQ]
  exact ⟨rfl, zFr_st u1325 (Or.inr (by simp)), u1325.1⟩
theorem zc_add {ph : pm_H} (hS : zSh ph) {k : Nat} {x : Int64} (hk : zc ph 3 1 = some (.int (zn k))) (h49 : k < 49) : zM 58 [.ref 3, .long x] ph (fun v0 q => v0 = some (.ref 3) ∧ zFr [4] [(3, 1)] ph q ∧ zc q 3 1 = some (.int (zn (k + 1)))) := by
  obtain ⟨Q, hQ⟩ : ∃ Q : Option Value → pm_H → Prop, Q = (fun v0 q => v0 = some (.ref 3) ∧ zFr [4] [(3, 1)] ph q ∧ zc q 3 1 = some (.int (zn (k + 1)))) := ⟨_, rfl⟩
  rw [← hQ]
  refine zM_mk fun n D => ?_
  show zW n D 58 Q 0 [some (.ref 3), some (.long x), none] [] ph
  have c_0 : ((Int8.ofInt 49).toInt32).toInt = 49 := by decide
  have c_1 : (Int32.ofInt 1).toInt = 1 := by decide
  have tk := znt (k := k) (by omega)
  refine w_load (pc' := 1) (v := .ref 3) (m := 1) (ykc_58 (e := (2, .aload_n kF0, 0)) rfl) rfl rfl ?_
  refine w_gf (pc' := 4) (v := .int (zn k)) (ykc_58 (e := (5, .getfield 15, 0)) rfl) rfl hk rfl ?_
  refine w_zlt (ykc_58 (e := (4, .ifCond .lt 32, 36)) rfl) rfl (fun q => by exfalso; omega) (fun b1327 => ?_)
  refine w_load (pc' := 8) (v := .ref 3) (m := 1) (ykc_58 (e := (2, .aload_n kF0, 0)) rfl) rfl rfl ?_
  refine w_gf (pc' := 11) (v := .int (zn k)) (ykc_58 (e := (5, .getfield 15, 0)) rfl) rfl hk rfl ?_
  refine w_push (pc' := 13) (v := .int ((Int8.ofInt 49).toInt32)) (m := 2) (ykc_58 (e := (1, .bipush 49, 0)) rfl) rfl rfl ?_
  refine w_ige (ykc_58 (e := (4, .if_icmp .ge 23, 36)) rfl) rfl (fun q => by exfalso; omega) (fun b1328 => ?_)
  refine w_load (pc' := 17) (v := .ref 3) (m := 1) (ykc_58 (e := (2, .aload_n kF0, 0)) rfl) rfl rfl ?_
  refine w_gf (pc' := 20) (v := .ref 4) (ykc_58 (e := (5, .getfield 11, 0)) rfl) rfl (zsg hS zs_3_0) rfl ?_
  refine w_load (pc' := 21) (v := .ref 3) (m := 1) (ykc_58 (e := (2, .aload_n kF0, 0)) rfl) rfl rfl ?_
  refine w_gf (pc' := 24) (v := .int (zn k)) (ykc_58 (e := (5, .getfield 15, 0)) rfl) rfl hk rfl ?_
  refine w_load (pc' := 25) (v := .long x) (m := 1) (ykc_58 (e := (2, .lload_n kF1, 0)) rfl) rfl rfl ?_
  refine w_las (pc' := 26) (k := k) (ykc_58 (e := (5, .lastore, 0)) rfl) (by omega) rfl (fun ph1330 u1329 => ?_)
  refine w_load (pc' := 27) (v := .ref 3) (m := 1) (ykc_58 (e := (2, .aload_n kF0, 0)) rfl) rfl rfl ?_
  refine w_alu (pc' := 28) (st' := [.ref 3, .ref 3]) (ykc_58 (e := (0, .dup, 0)) rfl) rfl rfl ?_
  refine w_gf (pc' := 31) (v := .int (zn k)) (ykc_58 (e := (5, .getfield 15, 0)) rfl) rfl ((u1329.2.1 3 1 (fun q => absurd q.1 (by decide))).trans hk) rfl ?_
  refine w_alu (pc' := 32) (st' := [.int (Int32.ofInt 1), .int (zn k), .ref 3]) (ykc_58 (e := (0, .iconst 1, 0)) rfl) rfl rfl ?_
  have e1331 : (zn k) + (Int32.ofInt 1) = zn (k + 1) := (zaddN (a := k) (b := 1) (znt (by omega)) c_1 (by omega)) 
  have te1331 := znt (k := k + 1) (by omega)
  refine w_alu (pc' := 33) (st' := [.int (zn (k + 1)), .ref 3]) (ykc_58 (e := (0, .iadd, 0)) rfl) (by rw [← e1331]; rfl) rfl ?_
  refine w_pf (pc' := 36) (ykc_58 (e := (5, .putfield 15, 0)) rfl) rfl rfl (fun ph1333 u1332 => ?_)
  refine w_load (pc' := 37) (v := .ref 3) (m := 1) (ykc_58 (e := (2, .aload_n kF0, 0)) rfl) rfl rfl ?_
  refine w_ret (v := (some (.ref 3))) (ykc_58 (e := (7, .areturn, 0)) rfl) (zr_v rfl) ?_
  rw [hQ]
  exact ⟨rfl, zFr_trans (zFr_st u1329 (Or.inl (by simp))) (zFr_st u1332 (Or.inr (by simp))), u1332.1⟩
theorem zc_some {ph : pm_H} {S P G : Nat} {v : Nat → Nat} (hs : zSs ph S) (hd : zSd ph S P G v) : zM 109 [.ref S] ph (fun v0 q => ph = q ∧ ∃ y, v0 = some (.int y)) := by
  obtain ⟨Q, hQ⟩ : ∃ Q : Option Value → pm_H → Prop, Q = (fun v0 q => ph = q ∧ ∃ y, v0 = some (.int y)) := ⟨_, rfl⟩
  rw [← hQ]
  refine zM_mk fun n D => ?_
  show zW n D 109 Q 0 [some (.ref S), none, none] [] ph
  have c_0 : ((Int8.ofInt 8).toInt32).toInt = 8 := by decide
  have c_1 : (Int32.ofInt 0).toInt = 0 := by decide
  have c_2 : (Int32.ofInt 1).toInt = 1 := by decide
  have hd0 := hd
  have hs0 := hs
  obtain ⟨r3, r4, r5, r6, r7, l1, l2, l3, l4, l5⟩ := hs
  obtain ⟨gP, hP8, gG, hG8, gH, gv, gw⟩ := hd
  have tP := znt (k := P) (by omega)
  have tG := znt (k := G) (by omega)
  refine w_alu (pc' := 1) (st' := [.int (Int32.ofInt 0)]) (ykc_109 (e := (0, .iconst 0, 0)) rfl) rfl rfl ?_
  refine w_store (pc' := 2) (L' := [some (.ref S), some (.int (Int32.ofInt 0)), none]) (st' := []) (m := 1) (ykc_109 (e := (3, .istore_n kF1, 0)) rfl) rfl rfl ?_
  refine w_alu (pc' := 3) (st' := [.int (Int32.ofInt 0)]) (ykc_109 (e := (0, .iconst 0, 0)) rfl) rfl rfl ?_
  refine w_store (pc' := 4) (L' := [some (.ref S), some (.int (Int32.ofInt 0)), some (.int (Int32.ofInt 0))]) (st' := []) (m := 1) (ykc_109 (e := (3, .istore_n kF2, 0)) rfl) rfl rfl ?_
  have hl : ∀ (n : Nat), ∀ (k : Nat) (a : Int32), (k ≤ P) → zW n D 109 Q 4 [some (.ref S), some (.int a), some (.int (zn k))] [] ph := by
    intro n
    induction n using Nat.strongRecOn with
    | ind n ih =>
      intro k a hk
      have tk := znt (k := k) (by omega)
      refine w_load (pc' := 5) (v := .int (zn k)) (m := 1) (ykc_109 (e := (2, .iload_n kF2, 0)) rfl) rfl rfl ?_
      refine w_load (pc' := 6) (v := .ref S) (m := 1) (ykc_109 (e := (2, .aload_n kF0, 0)) rfl) rfl rfl ?_
      refine w_gf (pc' := 9) (v := .int (zn P)) (ykc_109 (e := (5, .getfield 30, 0)) rfl) rfl gP rfl ?_
      refine w_ige (ykc_109 (e := (4, .if_icmp .ge 24, 33)) rfl) rfl (fun b1334 => ?_) (fun b1334 => ?_)
      · refine w_load (pc' := 34) (v := .int a) (m := 1) (ykc_109 (e := (2, .iload_n kF1, 0)) rfl) rfl rfl ?_
        refine w_ret (v := (some (.int a))) (ykc_109 (e := (7, .ireturn, 0)) rfl) (zr_v rfl) ?_
        rw [hQ]
        exact ⟨rfl, _, rfl⟩
      · refine w_load (pc' := 13) (v := .int (zn k)) (m := 1) (ykc_109 (e := (2, .iload_n kF2, 0)) rfl) rfl rfl ?_
        refine w_push (pc' := 15) (v := .int ((Int8.ofInt 8).toInt32)) (m := 2) (ykc_109 (e := (1, .bipush 8, 0)) rfl) rfl rfl ?_
        refine w_ige (ykc_109 (e := (4, .if_icmp .ge 18, 33)) rfl) rfl (fun q => by exfalso; omega) (fun b1335 => ?_)
        refine w_load (pc' := 19) (v := .int a) (m := 1) (ykc_109 (e := (2, .iload_n kF1, 0)) rfl) rfl rfl ?_
        refine w_load (pc' := 20) (v := .ref S) (m := 1) (ykc_109 (e := (2, .aload_n kF0, 0)) rfl) rfl rfl ?_
        refine w_gf (pc' := 23) (v := .ref (S + 4)) (ykc_109 (e := (5, .getfield 21, 0)) rfl) rfl r6 rfl ?_
        refine w_load (pc' := 24) (v := .int (zn k)) (m := 1) (ykc_109 (e := (2, .iload_n kF2, 0)) rfl) rfl rfl ?_
        refine w_ialk (pc' := 25) (k := k) (ykc_109 (e := (5, .iaload, 0)) rfl) (gv k (by omega)).2.2.2 (by omega) rfl ?_
        refine w_alu (pc' := 26) (st' := [.int (a ||| (zn (v (24 + k))))]) (ykc_109 (e := (0, .ior, 0)) rfl) rfl rfl ?_
        refine w_store (pc' := 27) (L' := [some (.ref S), some (.int (a ||| (zn (v (24 + k))))), some (.int (zn k))]) (st' := []) (m := 1) (ykc_109 (e := (3, .istore_n kF1, 0)) rfl) rfl rfl ?_
        have e1336 : (zn k) + Int32.ofInt 1 = zn (k + 1) := (zaddN (a := k) (b := 1) (znt (by omega)) c_2 (by omega))
        have te1336 := znt (k := k + 1) (by omega)
        refine w_store (pc' := 30) (L' := [some (.ref S), some (.int (a ||| (zn (v (24 + k))))), some (.int (zn (k + 1)))]) (st' := []) (m := 3) (ykc_109 (e := (3, .iinc 2 1, 0)) rfl) (by rw [← e1336]; rfl) rfl ?_
        refine w_gb (ykc_109 (e := (4, .goto (-26), 4)) rfl) (fun k1337 hk1337 => ?_)
        exact ih k1337 hk1337 (k + 1) _ (by omega)
  exact hl n 0 _ (Nat.zero_le _)
theorem zc_hours {ph : pm_H} {R C P G nx u fl hn : Nat} {rk : Nat → Bool} {v : Nat → Nat} {w : Nat → Nat → Nat} {sv : Nat → Nat → Nat} (hS : zSh ph) (hK : zKC ph R C rk P G v nx u w fl sv hn) (hO0 : zOk R C P G v) {x : Int32} {T : (Nat → Nat) → Int32 → Prop} (h92 : 0 ≤ x.toInt → x.toInt ≤ 60 → ∀ q, zCo 31 ph q → zM 92 [.ref 10, .ref 25, .int x] q (fun v0 q2 => zCp 25 q q2 ∧ ∃ v2 y, v0 = some (.int y) ∧ 0 ≤ y.toInt ∧ zSd q2 25 P G v2 ∧ T v2 y)) : zM 133 [.ref 0, .int x] ph (fun v0 q => ((x.toInt < 0 ∨ 60 < x.toInt) ∧ v0 = some (.int (Int32.ofInt (-1))) ∧ zKC q R C rk P G v nx u w fl sv hn) ∨ (0 ≤ x.toInt ∧ x.toInt ≤ 60 ∧ ∃ v2 y, v0 = some (.int y) ∧ T v2 y ∧ ∃ nx1, zKC q R C rk P G v2 nx1 (zAd u) (zAw u (zWp u w v)) fl sv hn)) := by
  obtain ⟨Q, hQ⟩ : ∃ Q : Option Value → pm_H → Prop, Q = (fun v0 q => ((x.toInt < 0 ∨ 60 < x.toInt) ∧ v0 = some (.int (Int32.ofInt (-1))) ∧ zKC q R C rk P G v nx u w fl sv hn) ∨ (0 ≤ x.toInt ∧ x.toInt ≤ 60 ∧ ∃ v2 y, v0 = some (.int y) ∧ T v2 y ∧ ∃ nx1, zKC q R C rk P G v2 nx1 (zAd u) (zAw u (zWp u w v)) fl sv hn)) := ⟨_, rfl⟩
  rw [← hQ]
  refine zM_mk fun n D => ?_
  show zW n D 133 Q 0 [some (.ref 0), some (.int x), none] [] ph
  have c_0 : ((Int8.ofInt 60).toInt32).toInt = 60 := by decide
  have c_1 : (Int32.ofInt (-1)).toInt = -1 := by decide
  have hP8 : P ≤ 8 := hK.2.1.2.1
  refine w_load (pc' := 1) (v := .int x) (m := 1) (ykc_133 (e := (2, .iload_n kF1, 0)) rfl) rfl rfl ?_
  refine w_zlt (ykc_133 (e := (4, .ifCond .lt 9, 10)) rfl) rfl (fun b1338 => ?_) (fun b1338 => ?_)
  · refine w_alu (pc' := 11) (st' := [.int (Int32.ofInt (-1))]) (ykc_133 (e := (0, .iconst (-1), 0)) rfl) rfl rfl ?_
    refine w_ret (v := (some (.int (Int32.ofInt (-1))))) (ykc_133 (e := (7, .ireturn, 0)) rfl) (zr_v rfl) ?_
    rw [hQ]
    exact Or.inl ⟨by omega, rfl, hK⟩
  · refine w_load (pc' := 5) (v := .int x) (m := 1) (ykc_133 (e := (2, .iload_n kF1, 0)) rfl) rfl rfl ?_
    refine w_push (pc' := 7) (v := .int ((Int8.ofInt 60).toInt32)) (m := 2) (ykc_133 (e := (1, .bipush 60, 0)) rfl) rfl rfl ?_
    refine w_ile (ykc_133 (e := (4, .if_icmp .le 5, 12)) rfl) rfl (fun b1339 => ?_) (fun b1339 => ?_)
    · refine w_load (pc' := 13) (v := .ref 0) (m := 1) (ykc_133 (e := (2, .aload_n kF0, 0)) rfl) rfl rfl ?_
      refine w_gf (pc' := 16) (v := .ref 31) (ykc_133 (e := (5, .getfield 46, 0)) rfl) rfl (zsg hS zs_0_5) rfl ?_
      refine w_load (pc' := 17) (v := .ref 0) (m := 1) (ykc_133 (e := (2, .aload_n kF0, 0)) rfl) rfl rfl ?_
      refine w_gf (pc' := 20) (v := .ref 25) (ykc_133 (e := (5, .getfield 42, 0)) rfl) rfl (zsg hS zs_0_4) rfl ?_
      refine w_cv (as := [.ref 31, .ref 25]) (r := []) (ykc_133 (e := (6, .invokevirtual 235, 0)) rfl) rfl rfl rfl rfl (zc_copy (zSs_of hS (S := 25) (by decide)) (zSs_of hS (S := 31) (by decide)) hK.2.1 (by omega)) (fun v1340 ph1341 hv => ?_)
      obtain ⟨rfl, fb, db⟩ := hv
      show zW n D 133 Q 23 [some (.ref 0), some (.int x), none] [] ph1341
      have hK1 := zKC_31 fb hK
      have hS1 := zCo_S (S := 31) (by decide) fb hS
      refine w_load (pc' := 24) (v := .ref 0) (m := 1) (ykc_133 (e := (2, .aload_n kF0, 0)) rfl) rfl rfl ?_
      refine w_load (pc' := 25) (v := .ref 0) (m := 1) (ykc_133 (e := (2, .aload_n kF0, 0)) rfl) rfl rfl ?_
      refine w_gf (pc' := 28) (v := .ref 10) (ykc_133 (e := (5, .getfield 35, 0)) rfl) rfl ((fb.1 0 3 (by decide) (by decide)).trans (zsg hS zs_0_3)) rfl ?_
      refine w_load (pc' := 29) (v := .ref 0) (m := 1) (ykc_133 (e := (2, .aload_n kF0, 0)) rfl) rfl rfl ?_
      refine w_gf (pc' := 32) (v := .ref 25) (ykc_133 (e := (5, .getfield 42, 0)) rfl) rfl ((fb.1 0 4 (by decide) (by decide)).trans (zsg hS zs_0_4)) rfl ?_
      refine w_load (pc' := 33) (v := .int x) (m := 1) (ykc_133 (e := (2, .iload_n kF1, 0)) rfl) rfl rfl ?_
      refine w_cv (as := [.ref 10, .ref 25, .int x]) (r := [.ref 0]) (ykc_133 (e := (6, .invokevirtual 239, 0)) rfl) rfl rfl rfl rfl (h92 (by omega) (by omega) _ fb) (fun v1342 ph1343 hv => ?_)
      obtain ⟨fp, v2, y, rfl, hy0, hd2, hT⟩ := hv
      show zW n D 133 Q 36 [some (.ref 0), some (.int x), none] [.int y, .ref 0] ph1343
      have hS2 := zCp_S (Or.inl rfl) fp hS1
      have db2 := zSd_F fp (by intro i hi; simp <;> omega) (by intro j i hj; simp <;> omega) db
      have hn2 := (fp.1 43 1 (by decide) (by decide)).trans hK1.2.2.1.1
      have hu2 := (fp.1 43 2 (by decide) (by decide)).trans hK1.2.2.1.2.2.1
      have hnx := hK1.2.2.1.2.1
      refine w_cv (as := [.ref 0, .int y]) (r := []) (ykc_133 (e := (6, .invokevirtual 242, 0)) rfl) rfl rfl rfl rfl (zc_rem (x := y) hS2 db2 hn2 hu2 hnx hK1.2.2.1.2.2.2.1) (fun v1344 ph1345 hv => ?_)
      obtain ⟨rfl, ⟨h9, -⟩ | ⟨-, ⟨q1, q2, pf, pu1, pu2⟩, pd⟩⟩ := hv
      · omega
      have fq : zFr [45 + 6 * nx + 1, 45 + 6 * nx + 2, 45 + 6 * nx + 3, 45 + 6 * nx + 4, 45 + 6 * nx + 5] [(45 + 6 * nx, 0), (45 + 6 * nx, 1), (45 + 6 * nx, 2), (43, 1), (43, 2)] _ ph1345 := zFr_trans (zFr_mono pf (by simp) (by simp)) (zFr_trans (zFr_st pu1 (Or.inr (by simp))) (zFr_st pu2 (Or.inr (by simp))))
      show zW n D 133 Q 39 [some (.ref 0), some (.int x), none] [.int y] ph1345
      have hK3 := zKC_pp hK1 fp hd2 pf pu1 pu2 pd
      have hS3 := zSh_st pu2 (by decide +kernel) (zSh_st pu1 (by decide +kernel) (zCo_S (zSadr_past hnx) pf hS2))
      have db3 := zSd_F fq (by intro i hi; simp <;> omega) (by intro j i hj; simp <;> omega) db2
      refine w_store (pc' := 40) (L' := [some (.ref 0), some (.int x), some (.int y)]) (st' := []) (m := 1) (ykc_133 (e := (3, .istore_n kF2, 0)) rfl) rfl rfl ?_
      refine w_load (pc' := 41) (v := .ref 0) (m := 1) (ykc_133 (e := (2, .aload_n kF0, 0)) rfl) rfl rfl ?_
      refine w_gf (pc' := 44) (v := .ref 3) (ykc_133 (e := (5, .getfield 19, 0)) rfl) rfl ((fq.1 0 1 (by simp <;> omega) (by simp <;> omega)).trans ((fp.1 0 1 (by decide) (by decide)).trans ((fb.1 0 1 (by decide) (by decide)).trans (zsg hS zs_0_1)))) rfl ?_
      refine w_cv (as := [.ref 3]) (r := []) (ykc_133 (e := (6, .invokevirtual 245, 0)) rfl) rfl rfl rfl rfl (zc_anew) (fun v1346 ph1347 hv => ?_)
      obtain ⟨rfl, fn1, gn1⟩ := hv
      show zW n D 133 Q 47 [some (.ref 0), some (.int x), some (.int y)] [.ref 3] ph1347
      refine w_load (pc' := 48) (v := .int y) (m := 1) (ykc_133 (e := (2, .iload_n kF2, 0)) rfl) rfl rfl ?_
      refine w_load (pc' := 49) (v := .ref 0) (m := 1) (ykc_133 (e := (2, .aload_n kF0, 0)) rfl) rfl rfl ?_
      refine w_gf (pc' := 52) (v := .ref 31) (ykc_133 (e := (5, .getfield 46, 0)) rfl) rfl ((fn1.1 0 5 (by decide) (by decide)).trans ((fq.1 0 5 (by simp <;> omega) (by simp <;> omega)).trans ((fp.1 0 5 (by decide) (by decide)).trans ((fb.1 0 5 (by decide) (by decide)).trans (zsg hS zs_0_5))))) rfl ?_
      refine w_cv (as := [.ref 31]) (r := [.int y, .ref 3]) (ykc_133 (e := (6, .invokevirtual 249, 0)) rfl) rfl rfl rfl rfl (zc_known (zSs_of (zN_S fn1 hS3) (S := 31) (by decide)) (zN_b fn1 db3)) (fun v1348 ph1349 hv => ?_)
      obtain ⟨rfl, rfl⟩ := hv
      show zW n D 133 Q 55 [some (.ref 0), some (.int x), some (.int y)] [.int (zKw v P), .int y, .ref 3] ph1347
      refine w_alu (pc' := 56) (st' := [.int (y - (zKw v P)), .ref 3]) (ykc_133 (e := (0, .isub, 0)) rfl) rfl rfl ?_
      refine w_alu (pc' := 57) (st' := [.long ((y - (zKw v P)).toInt64), .ref 3]) (ykc_133 (e := (0, .i2l, 0)) rfl) rfl rfl ?_
      refine w_cv (as := [.ref 3, .long ((y - (zKw v P)).toInt64)]) (r := []) (ykc_133 (e := (6, .invokevirtual 252, 0)) rfl) rfl rfl rfl rfl (zc_add (zN_S fn1 hS3) (k := 0) gn1 (by decide)) (fun v1350 ph1351 hv => ?_)
      obtain ⟨rfl, fn2, gn2⟩ := hv
      show zW n D 133 Q 60 [some (.ref 0), some (.int x), some (.int y)] [.ref 3] ph1351
      refine w_load (pc' := 61) (v := .ref 0) (m := 1) (ykc_133 (e := (2, .aload_n kF0, 0)) rfl) rfl rfl ?_
      refine w_gf (pc' := 64) (v := .ref 25) (ykc_133 (e := (5, .getfield 42, 0)) rfl) rfl ((fn2.1 0 4 (by decide) (by decide)).trans ((fn1.1 0 4 (by decide) (by decide)).trans ((fq.1 0 4 (by simp <;> omega) (by simp <;> omega)).trans ((fp.1 0 4 (by decide) (by decide)).trans ((fb.1 0 4 (by decide) (by decide)).trans (zsg hS zs_0_4)))))) rfl ?_
      refine w_cv (as := [.ref 25]) (r := [.ref 3]) (ykc_133 (e := (6, .invokevirtual 256, 0)) rfl) rfl rfl rfl rfl (zc_some (zSs_of (zN_S (zFr_trans fn1 fn2) hS3) (S := 25) (by decide)) (zKC_n (zFr_trans fn1 fn2) hK3).2.1) (fun v1352 ph1353 hv => ?_)
      obtain ⟨rfl, y9, rfl⟩ := hv
      show zW n D 133 Q 67 [some (.ref 0), some (.int x), some (.int y)] [.int y9, .ref 3] ph1351
      refine w_alu (pc' := 68) (st' := [.long y9.toInt64, .ref 3]) (ykc_133 (e := (0, .i2l, 0)) rfl) rfl rfl ?_
      refine w_cv (as := [.ref 3, .long y9.toInt64]) (r := []) (ykc_133 (e := (6, .invokevirtual 252, 0)) rfl) rfl rfl rfl rfl (zc_add (zN_S (zFr_trans fn1 fn2) hS3) (k := 1) gn2 (by decide)) (fun v1354 ph1355 hv => ?_)
      obtain ⟨rfl, fn3, gn3⟩ := hv
      show zW n D 133 Q 71 [some (.ref 0), some (.int x), some (.int y)] [.ref 3] ph1355
      refine w_alu (pc' := 72) (st' := []) (ykc_133 (e := (0, .pop, 0)) rfl) rfl rfl ?_
      refine w_load (pc' := 73) (v := .int y) (m := 1) (ykc_133 (e := (2, .iload_n kF2, 0)) rfl) rfl rfl ?_
      refine w_ret (v := (some (.int y))) (ykc_133 (e := (7, .ireturn, 0)) rfl) (zr_v rfl) ?_
      rw [hQ]
      exact Or.inr ⟨by omega, by omega, v2, y, rfl, hT, _, (zKC_n (zFr_trans (zFr_trans fn1 fn2) fn3) hK3)⟩
    · refine w_alu (pc' := 11) (st' := [.int (Int32.ofInt (-1))]) (ykc_133 (e := (0, .iconst (-1), 0)) rfl) rfl rfl ?_
      refine w_ret (v := (some (.int (Int32.ofInt (-1))))) (ykc_133 (e := (7, .ireturn, 0)) rfl) (zr_v rfl) ?_
      rw [hQ]
      exact Or.inl ⟨by omega, rfl, hK⟩
theorem zm_known2 {ph : pm_H} {R C P G : Nat} {v : Nat → Nat} (hS : zSh ph) (hN : zMp ph P G) (hv : zNr ph 174 0 v) (hO0 : zOk R C P G v) : zM 234 [.ref 170, .ref 174] ph (fun v0 q => ph = q ∧ v0 = some (.int (zKw v P))) := by
  obtain ⟨Q, hQ⟩ : ∃ Q : Option Value → pm_H → Prop, Q = (fun v0 q => ph = q ∧ v0 = some (.int (zKw v P))) := ⟨_, rfl⟩
  rw [← hQ]
  refine zM_mk fun n D => ?_
  show zW n D 234 Q 0 [some (.ref 170), some (.ref 174), none, none] [] ph
  have c_0 : ((Int8.ofInt 24).toInt32).toInt = 24 := by decide
  have c_1 : (Int32.ofInt 0).toInt = 0 := by decide
  have c_2 : (Int32.ofInt 1).toInt = 1 := by decide
  obtain ⟨gP, hP8, gG, hG8⟩ := hN
  have tP := znt (k := P) (by omega)
  have tG := znt (k := G) (by omega)
  refine w_alu (pc' := 1) (st' := [.int (Int32.ofInt 0)]) (ykc_234 (e := (0, .iconst 0, 0)) rfl) rfl rfl ?_
  refine w_store (pc' := 2) (L' := [some (.ref 170), some (.ref 174), some (.int (Int32.ofInt 0)), none]) (st' := []) (m := 1) (ykc_234 (e := (3, .istore_n kF2, 0)) rfl) rfl rfl ?_
  refine w_alu (pc' := 3) (st' := [.int (Int32.ofInt 0)]) (ykc_234 (e := (0, .iconst 0, 0)) rfl) rfl rfl ?_
  refine w_store (pc' := 4) (L' := [some (.ref 170), some (.ref 174), some (.int (Int32.ofInt 0)), some (.int (Int32.ofInt 0))]) (st' := []) (m := 1) (ykc_234 (e := (3, .istore_n kF3, 0)) rfl) rfl rfl ?_
  have hl : ∀ (n : Nat), ∀ (k : Nat), (k ≤ P) → zW n D 234 Q 4 [some (.ref 170), some (.ref 174), some (.int (zKw v k)), some (.int (zn k))] [] ph := by
    intro n
    induction n using Nat.strongRecOn with
    | ind n ih =>
      intro k hk
      have tk := znt (k := k) (by omega)
      refine w_load (pc' := 5) (v := .int (zn k)) (m := 1) (ykc_234 (e := (2, .iload_n kF3, 0)) rfl) rfl rfl ?_
      refine w_load (pc' := 6) (v := .ref 170) (m := 1) (ykc_234 (e := (2, .aload_n kF0, 0)) rfl) rfl rfl ?_
      refine w_gf (pc' := 9) (v := .int (zn P)) (ykc_234 (e := (5, .getfield 130, 0)) rfl) rfl gP rfl ?_
      refine w_ige (ykc_234 (e := (4, .if_icmp .ge 21, 30)) rfl) rfl (fun b1356 => ?_) (fun b1356 => ?_)
      · refine w_load (pc' := 31) (v := .int (zKw v k)) (m := 1) (ykc_234 (e := (2, .iload_n kF2, 0)) rfl) rfl rfl ?_
        refine w_ret (v := (some (.int (zKw v k)))) (ykc_234 (e := (7, .ireturn, 0)) rfl) (zr_v rfl) ?_
        have ek : P = k := by omega
        subst ek
        rw [hQ]
        exact ⟨rfl, rfl⟩
      · refine w_load (pc' := 13) (v := .int (zKw v k)) (m := 1) (ykc_234 (e := (2, .iload_n kF2, 0)) rfl) rfl rfl ?_
        refine w_load (pc' := 14) (v := .ref 174) (m := 1) (ykc_234 (e := (2, .aload_n kF1, 0)) rfl) rfl rfl ?_
        refine w_push (pc' := 16) (v := .int ((Int8.ofInt 24).toInt32)) (m := 2) (ykc_234 (e := (1, .bipush 24, 0)) rfl) rfl rfl ?_
        refine w_load (pc' := 17) (v := .int (zn k)) (m := 1) (ykc_234 (e := (2, .iload_n kF3, 0)) rfl) rfl rfl ?_
        have e1357 : ((Int8.ofInt 24).toInt32) + (zn k) = zn (24 + k) := (zaddN (a := 24) (b := k) c_0 (znt (by omega)) (by omega)) 
        have te1357 := znt (k := 24 + k) (by omega)
        refine w_alu (pc' := 18) (st' := [.int (zn (24 + k)), .ref 174, .int (zKw v k)]) (ykc_234 (e := (0, .iadd, 0)) rfl) (by rw [← e1357]; rfl) rfl ?_
        have q1358 := hO0.1 k (by omega)
        have tq1358 := znt (k := v (24 + k)) (by omega)
        refine w_ialk (pc' := 19) (k := 24 + k) (ykc_234 (e := (5, .iaload, 0)) rfl) (zNr0 hv (i := 24 + k) (by omega)) (by omega) rfl ?_
        refine w_cs (as := [.int (zn (v (24 + k)))]) (r := [.int (zKw v k)]) (ykc_234 (e := (6, .invokestatic 265, 0)) rfl) rfl rfl rfl rfl (zj_pc) (fun v1359 ph1360 hv => ?_)
        obtain ⟨rfl, rfl⟩ := hv
        show zW n D 234 Q 22 [some (.ref 170), some (.ref 174), some (.int (zKw v k)), some (.int (zn k))] [.int (zpc (zn (v (24 + k)))), .int (zKw v k)] ph
        refine w_alu (pc' := 23) (st' := [.int ((zKw v k) + (zpc (zn (v (24 + k)))))]) (ykc_234 (e := (0, .iadd, 0)) rfl) rfl rfl ?_
        refine w_store (pc' := 24) (L' := [some (.ref 170), some (.ref 174), some (.int ((zKw v k) + (zpc (zn (v (24 + k)))))), some (.int (zn k))]) (st' := []) (m := 1) (ykc_234 (e := (3, .istore_n kF2, 0)) rfl) rfl rfl ?_
        have e1361 : (zn k) + Int32.ofInt 1 = zn (k + 1) := (zaddN (a := k) (b := 1) (znt (by omega)) c_2 (by omega))
        have te1361 := znt (k := k + 1) (by omega)
        refine w_store (pc' := 27) (L' := [some (.ref 170), some (.ref 174), some (.int ((zKw v k) + (zpc (zn (v (24 + k)))))), some (.int (zn (k + 1)))]) (st' := []) (m := 3) (ykc_234 (e := (3, .iinc 3 1, 0)) rfl) (by rw [← e1361]; rfl) rfl ?_
        refine w_gb (ykc_234 (e := (4, .goto (-23), 4)) rfl) (fun k1362 hk1362 => ?_)
        exact ih k1362 hk1362 (k + 1) (by omega)
  exact hl n 0 (Nat.zero_le _)
theorem zm_enter {ph : pm_H} (hS : zSh ph) {k : Nat} {x : Int64} (hk : zc ph 170 1 = some (.int (zn k))) (h49 : k < 49) : zM 186 [.ref 170, .long x] ph (fun v0 q => v0 = none ∧ zFr [171] [(170, 1)] ph q ∧ zc q 170 1 = some (.int (zn (k + 1)))) := by
  obtain ⟨Q, hQ⟩ : ∃ Q : Option Value → pm_H → Prop, Q = (fun v0 q => v0 = none ∧ zFr [171] [(170, 1)] ph q ∧ zc q 170 1 = some (.int (zn (k + 1)))) := ⟨_, rfl⟩
  rw [← hQ]
  refine zM_mk fun n D => ?_
  show zW n D 186 Q 0 [some (.ref 170), some (.long x), none] [] ph
  have c_0 : (Int32.ofInt 1).toInt = 1 := by decide
  have tk := znt (k := k) (by omega)
  refine w_load (pc' := 1) (v := .ref 170) (m := 1) (ykc_186 (e := (2, .aload_n kF0, 0)) rfl) rfl rfl ?_
  refine w_gf (pc' := 4) (v := .ref 171) (ykc_186 (e := (5, .getfield 11, 0)) rfl) rfl (zsg hS zs_170_2) rfl ?_
  refine w_load (pc' := 5) (v := .ref 170) (m := 1) (ykc_186 (e := (2, .aload_n kF0, 0)) rfl) rfl rfl ?_
  refine w_gf (pc' := 8) (v := .int (zn k)) (ykc_186 (e := (5, .getfield 15, 0)) rfl) rfl hk rfl ?_
  refine w_load (pc' := 9) (v := .long x) (m := 1) (ykc_186 (e := (2, .lload_n kF1, 0)) rfl) rfl rfl ?_
  refine w_las (pc' := 10) (k := k) (ykc_186 (e := (5, .lastore, 0)) rfl) (by omega) rfl (fun ph1364 u1363 => ?_)
  refine w_load (pc' := 11) (v := .ref 170) (m := 1) (ykc_186 (e := (2, .aload_n kF0, 0)) rfl) rfl rfl ?_
  refine w_alu (pc' := 12) (st' := [.ref 170, .ref 170]) (ykc_186 (e := (0, .dup, 0)) rfl) rfl rfl ?_
  refine w_gf (pc' := 15) (v := .int (zn k)) (ykc_186 (e := (5, .getfield 15, 0)) rfl) rfl ((u1363.2.1 170 1 (fun q => absurd q.1 (by decide))).trans hk) rfl ?_
  refine w_alu (pc' := 16) (st' := [.int (Int32.ofInt 1), .int (zn k), .ref 170]) (ykc_186 (e := (0, .iconst 1, 0)) rfl) rfl rfl ?_
  have e1365 : (zn k) + (Int32.ofInt 1) = zn (k + 1) := (zaddN (a := k) (b := 1) (znt (by omega)) c_0 (by omega)) 
  have te1365 := znt (k := k + 1) (by omega)
  refine w_alu (pc' := 17) (st' := [.int (zn (k + 1)), .ref 170]) (ykc_186 (e := (0, .iadd, 0)) rfl) (by rw [← e1365]; rfl) rfl ?_
  refine w_pf (pc' := 20) (ykc_186 (e := (5, .putfield 15, 0)) rfl) rfl rfl (fun ph1367 u1366 => ?_)
  refine w_ret (v := none) (ykc_186 (e := (7, .return_, 0)) rfl) (zr_v rfl) ?_
  rw [hQ]
  exact ⟨rfl, zFr_trans (zFr_st u1363 (Or.inl (by simp))) (zFr_st u1366 (Or.inr (by simp))), u1366.1⟩
/-- what the hours of the reference may write -/
def zGo (p q : pm_H) : Prop := zFr [174, 181, 182, 184] [] p q
theorem zm_hours {ph : pm_H} {R C P G u ch hn : Nat} {rk : Nat → Bool} {v : Nat → Nat} {w : Nat → Nat → Nat} {kp : Nat → Bool} {kc : Nat → Nat} {sv : Nat → Nat → Nat} (hS : zSh ph) (hK : zKM ph R C rk P G v u w ch kp kc sv hn) (hO0 : zOk R C P G v) {x : Int32} {T : (Nat → Nat) → Prop} (h243 : 0 ≤ x.toInt → x.toInt ≤ 60 → ∀ q, zFr [183] [(170, 0)] ph q → zM 243 [.ref 170, .ref 174, .int x] q (fun v0 q2 => v0 = none ∧ zGo q q2 ∧ ∃ v2, zNr q2 174 0 v2 ∧ zOk R C P G v2 ∧ T v2)) : zM 248 [.ref 170, .int x] ph (fun v0 q => ((x.toInt < 0 ∨ 60 < x.toInt) ∧ v0 = some (.int (Int32.ofInt (-1))) ∧ zKM q R C rk P G v u w ch kp kc sv hn) ∨ (0 ≤ x.toInt ∧ x.toInt ≤ 60 ∧ ∃ v2, v0 = some (.int (zKw v2 P)) ∧ T v2 ∧ zKM q R C rk P G v2 (zAd u) (zAw u (zWp u w v)) ch kp kc sv hn)) := by
  obtain ⟨Q, hQ⟩ : ∃ Q : Option Value → pm_H → Prop, Q = (fun v0 q => ((x.toInt < 0 ∨ 60 < x.toInt) ∧ v0 = some (.int (Int32.ofInt (-1))) ∧ zKM q R C rk P G v u w ch kp kc sv hn) ∨ (0 ≤ x.toInt ∧ x.toInt ≤ 60 ∧ ∃ v2, v0 = some (.int (zKw v2 P)) ∧ T v2 ∧ zKM q R C rk P G v2 (zAd u) (zAw u (zWp u w v)) ch kp kc sv hn)) := ⟨_, rfl⟩
  rw [← hQ]
  refine zM_mk fun n D => ?_
  show zW n D 248 Q 0 [some (.ref 170), some (.int x), none, none, none] [] ph
  have c_0 : ((Int8.ofInt 24).toInt32).toInt = 24 := by decide
  have c_1 : (Int32.ofInt (-1)).toInt = -1 := by decide
  have c_2 : (Int32.ofInt 0).toInt = 0 := by decide
  have c_3 : (Int32.ofInt 1).toInt = 1 := by decide
  obtain ⟨hL, hN, hv, hU, hk, hh⟩ := hK
  have hL0 := hL
  have hN0 := hN
  have hu15 := hU.2.1
  obtain ⟨gR, gC, gK, hR3, hR7, hC3, hC7⟩ := hL
  have hRC := zRC49 hR7 hC7
  have tR := znt (k := R) (by omega)
  have tC := znt (k := C) (by omega)
  obtain ⟨gP, hP8, gG, hG8⟩ := hN
  have tP := znt (k := P) (by omega)
  have tG := znt (k := G) (by omega)
  have tu := znt (k := u) (by omega)
  have hn10 := hh.2
  have thn := znt (k := hn) (by omega)
  refine w_load (pc' := 1) (v := .ref 170) (m := 1) (ykc_248 (e := (2, .aload_n kF0, 0)) rfl) rfl rfl ?_
  refine w_alu (pc' := 2) (st' := [.int (Int32.ofInt 0), .ref 170]) (ykc_248 (e := (0, .iconst 0, 0)) rfl) rfl rfl ?_
  refine w_pf (pc' := 5) (ykc_248 (e := (5, .putfield 3, 0)) rfl) rfl rfl (fun ph1369 u1368 => ?_)
  refine w_load (pc' := 6) (v := .int x) (m := 1) (ykc_248 (e := (2, .iload_n kF1, 0)) rfl) rfl rfl ?_
  refine w_alu (pc' := 7) (st' := [.long x.toInt64]) (ykc_248 (e := (0, .i2l, 0)) rfl) rfl rfl ?_
  refine w_alu (pc' := 8) (st' := [.long (Int64.ofNat kG0), .long x.toInt64]) (ykc_248 (e := (0, .lconst kG0, 0)) rfl) rfl rfl ?_
  refine w_push (pc' := 11) (v := .long (60 : Int64)) (m := 3) (ykc_248 (e := (1, .ldc2_w 361, 0)) rfl) rfl rfl ?_
  refine w_cs (as := [.long x.toInt64, .long (Int64.ofNat kG0), .long (60 : Int64)]) (r := []) (ykc_248 (e := (6, .invokestatic 126, 0)) rfl) rfl rfl rfl rfl (zm_in (x := x.toInt) (y := (0 : Int)) (z := (60 : Int)) (by first | exact ztl | (rw [ztl]; omega) | decide | omega) (by first | exact ztl | (rw [ztl]; omega) | decide | omega) (by first | exact ztl | (rw [ztl]; omega) | decide | omega)) (fun v1370 ph1371 hv => ?_)
  obtain ⟨rfl, rfl⟩ := hv
  show zW n D 248 Q 14 [some (.ref 170), some (.int x), none, none, none] [.int (zI (decide ((0 : Int) ≤ x.toInt ∧ x.toInt ≤ (60 : Int))))] ph1369
  refine w_bne (ykc_248 (e := (4, .ifCond .ne 5, 19)) rfl) rfl (fun b1372 => ?_) (fun b1372 => ?_)
  · have d9 := of_decide_eq_true b1372
    have f0 : zFr [] [(170, 0)] ph ph1369 := zFr_st u1368 (Or.inr (by simp))
    have hS1 := zSh_st u1368 (by decide +kernel) hS
    have hv1 := zNr_F f0 (by simp) (by simp) hv
    have hU1 := zMu_F f0 (by simp) (by simp) (by simp) hU
    refine w_load (pc' := 20) (v := .ref 170) (m := 1) (ykc_248 (e := (2, .aload_n kF0, 0)) rfl) rfl rfl ?_
    refine w_cv (as := [.ref 170]) (r := []) (ykc_248 (e := (6, .invokevirtual 363, 0)) rfl) rfl rfl rfl rfl (zm_putsBy hS1 hv1 hU1.1 hu15) (fun v1373 ph1374 hv => ?_)
    obtain ⟨rfl, fp, gp, op⟩ := hv
    show zW n D 248 Q 23 [some (.ref 170), some (.int x), none, none, none] [] ph1374
    have hr := zWp_r hU1.2.2 gp op
    have f1 : zFr [183] [(170, 0)] ph ph1374 := zFr_trans (zFr_mono f0 (by simp) (by simp)) (zFr_mono fp (by simp) (by simp))
    have hS2 := zSh_F f1 (by decide +kernel) hS
    have hN2 := zMp_F f1 (by simp) (by simp) (by simp) hN0
    have hv2 := zNr_F f1 (by simp) (by simp) hv
    refine w_load (pc' := 24) (v := .ref 170) (m := 1) (ykc_248 (e := (2, .aload_n kF0, 0)) rfl) rfl rfl ?_
    refine w_load (pc' := 25) (v := .ref 170) (m := 1) (ykc_248 (e := (2, .aload_n kF0, 0)) rfl) rfl rfl ?_
    refine w_gf (pc' := 28) (v := .ref 174) (ykc_248 (e := (5, .getfield 41, 0)) rfl) rfl ((fp.1 170 11 (by decide) (by decide)).trans ((u1368.2.1 170 11 (fun q => absurd q.2 (by decide))).trans (zsg hS zs_170_11))) rfl ?_
    refine w_cv (as := [.ref 170, .ref 174]) (r := []) (ykc_248 (e := (6, .invokevirtual 366, 0)) rfl) rfl rfl rfl rfl (zm_known2 hS2 hN2 hv2 hO0) (fun v1375 ph1376 hv => ?_)
    obtain ⟨rfl, rfl⟩ := hv
    show zW n D 248 Q 31 [some (.ref 170), some (.int x), none, none, none] [.int (zKw v P)] ph1374
    refine w_store (pc' := 32) (L' := [some (.ref 170), some (.int x), some (.int (zKw v P)), none, none]) (st' := []) (m := 1) (ykc_248 (e := (3, .istore_n kF2, 0)) rfl) rfl rfl ?_
    refine w_load (pc' := 33) (v := .ref 170) (m := 1) (ykc_248 (e := (2, .aload_n kF0, 0)) rfl) rfl rfl ?_
    refine w_load (pc' := 34) (v := .ref 170) (m := 1) (ykc_248 (e := (2, .aload_n kF0, 0)) rfl) rfl rfl ?_
    refine w_gf (pc' := 37) (v := .ref 174) (ykc_248 (e := (5, .getfield 41, 0)) rfl) rfl ((fp.1 170 11 (by decide) (by decide)).trans ((u1368.2.1 170 11 (fun q => absurd q.2 (by decide))).trans (zsg hS zs_170_11))) rfl ?_
    refine w_load (pc' := 38) (v := .int x) (m := 1) (ykc_248 (e := (2, .iload_n kF1, 0)) rfl) rfl rfl ?_
    refine w_cv (as := [.ref 170, .ref 174, .int x]) (r := []) (ykc_248 (e := (6, .invokevirtual 370, 0)) rfl) rfl rfl rfl rfl (h243 (by omega) (by omega) _ f1) (fun v1377 ph1378 hv => ?_)
    obtain ⟨rfl, fg, v2, hvv, hov, hT⟩ := hv
    show zW n D 248 Q 41 [some (.ref 170), some (.int x), some (.int (zKw v P)), none, none] [] ph1378
    have f3 : zFr [174, 181, 182, 183, 184] [(170, 0)] ph ph1378 := zFr_trans (zFr_mono f1 (by simp) (by simp)) (zFr_mono fg (by simp) (by simp))
    have hS3 := zSh_F f3 (by decide +kernel) hS
    have hN3 := zMp_F f3 (by simp) (by simp) (by simp) hN0
    have hr3 := zUr_F fg (by simp) (by simp) hr
    refine w_alu (pc' := 42) (st' := [.int (Int32.ofInt 0)]) (ykc_248 (e := (0, .iconst 0, 0)) rfl) rfl rfl ?_
    refine w_store (pc' := 43) (L' := [some (.ref 170), some (.int x), some (.int (zKw v P)), some (.int (Int32.ofInt 0)), none]) (st' := []) (m := 1) (ykc_248 (e := (3, .istore_n kF3, 0)) rfl) rfl rfl ?_
    refine w_alu (pc' := 44) (st' := [.int (Int32.ofInt 0)]) (ykc_248 (e := (0, .iconst 0, 0)) rfl) rfl rfl ?_
    refine w_store (pc' := 46) (L' := [some (.ref 170), some (.int x), some (.int (zKw v P)), some (.int (Int32.ofInt 0)), some (.int (Int32.ofInt 0))]) (st' := []) (m := 2) (ykc_248 (e := (3, .istore 4, 0)) rfl) rfl rfl ?_
    have hl : ∀ (n : Nat), ∀ (k : Nat) (a : Int32), (k ≤ P) → zW n D 248 Q 46 [some (.ref 170), some (.int x), some (.int (zKw v P)), some (.int a), some (.int (zn k))] [] ph1378 := by
      intro n
      induction n using Nat.strongRecOn with
      | ind n ih =>
        intro k a hk9
        have tk := znt (k := k) (by omega)
        refine w_load (pc' := 48) (v := .int (zn k)) (m := 2) (ykc_248 (e := (2, .iload 4, 0)) rfl) rfl rfl ?_
        refine w_load (pc' := 49) (v := .ref 170) (m := 1) (ykc_248 (e := (2, .aload_n kF0, 0)) rfl) rfl rfl ?_
        refine w_gf (pc' := 52) (v := .int (zn P)) (ykc_248 (e := (5, .getfield 130, 0)) rfl) rfl hN3.1 rfl ?_
        refine w_ige (ykc_248 (e := (4, .if_icmp .ge 22, 74)) rfl) rfl (fun b1379 => ?_) (fun b1379 => ?_)
        · refine w_load (pc' := 75) (v := .ref 170) (m := 1) (ykc_248 (e := (2, .aload_n kF0, 0)) rfl) rfl rfl ?_
          refine w_alu (pc' := 76) (st' := [.int (Int32.ofInt 0), .ref 170]) (ykc_248 (e := (0, .iconst 0, 0)) rfl) rfl rfl ?_
          refine w_pf (pc' := 79) (ykc_248 (e := (5, .putfield 15, 0)) rfl) rfl rfl (fun ph1381 u1380 => ?_)
          refine w_load (pc' := 80) (v := .ref 170) (m := 1) (ykc_248 (e := (2, .aload_n kF0, 0)) rfl) rfl rfl ?_
          refine w_load (pc' := 81) (v := .ref 170) (m := 1) (ykc_248 (e := (2, .aload_n kF0, 0)) rfl) rfl rfl ?_
          refine w_load (pc' := 82) (v := .ref 170) (m := 1) (ykc_248 (e := (2, .aload_n kF0, 0)) rfl) rfl rfl ?_
          refine w_gf (pc' := 85) (v := .ref 174) (ykc_248 (e := (5, .getfield 41, 0)) rfl) rfl ((u1380.2.1 170 11 (fun q => absurd q.2 (by decide))).trans (zsg hS3 zs_170_11)) rfl ?_
          refine w_cv (as := [.ref 170, .ref 174]) (r := [.ref 170]) (ykc_248 (e := (6, .invokevirtual 366, 0)) rfl) rfl rfl rfl rfl (zm_known2 (zSh_F ((zFr_st u1380 (Or.inr (by simp))) : zFr [171] [(170, 1)] _ _) (by decide +kernel) hS3) (zMp_F ((zFr_st u1380 (Or.inr (by simp))) : zFr [171] [(170, 1)] _ _) (by simp) (by simp) (by simp) hN3) (zNr_F ((zFr_st u1380 (Or.inr (by simp))) : zFr [171] [(170, 1)] _ _) (by simp) (by simp) hvv) hov) (fun v1382 ph1383 hv => ?_)
          obtain ⟨rfl, rfl⟩ := hv
          show zW n D 248 Q 88 [some (.ref 170), some (.int x), some (.int (zKw v P)), some (.int a), some (.int (zn k))] [.int (zKw v2 P), .ref 170] ph1381
          refine w_load (pc' := 89) (v := .int (zKw v P)) (m := 1) (ykc_248 (e := (2, .iload_n kF2, 0)) rfl) rfl rfl ?_
          refine w_alu (pc' := 90) (st' := [.int ((zKw v2 P) - (zKw v P)), .ref 170]) (ykc_248 (e := (0, .isub, 0)) rfl) rfl rfl ?_
          refine w_alu (pc' := 91) (st' := [.long (((zKw v2 P) - (zKw v P)).toInt64), .ref 170]) (ykc_248 (e := (0, .i2l, 0)) rfl) rfl rfl ?_
          refine w_cv (as := [.ref 170, .long (((zKw v2 P) - (zKw v P)).toInt64)]) (r := []) (ykc_248 (e := (6, .invokevirtual 373, 0)) rfl) rfl rfl rfl rfl (zm_enter (zSh_F ((zFr_st u1380 (Or.inr (by simp))) : zFr [171] [(170, 1)] _ _) (by decide +kernel) hS3) (k := 0) u1380.1 (by decide)) (fun v1384 ph1385 hv => ?_)
          obtain ⟨rfl, fe1, ge1⟩ := hv
          show zW n D 248 Q 94 [some (.ref 170), some (.int x), some (.int (zKw v P)), some (.int a), some (.int (zn k))] [] ph1385
          refine w_load (pc' := 95) (v := .ref 170) (m := 1) (ykc_248 (e := (2, .aload_n kF0, 0)) rfl) rfl rfl ?_
          refine w_load (pc' := 96) (v := .int a) (m := 1) (ykc_248 (e := (2, .iload_n kF3, 0)) rfl) rfl rfl ?_
          refine w_alu (pc' := 97) (st' := [.long a.toInt64, .ref 170]) (ykc_248 (e := (0, .i2l, 0)) rfl) rfl rfl ?_
          refine w_cv (as := [.ref 170, .long a.toInt64]) (r := []) (ykc_248 (e := (6, .invokevirtual 373, 0)) rfl) rfl rfl rfl rfl (zm_enter (zSh_F ((zFr_trans (zFr_st u1380 (Or.inr (by simp))) fe1) : zFr [171] [(170, 1)] _ _) (by decide +kernel) hS3) (k := 1) ge1 (by decide)) (fun v1386 ph1387 hv => ?_)
          obtain ⟨rfl, fe2, ge2⟩ := hv
          show zW n D 248 Q 100 [some (.ref 170), some (.int x), some (.int (zKw v P)), some (.int a), some (.int (zn k))] [] ph1387
          refine w_load (pc' := 101) (v := .ref 170) (m := 1) (ykc_248 (e := (2, .aload_n kF0, 0)) rfl) rfl rfl ?_
          refine w_load (pc' := 102) (v := .ref 170) (m := 1) (ykc_248 (e := (2, .aload_n kF0, 0)) rfl) rfl rfl ?_
          refine w_load (pc' := 103) (v := .ref 170) (m := 1) (ykc_248 (e := (2, .aload_n kF0, 0)) rfl) rfl rfl ?_
          refine w_gf (pc' := 106) (v := .ref 174) (ykc_248 (e := (5, .getfield 41, 0)) rfl) rfl ((fe2.1 170 11 (by decide) (by decide)).trans ((fe1.1 170 11 (by decide) (by decide)).trans ((u1380.2.1 170 11 (fun q => absurd q.2 (by decide))).trans (zsg hS3 zs_170_11)))) rfl ?_
          refine w_cv (as := [.ref 170, .ref 174]) (r := [.ref 170]) (ykc_248 (e := (6, .invokevirtual 366, 0)) rfl) rfl rfl rfl rfl (zm_known2 (zSh_F ((zFr_trans (zFr_trans (zFr_st u1380 (Or.inr (by simp))) fe1) fe2) : zFr [171] [(170, 1)] _ _) (by decide +kernel) hS3) (zMp_F ((zFr_trans (zFr_trans (zFr_st u1380 (Or.inr (by simp))) fe1) fe2) : zFr [171] [(170, 1)] _ _) (by simp) (by simp) (by simp) hN3) (zNr_F ((zFr_trans (zFr_trans (zFr_st u1380 (Or.inr (by simp))) fe1) fe2) : zFr [171] [(170, 1)] _ _) (by simp) (by simp) hvv) hov) (fun v1388 ph1389 hv => ?_)
          obtain ⟨rfl, rfl⟩ := hv
          show zW n D 248 Q 109 [some (.ref 170), some (.int x), some (.int (zKw v P)), some (.int a), some (.int (zn k))] [.int (zKw v2 P), .ref 170] ph1387
          refine w_cv (as := [.ref 170, .int (zKw v2 P)]) (r := []) (ykc_248 (e := (6, .invokevirtual 341, 0)) rfl) rfl rfl rfl rfl (zm_adds (x := zKw v2 P) (zSh_F ((zFr_trans (zFr_trans (zFr_st u1380 (Or.inr (by simp))) fe1) fe2) : zFr [171] [(170, 1)] _ _) (by decide +kernel) hS3) ((((zFr_trans (zFr_trans (zFr_st u1380 (Or.inr (by simp))) fe1) fe2) : zFr [171] [(170, 1)] _ _).1 170 27 (by decide) (by decide)).trans ((f3.1 170 27 (by decide) (by decide)).trans hU.1)) hu15 (zUr_F ((zFr_trans (zFr_trans (zFr_st u1380 (Or.inr (by simp))) fe1) fe2) : zFr [171] [(170, 1)] _ _) (by simp) (by simp) hr3)) (fun v1390 ph1391 hv => ?_)
          obtain ⟨rfl, fa, ga, ra⟩ := hv
          have fb : zFr [171] [(170, 1)] ph1378 _ := (zFr_trans (zFr_trans (zFr_st u1380 (Or.inr (by simp))) fe1) fe2)
          show zW n D 248 Q 112 [some (.ref 170), some (.int x), some (.int (zKw v P)), some (.int a), some (.int (zn k))] [.int (zKw v2 P)] ph1391
          refine w_ret (v := (some (.int (zKw v2 P)))) (ykc_248 (e := (7, .ireturn, 0)) rfl) (zr_v rfl) ?_
          have f9 : zFr [171, 174, 181, 182, 183, 184] [(170, 0), (170, 1), (170, 27)] ph _ := zFr_trans (zFr_mono f3 (by simp) (by simp)) (zFr_trans (zFr_mono fb (by simp) (by simp)) (zFr_mono fa (by simp) (by simp)))
          have fz : zFr [171, 183] [(170, 1), (170, 27)] ph1378 _ := zFr_trans (zFr_mono fb (by simp) (by simp)) (zFr_mono fa (by simp) (by simp))
          rw [hQ]
          exact Or.inr ⟨by omega, by omega, v2, rfl, hT, zMl_F f9 (by simp) (by simp) (by simp) (by simp) hL0, zMp_F f9 (by simp) (by simp) (by simp) hN0, zNr_F fz (by simp) (by simp) hvv, ⟨ga, zAd_15 hu15, ra⟩, zMk_F f9 (by simp) (by simp) (by simp) hk, zMh_F f9 (by simp) (by simp) hh⟩
        · refine w_load (pc' := 56) (v := .int a) (m := 1) (ykc_248 (e := (2, .iload_n kF3, 0)) rfl) rfl rfl ?_
          refine w_load (pc' := 57) (v := .ref 170) (m := 1) (ykc_248 (e := (2, .aload_n kF0, 0)) rfl) rfl rfl ?_
          refine w_gf (pc' := 60) (v := .ref 174) (ykc_248 (e := (5, .getfield 41, 0)) rfl) rfl (zsg hS3 zs_170_11) rfl ?_
          refine w_push (pc' := 62) (v := .int ((Int8.ofInt 24).toInt32)) (m := 2) (ykc_248 (e := (1, .bipush 24, 0)) rfl) rfl rfl ?_
          refine w_load (pc' := 64) (v := .int (zn k)) (m := 2) (ykc_248 (e := (2, .iload 4, 0)) rfl) rfl rfl ?_
          have e1392 : ((Int8.ofInt 24).toInt32) + (zn k) = zn (24 + k) := (zaddN (a := 24) (b := k) c_0 (znt (by omega)) (by omega)) 
          have te1392 := znt (k := 24 + k) (by omega)
          refine w_alu (pc' := 65) (st' := [.int (zn (24 + k)), .ref 174, .int a]) (ykc_248 (e := (0, .iadd, 0)) rfl) (by rw [← e1392]; rfl) rfl ?_
          refine w_ialk (pc' := 66) (k := 24 + k) (ykc_248 (e := (5, .iaload, 0)) rfl) (zNr0 hvv (i := 24 + k) (by omega)) (by omega) rfl ?_
          refine w_alu (pc' := 67) (st' := [.int (a ||| (zn (v2 (24 + k))))]) (ykc_248 (e := (0, .ior, 0)) rfl) rfl rfl ?_
          refine w_store (pc' := 68) (L' := [some (.ref 170), some (.int x), some (.int (zKw v P)), some (.int (a ||| (zn (v2 (24 + k))))), some (.int (zn k))]) (st' := []) (m := 1) (ykc_248 (e := (3, .istore_n kF3, 0)) rfl) rfl rfl ?_
          have e1393 : (zn k) + Int32.ofInt 1 = zn (k + 1) := (zaddN (a := k) (b := 1) (znt (by omega)) c_3 (by omega))
          have te1393 := znt (k := k + 1) (by omega)
          refine w_store (pc' := 71) (L' := [some (.ref 170), some (.int x), some (.int (zKw v P)), some (.int (a ||| (zn (v2 (24 + k))))), some (.int (zn (k + 1)))]) (st' := []) (m := 3) (ykc_248 (e := (3, .iinc 4 1, 0)) rfl) (by rw [← e1393]; rfl) rfl ?_
          refine w_gb (ykc_248 (e := (4, .goto (-25), 46)) rfl) (fun k1394 hk1394 => ?_)
          exact ih k1394 hk1394 (k + 1) _ (by omega)
    exact hl n 0 _ (Nat.zero_le _)
  · refine w_alu (pc' := 18) (st' := [.int (Int32.ofInt (-1))]) (ykc_248 (e := (0, .iconst (-1), 0)) rfl) rfl rfl ?_
    refine w_ret (v := (some (.int (Int32.ofInt (-1))))) (ykc_248 (e := (7, .ireturn, 0)) rfl) (zr_v rfl) ?_
    have d9 := of_decide_eq_false b1372
    have f2 : zFr [] [(170, 0)] ph _ := zFr_st u1368 (Or.inr (by simp))
    rw [hQ]
    exact Or.inl ⟨by omega, rfl, zMl_F f2 (by simp) (by simp) (by simp) (by simp) hL0, zMp_F f2 (by simp) (by simp) (by simp) hN0, zNr_F f2 (by simp) (by simp) hv, zMu_F f2 (by simp) (by simp) (by simp) hU, zMk_F f2 (by simp) (by simp) (by simp) hk, zMh_F f2 (by simp) (by simp) hh⟩

/-! strings, texts, by W; printed by wip/z/z1a_str.py -/
theorem zm1sub {y : Int32} {d : Int} (hy : y.toInt = d) (h1 : -1000 ≤ d) (h2 : d ≤ 2147483647) : ((Int32.ofInt (-1)) - y).toInt = (-1 : Int) - d := by
  have h := ti_sub (x := Int32.ofInt (-1)) (y := y) (by rw [hy, show (Int32.ofInt (-1)).toInt = -1 by decide]; omega) (by rw [hy, show (Int32.ofInt (-1)).toInt = -1 by decide]; omega)
  rw [h, hy, show (Int32.ofInt (-1)).toInt = -1 by decide]
theorem zbif2 {α : Type} {b : Bool} {x : Option α} {y : α} (h : (bif b then x else none) = some y) : x = some y := by
  cases b with
  | false => cases h
  | true => exact h
theorem zb4 {α : Type} {a b c d : Bool} {X w : α} (h : (bif a then some X else bif b then some X else bif c then some X else bif d then some X else none) = some w) : w = X := by
  cases a <;> cases b <;> cases c <;> cases d <;> first | exact (Option.some.inj h).symm | cases h
theorem zr_i {kd : Nat} {x : Int32} : ∀ w, pm_ret kd .ireturn [.int x] = some w → w = some (.int x) := fun w h => zb4 h
theorem zgf7 {K : pm_K} {al : Bool} {ow fi k i i9 A m' c2 s2 : Nat} {v v0 : Value} {st st2 : List Value} {ph ph2 : pm_H} (hl : pm_lnk K ow fi = some (7, k, i, v0)) (hA : Nat.blt A 1048576 = false) (ha : A - 1048576 = i9) (hr : pm_ro K i9 k = some v) (hm : pm_mem K al ow (.getfield fi) (.ref A :: st) ph = some (m', st2, ph2, c2, s2)) : 3 = m' ∧ v :: st = st2 ∧ ph = ph2 := by
  unfold pm_mem at hm
  simp only [hl, hA, cond_false, ha, hr] at hm
  cases hm
  exact ⟨rfl, rfl, rfl⟩
theorem zin2 {K : pm_K} {ow fi na i9 A j' j2 : Nat} {st r as2 r2 : List Value} {ph : pm_H} (hl : pm_lnk K ow fi = some (2, j', na, .null)) (hd : st.drop na = .ref A :: r) (hA : Nat.blt A 1048576 = false) (ha : A - 1048576 = i9) (hi : pm_inv K ow (.invokevirtual fi) st ph = some (j2, as2, r2)) : j' = j2 ∧ .ref A :: (st.take na).reverse = as2 ∧ r = r2 := by
  unfold pm_inv at hi
  simp only [hl, hd, hA, cond_false, ha] at hi
  cases hq : pm_ro K i9 0 with
  | none => simp only [hq] at hi; cases hi
  | some c =>
    simp only [hq] at hi
    have hi := zbif hi
    cases hi
    exact ⟨rfl, rfl, rfl⟩
section ZSR
variable {n D j pc pc' aux na fi ci k A B i i9 m : Nat} {Q : Option Value → pm_H → Prop} {ins : Instr} {L : List (Option Value)} {st r as : List Value} {ph : pm_H} {v v0 : Value}
theorem zat_hi (hA : Nat.blt A 1048576 = false) : pm_at ph A = none := by
  unfold pm_at
  rw [hA]
  rfl
theorem w_gfr (hc : pm_code kK j pc = some (5, .getfield fi, aux)) (hl : pm_lnk kK (pm_own kK j) fi = some (7, k, i, v0)) (hA : Nat.blt A 1048576 = false ∧ A - 1048576 = i9) (hr : pm_ro kK i9 k = some v) (hp : pc + 3 = pc') (kk : zW n D j Q pc' L (v :: st) ph) : zW n D j Q pc L (.ref A :: st) ph := w_mem hc fun m' st2 ph2 c2 s2 hm => by
  obtain ⟨e1, e2, e3⟩ := zgf7 hl hA.1 hA.2 hr hm
  subst hp e1 e2 e3
  exact kk
theorem w_alr {t : Nat} {f : Nat → Value} (hc : pm_code kK j pc = some (5, .arraylength, aux)) (hr : Nat.blt A 1048576 = false ∧ pm_rat kK A = some (t, m, f)) (hp : pc + 1 = pc') (kk : zW n D j Q pc' L (.int (Int32.ofNat m) :: st) ph) : zW n D j Q pc L (.ref A :: st) ph := w_mem hc fun m' st2 ph2 c2 s2 hm => by
  subst hp
  unfold pm_mem at hm
  simp only [zat_hi hr.1, hr.2] at hm
  cases hm
  exact kk
theorem w_blr {x y : Int32} {f : Nat → Value} (hc : pm_code kK j pc = some (5, .baload, aux)) (hr : Nat.blt A 1048576 = false ∧ pm_rat kK A = some (3, m, f) ∧ f k = .int y) (hx : x.toInt = (k : Int)) (hp : pc + 1 = pc') (kk : zW n D j Q pc' L (.int y :: st) ph) : zW n D j Q pc L (.int x :: .ref A :: st) ph := w_mem hc fun m' st2 ph2 c2 s2 hm => by
  subst hp
  have e : x.toNatClampNeg = k := by
    show x.toInt.toNat = k
    omega
  unfold pm_mem at hm
  simp only [zat_hi hr.1, hr.2.1, e, hr.2.2] at hm
  have hm := zbif hm
  cases hm
  exact kk
theorem w_cvr {j' : Nat} {P : Option Value → pm_H → Prop} (hA : Nat.blt A 1048576 = false ∧ A - 1048576 = i9) (hc : pm_code kK j pc = some (6, .invokevirtual fi, aux)) (hl : pm_lnk kK (pm_own kK j) fi = some (2, j', na, .null)) (hd : st.drop na = .ref A :: r) (ha : .ref A :: (st.take na).reverse = as) (hp : pc + 3 = pc') (hz : zM j' as ph P) (kk : ∀ v ph', P v ph' → zW n D j Q pc' L (v.toList ++ r) ph') : zW n D j Q pc L st ph := w_inv hc fun j2 as2 r2 hi => by
  obtain ⟨e1, e2, e3⟩ := zin2 hl hd hA.1 hA.2 hi
  subst hp ha e1 e2 e3
  exact ⟨P, hz, kk⟩
theorem w_mac {j' : Nat} {P : Option Value → pm_H → Prop} {x y : Int32} (hc : pm_code kK j pc = some (8, ins, aux)) (hl : pm_lnk kK (pm_own kK j) aux = some (1, j', 3, v0)) (hp : pc + 6 = pc') (hz : zM j' [.int x, .int y, .null] ph P) (kk : ∀ v ph', P v ph' → zW n D j Q pc' L (v.toList ++ r) ph') : zW n D j Q pc L (.int y :: .int x :: r) ph := fun k hk cs ss r9 hr => by
  cases k with
  | zero => exact hr.elim
  | succ k =>
    rw [pm_Tn] at hr
    unfold pm_step at hr
    simp only [hc] at hr
    cases hm : pm_mac kK (pm_own kK j) aux (.int y :: .int x :: r) ph with
    | none => simp only [hm] at hr
    | some q =>
      obtain ⟨j2, as2, r2⟩ := q
      simp only [hm] at hr
      obtain ⟨v, ph', c1, s1, h1, h2⟩ := hr
      unfold pm_mac at hm
      have hm := zbif2 hm
      unfold pm_inv at hm
      simp only [hl] at hm
      have hm := zbif hm
      cases hm
      subst hp
      exact kk v ph' (hz D _ h1) k (by omega) _ _ r9 h2
end ZSR
/-- a string at s, its signs at B, so many of them, cs -/
def zStr (s B N : Nat) (cs : Nat → Nat) : Prop := ∃ i9, (Nat.blt s 1048576 = false ∧ s - 1048576 = i9) ∧ pm_ro kK i9 0 = some (.ref B) ∧ pm_ro kK i9 1 = some (.int 0) ∧ Nat.blt B 1048576 = false ∧ N ≤ 20 ∧ ∃ f, pm_rat kK B = some (3, N, f) ∧ ∀ k, k < N → f k = .int (zn (cs k)) ∧ cs k < 128
def zls (l : List Nat) (k : Nat) : Nat := l.getD k 0
theorem zchr : ∀ c, c < 128 → (((zn c &&& (Int16.ofInt 255).toInt32).toUInt32 % 65536).toInt32) = zn c := by decide
theorem zstr_dot : zStr 1048627 1048587 2 (zls [46, 35]) := ⟨_, ⟨rfl, rfl⟩, rfl, rfl, rfl, by decide, _, rfl, fun k hk => by
  rcases (show k = 0 ∨ k = 1 by omega) with e | e <;> subst e <;> exact ⟨rfl, by decide⟩⟩
theorem zstr_lets : zStr 1048628 1048588 8 (zls [98, 108, 107, 102, 114, 99, 110, 112]) := ⟨_, ⟨rfl, rfl⟩, rfl, rfl, rfl, by decide, _, rfl, fun k hk => by
  rcases (show k = 0 ∨ k = 1 ∨ k = 2 ∨ k = 3 ∨ k = 4 ∨ k = 5 ∨ k = 6 ∨ k = 7 by omega) with e | e | e | e | e | e | e | e <;> subst e <;> exact ⟨rfl, by decide⟩⟩
theorem zstr_cmp : zStr 1048629 1048589 3 (zls [60, 62, 61]) := ⟨_, ⟨rfl, rfl⟩, rfl, rfl, rfl, by decide, _, rfl, fun k hk => by
  rcases (show k = 0 ∨ k = 1 ∨ k = 2 by omega) with e | e | e <;> subst e <;> exact ⟨rfl, by decide⟩⟩
theorem zstr_add : zStr 1048630 1048590 2 (zls [43, 45]) := ⟨_, ⟨rfl, rfl⟩, rfl, rfl, rfl, by decide, _, rfl, fun k hk => by
  rcases (show k = 0 ∨ k = 1 by omega) with e | e <;> subst e <;> exact ⟨rfl, by decide⟩⟩
theorem zstr_mul : zStr 1048631 1048591 2 (zls [42, 47]) := ⟨_, ⟨rfl, rfl⟩, rfl, rfl, rfl, by decide, _, rfl, fun k hk => by
  rcases (show k = 0 ∨ k = 1 by omega) with e | e <;> subst e <;> exact ⟨rfl, by decide⟩⟩
theorem zstr_day : zStr 1048632 1048592 5 (zls [110, 102, 103, 98, 112]) := ⟨_, ⟨rfl, rfl⟩, rfl, rfl, rfl, by decide, _, rfl, fun k hk => by
  rcases (show k = 0 ∨ k = 1 ∨ k = 2 ∨ k = 3 ∨ k = 4 by omega) with e | e | e | e | e <;> subst e <;> exact ⟨rfl, by decide⟩⟩
theorem zstr_letc : zStr 1048626 1048586 8 (zls [98, 108, 107, 102, 114, 99, 110, 112]) := ⟨_, ⟨rfl, rfl⟩, rfl, rfl, rfl, by decide, _, rfl, fun k hk => by
  rcases (show k = 0 ∨ k = 1 ∨ k = 2 ∨ k = 3 ∨ k = 4 ∨ k = 5 ∨ k = 6 ∨ k = 7 by omega) with e | e | e | e | e | e | e | e <;> subst e <;> exact ⟨rfl, by decide⟩⟩
theorem zj_latin {s B N : Nat} {cs : Nat → Nat} {ph : pm_H} (hst : zStr s B N cs) : zM 311 [.ref s] ph (fun v q => ph = q ∧ v = some (.int (zI true))) := by
  obtain ⟨Q, hQ⟩ : ∃ Q : Option Value → pm_H → Prop, Q = (fun v q => ph = q ∧ v = some (.int (zI true))) := ⟨_, rfl⟩
  rw [← hQ]
  refine zM_mk fun n D => ?_
  show zW n D 311 Q 0 [some (.ref s)] [] ph
  have c_0 : (Int32.ofInt 0).toInt = 0 := by decide
  have c_1 : (Int32.ofInt 1).toInt = 1 := by decide
  obtain ⟨i9, s1, s2, s3, s4, s5, f, s6, s7⟩ := hst
  have k0 : (0 : Int32).toInt = 0 := by decide
  have k1 : (1 : Int32).toInt = 1 := by decide
  refine w_push (pc' := 3) (v := .int (1 : Int32)) (m := 3) (ykc_311 (e := (1, .getstatic 38, 0)) rfl) rfl rfl ?_
  refine w_zeq (ykc_311 (e := (4, .ifCond .eq 14, 17)) rfl) rfl (fun q => by exfalso; omega) (fun b1395 => ?_)
  refine w_load (pc' := 7) (v := .ref s) (m := 1) (ykc_311 (e := (2, .aload_n kF0, 0)) rfl) rfl rfl ?_
  refine w_gfr (pc' := 10) (v := .int 0) (ykc_311 (e := (5, .getfield 15, 0)) rfl) rfl s1 s3 rfl ?_
  refine w_zne (ykc_311 (e := (4, .ifCond .ne 7, 17)) rfl) rfl (fun q => by exfalso; omega) (fun b1396 => ?_)
  refine w_alu (pc' := 14) (st' := [.int (Int32.ofInt 1)]) (ykc_311 (e := (0, .iconst 1, 0)) rfl) rfl rfl ?_
  refine w_br (pc' := 18) (st' := [.int (Int32.ofInt 1)]) (ykc_311 (e := (4, .goto 4, 18)) rfl) rfl ?_
  refine w_ret (v := (some (.int (Int32.ofInt 1)))) (ykc_311 (e := (7, .ireturn, 0)) rfl) zr_z ?_
  rw [hQ, zi1]
  exact ⟨rfl, rfl⟩
theorem zj_coder {s B N : Nat} {cs : Nat → Nat} {ph : pm_H} (hst : zStr s B N cs) : zM 310 [.ref s] ph (fun v q => ph = q ∧ v = some (.int 0)) := by
  obtain ⟨Q, hQ⟩ : ∃ Q : Option Value → pm_H → Prop, Q = (fun v q => ph = q ∧ v = some (.int 0)) := ⟨_, rfl⟩
  rw [← hQ]
  refine zM_mk fun n D => ?_
  show zW n D 310 Q 0 [some (.ref s)] [] ph
  have c_0 : (Int32.ofInt 1).toInt = 1 := by decide
  obtain ⟨i9, s1, s2, s3, s4, s5, f, s6, s7⟩ := hst
  have k0 : (0 : Int32).toInt = 0 := by decide
  have k1 : (1 : Int32).toInt = 1 := by decide
  refine w_push (pc' := 3) (v := .int (1 : Int32)) (m := 3) (ykc_310 (e := (1, .getstatic 38, 0)) rfl) rfl rfl ?_
  refine w_zeq (ykc_310 (e := (4, .ifCond .eq 10, 13)) rfl) rfl (fun q => by exfalso; omega) (fun b1397 => ?_)
  refine w_load (pc' := 7) (v := .ref s) (m := 1) (ykc_310 (e := (2, .aload_n kF0, 0)) rfl) rfl rfl ?_
  refine w_gfr (pc' := 10) (v := .int 0) (ykc_310 (e := (5, .getfield 15, 0)) rfl) rfl s1 s3 rfl ?_
  refine w_br (pc' := 14) (st' := [.int 0]) (ykc_310 (e := (4, .goto 4, 14)) rfl) rfl ?_
  refine w_ret (v := (some (.int 0))) (ykc_310 (e := (7, .ireturn, 0)) rfl) zr_i ?_
  rw [hQ]
  exact ⟨rfl, rfl⟩
theorem zsh0 : ∀ N, N ≤ 20 → Int32.ofNat N >>> ((0 : Int32) &&& 31) = zn N := by decide
theorem zj_len {s B N : Nat} {cs : Nat → Nat} {ph : pm_H} (hst : zStr s B N cs) : zM 306 [.ref s] ph (fun v q => ph = q ∧ v = some (.int (zn N))) := by
  obtain ⟨Q, hQ⟩ : ∃ Q : Option Value → pm_H → Prop, Q = (fun v q => ph = q ∧ v = some (.int (zn N))) := ⟨_, rfl⟩
  rw [← hQ]
  refine zM_mk fun n D => ?_
  show zW n D 306 Q 0 [some (.ref s)] [] ph
  obtain ⟨i9, s1, s2, s3, s4, s5, f, s6, s7⟩ := hst
  have k0 : (0 : Int32).toInt = 0 := by decide
  have k1 : (1 : Int32).toInt = 1 := by decide
  refine w_load (pc' := 1) (v := .ref s) (m := 1) (ykc_306 (e := (2, .aload_n kF0, 0)) rfl) rfl rfl ?_
  refine w_gfr (pc' := 4) (v := .ref B) (ykc_306 (e := (5, .getfield 9, 0)) rfl) rfl s1 s2 rfl ?_
  refine w_alr (ykc_306 (e := (5, .arraylength, 0)) rfl) ⟨s4, s6⟩ rfl ?_
  refine w_load (pc' := 6) (v := .ref s) (m := 1) (ykc_306 (e := (2, .aload_n kF0, 0)) rfl) rfl rfl ?_
  refine w_cvr s1 (as := [.ref s]) (r := [.int (Int32.ofNat N)]) (ykc_306 (e := (6, .invokevirtual 335, 0)) rfl) rfl rfl rfl rfl (zj_coder ⟨i9, s1, s2, s3, s4, s5, f, s6, s7⟩) (fun v1398 ph1399 hv => ?_)
  obtain ⟨rfl, rfl⟩ := hv
  show zW n D 306 Q 9 [some (.ref s)] [.int 0, .int (Int32.ofNat N)] ph
  refine w_alu (pc' := 10) (st' := [.int ((Int32.ofNat N) >>> (0 &&& 31))]) (ykc_306 (e := (0, .ishr, 0)) rfl) rfl rfl ?_
  refine w_ret (v := (some (.int ((Int32.ofNat N) >>> (0 &&& 31))))) (ykc_306 (e := (7, .ireturn, 0)) rfl) (zr_v rfl) ?_
  rw [hQ]
  exact ⟨rfl, by rw [show (Int32.ofNat N) >>> (0 &&& 31) = zn N from zsh0 N s5]⟩
theorem zj_chk {x y : Int32} {a b : Nat} {ph : pm_H} (hx : x.toInt = (a : Int)) (hy : y.toInt = (b : Int)) (hab : a < b) : zM 329 [.int x, .int y, .null] ph (fun v q => ph = q ∧ v = some (.int x)) := by
  obtain ⟨Q, hQ⟩ : ∃ Q : Option Value → pm_H → Prop, Q = (fun v q => ph = q ∧ v = some (.int x)) := ⟨_, rfl⟩
  rw [← hQ]
  refine zM_mk fun n D => ?_
  show zW n D 329 Q 0 [some (.int x), some (.int y), some (.null)] [] ph
  refine w_load (pc' := 1) (v := .int x) (m := 1) (ykc_329 (e := (2, .iload_n kF0, 0)) rfl) rfl rfl ?_
  refine w_zlt (ykc_329 (e := (4, .ifCond .lt 8, 9)) rfl) rfl (fun q => by exfalso; omega) (fun b1400 => ?_)
  refine w_load (pc' := 5) (v := .int x) (m := 1) (ykc_329 (e := (2, .iload_n kF0, 0)) rfl) rfl rfl ?_
  refine w_load (pc' := 6) (v := .int y) (m := 1) (ykc_329 (e := (2, .iload_n kF1, 0)) rfl) rfl rfl ?_
  refine w_ilt (ykc_329 (e := (4, .if_icmp .lt 10, 16)) rfl) rfl (fun b1401 => ?_) (fun q => by exfalso; omega)
  refine w_load (pc' := 17) (v := .int x) (m := 1) (ykc_329 (e := (2, .iload_n kF0, 0)) rfl) rfl rfl ?_
  refine w_ret (v := (some (.int x))) (ykc_329 (e := (7, .ireturn, 0)) rfl) (zr_v rfl) ?_
  rw [hQ]
  exact ⟨rfl, rfl⟩
theorem zj_chk2 {x y : Int32} {a b : Nat} {ph : pm_H} (hx : x.toInt = (a : Int)) (hy : y.toInt = (b : Int)) (hab : a < b) : zM 312 [.int x, .int y] ph (fun v q => ph = q ∧ v = none) := by
  obtain ⟨Q, hQ⟩ : ∃ Q : Option Value → pm_H → Prop, Q = (fun v q => ph = q ∧ v = none) := ⟨_, rfl⟩
  rw [← hQ]
  refine zM_mk fun n D => ?_
  show zW n D 312 Q 0 [some (.int x), some (.int y)] [] ph
  refine w_load (pc' := 1) (v := .int x) (m := 1) (ykc_312 (e := (2, .iload_n kF0, 0)) rfl) rfl rfl ?_
  refine w_load (pc' := 2) (v := .int y) (m := 1) (ykc_312 (e := (2, .iload_n kF1, 0)) rfl) rfl rfl ?_
  refine w_mac (ykc_312 (e := (8, .getstatic 1053, 1059)) rfl) rfl rfl (zj_chk hx hy hab) (fun v1402 ph1403 hv => ?_)
  obtain ⟨rfl, rfl⟩ := hv
  show zW n D 312 Q 8 [some (.int x), some (.int y)] [.int x] ph
  refine w_alu (pc' := 9) (st' := []) (ykc_312 (e := (0, .pop, 0)) rfl) rfl rfl ?_
  refine w_ret (v := none) (ykc_312 (e := (7, .return_, 0)) rfl) (zr_v rfl) ?_
  rw [hQ]
  exact ⟨rfl, rfl⟩
theorem zj_chr1 {s B N : Nat} {cs : Nat → Nat} {ph : pm_H} (hst : zStr s B N cs) {x : Int32} {k : Nat} (hx : x.toInt = (k : Int)) (hk : k < N) : zM 314 [.ref B, .int x] ph (fun v q => ph = q ∧ v = some (.int (zn (cs k)))) := by
  obtain ⟨Q, hQ⟩ : ∃ Q : Option Value → pm_H → Prop, Q = (fun v q => ph = q ∧ v = some (.int (zn (cs k)))) := ⟨_, rfl⟩
  rw [← hQ]
  refine zM_mk fun n D => ?_
  show zW n D 314 Q 0 [some (.ref B), some (.int x)] [] ph
  have c_0 : ((Int16.ofInt 255).toInt32).toInt = 255 := by decide
  obtain ⟨i9, s1, s2, s3, s4, s5, f, s6, s7⟩ := hst
  have k0 : (0 : Int32).toInt = 0 := by decide
  have k1 : (1 : Int32).toInt = 1 := by decide
  refine w_load (pc' := 1) (v := .int x) (m := 1) (ykc_314 (e := (2, .iload_n kF1, 0)) rfl) rfl rfl ?_
  refine w_load (pc' := 2) (v := .ref B) (m := 1) (ykc_314 (e := (2, .aload_n kF0, 0)) rfl) rfl rfl ?_
  refine w_alr (ykc_314 (e := (5, .arraylength, 0)) rfl) ⟨s4, s6⟩ rfl ?_
  refine w_cs (as := [.int x, .int (Int32.ofNat N)]) (r := []) (ykc_314 (e := (6, .invokestatic 9, 0)) rfl) rfl rfl rfl rfl (zj_chk2 (a := k) (b := N) hx (znt (by omega)) hk) (fun v1404 ph1405 hv => ?_)
  obtain ⟨rfl, rfl⟩ := hv
  show zW n D 314 Q 6 [some (.ref B), some (.int x)] [] ph
  refine w_load (pc' := 7) (v := .ref B) (m := 1) (ykc_314 (e := (2, .aload_n kF0, 0)) rfl) rfl rfl ?_
  refine w_load (pc' := 8) (v := .int x) (m := 1) (ykc_314 (e := (2, .iload_n kF1, 0)) rfl) rfl rfl ?_
  refine w_blr (pc' := 9) (k := k) (y := zn (cs k)) (ykc_314 (e := (5, .baload, 0)) rfl) ⟨s4, s6, (s7 k hk).1⟩ (by omega) rfl ?_
  refine w_push (pc' := 12) (v := .int ((Int16.ofInt 255).toInt32)) (m := 3) (ykc_314 (e := (1, .sipush 255, 0)) rfl) rfl rfl ?_
  refine w_alu (pc' := 13) (st' := [.int ((zn (cs k)) &&& ((Int16.ofInt 255).toInt32))]) (ykc_314 (e := (0, .iand, 0)) rfl) rfl rfl ?_
  refine w_alu (pc' := 14) (st' := [.int (zn (cs k))]) (ykc_314 (e := (0, .i2c, 0)) rfl) (by show some ([.int ((((zn (cs k)) &&& ((Int16.ofInt 255).toInt32)).toUInt32 % 65536).toInt32)] : List Value) = _; rw [(zchr _ (s7 k hk).2 : (((zn (cs k)) &&& ((Int16.ofInt 255).toInt32)).toUInt32 % 65536).toInt32 = zn (cs k))]) rfl ?_
  refine w_ret (v := (some (.int (zn (cs k))))) (ykc_314 (e := (7, .ireturn, 0)) rfl) zr_i ?_
  rw [hQ]
  exact ⟨rfl, rfl⟩
theorem zj_chr {s B N : Nat} {cs : Nat → Nat} {ph : pm_H} (hst : zStr s B N cs) {x : Int32} {k : Nat} (hx : x.toInt = (k : Int)) (hk : k < N) : zM 307 [.ref s, .int x] ph (fun v q => ph = q ∧ v = some (.int (zn (cs k)))) := by
  obtain ⟨Q, hQ⟩ : ∃ Q : Option Value → pm_H → Prop, Q = (fun v q => ph = q ∧ v = some (.int (zn (cs k)))) := ⟨_, rfl⟩
  rw [← hQ]
  refine zM_mk fun n D => ?_
  show zW n D 307 Q 0 [some (.ref s), some (.int x)] [] ph
  obtain ⟨i9, s1, s2, s3, s4, s5, f, s6, s7⟩ := hst
  have k0 : (0 : Int32).toInt = 0 := by decide
  have k1 : (1 : Int32).toInt = 1 := by decide
  refine w_load (pc' := 1) (v := .ref s) (m := 1) (ykc_307 (e := (2, .aload_n kF0, 0)) rfl) rfl rfl ?_
  refine w_cvr s1 (as := [.ref s]) (r := []) (ykc_307 (e := (6, .invokevirtual 492, 0)) rfl) rfl rfl rfl rfl (zj_latin ⟨i9, s1, s2, s3, s4, s5, f, s6, s7⟩) (fun v1406 ph1407 hv => ?_)
  obtain ⟨rfl, rfl⟩ := hv
  show zW n D 307 Q 4 [some (.ref s), some (.int x)] [.int (zI true)] ph
  refine w_beq (ykc_307 (e := (4, .ifCond .eq 12, 16)) rfl) rfl (fun q => absurd q (by decide)) (fun b1408 => ?_)
  refine w_load (pc' := 8) (v := .ref s) (m := 1) (ykc_307 (e := (2, .aload_n kF0, 0)) rfl) rfl rfl ?_
  refine w_gfr (pc' := 11) (v := .ref B) (ykc_307 (e := (5, .getfield 9, 0)) rfl) rfl s1 s2 rfl ?_
  refine w_load (pc' := 12) (v := .int x) (m := 1) (ykc_307 (e := (2, .iload_n kF1, 0)) rfl) rfl rfl ?_
  refine w_cs (as := [.ref B, .int x]) (r := []) (ykc_307 (e := (6, .invokestatic 495, 0)) rfl) rfl rfl rfl rfl (zj_chr1 ⟨i9, s1, s2, s3, s4, s5, f, s6, s7⟩ hx hk) (fun v1409 ph1410 hv => ?_)
  obtain ⟨rfl, rfl⟩ := hv
  show zW n D 307 Q 15 [some (.ref s), some (.int x)] [.int (zn (cs k))] ph
  refine w_ret (v := (some (.int (zn (cs k))))) (ykc_307 (e := (7, .ireturn, 0)) rfl) zr_i ?_
  rw [hQ]
  exact ⟨rfl, rfl⟩

/-! texts: single signs, by W; printed by wip/z/z1b_text.py -/
/-- the class's text; the reference's, read from a to b -/
def zTc (ph : pm_H) (n : Nat) (t : Nat → Nat) : Prop := zc ph 1 1 = some (.int (zn n)) ∧ n ≤ 80 ∧ ∀ i, i < n → zc ph 2 i = some (.int (zn (t i))) ∧ t i < 256
def zTm (ph : pm_H) (a b n : Nat) (t : Nat → Nat) : Prop := zc ph 170 15 = some (.int (zn a)) ∧ zc ph 170 16 = some (.int (zn b)) ∧ a ≤ b ∧ b ≤ n ∧ n ≤ 80 ∧ ∀ i, i < n → zc ph 176 i = some (.int (zn (t i))) ∧ t i < 256
def zTi (n : Nat) (t : Nat → Nat) (k : Nat) : Int := if k < n then (t k : Int) else -1
def zDi (n : Nat) (t : Nat → Nat) (k : Nat) : Int := if k < n ∧ 48 ≤ t k ∧ t k ≤ 57 then (t k : Int) - 48 else -1
theorem zTc_F {A : List Nat} {F : List (Nat × Nat)} {p q : pm_H} {n : Nat} {t : Nat → Nat} (f : zFr A F p q) (h1 : 1 ∉ A ∧ 2 ∉ A) (h2 : (1, 1) ∉ F) (h3 : ∀ i, (2, i) ∉ F) (h : zTc p n t) : zTc q n t := ⟨(f.1 _ _ h1.1 h2).trans h.1, h.2.1, fun i hi => ⟨(f.1 _ _ h1.2 (h3 i)).trans (h.2.2 i hi).1, (h.2.2 i hi).2⟩⟩
theorem zTm_F {A : List Nat} {F : List (Nat × Nat)} {p q : pm_H} {a b n : Nat} {t : Nat → Nat} (f : zFr A F p q) (h1 : 170 ∉ A ∧ 176 ∉ A) (h2 : (170, 15) ∉ F ∧ (170, 16) ∉ F) (h3 : ∀ i, (176, i) ∉ F) (h : zTm p a b n t) : zTm q a b n t := ⟨(f.1 _ _ h1.1 h2.1).trans h.1, (f.1 _ _ h1.1 h2.2).trans h.2.1, h.2.2.1, h.2.2.2.1, h.2.2.2.2.1, fun i hi => ⟨(f.1 _ _ h1.2 (h3 i)).trans (h.2.2.2.2.2 i hi).1, (h.2.2.2.2.2 i hi).2⟩⟩
theorem zTm_u {p q : pm_H} {a a' b n : Nat} {t : Nat → Nat} (u : zst p q 170 15 (.int (zn a'))) (ha : a' ≤ b) (h : zTm p a b n t) : zTm q a' b n t := ⟨u.1, (u.2.1 170 16 (fun e => absurd e.2 (by decide))).trans h.2.1, ha, h.2.2.2.1, h.2.2.2.2.1, fun i hi => ⟨(u.2.1 176 i (fun e => absurd e.1 (by decide))).trans (h.2.2.2.2.2 i hi).1, (h.2.2.2.2.2 i hi).2⟩⟩
theorem zTi_1 {n k : Nat} {t : Nat → Nat} (h : k < n) : zTi n t k = (t k : Int) := if_pos h
theorem zTi_0 {n k : Nat} {t : Nat → Nat} (h : ¬ k < n) : zTi n t k = -1 := if_neg h
theorem zDi_1 {n k : Nat} {t : Nat → Nat} (h : k < n ∧ 48 ≤ t k ∧ t k ≤ 57) : zDi n t k = (t k : Int) - 48 := if_pos h
theorem zDi_0 {n k : Nat} {t : Nat → Nat} (h : ¬ (k < n ∧ 48 ≤ t k ∧ t k ≤ 57)) : zDi n t k = -1 := if_neg h
theorem zTi_b {n k : Nat} {t : Nat → Nat} (h : k < n → t k < 256) : -1 ≤ zTi n t k ∧ zTi n t k < 256 := by
  unfold zTi
  split
  · next e => have := h e; omega
  · omega
theorem zDi_b {n k : Nat} {t : Nat → Nat} : -1 ≤ zDi n t k ∧ zDi n t k ≤ 9 := by
  unfold zDi
  split <;> omega
theorem zTi_c {n k : Nat} {t : Nat → Nat} : (k < n ∧ zTi n t k = (t k : Int)) ∨ (¬ k < n ∧ zTi n t k = -1) := by
  by_cases h : k < n
  · exact Or.inl ⟨h, zTi_1 h⟩
  · exact Or.inr ⟨h, zTi_0 h⟩
theorem zDi_c {n k : Nat} {t : Nat → Nat} : (k < n ∧ 48 ≤ t k ∧ t k ≤ 57 ∧ zDi n t k = (t k : Int) - 48) ∨ (¬ (k < n ∧ 48 ≤ t k ∧ t k ≤ 57) ∧ zDi n t k = -1) := by
  by_cases h : k < n ∧ 48 ≤ t k ∧ t k ≤ 57
  · exact Or.inl ⟨h.1, h.2.1, h.2.2, zDi_1 h⟩
  · exact Or.inr ⟨h, zDi_0 h⟩
theorem zF15_S {p q : pm_H} (f : zFr [] [(170, 15)] p q) (h : zSh p) : zSh q := zSh_F f (by decide +kernel) h
theorem zc_at {ph : pm_H} {ln : Nat} {t : Nat → Nat} (hS : zSh ph) (hT : zTc ph ln t) {x : Int32} {k : Nat} (hx : x.toInt = (k : Int)) : zM 97 [.ref 1, .int x] ph (fun v q => ph = q ∧ ∃ z : Int32, v = some (.int z) ∧ z.toInt = zTi ln t k) := by
  obtain ⟨Q, hQ⟩ : ∃ Q : Option Value → pm_H → Prop, Q = (fun v q => ph = q ∧ ∃ z : Int32, v = some (.int z) ∧ z.toInt = zTi ln t k) := ⟨_, rfl⟩
  rw [← hQ]
  refine zM_mk fun n D => ?_
  show zW n D 97 Q 0 [some (.ref 1), some (.int x)] [] ph
  have c_0 : (Int32.ofInt (-1)).toInt = -1 := by decide
  obtain ⟨gn, hn80, gt⟩ := hT
  have tn := znt (k := ln) (by omega)
  refine w_load (pc' := 1) (v := .int x) (m := 1) (ykc_97 (e := (2, .iload_n kF1, 0)) rfl) rfl rfl ?_
  refine w_zlt (ykc_97 (e := (4, .ifCond .lt 20, 21)) rfl) rfl (fun q => by exfalso; omega) (fun b1411 => ?_)
  refine w_load (pc' := 5) (v := .int x) (m := 1) (ykc_97 (e := (2, .iload_n kF1, 0)) rfl) rfl rfl ?_
  refine w_load (pc' := 6) (v := .ref 1) (m := 1) (ykc_97 (e := (2, .aload_n kF0, 0)) rfl) rfl rfl ?_
  refine w_gf (pc' := 9) (v := .int (zn ln)) (ykc_97 (e := (5, .getfield 13, 0)) rfl) rfl gn rfl ?_
  refine w_ige (ykc_97 (e := (4, .if_icmp .ge 12, 21)) rfl) rfl (fun b1412 => ?_) (fun b1412 => ?_)
  · refine w_alu (pc' := 22) (st' := [.int (Int32.ofInt (-1))]) (ykc_97 (e := (0, .iconst (-1), 0)) rfl) rfl rfl ?_
    refine w_ret (v := (some (.int (Int32.ofInt (-1))))) (ykc_97 (e := (7, .ireturn, 0)) rfl) (zr_v rfl) ?_
    have d9 := @zTi_c ln k t
    rw [hQ]
    exact ⟨rfl, _, rfl, by omega⟩
  · refine w_load (pc' := 13) (v := .ref 1) (m := 1) (ykc_97 (e := (2, .aload_n kF0, 0)) rfl) rfl rfl ?_
    refine w_gf (pc' := 16) (v := .ref 2) (ykc_97 (e := (5, .getfield 9, 0)) rfl) rfl (zsg hS zs_1_0) rfl ?_
    refine w_load (pc' := 17) (v := .int x) (m := 1) (ykc_97 (e := (2, .iload_n kF1, 0)) rfl) rfl rfl ?_
    have q1413 := (gt k (by omega)).2
    have tq1413 := znt (k := t k) (by omega)
    refine w_ialk (pc' := 18) (k := k) (ykc_97 (e := (5, .iaload, 0)) rfl) (gt k (by omega)).1 (by omega) rfl ?_
    refine w_br (pc' := 22) (st' := [.int (zn (t k))]) (ykc_97 (e := (4, .goto 4, 22)) rfl) rfl ?_
    refine w_ret (v := (some (.int (zn (t k))))) (ykc_97 (e := (7, .ireturn, 0)) rfl) (zr_v rfl) ?_
    have d9 := @zTi_c ln k t
    rw [hQ]
    exact ⟨rfl, _, rfl, by omega⟩
theorem zc_digit {ph : pm_H} {ln : Nat} {t : Nat → Nat} (hS : zSh ph) (hT : zTc ph ln t) {x : Int32} {k : Nat} (hx : x.toInt = (k : Int)) : zM 98 [.ref 1, .int x] ph (fun v q => ph = q ∧ ∃ z : Int32, v = some (.int z) ∧ z.toInt = zDi ln t k) := by
  obtain ⟨Q, hQ⟩ : ∃ Q : Option Value → pm_H → Prop, Q = (fun v q => ph = q ∧ ∃ z : Int32, v = some (.int z) ∧ z.toInt = zDi ln t k) := ⟨_, rfl⟩
  rw [← hQ]
  refine zM_mk fun n D => ?_
  show zW n D 98 Q 0 [some (.ref 1), some (.int x), none] [] ph
  have c_0 : ((Int8.ofInt 48).toInt32).toInt = 48 := by decide
  have c_1 : ((Int8.ofInt 57).toInt32).toInt = 57 := by decide
  have c_2 : (Int32.ofInt (-1)).toInt = -1 := by decide
  have hT0 := hT
  obtain ⟨gn, hn80, gt⟩ := hT
  have tn := znt (k := ln) (by omega)
  refine w_load (pc' := 1) (v := .ref 1) (m := 1) (ykc_98 (e := (2, .aload_n kF0, 0)) rfl) rfl rfl ?_
  refine w_load (pc' := 2) (v := .int x) (m := 1) (ykc_98 (e := (2, .iload_n kF1, 0)) rfl) rfl rfl ?_
  refine w_cv (as := [.ref 1, .int x]) (r := []) (ykc_98 (e := (6, .invokevirtual 17, 0)) rfl) rfl rfl rfl rfl (zc_at hS hT0 (k := k) (by omega)) (fun v1415 ph1416 hv => ?_)
  obtain ⟨rfl, g1414, rfl, e_g1414⟩ := hv
  have b_g1414 := @zTi_b ln k t (fun h => (gt _ h).2)
  have d_g1414 := @zTi_c ln k t
  show zW n D 98 Q 5 [some (.ref 1), some (.int x), none] [.int g1414] ph
  refine w_store (pc' := 6) (L' := [some (.ref 1), some (.int x), some (.int g1414)]) (st' := []) (m := 1) (ykc_98 (e := (3, .istore_n kF2, 0)) rfl) rfl rfl ?_
  refine w_load (pc' := 7) (v := .int g1414) (m := 1) (ykc_98 (e := (2, .iload_n kF2, 0)) rfl) rfl rfl ?_
  refine w_push (pc' := 9) (v := .int ((Int8.ofInt 48).toInt32)) (m := 2) (ykc_98 (e := (1, .bipush 48, 0)) rfl) rfl rfl ?_
  refine w_ilt (ykc_98 (e := (4, .if_icmp .lt 16, 25)) rfl) rfl (fun b1417 => ?_) (fun b1417 => ?_)
  · refine w_alu (pc' := 26) (st' := [.int (Int32.ofInt (-1))]) (ykc_98 (e := (0, .iconst (-1), 0)) rfl) rfl rfl ?_
    refine w_ret (v := (some (.int (Int32.ofInt (-1))))) (ykc_98 (e := (7, .ireturn, 0)) rfl) (zr_v rfl) ?_
    have d8 := @zDi_c ln k t
    rw [hQ]
    exact ⟨rfl, _, rfl, by omega⟩
  · refine w_load (pc' := 13) (v := .int g1414) (m := 1) (ykc_98 (e := (2, .iload_n kF2, 0)) rfl) rfl rfl ?_
    refine w_push (pc' := 15) (v := .int ((Int8.ofInt 57).toInt32)) (m := 2) (ykc_98 (e := (1, .bipush 57, 0)) rfl) rfl rfl ?_
    refine w_igt (ykc_98 (e := (4, .if_icmp .gt 10, 25)) rfl) rfl (fun b1418 => ?_) (fun b1418 => ?_)
    · refine w_alu (pc' := 26) (st' := [.int (Int32.ofInt (-1))]) (ykc_98 (e := (0, .iconst (-1), 0)) rfl) rfl rfl ?_
      refine w_ret (v := (some (.int (Int32.ofInt (-1))))) (ykc_98 (e := (7, .ireturn, 0)) rfl) (zr_v rfl) ?_
      have d8 := @zDi_c ln k t
      rw [hQ]
      exact ⟨rfl, _, rfl, by omega⟩
    · refine w_load (pc' := 19) (v := .int g1414) (m := 1) (ykc_98 (e := (2, .iload_n kF2, 0)) rfl) rfl rfl ?_
      refine w_push (pc' := 21) (v := .int ((Int8.ofInt 48).toInt32)) (m := 2) (ykc_98 (e := (1, .bipush 48, 0)) rfl) rfl rfl ?_
      obtain ⟨z1419, e_z1419, h_z1419⟩ : ∃ zq : Int32, g1414 - ((Int8.ofInt 48).toInt32) = zq ∧ zq.toInt = zTi ln t k - (48 : Int) := ⟨_, rfl, (by have := ti_sub (x := g1414) (y := ((Int8.ofInt 48).toInt32)) (by omega) (by omega); omega)⟩
      refine w_alu (pc' := 22) (st' := [.int z1419]) (ykc_98 (e := (0, .isub, 0)) rfl) (by rw [← e_z1419]; rfl) rfl ?_
      refine w_br (pc' := 26) (st' := [.int z1419]) (ykc_98 (e := (4, .goto 4, 26)) rfl) rfl ?_
      refine w_ret (v := (some (.int z1419))) (ykc_98 (e := (7, .ireturn, 0)) rfl) (zr_v rfl) ?_
      have d8 := @zDi_c ln k t
      rw [hQ]
      exact ⟨rfl, _, rfl, by omega⟩
theorem zc_tsize {ph : pm_H} {ln : Nat} (hn : zc ph 1 1 = some (.int (zn ln))) : zM 99 [.ref 1] ph (fun v q => ph = q ∧ v = some (.int (zn ln))) := by
  obtain ⟨Q, hQ⟩ : ∃ Q : Option Value → pm_H → Prop, Q = (fun v q => ph = q ∧ v = some (.int (zn ln))) := ⟨_, rfl⟩
  rw [← hQ]
  refine zM_mk fun n D => ?_
  show zW n D 99 Q 0 [some (.ref 1)] [] ph
  refine w_load (pc' := 1) (v := .ref 1) (m := 1) (ykc_99 (e := (2, .aload_n kF0, 0)) rfl) rfl rfl ?_
  refine w_gf (pc' := 4) (v := .int (zn ln)) (ykc_99 (e := (5, .getfield 13, 0)) rfl) rfl hn rfl ?_
  refine w_ret (v := (some (.int (zn ln)))) (ykc_99 (e := (7, .ireturn, 0)) rfl) (zr_v rfl) ?_
  rw [hQ]
  exact ⟨rfl, rfl⟩
theorem zc_tclear {ph : pm_H} : zM 100 [.ref 1] ph (fun v q => v = none ∧ zFr [] [(1, 1)] ph q ∧ zc q 1 1 = some (.int (zn 0))) := by
  obtain ⟨Q, hQ⟩ : ∃ Q : Option Value → pm_H → Prop, Q = (fun v q => v = none ∧ zFr [] [(1, 1)] ph q ∧ zc q 1 1 = some (.int (zn 0))) := ⟨_, rfl⟩
  rw [← hQ]
  refine zM_mk fun n D => ?_
  show zW n D 100 Q 0 [some (.ref 1)] [] ph
  have c_0 : (Int32.ofInt 0).toInt = 0 := by decide
  refine w_load (pc' := 1) (v := .ref 1) (m := 1) (ykc_100 (e := (2, .aload_n kF0, 0)) rfl) rfl rfl ?_
  refine w_alu (pc' := 2) (st' := [.int (Int32.ofInt 0), .ref 1]) (ykc_100 (e := (0, .iconst 0, 0)) rfl) rfl rfl ?_
  refine w_pf (pc' := 5) (ykc_100 (e := (5, .putfield 13, 0)) rfl) rfl rfl (fun ph1421 u1420 => ?_)
  refine w_ret (v := none) (ykc_100 (e := (7, .return_, 0)) rfl) (zr_v rfl) ?_
  rw [hQ]
  exact ⟨rfl, zFr_st u1420 (Or.inr (by simp)), u1420.1⟩
theorem zm_begins {ph : pm_H} {ln c : Nat} {t : Nat → Nat} {y : Int32} (hS : zSh ph) (hn : zc ph 170 14 = some (.int (zn ln))) (hn80 : ln ≤ 80) (gt : ∀ i, i < ln → zc ph 176 i = some (.int (zn (t i))) ∧ t i < 256) (hy : y.toInt = (c : Int)) (hc : c ≤ 80) : zM 195 [.ref 170, .int y] ph (fun v q => v = some (.int (zn ln)) ∧ zFr [] [(170, 14), (170, 15), (170, 16), (170, 17)] ph q ∧ zc q 170 14 = some (.int (zn 0)) ∧ zTm q 0 (min ln c) ln t) := by
  obtain ⟨Q, hQ⟩ : ∃ Q : Option Value → pm_H → Prop, Q = (fun v q => v = some (.int (zn ln)) ∧ zFr [] [(170, 14), (170, 15), (170, 16), (170, 17)] ph q ∧ zc q 170 14 = some (.int (zn 0)) ∧ zTm q 0 (min ln c) ln t) := ⟨_, rfl⟩
  rw [← hQ]
  refine zM_mk fun n D => ?_
  show zW n D 195 Q 0 [some (.ref 170), some (.int y), none] [] ph
  have c_0 : (Int32.ofInt 0).toInt = 0 := by decide
  have tn := znt (k := ln) (by omega)
  refine w_load (pc' := 1) (v := .ref 170) (m := 1) (ykc_195 (e := (2, .aload_n kF0, 0)) rfl) rfl rfl ?_
  refine w_gf (pc' := 4) (v := .int (zn ln)) (ykc_195 (e := (5, .getfield 136, 0)) rfl) rfl hn rfl ?_
  refine w_store (pc' := 5) (L' := [some (.ref 170), some (.int y), some (.int (zn ln))]) (st' := []) (m := 1) (ykc_195 (e := (3, .istore_n kF2, 0)) rfl) rfl rfl ?_
  refine w_load (pc' := 6) (v := .ref 170) (m := 1) (ykc_195 (e := (2, .aload_n kF0, 0)) rfl) rfl rfl ?_
  refine w_alu (pc' := 7) (st' := [.int (Int32.ofInt 0), .ref 170]) (ykc_195 (e := (0, .iconst 0, 0)) rfl) rfl rfl ?_
  refine w_pf (pc' := 10) (ykc_195 (e := (5, .putfield 136, 0)) rfl) rfl rfl (fun ph1423 u1422 => ?_)
  refine w_load (pc' := 11) (v := .ref 170) (m := 1) (ykc_195 (e := (2, .aload_n kF0, 0)) rfl) rfl rfl ?_
  refine w_alu (pc' := 12) (st' := [.int (Int32.ofInt 0), .ref 170]) (ykc_195 (e := (0, .iconst 0, 0)) rfl) rfl rfl ?_
  refine w_pf (pc' := 15) (ykc_195 (e := (5, .putfield 139, 0)) rfl) rfl rfl (fun ph1425 u1424 => ?_)
  refine w_load (pc' := 16) (v := .ref 170) (m := 1) (ykc_195 (e := (2, .aload_n kF0, 0)) rfl) rfl rfl ?_
  refine w_alu (pc' := 17) (st' := [.int (Int32.ofInt 0), .ref 170]) (ykc_195 (e := (0, .iconst 0, 0)) rfl) rfl rfl ?_
  refine w_pf (pc' := 20) (ykc_195 (e := (5, .putfield 142, 0)) rfl) rfl rfl (fun ph1427 u1426 => ?_)
  refine w_load (pc' := 21) (v := .ref 170) (m := 1) (ykc_195 (e := (2, .aload_n kF0, 0)) rfl) rfl rfl ?_
  refine w_load (pc' := 22) (v := .int (zn ln)) (m := 1) (ykc_195 (e := (2, .iload_n kF2, 0)) rfl) rfl rfl ?_
  refine w_load (pc' := 23) (v := .int y) (m := 1) (ykc_195 (e := (2, .iload_n kF1, 0)) rfl) rfl rfl ?_
  obtain ⟨z1428, e_z1428⟩ : ∃ zq : Int32, (if y < (zn ln) then y else (zn ln)) = zq := ⟨_, rfl⟩
  have h_z1428 := zminI e_z1428
  have n_z1428 : z1428.toInt = ((min ln c : Nat) : Int) := by omega
  refine w_mem1 (pc' := 26) (m := 3) (st' := [.int z1428, .ref 170]) (ph' := ph1427) (ykc_195 (e := (5, .invokestatic 145, 0)) rfl) (by rw [← e_z1428]; rfl) rfl ?_
  refine w_pf (pc' := 29) (ykc_195 (e := (5, .putfield 151, 0)) rfl) rfl rfl (fun ph1430 u1429 => ?_)
  refine w_load (pc' := 30) (v := .int (zn ln)) (m := 1) (ykc_195 (e := (2, .iload_n kF2, 0)) rfl) rfl rfl ?_
  refine w_ret (v := (some (.int (zn ln)))) (ykc_195 (e := (7, .ireturn, 0)) rfl) (zr_v rfl) ?_
  rw [hQ]
  have ez : z1428 = zn (min ln c) := zn_of (by omega)
  have f4 : zFr [] [(170, 14), (170, 15), (170, 16), (170, 17)] ph ph1430 := zFr_trans (zFr_st u1422 (Or.inr (by simp))) (zFr_trans (zFr_st u1424 (Or.inr (by simp))) (zFr_trans (zFr_st u1426 (Or.inr (by simp))) (zFr_st u1429 (Or.inr (by simp)))))
  exact ⟨rfl, f4, ((u1429.2.1 170 14 (fun q => absurd q.2 (by decide))).trans ((u1426.2.1 170 14 (fun q => absurd q.2 (by decide))).trans ((u1424.2.1 170 14 (fun q => absurd q.2 (by decide))).trans u1422.1))), ((u1429.2.1 170 15 (fun q => absurd q.2 (by decide))).trans ((u1426.2.1 170 15 (fun q => absurd q.2 (by decide))).trans u1424.1)), by rw [← ez]; exact u1429.1, Nat.zero_le _, Nat.min_le_left _ _, hn80, fun i hi => ⟨(f4.1 _ _ (by decide) (by simp)).trans (gt i hi).1, (gt i hi).2⟩⟩
theorem zm_isDigit {ph : pm_H} {a b ln : Nat} {t : Nat → Nat} (hS : zSh ph) (hT : zTm ph a b ln t) : zM 197 [.ref 170] ph (fun v q => ph = q ∧ v = some (.int (zI (decide (a < b ∧ 48 ≤ t a ∧ t a ≤ 57))))) := by
  obtain ⟨Q, hQ⟩ : ∃ Q : Option Value → pm_H → Prop, Q = (fun v q => ph = q ∧ v = some (.int (zI (decide (a < b ∧ 48 ≤ t a ∧ t a ≤ 57))))) := ⟨_, rfl⟩
  rw [← hQ]
  refine zM_mk fun n D => ?_
  show zW n D 197 Q 0 [some (.ref 170)] [] ph
  have c_0 : (Int32.ofInt 0).toInt = 0 := by decide
  have c_1 : (Int32.ofInt 1).toInt = 1 := by decide
  obtain ⟨ga, gb, hab, hbn, hn80, gt⟩ := hT
  have ta := znt (k := a) (by omega)
  have tb := znt (k := b) (by omega)
  refine w_load (pc' := 1) (v := .ref 170) (m := 1) (ykc_197 (e := (2, .aload_n kF0, 0)) rfl) rfl rfl ?_
  refine w_gf (pc' := 4) (v := .int (zn a)) (ykc_197 (e := (5, .getfield 139, 0)) rfl) rfl ga rfl ?_
  refine w_load (pc' := 5) (v := .ref 170) (m := 1) (ykc_197 (e := (2, .aload_n kF0, 0)) rfl) rfl rfl ?_
  refine w_gf (pc' := 8) (v := .int (zn b)) (ykc_197 (e := (5, .getfield 151, 0)) rfl) rfl gb rfl ?_
  refine w_ige (ykc_197 (e := (4, .if_icmp .ge 29, 37)) rfl) rfl (fun b1431 => ?_) (fun b1431 => ?_)
  · refine w_alu (pc' := 38) (st' := [.int (Int32.ofInt 0)]) (ykc_197 (e := (0, .iconst 0, 0)) rfl) rfl rfl ?_
    refine w_ret (v := (some (.int (Int32.ofInt 0)))) (ykc_197 (e := (7, .ireturn, 0)) rfl) zr_z ?_
    rw [hQ, zi0]
    exact ⟨rfl, zvB (decide_eq_false (by omega)).symm⟩
  · refine w_load (pc' := 12) (v := .ref 170) (m := 1) (ykc_197 (e := (2, .aload_n kF0, 0)) rfl) rfl rfl ?_
    refine w_gf (pc' := 15) (v := .ref 176) (ykc_197 (e := (5, .getfield 47, 0)) rfl) rfl (zsg hS zs_170_13) rfl ?_
    refine w_load (pc' := 16) (v := .ref 170) (m := 1) (ykc_197 (e := (2, .aload_n kF0, 0)) rfl) rfl rfl ?_
    refine w_gf (pc' := 19) (v := .int (zn a)) (ykc_197 (e := (5, .getfield 139, 0)) rfl) rfl ga rfl ?_
    have q1432 := (gt a (by omega)).2
    have tq1432 := znt (k := t a) (by omega)
    refine w_ialk (pc' := 20) (k := a) (ykc_197 (e := (5, .iaload, 0)) rfl) (gt a (by omega)).1 (by omega) rfl ?_
    refine w_alu (pc' := 21) (st' := [.long ((zn (t a)).toInt64)]) (ykc_197 (e := (0, .i2l, 0)) rfl) rfl rfl ?_
    refine w_push (pc' := 24) (v := .long (48 : Int64)) (m := 3) (ykc_197 (e := (1, .ldc2_w 158, 0)) rfl) rfl rfl ?_
    refine w_push (pc' := 27) (v := .long (57 : Int64)) (m := 3) (ykc_197 (e := (1, .ldc2_w 160, 0)) rfl) rfl rfl ?_
    refine w_cs (as := [.long ((zn (t a)).toInt64), .long (48 : Int64), .long (57 : Int64)]) (r := []) (ykc_197 (e := (6, .invokestatic 126, 0)) rfl) rfl rfl rfl rfl (zm_in (x := ((t a : Nat) : Int)) (y := (48 : Int)) (z := (57 : Int)) (by first | exact ztl | (rw [ztl]; omega) | decide | omega) (by first | exact ztl | (rw [ztl]; omega) | decide | omega) (by first | exact ztl | (rw [ztl]; omega) | decide | omega)) (fun v1433 ph1434 hv => ?_)
    obtain ⟨rfl, rfl⟩ := hv
    show zW n D 197 Q 30 [some (.ref 170)] [.int (zI (decide ((48 : Int) ≤ ((t a : Nat) : Int) ∧ ((t a : Nat) : Int) ≤ (57 : Int))))] ph
    refine w_beq (ykc_197 (e := (4, .ifCond .eq 7, 37)) rfl) rfl (fun b1435 => ?_) (fun b1435 => ?_)
    · refine w_alu (pc' := 38) (st' := [.int (Int32.ofInt 0)]) (ykc_197 (e := (0, .iconst 0, 0)) rfl) rfl rfl ?_
      refine w_ret (v := (some (.int (Int32.ofInt 0)))) (ykc_197 (e := (7, .ireturn, 0)) rfl) zr_z ?_
      rw [hQ, zi0]
      exact ⟨rfl, zvB (decide_eq_false (by have h9 := of_decide_eq_false b1435; omega)).symm⟩
    · refine w_alu (pc' := 34) (st' := [.int (Int32.ofInt 1)]) (ykc_197 (e := (0, .iconst 1, 0)) rfl) rfl rfl ?_
      refine w_br (pc' := 38) (st' := [.int (Int32.ofInt 1)]) (ykc_197 (e := (4, .goto 4, 38)) rfl) rfl ?_
      refine w_ret (v := (some (.int (Int32.ofInt 1)))) (ykc_197 (e := (7, .ireturn, 0)) rfl) zr_z ?_
      rw [hQ, zi1]
      exact ⟨rfl, zvB (decide_eq_true (by have h9 := of_decide_eq_true b1435; omega)).symm⟩
theorem zm_num1 {ph : pm_H} {a b ln : Nat} {t : Nat → Nat} (hS : zSh ph) (hT : zTm ph a b ln t) : zM 199 [.ref 170, .int (Int32.ofInt 1)] ph (fun v0 q => zFr [] [(170, 15)] ph q ∧ (((a < b ∧ 48 ≤ t a ∧ t a ≤ 57) ∧ v0 = some (.int (zn (t a - 48))) ∧ zTm q (a + 1) b ln t) ∨ (¬ (a < b ∧ 48 ≤ t a ∧ t a ≤ 57) ∧ v0 = some (.int (Int32.ofInt (-1))) ∧ zTm q a b ln t))) := by
  obtain ⟨Q, hQ⟩ : ∃ Q : Option Value → pm_H → Prop, Q = (fun v0 q => zFr [] [(170, 15)] ph q ∧ (((a < b ∧ 48 ≤ t a ∧ t a ≤ 57) ∧ v0 = some (.int (zn (t a - 48))) ∧ zTm q (a + 1) b ln t) ∨ (¬ (a < b ∧ 48 ≤ t a ∧ t a ≤ 57) ∧ v0 = some (.int (Int32.ofInt (-1))) ∧ zTm q a b ln t))) := ⟨_, rfl⟩
  rw [← hQ]
  refine zM_mk fun n D => ?_
  show zW n D 199 Q 0 [some (.ref 170), some (.int (Int32.ofInt 1)), none, none] [] ph
  have c_0 : ((Int8.ofInt 10).toInt32).toInt = 10 := by decide
  have c_1 : ((Int8.ofInt 48).toInt32).toInt = 48 := by decide
  have c_2 : (Int32.ofInt (-1)).toInt = -1 := by decide
  have c_3 : (Int32.ofInt 0).toInt = 0 := by decide
  have c_4 : (Int32.ofInt 1).toInt = 1 := by decide
  have hT0 := hT
  obtain ⟨ga, gb, hab, hbn, hn80, gt⟩ := hT
  have ta := znt (k := a) (by omega)
  have tb := znt (k := b) (by omega)
  refine w_load (pc' := 1) (v := .ref 170) (m := 1) (ykc_199 (e := (2, .aload_n kF0, 0)) rfl) rfl rfl ?_
  refine w_cv (as := [.ref 170]) (r := []) (ykc_199 (e := (6, .invokevirtual 171, 0)) rfl) rfl rfl rfl rfl (zm_isDigit hS hT0) (fun v1436 ph1437 hv => ?_)
  obtain ⟨rfl, rfl⟩ := hv
  show zW n D 199 Q 4 [some (.ref 170), some (.int (Int32.ofInt 1)), none, none] [.int (zI (decide (a < b ∧ 48 ≤ t a ∧ t a ≤ 57)))] ph
  refine w_bne (ykc_199 (e := (4, .ifCond .ne 5, 9)) rfl) rfl (fun b1438 => ?_) (fun b1438 => ?_)
  · refine w_alu (pc' := 10) (st' := [.int (Int32.ofInt 0)]) (ykc_199 (e := (0, .iconst 0, 0)) rfl) rfl rfl ?_
    refine w_store (pc' := 11) (L' := [some (.ref 170), some (.int (Int32.ofInt 1)), some (.int (Int32.ofInt 0)), none]) (st' := []) (m := 1) (ykc_199 (e := (3, .istore_n kF2, 0)) rfl) rfl rfl ?_
    refine w_alu (pc' := 12) (st' := [.int (Int32.ofInt 0)]) (ykc_199 (e := (0, .iconst 0, 0)) rfl) rfl rfl ?_
    refine w_store (pc' := 13) (L' := [some (.ref 170), some (.int (Int32.ofInt 1)), some (.int (Int32.ofInt 0)), some (.int (Int32.ofInt 0))]) (st' := []) (m := 1) (ykc_199 (e := (3, .istore_n kF3, 0)) rfl) rfl rfl ?_
    refine w_load (pc' := 14) (v := .int (Int32.ofInt 0)) (m := 1) (ykc_199 (e := (2, .iload_n kF3, 0)) rfl) rfl rfl ?_
    refine w_load (pc' := 15) (v := .int (Int32.ofInt 1)) (m := 1) (ykc_199 (e := (2, .iload_n kF1, 0)) rfl) rfl rfl ?_
    refine w_ige (ykc_199 (e := (4, .if_icmp .ge 44, 59)) rfl) rfl (fun q => by exfalso; omega) (fun b1439 => ?_)
    refine w_load (pc' := 19) (v := .ref 170) (m := 1) (ykc_199 (e := (2, .aload_n kF0, 0)) rfl) rfl rfl ?_
    refine w_cv (as := [.ref 170]) (r := []) (ykc_199 (e := (6, .invokevirtual 171, 0)) rfl) rfl rfl rfl rfl (zm_isDigit hS hT0) (fun v1440 ph1441 hv => ?_)
    obtain ⟨rfl, rfl⟩ := hv
    show zW n D 199 Q 22 [some (.ref 170), some (.int (Int32.ofInt 1)), some (.int (Int32.ofInt 0)), some (.int (Int32.ofInt 0))] [.int (zI (decide (a < b ∧ 48 ≤ t a ∧ t a ≤ 57)))] ph
    refine w_beq (ykc_199 (e := (4, .ifCond .eq 37, 59)) rfl) rfl (fun q => by rw [show decide (a < b ∧ 48 ≤ t a ∧ t a ≤ 57) = true from b1438] at q; cases q) (fun b1442 => ?_)
    refine w_push (pc' := 27) (v := .int ((Int8.ofInt 10).toInt32)) (m := 2) (ykc_199 (e := (1, .bipush 10, 0)) rfl) rfl rfl ?_
    have h9 := of_decide_eq_true b1438
    refine w_load (pc' := 28) (v := .int (Int32.ofInt 0)) (m := 1) (ykc_199 (e := (2, .iload_n kF2, 0)) rfl) rfl rfl ?_
    have e1443 : ((Int8.ofInt 10).toInt32) * (Int32.ofInt 0) = zn (0) := zn_of (by rw [ti_mul (by rw [show ((Int8.ofInt 10).toInt32).toInt = (10 : Int) by omega, show (Int32.ofInt 0).toInt = (0 : Int) by omega]; omega) (by rw [show ((Int8.ofInt 10).toInt32).toInt = (10 : Int) by omega, show (Int32.ofInt 0).toInt = (0 : Int) by omega]; omega), show ((Int8.ofInt 10).toInt32).toInt = (10 : Int) by omega, show (Int32.ofInt 0).toInt = (0 : Int) by omega] <;> omega)
    have te1443 := znt (k := 0) (by omega)
    refine w_alu (pc' := 29) (st' := [.int (zn (0))]) (ykc_199 (e := (0, .imul, 0)) rfl) (by rw [← e1443]; rfl) rfl ?_
    refine w_load (pc' := 30) (v := .ref 170) (m := 1) (ykc_199 (e := (2, .aload_n kF0, 0)) rfl) rfl rfl ?_
    refine w_gf (pc' := 33) (v := .ref 176) (ykc_199 (e := (5, .getfield 47, 0)) rfl) rfl (zsg hS zs_170_13) rfl ?_
    refine w_load (pc' := 34) (v := .ref 170) (m := 1) (ykc_199 (e := (2, .aload_n kF0, 0)) rfl) rfl rfl ?_
    refine w_gf (pc' := 37) (v := .int (zn a)) (ykc_199 (e := (5, .getfield 139, 0)) rfl) rfl ga rfl ?_
    have q1444 := (gt a (by omega)).2
    have tq1444 := znt (k := t a) (by omega)
    refine w_ialk (pc' := 38) (k := a) (ykc_199 (e := (5, .iaload, 0)) rfl) (gt a (by omega)).1 (by omega) rfl ?_
    have e1445 : (zn (0)) + (zn (t a)) = zn (0 + (t a)) := (zaddN (a := 0) (b := t a) (znt (by omega)) (znt (by omega)) (by omega)) 
    have te1445 := znt (k := 0 + (t a)) (by omega)
    refine w_alu (pc' := 39) (st' := [.int (zn (0 + (t a)))]) (ykc_199 (e := (0, .iadd, 0)) rfl) (by rw [← e1445]; rfl) rfl ?_
    refine w_push (pc' := 41) (v := .int ((Int8.ofInt 48).toInt32)) (m := 2) (ykc_199 (e := (1, .bipush 48, 0)) rfl) rfl rfl ?_
    have e1446 : (zn (0 + (t a))) - ((Int8.ofInt 48).toInt32) = zn (t a - 48) := zn_of (by have h8 := ti_sub (x := (zn (0 + (t a)))) (y := ((Int8.ofInt 48).toInt32)) (by omega) (by omega); omega)
    have te1446 := znt (k := t a - 48) (by omega)
    refine w_alu (pc' := 42) (st' := [.int (zn (t a - 48))]) (ykc_199 (e := (0, .isub, 0)) rfl) (by rw [← e1446]; rfl) rfl ?_
    refine w_store (pc' := 43) (L' := [some (.ref 170), some (.int (Int32.ofInt 1)), some (.int (zn (t a - 48))), some (.int (Int32.ofInt 0))]) (st' := []) (m := 1) (ykc_199 (e := (3, .istore_n kF2, 0)) rfl) rfl rfl ?_
    refine w_load (pc' := 44) (v := .ref 170) (m := 1) (ykc_199 (e := (2, .aload_n kF0, 0)) rfl) rfl rfl ?_
    refine w_alu (pc' := 45) (st' := [.ref 170, .ref 170]) (ykc_199 (e := (0, .dup, 0)) rfl) rfl rfl ?_
    refine w_gf (pc' := 48) (v := .int (zn a)) (ykc_199 (e := (5, .getfield 139, 0)) rfl) rfl ga rfl ?_
    refine w_alu (pc' := 49) (st' := [.int (Int32.ofInt 1), .int (zn a), .ref 170]) (ykc_199 (e := (0, .iconst 1, 0)) rfl) rfl rfl ?_
    have e1447 : (zn a) + (Int32.ofInt 1) = zn (a + 1) := (zaddN (a := a) (b := 1) (znt (by omega)) c_4 (by omega)) 
    have te1447 := znt (k := a + 1) (by omega)
    refine w_alu (pc' := 50) (st' := [.int (zn (a + 1)), .ref 170]) (ykc_199 (e := (0, .iadd, 0)) rfl) (by rw [← e1447]; rfl) rfl ?_
    refine w_pf (pc' := 53) (ykc_199 (e := (5, .putfield 139, 0)) rfl) rfl rfl (fun ph1449 u1448 => ?_)
    have e1450 : (Int32.ofInt 0) + Int32.ofInt 1 = zn (0 + 1) := (zaddN (a := 0) (b := 1) c_3 c_4 (by omega))
    have te1450 := znt (k := 0 + 1) (by omega)
    refine w_store (pc' := 56) (L' := [some (.ref 170), some (.int (Int32.ofInt 1)), some (.int (zn (t a - 48))), some (.int (zn (0 + 1)))]) (st' := []) (m := 3) (ykc_199 (e := (3, .iinc 3 1, 0)) rfl) (by rw [← e1450]; rfl) rfl ?_
    refine w_br (pc' := 13) (st' := []) (ykc_199 (e := (4, .goto (-43), 13)) rfl) rfl ?_
    refine w_load (pc' := 14) (v := .int (zn (0 + 1))) (m := 1) (ykc_199 (e := (2, .iload_n kF3, 0)) rfl) rfl rfl ?_
    refine w_load (pc' := 15) (v := .int (Int32.ofInt 1)) (m := 1) (ykc_199 (e := (2, .iload_n kF1, 0)) rfl) rfl rfl ?_
    refine w_ige (ykc_199 (e := (4, .if_icmp .ge 44, 59)) rfl) rfl (fun b1451 => ?_) (fun q => by exfalso; omega)
    refine w_load (pc' := 60) (v := .int (zn (t a - 48))) (m := 1) (ykc_199 (e := (2, .iload_n kF2, 0)) rfl) rfl rfl ?_
    refine w_ret (v := (some (.int (zn (t a - 48))))) (ykc_199 (e := (7, .ireturn, 0)) rfl) (zr_v rfl) ?_
    rw [hQ]
    exact ⟨zFr_st u1448 (Or.inr (by simp)), Or.inl ⟨h9, rfl, zTm_u u1448 (by omega) hT0⟩⟩
  · refine w_alu (pc' := 8) (st' := [.int (Int32.ofInt (-1))]) (ykc_199 (e := (0, .iconst (-1), 0)) rfl) rfl rfl ?_
    refine w_ret (v := (some (.int (Int32.ofInt (-1))))) (ykc_199 (e := (7, .ireturn, 0)) rfl) (zr_v rfl) ?_
    rw [hQ]
    exact ⟨zFr_refl, Or.inr ⟨of_decide_eq_false b1438, rfl, hT0⟩⟩
theorem zm_digitIn {ph : pm_H} {a b ln : Nat} {t : Nat → Nat} (hS : zSh ph) (hT : zTm ph a b ln t) {x y : Int32} {l h : Nat} (hx : x.toInt = (l : Int)) (hy : y.toInt = (h : Int)) : zM 200 [.ref 170, .int x, .int y] ph (fun v0 q => zFr [] [(170, 15)] ph q ∧ (((a < b ∧ 48 + l ≤ t a ∧ t a ≤ 48 + h) ∧ v0 = some (.int (zn (t a - 48))) ∧ zTm q (a + 1) b ln t) ∨ (¬ (a < b ∧ 48 + l ≤ t a ∧ t a ≤ 48 + h) ∧ v0 = some (.int (Int32.ofInt (-1))) ∧ zTm q a b ln t))) := by
  obtain ⟨Q, hQ⟩ : ∃ Q : Option Value → pm_H → Prop, Q = (fun v0 q => zFr [] [(170, 15)] ph q ∧ (((a < b ∧ 48 + l ≤ t a ∧ t a ≤ 48 + h) ∧ v0 = some (.int (zn (t a - 48))) ∧ zTm q (a + 1) b ln t) ∨ (¬ (a < b ∧ 48 + l ≤ t a ∧ t a ≤ 48 + h) ∧ v0 = some (.int (Int32.ofInt (-1))) ∧ zTm q a b ln t))) := ⟨_, rfl⟩
  rw [← hQ]
  refine zM_mk fun n D => ?_
  show zW n D 200 Q 0 [some (.ref 170), some (.int x), some (.int y)] [] ph
  have c_0 : ((Int8.ofInt 48).toInt32).toInt = 48 := by decide
  have c_1 : (Int32.ofInt (-1)).toInt = -1 := by decide
  have c_2 : (Int32.ofInt 1).toInt = 1 := by decide
  have hT0 := hT
  have hx9 := x32_hi x
  have hy9 := x32_hi y
  obtain ⟨ga, gb, hab, hbn, hn80, gt⟩ := hT
  have ta := znt (k := a) (by omega)
  have tb := znt (k := b) (by omega)
  refine w_load (pc' := 1) (v := .ref 170) (m := 1) (ykc_200 (e := (2, .aload_n kF0, 0)) rfl) rfl rfl ?_
  refine w_gf (pc' := 4) (v := .int (zn a)) (ykc_200 (e := (5, .getfield 139, 0)) rfl) rfl ga rfl ?_
  refine w_load (pc' := 5) (v := .ref 170) (m := 1) (ykc_200 (e := (2, .aload_n kF0, 0)) rfl) rfl rfl ?_
  refine w_gf (pc' := 8) (v := .int (zn b)) (ykc_200 (e := (5, .getfield 151, 0)) rfl) rfl gb rfl ?_
  refine w_ige (ykc_200 (e := (4, .if_icmp .ge 26, 34)) rfl) rfl (fun b1452 => ?_) (fun b1452 => ?_)
  · refine w_alu (pc' := 35) (st' := [.int (Int32.ofInt (-1))]) (ykc_200 (e := (0, .iconst (-1), 0)) rfl) rfl rfl ?_
    refine w_ret (v := (some (.int (Int32.ofInt (-1))))) (ykc_200 (e := (7, .ireturn, 0)) rfl) (zr_v rfl) ?_
    rw [hQ]
    exact ⟨zFr_refl, Or.inr ⟨by omega, rfl, hT0⟩⟩
  · refine w_load (pc' := 12) (v := .ref 170) (m := 1) (ykc_200 (e := (2, .aload_n kF0, 0)) rfl) rfl rfl ?_
    refine w_gf (pc' := 15) (v := .ref 176) (ykc_200 (e := (5, .getfield 47, 0)) rfl) rfl (zsg hS zs_170_13) rfl ?_
    refine w_load (pc' := 16) (v := .ref 170) (m := 1) (ykc_200 (e := (2, .aload_n kF0, 0)) rfl) rfl rfl ?_
    refine w_gf (pc' := 19) (v := .int (zn a)) (ykc_200 (e := (5, .getfield 139, 0)) rfl) rfl ga rfl ?_
    have q1453 := (gt a (by omega)).2
    have tq1453 := znt (k := t a) (by omega)
    refine w_ialk (pc' := 20) (k := a) (ykc_200 (e := (5, .iaload, 0)) rfl) (gt a (by omega)).1 (by omega) rfl ?_
    refine w_push (pc' := 22) (v := .int ((Int8.ofInt 48).toInt32)) (m := 2) (ykc_200 (e := (1, .bipush 48, 0)) rfl) rfl rfl ?_
    obtain ⟨z1454, e_z1454, h_z1454⟩ : ∃ zq : Int32, (zn (t a)) - ((Int8.ofInt 48).toInt32) = zq ∧ zq.toInt = ((t a : Nat) : Int) - (48 : Int) := ⟨_, rfl, (by have := ti_sub (x := (zn (t a))) (y := ((Int8.ofInt 48).toInt32)) (by omega) (by omega); omega)⟩
    refine w_alu (pc' := 23) (st' := [.int z1454]) (ykc_200 (e := (0, .isub, 0)) rfl) (by rw [← e_z1454]; rfl) rfl ?_
    refine w_alu (pc' := 24) (st' := [.long z1454.toInt64]) (ykc_200 (e := (0, .i2l, 0)) rfl) rfl rfl ?_
    refine w_load (pc' := 25) (v := .int x) (m := 1) (ykc_200 (e := (2, .iload_n kF1, 0)) rfl) rfl rfl ?_
    refine w_alu (pc' := 26) (st' := [.long x.toInt64, .long z1454.toInt64]) (ykc_200 (e := (0, .i2l, 0)) rfl) rfl rfl ?_
    refine w_load (pc' := 27) (v := .int y) (m := 1) (ykc_200 (e := (2, .iload_n kF2, 0)) rfl) rfl rfl ?_
    refine w_alu (pc' := 28) (st' := [.long y.toInt64, .long x.toInt64, .long z1454.toInt64]) (ykc_200 (e := (0, .i2l, 0)) rfl) rfl rfl ?_
    refine w_cs (as := [.long z1454.toInt64, .long x.toInt64, .long y.toInt64]) (r := []) (ykc_200 (e := (6, .invokestatic 126, 0)) rfl) rfl rfl rfl rfl (zm_in (x := ((t a : Nat) : Int) - (48 : Int)) (y := ((l : Nat) : Int)) (z := ((h : Nat) : Int)) (by first | exact ztl | (rw [ztl]; omega) | decide | omega) (by first | exact ztl | (rw [ztl]; omega) | decide | omega) (by first | exact ztl | (rw [ztl]; omega) | decide | omega)) (fun v1455 ph1456 hv => ?_)
    obtain ⟨rfl, rfl⟩ := hv
    show zW n D 200 Q 31 [some (.ref 170), some (.int x), some (.int y)] [.int (zI (decide (((l : Nat) : Int) ≤ ((t a : Nat) : Int) - (48 : Int) ∧ ((t a : Nat) : Int) - (48 : Int) ≤ ((h : Nat) : Int))))] ph
    refine w_bne (ykc_200 (e := (4, .ifCond .ne 5, 36)) rfl) rfl (fun b1457 => ?_) (fun b1457 => ?_)
    · refine w_load (pc' := 37) (v := .ref 170) (m := 1) (ykc_200 (e := (2, .aload_n kF0, 0)) rfl) rfl rfl ?_
      refine w_alu (pc' := 38) (st' := [.ref 170, .ref 170]) (ykc_200 (e := (0, .dup, 0)) rfl) rfl rfl ?_
      refine w_gf (pc' := 41) (v := .int (zn a)) (ykc_200 (e := (5, .getfield 139, 0)) rfl) rfl ga rfl ?_
      refine w_alu (pc' := 42) (st' := [.int (Int32.ofInt 1), .int (zn a), .ref 170]) (ykc_200 (e := (0, .iconst 1, 0)) rfl) rfl rfl ?_
      have e1458 : (zn a) + (Int32.ofInt 1) = zn (a + 1) := (zaddN (a := a) (b := 1) (znt (by omega)) c_2 (by omega)) 
      have te1458 := znt (k := a + 1) (by omega)
      refine w_alu (pc' := 43) (st' := [.int (zn (a + 1)), .ref 170]) (ykc_200 (e := (0, .iadd, 0)) rfl) (by rw [← e1458]; rfl) rfl ?_
      refine w_pf (pc' := 46) (ykc_200 (e := (5, .putfield 139, 0)) rfl) rfl rfl (fun ph1460 u1459 => ?_)
      have h9 := of_decide_eq_true b1457
      refine w_load (pc' := 47) (v := .ref 170) (m := 1) (ykc_200 (e := (2, .aload_n kF0, 0)) rfl) rfl rfl ?_
      refine w_gf (pc' := 50) (v := .ref 176) (ykc_200 (e := (5, .getfield 47, 0)) rfl) rfl ((u1459.2.1 170 13 (fun q => absurd q.2 (by decide))).trans (zsg hS zs_170_13)) rfl ?_
      refine w_load (pc' := 51) (v := .ref 170) (m := 1) (ykc_200 (e := (2, .aload_n kF0, 0)) rfl) rfl rfl ?_
      refine w_gf (pc' := 54) (v := .int (zn (a + 1))) (ykc_200 (e := (5, .getfield 139, 0)) rfl) rfl u1459.1 rfl ?_
      refine w_alu (pc' := 55) (st' := [.int (Int32.ofInt 1), .int (zn (a + 1)), .ref 176]) (ykc_200 (e := (0, .iconst 1, 0)) rfl) rfl rfl ?_
      have e1461 : (zn (a + 1)) - (Int32.ofInt 1) = zn (a) := zsubN (a := a + 1) (b := 1) (znt (by omega)) c_2 (by omega)
      have te1461 := znt (k := a) (by omega)
      refine w_alu (pc' := 56) (st' := [.int (zn (a)), .ref 176]) (ykc_200 (e := (0, .isub, 0)) rfl) (by show some ([.int ((zn (a + 1)) - (Int32.ofInt 1)), .ref 176] : List Value) = _; rw [e1461]) rfl ?_
      have q1462 := (gt a (by omega)).2
      have tq1462 := znt (k := t a) (by omega)
      refine w_ialk (pc' := 57) (k := a) (ykc_200 (e := (5, .iaload, 0)) rfl) ((u1459.2.1 176 a (fun q => absurd q.1 (by decide))).trans (gt a (by omega)).1) (by omega) rfl ?_
      refine w_push (pc' := 59) (v := .int ((Int8.ofInt 48).toInt32)) (m := 2) (ykc_200 (e := (1, .bipush 48, 0)) rfl) rfl rfl ?_
      have e1463 : (zn (t a)) - ((Int8.ofInt 48).toInt32) = zn (t a - 48) := zn_of (by have h8 := ti_sub (x := (zn (t a))) (y := ((Int8.ofInt 48).toInt32)) (by omega) (by omega); omega)
      have te1463 := znt (k := t a - 48) (by omega)
      refine w_alu (pc' := 60) (st' := [.int (zn (t a - 48))]) (ykc_200 (e := (0, .isub, 0)) rfl) (by rw [← e1463]; rfl) rfl ?_
      refine w_ret (v := (some (.int (zn (t a - 48))))) (ykc_200 (e := (7, .ireturn, 0)) rfl) (zr_v rfl) ?_
      rw [hQ]
      exact ⟨zFr_st u1459 (Or.inr (by simp)), Or.inl ⟨by omega, rfl, zTm_u u1459 (by omega) hT0⟩⟩
    · refine w_alu (pc' := 35) (st' := [.int (Int32.ofInt (-1))]) (ykc_200 (e := (0, .iconst (-1), 0)) rfl) rfl rfl ?_
      refine w_ret (v := (some (.int (Int32.ofInt (-1))))) (ykc_200 (e := (7, .ireturn, 0)) rfl) (zr_v rfl) ?_
      rw [hQ]
      exact ⟨zFr_refl, Or.inr ⟨by have h9 := of_decide_eq_false b1457; omega, rfl, hT0⟩⟩
theorem zm_takes {ph : pm_H} {a b ln : Nat} {t : Nat → Nat} (hS : zSh ph) (hT : zTm ph a b ln t) {y : Int32} {c : Nat} (hy : y.toInt = (c : Int)) : zM 196 [.ref 170, .int y] ph (fun v0 q => zFr [] [(170, 15)] ph q ∧ (((a < b ∧ t a = c) ∧ v0 = some (.int (zI true)) ∧ zTm q (a + 1) b ln t) ∨ (¬ (a < b ∧ t a = c) ∧ v0 = some (.int (zI false)) ∧ zTm q a b ln t))) := by
  obtain ⟨Q, hQ⟩ : ∃ Q : Option Value → pm_H → Prop, Q = (fun v0 q => zFr [] [(170, 15)] ph q ∧ (((a < b ∧ t a = c) ∧ v0 = some (.int (zI true)) ∧ zTm q (a + 1) b ln t) ∨ (¬ (a < b ∧ t a = c) ∧ v0 = some (.int (zI false)) ∧ zTm q a b ln t))) := ⟨_, rfl⟩
  rw [← hQ]
  refine zM_mk fun n D => ?_
  show zW n D 196 Q 0 [some (.ref 170), some (.int y), none] [] ph
  have c_0 : (Int32.ofInt 0).toInt = 0 := by decide
  have c_1 : (Int32.ofInt 1).toInt = 1 := by decide
  have hT0 := hT
  obtain ⟨ga, gb, hab, hbn, hn80, gt⟩ := hT
  have ta := znt (k := a) (by omega)
  have tb := znt (k := b) (by omega)
  refine w_load (pc' := 1) (v := .ref 170) (m := 1) (ykc_196 (e := (2, .aload_n kF0, 0)) rfl) rfl rfl ?_
  refine w_gf (pc' := 4) (v := .int (zn a)) (ykc_196 (e := (5, .getfield 139, 0)) rfl) rfl ga rfl ?_
  refine w_load (pc' := 5) (v := .ref 170) (m := 1) (ykc_196 (e := (2, .aload_n kF0, 0)) rfl) rfl rfl ?_
  refine w_gf (pc' := 8) (v := .int (zn b)) (ykc_196 (e := (5, .getfield 151, 0)) rfl) rfl gb rfl ?_
  refine w_ige (ykc_196 (e := (4, .if_icmp .ge 20, 28)) rfl) rfl (fun b1464 => ?_) (fun b1464 => ?_)
  · refine w_alu (pc' := 29) (st' := [.int (Int32.ofInt 0)]) (ykc_196 (e := (0, .iconst 0, 0)) rfl) rfl rfl ?_
    refine w_store (pc' := 30) (L' := [some (.ref 170), some (.int y), some (.int (Int32.ofInt 0))]) (st' := []) (m := 1) (ykc_196 (e := (3, .istore_n kF2, 0)) rfl) rfl rfl ?_
    refine w_load (pc' := 31) (v := .ref 170) (m := 1) (ykc_196 (e := (2, .aload_n kF0, 0)) rfl) rfl rfl ?_
    refine w_alu (pc' := 32) (st' := [.ref 170, .ref 170]) (ykc_196 (e := (0, .dup, 0)) rfl) rfl rfl ?_
    refine w_gf (pc' := 35) (v := .int (zn a)) (ykc_196 (e := (5, .getfield 139, 0)) rfl) rfl ga rfl ?_
    refine w_load (pc' := 36) (v := .int (Int32.ofInt 0)) (m := 1) (ykc_196 (e := (2, .iload_n kF2, 0)) rfl) rfl rfl ?_
    refine w_cs (as := [.int (Int32.ofInt 0)]) (r := [.int (zn a), .ref 170]) (ykc_196 (e := (6, .invokestatic 154, 0)) rfl) rfl rfl rfl rfl (zm_flag0) (fun v1465 ph1466 hv => ?_)
    obtain ⟨rfl, rfl⟩ := hv
    have cI1 : (zI true).toInt = 1 := rfl
    have cI0 : (zI false).toInt = 0 := rfl
    show zW n D 196 Q 39 [some (.ref 170), some (.int y), some (.int (Int32.ofInt 0))] [.int (zI false), .int (zn a), .ref 170] ph
    have e1467 : (zn a) + (zI false) = zn (a) := zaddN (a := a) (b := 0) ta cI0 (by omega)
    have te1467 := znt (k := a) (by omega)
    refine w_alu (pc' := 40) (st' := [.int (zn (a)), .ref 170]) (ykc_196 (e := (0, .iadd, 0)) rfl) (by show some ([.int ((zn a) + (zI false)), .ref 170] : List Value) = _; rw [e1467]) rfl ?_
    refine w_pf (pc' := 43) (ykc_196 (e := (5, .putfield 139, 0)) rfl) rfl rfl (fun ph1469 u1468 => ?_)
    refine w_load (pc' := 44) (v := .int (Int32.ofInt 0)) (m := 1) (ykc_196 (e := (2, .iload_n kF2, 0)) rfl) rfl rfl ?_
    refine w_ret (v := (some (.int (Int32.ofInt 0)))) (ykc_196 (e := (7, .ireturn, 0)) rfl) zr_z ?_
    rw [hQ]
    exact ⟨zFr_st u1468 (Or.inr (by simp)), Or.inr ⟨by omega, by rw [← zi0], zTm_u u1468 (by omega) hT0⟩⟩
  · refine w_load (pc' := 12) (v := .ref 170) (m := 1) (ykc_196 (e := (2, .aload_n kF0, 0)) rfl) rfl rfl ?_
    refine w_gf (pc' := 15) (v := .ref 176) (ykc_196 (e := (5, .getfield 47, 0)) rfl) rfl (zsg hS zs_170_13) rfl ?_
    refine w_load (pc' := 16) (v := .ref 170) (m := 1) (ykc_196 (e := (2, .aload_n kF0, 0)) rfl) rfl rfl ?_
    refine w_gf (pc' := 19) (v := .int (zn a)) (ykc_196 (e := (5, .getfield 139, 0)) rfl) rfl ga rfl ?_
    have q1470 := (gt a (by omega)).2
    have tq1470 := znt (k := t a) (by omega)
    refine w_ialk (pc' := 20) (k := a) (ykc_196 (e := (5, .iaload, 0)) rfl) (gt a (by omega)).1 (by omega) rfl ?_
    refine w_load (pc' := 21) (v := .int y) (m := 1) (ykc_196 (e := (2, .iload_n kF1, 0)) rfl) rfl rfl ?_
    refine w_ine (ykc_196 (e := (4, .if_icmp .ne 7, 28)) rfl) rfl (fun b1471 => ?_) (fun b1471 => ?_)
    · refine w_alu (pc' := 29) (st' := [.int (Int32.ofInt 0)]) (ykc_196 (e := (0, .iconst 0, 0)) rfl) rfl rfl ?_
      refine w_store (pc' := 30) (L' := [some (.ref 170), some (.int y), some (.int (Int32.ofInt 0))]) (st' := []) (m := 1) (ykc_196 (e := (3, .istore_n kF2, 0)) rfl) rfl rfl ?_
      refine w_load (pc' := 31) (v := .ref 170) (m := 1) (ykc_196 (e := (2, .aload_n kF0, 0)) rfl) rfl rfl ?_
      refine w_alu (pc' := 32) (st' := [.ref 170, .ref 170]) (ykc_196 (e := (0, .dup, 0)) rfl) rfl rfl ?_
      refine w_gf (pc' := 35) (v := .int (zn a)) (ykc_196 (e := (5, .getfield 139, 0)) rfl) rfl ga rfl ?_
      refine w_load (pc' := 36) (v := .int (Int32.ofInt 0)) (m := 1) (ykc_196 (e := (2, .iload_n kF2, 0)) rfl) rfl rfl ?_
      refine w_cs (as := [.int (Int32.ofInt 0)]) (r := [.int (zn a), .ref 170]) (ykc_196 (e := (6, .invokestatic 154, 0)) rfl) rfl rfl rfl rfl (zm_flag0) (fun v1472 ph1473 hv => ?_)
      obtain ⟨rfl, rfl⟩ := hv
      have cI1 : (zI true).toInt = 1 := rfl
      have cI0 : (zI false).toInt = 0 := rfl
      show zW n D 196 Q 39 [some (.ref 170), some (.int y), some (.int (Int32.ofInt 0))] [.int (zI false), .int (zn a), .ref 170] ph
      have e1474 : (zn a) + (zI false) = zn (a) := zaddN (a := a) (b := 0) ta cI0 (by omega)
      have te1474 := znt (k := a) (by omega)
      refine w_alu (pc' := 40) (st' := [.int (zn (a)), .ref 170]) (ykc_196 (e := (0, .iadd, 0)) rfl) (by show some ([.int ((zn a) + (zI false)), .ref 170] : List Value) = _; rw [e1474]) rfl ?_
      refine w_pf (pc' := 43) (ykc_196 (e := (5, .putfield 139, 0)) rfl) rfl rfl (fun ph1476 u1475 => ?_)
      refine w_load (pc' := 44) (v := .int (Int32.ofInt 0)) (m := 1) (ykc_196 (e := (2, .iload_n kF2, 0)) rfl) rfl rfl ?_
      refine w_ret (v := (some (.int (Int32.ofInt 0)))) (ykc_196 (e := (7, .ireturn, 0)) rfl) zr_z ?_
      rw [hQ]
      exact ⟨zFr_st u1475 (Or.inr (by simp)), Or.inr ⟨by omega, by rw [← zi0], zTm_u u1475 (by omega) hT0⟩⟩
    · refine w_alu (pc' := 25) (st' := [.int (Int32.ofInt 1)]) (ykc_196 (e := (0, .iconst 1, 0)) rfl) rfl rfl ?_
      refine w_br (pc' := 29) (st' := [.int (Int32.ofInt 1)]) (ykc_196 (e := (4, .goto 4, 29)) rfl) rfl ?_
      refine w_store (pc' := 30) (L' := [some (.ref 170), some (.int y), some (.int (Int32.ofInt 1))]) (st' := []) (m := 1) (ykc_196 (e := (3, .istore_n kF2, 0)) rfl) rfl rfl ?_
      refine w_load (pc' := 31) (v := .ref 170) (m := 1) (ykc_196 (e := (2, .aload_n kF0, 0)) rfl) rfl rfl ?_
      refine w_alu (pc' := 32) (st' := [.ref 170, .ref 170]) (ykc_196 (e := (0, .dup, 0)) rfl) rfl rfl ?_
      refine w_gf (pc' := 35) (v := .int (zn a)) (ykc_196 (e := (5, .getfield 139, 0)) rfl) rfl ga rfl ?_
      refine w_load (pc' := 36) (v := .int (Int32.ofInt 1)) (m := 1) (ykc_196 (e := (2, .iload_n kF2, 0)) rfl) rfl rfl ?_
      refine w_cs (as := [.int (Int32.ofInt 1)]) (r := [.int (zn a), .ref 170]) (ykc_196 (e := (6, .invokestatic 154, 0)) rfl) rfl rfl rfl rfl (zm_flag1) (fun v1477 ph1478 hv => ?_)
      obtain ⟨rfl, rfl⟩ := hv
      have cI1 : (zI true).toInt = 1 := rfl
      have cI0 : (zI false).toInt = 0 := rfl
      show zW n D 196 Q 39 [some (.ref 170), some (.int y), some (.int (Int32.ofInt 1))] [.int (zI true), .int (zn a), .ref 170] ph
      have e1479 : (zn a) + (zI true) = zn (a + 1) := zaddN (a := a) (b := 1) ta cI1 (by omega)
      have te1479 := znt (k := a + 1) (by omega)
      refine w_alu (pc' := 40) (st' := [.int (zn (a + 1)), .ref 170]) (ykc_196 (e := (0, .iadd, 0)) rfl) (by show some ([.int ((zn a) + (zI true)), .ref 170] : List Value) = _; rw [e1479]) rfl ?_
      refine w_pf (pc' := 43) (ykc_196 (e := (5, .putfield 139, 0)) rfl) rfl rfl (fun ph1481 u1480 => ?_)
      refine w_load (pc' := 44) (v := .int (Int32.ofInt 1)) (m := 1) (ykc_196 (e := (2, .iload_n kF2, 0)) rfl) rfl rfl ?_
      refine w_ret (v := (some (.int (Int32.ofInt 1)))) (ykc_196 (e := (7, .ireturn, 0)) rfl) zr_z ?_
      rw [hQ]
      exact ⟨zFr_st u1480 (Or.inr (by simp)), Or.inl ⟨by omega, by rw [← zi1], zTm_u u1480 (by omega) hT0⟩⟩
theorem zm_takesOf {ph : pm_H} {a b ln : Nat} {t : Nat → Nat} (hS : zSh ph) (hT : zTm ph a b ln t) {s B N : Nat} {cs : Nat → Nat} (hst : zStr s B N cs) : zM 198 [.ref 170, .ref s] ph (fun v0 q => zFr [] [(170, 15)] ph q ∧ ((∃ k, k < N ∧ a < b ∧ t a = cs k ∧ v0 = some (.int (zn k)) ∧ zTm q (a + 1) b ln t) ∨ ((a < b → ∀ k, k < N → t a ≠ cs k) ∧ v0 = some (.int (Int32.ofInt (-1))) ∧ zTm q a b ln t))) := by
  obtain ⟨Q, hQ⟩ : ∃ Q : Option Value → pm_H → Prop, Q = (fun v0 q => zFr [] [(170, 15)] ph q ∧ ((∃ k, k < N ∧ a < b ∧ t a = cs k ∧ v0 = some (.int (zn k)) ∧ zTm q (a + 1) b ln t) ∨ ((a < b → ∀ k, k < N → t a ≠ cs k) ∧ v0 = some (.int (Int32.ofInt (-1))) ∧ zTm q a b ln t))) := ⟨_, rfl⟩
  rw [← hQ]
  refine zM_mk fun n D => ?_
  show zW n D 198 Q 0 [some (.ref 170), some (.ref s), none] [] ph
  have c_0 : (Int32.ofInt (-1)).toInt = -1 := by decide
  have c_1 : (Int32.ofInt 0).toInt = 0 := by decide
  have c_2 : (Int32.ofInt 1).toInt = 1 := by decide
  have hT0 := hT
  have hst0 := hst
  obtain ⟨i9, s1, s2, s3, s4, s5, f, s6, s7⟩ := hst
  obtain ⟨ga, gb, hab, hbn, hn80, gt⟩ := hT
  have ta := znt (k := a) (by omega)
  have tb := znt (k := b) (by omega)
  refine w_alu (pc' := 1) (st' := [.int (Int32.ofInt 0)]) (ykc_198 (e := (0, .iconst 0, 0)) rfl) rfl rfl ?_
  refine w_store (pc' := 2) (L' := [some (.ref 170), some (.ref s), some (.int (Int32.ofInt 0))]) (st' := []) (m := 1) (ykc_198 (e := (3, .istore_n kF2, 0)) rfl) rfl rfl ?_
  have hl : ∀ (n : Nat), ∀ (k : Nat), (k ≤ N) → (a < b → ∀ i, i < k → t a ≠ cs i) → zW n D 198 Q 2 [some (.ref 170), some (.ref s), some (.int (zn k))] [] ph := by
    intro n
    induction n using Nat.strongRecOn with
    | ind n ih =>
      intro k hk hno
      have tk := znt (k := k) (by omega)
      have tN := znt (k := N) (by omega)
      refine w_load (pc' := 3) (v := .int (zn k)) (m := 1) (ykc_198 (e := (2, .iload_n kF2, 0)) rfl) rfl rfl ?_
      refine w_load (pc' := 4) (v := .ref s) (m := 1) (ykc_198 (e := (2, .aload_n kF1, 0)) rfl) rfl rfl ?_
      refine w_cvr s1 (as := [.ref s]) (r := [.int (zn k)]) (ykc_198 (e := (6, .invokevirtual 162, 0)) rfl) rfl rfl rfl rfl (zj_len hst0) (fun v1482 ph1483 hv => ?_)
      obtain ⟨rfl, rfl⟩ := hv
      show zW n D 198 Q 7 [some (.ref 170), some (.ref s), some (.int (zn k))] [.int (zn N), .int (zn k)] ph
      refine w_ige (ykc_198 (e := (4, .if_icmp .ge 49, 56)) rfl) rfl (fun b1484 => ?_) (fun b1484 => ?_)
      · refine w_alu (pc' := 57) (st' := [.int (Int32.ofInt (-1))]) (ykc_198 (e := (0, .iconst (-1), 0)) rfl) rfl rfl ?_
        refine w_ret (v := (some (.int (Int32.ofInt (-1))))) (ykc_198 (e := (7, .ireturn, 0)) rfl) (zr_v rfl) ?_
        have ek : k = N := by omega
        subst ek
        rw [hQ]
        exact ⟨zFr_refl, Or.inr ⟨hno, rfl, hT0⟩⟩
      · refine w_load (pc' := 11) (v := .ref 170) (m := 1) (ykc_198 (e := (2, .aload_n kF0, 0)) rfl) rfl rfl ?_
        refine w_gf (pc' := 14) (v := .int (zn a)) (ykc_198 (e := (5, .getfield 139, 0)) rfl) rfl ga rfl ?_
        refine w_load (pc' := 15) (v := .ref 170) (m := 1) (ykc_198 (e := (2, .aload_n kF0, 0)) rfl) rfl rfl ?_
        refine w_gf (pc' := 18) (v := .int (zn b)) (ykc_198 (e := (5, .getfield 151, 0)) rfl) rfl gb rfl ?_
        refine w_ige (ykc_198 (e := (4, .if_icmp .ge 38, 56)) rfl) rfl (fun b1485 => ?_) (fun b1485 => ?_)
        · refine w_alu (pc' := 57) (st' := [.int (Int32.ofInt (-1))]) (ykc_198 (e := (0, .iconst (-1), 0)) rfl) rfl rfl ?_
          refine w_ret (v := (some (.int (Int32.ofInt (-1))))) (ykc_198 (e := (7, .ireturn, 0)) rfl) (zr_v rfl) ?_
          rw [hQ]
          exact ⟨zFr_refl, Or.inr ⟨fun h => absurd h (by omega), rfl, hT0⟩⟩
        · refine w_load (pc' := 22) (v := .ref s) (m := 1) (ykc_198 (e := (2, .aload_n kF1, 0)) rfl) rfl rfl ?_
          refine w_load (pc' := 23) (v := .int (zn k)) (m := 1) (ykc_198 (e := (2, .iload_n kF2, 0)) rfl) rfl rfl ?_
          refine w_cvr s1 (as := [.ref s, .int (zn k)]) (r := []) (ykc_198 (e := (6, .invokevirtual 167, 0)) rfl) rfl rfl rfl rfl (zj_chr hst0 (k := k) (by omega) (by omega)) (fun v1486 ph1487 hv => ?_)
          obtain ⟨rfl, rfl⟩ := hv
          have c9 := (s7 k (by omega)).2
          have tc9 := znt (k := cs k) (by omega)
          show zW n D 198 Q 26 [some (.ref 170), some (.ref s), some (.int (zn k))] [.int (zn (cs k))] ph
          refine w_load (pc' := 27) (v := .ref 170) (m := 1) (ykc_198 (e := (2, .aload_n kF0, 0)) rfl) rfl rfl ?_
          refine w_gf (pc' := 30) (v := .ref 176) (ykc_198 (e := (5, .getfield 47, 0)) rfl) rfl (zsg hS zs_170_13) rfl ?_
          refine w_load (pc' := 31) (v := .ref 170) (m := 1) (ykc_198 (e := (2, .aload_n kF0, 0)) rfl) rfl rfl ?_
          refine w_gf (pc' := 34) (v := .int (zn a)) (ykc_198 (e := (5, .getfield 139, 0)) rfl) rfl ga rfl ?_
          have q1488 := (gt a (by omega)).2
          have tq1488 := znt (k := t a) (by omega)
          refine w_ialk (pc' := 35) (k := a) (ykc_198 (e := (5, .iaload, 0)) rfl) (gt a (by omega)).1 (by omega) rfl ?_
          refine w_ine (ykc_198 (e := (4, .if_icmp .ne 15, 50)) rfl) rfl (fun b1489 => ?_) (fun b1489 => ?_)
          · have e1490 : (zn k) + Int32.ofInt 1 = zn (k + 1) := (zaddN (a := k) (b := 1) (znt (by omega)) c_2 (by omega))
            have te1490 := znt (k := k + 1) (by omega)
            refine w_store (pc' := 53) (L' := [some (.ref 170), some (.ref s), some (.int (zn (k + 1)))]) (st' := []) (m := 3) (ykc_198 (e := (3, .iinc 2 1, 0)) rfl) (by rw [← e1490]; rfl) rfl ?_
            refine w_gb (ykc_198 (e := (4, .goto (-51), 2)) rfl) (fun k1491 hk1491 => ?_)
            exact ih k1491 hk1491 (k + 1) (by omega) (fun h i hi => by
              by_cases e : i = k
              · subst e; omega
              · exact hno h i (by omega))
          · refine w_load (pc' := 39) (v := .ref 170) (m := 1) (ykc_198 (e := (2, .aload_n kF0, 0)) rfl) rfl rfl ?_
            refine w_alu (pc' := 40) (st' := [.ref 170, .ref 170]) (ykc_198 (e := (0, .dup, 0)) rfl) rfl rfl ?_
            refine w_gf (pc' := 43) (v := .int (zn a)) (ykc_198 (e := (5, .getfield 139, 0)) rfl) rfl ga rfl ?_
            refine w_alu (pc' := 44) (st' := [.int (Int32.ofInt 1), .int (zn a), .ref 170]) (ykc_198 (e := (0, .iconst 1, 0)) rfl) rfl rfl ?_
            have e1492 : (zn a) + (Int32.ofInt 1) = zn (a + 1) := (zaddN (a := a) (b := 1) (znt (by omega)) c_2 (by omega)) 
            have te1492 := znt (k := a + 1) (by omega)
            refine w_alu (pc' := 45) (st' := [.int (zn (a + 1)), .ref 170]) (ykc_198 (e := (0, .iadd, 0)) rfl) (by rw [← e1492]; rfl) rfl ?_
            refine w_pf (pc' := 48) (ykc_198 (e := (5, .putfield 139, 0)) rfl) rfl rfl (fun ph1494 u1493 => ?_)
            refine w_load (pc' := 49) (v := .int (zn k)) (m := 1) (ykc_198 (e := (2, .iload_n kF2, 0)) rfl) rfl rfl ?_
            refine w_ret (v := (some (.int (zn k)))) (ykc_198 (e := (7, .ireturn, 0)) rfl) (zr_v rfl) ?_
            rw [hQ]
            exact ⟨zFr_st u1493 (Or.inr (by simp)), Or.inl ⟨k, by omega, by omega, by omega, rfl, zTm_u u1493 (by omega) hT0⟩⟩
  exact hl n 0 (Nat.zero_le _) (fun _ i hi => absurd hi (Nat.not_lt_zero i))
/-- what a reading that ended at a of b answers, where n were told and c can be -/
def zFo (n c a b : Nat) (is : Bool) : Int := if c < n ∧ ((is = true ∧ a = b) ∨ c ≤ a) then -1 - (c : Int) else if is = true ∧ a = b then 0 else -1 - (a : Int)
theorem zFo_b {n c a b : Nat} : zFo n c a b false = if c < n ∧ c ≤ a then -1 - (c : Int) else -1 - (a : Int) := by
  unfold zFo
  simp
theorem zFo_t {n c a b : Nat} : zFo n c a b true = if c < n ∧ (a = b ∨ c ≤ a) then -1 - (c : Int) else if a = b then 0 else -1 - (a : Int) := by
  unfold zFo
  simp
theorem zm_fault {ph : pm_H} {a b ln : Nat} {t : Nat → Nat} (hS : zSh ph) (hT : zTm ph a b ln t) {x y : Int32} {n9 c : Nat} {is : Bool} (hx : x.toInt = (n9 : Int)) (hy : y.toInt = (c : Int)) : zM 201 [.ref 170, .int x, .int y, .int (zI is)] ph (fun v0 q => ph = q ∧ ∃ z : Int32, v0 = some (.int z) ∧ z.toInt = zFo n9 c a b is) := by
  obtain ⟨Q, hQ⟩ : ∃ Q : Option Value → pm_H → Prop, Q = (fun v0 q => ph = q ∧ ∃ z : Int32, v0 = some (.int z) ∧ z.toInt = zFo n9 c a b is) := ⟨_, rfl⟩
  rw [← hQ]
  refine zM_mk fun n D => ?_
  show zW n D 201 Q 0 [some (.ref 170), some (.int x), some (.int y), some (.int (zI is)), none] [] ph
  have c_0 : (Int32.ofInt (-1)).toInt = -1 := by decide
  have c_1 : (Int32.ofInt 0).toInt = 0 := by decide
  have c_2 : (Int32.ofInt 1).toInt = 1 := by decide
  have hx9 := x32_hi x
  have hy9 := x32_hi y
  obtain ⟨ga, gb, hab, hbn, hn80, gt⟩ := hT
  have ta := znt (k := a) (by omega)
  have tb := znt (k := b) (by omega)
  refine w_load (pc' := 1) (v := .int (zI is)) (m := 1) (ykc_201 (e := (2, .iload_n kF3, 0)) rfl) rfl rfl ?_
  refine w_beq (ykc_201 (e := (4, .ifCond .eq 18, 19)) rfl) rfl (fun b1495 => ?_) (fun b1495 => ?_)
  · refine w_alu (pc' := 20) (st' := [.int (Int32.ofInt 0)]) (ykc_201 (e := (0, .iconst 0, 0)) rfl) rfl rfl ?_
    refine w_store (pc' := 22) (L' := [some (.ref 170), some (.int x), some (.int y), some (.int (zI is)), some (.int (Int32.ofInt 0))]) (st' := []) (m := 2) (ykc_201 (e := (3, .istore 4, 0)) rfl) rfl rfl ?_
    refine w_load (pc' := 23) (v := .int x) (m := 1) (ykc_201 (e := (2, .iload_n kF1, 0)) rfl) rfl rfl ?_
    refine w_load (pc' := 24) (v := .int y) (m := 1) (ykc_201 (e := (2, .iload_n kF2, 0)) rfl) rfl rfl ?_
    refine w_ile (ykc_201 (e := (4, .if_icmp .le 20, 44)) rfl) rfl (fun b1496 => ?_) (fun b1496 => ?_)
    · refine w_load (pc' := 46) (v := .int (Int32.ofInt 0)) (m := 2) (ykc_201 (e := (2, .iload 4, 0)) rfl) rfl rfl ?_
      refine w_zeq (ykc_201 (e := (4, .ifCond .eq 7, 53)) rfl) rfl (fun b1497 => ?_) (fun q => by exfalso; omega)
      refine w_alu (pc' := 54) (st' := [.int (Int32.ofInt (-1))]) (ykc_201 (e := (0, .iconst (-1), 0)) rfl) rfl rfl ?_
      refine w_load (pc' := 55) (v := .ref 170) (m := 1) (ykc_201 (e := (2, .aload_n kF0, 0)) rfl) rfl rfl ?_
      refine w_gf (pc' := 58) (v := .int (zn a)) (ykc_201 (e := (5, .getfield 139, 0)) rfl) rfl ga rfl ?_
      obtain ⟨z1498, e_z1498, h_z1498⟩ : ∃ zq : Int32, (Int32.ofInt (-1)) - (zn a) = zq ∧ zq.toInt = (-1 : Int) - ((a : Nat) : Int) := ⟨_, rfl, zm1sub (by omega) (by omega) (by omega)⟩
      refine w_alu (pc' := 59) (st' := [.int z1498]) (ykc_201 (e := (0, .isub, 0)) rfl) (by rw [← e_z1498]; rfl) rfl ?_
      refine w_ret (v := (some (.int z1498))) (ykc_201 (e := (7, .ireturn, 0)) rfl) (zr_v rfl) ?_
      rw [hQ, show is = false from b1495]
      refine ⟨rfl, _, rfl, ?_⟩
      rw [zFo_b, if_neg (by omega)]
      omega
    · refine w_load (pc' := 29) (v := .int (Int32.ofInt 0)) (m := 2) (ykc_201 (e := (2, .iload 4, 0)) rfl) rfl rfl ?_
      refine w_zne (ykc_201 (e := (4, .ifCond .ne 11, 40)) rfl) rfl (fun q => by exfalso; omega) (fun b1499 => ?_)
      refine w_load (pc' := 33) (v := .ref 170) (m := 1) (ykc_201 (e := (2, .aload_n kF0, 0)) rfl) rfl rfl ?_
      refine w_gf (pc' := 36) (v := .int (zn a)) (ykc_201 (e := (5, .getfield 139, 0)) rfl) rfl ga rfl ?_
      refine w_load (pc' := 37) (v := .int y) (m := 1) (ykc_201 (e := (2, .iload_n kF2, 0)) rfl) rfl rfl ?_
      refine w_ilt (ykc_201 (e := (4, .if_icmp .lt 7, 44)) rfl) rfl (fun b1500 => ?_) (fun b1500 => ?_)
      · refine w_load (pc' := 46) (v := .int (Int32.ofInt 0)) (m := 2) (ykc_201 (e := (2, .iload 4, 0)) rfl) rfl rfl ?_
        refine w_zeq (ykc_201 (e := (4, .ifCond .eq 7, 53)) rfl) rfl (fun b1501 => ?_) (fun q => by exfalso; omega)
        refine w_alu (pc' := 54) (st' := [.int (Int32.ofInt (-1))]) (ykc_201 (e := (0, .iconst (-1), 0)) rfl) rfl rfl ?_
        refine w_load (pc' := 55) (v := .ref 170) (m := 1) (ykc_201 (e := (2, .aload_n kF0, 0)) rfl) rfl rfl ?_
        refine w_gf (pc' := 58) (v := .int (zn a)) (ykc_201 (e := (5, .getfield 139, 0)) rfl) rfl ga rfl ?_
        obtain ⟨z1502, e_z1502, h_z1502⟩ : ∃ zq : Int32, (Int32.ofInt (-1)) - (zn a) = zq ∧ zq.toInt = (-1 : Int) - ((a : Nat) : Int) := ⟨_, rfl, zm1sub (by omega) (by omega) (by omega)⟩
        refine w_alu (pc' := 59) (st' := [.int z1502]) (ykc_201 (e := (0, .isub, 0)) rfl) (by rw [← e_z1502]; rfl) rfl ?_
        refine w_ret (v := (some (.int z1502))) (ykc_201 (e := (7, .ireturn, 0)) rfl) (zr_v rfl) ?_
        rw [hQ, show is = false from b1495]
        refine ⟨rfl, _, rfl, ?_⟩
        rw [zFo_b, if_neg (by omega)]
        omega
      · refine w_alu (pc' := 41) (st' := [.int (Int32.ofInt (-1))]) (ykc_201 (e := (0, .iconst (-1), 0)) rfl) rfl rfl ?_
        refine w_load (pc' := 42) (v := .int y) (m := 1) (ykc_201 (e := (2, .iload_n kF2, 0)) rfl) rfl rfl ?_
        obtain ⟨z1503, e_z1503, h_z1503⟩ : ∃ zq : Int32, (Int32.ofInt (-1)) - y = zq ∧ zq.toInt = (-1 : Int) - ((c : Nat) : Int) := ⟨_, rfl, zm1sub (by omega) (by omega) (by omega)⟩
        refine w_alu (pc' := 43) (st' := [.int z1503]) (ykc_201 (e := (0, .isub, 0)) rfl) (by rw [← e_z1503]; rfl) rfl ?_
        refine w_ret (v := (some (.int z1503))) (ykc_201 (e := (7, .ireturn, 0)) rfl) (zr_v rfl) ?_
        rw [hQ, show is = false from b1495]
        refine ⟨rfl, _, rfl, ?_⟩
        rw [zFo_b, if_pos (by omega)]
        omega
  · refine w_load (pc' := 5) (v := .ref 170) (m := 1) (ykc_201 (e := (2, .aload_n kF0, 0)) rfl) rfl rfl ?_
    refine w_gf (pc' := 8) (v := .int (zn a)) (ykc_201 (e := (5, .getfield 139, 0)) rfl) rfl ga rfl ?_
    refine w_load (pc' := 9) (v := .ref 170) (m := 1) (ykc_201 (e := (2, .aload_n kF0, 0)) rfl) rfl rfl ?_
    refine w_gf (pc' := 12) (v := .int (zn b)) (ykc_201 (e := (5, .getfield 151, 0)) rfl) rfl gb rfl ?_
    refine w_ine (ykc_201 (e := (4, .if_icmp .ne 7, 19)) rfl) rfl (fun b1504 => ?_) (fun b1504 => ?_)
    · refine w_alu (pc' := 20) (st' := [.int (Int32.ofInt 0)]) (ykc_201 (e := (0, .iconst 0, 0)) rfl) rfl rfl ?_
      refine w_store (pc' := 22) (L' := [some (.ref 170), some (.int x), some (.int y), some (.int (zI is)), some (.int (Int32.ofInt 0))]) (st' := []) (m := 2) (ykc_201 (e := (3, .istore 4, 0)) rfl) rfl rfl ?_
      refine w_load (pc' := 23) (v := .int x) (m := 1) (ykc_201 (e := (2, .iload_n kF1, 0)) rfl) rfl rfl ?_
      refine w_load (pc' := 24) (v := .int y) (m := 1) (ykc_201 (e := (2, .iload_n kF2, 0)) rfl) rfl rfl ?_
      refine w_ile (ykc_201 (e := (4, .if_icmp .le 20, 44)) rfl) rfl (fun b1505 => ?_) (fun b1505 => ?_)
      · refine w_load (pc' := 46) (v := .int (Int32.ofInt 0)) (m := 2) (ykc_201 (e := (2, .iload 4, 0)) rfl) rfl rfl ?_
        refine w_zeq (ykc_201 (e := (4, .ifCond .eq 7, 53)) rfl) rfl (fun b1506 => ?_) (fun q => by exfalso; omega)
        refine w_alu (pc' := 54) (st' := [.int (Int32.ofInt (-1))]) (ykc_201 (e := (0, .iconst (-1), 0)) rfl) rfl rfl ?_
        refine w_load (pc' := 55) (v := .ref 170) (m := 1) (ykc_201 (e := (2, .aload_n kF0, 0)) rfl) rfl rfl ?_
        refine w_gf (pc' := 58) (v := .int (zn a)) (ykc_201 (e := (5, .getfield 139, 0)) rfl) rfl ga rfl ?_
        obtain ⟨z1507, e_z1507, h_z1507⟩ : ∃ zq : Int32, (Int32.ofInt (-1)) - (zn a) = zq ∧ zq.toInt = (-1 : Int) - ((a : Nat) : Int) := ⟨_, rfl, zm1sub (by omega) (by omega) (by omega)⟩
        refine w_alu (pc' := 59) (st' := [.int z1507]) (ykc_201 (e := (0, .isub, 0)) rfl) (by rw [← e_z1507]; rfl) rfl ?_
        refine w_ret (v := (some (.int z1507))) (ykc_201 (e := (7, .ireturn, 0)) rfl) (zr_v rfl) ?_
        rw [hQ, show is = true from b1495]
        refine ⟨rfl, _, rfl, ?_⟩
        rw [zFo_t, if_neg (by omega), if_neg (by omega)]
        omega
      · refine w_load (pc' := 29) (v := .int (Int32.ofInt 0)) (m := 2) (ykc_201 (e := (2, .iload 4, 0)) rfl) rfl rfl ?_
        refine w_zne (ykc_201 (e := (4, .ifCond .ne 11, 40)) rfl) rfl (fun q => by exfalso; omega) (fun b1508 => ?_)
        refine w_load (pc' := 33) (v := .ref 170) (m := 1) (ykc_201 (e := (2, .aload_n kF0, 0)) rfl) rfl rfl ?_
        refine w_gf (pc' := 36) (v := .int (zn a)) (ykc_201 (e := (5, .getfield 139, 0)) rfl) rfl ga rfl ?_
        refine w_load (pc' := 37) (v := .int y) (m := 1) (ykc_201 (e := (2, .iload_n kF2, 0)) rfl) rfl rfl ?_
        refine w_ilt (ykc_201 (e := (4, .if_icmp .lt 7, 44)) rfl) rfl (fun b1509 => ?_) (fun b1509 => ?_)
        · refine w_load (pc' := 46) (v := .int (Int32.ofInt 0)) (m := 2) (ykc_201 (e := (2, .iload 4, 0)) rfl) rfl rfl ?_
          refine w_zeq (ykc_201 (e := (4, .ifCond .eq 7, 53)) rfl) rfl (fun b1510 => ?_) (fun q => by exfalso; omega)
          refine w_alu (pc' := 54) (st' := [.int (Int32.ofInt (-1))]) (ykc_201 (e := (0, .iconst (-1), 0)) rfl) rfl rfl ?_
          refine w_load (pc' := 55) (v := .ref 170) (m := 1) (ykc_201 (e := (2, .aload_n kF0, 0)) rfl) rfl rfl ?_
          refine w_gf (pc' := 58) (v := .int (zn a)) (ykc_201 (e := (5, .getfield 139, 0)) rfl) rfl ga rfl ?_
          obtain ⟨z1511, e_z1511, h_z1511⟩ : ∃ zq : Int32, (Int32.ofInt (-1)) - (zn a) = zq ∧ zq.toInt = (-1 : Int) - ((a : Nat) : Int) := ⟨_, rfl, zm1sub (by omega) (by omega) (by omega)⟩
          refine w_alu (pc' := 59) (st' := [.int z1511]) (ykc_201 (e := (0, .isub, 0)) rfl) (by rw [← e_z1511]; rfl) rfl ?_
          refine w_ret (v := (some (.int z1511))) (ykc_201 (e := (7, .ireturn, 0)) rfl) (zr_v rfl) ?_
          rw [hQ, show is = true from b1495]
          refine ⟨rfl, _, rfl, ?_⟩
          rw [zFo_t, if_neg (by omega), if_neg (by omega)]
          omega
        · refine w_alu (pc' := 41) (st' := [.int (Int32.ofInt (-1))]) (ykc_201 (e := (0, .iconst (-1), 0)) rfl) rfl rfl ?_
          refine w_load (pc' := 42) (v := .int y) (m := 1) (ykc_201 (e := (2, .iload_n kF2, 0)) rfl) rfl rfl ?_
          obtain ⟨z1512, e_z1512, h_z1512⟩ : ∃ zq : Int32, (Int32.ofInt (-1)) - y = zq ∧ zq.toInt = (-1 : Int) - ((c : Nat) : Int) := ⟨_, rfl, zm1sub (by omega) (by omega) (by omega)⟩
          refine w_alu (pc' := 43) (st' := [.int z1512]) (ykc_201 (e := (0, .isub, 0)) rfl) (by rw [← e_z1512]; rfl) rfl ?_
          refine w_ret (v := (some (.int z1512))) (ykc_201 (e := (7, .ireturn, 0)) rfl) (zr_v rfl) ?_
          rw [hQ, show is = true from b1495]
          refine ⟨rfl, _, rfl, ?_⟩
          rw [zFo_t, if_pos (by omega)]
          omega
    · refine w_alu (pc' := 16) (st' := [.int (Int32.ofInt 1)]) (ykc_201 (e := (0, .iconst 1, 0)) rfl) rfl rfl ?_
      refine w_br (pc' := 20) (st' := [.int (Int32.ofInt 1)]) (ykc_201 (e := (4, .goto 4, 20)) rfl) rfl ?_
      refine w_store (pc' := 22) (L' := [some (.ref 170), some (.int x), some (.int y), some (.int (zI is)), some (.int (Int32.ofInt 1))]) (st' := []) (m := 2) (ykc_201 (e := (3, .istore 4, 0)) rfl) rfl rfl ?_
      refine w_load (pc' := 23) (v := .int x) (m := 1) (ykc_201 (e := (2, .iload_n kF1, 0)) rfl) rfl rfl ?_
      refine w_load (pc' := 24) (v := .int y) (m := 1) (ykc_201 (e := (2, .iload_n kF2, 0)) rfl) rfl rfl ?_
      refine w_ile (ykc_201 (e := (4, .if_icmp .le 20, 44)) rfl) rfl (fun b1513 => ?_) (fun b1513 => ?_)
      · refine w_load (pc' := 46) (v := .int (Int32.ofInt 1)) (m := 2) (ykc_201 (e := (2, .iload 4, 0)) rfl) rfl rfl ?_
        refine w_zeq (ykc_201 (e := (4, .ifCond .eq 7, 53)) rfl) rfl (fun q => by exfalso; omega) (fun b1514 => ?_)
        refine w_alu (pc' := 50) (st' := [.int (Int32.ofInt 0)]) (ykc_201 (e := (0, .iconst 0, 0)) rfl) rfl rfl ?_
        refine w_br (pc' := 59) (st' := [.int (Int32.ofInt 0)]) (ykc_201 (e := (4, .goto 9, 59)) rfl) rfl ?_
        refine w_ret (v := (some (.int (Int32.ofInt 0)))) (ykc_201 (e := (7, .ireturn, 0)) rfl) (zr_v rfl) ?_
        rw [hQ, show is = true from b1495]
        refine ⟨rfl, _, rfl, ?_⟩
        rw [zFo_t, if_neg (by omega), if_pos (by omega)]
        omega
      · refine w_load (pc' := 29) (v := .int (Int32.ofInt 1)) (m := 2) (ykc_201 (e := (2, .iload 4, 0)) rfl) rfl rfl ?_
        refine w_zne (ykc_201 (e := (4, .ifCond .ne 11, 40)) rfl) rfl (fun b1515 => ?_) (fun q => by exfalso; omega)
        refine w_alu (pc' := 41) (st' := [.int (Int32.ofInt (-1))]) (ykc_201 (e := (0, .iconst (-1), 0)) rfl) rfl rfl ?_
        refine w_load (pc' := 42) (v := .int y) (m := 1) (ykc_201 (e := (2, .iload_n kF2, 0)) rfl) rfl rfl ?_
        obtain ⟨z1516, e_z1516, h_z1516⟩ : ∃ zq : Int32, (Int32.ofInt (-1)) - y = zq ∧ zq.toInt = (-1 : Int) - ((c : Nat) : Int) := ⟨_, rfl, zm1sub (by omega) (by omega) (by omega)⟩
        refine w_alu (pc' := 43) (st' := [.int z1516]) (ykc_201 (e := (0, .isub, 0)) rfl) (by rw [← e_z1516]; rfl) rfl ?_
        refine w_ret (v := (some (.int z1516))) (ykc_201 (e := (7, .ireturn, 0)) rfl) (zr_v rfl) ?_
        rw [hQ, show is = true from b1495]
        refine ⟨rfl, _, rfl, ?_⟩
        rw [zFo_t, if_pos (by omega)]
        omega

/-! valley, class and reference, by W; printed by wip/z/z1c_valley.py -/
/-- a digit 3 .. 7 at p, or 0; a sign of a FIELD at p; how many of k FIELDS are told, what valley answers -/
def zVd (n : Nat) (t : Nat → Nat) (p : Nat) : Nat := if p < n ∧ 51 ≤ t p ∧ t p ≤ 55 then t p - 48 else 0
def zVs (n : Nat) (t : Nat → Nat) (p : Nat) : Bool := decide (p < n ∧ (t p = 46 ∨ t p = 35))
def zVg (n : Nat) (t : Nat → Nat) : Nat → Nat
  | 0 => 0
  | k + 1 => if zVg n t k = k ∧ zVs n t (2 + k) = true then k + 1 else zVg n t k
def zVN (n : Nat) (t : Nat → Nat) : Nat := zVd n t 0 * zVd n t 1
def zVa (n : Nat) (t : Nat → Nat) : Int := if zVd n t 0 = 0 then -1 else if zVd n t 1 = 0 then -2 else if zVg n t (zVN n t) < zVN n t then -3 - (zVg n t (zVN n t) : Nat) else if 2 + zVN n t < n then -3 - (zVN n t : Nat) else (zVN n t : Nat)
def zVk (n : Nat) (t : Nat → Nat) : Prop := zVd n t 0 ≠ 0 ∧ zVd n t 1 ≠ 0 ∧ zVg n t (zVN n t) = zVN n t ∧ n ≤ 2 + zVN n t
theorem zVd_b {n p : Nat} {t : Nat → Nat} : zVd n t p = 0 ∨ (3 ≤ zVd n t p ∧ zVd n t p ≤ 7) := by unfold zVd; split <;> omega
theorem zVN_b {n : Nat} {t : Nat → Nat} : zVN n t ≤ 49 := by
  have h0 := @zVd_b n 0 t
  have h1 := @zVd_b n 1 t
  exact Nat.le_trans (Nat.mul_le_mul (show zVd n t 0 ≤ 7 by omega) (show zVd n t 1 ≤ 7 by omega)) (by decide)
theorem zVg_a {n : Nat} {t : Nat → Nat} : ∀ k, (∀ i, i < k → zVs n t (2 + i) = true) → zVg n t k = k
  | 0, _ => rfl
  | k + 1, h => if_pos ⟨zVg_a k (fun i hi => h i (by omega)), h k (by omega)⟩
theorem zVg_f {n f : Nat} {t : Nat → Nat} (h : ∀ i, i < f → zVs n t (2 + i) = true) (hf : zVs n t (2 + f) = false) : ∀ k, f < k → zVg n t k = f := by
  intro k
  induction k with
  | zero => intro h; omega
  | succ k ih =>
    intro hk
    show (if zVg n t k = k ∧ zVs n t (2 + k) = true then k + 1 else zVg n t k) = f
    by_cases e : f = k
    · subst e
      rw [if_neg (fun q => by rw [hf] at q; exact absurd q.2 (by decide)), zVg_a f h]
    · rw [if_neg (fun q => by have := ih (by omega); omega), ih (by omega)]
theorem zVa_0 {n : Nat} {t : Nat → Nat} (h : zVd n t 0 = 0) : zVa n t = -1 ∧ ¬ zVk n t := ⟨if_pos h, fun q => q.1 h⟩
theorem zVa_1 {n : Nat} {t : Nat → Nat} (h0 : zVd n t 0 ≠ 0) (h : zVd n t 1 = 0) : zVa n t = -2 ∧ ¬ zVk n t := ⟨by unfold zVa; rw [if_neg h0, if_pos h], fun q => q.2.1 h⟩
theorem zVa_2 {n f : Nat} {t : Nat → Nat} (h0 : zVd n t 0 ≠ 0) (h1 : zVd n t 1 ≠ 0) (h : ∀ i, i < f → zVs n t (2 + i) = true) (hf : zVs n t (2 + f) = false) (hN : f < zVN n t) : zVa n t = -3 - (f : Int) ∧ ¬ zVk n t := by
  have e := zVg_f h hf _ hN
  exact ⟨by unfold zVa; rw [if_neg h0, if_neg h1, e, if_pos hN], fun q => by have := q.2.2.1; omega⟩
theorem zVa_3 {n : Nat} {t : Nat → Nat} (h0 : zVd n t 0 ≠ 0) (h1 : zVd n t 1 ≠ 0) (h : ∀ i, i < zVN n t → zVs n t (2 + i) = true) (hn : 2 + zVN n t < n) : zVa n t = -3 - (zVN n t : Nat) ∧ ¬ zVk n t := by
  have e := zVg_a _ h
  exact ⟨by unfold zVa; rw [if_neg h0, if_neg h1, e, if_neg (Nat.lt_irrefl _), if_pos hn], fun q => by have := q.2.2.2; omega⟩
theorem zVa_4 {n : Nat} {t : Nat → Nat} (h0 : zVd n t 0 ≠ 0) (h1 : zVd n t 1 ≠ 0) (h : ∀ i, i < zVN n t → zVs n t (2 + i) = true) (hn : ¬ 2 + zVN n t < n) : zVa n t = (zVN n t : Nat) ∧ zVk n t := by
  have e := zVg_a _ h
  exact ⟨by unfold zVa; rw [if_neg h0, if_neg h1, e, if_neg (Nat.lt_irrefl _), if_neg hn], h0, h1, e, by omega⟩
theorem zVs_1 {n p : Nat} {t : Nat → Nat} (h : p < n ∧ (t p = 46 ∨ t p = 35)) : zVs n t p = true := decide_eq_true h
theorem zVs_0 {n p : Nat} {t : Nat → Nat} (h : ¬ (p < n ∧ (t p = 46 ∨ t p = 35))) : zVs n t p = false := decide_eq_false h
/-- the rocks told -/
def zVr (t : Nat → Nat) (f : Nat) : Bool := decide (t (2 + f) = 35)
theorem zdm {C i j : Nat} (h : j < C) : (i * C + j) / C = i ∧ (i * C + j) % C = j := by
  have hC : 0 < C := by omega
  constructor
  · rw [Nat.mul_comm, Nat.mul_add_div hC, Nat.div_eq_of_lt h, Nat.add_zero]
  · rw [Nat.mul_comm, Nat.mul_add_mod, Nat.mod_eq_of_lt h]
theorem zc_side {ph : pm_H} {ln : Nat} {t : Nat → Nat} (hS : zSh ph) (hT : zTc ph ln t) {x : Int32} {k : Nat} (hx : x.toInt = (k : Int)) : zM 35 [.ref 1, .int x] ph (fun v q => ph = q ∧ ((zVd ln t k = 0 ∧ v = some (.int (Int32.ofInt (-1)))) ∨ (zVd ln t k ≠ 0 ∧ v = some (.int (zn (zVd ln t k)))))) := by
  obtain ⟨Q, hQ⟩ : ∃ Q : Option Value → pm_H → Prop, Q = (fun v q => ph = q ∧ ((zVd ln t k = 0 ∧ v = some (.int (Int32.ofInt (-1)))) ∨ (zVd ln t k ≠ 0 ∧ v = some (.int (zn (zVd ln t k)))))) := ⟨_, rfl⟩
  rw [← hQ]
  refine zM_mk fun n D => ?_
  show zW n D 35 Q 0 [some (.ref 1), some (.int x), none] [] ph
  have c_0 : ((Int8.ofInt 7).toInt32).toInt = 7 := by decide
  have c_1 : (Int32.ofInt (-1)).toInt = -1 := by decide
  have c_2 : (Int32.ofInt 3).toInt = 3 := by decide
  have hT0 := hT
  obtain ⟨gn, hn80, gt⟩ := hT
  have tn := znt (k := ln) (by omega)
  refine w_load (pc' := 1) (v := .ref 1) (m := 1) (ykc_35 (e := (2, .aload_n kF0, 0)) rfl) rfl rfl ?_
  refine w_load (pc' := 2) (v := .int x) (m := 1) (ykc_35 (e := (2, .iload_n kF1, 0)) rfl) rfl rfl ?_
  refine w_cv (as := [.ref 1, .int x]) (r := []) (ykc_35 (e := (6, .invokevirtual 43, 0)) rfl) rfl rfl rfl rfl (zc_digit hS hT0 (k := k) (by omega)) (fun v1518 ph1519 hv => ?_)
  obtain ⟨rfl, g1517, rfl, e_g1517⟩ := hv
  have b_g1517 := @zDi_b ln k t
  have d_g1517 := @zDi_c ln k t
  show zW n D 35 Q 5 [some (.ref 1), some (.int x), none] [.int g1517] ph
  refine w_store (pc' := 6) (L' := [some (.ref 1), some (.int x), some (.int g1517)]) (st' := []) (m := 1) (ykc_35 (e := (3, .istore_n kF2, 0)) rfl) rfl rfl ?_
  refine w_load (pc' := 7) (v := .int g1517) (m := 1) (ykc_35 (e := (2, .iload_n kF2, 0)) rfl) rfl rfl ?_
  refine w_alu (pc' := 8) (st' := [.int (Int32.ofInt 3), .int g1517]) (ykc_35 (e := (0, .iconst 3, 0)) rfl) rfl rfl ?_
  refine w_ilt (ykc_35 (e := (4, .if_icmp .lt 13, 21)) rfl) rfl (fun b1520 => ?_) (fun b1520 => ?_)
  · refine w_alu (pc' := 22) (st' := [.int (Int32.ofInt (-1))]) (ykc_35 (e := (0, .iconst (-1), 0)) rfl) rfl rfl ?_
    refine w_ret (v := (some (.int (Int32.ofInt (-1))))) (ykc_35 (e := (7, .ireturn, 0)) rfl) (zr_v rfl) ?_
    have h7 : zVd ln t k = 0 := if_neg (by omega)
    rw [hQ]
    exact ⟨rfl, Or.inl ⟨h7, rfl⟩⟩
  · refine w_load (pc' := 12) (v := .int g1517) (m := 1) (ykc_35 (e := (2, .iload_n kF2, 0)) rfl) rfl rfl ?_
    refine w_push (pc' := 14) (v := .int ((Int8.ofInt 7).toInt32)) (m := 2) (ykc_35 (e := (1, .bipush 7, 0)) rfl) rfl rfl ?_
    refine w_igt (ykc_35 (e := (4, .if_icmp .gt 7, 21)) rfl) rfl (fun b1521 => ?_) (fun b1521 => ?_)
    · refine w_alu (pc' := 22) (st' := [.int (Int32.ofInt (-1))]) (ykc_35 (e := (0, .iconst (-1), 0)) rfl) rfl rfl ?_
      refine w_ret (v := (some (.int (Int32.ofInt (-1))))) (ykc_35 (e := (7, .ireturn, 0)) rfl) (zr_v rfl) ?_
      have h7 : zVd ln t k = 0 := if_neg (by omega)
      rw [hQ]
      exact ⟨rfl, Or.inl ⟨h7, rfl⟩⟩
    · refine w_load (pc' := 18) (v := .int g1517) (m := 1) (ykc_35 (e := (2, .iload_n kF2, 0)) rfl) rfl rfl ?_
      refine w_br (pc' := 22) (st' := [.int g1517]) (ykc_35 (e := (4, .goto 4, 22)) rfl) rfl ?_
      refine w_ret (v := (some (.int g1517))) (ykc_35 (e := (7, .ireturn, 0)) rfl) (zr_v rfl) ?_
      have h9 : k < ln ∧ 51 ≤ t k ∧ t k ≤ 55 := by omega
      have h7 : zVd ln t k = t k - 48 := if_pos h9
      rw [hQ]
      exact ⟨rfl, Or.inr ⟨by omega, by rw [zn_of (x := g1517) (k := zVd ln t k) (by omega)]⟩⟩
theorem zc_shape {ph : pm_H} {R C : Nat} {rk : Nat → Bool} {l : Int64} (hS : zSh ph) (hR3 : 3 ≤ R) (hR7 : R ≤ 7) (hC3 : 3 ≤ C) (hC7 : C ≤ 7) (hlr : l = zS rk (R * C)) : zM 36 [.ref 5, .int (zn R), .int (zn C), .long l] ph (fun v q => v = none ∧ zFr [6, 7] [(5, 0), (5, 1), (5, 2), (5, 3), (5, 4)] ph q ∧ zc q 5 4 = some (.long (Int64.ofNat kG0)) ∧ zCl q R C rk) := by
  obtain ⟨Q, hQ⟩ : ∃ Q : Option Value → pm_H → Prop, Q = (fun v q => v = none ∧ zFr [6, 7] [(5, 0), (5, 1), (5, 2), (5, 3), (5, 4)] ph q ∧ zc q 5 4 = some (.long (Int64.ofNat kG0)) ∧ zCl q R C rk) := ⟨_, rfl⟩
  rw [← hQ]
  refine zM_mk fun n D => ?_
  show zW n D 36 Q 0 [some (.ref 5), some (.int (zn R)), some (.int (zn C)), some (.long l), none, none, none] [] ph
  have c_0 : ((Int8.ofInt 49).toInt32).toInt = 49 := by decide
  have c_1 : (Int32.ofInt 0).toInt = 0 := by decide
  have c_2 : (Int32.ofInt 1).toInt = 1 := by decide
  have hRC := zRC49 hR7 hC7
  have tR := znt (k := R) (by omega)
  have tC := znt (k := C) (by omega)
  refine w_load (pc' := 1) (v := .ref 5) (m := 1) (ykc_36 (e := (2, .aload_n kF0, 0)) rfl) rfl rfl ?_
  refine w_load (pc' := 2) (v := .int (zn R)) (m := 1) (ykc_36 (e := (2, .iload_n kF1, 0)) rfl) rfl rfl ?_
  refine w_pf (pc' := 5) (ykc_36 (e := (5, .putfield 46, 0)) rfl) rfl rfl (fun ph1523 u1522 => ?_)
  refine w_load (pc' := 6) (v := .ref 5) (m := 1) (ykc_36 (e := (2, .aload_n kF0, 0)) rfl) rfl rfl ?_
  refine w_load (pc' := 7) (v := .int (zn C)) (m := 1) (ykc_36 (e := (2, .iload_n kF2, 0)) rfl) rfl rfl ?_
  refine w_pf (pc' := 10) (ykc_36 (e := (5, .putfield 50, 0)) rfl) rfl rfl (fun ph1525 u1524 => ?_)
  refine w_load (pc' := 11) (v := .ref 5) (m := 1) (ykc_36 (e := (2, .aload_n kF0, 0)) rfl) rfl rfl ?_
  refine w_load (pc' := 12) (v := .long l) (m := 1) (ykc_36 (e := (2, .lload_n kF3, 0)) rfl) rfl rfl ?_
  refine w_pf (pc' := 15) (ykc_36 (e := (5, .putfield 53, 0)) rfl) rfl rfl (fun ph1527 u1526 => ?_)
  refine w_load (pc' := 16) (v := .ref 5) (m := 1) (ykc_36 (e := (2, .aload_n kF0, 0)) rfl) rfl rfl ?_
  refine w_alu (pc' := 17) (st' := [.long (Int64.ofNat kG0), .ref 5]) (ykc_36 (e := (0, .lconst kG0, 0)) rfl) rfl rfl ?_
  refine w_pf (pc' := 20) (ykc_36 (e := (5, .putfield 57, 0)) rfl) rfl rfl (fun ph1529 u1528 => ?_)
  refine w_load (pc' := 21) (v := .ref 5) (m := 1) (ykc_36 (e := (2, .aload_n kF0, 0)) rfl) rfl rfl ?_
  refine w_alu (pc' := 22) (st' := [.int (Int32.ofInt 0), .ref 5]) (ykc_36 (e := (0, .iconst 0, 0)) rfl) rfl rfl ?_
  refine w_pf (pc' := 25) (ykc_36 (e := (5, .putfield 60, 0)) rfl) rfl rfl (fun ph1531 u1530 => ?_)
  refine w_alu (pc' := 26) (st' := [.int (Int32.ofInt 0)]) (ykc_36 (e := (0, .iconst 0, 0)) rfl) rfl rfl ?_
  refine w_store (pc' := 28) (L' := [some (.ref 5), some (.int (zn R)), some (.int (zn C)), some (.long l), none, some (.int (Int32.ofInt 0)), none]) (st' := []) (m := 2) (ykc_36 (e := (3, .istore 5, 0)) rfl) rfl rfl ?_
  have hl : ∀ (n : Nat), ∀ (i : Nat) (x6 : Option Value) (ph1 : pm_H), (i ≤ R) → (zFr [6, 7] [(5, 0), (5, 1), (5, 2), (5, 3), (5, 4)] ph ph1) → (zc ph1 5 0 = some (.int (zn R))) → (zc ph1 5 1 = some (.int (zn C))) → (zc ph1 5 3 = some (.long l)) → (zc ph1 5 4 = some (.long (Int64.ofNat kG0))) → (zc ph1 5 2 = some (.int (zn (i * C)))) → (∀ f, f < i * C → zc ph1 6 f = some (.int (zn (f / C))) ∧ zc ph1 7 f = some (.int (zn (f % C)))) → zW n D 36 Q 28 [some (.ref 5), some (.int (zn R)), some (.int (zn C)), some (.long l), none, some (.int (zn i)), x6] [] ph1 := by
    intro n
    induction n using Nat.strongRecOn with
    | ind n ih =>
      intro i x6 ph1 hi hf g0 g1 g3 g4 g2 gr
      have ti := znt (k := i) (by omega)
      have hiC : i * C ≤ R * C := Nat.mul_le_mul_right C hi
      have tiC := znt (k := i * C) (by omega)
      have hin : ∀ (n1 : Nat), n1 ≤ n → ∀ (j : Nat) (ph1 : pm_H), j ≤ C → i < R → (zFr [6, 7] [(5, 0), (5, 1), (5, 2), (5, 3), (5, 4)] ph ph1) → (zc ph1 5 0 = some (.int (zn R))) → (zc ph1 5 1 = some (.int (zn C))) → (zc ph1 5 3 = some (.long l)) → (zc ph1 5 4 = some (.long (Int64.ofNat kG0))) → (zc ph1 5 2 = some (.int (zn (i * C + j)))) → (∀ f, f < i * C + j → zc ph1 6 f = some (.int (zn (f / C))) ∧ zc ph1 7 f = some (.int (zn (f % C)))) → zW n1 D 36 Q 40 [some (.ref 5), some (.int (zn R)), some (.int (zn C)), some (.long l), none, some (.int (zn i)), some (.int (zn j))] [] ph1 := by
        intro n1
        induction n1 using Nat.strongRecOn with
        | ind n1 ih1 =>
          intro hn1 j ph1 hj hiR hf g0 g1 g3 g4 g2 gr
          have tj := znt (k := j) (by omega)
          have hi1 : i * C + C ≤ R * C := by
            have h := Nat.mul_le_mul_right C (show i + 1 ≤ R by omega)
            rwa [Nat.add_mul, Nat.one_mul] at h
          have tij := znt (k := i * C + j) (by omega)
          have hdm := fun h => @zdm C i j h
          refine w_load (pc' := 42) (v := .int (zn j)) (m := 2) (ykc_36 (e := (2, .iload 6, 0)) rfl) rfl rfl ?_
          refine w_load (pc' := 43) (v := .ref 5) (m := 1) (ykc_36 (e := (2, .aload_n kF0, 0)) rfl) rfl rfl ?_
          refine w_gf (pc' := 46) (v := .int (zn C)) (ykc_36 (e := (5, .getfield 50, 0)) rfl) rfl g1 rfl ?_
          refine w_ige (ykc_36 (e := (4, .if_icmp .ge 50, 96)) rfl) rfl (fun b1532 => ?_) (fun b1532 => ?_)
          · have e1533 : (zn i) + Int32.ofInt 1 = zn (i + 1) := (zaddN (a := i) (b := 1) (znt (by omega)) c_2 (by omega))
            have te1533 := znt (k := i + 1) (by omega)
            refine w_store (pc' := 99) (L' := [some (.ref 5), some (.int (zn R)), some (.int (zn C)), some (.long l), none, some (.int (zn (i + 1))), some (.int (zn j))]) (st' := []) (m := 3) (ykc_36 (e := (3, .iinc 5 1, 0)) rfl) (by rw [← e1533]; rfl) rfl ?_
            refine w_gb (ykc_36 (e := (4, .goto (-71), 28)) rfl) (fun k1534 hk1534 => ?_)
            have ej : j = C := by omega
            subst ej
            exact ih k1534 (by omega) (i + 1) _ ph1 (by omega) hf g0 g1 g3 g4 (by rw [Nat.add_mul, Nat.one_mul]; exact g2) (by rw [Nat.add_mul, Nat.one_mul]; exact gr)
          · refine w_load (pc' := 50) (v := .ref 5) (m := 1) (ykc_36 (e := (2, .aload_n kF0, 0)) rfl) rfl rfl ?_
            refine w_gf (pc' := 53) (v := .int (zn (i * C + j))) (ykc_36 (e := (5, .getfield 60, 0)) rfl) rfl g2 rfl ?_
            refine w_push (pc' := 55) (v := .int ((Int8.ofInt 49).toInt32)) (m := 2) (ykc_36 (e := (1, .bipush 49, 0)) rfl) rfl rfl ?_
            refine w_ige (ykc_36 (e := (4, .if_icmp .ge 41, 96)) rfl) rfl (fun q => by exfalso; omega) (fun b1535 => ?_)
            refine w_load (pc' := 59) (v := .ref 5) (m := 1) (ykc_36 (e := (2, .aload_n kF0, 0)) rfl) rfl rfl ?_
            refine w_gf (pc' := 62) (v := .ref 6) (ykc_36 (e := (5, .getfield 9, 0)) rfl) rfl ((hf.1 5 5 (by decide) (by decide)).trans (zsg hS zs_5_5)) rfl ?_
            refine w_load (pc' := 63) (v := .ref 5) (m := 1) (ykc_36 (e := (2, .aload_n kF0, 0)) rfl) rfl rfl ?_
            refine w_gf (pc' := 66) (v := .int (zn (i * C + j))) (ykc_36 (e := (5, .getfield 60, 0)) rfl) rfl g2 rfl ?_
            refine w_load (pc' := 68) (v := .int (zn i)) (m := 2) (ykc_36 (e := (2, .iload 5, 0)) rfl) rfl rfl ?_
            refine w_ias (pc' := 69) (k := i * C + j) (ykc_36 (e := (5, .iastore, 0)) rfl) (by omega) rfl (fun ph1537 u1536 => ?_)
            refine w_load (pc' := 70) (v := .ref 5) (m := 1) (ykc_36 (e := (2, .aload_n kF0, 0)) rfl) rfl rfl ?_
            refine w_gf (pc' := 73) (v := .ref 7) (ykc_36 (e := (5, .getfield 15, 0)) rfl) rfl ((u1536.2.1 5 6 (fun q => absurd q.1 (by decide))).trans ((hf.1 5 6 (by decide) (by decide)).trans (zsg hS zs_5_6))) rfl ?_
            refine w_load (pc' := 74) (v := .ref 5) (m := 1) (ykc_36 (e := (2, .aload_n kF0, 0)) rfl) rfl rfl ?_
            refine w_gf (pc' := 77) (v := .int (zn (i * C + j))) (ykc_36 (e := (5, .getfield 60, 0)) rfl) rfl ((u1536.2.1 5 2 (fun q => absurd q.1 (by decide))).trans g2) rfl ?_
            refine w_load (pc' := 79) (v := .int (zn j)) (m := 2) (ykc_36 (e := (2, .iload 6, 0)) rfl) rfl rfl ?_
            refine w_ias (pc' := 80) (k := i * C + j) (ykc_36 (e := (5, .iastore, 0)) rfl) (by omega) rfl (fun ph1539 u1538 => ?_)
            refine w_load (pc' := 81) (v := .ref 5) (m := 1) (ykc_36 (e := (2, .aload_n kF0, 0)) rfl) rfl rfl ?_
            refine w_alu (pc' := 82) (st' := [.ref 5, .ref 5]) (ykc_36 (e := (0, .dup, 0)) rfl) rfl rfl ?_
            refine w_gf (pc' := 85) (v := .int (zn (i * C + j))) (ykc_36 (e := (5, .getfield 60, 0)) rfl) rfl ((u1538.2.1 5 2 (fun q => absurd q.1 (by decide))).trans ((u1536.2.1 5 2 (fun q => absurd q.1 (by decide))).trans g2)) rfl ?_
            refine w_alu (pc' := 86) (st' := [.int (Int32.ofInt 1), .int (zn (i * C + j)), .ref 5]) (ykc_36 (e := (0, .iconst 1, 0)) rfl) rfl rfl ?_
            have e1540 : (zn (i * C + j)) + (Int32.ofInt 1) = zn (i * C + j + 1) := (zaddN (a := i * C + j) (b := 1) (znt (by omega)) c_2 (by omega)) 
            have te1540 := znt (k := i * C + j + 1) (by omega)
            refine w_alu (pc' := 87) (st' := [.int (zn (i * C + j + 1)), .ref 5]) (ykc_36 (e := (0, .iadd, 0)) rfl) (by rw [← e1540]; rfl) rfl ?_
            refine w_pf (pc' := 90) (ykc_36 (e := (5, .putfield 60, 0)) rfl) rfl rfl (fun ph1542 u1541 => ?_)
            have e1543 : (zn j) + Int32.ofInt 1 = zn (j + 1) := (zaddN (a := j) (b := 1) (znt (by omega)) c_2 (by omega))
            have te1543 := znt (k := j + 1) (by omega)
            refine w_store (pc' := 93) (L' := [some (.ref 5), some (.int (zn R)), some (.int (zn C)), some (.long l), none, some (.int (zn i)), some (.int (zn (j + 1)))]) (st' := []) (m := 3) (ykc_36 (e := (3, .iinc 6 1, 0)) rfl) (by rw [← e1543]; rfl) rfl ?_
            refine w_gb (ykc_36 (e := (4, .goto (-53), 40)) rfl) (fun k1544 hk1544 => ?_)
            obtain ⟨d1, d2⟩ := hdm (by omega)
            exact ih1 k1544 hk1544 (by omega) (j + 1) ph1542 (by omega) hiR (zFr_trans hf (zFr_trans (zFr_st u1536 (Or.inl (by simp))) (zFr_trans (zFr_st u1538 (Or.inl (by simp))) (zFr_st u1541 (Or.inr (by simp)))))) ((u1541.2.1 5 0 (fun q => absurd q.2 (by decide))).trans ((u1538.2.1 5 0 (fun q => absurd q.1 (by decide))).trans ((u1536.2.1 5 0 (fun q => absurd q.1 (by decide))).trans g0))) ((u1541.2.1 5 1 (fun q => absurd q.2 (by decide))).trans ((u1538.2.1 5 1 (fun q => absurd q.1 (by decide))).trans ((u1536.2.1 5 1 (fun q => absurd q.1 (by decide))).trans g1))) ((u1541.2.1 5 3 (fun q => absurd q.2 (by decide))).trans ((u1538.2.1 5 3 (fun q => absurd q.1 (by decide))).trans ((u1536.2.1 5 3 (fun q => absurd q.1 (by decide))).trans g3))) ((u1541.2.1 5 4 (fun q => absurd q.2 (by decide))).trans ((u1538.2.1 5 4 (fun q => absurd q.1 (by decide))).trans ((u1536.2.1 5 4 (fun q => absurd q.1 (by decide))).trans g4))) u1541.1 (fun f hf9 => by
              by_cases e : f = i * C + j
              · subst e
                rw [d1, d2]
                exact ⟨(u1541.2.1 6 _ (fun q => absurd q.1 (by decide))).trans ((u1538.2.1 6 _ (fun q => absurd q.1 (by decide))).trans u1536.1), (u1541.2.1 7 _ (fun q => absurd q.1 (by decide))).trans u1538.1⟩
              · have h8 := gr f (by omega)
                exact ⟨(u1541.2.1 6 _ (fun q => absurd q.1 (by decide))).trans ((u1538.2.1 6 _ (fun q => absurd q.1 (by decide))).trans ((u1536.2.1 6 _ (fun q => e q.2)).trans h8.1)), (u1541.2.1 7 _ (fun q => absurd q.1 (by decide))).trans ((u1538.2.1 7 _ (fun q => e q.2)).trans ((u1536.2.1 7 _ (fun q => absurd q.1 (by decide))).trans h8.2))⟩)
      refine w_load (pc' := 30) (v := .int (zn i)) (m := 2) (ykc_36 (e := (2, .iload 5, 0)) rfl) rfl rfl ?_
      refine w_load (pc' := 31) (v := .ref 5) (m := 1) (ykc_36 (e := (2, .aload_n kF0, 0)) rfl) rfl rfl ?_
      refine w_gf (pc' := 34) (v := .int (zn R)) (ykc_36 (e := (5, .getfield 46, 0)) rfl) rfl g0 rfl ?_
      refine w_ige (ykc_36 (e := (4, .if_icmp .ge 68, 102)) rfl) rfl (fun b1545 => ?_) (fun b1545 => ?_)
      · refine w_ret (v := none) (ykc_36 (e := (7, .return_, 0)) rfl) (zr_v rfl) ?_
        have ei : i = R := by omega
        subst ei
        rw [hQ]
        exact ⟨rfl, hf, g4, g0, g1, g2, by rw [← hlr]; exact g3, gr, hR3, hR7, hC3, hC7⟩
      · refine w_alu (pc' := 38) (st' := [.int (Int32.ofInt 0)]) (ykc_36 (e := (0, .iconst 0, 0)) rfl) rfl rfl ?_
        refine w_store (pc' := 40) (L' := [some (.ref 5), some (.int (zn R)), some (.int (zn C)), some (.long l), none, some (.int (zn i)), some (.int (Int32.ofInt 0))]) (st' := []) (m := 2) (ykc_36 (e := (3, .istore 6, 0)) rfl) rfl rfl ?_
        exact hin _ (Nat.le_refl _) 0 ph1 (Nat.zero_le _) (by omega) hf g0 g1 g3 g4 g2 gr
  exact hl n 0 _ ph1531 (Nat.zero_le _) (zFr_trans (zFr_st u1522 (Or.inr (by simp))) (zFr_trans (zFr_st u1524 (Or.inr (by simp))) (zFr_trans (zFr_st u1526 (Or.inr (by simp))) (zFr_trans (zFr_st u1528 (Or.inr (by simp))) (zFr_st u1530 (Or.inr (by simp))))))) ((u1530.2.1 5 0 (fun q => absurd q.2 (by decide))).trans ((u1528.2.1 5 0 (fun q => absurd q.2 (by decide))).trans ((u1526.2.1 5 0 (fun q => absurd q.2 (by decide))).trans ((u1524.2.1 5 0 (fun q => absurd q.2 (by decide))).trans u1522.1)))) ((u1530.2.1 5 1 (fun q => absurd q.2 (by decide))).trans ((u1528.2.1 5 1 (fun q => absurd q.2 (by decide))).trans ((u1526.2.1 5 1 (fun q => absurd q.2 (by decide))).trans u1524.1))) ((u1530.2.1 5 3 (fun q => absurd q.2 (by decide))).trans ((u1528.2.1 5 3 (fun q => absurd q.2 (by decide))).trans u1526.1)) ((u1530.2.1 5 4 (fun q => absurd q.2 (by decide))).trans u1528.1) (by rw [Nat.zero_mul]; exact u1530.1) (fun f hf9 => absurd hf9 (by rw [Nat.zero_mul]; exact Nat.not_lt_zero f))
theorem zc_vread {ph : pm_H} {ln : Nat} {t : Nat → Nat} (hS : zSh ph) (hT : zTc ph ln t) : zM 34 [.ref 5, .ref 1] ph (fun v q => (zVk ln t ∧ v = some (.int (Int32.ofInt (-1))) ∧ zFr [6, 7] [(5, 0), (5, 1), (5, 2), (5, 3), (5, 4)] ph q ∧ zc q 5 4 = some (.long (Int64.ofNat kG0)) ∧ zCl q (zVd ln t 0) (zVd ln t 1) (zVr t)) ∨ (¬ zVk ln t ∧ ph = q ∧ ∃ k : Nat, v = some (.int (zn k)) ∧ (k : Int) = -1 - zVa ln t ∧ k < 100)) := by
  obtain ⟨Q, hQ⟩ : ∃ Q : Option Value → pm_H → Prop, Q = (fun v q => (zVk ln t ∧ v = some (.int (Int32.ofInt (-1))) ∧ zFr [6, 7] [(5, 0), (5, 1), (5, 2), (5, 3), (5, 4)] ph q ∧ zc q 5 4 = some (.long (Int64.ofNat kG0)) ∧ zCl q (zVd ln t 0) (zVd ln t 1) (zVr t)) ∨ (¬ zVk ln t ∧ ph = q ∧ ∃ k : Nat, v = some (.int (zn k)) ∧ (k : Int) = -1 - zVa ln t ∧ k < 100)) := ⟨_, rfl⟩
  rw [← hQ]
  refine zM_mk fun n D => ?_
  show zW n D 34 Q 0 [some (.ref 5), some (.ref 1), none, none, none, none, none, none, none] [] ph
  have c_0 : ((Int8.ofInt 35).toInt32).toInt = 35 := by decide
  have c_1 : ((Int8.ofInt 46).toInt32).toInt = 46 := by decide
  have c_2 : (Int32.ofInt (-1)).toInt = -1 := by decide
  have c_3 : (Int32.ofInt 0).toInt = 0 := by decide
  have c_4 : (Int32.ofInt 1).toInt = 1 := by decide
  have c_5 : (Int32.ofInt 2).toInt = 2 := by decide
  have hT0 := hT
  obtain ⟨gn, hn80, gt⟩ := hT
  have tn := znt (k := ln) (by omega)
  refine w_load (pc' := 1) (v := .ref 1) (m := 1) (ykc_34 (e := (2, .aload_n kF1, 0)) rfl) rfl rfl ?_
  refine w_alu (pc' := 2) (st' := [.int (Int32.ofInt 0), .ref 1]) (ykc_34 (e := (0, .iconst 0, 0)) rfl) rfl rfl ?_
  refine w_cs (as := [.ref 1, .int (Int32.ofInt 0)]) (r := []) (ykc_34 (e := (6, .invokestatic 29, 0)) rfl) rfl rfl rfl rfl (zc_side hS hT0 (k := 0) (by omega)) (fun v1546 ph1547 hv => ?_)
  rcases hv with ⟨rfl, ⟨z0, rfl⟩ | ⟨z0, rfl⟩⟩
  · show zW n D 34 Q 5 [some (.ref 5), some (.ref 1), none, none, none, none, none, none, none] [.int (Int32.ofInt (-1))] ph
    refine w_store (pc' := 6) (L' := [some (.ref 5), some (.ref 1), some (.int (Int32.ofInt (-1))), none, none, none, none, none, none]) (st' := []) (m := 1) (ykc_34 (e := (3, .istore_n kF2, 0)) rfl) rfl rfl ?_
    refine w_load (pc' := 7) (v := .int (Int32.ofInt (-1))) (m := 1) (ykc_34 (e := (2, .iload_n kF2, 0)) rfl) rfl rfl ?_
    refine w_zge (ykc_34 (e := (4, .ifCond .ge 5, 12)) rfl) rfl (fun q => by exfalso; omega) (fun b1548 => ?_)
    refine w_alu (pc' := 11) (st' := [.int (Int32.ofInt 0)]) (ykc_34 (e := (0, .iconst 0, 0)) rfl) rfl rfl ?_
    refine w_ret (v := (some (.int (Int32.ofInt 0)))) (ykc_34 (e := (7, .ireturn, 0)) rfl) (zr_v rfl) ?_
    rw [hQ]
    exact Or.inr ⟨(zVa_0 z0).2, rfl, 0, rfl, by rw [(zVa_0 z0).1]; omega, by omega⟩
  · have b_z0 := @zVd_b ln 0 t
    have t_z0 := znt (k := zVd ln t 0) (by omega)
    show zW n D 34 Q 5 [some (.ref 5), some (.ref 1), none, none, none, none, none, none, none] [.int (zn (zVd ln t 0))] ph
    refine w_store (pc' := 6) (L' := [some (.ref 5), some (.ref 1), some (.int (zn (zVd ln t 0))), none, none, none, none, none, none]) (st' := []) (m := 1) (ykc_34 (e := (3, .istore_n kF2, 0)) rfl) rfl rfl ?_
    refine w_load (pc' := 7) (v := .int (zn (zVd ln t 0))) (m := 1) (ykc_34 (e := (2, .iload_n kF2, 0)) rfl) rfl rfl ?_
    refine w_zge (ykc_34 (e := (4, .ifCond .ge 5, 12)) rfl) rfl (fun b1549 => ?_) (fun q => by exfalso; omega)
    refine w_load (pc' := 13) (v := .ref 1) (m := 1) (ykc_34 (e := (2, .aload_n kF1, 0)) rfl) rfl rfl ?_
    refine w_alu (pc' := 14) (st' := [.int (Int32.ofInt 1), .ref 1]) (ykc_34 (e := (0, .iconst 1, 0)) rfl) rfl rfl ?_
    refine w_cs (as := [.ref 1, .int (Int32.ofInt 1)]) (r := []) (ykc_34 (e := (6, .invokestatic 29, 0)) rfl) rfl rfl rfl rfl (zc_side hS hT0 (k := 1) (by omega)) (fun v1550 ph1551 hv => ?_)
    rcases hv with ⟨rfl, ⟨z1, rfl⟩ | ⟨z1, rfl⟩⟩
    · show zW n D 34 Q 17 [some (.ref 5), some (.ref 1), some (.int (zn (zVd ln t 0))), none, none, none, none, none, none] [.int (Int32.ofInt (-1))] ph
      refine w_store (pc' := 18) (L' := [some (.ref 5), some (.ref 1), some (.int (zn (zVd ln t 0))), some (.int (Int32.ofInt (-1))), none, none, none, none, none]) (st' := []) (m := 1) (ykc_34 (e := (3, .istore_n kF3, 0)) rfl) rfl rfl ?_
      refine w_load (pc' := 19) (v := .int (Int32.ofInt (-1))) (m := 1) (ykc_34 (e := (2, .iload_n kF3, 0)) rfl) rfl rfl ?_
      refine w_zge (ykc_34 (e := (4, .ifCond .ge 5, 24)) rfl) rfl (fun q => by exfalso; omega) (fun b1552 => ?_)
      refine w_alu (pc' := 23) (st' := [.int (Int32.ofInt 1)]) (ykc_34 (e := (0, .iconst 1, 0)) rfl) rfl rfl ?_
      refine w_ret (v := (some (.int (Int32.ofInt 1)))) (ykc_34 (e := (7, .ireturn, 0)) rfl) (zr_v rfl) ?_
      rw [hQ]
      exact Or.inr ⟨(zVa_1 z0 z1).2, rfl, 1, rfl, by rw [(zVa_1 z0 z1).1]; omega, by omega⟩
    · have b_z1 := @zVd_b ln 1 t
      have t_z1 := znt (k := zVd ln t 1) (by omega)
      show zW n D 34 Q 17 [some (.ref 5), some (.ref 1), some (.int (zn (zVd ln t 0))), none, none, none, none, none, none] [.int (zn (zVd ln t 1))] ph
      refine w_store (pc' := 18) (L' := [some (.ref 5), some (.ref 1), some (.int (zn (zVd ln t 0))), some (.int (zn (zVd ln t 1))), none, none, none, none, none]) (st' := []) (m := 1) (ykc_34 (e := (3, .istore_n kF3, 0)) rfl) rfl rfl ?_
      refine w_load (pc' := 19) (v := .int (zn (zVd ln t 1))) (m := 1) (ykc_34 (e := (2, .iload_n kF3, 0)) rfl) rfl rfl ?_
      refine w_zge (ykc_34 (e := (4, .ifCond .ge 5, 24)) rfl) rfl (fun b1553 => ?_) (fun q => by exfalso; omega)
      refine w_alu (pc' := 25) (st' := [.long (Int64.ofNat kG0)]) (ykc_34 (e := (0, .lconst kG0, 0)) rfl) rfl rfl ?_
      refine w_store (pc' := 27) (L' := [some (.ref 5), some (.ref 1), some (.int (zn (zVd ln t 0))), some (.int (zn (zVd ln t 1))), some (.long (Int64.ofNat kG0)), none, none, none, none]) (st' := []) (m := 2) (ykc_34 (e := (3, .lstore 4, 0)) rfl) rfl rfl ?_
      refine w_load (pc' := 28) (v := .int (zn (zVd ln t 0))) (m := 1) (ykc_34 (e := (2, .iload_n kF2, 0)) rfl) rfl rfl ?_
      refine w_load (pc' := 29) (v := .int (zn (zVd ln t 1))) (m := 1) (ykc_34 (e := (2, .iload_n kF3, 0)) rfl) rfl rfl ?_
      have hN49 : zVd ln t 0 * zVd ln t 1 ≤ 49 := @zVN_b ln t
      have e1554 : (zn (zVd ln t 0)) * (zn (zVd ln t 1)) = zn (zVd ln t 0 * zVd ln t 1) := zn_of (zmulN (by omega) (by omega) (by omega) (by omega))
      have te1554 := znt (k := zVd ln t 0 * zVd ln t 1) (by omega)
      refine w_alu (pc' := 30) (st' := [.int (zn (zVd ln t 0 * zVd ln t 1))]) (ykc_34 (e := (0, .imul, 0)) rfl) (by rw [← e1554]; rfl) rfl ?_
      refine w_store (pc' := 32) (L' := [some (.ref 5), some (.ref 1), some (.int (zn (zVd ln t 0))), some (.int (zn (zVd ln t 1))), some (.long (Int64.ofNat kG0)), none, some (.int (zn (zVd ln t 0 * zVd ln t 1))), none, none]) (st' := []) (m := 2) (ykc_34 (e := (3, .istore 6, 0)) rfl) rfl rfl ?_
      refine w_alu (pc' := 33) (st' := [.int (Int32.ofInt 0)]) (ykc_34 (e := (0, .iconst 0, 0)) rfl) rfl rfl ?_
      refine w_store (pc' := 35) (L' := [some (.ref 5), some (.ref 1), some (.int (zn (zVd ln t 0))), some (.int (zn (zVd ln t 1))), some (.long (Int64.ofNat kG0)), none, some (.int (zn (zVd ln t 0 * zVd ln t 1))), some (.int (Int32.ofInt 0)), none]) (st' := []) (m := 2) (ykc_34 (e := (3, .istore 7, 0)) rfl) rfl rfl ?_
      have hl : ∀ (n : Nat), ∀ (f : Nat) (x8 : Option Value), (f ≤ zVd ln t 0 * zVd ln t 1) → (∀ i, i < f → zVs ln t (2 + i) = true) → zW n D 34 Q 35 [some (.ref 5), some (.ref 1), some (.int (zn (zVd ln t 0))), some (.int (zn (zVd ln t 1))), some (.long (zS (zVr t) f)), none, some (.int (zn (zVd ln t 0 * zVd ln t 1))), some (.int (zn f)), x8] [] ph := by
        intro n
        induction n using Nat.strongRecOn with
        | ind n ih =>
          intro f x8 hf hg
          have tf := znt (k := f) (by omega)
          refine w_load (pc' := 37) (v := .int (zn f)) (m := 2) (ykc_34 (e := (2, .iload 7, 0)) rfl) rfl rfl ?_
          refine w_load (pc' := 39) (v := .int (zn (zVd ln t 0 * zVd ln t 1))) (m := 2) (ykc_34 (e := (2, .iload 6, 0)) rfl) rfl rfl ?_
          refine w_ige (ykc_34 (e := (4, .if_icmp .ge 54, 93)) rfl) rfl (fun b1555 => ?_) (fun b1555 => ?_)
          · refine w_load (pc' := 94) (v := .ref 1) (m := 1) (ykc_34 (e := (2, .aload_n kF1, 0)) rfl) rfl rfl ?_
            refine w_cv (as := [.ref 1]) (r := []) (ykc_34 (e := (6, .invokevirtual 39, 0)) rfl) rfl rfl rfl rfl (zc_tsize gn) (fun v1556 ph1557 hv => ?_)
            obtain ⟨rfl, rfl⟩ := hv
            show zW n D 34 Q 97 [some (.ref 5), some (.ref 1), some (.int (zn (zVd ln t 0))), some (.int (zn (zVd ln t 1))), some (.long (zS (zVr t) f)), none, some (.int (zn (zVd ln t 0 * zVd ln t 1))), some (.int (zn f)), x8] [.int (zn ln)] ph
            refine w_alu (pc' := 98) (st' := [.int (Int32.ofInt 2), .int (zn ln)]) (ykc_34 (e := (0, .iconst 2, 0)) rfl) rfl rfl ?_
            refine w_load (pc' := 100) (v := .int (zn (zVd ln t 0 * zVd ln t 1))) (m := 2) (ykc_34 (e := (2, .iload 6, 0)) rfl) rfl rfl ?_
            have e1558 : (Int32.ofInt 2) + (zn (zVd ln t 0 * zVd ln t 1)) = zn (2 + (zVd ln t 0 * zVd ln t 1)) := (zaddN (a := 2) (b := zVd ln t 0 * zVd ln t 1) c_5 (znt (by omega)) (by omega)) 
            have te1558 := znt (k := 2 + (zVd ln t 0 * zVd ln t 1)) (by omega)
            refine w_alu (pc' := 101) (st' := [.int (zn (2 + (zVd ln t 0 * zVd ln t 1))), .int (zn ln)]) (ykc_34 (e := (0, .iadd, 0)) rfl) (by rw [← e1558]; rfl) rfl ?_
            refine w_ile (ykc_34 (e := (4, .if_icmp .le 8, 109)) rfl) rfl (fun b1559 => ?_) (fun b1559 => ?_)
            · refine w_load (pc' := 110) (v := .ref 5) (m := 1) (ykc_34 (e := (2, .aload_n kF0, 0)) rfl) rfl rfl ?_
              refine w_load (pc' := 111) (v := .int (zn (zVd ln t 0))) (m := 1) (ykc_34 (e := (2, .iload_n kF2, 0)) rfl) rfl rfl ?_
              refine w_load (pc' := 112) (v := .int (zn (zVd ln t 1))) (m := 1) (ykc_34 (e := (2, .iload_n kF3, 0)) rfl) rfl rfl ?_
              refine w_load (pc' := 114) (v := .long (zS (zVr t) f)) (m := 2) (ykc_34 (e := (2, .lload 4, 0)) rfl) rfl rfl ?_
              have ef : f = zVd ln t 0 * zVd ln t 1 := by omega
              refine w_cv (as := [.ref 5, .int (zn (zVd ln t 0)), .int (zn (zVd ln t 1)), .long (zS (zVr t) f)]) (r := []) (ykc_34 (e := (6, .invokevirtual 25, 0)) rfl) rfl rfl rfl rfl (zc_shape (rk := zVr t) hS (by omega) (by omega) (by omega) (by omega) (by rw [ef])) (fun v1560 ph1561 hv => ?_)
              obtain ⟨rfl, fs, g54, gL⟩ := hv
              show zW n D 34 Q 117 [some (.ref 5), some (.ref 1), some (.int (zn (zVd ln t 0))), some (.int (zn (zVd ln t 1))), some (.long (zS (zVr t) f)), none, some (.int (zn (zVd ln t 0 * zVd ln t 1))), some (.int (zn f)), x8] [] ph1561
              refine w_alu (pc' := 118) (st' := [.int (Int32.ofInt (-1))]) (ykc_34 (e := (0, .iconst (-1), 0)) rfl) rfl rfl ?_
              refine w_ret (v := (some (.int (Int32.ofInt (-1))))) (ykc_34 (e := (7, .ireturn, 0)) rfl) (zr_v rfl) ?_
              have eN : f = zVN ln t := by unfold zVN; omega
              have h8 := zVa_4 z0 z1 (by rw [← eN]; exact hg) (show ¬ 2 + zVN ln t < ln by unfold zVN; omega)
              rw [hQ]
              exact Or.inl ⟨h8.2, rfl, fs, g54, gL⟩
            · refine w_alu (pc' := 105) (st' := [.int (Int32.ofInt 2)]) (ykc_34 (e := (0, .iconst 2, 0)) rfl) rfl rfl ?_
              refine w_load (pc' := 107) (v := .int (zn (zVd ln t 0 * zVd ln t 1))) (m := 2) (ykc_34 (e := (2, .iload 6, 0)) rfl) rfl rfl ?_
              have e1562 : (Int32.ofInt 2) + (zn (zVd ln t 0 * zVd ln t 1)) = zn (2 + (zVd ln t 0 * zVd ln t 1)) := (zaddN (a := 2) (b := zVd ln t 0 * zVd ln t 1) c_5 (znt (by omega)) (by omega)) 
              have te1562 := znt (k := 2 + (zVd ln t 0 * zVd ln t 1)) (by omega)
              refine w_alu (pc' := 108) (st' := [.int (zn (2 + (zVd ln t 0 * zVd ln t 1)))]) (ykc_34 (e := (0, .iadd, 0)) rfl) (by rw [← e1562]; rfl) rfl ?_
              refine w_ret (v := (some (.int (zn (2 + (zVd ln t 0 * zVd ln t 1)))))) (ykc_34 (e := (7, .ireturn, 0)) rfl) (zr_v rfl) ?_
              have eN : f = zVN ln t := by unfold zVN; omega
              have h8 := zVa_3 z0 z1 (by rw [← eN]; exact hg) (show 2 + zVN ln t < ln by unfold zVN; omega)
              rw [hQ]
              exact Or.inr ⟨h8.2, rfl, 2 + zVd ln t 0 * zVd ln t 1, rfl, by rw [h8.1]; unfold zVN; omega, by omega⟩
          · refine w_load (pc' := 43) (v := .ref 1) (m := 1) (ykc_34 (e := (2, .aload_n kF1, 0)) rfl) rfl rfl ?_
            refine w_alu (pc' := 44) (st' := [.int (Int32.ofInt 2), .ref 1]) (ykc_34 (e := (0, .iconst 2, 0)) rfl) rfl rfl ?_
            refine w_load (pc' := 46) (v := .int (zn f)) (m := 2) (ykc_34 (e := (2, .iload 7, 0)) rfl) rfl rfl ?_
            have e1563 : (Int32.ofInt 2) + (zn f) = zn (2 + f) := (zaddN (a := 2) (b := f) c_5 (znt (by omega)) (by omega)) 
            have te1563 := znt (k := 2 + f) (by omega)
            refine w_alu (pc' := 47) (st' := [.int (zn (2 + f)), .ref 1]) (ykc_34 (e := (0, .iadd, 0)) rfl) (by rw [← e1563]; rfl) rfl ?_
            refine w_cv (as := [.ref 1, .int (zn (2 + f))]) (r := []) (ykc_34 (e := (6, .invokevirtual 33, 0)) rfl) rfl rfl rfl rfl (zc_at hS hT0 (k := 2 + f) (by omega)) (fun v1565 ph1566 hv => ?_)
            obtain ⟨rfl, g1564, rfl, e_g1564⟩ := hv
            have b_g1564 := @zTi_b ln (2 + f) t (fun h => (gt _ h).2)
            have d_g1564 := @zTi_c ln (2 + f) t
            show zW n D 34 Q 50 [some (.ref 5), some (.ref 1), some (.int (zn (zVd ln t 0))), some (.int (zn (zVd ln t 1))), some (.long (zS (zVr t) f)), none, some (.int (zn (zVd ln t 0 * zVd ln t 1))), some (.int (zn f)), x8] [.int g1564] ph
            refine w_store (pc' := 52) (L' := [some (.ref 5), some (.ref 1), some (.int (zn (zVd ln t 0))), some (.int (zn (zVd ln t 1))), some (.long (zS (zVr t) f)), none, some (.int (zn (zVd ln t 0 * zVd ln t 1))), some (.int (zn f)), some (.int g1564)]) (st' := []) (m := 2) (ykc_34 (e := (3, .istore 8, 0)) rfl) rfl rfl ?_
            refine w_load (pc' := 54) (v := .int g1564) (m := 2) (ykc_34 (e := (2, .iload 8, 0)) rfl) rfl rfl ?_
            refine w_push (pc' := 56) (v := .int ((Int8.ofInt 46).toInt32)) (m := 2) (ykc_34 (e := (1, .bipush 46, 0)) rfl) rfl rfl ?_
            refine w_ieq (ykc_34 (e := (4, .if_icmp .eq 15, 71)) rfl) rfl (fun b1567 => ?_) (fun b1567 => ?_)
            · refine w_load (pc' := 73) (v := .int g1564) (m := 2) (ykc_34 (e := (2, .iload 8, 0)) rfl) rfl rfl ?_
              refine w_push (pc' := 75) (v := .int ((Int8.ofInt 35).toInt32)) (m := 2) (ykc_34 (e := (1, .bipush 35, 0)) rfl) rfl rfl ?_
              refine w_ine (ykc_34 (e := (4, .if_icmp .ne 12, 87)) rfl) rfl (fun b1568 => ?_) (fun b1568 => ?_)
              · have e1569 : (zn f) + Int32.ofInt 1 = zn (f + 1) := (zaddN (a := f) (b := 1) (znt (by omega)) c_4 (by omega))
                have te1569 := znt (k := f + 1) (by omega)
                refine w_store (pc' := 90) (L' := [some (.ref 5), some (.ref 1), some (.int (zn (zVd ln t 0))), some (.int (zn (zVd ln t 1))), some (.long (zS (zVr t) f)), none, some (.int (zn (zVd ln t 0 * zVd ln t 1))), some (.int (zn (f + 1))), some (.int g1564)]) (st' := []) (m := 3) (ykc_34 (e := (3, .iinc 7 1, 0)) rfl) (by rw [← e1569]; rfl) rfl ?_
                refine w_gb (ykc_34 (e := (4, .goto (-55), 35)) rfl) (fun k1570 hk1570 => ?_)
                have hgood : 2 + f < ln ∧ (t (2 + f) = 46 ∨ t (2 + f) = 35) := by omega
                have er : zVr t f = false := decide_eq_false (by omega)
                have es : zS (zVr t) (f + 1) = zS (zVr t) f := by
                  rw [zS_s, er]
                  exact zor0 _
                have h9 := ih k1570 hk1570 (f + 1) (some (.int g1564)) (by omega) (fun i hi => by
                  by_cases e : i = f
                  · subst e; exact zVs_1 hgood
                  · exact hg i (by omega))
                rw [es] at h9
                exact h9
              · refine w_load (pc' := 80) (v := .long (zS (zVr t) f)) (m := 2) (ykc_34 (e := (2, .lload 4, 0)) rfl) rfl rfl ?_
                refine w_alu (pc' := 81) (st' := [.long (Int64.ofNat kG1), .long (zS (zVr t) f)]) (ykc_34 (e := (0, .lconst kG1, 0)) rfl) rfl rfl ?_
                refine w_load (pc' := 83) (v := .int (zn f)) (m := 2) (ykc_34 (e := (2, .iload 7, 0)) rfl) rfl rfl ?_
                refine w_alu (pc' := 84) (st' := [.long ((Int64.ofNat kG1) <<< ((zn f).toInt64 &&& 63)), .long (zS (zVr t) f)]) (ykc_34 (e := (0, .lshl, 0)) rfl) rfl rfl ?_
                refine w_alu (pc' := 85) (st' := [.long ((zS (zVr t) f) ||| ((Int64.ofNat kG1) <<< ((zn f).toInt64 &&& 63)))]) (ykc_34 (e := (0, .lor, 0)) rfl) rfl rfl ?_
                refine w_store (pc' := 87) (L' := [some (.ref 5), some (.ref 1), some (.int (zn (zVd ln t 0))), some (.int (zn (zVd ln t 1))), some (.long ((zS (zVr t) f) ||| ((Int64.ofNat kG1) <<< ((zn f).toInt64 &&& 63)))), none, some (.int (zn (zVd ln t 0 * zVd ln t 1))), some (.int (zn f)), some (.int g1564)]) (st' := []) (m := 2) (ykc_34 (e := (3, .lstore 4, 0)) rfl) rfl rfl ?_
                have e1571 : (zn f) + Int32.ofInt 1 = zn (f + 1) := (zaddN (a := f) (b := 1) (znt (by omega)) c_4 (by omega))
                have te1571 := znt (k := f + 1) (by omega)
                refine w_store (pc' := 90) (L' := [some (.ref 5), some (.ref 1), some (.int (zn (zVd ln t 0))), some (.int (zn (zVd ln t 1))), some (.long ((zS (zVr t) f) ||| ((Int64.ofNat kG1) <<< ((zn f).toInt64 &&& 63)))), none, some (.int (zn (zVd ln t 0 * zVd ln t 1))), some (.int (zn (f + 1))), some (.int g1564)]) (st' := []) (m := 3) (ykc_34 (e := (3, .iinc 7 1, 0)) rfl) (by rw [← e1571]; rfl) rfl ?_
                refine w_gb (ykc_34 (e := (4, .goto (-55), 35)) rfl) (fun k1572 hk1572 => ?_)
                have hgood : 2 + f < ln ∧ (t (2 + f) = 46 ∨ t (2 + f) = 35) := by omega
                have er : zVr t f = true := decide_eq_true (by omega)
                have es : zS (zVr t) (f + 1) = (zS (zVr t) f) ||| ((Int64.ofNat kG1) <<< ((zn f).toInt64 &&& 63)) := by
                  rw [zS_s, er]
                  rfl
                have h9 := ih k1572 hk1572 (f + 1) (some (.int g1564)) (by omega) (fun i hi => by
                  by_cases e : i = f
                  · subst e; exact zVs_1 hgood
                  · exact hg i (by omega))
                rw [es] at h9
                exact h9
            · refine w_load (pc' := 61) (v := .int g1564) (m := 2) (ykc_34 (e := (2, .iload 8, 0)) rfl) rfl rfl ?_
              refine w_push (pc' := 63) (v := .int ((Int8.ofInt 35).toInt32)) (m := 2) (ykc_34 (e := (1, .bipush 35, 0)) rfl) rfl rfl ?_
              refine w_ieq (ykc_34 (e := (4, .if_icmp .eq 8, 71)) rfl) rfl (fun b1573 => ?_) (fun b1573 => ?_)
              · refine w_load (pc' := 73) (v := .int g1564) (m := 2) (ykc_34 (e := (2, .iload 8, 0)) rfl) rfl rfl ?_
                refine w_push (pc' := 75) (v := .int ((Int8.ofInt 35).toInt32)) (m := 2) (ykc_34 (e := (1, .bipush 35, 0)) rfl) rfl rfl ?_
                refine w_ine (ykc_34 (e := (4, .if_icmp .ne 12, 87)) rfl) rfl (fun b1574 => ?_) (fun b1574 => ?_)
                · have e1575 : (zn f) + Int32.ofInt 1 = zn (f + 1) := (zaddN (a := f) (b := 1) (znt (by omega)) c_4 (by omega))
                  have te1575 := znt (k := f + 1) (by omega)
                  refine w_store (pc' := 90) (L' := [some (.ref 5), some (.ref 1), some (.int (zn (zVd ln t 0))), some (.int (zn (zVd ln t 1))), some (.long (zS (zVr t) f)), none, some (.int (zn (zVd ln t 0 * zVd ln t 1))), some (.int (zn (f + 1))), some (.int g1564)]) (st' := []) (m := 3) (ykc_34 (e := (3, .iinc 7 1, 0)) rfl) (by rw [← e1575]; rfl) rfl ?_
                  refine w_gb (ykc_34 (e := (4, .goto (-55), 35)) rfl) (fun k1576 hk1576 => ?_)
                  have hgood : 2 + f < ln ∧ (t (2 + f) = 46 ∨ t (2 + f) = 35) := by omega
                  have er : zVr t f = false := decide_eq_false (by omega)
                  have es : zS (zVr t) (f + 1) = zS (zVr t) f := by
                    rw [zS_s, er]
                    exact zor0 _
                  have h9 := ih k1576 hk1576 (f + 1) (some (.int g1564)) (by omega) (fun i hi => by
                    by_cases e : i = f
                    · subst e; exact zVs_1 hgood
                    · exact hg i (by omega))
                  rw [es] at h9
                  exact h9
                · refine w_load (pc' := 80) (v := .long (zS (zVr t) f)) (m := 2) (ykc_34 (e := (2, .lload 4, 0)) rfl) rfl rfl ?_
                  refine w_alu (pc' := 81) (st' := [.long (Int64.ofNat kG1), .long (zS (zVr t) f)]) (ykc_34 (e := (0, .lconst kG1, 0)) rfl) rfl rfl ?_
                  refine w_load (pc' := 83) (v := .int (zn f)) (m := 2) (ykc_34 (e := (2, .iload 7, 0)) rfl) rfl rfl ?_
                  refine w_alu (pc' := 84) (st' := [.long ((Int64.ofNat kG1) <<< ((zn f).toInt64 &&& 63)), .long (zS (zVr t) f)]) (ykc_34 (e := (0, .lshl, 0)) rfl) rfl rfl ?_
                  refine w_alu (pc' := 85) (st' := [.long ((zS (zVr t) f) ||| ((Int64.ofNat kG1) <<< ((zn f).toInt64 &&& 63)))]) (ykc_34 (e := (0, .lor, 0)) rfl) rfl rfl ?_
                  refine w_store (pc' := 87) (L' := [some (.ref 5), some (.ref 1), some (.int (zn (zVd ln t 0))), some (.int (zn (zVd ln t 1))), some (.long ((zS (zVr t) f) ||| ((Int64.ofNat kG1) <<< ((zn f).toInt64 &&& 63)))), none, some (.int (zn (zVd ln t 0 * zVd ln t 1))), some (.int (zn f)), some (.int g1564)]) (st' := []) (m := 2) (ykc_34 (e := (3, .lstore 4, 0)) rfl) rfl rfl ?_
                  have e1577 : (zn f) + Int32.ofInt 1 = zn (f + 1) := (zaddN (a := f) (b := 1) (znt (by omega)) c_4 (by omega))
                  have te1577 := znt (k := f + 1) (by omega)
                  refine w_store (pc' := 90) (L' := [some (.ref 5), some (.ref 1), some (.int (zn (zVd ln t 0))), some (.int (zn (zVd ln t 1))), some (.long ((zS (zVr t) f) ||| ((Int64.ofNat kG1) <<< ((zn f).toInt64 &&& 63)))), none, some (.int (zn (zVd ln t 0 * zVd ln t 1))), some (.int (zn (f + 1))), some (.int g1564)]) (st' := []) (m := 3) (ykc_34 (e := (3, .iinc 7 1, 0)) rfl) (by rw [← e1577]; rfl) rfl ?_
                  refine w_gb (ykc_34 (e := (4, .goto (-55), 35)) rfl) (fun k1578 hk1578 => ?_)
                  have hgood : 2 + f < ln ∧ (t (2 + f) = 46 ∨ t (2 + f) = 35) := by omega
                  have er : zVr t f = true := decide_eq_true (by omega)
                  have es : zS (zVr t) (f + 1) = (zS (zVr t) f) ||| ((Int64.ofNat kG1) <<< ((zn f).toInt64 &&& 63)) := by
                    rw [zS_s, er]
                    rfl
                  have h9 := ih k1578 hk1578 (f + 1) (some (.int g1564)) (by omega) (fun i hi => by
                    by_cases e : i = f
                    · subst e; exact zVs_1 hgood
                    · exact hg i (by omega))
                  rw [es] at h9
                  exact h9
              · refine w_alu (pc' := 67) (st' := [.int (Int32.ofInt 2)]) (ykc_34 (e := (0, .iconst 2, 0)) rfl) rfl rfl ?_
                refine w_load (pc' := 69) (v := .int (zn f)) (m := 2) (ykc_34 (e := (2, .iload 7, 0)) rfl) rfl rfl ?_
                have e1579 : (Int32.ofInt 2) + (zn f) = zn (2 + f) := (zaddN (a := 2) (b := f) c_5 (znt (by omega)) (by omega)) 
                have te1579 := znt (k := 2 + f) (by omega)
                refine w_alu (pc' := 70) (st' := [.int (zn (2 + f))]) (ykc_34 (e := (0, .iadd, 0)) rfl) (by rw [← e1579]; rfl) rfl ?_
                refine w_ret (v := (some (.int (zn (2 + f))))) (ykc_34 (e := (7, .ireturn, 0)) rfl) (zr_v rfl) ?_
                have hbad : ¬ (2 + f < ln ∧ (t (2 + f) = 46 ∨ t (2 + f) = 35)) := by
                  intro h9
                  omega
                have h8 := zVa_2 z0 z1 hg (zVs_0 hbad) (show f < zVN ln t by unfold zVN; omega)
                rw [hQ]
                exact Or.inr ⟨h8.2, rfl, 2 + f, rfl, by rw [h8.1]; omega, by omega⟩
      exact hl n 0 _ (Nat.zero_le _) (fun i hi => absurd hi (Nat.not_lt_zero i))
theorem zc_stclear {ph : pm_H} (hS : zSh ph) : zM 102 [.ref 25] ph (fun v q => v = none ∧ zFr [] [(25, 0), (25, 1), (25, 2)] ph q ∧ zc q 25 0 = some (.int (zn 0)) ∧ zc q 25 1 = some (.int (zn 0)) ∧ zc q 25 2 = some (.int (zn 0))) := by
  obtain ⟨Q, hQ⟩ : ∃ Q : Option Value → pm_H → Prop, Q = (fun v q => v = none ∧ zFr [] [(25, 0), (25, 1), (25, 2)] ph q ∧ zc q 25 0 = some (.int (zn 0)) ∧ zc q 25 1 = some (.int (zn 0)) ∧ zc q 25 2 = some (.int (zn 0))) := ⟨_, rfl⟩
  rw [← hQ]
  refine zM_mk fun n D => ?_
  show zW n D 102 Q 0 [some (.ref 25)] [] ph
  have c_0 : (Int32.ofInt 0).toInt = 0 := by decide
  refine w_load (pc' := 1) (v := .ref 25) (m := 1) (ykc_102 (e := (2, .aload_n kF0, 0)) rfl) rfl rfl ?_
  refine w_alu (pc' := 2) (st' := [.int (Int32.ofInt 0), .ref 25]) (ykc_102 (e := (0, .iconst 0, 0)) rfl) rfl rfl ?_
  refine w_pf (pc' := 5) (ykc_102 (e := (5, .putfield 30, 0)) rfl) rfl rfl (fun ph1581 u1580 => ?_)
  refine w_load (pc' := 6) (v := .ref 25) (m := 1) (ykc_102 (e := (2, .aload_n kF0, 0)) rfl) rfl rfl ?_
  refine w_alu (pc' := 7) (st' := [.int (Int32.ofInt 0), .ref 25]) (ykc_102 (e := (0, .iconst 0, 0)) rfl) rfl rfl ?_
  refine w_pf (pc' := 10) (ykc_102 (e := (5, .putfield 34, 0)) rfl) rfl rfl (fun ph1583 u1582 => ?_)
  refine w_load (pc' := 11) (v := .ref 25) (m := 1) (ykc_102 (e := (2, .aload_n kF0, 0)) rfl) rfl rfl ?_
  refine w_alu (pc' := 12) (st' := [.int (Int32.ofInt 0), .ref 25]) (ykc_102 (e := (0, .iconst 0, 0)) rfl) rfl rfl ?_
  refine w_pf (pc' := 15) (ykc_102 (e := (5, .putfield 37, 0)) rfl) rfl rfl (fun ph1585 u1584 => ?_)
  refine w_ret (v := none) (ykc_102 (e := (7, .return_, 0)) rfl) (zr_v rfl) ?_
  rw [hQ]
  exact ⟨rfl, zFr_trans (zFr_st u1580 (Or.inr (by simp))) (zFr_trans (zFr_st u1582 (Or.inr (by simp))) (zFr_st u1584 (Or.inr (by simp)))), ((u1584.2.1 25 0 (fun q => absurd q.2 (by decide))).trans ((u1582.2.1 25 0 (fun q => absurd q.2 (by decide))).trans u1580.1)), ((u1584.2.1 25 1 (fun q => absurd q.2 (by decide))).trans u1582.1), u1584.1⟩
theorem zc_hclear {ph : pm_H} (hS : zSh ph) : zM 30 [.ref 43] ph (fun v q => v = none ∧ zFr [] [(43, 2), (43, 4)] ph q ∧ zc q 43 2 = some (.int (zn 0)) ∧ zc q 43 4 = some (.int (zn 0))) := by
  obtain ⟨Q, hQ⟩ : ∃ Q : Option Value → pm_H → Prop, Q = (fun v q => v = none ∧ zFr [] [(43, 2), (43, 4)] ph q ∧ zc q 43 2 = some (.int (zn 0)) ∧ zc q 43 4 = some (.int (zn 0))) := ⟨_, rfl⟩
  rw [← hQ]
  refine zM_mk fun n D => ?_
  show zW n D 30 Q 0 [some (.ref 43)] [] ph
  have c_0 : (Int32.ofInt 0).toInt = 0 := by decide
  refine w_load (pc' := 1) (v := .ref 43) (m := 1) (ykc_30 (e := (2, .aload_n kF0, 0)) rfl) rfl rfl ?_
  refine w_alu (pc' := 2) (st' := [.int (Int32.ofInt 0), .ref 43]) (ykc_30 (e := (0, .iconst 0, 0)) rfl) rfl rfl ?_
  refine w_pf (pc' := 5) (ykc_30 (e := (5, .putfield 26, 0)) rfl) rfl rfl (fun ph1587 u1586 => ?_)
  refine w_load (pc' := 6) (v := .ref 43) (m := 1) (ykc_30 (e := (2, .aload_n kF0, 0)) rfl) rfl rfl ?_
  refine w_alu (pc' := 7) (st' := [.int (Int32.ofInt 0), .ref 43]) (ykc_30 (e := (0, .iconst 0, 0)) rfl) rfl rfl ?_
  refine w_pf (pc' := 10) (ykc_30 (e := (5, .putfield 19, 0)) rfl) rfl rfl (fun ph1589 u1588 => ?_)
  refine w_ret (v := none) (ykc_30 (e := (7, .return_, 0)) rfl) (zr_v rfl) ?_
  rw [hQ]
  exact ⟨rfl, zFr_trans (zFr_st u1586 (Or.inr (by simp))) (zFr_st u1588 (Or.inr (by simp))), ((u1588.2.1 43 2 (fun q => absurd q.2 (by decide))).trans u1586.1), u1588.1⟩
theorem zCc_0 {q : pm_H} {R C : Nat} {rk : Nat → Bool} (h : zc q 5 4 = some (.long (Int64.ofNat kG0))) : zCc q R C rk := ⟨_, h, fun f hf hb => by
  rw [zL0] at hb
  simp [zb] at hb⟩
theorem zVa_k {n : Nat} {t : Nat → Nat} (h : zVk n t) : zVa n t = (zVN n t : Nat) := by
  obtain ⟨h0, h1, h2, h3⟩ := h
  unfold zVa
  rw [if_neg h0, if_neg h1, h2, if_neg (Nat.lt_irrefl _), if_neg (by omega)]
theorem zc_valley {ph : pm_H} {ln : Nat} {t : Nat → Nat} {R C P G nx u fl hn : Nat} {rk : Nat → Bool} {v : Nat → Nat} {w : Nat → Nat → Nat} {sv : Nat → Nat → Nat} (hS : zSh ph) (hT : zTc ph ln t) (hK : zKC ph R C rk P G v nx u w fl sv hn) : zM 124 [.ref 0] ph (fun v0 q => ∃ z : Int32, v0 = some (.int z) ∧ z.toInt = zVa ln t ∧ ((zVk ln t ∧ zCc q (zVd ln t 0) (zVd ln t 1) (zVr t) ∧ zKC q (zVd ln t 0) (zVd ln t 1) (zVr t) 0 0 (znu v 40 0) nx 0 w 0 sv 0) ∨ (¬ zVk ln t ∧ zKC q R C rk P G v nx u w fl sv hn ∧ zFr [] [(1, 1)] ph q))) := by
  obtain ⟨Q, hQ⟩ : ∃ Q : Option Value → pm_H → Prop, Q = (fun v0 q => ∃ z : Int32, v0 = some (.int z) ∧ z.toInt = zVa ln t ∧ ((zVk ln t ∧ zCc q (zVd ln t 0) (zVd ln t 1) (zVr t) ∧ zKC q (zVd ln t 0) (zVd ln t 1) (zVr t) 0 0 (znu v 40 0) nx 0 w 0 sv 0) ∨ (¬ zVk ln t ∧ zKC q R C rk P G v nx u w fl sv hn ∧ zFr [] [(1, 1)] ph q))) := ⟨_, rfl⟩
  rw [← hQ]
  refine zM_mk fun n D => ?_
  show zW n D 124 Q 0 [some (.ref 0), none] [] ph
  have c_0 : (Int32.ofInt (-1)).toInt = -1 := by decide
  obtain ⟨hL, hd, hU, hk, hh⟩ := hK
  have hT0 := hT
  obtain ⟨gn, hn80, gt⟩ := hT
  have tn := znt (k := ln) (by omega)
  refine w_load (pc' := 1) (v := .ref 0) (m := 1) (ykc_124 (e := (2, .aload_n kF0, 0)) rfl) rfl rfl ?_
  refine w_gf (pc' := 4) (v := .ref 5) (ykc_124 (e := (5, .getfield 26, 0)) rfl) rfl (zsg hS zs_0_2) rfl ?_
  refine w_load (pc' := 5) (v := .ref 0) (m := 1) (ykc_124 (e := (2, .aload_n kF0, 0)) rfl) rfl rfl ?_
  refine w_gf (pc' := 8) (v := .ref 1) (ykc_124 (e := (5, .getfield 10, 0)) rfl) rfl (zsg hS zs_0_0) rfl ?_
  refine w_cv (as := [.ref 5, .ref 1]) (r := []) (ykc_124 (e := (6, .invokevirtual 115, 0)) rfl) rfl rfl rfl rfl (zc_vread hS hT0) (fun v1590 ph1591 hv => ?_)
  rcases hv with ⟨gK, rfl, fs, g54, gL⟩ | ⟨gK, rfl, k9, rfl, ek9, hk9⟩
  · have cm : (Int32.ofInt (-1)).toInt = -1 := by decide
    show zW n D 124 Q 11 [some (.ref 0), none] [.int (Int32.ofInt (-1))] ph1591
    refine w_store (pc' := 12) (L' := [some (.ref 0), some (.int (Int32.ofInt (-1)))]) (st' := []) (m := 1) (ykc_124 (e := (3, .istore_n kF1, 0)) rfl) rfl rfl ?_
    refine w_load (pc' := 13) (v := .ref 0) (m := 1) (ykc_124 (e := (2, .aload_n kF0, 0)) rfl) rfl rfl ?_
    refine w_gf (pc' := 16) (v := .ref 1) (ykc_124 (e := (5, .getfield 10, 0)) rfl) rfl ((fs.1 0 0 (by decide) (by decide)).trans (zsg hS zs_0_0)) rfl ?_
    refine w_cv (as := [.ref 1]) (r := []) (ykc_124 (e := (6, .invokevirtual 119, 0)) rfl) rfl rfl rfl rfl (zc_tclear) (fun v1592 ph1593 hv => ?_)
    obtain ⟨rfl, ft, gt1⟩ := hv
    show zW n D 124 Q 19 [some (.ref 0), some (.int (Int32.ofInt (-1)))] [] ph1593
    refine w_load (pc' := 20) (v := .int (Int32.ofInt (-1))) (m := 1) (ykc_124 (e := (2, .iload_n kF1, 0)) rfl) rfl rfl ?_
    refine w_zlt (ykc_124 (e := (4, .ifCond .lt 7, 27)) rfl) rfl (fun b1594 => ?_) (fun q => by exfalso; omega)
    refine w_load (pc' := 28) (v := .ref 0) (m := 1) (ykc_124 (e := (2, .aload_n kF0, 0)) rfl) rfl rfl ?_
    refine w_gf (pc' := 31) (v := .ref 25) (ykc_124 (e := (5, .getfield 42, 0)) rfl) rfl ((ft.1 0 4 (by decide) (by decide)).trans ((fs.1 0 4 (by decide) (by decide)).trans (zsg hS zs_0_4))) rfl ?_
    refine w_cv (as := [.ref 25]) (r := []) (ykc_124 (e := (6, .invokevirtual 122, 0)) rfl) rfl rfl rfl rfl (zc_stclear (zSh_F (F := [(1, 1), (5, 0), (5, 1), (5, 2), (5, 3), (5, 4)]) (A := [6, 7]) (zFr_trans (zFr_mono fs (by simp) (by simp)) (zFr_mono ft (by simp) (by simp))) (by decide +kernel) hS)) (fun v1595 ph1596 hv => ?_)
    obtain ⟨rfl, fc, gc0, gc1, gc2⟩ := hv
    show zW n D 124 Q 34 [some (.ref 0), some (.int (Int32.ofInt (-1)))] [] ph1596
    refine w_load (pc' := 35) (v := .ref 0) (m := 1) (ykc_124 (e := (2, .aload_n kF0, 0)) rfl) rfl rfl ?_
    refine w_gf (pc' := 38) (v := .ref 43) (ykc_124 (e := (5, .getfield 55, 0)) rfl) rfl ((fc.1 0 7 (by decide) (by decide)).trans ((ft.1 0 7 (by decide) (by decide)).trans ((fs.1 0 7 (by decide) (by decide)).trans (zsg hS zs_0_7)))) rfl ?_
    refine w_cv (as := [.ref 43]) (r := []) (ykc_124 (e := (6, .invokevirtual 123, 0)) rfl) rfl rfl rfl rfl (zc_hclear (zSh_F (F := [(1, 1), (5, 0), (5, 1), (5, 2), (5, 3), (5, 4), (25, 0), (25, 1), (25, 2)]) (A := [6, 7]) (zFr_trans (zFr_mono fs (by simp) (by simp)) (zFr_trans (zFr_mono ft (by simp) (by simp)) (zFr_mono fc (by simp) (by simp)))) (by decide +kernel) hS)) (fun v1597 ph1598 hv => ?_)
    obtain ⟨rfl, fh, gh2, gh4⟩ := hv
    show zW n D 124 Q 41 [some (.ref 0), some (.int (Int32.ofInt (-1)))] [] ph1598
    refine w_load (pc' := 42) (v := .ref 0) (m := 1) (ykc_124 (e := (2, .aload_n kF0, 0)) rfl) rfl rfl ?_
    refine w_cv (as := [.ref 0]) (r := []) (ykc_124 (e := (6, .invokevirtual 124, 0)) rfl) rfl rfl rfl rfl (zc_forgetH) (fun v1599 ph1600 hv => ?_)
    obtain ⟨rfl, fg, gg⟩ := hv
    show zW n D 124 Q 45 [some (.ref 0), some (.int (Int32.ofInt (-1)))] [] ph1600
    refine w_load (pc' := 46) (v := .ref 0) (m := 1) (ykc_124 (e := (2, .aload_n kF0, 0)) rfl) rfl rfl ?_
    refine w_gf (pc' := 49) (v := .ref 5) (ykc_124 (e := (5, .getfield 26, 0)) rfl) rfl ((fg.1 0 2 (by decide) (by decide)).trans ((fh.1 0 2 (by decide) (by decide)).trans ((fc.1 0 2 (by decide) (by decide)).trans ((ft.1 0 2 (by decide) (by decide)).trans ((fs.1 0 2 (by decide) (by decide)).trans (zsg hS zs_0_2)))))) rfl ?_
    have f9 : zFr [] [(0, 13), (0, 14), (1, 1), (25, 0), (25, 1), (25, 2), (43, 2), (43, 4)] ph1591 _ := zFr_trans (zFr_mono ft (by simp) (by simp)) (zFr_trans (zFr_mono fc (by simp) (by simp)) (zFr_trans (zFr_mono fh (by simp) (by simp)) (zFr_mono fg (by simp) (by simp))))
    have f8 : zFr [6, 7] [(0, 13), (0, 14), (1, 1), (5, 0), (5, 1), (5, 2), (5, 3), (5, 4), (25, 0), (25, 1), (25, 2), (43, 2), (43, 4)] ph _ := zFr_trans (zFr_mono fs (by simp) (by simp)) (zFr_mono f9 (by simp) (by simp))
    have gL9 := zCl_F f9 (by simp) (by intro i hi; simp) (by simp) gL
    have hS9 := zSh_F f8 (by decide +kernel) hS
    refine w_cv (as := [.ref 5]) (r := []) (ykc_124 (e := (6, .invokevirtual 127, 0)) rfl) rfl rfl rfl rfl (zc_fields hS9 gL9) (fun v1601 ph1602 hv => ?_)
    obtain ⟨rfl, rfl⟩ := hv
    show zW n D 124 Q 52 [some (.ref 0), some (.int (Int32.ofInt (-1)))] [.int (zn (zVd ln t 0 * zVd ln t 1))] ph1600
    refine w_ret (v := (some (.int (zn (zVd ln t 0 * zVd ln t 1))))) (ykc_124 (e := (7, .ireturn, 0)) rfl) (zr_v rfl) ?_
    have e4 := zVa_k gK
    rw [hQ]
    refine ⟨_, rfl, ?_, Or.inl ⟨gK, zCc_0 ((f9.1 5 4 (by decide) (by decide)).trans g54), gL9, ⟨((fg.1 25 0 (by decide) (by decide)).trans ((fh.1 25 0 (by decide) (by decide)).trans gc0)), by decide, ((fg.1 25 1 (by decide) (by decide)).trans ((fh.1 25 1 (by decide) (by decide)).trans gc1)), by decide, ((fg.1 25 2 (by decide) (by decide)).trans ((fh.1 25 2 (by decide) (by decide)).trans gc2)), fun i hi => absurd hi (Nat.not_lt_zero i), fun i hi => absurd hi (Nat.not_lt_zero i)⟩, ⟨(f8.1 43 1 (by decide) (by decide)).trans hU.1, hU.2.1, (fg.1 43 2 (by decide) (by decide)).trans gh2, by decide, fun i hi => absurd hi (Nat.not_lt_zero i)⟩, ⟨(fg.1 43 4 (by decide) (by decide)).trans gh4, by decide, fun i hi h => absurd h (by rw [Nat.zero_testBit]; decide)⟩, gg, by decide⟩⟩
    have h49 := @zVN_b ln t
    unfold zVN at h49 e4
    rw [e4, znt (by omega)]
  · have tk := znt (k := k9) (by omega)
    have cm : (Int32.ofInt (-1)).toInt = -1 := by decide
    show zW n D 124 Q 11 [some (.ref 0), none] [.int (zn k9)] ph
    refine w_store (pc' := 12) (L' := [some (.ref 0), some (.int (zn k9))]) (st' := []) (m := 1) (ykc_124 (e := (3, .istore_n kF1, 0)) rfl) rfl rfl ?_
    refine w_load (pc' := 13) (v := .ref 0) (m := 1) (ykc_124 (e := (2, .aload_n kF0, 0)) rfl) rfl rfl ?_
    refine w_gf (pc' := 16) (v := .ref 1) (ykc_124 (e := (5, .getfield 10, 0)) rfl) rfl (zsg hS zs_0_0) rfl ?_
    refine w_cv (as := [.ref 1]) (r := []) (ykc_124 (e := (6, .invokevirtual 119, 0)) rfl) rfl rfl rfl rfl (zc_tclear) (fun v1603 ph1604 hv => ?_)
    obtain ⟨rfl, ft, gt1⟩ := hv
    show zW n D 124 Q 19 [some (.ref 0), some (.int (zn k9))] [] ph1604
    refine w_load (pc' := 20) (v := .int (zn k9)) (m := 1) (ykc_124 (e := (2, .iload_n kF1, 0)) rfl) rfl rfl ?_
    refine w_zlt (ykc_124 (e := (4, .ifCond .lt 7, 27)) rfl) rfl (fun q => by exfalso; omega) (fun b1605 => ?_)
    refine w_alu (pc' := 24) (st' := [.int (Int32.ofInt (-1))]) (ykc_124 (e := (0, .iconst (-1), 0)) rfl) rfl rfl ?_
    refine w_load (pc' := 25) (v := .int (zn k9)) (m := 1) (ykc_124 (e := (2, .iload_n kF1, 0)) rfl) rfl rfl ?_
    obtain ⟨z1606, e_z1606, h_z1606⟩ : ∃ zq : Int32, (Int32.ofInt (-1)) - (zn k9) = zq ∧ zq.toInt = (-1 : Int) - ((k9 : Nat) : Int) := ⟨_, rfl, zm1sub (by omega) (by omega) (by omega)⟩
    refine w_alu (pc' := 26) (st' := [.int z1606]) (ykc_124 (e := (0, .isub, 0)) rfl) (by rw [← e_z1606]; rfl) rfl ?_
    refine w_ret (v := (some (.int z1606))) (ykc_124 (e := (7, .ireturn, 0)) rfl) (zr_v rfl) ?_
    rw [hQ]
    exact ⟨_, rfl, by omega, Or.inr ⟨gK, ⟨zCl_F ft (by simp) (by intro i hi; simp <;> omega) (by simp) hL, zSd_F ft (by simp) (by intro j i hj; simp <;> omega) hd, zCu_F ft (by simp) (by simp) (by intro j _ _; simp) (by intro j i _ _; simp <;> omega) hU, zCk_F ft (by simp) (by simp) (by intro j _ _; simp) (by intro j i _ _; simp <;> omega) hk, (ft.1 0 14 (by simp) (by simp)).trans hh.1, hh.2⟩, ft⟩⟩
theorem zm_fields2 {ph : pm_H} {R C : Nat} (g3 : zc ph 170 3 = some (.int (zn R))) (g4 : zc ph 170 4 = some (.int (zn C))) (hR : R ≤ 7) (hC : C ≤ 7) : zM 188 [.ref 170] ph (fun v q => ph = q ∧ v = some (.int (zn (R * C)))) := by
  obtain ⟨Q, hQ⟩ : ∃ Q : Option Value → pm_H → Prop, Q = (fun v q => ph = q ∧ v = some (.int (zn (R * C)))) := ⟨_, rfl⟩
  rw [← hQ]
  refine zM_mk fun n D => ?_
  show zW n D 188 Q 0 [some (.ref 170)] [] ph
  have hRC := zRC49 hR hC
  have tR := znt (k := R) (by omega)
  have tC := znt (k := C) (by omega)
  refine w_load (pc' := 1) (v := .ref 170) (m := 1) (ykc_188 (e := (2, .aload_n kF0, 0)) rfl) rfl rfl ?_
  refine w_gf (pc' := 4) (v := .int (zn R)) (ykc_188 (e := (5, .getfield 24, 0)) rfl) rfl g3 rfl ?_
  refine w_load (pc' := 5) (v := .ref 170) (m := 1) (ykc_188 (e := (2, .aload_n kF0, 0)) rfl) rfl rfl ?_
  refine w_gf (pc' := 8) (v := .int (zn C)) (ykc_188 (e := (5, .getfield 27, 0)) rfl) rfl g4 rfl ?_
  have e1607 : (zn R) * (zn C) = zn (R * C) := zn_of (zmulN (by omega) (by omega) (by omega) (by omega))
  have te1607 := znt (k := R * C) (by omega)
  refine w_alu (pc' := 9) (st' := [.int (zn (R * C))]) (ykc_188 (e := (0, .imul, 0)) rfl) (by rw [← e1607]; rfl) rfl ?_
  refine w_ret (v := (some (.int (zn (R * C))))) (ykc_188 (e := (7, .ireturn, 0)) rfl) (zr_v rfl) ?_
  rw [hQ]
  exact ⟨rfl, rfl⟩
theorem zm_valley {ph : pm_H} {ln : Nat} {t : Nat → Nat} {R C P G u ch hn : Nat} {rk : Nat → Bool} {v : Nat → Nat} {w : Nat → Nat → Nat} {kp : Nat → Bool} {kc : Nat → Nat} {sv : Nat → Nat → Nat} (hS : zSh ph) (hn14 : zc ph 170 14 = some (.int (zn ln))) (hn80 : ln ≤ 80) (gtm : ∀ i, i < ln → zc ph 176 i = some (.int (zn (t i))) ∧ t i < 256) (hK : zKM ph R C rk P G v u w ch kp kc sv hn) (hch : ch < 1000) : zM 202 [.ref 170] ph (fun v0 q => ∃ z : Int32, v0 = some (.int z) ∧ z.toInt = zVa ln t ∧ ((zVk ln t ∧ zKM q (zVd ln t 0) (zVd ln t 1) (zVr t) 0 0 (znu v 40 0) 0 w (ch + 1) kp kc sv 0) ∨ (¬ zVk ln t ∧ zKM q R C rk P G v u w ch kp kc sv hn))) := by
  obtain ⟨Q, hQ⟩ : ∃ Q : Option Value → pm_H → Prop, Q = (fun v0 q => ∃ z : Int32, v0 = some (.int z) ∧ z.toInt = zVa ln t ∧ ((zVk ln t ∧ zKM q (zVd ln t 0) (zVd ln t 1) (zVr t) 0 0 (znu v 40 0) 0 w (ch + 1) kp kc sv 0) ∨ (¬ zVk ln t ∧ zKM q R C rk P G v u w ch kp kc sv hn))) := ⟨_, rfl⟩
  rw [← hQ]
  refine zM_mk fun n D => ?_
  show zW n D 202 Q 0 [some (.ref 170), none, none, none, none, none] [] ph
  have c_0 : ((Int8.ofInt 40).toInt32).toInt = 40 := by decide
  have c_1 : ((Int8.ofInt 7).toInt32).toInt = 7 := by decide
  have c_2 : ((Int8.ofInt 80).toInt32).toInt = 80 := by decide
  have c_3 : (Int32.ofInt (-1)).toInt = -1 := by decide
  have c_4 : (Int32.ofInt 0).toInt = 0 := by decide
  have c_5 : (Int32.ofInt 1).toInt = 1 := by decide
  have c_6 : (Int32.ofInt 3).toInt = 3 := by decide
  obtain ⟨hL, hN, hv, hU, hk, hh⟩ := hK
  have tln := znt (k := ln) (by omega)
  have tch := znt (k := ch) (by omega)
  refine w_load (pc' := 1) (v := .ref 170) (m := 1) (ykc_202 (e := (2, .aload_n kF0, 0)) rfl) rfl rfl ?_
  refine w_alu (pc' := 2) (st' := [.int (Int32.ofInt 0), .ref 170]) (ykc_202 (e := (0, .iconst 0, 0)) rfl) rfl rfl ?_
  refine w_pf (pc' := 5) (ykc_202 (e := (5, .putfield 3, 0)) rfl) rfl rfl (fun ph1609 u1608 => ?_)
  refine w_load (pc' := 6) (v := .ref 170) (m := 1) (ykc_202 (e := (2, .aload_n kF0, 0)) rfl) rfl rfl ?_
  refine w_push (pc' := 8) (v := .int ((Int8.ofInt 80).toInt32)) (m := 2) (ykc_202 (e := (1, .bipush 80, 0)) rfl) rfl rfl ?_
  have hS0 := zSh_st u1608 (by decide +kernel) hS
  refine w_cv (as := [.ref 170, .int ((Int8.ofInt 80).toInt32)]) (r := []) (ykc_202 (e := (6, .invokevirtual 175, 0)) rfl) rfl rfl rfl rfl (zm_begins (ln := ln) (c := 80) (t := t) hS0 ((u1608.2.1 170 14 (fun q => absurd q.2 (by decide))).trans hn14) hn80 (fun i hi => ⟨(u1608.2.1 176 i (fun q => absurd q.1 (by decide))).trans (gtm i hi).1, (gtm i hi).2⟩) (by omega) (by omega)) (fun v1610 ph1611 hv => ?_)
  obtain ⟨rfl, fb, g14, hT⟩ := hv
  rw [show min ln 80 = ln by omega] at hT
  have f1 : zFr [] [(170, 0), (170, 14), (170, 15), (170, 16), (170, 17)] ph ph1611 := zFr_trans (zFr_st u1608 (Or.inr (by simp))) (zFr_mono fb (by simp) (by simp))
  have hS1 := zSh_F f1 (by decide +kernel) hS
  show zW n D 202 Q 11 [some (.ref 170), none, none, none, none, none] [.int (zn ln)] ph1611
  refine w_alu (pc' := 12) (st' := []) (ykc_202 (e := (0, .pop, 0)) rfl) rfl rfl ?_
  refine w_load (pc' := 13) (v := .ref 170) (m := 1) (ykc_202 (e := (2, .aload_n kF0, 0)) rfl) rfl rfl ?_
  refine w_alu (pc' := 14) (st' := [.int (Int32.ofInt 3), .ref 170]) (ykc_202 (e := (0, .iconst 3, 0)) rfl) rfl rfl ?_
  refine w_push (pc' := 16) (v := .int ((Int8.ofInt 7).toInt32)) (m := 2) (ykc_202 (e := (1, .bipush 7, 0)) rfl) rfl rfl ?_
  refine w_cv (as := [.ref 170, .int (Int32.ofInt 3), .int ((Int8.ofInt 7).toInt32)]) (r := []) (ykc_202 (e := (6, .invokevirtual 179, 0)) rfl) rfl rfl rfl rfl (zm_digitIn hS1 hT (l := 3) (h := 7) (by omega) (by omega)) (fun v1612 ph1613 hv => ?_)
  rcases hv with ⟨fd0, ⟨hc0, rfl, hfd0⟩ | ⟨hc0, rfl, hfd0⟩⟩
  · have e0 : zVd ln t 0 = t 0 - 48 := if_pos (by omega)
    have b0 := @zVd_b ln 0 t
    rw [← e0]
    have tv0 := znt (k := zVd ln t 0) (by omega)
    have z0 : zVd ln t 0 ≠ 0 := by omega
    show zW n D 202 Q 19 [some (.ref 170), none, none, none, none, none] [.int (zn (zVd ln t 0))] ph1613
    refine w_store (pc' := 20) (L' := [some (.ref 170), some (.int (zn (zVd ln t 0))), none, none, none, none]) (st' := []) (m := 1) (ykc_202 (e := (3, .istore_n kF1, 0)) rfl) rfl rfl ?_
    refine w_load (pc' := 21) (v := .int (zn (zVd ln t 0))) (m := 1) (ykc_202 (e := (2, .iload_n kF1, 0)) rfl) rfl rfl ?_
    refine w_zge (ykc_202 (e := (4, .ifCond .ge 7, 28)) rfl) rfl (fun b1614 => ?_) (fun q => by exfalso; omega)
    refine w_load (pc' := 29) (v := .ref 170) (m := 1) (ykc_202 (e := (2, .aload_n kF0, 0)) rfl) rfl rfl ?_
    refine w_alu (pc' := 30) (st' := [.int (Int32.ofInt 3), .ref 170]) (ykc_202 (e := (0, .iconst 3, 0)) rfl) rfl rfl ?_
    refine w_push (pc' := 32) (v := .int ((Int8.ofInt 7).toInt32)) (m := 2) (ykc_202 (e := (1, .bipush 7, 0)) rfl) rfl rfl ?_
    refine w_cv (as := [.ref 170, .int (Int32.ofInt 3), .int ((Int8.ofInt 7).toInt32)]) (r := []) (ykc_202 (e := (6, .invokevirtual 179, 0)) rfl) rfl rfl rfl rfl (zm_digitIn (zF15_S fd0 hS1) hfd0 (l := 3) (h := 7) (by omega) (by omega)) (fun v1615 ph1616 hv => ?_)
    rcases hv with ⟨fd1, ⟨hc1, rfl, hfd1⟩ | ⟨hc1, rfl, hfd1⟩⟩
    · have e1 : zVd ln t 1 = t (0 + 1) - 48 := if_pos (by omega)
      have b1 := @zVd_b ln 1 t
      rw [← e1]
      have tv1 := znt (k := zVd ln t 1) (by omega)
      have z1 : zVd ln t 1 ≠ 0 := by omega
      have f2 : zFr [] [(170, 0), (170, 14), (170, 15), (170, 16), (170, 17)] ph ph1616 := zFr_trans f1 (zFr_trans (zFr_mono fd0 (by simp) (by simp)) (zFr_mono fd1 (by simp) (by simp)))
      have hN49 : zVd ln t 0 * zVd ln t 1 ≤ 49 := @zVN_b ln t
      show zW n D 202 Q 35 [some (.ref 170), some (.int (zn (zVd ln t 0))), none, none, none, none] [.int (zn (zVd ln t 1))] ph1616
      refine w_store (pc' := 36) (L' := [some (.ref 170), some (.int (zn (zVd ln t 0))), some (.int (zn (zVd ln t 1))), none, none, none]) (st' := []) (m := 1) (ykc_202 (e := (3, .istore_n kF2, 0)) rfl) rfl rfl ?_
      refine w_load (pc' := 37) (v := .int (zn (zVd ln t 1))) (m := 1) (ykc_202 (e := (2, .iload_n kF2, 0)) rfl) rfl rfl ?_
      refine w_zle (ykc_202 (e := (4, .ifCond .le 7, 44)) rfl) rfl (fun q => by exfalso; omega) (fun b1617 => ?_)
      refine w_alu (pc' := 41) (st' := [.int (Int32.ofInt 1)]) (ykc_202 (e := (0, .iconst 1, 0)) rfl) rfl rfl ?_
      refine w_br (pc' := 45) (st' := [.int (Int32.ofInt 1)]) (ykc_202 (e := (4, .goto 4, 45)) rfl) rfl ?_
      refine w_store (pc' := 46) (L' := [some (.ref 170), some (.int (zn (zVd ln t 0))), some (.int (zn (zVd ln t 1))), some (.int (Int32.ofInt 1)), none, none]) (st' := []) (m := 1) (ykc_202 (e := (3, .istore_n kF3, 0)) rfl) rfl rfl ?_
      refine w_alu (pc' := 47) (st' := [.int (Int32.ofInt 0)]) (ykc_202 (e := (0, .iconst 0, 0)) rfl) rfl rfl ?_
      refine w_store (pc' := 49) (L' := [some (.ref 170), some (.int (zn (zVd ln t 0))), some (.int (zn (zVd ln t 1))), some (.int (Int32.ofInt 1)), some (.int (Int32.ofInt 0)), none]) (st' := []) (m := 2) (ykc_202 (e := (3, .istore 4, 0)) rfl) rfl rfl ?_
      have hl : ∀ (n : Nat), ∀ (f : Nat) (x5 : Option Value) (ph1 : pm_H), (f ≤ zVd ln t 0 * zVd ln t 1) → (∀ i, i < f → zVs ln t (2 + i) = true) → (zFr [177] [(170, 0), (170, 14), (170, 15), (170, 16), (170, 17)] ph ph1) → (zTm ph1 (2 + f) ln ln t) → (∀ i, i < f → zc ph1 177 i = some (.int (zI (zVr t i)))) → zW n D 202 Q 49 [some (.ref 170), some (.int (zn (zVd ln t 0))), some (.int (zn (zVd ln t 1))), some (.int (Int32.ofInt 1)), some (.int (zn f)), x5] [] ph1 := by
        intro n
        induction n using Nat.strongRecOn with
        | ind n ih =>
          intro f x5 ph1 hf hg hfr hT hrr
          have tf := znt (k := f) (by omega)
          have hab := hT.2.2.1
          have tat := znt (k := 2 + f) (by omega)
          have hS1 := zSh_F hfr (by decide +kernel) hS
          have ls0 : zls [46, 35] 0 = 46 := rfl
          have ls1 : zls [46, 35] 1 = 35 := rfl
          refine w_load (pc' := 50) (v := .int (Int32.ofInt 1)) (m := 1) (ykc_202 (e := (2, .iload_n kF3, 0)) rfl) rfl rfl ?_
          refine w_zeq (ykc_202 (e := (4, .ifCond .eq 54, 104)) rfl) rfl (fun q => by exfalso; omega) (fun b1618 => ?_)
          refine w_load (pc' := 55) (v := .int (zn f)) (m := 2) (ykc_202 (e := (2, .iload 4, 0)) rfl) rfl rfl ?_
          refine w_load (pc' := 56) (v := .int (zn (zVd ln t 0))) (m := 1) (ykc_202 (e := (2, .iload_n kF1, 0)) rfl) rfl rfl ?_
          refine w_load (pc' := 57) (v := .int (zn (zVd ln t 1))) (m := 1) (ykc_202 (e := (2, .iload_n kF2, 0)) rfl) rfl rfl ?_
          have e1619 : (zn (zVd ln t 0)) * (zn (zVd ln t 1)) = zn (zVd ln t 0 * zVd ln t 1) := zn_of (zmulN (by omega) (by omega) (by omega) (by omega))
          have te1619 := znt (k := zVd ln t 0 * zVd ln t 1) (by omega)
          refine w_alu (pc' := 58) (st' := [.int (zn (zVd ln t 0 * zVd ln t 1)), .int (zn f)]) (ykc_202 (e := (0, .imul, 0)) rfl) (by rw [← e1619]; rfl) rfl ?_
          refine w_ige (ykc_202 (e := (4, .if_icmp .ge 46, 104)) rfl) rfl (fun b1620 => ?_) (fun b1620 => ?_)
          · have eN : f = zVd ln t 0 * zVd ln t 1 := by omega
            refine w_load (pc' := 105) (v := .int (Int32.ofInt 1)) (m := 1) (ykc_202 (e := (2, .iload_n kF3, 0)) rfl) rfl rfl ?_
            refine w_zeq (ykc_202 (e := (4, .ifCond .eq 14, 119)) rfl) rfl (fun q => by exfalso; omega) (fun b1621 => ?_)
            refine w_load (pc' := 109) (v := .ref 170) (m := 1) (ykc_202 (e := (2, .aload_n kF0, 0)) rfl) rfl rfl ?_
            refine w_gf (pc' := 112) (v := .int (zn (2 + f))) (ykc_202 (e := (5, .getfield 139, 0)) rfl) rfl hT.1 rfl ?_
            refine w_load (pc' := 113) (v := .ref 170) (m := 1) (ykc_202 (e := (2, .aload_n kF0, 0)) rfl) rfl rfl ?_
            refine w_gf (pc' := 116) (v := .int (zn ln)) (ykc_202 (e := (5, .getfield 151, 0)) rfl) rfl hT.2.1 rfl ?_
            refine w_ige (ykc_202 (e := (4, .if_icmp .ge 10, 126)) rfl) rfl (fun b1622 => ?_) (fun b1622 => ?_)
            · refine w_load (pc' := 127) (v := .ref 170) (m := 1) (ykc_202 (e := (2, .aload_n kF0, 0)) rfl) rfl rfl ?_
              refine w_load (pc' := 128) (v := .int (zn (zVd ln t 0))) (m := 1) (ykc_202 (e := (2, .iload_n kF1, 0)) rfl) rfl rfl ?_
              refine w_pf (pc' := 131) (ykc_202 (e := (5, .putfield 24, 0)) rfl) rfl rfl (fun ph1624 u1623 => ?_)
              refine w_load (pc' := 132) (v := .ref 170) (m := 1) (ykc_202 (e := (2, .aload_n kF0, 0)) rfl) rfl rfl ?_
              refine w_load (pc' := 133) (v := .int (zn (zVd ln t 1))) (m := 1) (ykc_202 (e := (2, .iload_n kF2, 0)) rfl) rfl rfl ?_
              refine w_pf (pc' := 136) (ykc_202 (e := (5, .putfield 27, 0)) rfl) rfl rfl (fun ph1626 u1625 => ?_)
              refine w_alu (pc' := 137) (st' := [.int (Int32.ofInt 0)]) (ykc_202 (e := (0, .iconst 0, 0)) rfl) rfl rfl ?_
              refine w_store (pc' := 139) (L' := [some (.ref 170), some (.int (zn (zVd ln t 0))), some (.int (zn (zVd ln t 1))), some (.int (Int32.ofInt 1)), some (.int (Int32.ofInt 0)), x5]) (st' := []) (m := 2) (ykc_202 (e := (3, .istore 4, 0)) rfl) rfl rfl ?_
              have h8 := zVa_4 z0 z1 (by rw [show zVN ln t = f by unfold zVN; omega]; exact hg) (show ¬ 2 + zVN ln t < ln by unfold zVN; omega)
              have hl2 : ∀ (n : Nat), ∀ (g : Nat) (x5 : Option Value) (ph2 : pm_H), (g ≤ zVd ln t 0 * zVd ln t 1) → (zFr [172, 177] [(170, 0), (170, 3), (170, 4), (170, 14), (170, 15), (170, 16), (170, 17)] ph ph2) → (zc ph2 170 3 = some (.int (zn (zVd ln t 0)))) → (zc ph2 170 4 = some (.int (zn (zVd ln t 1)))) → (∀ i, i < zVd ln t 0 * zVd ln t 1 → zc ph2 177 i = some (.int (zI (zVr t i)))) → (∀ i, i < g → zc ph2 172 i = some (.int (zI (zVr t i)))) → zW n D 202 Q 139 [some (.ref 170), some (.int (zn (zVd ln t 0))), some (.int (zn (zVd ln t 1))), some (.int (Int32.ofInt 1)), some (.int (zn g)), x5] [] ph2 := by
                intro n
                induction n using Nat.strongRecOn with
                | ind n ih =>
                  intro g x5 ph2 hgN hf3 k3 k4 hr7 hr2
                  have tg := znt (k := g) (by omega)
                  have hS2 := zSh_F hf3 (by decide +kernel) hS
                  have tN := znt (k := zVd ln t 0 * zVd ln t 1) (by omega)
                  refine w_load (pc' := 141) (v := .int (zn g)) (m := 2) (ykc_202 (e := (2, .iload 4, 0)) rfl) rfl rfl ?_
                  refine w_load (pc' := 142) (v := .ref 170) (m := 1) (ykc_202 (e := (2, .aload_n kF0, 0)) rfl) rfl rfl ?_
                  refine w_cv (as := [.ref 170]) (r := [.int (zn g)]) (ykc_202 (e := (6, .invokevirtual 122, 0)) rfl) rfl rfl rfl rfl (zm_fields2 (R := zVd ln t 0) (C := zVd ln t 1) k3 k4 (by omega) (by omega)) (fun v1627 ph1628 hv => ?_)
                  obtain ⟨rfl, rfl⟩ := hv
                  show zW n D 202 Q 145 [some (.ref 170), some (.int (zn (zVd ln t 0))), some (.int (zn (zVd ln t 1))), some (.int (Int32.ofInt 1)), some (.int (zn g)), x5] [.int (zn (zVd ln t 0 * zVd ln t 1)), .int (zn g)] ph2
                  refine w_ige (ykc_202 (e := (4, .if_icmp .ge 23, 168)) rfl) rfl (fun b1629 => ?_) (fun b1629 => ?_)
                  · refine w_load (pc' := 169) (v := .ref 170) (m := 1) (ykc_202 (e := (2, .aload_n kF0, 0)) rfl) rfl rfl ?_
                    refine w_alu (pc' := 170) (st' := [.int (Int32.ofInt 0), .ref 170]) (ykc_202 (e := (0, .iconst 0, 0)) rfl) rfl rfl ?_
                    refine w_pf (pc' := 173) (ykc_202 (e := (5, .putfield 130, 0)) rfl) rfl rfl (fun ph1631 u1630 => ?_)
                    refine w_load (pc' := 174) (v := .ref 170) (m := 1) (ykc_202 (e := (2, .aload_n kF0, 0)) rfl) rfl rfl ?_
                    refine w_alu (pc' := 175) (st' := [.int (Int32.ofInt 0), .ref 170]) (ykc_202 (e := (0, .iconst 0, 0)) rfl) rfl rfl ?_
                    refine w_pf (pc' := 178) (ykc_202 (e := (5, .putfield 133, 0)) rfl) rfl rfl (fun ph1633 u1632 => ?_)
                    refine w_load (pc' := 179) (v := .ref 170) (m := 1) (ykc_202 (e := (2, .aload_n kF0, 0)) rfl) rfl rfl ?_
                    refine w_gf (pc' := 182) (v := .ref 174) (ykc_202 (e := (5, .getfield 41, 0)) rfl) rfl ((u1632.2.1 170 11 (fun q => absurd q.2 (by decide))).trans ((u1630.2.1 170 11 (fun q => absurd q.2 (by decide))).trans ((hf3.1 170 11 (by decide) (by decide)).trans (zsg hS zs_170_11)))) rfl ?_
                    refine w_push (pc' := 184) (v := .int ((Int8.ofInt 40).toInt32)) (m := 2) (ykc_202 (e := (1, .bipush 40, 0)) rfl) rfl rfl ?_
                    refine w_alu (pc' := 185) (st' := [.int (Int32.ofInt 0), .int ((Int8.ofInt 40).toInt32), .ref 174]) (ykc_202 (e := (0, .iconst 0, 0)) rfl) rfl rfl ?_
                    refine w_ias (pc' := 186) (k := 40) (ykc_202 (e := (5, .iastore, 0)) rfl) (by omega) rfl (fun ph1635 u1634 => ?_)
                    refine w_load (pc' := 187) (v := .ref 170) (m := 1) (ykc_202 (e := (2, .aload_n kF0, 0)) rfl) rfl rfl ?_
                    refine w_alu (pc' := 188) (st' := [.int (Int32.ofInt 0), .ref 170]) (ykc_202 (e := (0, .iconst 0, 0)) rfl) rfl rfl ?_
                    refine w_pf (pc' := 191) (ykc_202 (e := (5, .putfield 188, 0)) rfl) rfl rfl (fun ph1637 u1636 => ?_)
                    refine w_load (pc' := 192) (v := .ref 170) (m := 1) (ykc_202 (e := (2, .aload_n kF0, 0)) rfl) rfl rfl ?_
                    refine w_alu (pc' := 193) (st' := [.ref 170, .ref 170]) (ykc_202 (e := (0, .dup, 0)) rfl) rfl rfl ?_
                    refine w_gf (pc' := 196) (v := .int (zn ch)) (ykc_202 (e := (5, .getfield 191, 0)) rfl) rfl ((u1636.2.1 170 7 (fun q => absurd q.2 (by decide))).trans ((u1634.2.1 170 7 (fun q => absurd q.1 (by decide))).trans ((u1632.2.1 170 7 (fun q => absurd q.2 (by decide))).trans ((u1630.2.1 170 7 (fun q => absurd q.2 (by decide))).trans ((hf3.1 170 7 (by decide) (by decide)).trans hk.1))))) rfl ?_
                    refine w_alu (pc' := 197) (st' := [.int (Int32.ofInt 1), .int (zn ch), .ref 170]) (ykc_202 (e := (0, .iconst 1, 0)) rfl) rfl rfl ?_
                    have e1638 : (zn ch) + (Int32.ofInt 1) = zn (ch + 1) := (zaddN (a := ch) (b := 1) (znt (by omega)) c_5 (by omega)) 
                    have te1638 := znt (k := ch + 1) (by omega)
                    refine w_alu (pc' := 198) (st' := [.int (zn (ch + 1)), .ref 170]) (ykc_202 (e := (0, .iadd, 0)) rfl) (by rw [← e1638]; rfl) rfl ?_
                    refine w_pf (pc' := 201) (ykc_202 (e := (5, .putfield 191, 0)) rfl) rfl rfl (fun ph1640 u1639 => ?_)
                    refine w_load (pc' := 202) (v := .ref 170) (m := 1) (ykc_202 (e := (2, .aload_n kF0, 0)) rfl) rfl rfl ?_
                    refine w_alu (pc' := 203) (st' := [.int (Int32.ofInt 0), .ref 170]) (ykc_202 (e := (0, .iconst 0, 0)) rfl) rfl rfl ?_
                    refine w_pf (pc' := 206) (ykc_202 (e := (5, .putfield 194, 0)) rfl) rfl rfl (fun ph1642 u1641 => ?_)
                    refine w_load (pc' := 207) (v := .ref 170) (m := 1) (ykc_202 (e := (2, .aload_n kF0, 0)) rfl) rfl rfl ?_
                    refine w_cv (as := [.ref 170]) (r := []) (ykc_202 (e := (6, .invokevirtual 122, 0)) rfl) rfl rfl rfl rfl (zm_fields2 (R := zVd ln t 0) (C := zVd ln t 1) ((u1641.2.1 170 3 (fun q => absurd q.2 (by decide))).trans ((u1639.2.1 170 3 (fun q => absurd q.2 (by decide))).trans ((u1636.2.1 170 3 (fun q => absurd q.2 (by decide))).trans ((u1634.2.1 170 3 (fun q => absurd q.1 (by decide))).trans ((u1632.2.1 170 3 (fun q => absurd q.2 (by decide))).trans ((u1630.2.1 170 3 (fun q => absurd q.2 (by decide))).trans k3)))))) ((u1641.2.1 170 4 (fun q => absurd q.2 (by decide))).trans ((u1639.2.1 170 4 (fun q => absurd q.2 (by decide))).trans ((u1636.2.1 170 4 (fun q => absurd q.2 (by decide))).trans ((u1634.2.1 170 4 (fun q => absurd q.1 (by decide))).trans ((u1632.2.1 170 4 (fun q => absurd q.2 (by decide))).trans ((u1630.2.1 170 4 (fun q => absurd q.2 (by decide))).trans k4)))))) (by omega) (by omega)) (fun v1643 ph1644 hv => ?_)
                    obtain ⟨rfl, rfl⟩ := hv
                    show zW n D 202 Q 210 [some (.ref 170), some (.int (zn (zVd ln t 0))), some (.int (zn (zVd ln t 1))), some (.int (Int32.ofInt 1)), some (.int (zn g)), x5] [.int (zn (zVd ln t 0 * zVd ln t 1))] ph1642
                    refine w_ret (v := (some (.int (zn (zVd ln t 0 * zVd ln t 1))))) (ykc_202 (e := (7, .ireturn, 0)) rfl) (zr_v rfl) ?_
                    have eg : g = zVd ln t 0 * zVd ln t 1 := by omega
                    have f9 : zFr [172, 177] [(170, 0), (170, 3), (170, 4), (170, 5), (170, 6), (170, 7), (170, 14), (170, 15), (170, 16), (170, 17), (170, 27), (170, 39), (174, 40)] ph ph1642 := (zFr_add (zFr_add (zFr_add (zFr_add (zFr_add (zFr_add (zFr_mono hf3 (by simp) (by simp)) u1630 (Or.inr (by simp))) u1632 (Or.inr (by simp))) u1634 (Or.inr (by simp))) u1636 (Or.inr (by simp))) u1639 (Or.inr (by simp))) u1641 (Or.inr (by simp)))
                    have h40 : zc ph1642 174 40 = some (.int (zn 0)) := ((u1641.2.1 174 40 (fun q => absurd q.1 (by decide))).trans ((u1639.2.1 174 40 (fun q => absurd q.1 (by decide))).trans ((u1636.2.1 174 40 (fun q => absurd q.1 (by decide))).trans u1634.1)))
                    rw [hQ]
                    refine ⟨_, rfl, by rw [h8.1]; unfold zVN; exact znt (by omega), Or.inl ⟨h8.2, ⟨((u1641.2.1 170 3 (fun q => absurd q.2 (by decide))).trans ((u1639.2.1 170 3 (fun q => absurd q.2 (by decide))).trans ((u1636.2.1 170 3 (fun q => absurd q.2 (by decide))).trans ((u1634.2.1 170 3 (fun q => absurd q.1 (by decide))).trans ((u1632.2.1 170 3 (fun q => absurd q.2 (by decide))).trans ((u1630.2.1 170 3 (fun q => absurd q.2 (by decide))).trans k3)))))), ((u1641.2.1 170 4 (fun q => absurd q.2 (by decide))).trans ((u1639.2.1 170 4 (fun q => absurd q.2 (by decide))).trans ((u1636.2.1 170 4 (fun q => absurd q.2 (by decide))).trans ((u1634.2.1 170 4 (fun q => absurd q.1 (by decide))).trans ((u1632.2.1 170 4 (fun q => absurd q.2 (by decide))).trans ((u1630.2.1 170 4 (fun q => absurd q.2 (by decide))).trans k4)))))), fun i hi => ((u1641.2.1 172 i (fun q => absurd q.1 (by decide))).trans ((u1639.2.1 172 i (fun q => absurd q.1 (by decide))).trans ((u1636.2.1 172 i (fun q => absurd q.1 (by decide))).trans ((u1634.2.1 172 i (fun q => absurd q.1 (by decide))).trans ((u1632.2.1 172 i (fun q => absurd q.1 (by decide))).trans ((u1630.2.1 172 i (fun q => absurd q.1 (by decide))).trans (hr2 i (by omega)))))))), by omega, by omega, by omega, by omega⟩, ⟨((u1641.2.1 170 5 (fun q => absurd q.2 (by decide))).trans ((u1639.2.1 170 5 (fun q => absurd q.2 (by decide))).trans ((u1636.2.1 170 5 (fun q => absurd q.2 (by decide))).trans ((u1634.2.1 170 5 (fun q => absurd q.1 (by decide))).trans ((u1632.2.1 170 5 (fun q => absurd q.2 (by decide))).trans u1630.1))))), by decide, ((u1641.2.1 170 6 (fun q => absurd q.2 (by decide))).trans ((u1639.2.1 170 6 (fun q => absurd q.2 (by decide))).trans ((u1636.2.1 170 6 (fun q => absurd q.2 (by decide))).trans ((u1634.2.1 170 6 (fun q => absurd q.1 (by decide))).trans u1632.1)))), by decide⟩, fun i hi => ?_, ⟨((u1641.2.1 170 27 (fun q => absurd q.2 (by decide))).trans ((u1639.2.1 170 27 (fun q => absurd q.2 (by decide))).trans u1636.1)), by decide, fun i hi => absurd hi (Nat.not_lt_zero i)⟩, ⟨((u1641.2.1 170 7 (fun q => absurd q.2 (by decide))).trans u1639.1), by omega, fun i hi => ?_⟩, u1641.1, by decide⟩⟩
                    · rw [Nat.zero_add]
                      unfold znu
                      by_cases e : i = 40
                      · subst e; rw [if_pos rfl]; exact h40
                      · rw [if_neg e]
                        exact (f9.1 174 i (by decide) (by simp <;> omega)).trans (zNr0 hv hi)
                    · obtain ⟨k1, k2, k3, k4⟩ := hk.2.2 i hi
                      exact ⟨(f9.1 198 i (by decide) (by simp)).trans k1, (f9.1 199 i (by decide) (by simp)).trans k2, by omega, fun h => zNr_F f9 (by simp) (by simp) (k4 h)⟩
                  · refine w_load (pc' := 149) (v := .ref 170) (m := 1) (ykc_202 (e := (2, .aload_n kF0, 0)) rfl) rfl rfl ?_
                    refine w_gf (pc' := 152) (v := .ref 172) (ykc_202 (e := (5, .getfield 33, 0)) rfl) rfl ((hf3.1 170 9 (by decide) (by decide)).trans (zsg hS zs_170_9)) rfl ?_
                    refine w_load (pc' := 154) (v := .int (zn g)) (m := 2) (ykc_202 (e := (2, .iload 4, 0)) rfl) rfl rfl ?_
                    refine w_load (pc' := 155) (v := .ref 170) (m := 1) (ykc_202 (e := (2, .aload_n kF0, 0)) rfl) rfl rfl ?_
                    refine w_gf (pc' := 158) (v := .ref 177) (ykc_202 (e := (5, .getfield 50, 0)) rfl) rfl ((hf3.1 170 18 (by decide) (by decide)).trans (zsg hS zs_170_18)) rfl ?_
                    refine w_load (pc' := 160) (v := .int (zn g)) (m := 2) (ykc_202 (e := (2, .iload 4, 0)) rfl) rfl rfl ?_
                    refine w_balk (pc' := 161) (k := g) (ykc_202 (e := (5, .baload, 0)) rfl) (hr7 g (by omega)) (by omega) rfl ?_
                    refine w_bas (pc' := 162) (k := g) (ykc_202 (e := (5, .bastore, 0)) rfl) (by omega) rfl (fun ph1646 u1645 => ?_)
                    have h1647 := u1645.1
                    rw [zI_and] at h1647
                    have e1648 : (zn g) + Int32.ofInt 1 = zn (g + 1) := (zaddN (a := g) (b := 1) (znt (by omega)) c_5 (by omega))
                    have te1648 := znt (k := g + 1) (by omega)
                    refine w_store (pc' := 165) (L' := [some (.ref 170), some (.int (zn (zVd ln t 0))), some (.int (zn (zVd ln t 1))), some (.int (Int32.ofInt 1)), some (.int (zn (g + 1))), x5]) (st' := []) (m := 3) (ykc_202 (e := (3, .iinc 4 1, 0)) rfl) (by rw [← e1648]; rfl) rfl ?_
                    refine w_gb (ykc_202 (e := (4, .goto (-26), 139)) rfl) (fun k1649 hk1649 => ?_)
                    exact ih k1649 hk1649 (g + 1) _ _ (by omega) (zFr_add hf3 u1645 (Or.inl (by simp))) ((u1645.2.1 170 3 (fun q => absurd q.1 (by decide))).trans k3) ((u1645.2.1 170 4 (fun q => absurd q.1 (by decide))).trans k4) (fun i hi => (u1645.2.1 177 i (fun q => absurd q.1 (by decide))).trans (hr7 i hi)) (fun i hi => by
                      by_cases e : i = g
                      · subst e; exact h1647
                      · exact (u1645.2.1 172 i (fun q => e q.2)).trans (hr2 i (by omega)))
              exact hl2 n 0 _ ph1626 (Nat.zero_le _) (zFr_trans (zFr_mono hfr (by simp) (by simp)) (zFr_trans (zFr_st u1623 (Or.inr (by simp))) (zFr_st u1625 (Or.inr (by simp))))) ((u1625.2.1 170 3 (fun q => absurd q.2 (by decide))).trans u1623.1) u1625.1 (fun i hi => (u1625.2.1 177 i (fun q => absurd q.1 (by decide))).trans ((u1623.2.1 177 i (fun q => absurd q.1 (by decide))).trans (hrr i (by omega)))) (fun i hi => absurd hi (Nat.not_lt_zero i))
              
            · refine w_alu (pc' := 120) (st' := [.int (Int32.ofInt (-1))]) (ykc_202 (e := (0, .iconst (-1), 0)) rfl) rfl rfl ?_
              refine w_load (pc' := 121) (v := .ref 170) (m := 1) (ykc_202 (e := (2, .aload_n kF0, 0)) rfl) rfl rfl ?_
              refine w_gf (pc' := 124) (v := .int (zn (2 + f))) (ykc_202 (e := (5, .getfield 139, 0)) rfl) rfl hT.1 rfl ?_
              obtain ⟨z1650, e_z1650, h_z1650⟩ : ∃ zq : Int32, (Int32.ofInt (-1)) - (zn (2 + f)) = zq ∧ zq.toInt = (-1 : Int) - ((2 + f : Nat) : Int) := ⟨_, rfl, zm1sub (by omega) (by omega) (by omega)⟩
              refine w_alu (pc' := 125) (st' := [.int z1650]) (ykc_202 (e := (0, .isub, 0)) rfl) (by rw [← e_z1650]; rfl) rfl ?_
              refine w_ret (v := (some (.int z1650))) (ykc_202 (e := (7, .ireturn, 0)) rfl) (zr_v rfl) ?_
              have h8 := zVa_3 z0 z1 (by rw [show zVN ln t = f by unfold zVN; omega]; exact hg) (show 2 + zVN ln t < ln by unfold zVN; omega)
              rw [hQ]
              exact ⟨_, rfl, by rw [h8.1]; unfold zVN; omega, Or.inr ⟨h8.2, zMl_F hfr (by simp) (by simp) (by simp) (by simp) hL, zMp_F hfr (by simp) (by simp) (by simp) hN, zNr_F hfr (by simp) (by simp) hv, zMu_F hfr (by simp) (by simp) (by simp) hU, zMk_F hfr (by simp) (by simp) (by simp) hk, zMh_F hfr (by simp) (by simp) hh⟩⟩
            
          · refine w_load (pc' := 62) (v := .ref 170) (m := 1) (ykc_202 (e := (2, .aload_n kF0, 0)) rfl) rfl rfl ?_
            refine w_push (pc' := 64) (v := .ref 1048627) (m := 2) (ykc_202 (e := (1, .ldc 182, 0)) rfl) rfl rfl ?_
            refine w_cv (as := [.ref 170, .ref 1048627]) (r := []) (ykc_202 (e := (6, .invokevirtual 184, 0)) rfl) rfl rfl rfl rfl (zm_takesOf hS1 hT zstr_dot) (fun v1651 ph1652 hv => ?_)
            rcases hv with ⟨ft, ⟨k9, hk9, ha9, hc9, rfl, hft⟩ | ⟨hn9, rfl, hft⟩⟩
            · have tk9 := znt (k := k9) (by omega)
              have hor : (k9 = 0 ∧ t (2 + f) = 46) ∨ (k9 = 1 ∧ t (2 + f) = 35) := by
                rcases (show k9 = 0 ∨ k9 = 1 by omega) with e | e
                · subst e; exact Or.inl ⟨rfl, hc9⟩
                · subst e; exact Or.inr ⟨rfl, hc9⟩
              have hgood : 2 + f < ln ∧ (t (2 + f) = 46 ∨ t (2 + f) = 35) := by omega
              show zW n D 202 Q 67 [some (.ref 170), some (.int (zn (zVd ln t 0))), some (.int (zn (zVd ln t 1))), some (.int (Int32.ofInt 1)), some (.int (zn f)), x5] [.int (zn k9)] ph1652
              refine w_store (pc' := 69) (L' := [some (.ref 170), some (.int (zn (zVd ln t 0))), some (.int (zn (zVd ln t 1))), some (.int (Int32.ofInt 1)), some (.int (zn f)), some (.int (zn k9))]) (st' := []) (m := 2) (ykc_202 (e := (3, .istore 5, 0)) rfl) rfl rfl ?_
              refine w_load (pc' := 70) (v := .ref 170) (m := 1) (ykc_202 (e := (2, .aload_n kF0, 0)) rfl) rfl rfl ?_
              refine w_gf (pc' := 73) (v := .ref 177) (ykc_202 (e := (5, .getfield 50, 0)) rfl) rfl ((ft.1 170 18 (by decide) (by decide)).trans ((hfr.1 170 18 (by decide) (by decide)).trans (zsg hS zs_170_18))) rfl ?_
              refine w_load (pc' := 75) (v := .int (zn f)) (m := 2) (ykc_202 (e := (2, .iload 4, 0)) rfl) rfl rfl ?_
              refine w_load (pc' := 77) (v := .int (zn k9)) (m := 2) (ykc_202 (e := (2, .iload 5, 0)) rfl) rfl rfl ?_
              refine w_alu (pc' := 78) (st' := [.int (Int32.ofInt 1), .int (zn k9), .int (zn f), .ref 177]) (ykc_202 (e := (0, .iconst 1, 0)) rfl) rfl rfl ?_
              refine w_ine (ykc_202 (e := (4, .if_icmp .ne 7, 85)) rfl) rfl (fun b1653 => ?_) (fun b1653 => ?_)
              · refine w_alu (pc' := 86) (st' := [.int (Int32.ofInt 0), .int (zn f), .ref 177]) (ykc_202 (e := (0, .iconst 0, 0)) rfl) rfl rfl ?_
                refine w_bas (pc' := 87) (k := f) (ykc_202 (e := (5, .bastore, 0)) rfl) (by omega) rfl (fun ph1655 u1654 => ?_)
                refine w_load (pc' := 89) (v := .int (zn k9)) (m := 2) (ykc_202 (e := (2, .iload 5, 0)) rfl) rfl rfl ?_
                refine w_zlt (ykc_202 (e := (4, .ifCond .lt 7, 96)) rfl) rfl (fun q => by exfalso; omega) (fun b1656 => ?_)
                refine w_alu (pc' := 93) (st' := [.int (Int32.ofInt 1)]) (ykc_202 (e := (0, .iconst 1, 0)) rfl) rfl rfl ?_
                refine w_br (pc' := 97) (st' := [.int (Int32.ofInt 1)]) (ykc_202 (e := (4, .goto 4, 97)) rfl) rfl ?_
                refine w_store (pc' := 98) (L' := [some (.ref 170), some (.int (zn (zVd ln t 0))), some (.int (zn (zVd ln t 1))), some (.int (Int32.ofInt 1)), some (.int (zn f)), some (.int (zn k9))]) (st' := []) (m := 1) (ykc_202 (e := (3, .istore_n kF3, 0)) rfl) rfl rfl ?_
                have e1657 : (zn f) + Int32.ofInt 1 = zn (f + 1) := (zaddN (a := f) (b := 1) (znt (by omega)) c_5 (by omega))
                have te1657 := znt (k := f + 1) (by omega)
                refine w_store (pc' := 101) (L' := [some (.ref 170), some (.int (zn (zVd ln t 0))), some (.int (zn (zVd ln t 1))), some (.int (Int32.ofInt 1)), some (.int (zn (f + 1))), some (.int (zn k9))]) (st' := []) (m := 3) (ykc_202 (e := (3, .iinc 4 1, 0)) rfl) (by rw [← e1657]; rfl) rfl ?_
                refine w_gb (ykc_202 (e := (4, .goto (-52), 49)) rfl) (fun k1658 hk1658 => ?_)
                have er : zVr t f = false := decide_eq_false (by omega)
                have hx : zc ph1655 177 f = some (.int (zI (zVr t f))) := by rw [er]; exact u1654.1
                exact ih k1658 hk1658 (f + 1) _ _ (by omega) (fun i hi => by
                  by_cases e : i = f
                  · subst e; exact zVs_1 hgood
                  · exact hg i (by omega)) (zFr_trans hfr (zFr_trans (zFr_mono ft (by simp) (by simp)) (zFr_st u1654 (Or.inl (by simp))))) (zTm_F (zFr_st u1654 (Or.inl (by simp)) : zFr [177] [] _ _) (by simp) (by simp) (by simp) hft) (fun i hi => by
                  by_cases e : i = f
                  · subst e; exact hx
                  · exact (u1654.2.1 177 i (fun q => e q.2)).trans ((ft.1 177 i (by simp) (by simp)).trans (hrr i (by omega))))
              · refine w_alu (pc' := 82) (st' := [.int (Int32.ofInt 1), .int (zn f), .ref 177]) (ykc_202 (e := (0, .iconst 1, 0)) rfl) rfl rfl ?_
                refine w_br (pc' := 86) (st' := [.int (Int32.ofInt 1), .int (zn f), .ref 177]) (ykc_202 (e := (4, .goto 4, 86)) rfl) rfl ?_
                refine w_bas (pc' := 87) (k := f) (ykc_202 (e := (5, .bastore, 0)) rfl) (by omega) rfl (fun ph1660 u1659 => ?_)
                refine w_load (pc' := 89) (v := .int (zn k9)) (m := 2) (ykc_202 (e := (2, .iload 5, 0)) rfl) rfl rfl ?_
                refine w_zlt (ykc_202 (e := (4, .ifCond .lt 7, 96)) rfl) rfl (fun q => by exfalso; omega) (fun b1661 => ?_)
                refine w_alu (pc' := 93) (st' := [.int (Int32.ofInt 1)]) (ykc_202 (e := (0, .iconst 1, 0)) rfl) rfl rfl ?_
                refine w_br (pc' := 97) (st' := [.int (Int32.ofInt 1)]) (ykc_202 (e := (4, .goto 4, 97)) rfl) rfl ?_
                refine w_store (pc' := 98) (L' := [some (.ref 170), some (.int (zn (zVd ln t 0))), some (.int (zn (zVd ln t 1))), some (.int (Int32.ofInt 1)), some (.int (zn f)), some (.int (zn k9))]) (st' := []) (m := 1) (ykc_202 (e := (3, .istore_n kF3, 0)) rfl) rfl rfl ?_
                have e1662 : (zn f) + Int32.ofInt 1 = zn (f + 1) := (zaddN (a := f) (b := 1) (znt (by omega)) c_5 (by omega))
                have te1662 := znt (k := f + 1) (by omega)
                refine w_store (pc' := 101) (L' := [some (.ref 170), some (.int (zn (zVd ln t 0))), some (.int (zn (zVd ln t 1))), some (.int (Int32.ofInt 1)), some (.int (zn (f + 1))), some (.int (zn k9))]) (st' := []) (m := 3) (ykc_202 (e := (3, .iinc 4 1, 0)) rfl) (by rw [← e1662]; rfl) rfl ?_
                refine w_gb (ykc_202 (e := (4, .goto (-52), 49)) rfl) (fun k1663 hk1663 => ?_)
                have er : zVr t f = true := decide_eq_true (by omega)
                have hx : zc ph1660 177 f = some (.int (zI (zVr t f))) := by rw [er]; exact u1659.1
                exact ih k1663 hk1663 (f + 1) _ _ (by omega) (fun i hi => by
                  by_cases e : i = f
                  · subst e; exact zVs_1 hgood
                  · exact hg i (by omega)) (zFr_trans hfr (zFr_trans (zFr_mono ft (by simp) (by simp)) (zFr_st u1659 (Or.inl (by simp))))) (zTm_F (zFr_st u1659 (Or.inl (by simp)) : zFr [177] [] _ _) (by simp) (by simp) (by simp) hft) (fun i hi => by
                  by_cases e : i = f
                  · subst e; exact hx
                  · exact (u1659.2.1 177 i (fun q => e q.2)).trans ((ft.1 177 i (by simp) (by simp)).trans (hrr i (by omega))))
            · have hbad : ¬ (2 + f < ln ∧ (t (2 + f) = 46 ∨ t (2 + f) = 35)) := by
                intro h9
                have q0 := hn9 h9.1 0 (by decide)
                have q1 := hn9 h9.1 1 (by decide)
                omega
              have h8 := zVa_2 z0 z1 hg (zVs_0 hbad) (show f < zVN ln t by unfold zVN; omega)
              show zW n D 202 Q 67 [some (.ref 170), some (.int (zn (zVd ln t 0))), some (.int (zn (zVd ln t 1))), some (.int (Int32.ofInt 1)), some (.int (zn f)), x5] [.int (Int32.ofInt (-1))] ph1652
              refine w_store (pc' := 69) (L' := [some (.ref 170), some (.int (zn (zVd ln t 0))), some (.int (zn (zVd ln t 1))), some (.int (Int32.ofInt 1)), some (.int (zn f)), some (.int (Int32.ofInt (-1)))]) (st' := []) (m := 2) (ykc_202 (e := (3, .istore 5, 0)) rfl) rfl rfl ?_
              refine w_load (pc' := 70) (v := .ref 170) (m := 1) (ykc_202 (e := (2, .aload_n kF0, 0)) rfl) rfl rfl ?_
              refine w_gf (pc' := 73) (v := .ref 177) (ykc_202 (e := (5, .getfield 50, 0)) rfl) rfl ((ft.1 170 18 (by decide) (by decide)).trans ((hfr.1 170 18 (by decide) (by decide)).trans (zsg hS zs_170_18))) rfl ?_
              refine w_load (pc' := 75) (v := .int (zn f)) (m := 2) (ykc_202 (e := (2, .iload 4, 0)) rfl) rfl rfl ?_
              refine w_load (pc' := 77) (v := .int (Int32.ofInt (-1))) (m := 2) (ykc_202 (e := (2, .iload 5, 0)) rfl) rfl rfl ?_
              refine w_alu (pc' := 78) (st' := [.int (Int32.ofInt 1), .int (Int32.ofInt (-1)), .int (zn f), .ref 177]) (ykc_202 (e := (0, .iconst 1, 0)) rfl) rfl rfl ?_
              refine w_ine (ykc_202 (e := (4, .if_icmp .ne 7, 85)) rfl) rfl (fun b1664 => ?_) (fun q => by exfalso; omega)
              refine w_alu (pc' := 86) (st' := [.int (Int32.ofInt 0), .int (zn f), .ref 177]) (ykc_202 (e := (0, .iconst 0, 0)) rfl) rfl rfl ?_
              refine w_bas (pc' := 87) (k := f) (ykc_202 (e := (5, .bastore, 0)) rfl) (by omega) rfl (fun ph1666 u1665 => ?_)
              refine w_load (pc' := 89) (v := .int (Int32.ofInt (-1))) (m := 2) (ykc_202 (e := (2, .iload 5, 0)) rfl) rfl rfl ?_
              refine w_zlt (ykc_202 (e := (4, .ifCond .lt 7, 96)) rfl) rfl (fun b1667 => ?_) (fun q => by exfalso; omega)
              refine w_alu (pc' := 97) (st' := [.int (Int32.ofInt 0)]) (ykc_202 (e := (0, .iconst 0, 0)) rfl) rfl rfl ?_
              refine w_store (pc' := 98) (L' := [some (.ref 170), some (.int (zn (zVd ln t 0))), some (.int (zn (zVd ln t 1))), some (.int (Int32.ofInt 0)), some (.int (zn f)), some (.int (Int32.ofInt (-1)))]) (st' := []) (m := 1) (ykc_202 (e := (3, .istore_n kF3, 0)) rfl) rfl rfl ?_
              have e1668 : (zn f) + Int32.ofInt 1 = zn (f + 1) := (zaddN (a := f) (b := 1) (znt (by omega)) c_5 (by omega))
              have te1668 := znt (k := f + 1) (by omega)
              refine w_store (pc' := 101) (L' := [some (.ref 170), some (.int (zn (zVd ln t 0))), some (.int (zn (zVd ln t 1))), some (.int (Int32.ofInt 0)), some (.int (zn (f + 1))), some (.int (Int32.ofInt (-1)))]) (st' := []) (m := 3) (ykc_202 (e := (3, .iinc 4 1, 0)) rfl) (by rw [← e1668]; rfl) rfl ?_
              refine w_gb (ykc_202 (e := (4, .goto (-52), 49)) rfl) (fun k1669 hk1669 => ?_)
              refine w_load (pc' := 50) (v := .int (Int32.ofInt 0)) (m := 1) (ykc_202 (e := (2, .iload_n kF3, 0)) rfl) rfl rfl ?_
              refine w_zeq (ykc_202 (e := (4, .ifCond .eq 54, 104)) rfl) rfl (fun b1670 => ?_) (fun q => by exfalso; omega)
              refine w_load (pc' := 105) (v := .int (Int32.ofInt 0)) (m := 1) (ykc_202 (e := (2, .iload_n kF3, 0)) rfl) rfl rfl ?_
              refine w_zeq (ykc_202 (e := (4, .ifCond .eq 14, 119)) rfl) rfl (fun b1671 => ?_) (fun q => by exfalso; omega)
              refine w_alu (pc' := 120) (st' := [.int (Int32.ofInt (-1))]) (ykc_202 (e := (0, .iconst (-1), 0)) rfl) rfl rfl ?_
              refine w_load (pc' := 121) (v := .ref 170) (m := 1) (ykc_202 (e := (2, .aload_n kF0, 0)) rfl) rfl rfl ?_
              refine w_gf (pc' := 124) (v := .int (zn (2 + f))) (ykc_202 (e := (5, .getfield 139, 0)) rfl) rfl ((u1665.2.1 170 15 (fun q => absurd q.1 (by decide))).trans hft.1) rfl ?_
              obtain ⟨z1672, e_z1672, h_z1672⟩ : ∃ zq : Int32, (Int32.ofInt (-1)) - (zn (2 + f)) = zq ∧ zq.toInt = (-1 : Int) - ((2 + f : Nat) : Int) := ⟨_, rfl, zm1sub (by omega) (by omega) (by omega)⟩
              refine w_alu (pc' := 125) (st' := [.int z1672]) (ykc_202 (e := (0, .isub, 0)) rfl) (by rw [← e_z1672]; rfl) rfl ?_
              refine w_ret (v := (some (.int z1672))) (ykc_202 (e := (7, .ireturn, 0)) rfl) (zr_v rfl) ?_
              have f3 : zFr [177] [(170, 0), (170, 14), (170, 15), (170, 16), (170, 17)] ph ph1666 := zFr_trans hfr (zFr_trans (zFr_mono ft (by simp) (by simp)) (zFr_st u1665 (Or.inl (by simp))))
              rw [hQ]
              exact ⟨_, rfl, by rw [h8.1]; omega, Or.inr ⟨h8.2, zMl_F f3 (by simp) (by simp) (by simp) (by simp) hL, zMp_F f3 (by simp) (by simp) (by simp) hN, zNr_F f3 (by simp) (by simp) hv, zMu_F f3 (by simp) (by simp) (by simp) hU, zMk_F f3 (by simp) (by simp) (by simp) hk, zMh_F f3 (by simp) (by simp) hh⟩⟩
            
      exact hl n 0 _ ph1616 (Nat.zero_le _) (fun i hi => absurd hi (Nat.not_lt_zero i)) (zFr_mono f2 (by simp) (by simp)) hfd1 (fun i hi => absurd hi (Nat.not_lt_zero i))
      
    · have z1 : zVd ln t 1 = 0 := if_neg (by omega)
      have tz := znt (k := 0 + 1) (by omega)
      show zW n D 202 Q 35 [some (.ref 170), some (.int (zn (zVd ln t 0))), none, none, none, none] [.int (Int32.ofInt (-1))] ph1616
      refine w_store (pc' := 36) (L' := [some (.ref 170), some (.int (zn (zVd ln t 0))), some (.int (Int32.ofInt (-1))), none, none, none]) (st' := []) (m := 1) (ykc_202 (e := (3, .istore_n kF2, 0)) rfl) rfl rfl ?_
      refine w_load (pc' := 37) (v := .int (Int32.ofInt (-1))) (m := 1) (ykc_202 (e := (2, .iload_n kF2, 0)) rfl) rfl rfl ?_
      refine w_zle (ykc_202 (e := (4, .ifCond .le 7, 44)) rfl) rfl (fun b1673 => ?_) (fun q => by exfalso; omega)
      refine w_alu (pc' := 45) (st' := [.int (Int32.ofInt 0)]) (ykc_202 (e := (0, .iconst 0, 0)) rfl) rfl rfl ?_
      refine w_store (pc' := 46) (L' := [some (.ref 170), some (.int (zn (zVd ln t 0))), some (.int (Int32.ofInt (-1))), some (.int (Int32.ofInt 0)), none, none]) (st' := []) (m := 1) (ykc_202 (e := (3, .istore_n kF3, 0)) rfl) rfl rfl ?_
      refine w_alu (pc' := 47) (st' := [.int (Int32.ofInt 0)]) (ykc_202 (e := (0, .iconst 0, 0)) rfl) rfl rfl ?_
      refine w_store (pc' := 49) (L' := [some (.ref 170), some (.int (zn (zVd ln t 0))), some (.int (Int32.ofInt (-1))), some (.int (Int32.ofInt 0)), some (.int (Int32.ofInt 0)), none]) (st' := []) (m := 2) (ykc_202 (e := (3, .istore 4, 0)) rfl) rfl rfl ?_
      refine w_load (pc' := 50) (v := .int (Int32.ofInt 0)) (m := 1) (ykc_202 (e := (2, .iload_n kF3, 0)) rfl) rfl rfl ?_
      refine w_zeq (ykc_202 (e := (4, .ifCond .eq 54, 104)) rfl) rfl (fun b1674 => ?_) (fun q => by exfalso; omega)
      refine w_load (pc' := 105) (v := .int (Int32.ofInt 0)) (m := 1) (ykc_202 (e := (2, .iload_n kF3, 0)) rfl) rfl rfl ?_
      refine w_zeq (ykc_202 (e := (4, .ifCond .eq 14, 119)) rfl) rfl (fun b1675 => ?_) (fun q => by exfalso; omega)
      refine w_alu (pc' := 120) (st' := [.int (Int32.ofInt (-1))]) (ykc_202 (e := (0, .iconst (-1), 0)) rfl) rfl rfl ?_
      refine w_load (pc' := 121) (v := .ref 170) (m := 1) (ykc_202 (e := (2, .aload_n kF0, 0)) rfl) rfl rfl ?_
      refine w_gf (pc' := 124) (v := .int (zn (0 + 1))) (ykc_202 (e := (5, .getfield 139, 0)) rfl) rfl hfd1.1 rfl ?_
      obtain ⟨z1676, e_z1676, h_z1676⟩ : ∃ zq : Int32, (Int32.ofInt (-1)) - (zn (0 + 1)) = zq ∧ zq.toInt = (-1 : Int) - ((0 + 1 : Nat) : Int) := ⟨_, rfl, zm1sub (by omega) (by omega) (by omega)⟩
      refine w_alu (pc' := 125) (st' := [.int z1676]) (ykc_202 (e := (0, .isub, 0)) rfl) (by rw [← e_z1676]; rfl) rfl ?_
      refine w_ret (v := (some (.int z1676))) (ykc_202 (e := (7, .ireturn, 0)) rfl) (zr_v rfl) ?_
      have f2 : zFr [] [(170, 0), (170, 14), (170, 15), (170, 16), (170, 17)] ph ph1616 := zFr_trans f1 (zFr_trans (zFr_mono fd0 (by simp) (by simp)) (zFr_mono fd1 (by simp) (by simp)))
      have h8 := zVa_1 z0 z1
      rw [hQ]
      exact ⟨_, rfl, by rw [h8.1]; omega, Or.inr ⟨h8.2, zMl_F f2 (by simp) (by simp) (by simp) (by simp) hL, zMp_F f2 (by simp) (by simp) (by simp) hN, zNr_F f2 (by simp) (by simp) hv, zMu_F f2 (by simp) (by simp) (by simp) hU, zMk_F f2 (by simp) (by simp) (by simp) hk, zMh_F f2 (by simp) (by simp) hh⟩⟩
    
  · have z0 : zVd ln t 0 = 0 := if_neg (by omega)
    have tz := znt (k := 0) (by omega)
    show zW n D 202 Q 19 [some (.ref 170), none, none, none, none, none] [.int (Int32.ofInt (-1))] ph1613
    refine w_store (pc' := 20) (L' := [some (.ref 170), some (.int (Int32.ofInt (-1))), none, none, none, none]) (st' := []) (m := 1) (ykc_202 (e := (3, .istore_n kF1, 0)) rfl) rfl rfl ?_
    refine w_load (pc' := 21) (v := .int (Int32.ofInt (-1))) (m := 1) (ykc_202 (e := (2, .iload_n kF1, 0)) rfl) rfl rfl ?_
    refine w_zge (ykc_202 (e := (4, .ifCond .ge 7, 28)) rfl) rfl (fun q => by exfalso; omega) (fun b1677 => ?_)
    refine w_alu (pc' := 25) (st' := [.int (Int32.ofInt (-1))]) (ykc_202 (e := (0, .iconst (-1), 0)) rfl) rfl rfl ?_
    refine w_br (pc' := 35) (st' := [.int (Int32.ofInt (-1))]) (ykc_202 (e := (4, .goto 10, 35)) rfl) rfl ?_
    refine w_store (pc' := 36) (L' := [some (.ref 170), some (.int (Int32.ofInt (-1))), some (.int (Int32.ofInt (-1))), none, none, none]) (st' := []) (m := 1) (ykc_202 (e := (3, .istore_n kF2, 0)) rfl) rfl rfl ?_
    refine w_load (pc' := 37) (v := .int (Int32.ofInt (-1))) (m := 1) (ykc_202 (e := (2, .iload_n kF2, 0)) rfl) rfl rfl ?_
    refine w_zle (ykc_202 (e := (4, .ifCond .le 7, 44)) rfl) rfl (fun b1678 => ?_) (fun q => by exfalso; omega)
    refine w_alu (pc' := 45) (st' := [.int (Int32.ofInt 0)]) (ykc_202 (e := (0, .iconst 0, 0)) rfl) rfl rfl ?_
    refine w_store (pc' := 46) (L' := [some (.ref 170), some (.int (Int32.ofInt (-1))), some (.int (Int32.ofInt (-1))), some (.int (Int32.ofInt 0)), none, none]) (st' := []) (m := 1) (ykc_202 (e := (3, .istore_n kF3, 0)) rfl) rfl rfl ?_
    refine w_alu (pc' := 47) (st' := [.int (Int32.ofInt 0)]) (ykc_202 (e := (0, .iconst 0, 0)) rfl) rfl rfl ?_
    refine w_store (pc' := 49) (L' := [some (.ref 170), some (.int (Int32.ofInt (-1))), some (.int (Int32.ofInt (-1))), some (.int (Int32.ofInt 0)), some (.int (Int32.ofInt 0)), none]) (st' := []) (m := 2) (ykc_202 (e := (3, .istore 4, 0)) rfl) rfl rfl ?_
    refine w_load (pc' := 50) (v := .int (Int32.ofInt 0)) (m := 1) (ykc_202 (e := (2, .iload_n kF3, 0)) rfl) rfl rfl ?_
    refine w_zeq (ykc_202 (e := (4, .ifCond .eq 54, 104)) rfl) rfl (fun b1679 => ?_) (fun q => by exfalso; omega)
    refine w_load (pc' := 105) (v := .int (Int32.ofInt 0)) (m := 1) (ykc_202 (e := (2, .iload_n kF3, 0)) rfl) rfl rfl ?_
    refine w_zeq (ykc_202 (e := (4, .ifCond .eq 14, 119)) rfl) rfl (fun b1680 => ?_) (fun q => by exfalso; omega)
    refine w_alu (pc' := 120) (st' := [.int (Int32.ofInt (-1))]) (ykc_202 (e := (0, .iconst (-1), 0)) rfl) rfl rfl ?_
    refine w_load (pc' := 121) (v := .ref 170) (m := 1) (ykc_202 (e := (2, .aload_n kF0, 0)) rfl) rfl rfl ?_
    refine w_gf (pc' := 124) (v := .int (zn (0))) (ykc_202 (e := (5, .getfield 139, 0)) rfl) rfl hfd0.1 rfl ?_
    obtain ⟨z1681, e_z1681, h_z1681⟩ : ∃ zq : Int32, (Int32.ofInt (-1)) - (zn (0)) = zq ∧ zq.toInt = (-1 : Int) - ((0 : Nat) : Int) := ⟨_, rfl, zm1sub (by omega) (by omega) (by omega)⟩
    refine w_alu (pc' := 125) (st' := [.int z1681]) (ykc_202 (e := (0, .isub, 0)) rfl) (by rw [← e_z1681]; rfl) rfl ?_
    refine w_ret (v := (some (.int z1681))) (ykc_202 (e := (7, .ireturn, 0)) rfl) (zr_v rfl) ?_
    have f2 : zFr [] [(170, 0), (170, 14), (170, 15), (170, 16), (170, 17)] ph ph1613 := zFr_trans f1 (zFr_mono fd0 (by simp) (by simp))
    have h8 := zVa_0 z0
    rw [hQ]
    exact ⟨_, rfl, by rw [h8.1]; omega, Or.inr ⟨h8.2, zMl_F f2 (by simp) (by simp) (by simp) (by simp) hL, zMp_F f2 (by simp) (by simp) (by simp) hN, zNr_F f2 (by simp) (by simp) hv, zMu_F f2 (by simp) (by simp) (by simp) hU, zMk_F f2 (by simp) (by simp) (by simp) hk, zMh_F f2 (by simp) (by simp) hh⟩⟩

/-! LINES of digits, class and reference, by W; printed by wip/z/z1d_lines.py -/
/-- a digit below bd at p; the bounds of a LINE's digits; the FIELD at p; whether digit i of the LINE at p can stand; how many of its first i can -/
def zLd (n : Nat) (t : Nat → Nat) (bd p : Nat) : Bool := decide (p < n ∧ 48 ≤ t p ∧ t p < 48 + bd)
def zLb (R C i : Nat) : Nat := if i = 0 then R else if i = 1 then C else if i = 2 then 8 else 5
def zLf (C : Nat) (t : Nat → Nat) (p : Nat) : Nat := C * (t p - 48) + (t (p + 1) - 48)
def zLk (R C : Nat) (rk : Nat → Bool) (wd n : Nat) (t : Nat → Nat) (p i : Nat) : Bool := zLd n t (zLb R C i) (p + i) && !(decide (wd = 4 ∧ i = 1) && rk (zLf C t p))
def zLg (R C : Nat) (rk : Nat → Bool) (wd n : Nat) (t : Nat → Nat) (p : Nat) : Nat → Nat
  | 0 => 0
  | i + 1 => if zLg R C rk wd n t p i = i ∧ zLk R C rk wd n t p i = true then i + 1 else zLg R C rk wd n t p i
/-- what the reading of LINES from l on answers -/
def zLo (R C : Nat) (rk : Nat → Bool) (wd st n : Nat) (t : Nat → Nat) (room : Nat) : Nat → Nat → Int
  | 0, _ => 0
  | f + 1, l => if l = room then -1 - ((st * l : Nat) : Int) else if zLg R C rk wd n t (st * l) wd < wd then -1 - ((st * l + zLg R C rk wd n t (st * l) wd : Nat) : Int) else if st * l + wd = n then ((l + 1 : Nat) : Int) else if l = 7 ∨ t (st * l + wd) ≠ 59 then -1 - ((st * l + wd : Nat) : Int) else zLo R C rk wd st n t room f (l + 1)
def zLa (R C : Nat) (rk : Nat → Bool) (wd st n : Nat) (t : Nat → Nat) (room : Nat) : Int := if n = 0 then 0 else zLo R C rk wd st n t room 9 0
section ZLI
variable {R C wd st n room p i l : Nat} {rk : Nat → Bool} {t : Nat → Nat}
theorem zLb_b (hR : R ≤ 7) (hC : C ≤ 7) : zLb R C i ≤ 8 := by unfold zLb; (repeat' split) <;> omega
theorem zLk_0 (h : ¬ (p + i < n ∧ 48 ≤ t (p + i) ∧ t (p + i) < 48 + zLb R C i)) : zLk R C rk wd n t p i = false := by
  unfold zLk zLd
  rw [decide_eq_false h]
  rfl
theorem zLk_1 (h : p + i < n ∧ 48 ≤ t (p + i) ∧ t (p + i) < 48 + zLb R C i) (h2 : ¬ (wd = 4 ∧ i = 1) ∨ rk (zLf C t p) = false) : zLk R C rk wd n t p i = true := by
  unfold zLk zLd
  rw [decide_eq_true h]
  rcases h2 with h2 | h2
  · rw [decide_eq_false h2]; rfl
  · rw [h2, Bool.and_false]; rfl
theorem zLk_r (h : wd = 4 ∧ i = 1) (h2 : rk (zLf C t p) = true) : zLk R C rk wd n t p i = false := by
  unfold zLk
  rw [decide_eq_true h, h2]
  exact Bool.and_false _
theorem zLk_d (h : zLk R C rk wd n t p i = true) : p + i < n ∧ 48 ≤ t (p + i) ∧ t (p + i) < 48 + zLb R C i := by
  unfold zLk zLd at h
  exact of_decide_eq_true ((Bool.and_eq_true _ _).mp h).1
theorem zLg_s (h : zLg R C rk wd n t p i = i) (h2 : zLk R C rk wd n t p i = true) : zLg R C rk wd n t p (i + 1) = i + 1 := if_pos ⟨h, h2⟩
theorem zLg_f (h : zLg R C rk wd n t p i = i) (h2 : zLk R C rk wd n t p i = false) : ∀ k, zLg R C rk wd n t p (i + 1 + k) = i := by
  intro k
  induction k with
  | zero => exact (if_neg (fun q => by rw [h2] at q; exact absurd q.2 (by decide))).trans h
  | succ k ih => exact (if_neg (fun q => by have q1 : zLg R C rk wd n t p (i + 1 + k) = i + 1 + k := q.1; omega)).trans ih
theorem zLg_le : ∀ m, zLg R C rk wd n t p m ≤ m
  | 0 => Nat.le_refl 0
  | m + 1 => by
    have h := zLg_le m
    show (if zLg R C rk wd n t p m = m ∧ zLk R C rk wd n t p m = true then m + 1 else zLg R C rk wd n t p m) ≤ m + 1
    split
    · exact Nat.le_refl _
    · exact Nat.le_succ_of_le h
theorem zLg_a : ∀ {k : Nat}, zLg R C rk wd n t p k = k → ∀ i, i < k → zLk R C rk wd n t p i = true := by
  intro k
  induction k with
  | zero => intro _ i hi; omega
  | succ k ih =>
    intro h i hi
    have h1 : (if zLg R C rk wd n t p k = k ∧ zLk R C rk wd n t p k = true then k + 1 else zLg R C rk wd n t p k) = k + 1 := h
    by_cases e : zLg R C rk wd n t p k = k ∧ zLk R C rk wd n t p k = true
    · by_cases e2 : i = k
      · subst e2; exact e.2
      · exact ih e.1 i (by omega)
    · rw [if_neg e] at h1
      have h3 := @zLg_le R C wd n p rk t k
      omega
theorem zLo_u (h : l ≤ 8) : zLo R C rk wd st n t room (9 - l) l = if l = room then -1 - ((st * l : Nat) : Int) else if zLg R C rk wd n t (st * l) wd < wd then -1 - ((st * l + zLg R C rk wd n t (st * l) wd : Nat) : Int) else if st * l + wd = n then ((l + 1 : Nat) : Int) else if l = 7 ∨ t (st * l + wd) ≠ 59 then -1 - ((st * l + wd : Nat) : Int) else zLo R C rk wd st n t room (9 - (l + 1)) (l + 1) := by
  rw [show 9 - l = (8 - l) + 1 by omega, show 9 - (l + 1) = 8 - l by omega]
  rfl
theorem zLo_0 (h : l ≤ 8) (h1 : l = room) : zLo R C rk wd st n t room (9 - l) l = -1 - ((st * l : Nat) : Int) := by rw [zLo_u h, if_pos h1]
theorem zLo_1 (h : l ≤ 8) (h1 : l ≠ room) (h2 : zLg R C rk wd n t (st * l) wd < wd) : zLo R C rk wd st n t room (9 - l) l = -1 - ((st * l + zLg R C rk wd n t (st * l) wd : Nat) : Int) := by rw [zLo_u h, if_neg h1, if_pos h2]
theorem zLo_2 (h : l ≤ 8) (h1 : l ≠ room) (h2 : zLg R C rk wd n t (st * l) wd = wd) (h3 : st * l + wd = n) : zLo R C rk wd st n t room (9 - l) l = ((l + 1 : Nat) : Int) := by rw [zLo_u h, if_neg h1, if_neg (by omega), if_pos h3]
theorem zLo_3 (h : l ≤ 8) (h1 : l ≠ room) (h2 : zLg R C rk wd n t (st * l) wd = wd) (h3 : st * l + wd ≠ n) (h4 : l = 7 ∨ t (st * l + wd) ≠ 59) : zLo R C rk wd st n t room (9 - l) l = -1 - ((st * l + wd : Nat) : Int) := by rw [zLo_u h, if_neg h1, if_neg (by omega), if_neg h3, if_pos h4]
theorem zLo_4 (h : l ≤ 8) (h1 : l ≠ room) (h2 : zLg R C rk wd n t (st * l) wd = wd) (h3 : st * l + wd ≠ n) (h4 : ¬ (l = 7 ∨ t (st * l + wd) ≠ 59)) : zLo R C rk wd st n t room (9 - l) l = zLo R C rk wd st n t room (9 - (l + 1)) (l + 1) := by rw [zLo_u h, if_neg h1, if_neg (by omega), if_neg h3, if_neg h4]
theorem zLf_lt (hR3 : 0 < R) (hC3 : 0 < C) (h0 : t p < 48 + R) (h1 : t (p + 1) < 48 + C) : zLf C t p < R * C := by
  have h2 : C * (t p - 48 + 1) ≤ C * R := Nat.mul_le_mul_left C (by omega)
  rw [Nat.mul_add, Nat.mul_comm C R] at h2
  unfold zLf
  omega
theorem zLf_c (h0 : t p < 48 + R) (h1 : t (p + 1) < 48 + C) (hR3 : 0 < R) (hC3 : 0 < C) : zfa R C ((t p - 48 : Nat) : Int) ((t (p + 1) - 48 : Nat) : Int) = ((zLf C t p : Nat) : Int) := by
  unfold zfa zLf
  rw [if_pos (by omega), Int.toNat_natCast, Int.toNat_natCast, Nat.mul_comm]
end ZLI
/-- the class's bounds of FACINGS and BRIMS -/
def zBd (ph : pm_H) : Prop := zc ph 156 2 = some (.int (zn 8)) ∧ zc ph 156 3 = some (.int (zn 5))
theorem zc_tdig4 {ph : pm_H} {R C ln : Nat} {rk : Nat → Bool} {t : Nat → Nat} (hS : zSh ph) (hL : zCl ph R C rk) {l i : Nat} {x : Int32} (hl8 : l < 8) (hi : i < 4) (hw : zc ph 154 2 = some (.int (zn 4))) (hb : ∀ i, i < 4 → zc ph 156 i = some (.int (zn (zLb R C i)))) (hx : x.toInt = zDi ln t (5 * l + i)) (hpr : i = 1 → zLk R C rk 4 ln t (5 * l) 0 = true ∧ zc ph 155 (l * 4) = some (.int (zn (t (5 * l) - 48)))) : zM 55 [.ref 154, .int x, .int (zn l), .int (zn i), .ref 5] ph (fun v0 q => zFr [155] [] ph q ∧ ((zLk R C rk 4 ln t (5 * l) i = true ∧ v0 = some (.int (zI true)) ∧ zst ph q 155 (l * 4 + i) (.int (zn (t (5 * l + i) - 48)))) ∨ (zLk R C rk 4 ln t (5 * l) i = false ∧ v0 = some (.int (zI false))))) := by
  obtain ⟨Q, hQ⟩ : ∃ Q : Option Value → pm_H → Prop, Q = (fun v0 q => zFr [155] [] ph q ∧ ((zLk R C rk 4 ln t (5 * l) i = true ∧ v0 = some (.int (zI true)) ∧ zst ph q 155 (l * 4 + i) (.int (zn (t (5 * l + i) - 48)))) ∨ (zLk R C rk 4 ln t (5 * l) i = false ∧ v0 = some (.int (zI false))))) := ⟨_, rfl⟩
  rw [← hQ]
  refine zM_mk fun n D => ?_
  show zW n D 55 Q 0 [some (.ref 154), some (.int x), some (.int (zn l)), some (.int (zn i)), some (.ref 5), none, none] [] ph
  have c_0 : (Int32.ofInt 0).toInt = 0 := by decide
  have c_1 : (Int32.ofInt 1).toInt = 1 := by decide
  have c_2 : (Int32.ofInt 4).toInt = 4 := by decide
  obtain ⟨gR, gC, gN, gK, gA, hR3, hR7, hC3, hC7⟩ := hL
  have hL0 : zCl ph R C rk := ⟨gR, gC, gN, gK, gA, hR3, hR7, hC3, hC7⟩
  have hRC := zRC49 hR7 hC7
  have tl := znt (k := l) (by omega)
  have ti := znt (k := i) (by omega)
  have tw := znt (k := 4) (by omega)
  have d9 := @zDi_c ln (5 * l + i) t
  have b9 := @zLb_b R C i hR7 hC7
  have tb9 := znt (k := zLb R C i) (by omega)
  refine w_load (pc' := 1) (v := .int (zn l)) (m := 1) (ykc_55 (e := (2, .iload_n kF2, 0)) rfl) rfl rfl ?_
  refine w_load (pc' := 2) (v := .ref 154) (m := 1) (ykc_55 (e := (2, .aload_n kF0, 0)) rfl) rfl rfl ?_
  refine w_gf (pc' := 5) (v := .int (zn 4)) (ykc_55 (e := (5, .getfield 18, 0)) rfl) rfl hw rfl ?_
  have e1682 : (zn l) * (zn 4) = zn (l * 4) := zn_of (by rw [ti_mul (by rw [show (zn l).toInt = ((l : Nat) : Int) by omega, show (zn 4).toInt = ((4 : Nat) : Int) by omega]; omega) (by rw [show (zn l).toInt = ((l : Nat) : Int) by omega, show (zn 4).toInt = ((4 : Nat) : Int) by omega]; omega), show (zn l).toInt = ((l : Nat) : Int) by omega, show (zn 4).toInt = ((4 : Nat) : Int) by omega] <;> omega)
  have te1682 := znt (k := l * 4) (by omega)
  refine w_alu (pc' := 6) (st' := [.int (zn (l * 4))]) (ykc_55 (e := (0, .imul, 0)) rfl) (by rw [← e1682]; rfl) rfl ?_
  refine w_load (pc' := 7) (v := .int (zn i)) (m := 1) (ykc_55 (e := (2, .iload_n kF3, 0)) rfl) rfl rfl ?_
  have e1683 : (zn (l * 4)) + (zn i) = zn (l * 4 + i) := (zaddN (a := l * 4) (b := i) (znt (by omega)) (znt (by omega)) (by omega)) 
  have te1683 := znt (k := l * 4 + i) (by omega)
  refine w_alu (pc' := 8) (st' := [.int (zn (l * 4 + i))]) (ykc_55 (e := (0, .iadd, 0)) rfl) (by rw [← e1683]; rfl) rfl ?_
  refine w_store (pc' := 10) (L' := [some (.ref 154), some (.int x), some (.int (zn l)), some (.int (zn i)), some (.ref 5), some (.int (zn (l * 4 + i))), none]) (st' := []) (m := 2) (ykc_55 (e := (3, .istore 5, 0)) rfl) rfl rfl ?_
  refine w_load (pc' := 11) (v := .int (zn i)) (m := 1) (ykc_55 (e := (2, .iload_n kF3, 0)) rfl) rfl rfl ?_
  refine w_zlt (ykc_55 (e := (4, .ifCond .lt 27, 38)) rfl) rfl (fun q => by exfalso; omega) (fun b1684 => ?_)
  refine w_load (pc' := 15) (v := .int (zn i)) (m := 1) (ykc_55 (e := (2, .iload_n kF3, 0)) rfl) rfl rfl ?_
  refine w_load (pc' := 16) (v := .ref 154) (m := 1) (ykc_55 (e := (2, .aload_n kF0, 0)) rfl) rfl rfl ?_
  refine w_gf (pc' := 19) (v := .ref 156) (ykc_55 (e := (5, .getfield 15, 0)) rfl) rfl (zsg hS zs_154_1) rfl ?_
  have cn1685 : (Int32.ofNat 4).toInt = 4 := by decide
  refine w_aln (ykc_55 (e := (5, .arraylength, 0)) rfl) (zsl hS zl_156) rfl ?_
  refine w_ige (ykc_55 (e := (4, .if_icmp .ge 18, 38)) rfl) rfl (fun q => by exfalso; omega) (fun b1686 => ?_)
  refine w_load (pc' := 25) (v := .int (zn (l * 4 + i))) (m := 2) (ykc_55 (e := (2, .iload 5, 0)) rfl) rfl rfl ?_
  refine w_zlt (ykc_55 (e := (4, .ifCond .lt 13, 38)) rfl) rfl (fun q => by exfalso; omega) (fun b1687 => ?_)
  refine w_load (pc' := 30) (v := .int (zn (l * 4 + i))) (m := 2) (ykc_55 (e := (2, .iload 5, 0)) rfl) rfl rfl ?_
  refine w_load (pc' := 31) (v := .ref 154) (m := 1) (ykc_55 (e := (2, .aload_n kF0, 0)) rfl) rfl rfl ?_
  refine w_gf (pc' := 34) (v := .ref 155) (ykc_55 (e := (5, .getfield 11, 0)) rfl) rfl (zsg hS zs_154_0) rfl ?_
  have cn1688 : (Int32.ofNat 32).toInt = 32 := by decide
  refine w_aln (ykc_55 (e := (5, .arraylength, 0)) rfl) (zsl hS zl_155) rfl ?_
  refine w_ilt (ykc_55 (e := (4, .if_icmp .lt 5, 40)) rfl) rfl (fun b1689 => ?_) (fun q => by exfalso; omega)
  refine w_load (pc' := 41) (v := .int x) (m := 1) (ykc_55 (e := (2, .iload_n kF1, 0)) rfl) rfl rfl ?_
  refine w_zlt (ykc_55 (e := (4, .ifCond .lt 13, 54)) rfl) rfl (fun b1690 => ?_) (fun b1690 => ?_)
  · refine w_alu (pc' := 55) (st' := [.int (Int32.ofInt 0)]) (ykc_55 (e := (0, .iconst 0, 0)) rfl) rfl rfl ?_
    refine w_ret (v := (some (.int (Int32.ofInt 0)))) (ykc_55 (e := (7, .ireturn, 0)) rfl) zr_z ?_
    rw [hQ, zi0]
    exact ⟨zFr_refl, Or.inr ⟨zLk_0 (by omega), rfl⟩⟩
  · refine w_load (pc' := 45) (v := .int x) (m := 1) (ykc_55 (e := (2, .iload_n kF1, 0)) rfl) rfl rfl ?_
    refine w_load (pc' := 46) (v := .ref 154) (m := 1) (ykc_55 (e := (2, .aload_n kF0, 0)) rfl) rfl rfl ?_
    refine w_gf (pc' := 49) (v := .ref 156) (ykc_55 (e := (5, .getfield 15, 0)) rfl) rfl (zsg hS zs_154_1) rfl ?_
    refine w_load (pc' := 50) (v := .int (zn i)) (m := 1) (ykc_55 (e := (2, .iload_n kF3, 0)) rfl) rfl rfl ?_
    refine w_ialk (pc' := 51) (k := i) (ykc_55 (e := (5, .iaload, 0)) rfl) (hb i (by omega)) (by omega) rfl ?_
    refine w_ilt (ykc_55 (e := (4, .if_icmp .lt 5, 56)) rfl) rfl (fun b1691 => ?_) (fun b1691 => ?_)
    · have ex : x = zn (t (5 * l + i) - 48) := zn_of (by omega)
      refine w_load (pc' := 57) (v := .ref 154) (m := 1) (ykc_55 (e := (2, .aload_n kF0, 0)) rfl) rfl rfl ?_
      refine w_gf (pc' := 60) (v := .ref 155) (ykc_55 (e := (5, .getfield 11, 0)) rfl) rfl (zsg hS zs_154_0) rfl ?_
      refine w_load (pc' := 62) (v := .int (zn (l * 4 + i))) (m := 2) (ykc_55 (e := (2, .iload 5, 0)) rfl) rfl rfl ?_
      refine w_load (pc' := 63) (v := .int x) (m := 1) (ykc_55 (e := (2, .iload_n kF1, 0)) rfl) rfl rfl ?_
      refine w_ias (pc' := 64) (k := l * 4 + i) (ykc_55 (e := (5, .iastore, 0)) rfl) (by omega) rfl (fun ph1693 u1692 => ?_)
      have hu : zst ph ph1693 155 (l * 4 + i) (.int (zn (t (5 * l + i) - 48))) := by rw [← ex]; exact u1692
      refine w_load (pc' := 65) (v := .ref 154) (m := 1) (ykc_55 (e := (2, .aload_n kF0, 0)) rfl) rfl rfl ?_
      refine w_gf (pc' := 68) (v := .int (zn 4)) (ykc_55 (e := (5, .getfield 18, 0)) rfl) rfl ((u1692.2.1 154 2 (fun q => absurd q.1 (by decide))).trans hw) rfl ?_
      refine w_alu (pc' := 69) (st' := [.int (Int32.ofInt 4), .int (zn 4)]) (ykc_55 (e := (0, .iconst 4, 0)) rfl) rfl rfl ?_
      refine w_ine (ykc_55 (e := (4, .if_icmp .ne 17, 86)) rfl) rfl (fun q => by exfalso; omega) (fun b1694 => ?_)
      refine w_load (pc' := 73) (v := .int (zn i)) (m := 1) (ykc_55 (e := (2, .iload_n kF3, 0)) rfl) rfl rfl ?_
      refine w_alu (pc' := 74) (st' := [.int (Int32.ofInt 1), .int (zn i)]) (ykc_55 (e := (0, .iconst 1, 0)) rfl) rfl rfl ?_
      refine w_ine (ykc_55 (e := (4, .if_icmp .ne 12, 86)) rfl) rfl (fun b1695 => ?_) (fun b1695 => ?_)
      · refine w_alu (pc' := 87) (st' := [.int (Int32.ofInt 0)]) (ykc_55 (e := (0, .iconst 0, 0)) rfl) rfl rfl ?_
        refine w_store (pc' := 89) (L' := [some (.ref 154), some (.int x), some (.int (zn l)), some (.int (zn i)), some (.ref 5), some (.int (zn (l * 4 + i))), some (.int (Int32.ofInt 0))]) (st' := []) (m := 2) (ykc_55 (e := (3, .istore 6, 0)) rfl) rfl rfl ?_
        refine w_load (pc' := 91) (v := .int (Int32.ofInt 0)) (m := 2) (ykc_55 (e := (2, .iload 6, 0)) rfl) rfl rfl ?_
        refine w_zeq (ykc_55 (e := (4, .ifCond .eq 26, 117)) rfl) rfl (fun b1696 => ?_) (fun q => by exfalso; omega)
        refine w_alu (pc' := 118) (st' := [.int (Int32.ofInt 1)]) (ykc_55 (e := (0, .iconst 1, 0)) rfl) rfl rfl ?_
        refine w_br (pc' := 122) (st' := [.int (Int32.ofInt 1)]) (ykc_55 (e := (4, .goto 4, 122)) rfl) rfl ?_
        refine w_ret (v := (some (.int (Int32.ofInt 1)))) (ykc_55 (e := (7, .ireturn, 0)) rfl) zr_z ?_
        rw [hQ, zi1]
        exact ⟨zFr_st u1692 (Or.inl (by simp)), Or.inl ⟨zLk_1 (by omega) (Or.inl (by omega)), rfl, hu⟩⟩
      · refine w_load (pc' := 79) (v := .int (zn (l * 4 + i))) (m := 2) (ykc_55 (e := (2, .iload 5, 0)) rfl) rfl rfl ?_
        refine w_zle (ykc_55 (e := (4, .ifCond .le 7, 86)) rfl) rfl (fun q => by exfalso; omega) (fun b1697 => ?_)
        refine w_alu (pc' := 83) (st' := [.int (Int32.ofInt 1)]) (ykc_55 (e := (0, .iconst 1, 0)) rfl) rfl rfl ?_
        refine w_br (pc' := 87) (st' := [.int (Int32.ofInt 1)]) (ykc_55 (e := (4, .goto 4, 87)) rfl) rfl ?_
        refine w_store (pc' := 89) (L' := [some (.ref 154), some (.int x), some (.int (zn l)), some (.int (zn i)), some (.ref 5), some (.int (zn (l * 4 + i))), some (.int (Int32.ofInt 1))]) (st' := []) (m := 2) (ykc_55 (e := (3, .istore 6, 0)) rfl) rfl rfl ?_
        refine w_load (pc' := 91) (v := .int (Int32.ofInt 1)) (m := 2) (ykc_55 (e := (2, .iload 6, 0)) rfl) rfl rfl ?_
        refine w_zeq (ykc_55 (e := (4, .ifCond .eq 26, 117)) rfl) rfl (fun q => by exfalso; omega) (fun b1698 => ?_)
        have i1 : i = 1 := by omega
        subst i1
        obtain ⟨hk0, hp0⟩ := hpr rfl
        have hk0 := zLk_d hk0
        rw [Nat.add_zero] at hk0
        have l0 : zLb R C 0 = R := rfl
        have l1 : zLb R C 1 = C := rfl
        have hd0 := znt (k := t (5 * l) - 48) (by omega)
        have hd1 := znt (k := t (5 * l + 1) - 48) (by omega)
        show zW n D 55 Q 94 [some (.ref 154), some (.int x), some (.int (zn l)), some (.int (zn 1)), some (.ref 5), some (.int (zn (l * 4 + 1))), some (.int (Int32.ofInt 1))] [] ph1693
        refine w_load (pc' := 96) (v := .ref 5) (m := 2) (ykc_55 (e := (2, .aload 4, 0)) rfl) rfl rfl ?_
        refine w_load (pc' := 98) (v := .ref 5) (m := 2) (ykc_55 (e := (2, .aload 4, 0)) rfl) rfl rfl ?_
        refine w_load (pc' := 99) (v := .ref 154) (m := 1) (ykc_55 (e := (2, .aload_n kF0, 0)) rfl) rfl rfl ?_
        refine w_gf (pc' := 102) (v := .ref 155) (ykc_55 (e := (5, .getfield 11, 0)) rfl) rfl ((u1692.2.1 154 0 (fun q => absurd q.1 (by decide))).trans (zsg hS zs_154_0)) rfl ?_
        refine w_load (pc' := 104) (v := .int (zn (l * 4 + 1))) (m := 2) (ykc_55 (e := (2, .iload 5, 0)) rfl) rfl rfl ?_
        refine w_alu (pc' := 105) (st' := [.int (Int32.ofInt 1), .int (zn (l * 4 + 1)), .ref 155, .ref 5, .ref 5]) (ykc_55 (e := (0, .iconst 1, 0)) rfl) rfl rfl ?_
        have e1699 : (zn (l * 4 + 1)) - (Int32.ofInt 1) = zn (l * 4) := zsubN (a := l * 4 + 1) (b := 1) (znt (by omega)) c_1 (by omega)
        have te1699 := znt (k := l * 4) (by omega)
        refine w_alu (pc' := 106) (st' := [.int (zn (l * 4)), .ref 155, .ref 5, .ref 5]) (ykc_55 (e := (0, .isub, 0)) rfl) (by show some ([.int ((zn (l * 4 + 1)) - (Int32.ofInt 1)), .ref 155, .ref 5, .ref 5] : List Value) = _; rw [e1699]) rfl ?_
        refine w_ialk (pc' := 107) (k := l * 4) (ykc_55 (e := (5, .iaload, 0)) rfl) ((u1692.2.1 155 (l * 4) (fun q => by have q2 := q.2; omega)).trans hp0) (by omega) rfl ?_
        refine w_load (pc' := 108) (v := .int x) (m := 1) (ykc_55 (e := (2, .iload_n kF1, 0)) rfl) rfl rfl ?_
        refine w_cv (as := [.ref 5, .int (zn (t (5 * l) - 48)), .int x]) (r := [.ref 5]) (ykc_55 (e := (6, .invokevirtual 47, 0)) rfl) rfl rfl rfl rfl (zc_fat (zSh_F (zFr_st u1692 (Or.inl (by simp)) : zFr [155] [] _ _) (by decide +kernel) hS) (zCl_F (zFr_st u1692 (Or.inl (by simp)) : zFr [155] [] _ _) (by simp) (by intro i hi; simp) (by simp) hL0)) (fun v1700 ph1701 hv => ?_)
        obtain ⟨rfl, zf, rfl, ef⟩ := hv
        rw [show x.toInt = ((t (5 * l + 1) - 48 : Nat) : Int) by omega, hd0, zLf_c (by omega) (by omega) (by omega) (by omega)] at ef
        have lf := zLf_lt (R := R) (C := C) (t := t) (p := 5 * l) (by omega) (by omega) (by omega) (by omega)
        show zW n D 55 Q 111 [some (.ref 154), some (.int x), some (.int (zn l)), some (.int (zn 1)), some (.ref 5), some (.int (zn (l * 4 + 1))), some (.int (Int32.ofInt 1))] [.int zf, .ref 5] ph1693
        refine w_cv (as := [.ref 5, .int zf]) (r := []) (ykc_55 (e := (6, .invokevirtual 51, 0)) rfl) rfl rfl rfl rfl (zc_rock (zSh_F (zFr_st u1692 (Or.inl (by simp)) : zFr [155] [] _ _) (by decide +kernel) hS) (zCl_F (zFr_st u1692 (Or.inl (by simp)) : zFr [155] [] _ _) (by simp) (by intro i hi; simp) (by simp) hL0) (by omega)) (fun v1702 ph1703 hv => ?_)
        obtain ⟨rfl, rfl⟩ := hv
        rw [show (decide (0 ≤ zf.toInt) && rk zf.toInt.toNat) = rk (zLf C t (5 * l)) by rw [ef, Int.toNat_natCast, decide_eq_true (by omega)]; rfl]
        show zW n D 55 Q 114 [some (.ref 154), some (.int x), some (.int (zn l)), some (.int (zn 1)), some (.ref 5), some (.int (zn (l * 4 + 1))), some (.int (Int32.ofInt 1))] [.int (zI (rk (zLf C t (5 * l))))] ph1693
        refine w_bne (ykc_55 (e := (4, .ifCond .ne 7, 121)) rfl) rfl (fun b1704 => ?_) (fun b1704 => ?_)
        · have hrk := b1704
          refine w_alu (pc' := 122) (st' := [.int (Int32.ofInt 0)]) (ykc_55 (e := (0, .iconst 0, 0)) rfl) rfl rfl ?_
          refine w_ret (v := (some (.int (Int32.ofInt 0)))) (ykc_55 (e := (7, .ireturn, 0)) rfl) zr_z ?_
          rw [hQ, zi0]
          exact ⟨zFr_st u1692 (Or.inl (by simp)), Or.inr ⟨zLk_r ⟨rfl, by omega⟩ hrk, rfl⟩⟩
        · have hrk := b1704
          refine w_alu (pc' := 118) (st' := [.int (Int32.ofInt 1)]) (ykc_55 (e := (0, .iconst 1, 0)) rfl) rfl rfl ?_
          refine w_br (pc' := 122) (st' := [.int (Int32.ofInt 1)]) (ykc_55 (e := (4, .goto 4, 122)) rfl) rfl ?_
          refine w_ret (v := (some (.int (Int32.ofInt 1)))) (ykc_55 (e := (7, .ireturn, 0)) rfl) zr_z ?_
          rw [hQ, zi1]
          exact ⟨zFr_st u1692 (Or.inl (by simp)), Or.inl ⟨zLk_1 (by omega) (Or.inr hrk), rfl, hu⟩⟩
    · refine w_alu (pc' := 55) (st' := [.int (Int32.ofInt 0)]) (ykc_55 (e := (0, .iconst 0, 0)) rfl) rfl rfl ?_
      refine w_ret (v := (some (.int (Int32.ofInt 0)))) (ykc_55 (e := (7, .ireturn, 0)) rfl) zr_z ?_
      rw [hQ, zi0]
      exact ⟨zFr_refl, Or.inr ⟨zLk_0 (by omega), rfl⟩⟩
theorem zc_ldig4 {ph : pm_H} {l i d : Nat} {x y : Int32} (hS : zSh ph) (hw : zc ph 154 2 = some (.int (zn 4))) (hx : x.toInt = (l : Int)) (hy : y.toInt = (i : Int)) (hl : l < 8) (hi : i < 4) (hd : zc ph 155 (l * 4 + i) = some (.int (zn d))) : zM 53 [.ref 154, .int x, .int y] ph (fun v0 q => ph = q ∧ v0 = some (.int (zn d))) := by
  obtain ⟨Q, hQ⟩ : ∃ Q : Option Value → pm_H → Prop, Q = (fun v0 q => ph = q ∧ v0 = some (.int (zn d))) := ⟨_, rfl⟩
  rw [← hQ]
  refine zM_mk fun n D => ?_
  show zW n D 53 Q 0 [some (.ref 154), some (.int x), some (.int y), none] [] ph
  have c_0 : (Int32.ofInt (-1)).toInt = -1 := by decide
  have tw := znt (k := 4) (by omega)
  refine w_load (pc' := 1) (v := .int x) (m := 1) (ykc_53 (e := (2, .iload_n kF1, 0)) rfl) rfl rfl ?_
  refine w_load (pc' := 2) (v := .ref 154) (m := 1) (ykc_53 (e := (2, .aload_n kF0, 0)) rfl) rfl rfl ?_
  refine w_gf (pc' := 5) (v := .int (zn 4)) (ykc_53 (e := (5, .getfield 18, 0)) rfl) rfl hw rfl ?_
  have e1705 : x * (zn 4) = zn (l * 4) := zn_of (by rw [ti_mul (by rw [show x.toInt = ((l : Nat) : Int) by omega, show (zn 4).toInt = ((4 : Nat) : Int) by omega]; omega) (by rw [show x.toInt = ((l : Nat) : Int) by omega, show (zn 4).toInt = ((4 : Nat) : Int) by omega]; omega), show x.toInt = ((l : Nat) : Int) by omega, show (zn 4).toInt = ((4 : Nat) : Int) by omega] <;> omega)
  have te1705 := znt (k := l * 4) (by omega)
  refine w_alu (pc' := 6) (st' := [.int (zn (l * 4))]) (ykc_53 (e := (0, .imul, 0)) rfl) (by rw [← e1705]; rfl) rfl ?_
  refine w_load (pc' := 7) (v := .int y) (m := 1) (ykc_53 (e := (2, .iload_n kF2, 0)) rfl) rfl rfl ?_
  have e1706 : (zn (l * 4)) + y = zn (l * 4 + i) := (zaddN (a := l * 4) (b := i) (znt (by omega)) (by omega) (by omega)) 
  have te1706 := znt (k := l * 4 + i) (by omega)
  refine w_alu (pc' := 8) (st' := [.int (zn (l * 4 + i))]) (ykc_53 (e := (0, .iadd, 0)) rfl) (by rw [← e1706]; rfl) rfl ?_
  refine w_store (pc' := 9) (L' := [some (.ref 154), some (.int x), some (.int y), some (.int (zn (l * 4 + i)))]) (st' := []) (m := 1) (ykc_53 (e := (3, .istore_n kF3, 0)) rfl) rfl rfl ?_
  refine w_load (pc' := 10) (v := .int (zn (l * 4 + i))) (m := 1) (ykc_53 (e := (2, .iload_n kF3, 0)) rfl) rfl rfl ?_
  refine w_zlt (ykc_53 (e := (4, .ifCond .lt 21, 31)) rfl) rfl (fun q => by exfalso; omega) (fun b1707 => ?_)
  refine w_load (pc' := 14) (v := .int (zn (l * 4 + i))) (m := 1) (ykc_53 (e := (2, .iload_n kF3, 0)) rfl) rfl rfl ?_
  refine w_load (pc' := 15) (v := .ref 154) (m := 1) (ykc_53 (e := (2, .aload_n kF0, 0)) rfl) rfl rfl ?_
  refine w_gf (pc' := 18) (v := .ref 155) (ykc_53 (e := (5, .getfield 11, 0)) rfl) rfl (zsg hS zs_154_0) rfl ?_
  have cn1708 : (Int32.ofNat 32).toInt = 32 := by decide
  refine w_aln (ykc_53 (e := (5, .arraylength, 0)) rfl) (zsl hS zl_155) rfl ?_
  refine w_ige (ykc_53 (e := (4, .if_icmp .ge 12, 31)) rfl) rfl (fun q => by exfalso; omega) (fun b1709 => ?_)
  refine w_load (pc' := 23) (v := .ref 154) (m := 1) (ykc_53 (e := (2, .aload_n kF0, 0)) rfl) rfl rfl ?_
  refine w_gf (pc' := 26) (v := .ref 155) (ykc_53 (e := (5, .getfield 11, 0)) rfl) rfl (zsg hS zs_154_0) rfl ?_
  refine w_load (pc' := 27) (v := .int (zn (l * 4 + i))) (m := 1) (ykc_53 (e := (2, .iload_n kF3, 0)) rfl) rfl rfl ?_
  refine w_ialk (pc' := 28) (k := l * 4 + i) (ykc_53 (e := (5, .iaload, 0)) rfl) hd (by omega) rfl ?_
  refine w_br (pc' := 32) (st' := [.int (zn d)]) (ykc_53 (e := (4, .goto 4, 32)) rfl) rfl ?_
  refine w_ret (v := (some (.int (zn d)))) (ykc_53 (e := (7, .ireturn, 0)) rfl) (zr_v rfl) ?_
  rw [hQ]
  exact ⟨rfl, rfl⟩
theorem zc_lread4 {ph : pm_H} {R C ln : Nat} {rk : Nat → Bool} {t : Nat → Nat} (hS : zSh ph) (hL : zCl ph R C rk) (hT : zTc ph ln t) (hB : zBd ph) {zw zr : Int32} {room : Nat} (hzw : zw.toInt = 4) (hzr : zr.toInt = (room : Int)) (hroom : room ≤ 8) : zM 54 [.ref 154, .ref 1, .ref 5, .int zw, .int zr] ph (fun v0 q => zFr [155] [(154, 2), (156, 0), (156, 1)] ph q ∧ zc q 154 2 = some (.int (zn 4)) ∧ ∃ z : Int32, v0 = some (.int z) ∧ z.toInt = zLa R C rk 4 5 ln t room ∧ ∀ l : Nat, (l : Int) < zLa R C rk 4 5 ln t room → zLg R C rk 4 ln t (5 * l) 4 = 4 ∧ ∀ i, i < 4 → zc q 155 (l * 4 + i) = some (.int (zn (t (5 * l + i) - 48)))) := by
  obtain ⟨Q, hQ⟩ : ∃ Q : Option Value → pm_H → Prop, Q = (fun v0 q => zFr [155] [(154, 2), (156, 0), (156, 1)] ph q ∧ zc q 154 2 = some (.int (zn 4)) ∧ ∃ z : Int32, v0 = some (.int z) ∧ z.toInt = zLa R C rk 4 5 ln t room ∧ ∀ l : Nat, (l : Int) < zLa R C rk 4 5 ln t room → zLg R C rk 4 ln t (5 * l) 4 = 4 ∧ ∀ i, i < 4 → zc q 155 (l * 4 + i) = some (.int (zn (t (5 * l + i) - 48)))) := ⟨_, rfl⟩
  rw [← hQ]
  refine zM_mk fun n D => ?_
  show zW n D 54 Q 0 [some (.ref 154), some (.ref 1), some (.ref 5), some (.int zw), some (.int zr), none, none, none, none] [] ph
  have c_0 : ((Int8.ofInt 59).toInt32).toInt = 59 := by decide
  have c_1 : ((Int8.ofInt 8).toInt32).toInt = 8 := by decide
  have c_2 : (Int32.ofInt (-1)).toInt = -1 := by decide
  have c_3 : (Int32.ofInt 0).toInt = 0 := by decide
  have c_4 : (Int32.ofInt 1).toInt = 1 := by decide
  have hRC49 : R * C ≤ 49 := zRC49 hL.2.2.2.2.2.2.1 hL.2.2.2.2.2.2.2.2
  have hR37 : 3 ≤ R ∧ R ≤ 7 := ⟨hL.2.2.2.2.2.1, hL.2.2.2.2.2.2.1⟩
  have hC37 : 3 ≤ C ∧ C ≤ 7 := hL.2.2.2.2.2.2.2
  obtain rfl : zw = zn 4 := zn_of hzw
  have tw := znt (k := 4) (by omega)
  have tR := znt (k := R) (by omega)
  have tC := znt (k := C) (by omega)
  have hT0 := hT
  show zW n D 54 Q 0 [some (.ref 154), some (.ref 1), some (.ref 5), some (.int (zn 4)), some (.int zr), none, none, none, none] [] ph
  obtain ⟨gn, hn80, gt⟩ := hT
  have tn := znt (k := ln) (by omega)
  refine w_load (pc' := 1) (v := .ref 154) (m := 1) (ykc_54 (e := (2, .aload_n kF0, 0)) rfl) rfl rfl ?_
  refine w_load (pc' := 2) (v := .int (zn 4)) (m := 1) (ykc_54 (e := (2, .iload_n kF3, 0)) rfl) rfl rfl ?_
  refine w_pf (pc' := 5) (ykc_54 (e := (5, .putfield 18, 0)) rfl) rfl rfl (fun ph1711 u1710 => ?_)
  refine w_load (pc' := 6) (v := .ref 154) (m := 1) (ykc_54 (e := (2, .aload_n kF0, 0)) rfl) rfl rfl ?_
  refine w_gf (pc' := 9) (v := .ref 156) (ykc_54 (e := (5, .getfield 15, 0)) rfl) rfl ((u1710.2.1 154 1 (fun q => absurd q.2 (by decide))).trans (zsg hS zs_154_1)) rfl ?_
  refine w_alu (pc' := 10) (st' := [.int (Int32.ofInt 0), .ref 156]) (ykc_54 (e := (0, .iconst 0, 0)) rfl) rfl rfl ?_
  refine w_load (pc' := 11) (v := .ref 5) (m := 1) (ykc_54 (e := (2, .aload_n kF2, 0)) rfl) rfl rfl ?_
  refine w_cv (as := [.ref 5]) (r := [.int (Int32.ofInt 0), .ref 156]) (ykc_54 (e := (6, .invokevirtual 22, 0)) rfl) rfl rfl rfl rfl (zc_rows (zSh_F ((zFr_st u1710 (Or.inr (by simp))) : zFr [155] [(154, 2), (156, 0), (156, 1)] ph _) (by decide +kernel) hS) (zCl_F ((zFr_st u1710 (Or.inr (by simp))) : zFr [155] [(154, 2), (156, 0), (156, 1)] ph _) (by simp) (by intro i hi; simp <;> omega) (by simp) hL)) (fun v1712 ph1713 hv => ?_)
  obtain ⟨rfl, rfl⟩ := hv
  show zW n D 54 Q 14 [some (.ref 154), some (.ref 1), some (.ref 5), some (.int (zn 4)), some (.int zr), none, none, none, none] [.int (zn R), .int (Int32.ofInt 0), .ref 156] ph1711
  refine w_ias (pc' := 15) (k := 0) (ykc_54 (e := (5, .iastore, 0)) rfl) (by omega) rfl (fun ph1715 u1714 => ?_)
  refine w_load (pc' := 16) (v := .ref 154) (m := 1) (ykc_54 (e := (2, .aload_n kF0, 0)) rfl) rfl rfl ?_
  refine w_gf (pc' := 19) (v := .ref 156) (ykc_54 (e := (5, .getfield 15, 0)) rfl) rfl ((u1714.2.1 154 1 (fun q => absurd q.1 (by decide))).trans ((u1710.2.1 154 1 (fun q => absurd q.2 (by decide))).trans (zsg hS zs_154_1))) rfl ?_
  refine w_alu (pc' := 20) (st' := [.int (Int32.ofInt 1), .ref 156]) (ykc_54 (e := (0, .iconst 1, 0)) rfl) rfl rfl ?_
  refine w_load (pc' := 21) (v := .ref 5) (m := 1) (ykc_54 (e := (2, .aload_n kF2, 0)) rfl) rfl rfl ?_
  refine w_cv (as := [.ref 5]) (r := [.int (Int32.ofInt 1), .ref 156]) (ykc_54 (e := (6, .invokevirtual 28, 0)) rfl) rfl rfl rfl rfl (zc_cols (zSh_F ((zFr_trans (zFr_st u1710 (Or.inr (by simp))) (zFr_st u1714 (Or.inr (by simp)))) : zFr [155] [(154, 2), (156, 0), (156, 1)] ph _) (by decide +kernel) hS) (zCl_F ((zFr_trans (zFr_st u1710 (Or.inr (by simp))) (zFr_st u1714 (Or.inr (by simp)))) : zFr [155] [(154, 2), (156, 0), (156, 1)] ph _) (by simp) (by intro i hi; simp <;> omega) (by simp) hL)) (fun v1716 ph1717 hv => ?_)
  obtain ⟨rfl, rfl⟩ := hv
  show zW n D 54 Q 24 [some (.ref 154), some (.ref 1), some (.ref 5), some (.int (zn 4)), some (.int zr), none, none, none, none] [.int (zn C), .int (Int32.ofInt 1), .ref 156] ph1715
  refine w_ias (pc' := 25) (k := 1) (ykc_54 (e := (5, .iastore, 0)) rfl) (by omega) rfl (fun ph1719 u1718 => ?_)
  refine w_load (pc' := 26) (v := .ref 1) (m := 1) (ykc_54 (e := (2, .aload_n kF1, 0)) rfl) rfl rfl ?_
  refine w_cv (as := [.ref 1]) (r := []) (ykc_54 (e := (6, .invokevirtual 31, 0)) rfl) rfl rfl rfl rfl (zc_tsize ((u1718.2.1 1 1 (fun q => absurd q.1 (by decide))).trans ((u1714.2.1 1 1 (fun q => absurd q.1 (by decide))).trans ((u1710.2.1 1 1 (fun q => absurd q.1 (by decide))).trans gn)))) (fun v1720 ph1721 hv => ?_)
  obtain ⟨rfl, rfl⟩ := hv
  show zW n D 54 Q 29 [some (.ref 154), some (.ref 1), some (.ref 5), some (.int (zn 4)), some (.int zr), none, none, none, none] [.int (zn ln)] ph1719
  refine w_store (pc' := 31) (L' := [some (.ref 154), some (.ref 1), some (.ref 5), some (.int (zn 4)), some (.int zr), some (.int (zn ln)), none, none, none]) (st' := []) (m := 2) (ykc_54 (e := (3, .istore 5, 0)) rfl) rfl rfl ?_
  refine w_load (pc' := 33) (v := .int (zn ln)) (m := 2) (ykc_54 (e := (2, .iload 5, 0)) rfl) rfl rfl ?_
  refine w_zne (ykc_54 (e := (4, .ifCond .ne 5, 38)) rfl) rfl (fun b1722 => ?_) (fun b1722 => ?_)
  · refine w_alu (pc' := 39) (st' := [.int (Int32.ofInt 0)]) (ykc_54 (e := (0, .iconst 0, 0)) rfl) rfl rfl ?_
    refine w_store (pc' := 41) (L' := [some (.ref 154), some (.ref 1), some (.ref 5), some (.int (zn 4)), some (.int zr), some (.int (zn ln)), some (.int (Int32.ofInt 0)), none, none]) (st' := []) (m := 2) (ykc_54 (e := (3, .istore 6, 0)) rfl) rfl rfl ?_
    refine w_alu (pc' := 42) (st' := [.int (Int32.ofInt 0)]) (ykc_54 (e := (0, .iconst 0, 0)) rfl) rfl rfl ?_
    refine w_store (pc' := 44) (L' := [some (.ref 154), some (.ref 1), some (.ref 5), some (.int (zn 4)), some (.int zr), some (.int (zn ln)), some (.int (Int32.ofInt 0)), some (.int (Int32.ofInt 0)), none]) (st' := []) (m := 2) (ykc_54 (e := (3, .istore 7, 0)) rfl) rfl rfl ?_
    have f1 : zFr [155] [(154, 2), (156, 0), (156, 1)] ph ph1719 := (zFr_trans (zFr_trans (zFr_st u1710 (Or.inr (by simp))) (zFr_st u1714 (Or.inr (by simp)))) (zFr_st u1718 (Or.inr (by simp))))
    have h1542 := ((u1718.2.1 154 2 (fun q => absurd q.1 (by decide))).trans ((u1714.2.1 154 2 (fun q => absurd q.1 (by decide))).trans u1710.1))
    have h1560 := ((u1718.2.1 156 0 (fun q => absurd q.2 (by decide))).trans u1714.1)
    have h1561 := u1718.1
    have e0 : zLa R C rk 4 5 ln t room = zLo R C rk 4 5 ln t room 9 0 := if_neg (by omega)
    have hb1 : ∀ i, i < 4 → zc ph1719 156 i = some (.int (zn (zLb R C i))) := fun i hi => by
      rcases (show i = 0 ∨ i = 1 ∨ i = 2 ∨ i = 3 by omega) with e | e | e | e <;> subst e
      · exact h1560
      · exact h1561
      · exact (f1.1 156 2 (by decide) (by decide)).trans hB.1
      · exact (f1.1 156 3 (by decide) (by decide)).trans hB.2
    have hl : ∀ (n : Nat), ∀ (l : Nat) (x8 : Option Value) (ph2 : pm_H), (l ≤ 7) → (l ≤ room) → (zFr [155] [] ph1719 ph2) → (zLa R C rk 4 5 ln t room = zLo R C rk 4 5 ln t room (9 - l) l) → (∀ j, j < l → zLg R C rk 4 ln t (5 * j) 4 = 4 ∧ ∀ i, i < 4 → zc ph2 155 (j * 4 + i) = some (.int (zn (t (5 * j + i) - 48)))) → zW n D 54 Q 44 [some (.ref 154), some (.ref 1), some (.ref 5), some (.int (zn 4)), some (.int zr), some (.int (zn ln)), some (.int (zn (5 * l))), some (.int (zn l)), x8] [] ph2 := by
      intro n
      induction n using Nat.strongRecOn with
      | ind n ih =>
        intro l x8 ph2 hl hlm hf ha hg
        have tl := znt (k := l) (by omega)
        have tsl := znt (k := 5 * l) (by omega)
        have f2 : zFr [155] [(154, 2), (156, 0), (156, 1)] ph ph2 := zFr_trans f1 (zFr_mono hf (by simp) (by simp))
        have hS2 := zSh_F f2 (by decide +kernel) hS
        have hL2 := zCl_F f2 (by simp) (by intro i hi; simp <;> omega) (by simp) hL
        have hT2 := zTc_F f2 (by simp) (by simp) (by simp) hT0
        have hin : l ≠ room → ∀ (n1 : Nat), n1 ≤ n → ∀ (i : Nat) (ph2 : pm_H), i ≤ 4 → (zFr [155] [] ph1719 ph2) → (∀ j, j < l → zLg R C rk 4 ln t (5 * j) 4 = 4 ∧ ∀ i, i < 4 → zc ph2 155 (j * 4 + i) = some (.int (zn (t (5 * j + i) - 48)))) → (zLg R C rk 4 ln t (5 * l) i = i) → (∀ k, k < i → zc ph2 155 (l * 4 + k) = some (.int (zn (t (5 * l + k) - 48)))) → zW n1 D 54 Q 61 [some (.ref 154), some (.ref 1), some (.ref 5), some (.int (zn 4)), some (.int zr), some (.int (zn ln)), some (.int (zn (5 * l + i))), some (.int (zn l)), some (.int (zn i))] [] ph2 := by
          intro hlr n1
          induction n1 using Nat.strongRecOn with
          | ind n1 ih1 =>
            intro hn1 i ph2 hi hf hg hgi hst
            have tl := znt (k := l) (by omega)
            have tsl := znt (k := 5 * l) (by omega)
            have f2 : zFr [155] [(154, 2), (156, 0), (156, 1)] ph ph2 := zFr_trans f1 (zFr_mono hf (by simp) (by simp))
            have hS2 := zSh_F f2 (by decide +kernel) hS
            have hL2 := zCl_F f2 (by simp) (by intro i hi; simp <;> omega) (by simp) hL
            have hT2 := zTc_F f2 (by simp) (by simp) (by simp) hT0
            have ti := znt (k := i) (by omega)
            have tsi := znt (k := 5 * l + i) (by omega)
            refine w_load (pc' := 63) (v := .int (zn i)) (m := 2) (ykc_54 (e := (2, .iload 8, 0)) rfl) rfl rfl ?_
            refine w_load (pc' := 64) (v := .ref 154) (m := 1) (ykc_54 (e := (2, .aload_n kF0, 0)) rfl) rfl rfl ?_
            refine w_gf (pc' := 67) (v := .int (zn 4)) (ykc_54 (e := (5, .getfield 18, 0)) rfl) rfl ((hf.1 154 2 (by decide) (by decide)).trans h1542) rfl ?_
            refine w_ige (ykc_54 (e := (4, .if_icmp .ge 35, 102)) rfl) rfl (fun b1723 => ?_) (fun b1723 => ?_)
            · have ei : i = 4 := by omega
              subst ei
              show zW n1 D 54 Q 102 [some (.ref 154), some (.ref 1), some (.ref 5), some (.int (zn 4)), some (.int zr), some (.int (zn ln)), some (.int (zn (5 * l + 4))), some (.int (zn l)), some (.int (zn 4))] [] ph2
              have hin9 : 5 * l + 4 ≤ ln := by have h := zLk_d (zLg_a hgi (4 - 1) (by omega)); omega
              refine w_load (pc' := 104) (v := .int (zn (5 * l + 4))) (m := 2) (ykc_54 (e := (2, .iload 6, 0)) rfl) rfl rfl ?_
              refine w_load (pc' := 106) (v := .int (zn ln)) (m := 2) (ykc_54 (e := (2, .iload 5, 0)) rfl) rfl rfl ?_
              refine w_ine (ykc_54 (e := (4, .if_icmp .ne 8, 114)) rfl) rfl (fun b1724 => ?_) (fun b1724 => ?_)
              · refine w_load (pc' := 116) (v := .int (zn l)) (m := 2) (ykc_54 (e := (2, .iload 7, 0)) rfl) rfl rfl ?_
                refine w_alu (pc' := 117) (st' := [.int (Int32.ofInt 1), .int (zn l)]) (ykc_54 (e := (0, .iconst 1, 0)) rfl) rfl rfl ?_
                have e1725 : (zn l) + (Int32.ofInt 1) = zn (l + 1) := (zaddN (a := l) (b := 1) (znt (by omega)) c_4 (by omega)) 
                have te1725 := znt (k := l + 1) (by omega)
                refine w_alu (pc' := 118) (st' := [.int (zn (l + 1))]) (ykc_54 (e := (0, .iadd, 0)) rfl) (by rw [← e1725]; rfl) rfl ?_
                refine w_push (pc' := 120) (v := .int ((Int8.ofInt 8).toInt32)) (m := 2) (ykc_54 (e := (1, .bipush 8, 0)) rfl) rfl rfl ?_
                refine w_ieq (ykc_54 (e := (4, .if_icmp .eq 14, 134)) rfl) rfl (fun b1726 => ?_) (fun b1726 => ?_)
                · refine w_alu (pc' := 135) (st' := [.int (Int32.ofInt (-1))]) (ykc_54 (e := (0, .iconst (-1), 0)) rfl) rfl rfl ?_
                  refine w_load (pc' := 137) (v := .int (zn (5 * l + 4))) (m := 2) (ykc_54 (e := (2, .iload 6, 0)) rfl) rfl rfl ?_
                  obtain ⟨z1727, e_z1727, h_z1727⟩ : ∃ zq : Int32, (Int32.ofInt (-1)) - (zn (5 * l + 4)) = zq ∧ zq.toInt = (-1 : Int) - ((5 * l + 4 : Nat) : Int) := ⟨_, rfl, zm1sub (by omega) (by omega) (by omega)⟩
                  refine w_alu (pc' := 138) (st' := [.int z1727]) (ykc_54 (e := (0, .isub, 0)) rfl) (by rw [← e_z1727]; rfl) rfl ?_
                  refine w_ret (v := (some (.int z1727))) (ykc_54 (e := (7, .ireturn, 0)) rfl) (zr_v rfl) ?_
                  have h8 := ha.trans (zLo_3 (by omega) hlr hgi (by omega) (by omega))
                  rw [hQ]
                  refine ⟨f2, (hf.1 154 2 (by decide) (by decide)).trans h1542, _, rfl, ?_, ?_⟩
                  · rw [h8]; omega
                  · intro j hj
                    rw [h8] at hj
                    exact absurd hj (by omega)
                · refine w_load (pc' := 124) (v := .ref 1) (m := 1) (ykc_54 (e := (2, .aload_n kF1, 0)) rfl) rfl rfl ?_
                  refine w_load (pc' := 126) (v := .int (zn (5 * l + 4))) (m := 2) (ykc_54 (e := (2, .iload 6, 0)) rfl) rfl rfl ?_
                  refine w_cv (as := [.ref 1, .int (zn (5 * l + 4))]) (r := []) (ykc_54 (e := (6, .invokevirtual 44, 0)) rfl) rfl rfl rfl rfl (zc_at hS2 hT2 (k := 5 * l + 4) (by omega)) (fun v1728 ph1729 hv => ?_)
                  obtain ⟨rfl, xa, rfl, exa⟩ := hv
                  have da := @zTi_c ln (5 * l + 4) t
                  have ba := @zTi_b ln (5 * l + 4) t (fun h => (gt _ h).2)
                  show zW n1 D 54 Q 129 [some (.ref 154), some (.ref 1), some (.ref 5), some (.int (zn 4)), some (.int zr), some (.int (zn ln)), some (.int (zn (5 * l + 4))), some (.int (zn l)), some (.int (zn 4))] [.int xa] ph2
                  refine w_push (pc' := 131) (v := .int ((Int8.ofInt 59).toInt32)) (m := 2) (ykc_54 (e := (1, .bipush 59, 0)) rfl) rfl rfl ?_
                  refine w_ieq (ykc_54 (e := (4, .if_icmp .eq 8, 139)) rfl) rfl (fun b1730 => ?_) (fun b1730 => ?_)
                  · have e1731 : (zn (5 * l + 4)) + Int32.ofInt 1 = zn (5 * l + 4 + 1) := (zaddN (a := 5 * l + 4) (b := 1) (znt (by omega)) c_4 (by omega))
                    have te1731 := znt (k := 5 * l + 4 + 1) (by omega)
                    refine w_store (pc' := 142) (L' := [some (.ref 154), some (.ref 1), some (.ref 5), some (.int (zn 4)), some (.int zr), some (.int (zn ln)), some (.int (zn (5 * l + 4 + 1))), some (.int (zn l)), some (.int (zn 4))]) (st' := []) (m := 3) (ykc_54 (e := (3, .iinc 6 1, 0)) rfl) (by rw [← e1731]; rfl) rfl ?_
                    have e1732 : (zn l) + Int32.ofInt 1 = zn (l + 1) := (zaddN (a := l) (b := 1) (znt (by omega)) c_4 (by omega))
                    have te1732 := znt (k := l + 1) (by omega)
                    refine w_store (pc' := 145) (L' := [some (.ref 154), some (.ref 1), some (.ref 5), some (.int (zn 4)), some (.int zr), some (.int (zn ln)), some (.int (zn (5 * l + 4 + 1))), some (.int (zn (l + 1))), some (.int (zn 4))]) (st' := []) (m := 3) (ykc_54 (e := (3, .iinc 7 1, 0)) rfl) (by rw [← e1732]; rfl) rfl ?_
                    refine w_gb (ykc_54 (e := (4, .goto (-101), 44)) rfl) (fun k1733 hk1733 => ?_)
                    have h8 := ha.trans (zLo_4 (by omega) hlr hgi (by omega) (by omega))
                    rw [show 5 * l + 4 + 1 = 5 * (l + 1) by omega]
                    exact ih k1733 (by omega) (l + 1) _ ph2 (by omega) (by omega) hf h8 (fun j hj => by
                      by_cases e : j = l
                      · subst e; exact ⟨hgi, hst⟩
                      · exact hg j (by omega))
                  · refine w_alu (pc' := 135) (st' := [.int (Int32.ofInt (-1))]) (ykc_54 (e := (0, .iconst (-1), 0)) rfl) rfl rfl ?_
                    refine w_load (pc' := 137) (v := .int (zn (5 * l + 4))) (m := 2) (ykc_54 (e := (2, .iload 6, 0)) rfl) rfl rfl ?_
                    obtain ⟨z1734, e_z1734, h_z1734⟩ : ∃ zq : Int32, (Int32.ofInt (-1)) - (zn (5 * l + 4)) = zq ∧ zq.toInt = (-1 : Int) - ((5 * l + 4 : Nat) : Int) := ⟨_, rfl, zm1sub (by omega) (by omega) (by omega)⟩
                    refine w_alu (pc' := 138) (st' := [.int z1734]) (ykc_54 (e := (0, .isub, 0)) rfl) (by rw [← e_z1734]; rfl) rfl ?_
                    refine w_ret (v := (some (.int z1734))) (ykc_54 (e := (7, .ireturn, 0)) rfl) (zr_v rfl) ?_
                    have h8 := ha.trans (zLo_3 (by omega) hlr hgi (by omega) (by omega))
                    rw [hQ]
                    refine ⟨f2, (hf.1 154 2 (by decide) (by decide)).trans h1542, _, rfl, ?_, ?_⟩
                    · rw [h8]; omega
                    · intro j hj
                      rw [h8] at hj
                      exact absurd hj (by omega)
              · refine w_load (pc' := 111) (v := .int (zn l)) (m := 2) (ykc_54 (e := (2, .iload 7, 0)) rfl) rfl rfl ?_
                refine w_alu (pc' := 112) (st' := [.int (Int32.ofInt 1), .int (zn l)]) (ykc_54 (e := (0, .iconst 1, 0)) rfl) rfl rfl ?_
                have e1735 : (zn l) + (Int32.ofInt 1) = zn (l + 1) := (zaddN (a := l) (b := 1) (znt (by omega)) c_4 (by omega)) 
                have te1735 := znt (k := l + 1) (by omega)
                refine w_alu (pc' := 113) (st' := [.int (zn (l + 1))]) (ykc_54 (e := (0, .iadd, 0)) rfl) (by rw [← e1735]; rfl) rfl ?_
                refine w_ret (v := (some (.int (zn (l + 1))))) (ykc_54 (e := (7, .ireturn, 0)) rfl) (zr_v rfl) ?_
                have h8 := ha.trans (zLo_2 (by omega) hlr hgi (by omega))
                rw [hQ]
                refine ⟨f2, (hf.1 154 2 (by decide) (by decide)).trans h1542, _, rfl, ?_, ?_⟩
                · rw [h8]; omega
                · intro j hj
                  rw [h8] at hj
                  by_cases e : j = l
                  · subst e; exact ⟨hgi, hst⟩
                  · exact hg j (by omega)
              
            · refine w_load (pc' := 71) (v := .ref 154) (m := 1) (ykc_54 (e := (2, .aload_n kF0, 0)) rfl) rfl rfl ?_
              refine w_load (pc' := 72) (v := .ref 1) (m := 1) (ykc_54 (e := (2, .aload_n kF1, 0)) rfl) rfl rfl ?_
              refine w_load (pc' := 74) (v := .int (zn (5 * l + i))) (m := 2) (ykc_54 (e := (2, .iload 6, 0)) rfl) rfl rfl ?_
              refine w_cv (as := [.ref 1, .int (zn (5 * l + i))]) (r := [.ref 154]) (ykc_54 (e := (6, .invokevirtual 36, 0)) rfl) rfl rfl rfl rfl (zc_digit hS2 hT2 (k := 5 * l + i) (by omega)) (fun v1737 ph1738 hv => ?_)
              obtain ⟨rfl, xd, rfl, exd⟩ := hv
              show zW n1 D 54 Q 77 [some (.ref 154), some (.ref 1), some (.ref 5), some (.int (zn 4)), some (.int zr), some (.int (zn ln)), some (.int (zn (5 * l + i))), some (.int (zn l)), some (.int (zn i))] [.int xd, .ref 154] ph2
              refine w_load (pc' := 79) (v := .int (zn l)) (m := 2) (ykc_54 (e := (2, .iload 7, 0)) rfl) rfl rfl ?_
              refine w_load (pc' := 81) (v := .int (zn i)) (m := 2) (ykc_54 (e := (2, .iload 8, 0)) rfl) rfl rfl ?_
              refine w_load (pc' := 82) (v := .ref 5) (m := 1) (ykc_54 (e := (2, .aload_n kF2, 0)) rfl) rfl rfl ?_
              refine w_cv (as := [.ref 154, .int xd, .int (zn l), .int (zn i), .ref 5]) (r := []) (ykc_54 (e := (6, .invokevirtual 40, 0)) rfl) rfl rfl rfl rfl (zc_tdig4 hS2 hL2 (by omega) (by omega) ((hf.1 154 2 (by decide) (by decide)).trans h1542) (fun i hi => (hf.1 156 i (by decide) (by simp)).trans (hb1 i hi)) exd (fun e => by subst e; exact ⟨zLg_a hgi 0 (by omega), by have h := hst 0 (by omega); simpa using h⟩)) (fun v1739 ph1740 hv => ?_)
              rcases hv with ⟨ftd, ⟨hk9, rfl, htd⟩ | ⟨hk9, rfl⟩⟩
              · show zW n1 D 54 Q 85 [some (.ref 154), some (.ref 1), some (.ref 5), some (.int (zn 4)), some (.int zr), some (.int (zn ln)), some (.int (zn (5 * l + i))), some (.int (zn l)), some (.int (zn i))] [.int (zI true)] ph1740
                refine w_bne (ykc_54 (e := (4, .ifCond .ne 8, 93)) rfl) rfl (fun b1741 => ?_) (fun q => absurd q (by decide))
                have e1742 : (zn (5 * l + i)) + Int32.ofInt 1 = zn (5 * l + i + 1) := (zaddN (a := 5 * l + i) (b := 1) (znt (by omega)) c_4 (by omega))
                have te1742 := znt (k := 5 * l + i + 1) (by omega)
                refine w_store (pc' := 96) (L' := [some (.ref 154), some (.ref 1), some (.ref 5), some (.int (zn 4)), some (.int zr), some (.int (zn ln)), some (.int (zn (5 * l + i + 1))), some (.int (zn l)), some (.int (zn i))]) (st' := []) (m := 3) (ykc_54 (e := (3, .iinc 6 1, 0)) rfl) (by rw [← e1742]; rfl) rfl ?_
                have e1743 : (zn i) + Int32.ofInt 1 = zn (i + 1) := (zaddN (a := i) (b := 1) (znt (by omega)) c_4 (by omega))
                have te1743 := znt (k := i + 1) (by omega)
                refine w_store (pc' := 99) (L' := [some (.ref 154), some (.ref 1), some (.ref 5), some (.int (zn 4)), some (.int zr), some (.int (zn ln)), some (.int (zn (5 * l + i + 1))), some (.int (zn l)), some (.int (zn (i + 1)))]) (st' := []) (m := 3) (ykc_54 (e := (3, .iinc 8 1, 0)) rfl) (by rw [← e1743]; rfl) rfl ?_
                refine w_gb (ykc_54 (e := (4, .goto (-38), 61)) rfl) (fun k1744 hk1744 => ?_)
                exact ih1 k1744 hk1744 (by omega) (i + 1) _ (by omega) (zFr_trans hf ftd) (fun j hj => ⟨(hg j hj).1, fun k hk9 => (htd.2.1 155 (j * 4 + k) (fun q => by have q2 := q.2; omega)).trans ((hg j hj).2 k hk9)⟩) (zLg_s hgi hk9) (fun k hk => by
                  by_cases e : k = i
                  · subst e; exact htd.1
                  · exact (htd.2.1 155 (l * 4 + k) (fun q => e (by have q2 := q.2; omega))).trans (hst k (by omega)))
              · show zW n1 D 54 Q 85 [some (.ref 154), some (.ref 1), some (.ref 5), some (.int (zn 4)), some (.int zr), some (.int (zn ln)), some (.int (zn (5 * l + i))), some (.int (zn l)), some (.int (zn i))] [.int (zI false)] ph1740
                refine w_bne (ykc_54 (e := (4, .ifCond .ne 8, 93)) rfl) rfl (fun q => absurd q (by decide)) (fun b1745 => ?_)
                refine w_alu (pc' := 89) (st' := [.int (Int32.ofInt (-1))]) (ykc_54 (e := (0, .iconst (-1), 0)) rfl) rfl rfl ?_
                refine w_load (pc' := 91) (v := .int (zn (5 * l + i))) (m := 2) (ykc_54 (e := (2, .iload 6, 0)) rfl) rfl rfl ?_
                obtain ⟨z1746, e_z1746, h_z1746⟩ : ∃ zq : Int32, (Int32.ofInt (-1)) - (zn (5 * l + i)) = zq ∧ zq.toInt = (-1 : Int) - ((5 * l + i : Nat) : Int) := ⟨_, rfl, zm1sub (by omega) (by omega) (by omega)⟩
                refine w_alu (pc' := 92) (st' := [.int z1746]) (ykc_54 (e := (0, .isub, 0)) rfl) (by rw [← e_z1746]; rfl) rfl ?_
                refine w_ret (v := (some (.int z1746))) (ykc_54 (e := (7, .ireturn, 0)) rfl) (zr_v rfl) ?_
                have hlg : zLg R C rk 4 ln t (5 * l) 4 = i := by
                  have h := zLg_f hgi hk9 (4 - 1 - i)
                  rwa [show i + 1 + (4 - 1 - i) = 4 by omega] at h
                have h8 := ha.trans (zLo_1 (by omega) hlr (by omega))
                rw [hlg] at h8
                have f3 := zFr_trans f2 (zFr_mono ftd (by simp) (by simp) : zFr [155] [(154, 2), (156, 0), (156, 1)] ph2 _)
                rw [hQ]
                refine ⟨zFr_trans f2 (zFr_mono ftd (by simp) (by simp)), (ftd.1 154 2 (by decide) (by decide)).trans ((hf.1 154 2 (by decide) (by decide)).trans h1542), _, rfl, ?_, ?_⟩
                · rw [h8]; omega
                · intro j hj
                  rw [h8] at hj
                  exact absurd hj (by omega)
              
        refine w_load (pc' := 46) (v := .int (zn l)) (m := 2) (ykc_54 (e := (2, .iload 7, 0)) rfl) rfl rfl ?_
        refine w_push (pc' := 48) (v := .int ((Int8.ofInt 8).toInt32)) (m := 2) (ykc_54 (e := (1, .bipush 8, 0)) rfl) rfl rfl ?_
        refine w_ige (ykc_54 (e := (4, .if_icmp .ge 100, 148)) rfl) rfl (fun b1747 => ?_) (fun b1747 => ?_)
        · exfalso; omega
          
        · refine w_load (pc' := 53) (v := .int (zn l)) (m := 2) (ykc_54 (e := (2, .iload 7, 0)) rfl) rfl rfl ?_
          refine w_load (pc' := 55) (v := .int zr) (m := 2) (ykc_54 (e := (2, .iload 4, 0)) rfl) rfl rfl ?_
          refine w_ige (ykc_54 (e := (4, .if_icmp .ge 93, 148)) rfl) rfl (fun b1748 => ?_) (fun b1748 => ?_)
          · have hr : l = room := by omega
            refine w_alu (pc' := 149) (st' := [.int (Int32.ofInt (-1))]) (ykc_54 (e := (0, .iconst (-1), 0)) rfl) rfl rfl ?_
            refine w_load (pc' := 151) (v := .int (zn (5 * l))) (m := 2) (ykc_54 (e := (2, .iload 6, 0)) rfl) rfl rfl ?_
            obtain ⟨z1749, e_z1749, h_z1749⟩ : ∃ zq : Int32, (Int32.ofInt (-1)) - (zn (5 * l)) = zq ∧ zq.toInt = (-1 : Int) - ((5 * l : Nat) : Int) := ⟨_, rfl, zm1sub (by omega) (by omega) (by omega)⟩
            refine w_alu (pc' := 152) (st' := [.int z1749]) (ykc_54 (e := (0, .isub, 0)) rfl) (by rw [← e_z1749]; rfl) rfl ?_
            refine w_ret (v := (some (.int z1749))) (ykc_54 (e := (7, .ireturn, 0)) rfl) (zr_v rfl) ?_
            have h8 := ha.trans (zLo_0 (by omega) hr)
            rw [hQ]
            refine ⟨f2, (hf.1 154 2 (by decide) (by decide)).trans h1542, _, rfl, ?_, ?_⟩
            · rw [h8]; omega
            · intro j hj
              rw [h8] at hj
              exact absurd hj (by omega)
            
          · refine w_alu (pc' := 59) (st' := [.int (Int32.ofInt 0)]) (ykc_54 (e := (0, .iconst 0, 0)) rfl) rfl rfl ?_
            refine w_store (pc' := 61) (L' := [some (.ref 154), some (.ref 1), some (.ref 5), some (.int (zn 4)), some (.int zr), some (.int (zn ln)), some (.int (zn (5 * l))), some (.int (zn l)), some (.int (Int32.ofInt 0))]) (st' := []) (m := 2) (ykc_54 (e := (3, .istore 8, 0)) rfl) rfl rfl ?_
            exact hin (by omega) _ (Nat.le_refl _) 0 ph2 (Nat.zero_le _) hf hg rfl (fun k hk => absurd hk (Nat.not_lt_zero k))
    exact hl n 0 _ ph1719 (Nat.zero_le _) (Nat.zero_le _) zFr_refl e0 (fun j hj => absurd hj (Nat.not_lt_zero j))
  · refine w_alu (pc' := 37) (st' := [.int (Int32.ofInt 0)]) (ykc_54 (e := (0, .iconst 0, 0)) rfl) rfl rfl ?_
    refine w_ret (v := (some (.int (Int32.ofInt 0)))) (ykc_54 (e := (7, .ireturn, 0)) rfl) (zr_v rfl) ?_
    have e0 : zLa R C rk 4 5 ln t room = 0 := if_pos (by omega)
    rw [hQ]
    exact ⟨(zFr_trans (zFr_trans (zFr_st u1710 (Or.inr (by simp))) (zFr_st u1714 (Or.inr (by simp)))) (zFr_st u1718 (Or.inr (by simp)))), ((u1718.2.1 154 2 (fun q => absurd q.1 (by decide))).trans ((u1714.2.1 154 2 (fun q => absurd q.1 (by decide))).trans u1710.1)), _, rfl, by rw [e0]; omega, fun l hl => absurd hl (by rw [e0]; omega)⟩
theorem zc_tdig2 {ph : pm_H} {R C ln : Nat} {rk : Nat → Bool} {t : Nat → Nat} (hS : zSh ph) (hL : zCl ph R C rk) {l i : Nat} {x : Int32} (hl8 : l < 8) (hi : i < 2) (hw : zc ph 154 2 = some (.int (zn 2))) (hb : ∀ i, i < 2 → zc ph 156 i = some (.int (zn (zLb R C i)))) (hx : x.toInt = zDi ln t (3 * l + i)) (hpr : i = 1 → zLk R C rk 2 ln t (3 * l) 0 = true ∧ zc ph 155 (l * 2) = some (.int (zn (t (3 * l) - 48)))) : zM 55 [.ref 154, .int x, .int (zn l), .int (zn i), .ref 5] ph (fun v0 q => zFr [155] [] ph q ∧ ((zLk R C rk 2 ln t (3 * l) i = true ∧ v0 = some (.int (zI true)) ∧ zst ph q 155 (l * 2 + i) (.int (zn (t (3 * l + i) - 48)))) ∨ (zLk R C rk 2 ln t (3 * l) i = false ∧ v0 = some (.int (zI false))))) := by
  obtain ⟨Q, hQ⟩ : ∃ Q : Option Value → pm_H → Prop, Q = (fun v0 q => zFr [155] [] ph q ∧ ((zLk R C rk 2 ln t (3 * l) i = true ∧ v0 = some (.int (zI true)) ∧ zst ph q 155 (l * 2 + i) (.int (zn (t (3 * l + i) - 48)))) ∨ (zLk R C rk 2 ln t (3 * l) i = false ∧ v0 = some (.int (zI false))))) := ⟨_, rfl⟩
  rw [← hQ]
  refine zM_mk fun n D => ?_
  show zW n D 55 Q 0 [some (.ref 154), some (.int x), some (.int (zn l)), some (.int (zn i)), some (.ref 5), none, none] [] ph
  have c_0 : (Int32.ofInt 0).toInt = 0 := by decide
  have c_1 : (Int32.ofInt 1).toInt = 1 := by decide
  have c_2 : (Int32.ofInt 4).toInt = 4 := by decide
  obtain ⟨gR, gC, gN, gK, gA, hR3, hR7, hC3, hC7⟩ := hL
  have hL0 : zCl ph R C rk := ⟨gR, gC, gN, gK, gA, hR3, hR7, hC3, hC7⟩
  have hRC := zRC49 hR7 hC7
  have tl := znt (k := l) (by omega)
  have ti := znt (k := i) (by omega)
  have tw := znt (k := 2) (by omega)
  have d9 := @zDi_c ln (3 * l + i) t
  have b9 := @zLb_b R C i hR7 hC7
  have tb9 := znt (k := zLb R C i) (by omega)
  refine w_load (pc' := 1) (v := .int (zn l)) (m := 1) (ykc_55 (e := (2, .iload_n kF2, 0)) rfl) rfl rfl ?_
  refine w_load (pc' := 2) (v := .ref 154) (m := 1) (ykc_55 (e := (2, .aload_n kF0, 0)) rfl) rfl rfl ?_
  refine w_gf (pc' := 5) (v := .int (zn 2)) (ykc_55 (e := (5, .getfield 18, 0)) rfl) rfl hw rfl ?_
  have e1750 : (zn l) * (zn 2) = zn (l * 2) := zn_of (by rw [ti_mul (by rw [show (zn l).toInt = ((l : Nat) : Int) by omega, show (zn 2).toInt = ((2 : Nat) : Int) by omega]; omega) (by rw [show (zn l).toInt = ((l : Nat) : Int) by omega, show (zn 2).toInt = ((2 : Nat) : Int) by omega]; omega), show (zn l).toInt = ((l : Nat) : Int) by omega, show (zn 2).toInt = ((2 : Nat) : Int) by omega] <;> omega)
  have te1750 := znt (k := l * 2) (by omega)
  refine w_alu (pc' := 6) (st' := [.int (zn (l * 2))]) (ykc_55 (e := (0, .imul, 0)) rfl) (by rw [← e1750]; rfl) rfl ?_
  refine w_load (pc' := 7) (v := .int (zn i)) (m := 1) (ykc_55 (e := (2, .iload_n kF3, 0)) rfl) rfl rfl ?_
  have e1751 : (zn (l * 2)) + (zn i) = zn (l * 2 + i) := (zaddN (a := l * 2) (b := i) (znt (by omega)) (znt (by omega)) (by omega)) 
  have te1751 := znt (k := l * 2 + i) (by omega)
  refine w_alu (pc' := 8) (st' := [.int (zn (l * 2 + i))]) (ykc_55 (e := (0, .iadd, 0)) rfl) (by rw [← e1751]; rfl) rfl ?_
  refine w_store (pc' := 10) (L' := [some (.ref 154), some (.int x), some (.int (zn l)), some (.int (zn i)), some (.ref 5), some (.int (zn (l * 2 + i))), none]) (st' := []) (m := 2) (ykc_55 (e := (3, .istore 5, 0)) rfl) rfl rfl ?_
  refine w_load (pc' := 11) (v := .int (zn i)) (m := 1) (ykc_55 (e := (2, .iload_n kF3, 0)) rfl) rfl rfl ?_
  refine w_zlt (ykc_55 (e := (4, .ifCond .lt 27, 38)) rfl) rfl (fun q => by exfalso; omega) (fun b1752 => ?_)
  refine w_load (pc' := 15) (v := .int (zn i)) (m := 1) (ykc_55 (e := (2, .iload_n kF3, 0)) rfl) rfl rfl ?_
  refine w_load (pc' := 16) (v := .ref 154) (m := 1) (ykc_55 (e := (2, .aload_n kF0, 0)) rfl) rfl rfl ?_
  refine w_gf (pc' := 19) (v := .ref 156) (ykc_55 (e := (5, .getfield 15, 0)) rfl) rfl (zsg hS zs_154_1) rfl ?_
  have cn1753 : (Int32.ofNat 4).toInt = 4 := by decide
  refine w_aln (ykc_55 (e := (5, .arraylength, 0)) rfl) (zsl hS zl_156) rfl ?_
  refine w_ige (ykc_55 (e := (4, .if_icmp .ge 18, 38)) rfl) rfl (fun q => by exfalso; omega) (fun b1754 => ?_)
  refine w_load (pc' := 25) (v := .int (zn (l * 2 + i))) (m := 2) (ykc_55 (e := (2, .iload 5, 0)) rfl) rfl rfl ?_
  refine w_zlt (ykc_55 (e := (4, .ifCond .lt 13, 38)) rfl) rfl (fun q => by exfalso; omega) (fun b1755 => ?_)
  refine w_load (pc' := 30) (v := .int (zn (l * 2 + i))) (m := 2) (ykc_55 (e := (2, .iload 5, 0)) rfl) rfl rfl ?_
  refine w_load (pc' := 31) (v := .ref 154) (m := 1) (ykc_55 (e := (2, .aload_n kF0, 0)) rfl) rfl rfl ?_
  refine w_gf (pc' := 34) (v := .ref 155) (ykc_55 (e := (5, .getfield 11, 0)) rfl) rfl (zsg hS zs_154_0) rfl ?_
  have cn1756 : (Int32.ofNat 32).toInt = 32 := by decide
  refine w_aln (ykc_55 (e := (5, .arraylength, 0)) rfl) (zsl hS zl_155) rfl ?_
  refine w_ilt (ykc_55 (e := (4, .if_icmp .lt 5, 40)) rfl) rfl (fun b1757 => ?_) (fun q => by exfalso; omega)
  refine w_load (pc' := 41) (v := .int x) (m := 1) (ykc_55 (e := (2, .iload_n kF1, 0)) rfl) rfl rfl ?_
  refine w_zlt (ykc_55 (e := (4, .ifCond .lt 13, 54)) rfl) rfl (fun b1758 => ?_) (fun b1758 => ?_)
  · refine w_alu (pc' := 55) (st' := [.int (Int32.ofInt 0)]) (ykc_55 (e := (0, .iconst 0, 0)) rfl) rfl rfl ?_
    refine w_ret (v := (some (.int (Int32.ofInt 0)))) (ykc_55 (e := (7, .ireturn, 0)) rfl) zr_z ?_
    rw [hQ, zi0]
    exact ⟨zFr_refl, Or.inr ⟨zLk_0 (by omega), rfl⟩⟩
  · refine w_load (pc' := 45) (v := .int x) (m := 1) (ykc_55 (e := (2, .iload_n kF1, 0)) rfl) rfl rfl ?_
    refine w_load (pc' := 46) (v := .ref 154) (m := 1) (ykc_55 (e := (2, .aload_n kF0, 0)) rfl) rfl rfl ?_
    refine w_gf (pc' := 49) (v := .ref 156) (ykc_55 (e := (5, .getfield 15, 0)) rfl) rfl (zsg hS zs_154_1) rfl ?_
    refine w_load (pc' := 50) (v := .int (zn i)) (m := 1) (ykc_55 (e := (2, .iload_n kF3, 0)) rfl) rfl rfl ?_
    refine w_ialk (pc' := 51) (k := i) (ykc_55 (e := (5, .iaload, 0)) rfl) (hb i (by omega)) (by omega) rfl ?_
    refine w_ilt (ykc_55 (e := (4, .if_icmp .lt 5, 56)) rfl) rfl (fun b1759 => ?_) (fun b1759 => ?_)
    · have ex : x = zn (t (3 * l + i) - 48) := zn_of (by omega)
      refine w_load (pc' := 57) (v := .ref 154) (m := 1) (ykc_55 (e := (2, .aload_n kF0, 0)) rfl) rfl rfl ?_
      refine w_gf (pc' := 60) (v := .ref 155) (ykc_55 (e := (5, .getfield 11, 0)) rfl) rfl (zsg hS zs_154_0) rfl ?_
      refine w_load (pc' := 62) (v := .int (zn (l * 2 + i))) (m := 2) (ykc_55 (e := (2, .iload 5, 0)) rfl) rfl rfl ?_
      refine w_load (pc' := 63) (v := .int x) (m := 1) (ykc_55 (e := (2, .iload_n kF1, 0)) rfl) rfl rfl ?_
      refine w_ias (pc' := 64) (k := l * 2 + i) (ykc_55 (e := (5, .iastore, 0)) rfl) (by omega) rfl (fun ph1761 u1760 => ?_)
      have hu : zst ph ph1761 155 (l * 2 + i) (.int (zn (t (3 * l + i) - 48))) := by rw [← ex]; exact u1760
      refine w_load (pc' := 65) (v := .ref 154) (m := 1) (ykc_55 (e := (2, .aload_n kF0, 0)) rfl) rfl rfl ?_
      refine w_gf (pc' := 68) (v := .int (zn 2)) (ykc_55 (e := (5, .getfield 18, 0)) rfl) rfl ((u1760.2.1 154 2 (fun q => absurd q.1 (by decide))).trans hw) rfl ?_
      refine w_alu (pc' := 69) (st' := [.int (Int32.ofInt 4), .int (zn 2)]) (ykc_55 (e := (0, .iconst 4, 0)) rfl) rfl rfl ?_
      refine w_ine (ykc_55 (e := (4, .if_icmp .ne 17, 86)) rfl) rfl (fun b1762 => ?_) (fun q => by exfalso; omega)
      refine w_alu (pc' := 87) (st' := [.int (Int32.ofInt 0)]) (ykc_55 (e := (0, .iconst 0, 0)) rfl) rfl rfl ?_
      refine w_store (pc' := 89) (L' := [some (.ref 154), some (.int x), some (.int (zn l)), some (.int (zn i)), some (.ref 5), some (.int (zn (l * 2 + i))), some (.int (Int32.ofInt 0))]) (st' := []) (m := 2) (ykc_55 (e := (3, .istore 6, 0)) rfl) rfl rfl ?_
      refine w_load (pc' := 91) (v := .int (Int32.ofInt 0)) (m := 2) (ykc_55 (e := (2, .iload 6, 0)) rfl) rfl rfl ?_
      refine w_zeq (ykc_55 (e := (4, .ifCond .eq 26, 117)) rfl) rfl (fun b1763 => ?_) (fun q => by exfalso; omega)
      refine w_alu (pc' := 118) (st' := [.int (Int32.ofInt 1)]) (ykc_55 (e := (0, .iconst 1, 0)) rfl) rfl rfl ?_
      refine w_br (pc' := 122) (st' := [.int (Int32.ofInt 1)]) (ykc_55 (e := (4, .goto 4, 122)) rfl) rfl ?_
      refine w_ret (v := (some (.int (Int32.ofInt 1)))) (ykc_55 (e := (7, .ireturn, 0)) rfl) zr_z ?_
      rw [hQ, zi1]
      exact ⟨zFr_st u1760 (Or.inl (by simp)), Or.inl ⟨zLk_1 (by omega) (Or.inl (by omega)), rfl, hu⟩⟩
    · refine w_alu (pc' := 55) (st' := [.int (Int32.ofInt 0)]) (ykc_55 (e := (0, .iconst 0, 0)) rfl) rfl rfl ?_
      refine w_ret (v := (some (.int (Int32.ofInt 0)))) (ykc_55 (e := (7, .ireturn, 0)) rfl) zr_z ?_
      rw [hQ, zi0]
      exact ⟨zFr_refl, Or.inr ⟨zLk_0 (by omega), rfl⟩⟩
theorem zc_ldig2 {ph : pm_H} {l i d : Nat} {x y : Int32} (hS : zSh ph) (hw : zc ph 154 2 = some (.int (zn 2))) (hx : x.toInt = (l : Int)) (hy : y.toInt = (i : Int)) (hl : l < 8) (hi : i < 2) (hd : zc ph 155 (l * 2 + i) = some (.int (zn d))) : zM 53 [.ref 154, .int x, .int y] ph (fun v0 q => ph = q ∧ v0 = some (.int (zn d))) := by
  obtain ⟨Q, hQ⟩ : ∃ Q : Option Value → pm_H → Prop, Q = (fun v0 q => ph = q ∧ v0 = some (.int (zn d))) := ⟨_, rfl⟩
  rw [← hQ]
  refine zM_mk fun n D => ?_
  show zW n D 53 Q 0 [some (.ref 154), some (.int x), some (.int y), none] [] ph
  have c_0 : (Int32.ofInt (-1)).toInt = -1 := by decide
  have tw := znt (k := 2) (by omega)
  refine w_load (pc' := 1) (v := .int x) (m := 1) (ykc_53 (e := (2, .iload_n kF1, 0)) rfl) rfl rfl ?_
  refine w_load (pc' := 2) (v := .ref 154) (m := 1) (ykc_53 (e := (2, .aload_n kF0, 0)) rfl) rfl rfl ?_
  refine w_gf (pc' := 5) (v := .int (zn 2)) (ykc_53 (e := (5, .getfield 18, 0)) rfl) rfl hw rfl ?_
  have e1764 : x * (zn 2) = zn (l * 2) := zn_of (by rw [ti_mul (by rw [show x.toInt = ((l : Nat) : Int) by omega, show (zn 2).toInt = ((2 : Nat) : Int) by omega]; omega) (by rw [show x.toInt = ((l : Nat) : Int) by omega, show (zn 2).toInt = ((2 : Nat) : Int) by omega]; omega), show x.toInt = ((l : Nat) : Int) by omega, show (zn 2).toInt = ((2 : Nat) : Int) by omega] <;> omega)
  have te1764 := znt (k := l * 2) (by omega)
  refine w_alu (pc' := 6) (st' := [.int (zn (l * 2))]) (ykc_53 (e := (0, .imul, 0)) rfl) (by rw [← e1764]; rfl) rfl ?_
  refine w_load (pc' := 7) (v := .int y) (m := 1) (ykc_53 (e := (2, .iload_n kF2, 0)) rfl) rfl rfl ?_
  have e1765 : (zn (l * 2)) + y = zn (l * 2 + i) := (zaddN (a := l * 2) (b := i) (znt (by omega)) (by omega) (by omega)) 
  have te1765 := znt (k := l * 2 + i) (by omega)
  refine w_alu (pc' := 8) (st' := [.int (zn (l * 2 + i))]) (ykc_53 (e := (0, .iadd, 0)) rfl) (by rw [← e1765]; rfl) rfl ?_
  refine w_store (pc' := 9) (L' := [some (.ref 154), some (.int x), some (.int y), some (.int (zn (l * 2 + i)))]) (st' := []) (m := 1) (ykc_53 (e := (3, .istore_n kF3, 0)) rfl) rfl rfl ?_
  refine w_load (pc' := 10) (v := .int (zn (l * 2 + i))) (m := 1) (ykc_53 (e := (2, .iload_n kF3, 0)) rfl) rfl rfl ?_
  refine w_zlt (ykc_53 (e := (4, .ifCond .lt 21, 31)) rfl) rfl (fun q => by exfalso; omega) (fun b1766 => ?_)
  refine w_load (pc' := 14) (v := .int (zn (l * 2 + i))) (m := 1) (ykc_53 (e := (2, .iload_n kF3, 0)) rfl) rfl rfl ?_
  refine w_load (pc' := 15) (v := .ref 154) (m := 1) (ykc_53 (e := (2, .aload_n kF0, 0)) rfl) rfl rfl ?_
  refine w_gf (pc' := 18) (v := .ref 155) (ykc_53 (e := (5, .getfield 11, 0)) rfl) rfl (zsg hS zs_154_0) rfl ?_
  have cn1767 : (Int32.ofNat 32).toInt = 32 := by decide
  refine w_aln (ykc_53 (e := (5, .arraylength, 0)) rfl) (zsl hS zl_155) rfl ?_
  refine w_ige (ykc_53 (e := (4, .if_icmp .ge 12, 31)) rfl) rfl (fun q => by exfalso; omega) (fun b1768 => ?_)
  refine w_load (pc' := 23) (v := .ref 154) (m := 1) (ykc_53 (e := (2, .aload_n kF0, 0)) rfl) rfl rfl ?_
  refine w_gf (pc' := 26) (v := .ref 155) (ykc_53 (e := (5, .getfield 11, 0)) rfl) rfl (zsg hS zs_154_0) rfl ?_
  refine w_load (pc' := 27) (v := .int (zn (l * 2 + i))) (m := 1) (ykc_53 (e := (2, .iload_n kF3, 0)) rfl) rfl rfl ?_
  refine w_ialk (pc' := 28) (k := l * 2 + i) (ykc_53 (e := (5, .iaload, 0)) rfl) hd (by omega) rfl ?_
  refine w_br (pc' := 32) (st' := [.int (zn d)]) (ykc_53 (e := (4, .goto 4, 32)) rfl) rfl ?_
  refine w_ret (v := (some (.int (zn d)))) (ykc_53 (e := (7, .ireturn, 0)) rfl) (zr_v rfl) ?_
  rw [hQ]
  exact ⟨rfl, rfl⟩
theorem zc_lread2 {ph : pm_H} {R C ln : Nat} {rk : Nat → Bool} {t : Nat → Nat} (hS : zSh ph) (hL : zCl ph R C rk) (hT : zTc ph ln t) (hB : zBd ph) {zw zr : Int32} {room : Nat} (hzw : zw.toInt = 2) (hzr : zr.toInt = (room : Int)) (hroom : room ≤ 8) : zM 54 [.ref 154, .ref 1, .ref 5, .int zw, .int zr] ph (fun v0 q => zFr [155] [(154, 2), (156, 0), (156, 1)] ph q ∧ zc q 154 2 = some (.int (zn 2)) ∧ ∃ z : Int32, v0 = some (.int z) ∧ z.toInt = zLa R C rk 2 3 ln t room ∧ ∀ l : Nat, (l : Int) < zLa R C rk 2 3 ln t room → zLg R C rk 2 ln t (3 * l) 2 = 2 ∧ ∀ i, i < 2 → zc q 155 (l * 2 + i) = some (.int (zn (t (3 * l + i) - 48)))) := by
  obtain ⟨Q, hQ⟩ : ∃ Q : Option Value → pm_H → Prop, Q = (fun v0 q => zFr [155] [(154, 2), (156, 0), (156, 1)] ph q ∧ zc q 154 2 = some (.int (zn 2)) ∧ ∃ z : Int32, v0 = some (.int z) ∧ z.toInt = zLa R C rk 2 3 ln t room ∧ ∀ l : Nat, (l : Int) < zLa R C rk 2 3 ln t room → zLg R C rk 2 ln t (3 * l) 2 = 2 ∧ ∀ i, i < 2 → zc q 155 (l * 2 + i) = some (.int (zn (t (3 * l + i) - 48)))) := ⟨_, rfl⟩
  rw [← hQ]
  refine zM_mk fun n D => ?_
  show zW n D 54 Q 0 [some (.ref 154), some (.ref 1), some (.ref 5), some (.int zw), some (.int zr), none, none, none, none] [] ph
  have c_0 : ((Int8.ofInt 59).toInt32).toInt = 59 := by decide
  have c_1 : ((Int8.ofInt 8).toInt32).toInt = 8 := by decide
  have c_2 : (Int32.ofInt (-1)).toInt = -1 := by decide
  have c_3 : (Int32.ofInt 0).toInt = 0 := by decide
  have c_4 : (Int32.ofInt 1).toInt = 1 := by decide
  have hRC49 : R * C ≤ 49 := zRC49 hL.2.2.2.2.2.2.1 hL.2.2.2.2.2.2.2.2
  have hR37 : 3 ≤ R ∧ R ≤ 7 := ⟨hL.2.2.2.2.2.1, hL.2.2.2.2.2.2.1⟩
  have hC37 : 3 ≤ C ∧ C ≤ 7 := hL.2.2.2.2.2.2.2
  obtain rfl : zw = zn 2 := zn_of hzw
  have tw := znt (k := 2) (by omega)
  have tR := znt (k := R) (by omega)
  have tC := znt (k := C) (by omega)
  have hT0 := hT
  show zW n D 54 Q 0 [some (.ref 154), some (.ref 1), some (.ref 5), some (.int (zn 2)), some (.int zr), none, none, none, none] [] ph
  obtain ⟨gn, hn80, gt⟩ := hT
  have tn := znt (k := ln) (by omega)
  refine w_load (pc' := 1) (v := .ref 154) (m := 1) (ykc_54 (e := (2, .aload_n kF0, 0)) rfl) rfl rfl ?_
  refine w_load (pc' := 2) (v := .int (zn 2)) (m := 1) (ykc_54 (e := (2, .iload_n kF3, 0)) rfl) rfl rfl ?_
  refine w_pf (pc' := 5) (ykc_54 (e := (5, .putfield 18, 0)) rfl) rfl rfl (fun ph1770 u1769 => ?_)
  refine w_load (pc' := 6) (v := .ref 154) (m := 1) (ykc_54 (e := (2, .aload_n kF0, 0)) rfl) rfl rfl ?_
  refine w_gf (pc' := 9) (v := .ref 156) (ykc_54 (e := (5, .getfield 15, 0)) rfl) rfl ((u1769.2.1 154 1 (fun q => absurd q.2 (by decide))).trans (zsg hS zs_154_1)) rfl ?_
  refine w_alu (pc' := 10) (st' := [.int (Int32.ofInt 0), .ref 156]) (ykc_54 (e := (0, .iconst 0, 0)) rfl) rfl rfl ?_
  refine w_load (pc' := 11) (v := .ref 5) (m := 1) (ykc_54 (e := (2, .aload_n kF2, 0)) rfl) rfl rfl ?_
  refine w_cv (as := [.ref 5]) (r := [.int (Int32.ofInt 0), .ref 156]) (ykc_54 (e := (6, .invokevirtual 22, 0)) rfl) rfl rfl rfl rfl (zc_rows (zSh_F ((zFr_st u1769 (Or.inr (by simp))) : zFr [155] [(154, 2), (156, 0), (156, 1)] ph _) (by decide +kernel) hS) (zCl_F ((zFr_st u1769 (Or.inr (by simp))) : zFr [155] [(154, 2), (156, 0), (156, 1)] ph _) (by simp) (by intro i hi; simp <;> omega) (by simp) hL)) (fun v1771 ph1772 hv => ?_)
  obtain ⟨rfl, rfl⟩ := hv
  show zW n D 54 Q 14 [some (.ref 154), some (.ref 1), some (.ref 5), some (.int (zn 2)), some (.int zr), none, none, none, none] [.int (zn R), .int (Int32.ofInt 0), .ref 156] ph1770
  refine w_ias (pc' := 15) (k := 0) (ykc_54 (e := (5, .iastore, 0)) rfl) (by omega) rfl (fun ph1774 u1773 => ?_)
  refine w_load (pc' := 16) (v := .ref 154) (m := 1) (ykc_54 (e := (2, .aload_n kF0, 0)) rfl) rfl rfl ?_
  refine w_gf (pc' := 19) (v := .ref 156) (ykc_54 (e := (5, .getfield 15, 0)) rfl) rfl ((u1773.2.1 154 1 (fun q => absurd q.1 (by decide))).trans ((u1769.2.1 154 1 (fun q => absurd q.2 (by decide))).trans (zsg hS zs_154_1))) rfl ?_
  refine w_alu (pc' := 20) (st' := [.int (Int32.ofInt 1), .ref 156]) (ykc_54 (e := (0, .iconst 1, 0)) rfl) rfl rfl ?_
  refine w_load (pc' := 21) (v := .ref 5) (m := 1) (ykc_54 (e := (2, .aload_n kF2, 0)) rfl) rfl rfl ?_
  refine w_cv (as := [.ref 5]) (r := [.int (Int32.ofInt 1), .ref 156]) (ykc_54 (e := (6, .invokevirtual 28, 0)) rfl) rfl rfl rfl rfl (zc_cols (zSh_F ((zFr_trans (zFr_st u1769 (Or.inr (by simp))) (zFr_st u1773 (Or.inr (by simp)))) : zFr [155] [(154, 2), (156, 0), (156, 1)] ph _) (by decide +kernel) hS) (zCl_F ((zFr_trans (zFr_st u1769 (Or.inr (by simp))) (zFr_st u1773 (Or.inr (by simp)))) : zFr [155] [(154, 2), (156, 0), (156, 1)] ph _) (by simp) (by intro i hi; simp <;> omega) (by simp) hL)) (fun v1775 ph1776 hv => ?_)
  obtain ⟨rfl, rfl⟩ := hv
  show zW n D 54 Q 24 [some (.ref 154), some (.ref 1), some (.ref 5), some (.int (zn 2)), some (.int zr), none, none, none, none] [.int (zn C), .int (Int32.ofInt 1), .ref 156] ph1774
  refine w_ias (pc' := 25) (k := 1) (ykc_54 (e := (5, .iastore, 0)) rfl) (by omega) rfl (fun ph1778 u1777 => ?_)
  refine w_load (pc' := 26) (v := .ref 1) (m := 1) (ykc_54 (e := (2, .aload_n kF1, 0)) rfl) rfl rfl ?_
  refine w_cv (as := [.ref 1]) (r := []) (ykc_54 (e := (6, .invokevirtual 31, 0)) rfl) rfl rfl rfl rfl (zc_tsize ((u1777.2.1 1 1 (fun q => absurd q.1 (by decide))).trans ((u1773.2.1 1 1 (fun q => absurd q.1 (by decide))).trans ((u1769.2.1 1 1 (fun q => absurd q.1 (by decide))).trans gn)))) (fun v1779 ph1780 hv => ?_)
  obtain ⟨rfl, rfl⟩ := hv
  show zW n D 54 Q 29 [some (.ref 154), some (.ref 1), some (.ref 5), some (.int (zn 2)), some (.int zr), none, none, none, none] [.int (zn ln)] ph1778
  refine w_store (pc' := 31) (L' := [some (.ref 154), some (.ref 1), some (.ref 5), some (.int (zn 2)), some (.int zr), some (.int (zn ln)), none, none, none]) (st' := []) (m := 2) (ykc_54 (e := (3, .istore 5, 0)) rfl) rfl rfl ?_
  refine w_load (pc' := 33) (v := .int (zn ln)) (m := 2) (ykc_54 (e := (2, .iload 5, 0)) rfl) rfl rfl ?_
  refine w_zne (ykc_54 (e := (4, .ifCond .ne 5, 38)) rfl) rfl (fun b1781 => ?_) (fun b1781 => ?_)
  · refine w_alu (pc' := 39) (st' := [.int (Int32.ofInt 0)]) (ykc_54 (e := (0, .iconst 0, 0)) rfl) rfl rfl ?_
    refine w_store (pc' := 41) (L' := [some (.ref 154), some (.ref 1), some (.ref 5), some (.int (zn 2)), some (.int zr), some (.int (zn ln)), some (.int (Int32.ofInt 0)), none, none]) (st' := []) (m := 2) (ykc_54 (e := (3, .istore 6, 0)) rfl) rfl rfl ?_
    refine w_alu (pc' := 42) (st' := [.int (Int32.ofInt 0)]) (ykc_54 (e := (0, .iconst 0, 0)) rfl) rfl rfl ?_
    refine w_store (pc' := 44) (L' := [some (.ref 154), some (.ref 1), some (.ref 5), some (.int (zn 2)), some (.int zr), some (.int (zn ln)), some (.int (Int32.ofInt 0)), some (.int (Int32.ofInt 0)), none]) (st' := []) (m := 2) (ykc_54 (e := (3, .istore 7, 0)) rfl) rfl rfl ?_
    have f1 : zFr [155] [(154, 2), (156, 0), (156, 1)] ph ph1778 := (zFr_trans (zFr_trans (zFr_st u1769 (Or.inr (by simp))) (zFr_st u1773 (Or.inr (by simp)))) (zFr_st u1777 (Or.inr (by simp))))
    have h1542 := ((u1777.2.1 154 2 (fun q => absurd q.1 (by decide))).trans ((u1773.2.1 154 2 (fun q => absurd q.1 (by decide))).trans u1769.1))
    have h1560 := ((u1777.2.1 156 0 (fun q => absurd q.2 (by decide))).trans u1773.1)
    have h1561 := u1777.1
    have e0 : zLa R C rk 2 3 ln t room = zLo R C rk 2 3 ln t room 9 0 := if_neg (by omega)
    have hb1 : ∀ i, i < 2 → zc ph1778 156 i = some (.int (zn (zLb R C i))) := fun i hi => by
      rcases (show i = 0 ∨ i = 1 ∨ i = 2 ∨ i = 3 by omega) with e | e | e | e <;> subst e
      · exact h1560
      · exact h1561
      · exact (f1.1 156 2 (by decide) (by decide)).trans hB.1
      · exact (f1.1 156 3 (by decide) (by decide)).trans hB.2
    have hl : ∀ (n : Nat), ∀ (l : Nat) (x8 : Option Value) (ph2 : pm_H), (l ≤ 7) → (l ≤ room) → (zFr [155] [] ph1778 ph2) → (zLa R C rk 2 3 ln t room = zLo R C rk 2 3 ln t room (9 - l) l) → (∀ j, j < l → zLg R C rk 2 ln t (3 * j) 2 = 2 ∧ ∀ i, i < 2 → zc ph2 155 (j * 2 + i) = some (.int (zn (t (3 * j + i) - 48)))) → zW n D 54 Q 44 [some (.ref 154), some (.ref 1), some (.ref 5), some (.int (zn 2)), some (.int zr), some (.int (zn ln)), some (.int (zn (3 * l))), some (.int (zn l)), x8] [] ph2 := by
      intro n
      induction n using Nat.strongRecOn with
      | ind n ih =>
        intro l x8 ph2 hl hlm hf ha hg
        have tl := znt (k := l) (by omega)
        have tsl := znt (k := 3 * l) (by omega)
        have f2 : zFr [155] [(154, 2), (156, 0), (156, 1)] ph ph2 := zFr_trans f1 (zFr_mono hf (by simp) (by simp))
        have hS2 := zSh_F f2 (by decide +kernel) hS
        have hL2 := zCl_F f2 (by simp) (by intro i hi; simp <;> omega) (by simp) hL
        have hT2 := zTc_F f2 (by simp) (by simp) (by simp) hT0
        have hin : l ≠ room → ∀ (n1 : Nat), n1 ≤ n → ∀ (i : Nat) (ph2 : pm_H), i ≤ 2 → (zFr [155] [] ph1778 ph2) → (∀ j, j < l → zLg R C rk 2 ln t (3 * j) 2 = 2 ∧ ∀ i, i < 2 → zc ph2 155 (j * 2 + i) = some (.int (zn (t (3 * j + i) - 48)))) → (zLg R C rk 2 ln t (3 * l) i = i) → (∀ k, k < i → zc ph2 155 (l * 2 + k) = some (.int (zn (t (3 * l + k) - 48)))) → zW n1 D 54 Q 61 [some (.ref 154), some (.ref 1), some (.ref 5), some (.int (zn 2)), some (.int zr), some (.int (zn ln)), some (.int (zn (3 * l + i))), some (.int (zn l)), some (.int (zn i))] [] ph2 := by
          intro hlr n1
          induction n1 using Nat.strongRecOn with
          | ind n1 ih1 =>
            intro hn1 i ph2 hi hf hg hgi hst
            have tl := znt (k := l) (by omega)
            have tsl := znt (k := 3 * l) (by omega)
            have f2 : zFr [155] [(154, 2), (156, 0), (156, 1)] ph ph2 := zFr_trans f1 (zFr_mono hf (by simp) (by simp))
            have hS2 := zSh_F f2 (by decide +kernel) hS
            have hL2 := zCl_F f2 (by simp) (by intro i hi; simp <;> omega) (by simp) hL
            have hT2 := zTc_F f2 (by simp) (by simp) (by simp) hT0
            have ti := znt (k := i) (by omega)
            have tsi := znt (k := 3 * l + i) (by omega)
            refine w_load (pc' := 63) (v := .int (zn i)) (m := 2) (ykc_54 (e := (2, .iload 8, 0)) rfl) rfl rfl ?_
            refine w_load (pc' := 64) (v := .ref 154) (m := 1) (ykc_54 (e := (2, .aload_n kF0, 0)) rfl) rfl rfl ?_
            refine w_gf (pc' := 67) (v := .int (zn 2)) (ykc_54 (e := (5, .getfield 18, 0)) rfl) rfl ((hf.1 154 2 (by decide) (by decide)).trans h1542) rfl ?_
            refine w_ige (ykc_54 (e := (4, .if_icmp .ge 35, 102)) rfl) rfl (fun b1782 => ?_) (fun b1782 => ?_)
            · have ei : i = 2 := by omega
              subst ei
              show zW n1 D 54 Q 102 [some (.ref 154), some (.ref 1), some (.ref 5), some (.int (zn 2)), some (.int zr), some (.int (zn ln)), some (.int (zn (3 * l + 2))), some (.int (zn l)), some (.int (zn 2))] [] ph2
              have hin9 : 3 * l + 2 ≤ ln := by have h := zLk_d (zLg_a hgi (2 - 1) (by omega)); omega
              refine w_load (pc' := 104) (v := .int (zn (3 * l + 2))) (m := 2) (ykc_54 (e := (2, .iload 6, 0)) rfl) rfl rfl ?_
              refine w_load (pc' := 106) (v := .int (zn ln)) (m := 2) (ykc_54 (e := (2, .iload 5, 0)) rfl) rfl rfl ?_
              refine w_ine (ykc_54 (e := (4, .if_icmp .ne 8, 114)) rfl) rfl (fun b1783 => ?_) (fun b1783 => ?_)
              · refine w_load (pc' := 116) (v := .int (zn l)) (m := 2) (ykc_54 (e := (2, .iload 7, 0)) rfl) rfl rfl ?_
                refine w_alu (pc' := 117) (st' := [.int (Int32.ofInt 1), .int (zn l)]) (ykc_54 (e := (0, .iconst 1, 0)) rfl) rfl rfl ?_
                have e1784 : (zn l) + (Int32.ofInt 1) = zn (l + 1) := (zaddN (a := l) (b := 1) (znt (by omega)) c_4 (by omega)) 
                have te1784 := znt (k := l + 1) (by omega)
                refine w_alu (pc' := 118) (st' := [.int (zn (l + 1))]) (ykc_54 (e := (0, .iadd, 0)) rfl) (by rw [← e1784]; rfl) rfl ?_
                refine w_push (pc' := 120) (v := .int ((Int8.ofInt 8).toInt32)) (m := 2) (ykc_54 (e := (1, .bipush 8, 0)) rfl) rfl rfl ?_
                refine w_ieq (ykc_54 (e := (4, .if_icmp .eq 14, 134)) rfl) rfl (fun b1785 => ?_) (fun b1785 => ?_)
                · refine w_alu (pc' := 135) (st' := [.int (Int32.ofInt (-1))]) (ykc_54 (e := (0, .iconst (-1), 0)) rfl) rfl rfl ?_
                  refine w_load (pc' := 137) (v := .int (zn (3 * l + 2))) (m := 2) (ykc_54 (e := (2, .iload 6, 0)) rfl) rfl rfl ?_
                  obtain ⟨z1786, e_z1786, h_z1786⟩ : ∃ zq : Int32, (Int32.ofInt (-1)) - (zn (3 * l + 2)) = zq ∧ zq.toInt = (-1 : Int) - ((3 * l + 2 : Nat) : Int) := ⟨_, rfl, zm1sub (by omega) (by omega) (by omega)⟩
                  refine w_alu (pc' := 138) (st' := [.int z1786]) (ykc_54 (e := (0, .isub, 0)) rfl) (by rw [← e_z1786]; rfl) rfl ?_
                  refine w_ret (v := (some (.int z1786))) (ykc_54 (e := (7, .ireturn, 0)) rfl) (zr_v rfl) ?_
                  have h8 := ha.trans (zLo_3 (by omega) hlr hgi (by omega) (by omega))
                  rw [hQ]
                  refine ⟨f2, (hf.1 154 2 (by decide) (by decide)).trans h1542, _, rfl, ?_, ?_⟩
                  · rw [h8]; omega
                  · intro j hj
                    rw [h8] at hj
                    exact absurd hj (by omega)
                · refine w_load (pc' := 124) (v := .ref 1) (m := 1) (ykc_54 (e := (2, .aload_n kF1, 0)) rfl) rfl rfl ?_
                  refine w_load (pc' := 126) (v := .int (zn (3 * l + 2))) (m := 2) (ykc_54 (e := (2, .iload 6, 0)) rfl) rfl rfl ?_
                  refine w_cv (as := [.ref 1, .int (zn (3 * l + 2))]) (r := []) (ykc_54 (e := (6, .invokevirtual 44, 0)) rfl) rfl rfl rfl rfl (zc_at hS2 hT2 (k := 3 * l + 2) (by omega)) (fun v1787 ph1788 hv => ?_)
                  obtain ⟨rfl, xa, rfl, exa⟩ := hv
                  have da := @zTi_c ln (3 * l + 2) t
                  have ba := @zTi_b ln (3 * l + 2) t (fun h => (gt _ h).2)
                  show zW n1 D 54 Q 129 [some (.ref 154), some (.ref 1), some (.ref 5), some (.int (zn 2)), some (.int zr), some (.int (zn ln)), some (.int (zn (3 * l + 2))), some (.int (zn l)), some (.int (zn 2))] [.int xa] ph2
                  refine w_push (pc' := 131) (v := .int ((Int8.ofInt 59).toInt32)) (m := 2) (ykc_54 (e := (1, .bipush 59, 0)) rfl) rfl rfl ?_
                  refine w_ieq (ykc_54 (e := (4, .if_icmp .eq 8, 139)) rfl) rfl (fun b1789 => ?_) (fun b1789 => ?_)
                  · have e1790 : (zn (3 * l + 2)) + Int32.ofInt 1 = zn (3 * l + 2 + 1) := (zaddN (a := 3 * l + 2) (b := 1) (znt (by omega)) c_4 (by omega))
                    have te1790 := znt (k := 3 * l + 2 + 1) (by omega)
                    refine w_store (pc' := 142) (L' := [some (.ref 154), some (.ref 1), some (.ref 5), some (.int (zn 2)), some (.int zr), some (.int (zn ln)), some (.int (zn (3 * l + 2 + 1))), some (.int (zn l)), some (.int (zn 2))]) (st' := []) (m := 3) (ykc_54 (e := (3, .iinc 6 1, 0)) rfl) (by rw [← e1790]; rfl) rfl ?_
                    have e1791 : (zn l) + Int32.ofInt 1 = zn (l + 1) := (zaddN (a := l) (b := 1) (znt (by omega)) c_4 (by omega))
                    have te1791 := znt (k := l + 1) (by omega)
                    refine w_store (pc' := 145) (L' := [some (.ref 154), some (.ref 1), some (.ref 5), some (.int (zn 2)), some (.int zr), some (.int (zn ln)), some (.int (zn (3 * l + 2 + 1))), some (.int (zn (l + 1))), some (.int (zn 2))]) (st' := []) (m := 3) (ykc_54 (e := (3, .iinc 7 1, 0)) rfl) (by rw [← e1791]; rfl) rfl ?_
                    refine w_gb (ykc_54 (e := (4, .goto (-101), 44)) rfl) (fun k1792 hk1792 => ?_)
                    have h8 := ha.trans (zLo_4 (by omega) hlr hgi (by omega) (by omega))
                    rw [show 3 * l + 2 + 1 = 3 * (l + 1) by omega]
                    exact ih k1792 (by omega) (l + 1) _ ph2 (by omega) (by omega) hf h8 (fun j hj => by
                      by_cases e : j = l
                      · subst e; exact ⟨hgi, hst⟩
                      · exact hg j (by omega))
                  · refine w_alu (pc' := 135) (st' := [.int (Int32.ofInt (-1))]) (ykc_54 (e := (0, .iconst (-1), 0)) rfl) rfl rfl ?_
                    refine w_load (pc' := 137) (v := .int (zn (3 * l + 2))) (m := 2) (ykc_54 (e := (2, .iload 6, 0)) rfl) rfl rfl ?_
                    obtain ⟨z1793, e_z1793, h_z1793⟩ : ∃ zq : Int32, (Int32.ofInt (-1)) - (zn (3 * l + 2)) = zq ∧ zq.toInt = (-1 : Int) - ((3 * l + 2 : Nat) : Int) := ⟨_, rfl, zm1sub (by omega) (by omega) (by omega)⟩
                    refine w_alu (pc' := 138) (st' := [.int z1793]) (ykc_54 (e := (0, .isub, 0)) rfl) (by rw [← e_z1793]; rfl) rfl ?_
                    refine w_ret (v := (some (.int z1793))) (ykc_54 (e := (7, .ireturn, 0)) rfl) (zr_v rfl) ?_
                    have h8 := ha.trans (zLo_3 (by omega) hlr hgi (by omega) (by omega))
                    rw [hQ]
                    refine ⟨f2, (hf.1 154 2 (by decide) (by decide)).trans h1542, _, rfl, ?_, ?_⟩
                    · rw [h8]; omega
                    · intro j hj
                      rw [h8] at hj
                      exact absurd hj (by omega)
              · refine w_load (pc' := 111) (v := .int (zn l)) (m := 2) (ykc_54 (e := (2, .iload 7, 0)) rfl) rfl rfl ?_
                refine w_alu (pc' := 112) (st' := [.int (Int32.ofInt 1), .int (zn l)]) (ykc_54 (e := (0, .iconst 1, 0)) rfl) rfl rfl ?_
                have e1794 : (zn l) + (Int32.ofInt 1) = zn (l + 1) := (zaddN (a := l) (b := 1) (znt (by omega)) c_4 (by omega)) 
                have te1794 := znt (k := l + 1) (by omega)
                refine w_alu (pc' := 113) (st' := [.int (zn (l + 1))]) (ykc_54 (e := (0, .iadd, 0)) rfl) (by rw [← e1794]; rfl) rfl ?_
                refine w_ret (v := (some (.int (zn (l + 1))))) (ykc_54 (e := (7, .ireturn, 0)) rfl) (zr_v rfl) ?_
                have h8 := ha.trans (zLo_2 (by omega) hlr hgi (by omega))
                rw [hQ]
                refine ⟨f2, (hf.1 154 2 (by decide) (by decide)).trans h1542, _, rfl, ?_, ?_⟩
                · rw [h8]; omega
                · intro j hj
                  rw [h8] at hj
                  by_cases e : j = l
                  · subst e; exact ⟨hgi, hst⟩
                  · exact hg j (by omega)
              
            · refine w_load (pc' := 71) (v := .ref 154) (m := 1) (ykc_54 (e := (2, .aload_n kF0, 0)) rfl) rfl rfl ?_
              refine w_load (pc' := 72) (v := .ref 1) (m := 1) (ykc_54 (e := (2, .aload_n kF1, 0)) rfl) rfl rfl ?_
              refine w_load (pc' := 74) (v := .int (zn (3 * l + i))) (m := 2) (ykc_54 (e := (2, .iload 6, 0)) rfl) rfl rfl ?_
              refine w_cv (as := [.ref 1, .int (zn (3 * l + i))]) (r := [.ref 154]) (ykc_54 (e := (6, .invokevirtual 36, 0)) rfl) rfl rfl rfl rfl (zc_digit hS2 hT2 (k := 3 * l + i) (by omega)) (fun v1796 ph1797 hv => ?_)
              obtain ⟨rfl, xd, rfl, exd⟩ := hv
              show zW n1 D 54 Q 77 [some (.ref 154), some (.ref 1), some (.ref 5), some (.int (zn 2)), some (.int zr), some (.int (zn ln)), some (.int (zn (3 * l + i))), some (.int (zn l)), some (.int (zn i))] [.int xd, .ref 154] ph2
              refine w_load (pc' := 79) (v := .int (zn l)) (m := 2) (ykc_54 (e := (2, .iload 7, 0)) rfl) rfl rfl ?_
              refine w_load (pc' := 81) (v := .int (zn i)) (m := 2) (ykc_54 (e := (2, .iload 8, 0)) rfl) rfl rfl ?_
              refine w_load (pc' := 82) (v := .ref 5) (m := 1) (ykc_54 (e := (2, .aload_n kF2, 0)) rfl) rfl rfl ?_
              refine w_cv (as := [.ref 154, .int xd, .int (zn l), .int (zn i), .ref 5]) (r := []) (ykc_54 (e := (6, .invokevirtual 40, 0)) rfl) rfl rfl rfl rfl (zc_tdig2 hS2 hL2 (by omega) (by omega) ((hf.1 154 2 (by decide) (by decide)).trans h1542) (fun i hi => (hf.1 156 i (by decide) (by simp)).trans (hb1 i hi)) exd (fun e => by subst e; exact ⟨zLg_a hgi 0 (by omega), by have h := hst 0 (by omega); simpa using h⟩)) (fun v1798 ph1799 hv => ?_)
              rcases hv with ⟨ftd, ⟨hk9, rfl, htd⟩ | ⟨hk9, rfl⟩⟩
              · show zW n1 D 54 Q 85 [some (.ref 154), some (.ref 1), some (.ref 5), some (.int (zn 2)), some (.int zr), some (.int (zn ln)), some (.int (zn (3 * l + i))), some (.int (zn l)), some (.int (zn i))] [.int (zI true)] ph1799
                refine w_bne (ykc_54 (e := (4, .ifCond .ne 8, 93)) rfl) rfl (fun b1800 => ?_) (fun q => absurd q (by decide))
                have e1801 : (zn (3 * l + i)) + Int32.ofInt 1 = zn (3 * l + i + 1) := (zaddN (a := 3 * l + i) (b := 1) (znt (by omega)) c_4 (by omega))
                have te1801 := znt (k := 3 * l + i + 1) (by omega)
                refine w_store (pc' := 96) (L' := [some (.ref 154), some (.ref 1), some (.ref 5), some (.int (zn 2)), some (.int zr), some (.int (zn ln)), some (.int (zn (3 * l + i + 1))), some (.int (zn l)), some (.int (zn i))]) (st' := []) (m := 3) (ykc_54 (e := (3, .iinc 6 1, 0)) rfl) (by rw [← e1801]; rfl) rfl ?_
                have e1802 : (zn i) + Int32.ofInt 1 = zn (i + 1) := (zaddN (a := i) (b := 1) (znt (by omega)) c_4 (by omega))
                have te1802 := znt (k := i + 1) (by omega)
                refine w_store (pc' := 99) (L' := [some (.ref 154), some (.ref 1), some (.ref 5), some (.int (zn 2)), some (.int zr), some (.int (zn ln)), some (.int (zn (3 * l + i + 1))), some (.int (zn l)), some (.int (zn (i + 1)))]) (st' := []) (m := 3) (ykc_54 (e := (3, .iinc 8 1, 0)) rfl) (by rw [← e1802]; rfl) rfl ?_
                refine w_gb (ykc_54 (e := (4, .goto (-38), 61)) rfl) (fun k1803 hk1803 => ?_)
                exact ih1 k1803 hk1803 (by omega) (i + 1) _ (by omega) (zFr_trans hf ftd) (fun j hj => ⟨(hg j hj).1, fun k hk9 => (htd.2.1 155 (j * 2 + k) (fun q => by have q2 := q.2; omega)).trans ((hg j hj).2 k hk9)⟩) (zLg_s hgi hk9) (fun k hk => by
                  by_cases e : k = i
                  · subst e; exact htd.1
                  · exact (htd.2.1 155 (l * 2 + k) (fun q => e (by have q2 := q.2; omega))).trans (hst k (by omega)))
              · show zW n1 D 54 Q 85 [some (.ref 154), some (.ref 1), some (.ref 5), some (.int (zn 2)), some (.int zr), some (.int (zn ln)), some (.int (zn (3 * l + i))), some (.int (zn l)), some (.int (zn i))] [.int (zI false)] ph1799
                refine w_bne (ykc_54 (e := (4, .ifCond .ne 8, 93)) rfl) rfl (fun q => absurd q (by decide)) (fun b1804 => ?_)
                refine w_alu (pc' := 89) (st' := [.int (Int32.ofInt (-1))]) (ykc_54 (e := (0, .iconst (-1), 0)) rfl) rfl rfl ?_
                refine w_load (pc' := 91) (v := .int (zn (3 * l + i))) (m := 2) (ykc_54 (e := (2, .iload 6, 0)) rfl) rfl rfl ?_
                obtain ⟨z1805, e_z1805, h_z1805⟩ : ∃ zq : Int32, (Int32.ofInt (-1)) - (zn (3 * l + i)) = zq ∧ zq.toInt = (-1 : Int) - ((3 * l + i : Nat) : Int) := ⟨_, rfl, zm1sub (by omega) (by omega) (by omega)⟩
                refine w_alu (pc' := 92) (st' := [.int z1805]) (ykc_54 (e := (0, .isub, 0)) rfl) (by rw [← e_z1805]; rfl) rfl ?_
                refine w_ret (v := (some (.int z1805))) (ykc_54 (e := (7, .ireturn, 0)) rfl) (zr_v rfl) ?_
                have hlg : zLg R C rk 2 ln t (3 * l) 2 = i := by
                  have h := zLg_f hgi hk9 (2 - 1 - i)
                  rwa [show i + 1 + (2 - 1 - i) = 2 by omega] at h
                have h8 := ha.trans (zLo_1 (by omega) hlr (by omega))
                rw [hlg] at h8
                have f3 := zFr_trans f2 (zFr_mono ftd (by simp) (by simp) : zFr [155] [(154, 2), (156, 0), (156, 1)] ph2 _)
                rw [hQ]
                refine ⟨zFr_trans f2 (zFr_mono ftd (by simp) (by simp)), (ftd.1 154 2 (by decide) (by decide)).trans ((hf.1 154 2 (by decide) (by decide)).trans h1542), _, rfl, ?_, ?_⟩
                · rw [h8]; omega
                · intro j hj
                  rw [h8] at hj
                  exact absurd hj (by omega)
              
        refine w_load (pc' := 46) (v := .int (zn l)) (m := 2) (ykc_54 (e := (2, .iload 7, 0)) rfl) rfl rfl ?_
        refine w_push (pc' := 48) (v := .int ((Int8.ofInt 8).toInt32)) (m := 2) (ykc_54 (e := (1, .bipush 8, 0)) rfl) rfl rfl ?_
        refine w_ige (ykc_54 (e := (4, .if_icmp .ge 100, 148)) rfl) rfl (fun b1806 => ?_) (fun b1806 => ?_)
        · exfalso; omega
          
        · refine w_load (pc' := 53) (v := .int (zn l)) (m := 2) (ykc_54 (e := (2, .iload 7, 0)) rfl) rfl rfl ?_
          refine w_load (pc' := 55) (v := .int zr) (m := 2) (ykc_54 (e := (2, .iload 4, 0)) rfl) rfl rfl ?_
          refine w_ige (ykc_54 (e := (4, .if_icmp .ge 93, 148)) rfl) rfl (fun b1807 => ?_) (fun b1807 => ?_)
          · have hr : l = room := by omega
            refine w_alu (pc' := 149) (st' := [.int (Int32.ofInt (-1))]) (ykc_54 (e := (0, .iconst (-1), 0)) rfl) rfl rfl ?_
            refine w_load (pc' := 151) (v := .int (zn (3 * l))) (m := 2) (ykc_54 (e := (2, .iload 6, 0)) rfl) rfl rfl ?_
            obtain ⟨z1808, e_z1808, h_z1808⟩ : ∃ zq : Int32, (Int32.ofInt (-1)) - (zn (3 * l)) = zq ∧ zq.toInt = (-1 : Int) - ((3 * l : Nat) : Int) := ⟨_, rfl, zm1sub (by omega) (by omega) (by omega)⟩
            refine w_alu (pc' := 152) (st' := [.int z1808]) (ykc_54 (e := (0, .isub, 0)) rfl) (by rw [← e_z1808]; rfl) rfl ?_
            refine w_ret (v := (some (.int z1808))) (ykc_54 (e := (7, .ireturn, 0)) rfl) (zr_v rfl) ?_
            have h8 := ha.trans (zLo_0 (by omega) hr)
            rw [hQ]
            refine ⟨f2, (hf.1 154 2 (by decide) (by decide)).trans h1542, _, rfl, ?_, ?_⟩
            · rw [h8]; omega
            · intro j hj
              rw [h8] at hj
              exact absurd hj (by omega)
            
          · refine w_alu (pc' := 59) (st' := [.int (Int32.ofInt 0)]) (ykc_54 (e := (0, .iconst 0, 0)) rfl) rfl rfl ?_
            refine w_store (pc' := 61) (L' := [some (.ref 154), some (.ref 1), some (.ref 5), some (.int (zn 2)), some (.int zr), some (.int (zn ln)), some (.int (zn (3 * l))), some (.int (zn l)), some (.int (Int32.ofInt 0))]) (st' := []) (m := 2) (ykc_54 (e := (3, .istore 8, 0)) rfl) rfl rfl ?_
            exact hin (by omega) _ (Nat.le_refl _) 0 ph2 (Nat.zero_le _) hf hg rfl (fun k hk => absurd hk (Nat.not_lt_zero k))
    exact hl n 0 _ ph1778 (Nat.zero_le _) (Nat.zero_le _) zFr_refl e0 (fun j hj => absurd hj (Nat.not_lt_zero j))
  · refine w_alu (pc' := 37) (st' := [.int (Int32.ofInt 0)]) (ykc_54 (e := (0, .iconst 0, 0)) rfl) rfl rfl ?_
    refine w_ret (v := (some (.int (Int32.ofInt 0)))) (ykc_54 (e := (7, .ireturn, 0)) rfl) (zr_v rfl) ?_
    have e0 : zLa R C rk 2 3 ln t room = 0 := if_pos (by omega)
    rw [hQ]
    exact ⟨(zFr_trans (zFr_trans (zFr_st u1769 (Or.inr (by simp))) (zFr_st u1773 (Or.inr (by simp)))) (zFr_st u1777 (Or.inr (by simp)))), ((u1777.2.1 154 2 (fun q => absurd q.1 (by decide))).trans ((u1773.2.1 154 2 (fun q => absurd q.1 (by decide))).trans u1769.1)), _, rfl, by rw [e0]; omega, fun l hl => absurd hl (by rw [e0]; omega)⟩

/-! people and things of the class, by W; printed by wip/z/z1e_people.py -/
/-- one more of PEOPLE; k LINES of them; one more THING; k of them -/
def zad (v : Nat → Nat) (P f a b : Nat) : Nat → Nat := znu (znu (znu (znu v P f) (8 + P) a) (16 + P) b) (24 + P) 0
def zPv (C : Nat) (t : Nat → Nat) (P : Nat) (v : Nat → Nat) : Nat → Nat → Nat
  | 0 => v
  | k + 1 => zad (zPv C t P v k) (P + k) (zLf C t (5 * k)) (t (5 * k + 2) - 48) (t (5 * k + 3) - 48)
def zGv (C : Nat) (t : Nat → Nat) (G : Nat) (v : Nat → Nat) : Nat → Nat → Nat
  | 0 => v
  | k + 1 => znu (zGv C t G v k) (32 + (G + k)) (zLf C t (3 * k))
theorem znu_e {f : Nat → Nat} {i x : Nat} : znu f i x i = x := if_pos rfl
theorem znu_n {f : Nat → Nat} {i j x : Nat} (h : j ≠ i) : znu f i x j = f j := if_neg h
theorem zad_o {v : Nat → Nat} {P f a b j : Nat} (h : j ≠ P ∧ j ≠ 8 + P ∧ j ≠ 16 + P ∧ j ≠ 24 + P) : zad v P f a b j = v j := by
  unfold zad
  rw [znu_n h.2.2.2, znu_n h.2.2.1, znu_n h.2.1, znu_n h.1]
theorem zad_f {v : Nat → Nat} {P f a b : Nat} : zad v P f a b P = f ∧ zad v P f a b (8 + P) = a ∧ zad v P f a b (16 + P) = b ∧ zad v P f a b (24 + P) = 0 := by
  unfold zad
  refine ⟨?_, ?_, ?_, znu_e⟩
  · rw [znu_n (by omega), znu_n (by omega), znu_n (by omega), znu_e]
  · rw [znu_n (by omega), znu_n (by omega), znu_e]
  · rw [znu_n (by omega), znu_e]
theorem zOk_ad {R C P G f a b : Nat} {v : Nat → Nat} (hP : P < 8) (h : zOk R C P G v) (hf : f < R * C) (ha : a < 8) (hb : b ≤ 4) : zOk R C (P + 1) G (zad v P f a b) := by
  obtain ⟨e1, e2, e3, e4⟩ := @zad_f v P f a b
  refine ⟨fun p hp => ?_, fun t ht => ?_, ?_⟩
  · by_cases e : p = P
    · subst e
      rw [e1, e2, e3, e4]
      exact ⟨hf, ha, hb, by decide⟩
    · rw [zad_o (by omega), zad_o (by omega), zad_o (by omega), zad_o (by omega)]
      exact h.1 p (by omega)
  · rw [zad_o (by omega)]
    exact h.2.1 t ht
  · rw [zad_o (by omega)]
    exact h.2.2
theorem zOk_ag {R C P G f : Nat} {v : Nat → Nat} (hP : P ≤ 8) (hG : G < 8) (h : zOk R C P G v) (hf : f < R * C) : zOk R C P (G + 1) (znu v (32 + G) f) := by
  refine ⟨fun p hp => ?_, fun t ht => ?_, ?_⟩
  · rw [znu_n (by omega), znu_n (by omega), znu_n (by omega), znu_n (by omega)]
    exact h.1 p hp
  · by_cases e : t = G
    · subst e; rw [znu_e]; exact hf
    · rw [znu_n (by omega)]; exact h.2.1 t (by omega)
  · rw [znu_n (by omega)]
    exact h.2.2
theorem zPv_ok {R C P G n k : Nat} {rk : Nat → Bool} {t v : Nat → Nat} (hR : 3 ≤ R) (hC : 3 ≤ C) (h : zOk R C P G v) (hg : ∀ l, l < k → zLg R C rk 4 n t (5 * l) 4 = 4) (hk : P + k ≤ 8) : zOk R C (P + k) G (zPv C t P v k) := by
  induction k with
  | zero => exact h
  | succ k ih =>
    have h1 := ih (fun l hl => hg l (by omega)) (by omega)
    have g := hg k (by omega)
    have g0 := zLk_d (zLg_a g 0 (by omega))
    have g1 := zLk_d (zLg_a g 1 (by omega))
    have g2 := zLk_d (zLg_a g 2 (by omega))
    have g3 := zLk_d (zLg_a g 3 (by omega))
    have b0 : zLb R C 0 = R := rfl
    have b1 : zLb R C 1 = C := rfl
    have b2 : zLb R C 2 = 8 := rfl
    have b3 : zLb R C 3 = 5 := rfl
    rw [Nat.add_zero] at g0
    exact zOk_ad (show P + k < 8 by omega) h1 (zLf_lt (by omega) (by omega) (by omega) (by omega)) (by omega) (by omega)
theorem zGv_ok {R C P G n k : Nat} {rk : Nat → Bool} {t v : Nat → Nat} (hR : 3 ≤ R) (hC : 3 ≤ C) (hP : P ≤ 8) (h : zOk R C P G v) (hg : ∀ l, l < k → zLg R C rk 2 n t (3 * l) 2 = 2) (hk : G + k ≤ 8) : zOk R C P (G + k) (zGv C t G v k) := by
  induction k with
  | zero => exact h
  | succ k ih =>
    have h1 := ih (fun l hl => hg l (by omega)) (by omega)
    have g := hg k (by omega)
    have g0 := zLk_d (zLg_a g 0 (by omega))
    have g1 := zLk_d (zLg_a g 1 (by omega))
    have b0 : zLb R C 0 = R := rfl
    have b1 : zLb R C 1 = C := rfl
    rw [Nat.add_zero] at g0
    exact zOk_ag hP (show G + k < 8 by omega) h1 (zLf_lt (by omega) (by omega) (by omega) (by omega))
theorem zCk_F2 {A : List Nat} {F : List (Nat × Nat)} {p q : pm_H} {P G fl : Nat} {sv : Nat → Nat → Nat} (f : zFr A F p q) (h1 : 43 ∉ A) (h2 : (43, 4) ∉ F) (h3 : ∀ j, 136 ≤ j → j < 154 → j ∉ A) (h4 : ∀ j i, 136 ≤ j → j < 154 → (j, i) ∉ F) (h : zCk p P G fl sv) : zCk q P G fl sv := ⟨(f.1 _ _ h1 h2).trans h.1, h.2.1, fun i hi hb => zSd_F f (fun j hj => h3 _ (by omega) (by omega)) (fun j k hj => h4 _ _ (by omega) (by omega)) (h.2.2 i hi hb)⟩
/-- an answer is no more than the room -/
theorem zLo_r {R C wd st n room : Nat} {rk : Nat → Bool} {t : Nat → Nat} : ∀ f l, l + f = 9 → l ≤ room → room ≤ 8 → zLo R C rk wd st n t room f l ≤ (room : Int) := by
  intro f
  induction f with
  | zero => intro l h1 h2 h3; show (0 : Int) ≤ _; omega
  | succ f ih =>
    intro l h1 h2 h3
    unfold zLo
    split
    · omega
    · split
      · omega
      · split
        · omega
        · split
          · omega
          · exact ih (l + 1) (by omega) (by omega) h3
theorem zLa_r {R C wd st n room : Nat} {rk : Nat → Bool} {t : Nat → Nat} (h : room ≤ 8) : zLa R C rk wd st n t room ≤ (room : Int) := by
  unfold zLa
  split
  · omega
  · exact zLo_r 9 0 rfl (Nat.zero_le _) h
theorem zc_addP {ph : pm_H} {P G : Nat} {v : Nat → Nat} (hS : zSh ph) (hd : zSd ph 25 P G v) {x y z : Int32} {f a b : Nat} (hx : x = zn f) (hy : y = zn a) (hz : z = zn b) (h8 : P < 8) : zM 104 [.ref 25, .int x, .int y, .int z] ph (fun v0 q => v0 = none ∧ zFr [26, 27, 28, 29] [(25, 0)] ph q ∧ zSd q 25 (P + 1) G (zad v P f a b)) := by
  obtain ⟨Q, hQ⟩ : ∃ Q : Option Value → pm_H → Prop, Q = (fun v0 q => v0 = none ∧ zFr [26, 27, 28, 29] [(25, 0)] ph q ∧ zSd q 25 (P + 1) G (zad v P f a b)) := ⟨_, rfl⟩
  rw [← hQ]
  refine zM_mk fun n D => ?_
  show zW n D 104 Q 0 [some (.ref 25), some (.int x), some (.int y), some (.int z)] [] ph
  have c_0 : ((Int8.ofInt 8).toInt32).toInt = 8 := by decide
  have c_1 : (Int32.ofInt 0).toInt = 0 := by decide
  have c_2 : (Int32.ofInt 1).toInt = 1 := by decide
  subst hx hy hz
  show zW n D 104 Q 0 [some (.ref 25), some (.int (zn f)), some (.int (zn a)), some (.int (zn b))] [] ph
  obtain ⟨gP, hP8, gG, hG8, g40, gp, gg⟩ := hd
  have tP := znt (k := P) (by omega)
  have tG := znt (k := G) (by omega)
  refine w_load (pc' := 1) (v := .ref 25) (m := 1) (ykc_104 (e := (2, .aload_n kF0, 0)) rfl) rfl rfl ?_
  refine w_gf (pc' := 4) (v := .int (zn P)) (ykc_104 (e := (5, .getfield 30, 0)) rfl) rfl gP rfl ?_
  refine w_zlt (ykc_104 (e := (4, .ifCond .lt 12, 16)) rfl) rfl (fun q => by exfalso; omega) (fun b1809 => ?_)
  refine w_load (pc' := 8) (v := .ref 25) (m := 1) (ykc_104 (e := (2, .aload_n kF0, 0)) rfl) rfl rfl ?_
  refine w_gf (pc' := 11) (v := .int (zn P)) (ykc_104 (e := (5, .getfield 30, 0)) rfl) rfl gP rfl ?_
  refine w_push (pc' := 13) (v := .int ((Int8.ofInt 8).toInt32)) (m := 2) (ykc_104 (e := (1, .bipush 8, 0)) rfl) rfl rfl ?_
  refine w_ilt (ykc_104 (e := (4, .if_icmp .lt 4, 17)) rfl) rfl (fun b1810 => ?_) (fun q => by exfalso; omega)
  refine w_load (pc' := 18) (v := .ref 25) (m := 1) (ykc_104 (e := (2, .aload_n kF0, 0)) rfl) rfl rfl ?_
  refine w_gf (pc' := 21) (v := .ref 26) (ykc_104 (e := (5, .getfield 9, 0)) rfl) rfl (zsg hS zs_25_3) rfl ?_
  refine w_load (pc' := 22) (v := .ref 25) (m := 1) (ykc_104 (e := (2, .aload_n kF0, 0)) rfl) rfl rfl ?_
  refine w_gf (pc' := 25) (v := .int (zn P)) (ykc_104 (e := (5, .getfield 30, 0)) rfl) rfl gP rfl ?_
  refine w_load (pc' := 26) (v := .int (zn f)) (m := 1) (ykc_104 (e := (2, .iload_n kF1, 0)) rfl) rfl rfl ?_
  refine w_ias (pc' := 27) (k := P) (ykc_104 (e := (5, .iastore, 0)) rfl) (by omega) rfl (fun ph1812 u1811 => ?_)
  refine w_load (pc' := 28) (v := .ref 25) (m := 1) (ykc_104 (e := (2, .aload_n kF0, 0)) rfl) rfl rfl ?_
  refine w_gf (pc' := 31) (v := .ref 27) (ykc_104 (e := (5, .getfield 15, 0)) rfl) rfl ((u1811.2.1 25 4 (fun q => absurd q.1 (by decide))).trans (zsg hS zs_25_4)) rfl ?_
  refine w_load (pc' := 32) (v := .ref 25) (m := 1) (ykc_104 (e := (2, .aload_n kF0, 0)) rfl) rfl rfl ?_
  refine w_gf (pc' := 35) (v := .int (zn P)) (ykc_104 (e := (5, .getfield 30, 0)) rfl) rfl ((u1811.2.1 25 0 (fun q => absurd q.1 (by decide))).trans gP) rfl ?_
  refine w_load (pc' := 36) (v := .int (zn a)) (m := 1) (ykc_104 (e := (2, .iload_n kF2, 0)) rfl) rfl rfl ?_
  refine w_ias (pc' := 37) (k := P) (ykc_104 (e := (5, .iastore, 0)) rfl) (by omega) rfl (fun ph1814 u1813 => ?_)
  refine w_load (pc' := 38) (v := .ref 25) (m := 1) (ykc_104 (e := (2, .aload_n kF0, 0)) rfl) rfl rfl ?_
  refine w_gf (pc' := 41) (v := .ref 28) (ykc_104 (e := (5, .getfield 18, 0)) rfl) rfl ((u1813.2.1 25 5 (fun q => absurd q.1 (by decide))).trans ((u1811.2.1 25 5 (fun q => absurd q.1 (by decide))).trans (zsg hS zs_25_5))) rfl ?_
  refine w_load (pc' := 42) (v := .ref 25) (m := 1) (ykc_104 (e := (2, .aload_n kF0, 0)) rfl) rfl rfl ?_
  refine w_gf (pc' := 45) (v := .int (zn P)) (ykc_104 (e := (5, .getfield 30, 0)) rfl) rfl ((u1813.2.1 25 0 (fun q => absurd q.1 (by decide))).trans ((u1811.2.1 25 0 (fun q => absurd q.1 (by decide))).trans gP)) rfl ?_
  refine w_load (pc' := 46) (v := .int (zn b)) (m := 1) (ykc_104 (e := (2, .iload_n kF3, 0)) rfl) rfl rfl ?_
  refine w_ias (pc' := 47) (k := P) (ykc_104 (e := (5, .iastore, 0)) rfl) (by omega) rfl (fun ph1816 u1815 => ?_)
  refine w_load (pc' := 48) (v := .ref 25) (m := 1) (ykc_104 (e := (2, .aload_n kF0, 0)) rfl) rfl rfl ?_
  refine w_gf (pc' := 51) (v := .ref 29) (ykc_104 (e := (5, .getfield 21, 0)) rfl) rfl ((u1815.2.1 25 6 (fun q => absurd q.1 (by decide))).trans ((u1813.2.1 25 6 (fun q => absurd q.1 (by decide))).trans ((u1811.2.1 25 6 (fun q => absurd q.1 (by decide))).trans (zsg hS zs_25_6)))) rfl ?_
  refine w_load (pc' := 52) (v := .ref 25) (m := 1) (ykc_104 (e := (2, .aload_n kF0, 0)) rfl) rfl rfl ?_
  refine w_gf (pc' := 55) (v := .int (zn P)) (ykc_104 (e := (5, .getfield 30, 0)) rfl) rfl ((u1815.2.1 25 0 (fun q => absurd q.1 (by decide))).trans ((u1813.2.1 25 0 (fun q => absurd q.1 (by decide))).trans ((u1811.2.1 25 0 (fun q => absurd q.1 (by decide))).trans gP))) rfl ?_
  refine w_alu (pc' := 56) (st' := [.int (Int32.ofInt 0), .int (zn P), .ref 29]) (ykc_104 (e := (0, .iconst 0, 0)) rfl) rfl rfl ?_
  refine w_ias (pc' := 57) (k := P) (ykc_104 (e := (5, .iastore, 0)) rfl) (by omega) rfl (fun ph1818 u1817 => ?_)
  refine w_load (pc' := 58) (v := .ref 25) (m := 1) (ykc_104 (e := (2, .aload_n kF0, 0)) rfl) rfl rfl ?_
  refine w_alu (pc' := 59) (st' := [.ref 25, .ref 25]) (ykc_104 (e := (0, .dup, 0)) rfl) rfl rfl ?_
  refine w_gf (pc' := 62) (v := .int (zn P)) (ykc_104 (e := (5, .getfield 30, 0)) rfl) rfl ((u1817.2.1 25 0 (fun q => absurd q.1 (by decide))).trans ((u1815.2.1 25 0 (fun q => absurd q.1 (by decide))).trans ((u1813.2.1 25 0 (fun q => absurd q.1 (by decide))).trans ((u1811.2.1 25 0 (fun q => absurd q.1 (by decide))).trans gP)))) rfl ?_
  refine w_alu (pc' := 63) (st' := [.int (Int32.ofInt 1), .int (zn P), .ref 25]) (ykc_104 (e := (0, .iconst 1, 0)) rfl) rfl rfl ?_
  have e1819 : (zn P) + (Int32.ofInt 1) = zn (P + 1) := (zaddN (a := P) (b := 1) (znt (by omega)) c_2 (by omega)) 
  have te1819 := znt (k := P + 1) (by omega)
  refine w_alu (pc' := 64) (st' := [.int (zn (P + 1)), .ref 25]) (ykc_104 (e := (0, .iadd, 0)) rfl) (by rw [← e1819]; rfl) rfl ?_
  refine w_pf (pc' := 67) (ykc_104 (e := (5, .putfield 30, 0)) rfl) rfl rfl (fun ph1821 u1820 => ?_)
  refine w_ret (v := none) (ykc_104 (e := (7, .return_, 0)) rfl) (zr_v rfl) ?_
  obtain ⟨e1, e2, e3, e4⟩ := @zad_f v P f a b
  have hf5 : zFr [26, 27, 28, 29] [(25, 0)] ph ph1821 := (zFr_trans (zFr_trans (zFr_trans (zFr_trans (zFr_st u1811 (Or.inl (by simp))) (zFr_st u1813 (Or.inl (by simp)))) (zFr_st u1815 (Or.inl (by simp)))) (zFr_st u1817 (Or.inl (by simp)))) (zFr_st u1820 (Or.inr (by simp))))
  have m : ∀ A i, A ∈ [26, 27, 28, 29] → i ≠ P → zc ph1821 A i = zc ph A i := fun A i hA hi => (u1820.2.1 A i (fun q => by have q1 := q.1; subst q1; simp at hA)).trans ((u1817.2.1 A i (fun q => hi q.2)).trans ((u1815.2.1 A i (fun q => hi q.2)).trans ((u1813.2.1 A i (fun q => hi q.2)).trans (u1811.2.1 A i (fun q => hi q.2)))))
  rw [hQ]
  refine ⟨rfl, hf5, u1820.1, by omega, ((u1820.2.1 25 1 (fun q => absurd q.2 (by decide))).trans ((u1817.2.1 25 1 (fun q => absurd q.1 (by decide))).trans ((u1815.2.1 25 1 (fun q => absurd q.1 (by decide))).trans ((u1813.2.1 25 1 (fun q => absurd q.1 (by decide))).trans ((u1811.2.1 25 1 (fun q => absurd q.1 (by decide))).trans gG))))), hG8, ?_, fun i hi => ⟨?_, ?_, ?_, ?_⟩, fun i hi => ?_⟩
  · rw [zad_o (by omega)]
    exact (hf5.1 25 2 (by decide) (by decide)).trans g40
  · by_cases e : i = P
    · subst e; rw [e1]; exact ((u1820.2.1 26 i (fun q => absurd q.1 (by decide))).trans ((u1817.2.1 26 i (fun q => absurd q.1 (by decide))).trans ((u1815.2.1 26 i (fun q => absurd q.1 (by decide))).trans ((u1813.2.1 26 i (fun q => absurd q.1 (by decide))).trans u1811.1))))
    · rw [zad_o (by omega)]; exact (m 26 i (by simp) e).trans (gp i (by omega)).1
  · by_cases e : i = P
    · subst e; rw [e2]; exact ((u1820.2.1 27 i (fun q => absurd q.1 (by decide))).trans ((u1817.2.1 27 i (fun q => absurd q.1 (by decide))).trans ((u1815.2.1 27 i (fun q => absurd q.1 (by decide))).trans u1813.1)))
    · rw [zad_o (by omega)]; exact (m 27 i (by simp) e).trans (gp i (by omega)).2.1
  · by_cases e : i = P
    · subst e; rw [e3]; exact ((u1820.2.1 28 i (fun q => absurd q.1 (by decide))).trans ((u1817.2.1 28 i (fun q => absurd q.1 (by decide))).trans u1815.1))
    · rw [zad_o (by omega)]; exact (m 28 i (by simp) e).trans (gp i (by omega)).2.2.1
  · by_cases e : i = P
    · subst e; rw [e4]; exact ((u1820.2.1 29 i (fun q => absurd q.1 (by decide))).trans u1817.1)
    · rw [zad_o (by omega)]; exact (m 29 i (by simp) e).trans (gp i (by omega)).2.2.2
  · rw [zad_o (by omega)]
    exact (hf5.1 30 i (by decide) (by simp)).trans (gg i hi)
theorem zc_addT {ph : pm_H} {P G : Nat} {v : Nat → Nat} (hS : zSh ph) (hd : zSd ph 25 P G v) {x : Int32} {f : Nat} (hx : x = zn f) (h8 : G < 8) : zM 105 [.ref 25, .int x] ph (fun v0 q => v0 = none ∧ zFr [30] [(25, 1)] ph q ∧ zSd q 25 P (G + 1) (znu v (32 + G) f)) := by
  obtain ⟨Q, hQ⟩ : ∃ Q : Option Value → pm_H → Prop, Q = (fun v0 q => v0 = none ∧ zFr [30] [(25, 1)] ph q ∧ zSd q 25 P (G + 1) (znu v (32 + G) f)) := ⟨_, rfl⟩
  rw [← hQ]
  refine zM_mk fun n D => ?_
  show zW n D 105 Q 0 [some (.ref 25), some (.int x)] [] ph
  have c_0 : ((Int8.ofInt 8).toInt32).toInt = 8 := by decide
  have c_1 : (Int32.ofInt 1).toInt = 1 := by decide
  subst hx
  show zW n D 105 Q 0 [some (.ref 25), some (.int (zn f))] [] ph
  obtain ⟨gP, hP8, gG, hG8, g40, gp, gg⟩ := hd
  have tP := znt (k := P) (by omega)
  have tG := znt (k := G) (by omega)
  refine w_load (pc' := 1) (v := .ref 25) (m := 1) (ykc_105 (e := (2, .aload_n kF0, 0)) rfl) rfl rfl ?_
  refine w_gf (pc' := 4) (v := .int (zn G)) (ykc_105 (e := (5, .getfield 34, 0)) rfl) rfl gG rfl ?_
  refine w_zlt (ykc_105 (e := (4, .ifCond .lt 12, 16)) rfl) rfl (fun q => by exfalso; omega) (fun b1822 => ?_)
  refine w_load (pc' := 8) (v := .ref 25) (m := 1) (ykc_105 (e := (2, .aload_n kF0, 0)) rfl) rfl rfl ?_
  refine w_gf (pc' := 11) (v := .int (zn G)) (ykc_105 (e := (5, .getfield 34, 0)) rfl) rfl gG rfl ?_
  refine w_push (pc' := 13) (v := .int ((Int8.ofInt 8).toInt32)) (m := 2) (ykc_105 (e := (1, .bipush 8, 0)) rfl) rfl rfl ?_
  refine w_ilt (ykc_105 (e := (4, .if_icmp .lt 4, 17)) rfl) rfl (fun b1823 => ?_) (fun q => by exfalso; omega)
  refine w_load (pc' := 18) (v := .ref 25) (m := 1) (ykc_105 (e := (2, .aload_n kF0, 0)) rfl) rfl rfl ?_
  refine w_gf (pc' := 21) (v := .ref 30) (ykc_105 (e := (5, .getfield 24, 0)) rfl) rfl (zsg hS zs_25_7) rfl ?_
  refine w_load (pc' := 22) (v := .ref 25) (m := 1) (ykc_105 (e := (2, .aload_n kF0, 0)) rfl) rfl rfl ?_
  refine w_gf (pc' := 25) (v := .int (zn G)) (ykc_105 (e := (5, .getfield 34, 0)) rfl) rfl gG rfl ?_
  refine w_load (pc' := 26) (v := .int (zn f)) (m := 1) (ykc_105 (e := (2, .iload_n kF1, 0)) rfl) rfl rfl ?_
  refine w_ias (pc' := 27) (k := G) (ykc_105 (e := (5, .iastore, 0)) rfl) (by omega) rfl (fun ph1825 u1824 => ?_)
  refine w_load (pc' := 28) (v := .ref 25) (m := 1) (ykc_105 (e := (2, .aload_n kF0, 0)) rfl) rfl rfl ?_
  refine w_alu (pc' := 29) (st' := [.ref 25, .ref 25]) (ykc_105 (e := (0, .dup, 0)) rfl) rfl rfl ?_
  refine w_gf (pc' := 32) (v := .int (zn G)) (ykc_105 (e := (5, .getfield 34, 0)) rfl) rfl ((u1824.2.1 25 1 (fun q => absurd q.1 (by decide))).trans gG) rfl ?_
  refine w_alu (pc' := 33) (st' := [.int (Int32.ofInt 1), .int (zn G), .ref 25]) (ykc_105 (e := (0, .iconst 1, 0)) rfl) rfl rfl ?_
  have e1826 : (zn G) + (Int32.ofInt 1) = zn (G + 1) := (zaddN (a := G) (b := 1) (znt (by omega)) c_1 (by omega)) 
  have te1826 := znt (k := G + 1) (by omega)
  refine w_alu (pc' := 34) (st' := [.int (zn (G + 1)), .ref 25]) (ykc_105 (e := (0, .iadd, 0)) rfl) (by rw [← e1826]; rfl) rfl ?_
  refine w_pf (pc' := 37) (ykc_105 (e := (5, .putfield 34, 0)) rfl) rfl rfl (fun ph1828 u1827 => ?_)
  refine w_ret (v := none) (ykc_105 (e := (7, .return_, 0)) rfl) (zr_v rfl) ?_
  have hf5 : zFr [30] [(25, 1)] ph ph1828 := zFr_trans (zFr_st u1824 (Or.inl (by simp))) (zFr_st u1827 (Or.inr (by simp)))
  rw [hQ]
  refine ⟨rfl, hf5, ((u1827.2.1 25 0 (fun q => absurd q.2 (by decide))).trans ((u1824.2.1 25 0 (fun q => absurd q.1 (by decide))).trans gP)), hP8, u1827.1, by omega, ?_, fun i hi => ?_, fun i hi => ?_⟩
  · rw [znu_n (by omega)]
    exact (hf5.1 25 2 (by decide) (by decide)).trans g40
  · rw [znu_n (by omega), znu_n (by omega), znu_n (by omega), znu_n (by omega)]
    obtain ⟨h1, h2, h3, h4⟩ := gp i hi
    exact ⟨(hf5.1 26 i (by decide) (by simp)).trans h1, (hf5.1 27 i (by decide) (by simp)).trans h2, (hf5.1 28 i (by decide) (by simp)).trans h3, (hf5.1 29 i (by decide) (by simp)).trans h4⟩
  · by_cases e : i = G
    · subst e; rw [znu_e]; exact (u1827.2.1 30 i (fun q => absurd q.1 (by decide))).trans u1824.1
    · rw [znu_n (by omega)]; exact (u1827.2.1 30 i (fun q => absurd q.1 (by decide))).trans ((u1824.2.1 30 i (fun q => e q.2)).trans (gg i (by omega)))
theorem zc_people {ph : pm_H} {ln : Nat} {t : Nat → Nat} {R C P G nx u fl hn : Nat} {rk : Nat → Bool} {v : Nat → Nat} {w : Nat → Nat → Nat} {sv : Nat → Nat → Nat} (hS : zSh ph) (hT : zTc ph ln t) (hB : zBd ph) (hK : zKC ph R C rk P G v nx u w fl sv hn) : zM 125 [.ref 0] ph (fun v0 q => zBd q ∧ ∃ z : Int32, v0 = some (.int z) ∧ z.toInt = zLa R C rk 4 5 ln t (8 - P) ∧ ((zLa R C rk 4 5 ln t (8 - P) ≤ 0 ∧ zKC q R C rk P G v nx u w fl sv hn) ∨ (∃ k : Nat, 0 < k ∧ (k : Int) = zLa R C rk 4 5 ln t (8 - P) ∧ (∀ l, l < k → zLg R C rk 4 ln t (5 * l) 4 = 4) ∧ zKC q R C rk (P + k) G (zPv C t P v k) nx 0 w 0 sv hn))) := by
  obtain ⟨Q, hQ⟩ : ∃ Q : Option Value → pm_H → Prop, Q = (fun v0 q => zBd q ∧ ∃ z : Int32, v0 = some (.int z) ∧ z.toInt = zLa R C rk 4 5 ln t (8 - P) ∧ ((zLa R C rk 4 5 ln t (8 - P) ≤ 0 ∧ zKC q R C rk P G v nx u w fl sv hn) ∨ (∃ k : Nat, 0 < k ∧ (k : Int) = zLa R C rk 4 5 ln t (8 - P) ∧ (∀ l, l < k → zLg R C rk 4 ln t (5 * l) 4 = 4) ∧ zKC q R C rk (P + k) G (zPv C t P v k) nx 0 w 0 sv hn))) := ⟨_, rfl⟩
  rw [← hQ]
  refine zM_mk fun n D => ?_
  show zW n D 125 Q 0 [some (.ref 0), none, none, none] [] ph
  have c_0 : ((Int8.ofInt 8).toInt32).toInt = 8 := by decide
  have c_1 : (Int32.ofInt 0).toInt = 0 := by decide
  have c_2 : (Int32.ofInt 1).toInt = 1 := by decide
  have c_3 : (Int32.ofInt 2).toInt = 2 := by decide
  have c_4 : (Int32.ofInt 3).toInt = 3 := by decide
  have c_5 : (Int32.ofInt 4).toInt = 4 := by decide
  obtain ⟨hL, hd, hU, hk, hh⟩ := hK
  obtain ⟨gP, hP8, gG, hG8, g40, gp, gg⟩ := id hd
  have tP := znt (k := P) (by omega)
  have tG := znt (k := G) (by omega)
  have hR37 : 3 ≤ R ∧ R ≤ 7 := ⟨hL.2.2.2.2.2.1, hL.2.2.2.2.2.2.1⟩
  have hC37 : 3 ≤ C ∧ C ≤ 7 := hL.2.2.2.2.2.2.2
  have hRC49 : R * C ≤ 49 := zRC49 hR37.2 hC37.2
  have hr := @zLa_r R C 4 5 ln (8 - P) rk t (by omega)
  refine w_load (pc' := 1) (v := .ref 0) (m := 1) (ykc_125 (e := (2, .aload_n kF0, 0)) rfl) rfl rfl ?_
  refine w_gf (pc' := 4) (v := .ref 154) (ykc_125 (e := (5, .getfield 62, 0)) rfl) rfl (zsg hS zs_0_8) rfl ?_
  refine w_load (pc' := 5) (v := .ref 0) (m := 1) (ykc_125 (e := (2, .aload_n kF0, 0)) rfl) rfl rfl ?_
  refine w_gf (pc' := 8) (v := .ref 1) (ykc_125 (e := (5, .getfield 10, 0)) rfl) rfl (zsg hS zs_0_0) rfl ?_
  refine w_load (pc' := 9) (v := .ref 0) (m := 1) (ykc_125 (e := (2, .aload_n kF0, 0)) rfl) rfl rfl ?_
  refine w_gf (pc' := 12) (v := .ref 5) (ykc_125 (e := (5, .getfield 26, 0)) rfl) rfl (zsg hS zs_0_2) rfl ?_
  refine w_alu (pc' := 13) (st' := [.int (Int32.ofInt 4), .ref 5, .ref 1, .ref 154]) (ykc_125 (e := (0, .iconst 4, 0)) rfl) rfl rfl ?_
  refine w_push (pc' := 15) (v := .int ((Int8.ofInt 8).toInt32)) (m := 2) (ykc_125 (e := (1, .bipush 8, 0)) rfl) rfl rfl ?_
  refine w_load (pc' := 16) (v := .ref 0) (m := 1) (ykc_125 (e := (2, .aload_n kF0, 0)) rfl) rfl rfl ?_
  refine w_gf (pc' := 19) (v := .ref 25) (ykc_125 (e := (5, .getfield 42, 0)) rfl) rfl (zsg hS zs_0_4) rfl ?_
  refine w_gf (pc' := 22) (v := .int (zn P)) (ykc_125 (e := (5, .getfield 130, 0)) rfl) rfl gP rfl ?_
  have e1829 : ((Int8.ofInt 8).toInt32) - (zn P) = zn (8 - P) := zsubN (a := 8) (b := P) c_0 (znt (by omega)) (by omega)
  have te1829 := znt (k := 8 - P) (by omega)
  refine w_alu (pc' := 23) (st' := [.int (zn (8 - P)), .int (Int32.ofInt 4), .ref 5, .ref 1, .ref 154]) (ykc_125 (e := (0, .isub, 0)) rfl) (by show some ([.int (((Int8.ofInt 8).toInt32) - (zn P)), .int (Int32.ofInt 4), .ref 5, .ref 1, .ref 154] : List Value) = _; rw [e1829]) rfl ?_
  refine w_cv (as := [.ref 154, .ref 1, .ref 5, .int (Int32.ofInt 4), .int (zn (8 - P))]) (r := []) (ykc_125 (e := (6, .invokevirtual 133, 0)) rfl) rfl rfl rfl rfl (zc_lread4 hS hL hT hB (by omega) (znt (by omega)) (by omega)) (fun v1830 ph1831 hv => ?_)
  obtain ⟨fr, hw, zl, rfl, ezl, hgl⟩ := hv
  show zW n D 125 Q 26 [some (.ref 0), none, none, none] [.int zl] ph1831
  refine w_store (pc' := 27) (L' := [some (.ref 0), some (.int zl), none, none]) (st' := []) (m := 1) (ykc_125 (e := (3, .istore_n kF1, 0)) rfl) rfl rfl ?_
  refine w_load (pc' := 28) (v := .ref 0) (m := 1) (ykc_125 (e := (2, .aload_n kF0, 0)) rfl) rfl rfl ?_
  refine w_gf (pc' := 31) (v := .ref 1) (ykc_125 (e := (5, .getfield 10, 0)) rfl) rfl ((fr.1 0 0 (by decide) (by decide)).trans (zsg hS zs_0_0)) rfl ?_
  refine w_cv (as := [.ref 1]) (r := []) (ykc_125 (e := (6, .invokevirtual 119, 0)) rfl) rfl rfl rfl rfl (zc_tclear) (fun v1832 ph1833 hv => ?_)
  obtain ⟨rfl, ft, gt1⟩ := hv
  show zW n D 125 Q 34 [some (.ref 0), some (.int zl), none, none] [] ph1833
  refine w_alu (pc' := 35) (st' := [.int (Int32.ofInt 0)]) (ykc_125 (e := (0, .iconst 0, 0)) rfl) rfl rfl ?_
  refine w_store (pc' := 36) (L' := [some (.ref 0), some (.int zl), some (.int (Int32.ofInt 0)), none]) (st' := []) (m := 1) (ykc_125 (e := (3, .istore_n kF2, 0)) rfl) rfl rfl ?_
  have f1 : zFr [155] [(1, 1), (154, 2), (156, 0), (156, 1)] ph ph1833 := zFr_trans (zFr_mono fr (by simp) (by simp)) (zFr_mono ft (by simp) (by simp))
  have hS1 := zSh_F f1 (by decide +kernel) hS
  have hL1 := zCl_F f1 (by simp) (by intro i hi; simp <;> omega) (by simp) hL
  have hd1 := zSd_F f1 (by intro i hi; simp <;> omega) (by intro j i hj; simp <;> omega) hd
  have hU1 := zCu_F f1 (by simp) (by simp) (by intro j h1 h2; simp <;> omega) (by intro j i h1 h2; simp <;> omega) hU
  have hk1 := zCk_F2 f1 (by simp) (by simp) (by intro j h1 h2; simp <;> omega) (by intro j i h1 h2; simp <;> omega) hk
  have hh1 : zCh ph1833 hn := ⟨(f1.1 0 14 (by decide) (by decide)).trans hh.1, hh.2⟩
  have hw1 := (ft.1 154 2 (by decide) (by decide)).trans hw
  have hB1 : zBd ph1833 := ⟨(f1.1 156 2 (by decide) (by decide)).trans hB.1, (f1.1 156 3 (by decide) (by decide)).trans hB.2⟩
  have hgl1 : ∀ l : Nat, (l : Int) < zLa R C rk 4 5 ln t (8 - P) → zLg R C rk 4 ln t (5 * l) 4 = 4 ∧ ∀ i, i < 4 → zc ph1833 155 (l * 4 + i) = some (.int (zn (t (5 * l + i) - 48))) := fun l hl => ⟨(hgl l hl).1, fun i hi => (ft.1 155 _ (by decide) (by simp)).trans ((hgl l hl).2 i hi)⟩
  have hl : ∀ (n : Nat), ∀ (k : Nat) (x3 : Option Value) (ph2 : pm_H), (k = 0 ∨ (k : Int) ≤ zLa R C rk 4 5 ln t (8 - P)) → (zFr [26, 27, 28, 29] [(25, 0)] ph1833 ph2) → (zSd ph2 25 (P + k) G (zPv C t P v k)) → zW n D 125 Q 36 [some (.ref 0), some (.int zl), some (.int (zn k)), x3] [] ph2 := by
    intro n
    induction n using Nat.strongRecOn with
    | ind n ih =>
      intro k x3 ph2 hk9 hf hd2
      have tk := znt (k := k) (by omega)
      have hS2 := zSh_F hf (by decide +kernel) hS1
      have hL2 := zCl_F hf (by simp) (by intro i hi; simp <;> omega) (by simp) hL1
      have hw2 := (hf.1 154 2 (by decide) (by decide)).trans hw1
      refine w_load (pc' := 37) (v := .int (zn k)) (m := 1) (ykc_125 (e := (2, .iload_n kF2, 0)) rfl) rfl rfl ?_
      refine w_load (pc' := 38) (v := .int zl) (m := 1) (ykc_125 (e := (2, .iload_n kF1, 0)) rfl) rfl rfl ?_
      refine w_ige (ykc_125 (e := (4, .if_icmp .ge 61, 99)) rfl) rfl (fun b1834 => ?_) (fun b1834 => ?_)
      · refine w_load (pc' := 100) (v := .int zl) (m := 1) (ykc_125 (e := (2, .iload_n kF1, 0)) rfl) rfl rfl ?_
        refine w_zle (ykc_125 (e := (4, .ifCond .le 10, 110)) rfl) rfl (fun b1835 => ?_) (fun b1835 => ?_)
        · refine w_load (pc' := 111) (v := .int zl) (m := 1) (ykc_125 (e := (2, .iload_n kF1, 0)) rfl) rfl rfl ?_
          refine w_ret (v := (some (.int zl))) (ykc_125 (e := (7, .ireturn, 0)) rfl) (zr_v rfl) ?_
          have ek : k = 0 := by omega
          subst ek
          rw [hQ]
          refine ⟨⟨(hf.1 156 2 (by decide) (by decide)).trans hB1.1, (hf.1 156 3 (by decide) (by decide)).trans hB1.2⟩, _, rfl, ezl, Or.inl ⟨by omega, hL2, hd2, zCu_F hf (by simp) (by simp) (by intro j h1 h2; simp <;> omega) (by intro j i h1 h2; simp <;> omega) hU1, zCk_F hf (by simp) (by simp) (by intro j h1 h2; simp <;> omega) (by intro j i h1 h2; simp <;> omega) hk1, (hf.1 0 14 (by decide) (by decide)).trans hh1.1, hh1.2⟩⟩
        · refine w_load (pc' := 104) (v := .ref 0) (m := 1) (ykc_125 (e := (2, .aload_n kF0, 0)) rfl) rfl rfl ?_
          refine w_gf (pc' := 107) (v := .ref 43) (ykc_125 (e := (5, .getfield 55, 0)) rfl) rfl (zsg hS2 zs_0_7) rfl ?_
          refine w_cv (as := [.ref 43]) (r := []) (ykc_125 (e := (6, .invokevirtual 123, 0)) rfl) rfl rfl rfl rfl (zc_hclear hS2) (fun v1836 ph1837 hv => ?_)
          obtain ⟨rfl, fh, gh2, gh4⟩ := hv
          show zW n D 125 Q 110 [some (.ref 0), some (.int zl), some (.int (zn k)), x3] [] ph1837
          refine w_load (pc' := 111) (v := .int zl) (m := 1) (ykc_125 (e := (2, .iload_n kF1, 0)) rfl) rfl rfl ?_
          refine w_ret (v := (some (.int zl))) (ykc_125 (e := (7, .ireturn, 0)) rfl) (zr_v rfl) ?_
          have f3 : zFr [26, 27, 28, 29] [(25, 0), (43, 2), (43, 4)] ph1833 _ := zFr_trans (zFr_mono hf (by simp) (by simp)) (zFr_mono fh (by simp) (by simp))
          rw [hQ]
          refine ⟨⟨(f3.1 156 2 (by decide) (by decide)).trans hB1.1, (f3.1 156 3 (by decide) (by decide)).trans hB1.2⟩, _, rfl, ezl, Or.inr ⟨k, by omega, by omega, fun l hl => (hgl1 l (by omega)).1, zCl_F f3 (by simp) (by intro i hi; simp <;> omega) (by simp) hL1, zSd_F fh (by intro i hi; simp) (by intro j i hj; simp <;> omega) hd2, ⟨(f3.1 43 1 (by decide) (by decide)).trans hU1.1, hU1.2.1, gh2, by decide, fun i hi => absurd hi (Nat.not_lt_zero i)⟩, ⟨gh4, by decide, fun i hi h => absurd h (by rw [Nat.zero_testBit]; decide)⟩, (f3.1 0 14 (by decide) (by decide)).trans hh1.1, hh1.2⟩⟩
      · have gk := (hgl1 k (by omega)).1
        have g0 := zLk_d (zLg_a gk 0 (by omega))
        have g1 := zLk_d (zLg_a gk 1 (by omega))
        have b0 : zLb R C 0 = R := rfl
        have b1 : zLb R C 1 = C := rfl
        have g2 := zLk_d (zLg_a gk 2 (by omega))
        have g3 := zLk_d (zLg_a gk 3 (by omega))
        have b2 : zLb R C 2 = 8 := rfl
        have b3 : zLb R C 3 = 5 := rfl
        rw [Nat.add_zero] at g0
        refine w_load (pc' := 42) (v := .ref 0) (m := 1) (ykc_125 (e := (2, .aload_n kF0, 0)) rfl) rfl rfl ?_
        refine w_gf (pc' := 45) (v := .ref 5) (ykc_125 (e := (5, .getfield 26, 0)) rfl) rfl (zsg hS2 zs_0_2) rfl ?_
        refine w_load (pc' := 46) (v := .ref 0) (m := 1) (ykc_125 (e := (2, .aload_n kF0, 0)) rfl) rfl rfl ?_
        refine w_gf (pc' := 49) (v := .ref 154) (ykc_125 (e := (5, .getfield 62, 0)) rfl) rfl (zsg hS2 zs_0_8) rfl ?_
        refine w_load (pc' := 50) (v := .int (zn k)) (m := 1) (ykc_125 (e := (2, .iload_n kF2, 0)) rfl) rfl rfl ?_
        refine w_alu (pc' := 51) (st' := [.int (Int32.ofInt 0), .int (zn k), .ref 154, .ref 5]) (ykc_125 (e := (0, .iconst 0, 0)) rfl) rfl rfl ?_
        refine w_cv (as := [.ref 154, .int (zn k), .int (Int32.ofInt 0)]) (r := [.ref 5]) (ykc_125 (e := (6, .invokevirtual 136, 0)) rfl) rfl rfl rfl rfl (zc_ldig4 (l := k) (i := 0) (d := t (5 * k) - 48) hS2 hw2 (by omega) (by omega) (by omega) (by omega) ((hf.1 155 _ (by decide) (by simp)).trans ((hgl1 k (by omega)).2 0 (by omega)))) (fun v1838 ph1839 hv => ?_)
        obtain ⟨rfl, rfl⟩ := hv
        have td0 := znt (k := t (5 * k) - 48) (by omega)
        show zW n D 125 Q 54 [some (.ref 0), some (.int zl), some (.int (zn k)), x3] [.int (zn (t (5 * k) - 48)), .ref 5] ph2
        refine w_load (pc' := 55) (v := .ref 0) (m := 1) (ykc_125 (e := (2, .aload_n kF0, 0)) rfl) rfl rfl ?_
        refine w_gf (pc' := 58) (v := .ref 154) (ykc_125 (e := (5, .getfield 62, 0)) rfl) rfl (zsg hS2 zs_0_8) rfl ?_
        refine w_load (pc' := 59) (v := .int (zn k)) (m := 1) (ykc_125 (e := (2, .iload_n kF2, 0)) rfl) rfl rfl ?_
        refine w_alu (pc' := 60) (st' := [.int (Int32.ofInt 1), .int (zn k), .ref 154, .int (zn (t (5 * k) - 48)), .ref 5]) (ykc_125 (e := (0, .iconst 1, 0)) rfl) rfl rfl ?_
        refine w_cv (as := [.ref 154, .int (zn k), .int (Int32.ofInt 1)]) (r := [.int (zn (t (5 * k) - 48)), .ref 5]) (ykc_125 (e := (6, .invokevirtual 136, 0)) rfl) rfl rfl rfl rfl (zc_ldig4 (l := k) (i := 1) (d := t (5 * k + 1) - 48) hS2 hw2 (by omega) (by omega) (by omega) (by omega) ((hf.1 155 _ (by decide) (by simp)).trans ((hgl1 k (by omega)).2 1 (by omega)))) (fun v1840 ph1841 hv => ?_)
        obtain ⟨rfl, rfl⟩ := hv
        have td1 := znt (k := t (5 * k + 1) - 48) (by omega)
        show zW n D 125 Q 63 [some (.ref 0), some (.int zl), some (.int (zn k)), x3] [.int (zn (t (5 * k + 1) - 48)), .int (zn (t (5 * k) - 48)), .ref 5] ph2
        refine w_cv (as := [.ref 5, .int (zn (t (5 * k) - 48)), .int (zn (t (5 * k + 1) - 48))]) (r := []) (ykc_125 (e := (6, .invokevirtual 140, 0)) rfl) rfl rfl rfl rfl (zc_fat hS2 hL2) (fun v1842 ph1843 hv => ?_)
        obtain ⟨rfl, zf, rfl, ef⟩ := hv
        rw [td0, td1, zLf_c (by omega) (by omega) (by omega) (by omega)] at ef
        have lf := zLf_lt (R := R) (C := C) (t := t) (p := 5 * k) (by omega) (by omega) (by omega) (by omega)
        show zW n D 125 Q 66 [some (.ref 0), some (.int zl), some (.int (zn k)), x3] [.int zf] ph2
        refine w_store (pc' := 67) (L' := [some (.ref 0), some (.int zl), some (.int (zn k)), some (.int zf)]) (st' := []) (m := 1) (ykc_125 (e := (3, .istore_n kF3, 0)) rfl) rfl rfl ?_
        refine w_load (pc' := 68) (v := .ref 0) (m := 1) (ykc_125 (e := (2, .aload_n kF0, 0)) rfl) rfl rfl ?_
        refine w_gf (pc' := 71) (v := .ref 25) (ykc_125 (e := (5, .getfield 42, 0)) rfl) rfl (zsg hS2 zs_0_4) rfl ?_
        refine w_load (pc' := 72) (v := .int zf) (m := 1) (ykc_125 (e := (2, .iload_n kF3, 0)) rfl) rfl rfl ?_
        refine w_load (pc' := 73) (v := .ref 0) (m := 1) (ykc_125 (e := (2, .aload_n kF0, 0)) rfl) rfl rfl ?_
        refine w_gf (pc' := 76) (v := .ref 154) (ykc_125 (e := (5, .getfield 62, 0)) rfl) rfl (zsg hS2 zs_0_8) rfl ?_
        refine w_load (pc' := 77) (v := .int (zn k)) (m := 1) (ykc_125 (e := (2, .iload_n kF2, 0)) rfl) rfl rfl ?_
        refine w_alu (pc' := 78) (st' := [.int (Int32.ofInt 2), .int (zn k), .ref 154, .int zf, .ref 25]) (ykc_125 (e := (0, .iconst 2, 0)) rfl) rfl rfl ?_
        refine w_cv (as := [.ref 154, .int (zn k), .int (Int32.ofInt 2)]) (r := [.int zf, .ref 25]) (ykc_125 (e := (6, .invokevirtual 136, 0)) rfl) rfl rfl rfl rfl (zc_ldig4 (l := k) (i := 2) (d := t (5 * k + 2) - 48) hS2 hw2 (by omega) (by omega) (by omega) (by omega) ((hf.1 155 _ (by decide) (by simp)).trans ((hgl1 k (by omega)).2 2 (by omega)))) (fun v1844 ph1845 hv => ?_)
        obtain ⟨rfl, rfl⟩ := hv
        have td2 := znt (k := t (5 * k + 2) - 48) (by omega)
        show zW n D 125 Q 81 [some (.ref 0), some (.int zl), some (.int (zn k)), some (.int zf)] [.int (zn (t (5 * k + 2) - 48)), .int zf, .ref 25] ph2
        refine w_load (pc' := 82) (v := .ref 0) (m := 1) (ykc_125 (e := (2, .aload_n kF0, 0)) rfl) rfl rfl ?_
        refine w_gf (pc' := 85) (v := .ref 154) (ykc_125 (e := (5, .getfield 62, 0)) rfl) rfl (zsg hS2 zs_0_8) rfl ?_
        refine w_load (pc' := 86) (v := .int (zn k)) (m := 1) (ykc_125 (e := (2, .iload_n kF2, 0)) rfl) rfl rfl ?_
        refine w_alu (pc' := 87) (st' := [.int (Int32.ofInt 3), .int (zn k), .ref 154, .int (zn (t (5 * k + 2) - 48)), .int zf, .ref 25]) (ykc_125 (e := (0, .iconst 3, 0)) rfl) rfl rfl ?_
        refine w_cv (as := [.ref 154, .int (zn k), .int (Int32.ofInt 3)]) (r := [.int (zn (t (5 * k + 2) - 48)), .int zf, .ref 25]) (ykc_125 (e := (6, .invokevirtual 136, 0)) rfl) rfl rfl rfl rfl (zc_ldig4 (l := k) (i := 3) (d := t (5 * k + 3) - 48) hS2 hw2 (by omega) (by omega) (by omega) (by omega) ((hf.1 155 _ (by decide) (by simp)).trans ((hgl1 k (by omega)).2 3 (by omega)))) (fun v1846 ph1847 hv => ?_)
        obtain ⟨rfl, rfl⟩ := hv
        have td3 := znt (k := t (5 * k + 3) - 48) (by omega)
        show zW n D 125 Q 90 [some (.ref 0), some (.int zl), some (.int (zn k)), some (.int zf)] [.int (zn (t (5 * k + 3) - 48)), .int (zn (t (5 * k + 2) - 48)), .int zf, .ref 25] ph2
        refine w_cv (as := [.ref 25, .int zf, .int (zn (t (5 * k + 2) - 48)), .int (zn (t (5 * k + 3) - 48))]) (r := []) (ykc_125 (e := (6, .invokevirtual 143, 0)) rfl) rfl rfl rfl rfl (zc_addP hS2 hd2 (zn_of ef) rfl rfl (by omega)) (fun v1848 ph1849 hv => ?_)
        obtain ⟨rfl, fa, hd3⟩ := hv
        show zW n D 125 Q 93 [some (.ref 0), some (.int zl), some (.int (zn k)), some (.int zf)] [] ph1849
        have e1850 : (zn k) + Int32.ofInt 1 = zn (k + 1) := (zaddN (a := k) (b := 1) (znt (by omega)) c_2 (by omega))
        have te1850 := znt (k := k + 1) (by omega)
        refine w_store (pc' := 96) (L' := [some (.ref 0), some (.int zl), some (.int (zn (k + 1))), some (.int zf)]) (st' := []) (m := 3) (ykc_125 (e := (3, .iinc 2 1, 0)) rfl) (by rw [← e1850]; rfl) rfl ?_
        refine w_gb (ykc_125 (e := (4, .goto (-60), 36)) rfl) (fun k1851 hk1851 => ?_)
        exact ih k1851 hk1851 (k + 1) _ _ (Or.inr (by omega)) (zFr_trans hf (zFr_mono fa (by simp) (by simp))) hd3
  exact hl n 0 _ ph1833 (Or.inl rfl) zFr_refl hd1
theorem zc_things {ph : pm_H} {ln : Nat} {t : Nat → Nat} {R C P G nx u fl hn : Nat} {rk : Nat → Bool} {v : Nat → Nat} {w : Nat → Nat → Nat} {sv : Nat → Nat → Nat} (hS : zSh ph) (hT : zTc ph ln t) (hB : zBd ph) (hK : zKC ph R C rk P G v nx u w fl sv hn) : zM 126 [.ref 0] ph (fun v0 q => zBd q ∧ ∃ z : Int32, v0 = some (.int z) ∧ z.toInt = zLa R C rk 2 3 ln t (8 - G) ∧ ((zLa R C rk 2 3 ln t (8 - G) ≤ 0 ∧ zKC q R C rk P G v nx u w fl sv hn) ∨ (∃ k : Nat, 0 < k ∧ (k : Int) = zLa R C rk 2 3 ln t (8 - G) ∧ (∀ l, l < k → zLg R C rk 2 ln t (3 * l) 2 = 2) ∧ zKC q R C rk P (G + k) (zGv C t G v k) nx 0 w 0 sv hn))) := by
  obtain ⟨Q, hQ⟩ : ∃ Q : Option Value → pm_H → Prop, Q = (fun v0 q => zBd q ∧ ∃ z : Int32, v0 = some (.int z) ∧ z.toInt = zLa R C rk 2 3 ln t (8 - G) ∧ ((zLa R C rk 2 3 ln t (8 - G) ≤ 0 ∧ zKC q R C rk P G v nx u w fl sv hn) ∨ (∃ k : Nat, 0 < k ∧ (k : Int) = zLa R C rk 2 3 ln t (8 - G) ∧ (∀ l, l < k → zLg R C rk 2 ln t (3 * l) 2 = 2) ∧ zKC q R C rk P (G + k) (zGv C t G v k) nx 0 w 0 sv hn))) := ⟨_, rfl⟩
  rw [← hQ]
  refine zM_mk fun n D => ?_
  show zW n D 126 Q 0 [some (.ref 0), none, none] [] ph
  have c_0 : ((Int8.ofInt 8).toInt32).toInt = 8 := by decide
  have c_1 : (Int32.ofInt 0).toInt = 0 := by decide
  have c_2 : (Int32.ofInt 1).toInt = 1 := by decide
  have c_3 : (Int32.ofInt 2).toInt = 2 := by decide
  obtain ⟨hL, hd, hU, hk, hh⟩ := hK
  obtain ⟨gP, hP8, gG, hG8, g40, gp, gg⟩ := id hd
  have tP := znt (k := P) (by omega)
  have tG := znt (k := G) (by omega)
  have hR37 : 3 ≤ R ∧ R ≤ 7 := ⟨hL.2.2.2.2.2.1, hL.2.2.2.2.2.2.1⟩
  have hC37 : 3 ≤ C ∧ C ≤ 7 := hL.2.2.2.2.2.2.2
  have hRC49 : R * C ≤ 49 := zRC49 hR37.2 hC37.2
  have hr := @zLa_r R C 2 3 ln (8 - G) rk t (by omega)
  refine w_load (pc' := 1) (v := .ref 0) (m := 1) (ykc_126 (e := (2, .aload_n kF0, 0)) rfl) rfl rfl ?_
  refine w_gf (pc' := 4) (v := .ref 154) (ykc_126 (e := (5, .getfield 62, 0)) rfl) rfl (zsg hS zs_0_8) rfl ?_
  refine w_load (pc' := 5) (v := .ref 0) (m := 1) (ykc_126 (e := (2, .aload_n kF0, 0)) rfl) rfl rfl ?_
  refine w_gf (pc' := 8) (v := .ref 1) (ykc_126 (e := (5, .getfield 10, 0)) rfl) rfl (zsg hS zs_0_0) rfl ?_
  refine w_load (pc' := 9) (v := .ref 0) (m := 1) (ykc_126 (e := (2, .aload_n kF0, 0)) rfl) rfl rfl ?_
  refine w_gf (pc' := 12) (v := .ref 5) (ykc_126 (e := (5, .getfield 26, 0)) rfl) rfl (zsg hS zs_0_2) rfl ?_
  refine w_alu (pc' := 13) (st' := [.int (Int32.ofInt 2), .ref 5, .ref 1, .ref 154]) (ykc_126 (e := (0, .iconst 2, 0)) rfl) rfl rfl ?_
  refine w_push (pc' := 15) (v := .int ((Int8.ofInt 8).toInt32)) (m := 2) (ykc_126 (e := (1, .bipush 8, 0)) rfl) rfl rfl ?_
  refine w_load (pc' := 16) (v := .ref 0) (m := 1) (ykc_126 (e := (2, .aload_n kF0, 0)) rfl) rfl rfl ?_
  refine w_gf (pc' := 19) (v := .ref 25) (ykc_126 (e := (5, .getfield 42, 0)) rfl) rfl (zsg hS zs_0_4) rfl ?_
  refine w_gf (pc' := 22) (v := .int (zn G)) (ykc_126 (e := (5, .getfield 147, 0)) rfl) rfl gG rfl ?_
  have e1852 : ((Int8.ofInt 8).toInt32) - (zn G) = zn (8 - G) := zsubN (a := 8) (b := G) c_0 (znt (by omega)) (by omega)
  have te1852 := znt (k := 8 - G) (by omega)
  refine w_alu (pc' := 23) (st' := [.int (zn (8 - G)), .int (Int32.ofInt 2), .ref 5, .ref 1, .ref 154]) (ykc_126 (e := (0, .isub, 0)) rfl) (by show some ([.int (((Int8.ofInt 8).toInt32) - (zn G)), .int (Int32.ofInt 2), .ref 5, .ref 1, .ref 154] : List Value) = _; rw [e1852]) rfl ?_
  refine w_cv (as := [.ref 154, .ref 1, .ref 5, .int (Int32.ofInt 2), .int (zn (8 - G))]) (r := []) (ykc_126 (e := (6, .invokevirtual 133, 0)) rfl) rfl rfl rfl rfl (zc_lread2 hS hL hT hB (by omega) (znt (by omega)) (by omega)) (fun v1853 ph1854 hv => ?_)
  obtain ⟨fr, hw, zl, rfl, ezl, hgl⟩ := hv
  show zW n D 126 Q 26 [some (.ref 0), none, none] [.int zl] ph1854
  refine w_store (pc' := 27) (L' := [some (.ref 0), some (.int zl), none]) (st' := []) (m := 1) (ykc_126 (e := (3, .istore_n kF1, 0)) rfl) rfl rfl ?_
  refine w_load (pc' := 28) (v := .ref 0) (m := 1) (ykc_126 (e := (2, .aload_n kF0, 0)) rfl) rfl rfl ?_
  refine w_gf (pc' := 31) (v := .ref 1) (ykc_126 (e := (5, .getfield 10, 0)) rfl) rfl ((fr.1 0 0 (by decide) (by decide)).trans (zsg hS zs_0_0)) rfl ?_
  refine w_cv (as := [.ref 1]) (r := []) (ykc_126 (e := (6, .invokevirtual 119, 0)) rfl) rfl rfl rfl rfl (zc_tclear) (fun v1855 ph1856 hv => ?_)
  obtain ⟨rfl, ft, gt1⟩ := hv
  show zW n D 126 Q 34 [some (.ref 0), some (.int zl), none] [] ph1856
  refine w_alu (pc' := 35) (st' := [.int (Int32.ofInt 0)]) (ykc_126 (e := (0, .iconst 0, 0)) rfl) rfl rfl ?_
  refine w_store (pc' := 36) (L' := [some (.ref 0), some (.int zl), some (.int (Int32.ofInt 0))]) (st' := []) (m := 1) (ykc_126 (e := (3, .istore_n kF2, 0)) rfl) rfl rfl ?_
  have f1 : zFr [155] [(1, 1), (154, 2), (156, 0), (156, 1)] ph ph1856 := zFr_trans (zFr_mono fr (by simp) (by simp)) (zFr_mono ft (by simp) (by simp))
  have hS1 := zSh_F f1 (by decide +kernel) hS
  have hL1 := zCl_F f1 (by simp) (by intro i hi; simp <;> omega) (by simp) hL
  have hd1 := zSd_F f1 (by intro i hi; simp <;> omega) (by intro j i hj; simp <;> omega) hd
  have hU1 := zCu_F f1 (by simp) (by simp) (by intro j h1 h2; simp <;> omega) (by intro j i h1 h2; simp <;> omega) hU
  have hk1 := zCk_F2 f1 (by simp) (by simp) (by intro j h1 h2; simp <;> omega) (by intro j i h1 h2; simp <;> omega) hk
  have hh1 : zCh ph1856 hn := ⟨(f1.1 0 14 (by decide) (by decide)).trans hh.1, hh.2⟩
  have hw1 := (ft.1 154 2 (by decide) (by decide)).trans hw
  have hB1 : zBd ph1856 := ⟨(f1.1 156 2 (by decide) (by decide)).trans hB.1, (f1.1 156 3 (by decide) (by decide)).trans hB.2⟩
  have hgl1 : ∀ l : Nat, (l : Int) < zLa R C rk 2 3 ln t (8 - G) → zLg R C rk 2 ln t (3 * l) 2 = 2 ∧ ∀ i, i < 2 → zc ph1856 155 (l * 2 + i) = some (.int (zn (t (3 * l + i) - 48))) := fun l hl => ⟨(hgl l hl).1, fun i hi => (ft.1 155 _ (by decide) (by simp)).trans ((hgl l hl).2 i hi)⟩
  have hl : ∀ (n : Nat), ∀ (k : Nat) (ph2 : pm_H), (k = 0 ∨ (k : Int) ≤ zLa R C rk 2 3 ln t (8 - G)) → (zFr [30] [(25, 1)] ph1856 ph2) → (zSd ph2 25 P (G + k) (zGv C t G v k)) → zW n D 126 Q 36 [some (.ref 0), some (.int zl), some (.int (zn k))] [] ph2 := by
    intro n
    induction n using Nat.strongRecOn with
    | ind n ih =>
      intro k ph2 hk9 hf hd2
      have tk := znt (k := k) (by omega)
      have hS2 := zSh_F hf (by decide +kernel) hS1
      have hL2 := zCl_F hf (by simp) (by intro i hi; simp <;> omega) (by simp) hL1
      have hw2 := (hf.1 154 2 (by decide) (by decide)).trans hw1
      refine w_load (pc' := 37) (v := .int (zn k)) (m := 1) (ykc_126 (e := (2, .iload_n kF2, 0)) rfl) rfl rfl ?_
      refine w_load (pc' := 38) (v := .int zl) (m := 1) (ykc_126 (e := (2, .iload_n kF1, 0)) rfl) rfl rfl ?_
      refine w_ige (ykc_126 (e := (4, .if_icmp .ge 41, 79)) rfl) rfl (fun b1857 => ?_) (fun b1857 => ?_)
      · refine w_load (pc' := 80) (v := .int zl) (m := 1) (ykc_126 (e := (2, .iload_n kF1, 0)) rfl) rfl rfl ?_
        refine w_zle (ykc_126 (e := (4, .ifCond .le 10, 90)) rfl) rfl (fun b1858 => ?_) (fun b1858 => ?_)
        · refine w_load (pc' := 91) (v := .int zl) (m := 1) (ykc_126 (e := (2, .iload_n kF1, 0)) rfl) rfl rfl ?_
          refine w_ret (v := (some (.int zl))) (ykc_126 (e := (7, .ireturn, 0)) rfl) (zr_v rfl) ?_
          have ek : k = 0 := by omega
          subst ek
          rw [hQ]
          refine ⟨⟨(hf.1 156 2 (by decide) (by decide)).trans hB1.1, (hf.1 156 3 (by decide) (by decide)).trans hB1.2⟩, _, rfl, ezl, Or.inl ⟨by omega, hL2, hd2, zCu_F hf (by simp) (by simp) (by intro j h1 h2; simp <;> omega) (by intro j i h1 h2; simp <;> omega) hU1, zCk_F hf (by simp) (by simp) (by intro j h1 h2; simp <;> omega) (by intro j i h1 h2; simp <;> omega) hk1, (hf.1 0 14 (by decide) (by decide)).trans hh1.1, hh1.2⟩⟩
        · refine w_load (pc' := 84) (v := .ref 0) (m := 1) (ykc_126 (e := (2, .aload_n kF0, 0)) rfl) rfl rfl ?_
          refine w_gf (pc' := 87) (v := .ref 43) (ykc_126 (e := (5, .getfield 55, 0)) rfl) rfl (zsg hS2 zs_0_7) rfl ?_
          refine w_cv (as := [.ref 43]) (r := []) (ykc_126 (e := (6, .invokevirtual 123, 0)) rfl) rfl rfl rfl rfl (zc_hclear hS2) (fun v1859 ph1860 hv => ?_)
          obtain ⟨rfl, fh, gh2, gh4⟩ := hv
          show zW n D 126 Q 90 [some (.ref 0), some (.int zl), some (.int (zn k))] [] ph1860
          refine w_load (pc' := 91) (v := .int zl) (m := 1) (ykc_126 (e := (2, .iload_n kF1, 0)) rfl) rfl rfl ?_
          refine w_ret (v := (some (.int zl))) (ykc_126 (e := (7, .ireturn, 0)) rfl) (zr_v rfl) ?_
          have f3 : zFr [30] [(25, 1), (43, 2), (43, 4)] ph1856 _ := zFr_trans (zFr_mono hf (by simp) (by simp)) (zFr_mono fh (by simp) (by simp))
          rw [hQ]
          refine ⟨⟨(f3.1 156 2 (by decide) (by decide)).trans hB1.1, (f3.1 156 3 (by decide) (by decide)).trans hB1.2⟩, _, rfl, ezl, Or.inr ⟨k, by omega, by omega, fun l hl => (hgl1 l (by omega)).1, zCl_F f3 (by simp) (by intro i hi; simp <;> omega) (by simp) hL1, zSd_F fh (by intro i hi; simp) (by intro j i hj; simp <;> omega) hd2, ⟨(f3.1 43 1 (by decide) (by decide)).trans hU1.1, hU1.2.1, gh2, by decide, fun i hi => absurd hi (Nat.not_lt_zero i)⟩, ⟨gh4, by decide, fun i hi h => absurd h (by rw [Nat.zero_testBit]; decide)⟩, (f3.1 0 14 (by decide) (by decide)).trans hh1.1, hh1.2⟩⟩
      · have gk := (hgl1 k (by omega)).1
        have g0 := zLk_d (zLg_a gk 0 (by omega))
        have g1 := zLk_d (zLg_a gk 1 (by omega))
        have b0 : zLb R C 0 = R := rfl
        have b1 : zLb R C 1 = C := rfl
        rw [Nat.add_zero] at g0
        refine w_load (pc' := 42) (v := .ref 0) (m := 1) (ykc_126 (e := (2, .aload_n kF0, 0)) rfl) rfl rfl ?_
        refine w_gf (pc' := 45) (v := .ref 25) (ykc_126 (e := (5, .getfield 42, 0)) rfl) rfl (zsg hS2 zs_0_4) rfl ?_
        refine w_load (pc' := 46) (v := .ref 0) (m := 1) (ykc_126 (e := (2, .aload_n kF0, 0)) rfl) rfl rfl ?_
        refine w_gf (pc' := 49) (v := .ref 5) (ykc_126 (e := (5, .getfield 26, 0)) rfl) rfl (zsg hS2 zs_0_2) rfl ?_
        refine w_load (pc' := 50) (v := .ref 0) (m := 1) (ykc_126 (e := (2, .aload_n kF0, 0)) rfl) rfl rfl ?_
        refine w_gf (pc' := 53) (v := .ref 154) (ykc_126 (e := (5, .getfield 62, 0)) rfl) rfl (zsg hS2 zs_0_8) rfl ?_
        refine w_load (pc' := 54) (v := .int (zn k)) (m := 1) (ykc_126 (e := (2, .iload_n kF2, 0)) rfl) rfl rfl ?_
        refine w_alu (pc' := 55) (st' := [.int (Int32.ofInt 0), .int (zn k), .ref 154, .ref 5, .ref 25]) (ykc_126 (e := (0, .iconst 0, 0)) rfl) rfl rfl ?_
        refine w_cv (as := [.ref 154, .int (zn k), .int (Int32.ofInt 0)]) (r := [.ref 5, .ref 25]) (ykc_126 (e := (6, .invokevirtual 136, 0)) rfl) rfl rfl rfl rfl (zc_ldig2 (l := k) (i := 0) (d := t (3 * k) - 48) hS2 hw2 (by omega) (by omega) (by omega) (by omega) ((hf.1 155 _ (by decide) (by simp)).trans ((hgl1 k (by omega)).2 0 (by omega)))) (fun v1861 ph1862 hv => ?_)
        obtain ⟨rfl, rfl⟩ := hv
        have td0 := znt (k := t (3 * k) - 48) (by omega)
        show zW n D 126 Q 58 [some (.ref 0), some (.int zl), some (.int (zn k))] [.int (zn (t (3 * k) - 48)), .ref 5, .ref 25] ph2
        refine w_load (pc' := 59) (v := .ref 0) (m := 1) (ykc_126 (e := (2, .aload_n kF0, 0)) rfl) rfl rfl ?_
        refine w_gf (pc' := 62) (v := .ref 154) (ykc_126 (e := (5, .getfield 62, 0)) rfl) rfl (zsg hS2 zs_0_8) rfl ?_
        refine w_load (pc' := 63) (v := .int (zn k)) (m := 1) (ykc_126 (e := (2, .iload_n kF2, 0)) rfl) rfl rfl ?_
        refine w_alu (pc' := 64) (st' := [.int (Int32.ofInt 1), .int (zn k), .ref 154, .int (zn (t (3 * k) - 48)), .ref 5, .ref 25]) (ykc_126 (e := (0, .iconst 1, 0)) rfl) rfl rfl ?_
        refine w_cv (as := [.ref 154, .int (zn k), .int (Int32.ofInt 1)]) (r := [.int (zn (t (3 * k) - 48)), .ref 5, .ref 25]) (ykc_126 (e := (6, .invokevirtual 136, 0)) rfl) rfl rfl rfl rfl (zc_ldig2 (l := k) (i := 1) (d := t (3 * k + 1) - 48) hS2 hw2 (by omega) (by omega) (by omega) (by omega) ((hf.1 155 _ (by decide) (by simp)).trans ((hgl1 k (by omega)).2 1 (by omega)))) (fun v1863 ph1864 hv => ?_)
        obtain ⟨rfl, rfl⟩ := hv
        have td1 := znt (k := t (3 * k + 1) - 48) (by omega)
        show zW n D 126 Q 67 [some (.ref 0), some (.int zl), some (.int (zn k))] [.int (zn (t (3 * k + 1) - 48)), .int (zn (t (3 * k) - 48)), .ref 5, .ref 25] ph2
        refine w_cv (as := [.ref 5, .int (zn (t (3 * k) - 48)), .int (zn (t (3 * k + 1) - 48))]) (r := [.ref 25]) (ykc_126 (e := (6, .invokevirtual 140, 0)) rfl) rfl rfl rfl rfl (zc_fat hS2 hL2) (fun v1865 ph1866 hv => ?_)
        obtain ⟨rfl, zf, rfl, ef⟩ := hv
        rw [td0, td1, zLf_c (by omega) (by omega) (by omega) (by omega)] at ef
        have lf := zLf_lt (R := R) (C := C) (t := t) (p := 3 * k) (by omega) (by omega) (by omega) (by omega)
        show zW n D 126 Q 70 [some (.ref 0), some (.int zl), some (.int (zn k))] [.int zf, .ref 25] ph2
        refine w_cv (as := [.ref 25, .int zf]) (r := []) (ykc_126 (e := (6, .invokevirtual 150, 0)) rfl) rfl rfl rfl rfl (zc_addT hS2 hd2 (zn_of ef) (by omega)) (fun v1867 ph1868 hv => ?_)
        obtain ⟨rfl, fa, hd3⟩ := hv
        show zW n D 126 Q 73 [some (.ref 0), some (.int zl), some (.int (zn k))] [] ph1868
        have e1869 : (zn k) + Int32.ofInt 1 = zn (k + 1) := (zaddN (a := k) (b := 1) (znt (by omega)) c_2 (by omega))
        have te1869 := znt (k := k + 1) (by omega)
        refine w_store (pc' := 76) (L' := [some (.ref 0), some (.int zl), some (.int (zn (k + 1)))]) (st' := []) (m := 3) (ykc_126 (e := (3, .iinc 2 1, 0)) rfl) (by rw [← e1869]; rfl) rfl ?_
        refine w_gb (ykc_126 (e := (4, .goto (-40), 36)) rfl) (fun k1870 hk1870 => ?_)
        exact ih k1870 hk1870 (k + 1) _ (Or.inr (by omega)) (zFr_trans hf (zFr_mono fa (by simp) (by simp))) hd3
  exact hl n 0 ph1856 (Or.inl rfl) zFr_refl hd1
