/-! sheet, by W; printed by wip/z/z_x_sheet.py -/
/-- a SHEET's entry, held between 0 and 4 -/
def zq4 (x : Int32) : Nat := (max 0 (min 4 x.toInt)).toNat
theorem zq4_le {x : Int32} : zq4 x ≤ 4 := by
  unfold zq4
  omega
def zsck (kd x : Int32) : Int32 := if kd.toInt = 0 then x.toInt8.toInt32 else if kd.toInt = 1 then x.toInt16.toInt32 else x
def zsq (f st : Int32) : Nat → Int32
  | 0 => f
  | i + 1 => zsq f st i + st
theorem zsq_eq {f st : Int32} : ∀ k, f + zn k * st = zsq f st k
  | 0 => by
    show f + Int32.ofNat 0 * st = f
    rw [show Int32.ofNat 0 = 0 from rfl, Int32.zero_mul, Int32.add_zero]
  | k + 1 => by
    show f + zn (k + 1) * st = zsq f st k + st
    rw [← zsq_eq k, show zn (k + 1) = zn k + 1 from Int32.ofNat_add k 1, Int32.add_mul, Int32.one_mul, Int32.add_assoc]
def zsv (kd nn f st : Int32) (i : Nat) : Nat := if kd.toInt = 3 ∨ nn.toInt ≤ (i : Int) then 0 else zq4 (zsck kd (zsq f st i))
theorem zsv_le {kd nn f st : Int32} {i : Nat} : zsv kd nn f st i ≤ 4 := by
  unfold zsv
  split
  · exact Nat.zero_le _
  · exact zq4_le
def zsh (v : Nat → Nat) (P : Nat) (kd nn f st : Int32) (i : Nat) : Nat := if 16 ≤ i ∧ i < 16 + P then zsv kd nn f st (i - 16) else v i
theorem zsh_b {v : Nat → Nat} {P i : Nat} {kd nn f st : Int32} (h : i < P) : zsh v P kd nn f st (16 + i) = zsv kd nn f st i := by
  unfold zsh
  rw [if_pos (by omega), show 16 + i - 16 = i by omega]
theorem zsh_o {v : Nat → Nat} {P i : Nat} {kd nn f st : Int32} (h : ¬ (16 ≤ i ∧ i < 16 + P)) : zsh v P kd nn f st i = v i := if_neg h
/-- how broad all BRIMS are together -/
def zBs (v : Nat → Nat) : Nat → Int32
  | 0 => Int32.ofInt 0
  | p + 1 => zBs v p + zn (v (16 + p))
def zsa (v : Nat → Nat) (P : Nat) (kd nn f st : Int32) : Int32 := if kd.toInt < 0 ∨ 3 < kd.toInt ∨ 8 < nn.toInt then Int32.ofInt (-1) else if kd.toInt = 3 then (Int8.ofInt (-3)).toInt32 else if nn.toInt < 0 then (Int8.ofInt (-2)).toInt32 else zBs (zsh v P kd nn f st) P
def zsr (v : Nat → Nat) (P : Nat) (kd nn f st : Int32) : Nat → Nat := if (kd.toInt < 0 ∨ 3 < kd.toInt ∨ 8 < nn.toInt) ∨ (kd.toInt ≠ 3 ∧ nn.toInt < 0) then v else zsh v P kd nn f st
theorem zsh_ok {R C P G : Nat} {v : Nat → Nat} {kd nn f st : Int32} (hP : P ≤ 8) (h : zOk R C P G v) : zOk R C P G (zsh v P kd nn f st) := by
  refine ⟨fun p hp => ⟨?_, ?_, ?_, ?_⟩, fun t ht => ?_, ?_⟩
  · rw [zsh_o (by omega)]; exact (h.1 p hp).1
  · rw [zsh_o (by omega)]; exact (h.1 p hp).2.1
  · rw [zsh_b hp]; have := @zsv_le kd nn f st p; omega
  · rw [zsh_o (by omega)]; exact (h.1 p hp).2.2.2
  · rw [zsh_o (by omega)]; exact h.2.1 t ht
  · rw [zsh_o (by omega)]; exact h.2.2
theorem zSd_sh {p q : pm_H} {P G : Nat} {v u : Nat → Nat} (f : zFr [28] [] p q) (hd : zSd p 25 P G v) (h : ∀ i, i < P → zc q 28 i = some (.int (zn (u (16 + i))))) (hu : ∀ i, ¬ (16 ≤ i ∧ i < 16 + P) → u i = v i) : zSd q 25 P G u := by
  obtain ⟨g0, gP, g1, gG, g2, g3, g4⟩ := hd
  refine ⟨(f.1 25 0 (by first | exact zqm rfl | decide) (by first | exact zqp rfl | simp)).trans g0, gP, (f.1 25 1 (by first | exact zqm rfl | decide) (by first | exact zqp rfl | simp)).trans g1, gG, ?_, fun i hi => ⟨?_, ?_, h i hi, ?_⟩, fun i hi => ?_⟩
  · rw [hu 40 (by omega)]; exact (f.1 25 2 (by first | exact zqm rfl | decide) (by first | exact zqp rfl | simp)).trans g2
  · rw [hu i (by omega)]; exact (f.1 (25 + 1) i (by first | exact zqm rfl | decide) (by first | exact zqp rfl | simp)).trans (g3 i hi).1
  · rw [hu (8 + i) (by omega)]; exact (f.1 (25 + 2) i (by first | exact zqm rfl | decide) (by first | exact zqp rfl | simp)).trans (g3 i hi).2.1
  · rw [hu (24 + i) (by omega)]; exact (f.1 (25 + 4) i (by first | exact zqm rfl | decide) (by first | exact zqp rfl | simp)).trans (g3 i hi).2.2.2
  · rw [hu (32 + i) (by omega)]; exact (f.1 (25 + 5) i (by first | exact zqm rfl | decide) (by first | exact zqp rfl | simp)).trans (g4 i hi)
theorem zKC_sh {p q : pm_H} {R C P G nx u fl hn : Nat} {rk : Nat → Bool} {v v2 : Nat → Nat} {w sv : Nat → Nat → Nat} (f : zFr [28] [] p q) (h : zKC p R C rk P G v nx u w fl sv hn) (hd : zSd q 25 P G v2) : zKC q R C rk P G v2 nx u w fl sv hn := ⟨zCl_F f (by first | exact ⟨zqm rfl, zqm rfl, zqm rfl⟩ | simp) (by intro i hi; simp) (by simp) h.1, hd, zCu_F f (by first | exact zqm rfl | simp) (by first | exact ⟨zqp rfl, zqp rfl⟩ | simp) (by intro j h1 h2; simp <;> omega) (by intro j i h1 h2; simp) h.2.2.1, zCk_F f (by first | exact zqm rfl | simp) (by first | exact zqp rfl | simp) (by intro j h1 h2; simp <;> omega) (by intro j i h1 h2; simp) h.2.2.2.1, (f.1 _ _ (by first | exact zqm rfl | simp) (by first | exact zqp rfl | simp)).trans h.2.2.2.2.1, h.2.2.2.2.2⟩
theorem zc_entry {ph : pm_H} {kd x : Int32} : zM 132 [.int kd, .int x] ph (fun v0 q => ph = q ∧ v0 = some (.int (zn (zq4 (zsck kd x))))) := by
  obtain ⟨Q, hQ⟩ : ∃ Q : Option Value → pm_H → Prop, Q = (fun v0 q => ph = q ∧ v0 = some (.int (zn (zq4 (zsck kd x))))) := ⟨_, rfl⟩
  rw [← hQ]
  refine zM_mk fun n D => ?_
  show zW n D 132 Q 0 [some (.int kd), some (.int x), none] [] ph
  have c_0 : (Int32.ofInt 0).toInt = 0 := by decide +kernel
  have c_1 : (Int32.ofInt 1).toInt = 1 := by decide +kernel
  have c_2 : (Int32.ofInt 4).toInt = 4 := by decide +kernel
  refine w_load (pc' := 1) (v := .int kd) (m := 1) (ykc_132 (e := (2, .iload_n kF0, 0)) rfl) rfl rfl ?_
  refine w_zne (ykc_132 (e := (4, .ifCond .ne 8, 9)) rfl) rfl (fun b1124 => ?_) (fun b1124 => ?_)
  · refine w_load (pc' := 10) (v := .int kd) (m := 1) (ykc_132 (e := (2, .iload_n kF0, 0)) rfl) rfl rfl ?_
    refine w_alu (pc' := 11) (st' := [.int (Int32.ofInt 1), .int kd]) (ykc_132 (e := (0, .iconst 1, 0)) rfl) rfl rfl ?_
    refine w_ine (ykc_132 (e := (4, .if_icmp .ne 8, 19)) rfl) rfl (fun b1125 => ?_) (fun b1125 => ?_)
    · refine w_load (pc' := 20) (v := .int x) (m := 1) (ykc_132 (e := (2, .iload_n kF1, 0)) rfl) rfl rfl ?_
      refine w_store (pc' := 21) (L' := [some (.int kd), some (.int x), some (.int x)]) (st' := []) (m := 1) (ykc_132 (e := (3, .istore_n kF2, 0)) rfl) rfl rfl ?_
      refine w_alu (pc' := 22) (st' := [.int (Int32.ofInt 0)]) (ykc_132 (e := (0, .iconst 0, 0)) rfl) rfl rfl ?_
      refine w_alu (pc' := 23) (st' := [.int (Int32.ofInt 4), .int (Int32.ofInt 0)]) (ykc_132 (e := (0, .iconst 4, 0)) rfl) rfl rfl ?_
      refine w_load (pc' := 24) (v := .int x) (m := 1) (ykc_132 (e := (2, .iload_n kF2, 0)) rfl) rfl rfl ?_
      obtain ⟨z1126, e_z1126⟩ : ∃ zq : Int32, (if x < (Int32.ofInt 4) then x else (Int32.ofInt 4)) = zq := ⟨_, rfl⟩
      have h_z1126 := zminI e_z1126
      refine w_mem1 (pc' := 27) (m := 3) (st' := [.int z1126, .int (Int32.ofInt 0)]) (ph' := ph) (ykc_132 (e := (5, .invokestatic 227, 0)) rfl) (by rw [← e_z1126]; rfl) rfl ?_
      obtain ⟨z1127, e_z1127⟩ : ∃ zq : Int32, (if (Int32.ofInt 0) < z1126 then z1126 else (Int32.ofInt 0)) = zq := ⟨_, rfl⟩
      have h_z1127 := zmaxI e_z1127
      refine w_mem1 (pc' := 30) (m := 3) (st' := [.int z1127]) (ph' := ph) (ykc_132 (e := (5, .invokestatic 232, 0)) rfl) (by rw [← e_z1127]; rfl) rfl ?_
      refine w_ret (v := (some (.int z1127))) (ykc_132 (e := (7, .ireturn, 0)) rfl) (zr_v rfl) ?_
      have e9 : zsck kd x = x := by
        unfold zsck
        rw [if_neg (by omega), if_neg (by omega)]
      rw [hQ]
      exact ⟨rfl, by rw [zn_of (x := z1127) (k := zq4 (zsck kd x)) (by unfold zq4; rw [e9]; omega)]⟩
    · refine w_load (pc' := 15) (v := .int x) (m := 1) (ykc_132 (e := (2, .iload_n kF1, 0)) rfl) rfl rfl ?_
      obtain ⟨z1128, e_z1128, h_z1128⟩ : ∃ zq : Int32, x.toInt16.toInt32 = zq ∧ zq.toInt = (x.toInt16.toInt32).toInt := ⟨_, rfl, rfl⟩
      refine w_alu (pc' := 16) (st' := [.int z1128]) (ykc_132 (e := (0, .i2s, 0)) rfl) (by rw [← e_z1128]; rfl) rfl ?_
      refine w_br (pc' := 20) (st' := [.int z1128]) (ykc_132 (e := (4, .goto 4, 20)) rfl) rfl ?_
      refine w_store (pc' := 21) (L' := [some (.int kd), some (.int x), some (.int z1128)]) (st' := []) (m := 1) (ykc_132 (e := (3, .istore_n kF2, 0)) rfl) rfl rfl ?_
      refine w_alu (pc' := 22) (st' := [.int (Int32.ofInt 0)]) (ykc_132 (e := (0, .iconst 0, 0)) rfl) rfl rfl ?_
      refine w_alu (pc' := 23) (st' := [.int (Int32.ofInt 4), .int (Int32.ofInt 0)]) (ykc_132 (e := (0, .iconst 4, 0)) rfl) rfl rfl ?_
      refine w_load (pc' := 24) (v := .int z1128) (m := 1) (ykc_132 (e := (2, .iload_n kF2, 0)) rfl) rfl rfl ?_
      obtain ⟨z1129, e_z1129⟩ : ∃ zq : Int32, (if z1128 < (Int32.ofInt 4) then z1128 else (Int32.ofInt 4)) = zq := ⟨_, rfl⟩
      have h_z1129 := zminI e_z1129
      refine w_mem1 (pc' := 27) (m := 3) (st' := [.int z1129, .int (Int32.ofInt 0)]) (ph' := ph) (ykc_132 (e := (5, .invokestatic 227, 0)) rfl) (by rw [← e_z1129]; rfl) rfl ?_
      obtain ⟨z1130, e_z1130⟩ : ∃ zq : Int32, (if (Int32.ofInt 0) < z1129 then z1129 else (Int32.ofInt 0)) = zq := ⟨_, rfl⟩
      have h_z1130 := zmaxI e_z1130
      refine w_mem1 (pc' := 30) (m := 3) (st' := [.int z1130]) (ph' := ph) (ykc_132 (e := (5, .invokestatic 232, 0)) rfl) (by rw [← e_z1130]; rfl) rfl ?_
      refine w_ret (v := (some (.int z1130))) (ykc_132 (e := (7, .ireturn, 0)) rfl) (zr_v rfl) ?_
      have e9 : zsck kd x = x.toInt16.toInt32 := by
        unfold zsck
        rw [if_neg (by omega), if_pos (by omega)]
      rw [hQ]
      exact ⟨rfl, by rw [zn_of (x := z1130) (k := zq4 (zsck kd x)) (by unfold zq4; rw [e9]; omega)]⟩
  · refine w_load (pc' := 5) (v := .int x) (m := 1) (ykc_132 (e := (2, .iload_n kF1, 0)) rfl) rfl rfl ?_
    obtain ⟨z1131, e_z1131, h_z1131⟩ : ∃ zq : Int32, x.toInt8.toInt32 = zq ∧ zq.toInt = (x.toInt8.toInt32).toInt := ⟨_, rfl, rfl⟩
    refine w_alu (pc' := 6) (st' := [.int z1131]) (ykc_132 (e := (0, .i2b, 0)) rfl) (by rw [← e_z1131]; rfl) rfl ?_
    refine w_br (pc' := 20) (st' := [.int z1131]) (ykc_132 (e := (4, .goto 14, 20)) rfl) rfl ?_
    refine w_store (pc' := 21) (L' := [some (.int kd), some (.int x), some (.int z1131)]) (st' := []) (m := 1) (ykc_132 (e := (3, .istore_n kF2, 0)) rfl) rfl rfl ?_
    refine w_alu (pc' := 22) (st' := [.int (Int32.ofInt 0)]) (ykc_132 (e := (0, .iconst 0, 0)) rfl) rfl rfl ?_
    refine w_alu (pc' := 23) (st' := [.int (Int32.ofInt 4), .int (Int32.ofInt 0)]) (ykc_132 (e := (0, .iconst 4, 0)) rfl) rfl rfl ?_
    refine w_load (pc' := 24) (v := .int z1131) (m := 1) (ykc_132 (e := (2, .iload_n kF2, 0)) rfl) rfl rfl ?_
    obtain ⟨z1132, e_z1132⟩ : ∃ zq : Int32, (if z1131 < (Int32.ofInt 4) then z1131 else (Int32.ofInt 4)) = zq := ⟨_, rfl⟩
    have h_z1132 := zminI e_z1132
    refine w_mem1 (pc' := 27) (m := 3) (st' := [.int z1132, .int (Int32.ofInt 0)]) (ph' := ph) (ykc_132 (e := (5, .invokestatic 227, 0)) rfl) (by rw [← e_z1132]; rfl) rfl ?_
    obtain ⟨z1133, e_z1133⟩ : ∃ zq : Int32, (if (Int32.ofInt 0) < z1132 then z1132 else (Int32.ofInt 0)) = zq := ⟨_, rfl⟩
    have h_z1133 := zmaxI e_z1133
    refine w_mem1 (pc' := 30) (m := 3) (st' := [.int z1133]) (ph' := ph) (ykc_132 (e := (5, .invokestatic 232, 0)) rfl) (by rw [← e_z1133]; rfl) rfl ?_
    refine w_ret (v := (some (.int z1133))) (ykc_132 (e := (7, .ireturn, 0)) rfl) (zr_v rfl) ?_
    have e9 : zsck kd x = x.toInt8.toInt32 := if_pos (by omega)
    rw [hQ]
    exact ⟨rfl, by rw [zn_of (x := z1133) (k := zq4 (zsck kd x)) (by unfold zq4; rw [e9]; omega)]⟩
theorem zc_brims {ph : pm_H} {S P G : Nat} {v : Nat → Nat} (hs : zSs ph S) (hd : zSd ph S P G v) : zM 112 [.ref S] ph (fun v0 q => ph = q ∧ v0 = some (.int (zBs v P))) := by
  obtain ⟨Q, hQ⟩ : ∃ Q : Option Value → pm_H → Prop, Q = (fun v0 q => ph = q ∧ v0 = some (.int (zBs v P))) := ⟨_, rfl⟩
  rw [← hQ]
  refine zM_mk fun n D => ?_
  show zW n D 112 Q 0 [some (.ref S), none, none] [] ph
  have c_0 : ((Int8.ofInt 8).toInt32).toInt = 8 := by decide +kernel
  have c_1 : (Int32.ofInt 0).toInt = 0 := by decide +kernel
  have c_2 : (Int32.ofInt 1).toInt = 1 := by decide +kernel
  have hd0 := hd
  have hs0 := hs
  obtain ⟨r3, r4, r5, r6, r7, l1, l2, l3, l4, l5⟩ := hs
  obtain ⟨gP, hP8, gG, hG8, gH, gv, gw⟩ := hd
  have tP := znt (k := P) (by omega)
  have tG := znt (k := G) (by omega)
  refine w_alu (pc' := 1) (st' := [.int (Int32.ofInt 0)]) (ykc_112 (e := (0, .iconst 0, 0)) rfl) rfl rfl ?_
  refine w_store (pc' := 2) (L' := [some (.ref S), some (.int (Int32.ofInt 0)), none]) (st' := []) (m := 1) (ykc_112 (e := (3, .istore_n kF1, 0)) rfl) rfl rfl ?_
  refine w_alu (pc' := 3) (st' := [.int (Int32.ofInt 0)]) (ykc_112 (e := (0, .iconst 0, 0)) rfl) rfl rfl ?_
  refine w_store (pc' := 4) (L' := [some (.ref S), some (.int (Int32.ofInt 0)), some (.int (Int32.ofInt 0))]) (st' := []) (m := 1) (ykc_112 (e := (3, .istore_n kF2, 0)) rfl) rfl rfl ?_
  have hl : ∀ (n : Nat), ∀ (k : Nat), (k ≤ P) → zW n D 112 Q 4 [some (.ref S), some (.int (zBs v k)), some (.int (zn k))] [] ph := by
    intro n
    induction n using Nat.strongRecOn with
    | ind n ih =>
      intro k hk
      have tk := znt (k := k) (by omega)
      refine w_load (pc' := 5) (v := .int (zn k)) (m := 1) (ykc_112 (e := (2, .iload_n kF2, 0)) rfl) rfl rfl ?_
      refine w_load (pc' := 6) (v := .ref S) (m := 1) (ykc_112 (e := (2, .aload_n kF0, 0)) rfl) rfl rfl ?_
      refine w_gf (pc' := 9) (v := .int (zn P)) (ykc_112 (e := (5, .getfield 30, 0)) rfl) rfl gP rfl ?_
      refine w_ige (ykc_112 (e := (4, .if_icmp .ge 24, 33)) rfl) rfl (fun b1134 => ?_) (fun b1134 => ?_)
      · refine w_load (pc' := 34) (v := .int (zBs v k)) (m := 1) (ykc_112 (e := (2, .iload_n kF1, 0)) rfl) rfl rfl ?_
        refine w_ret (v := (some (.int (zBs v k)))) (ykc_112 (e := (7, .ireturn, 0)) rfl) (zr_v rfl) ?_
        have ek : P = k := by omega
        subst ek
        rw [hQ]
        exact ⟨rfl, rfl⟩
      · refine w_load (pc' := 13) (v := .int (zn k)) (m := 1) (ykc_112 (e := (2, .iload_n kF2, 0)) rfl) rfl rfl ?_
        refine w_push (pc' := 15) (v := .int ((Int8.ofInt 8).toInt32)) (m := 2) (ykc_112 (e := (1, .bipush 8, 0)) rfl) rfl rfl ?_
        refine w_ige (ykc_112 (e := (4, .if_icmp .ge 18, 33)) rfl) rfl (fun q => by exfalso; omega) (fun b1135 => ?_)
        refine w_load (pc' := 19) (v := .int (zBs v k)) (m := 1) (ykc_112 (e := (2, .iload_n kF1, 0)) rfl) rfl rfl ?_
        refine w_load (pc' := 20) (v := .ref S) (m := 1) (ykc_112 (e := (2, .aload_n kF0, 0)) rfl) rfl rfl ?_
        refine w_gf (pc' := 23) (v := .ref (S + 3)) (ykc_112 (e := (5, .getfield 18, 0)) rfl) rfl r5 rfl ?_
        refine w_load (pc' := 24) (v := .int (zn k)) (m := 1) (ykc_112 (e := (2, .iload_n kF2, 0)) rfl) rfl rfl ?_
        refine w_ialk (pc' := 25) (k := k) (ykc_112 (e := (5, .iaload, 0)) rfl) (gv k (by omega)).2.2.1 (by omega) rfl ?_
        refine w_alu (pc' := 26) (st' := [.int ((zBs v k) + (zn (v (16 + k))))]) (ykc_112 (e := (0, .iadd, 0)) rfl) rfl rfl ?_
        refine w_store (pc' := 27) (L' := [some (.ref S), some (.int ((zBs v k) + (zn (v (16 + k))))), some (.int (zn k))]) (st' := []) (m := 1) (ykc_112 (e := (3, .istore_n kF1, 0)) rfl) rfl rfl ?_
        have e1136 : (zn k) + Int32.ofInt 1 = zn (k + 1) := (zaddN (a := k) (b := 1) (znt (by omega)) c_2 (by omega))
        have te1136 := znt (k := k + 1) (by omega)
        refine w_store (pc' := 30) (L' := [some (.ref S), some (.int ((zBs v k) + (zn (v (16 + k))))), some (.int (zn (k + 1)))]) (st' := []) (m := 3) (ykc_112 (e := (3, .iinc 2 1, 0)) rfl) (by rw [← e1136]; rfl) rfl ?_
        refine w_gb (ykc_112 (e := (4, .goto (-26), 4)) rfl) (fun k1137 hk1137 => ?_)
        exact ih k1137 hk1137 (k + 1) (by omega)
  exact hl n 0 (Nat.zero_le _)
theorem zc_fill28 {ph : pm_H} (hS : zSh ph) : zM 328 [.ref 28, .int (Int32.ofInt 0)] ph (fun v0 q => v0 = none ∧ zFr [28] [] ph q ∧ ∀ i, i < 8 → zc q 28 i = some (.int (zn 0))) := by
  obtain ⟨Q, hQ⟩ : ∃ Q : Option Value → pm_H → Prop, Q = (fun v0 q => v0 = none ∧ zFr [28] [] ph q ∧ ∀ i, i < 8 → zc q 28 i = some (.int (zn 0))) := ⟨_, rfl⟩
  rw [← hQ]
  refine zM_mk fun n D => ?_
  show zW n D 328 Q 0 [some (.ref 28), some (.int (Int32.ofInt 0)), none, none] [] ph
  have c_0 : (Int32.ofInt 0).toInt = 0 := by decide +kernel
  have c_1 : (Int32.ofInt 1).toInt = 1 := by decide +kernel
  refine w_alu (pc' := 1) (st' := [.int (Int32.ofInt 0)]) (ykc_328 (e := (0, .iconst 0, 0)) rfl) rfl rfl ?_
  refine w_store (pc' := 2) (L' := [some (.ref 28), some (.int (Int32.ofInt 0)), some (.int (Int32.ofInt 0)), none]) (st' := []) (m := 1) (ykc_328 (e := (3, .istore_n kF2, 0)) rfl) rfl rfl ?_
  refine w_load (pc' := 3) (v := .ref 28) (m := 1) (ykc_328 (e := (2, .aload_n kF0, 0)) rfl) rfl rfl ?_
  have cn1138 : (Int32.ofNat 8).toInt = 8 := by decide
  refine w_aln (ykc_328 (e := (5, .arraylength, 0)) rfl) (zsl hS zl_28) rfl ?_
  refine w_store (pc' := 5) (L' := [some (.ref 28), some (.int (Int32.ofInt 0)), some (.int (Int32.ofInt 0)), some (.int (Int32.ofNat 8))]) (st' := []) (m := 1) (ykc_328 (e := (3, .istore_n kF3, 0)) rfl) rfl rfl ?_
  have hl : ∀ (n : Nat), ∀ (k : Nat) (ph1 : pm_H), (k ≤ 8) → (zFr [28] [] ph ph1) → (∀ i, i < k → zc ph1 28 i = some (.int (zn 0))) → zW n D 328 Q 5 [some (.ref 28), some (.int (Int32.ofInt 0)), some (.int (zn k)), some (.int (Int32.ofNat 8))] [] ph1 := by
    intro n
    induction n using Nat.strongRecOn with
    | ind n ih =>
      intro k ph1 hk hf hr
      have tk := znt (k := k) (by omega)
      refine w_load (pc' := 6) (v := .int (zn k)) (m := 1) (ykc_328 (e := (2, .iload_n kF2, 0)) rfl) rfl rfl ?_
      refine w_load (pc' := 7) (v := .int (Int32.ofNat 8)) (m := 1) (ykc_328 (e := (2, .iload_n kF3, 0)) rfl) rfl rfl ?_
      refine w_ige (ykc_328 (e := (4, .if_icmp .ge 13, 20)) rfl) rfl (fun b1139 => ?_) (fun b1139 => ?_)
      · refine w_ret (v := none) (ykc_328 (e := (7, .return_, 0)) rfl) (zr_v rfl) ?_
        have ek : k = 8 := by omega
        subst ek
        rw [hQ]
        exact ⟨rfl, hf, hr⟩
      · refine w_load (pc' := 11) (v := .ref 28) (m := 1) (ykc_328 (e := (2, .aload_n kF0, 0)) rfl) rfl rfl ?_
        refine w_load (pc' := 12) (v := .int (zn k)) (m := 1) (ykc_328 (e := (2, .iload_n kF2, 0)) rfl) rfl rfl ?_
        refine w_load (pc' := 13) (v := .int (Int32.ofInt 0)) (m := 1) (ykc_328 (e := (2, .iload_n kF1, 0)) rfl) rfl rfl ?_
        refine w_ias (pc' := 14) (k := k) (ykc_328 (e := (5, .iastore, 0)) rfl) (by omega) rfl (fun ph1141 u1140 => ?_)
        have e1142 : (zn k) + Int32.ofInt 1 = zn (k + 1) := (zaddN (a := k) (b := 1) (znt (by omega)) c_1 (by omega))
        have te1142 := znt (k := k + 1) (by omega)
        refine w_store (pc' := 17) (L' := [some (.ref 28), some (.int (Int32.ofInt 0)), some (.int (zn (k + 1))), some (.int (Int32.ofNat 8))]) (st' := []) (m := 3) (ykc_328 (e := (3, .iinc 2 1, 0)) rfl) (by rw [← e1142]; rfl) rfl ?_
        refine w_gb (ykc_328 (e := (4, .goto (-12), 5)) rfl) (fun k1143 hk1143 => ?_)
        exact ih k1143 hk1143 (k + 1) _ (by omega) (zFr_add hf u1140 (Or.inl (by first | exact zqi rfl | simp))) (fun i hi => by
          by_cases e : i = k
          · subst e
            exact u1140.1
          · exact (u1140.2.1 28 i (fun q => e q.2)).trans (hr i (by omega)))
  exact hl n 0 ph (Nat.zero_le _) zFr_refl (fun i hi => absurd hi (Nat.not_lt_zero i))
theorem zc_sheet {ph : pm_H} {R C P G nx u fl hn : Nat} {rk : Nat → Bool} {v : Nat → Nat} {w : Nat → Nat → Nat} {sv : Nat → Nat → Nat} (hS : zSh ph) (hK : zKC ph R C rk P G v nx u w fl sv hn) (hO0 : zOk R C P G v) {kd nn ff sp : Int32} : zM 131 [.ref 0, .int kd, .int nn, .int ff, .int sp] ph (fun v0 q => v0 = some (.int (zsa v P kd nn ff sp)) ∧ zKC q R C rk P G (zsr v P kd nn ff sp) nx u w fl sv hn) := by
  obtain ⟨Q, hQ⟩ : ∃ Q : Option Value → pm_H → Prop, Q = (fun v0 q => v0 = some (.int (zsa v P kd nn ff sp)) ∧ zKC q R C rk P G (zsr v P kd nn ff sp) nx u w fl sv hn) := ⟨_, rfl⟩
  rw [← hQ]
  refine zM_mk fun n D => ?_
  show zW n D 131 Q 0 [some (.ref 0), some (.int kd), some (.int nn), some (.int ff), some (.int sp), none] [] ph
  have c_0 : ((Int8.ofInt (-2)).toInt32).toInt = -2 := by decide +kernel
  have c_1 : ((Int8.ofInt (-3)).toInt32).toInt = -3 := by decide +kernel
  have c_2 : ((Int8.ofInt 8).toInt32).toInt = 8 := by decide +kernel
  have c_3 : (Int32.ofInt (-1)).toInt = -1 := by decide +kernel
  have c_4 : (Int32.ofInt 0).toInt = 0 := by decide +kernel
  have c_5 : (Int32.ofInt 1).toInt = 1 := by decide +kernel
  have c_6 : (Int32.ofInt 3).toInt = 3 := by decide +kernel
  have hd := hK.2.1
  obtain ⟨gP, hP8, -⟩ := hK.2.1
  have tP := znt (k := P) (by omega)
  refine w_load (pc' := 1) (v := .int kd) (m := 1) (ykc_131 (e := (2, .iload_n kF1, 0)) rfl) rfl rfl ?_
  refine w_zlt (ykc_131 (e := (4, .ifCond .lt 14, 15)) rfl) rfl (fun b1144 => ?_) (fun b1144 => ?_)
  · refine w_alu (pc' := 16) (st' := [.int (Int32.ofInt (-1))]) (ykc_131 (e := (0, .iconst (-1), 0)) rfl) rfl rfl ?_
    refine w_ret (v := (some (.int (Int32.ofInt (-1))))) (ykc_131 (e := (7, .ireturn, 0)) rfl) (zr_v rfl) ?_
    have ea : zsa v P kd nn ff sp = Int32.ofInt (-1) := if_pos (by omega)
    have er : zsr v P kd nn ff sp = v := if_pos (Or.inl (by omega))
    rw [hQ]
    refine ⟨by rw [ea], ?_⟩
    rw [er]
    exact hK
  · refine w_load (pc' := 5) (v := .int kd) (m := 1) (ykc_131 (e := (2, .iload_n kF1, 0)) rfl) rfl rfl ?_
    refine w_alu (pc' := 6) (st' := [.int (Int32.ofInt 3), .int kd]) (ykc_131 (e := (0, .iconst 3, 0)) rfl) rfl rfl ?_
    refine w_igt (ykc_131 (e := (4, .if_icmp .gt 9, 15)) rfl) rfl (fun b1145 => ?_) (fun b1145 => ?_)
    · refine w_alu (pc' := 16) (st' := [.int (Int32.ofInt (-1))]) (ykc_131 (e := (0, .iconst (-1), 0)) rfl) rfl rfl ?_
      refine w_ret (v := (some (.int (Int32.ofInt (-1))))) (ykc_131 (e := (7, .ireturn, 0)) rfl) (zr_v rfl) ?_
      have ea : zsa v P kd nn ff sp = Int32.ofInt (-1) := if_pos (by omega)
      have er : zsr v P kd nn ff sp = v := if_pos (Or.inl (by omega))
      rw [hQ]
      refine ⟨by rw [ea], ?_⟩
      rw [er]
      exact hK
    · refine w_load (pc' := 10) (v := .int nn) (m := 1) (ykc_131 (e := (2, .iload_n kF2, 0)) rfl) rfl rfl ?_
      refine w_push (pc' := 12) (v := .int ((Int8.ofInt 8).toInt32)) (m := 2) (ykc_131 (e := (1, .bipush 8, 0)) rfl) rfl rfl ?_
      refine w_ile (ykc_131 (e := (4, .if_icmp .le 5, 17)) rfl) rfl (fun b1146 => ?_) (fun b1146 => ?_)
      · refine w_load (pc' := 18) (v := .int kd) (m := 1) (ykc_131 (e := (2, .iload_n kF1, 0)) rfl) rfl rfl ?_
        refine w_alu (pc' := 19) (st' := [.int (Int32.ofInt 3), .int kd]) (ykc_131 (e := (0, .iconst 3, 0)) rfl) rfl rfl ?_
        refine w_ine (ykc_131 (e := (4, .if_icmp .ne 17, 36)) rfl) rfl (fun b1147 => ?_) (fun b1147 => ?_)
        · refine w_load (pc' := 37) (v := .int nn) (m := 1) (ykc_131 (e := (2, .iload_n kF2, 0)) rfl) rfl rfl ?_
          refine w_zge (ykc_131 (e := (4, .ifCond .ge 6, 43)) rfl) rfl (fun b1148 => ?_) (fun b1148 => ?_)
          · refine w_alu (pc' := 44) (st' := [.int (Int32.ofInt 0)]) (ykc_131 (e := (0, .iconst 0, 0)) rfl) rfl rfl ?_
            refine w_store (pc' := 46) (L' := [some (.ref 0), some (.int kd), some (.int nn), some (.int ff), some (.int sp), some (.int (Int32.ofInt 0))]) (st' := []) (m := 2) (ykc_131 (e := (3, .istore 5, 0)) rfl) rfl rfl ?_
            have hl : ∀ (n : Nat), ∀ (k : Nat) (ph1 : pm_H), (k ≤ P) → (zFr [28] [] ph ph1) → (∀ i, i < k → zc ph1 28 i = some (.int (zn (zsv kd nn ff sp i)))) → zW n D 131 Q 46 [some (.ref 0), some (.int kd), some (.int nn), some (.int ff), some (.int sp), some (.int (zn k))] [] ph1 := by
              intro n
              induction n using Nat.strongRecOn with
              | ind n ih =>
                intro k ph1 hk hf hr
                have tk := znt (k := k) (by omega)
                refine w_load (pc' := 48) (v := .int (zn k)) (m := 2) (ykc_131 (e := (2, .iload 5, 0)) rfl) rfl rfl ?_
                refine w_load (pc' := 49) (v := .ref 0) (m := 1) (ykc_131 (e := (2, .aload_n kF0, 0)) rfl) rfl rfl ?_
                refine w_gf (pc' := 52) (v := .ref 25) (ykc_131 (e := (5, .getfield 42, 0)) rfl) rfl ((hf.1 0 4 (by first | exact zqm rfl | decide) (by first | exact zqp rfl | decide)).trans (zsg hS zs_0_4)) rfl ?_
                refine w_gf (pc' := 55) (v := .int (zn P)) (ykc_131 (e := (5, .getfield 130, 0)) rfl) rfl ((hf.1 25 0 (by first | exact zqm rfl | decide) (by first | exact zqp rfl | decide)).trans gP) rfl ?_
                refine w_ige (ykc_131 (e := (4, .if_icmp .ge 47, 102)) rfl) rfl (fun b1149 => ?_) (fun b1149 => ?_)
                · have ek : P = k := by omega
                  subst ek
                  have hd9 := zSd_sh (u := zsh v P kd nn ff sp) hf hd (fun i hi => by rw [zsh_b hi]; exact hr i hi) (fun i hi => zsh_o hi)
                  refine w_load (pc' := 103) (v := .ref 0) (m := 1) (ykc_131 (e := (2, .aload_n kF0, 0)) rfl) rfl rfl ?_
                  refine w_gf (pc' := 106) (v := .ref 25) (ykc_131 (e := (5, .getfield 42, 0)) rfl) rfl ((hf.1 0 4 (by first | exact zqm rfl | decide) (by first | exact zqp rfl | decide)).trans (zsg hS zs_0_4)) rfl ?_
                  refine w_cv (as := [.ref 25]) (r := []) (ykc_131 (e := (6, .invokevirtual 224, 0)) rfl) rfl rfl rfl rfl (zc_brims (zSs_of (zSh_F hf (by decide +kernel) hS) (S := 25) (by decide)) hd9) (fun v1150 ph1151 hv => ?_)
                  obtain ⟨rfl, rfl⟩ := hv
                  show zW n D 131 Q 109 [some (.ref 0), some (.int kd), some (.int nn), some (.int ff), some (.int sp), some (.int (zn P))] [.int (zBs (zsh v P kd nn ff sp) P)] ph1
                  refine w_ret (v := (some (.int (zBs (zsh v P kd nn ff sp) P)))) (ykc_131 (e := (7, .ireturn, 0)) rfl) (zr_v rfl) ?_
                  have ea : zsa v P kd nn ff sp = zBs (zsh v P kd nn ff sp) P := by
                    unfold zsa
                    rw [if_neg (by omega), if_neg (by omega), if_neg (by omega)]
                  have er : zsr v P kd nn ff sp = zsh v P kd nn ff sp := if_neg (by omega)
                  rw [hQ]
                  refine ⟨by rw [ea], ?_⟩
                  rw [er]
                  exact zKC_sh hf hK hd9
                · refine w_load (pc' := 60) (v := .int (zn k)) (m := 2) (ykc_131 (e := (2, .iload 5, 0)) rfl) rfl rfl ?_
                  refine w_push (pc' := 62) (v := .int ((Int8.ofInt 8).toInt32)) (m := 2) (ykc_131 (e := (1, .bipush 8, 0)) rfl) rfl rfl ?_
                  refine w_ige (ykc_131 (e := (4, .if_icmp .ge 40, 102)) rfl) rfl (fun q => by exfalso; omega) (fun b1152 => ?_)
                  refine w_load (pc' := 66) (v := .ref 0) (m := 1) (ykc_131 (e := (2, .aload_n kF0, 0)) rfl) rfl rfl ?_
                  refine w_gf (pc' := 69) (v := .ref 25) (ykc_131 (e := (5, .getfield 42, 0)) rfl) rfl ((hf.1 0 4 (by first | exact zqm rfl | decide) (by first | exact zqp rfl | decide)).trans (zsg hS zs_0_4)) rfl ?_
                  refine w_gf (pc' := 72) (v := .ref 28) (ykc_131 (e := (5, .getfield 180, 0)) rfl) rfl ((hf.1 25 5 (by first | exact zqm rfl | decide) (by first | exact zqp rfl | decide)).trans (zsg hS zs_25_5)) rfl ?_
                  refine w_load (pc' := 74) (v := .int (zn k)) (m := 2) (ykc_131 (e := (2, .iload 5, 0)) rfl) rfl rfl ?_
                  refine w_load (pc' := 76) (v := .int (zn k)) (m := 2) (ykc_131 (e := (2, .iload 5, 0)) rfl) rfl rfl ?_
                  refine w_load (pc' := 77) (v := .int nn) (m := 1) (ykc_131 (e := (2, .iload_n kF2, 0)) rfl) rfl rfl ?_
                  refine w_ige (ykc_131 (e := (4, .if_icmp .ge 17, 94)) rfl) rfl (fun b1153 => ?_) (fun b1153 => ?_)
                  · refine w_alu (pc' := 95) (st' := [.int (Int32.ofInt 0), .int (zn k), .ref 28]) (ykc_131 (e := (0, .iconst 0, 0)) rfl) rfl rfl ?_
                    refine w_ias (pc' := 96) (k := k) (ykc_131 (e := (5, .iastore, 0)) rfl) (by omega) rfl (fun ph1155 u1154 => ?_)
                    have e1156 : (zn k) + Int32.ofInt 1 = zn (k + 1) := (zaddN (a := k) (b := 1) (znt (by omega)) c_5 (by omega))
                    have te1156 := znt (k := k + 1) (by omega)
                    refine w_store (pc' := 99) (L' := [some (.ref 0), some (.int kd), some (.int nn), some (.int ff), some (.int sp), some (.int (zn (k + 1)))]) (st' := []) (m := 3) (ykc_131 (e := (3, .iinc 5 1, 0)) rfl) (by rw [← e1156]; rfl) rfl ?_
                    refine w_gb (ykc_131 (e := (4, .goto (-53), 46)) rfl) (fun k1157 hk1157 => ?_)
                    exact ih k1157 hk1157 (k + 1) _ (by omega) (zFr_add hf u1154 (Or.inl (by first | exact zqi rfl | simp))) (fun i hi => by
                      by_cases e : i = k
                      · subst e
                        rw [show zsv kd nn ff sp i = 0 from if_pos (Or.inr (by omega))]
                        exact u1154.1
                      · exact (u1154.2.1 28 i (fun q => e q.2)).trans (hr i (by omega)))
                  · refine w_load (pc' := 81) (v := .int kd) (m := 1) (ykc_131 (e := (2, .iload_n kF1, 0)) rfl) rfl rfl ?_
                    refine w_load (pc' := 82) (v := .int ff) (m := 1) (ykc_131 (e := (2, .iload_n kF3, 0)) rfl) rfl rfl ?_
                    refine w_load (pc' := 84) (v := .int (zn k)) (m := 2) (ykc_131 (e := (2, .iload 5, 0)) rfl) rfl rfl ?_
                    refine w_load (pc' := 86) (v := .int sp) (m := 2) (ykc_131 (e := (2, .iload 4, 0)) rfl) rfl rfl ?_
                    refine w_alu (pc' := 87) (st' := [.int ((zn k) * sp), .int ff, .int kd, .int (zn k), .ref 28]) (ykc_131 (e := (0, .imul, 0)) rfl) rfl rfl ?_
                    refine w_alu (pc' := 88) (st' := [.int (zsq ff sp k), .int kd, .int (zn k), .ref 28]) (ykc_131 (e := (0, .iadd, 0)) rfl) (by rw [← (zsq_eq k : ff + ((zn k) * sp) = zsq ff sp k)]; rfl) rfl ?_
                    refine w_cs (as := [.int kd, .int (zsq ff sp k)]) (r := [.int (zn k), .ref 28]) (ykc_131 (e := (6, .invokestatic 221, 0)) rfl) rfl rfl rfl rfl (zc_entry (kd := kd) (x := (zsq ff sp k))) (fun v1158 ph1159 hv => ?_)
                    obtain ⟨rfl, rfl⟩ := hv
                    show zW n D 131 Q 91 [some (.ref 0), some (.int kd), some (.int nn), some (.int ff), some (.int sp), some (.int (zn k))] [.int (zn (zq4 (zsck kd (zsq ff sp k)))), .int (zn k), .ref 28] ph1
                    refine w_br (pc' := 95) (st' := [.int (zn (zq4 (zsck kd (zsq ff sp k)))), .int (zn k), .ref 28]) (ykc_131 (e := (4, .goto 4, 95)) rfl) rfl ?_
                    refine w_ias (pc' := 96) (k := k) (ykc_131 (e := (5, .iastore, 0)) rfl) (by omega) rfl (fun ph1161 u1160 => ?_)
                    have e1162 : (zn k) + Int32.ofInt 1 = zn (k + 1) := (zaddN (a := k) (b := 1) (znt (by omega)) c_5 (by omega))
                    have te1162 := znt (k := k + 1) (by omega)
                    refine w_store (pc' := 99) (L' := [some (.ref 0), some (.int kd), some (.int nn), some (.int ff), some (.int sp), some (.int (zn (k + 1)))]) (st' := []) (m := 3) (ykc_131 (e := (3, .iinc 5 1, 0)) rfl) (by rw [← e1162]; rfl) rfl ?_
                    refine w_gb (ykc_131 (e := (4, .goto (-53), 46)) rfl) (fun k1163 hk1163 => ?_)
                    exact ih k1163 hk1163 (k + 1) _ (by omega) (zFr_add hf u1160 (Or.inl (by first | exact zqi rfl | simp))) (fun i hi => by
                      by_cases e : i = k
                      · subst e
                        rw [show zsv kd nn ff sp i = zq4 (zsck kd (zsq ff sp i)) from if_neg (by omega)]
                        exact u1160.1
                      · exact (u1160.2.1 28 i (fun q => e q.2)).trans (hr i (by omega)))
            exact hl n 0 ph (Nat.zero_le _) zFr_refl (fun i hi => absurd hi (Nat.not_lt_zero i))
          · refine w_push (pc' := 42) (v := .int ((Int8.ofInt (-2)).toInt32)) (m := 2) (ykc_131 (e := (1, .bipush (-2), 0)) rfl) rfl rfl ?_
            refine w_ret (v := (some (.int ((Int8.ofInt (-2)).toInt32)))) (ykc_131 (e := (7, .ireturn, 0)) rfl) (zr_v rfl) ?_
            have ea : zsa v P kd nn ff sp = (Int8.ofInt (-2)).toInt32 := (by
              unfold zsa
              rw [if_neg (by omega), if_neg (by omega), if_pos (by omega)])
            have er : zsr v P kd nn ff sp = v := if_pos (Or.inr (by omega))
            rw [hQ]
            refine ⟨by rw [ea], ?_⟩
            rw [er]
            exact hK
        · refine w_load (pc' := 23) (v := .ref 0) (m := 1) (ykc_131 (e := (2, .aload_n kF0, 0)) rfl) rfl rfl ?_
          refine w_gf (pc' := 26) (v := .ref 25) (ykc_131 (e := (5, .getfield 42, 0)) rfl) rfl (zsg hS zs_0_4) rfl ?_
          refine w_gf (pc' := 29) (v := .ref 28) (ykc_131 (e := (5, .getfield 180, 0)) rfl) rfl (zsg hS zs_25_5) rfl ?_
          refine w_alu (pc' := 30) (st' := [.int (Int32.ofInt 0), .ref 28]) (ykc_131 (e := (0, .iconst 0, 0)) rfl) rfl rfl ?_
          refine w_cs (as := [.ref 28, .int (Int32.ofInt 0)]) (r := []) (ykc_131 (e := (6, .invokestatic 215, 0)) rfl) rfl rfl rfl rfl (zc_fill28 hS) (fun v1164 ph1165 hv => ?_)
          obtain ⟨rfl, ff9, fr9⟩ := hv
          show zW n D 131 Q 33 [some (.ref 0), some (.int kd), some (.int nn), some (.int ff), some (.int sp), none] [] ph1165
          refine w_push (pc' := 35) (v := .int ((Int8.ofInt (-3)).toInt32)) (m := 2) (ykc_131 (e := (1, .bipush (-3), 0)) rfl) rfl rfl ?_
          refine w_ret (v := (some (.int ((Int8.ofInt (-3)).toInt32)))) (ykc_131 (e := (7, .ireturn, 0)) rfl) (zr_v rfl) ?_
          have ea : zsa v P kd nn ff sp = (Int8.ofInt (-3)).toInt32 := by
            unfold zsa
            rw [if_neg (by omega), if_pos (by omega)]
          have er : zsr v P kd nn ff sp = zsh v P kd nn ff sp := if_neg (by omega)
          rw [hQ]
          refine ⟨by rw [ea], ?_⟩
          rw [er]
          exact zKC_sh ff9 hK (zSd_sh ff9 hd (fun i hi => by
            rw [zsh_b hi, show zsv kd nn ff sp i = 0 from if_pos (Or.inl (by omega))]
            exact fr9 i (by omega)) (fun i hi => zsh_o hi))
      · refine w_alu (pc' := 16) (st' := [.int (Int32.ofInt (-1))]) (ykc_131 (e := (0, .iconst (-1), 0)) rfl) rfl rfl ?_
        refine w_ret (v := (some (.int (Int32.ofInt (-1))))) (ykc_131 (e := (7, .ireturn, 0)) rfl) (zr_v rfl) ?_
        have ea : zsa v P kd nn ff sp = Int32.ofInt (-1) := if_pos (by omega)
        have er : zsr v P kd nn ff sp = v := if_pos (Or.inl (by omega))
        rw [hQ]
        refine ⟨by rw [ea], ?_⟩
        rw [er]
        exact hK
theorem zm_sheet {ph : pm_H} {R C P G u ch hn : Nat} {rk : Nat → Bool} {v : Nat → Nat} {w : Nat → Nat → Nat} {kp : Nat → Bool} {kc : Nat → Nat} {sv : Nat → Nat → Nat} (hS : zSh ph) (hK : zKM ph R C rk P G v u w ch kp kc sv hn) (hO0 : zOk R C P G v) {kd nn ff sp : Int32} : zM 237 [.ref 170, .int kd, .int nn, .int ff, .int sp] ph (fun v0 q => v0 = some (.int (zsa v P kd nn ff sp)) ∧ zKM q R C rk P G (zsr v P kd nn ff sp) u w ch kp kc sv hn) := by
  obtain ⟨Q, hQ⟩ : ∃ Q : Option Value → pm_H → Prop, Q = (fun v0 q => v0 = some (.int (zsa v P kd nn ff sp)) ∧ zKM q R C rk P G (zsr v P kd nn ff sp) u w ch kp kc sv hn) := ⟨_, rfl⟩
  rw [← hQ]
  refine zM_mk fun n D => ?_
  show zW n D 237 Q 0 [some (.ref 170), some (.int kd), some (.int nn), some (.int ff), some (.int sp), none, none, none, none] [] ph
  have c_0 : ((Int8.ofInt (-2)).toInt32).toInt = -2 := by decide +kernel
  have c_1 : ((Int8.ofInt (-3)).toInt32).toInt = -3 := by decide +kernel
  have c_2 : ((Int8.ofInt 16).toInt32).toInt = 16 := by decide +kernel
  have c_3 : ((Int8.ofInt 8).toInt32).toInt = 8 := by decide +kernel
  have c_4 : (Int32.ofInt (-1)).toInt = -1 := by decide +kernel
  have c_5 : (Int32.ofInt 0).toInt = 0 := by decide +kernel
  have c_6 : (Int32.ofInt 1).toInt = 1 := by decide +kernel
  have c_7 : (Int32.ofInt 3).toInt = 3 := by decide +kernel
  have c_8 : (Int32.ofInt 4).toInt = 4 := by decide +kernel
  obtain ⟨hL, hN, hv, hU, hk, hh⟩ := hK
  have hL0 := hL
  have hN0 := hN
  have hu15 := hU.2.1
  obtain ⟨gR, gC, gK, hR3, hR7, hC3, hC7⟩ := hL
  have hRC := zRC49 hR7 hC7
  have tR := znt (k := R) (by omega)
  have tC := znt (k := C) (by omega)
  obtain ⟨gP, hP8, gG, hG8⟩ := hN
  have tP := znt (k := P) (by omega)
  have tG := znt (k := G) (by omega)
  have tu := znt (k := u) (by omega)
  have hn10 := hh.2
  have thn := znt (k := hn) (by omega)
  refine w_load (pc' := 1) (v := .ref 170) (m := 1) (ykc_237 (e := (2, .aload_n kF0, 0)) rfl) rfl rfl ?_
  refine w_alu (pc' := 2) (st' := [.int (Int32.ofInt 0), .ref 170]) (ykc_237 (e := (0, .iconst 0, 0)) rfl) rfl rfl ?_
  refine w_pf (pc' := 5) (ykc_237 (e := (5, .putfield 3, 0)) rfl) rfl rfl (fun ph1167 u1166 => ?_)
  refine w_load (pc' := 6) (v := .int kd) (m := 1) (ykc_237 (e := (2, .iload_n kF1, 0)) rfl) rfl rfl ?_
  refine w_alu (pc' := 7) (st' := [.long kd.toInt64]) (ykc_237 (e := (0, .i2l, 0)) rfl) rfl rfl ?_
  refine w_alu (pc' := 8) (st' := [.long (Int64.ofNat kG0), .long kd.toInt64]) (ykc_237 (e := (0, .lconst kG0, 0)) rfl) rfl rfl ?_
  refine w_push (pc' := 11) (v := .long (3 : Int64)) (m := 3) (ykc_237 (e := (1, .ldc2_w 339, 0)) rfl) rfl rfl ?_
  refine w_cs (as := [.long kd.toInt64, .long (Int64.ofNat kG0), .long (3 : Int64)]) (r := []) (ykc_237 (e := (6, .invokestatic 126, 0)) rfl) rfl rfl rfl rfl (zm_in (x := kd.toInt) (y := (0 : Int)) (z := (3 : Int)) (by first | exact ztl | (rw [ztl]; omega) | decide | omega) (by first | exact ztl | (rw [ztl]; omega) | decide | omega) (by first | exact ztl | (rw [ztl]; omega) | decide | omega)) (fun v1168 ph1169 hv => ?_)
  obtain ⟨rfl, rfl⟩ := hv
  show zW n D 237 Q 14 [some (.ref 170), some (.int kd), some (.int nn), some (.int ff), some (.int sp), none, none, none, none] [.int (zI (decide ((0 : Int) ≤ kd.toInt ∧ kd.toInt ≤ (3 : Int))))] ph1167
  refine w_beq (ykc_237 (e := (4, .ifCond .eq 9, 23)) rfl) rfl (fun b1170 => ?_) (fun b1170 => ?_)
  · refine w_alu (pc' := 24) (st' := [.int (Int32.ofInt (-1))]) (ykc_237 (e := (0, .iconst (-1), 0)) rfl) rfl rfl ?_
    refine w_ret (v := (some (.int (Int32.ofInt (-1))))) (ykc_237 (e := (7, .ireturn, 0)) rfl) (zr_v rfl) ?_
    have f2 : zFr [] [(170, 0)] ph _ := zFr_st u1166 (Or.inr (by first | exact zqj rfl | simp))
    have d9 := of_decide_eq_false b1170
    have ea : zsa v P kd nn ff sp = Int32.ofInt (-1) := if_pos (by omega)
    have er : zsr v P kd nn ff sp = v := if_pos (Or.inl (by omega))
    rw [hQ]
    refine ⟨by rw [ea], ?_⟩
    rw [er]
    exact ⟨zMl_F f2 (by first | exact zqp rfl | simp) (by first | exact zqp rfl | simp) (by first | exact (fun _ => zqr rfl) | simp) (by first | exact ⟨zqm rfl, zqm rfl⟩ | simp) hL0, zMp_F f2 (by first | exact zqp rfl | simp) (by first | exact zqp rfl | simp) (by first | exact zqm rfl | simp) hN0, zNr_F f2 (by first | exact (fun _ => zqr rfl) | simp) (by first | exact zqm rfl | simp) hv, zMu_F f2 (by first | exact ⟨zqm rfl, zqm rfl⟩ | simp) (by first | exact zqp rfl | simp) (by first | exact (fun _ => zqr rfl) | simp) hU, zMk_F f2 (by first | exact ⟨zqm rfl, zqm rfl, zqm rfl, zqm rfl⟩ | simp) (by first | exact zqp rfl | simp) (by first | exact (fun _ => ⟨zqr rfl, zqr rfl, zqr rfl⟩) | simp) hk, zMh_F f2 (by first | exact zqm rfl | simp) (by first | exact zqp rfl | simp) hh⟩
  · refine w_load (pc' := 18) (v := .int nn) (m := 1) (ykc_237 (e := (2, .iload_n kF2, 0)) rfl) rfl rfl ?_
    refine w_push (pc' := 20) (v := .int ((Int8.ofInt 8).toInt32)) (m := 2) (ykc_237 (e := (1, .bipush 8, 0)) rfl) rfl rfl ?_
    refine w_ile (ykc_237 (e := (4, .if_icmp .le 5, 25)) rfl) rfl (fun b1171 => ?_) (fun b1171 => ?_)
    · refine w_load (pc' := 26) (v := .int kd) (m := 1) (ykc_237 (e := (2, .iload_n kF1, 0)) rfl) rfl rfl ?_
      refine w_alu (pc' := 27) (st' := [.int (Int32.ofInt 3), .int kd]) (ykc_237 (e := (0, .iconst 3, 0)) rfl) rfl rfl ?_
      refine w_ieq (ykc_237 (e := (4, .if_icmp .eq 10, 37)) rfl) rfl (fun b1172 => ?_) (fun b1172 => ?_)
      · refine w_alu (pc' := 38) (st' := [.int (Int32.ofInt 0)]) (ykc_237 (e := (0, .iconst 0, 0)) rfl) rfl rfl ?_
        refine w_store (pc' := 40) (L' := [some (.ref 170), some (.int kd), some (.int nn), some (.int ff), some (.int sp), some (.int (Int32.ofInt 0)), none, none, none]) (st' := []) (m := 2) (ykc_237 (e := (3, .istore 5, 0)) rfl) rfl rfl ?_
        refine w_load (pc' := 41) (v := .int ff) (m := 1) (ykc_237 (e := (2, .iload_n kF3, 0)) rfl) rfl rfl ?_
        refine w_store (pc' := 43) (L' := [some (.ref 170), some (.int kd), some (.int nn), some (.int ff), some (.int sp), some (.int (Int32.ofInt 0)), some (.int ff), none, none]) (st' := []) (m := 2) (ykc_237 (e := (3, .istore 6, 0)) rfl) rfl rfl ?_
        refine w_alu (pc' := 44) (st' := [.int (Int32.ofInt 0)]) (ykc_237 (e := (0, .iconst 0, 0)) rfl) rfl rfl ?_
        refine w_store (pc' := 46) (L' := [some (.ref 170), some (.int kd), some (.int nn), some (.int ff), some (.int sp), some (.int (Int32.ofInt 0)), some (.int ff), some (.int (Int32.ofInt 0)), none]) (st' := []) (m := 2) (ykc_237 (e := (3, .istore 7, 0)) rfl) rfl rfl ?_
        have d9 := of_decide_eq_true b1170
        have f1 : zFr [] [(170, 0)] ph ph1167 := zFr_st u1166 (Or.inr (by first | exact zqj rfl | simp))
        have hS1 := zSh_F f1 (by decide +kernel) hS
        have hgo : ¬ ((kd.toInt < 0 ∨ 3 < kd.toInt ∨ 8 < nn.toInt) ∨ (kd.toInt ≠ 3 ∧ nn.toInt < 0)) := by omega
        have hkd : 0 ≤ kd.toInt ∧ kd.toInt ≤ 3 ∧ nn.toInt ≤ 8 ∧ (kd.toInt = 3 ∨ 0 ≤ nn.toInt) := by omega
        have hl : ∀ (n : Nat), ∀ (k : Nat) (x8 : Option Value) (ph9 : pm_H), (k ≤ P) → (zFr [174] [] ph1167 ph9) → (∀ i, i < k → zc ph9 174 (16 + i) = some (.int (zn (zsv kd nn ff sp i)))) → (∀ j, ¬ (16 ≤ j ∧ j < 16 + k) → zc ph9 174 j = zc ph1167 174 j) → zW n D 237 Q 46 [some (.ref 170), some (.int kd), some (.int nn), some (.int ff), some (.int sp), some (.int (zBs (zsh v P kd nn ff sp) k)), some (.int (zsq ff sp k)), some (.int (zn k)), x8] [] ph9 := by
          intro n
          induction n using Nat.strongRecOn with
          | ind n ih =>
            intro k x8 ph9 hk9 hf hr ho
            have tk := znt (k := k) (by omega)
            refine w_load (pc' := 48) (v := .int (zn k)) (m := 2) (ykc_237 (e := (2, .iload 7, 0)) rfl) rfl rfl ?_
            refine w_load (pc' := 49) (v := .ref 170) (m := 1) (ykc_237 (e := (2, .aload_n kF0, 0)) rfl) rfl rfl ?_
            refine w_gf (pc' := 52) (v := .int (zn P)) (ykc_237 (e := (5, .getfield 130, 0)) rfl) rfl ((hf.1 170 5 (by first | exact zqm rfl | decide) (by first | exact zqp rfl | decide)).trans ((f1.1 170 5 (by first | exact zqm rfl | decide) (by first | exact zqp rfl | simp)).trans hN0.1)) rfl ?_
            refine w_ige (ykc_237 (e := (4, .if_icmp .ge 91, 143)) rfl) rfl (fun b1173 => ?_) (fun b1173 => ?_)
            · refine w_load (pc' := 144) (v := .int kd) (m := 1) (ykc_237 (e := (2, .iload_n kF1, 0)) rfl) rfl rfl ?_
              refine w_alu (pc' := 145) (st' := [.int (Int32.ofInt 3), .int kd]) (ykc_237 (e := (0, .iconst 3, 0)) rfl) rfl rfl ?_
              refine w_ine (ykc_237 (e := (4, .if_icmp .ne 8, 153)) rfl) rfl (fun b1174 => ?_) (fun b1174 => ?_)
              · refine w_load (pc' := 155) (v := .int (zBs (zsh v P kd nn ff sp) k)) (m := 2) (ykc_237 (e := (2, .iload 5, 0)) rfl) rfl rfl ?_
                refine w_ret (v := (some (.int (zBs (zsh v P kd nn ff sp) k)))) (ykc_237 (e := (7, .ireturn, 0)) rfl) (zr_v rfl) ?_
                have ek : P = k := by omega
                subst ek
                have f2 : zFr [174] [(170, 0)] ph ph9 := zFr_trans (zFr_mono f1 (by first | exact zqa rfl | simp) (by first | exact zqf rfl | simp)) (zFr_mono hf (by first | exact zqa rfl | simp) (by first | exact zqf rfl | simp))
                have ea : zsa v P kd nn ff sp = zBs (zsh v P kd nn ff sp) P := by
                  unfold zsa
                  rw [if_neg (by omega), if_neg (by omega), if_neg (by omega)]
                have er : zsr v P kd nn ff sp = zsh v P kd nn ff sp := if_neg hgo
                rw [hQ]
                refine ⟨by rw [ea], ?_⟩
                rw [er]
                exact ⟨zMl_F f2 (by first | exact zqp rfl | simp) (by first | exact zqp rfl | simp) (by first | exact (fun _ => zqr rfl) | simp) (by first | exact ⟨zqm rfl, zqm rfl⟩ | simp) hL0, zMp_F f2 (by first | exact zqp rfl | simp) (by first | exact zqp rfl | simp) (by first | exact zqm rfl | simp) hN0, fun i hi => by
                  rw [Nat.zero_add]
                  by_cases e : 16 ≤ i ∧ i < 16 + P
                  · have h := hr (i - 16) (by omega)
                    rw [show 16 + (i - 16) = i by omega] at h
                    rw [show zsh v P kd nn ff sp i = zsv kd nn ff sp (i - 16) from if_pos e]
                    exact h
                  · rw [zsh_o e]
                    exact (ho i e).trans ((f1.1 174 i (by first | exact zqm rfl | simp) (by first | exact zqp rfl | simp)).trans (zNr0 hv hi)), zMu_F f2 (by first | exact ⟨zqm rfl, zqm rfl⟩ | simp) (by first | exact zqp rfl | simp) (by first | exact (fun _ => zqr rfl) | simp) hU, zMk_F f2 (by first | exact ⟨zqm rfl, zqm rfl, zqm rfl, zqm rfl⟩ | simp) (by first | exact zqp rfl | simp) (by first | exact (fun _ => ⟨zqr rfl, zqr rfl, zqr rfl⟩) | simp) hk, zMh_F f2 (by first | exact zqm rfl | simp) (by first | exact zqp rfl | simp) hh⟩
              · refine w_push (pc' := 150) (v := .int ((Int8.ofInt (-3)).toInt32)) (m := 2) (ykc_237 (e := (1, .bipush (-3), 0)) rfl) rfl rfl ?_
                refine w_br (pc' := 155) (st' := [.int ((Int8.ofInt (-3)).toInt32)]) (ykc_237 (e := (4, .goto 5, 155)) rfl) rfl ?_
                refine w_ret (v := (some (.int ((Int8.ofInt (-3)).toInt32)))) (ykc_237 (e := (7, .ireturn, 0)) rfl) (zr_v rfl) ?_
                have ek : P = k := by omega
                subst ek
                have f2 : zFr [174] [(170, 0)] ph ph9 := zFr_trans (zFr_mono f1 (by first | exact zqa rfl | simp) (by first | exact zqf rfl | simp)) (zFr_mono hf (by first | exact zqa rfl | simp) (by first | exact zqf rfl | simp))
                have ea : zsa v P kd nn ff sp = (Int8.ofInt (-3)).toInt32 := by
                  unfold zsa
                  rw [if_neg (by omega), if_pos (by omega)]
                have er : zsr v P kd nn ff sp = zsh v P kd nn ff sp := if_neg hgo
                rw [hQ]
                refine ⟨by rw [ea], ?_⟩
                rw [er]
                exact ⟨zMl_F f2 (by first | exact zqp rfl | simp) (by first | exact zqp rfl | simp) (by first | exact (fun _ => zqr rfl) | simp) (by first | exact ⟨zqm rfl, zqm rfl⟩ | simp) hL0, zMp_F f2 (by first | exact zqp rfl | simp) (by first | exact zqp rfl | simp) (by first | exact zqm rfl | simp) hN0, fun i hi => by
                  rw [Nat.zero_add]
                  by_cases e : 16 ≤ i ∧ i < 16 + P
                  · have h := hr (i - 16) (by omega)
                    rw [show 16 + (i - 16) = i by omega] at h
                    rw [show zsh v P kd nn ff sp i = zsv kd nn ff sp (i - 16) from if_pos e]
                    exact h
                  · rw [zsh_o e]
                    exact (ho i e).trans ((f1.1 174 i (by first | exact zqm rfl | simp) (by first | exact zqp rfl | simp)).trans (zNr0 hv hi)), zMu_F f2 (by first | exact ⟨zqm rfl, zqm rfl⟩ | simp) (by first | exact zqp rfl | simp) (by first | exact (fun _ => zqr rfl) | simp) hU, zMk_F f2 (by first | exact ⟨zqm rfl, zqm rfl, zqm rfl, zqm rfl⟩ | simp) (by first | exact zqp rfl | simp) (by first | exact (fun _ => ⟨zqr rfl, zqr rfl, zqr rfl⟩) | simp) hk, zMh_F f2 (by first | exact zqm rfl | simp) (by first | exact zqp rfl | simp) hh⟩
            · refine w_load (pc' := 56) (v := .int kd) (m := 1) (ykc_237 (e := (2, .iload_n kF1, 0)) rfl) rfl rfl ?_
              refine w_zne (ykc_237 (e := (4, .ifCond .ne 9, 65)) rfl) rfl (fun b1175 => ?_) (fun b1175 => ?_)
              · refine w_load (pc' := 66) (v := .int kd) (m := 1) (ykc_237 (e := (2, .iload_n kF1, 0)) rfl) rfl rfl ?_
                refine w_alu (pc' := 67) (st' := [.int (Int32.ofInt 1), .int kd]) (ykc_237 (e := (0, .iconst 1, 0)) rfl) rfl rfl ?_
                refine w_ine (ykc_237 (e := (4, .if_icmp .ne 9, 76)) rfl) rfl (fun b1176 => ?_) (fun b1176 => ?_)
                · refine w_load (pc' := 78) (v := .int (zsq ff sp k)) (m := 2) (ykc_237 (e := (2, .iload 6, 0)) rfl) rfl rfl ?_
                  refine w_store (pc' := 80) (L' := [some (.ref 170), some (.int kd), some (.int nn), some (.int ff), some (.int sp), some (.int (zBs (zsh v P kd nn ff sp) k)), some (.int (zsq ff sp k)), some (.int (zn k)), some (.int (zsq ff sp k))]) (st' := []) (m := 2) (ykc_237 (e := (3, .istore 8, 0)) rfl) rfl rfl ?_
                  have e9 : zsck kd (zsq ff sp k) = zsq ff sp k := (by
                    unfold zsck
                    rw [if_neg (by omega), if_neg (by omega)])
                  refine w_load (pc' := 81) (v := .ref 170) (m := 1) (ykc_237 (e := (2, .aload_n kF0, 0)) rfl) rfl rfl ?_
                  refine w_gf (pc' := 84) (v := .ref 174) (ykc_237 (e := (5, .getfield 41, 0)) rfl) rfl ((hf.1 170 11 (by first | exact zqm rfl | decide) (by first | exact zqp rfl | decide)).trans (zsg hS1 zs_170_11)) rfl ?_
                  refine w_push (pc' := 86) (v := .int ((Int8.ofInt 16).toInt32)) (m := 2) (ykc_237 (e := (1, .bipush 16, 0)) rfl) rfl rfl ?_
                  refine w_load (pc' := 88) (v := .int (zn k)) (m := 2) (ykc_237 (e := (2, .iload 7, 0)) rfl) rfl rfl ?_
                  have e1177 : ((Int8.ofInt 16).toInt32) + (zn k) = zn (16 + k) := (zaddN (a := 16) (b := k) c_2 (znt (by omega)) (by omega)) 
                  have te1177 := znt (k := 16 + k) (by omega)
                  refine w_alu (pc' := 89) (st' := [.int (zn (16 + k)), .ref 174]) (ykc_237 (e := (0, .iadd, 0)) rfl) (by rw [← e1177]; rfl) rfl ?_
                  refine w_load (pc' := 90) (v := .int kd) (m := 1) (ykc_237 (e := (2, .iload_n kF1, 0)) rfl) rfl rfl ?_
                  refine w_alu (pc' := 91) (st' := [.int (Int32.ofInt 3), .int kd, .int (zn (16 + k)), .ref 174]) (ykc_237 (e := (0, .iconst 3, 0)) rfl) rfl rfl ?_
                  refine w_ieq (ykc_237 (e := (4, .if_icmp .eq 9, 100)) rfl) rfl (fun b1178 => ?_) (fun b1178 => ?_)
                  · refine w_alu (pc' := 101) (st' := [.int (Int32.ofInt 0), .int (zn (16 + k)), .ref 174]) (ykc_237 (e := (0, .iconst 0, 0)) rfl) rfl rfl ?_
                    refine w_br (pc' := 114) (st' := [.int (Int32.ofInt 0), .int (zn (16 + k)), .ref 174]) (ykc_237 (e := (4, .goto 13, 114)) rfl) rfl ?_
                    have ev : zsv kd nn ff sp k = 0 := if_pos (by omega)
                    have ez : Int32.ofInt 0 = zn (zsv kd nn ff sp k) := by
                      rw [ev]
                      rfl
                    rw [ez]
                    show zW n D 237 Q 114 [some (.ref 170), some (.int kd), some (.int nn), some (.int ff), some (.int sp), some (.int (zBs (zsh v P kd nn ff sp) k)), some (.int (zsq ff sp k)), some (.int (zn k)), some (.int (zsq ff sp k))] [.int (zn (zsv kd nn ff sp k)), .int (zn (16 + k)), .ref 174] ph9
                    refine w_ias (pc' := 115) (k := 16 + k) (ykc_237 (e := (5, .iastore, 0)) rfl) (by omega) rfl (fun ph1180 u1179 => ?_)
                    refine w_load (pc' := 117) (v := .int (zBs (zsh v P kd nn ff sp) k)) (m := 2) (ykc_237 (e := (2, .iload 5, 0)) rfl) rfl rfl ?_
                    refine w_load (pc' := 118) (v := .ref 170) (m := 1) (ykc_237 (e := (2, .aload_n kF0, 0)) rfl) rfl rfl ?_
                    refine w_gf (pc' := 121) (v := .ref 174) (ykc_237 (e := (5, .getfield 41, 0)) rfl) rfl ((u1179.2.1 170 11 (fun q => absurd q.1 (by first | exact Nat.ne_of_beq_eq_false rfl | decide))).trans ((hf.1 170 11 (by first | exact zqm rfl | decide) (by first | exact zqp rfl | decide)).trans (zsg hS1 zs_170_11))) rfl ?_
                    refine w_push (pc' := 123) (v := .int ((Int8.ofInt 16).toInt32)) (m := 2) (ykc_237 (e := (1, .bipush 16, 0)) rfl) rfl rfl ?_
                    refine w_load (pc' := 125) (v := .int (zn k)) (m := 2) (ykc_237 (e := (2, .iload 7, 0)) rfl) rfl rfl ?_
                    have e1181 : ((Int8.ofInt 16).toInt32) + (zn k) = zn (16 + k) := (zaddN (a := 16) (b := k) c_2 (znt (by omega)) (by omega)) 
                    have te1181 := znt (k := 16 + k) (by omega)
                    refine w_alu (pc' := 126) (st' := [.int (zn (16 + k)), .ref 174, .int (zBs (zsh v P kd nn ff sp) k)]) (ykc_237 (e := (0, .iadd, 0)) rfl) (by rw [← e1181]; rfl) rfl ?_
                    refine w_ialk (pc' := 127) (k := 16 + k) (ykc_237 (e := (5, .iaload, 0)) rfl) u1179.1 (by omega) rfl ?_
                    refine w_alu (pc' := 128) (st' := [.int ((zBs (zsh v P kd nn ff sp) k) + (zn (zsv kd nn ff sp k)))]) (ykc_237 (e := (0, .iadd, 0)) rfl) rfl rfl ?_
                    refine w_store (pc' := 130) (L' := [some (.ref 170), some (.int kd), some (.int nn), some (.int ff), some (.int sp), some (.int ((zBs (zsh v P kd nn ff sp) k) + (zn (zsv kd nn ff sp k)))), some (.int (zsq ff sp k)), some (.int (zn k)), some (.int (zsq ff sp k))]) (st' := []) (m := 2) (ykc_237 (e := (3, .istore 5, 0)) rfl) rfl rfl ?_
                    refine w_load (pc' := 132) (v := .int (zsq ff sp k)) (m := 2) (ykc_237 (e := (2, .iload 6, 0)) rfl) rfl rfl ?_
                    refine w_load (pc' := 134) (v := .int sp) (m := 2) (ykc_237 (e := (2, .iload 4, 0)) rfl) rfl rfl ?_
                    refine w_alu (pc' := 135) (st' := [.int ((zsq ff sp k) + sp)]) (ykc_237 (e := (0, .iadd, 0)) rfl) rfl rfl ?_
                    refine w_store (pc' := 137) (L' := [some (.ref 170), some (.int kd), some (.int nn), some (.int ff), some (.int sp), some (.int ((zBs (zsh v P kd nn ff sp) k) + (zn (zsv kd nn ff sp k)))), some (.int ((zsq ff sp k) + sp)), some (.int (zn k)), some (.int (zsq ff sp k))]) (st' := []) (m := 2) (ykc_237 (e := (3, .istore 6, 0)) rfl) rfl rfl ?_
                    have e1182 : (zn k) + Int32.ofInt 1 = zn (k + 1) := (zaddN (a := k) (b := 1) (znt (by omega)) c_6 (by omega))
                    have te1182 := znt (k := k + 1) (by omega)
                    refine w_store (pc' := 140) (L' := [some (.ref 170), some (.int kd), some (.int nn), some (.int ff), some (.int sp), some (.int ((zBs (zsh v P kd nn ff sp) k) + (zn (zsv kd nn ff sp k)))), some (.int ((zsq ff sp k) + sp)), some (.int (zn (k + 1))), some (.int (zsq ff sp k))]) (st' := []) (m := 3) (ykc_237 (e := (3, .iinc 7 1, 0)) rfl) (by rw [← e1182]; rfl) rfl ?_
                    refine w_gb (ykc_237 (e := (4, .goto (-94), 46)) rfl) (fun k1183 hk1183 => ?_)
                    have h9 := ih k1183 hk1183 (k + 1) (some (.int (zsq ff sp k))) _ (by omega) (zFr_add hf u1179 (Or.inl (by first | exact zqi rfl | simp))) (fun i hi => by
                      by_cases e : i = k
                      · subst e
                        exact u1179.1
                      · exact (u1179.2.1 174 (16 + i) (fun q => e (by have q2 := q.2; omega))).trans (hr i (by omega))) (fun j hj => (u1179.2.1 174 j (fun q => by have q2 := q.2; omega)).trans (ho j (by omega)))
                    rw [show zBs (zsh v P kd nn ff sp) (k + 1) = zBs (zsh v P kd nn ff sp) k + zn (zsv kd nn ff sp k) by
                      show _ + zn (zsh v P kd nn ff sp (16 + k)) = _
                      rw [zsh_b (by omega)]] at h9
                    exact h9
                  · refine w_load (pc' := 96) (v := .int (zn k)) (m := 2) (ykc_237 (e := (2, .iload 7, 0)) rfl) rfl rfl ?_
                    refine w_load (pc' := 97) (v := .int nn) (m := 1) (ykc_237 (e := (2, .iload_n kF2, 0)) rfl) rfl rfl ?_
                    refine w_ilt (ykc_237 (e := (4, .if_icmp .lt 7, 104)) rfl) rfl (fun b1184 => ?_) (fun b1184 => ?_)
                    · refine w_alu (pc' := 105) (st' := [.int (Int32.ofInt 0), .int (zn (16 + k)), .ref 174]) (ykc_237 (e := (0, .iconst 0, 0)) rfl) rfl rfl ?_
                      refine w_alu (pc' := 106) (st' := [.int (Int32.ofInt 4), .int (Int32.ofInt 0), .int (zn (16 + k)), .ref 174]) (ykc_237 (e := (0, .iconst 4, 0)) rfl) rfl rfl ?_
                      refine w_load (pc' := 108) (v := .int (zsq ff sp k)) (m := 2) (ykc_237 (e := (2, .iload 8, 0)) rfl) rfl rfl ?_
                      obtain ⟨z1185, e_z1185⟩ : ∃ zq : Int32, (if (zsq ff sp k) < (Int32.ofInt 4) then (zsq ff sp k) else (Int32.ofInt 4)) = zq := ⟨_, rfl⟩
                      have h_z1185 := zminI e_z1185
                      refine w_mem1 (pc' := 111) (m := 3) (st' := [.int z1185, .int (Int32.ofInt 0), .int (zn (16 + k)), .ref 174]) (ph' := ph9) (ykc_237 (e := (5, .invokestatic 145, 0)) rfl) (by rw [← e_z1185]; rfl) rfl ?_
                      obtain ⟨z1186, e_z1186⟩ : ∃ zq : Int32, (if (Int32.ofInt 0) < z1185 then z1185 else (Int32.ofInt 0)) = zq := ⟨_, rfl⟩
                      have h_z1186 := zmaxI e_z1186
                      refine w_mem1 (pc' := 114) (m := 3) (st' := [.int z1186, .int (zn (16 + k)), .ref 174]) (ph' := ph9) (ykc_237 (e := (5, .invokestatic 273, 0)) rfl) (by rw [← e_z1186]; rfl) rfl ?_
                      have ev : zsv kd nn ff sp k = zq4 (zsck kd (zsq ff sp k)) := if_neg (by omega)
                      have ez : z1186 = zn (zsv kd nn ff sp k) := zn_of (by rw [ev, e9]; unfold zq4; omega)
                      rw [ez]
                      show zW n D 237 Q 114 [some (.ref 170), some (.int kd), some (.int nn), some (.int ff), some (.int sp), some (.int (zBs (zsh v P kd nn ff sp) k)), some (.int (zsq ff sp k)), some (.int (zn k)), some (.int (zsq ff sp k))] [.int (zn (zsv kd nn ff sp k)), .int (zn (16 + k)), .ref 174] ph9
                      refine w_ias (pc' := 115) (k := 16 + k) (ykc_237 (e := (5, .iastore, 0)) rfl) (by omega) rfl (fun ph1188 u1187 => ?_)
                      refine w_load (pc' := 117) (v := .int (zBs (zsh v P kd nn ff sp) k)) (m := 2) (ykc_237 (e := (2, .iload 5, 0)) rfl) rfl rfl ?_
                      refine w_load (pc' := 118) (v := .ref 170) (m := 1) (ykc_237 (e := (2, .aload_n kF0, 0)) rfl) rfl rfl ?_
                      refine w_gf (pc' := 121) (v := .ref 174) (ykc_237 (e := (5, .getfield 41, 0)) rfl) rfl ((u1187.2.1 170 11 (fun q => absurd q.1 (by first | exact Nat.ne_of_beq_eq_false rfl | decide))).trans ((hf.1 170 11 (by first | exact zqm rfl | decide) (by first | exact zqp rfl | decide)).trans (zsg hS1 zs_170_11))) rfl ?_
                      refine w_push (pc' := 123) (v := .int ((Int8.ofInt 16).toInt32)) (m := 2) (ykc_237 (e := (1, .bipush 16, 0)) rfl) rfl rfl ?_
                      refine w_load (pc' := 125) (v := .int (zn k)) (m := 2) (ykc_237 (e := (2, .iload 7, 0)) rfl) rfl rfl ?_
                      have e1189 : ((Int8.ofInt 16).toInt32) + (zn k) = zn (16 + k) := (zaddN (a := 16) (b := k) c_2 (znt (by omega)) (by omega)) 
                      have te1189 := znt (k := 16 + k) (by omega)
                      refine w_alu (pc' := 126) (st' := [.int (zn (16 + k)), .ref 174, .int (zBs (zsh v P kd nn ff sp) k)]) (ykc_237 (e := (0, .iadd, 0)) rfl) (by rw [← e1189]; rfl) rfl ?_
                      refine w_ialk (pc' := 127) (k := 16 + k) (ykc_237 (e := (5, .iaload, 0)) rfl) u1187.1 (by omega) rfl ?_
                      refine w_alu (pc' := 128) (st' := [.int ((zBs (zsh v P kd nn ff sp) k) + (zn (zsv kd nn ff sp k)))]) (ykc_237 (e := (0, .iadd, 0)) rfl) rfl rfl ?_
                      refine w_store (pc' := 130) (L' := [some (.ref 170), some (.int kd), some (.int nn), some (.int ff), some (.int sp), some (.int ((zBs (zsh v P kd nn ff sp) k) + (zn (zsv kd nn ff sp k)))), some (.int (zsq ff sp k)), some (.int (zn k)), some (.int (zsq ff sp k))]) (st' := []) (m := 2) (ykc_237 (e := (3, .istore 5, 0)) rfl) rfl rfl ?_
                      refine w_load (pc' := 132) (v := .int (zsq ff sp k)) (m := 2) (ykc_237 (e := (2, .iload 6, 0)) rfl) rfl rfl ?_
                      refine w_load (pc' := 134) (v := .int sp) (m := 2) (ykc_237 (e := (2, .iload 4, 0)) rfl) rfl rfl ?_
                      refine w_alu (pc' := 135) (st' := [.int ((zsq ff sp k) + sp)]) (ykc_237 (e := (0, .iadd, 0)) rfl) rfl rfl ?_
                      refine w_store (pc' := 137) (L' := [some (.ref 170), some (.int kd), some (.int nn), some (.int ff), some (.int sp), some (.int ((zBs (zsh v P kd nn ff sp) k) + (zn (zsv kd nn ff sp k)))), some (.int ((zsq ff sp k) + sp)), some (.int (zn k)), some (.int (zsq ff sp k))]) (st' := []) (m := 2) (ykc_237 (e := (3, .istore 6, 0)) rfl) rfl rfl ?_
                      have e1190 : (zn k) + Int32.ofInt 1 = zn (k + 1) := (zaddN (a := k) (b := 1) (znt (by omega)) c_6 (by omega))
                      have te1190 := znt (k := k + 1) (by omega)
                      refine w_store (pc' := 140) (L' := [some (.ref 170), some (.int kd), some (.int nn), some (.int ff), some (.int sp), some (.int ((zBs (zsh v P kd nn ff sp) k) + (zn (zsv kd nn ff sp k)))), some (.int ((zsq ff sp k) + sp)), some (.int (zn (k + 1))), some (.int (zsq ff sp k))]) (st' := []) (m := 3) (ykc_237 (e := (3, .iinc 7 1, 0)) rfl) (by rw [← e1190]; rfl) rfl ?_
                      refine w_gb (ykc_237 (e := (4, .goto (-94), 46)) rfl) (fun k1191 hk1191 => ?_)
                      have h9 := ih k1191 hk1191 (k + 1) (some (.int (zsq ff sp k))) _ (by omega) (zFr_add hf u1187 (Or.inl (by first | exact zqi rfl | simp))) (fun i hi => by
                        by_cases e : i = k
                        · subst e
                          exact u1187.1
                        · exact (u1187.2.1 174 (16 + i) (fun q => e (by have q2 := q.2; omega))).trans (hr i (by omega))) (fun j hj => (u1187.2.1 174 j (fun q => by have q2 := q.2; omega)).trans (ho j (by omega)))
                      rw [show zBs (zsh v P kd nn ff sp) (k + 1) = zBs (zsh v P kd nn ff sp) k + zn (zsv kd nn ff sp k) by
                        show _ + zn (zsh v P kd nn ff sp (16 + k)) = _
                        rw [zsh_b (by omega)]] at h9
                      exact h9
                    · refine w_alu (pc' := 101) (st' := [.int (Int32.ofInt 0), .int (zn (16 + k)), .ref 174]) (ykc_237 (e := (0, .iconst 0, 0)) rfl) rfl rfl ?_
                      refine w_br (pc' := 114) (st' := [.int (Int32.ofInt 0), .int (zn (16 + k)), .ref 174]) (ykc_237 (e := (4, .goto 13, 114)) rfl) rfl ?_
                      have ev : zsv kd nn ff sp k = 0 := if_pos (by omega)
                      have ez : Int32.ofInt 0 = zn (zsv kd nn ff sp k) := by
                        rw [ev]
                        rfl
                      rw [ez]
                      show zW n D 237 Q 114 [some (.ref 170), some (.int kd), some (.int nn), some (.int ff), some (.int sp), some (.int (zBs (zsh v P kd nn ff sp) k)), some (.int (zsq ff sp k)), some (.int (zn k)), some (.int (zsq ff sp k))] [.int (zn (zsv kd nn ff sp k)), .int (zn (16 + k)), .ref 174] ph9
                      refine w_ias (pc' := 115) (k := 16 + k) (ykc_237 (e := (5, .iastore, 0)) rfl) (by omega) rfl (fun ph1193 u1192 => ?_)
                      refine w_load (pc' := 117) (v := .int (zBs (zsh v P kd nn ff sp) k)) (m := 2) (ykc_237 (e := (2, .iload 5, 0)) rfl) rfl rfl ?_
                      refine w_load (pc' := 118) (v := .ref 170) (m := 1) (ykc_237 (e := (2, .aload_n kF0, 0)) rfl) rfl rfl ?_
                      refine w_gf (pc' := 121) (v := .ref 174) (ykc_237 (e := (5, .getfield 41, 0)) rfl) rfl ((u1192.2.1 170 11 (fun q => absurd q.1 (by first | exact Nat.ne_of_beq_eq_false rfl | decide))).trans ((hf.1 170 11 (by first | exact zqm rfl | decide) (by first | exact zqp rfl | decide)).trans (zsg hS1 zs_170_11))) rfl ?_
                      refine w_push (pc' := 123) (v := .int ((Int8.ofInt 16).toInt32)) (m := 2) (ykc_237 (e := (1, .bipush 16, 0)) rfl) rfl rfl ?_
                      refine w_load (pc' := 125) (v := .int (zn k)) (m := 2) (ykc_237 (e := (2, .iload 7, 0)) rfl) rfl rfl ?_
                      have e1194 : ((Int8.ofInt 16).toInt32) + (zn k) = zn (16 + k) := (zaddN (a := 16) (b := k) c_2 (znt (by omega)) (by omega)) 
                      have te1194 := znt (k := 16 + k) (by omega)
                      refine w_alu (pc' := 126) (st' := [.int (zn (16 + k)), .ref 174, .int (zBs (zsh v P kd nn ff sp) k)]) (ykc_237 (e := (0, .iadd, 0)) rfl) (by rw [← e1194]; rfl) rfl ?_
                      refine w_ialk (pc' := 127) (k := 16 + k) (ykc_237 (e := (5, .iaload, 0)) rfl) u1192.1 (by omega) rfl ?_
                      refine w_alu (pc' := 128) (st' := [.int ((zBs (zsh v P kd nn ff sp) k) + (zn (zsv kd nn ff sp k)))]) (ykc_237 (e := (0, .iadd, 0)) rfl) rfl rfl ?_
                      refine w_store (pc' := 130) (L' := [some (.ref 170), some (.int kd), some (.int nn), some (.int ff), some (.int sp), some (.int ((zBs (zsh v P kd nn ff sp) k) + (zn (zsv kd nn ff sp k)))), some (.int (zsq ff sp k)), some (.int (zn k)), some (.int (zsq ff sp k))]) (st' := []) (m := 2) (ykc_237 (e := (3, .istore 5, 0)) rfl) rfl rfl ?_
                      refine w_load (pc' := 132) (v := .int (zsq ff sp k)) (m := 2) (ykc_237 (e := (2, .iload 6, 0)) rfl) rfl rfl ?_
                      refine w_load (pc' := 134) (v := .int sp) (m := 2) (ykc_237 (e := (2, .iload 4, 0)) rfl) rfl rfl ?_
                      refine w_alu (pc' := 135) (st' := [.int ((zsq ff sp k) + sp)]) (ykc_237 (e := (0, .iadd, 0)) rfl) rfl rfl ?_
                      refine w_store (pc' := 137) (L' := [some (.ref 170), some (.int kd), some (.int nn), some (.int ff), some (.int sp), some (.int ((zBs (zsh v P kd nn ff sp) k) + (zn (zsv kd nn ff sp k)))), some (.int ((zsq ff sp k) + sp)), some (.int (zn k)), some (.int (zsq ff sp k))]) (st' := []) (m := 2) (ykc_237 (e := (3, .istore 6, 0)) rfl) rfl rfl ?_
                      have e1195 : (zn k) + Int32.ofInt 1 = zn (k + 1) := (zaddN (a := k) (b := 1) (znt (by omega)) c_6 (by omega))
                      have te1195 := znt (k := k + 1) (by omega)
                      refine w_store (pc' := 140) (L' := [some (.ref 170), some (.int kd), some (.int nn), some (.int ff), some (.int sp), some (.int ((zBs (zsh v P kd nn ff sp) k) + (zn (zsv kd nn ff sp k)))), some (.int ((zsq ff sp k) + sp)), some (.int (zn (k + 1))), some (.int (zsq ff sp k))]) (st' := []) (m := 3) (ykc_237 (e := (3, .iinc 7 1, 0)) rfl) (by rw [← e1195]; rfl) rfl ?_
                      refine w_gb (ykc_237 (e := (4, .goto (-94), 46)) rfl) (fun k1196 hk1196 => ?_)
                      have h9 := ih k1196 hk1196 (k + 1) (some (.int (zsq ff sp k))) _ (by omega) (zFr_add hf u1192 (Or.inl (by first | exact zqi rfl | simp))) (fun i hi => by
                        by_cases e : i = k
                        · subst e
                          exact u1192.1
                        · exact (u1192.2.1 174 (16 + i) (fun q => e (by have q2 := q.2; omega))).trans (hr i (by omega))) (fun j hj => (u1192.2.1 174 j (fun q => by have q2 := q.2; omega)).trans (ho j (by omega)))
                      rw [show zBs (zsh v P kd nn ff sp) (k + 1) = zBs (zsh v P kd nn ff sp) k + zn (zsv kd nn ff sp k) by
                        show _ + zn (zsh v P kd nn ff sp (16 + k)) = _
                        rw [zsh_b (by omega)]] at h9
                      exact h9
                · refine w_load (pc' := 72) (v := .int (zsq ff sp k)) (m := 2) (ykc_237 (e := (2, .iload 6, 0)) rfl) rfl rfl ?_
                  obtain ⟨z1197, e_z1197, h_z1197⟩ : ∃ zq : Int32, (zsq ff sp k).toInt16.toInt32 = zq ∧ zq.toInt = ((zsq ff sp k).toInt16.toInt32).toInt := ⟨_, rfl, rfl⟩
                  refine w_alu (pc' := 73) (st' := [.int z1197]) (ykc_237 (e := (0, .i2s, 0)) rfl) (by rw [← e_z1197]; rfl) rfl ?_
                  refine w_br (pc' := 78) (st' := [.int z1197]) (ykc_237 (e := (4, .goto 5, 78)) rfl) rfl ?_
                  refine w_store (pc' := 80) (L' := [some (.ref 170), some (.int kd), some (.int nn), some (.int ff), some (.int sp), some (.int (zBs (zsh v P kd nn ff sp) k)), some (.int (zsq ff sp k)), some (.int (zn k)), some (.int z1197)]) (st' := []) (m := 2) (ykc_237 (e := (3, .istore 8, 0)) rfl) rfl rfl ?_
                  have e9 : zsck kd (zsq ff sp k) = (zsq ff sp k).toInt16.toInt32 := (by
                    unfold zsck
                    rw [if_neg (by omega), if_pos (by omega)])
                  refine w_load (pc' := 81) (v := .ref 170) (m := 1) (ykc_237 (e := (2, .aload_n kF0, 0)) rfl) rfl rfl ?_
                  refine w_gf (pc' := 84) (v := .ref 174) (ykc_237 (e := (5, .getfield 41, 0)) rfl) rfl ((hf.1 170 11 (by first | exact zqm rfl | decide) (by first | exact zqp rfl | decide)).trans (zsg hS1 zs_170_11)) rfl ?_
                  refine w_push (pc' := 86) (v := .int ((Int8.ofInt 16).toInt32)) (m := 2) (ykc_237 (e := (1, .bipush 16, 0)) rfl) rfl rfl ?_
                  refine w_load (pc' := 88) (v := .int (zn k)) (m := 2) (ykc_237 (e := (2, .iload 7, 0)) rfl) rfl rfl ?_
                  have e1198 : ((Int8.ofInt 16).toInt32) + (zn k) = zn (16 + k) := (zaddN (a := 16) (b := k) c_2 (znt (by omega)) (by omega)) 
                  have te1198 := znt (k := 16 + k) (by omega)
                  refine w_alu (pc' := 89) (st' := [.int (zn (16 + k)), .ref 174]) (ykc_237 (e := (0, .iadd, 0)) rfl) (by rw [← e1198]; rfl) rfl ?_
                  refine w_load (pc' := 90) (v := .int kd) (m := 1) (ykc_237 (e := (2, .iload_n kF1, 0)) rfl) rfl rfl ?_
                  refine w_alu (pc' := 91) (st' := [.int (Int32.ofInt 3), .int kd, .int (zn (16 + k)), .ref 174]) (ykc_237 (e := (0, .iconst 3, 0)) rfl) rfl rfl ?_
                  refine w_ieq (ykc_237 (e := (4, .if_icmp .eq 9, 100)) rfl) rfl (fun b1199 => ?_) (fun b1199 => ?_)
                  · refine w_alu (pc' := 101) (st' := [.int (Int32.ofInt 0), .int (zn (16 + k)), .ref 174]) (ykc_237 (e := (0, .iconst 0, 0)) rfl) rfl rfl ?_
                    refine w_br (pc' := 114) (st' := [.int (Int32.ofInt 0), .int (zn (16 + k)), .ref 174]) (ykc_237 (e := (4, .goto 13, 114)) rfl) rfl ?_
                    have ev : zsv kd nn ff sp k = 0 := if_pos (by omega)
                    have ez : Int32.ofInt 0 = zn (zsv kd nn ff sp k) := by
                      rw [ev]
                      rfl
                    rw [ez]
                    show zW n D 237 Q 114 [some (.ref 170), some (.int kd), some (.int nn), some (.int ff), some (.int sp), some (.int (zBs (zsh v P kd nn ff sp) k)), some (.int (zsq ff sp k)), some (.int (zn k)), some (.int z1197)] [.int (zn (zsv kd nn ff sp k)), .int (zn (16 + k)), .ref 174] ph9
                    refine w_ias (pc' := 115) (k := 16 + k) (ykc_237 (e := (5, .iastore, 0)) rfl) (by omega) rfl (fun ph1201 u1200 => ?_)
                    refine w_load (pc' := 117) (v := .int (zBs (zsh v P kd nn ff sp) k)) (m := 2) (ykc_237 (e := (2, .iload 5, 0)) rfl) rfl rfl ?_
                    refine w_load (pc' := 118) (v := .ref 170) (m := 1) (ykc_237 (e := (2, .aload_n kF0, 0)) rfl) rfl rfl ?_
                    refine w_gf (pc' := 121) (v := .ref 174) (ykc_237 (e := (5, .getfield 41, 0)) rfl) rfl ((u1200.2.1 170 11 (fun q => absurd q.1 (by first | exact Nat.ne_of_beq_eq_false rfl | decide))).trans ((hf.1 170 11 (by first | exact zqm rfl | decide) (by first | exact zqp rfl | decide)).trans (zsg hS1 zs_170_11))) rfl ?_
                    refine w_push (pc' := 123) (v := .int ((Int8.ofInt 16).toInt32)) (m := 2) (ykc_237 (e := (1, .bipush 16, 0)) rfl) rfl rfl ?_
                    refine w_load (pc' := 125) (v := .int (zn k)) (m := 2) (ykc_237 (e := (2, .iload 7, 0)) rfl) rfl rfl ?_
                    have e1202 : ((Int8.ofInt 16).toInt32) + (zn k) = zn (16 + k) := (zaddN (a := 16) (b := k) c_2 (znt (by omega)) (by omega)) 
                    have te1202 := znt (k := 16 + k) (by omega)
                    refine w_alu (pc' := 126) (st' := [.int (zn (16 + k)), .ref 174, .int (zBs (zsh v P kd nn ff sp) k)]) (ykc_237 (e := (0, .iadd, 0)) rfl) (by rw [← e1202]; rfl) rfl ?_
                    refine w_ialk (pc' := 127) (k := 16 + k) (ykc_237 (e := (5, .iaload, 0)) rfl) u1200.1 (by omega) rfl ?_
                    refine w_alu (pc' := 128) (st' := [.int ((zBs (zsh v P kd nn ff sp) k) + (zn (zsv kd nn ff sp k)))]) (ykc_237 (e := (0, .iadd, 0)) rfl) rfl rfl ?_
                    refine w_store (pc' := 130) (L' := [some (.ref 170), some (.int kd), some (.int nn), some (.int ff), some (.int sp), some (.int ((zBs (zsh v P kd nn ff sp) k) + (zn (zsv kd nn ff sp k)))), some (.int (zsq ff sp k)), some (.int (zn k)), some (.int z1197)]) (st' := []) (m := 2) (ykc_237 (e := (3, .istore 5, 0)) rfl) rfl rfl ?_
                    refine w_load (pc' := 132) (v := .int (zsq ff sp k)) (m := 2) (ykc_237 (e := (2, .iload 6, 0)) rfl) rfl rfl ?_
                    refine w_load (pc' := 134) (v := .int sp) (m := 2) (ykc_237 (e := (2, .iload 4, 0)) rfl) rfl rfl ?_
                    refine w_alu (pc' := 135) (st' := [.int ((zsq ff sp k) + sp)]) (ykc_237 (e := (0, .iadd, 0)) rfl) rfl rfl ?_
                    refine w_store (pc' := 137) (L' := [some (.ref 170), some (.int kd), some (.int nn), some (.int ff), some (.int sp), some (.int ((zBs (zsh v P kd nn ff sp) k) + (zn (zsv kd nn ff sp k)))), some (.int ((zsq ff sp k) + sp)), some (.int (zn k)), some (.int z1197)]) (st' := []) (m := 2) (ykc_237 (e := (3, .istore 6, 0)) rfl) rfl rfl ?_
                    have e1203 : (zn k) + Int32.ofInt 1 = zn (k + 1) := (zaddN (a := k) (b := 1) (znt (by omega)) c_6 (by omega))
                    have te1203 := znt (k := k + 1) (by omega)
                    refine w_store (pc' := 140) (L' := [some (.ref 170), some (.int kd), some (.int nn), some (.int ff), some (.int sp), some (.int ((zBs (zsh v P kd nn ff sp) k) + (zn (zsv kd nn ff sp k)))), some (.int ((zsq ff sp k) + sp)), some (.int (zn (k + 1))), some (.int z1197)]) (st' := []) (m := 3) (ykc_237 (e := (3, .iinc 7 1, 0)) rfl) (by rw [← e1203]; rfl) rfl ?_
                    refine w_gb (ykc_237 (e := (4, .goto (-94), 46)) rfl) (fun k1204 hk1204 => ?_)
                    have h9 := ih k1204 hk1204 (k + 1) (some (.int z1197)) _ (by omega) (zFr_add hf u1200 (Or.inl (by first | exact zqi rfl | simp))) (fun i hi => by
                      by_cases e : i = k
                      · subst e
                        exact u1200.1
                      · exact (u1200.2.1 174 (16 + i) (fun q => e (by have q2 := q.2; omega))).trans (hr i (by omega))) (fun j hj => (u1200.2.1 174 j (fun q => by have q2 := q.2; omega)).trans (ho j (by omega)))
                    rw [show zBs (zsh v P kd nn ff sp) (k + 1) = zBs (zsh v P kd nn ff sp) k + zn (zsv kd nn ff sp k) by
                      show _ + zn (zsh v P kd nn ff sp (16 + k)) = _
                      rw [zsh_b (by omega)]] at h9
                    exact h9
                  · refine w_load (pc' := 96) (v := .int (zn k)) (m := 2) (ykc_237 (e := (2, .iload 7, 0)) rfl) rfl rfl ?_
                    refine w_load (pc' := 97) (v := .int nn) (m := 1) (ykc_237 (e := (2, .iload_n kF2, 0)) rfl) rfl rfl ?_
                    refine w_ilt (ykc_237 (e := (4, .if_icmp .lt 7, 104)) rfl) rfl (fun b1205 => ?_) (fun b1205 => ?_)
                    · refine w_alu (pc' := 105) (st' := [.int (Int32.ofInt 0), .int (zn (16 + k)), .ref 174]) (ykc_237 (e := (0, .iconst 0, 0)) rfl) rfl rfl ?_
                      refine w_alu (pc' := 106) (st' := [.int (Int32.ofInt 4), .int (Int32.ofInt 0), .int (zn (16 + k)), .ref 174]) (ykc_237 (e := (0, .iconst 4, 0)) rfl) rfl rfl ?_
                      refine w_load (pc' := 108) (v := .int z1197) (m := 2) (ykc_237 (e := (2, .iload 8, 0)) rfl) rfl rfl ?_
                      obtain ⟨z1206, e_z1206⟩ : ∃ zq : Int32, (if z1197 < (Int32.ofInt 4) then z1197 else (Int32.ofInt 4)) = zq := ⟨_, rfl⟩
                      have h_z1206 := zminI e_z1206
                      refine w_mem1 (pc' := 111) (m := 3) (st' := [.int z1206, .int (Int32.ofInt 0), .int (zn (16 + k)), .ref 174]) (ph' := ph9) (ykc_237 (e := (5, .invokestatic 145, 0)) rfl) (by rw [← e_z1206]; rfl) rfl ?_
                      obtain ⟨z1207, e_z1207⟩ : ∃ zq : Int32, (if (Int32.ofInt 0) < z1206 then z1206 else (Int32.ofInt 0)) = zq := ⟨_, rfl⟩
                      have h_z1207 := zmaxI e_z1207
                      refine w_mem1 (pc' := 114) (m := 3) (st' := [.int z1207, .int (zn (16 + k)), .ref 174]) (ph' := ph9) (ykc_237 (e := (5, .invokestatic 273, 0)) rfl) (by rw [← e_z1207]; rfl) rfl ?_
                      have ev : zsv kd nn ff sp k = zq4 (zsck kd (zsq ff sp k)) := if_neg (by omega)
                      have ez : z1207 = zn (zsv kd nn ff sp k) := zn_of (by rw [ev, e9]; unfold zq4; omega)
                      rw [ez]
                      show zW n D 237 Q 114 [some (.ref 170), some (.int kd), some (.int nn), some (.int ff), some (.int sp), some (.int (zBs (zsh v P kd nn ff sp) k)), some (.int (zsq ff sp k)), some (.int (zn k)), some (.int z1197)] [.int (zn (zsv kd nn ff sp k)), .int (zn (16 + k)), .ref 174] ph9
                      refine w_ias (pc' := 115) (k := 16 + k) (ykc_237 (e := (5, .iastore, 0)) rfl) (by omega) rfl (fun ph1209 u1208 => ?_)
                      refine w_load (pc' := 117) (v := .int (zBs (zsh v P kd nn ff sp) k)) (m := 2) (ykc_237 (e := (2, .iload 5, 0)) rfl) rfl rfl ?_
                      refine w_load (pc' := 118) (v := .ref 170) (m := 1) (ykc_237 (e := (2, .aload_n kF0, 0)) rfl) rfl rfl ?_
                      refine w_gf (pc' := 121) (v := .ref 174) (ykc_237 (e := (5, .getfield 41, 0)) rfl) rfl ((u1208.2.1 170 11 (fun q => absurd q.1 (by first | exact Nat.ne_of_beq_eq_false rfl | decide))).trans ((hf.1 170 11 (by first | exact zqm rfl | decide) (by first | exact zqp rfl | decide)).trans (zsg hS1 zs_170_11))) rfl ?_
                      refine w_push (pc' := 123) (v := .int ((Int8.ofInt 16).toInt32)) (m := 2) (ykc_237 (e := (1, .bipush 16, 0)) rfl) rfl rfl ?_
                      refine w_load (pc' := 125) (v := .int (zn k)) (m := 2) (ykc_237 (e := (2, .iload 7, 0)) rfl) rfl rfl ?_
                      have e1210 : ((Int8.ofInt 16).toInt32) + (zn k) = zn (16 + k) := (zaddN (a := 16) (b := k) c_2 (znt (by omega)) (by omega)) 
                      have te1210 := znt (k := 16 + k) (by omega)
                      refine w_alu (pc' := 126) (st' := [.int (zn (16 + k)), .ref 174, .int (zBs (zsh v P kd nn ff sp) k)]) (ykc_237 (e := (0, .iadd, 0)) rfl) (by rw [← e1210]; rfl) rfl ?_
                      refine w_ialk (pc' := 127) (k := 16 + k) (ykc_237 (e := (5, .iaload, 0)) rfl) u1208.1 (by omega) rfl ?_
                      refine w_alu (pc' := 128) (st' := [.int ((zBs (zsh v P kd nn ff sp) k) + (zn (zsv kd nn ff sp k)))]) (ykc_237 (e := (0, .iadd, 0)) rfl) rfl rfl ?_
                      refine w_store (pc' := 130) (L' := [some (.ref 170), some (.int kd), some (.int nn), some (.int ff), some (.int sp), some (.int ((zBs (zsh v P kd nn ff sp) k) + (zn (zsv kd nn ff sp k)))), some (.int (zsq ff sp k)), some (.int (zn k)), some (.int z1197)]) (st' := []) (m := 2) (ykc_237 (e := (3, .istore 5, 0)) rfl) rfl rfl ?_
                      refine w_load (pc' := 132) (v := .int (zsq ff sp k)) (m := 2) (ykc_237 (e := (2, .iload 6, 0)) rfl) rfl rfl ?_
                      refine w_load (pc' := 134) (v := .int sp) (m := 2) (ykc_237 (e := (2, .iload 4, 0)) rfl) rfl rfl ?_
                      refine w_alu (pc' := 135) (st' := [.int ((zsq ff sp k) + sp)]) (ykc_237 (e := (0, .iadd, 0)) rfl) rfl rfl ?_
                      refine w_store (pc' := 137) (L' := [some (.ref 170), some (.int kd), some (.int nn), some (.int ff), some (.int sp), some (.int ((zBs (zsh v P kd nn ff sp) k) + (zn (zsv kd nn ff sp k)))), some (.int ((zsq ff sp k) + sp)), some (.int (zn k)), some (.int z1197)]) (st' := []) (m := 2) (ykc_237 (e := (3, .istore 6, 0)) rfl) rfl rfl ?_
                      have e1211 : (zn k) + Int32.ofInt 1 = zn (k + 1) := (zaddN (a := k) (b := 1) (znt (by omega)) c_6 (by omega))
                      have te1211 := znt (k := k + 1) (by omega)
                      refine w_store (pc' := 140) (L' := [some (.ref 170), some (.int kd), some (.int nn), some (.int ff), some (.int sp), some (.int ((zBs (zsh v P kd nn ff sp) k) + (zn (zsv kd nn ff sp k)))), some (.int ((zsq ff sp k) + sp)), some (.int (zn (k + 1))), some (.int z1197)]) (st' := []) (m := 3) (ykc_237 (e := (3, .iinc 7 1, 0)) rfl) (by rw [← e1211]; rfl) rfl ?_
                      refine w_gb (ykc_237 (e := (4, .goto (-94), 46)) rfl) (fun k1212 hk1212 => ?_)
                      have h9 := ih k1212 hk1212 (k + 1) (some (.int z1197)) _ (by omega) (zFr_add hf u1208 (Or.inl (by first | exact zqi rfl | simp))) (fun i hi => by
                        by_cases e : i = k
                        · subst e
                          exact u1208.1
                        · exact (u1208.2.1 174 (16 + i) (fun q => e (by have q2 := q.2; omega))).trans (hr i (by omega))) (fun j hj => (u1208.2.1 174 j (fun q => by have q2 := q.2; omega)).trans (ho j (by omega)))
                      rw [show zBs (zsh v P kd nn ff sp) (k + 1) = zBs (zsh v P kd nn ff sp) k + zn (zsv kd nn ff sp k) by
                        show _ + zn (zsh v P kd nn ff sp (16 + k)) = _
                        rw [zsh_b (by omega)]] at h9
                      exact h9
                    · refine w_alu (pc' := 101) (st' := [.int (Int32.ofInt 0), .int (zn (16 + k)), .ref 174]) (ykc_237 (e := (0, .iconst 0, 0)) rfl) rfl rfl ?_
                      refine w_br (pc' := 114) (st' := [.int (Int32.ofInt 0), .int (zn (16 + k)), .ref 174]) (ykc_237 (e := (4, .goto 13, 114)) rfl) rfl ?_
                      have ev : zsv kd nn ff sp k = 0 := if_pos (by omega)
                      have ez : Int32.ofInt 0 = zn (zsv kd nn ff sp k) := by
                        rw [ev]
                        rfl
                      rw [ez]
                      show zW n D 237 Q 114 [some (.ref 170), some (.int kd), some (.int nn), some (.int ff), some (.int sp), some (.int (zBs (zsh v P kd nn ff sp) k)), some (.int (zsq ff sp k)), some (.int (zn k)), some (.int z1197)] [.int (zn (zsv kd nn ff sp k)), .int (zn (16 + k)), .ref 174] ph9
                      refine w_ias (pc' := 115) (k := 16 + k) (ykc_237 (e := (5, .iastore, 0)) rfl) (by omega) rfl (fun ph1214 u1213 => ?_)
                      refine w_load (pc' := 117) (v := .int (zBs (zsh v P kd nn ff sp) k)) (m := 2) (ykc_237 (e := (2, .iload 5, 0)) rfl) rfl rfl ?_
                      refine w_load (pc' := 118) (v := .ref 170) (m := 1) (ykc_237 (e := (2, .aload_n kF0, 0)) rfl) rfl rfl ?_
                      refine w_gf (pc' := 121) (v := .ref 174) (ykc_237 (e := (5, .getfield 41, 0)) rfl) rfl ((u1213.2.1 170 11 (fun q => absurd q.1 (by first | exact Nat.ne_of_beq_eq_false rfl | decide))).trans ((hf.1 170 11 (by first | exact zqm rfl | decide) (by first | exact zqp rfl | decide)).trans (zsg hS1 zs_170_11))) rfl ?_
                      refine w_push (pc' := 123) (v := .int ((Int8.ofInt 16).toInt32)) (m := 2) (ykc_237 (e := (1, .bipush 16, 0)) rfl) rfl rfl ?_
                      refine w_load (pc' := 125) (v := .int (zn k)) (m := 2) (ykc_237 (e := (2, .iload 7, 0)) rfl) rfl rfl ?_
                      have e1215 : ((Int8.ofInt 16).toInt32) + (zn k) = zn (16 + k) := (zaddN (a := 16) (b := k) c_2 (znt (by omega)) (by omega)) 
                      have te1215 := znt (k := 16 + k) (by omega)
                      refine w_alu (pc' := 126) (st' := [.int (zn (16 + k)), .ref 174, .int (zBs (zsh v P kd nn ff sp) k)]) (ykc_237 (e := (0, .iadd, 0)) rfl) (by rw [← e1215]; rfl) rfl ?_
                      refine w_ialk (pc' := 127) (k := 16 + k) (ykc_237 (e := (5, .iaload, 0)) rfl) u1213.1 (by omega) rfl ?_
                      refine w_alu (pc' := 128) (st' := [.int ((zBs (zsh v P kd nn ff sp) k) + (zn (zsv kd nn ff sp k)))]) (ykc_237 (e := (0, .iadd, 0)) rfl) rfl rfl ?_
                      refine w_store (pc' := 130) (L' := [some (.ref 170), some (.int kd), some (.int nn), some (.int ff), some (.int sp), some (.int ((zBs (zsh v P kd nn ff sp) k) + (zn (zsv kd nn ff sp k)))), some (.int (zsq ff sp k)), some (.int (zn k)), some (.int z1197)]) (st' := []) (m := 2) (ykc_237 (e := (3, .istore 5, 0)) rfl) rfl rfl ?_
                      refine w_load (pc' := 132) (v := .int (zsq ff sp k)) (m := 2) (ykc_237 (e := (2, .iload 6, 0)) rfl) rfl rfl ?_
                      refine w_load (pc' := 134) (v := .int sp) (m := 2) (ykc_237 (e := (2, .iload 4, 0)) rfl) rfl rfl ?_
                      refine w_alu (pc' := 135) (st' := [.int ((zsq ff sp k) + sp)]) (ykc_237 (e := (0, .iadd, 0)) rfl) rfl rfl ?_
                      refine w_store (pc' := 137) (L' := [some (.ref 170), some (.int kd), some (.int nn), some (.int ff), some (.int sp), some (.int ((zBs (zsh v P kd nn ff sp) k) + (zn (zsv kd nn ff sp k)))), some (.int ((zsq ff sp k) + sp)), some (.int (zn k)), some (.int z1197)]) (st' := []) (m := 2) (ykc_237 (e := (3, .istore 6, 0)) rfl) rfl rfl ?_
                      have e1216 : (zn k) + Int32.ofInt 1 = zn (k + 1) := (zaddN (a := k) (b := 1) (znt (by omega)) c_6 (by omega))
                      have te1216 := znt (k := k + 1) (by omega)
                      refine w_store (pc' := 140) (L' := [some (.ref 170), some (.int kd), some (.int nn), some (.int ff), some (.int sp), some (.int ((zBs (zsh v P kd nn ff sp) k) + (zn (zsv kd nn ff sp k)))), some (.int ((zsq ff sp k) + sp)), some (.int (zn (k + 1))), some (.int z1197)]) (st' := []) (m := 3) (ykc_237 (e := (3, .iinc 7 1, 0)) rfl) (by rw [← e1216]; rfl) rfl ?_
                      refine w_gb (ykc_237 (e := (4, .goto (-94), 46)) rfl) (fun k1217 hk1217 => ?_)
                      have h9 := ih k1217 hk1217 (k + 1) (some (.int z1197)) _ (by omega) (zFr_add hf u1213 (Or.inl (by first | exact zqi rfl | simp))) (fun i hi => by
                        by_cases e : i = k
                        · subst e
                          exact u1213.1
                        · exact (u1213.2.1 174 (16 + i) (fun q => e (by have q2 := q.2; omega))).trans (hr i (by omega))) (fun j hj => (u1213.2.1 174 j (fun q => by have q2 := q.2; omega)).trans (ho j (by omega)))
                      rw [show zBs (zsh v P kd nn ff sp) (k + 1) = zBs (zsh v P kd nn ff sp) k + zn (zsv kd nn ff sp k) by
                        show _ + zn (zsh v P kd nn ff sp (16 + k)) = _
                        rw [zsh_b (by omega)]] at h9
                      exact h9
              · refine w_load (pc' := 61) (v := .int (zsq ff sp k)) (m := 2) (ykc_237 (e := (2, .iload 6, 0)) rfl) rfl rfl ?_
                obtain ⟨z1218, e_z1218, h_z1218⟩ : ∃ zq : Int32, (zsq ff sp k).toInt8.toInt32 = zq ∧ zq.toInt = ((zsq ff sp k).toInt8.toInt32).toInt := ⟨_, rfl, rfl⟩
                refine w_alu (pc' := 62) (st' := [.int z1218]) (ykc_237 (e := (0, .i2b, 0)) rfl) (by rw [← e_z1218]; rfl) rfl ?_
                refine w_br (pc' := 78) (st' := [.int z1218]) (ykc_237 (e := (4, .goto 16, 78)) rfl) rfl ?_
                refine w_store (pc' := 80) (L' := [some (.ref 170), some (.int kd), some (.int nn), some (.int ff), some (.int sp), some (.int (zBs (zsh v P kd nn ff sp) k)), some (.int (zsq ff sp k)), some (.int (zn k)), some (.int z1218)]) (st' := []) (m := 2) (ykc_237 (e := (3, .istore 8, 0)) rfl) rfl rfl ?_
                have e9 : zsck kd (zsq ff sp k) = (zsq ff sp k).toInt8.toInt32 := if_pos (by omega)
                refine w_load (pc' := 81) (v := .ref 170) (m := 1) (ykc_237 (e := (2, .aload_n kF0, 0)) rfl) rfl rfl ?_
                refine w_gf (pc' := 84) (v := .ref 174) (ykc_237 (e := (5, .getfield 41, 0)) rfl) rfl ((hf.1 170 11 (by first | exact zqm rfl | decide) (by first | exact zqp rfl | decide)).trans (zsg hS1 zs_170_11)) rfl ?_
                refine w_push (pc' := 86) (v := .int ((Int8.ofInt 16).toInt32)) (m := 2) (ykc_237 (e := (1, .bipush 16, 0)) rfl) rfl rfl ?_
                refine w_load (pc' := 88) (v := .int (zn k)) (m := 2) (ykc_237 (e := (2, .iload 7, 0)) rfl) rfl rfl ?_
                have e1219 : ((Int8.ofInt 16).toInt32) + (zn k) = zn (16 + k) := (zaddN (a := 16) (b := k) c_2 (znt (by omega)) (by omega)) 
                have te1219 := znt (k := 16 + k) (by omega)
                refine w_alu (pc' := 89) (st' := [.int (zn (16 + k)), .ref 174]) (ykc_237 (e := (0, .iadd, 0)) rfl) (by rw [← e1219]; rfl) rfl ?_
                refine w_load (pc' := 90) (v := .int kd) (m := 1) (ykc_237 (e := (2, .iload_n kF1, 0)) rfl) rfl rfl ?_
                refine w_alu (pc' := 91) (st' := [.int (Int32.ofInt 3), .int kd, .int (zn (16 + k)), .ref 174]) (ykc_237 (e := (0, .iconst 3, 0)) rfl) rfl rfl ?_
                refine w_ieq (ykc_237 (e := (4, .if_icmp .eq 9, 100)) rfl) rfl (fun b1220 => ?_) (fun b1220 => ?_)
                · refine w_alu (pc' := 101) (st' := [.int (Int32.ofInt 0), .int (zn (16 + k)), .ref 174]) (ykc_237 (e := (0, .iconst 0, 0)) rfl) rfl rfl ?_
                  refine w_br (pc' := 114) (st' := [.int (Int32.ofInt 0), .int (zn (16 + k)), .ref 174]) (ykc_237 (e := (4, .goto 13, 114)) rfl) rfl ?_
                  have ev : zsv kd nn ff sp k = 0 := if_pos (by omega)
                  have ez : Int32.ofInt 0 = zn (zsv kd nn ff sp k) := by
                    rw [ev]
                    rfl
                  rw [ez]
                  show zW n D 237 Q 114 [some (.ref 170), some (.int kd), some (.int nn), some (.int ff), some (.int sp), some (.int (zBs (zsh v P kd nn ff sp) k)), some (.int (zsq ff sp k)), some (.int (zn k)), some (.int z1218)] [.int (zn (zsv kd nn ff sp k)), .int (zn (16 + k)), .ref 174] ph9
                  refine w_ias (pc' := 115) (k := 16 + k) (ykc_237 (e := (5, .iastore, 0)) rfl) (by omega) rfl (fun ph1222 u1221 => ?_)
                  refine w_load (pc' := 117) (v := .int (zBs (zsh v P kd nn ff sp) k)) (m := 2) (ykc_237 (e := (2, .iload 5, 0)) rfl) rfl rfl ?_
                  refine w_load (pc' := 118) (v := .ref 170) (m := 1) (ykc_237 (e := (2, .aload_n kF0, 0)) rfl) rfl rfl ?_
                  refine w_gf (pc' := 121) (v := .ref 174) (ykc_237 (e := (5, .getfield 41, 0)) rfl) rfl ((u1221.2.1 170 11 (fun q => absurd q.1 (by first | exact Nat.ne_of_beq_eq_false rfl | decide))).trans ((hf.1 170 11 (by first | exact zqm rfl | decide) (by first | exact zqp rfl | decide)).trans (zsg hS1 zs_170_11))) rfl ?_
                  refine w_push (pc' := 123) (v := .int ((Int8.ofInt 16).toInt32)) (m := 2) (ykc_237 (e := (1, .bipush 16, 0)) rfl) rfl rfl ?_
                  refine w_load (pc' := 125) (v := .int (zn k)) (m := 2) (ykc_237 (e := (2, .iload 7, 0)) rfl) rfl rfl ?_
                  have e1223 : ((Int8.ofInt 16).toInt32) + (zn k) = zn (16 + k) := (zaddN (a := 16) (b := k) c_2 (znt (by omega)) (by omega)) 
                  have te1223 := znt (k := 16 + k) (by omega)
                  refine w_alu (pc' := 126) (st' := [.int (zn (16 + k)), .ref 174, .int (zBs (zsh v P kd nn ff sp) k)]) (ykc_237 (e := (0, .iadd, 0)) rfl) (by rw [← e1223]; rfl) rfl ?_
                  refine w_ialk (pc' := 127) (k := 16 + k) (ykc_237 (e := (5, .iaload, 0)) rfl) u1221.1 (by omega) rfl ?_
                  refine w_alu (pc' := 128) (st' := [.int ((zBs (zsh v P kd nn ff sp) k) + (zn (zsv kd nn ff sp k)))]) (ykc_237 (e := (0, .iadd, 0)) rfl) rfl rfl ?_
                  refine w_store (pc' := 130) (L' := [some (.ref 170), some (.int kd), some (.int nn), some (.int ff), some (.int sp), some (.int ((zBs (zsh v P kd nn ff sp) k) + (zn (zsv kd nn ff sp k)))), some (.int (zsq ff sp k)), some (.int (zn k)), some (.int z1218)]) (st' := []) (m := 2) (ykc_237 (e := (3, .istore 5, 0)) rfl) rfl rfl ?_
                  refine w_load (pc' := 132) (v := .int (zsq ff sp k)) (m := 2) (ykc_237 (e := (2, .iload 6, 0)) rfl) rfl rfl ?_
                  refine w_load (pc' := 134) (v := .int sp) (m := 2) (ykc_237 (e := (2, .iload 4, 0)) rfl) rfl rfl ?_
                  refine w_alu (pc' := 135) (st' := [.int ((zsq ff sp k) + sp)]) (ykc_237 (e := (0, .iadd, 0)) rfl) rfl rfl ?_
                  refine w_store (pc' := 137) (L' := [some (.ref 170), some (.int kd), some (.int nn), some (.int ff), some (.int sp), some (.int ((zBs (zsh v P kd nn ff sp) k) + (zn (zsv kd nn ff sp k)))), some (.int ((zsq ff sp k) + sp)), some (.int (zn k)), some (.int z1218)]) (st' := []) (m := 2) (ykc_237 (e := (3, .istore 6, 0)) rfl) rfl rfl ?_
                  have e1224 : (zn k) + Int32.ofInt 1 = zn (k + 1) := (zaddN (a := k) (b := 1) (znt (by omega)) c_6 (by omega))
                  have te1224 := znt (k := k + 1) (by omega)
                  refine w_store (pc' := 140) (L' := [some (.ref 170), some (.int kd), some (.int nn), some (.int ff), some (.int sp), some (.int ((zBs (zsh v P kd nn ff sp) k) + (zn (zsv kd nn ff sp k)))), some (.int ((zsq ff sp k) + sp)), some (.int (zn (k + 1))), some (.int z1218)]) (st' := []) (m := 3) (ykc_237 (e := (3, .iinc 7 1, 0)) rfl) (by rw [← e1224]; rfl) rfl ?_
                  refine w_gb (ykc_237 (e := (4, .goto (-94), 46)) rfl) (fun k1225 hk1225 => ?_)
                  have h9 := ih k1225 hk1225 (k + 1) (some (.int z1218)) _ (by omega) (zFr_add hf u1221 (Or.inl (by first | exact zqi rfl | simp))) (fun i hi => by
                    by_cases e : i = k
                    · subst e
                      exact u1221.1
                    · exact (u1221.2.1 174 (16 + i) (fun q => e (by have q2 := q.2; omega))).trans (hr i (by omega))) (fun j hj => (u1221.2.1 174 j (fun q => by have q2 := q.2; omega)).trans (ho j (by omega)))
                  rw [show zBs (zsh v P kd nn ff sp) (k + 1) = zBs (zsh v P kd nn ff sp) k + zn (zsv kd nn ff sp k) by
                    show _ + zn (zsh v P kd nn ff sp (16 + k)) = _
                    rw [zsh_b (by omega)]] at h9
                  exact h9
                · refine w_load (pc' := 96) (v := .int (zn k)) (m := 2) (ykc_237 (e := (2, .iload 7, 0)) rfl) rfl rfl ?_
                  refine w_load (pc' := 97) (v := .int nn) (m := 1) (ykc_237 (e := (2, .iload_n kF2, 0)) rfl) rfl rfl ?_
                  refine w_ilt (ykc_237 (e := (4, .if_icmp .lt 7, 104)) rfl) rfl (fun b1226 => ?_) (fun b1226 => ?_)
                  · refine w_alu (pc' := 105) (st' := [.int (Int32.ofInt 0), .int (zn (16 + k)), .ref 174]) (ykc_237 (e := (0, .iconst 0, 0)) rfl) rfl rfl ?_
                    refine w_alu (pc' := 106) (st' := [.int (Int32.ofInt 4), .int (Int32.ofInt 0), .int (zn (16 + k)), .ref 174]) (ykc_237 (e := (0, .iconst 4, 0)) rfl) rfl rfl ?_
                    refine w_load (pc' := 108) (v := .int z1218) (m := 2) (ykc_237 (e := (2, .iload 8, 0)) rfl) rfl rfl ?_
                    obtain ⟨z1227, e_z1227⟩ : ∃ zq : Int32, (if z1218 < (Int32.ofInt 4) then z1218 else (Int32.ofInt 4)) = zq := ⟨_, rfl⟩
                    have h_z1227 := zminI e_z1227
                    refine w_mem1 (pc' := 111) (m := 3) (st' := [.int z1227, .int (Int32.ofInt 0), .int (zn (16 + k)), .ref 174]) (ph' := ph9) (ykc_237 (e := (5, .invokestatic 145, 0)) rfl) (by rw [← e_z1227]; rfl) rfl ?_
                    obtain ⟨z1228, e_z1228⟩ : ∃ zq : Int32, (if (Int32.ofInt 0) < z1227 then z1227 else (Int32.ofInt 0)) = zq := ⟨_, rfl⟩
                    have h_z1228 := zmaxI e_z1228
                    refine w_mem1 (pc' := 114) (m := 3) (st' := [.int z1228, .int (zn (16 + k)), .ref 174]) (ph' := ph9) (ykc_237 (e := (5, .invokestatic 273, 0)) rfl) (by rw [← e_z1228]; rfl) rfl ?_
                    have ev : zsv kd nn ff sp k = zq4 (zsck kd (zsq ff sp k)) := if_neg (by omega)
                    have ez : z1228 = zn (zsv kd nn ff sp k) := zn_of (by rw [ev, e9]; unfold zq4; omega)
                    rw [ez]
                    show zW n D 237 Q 114 [some (.ref 170), some (.int kd), some (.int nn), some (.int ff), some (.int sp), some (.int (zBs (zsh v P kd nn ff sp) k)), some (.int (zsq ff sp k)), some (.int (zn k)), some (.int z1218)] [.int (zn (zsv kd nn ff sp k)), .int (zn (16 + k)), .ref 174] ph9
                    refine w_ias (pc' := 115) (k := 16 + k) (ykc_237 (e := (5, .iastore, 0)) rfl) (by omega) rfl (fun ph1230 u1229 => ?_)
                    refine w_load (pc' := 117) (v := .int (zBs (zsh v P kd nn ff sp) k)) (m := 2) (ykc_237 (e := (2, .iload 5, 0)) rfl) rfl rfl ?_
                    refine w_load (pc' := 118) (v := .ref 170) (m := 1) (ykc_237 (e := (2, .aload_n kF0, 0)) rfl) rfl rfl ?_
                    refine w_gf (pc' := 121) (v := .ref 174) (ykc_237 (e := (5, .getfield 41, 0)) rfl) rfl ((u1229.2.1 170 11 (fun q => absurd q.1 (by first | exact Nat.ne_of_beq_eq_false rfl | decide))).trans ((hf.1 170 11 (by first | exact zqm rfl | decide) (by first | exact zqp rfl | decide)).trans (zsg hS1 zs_170_11))) rfl ?_
                    refine w_push (pc' := 123) (v := .int ((Int8.ofInt 16).toInt32)) (m := 2) (ykc_237 (e := (1, .bipush 16, 0)) rfl) rfl rfl ?_
                    refine w_load (pc' := 125) (v := .int (zn k)) (m := 2) (ykc_237 (e := (2, .iload 7, 0)) rfl) rfl rfl ?_
                    have e1231 : ((Int8.ofInt 16).toInt32) + (zn k) = zn (16 + k) := (zaddN (a := 16) (b := k) c_2 (znt (by omega)) (by omega)) 
                    have te1231 := znt (k := 16 + k) (by omega)
                    refine w_alu (pc' := 126) (st' := [.int (zn (16 + k)), .ref 174, .int (zBs (zsh v P kd nn ff sp) k)]) (ykc_237 (e := (0, .iadd, 0)) rfl) (by rw [← e1231]; rfl) rfl ?_
                    refine w_ialk (pc' := 127) (k := 16 + k) (ykc_237 (e := (5, .iaload, 0)) rfl) u1229.1 (by omega) rfl ?_
                    refine w_alu (pc' := 128) (st' := [.int ((zBs (zsh v P kd nn ff sp) k) + (zn (zsv kd nn ff sp k)))]) (ykc_237 (e := (0, .iadd, 0)) rfl) rfl rfl ?_
                    refine w_store (pc' := 130) (L' := [some (.ref 170), some (.int kd), some (.int nn), some (.int ff), some (.int sp), some (.int ((zBs (zsh v P kd nn ff sp) k) + (zn (zsv kd nn ff sp k)))), some (.int (zsq ff sp k)), some (.int (zn k)), some (.int z1218)]) (st' := []) (m := 2) (ykc_237 (e := (3, .istore 5, 0)) rfl) rfl rfl ?_
                    refine w_load (pc' := 132) (v := .int (zsq ff sp k)) (m := 2) (ykc_237 (e := (2, .iload 6, 0)) rfl) rfl rfl ?_
                    refine w_load (pc' := 134) (v := .int sp) (m := 2) (ykc_237 (e := (2, .iload 4, 0)) rfl) rfl rfl ?_
                    refine w_alu (pc' := 135) (st' := [.int ((zsq ff sp k) + sp)]) (ykc_237 (e := (0, .iadd, 0)) rfl) rfl rfl ?_
                    refine w_store (pc' := 137) (L' := [some (.ref 170), some (.int kd), some (.int nn), some (.int ff), some (.int sp), some (.int ((zBs (zsh v P kd nn ff sp) k) + (zn (zsv kd nn ff sp k)))), some (.int ((zsq ff sp k) + sp)), some (.int (zn k)), some (.int z1218)]) (st' := []) (m := 2) (ykc_237 (e := (3, .istore 6, 0)) rfl) rfl rfl ?_
                    have e1232 : (zn k) + Int32.ofInt 1 = zn (k + 1) := (zaddN (a := k) (b := 1) (znt (by omega)) c_6 (by omega))
                    have te1232 := znt (k := k + 1) (by omega)
                    refine w_store (pc' := 140) (L' := [some (.ref 170), some (.int kd), some (.int nn), some (.int ff), some (.int sp), some (.int ((zBs (zsh v P kd nn ff sp) k) + (zn (zsv kd nn ff sp k)))), some (.int ((zsq ff sp k) + sp)), some (.int (zn (k + 1))), some (.int z1218)]) (st' := []) (m := 3) (ykc_237 (e := (3, .iinc 7 1, 0)) rfl) (by rw [← e1232]; rfl) rfl ?_
                    refine w_gb (ykc_237 (e := (4, .goto (-94), 46)) rfl) (fun k1233 hk1233 => ?_)
                    have h9 := ih k1233 hk1233 (k + 1) (some (.int z1218)) _ (by omega) (zFr_add hf u1229 (Or.inl (by first | exact zqi rfl | simp))) (fun i hi => by
                      by_cases e : i = k
                      · subst e
                        exact u1229.1
                      · exact (u1229.2.1 174 (16 + i) (fun q => e (by have q2 := q.2; omega))).trans (hr i (by omega))) (fun j hj => (u1229.2.1 174 j (fun q => by have q2 := q.2; omega)).trans (ho j (by omega)))
                    rw [show zBs (zsh v P kd nn ff sp) (k + 1) = zBs (zsh v P kd nn ff sp) k + zn (zsv kd nn ff sp k) by
                      show _ + zn (zsh v P kd nn ff sp (16 + k)) = _
                      rw [zsh_b (by omega)]] at h9
                    exact h9
                  · refine w_alu (pc' := 101) (st' := [.int (Int32.ofInt 0), .int (zn (16 + k)), .ref 174]) (ykc_237 (e := (0, .iconst 0, 0)) rfl) rfl rfl ?_
                    refine w_br (pc' := 114) (st' := [.int (Int32.ofInt 0), .int (zn (16 + k)), .ref 174]) (ykc_237 (e := (4, .goto 13, 114)) rfl) rfl ?_
                    have ev : zsv kd nn ff sp k = 0 := if_pos (by omega)
                    have ez : Int32.ofInt 0 = zn (zsv kd nn ff sp k) := by
                      rw [ev]
                      rfl
                    rw [ez]
                    show zW n D 237 Q 114 [some (.ref 170), some (.int kd), some (.int nn), some (.int ff), some (.int sp), some (.int (zBs (zsh v P kd nn ff sp) k)), some (.int (zsq ff sp k)), some (.int (zn k)), some (.int z1218)] [.int (zn (zsv kd nn ff sp k)), .int (zn (16 + k)), .ref 174] ph9
                    refine w_ias (pc' := 115) (k := 16 + k) (ykc_237 (e := (5, .iastore, 0)) rfl) (by omega) rfl (fun ph1235 u1234 => ?_)
                    refine w_load (pc' := 117) (v := .int (zBs (zsh v P kd nn ff sp) k)) (m := 2) (ykc_237 (e := (2, .iload 5, 0)) rfl) rfl rfl ?_
                    refine w_load (pc' := 118) (v := .ref 170) (m := 1) (ykc_237 (e := (2, .aload_n kF0, 0)) rfl) rfl rfl ?_
                    refine w_gf (pc' := 121) (v := .ref 174) (ykc_237 (e := (5, .getfield 41, 0)) rfl) rfl ((u1234.2.1 170 11 (fun q => absurd q.1 (by first | exact Nat.ne_of_beq_eq_false rfl | decide))).trans ((hf.1 170 11 (by first | exact zqm rfl | decide) (by first | exact zqp rfl | decide)).trans (zsg hS1 zs_170_11))) rfl ?_
                    refine w_push (pc' := 123) (v := .int ((Int8.ofInt 16).toInt32)) (m := 2) (ykc_237 (e := (1, .bipush 16, 0)) rfl) rfl rfl ?_
                    refine w_load (pc' := 125) (v := .int (zn k)) (m := 2) (ykc_237 (e := (2, .iload 7, 0)) rfl) rfl rfl ?_
                    have e1236 : ((Int8.ofInt 16).toInt32) + (zn k) = zn (16 + k) := (zaddN (a := 16) (b := k) c_2 (znt (by omega)) (by omega)) 
                    have te1236 := znt (k := 16 + k) (by omega)
                    refine w_alu (pc' := 126) (st' := [.int (zn (16 + k)), .ref 174, .int (zBs (zsh v P kd nn ff sp) k)]) (ykc_237 (e := (0, .iadd, 0)) rfl) (by rw [← e1236]; rfl) rfl ?_
                    refine w_ialk (pc' := 127) (k := 16 + k) (ykc_237 (e := (5, .iaload, 0)) rfl) u1234.1 (by omega) rfl ?_
                    refine w_alu (pc' := 128) (st' := [.int ((zBs (zsh v P kd nn ff sp) k) + (zn (zsv kd nn ff sp k)))]) (ykc_237 (e := (0, .iadd, 0)) rfl) rfl rfl ?_
                    refine w_store (pc' := 130) (L' := [some (.ref 170), some (.int kd), some (.int nn), some (.int ff), some (.int sp), some (.int ((zBs (zsh v P kd nn ff sp) k) + (zn (zsv kd nn ff sp k)))), some (.int (zsq ff sp k)), some (.int (zn k)), some (.int z1218)]) (st' := []) (m := 2) (ykc_237 (e := (3, .istore 5, 0)) rfl) rfl rfl ?_
                    refine w_load (pc' := 132) (v := .int (zsq ff sp k)) (m := 2) (ykc_237 (e := (2, .iload 6, 0)) rfl) rfl rfl ?_
                    refine w_load (pc' := 134) (v := .int sp) (m := 2) (ykc_237 (e := (2, .iload 4, 0)) rfl) rfl rfl ?_
                    refine w_alu (pc' := 135) (st' := [.int ((zsq ff sp k) + sp)]) (ykc_237 (e := (0, .iadd, 0)) rfl) rfl rfl ?_
                    refine w_store (pc' := 137) (L' := [some (.ref 170), some (.int kd), some (.int nn), some (.int ff), some (.int sp), some (.int ((zBs (zsh v P kd nn ff sp) k) + (zn (zsv kd nn ff sp k)))), some (.int ((zsq ff sp k) + sp)), some (.int (zn k)), some (.int z1218)]) (st' := []) (m := 2) (ykc_237 (e := (3, .istore 6, 0)) rfl) rfl rfl ?_
                    have e1237 : (zn k) + Int32.ofInt 1 = zn (k + 1) := (zaddN (a := k) (b := 1) (znt (by omega)) c_6 (by omega))
                    have te1237 := znt (k := k + 1) (by omega)
                    refine w_store (pc' := 140) (L' := [some (.ref 170), some (.int kd), some (.int nn), some (.int ff), some (.int sp), some (.int ((zBs (zsh v P kd nn ff sp) k) + (zn (zsv kd nn ff sp k)))), some (.int ((zsq ff sp k) + sp)), some (.int (zn (k + 1))), some (.int z1218)]) (st' := []) (m := 3) (ykc_237 (e := (3, .iinc 7 1, 0)) rfl) (by rw [← e1237]; rfl) rfl ?_
                    refine w_gb (ykc_237 (e := (4, .goto (-94), 46)) rfl) (fun k1238 hk1238 => ?_)
                    have h9 := ih k1238 hk1238 (k + 1) (some (.int z1218)) _ (by omega) (zFr_add hf u1234 (Or.inl (by first | exact zqi rfl | simp))) (fun i hi => by
                      by_cases e : i = k
                      · subst e
                        exact u1234.1
                      · exact (u1234.2.1 174 (16 + i) (fun q => e (by have q2 := q.2; omega))).trans (hr i (by omega))) (fun j hj => (u1234.2.1 174 j (fun q => by have q2 := q.2; omega)).trans (ho j (by omega)))
                    rw [show zBs (zsh v P kd nn ff sp) (k + 1) = zBs (zsh v P kd nn ff sp) k + zn (zsv kd nn ff sp k) by
                      show _ + zn (zsh v P kd nn ff sp (16 + k)) = _
                      rw [zsh_b (by omega)]] at h9
                    exact h9
        exact hl n 0 _ ph1167 (Nat.zero_le _) zFr_refl (fun i hi => absurd hi (Nat.not_lt_zero i)) (fun j _ => rfl)
      · refine w_load (pc' := 31) (v := .int nn) (m := 1) (ykc_237 (e := (2, .iload_n kF2, 0)) rfl) rfl rfl ?_
        refine w_zge (ykc_237 (e := (4, .ifCond .ge 6, 37)) rfl) rfl (fun b1239 => ?_) (fun b1239 => ?_)
        · refine w_alu (pc' := 38) (st' := [.int (Int32.ofInt 0)]) (ykc_237 (e := (0, .iconst 0, 0)) rfl) rfl rfl ?_
          refine w_store (pc' := 40) (L' := [some (.ref 170), some (.int kd), some (.int nn), some (.int ff), some (.int sp), some (.int (Int32.ofInt 0)), none, none, none]) (st' := []) (m := 2) (ykc_237 (e := (3, .istore 5, 0)) rfl) rfl rfl ?_
          refine w_load (pc' := 41) (v := .int ff) (m := 1) (ykc_237 (e := (2, .iload_n kF3, 0)) rfl) rfl rfl ?_
          refine w_store (pc' := 43) (L' := [some (.ref 170), some (.int kd), some (.int nn), some (.int ff), some (.int sp), some (.int (Int32.ofInt 0)), some (.int ff), none, none]) (st' := []) (m := 2) (ykc_237 (e := (3, .istore 6, 0)) rfl) rfl rfl ?_
          refine w_alu (pc' := 44) (st' := [.int (Int32.ofInt 0)]) (ykc_237 (e := (0, .iconst 0, 0)) rfl) rfl rfl ?_
          refine w_store (pc' := 46) (L' := [some (.ref 170), some (.int kd), some (.int nn), some (.int ff), some (.int sp), some (.int (Int32.ofInt 0)), some (.int ff), some (.int (Int32.ofInt 0)), none]) (st' := []) (m := 2) (ykc_237 (e := (3, .istore 7, 0)) rfl) rfl rfl ?_
          have d9 := of_decide_eq_true b1170
          have f1 : zFr [] [(170, 0)] ph ph1167 := zFr_st u1166 (Or.inr (by first | exact zqj rfl | simp))
          have hS1 := zSh_F f1 (by decide +kernel) hS
          have hgo : ¬ ((kd.toInt < 0 ∨ 3 < kd.toInt ∨ 8 < nn.toInt) ∨ (kd.toInt ≠ 3 ∧ nn.toInt < 0)) := by omega
          have hkd : 0 ≤ kd.toInt ∧ kd.toInt ≤ 3 ∧ nn.toInt ≤ 8 ∧ (kd.toInt = 3 ∨ 0 ≤ nn.toInt) := by omega
          have hl : ∀ (n : Nat), ∀ (k : Nat) (x8 : Option Value) (ph9 : pm_H), (k ≤ P) → (zFr [174] [] ph1167 ph9) → (∀ i, i < k → zc ph9 174 (16 + i) = some (.int (zn (zsv kd nn ff sp i)))) → (∀ j, ¬ (16 ≤ j ∧ j < 16 + k) → zc ph9 174 j = zc ph1167 174 j) → zW n D 237 Q 46 [some (.ref 170), some (.int kd), some (.int nn), some (.int ff), some (.int sp), some (.int (zBs (zsh v P kd nn ff sp) k)), some (.int (zsq ff sp k)), some (.int (zn k)), x8] [] ph9 := by
            intro n
            induction n using Nat.strongRecOn with
            | ind n ih =>
              intro k x8 ph9 hk9 hf hr ho
              have tk := znt (k := k) (by omega)
              refine w_load (pc' := 48) (v := .int (zn k)) (m := 2) (ykc_237 (e := (2, .iload 7, 0)) rfl) rfl rfl ?_
              refine w_load (pc' := 49) (v := .ref 170) (m := 1) (ykc_237 (e := (2, .aload_n kF0, 0)) rfl) rfl rfl ?_
              refine w_gf (pc' := 52) (v := .int (zn P)) (ykc_237 (e := (5, .getfield 130, 0)) rfl) rfl ((hf.1 170 5 (by first | exact zqm rfl | decide) (by first | exact zqp rfl | decide)).trans ((f1.1 170 5 (by first | exact zqm rfl | decide) (by first | exact zqp rfl | simp)).trans hN0.1)) rfl ?_
              refine w_ige (ykc_237 (e := (4, .if_icmp .ge 91, 143)) rfl) rfl (fun b1240 => ?_) (fun b1240 => ?_)
              · refine w_load (pc' := 144) (v := .int kd) (m := 1) (ykc_237 (e := (2, .iload_n kF1, 0)) rfl) rfl rfl ?_
                refine w_alu (pc' := 145) (st' := [.int (Int32.ofInt 3), .int kd]) (ykc_237 (e := (0, .iconst 3, 0)) rfl) rfl rfl ?_
                refine w_ine (ykc_237 (e := (4, .if_icmp .ne 8, 153)) rfl) rfl (fun b1241 => ?_) (fun b1241 => ?_)
                · refine w_load (pc' := 155) (v := .int (zBs (zsh v P kd nn ff sp) k)) (m := 2) (ykc_237 (e := (2, .iload 5, 0)) rfl) rfl rfl ?_
                  refine w_ret (v := (some (.int (zBs (zsh v P kd nn ff sp) k)))) (ykc_237 (e := (7, .ireturn, 0)) rfl) (zr_v rfl) ?_
                  have ek : P = k := by omega
                  subst ek
                  have f2 : zFr [174] [(170, 0)] ph ph9 := zFr_trans (zFr_mono f1 (by first | exact zqa rfl | simp) (by first | exact zqf rfl | simp)) (zFr_mono hf (by first | exact zqa rfl | simp) (by first | exact zqf rfl | simp))
                  have ea : zsa v P kd nn ff sp = zBs (zsh v P kd nn ff sp) P := by
                    unfold zsa
                    rw [if_neg (by omega), if_neg (by omega), if_neg (by omega)]
                  have er : zsr v P kd nn ff sp = zsh v P kd nn ff sp := if_neg hgo
                  rw [hQ]
                  refine ⟨by rw [ea], ?_⟩
                  rw [er]
                  exact ⟨zMl_F f2 (by first | exact zqp rfl | simp) (by first | exact zqp rfl | simp) (by first | exact (fun _ => zqr rfl) | simp) (by first | exact ⟨zqm rfl, zqm rfl⟩ | simp) hL0, zMp_F f2 (by first | exact zqp rfl | simp) (by first | exact zqp rfl | simp) (by first | exact zqm rfl | simp) hN0, fun i hi => by
                    rw [Nat.zero_add]
                    by_cases e : 16 ≤ i ∧ i < 16 + P
                    · have h := hr (i - 16) (by omega)
                      rw [show 16 + (i - 16) = i by omega] at h
                      rw [show zsh v P kd nn ff sp i = zsv kd nn ff sp (i - 16) from if_pos e]
                      exact h
                    · rw [zsh_o e]
                      exact (ho i e).trans ((f1.1 174 i (by first | exact zqm rfl | simp) (by first | exact zqp rfl | simp)).trans (zNr0 hv hi)), zMu_F f2 (by first | exact ⟨zqm rfl, zqm rfl⟩ | simp) (by first | exact zqp rfl | simp) (by first | exact (fun _ => zqr rfl) | simp) hU, zMk_F f2 (by first | exact ⟨zqm rfl, zqm rfl, zqm rfl, zqm rfl⟩ | simp) (by first | exact zqp rfl | simp) (by first | exact (fun _ => ⟨zqr rfl, zqr rfl, zqr rfl⟩) | simp) hk, zMh_F f2 (by first | exact zqm rfl | simp) (by first | exact zqp rfl | simp) hh⟩
                · refine w_push (pc' := 150) (v := .int ((Int8.ofInt (-3)).toInt32)) (m := 2) (ykc_237 (e := (1, .bipush (-3), 0)) rfl) rfl rfl ?_
                  refine w_br (pc' := 155) (st' := [.int ((Int8.ofInt (-3)).toInt32)]) (ykc_237 (e := (4, .goto 5, 155)) rfl) rfl ?_
                  refine w_ret (v := (some (.int ((Int8.ofInt (-3)).toInt32)))) (ykc_237 (e := (7, .ireturn, 0)) rfl) (zr_v rfl) ?_
                  have ek : P = k := by omega
                  subst ek
                  have f2 : zFr [174] [(170, 0)] ph ph9 := zFr_trans (zFr_mono f1 (by first | exact zqa rfl | simp) (by first | exact zqf rfl | simp)) (zFr_mono hf (by first | exact zqa rfl | simp) (by first | exact zqf rfl | simp))
                  have ea : zsa v P kd nn ff sp = (Int8.ofInt (-3)).toInt32 := by
                    unfold zsa
                    rw [if_neg (by omega), if_pos (by omega)]
                  have er : zsr v P kd nn ff sp = zsh v P kd nn ff sp := if_neg hgo
                  rw [hQ]
                  refine ⟨by rw [ea], ?_⟩
                  rw [er]
                  exact ⟨zMl_F f2 (by first | exact zqp rfl | simp) (by first | exact zqp rfl | simp) (by first | exact (fun _ => zqr rfl) | simp) (by first | exact ⟨zqm rfl, zqm rfl⟩ | simp) hL0, zMp_F f2 (by first | exact zqp rfl | simp) (by first | exact zqp rfl | simp) (by first | exact zqm rfl | simp) hN0, fun i hi => by
                    rw [Nat.zero_add]
                    by_cases e : 16 ≤ i ∧ i < 16 + P
                    · have h := hr (i - 16) (by omega)
                      rw [show 16 + (i - 16) = i by omega] at h
                      rw [show zsh v P kd nn ff sp i = zsv kd nn ff sp (i - 16) from if_pos e]
                      exact h
                    · rw [zsh_o e]
                      exact (ho i e).trans ((f1.1 174 i (by first | exact zqm rfl | simp) (by first | exact zqp rfl | simp)).trans (zNr0 hv hi)), zMu_F f2 (by first | exact ⟨zqm rfl, zqm rfl⟩ | simp) (by first | exact zqp rfl | simp) (by first | exact (fun _ => zqr rfl) | simp) hU, zMk_F f2 (by first | exact ⟨zqm rfl, zqm rfl, zqm rfl, zqm rfl⟩ | simp) (by first | exact zqp rfl | simp) (by first | exact (fun _ => ⟨zqr rfl, zqr rfl, zqr rfl⟩) | simp) hk, zMh_F f2 (by first | exact zqm rfl | simp) (by first | exact zqp rfl | simp) hh⟩
              · refine w_load (pc' := 56) (v := .int kd) (m := 1) (ykc_237 (e := (2, .iload_n kF1, 0)) rfl) rfl rfl ?_
                refine w_zne (ykc_237 (e := (4, .ifCond .ne 9, 65)) rfl) rfl (fun b1242 => ?_) (fun b1242 => ?_)
                · refine w_load (pc' := 66) (v := .int kd) (m := 1) (ykc_237 (e := (2, .iload_n kF1, 0)) rfl) rfl rfl ?_
                  refine w_alu (pc' := 67) (st' := [.int (Int32.ofInt 1), .int kd]) (ykc_237 (e := (0, .iconst 1, 0)) rfl) rfl rfl ?_
                  refine w_ine (ykc_237 (e := (4, .if_icmp .ne 9, 76)) rfl) rfl (fun b1243 => ?_) (fun b1243 => ?_)
                  · refine w_load (pc' := 78) (v := .int (zsq ff sp k)) (m := 2) (ykc_237 (e := (2, .iload 6, 0)) rfl) rfl rfl ?_
                    refine w_store (pc' := 80) (L' := [some (.ref 170), some (.int kd), some (.int nn), some (.int ff), some (.int sp), some (.int (zBs (zsh v P kd nn ff sp) k)), some (.int (zsq ff sp k)), some (.int (zn k)), some (.int (zsq ff sp k))]) (st' := []) (m := 2) (ykc_237 (e := (3, .istore 8, 0)) rfl) rfl rfl ?_
                    have e9 : zsck kd (zsq ff sp k) = zsq ff sp k := (by
                      unfold zsck
                      rw [if_neg (by omega), if_neg (by omega)])
                    refine w_load (pc' := 81) (v := .ref 170) (m := 1) (ykc_237 (e := (2, .aload_n kF0, 0)) rfl) rfl rfl ?_
                    refine w_gf (pc' := 84) (v := .ref 174) (ykc_237 (e := (5, .getfield 41, 0)) rfl) rfl ((hf.1 170 11 (by first | exact zqm rfl | decide) (by first | exact zqp rfl | decide)).trans (zsg hS1 zs_170_11)) rfl ?_
                    refine w_push (pc' := 86) (v := .int ((Int8.ofInt 16).toInt32)) (m := 2) (ykc_237 (e := (1, .bipush 16, 0)) rfl) rfl rfl ?_
                    refine w_load (pc' := 88) (v := .int (zn k)) (m := 2) (ykc_237 (e := (2, .iload 7, 0)) rfl) rfl rfl ?_
                    have e1244 : ((Int8.ofInt 16).toInt32) + (zn k) = zn (16 + k) := (zaddN (a := 16) (b := k) c_2 (znt (by omega)) (by omega)) 
                    have te1244 := znt (k := 16 + k) (by omega)
                    refine w_alu (pc' := 89) (st' := [.int (zn (16 + k)), .ref 174]) (ykc_237 (e := (0, .iadd, 0)) rfl) (by rw [← e1244]; rfl) rfl ?_
                    refine w_load (pc' := 90) (v := .int kd) (m := 1) (ykc_237 (e := (2, .iload_n kF1, 0)) rfl) rfl rfl ?_
                    refine w_alu (pc' := 91) (st' := [.int (Int32.ofInt 3), .int kd, .int (zn (16 + k)), .ref 174]) (ykc_237 (e := (0, .iconst 3, 0)) rfl) rfl rfl ?_
                    refine w_ieq (ykc_237 (e := (4, .if_icmp .eq 9, 100)) rfl) rfl (fun b1245 => ?_) (fun b1245 => ?_)
                    · refine w_alu (pc' := 101) (st' := [.int (Int32.ofInt 0), .int (zn (16 + k)), .ref 174]) (ykc_237 (e := (0, .iconst 0, 0)) rfl) rfl rfl ?_
                      refine w_br (pc' := 114) (st' := [.int (Int32.ofInt 0), .int (zn (16 + k)), .ref 174]) (ykc_237 (e := (4, .goto 13, 114)) rfl) rfl ?_
                      have ev : zsv kd nn ff sp k = 0 := if_pos (by omega)
                      have ez : Int32.ofInt 0 = zn (zsv kd nn ff sp k) := by
                        rw [ev]
                        rfl
                      rw [ez]
                      show zW n D 237 Q 114 [some (.ref 170), some (.int kd), some (.int nn), some (.int ff), some (.int sp), some (.int (zBs (zsh v P kd nn ff sp) k)), some (.int (zsq ff sp k)), some (.int (zn k)), some (.int (zsq ff sp k))] [.int (zn (zsv kd nn ff sp k)), .int (zn (16 + k)), .ref 174] ph9
                      refine w_ias (pc' := 115) (k := 16 + k) (ykc_237 (e := (5, .iastore, 0)) rfl) (by omega) rfl (fun ph1247 u1246 => ?_)
                      refine w_load (pc' := 117) (v := .int (zBs (zsh v P kd nn ff sp) k)) (m := 2) (ykc_237 (e := (2, .iload 5, 0)) rfl) rfl rfl ?_
                      refine w_load (pc' := 118) (v := .ref 170) (m := 1) (ykc_237 (e := (2, .aload_n kF0, 0)) rfl) rfl rfl ?_
                      refine w_gf (pc' := 121) (v := .ref 174) (ykc_237 (e := (5, .getfield 41, 0)) rfl) rfl ((u1246.2.1 170 11 (fun q => absurd q.1 (by first | exact Nat.ne_of_beq_eq_false rfl | decide))).trans ((hf.1 170 11 (by first | exact zqm rfl | decide) (by first | exact zqp rfl | decide)).trans (zsg hS1 zs_170_11))) rfl ?_
                      refine w_push (pc' := 123) (v := .int ((Int8.ofInt 16).toInt32)) (m := 2) (ykc_237 (e := (1, .bipush 16, 0)) rfl) rfl rfl ?_
                      refine w_load (pc' := 125) (v := .int (zn k)) (m := 2) (ykc_237 (e := (2, .iload 7, 0)) rfl) rfl rfl ?_
                      have e1248 : ((Int8.ofInt 16).toInt32) + (zn k) = zn (16 + k) := (zaddN (a := 16) (b := k) c_2 (znt (by omega)) (by omega)) 
                      have te1248 := znt (k := 16 + k) (by omega)
                      refine w_alu (pc' := 126) (st' := [.int (zn (16 + k)), .ref 174, .int (zBs (zsh v P kd nn ff sp) k)]) (ykc_237 (e := (0, .iadd, 0)) rfl) (by rw [← e1248]; rfl) rfl ?_
                      refine w_ialk (pc' := 127) (k := 16 + k) (ykc_237 (e := (5, .iaload, 0)) rfl) u1246.1 (by omega) rfl ?_
                      refine w_alu (pc' := 128) (st' := [.int ((zBs (zsh v P kd nn ff sp) k) + (zn (zsv kd nn ff sp k)))]) (ykc_237 (e := (0, .iadd, 0)) rfl) rfl rfl ?_
                      refine w_store (pc' := 130) (L' := [some (.ref 170), some (.int kd), some (.int nn), some (.int ff), some (.int sp), some (.int ((zBs (zsh v P kd nn ff sp) k) + (zn (zsv kd nn ff sp k)))), some (.int (zsq ff sp k)), some (.int (zn k)), some (.int (zsq ff sp k))]) (st' := []) (m := 2) (ykc_237 (e := (3, .istore 5, 0)) rfl) rfl rfl ?_
                      refine w_load (pc' := 132) (v := .int (zsq ff sp k)) (m := 2) (ykc_237 (e := (2, .iload 6, 0)) rfl) rfl rfl ?_
                      refine w_load (pc' := 134) (v := .int sp) (m := 2) (ykc_237 (e := (2, .iload 4, 0)) rfl) rfl rfl ?_
                      refine w_alu (pc' := 135) (st' := [.int ((zsq ff sp k) + sp)]) (ykc_237 (e := (0, .iadd, 0)) rfl) rfl rfl ?_
                      refine w_store (pc' := 137) (L' := [some (.ref 170), some (.int kd), some (.int nn), some (.int ff), some (.int sp), some (.int ((zBs (zsh v P kd nn ff sp) k) + (zn (zsv kd nn ff sp k)))), some (.int ((zsq ff sp k) + sp)), some (.int (zn k)), some (.int (zsq ff sp k))]) (st' := []) (m := 2) (ykc_237 (e := (3, .istore 6, 0)) rfl) rfl rfl ?_
                      have e1249 : (zn k) + Int32.ofInt 1 = zn (k + 1) := (zaddN (a := k) (b := 1) (znt (by omega)) c_6 (by omega))
                      have te1249 := znt (k := k + 1) (by omega)
                      refine w_store (pc' := 140) (L' := [some (.ref 170), some (.int kd), some (.int nn), some (.int ff), some (.int sp), some (.int ((zBs (zsh v P kd nn ff sp) k) + (zn (zsv kd nn ff sp k)))), some (.int ((zsq ff sp k) + sp)), some (.int (zn (k + 1))), some (.int (zsq ff sp k))]) (st' := []) (m := 3) (ykc_237 (e := (3, .iinc 7 1, 0)) rfl) (by rw [← e1249]; rfl) rfl ?_
                      refine w_gb (ykc_237 (e := (4, .goto (-94), 46)) rfl) (fun k1250 hk1250 => ?_)
                      have h9 := ih k1250 hk1250 (k + 1) (some (.int (zsq ff sp k))) _ (by omega) (zFr_add hf u1246 (Or.inl (by first | exact zqi rfl | simp))) (fun i hi => by
                        by_cases e : i = k
                        · subst e
                          exact u1246.1
                        · exact (u1246.2.1 174 (16 + i) (fun q => e (by have q2 := q.2; omega))).trans (hr i (by omega))) (fun j hj => (u1246.2.1 174 j (fun q => by have q2 := q.2; omega)).trans (ho j (by omega)))
                      rw [show zBs (zsh v P kd nn ff sp) (k + 1) = zBs (zsh v P kd nn ff sp) k + zn (zsv kd nn ff sp k) by
                        show _ + zn (zsh v P kd nn ff sp (16 + k)) = _
                        rw [zsh_b (by omega)]] at h9
                      exact h9
                    · refine w_load (pc' := 96) (v := .int (zn k)) (m := 2) (ykc_237 (e := (2, .iload 7, 0)) rfl) rfl rfl ?_
                      refine w_load (pc' := 97) (v := .int nn) (m := 1) (ykc_237 (e := (2, .iload_n kF2, 0)) rfl) rfl rfl ?_
                      refine w_ilt (ykc_237 (e := (4, .if_icmp .lt 7, 104)) rfl) rfl (fun b1251 => ?_) (fun b1251 => ?_)
                      · refine w_alu (pc' := 105) (st' := [.int (Int32.ofInt 0), .int (zn (16 + k)), .ref 174]) (ykc_237 (e := (0, .iconst 0, 0)) rfl) rfl rfl ?_
                        refine w_alu (pc' := 106) (st' := [.int (Int32.ofInt 4), .int (Int32.ofInt 0), .int (zn (16 + k)), .ref 174]) (ykc_237 (e := (0, .iconst 4, 0)) rfl) rfl rfl ?_
                        refine w_load (pc' := 108) (v := .int (zsq ff sp k)) (m := 2) (ykc_237 (e := (2, .iload 8, 0)) rfl) rfl rfl ?_
                        obtain ⟨z1252, e_z1252⟩ : ∃ zq : Int32, (if (zsq ff sp k) < (Int32.ofInt 4) then (zsq ff sp k) else (Int32.ofInt 4)) = zq := ⟨_, rfl⟩
                        have h_z1252 := zminI e_z1252
                        refine w_mem1 (pc' := 111) (m := 3) (st' := [.int z1252, .int (Int32.ofInt 0), .int (zn (16 + k)), .ref 174]) (ph' := ph9) (ykc_237 (e := (5, .invokestatic 145, 0)) rfl) (by rw [← e_z1252]; rfl) rfl ?_
                        obtain ⟨z1253, e_z1253⟩ : ∃ zq : Int32, (if (Int32.ofInt 0) < z1252 then z1252 else (Int32.ofInt 0)) = zq := ⟨_, rfl⟩
                        have h_z1253 := zmaxI e_z1253
                        refine w_mem1 (pc' := 114) (m := 3) (st' := [.int z1253, .int (zn (16 + k)), .ref 174]) (ph' := ph9) (ykc_237 (e := (5, .invokestatic 273, 0)) rfl) (by rw [← e_z1253]; rfl) rfl ?_
                        have ev : zsv kd nn ff sp k = zq4 (zsck kd (zsq ff sp k)) := if_neg (by omega)
                        have ez : z1253 = zn (zsv kd nn ff sp k) := zn_of (by rw [ev, e9]; unfold zq4; omega)
                        rw [ez]
                        show zW n D 237 Q 114 [some (.ref 170), some (.int kd), some (.int nn), some (.int ff), some (.int sp), some (.int (zBs (zsh v P kd nn ff sp) k)), some (.int (zsq ff sp k)), some (.int (zn k)), some (.int (zsq ff sp k))] [.int (zn (zsv kd nn ff sp k)), .int (zn (16 + k)), .ref 174] ph9
                        refine w_ias (pc' := 115) (k := 16 + k) (ykc_237 (e := (5, .iastore, 0)) rfl) (by omega) rfl (fun ph1255 u1254 => ?_)
                        refine w_load (pc' := 117) (v := .int (zBs (zsh v P kd nn ff sp) k)) (m := 2) (ykc_237 (e := (2, .iload 5, 0)) rfl) rfl rfl ?_
                        refine w_load (pc' := 118) (v := .ref 170) (m := 1) (ykc_237 (e := (2, .aload_n kF0, 0)) rfl) rfl rfl ?_
                        refine w_gf (pc' := 121) (v := .ref 174) (ykc_237 (e := (5, .getfield 41, 0)) rfl) rfl ((u1254.2.1 170 11 (fun q => absurd q.1 (by first | exact Nat.ne_of_beq_eq_false rfl | decide))).trans ((hf.1 170 11 (by first | exact zqm rfl | decide) (by first | exact zqp rfl | decide)).trans (zsg hS1 zs_170_11))) rfl ?_
                        refine w_push (pc' := 123) (v := .int ((Int8.ofInt 16).toInt32)) (m := 2) (ykc_237 (e := (1, .bipush 16, 0)) rfl) rfl rfl ?_
                        refine w_load (pc' := 125) (v := .int (zn k)) (m := 2) (ykc_237 (e := (2, .iload 7, 0)) rfl) rfl rfl ?_
                        have e1256 : ((Int8.ofInt 16).toInt32) + (zn k) = zn (16 + k) := (zaddN (a := 16) (b := k) c_2 (znt (by omega)) (by omega)) 
                        have te1256 := znt (k := 16 + k) (by omega)
                        refine w_alu (pc' := 126) (st' := [.int (zn (16 + k)), .ref 174, .int (zBs (zsh v P kd nn ff sp) k)]) (ykc_237 (e := (0, .iadd, 0)) rfl) (by rw [← e1256]; rfl) rfl ?_
                        refine w_ialk (pc' := 127) (k := 16 + k) (ykc_237 (e := (5, .iaload, 0)) rfl) u1254.1 (by omega) rfl ?_
                        refine w_alu (pc' := 128) (st' := [.int ((zBs (zsh v P kd nn ff sp) k) + (zn (zsv kd nn ff sp k)))]) (ykc_237 (e := (0, .iadd, 0)) rfl) rfl rfl ?_
                        refine w_store (pc' := 130) (L' := [some (.ref 170), some (.int kd), some (.int nn), some (.int ff), some (.int sp), some (.int ((zBs (zsh v P kd nn ff sp) k) + (zn (zsv kd nn ff sp k)))), some (.int (zsq ff sp k)), some (.int (zn k)), some (.int (zsq ff sp k))]) (st' := []) (m := 2) (ykc_237 (e := (3, .istore 5, 0)) rfl) rfl rfl ?_
                        refine w_load (pc' := 132) (v := .int (zsq ff sp k)) (m := 2) (ykc_237 (e := (2, .iload 6, 0)) rfl) rfl rfl ?_
                        refine w_load (pc' := 134) (v := .int sp) (m := 2) (ykc_237 (e := (2, .iload 4, 0)) rfl) rfl rfl ?_
                        refine w_alu (pc' := 135) (st' := [.int ((zsq ff sp k) + sp)]) (ykc_237 (e := (0, .iadd, 0)) rfl) rfl rfl ?_
                        refine w_store (pc' := 137) (L' := [some (.ref 170), some (.int kd), some (.int nn), some (.int ff), some (.int sp), some (.int ((zBs (zsh v P kd nn ff sp) k) + (zn (zsv kd nn ff sp k)))), some (.int ((zsq ff sp k) + sp)), some (.int (zn k)), some (.int (zsq ff sp k))]) (st' := []) (m := 2) (ykc_237 (e := (3, .istore 6, 0)) rfl) rfl rfl ?_
                        have e1257 : (zn k) + Int32.ofInt 1 = zn (k + 1) := (zaddN (a := k) (b := 1) (znt (by omega)) c_6 (by omega))
                        have te1257 := znt (k := k + 1) (by omega)
                        refine w_store (pc' := 140) (L' := [some (.ref 170), some (.int kd), some (.int nn), some (.int ff), some (.int sp), some (.int ((zBs (zsh v P kd nn ff sp) k) + (zn (zsv kd nn ff sp k)))), some (.int ((zsq ff sp k) + sp)), some (.int (zn (k + 1))), some (.int (zsq ff sp k))]) (st' := []) (m := 3) (ykc_237 (e := (3, .iinc 7 1, 0)) rfl) (by rw [← e1257]; rfl) rfl ?_
                        refine w_gb (ykc_237 (e := (4, .goto (-94), 46)) rfl) (fun k1258 hk1258 => ?_)
                        have h9 := ih k1258 hk1258 (k + 1) (some (.int (zsq ff sp k))) _ (by omega) (zFr_add hf u1254 (Or.inl (by first | exact zqi rfl | simp))) (fun i hi => by
                          by_cases e : i = k
                          · subst e
                            exact u1254.1
                          · exact (u1254.2.1 174 (16 + i) (fun q => e (by have q2 := q.2; omega))).trans (hr i (by omega))) (fun j hj => (u1254.2.1 174 j (fun q => by have q2 := q.2; omega)).trans (ho j (by omega)))
                        rw [show zBs (zsh v P kd nn ff sp) (k + 1) = zBs (zsh v P kd nn ff sp) k + zn (zsv kd nn ff sp k) by
                          show _ + zn (zsh v P kd nn ff sp (16 + k)) = _
                          rw [zsh_b (by omega)]] at h9
                        exact h9
                      · refine w_alu (pc' := 101) (st' := [.int (Int32.ofInt 0), .int (zn (16 + k)), .ref 174]) (ykc_237 (e := (0, .iconst 0, 0)) rfl) rfl rfl ?_
                        refine w_br (pc' := 114) (st' := [.int (Int32.ofInt 0), .int (zn (16 + k)), .ref 174]) (ykc_237 (e := (4, .goto 13, 114)) rfl) rfl ?_
                        have ev : zsv kd nn ff sp k = 0 := if_pos (by omega)
                        have ez : Int32.ofInt 0 = zn (zsv kd nn ff sp k) := by
                          rw [ev]
                          rfl
                        rw [ez]
                        show zW n D 237 Q 114 [some (.ref 170), some (.int kd), some (.int nn), some (.int ff), some (.int sp), some (.int (zBs (zsh v P kd nn ff sp) k)), some (.int (zsq ff sp k)), some (.int (zn k)), some (.int (zsq ff sp k))] [.int (zn (zsv kd nn ff sp k)), .int (zn (16 + k)), .ref 174] ph9
                        refine w_ias (pc' := 115) (k := 16 + k) (ykc_237 (e := (5, .iastore, 0)) rfl) (by omega) rfl (fun ph1260 u1259 => ?_)
                        refine w_load (pc' := 117) (v := .int (zBs (zsh v P kd nn ff sp) k)) (m := 2) (ykc_237 (e := (2, .iload 5, 0)) rfl) rfl rfl ?_
                        refine w_load (pc' := 118) (v := .ref 170) (m := 1) (ykc_237 (e := (2, .aload_n kF0, 0)) rfl) rfl rfl ?_
                        refine w_gf (pc' := 121) (v := .ref 174) (ykc_237 (e := (5, .getfield 41, 0)) rfl) rfl ((u1259.2.1 170 11 (fun q => absurd q.1 (by first | exact Nat.ne_of_beq_eq_false rfl | decide))).trans ((hf.1 170 11 (by first | exact zqm rfl | decide) (by first | exact zqp rfl | decide)).trans (zsg hS1 zs_170_11))) rfl ?_
                        refine w_push (pc' := 123) (v := .int ((Int8.ofInt 16).toInt32)) (m := 2) (ykc_237 (e := (1, .bipush 16, 0)) rfl) rfl rfl ?_
                        refine w_load (pc' := 125) (v := .int (zn k)) (m := 2) (ykc_237 (e := (2, .iload 7, 0)) rfl) rfl rfl ?_
                        have e1261 : ((Int8.ofInt 16).toInt32) + (zn k) = zn (16 + k) := (zaddN (a := 16) (b := k) c_2 (znt (by omega)) (by omega)) 
                        have te1261 := znt (k := 16 + k) (by omega)
                        refine w_alu (pc' := 126) (st' := [.int (zn (16 + k)), .ref 174, .int (zBs (zsh v P kd nn ff sp) k)]) (ykc_237 (e := (0, .iadd, 0)) rfl) (by rw [← e1261]; rfl) rfl ?_
                        refine w_ialk (pc' := 127) (k := 16 + k) (ykc_237 (e := (5, .iaload, 0)) rfl) u1259.1 (by omega) rfl ?_
                        refine w_alu (pc' := 128) (st' := [.int ((zBs (zsh v P kd nn ff sp) k) + (zn (zsv kd nn ff sp k)))]) (ykc_237 (e := (0, .iadd, 0)) rfl) rfl rfl ?_
                        refine w_store (pc' := 130) (L' := [some (.ref 170), some (.int kd), some (.int nn), some (.int ff), some (.int sp), some (.int ((zBs (zsh v P kd nn ff sp) k) + (zn (zsv kd nn ff sp k)))), some (.int (zsq ff sp k)), some (.int (zn k)), some (.int (zsq ff sp k))]) (st' := []) (m := 2) (ykc_237 (e := (3, .istore 5, 0)) rfl) rfl rfl ?_
                        refine w_load (pc' := 132) (v := .int (zsq ff sp k)) (m := 2) (ykc_237 (e := (2, .iload 6, 0)) rfl) rfl rfl ?_
                        refine w_load (pc' := 134) (v := .int sp) (m := 2) (ykc_237 (e := (2, .iload 4, 0)) rfl) rfl rfl ?_
                        refine w_alu (pc' := 135) (st' := [.int ((zsq ff sp k) + sp)]) (ykc_237 (e := (0, .iadd, 0)) rfl) rfl rfl ?_
                        refine w_store (pc' := 137) (L' := [some (.ref 170), some (.int kd), some (.int nn), some (.int ff), some (.int sp), some (.int ((zBs (zsh v P kd nn ff sp) k) + (zn (zsv kd nn ff sp k)))), some (.int ((zsq ff sp k) + sp)), some (.int (zn k)), some (.int (zsq ff sp k))]) (st' := []) (m := 2) (ykc_237 (e := (3, .istore 6, 0)) rfl) rfl rfl ?_
                        have e1262 : (zn k) + Int32.ofInt 1 = zn (k + 1) := (zaddN (a := k) (b := 1) (znt (by omega)) c_6 (by omega))
                        have te1262 := znt (k := k + 1) (by omega)
                        refine w_store (pc' := 140) (L' := [some (.ref 170), some (.int kd), some (.int nn), some (.int ff), some (.int sp), some (.int ((zBs (zsh v P kd nn ff sp) k) + (zn (zsv kd nn ff sp k)))), some (.int ((zsq ff sp k) + sp)), some (.int (zn (k + 1))), some (.int (zsq ff sp k))]) (st' := []) (m := 3) (ykc_237 (e := (3, .iinc 7 1, 0)) rfl) (by rw [← e1262]; rfl) rfl ?_
                        refine w_gb (ykc_237 (e := (4, .goto (-94), 46)) rfl) (fun k1263 hk1263 => ?_)
                        have h9 := ih k1263 hk1263 (k + 1) (some (.int (zsq ff sp k))) _ (by omega) (zFr_add hf u1259 (Or.inl (by first | exact zqi rfl | simp))) (fun i hi => by
                          by_cases e : i = k
                          · subst e
                            exact u1259.1
                          · exact (u1259.2.1 174 (16 + i) (fun q => e (by have q2 := q.2; omega))).trans (hr i (by omega))) (fun j hj => (u1259.2.1 174 j (fun q => by have q2 := q.2; omega)).trans (ho j (by omega)))
                        rw [show zBs (zsh v P kd nn ff sp) (k + 1) = zBs (zsh v P kd nn ff sp) k + zn (zsv kd nn ff sp k) by
                          show _ + zn (zsh v P kd nn ff sp (16 + k)) = _
                          rw [zsh_b (by omega)]] at h9
                        exact h9
                  · refine w_load (pc' := 72) (v := .int (zsq ff sp k)) (m := 2) (ykc_237 (e := (2, .iload 6, 0)) rfl) rfl rfl ?_
                    obtain ⟨z1264, e_z1264, h_z1264⟩ : ∃ zq : Int32, (zsq ff sp k).toInt16.toInt32 = zq ∧ zq.toInt = ((zsq ff sp k).toInt16.toInt32).toInt := ⟨_, rfl, rfl⟩
                    refine w_alu (pc' := 73) (st' := [.int z1264]) (ykc_237 (e := (0, .i2s, 0)) rfl) (by rw [← e_z1264]; rfl) rfl ?_
                    refine w_br (pc' := 78) (st' := [.int z1264]) (ykc_237 (e := (4, .goto 5, 78)) rfl) rfl ?_
                    refine w_store (pc' := 80) (L' := [some (.ref 170), some (.int kd), some (.int nn), some (.int ff), some (.int sp), some (.int (zBs (zsh v P kd nn ff sp) k)), some (.int (zsq ff sp k)), some (.int (zn k)), some (.int z1264)]) (st' := []) (m := 2) (ykc_237 (e := (3, .istore 8, 0)) rfl) rfl rfl ?_
                    have e9 : zsck kd (zsq ff sp k) = (zsq ff sp k).toInt16.toInt32 := (by
                      unfold zsck
                      rw [if_neg (by omega), if_pos (by omega)])
                    refine w_load (pc' := 81) (v := .ref 170) (m := 1) (ykc_237 (e := (2, .aload_n kF0, 0)) rfl) rfl rfl ?_
                    refine w_gf (pc' := 84) (v := .ref 174) (ykc_237 (e := (5, .getfield 41, 0)) rfl) rfl ((hf.1 170 11 (by first | exact zqm rfl | decide) (by first | exact zqp rfl | decide)).trans (zsg hS1 zs_170_11)) rfl ?_
                    refine w_push (pc' := 86) (v := .int ((Int8.ofInt 16).toInt32)) (m := 2) (ykc_237 (e := (1, .bipush 16, 0)) rfl) rfl rfl ?_
                    refine w_load (pc' := 88) (v := .int (zn k)) (m := 2) (ykc_237 (e := (2, .iload 7, 0)) rfl) rfl rfl ?_
                    have e1265 : ((Int8.ofInt 16).toInt32) + (zn k) = zn (16 + k) := (zaddN (a := 16) (b := k) c_2 (znt (by omega)) (by omega)) 
                    have te1265 := znt (k := 16 + k) (by omega)
                    refine w_alu (pc' := 89) (st' := [.int (zn (16 + k)), .ref 174]) (ykc_237 (e := (0, .iadd, 0)) rfl) (by rw [← e1265]; rfl) rfl ?_
                    refine w_load (pc' := 90) (v := .int kd) (m := 1) (ykc_237 (e := (2, .iload_n kF1, 0)) rfl) rfl rfl ?_
                    refine w_alu (pc' := 91) (st' := [.int (Int32.ofInt 3), .int kd, .int (zn (16 + k)), .ref 174]) (ykc_237 (e := (0, .iconst 3, 0)) rfl) rfl rfl ?_
                    refine w_ieq (ykc_237 (e := (4, .if_icmp .eq 9, 100)) rfl) rfl (fun b1266 => ?_) (fun b1266 => ?_)
                    · refine w_alu (pc' := 101) (st' := [.int (Int32.ofInt 0), .int (zn (16 + k)), .ref 174]) (ykc_237 (e := (0, .iconst 0, 0)) rfl) rfl rfl ?_
                      refine w_br (pc' := 114) (st' := [.int (Int32.ofInt 0), .int (zn (16 + k)), .ref 174]) (ykc_237 (e := (4, .goto 13, 114)) rfl) rfl ?_
                      have ev : zsv kd nn ff sp k = 0 := if_pos (by omega)
                      have ez : Int32.ofInt 0 = zn (zsv kd nn ff sp k) := by
                        rw [ev]
                        rfl
                      rw [ez]
                      show zW n D 237 Q 114 [some (.ref 170), some (.int kd), some (.int nn), some (.int ff), some (.int sp), some (.int (zBs (zsh v P kd nn ff sp) k)), some (.int (zsq ff sp k)), some (.int (zn k)), some (.int z1264)] [.int (zn (zsv kd nn ff sp k)), .int (zn (16 + k)), .ref 174] ph9
                      refine w_ias (pc' := 115) (k := 16 + k) (ykc_237 (e := (5, .iastore, 0)) rfl) (by omega) rfl (fun ph1268 u1267 => ?_)
                      refine w_load (pc' := 117) (v := .int (zBs (zsh v P kd nn ff sp) k)) (m := 2) (ykc_237 (e := (2, .iload 5, 0)) rfl) rfl rfl ?_
                      refine w_load (pc' := 118) (v := .ref 170) (m := 1) (ykc_237 (e := (2, .aload_n kF0, 0)) rfl) rfl rfl ?_
                      refine w_gf (pc' := 121) (v := .ref 174) (ykc_237 (e := (5, .getfield 41, 0)) rfl) rfl ((u1267.2.1 170 11 (fun q => absurd q.1 (by first | exact Nat.ne_of_beq_eq_false rfl | decide))).trans ((hf.1 170 11 (by first | exact zqm rfl | decide) (by first | exact zqp rfl | decide)).trans (zsg hS1 zs_170_11))) rfl ?_
                      refine w_push (pc' := 123) (v := .int ((Int8.ofInt 16).toInt32)) (m := 2) (ykc_237 (e := (1, .bipush 16, 0)) rfl) rfl rfl ?_
                      refine w_load (pc' := 125) (v := .int (zn k)) (m := 2) (ykc_237 (e := (2, .iload 7, 0)) rfl) rfl rfl ?_
                      have e1269 : ((Int8.ofInt 16).toInt32) + (zn k) = zn (16 + k) := (zaddN (a := 16) (b := k) c_2 (znt (by omega)) (by omega)) 
                      have te1269 := znt (k := 16 + k) (by omega)
                      refine w_alu (pc' := 126) (st' := [.int (zn (16 + k)), .ref 174, .int (zBs (zsh v P kd nn ff sp) k)]) (ykc_237 (e := (0, .iadd, 0)) rfl) (by rw [← e1269]; rfl) rfl ?_
                      refine w_ialk (pc' := 127) (k := 16 + k) (ykc_237 (e := (5, .iaload, 0)) rfl) u1267.1 (by omega) rfl ?_
                      refine w_alu (pc' := 128) (st' := [.int ((zBs (zsh v P kd nn ff sp) k) + (zn (zsv kd nn ff sp k)))]) (ykc_237 (e := (0, .iadd, 0)) rfl) rfl rfl ?_
                      refine w_store (pc' := 130) (L' := [some (.ref 170), some (.int kd), some (.int nn), some (.int ff), some (.int sp), some (.int ((zBs (zsh v P kd nn ff sp) k) + (zn (zsv kd nn ff sp k)))), some (.int (zsq ff sp k)), some (.int (zn k)), some (.int z1264)]) (st' := []) (m := 2) (ykc_237 (e := (3, .istore 5, 0)) rfl) rfl rfl ?_
                      refine w_load (pc' := 132) (v := .int (zsq ff sp k)) (m := 2) (ykc_237 (e := (2, .iload 6, 0)) rfl) rfl rfl ?_
                      refine w_load (pc' := 134) (v := .int sp) (m := 2) (ykc_237 (e := (2, .iload 4, 0)) rfl) rfl rfl ?_
                      refine w_alu (pc' := 135) (st' := [.int ((zsq ff sp k) + sp)]) (ykc_237 (e := (0, .iadd, 0)) rfl) rfl rfl ?_
                      refine w_store (pc' := 137) (L' := [some (.ref 170), some (.int kd), some (.int nn), some (.int ff), some (.int sp), some (.int ((zBs (zsh v P kd nn ff sp) k) + (zn (zsv kd nn ff sp k)))), some (.int ((zsq ff sp k) + sp)), some (.int (zn k)), some (.int z1264)]) (st' := []) (m := 2) (ykc_237 (e := (3, .istore 6, 0)) rfl) rfl rfl ?_
                      have e1270 : (zn k) + Int32.ofInt 1 = zn (k + 1) := (zaddN (a := k) (b := 1) (znt (by omega)) c_6 (by omega))
                      have te1270 := znt (k := k + 1) (by omega)
                      refine w_store (pc' := 140) (L' := [some (.ref 170), some (.int kd), some (.int nn), some (.int ff), some (.int sp), some (.int ((zBs (zsh v P kd nn ff sp) k) + (zn (zsv kd nn ff sp k)))), some (.int ((zsq ff sp k) + sp)), some (.int (zn (k + 1))), some (.int z1264)]) (st' := []) (m := 3) (ykc_237 (e := (3, .iinc 7 1, 0)) rfl) (by rw [← e1270]; rfl) rfl ?_
                      refine w_gb (ykc_237 (e := (4, .goto (-94), 46)) rfl) (fun k1271 hk1271 => ?_)
                      have h9 := ih k1271 hk1271 (k + 1) (some (.int z1264)) _ (by omega) (zFr_add hf u1267 (Or.inl (by first | exact zqi rfl | simp))) (fun i hi => by
                        by_cases e : i = k
                        · subst e
                          exact u1267.1
                        · exact (u1267.2.1 174 (16 + i) (fun q => e (by have q2 := q.2; omega))).trans (hr i (by omega))) (fun j hj => (u1267.2.1 174 j (fun q => by have q2 := q.2; omega)).trans (ho j (by omega)))
                      rw [show zBs (zsh v P kd nn ff sp) (k + 1) = zBs (zsh v P kd nn ff sp) k + zn (zsv kd nn ff sp k) by
                        show _ + zn (zsh v P kd nn ff sp (16 + k)) = _
                        rw [zsh_b (by omega)]] at h9
                      exact h9
                    · refine w_load (pc' := 96) (v := .int (zn k)) (m := 2) (ykc_237 (e := (2, .iload 7, 0)) rfl) rfl rfl ?_
                      refine w_load (pc' := 97) (v := .int nn) (m := 1) (ykc_237 (e := (2, .iload_n kF2, 0)) rfl) rfl rfl ?_
                      refine w_ilt (ykc_237 (e := (4, .if_icmp .lt 7, 104)) rfl) rfl (fun b1272 => ?_) (fun b1272 => ?_)
                      · refine w_alu (pc' := 105) (st' := [.int (Int32.ofInt 0), .int (zn (16 + k)), .ref 174]) (ykc_237 (e := (0, .iconst 0, 0)) rfl) rfl rfl ?_
                        refine w_alu (pc' := 106) (st' := [.int (Int32.ofInt 4), .int (Int32.ofInt 0), .int (zn (16 + k)), .ref 174]) (ykc_237 (e := (0, .iconst 4, 0)) rfl) rfl rfl ?_
                        refine w_load (pc' := 108) (v := .int z1264) (m := 2) (ykc_237 (e := (2, .iload 8, 0)) rfl) rfl rfl ?_
                        obtain ⟨z1273, e_z1273⟩ : ∃ zq : Int32, (if z1264 < (Int32.ofInt 4) then z1264 else (Int32.ofInt 4)) = zq := ⟨_, rfl⟩
                        have h_z1273 := zminI e_z1273
                        refine w_mem1 (pc' := 111) (m := 3) (st' := [.int z1273, .int (Int32.ofInt 0), .int (zn (16 + k)), .ref 174]) (ph' := ph9) (ykc_237 (e := (5, .invokestatic 145, 0)) rfl) (by rw [← e_z1273]; rfl) rfl ?_
                        obtain ⟨z1274, e_z1274⟩ : ∃ zq : Int32, (if (Int32.ofInt 0) < z1273 then z1273 else (Int32.ofInt 0)) = zq := ⟨_, rfl⟩
                        have h_z1274 := zmaxI e_z1274
                        refine w_mem1 (pc' := 114) (m := 3) (st' := [.int z1274, .int (zn (16 + k)), .ref 174]) (ph' := ph9) (ykc_237 (e := (5, .invokestatic 273, 0)) rfl) (by rw [← e_z1274]; rfl) rfl ?_
                        have ev : zsv kd nn ff sp k = zq4 (zsck kd (zsq ff sp k)) := if_neg (by omega)
                        have ez : z1274 = zn (zsv kd nn ff sp k) := zn_of (by rw [ev, e9]; unfold zq4; omega)
                        rw [ez]
                        show zW n D 237 Q 114 [some (.ref 170), some (.int kd), some (.int nn), some (.int ff), some (.int sp), some (.int (zBs (zsh v P kd nn ff sp) k)), some (.int (zsq ff sp k)), some (.int (zn k)), some (.int z1264)] [.int (zn (zsv kd nn ff sp k)), .int (zn (16 + k)), .ref 174] ph9
                        refine w_ias (pc' := 115) (k := 16 + k) (ykc_237 (e := (5, .iastore, 0)) rfl) (by omega) rfl (fun ph1276 u1275 => ?_)
                        refine w_load (pc' := 117) (v := .int (zBs (zsh v P kd nn ff sp) k)) (m := 2) (ykc_237 (e := (2, .iload 5, 0)) rfl) rfl rfl ?_
                        refine w_load (pc' := 118) (v := .ref 170) (m := 1) (ykc_237 (e := (2, .aload_n kF0, 0)) rfl) rfl rfl ?_
                        refine w_gf (pc' := 121) (v := .ref 174) (ykc_237 (e := (5, .getfield 41, 0)) rfl) rfl ((u1275.2.1 170 11 (fun q => absurd q.1 (by first | exact Nat.ne_of_beq_eq_false rfl | decide))).trans ((hf.1 170 11 (by first | exact zqm rfl | decide) (by first | exact zqp rfl | decide)).trans (zsg hS1 zs_170_11))) rfl ?_
                        refine w_push (pc' := 123) (v := .int ((Int8.ofInt 16).toInt32)) (m := 2) (ykc_237 (e := (1, .bipush 16, 0)) rfl) rfl rfl ?_
                        refine w_load (pc' := 125) (v := .int (zn k)) (m := 2) (ykc_237 (e := (2, .iload 7, 0)) rfl) rfl rfl ?_
                        have e1277 : ((Int8.ofInt 16).toInt32) + (zn k) = zn (16 + k) := (zaddN (a := 16) (b := k) c_2 (znt (by omega)) (by omega)) 
                        have te1277 := znt (k := 16 + k) (by omega)
                        refine w_alu (pc' := 126) (st' := [.int (zn (16 + k)), .ref 174, .int (zBs (zsh v P kd nn ff sp) k)]) (ykc_237 (e := (0, .iadd, 0)) rfl) (by rw [← e1277]; rfl) rfl ?_
                        refine w_ialk (pc' := 127) (k := 16 + k) (ykc_237 (e := (5, .iaload, 0)) rfl) u1275.1 (by omega) rfl ?_
                        refine w_alu (pc' := 128) (st' := [.int ((zBs (zsh v P kd nn ff sp) k) + (zn (zsv kd nn ff sp k)))]) (ykc_237 (e := (0, .iadd, 0)) rfl) rfl rfl ?_
                        refine w_store (pc' := 130) (L' := [some (.ref 170), some (.int kd), some (.int nn), some (.int ff), some (.int sp), some (.int ((zBs (zsh v P kd nn ff sp) k) + (zn (zsv kd nn ff sp k)))), some (.int (zsq ff sp k)), some (.int (zn k)), some (.int z1264)]) (st' := []) (m := 2) (ykc_237 (e := (3, .istore 5, 0)) rfl) rfl rfl ?_
                        refine w_load (pc' := 132) (v := .int (zsq ff sp k)) (m := 2) (ykc_237 (e := (2, .iload 6, 0)) rfl) rfl rfl ?_
                        refine w_load (pc' := 134) (v := .int sp) (m := 2) (ykc_237 (e := (2, .iload 4, 0)) rfl) rfl rfl ?_
                        refine w_alu (pc' := 135) (st' := [.int ((zsq ff sp k) + sp)]) (ykc_237 (e := (0, .iadd, 0)) rfl) rfl rfl ?_
                        refine w_store (pc' := 137) (L' := [some (.ref 170), some (.int kd), some (.int nn), some (.int ff), some (.int sp), some (.int ((zBs (zsh v P kd nn ff sp) k) + (zn (zsv kd nn ff sp k)))), some (.int ((zsq ff sp k) + sp)), some (.int (zn k)), some (.int z1264)]) (st' := []) (m := 2) (ykc_237 (e := (3, .istore 6, 0)) rfl) rfl rfl ?_
                        have e1278 : (zn k) + Int32.ofInt 1 = zn (k + 1) := (zaddN (a := k) (b := 1) (znt (by omega)) c_6 (by omega))
                        have te1278 := znt (k := k + 1) (by omega)
                        refine w_store (pc' := 140) (L' := [some (.ref 170), some (.int kd), some (.int nn), some (.int ff), some (.int sp), some (.int ((zBs (zsh v P kd nn ff sp) k) + (zn (zsv kd nn ff sp k)))), some (.int ((zsq ff sp k) + sp)), some (.int (zn (k + 1))), some (.int z1264)]) (st' := []) (m := 3) (ykc_237 (e := (3, .iinc 7 1, 0)) rfl) (by rw [← e1278]; rfl) rfl ?_
                        refine w_gb (ykc_237 (e := (4, .goto (-94), 46)) rfl) (fun k1279 hk1279 => ?_)
                        have h9 := ih k1279 hk1279 (k + 1) (some (.int z1264)) _ (by omega) (zFr_add hf u1275 (Or.inl (by first | exact zqi rfl | simp))) (fun i hi => by
                          by_cases e : i = k
                          · subst e
                            exact u1275.1
                          · exact (u1275.2.1 174 (16 + i) (fun q => e (by have q2 := q.2; omega))).trans (hr i (by omega))) (fun j hj => (u1275.2.1 174 j (fun q => by have q2 := q.2; omega)).trans (ho j (by omega)))
                        rw [show zBs (zsh v P kd nn ff sp) (k + 1) = zBs (zsh v P kd nn ff sp) k + zn (zsv kd nn ff sp k) by
                          show _ + zn (zsh v P kd nn ff sp (16 + k)) = _
                          rw [zsh_b (by omega)]] at h9
                        exact h9
                      · refine w_alu (pc' := 101) (st' := [.int (Int32.ofInt 0), .int (zn (16 + k)), .ref 174]) (ykc_237 (e := (0, .iconst 0, 0)) rfl) rfl rfl ?_
                        refine w_br (pc' := 114) (st' := [.int (Int32.ofInt 0), .int (zn (16 + k)), .ref 174]) (ykc_237 (e := (4, .goto 13, 114)) rfl) rfl ?_
                        have ev : zsv kd nn ff sp k = 0 := if_pos (by omega)
                        have ez : Int32.ofInt 0 = zn (zsv kd nn ff sp k) := by
                          rw [ev]
                          rfl
                        rw [ez]
                        show zW n D 237 Q 114 [some (.ref 170), some (.int kd), some (.int nn), some (.int ff), some (.int sp), some (.int (zBs (zsh v P kd nn ff sp) k)), some (.int (zsq ff sp k)), some (.int (zn k)), some (.int z1264)] [.int (zn (zsv kd nn ff sp k)), .int (zn (16 + k)), .ref 174] ph9
                        refine w_ias (pc' := 115) (k := 16 + k) (ykc_237 (e := (5, .iastore, 0)) rfl) (by omega) rfl (fun ph1281 u1280 => ?_)
                        refine w_load (pc' := 117) (v := .int (zBs (zsh v P kd nn ff sp) k)) (m := 2) (ykc_237 (e := (2, .iload 5, 0)) rfl) rfl rfl ?_
                        refine w_load (pc' := 118) (v := .ref 170) (m := 1) (ykc_237 (e := (2, .aload_n kF0, 0)) rfl) rfl rfl ?_
                        refine w_gf (pc' := 121) (v := .ref 174) (ykc_237 (e := (5, .getfield 41, 0)) rfl) rfl ((u1280.2.1 170 11 (fun q => absurd q.1 (by first | exact Nat.ne_of_beq_eq_false rfl | decide))).trans ((hf.1 170 11 (by first | exact zqm rfl | decide) (by first | exact zqp rfl | decide)).trans (zsg hS1 zs_170_11))) rfl ?_
                        refine w_push (pc' := 123) (v := .int ((Int8.ofInt 16).toInt32)) (m := 2) (ykc_237 (e := (1, .bipush 16, 0)) rfl) rfl rfl ?_
                        refine w_load (pc' := 125) (v := .int (zn k)) (m := 2) (ykc_237 (e := (2, .iload 7, 0)) rfl) rfl rfl ?_
                        have e1282 : ((Int8.ofInt 16).toInt32) + (zn k) = zn (16 + k) := (zaddN (a := 16) (b := k) c_2 (znt (by omega)) (by omega)) 
                        have te1282 := znt (k := 16 + k) (by omega)
                        refine w_alu (pc' := 126) (st' := [.int (zn (16 + k)), .ref 174, .int (zBs (zsh v P kd nn ff sp) k)]) (ykc_237 (e := (0, .iadd, 0)) rfl) (by rw [← e1282]; rfl) rfl ?_
                        refine w_ialk (pc' := 127) (k := 16 + k) (ykc_237 (e := (5, .iaload, 0)) rfl) u1280.1 (by omega) rfl ?_
                        refine w_alu (pc' := 128) (st' := [.int ((zBs (zsh v P kd nn ff sp) k) + (zn (zsv kd nn ff sp k)))]) (ykc_237 (e := (0, .iadd, 0)) rfl) rfl rfl ?_
                        refine w_store (pc' := 130) (L' := [some (.ref 170), some (.int kd), some (.int nn), some (.int ff), some (.int sp), some (.int ((zBs (zsh v P kd nn ff sp) k) + (zn (zsv kd nn ff sp k)))), some (.int (zsq ff sp k)), some (.int (zn k)), some (.int z1264)]) (st' := []) (m := 2) (ykc_237 (e := (3, .istore 5, 0)) rfl) rfl rfl ?_
                        refine w_load (pc' := 132) (v := .int (zsq ff sp k)) (m := 2) (ykc_237 (e := (2, .iload 6, 0)) rfl) rfl rfl ?_
                        refine w_load (pc' := 134) (v := .int sp) (m := 2) (ykc_237 (e := (2, .iload 4, 0)) rfl) rfl rfl ?_
                        refine w_alu (pc' := 135) (st' := [.int ((zsq ff sp k) + sp)]) (ykc_237 (e := (0, .iadd, 0)) rfl) rfl rfl ?_
                        refine w_store (pc' := 137) (L' := [some (.ref 170), some (.int kd), some (.int nn), some (.int ff), some (.int sp), some (.int ((zBs (zsh v P kd nn ff sp) k) + (zn (zsv kd nn ff sp k)))), some (.int ((zsq ff sp k) + sp)), some (.int (zn k)), some (.int z1264)]) (st' := []) (m := 2) (ykc_237 (e := (3, .istore 6, 0)) rfl) rfl rfl ?_
                        have e1283 : (zn k) + Int32.ofInt 1 = zn (k + 1) := (zaddN (a := k) (b := 1) (znt (by omega)) c_6 (by omega))
                        have te1283 := znt (k := k + 1) (by omega)
                        refine w_store (pc' := 140) (L' := [some (.ref 170), some (.int kd), some (.int nn), some (.int ff), some (.int sp), some (.int ((zBs (zsh v P kd nn ff sp) k) + (zn (zsv kd nn ff sp k)))), some (.int ((zsq ff sp k) + sp)), some (.int (zn (k + 1))), some (.int z1264)]) (st' := []) (m := 3) (ykc_237 (e := (3, .iinc 7 1, 0)) rfl) (by rw [← e1283]; rfl) rfl ?_
                        refine w_gb (ykc_237 (e := (4, .goto (-94), 46)) rfl) (fun k1284 hk1284 => ?_)
                        have h9 := ih k1284 hk1284 (k + 1) (some (.int z1264)) _ (by omega) (zFr_add hf u1280 (Or.inl (by first | exact zqi rfl | simp))) (fun i hi => by
                          by_cases e : i = k
                          · subst e
                            exact u1280.1
                          · exact (u1280.2.1 174 (16 + i) (fun q => e (by have q2 := q.2; omega))).trans (hr i (by omega))) (fun j hj => (u1280.2.1 174 j (fun q => by have q2 := q.2; omega)).trans (ho j (by omega)))
                        rw [show zBs (zsh v P kd nn ff sp) (k + 1) = zBs (zsh v P kd nn ff sp) k + zn (zsv kd nn ff sp k) by
                          show _ + zn (zsh v P kd nn ff sp (16 + k)) = _
                          rw [zsh_b (by omega)]] at h9
                        exact h9
                · refine w_load (pc' := 61) (v := .int (zsq ff sp k)) (m := 2) (ykc_237 (e := (2, .iload 6, 0)) rfl) rfl rfl ?_
                  obtain ⟨z1285, e_z1285, h_z1285⟩ : ∃ zq : Int32, (zsq ff sp k).toInt8.toInt32 = zq ∧ zq.toInt = ((zsq ff sp k).toInt8.toInt32).toInt := ⟨_, rfl, rfl⟩
                  refine w_alu (pc' := 62) (st' := [.int z1285]) (ykc_237 (e := (0, .i2b, 0)) rfl) (by rw [← e_z1285]; rfl) rfl ?_
                  refine w_br (pc' := 78) (st' := [.int z1285]) (ykc_237 (e := (4, .goto 16, 78)) rfl) rfl ?_
                  refine w_store (pc' := 80) (L' := [some (.ref 170), some (.int kd), some (.int nn), some (.int ff), some (.int sp), some (.int (zBs (zsh v P kd nn ff sp) k)), some (.int (zsq ff sp k)), some (.int (zn k)), some (.int z1285)]) (st' := []) (m := 2) (ykc_237 (e := (3, .istore 8, 0)) rfl) rfl rfl ?_
                  have e9 : zsck kd (zsq ff sp k) = (zsq ff sp k).toInt8.toInt32 := if_pos (by omega)
                  refine w_load (pc' := 81) (v := .ref 170) (m := 1) (ykc_237 (e := (2, .aload_n kF0, 0)) rfl) rfl rfl ?_
                  refine w_gf (pc' := 84) (v := .ref 174) (ykc_237 (e := (5, .getfield 41, 0)) rfl) rfl ((hf.1 170 11 (by first | exact zqm rfl | decide) (by first | exact zqp rfl | decide)).trans (zsg hS1 zs_170_11)) rfl ?_
                  refine w_push (pc' := 86) (v := .int ((Int8.ofInt 16).toInt32)) (m := 2) (ykc_237 (e := (1, .bipush 16, 0)) rfl) rfl rfl ?_
                  refine w_load (pc' := 88) (v := .int (zn k)) (m := 2) (ykc_237 (e := (2, .iload 7, 0)) rfl) rfl rfl ?_
                  have e1286 : ((Int8.ofInt 16).toInt32) + (zn k) = zn (16 + k) := (zaddN (a := 16) (b := k) c_2 (znt (by omega)) (by omega)) 
                  have te1286 := znt (k := 16 + k) (by omega)
                  refine w_alu (pc' := 89) (st' := [.int (zn (16 + k)), .ref 174]) (ykc_237 (e := (0, .iadd, 0)) rfl) (by rw [← e1286]; rfl) rfl ?_
                  refine w_load (pc' := 90) (v := .int kd) (m := 1) (ykc_237 (e := (2, .iload_n kF1, 0)) rfl) rfl rfl ?_
                  refine w_alu (pc' := 91) (st' := [.int (Int32.ofInt 3), .int kd, .int (zn (16 + k)), .ref 174]) (ykc_237 (e := (0, .iconst 3, 0)) rfl) rfl rfl ?_
                  refine w_ieq (ykc_237 (e := (4, .if_icmp .eq 9, 100)) rfl) rfl (fun b1287 => ?_) (fun b1287 => ?_)
                  · refine w_alu (pc' := 101) (st' := [.int (Int32.ofInt 0), .int (zn (16 + k)), .ref 174]) (ykc_237 (e := (0, .iconst 0, 0)) rfl) rfl rfl ?_
                    refine w_br (pc' := 114) (st' := [.int (Int32.ofInt 0), .int (zn (16 + k)), .ref 174]) (ykc_237 (e := (4, .goto 13, 114)) rfl) rfl ?_
                    have ev : zsv kd nn ff sp k = 0 := if_pos (by omega)
                    have ez : Int32.ofInt 0 = zn (zsv kd nn ff sp k) := by
                      rw [ev]
                      rfl
                    rw [ez]
                    show zW n D 237 Q 114 [some (.ref 170), some (.int kd), some (.int nn), some (.int ff), some (.int sp), some (.int (zBs (zsh v P kd nn ff sp) k)), some (.int (zsq ff sp k)), some (.int (zn k)), some (.int z1285)] [.int (zn (zsv kd nn ff sp k)), .int (zn (16 + k)), .ref 174] ph9
                    refine w_ias (pc' := 115) (k := 16 + k) (ykc_237 (e := (5, .iastore, 0)) rfl) (by omega) rfl (fun ph1289 u1288 => ?_)
                    refine w_load (pc' := 117) (v := .int (zBs (zsh v P kd nn ff sp) k)) (m := 2) (ykc_237 (e := (2, .iload 5, 0)) rfl) rfl rfl ?_
                    refine w_load (pc' := 118) (v := .ref 170) (m := 1) (ykc_237 (e := (2, .aload_n kF0, 0)) rfl) rfl rfl ?_
                    refine w_gf (pc' := 121) (v := .ref 174) (ykc_237 (e := (5, .getfield 41, 0)) rfl) rfl ((u1288.2.1 170 11 (fun q => absurd q.1 (by first | exact Nat.ne_of_beq_eq_false rfl | decide))).trans ((hf.1 170 11 (by first | exact zqm rfl | decide) (by first | exact zqp rfl | decide)).trans (zsg hS1 zs_170_11))) rfl ?_
                    refine w_push (pc' := 123) (v := .int ((Int8.ofInt 16).toInt32)) (m := 2) (ykc_237 (e := (1, .bipush 16, 0)) rfl) rfl rfl ?_
                    refine w_load (pc' := 125) (v := .int (zn k)) (m := 2) (ykc_237 (e := (2, .iload 7, 0)) rfl) rfl rfl ?_
                    have e1290 : ((Int8.ofInt 16).toInt32) + (zn k) = zn (16 + k) := (zaddN (a := 16) (b := k) c_2 (znt (by omega)) (by omega)) 
                    have te1290 := znt (k := 16 + k) (by omega)
                    refine w_alu (pc' := 126) (st' := [.int (zn (16 + k)), .ref 174, .int (zBs (zsh v P kd nn ff sp) k)]) (ykc_237 (e := (0, .iadd, 0)) rfl) (by rw [← e1290]; rfl) rfl ?_
                    refine w_ialk (pc' := 127) (k := 16 + k) (ykc_237 (e := (5, .iaload, 0)) rfl) u1288.1 (by omega) rfl ?_
                    refine w_alu (pc' := 128) (st' := [.int ((zBs (zsh v P kd nn ff sp) k) + (zn (zsv kd nn ff sp k)))]) (ykc_237 (e := (0, .iadd, 0)) rfl) rfl rfl ?_
                    refine w_store (pc' := 130) (L' := [some (.ref 170), some (.int kd), some (.int nn), some (.int ff), some (.int sp), some (.int ((zBs (zsh v P kd nn ff sp) k) + (zn (zsv kd nn ff sp k)))), some (.int (zsq ff sp k)), some (.int (zn k)), some (.int z1285)]) (st' := []) (m := 2) (ykc_237 (e := (3, .istore 5, 0)) rfl) rfl rfl ?_
                    refine w_load (pc' := 132) (v := .int (zsq ff sp k)) (m := 2) (ykc_237 (e := (2, .iload 6, 0)) rfl) rfl rfl ?_
                    refine w_load (pc' := 134) (v := .int sp) (m := 2) (ykc_237 (e := (2, .iload 4, 0)) rfl) rfl rfl ?_
                    refine w_alu (pc' := 135) (st' := [.int ((zsq ff sp k) + sp)]) (ykc_237 (e := (0, .iadd, 0)) rfl) rfl rfl ?_
                    refine w_store (pc' := 137) (L' := [some (.ref 170), some (.int kd), some (.int nn), some (.int ff), some (.int sp), some (.int ((zBs (zsh v P kd nn ff sp) k) + (zn (zsv kd nn ff sp k)))), some (.int ((zsq ff sp k) + sp)), some (.int (zn k)), some (.int z1285)]) (st' := []) (m := 2) (ykc_237 (e := (3, .istore 6, 0)) rfl) rfl rfl ?_
                    have e1291 : (zn k) + Int32.ofInt 1 = zn (k + 1) := (zaddN (a := k) (b := 1) (znt (by omega)) c_6 (by omega))
                    have te1291 := znt (k := k + 1) (by omega)
                    refine w_store (pc' := 140) (L' := [some (.ref 170), some (.int kd), some (.int nn), some (.int ff), some (.int sp), some (.int ((zBs (zsh v P kd nn ff sp) k) + (zn (zsv kd nn ff sp k)))), some (.int ((zsq ff sp k) + sp)), some (.int (zn (k + 1))), some (.int z1285)]) (st' := []) (m := 3) (ykc_237 (e := (3, .iinc 7 1, 0)) rfl) (by rw [← e1291]; rfl) rfl ?_
                    refine w_gb (ykc_237 (e := (4, .goto (-94), 46)) rfl) (fun k1292 hk1292 => ?_)
                    have h9 := ih k1292 hk1292 (k + 1) (some (.int z1285)) _ (by omega) (zFr_add hf u1288 (Or.inl (by first | exact zqi rfl | simp))) (fun i hi => by
                      by_cases e : i = k
                      · subst e
                        exact u1288.1
                      · exact (u1288.2.1 174 (16 + i) (fun q => e (by have q2 := q.2; omega))).trans (hr i (by omega))) (fun j hj => (u1288.2.1 174 j (fun q => by have q2 := q.2; omega)).trans (ho j (by omega)))
                    rw [show zBs (zsh v P kd nn ff sp) (k + 1) = zBs (zsh v P kd nn ff sp) k + zn (zsv kd nn ff sp k) by
                      show _ + zn (zsh v P kd nn ff sp (16 + k)) = _
                      rw [zsh_b (by omega)]] at h9
                    exact h9
                  · refine w_load (pc' := 96) (v := .int (zn k)) (m := 2) (ykc_237 (e := (2, .iload 7, 0)) rfl) rfl rfl ?_
                    refine w_load (pc' := 97) (v := .int nn) (m := 1) (ykc_237 (e := (2, .iload_n kF2, 0)) rfl) rfl rfl ?_
                    refine w_ilt (ykc_237 (e := (4, .if_icmp .lt 7, 104)) rfl) rfl (fun b1293 => ?_) (fun b1293 => ?_)
                    · refine w_alu (pc' := 105) (st' := [.int (Int32.ofInt 0), .int (zn (16 + k)), .ref 174]) (ykc_237 (e := (0, .iconst 0, 0)) rfl) rfl rfl ?_
                      refine w_alu (pc' := 106) (st' := [.int (Int32.ofInt 4), .int (Int32.ofInt 0), .int (zn (16 + k)), .ref 174]) (ykc_237 (e := (0, .iconst 4, 0)) rfl) rfl rfl ?_
                      refine w_load (pc' := 108) (v := .int z1285) (m := 2) (ykc_237 (e := (2, .iload 8, 0)) rfl) rfl rfl ?_
                      obtain ⟨z1294, e_z1294⟩ : ∃ zq : Int32, (if z1285 < (Int32.ofInt 4) then z1285 else (Int32.ofInt 4)) = zq := ⟨_, rfl⟩
                      have h_z1294 := zminI e_z1294
                      refine w_mem1 (pc' := 111) (m := 3) (st' := [.int z1294, .int (Int32.ofInt 0), .int (zn (16 + k)), .ref 174]) (ph' := ph9) (ykc_237 (e := (5, .invokestatic 145, 0)) rfl) (by rw [← e_z1294]; rfl) rfl ?_
                      obtain ⟨z1295, e_z1295⟩ : ∃ zq : Int32, (if (Int32.ofInt 0) < z1294 then z1294 else (Int32.ofInt 0)) = zq := ⟨_, rfl⟩
                      have h_z1295 := zmaxI e_z1295
                      refine w_mem1 (pc' := 114) (m := 3) (st' := [.int z1295, .int (zn (16 + k)), .ref 174]) (ph' := ph9) (ykc_237 (e := (5, .invokestatic 273, 0)) rfl) (by rw [← e_z1295]; rfl) rfl ?_
                      have ev : zsv kd nn ff sp k = zq4 (zsck kd (zsq ff sp k)) := if_neg (by omega)
                      have ez : z1295 = zn (zsv kd nn ff sp k) := zn_of (by rw [ev, e9]; unfold zq4; omega)
                      rw [ez]
                      show zW n D 237 Q 114 [some (.ref 170), some (.int kd), some (.int nn), some (.int ff), some (.int sp), some (.int (zBs (zsh v P kd nn ff sp) k)), some (.int (zsq ff sp k)), some (.int (zn k)), some (.int z1285)] [.int (zn (zsv kd nn ff sp k)), .int (zn (16 + k)), .ref 174] ph9
                      refine w_ias (pc' := 115) (k := 16 + k) (ykc_237 (e := (5, .iastore, 0)) rfl) (by omega) rfl (fun ph1297 u1296 => ?_)
                      refine w_load (pc' := 117) (v := .int (zBs (zsh v P kd nn ff sp) k)) (m := 2) (ykc_237 (e := (2, .iload 5, 0)) rfl) rfl rfl ?_
                      refine w_load (pc' := 118) (v := .ref 170) (m := 1) (ykc_237 (e := (2, .aload_n kF0, 0)) rfl) rfl rfl ?_
                      refine w_gf (pc' := 121) (v := .ref 174) (ykc_237 (e := (5, .getfield 41, 0)) rfl) rfl ((u1296.2.1 170 11 (fun q => absurd q.1 (by first | exact Nat.ne_of_beq_eq_false rfl | decide))).trans ((hf.1 170 11 (by first | exact zqm rfl | decide) (by first | exact zqp rfl | decide)).trans (zsg hS1 zs_170_11))) rfl ?_
                      refine w_push (pc' := 123) (v := .int ((Int8.ofInt 16).toInt32)) (m := 2) (ykc_237 (e := (1, .bipush 16, 0)) rfl) rfl rfl ?_
                      refine w_load (pc' := 125) (v := .int (zn k)) (m := 2) (ykc_237 (e := (2, .iload 7, 0)) rfl) rfl rfl ?_
                      have e1298 : ((Int8.ofInt 16).toInt32) + (zn k) = zn (16 + k) := (zaddN (a := 16) (b := k) c_2 (znt (by omega)) (by omega)) 
                      have te1298 := znt (k := 16 + k) (by omega)
                      refine w_alu (pc' := 126) (st' := [.int (zn (16 + k)), .ref 174, .int (zBs (zsh v P kd nn ff sp) k)]) (ykc_237 (e := (0, .iadd, 0)) rfl) (by rw [← e1298]; rfl) rfl ?_
                      refine w_ialk (pc' := 127) (k := 16 + k) (ykc_237 (e := (5, .iaload, 0)) rfl) u1296.1 (by omega) rfl ?_
                      refine w_alu (pc' := 128) (st' := [.int ((zBs (zsh v P kd nn ff sp) k) + (zn (zsv kd nn ff sp k)))]) (ykc_237 (e := (0, .iadd, 0)) rfl) rfl rfl ?_
                      refine w_store (pc' := 130) (L' := [some (.ref 170), some (.int kd), some (.int nn), some (.int ff), some (.int sp), some (.int ((zBs (zsh v P kd nn ff sp) k) + (zn (zsv kd nn ff sp k)))), some (.int (zsq ff sp k)), some (.int (zn k)), some (.int z1285)]) (st' := []) (m := 2) (ykc_237 (e := (3, .istore 5, 0)) rfl) rfl rfl ?_
                      refine w_load (pc' := 132) (v := .int (zsq ff sp k)) (m := 2) (ykc_237 (e := (2, .iload 6, 0)) rfl) rfl rfl ?_
                      refine w_load (pc' := 134) (v := .int sp) (m := 2) (ykc_237 (e := (2, .iload 4, 0)) rfl) rfl rfl ?_
                      refine w_alu (pc' := 135) (st' := [.int ((zsq ff sp k) + sp)]) (ykc_237 (e := (0, .iadd, 0)) rfl) rfl rfl ?_
                      refine w_store (pc' := 137) (L' := [some (.ref 170), some (.int kd), some (.int nn), some (.int ff), some (.int sp), some (.int ((zBs (zsh v P kd nn ff sp) k) + (zn (zsv kd nn ff sp k)))), some (.int ((zsq ff sp k) + sp)), some (.int (zn k)), some (.int z1285)]) (st' := []) (m := 2) (ykc_237 (e := (3, .istore 6, 0)) rfl) rfl rfl ?_
                      have e1299 : (zn k) + Int32.ofInt 1 = zn (k + 1) := (zaddN (a := k) (b := 1) (znt (by omega)) c_6 (by omega))
                      have te1299 := znt (k := k + 1) (by omega)
                      refine w_store (pc' := 140) (L' := [some (.ref 170), some (.int kd), some (.int nn), some (.int ff), some (.int sp), some (.int ((zBs (zsh v P kd nn ff sp) k) + (zn (zsv kd nn ff sp k)))), some (.int ((zsq ff sp k) + sp)), some (.int (zn (k + 1))), some (.int z1285)]) (st' := []) (m := 3) (ykc_237 (e := (3, .iinc 7 1, 0)) rfl) (by rw [← e1299]; rfl) rfl ?_
                      refine w_gb (ykc_237 (e := (4, .goto (-94), 46)) rfl) (fun k1300 hk1300 => ?_)
                      have h9 := ih k1300 hk1300 (k + 1) (some (.int z1285)) _ (by omega) (zFr_add hf u1296 (Or.inl (by first | exact zqi rfl | simp))) (fun i hi => by
                        by_cases e : i = k
                        · subst e
                          exact u1296.1
                        · exact (u1296.2.1 174 (16 + i) (fun q => e (by have q2 := q.2; omega))).trans (hr i (by omega))) (fun j hj => (u1296.2.1 174 j (fun q => by have q2 := q.2; omega)).trans (ho j (by omega)))
                      rw [show zBs (zsh v P kd nn ff sp) (k + 1) = zBs (zsh v P kd nn ff sp) k + zn (zsv kd nn ff sp k) by
                        show _ + zn (zsh v P kd nn ff sp (16 + k)) = _
                        rw [zsh_b (by omega)]] at h9
                      exact h9
                    · refine w_alu (pc' := 101) (st' := [.int (Int32.ofInt 0), .int (zn (16 + k)), .ref 174]) (ykc_237 (e := (0, .iconst 0, 0)) rfl) rfl rfl ?_
                      refine w_br (pc' := 114) (st' := [.int (Int32.ofInt 0), .int (zn (16 + k)), .ref 174]) (ykc_237 (e := (4, .goto 13, 114)) rfl) rfl ?_
                      have ev : zsv kd nn ff sp k = 0 := if_pos (by omega)
                      have ez : Int32.ofInt 0 = zn (zsv kd nn ff sp k) := by
                        rw [ev]
                        rfl
                      rw [ez]
                      show zW n D 237 Q 114 [some (.ref 170), some (.int kd), some (.int nn), some (.int ff), some (.int sp), some (.int (zBs (zsh v P kd nn ff sp) k)), some (.int (zsq ff sp k)), some (.int (zn k)), some (.int z1285)] [.int (zn (zsv kd nn ff sp k)), .int (zn (16 + k)), .ref 174] ph9
                      refine w_ias (pc' := 115) (k := 16 + k) (ykc_237 (e := (5, .iastore, 0)) rfl) (by omega) rfl (fun ph1302 u1301 => ?_)
                      refine w_load (pc' := 117) (v := .int (zBs (zsh v P kd nn ff sp) k)) (m := 2) (ykc_237 (e := (2, .iload 5, 0)) rfl) rfl rfl ?_
                      refine w_load (pc' := 118) (v := .ref 170) (m := 1) (ykc_237 (e := (2, .aload_n kF0, 0)) rfl) rfl rfl ?_
                      refine w_gf (pc' := 121) (v := .ref 174) (ykc_237 (e := (5, .getfield 41, 0)) rfl) rfl ((u1301.2.1 170 11 (fun q => absurd q.1 (by first | exact Nat.ne_of_beq_eq_false rfl | decide))).trans ((hf.1 170 11 (by first | exact zqm rfl | decide) (by first | exact zqp rfl | decide)).trans (zsg hS1 zs_170_11))) rfl ?_
                      refine w_push (pc' := 123) (v := .int ((Int8.ofInt 16).toInt32)) (m := 2) (ykc_237 (e := (1, .bipush 16, 0)) rfl) rfl rfl ?_
                      refine w_load (pc' := 125) (v := .int (zn k)) (m := 2) (ykc_237 (e := (2, .iload 7, 0)) rfl) rfl rfl ?_
                      have e1303 : ((Int8.ofInt 16).toInt32) + (zn k) = zn (16 + k) := (zaddN (a := 16) (b := k) c_2 (znt (by omega)) (by omega)) 
                      have te1303 := znt (k := 16 + k) (by omega)
                      refine w_alu (pc' := 126) (st' := [.int (zn (16 + k)), .ref 174, .int (zBs (zsh v P kd nn ff sp) k)]) (ykc_237 (e := (0, .iadd, 0)) rfl) (by rw [← e1303]; rfl) rfl ?_
                      refine w_ialk (pc' := 127) (k := 16 + k) (ykc_237 (e := (5, .iaload, 0)) rfl) u1301.1 (by omega) rfl ?_
                      refine w_alu (pc' := 128) (st' := [.int ((zBs (zsh v P kd nn ff sp) k) + (zn (zsv kd nn ff sp k)))]) (ykc_237 (e := (0, .iadd, 0)) rfl) rfl rfl ?_
                      refine w_store (pc' := 130) (L' := [some (.ref 170), some (.int kd), some (.int nn), some (.int ff), some (.int sp), some (.int ((zBs (zsh v P kd nn ff sp) k) + (zn (zsv kd nn ff sp k)))), some (.int (zsq ff sp k)), some (.int (zn k)), some (.int z1285)]) (st' := []) (m := 2) (ykc_237 (e := (3, .istore 5, 0)) rfl) rfl rfl ?_
                      refine w_load (pc' := 132) (v := .int (zsq ff sp k)) (m := 2) (ykc_237 (e := (2, .iload 6, 0)) rfl) rfl rfl ?_
                      refine w_load (pc' := 134) (v := .int sp) (m := 2) (ykc_237 (e := (2, .iload 4, 0)) rfl) rfl rfl ?_
                      refine w_alu (pc' := 135) (st' := [.int ((zsq ff sp k) + sp)]) (ykc_237 (e := (0, .iadd, 0)) rfl) rfl rfl ?_
                      refine w_store (pc' := 137) (L' := [some (.ref 170), some (.int kd), some (.int nn), some (.int ff), some (.int sp), some (.int ((zBs (zsh v P kd nn ff sp) k) + (zn (zsv kd nn ff sp k)))), some (.int ((zsq ff sp k) + sp)), some (.int (zn k)), some (.int z1285)]) (st' := []) (m := 2) (ykc_237 (e := (3, .istore 6, 0)) rfl) rfl rfl ?_
                      have e1304 : (zn k) + Int32.ofInt 1 = zn (k + 1) := (zaddN (a := k) (b := 1) (znt (by omega)) c_6 (by omega))
                      have te1304 := znt (k := k + 1) (by omega)
                      refine w_store (pc' := 140) (L' := [some (.ref 170), some (.int kd), some (.int nn), some (.int ff), some (.int sp), some (.int ((zBs (zsh v P kd nn ff sp) k) + (zn (zsv kd nn ff sp k)))), some (.int ((zsq ff sp k) + sp)), some (.int (zn (k + 1))), some (.int z1285)]) (st' := []) (m := 3) (ykc_237 (e := (3, .iinc 7 1, 0)) rfl) (by rw [← e1304]; rfl) rfl ?_
                      refine w_gb (ykc_237 (e := (4, .goto (-94), 46)) rfl) (fun k1305 hk1305 => ?_)
                      have h9 := ih k1305 hk1305 (k + 1) (some (.int z1285)) _ (by omega) (zFr_add hf u1301 (Or.inl (by first | exact zqi rfl | simp))) (fun i hi => by
                        by_cases e : i = k
                        · subst e
                          exact u1301.1
                        · exact (u1301.2.1 174 (16 + i) (fun q => e (by have q2 := q.2; omega))).trans (hr i (by omega))) (fun j hj => (u1301.2.1 174 j (fun q => by have q2 := q.2; omega)).trans (ho j (by omega)))
                      rw [show zBs (zsh v P kd nn ff sp) (k + 1) = zBs (zsh v P kd nn ff sp) k + zn (zsv kd nn ff sp k) by
                        show _ + zn (zsh v P kd nn ff sp (16 + k)) = _
                        rw [zsh_b (by omega)]] at h9
                      exact h9
          exact hl n 0 _ ph1167 (Nat.zero_le _) zFr_refl (fun i hi => absurd hi (Nat.not_lt_zero i)) (fun j _ => rfl)
        · refine w_push (pc' := 36) (v := .int ((Int8.ofInt (-2)).toInt32)) (m := 2) (ykc_237 (e := (1, .bipush (-2), 0)) rfl) rfl rfl ?_
          refine w_ret (v := (some (.int ((Int8.ofInt (-2)).toInt32)))) (ykc_237 (e := (7, .ireturn, 0)) rfl) (zr_v rfl) ?_
          have f2 : zFr [] [(170, 0)] ph _ := zFr_st u1166 (Or.inr (by first | exact zqj rfl | simp))
          have d9 := of_decide_eq_true b1170
          have ea : zsa v P kd nn ff sp = (Int8.ofInt (-2)).toInt32 := (by
            unfold zsa
            rw [if_neg (by omega), if_neg (by omega), if_pos (by omega)])
          have er : zsr v P kd nn ff sp = v := if_pos (Or.inr (by omega))
          rw [hQ]
          refine ⟨by rw [ea], ?_⟩
          rw [er]
          exact ⟨zMl_F f2 (by first | exact zqp rfl | simp) (by first | exact zqp rfl | simp) (by first | exact (fun _ => zqr rfl) | simp) (by first | exact ⟨zqm rfl, zqm rfl⟩ | simp) hL0, zMp_F f2 (by first | exact zqp rfl | simp) (by first | exact zqp rfl | simp) (by first | exact zqm rfl | simp) hN0, zNr_F f2 (by first | exact (fun _ => zqr rfl) | simp) (by first | exact zqm rfl | simp) hv, zMu_F f2 (by first | exact ⟨zqm rfl, zqm rfl⟩ | simp) (by first | exact zqp rfl | simp) (by first | exact (fun _ => zqr rfl) | simp) hU, zMk_F f2 (by first | exact ⟨zqm rfl, zqm rfl, zqm rfl, zqm rfl⟩ | simp) (by first | exact zqp rfl | simp) (by first | exact (fun _ => ⟨zqr rfl, zqr rfl, zqr rfl⟩) | simp) hk, zMh_F f2 (by first | exact zqm rfl | simp) (by first | exact zqp rfl | simp) hh⟩
    · refine w_alu (pc' := 24) (st' := [.int (Int32.ofInt (-1))]) (ykc_237 (e := (0, .iconst (-1), 0)) rfl) rfl rfl ?_
      refine w_ret (v := (some (.int (Int32.ofInt (-1))))) (ykc_237 (e := (7, .ireturn, 0)) rfl) (zr_v rfl) ?_
      have f2 : zFr [] [(170, 0)] ph _ := zFr_st u1166 (Or.inr (by first | exact zqj rfl | simp))
      have d9 := of_decide_eq_true b1170
      have ea : zsa v P kd nn ff sp = Int32.ofInt (-1) := if_pos (by omega)
      have er : zsr v P kd nn ff sp = v := if_pos (Or.inl (by omega))
      rw [hQ]
      refine ⟨by rw [ea], ?_⟩
      rw [er]
      exact ⟨zMl_F f2 (by first | exact zqp rfl | simp) (by first | exact zqp rfl | simp) (by first | exact (fun _ => zqr rfl) | simp) (by first | exact ⟨zqm rfl, zqm rfl⟩ | simp) hL0, zMp_F f2 (by first | exact zqp rfl | simp) (by first | exact zqp rfl | simp) (by first | exact zqm rfl | simp) hN0, zNr_F f2 (by first | exact (fun _ => zqr rfl) | simp) (by first | exact zqm rfl | simp) hv, zMu_F f2 (by first | exact ⟨zqm rfl, zqm rfl⟩ | simp) (by first | exact zqp rfl | simp) (by first | exact (fun _ => zqr rfl) | simp) hU, zMk_F f2 (by first | exact ⟨zqm rfl, zqm rfl, zqm rfl, zqm rfl⟩ | simp) (by first | exact zqp rfl | simp) (by first | exact (fun _ => ⟨zqr rfl, zqr rfl, zqr rfl⟩) | simp) hk, zMh_F f2 (by first | exact zqm rfl | simp) (by first | exact zqp rfl | simp) hh⟩
