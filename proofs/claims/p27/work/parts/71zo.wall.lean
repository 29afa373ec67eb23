/-! all: what it answers, class and reference, by W; printed by wip/z/z4c_all.py -/
def zFl (P G : Nat) (v : Nat → Nat) : Bool := decide (∀ q, q < P → v (24 + q) = 2 ^ G - 1)
theorem zsh2 : ∀ G, G < 9 → ((Int32.ofInt 1 <<< (zn G &&& 31)) - Int32.ofInt 1).toInt = ((2 ^ G - 1 : Nat) : Int) := by decide +kernel
theorem zpcG : ∀ G : Nat, G < 9 → ∀ m : Nat, m < 256 → m < 2 ^ G → ((G : Int) ≤ (zpc (zn m)).toInt ↔ m = 2 ^ G - 1) := by decide +kernel
theorem zdecT {m : Nat} (h : m < 1000) : ((zn m) + Int32.ofInt (-1)).toInt = ((m : Nat) : Int) + (-1 : Int) := by
  have t := znt (k := m) (by omega)
  have c : (Int32.ofInt (-1)).toInt = -1 := by decide
  have := ti_add (x := zn m) (y := Int32.ofInt (-1)) (by omega) (by omega)
  omega
noncomputable def zXall (E : zEn) (P G : Nat) (v : Nat → Nat) : Int32 := zXfi (fun k => zFl P G (zHqn E P G v k)) 100 0
theorem zc_lacks {ph : pm_H} {S P G : Nat} {v : Nat → Nat} (hs : zSs ph S) (hd : zSd ph S P G v) (hk8 : ∀ p, p < P → v (24 + p) < 256) : zM 111 [.ref S] ph (fun v0 q => ph = q ∧ ∃ z : Int32, v0 = some (.int z) ∧ (z.toInt < 0 ↔ ∀ q, q < P → v (24 + q) = 2 ^ G - 1)) := by
  obtain ⟨Q, hQ⟩ : ∃ Q : Option Value → pm_H → Prop, Q = (fun v0 q => ph = q ∧ ∃ z : Int32, v0 = some (.int z) ∧ (z.toInt < 0 ↔ ∀ q, q < P → v (24 + q) = 2 ^ G - 1)) := ⟨_, rfl⟩
  rw [← hQ]
  refine zM_mk fun n D => ?_
  show zW n D 111 Q 0 [some (.ref S), none] [] ph
  have c_0 : ((Int8.ofInt 8).toInt32).toInt = 8 := by decide
  have c_1 : (Int32.ofInt (-1)).toInt = -1 := by decide
  have c_2 : (Int32.ofInt 0).toInt = 0 := by decide
  have c_3 : (Int32.ofInt 1).toInt = 1 := by decide
  have hd0 := hd
  have hs0 := hs
  obtain ⟨r3, r4, r5, r6, r7, l1, l2, l3, l4, l5⟩ := hs
  obtain ⟨gP, hP8, gG, hG8, gH, gv, gw⟩ := hd
  have tP := znt (k := P) (by omega)
  have tG := znt (k := G) (by omega)
  have hG9 : G ≤ 8 := hd0.2.2.2.1
  have hM := zsh2 G (by omega)
  obtain ⟨M, eM⟩ : ∃ M, 2 ^ G - 1 = M := ⟨_, rfl⟩
  rw [eM] at hM
  rw [eM] at hQ
  refine w_alu (pc' := 1) (st' := [.int (Int32.ofInt 0)]) (ykc_111 (e := (0, .iconst 0, 0)) rfl) rfl rfl ?_
  refine w_store (pc' := 2) (L' := [some (.ref S), some (.int (Int32.ofInt 0))]) (st' := []) (m := 1) (ykc_111 (e := (3, .istore_n kF1, 0)) rfl) rfl rfl ?_
  have hl : ∀ (n : Nat), ∀ (k : Nat), (k ≤ P) → (∀ q, q < k → v (24 + q) = M) → zW n D 111 Q 2 [some (.ref S), some (.int (zn k))] [] ph := by
    intro n
    induction n using Nat.strongRecOn with
    | ind n ih =>
      intro k hk ha
      have tk := znt (k := k) (by omega)
      refine w_load (pc' := 3) (v := .int (zn k)) (m := 1) (ykc_111 (e := (2, .iload_n kF1, 0)) rfl) rfl rfl ?_
      refine w_load (pc' := 4) (v := .ref S) (m := 1) (ykc_111 (e := (2, .aload_n kF0, 0)) rfl) rfl rfl ?_
      refine w_gf (pc' := 7) (v := .int (zn P)) (ykc_111 (e := (5, .getfield 30, 0)) rfl) rfl gP rfl ?_
      refine w_ige (ykc_111 (e := (4, .if_icmp .ge 34, 41)) rfl) rfl (fun b1421 => ?_) (fun b1421 => ?_)
      · refine w_alu (pc' := 42) (st' := [.int (Int32.ofInt (-1))]) (ykc_111 (e := (0, .iconst (-1), 0)) rfl) rfl rfl ?_
        refine w_ret (v := (some (.int (Int32.ofInt (-1))))) (ykc_111 (e := (7, .ireturn, 0)) rfl) (zr_v rfl) ?_
        have ek : k = P := by omega
        subst ek
        rw [hQ]
        exact ⟨rfl, _, rfl, fun _ => ha, fun _ => by omega⟩
      · refine w_load (pc' := 11) (v := .int (zn k)) (m := 1) (ykc_111 (e := (2, .iload_n kF1, 0)) rfl) rfl rfl ?_
        refine w_push (pc' := 13) (v := .int ((Int8.ofInt 8).toInt32)) (m := 2) (ykc_111 (e := (1, .bipush 8, 0)) rfl) rfl rfl ?_
        refine w_ige (ykc_111 (e := (4, .if_icmp .ge 28, 41)) rfl) rfl (fun q => by exfalso; omega) (fun b1422 => ?_)
        have h8k := hk8 k (by omega)
        have tvk := znt (k := v (24 + k)) (by omega)
        refine w_load (pc' := 17) (v := .ref S) (m := 1) (ykc_111 (e := (2, .aload_n kF0, 0)) rfl) rfl rfl ?_
        refine w_gf (pc' := 20) (v := .ref (S + 4)) (ykc_111 (e := (5, .getfield 21, 0)) rfl) rfl r6 rfl ?_
        refine w_load (pc' := 21) (v := .int (zn k)) (m := 1) (ykc_111 (e := (2, .iload_n kF1, 0)) rfl) rfl rfl ?_
        refine w_ialk (pc' := 22) (k := k) (ykc_111 (e := (5, .iaload, 0)) rfl) (gv k (by omega)).2.2.2 (by omega) rfl ?_
        refine w_alu (pc' := 23) (st' := [.int (Int32.ofInt 1), .int (zn (v (24 + k)))]) (ykc_111 (e := (0, .iconst 1, 0)) rfl) rfl rfl ?_
        refine w_load (pc' := 24) (v := .ref S) (m := 1) (ykc_111 (e := (2, .aload_n kF0, 0)) rfl) rfl rfl ?_
        refine w_gf (pc' := 27) (v := .int (zn G)) (ykc_111 (e := (5, .getfield 34, 0)) rfl) rfl gG rfl ?_
        refine w_alu (pc' := 28) (st' := [.int ((Int32.ofInt 1) <<< ((zn G) &&& 31)), .int (zn (v (24 + k)))]) (ykc_111 (e := (0, .ishl, 0)) rfl) rfl rfl ?_
        refine w_alu (pc' := 29) (st' := [.int (Int32.ofInt 1), .int ((Int32.ofInt 1) <<< ((zn G) &&& 31)), .int (zn (v (24 + k)))]) (ykc_111 (e := (0, .iconst 1, 0)) rfl) rfl rfl ?_
        refine w_alu (pc' := 30) (st' := [.int (((Int32.ofInt 1) <<< ((zn G) &&& 31)) - (Int32.ofInt 1)), .int (zn (v (24 + k)))]) (ykc_111 (e := (0, .isub, 0)) rfl) rfl rfl ?_
        refine w_ieq (ykc_111 (e := (4, .if_icmp .eq 5, 35)) rfl) rfl (fun b1423 => ?_) (fun b1423 => ?_)
        · have e1424 : (zn k) + Int32.ofInt 1 = zn (k + 1) := (zaddN (a := k) (b := 1) (znt (by omega)) c_3 (by omega))
          have te1424 := znt (k := k + 1) (by omega)
          refine w_store (pc' := 38) (L' := [some (.ref S), some (.int (zn (k + 1)))]) (st' := []) (m := 3) (ykc_111 (e := (3, .iinc 1 1, 0)) rfl) (by rw [← e1424]; rfl) rfl ?_
          refine w_gb (ykc_111 (e := (4, .goto (-36), 2)) rfl) (fun k1425 hk1425 => ?_)
          exact ih k1425 hk1425 (k + 1) (by omega) (fun q hq => by
            rcases (show q < k ∨ q = k by omega) with h | rfl
            · exact ha q h
            · omega)
        · refine w_load (pc' := 34) (v := .int (zn k)) (m := 1) (ykc_111 (e := (2, .iload_n kF1, 0)) rfl) rfl rfl ?_
          refine w_ret (v := (some (.int (zn k)))) (ykc_111 (e := (7, .ireturn, 0)) rfl) (zr_v rfl) ?_
          rw [hQ]
          exact ⟨rfl, _, rfl, by omega, fun h => absurd (h k (by omega)) (by omega)⟩
  exact hl n 0 (Nat.zero_le _) (fun q hq => absurd hq (Nat.not_lt_zero q))
theorem zm_lacks {ph : pm_H} {E : zEn} {P G A : Nat} {v : Nat → Nat} (hS : zSh ph) (hE : zMe ph E) (hN : zMp ph P G) (hA : A = 174 ∨ A = 175) (hv : zNr ph A 0 v) (hO : zOk E.1 E.2.1 P G v) (hk8 : ∀ p, p < P → v (24 + p) < 2 ^ G) : zM 267 [.ref 170, .ref A] ph (fun v0 q => ph = q ∧ ∃ z : Int32, v0 = some (.int z) ∧ (z.toInt < 0 ↔ ∀ q, q < P → v (24 + q) = 2 ^ G - 1)) := by
  obtain ⟨Q, hQ⟩ : ∃ Q : Option Value → pm_H → Prop, Q = (fun v0 q => ph = q ∧ ∃ z : Int32, v0 = some (.int z) ∧ (z.toInt < 0 ↔ ∀ q, q < P → v (24 + q) = 2 ^ G - 1)) := ⟨_, rfl⟩
  rw [← hQ]
  refine zM_mk fun n D => ?_
  show zW n D 267 Q 0 [some (.ref 170), some (.ref A), none, none] [] ph
  have c_0 : ((Int8.ofInt 24).toInt32).toInt = 24 := by decide
  have c_1 : (Int32.ofInt (-1)).toInt = -1 := by decide
  have c_2 : (Int32.ofInt 1).toInt = 1 := by decide
  obtain ⟨R, C, rk, sn, sk, cn, cd⟩ := E
  have hL0 : zMl ph R C rk := hE.1
  have hR0 : zMr ph sn sk cn cd := hE.2.1
  have hcg : zcg cn cd := hE.2.2
  have hE0 : zMe ph (R, C, rk, sn, sk, cn, cd) := hE
  have hO0 : zOk R C P G v := hO
  have hN0 := hN
  have hL := hL0
  have hR := hR0
  obtain ⟨gR, gC, gK, hR3, hR7, hC3, hC7⟩ := hL
  have hRC := zRC49 hR7 hC7
  have tR := znt (k := R) (by omega)
  have tC := znt (k := C) (by omega)
  obtain ⟨gP, hP8, gG, hG8⟩ := hN
  have tP := znt (k := P) (by omega)
  have tG := znt (k := G) (by omega)
  obtain ⟨gsn, hs1, hs20, gsk, gcn, hc40, gcd⟩ := hR
  have tsn := znt (k := sn) (by omega)
  have tcn := znt (k := cn) (by omega)
  refine w_alu (pc' := 1) (st' := [.int (Int32.ofInt (-1))]) (ykc_267 (e := (0, .iconst (-1), 0)) rfl) rfl rfl ?_
  refine w_store (pc' := 2) (L' := [some (.ref 170), some (.ref A), some (.int (Int32.ofInt (-1))), none]) (st' := []) (m := 1) (ykc_267 (e := (3, .istore_n kF2, 0)) rfl) rfl rfl ?_
  refine w_load (pc' := 3) (v := .ref 170) (m := 1) (ykc_267 (e := (2, .aload_n kF0, 0)) rfl) rfl rfl ?_
  refine w_gf (pc' := 6) (v := .int (zn P)) (ykc_267 (e := (5, .getfield 130, 0)) rfl) rfl gP rfl ?_
  refine w_alu (pc' := 7) (st' := [.int (Int32.ofInt 1), .int (zn P)]) (ykc_267 (e := (0, .iconst 1, 0)) rfl) rfl rfl ?_
  obtain ⟨z1426, e_z1426, h_z1426⟩ : ∃ zq : Int32, (zn P) - (Int32.ofInt 1) = zq ∧ zq.toInt = ((P : Nat) : Int) - (1 : Int) := ⟨_, rfl, (by have := ti_sub (x := (zn P)) (y := (Int32.ofInt 1)) (by omega) (by omega); omega)⟩
  refine w_alu (pc' := 8) (st' := [.int z1426]) (ykc_267 (e := (0, .isub, 0)) rfl) (by rw [← e_z1426]; rfl) rfl ?_
  refine w_store (pc' := 9) (L' := [some (.ref 170), some (.ref A), some (.int (Int32.ofInt (-1))), some (.int z1426)]) (st' := []) (m := 1) (ykc_267 (e := (3, .istore_n kF3, 0)) rfl) rfl rfl ?_
  have hl : ∀ (n : Nat), ∀ (k : Nat) (a y : Int32), (k ≤ P) → (y.toInt = (k : Int) - 1) → (a.toInt < 0 ↔ ∀ q, k ≤ q → q < P → v (24 + q) = 2 ^ G - 1) → zW n D 267 Q 9 [some (.ref 170), some (.ref A), some (.int a), some (.int y)] [] ph := by
    intro n
    induction n using Nat.strongRecOn with
    | ind n ih =>
      intro k a y hk hy ha
      refine w_load (pc' := 10) (v := .int y) (m := 1) (ykc_267 (e := (2, .iload_n kF3, 0)) rfl) rfl rfl ?_
      refine w_zlt (ykc_267 (e := (4, .ifCond .lt 31, 41)) rfl) rfl (fun b1427 => ?_) (fun b1427 => ?_)
      · refine w_load (pc' := 42) (v := .int a) (m := 1) (ykc_267 (e := (2, .iload_n kF2, 0)) rfl) rfl rfl ?_
        refine w_ret (v := (some (.int a))) (ykc_267 (e := (7, .ireturn, 0)) rfl) (zr_v rfl) ?_
        obtain rfl : k = 0 := by omega
        rw [hQ]
        exact ⟨rfl, _, rfl, ha.trans ⟨fun h q h2 => h q (Nat.zero_le q) h2, fun h q _ h2 => h q h2⟩⟩
      · obtain ⟨m, rfl⟩ : ∃ m, k = m + 1 := ⟨k - 1, by omega⟩
        obtain rfl := zn_of (k := m) (show y.toInt = _ by omega)
        have tm := znt (k := m) (by omega)
        show zW n D 267 Q 13 [some (.ref 170), some (.ref A), some (.int a), some (.int (zn m))] [] ph
        refine w_load (pc' := 14) (v := .ref A) (m := 1) (ykc_267 (e := (2, .aload_n kF1, 0)) rfl) rfl rfl ?_
        refine w_push (pc' := 16) (v := .int ((Int8.ofInt 24).toInt32)) (m := 2) (ykc_267 (e := (1, .bipush 24, 0)) rfl) rfl rfl ?_
        refine w_load (pc' := 17) (v := .int (zn m)) (m := 1) (ykc_267 (e := (2, .iload_n kF3, 0)) rfl) rfl rfl ?_
        have e1428 : ((Int8.ofInt 24).toInt32) + (zn m) = zn (24 + m) := (zaddN (a := 24) (b := m) c_0 (znt (by omega)) (by omega)) 
        have te1428 := znt (k := 24 + m) (by omega)
        refine w_alu (pc' := 18) (st' := [.int (zn (24 + m)), .ref A]) (ykc_267 (e := (0, .iadd, 0)) rfl) (by rw [← e1428]; rfl) rfl ?_
        have q1429 := hO0.1 m (by omega)
        have tq1429 := znt (k := v (24 + m)) (by omega)
        refine w_ialk (pc' := 19) (k := 24 + m) (ykc_267 (e := (5, .iaload, 0)) rfl) (zNr0 hv (i := 24 + m) (by omega)) (by omega) rfl ?_
        refine w_cs (as := [.int (zn (v (24 + m)))]) (r := []) (ykc_267 (e := (6, .invokestatic 265, 0)) rfl) rfl rfl rfl rfl (zj_pc (x := zn (v (24 + m)))) (fun v1430 ph1431 hv => ?_)
        obtain ⟨rfl, rfl⟩ := hv
        show zW n D 267 Q 22 [some (.ref 170), some (.ref A), some (.int a), some (.int (zn m))] [.int (zpc (zn (v (24 + m))))] ph
        refine w_load (pc' := 23) (v := .ref 170) (m := 1) (ykc_267 (e := (2, .aload_n kF0, 0)) rfl) rfl rfl ?_
        refine w_gf (pc' := 26) (v := .int (zn G)) (ykc_267 (e := (5, .getfield 133, 0)) rfl) rfl gG rfl ?_
        refine w_ige (ykc_267 (e := (4, .if_icmp .ge 7, 33)) rfl) rfl (fun b1432 => ?_) (fun b1432 => ?_)
        · refine w_load (pc' := 34) (v := .int a) (m := 1) (ykc_267 (e := (2, .iload_n kF2, 0)) rfl) rfl rfl ?_
          refine w_store (pc' := 35) (L' := [some (.ref 170), some (.ref A), some (.int a), some (.int (zn m))]) (st' := []) (m := 1) (ykc_267 (e := (3, .istore_n kF2, 0)) rfl) rfl rfl ?_
          obtain ⟨z1433, e_z1433, h_z1433⟩ : ∃ zq : Int32, (zn m) + Int32.ofInt (-1) = zq ∧ zq.toInt = ((m : Nat) : Int) + (-1 : Int) := ⟨_, rfl, zdecT (by omega)⟩
          refine w_store (pc' := 38) (L' := [some (.ref 170), some (.ref A), some (.int a), some (.int z1433)]) (st' := []) (m := 3) (ykc_267 (e := (3, .iinc 3 (-1), 0)) rfl) (by rw [← e_z1433]; rfl) rfl ?_
          refine w_gb (ykc_267 (e := (4, .goto (-29), 9)) rfl) (fun k1434 hk1434 => ?_)
          have hv8 := (hO0.1 m (by omega)).2.2.2
          have hG2 := zpcG G (by omega) (v (24 + m)) hv8 (hk8 m (by omega))
          exact ih k1434 hk1434 m _ _ (by omega) (by omega) (ha.trans ⟨fun h q h1 h2 => by
            rcases (show m + 1 ≤ q ∨ q = m by omega) with h3 | rfl
            · exact h q h3 h2
            · exact hG2.mp (by omega), fun h q h1 h2 => h q (by omega) h2⟩)
        · refine w_load (pc' := 30) (v := .int (zn m)) (m := 1) (ykc_267 (e := (2, .iload_n kF3, 0)) rfl) rfl rfl ?_
          refine w_br (pc' := 34) (st' := [.int (zn m)]) (ykc_267 (e := (4, .goto 4, 34)) rfl) rfl ?_
          refine w_store (pc' := 35) (L' := [some (.ref 170), some (.ref A), some (.int (zn m)), some (.int (zn m))]) (st' := []) (m := 1) (ykc_267 (e := (3, .istore_n kF2, 0)) rfl) rfl rfl ?_
          obtain ⟨z1435, e_z1435, h_z1435⟩ : ∃ zq : Int32, (zn m) + Int32.ofInt (-1) = zq ∧ zq.toInt = ((m : Nat) : Int) + (-1 : Int) := ⟨_, rfl, zdecT (by omega)⟩
          refine w_store (pc' := 38) (L' := [some (.ref 170), some (.ref A), some (.int (zn m)), some (.int z1435)]) (st' := []) (m := 3) (ykc_267 (e := (3, .iinc 3 (-1), 0)) rfl) (by rw [← e_z1435]; rfl) rfl ?_
          refine w_gb (ykc_267 (e := (4, .goto (-29), 9)) rfl) (fun k1436 hk1436 => ?_)
          have hv8 := (hO0.1 m (by omega)).2.2.2
          have hG2 := zpcG G (by omega) (v (24 + m)) hv8 (hk8 m (by omega))
          exact ih k1436 hk1436 m _ _ (by omega) (by omega) (⟨fun h => absurd h (by omega), fun h => absurd (hG2.mpr (h m (Nat.le_refl m) (by omega))) (by omega)⟩)
  exact hl n P _ _ (Nat.le_refl _) (by omega) ⟨fun _ q h1 h2 => absurd h1 (by omega), fun _ => by omega⟩
theorem zc_allX {ph : pm_H} {E : zEn} {F P G : Nat} {v : Nat → Nat} (hS : zSh ph) (hE : zCe ph E F) (ht : zCt ph 25 P G v) (hO : zOk E.1 E.2.1 P G v) (hr : zc ph 10 1 = some (.ref F)) (hc : zCc ph E.1 E.2.1 E.2.2.1) (hh : v 40 < 999000) (hg : ∀ p, p < P → v (24 + p) < 2 ^ G) : zM 155 [.ref 0] ph (fun v0 _ => v0 = some (.int (zXall E P G v))) := by
  obtain ⟨Q, hQ⟩ : ∃ Q : Option Value → pm_H → Prop, Q = (fun v0 _ => v0 = some (.int (zXall E P G v))) := ⟨_, rfl⟩
  rw [← hQ]
  refine zM_mk fun n D => ?_
  show zW n D 155 Q 0 [some (.ref 0), none, none, none] [] ph
  have c_0 : ((Int8.ofInt (-2)).toInt32).toInt = -2 := by decide
  have c_1 : ((Int8.ofInt 99).toInt32).toInt = 99 := by decide
  have c_2 : (Int32.ofInt (-1)).toInt = -1 := by decide
  have c_3 : (Int32.ofInt 0).toInt = 0 := by decide
  have c_4 : (Int32.ofInt 1).toInt = 1 := by decide
  obtain ⟨R, C, rk, sn, sk, cn, cd⟩ := E
  have hL0 : zCl ph R C rk := hE.1
  have hi0 : zCi ph sn sk := hE.2.1
  have hF : F = 11 ∨ F = 16 := hE.2.2.2
  have hE0 : zCe ph (R, C, rk, sn, sk, cn, cd) F := hE
  have hO0 : zOk R C P G v := hO
  have hL := hL0
  have hs := ht.1.2
  have hd := ht.2
  have h25 := ht.1.1
  obtain ⟨gR, gC, gN, gK, gA, hR3, hR7, hC3, hC7⟩ := hL
  have hRC := zRC49 hR7 hC7
  have tR := znt (k := R) (by omega)
  have tC := znt (k := C) (by omega)
  have tRC := znt (k := R * C) (by omega)
  have hd0 := hd
  have hs0 := hs
  obtain ⟨r3, r4, r5, r6, r7, l1, l2, l3, l4, l5⟩ := hs
  obtain ⟨gP, hP8, gG, hG8, gH, gv, gw⟩ := hd
  have tP := znt (k := P) (by omega)
  have tG := znt (k := G) (by omega)
  have h40 := hO0.2.2
  have t40 := znt (k := v 40) (by omega)
  have hc0 := hc
  have hG8 : G ≤ 8 := hd0.2.2.2.1
  have hP8 : P ≤ 8 := hd0.2.1
  refine w_load (pc' := 1) (v := .ref 0) (m := 1) (ykc_155 (e := (2, .aload_n kF0, 0)) rfl) rfl rfl ?_
  refine w_gf (pc' := 4) (v := .ref 37) (ykc_155 (e := (5, .getfield 49, 0)) rfl) rfl (zsg hS zs_0_6) rfl ?_
  refine w_load (pc' := 5) (v := .ref 0) (m := 1) (ykc_155 (e := (2, .aload_n kF0, 0)) rfl) rfl rfl ?_
  refine w_gf (pc' := 8) (v := .ref 25) (ykc_155 (e := (5, .getfield 42, 0)) rfl) rfl (zsg hS zs_0_4) rfl ?_
  refine w_cv (as := [.ref 37, .ref 25]) (r := []) (ykc_155 (e := (6, .invokevirtual 235, 0)) rfl) rfl rfl rfl rfl (zc_copy (zSs_of hS (S := 25) (by decide)) (zSs_of hS (S := 37) (by decide)) ht.2 (by omega)) (fun v1437 ph1438 hv => ?_)
  obtain ⟨rfl, fb, db⟩ := hv
  have tb0 := zTb_copy hS hE0 hr hc0 fb db
  show zW n D 155 Q 11 [some (.ref 0), none, none, none] [] ph1438
  refine w_alu (pc' := 12) (st' := [.int (Int32.ofInt (-1))]) (ykc_155 (e := (0, .iconst (-1), 0)) rfl) rfl rfl ?_
  refine w_store (pc' := 13) (L' := [some (.ref 0), some (.int (Int32.ofInt (-1))), none, none]) (st' := []) (m := 1) (ykc_155 (e := (3, .istore_n kF1, 0)) rfl) rfl rfl ?_
  refine w_alu (pc' := 14) (st' := [.int (Int32.ofInt 0)]) (ykc_155 (e := (0, .iconst 0, 0)) rfl) rfl rfl ?_
  refine w_store (pc' := 15) (L' := [some (.ref 0), some (.int (Int32.ofInt (-1))), some (.int (Int32.ofInt 0)), none]) (st' := []) (m := 1) (ykc_155 (e := (3, .istore_n kF2, 0)) rfl) rfl rfl ?_
  have hl : ∀ (n : Nat), ∀ (k : Nat) (o1 o3 : Option Value) (ph1 : pm_H), (k ≤ 100) → (∃ y1 : Int32, o1 = some (.int y1)) → (zSh ph1) → (zTb ph1 (R, C, rk, sn, sk, cn, cd) F P G (zHqn (R, C, rk, sn, sk, cn, cd) P G v k)) → (zXfi (fun k => zFl P G (zHqn (R, C, rk, sn, sk, cn, cd) P G v k)) 100 0 = zXfi (fun k => zFl P G (zHqn (R, C, rk, sn, sk, cn, cd) P G v k)) (100 - k) k) → zW n D 155 Q 15 [some (.ref 0), o1, some (.int (zn k)), o3] [] ph1 := by
    intro n
    induction n using Nat.strongRecOn with
    | ind n ih =>
      intro k o1 o3 ph1 hk h1 hS tb he
      have tk := znt (k := k) (by omega)
      have h40 := zHqn_40 (E := (R, C, rk, sn, sk, cn, cd)) (G := G) (v := v) hP8 k
      have hok := (zHqn_ok (E := (R, C, rk, sn, sk, cn, cd)) hO0 hP8 hG8 k (by omega))
      obtain ⟨y1, rfl⟩ := h1
      show zW n D 155 Q 15 [some (.ref 0), some (.int y1), some (.int (zn k)), o3] [] ph1
      refine w_load (pc' := 16) (v := .int (zn k)) (m := 1) (ykc_155 (e := (2, .iload_n kF2, 0)) rfl) rfl rfl ?_
      refine w_push (pc' := 18) (v := .int ((Int8.ofInt 99).toInt32)) (m := 2) (ykc_155 (e := (1, .bipush 99, 0)) rfl) rfl rfl ?_
      refine w_igt (ykc_155 (e := (4, .if_icmp .gt 51, 69)) rfl) rfl (fun b1439 => ?_) (fun b1439 => ?_)
      · refine w_push (pc' := 71) (v := .int ((Int8.ofInt (-2)).toInt32)) (m := 2) (ykc_155 (e := (1, .bipush (-2), 0)) rfl) rfl rfl ?_
        refine w_ret (v := (some (.int ((Int8.ofInt (-2)).toInt32)))) (ykc_155 (e := (7, .ireturn, 0)) rfl) (zr_v rfl) ?_
        have ek : k = 100 := by omega
        subst ek
        rw [hQ]
        exact (congrArg (fun x => some (Value.int x)) (he.trans rfl)).symm
      · refine w_load (pc' := 22) (v := .ref 0) (m := 1) (ykc_155 (e := (2, .aload_n kF0, 0)) rfl) rfl rfl ?_
        refine w_gf (pc' := 25) (v := .ref 37) (ykc_155 (e := (5, .getfield 49, 0)) rfl) rfl (zsg hS zs_0_6) rfl ?_
        refine w_cv (as := [.ref 37]) (r := []) (ykc_155 (e := (6, .invokevirtual 335, 0)) rfl) rfl rfl rfl rfl (zc_lacks tb.2.2.1.1.2 tb.2.2.1.2 (fun p hp => (hok.1 p hp).2.2.2)) (fun v1440 ph1441 hv => ?_)
        obtain ⟨rfl, z, rfl, hz⟩ := hv
        show zW n D 155 Q 28 [some (.ref 0), some (.int y1), some (.int (zn k)), o3] [.int z] ph1
        refine w_store (pc' := 29) (L' := [some (.ref 0), some (.int y1), some (.int (zn k)), some (.int z)]) (st' := []) (m := 1) (ykc_155 (e := (3, .istore_n kF3, 0)) rfl) rfl rfl ?_
        refine w_load (pc' := 30) (v := .int z) (m := 1) (ykc_155 (e := (2, .iload_n kF3, 0)) rfl) rfl rfl ?_
        refine w_zge (ykc_155 (e := (4, .ifCond .ge 18, 48)) rfl) rfl (fun b1442 => ?_) (fun b1442 => ?_)
        · refine w_load (pc' := 49) (v := .int z) (m := 1) (ykc_155 (e := (2, .iload_n kF3, 0)) rfl) rfl rfl ?_
          refine w_store (pc' := 50) (L' := [some (.ref 0), some (.int z), some (.int (zn k)), some (.int z)]) (st' := []) (m := 1) (ykc_155 (e := (3, .istore_n kF1, 0)) rfl) rfl rfl ?_
          refine w_load (pc' := 51) (v := .ref 0) (m := 1) (ykc_155 (e := (2, .aload_n kF0, 0)) rfl) rfl rfl ?_
          refine w_gf (pc' := 54) (v := .ref 10) (ykc_155 (e := (5, .getfield 35, 0)) rfl) rfl (zsg hS zs_0_3) rfl ?_
          refine w_load (pc' := 55) (v := .ref 0) (m := 1) (ykc_155 (e := (2, .aload_n kF0, 0)) rfl) rfl rfl ?_
          refine w_gf (pc' := 58) (v := .ref 37) (ykc_155 (e := (5, .getfield 49, 0)) rfl) rfl (zsg hS zs_0_6) rfl ?_
          refine w_alu (pc' := 59) (st' := [.int (Int32.ofInt 1), .ref 37, .ref 10]) (ykc_155 (e := (0, .iconst 1, 0)) rfl) rfl rfl ?_
          refine w_cv (as := [.ref 10, .ref 37, .int (Int32.ofInt 1)]) (r := []) (ykc_155 (e := (6, .invokevirtual 239, 0)) rfl) rfl rfl rfl rfl (zTb_pass1 tb hok (by omega)) (fun v1443 ph1444 hv => ?_)
          obtain ⟨fp, tb1, y9, rfl⟩ := hv
          show zW n D 155 Q 62 [some (.ref 0), some (.int z), some (.int (zn k)), some (.int z)] [.int y9] ph1444
          refine w_alu (pc' := 63) (st' := []) (ykc_155 (e := (0, .pop, 0)) rfl) rfl rfl ?_
          have e1445 : (zn k) + Int32.ofInt 1 = zn (k + 1) := (zaddN (a := k) (b := 1) (znt (by omega)) c_4 (by omega))
          have te1445 := znt (k := k + 1) (by omega)
          refine w_store (pc' := 66) (L' := [some (.ref 0), some (.int z), some (.int (zn (k + 1))), some (.int z)]) (st' := []) (m := 3) (ykc_155 (e := (3, .iinc 2 1, 0)) rfl) (by rw [← e1445]; rfl) rfl ?_
          refine w_gb (ykc_155 (e := (4, .goto (-51), 15)) rfl) (fun k1446 hk1446 => ?_)
          have hf : (fun k => zFl P G (zHqn (R, C, rk, sn, sk, cn, cd) P G v k)) k = false := decide_eq_false (fun q => by have := hz.mpr q; omega)
          exact ih k1446 hk1446 (k + 1) _ _ _ (by omega) ⟨_, rfl⟩ tb1.1 tb1 (he.trans (zXfi_b (by omega) hf))
        · have hf : (fun k => zFl P G (zHqn (R, C, rk, sn, sk, cn, cd) P G v k)) k = true := decide_eq_true (hz.mp (by omega))
          rw [hQ]
          exact zTail kc_155 false 2 33 47 (fun _ => rfl) (Or.inl ⟨_, rfl⟩) (by decide +kernel) (by decide) (by decide) rfl (by decide +kernel) (fun _ => (by rw [show zXall (R, C, rk, sn, sk, cn, cd) P G v = zXfi (fun k => zFl P G (zHqn (R, C, rk, sn, sk, cn, cd) P G v k)) 100 0 from rfl, he, zXfi_e (f := (fun k => zFl P G (zHqn (R, C, rk, sn, sk, cn, cd) P G v k))) (by omega) hf]))
  exact hl n 0 _ _ _ (by decide) ⟨_, rfl⟩ tb0.1 tb0 rfl
theorem zm_allX {ph : pm_H} {E : zEn} {P G : Nat} {v : Nat → Nat} (hS : zSh ph) (hE : zMe ph E) (hN : zMp ph P G) (hv : zNr ph 174 0 v) (hO : zOk E.1 E.2.1 P G v) (hh : v 40 < 999000) (hg : ∀ p, p < P → v (24 + p) < 2 ^ G) : zM 268 [.ref 170] ph (fun v0 _ => v0 = some (.int (zXall E P G v))) := by
  obtain ⟨Q, hQ⟩ : ∃ Q : Option Value → pm_H → Prop, Q = (fun v0 _ => v0 = some (.int (zXall E P G v))) := ⟨_, rfl⟩
  rw [← hQ]
  refine zM_mk fun n D => ?_
  show zW n D 268 Q 0 [some (.ref 170), none, none, none] [] ph
  have c_0 : ((Int8.ofInt (-2)).toInt32).toInt = -2 := by decide
  have c_1 : ((Int8.ofInt 99).toInt32).toInt = 99 := by decide
  have c_2 : (Int32.ofInt (-1)).toInt = -1 := by decide
  have c_3 : (Int32.ofInt 0).toInt = 0 := by decide
  have c_4 : (Int32.ofInt 1).toInt = 1 := by decide
  have hA : (174 : Nat) = 174 ∨ (174 : Nat) = 175 := Or.inl rfl
  obtain ⟨R, C, rk, sn, sk, cn, cd⟩ := E
  have hL0 : zMl ph R C rk := hE.1
  have hR0 : zMr ph sn sk cn cd := hE.2.1
  have hcg : zcg cn cd := hE.2.2
  have hE0 : zMe ph (R, C, rk, sn, sk, cn, cd) := hE
  have hO0 : zOk R C P G v := hO
  have hN0 := hN
  have hL := hL0
  have hR := hR0
  obtain ⟨gR, gC, gK, hR3, hR7, hC3, hC7⟩ := hL
  have hRC := zRC49 hR7 hC7
  have tR := znt (k := R) (by omega)
  have tC := znt (k := C) (by omega)
  obtain ⟨gP, hP8, gG, hG8⟩ := hN
  have tP := znt (k := P) (by omega)
  have tG := znt (k := G) (by omega)
  obtain ⟨gsn, hs1, hs20, gsk, gcn, hc40, gcd⟩ := hR
  have tsn := znt (k := sn) (by omega)
  have tcn := znt (k := cn) (by omega)
  refine w_load (pc' := 1) (v := .ref 170) (m := 1) (ykc_268 (e := (2, .aload_n kF0, 0)) rfl) rfl rfl ?_
  refine w_alu (pc' := 2) (st' := [.int (Int32.ofInt 0), .ref 170]) (ykc_268 (e := (0, .iconst 0, 0)) rfl) rfl rfl ?_
  refine w_pf (pc' := 5) (ykc_268 (e := (5, .putfield 3, 0)) rfl) rfl rfl (fun ph1448 u1447 => ?_)
  have f0 : zFr [] [(170, 0)] ph ph1448 := zFr_st u1447 (Or.inr (by simp))
  have hS1 := zSh_st u1447 (by decide +kernel) hS
  have hE1 : zMe ph1448 (R, C, rk, sn, sk, cn, cd) := ⟨zMl_F f0 (by simp) (by simp) (by simp) (by simp) hE0.1, zMr_F f0 (by simp) (by simp) (by simp) (by simp) hE0.2.1, hE0.2.2⟩
  have hN1 := zMp_F f0 (by simp) (by simp) (by simp) hN0
  have hv1 := zNr_F f0 (by simp) (by simp) hv
  have hL1 : zMl ph1448 R C rk := hE1.1
  have hR1 : zMr ph1448 sn sk cn cd := hE1.2.1
  have hP8 : P ≤ 8 := hN0.2.1
  have hG8 : G ≤ 8 := hN0.2.2.2
  refine w_load (pc' := 6) (v := .ref 170) (m := 1) (ykc_268 (e := (2, .aload_n kF0, 0)) rfl) rfl rfl ?_
  refine w_cv (as := [.ref 170]) (r := []) (ykc_268 (e := (6, .invokevirtual 424, 0)) rfl) rfl rfl rfl rfl (zm_copies hS1 hv1) (fun v1449 ph1450 hv => ?_)
  obtain ⟨rfl, fc, hv2⟩ := hv
  have hS2 := zSh_F fc (by decide +kernel) hS1
  have hE2 : zMe ph1450 (R, C, rk, sn, sk, cn, cd) := ⟨zMl_F fc (by simp) (by simp) (by simp) (by simp) hE1.1, zMr_F fc (by simp) (by simp) (by simp) (by simp) hE1.2.1, hE1.2.2⟩
  have hN2 := zMp_F fc (by simp) (by simp) (by simp) hN1
  show zW n D 268 Q 9 [some (.ref 170), none, none, none] [] ph1450
  refine w_alu (pc' := 10) (st' := [.int (Int32.ofInt (-1))]) (ykc_268 (e := (0, .iconst (-1), 0)) rfl) rfl rfl ?_
  refine w_store (pc' := 11) (L' := [some (.ref 170), some (.int (Int32.ofInt (-1))), none, none]) (st' := []) (m := 1) (ykc_268 (e := (3, .istore_n kF1, 0)) rfl) rfl rfl ?_
  refine w_alu (pc' := 12) (st' := [.int (Int32.ofInt 0)]) (ykc_268 (e := (0, .iconst 0, 0)) rfl) rfl rfl ?_
  refine w_store (pc' := 13) (L' := [some (.ref 170), some (.int (Int32.ofInt (-1))), some (.int (Int32.ofInt 0)), none]) (st' := []) (m := 1) (ykc_268 (e := (3, .istore_n kF2, 0)) rfl) rfl rfl ?_
  have hl : ∀ (n : Nat), ∀ (k : Nat) (o1 o3 : Option Value) (ph1 : pm_H), (k ≤ 100) → (∃ y1 : Int32, o1 = some (.int y1)) → (zSh ph1) → (zMe ph1 (R, C, rk, sn, sk, cn, cd)) → (zMp ph1 P G) → (zNr ph1 175 0 (zHqn (R, C, rk, sn, sk, cn, cd) P G v k)) → (zXfi (fun k => zFl P G (zHqn (R, C, rk, sn, sk, cn, cd) P G v k)) 100 0 = zXfi (fun k => zFl P G (zHqn (R, C, rk, sn, sk, cn, cd) P G v k)) (100 - k) k) → zW n D 268 Q 13 [some (.ref 170), o1, some (.int (zn k)), o3] [] ph1 := by
    intro n
    induction n using Nat.strongRecOn with
    | ind n ih =>
      intro k o1 o3 ph1 hk h1 hS hE5 hN5 hv5 he
      have tk := znt (k := k) (by omega)
      have h40 := zHqn_40 (E := (R, C, rk, sn, sk, cn, cd)) (G := G) (v := v) hP8 k
      have hok := (zHqn_ok (E := (R, C, rk, sn, sk, cn, cd)) hO0 hP8 hG8 k (by omega))
      obtain ⟨y1, rfl⟩ := h1
      show zW n D 268 Q 13 [some (.ref 170), some (.int y1), some (.int (zn k)), o3] [] ph1
      refine w_load (pc' := 14) (v := .int (zn k)) (m := 1) (ykc_268 (e := (2, .iload_n kF2, 0)) rfl) rfl rfl ?_
      refine w_push (pc' := 16) (v := .int ((Int8.ofInt 99).toInt32)) (m := 2) (ykc_268 (e := (1, .bipush 99, 0)) rfl) rfl rfl ?_
      refine w_igt (ykc_268 (e := (4, .if_icmp .gt 45, 61)) rfl) rfl (fun b1451 => ?_) (fun b1451 => ?_)
      · refine w_push (pc' := 63) (v := .int ((Int8.ofInt (-2)).toInt32)) (m := 2) (ykc_268 (e := (1, .bipush (-2), 0)) rfl) rfl rfl ?_
        refine w_ret (v := (some (.int ((Int8.ofInt (-2)).toInt32)))) (ykc_268 (e := (7, .ireturn, 0)) rfl) (zr_v rfl) ?_
        have ek : k = 100 := by omega
        subst ek
        rw [hQ]
        exact (congrArg (fun x => some (Value.int x)) (he.trans rfl)).symm
      · refine w_load (pc' := 20) (v := .ref 170) (m := 1) (ykc_268 (e := (2, .aload_n kF0, 0)) rfl) rfl rfl ?_
        refine w_load (pc' := 21) (v := .ref 170) (m := 1) (ykc_268 (e := (2, .aload_n kF0, 0)) rfl) rfl rfl ?_
        refine w_gf (pc' := 24) (v := .ref 175) (ykc_268 (e := (5, .getfield 44, 0)) rfl) rfl (zsg hS zs_170_12) rfl ?_
        refine w_cv (as := [.ref 170, .ref 175]) (r := []) (ykc_268 (e := (6, .invokevirtual 427, 0)) rfl) rfl rfl rfl rfl (zm_lacks hS hE5 hN5 (Or.inr rfl) hv5 hok (zHqn_g hg k)) (fun v1452 ph1453 hv => ?_)
        obtain ⟨rfl, z, rfl, hz⟩ := hv
        show zW n D 268 Q 27 [some (.ref 170), some (.int y1), some (.int (zn k)), o3] [.int z] ph1
        refine w_store (pc' := 28) (L' := [some (.ref 170), some (.int y1), some (.int (zn k)), some (.int z)]) (st' := []) (m := 1) (ykc_268 (e := (3, .istore_n kF3, 0)) rfl) rfl rfl ?_
        refine w_load (pc' := 29) (v := .int z) (m := 1) (ykc_268 (e := (2, .iload_n kF3, 0)) rfl) rfl rfl ?_
        refine w_zge (ykc_268 (e := (4, .ifCond .ge 16, 45)) rfl) rfl (fun b1454 => ?_) (fun b1454 => ?_)
        · refine w_load (pc' := 46) (v := .int z) (m := 1) (ykc_268 (e := (2, .iload_n kF3, 0)) rfl) rfl rfl ?_
          refine w_store (pc' := 47) (L' := [some (.ref 170), some (.int z), some (.int (zn k)), some (.int z)]) (st' := []) (m := 1) (ykc_268 (e := (3, .istore_n kF1, 0)) rfl) rfl rfl ?_
          refine w_load (pc' := 48) (v := .ref 170) (m := 1) (ykc_268 (e := (2, .aload_n kF0, 0)) rfl) rfl rfl ?_
          refine w_load (pc' := 49) (v := .ref 170) (m := 1) (ykc_268 (e := (2, .aload_n kF0, 0)) rfl) rfl rfl ?_
          refine w_gf (pc' := 52) (v := .ref 175) (ykc_268 (e := (5, .getfield 44, 0)) rfl) rfl (zsg hS zs_170_12) rfl ?_
          refine w_cv (as := [.ref 170, .ref 175]) (r := []) (ykc_268 (e := (6, .invokevirtual 347, 0)) rfl) rfl rfl rfl rfl (zm_hour hS hE5 hN5 (Or.inr rfl) hv5 hok (by omega)) (fun v1455 ph1456 hv => ?_)
          obtain ⟨rfl, f2, hv2⟩ := hv
          obtain ⟨hS6, hE6, hN6⟩ := zTb_m (v := v) (u := v) (Or.inr rfl) f2 hS hE5 hN5
          rw [show zHr (R, C, rk, sn, sk, cn, cd) P G (zHqn (R, C, rk, sn, sk, cn, cd) P G v k) = zHqn (R, C, rk, sn, sk, cn, cd) P G v (k + 1) from zHr_eq] at hv2
          show zW n D 268 Q 55 [some (.ref 170), some (.int z), some (.int (zn k)), some (.int z)] [] ph1456
          have e1457 : (zn k) + Int32.ofInt 1 = zn (k + 1) := (zaddN (a := k) (b := 1) (znt (by omega)) c_4 (by omega))
          have te1457 := znt (k := k + 1) (by omega)
          refine w_store (pc' := 58) (L' := [some (.ref 170), some (.int z), some (.int (zn (k + 1))), some (.int z)]) (st' := []) (m := 3) (ykc_268 (e := (3, .iinc 2 1, 0)) rfl) (by rw [← e1457]; rfl) rfl ?_
          refine w_gb (ykc_268 (e := (4, .goto (-45), 13)) rfl) (fun k1458 hk1458 => ?_)
          have hf : (fun k => zFl P G (zHqn (R, C, rk, sn, sk, cn, cd) P G v k)) k = false := decide_eq_false (fun q => by have := hz.mpr q; omega)
          exact ih k1458 hk1458 (k + 1) _ _ _ (by omega) ⟨_, rfl⟩ hS6 hE6 hN6 hv2 (he.trans (zXfi_b (f := (fun k => zFl P G (zHqn (R, C, rk, sn, sk, cn, cd) P G v k))) (by omega) hf))
        · have hf : (fun k => zFl P G (zHqn (R, C, rk, sn, sk, cn, cd) P G v k)) k = true := decide_eq_true (hz.mp (by omega))
          rw [hQ]
          exact zTail kc_268 false 2 32 44 (fun _ => rfl) (Or.inl ⟨_, rfl⟩) (by decide +kernel) (by decide) (by decide) rfl (by decide +kernel) (fun _ => (by rw [show zXall (R, C, rk, sn, sk, cn, cd) P G v = zXfi (fun k => zFl P G (zHqn (R, C, rk, sn, sk, cn, cd) P G v k)) 100 0 from rfl, he, zXfi_e (f := (fun k => zFl P G (zHqn (R, C, rk, sn, sk, cn, cd) P G v k))) (by omega) hf]))
  exact hl n 0 _ _ _ (by decide) ⟨_, rfl⟩ hS2 hE2 hN2 hv2 rfl
