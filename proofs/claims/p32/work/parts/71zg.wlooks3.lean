/-! what looks answer: best; printed by wip/z/z3b_looks.py -/
theorem zT_cg {f g : Nat → Bool} {n : Nat} (h : ∀ i, i < n → f i = g i) : zT f n = zT g n := by
  induction n with
  | zero => rfl
  | succ n ih =>
    show (zT f n ||| bif f n then _ else _) = (zT g n ||| bif g n then _ else _)
    rw [ih (fun i hi => h i (by omega)), h n (by omega)]
def zXth (E : zEn) (P G : Nat) (v : Nat → Nat) (p k : Nat) : Int32 := zT (fun t => zsee E.2.1 E.2.2.1 (v p) (v (32 + t)) k (v (16 + p)) (zRe E P v p (v (16 + p)))) G
theorem zXth_c {E : zEn} {P G p k : Nat} {v : Nat → Nat} (hn : E.1 * E.2.1 ≤ 64) (ho : ∀ t, t < G → v (32 + t) < E.1 * E.2.1) : zTon G v (zS (fun g => zsee E.2.1 E.2.2.1 (v p) g k (v (16 + p)) (zRe E P v p (v (16 + p)))) (E.1 * E.2.1)) = zXth E P G v p k := by
  refine zT_cg fun t ht => ?_
  have h := ho t ht
  rw [zS_b hn (by omega), decide_eq_true h, Bool.true_and]
def zXbest (E : zEn) (P G : Nat) (v : Nat → Nat) (x : Int32) : Int32 := if 0 ≤ x.toInt ∧ x.toInt < (P : Int) then zn (zXw (fun k => zpc (zXth E P G v x.toInt.toNat k)) 7) else Int32.ofInt (-1)
theorem zXbest_n {E : zEn} {P G : Nat} {v : Nat → Nat} {x : Int32} (h : ¬ (0 ≤ x.toInt ∧ x.toInt < (P : Int))) : (some (.int (Int32.ofInt (-1))) : Option Value) = some (.int (zXbest E P G v x)) := by
  unfold zXbest
  rw [if_neg h]
theorem zXbest_p {E : zEn} {P G p : Nat} {v : Nat → Nat} (hp : p < P) (hP : P ≤ 8) : (some (.int (zn (zXw (fun k => zpc (zXth E P G v p k)) 7))) : Option Value) = some (.int (zXbest E P G v (zn p))) := by
  have t := znt (k := p) (by omega)
  unfold zXbest
  rw [if_pos (by omega), show (zn p).toInt.toNat = p by omega]
theorem zm_wouldT {ph : pm_H} {E : zEn} {P G : Nat} {v : Nat → Nat} (hS : zSh ph) (hE : zMe ph E) (hN : zMp ph P G) (hv : zNr ph 174 0 v) (hO : zOk E.1 E.2.1 P G v) {p fc : Nat} (hp : p < P) (hf : fc < 8) : zM 273 [.ref 170, .int (zn p), .int (zn fc)] ph (fun v0 q => zSc ph q ∧ v0 = some (.int (zXth E P G v p fc))) := by
  obtain ⟨Q, hQ⟩ : ∃ Q : Option Value → pm_H → Prop, Q = (fun v0 q => zSc ph q ∧ v0 = some (.int (zXth E P G v p fc))) := ⟨_, rfl⟩
  rw [← hQ]
  refine zM_mk fun n D => ?_
  show zW n D 273 Q 0 [some (.ref 170), some (.int (zn p)), some (.int (zn fc)), none, none] [] ph
  have c_0 : ((Int8.ofInt 32).toInt32).toInt = 32 := by decide
  have c_1 : (Int32.ofInt 0).toInt = 0 := by decide
  have c_2 : (Int32.ofInt 1).toInt = 1 := by decide
  have hA : (174 : Nat) = 174 ∨ (174 : Nat) = 175 := Or.inl rfl
  obtain ⟨R, C, rk, sn, sk, cn, cd⟩ := E
  have hL0 : zMl ph R C rk := hE.1
  have hR0 : zMr ph sn sk cn cd := hE.2.1
  have hcg : zcg cn cd := hE.2.2
  have hE0 : zMe ph (R, C, rk, sn, sk, cn, cd) := hE
  have hO0 : zOk R C P G v := hO
  have hN0 := hN
  have hL := hL0
  have hR := hR0
  obtain ⟨gR, gC, gK, hR3, hR7, hC3, hC7⟩ := hL
  have hRC := zRC49 hR7 hC7
  have tR := znt (k := R) (by omega)
  have tC := znt (k := C) (by omega)
  obtain ⟨gP, hP8, gG, hG8⟩ := hN
  have tP := znt (k := P) (by omega)
  have tG := znt (k := G) (by omega)
  obtain ⟨gsn, hs1, hs20, gsk, gcn, hc40, gcd⟩ := hR
  have tsn := znt (k := sn) (by omega)
  have tcn := znt (k := cn) (by omega)
  have tp := znt (k := p) (by omega)
  have tfc := znt (k := fc) (by omega)
  have op := hO0.1 p hp
  refine w_alu (pc' := 1) (st' := [.int (Int32.ofInt 0)]) (ykc_273 (e := (0, .iconst 0, 0)) rfl) rfl rfl ?_
  refine w_store (pc' := 2) (L' := [some (.ref 170), some (.int (zn p)), some (.int (zn fc)), some (.int (Int32.ofInt 0)), none]) (st' := []) (m := 1) (ykc_273 (e := (3, .istore_n kF3, 0)) rfl) rfl rfl ?_
  refine w_alu (pc' := 3) (st' := [.int (Int32.ofInt 0)]) (ykc_273 (e := (0, .iconst 0, 0)) rfl) rfl rfl ?_
  refine w_store (pc' := 5) (L' := [some (.ref 170), some (.int (zn p)), some (.int (zn fc)), some (.int (Int32.ofInt 0)), some (.int (Int32.ofInt 0))]) (st' := []) (m := 2) (ykc_273 (e := (3, .istore 4, 0)) rfl) rfl rfl ?_
  have hl : ∀ (n : Nat), ∀ (k : Nat) (ph1 : pm_H), (k ≤ G) → (zSc ph ph1) → zW n D 273 Q 5 [some (.ref 170), some (.int (zn p)), some (.int (zn fc)), some (.int (zT (fun t => zsee C rk (v p) (v (32 + t)) fc (v (16 + p)) (zRe (R, C, rk, sn, sk, cn, cd) P v p (v (16 + p)))) k)), some (.int (zn k))] [] ph1 := by
    intro n
    induction n using Nat.strongRecOn with
    | ind n ih =>
      intro k ph1 hk hf1
      have tk := znt (k := k) (by omega)
      refine w_load (pc' := 7) (v := .int (zn k)) (m := 2) (ykc_273 (e := (2, .iload 4, 0)) rfl) rfl rfl ?_
      refine w_load (pc' := 8) (v := .ref 170) (m := 1) (ykc_273 (e := (2, .aload_n kF0, 0)) rfl) rfl rfl ?_
      refine w_gf (pc' := 11) (v := .int (zn G)) (ykc_273 (e := (5, .getfield 133, 0)) rfl) rfl ((hf1.1 170 6 (by decide) (by decide)).trans gG) rfl ?_
      refine w_ige (ykc_273 (e := (4, .if_icmp .ge 39, 50)) rfl) rfl (fun b1155 => ?_) (fun b1155 => ?_)
      · refine w_load (pc' := 51) (v := .int (zT (fun t => zsee C rk (v p) (v (32 + t)) fc (v (16 + p)) (zRe (R, C, rk, sn, sk, cn, cd) P v p (v (16 + p)))) k)) (m := 1) (ykc_273 (e := (2, .iload_n kF3, 0)) rfl) rfl rfl ?_
        refine w_ret (v := (some (.int (zT (fun t => zsee C rk (v p) (v (32 + t)) fc (v (16 + p)) (zRe (R, C, rk, sn, sk, cn, cd) P v p (v (16 + p)))) k)))) (ykc_273 (e := (7, .ireturn, 0)) rfl) (zr_v rfl) ?_
        have ek : G = k := by omega
        subst ek
        rw [hQ]
        exact ⟨hf1, rfl⟩
      · refine w_load (pc' := 15) (v := .int (zT (fun t => zsee C rk (v p) (v (32 + t)) fc (v (16 + p)) (zRe (R, C, rk, sn, sk, cn, cd) P v p (v (16 + p)))) k)) (m := 1) (ykc_273 (e := (2, .iload_n kF3, 0)) rfl) rfl rfl ?_
        refine w_load (pc' := 16) (v := .ref 170) (m := 1) (ykc_273 (e := (2, .aload_n kF0, 0)) rfl) rfl rfl ?_
        refine w_load (pc' := 17) (v := .int (zn p)) (m := 1) (ykc_273 (e := (2, .iload_n kF1, 0)) rfl) rfl rfl ?_
        refine w_load (pc' := 18) (v := .ref 170) (m := 1) (ykc_273 (e := (2, .aload_n kF0, 0)) rfl) rfl rfl ?_
        refine w_gf (pc' := 21) (v := .ref 174) (ykc_273 (e := (5, .getfield 41, 0)) rfl) rfl ((hf1.1 170 11 (by decide) (by decide)).trans (zsg hS zs_170_11)) rfl ?_
        refine w_push (pc' := 23) (v := .int ((Int8.ofInt 32).toInt32)) (m := 2) (ykc_273 (e := (1, .bipush 32, 0)) rfl) rfl rfl ?_
        refine w_load (pc' := 25) (v := .int (zn k)) (m := 2) (ykc_273 (e := (2, .iload 4, 0)) rfl) rfl rfl ?_
        have e1156 : ((Int8.ofInt 32).toInt32) + (zn k) = zn (32 + k) := (zaddN (a := 32) (b := k) c_0 (znt (by omega)) (by omega)) 
        have te1156 := znt (k := 32 + k) (by omega)
        refine w_alu (pc' := 26) (st' := [.int (zn (32 + k)), .ref 174, .int (zn p), .ref 170, .int (zT (fun t => zsee C rk (v p) (v (32 + t)) fc (v (16 + p)) (zRe (R, C, rk, sn, sk, cn, cd) P v p (v (16 + p)))) k)]) (ykc_273 (e := (0, .iadd, 0)) rfl) (by rw [← e1156]; rfl) rfl ?_
        have q1157 := hO0.2.1 k (by omega)
        have tq1157 := znt (k := v (32 + k)) (by omega)
        refine w_ialk (pc' := 27) (k := 32 + k) (ykc_273 (e := (5, .iaload, 0)) rfl) ((hf1.1 174 (32 + k) (by decide) (by simp)).trans (zNr0 hv (i := 32 + k) (by omega))) (by omega) rfl ?_
        refine w_load (pc' := 28) (v := .int (zn fc)) (m := 1) (ykc_273 (e := (2, .iload_n kF2, 0)) rfl) rfl rfl ?_
        refine w_cv (as := [.ref 170, .int (zn p), .int (zn (v (32 + k))), .int (zn fc)]) (r := [.int (zT (fun t => zsee C rk (v p) (v (32 + t)) fc (v (16 + p)) (zRe (R, C, rk, sn, sk, cn, cd) P v p (v (16 + p)))) k)]) (ykc_273 (e := (6, .invokevirtual 433, 0)) rfl) rfl rfl rfl rfl (zm_would (zSc_S hf1 hS) (zSc_e hf1 hE0) (zSc_p hf1 hN0) (zSc_a hf1 (⟨hA, hv⟩ : (174 = 174 ∨ 174 = 175) ∧ zNr ph 174 0 v)).2 hO0 (p := p) (g := v (32 + k)) (fc := fc) (by omega) (show v (32 + k) < R * C by omega) (by omega)) (fun v1159 ph1160 hv => ?_)
        obtain ⟨f1158, rfl⟩ := hv
        show zW n D 273 Q 31 [some (.ref 170), some (.int (zn p)), some (.int (zn fc)), some (.int (zT (fun t => zsee C rk (v p) (v (32 + t)) fc (v (16 + p)) (zRe (R, C, rk, sn, sk, cn, cd) P v p (v (16 + p)))) k)), some (.int (zn k))] [.int (zI (zsee C rk (v p) (v (32 + k)) fc (v (16 + p)) (zRe (R, C, rk, sn, sk, cn, cd) P v p (v (16 + p))))), .int (zT (fun t => zsee C rk (v p) (v (32 + t)) fc (v (16 + p)) (zRe (R, C, rk, sn, sk, cn, cd) P v p (v (16 + p)))) k)] ph1160
        refine w_beq (ykc_273 (e := (4, .ifCond .eq 10, 41)) rfl) rfl (fun b1161 => ?_) (fun b1161 => ?_)
        · refine w_alu (pc' := 42) (st' := [.int (Int32.ofInt 0), .int (zT (fun t => zsee C rk (v p) (v (32 + t)) fc (v (16 + p)) (zRe (R, C, rk, sn, sk, cn, cd) P v p (v (16 + p)))) k)]) (ykc_273 (e := (0, .iconst 0, 0)) rfl) rfl rfl ?_
          refine w_alu (pc' := 43) (st' := [.int ((zT (fun t => zsee C rk (v p) (v (32 + t)) fc (v (16 + p)) (zRe (R, C, rk, sn, sk, cn, cd) P v p (v (16 + p)))) k) ||| (Int32.ofInt 0))]) (ykc_273 (e := (0, .ior, 0)) rfl) rfl rfl ?_
          refine w_store (pc' := 44) (L' := [some (.ref 170), some (.int (zn p)), some (.int (zn fc)), some (.int ((zT (fun t => zsee C rk (v p) (v (32 + t)) fc (v (16 + p)) (zRe (R, C, rk, sn, sk, cn, cd) P v p (v (16 + p)))) k) ||| (Int32.ofInt 0))), some (.int (zn k))]) (st' := []) (m := 1) (ykc_273 (e := (3, .istore_n kF3, 0)) rfl) rfl rfl ?_
          have e1162 : (zn k) + Int32.ofInt 1 = zn (k + 1) := (zaddN (a := k) (b := 1) (znt (by omega)) c_2 (by omega))
          have te1162 := znt (k := k + 1) (by omega)
          refine w_store (pc' := 47) (L' := [some (.ref 170), some (.int (zn p)), some (.int (zn fc)), some (.int ((zT (fun t => zsee C rk (v p) (v (32 + t)) fc (v (16 + p)) (zRe (R, C, rk, sn, sk, cn, cd) P v p (v (16 + p)))) k) ||| (Int32.ofInt 0))), some (.int (zn (k + 1)))]) (st' := []) (m := 3) (ykc_273 (e := (3, .iinc 4 1, 0)) rfl) (by rw [← e1162]; rfl) rfl ?_
          refine w_gb (ykc_273 (e := (4, .goto (-42), 5)) rfl) (fun k1163 hk1163 => ?_)
          have et : zT (fun t => zsee C rk (v p) (v (32 + t)) fc (v (16 + p)) (zRe (R, C, rk, sn, sk, cn, cd) P v p (v (16 + p)))) (k + 1) = (zT (fun t => zsee C rk (v p) (v (32 + t)) fc (v (16 + p)) (zRe (R, C, rk, sn, sk, cn, cd) P v p (v (16 + p)))) k) ||| (Int32.ofInt 0) := by
            show (zT (fun t => zsee C rk (v p) (v (32 + t)) fc (v (16 + p)) (zRe (R, C, rk, sn, sk, cn, cd) P v p (v (16 + p)))) k ||| bif zsee C rk (v p) (v (32 + k)) fc (v (16 + p)) (zRe (R, C, rk, sn, sk, cn, cd) P v p (v (16 + p))) then _ else _) = _
            rw [b1161]
            rfl
          have h9 := ih k1163 hk1163 (k + 1) _ (by omega) (zFr_trans hf1 f1158)
          rw [et] at h9
          exact h9
        · refine w_alu (pc' := 35) (st' := [.int (Int32.ofInt 1), .int (zT (fun t => zsee C rk (v p) (v (32 + t)) fc (v (16 + p)) (zRe (R, C, rk, sn, sk, cn, cd) P v p (v (16 + p)))) k)]) (ykc_273 (e := (0, .iconst 1, 0)) rfl) rfl rfl ?_
          refine w_load (pc' := 37) (v := .int (zn k)) (m := 2) (ykc_273 (e := (2, .iload 4, 0)) rfl) rfl rfl ?_
          refine w_alu (pc' := 38) (st' := [.int ((Int32.ofInt 1) <<< ((zn k) &&& 31)), .int (zT (fun t => zsee C rk (v p) (v (32 + t)) fc (v (16 + p)) (zRe (R, C, rk, sn, sk, cn, cd) P v p (v (16 + p)))) k)]) (ykc_273 (e := (0, .ishl, 0)) rfl) rfl rfl ?_
          refine w_br (pc' := 42) (st' := [.int ((Int32.ofInt 1) <<< ((zn k) &&& 31)), .int (zT (fun t => zsee C rk (v p) (v (32 + t)) fc (v (16 + p)) (zRe (R, C, rk, sn, sk, cn, cd) P v p (v (16 + p)))) k)]) (ykc_273 (e := (4, .goto 4, 42)) rfl) rfl ?_
          refine w_alu (pc' := 43) (st' := [.int ((zT (fun t => zsee C rk (v p) (v (32 + t)) fc (v (16 + p)) (zRe (R, C, rk, sn, sk, cn, cd) P v p (v (16 + p)))) k) ||| ((Int32.ofInt 1) <<< ((zn k) &&& 31)))]) (ykc_273 (e := (0, .ior, 0)) rfl) rfl rfl ?_
          refine w_store (pc' := 44) (L' := [some (.ref 170), some (.int (zn p)), some (.int (zn fc)), some (.int ((zT (fun t => zsee C rk (v p) (v (32 + t)) fc (v (16 + p)) (zRe (R, C, rk, sn, sk, cn, cd) P v p (v (16 + p)))) k) ||| ((Int32.ofInt 1) <<< ((zn k) &&& 31)))), some (.int (zn k))]) (st' := []) (m := 1) (ykc_273 (e := (3, .istore_n kF3, 0)) rfl) rfl rfl ?_
          have e1164 : (zn k) + Int32.ofInt 1 = zn (k + 1) := (zaddN (a := k) (b := 1) (znt (by omega)) c_2 (by omega))
          have te1164 := znt (k := k + 1) (by omega)
          refine w_store (pc' := 47) (L' := [some (.ref 170), some (.int (zn p)), some (.int (zn fc)), some (.int ((zT (fun t => zsee C rk (v p) (v (32 + t)) fc (v (16 + p)) (zRe (R, C, rk, sn, sk, cn, cd) P v p (v (16 + p)))) k) ||| ((Int32.ofInt 1) <<< ((zn k) &&& 31)))), some (.int (zn (k + 1)))]) (st' := []) (m := 3) (ykc_273 (e := (3, .iinc 4 1, 0)) rfl) (by rw [← e1164]; rfl) rfl ?_
          refine w_gb (ykc_273 (e := (4, .goto (-42), 5)) rfl) (fun k1165 hk1165 => ?_)
          have et : zT (fun t => zsee C rk (v p) (v (32 + t)) fc (v (16 + p)) (zRe (R, C, rk, sn, sk, cn, cd) P v p (v (16 + p)))) (k + 1) = (zT (fun t => zsee C rk (v p) (v (32 + t)) fc (v (16 + p)) (zRe (R, C, rk, sn, sk, cn, cd) P v p (v (16 + p)))) k) ||| ((Int32.ofInt 1) <<< ((zn k) &&& 31)) := by
            show (zT (fun t => zsee C rk (v p) (v (32 + t)) fc (v (16 + p)) (zRe (R, C, rk, sn, sk, cn, cd) P v p (v (16 + p)))) k ||| bif zsee C rk (v p) (v (32 + k)) fc (v (16 + p)) (zRe (R, C, rk, sn, sk, cn, cd) P v p (v (16 + p))) then _ else _) = _
            rw [b1161]
            rfl
          have h9 := ih k1165 hk1165 (k + 1) _ (by omega) (zFr_trans hf1 f1158)
          rw [et] at h9
          exact h9
  exact hl n 0 ph (Nat.zero_le _) zFr_refl
theorem zc_bestX {ph : pm_H} {E : zEn} {F P G : Nat} {v : Nat → Nat} (hS : zSh ph) (hE : zCe ph E F) (ht : zCt ph 25 P G v) (hO : zOk E.1 E.2.1 P G v) (hr : zc ph 10 1 = some (.ref F)) (hc : zCc ph E.1 E.2.1 E.2.2.1) {x : Int32} : zM 160 [.ref 0, .int x] ph (fun v0 _ => v0 = some (.int (zXbest E P G v x))) := by
  obtain ⟨Q, hQ⟩ : ∃ Q : Option Value → pm_H → Prop, Q = (fun v0 _ => v0 = some (.int (zXbest E P G v x))) := ⟨_, rfl⟩
  rw [← hQ]
  refine zM_mk fun n D => ?_
  show zW n D 160 Q 0 [some (.ref 0), some (.int x), none, none, none, none, none] [] ph
  have c_0 : ((Int8.ofInt 8).toInt32).toInt = 8 := by decide
  have c_1 : (Int32.ofInt (-1)).toInt = -1 := by decide
  have c_2 : (Int32.ofInt 0).toInt = 0 := by decide
  have c_3 : (Int32.ofInt 1).toInt = 1 := by decide
  obtain ⟨R, C, rk, sn, sk, cn, cd⟩ := E
  have hL0 : zCl ph R C rk := hE.1
  have hi0 : zCi ph sn sk := hE.2.1
  have hF : F = 11 ∨ F = 16 := hE.2.2.2
  have hE0 : zCe ph (R, C, rk, sn, sk, cn, cd) F := hE
  have hO0 : zOk R C P G v := hO
  have hL := hL0
  have hs := ht.1.2
  have hd := ht.2
  have h25 := ht.1.1
  obtain ⟨gR, gC, gN, gK, gA, hR3, hR7, hC3, hC7⟩ := hL
  have hRC := zRC49 hR7 hC7
  have tR := znt (k := R) (by omega)
  have tC := znt (k := C) (by omega)
  have tRC := znt (k := R * C) (by omega)
  have hd0 := hd
  have hs0 := hs
  obtain ⟨r3, r4, r5, r6, r7, l1, l2, l3, l4, l5⟩ := hs
  obtain ⟨gP, hP8, gG, hG8, gH, gv, gw⟩ := hd
  have tP := znt (k := P) (by omega)
  have tG := znt (k := G) (by omega)
  have h40 := hO0.2.2
  have t40 := znt (k := v 40) (by omega)
  have hc0 := hc
  refine w_load (pc' := 1) (v := .ref 0) (m := 1) (ykc_160 (e := (2, .aload_n kF0, 0)) rfl) rfl rfl ?_
  refine w_gf (pc' := 4) (v := .ref 25) (ykc_160 (e := (5, .getfield 42, 0)) rfl) rfl (zsg hS zs_0_4) rfl ?_
  refine w_load (pc' := 5) (v := .int x) (m := 1) (ykc_160 (e := (2, .iload_n kF1, 0)) rfl) rfl rfl ?_
  refine w_cv (as := [.ref 25, .int x]) (r := []) (ykc_160 (e := (6, .invokevirtual 167, 0)) rfl) rfl rfl rfl rfl (zc_hasP ht.1.2 ht.2 (i := x)) (fun v1166 ph1167 hv => ?_)
  obtain ⟨rfl, rfl⟩ := hv
  show zW n D 160 Q 8 [some (.ref 0), some (.int x), none, none, none, none, none] [.int (zI (decide (0 ≤ x.toInt ∧ x.toInt < ((P : Nat) : Int))))] ph
  refine w_bne (ykc_160 (e := (4, .ifCond .ne 5, 13)) rfl) rfl (fun b1168 => ?_) (fun b1168 => ?_)
  · have b_p := of_decide_eq_true b1168
    obtain ⟨p, h_p, rfl⟩ : ∃ p : Nat, p < P ∧ x = zn p := ⟨x.toInt.toNat, by omega, zn_of (by omega)⟩
    have t_p := znt (k := p) (by omega)
    have op := hO0.1 p h_p
    have tvp := znt (k := v p) (by omega)
    have tvf := znt (k := v (8 + p)) (by omega)
    have tvb := znt (k := v (16 + p)) (by omega)
    show zW n D 160 Q 13 [some (.ref 0), some (.int (zn p)), none, none, none, none, none] [] ph
    refine w_load (pc' := 14) (v := .ref 0) (m := 1) (ykc_160 (e := (2, .aload_n kF0, 0)) rfl) rfl rfl ?_
    refine w_gf (pc' := 17) (v := .ref 10) (ykc_160 (e := (5, .getfield 35, 0)) rfl) rfl (zsg hS zs_0_3) rfl ?_
    refine w_load (pc' := 18) (v := .ref 0) (m := 1) (ykc_160 (e := (2, .aload_n kF0, 0)) rfl) rfl rfl ?_
    refine w_gf (pc' := 21) (v := .ref 25) (ykc_160 (e := (5, .getfield 42, 0)) rfl) rfl (zsg hS zs_0_4) rfl ?_
    refine w_load (pc' := 22) (v := .int (zn p)) (m := 1) (ykc_160 (e := (2, .iload_n kF1, 0)) rfl) rfl rfl ?_
    refine w_cv (as := [.ref 10, .ref 25, .int (zn p)]) (r := []) (ykc_160 (e := (6, .invokevirtual 186, 0)) rfl) rfl rfl rfl rfl (zc_reachP hS hE0 ht hO0 hr (p := p) (by omega)) (fun v1170 ph1171 hv => ?_)
    obtain ⟨f1169, rfl⟩ := hv
    have hRe : zRe (R, C, rk, sn, sk, cn, cd) P v p (v (16 + p)) ≤ 9 := zRe_9
    show zW n D 160 Q 25 [some (.ref 0), some (.int (zn p)), none, none, none, none, none] [.int (zn (zRe (R, C, rk, sn, sk, cn, cd) P v p (v (16 + p))))] ph1171
    refine w_store (pc' := 26) (L' := [some (.ref 0), some (.int (zn p)), some (.int (zn (zRe (R, C, rk, sn, sk, cn, cd) P v p (v (16 + p))))), none, none, none, none]) (st' := []) (m := 1) (ykc_160 (e := (3, .istore_n kF2, 0)) rfl) rfl rfl ?_
    refine w_alu (pc' := 27) (st' := [.int (Int32.ofInt 0)]) (ykc_160 (e := (0, .iconst 0, 0)) rfl) rfl rfl ?_
    refine w_store (pc' := 28) (L' := [some (.ref 0), some (.int (zn p)), some (.int (zn (zRe (R, C, rk, sn, sk, cn, cd) P v p (v (16 + p))))), some (.int (Int32.ofInt 0)), none, none, none]) (st' := []) (m := 1) (ykc_160 (e := (3, .istore_n kF3, 0)) rfl) rfl rfl ?_
    refine w_load (pc' := 29) (v := .ref 0) (m := 1) (ykc_160 (e := (2, .aload_n kF0, 0)) rfl) rfl rfl ?_
    refine w_gf (pc' := 32) (v := .ref 25) (ykc_160 (e := (5, .getfield 42, 0)) rfl) rfl ((f1169.1 0 4 (by decide) (by decide)).trans (zsg hS zs_0_4)) rfl ?_
    refine w_load (pc' := 33) (v := .ref 0) (m := 1) (ykc_160 (e := (2, .aload_n kF0, 0)) rfl) rfl rfl ?_
    refine w_load (pc' := 34) (v := .int (zn p)) (m := 1) (ykc_160 (e := (2, .iload_n kF1, 0)) rfl) rfl rfl ?_
    refine w_alu (pc' := 35) (st' := [.int (Int32.ofInt 0), .int (zn p), .ref 0, .ref 25]) (ykc_160 (e := (0, .iconst 0, 0)) rfl) rfl rfl ?_
    refine w_load (pc' := 36) (v := .int (zn (zRe (R, C, rk, sn, sk, cn, cd) P v p (v (16 + p))))) (m := 1) (ykc_160 (e := (2, .iload_n kF2, 0)) rfl) rfl rfl ?_
    refine w_cv (as := [.ref 0, .int (zn p), .int (Int32.ofInt 0), .int (zn (zRe (R, C, rk, sn, sk, cn, cd) P v p (v (16 + p))))]) (r := [.ref 25]) (ykc_160 (e := (6, .invokevirtual 341, 0)) rfl) rfl rfl rfl rfl (zc_viewF (zCx_S (zCr_x f1169) hS) (zCx_e (zCr_x f1169) hE0) (zCx_t (zCr_x f1169) ht) hO0 ((f1169.1 10 1 (by decide) (by decide)).trans hr) (zCr_c f1169 hc0) (p := p) (fc := 0) (re := zRe (R, C, rk, sn, sk, cn, cd) P v p (v (16 + p))) (by omega) (by omega) (by omega)) (fun v1174 ph1175 hv => ?_)
    obtain ⟨f1172, hc1173, rfl⟩ := hv
    show zW n D 160 Q 39 [some (.ref 0), some (.int (zn p)), some (.int (zn (zRe (R, C, rk, sn, sk, cn, cd) P v p (v (16 + p))))), some (.int (Int32.ofInt 0)), none, none, none] [.long (zS (fun g => zsee C rk (v p) g 0 (v (16 + p)) (zRe (R, C, rk, sn, sk, cn, cd) P v p (v (16 + p)))) (R * C)), .ref 25] ph1175
    refine w_cv (as := [.ref 25, .long (zS (fun g => zsee C rk (v p) g 0 (v (16 + p)) (zRe (R, C, rk, sn, sk, cn, cd) P v p (v (16 + p)))) (R * C))]) (r := []) (ykc_160 (e := (6, .invokevirtual 194, 0)) rfl) rfl rfl rfl rfl (zc_ton (zCx_t (zFr_trans (zCr_x f1169) f1172) ht).1.2 (zCx_t (zFr_trans (zCr_x f1169) f1172) ht).2 (x := zS (fun g => zsee C rk (v p) g 0 (v (16 + p)) (zRe (R, C, rk, sn, sk, cn, cd) P v p (v (16 + p)))) (R * C)) (fun i hi => by have := hO0.2.1 i hi; omega)) (fun v1176 ph1177 hv => ?_)
    obtain ⟨rfl, rfl⟩ := hv
    rw [show zTon G v (zS (fun g => zsee C rk (v p) g 0 (v (16 + p)) (zRe (R, C, rk, sn, sk, cn, cd) P v p (v (16 + p)))) (R * C)) = zXth (R, C, rk, sn, sk, cn, cd) P G v p 0 from zXth_c (E := (R, C, rk, sn, sk, cn, cd)) (show R * C ≤ 64 by omega) hO0.2.1]
    show zW n D 160 Q 42 [some (.ref 0), some (.int (zn p)), some (.int (zn (zRe (R, C, rk, sn, sk, cn, cd) P v p (v (16 + p))))), some (.int (Int32.ofInt 0)), none, none, none] [.int (zXth (R, C, rk, sn, sk, cn, cd) P G v p 0)] ph1175
    refine w_store (pc' := 44) (L' := [some (.ref 0), some (.int (zn p)), some (.int (zn (zRe (R, C, rk, sn, sk, cn, cd) P v p (v (16 + p))))), some (.int (Int32.ofInt 0)), some (.int (zXth (R, C, rk, sn, sk, cn, cd) P G v p 0)), none, none]) (st' := []) (m := 2) (ykc_160 (e := (3, .istore 4, 0)) rfl) rfl rfl ?_
    refine w_alu (pc' := 45) (st' := [.int (Int32.ofInt 1)]) (ykc_160 (e := (0, .iconst 1, 0)) rfl) rfl rfl ?_
    refine w_store (pc' := 47) (L' := [some (.ref 0), some (.int (zn p)), some (.int (zn (zRe (R, C, rk, sn, sk, cn, cd) P v p (v (16 + p))))), some (.int (Int32.ofInt 0)), some (.int (zXth (R, C, rk, sn, sk, cn, cd) P G v p 0)), some (.int (Int32.ofInt 1)), none]) (st' := []) (m := 2) (ykc_160 (e := (3, .istore 5, 0)) rfl) rfl rfl ?_
    have hl : ∀ (n : Nat), ∀ (k : Nat) (o6 : Option Value) (ph1 : pm_H), (k + 1 ≤ 8) → (zCx ph1175 ph1) → (zCc ph1 R C rk) → zW n D 160 Q 47 [some (.ref 0), some (.int (zn p)), some (.int (zn (zRe (R, C, rk, sn, sk, cn, cd) P v p (v (16 + p))))), some (.int (zn (zXw (fun k => zpc (zXth (R, C, rk, sn, sk, cn, cd) P G v p k)) k))), some (.int (zXth (R, C, rk, sn, sk, cn, cd) P G v p (zXw (fun k => zpc (zXth (R, C, rk, sn, sk, cn, cd) P G v p k)) k))), some (.int (zn (k + 1))), o6] [] ph1 := by
      intro n
      induction n using Nat.strongRecOn with
      | ind n ih =>
        intro k o6 ph1 hk hf1 hc1
        have tk := znt (k := k + 1) (by omega)
        have lw := @zXw_le (fun k => zpc (zXth (R, C, rk, sn, sk, cn, cd) P G v p k)) k
        have tw := znt (k := zXw (fun k => zpc (zXth (R, C, rk, sn, sk, cn, cd) P G v p k)) k) (by omega)
        refine w_load (pc' := 49) (v := .int (zn (k + 1))) (m := 2) (ykc_160 (e := (2, .iload 5, 0)) rfl) rfl rfl ?_
        refine w_push (pc' := 51) (v := .int ((Int8.ofInt 8).toInt32)) (m := 2) (ykc_160 (e := (1, .bipush 8, 0)) rfl) rfl rfl ?_
        refine w_ige (ykc_160 (e := (4, .if_icmp .ge 46, 97)) rfl) rfl (fun b1178 => ?_) (fun b1178 => ?_)
        · have ek : k = 7 := by omega
          subst ek
          rw [hQ]
          exact zTail kc_160 false 3 97 9999 (fun _ => rfl) (Or.inl ⟨_, rfl⟩) (by decide +kernel) (by decide) (by decide) rfl (by decide +kernel) (fun _ => zXbest_p (E := (R, C, rk, sn, sk, cn, cd)) h_p (by omega))
        · refine w_load (pc' := 55) (v := .ref 0) (m := 1) (ykc_160 (e := (2, .aload_n kF0, 0)) rfl) rfl rfl ?_
          refine w_gf (pc' := 58) (v := .ref 25) (ykc_160 (e := (5, .getfield 42, 0)) rfl) rfl ((hf1.1 0 4 (by decide) (by decide)).trans ((f1172.1 0 4 (by decide) (by decide)).trans ((f1169.1 0 4 (by decide) (by decide)).trans (zsg hS zs_0_4)))) rfl ?_
          refine w_load (pc' := 59) (v := .ref 0) (m := 1) (ykc_160 (e := (2, .aload_n kF0, 0)) rfl) rfl rfl ?_
          refine w_load (pc' := 60) (v := .int (zn p)) (m := 1) (ykc_160 (e := (2, .iload_n kF1, 0)) rfl) rfl rfl ?_
          refine w_load (pc' := 62) (v := .int (zn (k + 1))) (m := 2) (ykc_160 (e := (2, .iload 5, 0)) rfl) rfl rfl ?_
          refine w_load (pc' := 63) (v := .int (zn (zRe (R, C, rk, sn, sk, cn, cd) P v p (v (16 + p))))) (m := 1) (ykc_160 (e := (2, .iload_n kF2, 0)) rfl) rfl rfl ?_
          refine w_cv (as := [.ref 0, .int (zn p), .int (zn (k + 1)), .int (zn (zRe (R, C, rk, sn, sk, cn, cd) P v p (v (16 + p))))]) (r := [.ref 25]) (ykc_160 (e := (6, .invokevirtual 341, 0)) rfl) rfl rfl rfl rfl (zc_viewF (zCx_S (zFr_trans (zFr_trans (zCr_x f1169) f1172) hf1) hS) (zCx_e (zFr_trans (zFr_trans (zCr_x f1169) f1172) hf1) hE0) (zCx_t (zFr_trans (zFr_trans (zCr_x f1169) f1172) hf1) ht) hO0 ((hf1.1 10 1 (by decide) (by decide)).trans ((f1172.1 10 1 (by decide) (by decide)).trans ((f1169.1 10 1 (by decide) (by decide)).trans hr))) hc1 (p := p) (fc := k + 1) (re := zRe (R, C, rk, sn, sk, cn, cd) P v p (v (16 + p))) (by omega) (by omega) (by omega)) (fun v1181 ph1182 hv => ?_)
          obtain ⟨f1179, hc1180, rfl⟩ := hv
          show zW n D 160 Q 66 [some (.ref 0), some (.int (zn p)), some (.int (zn (zRe (R, C, rk, sn, sk, cn, cd) P v p (v (16 + p))))), some (.int (zn (zXw (fun k => zpc (zXth (R, C, rk, sn, sk, cn, cd) P G v p k)) k))), some (.int (zXth (R, C, rk, sn, sk, cn, cd) P G v p (zXw (fun k => zpc (zXth (R, C, rk, sn, sk, cn, cd) P G v p k)) k))), some (.int (zn (k + 1))), o6] [.long (zS (fun g => zsee C rk (v p) g (k + 1) (v (16 + p)) (zRe (R, C, rk, sn, sk, cn, cd) P v p (v (16 + p)))) (R * C)), .ref 25] ph1182
          refine w_cv (as := [.ref 25, .long (zS (fun g => zsee C rk (v p) g (k + 1) (v (16 + p)) (zRe (R, C, rk, sn, sk, cn, cd) P v p (v (16 + p)))) (R * C))]) (r := []) (ykc_160 (e := (6, .invokevirtual 194, 0)) rfl) rfl rfl rfl rfl (zc_ton (zCx_t (zFr_trans (zFr_trans (zFr_trans (zCr_x f1169) f1172) hf1) f1179) ht).1.2 (zCx_t (zFr_trans (zFr_trans (zFr_trans (zCr_x f1169) f1172) hf1) f1179) ht).2 (x := zS (fun g => zsee C rk (v p) g (k + 1) (v (16 + p)) (zRe (R, C, rk, sn, sk, cn, cd) P v p (v (16 + p)))) (R * C)) (fun i hi => by have := hO0.2.1 i hi; omega)) (fun v1183 ph1184 hv => ?_)
          obtain ⟨rfl, rfl⟩ := hv
          rw [show zTon G v (zS (fun g => zsee C rk (v p) g (k + 1) (v (16 + p)) (zRe (R, C, rk, sn, sk, cn, cd) P v p (v (16 + p)))) (R * C)) = zXth (R, C, rk, sn, sk, cn, cd) P G v p (k + 1) from zXth_c (E := (R, C, rk, sn, sk, cn, cd)) (show R * C ≤ 64 by omega) hO0.2.1]
          show zW n D 160 Q 69 [some (.ref 0), some (.int (zn p)), some (.int (zn (zRe (R, C, rk, sn, sk, cn, cd) P v p (v (16 + p))))), some (.int (zn (zXw (fun k => zpc (zXth (R, C, rk, sn, sk, cn, cd) P G v p k)) k))), some (.int (zXth (R, C, rk, sn, sk, cn, cd) P G v p (zXw (fun k => zpc (zXth (R, C, rk, sn, sk, cn, cd) P G v p k)) k))), some (.int (zn (k + 1))), o6] [.int (zXth (R, C, rk, sn, sk, cn, cd) P G v p (k + 1))] ph1182
          refine w_store (pc' := 71) (L' := [some (.ref 0), some (.int (zn p)), some (.int (zn (zRe (R, C, rk, sn, sk, cn, cd) P v p (v (16 + p))))), some (.int (zn (zXw (fun k => zpc (zXth (R, C, rk, sn, sk, cn, cd) P G v p k)) k))), some (.int (zXth (R, C, rk, sn, sk, cn, cd) P G v p (zXw (fun k => zpc (zXth (R, C, rk, sn, sk, cn, cd) P G v p k)) k))), some (.int (zn (k + 1))), some (.int (zXth (R, C, rk, sn, sk, cn, cd) P G v p (k + 1)))]) (st' := []) (m := 2) (ykc_160 (e := (3, .istore 6, 0)) rfl) rfl rfl ?_
          refine w_load (pc' := 73) (v := .int (zXth (R, C, rk, sn, sk, cn, cd) P G v p (k + 1))) (m := 2) (ykc_160 (e := (2, .iload 6, 0)) rfl) rfl rfl ?_
          refine w_cs (as := [.int (zXth (R, C, rk, sn, sk, cn, cd) P G v p (k + 1))]) (r := []) (ykc_160 (e := (6, .invokestatic 313, 0)) rfl) rfl rfl rfl rfl (zj_pc (x := zXth (R, C, rk, sn, sk, cn, cd) P G v p (k + 1))) (fun v1185 ph1186 hv => ?_)
          obtain ⟨rfl, rfl⟩ := hv
          show zW n D 160 Q 76 [some (.ref 0), some (.int (zn p)), some (.int (zn (zRe (R, C, rk, sn, sk, cn, cd) P v p (v (16 + p))))), some (.int (zn (zXw (fun k => zpc (zXth (R, C, rk, sn, sk, cn, cd) P G v p k)) k))), some (.int (zXth (R, C, rk, sn, sk, cn, cd) P G v p (zXw (fun k => zpc (zXth (R, C, rk, sn, sk, cn, cd) P G v p k)) k))), some (.int (zn (k + 1))), some (.int (zXth (R, C, rk, sn, sk, cn, cd) P G v p (k + 1)))] [.int (zpc (zXth (R, C, rk, sn, sk, cn, cd) P G v p (k + 1)))] ph1182
          refine w_load (pc' := 78) (v := .int (zXth (R, C, rk, sn, sk, cn, cd) P G v p (zXw (fun k => zpc (zXth (R, C, rk, sn, sk, cn, cd) P G v p k)) k))) (m := 2) (ykc_160 (e := (2, .iload 4, 0)) rfl) rfl rfl ?_
          refine w_cs (as := [.int (zXth (R, C, rk, sn, sk, cn, cd) P G v p (zXw (fun k => zpc (zXth (R, C, rk, sn, sk, cn, cd) P G v p k)) k))]) (r := [.int (zpc (zXth (R, C, rk, sn, sk, cn, cd) P G v p (k + 1)))]) (ykc_160 (e := (6, .invokestatic 313, 0)) rfl) rfl rfl rfl rfl (zj_pc (x := zXth (R, C, rk, sn, sk, cn, cd) P G v p (zXw (fun k => zpc (zXth (R, C, rk, sn, sk, cn, cd) P G v p k)) k))) (fun v1187 ph1188 hv => ?_)
          obtain ⟨rfl, rfl⟩ := hv
          show zW n D 160 Q 81 [some (.ref 0), some (.int (zn p)), some (.int (zn (zRe (R, C, rk, sn, sk, cn, cd) P v p (v (16 + p))))), some (.int (zn (zXw (fun k => zpc (zXth (R, C, rk, sn, sk, cn, cd) P G v p k)) k))), some (.int (zXth (R, C, rk, sn, sk, cn, cd) P G v p (zXw (fun k => zpc (zXth (R, C, rk, sn, sk, cn, cd) P G v p k)) k))), some (.int (zn (k + 1))), some (.int (zXth (R, C, rk, sn, sk, cn, cd) P G v p (k + 1)))] [.int (zpc (zXth (R, C, rk, sn, sk, cn, cd) P G v p (zXw (fun k => zpc (zXth (R, C, rk, sn, sk, cn, cd) P G v p k)) k))), .int (zpc (zXth (R, C, rk, sn, sk, cn, cd) P G v p (k + 1)))] ph1182
          refine w_ile (ykc_160 (e := (4, .if_icmp .le 10, 91)) rfl) rfl (fun b1189 => ?_) (fun b1189 => ?_)
          · have e1190 : (zn (k + 1)) + Int32.ofInt 1 = zn (k + 1 + 1) := (zaddN (a := k + 1) (b := 1) (znt (by omega)) c_3 (by omega))
            have te1190 := znt (k := k + 1 + 1) (by omega)
            refine w_store (pc' := 94) (L' := [some (.ref 0), some (.int (zn p)), some (.int (zn (zRe (R, C, rk, sn, sk, cn, cd) P v p (v (16 + p))))), some (.int (zn (zXw (fun k => zpc (zXth (R, C, rk, sn, sk, cn, cd) P G v p k)) k))), some (.int (zXth (R, C, rk, sn, sk, cn, cd) P G v p (zXw (fun k => zpc (zXth (R, C, rk, sn, sk, cn, cd) P G v p k)) k))), some (.int (zn (k + 1 + 1))), some (.int (zXth (R, C, rk, sn, sk, cn, cd) P G v p (k + 1)))]) (st' := []) (m := 3) (ykc_160 (e := (3, .iinc 5 1, 0)) rfl) (by rw [← e1190]; rfl) rfl ?_
            refine w_gb (ykc_160 (e := (4, .goto (-47), 47)) rfl) (fun k1191 hk1191 => ?_)
            have et : zXw (fun k => zpc (zXth (R, C, rk, sn, sk, cn, cd) P G v p k)) (k + 1) = zXw (fun k => zpc (zXth (R, C, rk, sn, sk, cn, cd) P G v p k)) k := by
              show (if (zpc (zXth (R, C, rk, sn, sk, cn, cd) P G v p (zXw (fun k => zpc (zXth (R, C, rk, sn, sk, cn, cd) P G v p k)) k))).toInt < (zpc (zXth (R, C, rk, sn, sk, cn, cd) P G v p (k + 1))).toInt then k + 1 else zXw (fun k => zpc (zXth (R, C, rk, sn, sk, cn, cd) P G v p k)) k) = _
              rw [if_neg (by omega)]
            have h9 := ih k1191 hk1191 (k + 1) (some (.int (zXth (R, C, rk, sn, sk, cn, cd) P G v p (k + 1)))) _ (by omega) (zFr_trans hf1 f1179) hc1180
            rw [et] at h9
            exact h9
          · refine w_load (pc' := 86) (v := .int (zn (k + 1))) (m := 2) (ykc_160 (e := (2, .iload 5, 0)) rfl) rfl rfl ?_
            refine w_store (pc' := 87) (L' := [some (.ref 0), some (.int (zn p)), some (.int (zn (zRe (R, C, rk, sn, sk, cn, cd) P v p (v (16 + p))))), some (.int (zn (k + 1))), some (.int (zXth (R, C, rk, sn, sk, cn, cd) P G v p (zXw (fun k => zpc (zXth (R, C, rk, sn, sk, cn, cd) P G v p k)) k))), some (.int (zn (k + 1))), some (.int (zXth (R, C, rk, sn, sk, cn, cd) P G v p (k + 1)))]) (st' := []) (m := 1) (ykc_160 (e := (3, .istore_n kF3, 0)) rfl) rfl rfl ?_
            refine w_load (pc' := 89) (v := .int (zXth (R, C, rk, sn, sk, cn, cd) P G v p (k + 1))) (m := 2) (ykc_160 (e := (2, .iload 6, 0)) rfl) rfl rfl ?_
            refine w_store (pc' := 91) (L' := [some (.ref 0), some (.int (zn p)), some (.int (zn (zRe (R, C, rk, sn, sk, cn, cd) P v p (v (16 + p))))), some (.int (zn (k + 1))), some (.int (zXth (R, C, rk, sn, sk, cn, cd) P G v p (k + 1))), some (.int (zn (k + 1))), some (.int (zXth (R, C, rk, sn, sk, cn, cd) P G v p (k + 1)))]) (st' := []) (m := 2) (ykc_160 (e := (3, .istore 4, 0)) rfl) rfl rfl ?_
            have e1192 : (zn (k + 1)) + Int32.ofInt 1 = zn (k + 1 + 1) := (zaddN (a := k + 1) (b := 1) (znt (by omega)) c_3 (by omega))
            have te1192 := znt (k := k + 1 + 1) (by omega)
            refine w_store (pc' := 94) (L' := [some (.ref 0), some (.int (zn p)), some (.int (zn (zRe (R, C, rk, sn, sk, cn, cd) P v p (v (16 + p))))), some (.int (zn (k + 1))), some (.int (zXth (R, C, rk, sn, sk, cn, cd) P G v p (k + 1))), some (.int (zn (k + 1 + 1))), some (.int (zXth (R, C, rk, sn, sk, cn, cd) P G v p (k + 1)))]) (st' := []) (m := 3) (ykc_160 (e := (3, .iinc 5 1, 0)) rfl) (by rw [← e1192]; rfl) rfl ?_
            refine w_gb (ykc_160 (e := (4, .goto (-47), 47)) rfl) (fun k1193 hk1193 => ?_)
            have et : zXw (fun k => zpc (zXth (R, C, rk, sn, sk, cn, cd) P G v p k)) (k + 1) = k + 1 := by
              show (if (zpc (zXth (R, C, rk, sn, sk, cn, cd) P G v p (zXw (fun k => zpc (zXth (R, C, rk, sn, sk, cn, cd) P G v p k)) k))).toInt < (zpc (zXth (R, C, rk, sn, sk, cn, cd) P G v p (k + 1))).toInt then k + 1 else zXw (fun k => zpc (zXth (R, C, rk, sn, sk, cn, cd) P G v p k)) k) = _
              rw [if_pos (by omega)]
            have h9 := ih k1193 hk1193 (k + 1) (some (.int (zXth (R, C, rk, sn, sk, cn, cd) P G v p (k + 1)))) _ (by omega) (zFr_trans hf1 f1179) hc1180
            rw [et] at h9
            exact h9
    exact hl n 0 _ _ (by decide) zFr_refl hc1173
  · refine w_alu (pc' := 12) (st' := [.int (Int32.ofInt (-1))]) (ykc_160 (e := (0, .iconst (-1), 0)) rfl) rfl rfl ?_
    refine w_ret (v := (some (.int (Int32.ofInt (-1))))) (ykc_160 (e := (7, .ireturn, 0)) rfl) (zr_v rfl) ?_
    have b_n := of_decide_eq_false b1168
    rw [hQ]
    exact zXbest_n b_n
theorem zm_bestX {ph : pm_H} {E : zEn} {P G : Nat} {v : Nat → Nat} (hS : zSh ph) (hE : zMe ph E) (hN : zMp ph P G) (hv : zNr ph 174 0 v) (hO : zOk E.1 E.2.1 P G v) {x : Int32} : zM 277 [.ref 170, .int x] ph (fun v0 _ => v0 = some (.int (zXbest E P G v x))) := by
  obtain ⟨Q, hQ⟩ : ∃ Q : Option Value → pm_H → Prop, Q = (fun v0 _ => v0 = some (.int (zXbest E P G v x))) := ⟨_, rfl⟩
  rw [← hQ]
  refine zM_mk fun n D => ?_
  show zW n D 277 Q 0 [some (.ref 170), some (.int x), none, none] [] ph
  have c_0 : ((Int8.ofInt 8).toInt32).toInt = 8 := by decide
  have c_1 : (Int32.ofInt (-1)).toInt = -1 := by decide
  have c_2 : (Int32.ofInt 0).toInt = 0 := by decide
  have c_3 : (Int32.ofInt 1).toInt = 1 := by decide
  have hA : (174 : Nat) = 174 ∨ (174 : Nat) = 175 := Or.inl rfl
  obtain ⟨R, C, rk, sn, sk, cn, cd⟩ := E
  have hL0 : zMl ph R C rk := hE.1
  have hR0 : zMr ph sn sk cn cd := hE.2.1
  have hcg : zcg cn cd := hE.2.2
  have hE0 : zMe ph (R, C, rk, sn, sk, cn, cd) := hE
  have hO0 : zOk R C P G v := hO
  have hN0 := hN
  have hL := hL0
  have hR := hR0
  obtain ⟨gR, gC, gK, hR3, hR7, hC3, hC7⟩ := hL
  have hRC := zRC49 hR7 hC7
  have tR := znt (k := R) (by omega)
  have tC := znt (k := C) (by omega)
  obtain ⟨gP, hP8, gG, hG8⟩ := hN
  have tP := znt (k := P) (by omega)
  have tG := znt (k := G) (by omega)
  obtain ⟨gsn, hs1, hs20, gsk, gcn, hc40, gcd⟩ := hR
  have tsn := znt (k := sn) (by omega)
  have tcn := znt (k := cn) (by omega)
  refine w_load (pc' := 1) (v := .ref 170) (m := 1) (ykc_277 (e := (2, .aload_n kF0, 0)) rfl) rfl rfl ?_
  refine w_alu (pc' := 2) (st' := [.int (Int32.ofInt 0), .ref 170]) (ykc_277 (e := (0, .iconst 0, 0)) rfl) rfl rfl ?_
  refine w_pf (pc' := 5) (ykc_277 (e := (5, .putfield 3, 0)) rfl) rfl rfl (fun ph1195 u1194 => ?_)
  have f0 : zFr [] [(170, 0)] ph ph1195 := zFr_st u1194 (Or.inr (by simp))
  have hS1 := zSh_st u1194 (by decide +kernel) hS
  have hE1 : zMe ph1195 (R, C, rk, sn, sk, cn, cd) := ⟨zMl_F f0 (by simp) (by simp) (by simp) (by simp) hE0.1, zMr_F f0 (by simp) (by simp) (by simp) (by simp) hE0.2.1, hE0.2.2⟩
  have hN1 := zMp_F f0 (by simp) (by simp) (by simp) hN0
  have hv1 := zNr_F f0 (by simp) (by simp) hv
  have hL1 : zMl ph1195 R C rk := hE1.1
  have hR1 : zMr ph1195 sn sk cn cd := hE1.2.1
  refine w_load (pc' := 6) (v := .ref 170) (m := 1) (ykc_277 (e := (2, .aload_n kF0, 0)) rfl) rfl rfl ?_
  refine w_load (pc' := 7) (v := .int x) (m := 1) (ykc_277 (e := (2, .iload_n kF1, 0)) rfl) rfl rfl ?_
  refine w_cv (as := [.ref 170, .int x]) (r := []) (ykc_277 (e := (6, .invokevirtual 315, 0)) rfl) rfl rfl rfl rfl (zm_isPerson hN1 (p := x)) (fun v1196 ph1197 hv => ?_)
  obtain ⟨rfl, rfl⟩ := hv
  show zW n D 277 Q 10 [some (.ref 170), some (.int x), none, none] [.int (zI (decide (0 ≤ x.toInt ∧ x.toInt < ((P : Nat) : Int))))] ph1195
  refine w_bne (ykc_277 (e := (4, .ifCond .ne 5, 15)) rfl) rfl (fun b1198 => ?_) (fun b1198 => ?_)
  · have b_p := of_decide_eq_true b1198
    obtain ⟨p, h_p, rfl⟩ : ∃ p : Nat, p < P ∧ x = zn p := ⟨x.toInt.toNat, by omega, zn_of (by omega)⟩
    have t_p := znt (k := p) (by omega)
    have op := hO0.1 p h_p
    have tvp := znt (k := v p) (by omega)
    have tvf := znt (k := v (8 + p)) (by omega)
    have tvb := znt (k := v (16 + p)) (by omega)
    show zW n D 277 Q 15 [some (.ref 170), some (.int (zn p)), none, none] [] ph1195
    refine w_alu (pc' := 16) (st' := [.int (Int32.ofInt 0)]) (ykc_277 (e := (0, .iconst 0, 0)) rfl) rfl rfl ?_
    refine w_store (pc' := 17) (L' := [some (.ref 170), some (.int (zn p)), some (.int (Int32.ofInt 0)), none]) (st' := []) (m := 1) (ykc_277 (e := (3, .istore_n kF2, 0)) rfl) rfl rfl ?_
    refine w_alu (pc' := 18) (st' := [.int (Int32.ofInt 1)]) (ykc_277 (e := (0, .iconst 1, 0)) rfl) rfl rfl ?_
    refine w_store (pc' := 19) (L' := [some (.ref 170), some (.int (zn p)), some (.int (Int32.ofInt 0)), some (.int (Int32.ofInt 1))]) (st' := []) (m := 1) (ykc_277 (e := (3, .istore_n kF3, 0)) rfl) rfl rfl ?_
    have hl : ∀ (n : Nat), ∀ (k : Nat) (ph1 : pm_H), (k + 1 ≤ 8) → (zSc ph1195 ph1) → zW n D 277 Q 19 [some (.ref 170), some (.int (zn p)), some (.int (zn (zXw (fun k => zpc (zXth (R, C, rk, sn, sk, cn, cd) P G v p k)) k))), some (.int (zn (k + 1)))] [] ph1 := by
      intro n
      induction n using Nat.strongRecOn with
      | ind n ih =>
        intro k ph1 hk hf1
        have tk := znt (k := k + 1) (by omega)
        have lw := @zXw_le (fun k => zpc (zXth (R, C, rk, sn, sk, cn, cd) P G v p k)) k
        have tw := znt (k := zXw (fun k => zpc (zXth (R, C, rk, sn, sk, cn, cd) P G v p k)) k) (by omega)
        refine w_load (pc' := 20) (v := .int (zn (k + 1))) (m := 1) (ykc_277 (e := (2, .iload_n kF3, 0)) rfl) rfl rfl ?_
        refine w_push (pc' := 22) (v := .int ((Int8.ofInt 8).toInt32)) (m := 2) (ykc_277 (e := (1, .bipush 8, 0)) rfl) rfl rfl ?_
        refine w_ige (ykc_277 (e := (4, .if_icmp .ge 36, 58)) rfl) rfl (fun b1199 => ?_) (fun b1199 => ?_)
        · have ek : k = 7 := by omega
          subst ek
          rw [hQ]
          exact zTail kc_277 false 2 58 9999 (fun _ => rfl) (Or.inl ⟨_, rfl⟩) (by decide +kernel) (by decide) (by decide) rfl (by decide +kernel) (fun _ => zXbest_p (E := (R, C, rk, sn, sk, cn, cd)) h_p (by omega))
        · refine w_load (pc' := 26) (v := .ref 170) (m := 1) (ykc_277 (e := (2, .aload_n kF0, 0)) rfl) rfl rfl ?_
          refine w_load (pc' := 27) (v := .int (zn p)) (m := 1) (ykc_277 (e := (2, .iload_n kF1, 0)) rfl) rfl rfl ?_
          refine w_load (pc' := 28) (v := .int (zn (k + 1))) (m := 1) (ykc_277 (e := (2, .iload_n kF3, 0)) rfl) rfl rfl ?_
          refine w_cv (as := [.ref 170, .int (zn p), .int (zn (k + 1))]) (r := []) (ykc_277 (e := (6, .invokevirtual 440, 0)) rfl) rfl rfl rfl rfl (zm_wouldT (zSc_S hf1 hS1) (zSc_e hf1 hE1) (zSc_p hf1 hN1) (zSc_a hf1 (⟨hA, hv1⟩ : ((174 : Nat) = 174 ∨ (174 : Nat) = 175) ∧ zNr ph1195 174 0 v)).2 hO0 (p := p) (fc := k + 1) (by omega) (by omega)) (fun v1201 ph1202 hv => ?_)
          obtain ⟨f1200, rfl⟩ := hv
          show zW n D 277 Q 31 [some (.ref 170), some (.int (zn p)), some (.int (zn (zXw (fun k => zpc (zXth (R, C, rk, sn, sk, cn, cd) P G v p k)) k))), some (.int (zn (k + 1)))] [.int (zXth (R, C, rk, sn, sk, cn, cd) P G v p (k + 1))] ph1202
          refine w_cs (as := [.int (zXth (R, C, rk, sn, sk, cn, cd) P G v p (k + 1))]) (r := []) (ykc_277 (e := (6, .invokestatic 265, 0)) rfl) rfl rfl rfl rfl (zj_pc (x := zXth (R, C, rk, sn, sk, cn, cd) P G v p (k + 1))) (fun v1203 ph1204 hv => ?_)
          obtain ⟨rfl, rfl⟩ := hv
          show zW n D 277 Q 34 [some (.ref 170), some (.int (zn p)), some (.int (zn (zXw (fun k => zpc (zXth (R, C, rk, sn, sk, cn, cd) P G v p k)) k))), some (.int (zn (k + 1)))] [.int (zpc (zXth (R, C, rk, sn, sk, cn, cd) P G v p (k + 1)))] ph1202
          refine w_load (pc' := 35) (v := .ref 170) (m := 1) (ykc_277 (e := (2, .aload_n kF0, 0)) rfl) rfl rfl ?_
          refine w_load (pc' := 36) (v := .int (zn p)) (m := 1) (ykc_277 (e := (2, .iload_n kF1, 0)) rfl) rfl rfl ?_
          refine w_load (pc' := 37) (v := .int (zn (zXw (fun k => zpc (zXth (R, C, rk, sn, sk, cn, cd) P G v p k)) k))) (m := 1) (ykc_277 (e := (2, .iload_n kF2, 0)) rfl) rfl rfl ?_
          refine w_cv (as := [.ref 170, .int (zn p), .int (zn (zXw (fun k => zpc (zXth (R, C, rk, sn, sk, cn, cd) P G v p k)) k))]) (r := [.int (zpc (zXth (R, C, rk, sn, sk, cn, cd) P G v p (k + 1)))]) (ykc_277 (e := (6, .invokevirtual 440, 0)) rfl) rfl rfl rfl rfl (zm_wouldT (zSc_S (zFr_trans hf1 f1200) hS1) (zSc_e (zFr_trans hf1 f1200) hE1) (zSc_p (zFr_trans hf1 f1200) hN1) (zSc_a (zFr_trans hf1 f1200) (⟨hA, hv1⟩ : ((174 : Nat) = 174 ∨ (174 : Nat) = 175) ∧ zNr ph1195 174 0 v)).2 hO0 (p := p) (fc := zXw (fun k => zpc (zXth (R, C, rk, sn, sk, cn, cd) P G v p k)) k) (by omega) (by omega)) (fun v1206 ph1207 hv => ?_)
          obtain ⟨f1205, rfl⟩ := hv
          show zW n D 277 Q 40 [some (.ref 170), some (.int (zn p)), some (.int (zn (zXw (fun k => zpc (zXth (R, C, rk, sn, sk, cn, cd) P G v p k)) k))), some (.int (zn (k + 1)))] [.int (zXth (R, C, rk, sn, sk, cn, cd) P G v p (zXw (fun k => zpc (zXth (R, C, rk, sn, sk, cn, cd) P G v p k)) k)), .int (zpc (zXth (R, C, rk, sn, sk, cn, cd) P G v p (k + 1)))] ph1207
          refine w_cs (as := [.int (zXth (R, C, rk, sn, sk, cn, cd) P G v p (zXw (fun k => zpc (zXth (R, C, rk, sn, sk, cn, cd) P G v p k)) k))]) (r := [.int (zpc (zXth (R, C, rk, sn, sk, cn, cd) P G v p (k + 1)))]) (ykc_277 (e := (6, .invokestatic 265, 0)) rfl) rfl rfl rfl rfl (zj_pc (x := zXth (R, C, rk, sn, sk, cn, cd) P G v p (zXw (fun k => zpc (zXth (R, C, rk, sn, sk, cn, cd) P G v p k)) k))) (fun v1208 ph1209 hv => ?_)
          obtain ⟨rfl, rfl⟩ := hv
          show zW n D 277 Q 43 [some (.ref 170), some (.int (zn p)), some (.int (zn (zXw (fun k => zpc (zXth (R, C, rk, sn, sk, cn, cd) P G v p k)) k))), some (.int (zn (k + 1)))] [.int (zpc (zXth (R, C, rk, sn, sk, cn, cd) P G v p (zXw (fun k => zpc (zXth (R, C, rk, sn, sk, cn, cd) P G v p k)) k))), .int (zpc (zXth (R, C, rk, sn, sk, cn, cd) P G v p (k + 1)))] ph1207
          refine w_ile (ykc_277 (e := (4, .if_icmp .le 7, 50)) rfl) rfl (fun b1210 => ?_) (fun b1210 => ?_)
          · refine w_load (pc' := 51) (v := .int (zn (zXw (fun k => zpc (zXth (R, C, rk, sn, sk, cn, cd) P G v p k)) k))) (m := 1) (ykc_277 (e := (2, .iload_n kF2, 0)) rfl) rfl rfl ?_
            refine w_store (pc' := 52) (L' := [some (.ref 170), some (.int (zn p)), some (.int (zn (zXw (fun k => zpc (zXth (R, C, rk, sn, sk, cn, cd) P G v p k)) k))), some (.int (zn (k + 1)))]) (st' := []) (m := 1) (ykc_277 (e := (3, .istore_n kF2, 0)) rfl) rfl rfl ?_
            have e1211 : (zn (k + 1)) + Int32.ofInt 1 = zn (k + 1 + 1) := (zaddN (a := k + 1) (b := 1) (znt (by omega)) c_3 (by omega))
            have te1211 := znt (k := k + 1 + 1) (by omega)
            refine w_store (pc' := 55) (L' := [some (.ref 170), some (.int (zn p)), some (.int (zn (zXw (fun k => zpc (zXth (R, C, rk, sn, sk, cn, cd) P G v p k)) k))), some (.int (zn (k + 1 + 1)))]) (st' := []) (m := 3) (ykc_277 (e := (3, .iinc 3 1, 0)) rfl) (by rw [← e1211]; rfl) rfl ?_
            refine w_gb (ykc_277 (e := (4, .goto (-36), 19)) rfl) (fun k1212 hk1212 => ?_)
            have et : zXw (fun k => zpc (zXth (R, C, rk, sn, sk, cn, cd) P G v p k)) (k + 1) = zXw (fun k => zpc (zXth (R, C, rk, sn, sk, cn, cd) P G v p k)) k := by
              show (if (zpc (zXth (R, C, rk, sn, sk, cn, cd) P G v p (zXw (fun k => zpc (zXth (R, C, rk, sn, sk, cn, cd) P G v p k)) k))).toInt < (zpc (zXth (R, C, rk, sn, sk, cn, cd) P G v p (k + 1))).toInt then k + 1 else zXw (fun k => zpc (zXth (R, C, rk, sn, sk, cn, cd) P G v p k)) k) = _
              rw [if_neg (by omega)]
            have h9 := ih k1212 hk1212 (k + 1) _ (by omega) (zFr_trans (zFr_trans hf1 f1200) f1205)
            rw [et] at h9
            exact h9
          · refine w_load (pc' := 47) (v := .int (zn (k + 1))) (m := 1) (ykc_277 (e := (2, .iload_n kF3, 0)) rfl) rfl rfl ?_
            refine w_br (pc' := 51) (st' := [.int (zn (k + 1))]) (ykc_277 (e := (4, .goto 4, 51)) rfl) rfl ?_
            refine w_store (pc' := 52) (L' := [some (.ref 170), some (.int (zn p)), some (.int (zn (k + 1))), some (.int (zn (k + 1)))]) (st' := []) (m := 1) (ykc_277 (e := (3, .istore_n kF2, 0)) rfl) rfl rfl ?_
            have e1213 : (zn (k + 1)) + Int32.ofInt 1 = zn (k + 1 + 1) := (zaddN (a := k + 1) (b := 1) (znt (by omega)) c_3 (by omega))
            have te1213 := znt (k := k + 1 + 1) (by omega)
            refine w_store (pc' := 55) (L' := [some (.ref 170), some (.int (zn p)), some (.int (zn (k + 1))), some (.int (zn (k + 1 + 1)))]) (st' := []) (m := 3) (ykc_277 (e := (3, .iinc 3 1, 0)) rfl) (by rw [← e1213]; rfl) rfl ?_
            refine w_gb (ykc_277 (e := (4, .goto (-36), 19)) rfl) (fun k1214 hk1214 => ?_)
            have et : zXw (fun k => zpc (zXth (R, C, rk, sn, sk, cn, cd) P G v p k)) (k + 1) = k + 1 := by
              show (if (zpc (zXth (R, C, rk, sn, sk, cn, cd) P G v p (zXw (fun k => zpc (zXth (R, C, rk, sn, sk, cn, cd) P G v p k)) k))).toInt < (zpc (zXth (R, C, rk, sn, sk, cn, cd) P G v p (k + 1))).toInt then k + 1 else zXw (fun k => zpc (zXth (R, C, rk, sn, sk, cn, cd) P G v p k)) k) = _
              rw [if_pos (by omega)]
            have h9 := ih k1214 hk1214 (k + 1) _ (by omega) (zFr_trans (zFr_trans hf1 f1200) f1205)
            rw [et] at h9
            exact h9
    exact hl n 0 _ (by decide) zFr_refl
  · refine w_alu (pc' := 14) (st' := [.int (Int32.ofInt (-1))]) (ykc_277 (e := (0, .iconst (-1), 0)) rfl) rfl rfl ?_
    refine w_ret (v := (some (.int (Int32.ofInt (-1))))) (ykc_277 (e := (7, .ireturn, 0)) rfl) (zr_v rfl) ?_
    have b_n := of_decide_eq_false b1198
    rw [hQ]
    exact zXbest_n b_n
