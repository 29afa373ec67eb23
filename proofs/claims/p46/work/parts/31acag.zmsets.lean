/-! the reference: REACH, views and sets, by W; printed by wip/z/z_e_seem2.py -/
theorem zNr0 {ph : pm_H} {A i : Nat} {v : Nat → Nat} (h : zNr ph A 0 v) (hi : i < 41) : zc ph A i = some (.int (zn (v i))) := by
  have h2 := h i hi
  rwa [Nat.zero_add] at h2
theorem zm_light {ph : pm_H} (hS : zSh ph) {sn cn h : Nat} {sk cd : Nat → Nat} (hR : zMr ph sn sk cn cd) (hh : h < 2147483648) : zM 211 [.ref 170, .int (zn h)] ph (fun v q => ph = q ∧ v = some (.int (zn (sk (h % sn))))) := by
  obtain ⟨Q, hQ⟩ : ∃ Q : Option Value → pm_H → Prop, Q = (fun v q => ph = q ∧ v = some (.int (zn (sk (h % sn))))) := ⟨_, rfl⟩
  rw [← hQ]
  refine zM_mk fun n D => ?_
  show zW n D 211 Q 0 [some (.ref 170), some (.int (zn h))] [] ph
  obtain ⟨gsn, hs1, hs20, gsk, gcn, hc40, gcd⟩ := hR
  have tsn := znt (k := sn) (by omega)
  have tcn := znt (k := cn) (by omega)
  have th := znt hh
  have hm := Nat.mod_lt h (show 0 < sn by omega)
  refine w_load (pc' := 1) (v := .ref 170) (m := 1) (ykc_211 (e := (2, .aload_n kF0, 0)) rfl) rfl rfl ?_
  refine w_gf (pc' := 4) (v := .ref 173) (ykc_211 (e := (5, .getfield 37, 0)) rfl) rfl (zsg hS zs_170_10) rfl ?_
  refine w_load (pc' := 5) (v := .int (zn h)) (m := 1) (ykc_211 (e := (2, .iload_n kF1, 0)) rfl) rfl rfl ?_
  refine w_load (pc' := 6) (v := .ref 170) (m := 1) (ykc_211 (e := (2, .aload_n kF0, 0)) rfl) rfl rfl ?_
  refine w_gf (pc' := 9) (v := .int (zn sn)) (ykc_211 (e := (5, .getfield 30, 0)) rfl) rfl gsn rfl ?_
  refine w_irem (pc' := 10) (ykc_211 (e := (0, .irem, 0)) rfl) rfl (fun d146 => ?_)
  have e147 : (zn h) - (zn h) / (zn sn) * (zn sn) = zn (h % sn) := zn_of (zremN (by omega) (by omega) (by omega))
  have te147 := znt (k := h % sn) (by omega)
  rw [e147]
  show zW n D 211 Q 10 [some (.ref 170), some (.int (zn h))] [.int (zn (h % sn)), .ref 173] ph
  have q148 := (gsk (h % sn) (by omega)).2
  have tq148 := znt (k := sk (h % sn)) (by omega)
  refine w_ialk (pc' := 11) (k := h % sn) (ykc_211 (e := (5, .iaload, 0)) rfl) (gsk (h % sn) (by omega)).1 (by omega) rfl ?_
  refine w_ret (v := (some (.int (zn (sk (h % sn)))))) (ykc_211 (e := (7, .ireturn, 0)) rfl) (zr_v rfl) ?_
  rw [hQ]
  exact ⟨rfl, rfl⟩
theorem zm_reach {ph : pm_H} {E : zEn} {P G A : Nat} {v : Nat → Nat} (hS : zSh ph) (hE : zMe ph E) (hN : zMp ph P G) (hA : A = 174 ∨ A = 175) (hv : zNr ph A 0 v) (hO : zOk E.1 E.2.1 P G v) {p br : Nat} (hp : p < P) (hb : br ≤ 4) : zM 220 [.ref 170, .ref A, .int (zn p), .int (zn br)] ph (fun v0 q => zSc ph q ∧ v0 = some (.int (zn (zRe E P v p br)))) := by
  obtain ⟨Q, hQ⟩ : ∃ Q : Option Value → pm_H → Prop, Q = (fun v0 q => zSc ph q ∧ v0 = some (.int (zn (zRe E P v p br)))) := ⟨_, rfl⟩
  rw [← hQ]
  refine zM_mk fun n D => ?_
  show zW n D 220 Q 0 [some (.ref 170), some (.ref A), some (.int (zn p)), some (.int (zn br)), none, none] [] ph
  have c_0 : ((Int8.ofInt 24).toInt32).toInt = 24 := by decide +kernel
  have c_1 : ((Int8.ofInt 40).toInt32).toInt = 40 := by decide +kernel
  have c_2 : ((Int8.ofInt 6).toInt32).toInt = 6 := by decide +kernel
  have c_3 : ((Int8.ofInt 7).toInt32).toInt = 7 := by decide +kernel
  have c_4 : ((Int8.ofInt 8).toInt32).toInt = 8 := by decide +kernel
  have c_5 : ((Int8.ofInt 9).toInt32).toInt = 9 := by decide +kernel
  have c_6 : (Int32.ofInt 0).toInt = 0 := by decide +kernel
  have c_7 : (Int32.ofInt 1).toInt = 1 := by decide +kernel
  have c_8 : (Int32.ofInt 2).toInt = 2 := by decide +kernel
  have c_9 : (Int32.ofInt 3).toInt = 3 := by decide +kernel
  have c_10 : (Int32.ofInt 4).toInt = 4 := by decide +kernel
  have c_11 : (Int32.ofInt 5).toInt = 5 := by decide +kernel
  obtain ⟨R, C, rk, sn, sk, cn, cd⟩ := E
  have hL0 : zMl ph R C rk := hE.1
  have hR0 : zMr ph sn sk cn cd := hE.2.1
  have hcg : zcg cn cd := hE.2.2
  have hE0 : zMe ph (R, C, rk, sn, sk, cn, cd) := hE
  have hO0 : zOk R C P G v := hO
  have hN0 := hN
  have hL := hL0
  have hR := hR0
  obtain ⟨gR, gC, gK, hR3, hR7, hC3, hC7⟩ := hL
  have hRC := zRC49 hR7 hC7
  have tR := znt (k := R) (by omega)
  have tC := znt (k := C) (by omega)
  obtain ⟨gP, hP8, gG, hG8⟩ := hN
  have tP := znt (k := P) (by omega)
  have tG := znt (k := G) (by omega)
  obtain ⟨gsn, hs1, hs20, gsk, gcn, hc40, gcd⟩ := hR
  have tsn := znt (k := sn) (by omega)
  have tcn := znt (k := cn) (by omega)
  have tp := znt (k := p) (by omega)
  have tb := znt (k := br) (by omega)
  refine w_alu (pc' := 1) (st' := [.int (Int32.ofInt 0)]) (ykc_220 (e := (0, .iconst 0, 0)) rfl) rfl rfl ?_
  refine w_store (pc' := 3) (L' := [some (.ref 170), some (.ref A), some (.int (zn p)), some (.int (zn br)), some (.int (Int32.ofInt 0)), none]) (st' := []) (m := 2) (ykc_220 (e := (3, .istore 4, 0)) rfl) rfl rfl ?_
  refine w_alu (pc' := 4) (st' := [.int (Int32.ofInt 0)]) (ykc_220 (e := (0, .iconst 0, 0)) rfl) rfl rfl ?_
  refine w_store (pc' := 6) (L' := [some (.ref 170), some (.ref A), some (.int (zn p)), some (.int (zn br)), some (.int (Int32.ofInt 0)), some (.int (Int32.ofInt 0))]) (st' := []) (m := 2) (ykc_220 (e := (3, .istore 5, 0)) rfl) rfl rfl ?_
  have hl : ∀ (n : Nat), ∀ (k : Nat), (k ≤ P) → zW n D 220 Q 6 [some (.ref 170), some (.ref A), some (.int (zn p)), some (.int (zn br)), some (.int (zn (zct v (v p) k))), some (.int (zn k))] [] ph := by
    intro n
    induction n using Nat.strongRecOn with
    | ind n ih =>
      intro k hk
      have tk := znt (k := k) (by omega)
      have hc0 := @zct_le v (v p) k
      have tc := znt (k := zct v (v p) k) (by omega)
      refine w_load (pc' := 8) (v := .int (zn k)) (m := 2) (ykc_220 (e := (2, .iload 5, 0)) rfl) rfl rfl ?_
      refine w_load (pc' := 9) (v := .ref 170) (m := 1) (ykc_220 (e := (2, .aload_n kF0, 0)) rfl) rfl rfl ?_
      refine w_gf (pc' := 12) (v := .int (zn P)) (ykc_220 (e := (5, .getfield 130, 0)) rfl) rfl gP rfl ?_
      refine w_ige (ykc_220 (e := (4, .if_icmp .ge 32, 44)) rfl) rfl (fun b149 => ?_) (fun b149 => ?_)
      · refine w_load (pc' := 45) (v := .ref 170) (m := 1) (ykc_220 (e := (2, .aload_n kF0, 0)) rfl) rfl rfl ?_
        refine w_gf (pc' := 48) (v := .ref 182) (ykc_220 (e := (5, .getfield 65, 0)) rfl) rfl (zsg hS zs_170_26) rfl ?_
        refine w_alu (pc' := 49) (st' := [.int (Int32.ofInt 0), .ref 182]) (ykc_220 (e := (0, .iconst 0, 0)) rfl) rfl rfl ?_
        refine w_load (pc' := 50) (v := .int (zn br)) (m := 1) (ykc_220 (e := (2, .iload_n kF3, 0)) rfl) rfl rfl ?_
        refine w_ias (pc' := 51) (k := 0) (ykc_220 (e := (5, .iastore, 0)) rfl) (by omega) rfl (fun ph151 u150 => ?_)
        refine w_load (pc' := 52) (v := .ref 170) (m := 1) (ykc_220 (e := (2, .aload_n kF0, 0)) rfl) rfl rfl ?_
        refine w_gf (pc' := 55) (v := .ref 182) (ykc_220 (e := (5, .getfield 65, 0)) rfl) rfl ((u150.2.1 170 26 (fun q => absurd q.1 (by first | exact Nat.ne_of_beq_eq_false rfl | decide))).trans (zsg hS zs_170_26)) rfl ?_
        refine w_alu (pc' := 56) (st' := [.int (Int32.ofInt 1), .ref 182]) (ykc_220 (e := (0, .iconst 1, 0)) rfl) rfl rfl ?_
        refine w_load (pc' := 57) (v := .ref 170) (m := 1) (ykc_220 (e := (2, .aload_n kF0, 0)) rfl) rfl rfl ?_
        refine w_load (pc' := 58) (v := .ref A) (m := 1) (ykc_220 (e := (2, .aload_n kF1, 0)) rfl) rfl rfl ?_
        refine w_push (pc' := 60) (v := .int ((Int8.ofInt 40).toInt32)) (m := 2) (ykc_220 (e := (1, .bipush 40, 0)) rfl) rfl rfl ?_
        have q152 := hO0.2.2
        have tq152 := znt (k := v 40) (by omega)
        refine w_ialk (pc' := 61) (k := 40) (ykc_220 (e := (5, .iaload, 0)) rfl) ((u150.2.1 A 40 (fun q => by have q2 := q.1; omega)).trans (zNr0 hv (i := 40) (by omega))) (by omega) rfl ?_
        refine w_cv (as := [.ref 170, .int (zn (v 40))]) (r := [.int (Int32.ofInt 1), .ref 182]) (ykc_220 (e := (6, .invokevirtual 262, 0)) rfl) rfl rfl rfl rfl (zm_light (zSc_S (zFr_st u150 (Or.inl (by first | exact zqi rfl | simp))) hS) (zSc_r (zFr_st u150 (Or.inl (by first | exact zqi rfl | simp))) hR0) (h := v 40) (by omega)) (fun v153 ph154 hv => ?_)
        obtain ⟨rfl, rfl⟩ := hv
        have hm := Nat.mod_lt (v 40) (show 0 < sn by omega)
        have tl := znt (k := sk ((v 40) % sn)) (by have := (gsk ((v 40) % sn) hm).2; omega)
        show zW n D 220 Q 64 [some (.ref 170), some (.ref A), some (.int (zn p)), some (.int (zn br)), some (.int (zn (zct v (v p) k))), some (.int (zn k))] [.int (zn (sk ((v 40) % sn))), .int (Int32.ofInt 1), .ref 182] ph151
        refine w_ias (pc' := 65) (k := 1) (ykc_220 (e := (5, .iastore, 0)) rfl) (by omega) rfl (fun ph156 u155 => ?_)
        refine w_load (pc' := 66) (v := .ref 170) (m := 1) (ykc_220 (e := (2, .aload_n kF0, 0)) rfl) rfl rfl ?_
        refine w_gf (pc' := 69) (v := .ref 182) (ykc_220 (e := (5, .getfield 65, 0)) rfl) rfl ((u155.2.1 170 26 (fun q => absurd q.1 (by first | exact Nat.ne_of_beq_eq_false rfl | decide))).trans ((u150.2.1 170 26 (fun q => absurd q.1 (by first | exact Nat.ne_of_beq_eq_false rfl | decide))).trans (zsg hS zs_170_26))) rfl ?_
        refine w_alu (pc' := 70) (st' := [.int (Int32.ofInt 2), .ref 182]) (ykc_220 (e := (0, .iconst 2, 0)) rfl) rfl rfl ?_
        refine w_load (pc' := 71) (v := .ref A) (m := 1) (ykc_220 (e := (2, .aload_n kF1, 0)) rfl) rfl rfl ?_
        refine w_push (pc' := 73) (v := .int ((Int8.ofInt 24).toInt32)) (m := 2) (ykc_220 (e := (1, .bipush 24, 0)) rfl) rfl rfl ?_
        refine w_load (pc' := 74) (v := .int (zn p)) (m := 1) (ykc_220 (e := (2, .iload_n kF2, 0)) rfl) rfl rfl ?_
        have e157 : ((Int8.ofInt 24).toInt32) + (zn p) = zn (24 + p) := (zaddN (a := 24) (b := p) c_0 (znt (by omega)) (by omega)) 
        have te157 := znt (k := 24 + p) (by omega)
        refine w_alu (pc' := 75) (st' := [.int (zn (24 + p)), .ref A, .int (Int32.ofInt 2), .ref 182]) (ykc_220 (e := (0, .iadd, 0)) rfl) (by rw [← e157]; rfl) rfl ?_
        have q158 := hO0.1 p (by omega)
        have tq158 := znt (k := v (24 + p)) (by omega)
        refine w_ialk (pc' := 76) (k := 24 + p) (ykc_220 (e := (5, .iaload, 0)) rfl) ((u155.2.1 A (24 + p) (fun q => by have q2 := q.1; omega)).trans ((u150.2.1 A (24 + p) (fun q => by have q2 := q.1; omega)).trans (zNr0 hv (i := 24 + p) (by omega)))) (by omega) rfl ?_
        refine w_cs (as := [.int (zn (v (24 + p)))]) (r := [.int (Int32.ofInt 2), .ref 182]) (ykc_220 (e := (6, .invokestatic 265, 0)) rfl) rfl rfl rfl rfl (zj_pc) (fun v159 ph160 hv => ?_)
        obtain ⟨rfl, rfl⟩ := hv
        show zW n D 220 Q 79 [some (.ref 170), some (.ref A), some (.int (zn p)), some (.int (zn br)), some (.int (zn (zct v (v p) k))), some (.int (zn k))] [.int (zpc (zn (v (24 + p)))), .int (Int32.ofInt 2), .ref 182] ph156
        refine w_ias (pc' := 80) (k := 2) (ykc_220 (e := (5, .iastore, 0)) rfl) (by omega) rfl (fun ph162 u161 => ?_)
        refine w_load (pc' := 81) (v := .ref 170) (m := 1) (ykc_220 (e := (2, .aload_n kF0, 0)) rfl) rfl rfl ?_
        refine w_gf (pc' := 84) (v := .ref 182) (ykc_220 (e := (5, .getfield 65, 0)) rfl) rfl ((u161.2.1 170 26 (fun q => absurd q.1 (by first | exact Nat.ne_of_beq_eq_false rfl | decide))).trans ((u155.2.1 170 26 (fun q => absurd q.1 (by first | exact Nat.ne_of_beq_eq_false rfl | decide))).trans ((u150.2.1 170 26 (fun q => absurd q.1 (by first | exact Nat.ne_of_beq_eq_false rfl | decide))).trans (zsg hS zs_170_26)))) rfl ?_
        refine w_alu (pc' := 85) (st' := [.int (Int32.ofInt 3), .ref 182]) (ykc_220 (e := (0, .iconst 3, 0)) rfl) rfl rfl ?_
        refine w_load (pc' := 86) (v := .ref A) (m := 1) (ykc_220 (e := (2, .aload_n kF1, 0)) rfl) rfl rfl ?_
        refine w_push (pc' := 88) (v := .int ((Int8.ofInt 8).toInt32)) (m := 2) (ykc_220 (e := (1, .bipush 8, 0)) rfl) rfl rfl ?_
        refine w_load (pc' := 89) (v := .int (zn p)) (m := 1) (ykc_220 (e := (2, .iload_n kF2, 0)) rfl) rfl rfl ?_
        have e163 : ((Int8.ofInt 8).toInt32) + (zn p) = zn (8 + p) := (zaddN (a := 8) (b := p) c_4 (znt (by omega)) (by omega)) 
        have te163 := znt (k := 8 + p) (by omega)
        refine w_alu (pc' := 90) (st' := [.int (zn (8 + p)), .ref A, .int (Int32.ofInt 3), .ref 182]) (ykc_220 (e := (0, .iadd, 0)) rfl) (by rw [← e163]; rfl) rfl ?_
        have q164 := hO0.1 p (by omega)
        have tq164 := znt (k := v (8 + p)) (by omega)
        refine w_ialk (pc' := 91) (k := 8 + p) (ykc_220 (e := (5, .iaload, 0)) rfl) ((u161.2.1 A (8 + p) (fun q => by have q2 := q.1; omega)).trans ((u155.2.1 A (8 + p) (fun q => by have q2 := q.1; omega)).trans ((u150.2.1 A (8 + p) (fun q => by have q2 := q.1; omega)).trans (zNr0 hv (i := 8 + p) (by omega))))) (by omega) rfl ?_
        refine w_ias (pc' := 92) (k := 3) (ykc_220 (e := (5, .iastore, 0)) rfl) (by omega) rfl (fun ph166 u165 => ?_)
        refine w_load (pc' := 93) (v := .ref 170) (m := 1) (ykc_220 (e := (2, .aload_n kF0, 0)) rfl) rfl rfl ?_
        refine w_gf (pc' := 96) (v := .ref 182) (ykc_220 (e := (5, .getfield 65, 0)) rfl) rfl ((u165.2.1 170 26 (fun q => absurd q.1 (by first | exact Nat.ne_of_beq_eq_false rfl | decide))).trans ((u161.2.1 170 26 (fun q => absurd q.1 (by first | exact Nat.ne_of_beq_eq_false rfl | decide))).trans ((u155.2.1 170 26 (fun q => absurd q.1 (by first | exact Nat.ne_of_beq_eq_false rfl | decide))).trans ((u150.2.1 170 26 (fun q => absurd q.1 (by first | exact Nat.ne_of_beq_eq_false rfl | decide))).trans (zsg hS zs_170_26))))) rfl ?_
        refine w_alu (pc' := 97) (st' := [.int (Int32.ofInt 4), .ref 182]) (ykc_220 (e := (0, .iconst 4, 0)) rfl) rfl rfl ?_
        refine w_load (pc' := 98) (v := .ref A) (m := 1) (ykc_220 (e := (2, .aload_n kF1, 0)) rfl) rfl rfl ?_
        refine w_load (pc' := 99) (v := .int (zn p)) (m := 1) (ykc_220 (e := (2, .iload_n kF2, 0)) rfl) rfl rfl ?_
        have q167 := hO0.1 p (by omega)
        have tq167 := znt (k := v p) (by omega)
        refine w_ialk (pc' := 100) (k := p) (ykc_220 (e := (5, .iaload, 0)) rfl) ((u165.2.1 A p (fun q => by have q2 := q.1; omega)).trans ((u161.2.1 A p (fun q => by have q2 := q.1; omega)).trans ((u155.2.1 A p (fun q => by have q2 := q.1; omega)).trans ((u150.2.1 A p (fun q => by have q2 := q.1; omega)).trans (zNr0 hv (i := p) (by omega)))))) (by omega) rfl ?_
        refine w_load (pc' := 101) (v := .ref 170) (m := 1) (ykc_220 (e := (2, .aload_n kF0, 0)) rfl) rfl rfl ?_
        refine w_gf (pc' := 104) (v := .int (zn C)) (ykc_220 (e := (5, .getfield 27, 0)) rfl) rfl ((u165.2.1 170 4 (fun q => absurd q.1 (by first | exact Nat.ne_of_beq_eq_false rfl | decide))).trans ((u161.2.1 170 4 (fun q => absurd q.1 (by first | exact Nat.ne_of_beq_eq_false rfl | decide))).trans ((u155.2.1 170 4 (fun q => absurd q.1 (by first | exact Nat.ne_of_beq_eq_false rfl | decide))).trans ((u150.2.1 170 4 (fun q => absurd q.1 (by first | exact Nat.ne_of_beq_eq_false rfl | decide))).trans gC)))) rfl ?_
        refine w_idiv (pc' := 105) (ykc_220 (e := (0, .idiv, 0)) rfl) rfl (fun d169 => ?_)
        have m168 : v p / C < R := (Nat.div_lt_iff_lt_mul (by omega)).mpr (by omega)
        have zm168 := Nat.zero_le (v p / C)
        have e170 : (zn (v p)) / (zn C) = zn (v p / C) := zn_of (zdivN (by omega) (by omega) (by omega))
        have te170 := znt (k := v p / C) (by omega)
        rw [e170]
        show zW n D 220 Q 105 [some (.ref 170), some (.ref A), some (.int (zn p)), some (.int (zn br)), some (.int (zn (zct v (v p) k))), some (.int (zn k))] [.int (zn (v p / C)), .int (Int32.ofInt 4), .ref 182] ph166
        refine w_ias (pc' := 106) (k := 4) (ykc_220 (e := (5, .iastore, 0)) rfl) (by omega) rfl (fun ph172 u171 => ?_)
        refine w_load (pc' := 107) (v := .ref 170) (m := 1) (ykc_220 (e := (2, .aload_n kF0, 0)) rfl) rfl rfl ?_
        refine w_gf (pc' := 110) (v := .ref 182) (ykc_220 (e := (5, .getfield 65, 0)) rfl) rfl ((u171.2.1 170 26 (fun q => absurd q.1 (by first | exact Nat.ne_of_beq_eq_false rfl | decide))).trans ((u165.2.1 170 26 (fun q => absurd q.1 (by first | exact Nat.ne_of_beq_eq_false rfl | decide))).trans ((u161.2.1 170 26 (fun q => absurd q.1 (by first | exact Nat.ne_of_beq_eq_false rfl | decide))).trans ((u155.2.1 170 26 (fun q => absurd q.1 (by first | exact Nat.ne_of_beq_eq_false rfl | decide))).trans ((u150.2.1 170 26 (fun q => absurd q.1 (by first | exact Nat.ne_of_beq_eq_false rfl | decide))).trans (zsg hS zs_170_26)))))) rfl ?_
        refine w_alu (pc' := 111) (st' := [.int (Int32.ofInt 5), .ref 182]) (ykc_220 (e := (0, .iconst 5, 0)) rfl) rfl rfl ?_
        refine w_load (pc' := 112) (v := .ref A) (m := 1) (ykc_220 (e := (2, .aload_n kF1, 0)) rfl) rfl rfl ?_
        refine w_load (pc' := 113) (v := .int (zn p)) (m := 1) (ykc_220 (e := (2, .iload_n kF2, 0)) rfl) rfl rfl ?_
        have q173 := hO0.1 p (by omega)
        have tq173 := znt (k := v p) (by omega)
        refine w_ialk (pc' := 114) (k := p) (ykc_220 (e := (5, .iaload, 0)) rfl) ((u171.2.1 A p (fun q => by have q2 := q.1; omega)).trans ((u165.2.1 A p (fun q => by have q2 := q.1; omega)).trans ((u161.2.1 A p (fun q => by have q2 := q.1; omega)).trans ((u155.2.1 A p (fun q => by have q2 := q.1; omega)).trans ((u150.2.1 A p (fun q => by have q2 := q.1; omega)).trans (zNr0 hv (i := p) (by omega))))))) (by omega) rfl ?_
        refine w_load (pc' := 115) (v := .ref 170) (m := 1) (ykc_220 (e := (2, .aload_n kF0, 0)) rfl) rfl rfl ?_
        refine w_gf (pc' := 118) (v := .int (zn C)) (ykc_220 (e := (5, .getfield 27, 0)) rfl) rfl ((u171.2.1 170 4 (fun q => absurd q.1 (by first | exact Nat.ne_of_beq_eq_false rfl | decide))).trans ((u165.2.1 170 4 (fun q => absurd q.1 (by first | exact Nat.ne_of_beq_eq_false rfl | decide))).trans ((u161.2.1 170 4 (fun q => absurd q.1 (by first | exact Nat.ne_of_beq_eq_false rfl | decide))).trans ((u155.2.1 170 4 (fun q => absurd q.1 (by first | exact Nat.ne_of_beq_eq_false rfl | decide))).trans ((u150.2.1 170 4 (fun q => absurd q.1 (by first | exact Nat.ne_of_beq_eq_false rfl | decide))).trans gC))))) rfl ?_
        refine w_irem (pc' := 119) (ykc_220 (e := (0, .irem, 0)) rfl) rfl (fun d175 => ?_)
        have m174 := Nat.mod_lt (v p) (show 0 < C by omega)
        have zm174 := Nat.zero_le (v p % C)
        have e176 : (zn (v p)) - (zn (v p)) / (zn C) * (zn C) = zn (v p % C) := zn_of (zremN (by omega) (by omega) (by omega))
        have te176 := znt (k := v p % C) (by omega)
        rw [e176]
        show zW n D 220 Q 119 [some (.ref 170), some (.ref A), some (.int (zn p)), some (.int (zn br)), some (.int (zn (zct v (v p) k))), some (.int (zn k))] [.int (zn (v p % C)), .int (Int32.ofInt 5), .ref 182] ph172
        refine w_ias (pc' := 120) (k := 5) (ykc_220 (e := (5, .iastore, 0)) rfl) (by omega) rfl (fun ph178 u177 => ?_)
        refine w_load (pc' := 121) (v := .ref 170) (m := 1) (ykc_220 (e := (2, .aload_n kF0, 0)) rfl) rfl rfl ?_
        refine w_gf (pc' := 124) (v := .ref 182) (ykc_220 (e := (5, .getfield 65, 0)) rfl) rfl ((u177.2.1 170 26 (fun q => absurd q.1 (by first | exact Nat.ne_of_beq_eq_false rfl | decide))).trans ((u171.2.1 170 26 (fun q => absurd q.1 (by first | exact Nat.ne_of_beq_eq_false rfl | decide))).trans ((u165.2.1 170 26 (fun q => absurd q.1 (by first | exact Nat.ne_of_beq_eq_false rfl | decide))).trans ((u161.2.1 170 26 (fun q => absurd q.1 (by first | exact Nat.ne_of_beq_eq_false rfl | decide))).trans ((u155.2.1 170 26 (fun q => absurd q.1 (by first | exact Nat.ne_of_beq_eq_false rfl | decide))).trans ((u150.2.1 170 26 (fun q => absurd q.1 (by first | exact Nat.ne_of_beq_eq_false rfl | decide))).trans (zsg hS zs_170_26))))))) rfl ?_
        refine w_push (pc' := 126) (v := .int ((Int8.ofInt 6).toInt32)) (m := 2) (ykc_220 (e := (1, .bipush 6, 0)) rfl) rfl rfl ?_
        refine w_load (pc' := 127) (v := .ref A) (m := 1) (ykc_220 (e := (2, .aload_n kF1, 0)) rfl) rfl rfl ?_
        refine w_push (pc' := 129) (v := .int ((Int8.ofInt 40).toInt32)) (m := 2) (ykc_220 (e := (1, .bipush 40, 0)) rfl) rfl rfl ?_
        have q179 := hO0.2.2
        have tq179 := znt (k := v 40) (by omega)
        refine w_ialk (pc' := 130) (k := 40) (ykc_220 (e := (5, .iaload, 0)) rfl) ((u177.2.1 A 40 (fun q => by have q2 := q.1; omega)).trans ((u171.2.1 A 40 (fun q => by have q2 := q.1; omega)).trans ((u165.2.1 A 40 (fun q => by have q2 := q.1; omega)).trans ((u161.2.1 A 40 (fun q => by have q2 := q.1; omega)).trans ((u155.2.1 A 40 (fun q => by have q2 := q.1; omega)).trans ((u150.2.1 A 40 (fun q => by have q2 := q.1; omega)).trans (zNr0 hv (i := 40) (by omega)))))))) (by omega) rfl ?_
        refine w_push (pc' := 132) (v := .int ((Int8.ofInt 7).toInt32)) (m := 2) (ykc_220 (e := (1, .bipush 7, 0)) rfl) rfl rfl ?_
        refine w_irem (pc' := 133) (ykc_220 (e := (0, .irem, 0)) rfl) rfl (fun d181 => ?_)
        have m180 := Nat.mod_lt (v 40) (show 0 < 7 by omega)
        have zm180 := Nat.zero_le (v 40 % 7)
        have e182 : (zn (v 40)) - (zn (v 40)) / ((Int8.ofInt 7).toInt32) * ((Int8.ofInt 7).toInt32) = zn (v 40 % 7) := zn_of (zremN (by omega) (by omega) (by omega))
        have te182 := znt (k := v 40 % 7) (by omega)
        rw [e182]
        show zW n D 220 Q 133 [some (.ref 170), some (.ref A), some (.int (zn p)), some (.int (zn br)), some (.int (zn (zct v (v p) k))), some (.int (zn k))] [.int (zn (v 40 % 7)), .int ((Int8.ofInt 6).toInt32), .ref 182] ph178
        refine w_ias (pc' := 134) (k := 6) (ykc_220 (e := (5, .iastore, 0)) rfl) (by omega) rfl (fun ph184 u183 => ?_)
        refine w_load (pc' := 135) (v := .ref 170) (m := 1) (ykc_220 (e := (2, .aload_n kF0, 0)) rfl) rfl rfl ?_
        refine w_gf (pc' := 138) (v := .ref 182) (ykc_220 (e := (5, .getfield 65, 0)) rfl) rfl ((u183.2.1 170 26 (fun q => absurd q.1 (by first | exact Nat.ne_of_beq_eq_false rfl | decide))).trans ((u177.2.1 170 26 (fun q => absurd q.1 (by first | exact Nat.ne_of_beq_eq_false rfl | decide))).trans ((u171.2.1 170 26 (fun q => absurd q.1 (by first | exact Nat.ne_of_beq_eq_false rfl | decide))).trans ((u165.2.1 170 26 (fun q => absurd q.1 (by first | exact Nat.ne_of_beq_eq_false rfl | decide))).trans ((u161.2.1 170 26 (fun q => absurd q.1 (by first | exact Nat.ne_of_beq_eq_false rfl | decide))).trans ((u155.2.1 170 26 (fun q => absurd q.1 (by first | exact Nat.ne_of_beq_eq_false rfl | decide))).trans ((u150.2.1 170 26 (fun q => absurd q.1 (by first | exact Nat.ne_of_beq_eq_false rfl | decide))).trans (zsg hS zs_170_26)))))))) rfl ?_
        have ek : k = P := by omega
        refine w_push (pc' := 140) (v := .int ((Int8.ofInt 7).toInt32)) (m := 2) (ykc_220 (e := (1, .bipush 7, 0)) rfl) rfl rfl ?_
        refine w_load (pc' := 142) (v := .int (zn (zct v (v p) k))) (m := 2) (ykc_220 (e := (2, .iload 4, 0)) rfl) rfl rfl ?_
        refine w_ias (pc' := 143) (k := 7) (ykc_220 (e := (5, .iastore, 0)) rfl) (by omega) rfl (fun ph186 u185 => ?_)
        refine w_alu (pc' := 144) (st' := [.int (Int32.ofInt 0)]) (ykc_220 (e := (0, .iconst 0, 0)) rfl) rfl rfl ?_
        refine w_push (pc' := 146) (v := .int ((Int8.ofInt 9).toInt32)) (m := 2) (ykc_220 (e := (1, .bipush 9, 0)) rfl) rfl rfl ?_
        refine w_load (pc' := 147) (v := .ref 170) (m := 1) (ykc_220 (e := (2, .aload_n kF0, 0)) rfl) rfl rfl ?_
        refine w_cv (as := [.ref 170]) (r := [.int ((Int8.ofInt 9).toInt32), .int (Int32.ofInt 0)]) (ykc_220 (e := (6, .invokevirtual 270, 0)) rfl) rfl rfl rfl rfl (zm_ruled (zSc_S (zFr_trans (zFr_trans (zFr_trans (zFr_trans (zFr_trans (zFr_trans (zFr_trans (zFr_st u150 (Or.inl (by first | exact zqi rfl | simp))) (zFr_st u155 (Or.inl (by first | exact zqi rfl | simp)))) (zFr_st u161 (Or.inl (by first | exact zqi rfl | simp)))) (zFr_st u165 (Or.inl (by first | exact zqi rfl | simp)))) (zFr_st u171 (Or.inl (by first | exact zqi rfl | simp)))) (zFr_st u177 (Or.inl (by first | exact zqi rfl | simp)))) (zFr_st u183 (Or.inl (by first | exact zqi rfl | simp)))) (zFr_st u185 (Or.inl (by first | exact zqi rfl | simp)))) hS) (zSc_r (zFr_trans (zFr_trans (zFr_trans (zFr_trans (zFr_trans (zFr_trans (zFr_trans (zFr_st u150 (Or.inl (by first | exact zqi rfl | simp))) (zFr_st u155 (Or.inl (by first | exact zqi rfl | simp)))) (zFr_st u161 (Or.inl (by first | exact zqi rfl | simp)))) (zFr_st u165 (Or.inl (by first | exact zqi rfl | simp)))) (zFr_st u171 (Or.inl (by first | exact zqi rfl | simp)))) (zFr_st u177 (Or.inl (by first | exact zqi rfl | simp)))) (zFr_st u183 (Or.inl (by first | exact zqi rfl | simp)))) (zFr_st u185 (Or.inl (by first | exact zqi rfl | simp)))) hR0) hcg (as := zas (R, C, rk, sn, sk, cn, cd) P v p br) (fun i hi => by
                  rcases (show i = 0 ∨ i = 1 ∨ i = 2 ∨ i = 3 ∨ i = 4 ∨ i = 5 ∨ i = 6 ∨ i = 7 by omega) with e | e | e | e | e | e | e | e
                  · subst e; exact ((u185.2.1 182 0 (fun q => absurd q.2 (by first | exact Nat.ne_of_beq_eq_false rfl | decide))).trans ((u183.2.1 182 0 (fun q => absurd q.2 (by first | exact Nat.ne_of_beq_eq_false rfl | decide))).trans ((u177.2.1 182 0 (fun q => absurd q.2 (by first | exact Nat.ne_of_beq_eq_false rfl | decide))).trans ((u171.2.1 182 0 (fun q => absurd q.2 (by first | exact Nat.ne_of_beq_eq_false rfl | decide))).trans ((u165.2.1 182 0 (fun q => absurd q.2 (by first | exact Nat.ne_of_beq_eq_false rfl | decide))).trans ((u161.2.1 182 0 (fun q => absurd q.2 (by first | exact Nat.ne_of_beq_eq_false rfl | decide))).trans ((u155.2.1 182 0 (fun q => absurd q.2 (by first | exact Nat.ne_of_beq_eq_false rfl | decide))).trans u150.1))))))).trans (by unfold zas; simp)
                  · subst e; exact ((u185.2.1 182 1 (fun q => absurd q.2 (by first | exact Nat.ne_of_beq_eq_false rfl | decide))).trans ((u183.2.1 182 1 (fun q => absurd q.2 (by first | exact Nat.ne_of_beq_eq_false rfl | decide))).trans ((u177.2.1 182 1 (fun q => absurd q.2 (by first | exact Nat.ne_of_beq_eq_false rfl | decide))).trans ((u171.2.1 182 1 (fun q => absurd q.2 (by first | exact Nat.ne_of_beq_eq_false rfl | decide))).trans ((u165.2.1 182 1 (fun q => absurd q.2 (by first | exact Nat.ne_of_beq_eq_false rfl | decide))).trans ((u161.2.1 182 1 (fun q => absurd q.2 (by first | exact Nat.ne_of_beq_eq_false rfl | decide))).trans u155.1)))))).trans (by unfold zas; simp)
                  · subst e; exact ((u185.2.1 182 2 (fun q => absurd q.2 (by first | exact Nat.ne_of_beq_eq_false rfl | decide))).trans ((u183.2.1 182 2 (fun q => absurd q.2 (by first | exact Nat.ne_of_beq_eq_false rfl | decide))).trans ((u177.2.1 182 2 (fun q => absurd q.2 (by first | exact Nat.ne_of_beq_eq_false rfl | decide))).trans ((u171.2.1 182 2 (fun q => absurd q.2 (by first | exact Nat.ne_of_beq_eq_false rfl | decide))).trans ((u165.2.1 182 2 (fun q => absurd q.2 (by first | exact Nat.ne_of_beq_eq_false rfl | decide))).trans u161.1))))).trans (by unfold zas; simp)
                  · subst e; exact ((u185.2.1 182 3 (fun q => absurd q.2 (by first | exact Nat.ne_of_beq_eq_false rfl | decide))).trans ((u183.2.1 182 3 (fun q => absurd q.2 (by first | exact Nat.ne_of_beq_eq_false rfl | decide))).trans ((u177.2.1 182 3 (fun q => absurd q.2 (by first | exact Nat.ne_of_beq_eq_false rfl | decide))).trans ((u171.2.1 182 3 (fun q => absurd q.2 (by first | exact Nat.ne_of_beq_eq_false rfl | decide))).trans u165.1)))).trans (by unfold zas; simp)
                  · subst e; exact ((u185.2.1 182 4 (fun q => absurd q.2 (by first | exact Nat.ne_of_beq_eq_false rfl | decide))).trans ((u183.2.1 182 4 (fun q => absurd q.2 (by first | exact Nat.ne_of_beq_eq_false rfl | decide))).trans ((u177.2.1 182 4 (fun q => absurd q.2 (by first | exact Nat.ne_of_beq_eq_false rfl | decide))).trans u171.1))).trans (by unfold zas; simp)
                  · subst e; exact ((u185.2.1 182 5 (fun q => absurd q.2 (by first | exact Nat.ne_of_beq_eq_false rfl | decide))).trans ((u183.2.1 182 5 (fun q => absurd q.2 (by first | exact Nat.ne_of_beq_eq_false rfl | decide))).trans u177.1)).trans (by unfold zas; simp)
                  · subst e; exact ((u185.2.1 182 6 (fun q => absurd q.2 (by first | exact Nat.ne_of_beq_eq_false rfl | decide))).trans u183.1).trans (by unfold zas; simp)
                  · subst e; exact u185.1.trans (by unfold zas; simp [ek]))) (fun v188 ph189 hv => ?_)
        obtain ⟨f187, rfl⟩ := hv
        have f187 := zFr_mono (A' := [181, 182]) (F' := []) f187 (by simp) (by simp)
        show zW n D 220 Q 150 [some (.ref 170), some (.ref A), some (.int (zn p)), some (.int (zn br)), some (.int (zn (zct v (v p) k))), some (.int (zn k))] [.int (zval (zas (R, C, rk, sn, sk, cn, cd) P v p br) cn cd), .int ((Int8.ofInt 9).toInt32), .int (Int32.ofInt 0)] ph189
        obtain ⟨z190, e_z190⟩ : ∃ zq : Int32, (if (zval (zas (R, C, rk, sn, sk, cn, cd) P v p br) cn cd) < ((Int8.ofInt 9).toInt32) then (zval (zas (R, C, rk, sn, sk, cn, cd) P v p br) cn cd) else ((Int8.ofInt 9).toInt32)) = zq := ⟨_, rfl⟩
        have h_z190 := zminI e_z190
        refine w_mem1 (pc' := 153) (m := 3) (st' := [.int z190, .int (Int32.ofInt 0)]) (ph' := ph189) (ykc_220 (e := (5, .invokestatic 145, 0)) rfl) (by rw [← e_z190]; rfl) rfl ?_
        obtain ⟨z191, e_z191⟩ : ∃ zq : Int32, (if (Int32.ofInt 0) < z190 then z190 else (Int32.ofInt 0)) = zq := ⟨_, rfl⟩
        have h_z191 := zmaxI e_z191
        refine w_mem1 (pc' := 156) (m := 3) (st' := [.int z191]) (ph' := ph189) (ykc_220 (e := (5, .invokestatic 273, 0)) rfl) (by rw [← e_z191]; rfl) rfl ?_
        refine w_ret (v := (some (.int z191))) (ykc_220 (e := (7, .ireturn, 0)) rfl) (zr_v rfl) ?_
        rw [hQ]
        exact ⟨(zFr_trans (zFr_trans (zFr_trans (zFr_trans (zFr_trans (zFr_trans (zFr_trans (zFr_trans (zFr_st u150 (Or.inl (by first | exact zqi rfl | simp))) (zFr_st u155 (Or.inl (by first | exact zqi rfl | simp)))) (zFr_st u161 (Or.inl (by first | exact zqi rfl | simp)))) (zFr_st u165 (Or.inl (by first | exact zqi rfl | simp)))) (zFr_st u171 (Or.inl (by first | exact zqi rfl | simp)))) (zFr_st u177 (Or.inl (by first | exact zqi rfl | simp)))) (zFr_st u183 (Or.inl (by first | exact zqi rfl | simp)))) (zFr_st u185 (Or.inl (by first | exact zqi rfl | simp)))) f187), by rw [zn_of (x := z191) (k := zrc (zval (zas (R, C, rk, sn, sk, cn, cd) P v p br) cn cd)) (by rw [zrcI]; omega)]; rfl⟩
      · refine w_load (pc' := 17) (v := .int (zn (zct v (v p) k))) (m := 2) (ykc_220 (e := (2, .iload 4, 0)) rfl) rfl rfl ?_
        refine w_load (pc' := 18) (v := .ref A) (m := 1) (ykc_220 (e := (2, .aload_n kF1, 0)) rfl) rfl rfl ?_
        refine w_load (pc' := 20) (v := .int (zn k)) (m := 2) (ykc_220 (e := (2, .iload 5, 0)) rfl) rfl rfl ?_
        have q192 := hO0.1 k (by omega)
        have tq192 := znt (k := v k) (by omega)
        refine w_ialk (pc' := 21) (k := k) (ykc_220 (e := (5, .iaload, 0)) rfl) (zNr0 hv (i := k) (by omega)) (by omega) rfl ?_
        refine w_load (pc' := 22) (v := .ref A) (m := 1) (ykc_220 (e := (2, .aload_n kF1, 0)) rfl) rfl rfl ?_
        refine w_load (pc' := 23) (v := .int (zn p)) (m := 1) (ykc_220 (e := (2, .iload_n kF2, 0)) rfl) rfl rfl ?_
        have q193 := hO0.1 p (by omega)
        have tq193 := znt (k := v p) (by omega)
        refine w_ialk (pc' := 24) (k := p) (ykc_220 (e := (5, .iaload, 0)) rfl) (zNr0 hv (i := p) (by omega)) (by omega) rfl ?_
        refine w_ine (ykc_220 (e := (4, .if_icmp .ne 7, 31)) rfl) rfl (fun b194 => ?_) (fun b194 => ?_)
        · refine w_alu (pc' := 32) (st' := [.int (Int32.ofInt 0), .int (zn (zct v (v p) k))]) (ykc_220 (e := (0, .iconst 0, 0)) rfl) rfl rfl ?_
          refine w_cs (as := [.int (Int32.ofInt 0)]) (r := [.int (zn (zct v (v p) k))]) (ykc_220 (e := (6, .invokestatic 154, 0)) rfl) rfl rfl rfl rfl (zm_flag0) (fun v195 ph196 hv => ?_)
          obtain ⟨rfl, rfl⟩ := hv
          have cI1 : (zI true).toInt = 1 := rfl
          have cI0 : (zI false).toInt = 0 := rfl
          show zW n D 220 Q 35 [some (.ref 170), some (.ref A), some (.int (zn p)), some (.int (zn br)), some (.int (zn (zct v (v p) k))), some (.int (zn k))] [.int (zI false), .int (zn (zct v (v p) k))] ph
          have e197 : (zn (zct v (v p) k)) + (zI false) = zn (zct v (v p) k + 0) := (zaddN (a := zct v (v p) k) (b := 0) (znt (by omega)) (by omega) (by omega)) 
          have te197 := znt (k := zct v (v p) k + 0) (by omega)
          refine w_alu (pc' := 36) (st' := [.int (zn (zct v (v p) k + 0))]) (ykc_220 (e := (0, .iadd, 0)) rfl) (by rw [← e197]; rfl) rfl ?_
          refine w_store (pc' := 38) (L' := [some (.ref 170), some (.ref A), some (.int (zn p)), some (.int (zn br)), some (.int (zn (zct v (v p) k + 0))), some (.int (zn k))]) (st' := []) (m := 2) (ykc_220 (e := (3, .istore 4, 0)) rfl) rfl rfl ?_
          have e198 : (zn k) + Int32.ofInt 1 = zn (k + 1) := (zaddN (a := k) (b := 1) (znt (by omega)) c_7 (by omega))
          have te198 := znt (k := k + 1) (by omega)
          refine w_store (pc' := 41) (L' := [some (.ref 170), some (.ref A), some (.int (zn p)), some (.int (zn br)), some (.int (zn (zct v (v p) k + 0))), some (.int (zn (k + 1)))]) (st' := []) (m := 3) (ykc_220 (e := (3, .iinc 5 1, 0)) rfl) (by rw [← e198]; rfl) rfl ?_
          refine w_gb (ykc_220 (e := (4, .goto (-35), 6)) rfl) (fun k199 hk199 => ?_)
          have et : zct v (v p) (k + 1) = zct v (v p) k + 0 := by
            show zct v (v p) k + (if v k = v p then 1 else 0) = _
            rw [if_neg (show ¬ v k = v p by omega)]
          have h9 := ih k199 hk199 (k + 1) (by omega)
          rw [et] at h9
          exact h9
        · refine w_alu (pc' := 28) (st' := [.int (Int32.ofInt 1), .int (zn (zct v (v p) k))]) (ykc_220 (e := (0, .iconst 1, 0)) rfl) rfl rfl ?_
          refine w_br (pc' := 32) (st' := [.int (Int32.ofInt 1), .int (zn (zct v (v p) k))]) (ykc_220 (e := (4, .goto 4, 32)) rfl) rfl ?_
          refine w_cs (as := [.int (Int32.ofInt 1)]) (r := [.int (zn (zct v (v p) k))]) (ykc_220 (e := (6, .invokestatic 154, 0)) rfl) rfl rfl rfl rfl (zm_flag1) (fun v200 ph201 hv => ?_)
          obtain ⟨rfl, rfl⟩ := hv
          have cI1 : (zI true).toInt = 1 := rfl
          have cI0 : (zI false).toInt = 0 := rfl
          show zW n D 220 Q 35 [some (.ref 170), some (.ref A), some (.int (zn p)), some (.int (zn br)), some (.int (zn (zct v (v p) k))), some (.int (zn k))] [.int (zI true), .int (zn (zct v (v p) k))] ph
          have e202 : (zn (zct v (v p) k)) + (zI true) = zn (zct v (v p) k + 1) := (zaddN (a := zct v (v p) k) (b := 1) (znt (by omega)) (by omega) (by omega)) 
          have te202 := znt (k := zct v (v p) k + 1) (by omega)
          refine w_alu (pc' := 36) (st' := [.int (zn (zct v (v p) k + 1))]) (ykc_220 (e := (0, .iadd, 0)) rfl) (by rw [← e202]; rfl) rfl ?_
          refine w_store (pc' := 38) (L' := [some (.ref 170), some (.ref A), some (.int (zn p)), some (.int (zn br)), some (.int (zn (zct v (v p) k + 1))), some (.int (zn k))]) (st' := []) (m := 2) (ykc_220 (e := (3, .istore 4, 0)) rfl) rfl rfl ?_
          have e203 : (zn k) + Int32.ofInt 1 = zn (k + 1) := (zaddN (a := k) (b := 1) (znt (by omega)) c_7 (by omega))
          have te203 := znt (k := k + 1) (by omega)
          refine w_store (pc' := 41) (L' := [some (.ref 170), some (.ref A), some (.int (zn p)), some (.int (zn br)), some (.int (zn (zct v (v p) k + 1))), some (.int (zn (k + 1)))]) (st' := []) (m := 3) (ykc_220 (e := (3, .iinc 5 1, 0)) rfl) (by rw [← e203]; rfl) rfl ?_
          refine w_gb (ykc_220 (e := (4, .goto (-35), 6)) rfl) (fun k204 hk204 => ?_)
          have et : zct v (v p) (k + 1) = zct v (v p) k + 1 := by
            show zct v (v p) k + (if v k = v p then 1 else 0) = _
            rw [if_pos (show v k = v p by omega)]
          have h9 := ih k204 hk204 (k + 1) (by omega)
          rw [et] at h9
          exact h9
  exact hl n 0 (Nat.zero_le _)
theorem zm_does {ph : pm_H} {E : zEn} {P G A : Nat} {v : Nat → Nat} (hS : zSh ph) (hE : zMe ph E) (hN : zMp ph P G) (hA : A = 174 ∨ A = 175) (hv : zNr ph A 0 v) (hO : zOk E.1 E.2.1 P G v) {p g : Nat} (hp : p < P) (hg : g < E.1 * E.2.1) : zM 225 [.ref 170, .ref A, .int (zn p), .int (zn g)] ph (fun v0 q => zSc ph q ∧ v0 = some (.int (zI (zSv E P v p g)))) := by
  obtain ⟨Q, hQ⟩ : ∃ Q : Option Value → pm_H → Prop, Q = (fun v0 q => zSc ph q ∧ v0 = some (.int (zI (zSv E P v p g)))) := ⟨_, rfl⟩
  rw [← hQ]
  refine zM_mk fun n D => ?_
  show zW n D 225 Q 0 [some (.ref 170), some (.ref A), some (.int (zn p)), some (.int (zn g))] [] ph
  have c_0 : ((Int8.ofInt 16).toInt32).toInt = 16 := by decide +kernel
  have c_1 : ((Int8.ofInt 8).toInt32).toInt = 8 := by decide +kernel
  obtain ⟨R, C, rk, sn, sk, cn, cd⟩ := E
  have hL0 : zMl ph R C rk := hE.1
  have hR0 : zMr ph sn sk cn cd := hE.2.1
  have hcg : zcg cn cd := hE.2.2
  have hE0 : zMe ph (R, C, rk, sn, sk, cn, cd) := hE
  have hO0 : zOk R C P G v := hO
  have hN0 := hN
  have hL := hL0
  have hR := hR0
  obtain ⟨gR, gC, gK, hR3, hR7, hC3, hC7⟩ := hL
  have hRC := zRC49 hR7 hC7
  have tR := znt (k := R) (by omega)
  have tC := znt (k := C) (by omega)
  obtain ⟨gP, hP8, gG, hG8⟩ := hN
  have tP := znt (k := P) (by omega)
  have tG := znt (k := G) (by omega)
  obtain ⟨gsn, hs1, hs20, gsk, gcn, hc40, gcd⟩ := hR
  have tsn := znt (k := sn) (by omega)
  have tcn := znt (k := cn) (by omega)
  have hg0 : g < R * C := hg
  have tp := znt (k := p) (by omega)
  have tg := znt (k := g) (by omega)
  refine w_load (pc' := 1) (v := .ref 170) (m := 1) (ykc_225 (e := (2, .aload_n kF0, 0)) rfl) rfl rfl ?_
  refine w_load (pc' := 2) (v := .ref A) (m := 1) (ykc_225 (e := (2, .aload_n kF1, 0)) rfl) rfl rfl ?_
  refine w_load (pc' := 3) (v := .int (zn p)) (m := 1) (ykc_225 (e := (2, .iload_n kF2, 0)) rfl) rfl rfl ?_
  have q205 := hO0.1 p (by omega)
  have tq205 := znt (k := v p) (by omega)
  refine w_ialk (pc' := 4) (k := p) (ykc_225 (e := (5, .iaload, 0)) rfl) (zNr0 hv (i := p) (by omega)) (by omega) rfl ?_
  refine w_load (pc' := 5) (v := .int (zn g)) (m := 1) (ykc_225 (e := (2, .iload_n kF3, 0)) rfl) rfl rfl ?_
  refine w_load (pc' := 6) (v := .ref A) (m := 1) (ykc_225 (e := (2, .aload_n kF1, 0)) rfl) rfl rfl ?_
  refine w_push (pc' := 8) (v := .int ((Int8.ofInt 8).toInt32)) (m := 2) (ykc_225 (e := (1, .bipush 8, 0)) rfl) rfl rfl ?_
  refine w_load (pc' := 9) (v := .int (zn p)) (m := 1) (ykc_225 (e := (2, .iload_n kF2, 0)) rfl) rfl rfl ?_
  have e206 : ((Int8.ofInt 8).toInt32) + (zn p) = zn (8 + p) := (zaddN (a := 8) (b := p) c_1 (znt (by omega)) (by omega)) 
  have te206 := znt (k := 8 + p) (by omega)
  refine w_alu (pc' := 10) (st' := [.int (zn (8 + p)), .ref A, .int (zn g), .int (zn (v p)), .ref 170]) (ykc_225 (e := (0, .iadd, 0)) rfl) (by rw [← e206]; rfl) rfl ?_
  have q207 := hO0.1 p (by omega)
  have tq207 := znt (k := v (8 + p)) (by omega)
  refine w_ialk (pc' := 11) (k := 8 + p) (ykc_225 (e := (5, .iaload, 0)) rfl) (zNr0 hv (i := 8 + p) (by omega)) (by omega) rfl ?_
  refine w_load (pc' := 12) (v := .ref A) (m := 1) (ykc_225 (e := (2, .aload_n kF1, 0)) rfl) rfl rfl ?_
  refine w_push (pc' := 14) (v := .int ((Int8.ofInt 16).toInt32)) (m := 2) (ykc_225 (e := (1, .bipush 16, 0)) rfl) rfl rfl ?_
  refine w_load (pc' := 15) (v := .int (zn p)) (m := 1) (ykc_225 (e := (2, .iload_n kF2, 0)) rfl) rfl rfl ?_
  have e208 : ((Int8.ofInt 16).toInt32) + (zn p) = zn (16 + p) := (zaddN (a := 16) (b := p) c_0 (znt (by omega)) (by omega)) 
  have te208 := znt (k := 16 + p) (by omega)
  refine w_alu (pc' := 16) (st' := [.int (zn (16 + p)), .ref A, .int (zn (v (8 + p))), .int (zn g), .int (zn (v p)), .ref 170]) (ykc_225 (e := (0, .iadd, 0)) rfl) (by rw [← e208]; rfl) rfl ?_
  have q209 := hO0.1 p (by omega)
  have tq209 := znt (k := v (16 + p)) (by omega)
  refine w_ialk (pc' := 17) (k := 16 + p) (ykc_225 (e := (5, .iaload, 0)) rfl) (zNr0 hv (i := 16 + p) (by omega)) (by omega) rfl ?_
  refine w_load (pc' := 18) (v := .ref 170) (m := 1) (ykc_225 (e := (2, .aload_n kF0, 0)) rfl) rfl rfl ?_
  refine w_load (pc' := 19) (v := .ref A) (m := 1) (ykc_225 (e := (2, .aload_n kF1, 0)) rfl) rfl rfl ?_
  refine w_load (pc' := 20) (v := .int (zn p)) (m := 1) (ykc_225 (e := (2, .iload_n kF2, 0)) rfl) rfl rfl ?_
  refine w_load (pc' := 21) (v := .ref A) (m := 1) (ykc_225 (e := (2, .aload_n kF1, 0)) rfl) rfl rfl ?_
  refine w_push (pc' := 23) (v := .int ((Int8.ofInt 16).toInt32)) (m := 2) (ykc_225 (e := (1, .bipush 16, 0)) rfl) rfl rfl ?_
  refine w_load (pc' := 24) (v := .int (zn p)) (m := 1) (ykc_225 (e := (2, .iload_n kF2, 0)) rfl) rfl rfl ?_
  have e210 : ((Int8.ofInt 16).toInt32) + (zn p) = zn (16 + p) := (zaddN (a := 16) (b := p) c_0 (znt (by omega)) (by omega)) 
  have te210 := znt (k := 16 + p) (by omega)
  refine w_alu (pc' := 25) (st' := [.int (zn (16 + p)), .ref A, .int (zn p), .ref A, .ref 170, .int (zn (v (16 + p))), .int (zn (v (8 + p))), .int (zn g), .int (zn (v p)), .ref 170]) (ykc_225 (e := (0, .iadd, 0)) rfl) (by rw [← e210]; rfl) rfl ?_
  have q211 := hO0.1 p (by omega)
  have tq211 := znt (k := v (16 + p)) (by omega)
  refine w_ialk (pc' := 26) (k := 16 + p) (ykc_225 (e := (5, .iaload, 0)) rfl) (zNr0 hv (i := 16 + p) (by omega)) (by omega) rfl ?_
  refine w_cv (as := [.ref 170, .ref A, .int (zn p), .int (zn (v (16 + p)))]) (r := [.int (zn (v (16 + p))), .int (zn (v (8 + p))), .int (zn g), .int (zn (v p)), .ref 170]) (ykc_225 (e := (6, .invokevirtual 292, 0)) rfl) rfl rfl rfl rfl (zm_reach hS hE0 hN0 (⟨hA, hv⟩ : (A = 174 ∨ A = 175) ∧ zNr ph A 0 v).1 (⟨hA, hv⟩ : (A = 174 ∨ A = 175) ∧ zNr ph A 0 v).2 hO0 (p := p) (br := v (16 + p)) (by omega) (by omega)) (fun v213 ph214 hv => ?_)
  obtain ⟨f212, rfl⟩ := hv
  have rf212 := @zRe_9 (R, C, rk, sn, sk, cn, cd) P v p (v (16 + p))
  have trf212 := znt (k := zRe (R, C, rk, sn, sk, cn, cd) P v p (v (16 + p))) (by omega)
  show zW n D 225 Q 29 [some (.ref 170), some (.ref A), some (.int (zn p)), some (.int (zn g))] [.int (zn (zRe (R, C, rk, sn, sk, cn, cd) P v p (v (16 + p)))), .int (zn (v (16 + p))), .int (zn (v (8 + p))), .int (zn g), .int (zn (v p)), .ref 170] ph214
  refine w_cv (as := [.ref 170, .int (zn (v p)), .int (zn g), .int (zn (v (8 + p))), .int (zn (v (16 + p))), .int (zn (zRe (R, C, rk, sn, sk, cn, cd) P v p (v (16 + p))))]) (r := []) (ykc_225 (e := (6, .invokevirtual 296, 0)) rfl) rfl rfl rfl rfl (zm_sees (zSc_S f212 hS) (zSc_l f212 hL0) (a := v p) (g := g) (fc := v (8 + p)) (br := v (16 + p)) (re := zRe (R, C, rk, sn, sk, cn, cd) P v p (v (16 + p))) (by omega) (by omega) (by omega) (by omega) (by omega) (by omega) (by omega) (by omega) (by omega)) (fun v215 ph216 hv => ?_)
  obtain ⟨rfl, rfl⟩ := hv
  show zW n D 225 Q 32 [some (.ref 170), some (.ref A), some (.int (zn p)), some (.int (zn g))] [.int (zI (zsee C rk (v p) g (v (8 + p)) (v (16 + p)) (zRe (R, C, rk, sn, sk, cn, cd) P v p (v (16 + p)))))] ph214
  refine w_ret (v := (some (.int (zI (zsee C rk (v p) g (v (8 + p)) (v (16 + p)) (zRe (R, C, rk, sn, sk, cn, cd) P v p (v (16 + p)))))))) (ykc_225 (e := (7, .ireturn, 0)) rfl) zr_z ?_
  rw [hQ]
  exact ⟨f212, rfl⟩
theorem zm_seen {ph : pm_H} {E : zEn} {P G A : Nat} {v : Nat → Nat} (hS : zSh ph) (hE : zMe ph E) (hN : zMp ph P G) (hA : A = 174 ∨ A = 175) (hv : zNr ph A 0 v) (hO : zOk E.1 E.2.1 P G v) {p : Nat} (hp : p < P) : zM 226 [.ref 170, .ref A, .int (zn p)] ph (fun v0 q => zSc ph q ∧ v0 = some (.long (zVw E P v p))) := by
  obtain ⟨Q, hQ⟩ : ∃ Q : Option Value → pm_H → Prop, Q = (fun v0 q => zSc ph q ∧ v0 = some (.long (zVw E P v p))) := ⟨_, rfl⟩
  rw [← hQ]
  refine zM_mk fun n D => ?_
  show zW n D 226 Q 0 [some (.ref 170), some (.ref A), some (.int (zn p)), none, none, none, none] [] ph
  have c_0 : ((Int8.ofInt 16).toInt32).toInt = 16 := by decide +kernel
  have c_1 : ((Int8.ofInt 8).toInt32).toInt = 8 := by decide +kernel
  have c_2 : (Int32.ofInt 0).toInt = 0 := by decide +kernel
  have c_3 : (Int32.ofInt 1).toInt = 1 := by decide +kernel
  obtain ⟨R, C, rk, sn, sk, cn, cd⟩ := E
  have hL0 : zMl ph R C rk := hE.1
  have hR0 : zMr ph sn sk cn cd := hE.2.1
  have hcg : zcg cn cd := hE.2.2
  have hE0 : zMe ph (R, C, rk, sn, sk, cn, cd) := hE
  have hO0 : zOk R C P G v := hO
  have hN0 := hN
  have hL := hL0
  have hR := hR0
  obtain ⟨gR, gC, gK, hR3, hR7, hC3, hC7⟩ := hL
  have hRC := zRC49 hR7 hC7
  have tR := znt (k := R) (by omega)
  have tC := znt (k := C) (by omega)
  obtain ⟨gP, hP8, gG, hG8⟩ := hN
  have tP := znt (k := P) (by omega)
  have tG := znt (k := G) (by omega)
  obtain ⟨gsn, hs1, hs20, gsk, gcn, hc40, gcd⟩ := hR
  have tsn := znt (k := sn) (by omega)
  have tcn := znt (k := cn) (by omega)
  have tp := znt (k := p) (by omega)
  refine w_load (pc' := 1) (v := .ref 170) (m := 1) (ykc_226 (e := (2, .aload_n kF0, 0)) rfl) rfl rfl ?_
  refine w_load (pc' := 2) (v := .ref A) (m := 1) (ykc_226 (e := (2, .aload_n kF1, 0)) rfl) rfl rfl ?_
  refine w_load (pc' := 3) (v := .int (zn p)) (m := 1) (ykc_226 (e := (2, .iload_n kF2, 0)) rfl) rfl rfl ?_
  refine w_load (pc' := 4) (v := .ref A) (m := 1) (ykc_226 (e := (2, .aload_n kF1, 0)) rfl) rfl rfl ?_
  refine w_push (pc' := 6) (v := .int ((Int8.ofInt 16).toInt32)) (m := 2) (ykc_226 (e := (1, .bipush 16, 0)) rfl) rfl rfl ?_
  refine w_load (pc' := 7) (v := .int (zn p)) (m := 1) (ykc_226 (e := (2, .iload_n kF2, 0)) rfl) rfl rfl ?_
  have e217 : ((Int8.ofInt 16).toInt32) + (zn p) = zn (16 + p) := (zaddN (a := 16) (b := p) c_0 (znt (by omega)) (by omega)) 
  have te217 := znt (k := 16 + p) (by omega)
  refine w_alu (pc' := 8) (st' := [.int (zn (16 + p)), .ref A, .int (zn p), .ref A, .ref 170]) (ykc_226 (e := (0, .iadd, 0)) rfl) (by rw [← e217]; rfl) rfl ?_
  have q218 := hO0.1 p (by omega)
  have tq218 := znt (k := v (16 + p)) (by omega)
  refine w_ialk (pc' := 9) (k := 16 + p) (ykc_226 (e := (5, .iaload, 0)) rfl) (zNr0 hv (i := 16 + p) (by omega)) (by omega) rfl ?_
  refine w_cv (as := [.ref 170, .ref A, .int (zn p), .int (zn (v (16 + p)))]) (r := []) (ykc_226 (e := (6, .invokevirtual 292, 0)) rfl) rfl rfl rfl rfl (zm_reach hS hE0 hN0 (⟨hA, hv⟩ : (A = 174 ∨ A = 175) ∧ zNr ph A 0 v).1 (⟨hA, hv⟩ : (A = 174 ∨ A = 175) ∧ zNr ph A 0 v).2 hO0 (p := p) (br := v (16 + p)) (by omega) (by omega)) (fun v220 ph221 hv => ?_)
  obtain ⟨f219, rfl⟩ := hv
  have rf219 := @zRe_9 (R, C, rk, sn, sk, cn, cd) P v p (v (16 + p))
  have trf219 := znt (k := zRe (R, C, rk, sn, sk, cn, cd) P v p (v (16 + p))) (by omega)
  show zW n D 226 Q 12 [some (.ref 170), some (.ref A), some (.int (zn p)), none, none, none, none] [.int (zn (zRe (R, C, rk, sn, sk, cn, cd) P v p (v (16 + p))))] ph221
  refine w_store (pc' := 13) (L' := [some (.ref 170), some (.ref A), some (.int (zn p)), some (.int (zn (zRe (R, C, rk, sn, sk, cn, cd) P v p (v (16 + p))))), none, none, none]) (st' := []) (m := 1) (ykc_226 (e := (3, .istore_n kF3, 0)) rfl) rfl rfl ?_
  refine w_alu (pc' := 14) (st' := [.long (Int64.ofNat kG0)]) (ykc_226 (e := (0, .lconst kG0, 0)) rfl) rfl rfl ?_
  refine w_store (pc' := 16) (L' := [some (.ref 170), some (.ref A), some (.int (zn p)), some (.int (zn (zRe (R, C, rk, sn, sk, cn, cd) P v p (v (16 + p))))), some (.long (Int64.ofNat kG0)), none, none]) (st' := []) (m := 2) (ykc_226 (e := (3, .lstore 4, 0)) rfl) rfl rfl ?_
  refine w_alu (pc' := 17) (st' := [.int (Int32.ofInt 0)]) (ykc_226 (e := (0, .iconst 0, 0)) rfl) rfl rfl ?_
  refine w_store (pc' := 19) (L' := [some (.ref 170), some (.ref A), some (.int (zn p)), some (.int (zn (zRe (R, C, rk, sn, sk, cn, cd) P v p (v (16 + p))))), some (.long (Int64.ofNat kG0)), none, some (.int (Int32.ofInt 0))]) (st' := []) (m := 2) (ykc_226 (e := (3, .istore 6, 0)) rfl) rfl rfl ?_
  have hl : ∀ (n : Nat), ∀ (k : Nat), (k ≤ R * C) → zW n D 226 Q 19 [some (.ref 170), some (.ref A), some (.int (zn p)), some (.int (zn (zRe (R, C, rk, sn, sk, cn, cd) P v p (v (16 + p))))), some (.long (zS (zSv (R, C, rk, sn, sk, cn, cd) P v p) k)), none, some (.int (zn k))] [] ph221 := by
    intro n
    induction n using Nat.strongRecOn with
    | ind n ih =>
      intro k hk
      have tk := znt (k := k) (by omega)
      refine w_load (pc' := 21) (v := .int (zn k)) (m := 2) (ykc_226 (e := (2, .iload 6, 0)) rfl) rfl rfl ?_
      refine w_load (pc' := 22) (v := .ref 170) (m := 1) (ykc_226 (e := (2, .aload_n kF0, 0)) rfl) rfl rfl ?_
      refine w_cv (as := [.ref 170]) (r := [.int (zn k)]) (ykc_226 (e := (6, .invokevirtual 122, 0)) rfl) rfl rfl rfl rfl (zm_fields (zSc_S f219 hS) (zSc_l f219 hL0)) (fun v222 ph223 hv => ?_)
      obtain ⟨rfl, rfl⟩ := hv
      have tRC := znt (k := R * C) (by omega)
      show zW n D 226 Q 25 [some (.ref 170), some (.ref A), some (.int (zn p)), some (.int (zn (zRe (R, C, rk, sn, sk, cn, cd) P v p (v (16 + p))))), some (.long (zS (zSv (R, C, rk, sn, sk, cn, cd) P v p) k)), none, some (.int (zn k))] [.int (zn (R * C)), .int (zn k)] ph221
      refine w_ige (ykc_226 (e := (4, .if_icmp .ge 47, 72)) rfl) rfl (fun b224 => ?_) (fun b224 => ?_)
      · refine w_load (pc' := 74) (v := .long (zS (zSv (R, C, rk, sn, sk, cn, cd) P v p) k)) (m := 2) (ykc_226 (e := (2, .lload 4, 0)) rfl) rfl rfl ?_
        refine w_ret (v := (some (.long (zS (zSv (R, C, rk, sn, sk, cn, cd) P v p) k)))) (ykc_226 (e := (7, .lreturn, 0)) rfl) (zr_v rfl) ?_
        have ek : k = R * C := by omega
        subst ek
        rw [hQ]
        exact ⟨f219, rfl⟩
      · refine w_load (pc' := 30) (v := .long (zS (zSv (R, C, rk, sn, sk, cn, cd) P v p) k)) (m := 2) (ykc_226 (e := (2, .lload 4, 0)) rfl) rfl rfl ?_
        refine w_load (pc' := 31) (v := .ref 170) (m := 1) (ykc_226 (e := (2, .aload_n kF0, 0)) rfl) rfl rfl ?_
        refine w_load (pc' := 32) (v := .ref A) (m := 1) (ykc_226 (e := (2, .aload_n kF1, 0)) rfl) rfl rfl ?_
        refine w_load (pc' := 33) (v := .int (zn p)) (m := 1) (ykc_226 (e := (2, .iload_n kF2, 0)) rfl) rfl rfl ?_
        have q225 := hO0.1 p (by omega)
        have tq225 := znt (k := v p) (by omega)
        refine w_ialk (pc' := 34) (k := p) (ykc_226 (e := (5, .iaload, 0)) rfl) ((f219.1 A p (by simp <;> omega) (by simp <;> omega)).trans (zNr0 hv (i := p) (by omega))) (by omega) rfl ?_
        refine w_load (pc' := 36) (v := .int (zn k)) (m := 2) (ykc_226 (e := (2, .iload 6, 0)) rfl) rfl rfl ?_
        refine w_load (pc' := 37) (v := .ref A) (m := 1) (ykc_226 (e := (2, .aload_n kF1, 0)) rfl) rfl rfl ?_
        refine w_push (pc' := 39) (v := .int ((Int8.ofInt 8).toInt32)) (m := 2) (ykc_226 (e := (1, .bipush 8, 0)) rfl) rfl rfl ?_
        refine w_load (pc' := 40) (v := .int (zn p)) (m := 1) (ykc_226 (e := (2, .iload_n kF2, 0)) rfl) rfl rfl ?_
        have e226 : ((Int8.ofInt 8).toInt32) + (zn p) = zn (8 + p) := (zaddN (a := 8) (b := p) c_1 (znt (by omega)) (by omega)) 
        have te226 := znt (k := 8 + p) (by omega)
        refine w_alu (pc' := 41) (st' := [.int (zn (8 + p)), .ref A, .int (zn k), .int (zn (v p)), .ref 170, .long (zS (zSv (R, C, rk, sn, sk, cn, cd) P v p) k)]) (ykc_226 (e := (0, .iadd, 0)) rfl) (by rw [← e226]; rfl) rfl ?_
        have q227 := hO0.1 p (by omega)
        have tq227 := znt (k := v (8 + p)) (by omega)
        refine w_ialk (pc' := 42) (k := 8 + p) (ykc_226 (e := (5, .iaload, 0)) rfl) ((f219.1 A (8 + p) (by simp <;> omega) (by simp <;> omega)).trans (zNr0 hv (i := 8 + p) (by omega))) (by omega) rfl ?_
        refine w_load (pc' := 43) (v := .ref A) (m := 1) (ykc_226 (e := (2, .aload_n kF1, 0)) rfl) rfl rfl ?_
        refine w_push (pc' := 45) (v := .int ((Int8.ofInt 16).toInt32)) (m := 2) (ykc_226 (e := (1, .bipush 16, 0)) rfl) rfl rfl ?_
        refine w_load (pc' := 46) (v := .int (zn p)) (m := 1) (ykc_226 (e := (2, .iload_n kF2, 0)) rfl) rfl rfl ?_
        have e228 : ((Int8.ofInt 16).toInt32) + (zn p) = zn (16 + p) := (zaddN (a := 16) (b := p) c_0 (znt (by omega)) (by omega)) 
        have te228 := znt (k := 16 + p) (by omega)
        refine w_alu (pc' := 47) (st' := [.int (zn (16 + p)), .ref A, .int (zn (v (8 + p))), .int (zn k), .int (zn (v p)), .ref 170, .long (zS (zSv (R, C, rk, sn, sk, cn, cd) P v p) k)]) (ykc_226 (e := (0, .iadd, 0)) rfl) (by rw [← e228]; rfl) rfl ?_
        have q229 := hO0.1 p (by omega)
        have tq229 := znt (k := v (16 + p)) (by omega)
        refine w_ialk (pc' := 48) (k := 16 + p) (ykc_226 (e := (5, .iaload, 0)) rfl) ((f219.1 A (16 + p) (by simp <;> omega) (by simp <;> omega)).trans (zNr0 hv (i := 16 + p) (by omega))) (by omega) rfl ?_
        refine w_load (pc' := 49) (v := .int (zn (zRe (R, C, rk, sn, sk, cn, cd) P v p (v (16 + p))))) (m := 1) (ykc_226 (e := (2, .iload_n kF3, 0)) rfl) rfl rfl ?_
        refine w_cv (as := [.ref 170, .int (zn (v p)), .int (zn k), .int (zn (v (8 + p))), .int (zn (v (16 + p))), .int (zn (zRe (R, C, rk, sn, sk, cn, cd) P v p (v (16 + p))))]) (r := [.long (zS (zSv (R, C, rk, sn, sk, cn, cd) P v p) k)]) (ykc_226 (e := (6, .invokevirtual 296, 0)) rfl) rfl rfl rfl rfl (zm_sees (zSc_S f219 hS) (zSc_l f219 hL0) (a := v p) (g := k) (fc := v (8 + p)) (br := v (16 + p)) (re := zRe (R, C, rk, sn, sk, cn, cd) P v p (v (16 + p))) (by omega) (by omega) (by omega) (by omega) (by omega) (by omega) (by omega) (by omega) (by omega)) (fun v230 ph231 hv => ?_)
        obtain ⟨rfl, rfl⟩ := hv
        show zW n D 226 Q 52 [some (.ref 170), some (.ref A), some (.int (zn p)), some (.int (zn (zRe (R, C, rk, sn, sk, cn, cd) P v p (v (16 + p))))), some (.long (zS (zSv (R, C, rk, sn, sk, cn, cd) P v p) k)), none, some (.int (zn k))] [.int (zI (zsee C rk (v p) k (v (8 + p)) (v (16 + p)) (zRe (R, C, rk, sn, sk, cn, cd) P v p (v (16 + p))))), .long (zS (zSv (R, C, rk, sn, sk, cn, cd) P v p) k)] ph221
        refine w_beq (ykc_226 (e := (4, .ifCond .eq 10, 62)) rfl) rfl (fun b232 => ?_) (fun b232 => ?_)
        · refine w_alu (pc' := 63) (st' := [.long (Int64.ofNat kG0), .long (zS (zSv (R, C, rk, sn, sk, cn, cd) P v p) k)]) (ykc_226 (e := (0, .lconst kG0, 0)) rfl) rfl rfl ?_
          refine w_alu (pc' := 64) (st' := [.long ((zS (zSv (R, C, rk, sn, sk, cn, cd) P v p) k) ||| (Int64.ofNat kG0))]) (ykc_226 (e := (0, .lor, 0)) rfl) rfl rfl ?_
          refine w_store (pc' := 66) (L' := [some (.ref 170), some (.ref A), some (.int (zn p)), some (.int (zn (zRe (R, C, rk, sn, sk, cn, cd) P v p (v (16 + p))))), some (.long ((zS (zSv (R, C, rk, sn, sk, cn, cd) P v p) k) ||| (Int64.ofNat kG0))), none, some (.int (zn k))]) (st' := []) (m := 2) (ykc_226 (e := (3, .lstore 4, 0)) rfl) rfl rfl ?_
          have e233 : (zn k) + Int32.ofInt 1 = zn (k + 1) := (zaddN (a := k) (b := 1) (znt (by omega)) c_3 (by omega))
          have te233 := znt (k := k + 1) (by omega)
          refine w_store (pc' := 69) (L' := [some (.ref 170), some (.ref A), some (.int (zn p)), some (.int (zn (zRe (R, C, rk, sn, sk, cn, cd) P v p (v (16 + p))))), some (.long ((zS (zSv (R, C, rk, sn, sk, cn, cd) P v p) k) ||| (Int64.ofNat kG0))), none, some (.int (zn (k + 1)))]) (st' := []) (m := 3) (ykc_226 (e := (3, .iinc 6 1, 0)) rfl) (by rw [← e233]; rfl) rfl ?_
          refine w_gb (ykc_226 (e := (4, .goto (-50), 19)) rfl) (fun k234 hk234 => ?_)
          have et : zS (zSv (R, C, rk, sn, sk, cn, cd) P v p) (k + 1) = (zS (zSv (R, C, rk, sn, sk, cn, cd) P v p) k) ||| (Int64.ofNat kG0) := by
            show (zS (zSv (R, C, rk, sn, sk, cn, cd) P v p) k ||| bif (zSv (R, C, rk, sn, sk, cn, cd) P v p) k then _ else _) = _
            rw [show (zSv (R, C, rk, sn, sk, cn, cd) P v p) k = false from b232]
            rfl
          have h9 := ih k234 hk234 (k + 1) (by omega)
          rw [et] at h9
          exact h9
        · refine w_alu (pc' := 56) (st' := [.long (Int64.ofNat kG1), .long (zS (zSv (R, C, rk, sn, sk, cn, cd) P v p) k)]) (ykc_226 (e := (0, .lconst kG1, 0)) rfl) rfl rfl ?_
          refine w_load (pc' := 58) (v := .int (zn k)) (m := 2) (ykc_226 (e := (2, .iload 6, 0)) rfl) rfl rfl ?_
          refine w_alu (pc' := 59) (st' := [.long ((Int64.ofNat kG1) <<< ((zn k).toInt64 &&& 63)), .long (zS (zSv (R, C, rk, sn, sk, cn, cd) P v p) k)]) (ykc_226 (e := (0, .lshl, 0)) rfl) rfl rfl ?_
          refine w_br (pc' := 63) (st' := [.long ((Int64.ofNat kG1) <<< ((zn k).toInt64 &&& 63)), .long (zS (zSv (R, C, rk, sn, sk, cn, cd) P v p) k)]) (ykc_226 (e := (4, .goto 4, 63)) rfl) rfl ?_
          refine w_alu (pc' := 64) (st' := [.long ((zS (zSv (R, C, rk, sn, sk, cn, cd) P v p) k) ||| ((Int64.ofNat kG1) <<< ((zn k).toInt64 &&& 63)))]) (ykc_226 (e := (0, .lor, 0)) rfl) rfl rfl ?_
          refine w_store (pc' := 66) (L' := [some (.ref 170), some (.ref A), some (.int (zn p)), some (.int (zn (zRe (R, C, rk, sn, sk, cn, cd) P v p (v (16 + p))))), some (.long ((zS (zSv (R, C, rk, sn, sk, cn, cd) P v p) k) ||| ((Int64.ofNat kG1) <<< ((zn k).toInt64 &&& 63)))), none, some (.int (zn k))]) (st' := []) (m := 2) (ykc_226 (e := (3, .lstore 4, 0)) rfl) rfl rfl ?_
          have e235 : (zn k) + Int32.ofInt 1 = zn (k + 1) := (zaddN (a := k) (b := 1) (znt (by omega)) c_3 (by omega))
          have te235 := znt (k := k + 1) (by omega)
          refine w_store (pc' := 69) (L' := [some (.ref 170), some (.ref A), some (.int (zn p)), some (.int (zn (zRe (R, C, rk, sn, sk, cn, cd) P v p (v (16 + p))))), some (.long ((zS (zSv (R, C, rk, sn, sk, cn, cd) P v p) k) ||| ((Int64.ofNat kG1) <<< ((zn k).toInt64 &&& 63)))), none, some (.int (zn (k + 1)))]) (st' := []) (m := 3) (ykc_226 (e := (3, .iinc 6 1, 0)) rfl) (by rw [← e235]; rfl) rfl ?_
          refine w_gb (ykc_226 (e := (4, .goto (-50), 19)) rfl) (fun k236 hk236 => ?_)
          have et : zS (zSv (R, C, rk, sn, sk, cn, cd) P v p) (k + 1) = (zS (zSv (R, C, rk, sn, sk, cn, cd) P v p) k) ||| ((Int64.ofNat kG1) <<< ((zn k).toInt64 &&& 63)) := by
            show (zS (zSv (R, C, rk, sn, sk, cn, cd) P v p) k ||| bif (zSv (R, C, rk, sn, sk, cn, cd) P v p) k then _ else _) = _
            rw [show (zSv (R, C, rk, sn, sk, cn, cd) P v p) k = true from b232]
            rfl
          have h9 := ih k236 hk236 (k + 1) (by omega)
          rw [et] at h9
          exact h9
  exact hl n 0 (Nat.zero_le _)
theorem zm_all {ph : pm_H} {E : zEn} {P G A : Nat} {v : Nat → Nat} (hS : zSh ph) (hE : zMe ph E) (hN : zMp ph P G) (hA : A = 174 ∨ A = 175) (hv : zNr ph A 0 v) (hO : zOk E.1 E.2.1 P G v) : zM 227 [.ref 170, .ref A] ph (fun v0 q => zSc ph q ∧ v0 = some (.long (zAll E P v))) := by
  obtain ⟨Q, hQ⟩ : ∃ Q : Option Value → pm_H → Prop, Q = (fun v0 q => zSc ph q ∧ v0 = some (.long (zAll E P v))) := ⟨_, rfl⟩
  rw [← hQ]
  refine zM_mk fun n D => ?_
  show zW n D 227 Q 0 [some (.ref 170), some (.ref A), none, none, none] [] ph
  have c_0 : (Int32.ofInt 0).toInt = 0 := by decide +kernel
  have c_1 : (Int32.ofInt 1).toInt = 1 := by decide +kernel
  obtain ⟨R, C, rk, sn, sk, cn, cd⟩ := E
  have hL0 : zMl ph R C rk := hE.1
  have hR0 : zMr ph sn sk cn cd := hE.2.1
  have hcg : zcg cn cd := hE.2.2
  have hE0 : zMe ph (R, C, rk, sn, sk, cn, cd) := hE
  have hO0 : zOk R C P G v := hO
  have hN0 := hN
  have hL := hL0
  have hR := hR0
  obtain ⟨gR, gC, gK, hR3, hR7, hC3, hC7⟩ := hL
  have hRC := zRC49 hR7 hC7
  have tR := znt (k := R) (by omega)
  have tC := znt (k := C) (by omega)
  obtain ⟨gP, hP8, gG, hG8⟩ := hN
  have tP := znt (k := P) (by omega)
  have tG := znt (k := G) (by omega)
  obtain ⟨gsn, hs1, hs20, gsk, gcn, hc40, gcd⟩ := hR
  have tsn := znt (k := sn) (by omega)
  have tcn := znt (k := cn) (by omega)
  refine w_alu (pc' := 1) (st' := [.long (Int64.ofNat kG0)]) (ykc_227 (e := (0, .lconst kG0, 0)) rfl) rfl rfl ?_
  refine w_store (pc' := 2) (L' := [some (.ref 170), some (.ref A), some (.long (Int64.ofNat kG0)), none, none]) (st' := []) (m := 1) (ykc_227 (e := (3, .lstore_n kF2, 0)) rfl) rfl rfl ?_
  refine w_alu (pc' := 3) (st' := [.int (Int32.ofInt 0)]) (ykc_227 (e := (0, .iconst 0, 0)) rfl) rfl rfl ?_
  refine w_store (pc' := 5) (L' := [some (.ref 170), some (.ref A), some (.long (Int64.ofNat kG0)), none, some (.int (Int32.ofInt 0))]) (st' := []) (m := 2) (ykc_227 (e := (3, .istore 4, 0)) rfl) rfl rfl ?_
  have hl : ∀ (n : Nat), ∀ (k : Nat) (ph1 : pm_H), (k ≤ P) → (zSc ph ph1) → zW n D 227 Q 5 [some (.ref 170), some (.ref A), some (.long (zU (zVw (R, C, rk, sn, sk, cn, cd) P v) k)), none, some (.int (zn k))] [] ph1 := by
    intro n
    induction n using Nat.strongRecOn with
    | ind n ih =>
      intro k ph1 hk hf
      have tk := znt (k := k) (by omega)
      refine w_load (pc' := 7) (v := .int (zn k)) (m := 2) (ykc_227 (e := (2, .iload 4, 0)) rfl) rfl rfl ?_
      refine w_load (pc' := 8) (v := .ref 170) (m := 1) (ykc_227 (e := (2, .aload_n kF0, 0)) rfl) rfl rfl ?_
      refine w_gf (pc' := 11) (v := .int (zn P)) (ykc_227 (e := (5, .getfield 130, 0)) rfl) rfl ((hf.1 170 5 (by first | exact zqm rfl | decide) (by first | exact zqp rfl | decide)).trans gP) rfl ?_
      refine w_ige (ykc_227 (e := (4, .if_icmp .ge 19, 30)) rfl) rfl (fun b237 => ?_) (fun b237 => ?_)
      · refine w_load (pc' := 31) (v := .long (zU (zVw (R, C, rk, sn, sk, cn, cd) P v) k)) (m := 1) (ykc_227 (e := (2, .lload_n kF2, 0)) rfl) rfl rfl ?_
        refine w_ret (v := (some (.long (zU (zVw (R, C, rk, sn, sk, cn, cd) P v) k)))) (ykc_227 (e := (7, .lreturn, 0)) rfl) (zr_v rfl) ?_
        have ek : P = k := by omega
        subst ek
        rw [hQ]
        exact ⟨hf, rfl⟩
      · refine w_load (pc' := 15) (v := .long (zU (zVw (R, C, rk, sn, sk, cn, cd) P v) k)) (m := 1) (ykc_227 (e := (2, .lload_n kF2, 0)) rfl) rfl rfl ?_
        refine w_load (pc' := 16) (v := .ref 170) (m := 1) (ykc_227 (e := (2, .aload_n kF0, 0)) rfl) rfl rfl ?_
        refine w_load (pc' := 17) (v := .ref A) (m := 1) (ykc_227 (e := (2, .aload_n kF1, 0)) rfl) rfl rfl ?_
        refine w_load (pc' := 19) (v := .int (zn k)) (m := 2) (ykc_227 (e := (2, .iload 4, 0)) rfl) rfl rfl ?_
        refine w_cv (as := [.ref 170, .ref A, .int (zn k)]) (r := [.long (zU (zVw (R, C, rk, sn, sk, cn, cd) P v) k)]) (ykc_227 (e := (6, .invokevirtual 300, 0)) rfl) rfl rfl rfl rfl (zm_seen (zSc_S hf hS) (zSc_e hf hE0) (zSc_p hf hN0) (zSc_a hf (⟨hA, hv⟩ : (A = 174 ∨ A = 175) ∧ zNr ph A 0 v)).1 (zSc_a hf (⟨hA, hv⟩ : (A = 174 ∨ A = 175) ∧ zNr ph A 0 v)).2 hO0 (p := k) (by omega)) (fun v239 ph240 hv => ?_)
        obtain ⟨f238, rfl⟩ := hv
        show zW n D 227 Q 22 [some (.ref 170), some (.ref A), some (.long (zU (zVw (R, C, rk, sn, sk, cn, cd) P v) k)), none, some (.int (zn k))] [.long (zVw (R, C, rk, sn, sk, cn, cd) P v k), .long (zU (zVw (R, C, rk, sn, sk, cn, cd) P v) k)] ph240
        refine w_alu (pc' := 23) (st' := [.long ((zU (zVw (R, C, rk, sn, sk, cn, cd) P v) k) ||| (zVw (R, C, rk, sn, sk, cn, cd) P v k))]) (ykc_227 (e := (0, .lor, 0)) rfl) rfl rfl ?_
        refine w_store (pc' := 24) (L' := [some (.ref 170), some (.ref A), some (.long ((zU (zVw (R, C, rk, sn, sk, cn, cd) P v) k) ||| (zVw (R, C, rk, sn, sk, cn, cd) P v k))), none, some (.int (zn k))]) (st' := []) (m := 1) (ykc_227 (e := (3, .lstore_n kF2, 0)) rfl) rfl rfl ?_
        have e241 : (zn k) + Int32.ofInt 1 = zn (k + 1) := (zaddN (a := k) (b := 1) (znt (by omega)) c_1 (by omega))
        have te241 := znt (k := k + 1) (by omega)
        refine w_store (pc' := 27) (L' := [some (.ref 170), some (.ref A), some (.long ((zU (zVw (R, C, rk, sn, sk, cn, cd) P v) k) ||| (zVw (R, C, rk, sn, sk, cn, cd) P v k))), none, some (.int (zn (k + 1)))]) (st' := []) (m := 3) (ykc_227 (e := (3, .iinc 4 1, 0)) rfl) (by rw [← e241]; rfl) rfl ?_
        refine w_gb (ykc_227 (e := (4, .goto (-22), 5)) rfl) (fun k242 hk242 => ?_)
        exact ih k242 hk242 (k + 1) _ (by omega) (zFr_trans hf f238)
  exact hl n 0 ph (Nat.zero_le _) zFr_refl
theorem zm_ton {ph : pm_H} {E : zEn} {P G A : Nat} {v : Nat → Nat} (hS : zSh ph) (hE : zMe ph E) (hN : zMp ph P G) (hA : A = 174 ∨ A = 175) (hv : zNr ph A 0 v) (hO : zOk E.1 E.2.1 P G v) {x : Int64} : zM 228 [.ref 170, .ref A, .long x] ph (fun v0 q => ph = q ∧ v0 = some (.int (zTon G v x))) := by
  obtain ⟨Q, hQ⟩ : ∃ Q : Option Value → pm_H → Prop, Q = (fun v0 q => ph = q ∧ v0 = some (.int (zTon G v x))) := ⟨_, rfl⟩
  rw [← hQ]
  refine zM_mk fun n D => ?_
  show zW n D 228 Q 0 [some (.ref 170), some (.ref A), some (.long x), none, none, none] [] ph
  have c_0 : ((Int8.ofInt 32).toInt32).toInt = 32 := by decide +kernel
  have c_1 : (Int32.ofInt 0).toInt = 0 := by decide +kernel
  have c_2 : (Int32.ofInt 1).toInt = 1 := by decide +kernel
  obtain ⟨R, C, rk, sn, sk, cn, cd⟩ := E
  have hL0 : zMl ph R C rk := hE.1
  have hR0 : zMr ph sn sk cn cd := hE.2.1
  have hcg : zcg cn cd := hE.2.2
  have hE0 : zMe ph (R, C, rk, sn, sk, cn, cd) := hE
  have hO0 : zOk R C P G v := hO
  have hN0 := hN
  have hL := hL0
  have hR := hR0
  obtain ⟨gR, gC, gK, hR3, hR7, hC3, hC7⟩ := hL
  have hRC := zRC49 hR7 hC7
  have tR := znt (k := R) (by omega)
  have tC := znt (k := C) (by omega)
  obtain ⟨gP, hP8, gG, hG8⟩ := hN
  have tP := znt (k := P) (by omega)
  have tG := znt (k := G) (by omega)
  obtain ⟨gsn, hs1, hs20, gsk, gcn, hc40, gcd⟩ := hR
  have tsn := znt (k := sn) (by omega)
  have tcn := znt (k := cn) (by omega)
  refine w_alu (pc' := 1) (st' := [.int (Int32.ofInt 0)]) (ykc_228 (e := (0, .iconst 0, 0)) rfl) rfl rfl ?_
  refine w_store (pc' := 3) (L' := [some (.ref 170), some (.ref A), some (.long x), none, some (.int (Int32.ofInt 0)), none]) (st' := []) (m := 2) (ykc_228 (e := (3, .istore 4, 0)) rfl) rfl rfl ?_
  refine w_alu (pc' := 4) (st' := [.int (Int32.ofInt 0)]) (ykc_228 (e := (0, .iconst 0, 0)) rfl) rfl rfl ?_
  refine w_store (pc' := 6) (L' := [some (.ref 170), some (.ref A), some (.long x), none, some (.int (Int32.ofInt 0)), some (.int (Int32.ofInt 0))]) (st' := []) (m := 2) (ykc_228 (e := (3, .istore 5, 0)) rfl) rfl rfl ?_
  have hl : ∀ (n : Nat), ∀ (k : Nat), (k ≤ G) → zW n D 228 Q 6 [some (.ref 170), some (.ref A), some (.long x), none, some (.int (zT (fun t => zb x (v (32 + t))) k)), some (.int (zn k))] [] ph := by
    intro n
    induction n using Nat.strongRecOn with
    | ind n ih =>
      intro k hk
      have tk := znt (k := k) (by omega)
      refine w_load (pc' := 8) (v := .int (zn k)) (m := 2) (ykc_228 (e := (2, .iload 5, 0)) rfl) rfl rfl ?_
      refine w_load (pc' := 9) (v := .ref 170) (m := 1) (ykc_228 (e := (2, .aload_n kF0, 0)) rfl) rfl rfl ?_
      refine w_gf (pc' := 12) (v := .int (zn G)) (ykc_228 (e := (5, .getfield 133, 0)) rfl) rfl gG rfl ?_
      refine w_ige (ykc_228 (e := (4, .if_icmp .ge 36, 48)) rfl) rfl (fun b243 => ?_) (fun b243 => ?_)
      · refine w_load (pc' := 50) (v := .int (zT (fun t => zb x (v (32 + t))) k)) (m := 2) (ykc_228 (e := (2, .iload 4, 0)) rfl) rfl rfl ?_
        refine w_ret (v := (some (.int (zT (fun t => zb x (v (32 + t))) k)))) (ykc_228 (e := (7, .ireturn, 0)) rfl) (zr_v rfl) ?_
        have ek : G = k := by omega
        subst ek
        rw [hQ]
        exact ⟨rfl, rfl⟩
      · refine w_load (pc' := 17) (v := .int (zT (fun t => zb x (v (32 + t))) k)) (m := 2) (ykc_228 (e := (2, .iload 4, 0)) rfl) rfl rfl ?_
        refine w_load (pc' := 18) (v := .long x) (m := 1) (ykc_228 (e := (2, .lload_n kF2, 0)) rfl) rfl rfl ?_
        refine w_load (pc' := 19) (v := .ref A) (m := 1) (ykc_228 (e := (2, .aload_n kF1, 0)) rfl) rfl rfl ?_
        refine w_push (pc' := 21) (v := .int ((Int8.ofInt 32).toInt32)) (m := 2) (ykc_228 (e := (1, .bipush 32, 0)) rfl) rfl rfl ?_
        refine w_load (pc' := 23) (v := .int (zn k)) (m := 2) (ykc_228 (e := (2, .iload 5, 0)) rfl) rfl rfl ?_
        have e244 : ((Int8.ofInt 32).toInt32) + (zn k) = zn (32 + k) := (zaddN (a := 32) (b := k) c_0 (znt (by omega)) (by omega)) 
        have te244 := znt (k := 32 + k) (by omega)
        refine w_alu (pc' := 24) (st' := [.int (zn (32 + k)), .ref A, .long x, .int (zT (fun t => zb x (v (32 + t))) k)]) (ykc_228 (e := (0, .iadd, 0)) rfl) (by rw [← e244]; rfl) rfl ?_
        have q245 := hO0.2.1 k (by omega)
        have tq245 := znt (k := v (32 + k)) (by omega)
        refine w_ialk (pc' := 25) (k := 32 + k) (ykc_228 (e := (5, .iaload, 0)) rfl) (zNr0 hv (i := 32 + k) (by omega)) (by omega) rfl ?_
        refine w_cs (as := [.long x, .int (zn (v (32 + k)))]) (r := [.int (zT (fun t => zb x (v (32 + t))) k)]) (ykc_228 (e := (6, .invokestatic 304, 0)) rfl) rfl rfl rfl rfl (zm_has (kn := v (32 + k)) (by omega) (by omega)) (fun v246 ph247 hv => ?_)
        obtain ⟨rfl, rfl⟩ := hv
        show zW n D 228 Q 28 [some (.ref 170), some (.ref A), some (.long x), none, some (.int (zT (fun t => zb x (v (32 + t))) k)), some (.int (zn k))] [.int (zI (zb x (v (32 + k)))), .int (zT (fun t => zb x (v (32 + t))) k)] ph
        refine w_beq (ykc_228 (e := (4, .ifCond .eq 10, 38)) rfl) rfl (fun b248 => ?_) (fun b248 => ?_)
        · refine w_alu (pc' := 39) (st' := [.int (Int32.ofInt 0), .int (zT (fun t => zb x (v (32 + t))) k)]) (ykc_228 (e := (0, .iconst 0, 0)) rfl) rfl rfl ?_
          refine w_alu (pc' := 40) (st' := [.int ((zT (fun t => zb x (v (32 + t))) k) ||| (Int32.ofInt 0))]) (ykc_228 (e := (0, .ior, 0)) rfl) rfl rfl ?_
          refine w_store (pc' := 42) (L' := [some (.ref 170), some (.ref A), some (.long x), none, some (.int ((zT (fun t => zb x (v (32 + t))) k) ||| (Int32.ofInt 0))), some (.int (zn k))]) (st' := []) (m := 2) (ykc_228 (e := (3, .istore 4, 0)) rfl) rfl rfl ?_
          have e249 : (zn k) + Int32.ofInt 1 = zn (k + 1) := (zaddN (a := k) (b := 1) (znt (by omega)) c_2 (by omega))
          have te249 := znt (k := k + 1) (by omega)
          refine w_store (pc' := 45) (L' := [some (.ref 170), some (.ref A), some (.long x), none, some (.int ((zT (fun t => zb x (v (32 + t))) k) ||| (Int32.ofInt 0))), some (.int (zn (k + 1)))]) (st' := []) (m := 3) (ykc_228 (e := (3, .iinc 5 1, 0)) rfl) (by rw [← e249]; rfl) rfl ?_
          refine w_gb (ykc_228 (e := (4, .goto (-39), 6)) rfl) (fun k250 hk250 => ?_)
          have et : zT (fun t => zb x (v (32 + t))) (k + 1) = (zT (fun t => zb x (v (32 + t))) k) ||| (Int32.ofInt 0) := by
            show (zT (fun t => zb x (v (32 + t))) k ||| bif (fun t => zb x (v (32 + t))) k then _ else _) = _
            rw [show (fun t => zb x (v (32 + t))) k = false from b248]
            rfl
          have h9 := ih k250 hk250 (k + 1) (by omega)
          rw [et] at h9
          exact h9
        · refine w_alu (pc' := 32) (st' := [.int (Int32.ofInt 1), .int (zT (fun t => zb x (v (32 + t))) k)]) (ykc_228 (e := (0, .iconst 1, 0)) rfl) rfl rfl ?_
          refine w_load (pc' := 34) (v := .int (zn k)) (m := 2) (ykc_228 (e := (2, .iload 5, 0)) rfl) rfl rfl ?_
          refine w_alu (pc' := 35) (st' := [.int ((Int32.ofInt 1) <<< ((zn k) &&& 31)), .int (zT (fun t => zb x (v (32 + t))) k)]) (ykc_228 (e := (0, .ishl, 0)) rfl) rfl rfl ?_
          refine w_br (pc' := 39) (st' := [.int ((Int32.ofInt 1) <<< ((zn k) &&& 31)), .int (zT (fun t => zb x (v (32 + t))) k)]) (ykc_228 (e := (4, .goto 4, 39)) rfl) rfl ?_
          refine w_alu (pc' := 40) (st' := [.int ((zT (fun t => zb x (v (32 + t))) k) ||| ((Int32.ofInt 1) <<< ((zn k) &&& 31)))]) (ykc_228 (e := (0, .ior, 0)) rfl) rfl rfl ?_
          refine w_store (pc' := 42) (L' := [some (.ref 170), some (.ref A), some (.long x), none, some (.int ((zT (fun t => zb x (v (32 + t))) k) ||| ((Int32.ofInt 1) <<< ((zn k) &&& 31)))), some (.int (zn k))]) (st' := []) (m := 2) (ykc_228 (e := (3, .istore 4, 0)) rfl) rfl rfl ?_
          have e251 : (zn k) + Int32.ofInt 1 = zn (k + 1) := (zaddN (a := k) (b := 1) (znt (by omega)) c_2 (by omega))
          have te251 := znt (k := k + 1) (by omega)
          refine w_store (pc' := 45) (L' := [some (.ref 170), some (.ref A), some (.long x), none, some (.int ((zT (fun t => zb x (v (32 + t))) k) ||| ((Int32.ofInt 1) <<< ((zn k) &&& 31)))), some (.int (zn (k + 1)))]) (st' := []) (m := 3) (ykc_228 (e := (3, .iinc 5 1, 0)) rfl) (by rw [← e251]; rfl) rfl ?_
          refine w_gb (ykc_228 (e := (4, .goto (-39), 6)) rfl) (fun k252 hk252 => ?_)
          have et : zT (fun t => zb x (v (32 + t))) (k + 1) = (zT (fun t => zb x (v (32 + t))) k) ||| ((Int32.ofInt 1) <<< ((zn k) &&& 31)) := by
            show (zT (fun t => zb x (v (32 + t))) k ||| bif (fun t => zb x (v (32 + t))) k then _ else _) = _
            rw [show (fun t => zb x (v (32 + t))) k = true from b248]
            rfl
          have h9 := ih k252 hk252 (k + 1) (by omega)
          rw [et] at h9
          exact h9
  exact hl n 0 (Nat.zero_le _)
theorem zm_meet {ph : pm_H} {E : zEn} {P G A : Nat} {v : Nat → Nat} (hS : zSh ph) (hE : zMe ph E) (hN : zMp ph P G) (hA : A = 174 ∨ A = 175) (hv : zNr ph A 0 v) (hO : zOk E.1 E.2.1 P G v) {a b : Nat} (ha : a < P) (hb : b < P) : zM 231 [.ref 170, .ref A, .int (zn a), .int (zn b)] ph (fun v0 q => zSc ph q ∧ v0 = some (.int (zI (zMeet E P v a b)))) := by
  obtain ⟨Q, hQ⟩ : ∃ Q : Option Value → pm_H → Prop, Q = (fun v0 q => zSc ph q ∧ v0 = some (.int (zI (zMeet E P v a b)))) := ⟨_, rfl⟩
  rw [← hQ]
  refine zM_mk fun n D => ?_
  show zW n D 231 Q 0 [some (.ref 170), some (.ref A), some (.int (zn a)), some (.int (zn b))] [] ph
  have c_0 : (Int32.ofInt 0).toInt = 0 := by decide +kernel
  have c_1 : (Int32.ofInt 1).toInt = 1 := by decide +kernel
  obtain ⟨R, C, rk, sn, sk, cn, cd⟩ := E
  have hL0 : zMl ph R C rk := hE.1
  have hR0 : zMr ph sn sk cn cd := hE.2.1
  have hcg : zcg cn cd := hE.2.2
  have hE0 : zMe ph (R, C, rk, sn, sk, cn, cd) := hE
  have hO0 : zOk R C P G v := hO
  have hN0 := hN
  have hL := hL0
  have hR := hR0
  obtain ⟨gR, gC, gK, hR3, hR7, hC3, hC7⟩ := hL
  have hRC := zRC49 hR7 hC7
  have tR := znt (k := R) (by omega)
  have tC := znt (k := C) (by omega)
  obtain ⟨gP, hP8, gG, hG8⟩ := hN
  have tP := znt (k := P) (by omega)
  have tG := znt (k := G) (by omega)
  obtain ⟨gsn, hs1, hs20, gsk, gcn, hc40, gcd⟩ := hR
  have tsn := znt (k := sn) (by omega)
  have tcn := znt (k := cn) (by omega)
  have ta := znt (k := a) (by omega)
  have tb := znt (k := b) (by omega)
  refine w_load (pc' := 1) (v := .ref 170) (m := 1) (ykc_231 (e := (2, .aload_n kF0, 0)) rfl) rfl rfl ?_
  refine w_load (pc' := 2) (v := .ref A) (m := 1) (ykc_231 (e := (2, .aload_n kF1, 0)) rfl) rfl rfl ?_
  refine w_load (pc' := 3) (v := .int (zn a)) (m := 1) (ykc_231 (e := (2, .iload_n kF2, 0)) rfl) rfl rfl ?_
  refine w_load (pc' := 4) (v := .ref A) (m := 1) (ykc_231 (e := (2, .aload_n kF1, 0)) rfl) rfl rfl ?_
  refine w_load (pc' := 5) (v := .int (zn b)) (m := 1) (ykc_231 (e := (2, .iload_n kF3, 0)) rfl) rfl rfl ?_
  have q271 := hO0.1 b (by omega)
  have tq271 := znt (k := v b) (by omega)
  refine w_ialk (pc' := 6) (k := b) (ykc_231 (e := (5, .iaload, 0)) rfl) (zNr0 hv (i := b) (by omega)) (by omega) rfl ?_
  refine w_cv (as := [.ref 170, .ref A, .int (zn a), .int (zn (v b))]) (r := []) (ykc_231 (e := (6, .invokevirtual 308, 0)) rfl) rfl rfl rfl rfl (zm_does hS hE0 hN0 (⟨hA, hv⟩ : (A = 174 ∨ A = 175) ∧ zNr ph A 0 v).1 (⟨hA, hv⟩ : (A = 174 ∨ A = 175) ∧ zNr ph A 0 v).2 hO0 (p := a) (g := v b) (by omega) (show v b < R * C by omega)) (fun v273 ph274 hv => ?_)
  obtain ⟨f272, rfl⟩ := hv
  show zW n D 231 Q 9 [some (.ref 170), some (.ref A), some (.int (zn a)), some (.int (zn b))] [.int (zI (zSv (R, C, rk, sn, sk, cn, cd) P v a (v b)))] ph274
  refine w_beq (ykc_231 (e := (4, .ifCond .eq 19, 28)) rfl) rfl (fun b275 => ?_) (fun b275 => ?_)
  · refine w_alu (pc' := 29) (st' := [.int (Int32.ofInt 0)]) (ykc_231 (e := (0, .iconst 0, 0)) rfl) rfl rfl ?_
    refine w_ret (v := (some (.int (Int32.ofInt 0)))) (ykc_231 (e := (7, .ireturn, 0)) rfl) zr_z ?_
    rw [hQ, zi0]
    exact ⟨f272, zvB (by unfold zMeet; simp [b275])⟩
  · refine w_load (pc' := 13) (v := .ref 170) (m := 1) (ykc_231 (e := (2, .aload_n kF0, 0)) rfl) rfl rfl ?_
    refine w_load (pc' := 14) (v := .ref A) (m := 1) (ykc_231 (e := (2, .aload_n kF1, 0)) rfl) rfl rfl ?_
    refine w_load (pc' := 15) (v := .int (zn b)) (m := 1) (ykc_231 (e := (2, .iload_n kF3, 0)) rfl) rfl rfl ?_
    refine w_load (pc' := 16) (v := .ref A) (m := 1) (ykc_231 (e := (2, .aload_n kF1, 0)) rfl) rfl rfl ?_
    refine w_load (pc' := 17) (v := .int (zn a)) (m := 1) (ykc_231 (e := (2, .iload_n kF2, 0)) rfl) rfl rfl ?_
    have q276 := hO0.1 a (by omega)
    have tq276 := znt (k := v a) (by omega)
    refine w_ialk (pc' := 18) (k := a) (ykc_231 (e := (5, .iaload, 0)) rfl) ((f272.1 A a (by simp <;> omega) (by simp <;> omega)).trans (zNr0 hv (i := a) (by omega))) (by omega) rfl ?_
    refine w_cv (as := [.ref 170, .ref A, .int (zn b), .int (zn (v a))]) (r := []) (ykc_231 (e := (6, .invokevirtual 308, 0)) rfl) rfl rfl rfl rfl (zm_does (zSc_S f272 hS) (zSc_e f272 hE0) (zSc_p f272 hN0) (zSc_a f272 (⟨hA, hv⟩ : (A = 174 ∨ A = 175) ∧ zNr ph A 0 v)).1 (zSc_a f272 (⟨hA, hv⟩ : (A = 174 ∨ A = 175) ∧ zNr ph A 0 v)).2 hO0 (p := b) (g := v a) (by omega) (show v a < R * C by omega)) (fun v278 ph279 hv => ?_)
    obtain ⟨f277, rfl⟩ := hv
    show zW n D 231 Q 21 [some (.ref 170), some (.ref A), some (.int (zn a)), some (.int (zn b))] [.int (zI (zSv (R, C, rk, sn, sk, cn, cd) P v b (v a)))] ph279
    refine w_beq (ykc_231 (e := (4, .ifCond .eq 7, 28)) rfl) rfl (fun b280 => ?_) (fun b280 => ?_)
    · refine w_alu (pc' := 29) (st' := [.int (Int32.ofInt 0)]) (ykc_231 (e := (0, .iconst 0, 0)) rfl) rfl rfl ?_
      refine w_ret (v := (some (.int (Int32.ofInt 0)))) (ykc_231 (e := (7, .ireturn, 0)) rfl) zr_z ?_
      rw [hQ, zi0]
      exact ⟨(zFr_trans f272 f277), zvB (by unfold zMeet; simp [b275, b280])⟩
    · refine w_alu (pc' := 25) (st' := [.int (Int32.ofInt 1)]) (ykc_231 (e := (0, .iconst 1, 0)) rfl) rfl rfl ?_
      refine w_br (pc' := 29) (st' := [.int (Int32.ofInt 1)]) (ykc_231 (e := (4, .goto 4, 29)) rfl) rfl ?_
      refine w_ret (v := (some (.int (Int32.ofInt 1)))) (ykc_231 (e := (7, .ireturn, 0)) rfl) zr_z ?_
      rw [hQ, zi1]
      exact ⟨(zFr_trans f272 f277), zvB (by unfold zMeet; simp [b275, b280])⟩
