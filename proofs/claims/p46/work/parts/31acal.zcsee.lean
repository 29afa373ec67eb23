/-! the class: rule, REACH, views, by W; printed by wip/z/z_j_csee.py -/
/-- an act as the class writes it, a code as the class writes it -/
def zoc (a : Nat) : Int := if a = 0 then -60 else if a = 1 then -62 else if a = 2 then -61 else if a = 3 then -43 else if a = 4 then -45 else if a = 5 then -42 else -47
theorem zoc_b {a : Nat} : -62 ≤ zoc a ∧ zoc a ≤ -42 := by
  unfold zoc
  (repeat' split) <;> omega
theorem zoc_t {a : Nat} : (Int32.ofInt (zoc a)).toInt = zoc a := by
  have h := @zoc_b a
  exact Int32.toInt_ofInt_of_le (by omega) (by omega)
def zcc (c : Nat) : Int32 := if c < 2000 then zn c else if c = 3000 then Int32.ofInt (-109) else Int32.ofInt (zoc (c - 2000))
/-- a Formula at F holds k codes -/
def zFm (ph : pm_H) (F k : Nat) (c : Nat → Nat) : Prop := zc ph F 0 = some (.ref (F + 1)) ∧ zc ph F 8 = some (.ref (F + 4)) ∧ zc ph F 1 = some (.int (zn k)) ∧ 1 ≤ k ∧ k ≤ 40 ∧ (∀ i, i < k → zc ph (F + 1) i = some (.int (zcc (c i)))) ∧ zcg k c
theorem zneg_t {x : Int32} {d : Int} (h : x.toInt = d) (h1 : -1000 ≤ d) (h2 : d ≤ 1000) : (-x).toInt = -d := by
  rw [Int32.toInt_neg, h, xbm (by omega) (by omega)]
theorem zc_comb {c a b : Int32} {k : Nat} {ph : pm_H} (hc : c.toInt = -(zoc k)) (hk : k < 7) : zM 14 [.int c, .int a, .int b] ph (fun v q => ph = q ∧ v = some (.int (zwk k a b))) := by
  obtain ⟨Q, hQ⟩ : ∃ Q : Option Value → pm_H → Prop, Q = (fun v q => ph = q ∧ v = some (.int (zwk k a b))) := ⟨_, rfl⟩
  rw [← hQ]
  refine zM_mk fun n D => ?_
  show zW n D 14 Q 0 [some (.int c), some (.int a), some (.int b)] [] ph
  have c_0 : (Int32.ofInt 0).toInt = 0 := by decide +kernel
  have c_1 : (Int32.ofInt 1).toInt = 1 := by decide +kernel
  refine w_load (pc' := 1) (v := .int c) (m := 1) (ykc_14 (e := (2, .iload_n kF0, 0)) rfl) rfl rfl ?_
  rcases (show k = 0 ∨ k = 1 ∨ k = 2 ∨ k = 3 ∨ k = 4 ∨ k = 5 ∨ k = 6 by omega) with e | e | e | e | e | e | e
  · subst e
    have hc : c.toInt = 60 := hc
    refine w_br (pc' := 100) (st' := []) (ykc_14 (e := (4, .tableswitch 156 42 62 #[140, 132, 156, 136, 156, 144, 156, 156, 156, 156, 156, 156, 156, 156, 156, 156, 156, 156, 99, 121, 110], 99)) rfl) (zts_i (k := 18) (o := 99) (by omega) (by omega) rfl rfl) ?_
    refine w_load (pc' := 101) (v := .int a) (m := 1) (ykc_14 (e := (2, .iload_n kF1, 0)) rfl) rfl rfl ?_
    refine w_load (pc' := 102) (v := .int b) (m := 1) (ykc_14 (e := (2, .iload_n kF2, 0)) rfl) rfl rfl ?_
    refine w_ige (ykc_14 (e := (4, .if_icmp .ge 7, 109)) rfl) rfl (fun b476 => ?_) (fun b476 => ?_)
    · refine w_alu (pc' := 110) (st' := [.int (Int32.ofInt 0)]) (ykc_14 (e := (0, .iconst 0, 0)) rfl) rfl rfl ?_
      refine w_ret (v := (some (.int (Int32.ofInt 0)))) (ykc_14 (e := (7, .ireturn, 0)) rfl) (zr_v rfl) ?_
      rw [hQ, zi0]
      exact ⟨rfl, zvB (by exact (decide_eq_false (by omega)).symm)⟩
    · refine w_alu (pc' := 106) (st' := [.int (Int32.ofInt 1)]) (ykc_14 (e := (0, .iconst 1, 0)) rfl) rfl rfl ?_
      refine w_br (pc' := 110) (st' := [.int (Int32.ofInt 1)]) (ykc_14 (e := (4, .goto 4, 110)) rfl) rfl ?_
      refine w_ret (v := (some (.int (Int32.ofInt 1)))) (ykc_14 (e := (7, .ireturn, 0)) rfl) (zr_v rfl) ?_
      rw [hQ, zi1]
      exact ⟨rfl, zvB (by exact (decide_eq_true (by omega)).symm)⟩
  · subst e
    have hc : c.toInt = 62 := hc
    refine w_br (pc' := 111) (st' := []) (ykc_14 (e := (4, .tableswitch 156 42 62 #[140, 132, 156, 136, 156, 144, 156, 156, 156, 156, 156, 156, 156, 156, 156, 156, 156, 156, 99, 121, 110], 99)) rfl) (zts_i (k := 20) (o := 110) (by omega) (by omega) rfl rfl) ?_
    refine w_load (pc' := 112) (v := .int a) (m := 1) (ykc_14 (e := (2, .iload_n kF1, 0)) rfl) rfl rfl ?_
    refine w_load (pc' := 113) (v := .int b) (m := 1) (ykc_14 (e := (2, .iload_n kF2, 0)) rfl) rfl rfl ?_
    refine w_ile (ykc_14 (e := (4, .if_icmp .le 7, 120)) rfl) rfl (fun b477 => ?_) (fun b477 => ?_)
    · refine w_alu (pc' := 121) (st' := [.int (Int32.ofInt 0)]) (ykc_14 (e := (0, .iconst 0, 0)) rfl) rfl rfl ?_
      refine w_ret (v := (some (.int (Int32.ofInt 0)))) (ykc_14 (e := (7, .ireturn, 0)) rfl) (zr_v rfl) ?_
      rw [hQ, zi0]
      exact ⟨rfl, zvB (by exact (decide_eq_false (by omega)).symm)⟩
    · refine w_alu (pc' := 117) (st' := [.int (Int32.ofInt 1)]) (ykc_14 (e := (0, .iconst 1, 0)) rfl) rfl rfl ?_
      refine w_br (pc' := 121) (st' := [.int (Int32.ofInt 1)]) (ykc_14 (e := (4, .goto 4, 121)) rfl) rfl ?_
      refine w_ret (v := (some (.int (Int32.ofInt 1)))) (ykc_14 (e := (7, .ireturn, 0)) rfl) (zr_v rfl) ?_
      rw [hQ, zi1]
      exact ⟨rfl, zvB (by exact (decide_eq_true (by omega)).symm)⟩
  · subst e
    have hc : c.toInt = 61 := hc
    refine w_br (pc' := 122) (st' := []) (ykc_14 (e := (4, .tableswitch 156 42 62 #[140, 132, 156, 136, 156, 144, 156, 156, 156, 156, 156, 156, 156, 156, 156, 156, 156, 156, 99, 121, 110], 99)) rfl) (zts_i (k := 19) (o := 121) (by omega) (by omega) rfl rfl) ?_
    refine w_load (pc' := 123) (v := .int a) (m := 1) (ykc_14 (e := (2, .iload_n kF1, 0)) rfl) rfl rfl ?_
    refine w_load (pc' := 124) (v := .int b) (m := 1) (ykc_14 (e := (2, .iload_n kF2, 0)) rfl) rfl rfl ?_
    refine w_ine (ykc_14 (e := (4, .if_icmp .ne 7, 131)) rfl) rfl (fun b478 => ?_) (fun b478 => ?_)
    · refine w_alu (pc' := 132) (st' := [.int (Int32.ofInt 0)]) (ykc_14 (e := (0, .iconst 0, 0)) rfl) rfl rfl ?_
      refine w_ret (v := (some (.int (Int32.ofInt 0)))) (ykc_14 (e := (7, .ireturn, 0)) rfl) (zr_v rfl) ?_
      rw [hQ, zi0]
      exact ⟨rfl, zvB (by exact (decide_eq_false (by omega)).symm)⟩
    · refine w_alu (pc' := 128) (st' := [.int (Int32.ofInt 1)]) (ykc_14 (e := (0, .iconst 1, 0)) rfl) rfl rfl ?_
      refine w_br (pc' := 132) (st' := [.int (Int32.ofInt 1)]) (ykc_14 (e := (4, .goto 4, 132)) rfl) rfl ?_
      refine w_ret (v := (some (.int (Int32.ofInt 1)))) (ykc_14 (e := (7, .ireturn, 0)) rfl) (zr_v rfl) ?_
      rw [hQ, zi1]
      exact ⟨rfl, zvB (by exact (decide_eq_true (by omega)).symm)⟩
  · subst e
    have hc : c.toInt = 43 := hc
    refine w_br (pc' := 133) (st' := []) (ykc_14 (e := (4, .tableswitch 156 42 62 #[140, 132, 156, 136, 156, 144, 156, 156, 156, 156, 156, 156, 156, 156, 156, 156, 156, 156, 99, 121, 110], 99)) rfl) (zts_i (k := 1) (o := 132) (by omega) (by omega) rfl rfl) ?_
    refine w_load (pc' := 134) (v := .int a) (m := 1) (ykc_14 (e := (2, .iload_n kF1, 0)) rfl) rfl rfl ?_
    refine w_load (pc' := 135) (v := .int b) (m := 1) (ykc_14 (e := (2, .iload_n kF2, 0)) rfl) rfl rfl ?_
    refine w_alu (pc' := 136) (st' := [.int (a + b)]) (ykc_14 (e := (0, .iadd, 0)) rfl) rfl rfl ?_
    refine w_ret (v := (some (.int (a + b)))) (ykc_14 (e := (7, .ireturn, 0)) rfl) (zr_v rfl) ?_
    rw [hQ]
    exact ⟨rfl, rfl⟩
  · subst e
    have hc : c.toInt = 45 := hc
    refine w_br (pc' := 137) (st' := []) (ykc_14 (e := (4, .tableswitch 156 42 62 #[140, 132, 156, 136, 156, 144, 156, 156, 156, 156, 156, 156, 156, 156, 156, 156, 156, 156, 99, 121, 110], 99)) rfl) (zts_i (k := 3) (o := 136) (by omega) (by omega) rfl rfl) ?_
    refine w_load (pc' := 138) (v := .int a) (m := 1) (ykc_14 (e := (2, .iload_n kF1, 0)) rfl) rfl rfl ?_
    refine w_load (pc' := 139) (v := .int b) (m := 1) (ykc_14 (e := (2, .iload_n kF2, 0)) rfl) rfl rfl ?_
    refine w_alu (pc' := 140) (st' := [.int (a - b)]) (ykc_14 (e := (0, .isub, 0)) rfl) rfl rfl ?_
    refine w_ret (v := (some (.int (a - b)))) (ykc_14 (e := (7, .ireturn, 0)) rfl) (zr_v rfl) ?_
    rw [hQ]
    exact ⟨rfl, rfl⟩
  · subst e
    have hc : c.toInt = 42 := hc
    refine w_br (pc' := 141) (st' := []) (ykc_14 (e := (4, .tableswitch 156 42 62 #[140, 132, 156, 136, 156, 144, 156, 156, 156, 156, 156, 156, 156, 156, 156, 156, 156, 156, 99, 121, 110], 99)) rfl) (zts_i (k := 0) (o := 140) (by omega) (by omega) rfl rfl) ?_
    refine w_load (pc' := 142) (v := .int a) (m := 1) (ykc_14 (e := (2, .iload_n kF1, 0)) rfl) rfl rfl ?_
    refine w_load (pc' := 143) (v := .int b) (m := 1) (ykc_14 (e := (2, .iload_n kF2, 0)) rfl) rfl rfl ?_
    refine w_alu (pc' := 144) (st' := [.int (a * b)]) (ykc_14 (e := (0, .imul, 0)) rfl) rfl rfl ?_
    refine w_ret (v := (some (.int (a * b)))) (ykc_14 (e := (7, .ireturn, 0)) rfl) (zr_v rfl) ?_
    rw [hQ]
    exact ⟨rfl, rfl⟩
  · subst e
    have hc : c.toInt = 47 := hc
    refine w_br (pc' := 145) (st' := []) (ykc_14 (e := (4, .tableswitch 156 42 62 #[140, 132, 156, 136, 156, 144, 156, 156, 156, 156, 156, 156, 156, 156, 156, 156, 156, 156, 99, 121, 110], 99)) rfl) (zts_i (k := 5) (o := 144) (by omega) (by omega) rfl rfl) ?_
    refine w_load (pc' := 146) (v := .int b) (m := 1) (ykc_14 (e := (2, .iload_n kF2, 0)) rfl) rfl rfl ?_
    refine w_zne (ykc_14 (e := (4, .ifCond .ne 7, 153)) rfl) rfl (fun b479 => ?_) (fun b479 => ?_)
    · refine w_load (pc' := 154) (v := .int a) (m := 1) (ykc_14 (e := (2, .iload_n kF1, 0)) rfl) rfl rfl ?_
      refine w_load (pc' := 155) (v := .int b) (m := 1) (ykc_14 (e := (2, .iload_n kF2, 0)) rfl) rfl rfl ?_
      refine w_idiv (pc' := 156) (ykc_14 (e := (0, .idiv, 0)) rfl) rfl (fun d480 => ?_)
      show zW n D 14 Q 156 [some (.int c), some (.int a), some (.int b)] [.int (a / b)] ph
      refine w_ret (v := (some (.int (a / b)))) (ykc_14 (e := (7, .ireturn, 0)) rfl) (zr_v rfl) ?_
      rw [hQ]
      exact ⟨rfl, by show _ = some (Value.int (if b.toInt = 0 then Int32.ofInt 0 else a / b)); rw [if_neg b479]⟩
    · refine w_alu (pc' := 150) (st' := [.int (Int32.ofInt 0)]) (ykc_14 (e := (0, .iconst 0, 0)) rfl) rfl rfl ?_
      refine w_br (pc' := 156) (st' := [.int (Int32.ofInt 0)]) (ykc_14 (e := (4, .goto 6, 156)) rfl) rfl ?_
      refine w_ret (v := (some (.int (Int32.ofInt 0)))) (ykc_14 (e := (7, .ireturn, 0)) rfl) (zr_v rfl) ?_
      rw [hQ]
      exact ⟨rfl, by show _ = some (Value.int (if b.toInt = 0 then Int32.ofInt 0 else a / b)); rw [if_pos b479]⟩
theorem zc_value {ph : pm_H} (hS : zSh ph) {F cn : Nat} {cd : Nat → Nat} (hF : F = 11 ∨ F = 16) (hfm : zFm ph F cn cd) {as : Nat → Int32} (ha : ∀ i, i < 8 → zc ph 22 i = some (.int (as i))) : zM 13 [.ref F, .ref 22] ph (fun v q => zFr [15, 20] [] ph q ∧ v = some (.int (zval as cn cd))) := by
  obtain ⟨Q, hQ⟩ : ∃ Q : Option Value → pm_H → Prop, Q = (fun v q => zFr [15, 20] [] ph q ∧ v = some (.int (zval as cn cd))) := ⟨_, rfl⟩
  rw [← hQ]
  refine zM_mk fun n D => ?_
  show zW n D 13 Q 0 [some (.ref F), some (.ref 22), none, none, none, none] [] ph
  have c_0 : ((Int16.ofInt 1000).toInt32).toInt = 1000 := by decide +kernel
  have c_1 : ((Int8.ofInt (-109)).toInt32).toInt = -109 := by decide +kernel
  have c_2 : ((Int8.ofInt 40).toInt32).toInt = 40 := by decide +kernel
  have c_3 : (Int32.ofInt (-1)).toInt = -1 := by decide +kernel
  have c_4 : (Int32.ofInt 0).toInt = 0 := by decide +kernel
  have c_5 : (Int32.ofInt 1).toInt = 1 := by decide +kernel
  obtain ⟨fr0, fr8, gcn, hc1, hc40, gcd, hcg⟩ := hfm
  have tcn := znt (k := cn) (by omega)
  have hmem : F + 4 ∈ [15, 20] := by rcases hF with e | e <;> subst e <;> simp
  refine w_alu (pc' := 1) (st' := [.int (Int32.ofInt 0)]) (ykc_13 (e := (0, .iconst 0, 0)) rfl) rfl rfl ?_
  refine w_store (pc' := 2) (L' := [some (.ref F), some (.ref 22), some (.int (Int32.ofInt 0)), none, none, none]) (st' := []) (m := 1) (ykc_13 (e := (3, .istore_n kF2, 0)) rfl) rfl rfl ?_
  refine w_alu (pc' := 3) (st' := [.int (Int32.ofInt 0)]) (ykc_13 (e := (0, .iconst 0, 0)) rfl) rfl rfl ?_
  refine w_store (pc' := 4) (L' := [some (.ref F), some (.ref 22), some (.int (Int32.ofInt 0)), some (.int (Int32.ofInt 0)), none, none]) (st' := []) (m := 1) (ykc_13 (e := (3, .istore_n kF3, 0)) rfl) rfl rfl ?_
  have hl : ∀ (n : Nat), ∀ (k : Nat) (x4 x5 : Option Value) (ph1 : pm_H), (k ≤ cn) → (zFr [15, 20] [] ph ph1) → (∀ i, i < ztp cd k → zc ph1 (F + 4) i = some (.int (zsk as cd k i))) → (ztp cd k ≤ k) → zW n D 13 Q 4 [some (.ref F), some (.ref 22), some (.int (zn (ztp cd k))), some (.int (zn k)), x4, x5] [] ph1 := by
    intro n
    induction n using Nat.strongRecOn with
    | ind n ih =>
      intro k x4 x5 ph1 hk hf hst htp
      have tk := znt (k := k) (by omega)
      have tt := znt (k := ztp cd k) (by omega)
      refine w_load (pc' := 5) (v := .int (zn k)) (m := 1) (ykc_13 (e := (2, .iload_n kF3, 0)) rfl) rfl rfl ?_
      refine w_load (pc' := 6) (v := .ref F) (m := 1) (ykc_13 (e := (2, .aload_n kF0, 0)) rfl) rfl rfl ?_
      refine w_gf (pc' := 9) (v := .int (zn cn)) (ykc_13 (e := (5, .getfield 55, 0)) rfl) rfl ((hf.1 F 1 (by simp <;> omega) (by simp <;> omega)).trans gcn) rfl ?_
      refine w_ige (ykc_13 (e := (4, .if_icmp .ge 157, 166)) rfl) rfl (fun b481 => ?_) (fun b481 => ?_)
      · refine w_load (pc' := 167) (v := .ref F) (m := 1) (ykc_13 (e := (2, .aload_n kF0, 0)) rfl) rfl rfl ?_
        have hl1 := hcg.1 (by omega)
        have ek0 : ztp cd k = ztp cd cn := by rw [show k = cn by omega]
        refine w_gf (pc' := 170) (v := .ref (F + 4)) (ykc_13 (e := (5, .getfield 20, 0)) rfl) rfl ((hf.1 F 8 (by simp <;> omega) (by simp <;> omega)).trans fr8) rfl ?_
        refine w_alu (pc' := 171) (st' := [.int (Int32.ofInt 0), .ref (F + 4)]) (ykc_13 (e := (0, .iconst 0, 0)) rfl) rfl rfl ?_
        refine w_ialk (pc' := 172) (k := 0) (ykc_13 (e := (5, .iaload, 0)) rfl) (hst 0 (by omega)) (by omega) rfl ?_
        refine w_ret (v := (some (.int (zsk as cd k 0)))) (ykc_13 (e := (7, .ireturn, 0)) rfl) (zr_v rfl) ?_
        have ek : k = cn := by omega
        subst ek
        rw [hQ]
        exact ⟨hf, by unfold zval; rw [if_neg (show ¬ k = 0 by omega)]⟩
      · refine w_load (pc' := 13) (v := .int (zn k)) (m := 1) (ykc_13 (e := (2, .iload_n kF3, 0)) rfl) rfl rfl ?_
        refine w_push (pc' := 15) (v := .int ((Int8.ofInt 40).toInt32)) (m := 2) (ykc_13 (e := (1, .bipush 40, 0)) rfl) rfl rfl ?_
        refine w_ige (ykc_13 (e := (4, .if_icmp .ge 151, 166)) rfl) rfl (fun q => by exfalso; omega) (fun b482 => ?_)
        refine w_load (pc' := 19) (v := .ref F) (m := 1) (ykc_13 (e := (2, .aload_n kF0, 0)) rfl) rfl rfl ?_
        refine w_gf (pc' := 22) (v := .ref (F + 1)) (ykc_13 (e := (5, .getfield 9, 0)) rfl) rfl ((hf.1 F 0 (by simp <;> omega) (by simp <;> omega)).trans fr0) rfl ?_
        refine w_load (pc' := 23) (v := .int (zn k)) (m := 1) (ykc_13 (e := (2, .iload_n kF3, 0)) rfl) rfl rfl ?_
        refine w_ialk (pc' := 24) (k := k) (ykc_13 (e := (5, .iaload, 0)) rfl) ((hf.1 (F + 1) k (by simp <;> omega) (by simp <;> omega)).trans (gcd k (by omega))) (by omega) rfl ?_
        have hg := (hcg.2 k (by omega)).2.2
        have hlen : (zln ph1 22) = some 8 := ((hf.2 22).trans (zsl hS zl_22))
        rcases hg with hg | hg | hg | hg
        · have tc := znt (k := cd k) (by omega)
          rw [show zcc (cd k) = zn (cd k) from if_pos (by omega)]
          show zW n D 13 Q 24 [some (.ref F), some (.ref 22), some (.int (zn (ztp cd k))), some (.int (zn k)), x4, x5] [.int (zn (cd k))] ph1
          refine w_store (pc' := 26) (L' := [some (.ref F), some (.ref 22), some (.int (zn (ztp cd k))), some (.int (zn k)), some (.int (zn (cd k))), x5]) (st' := []) (m := 2) (ykc_13 (e := (3, .istore 4, 0)) rfl) rfl rfl ?_
          refine w_load (pc' := 28) (v := .int (zn (cd k))) (m := 2) (ykc_13 (e := (2, .iload 4, 0)) rfl) rfl rfl ?_
          refine w_zlt (ykc_13 (e := (4, .ifCond .lt 65, 93)) rfl) rfl (fun q => by exfalso; omega) (fun b483 => ?_)
          refine w_load (pc' := 32) (v := .int (zn (ztp cd k))) (m := 1) (ykc_13 (e := (2, .iload_n kF2, 0)) rfl) rfl rfl ?_
          refine w_push (pc' := 34) (v := .int ((Int8.ofInt 40).toInt32)) (m := 2) (ykc_13 (e := (1, .bipush 40, 0)) rfl) rfl rfl ?_
          refine w_ige (ykc_13 (e := (4, .if_icmp .ge 59, 93)) rfl) rfl (fun q => by exfalso; omega) (fun b484 => ?_)
          refine w_load (pc' := 39) (v := .int (zn (cd k))) (m := 2) (ykc_13 (e := (2, .iload 4, 0)) rfl) rfl rfl ?_
          refine w_push (pc' := 42) (v := .int ((Int16.ofInt 1000).toInt32)) (m := 3) (ykc_13 (e := (1, .sipush 1000, 0)) rfl) rfl rfl ?_
          refine w_ilt (ykc_13 (e := (4, .if_icmp .lt 18, 60)) rfl) rfl (fun b485 => ?_) (fun q => by exfalso; omega)
          refine w_alu (pc' := 61) (st' := [.int (Int32.ofInt 0)]) (ykc_13 (e := (0, .iconst 0, 0)) rfl) rfl rfl ?_
          refine w_store (pc' := 63) (L' := [some (.ref F), some (.ref 22), some (.int (zn (ztp cd k))), some (.int (zn k)), some (.int (zn (cd k))), some (.int (Int32.ofInt 0))]) (st' := []) (m := 2) (ykc_13 (e := (3, .istore 5, 0)) rfl) rfl rfl ?_
          refine w_load (pc' := 64) (v := .ref F) (m := 1) (ykc_13 (e := (2, .aload_n kF0, 0)) rfl) rfl rfl ?_
          refine w_gf (pc' := 67) (v := .ref (F + 4)) (ykc_13 (e := (5, .getfield 20, 0)) rfl) rfl ((hf.1 F 8 (by simp <;> omega) (by simp <;> omega)).trans fr8) rfl ?_
          refine w_load (pc' := 68) (v := .int (zn (ztp cd k))) (m := 1) (ykc_13 (e := (2, .iload_n kF2, 0)) rfl) rfl rfl ?_
          refine w_load (pc' := 70) (v := .int (Int32.ofInt 0)) (m := 2) (ykc_13 (e := (2, .iload 5, 0)) rfl) rfl rfl ?_
          refine w_zeq (ykc_13 (e := (4, .ifCond .eq 14, 84)) rfl) rfl (fun b486 => ?_) (fun q => by exfalso; omega)
          refine w_load (pc' := 86) (v := .int (zn (cd k))) (m := 2) (ykc_13 (e := (2, .iload 4, 0)) rfl) rfl rfl ?_
          refine w_ias (pc' := 87) (k := ztp cd k) (ykc_13 (e := (5, .iastore, 0)) rfl) (by omega) rfl (fun ph488 u487 => ?_)
          have e489 : (zn (ztp cd k)) + Int32.ofInt 1 = zn (ztp cd k + 1) := (zaddN (a := ztp cd k) (b := 1) (znt (by omega)) c_5 (by omega))
          have te489 := znt (k := ztp cd k + 1) (by omega)
          refine w_store (pc' := 90) (L' := [some (.ref F), some (.ref 22), some (.int (zn (ztp cd k + 1))), some (.int (zn k)), some (.int (zn (cd k))), some (.int (Int32.ofInt 0))]) (st' := []) (m := 3) (ykc_13 (e := (3, .iinc 2 1, 0)) rfl) (by rw [← e489]; rfl) rfl ?_
          refine w_br (pc' := 160) (st' := []) (ykc_13 (e := (4, .goto 70, 160)) rfl) rfl ?_
          have e490 : (zn k) + Int32.ofInt 1 = zn (k + 1) := (zaddN (a := k) (b := 1) (znt (by omega)) c_5 (by omega))
          have te490 := znt (k := k + 1) (by omega)
          refine w_store (pc' := 163) (L' := [some (.ref F), some (.ref 22), some (.int (zn (ztp cd k + 1))), some (.int (zn (k + 1))), some (.int (zn (cd k))), some (.int (Int32.ofInt 0))]) (st' := []) (m := 3) (ykc_13 (e := (3, .iinc 3 1, 0)) rfl) (by rw [← e490]; rfl) rfl ?_
          refine w_gb (ykc_13 (e := (4, .goto (-159), 4)) rfl) (fun k491 hk491 => ?_)
          have et : ztp cd (k + 1) = ztp cd k + 1 := by
            show (if cd k = 3000 then _ else if 2000 ≤ cd k then _ else _) = _
            rw [if_neg (show ¬ cd k = 3000 by omega), if_neg (show ¬ 2000 ≤ cd k by omega)]
          have es : zsk as cd (k + 1) = zup (zsk as cd k) (ztp cd k) (zn (cd k)) := by
            show (if cd k = 3000 then _ else if 2000 ≤ cd k then _ else _) = _
            rw [if_neg (show ¬ cd k = 3000 by omega), if_neg (show ¬ 2000 ≤ cd k by omega), if_neg (show ¬ 1000 ≤ cd k by omega)]
          have h9 := ih k491 hk491 (k + 1) (some (.int (zn (cd k)))) (some (.int (Int32.ofInt 0))) ph488 (by omega) (zFr_add hf u487 (Or.inl hmem)) (fun i hi => by
            rw [et] at hi
            rw [es]
            by_cases e9 : i = ztp cd k
            · rw [e9, zup_i]
              exact u487.1
            · rw [zup_n e9]
              exact (u487.2.1 (F + 4) i (fun q => e9 q.2)).trans (hst i (by omega))) (by rw [et]; omega)
          rw [et] at h9
          exact h9
        · have tc := znt (k := cd k) (by omega)
          rw [show zcc (cd k) = zn (cd k) from if_pos (by omega)]
          show zW n D 13 Q 24 [some (.ref F), some (.ref 22), some (.int (zn (ztp cd k))), some (.int (zn k)), x4, x5] [.int (zn (cd k))] ph1
          refine w_store (pc' := 26) (L' := [some (.ref F), some (.ref 22), some (.int (zn (ztp cd k))), some (.int (zn k)), some (.int (zn (cd k))), x5]) (st' := []) (m := 2) (ykc_13 (e := (3, .istore 4, 0)) rfl) rfl rfl ?_
          refine w_load (pc' := 28) (v := .int (zn (cd k))) (m := 2) (ykc_13 (e := (2, .iload 4, 0)) rfl) rfl rfl ?_
          refine w_zlt (ykc_13 (e := (4, .ifCond .lt 65, 93)) rfl) rfl (fun q => by exfalso; omega) (fun b492 => ?_)
          refine w_load (pc' := 32) (v := .int (zn (ztp cd k))) (m := 1) (ykc_13 (e := (2, .iload_n kF2, 0)) rfl) rfl rfl ?_
          refine w_push (pc' := 34) (v := .int ((Int8.ofInt 40).toInt32)) (m := 2) (ykc_13 (e := (1, .bipush 40, 0)) rfl) rfl rfl ?_
          refine w_ige (ykc_13 (e := (4, .if_icmp .ge 59, 93)) rfl) rfl (fun q => by exfalso; omega) (fun b493 => ?_)
          refine w_load (pc' := 39) (v := .int (zn (cd k))) (m := 2) (ykc_13 (e := (2, .iload 4, 0)) rfl) rfl rfl ?_
          refine w_push (pc' := 42) (v := .int ((Int16.ofInt 1000).toInt32)) (m := 3) (ykc_13 (e := (1, .sipush 1000, 0)) rfl) rfl rfl ?_
          refine w_ilt (ykc_13 (e := (4, .if_icmp .lt 18, 60)) rfl) rfl (fun q => by exfalso; omega) (fun b494 => ?_)
          refine w_load (pc' := 47) (v := .int (zn (cd k))) (m := 2) (ykc_13 (e := (2, .iload 4, 0)) rfl) rfl rfl ?_
          refine w_push (pc' := 50) (v := .int ((Int16.ofInt 1000).toInt32)) (m := 3) (ykc_13 (e := (1, .sipush 1000, 0)) rfl) rfl rfl ?_
          have e495 : (zn (cd k)) - ((Int16.ofInt 1000).toInt32) = zn (cd k - 1000) := zsubN (a := cd k) (b := 1000) (znt (by omega)) c_0 (by omega)
          have te495 := znt (k := cd k - 1000) (by omega)
          refine w_alu (pc' := 51) (st' := [.int (zn (cd k - 1000))]) (ykc_13 (e := (0, .isub, 0)) rfl) (by show some ([.int ((zn (cd k)) - ((Int16.ofInt 1000).toInt32))] : List Value) = _; rw [e495]) rfl ?_
          refine w_load (pc' := 52) (v := .ref 22) (m := 1) (ykc_13 (e := (2, .aload_n kF1, 0)) rfl) rfl rfl ?_
          have cn496 : (Int32.ofNat 8).toInt = 8 := by decide
          refine w_aln (ykc_13 (e := (5, .arraylength, 0)) rfl) ((hf.2 22).trans (zsl hS zl_22)) rfl ?_
          refine w_ige (ykc_13 (e := (4, .if_icmp .ge 7, 60)) rfl) rfl (fun q => by exfalso; omega) (fun b497 => ?_)
          refine w_alu (pc' := 57) (st' := [.int (Int32.ofInt 1)]) (ykc_13 (e := (0, .iconst 1, 0)) rfl) rfl rfl ?_
          refine w_br (pc' := 61) (st' := [.int (Int32.ofInt 1)]) (ykc_13 (e := (4, .goto 4, 61)) rfl) rfl ?_
          refine w_store (pc' := 63) (L' := [some (.ref F), some (.ref 22), some (.int (zn (ztp cd k))), some (.int (zn k)), some (.int (zn (cd k))), some (.int (Int32.ofInt 1))]) (st' := []) (m := 2) (ykc_13 (e := (3, .istore 5, 0)) rfl) rfl rfl ?_
          refine w_load (pc' := 64) (v := .ref F) (m := 1) (ykc_13 (e := (2, .aload_n kF0, 0)) rfl) rfl rfl ?_
          refine w_gf (pc' := 67) (v := .ref (F + 4)) (ykc_13 (e := (5, .getfield 20, 0)) rfl) rfl ((hf.1 F 8 (by simp <;> omega) (by simp <;> omega)).trans fr8) rfl ?_
          refine w_load (pc' := 68) (v := .int (zn (ztp cd k))) (m := 1) (ykc_13 (e := (2, .iload_n kF2, 0)) rfl) rfl rfl ?_
          refine w_load (pc' := 70) (v := .int (Int32.ofInt 1)) (m := 2) (ykc_13 (e := (2, .iload 5, 0)) rfl) rfl rfl ?_
          refine w_zeq (ykc_13 (e := (4, .ifCond .eq 14, 84)) rfl) rfl (fun q => by exfalso; omega) (fun b498 => ?_)
          refine w_load (pc' := 74) (v := .ref 22) (m := 1) (ykc_13 (e := (2, .aload_n kF1, 0)) rfl) rfl rfl ?_
          refine w_load (pc' := 76) (v := .int (zn (cd k))) (m := 2) (ykc_13 (e := (2, .iload 4, 0)) rfl) rfl rfl ?_
          refine w_push (pc' := 79) (v := .int ((Int16.ofInt 1000).toInt32)) (m := 3) (ykc_13 (e := (1, .sipush 1000, 0)) rfl) rfl rfl ?_
          have e499 : (zn (cd k)) - ((Int16.ofInt 1000).toInt32) = zn (cd k - 1000) := zsubN (a := cd k) (b := 1000) (znt (by omega)) c_0 (by omega)
          have te499 := znt (k := cd k - 1000) (by omega)
          refine w_alu (pc' := 80) (st' := [.int (zn (cd k - 1000)), .ref 22, .int (zn (ztp cd k)), .ref (F + 4)]) (ykc_13 (e := (0, .isub, 0)) rfl) (by show some ([.int ((zn (cd k)) - ((Int16.ofInt 1000).toInt32)), .ref 22, .int (zn (ztp cd k)), .ref (F + 4)] : List Value) = _; rw [e499]) rfl ?_
          refine w_ialk (pc' := 81) (k := cd k - 1000) (ykc_13 (e := (5, .iaload, 0)) rfl) ((hf.1 22 (cd k - 1000) (by first | exact zqm rfl | decide) (by first | exact zqp rfl | simp)).trans (ha (cd k - 1000) (by omega))) (by omega) rfl ?_
          refine w_br (pc' := 86) (st' := [.int (as (cd k - 1000)), .int (zn (ztp cd k)), .ref (F + 4)]) (ykc_13 (e := (4, .goto 5, 86)) rfl) rfl ?_
          refine w_ias (pc' := 87) (k := ztp cd k) (ykc_13 (e := (5, .iastore, 0)) rfl) (by omega) rfl (fun ph501 u500 => ?_)
          have e502 : (zn (ztp cd k)) + Int32.ofInt 1 = zn (ztp cd k + 1) := (zaddN (a := ztp cd k) (b := 1) (znt (by omega)) c_5 (by omega))
          have te502 := znt (k := ztp cd k + 1) (by omega)
          refine w_store (pc' := 90) (L' := [some (.ref F), some (.ref 22), some (.int (zn (ztp cd k + 1))), some (.int (zn k)), some (.int (zn (cd k))), some (.int (Int32.ofInt 1))]) (st' := []) (m := 3) (ykc_13 (e := (3, .iinc 2 1, 0)) rfl) (by rw [← e502]; rfl) rfl ?_
          refine w_br (pc' := 160) (st' := []) (ykc_13 (e := (4, .goto 70, 160)) rfl) rfl ?_
          have e503 : (zn k) + Int32.ofInt 1 = zn (k + 1) := (zaddN (a := k) (b := 1) (znt (by omega)) c_5 (by omega))
          have te503 := znt (k := k + 1) (by omega)
          refine w_store (pc' := 163) (L' := [some (.ref F), some (.ref 22), some (.int (zn (ztp cd k + 1))), some (.int (zn (k + 1))), some (.int (zn (cd k))), some (.int (Int32.ofInt 1))]) (st' := []) (m := 3) (ykc_13 (e := (3, .iinc 3 1, 0)) rfl) (by rw [← e503]; rfl) rfl ?_
          refine w_gb (ykc_13 (e := (4, .goto (-159), 4)) rfl) (fun k504 hk504 => ?_)
          have et : ztp cd (k + 1) = ztp cd k + 1 := by
            show (if cd k = 3000 then _ else if 2000 ≤ cd k then _ else _) = _
            rw [if_neg (show ¬ cd k = 3000 by omega), if_neg (show ¬ 2000 ≤ cd k by omega)]
          have es : zsk as cd (k + 1) = zup (zsk as cd k) (ztp cd k) (as (cd k - 1000)) := by
            show (if cd k = 3000 then _ else if 2000 ≤ cd k then _ else _) = _
            rw [if_neg (show ¬ cd k = 3000 by omega), if_neg (show ¬ 2000 ≤ cd k by omega), if_pos (show 1000 ≤ cd k by omega)]
          have h9 := ih k504 hk504 (k + 1) (some (.int (zn (cd k)))) (some (.int (Int32.ofInt 1))) ph501 (by omega) (zFr_add hf u500 (Or.inl hmem)) (fun i hi => by
            rw [et] at hi
            rw [es]
            by_cases e9 : i = ztp cd k
            · rw [e9, zup_i]
              exact u500.1
            · rw [zup_n e9]
              exact (u500.2.1 (F + 4) i (fun q => e9 q.2)).trans (hst i (by omega))) (by rw [et]; omega)
          rw [et] at h9
          exact h9
        · obtain ⟨a, hca⟩ : ∃ a, cd k = 2000 + a := ⟨cd k - 2000, by omega⟩
          have h2 : 2 ≤ ztp cd k := (hcg.2 k (by omega)).2.1 (by omega) (by omega)
          have ta := @zoc_t a
          have tb := @zoc_b a
          rw [show zcc (cd k) = Int32.ofInt (zoc a) by unfold zcc; rw [if_neg (by omega), if_neg (by omega), show cd k - 2000 = a by omega]]
          show zW n D 13 Q 24 [some (.ref F), some (.ref 22), some (.int (zn (ztp cd k))), some (.int (zn k)), x4, x5] [.int (Int32.ofInt (zoc a))] ph1
          refine w_store (pc' := 26) (L' := [some (.ref F), some (.ref 22), some (.int (zn (ztp cd k))), some (.int (zn k)), some (.int (Int32.ofInt (zoc a))), x5]) (st' := []) (m := 2) (ykc_13 (e := (3, .istore 4, 0)) rfl) rfl rfl ?_
          refine w_load (pc' := 28) (v := .int (Int32.ofInt (zoc a))) (m := 2) (ykc_13 (e := (2, .iload 4, 0)) rfl) rfl rfl ?_
          refine w_zlt (ykc_13 (e := (4, .ifCond .lt 65, 93)) rfl) rfl (fun b505 => ?_) (fun q => by exfalso; omega)
          refine w_load (pc' := 95) (v := .int (Int32.ofInt (zoc a))) (m := 2) (ykc_13 (e := (2, .iload 4, 0)) rfl) rfl rfl ?_
          refine w_push (pc' := 97) (v := .int ((Int8.ofInt (-109)).toInt32)) (m := 2) (ykc_13 (e := (1, .bipush (-109), 0)) rfl) rfl rfl ?_
          refine w_ine (ykc_13 (e := (4, .if_icmp .ne 27, 124)) rfl) rfl (fun b506 => ?_) (fun q => by exfalso; omega)
          refine w_load (pc' := 125) (v := .int (zn (ztp cd k))) (m := 1) (ykc_13 (e := (2, .iload_n kF2, 0)) rfl) rfl rfl ?_
          refine w_alu (pc' := 126) (st' := [.int (Int32.ofInt 1), .int (zn (ztp cd k))]) (ykc_13 (e := (0, .iconst 1, 0)) rfl) rfl rfl ?_
          refine w_ile (ykc_13 (e := (4, .if_icmp .le 34, 160)) rfl) rfl (fun q => by exfalso; omega) (fun b507 => ?_)
          have e508 : (zn (ztp cd k)) + Int32.ofInt (-1) = zn (ztp cd k - 1) := (zdecN (a := ztp cd k) (znt (by omega)) (by omega))
          have te508 := znt (k := ztp cd k - 1) (by omega)
          refine w_store (pc' := 132) (L' := [some (.ref F), some (.ref 22), some (.int (zn (ztp cd k - 1))), some (.int (zn k)), some (.int (Int32.ofInt (zoc a))), x5]) (st' := []) (m := 3) (ykc_13 (e := (3, .iinc 2 (-1), 0)) rfl) (by rw [← e508]; rfl) rfl ?_
          refine w_load (pc' := 133) (v := .ref F) (m := 1) (ykc_13 (e := (2, .aload_n kF0, 0)) rfl) rfl rfl ?_
          refine w_gf (pc' := 136) (v := .ref (F + 4)) (ykc_13 (e := (5, .getfield 20, 0)) rfl) rfl ((hf.1 F 8 (by simp <;> omega) (by simp <;> omega)).trans fr8) rfl ?_
          refine w_load (pc' := 137) (v := .int (zn (ztp cd k - 1))) (m := 1) (ykc_13 (e := (2, .iload_n kF2, 0)) rfl) rfl rfl ?_
          refine w_alu (pc' := 138) (st' := [.int (Int32.ofInt 1), .int (zn (ztp cd k - 1)), .ref (F + 4)]) (ykc_13 (e := (0, .iconst 1, 0)) rfl) rfl rfl ?_
          have e509 : (zn (ztp cd k - 1)) - (Int32.ofInt 1) = zn (ztp cd k - 2) := zsubN (a := ztp cd k - 1) (b := 1) (znt (by omega)) c_5 (by omega)
          have te509 := znt (k := ztp cd k - 2) (by omega)
          refine w_alu (pc' := 139) (st' := [.int (zn (ztp cd k - 2)), .ref (F + 4)]) (ykc_13 (e := (0, .isub, 0)) rfl) (by show some ([.int ((zn (ztp cd k - 1)) - (Int32.ofInt 1)), .ref (F + 4)] : List Value) = _; rw [e509]) rfl ?_
          refine w_load (pc' := 141) (v := .int (Int32.ofInt (zoc a))) (m := 2) (ykc_13 (e := (2, .iload 4, 0)) rfl) rfl rfl ?_
          obtain ⟨z510, e_z510, h_z510⟩ : ∃ zq : Int32, -(Int32.ofInt (zoc a)) = zq ∧ zq.toInt = -(zoc a) := ⟨_, rfl, (zneg_t ta (by omega) (by omega))⟩
          refine w_alu (pc' := 142) (st' := [.int z510, .int (zn (ztp cd k - 2)), .ref (F + 4)]) (ykc_13 (e := (0, .ineg, 0)) rfl) (by rw [← e_z510]; rfl) rfl ?_
          refine w_load (pc' := 143) (v := .ref F) (m := 1) (ykc_13 (e := (2, .aload_n kF0, 0)) rfl) rfl rfl ?_
          refine w_gf (pc' := 146) (v := .ref (F + 4)) (ykc_13 (e := (5, .getfield 20, 0)) rfl) rfl ((hf.1 F 8 (by simp <;> omega) (by simp <;> omega)).trans fr8) rfl ?_
          refine w_load (pc' := 147) (v := .int (zn (ztp cd k - 1))) (m := 1) (ykc_13 (e := (2, .iload_n kF2, 0)) rfl) rfl rfl ?_
          refine w_alu (pc' := 148) (st' := [.int (Int32.ofInt 1), .int (zn (ztp cd k - 1)), .ref (F + 4), .int z510, .int (zn (ztp cd k - 2)), .ref (F + 4)]) (ykc_13 (e := (0, .iconst 1, 0)) rfl) rfl rfl ?_
          have e511 : (zn (ztp cd k - 1)) - (Int32.ofInt 1) = zn (ztp cd k - 2) := zsubN (a := ztp cd k - 1) (b := 1) (znt (by omega)) c_5 (by omega)
          have te511 := znt (k := ztp cd k - 2) (by omega)
          refine w_alu (pc' := 149) (st' := [.int (zn (ztp cd k - 2)), .ref (F + 4), .int z510, .int (zn (ztp cd k - 2)), .ref (F + 4)]) (ykc_13 (e := (0, .isub, 0)) rfl) (by show some ([.int ((zn (ztp cd k - 1)) - (Int32.ofInt 1)), .ref (F + 4), .int z510, .int (zn (ztp cd k - 2)), .ref (F + 4)] : List Value) = _; rw [e511]) rfl ?_
          refine w_ialk (pc' := 150) (k := ztp cd k - 2) (ykc_13 (e := (5, .iaload, 0)) rfl) (hst (ztp cd k - 2) (by omega)) (by omega) rfl ?_
          refine w_load (pc' := 151) (v := .ref F) (m := 1) (ykc_13 (e := (2, .aload_n kF0, 0)) rfl) rfl rfl ?_
          refine w_gf (pc' := 154) (v := .ref (F + 4)) (ykc_13 (e := (5, .getfield 20, 0)) rfl) rfl ((hf.1 F 8 (by simp <;> omega) (by simp <;> omega)).trans fr8) rfl ?_
          refine w_load (pc' := 155) (v := .int (zn (ztp cd k - 1))) (m := 1) (ykc_13 (e := (2, .iload_n kF2, 0)) rfl) rfl rfl ?_
          refine w_ialk (pc' := 156) (k := ztp cd k - 1) (ykc_13 (e := (5, .iaload, 0)) rfl) (hst (ztp cd k - 1) (by omega)) (by omega) rfl ?_
          refine w_cs (as := [.int z510, .int (zsk as cd k (ztp cd k - 2)), .int (zsk as cd k (ztp cd k - 1))]) (r := [.int (zn (ztp cd k - 2)), .ref (F + 4)]) (ykc_13 (e := (6, .invokestatic 92, 0)) rfl) rfl rfl rfl rfl (zc_comb (k := cd k - 2000) (by rw [show cd k - 2000 = a by omega]; omega) (by omega)) (fun v512 ph513 hv => ?_)
          obtain ⟨rfl, rfl⟩ := hv
          show zW n D 13 Q 159 [some (.ref F), some (.ref 22), some (.int (zn (ztp cd k - 1))), some (.int (zn k)), some (.int (Int32.ofInt (zoc a))), x5] [.int (zwk (cd k - 2000) (zsk as cd k (ztp cd k - 2)) (zsk as cd k (ztp cd k - 1))), .int (zn (ztp cd k - 2)), .ref (F + 4)] ph1
          refine w_ias (pc' := 160) (k := ztp cd k - 2) (ykc_13 (e := (5, .iastore, 0)) rfl) (by omega) rfl (fun ph515 u514 => ?_)
          have e516 : (zn k) + Int32.ofInt 1 = zn (k + 1) := (zaddN (a := k) (b := 1) (znt (by omega)) c_5 (by omega))
          have te516 := znt (k := k + 1) (by omega)
          refine w_store (pc' := 163) (L' := [some (.ref F), some (.ref 22), some (.int (zn (ztp cd k - 1))), some (.int (zn (k + 1))), some (.int (Int32.ofInt (zoc a))), x5]) (st' := []) (m := 3) (ykc_13 (e := (3, .iinc 3 1, 0)) rfl) (by rw [← e516]; rfl) rfl ?_
          refine w_gb (ykc_13 (e := (4, .goto (-159), 4)) rfl) (fun k517 hk517 => ?_)
          have et : ztp cd (k + 1) = ztp cd k - 1 := by
            show (if cd k = 3000 then _ else if 2000 ≤ cd k then _ else _) = _
            rw [if_neg (show ¬ cd k = 3000 by omega), if_pos (show 2000 ≤ cd k by omega)]
          have es : zsk as cd (k + 1) = zup (zsk as cd k) (ztp cd k - 2) (zwk (cd k - 2000) (zsk as cd k (ztp cd k - 2)) (zsk as cd k (ztp cd k - 1))) := by
            show (if cd k = 3000 then _ else if 2000 ≤ cd k then _ else _) = _
            rw [if_neg (show ¬ cd k = 3000 by omega), if_pos (show 2000 ≤ cd k by omega)]
          have h9 := ih k517 hk517 (k + 1) (some (.int (Int32.ofInt (zoc a)))) (x5) ph515 (by omega) (zFr_add hf u514 (Or.inl hmem)) (fun i hi => by
            rw [et] at hi
            rw [es]
            by_cases e9 : i = ztp cd k - 2
            · rw [e9, zup_i]
              exact u514.1
            · rw [zup_n e9]
              exact (u514.2.1 (F + 4) i (fun q => e9 q.2)).trans (hst i (by omega))) (by rw [et]; omega)
          rw [et] at h9
          exact h9
        · have h1 : 1 ≤ ztp cd k := (hcg.2 k (by omega)).1 (by omega)
          rw [show zcc (cd k) = Int32.ofInt (-109) by unfold zcc; rw [if_neg (by omega), if_pos (by omega)]]
          have tm : (Int32.ofInt (-109)).toInt = -109 := by decide
          show zW n D 13 Q 24 [some (.ref F), some (.ref 22), some (.int (zn (ztp cd k))), some (.int (zn k)), x4, x5] [.int (Int32.ofInt (-109))] ph1
          refine w_store (pc' := 26) (L' := [some (.ref F), some (.ref 22), some (.int (zn (ztp cd k))), some (.int (zn k)), some (.int (Int32.ofInt (-109))), x5]) (st' := []) (m := 2) (ykc_13 (e := (3, .istore 4, 0)) rfl) rfl rfl ?_
          refine w_load (pc' := 28) (v := .int (Int32.ofInt (-109))) (m := 2) (ykc_13 (e := (2, .iload 4, 0)) rfl) rfl rfl ?_
          refine w_zlt (ykc_13 (e := (4, .ifCond .lt 65, 93)) rfl) rfl (fun b518 => ?_) (fun q => by exfalso; omega)
          refine w_load (pc' := 95) (v := .int (Int32.ofInt (-109))) (m := 2) (ykc_13 (e := (2, .iload 4, 0)) rfl) rfl rfl ?_
          refine w_push (pc' := 97) (v := .int ((Int8.ofInt (-109)).toInt32)) (m := 2) (ykc_13 (e := (1, .bipush (-109), 0)) rfl) rfl rfl ?_
          refine w_ine (ykc_13 (e := (4, .if_icmp .ne 27, 124)) rfl) rfl (fun q => by exfalso; omega) (fun b519 => ?_)
          refine w_load (pc' := 101) (v := .int (zn (ztp cd k))) (m := 1) (ykc_13 (e := (2, .iload_n kF2, 0)) rfl) rfl rfl ?_
          refine w_zle (ykc_13 (e := (4, .ifCond .le 23, 124)) rfl) rfl (fun q => by exfalso; omega) (fun b520 => ?_)
          refine w_load (pc' := 105) (v := .ref F) (m := 1) (ykc_13 (e := (2, .aload_n kF0, 0)) rfl) rfl rfl ?_
          refine w_gf (pc' := 108) (v := .ref (F + 4)) (ykc_13 (e := (5, .getfield 20, 0)) rfl) rfl ((hf.1 F 8 (by simp <;> omega) (by simp <;> omega)).trans fr8) rfl ?_
          refine w_load (pc' := 109) (v := .int (zn (ztp cd k))) (m := 1) (ykc_13 (e := (2, .iload_n kF2, 0)) rfl) rfl rfl ?_
          refine w_alu (pc' := 110) (st' := [.int (Int32.ofInt 1), .int (zn (ztp cd k)), .ref (F + 4)]) (ykc_13 (e := (0, .iconst 1, 0)) rfl) rfl rfl ?_
          have e521 : (zn (ztp cd k)) - (Int32.ofInt 1) = zn (ztp cd k - 1) := zsubN (a := ztp cd k) (b := 1) (znt (by omega)) c_5 (by omega)
          have te521 := znt (k := ztp cd k - 1) (by omega)
          refine w_alu (pc' := 111) (st' := [.int (zn (ztp cd k - 1)), .ref (F + 4)]) (ykc_13 (e := (0, .isub, 0)) rfl) (by show some ([.int ((zn (ztp cd k)) - (Int32.ofInt 1)), .ref (F + 4)] : List Value) = _; rw [e521]) rfl ?_
          refine w_load (pc' := 112) (v := .ref F) (m := 1) (ykc_13 (e := (2, .aload_n kF0, 0)) rfl) rfl rfl ?_
          refine w_gf (pc' := 115) (v := .ref (F + 4)) (ykc_13 (e := (5, .getfield 20, 0)) rfl) rfl ((hf.1 F 8 (by simp <;> omega) (by simp <;> omega)).trans fr8) rfl ?_
          refine w_load (pc' := 116) (v := .int (zn (ztp cd k))) (m := 1) (ykc_13 (e := (2, .iload_n kF2, 0)) rfl) rfl rfl ?_
          refine w_alu (pc' := 117) (st' := [.int (Int32.ofInt 1), .int (zn (ztp cd k)), .ref (F + 4), .int (zn (ztp cd k - 1)), .ref (F + 4)]) (ykc_13 (e := (0, .iconst 1, 0)) rfl) rfl rfl ?_
          have e522 : (zn (ztp cd k)) - (Int32.ofInt 1) = zn (ztp cd k - 1) := zsubN (a := ztp cd k) (b := 1) (znt (by omega)) c_5 (by omega)
          have te522 := znt (k := ztp cd k - 1) (by omega)
          refine w_alu (pc' := 118) (st' := [.int (zn (ztp cd k - 1)), .ref (F + 4), .int (zn (ztp cd k - 1)), .ref (F + 4)]) (ykc_13 (e := (0, .isub, 0)) rfl) (by show some ([.int ((zn (ztp cd k)) - (Int32.ofInt 1)), .ref (F + 4), .int (zn (ztp cd k - 1)), .ref (F + 4)] : List Value) = _; rw [e522]) rfl ?_
          refine w_ialk (pc' := 119) (k := ztp cd k - 1) (ykc_13 (e := (5, .iaload, 0)) rfl) (hst (ztp cd k - 1) (by omega)) (by omega) rfl ?_
          refine w_alu (pc' := 120) (st' := [.int (-(zsk as cd k (ztp cd k - 1))), .int (zn (ztp cd k - 1)), .ref (F + 4)]) (ykc_13 (e := (0, .ineg, 0)) rfl) rfl rfl ?_
          refine w_ias (pc' := 121) (k := ztp cd k - 1) (ykc_13 (e := (5, .iastore, 0)) rfl) (by omega) rfl (fun ph524 u523 => ?_)
          refine w_br (pc' := 160) (st' := []) (ykc_13 (e := (4, .goto 39, 160)) rfl) rfl ?_
          have e525 : (zn k) + Int32.ofInt 1 = zn (k + 1) := (zaddN (a := k) (b := 1) (znt (by omega)) c_5 (by omega))
          have te525 := znt (k := k + 1) (by omega)
          refine w_store (pc' := 163) (L' := [some (.ref F), some (.ref 22), some (.int (zn (ztp cd k))), some (.int (zn (k + 1))), some (.int (Int32.ofInt (-109))), x5]) (st' := []) (m := 3) (ykc_13 (e := (3, .iinc 3 1, 0)) rfl) (by rw [← e525]; rfl) rfl ?_
          refine w_gb (ykc_13 (e := (4, .goto (-159), 4)) rfl) (fun k526 hk526 => ?_)
          have et : ztp cd (k + 1) = ztp cd k := by
            show (if cd k = 3000 then _ else if 2000 ≤ cd k then _ else _) = _
            rw [if_pos (show cd k = 3000 by omega)]
          have es : zsk as cd (k + 1) = zup (zsk as cd k) (ztp cd k - 1) (-(zsk as cd k (ztp cd k - 1))) := by
            show (if cd k = 3000 then _ else if 2000 ≤ cd k then _ else _) = _
            rw [if_pos (show cd k = 3000 by omega)]
          have h9 := ih k526 hk526 (k + 1) (some (.int (Int32.ofInt (-109)))) (x5) ph524 (by omega) (zFr_add hf u523 (Or.inl hmem)) (fun i hi => by
            rw [et] at hi
            rw [es]
            by_cases e9 : i = ztp cd k - 1
            · rw [e9, zup_i]
              exact u523.1
            · rw [zup_n e9]
              exact (u523.2.1 (F + 4) i (fun q => e9 q.2)).trans (hst i (by omega))) (by rw [et]; omega)
          rw [et] at h9
          exact h9
  exact hl n 0 none none ph (by omega) zFr_refl (fun i hi => absurd hi (Nat.not_lt_zero i)) (Nat.le_refl _)
