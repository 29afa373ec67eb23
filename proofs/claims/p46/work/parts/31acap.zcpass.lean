/-! the class: hours pass, by W; printed by wip/z/z_n_cpass.py -/
def zCp (S : Nat) (p q : pm_H) : Prop := zFr [8, 9, 15, 20, 22, 23, 24, S + 4] [(5, 4), (S, 2)] p q
theorem zCx_p {S : Nat} {p q : pm_H} (f : zCx p q) : zCp S p q := zFr_mono f (by simp <;> omega) (by simp)
theorem zCp_S {S : Nat} (hS2 : S = 25 ∨ S = 37) {p q : pm_H} (f : zCp S p q) (h : zSh p) : zSh q := by
  rcases hS2 with e | e <;> subst e
  · exact zSh_F f (by decide +kernel) h
  · exact zSh_F f (by decide +kernel) h
theorem zCp_e {S : Nat} (hS2 : S = 25 ∨ S = 37) {p q : pm_H} {E : zEn} {G : Nat} (f : zCp S p q) (h : zCe p E G) : zCe q E G := by
  rcases hS2 with e | e <;> subst e
  · refine ⟨zCl_F f (by simp) (by intro i hi; simp <;> omega) (by simp) h.1, zCi_F f (by simp) (by simp) h.2.1, ?_, h.2.2.2⟩
    rcases h.2.2.2 with e | e
    · subst e; exact zFm_F f (by simp) (by simp) h.2.2.1
    · subst e; exact zFm_F f (by simp) (by simp) h.2.2.1
  · refine ⟨zCl_F f (by simp) (by intro i hi; simp <;> omega) (by simp) h.1, zCi_F f (by simp) (by simp) h.2.1, ?_, h.2.2.2⟩
    rcases h.2.2.2 with e | e
    · subst e; exact zFm_F f (by simp) (by simp) h.2.2.1
    · subst e; exact zFm_F f (by simp) (by simp) h.2.2.1
theorem zHq_ok {E : zEn} {R C P G : Nat} {v : Nat → Nat} (h : zOk R C P G v) (hP : P ≤ 8) (hG : G ≤ 8) (h40 : v 40 < 999999) : zOk R C P G (zHq E P G v) := by
  have hv : ∀ i, i < P → v (24 + i) < 256 := fun i hi => (h.1 i hi).2.2.2
  refine ⟨fun p hp => ⟨?_, ?_, ?_, ?_⟩, fun t ht => ?_, ?_⟩
  · unfold zHq; rw [if_neg (by omega), if_neg (by omega)]; exact (h.1 p hp).1
  · unfold zHq; rw [if_neg (by omega), if_neg (by omega)]; exact (h.1 p hp).2.1
  · unfold zHq; rw [if_neg (by omega), if_neg (by omega)]; exact (h.1 p hp).2.2.1
  · unfold zHq; rw [if_pos (by omega), show 24 + p - 24 = p by omega]; exact zLi_lt hv hp hG P (Nat.le_refl P)
  · unfold zHq; rw [if_neg (by omega), if_neg (by omega)]; exact h.2.1 t ht
  · unfold zHq; rw [if_neg (by omega), if_pos rfl]; omega
noncomputable def zHqn (E : zEn) (P G : Nat) (v : Nat → Nat) : Nat → Nat → Nat
  | 0 => v
  | n + 1 => zHq E P G (zHqn E P G v n)
theorem zHqn_40 {E : zEn} {P G : Nat} {v : Nat → Nat} (hP : P ≤ 8) : ∀ n, zHqn E P G v n 40 = v 40 + n := by
  intro n
  induction n with
  | zero => rfl
  | succ n ih =>
    show zHq E P G (zHqn E P G v n) 40 = _
    unfold zHq
    rw [if_neg (by omega), if_pos rfl, ih]
    omega
theorem zHqn_ok {E : zEn} {R C P G : Nat} {v : Nat → Nat} (h : zOk R C P G v) (hP : P ≤ 8) (hG : G ≤ 8) : ∀ n, v 40 + n < 999999 → zOk R C P G (zHqn E P G v n) := by
  intro n
  induction n with
  | zero => intro _; exact h
  | succ n ih =>
    intro hn
    exact zHq_ok (ih (by omega)) hP hG (by rw [zHqn_40 hP]; omega)
theorem zSd_w {p q : pm_H} {S P G : Nat} {v u : Nat → Nat} (h25 : 25 ≤ S) (f : zFr [24, S + 4] [(S, 2)] p q) (hd : zSd p S P G v) (h24 : ∀ i, i < P → zc q (S + 4) i = some (.int (zn (u (24 + i))))) (h40 : zc q S 2 = some (.int (zn (u 40)))) (hu : ∀ i, (i < 24 ∨ (32 ≤ i ∧ i < 40)) → u i = v i) : zSd q S P G u := by
  obtain ⟨g0, gP, g1, gG, -, g3, g4⟩ := hd
  refine ⟨(f.1 _ _ (by simp <;> omega) (by simp)).trans g0, gP, (f.1 _ _ (by simp <;> omega) (by simp)).trans g1, gG, h40, fun i hi => ⟨?_, ?_, ?_, h24 i hi⟩, fun i hi => ?_⟩
  · rw [hu i (by omega)]; exact (f.1 _ _ (by simp <;> omega) (by simp)).trans (g3 i hi).1
  · rw [hu (8 + i) (by omega)]; exact (f.1 _ _ (by simp <;> omega) (by simp)).trans (g3 i hi).2.1
  · rw [hu (16 + i) (by omega)]; exact (f.1 _ _ (by simp <;> omega) (by simp)).trans (g3 i hi).2.2.1
  · rw [hu (32 + i) (by omega)]; exact (f.1 _ _ (by simp <;> omega) (by simp)).trans (g4 i hi)
theorem zSs_w {p q : pm_H} {S : Nat} (h25 : 25 ≤ S) (g : zFr [24, S + 4] [(S, 2)] p q) (h : zSs p S) : zSs q S := ⟨(g.1 _ _ (by simp <;> omega) (by simp)).trans h.1, (g.1 _ _ (by simp <;> omega) (by simp)).trans h.2.1, (g.1 _ _ (by simp <;> omega) (by simp)).trans h.2.2.1, (g.1 _ _ (by simp <;> omega) (by simp)).trans h.2.2.2.1, (g.1 _ _ (by simp <;> omega) (by simp)).trans h.2.2.2.2.1, (g.2 _).trans h.2.2.2.2.2.1, (g.2 _).trans h.2.2.2.2.2.2.1, (g.2 _).trans h.2.2.2.2.2.2.2.1, (g.2 _).trans h.2.2.2.2.2.2.2.2.1, (g.2 _).trans h.2.2.2.2.2.2.2.2.2⟩
theorem zC24_S {p q : pm_H} (f : zFr [24] [] p q) (h : zSh p) : zSh q := zCx_S (zFr_mono f (by simp) (by simp)) h
theorem zC24_e {p q : pm_H} {E : zEn} {G : Nat} (f : zFr [24] [] p q) (h : zCe p E G) : zCe q E G := zCx_e (zFr_mono f (by simp) (by simp)) h
theorem zC24_t {p q : pm_H} {S P G : Nat} {v : Nat → Nat} (f : zFr [24] [] p q) (h : zCt p S P G v) : zCt q S P G v := zCx_t (zFr_mono f (by simp) (by simp)) h
theorem zc_hour1 {n D : Nat} {Q : Option Value → pm_H → Prop} {ph : pm_H} {E : zEn} {F S P G : Nat} {v : Nat → Nat} (hS : zSh ph) (hE : zCe ph E F) (ht : zCt ph S P G v) (hO : zOk E.1 E.2.1 P G v) (hS2 : S = 25 ∨ S = 37) (hr : zc ph 10 1 = some (.ref F)) (hc : zCc ph E.1 E.2.1 E.2.2.1) (h999 : v 40 < 999999) {xn xh : Int32} {x4 : Option Value} (kk : ∀ (q : pm_H) (x4 : Option Value), zCp S ph q → zCt q S P G (zHq E P G v) → zCc q E.1 E.2.1 E.2.2.1 → zW n D 92 Q 105 [some (.ref 10), some (.ref S), some (.int xn), some (.int xh), x4] [] q) : zW n D 92 Q 7 [some (.ref 10), some (.ref S), some (.int xn), some (.int xh), x4] [] ph := by
  obtain ⟨R, C, rk, sn, sk, cn, cd⟩ := E
  have hL0 : zCl ph R C rk := hE.1
  have hi0 : zCi ph sn sk := hE.2.1
  have hF : F = 11 ∨ F = 16 := hE.2.2.2
  have hE0 : zCe ph (R, C, rk, sn, sk, cn, cd) F := hE
  have hO0 : zOk R C P G v := hO
  have hL := hL0
  have hs := ht.1.2
  have hd := ht.2
  have h25 := ht.1.1
  obtain ⟨gR, gC, gN, gK, gA, hR3, hR7, hC3, hC7⟩ := hL
  have hRC := zRC49 hR7 hC7
  have tR := znt (k := R) (by omega)
  have tC := znt (k := C) (by omega)
  have tRC := znt (k := R * C) (by omega)
  have hd0 := hd
  have hs0 := hs
  obtain ⟨r3, r4, r5, r6, r7, l1, l2, l3, l4, l5⟩ := hs
  obtain ⟨gP, hP8, gG, hG8, gH, gv, gw⟩ := hd
  have tP := znt (k := P) (by omega)
  have tG := znt (k := G) (by omega)
  have h40 := hO0.2.2
  have t40 := znt (k := v 40) (by omega)
  have hv256 : ∀ i, i < P → v (24 + i) < 256 := fun i hi => (hO0.1 i hi).2.2.2
  have c_0 : ((Int8.ofInt 8).toInt32).toInt = 8 := by decide
  have c_1 : (Int32.ofInt 0).toInt = 0 := by decide
  have c_2 : (Int32.ofInt 1).toInt = 1 := by decide
  refine w_load (pc' := 8) (v := .ref 10) (m := 1) (ykc_92 (e := (2, .aload_n kF0, 0)) rfl) rfl rfl ?_
  refine w_load (pc' := 9) (v := .ref 10) (m := 1) (ykc_92 (e := (2, .aload_n kF0, 0)) rfl) rfl rfl ?_
  refine w_gf (pc' := 12) (v := .ref F) (ykc_92 (e := (5, .getfield 18, 0)) rfl) rfl hr rfl ?_
  refine w_load (pc' := 13) (v := .ref S) (m := 1) (ykc_92 (e := (2, .aload_n kF1, 0)) rfl) rfl rfl ?_
  refine w_cv (as := [.ref 10, .ref F, .ref S]) (r := []) (ykc_92 (e := (6, .invokevirtual 118, 0)) rfl) rfl rfl rfl rfl (zc_look hS hE0 ht hO0 hc) (fun v762 ph763 hv => ?_)
  obtain ⟨f761, hc1, hvw, rfl⟩ := hv
  show zW n D 92 Q 16 [some (.ref 10), some (.ref S), some (.int xn), some (.int xh), x4] [.long (zAll (R, C, rk, sn, sk, cn, cd) P v)] ph763
  refine w_alu (pc' := 17) (st' := []) (ykc_92 (e := (0, .pop2, 0)) rfl) rfl rfl ?_
  have hS1 := zCx_S f761 hS
  have hE1 := zCx_e f761 hE0
  have ht1 := zCx_t f761 ht
  have hl2 : ∀ (n1 : Nat), n1 ≤ n → ∀ (k : Nat) (ph1 : pm_H), (k ≤ P) → (zCp S ph ph1) → (zFr [24, S + 4] [] ph763 ph1) → (∀ i, i < P → zc ph1 24 i = some (.int (zn (zLi (R, C, rk, sn, sk, cn, cd) P G v i P)))) → (∀ i, i < k → zc ph1 (S + 4) i = some (.int (zn (zLi (R, C, rk, sn, sk, cn, cd) P G v i P)))) → zW n1 D 92 Q 59 [some (.ref 10), some (.ref S), some (.int xn), some (.int xh), some (.int (zn k))] [] ph1 := by
    intro n1
    induction n1 using Nat.strongRecOn with
    | ind n1 ih =>
      intro hlim k ph1 hk hf hg hln hkn
      have tk := znt (k := k) (by omega)
      obtain ⟨r3, r4, r5, r6, r7, -⟩ := ht1.1.2
      obtain ⟨gP1, -, -, -, gH1, -⟩ := ht1.2
      refine w_load (pc' := 61) (v := .int (zn k)) (m := 2) (ykc_92 (e := (2, .iload 4, 0)) rfl) rfl rfl ?_
      refine w_load (pc' := 62) (v := .ref S) (m := 1) (ykc_92 (e := (2, .aload_n kF1, 0)) rfl) rfl rfl ?_
      refine w_gf (pc' := 65) (v := .int (zn P)) (ykc_92 (e := (5, .getfield 122, 0)) rfl) rfl ((hg.1 S 0 (by simp <;> omega) (by simp <;> omega)).trans gP1) rfl ?_
      refine w_ige (ykc_92 (e := (4, .if_icmp .ge 30, 95)) rfl) rfl (fun b764 => ?_) (fun b764 => ?_)
      · refine w_load (pc' := 96) (v := .ref S) (m := 1) (ykc_92 (e := (2, .aload_n kF1, 0)) rfl) rfl rfl ?_
        refine w_alu (pc' := 97) (st' := [.ref S, .ref S]) (ykc_92 (e := (0, .dup, 0)) rfl) rfl rfl ?_
        refine w_gf (pc' := 100) (v := .int (zn (v 40))) (ykc_92 (e := (5, .getfield 69, 0)) rfl) rfl ((hg.1 S 2 (by simp <;> omega) (by simp <;> omega)).trans gH1) rfl ?_
        refine w_alu (pc' := 101) (st' := [.int (Int32.ofInt 1), .int (zn (v 40)), .ref S]) (ykc_92 (e := (0, .iconst 1, 0)) rfl) rfl rfl ?_
        have e765 : (zn (v 40)) + (Int32.ofInt 1) = zn (v 40 + 1) := (zaddN (a := v 40) (b := 1) (znt (by omega)) c_2 (by omega)) 
        have te765 := znt (k := v 40 + 1) (by omega)
        refine w_alu (pc' := 102) (st' := [.int (zn (v 40 + 1)), .ref S]) (ykc_92 (e := (0, .iadd, 0)) rfl) (by rw [← e765]; rfl) rfl ?_
        refine w_pf (pc' := 105) (ykc_92 (e := (5, .putfield 69, 0)) rfl) rfl rfl (fun ph767 u766 => ?_)
        have ek : P = k := by omega
        subst ek
        have g : zFr [24, S + 4] [(S, 2)] ph763 _ := zFr_add (zFr_mono hg (by simp) (by simp)) u766 (Or.inr (by simp))
        refine zW_le (kk _ _ (zFr_add hf u766 (Or.inr (by simp))) ⟨⟨h25, zSs_w h25 g ht1.1.2⟩, zSd_w h25 g ht1.2 (fun i hi => ?_) ?_ (fun i hi => ?_)⟩ (zCc_F g (by simp <;> omega) (by simp <;> omega) (by simp <;> omega) hc1)) hlim
        · unfold zHq
          rw [if_pos (by omega), show 24 + i - 24 = i by omega]
          exact (u766.2.1 (S + 4) i (fun q => by have q2 := q.1; omega)).trans (hkn i hi)
        · unfold zHq
          rw [if_neg (by omega), if_pos rfl]
          exact u766.1
        · unfold zHq
          rw [if_neg (by omega), if_neg (by omega)]
      · refine w_load (pc' := 70) (v := .int (zn k)) (m := 2) (ykc_92 (e := (2, .iload 4, 0)) rfl) rfl rfl ?_
        refine w_push (pc' := 72) (v := .int ((Int8.ofInt 8).toInt32)) (m := 2) (ykc_92 (e := (1, .bipush 8, 0)) rfl) rfl rfl ?_
        refine w_ige (ykc_92 (e := (4, .if_icmp .ge 23, 95)) rfl) rfl (fun q => by exfalso; omega) (fun b768 => ?_)
        refine w_load (pc' := 76) (v := .ref S) (m := 1) (ykc_92 (e := (2, .aload_n kF1, 0)) rfl) rfl rfl ?_
        refine w_gf (pc' := 79) (v := .ref (S + 4)) (ykc_92 (e := (5, .getfield 75, 0)) rfl) rfl ((hg.1 S 6 (by simp <;> omega) (by simp <;> omega)).trans r6) rfl ?_
        refine w_load (pc' := 81) (v := .int (zn k)) (m := 2) (ykc_92 (e := (2, .iload 4, 0)) rfl) rfl rfl ?_
        refine w_load (pc' := 82) (v := .ref 10) (m := 1) (ykc_92 (e := (2, .aload_n kF0, 0)) rfl) rfl rfl ?_
        refine w_gf (pc' := 85) (v := .ref 24) (ykc_92 (e := (5, .getfield 40, 0)) rfl) rfl ((hg.1 10 7 (by simp <;> omega) (by simp <;> omega)).trans (zsg hS1 zs_10_7)) rfl ?_
        refine w_load (pc' := 87) (v := .int (zn k)) (m := 2) (ykc_92 (e := (2, .iload 4, 0)) rfl) rfl rfl ?_
        refine w_ialk (pc' := 88) (k := k) (ykc_92 (e := (5, .iaload, 0)) rfl) (hln k (by omega)) (by omega) rfl ?_
        refine w_ias (pc' := 89) (k := k) (ykc_92 (e := (5, .iastore, 0)) rfl) (by omega) rfl (fun ph770 u769 => ?_)
        have e771 : (zn k) + Int32.ofInt 1 = zn (k + 1) := (zaddN (a := k) (b := 1) (znt (by omega)) c_2 (by omega))
        have te771 := znt (k := k + 1) (by omega)
        refine w_store (pc' := 92) (L' := [some (.ref 10), some (.ref S), some (.int xn), some (.int xh), some (.int (zn (k + 1)))]) (st' := []) (m := 3) (ykc_92 (e := (3, .iinc 4 1, 0)) rfl) (by rw [← e771]; rfl) rfl ?_
        refine w_gb (ykc_92 (e := (4, .goto (-33), 59)) rfl) (fun k772 hk772 => ?_)
        exact ih k772 hk772 (by omega) (k + 1) _ (by omega) (zFr_add hf u769 (Or.inl (by simp))) (zFr_add hg u769 (Or.inl (by simp))) (fun i hi => (u769.2.1 24 i (fun q => by have q2 := q.1; omega)).trans (hln i hi)) (fun i hi => by
          by_cases e : i = k
          · subst e
            exact u769.1
          · exact (u769.2.1 (S + 4) i (fun q => e q.2)).trans (hkn i (by omega)))
  have hl1 : ∀ (n1 : Nat), n1 ≤ n → ∀ (k : Nat) (ph1 : pm_H), (k ≤ P) → (zCp S ph ph1) → (zFr [24] [] ph763 ph1) → (∀ i, i < k → zc ph1 24 i = some (.int (zn (zLi (R, C, rk, sn, sk, cn, cd) P G v i P)))) → zW n1 D 92 Q 20 [some (.ref 10), some (.ref S), some (.int xn), some (.int xh), some (.int (zn k))] [] ph1 := by
    intro n1
    induction n1 using Nat.strongRecOn with
    | ind n1 ih =>
      intro hlim k ph1 hk hf hg hln
      have tk := znt (k := k) (by omega)
      obtain ⟨gP1, -⟩ := ht1.2
      refine w_load (pc' := 22) (v := .int (zn k)) (m := 2) (ykc_92 (e := (2, .iload 4, 0)) rfl) rfl rfl ?_
      refine w_load (pc' := 23) (v := .ref S) (m := 1) (ykc_92 (e := (2, .aload_n kF1, 0)) rfl) rfl rfl ?_
      refine w_gf (pc' := 26) (v := .int (zn P)) (ykc_92 (e := (5, .getfield 122, 0)) rfl) rfl ((hg.1 S 0 (by simp <;> omega) (by simp <;> omega)).trans gP1) rfl ?_
      refine w_ige (ykc_92 (e := (4, .if_icmp .ge 30, 56)) rfl) rfl (fun b773 => ?_) (fun b773 => ?_)
      · refine w_alu (pc' := 57) (st' := [.int (Int32.ofInt 0)]) (ykc_92 (e := (0, .iconst 0, 0)) rfl) rfl rfl ?_
        refine w_store (pc' := 59) (L' := [some (.ref 10), some (.ref S), some (.int xn), some (.int xh), some (.int (Int32.ofInt 0))]) (st' := []) (m := 2) (ykc_92 (e := (3, .istore 4, 0)) rfl) rfl rfl ?_
        have ek : P = k := by omega
        subst ek
        exact hl2 n1 hlim 0 ph1 (Nat.zero_le _) hf (zFr_mono hg (by simp) (by simp)) hln (fun i hi => absurd hi (Nat.not_lt_zero i))
      · refine w_load (pc' := 31) (v := .int (zn k)) (m := 2) (ykc_92 (e := (2, .iload 4, 0)) rfl) rfl rfl ?_
        refine w_push (pc' := 33) (v := .int ((Int8.ofInt 8).toInt32)) (m := 2) (ykc_92 (e := (1, .bipush 8, 0)) rfl) rfl rfl ?_
        refine w_ige (ykc_92 (e := (4, .if_icmp .ge 23, 56)) rfl) rfl (fun q => by exfalso; omega) (fun b774 => ?_)
        refine w_load (pc' := 37) (v := .ref 10) (m := 1) (ykc_92 (e := (2, .aload_n kF0, 0)) rfl) rfl rfl ?_
        refine w_gf (pc' := 40) (v := .ref 24) (ykc_92 (e := (5, .getfield 40, 0)) rfl) rfl ((hg.1 10 7 (by simp <;> omega) (by simp <;> omega)).trans (zsg hS1 zs_10_7)) rfl ?_
        refine w_load (pc' := 42) (v := .int (zn k)) (m := 2) (ykc_92 (e := (2, .iload 4, 0)) rfl) rfl rfl ?_
        refine w_load (pc' := 43) (v := .ref 10) (m := 1) (ykc_92 (e := (2, .aload_n kF0, 0)) rfl) rfl rfl ?_
        refine w_load (pc' := 44) (v := .ref S) (m := 1) (ykc_92 (e := (2, .aload_n kF1, 0)) rfl) rfl rfl ?_
        refine w_load (pc' := 46) (v := .int (zn k)) (m := 2) (ykc_92 (e := (2, .iload 4, 0)) rfl) rfl rfl ?_
        refine w_cv (as := [.ref 10, .ref S, .int (zn k)]) (r := [.int (zn k), .ref 24]) (ykc_92 (e := (6, .invokevirtual 139, 0)) rfl) rfl rfl rfl rfl (zc_learn (zC24_S hg hS1) (zC24_e hg hE1) (zC24_t hg ht1) hO0 (fun i hi => (hg.1 23 i (by simp) (by simp)).trans (hvw i hi)) (p := k) (by omega)) (fun v775 ph776 hv => ?_)
        obtain ⟨rfl, rfl⟩ := hv
        have hlt := zLi_lt (E := (R, C, rk, sn, sk, cn, cd)) (G := G) (p := k) hv256 (by omega) hG8 P (Nat.le_refl P)
        have tl := znt (k := zLi (R, C, rk, sn, sk, cn, cd) P G v k P) (by omega)
        show zW n1 D 92 Q 49 [some (.ref 10), some (.ref S), some (.int xn), some (.int xh), some (.int (zn k))] [.int (zn (zLi (R, C, rk, sn, sk, cn, cd) P G v k P)), .int (zn k), .ref 24] ph1
        refine w_ias (pc' := 50) (k := k) (ykc_92 (e := (5, .iastore, 0)) rfl) (by omega) rfl (fun ph778 u777 => ?_)
        have e779 : (zn k) + Int32.ofInt 1 = zn (k + 1) := (zaddN (a := k) (b := 1) (znt (by omega)) c_2 (by omega))
        have te779 := znt (k := k + 1) (by omega)
        refine w_store (pc' := 53) (L' := [some (.ref 10), some (.ref S), some (.int xn), some (.int xh), some (.int (zn (k + 1)))]) (st' := []) (m := 3) (ykc_92 (e := (3, .iinc 4 1, 0)) rfl) (by rw [← e779]; rfl) rfl ?_
        refine w_gb (ykc_92 (e := (4, .goto (-33), 20)) rfl) (fun k780 hk780 => ?_)
        exact ih k780 hk780 (by omega) (k + 1) _ (by omega) (zFr_add hf u777 (Or.inl (by simp))) (zFr_add hg u777 (Or.inl (by simp))) (fun i hi => by
          by_cases e : i = k
          · subst e
            exact u777.1
          · exact (u777.2.1 24 i (fun q => e q.2)).trans (hln i (by omega)))
  refine w_alu (pc' := 18) (st' := [.int (Int32.ofInt 0)]) (ykc_92 (e := (0, .iconst 0, 0)) rfl) rfl rfl ?_
  refine w_store (pc' := 20) (L' := [some (.ref 10), some (.ref S), some (.int xn), some (.int xh), some (.int (Int32.ofInt 0))]) (st' := []) (m := 2) (ykc_92 (e := (3, .istore 4, 0)) rfl) rfl rfl ?_
  exact hl1 n (Nat.le_refl n) 0 ph763 (Nat.zero_le _) (zCx_p f761) zFr_refl (fun i hi => absurd hi (Nat.not_lt_zero i))
theorem zc_pass {ph : pm_H} {E : zEn} {F S P G : Nat} {v : Nat → Nat} (hS : zSh ph) (hE : zCe ph E F) (ht : zCt ph S P G v) (hO : zOk E.1 E.2.1 P G v) (hS2 : S = 25 ∨ S = 37) (hr : zc ph 10 1 = some (.ref F)) (hc : zCc ph E.1 E.2.1 E.2.2.1) {N : Nat} (hN : v 40 + N < 999999) : zM 92 [.ref 10, .ref S, .int (zn N)] ph (fun v0 q => zCp S ph q ∧ zCt q S P G (zHqn E P G v N) ∧ zCc q E.1 E.2.1 E.2.2.1 ∧ v0 = some (.int (zKw (zHqn E P G v N) P))) := by
  obtain ⟨Q, hQ⟩ : ∃ Q : Option Value → pm_H → Prop, Q = (fun v0 q => zCp S ph q ∧ zCt q S P G (zHqn E P G v N) ∧ zCc q E.1 E.2.1 E.2.2.1 ∧ v0 = some (.int (zKw (zHqn E P G v N) P))) := ⟨_, rfl⟩
  rw [← hQ]
  refine zM_mk fun n D => ?_
  show zW n D 92 Q 0 [some (.ref 10), some (.ref S), some (.int (zn N)), none, none] [] ph
  have c_0 : ((Int8.ofInt 8).toInt32).toInt = 8 := by decide
  have c_1 : (Int32.ofInt 0).toInt = 0 := by decide
  have c_2 : (Int32.ofInt 1).toInt = 1 := by decide
  have tN := znt (k := N) (by omega)
  have hG8 : G ≤ 8 := ht.2.2.2.2.1
  have hP8 : P ≤ 8 := ht.2.2.1
  refine w_alu (pc' := 1) (st' := [.int (Int32.ofInt 0)]) (ykc_92 (e := (0, .iconst 0, 0)) rfl) rfl rfl ?_
  refine w_store (pc' := 2) (L' := [some (.ref 10), some (.ref S), some (.int (zn N)), some (.int (Int32.ofInt 0)), none]) (st' := []) (m := 1) (ykc_92 (e := (3, .istore_n kF3, 0)) rfl) rfl rfl ?_
  have hl : ∀ (n : Nat), ∀ (h : Nat) (x4 : Option Value) (ph1 : pm_H), (h ≤ N) → (zCp S ph ph1) → (zCt ph1 S P G (zHqn E P G v h)) → (zCc ph1 E.1 E.2.1 E.2.2.1) → zW n D 92 Q 2 [some (.ref 10), some (.ref S), some (.int (zn N)), some (.int (zn h)), x4] [] ph1 := by
    intro n
    induction n using Nat.strongRecOn with
    | ind n ih =>
      intro h x4 ph1 hh hf ht1 hc1
      have th := znt (k := h) (by omega)
      refine w_load (pc' := 3) (v := .int (zn h)) (m := 1) (ykc_92 (e := (2, .iload_n kF3, 0)) rfl) rfl rfl ?_
      refine w_load (pc' := 4) (v := .int (zn N)) (m := 1) (ykc_92 (e := (2, .iload_n kF2, 0)) rfl) rfl rfl ?_
      refine w_ige (ykc_92 (e := (4, .if_icmp .ge 107, 111)) rfl) rfl (fun b781 => ?_) (fun b781 => ?_)
      · refine w_load (pc' := 112) (v := .ref S) (m := 1) (ykc_92 (e := (2, .aload_n kF1, 0)) rfl) rfl rfl ?_
        refine w_cv (as := [.ref S]) (r := []) (ykc_92 (e := (6, .invokevirtual 143, 0)) rfl) rfl rfl rfl rfl (zc_known ht1.1.2 ht1.2) (fun v782 ph783 hv => ?_)
        obtain ⟨rfl, rfl⟩ := hv
        show zW n D 92 Q 115 [some (.ref 10), some (.ref S), some (.int (zn N)), some (.int (zn h)), x4] [.int (zKw (zHqn E P G v h) P)] ph1
        refine w_ret (v := (some (.int (zKw (zHqn E P G v h) P)))) (ykc_92 (e := (7, .ireturn, 0)) rfl) (zr_v rfl) ?_
        have eh : h = N := by omega
        subst eh
        rw [hQ]
        exact ⟨hf, ht1, hc1, rfl⟩
      · refine zc_hour1 (zCp_S hS2 hf hS) (zCp_e hS2 hf hE) ht1 (zHqn_ok hO hP8 hG8 h (by omega)) hS2 ((hf.1 10 1 (by simp <;> omega) (by simp <;> omega)).trans hr) hc1 (by rw [zHqn_40 hP8]; omega) (fun q x4 hf2 ht2 hc2 => ?_)
        have hf3 : zCp S ph q := zFr_trans hf hf2
        have e784 : (zn h) + Int32.ofInt 1 = zn (h + 1) := (zaddN (a := h) (b := 1) (znt (by omega)) c_2 (by omega))
        have te784 := znt (k := h + 1) (by omega)
        refine w_store (pc' := 108) (L' := [some (.ref 10), some (.ref S), some (.int (zn N)), some (.int (zn (h + 1))), x4]) (st' := []) (m := 3) (ykc_92 (e := (3, .iinc 3 1, 0)) rfl) (by rw [← e784]; rfl) rfl ?_
        refine w_gb (ykc_92 (e := (4, .goto (-106), 2)) rfl) (fun k785 hk785 => ?_)
        exact ih k785 hk785 (h + 1) _ _ (by omega) hf3 ht2 hc2
  exact hl n 0 none ph (Nat.zero_le _) zFr_refl ht hc
