/-! the class: what one SEES, hours, by W; printed by wip/z/z_l_cpass.py -/
theorem zT_s {f : Nat → Bool} {k : Nat} : zT f (k + 1) = zT f k ||| (bif f k then Int32.ofInt 1 <<< (zn k &&& 31) else Int32.ofInt 0) := rfl
theorem zT_ext {f g : Nat → Bool} {n : Nat} (h : ∀ k, k < n → f k = g k) : zT f n = zT g n := by
  induction n with
  | zero => rfl
  | succ n ih => rw [zT_s, zT_s, ih (fun k hk => h k (by omega)), h n (by omega)]
/-- toward all ways within the brim, so far: the ways before w -/
noncomputable def zTa (C : Nat) (rk : Nat → Bool) (n f fc br : Nat) : Nat → Int64
  | 0 => Int64.ofNat kG0
  | w + 1 => if ze8 w fc + br ≤ 4 then zTa C rk n f fc br w ||| zS (zTw C rk f w) n else zTa C rk n f fc br w
theorem zTa_b {C : Nat} {rk : Nat → Bool} {n f fc br : Nat} (hn : n ≤ 64) {g : Nat} (hg : g < 64) : ∀ w, zb (zTa C rk n f fc br w) g = (decide (g < n) && (!decide (g = f) && (zclr C rk f g 7 && decide (zway (zgr C f g) (zgc C f g) < w ∧ ze8 (zway (zgr C f g) (zgc C f g)) fc + br ≤ 4)))) := by
  intro w
  induction w with
  | zero => rw [show zTa C rk n f fc br 0 = Int64.ofNat kG0 from rfl, zL0]; simp [zb]
  | succ w ih =>
    unfold zTa
    by_cases h : ze8 w fc + br ≤ 4
    · rw [if_pos h, zb_or, ih, zS_b hn hg]
      unfold zTw
      by_cases e : zway (zgr C f g) (zgc C f g) = w
      · have h1 : ¬ (zway (zgr C f g) (zgc C f g) < w) := by omega
        simp [e, h]
      · have h1 : (zway (zgr C f g) (zgc C f g) < w + 1) ↔ (zway (zgr C f g) (zgc C f g) < w) := by omega
        simp [e, h1]
    · rw [if_neg h, ih]
      by_cases e : zway (zgr C f g) (zgc C f g) = w
      · simp [e, h]
      · have h1 : (zway (zgr C f g) (zgc C f g) < w + 1) ↔ (zway (zgr C f g) (zgc C f g) < w) := by omega
        simp [h1]
theorem zview {R C : Nat} {rk : Nat → Bool} {f fc br re far : Nat} (hC : 0 < C) (hC7 : C ≤ 7) (hR7 : R ≤ 7) (hf : f < R * C) (hfar : far = min 6 re) : (zTa C rk (R * C) f fc br 8 &&& zS (zWi C f far) (R * C)) ||| Int64.ofNat kG1 <<< ((zn f).toInt64 &&& 63) = zS (fun g => zsee C rk f g fc br re) (R * C) := by
  have hRC := zRC49 hR7 hC7
  refine zb_ext fun g hg => ?_
  rw [zb_or, zb_and, zTa_b (by omega) hg, zS_b (by omega) hg, zS_b (by omega) hg, zL1, zb_bit (by omega) hg]
  have hw8 : zway (zgr C f g) (zgc C f g) < 8 := zway_lt
  unfold zWi zsee
  by_cases hgn : g < R * C
  · have hd6 := zds_6 hC hC7 hR7 hf hgn
    have hd : (zds C f g ≤ far) ↔ (max (((g / C : Nat) : Int) - (f / C : Nat)).natAbs (((g % C : Nat) : Int) - (f % C : Nat)).natAbs ≤ re) := by
      show _ ↔ zds C f g ≤ re
      omega
    by_cases e : g = f
    · subst e
      simp [hgn]
    · have e2 : ¬ f = g := fun q => e q.symm
      have hw : (zway (zgr C f g) (zgc C f g) < 8 ∧ ze8 (zway (zgr C f g) (zgc C f g)) fc + br ≤ 4) ↔ (ze8 (zway (((g / C : Nat) : Int) - (f / C : Nat)) (((g % C : Nat) : Int) - (f % C : Nat))) fc + br ≤ 4) := ⟨fun q => q.2, fun q => ⟨hw8, q⟩⟩
      have hd9 : decide (zds C f g ≤ far) = decide (max (((g / C : Nat) : Int) - (f / C : Nat)).natAbs (((g % C : Nat) : Int) - (f % C : Nat)).natAbs ≤ re) := decide_eq_decide.mpr hd
      have hw9 : decide (zway (zgr C f g) (zgc C f g) < 8 ∧ ze8 (zway (zgr C f g) (zgc C f g)) fc + br ≤ 4) = decide (ze8 (zway (((g / C : Nat) : Int) - (f / C : Nat)) (((g % C : Nat) : Int) - (f % C : Nat))) fc + br ≤ 4) := decide_eq_decide.mpr hw
      rw [hd9, hw9, decide_eq_false e, decide_eq_false e2, decide_eq_true hgn]
      simp only [Bool.true_and, Bool.not_false, Bool.or_false, Bool.false_or]
      cases zclr C rk f g 7 <;> simp [Bool.and_comm]
  · have e : ¬ g = f := by omega
    simp [hgn, e]
theorem zCc_F {A : List Nat} {F : List (Nat × Nat)} {p q : pm_H} {R C : Nat} {rk : Nat → Bool} (f : zFr A F p q) (h1 : 5 ∉ A ∧ 8 ∉ A ∧ 9 ∉ A) (h2 : (5, 4) ∉ F) (h3 : ∀ i, (8, i) ∉ F ∧ (9, i) ∉ F) (h : zCc p R C rk) : zCc q R C rk := by
  obtain ⟨x, h4, h5⟩ := h
  exact ⟨x, (f.1 _ _ h1.1 h2).trans h4, fun g hg hb => ⟨fun w hw => (f.1 _ _ h1.2.1 (h3 _).1).trans ((h5 g hg hb).1 w hw), fun d hd => (f.1 _ _ h1.2.2 (h3 _).2).trans ((h5 g hg hb).2 d hd)⟩⟩
theorem zc_view {ph : pm_H} {R C : Nat} {rk : Nat → Bool} (hS : zSh ph) (hL : zCl ph R C rk) {f fc br re : Nat} (hc : zCc ph R C rk) (hf : f < R * C) (hfc : fc < 8) (hbr : br ≤ 4) (hre : re ≤ 9) : zM 48 [.ref 5, .int (zn f), .int (zn fc), .int (zn br), .int (zn re)] ph (fun v q => zFr [8, 9] [(5, 4)] ph q ∧ zCc q R C rk ∧ v = some (.long (zS (fun g => zsee C rk f g fc br re) (R * C)))) := by
  obtain ⟨Q, hQ⟩ : ∃ Q : Option Value → pm_H → Prop, Q = (fun v q => zFr [8, 9] [(5, 4)] ph q ∧ zCc q R C rk ∧ v = some (.long (zS (fun g => zsee C rk f g fc br re) (R * C)))) := ⟨_, rfl⟩
  rw [← hQ]
  refine zM_mk fun n D => ?_
  show zW n D 48 Q 0 [some (.ref 5), some (.int (zn f)), some (.int (zn fc)), some (.int (zn br)), some (.int (zn re)), none, none, none] [] ph
  have c_0 : ((Int8.ofInt 6).toInt32).toInt = 6 := by decide
  have c_1 : ((Int8.ofInt 7).toInt32).toInt = 7 := by decide
  have c_2 : ((Int8.ofInt 8).toInt32).toInt = 8 := by decide
  have c_3 : (Int32.ofInt 0).toInt = 0 := by decide
  have c_4 : (Int32.ofInt 1).toInt = 1 := by decide
  have c_5 : (Int32.ofInt 4).toInt = 4 := by decide
  have hL0 := hL
  obtain ⟨gR, gC, gN, gK, gA, hR3, hR7, hC3, hC7⟩ := hL
  have hRC := zRC49 hR7 hC7
  have tR := znt (k := R) (by omega)
  have tC := znt (k := C) (by omega)
  have tRC := znt (k := R * C) (by omega)
  have tf := znt (k := f) (by omega)
  have tfc := znt (k := fc) (by omega)
  have tbr := znt (k := br) (by omega)
  have tre := znt (k := re) (by omega)
  obtain ⟨x, hx, hcx⟩ := hc
  have hT : ∀ (n : Nat) (ph1 : pm_H) (y : Int64), zFr [8, 9] [(5, 4)] ph ph1 → zc ph1 5 4 = some (.long y) → (∀ g, g < R * C → zb y g = true → (∀ w, w < 8 → zc ph1 8 (8 * g + w) = some (.long (zS (zTw C rk g w) (R * C)))) ∧ ∀ d, d < 7 → zc ph1 9 (7 * g + d) = some (.long (zS (zWi C g d) (R * C)))) → zb y f = true → zW n D 48 Q 26 [some (.ref 5), some (.int (zn f)), some (.int (zn fc)), some (.int (zn br)), some (.int (zn re)), none, none, none] [] ph1 := by
    intro n ph1 y hf1 hy hcy hyf
    obtain ⟨h8, h9⟩ := hcy f hf hyf
    refine w_alu (pc' := 27) (st' := [.long (Int64.ofNat kG0)]) (ykc_48 (e := (0, .lconst kG0, 0)) rfl) rfl rfl ?_
    refine w_store (pc' := 29) (L' := [some (.ref 5), some (.int (zn f)), some (.int (zn fc)), some (.int (zn br)), some (.int (zn re)), some (.long (Int64.ofNat kG0)), none, none]) (st' := []) (m := 2) (ykc_48 (e := (3, .lstore 5, 0)) rfl) rfl rfl ?_
    refine w_alu (pc' := 30) (st' := [.int (Int32.ofInt 0)]) (ykc_48 (e := (0, .iconst 0, 0)) rfl) rfl rfl ?_
    refine w_store (pc' := 32) (L' := [some (.ref 5), some (.int (zn f)), some (.int (zn fc)), some (.int (zn br)), some (.int (zn re)), some (.long (Int64.ofNat kG0)), none, some (.int (Int32.ofInt 0))]) (st' := []) (m := 2) (ykc_48 (e := (3, .istore 7, 0)) rfl) rfl rfl ?_
    have hl : ∀ (n : Nat), ∀ (k : Nat), (k ≤ 8) → zW n D 48 Q 32 [some (.ref 5), some (.int (zn f)), some (.int (zn fc)), some (.int (zn br)), some (.int (zn re)), some (.long (zTa C rk (R * C) f fc br k)), none, some (.int (zn k))] [] ph1 := by
      intro n
      induction n using Nat.strongRecOn with
      | ind n ih =>
        intro k hk
        have tk := znt (k := k) (by omega)
        refine w_load (pc' := 34) (v := .int (zn k)) (m := 2) (ykc_48 (e := (2, .iload 7, 0)) rfl) rfl rfl ?_
        refine w_push (pc' := 36) (v := .int ((Int8.ofInt 8).toInt32)) (m := 2) (ykc_48 (e := (1, .bipush 8, 0)) rfl) rfl rfl ?_
        refine w_ige (ykc_48 (e := (4, .if_icmp .ge 38, 74)) rfl) rfl (fun b611 => ?_) (fun b611 => ?_)
        · refine w_alu (pc' := 75) (st' := [.int (Int32.ofInt 0)]) (ykc_48 (e := (0, .iconst 0, 0)) rfl) rfl rfl ?_
          refine w_push (pc' := 77) (v := .int ((Int8.ofInt 6).toInt32)) (m := 2) (ykc_48 (e := (1, .bipush 6, 0)) rfl) rfl rfl ?_
          refine w_load (pc' := 79) (v := .int (zn re)) (m := 2) (ykc_48 (e := (2, .iload 4, 0)) rfl) rfl rfl ?_
          obtain ⟨z612, e_z612⟩ : ∃ zq : Int32, (if (zn re) < ((Int8.ofInt 6).toInt32) then (zn re) else ((Int8.ofInt 6).toInt32)) = zq := ⟨_, rfl⟩
          have h_z612 := zminI e_z612
          refine w_mem1 (pc' := 82) (m := 3) (st' := [.int z612, .int (Int32.ofInt 0)]) (ph' := ph1) (ykc_48 (e := (5, .invokestatic 85, 0)) rfl) (by rw [← e_z612]; rfl) rfl ?_
          obtain ⟨z613, e_z613⟩ : ∃ zq : Int32, (if (Int32.ofInt 0) < z612 then z612 else (Int32.ofInt 0)) = zq := ⟨_, rfl⟩
          have h_z613 := zmaxI e_z613
          have n_z613 : z613.toInt = ((min 6 re : Nat) : Int) := by omega
          refine w_mem1 (pc' := 85) (m := 3) (st' := [.int z613]) (ph' := ph1) (ykc_48 (e := (5, .invokestatic 97, 0)) rfl) (by rw [← e_z613]; rfl) rfl ?_
          refine w_store (pc' := 87) (L' := [some (.ref 5), some (.int (zn f)), some (.int (zn fc)), some (.int (zn br)), some (.int (zn re)), some (.long (zTa C rk (R * C) f fc br k)), none, some (.int z613)]) (st' := []) (m := 2) (ykc_48 (e := (3, .istore 7, 0)) rfl) rfl rfl ?_
          refine w_load (pc' := 89) (v := .long (zTa C rk (R * C) f fc br k)) (m := 2) (ykc_48 (e := (2, .lload 5, 0)) rfl) rfl rfl ?_
          refine w_load (pc' := 90) (v := .ref 5) (m := 1) (ykc_48 (e := (2, .aload_n kF0, 0)) rfl) rfl rfl ?_
          refine w_gf (pc' := 93) (v := .ref 9) (ykc_48 (e := (5, .getfield 22, 0)) rfl) rfl ((hf1.1 5 8 (by decide) (by decide)).trans (zsg hS zs_5_8)) rfl ?_
          refine w_load (pc' := 94) (v := .int (zn f)) (m := 1) (ykc_48 (e := (2, .iload_n kF1, 0)) rfl) rfl rfl ?_
          refine w_push (pc' := 96) (v := .int ((Int8.ofInt 7).toInt32)) (m := 2) (ykc_48 (e := (1, .bipush 7, 0)) rfl) rfl rfl ?_
          have e614 : (zn f) * ((Int8.ofInt 7).toInt32) = zn (7 * f) := (zmulK (a := f) (b := 7) (znt (by omega)) c_1 (by omega))
          have te614 := znt (k := 7 * f) (by omega)
          refine w_alu (pc' := 97) (st' := [.int (zn (7 * f)), .ref 9, .long (zTa C rk (R * C) f fc br k)]) (ykc_48 (e := (0, .imul, 0)) rfl) (by show some ([.int ((zn f) * ((Int8.ofInt 7).toInt32)), .ref 9, .long (zTa C rk (R * C) f fc br k)] : List Value) = _; rw [e614]) rfl ?_
          refine w_load (pc' := 99) (v := .int z613) (m := 2) (ykc_48 (e := (2, .iload 7, 0)) rfl) rfl rfl ?_
          have e615 : (zn (7 * f)) + z613 = zn (7 * f + (min 6 re)) := (zaddN (a := 7 * f) (b := min 6 re) (znt (by omega)) (by omega) (by omega)) 
          have te615 := znt (k := 7 * f + (min 6 re)) (by omega)
          refine w_alu (pc' := 100) (st' := [.int (zn (7 * f + (min 6 re))), .ref 9, .long (zTa C rk (R * C) f fc br k)]) (ykc_48 (e := (0, .iadd, 0)) rfl) (by rw [← e615]; rfl) rfl ?_
          refine w_lalk (pc' := 101) (k := 7 * f + (min 6 re)) (ykc_48 (e := (5, .laload, 0)) rfl) (h9 (min 6 re) (by omega)) (by omega) rfl ?_
          refine w_alu (pc' := 102) (st' := [.long ((zTa C rk (R * C) f fc br k) &&& (zS (zWi C f (min 6 re)) (R * C)))]) (ykc_48 (e := (0, .land, 0)) rfl) rfl rfl ?_
          refine w_alu (pc' := 103) (st' := [.long (Int64.ofNat kG1), .long ((zTa C rk (R * C) f fc br k) &&& (zS (zWi C f (min 6 re)) (R * C)))]) (ykc_48 (e := (0, .lconst kG1, 0)) rfl) rfl rfl ?_
          refine w_load (pc' := 104) (v := .int (zn f)) (m := 1) (ykc_48 (e := (2, .iload_n kF1, 0)) rfl) rfl rfl ?_
          refine w_alu (pc' := 105) (st' := [.long ((Int64.ofNat kG1) <<< ((zn f).toInt64 &&& 63)), .long ((zTa C rk (R * C) f fc br k) &&& (zS (zWi C f (min 6 re)) (R * C)))]) (ykc_48 (e := (0, .lshl, 0)) rfl) rfl rfl ?_
          refine w_alu (pc' := 106) (st' := [.long (((zTa C rk (R * C) f fc br k) &&& (zS (zWi C f (min 6 re)) (R * C))) ||| ((Int64.ofNat kG1) <<< ((zn f).toInt64 &&& 63)))]) (ykc_48 (e := (0, .lor, 0)) rfl) rfl rfl ?_
          refine w_ret (v := (some (.long (((zTa C rk (R * C) f fc br k) &&& (zS (zWi C f (min 6 re)) (R * C))) ||| ((Int64.ofNat kG1) <<< ((zn f).toInt64 &&& 63)))))) (ykc_48 (e := (7, .lreturn, 0)) rfl) (zr_v rfl) ?_
          have ek : k = 8 := by omega
          subst ek
          rw [hQ]
          refine ⟨hf1, ⟨y, hy, hcy⟩, ?_⟩
          rw [← zview (R := R) (C := C) (rk := rk) (f := f) (fc := fc) (br := br) (re := re) (by omega) hC7 hR7 hf rfl]
        · refine w_load (pc' := 41) (v := .int (zn k)) (m := 2) (ykc_48 (e := (2, .iload 7, 0)) rfl) rfl rfl ?_
          refine w_load (pc' := 42) (v := .int (zn fc)) (m := 1) (ykc_48 (e := (2, .iload_n kF2, 0)) rfl) rfl rfl ?_
          refine w_cs (as := [.int (zn k), .int (zn fc)]) (r := []) (ykc_48 (e := (6, .invokestatic 94, 0)) rfl) rfl rfl rfl rfl (zc_e8 (a := k) (b := fc) (by omega) (by omega)) (fun v616 ph617 hv => ?_)
          obtain ⟨rfl, rfl⟩ := hv
          have te := znt (k := ze8 k fc) (by unfold ze8; omega)
          show zW n D 48 Q 45 [some (.ref 5), some (.int (zn f)), some (.int (zn fc)), some (.int (zn br)), some (.int (zn re)), some (.long (zTa C rk (R * C) f fc br k)), none, some (.int (zn k))] [.int (zn (ze8 k fc))] ph1
          refine w_alu (pc' := 46) (st' := [.int (Int32.ofInt 4), .int (zn (ze8 k fc))]) (ykc_48 (e := (0, .iconst 4, 0)) rfl) rfl rfl ?_
          refine w_load (pc' := 47) (v := .int (zn br)) (m := 1) (ykc_48 (e := (2, .iload_n kF3, 0)) rfl) rfl rfl ?_
          obtain ⟨z618, e_z618, h_z618⟩ : ∃ zq : Int32, (Int32.ofInt 4) - (zn br) = zq ∧ zq.toInt = (4 : Int) - ((br : Nat) : Int) := ⟨_, rfl, (by have := ti_sub (x := (Int32.ofInt 4)) (y := (zn br)) (by omega) (by omega); omega)⟩
          refine w_alu (pc' := 48) (st' := [.int z618, .int (zn (ze8 k fc))]) (ykc_48 (e := (0, .isub, 0)) rfl) (by rw [← e_z618]; rfl) rfl ?_
          refine w_igt (ykc_48 (e := (4, .if_icmp .gt 20, 68)) rfl) rfl (fun b619 => ?_) (fun b619 => ?_)
          · have e620 : (zn k) + Int32.ofInt 1 = zn (k + 1) := (zaddN (a := k) (b := 1) (znt (by omega)) c_4 (by omega))
            have te620 := znt (k := k + 1) (by omega)
            refine w_store (pc' := 71) (L' := [some (.ref 5), some (.int (zn f)), some (.int (zn fc)), some (.int (zn br)), some (.int (zn re)), some (.long (zTa C rk (R * C) f fc br k)), none, some (.int (zn (k + 1)))]) (st' := []) (m := 3) (ykc_48 (e := (3, .iinc 7 1, 0)) rfl) (by rw [← e620]; rfl) rfl ?_
            refine w_gb (ykc_48 (e := (4, .goto (-39), 32)) rfl) (fun k621 hk621 => ?_)
            have et : zTa C rk (R * C) f fc br (k + 1) = zTa C rk (R * C) f fc br k := by
              show (if ze8 k fc + br ≤ 4 then _ else _) = _
              rw [if_neg (by omega)]
            have h9x := ih k621 hk621 (k + 1) (by omega)
            rw [et] at h9x
            exact h9x
          · refine w_load (pc' := 53) (v := .long (zTa C rk (R * C) f fc br k)) (m := 2) (ykc_48 (e := (2, .lload 5, 0)) rfl) rfl rfl ?_
            refine w_load (pc' := 54) (v := .ref 5) (m := 1) (ykc_48 (e := (2, .aload_n kF0, 0)) rfl) rfl rfl ?_
            refine w_gf (pc' := 57) (v := .ref 8) (ykc_48 (e := (5, .getfield 18, 0)) rfl) rfl ((hf1.1 5 7 (by decide) (by decide)).trans (zsg hS zs_5_7)) rfl ?_
            refine w_load (pc' := 58) (v := .int (zn f)) (m := 1) (ykc_48 (e := (2, .iload_n kF1, 0)) rfl) rfl rfl ?_
            refine w_push (pc' := 60) (v := .int ((Int8.ofInt 8).toInt32)) (m := 2) (ykc_48 (e := (1, .bipush 8, 0)) rfl) rfl rfl ?_
            have e622 : (zn f) * ((Int8.ofInt 8).toInt32) = zn (8 * f) := (zmulK (a := f) (b := 8) (znt (by omega)) c_2 (by omega))
            have te622 := znt (k := 8 * f) (by omega)
            refine w_alu (pc' := 61) (st' := [.int (zn (8 * f)), .ref 8, .long (zTa C rk (R * C) f fc br k)]) (ykc_48 (e := (0, .imul, 0)) rfl) (by show some ([.int ((zn f) * ((Int8.ofInt 8).toInt32)), .ref 8, .long (zTa C rk (R * C) f fc br k)] : List Value) = _; rw [e622]) rfl ?_
            refine w_load (pc' := 63) (v := .int (zn k)) (m := 2) (ykc_48 (e := (2, .iload 7, 0)) rfl) rfl rfl ?_
            have e623 : (zn (8 * f)) + (zn k) = zn (8 * f + k) := (zaddN (a := 8 * f) (b := k) (znt (by omega)) (znt (by omega)) (by omega)) 
            have te623 := znt (k := 8 * f + k) (by omega)
            refine w_alu (pc' := 64) (st' := [.int (zn (8 * f + k)), .ref 8, .long (zTa C rk (R * C) f fc br k)]) (ykc_48 (e := (0, .iadd, 0)) rfl) (by rw [← e623]; rfl) rfl ?_
            refine w_lalk (pc' := 65) (k := 8 * f + k) (ykc_48 (e := (5, .laload, 0)) rfl) (h8 k (by omega)) (by omega) rfl ?_
            refine w_alu (pc' := 66) (st' := [.long ((zTa C rk (R * C) f fc br k) ||| (zS (zTw C rk f k) (R * C)))]) (ykc_48 (e := (0, .lor, 0)) rfl) rfl rfl ?_
            refine w_store (pc' := 68) (L' := [some (.ref 5), some (.int (zn f)), some (.int (zn fc)), some (.int (zn br)), some (.int (zn re)), some (.long ((zTa C rk (R * C) f fc br k) ||| (zS (zTw C rk f k) (R * C)))), none, some (.int (zn k))]) (st' := []) (m := 2) (ykc_48 (e := (3, .lstore 5, 0)) rfl) rfl rfl ?_
            have e624 : (zn k) + Int32.ofInt 1 = zn (k + 1) := (zaddN (a := k) (b := 1) (znt (by omega)) c_4 (by omega))
            have te624 := znt (k := k + 1) (by omega)
            refine w_store (pc' := 71) (L' := [some (.ref 5), some (.int (zn f)), some (.int (zn fc)), some (.int (zn br)), some (.int (zn re)), some (.long ((zTa C rk (R * C) f fc br k) ||| (zS (zTw C rk f k) (R * C)))), none, some (.int (zn (k + 1)))]) (st' := []) (m := 3) (ykc_48 (e := (3, .iinc 7 1, 0)) rfl) (by rw [← e624]; rfl) rfl ?_
            refine w_gb (ykc_48 (e := (4, .goto (-39), 32)) rfl) (fun k625 hk625 => ?_)
            have et : zTa C rk (R * C) f fc br (k + 1) = (zTa C rk (R * C) f fc br k) ||| (zS (zTw C rk f k) (R * C)) := by
              show (if ze8 k fc + br ≤ 4 then _ else _) = _
              rw [if_pos (by omega)]
            have h9x := ih k625 hk625 (k + 1) (by omega)
            rw [et] at h9x
            exact h9x
    exact hl n 0 (Nat.zero_le _)
  refine w_load (pc' := 1) (v := .ref 5) (m := 1) (ykc_48 (e := (2, .aload_n kF0, 0)) rfl) rfl rfl ?_
  refine w_load (pc' := 2) (v := .int (zn f)) (m := 1) (ykc_48 (e := (2, .iload_n kF1, 0)) rfl) rfl rfl ?_
  refine w_cv (as := [.ref 5, .int (zn f)]) (r := []) (ykc_48 (e := (6, .invokevirtual 64, 0)) rfl) rfl rfl rfl rfl (zc_holds hS hL0 (f := (zn f))) (fun v626 ph627 hv => ?_)
  obtain ⟨rfl, rfl⟩ := hv
  show zW n D 48 Q 5 [some (.ref 5), some (.int (zn f)), some (.int (zn fc)), some (.int (zn br)), some (.int (zn re)), none, none, none] [.int (zI (decide (0 ≤ (zn f).toInt ∧ (zn f).toInt < ((R * C : Nat) : Int))))] ph
  refine w_bne (ykc_48 (e := (4, .ifCond .ne 5, 10)) rfl) rfl (fun b628 => ?_) (fun q => by have := of_decide_eq_false q; omega)
  refine w_load (pc' := 11) (v := .ref 5) (m := 1) (ykc_48 (e := (2, .aload_n kF0, 0)) rfl) rfl rfl ?_
  refine w_gf (pc' := 14) (v := .long x) (ykc_48 (e := (5, .getfield 57, 0)) rfl) rfl hx rfl ?_
  refine w_load (pc' := 15) (v := .int (zn f)) (m := 1) (ykc_48 (e := (2, .iload_n kF1, 0)) rfl) rfl rfl ?_
  refine w_cs (as := [.long x, .int (zn f)]) (r := []) (ykc_48 (e := (6, .invokestatic 68, 0)) rfl) rfl rfl rfl rfl (zc_has (kn := f) (by omega) (by omega)) (fun v629 ph630 hv => ?_)
  obtain ⟨rfl, rfl⟩ := hv
  show zW n D 48 Q 18 [some (.ref 5), some (.int (zn f)), some (.int (zn fc)), some (.int (zn br)), some (.int (zn re)), none, none, none] [.int (zI (zb x f))] ph
  refine w_bne (ykc_48 (e := (4, .ifCond .ne 8, 26)) rfl) rfl (fun b631 => ?_) (fun b631 => ?_)
  · exact hT n _ _ zFr_refl hx hcx b631
  · refine w_load (pc' := 22) (v := .ref 5) (m := 1) (ykc_48 (e := (2, .aload_n kF0, 0)) rfl) rfl rfl ?_
    refine w_load (pc' := 23) (v := .int (zn f)) (m := 1) (ykc_48 (e := (2, .iload_n kF1, 0)) rfl) rfl rfl ?_
    refine w_cv (as := [.ref 5, .int (zn f)]) (r := []) (ykc_48 (e := (6, .invokevirtual 90, 0)) rfl) rfl rfl rfl rfl (zc_survey hS hL0 (f := f) hf hx) (fun v632 ph633 hv => ?_)
    obtain ⟨rfl, fv, fv4, fv8, fv9, fo8, fo9⟩ := hv
    show zW n D 48 Q 26 [some (.ref 5), some (.int (zn f)), some (.int (zn fc)), some (.int (zn br)), some (.int (zn re)), none, none, none] [] ph633
    refine hT n _ _ fv fv4 (fun g hg hb => ?_) ?_
    · by_cases e : g = f
      · subst e
        exact ⟨fv8, fv9⟩
      · rw [zb_or, zL1, zb_bit (by omega) (by omega), decide_eq_false e, Bool.or_false] at hb
        exact ⟨fun w hw => (fo8 _ (by omega)).trans ((hcx g hg hb).1 w hw), fun d hd => (fo9 _ (by omega)).trans ((hcx g hg hb).2 d hd)⟩
    · rw [zb_or, zL1, zb_bit (by omega) (by omega), decide_eq_true rfl, Bool.or_true]
/-- how many bits -/
def zpn (b : Nat) : Nat := (zpc (zn b)).toInt.toNat
theorem zpn_s : ∀ k, k < 8 → ∀ b, b < 2 ^ k → zpn (b ||| 2 ^ k) = zpn b + 1 := by decide +kernel
theorem zpn_n : ∀ b, b < 256 → zpc (zn b) = zn (zpn b) ∧ zpn b ≤ 8 := by decide +kernel
def zcn (f : Nat → Bool) : Nat → Nat
  | 0 => 0
  | k + 1 => zcn f k + (bif f k then 1 else 0)
theorem zNs_2 {f : Nat → Bool} {n : Nat} : zNs f n < 2 ^ n := by
  induction n with
  | zero => exact (by decide : (0 : Nat) < 1)
  | succ n ih =>
    have h1 : zNs f n < 2 ^ (n + 1) := Nat.lt_trans ih (Nat.pow_lt_pow_right (by decide) (Nat.lt_succ_self n))
    have h2 : 2 ^ n < 2 ^ (n + 1) := Nat.pow_lt_pow_right (by decide) (Nat.lt_succ_self n)
    show zNs f n ||| _ < _
    cases f n with
    | true => exact Nat.or_lt_two_pow h1 h2
    | false => exact Nat.or_lt_two_pow h1 (Nat.lt_of_le_of_lt (Nat.zero_le _) h1)
theorem zpn_c {f : Nat → Bool} {n : Nat} (hn : n ≤ 8) : zpn (zNs f n) = zcn f n := by
  induction n with
  | zero => exact (by decide : zpn 0 = 0)
  | succ n ih =>
    show zpn (zNs f n ||| _) = zcn f n + _
    cases f n with
    | true => rw [cond_true, cond_true, zpn_s n (by omega) _ zNs_2, ih (by omega)]
    | false => rw [cond_false, cond_false, Nat.or_zero, ih (by omega), Nat.add_zero]
theorem zpc_T {f : Nat → Bool} {n : Nat} (hn : n ≤ 8) : zpc (zT f n) = zn (zcn f n) := by
  rw [zT_N hn, (zpn_n _ (zNs_lt hn)).1, zpn_c hn]
theorem zcn_t {v : Nat → Nat} {f n : Nat} : zcn (fun q => decide (v q = f)) n = zct v f n := by
  induction n with
  | zero => rfl
  | succ n ih =>
    show zcn _ n + (bif decide (v n = f) then 1 else 0) = zct v f n + (if v n = f then 1 else 0)
    rw [ih]
    by_cases e : v n = f
    · rw [decide_eq_true e, if_pos e]; rfl
    · rw [decide_eq_false e, if_neg e]; rfl
theorem zpon_1 {P : Nat} {v : Nat → Nat} {f : Nat} (hP : P ≤ 8) (hf : f < 64) (hv : ∀ q, q < P → v q < 64) : zpc (zPon P v (Int64.ofNat kG1 <<< ((zn f).toInt64 &&& 63))) = zn (zct v f P) := by
  unfold zPon
  rw [zT_ext (g := fun q => decide (v q = f)) (fun q hq => by show zb _ (v q) = _; rw [zL1, zb_bit hf (hv q hq)]), zpc_T hP, zcn_t]
/-- the class's light; all that a look wants -/
def zCi (ph : pm_H) (sn : Nat) (sk : Nat → Nat) : Prop := zc ph 10 4 = some (.int (zn sn)) ∧ 1 ≤ sn ∧ sn ≤ 20 ∧ ∀ i, i < sn → zc ph 21 i = some (.int (zn (sk i))) ∧ sk i ≤ 9
def zCe (ph : pm_H) (E : zEn) (F : Nat) : Prop := zCl ph E.1 E.2.1 E.2.2.1 ∧ zCi ph E.2.2.2.1 E.2.2.2.2.1 ∧ zFm ph F E.2.2.2.2.2.1 E.2.2.2.2.2.2 ∧ (F = 11 ∨ F = 16)
theorem zCi_F {A : List Nat} {F : List (Nat × Nat)} {p q : pm_H} {sn : Nat} {sk : Nat → Nat} (f : zFr A F p q) (h1 : 10 ∉ A ∧ 21 ∉ A) (h2 : (10, 4) ∉ F ∧ ∀ i, (21, i) ∉ F) (h : zCi p sn sk) : zCi q sn sk := ⟨(f.1 _ _ h1.1 h2.1).trans h.1, h.2.1, h.2.2.1, fun i hi => ⟨(f.1 _ _ h1.2 (h2.2 i)).trans (h.2.2.2 i hi).1, (h.2.2.2 i hi).2⟩⟩
theorem zFm_F {A : List Nat} {F : List (Nat × Nat)} {p q : pm_H} {G k : Nat} {c : Nat → Nat} (f : zFr A F p q) (h1 : G ∉ A ∧ G + 1 ∉ A) (h2 : ∀ i, (G, i) ∉ F ∧ (G + 1, i) ∉ F) (h : zFm p G k c) : zFm q G k c := ⟨(f.1 _ _ h1.1 (h2 0).1).trans h.1, (f.1 _ _ h1.1 (h2 8).1).trans h.2.1, (f.1 _ _ h1.1 (h2 1).1).trans h.2.2.1, h.2.2.2.1, h.2.2.2.2.1, fun i hi => (f.1 _ _ h1.2 (h2 i).2).trans (h.2.2.2.2.2.1 i hi), h.2.2.2.2.2.2⟩
theorem zCx_e {p q : pm_H} {E : zEn} {G : Nat} (f : zCx p q) (h : zCe p E G) : zCe q E G := by
  refine ⟨zCx_l f h.1, zCi_F f (by simp) (by simp) h.2.1, ?_, h.2.2.2⟩
  rcases h.2.2.2 with e | e
  · subst e; exact zFm_F f (by simp) (by simp) h.2.2.1
  · subst e; exact zFm_F f (by simp) (by simp) h.2.2.1
theorem zSs_F {A : List Nat} {F : List (Nat × Nat)} {p q : pm_H} {S : Nat} (f : zFr A F p q) (h1 : S ∉ A) (h2 : ∀ i, (S, i) ∉ F) (h : zSs p S) : zSs q S := ⟨(f.1 _ _ h1 (h2 3)).trans h.1, (f.1 _ _ h1 (h2 4)).trans h.2.1, (f.1 _ _ h1 (h2 5)).trans h.2.2.1, (f.1 _ _ h1 (h2 6)).trans h.2.2.2.1, (f.1 _ _ h1 (h2 7)).trans h.2.2.2.2.1, (f.2 _).trans h.2.2.2.2.2.1, (f.2 _).trans h.2.2.2.2.2.2.1, (f.2 _).trans h.2.2.2.2.2.2.2.1, (f.2 _).trans h.2.2.2.2.2.2.2.2.1, (f.2 _).trans h.2.2.2.2.2.2.2.2.2⟩
theorem zSd_F {A : List Nat} {F : List (Nat × Nat)} {p q : pm_H} {S P G : Nat} {v : Nat → Nat} (f : zFr A F p q) (h1 : ∀ i, i < 6 → S + i ∉ A) (h2 : ∀ j i, j < 6 → (S + j, i) ∉ F) (h : zSd p S P G v) : zSd q S P G v := ⟨(f.1 _ _ (h1 0 (by decide)) (h2 0 0 (by decide))).trans h.1, h.2.1, (f.1 _ _ (h1 0 (by decide)) (h2 0 1 (by decide))).trans h.2.2.1, h.2.2.2.1, (f.1 _ _ (h1 0 (by decide)) (h2 0 2 (by decide))).trans h.2.2.2.2.1, fun i hi => ⟨(f.1 _ _ (h1 1 (by decide)) (h2 1 i (by decide))).trans (h.2.2.2.2.2.1 i hi).1, (f.1 _ _ (h1 2 (by decide)) (h2 2 i (by decide))).trans (h.2.2.2.2.2.1 i hi).2.1, (f.1 _ _ (h1 3 (by decide)) (h2 3 i (by decide))).trans (h.2.2.2.2.2.1 i hi).2.2.1, (f.1 _ _ (h1 4 (by decide)) (h2 4 i (by decide))).trans (h.2.2.2.2.2.1 i hi).2.2.2⟩, fun i hi => (f.1 _ _ (h1 5 (by decide)) (h2 5 i (by decide))).trans (h.2.2.2.2.2.2 i hi)⟩
theorem zCx_s {p q : pm_H} {S : Nat} (hS : 25 ≤ S) (f : zCx p q) (h : zSs p S) : zSs q S := zSs_F f (by simp <;> omega) (by simp <;> omega) h
theorem zCx_d {p q : pm_H} {S P G : Nat} {v : Nat → Nat} (hS : 25 ≤ S) (f : zCx p q) (h : zSd p S P G v) : zSd q S P G v := zSd_F f (by intro i hi; simp <;> omega) (by intro j i hj; simp <;> omega) h
/-- a State that a look wants -/
def zCt (ph : pm_H) (S P G : Nat) (v : Nat → Nat) : Prop := (25 ≤ S ∧ zSs ph S) ∧ zSd ph S P G v
theorem zCx_t {p q : pm_H} {S P G : Nat} {v : Nat → Nat} (f : zCx p q) (h : zCt p S P G v) : zCt q S P G v := ⟨⟨h.1.1, zCx_s h.1.1 f h.1.2⟩, zCx_d h.1.1 f h.2⟩
theorem zc_rowOf {ph : pm_H} {R C : Nat} {rk : Nat → Bool} (hS : zSh ph) (hL : zCl ph R C rk) {f : Nat} (hf : f < R * C) : zM 42 [.ref 5, .int (zn f)] ph (fun v q => ph = q ∧ v = some (.int (zn (f / C)))) := by
  obtain ⟨Q, hQ⟩ : ∃ Q : Option Value → pm_H → Prop, Q = (fun v q => ph = q ∧ v = some (.int (zn (f / C)))) := ⟨_, rfl⟩
  rw [← hQ]
  refine zM_mk fun n D => ?_
  show zW n D 42 Q 0 [some (.ref 5), some (.int (zn f))] [] ph
  have c_0 : (Int32.ofInt (-1)).toInt = -1 := by decide
  have hL0 := hL
  obtain ⟨gR, gC, gN, gK, gA, hR3, hR7, hC3, hC7⟩ := hL
  have hRC := zRC49 hR7 hC7
  have tR := znt (k := R) (by omega)
  have tC := znt (k := C) (by omega)
  have tRC := znt (k := R * C) (by omega)
  have tf := znt (k := f) (by omega)
  refine w_load (pc' := 1) (v := .ref 5) (m := 1) (ykc_42 (e := (2, .aload_n kF0, 0)) rfl) rfl rfl ?_
  refine w_load (pc' := 2) (v := .int (zn f)) (m := 1) (ykc_42 (e := (2, .iload_n kF1, 0)) rfl) rfl rfl ?_
  refine w_cv (as := [.ref 5, .int (zn f)]) (r := []) (ykc_42 (e := (6, .invokevirtual 64, 0)) rfl) rfl rfl rfl rfl (zc_holds hS hL0 (f := (zn f))) (fun v634 ph635 hv => ?_)
  obtain ⟨rfl, rfl⟩ := hv
  show zW n D 42 Q 5 [some (.ref 5), some (.int (zn f))] [.int (zI (decide (0 ≤ (zn f).toInt ∧ (zn f).toInt < ((R * C : Nat) : Int))))] ph
  refine w_beq (ykc_42 (e := (4, .ifCond .eq 12, 17)) rfl) rfl (fun q => by have := of_decide_eq_false q; omega) (fun b636 => ?_)
  refine w_load (pc' := 9) (v := .ref 5) (m := 1) (ykc_42 (e := (2, .aload_n kF0, 0)) rfl) rfl rfl ?_
  refine w_gf (pc' := 12) (v := .ref 6) (ykc_42 (e := (5, .getfield 9, 0)) rfl) rfl (zsg hS zs_5_5) rfl ?_
  refine w_load (pc' := 13) (v := .int (zn f)) (m := 1) (ykc_42 (e := (2, .iload_n kF1, 0)) rfl) rfl rfl ?_
  have q637 : f / C < R := (Nat.div_lt_iff_lt_mul (by omega)).mpr (show f < R * C by omega)
  have zq637 := Nat.zero_le (f / C)
  have tq637 := znt (k := f / C) (by omega)
  refine w_ialk (pc' := 14) (k := f) (ykc_42 (e := (5, .iaload, 0)) rfl) (gA f (by omega)).1 (by omega) rfl ?_
  refine w_br (pc' := 18) (st' := [.int (zn (f / C))]) (ykc_42 (e := (4, .goto 4, 18)) rfl) rfl ?_
  refine w_ret (v := (some (.int (zn (f / C))))) (ykc_42 (e := (7, .ireturn, 0)) rfl) (zr_v rfl) ?_
  rw [hQ]
  exact ⟨rfl, rfl⟩
theorem zc_colOf {ph : pm_H} {R C : Nat} {rk : Nat → Bool} (hS : zSh ph) (hL : zCl ph R C rk) {f : Nat} (hf : f < R * C) : zM 43 [.ref 5, .int (zn f)] ph (fun v q => ph = q ∧ v = some (.int (zn (f % C)))) := by
  obtain ⟨Q, hQ⟩ : ∃ Q : Option Value → pm_H → Prop, Q = (fun v q => ph = q ∧ v = some (.int (zn (f % C)))) := ⟨_, rfl⟩
  rw [← hQ]
  refine zM_mk fun n D => ?_
  show zW n D 43 Q 0 [some (.ref 5), some (.int (zn f))] [] ph
  have c_0 : (Int32.ofInt (-1)).toInt = -1 := by decide
  have hL0 := hL
  obtain ⟨gR, gC, gN, gK, gA, hR3, hR7, hC3, hC7⟩ := hL
  have hRC := zRC49 hR7 hC7
  have tR := znt (k := R) (by omega)
  have tC := znt (k := C) (by omega)
  have tRC := znt (k := R * C) (by omega)
  have tf := znt (k := f) (by omega)
  refine w_load (pc' := 1) (v := .ref 5) (m := 1) (ykc_43 (e := (2, .aload_n kF0, 0)) rfl) rfl rfl ?_
  refine w_load (pc' := 2) (v := .int (zn f)) (m := 1) (ykc_43 (e := (2, .iload_n kF1, 0)) rfl) rfl rfl ?_
  refine w_cv (as := [.ref 5, .int (zn f)]) (r := []) (ykc_43 (e := (6, .invokevirtual 64, 0)) rfl) rfl rfl rfl rfl (zc_holds hS hL0 (f := (zn f))) (fun v638 ph639 hv => ?_)
  obtain ⟨rfl, rfl⟩ := hv
  show zW n D 43 Q 5 [some (.ref 5), some (.int (zn f))] [.int (zI (decide (0 ≤ (zn f).toInt ∧ (zn f).toInt < ((R * C : Nat) : Int))))] ph
  refine w_beq (ykc_43 (e := (4, .ifCond .eq 12, 17)) rfl) rfl (fun q => by have := of_decide_eq_false q; omega) (fun b640 => ?_)
  refine w_load (pc' := 9) (v := .ref 5) (m := 1) (ykc_43 (e := (2, .aload_n kF0, 0)) rfl) rfl rfl ?_
  refine w_gf (pc' := 12) (v := .ref 7) (ykc_43 (e := (5, .getfield 15, 0)) rfl) rfl (zsg hS zs_5_6) rfl ?_
  refine w_load (pc' := 13) (v := .int (zn f)) (m := 1) (ykc_43 (e := (2, .iload_n kF1, 0)) rfl) rfl rfl ?_
  have q641 := Nat.mod_lt (f) (show 0 < C by omega)
  have zq641 := Nat.zero_le (f % C)
  have tq641 := znt (k := f % C) (by omega)
  refine w_ialk (pc' := 14) (k := f) (ykc_43 (e := (5, .iaload, 0)) rfl) (gA f (by omega)).2 (by omega) rfl ?_
  refine w_br (pc' := 18) (st' := [.int (zn (f % C))]) (ykc_43 (e := (4, .goto 4, 18)) rfl) rfl ?_
  refine w_ret (v := (some (.int (zn (f % C))))) (ykc_43 (e := (7, .ireturn, 0)) rfl) (zr_v rfl) ?_
  rw [hQ]
  exact ⟨rfl, rfl⟩
theorem zc_light {ph : pm_H} (hS : zSh ph) {sn h : Nat} {sk : Nat → Nat} (hi : zCi ph sn sk) (hh : h < 2147483648) : zM 76 [.ref 10, .int (zn h)] ph (fun v q => ph = q ∧ v = some (.int (zn (sk (h % sn))))) := by
  obtain ⟨Q, hQ⟩ : ∃ Q : Option Value → pm_H → Prop, Q = (fun v q => ph = q ∧ v = some (.int (zn (sk (h % sn))))) := ⟨_, rfl⟩
  rw [← hQ]
  refine zM_mk fun n D => ?_
  show zW n D 76 Q 0 [some (.ref 10), some (.int (zn h))] [] ph
  have c_0 : ((Int8.ofInt 20).toInt32).toInt = 20 := by decide
  have c_1 : (Int32.ofInt 0).toInt = 0 := by decide
  have c_2 : (Int32.ofInt 1).toInt = 1 := by decide
  obtain ⟨gs, hs1, hs20, gk⟩ := hi
  have ts := znt (k := sn) (by omega)
  have th := znt hh
  have hm := Nat.mod_lt h (show 0 < sn by omega)
  refine w_load (pc' := 1) (v := .ref 10) (m := 1) (ykc_76 (e := (2, .aload_n kF0, 0)) rfl) rfl rfl ?_
  refine w_gf (pc' := 4) (v := .int (zn sn)) (ykc_76 (e := (5, .getfield 29, 0)) rfl) rfl gs rfl ?_
  refine w_alu (pc' := 5) (st' := [.int (Int32.ofInt 1), .int (zn sn)]) (ykc_76 (e := (0, .iconst 1, 0)) rfl) rfl rfl ?_
  refine w_ilt (ykc_76 (e := (4, .if_icmp .lt 16, 21)) rfl) rfl (fun q => by exfalso; omega) (fun b642 => ?_)
  refine w_load (pc' := 9) (v := .ref 10) (m := 1) (ykc_76 (e := (2, .aload_n kF0, 0)) rfl) rfl rfl ?_
  refine w_gf (pc' := 12) (v := .int (zn sn)) (ykc_76 (e := (5, .getfield 29, 0)) rfl) rfl gs rfl ?_
  refine w_push (pc' := 14) (v := .int ((Int8.ofInt 20).toInt32)) (m := 2) (ykc_76 (e := (1, .bipush 20, 0)) rfl) rfl rfl ?_
  refine w_igt (ykc_76 (e := (4, .if_icmp .gt 7, 21)) rfl) rfl (fun q => by exfalso; omega) (fun b643 => ?_)
  refine w_load (pc' := 18) (v := .int (zn h)) (m := 1) (ykc_76 (e := (2, .iload_n kF1, 0)) rfl) rfl rfl ?_
  refine w_zge (ykc_76 (e := (4, .ifCond .ge 5, 23)) rfl) rfl (fun b644 => ?_) (fun q => by exfalso; omega)
  refine w_load (pc' := 24) (v := .ref 10) (m := 1) (ykc_76 (e := (2, .aload_n kF0, 0)) rfl) rfl rfl ?_
  refine w_gf (pc' := 27) (v := .ref 21) (ykc_76 (e := (5, .getfield 25, 0)) rfl) rfl (zsg hS zs_10_3) rfl ?_
  refine w_load (pc' := 28) (v := .int (zn h)) (m := 1) (ykc_76 (e := (2, .iload_n kF1, 0)) rfl) rfl rfl ?_
  refine w_load (pc' := 29) (v := .ref 10) (m := 1) (ykc_76 (e := (2, .aload_n kF0, 0)) rfl) rfl rfl ?_
  refine w_gf (pc' := 32) (v := .int (zn sn)) (ykc_76 (e := (5, .getfield 29, 0)) rfl) rfl gs rfl ?_
  refine w_irem (pc' := 33) (ykc_76 (e := (0, .irem, 0)) rfl) rfl (fun d645 => ?_)
  have e646 : (zn h) - (zn h) / (zn sn) * (zn sn) = zn (h % sn) := zn_of (zremN (by omega) (by omega) (by omega))
  have te646 := znt (k := h % sn) (by omega)
  rw [e646]
  show zW n D 76 Q 33 [some (.ref 10), some (.int (zn h))] [.int (zn (h % sn)), .ref 21] ph
  refine w_ialk (pc' := 34) (k := h % sn) (ykc_76 (e := (5, .iaload, 0)) rfl) (gk (h % sn) (by omega)).1 (by omega) rfl ?_
  refine w_ret (v := (some (.int (zn (sk (h % sn)))))) (ykc_76 (e := (7, .ireturn, 0)) rfl) (zr_v rfl) ?_
  rw [hQ]
  exact ⟨rfl, rfl⟩
