/-! the class: views and their rows, by W; printed by wip/z/z_k_cview.py -/
/-- rows and columns from f to g -/
def zgr (C f g : Nat) : Int := ((g / C : Nat) : Int) - (f / C : Nat)
def zgc (C f g : Nat) : Int := ((g % C : Nat) : Int) - (f % C : Nat)
def zds (C f g : Nat) : Nat := max (zgr C f g).natAbs (zgc C f g).natAbs
def zTw (C : Nat) (rk : Nat → Bool) (f w : Nat) (g : Nat) : Bool := !decide (g = f) && (zclr C rk f g 7 && decide (zway (zgr C f g) (zgc C f g) = w))
def zWi (C f d : Nat) (g : Nat) : Bool := !decide (g = f) && decide (zds C f g ≤ d)
/-- the rows kept of the FIELDS that were surveyed -/
def zCc (ph : pm_H) (R C : Nat) (rk : Nat → Bool) : Prop := ∃ x, zc ph 5 4 = some (.long x) ∧ ∀ f, f < R * C → zb x f = true → (∀ w, w < 8 → zc ph 8 (8 * f + w) = some (.long (zS (zTw C rk f w) (R * C)))) ∧ ∀ d, d < 7 → zc ph 9 (7 * f + d) = some (.long (zS (zWi C f d) (R * C)))
theorem zstp_e {a b i : Nat} : zstp a b i = b ↔ ((b : Int) - a).natAbs ≤ i := by
  unfold zstp
  split <;> omega
theorem zpos_e {C f g i : Nat} (hC : 0 < C) : zpos C f g i = g ↔ zds C f g ≤ i := by
  have h6 : zstp (f % C) (g % C) i < C := zstp_lt (Nat.mod_lt f hC) (Nat.mod_lt g hC)
  unfold zpos
  rw [zC_eq hC h6, zstp_e, zstp_e]
  unfold zds zgr zgc
  omega
theorem zclr_f {C : Nat} {rk : Nat → Bool} {a g i : Nat} (h : zclr C rk a g i = false) (k : Nat) : zclr C rk a g (i + k) = false := by
  induction k with
  | zero => exact h
  | succ k ih =>
    show (zclr C rk a g (i + k) && _) = false
    rw [ih]
    rfl
theorem zds_6 {R C f g : Nat} (hC : 0 < C) (hC7 : C ≤ 7) (hR7 : R ≤ 7) (hf : f < R * C) (hg : g < R * C) : zds C f g ≤ 6 := (zpos_e hC).mp (zpos_f hC hC7 hR7 hf hg (Nat.le_refl 6))
theorem zds_1 {C f g : Nat} (hC : 0 < C) (h : f ≠ g) : 1 ≤ zds C f g := by
  apply Nat.lt_of_not_le
  intro h2
  have h3 := (zpos_e (i := 0) hC).mpr (by omega)
  unfold zpos at h3
  rw [zstp_0, zstp_0, Nat.div_add_mod] at h3
  exact h h3
theorem zmulK {x y : Int32} {a b : Nat} (hx : x.toInt = (a : Int)) (hy : y.toInt = (b : Int)) (h : b * a < 2147483648) : x * y = zn (b * a) := zn_of (by
  have e : x.toInt * y.toInt = ((b * a : Nat) : Int) := by rw [hx, hy, Nat.mul_comm]; rfl
  rw [ti_mul (by rw [e]; omega) (by rw [e]; omega), e])
/-- scratch of the class -/
def zCx (p q : pm_H) : Prop := zFr [8, 9, 15, 20, 22, 23, 24] [(5, 4)] p q
theorem zCl_F {A : List Nat} {F : List (Nat × Nat)} {p q : pm_H} {R C : Nat} {rk : Nat → Bool} (f : zFr A F p q) (h1 : 5 ∉ A ∧ 6 ∉ A ∧ 7 ∉ A) (h2 : ∀ i, i < 4 → (5, i) ∉ F) (h3 : ∀ i, (6, i) ∉ F ∧ (7, i) ∉ F) (h : zCl p R C rk) : zCl q R C rk := ⟨(f.1 _ _ h1.1 (h2 0 (by decide))).trans h.1, (f.1 _ _ h1.1 (h2 1 (by decide))).trans h.2.1, (f.1 _ _ h1.1 (h2 2 (by decide))).trans h.2.2.1, (f.1 _ _ h1.1 (h2 3 (by decide))).trans h.2.2.2.1, fun i hi => ⟨(f.1 _ _ h1.2.1 (h3 i).1).trans (h.2.2.2.2.1 i hi).1, (f.1 _ _ h1.2.2 (h3 i).2).trans (h.2.2.2.2.1 i hi).2⟩, h.2.2.2.2.2⟩
theorem zCy_l {p q : pm_H} {R C : Nat} {rk : Nat → Bool} (f : zFr [8, 9] [(5, 4)] p q) (h : zCl p R C rk) : zCl q R C rk := zCl_F f (by first | exact ⟨zqm rfl, zqm rfl, zqm rfl⟩ | simp) (by intro i hi; simp <;> omega) (by simp) h
theorem zCy_S {p q : pm_H} (f : zFr [8, 9] [(5, 4)] p q) (h : zSh p) : zSh q := zSh_F f (by decide +kernel) h
theorem zCx_l {p q : pm_H} {R C : Nat} {rk : Nat → Bool} (f : zCx p q) (h : zCl p R C rk) : zCl q R C rk := zCl_F f (by first | exact ⟨zqm rfl, zqm rfl, zqm rfl⟩ | simp) (by intro i hi; simp <;> omega) (by simp) h
theorem zCx_S {p q : pm_H} (f : zCx p q) (h : zSh p) : zSh q := zSh_F f (by decide +kernel) h
theorem zc_clear {ph : pm_H} {R C : Nat} {rk : Nat → Bool} (hS : zSh ph) (hL : zCl ph R C rk) {f g : Nat} {dx dy : Int32} (hf : f < R * C) (hg : g < R * C) (hne : f ≠ g) (hdx : dx.toInt = zgr C f g) (hdy : dy.toInt = zgc C f g) : zM 50 [.ref 5, .int (zn f), .int dx, .int dy] ph (fun v q => ph = q ∧ v = some (.int (zI (zclr C rk f g 7)))) := by
  obtain ⟨Q, hQ⟩ : ∃ Q : Option Value → pm_H → Prop, Q = (fun v q => ph = q ∧ v = some (.int (zI (zclr C rk f g 7)))) := ⟨_, rfl⟩
  rw [← hQ]
  refine zM_mk fun n D => ?_
  show zW n D 50 Q 0 [some (.ref 5), some (.int (zn f)), some (.int dx), some (.int dy), none, none, none, none] [] ph
  have c_0 : (Int32.ofInt 0).toInt = 0 := by decide +kernel
  have c_1 : (Int32.ofInt 1).toInt = 1 := by decide +kernel
  obtain ⟨gR, gC, gN, gK, gA, hR3, hR7, hC3, hC7⟩ := hL
  have hRC := zRC49 hR7 hC7
  have tR := znt (k := R) (by omega)
  have tC := znt (k := C) (by omega)
  have tRC := znt (k := R * C) (by omega)
  have tf := znt (k := f) (by omega)
  have f1 : f / C < R := (Nat.div_lt_iff_lt_mul (by omega)).mpr hf
  have f2 := Nat.mod_lt f (show 0 < C by omega)
  have p1 := Nat.zero_le (f / C)
  have p3 := Nat.zero_le (f % C)
  have g1 : g / C < R := (Nat.div_lt_iff_lt_mul (by omega)).mpr hg
  have g2 := Nat.mod_lt g (show 0 < C by omega)
  have p2 := Nat.zero_le (g / C)
  have p4 := Nat.zero_le (g % C)
  have er : zgr C f g = ((g / C : Nat) : Int) - (f / C : Nat) := rfl
  have ec : zgc C f g = ((g % C : Nat) : Int) - (f % C : Nat) := rfl
  have eds : zds C f g = max (zgr C f g).natAbs (zgc C f g).natAbs := rfl
  have hd6 := zds_6 (by omega) hC7 hR7 hf hg
  have hd1 := zds_1 (C := C) (by omega) hne
  have er2 : zgr C f g = ((g / C : Nat) : Int) - (f / C : Nat) := rfl
  have ec2 : zgc C f g = ((g % C : Nat) : Int) - (f % C : Nat) := rfl
  refine w_load (pc' := 1) (v := .int dx) (m := 1) (ykc_50 (e := (2, .iload_n kF2, 0)) rfl) rfl rfl ?_
  obtain ⟨z527, e_z527⟩ : ∃ zq : Int32, (if 0 ≤ dx then dx else 0 - dx) = zq := ⟨_, rfl⟩
  have h_z527 := zabsI e_z527
  refine w_mem1 (pc' := 4) (m := 3) (st' := [.int z527]) (ph' := ph) (ykc_50 (e := (5, .invokestatic 100, 0)) rfl) (by rw [← e_z527]; rfl) rfl ?_
  refine w_load (pc' := 5) (v := .int dy) (m := 1) (ykc_50 (e := (2, .iload_n kF3, 0)) rfl) rfl rfl ?_
  obtain ⟨z528, e_z528⟩ : ∃ zq : Int32, (if 0 ≤ dy then dy else 0 - dy) = zq := ⟨_, rfl⟩
  have h_z528 := zabsI e_z528
  refine w_mem1 (pc' := 8) (m := 3) (st' := [.int z528, .int z527]) (ph' := ph) (ykc_50 (e := (5, .invokestatic 100, 0)) rfl) (by rw [← e_z528]; rfl) rfl ?_
  obtain ⟨z529, e_z529⟩ : ∃ zq : Int32, (if z527 < z528 then z528 else z527) = zq := ⟨_, rfl⟩
  have h_z529 := zmaxI e_z529
  refine w_mem1 (pc' := 11) (m := 3) (st' := [.int z529]) (ph' := ph) (ykc_50 (e := (5, .invokestatic 97, 0)) rfl) (by rw [← e_z529]; rfl) rfl ?_
  refine w_store (pc' := 13) (L' := [some (.ref 5), some (.int (zn f)), some (.int dx), some (.int dy), some (.int z529), none, none, none]) (st' := []) (m := 2) (ykc_50 (e := (3, .istore 4, 0)) rfl) rfl rfl ?_
  refine w_alu (pc' := 14) (st' := [.int (Int32.ofInt 1)]) (ykc_50 (e := (0, .iconst 1, 0)) rfl) rfl rfl ?_
  refine w_store (pc' := 16) (L' := [some (.ref 5), some (.int (zn f)), some (.int dx), some (.int dy), some (.int z529), some (.int (Int32.ofInt 1)), none, none]) (st' := []) (m := 2) (ykc_50 (e := (3, .istore 5, 0)) rfl) rfl rfl ?_
  have tfar : z529.toInt = ((zds C f g : Nat) : Int) := by omega
  clear eds er ec h_z527 h_z528 h_z529
  have hl : ∀ (n : Nat), ∀ (m : Nat) (x6 x7 : Option Value), (m + 1 ≤ zds C f g) → (zclr C rk f g m = true) → zW n D 50 Q 16 [some (.ref 5), some (.int (zn f)), some (.int dx), some (.int dy), some (.int z529), some (.int (zn (m + 1))), x6, x7] [] ph := by
    intro n
    induction n using Nat.strongRecOn with
    | ind n ih =>
      intro m x6 x7 hm hc
      have tm := znt (k := m + 1) (by omega)
      have s3 := zstp_lt (i := m + 1) f1 g1
      have s4 := zstp_lt (i := m + 1) f2 g2
      refine w_load (pc' := 18) (v := .int (zn (m + 1))) (m := 2) (ykc_50 (e := (2, .iload 5, 0)) rfl) rfl rfl ?_
      refine w_load (pc' := 20) (v := .int z529) (m := 2) (ykc_50 (e := (2, .iload 4, 0)) rfl) rfl rfl ?_
      refine w_ige (ykc_50 (e := (4, .if_icmp .ge 75, 95)) rfl) rfl (fun b530 => ?_) (fun b530 => ?_)
      · refine w_alu (pc' := 96) (st' := [.int (Int32.ofInt 1)]) (ykc_50 (e := (0, .iconst 1, 0)) rfl) rfl rfl ?_
        refine w_ret (v := (some (.int (Int32.ofInt 1)))) (ykc_50 (e := (7, .ireturn, 0)) rfl) zr_z ?_
        have hm2 : zds C f g = m + 1 := by omega
        have hp := (zpos_e (C := C) (f := f) (g := g) (i := m + 1) (show 0 < C by omega)).mpr (by omega)
        have h1 : zclr C rk f g (m + 1) = true := by
          show (zclr C rk f g m && (decide (zpos C f g (m + 1) = g) || !rk (zpos C f g (m + 1)))) = true
          rw [hc, hp]
          simp
        have h2 := (zclr_e (rk := rk) (show 0 < C by omega) hp (7 - (m + 1))).1
        rw [show m + 1 + (7 - (m + 1)) = 7 by omega, h1] at h2
        rw [hQ, zi1]
        exact ⟨rfl, zvB h2.symm⟩
      · refine w_load (pc' := 24) (v := .ref 5) (m := 1) (ykc_50 (e := (2, .aload_n kF0, 0)) rfl) rfl rfl ?_
        refine w_gf (pc' := 27) (v := .ref 6) (ykc_50 (e := (5, .getfield 9, 0)) rfl) rfl (zsg hS zs_5_5) rfl ?_
        refine w_load (pc' := 28) (v := .int (zn f)) (m := 1) (ykc_50 (e := (2, .iload_n kF1, 0)) rfl) rfl rfl ?_
        have q531 : f / C < R := (Nat.div_lt_iff_lt_mul (by omega)).mpr (show f < R * C by omega)
        have zq531 := Nat.zero_le (f / C)
        have tq531 := znt (k := f / C) (by omega)
        refine w_ialk (pc' := 29) (k := f) (ykc_50 (e := (5, .iaload, 0)) rfl) (gA f (by omega)).1 (by omega) rfl ?_
        refine w_load (pc' := 31) (v := .int (zn (m + 1))) (m := 2) (ykc_50 (e := (2, .iload 5, 0)) rfl) rfl rfl ?_
        obtain ⟨z532, e_z532, h_z532⟩ : ∃ zq : Int32, -(zn (m + 1)) = zq ∧ zq.toInt = -((m + 1 : Nat) : Int) := ⟨_, rfl, (zneg_t tm (by omega) (by omega))⟩
        refine w_alu (pc' := 32) (st' := [.int z532, .int (zn (f / C))]) (ykc_50 (e := (0, .ineg, 0)) rfl) (by rw [← e_z532]; rfl) rfl ?_
        refine w_load (pc' := 34) (v := .int (zn (m + 1))) (m := 2) (ykc_50 (e := (2, .iload 5, 0)) rfl) rfl rfl ?_
        refine w_load (pc' := 35) (v := .int dx) (m := 1) (ykc_50 (e := (2, .iload_n kF2, 0)) rfl) rfl rfl ?_
        obtain ⟨z533, e_z533⟩ : ∃ zq : Int32, (if dx < (zn (m + 1)) then dx else (zn (m + 1))) = zq := ⟨_, rfl⟩
        have h_z533 := zminI e_z533
        refine w_mem1 (pc' := 38) (m := 3) (st' := [.int z533, .int z532, .int (zn (f / C))]) (ph' := ph) (ykc_50 (e := (5, .invokestatic 85, 0)) rfl) (by rw [← e_z533]; rfl) rfl ?_
        obtain ⟨z534, e_z534⟩ : ∃ zq : Int32, (if z532 < z533 then z533 else z532) = zq := ⟨_, rfl⟩
        have h_z534 := zmaxI e_z534
        refine w_mem1 (pc' := 41) (m := 3) (st' := [.int z534, .int (zn (f / C))]) (ph' := ph) (ykc_50 (e := (5, .invokestatic 97, 0)) rfl) (by rw [← e_z534]; rfl) rfl ?_
        have e535 : (zn (f / C)) + z534 = zn (zstp (f / C) (g / C) (m + 1)) := zn_of (by have := ti_add (x := (zn (f / C))) (y := z534) (by omega) (by omega); rw [this]; unfold zstp; split <;> omega)
        have te535 := znt (k := zstp (f / C) (g / C) (m + 1)) (by omega)
        refine w_alu (pc' := 42) (st' := [.int (zn (zstp (f / C) (g / C) (m + 1)))]) (ykc_50 (e := (0, .iadd, 0)) rfl) (by rw [← e535]; rfl) rfl ?_
        refine w_store (pc' := 44) (L' := [some (.ref 5), some (.int (zn f)), some (.int dx), some (.int dy), some (.int z529), some (.int (zn (m + 1))), some (.int (zn (zstp (f / C) (g / C) (m + 1)))), x7]) (st' := []) (m := 2) (ykc_50 (e := (3, .istore 6, 0)) rfl) rfl rfl ?_
        refine w_load (pc' := 45) (v := .ref 5) (m := 1) (ykc_50 (e := (2, .aload_n kF0, 0)) rfl) rfl rfl ?_
        refine w_gf (pc' := 48) (v := .ref 7) (ykc_50 (e := (5, .getfield 15, 0)) rfl) rfl (zsg hS zs_5_6) rfl ?_
        refine w_load (pc' := 49) (v := .int (zn f)) (m := 1) (ykc_50 (e := (2, .iload_n kF1, 0)) rfl) rfl rfl ?_
        have q536 := Nat.mod_lt (f) (show 0 < C by omega)
        have zq536 := Nat.zero_le (f % C)
        have tq536 := znt (k := f % C) (by omega)
        refine w_ialk (pc' := 50) (k := f) (ykc_50 (e := (5, .iaload, 0)) rfl) (gA f (by omega)).2 (by omega) rfl ?_
        refine w_load (pc' := 52) (v := .int (zn (m + 1))) (m := 2) (ykc_50 (e := (2, .iload 5, 0)) rfl) rfl rfl ?_
        obtain ⟨z537, e_z537, h_z537⟩ : ∃ zq : Int32, -(zn (m + 1)) = zq ∧ zq.toInt = -((m + 1 : Nat) : Int) := ⟨_, rfl, (zneg_t tm (by omega) (by omega))⟩
        refine w_alu (pc' := 53) (st' := [.int z537, .int (zn (f % C))]) (ykc_50 (e := (0, .ineg, 0)) rfl) (by rw [← e_z537]; rfl) rfl ?_
        refine w_load (pc' := 55) (v := .int (zn (m + 1))) (m := 2) (ykc_50 (e := (2, .iload 5, 0)) rfl) rfl rfl ?_
        refine w_load (pc' := 56) (v := .int dy) (m := 1) (ykc_50 (e := (2, .iload_n kF3, 0)) rfl) rfl rfl ?_
        obtain ⟨z538, e_z538⟩ : ∃ zq : Int32, (if dy < (zn (m + 1)) then dy else (zn (m + 1))) = zq := ⟨_, rfl⟩
        have h_z538 := zminI e_z538
        refine w_mem1 (pc' := 59) (m := 3) (st' := [.int z538, .int z537, .int (zn (f % C))]) (ph' := ph) (ykc_50 (e := (5, .invokestatic 85, 0)) rfl) (by rw [← e_z538]; rfl) rfl ?_
        obtain ⟨z539, e_z539⟩ : ∃ zq : Int32, (if z537 < z538 then z538 else z537) = zq := ⟨_, rfl⟩
        have h_z539 := zmaxI e_z539
        refine w_mem1 (pc' := 62) (m := 3) (st' := [.int z539, .int (zn (f % C))]) (ph' := ph) (ykc_50 (e := (5, .invokestatic 97, 0)) rfl) (by rw [← e_z539]; rfl) rfl ?_
        have e540 : (zn (f % C)) + z539 = zn (zstp (f % C) (g % C) (m + 1)) := zn_of (by have := ti_add (x := (zn (f % C))) (y := z539) (by omega) (by omega); rw [this]; unfold zstp; split <;> omega)
        have te540 := znt (k := zstp (f % C) (g % C) (m + 1)) (by omega)
        refine w_alu (pc' := 63) (st' := [.int (zn (zstp (f % C) (g % C) (m + 1)))]) (ykc_50 (e := (0, .iadd, 0)) rfl) (by rw [← e540]; rfl) rfl ?_
        refine w_store (pc' := 65) (L' := [some (.ref 5), some (.int (zn f)), some (.int dx), some (.int dy), some (.int z529), some (.int (zn (m + 1))), some (.int (zn (zstp (f / C) (g / C) (m + 1)))), some (.int (zn (zstp (f % C) (g % C) (m + 1))))]) (st' := []) (m := 2) (ykc_50 (e := (3, .istore 7, 0)) rfl) rfl rfl ?_
        refine w_load (pc' := 66) (v := .ref 5) (m := 1) (ykc_50 (e := (2, .aload_n kF0, 0)) rfl) rfl rfl ?_
        refine w_gf (pc' := 69) (v := .long (zS rk (R * C))) (ykc_50 (e := (5, .getfield 53, 0)) rfl) rfl gK rfl ?_
        refine w_load (pc' := 71) (v := .int (zn (zstp (f / C) (g / C) (m + 1)))) (m := 2) (ykc_50 (e := (2, .iload 6, 0)) rfl) rfl rfl ?_
        refine w_load (pc' := 72) (v := .ref 5) (m := 1) (ykc_50 (e := (2, .aload_n kF0, 0)) rfl) rfl rfl ?_
        refine w_gf (pc' := 75) (v := .int (zn C)) (ykc_50 (e := (5, .getfield 50, 0)) rfl) rfl gC rfl ?_
        have m541 : zstp (f / C) (g / C) (m + 1) * C ≤ 7 * 7 := Nat.mul_le_mul (by omega) (by omega)
        have zm541 := Nat.zero_le (zstp (f / C) (g / C) (m + 1) * C)
        have e542 : (zn (zstp (f / C) (g / C) (m + 1))) * (zn C) = zn (zstp (f / C) (g / C) (m + 1) * C) := zn_of (zmulN (by omega) (by omega) (by omega) (by omega))
        have te542 := znt (k := zstp (f / C) (g / C) (m + 1) * C) (by omega)
        refine w_alu (pc' := 76) (st' := [.int (zn (zstp (f / C) (g / C) (m + 1) * C)), .long (zS rk (R * C))]) (ykc_50 (e := (0, .imul, 0)) rfl) (by rw [← e542]; rfl) rfl ?_
        refine w_load (pc' := 78) (v := .int (zn (zstp (f % C) (g % C) (m + 1)))) (m := 2) (ykc_50 (e := (2, .iload 7, 0)) rfl) rfl rfl ?_
        have hps : zpos C f g (m + 1) = zstp (f / C) (g / C) (m + 1) * C + zstp (f % C) (g % C) (m + 1) := by unfold zpos; rw [Nat.mul_comm]
        have hpl := zpos_lt (i := m + 1) (show 0 < C by omega) hf hg
        have e543 : (zn (zstp (f / C) (g / C) (m + 1) * C)) + (zn (zstp (f % C) (g % C) (m + 1))) = zn (zpos C f g (m + 1)) := zn_of (by have := ti_add (x := (zn (zstp (f / C) (g / C) (m + 1) * C))) (y := (zn (zstp (f % C) (g % C) (m + 1)))) (by omega) (by omega); rw [hps]; omega)
        have te543 := znt (k := zpos C f g (m + 1)) (by omega)
        refine w_alu (pc' := 79) (st' := [.int (zn (zpos C f g (m + 1))), .long (zS rk (R * C))]) (ykc_50 (e := (0, .iadd, 0)) rfl) (by rw [← e543]; rfl) rfl ?_
        refine w_alu (pc' := 80) (st' := [.long ((zS rk (R * C)) >>> ((zn (zpos C f g (m + 1))).toInt64 &&& 63))]) (ykc_50 (e := (0, .lshr, 0)) rfl) rfl rfl ?_
        refine w_alu (pc' := 81) (st' := [.long (Int64.ofNat kG1), .long ((zS rk (R * C)) >>> ((zn (zpos C f g (m + 1))).toInt64 &&& 63))]) (ykc_50 (e := (0, .lconst kG1, 0)) rfl) rfl rfl ?_
        refine w_alu (pc' := 82) (st' := [.long (((zS rk (R * C)) >>> ((zn (zpos C f g (m + 1))).toInt64 &&& 63)) &&& (Int64.ofNat kG1))]) (ykc_50 (e := (0, .land, 0)) rfl) rfl rfl ?_
        refine w_alu (pc' := 83) (st' := [.long (Int64.ofNat kG1), .long (((zS rk (R * C)) >>> ((zn (zpos C f g (m + 1))).toInt64 &&& 63)) &&& (Int64.ofNat kG1))]) (ykc_50 (e := (0, .lconst kG1, 0)) rfl) rfl rfl ?_
        refine w_alu (pc' := 84) (st' := [.int (lg_cmp (((zS rk (R * C)) >>> ((zn (zpos C f g (m + 1))).toInt64 &&& 63)) &&& (Int64.ofNat kG1)) (Int64.ofNat kG1))]) (ykc_50 (e := (0, .lcmp, 0)) rfl) rfl rfl ?_
        have hz := zhas (x := zS rk (R * C)) (k := zpos C f g (m + 1)) (by omega)
        have hb0 := zS_b (f := rk) (n := R * C) (by omega) (k := zpos C f g (m + 1)) (by omega)
        rw [decide_eq_true hpl, Bool.true_and] at hb0
        rw [hb0] at hz
        have hpn : zpos C f g (m + 1) ≠ g := fun q => by have := (zpos_e (show 0 < C by omega)).mp q; omega
        refine w_zne (ykc_50 (e := (4, .ifCond .ne 5, 89)) rfl) rfl (fun b544 => ?_) (fun b544 => ?_)
        · have e545 : (zn (m + 1)) + Int32.ofInt 1 = zn (m + 1 + 1) := (zaddN (a := m + 1) (b := 1) (znt (by omega)) c_1 (by omega))
          have te545 := znt (k := m + 1 + 1) (by omega)
          refine w_store (pc' := 92) (L' := [some (.ref 5), some (.int (zn f)), some (.int dx), some (.int dy), some (.int z529), some (.int (zn (m + 1 + 1))), some (.int (zn (zstp (f / C) (g / C) (m + 1)))), some (.int (zn (zstp (f % C) (g % C) (m + 1))))]) (st' := []) (m := 3) (ykc_50 (e := (3, .iinc 5 1, 0)) rfl) (by rw [← e545]; rfl) rfl ?_
          refine w_gb (ykc_50 (e := (4, .goto (-76), 16)) rfl) (fun k546 hk546 => ?_)
          have h1 : zclr C rk f g (m + 1) = true := by
            show (zclr C rk f g m && (decide (zpos C f g (m + 1) = g) || !rk (zpos C f g (m + 1)))) = true
            rw [hc, Bool.eq_false_iff.mpr (fun q => b544 (hz.mpr q))]
            simp
          exact ih k546 hk546 (m + 1) _ _ (by omega) h1
        · refine w_alu (pc' := 88) (st' := [.int (Int32.ofInt 0)]) (ykc_50 (e := (0, .iconst 0, 0)) rfl) rfl rfl ?_
          refine w_ret (v := (some (.int (Int32.ofInt 0)))) (ykc_50 (e := (7, .ireturn, 0)) rfl) zr_z ?_
          have h1 : zclr C rk f g (m + 1) = false := by
            show (zclr C rk f g m && (decide (zpos C f g (m + 1) = g) || !rk (zpos C f g (m + 1)))) = false
            rw [hz.mp b544, decide_eq_false hpn]
            simp
          have h2 := zclr_f h1 (7 - (m + 1))
          rw [show m + 1 + (7 - (m + 1)) = 7 by omega] at h2
          rw [hQ, zi0]
          exact ⟨rfl, zvB h2.symm⟩
  exact hl n 0 none none (by omega) rfl
theorem zc_way {x y : Int32} {ph : pm_H} {d r : Int} (hx : x.toInt = d) (hy : y.toInt = r) (b1 : -60 ≤ d) (b2 : d ≤ 60) (b3 : -60 ≤ r) (b4 : r ≤ 60) (h0 : d ≠ 0 ∨ r ≠ 0) : zM 51 [.int x, .int y] ph (fun v q => ph = q ∧ v = some (.int (zn (zway d r)))) := by
  obtain ⟨Q, hQ⟩ : ∃ Q : Option Value → pm_H → Prop, Q = (fun v q => ph = q ∧ v = some (.int (zn (zway d r)))) := ⟨_, rfl⟩
  rw [← hQ]
  refine zM_mk fun n D => ?_
  show zW n D 51 Q 0 [some (.int x), some (.int y)] [] ph
  have c_0 : ((Int8.ofInt 6).toInt32).toInt = 6 := by decide +kernel
  have c_1 : ((Int8.ofInt 7).toInt32).toInt = 7 := by decide +kernel
  have c_2 : (Int32.ofInt 0).toInt = 0 := by decide +kernel
  have c_3 : (Int32.ofInt 1).toInt = 1 := by decide +kernel
  have c_4 : (Int32.ofInt 2).toInt = 2 := by decide +kernel
  have c_5 : (Int32.ofInt 3).toInt = 3 := by decide +kernel
  have c_6 : (Int32.ofInt 4).toInt = 4 := by decide +kernel
  have c_7 : (Int32.ofInt 5).toInt = 5 := by decide +kernel
  refine w_load (pc' := 1) (v := .int x) (m := 1) (ykc_51 (e := (2, .iload_n kF0, 0)) rfl) rfl rfl ?_
  obtain ⟨z547, e_z547⟩ : ∃ zq : Int32, (if 0 ≤ x then x else 0 - x) = zq := ⟨_, rfl⟩
  have h_z547 := zabsI e_z547
  refine w_mem1 (pc' := 4) (m := 3) (st' := [.int z547]) (ph' := ph) (ykc_51 (e := (5, .invokestatic 100, 0)) rfl) (by rw [← e_z547]; rfl) rfl ?_
  refine w_alu (pc' := 5) (st' := [.int (Int32.ofInt 2), .int z547]) (ykc_51 (e := (0, .iconst 2, 0)) rfl) rfl rfl ?_
  refine w_load (pc' := 6) (v := .int y) (m := 1) (ykc_51 (e := (2, .iload_n kF1, 0)) rfl) rfl rfl ?_
  obtain ⟨z548, e_z548⟩ : ∃ zq : Int32, (if 0 ≤ y then y else 0 - y) = zq := ⟨_, rfl⟩
  have h_z548 := zabsI e_z548
  refine w_mem1 (pc' := 9) (m := 3) (st' := [.int z548, .int (Int32.ofInt 2), .int z547]) (ph' := ph) (ykc_51 (e := (5, .invokestatic 100, 0)) rfl) (by rw [← e_z548]; rfl) rfl ?_
  obtain ⟨z549, e_z549, h_z549⟩ : ∃ zq : Int32, (Int32.ofInt 2) * z548 = zq ∧ zq.toInt = (2 : Int) * z548.toInt := ⟨_, rfl, (by rw [ti_mul (by rw [show (Int32.ofInt 2).toInt = (2 : Int) by omega, show z548.toInt = z548.toInt by omega]; omega) (by rw [show (Int32.ofInt 2).toInt = (2 : Int) by omega, show z548.toInt = z548.toInt by omega]; omega), show (Int32.ofInt 2).toInt = (2 : Int) by omega, show z548.toInt = z548.toInt by omega] <;> omega)⟩
  refine w_alu (pc' := 10) (st' := [.int z549, .int z547]) (ykc_51 (e := (0, .imul, 0)) rfl) (by rw [← e_z549]; rfl) rfl ?_
  refine w_ile (ykc_51 (e := (4, .if_icmp .le 13, 23)) rfl) rfl (fun b550 => ?_) (fun b550 => ?_)
  · refine w_load (pc' := 24) (v := .int y) (m := 1) (ykc_51 (e := (2, .iload_n kF1, 0)) rfl) rfl rfl ?_
    obtain ⟨z551, e_z551⟩ : ∃ zq : Int32, (if 0 ≤ y then y else 0 - y) = zq := ⟨_, rfl⟩
    have h_z551 := zabsI e_z551
    refine w_mem1 (pc' := 27) (m := 3) (st' := [.int z551]) (ph' := ph) (ykc_51 (e := (5, .invokestatic 100, 0)) rfl) (by rw [← e_z551]; rfl) rfl ?_
    refine w_alu (pc' := 28) (st' := [.int (Int32.ofInt 2), .int z551]) (ykc_51 (e := (0, .iconst 2, 0)) rfl) rfl rfl ?_
    refine w_load (pc' := 29) (v := .int x) (m := 1) (ykc_51 (e := (2, .iload_n kF0, 0)) rfl) rfl rfl ?_
    obtain ⟨z552, e_z552⟩ : ∃ zq : Int32, (if 0 ≤ x then x else 0 - x) = zq := ⟨_, rfl⟩
    have h_z552 := zabsI e_z552
    refine w_mem1 (pc' := 32) (m := 3) (st' := [.int z552, .int (Int32.ofInt 2), .int z551]) (ph' := ph) (ykc_51 (e := (5, .invokestatic 100, 0)) rfl) (by rw [← e_z552]; rfl) rfl ?_
    obtain ⟨z553, e_z553, h_z553⟩ : ∃ zq : Int32, (Int32.ofInt 2) * z552 = zq ∧ zq.toInt = (2 : Int) * z552.toInt := ⟨_, rfl, (by rw [ti_mul (by rw [show (Int32.ofInt 2).toInt = (2 : Int) by omega, show z552.toInt = z552.toInt by omega]; omega) (by rw [show (Int32.ofInt 2).toInt = (2 : Int) by omega, show z552.toInt = z552.toInt by omega]; omega), show (Int32.ofInt 2).toInt = (2 : Int) by omega, show z552.toInt = z552.toInt by omega] <;> omega)⟩
    refine w_alu (pc' := 33) (st' := [.int z553, .int z551]) (ykc_51 (e := (0, .imul, 0)) rfl) (by rw [← e_z553]; rfl) rfl ?_
    refine w_ile (ykc_51 (e := (4, .if_icmp .le 14, 47)) rfl) rfl (fun b554 => ?_) (fun b554 => ?_)
    · refine w_load (pc' := 48) (v := .int x) (m := 1) (ykc_51 (e := (2, .iload_n kF0, 0)) rfl) rfl rfl ?_
      refine w_zge (ykc_51 (e := (4, .ifCond .ge 14, 62)) rfl) rfl (fun b555 => ?_) (fun b555 => ?_)
      · refine w_load (pc' := 63) (v := .int y) (m := 1) (ykc_51 (e := (2, .iload_n kF1, 0)) rfl) rfl rfl ?_
        refine w_zle (ykc_51 (e := (4, .ifCond .le 7, 70)) rfl) rfl (fun b556 => ?_) (fun b556 => ?_)
        · refine w_alu (pc' := 71) (st' := [.int (Int32.ofInt 5)]) (ykc_51 (e := (0, .iconst 5, 0)) rfl) rfl rfl ?_
          refine w_ret (v := (some (.int (Int32.ofInt 5)))) (ykc_51 (e := (7, .ireturn, 0)) rfl) (zr_v rfl) ?_
          rw [hQ]
          exact ⟨rfl, by rw [zn_of (x := Int32.ofInt 5) (k := zway d r) (by unfold zway; (repeat' split) <;> omega)]⟩
        · refine w_alu (pc' := 67) (st' := [.int (Int32.ofInt 3)]) (ykc_51 (e := (0, .iconst 3, 0)) rfl) rfl rfl ?_
          refine w_br (pc' := 71) (st' := [.int (Int32.ofInt 3)]) (ykc_51 (e := (4, .goto 4, 71)) rfl) rfl ?_
          refine w_ret (v := (some (.int (Int32.ofInt 3)))) (ykc_51 (e := (7, .ireturn, 0)) rfl) (zr_v rfl) ?_
          rw [hQ]
          exact ⟨rfl, by rw [zn_of (x := Int32.ofInt 3) (k := zway d r) (by unfold zway; (repeat' split) <;> omega)]⟩
      · refine w_load (pc' := 52) (v := .int y) (m := 1) (ykc_51 (e := (2, .iload_n kF1, 0)) rfl) rfl rfl ?_
        refine w_zle (ykc_51 (e := (4, .ifCond .le 7, 59)) rfl) rfl (fun b557 => ?_) (fun b557 => ?_)
        · refine w_push (pc' := 61) (v := .int ((Int8.ofInt 7).toInt32)) (m := 2) (ykc_51 (e := (1, .bipush 7, 0)) rfl) rfl rfl ?_
          refine w_ret (v := (some (.int ((Int8.ofInt 7).toInt32)))) (ykc_51 (e := (7, .ireturn, 0)) rfl) (zr_v rfl) ?_
          rw [hQ]
          exact ⟨rfl, by rw [zn_of (x := (Int8.ofInt 7).toInt32) (k := zway d r) (by unfold zway; (repeat' split) <;> omega)]⟩
        · refine w_alu (pc' := 56) (st' := [.int (Int32.ofInt 1)]) (ykc_51 (e := (0, .iconst 1, 0)) rfl) rfl rfl ?_
          refine w_br (pc' := 61) (st' := [.int (Int32.ofInt 1)]) (ykc_51 (e := (4, .goto 5, 61)) rfl) rfl ?_
          refine w_ret (v := (some (.int (Int32.ofInt 1)))) (ykc_51 (e := (7, .ireturn, 0)) rfl) (zr_v rfl) ?_
          rw [hQ]
          exact ⟨rfl, by rw [zn_of (x := Int32.ofInt 1) (k := zway d r) (by unfold zway; (repeat' split) <;> omega)]⟩
    · refine w_load (pc' := 37) (v := .int y) (m := 1) (ykc_51 (e := (2, .iload_n kF1, 0)) rfl) rfl rfl ?_
      refine w_zle (ykc_51 (e := (4, .ifCond .le 7, 44)) rfl) rfl (fun b558 => ?_) (fun b558 => ?_)
      · refine w_push (pc' := 46) (v := .int ((Int8.ofInt 6).toInt32)) (m := 2) (ykc_51 (e := (1, .bipush 6, 0)) rfl) rfl rfl ?_
        refine w_ret (v := (some (.int ((Int8.ofInt 6).toInt32)))) (ykc_51 (e := (7, .ireturn, 0)) rfl) (zr_v rfl) ?_
        rw [hQ]
        exact ⟨rfl, by rw [zn_of (x := (Int8.ofInt 6).toInt32) (k := zway d r) (by unfold zway; (repeat' split) <;> omega)]⟩
      · refine w_alu (pc' := 41) (st' := [.int (Int32.ofInt 2)]) (ykc_51 (e := (0, .iconst 2, 0)) rfl) rfl rfl ?_
        refine w_br (pc' := 46) (st' := [.int (Int32.ofInt 2)]) (ykc_51 (e := (4, .goto 5, 46)) rfl) rfl ?_
        refine w_ret (v := (some (.int (Int32.ofInt 2)))) (ykc_51 (e := (7, .ireturn, 0)) rfl) (zr_v rfl) ?_
        rw [hQ]
        exact ⟨rfl, by rw [zn_of (x := Int32.ofInt 2) (k := zway d r) (by unfold zway; (repeat' split) <;> omega)]⟩
  · refine w_load (pc' := 14) (v := .int x) (m := 1) (ykc_51 (e := (2, .iload_n kF0, 0)) rfl) rfl rfl ?_
    refine w_zge (ykc_51 (e := (4, .ifCond .ge 7, 21)) rfl) rfl (fun b559 => ?_) (fun b559 => ?_)
    · refine w_alu (pc' := 22) (st' := [.int (Int32.ofInt 4)]) (ykc_51 (e := (0, .iconst 4, 0)) rfl) rfl rfl ?_
      refine w_ret (v := (some (.int (Int32.ofInt 4)))) (ykc_51 (e := (7, .ireturn, 0)) rfl) (zr_v rfl) ?_
      rw [hQ]
      exact ⟨rfl, by rw [zn_of (x := Int32.ofInt 4) (k := zway d r) (by unfold zway; (repeat' split) <;> omega)]⟩
    · refine w_alu (pc' := 18) (st' := [.int (Int32.ofInt 0)]) (ykc_51 (e := (0, .iconst 0, 0)) rfl) rfl rfl ?_
      refine w_br (pc' := 22) (st' := [.int (Int32.ofInt 0)]) (ykc_51 (e := (4, .goto 4, 22)) rfl) rfl ?_
      refine w_ret (v := (some (.int (Int32.ofInt 0)))) (ykc_51 (e := (7, .ireturn, 0)) rfl) (zr_v rfl) ?_
      rw [hQ]
      exact ⟨rfl, by rw [zn_of (x := Int32.ofInt 0) (k := zway d r) (by unfold zway; (repeat' split) <;> omega)]⟩
theorem zS_s {f : Nat → Bool} {k : Nat} : zS f (k + 1) = zS f k ||| (bif f k then Int64.ofNat kG1 <<< ((zn k).toInt64 &&& 63) else Int64.ofNat kG0) := rfl
theorem zor0 (x : Int64) : x ||| Int64.ofNat kG0 = x := zb_ext fun k hk => by rw [zb_or, zL0]; simp [zb]
theorem zc_survey {ph : pm_H} {R C : Nat} {rk : Nat → Bool} (hS : zSh ph) (hL : zCl ph R C rk) {f : Nat} (hf : f < R * C) {x : Int64} (hx : zc ph 5 4 = some (.long x)) : zM 49 [.ref 5, .int (zn f)] ph (fun v q => v = none ∧ zFr [8, 9] [(5, 4)] ph q ∧ zc q 5 4 = some (.long (x ||| (Int64.ofNat kG1 <<< ((zn f).toInt64 &&& 63)))) ∧ (∀ w, w < 8 → zc q 8 (8 * f + w) = some (.long (zS (zTw C rk f w) (R * C)))) ∧ (∀ d, d < 7 → zc q 9 (7 * f + d) = some (.long (zS (zWi C f d) (R * C)))) ∧ (∀ i, i < 8 * f ∨ 8 * f + 8 ≤ i → zc q 8 i = zc ph 8 i) ∧ ∀ i, i < 7 * f ∨ 7 * f + 7 ≤ i → zc q 9 i = zc ph 9 i) := by
  obtain ⟨Q, hQ⟩ : ∃ Q : Option Value → pm_H → Prop, Q = (fun v q => v = none ∧ zFr [8, 9] [(5, 4)] ph q ∧ zc q 5 4 = some (.long (x ||| (Int64.ofNat kG1 <<< ((zn f).toInt64 &&& 63)))) ∧ (∀ w, w < 8 → zc q 8 (8 * f + w) = some (.long (zS (zTw C rk f w) (R * C)))) ∧ (∀ d, d < 7 → zc q 9 (7 * f + d) = some (.long (zS (zWi C f d) (R * C)))) ∧ (∀ i, i < 8 * f ∨ 8 * f + 8 ≤ i → zc q 8 i = zc ph 8 i) ∧ ∀ i, i < 7 * f ∨ 7 * f + 7 ≤ i → zc q 9 i = zc ph 9 i) := ⟨_, rfl⟩
  rw [← hQ]
  refine zM_mk fun n D => ?_
  show zW n D 49 Q 0 [some (.ref 5), some (.int (zn f)), none, none, none, none, none] [] ph
  have c_0 : ((Int8.ofInt 49).toInt32).toInt = 49 := by decide +kernel
  have c_1 : ((Int8.ofInt 7).toInt32).toInt = 7 := by decide +kernel
  have c_2 : ((Int8.ofInt 8).toInt32).toInt = 8 := by decide +kernel
  have c_3 : (Int32.ofInt 0).toInt = 0 := by decide +kernel
  have c_4 : (Int32.ofInt 1).toInt = 1 := by decide +kernel
  have hL0 := hL
  obtain ⟨gR, gC, gN, gK, gA, hR3, hR7, hC3, hC7⟩ := hL
  have hRC := zRC49 hR7 hC7
  have tR := znt (k := R) (by omega)
  have tC := znt (k := C) (by omega)
  have tRC := znt (k := R * C) (by omega)
  have tf := znt (k := f) (by omega)
  have f1 : f / C < R := (Nat.div_lt_iff_lt_mul (by omega)).mpr hf
  have f2 := Nat.mod_lt f (show 0 < C by omega)
  have p1 := Nat.zero_le (f / C)
  have p3 := Nat.zero_le (f % C)
  have hC : ∀ (n : Nat), ∀ (k : Nat) (x3 x4 x5 x6 : Option Value) (ph1 : pm_H), (k ≤ R * C) → (zFr [8, 9] [(5, 4)] ph ph1) → (zc ph1 5 4 = some (.long (x ||| (Int64.ofNat kG1 <<< ((zn f).toInt64 &&& 63))))) → (∀ w, w < 8 → zc ph1 8 (8 * f + w) = some (.long (zS (zTw C rk f w) k))) → (∀ d, d < 7 → zc ph1 9 (7 * f + d) = some (.long (zS (zWi C f d) k))) → (∀ i, i < 8 * f ∨ 8 * f + 8 ≤ i → zc ph1 8 i = zc ph 8 i) → (∀ i, i < 7 * f ∨ 7 * f + 7 ≤ i → zc ph1 9 i = zc ph 9 i) → zW n D 49 Q 66 [some (.ref 5), some (.int (zn f)), some (.int (zn k)), x3, x4, x5, x6] [] ph1 := by
    intro n
    induction n using Nat.strongRecOn with
    | ind n ih =>
      intro k x3 x4 x5 x6 ph1 hk hf1 h54 h8 h9 o8 o9
      have tk := znt (k := k) (by omega)
      refine w_load (pc' := 67) (v := .int (zn k)) (m := 1) (ykc_49 (e := (2, .iload_n kF2, 0)) rfl) rfl rfl ?_
      refine w_load (pc' := 68) (v := .ref 5) (m := 1) (ykc_49 (e := (2, .aload_n kF0, 0)) rfl) rfl rfl ?_
      refine w_gf (pc' := 71) (v := .int (zn (R * C))) (ykc_49 (e := (5, .getfield 60, 0)) rfl) rfl ((hf1.1 5 2 (by first | exact zqm rfl | decide) (by first | exact zqp rfl | decide)).trans gN) rfl ?_
      refine w_ige (ykc_49 (e := (4, .if_icmp .ge 134, 205)) rfl) rfl (fun b560 => ?_) (fun b560 => ?_)
      · refine w_ret (v := none) (ykc_49 (e := (7, .return_, 0)) rfl) (zr_v rfl) ?_
        have ek : k = R * C := by omega
        subst ek
        rw [hQ]
        exact ⟨rfl, hf1, h54, h8, h9, o8, o9⟩
      · refine w_load (pc' := 75) (v := .int (zn k)) (m := 1) (ykc_49 (e := (2, .iload_n kF2, 0)) rfl) rfl rfl ?_
        refine w_push (pc' := 77) (v := .int ((Int8.ofInt 49).toInt32)) (m := 2) (ykc_49 (e := (1, .bipush 49, 0)) rfl) rfl rfl ?_
        refine w_ige (ykc_49 (e := (4, .if_icmp .ge 128, 205)) rfl) rfl (fun q => by exfalso; omega) (fun b561 => ?_)
        refine w_load (pc' := 81) (v := .int (zn k)) (m := 1) (ykc_49 (e := (2, .iload_n kF2, 0)) rfl) rfl rfl ?_
        refine w_load (pc' := 82) (v := .int (zn f)) (m := 1) (ykc_49 (e := (2, .iload_n kF1, 0)) rfl) rfl rfl ?_
        refine w_ine (ykc_49 (e := (4, .if_icmp .ne 6, 88)) rfl) rfl (fun b562 => ?_) (fun b562 => ?_)
        · refine w_load (pc' := 89) (v := .ref 5) (m := 1) (ykc_49 (e := (2, .aload_n kF0, 0)) rfl) rfl rfl ?_
          refine w_gf (pc' := 92) (v := .ref 6) (ykc_49 (e := (5, .getfield 9, 0)) rfl) rfl ((hf1.1 5 5 (by first | exact zqm rfl | decide) (by first | exact zqp rfl | decide)).trans (zsg hS zs_5_5)) rfl ?_
          refine w_load (pc' := 93) (v := .int (zn k)) (m := 1) (ykc_49 (e := (2, .iload_n kF2, 0)) rfl) rfl rfl ?_
          have q563 : k / C < R := (Nat.div_lt_iff_lt_mul (by omega)).mpr (show k < R * C by omega)
          have zq563 := Nat.zero_le (k / C)
          have tq563 := znt (k := k / C) (by omega)
          refine w_ialk (pc' := 94) (k := k) (ykc_49 (e := (5, .iaload, 0)) rfl) ((hf1.1 6 k (by first | exact zqm rfl | decide) (by first | exact zqp rfl | simp)).trans (gA k (by omega)).1) (by omega) rfl ?_
          refine w_load (pc' := 95) (v := .ref 5) (m := 1) (ykc_49 (e := (2, .aload_n kF0, 0)) rfl) rfl rfl ?_
          refine w_gf (pc' := 98) (v := .ref 6) (ykc_49 (e := (5, .getfield 9, 0)) rfl) rfl ((hf1.1 5 5 (by first | exact zqm rfl | decide) (by first | exact zqp rfl | decide)).trans (zsg hS zs_5_5)) rfl ?_
          refine w_load (pc' := 99) (v := .int (zn f)) (m := 1) (ykc_49 (e := (2, .iload_n kF1, 0)) rfl) rfl rfl ?_
          have q564 : f / C < R := (Nat.div_lt_iff_lt_mul (by omega)).mpr (show f < R * C by omega)
          have zq564 := Nat.zero_le (f / C)
          have tq564 := znt (k := f / C) (by omega)
          refine w_ialk (pc' := 100) (k := f) (ykc_49 (e := (5, .iaload, 0)) rfl) ((hf1.1 6 f (by first | exact zqm rfl | decide) (by first | exact zqp rfl | simp)).trans (gA f (by omega)).1) (by omega) rfl ?_
          obtain ⟨z565, e_z565, h_z565⟩ : ∃ zq : Int32, (zn (k / C)) - (zn (f / C)) = zq ∧ zq.toInt = ((k / C : Nat) : Int) - ((f / C : Nat) : Int) := ⟨_, rfl, (by have := ti_sub (x := (zn (k / C))) (y := (zn (f / C))) (by omega) (by omega); omega)⟩
          refine w_alu (pc' := 101) (st' := [.int z565]) (ykc_49 (e := (0, .isub, 0)) rfl) (by rw [← e_z565]; rfl) rfl ?_
          refine w_store (pc' := 102) (L' := [some (.ref 5), some (.int (zn f)), some (.int (zn k)), some (.int z565), x4, x5, x6]) (st' := []) (m := 1) (ykc_49 (e := (3, .istore_n kF3, 0)) rfl) rfl rfl ?_
          refine w_load (pc' := 103) (v := .ref 5) (m := 1) (ykc_49 (e := (2, .aload_n kF0, 0)) rfl) rfl rfl ?_
          refine w_gf (pc' := 106) (v := .ref 7) (ykc_49 (e := (5, .getfield 15, 0)) rfl) rfl ((hf1.1 5 6 (by first | exact zqm rfl | decide) (by first | exact zqp rfl | decide)).trans (zsg hS zs_5_6)) rfl ?_
          refine w_load (pc' := 107) (v := .int (zn k)) (m := 1) (ykc_49 (e := (2, .iload_n kF2, 0)) rfl) rfl rfl ?_
          have q566 := Nat.mod_lt (k) (show 0 < C by omega)
          have zq566 := Nat.zero_le (k % C)
          have tq566 := znt (k := k % C) (by omega)
          refine w_ialk (pc' := 108) (k := k) (ykc_49 (e := (5, .iaload, 0)) rfl) ((hf1.1 7 k (by first | exact zqm rfl | decide) (by first | exact zqp rfl | simp)).trans (gA k (by omega)).2) (by omega) rfl ?_
          refine w_load (pc' := 109) (v := .ref 5) (m := 1) (ykc_49 (e := (2, .aload_n kF0, 0)) rfl) rfl rfl ?_
          refine w_gf (pc' := 112) (v := .ref 7) (ykc_49 (e := (5, .getfield 15, 0)) rfl) rfl ((hf1.1 5 6 (by first | exact zqm rfl | decide) (by first | exact zqp rfl | decide)).trans (zsg hS zs_5_6)) rfl ?_
          refine w_load (pc' := 113) (v := .int (zn f)) (m := 1) (ykc_49 (e := (2, .iload_n kF1, 0)) rfl) rfl rfl ?_
          have q567 := Nat.mod_lt (f) (show 0 < C by omega)
          have zq567 := Nat.zero_le (f % C)
          have tq567 := znt (k := f % C) (by omega)
          refine w_ialk (pc' := 114) (k := f) (ykc_49 (e := (5, .iaload, 0)) rfl) ((hf1.1 7 f (by first | exact zqm rfl | decide) (by first | exact zqp rfl | simp)).trans (gA f (by omega)).2) (by omega) rfl ?_
          obtain ⟨z568, e_z568, h_z568⟩ : ∃ zq : Int32, (zn (k % C)) - (zn (f % C)) = zq ∧ zq.toInt = ((k % C : Nat) : Int) - ((f % C : Nat) : Int) := ⟨_, rfl, (by have := ti_sub (x := (zn (k % C))) (y := (zn (f % C))) (by omega) (by omega); omega)⟩
          refine w_alu (pc' := 115) (st' := [.int z568]) (ykc_49 (e := (0, .isub, 0)) rfl) (by rw [← e_z568]; rfl) rfl ?_
          refine w_store (pc' := 117) (L' := [some (.ref 5), some (.int (zn f)), some (.int (zn k)), some (.int z565), some (.int z568), x5, x6]) (st' := []) (m := 2) (ykc_49 (e := (3, .istore 4, 0)) rfl) rfl rfl ?_
          refine w_load (pc' := 118) (v := .int z565) (m := 1) (ykc_49 (e := (2, .iload_n kF3, 0)) rfl) rfl rfl ?_
          obtain ⟨z569, e_z569⟩ : ∃ zq : Int32, (if 0 ≤ z565 then z565 else 0 - z565) = zq := ⟨_, rfl⟩
          have h_z569 := zabsI e_z569
          refine w_mem1 (pc' := 121) (m := 3) (st' := [.int z569]) (ph' := ph1) (ykc_49 (e := (5, .invokestatic 100, 0)) rfl) (by rw [← e_z569]; rfl) rfl ?_
          refine w_load (pc' := 123) (v := .int z568) (m := 2) (ykc_49 (e := (2, .iload 4, 0)) rfl) rfl rfl ?_
          obtain ⟨z570, e_z570⟩ : ∃ zq : Int32, (if 0 ≤ z568 then z568 else 0 - z568) = zq := ⟨_, rfl⟩
          have h_z570 := zabsI e_z570
          refine w_mem1 (pc' := 126) (m := 3) (st' := [.int z570, .int z569]) (ph' := ph1) (ykc_49 (e := (5, .invokestatic 100, 0)) rfl) (by rw [← e_z570]; rfl) rfl ?_
          obtain ⟨z571, e_z571⟩ : ∃ zq : Int32, (if z569 < z570 then z570 else z569) = zq := ⟨_, rfl⟩
          have h_z571 := zmaxI e_z571
          refine w_mem1 (pc' := 129) (m := 3) (st' := [.int z571]) (ph' := ph1) (ykc_49 (e := (5, .invokestatic 97, 0)) rfl) (by rw [← e_z571]; rfl) rfl ?_
          refine w_store (pc' := 131) (L' := [some (.ref 5), some (.int (zn f)), some (.int (zn k)), some (.int z565), some (.int z568), some (.int z571), x6]) (st' := []) (m := 2) (ykc_49 (e := (3, .istore 5, 0)) rfl) rfl rfl ?_
          refine w_load (pc' := 133) (v := .int z571) (m := 2) (ykc_49 (e := (2, .iload 5, 0)) rfl) rfl rfl ?_
          refine w_store (pc' := 135) (L' := [some (.ref 5), some (.int (zn f)), some (.int (zn k)), some (.int z565), some (.int z568), some (.int z571), some (.int z571)]) (st' := []) (m := 2) (ykc_49 (e := (3, .istore 6, 0)) rfl) rfl rfl ?_
          have hne : f ≠ k := by omega
          have hkR : k < R * C := by omega
          have g1 : k / C < R := (Nat.div_lt_iff_lt_mul (by omega)).mpr hkR
          have g2 := Nat.mod_lt k (show 0 < C by omega)
          have er : zgr C f k = ((k / C : Nat) : Int) - (f / C : Nat) := rfl
          have ec : zgc C f k = ((k % C : Nat) : Int) - (f % C : Nat) := rfl
          have eds : zds C f k = max (zgr C f k).natAbs (zgc C f k).natAbs := rfl
          have hd6 := zds_6 (by omega) hC7 hR7 hf hkR
          have hd1 := zds_1 (C := C) (by omega) hne
          have tfa : z571.toInt = ((zds C f k : Nat) : Int) := by omega
          have ddn : z565.toInt = zgr C f k := by omega
          have drt : z568.toInt = zgc C f k := by omega
          obtain rfl := zn_of tfa
          have er2 := er
          have ec2 := ec
          clear eds
          have hD : ∀ (n572 : Nat), n572 ≤ n → ∀ (d : Nat) (ph2 : pm_H), zds C f k ≤ d → d ≤ 7 → zFr [8, 9] [(5, 4)] ph ph2 → zc ph2 5 4 = some (.long (x ||| (Int64.ofNat kG1 <<< ((zn f).toInt64 &&& 63)))) → (∀ i, zc ph2 8 i = zc ph1 8 i) → (∀ e, e < 7 → zc ph2 9 (7 * f + e) = some (.long (if zds C f k ≤ e ∧ e < d then zS (zWi C f e) (k + 1) else zS (zWi C f e) k))) → (∀ i, i < 7 * f ∨ 7 * f + 7 ≤ i → zc ph2 9 i = zc ph 9 i) → zW n572 D 49 Q 135 [some (.ref 5), some (.int (zn f)), some (.int (zn k)), some (.int z565), some (.int z568), some (.int (zn (zds C f k))), some (.int (zn d))] [] ph2 := by
            intro n572
            induction n572 using Nat.strongRecOn with
            | ind n572 ihD =>
              intro hnD d ph2 hd hd7 hf2 h542 e8 e9 p9
              have td := znt (k := d) (by omega)
              refine w_load (pc' := 137) (v := .int (zn d)) (m := 2) (ykc_49 (e := (2, .iload 6, 0)) rfl) rfl rfl ?_
              refine w_push (pc' := 139) (v := .int ((Int8.ofInt 7).toInt32)) (m := 2) (ykc_49 (e := (1, .bipush 7, 0)) rfl) rfl rfl ?_
              refine w_ige (ykc_49 (e := (4, .if_icmp .ge 27, 166)) rfl) rfl (fun b573 => ?_) (fun b573 => ?_)
              · refine w_load (pc' := 167) (v := .ref 5) (m := 1) (ykc_49 (e := (2, .aload_n kF0, 0)) rfl) rfl rfl ?_
                refine w_load (pc' := 168) (v := .int (zn f)) (m := 1) (ykc_49 (e := (2, .iload_n kF1, 0)) rfl) rfl rfl ?_
                refine w_load (pc' := 169) (v := .int z565) (m := 1) (ykc_49 (e := (2, .iload_n kF3, 0)) rfl) rfl rfl ?_
                refine w_load (pc' := 171) (v := .int z568) (m := 2) (ykc_49 (e := (2, .iload 4, 0)) rfl) rfl rfl ?_
                refine w_cv (as := [.ref 5, .int (zn f), .int z565, .int z568]) (r := []) (ykc_49 (e := (6, .invokevirtual 103, 0)) rfl) rfl rfl rfl rfl (zc_clear (zCy_S hf2 hS) (zCy_l hf2 hL0) (f := f) (g := k) (by omega) (by omega) (by omega) (by omega) (by omega)) (fun v574 ph575 hv => ?_)
                obtain ⟨rfl, rfl⟩ := hv
                show zW n572 D 49 Q 174 [some (.ref 5), some (.int (zn f)), some (.int (zn k)), some (.int z565), some (.int z568), some (.int (zn (zds C f k))), some (.int (zn d))] [.int (zI (zclr C rk f k 7))] ph2
                refine w_beq (ykc_49 (e := (4, .ifCond .eq 25, 199)) rfl) rfl (fun b576 => ?_) (fun b576 => ?_)
                · have e577 : (zn k) + Int32.ofInt 1 = zn (k + 1) := (zaddN (a := k) (b := 1) (znt (by omega)) c_4 (by omega))
                  have te577 := znt (k := k + 1) (by omega)
                  refine w_store (pc' := 202) (L' := [some (.ref 5), some (.int (zn f)), some (.int (zn (k + 1))), some (.int z565), some (.int z568), some (.int (zn (zds C f k))), some (.int (zn d))]) (st' := []) (m := 3) (ykc_49 (e := (3, .iinc 2 1, 0)) rfl) (by rw [← e577]; rfl) rfl ?_
                  refine w_gb (ykc_49 (e := (4, .goto (-136), 66)) rfl) (fun k578 hk578 => ?_)
                  have hcl : zclr C rk f k 7 = false := b576
                  exact ih k578 (by omega) (k + 1) _ _ _ _ _ (by omega) hf2 h542 (fun w hw => by
                    rw [zS_s, show zTw C rk f w k = false by unfold zTw; rw [hcl]; simp, cond_false, zor0]
                    exact (e8 _).trans (h8 w hw)) (fun e he => by
                    have h := e9 e he
                    by_cases q2 : zds C f k ≤ e
                    · rw [if_pos ⟨q2, by omega⟩] at h
                      exact h
                    · rw [if_neg (fun q => q2 q.1)] at h
                      rw [zS_s, show zWi C f e k = false by unfold zWi; rw [decide_eq_false q2]; simp, cond_false, zor0]
                      exact h) (fun i hi => (e8 i).trans (o8 i hi)) p9
                · refine w_load (pc' := 178) (v := .ref 5) (m := 1) (ykc_49 (e := (2, .aload_n kF0, 0)) rfl) rfl rfl ?_
                  refine w_gf (pc' := 181) (v := .ref 8) (ykc_49 (e := (5, .getfield 18, 0)) rfl) rfl ((hf2.1 5 7 (by first | exact zqm rfl | decide) (by first | exact zqp rfl | decide)).trans (zsg hS zs_5_7)) rfl ?_
                  refine w_load (pc' := 182) (v := .int (zn f)) (m := 1) (ykc_49 (e := (2, .iload_n kF1, 0)) rfl) rfl rfl ?_
                  refine w_push (pc' := 184) (v := .int ((Int8.ofInt 8).toInt32)) (m := 2) (ykc_49 (e := (1, .bipush 8, 0)) rfl) rfl rfl ?_
                  have e579 : (zn f) * ((Int8.ofInt 8).toInt32) = zn (8 * f) := (zmulK (a := f) (b := 8) (znt (by omega)) c_2 (by omega))
                  have te579 := znt (k := 8 * f) (by omega)
                  refine w_alu (pc' := 185) (st' := [.int (zn (8 * f)), .ref 8]) (ykc_49 (e := (0, .imul, 0)) rfl) (by show some ([.int ((zn f) * ((Int8.ofInt 8).toInt32)), .ref 8] : List Value) = _; rw [e579]) rfl ?_
                  refine w_load (pc' := 186) (v := .int z565) (m := 1) (ykc_49 (e := (2, .iload_n kF3, 0)) rfl) rfl rfl ?_
                  refine w_load (pc' := 188) (v := .int z568) (m := 2) (ykc_49 (e := (2, .iload 4, 0)) rfl) rfl rfl ?_
                  refine w_cs (as := [.int z565, .int z568]) (r := [.int (zn (8 * f)), .ref 8]) (ykc_49 (e := (6, .invokestatic 107, 0)) rfl) rfl rfl rfl rfl (zc_way (d := zgr C f k) (r := zgc C f k) (by omega) (by omega) (by omega) (by omega) (by omega) (by omega) (by omega)) (fun v580 ph581 hv => ?_)
                  obtain ⟨rfl, rfl⟩ := hv
                  have tw8 := @zway_lt (zgr C f k) (zgc C f k)
                  have tw := znt (k := zway (zgr C f k) (zgc C f k)) (by omega)
                  show zW n572 D 49 Q 191 [some (.ref 5), some (.int (zn f)), some (.int (zn k)), some (.int z565), some (.int z568), some (.int (zn (zds C f k))), some (.int (zn d))] [.int (zn (zway (zgr C f k) (zgc C f k))), .int (zn (8 * f)), .ref 8] ph2
                  have e582 : (zn (8 * f)) + (zn (zway (zgr C f k) (zgc C f k))) = zn (8 * f + (zway (zgr C f k) (zgc C f k))) := (zaddN (a := 8 * f) (b := zway (zgr C f k) (zgc C f k)) (znt (by omega)) (znt (by omega)) (by omega)) 
                  have te582 := znt (k := 8 * f + (zway (zgr C f k) (zgc C f k))) (by omega)
                  refine w_alu (pc' := 192) (st' := [.int (zn (8 * f + (zway (zgr C f k) (zgc C f k)))), .ref 8]) (ykc_49 (e := (0, .iadd, 0)) rfl) (by rw [← e582]; rfl) rfl ?_
                  refine w_alu (pc' := 193) (st' := [.int (zn (8 * f + (zway (zgr C f k) (zgc C f k)))), .ref 8, .int (zn (8 * f + (zway (zgr C f k) (zgc C f k)))), .ref 8]) (ykc_49 (e := (0, .dup2, 0)) rfl) rfl rfl ?_
                  refine w_lalk (pc' := 194) (k := 8 * f + (zway (zgr C f k) (zgc C f k))) (ykc_49 (e := (5, .laload, 0)) rfl) ((e8 _).trans (h8 _ (by omega))) (by omega) rfl ?_
                  refine w_alu (pc' := 195) (st' := [.long (Int64.ofNat kG1), .long (zS (zTw C rk f (zway (zgr C f k) (zgc C f k))) k), .int (zn (8 * f + (zway (zgr C f k) (zgc C f k)))), .ref 8]) (ykc_49 (e := (0, .lconst kG1, 0)) rfl) rfl rfl ?_
                  refine w_load (pc' := 196) (v := .int (zn k)) (m := 1) (ykc_49 (e := (2, .iload_n kF2, 0)) rfl) rfl rfl ?_
                  refine w_alu (pc' := 197) (st' := [.long ((Int64.ofNat kG1) <<< ((zn k).toInt64 &&& 63)), .long (zS (zTw C rk f (zway (zgr C f k) (zgc C f k))) k), .int (zn (8 * f + (zway (zgr C f k) (zgc C f k)))), .ref 8]) (ykc_49 (e := (0, .lshl, 0)) rfl) rfl rfl ?_
                  refine w_alu (pc' := 198) (st' := [.long ((zS (zTw C rk f (zway (zgr C f k) (zgc C f k))) k) ||| ((Int64.ofNat kG1) <<< ((zn k).toInt64 &&& 63))), .int (zn (8 * f + (zway (zgr C f k) (zgc C f k)))), .ref 8]) (ykc_49 (e := (0, .lor, 0)) rfl) rfl rfl ?_
                  refine w_las (pc' := 199) (k := 8 * f + (zway (zgr C f k) (zgc C f k))) (ykc_49 (e := (5, .lastore, 0)) rfl) (by omega) rfl (fun ph584 u583 => ?_)
                  have e585 : (zn k) + Int32.ofInt 1 = zn (k + 1) := (zaddN (a := k) (b := 1) (znt (by omega)) c_4 (by omega))
                  have te585 := znt (k := k + 1) (by omega)
                  refine w_store (pc' := 202) (L' := [some (.ref 5), some (.int (zn f)), some (.int (zn (k + 1))), some (.int z565), some (.int z568), some (.int (zn (zds C f k))), some (.int (zn d))]) (st' := []) (m := 3) (ykc_49 (e := (3, .iinc 2 1, 0)) rfl) (by rw [← e585]; rfl) rfl ?_
                  refine w_gb (ykc_49 (e := (4, .goto (-136), 66)) rfl) (fun k586 hk586 => ?_)
                  have hcl : zclr C rk f k 7 = true := b576
                  exact ih k586 (by omega) (k + 1) _ _ _ _ _ (by omega) (zFr_add hf2 u583 (Or.inl (by first | exact zqi rfl | simp))) ((u583.2.1 5 4 (fun q => absurd q.1 (by first | exact Nat.ne_of_beq_eq_false rfl | decide))).trans h542) (fun w hw => by
                    by_cases q1 : w = zway (zgr C f k) (zgc C f k)
                    · rw [q1, zS_s, show zTw C rk f (zway (zgr C f k) (zgc C f k)) k = true by unfold zTw; rw [decide_eq_false (fun q => hne q.symm), hcl, decide_eq_true rfl]; rfl, cond_true]
                      exact u583.1
                    · rw [zS_s, show zTw C rk f w k = false by unfold zTw; rw [decide_eq_false (show ¬ zway (zgr C f k) (zgc C f k) = w from fun q => q1 q.symm)]; simp, cond_false, zor0]
                      exact (u583.2.1 8 (8 * f + w) (fun q => q1 (by have q2 := q.2; omega))).trans ((e8 _).trans (h8 w hw))) (fun e he => by
                    refine (u583.2.1 9 (7 * f + e) (fun q => absurd q.1 (by first | exact Nat.ne_of_beq_eq_false rfl | decide))).trans ?_
                    have h := e9 e he
                    by_cases q2 : zds C f k ≤ e
                    · rw [if_pos ⟨q2, by omega⟩] at h
                      exact h
                    · rw [if_neg (fun q => q2 q.1)] at h
                      rw [zS_s, show zWi C f e k = false by unfold zWi; rw [decide_eq_false q2]; simp, cond_false, zor0]
                      exact h) (fun i hi => (u583.2.1 8 i (fun q => by have q2 := q.2; omega)).trans ((e8 i).trans (o8 i hi))) (fun i hi => (u583.2.1 9 i (fun q => absurd q.1 (by first | exact Nat.ne_of_beq_eq_false rfl | decide))).trans (p9 i hi))
              · refine w_load (pc' := 143) (v := .ref 5) (m := 1) (ykc_49 (e := (2, .aload_n kF0, 0)) rfl) rfl rfl ?_
                refine w_gf (pc' := 146) (v := .ref 9) (ykc_49 (e := (5, .getfield 22, 0)) rfl) rfl ((hf2.1 5 8 (by first | exact zqm rfl | decide) (by first | exact zqp rfl | decide)).trans (zsg hS zs_5_8)) rfl ?_
                refine w_load (pc' := 147) (v := .int (zn f)) (m := 1) (ykc_49 (e := (2, .iload_n kF1, 0)) rfl) rfl rfl ?_
                refine w_push (pc' := 149) (v := .int ((Int8.ofInt 7).toInt32)) (m := 2) (ykc_49 (e := (1, .bipush 7, 0)) rfl) rfl rfl ?_
                have e587 : (zn f) * ((Int8.ofInt 7).toInt32) = zn (7 * f) := (zmulK (a := f) (b := 7) (znt (by omega)) c_1 (by omega))
                have te587 := znt (k := 7 * f) (by omega)
                refine w_alu (pc' := 150) (st' := [.int (zn (7 * f)), .ref 9]) (ykc_49 (e := (0, .imul, 0)) rfl) (by show some ([.int ((zn f) * ((Int8.ofInt 7).toInt32)), .ref 9] : List Value) = _; rw [e587]) rfl ?_
                refine w_load (pc' := 152) (v := .int (zn d)) (m := 2) (ykc_49 (e := (2, .iload 6, 0)) rfl) rfl rfl ?_
                have e588 : (zn (7 * f)) + (zn d) = zn (7 * f + d) := (zaddN (a := 7 * f) (b := d) (znt (by omega)) (znt (by omega)) (by omega)) 
                have te588 := znt (k := 7 * f + d) (by omega)
                refine w_alu (pc' := 153) (st' := [.int (zn (7 * f + d)), .ref 9]) (ykc_49 (e := (0, .iadd, 0)) rfl) (by rw [← e588]; rfl) rfl ?_
                refine w_alu (pc' := 154) (st' := [.int (zn (7 * f + d)), .ref 9, .int (zn (7 * f + d)), .ref 9]) (ykc_49 (e := (0, .dup2, 0)) rfl) rfl rfl ?_
                refine w_lalk (pc' := 155) (k := 7 * f + d) (ykc_49 (e := (5, .laload, 0)) rfl) (by have h := e9 d (by omega); rwa [if_neg (by omega)] at h) (by omega) rfl ?_
                refine w_alu (pc' := 156) (st' := [.long (Int64.ofNat kG1), .long (zS (zWi C f d) k), .int (zn (7 * f + d)), .ref 9]) (ykc_49 (e := (0, .lconst kG1, 0)) rfl) rfl rfl ?_
                refine w_load (pc' := 157) (v := .int (zn k)) (m := 1) (ykc_49 (e := (2, .iload_n kF2, 0)) rfl) rfl rfl ?_
                refine w_alu (pc' := 158) (st' := [.long ((Int64.ofNat kG1) <<< ((zn k).toInt64 &&& 63)), .long (zS (zWi C f d) k), .int (zn (7 * f + d)), .ref 9]) (ykc_49 (e := (0, .lshl, 0)) rfl) rfl rfl ?_
                refine w_alu (pc' := 159) (st' := [.long ((zS (zWi C f d) k) ||| ((Int64.ofNat kG1) <<< ((zn k).toInt64 &&& 63))), .int (zn (7 * f + d)), .ref 9]) (ykc_49 (e := (0, .lor, 0)) rfl) rfl rfl ?_
                refine w_las (pc' := 160) (k := 7 * f + d) (ykc_49 (e := (5, .lastore, 0)) rfl) (by omega) rfl (fun ph590 u589 => ?_)
                have e591 : (zn d) + Int32.ofInt 1 = zn (d + 1) := (zaddN (a := d) (b := 1) (znt (by omega)) c_4 (by omega))
                have te591 := znt (k := d + 1) (by omega)
                refine w_store (pc' := 163) (L' := [some (.ref 5), some (.int (zn f)), some (.int (zn k)), some (.int z565), some (.int z568), some (.int (zn (zds C f k))), some (.int (zn (d + 1)))]) (st' := []) (m := 3) (ykc_49 (e := (3, .iinc 6 1, 0)) rfl) (by rw [← e591]; rfl) rfl ?_
                refine w_gb (ykc_49 (e := (4, .goto (-28), 135)) rfl) (fun k592 hk592 => ?_)
                exact ihD k592 hk592 (by omega) (d + 1) _ (by omega) (by omega) (zFr_add hf2 u589 (Or.inl (by first | exact zqi rfl | simp))) ((u589.2.1 5 4 (fun q => absurd q.1 (by first | exact Nat.ne_of_beq_eq_false rfl | decide))).trans h542) (fun i => (u589.2.1 8 i (fun q => absurd q.1 (by first | exact Nat.ne_of_beq_eq_false rfl | decide))).trans (e8 i)) (fun e he => by
                  by_cases q1 : e = d
                  · subst q1
                    rw [if_pos (by omega), zS_s, show zWi C f e k = true by unfold zWi; rw [decide_eq_false (fun q => hne q.symm), decide_eq_true hd]; rfl, cond_true]
                    exact u589.1
                  · refine (u589.2.1 9 (7 * f + e) (fun q => q1 (by have q2 := q.2; omega))).trans ((e9 e he).trans ?_)
                    by_cases q2 : zds C f k ≤ e ∧ e < d
                    · rw [if_pos q2, if_pos (by omega)]
                    · rw [if_neg q2, if_neg (by omega)]) (fun i hi => (u589.2.1 9 i (fun q => by have q2 := q.2; omega)).trans (p9 i hi))
          exact hD n (Nat.le_refl _) (zds C f k) ph1 (by omega) (by omega) hf1 h54 (fun i => rfl) (fun e he => by rw [if_neg (by omega)]; exact h9 e he) o9
        · refine w_br (pc' := 199) (st' := []) (ykc_49 (e := (4, .goto 114, 199)) rfl) rfl ?_
          have e593 : (zn k) + Int32.ofInt 1 = zn (k + 1) := (zaddN (a := k) (b := 1) (znt (by omega)) c_4 (by omega))
          have te593 := znt (k := k + 1) (by omega)
          refine w_store (pc' := 202) (L' := [some (.ref 5), some (.int (zn f)), some (.int (zn (k + 1))), x3, x4, x5, x6]) (st' := []) (m := 3) (ykc_49 (e := (3, .iinc 2 1, 0)) rfl) (by rw [← e593]; rfl) rfl ?_
          refine w_gb (ykc_49 (e := (4, .goto (-136), 66)) rfl) (fun k594 hk594 => ?_)
          have ekf : k = f := by omega
          exact ih k594 hk594 (k + 1) _ _ _ _ ph1 (by omega) hf1 h54 (fun w hw => by
            rw [zS_s, show zTw C rk f w k = false by unfold zTw; rw [decide_eq_true ekf]; rfl, cond_false, zor0]
            exact h8 w hw) (fun d hd => by
            rw [zS_s, show zWi C f d k = false by unfold zWi; rw [decide_eq_true ekf]; rfl, cond_false, zor0]
            exact h9 d hd) o8 o9
  have hB : ∀ (n : Nat), ∀ (k : Nat) (ph1 : pm_H), (k ≤ 7) → (zFr [8, 9] [(5, 4)] ph ph1) → (zc ph1 5 4 = some (.long (x ||| (Int64.ofNat kG1 <<< ((zn f).toInt64 &&& 63))))) → (∀ w, w < 8 → zc ph1 8 (8 * f + w) = some (.long (Int64.ofNat kG0))) → (∀ d, d < k → zc ph1 9 (7 * f + d) = some (.long (Int64.ofNat kG0))) → (∀ i, i < 8 * f ∨ 8 * f + 8 ≤ i → zc ph1 8 i = zc ph 8 i) → (∀ i, i < 7 * f ∨ 7 * f + 7 ≤ i → zc ph1 9 i = zc ph 9 i) → zW n D 49 Q 40 [some (.ref 5), some (.int (zn f)), some (.int (zn k)), none, none, none, none] [] ph1 := by
    intro n
    induction n using Nat.strongRecOn with
    | ind n ih =>
      intro k ph1 hk hf1 h54 h8 h9 o8 o9
      have tk := znt (k := k) (by omega)
      refine w_load (pc' := 41) (v := .int (zn k)) (m := 1) (ykc_49 (e := (2, .iload_n kF2, 0)) rfl) rfl rfl ?_
      refine w_push (pc' := 43) (v := .int ((Int8.ofInt 7).toInt32)) (m := 2) (ykc_49 (e := (1, .bipush 7, 0)) rfl) rfl rfl ?_
      refine w_ige (ykc_49 (e := (4, .if_icmp .ge 21, 64)) rfl) rfl (fun b595 => ?_) (fun b595 => ?_)
      · refine w_alu (pc' := 65) (st' := [.int (Int32.ofInt 0)]) (ykc_49 (e := (0, .iconst 0, 0)) rfl) rfl rfl ?_
        refine w_store (pc' := 66) (L' := [some (.ref 5), some (.int (zn f)), some (.int (Int32.ofInt 0)), none, none, none, none]) (st' := []) (m := 1) (ykc_49 (e := (3, .istore_n kF2, 0)) rfl) rfl rfl ?_
        exact hC n 0 _ _ _ _ ph1 (Nat.zero_le _) hf1 h54 h8 (fun d hd => h9 d (by omega)) o8 o9
      · refine w_load (pc' := 47) (v := .ref 5) (m := 1) (ykc_49 (e := (2, .aload_n kF0, 0)) rfl) rfl rfl ?_
        refine w_gf (pc' := 50) (v := .ref 9) (ykc_49 (e := (5, .getfield 22, 0)) rfl) rfl ((hf1.1 5 8 (by first | exact zqm rfl | decide) (by first | exact zqp rfl | decide)).trans (zsg hS zs_5_8)) rfl ?_
        refine w_load (pc' := 51) (v := .int (zn f)) (m := 1) (ykc_49 (e := (2, .iload_n kF1, 0)) rfl) rfl rfl ?_
        refine w_push (pc' := 53) (v := .int ((Int8.ofInt 7).toInt32)) (m := 2) (ykc_49 (e := (1, .bipush 7, 0)) rfl) rfl rfl ?_
        have e596 : (zn f) * ((Int8.ofInt 7).toInt32) = zn (7 * f) := (zmulK (a := f) (b := 7) (znt (by omega)) c_1 (by omega))
        have te596 := znt (k := 7 * f) (by omega)
        refine w_alu (pc' := 54) (st' := [.int (zn (7 * f)), .ref 9]) (ykc_49 (e := (0, .imul, 0)) rfl) (by show some ([.int ((zn f) * ((Int8.ofInt 7).toInt32)), .ref 9] : List Value) = _; rw [e596]) rfl ?_
        refine w_load (pc' := 55) (v := .int (zn k)) (m := 1) (ykc_49 (e := (2, .iload_n kF2, 0)) rfl) rfl rfl ?_
        have e597 : (zn (7 * f)) + (zn k) = zn (7 * f + k) := (zaddN (a := 7 * f) (b := k) (znt (by omega)) (znt (by omega)) (by omega)) 
        have te597 := znt (k := 7 * f + k) (by omega)
        refine w_alu (pc' := 56) (st' := [.int (zn (7 * f + k)), .ref 9]) (ykc_49 (e := (0, .iadd, 0)) rfl) (by rw [← e597]; rfl) rfl ?_
        refine w_alu (pc' := 57) (st' := [.long (Int64.ofNat kG0), .int (zn (7 * f + k)), .ref 9]) (ykc_49 (e := (0, .lconst kG0, 0)) rfl) rfl rfl ?_
        refine w_las (pc' := 58) (k := 7 * f + k) (ykc_49 (e := (5, .lastore, 0)) rfl) (by omega) rfl (fun ph599 u598 => ?_)
        have e600 : (zn k) + Int32.ofInt 1 = zn (k + 1) := (zaddN (a := k) (b := 1) (znt (by omega)) c_4 (by omega))
        have te600 := znt (k := k + 1) (by omega)
        refine w_store (pc' := 61) (L' := [some (.ref 5), some (.int (zn f)), some (.int (zn (k + 1))), none, none, none, none]) (st' := []) (m := 3) (ykc_49 (e := (3, .iinc 2 1, 0)) rfl) (by rw [← e600]; rfl) rfl ?_
        refine w_gb (ykc_49 (e := (4, .goto (-21), 40)) rfl) (fun k601 hk601 => ?_)
        exact ih k601 hk601 (k + 1) _ (by omega) (zFr_add hf1 u598 (Or.inl (by first | exact zqi rfl | simp))) ((u598.2.1 5 4 (fun q => absurd q.1 (by first | exact Nat.ne_of_beq_eq_false rfl | decide))).trans h54) (fun w hw => (u598.2.1 8 _ (fun q => absurd q.1 (by first | exact Nat.ne_of_beq_eq_false rfl | decide))).trans (h8 w hw)) (fun d hd => by
          by_cases q1 : d = k
          · subst q1
            exact u598.1
          · exact (u598.2.1 9 (7 * f + d) (fun q => q1 (by have q2 := q.2; omega))).trans (h9 d (by omega))) (fun i hi => (u598.2.1 8 i (fun q => absurd q.1 (by first | exact Nat.ne_of_beq_eq_false rfl | decide))).trans (o8 i hi)) (fun i hi => (u598.2.1 9 i (fun q => by have q2 := q.2; omega)).trans (o9 i hi))
  have hA : ∀ (n : Nat), ∀ (k : Nat) (ph1 : pm_H), (k ≤ 8) → (zFr [8, 9] [(5, 4)] ph ph1) → (zc ph1 5 4 = some (.long (x ||| (Int64.ofNat kG1 <<< ((zn f).toInt64 &&& 63))))) → (∀ w, w < k → zc ph1 8 (8 * f + w) = some (.long (Int64.ofNat kG0))) → (∀ i, i < 8 * f ∨ 8 * f + 8 ≤ i → zc ph1 8 i = zc ph 8 i) → (∀ i, zc ph1 9 i = zc ph 9 i) → zW n D 49 Q 14 [some (.ref 5), some (.int (zn f)), some (.int (zn k)), none, none, none, none] [] ph1 := by
    intro n
    induction n using Nat.strongRecOn with
    | ind n ih =>
      intro k ph1 hk hf1 h54 h8 o8 o9
      have tk := znt (k := k) (by omega)
      refine w_load (pc' := 15) (v := .int (zn k)) (m := 1) (ykc_49 (e := (2, .iload_n kF2, 0)) rfl) rfl rfl ?_
      refine w_push (pc' := 17) (v := .int ((Int8.ofInt 8).toInt32)) (m := 2) (ykc_49 (e := (1, .bipush 8, 0)) rfl) rfl rfl ?_
      refine w_ige (ykc_49 (e := (4, .if_icmp .ge 21, 38)) rfl) rfl (fun b602 => ?_) (fun b602 => ?_)
      · refine w_alu (pc' := 39) (st' := [.int (Int32.ofInt 0)]) (ykc_49 (e := (0, .iconst 0, 0)) rfl) rfl rfl ?_
        refine w_store (pc' := 40) (L' := [some (.ref 5), some (.int (zn f)), some (.int (Int32.ofInt 0)), none, none, none, none]) (st' := []) (m := 1) (ykc_49 (e := (3, .istore_n kF2, 0)) rfl) rfl rfl ?_
        exact hB n 0 ph1 (Nat.zero_le _) hf1 h54 (fun w hw => h8 w (by omega)) (fun d hd => absurd hd (Nat.not_lt_zero d)) o8 (fun i _ => o9 i)
      · refine w_load (pc' := 21) (v := .ref 5) (m := 1) (ykc_49 (e := (2, .aload_n kF0, 0)) rfl) rfl rfl ?_
        refine w_gf (pc' := 24) (v := .ref 8) (ykc_49 (e := (5, .getfield 18, 0)) rfl) rfl ((hf1.1 5 7 (by first | exact zqm rfl | decide) (by first | exact zqp rfl | decide)).trans (zsg hS zs_5_7)) rfl ?_
        refine w_load (pc' := 25) (v := .int (zn f)) (m := 1) (ykc_49 (e := (2, .iload_n kF1, 0)) rfl) rfl rfl ?_
        refine w_push (pc' := 27) (v := .int ((Int8.ofInt 8).toInt32)) (m := 2) (ykc_49 (e := (1, .bipush 8, 0)) rfl) rfl rfl ?_
        have e603 : (zn f) * ((Int8.ofInt 8).toInt32) = zn (8 * f) := (zmulK (a := f) (b := 8) (znt (by omega)) c_2 (by omega))
        have te603 := znt (k := 8 * f) (by omega)
        refine w_alu (pc' := 28) (st' := [.int (zn (8 * f)), .ref 8]) (ykc_49 (e := (0, .imul, 0)) rfl) (by show some ([.int ((zn f) * ((Int8.ofInt 8).toInt32)), .ref 8] : List Value) = _; rw [e603]) rfl ?_
        refine w_load (pc' := 29) (v := .int (zn k)) (m := 1) (ykc_49 (e := (2, .iload_n kF2, 0)) rfl) rfl rfl ?_
        have e604 : (zn (8 * f)) + (zn k) = zn (8 * f + k) := (zaddN (a := 8 * f) (b := k) (znt (by omega)) (znt (by omega)) (by omega)) 
        have te604 := znt (k := 8 * f + k) (by omega)
        refine w_alu (pc' := 30) (st' := [.int (zn (8 * f + k)), .ref 8]) (ykc_49 (e := (0, .iadd, 0)) rfl) (by rw [← e604]; rfl) rfl ?_
        refine w_alu (pc' := 31) (st' := [.long (Int64.ofNat kG0), .int (zn (8 * f + k)), .ref 8]) (ykc_49 (e := (0, .lconst kG0, 0)) rfl) rfl rfl ?_
        refine w_las (pc' := 32) (k := 8 * f + k) (ykc_49 (e := (5, .lastore, 0)) rfl) (by omega) rfl (fun ph606 u605 => ?_)
        have e607 : (zn k) + Int32.ofInt 1 = zn (k + 1) := (zaddN (a := k) (b := 1) (znt (by omega)) c_4 (by omega))
        have te607 := znt (k := k + 1) (by omega)
        refine w_store (pc' := 35) (L' := [some (.ref 5), some (.int (zn f)), some (.int (zn (k + 1))), none, none, none, none]) (st' := []) (m := 3) (ykc_49 (e := (3, .iinc 2 1, 0)) rfl) (by rw [← e607]; rfl) rfl ?_
        refine w_gb (ykc_49 (e := (4, .goto (-21), 14)) rfl) (fun k608 hk608 => ?_)
        exact ih k608 hk608 (k + 1) _ (by omega) (zFr_add hf1 u605 (Or.inl (by first | exact zqi rfl | simp))) ((u605.2.1 5 4 (fun q => absurd q.1 (by first | exact Nat.ne_of_beq_eq_false rfl | decide))).trans h54) (fun w hw => by
          by_cases q1 : w = k
          · subst q1
            exact u605.1
          · exact (u605.2.1 8 (8 * f + w) (fun q => q1 (by have q2 := q.2; omega))).trans (h8 w (by omega))) (fun i hi => (u605.2.1 8 i (fun q => by have q2 := q.2; omega)).trans (o8 i hi)) (fun i => (u605.2.1 9 i (fun q => absurd q.1 (by first | exact Nat.ne_of_beq_eq_false rfl | decide))).trans (o9 i))
  refine w_load (pc' := 1) (v := .ref 5) (m := 1) (ykc_49 (e := (2, .aload_n kF0, 0)) rfl) rfl rfl ?_
  refine w_alu (pc' := 2) (st' := [.ref 5, .ref 5]) (ykc_49 (e := (0, .dup, 0)) rfl) rfl rfl ?_
  refine w_gf (pc' := 5) (v := .long x) (ykc_49 (e := (5, .getfield 57, 0)) rfl) rfl hx rfl ?_
  refine w_alu (pc' := 6) (st' := [.long (Int64.ofNat kG1), .long x, .ref 5]) (ykc_49 (e := (0, .lconst kG1, 0)) rfl) rfl rfl ?_
  refine w_load (pc' := 7) (v := .int (zn f)) (m := 1) (ykc_49 (e := (2, .iload_n kF1, 0)) rfl) rfl rfl ?_
  refine w_alu (pc' := 8) (st' := [.long ((Int64.ofNat kG1) <<< ((zn f).toInt64 &&& 63)), .long x, .ref 5]) (ykc_49 (e := (0, .lshl, 0)) rfl) rfl rfl ?_
  refine w_alu (pc' := 9) (st' := [.long (x ||| ((Int64.ofNat kG1) <<< ((zn f).toInt64 &&& 63))), .ref 5]) (ykc_49 (e := (0, .lor, 0)) rfl) rfl rfl ?_
  refine w_pf (pc' := 12) (ykc_49 (e := (5, .putfield 57, 0)) rfl) rfl rfl (fun ph610 u609 => ?_)
  refine w_alu (pc' := 13) (st' := [.int (Int32.ofInt 0)]) (ykc_49 (e := (0, .iconst 0, 0)) rfl) rfl rfl ?_
  refine w_store (pc' := 14) (L' := [some (.ref 5), some (.int (zn f)), some (.int (Int32.ofInt 0)), none, none, none, none]) (st' := []) (m := 1) (ykc_49 (e := (3, .istore_n kF2, 0)) rfl) rfl rfl ?_
  exact hA n 0 ph610 (Nat.zero_le _) (zFr_st u609 (Or.inr (by first | exact zqj rfl | simp))) u609.1 (fun w hw => absurd hw (Nat.not_lt_zero w)) (fun i _ => u609.2.1 8 i (fun q => absurd q.1 (by first | exact Nat.ne_of_beq_eq_false rfl | decide))) (fun i => u609.2.1 9 i (fun q => absurd q.1 (by first | exact Nat.ne_of_beq_eq_false rfl | decide)))
