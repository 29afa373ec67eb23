/-! a DAY's text: the class's Plan and the reference's acts, by W; printed by wip/z/z1l_plan.py -/
/-- an act's kind by its letter, or 5; how many digits it wants, 0 for no letter -/
def zdk (c : Nat) : Nat := if c = 110 then 0 else if c = 102 then 1 else if c = 103 then 2 else if c = 98 then 3 else if c = 112 then 4 else 5
def zdw (c : Nat) : Nat := if c = 110 then 1 else if c = 102 then 2 else if c = 103 then 2 else if c = 98 then 2 else if c = 112 then 3 else 0
theorem zdw_3 {c : Nat} : zdw c ≤ 3 := by
  unfold zdw
  (repeat' split) <;> omega
theorem zdw_k : ∀ k, k < 5 → zdw (zls [110, 102, 103, 98, 112] k) = (if k = 0 then 1 else if k = 4 then 3 else 2) ∧ zdk (zls [110, 102, 103, 98, 112] k) = k := by decide
theorem zdw_n {c : Nat} (h : ∀ k, k < 5 → c ≠ zls [110, 102, 103, 98, 112] k) : zdw c = 0 := by
  have h0 : c ≠ 110 := h 0 (by decide)
  have h1 : c ≠ 102 := h 1 (by decide)
  have h2 : c ≠ 103 := h 2 (by decide)
  have h3 : c ≠ 98 := h 3 (by decide)
  have h4 : c ≠ 112 := h 4 (by decide)
  unfold zdw
  rw [if_neg h0, if_neg h1, if_neg h2, if_neg h3, if_neg h4]
/-- where act i begins -/
def zDp (t : Nat → Nat) : Nat → Nat
  | 0 => 0
  | i + 1 => zDp t i + 1 + zdw (t (zDp t i))
/-- act i is whole below b -/
def zDg (b : Nat) (t : Nat → Nat) (i : Nat) : Prop := 0 < zdw (t (zDp t i)) ∧ zDp t i + zdw (t (zDp t i)) < b ∧ ∀ j, j < zdw (t (zDp t i)) → zdi (t (zDp t i + 1 + j)) = true
def zDok (b : Nat) (t : Nat → Nat) (k : Nat) : Prop := ∀ i, i < k → zDg b t i
/-- what stands at s is no whole act below b: the fault is at a -/
def zDb (b : Nat) (t : Nat → Nat) (s a : Nat) : Prop := s < b ∧ ((a = s ∧ zdw (t s) = 0) ∨ ∃ h, h < zdw (t s) ∧ a = s + 1 + h ∧ a ≤ b ∧ (∀ j, j < h → zdi (t (s + 1 + j)) = true) ∧ (a < b → zdi (t a) = false))
/-- k whole acts, then the end (well) or a fault at a -/
def zDo (b : Nat) (t : Nat → Nat) (ok : Bool) (a k : Nat) : Prop := zDok b t k ∧ ((ok = true ∧ a = b ∧ zDp t k = b) ∨ (ok = false ∧ zDb b t (zDp t k) a))
/-- the class, i signs on: c acts begun, w digits wanted, h had -/
def zDI (b : Nat) (t : Nat → Nat) (c w h i : Nat) : Prop := (c = 0 ∧ w = 0 ∧ h = 0 ∧ i = 0) ∨ ∃ k, c = k + 1 ∧ zDok b t k ∧ w = zdw (t (zDp t k)) ∧ 0 < w ∧ h ≤ w ∧ i = zDp t k + 1 + h ∧ ∀ j, j < h → zdi (t (zDp t k + 1 + j)) = true
section ZDY
variable {b : Nat} {t : Nat → Nat}
theorem zDp_ge {k : Nat} (h : zDok b t k) : 2 * k ≤ zDp t k := by
  induction k with
  | zero => exact Nat.zero_le _
  | succ k ih =>
    have h1 := ih (fun i hi => h i (by omega))
    have h2 := (h k (by omega)).1
    show 2 * (k + 1) ≤ zDp t k + 1 + zdw (t (zDp t k))
    omega
theorem zDok_s {k : Nat} (h : zDok b t k) (hg : zDg b t k) : zDok b t (k + 1) := fun i hi => by
  by_cases e : i = k
  · subst e; exact hg
  · exact h i (by omega)
theorem zDI_w {c w h i : Nat} (hI : zDI b t c w h i) : w ≤ 3 ∧ h ≤ w ∧ (h < w → 0 < c) := by
  rcases hI with ⟨h1, h2, h3, h4⟩ | ⟨k, h1, h2, h3, h4, h5, h6, h7⟩
  · omega
  · have := @zdw_3 (t (zDp t k))
    omega
/-- the act is whole -/
theorem zDI_f {c w h i : Nat} (hI : zDI b t c w h i) (hh : ¬ h < w) (hib : i ≤ b) : zDok b t c ∧ zDp t c = i := by
  rcases hI with ⟨h1, h2, h3, h4⟩ | ⟨k, h1, h2, h3, h4, h5, h6, h7⟩
  · subst h1 h4
    exact ⟨fun i hi => absurd hi (Nat.not_lt_zero i), rfl⟩
  · subst h1
    have e : h = zdw (t (zDp t k)) := by omega
    refine ⟨zDok_s h2 ⟨by omega, by omega, fun j hj => h7 j (by omega)⟩, ?_⟩
    show zDp t k + 1 + zdw (t (zDp t k)) = i
    omega
theorem zDI_c {c w h i : Nat} (hI : zDI b t c w h i) (hh : ¬ h < w) (hib : i ≤ b) : 2 * c ≤ i := by
  obtain ⟨h1, h2⟩ := zDI_f hI hh hib
  have := zDp_ge h1
  omega
theorem zDI_k {c w h i : Nat} (hI : zDI b t c w h i) (hh : ¬ h < w) (hib : i < b) (hw : 0 < zdw (t i)) : zDI b t (c + 1) (zdw (t i)) 0 (i + 1) := by
  obtain ⟨h1, h2⟩ := zDI_f hI hh (Nat.le_of_lt hib)
  exact Or.inr ⟨c, rfl, h1, by rw [h2], hw, Nat.zero_le _, by omega, fun j hj => absurd hj (Nat.not_lt_zero j)⟩
theorem zDI_d {c w h i : Nat} (hI : zDI b t c w h i) (hh : h < w) (hd : zdi (t i) = true) : zDI b t c w (h + 1) (i + 1) := by
  rcases hI with ⟨h1, h2, h3, h4⟩ | ⟨k, h1, h2, h3, h4, h5, h6, h7⟩
  · omega
  · refine Or.inr ⟨k, h1, h2, h3, h4, hh, by omega, fun j hj => ?_⟩
    by_cases e : j = h
    · subst e; rw [← h6]; exact hd
    · exact h7 j (by omega)
/-- the ends -/
theorem zDI_xk {c w h i : Nat} (hI : zDI b t c w h i) (hh : ¬ h < w) (hib : i < b) (hw : zdw (t i) = 0) : zDo b t false i c := by
  obtain ⟨h1, h2⟩ := zDI_f hI hh (Nat.le_of_lt hib)
  exact ⟨h1, Or.inr ⟨rfl, by omega, Or.inl ⟨h2.symm, by rw [h2]; exact hw⟩⟩⟩
theorem zDI_xd {c w h i : Nat} (hI : zDI b t c w h i) (hh : h < w) (hib : i ≤ b) (hd : i < b → zdi (t i) = false) : ∃ k, c = k + 1 ∧ zDo b t false i k := by
  rcases hI with ⟨h1, h2, h3, h4⟩ | ⟨k, h1, h2, h3, h4, h5, h6, h7⟩
  · omega
  · exact ⟨k, h1, h2, Or.inr ⟨rfl, by omega, Or.inr ⟨h, by omega, h6, hib, h7, hd⟩⟩⟩
theorem zDI_e {c w h : Nat} (hI : zDI b t c w h b) (hh : ¬ h < w) : zDo b t true b c := by
  obtain ⟨h1, h2⟩ := zDI_f hI hh (Nat.le_refl _)
  exact ⟨h1, Or.inl ⟨rfl, rfl, h2⟩⟩
theorem zDb_g {k a : Nat} (h : zDb b t (zDp t k) a) : ¬ zDg b t k := fun hg => by
  obtain ⟨g1, g2, g3⟩ := hg
  obtain ⟨h0, ⟨h1, h2⟩ | ⟨e, h1, h2, h3, h4, h5⟩⟩ := h
  · omega
  · have h6 := g3 e h1
    rw [← h2, h5 (by omega)] at h6
    cases h6
theorem zDb_u {s a a' : Nat} (h : zDb b t s a) (h' : zDb b t s a') : a = a' := by
  obtain ⟨-, ⟨h1, h2⟩ | ⟨e, h1, h2, h3, h4, h5⟩⟩ := h
  · obtain ⟨-, ⟨k1, k2⟩ | ⟨e', k1, k2, k3, k4, k5⟩⟩ := h' <;> omega
  · obtain ⟨-, ⟨k1, k2⟩ | ⟨e', k1, k2, k3, k4, k5⟩⟩ := h'
    · omega
    · rcases Nat.lt_trichotomy e e' with q | q | q
      · have := k4 e q
        rw [← h2, h5 (by omega)] at this
        cases this
      · omega
      · have := h4 e' q
        rw [← k2, k5 (by omega)] at this
        cases this
theorem zDo_k {ok : Bool} {a k k' : Nat} (h : zDo b t ok a k) (h' : zDok b t k') : k' ≤ k := by
  by_cases q : k < k'
  · exfalso
    have hg := h' k q
    rcases h.2 with ⟨-, -, h3⟩ | ⟨-, h2⟩
    · have := hg.2.1
      omega
    · exact zDb_g h2 hg
  · omega
/-- one outcome alone -/
theorem zDo_u {ok ok' : Bool} {a a' k k' : Nat} (h : zDo b t ok a k) (h' : zDo b t ok' a' k') : ok = ok' ∧ a = a' ∧ k = k' := by
  have e : k = k' := Nat.le_antisymm (zDo_k h' h.1) (zDo_k h h'.1)
  subst e
  rcases h.2 with ⟨h1, h2, h3⟩ | ⟨h1, h2⟩ <;> rcases h'.2 with ⟨k1, k2, k3⟩ | ⟨k1, k2⟩
  · exact ⟨h1.trans k1.symm, h2.trans k2.symm, rfl⟩
  · have := k2.1
    omega
  · have := h2.1
    omega
  · exact ⟨h1.trans k1.symm, zDb_u h2 k2, rfl⟩
theorem zDo_a {ok : Bool} {a k : Nat} (h : zDo b t ok a k) : a ≤ b := by
  rcases h.2 with ⟨-, h2, -⟩ | ⟨-, h0, ⟨h1, -⟩ | ⟨e, -, -, h3, -⟩⟩ <;> omega
end ZDY
def zdT (w : Nat) : Nat := if w = 1 then 76 else if w = 2 then 78 else if w = 3 then 80 else 82
theorem zbr66 : (List.range 256).all (fun c => match pm_br (.tableswitch 81 98 112 #[77, 81, 81, 81, 77, 77, 81, 81, 81, 81, 81, 81, 75, 81, 79]) 75 1 [.int (zn c)] with
  | some (t, []) => Nat.beq t (zdT (zdw c))
  | _ => false) = true := by decide +kernel
theorem zbr66c {c k : Nat} (h : c < 256) (hk : zdw c = k) : pm_br (.tableswitch 81 98 112 #[77, 81, 81, 81, 77, 77, 81, 81, 81, 81, 81, 81, 75, 81, 79]) 75 1 [.int (zn c)] = some (zdT k, []) := by
  have h1 := List.all_eq_true.mp zbr66 c (List.mem_range.mpr h)
  generalize pm_br (.tableswitch 81 98 112 #[77, 81, 81, 81, 77, 77, 81, 81, 81, 81, 81, 81, 75, 81, 79]) 75 1 [.int (zn c)] = x at h1
  rw [hk] at h1
  match x, h1 with
  | some (t, []), h1 => rw [Nat.eq_of_beq_eq_true h1]
/-- what the class's Plan holds: c letters, digits, h of the last act's -/
def zDd (ph : pm_H) (t : Nat → Nat) (c h : Nat) : Prop := (∀ i, i < c → zc ph 158 i = some (.int (zn (t (zDp t i))))) ∧ ∀ i j, i < c → j < zdw (t (zDp t i)) → (i + 1 < c ∨ j < h) → zc ph 159 (3 * i + j) = some (.int (zn (t (zDp t i + 1 + j) - 48)))
theorem zDd_F {A : List Nat} {L : List (Nat × Nat)} {p q : pm_H} {t : Nat → Nat} {c h : Nat} (f : zFr A L p q) (h1 : 158 ∉ A ∧ 159 ∉ A) (h2 : (∀ i, (158, i) ∉ L) ∧ ∀ i, (159, i) ∉ L) (g : zDd p t c h) : zDd q t c h := ⟨fun i hi => (f.1 _ _ h1.1 (h2.1 i)).trans (g.1 i hi), fun i j a1 a2 a3 => (f.1 _ _ h1.2 (h2.2 _)).trans (g.2 i j a1 a2 a3)⟩
theorem zc_digitsOf {c : Nat} {ph : pm_H} (hc : c < 256) : zM 66 [.int (zn c)] ph (fun v0 q => ph = q ∧ v0 = some (.int (zn (zdw c)))) := by
  obtain ⟨Q, hQ⟩ : ∃ Q : Option Value → pm_H → Prop, Q = (fun v0 q => ph = q ∧ v0 = some (.int (zn (zdw c)))) := ⟨_, rfl⟩
  rw [← hQ]
  refine zM_mk fun n D => ?_
  show zW n D 66 Q 0 [some (.int (zn c))] [] ph
  have c_0 : (Int32.ofInt 0).toInt = 0 := by decide
  have c_1 : (Int32.ofInt 1).toInt = 1 := by decide
  have c_2 : (Int32.ofInt 2).toInt = 2 := by decide
  have c_3 : (Int32.ofInt 3).toInt = 3 := by decide
  have h4 := @zdw_3 c
  refine w_load (pc' := 1) (v := .int (zn c)) (m := 1) (ykc_66 (e := (2, .iload_n kF0, 0)) rfl) rfl rfl ?_
  rcases (show zdw c = 0 ∨ zdw c = 1 ∨ zdw c = 2 ∨ zdw c = 3 by omega) with e | e | e | e
  · refine w_br (pc' := 82) (st' := []) (ykc_66 (e := (4, .tableswitch 81 98 112 #[77, 81, 81, 81, 77, 77, 81, 81, 81, 81, 81, 81, 75, 81, 79], 75)) rfl) (zbr66c hc e) ?_
    refine w_alu (pc' := 83) (st' := [.int (Int32.ofInt 0)]) (ykc_66 (e := (0, .iconst 0, 0)) rfl) rfl rfl ?_
    refine w_ret (v := (some (.int (Int32.ofInt 0)))) (ykc_66 (e := (7, .ireturn, 0)) rfl) (zr_v rfl) ?_
    rw [hQ, e]
    exact ⟨rfl, rfl⟩
  · refine w_br (pc' := 76) (st' := []) (ykc_66 (e := (4, .tableswitch 81 98 112 #[77, 81, 81, 81, 77, 77, 81, 81, 81, 81, 81, 81, 75, 81, 79], 75)) rfl) (zbr66c hc e) ?_
    refine w_alu (pc' := 77) (st' := [.int (Int32.ofInt 1)]) (ykc_66 (e := (0, .iconst 1, 0)) rfl) rfl rfl ?_
    refine w_ret (v := (some (.int (Int32.ofInt 1)))) (ykc_66 (e := (7, .ireturn, 0)) rfl) (zr_v rfl) ?_
    rw [hQ, e]
    exact ⟨rfl, rfl⟩
  · refine w_br (pc' := 78) (st' := []) (ykc_66 (e := (4, .tableswitch 81 98 112 #[77, 81, 81, 81, 77, 77, 81, 81, 81, 81, 81, 81, 75, 81, 79], 75)) rfl) (zbr66c hc e) ?_
    refine w_alu (pc' := 79) (st' := [.int (Int32.ofInt 2)]) (ykc_66 (e := (0, .iconst 2, 0)) rfl) rfl rfl ?_
    refine w_ret (v := (some (.int (Int32.ofInt 2)))) (ykc_66 (e := (7, .ireturn, 0)) rfl) (zr_v rfl) ?_
    rw [hQ, e]
    exact ⟨rfl, rfl⟩
  · refine w_br (pc' := 80) (st' := []) (ykc_66 (e := (4, .tableswitch 81 98 112 #[77, 81, 81, 81, 77, 77, 81, 81, 81, 81, 81, 81, 75, 81, 79], 75)) rfl) (zbr66c hc e) ?_
    refine w_alu (pc' := 81) (st' := [.int (Int32.ofInt 3)]) (ykc_66 (e := (0, .iconst 3, 0)) rfl) rfl rfl ?_
    refine w_ret (v := (some (.int (Int32.ofInt 3)))) (ykc_66 (e := (7, .ireturn, 0)) rfl) (zr_v rfl) ?_
    rw [hQ, e]
    exact ⟨rfl, rfl⟩
theorem zc_takeKind {ph : pm_H} {c : Nat} {x : Int32} (hS : zSh ph) (hc : zc ph 157 2 = some (.int (zn c))) (h30 : c < 30) : zM 67 [.ref 157, .int x] ph (fun v0 q => v0 = some (.int (zI true)) ∧ zFr [158] [(157, 2)] ph q ∧ zc q 157 2 = some (.int (zn (c + 1))) ∧ zc q 158 c = some (.int x) ∧ ∀ i, i ≠ c → zc q 158 i = zc ph 158 i) := by
  obtain ⟨Q, hQ⟩ : ∃ Q : Option Value → pm_H → Prop, Q = (fun v0 q => v0 = some (.int (zI true)) ∧ zFr [158] [(157, 2)] ph q ∧ zc q 157 2 = some (.int (zn (c + 1))) ∧ zc q 158 c = some (.int x) ∧ ∀ i, i ≠ c → zc q 158 i = zc ph 158 i) := ⟨_, rfl⟩
  rw [← hQ]
  refine zM_mk fun n D => ?_
  show zW n D 67 Q 0 [some (.ref 157), some (.int x)] [] ph
  have c_0 : ((Int8.ofInt 30).toInt32).toInt = 30 := by decide
  have c_1 : (Int32.ofInt 0).toInt = 0 := by decide
  have c_2 : (Int32.ofInt 1).toInt = 1 := by decide
  have tc := znt (k := c) (by omega)
  refine w_load (pc' := 1) (v := .ref 157) (m := 1) (ykc_67 (e := (2, .aload_n kF0, 0)) rfl) rfl rfl ?_
  refine w_gf (pc' := 4) (v := .int (zn c)) (ykc_67 (e := (5, .getfield 18, 0)) rfl) rfl hc rfl ?_
  refine w_zlt (ykc_67 (e := (4, .ifCond .lt 12, 16)) rfl) rfl (fun q => by exfalso; omega) (fun b1517 => ?_)
  refine w_load (pc' := 8) (v := .ref 157) (m := 1) (ykc_67 (e := (2, .aload_n kF0, 0)) rfl) rfl rfl ?_
  refine w_gf (pc' := 11) (v := .int (zn c)) (ykc_67 (e := (5, .getfield 18, 0)) rfl) rfl hc rfl ?_
  refine w_push (pc' := 13) (v := .int ((Int8.ofInt 30).toInt32)) (m := 2) (ykc_67 (e := (1, .bipush 30, 0)) rfl) rfl rfl ?_
  refine w_ilt (ykc_67 (e := (4, .if_icmp .lt 5, 18)) rfl) rfl (fun b1518 => ?_) (fun q => by exfalso; omega)
  refine w_load (pc' := 19) (v := .ref 157) (m := 1) (ykc_67 (e := (2, .aload_n kF0, 0)) rfl) rfl rfl ?_
  refine w_gf (pc' := 22) (v := .ref 158) (ykc_67 (e := (5, .getfield 11, 0)) rfl) rfl (zsg hS zs_157_0) rfl ?_
  refine w_load (pc' := 23) (v := .ref 157) (m := 1) (ykc_67 (e := (2, .aload_n kF0, 0)) rfl) rfl rfl ?_
  refine w_gf (pc' := 26) (v := .int (zn c)) (ykc_67 (e := (5, .getfield 18, 0)) rfl) rfl hc rfl ?_
  refine w_load (pc' := 27) (v := .int x) (m := 1) (ykc_67 (e := (2, .iload_n kF1, 0)) rfl) rfl rfl ?_
  refine w_ias (pc' := 28) (k := c) (ykc_67 (e := (5, .iastore, 0)) rfl) (by omega) rfl (fun ph1520 u1519 => ?_)
  refine w_load (pc' := 29) (v := .ref 157) (m := 1) (ykc_67 (e := (2, .aload_n kF0, 0)) rfl) rfl rfl ?_
  refine w_alu (pc' := 30) (st' := [.ref 157, .ref 157]) (ykc_67 (e := (0, .dup, 0)) rfl) rfl rfl ?_
  refine w_gf (pc' := 33) (v := .int (zn c)) (ykc_67 (e := (5, .getfield 18, 0)) rfl) rfl ((u1519.2.1 157 2 (fun q => absurd q.1 (by decide))).trans hc) rfl ?_
  refine w_alu (pc' := 34) (st' := [.int (Int32.ofInt 1), .int (zn c), .ref 157]) (ykc_67 (e := (0, .iconst 1, 0)) rfl) rfl rfl ?_
  have e1521 : (zn c) + (Int32.ofInt 1) = zn (c + 1) := (zaddN (a := c) (b := 1) (znt (by omega)) c_2 (by omega)) 
  have te1521 := znt (k := c + 1) (by omega)
  refine w_alu (pc' := 35) (st' := [.int (zn (c + 1)), .ref 157]) (ykc_67 (e := (0, .iadd, 0)) rfl) (by rw [← e1521]; rfl) rfl ?_
  refine w_pf (pc' := 38) (ykc_67 (e := (5, .putfield 18, 0)) rfl) rfl rfl (fun ph1523 u1522 => ?_)
  refine w_alu (pc' := 39) (st' := [.int (Int32.ofInt 1)]) (ykc_67 (e := (0, .iconst 1, 0)) rfl) rfl rfl ?_
  refine w_ret (v := (some (.int (Int32.ofInt 1)))) (ykc_67 (e := (7, .ireturn, 0)) rfl) zr_z ?_
  rw [hQ, zi1]
  exact ⟨rfl, zFr_trans (zFr_st u1519 (Or.inl (by simp))) (zFr_st u1522 (Or.inr (by simp))), u1522.1, (u1522.2.1 158 c (fun q => absurd q.1 (by decide))).trans u1519.1, fun i hi => (u1522.2.1 158 i (fun q => absurd q.1 (by decide))).trans (u1519.2.1 158 i (fun q => hi q.2))⟩
theorem zc_takeDg {ph : pm_H} {k h : Nat} {z : Int32} (hS : zSh ph) (hc : zc ph 157 2 = some (.int (zn (k + 1)))) (h30 : k < 30) (h3 : h < 3) : zM 68 [.ref 157, .int z, .int (zn h)] ph (fun v0 q => (z.toInt < 0 ∧ ph = q ∧ v0 = some (.int (zI false))) ∨ (0 ≤ z.toInt ∧ v0 = some (.int (zI true)) ∧ zst ph q 159 (3 * k + h) (.int z))) := by
  obtain ⟨Q, hQ⟩ : ∃ Q : Option Value → pm_H → Prop, Q = (fun v0 q => (z.toInt < 0 ∧ ph = q ∧ v0 = some (.int (zI false))) ∨ (0 ≤ z.toInt ∧ v0 = some (.int (zI true)) ∧ zst ph q 159 (3 * k + h) (.int z))) := ⟨_, rfl⟩
  rw [← hQ]
  refine zM_mk fun n D => ?_
  show zW n D 68 Q 0 [some (.ref 157), some (.int z), some (.int (zn h)), none] [] ph
  have c_0 : (Int32.ofInt 0).toInt = 0 := by decide
  have c_1 : (Int32.ofInt 1).toInt = 1 := by decide
  have c_2 : (Int32.ofInt 3).toInt = 3 := by decide
  have tc := znt (k := k + 1) (by omega)
  have th := znt (k := h) (by omega)
  refine w_load (pc' := 1) (v := .ref 157) (m := 1) (ykc_68 (e := (2, .aload_n kF0, 0)) rfl) rfl rfl ?_
  refine w_gf (pc' := 4) (v := .int (zn (k + 1))) (ykc_68 (e := (5, .getfield 18, 0)) rfl) rfl hc rfl ?_
  refine w_alu (pc' := 5) (st' := [.int (Int32.ofInt 1), .int (zn (k + 1))]) (ykc_68 (e := (0, .iconst 1, 0)) rfl) rfl rfl ?_
  have e1524 : (zn (k + 1)) - (Int32.ofInt 1) = zn (k) := zsubN (a := k + 1) (b := 1) tc c_1 (by omega)
  have te1524 := znt (k := k) (by omega)
  refine w_alu (pc' := 6) (st' := [.int (zn (k))]) (ykc_68 (e := (0, .isub, 0)) rfl) (by show some ([.int ((zn (k + 1)) - (Int32.ofInt 1))] : List Value) = _; rw [e1524]) rfl ?_
  refine w_alu (pc' := 7) (st' := [.int (Int32.ofInt 3), .int (zn (k))]) (ykc_68 (e := (0, .iconst 3, 0)) rfl) rfl rfl ?_
  have e1525 : (zn (k)) * (Int32.ofInt 3) = zn (3 * k) := zn_of ((zmulN (a := k) (b := 3) (znt (by omega)) (by decide) (by omega) (by decide)).trans (by omega))
  have te1525 := znt (k := 3 * k) (by omega)
  refine w_alu (pc' := 8) (st' := [.int (zn (3 * k))]) (ykc_68 (e := (0, .imul, 0)) rfl) (by rw [← e1525]; rfl) rfl ?_
  refine w_load (pc' := 9) (v := .int (zn h)) (m := 1) (ykc_68 (e := (2, .iload_n kF2, 0)) rfl) rfl rfl ?_
  have e1526 : (zn (3 * k)) + (zn h) = zn (3 * k + h) := zn_of (by have h8 := ti_add (x := (zn (3 * k))) (y := (zn h)) (by omega) (by omega); omega)
  have te1526 := znt (k := 3 * k + h) (by omega)
  refine w_alu (pc' := 10) (st' := [.int (zn (3 * k + h))]) (ykc_68 (e := (0, .iadd, 0)) rfl) (by rw [← e1526]; rfl) rfl ?_
  refine w_store (pc' := 11) (L' := [some (.ref 157), some (.int z), some (.int (zn h)), some (.int (zn (3 * k + h)))]) (st' := []) (m := 1) (ykc_68 (e := (3, .istore_n kF3, 0)) rfl) rfl rfl ?_
  refine w_load (pc' := 12) (v := .int z) (m := 1) (ykc_68 (e := (2, .iload_n kF1, 0)) rfl) rfl rfl ?_
  refine w_zlt (ykc_68 (e := (4, .ifCond .lt 16, 28)) rfl) rfl (fun b1527 => ?_) (fun b1527 => ?_)
  · refine w_alu (pc' := 29) (st' := [.int (Int32.ofInt 0)]) (ykc_68 (e := (0, .iconst 0, 0)) rfl) rfl rfl ?_
    refine w_ret (v := (some (.int (Int32.ofInt 0)))) (ykc_68 (e := (7, .ireturn, 0)) rfl) zr_z ?_
    rw [hQ, zi0]
    exact Or.inl ⟨by omega, rfl, rfl⟩
  · refine w_load (pc' := 16) (v := .int (zn (3 * k + h))) (m := 1) (ykc_68 (e := (2, .iload_n kF3, 0)) rfl) rfl rfl ?_
    refine w_zlt (ykc_68 (e := (4, .ifCond .lt 12, 28)) rfl) rfl (fun q => by exfalso; omega) (fun b1528 => ?_)
    refine w_load (pc' := 20) (v := .int (zn (3 * k + h))) (m := 1) (ykc_68 (e := (2, .iload_n kF3, 0)) rfl) rfl rfl ?_
    refine w_load (pc' := 21) (v := .ref 157) (m := 1) (ykc_68 (e := (2, .aload_n kF0, 0)) rfl) rfl rfl ?_
    refine w_gf (pc' := 24) (v := .ref 159) (ykc_68 (e := (5, .getfield 15, 0)) rfl) rfl (zsg hS zs_157_1) rfl ?_
    have cn1529 : (Int32.ofNat 90).toInt = 90 := by decide
    refine w_aln (ykc_68 (e := (5, .arraylength, 0)) rfl) (zsl hS zl_159) rfl ?_
    refine w_ilt (ykc_68 (e := (4, .if_icmp .lt 5, 30)) rfl) rfl (fun b1530 => ?_) (fun q => by exfalso; omega)
    refine w_load (pc' := 31) (v := .ref 157) (m := 1) (ykc_68 (e := (2, .aload_n kF0, 0)) rfl) rfl rfl ?_
    refine w_gf (pc' := 34) (v := .ref 159) (ykc_68 (e := (5, .getfield 15, 0)) rfl) rfl (zsg hS zs_157_1) rfl ?_
    refine w_load (pc' := 35) (v := .int (zn (3 * k + h))) (m := 1) (ykc_68 (e := (2, .iload_n kF3, 0)) rfl) rfl rfl ?_
    refine w_load (pc' := 36) (v := .int z) (m := 1) (ykc_68 (e := (2, .iload_n kF1, 0)) rfl) rfl rfl ?_
    refine w_ias (pc' := 37) (k := 3 * k + h) (ykc_68 (e := (5, .iastore, 0)) rfl) (by omega) rfl (fun ph1532 u1531 => ?_)
    refine w_alu (pc' := 38) (st' := [.int (Int32.ofInt 1)]) (ykc_68 (e := (0, .iconst 1, 0)) rfl) rfl rfl ?_
    refine w_ret (v := (some (.int (Int32.ofInt 1)))) (ykc_68 (e := (7, .ireturn, 0)) rfl) zr_z ?_
    rw [hQ, zi1]
    exact Or.inr ⟨by omega, rfl, u1531⟩
theorem zc_planRead {ph : pm_H} {ln : Nat} {t : Nat → Nat} (hS : zSh ph) (hT : zTc ph ln t) : zM 65 [.ref 157, .ref 1] ph (fun v0 q => zFr [158, 159] [(157, 2)] ph q ∧ ∃ (ok : Bool) (a k : Nat), zDo (min ln 60) t ok a k ∧ ((ok = true ∧ ln ≤ 60 ∧ v0 = some (.int (Int32.ofInt (-1))) ∧ k ≤ 30 ∧ zc q 157 2 = some (.int (zn k)) ∧ zDd q t k 3) ∨ (¬ (ok = true ∧ ln ≤ 60) ∧ v0 = some (.int (zn a))))) := by
  obtain ⟨Q, hQ⟩ : ∃ Q : Option Value → pm_H → Prop, Q = (fun v0 q => zFr [158, 159] [(157, 2)] ph q ∧ ∃ (ok : Bool) (a k : Nat), zDo (min ln 60) t ok a k ∧ ((ok = true ∧ ln ≤ 60 ∧ v0 = some (.int (Int32.ofInt (-1))) ∧ k ≤ 30 ∧ zc q 157 2 = some (.int (zn k)) ∧ zDd q t k 3) ∨ (¬ (ok = true ∧ ln ≤ 60) ∧ v0 = some (.int (zn a))))) := ⟨_, rfl⟩
  rw [← hQ]
  refine zM_mk fun n D => ?_
  show zW n D 65 Q 0 [some (.ref 157), some (.ref 1), none, none, none, none] [] ph
  have c_0 : ((Int8.ofInt 60).toInt32).toInt = 60 := by decide
  have c_1 : (Int32.ofInt (-1)).toInt = -1 := by decide
  have c_2 : (Int32.ofInt 0).toInt = 0 := by decide
  have c_3 : (Int32.ofInt 1).toInt = 1 := by decide
  have hT0 := hT
  obtain ⟨gn, hn80, gt⟩ := hT
  have tn := znt (k := ln) (by omega)
  refine w_load (pc' := 1) (v := .ref 157) (m := 1) (ykc_65 (e := (2, .aload_n kF0, 0)) rfl) rfl rfl ?_
  refine w_alu (pc' := 2) (st' := [.int (Int32.ofInt 0), .ref 157]) (ykc_65 (e := (0, .iconst 0, 0)) rfl) rfl rfl ?_
  refine w_pf (pc' := 5) (ykc_65 (e := (5, .putfield 18, 0)) rfl) rfl rfl (fun ph1534 u1533 => ?_)
  refine w_alu (pc' := 6) (st' := [.int (Int32.ofInt 0)]) (ykc_65 (e := (0, .iconst 0, 0)) rfl) rfl rfl ?_
  refine w_store (pc' := 7) (L' := [some (.ref 157), some (.ref 1), some (.int (Int32.ofInt 0)), none, none, none]) (st' := []) (m := 1) (ykc_65 (e := (3, .istore_n kF2, 0)) rfl) rfl rfl ?_
  refine w_alu (pc' := 8) (st' := [.int (Int32.ofInt 0)]) (ykc_65 (e := (0, .iconst 0, 0)) rfl) rfl rfl ?_
  refine w_store (pc' := 9) (L' := [some (.ref 157), some (.ref 1), some (.int (Int32.ofInt 0)), some (.int (Int32.ofInt 0)), none, none]) (st' := []) (m := 1) (ykc_65 (e := (3, .istore_n kF3, 0)) rfl) rfl rfl ?_
  refine w_load (pc' := 10) (v := .ref 1) (m := 1) (ykc_65 (e := (2, .aload_n kF1, 0)) rfl) rfl rfl ?_
  have f0 : zFr [] [(157, 2)] ph _ := zFr_st u1533 (Or.inr (by simp))
  have hS1 := zSh_F f0 (by decide +kernel) hS
  have hT1 := zTc_F f0 (by simp) (by simp) (by simp) hT0
  refine w_cv (as := [.ref 1]) (r := []) (ykc_65 (e := (6, .invokevirtual 22, 0)) rfl) rfl rfl rfl rfl (zc_tsize hT1.1) (fun v1535 ph1536 hv => ?_)
  obtain ⟨rfl, rfl⟩ := hv
  show zW n D 65 Q 13 [some (.ref 157), some (.ref 1), some (.int (Int32.ofInt 0)), some (.int (Int32.ofInt 0)), none, none] [.int (zn ln)] ph1534
  refine w_store (pc' := 15) (L' := [some (.ref 157), some (.ref 1), some (.int (Int32.ofInt 0)), some (.int (Int32.ofInt 0)), some (.int (zn ln)), none]) (st' := []) (m := 2) (ykc_65 (e := (3, .istore 4, 0)) rfl) rfl rfl ?_
  refine w_alu (pc' := 16) (st' := [.int (Int32.ofInt 0)]) (ykc_65 (e := (0, .iconst 0, 0)) rfl) rfl rfl ?_
  refine w_store (pc' := 18) (L' := [some (.ref 157), some (.ref 1), some (.int (Int32.ofInt 0)), some (.int (Int32.ofInt 0)), some (.int (zn ln)), some (.int (Int32.ofInt 0))]) (st' := []) (m := 2) (ykc_65 (e := (3, .istore 5, 0)) rfl) rfl rfl ?_
  have hl1 : ∀ (n : Nat), ∀ (c w h i : Nat) (p : pm_H), (i ≤ ln) → (i ≤ 60) → (zDI (min ln 60) t c w h i) → (zFr [158, 159] [(157, 2)] ph1534 p) → (zc p 157 2 = some (.int (zn c))) → (zDd p t c h) → zW n D 65 Q 18 [some (.ref 157), some (.ref 1), some (.int (zn w)), some (.int (zn h)), some (.int (zn ln)), some (.int (zn i))] [] p := by
    intro n
    induction n using Nat.strongRecOn with
    | ind n ih =>
      intro c w h i p hiln hi60 hI hf h2 hd
      have hw := zDI_w hI
      have tw := znt (k := w) (by omega)
      have th := znt (k := h) (by omega)
      have ti := znt (k := i) (by omega)
      have hFp : zFr [158, 159] [(157, 2)] ph p := zFr_trans (zFr_mono f0 (by simp) (by simp)) hf
      have hSp := zSh_F hFp (by decide +kernel) hS
      have hTp := zTc_F hFp (by simp) (by simp) (by simp) hT0
      refine w_load (pc' := 20) (v := .int (zn i)) (m := 2) (ykc_65 (e := (2, .iload 5, 0)) rfl) rfl rfl ?_
      refine w_load (pc' := 22) (v := .int (zn ln)) (m := 2) (ykc_65 (e := (2, .iload 4, 0)) rfl) rfl rfl ?_
      refine w_ige (ykc_65 (e := (4, .if_icmp .ge 79, 101)) rfl) rfl (fun b1537 => ?_) (fun b1537 => ?_)
      · refine w_load (pc' := 102) (v := .int (zn h)) (m := 1) (ykc_65 (e := (2, .iload_n kF3, 0)) rfl) rfl rfl ?_
        refine w_load (pc' := 103) (v := .int (zn w)) (m := 1) (ykc_65 (e := (2, .iload_n kF2, 0)) rfl) rfl rfl ?_
        refine w_ige (ykc_65 (e := (4, .if_icmp .ge 8, 111)) rfl) rfl (fun b1538 => ?_) (fun b1538 => ?_)
        · refine w_alu (pc' := 112) (st' := [.int (Int32.ofInt (-1))]) (ykc_65 (e := (0, .iconst (-1), 0)) rfl) rfl rfl ?_
          refine w_ret (v := (some (.int (Int32.ofInt (-1))))) (ykc_65 (e := (7, .ireturn, 0)) rfl) (zr_v rfl) ?_
          rw [hQ]
          have ei : i = ln := by omega
          have em : min ln 60 = i := by omega
          have hc2 := zDI_c hI (by omega) (by omega)
          have ho : zDo (min ln 60) t true i c := by
            rw [em] at hI ⊢
            exact zDI_e hI (by omega)
          exact ⟨hFp, true, i, c, ho, Or.inl ⟨rfl, by omega, rfl, by omega, h2, hd.1, fun a j a1 a2 a3 => hd.2 a j a1 a2 (by
            by_cases e : a + 1 < c
            · exact Or.inl e
            · refine Or.inr ?_
              rcases hI with ⟨q1, -⟩ | ⟨k2, q1, q2, q3, -⟩
              · omega
              · have e3 : k2 = a := by omega
                rw [e3] at q3
                omega)⟩⟩
        · refine w_load (pc' := 108) (v := .int (zn ln)) (m := 2) (ykc_65 (e := (2, .iload 4, 0)) rfl) rfl rfl ?_
          refine w_br (pc' := 112) (st' := [.int (zn ln)]) (ykc_65 (e := (4, .goto 4, 112)) rfl) rfl ?_
          refine w_ret (v := (some (.int (zn ln)))) (ykc_65 (e := (7, .ireturn, 0)) rfl) (zr_v rfl) ?_
          rw [hQ]
          have ei : i = ln := by omega
          obtain ⟨k2, hk2, ho⟩ := zDI_xd hI (by omega) (by omega) (fun q => absurd q (by omega))
          subst ei
          exact ⟨hFp, false, i, k2, ho, Or.inr ⟨fun q => absurd q.1 (by decide), rfl⟩⟩
      · refine w_load (pc' := 27) (v := .int (zn i)) (m := 2) (ykc_65 (e := (2, .iload 5, 0)) rfl) rfl rfl ?_
        refine w_push (pc' := 29) (v := .int ((Int8.ofInt 60).toInt32)) (m := 2) (ykc_65 (e := (1, .bipush 60, 0)) rfl) rfl rfl ?_
        refine w_ine (ykc_65 (e := (4, .if_icmp .ne 6, 35)) rfl) rfl (fun b1539 => ?_) (fun b1539 => ?_)
        · refine w_load (pc' := 36) (v := .int (zn h)) (m := 1) (ykc_65 (e := (2, .iload_n kF3, 0)) rfl) rfl rfl ?_
          refine w_load (pc' := 37) (v := .int (zn w)) (m := 1) (ykc_65 (e := (2, .iload_n kF2, 0)) rfl) rfl rfl ?_
          refine w_ige (ykc_65 (e := (4, .if_icmp .ge 26, 63)) rfl) rfl (fun b1540 => ?_) (fun b1540 => ?_)
          · refine w_load (pc' := 64) (v := .ref 1) (m := 1) (ykc_65 (e := (2, .aload_n kF1, 0)) rfl) rfl rfl ?_
            refine w_load (pc' := 66) (v := .int (zn i)) (m := 2) (ykc_65 (e := (2, .iload 5, 0)) rfl) rfl rfl ?_
            have hbi : i < min ln 60 := by omega
            have h256 : t i < 256 := (hTp.2.2 i (by omega)).2
            have hc30 : 2 * c ≤ i := zDI_c hI (by omega) (by omega)
            have twi := znt (k := zdw (t i)) (by have := @zdw_3 (t i); omega)
            refine w_cv (as := [.ref 1, .int (zn i)]) (r := []) (ykc_65 (e := (6, .invokevirtual 36, 0)) rfl) rfl rfl rfl rfl (zc_at hSp hTp (k := i) (by omega)) (fun v1541 ph1542 hv => ?_)
            rcases hv with ⟨rfl, z9, rfl, e9⟩
            · have d9 := @zTi_c ln i t
              obtain rfl : z9 = zn (t i) := zn_of (by omega)
              show zW n D 65 Q 69 [some (.ref 157), some (.ref 1), some (.int (zn w)), some (.int (zn h)), some (.int (zn ln)), some (.int (zn i))] [.int (zn (t i))] p
              refine w_cs (as := [.int (zn (t i))]) (r := []) (ykc_65 (e := (6, .invokestatic 39, 0)) rfl) rfl rfl rfl rfl (zc_digitsOf h256) (fun v1543 ph1544 hv => ?_)
              obtain ⟨rfl, rfl⟩ := hv
              show zW n D 65 Q 72 [some (.ref 157), some (.ref 1), some (.int (zn w)), some (.int (zn h)), some (.int (zn ln)), some (.int (zn i))] [.int (zn (zdw (t i)))] p
              refine w_store (pc' := 73) (L' := [some (.ref 157), some (.ref 1), some (.int (zn (zdw (t i)))), some (.int (zn h)), some (.int (zn ln)), some (.int (zn i))]) (st' := []) (m := 1) (ykc_65 (e := (3, .istore_n kF2, 0)) rfl) rfl rfl ?_
              refine w_load (pc' := 74) (v := .int (zn (zdw (t i)))) (m := 1) (ykc_65 (e := (2, .iload_n kF2, 0)) rfl) rfl rfl ?_
              refine w_zeq (ykc_65 (e := (4, .ifCond .eq 16, 90)) rfl) rfl (fun b1545 => ?_) (fun b1545 => ?_)
              · refine w_load (pc' := 92) (v := .int (zn i)) (m := 2) (ykc_65 (e := (2, .iload 5, 0)) rfl) rfl rfl ?_
                refine w_ret (v := (some (.int (zn i)))) (ykc_65 (e := (7, .ireturn, 0)) rfl) (zr_v rfl) ?_
                rw [hQ]
                exact ⟨hFp, false, i, c, zDI_xk hI (by omega) hbi (by omega), Or.inr ⟨fun q => absurd q.1 (by decide), rfl⟩⟩
              · refine w_load (pc' := 78) (v := .ref 157) (m := 1) (ykc_65 (e := (2, .aload_n kF0, 0)) rfl) rfl rfl ?_
                refine w_load (pc' := 79) (v := .ref 1) (m := 1) (ykc_65 (e := (2, .aload_n kF1, 0)) rfl) rfl rfl ?_
                refine w_load (pc' := 81) (v := .int (zn i)) (m := 2) (ykc_65 (e := (2, .iload 5, 0)) rfl) rfl rfl ?_
                refine w_cv (as := [.ref 1, .int (zn i)]) (r := [.ref 157]) (ykc_65 (e := (6, .invokevirtual 36, 0)) rfl) rfl rfl rfl rfl (zc_at hSp hTp (k := i) (by omega)) (fun v1546 ph1547 hv => ?_)
                rcases hv with ⟨rfl, z8, rfl, e8⟩
                · have d9 := @zTi_c ln i t
                  obtain rfl : z8 = zn (t i) := zn_of (by omega)
                  show zW n D 65 Q 84 [some (.ref 157), some (.ref 1), some (.int (zn (zdw (t i)))), some (.int (zn h)), some (.int (zn ln)), some (.int (zn i))] [.int (zn (t i)), .ref 157] p
                  refine w_cv (as := [.ref 157, .int (zn (t i))]) (r := []) (ykc_65 (e := (6, .invokevirtual 42, 0)) rfl) rfl rfl rfl rfl (zc_takeKind (c := c) hSp h2 (by omega)) (fun v1548 ph1549 hv => ?_)
                  obtain ⟨rfl, f7, g1, g2, g3⟩ := hv
                  show zW n D 65 Q 87 [some (.ref 157), some (.ref 1), some (.int (zn (zdw (t i)))), some (.int (zn h)), some (.int (zn ln)), some (.int (zn i))] [.int (zI true)] ph1549
                  refine w_bne (ykc_65 (e := (4, .ifCond .ne 6, 93)) rfl) rfl (fun b1550 => ?_) (fun q => absurd q (by decide))
                  refine w_alu (pc' := 94) (st' := [.int (Int32.ofInt 0)]) (ykc_65 (e := (0, .iconst 0, 0)) rfl) rfl rfl ?_
                  refine w_store (pc' := 95) (L' := [some (.ref 157), some (.ref 1), some (.int (zn (zdw (t i)))), some (.int (Int32.ofInt 0)), some (.int (zn ln)), some (.int (zn i))]) (st' := []) (m := 1) (ykc_65 (e := (3, .istore_n kF3, 0)) rfl) rfl rfl ?_
                  have e1551 : (zn i) + Int32.ofInt 1 = zn (i + 1) := (zaddN (a := i) (b := 1) (znt (by omega)) c_3 (by omega))
                  have te1551 := znt (k := i + 1) (by omega)
                  refine w_store (pc' := 98) (L' := [some (.ref 157), some (.ref 1), some (.int (zn (zdw (t i)))), some (.int (Int32.ofInt 0)), some (.int (zn ln)), some (.int (zn (i + 1)))]) (st' := []) (m := 3) (ykc_65 (e := (3, .iinc 5 1, 0)) rfl) (by rw [← e1551]; rfl) rfl ?_
                  refine w_gb (ykc_65 (e := (4, .goto (-80), 18)) rfl) (fun k1552 hk1552 => ?_)
                  exact ih k1552 hk1552 (c + 1) (zdw (t i)) 0 (i + 1) _ (by omega) (by omega) (zDI_k hI (by omega) hbi (by omega)) (zFr_trans hf (zFr_mono f7 (by simp) (by simp))) g1 ⟨fun a ha => by
                    by_cases e : a = c
                    · subst e; rw [g2, (zDI_f hI (by omega) (by omega)).2]
                    · exact (g3 a e).trans (hd.1 a (by omega)), fun a j a1 a2 a3 => (f7.1 159 _ (by simp) (by simp)).trans (hd.2 a j (by omega) a2 (by
                    by_cases e : a + 1 < c
                    · exact Or.inl e
                    · refine Or.inr ?_
                      rcases hI with ⟨q1, -⟩ | ⟨k2, q1, q2, q3, -⟩
                      · omega
                      · have e3 : k2 = a := by omega
                        rw [e3] at q3
                        omega))⟩
                
            
          · refine w_load (pc' := 41) (v := .ref 157) (m := 1) (ykc_65 (e := (2, .aload_n kF0, 0)) rfl) rfl rfl ?_
            refine w_load (pc' := 42) (v := .ref 1) (m := 1) (ykc_65 (e := (2, .aload_n kF1, 0)) rfl) rfl rfl ?_
            refine w_load (pc' := 44) (v := .int (zn i)) (m := 2) (ykc_65 (e := (2, .iload 5, 0)) rfl) rfl rfl ?_
            obtain ⟨k, hk⟩ : ∃ k, c = k + 1 := ⟨c - 1, by omega⟩
            have hk30 : k < 30 := by
              rcases hI with ⟨g1, -, g3, -⟩ | ⟨k2, g1, g2, g3, g4, g5, g6, -⟩
              · omega
              · have := zDp_ge g2
                omega
            have hbi : i < min ln 60 := by omega
            refine w_cv (as := [.ref 1, .int (zn i)]) (r := [.ref 157]) (ykc_65 (e := (6, .invokevirtual 28, 0)) rfl) rfl rfl rfl rfl (zc_digit hSp hTp (k := i) (by omega)) (fun v1553 ph1554 hv => ?_)
            rcases hv with ⟨rfl, z9, rfl, e9⟩
            · have d9 := @zDi_c ln i t
              have b9 := @zDi_b ln i t
              show zW n D 65 Q 47 [some (.ref 157), some (.ref 1), some (.int (zn w)), some (.int (zn h)), some (.int (zn ln)), some (.int (zn i))] [.int z9, .ref 157] p
              refine w_load (pc' := 48) (v := .int (zn h)) (m := 1) (ykc_65 (e := (2, .iload_n kF3, 0)) rfl) rfl rfl ?_
              refine w_cv (as := [.ref 157, .int z9, .int (zn h)]) (r := []) (ykc_65 (e := (6, .invokevirtual 32, 0)) rfl) rfl rfl rfl rfl (zc_takeDg (z := z9) (k := k) hSp (by rw [← hk]; exact h2) hk30 (by omega)) (fun v1555 ph1556 hv => ?_)
              rcases hv with ⟨hz, rfl, rfl⟩ | ⟨hz, rfl, u9⟩
              · show zW n D 65 Q 51 [some (.ref 157), some (.ref 1), some (.int (zn w)), some (.int (zn h)), some (.int (zn ln)), some (.int (zn i))] [.int (zI false)] p
                refine w_bne (ykc_65 (e := (4, .ifCond .ne 6, 57)) rfl) rfl (fun q => absurd q (by decide)) (fun b1557 => ?_)
                refine w_load (pc' := 56) (v := .int (zn i)) (m := 2) (ykc_65 (e := (2, .iload 5, 0)) rfl) rfl rfl ?_
                refine w_ret (v := (some (.int (zn i)))) (ykc_65 (e := (7, .ireturn, 0)) rfl) (zr_v rfl) ?_
                rw [hQ]
                obtain ⟨k2, hk2, ho⟩ := zDI_xd hI (by omega) (by omega) (fun _ => zdi_f (by omega))
                exact ⟨hFp, false, i, k2, ho, Or.inr ⟨fun q => absurd q.1 (by decide), rfl⟩⟩
              · have hdi : zdi (t i) = true := zdi_t (by omega)
                have ez : z9 = zn (t i - 48) := zn_of (by omega)
                show zW n D 65 Q 51 [some (.ref 157), some (.ref 1), some (.int (zn w)), some (.int (zn h)), some (.int (zn ln)), some (.int (zn i))] [.int (zI true)] ph1556
                refine w_bne (ykc_65 (e := (4, .ifCond .ne 6, 57)) rfl) rfl (fun b1558 => ?_) (fun q => absurd q (by decide))
                have e1559 : (zn h) + Int32.ofInt 1 = zn (h + 1) := (zaddN (a := h) (b := 1) (znt (by omega)) c_3 (by omega))
                have te1559 := znt (k := h + 1) (by omega)
                refine w_store (pc' := 60) (L' := [some (.ref 157), some (.ref 1), some (.int (zn w)), some (.int (zn (h + 1))), some (.int (zn ln)), some (.int (zn i))]) (st' := []) (m := 3) (ykc_65 (e := (3, .iinc 3 1, 0)) rfl) (by rw [← e1559]; rfl) rfl ?_
                refine w_br (pc' := 95) (st' := []) (ykc_65 (e := (4, .goto 35, 95)) rfl) rfl ?_
                have e1560 : (zn i) + Int32.ofInt 1 = zn (i + 1) := (zaddN (a := i) (b := 1) (znt (by omega)) c_3 (by omega))
                have te1560 := znt (k := i + 1) (by omega)
                refine w_store (pc' := 98) (L' := [some (.ref 157), some (.ref 1), some (.int (zn w)), some (.int (zn (h + 1))), some (.int (zn ln)), some (.int (zn (i + 1)))]) (st' := []) (m := 3) (ykc_65 (e := (3, .iinc 5 1, 0)) rfl) (by rw [← e1560]; rfl) rfl ?_
                refine w_gb (ykc_65 (e := (4, .goto (-80), 18)) rfl) (fun k1561 hk1561 => ?_)
                exact ih k1561 hk1561 c w (h + 1) (i + 1) _ (by omega) (by omega) (zDI_d hI (by omega) hdi) (zFr_add hf u9 (Or.inl (by simp))) ((u9.2.1 157 2 (fun q => absurd q.1 (by decide))).trans h2) ⟨fun a ha => (u9.2.1 158 a (fun q => absurd q.1 (by decide))).trans (hd.1 a ha), fun a j a1 a2 a3 => by
                  have hj3 := @zdw_3 (t (zDp t a))
                  by_cases e : a = k ∧ j = h
                  · obtain ⟨e1, e2⟩ := e
                    subst e1 e2
                    rw [u9.1, ez]
                    rcases hI with ⟨g1, -⟩ | ⟨k2, g1, -, -, -, -, g6, -⟩
                    · omega
                    · have e3 : k2 = a := by omega
                      rw [show i = zDp t a + 1 + j by rw [← e3]; exact g6]
                  · exact (u9.2.1 159 (3 * a + j) (fun q => by have q2 := q.2; omega)).trans (hd.2 a j a1 a2 (by omega))⟩
              
            
        · refine w_load (pc' := 34) (v := .int (zn i)) (m := 2) (ykc_65 (e := (2, .iload 5, 0)) rfl) rfl rfl ?_
          refine w_ret (v := (some (.int (zn i)))) (ykc_65 (e := (7, .ireturn, 0)) rfl) (zr_v rfl) ?_
          rw [hQ]
          have ei : i = 60 := by omega
          have em : min ln 60 = i := by omega
          by_cases hh : h < w
          · obtain ⟨k2, hk2, ho⟩ := zDI_xd hI hh (by omega) (fun q => absurd q (by omega))
            exact ⟨hFp, false, i, k2, ho, Or.inr ⟨fun q => absurd q.1 (by decide), rfl⟩⟩
          · have ho : zDo (min ln 60) t true i c := by
              rw [em] at hI ⊢
              exact zDI_e hI hh
            exact ⟨hFp, true, i, c, ho, Or.inr ⟨fun q => absurd q.2 (by omega), rfl⟩⟩
  exact hl1 n 0 0 0 0 _ (Nat.zero_le _) (by decide) (Or.inl ⟨rfl, rfl, rfl, rfl⟩) zFr_refl u1533.1 ⟨fun a ha => absurd ha (Nat.not_lt_zero a), fun a j ha => absurd ha (Nat.not_lt_zero a)⟩
  
theorem zc_plKind {ph : pm_H} {k i : Nat} {x y : Int32} (hS : zSh ph) (hx : x.toInt = (i : Int)) (hk : zc ph 157 2 = some (.int (zn k))) (h30 : k ≤ 30) (hi : i < k) (hy : zc ph 158 i = some (.int y)) : zM 63 [.ref 157, .int x] ph (fun v0 q => ph = q ∧ v0 = some (.int y)) := by
  obtain ⟨Q, hQ⟩ : ∃ Q : Option Value → pm_H → Prop, Q = (fun v0 q => ph = q ∧ v0 = some (.int y)) := ⟨_, rfl⟩
  rw [← hQ]
  refine zM_mk fun n D => ?_
  show zW n D 63 Q 0 [some (.ref 157), some (.int x)] [] ph
  have c_0 : ((Int8.ofInt 30).toInt32).toInt = 30 := by decide
  have c_1 : (Int32.ofInt (-1)).toInt = -1 := by decide
  have tk := znt (k := k) (by omega)
  refine w_load (pc' := 1) (v := .int x) (m := 1) (ykc_63 (e := (2, .iload_n kF1, 0)) rfl) rfl rfl ?_
  refine w_zlt (ykc_63 (e := (4, .ifCond .lt 26, 27)) rfl) rfl (fun q => by exfalso; omega) (fun b1562 => ?_)
  refine w_load (pc' := 5) (v := .int x) (m := 1) (ykc_63 (e := (2, .iload_n kF1, 0)) rfl) rfl rfl ?_
  refine w_load (pc' := 6) (v := .ref 157) (m := 1) (ykc_63 (e := (2, .aload_n kF0, 0)) rfl) rfl rfl ?_
  refine w_gf (pc' := 9) (v := .int (zn k)) (ykc_63 (e := (5, .getfield 18, 0)) rfl) rfl hk rfl ?_
  refine w_ige (ykc_63 (e := (4, .if_icmp .ge 18, 27)) rfl) rfl (fun q => by exfalso; omega) (fun b1563 => ?_)
  refine w_load (pc' := 13) (v := .int x) (m := 1) (ykc_63 (e := (2, .iload_n kF1, 0)) rfl) rfl rfl ?_
  refine w_push (pc' := 15) (v := .int ((Int8.ofInt 30).toInt32)) (m := 2) (ykc_63 (e := (1, .bipush 30, 0)) rfl) rfl rfl ?_
  refine w_ige (ykc_63 (e := (4, .if_icmp .ge 12, 27)) rfl) rfl (fun q => by exfalso; omega) (fun b1564 => ?_)
  refine w_load (pc' := 19) (v := .ref 157) (m := 1) (ykc_63 (e := (2, .aload_n kF0, 0)) rfl) rfl rfl ?_
  refine w_gf (pc' := 22) (v := .ref 158) (ykc_63 (e := (5, .getfield 11, 0)) rfl) rfl (zsg hS zs_157_0) rfl ?_
  refine w_load (pc' := 23) (v := .int x) (m := 1) (ykc_63 (e := (2, .iload_n kF1, 0)) rfl) rfl rfl ?_
  refine w_ialk (pc' := 24) (k := i) (ykc_63 (e := (5, .iaload, 0)) rfl) hy (by omega) rfl ?_
  refine w_br (pc' := 28) (st' := [.int y]) (ykc_63 (e := (4, .goto 4, 28)) rfl) rfl ?_
  refine w_ret (v := (some (.int y))) (ykc_63 (e := (7, .ireturn, 0)) rfl) (zr_v rfl) ?_
  rw [hQ]
  exact ⟨rfl, rfl⟩