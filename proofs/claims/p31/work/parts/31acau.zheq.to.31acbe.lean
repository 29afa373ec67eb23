/-! joined: 31acau.zheq.lean.txt 31acav.zccall.lean.txt 31acaw.zmcall2.lean.txt 31acax.zccall2.lean.txt 31acay.zmkeep.lean.txt 31acaz.zsheet.lean.txt 31acba.zheard.lean.txt 31acbb.zhours.lean.txt 31acbc.zstr.lean.txt 31acbd.ztext.lean.txt 31acbe.zvalley.lean.txt -/
section
/-! an HOUR of the class is an HOUR of the reference; printed by wip/z/z_s_heq.py -/
theorem zTell_c {E : zEn} {P : Nat} {v : Nat → Nat} (a b : Nat) : zTell E P v a b = zTell E P v b a := by
  unfold zTell zMeet
  rw [Bool.and_comm (zSv E P v a (v b)), show zNear E.2.1 (v a) (v b) = zNear E.2.1 (v b) (v a) from decide_eq_decide.mpr (by omega)]
theorem zLi_b {E : zEn} {P G : Nat} {v : Nat → Nat} {p t : Nat} : ∀ k, (zLi E P G v p k).testBit t = true ↔ ((zHb E P G v p).testBit t = true ∨ ∃ b, b < k ∧ zTell E P v p b = true ∧ (v (24 + b)).testBit t = true) := by
  intro k
  induction k with
  | zero =>
    constructor
    · intro h; exact Or.inl h
    · rintro (h | ⟨b, hb, -⟩)
      · exact h
      · omega
  | succ k ih =>
    unfold zLi
    cases ht : zTell E P v p k with
    | true =>
      rw [cond_true, Nat.testBit_or, Bool.or_eq_true, ih]
      constructor
      · rintro ((h | ⟨b, hb, h⟩) | h)
        · exact Or.inl h
        · exact Or.inr ⟨b, by omega, h⟩
        · exact Or.inr ⟨k, by omega, ht, h⟩
      · rintro (h | ⟨b, hb, h1, h2⟩)
        · exact Or.inl (Or.inl h)
        · by_cases e : b = k
          · subst e; exact Or.inr h2
          · exact Or.inl (Or.inr ⟨b, by omega, h1, h2⟩)
    | false =>
      rw [cond_false, ih]
      constructor
      · rintro (h | ⟨b, hb, h⟩)
        · exact Or.inl h
        · exact Or.inr ⟨b, by omega, h⟩
      · rintro (h | ⟨b, hb, h1, h2⟩)
        · exact Or.inl h
        · by_cases e : b = k
          · subst e; rw [ht] at h1; exact absurd h1 (by decide)
          · exact Or.inr ⟨b, by omega, h1, h2⟩
theorem zHi_b {E : zEn} {P : Nat} {v l : Nat → Nat} {a p t : Nat} : ∀ m, (zHi E P v l a m p).testBit t = true ↔ ((l p).testBit t = true ∨ (p = a ∧ ∃ b, a < b ∧ b ≤ a + m ∧ zTell E P v a b = true ∧ (v (24 + b)).testBit t = true) ∨ (a < p ∧ p ≤ a + m ∧ zTell E P v a p = true ∧ (v (24 + a)).testBit t = true)) := by
  intro m
  induction m generalizing p with
  | zero =>
    constructor
    · intro h; exact Or.inl h
    · rintro (h | ⟨-, b, h1, h2, -⟩ | ⟨h1, h2, -⟩)
      · exact h
      · omega
      · omega
  | succ m ih =>
    unfold zHi
    cases ht : zTell E P v a (a + 1 + m) with
    | true =>
      rw [cond_true]
      unfold znu
      by_cases e1 : p = a + 1 + m
      · rw [if_pos e1, Nat.testBit_or, Bool.or_eq_true, ih, e1]
        constructor
        · rintro ((h | ⟨h, -⟩ | ⟨-, h, -⟩) | h)
          · exact Or.inl h
          · omega
          · omega
          · exact Or.inr (Or.inr ⟨by omega, by omega, ht, h⟩)
        · rintro (h | ⟨h, -⟩ | ⟨-, -, -, h⟩)
          · exact Or.inl (Or.inl h)
          · omega
          · exact Or.inr h
      · rw [if_neg e1]
        by_cases e2 : p = a
        · rw [if_pos e2, Nat.testBit_or, Bool.or_eq_true, ih, e2]
          constructor
          · rintro ((h | ⟨-, b, h1, h2, h3⟩ | ⟨h, -⟩) | h)
            · exact Or.inl h
            · exact Or.inr (Or.inl ⟨rfl, b, h1, by omega, h3⟩)
            · omega
            · exact Or.inr (Or.inl ⟨rfl, a + 1 + m, by omega, by omega, ht, h⟩)
          · rintro (h | ⟨-, b, h1, h2, h3, h4⟩ | ⟨h, -⟩)
            · exact Or.inl (Or.inl h)
            · by_cases e3 : b = a + 1 + m
              · subst e3; exact Or.inr h4
              · exact Or.inl (Or.inr (Or.inl ⟨rfl, b, h1, by omega, h3, h4⟩))
            · omega
        · rw [if_neg e2, ih]
          constructor
          · rintro (h | ⟨h, -⟩ | ⟨h1, h2, h3⟩)
            · exact Or.inl h
            · exact absurd h e2
            · exact Or.inr (Or.inr ⟨h1, by omega, h3⟩)
          · rintro (h | ⟨h, -⟩ | ⟨h1, h2, h3⟩)
            · exact Or.inl h
            · exact absurd h e2
            · exact Or.inr (Or.inr ⟨h1, by omega, h3⟩)
    | false =>
      rw [cond_false, ih]
      constructor
      · rintro (h | ⟨h0, b, h1, h2, h3⟩ | ⟨h1, h2, h3⟩)
        · exact Or.inl h
        · exact Or.inr (Or.inl ⟨h0, b, h1, by omega, h3⟩)
        · exact Or.inr (Or.inr ⟨h1, by omega, h3⟩)
      · rintro (h | ⟨h0, b, h1, h2, h3, h4⟩ | ⟨h1, h2, h3, h4⟩)
        · exact Or.inl h
        · by_cases e3 : b = a + 1 + m
          · subst e3; rw [ht] at h3; exact absurd h3 (by decide)
          · exact Or.inr (Or.inl ⟨h0, b, h1, by omega, h3, h4⟩)
        · by_cases e3 : p = a + 1 + m
          · rw [e3, ht] at h3; exact absurd h3 (by decide)
          · exact Or.inr (Or.inr ⟨h1, by omega, h3, h4⟩)
theorem zHo_b {E : zEn} {P G : Nat} {v : Nat → Nat} {t : Nat} : ∀ a, a ≤ P → ∀ p, p < P → ((zHo E P G v a p).testBit t = true ↔ ((zHb E P G v p).testBit t = true ∨ ∃ b, b < P ∧ b ≠ p ∧ (b < a ∨ p < a) ∧ zTell E P v p b = true ∧ (v (24 + b)).testBit t = true)) := by
  intro a
  induction a with
  | zero =>
    intro _ p hp
    constructor
    · intro h; exact Or.inl h
    · rintro (h | ⟨b, -, -, h, -⟩)
      · exact h
      · omega
  | succ a ih =>
    intro ha p hp
    show (zHi E P v (zHo E P G v a) a (P - (a + 1)) p).testBit t = true ↔ _
    rw [zHi_b, ih (by omega) p hp]
    constructor
    · rintro ((h | ⟨b, h1, h2, h3, h4⟩) | ⟨h0, b, h1, h2, h3, h4⟩ | ⟨h1, h2, h3, h4⟩)
      · exact Or.inl h
      · exact Or.inr ⟨b, h1, h2, by omega, h4⟩
      · subst h0; exact Or.inr ⟨b, by omega, by omega, by omega, h3, h4⟩
      · exact Or.inr ⟨a, by omega, by omega, by omega, (zTell_c p a).trans h3, h4⟩
    · rintro (h | ⟨b, h1, h2, h3, h4, h5⟩)
      · exact Or.inl (Or.inl h)
      · by_cases q1 : b < a ∨ p < a
        · exact Or.inl (Or.inr ⟨b, h1, h2, q1, h4, h5⟩)
        · by_cases q2 : p = a
          · subst q2; exact Or.inr (Or.inl ⟨rfl, b, by omega, by omega, h4, h5⟩)
          · have q3 : b = a := by omega
            subst q3
            exact Or.inr (Or.inr ⟨by omega, by omega, (zTell_c b p).trans h4, h5⟩)
theorem zH_eq {E : zEn} {P G : Nat} {v : Nat → Nat} {p : Nat} (hp : p < P) : zHo E P G v P p = zLi E P G v p P := by
  apply Nat.eq_of_testBit_eq
  intro t
  have h1 := zHo_b (E := E) (G := G) (v := v) (t := t) P (Nat.le_refl P) p hp
  have h2 := zLi_b (E := E) (P := P) (G := G) (v := v) (p := p) (t := t) P
  have h3 : (zHo E P G v P p).testBit t = true ↔ (zLi E P G v p P).testBit t = true := by
    rw [h1, h2]
    constructor
    · rintro (h | ⟨b, h1, h2, h3, h4⟩)
      · exact Or.inl h
      · exact Or.inr ⟨b, h1, h4⟩
    · rintro (h | ⟨b, h1, h4, h5⟩)
      · exact Or.inl h
      · by_cases e : b = p
        · subst e
          refine Or.inl ?_
          unfold zHb
          rw [Nat.testBit_or, h5]
          rfl
        · exact Or.inr ⟨b, h1, e, by omega, h4, h5⟩
  cases ha : (zHo E P G v P p).testBit t <;> cases hb : (zLi E P G v p P).testBit t <;> simp [ha, hb] at h3 ⊢
theorem zHr_eq {E : zEn} {P G : Nat} {v : Nat → Nat} : zHr E P G v = zHq E P G v := by
  funext i
  unfold zHr zHq
  by_cases h : 24 ≤ i ∧ i < 24 + P
  · rw [if_pos h, if_pos h]
    exact zH_eq (by omega)
  · rw [if_neg h, if_neg h]
end
section
/-! the class: faces, trims, steps, undo, by W; printed by wip/z/z_t_ccall.py -/
def zCu (ph : pm_H) (P G nx u : Nat) (w : Nat → Nat → Nat) : Prop := zc ph 43 1 = some (.int (zn nx)) ∧ nx < 15 ∧ zc ph 43 2 = some (.int (zn u)) ∧ u ≤ 15 ∧ ∀ i, i < u → zSd ph (45 + 6 * ((nx + 15 - u + i) % 15)) P G (w i)
def zCk (ph : pm_H) (P G fl : Nat) (sv : Nat → Nat → Nat) : Prop := zc ph 43 4 = some (.int (zn fl)) ∧ fl < 8 ∧ ∀ i, i < 3 → fl.testBit i = true → zSd ph (136 + 6 * i) P G (sv i)
def zCh (ph : pm_H) (hn : Nat) : Prop := zc ph 0 14 = some (.int (zn hn)) ∧ hn ≤ 10
/-- all of the class that the calls tie -/
def zKC (ph : pm_H) (R C : Nat) (rk : Nat → Bool) (P G : Nat) (v : Nat → Nat) (nx u : Nat) (w : Nat → Nat → Nat) (fl : Nat) (sv : Nat → Nat → Nat) (hn : Nat) : Prop := zCl ph R C rk ∧ zSd ph 25 P G v ∧ zCu ph P G nx u w ∧ zCk ph P G fl sv ∧ zCh ph hn
theorem zCk_F {A : List Nat} {F : List (Nat × Nat)} {p q : pm_H} {P G fl : Nat} {sv : Nat → Nat → Nat} (f : zFr A F p q) (h1 : 43 ∉ A) (h2 : (43, 4) ∉ F) (h3 : ∀ j, 136 ≤ j → j < 160 → j ∉ A) (h4 : ∀ j i, 136 ≤ j → j < 160 → (j, i) ∉ F) (h : zCk p P G fl sv) : zCk q P G fl sv := ⟨(f.1 _ _ h1 h2).trans h.1, h.2.1, fun i hi hb => zSd_F f (fun j hj => h3 _ (by omega) (by omega)) (fun j k hj => h4 _ _ (by omega) (by omega)) (h.2.2 i hi hb)⟩
theorem zCu_F {A : List Nat} {F : List (Nat × Nat)} {p q : pm_H} {P G nx u : Nat} {w : Nat → Nat → Nat} (f : zFr A F p q) (h1 : 43 ∉ A) (h2 : (43, 1) ∉ F ∧ (43, 2) ∉ F) (h3 : ∀ j, 45 ≤ j → j < 135 → j ∉ A) (h4 : ∀ j i, 45 ≤ j → j < 135 → (j, i) ∉ F) (h : zCu p P G nx u w) : zCu q P G nx u w := ⟨(f.1 _ _ h1 h2.1).trans h.1, h.2.1, (f.1 _ _ h1 h2.2).trans h.2.2.1, h.2.2.2.1, fun i hi => zSd_F f (fun j hj => h3 _ (by omega) (by omega)) (fun j k hj => h4 _ _ (by omega) (by omega)) (h.2.2.2.2 i hi)⟩
theorem zCu_push {p q1 q2 q : pm_H} {P G nx u : Nat} {w : Nat → Nat → Nat} {v : Nat → Nat} (h : zCu p P G nx u w) (f : zCo (45 + 6 * nx) p q1) (u1 : zst q1 q2 43 1 (.int (zn (if nx + 1 < 15 then nx + 1 else 0)))) (u2 : zst q2 q 43 2 (.int (zn (min 15 (u + 1))))) (hd : zSd q (45 + 6 * nx) P G v) : zCu q P G (if nx + 1 < 15 then nx + 1 else 0) (zAd u) (zAw u (zWp u w v)) := by
  obtain ⟨g1, hn, g2, hu, hr⟩ := h
  have ea : zAd u = min 15 (u + 1) := by
    unfold zAd
    split <;> omega
  refine ⟨(u2.2.1 43 1 (fun q => absurd q.2 (by decide))).trans u1.1, by split <;> omega, by rw [ea]; exact u2.1, zAd_15 hu, fun i hi => ?_⟩
  have en : (if nx + 1 < 15 then nx + 1 else 0) = (nx + 1) % 15 := by split <;> omega
  rw [en]
  have fr : zFr [] [(43, 1), (43, 2)] q1 q := zFr_trans (zFr_st u1 (Or.inr (by simp))) (zFr_st u2 (Or.inr (by simp)))
  unfold zAw zWp
  by_cases h15 : u < 15
  · have e2 : zAd u = u + 1 := if_pos h15
    rw [e2] at hi ⊢
    rw [if_pos h15]
    by_cases e : i = u
    · rw [if_pos e, show ((nx + 1) % 15 + 15 - (u + 1) + i) % 15 = nx by omega]
      exact hd
    · rw [if_neg e, show ((nx + 1) % 15 + 15 - (u + 1) + i) % 15 = (nx + 15 - u + i) % 15 by omega]
      exact zSd_F fr (by intro j hj; simp) (by intro j k hj; simp <;> omega) (zCo_d (by omega) f (hr i (by omega)))
  · have e2 : zAd u = 15 := if_neg h15
    rw [e2] at hi ⊢
    rw [if_neg h15]
    by_cases e : i + 1 = u
    · rw [if_pos e, show ((nx + 1) % 15 + 15 - 15 + i) % 15 = nx by omega]
      exact hd
    · rw [if_neg e, show ((nx + 1) % 15 + 15 - 15 + i) % 15 = (nx + 15 - u + (i + 1)) % 15 by omega]
      exact zSd_F fr (by intro j hj; simp) (by intro j k hj; simp <;> omega) (zCo_d (by omega) f (hr (i + 1) (by omega)))
theorem zCu_pop {p q1 q2 q : pm_H} {P G nx u : Nat} {w : Nat → Nat → Nat} (h : zCu p P G nx u w) (hu : 0 < u) (f : zCo 25 p q1) (u1 : zst q1 q2 43 1 (.int (zn ((nx + 14) % 15)))) (u2 : zst q2 q 43 2 (.int (zn (u - 1)))) : zCu q P G ((nx + 14) % 15) (u - 1) w := by
  obtain ⟨g1, hn, g2, hu15, hr⟩ := h
  refine ⟨(u2.2.1 43 1 (fun q => absurd q.2 (by decide))).trans u1.1, by omega, u2.1, by omega, fun i hi => ?_⟩
  have fr : zFr [] [(43, 1), (43, 2)] q1 q := zFr_trans (zFr_st u1 (Or.inr (by simp))) (zFr_st u2 (Or.inr (by simp)))
  rw [show ((nx + 14) % 15 + 15 - (u - 1) + i) % 15 = (nx + 15 - u + i) % 15 by omega]
  exact zSd_F fr (by intro j hj; simp) (by intro j k hj; simp <;> omega) (zCo_d (by omega) f (hr i (by omega)))
/-- what is written where the latest row goes -/
def zCq (nx : Nat) (p q : pm_H) : Prop := zFr [31 + 1, 31 + 2, 31 + 3, 31 + 4, 31 + 5, 45 + 6 * nx + 1, 45 + 6 * nx + 2, 45 + 6 * nx + 3, 45 + 6 * nx + 4, 45 + 6 * nx + 5] [(31, 0), (31, 1), (31, 2), (45 + 6 * nx, 0), (45 + 6 * nx, 1), (45 + 6 * nx, 2), (43, 1), (43, 2)] p q
theorem zc_rem {ph : pm_H} (hS : zSh ph) {P G nx u : Nat} {v : Nat → Nat} {x : Int32} (hd : zSd ph 31 P G v) (hnx : zc ph 43 1 = some (.int (zn nx))) (hu : zc ph 43 2 = some (.int (zn u))) (hn15 : nx < 15) (hu15 : u ≤ 15) : zM 140 [.ref 0, .int x] ph (fun v0 q => v0 = some (.int x) ∧ ((x.toInt < 0 ∧ ph = q) ∨ (0 ≤ x.toInt ∧ (∃ q1 q2, zCo (45 + 6 * nx) ph q1 ∧ zst q1 q2 43 1 (.int (zn (if nx + 1 < 15 then nx + 1 else 0))) ∧ zst q2 q 43 2 (.int (zn (min 15 (u + 1))))) ∧ zSd q (45 + 6 * nx) P G v))) := by
  obtain ⟨Q, hQ⟩ : ∃ Q : Option Value → pm_H → Prop, Q = (fun v0 q => v0 = some (.int x) ∧ ((x.toInt < 0 ∧ ph = q) ∨ (0 ≤ x.toInt ∧ (∃ q1 q2, zCo (45 + 6 * nx) ph q1 ∧ zst q1 q2 43 1 (.int (zn (if nx + 1 < 15 then nx + 1 else 0))) ∧ zst q2 q 43 2 (.int (zn (min 15 (u + 1))))) ∧ zSd q (45 + 6 * nx) P G v))) := ⟨_, rfl⟩
  rw [← hQ]
  refine zM_mk fun n D => ?_
  show zW n D 140 Q 0 [some (.ref 0), some (.int x)] [] ph
  refine w_load (pc' := 1) (v := .int x) (m := 1) (ykc_140 (e := (2, .iload_n kF1, 0)) rfl) rfl rfl ?_
  refine w_zlt (ykc_140 (e := (4, .ifCond .lt 14, 15)) rfl) rfl (fun b1003 => ?_) (fun b1003 => ?_)
  · refine w_load (pc' := 16) (v := .int x) (m := 1) (ykc_140 (e := (2, .iload_n kF1, 0)) rfl) rfl rfl ?_
    refine w_ret (v := (some (.int x))) (ykc_140 (e := (7, .ireturn, 0)) rfl) (zr_v rfl) ?_
    rw [hQ]
    exact ⟨rfl, Or.inl ⟨by omega, rfl⟩⟩
  · refine w_load (pc' := 5) (v := .ref 0) (m := 1) (ykc_140 (e := (2, .aload_n kF0, 0)) rfl) rfl rfl ?_
    refine w_gf (pc' := 8) (v := .ref 43) (ykc_140 (e := (5, .getfield 55, 0)) rfl) rfl (zsg hS zs_0_7) rfl ?_
    refine w_load (pc' := 9) (v := .ref 0) (m := 1) (ykc_140 (e := (2, .aload_n kF0, 0)) rfl) rfl rfl ?_
    refine w_gf (pc' := 12) (v := .ref 31) (ykc_140 (e := (5, .getfield 46, 0)) rfl) rfl (zsg hS zs_0_5) rfl ?_
    refine w_cv (as := [.ref 43, .ref 31]) (r := []) (ykc_140 (e := (6, .invokevirtual 278, 0)) rfl) rfl rfl rfl rfl (zc_push hS (Or.inr rfl) hd hnx hu hn15 hu15) (fun v1004 ph1005 hv => ?_)
    obtain ⟨rfl, hpp, hpd⟩ := hv
    show zW n D 140 Q 15 [some (.ref 0), some (.int x)] [] ph1005
    refine w_load (pc' := 16) (v := .int x) (m := 1) (ykc_140 (e := (2, .iload_n kF1, 0)) rfl) rfl rfl ?_
    refine w_ret (v := (some (.int x))) (ykc_140 (e := (7, .ireturn, 0)) rfl) (zr_v rfl) ?_
    rw [hQ]
    exact ⟨rfl, Or.inr ⟨by omega, hpp, hpd⟩⟩
theorem zKC_31 {p q : pm_H} {R C P G nx u fl hn : Nat} {rk : Nat → Bool} {v : Nat → Nat} {w sv : Nat → Nat → Nat} (f : zCo 31 p q) (h : zKC p R C rk P G v nx u w fl sv hn) : zKC q R C rk P G v nx u w fl sv hn := ⟨zCl_F f (by simp) (by intro i hi; simp) (by simp) h.1, zCo_d (by omega) f h.2.1, zCu_F f (by simp) (by simp) (by intro j h1 h2; simp <;> omega) (by intro j i h1 h2; simp <;> omega) h.2.2.1, zCk_F f (by simp) (by simp) (by intro j h1 h2; simp <;> omega) (by intro j i h1 h2; simp <;> omega) h.2.2.2.1, (f.1 _ _ (by simp) (by simp)).trans h.2.2.2.2.1, h.2.2.2.2.2⟩
/-- an act on now, then the row put into the history -/
theorem zKC_push {p1 p2 q1 q2 q : pm_H} {R C P G nx u fl hn a i x : Nat} {rk : Nat → Bool} {v : Nat → Nat} {w sv : Nat → Nat → Nat} (ha : a = 1 ∨ a = 2 ∨ a = 3 ∨ a = 5) (hi : i < 8) (h : zKC p1 R C rk P G v nx u w fl sv hn) (ua : zst p1 p2 (25 + a) i (.int (zn x))) (f : zCo (45 + 6 * nx) p2 q1) (u1 : zst q1 q2 43 1 (.int (zn (if nx + 1 < 15 then nx + 1 else 0)))) (u2 : zst q2 q 43 2 (.int (zn (min 15 (u + 1))))) (hd : zSd q (45 + 6 * nx) P G v) : zKC q R C rk P G (znu v (8 * (a - 1) + i) x) (if nx + 1 < 15 then nx + 1 else 0) (zAd u) (zAw u (zWp u w v)) fl sv hn := by
  obtain ⟨hL, h25, hU, hk, hh⟩ := h
  have fa : zFr [25 + a] [] p1 p2 := zFr_st ua (Or.inl (by simp))
  have fr : zFr [] [(43, 1), (43, 2)] q1 q := zFr_trans (zFr_st u1 (Or.inr (by simp))) (zFr_st u2 (Or.inr (by simp)))
  have hnx := hU.2.1
  refine ⟨?_, ?_, zCu_push (zCu_F fa (by simp <;> omega) (by simp) (by intro j h1 h2; simp <;> omega) (by intro j i h1 h2; simp) hU) f u1 u2 hd, ?_, ?_, hh.2⟩
  · exact zCl_F fr (by simp) (by intro i hi; simp) (by simp) (zCl_F f (by simp <;> omega) (by intro i hi; simp <;> omega) (by intro i; simp <;> omega) (zCl_F fa (by simp <;> omega) (by intro i hi; simp) (by simp) hL))
  · exact zSd_F fr (by intro j hj; simp) (by intro j k hj; simp <;> omega) (zCo_d (by omega) f (zSd_u ha hi ua h25))
  · exact zCk_F fr (by simp) (by simp) (by intro j h1 h2; simp) (by intro j i h1 h2; simp <;> omega) (zCk_F f (by simp <;> omega) (by simp <;> omega) (by intro j h1 h2; simp <;> omega) (by intro j i h1 h2; simp <;> omega) (zCk_F fa (by simp <;> omega) (by simp) (by intro j h1 h2; simp <;> omega) (by intro j i h1 h2; simp) hk))
  · exact (fr.1 _ _ (by simp) (by simp)).trans ((f.1 _ _ (by simp) (by simp)).trans ((fa.1 _ _ (by simp <;> omega) (by simp)).trans hh.1))
theorem zc_faces {ph : pm_H} {R C P G nx u fl hn : Nat} {rk : Nat → Bool} {v : Nat → Nat} {w : Nat → Nat → Nat} {sv : Nat → Nat → Nat} (hS : zSh ph) (hK : zKC ph R C rk P G v nx u w fl sv hn) (hO0 : zOk R C P G v) {x y : Int32} : zM 134 [.ref 0, .int x, .int y] ph (fun v0 q => ((x.toInt < 0 ∨ (P : Int) ≤ x.toInt ∨ y.toInt < 0 ∨ 8 ≤ y.toInt) ∧ v0 = some (.int (Int32.ofInt (-1))) ∧ zKC q R C rk P G v nx u w fl sv hn) ∨ (∃ p f, x = zn p ∧ y = zn f ∧ p < P ∧ f < 8 ∧ v0 = some (.int (zn (ze8 (v (8 + p)) f))) ∧ ∃ nx1, zKC q R C rk P G (znu v (8 * (2 - 1) + p) f) nx1 (zAd u) (zAw u (zWp u w v)) fl sv hn)) := by
  obtain ⟨Q, hQ⟩ : ∃ Q : Option Value → pm_H → Prop, Q = (fun v0 q => ((x.toInt < 0 ∨ (P : Int) ≤ x.toInt ∨ y.toInt < 0 ∨ 8 ≤ y.toInt) ∧ v0 = some (.int (Int32.ofInt (-1))) ∧ zKC q R C rk P G v nx u w fl sv hn) ∨ (∃ p f, x = zn p ∧ y = zn f ∧ p < P ∧ f < 8 ∧ v0 = some (.int (zn (ze8 (v (8 + p)) f))) ∧ ∃ nx1, zKC q R C rk P G (znu v (8 * (2 - 1) + p) f) nx1 (zAd u) (zAw u (zWp u w v)) fl sv hn)) := ⟨_, rfl⟩
  rw [← hQ]
  refine zM_mk fun n D => ?_
  show zW n D 134 Q 0 [some (.ref 0), some (.int x), some (.int y)] [] ph
  have hP8 : P ≤ 8 := hK.2.1.2.1
  refine w_load (pc' := 1) (v := .ref 0) (m := 1) (ykc_134 (e := (2, .aload_n kF0, 0)) rfl) rfl rfl ?_
  refine w_gf (pc' := 4) (v := .ref 31) (ykc_134 (e := (5, .getfield 46, 0)) rfl) rfl (zsg hS zs_0_5) rfl ?_
  refine w_load (pc' := 5) (v := .ref 0) (m := 1) (ykc_134 (e := (2, .aload_n kF0, 0)) rfl) rfl rfl ?_
  refine w_gf (pc' := 8) (v := .ref 25) (ykc_134 (e := (5, .getfield 42, 0)) rfl) rfl (zsg hS zs_0_4) rfl ?_
  refine w_cv (as := [.ref 31, .ref 25]) (r := []) (ykc_134 (e := (6, .invokevirtual 235, 0)) rfl) rfl rfl rfl rfl (zc_copy (zSs_of hS (S := 25) (by decide)) (zSs_of hS (S := 31) (by decide)) hK.2.1 (by omega)) (fun v1006 ph1007 hv => ?_)
  obtain ⟨rfl, fb, db⟩ := hv
  show zW n D 134 Q 11 [some (.ref 0), some (.int x), some (.int y)] [] ph1007
  refine w_load (pc' := 12) (v := .ref 0) (m := 1) (ykc_134 (e := (2, .aload_n kF0, 0)) rfl) rfl rfl ?_
  refine w_load (pc' := 13) (v := .ref 0) (m := 1) (ykc_134 (e := (2, .aload_n kF0, 0)) rfl) rfl rfl ?_
  refine w_load (pc' := 14) (v := .int x) (m := 1) (ykc_134 (e := (2, .iload_n kF1, 0)) rfl) rfl rfl ?_
  refine w_load (pc' := 15) (v := .int y) (m := 1) (ykc_134 (e := (2, .iload_n kF2, 0)) rfl) rfl rfl ?_
  have hK1 := zKC_31 fb hK
  have hS1 := zCo_S (S := 31) (by decide) fb hS
  refine w_cv (as := [.ref 0, .int x, .int y]) (r := [.ref 0]) (ykc_134 (e := (6, .invokevirtual 259, 0)) rfl) rfl rfl rfl rfl (zc_turnTo hS1 hK1.1 hK1.2.1 hO0 (x := x) (y := y)) (fun v1008 ph1009 hv => ?_)
  rcases hv with ⟨hbad, rfl, rfl⟩ | ⟨p, f, rfl, rfl, hp9, hf9, rfl, ua⟩
  · show zW n D 134 Q 18 [some (.ref 0), some (.int x), some (.int y)] [.int (Int32.ofInt (-1)), .ref 0] ph1007
    refine w_cv (as := [.ref 0, .int (Int32.ofInt (-1))]) (r := []) (ykc_134 (e := (6, .invokevirtual 242, 0)) rfl) rfl rfl rfl rfl (zc_rem (x := Int32.ofInt (-1)) hS1 db hK1.2.2.1.1 hK1.2.2.1.2.2.1 hK1.2.2.1.2.1 hK1.2.2.1.2.2.2.1) (fun v1010 ph1011 hv => ?_)
    obtain ⟨rfl, ⟨-, rfl⟩ | ⟨h9, -⟩⟩ := hv
    rotate_left
    · exact absurd h9 (by decide)
    show zW n D 134 Q 21 [some (.ref 0), some (.int x), some (.int y)] [.int (Int32.ofInt (-1))] ph1007
    refine w_ret (v := (some (.int (Int32.ofInt (-1))))) (ykc_134 (e := (7, .ireturn, 0)) rfl) (zr_v rfl) ?_
    rw [hQ]
    exact Or.inl ⟨hbad, rfl, hK1⟩
  · have fa : zFr [27] [] _ ph1009 := zFr_st ua (Or.inl (by simp))
    have hS2 := zSh_F fa (by decide +kernel) hS1
    have db2 := zSd_F fa (by intro i hi; simp <;> omega) (by intro j i hj; simp) db
    have hn2 := (fa.1 43 1 (by decide) (by simp)).trans hK1.2.2.1.1
    have hu2 := (fa.1 43 2 (by decide) (by simp)).trans hK1.2.2.1.2.2.1
    have hq := hO0.1 p (by omega)
    have t9 : (0 : Int) ≤ (zn (ze8 (v (8 + p)) f)).toInt := by
      rw [znt (by unfold ze8; omega)]
      exact Int.natCast_nonneg _
    show zW n D 134 Q 18 [some (.ref 0), some (.int (zn p)), some (.int (zn f))] [.int (zn (ze8 (v (8 + p)) f)), .ref 0] ph1009
    refine w_cv (as := [.ref 0, .int (zn (ze8 (v (8 + p)) f))]) (r := []) (ykc_134 (e := (6, .invokevirtual 242, 0)) rfl) rfl rfl rfl rfl (zc_rem (x := zn (ze8 (v (8 + p)) f)) hS2 db2 hn2 hu2 hK1.2.2.1.2.1 hK1.2.2.1.2.2.2.1) (fun v1012 ph1013 hv => ?_)
    obtain ⟨rfl, ⟨h9, -⟩ | ⟨-, ⟨q1, q2, pf, pu1, pu2⟩, pd⟩⟩ := hv
    · omega
    show zW n D 134 Q 21 [some (.ref 0), some (.int (zn p)), some (.int (zn f))] [.int (zn (ze8 (v (8 + p)) f))] ph1013
    refine w_ret (v := (some (.int (zn (ze8 (v (8 + p)) f))))) (ykc_134 (e := (7, .ireturn, 0)) rfl) (zr_v rfl) ?_
    rw [hQ]
    exact Or.inr ⟨p, f, rfl, rfl, hp9, hf9, rfl, _, zKC_push (a := 2) (by omega) (by omega) hK1 ua pf pu1 pu2 pd⟩
theorem zc_trims {ph : pm_H} {R C P G nx u fl hn : Nat} {rk : Nat → Bool} {v : Nat → Nat} {w : Nat → Nat → Nat} {sv : Nat → Nat → Nat} (hS : zSh ph) (hK : zKC ph R C rk P G v nx u w fl sv hn) (hO0 : zOk R C P G v) {x y : Int32} : zM 136 [.ref 0, .int x, .int y] ph (fun v0 q => ((x.toInt < 0 ∨ (P : Int) ≤ x.toInt ∨ y.toInt < 0 ∨ 5 ≤ y.toInt) ∧ v0 = some (.int (Int32.ofInt (-1))) ∧ zKC q R C rk P G v nx u w fl sv hn) ∨ (∃ p f, x = zn p ∧ y = zn f ∧ p < P ∧ f ≤ 4 ∧ v0 = some (.int (zn (v (16 + p)))) ∧ ∃ nx1, zKC q R C rk P G (znu v (8 * (3 - 1) + p) f) nx1 (zAd u) (zAw u (zWp u w v)) fl sv hn)) := by
  obtain ⟨Q, hQ⟩ : ∃ Q : Option Value → pm_H → Prop, Q = (fun v0 q => ((x.toInt < 0 ∨ (P : Int) ≤ x.toInt ∨ y.toInt < 0 ∨ 5 ≤ y.toInt) ∧ v0 = some (.int (Int32.ofInt (-1))) ∧ zKC q R C rk P G v nx u w fl sv hn) ∨ (∃ p f, x = zn p ∧ y = zn f ∧ p < P ∧ f ≤ 4 ∧ v0 = some (.int (zn (v (16 + p)))) ∧ ∃ nx1, zKC q R C rk P G (znu v (8 * (3 - 1) + p) f) nx1 (zAd u) (zAw u (zWp u w v)) fl sv hn)) := ⟨_, rfl⟩
  rw [← hQ]
  refine zM_mk fun n D => ?_
  show zW n D 136 Q 0 [some (.ref 0), some (.int x), some (.int y)] [] ph
  have hP8 : P ≤ 8 := hK.2.1.2.1
  refine w_load (pc' := 1) (v := .ref 0) (m := 1) (ykc_136 (e := (2, .aload_n kF0, 0)) rfl) rfl rfl ?_
  refine w_gf (pc' := 4) (v := .ref 31) (ykc_136 (e := (5, .getfield 46, 0)) rfl) rfl (zsg hS zs_0_5) rfl ?_
  refine w_load (pc' := 5) (v := .ref 0) (m := 1) (ykc_136 (e := (2, .aload_n kF0, 0)) rfl) rfl rfl ?_
  refine w_gf (pc' := 8) (v := .ref 25) (ykc_136 (e := (5, .getfield 42, 0)) rfl) rfl (zsg hS zs_0_4) rfl ?_
  refine w_cv (as := [.ref 31, .ref 25]) (r := []) (ykc_136 (e := (6, .invokevirtual 235, 0)) rfl) rfl rfl rfl rfl (zc_copy (zSs_of hS (S := 25) (by decide)) (zSs_of hS (S := 31) (by decide)) hK.2.1 (by omega)) (fun v1014 ph1015 hv => ?_)
  obtain ⟨rfl, fb, db⟩ := hv
  show zW n D 136 Q 11 [some (.ref 0), some (.int x), some (.int y)] [] ph1015
  refine w_load (pc' := 12) (v := .ref 0) (m := 1) (ykc_136 (e := (2, .aload_n kF0, 0)) rfl) rfl rfl ?_
  refine w_load (pc' := 13) (v := .ref 0) (m := 1) (ykc_136 (e := (2, .aload_n kF0, 0)) rfl) rfl rfl ?_
  refine w_load (pc' := 14) (v := .int x) (m := 1) (ykc_136 (e := (2, .iload_n kF1, 0)) rfl) rfl rfl ?_
  refine w_load (pc' := 15) (v := .int y) (m := 1) (ykc_136 (e := (2, .iload_n kF2, 0)) rfl) rfl rfl ?_
  have hK1 := zKC_31 fb hK
  have hS1 := zCo_S (S := 31) (by decide) fb hS
  refine w_cv (as := [.ref 0, .int x, .int y]) (r := [.ref 0]) (ykc_136 (e := (6, .invokevirtual 265, 0)) rfl) rfl rfl rfl rfl (zc_trimTo hS1 hK1.1 hK1.2.1 hO0 (x := x) (y := y)) (fun v1016 ph1017 hv => ?_)
  rcases hv with ⟨hbad, rfl, rfl⟩ | ⟨p, f, rfl, rfl, hp9, hf9, rfl, ua⟩
  · show zW n D 136 Q 18 [some (.ref 0), some (.int x), some (.int y)] [.int (Int32.ofInt (-1)), .ref 0] ph1015
    refine w_cv (as := [.ref 0, .int (Int32.ofInt (-1))]) (r := []) (ykc_136 (e := (6, .invokevirtual 242, 0)) rfl) rfl rfl rfl rfl (zc_rem (x := Int32.ofInt (-1)) hS1 db hK1.2.2.1.1 hK1.2.2.1.2.2.1 hK1.2.2.1.2.1 hK1.2.2.1.2.2.2.1) (fun v1018 ph1019 hv => ?_)
    obtain ⟨rfl, ⟨-, rfl⟩ | ⟨h9, -⟩⟩ := hv
    rotate_left
    · exact absurd h9 (by decide)
    show zW n D 136 Q 21 [some (.ref 0), some (.int x), some (.int y)] [.int (Int32.ofInt (-1))] ph1015
    refine w_ret (v := (some (.int (Int32.ofInt (-1))))) (ykc_136 (e := (7, .ireturn, 0)) rfl) (zr_v rfl) ?_
    rw [hQ]
    exact Or.inl ⟨hbad, rfl, hK1⟩
  · have fa : zFr [28] [] _ ph1017 := zFr_st ua (Or.inl (by simp))
    have hS2 := zSh_F fa (by decide +kernel) hS1
    have db2 := zSd_F fa (by intro i hi; simp <;> omega) (by intro j i hj; simp) db
    have hn2 := (fa.1 43 1 (by decide) (by simp)).trans hK1.2.2.1.1
    have hu2 := (fa.1 43 2 (by decide) (by simp)).trans hK1.2.2.1.2.2.1
    have hq := hO0.1 p (by omega)
    have t9 : (0 : Int) ≤ (zn (v (16 + p))).toInt := by
      rw [znt (by omega)]
      exact Int.natCast_nonneg _
    show zW n D 136 Q 18 [some (.ref 0), some (.int (zn p)), some (.int (zn f))] [.int (zn (v (16 + p))), .ref 0] ph1017
    refine w_cv (as := [.ref 0, .int (zn (v (16 + p)))]) (r := []) (ykc_136 (e := (6, .invokevirtual 242, 0)) rfl) rfl rfl rfl rfl (zc_rem (x := zn (v (16 + p))) hS2 db2 hn2 hu2 hK1.2.2.1.2.1 hK1.2.2.1.2.2.2.1) (fun v1020 ph1021 hv => ?_)
    obtain ⟨rfl, ⟨h9, -⟩ | ⟨-, ⟨q1, q2, pf, pu1, pu2⟩, pd⟩⟩ := hv
    · omega
    show zW n D 136 Q 21 [some (.ref 0), some (.int (zn p)), some (.int (zn f))] [.int (zn (v (16 + p)))] ph1021
    refine w_ret (v := (some (.int (zn (v (16 + p)))))) (ykc_136 (e := (7, .ireturn, 0)) rfl) (zr_v rfl) ?_
    rw [hQ]
    exact Or.inr ⟨p, f, rfl, rfl, hp9, hf9, rfl, _, zKC_push (a := 3) (by omega) (by omega) hK1 ua pf pu1 pu2 pd⟩
theorem zc_steps {ph : pm_H} {R C P G nx u fl hn : Nat} {rk : Nat → Bool} {v : Nat → Nat} {w : Nat → Nat → Nat} {sv : Nat → Nat → Nat} (hS : zSh ph) (hK : zKC ph R C rk P G v nx u w fl sv hn) (hO0 : zOk R C P G v) {x y : Int32} : zM 135 [.ref 0, .int x, .int y] ph (fun v0 q => ((x.toInt < 0 ∨ (P : Int) ≤ x.toInt ∨ y.toInt < 0 ∨ 8 ≤ y.toInt) ∧ v0 = some (.int (Int32.ofInt (-1))) ∧ zKC q R C rk P G v nx u w fl sv hn) ∨ (∃ p f, x = zn p ∧ y = zn f ∧ p < P ∧ f < 8 ∧ zbk R C rk (v p) f = -1 ∧ v0 = some (.int (Int8.ofInt (-2)).toInt32) ∧ zKC q R C rk P G v nx u w fl sv hn) ∨ (∃ p f, x = zn p ∧ y = zn f ∧ p < P ∧ f < 8 ∧ ∃ g, g < R * C ∧ zbk R C rk (v p) f = (g : Nat) ∧ v0 = some (.int (zn g)) ∧ ∃ nx1, zKC q R C rk P G (znu v (8 * (1 - 1) + p) g) nx1 (zAd u) (zAw u (zWp u w v)) fl sv hn)) := by
  obtain ⟨Q, hQ⟩ : ∃ Q : Option Value → pm_H → Prop, Q = (fun v0 q => ((x.toInt < 0 ∨ (P : Int) ≤ x.toInt ∨ y.toInt < 0 ∨ 8 ≤ y.toInt) ∧ v0 = some (.int (Int32.ofInt (-1))) ∧ zKC q R C rk P G v nx u w fl sv hn) ∨ (∃ p f, x = zn p ∧ y = zn f ∧ p < P ∧ f < 8 ∧ zbk R C rk (v p) f = -1 ∧ v0 = some (.int (Int8.ofInt (-2)).toInt32) ∧ zKC q R C rk P G v nx u w fl sv hn) ∨ (∃ p f, x = zn p ∧ y = zn f ∧ p < P ∧ f < 8 ∧ ∃ g, g < R * C ∧ zbk R C rk (v p) f = (g : Nat) ∧ v0 = some (.int (zn g)) ∧ ∃ nx1, zKC q R C rk P G (znu v (8 * (1 - 1) + p) g) nx1 (zAd u) (zAw u (zWp u w v)) fl sv hn)) := ⟨_, rfl⟩
  rw [← hQ]
  refine zM_mk fun n D => ?_
  show zW n D 135 Q 0 [some (.ref 0), some (.int x), some (.int y)] [] ph
  have hP8 : P ≤ 8 := hK.2.1.2.1
  have hG8 : G ≤ 8 := hK.2.1.2.2.2.1
  refine w_load (pc' := 1) (v := .ref 0) (m := 1) (ykc_135 (e := (2, .aload_n kF0, 0)) rfl) rfl rfl ?_
  refine w_gf (pc' := 4) (v := .ref 31) (ykc_135 (e := (5, .getfield 46, 0)) rfl) rfl (zsg hS zs_0_5) rfl ?_
  refine w_load (pc' := 5) (v := .ref 0) (m := 1) (ykc_135 (e := (2, .aload_n kF0, 0)) rfl) rfl rfl ?_
  refine w_gf (pc' := 8) (v := .ref 25) (ykc_135 (e := (5, .getfield 42, 0)) rfl) rfl (zsg hS zs_0_4) rfl ?_
  refine w_cv (as := [.ref 31, .ref 25]) (r := []) (ykc_135 (e := (6, .invokevirtual 235, 0)) rfl) rfl rfl rfl rfl (zc_copy (zSs_of hS (S := 25) (by decide)) (zSs_of hS (S := 31) (by decide)) hK.2.1 (by omega)) (fun v1022 ph1023 hv => ?_)
  obtain ⟨rfl, fb, db⟩ := hv
  show zW n D 135 Q 11 [some (.ref 0), some (.int x), some (.int y)] [] ph1023
  refine w_load (pc' := 12) (v := .ref 0) (m := 1) (ykc_135 (e := (2, .aload_n kF0, 0)) rfl) rfl rfl ?_
  refine w_load (pc' := 13) (v := .ref 0) (m := 1) (ykc_135 (e := (2, .aload_n kF0, 0)) rfl) rfl rfl ?_
  refine w_load (pc' := 14) (v := .int x) (m := 1) (ykc_135 (e := (2, .iload_n kF1, 0)) rfl) rfl rfl ?_
  refine w_load (pc' := 15) (v := .int y) (m := 1) (ykc_135 (e := (2, .iload_n kF2, 0)) rfl) rfl rfl ?_
  have hK1 := zKC_31 fb hK
  have hS1 := zCo_S (S := 31) (by decide) fb hS
  have hR7 := hK1.1.2.2.2.2.2.2.1
  have hC7 := hK1.1.2.2.2.2.2.2.2.2
  have hRC := zRC49 hR7 hC7
  refine w_cv (as := [.ref 0, .int x, .int y]) (r := [.ref 0]) (ykc_135 (e := (6, .invokevirtual 262, 0)) rfl) rfl rfl rfl rfl (zc_walk hS1 hK1.1 hK1.2.1 hO0 (x := x) (y := y)) (fun v1024 ph1025 hv => ?_)
  rcases hv with ⟨hbad, rfl, rfl⟩ | ⟨p, f, rfl, rfl, hp9, hf9, ⟨hb9, rfl, rfl⟩ | ⟨g, hg9, hb9, rfl, ua⟩⟩
  · show zW n D 135 Q 18 [some (.ref 0), some (.int x), some (.int y)] [.int (Int32.ofInt (-1)), .ref 0] ph1023
    refine w_cv (as := [.ref 0, .int (Int32.ofInt (-1))]) (r := []) (ykc_135 (e := (6, .invokevirtual 242, 0)) rfl) rfl rfl rfl rfl (zc_rem (x := Int32.ofInt (-1)) hS1 db hK1.2.2.1.1 hK1.2.2.1.2.2.1 hK1.2.2.1.2.1 hK1.2.2.1.2.2.2.1) (fun v1026 ph1027 hv => ?_)
    obtain ⟨rfl, ⟨-, rfl⟩ | ⟨h9, -⟩⟩ := hv
    rotate_left
    · exact absurd h9 (by decide)
    show zW n D 135 Q 21 [some (.ref 0), some (.int x), some (.int y)] [.int (Int32.ofInt (-1))] ph1023
    refine w_ret (v := (some (.int (Int32.ofInt (-1))))) (ykc_135 (e := (7, .ireturn, 0)) rfl) (zr_v rfl) ?_
    rw [hQ]
    exact Or.inl ⟨hbad, rfl, hK1⟩
  · show zW n D 135 Q 18 [some (.ref 0), some (.int (zn p)), some (.int (zn f))] [.int ((Int8.ofInt (-2)).toInt32), .ref 0] ph1023
    refine w_cv (as := [.ref 0, .int ((Int8.ofInt (-2)).toInt32)]) (r := []) (ykc_135 (e := (6, .invokevirtual 242, 0)) rfl) rfl rfl rfl rfl (zc_rem (x := (Int8.ofInt (-2)).toInt32) hS1 db hK1.2.2.1.1 hK1.2.2.1.2.2.1 hK1.2.2.1.2.1 hK1.2.2.1.2.2.2.1) (fun v1028 ph1029 hv => ?_)
    obtain ⟨rfl, ⟨-, rfl⟩ | ⟨h9, -⟩⟩ := hv
    rotate_left
    · exact absurd h9 (by decide)
    show zW n D 135 Q 21 [some (.ref 0), some (.int (zn p)), some (.int (zn f))] [.int ((Int8.ofInt (-2)).toInt32)] ph1023
    refine w_ret (v := (some (.int ((Int8.ofInt (-2)).toInt32)))) (ykc_135 (e := (7, .ireturn, 0)) rfl) (zr_v rfl) ?_
    rw [hQ]
    exact Or.inr (Or.inl ⟨p, f, rfl, rfl, hp9, hf9, hb9, rfl, hK1⟩)
  · have fa : zFr [26] [] _ ph1025 := zFr_st ua (Or.inl (by simp))
    have hS2 := zSh_F fa (by decide +kernel) hS1
    have db2 := zSd_F fa (by intro i hi; simp <;> omega) (by intro j i hj; simp) db
    have hn2 := (fa.1 43 1 (by decide) (by simp)).trans hK1.2.2.1.1
    have hu2 := (fa.1 43 2 (by decide) (by simp)).trans hK1.2.2.1.2.2.1
    have t9 := znt (k := g) (by omega)
    show zW n D 135 Q 18 [some (.ref 0), some (.int (zn p)), some (.int (zn f))] [.int (zn g), .ref 0] ph1025
    refine w_cv (as := [.ref 0, .int (zn g)]) (r := []) (ykc_135 (e := (6, .invokevirtual 242, 0)) rfl) rfl rfl rfl rfl (zc_rem (x := zn g) hS2 db2 hn2 hu2 hK1.2.2.1.2.1 hK1.2.2.1.2.2.2.1) (fun v1030 ph1031 hv => ?_)
    obtain ⟨rfl, ⟨h9, -⟩ | ⟨-, ⟨q1, q2, pf, pu1, pu2⟩, pd⟩⟩ := hv
    · omega
    show zW n D 135 Q 21 [some (.ref 0), some (.int (zn p)), some (.int (zn f))] [.int (zn g)] ph1031
    refine w_ret (v := (some (.int (zn g)))) (ykc_135 (e := (7, .ireturn, 0)) rfl) (zr_v rfl) ?_
    rw [hQ]
    exact Or.inr (Or.inr ⟨p, f, rfl, rfl, hp9, hf9, g, hg9, hb9, rfl, _, zKC_push (a := 1) (by omega) (by omega) hK1 ua pf pu1 pu2 pd⟩)
theorem zc_puts {ph : pm_H} {R C P G nx u fl hn : Nat} {rk : Nat → Bool} {v : Nat → Nat} {w : Nat → Nat → Nat} {sv : Nat → Nat → Nat} (hS : zSh ph) (hK : zKC ph R C rk P G v nx u w fl sv hn) (hO0 : zOk R C P G v) {x y : Int32} : zM 137 [.ref 0, .int x, .int y] ph (fun v0 q => ((x.toInt < 0 ∨ (G : Int) ≤ x.toInt ∨ y.toInt < 0 ∨ ((R * C : Nat) : Int) ≤ y.toInt) ∧ v0 = some (.int (Int32.ofInt (-1))) ∧ zKC q R C rk P G v nx u w fl sv hn) ∨ (∃ p f, x = zn p ∧ y = zn f ∧ p < G ∧ f < R * C ∧ v (32 + p) = f ∧ v0 = some (.int (Int8.ofInt (-2)).toInt32) ∧ zKC q R C rk P G v nx u w fl sv hn) ∨ (∃ p f, x = zn p ∧ y = zn f ∧ p < G ∧ f < R * C ∧ v (32 + p) ≠ f ∧ v0 = some (.int (zn (v (32 + p)))) ∧ ∃ nx1, zKC q R C rk P G (znu v (8 * (5 - 1) + p) f) nx1 (zAd u) (zAw u (zWp u w v)) fl sv hn)) := by
  obtain ⟨Q, hQ⟩ : ∃ Q : Option Value → pm_H → Prop, Q = (fun v0 q => ((x.toInt < 0 ∨ (G : Int) ≤ x.toInt ∨ y.toInt < 0 ∨ ((R * C : Nat) : Int) ≤ y.toInt) ∧ v0 = some (.int (Int32.ofInt (-1))) ∧ zKC q R C rk P G v nx u w fl sv hn) ∨ (∃ p f, x = zn p ∧ y = zn f ∧ p < G ∧ f < R * C ∧ v (32 + p) = f ∧ v0 = some (.int (Int8.ofInt (-2)).toInt32) ∧ zKC q R C rk P G v nx u w fl sv hn) ∨ (∃ p f, x = zn p ∧ y = zn f ∧ p < G ∧ f < R * C ∧ v (32 + p) ≠ f ∧ v0 = some (.int (zn (v (32 + p)))) ∧ ∃ nx1, zKC q R C rk P G (znu v (8 * (5 - 1) + p) f) nx1 (zAd u) (zAw u (zWp u w v)) fl sv hn)) := ⟨_, rfl⟩
  rw [← hQ]
  refine zM_mk fun n D => ?_
  show zW n D 137 Q 0 [some (.ref 0), some (.int x), some (.int y)] [] ph
  have hP8 : P ≤ 8 := hK.2.1.2.1
  have hG8 : G ≤ 8 := hK.2.1.2.2.2.1
  refine w_load (pc' := 1) (v := .ref 0) (m := 1) (ykc_137 (e := (2, .aload_n kF0, 0)) rfl) rfl rfl ?_
  refine w_gf (pc' := 4) (v := .ref 31) (ykc_137 (e := (5, .getfield 46, 0)) rfl) rfl (zsg hS zs_0_5) rfl ?_
  refine w_load (pc' := 5) (v := .ref 0) (m := 1) (ykc_137 (e := (2, .aload_n kF0, 0)) rfl) rfl rfl ?_
  refine w_gf (pc' := 8) (v := .ref 25) (ykc_137 (e := (5, .getfield 42, 0)) rfl) rfl (zsg hS zs_0_4) rfl ?_
  refine w_cv (as := [.ref 31, .ref 25]) (r := []) (ykc_137 (e := (6, .invokevirtual 235, 0)) rfl) rfl rfl rfl rfl (zc_copy (zSs_of hS (S := 25) (by decide)) (zSs_of hS (S := 31) (by decide)) hK.2.1 (by omega)) (fun v1032 ph1033 hv => ?_)
  obtain ⟨rfl, fb, db⟩ := hv
  show zW n D 137 Q 11 [some (.ref 0), some (.int x), some (.int y)] [] ph1033
  refine w_load (pc' := 12) (v := .ref 0) (m := 1) (ykc_137 (e := (2, .aload_n kF0, 0)) rfl) rfl rfl ?_
  refine w_load (pc' := 13) (v := .ref 0) (m := 1) (ykc_137 (e := (2, .aload_n kF0, 0)) rfl) rfl rfl ?_
  refine w_load (pc' := 14) (v := .int x) (m := 1) (ykc_137 (e := (2, .iload_n kF1, 0)) rfl) rfl rfl ?_
  refine w_load (pc' := 15) (v := .int y) (m := 1) (ykc_137 (e := (2, .iload_n kF2, 0)) rfl) rfl rfl ?_
  have hK1 := zKC_31 fb hK
  have hS1 := zCo_S (S := 31) (by decide) fb hS
  have hR7 := hK1.1.2.2.2.2.2.2.1
  have hC7 := hK1.1.2.2.2.2.2.2.2.2
  have hRC := zRC49 hR7 hC7
  refine w_cv (as := [.ref 0, .int x, .int y]) (r := [.ref 0]) (ykc_137 (e := (6, .invokevirtual 268, 0)) rfl) rfl rfl rfl rfl (zc_putOn hS1 hK1.1 hK1.2.1 hO0 (x := x) (y := y)) (fun v1034 ph1035 hv => ?_)
  rcases hv with ⟨hbad, rfl, rfl⟩ | ⟨p, f, rfl, rfl, hp9, hf9, ⟨hs9, rfl, rfl⟩ | ⟨hs9, rfl, ua⟩⟩
  · show zW n D 137 Q 18 [some (.ref 0), some (.int x), some (.int y)] [.int (Int32.ofInt (-1)), .ref 0] ph1033
    refine w_cv (as := [.ref 0, .int (Int32.ofInt (-1))]) (r := []) (ykc_137 (e := (6, .invokevirtual 242, 0)) rfl) rfl rfl rfl rfl (zc_rem (x := Int32.ofInt (-1)) hS1 db hK1.2.2.1.1 hK1.2.2.1.2.2.1 hK1.2.2.1.2.1 hK1.2.2.1.2.2.2.1) (fun v1036 ph1037 hv => ?_)
    obtain ⟨rfl, ⟨-, rfl⟩ | ⟨h9, -⟩⟩ := hv
    rotate_left
    · exact absurd h9 (by decide)
    show zW n D 137 Q 21 [some (.ref 0), some (.int x), some (.int y)] [.int (Int32.ofInt (-1))] ph1033
    refine w_ret (v := (some (.int (Int32.ofInt (-1))))) (ykc_137 (e := (7, .ireturn, 0)) rfl) (zr_v rfl) ?_
    rw [hQ]
    exact Or.inl ⟨hbad, rfl, hK1⟩
  · show zW n D 137 Q 18 [some (.ref 0), some (.int (zn p)), some (.int (zn f))] [.int ((Int8.ofInt (-2)).toInt32), .ref 0] ph1033
    refine w_cv (as := [.ref 0, .int ((Int8.ofInt (-2)).toInt32)]) (r := []) (ykc_137 (e := (6, .invokevirtual 242, 0)) rfl) rfl rfl rfl rfl (zc_rem (x := (Int8.ofInt (-2)).toInt32) hS1 db hK1.2.2.1.1 hK1.2.2.1.2.2.1 hK1.2.2.1.2.1 hK1.2.2.1.2.2.2.1) (fun v1038 ph1039 hv => ?_)
    obtain ⟨rfl, ⟨-, rfl⟩ | ⟨h9, -⟩⟩ := hv
    rotate_left
    · exact absurd h9 (by decide)
    show zW n D 137 Q 21 [some (.ref 0), some (.int (zn p)), some (.int (zn f))] [.int ((Int8.ofInt (-2)).toInt32)] ph1033
    refine w_ret (v := (some (.int ((Int8.ofInt (-2)).toInt32)))) (ykc_137 (e := (7, .ireturn, 0)) rfl) (zr_v rfl) ?_
    rw [hQ]
    exact Or.inr (Or.inl ⟨p, f, rfl, rfl, hp9, hf9, hs9, rfl, hK1⟩)
  · have fa : zFr [30] [] _ ph1035 := zFr_st ua (Or.inl (by simp))
    have hS2 := zSh_F fa (by decide +kernel) hS1
    have db2 := zSd_F fa (by intro i hi; simp <;> omega) (by intro j i hj; simp) db
    have hn2 := (fa.1 43 1 (by decide) (by simp)).trans hK1.2.2.1.1
    have hu2 := (fa.1 43 2 (by decide) (by simp)).trans hK1.2.2.1.2.2.1
    have hq := hO0.2.1 p (by omega)
    have t9 := znt (k := v (32 + p)) (by omega)
    show zW n D 137 Q 18 [some (.ref 0), some (.int (zn p)), some (.int (zn f))] [.int (zn (v (32 + p))), .ref 0] ph1035
    refine w_cv (as := [.ref 0, .int (zn (v (32 + p)))]) (r := []) (ykc_137 (e := (6, .invokevirtual 242, 0)) rfl) rfl rfl rfl rfl (zc_rem (x := zn (v (32 + p))) hS2 db2 hn2 hu2 hK1.2.2.1.2.1 hK1.2.2.1.2.2.2.1) (fun v1040 ph1041 hv => ?_)
    obtain ⟨rfl, ⟨h9, -⟩ | ⟨-, ⟨q1, q2, pf, pu1, pu2⟩, pd⟩⟩ := hv
    · omega
    show zW n D 137 Q 21 [some (.ref 0), some (.int (zn p)), some (.int (zn f))] [.int (zn (v (32 + p)))] ph1041
    refine w_ret (v := (some (.int (zn (v (32 + p)))))) (ykc_137 (e := (7, .ireturn, 0)) rfl) (zr_v rfl) ?_
    rw [hQ]
    exact Or.inr (Or.inr ⟨p, f, rfl, rfl, hp9, hf9, hs9, rfl, _, zKC_push (a := 5) (by omega) (by omega) hK1 ua pf pu1 pu2 pd⟩)
end
section
/-! the reference: undo, keep, again, heard, forget, by W; printed by wip/z/z_u_mcall2.py -/
theorem zm_undo {ph : pm_H} {R C P G u ch hn : Nat} {rk : Nat → Bool} {v : Nat → Nat} {w : Nat → Nat → Nat} {kp : Nat → Bool} {kc : Nat → Nat} {sv : Nat → Nat → Nat} (hS : zSh ph) (hK : zKM ph R C rk P G v u w ch kp kc sv hn) (hO0 : zOk R C P G v) : zM 241 [.ref 170] ph (fun v0 q => (u = 0 ∧ v0 = some (.int (Int32.ofInt (-1))) ∧ zKM q R C rk P G v u w ch kp kc sv hn) ∨ (0 < u ∧ v0 = some (.int (zn (u - 1))) ∧ zKM q R C rk P G (w (u - 1)) (u - 1) w ch kp kc sv hn)) := by
  obtain ⟨Q, hQ⟩ : ∃ Q : Option Value → pm_H → Prop, Q = (fun v0 q => (u = 0 ∧ v0 = some (.int (Int32.ofInt (-1))) ∧ zKM q R C rk P G v u w ch kp kc sv hn) ∨ (0 < u ∧ v0 = some (.int (zn (u - 1))) ∧ zKM q R C rk P G (w (u - 1)) (u - 1) w ch kp kc sv hn)) := ⟨_, rfl⟩
  rw [← hQ]
  refine zM_mk fun n D => ?_
  show zW n D 241 Q 0 [some (.ref 170), none] [] ph
  have c_0 : ((Int8.ofInt 41).toInt32).toInt = 41 := by decide
  have c_1 : (Int32.ofInt (-1)).toInt = -1 := by decide
  have c_2 : (Int32.ofInt 0).toInt = 0 := by decide
  have c_3 : (Int32.ofInt 1).toInt = 1 := by decide
  obtain ⟨hL, hN, hv, hU, hk, hh⟩ := hK
  have hL0 := hL
  have hN0 := hN
  have hu15 := hU.2.1
  obtain ⟨gR, gC, gK, hR3, hR7, hC3, hC7⟩ := hL
  have hRC := zRC49 hR7 hC7
  have tR := znt (k := R) (by omega)
  have tC := znt (k := C) (by omega)
  obtain ⟨gP, hP8, gG, hG8⟩ := hN
  have tP := znt (k := P) (by omega)
  have tG := znt (k := G) (by omega)
  have tu := znt (k := u) (by omega)
  have hn10 := hh.2
  have thn := znt (k := hn) (by omega)
  refine w_load (pc' := 1) (v := .ref 170) (m := 1) (ykc_241 (e := (2, .aload_n kF0, 0)) rfl) rfl rfl ?_
  refine w_alu (pc' := 2) (st' := [.int (Int32.ofInt 0), .ref 170]) (ykc_241 (e := (0, .iconst 0, 0)) rfl) rfl rfl ?_
  refine w_pf (pc' := 5) (ykc_241 (e := (5, .putfield 3, 0)) rfl) rfl rfl (fun ph1043 u1042 => ?_)
  have f0 : zFr [] [(170, 0)] ph ph1043 := zFr_st u1042 (Or.inr (by simp))
  have hS1 := zSh_st u1042 (by decide +kernel) hS
  refine w_load (pc' := 6) (v := .ref 170) (m := 1) (ykc_241 (e := (2, .aload_n kF0, 0)) rfl) rfl rfl ?_
  refine w_gf (pc' := 9) (v := .int (zn u)) (ykc_241 (e := (5, .getfield 188, 0)) rfl) rfl ((u1042.2.1 170 27 (fun q => absurd q.2 (by decide))).trans hU.1) rfl ?_
  refine w_zne (ykc_241 (e := (4, .ifCond .ne 5, 14)) rfl) rfl (fun b1044 => ?_) (fun b1044 => ?_)
  · refine w_load (pc' := 15) (v := .ref 170) (m := 1) (ykc_241 (e := (2, .aload_n kF0, 0)) rfl) rfl rfl ?_
    refine w_alu (pc' := 16) (st' := [.ref 170, .ref 170]) (ykc_241 (e := (0, .dup, 0)) rfl) rfl rfl ?_
    refine w_gf (pc' := 19) (v := .int (zn u)) (ykc_241 (e := (5, .getfield 188, 0)) rfl) rfl ((u1042.2.1 170 27 (fun q => absurd q.2 (by decide))).trans hU.1) rfl ?_
    refine w_alu (pc' := 20) (st' := [.int (Int32.ofInt 1), .int (zn u), .ref 170]) (ykc_241 (e := (0, .iconst 1, 0)) rfl) rfl rfl ?_
    have e1045 : (zn u) - (Int32.ofInt 1) = zn (u - 1) := zsubN (a := u) (b := 1) (znt (by omega)) c_3 (by omega)
    have te1045 := znt (k := u - 1) (by omega)
    refine w_alu (pc' := 21) (st' := [.int (zn (u - 1)), .ref 170]) (ykc_241 (e := (0, .isub, 0)) rfl) (by show some ([.int ((zn u) - (Int32.ofInt 1)), .ref 170] : List Value) = _; rw [e1045]) rfl ?_
    refine w_pf (pc' := 24) (ykc_241 (e := (5, .putfield 188, 0)) rfl) rfl rfl (fun ph1047 u1046 => ?_)
    refine w_alu (pc' := 25) (st' := [.int (Int32.ofInt 0)]) (ykc_241 (e := (0, .iconst 0, 0)) rfl) rfl rfl ?_
    refine w_store (pc' := 26) (L' := [some (.ref 170), some (.int (Int32.ofInt 0))]) (st' := []) (m := 1) (ykc_241 (e := (3, .istore_n kF1, 0)) rfl) rfl rfl ?_
    have f1 : zFr [] [(170, 0), (170, 27)] ph ph1047 := zFr_trans (zFr_mono f0 (by simp) (by simp)) (zFr_st u1046 (Or.inr (by simp)))
    have g27 := u1046.1
    have tu1 := znt (k := u - 1) (by omega)
    have hl : ∀ (n : Nat), ∀ (k : Nat) (ph9 : pm_H), (k ≤ 41) → (zFr [174] [] ph1047 ph9) → (∀ i, i < k → zc ph9 174 i = some (.int (zn (w (u - 1) i)))) → zW n D 241 Q 26 [some (.ref 170), some (.int (zn k))] [] ph9 := by
      intro n
      induction n using Nat.strongRecOn with
      | ind n ih =>
        intro k ph9 hk9 hf hr
        have tk := znt (k := k) (by omega)
        refine w_load (pc' := 27) (v := .int (zn k)) (m := 1) (ykc_241 (e := (2, .iload_n kF1, 0)) rfl) rfl rfl ?_
        refine w_push (pc' := 29) (v := .int ((Int8.ofInt 41).toInt32)) (m := 2) (ykc_241 (e := (1, .bipush 41, 0)) rfl) rfl rfl ?_
        refine w_ige (ykc_241 (e := (4, .if_icmp .ge 29, 58)) rfl) rfl (fun b1048 => ?_) (fun b1048 => ?_)
        · refine w_load (pc' := 59) (v := .ref 170) (m := 1) (ykc_241 (e := (2, .aload_n kF0, 0)) rfl) rfl rfl ?_
          refine w_gf (pc' := 62) (v := .int (zn (u - 1))) (ykc_241 (e := (5, .getfield 188, 0)) rfl) rfl ((hf.1 170 27 (by decide) (by decide)).trans g27) rfl ?_
          refine w_ret (v := (some (.int (zn (u - 1))))) (ykc_241 (e := (7, .ireturn, 0)) rfl) (zr_v rfl) ?_
          have f2 : zFr [174] [(170, 0), (170, 27)] ph ph9 := zFr_trans (zFr_mono f1 (by simp) (by simp)) (zFr_mono hf (by simp) (by simp))
          rw [hQ]
          exact Or.inr ⟨by omega, rfl, zMl_F f2 (by simp) (by simp) (by simp) (by simp) hL0, zMp_F f2 (by simp) (by simp) (by simp) hN0, fun i hi => by rw [Nat.zero_add]; exact hr i (by omega), ⟨(hf.1 170 27 (by decide) (by decide)).trans g27, by omega, fun i hi => zNr_F f2 (by simp) (by simp) (hU.2.2 i (by omega))⟩, zMk_F f2 (by simp) (by simp) (by simp) hk, zMh_F f2 (by simp) (by simp) hh⟩
        · refine w_load (pc' := 33) (v := .ref 170) (m := 1) (ykc_241 (e := (2, .aload_n kF0, 0)) rfl) rfl rfl ?_
          refine w_gf (pc' := 36) (v := .ref 174) (ykc_241 (e := (5, .getfield 41, 0)) rfl) rfl ((hf.1 170 11 (by decide) (by decide)).trans ((f1.1 170 11 (by decide) (by decide)).trans (zsg hS zs_170_11))) rfl ?_
          refine w_load (pc' := 37) (v := .int (zn k)) (m := 1) (ykc_241 (e := (2, .iload_n kF1, 0)) rfl) rfl rfl ?_
          refine w_load (pc' := 38) (v := .ref 170) (m := 1) (ykc_241 (e := (2, .aload_n kF0, 0)) rfl) rfl rfl ?_
          refine w_gf (pc' := 41) (v := .ref 183) (ykc_241 (e := (5, .getfield 68, 0)) rfl) rfl ((hf.1 170 28 (by decide) (by decide)).trans ((f1.1 170 28 (by decide) (by decide)).trans (zsg hS zs_170_28))) rfl ?_
          refine w_push (pc' := 43) (v := .int ((Int8.ofInt 41).toInt32)) (m := 2) (ykc_241 (e := (1, .bipush 41, 0)) rfl) rfl rfl ?_
          refine w_load (pc' := 44) (v := .ref 170) (m := 1) (ykc_241 (e := (2, .aload_n kF0, 0)) rfl) rfl rfl ?_
          refine w_gf (pc' := 47) (v := .int (zn (u - 1))) (ykc_241 (e := (5, .getfield 188, 0)) rfl) rfl ((hf.1 170 27 (by decide) (by decide)).trans g27) rfl ?_
          have e1049 : ((Int8.ofInt 41).toInt32) * (zn (u - 1)) = zn (41 * (u - 1)) := zn_of (by have e1 : (zn (u - 1)).toInt = ((u - 1 : Nat) : Int) := tu1; have e2 : ((Int8.ofInt 41).toInt32).toInt = 41 := (by omega); rw [ti_mul (x := ((Int8.ofInt 41).toInt32)) (y := (zn (u - 1))) (by rw [e1, e2]; omega) (by rw [e1, e2]; omega), e1, e2]; omega)
          have te1049 := znt (k := 41 * (u - 1)) (by omega)
          refine w_alu (pc' := 48) (st' := [.int (zn (41 * (u - 1))), .ref 183, .int (zn k), .ref 174]) (ykc_241 (e := (0, .imul, 0)) rfl) (by rw [← e1049]; rfl) rfl ?_
          refine w_load (pc' := 49) (v := .int (zn k)) (m := 1) (ykc_241 (e := (2, .iload_n kF1, 0)) rfl) rfl rfl ?_
          have e1050 : (zn (41 * (u - 1))) + (zn k) = zn (41 * (u - 1) + k) := (zaddN (a := 41 * (u - 1)) (b := k) (znt (by omega)) (znt (by omega)) (by omega)) 
          have te1050 := znt (k := 41 * (u - 1) + k) (by omega)
          refine w_alu (pc' := 50) (st' := [.int (zn (41 * (u - 1) + k)), .ref 183, .int (zn k), .ref 174]) (ykc_241 (e := (0, .iadd, 0)) rfl) (by rw [← e1050]; rfl) rfl ?_
          refine w_ialk (pc' := 51) (k := 41 * (u - 1) + k) (ykc_241 (e := (5, .iaload, 0)) rfl) ((hf.1 183 (41 * (u - 1) + k) (by decide) (by simp)).trans ((f1.1 183 (41 * (u - 1) + k) (by simp) (by simp)).trans (hU.2.2 (u - 1) (by omega) k (by omega)))) (by omega) rfl ?_
          refine w_ias (pc' := 52) (k := k) (ykc_241 (e := (5, .iastore, 0)) rfl) (by omega) rfl (fun ph1052 u1051 => ?_)
          have e1053 : (zn k) + Int32.ofInt 1 = zn (k + 1) := (zaddN (a := k) (b := 1) (znt (by omega)) c_3 (by omega))
          have te1053 := znt (k := k + 1) (by omega)
          refine w_store (pc' := 55) (L' := [some (.ref 170), some (.int (zn (k + 1)))]) (st' := []) (m := 3) (ykc_241 (e := (3, .iinc 1 1, 0)) rfl) (by rw [← e1053]; rfl) rfl ?_
          refine w_gb (ykc_241 (e := (4, .goto (-29), 26)) rfl) (fun k1054 hk1054 => ?_)
          exact ih k1054 hk1054 (k + 1) _ (by omega) (zFr_add hf u1051 (Or.inl (by simp))) (fun i hi => by
            by_cases e : i = k
            · subst e
              exact u1051.1
            · exact (u1051.2.1 174 i (fun q => e q.2)).trans (hr i (by omega)))
    exact hl n 0 _ (by omega) zFr_refl (fun i hi => absurd hi (Nat.not_lt_zero i))
  · refine w_alu (pc' := 13) (st' := [.int (Int32.ofInt (-1))]) (ykc_241 (e := (0, .iconst (-1), 0)) rfl) rfl rfl ?_
    refine w_ret (v := (some (.int (Int32.ofInt (-1))))) (ykc_241 (e := (7, .ireturn, 0)) rfl) (zr_v rfl) ?_
    have eu : u = 0 := by omega
    rw [hQ]
    exact Or.inl ⟨eu, rfl, zMl_F f0 (by simp) (by simp) (by simp) (by simp) hL0, zMp_F f0 (by simp) (by simp) (by simp) hN0, zNr_F f0 (by simp) (by simp) hv, zMu_F f0 (by simp) (by simp) (by simp) hU, zMk_F f0 (by simp) (by simp) (by simp) hk, zMh_F f0 (by simp) (by simp) hh⟩
theorem zm_forget {ph : pm_H} {R C P G u ch hn : Nat} {rk : Nat → Bool} {v : Nat → Nat} {w : Nat → Nat → Nat} {kp : Nat → Bool} {kc : Nat → Nat} {sv : Nat → Nat → Nat} (hS : zSh ph) (hK : zKM ph R C rk P G v u w ch kp kc sv hn) (hO0 : zOk R C P G v) : zM 284 [.ref 170] ph (fun v0 q => v0 = some (.int (zn hn)) ∧ zKM q R C rk P G v u w ch kp kc sv 0) := by
  obtain ⟨Q, hQ⟩ : ∃ Q : Option Value → pm_H → Prop, Q = (fun v0 q => v0 = some (.int (zn hn)) ∧ zKM q R C rk P G v u w ch kp kc sv 0) := ⟨_, rfl⟩
  rw [← hQ]
  refine zM_mk fun n D => ?_
  show zW n D 284 Q 0 [some (.ref 170), none] [] ph
  have c_0 : (Int32.ofInt 0).toInt = 0 := by decide
  obtain ⟨hL, hN, hv, hU, hk, hh⟩ := hK
  have hL0 := hL
  have hN0 := hN
  have hu15 := hU.2.1
  obtain ⟨gR, gC, gK, hR3, hR7, hC3, hC7⟩ := hL
  have hRC := zRC49 hR7 hC7
  have tR := znt (k := R) (by omega)
  have tC := znt (k := C) (by omega)
  obtain ⟨gP, hP8, gG, hG8⟩ := hN
  have tP := znt (k := P) (by omega)
  have tG := znt (k := G) (by omega)
  have tu := znt (k := u) (by omega)
  have hn10 := hh.2
  have thn := znt (k := hn) (by omega)
  refine w_load (pc' := 1) (v := .ref 170) (m := 1) (ykc_284 (e := (2, .aload_n kF0, 0)) rfl) rfl rfl ?_
  refine w_alu (pc' := 2) (st' := [.int (Int32.ofInt 0), .ref 170]) (ykc_284 (e := (0, .iconst 0, 0)) rfl) rfl rfl ?_
  refine w_pf (pc' := 5) (ykc_284 (e := (5, .putfield 3, 0)) rfl) rfl rfl (fun ph1056 u1055 => ?_)
  refine w_load (pc' := 6) (v := .ref 170) (m := 1) (ykc_284 (e := (2, .aload_n kF0, 0)) rfl) rfl rfl ?_
  refine w_gf (pc' := 9) (v := .int (zn hn)) (ykc_284 (e := (5, .getfield 194, 0)) rfl) rfl ((u1055.2.1 170 39 (fun q => absurd q.2 (by decide))).trans hh.1) rfl ?_
  refine w_store (pc' := 10) (L' := [some (.ref 170), some (.int (zn hn))]) (st' := []) (m := 1) (ykc_284 (e := (3, .istore_n kF1, 0)) rfl) rfl rfl ?_
  refine w_load (pc' := 11) (v := .ref 170) (m := 1) (ykc_284 (e := (2, .aload_n kF0, 0)) rfl) rfl rfl ?_
  refine w_alu (pc' := 12) (st' := [.int (Int32.ofInt 0), .ref 170]) (ykc_284 (e := (0, .iconst 0, 0)) rfl) rfl rfl ?_
  refine w_pf (pc' := 15) (ykc_284 (e := (5, .putfield 194, 0)) rfl) rfl rfl (fun ph1058 u1057 => ?_)
  refine w_load (pc' := 16) (v := .int (zn hn)) (m := 1) (ykc_284 (e := (2, .iload_n kF1, 0)) rfl) rfl rfl ?_
  refine w_ret (v := (some (.int (zn hn)))) (ykc_284 (e := (7, .ireturn, 0)) rfl) (zr_v rfl) ?_
  have f2 : zFr [] [(170, 0), (170, 39)] ph _ := zFr_trans (zFr_st u1055 (Or.inr (by simp))) (zFr_st u1057 (Or.inr (by simp)))
  rw [hQ]
  exact ⟨rfl, zMl_F f2 (by simp) (by simp) (by simp) (by simp) hL0, zMp_F f2 (by simp) (by simp) (by simp) hN0, zNr_F f2 (by simp) (by simp) hv, zMu_F f2 (by simp) (by simp) (by simp) hU, zMk_F f2 (by simp) (by simp) (by simp) hk, ⟨u1057.1, by omega⟩⟩
theorem zF0_p {p q : pm_H} {P G : Nat} (f : zFr [] [(170, 0)] p q) (h : zMp p P G) : zMp q P G := zMp_F f (by simp) (by simp) (by simp) h
theorem zm_heard {ph : pm_H} {R C P G u ch hn : Nat} {rk : Nat → Bool} {v : Nat → Nat} {w : Nat → Nat → Nat} {kp : Nat → Bool} {kc : Nat → Nat} {sv : Nat → Nat → Nat} (hS : zSh ph) (hK : zKM ph R C rk P G v u w ch kp kc sv hn) (hO0 : zOk R C P G v) {x y : Int32} : zM 283 [.ref 170, .int x, .int y] ph (fun v0 q => ((x.toInt < 0 ∨ (P : Int) ≤ x.toInt ∨ y.toInt < 0 ∨ 1 < y.toInt ∨ hn = 10) ∧ v0 = some (.int (Int32.ofInt (-1))) ∧ zKM q R C rk P G v u w ch kp kc sv hn) ∨ (0 ≤ x.toInt ∧ x.toInt < (P : Int) ∧ 0 ≤ y.toInt ∧ y.toInt ≤ 1 ∧ hn < 10 ∧ v0 = some (.int (zn (hn + 1))) ∧ zKM q R C rk P G v u w ch kp kc sv (hn + 1))) := by
  obtain ⟨Q, hQ⟩ : ∃ Q : Option Value → pm_H → Prop, Q = (fun v0 q => ((x.toInt < 0 ∨ (P : Int) ≤ x.toInt ∨ y.toInt < 0 ∨ 1 < y.toInt ∨ hn = 10) ∧ v0 = some (.int (Int32.ofInt (-1))) ∧ zKM q R C rk P G v u w ch kp kc sv hn) ∨ (0 ≤ x.toInt ∧ x.toInt < (P : Int) ∧ 0 ≤ y.toInt ∧ y.toInt ≤ 1 ∧ hn < 10 ∧ v0 = some (.int (zn (hn + 1))) ∧ zKM q R C rk P G v u w ch kp kc sv (hn + 1))) := ⟨_, rfl⟩
  rw [← hQ]
  refine zM_mk fun n D => ?_
  show zW n D 283 Q 0 [some (.ref 170), some (.int x), some (.int y)] [] ph
  have c_0 : ((Int8.ofInt 10).toInt32).toInt = 10 := by decide
  have c_1 : (Int32.ofInt (-1)).toInt = -1 := by decide
  have c_2 : (Int32.ofInt 0).toInt = 0 := by decide
  have c_3 : (Int32.ofInt 1).toInt = 1 := by decide
  obtain ⟨hL, hN, hv, hU, hk, hh⟩ := hK
  have hL0 := hL
  have hN0 := hN
  have hu15 := hU.2.1
  obtain ⟨gR, gC, gK, hR3, hR7, hC3, hC7⟩ := hL
  have hRC := zRC49 hR7 hC7
  have tR := znt (k := R) (by omega)
  have tC := znt (k := C) (by omega)
  obtain ⟨gP, hP8, gG, hG8⟩ := hN
  have tP := znt (k := P) (by omega)
  have tG := znt (k := G) (by omega)
  have tu := znt (k := u) (by omega)
  have hn10 := hh.2
  have thn := znt (k := hn) (by omega)
  refine w_load (pc' := 1) (v := .ref 170) (m := 1) (ykc_283 (e := (2, .aload_n kF0, 0)) rfl) rfl rfl ?_
  refine w_alu (pc' := 2) (st' := [.int (Int32.ofInt 0), .ref 170]) (ykc_283 (e := (0, .iconst 0, 0)) rfl) rfl rfl ?_
  refine w_pf (pc' := 5) (ykc_283 (e := (5, .putfield 3, 0)) rfl) rfl rfl (fun ph1060 u1059 => ?_)
  refine w_load (pc' := 6) (v := .ref 170) (m := 1) (ykc_283 (e := (2, .aload_n kF0, 0)) rfl) rfl rfl ?_
  refine w_load (pc' := 7) (v := .int x) (m := 1) (ykc_283 (e := (2, .iload_n kF1, 0)) rfl) rfl rfl ?_
  refine w_cv (as := [.ref 170, .int x]) (r := []) (ykc_283 (e := (6, .invokevirtual 315, 0)) rfl) rfl rfl rfl rfl (zm_isPerson (zF0_p (zFr_st u1059 (Or.inr (by simp))) hN0) (p := x)) (fun v1061 ph1062 hv => ?_)
  obtain ⟨rfl, rfl⟩ := hv
  show zW n D 283 Q 10 [some (.ref 170), some (.int x), some (.int y)] [.int (zI (decide (0 ≤ x.toInt ∧ x.toInt < ((P : Nat) : Int))))] ph1060
  refine w_beq (ykc_283 (e := (4, .ifCond .eq 22, 32)) rfl) rfl (fun b1063 => ?_) (fun b1063 => ?_)
  · refine w_alu (pc' := 33) (st' := [.int (Int32.ofInt (-1))]) (ykc_283 (e := (0, .iconst (-1), 0)) rfl) rfl rfl ?_
    refine w_ret (v := (some (.int (Int32.ofInt (-1))))) (ykc_283 (e := (7, .ireturn, 0)) rfl) (zr_v rfl) ?_
    have db1063 := of_decide_eq_false b1063
    have f2 : zFr [] [(170, 0)] ph _ := zFr_st u1059 (Or.inr (by simp))
    rw [hQ]
    exact Or.inl ⟨by omega, rfl, zMl_F f2 (by simp) (by simp) (by simp) (by simp) hL0, zMp_F f2 (by simp) (by simp) (by simp) hN0, zNr_F f2 (by simp) (by simp) hv, zMu_F f2 (by simp) (by simp) (by simp) hU, zMk_F f2 (by simp) (by simp) (by simp) hk, zMh_F f2 (by simp) (by simp) hh⟩
  · refine w_load (pc' := 14) (v := .int y) (m := 1) (ykc_283 (e := (2, .iload_n kF2, 0)) rfl) rfl rfl ?_
    refine w_alu (pc' := 15) (st' := [.long y.toInt64]) (ykc_283 (e := (0, .i2l, 0)) rfl) rfl rfl ?_
    refine w_alu (pc' := 16) (st' := [.long (Int64.ofNat kG0), .long y.toInt64]) (ykc_283 (e := (0, .lconst kG0, 0)) rfl) rfl rfl ?_
    refine w_alu (pc' := 17) (st' := [.long (Int64.ofNat kG1), .long (Int64.ofNat kG0), .long y.toInt64]) (ykc_283 (e := (0, .lconst kG1, 0)) rfl) rfl rfl ?_
    refine w_cs (as := [.long y.toInt64, .long (Int64.ofNat kG0), .long (Int64.ofNat kG1)]) (r := []) (ykc_283 (e := (6, .invokestatic 126, 0)) rfl) rfl rfl rfl rfl (zm_in (x := y.toInt) (y := (0 : Int)) (z := (1 : Int)) (by first | exact ztl | (rw [ztl]; omega) | decide | omega) (by first | exact ztl | (rw [ztl]; omega) | decide | omega) (by first | exact ztl | (rw [ztl]; omega) | decide | omega)) (fun v1064 ph1065 hv => ?_)
    obtain ⟨rfl, rfl⟩ := hv
    show zW n D 283 Q 20 [some (.ref 170), some (.int x), some (.int y)] [.int (zI (decide ((0 : Int) ≤ y.toInt ∧ y.toInt ≤ (1 : Int))))] ph1060
    refine w_beq (ykc_283 (e := (4, .ifCond .eq 12, 32)) rfl) rfl (fun b1066 => ?_) (fun b1066 => ?_)
    · refine w_alu (pc' := 33) (st' := [.int (Int32.ofInt (-1))]) (ykc_283 (e := (0, .iconst (-1), 0)) rfl) rfl rfl ?_
      refine w_ret (v := (some (.int (Int32.ofInt (-1))))) (ykc_283 (e := (7, .ireturn, 0)) rfl) (zr_v rfl) ?_
      have db1063 := of_decide_eq_true b1063
      have db1066 := of_decide_eq_false b1066
      have f2 : zFr [] [(170, 0)] ph _ := zFr_st u1059 (Or.inr (by simp))
      rw [hQ]
      exact Or.inl ⟨by omega, rfl, zMl_F f2 (by simp) (by simp) (by simp) (by simp) hL0, zMp_F f2 (by simp) (by simp) (by simp) hN0, zNr_F f2 (by simp) (by simp) hv, zMu_F f2 (by simp) (by simp) (by simp) hU, zMk_F f2 (by simp) (by simp) (by simp) hk, zMh_F f2 (by simp) (by simp) hh⟩
    · refine w_load (pc' := 24) (v := .ref 170) (m := 1) (ykc_283 (e := (2, .aload_n kF0, 0)) rfl) rfl rfl ?_
      refine w_gf (pc' := 27) (v := .int (zn hn)) (ykc_283 (e := (5, .getfield 194, 0)) rfl) rfl ((u1059.2.1 170 39 (fun q => absurd q.2 (by decide))).trans hh.1) rfl ?_
      refine w_push (pc' := 29) (v := .int ((Int8.ofInt 10).toInt32)) (m := 2) (ykc_283 (e := (1, .bipush 10, 0)) rfl) rfl rfl ?_
      refine w_ine (ykc_283 (e := (4, .if_icmp .ne 5, 34)) rfl) rfl (fun b1067 => ?_) (fun b1067 => ?_)
      · refine w_load (pc' := 35) (v := .ref 170) (m := 1) (ykc_283 (e := (2, .aload_n kF0, 0)) rfl) rfl rfl ?_
        refine w_gf (pc' := 38) (v := .ref 193) (ykc_283 (e := (5, .getfield 98, 0)) rfl) rfl ((u1059.2.1 170 40 (fun q => absurd q.2 (by decide))).trans (zsg hS zs_170_40)) rfl ?_
        refine w_load (pc' := 39) (v := .ref 170) (m := 1) (ykc_283 (e := (2, .aload_n kF0, 0)) rfl) rfl rfl ?_
        refine w_gf (pc' := 42) (v := .int (zn hn)) (ykc_283 (e := (5, .getfield 194, 0)) rfl) rfl ((u1059.2.1 170 39 (fun q => absurd q.2 (by decide))).trans hh.1) rfl ?_
        refine w_load (pc' := 43) (v := .int x) (m := 1) (ykc_283 (e := (2, .iload_n kF1, 0)) rfl) rfl rfl ?_
        refine w_ias (pc' := 44) (k := hn) (ykc_283 (e := (5, .iastore, 0)) rfl) (by omega) rfl (fun ph1069 u1068 => ?_)
        refine w_load (pc' := 45) (v := .ref 170) (m := 1) (ykc_283 (e := (2, .aload_n kF0, 0)) rfl) rfl rfl ?_
        refine w_gf (pc' := 48) (v := .ref 194) (ykc_283 (e := (5, .getfield 101, 0)) rfl) rfl ((u1068.2.1 170 41 (fun q => absurd q.1 (by decide))).trans ((u1059.2.1 170 41 (fun q => absurd q.2 (by decide))).trans (zsg hS zs_170_41))) rfl ?_
        refine w_load (pc' := 49) (v := .ref 170) (m := 1) (ykc_283 (e := (2, .aload_n kF0, 0)) rfl) rfl rfl ?_
        refine w_gf (pc' := 52) (v := .int (zn hn)) (ykc_283 (e := (5, .getfield 194, 0)) rfl) rfl ((u1068.2.1 170 39 (fun q => absurd q.1 (by decide))).trans ((u1059.2.1 170 39 (fun q => absurd q.2 (by decide))).trans hh.1)) rfl ?_
        refine w_load (pc' := 53) (v := .int y) (m := 1) (ykc_283 (e := (2, .iload_n kF2, 0)) rfl) rfl rfl ?_
        refine w_ias (pc' := 54) (k := hn) (ykc_283 (e := (5, .iastore, 0)) rfl) (by omega) rfl (fun ph1071 u1070 => ?_)
        refine w_load (pc' := 55) (v := .ref 170) (m := 1) (ykc_283 (e := (2, .aload_n kF0, 0)) rfl) rfl rfl ?_
        refine w_alu (pc' := 56) (st' := [.ref 170, .ref 170]) (ykc_283 (e := (0, .dup, 0)) rfl) rfl rfl ?_
        refine w_gf (pc' := 59) (v := .int (zn hn)) (ykc_283 (e := (5, .getfield 194, 0)) rfl) rfl ((u1070.2.1 170 39 (fun q => absurd q.1 (by decide))).trans ((u1068.2.1 170 39 (fun q => absurd q.1 (by decide))).trans ((u1059.2.1 170 39 (fun q => absurd q.2 (by decide))).trans hh.1))) rfl ?_
        refine w_alu (pc' := 60) (st' := [.int (Int32.ofInt 1), .int (zn hn), .ref 170]) (ykc_283 (e := (0, .iconst 1, 0)) rfl) rfl rfl ?_
        have e1072 : (zn hn) + (Int32.ofInt 1) = zn (hn + 1) := (zaddN (a := hn) (b := 1) (znt (by omega)) c_3 (by omega)) 
        have te1072 := znt (k := hn + 1) (by omega)
        refine w_alu (pc' := 61) (st' := [.int (zn (hn + 1)), .ref 170]) (ykc_283 (e := (0, .iadd, 0)) rfl) (by rw [← e1072]; rfl) rfl ?_
        refine w_pf (pc' := 64) (ykc_283 (e := (5, .putfield 194, 0)) rfl) rfl rfl (fun ph1074 u1073 => ?_)
        refine w_load (pc' := 65) (v := .ref 170) (m := 1) (ykc_283 (e := (2, .aload_n kF0, 0)) rfl) rfl rfl ?_
        refine w_gf (pc' := 68) (v := .int (zn (hn + 1))) (ykc_283 (e := (5, .getfield 194, 0)) rfl) rfl u1073.1 rfl ?_
        refine w_ret (v := (some (.int (zn (hn + 1))))) (ykc_283 (e := (7, .ireturn, 0)) rfl) (zr_v rfl) ?_
        have db1063 := of_decide_eq_true b1063
        have db1066 := of_decide_eq_true b1066
        have f2 : zFr [193, 194] [(170, 0), (170, 39)] ph _ := zFr_trans (zFr_trans (zFr_trans (zFr_st u1059 (Or.inr (by simp))) (zFr_st u1068 (Or.inl (by simp)))) (zFr_st u1070 (Or.inl (by simp)))) (zFr_st u1073 (Or.inr (by simp)))
        rw [hQ]
        exact Or.inr ⟨by omega, by omega, by omega, by omega, by omega, rfl, zMl_F f2 (by simp) (by simp) (by simp) (by simp) hL0, zMp_F f2 (by simp) (by simp) (by simp) hN0, zNr_F f2 (by simp) (by simp) hv, zMu_F f2 (by simp) (by simp) (by simp) hU, zMk_F f2 (by simp) (by simp) (by simp) hk, ⟨u1073.1, by omega⟩⟩
      · refine w_alu (pc' := 33) (st' := [.int (Int32.ofInt (-1))]) (ykc_283 (e := (0, .iconst (-1), 0)) rfl) rfl rfl ?_
        refine w_ret (v := (some (.int (Int32.ofInt (-1))))) (ykc_283 (e := (7, .ireturn, 0)) rfl) (zr_v rfl) ?_
        have db1063 := of_decide_eq_true b1063
        have db1066 := of_decide_eq_true b1066
        have f2 : zFr [] [(170, 0)] ph _ := zFr_st u1059 (Or.inr (by simp))
        rw [hQ]
        exact Or.inl ⟨by omega, rfl, zMl_F f2 (by simp) (by simp) (by simp) (by simp) hL0, zMp_F f2 (by simp) (by simp) (by simp) hN0, zNr_F f2 (by simp) (by simp) hv, zMu_F f2 (by simp) (by simp) (by simp) hU, zMk_F f2 (by simp) (by simp) (by simp) hk, zMh_F f2 (by simp) (by simp) hh⟩
end
section
/-! the class: undo, keep, again, forget, by W; printed by wip/z/z_v_ccall2.py -/
theorem zKC_25 {p q1 q : pm_H} {R C P G nx u fl hn nx2 u2 fl2 : Nat} {rk : Nat → Bool} {v v2 : Nat → Nat} {w sv sv2 : Nat → Nat → Nat} (h : zKC p R C rk P G v nx u w fl sv hn) (f : zCo 25 p q1) (g : zFr [] [(43, 1), (43, 2), (43, 4)] q1 q) (hd : zSd q 25 P G v2) (hU : zCu q P G nx2 u2 w) (hk : zCk q P G fl2 sv2) : zKC q R C rk P G v2 nx2 u2 w fl2 sv2 hn := ⟨zCl_F g (by simp) (by intro i hi; simp) (by simp) (zCl_F f (by simp) (by intro i hi; simp) (by simp) h.1), hd, hU, hk, (g.1 _ _ (by simp) (by simp)).trans ((f.1 _ _ (by simp) (by simp)).trans h.2.2.2.2.1), h.2.2.2.2.2⟩
theorem zc_hsize {ph : pm_H} {u : Nat} (hu : zc ph 43 2 = some (.int (zn u))) : zM 27 [.ref 43] ph (fun v0 q => ph = q ∧ v0 = some (.int (zn u))) := by
  obtain ⟨Q, hQ⟩ : ∃ Q : Option Value → pm_H → Prop, Q = (fun v0 q => ph = q ∧ v0 = some (.int (zn u))) := ⟨_, rfl⟩
  rw [← hQ]
  refine zM_mk fun n D => ?_
  show zW n D 27 Q 0 [some (.ref 43)] [] ph
  refine w_load (pc' := 1) (v := .ref 43) (m := 1) (ykc_27 (e := (2, .aload_n kF0, 0)) rfl) rfl rfl ?_
  refine w_gf (pc' := 4) (v := .int (zn u)) (ykc_27 (e := (5, .getfield 26, 0)) rfl) rfl hu rfl ?_
  refine w_ret (v := (some (.int (zn u)))) (ykc_27 (e := (7, .ireturn, 0)) rfl) (zr_v rfl) ?_
  rw [hQ]
  exact ⟨rfl, rfl⟩
theorem zc_undo {ph : pm_H} {R C P G nx u fl hn : Nat} {rk : Nat → Bool} {v : Nat → Nat} {w : Nat → Nat → Nat} {sv : Nat → Nat → Nat} (hS : zSh ph) (hK : zKC ph R C rk P G v nx u w fl sv hn) (hO0 : zOk R C P G v) : zM 139 [.ref 0] ph (fun v0 q => (u = 0 ∧ v0 = some (.int (Int32.ofInt (-1))) ∧ zKC q R C rk P G v nx u w fl sv hn) ∨ (0 < u ∧ v0 = some (.int (zn (u - 1))) ∧ ∃ nx1, zKC q R C rk P G (w (u - 1)) nx1 (u - 1) w fl sv hn)) := by
  obtain ⟨Q, hQ⟩ : ∃ Q : Option Value → pm_H → Prop, Q = (fun v0 q => (u = 0 ∧ v0 = some (.int (Int32.ofInt (-1))) ∧ zKC q R C rk P G v nx u w fl sv hn) ∨ (0 < u ∧ v0 = some (.int (zn (u - 1))) ∧ ∃ nx1, zKC q R C rk P G (w (u - 1)) nx1 (u - 1) w fl sv hn)) := ⟨_, rfl⟩
  rw [← hQ]
  refine zM_mk fun n D => ?_
  show zW n D 139 Q 0 [some (.ref 0)] [] ph
  have c_0 : (Int32.ofInt (-1)).toInt = -1 := by decide
  have hU := hK.2.2.1
  have hP8 : P ≤ 8 := hK.2.1.2.1
  refine w_load (pc' := 1) (v := .ref 0) (m := 1) (ykc_139 (e := (2, .aload_n kF0, 0)) rfl) rfl rfl ?_
  refine w_gf (pc' := 4) (v := .ref 43) (ykc_139 (e := (5, .getfield 55, 0)) rfl) rfl (zsg hS zs_0_7) rfl ?_
  refine w_load (pc' := 5) (v := .ref 0) (m := 1) (ykc_139 (e := (2, .aload_n kF0, 0)) rfl) rfl rfl ?_
  refine w_gf (pc' := 8) (v := .ref 25) (ykc_139 (e := (5, .getfield 42, 0)) rfl) rfl (zsg hS zs_0_4) rfl ?_
  refine w_cv (as := [.ref 43, .ref 25]) (r := []) (ykc_139 (e := (6, .invokevirtual 284, 0)) rfl) rfl rfl rfl rfl (zc_pop hS hU.1 hU.2.2.1 hU.2.1 hU.2.2.2.1 (w := w (u - 1)) (fun h0 => by have h := hU.2.2.2.2 (u - 1) (by omega); rwa [show (nx + 15 - u + (u - 1)) % 15 = (nx + 14) % 15 by have := hU.2.1; have := hU.2.2.2.1; omega] at h)) (fun v1075 ph1076 hv => ?_)
  rcases hv with ⟨hu0, rfl, rfl⟩ | ⟨hu0, rfl, ⟨q1, q2, pf, pu1, pu2⟩, pd⟩
  · show zW n D 139 Q 11 [some (.ref 0)] [.int (zI false)] ph
    refine w_beq (ykc_139 (e := (4, .ifCond .eq 13, 24)) rfl) rfl (fun b1077 => ?_) (fun q => absurd q (by decide))
    refine w_alu (pc' := 25) (st' := [.int (Int32.ofInt (-1))]) (ykc_139 (e := (0, .iconst (-1), 0)) rfl) rfl rfl ?_
    refine w_ret (v := (some (.int (Int32.ofInt (-1))))) (ykc_139 (e := (7, .ireturn, 0)) rfl) (zr_v rfl) ?_
    rw [hQ]
    exact Or.inl ⟨hu0, rfl, hK⟩
  · have fr9 : zFr [26, 27, 28, 29, 30] [(25, 0), (25, 1), (25, 2), (43, 1), (43, 2)] _ ph1076 := zFr_trans (zFr_mono pf (by simp) (by simp)) (zFr_trans (zFr_st pu1 (Or.inr (by simp))) (zFr_st pu2 (Or.inr (by simp))))
    show zW n D 139 Q 11 [some (.ref 0)] [.int (zI true)] ph1076
    refine w_beq (ykc_139 (e := (4, .ifCond .eq 13, 24)) rfl) rfl (fun q => absurd q (by decide)) (fun b1078 => ?_)
    refine w_load (pc' := 15) (v := .ref 0) (m := 1) (ykc_139 (e := (2, .aload_n kF0, 0)) rfl) rfl rfl ?_
    refine w_gf (pc' := 18) (v := .ref 43) (ykc_139 (e := (5, .getfield 55, 0)) rfl) rfl ((fr9.1 0 7 (by decide) (by decide)).trans (zsg hS zs_0_7)) rfl ?_
    refine w_cv (as := [.ref 43]) (r := []) (ykc_139 (e := (6, .invokevirtual 288, 0)) rfl) rfl rfl rfl rfl (zc_hsize pu2.1) (fun v1079 ph1080 hv => ?_)
    obtain ⟨rfl, rfl⟩ := hv
    show zW n D 139 Q 21 [some (.ref 0)] [.int (zn (u - 1))] ph1076
    refine w_br (pc' := 25) (st' := [.int (zn (u - 1))]) (ykc_139 (e := (4, .goto 4, 25)) rfl) rfl ?_
    refine w_ret (v := (some (.int (zn (u - 1))))) (ykc_139 (e := (7, .ireturn, 0)) rfl) (zr_v rfl) ?_
    rw [hQ]
    exact Or.inr ⟨hu0, rfl, _, zKC_25 hK pf (zFr_trans (zFr_st pu1 (Or.inr (by simp))) (zFr_st pu2 (Or.inr (by simp)))) pd (zCu_pop hU hu0 pf pu1 pu2) (zCk_F (zFr_trans (zFr_st pu1 (Or.inr (by simp))) (zFr_st pu2 (Or.inr (by simp))) : zFr [] [(43, 1), (43, 2)] _ _) (by simp) (by simp) (by intro j h1 h2; simp) (by intro j i h1 h2; simp <;> omega) (zCk_F pf (by simp) (by simp) (by intro j h1 h2; simp <;> omega) (by intro j i h1 h2; simp <;> omega) hK.2.2.2.1))⟩
theorem ztb : ∀ b, b < 8 → ∀ i, i < 3 → ∀ j, j < 3 → (b ||| 2 ^ i).testBit j = (decide (j = i) || b.testBit j) := by decide +kernel
theorem zc_keep {ph : pm_H} {R C P G nx u fl hn : Nat} {rk : Nat → Bool} {v : Nat → Nat} {w : Nat → Nat → Nat} {sv : Nat → Nat → Nat} (hS : zSh ph) (hK : zKC ph R C rk P G v nx u w fl sv hn) (hO0 : zOk R C P G v) {x : Int32} : zM 177 [.ref 0, .int x] ph (fun v0 q => ((x.toInt < 0 ∨ 3 ≤ x.toInt) ∧ v0 = some (.int (zI false)) ∧ zKC q R C rk P G v nx u w fl sv hn) ∨ (∃ i, x.toInt = (i : Nat) ∧ i < 3 ∧ v0 = some (.int (zI true)) ∧ zKC q R C rk P G v nx u w (fl ||| 2 ^ i) (fun j => if j = i then v else sv j) hn)) := by
  obtain ⟨Q, hQ⟩ : ∃ Q : Option Value → pm_H → Prop, Q = (fun v0 q => ((x.toInt < 0 ∨ 3 ≤ x.toInt) ∧ v0 = some (.int (zI false)) ∧ zKC q R C rk P G v nx u w fl sv hn) ∨ (∃ i, x.toInt = (i : Nat) ∧ i < 3 ∧ v0 = some (.int (zI true)) ∧ zKC q R C rk P G v nx u w (fl ||| 2 ^ i) (fun j => if j = i then v else sv j) hn)) := ⟨_, rfl⟩
  rw [← hQ]
  refine zM_mk fun n D => ?_
  show zW n D 177 Q 0 [some (.ref 0), some (.int x)] [] ph
  have hU := hK.2.2.1
  have hk := hK.2.2.2.1
  have hP8 : P ≤ 8 := hK.2.1.2.1
  refine w_load (pc' := 1) (v := .ref 0) (m := 1) (ykc_177 (e := (2, .aload_n kF0, 0)) rfl) rfl rfl ?_
  refine w_gf (pc' := 4) (v := .ref 43) (ykc_177 (e := (5, .getfield 55, 0)) rfl) rfl (zsg hS zs_0_7) rfl ?_
  refine w_load (pc' := 5) (v := .int x) (m := 1) (ykc_177 (e := (2, .iload_n kF1, 0)) rfl) rfl rfl ?_
  refine w_load (pc' := 6) (v := .ref 0) (m := 1) (ykc_177 (e := (2, .aload_n kF0, 0)) rfl) rfl rfl ?_
  refine w_gf (pc' := 9) (v := .ref 25) (ykc_177 (e := (5, .getfield 42, 0)) rfl) rfl (zsg hS zs_0_4) rfl ?_
  refine w_cv (as := [.ref 43, .int x, .ref 25]) (r := []) (ykc_177 (e := (6, .invokevirtual 407, 0)) rfl) rfl rfl rfl rfl (zc_hold hS hK.2.1 hk.1 hk.2.1 (x := x)) (fun v1081 ph1082 hv => ?_)
  rcases hv with ⟨hb, rfl, rfl⟩ | ⟨i, hi, hi3, rfl, ⟨q1, pf, pu⟩, pd⟩
  · show zW n D 177 Q 12 [some (.ref 0), some (.int x)] [.int (zI false)] ph
    refine w_ret (v := (some (.int (zI false)))) (ykc_177 (e := (7, .ireturn, 0)) rfl) zr_z ?_
    rw [hQ]
    exact Or.inl ⟨hb, rfl, hK⟩
  · have fr9 : zFr [] [] ph1082 ph1082 := zFr_refl
    show zW n D 177 Q 12 [some (.ref 0), some (.int x)] [.int (zI true)] ph1082
    refine w_ret (v := (some (.int (zI true)))) (ykc_177 (e := (7, .ireturn, 0)) rfl) zr_z ?_
    rw [hQ]
    have g : zFr [] [(43, 4)] q1 _ := zFr_st pu (Or.inr (by simp))
    refine Or.inr ⟨i, hi, hi3, rfl, zCl_F g (by simp) (by intro i hi; simp) (by simp) (zCl_F pf (by simp <;> omega) (by intro i hi; simp <;> omega) (by intro i; simp <;> omega) hK.1), zSd_F g (by intro j hj; simp) (by intro j k hj; simp <;> omega) (zCo_d (by omega) pf hK.2.1), zCu_F g (by simp) (by simp) (by intro j h1 h2; simp) (by intro j i h1 h2; simp <;> omega) (zCu_F pf (by simp <;> omega) (by simp <;> omega) (by intro j h1 h2; simp <;> omega) (by intro j i h1 h2; simp <;> omega) hU), ⟨pu.1, (zset8 fl hk.2.1 i hi3).2, fun j hj hb => ?_⟩, (g.1 _ _ (by simp) (by simp)).trans ((pf.1 _ _ (by simp <;> omega) (by simp <;> omega)).trans hK.2.2.2.2.1), hK.2.2.2.2.2⟩
    by_cases e : j = i
    · show zSd _ (136 + 6 * j) P G (if j = i then v else sv j)
      rw [if_pos e, e]
      exact pd
    · show zSd _ (136 + 6 * j) P G (if j = i then v else sv j)
      rw [if_neg e]
      rw [ztb fl hk.2.1 i hi3 j hj, decide_eq_false e, Bool.false_or] at hb
      exact zSd_F g (by intro j hj; simp) (by intro j k hj; simp <;> omega) (zCo_d (by omega) pf (hk.2.2 j hj hb))
theorem zc_again {ph : pm_H} {R C P G nx u fl hn : Nat} {rk : Nat → Bool} {v : Nat → Nat} {w : Nat → Nat → Nat} {sv : Nat → Nat → Nat} (hS : zSh ph) (hK : zKC ph R C rk P G v nx u w fl sv hn) (hO0 : zOk R C P G v) {x : Int32} : zM 178 [.ref 0, .int x] ph (fun v0 q => ((x.toInt < 0 ∨ 3 ≤ x.toInt ∨ fl.testBit x.toInt.toNat = false) ∧ v0 = some (.int (zI false)) ∧ zKC q R C rk P G v nx u w fl sv hn) ∨ (∃ i, x.toInt = (i : Nat) ∧ i < 3 ∧ fl.testBit i = true ∧ v0 = some (.int (zI true)) ∧ zKC q R C rk P G (sv i) nx 0 w fl sv hn)) := by
  obtain ⟨Q, hQ⟩ : ∃ Q : Option Value → pm_H → Prop, Q = (fun v0 q => ((x.toInt < 0 ∨ 3 ≤ x.toInt ∨ fl.testBit x.toInt.toNat = false) ∧ v0 = some (.int (zI false)) ∧ zKC q R C rk P G v nx u w fl sv hn) ∨ (∃ i, x.toInt = (i : Nat) ∧ i < 3 ∧ fl.testBit i = true ∧ v0 = some (.int (zI true)) ∧ zKC q R C rk P G (sv i) nx 0 w fl sv hn)) := ⟨_, rfl⟩
  rw [← hQ]
  refine zM_mk fun n D => ?_
  show zW n D 178 Q 0 [some (.ref 0), some (.int x)] [] ph
  have hU := hK.2.2.1
  have hk := hK.2.2.2.1
  have hP8 : P ≤ 8 := hK.2.1.2.1
  refine w_load (pc' := 1) (v := .ref 0) (m := 1) (ykc_178 (e := (2, .aload_n kF0, 0)) rfl) rfl rfl ?_
  refine w_gf (pc' := 4) (v := .ref 43) (ykc_178 (e := (5, .getfield 55, 0)) rfl) rfl (zsg hS zs_0_7) rfl ?_
  refine w_load (pc' := 5) (v := .int x) (m := 1) (ykc_178 (e := (2, .iload_n kF1, 0)) rfl) rfl rfl ?_
  refine w_load (pc' := 6) (v := .ref 0) (m := 1) (ykc_178 (e := (2, .aload_n kF0, 0)) rfl) rfl rfl ?_
  refine w_gf (pc' := 9) (v := .ref 25) (ykc_178 (e := (5, .getfield 42, 0)) rfl) rfl (zsg hS zs_0_4) rfl ?_
  refine w_cv (as := [.ref 43, .int x, .ref 25]) (r := []) (ykc_178 (e := (6, .invokevirtual 411, 0)) rfl) rfl rfl rfl rfl (zc_bring hS hk.2.2 hk.1 hk.2.1 (x := x)) (fun v1083 ph1084 hv => ?_)
  rcases hv with ⟨hb, rfl, rfl⟩ | ⟨i, hi, hi3, hbt, rfl, ⟨q1, pf, pu⟩, pd⟩
  · show zW n D 178 Q 12 [some (.ref 0), some (.int x)] [.int (zI false)] ph
    refine w_ret (v := (some (.int (zI false)))) (ykc_178 (e := (7, .ireturn, 0)) rfl) zr_z ?_
    rw [hQ]
    exact Or.inl ⟨hb, rfl, hK⟩
  · have fr9 : zFr [] [] ph1084 ph1084 := zFr_refl
    show zW n D 178 Q 12 [some (.ref 0), some (.int x)] [.int (zI true)] ph1084
    refine w_ret (v := (some (.int (zI true)))) (ykc_178 (e := (7, .ireturn, 0)) rfl) zr_z ?_
    rw [hQ]
    have g : zFr [] [(43, 2)] q1 _ := zFr_st pu (Or.inr (by simp))
    exact Or.inr ⟨i, hi, hi3, hbt, rfl, zKC_25 hK pf (zFr_mono g (by simp) (by simp)) pd ⟨(g.1 _ _ (by simp) (by simp)).trans ((pf.1 _ _ (by simp) (by simp)).trans hU.1), hU.2.1, pu.1, by omega, fun j hj => absurd hj (Nat.not_lt_zero j)⟩ (zCk_F g (by simp) (by simp) (by intro j h1 h2; simp) (by intro j i h1 h2; simp <;> omega) (zCk_F pf (by simp) (by simp) (by intro j h1 h2; simp <;> omega) (by intro j i h1 h2; simp <;> omega) hk))⟩
theorem zc_forgetH {ph : pm_H} : zM 170 [.ref 0] ph (fun v0 q => v0 = none ∧ zFr [] [(0, 13), (0, 14)] ph q ∧ zc q 0 14 = some (.int (zn 0))) := by
  obtain ⟨Q, hQ⟩ : ∃ Q : Option Value → pm_H → Prop, Q = (fun v0 q => v0 = none ∧ zFr [] [(0, 13), (0, 14)] ph q ∧ zc q 0 14 = some (.int (zn 0))) := ⟨_, rfl⟩
  rw [← hQ]
  refine zM_mk fun n D => ?_
  show zW n D 170 Q 0 [some (.ref 0)] [] ph
  have c_0 : (Int32.ofInt 0).toInt = 0 := by decide
  refine w_load (pc' := 1) (v := .ref 0) (m := 1) (ykc_170 (e := (2, .aload_n kF0, 0)) rfl) rfl rfl ?_
  refine w_push (pc' := 4) (v := .long (-1 : Int64)) (m := 3) (ykc_170 (e := (1, .ldc2_w 94, 0)) rfl) rfl rfl ?_
  refine w_pf (pc' := 7) (ykc_170 (e := (5, .putfield 96, 0)) rfl) rfl rfl (fun ph1086 u1085 => ?_)
  refine w_load (pc' := 8) (v := .ref 0) (m := 1) (ykc_170 (e := (2, .aload_n kF0, 0)) rfl) rfl rfl ?_
  refine w_alu (pc' := 9) (st' := [.int (Int32.ofInt 0), .ref 0]) (ykc_170 (e := (0, .iconst 0, 0)) rfl) rfl rfl ?_
  refine w_pf (pc' := 12) (ykc_170 (e := (5, .putfield 100, 0)) rfl) rfl rfl (fun ph1088 u1087 => ?_)
  refine w_ret (v := none) (ykc_170 (e := (7, .return_, 0)) rfl) (zr_v rfl) ?_
  rw [hQ]
  exact ⟨rfl, zFr_trans (zFr_st u1085 (Or.inr (by simp))) (zFr_st u1087 (Or.inr (by simp))), u1087.1⟩
theorem zc_forget {ph : pm_H} {R C P G nx u fl hn : Nat} {rk : Nat → Bool} {v : Nat → Nat} {w : Nat → Nat → Nat} {sv : Nat → Nat → Nat} (hS : zSh ph) (hK : zKC ph R C rk P G v nx u w fl sv hn) (hO0 : zOk R C P G v) : zM 167 [.ref 0] ph (fun v0 q => v0 = some (.int (zn hn)) ∧ zKC q R C rk P G v nx u w fl sv 0) := by
  obtain ⟨Q, hQ⟩ : ∃ Q : Option Value → pm_H → Prop, Q = (fun v0 q => v0 = some (.int (zn hn)) ∧ zKC q R C rk P G v nx u w fl sv 0) := ⟨_, rfl⟩
  rw [← hQ]
  refine zM_mk fun n D => ?_
  show zW n D 167 Q 0 [some (.ref 0), none] [] ph
  obtain ⟨hL, hd, hU, hk, hh⟩ := hK
  have thn := znt (k := hn) (by have := hh.2; omega)
  refine w_load (pc' := 1) (v := .ref 0) (m := 1) (ykc_167 (e := (2, .aload_n kF0, 0)) rfl) rfl rfl ?_
  refine w_gf (pc' := 4) (v := .int (zn hn)) (ykc_167 (e := (5, .getfield 100, 0)) rfl) rfl hh.1 rfl ?_
  refine w_store (pc' := 5) (L' := [some (.ref 0), some (.int (zn hn))]) (st' := []) (m := 1) (ykc_167 (e := (3, .istore_n kF1, 0)) rfl) rfl rfl ?_
  refine w_load (pc' := 6) (v := .ref 0) (m := 1) (ykc_167 (e := (2, .aload_n kF0, 0)) rfl) rfl rfl ?_
  refine w_cv (as := [.ref 0]) (r := []) (ykc_167 (e := (6, .invokevirtual 124, 0)) rfl) rfl rfl rfl rfl (zc_forgetH) (fun v1089 ph1090 hv => ?_)
  obtain ⟨rfl, ff, f14⟩ := hv
  show zW n D 167 Q 9 [some (.ref 0), some (.int (zn hn))] [] ph1090
  refine w_load (pc' := 10) (v := .int (zn hn)) (m := 1) (ykc_167 (e := (2, .iload_n kF1, 0)) rfl) rfl rfl ?_
  refine w_ret (v := (some (.int (zn hn)))) (ykc_167 (e := (7, .ireturn, 0)) rfl) (zr_v rfl) ?_
  rw [hQ]
  exact ⟨rfl, zCl_F ff (by simp) (by intro i hi; simp) (by simp) hL, zSd_F ff (by intro j hj; simp) (by intro j k hj; simp <;> omega) hd, zCu_F ff (by simp) (by simp) (by intro j h1 h2; simp) (by intro j i h1 h2; simp <;> omega) hU, zCk_F ff (by simp) (by simp) (by intro j h1 h2; simp) (by intro j i h1 h2; simp <;> omega) hk, f14, by omega⟩
end
section
/-! the reference: keep, again, by W; printed by wip/z/z_w_mkeep.py -/
theorem zm_keep {ph : pm_H} {R C P G u ch hn : Nat} {rk : Nat → Bool} {v : Nat → Nat} {w : Nat → Nat → Nat} {kp : Nat → Bool} {kc : Nat → Nat} {sv : Nat → Nat → Nat} (hS : zSh ph) (hK : zKM ph R C rk P G v u w ch kp kc sv hn) (hO0 : zOk R C P G v) {x : Int32} : zM 296 [.ref 170, .int x] ph (fun v0 q => ((x.toInt < 0 ∨ 3 ≤ x.toInt) ∧ v0 = some (.int (zI false)) ∧ zKM q R C rk P G v u w ch kp kc sv hn) ∨ (∃ i, x.toInt = (i : Nat) ∧ i < 3 ∧ v0 = some (.int (zI true)) ∧ zKM q R C rk P G v u w ch (fun j => if j = i then true else kp j) (fun j => if j = i then ch else kc j) (fun j => if j = i then v else sv j) hn)) := by
  obtain ⟨Q, hQ⟩ : ∃ Q : Option Value → pm_H → Prop, Q = (fun v0 q => ((x.toInt < 0 ∨ 3 ≤ x.toInt) ∧ v0 = some (.int (zI false)) ∧ zKM q R C rk P G v u w ch kp kc sv hn) ∨ (∃ i, x.toInt = (i : Nat) ∧ i < 3 ∧ v0 = some (.int (zI true)) ∧ zKM q R C rk P G v u w ch (fun j => if j = i then true else kp j) (fun j => if j = i then ch else kc j) (fun j => if j = i then v else sv j) hn)) := ⟨_, rfl⟩
  rw [← hQ]
  refine zM_mk fun n D => ?_
  show zW n D 296 Q 0 [some (.ref 170), some (.int x), none] [] ph
  have c_0 : ((Int8.ofInt 41).toInt32).toInt = 41 := by decide
  have c_1 : (Int32.ofInt 0).toInt = 0 := by decide
  have c_2 : (Int32.ofInt 1).toInt = 1 := by decide
  obtain ⟨hL, hN, hv, hU, hk, hh⟩ := hK
  have hL0 := hL
  have hN0 := hN
  have hu15 := hU.2.1
  obtain ⟨gR, gC, gK, hR3, hR7, hC3, hC7⟩ := hL
  have hRC := zRC49 hR7 hC7
  have tR := znt (k := R) (by omega)
  have tC := znt (k := C) (by omega)
  obtain ⟨gP, hP8, gG, hG8⟩ := hN
  have tP := znt (k := P) (by omega)
  have tG := znt (k := G) (by omega)
  have tu := znt (k := u) (by omega)
  have hn10 := hh.2
  have thn := znt (k := hn) (by omega)
  have hch := hk.2.1
  have tch := znt (k := ch) (by omega)
  refine w_load (pc' := 1) (v := .ref 170) (m := 1) (ykc_296 (e := (2, .aload_n kF0, 0)) rfl) rfl rfl ?_
  refine w_alu (pc' := 2) (st' := [.int (Int32.ofInt 0), .ref 170]) (ykc_296 (e := (0, .iconst 0, 0)) rfl) rfl rfl ?_
  refine w_pf (pc' := 5) (ykc_296 (e := (5, .putfield 3, 0)) rfl) rfl rfl (fun ph1092 u1091 => ?_)
  refine w_load (pc' := 6) (v := .int x) (m := 1) (ykc_296 (e := (2, .iload_n kF1, 0)) rfl) rfl rfl ?_
  refine w_alu (pc' := 7) (st' := [.long x.toInt64]) (ykc_296 (e := (0, .i2l, 0)) rfl) rfl rfl ?_
  refine w_alu (pc' := 8) (st' := [.long (Int64.ofNat kG0), .long x.toInt64]) (ykc_296 (e := (0, .lconst kG0, 0)) rfl) rfl rfl ?_
  refine w_push (pc' := 11) (v := .long (2 : Int64)) (m := 3) (ykc_296 (e := (1, .ldc2_w 330, 0)) rfl) rfl rfl ?_
  refine w_cs (as := [.long x.toInt64, .long (Int64.ofNat kG0), .long (2 : Int64)]) (r := []) (ykc_296 (e := (6, .invokestatic 126, 0)) rfl) rfl rfl rfl rfl (zm_in (x := x.toInt) (y := (0 : Int)) (z := (2 : Int)) (by first | exact ztl | (rw [ztl]; omega) | decide | omega) (by first | exact ztl | (rw [ztl]; omega) | decide | omega) (by first | exact ztl | (rw [ztl]; omega) | decide | omega)) (fun v1093 ph1094 hv => ?_)
  obtain ⟨rfl, rfl⟩ := hv
  show zW n D 296 Q 14 [some (.ref 170), some (.int x), none] [.int (zI (decide ((0 : Int) ≤ x.toInt ∧ x.toInt ≤ (2 : Int))))] ph1092
  refine w_bne (ykc_296 (e := (4, .ifCond .ne 5, 19)) rfl) rfl (fun b1095 => ?_) (fun b1095 => ?_)
  · have d9 := of_decide_eq_true b1095
    obtain ⟨i, hi⟩ : ∃ i : Nat, x.toInt = (i : Int) := ⟨x.toInt.toNat, by omega⟩
    obtain rfl := zn_of hi
    have hi3 : i < 3 := by omega
    have ti := znt (k := i) (by omega)
    show zW n D 296 Q 19 [some (.ref 170), some (.int (zn i)), none] [] ph1092
    refine w_load (pc' := 20) (v := .ref 170) (m := 1) (ykc_296 (e := (2, .aload_n kF0, 0)) rfl) rfl rfl ?_
    refine w_gf (pc' := 23) (v := .ref 198) (ykc_296 (e := (5, .getfield 113, 0)) rfl) rfl ((u1091.2.1 170 46 (fun q => absurd q.2 (by decide))).trans (zsg hS zs_170_46)) rfl ?_
    refine w_load (pc' := 24) (v := .int (zn i)) (m := 1) (ykc_296 (e := (2, .iload_n kF1, 0)) rfl) rfl rfl ?_
    refine w_alu (pc' := 25) (st' := [.int (Int32.ofInt 1), .int (zn i), .ref 198]) (ykc_296 (e := (0, .iconst 1, 0)) rfl) rfl rfl ?_
    refine w_bas (pc' := 26) (k := i) (ykc_296 (e := (5, .bastore, 0)) rfl) (by omega) rfl (fun ph1097 u1096 => ?_)
    refine w_load (pc' := 27) (v := .ref 170) (m := 1) (ykc_296 (e := (2, .aload_n kF0, 0)) rfl) rfl rfl ?_
    refine w_gf (pc' := 30) (v := .ref 199) (ykc_296 (e := (5, .getfield 116, 0)) rfl) rfl ((u1096.2.1 170 47 (fun q => absurd q.1 (by decide))).trans ((u1091.2.1 170 47 (fun q => absurd q.2 (by decide))).trans (zsg hS zs_170_47))) rfl ?_
    refine w_load (pc' := 31) (v := .int (zn i)) (m := 1) (ykc_296 (e := (2, .iload_n kF1, 0)) rfl) rfl rfl ?_
    refine w_load (pc' := 32) (v := .ref 170) (m := 1) (ykc_296 (e := (2, .aload_n kF0, 0)) rfl) rfl rfl ?_
    refine w_gf (pc' := 35) (v := .int (zn ch)) (ykc_296 (e := (5, .getfield 191, 0)) rfl) rfl ((u1096.2.1 170 7 (fun q => absurd q.1 (by decide))).trans ((u1091.2.1 170 7 (fun q => absurd q.2 (by decide))).trans hk.1)) rfl ?_
    refine w_ias (pc' := 36) (k := i) (ykc_296 (e := (5, .iastore, 0)) rfl) (by omega) rfl (fun ph1099 u1098 => ?_)
    refine w_alu (pc' := 37) (st' := [.int (Int32.ofInt 0)]) (ykc_296 (e := (0, .iconst 0, 0)) rfl) rfl rfl ?_
    refine w_store (pc' := 38) (L' := [some (.ref 170), some (.int (zn i)), some (.int (Int32.ofInt 0))]) (st' := []) (m := 1) (ykc_296 (e := (3, .istore_n kF2, 0)) rfl) rfl rfl ?_
    have f1 : zFr [198, 199] [(170, 0)] ph ph1099 := zFr_trans (zFr_trans (zFr_st u1091 (Or.inr (by simp))) (zFr_st u1096 (Or.inl (by simp)))) (zFr_st u1098 (Or.inl (by simp)))
    have hS1 := zSh_F f1 (by decide +kernel) hS
    have g198 : zc ph1099 198 i = some (.int (zI true)) := by
      have h := (u1098.2.1 198 i (fun q => absurd q.1 (by decide))).trans u1096.1
      rwa [show Int32.ofInt 1 &&& 1 = zI true by decide] at h
    have g199 : zc ph1099 199 i = some (.int (zn ch)) := u1098.1
    have o198 : ∀ j, j ≠ i → zc ph1099 198 j = zc ph 198 j := fun j hj => (u1098.2.1 198 j (fun q => absurd q.1 (by decide))).trans ((u1096.2.1 198 j (fun q => hj q.2)).trans (u1091.2.1 198 j (fun q => absurd q.1 (by decide))))
    have o199 : ∀ j, j ≠ i → zc ph1099 199 j = zc ph 199 j := fun j hj => (u1098.2.1 199 j (fun q => hj q.2)).trans ((u1096.2.1 199 j (fun q => absurd q.1 (by decide))).trans (u1091.2.1 199 j (fun q => absurd q.1 (by decide))))
    have hl : ∀ (n : Nat), ∀ (k : Nat) (ph9 : pm_H), (k ≤ 41) → (zFr [200] [] ph1099 ph9) → (∀ j, j < k → zc ph9 200 (41 * i + j) = some (.int (zn (v j)))) → (∀ j, j < 41 * i ∨ 41 * i + 41 ≤ j → zc ph9 200 j = zc ph1099 200 j) → zW n D 296 Q 38 [some (.ref 170), some (.int (zn i)), some (.int (zn k))] [] ph9 := by
      intro n
      induction n using Nat.strongRecOn with
      | ind n ih =>
        intro k ph9 hk9 hf hr ho
        have tk := znt (k := k) (by omega)
        refine w_load (pc' := 39) (v := .int (zn k)) (m := 1) (ykc_296 (e := (2, .iload_n kF2, 0)) rfl) rfl rfl ?_
        refine w_push (pc' := 41) (v := .int ((Int8.ofInt 41).toInt32)) (m := 2) (ykc_296 (e := (1, .bipush 41, 0)) rfl) rfl rfl ?_
        refine w_ige (ykc_296 (e := (4, .if_icmp .ge 26, 67)) rfl) rfl (fun b1100 => ?_) (fun b1100 => ?_)
        · refine w_alu (pc' := 68) (st' := [.int (Int32.ofInt 1)]) (ykc_296 (e := (0, .iconst 1, 0)) rfl) rfl rfl ?_
          refine w_ret (v := (some (.int (Int32.ofInt 1)))) (ykc_296 (e := (7, .ireturn, 0)) rfl) zr_z ?_
          have f2 : zFr [198, 199, 200] [(170, 0)] ph ph9 := zFr_trans (zFr_mono f1 (by simp) (by simp)) (zFr_mono hf (by simp) (by simp))
          rw [hQ, zi1]
          refine Or.inr ⟨i, hi, hi3, rfl, zMl_F f2 (by simp) (by simp) (by simp) (by simp) hL0, zMp_F f2 (by simp) (by simp) (by simp) hN0, zNr_F f2 (by simp) (by simp) hv, zMu_F f2 (by simp) (by simp) (by simp) hU, ⟨(f2.1 _ _ (by simp) (by simp)).trans hk.1, hch, fun j hj => ?_⟩, zMh_F f2 (by simp) (by simp) hh⟩
          by_cases e : j = i
          · subst e
            refine ⟨?_, ?_, ?_, fun _ => ?_⟩
            · show zc ph9 198 j = some (.int (zI (if j = j then true else kp j)))
              rw [if_pos rfl]; exact (hf.1 198 j (by simp) (by simp)).trans g198
            · show zc ph9 199 j = some (.int (zn (if j = j then ch else kc j)))
              rw [if_pos rfl]; exact (hf.1 199 j (by simp) (by simp)).trans g199
            · show (if j = j then ch else kc j) ≤ ch
              rw [if_pos rfl]; exact Nat.le_refl _
            · show zNr ph9 200 (41 * j) (if j = j then v else sv j)
              rw [if_pos rfl]; exact fun l hl => hr l (by omega)
          · obtain ⟨k1, k2, k3, k4⟩ := hk.2.2 j hj
            refine ⟨?_, ?_, ?_, ?_⟩
            · show zc ph9 198 j = some (.int (zI (if j = i then true else kp j)))
              rw [if_neg e]; exact (hf.1 198 j (by simp) (by simp)).trans ((o198 j e).trans k1)
            · show zc ph9 199 j = some (.int (zn (if j = i then ch else kc j)))
              rw [if_neg e]; exact (hf.1 199 j (by simp) (by simp)).trans ((o199 j e).trans k2)
            · show (if j = i then ch else kc j) ≤ ch
              rw [if_neg e]; exact k3
            · show (if j = i then true else kp j) = true → zNr ph9 200 (41 * j) (if j = i then v else sv j)
              rw [if_neg e, if_neg e]
              intro hkp l hl
              exact (ho _ (by omega)).trans ((f1.1 200 _ (by simp) (by simp)).trans (k4 hkp l hl))
        · refine w_load (pc' := 45) (v := .ref 170) (m := 1) (ykc_296 (e := (2, .aload_n kF0, 0)) rfl) rfl rfl ?_
          refine w_gf (pc' := 48) (v := .ref 200) (ykc_296 (e := (5, .getfield 119, 0)) rfl) rfl ((hf.1 170 48 (by decide) (by decide)).trans (zsg hS1 zs_170_48)) rfl ?_
          refine w_push (pc' := 50) (v := .int ((Int8.ofInt 41).toInt32)) (m := 2) (ykc_296 (e := (1, .bipush 41, 0)) rfl) rfl rfl ?_
          refine w_load (pc' := 51) (v := .int (zn i)) (m := 1) (ykc_296 (e := (2, .iload_n kF1, 0)) rfl) rfl rfl ?_
          have e1101 : ((Int8.ofInt 41).toInt32) * (zn i) = zn (41 * i) := zn_of (by have e1 : (zn i).toInt = (i : Int) := znt (by omega); rw [ti_mul (x := ((Int8.ofInt 41).toInt32)) (y := (zn i)) (by rw [e1, c_0]; omega) (by rw [e1, c_0]; omega), e1, c_0]; omega)
          have te1101 := znt (k := 41 * i) (by omega)
          refine w_alu (pc' := 52) (st' := [.int (zn (41 * i)), .ref 200]) (ykc_296 (e := (0, .imul, 0)) rfl) (by rw [← e1101]; rfl) rfl ?_
          refine w_load (pc' := 53) (v := .int (zn k)) (m := 1) (ykc_296 (e := (2, .iload_n kF2, 0)) rfl) rfl rfl ?_
          have e1102 : (zn (41 * i)) + (zn k) = zn (41 * i + k) := (zaddN (a := 41 * i) (b := k) (znt (by omega)) (znt (by omega)) (by omega)) 
          have te1102 := znt (k := 41 * i + k) (by omega)
          refine w_alu (pc' := 54) (st' := [.int (zn (41 * i + k)), .ref 200]) (ykc_296 (e := (0, .iadd, 0)) rfl) (by rw [← e1102]; rfl) rfl ?_
          refine w_load (pc' := 55) (v := .ref 170) (m := 1) (ykc_296 (e := (2, .aload_n kF0, 0)) rfl) rfl rfl ?_
          refine w_gf (pc' := 58) (v := .ref 174) (ykc_296 (e := (5, .getfield 41, 0)) rfl) rfl ((hf.1 170 11 (by decide) (by decide)).trans (zsg hS1 zs_170_11)) rfl ?_
          refine w_load (pc' := 59) (v := .int (zn k)) (m := 1) (ykc_296 (e := (2, .iload_n kF2, 0)) rfl) rfl rfl ?_
          refine w_ialk (pc' := 60) (k := k) (ykc_296 (e := (5, .iaload, 0)) rfl) ((hf.1 174 k (by decide) (by simp)).trans ((f1.1 174 k (by simp) (by simp)).trans (zNr0 hv (i := k) (by omega)))) (by omega) rfl ?_
          refine w_ias (pc' := 61) (k := 41 * i + k) (ykc_296 (e := (5, .iastore, 0)) rfl) (by omega) rfl (fun ph1104 u1103 => ?_)
          have e1105 : (zn k) + Int32.ofInt 1 = zn (k + 1) := (zaddN (a := k) (b := 1) (znt (by omega)) c_2 (by omega))
          have te1105 := znt (k := k + 1) (by omega)
          refine w_store (pc' := 64) (L' := [some (.ref 170), some (.int (zn i)), some (.int (zn (k + 1)))]) (st' := []) (m := 3) (ykc_296 (e := (3, .iinc 2 1, 0)) rfl) (by rw [← e1105]; rfl) rfl ?_
          refine w_gb (ykc_296 (e := (4, .goto (-26), 38)) rfl) (fun k1106 hk1106 => ?_)
          exact ih k1106 hk1106 (k + 1) _ (by omega) (zFr_add hf u1103 (Or.inl (by simp))) (fun j hj => by
            by_cases e : j = k
            · subst e
              exact u1103.1
            · exact (u1103.2.1 200 (41 * i + j) (fun q => e (by have q2 := q.2; omega))).trans (hr j (by omega))) (fun j hj => (u1103.2.1 200 j (fun q => by have q2 := q.2; omega)).trans (ho j hj))
    exact hl n 0 _ (by omega) zFr_refl (fun j hj => absurd hj (Nat.not_lt_zero j)) (fun j _ => rfl)
  · refine w_alu (pc' := 18) (st' := [.int (Int32.ofInt 0)]) (ykc_296 (e := (0, .iconst 0, 0)) rfl) rfl rfl ?_
    refine w_ret (v := (some (.int (Int32.ofInt 0)))) (ykc_296 (e := (7, .ireturn, 0)) rfl) zr_z ?_
    have d9 := of_decide_eq_false b1095
    have f2 : zFr [] [(170, 0)] ph _ := zFr_st u1091 (Or.inr (by simp))
    rw [hQ, zi0]
    exact Or.inl ⟨by omega, rfl, zMl_F f2 (by simp) (by simp) (by simp) (by simp) hL0, zMp_F f2 (by simp) (by simp) (by simp) hN0, zNr_F f2 (by simp) (by simp) hv, zMu_F f2 (by simp) (by simp) (by simp) hU, zMk_F f2 (by simp) (by simp) (by simp) hk, zMh_F f2 (by simp) (by simp) hh⟩
theorem zm_again {ph : pm_H} {R C P G u ch hn : Nat} {rk : Nat → Bool} {v : Nat → Nat} {w : Nat → Nat → Nat} {kp : Nat → Bool} {kc : Nat → Nat} {sv : Nat → Nat → Nat} (hS : zSh ph) (hK : zKM ph R C rk P G v u w ch kp kc sv hn) (hO0 : zOk R C P G v) {x : Int32} : zM 297 [.ref 170, .int x] ph (fun v0 q => ((x.toInt < 0 ∨ 3 ≤ x.toInt ∨ kp x.toInt.toNat = false ∨ kc x.toInt.toNat ≠ ch) ∧ v0 = some (.int (zI false)) ∧ zKM q R C rk P G v u w ch kp kc sv hn) ∨ (∃ i, x.toInt = (i : Nat) ∧ i < 3 ∧ kp i = true ∧ kc i = ch ∧ v0 = some (.int (zI true)) ∧ zKM q R C rk P G (sv i) 0 w ch kp kc sv hn)) := by
  obtain ⟨Q, hQ⟩ : ∃ Q : Option Value → pm_H → Prop, Q = (fun v0 q => ((x.toInt < 0 ∨ 3 ≤ x.toInt ∨ kp x.toInt.toNat = false ∨ kc x.toInt.toNat ≠ ch) ∧ v0 = some (.int (zI false)) ∧ zKM q R C rk P G v u w ch kp kc sv hn) ∨ (∃ i, x.toInt = (i : Nat) ∧ i < 3 ∧ kp i = true ∧ kc i = ch ∧ v0 = some (.int (zI true)) ∧ zKM q R C rk P G (sv i) 0 w ch kp kc sv hn)) := ⟨_, rfl⟩
  rw [← hQ]
  refine zM_mk fun n D => ?_
  show zW n D 297 Q 0 [some (.ref 170), some (.int x), none] [] ph
  have c_0 : ((Int8.ofInt 41).toInt32).toInt = 41 := by decide
  have c_1 : (Int32.ofInt 0).toInt = 0 := by decide
  have c_2 : (Int32.ofInt 1).toInt = 1 := by decide
  obtain ⟨hL, hN, hv, hU, hk, hh⟩ := hK
  have hL0 := hL
  have hN0 := hN
  have hu15 := hU.2.1
  obtain ⟨gR, gC, gK, hR3, hR7, hC3, hC7⟩ := hL
  have hRC := zRC49 hR7 hC7
  have tR := znt (k := R) (by omega)
  have tC := znt (k := C) (by omega)
  obtain ⟨gP, hP8, gG, hG8⟩ := hN
  have tP := znt (k := P) (by omega)
  have tG := znt (k := G) (by omega)
  have tu := znt (k := u) (by omega)
  have hn10 := hh.2
  have thn := znt (k := hn) (by omega)
  have hch := hk.2.1
  have tch := znt (k := ch) (by omega)
  refine w_load (pc' := 1) (v := .ref 170) (m := 1) (ykc_297 (e := (2, .aload_n kF0, 0)) rfl) rfl rfl ?_
  refine w_alu (pc' := 2) (st' := [.int (Int32.ofInt 0), .ref 170]) (ykc_297 (e := (0, .iconst 0, 0)) rfl) rfl rfl ?_
  refine w_pf (pc' := 5) (ykc_297 (e := (5, .putfield 3, 0)) rfl) rfl rfl (fun ph1108 u1107 => ?_)
  refine w_load (pc' := 6) (v := .int x) (m := 1) (ykc_297 (e := (2, .iload_n kF1, 0)) rfl) rfl rfl ?_
  refine w_alu (pc' := 7) (st' := [.long x.toInt64]) (ykc_297 (e := (0, .i2l, 0)) rfl) rfl rfl ?_
  refine w_alu (pc' := 8) (st' := [.long (Int64.ofNat kG0), .long x.toInt64]) (ykc_297 (e := (0, .lconst kG0, 0)) rfl) rfl rfl ?_
  refine w_push (pc' := 11) (v := .long (2 : Int64)) (m := 3) (ykc_297 (e := (1, .ldc2_w 330, 0)) rfl) rfl rfl ?_
  refine w_cs (as := [.long x.toInt64, .long (Int64.ofNat kG0), .long (2 : Int64)]) (r := []) (ykc_297 (e := (6, .invokestatic 126, 0)) rfl) rfl rfl rfl rfl (zm_in (x := x.toInt) (y := (0 : Int)) (z := (2 : Int)) (by first | exact ztl | (rw [ztl]; omega) | decide | omega) (by first | exact ztl | (rw [ztl]; omega) | decide | omega) (by first | exact ztl | (rw [ztl]; omega) | decide | omega)) (fun v1109 ph1110 hv => ?_)
  obtain ⟨rfl, rfl⟩ := hv
  show zW n D 297 Q 14 [some (.ref 170), some (.int x), none] [.int (zI (decide ((0 : Int) ≤ x.toInt ∧ x.toInt ≤ (2 : Int))))] ph1108
  refine w_beq (ykc_297 (e := (4, .ifCond .eq 25, 39)) rfl) rfl (fun b1111 => ?_) (fun b1111 => ?_)
  · refine w_alu (pc' := 40) (st' := [.int (Int32.ofInt 0)]) (ykc_297 (e := (0, .iconst 0, 0)) rfl) rfl rfl ?_
    refine w_ret (v := (some (.int (Int32.ofInt 0)))) (ykc_297 (e := (7, .ireturn, 0)) rfl) zr_z ?_
    have f2 : zFr [] [(170, 0)] ph _ := zFr_st u1107 (Or.inr (by simp))
    rw [hQ, zi0]
    exact Or.inl ⟨by have d9 := of_decide_eq_false b1111; omega, rfl, zMl_F f2 (by simp) (by simp) (by simp) (by simp) hL0, zMp_F f2 (by simp) (by simp) (by simp) hN0, zNr_F f2 (by simp) (by simp) hv, zMu_F f2 (by simp) (by simp) (by simp) hU, zMk_F f2 (by simp) (by simp) (by simp) hk, zMh_F f2 (by simp) (by simp) hh⟩
  · have d9 := of_decide_eq_true b1111
    obtain ⟨i, hi⟩ : ∃ i : Nat, x.toInt = (i : Int) := ⟨x.toInt.toNat, by omega⟩
    obtain rfl := zn_of hi
    have hi3 : i < 3 := by omega
    have ti := znt (k := i) (by omega)
    show zW n D 297 Q 17 [some (.ref 170), some (.int (zn i)), none] [] ph1108
    refine w_load (pc' := 18) (v := .ref 170) (m := 1) (ykc_297 (e := (2, .aload_n kF0, 0)) rfl) rfl rfl ?_
    refine w_gf (pc' := 21) (v := .ref 198) (ykc_297 (e := (5, .getfield 113, 0)) rfl) rfl ((u1107.2.1 170 46 (fun q => absurd q.2 (by decide))).trans (zsg hS zs_170_46)) rfl ?_
    refine w_load (pc' := 22) (v := .int (zn i)) (m := 1) (ykc_297 (e := (2, .iload_n kF1, 0)) rfl) rfl rfl ?_
    refine w_balk (pc' := 23) (k := i) (ykc_297 (e := (5, .baload, 0)) rfl) ((u1107.2.1 198 i (fun q => absurd q.1 (by decide))).trans (hk.2.2 i (by omega)).1) (by omega) rfl ?_
    refine w_beq (ykc_297 (e := (4, .ifCond .eq 16, 39)) rfl) rfl (fun b1112 => ?_) (fun b1112 => ?_)
    · refine w_alu (pc' := 40) (st' := [.int (Int32.ofInt 0)]) (ykc_297 (e := (0, .iconst 0, 0)) rfl) rfl rfl ?_
      refine w_ret (v := (some (.int (Int32.ofInt 0)))) (ykc_297 (e := (7, .ireturn, 0)) rfl) zr_z ?_
      have f2 : zFr [] [(170, 0)] ph _ := zFr_st u1107 (Or.inr (by simp))
      rw [hQ, zi0]
      exact Or.inl ⟨Or.inr (Or.inr (Or.inl (by rw [hi]; exact b1112))), rfl, zMl_F f2 (by simp) (by simp) (by simp) (by simp) hL0, zMp_F f2 (by simp) (by simp) (by simp) hN0, zNr_F f2 (by simp) (by simp) hv, zMu_F f2 (by simp) (by simp) (by simp) hU, zMk_F f2 (by simp) (by simp) (by simp) hk, zMh_F f2 (by simp) (by simp) hh⟩
    · refine w_load (pc' := 27) (v := .ref 170) (m := 1) (ykc_297 (e := (2, .aload_n kF0, 0)) rfl) rfl rfl ?_
      refine w_gf (pc' := 30) (v := .ref 199) (ykc_297 (e := (5, .getfield 116, 0)) rfl) rfl ((u1107.2.1 170 47 (fun q => absurd q.2 (by decide))).trans (zsg hS zs_170_47)) rfl ?_
      refine w_load (pc' := 31) (v := .int (zn i)) (m := 1) (ykc_297 (e := (2, .iload_n kF1, 0)) rfl) rfl rfl ?_
      have q1113 := (hk.2.2 i (by omega)).2.2.1
      have tq1113 := znt (k := kc i) (by omega)
      refine w_ialk (pc' := 32) (k := i) (ykc_297 (e := (5, .iaload, 0)) rfl) ((u1107.2.1 199 i (fun q => absurd q.1 (by decide))).trans (hk.2.2 i (by omega)).2.1) (by omega) rfl ?_
      refine w_load (pc' := 33) (v := .ref 170) (m := 1) (ykc_297 (e := (2, .aload_n kF0, 0)) rfl) rfl rfl ?_
      refine w_gf (pc' := 36) (v := .int (zn ch)) (ykc_297 (e := (5, .getfield 191, 0)) rfl) rfl ((u1107.2.1 170 7 (fun q => absurd q.2 (by decide))).trans hk.1) rfl ?_
      refine w_ieq (ykc_297 (e := (4, .if_icmp .eq 5, 41)) rfl) rfl (fun b1114 => ?_) (fun b1114 => ?_)
      · refine w_alu (pc' := 42) (st' := [.int (Int32.ofInt 0)]) (ykc_297 (e := (0, .iconst 0, 0)) rfl) rfl rfl ?_
        refine w_store (pc' := 43) (L' := [some (.ref 170), some (.int (zn i)), some (.int (Int32.ofInt 0))]) (st' := []) (m := 1) (ykc_297 (e := (3, .istore_n kF2, 0)) rfl) rfl rfl ?_
        have f1 : zFr [] [(170, 0)] ph ph1108 := zFr_st u1107 (Or.inr (by simp))
        have hS1 := zSh_F f1 (by decide +kernel) hS
        have hsv := (hk.2.2 i hi3).2.2.2 b1112
        have hkc : kc i = ch := by omega
        have hl : ∀ (n : Nat), ∀ (k : Nat) (ph9 : pm_H), (k ≤ 41) → (zFr [174] [] ph1108 ph9) → (∀ j, j < k → zc ph9 174 j = some (.int (zn (sv i j)))) → zW n D 297 Q 43 [some (.ref 170), some (.int (zn i)), some (.int (zn k))] [] ph9 := by
          intro n
          induction n using Nat.strongRecOn with
          | ind n ih =>
            intro k ph9 hk9 hf hr
            have tk := znt (k := k) (by omega)
            refine w_load (pc' := 44) (v := .int (zn k)) (m := 1) (ykc_297 (e := (2, .iload_n kF2, 0)) rfl) rfl rfl ?_
            refine w_push (pc' := 46) (v := .int ((Int8.ofInt 41).toInt32)) (m := 2) (ykc_297 (e := (1, .bipush 41, 0)) rfl) rfl rfl ?_
            refine w_ige (ykc_297 (e := (4, .if_icmp .ge 26, 72)) rfl) rfl (fun b1115 => ?_) (fun b1115 => ?_)
            · refine w_load (pc' := 73) (v := .ref 170) (m := 1) (ykc_297 (e := (2, .aload_n kF0, 0)) rfl) rfl rfl ?_
              refine w_alu (pc' := 74) (st' := [.int (Int32.ofInt 0), .ref 170]) (ykc_297 (e := (0, .iconst 0, 0)) rfl) rfl rfl ?_
              refine w_pf (pc' := 77) (ykc_297 (e := (5, .putfield 188, 0)) rfl) rfl rfl (fun ph1117 u1116 => ?_)
              refine w_alu (pc' := 78) (st' := [.int (Int32.ofInt 1)]) (ykc_297 (e := (0, .iconst 1, 0)) rfl) rfl rfl ?_
              refine w_ret (v := (some (.int (Int32.ofInt 1)))) (ykc_297 (e := (7, .ireturn, 0)) rfl) zr_z ?_
              have f2 : zFr [174] [(170, 0), (170, 27)] ph _ := zFr_trans (zFr_mono f1 (by simp) (by simp)) (zFr_trans (zFr_mono hf (by simp) (by simp)) (zFr_st u1116 (Or.inr (by simp))))
              rw [hQ, zi1]
              exact Or.inr ⟨i, hi, hi3, b1112, hkc, rfl, zMl_F f2 (by simp) (by simp) (by simp) (by simp) hL0, zMp_F f2 (by simp) (by simp) (by simp) hN0, fun j hj => by rw [Nat.zero_add]; exact (u1116.2.1 174 j (fun q => absurd q.1 (by decide))).trans (hr j (by omega)), ⟨u1116.1, by omega, fun j hj => absurd hj (Nat.not_lt_zero j)⟩, zMk_F f2 (by simp) (by simp) (by simp) hk, zMh_F f2 (by simp) (by simp) hh⟩
            · refine w_load (pc' := 50) (v := .ref 170) (m := 1) (ykc_297 (e := (2, .aload_n kF0, 0)) rfl) rfl rfl ?_
              refine w_gf (pc' := 53) (v := .ref 174) (ykc_297 (e := (5, .getfield 41, 0)) rfl) rfl ((hf.1 170 11 (by decide) (by decide)).trans (zsg hS1 zs_170_11)) rfl ?_
              refine w_load (pc' := 54) (v := .int (zn k)) (m := 1) (ykc_297 (e := (2, .iload_n kF2, 0)) rfl) rfl rfl ?_
              refine w_load (pc' := 55) (v := .ref 170) (m := 1) (ykc_297 (e := (2, .aload_n kF0, 0)) rfl) rfl rfl ?_
              refine w_gf (pc' := 58) (v := .ref 200) (ykc_297 (e := (5, .getfield 119, 0)) rfl) rfl ((hf.1 170 48 (by decide) (by decide)).trans (zsg hS1 zs_170_48)) rfl ?_
              refine w_push (pc' := 60) (v := .int ((Int8.ofInt 41).toInt32)) (m := 2) (ykc_297 (e := (1, .bipush 41, 0)) rfl) rfl rfl ?_
              refine w_load (pc' := 61) (v := .int (zn i)) (m := 1) (ykc_297 (e := (2, .iload_n kF1, 0)) rfl) rfl rfl ?_
              have e1118 : ((Int8.ofInt 41).toInt32) * (zn i) = zn (41 * i) := zn_of (by have e1 : (zn i).toInt = (i : Int) := znt (by omega); rw [ti_mul (x := ((Int8.ofInt 41).toInt32)) (y := (zn i)) (by rw [e1, c_0]; omega) (by rw [e1, c_0]; omega), e1, c_0]; omega)
              have te1118 := znt (k := 41 * i) (by omega)
              refine w_alu (pc' := 62) (st' := [.int (zn (41 * i)), .ref 200, .int (zn k), .ref 174]) (ykc_297 (e := (0, .imul, 0)) rfl) (by rw [← e1118]; rfl) rfl ?_
              refine w_load (pc' := 63) (v := .int (zn k)) (m := 1) (ykc_297 (e := (2, .iload_n kF2, 0)) rfl) rfl rfl ?_
              have e1119 : (zn (41 * i)) + (zn k) = zn (41 * i + k) := (zaddN (a := 41 * i) (b := k) (znt (by omega)) (znt (by omega)) (by omega)) 
              have te1119 := znt (k := 41 * i + k) (by omega)
              refine w_alu (pc' := 64) (st' := [.int (zn (41 * i + k)), .ref 200, .int (zn k), .ref 174]) (ykc_297 (e := (0, .iadd, 0)) rfl) (by rw [← e1119]; rfl) rfl ?_
              refine w_ialk (pc' := 65) (k := 41 * i + k) (ykc_297 (e := (5, .iaload, 0)) rfl) ((hf.1 200 (41 * i + k) (by decide) (by simp)).trans ((f1.1 200 (41 * i + k) (by simp) (by simp)).trans (hsv k (by omega)))) (by omega) rfl ?_
              refine w_ias (pc' := 66) (k := k) (ykc_297 (e := (5, .iastore, 0)) rfl) (by omega) rfl (fun ph1121 u1120 => ?_)
              have e1122 : (zn k) + Int32.ofInt 1 = zn (k + 1) := (zaddN (a := k) (b := 1) (znt (by omega)) c_2 (by omega))
              have te1122 := znt (k := k + 1) (by omega)
              refine w_store (pc' := 69) (L' := [some (.ref 170), some (.int (zn i)), some (.int (zn (k + 1)))]) (st' := []) (m := 3) (ykc_297 (e := (3, .iinc 2 1, 0)) rfl) (by rw [← e1122]; rfl) rfl ?_
              refine w_gb (ykc_297 (e := (4, .goto (-26), 43)) rfl) (fun k1123 hk1123 => ?_)
              exact ih k1123 hk1123 (k + 1) _ (by omega) (zFr_add hf u1120 (Or.inl (by simp))) (fun j hj => by
                by_cases e : j = k
                · subst e
                  exact u1120.1
                · exact (u1120.2.1 174 j (fun q => e q.2)).trans (hr j (by omega)))
        exact hl n 0 _ (by omega) zFr_refl (fun j hj => absurd hj (Nat.not_lt_zero j))
      · refine w_alu (pc' := 40) (st' := [.int (Int32.ofInt 0)]) (ykc_297 (e := (0, .iconst 0, 0)) rfl) rfl rfl ?_
        refine w_ret (v := (some (.int (Int32.ofInt 0)))) (ykc_297 (e := (7, .ireturn, 0)) rfl) zr_z ?_
        have f2 : zFr [] [(170, 0)] ph _ := zFr_st u1107 (Or.inr (by simp))
        rw [hQ, zi0]
        exact Or.inl ⟨Or.inr (Or.inr (Or.inr (by rw [hi]; show kc i ≠ ch; omega))), rfl, zMl_F f2 (by simp) (by simp) (by simp) (by simp) hL0, zMp_F f2 (by simp) (by simp) (by simp) hN0, zNr_F f2 (by simp) (by simp) hv, zMu_F f2 (by simp) (by simp) (by simp) hU, zMk_F f2 (by simp) (by simp) (by simp) hk, zMh_F f2 (by simp) (by simp) hh⟩
end
section
/-! sheet, by W; printed by wip/z/z_x_sheet.py -/
/-- an end that is known to be, and what every end fulfils -/
theorem zM_of {j D : Nat} {as : List Value} {ph : pm_H} {P : Option Value → pm_H → Prop} (h : ∃ v q, pm_Rd kK false D j as ph (v, q, 0, 0) ∧ P v q) : zM j as ph P := fun D2 r hr => by
  obtain ⟨v, q, h1, h2⟩ := h
  have e := yRd_det _ _ _ _ _ _ _ hr h1
  subst e
  exact h2
theorem zM_use {j D : Nat} {as : List Value} {ph : pm_H} {P T : Option Value → pm_H → Prop} (hz : zM j as ph P) (h : ∃ v q, pm_Rd kK false D j as ph (v, q, 0, 0) ∧ T v q) : ∃ v q, pm_Rd kK false D j as ph (v, q, 0, 0) ∧ T v q ∧ P v q := by
  obtain ⟨v, q, h1, h2⟩ := h
  exact ⟨v, q, h1, h2, hz _ _ h1⟩
/-- a SHEET's entry, held between 0 and 4 -/
def zq4 (x : Int32) : Nat := (max 0 (min 4 x.toInt)).toNat
theorem zq4_le {x : Int32} : zq4 x ≤ 4 := by
  unfold zq4
  omega
def zsck (kd x : Int32) : Int32 := if kd.toInt = 0 then x.toInt8.toInt32 else if kd.toInt = 1 then x.toInt16.toInt32 else x
def zsq (f st : Int32) : Nat → Int32
  | 0 => f
  | i + 1 => zsq f st i + st
theorem zsq_eq {f st : Int32} : ∀ k, f + zn k * st = zsq f st k
  | 0 => by
    show f + Int32.ofNat 0 * st = f
    rw [show Int32.ofNat 0 = 0 from rfl, Int32.zero_mul, Int32.add_zero]
  | k + 1 => by
    show f + zn (k + 1) * st = zsq f st k + st
    rw [← zsq_eq k, show zn (k + 1) = zn k + 1 from Int32.ofNat_add k 1, Int32.add_mul, Int32.one_mul, Int32.add_assoc]
def zsv (kd nn f st : Int32) (i : Nat) : Nat := if kd.toInt = 3 ∨ nn.toInt ≤ (i : Int) then 0 else zq4 (zsck kd (zsq f st i))
theorem zsv_le {kd nn f st : Int32} {i : Nat} : zsv kd nn f st i ≤ 4 := by
  unfold zsv
  split
  · exact Nat.zero_le _
  · exact zq4_le
def zsh (v : Nat → Nat) (P : Nat) (kd nn f st : Int32) (i : Nat) : Nat := if 16 ≤ i ∧ i < 16 + P then zsv kd nn f st (i - 16) else v i
theorem zsh_b {v : Nat → Nat} {P i : Nat} {kd nn f st : Int32} (h : i < P) : zsh v P kd nn f st (16 + i) = zsv kd nn f st i := by
  unfold zsh
  rw [if_pos (by omega), show 16 + i - 16 = i by omega]
theorem zsh_o {v : Nat → Nat} {P i : Nat} {kd nn f st : Int32} (h : ¬ (16 ≤ i ∧ i < 16 + P)) : zsh v P kd nn f st i = v i := if_neg h
/-- how broad all BRIMS are together -/
def zBs (v : Nat → Nat) : Nat → Int32
  | 0 => Int32.ofInt 0
  | p + 1 => zBs v p + zn (v (16 + p))
def zsa (v : Nat → Nat) (P : Nat) (kd nn f st : Int32) : Int32 := if kd.toInt < 0 ∨ 3 < kd.toInt ∨ 8 < nn.toInt then Int32.ofInt (-1) else if kd.toInt = 3 then (Int8.ofInt (-3)).toInt32 else if nn.toInt < 0 then (Int8.ofInt (-2)).toInt32 else zBs (zsh v P kd nn f st) P
def zsr (v : Nat → Nat) (P : Nat) (kd nn f st : Int32) : Nat → Nat := if (kd.toInt < 0 ∨ 3 < kd.toInt ∨ 8 < nn.toInt) ∨ (kd.toInt ≠ 3 ∧ nn.toInt < 0) then v else zsh v P kd nn f st
theorem zsh_ok {R C P G : Nat} {v : Nat → Nat} {kd nn f st : Int32} (hP : P ≤ 8) (h : zOk R C P G v) : zOk R C P G (zsh v P kd nn f st) := by
  refine ⟨fun p hp => ⟨?_, ?_, ?_, ?_⟩, fun t ht => ?_, ?_⟩
  · rw [zsh_o (by omega)]; exact (h.1 p hp).1
  · rw [zsh_o (by omega)]; exact (h.1 p hp).2.1
  · rw [zsh_b hp]; have := @zsv_le kd nn f st p; omega
  · rw [zsh_o (by omega)]; exact (h.1 p hp).2.2.2
  · rw [zsh_o (by omega)]; exact h.2.1 t ht
  · rw [zsh_o (by omega)]; exact h.2.2
theorem zSd_sh {p q : pm_H} {P G : Nat} {v u : Nat → Nat} (f : zFr [28] [] p q) (hd : zSd p 25 P G v) (h : ∀ i, i < P → zc q 28 i = some (.int (zn (u (16 + i))))) (hu : ∀ i, ¬ (16 ≤ i ∧ i < 16 + P) → u i = v i) : zSd q 25 P G u := by
  obtain ⟨g0, gP, g1, gG, g2, g3, g4⟩ := hd
  refine ⟨(f.1 25 0 (by decide) (by simp)).trans g0, gP, (f.1 25 1 (by decide) (by simp)).trans g1, gG, ?_, fun i hi => ⟨?_, ?_, h i hi, ?_⟩, fun i hi => ?_⟩
  · rw [hu 40 (by omega)]; exact (f.1 25 2 (by decide) (by simp)).trans g2
  · rw [hu i (by omega)]; exact (f.1 (25 + 1) i (by decide) (by simp)).trans (g3 i hi).1
  · rw [hu (8 + i) (by omega)]; exact (f.1 (25 + 2) i (by decide) (by simp)).trans (g3 i hi).2.1
  · rw [hu (24 + i) (by omega)]; exact (f.1 (25 + 4) i (by decide) (by simp)).trans (g3 i hi).2.2.2
  · rw [hu (32 + i) (by omega)]; exact (f.1 (25 + 5) i (by decide) (by simp)).trans (g4 i hi)
theorem zKC_sh {p q : pm_H} {R C P G nx u fl hn : Nat} {rk : Nat → Bool} {v v2 : Nat → Nat} {w sv : Nat → Nat → Nat} (f : zFr [28] [] p q) (h : zKC p R C rk P G v nx u w fl sv hn) (hd : zSd q 25 P G v2) : zKC q R C rk P G v2 nx u w fl sv hn := ⟨zCl_F f (by simp) (by intro i hi; simp) (by simp) h.1, hd, zCu_F f (by simp) (by simp) (by intro j h1 h2; simp <;> omega) (by intro j i h1 h2; simp) h.2.2.1, zCk_F f (by simp) (by simp) (by intro j h1 h2; simp <;> omega) (by intro j i h1 h2; simp) h.2.2.2.1, (f.1 _ _ (by simp) (by simp)).trans h.2.2.2.2.1, h.2.2.2.2.2⟩
theorem zc_entry {ph : pm_H} {kd x : Int32} : zM 132 [.int kd, .int x] ph (fun v0 q => ph = q ∧ v0 = some (.int (zn (zq4 (zsck kd x))))) := by
  obtain ⟨Q, hQ⟩ : ∃ Q : Option Value → pm_H → Prop, Q = (fun v0 q => ph = q ∧ v0 = some (.int (zn (zq4 (zsck kd x))))) := ⟨_, rfl⟩
  rw [← hQ]
  refine zM_mk fun n D => ?_
  show zW n D 132 Q 0 [some (.int kd), some (.int x), none] [] ph
  have c_0 : (Int32.ofInt 0).toInt = 0 := by decide
  have c_1 : (Int32.ofInt 1).toInt = 1 := by decide
  have c_2 : (Int32.ofInt 4).toInt = 4 := by decide
  refine w_load (pc' := 1) (v := .int kd) (m := 1) (ykc_132 (e := (2, .iload_n kF0, 0)) rfl) rfl rfl ?_
  refine w_zne (ykc_132 (e := (4, .ifCond .ne 8, 9)) rfl) rfl (fun b1124 => ?_) (fun b1124 => ?_)
  · refine w_load (pc' := 10) (v := .int kd) (m := 1) (ykc_132 (e := (2, .iload_n kF0, 0)) rfl) rfl rfl ?_
    refine w_alu (pc' := 11) (st' := [.int (Int32.ofInt 1), .int kd]) (ykc_132 (e := (0, .iconst 1, 0)) rfl) rfl rfl ?_
    refine w_ine (ykc_132 (e := (4, .if_icmp .ne 8, 19)) rfl) rfl (fun b1125 => ?_) (fun b1125 => ?_)
    · refine w_load (pc' := 20) (v := .int x) (m := 1) (ykc_132 (e := (2, .iload_n kF1, 0)) rfl) rfl rfl ?_
      refine w_store (pc' := 21) (L' := [some (.int kd), some (.int x), some (.int x)]) (st' := []) (m := 1) (ykc_132 (e := (3, .istore_n kF2, 0)) rfl) rfl rfl ?_
      refine w_alu (pc' := 22) (st' := [.int (Int32.ofInt 0)]) (ykc_132 (e := (0, .iconst 0, 0)) rfl) rfl rfl ?_
      refine w_alu (pc' := 23) (st' := [.int (Int32.ofInt 4), .int (Int32.ofInt 0)]) (ykc_132 (e := (0, .iconst 4, 0)) rfl) rfl rfl ?_
      refine w_load (pc' := 24) (v := .int x) (m := 1) (ykc_132 (e := (2, .iload_n kF2, 0)) rfl) rfl rfl ?_
      obtain ⟨z1126, e_z1126⟩ : ∃ zq : Int32, (if x < (Int32.ofInt 4) then x else (Int32.ofInt 4)) = zq := ⟨_, rfl⟩
      have h_z1126 := zminI e_z1126
      refine w_mem1 (pc' := 27) (m := 3) (st' := [.int z1126, .int (Int32.ofInt 0)]) (ph' := ph) (ykc_132 (e := (5, .invokestatic 227, 0)) rfl) (by rw [← e_z1126]; rfl) rfl ?_
      obtain ⟨z1127, e_z1127⟩ : ∃ zq : Int32, (if (Int32.ofInt 0) < z1126 then z1126 else (Int32.ofInt 0)) = zq := ⟨_, rfl⟩
      have h_z1127 := zmaxI e_z1127
      refine w_mem1 (pc' := 30) (m := 3) (st' := [.int z1127]) (ph' := ph) (ykc_132 (e := (5, .invokestatic 232, 0)) rfl) (by rw [← e_z1127]; rfl) rfl ?_
      refine w_ret (v := (some (.int z1127))) (ykc_132 (e := (7, .ireturn, 0)) rfl) (zr_v rfl) ?_
      have e9 : zsck kd x = x := by
        unfold zsck
        rw [if_neg (by omega), if_neg (by omega)]
      rw [hQ]
      exact ⟨rfl, by rw [zn_of (x := z1127) (k := zq4 (zsck kd x)) (by unfold zq4; rw [e9]; omega)]⟩
    · refine w_load (pc' := 15) (v := .int x) (m := 1) (ykc_132 (e := (2, .iload_n kF1, 0)) rfl) rfl rfl ?_
      obtain ⟨z1128, e_z1128, h_z1128⟩ : ∃ zq : Int32, x.toInt16.toInt32 = zq ∧ zq.toInt = (x.toInt16.toInt32).toInt := ⟨_, rfl, rfl⟩
      refine w_alu (pc' := 16) (st' := [.int z1128]) (ykc_132 (e := (0, .i2s, 0)) rfl) (by rw [← e_z1128]; rfl) rfl ?_
      refine w_br (pc' := 20) (st' := [.int z1128]) (ykc_132 (e := (4, .goto 4, 20)) rfl) rfl ?_
      refine w_store (pc' := 21) (L' := [some (.int kd), some (.int x), some (.int z1128)]) (st' := []) (m := 1) (ykc_132 (e := (3, .istore_n kF2, 0)) rfl) rfl rfl ?_
      refine w_alu (pc' := 22) (st' := [.int (Int32.ofInt 0)]) (ykc_132 (e := (0, .iconst 0, 0)) rfl) rfl rfl ?_
      refine w_alu (pc' := 23) (st' := [.int (Int32.ofInt 4), .int (Int32.ofInt 0)]) (ykc_132 (e := (0, .iconst 4, 0)) rfl) rfl rfl ?_
      refine w_load (pc' := 24) (v := .int z1128) (m := 1) (ykc_132 (e := (2, .iload_n kF2, 0)) rfl) rfl rfl ?_
      obtain ⟨z1129, e_z1129⟩ : ∃ zq : Int32, (if z1128 < (Int32.ofInt 4) then z1128 else (Int32.ofInt 4)) = zq := ⟨_, rfl⟩
      have h_z1129 := zminI e_z1129
      refine w_mem1 (pc' := 27) (m := 3) (st' := [.int z1129, .int (Int32.ofInt 0)]) (ph' := ph) (ykc_132 (e := (5, .invokestatic 227, 0)) rfl) (by rw [← e_z1129]; rfl) rfl ?_
      obtain ⟨z1130, e_z1130⟩ : ∃ zq : Int32, (if (Int32.ofInt 0) < z1129 then z1129 else (Int32.ofInt 0)) = zq := ⟨_, rfl⟩
      have h_z1130 := zmaxI e_z1130
      refine w_mem1 (pc' := 30) (m := 3) (st' := [.int z1130]) (ph' := ph) (ykc_132 (e := (5, .invokestatic 232, 0)) rfl) (by rw [← e_z1130]; rfl) rfl ?_
      refine w_ret (v := (some (.int z1130))) (ykc_132 (e := (7, .ireturn, 0)) rfl) (zr_v rfl) ?_
      have e9 : zsck kd x = x.toInt16.toInt32 := by
        unfold zsck
        rw [if_neg (by omega), if_pos (by omega)]
      rw [hQ]
      exact ⟨rfl, by rw [zn_of (x := z1130) (k := zq4 (zsck kd x)) (by unfold zq4; rw [e9]; omega)]⟩
  · refine w_load (pc' := 5) (v := .int x) (m := 1) (ykc_132 (e := (2, .iload_n kF1, 0)) rfl) rfl rfl ?_
    obtain ⟨z1131, e_z1131, h_z1131⟩ : ∃ zq : Int32, x.toInt8.toInt32 = zq ∧ zq.toInt = (x.toInt8.toInt32).toInt := ⟨_, rfl, rfl⟩
    refine w_alu (pc' := 6) (st' := [.int z1131]) (ykc_132 (e := (0, .i2b, 0)) rfl) (by rw [← e_z1131]; rfl) rfl ?_
    refine w_br (pc' := 20) (st' := [.int z1131]) (ykc_132 (e := (4, .goto 14, 20)) rfl) rfl ?_
    refine w_store (pc' := 21) (L' := [some (.int kd), some (.int x), some (.int z1131)]) (st' := []) (m := 1) (ykc_132 (e := (3, .istore_n kF2, 0)) rfl) rfl rfl ?_
    refine w_alu (pc' := 22) (st' := [.int (Int32.ofInt 0)]) (ykc_132 (e := (0, .iconst 0, 0)) rfl) rfl rfl ?_
    refine w_alu (pc' := 23) (st' := [.int (Int32.ofInt 4), .int (Int32.ofInt 0)]) (ykc_132 (e := (0, .iconst 4, 0)) rfl) rfl rfl ?_
    refine w_load (pc' := 24) (v := .int z1131) (m := 1) (ykc_132 (e := (2, .iload_n kF2, 0)) rfl) rfl rfl ?_
    obtain ⟨z1132, e_z1132⟩ : ∃ zq : Int32, (if z1131 < (Int32.ofInt 4) then z1131 else (Int32.ofInt 4)) = zq := ⟨_, rfl⟩
    have h_z1132 := zminI e_z1132
    refine w_mem1 (pc' := 27) (m := 3) (st' := [.int z1132, .int (Int32.ofInt 0)]) (ph' := ph) (ykc_132 (e := (5, .invokestatic 227, 0)) rfl) (by rw [← e_z1132]; rfl) rfl ?_
    obtain ⟨z1133, e_z1133⟩ : ∃ zq : Int32, (if (Int32.ofInt 0) < z1132 then z1132 else (Int32.ofInt 0)) = zq := ⟨_, rfl⟩
    have h_z1133 := zmaxI e_z1133
    refine w_mem1 (pc' := 30) (m := 3) (st' := [.int z1133]) (ph' := ph) (ykc_132 (e := (5, .invokestatic 232, 0)) rfl) (by rw [← e_z1133]; rfl) rfl ?_
    refine w_ret (v := (some (.int z1133))) (ykc_132 (e := (7, .ireturn, 0)) rfl) (zr_v rfl) ?_
    have e9 : zsck kd x = x.toInt8.toInt32 := if_pos (by omega)
    rw [hQ]
    exact ⟨rfl, by rw [zn_of (x := z1133) (k := zq4 (zsck kd x)) (by unfold zq4; rw [e9]; omega)]⟩
theorem zc_brims {ph : pm_H} {S P G : Nat} {v : Nat → Nat} (hs : zSs ph S) (hd : zSd ph S P G v) : zM 112 [.ref S] ph (fun v0 q => ph = q ∧ v0 = some (.int (zBs v P))) := by
  obtain ⟨Q, hQ⟩ : ∃ Q : Option Value → pm_H → Prop, Q = (fun v0 q => ph = q ∧ v0 = some (.int (zBs v P))) := ⟨_, rfl⟩
  rw [← hQ]
  refine zM_mk fun n D => ?_
  show zW n D 112 Q 0 [some (.ref S), none, none] [] ph
  have c_0 : ((Int8.ofInt 8).toInt32).toInt = 8 := by decide
  have c_1 : (Int32.ofInt 0).toInt = 0 := by decide
  have c_2 : (Int32.ofInt 1).toInt = 1 := by decide
  have hd0 := hd
  have hs0 := hs
  obtain ⟨r3, r4, r5, r6, r7, l1, l2, l3, l4, l5⟩ := hs
  obtain ⟨gP, hP8, gG, hG8, gH, gv, gw⟩ := hd
  have tP := znt (k := P) (by omega)
  have tG := znt (k := G) (by omega)
  refine w_alu (pc' := 1) (st' := [.int (Int32.ofInt 0)]) (ykc_112 (e := (0, .iconst 0, 0)) rfl) rfl rfl ?_
  refine w_store (pc' := 2) (L' := [some (.ref S), some (.int (Int32.ofInt 0)), none]) (st' := []) (m := 1) (ykc_112 (e := (3, .istore_n kF1, 0)) rfl) rfl rfl ?_
  refine w_alu (pc' := 3) (st' := [.int (Int32.ofInt 0)]) (ykc_112 (e := (0, .iconst 0, 0)) rfl) rfl rfl ?_
  refine w_store (pc' := 4) (L' := [some (.ref S), some (.int (Int32.ofInt 0)), some (.int (Int32.ofInt 0))]) (st' := []) (m := 1) (ykc_112 (e := (3, .istore_n kF2, 0)) rfl) rfl rfl ?_
  have hl : ∀ (n : Nat), ∀ (k : Nat), (k ≤ P) → zW n D 112 Q 4 [some (.ref S), some (.int (zBs v k)), some (.int (zn k))] [] ph := by
    intro n
    induction n using Nat.strongRecOn with
    | ind n ih =>
      intro k hk
      have tk := znt (k := k) (by omega)
      refine w_load (pc' := 5) (v := .int (zn k)) (m := 1) (ykc_112 (e := (2, .iload_n kF2, 0)) rfl) rfl rfl ?_
      refine w_load (pc' := 6) (v := .ref S) (m := 1) (ykc_112 (e := (2, .aload_n kF0, 0)) rfl) rfl rfl ?_
      refine w_gf (pc' := 9) (v := .int (zn P)) (ykc_112 (e := (5, .getfield 30, 0)) rfl) rfl gP rfl ?_
      refine w_ige (ykc_112 (e := (4, .if_icmp .ge 24, 33)) rfl) rfl (fun b1134 => ?_) (fun b1134 => ?_)
      · refine w_load (pc' := 34) (v := .int (zBs v k)) (m := 1) (ykc_112 (e := (2, .iload_n kF1, 0)) rfl) rfl rfl ?_
        refine w_ret (v := (some (.int (zBs v k)))) (ykc_112 (e := (7, .ireturn, 0)) rfl) (zr_v rfl) ?_
        have ek : P = k := by omega
        subst ek
        rw [hQ]
        exact ⟨rfl, rfl⟩
      · refine w_load (pc' := 13) (v := .int (zn k)) (m := 1) (ykc_112 (e := (2, .iload_n kF2, 0)) rfl) rfl rfl ?_
        refine w_push (pc' := 15) (v := .int ((Int8.ofInt 8).toInt32)) (m := 2) (ykc_112 (e := (1, .bipush 8, 0)) rfl) rfl rfl ?_
        refine w_ige (ykc_112 (e := (4, .if_icmp .ge 18, 33)) rfl) rfl (fun q => by exfalso; omega) (fun b1135 => ?_)
        refine w_load (pc' := 19) (v := .int (zBs v k)) (m := 1) (ykc_112 (e := (2, .iload_n kF1, 0)) rfl) rfl rfl ?_
        refine w_load (pc' := 20) (v := .ref S) (m := 1) (ykc_112 (e := (2, .aload_n kF0, 0)) rfl) rfl rfl ?_
        refine w_gf (pc' := 23) (v := .ref (S + 3)) (ykc_112 (e := (5, .getfield 18, 0)) rfl) rfl r5 rfl ?_
        refine w_load (pc' := 24) (v := .int (zn k)) (m := 1) (ykc_112 (e := (2, .iload_n kF2, 0)) rfl) rfl rfl ?_
        refine w_ialk (pc' := 25) (k := k) (ykc_112 (e := (5, .iaload, 0)) rfl) (gv k (by omega)).2.2.1 (by omega) rfl ?_
        refine w_alu (pc' := 26) (st' := [.int ((zBs v k) + (zn (v (16 + k))))]) (ykc_112 (e := (0, .iadd, 0)) rfl) rfl rfl ?_
        refine w_store (pc' := 27) (L' := [some (.ref S), some (.int ((zBs v k) + (zn (v (16 + k))))), some (.int (zn k))]) (st' := []) (m := 1) (ykc_112 (e := (3, .istore_n kF1, 0)) rfl) rfl rfl ?_
        have e1136 : (zn k) + Int32.ofInt 1 = zn (k + 1) := (zaddN (a := k) (b := 1) (znt (by omega)) c_2 (by omega))
        have te1136 := znt (k := k + 1) (by omega)
        refine w_store (pc' := 30) (L' := [some (.ref S), some (.int ((zBs v k) + (zn (v (16 + k))))), some (.int (zn (k + 1)))]) (st' := []) (m := 3) (ykc_112 (e := (3, .iinc 2 1, 0)) rfl) (by rw [← e1136]; rfl) rfl ?_
        refine w_gb (ykc_112 (e := (4, .goto (-26), 4)) rfl) (fun k1137 hk1137 => ?_)
        exact ih k1137 hk1137 (k + 1) (by omega)
  exact hl n 0 (Nat.zero_le _)
theorem zc_fill28 {ph : pm_H} (hS : zSh ph) : zM 328 [.ref 28, .int (Int32.ofInt 0)] ph (fun v0 q => v0 = none ∧ zFr [28] [] ph q ∧ ∀ i, i < 8 → zc q 28 i = some (.int (zn 0))) := by
  obtain ⟨Q, hQ⟩ : ∃ Q : Option Value → pm_H → Prop, Q = (fun v0 q => v0 = none ∧ zFr [28] [] ph q ∧ ∀ i, i < 8 → zc q 28 i = some (.int (zn 0))) := ⟨_, rfl⟩
  rw [← hQ]
  refine zM_mk fun n D => ?_
  show zW n D 328 Q 0 [some (.ref 28), some (.int (Int32.ofInt 0)), none, none] [] ph
  have c_0 : (Int32.ofInt 0).toInt = 0 := by decide
  have c_1 : (Int32.ofInt 1).toInt = 1 := by decide
  refine w_alu (pc' := 1) (st' := [.int (Int32.ofInt 0)]) (ykc_328 (e := (0, .iconst 0, 0)) rfl) rfl rfl ?_
  refine w_store (pc' := 2) (L' := [some (.ref 28), some (.int (Int32.ofInt 0)), some (.int (Int32.ofInt 0)), none]) (st' := []) (m := 1) (ykc_328 (e := (3, .istore_n kF2, 0)) rfl) rfl rfl ?_
  refine w_load (pc' := 3) (v := .ref 28) (m := 1) (ykc_328 (e := (2, .aload_n kF0, 0)) rfl) rfl rfl ?_
  have cn1138 : (Int32.ofNat 8).toInt = 8 := by decide
  refine w_aln (ykc_328 (e := (5, .arraylength, 0)) rfl) (zsl hS zl_28) rfl ?_
  refine w_store (pc' := 5) (L' := [some (.ref 28), some (.int (Int32.ofInt 0)), some (.int (Int32.ofInt 0)), some (.int (Int32.ofNat 8))]) (st' := []) (m := 1) (ykc_328 (e := (3, .istore_n kF3, 0)) rfl) rfl rfl ?_
  have hl : ∀ (n : Nat), ∀ (k : Nat) (ph1 : pm_H), (k ≤ 8) → (zFr [28] [] ph ph1) → (∀ i, i < k → zc ph1 28 i = some (.int (zn 0))) → zW n D 328 Q 5 [some (.ref 28), some (.int (Int32.ofInt 0)), some (.int (zn k)), some (.int (Int32.ofNat 8))] [] ph1 := by
    intro n
    induction n using Nat.strongRecOn with
    | ind n ih =>
      intro k ph1 hk hf hr
      have tk := znt (k := k) (by omega)
      refine w_load (pc' := 6) (v := .int (zn k)) (m := 1) (ykc_328 (e := (2, .iload_n kF2, 0)) rfl) rfl rfl ?_
      refine w_load (pc' := 7) (v := .int (Int32.ofNat 8)) (m := 1) (ykc_328 (e := (2, .iload_n kF3, 0)) rfl) rfl rfl ?_
      refine w_ige (ykc_328 (e := (4, .if_icmp .ge 13, 20)) rfl) rfl (fun b1139 => ?_) (fun b1139 => ?_)
      · refine w_ret (v := none) (ykc_328 (e := (7, .return_, 0)) rfl) (zr_v rfl) ?_
        have ek : k = 8 := by omega
        subst ek
        rw [hQ]
        exact ⟨rfl, hf, hr⟩
      · refine w_load (pc' := 11) (v := .ref 28) (m := 1) (ykc_328 (e := (2, .aload_n kF0, 0)) rfl) rfl rfl ?_
        refine w_load (pc' := 12) (v := .int (zn k)) (m := 1) (ykc_328 (e := (2, .iload_n kF2, 0)) rfl) rfl rfl ?_
        refine w_load (pc' := 13) (v := .int (Int32.ofInt 0)) (m := 1) (ykc_328 (e := (2, .iload_n kF1, 0)) rfl) rfl rfl ?_
        refine w_ias (pc' := 14) (k := k) (ykc_328 (e := (5, .iastore, 0)) rfl) (by omega) rfl (fun ph1141 u1140 => ?_)
        have e1142 : (zn k) + Int32.ofInt 1 = zn (k + 1) := (zaddN (a := k) (b := 1) (znt (by omega)) c_1 (by omega))
        have te1142 := znt (k := k + 1) (by omega)
        refine w_store (pc' := 17) (L' := [some (.ref 28), some (.int (Int32.ofInt 0)), some (.int (zn (k + 1))), some (.int (Int32.ofNat 8))]) (st' := []) (m := 3) (ykc_328 (e := (3, .iinc 2 1, 0)) rfl) (by rw [← e1142]; rfl) rfl ?_
        refine w_gb (ykc_328 (e := (4, .goto (-12), 5)) rfl) (fun k1143 hk1143 => ?_)
        exact ih k1143 hk1143 (k + 1) _ (by omega) (zFr_add hf u1140 (Or.inl (by simp))) (fun i hi => by
          by_cases e : i = k
          · subst e
            exact u1140.1
          · exact (u1140.2.1 28 i (fun q => e q.2)).trans (hr i (by omega)))
  exact hl n 0 ph (Nat.zero_le _) zFr_refl (fun i hi => absurd hi (Nat.not_lt_zero i))
theorem zc_sheet {ph : pm_H} {R C P G nx u fl hn : Nat} {rk : Nat → Bool} {v : Nat → Nat} {w : Nat → Nat → Nat} {sv : Nat → Nat → Nat} (hS : zSh ph) (hK : zKC ph R C rk P G v nx u w fl sv hn) (hO0 : zOk R C P G v) {kd nn ff sp : Int32} : zM 131 [.ref 0, .int kd, .int nn, .int ff, .int sp] ph (fun v0 q => v0 = some (.int (zsa v P kd nn ff sp)) ∧ zKC q R C rk P G (zsr v P kd nn ff sp) nx u w fl sv hn) := by
  obtain ⟨Q, hQ⟩ : ∃ Q : Option Value → pm_H → Prop, Q = (fun v0 q => v0 = some (.int (zsa v P kd nn ff sp)) ∧ zKC q R C rk P G (zsr v P kd nn ff sp) nx u w fl sv hn) := ⟨_, rfl⟩
  rw [← hQ]
  refine zM_mk fun n D => ?_
  show zW n D 131 Q 0 [some (.ref 0), some (.int kd), some (.int nn), some (.int ff), some (.int sp), none] [] ph
  have c_0 : ((Int8.ofInt (-2)).toInt32).toInt = -2 := by decide
  have c_1 : ((Int8.ofInt (-3)).toInt32).toInt = -3 := by decide
  have c_2 : ((Int8.ofInt 8).toInt32).toInt = 8 := by decide
  have c_3 : (Int32.ofInt (-1)).toInt = -1 := by decide
  have c_4 : (Int32.ofInt 0).toInt = 0 := by decide
  have c_5 : (Int32.ofInt 1).toInt = 1 := by decide
  have c_6 : (Int32.ofInt 3).toInt = 3 := by decide
  have hd := hK.2.1
  obtain ⟨gP, hP8, -⟩ := hK.2.1
  have tP := znt (k := P) (by omega)
  refine w_load (pc' := 1) (v := .int kd) (m := 1) (ykc_131 (e := (2, .iload_n kF1, 0)) rfl) rfl rfl ?_
  refine w_zlt (ykc_131 (e := (4, .ifCond .lt 14, 15)) rfl) rfl (fun b1144 => ?_) (fun b1144 => ?_)
  · refine w_alu (pc' := 16) (st' := [.int (Int32.ofInt (-1))]) (ykc_131 (e := (0, .iconst (-1), 0)) rfl) rfl rfl ?_
    refine w_ret (v := (some (.int (Int32.ofInt (-1))))) (ykc_131 (e := (7, .ireturn, 0)) rfl) (zr_v rfl) ?_
    have ea : zsa v P kd nn ff sp = Int32.ofInt (-1) := if_pos (by omega)
    have er : zsr v P kd nn ff sp = v := if_pos (Or.inl (by omega))
    rw [hQ]
    refine ⟨by rw [ea], ?_⟩
    rw [er]
    exact hK
  · refine w_load (pc' := 5) (v := .int kd) (m := 1) (ykc_131 (e := (2, .iload_n kF1, 0)) rfl) rfl rfl ?_
    refine w_alu (pc' := 6) (st' := [.int (Int32.ofInt 3), .int kd]) (ykc_131 (e := (0, .iconst 3, 0)) rfl) rfl rfl ?_
    refine w_igt (ykc_131 (e := (4, .if_icmp .gt 9, 15)) rfl) rfl (fun b1145 => ?_) (fun b1145 => ?_)
    · refine w_alu (pc' := 16) (st' := [.int (Int32.ofInt (-1))]) (ykc_131 (e := (0, .iconst (-1), 0)) rfl) rfl rfl ?_
      refine w_ret (v := (some (.int (Int32.ofInt (-1))))) (ykc_131 (e := (7, .ireturn, 0)) rfl) (zr_v rfl) ?_
      have ea : zsa v P kd nn ff sp = Int32.ofInt (-1) := if_pos (by omega)
      have er : zsr v P kd nn ff sp = v := if_pos (Or.inl (by omega))
      rw [hQ]
      refine ⟨by rw [ea], ?_⟩
      rw [er]
      exact hK
    · refine w_load (pc' := 10) (v := .int nn) (m := 1) (ykc_131 (e := (2, .iload_n kF2, 0)) rfl) rfl rfl ?_
      refine w_push (pc' := 12) (v := .int ((Int8.ofInt 8).toInt32)) (m := 2) (ykc_131 (e := (1, .bipush 8, 0)) rfl) rfl rfl ?_
      refine w_ile (ykc_131 (e := (4, .if_icmp .le 5, 17)) rfl) rfl (fun b1146 => ?_) (fun b1146 => ?_)
      · refine w_load (pc' := 18) (v := .int kd) (m := 1) (ykc_131 (e := (2, .iload_n kF1, 0)) rfl) rfl rfl ?_
        refine w_alu (pc' := 19) (st' := [.int (Int32.ofInt 3), .int kd]) (ykc_131 (e := (0, .iconst 3, 0)) rfl) rfl rfl ?_
        refine w_ine (ykc_131 (e := (4, .if_icmp .ne 17, 36)) rfl) rfl (fun b1147 => ?_) (fun b1147 => ?_)
        · refine w_load (pc' := 37) (v := .int nn) (m := 1) (ykc_131 (e := (2, .iload_n kF2, 0)) rfl) rfl rfl ?_
          refine w_zge (ykc_131 (e := (4, .ifCond .ge 6, 43)) rfl) rfl (fun b1148 => ?_) (fun b1148 => ?_)
          · refine w_alu (pc' := 44) (st' := [.int (Int32.ofInt 0)]) (ykc_131 (e := (0, .iconst 0, 0)) rfl) rfl rfl ?_
            refine w_store (pc' := 46) (L' := [some (.ref 0), some (.int kd), some (.int nn), some (.int ff), some (.int sp), some (.int (Int32.ofInt 0))]) (st' := []) (m := 2) (ykc_131 (e := (3, .istore 5, 0)) rfl) rfl rfl ?_
            have hl : ∀ (n : Nat), ∀ (k : Nat) (ph1 : pm_H), (k ≤ P) → (zFr [28] [] ph ph1) → (∀ i, i < k → zc ph1 28 i = some (.int (zn (zsv kd nn ff sp i)))) → zW n D 131 Q 46 [some (.ref 0), some (.int kd), some (.int nn), some (.int ff), some (.int sp), some (.int (zn k))] [] ph1 := by
              intro n
              induction n using Nat.strongRecOn with
              | ind n ih =>
                intro k ph1 hk hf hr
                have tk := znt (k := k) (by omega)
                refine w_load (pc' := 48) (v := .int (zn k)) (m := 2) (ykc_131 (e := (2, .iload 5, 0)) rfl) rfl rfl ?_
                refine w_load (pc' := 49) (v := .ref 0) (m := 1) (ykc_131 (e := (2, .aload_n kF0, 0)) rfl) rfl rfl ?_
                refine w_gf (pc' := 52) (v := .ref 25) (ykc_131 (e := (5, .getfield 42, 0)) rfl) rfl ((hf.1 0 4 (by decide) (by decide)).trans (zsg hS zs_0_4)) rfl ?_
                refine w_gf (pc' := 55) (v := .int (zn P)) (ykc_131 (e := (5, .getfield 130, 0)) rfl) rfl ((hf.1 25 0 (by decide) (by decide)).trans gP) rfl ?_
                refine w_ige (ykc_131 (e := (4, .if_icmp .ge 47, 102)) rfl) rfl (fun b1149 => ?_) (fun b1149 => ?_)
                · have ek : P = k := by omega
                  subst ek
                  have hd9 := zSd_sh (u := zsh v P kd nn ff sp) hf hd (fun i hi => by rw [zsh_b hi]; exact hr i hi) (fun i hi => zsh_o hi)
                  refine w_load (pc' := 103) (v := .ref 0) (m := 1) (ykc_131 (e := (2, .aload_n kF0, 0)) rfl) rfl rfl ?_
                  refine w_gf (pc' := 106) (v := .ref 25) (ykc_131 (e := (5, .getfield 42, 0)) rfl) rfl ((hf.1 0 4 (by decide) (by decide)).trans (zsg hS zs_0_4)) rfl ?_
                  refine w_cv (as := [.ref 25]) (r := []) (ykc_131 (e := (6, .invokevirtual 224, 0)) rfl) rfl rfl rfl rfl (zc_brims (zSs_of (zSh_F hf (by decide +kernel) hS) (S := 25) (by decide)) hd9) (fun v1150 ph1151 hv => ?_)
                  obtain ⟨rfl, rfl⟩ := hv
                  show zW n D 131 Q 109 [some (.ref 0), some (.int kd), some (.int nn), some (.int ff), some (.int sp), some (.int (zn P))] [.int (zBs (zsh v P kd nn ff sp) P)] ph1
                  refine w_ret (v := (some (.int (zBs (zsh v P kd nn ff sp) P)))) (ykc_131 (e := (7, .ireturn, 0)) rfl) (zr_v rfl) ?_
                  have ea : zsa v P kd nn ff sp = zBs (zsh v P kd nn ff sp) P := by
                    unfold zsa
                    rw [if_neg (by omega), if_neg (by omega), if_neg (by omega)]
                  have er : zsr v P kd nn ff sp = zsh v P kd nn ff sp := if_neg (by omega)
                  rw [hQ]
                  refine ⟨by rw [ea], ?_⟩
                  rw [er]
                  exact zKC_sh hf hK hd9
                · refine w_load (pc' := 60) (v := .int (zn k)) (m := 2) (ykc_131 (e := (2, .iload 5, 0)) rfl) rfl rfl ?_
                  refine w_push (pc' := 62) (v := .int ((Int8.ofInt 8).toInt32)) (m := 2) (ykc_131 (e := (1, .bipush 8, 0)) rfl) rfl rfl ?_
                  refine w_ige (ykc_131 (e := (4, .if_icmp .ge 40, 102)) rfl) rfl (fun q => by exfalso; omega) (fun b1152 => ?_)
                  refine w_load (pc' := 66) (v := .ref 0) (m := 1) (ykc_131 (e := (2, .aload_n kF0, 0)) rfl) rfl rfl ?_
                  refine w_gf (pc' := 69) (v := .ref 25) (ykc_131 (e := (5, .getfield 42, 0)) rfl) rfl ((hf.1 0 4 (by decide) (by decide)).trans (zsg hS zs_0_4)) rfl ?_
                  refine w_gf (pc' := 72) (v := .ref 28) (ykc_131 (e := (5, .getfield 180, 0)) rfl) rfl ((hf.1 25 5 (by decide) (by decide)).trans (zsg hS zs_25_5)) rfl ?_
                  refine w_load (pc' := 74) (v := .int (zn k)) (m := 2) (ykc_131 (e := (2, .iload 5, 0)) rfl) rfl rfl ?_
                  refine w_load (pc' := 76) (v := .int (zn k)) (m := 2) (ykc_131 (e := (2, .iload 5, 0)) rfl) rfl rfl ?_
                  refine w_load (pc' := 77) (v := .int nn) (m := 1) (ykc_131 (e := (2, .iload_n kF2, 0)) rfl) rfl rfl ?_
                  refine w_ige (ykc_131 (e := (4, .if_icmp .ge 17, 94)) rfl) rfl (fun b1153 => ?_) (fun b1153 => ?_)
                  · refine w_alu (pc' := 95) (st' := [.int (Int32.ofInt 0), .int (zn k), .ref 28]) (ykc_131 (e := (0, .iconst 0, 0)) rfl) rfl rfl ?_
                    refine w_ias (pc' := 96) (k := k) (ykc_131 (e := (5, .iastore, 0)) rfl) (by omega) rfl (fun ph1155 u1154 => ?_)
                    have e1156 : (zn k) + Int32.ofInt 1 = zn (k + 1) := (zaddN (a := k) (b := 1) (znt (by omega)) c_5 (by omega))
                    have te1156 := znt (k := k + 1) (by omega)
                    refine w_store (pc' := 99) (L' := [some (.ref 0), some (.int kd), some (.int nn), some (.int ff), some (.int sp), some (.int (zn (k + 1)))]) (st' := []) (m := 3) (ykc_131 (e := (3, .iinc 5 1, 0)) rfl) (by rw [← e1156]; rfl) rfl ?_
                    refine w_gb (ykc_131 (e := (4, .goto (-53), 46)) rfl) (fun k1157 hk1157 => ?_)
                    exact ih k1157 hk1157 (k + 1) _ (by omega) (zFr_add hf u1154 (Or.inl (by simp))) (fun i hi => by
                      by_cases e : i = k
                      · subst e
                        rw [show zsv kd nn ff sp i = 0 from if_pos (Or.inr (by omega))]
                        exact u1154.1
                      · exact (u1154.2.1 28 i (fun q => e q.2)).trans (hr i (by omega)))
                  · refine w_load (pc' := 81) (v := .int kd) (m := 1) (ykc_131 (e := (2, .iload_n kF1, 0)) rfl) rfl rfl ?_
                    refine w_load (pc' := 82) (v := .int ff) (m := 1) (ykc_131 (e := (2, .iload_n kF3, 0)) rfl) rfl rfl ?_
                    refine w_load (pc' := 84) (v := .int (zn k)) (m := 2) (ykc_131 (e := (2, .iload 5, 0)) rfl) rfl rfl ?_
                    refine w_load (pc' := 86) (v := .int sp) (m := 2) (ykc_131 (e := (2, .iload 4, 0)) rfl) rfl rfl ?_
                    refine w_alu (pc' := 87) (st' := [.int ((zn k) * sp), .int ff, .int kd, .int (zn k), .ref 28]) (ykc_131 (e := (0, .imul, 0)) rfl) rfl rfl ?_
                    refine w_alu (pc' := 88) (st' := [.int (zsq ff sp k), .int kd, .int (zn k), .ref 28]) (ykc_131 (e := (0, .iadd, 0)) rfl) (by rw [← (zsq_eq k : ff + ((zn k) * sp) = zsq ff sp k)]; rfl) rfl ?_
                    refine w_cs (as := [.int kd, .int (zsq ff sp k)]) (r := [.int (zn k), .ref 28]) (ykc_131 (e := (6, .invokestatic 221, 0)) rfl) rfl rfl rfl rfl (zc_entry (kd := kd) (x := (zsq ff sp k))) (fun v1158 ph1159 hv => ?_)
                    obtain ⟨rfl, rfl⟩ := hv
                    show zW n D 131 Q 91 [some (.ref 0), some (.int kd), some (.int nn), some (.int ff), some (.int sp), some (.int (zn k))] [.int (zn (zq4 (zsck kd (zsq ff sp k)))), .int (zn k), .ref 28] ph1
                    refine w_br (pc' := 95) (st' := [.int (zn (zq4 (zsck kd (zsq ff sp k)))), .int (zn k), .ref 28]) (ykc_131 (e := (4, .goto 4, 95)) rfl) rfl ?_
                    refine w_ias (pc' := 96) (k := k) (ykc_131 (e := (5, .iastore, 0)) rfl) (by omega) rfl (fun ph1161 u1160 => ?_)
                    have e1162 : (zn k) + Int32.ofInt 1 = zn (k + 1) := (zaddN (a := k) (b := 1) (znt (by omega)) c_5 (by omega))
                    have te1162 := znt (k := k + 1) (by omega)
                    refine w_store (pc' := 99) (L' := [some (.ref 0), some (.int kd), some (.int nn), some (.int ff), some (.int sp), some (.int (zn (k + 1)))]) (st' := []) (m := 3) (ykc_131 (e := (3, .iinc 5 1, 0)) rfl) (by rw [← e1162]; rfl) rfl ?_
                    refine w_gb (ykc_131 (e := (4, .goto (-53), 46)) rfl) (fun k1163 hk1163 => ?_)
                    exact ih k1163 hk1163 (k + 1) _ (by omega) (zFr_add hf u1160 (Or.inl (by simp))) (fun i hi => by
                      by_cases e : i = k
                      · subst e
                        rw [show zsv kd nn ff sp i = zq4 (zsck kd (zsq ff sp i)) from if_neg (by omega)]
                        exact u1160.1
                      · exact (u1160.2.1 28 i (fun q => e q.2)).trans (hr i (by omega)))
            exact hl n 0 ph (Nat.zero_le _) zFr_refl (fun i hi => absurd hi (Nat.not_lt_zero i))
          · refine w_push (pc' := 42) (v := .int ((Int8.ofInt (-2)).toInt32)) (m := 2) (ykc_131 (e := (1, .bipush (-2), 0)) rfl) rfl rfl ?_
            refine w_ret (v := (some (.int ((Int8.ofInt (-2)).toInt32)))) (ykc_131 (e := (7, .ireturn, 0)) rfl) (zr_v rfl) ?_
            have ea : zsa v P kd nn ff sp = (Int8.ofInt (-2)).toInt32 := (by
              unfold zsa
              rw [if_neg (by omega), if_neg (by omega), if_pos (by omega)])
            have er : zsr v P kd nn ff sp = v := if_pos (Or.inr (by omega))
            rw [hQ]
            refine ⟨by rw [ea], ?_⟩
            rw [er]
            exact hK
        · refine w_load (pc' := 23) (v := .ref 0) (m := 1) (ykc_131 (e := (2, .aload_n kF0, 0)) rfl) rfl rfl ?_
          refine w_gf (pc' := 26) (v := .ref 25) (ykc_131 (e := (5, .getfield 42, 0)) rfl) rfl (zsg hS zs_0_4) rfl ?_
          refine w_gf (pc' := 29) (v := .ref 28) (ykc_131 (e := (5, .getfield 180, 0)) rfl) rfl (zsg hS zs_25_5) rfl ?_
          refine w_alu (pc' := 30) (st' := [.int (Int32.ofInt 0), .ref 28]) (ykc_131 (e := (0, .iconst 0, 0)) rfl) rfl rfl ?_
          refine w_cs (as := [.ref 28, .int (Int32.ofInt 0)]) (r := []) (ykc_131 (e := (6, .invokestatic 215, 0)) rfl) rfl rfl rfl rfl (zc_fill28 hS) (fun v1164 ph1165 hv => ?_)
          obtain ⟨rfl, ff9, fr9⟩ := hv
          show zW n D 131 Q 33 [some (.ref 0), some (.int kd), some (.int nn), some (.int ff), some (.int sp), none] [] ph1165
          refine w_push (pc' := 35) (v := .int ((Int8.ofInt (-3)).toInt32)) (m := 2) (ykc_131 (e := (1, .bipush (-3), 0)) rfl) rfl rfl ?_
          refine w_ret (v := (some (.int ((Int8.ofInt (-3)).toInt32)))) (ykc_131 (e := (7, .ireturn, 0)) rfl) (zr_v rfl) ?_
          have ea : zsa v P kd nn ff sp = (Int8.ofInt (-3)).toInt32 := by
            unfold zsa
            rw [if_neg (by omega), if_pos (by omega)]
          have er : zsr v P kd nn ff sp = zsh v P kd nn ff sp := if_neg (by omega)
          rw [hQ]
          refine ⟨by rw [ea], ?_⟩
          rw [er]
          exact zKC_sh ff9 hK (zSd_sh ff9 hd (fun i hi => by
            rw [zsh_b hi, show zsv kd nn ff sp i = 0 from if_pos (Or.inl (by omega))]
            exact fr9 i (by omega)) (fun i hi => zsh_o hi))
      · refine w_alu (pc' := 16) (st' := [.int (Int32.ofInt (-1))]) (ykc_131 (e := (0, .iconst (-1), 0)) rfl) rfl rfl ?_
        refine w_ret (v := (some (.int (Int32.ofInt (-1))))) (ykc_131 (e := (7, .ireturn, 0)) rfl) (zr_v rfl) ?_
        have ea : zsa v P kd nn ff sp = Int32.ofInt (-1) := if_pos (by omega)
        have er : zsr v P kd nn ff sp = v := if_pos (Or.inl (by omega))
        rw [hQ]
        refine ⟨by rw [ea], ?_⟩
        rw [er]
        exact hK
theorem zm_sheet {ph : pm_H} {R C P G u ch hn : Nat} {rk : Nat → Bool} {v : Nat → Nat} {w : Nat → Nat → Nat} {kp : Nat → Bool} {kc : Nat → Nat} {sv : Nat → Nat → Nat} (hS : zSh ph) (hK : zKM ph R C rk P G v u w ch kp kc sv hn) (hO0 : zOk R C P G v) {kd nn ff sp : Int32} : zM 237 [.ref 170, .int kd, .int nn, .int ff, .int sp] ph (fun v0 q => v0 = some (.int (zsa v P kd nn ff sp)) ∧ zKM q R C rk P G (zsr v P kd nn ff sp) u w ch kp kc sv hn) := by
  obtain ⟨Q, hQ⟩ : ∃ Q : Option Value → pm_H → Prop, Q = (fun v0 q => v0 = some (.int (zsa v P kd nn ff sp)) ∧ zKM q R C rk P G (zsr v P kd nn ff sp) u w ch kp kc sv hn) := ⟨_, rfl⟩
  rw [← hQ]
  refine zM_mk fun n D => ?_
  show zW n D 237 Q 0 [some (.ref 170), some (.int kd), some (.int nn), some (.int ff), some (.int sp), none, none, none, none] [] ph
  have c_0 : ((Int8.ofInt (-2)).toInt32).toInt = -2 := by decide
  have c_1 : ((Int8.ofInt (-3)).toInt32).toInt = -3 := by decide
  have c_2 : ((Int8.ofInt 16).toInt32).toInt = 16 := by decide
  have c_3 : ((Int8.ofInt 8).toInt32).toInt = 8 := by decide
  have c_4 : (Int32.ofInt (-1)).toInt = -1 := by decide
  have c_5 : (Int32.ofInt 0).toInt = 0 := by decide
  have c_6 : (Int32.ofInt 1).toInt = 1 := by decide
  have c_7 : (Int32.ofInt 3).toInt = 3 := by decide
  have c_8 : (Int32.ofInt 4).toInt = 4 := by decide
  obtain ⟨hL, hN, hv, hU, hk, hh⟩ := hK
  have hL0 := hL
  have hN0 := hN
  have hu15 := hU.2.1
  obtain ⟨gR, gC, gK, hR3, hR7, hC3, hC7⟩ := hL
  have hRC := zRC49 hR7 hC7
  have tR := znt (k := R) (by omega)
  have tC := znt (k := C) (by omega)
  obtain ⟨gP, hP8, gG, hG8⟩ := hN
  have tP := znt (k := P) (by omega)
  have tG := znt (k := G) (by omega)
  have tu := znt (k := u) (by omega)
  have hn10 := hh.2
  have thn := znt (k := hn) (by omega)
  refine w_load (pc' := 1) (v := .ref 170) (m := 1) (ykc_237 (e := (2, .aload_n kF0, 0)) rfl) rfl rfl ?_
  refine w_alu (pc' := 2) (st' := [.int (Int32.ofInt 0), .ref 170]) (ykc_237 (e := (0, .iconst 0, 0)) rfl) rfl rfl ?_
  refine w_pf (pc' := 5) (ykc_237 (e := (5, .putfield 3, 0)) rfl) rfl rfl (fun ph1167 u1166 => ?_)
  refine w_load (pc' := 6) (v := .int kd) (m := 1) (ykc_237 (e := (2, .iload_n kF1, 0)) rfl) rfl rfl ?_
  refine w_alu (pc' := 7) (st' := [.long kd.toInt64]) (ykc_237 (e := (0, .i2l, 0)) rfl) rfl rfl ?_
  refine w_alu (pc' := 8) (st' := [.long (Int64.ofNat kG0), .long kd.toInt64]) (ykc_237 (e := (0, .lconst kG0, 0)) rfl) rfl rfl ?_
  refine w_push (pc' := 11) (v := .long (3 : Int64)) (m := 3) (ykc_237 (e := (1, .ldc2_w 339, 0)) rfl) rfl rfl ?_
  refine w_cs (as := [.long kd.toInt64, .long (Int64.ofNat kG0), .long (3 : Int64)]) (r := []) (ykc_237 (e := (6, .invokestatic 126, 0)) rfl) rfl rfl rfl rfl (zm_in (x := kd.toInt) (y := (0 : Int)) (z := (3 : Int)) (by first | exact ztl | (rw [ztl]; omega) | decide | omega) (by first | exact ztl | (rw [ztl]; omega) | decide | omega) (by first | exact ztl | (rw [ztl]; omega) | decide | omega)) (fun v1168 ph1169 hv => ?_)
  obtain ⟨rfl, rfl⟩ := hv
  show zW n D 237 Q 14 [some (.ref 170), some (.int kd), some (.int nn), some (.int ff), some (.int sp), none, none, none, none] [.int (zI (decide ((0 : Int) ≤ kd.toInt ∧ kd.toInt ≤ (3 : Int))))] ph1167
  refine w_beq (ykc_237 (e := (4, .ifCond .eq 9, 23)) rfl) rfl (fun b1170 => ?_) (fun b1170 => ?_)
  · refine w_alu (pc' := 24) (st' := [.int (Int32.ofInt (-1))]) (ykc_237 (e := (0, .iconst (-1), 0)) rfl) rfl rfl ?_
    refine w_ret (v := (some (.int (Int32.ofInt (-1))))) (ykc_237 (e := (7, .ireturn, 0)) rfl) (zr_v rfl) ?_
    have f2 : zFr [] [(170, 0)] ph _ := zFr_st u1166 (Or.inr (by simp))
    have d9 := of_decide_eq_false b1170
    have ea : zsa v P kd nn ff sp = Int32.ofInt (-1) := if_pos (by omega)
    have er : zsr v P kd nn ff sp = v := if_pos (Or.inl (by omega))
    rw [hQ]
    refine ⟨by rw [ea], ?_⟩
    rw [er]
    exact ⟨zMl_F f2 (by simp) (by simp) (by simp) (by simp) hL0, zMp_F f2 (by simp) (by simp) (by simp) hN0, zNr_F f2 (by simp) (by simp) hv, zMu_F f2 (by simp) (by simp) (by simp) hU, zMk_F f2 (by simp) (by simp) (by simp) hk, zMh_F f2 (by simp) (by simp) hh⟩
  · refine w_load (pc' := 18) (v := .int nn) (m := 1) (ykc_237 (e := (2, .iload_n kF2, 0)) rfl) rfl rfl ?_
    refine w_push (pc' := 20) (v := .int ((Int8.ofInt 8).toInt32)) (m := 2) (ykc_237 (e := (1, .bipush 8, 0)) rfl) rfl rfl ?_
    refine w_ile (ykc_237 (e := (4, .if_icmp .le 5, 25)) rfl) rfl (fun b1171 => ?_) (fun b1171 => ?_)
    · refine w_load (pc' := 26) (v := .int kd) (m := 1) (ykc_237 (e := (2, .iload_n kF1, 0)) rfl) rfl rfl ?_
      refine w_alu (pc' := 27) (st' := [.int (Int32.ofInt 3), .int kd]) (ykc_237 (e := (0, .iconst 3, 0)) rfl) rfl rfl ?_
      refine w_ieq (ykc_237 (e := (4, .if_icmp .eq 10, 37)) rfl) rfl (fun b1172 => ?_) (fun b1172 => ?_)
      · refine w_alu (pc' := 38) (st' := [.int (Int32.ofInt 0)]) (ykc_237 (e := (0, .iconst 0, 0)) rfl) rfl rfl ?_
        refine w_store (pc' := 40) (L' := [some (.ref 170), some (.int kd), some (.int nn), some (.int ff), some (.int sp), some (.int (Int32.ofInt 0)), none, none, none]) (st' := []) (m := 2) (ykc_237 (e := (3, .istore 5, 0)) rfl) rfl rfl ?_
        refine w_load (pc' := 41) (v := .int ff) (m := 1) (ykc_237 (e := (2, .iload_n kF3, 0)) rfl) rfl rfl ?_
        refine w_store (pc' := 43) (L' := [some (.ref 170), some (.int kd), some (.int nn), some (.int ff), some (.int sp), some (.int (Int32.ofInt 0)), some (.int ff), none, none]) (st' := []) (m := 2) (ykc_237 (e := (3, .istore 6, 0)) rfl) rfl rfl ?_
        refine w_alu (pc' := 44) (st' := [.int (Int32.ofInt 0)]) (ykc_237 (e := (0, .iconst 0, 0)) rfl) rfl rfl ?_
        refine w_store (pc' := 46) (L' := [some (.ref 170), some (.int kd), some (.int nn), some (.int ff), some (.int sp), some (.int (Int32.ofInt 0)), some (.int ff), some (.int (Int32.ofInt 0)), none]) (st' := []) (m := 2) (ykc_237 (e := (3, .istore 7, 0)) rfl) rfl rfl ?_
        have d9 := of_decide_eq_true b1170
        have f1 : zFr [] [(170, 0)] ph ph1167 := zFr_st u1166 (Or.inr (by simp))
        have hS1 := zSh_F f1 (by decide +kernel) hS
        have hgo : ¬ ((kd.toInt < 0 ∨ 3 < kd.toInt ∨ 8 < nn.toInt) ∨ (kd.toInt ≠ 3 ∧ nn.toInt < 0)) := by omega
        have hkd : 0 ≤ kd.toInt ∧ kd.toInt ≤ 3 ∧ nn.toInt ≤ 8 ∧ (kd.toInt = 3 ∨ 0 ≤ nn.toInt) := by omega
        have hl : ∀ (n : Nat), ∀ (k : Nat) (x8 : Option Value) (ph9 : pm_H), (k ≤ P) → (zFr [174] [] ph1167 ph9) → (∀ i, i < k → zc ph9 174 (16 + i) = some (.int (zn (zsv kd nn ff sp i)))) → (∀ j, ¬ (16 ≤ j ∧ j < 16 + k) → zc ph9 174 j = zc ph1167 174 j) → zW n D 237 Q 46 [some (.ref 170), some (.int kd), some (.int nn), some (.int ff), some (.int sp), some (.int (zBs (zsh v P kd nn ff sp) k)), some (.int (zsq ff sp k)), some (.int (zn k)), x8] [] ph9 := by
          intro n
          induction n using Nat.strongRecOn with
          | ind n ih =>
            intro k x8 ph9 hk9 hf hr ho
            have tk := znt (k := k) (by omega)
            refine w_load (pc' := 48) (v := .int (zn k)) (m := 2) (ykc_237 (e := (2, .iload 7, 0)) rfl) rfl rfl ?_
            refine w_load (pc' := 49) (v := .ref 170) (m := 1) (ykc_237 (e := (2, .aload_n kF0, 0)) rfl) rfl rfl ?_
            refine w_gf (pc' := 52) (v := .int (zn P)) (ykc_237 (e := (5, .getfield 130, 0)) rfl) rfl ((hf.1 170 5 (by decide) (by decide)).trans ((f1.1 170 5 (by decide) (by simp)).trans hN0.1)) rfl ?_
            refine w_ige (ykc_237 (e := (4, .if_icmp .ge 91, 143)) rfl) rfl (fun b1173 => ?_) (fun b1173 => ?_)
            · refine w_load (pc' := 144) (v := .int kd) (m := 1) (ykc_237 (e := (2, .iload_n kF1, 0)) rfl) rfl rfl ?_
              refine w_alu (pc' := 145) (st' := [.int (Int32.ofInt 3), .int kd]) (ykc_237 (e := (0, .iconst 3, 0)) rfl) rfl rfl ?_
              refine w_ine (ykc_237 (e := (4, .if_icmp .ne 8, 153)) rfl) rfl (fun b1174 => ?_) (fun b1174 => ?_)
              · refine w_load (pc' := 155) (v := .int (zBs (zsh v P kd nn ff sp) k)) (m := 2) (ykc_237 (e := (2, .iload 5, 0)) rfl) rfl rfl ?_
                refine w_ret (v := (some (.int (zBs (zsh v P kd nn ff sp) k)))) (ykc_237 (e := (7, .ireturn, 0)) rfl) (zr_v rfl) ?_
                have ek : P = k := by omega
                subst ek
                have f2 : zFr [174] [(170, 0)] ph ph9 := zFr_trans (zFr_mono f1 (by simp) (by simp)) (zFr_mono hf (by simp) (by simp))
                have ea : zsa v P kd nn ff sp = zBs (zsh v P kd nn ff sp) P := by
                  unfold zsa
                  rw [if_neg (by omega), if_neg (by omega), if_neg (by omega)]
                have er : zsr v P kd nn ff sp = zsh v P kd nn ff sp := if_neg hgo
                rw [hQ]
                refine ⟨by rw [ea], ?_⟩
                rw [er]
                exact ⟨zMl_F f2 (by simp) (by simp) (by simp) (by simp) hL0, zMp_F f2 (by simp) (by simp) (by simp) hN0, fun i hi => by
                  rw [Nat.zero_add]
                  by_cases e : 16 ≤ i ∧ i < 16 + P
                  · have h := hr (i - 16) (by omega)
                    rw [show 16 + (i - 16) = i by omega] at h
                    rw [show zsh v P kd nn ff sp i = zsv kd nn ff sp (i - 16) from if_pos e]
                    exact h
                  · rw [zsh_o e]
                    exact (ho i e).trans ((f1.1 174 i (by simp) (by simp)).trans (zNr0 hv hi)), zMu_F f2 (by simp) (by simp) (by simp) hU, zMk_F f2 (by simp) (by simp) (by simp) hk, zMh_F f2 (by simp) (by simp) hh⟩
              · refine w_push (pc' := 150) (v := .int ((Int8.ofInt (-3)).toInt32)) (m := 2) (ykc_237 (e := (1, .bipush (-3), 0)) rfl) rfl rfl ?_
                refine w_br (pc' := 155) (st' := [.int ((Int8.ofInt (-3)).toInt32)]) (ykc_237 (e := (4, .goto 5, 155)) rfl) rfl ?_
                refine w_ret (v := (some (.int ((Int8.ofInt (-3)).toInt32)))) (ykc_237 (e := (7, .ireturn, 0)) rfl) (zr_v rfl) ?_
                have ek : P = k := by omega
                subst ek
                have f2 : zFr [174] [(170, 0)] ph ph9 := zFr_trans (zFr_mono f1 (by simp) (by simp)) (zFr_mono hf (by simp) (by simp))
                have ea : zsa v P kd nn ff sp = (Int8.ofInt (-3)).toInt32 := by
                  unfold zsa
                  rw [if_neg (by omega), if_pos (by omega)]
                have er : zsr v P kd nn ff sp = zsh v P kd nn ff sp := if_neg hgo
                rw [hQ]
                refine ⟨by rw [ea], ?_⟩
                rw [er]
                exact ⟨zMl_F f2 (by simp) (by simp) (by simp) (by simp) hL0, zMp_F f2 (by simp) (by simp) (by simp) hN0, fun i hi => by
                  rw [Nat.zero_add]
                  by_cases e : 16 ≤ i ∧ i < 16 + P
                  · have h := hr (i - 16) (by omega)
                    rw [show 16 + (i - 16) = i by omega] at h
                    rw [show zsh v P kd nn ff sp i = zsv kd nn ff sp (i - 16) from if_pos e]
                    exact h
                  · rw [zsh_o e]
                    exact (ho i e).trans ((f1.1 174 i (by simp) (by simp)).trans (zNr0 hv hi)), zMu_F f2 (by simp) (by simp) (by simp) hU, zMk_F f2 (by simp) (by simp) (by simp) hk, zMh_F f2 (by simp) (by simp) hh⟩
            · refine w_load (pc' := 56) (v := .int kd) (m := 1) (ykc_237 (e := (2, .iload_n kF1, 0)) rfl) rfl rfl ?_
              refine w_zne (ykc_237 (e := (4, .ifCond .ne 9, 65)) rfl) rfl (fun b1175 => ?_) (fun b1175 => ?_)
              · refine w_load (pc' := 66) (v := .int kd) (m := 1) (ykc_237 (e := (2, .iload_n kF1, 0)) rfl) rfl rfl ?_
                refine w_alu (pc' := 67) (st' := [.int (Int32.ofInt 1), .int kd]) (ykc_237 (e := (0, .iconst 1, 0)) rfl) rfl rfl ?_
                refine w_ine (ykc_237 (e := (4, .if_icmp .ne 9, 76)) rfl) rfl (fun b1176 => ?_) (fun b1176 => ?_)
                · refine w_load (pc' := 78) (v := .int (zsq ff sp k)) (m := 2) (ykc_237 (e := (2, .iload 6, 0)) rfl) rfl rfl ?_
                  refine w_store (pc' := 80) (L' := [some (.ref 170), some (.int kd), some (.int nn), some (.int ff), some (.int sp), some (.int (zBs (zsh v P kd nn ff sp) k)), some (.int (zsq ff sp k)), some (.int (zn k)), some (.int (zsq ff sp k))]) (st' := []) (m := 2) (ykc_237 (e := (3, .istore 8, 0)) rfl) rfl rfl ?_
                  have e9 : zsck kd (zsq ff sp k) = zsq ff sp k := (by
                    unfold zsck
                    rw [if_neg (by omega), if_neg (by omega)])
                  refine w_load (pc' := 81) (v := .ref 170) (m := 1) (ykc_237 (e := (2, .aload_n kF0, 0)) rfl) rfl rfl ?_
                  refine w_gf (pc' := 84) (v := .ref 174) (ykc_237 (e := (5, .getfield 41, 0)) rfl) rfl ((hf.1 170 11 (by decide) (by decide)).trans (zsg hS1 zs_170_11)) rfl ?_
                  refine w_push (pc' := 86) (v := .int ((Int8.ofInt 16).toInt32)) (m := 2) (ykc_237 (e := (1, .bipush 16, 0)) rfl) rfl rfl ?_
                  refine w_load (pc' := 88) (v := .int (zn k)) (m := 2) (ykc_237 (e := (2, .iload 7, 0)) rfl) rfl rfl ?_
                  have e1177 : ((Int8.ofInt 16).toInt32) + (zn k) = zn (16 + k) := (zaddN (a := 16) (b := k) c_2 (znt (by omega)) (by omega)) 
                  have te1177 := znt (k := 16 + k) (by omega)
                  refine w_alu (pc' := 89) (st' := [.int (zn (16 + k)), .ref 174]) (ykc_237 (e := (0, .iadd, 0)) rfl) (by rw [← e1177]; rfl) rfl ?_
                  refine w_load (pc' := 90) (v := .int kd) (m := 1) (ykc_237 (e := (2, .iload_n kF1, 0)) rfl) rfl rfl ?_
                  refine w_alu (pc' := 91) (st' := [.int (Int32.ofInt 3), .int kd, .int (zn (16 + k)), .ref 174]) (ykc_237 (e := (0, .iconst 3, 0)) rfl) rfl rfl ?_
                  refine w_ieq (ykc_237 (e := (4, .if_icmp .eq 9, 100)) rfl) rfl (fun b1178 => ?_) (fun b1178 => ?_)
                  · refine w_alu (pc' := 101) (st' := [.int (Int32.ofInt 0), .int (zn (16 + k)), .ref 174]) (ykc_237 (e := (0, .iconst 0, 0)) rfl) rfl rfl ?_
                    refine w_br (pc' := 114) (st' := [.int (Int32.ofInt 0), .int (zn (16 + k)), .ref 174]) (ykc_237 (e := (4, .goto 13, 114)) rfl) rfl ?_
                    have ev : zsv kd nn ff sp k = 0 := if_pos (by omega)
                    have ez : Int32.ofInt 0 = zn (zsv kd nn ff sp k) := by
                      rw [ev]
                      rfl
                    rw [ez]
                    show zW n D 237 Q 114 [some (.ref 170), some (.int kd), some (.int nn), some (.int ff), some (.int sp), some (.int (zBs (zsh v P kd nn ff sp) k)), some (.int (zsq ff sp k)), some (.int (zn k)), some (.int (zsq ff sp k))] [.int (zn (zsv kd nn ff sp k)), .int (zn (16 + k)), .ref 174] ph9
                    refine w_ias (pc' := 115) (k := 16 + k) (ykc_237 (e := (5, .iastore, 0)) rfl) (by omega) rfl (fun ph1180 u1179 => ?_)
                    refine w_load (pc' := 117) (v := .int (zBs (zsh v P kd nn ff sp) k)) (m := 2) (ykc_237 (e := (2, .iload 5, 0)) rfl) rfl rfl ?_
                    refine w_load (pc' := 118) (v := .ref 170) (m := 1) (ykc_237 (e := (2, .aload_n kF0, 0)) rfl) rfl rfl ?_
                    refine w_gf (pc' := 121) (v := .ref 174) (ykc_237 (e := (5, .getfield 41, 0)) rfl) rfl ((u1179.2.1 170 11 (fun q => absurd q.1 (by decide))).trans ((hf.1 170 11 (by decide) (by decide)).trans (zsg hS1 zs_170_11))) rfl ?_
                    refine w_push (pc' := 123) (v := .int ((Int8.ofInt 16).toInt32)) (m := 2) (ykc_237 (e := (1, .bipush 16, 0)) rfl) rfl rfl ?_
                    refine w_load (pc' := 125) (v := .int (zn k)) (m := 2) (ykc_237 (e := (2, .iload 7, 0)) rfl) rfl rfl ?_
                    have e1181 : ((Int8.ofInt 16).toInt32) + (zn k) = zn (16 + k) := (zaddN (a := 16) (b := k) c_2 (znt (by omega)) (by omega)) 
                    have te1181 := znt (k := 16 + k) (by omega)
                    refine w_alu (pc' := 126) (st' := [.int (zn (16 + k)), .ref 174, .int (zBs (zsh v P kd nn ff sp) k)]) (ykc_237 (e := (0, .iadd, 0)) rfl) (by rw [← e1181]; rfl) rfl ?_
                    refine w_ialk (pc' := 127) (k := 16 + k) (ykc_237 (e := (5, .iaload, 0)) rfl) u1179.1 (by omega) rfl ?_
                    refine w_alu (pc' := 128) (st' := [.int ((zBs (zsh v P kd nn ff sp) k) + (zn (zsv kd nn ff sp k)))]) (ykc_237 (e := (0, .iadd, 0)) rfl) rfl rfl ?_
                    refine w_store (pc' := 130) (L' := [some (.ref 170), some (.int kd), some (.int nn), some (.int ff), some (.int sp), some (.int ((zBs (zsh v P kd nn ff sp) k) + (zn (zsv kd nn ff sp k)))), some (.int (zsq ff sp k)), some (.int (zn k)), some (.int (zsq ff sp k))]) (st' := []) (m := 2) (ykc_237 (e := (3, .istore 5, 0)) rfl) rfl rfl ?_
                    refine w_load (pc' := 132) (v := .int (zsq ff sp k)) (m := 2) (ykc_237 (e := (2, .iload 6, 0)) rfl) rfl rfl ?_
                    refine w_load (pc' := 134) (v := .int sp) (m := 2) (ykc_237 (e := (2, .iload 4, 0)) rfl) rfl rfl ?_
                    refine w_alu (pc' := 135) (st' := [.int ((zsq ff sp k) + sp)]) (ykc_237 (e := (0, .iadd, 0)) rfl) rfl rfl ?_
                    refine w_store (pc' := 137) (L' := [some (.ref 170), some (.int kd), some (.int nn), some (.int ff), some (.int sp), some (.int ((zBs (zsh v P kd nn ff sp) k) + (zn (zsv kd nn ff sp k)))), some (.int ((zsq ff sp k) + sp)), some (.int (zn k)), some (.int (zsq ff sp k))]) (st' := []) (m := 2) (ykc_237 (e := (3, .istore 6, 0)) rfl) rfl rfl ?_
                    have e1182 : (zn k) + Int32.ofInt 1 = zn (k + 1) := (zaddN (a := k) (b := 1) (znt (by omega)) c_6 (by omega))
                    have te1182 := znt (k := k + 1) (by omega)
                    refine w_store (pc' := 140) (L' := [some (.ref 170), some (.int kd), some (.int nn), some (.int ff), some (.int sp), some (.int ((zBs (zsh v P kd nn ff sp) k) + (zn (zsv kd nn ff sp k)))), some (.int ((zsq ff sp k) + sp)), some (.int (zn (k + 1))), some (.int (zsq ff sp k))]) (st' := []) (m := 3) (ykc_237 (e := (3, .iinc 7 1, 0)) rfl) (by rw [← e1182]; rfl) rfl ?_
                    refine w_gb (ykc_237 (e := (4, .goto (-94), 46)) rfl) (fun k1183 hk1183 => ?_)
                    have h9 := ih k1183 hk1183 (k + 1) (some (.int (zsq ff sp k))) _ (by omega) (zFr_add hf u1179 (Or.inl (by simp))) (fun i hi => by
                      by_cases e : i = k
                      · subst e
                        exact u1179.1
                      · exact (u1179.2.1 174 (16 + i) (fun q => e (by have q2 := q.2; omega))).trans (hr i (by omega))) (fun j hj => (u1179.2.1 174 j (fun q => by have q2 := q.2; omega)).trans (ho j (by omega)))
                    rw [show zBs (zsh v P kd nn ff sp) (k + 1) = zBs (zsh v P kd nn ff sp) k + zn (zsv kd nn ff sp k) by
                      show _ + zn (zsh v P kd nn ff sp (16 + k)) = _
                      rw [zsh_b (by omega)]] at h9
                    exact h9
                  · refine w_load (pc' := 96) (v := .int (zn k)) (m := 2) (ykc_237 (e := (2, .iload 7, 0)) rfl) rfl rfl ?_
                    refine w_load (pc' := 97) (v := .int nn) (m := 1) (ykc_237 (e := (2, .iload_n kF2, 0)) rfl) rfl rfl ?_
                    refine w_ilt (ykc_237 (e := (4, .if_icmp .lt 7, 104)) rfl) rfl (fun b1184 => ?_) (fun b1184 => ?_)
                    · refine w_alu (pc' := 105) (st' := [.int (Int32.ofInt 0), .int (zn (16 + k)), .ref 174]) (ykc_237 (e := (0, .iconst 0, 0)) rfl) rfl rfl ?_
                      refine w_alu (pc' := 106) (st' := [.int (Int32.ofInt 4), .int (Int32.ofInt 0), .int (zn (16 + k)), .ref 174]) (ykc_237 (e := (0, .iconst 4, 0)) rfl) rfl rfl ?_
                      refine w_load (pc' := 108) (v := .int (zsq ff sp k)) (m := 2) (ykc_237 (e := (2, .iload 8, 0)) rfl) rfl rfl ?_
                      obtain ⟨z1185, e_z1185⟩ : ∃ zq : Int32, (if (zsq ff sp k) < (Int32.ofInt 4) then (zsq ff sp k) else (Int32.ofInt 4)) = zq := ⟨_, rfl⟩
                      have h_z1185 := zminI e_z1185
                      refine w_mem1 (pc' := 111) (m := 3) (st' := [.int z1185, .int (Int32.ofInt 0), .int (zn (16 + k)), .ref 174]) (ph' := ph9) (ykc_237 (e := (5, .invokestatic 145, 0)) rfl) (by rw [← e_z1185]; rfl) rfl ?_
                      obtain ⟨z1186, e_z1186⟩ : ∃ zq : Int32, (if (Int32.ofInt 0) < z1185 then z1185 else (Int32.ofInt 0)) = zq := ⟨_, rfl⟩
                      have h_z1186 := zmaxI e_z1186
                      refine w_mem1 (pc' := 114) (m := 3) (st' := [.int z1186, .int (zn (16 + k)), .ref 174]) (ph' := ph9) (ykc_237 (e := (5, .invokestatic 273, 0)) rfl) (by rw [← e_z1186]; rfl) rfl ?_
                      have ev : zsv kd nn ff sp k = zq4 (zsck kd (zsq ff sp k)) := if_neg (by omega)
                      have ez : z1186 = zn (zsv kd nn ff sp k) := zn_of (by rw [ev, e9]; unfold zq4; omega)
                      rw [ez]
                      show zW n D 237 Q 114 [some (.ref 170), some (.int kd), some (.int nn), some (.int ff), some (.int sp), some (.int (zBs (zsh v P kd nn ff sp) k)), some (.int (zsq ff sp k)), some (.int (zn k)), some (.int (zsq ff sp k))] [.int (zn (zsv kd nn ff sp k)), .int (zn (16 + k)), .ref 174] ph9
                      refine w_ias (pc' := 115) (k := 16 + k) (ykc_237 (e := (5, .iastore, 0)) rfl) (by omega) rfl (fun ph1188 u1187 => ?_)
                      refine w_load (pc' := 117) (v := .int (zBs (zsh v P kd nn ff sp) k)) (m := 2) (ykc_237 (e := (2, .iload 5, 0)) rfl) rfl rfl ?_
                      refine w_load (pc' := 118) (v := .ref 170) (m := 1) (ykc_237 (e := (2, .aload_n kF0, 0)) rfl) rfl rfl ?_
                      refine w_gf (pc' := 121) (v := .ref 174) (ykc_237 (e := (5, .getfield 41, 0)) rfl) rfl ((u1187.2.1 170 11 (fun q => absurd q.1 (by decide))).trans ((hf.1 170 11 (by decide) (by decide)).trans (zsg hS1 zs_170_11))) rfl ?_
                      refine w_push (pc' := 123) (v := .int ((Int8.ofInt 16).toInt32)) (m := 2) (ykc_237 (e := (1, .bipush 16, 0)) rfl) rfl rfl ?_
                      refine w_load (pc' := 125) (v := .int (zn k)) (m := 2) (ykc_237 (e := (2, .iload 7, 0)) rfl) rfl rfl ?_
                      have e1189 : ((Int8.ofInt 16).toInt32) + (zn k) = zn (16 + k) := (zaddN (a := 16) (b := k) c_2 (znt (by omega)) (by omega)) 
                      have te1189 := znt (k := 16 + k) (by omega)
                      refine w_alu (pc' := 126) (st' := [.int (zn (16 + k)), .ref 174, .int (zBs (zsh v P kd nn ff sp) k)]) (ykc_237 (e := (0, .iadd, 0)) rfl) (by rw [← e1189]; rfl) rfl ?_
                      refine w_ialk (pc' := 127) (k := 16 + k) (ykc_237 (e := (5, .iaload, 0)) rfl) u1187.1 (by omega) rfl ?_
                      refine w_alu (pc' := 128) (st' := [.int ((zBs (zsh v P kd nn ff sp) k) + (zn (zsv kd nn ff sp k)))]) (ykc_237 (e := (0, .iadd, 0)) rfl) rfl rfl ?_
                      refine w_store (pc' := 130) (L' := [some (.ref 170), some (.int kd), some (.int nn), some (.int ff), some (.int sp), some (.int ((zBs (zsh v P kd nn ff sp) k) + (zn (zsv kd nn ff sp k)))), some (.int (zsq ff sp k)), some (.int (zn k)), some (.int (zsq ff sp k))]) (st' := []) (m := 2) (ykc_237 (e := (3, .istore 5, 0)) rfl) rfl rfl ?_
                      refine w_load (pc' := 132) (v := .int (zsq ff sp k)) (m := 2) (ykc_237 (e := (2, .iload 6, 0)) rfl) rfl rfl ?_
                      refine w_load (pc' := 134) (v := .int sp) (m := 2) (ykc_237 (e := (2, .iload 4, 0)) rfl) rfl rfl ?_
                      refine w_alu (pc' := 135) (st' := [.int ((zsq ff sp k) + sp)]) (ykc_237 (e := (0, .iadd, 0)) rfl) rfl rfl ?_
                      refine w_store (pc' := 137) (L' := [some (.ref 170), some (.int kd), some (.int nn), some (.int ff), some (.int sp), some (.int ((zBs (zsh v P kd nn ff sp) k) + (zn (zsv kd nn ff sp k)))), some (.int ((zsq ff sp k) + sp)), some (.int (zn k)), some (.int (zsq ff sp k))]) (st' := []) (m := 2) (ykc_237 (e := (3, .istore 6, 0)) rfl) rfl rfl ?_
                      have e1190 : (zn k) + Int32.ofInt 1 = zn (k + 1) := (zaddN (a := k) (b := 1) (znt (by omega)) c_6 (by omega))
                      have te1190 := znt (k := k + 1) (by omega)
                      refine w_store (pc' := 140) (L' := [some (.ref 170), some (.int kd), some (.int nn), some (.int ff), some (.int sp), some (.int ((zBs (zsh v P kd nn ff sp) k) + (zn (zsv kd nn ff sp k)))), some (.int ((zsq ff sp k) + sp)), some (.int (zn (k + 1))), some (.int (zsq ff sp k))]) (st' := []) (m := 3) (ykc_237 (e := (3, .iinc 7 1, 0)) rfl) (by rw [← e1190]; rfl) rfl ?_
                      refine w_gb (ykc_237 (e := (4, .goto (-94), 46)) rfl) (fun k1191 hk1191 => ?_)
                      have h9 := ih k1191 hk1191 (k + 1) (some (.int (zsq ff sp k))) _ (by omega) (zFr_add hf u1187 (Or.inl (by simp))) (fun i hi => by
                        by_cases e : i = k
                        · subst e
                          exact u1187.1
                        · exact (u1187.2.1 174 (16 + i) (fun q => e (by have q2 := q.2; omega))).trans (hr i (by omega))) (fun j hj => (u1187.2.1 174 j (fun q => by have q2 := q.2; omega)).trans (ho j (by omega)))
                      rw [show zBs (zsh v P kd nn ff sp) (k + 1) = zBs (zsh v P kd nn ff sp) k + zn (zsv kd nn ff sp k) by
                        show _ + zn (zsh v P kd nn ff sp (16 + k)) = _
                        rw [zsh_b (by omega)]] at h9
                      exact h9
                    · refine w_alu (pc' := 101) (st' := [.int (Int32.ofInt 0), .int (zn (16 + k)), .ref 174]) (ykc_237 (e := (0, .iconst 0, 0)) rfl) rfl rfl ?_
                      refine w_br (pc' := 114) (st' := [.int (Int32.ofInt 0), .int (zn (16 + k)), .ref 174]) (ykc_237 (e := (4, .goto 13, 114)) rfl) rfl ?_
                      have ev : zsv kd nn ff sp k = 0 := if_pos (by omega)
                      have ez : Int32.ofInt 0 = zn (zsv kd nn ff sp k) := by
                        rw [ev]
                        rfl
                      rw [ez]
                      show zW n D 237 Q 114 [some (.ref 170), some (.int kd), some (.int nn), some (.int ff), some (.int sp), some (.int (zBs (zsh v P kd nn ff sp) k)), some (.int (zsq ff sp k)), some (.int (zn k)), some (.int (zsq ff sp k))] [.int (zn (zsv kd nn ff sp k)), .int (zn (16 + k)), .ref 174] ph9
                      refine w_ias (pc' := 115) (k := 16 + k) (ykc_237 (e := (5, .iastore, 0)) rfl) (by omega) rfl (fun ph1193 u1192 => ?_)
                      refine w_load (pc' := 117) (v := .int (zBs (zsh v P kd nn ff sp) k)) (m := 2) (ykc_237 (e := (2, .iload 5, 0)) rfl) rfl rfl ?_
                      refine w_load (pc' := 118) (v := .ref 170) (m := 1) (ykc_237 (e := (2, .aload_n kF0, 0)) rfl) rfl rfl ?_
                      refine w_gf (pc' := 121) (v := .ref 174) (ykc_237 (e := (5, .getfield 41, 0)) rfl) rfl ((u1192.2.1 170 11 (fun q => absurd q.1 (by decide))).trans ((hf.1 170 11 (by decide) (by decide)).trans (zsg hS1 zs_170_11))) rfl ?_
                      refine w_push (pc' := 123) (v := .int ((Int8.ofInt 16).toInt32)) (m := 2) (ykc_237 (e := (1, .bipush 16, 0)) rfl) rfl rfl ?_
                      refine w_load (pc' := 125) (v := .int (zn k)) (m := 2) (ykc_237 (e := (2, .iload 7, 0)) rfl) rfl rfl ?_
                      have e1194 : ((Int8.ofInt 16).toInt32) + (zn k) = zn (16 + k) := (zaddN (a := 16) (b := k) c_2 (znt (by omega)) (by omega)) 
                      have te1194 := znt (k := 16 + k) (by omega)
                      refine w_alu (pc' := 126) (st' := [.int (zn (16 + k)), .ref 174, .int (zBs (zsh v P kd nn ff sp) k)]) (ykc_237 (e := (0, .iadd, 0)) rfl) (by rw [← e1194]; rfl) rfl ?_
                      refine w_ialk (pc' := 127) (k := 16 + k) (ykc_237 (e := (5, .iaload, 0)) rfl) u1192.1 (by omega) rfl ?_
                      refine w_alu (pc' := 128) (st' := [.int ((zBs (zsh v P kd nn ff sp) k) + (zn (zsv kd nn ff sp k)))]) (ykc_237 (e := (0, .iadd, 0)) rfl) rfl rfl ?_
                      refine w_store (pc' := 130) (L' := [some (.ref 170), some (.int kd), some (.int nn), some (.int ff), some (.int sp), some (.int ((zBs (zsh v P kd nn ff sp) k) + (zn (zsv kd nn ff sp k)))), some (.int (zsq ff sp k)), some (.int (zn k)), some (.int (zsq ff sp k))]) (st' := []) (m := 2) (ykc_237 (e := (3, .istore 5, 0)) rfl) rfl rfl ?_
                      refine w_load (pc' := 132) (v := .int (zsq ff sp k)) (m := 2) (ykc_237 (e := (2, .iload 6, 0)) rfl) rfl rfl ?_
                      refine w_load (pc' := 134) (v := .int sp) (m := 2) (ykc_237 (e := (2, .iload 4, 0)) rfl) rfl rfl ?_
                      refine w_alu (pc' := 135) (st' := [.int ((zsq ff sp k) + sp)]) (ykc_237 (e := (0, .iadd, 0)) rfl) rfl rfl ?_
                      refine w_store (pc' := 137) (L' := [some (.ref 170), some (.int kd), some (.int nn), some (.int ff), some (.int sp), some (.int ((zBs (zsh v P kd nn ff sp) k) + (zn (zsv kd nn ff sp k)))), some (.int ((zsq ff sp k) + sp)), some (.int (zn k)), some (.int (zsq ff sp k))]) (st' := []) (m := 2) (ykc_237 (e := (3, .istore 6, 0)) rfl) rfl rfl ?_
                      have e1195 : (zn k) + Int32.ofInt 1 = zn (k + 1) := (zaddN (a := k) (b := 1) (znt (by omega)) c_6 (by omega))
                      have te1195 := znt (k := k + 1) (by omega)
                      refine w_store (pc' := 140) (L' := [some (.ref 170), some (.int kd), some (.int nn), some (.int ff), some (.int sp), some (.int ((zBs (zsh v P kd nn ff sp) k) + (zn (zsv kd nn ff sp k)))), some (.int ((zsq ff sp k) + sp)), some (.int (zn (k + 1))), some (.int (zsq ff sp k))]) (st' := []) (m := 3) (ykc_237 (e := (3, .iinc 7 1, 0)) rfl) (by rw [← e1195]; rfl) rfl ?_
                      refine w_gb (ykc_237 (e := (4, .goto (-94), 46)) rfl) (fun k1196 hk1196 => ?_)
                      have h9 := ih k1196 hk1196 (k + 1) (some (.int (zsq ff sp k))) _ (by omega) (zFr_add hf u1192 (Or.inl (by simp))) (fun i hi => by
                        by_cases e : i = k
                        · subst e
                          exact u1192.1
                        · exact (u1192.2.1 174 (16 + i) (fun q => e (by have q2 := q.2; omega))).trans (hr i (by omega))) (fun j hj => (u1192.2.1 174 j (fun q => by have q2 := q.2; omega)).trans (ho j (by omega)))
                      rw [show zBs (zsh v P kd nn ff sp) (k + 1) = zBs (zsh v P kd nn ff sp) k + zn (zsv kd nn ff sp k) by
                        show _ + zn (zsh v P kd nn ff sp (16 + k)) = _
                        rw [zsh_b (by omega)]] at h9
                      exact h9
                · refine w_load (pc' := 72) (v := .int (zsq ff sp k)) (m := 2) (ykc_237 (e := (2, .iload 6, 0)) rfl) rfl rfl ?_
                  obtain ⟨z1197, e_z1197, h_z1197⟩ : ∃ zq : Int32, (zsq ff sp k).toInt16.toInt32 = zq ∧ zq.toInt = ((zsq ff sp k).toInt16.toInt32).toInt := ⟨_, rfl, rfl⟩
                  refine w_alu (pc' := 73) (st' := [.int z1197]) (ykc_237 (e := (0, .i2s, 0)) rfl) (by rw [← e_z1197]; rfl) rfl ?_
                  refine w_br (pc' := 78) (st' := [.int z1197]) (ykc_237 (e := (4, .goto 5, 78)) rfl) rfl ?_
                  refine w_store (pc' := 80) (L' := [some (.ref 170), some (.int kd), some (.int nn), some (.int ff), some (.int sp), some (.int (zBs (zsh v P kd nn ff sp) k)), some (.int (zsq ff sp k)), some (.int (zn k)), some (.int z1197)]) (st' := []) (m := 2) (ykc_237 (e := (3, .istore 8, 0)) rfl) rfl rfl ?_
                  have e9 : zsck kd (zsq ff sp k) = (zsq ff sp k).toInt16.toInt32 := (by
                    unfold zsck
                    rw [if_neg (by omega), if_pos (by omega)])
                  refine w_load (pc' := 81) (v := .ref 170) (m := 1) (ykc_237 (e := (2, .aload_n kF0, 0)) rfl) rfl rfl ?_
                  refine w_gf (pc' := 84) (v := .ref 174) (ykc_237 (e := (5, .getfield 41, 0)) rfl) rfl ((hf.1 170 11 (by decide) (by decide)).trans (zsg hS1 zs_170_11)) rfl ?_
                  refine w_push (pc' := 86) (v := .int ((Int8.ofInt 16).toInt32)) (m := 2) (ykc_237 (e := (1, .bipush 16, 0)) rfl) rfl rfl ?_
                  refine w_load (pc' := 88) (v := .int (zn k)) (m := 2) (ykc_237 (e := (2, .iload 7, 0)) rfl) rfl rfl ?_
                  have e1198 : ((Int8.ofInt 16).toInt32) + (zn k) = zn (16 + k) := (zaddN (a := 16) (b := k) c_2 (znt (by omega)) (by omega)) 
                  have te1198 := znt (k := 16 + k) (by omega)
                  refine w_alu (pc' := 89) (st' := [.int (zn (16 + k)), .ref 174]) (ykc_237 (e := (0, .iadd, 0)) rfl) (by rw [← e1198]; rfl) rfl ?_
                  refine w_load (pc' := 90) (v := .int kd) (m := 1) (ykc_237 (e := (2, .iload_n kF1, 0)) rfl) rfl rfl ?_
                  refine w_alu (pc' := 91) (st' := [.int (Int32.ofInt 3), .int kd, .int (zn (16 + k)), .ref 174]) (ykc_237 (e := (0, .iconst 3, 0)) rfl) rfl rfl ?_
                  refine w_ieq (ykc_237 (e := (4, .if_icmp .eq 9, 100)) rfl) rfl (fun b1199 => ?_) (fun b1199 => ?_)
                  · refine w_alu (pc' := 101) (st' := [.int (Int32.ofInt 0), .int (zn (16 + k)), .ref 174]) (ykc_237 (e := (0, .iconst 0, 0)) rfl) rfl rfl ?_
                    refine w_br (pc' := 114) (st' := [.int (Int32.ofInt 0), .int (zn (16 + k)), .ref 174]) (ykc_237 (e := (4, .goto 13, 114)) rfl) rfl ?_
                    have ev : zsv kd nn ff sp k = 0 := if_pos (by omega)
                    have ez : Int32.ofInt 0 = zn (zsv kd nn ff sp k) := by
                      rw [ev]
                      rfl
                    rw [ez]
                    show zW n D 237 Q 114 [some (.ref 170), some (.int kd), some (.int nn), some (.int ff), some (.int sp), some (.int (zBs (zsh v P kd nn ff sp) k)), some (.int (zsq ff sp k)), some (.int (zn k)), some (.int z1197)] [.int (zn (zsv kd nn ff sp k)), .int (zn (16 + k)), .ref 174] ph9
                    refine w_ias (pc' := 115) (k := 16 + k) (ykc_237 (e := (5, .iastore, 0)) rfl) (by omega) rfl (fun ph1201 u1200 => ?_)
                    refine w_load (pc' := 117) (v := .int (zBs (zsh v P kd nn ff sp) k)) (m := 2) (ykc_237 (e := (2, .iload 5, 0)) rfl) rfl rfl ?_
                    refine w_load (pc' := 118) (v := .ref 170) (m := 1) (ykc_237 (e := (2, .aload_n kF0, 0)) rfl) rfl rfl ?_
                    refine w_gf (pc' := 121) (v := .ref 174) (ykc_237 (e := (5, .getfield 41, 0)) rfl) rfl ((u1200.2.1 170 11 (fun q => absurd q.1 (by decide))).trans ((hf.1 170 11 (by decide) (by decide)).trans (zsg hS1 zs_170_11))) rfl ?_
                    refine w_push (pc' := 123) (v := .int ((Int8.ofInt 16).toInt32)) (m := 2) (ykc_237 (e := (1, .bipush 16, 0)) rfl) rfl rfl ?_
                    refine w_load (pc' := 125) (v := .int (zn k)) (m := 2) (ykc_237 (e := (2, .iload 7, 0)) rfl) rfl rfl ?_
                    have e1202 : ((Int8.ofInt 16).toInt32) + (zn k) = zn (16 + k) := (zaddN (a := 16) (b := k) c_2 (znt (by omega)) (by omega)) 
                    have te1202 := znt (k := 16 + k) (by omega)
                    refine w_alu (pc' := 126) (st' := [.int (zn (16 + k)), .ref 174, .int (zBs (zsh v P kd nn ff sp) k)]) (ykc_237 (e := (0, .iadd, 0)) rfl) (by rw [← e1202]; rfl) rfl ?_
                    refine w_ialk (pc' := 127) (k := 16 + k) (ykc_237 (e := (5, .iaload, 0)) rfl) u1200.1 (by omega) rfl ?_
                    refine w_alu (pc' := 128) (st' := [.int ((zBs (zsh v P kd nn ff sp) k) + (zn (zsv kd nn ff sp k)))]) (ykc_237 (e := (0, .iadd, 0)) rfl) rfl rfl ?_
                    refine w_store (pc' := 130) (L' := [some (.ref 170), some (.int kd), some (.int nn), some (.int ff), some (.int sp), some (.int ((zBs (zsh v P kd nn ff sp) k) + (zn (zsv kd nn ff sp k)))), some (.int (zsq ff sp k)), some (.int (zn k)), some (.int z1197)]) (st' := []) (m := 2) (ykc_237 (e := (3, .istore 5, 0)) rfl) rfl rfl ?_
                    refine w_load (pc' := 132) (v := .int (zsq ff sp k)) (m := 2) (ykc_237 (e := (2, .iload 6, 0)) rfl) rfl rfl ?_
                    refine w_load (pc' := 134) (v := .int sp) (m := 2) (ykc_237 (e := (2, .iload 4, 0)) rfl) rfl rfl ?_
                    refine w_alu (pc' := 135) (st' := [.int ((zsq ff sp k) + sp)]) (ykc_237 (e := (0, .iadd, 0)) rfl) rfl rfl ?_
                    refine w_store (pc' := 137) (L' := [some (.ref 170), some (.int kd), some (.int nn), some (.int ff), some (.int sp), some (.int ((zBs (zsh v P kd nn ff sp) k) + (zn (zsv kd nn ff sp k)))), some (.int ((zsq ff sp k) + sp)), some (.int (zn k)), some (.int z1197)]) (st' := []) (m := 2) (ykc_237 (e := (3, .istore 6, 0)) rfl) rfl rfl ?_
                    have e1203 : (zn k) + Int32.ofInt 1 = zn (k + 1) := (zaddN (a := k) (b := 1) (znt (by omega)) c_6 (by omega))
                    have te1203 := znt (k := k + 1) (by omega)
                    refine w_store (pc' := 140) (L' := [some (.ref 170), some (.int kd), some (.int nn), some (.int ff), some (.int sp), some (.int ((zBs (zsh v P kd nn ff sp) k) + (zn (zsv kd nn ff sp k)))), some (.int ((zsq ff sp k) + sp)), some (.int (zn (k + 1))), some (.int z1197)]) (st' := []) (m := 3) (ykc_237 (e := (3, .iinc 7 1, 0)) rfl) (by rw [← e1203]; rfl) rfl ?_
                    refine w_gb (ykc_237 (e := (4, .goto (-94), 46)) rfl) (fun k1204 hk1204 => ?_)
                    have h9 := ih k1204 hk1204 (k + 1) (some (.int z1197)) _ (by omega) (zFr_add hf u1200 (Or.inl (by simp))) (fun i hi => by
                      by_cases e : i = k
                      · subst e
                        exact u1200.1
                      · exact (u1200.2.1 174 (16 + i) (fun q => e (by have q2 := q.2; omega))).trans (hr i (by omega))) (fun j hj => (u1200.2.1 174 j (fun q => by have q2 := q.2; omega)).trans (ho j (by omega)))
                    rw [show zBs (zsh v P kd nn ff sp) (k + 1) = zBs (zsh v P kd nn ff sp) k + zn (zsv kd nn ff sp k) by
                      show _ + zn (zsh v P kd nn ff sp (16 + k)) = _
                      rw [zsh_b (by omega)]] at h9
                    exact h9
                  · refine w_load (pc' := 96) (v := .int (zn k)) (m := 2) (ykc_237 (e := (2, .iload 7, 0)) rfl) rfl rfl ?_
                    refine w_load (pc' := 97) (v := .int nn) (m := 1) (ykc_237 (e := (2, .iload_n kF2, 0)) rfl) rfl rfl ?_
                    refine w_ilt (ykc_237 (e := (4, .if_icmp .lt 7, 104)) rfl) rfl (fun b1205 => ?_) (fun b1205 => ?_)
                    · refine w_alu (pc' := 105) (st' := [.int (Int32.ofInt 0), .int (zn (16 + k)), .ref 174]) (ykc_237 (e := (0, .iconst 0, 0)) rfl) rfl rfl ?_
                      refine w_alu (pc' := 106) (st' := [.int (Int32.ofInt 4), .int (Int32.ofInt 0), .int (zn (16 + k)), .ref 174]) (ykc_237 (e := (0, .iconst 4, 0)) rfl) rfl rfl ?_
                      refine w_load (pc' := 108) (v := .int z1197) (m := 2) (ykc_237 (e := (2, .iload 8, 0)) rfl) rfl rfl ?_
                      obtain ⟨z1206, e_z1206⟩ : ∃ zq : Int32, (if z1197 < (Int32.ofInt 4) then z1197 else (Int32.ofInt 4)) = zq := ⟨_, rfl⟩
                      have h_z1206 := zminI e_z1206
                      refine w_mem1 (pc' := 111) (m := 3) (st' := [.int z1206, .int (Int32.ofInt 0), .int (zn (16 + k)), .ref 174]) (ph' := ph9) (ykc_237 (e := (5, .invokestatic 145, 0)) rfl) (by rw [← e_z1206]; rfl) rfl ?_
                      obtain ⟨z1207, e_z1207⟩ : ∃ zq : Int32, (if (Int32.ofInt 0) < z1206 then z1206 else (Int32.ofInt 0)) = zq := ⟨_, rfl⟩
                      have h_z1207 := zmaxI e_z1207
                      refine w_mem1 (pc' := 114) (m := 3) (st' := [.int z1207, .int (zn (16 + k)), .ref 174]) (ph' := ph9) (ykc_237 (e := (5, .invokestatic 273, 0)) rfl) (by rw [← e_z1207]; rfl) rfl ?_
                      have ev : zsv kd nn ff sp k = zq4 (zsck kd (zsq ff sp k)) := if_neg (by omega)
                      have ez : z1207 = zn (zsv kd nn ff sp k) := zn_of (by rw [ev, e9]; unfold zq4; omega)
                      rw [ez]
                      show zW n D 237 Q 114 [some (.ref 170), some (.int kd), some (.int nn), some (.int ff), some (.int sp), some (.int (zBs (zsh v P kd nn ff sp) k)), some (.int (zsq ff sp k)), some (.int (zn k)), some (.int z1197)] [.int (zn (zsv kd nn ff sp k)), .int (zn (16 + k)), .ref 174] ph9
                      refine w_ias (pc' := 115) (k := 16 + k) (ykc_237 (e := (5, .iastore, 0)) rfl) (by omega) rfl (fun ph1209 u1208 => ?_)
                      refine w_load (pc' := 117) (v := .int (zBs (zsh v P kd nn ff sp) k)) (m := 2) (ykc_237 (e := (2, .iload 5, 0)) rfl) rfl rfl ?_
                      refine w_load (pc' := 118) (v := .ref 170) (m := 1) (ykc_237 (e := (2, .aload_n kF0, 0)) rfl) rfl rfl ?_
                      refine w_gf (pc' := 121) (v := .ref 174) (ykc_237 (e := (5, .getfield 41, 0)) rfl) rfl ((u1208.2.1 170 11 (fun q => absurd q.1 (by decide))).trans ((hf.1 170 11 (by decide) (by decide)).trans (zsg hS1 zs_170_11))) rfl ?_
                      refine w_push (pc' := 123) (v := .int ((Int8.ofInt 16).toInt32)) (m := 2) (ykc_237 (e := (1, .bipush 16, 0)) rfl) rfl rfl ?_
                      refine w_load (pc' := 125) (v := .int (zn k)) (m := 2) (ykc_237 (e := (2, .iload 7, 0)) rfl) rfl rfl ?_
                      have e1210 : ((Int8.ofInt 16).toInt32) + (zn k) = zn (16 + k) := (zaddN (a := 16) (b := k) c_2 (znt (by omega)) (by omega)) 
                      have te1210 := znt (k := 16 + k) (by omega)
                      refine w_alu (pc' := 126) (st' := [.int (zn (16 + k)), .ref 174, .int (zBs (zsh v P kd nn ff sp) k)]) (ykc_237 (e := (0, .iadd, 0)) rfl) (by rw [← e1210]; rfl) rfl ?_
                      refine w_ialk (pc' := 127) (k := 16 + k) (ykc_237 (e := (5, .iaload, 0)) rfl) u1208.1 (by omega) rfl ?_
                      refine w_alu (pc' := 128) (st' := [.int ((zBs (zsh v P kd nn ff sp) k) + (zn (zsv kd nn ff sp k)))]) (ykc_237 (e := (0, .iadd, 0)) rfl) rfl rfl ?_
                      refine w_store (pc' := 130) (L' := [some (.ref 170), some (.int kd), some (.int nn), some (.int ff), some (.int sp), some (.int ((zBs (zsh v P kd nn ff sp) k) + (zn (zsv kd nn ff sp k)))), some (.int (zsq ff sp k)), some (.int (zn k)), some (.int z1197)]) (st' := []) (m := 2) (ykc_237 (e := (3, .istore 5, 0)) rfl) rfl rfl ?_
                      refine w_load (pc' := 132) (v := .int (zsq ff sp k)) (m := 2) (ykc_237 (e := (2, .iload 6, 0)) rfl) rfl rfl ?_
                      refine w_load (pc' := 134) (v := .int sp) (m := 2) (ykc_237 (e := (2, .iload 4, 0)) rfl) rfl rfl ?_
                      refine w_alu (pc' := 135) (st' := [.int ((zsq ff sp k) + sp)]) (ykc_237 (e := (0, .iadd, 0)) rfl) rfl rfl ?_
                      refine w_store (pc' := 137) (L' := [some (.ref 170), some (.int kd), some (.int nn), some (.int ff), some (.int sp), some (.int ((zBs (zsh v P kd nn ff sp) k) + (zn (zsv kd nn ff sp k)))), some (.int ((zsq ff sp k) + sp)), some (.int (zn k)), some (.int z1197)]) (st' := []) (m := 2) (ykc_237 (e := (3, .istore 6, 0)) rfl) rfl rfl ?_
                      have e1211 : (zn k) + Int32.ofInt 1 = zn (k + 1) := (zaddN (a := k) (b := 1) (znt (by omega)) c_6 (by omega))
                      have te1211 := znt (k := k + 1) (by omega)
                      refine w_store (pc' := 140) (L' := [some (.ref 170), some (.int kd), some (.int nn), some (.int ff), some (.int sp), some (.int ((zBs (zsh v P kd nn ff sp) k) + (zn (zsv kd nn ff sp k)))), some (.int ((zsq ff sp k) + sp)), some (.int (zn (k + 1))), some (.int z1197)]) (st' := []) (m := 3) (ykc_237 (e := (3, .iinc 7 1, 0)) rfl) (by rw [← e1211]; rfl) rfl ?_
                      refine w_gb (ykc_237 (e := (4, .goto (-94), 46)) rfl) (fun k1212 hk1212 => ?_)
                      have h9 := ih k1212 hk1212 (k + 1) (some (.int z1197)) _ (by omega) (zFr_add hf u1208 (Or.inl (by simp))) (fun i hi => by
                        by_cases e : i = k
                        · subst e
                          exact u1208.1
                        · exact (u1208.2.1 174 (16 + i) (fun q => e (by have q2 := q.2; omega))).trans (hr i (by omega))) (fun j hj => (u1208.2.1 174 j (fun q => by have q2 := q.2; omega)).trans (ho j (by omega)))
                      rw [show zBs (zsh v P kd nn ff sp) (k + 1) = zBs (zsh v P kd nn ff sp) k + zn (zsv kd nn ff sp k) by
                        show _ + zn (zsh v P kd nn ff sp (16 + k)) = _
                        rw [zsh_b (by omega)]] at h9
                      exact h9
                    · refine w_alu (pc' := 101) (st' := [.int (Int32.ofInt 0), .int (zn (16 + k)), .ref 174]) (ykc_237 (e := (0, .iconst 0, 0)) rfl) rfl rfl ?_
                      refine w_br (pc' := 114) (st' := [.int (Int32.ofInt 0), .int (zn (16 + k)), .ref 174]) (ykc_237 (e := (4, .goto 13, 114)) rfl) rfl ?_
                      have ev : zsv kd nn ff sp k = 0 := if_pos (by omega)
                      have ez : Int32.ofInt 0 = zn (zsv kd nn ff sp k) := by
                        rw [ev]
                        rfl
                      rw [ez]
                      show zW n D 237 Q 114 [some (.ref 170), some (.int kd), some (.int nn), some (.int ff), some (.int sp), some (.int (zBs (zsh v P kd nn ff sp) k)), some (.int (zsq ff sp k)), some (.int (zn k)), some (.int z1197)] [.int (zn (zsv kd nn ff sp k)), .int (zn (16 + k)), .ref 174] ph9
                      refine w_ias (pc' := 115) (k := 16 + k) (ykc_237 (e := (5, .iastore, 0)) rfl) (by omega) rfl (fun ph1214 u1213 => ?_)
                      refine w_load (pc' := 117) (v := .int (zBs (zsh v P kd nn ff sp) k)) (m := 2) (ykc_237 (e := (2, .iload 5, 0)) rfl) rfl rfl ?_
                      refine w_load (pc' := 118) (v := .ref 170) (m := 1) (ykc_237 (e := (2, .aload_n kF0, 0)) rfl) rfl rfl ?_
                      refine w_gf (pc' := 121) (v := .ref 174) (ykc_237 (e := (5, .getfield 41, 0)) rfl) rfl ((u1213.2.1 170 11 (fun q => absurd q.1 (by decide))).trans ((hf.1 170 11 (by decide) (by decide)).trans (zsg hS1 zs_170_11))) rfl ?_
                      refine w_push (pc' := 123) (v := .int ((Int8.ofInt 16).toInt32)) (m := 2) (ykc_237 (e := (1, .bipush 16, 0)) rfl) rfl rfl ?_
                      refine w_load (pc' := 125) (v := .int (zn k)) (m := 2) (ykc_237 (e := (2, .iload 7, 0)) rfl) rfl rfl ?_
                      have e1215 : ((Int8.ofInt 16).toInt32) + (zn k) = zn (16 + k) := (zaddN (a := 16) (b := k) c_2 (znt (by omega)) (by omega)) 
                      have te1215 := znt (k := 16 + k) (by omega)
                      refine w_alu (pc' := 126) (st' := [.int (zn (16 + k)), .ref 174, .int (zBs (zsh v P kd nn ff sp) k)]) (ykc_237 (e := (0, .iadd, 0)) rfl) (by rw [← e1215]; rfl) rfl ?_
                      refine w_ialk (pc' := 127) (k := 16 + k) (ykc_237 (e := (5, .iaload, 0)) rfl) u1213.1 (by omega) rfl ?_
                      refine w_alu (pc' := 128) (st' := [.int ((zBs (zsh v P kd nn ff sp) k) + (zn (zsv kd nn ff sp k)))]) (ykc_237 (e := (0, .iadd, 0)) rfl) rfl rfl ?_
                      refine w_store (pc' := 130) (L' := [some (.ref 170), some (.int kd), some (.int nn), some (.int ff), some (.int sp), some (.int ((zBs (zsh v P kd nn ff sp) k) + (zn (zsv kd nn ff sp k)))), some (.int (zsq ff sp k)), some (.int (zn k)), some (.int z1197)]) (st' := []) (m := 2) (ykc_237 (e := (3, .istore 5, 0)) rfl) rfl rfl ?_
                      refine w_load (pc' := 132) (v := .int (zsq ff sp k)) (m := 2) (ykc_237 (e := (2, .iload 6, 0)) rfl) rfl rfl ?_
                      refine w_load (pc' := 134) (v := .int sp) (m := 2) (ykc_237 (e := (2, .iload 4, 0)) rfl) rfl rfl ?_
                      refine w_alu (pc' := 135) (st' := [.int ((zsq ff sp k) + sp)]) (ykc_237 (e := (0, .iadd, 0)) rfl) rfl rfl ?_
                      refine w_store (pc' := 137) (L' := [some (.ref 170), some (.int kd), some (.int nn), some (.int ff), some (.int sp), some (.int ((zBs (zsh v P kd nn ff sp) k) + (zn (zsv kd nn ff sp k)))), some (.int ((zsq ff sp k) + sp)), some (.int (zn k)), some (.int z1197)]) (st' := []) (m := 2) (ykc_237 (e := (3, .istore 6, 0)) rfl) rfl rfl ?_
                      have e1216 : (zn k) + Int32.ofInt 1 = zn (k + 1) := (zaddN (a := k) (b := 1) (znt (by omega)) c_6 (by omega))
                      have te1216 := znt (k := k + 1) (by omega)
                      refine w_store (pc' := 140) (L' := [some (.ref 170), some (.int kd), some (.int nn), some (.int ff), some (.int sp), some (.int ((zBs (zsh v P kd nn ff sp) k) + (zn (zsv kd nn ff sp k)))), some (.int ((zsq ff sp k) + sp)), some (.int (zn (k + 1))), some (.int z1197)]) (st' := []) (m := 3) (ykc_237 (e := (3, .iinc 7 1, 0)) rfl) (by rw [← e1216]; rfl) rfl ?_
                      refine w_gb (ykc_237 (e := (4, .goto (-94), 46)) rfl) (fun k1217 hk1217 => ?_)
                      have h9 := ih k1217 hk1217 (k + 1) (some (.int z1197)) _ (by omega) (zFr_add hf u1213 (Or.inl (by simp))) (fun i hi => by
                        by_cases e : i = k
                        · subst e
                          exact u1213.1
                        · exact (u1213.2.1 174 (16 + i) (fun q => e (by have q2 := q.2; omega))).trans (hr i (by omega))) (fun j hj => (u1213.2.1 174 j (fun q => by have q2 := q.2; omega)).trans (ho j (by omega)))
                      rw [show zBs (zsh v P kd nn ff sp) (k + 1) = zBs (zsh v P kd nn ff sp) k + zn (zsv kd nn ff sp k) by
                        show _ + zn (zsh v P kd nn ff sp (16 + k)) = _
                        rw [zsh_b (by omega)]] at h9
                      exact h9
              · refine w_load (pc' := 61) (v := .int (zsq ff sp k)) (m := 2) (ykc_237 (e := (2, .iload 6, 0)) rfl) rfl rfl ?_
                obtain ⟨z1218, e_z1218, h_z1218⟩ : ∃ zq : Int32, (zsq ff sp k).toInt8.toInt32 = zq ∧ zq.toInt = ((zsq ff sp k).toInt8.toInt32).toInt := ⟨_, rfl, rfl⟩
                refine w_alu (pc' := 62) (st' := [.int z1218]) (ykc_237 (e := (0, .i2b, 0)) rfl) (by rw [← e_z1218]; rfl) rfl ?_
                refine w_br (pc' := 78) (st' := [.int z1218]) (ykc_237 (e := (4, .goto 16, 78)) rfl) rfl ?_
                refine w_store (pc' := 80) (L' := [some (.ref 170), some (.int kd), some (.int nn), some (.int ff), some (.int sp), some (.int (zBs (zsh v P kd nn ff sp) k)), some (.int (zsq ff sp k)), some (.int (zn k)), some (.int z1218)]) (st' := []) (m := 2) (ykc_237 (e := (3, .istore 8, 0)) rfl) rfl rfl ?_
                have e9 : zsck kd (zsq ff sp k) = (zsq ff sp k).toInt8.toInt32 := if_pos (by omega)
                refine w_load (pc' := 81) (v := .ref 170) (m := 1) (ykc_237 (e := (2, .aload_n kF0, 0)) rfl) rfl rfl ?_
                refine w_gf (pc' := 84) (v := .ref 174) (ykc_237 (e := (5, .getfield 41, 0)) rfl) rfl ((hf.1 170 11 (by decide) (by decide)).trans (zsg hS1 zs_170_11)) rfl ?_
                refine w_push (pc' := 86) (v := .int ((Int8.ofInt 16).toInt32)) (m := 2) (ykc_237 (e := (1, .bipush 16, 0)) rfl) rfl rfl ?_
                refine w_load (pc' := 88) (v := .int (zn k)) (m := 2) (ykc_237 (e := (2, .iload 7, 0)) rfl) rfl rfl ?_
                have e1219 : ((Int8.ofInt 16).toInt32) + (zn k) = zn (16 + k) := (zaddN (a := 16) (b := k) c_2 (znt (by omega)) (by omega)) 
                have te1219 := znt (k := 16 + k) (by omega)
                refine w_alu (pc' := 89) (st' := [.int (zn (16 + k)), .ref 174]) (ykc_237 (e := (0, .iadd, 0)) rfl) (by rw [← e1219]; rfl) rfl ?_
                refine w_load (pc' := 90) (v := .int kd) (m := 1) (ykc_237 (e := (2, .iload_n kF1, 0)) rfl) rfl rfl ?_
                refine w_alu (pc' := 91) (st' := [.int (Int32.ofInt 3), .int kd, .int (zn (16 + k)), .ref 174]) (ykc_237 (e := (0, .iconst 3, 0)) rfl) rfl rfl ?_
                refine w_ieq (ykc_237 (e := (4, .if_icmp .eq 9, 100)) rfl) rfl (fun b1220 => ?_) (fun b1220 => ?_)
                · refine w_alu (pc' := 101) (st' := [.int (Int32.ofInt 0), .int (zn (16 + k)), .ref 174]) (ykc_237 (e := (0, .iconst 0, 0)) rfl) rfl rfl ?_
                  refine w_br (pc' := 114) (st' := [.int (Int32.ofInt 0), .int (zn (16 + k)), .ref 174]) (ykc_237 (e := (4, .goto 13, 114)) rfl) rfl ?_
                  have ev : zsv kd nn ff sp k = 0 := if_pos (by omega)
                  have ez : Int32.ofInt 0 = zn (zsv kd nn ff sp k) := by
                    rw [ev]
                    rfl
                  rw [ez]
                  show zW n D 237 Q 114 [some (.ref 170), some (.int kd), some (.int nn), some (.int ff), some (.int sp), some (.int (zBs (zsh v P kd nn ff sp) k)), some (.int (zsq ff sp k)), some (.int (zn k)), some (.int z1218)] [.int (zn (zsv kd nn ff sp k)), .int (zn (16 + k)), .ref 174] ph9
                  refine w_ias (pc' := 115) (k := 16 + k) (ykc_237 (e := (5, .iastore, 0)) rfl) (by omega) rfl (fun ph1222 u1221 => ?_)
                  refine w_load (pc' := 117) (v := .int (zBs (zsh v P kd nn ff sp) k)) (m := 2) (ykc_237 (e := (2, .iload 5, 0)) rfl) rfl rfl ?_
                  refine w_load (pc' := 118) (v := .ref 170) (m := 1) (ykc_237 (e := (2, .aload_n kF0, 0)) rfl) rfl rfl ?_
                  refine w_gf (pc' := 121) (v := .ref 174) (ykc_237 (e := (5, .getfield 41, 0)) rfl) rfl ((u1221.2.1 170 11 (fun q => absurd q.1 (by decide))).trans ((hf.1 170 11 (by decide) (by decide)).trans (zsg hS1 zs_170_11))) rfl ?_
                  refine w_push (pc' := 123) (v := .int ((Int8.ofInt 16).toInt32)) (m := 2) (ykc_237 (e := (1, .bipush 16, 0)) rfl) rfl rfl ?_
                  refine w_load (pc' := 125) (v := .int (zn k)) (m := 2) (ykc_237 (e := (2, .iload 7, 0)) rfl) rfl rfl ?_
                  have e1223 : ((Int8.ofInt 16).toInt32) + (zn k) = zn (16 + k) := (zaddN (a := 16) (b := k) c_2 (znt (by omega)) (by omega)) 
                  have te1223 := znt (k := 16 + k) (by omega)
                  refine w_alu (pc' := 126) (st' := [.int (zn (16 + k)), .ref 174, .int (zBs (zsh v P kd nn ff sp) k)]) (ykc_237 (e := (0, .iadd, 0)) rfl) (by rw [← e1223]; rfl) rfl ?_
                  refine w_ialk (pc' := 127) (k := 16 + k) (ykc_237 (e := (5, .iaload, 0)) rfl) u1221.1 (by omega) rfl ?_
                  refine w_alu (pc' := 128) (st' := [.int ((zBs (zsh v P kd nn ff sp) k) + (zn (zsv kd nn ff sp k)))]) (ykc_237 (e := (0, .iadd, 0)) rfl) rfl rfl ?_
                  refine w_store (pc' := 130) (L' := [some (.ref 170), some (.int kd), some (.int nn), some (.int ff), some (.int sp), some (.int ((zBs (zsh v P kd nn ff sp) k) + (zn (zsv kd nn ff sp k)))), some (.int (zsq ff sp k)), some (.int (zn k)), some (.int z1218)]) (st' := []) (m := 2) (ykc_237 (e := (3, .istore 5, 0)) rfl) rfl rfl ?_
                  refine w_load (pc' := 132) (v := .int (zsq ff sp k)) (m := 2) (ykc_237 (e := (2, .iload 6, 0)) rfl) rfl rfl ?_
                  refine w_load (pc' := 134) (v := .int sp) (m := 2) (ykc_237 (e := (2, .iload 4, 0)) rfl) rfl rfl ?_
                  refine w_alu (pc' := 135) (st' := [.int ((zsq ff sp k) + sp)]) (ykc_237 (e := (0, .iadd, 0)) rfl) rfl rfl ?_
                  refine w_store (pc' := 137) (L' := [some (.ref 170), some (.int kd), some (.int nn), some (.int ff), some (.int sp), some (.int ((zBs (zsh v P kd nn ff sp) k) + (zn (zsv kd nn ff sp k)))), some (.int ((zsq ff sp k) + sp)), some (.int (zn k)), some (.int z1218)]) (st' := []) (m := 2) (ykc_237 (e := (3, .istore 6, 0)) rfl) rfl rfl ?_
                  have e1224 : (zn k) + Int32.ofInt 1 = zn (k + 1) := (zaddN (a := k) (b := 1) (znt (by omega)) c_6 (by omega))
                  have te1224 := znt (k := k + 1) (by omega)
                  refine w_store (pc' := 140) (L' := [some (.ref 170), some (.int kd), some (.int nn), some (.int ff), some (.int sp), some (.int ((zBs (zsh v P kd nn ff sp) k) + (zn (zsv kd nn ff sp k)))), some (.int ((zsq ff sp k) + sp)), some (.int (zn (k + 1))), some (.int z1218)]) (st' := []) (m := 3) (ykc_237 (e := (3, .iinc 7 1, 0)) rfl) (by rw [← e1224]; rfl) rfl ?_
                  refine w_gb (ykc_237 (e := (4, .goto (-94), 46)) rfl) (fun k1225 hk1225 => ?_)
                  have h9 := ih k1225 hk1225 (k + 1) (some (.int z1218)) _ (by omega) (zFr_add hf u1221 (Or.inl (by simp))) (fun i hi => by
                    by_cases e : i = k
                    · subst e
                      exact u1221.1
                    · exact (u1221.2.1 174 (16 + i) (fun q => e (by have q2 := q.2; omega))).trans (hr i (by omega))) (fun j hj => (u1221.2.1 174 j (fun q => by have q2 := q.2; omega)).trans (ho j (by omega)))
                  rw [show zBs (zsh v P kd nn ff sp) (k + 1) = zBs (zsh v P kd nn ff sp) k + zn (zsv kd nn ff sp k) by
                    show _ + zn (zsh v P kd nn ff sp (16 + k)) = _
                    rw [zsh_b (by omega)]] at h9
                  exact h9
                · refine w_load (pc' := 96) (v := .int (zn k)) (m := 2) (ykc_237 (e := (2, .iload 7, 0)) rfl) rfl rfl ?_
                  refine w_load (pc' := 97) (v := .int nn) (m := 1) (ykc_237 (e := (2, .iload_n kF2, 0)) rfl) rfl rfl ?_
                  refine w_ilt (ykc_237 (e := (4, .if_icmp .lt 7, 104)) rfl) rfl (fun b1226 => ?_) (fun b1226 => ?_)
                  · refine w_alu (pc' := 105) (st' := [.int (Int32.ofInt 0), .int (zn (16 + k)), .ref 174]) (ykc_237 (e := (0, .iconst 0, 0)) rfl) rfl rfl ?_
                    refine w_alu (pc' := 106) (st' := [.int (Int32.ofInt 4), .int (Int32.ofInt 0), .int (zn (16 + k)), .ref 174]) (ykc_237 (e := (0, .iconst 4, 0)) rfl) rfl rfl ?_
                    refine w_load (pc' := 108) (v := .int z1218) (m := 2) (ykc_237 (e := (2, .iload 8, 0)) rfl) rfl rfl ?_
                    obtain ⟨z1227, e_z1227⟩ : ∃ zq : Int32, (if z1218 < (Int32.ofInt 4) then z1218 else (Int32.ofInt 4)) = zq := ⟨_, rfl⟩
                    have h_z1227 := zminI e_z1227
                    refine w_mem1 (pc' := 111) (m := 3) (st' := [.int z1227, .int (Int32.ofInt 0), .int (zn (16 + k)), .ref 174]) (ph' := ph9) (ykc_237 (e := (5, .invokestatic 145, 0)) rfl) (by rw [← e_z1227]; rfl) rfl ?_
                    obtain ⟨z1228, e_z1228⟩ : ∃ zq : Int32, (if (Int32.ofInt 0) < z1227 then z1227 else (Int32.ofInt 0)) = zq := ⟨_, rfl⟩
                    have h_z1228 := zmaxI e_z1228
                    refine w_mem1 (pc' := 114) (m := 3) (st' := [.int z1228, .int (zn (16 + k)), .ref 174]) (ph' := ph9) (ykc_237 (e := (5, .invokestatic 273, 0)) rfl) (by rw [← e_z1228]; rfl) rfl ?_
                    have ev : zsv kd nn ff sp k = zq4 (zsck kd (zsq ff sp k)) := if_neg (by omega)
                    have ez : z1228 = zn (zsv kd nn ff sp k) := zn_of (by rw [ev, e9]; unfold zq4; omega)
                    rw [ez]
                    show zW n D 237 Q 114 [some (.ref 170), some (.int kd), some (.int nn), some (.int ff), some (.int sp), some (.int (zBs (zsh v P kd nn ff sp) k)), some (.int (zsq ff sp k)), some (.int (zn k)), some (.int z1218)] [.int (zn (zsv kd nn ff sp k)), .int (zn (16 + k)), .ref 174] ph9
                    refine w_ias (pc' := 115) (k := 16 + k) (ykc_237 (e := (5, .iastore, 0)) rfl) (by omega) rfl (fun ph1230 u1229 => ?_)
                    refine w_load (pc' := 117) (v := .int (zBs (zsh v P kd nn ff sp) k)) (m := 2) (ykc_237 (e := (2, .iload 5, 0)) rfl) rfl rfl ?_
                    refine w_load (pc' := 118) (v := .ref 170) (m := 1) (ykc_237 (e := (2, .aload_n kF0, 0)) rfl) rfl rfl ?_
                    refine w_gf (pc' := 121) (v := .ref 174) (ykc_237 (e := (5, .getfield 41, 0)) rfl) rfl ((u1229.2.1 170 11 (fun q => absurd q.1 (by decide))).trans ((hf.1 170 11 (by decide) (by decide)).trans (zsg hS1 zs_170_11))) rfl ?_
                    refine w_push (pc' := 123) (v := .int ((Int8.ofInt 16).toInt32)) (m := 2) (ykc_237 (e := (1, .bipush 16, 0)) rfl) rfl rfl ?_
                    refine w_load (pc' := 125) (v := .int (zn k)) (m := 2) (ykc_237 (e := (2, .iload 7, 0)) rfl) rfl rfl ?_
                    have e1231 : ((Int8.ofInt 16).toInt32) + (zn k) = zn (16 + k) := (zaddN (a := 16) (b := k) c_2 (znt (by omega)) (by omega)) 
                    have te1231 := znt (k := 16 + k) (by omega)
                    refine w_alu (pc' := 126) (st' := [.int (zn (16 + k)), .ref 174, .int (zBs (zsh v P kd nn ff sp) k)]) (ykc_237 (e := (0, .iadd, 0)) rfl) (by rw [← e1231]; rfl) rfl ?_
                    refine w_ialk (pc' := 127) (k := 16 + k) (ykc_237 (e := (5, .iaload, 0)) rfl) u1229.1 (by omega) rfl ?_
                    refine w_alu (pc' := 128) (st' := [.int ((zBs (zsh v P kd nn ff sp) k) + (zn (zsv kd nn ff sp k)))]) (ykc_237 (e := (0, .iadd, 0)) rfl) rfl rfl ?_
                    refine w_store (pc' := 130) (L' := [some (.ref 170), some (.int kd), some (.int nn), some (.int ff), some (.int sp), some (.int ((zBs (zsh v P kd nn ff sp) k) + (zn (zsv kd nn ff sp k)))), some (.int (zsq ff sp k)), some (.int (zn k)), some (.int z1218)]) (st' := []) (m := 2) (ykc_237 (e := (3, .istore 5, 0)) rfl) rfl rfl ?_
                    refine w_load (pc' := 132) (v := .int (zsq ff sp k)) (m := 2) (ykc_237 (e := (2, .iload 6, 0)) rfl) rfl rfl ?_
                    refine w_load (pc' := 134) (v := .int sp) (m := 2) (ykc_237 (e := (2, .iload 4, 0)) rfl) rfl rfl ?_
                    refine w_alu (pc' := 135) (st' := [.int ((zsq ff sp k) + sp)]) (ykc_237 (e := (0, .iadd, 0)) rfl) rfl rfl ?_
                    refine w_store (pc' := 137) (L' := [some (.ref 170), some (.int kd), some (.int nn), some (.int ff), some (.int sp), some (.int ((zBs (zsh v P kd nn ff sp) k) + (zn (zsv kd nn ff sp k)))), some (.int ((zsq ff sp k) + sp)), some (.int (zn k)), some (.int z1218)]) (st' := []) (m := 2) (ykc_237 (e := (3, .istore 6, 0)) rfl) rfl rfl ?_
                    have e1232 : (zn k) + Int32.ofInt 1 = zn (k + 1) := (zaddN (a := k) (b := 1) (znt (by omega)) c_6 (by omega))
                    have te1232 := znt (k := k + 1) (by omega)
                    refine w_store (pc' := 140) (L' := [some (.ref 170), some (.int kd), some (.int nn), some (.int ff), some (.int sp), some (.int ((zBs (zsh v P kd nn ff sp) k) + (zn (zsv kd nn ff sp k)))), some (.int ((zsq ff sp k) + sp)), some (.int (zn (k + 1))), some (.int z1218)]) (st' := []) (m := 3) (ykc_237 (e := (3, .iinc 7 1, 0)) rfl) (by rw [← e1232]; rfl) rfl ?_
                    refine w_gb (ykc_237 (e := (4, .goto (-94), 46)) rfl) (fun k1233 hk1233 => ?_)
                    have h9 := ih k1233 hk1233 (k + 1) (some (.int z1218)) _ (by omega) (zFr_add hf u1229 (Or.inl (by simp))) (fun i hi => by
                      by_cases e : i = k
                      · subst e
                        exact u1229.1
                      · exact (u1229.2.1 174 (16 + i) (fun q => e (by have q2 := q.2; omega))).trans (hr i (by omega))) (fun j hj => (u1229.2.1 174 j (fun q => by have q2 := q.2; omega)).trans (ho j (by omega)))
                    rw [show zBs (zsh v P kd nn ff sp) (k + 1) = zBs (zsh v P kd nn ff sp) k + zn (zsv kd nn ff sp k) by
                      show _ + zn (zsh v P kd nn ff sp (16 + k)) = _
                      rw [zsh_b (by omega)]] at h9
                    exact h9
                  · refine w_alu (pc' := 101) (st' := [.int (Int32.ofInt 0), .int (zn (16 + k)), .ref 174]) (ykc_237 (e := (0, .iconst 0, 0)) rfl) rfl rfl ?_
                    refine w_br (pc' := 114) (st' := [.int (Int32.ofInt 0), .int (zn (16 + k)), .ref 174]) (ykc_237 (e := (4, .goto 13, 114)) rfl) rfl ?_
                    have ev : zsv kd nn ff sp k = 0 := if_pos (by omega)
                    have ez : Int32.ofInt 0 = zn (zsv kd nn ff sp k) := by
                      rw [ev]
                      rfl
                    rw [ez]
                    show zW n D 237 Q 114 [some (.ref 170), some (.int kd), some (.int nn), some (.int ff), some (.int sp), some (.int (zBs (zsh v P kd nn ff sp) k)), some (.int (zsq ff sp k)), some (.int (zn k)), some (.int z1218)] [.int (zn (zsv kd nn ff sp k)), .int (zn (16 + k)), .ref 174] ph9
                    refine w_ias (pc' := 115) (k := 16 + k) (ykc_237 (e := (5, .iastore, 0)) rfl) (by omega) rfl (fun ph1235 u1234 => ?_)
                    refine w_load (pc' := 117) (v := .int (zBs (zsh v P kd nn ff sp) k)) (m := 2) (ykc_237 (e := (2, .iload 5, 0)) rfl) rfl rfl ?_
                    refine w_load (pc' := 118) (v := .ref 170) (m := 1) (ykc_237 (e := (2, .aload_n kF0, 0)) rfl) rfl rfl ?_
                    refine w_gf (pc' := 121) (v := .ref 174) (ykc_237 (e := (5, .getfield 41, 0)) rfl) rfl ((u1234.2.1 170 11 (fun q => absurd q.1 (by decide))).trans ((hf.1 170 11 (by decide) (by decide)).trans (zsg hS1 zs_170_11))) rfl ?_
                    refine w_push (pc' := 123) (v := .int ((Int8.ofInt 16).toInt32)) (m := 2) (ykc_237 (e := (1, .bipush 16, 0)) rfl) rfl rfl ?_
                    refine w_load (pc' := 125) (v := .int (zn k)) (m := 2) (ykc_237 (e := (2, .iload 7, 0)) rfl) rfl rfl ?_
                    have e1236 : ((Int8.ofInt 16).toInt32) + (zn k) = zn (16 + k) := (zaddN (a := 16) (b := k) c_2 (znt (by omega)) (by omega)) 
                    have te1236 := znt (k := 16 + k) (by omega)
                    refine w_alu (pc' := 126) (st' := [.int (zn (16 + k)), .ref 174, .int (zBs (zsh v P kd nn ff sp) k)]) (ykc_237 (e := (0, .iadd, 0)) rfl) (by rw [← e1236]; rfl) rfl ?_
                    refine w_ialk (pc' := 127) (k := 16 + k) (ykc_237 (e := (5, .iaload, 0)) rfl) u1234.1 (by omega) rfl ?_
                    refine w_alu (pc' := 128) (st' := [.int ((zBs (zsh v P kd nn ff sp) k) + (zn (zsv kd nn ff sp k)))]) (ykc_237 (e := (0, .iadd, 0)) rfl) rfl rfl ?_
                    refine w_store (pc' := 130) (L' := [some (.ref 170), some (.int kd), some (.int nn), some (.int ff), some (.int sp), some (.int ((zBs (zsh v P kd nn ff sp) k) + (zn (zsv kd nn ff sp k)))), some (.int (zsq ff sp k)), some (.int (zn k)), some (.int z1218)]) (st' := []) (m := 2) (ykc_237 (e := (3, .istore 5, 0)) rfl) rfl rfl ?_
                    refine w_load (pc' := 132) (v := .int (zsq ff sp k)) (m := 2) (ykc_237 (e := (2, .iload 6, 0)) rfl) rfl rfl ?_
                    refine w_load (pc' := 134) (v := .int sp) (m := 2) (ykc_237 (e := (2, .iload 4, 0)) rfl) rfl rfl ?_
                    refine w_alu (pc' := 135) (st' := [.int ((zsq ff sp k) + sp)]) (ykc_237 (e := (0, .iadd, 0)) rfl) rfl rfl ?_
                    refine w_store (pc' := 137) (L' := [some (.ref 170), some (.int kd), some (.int nn), some (.int ff), some (.int sp), some (.int ((zBs (zsh v P kd nn ff sp) k) + (zn (zsv kd nn ff sp k)))), some (.int ((zsq ff sp k) + sp)), some (.int (zn k)), some (.int z1218)]) (st' := []) (m := 2) (ykc_237 (e := (3, .istore 6, 0)) rfl) rfl rfl ?_
                    have e1237 : (zn k) + Int32.ofInt 1 = zn (k + 1) := (zaddN (a := k) (b := 1) (znt (by omega)) c_6 (by omega))
                    have te1237 := znt (k := k + 1) (by omega)
                    refine w_store (pc' := 140) (L' := [some (.ref 170), some (.int kd), some (.int nn), some (.int ff), some (.int sp), some (.int ((zBs (zsh v P kd nn ff sp) k) + (zn (zsv kd nn ff sp k)))), some (.int ((zsq ff sp k) + sp)), some (.int (zn (k + 1))), some (.int z1218)]) (st' := []) (m := 3) (ykc_237 (e := (3, .iinc 7 1, 0)) rfl) (by rw [← e1237]; rfl) rfl ?_
                    refine w_gb (ykc_237 (e := (4, .goto (-94), 46)) rfl) (fun k1238 hk1238 => ?_)
                    have h9 := ih k1238 hk1238 (k + 1) (some (.int z1218)) _ (by omega) (zFr_add hf u1234 (Or.inl (by simp))) (fun i hi => by
                      by_cases e : i = k
                      · subst e
                        exact u1234.1
                      · exact (u1234.2.1 174 (16 + i) (fun q => e (by have q2 := q.2; omega))).trans (hr i (by omega))) (fun j hj => (u1234.2.1 174 j (fun q => by have q2 := q.2; omega)).trans (ho j (by omega)))
                    rw [show zBs (zsh v P kd nn ff sp) (k + 1) = zBs (zsh v P kd nn ff sp) k + zn (zsv kd nn ff sp k) by
                      show _ + zn (zsh v P kd nn ff sp (16 + k)) = _
                      rw [zsh_b (by omega)]] at h9
                    exact h9
        exact hl n 0 _ ph1167 (Nat.zero_le _) zFr_refl (fun i hi => absurd hi (Nat.not_lt_zero i)) (fun j _ => rfl)
      · refine w_load (pc' := 31) (v := .int nn) (m := 1) (ykc_237 (e := (2, .iload_n kF2, 0)) rfl) rfl rfl ?_
        refine w_zge (ykc_237 (e := (4, .ifCond .ge 6, 37)) rfl) rfl (fun b1239 => ?_) (fun b1239 => ?_)
        · refine w_alu (pc' := 38) (st' := [.int (Int32.ofInt 0)]) (ykc_237 (e := (0, .iconst 0, 0)) rfl) rfl rfl ?_
          refine w_store (pc' := 40) (L' := [some (.ref 170), some (.int kd), some (.int nn), some (.int ff), some (.int sp), some (.int (Int32.ofInt 0)), none, none, none]) (st' := []) (m := 2) (ykc_237 (e := (3, .istore 5, 0)) rfl) rfl rfl ?_
          refine w_load (pc' := 41) (v := .int ff) (m := 1) (ykc_237 (e := (2, .iload_n kF3, 0)) rfl) rfl rfl ?_
          refine w_store (pc' := 43) (L' := [some (.ref 170), some (.int kd), some (.int nn), some (.int ff), some (.int sp), some (.int (Int32.ofInt 0)), some (.int ff), none, none]) (st' := []) (m := 2) (ykc_237 (e := (3, .istore 6, 0)) rfl) rfl rfl ?_
          refine w_alu (pc' := 44) (st' := [.int (Int32.ofInt 0)]) (ykc_237 (e := (0, .iconst 0, 0)) rfl) rfl rfl ?_
          refine w_store (pc' := 46) (L' := [some (.ref 170), some (.int kd), some (.int nn), some (.int ff), some (.int sp), some (.int (Int32.ofInt 0)), some (.int ff), some (.int (Int32.ofInt 0)), none]) (st' := []) (m := 2) (ykc_237 (e := (3, .istore 7, 0)) rfl) rfl rfl ?_
          have d9 := of_decide_eq_true b1170
          have f1 : zFr [] [(170, 0)] ph ph1167 := zFr_st u1166 (Or.inr (by simp))
          have hS1 := zSh_F f1 (by decide +kernel) hS
          have hgo : ¬ ((kd.toInt < 0 ∨ 3 < kd.toInt ∨ 8 < nn.toInt) ∨ (kd.toInt ≠ 3 ∧ nn.toInt < 0)) := by omega
          have hkd : 0 ≤ kd.toInt ∧ kd.toInt ≤ 3 ∧ nn.toInt ≤ 8 ∧ (kd.toInt = 3 ∨ 0 ≤ nn.toInt) := by omega
          have hl : ∀ (n : Nat), ∀ (k : Nat) (x8 : Option Value) (ph9 : pm_H), (k ≤ P) → (zFr [174] [] ph1167 ph9) → (∀ i, i < k → zc ph9 174 (16 + i) = some (.int (zn (zsv kd nn ff sp i)))) → (∀ j, ¬ (16 ≤ j ∧ j < 16 + k) → zc ph9 174 j = zc ph1167 174 j) → zW n D 237 Q 46 [some (.ref 170), some (.int kd), some (.int nn), some (.int ff), some (.int sp), some (.int (zBs (zsh v P kd nn ff sp) k)), some (.int (zsq ff sp k)), some (.int (zn k)), x8] [] ph9 := by
            intro n
            induction n using Nat.strongRecOn with
            | ind n ih =>
              intro k x8 ph9 hk9 hf hr ho
              have tk := znt (k := k) (by omega)
              refine w_load (pc' := 48) (v := .int (zn k)) (m := 2) (ykc_237 (e := (2, .iload 7, 0)) rfl) rfl rfl ?_
              refine w_load (pc' := 49) (v := .ref 170) (m := 1) (ykc_237 (e := (2, .aload_n kF0, 0)) rfl) rfl rfl ?_
              refine w_gf (pc' := 52) (v := .int (zn P)) (ykc_237 (e := (5, .getfield 130, 0)) rfl) rfl ((hf.1 170 5 (by decide) (by decide)).trans ((f1.1 170 5 (by decide) (by simp)).trans hN0.1)) rfl ?_
              refine w_ige (ykc_237 (e := (4, .if_icmp .ge 91, 143)) rfl) rfl (fun b1240 => ?_) (fun b1240 => ?_)
              · refine w_load (pc' := 144) (v := .int kd) (m := 1) (ykc_237 (e := (2, .iload_n kF1, 0)) rfl) rfl rfl ?_
                refine w_alu (pc' := 145) (st' := [.int (Int32.ofInt 3), .int kd]) (ykc_237 (e := (0, .iconst 3, 0)) rfl) rfl rfl ?_
                refine w_ine (ykc_237 (e := (4, .if_icmp .ne 8, 153)) rfl) rfl (fun b1241 => ?_) (fun b1241 => ?_)
                · refine w_load (pc' := 155) (v := .int (zBs (zsh v P kd nn ff sp) k)) (m := 2) (ykc_237 (e := (2, .iload 5, 0)) rfl) rfl rfl ?_
                  refine w_ret (v := (some (.int (zBs (zsh v P kd nn ff sp) k)))) (ykc_237 (e := (7, .ireturn, 0)) rfl) (zr_v rfl) ?_
                  have ek : P = k := by omega
                  subst ek
                  have f2 : zFr [174] [(170, 0)] ph ph9 := zFr_trans (zFr_mono f1 (by simp) (by simp)) (zFr_mono hf (by simp) (by simp))
                  have ea : zsa v P kd nn ff sp = zBs (zsh v P kd nn ff sp) P := by
                    unfold zsa
                    rw [if_neg (by omega), if_neg (by omega), if_neg (by omega)]
                  have er : zsr v P kd nn ff sp = zsh v P kd nn ff sp := if_neg hgo
                  rw [hQ]
                  refine ⟨by rw [ea], ?_⟩
                  rw [er]
                  exact ⟨zMl_F f2 (by simp) (by simp) (by simp) (by simp) hL0, zMp_F f2 (by simp) (by simp) (by simp) hN0, fun i hi => by
                    rw [Nat.zero_add]
                    by_cases e : 16 ≤ i ∧ i < 16 + P
                    · have h := hr (i - 16) (by omega)
                      rw [show 16 + (i - 16) = i by omega] at h
                      rw [show zsh v P kd nn ff sp i = zsv kd nn ff sp (i - 16) from if_pos e]
                      exact h
                    · rw [zsh_o e]
                      exact (ho i e).trans ((f1.1 174 i (by simp) (by simp)).trans (zNr0 hv hi)), zMu_F f2 (by simp) (by simp) (by simp) hU, zMk_F f2 (by simp) (by simp) (by simp) hk, zMh_F f2 (by simp) (by simp) hh⟩
                · refine w_push (pc' := 150) (v := .int ((Int8.ofInt (-3)).toInt32)) (m := 2) (ykc_237 (e := (1, .bipush (-3), 0)) rfl) rfl rfl ?_
                  refine w_br (pc' := 155) (st' := [.int ((Int8.ofInt (-3)).toInt32)]) (ykc_237 (e := (4, .goto 5, 155)) rfl) rfl ?_
                  refine w_ret (v := (some (.int ((Int8.ofInt (-3)).toInt32)))) (ykc_237 (e := (7, .ireturn, 0)) rfl) (zr_v rfl) ?_
                  have ek : P = k := by omega
                  subst ek
                  have f2 : zFr [174] [(170, 0)] ph ph9 := zFr_trans (zFr_mono f1 (by simp) (by simp)) (zFr_mono hf (by simp) (by simp))
                  have ea : zsa v P kd nn ff sp = (Int8.ofInt (-3)).toInt32 := by
                    unfold zsa
                    rw [if_neg (by omega), if_pos (by omega)]
                  have er : zsr v P kd nn ff sp = zsh v P kd nn ff sp := if_neg hgo
                  rw [hQ]
                  refine ⟨by rw [ea], ?_⟩
                  rw [er]
                  exact ⟨zMl_F f2 (by simp) (by simp) (by simp) (by simp) hL0, zMp_F f2 (by simp) (by simp) (by simp) hN0, fun i hi => by
                    rw [Nat.zero_add]
                    by_cases e : 16 ≤ i ∧ i < 16 + P
                    · have h := hr (i - 16) (by omega)
                      rw [show 16 + (i - 16) = i by omega] at h
                      rw [show zsh v P kd nn ff sp i = zsv kd nn ff sp (i - 16) from if_pos e]
                      exact h
                    · rw [zsh_o e]
                      exact (ho i e).trans ((f1.1 174 i (by simp) (by simp)).trans (zNr0 hv hi)), zMu_F f2 (by simp) (by simp) (by simp) hU, zMk_F f2 (by simp) (by simp) (by simp) hk, zMh_F f2 (by simp) (by simp) hh⟩
              · refine w_load (pc' := 56) (v := .int kd) (m := 1) (ykc_237 (e := (2, .iload_n kF1, 0)) rfl) rfl rfl ?_
                refine w_zne (ykc_237 (e := (4, .ifCond .ne 9, 65)) rfl) rfl (fun b1242 => ?_) (fun b1242 => ?_)
                · refine w_load (pc' := 66) (v := .int kd) (m := 1) (ykc_237 (e := (2, .iload_n kF1, 0)) rfl) rfl rfl ?_
                  refine w_alu (pc' := 67) (st' := [.int (Int32.ofInt 1), .int kd]) (ykc_237 (e := (0, .iconst 1, 0)) rfl) rfl rfl ?_
                  refine w_ine (ykc_237 (e := (4, .if_icmp .ne 9, 76)) rfl) rfl (fun b1243 => ?_) (fun b1243 => ?_)
                  · refine w_load (pc' := 78) (v := .int (zsq ff sp k)) (m := 2) (ykc_237 (e := (2, .iload 6, 0)) rfl) rfl rfl ?_
                    refine w_store (pc' := 80) (L' := [some (.ref 170), some (.int kd), some (.int nn), some (.int ff), some (.int sp), some (.int (zBs (zsh v P kd nn ff sp) k)), some (.int (zsq ff sp k)), some (.int (zn k)), some (.int (zsq ff sp k))]) (st' := []) (m := 2) (ykc_237 (e := (3, .istore 8, 0)) rfl) rfl rfl ?_
                    have e9 : zsck kd (zsq ff sp k) = zsq ff sp k := (by
                      unfold zsck
                      rw [if_neg (by omega), if_neg (by omega)])
                    refine w_load (pc' := 81) (v := .ref 170) (m := 1) (ykc_237 (e := (2, .aload_n kF0, 0)) rfl) rfl rfl ?_
                    refine w_gf (pc' := 84) (v := .ref 174) (ykc_237 (e := (5, .getfield 41, 0)) rfl) rfl ((hf.1 170 11 (by decide) (by decide)).trans (zsg hS1 zs_170_11)) rfl ?_
                    refine w_push (pc' := 86) (v := .int ((Int8.ofInt 16).toInt32)) (m := 2) (ykc_237 (e := (1, .bipush 16, 0)) rfl) rfl rfl ?_
                    refine w_load (pc' := 88) (v := .int (zn k)) (m := 2) (ykc_237 (e := (2, .iload 7, 0)) rfl) rfl rfl ?_
                    have e1244 : ((Int8.ofInt 16).toInt32) + (zn k) = zn (16 + k) := (zaddN (a := 16) (b := k) c_2 (znt (by omega)) (by omega)) 
                    have te1244 := znt (k := 16 + k) (by omega)
                    refine w_alu (pc' := 89) (st' := [.int (zn (16 + k)), .ref 174]) (ykc_237 (e := (0, .iadd, 0)) rfl) (by rw [← e1244]; rfl) rfl ?_
                    refine w_load (pc' := 90) (v := .int kd) (m := 1) (ykc_237 (e := (2, .iload_n kF1, 0)) rfl) rfl rfl ?_
                    refine w_alu (pc' := 91) (st' := [.int (Int32.ofInt 3), .int kd, .int (zn (16 + k)), .ref 174]) (ykc_237 (e := (0, .iconst 3, 0)) rfl) rfl rfl ?_
                    refine w_ieq (ykc_237 (e := (4, .if_icmp .eq 9, 100)) rfl) rfl (fun b1245 => ?_) (fun b1245 => ?_)
                    · refine w_alu (pc' := 101) (st' := [.int (Int32.ofInt 0), .int (zn (16 + k)), .ref 174]) (ykc_237 (e := (0, .iconst 0, 0)) rfl) rfl rfl ?_
                      refine w_br (pc' := 114) (st' := [.int (Int32.ofInt 0), .int (zn (16 + k)), .ref 174]) (ykc_237 (e := (4, .goto 13, 114)) rfl) rfl ?_
                      have ev : zsv kd nn ff sp k = 0 := if_pos (by omega)
                      have ez : Int32.ofInt 0 = zn (zsv kd nn ff sp k) := by
                        rw [ev]
                        rfl
                      rw [ez]
                      show zW n D 237 Q 114 [some (.ref 170), some (.int kd), some (.int nn), some (.int ff), some (.int sp), some (.int (zBs (zsh v P kd nn ff sp) k)), some (.int (zsq ff sp k)), some (.int (zn k)), some (.int (zsq ff sp k))] [.int (zn (zsv kd nn ff sp k)), .int (zn (16 + k)), .ref 174] ph9
                      refine w_ias (pc' := 115) (k := 16 + k) (ykc_237 (e := (5, .iastore, 0)) rfl) (by omega) rfl (fun ph1247 u1246 => ?_)
                      refine w_load (pc' := 117) (v := .int (zBs (zsh v P kd nn ff sp) k)) (m := 2) (ykc_237 (e := (2, .iload 5, 0)) rfl) rfl rfl ?_
                      refine w_load (pc' := 118) (v := .ref 170) (m := 1) (ykc_237 (e := (2, .aload_n kF0, 0)) rfl) rfl rfl ?_
                      refine w_gf (pc' := 121) (v := .ref 174) (ykc_237 (e := (5, .getfield 41, 0)) rfl) rfl ((u1246.2.1 170 11 (fun q => absurd q.1 (by decide))).trans ((hf.1 170 11 (by decide) (by decide)).trans (zsg hS1 zs_170_11))) rfl ?_
                      refine w_push (pc' := 123) (v := .int ((Int8.ofInt 16).toInt32)) (m := 2) (ykc_237 (e := (1, .bipush 16, 0)) rfl) rfl rfl ?_
                      refine w_load (pc' := 125) (v := .int (zn k)) (m := 2) (ykc_237 (e := (2, .iload 7, 0)) rfl) rfl rfl ?_
                      have e1248 : ((Int8.ofInt 16).toInt32) + (zn k) = zn (16 + k) := (zaddN (a := 16) (b := k) c_2 (znt (by omega)) (by omega)) 
                      have te1248 := znt (k := 16 + k) (by omega)
                      refine w_alu (pc' := 126) (st' := [.int (zn (16 + k)), .ref 174, .int (zBs (zsh v P kd nn ff sp) k)]) (ykc_237 (e := (0, .iadd, 0)) rfl) (by rw [← e1248]; rfl) rfl ?_
                      refine w_ialk (pc' := 127) (k := 16 + k) (ykc_237 (e := (5, .iaload, 0)) rfl) u1246.1 (by omega) rfl ?_
                      refine w_alu (pc' := 128) (st' := [.int ((zBs (zsh v P kd nn ff sp) k) + (zn (zsv kd nn ff sp k)))]) (ykc_237 (e := (0, .iadd, 0)) rfl) rfl rfl ?_
                      refine w_store (pc' := 130) (L' := [some (.ref 170), some (.int kd), some (.int nn), some (.int ff), some (.int sp), some (.int ((zBs (zsh v P kd nn ff sp) k) + (zn (zsv kd nn ff sp k)))), some (.int (zsq ff sp k)), some (.int (zn k)), some (.int (zsq ff sp k))]) (st' := []) (m := 2) (ykc_237 (e := (3, .istore 5, 0)) rfl) rfl rfl ?_
                      refine w_load (pc' := 132) (v := .int (zsq ff sp k)) (m := 2) (ykc_237 (e := (2, .iload 6, 0)) rfl) rfl rfl ?_
                      refine w_load (pc' := 134) (v := .int sp) (m := 2) (ykc_237 (e := (2, .iload 4, 0)) rfl) rfl rfl ?_
                      refine w_alu (pc' := 135) (st' := [.int ((zsq ff sp k) + sp)]) (ykc_237 (e := (0, .iadd, 0)) rfl) rfl rfl ?_
                      refine w_store (pc' := 137) (L' := [some (.ref 170), some (.int kd), some (.int nn), some (.int ff), some (.int sp), some (.int ((zBs (zsh v P kd nn ff sp) k) + (zn (zsv kd nn ff sp k)))), some (.int ((zsq ff sp k) + sp)), some (.int (zn k)), some (.int (zsq ff sp k))]) (st' := []) (m := 2) (ykc_237 (e := (3, .istore 6, 0)) rfl) rfl rfl ?_
                      have e1249 : (zn k) + Int32.ofInt 1 = zn (k + 1) := (zaddN (a := k) (b := 1) (znt (by omega)) c_6 (by omega))
                      have te1249 := znt (k := k + 1) (by omega)
                      refine w_store (pc' := 140) (L' := [some (.ref 170), some (.int kd), some (.int nn), some (.int ff), some (.int sp), some (.int ((zBs (zsh v P kd nn ff sp) k) + (zn (zsv kd nn ff sp k)))), some (.int ((zsq ff sp k) + sp)), some (.int (zn (k + 1))), some (.int (zsq ff sp k))]) (st' := []) (m := 3) (ykc_237 (e := (3, .iinc 7 1, 0)) rfl) (by rw [← e1249]; rfl) rfl ?_
                      refine w_gb (ykc_237 (e := (4, .goto (-94), 46)) rfl) (fun k1250 hk1250 => ?_)
                      have h9 := ih k1250 hk1250 (k + 1) (some (.int (zsq ff sp k))) _ (by omega) (zFr_add hf u1246 (Or.inl (by simp))) (fun i hi => by
                        by_cases e : i = k
                        · subst e
                          exact u1246.1
                        · exact (u1246.2.1 174 (16 + i) (fun q => e (by have q2 := q.2; omega))).trans (hr i (by omega))) (fun j hj => (u1246.2.1 174 j (fun q => by have q2 := q.2; omega)).trans (ho j (by omega)))
                      rw [show zBs (zsh v P kd nn ff sp) (k + 1) = zBs (zsh v P kd nn ff sp) k + zn (zsv kd nn ff sp k) by
                        show _ + zn (zsh v P kd nn ff sp (16 + k)) = _
                        rw [zsh_b (by omega)]] at h9
                      exact h9
                    · refine w_load (pc' := 96) (v := .int (zn k)) (m := 2) (ykc_237 (e := (2, .iload 7, 0)) rfl) rfl rfl ?_
                      refine w_load (pc' := 97) (v := .int nn) (m := 1) (ykc_237 (e := (2, .iload_n kF2, 0)) rfl) rfl rfl ?_
                      refine w_ilt (ykc_237 (e := (4, .if_icmp .lt 7, 104)) rfl) rfl (fun b1251 => ?_) (fun b1251 => ?_)
                      · refine w_alu (pc' := 105) (st' := [.int (Int32.ofInt 0), .int (zn (16 + k)), .ref 174]) (ykc_237 (e := (0, .iconst 0, 0)) rfl) rfl rfl ?_
                        refine w_alu (pc' := 106) (st' := [.int (Int32.ofInt 4), .int (Int32.ofInt 0), .int (zn (16 + k)), .ref 174]) (ykc_237 (e := (0, .iconst 4, 0)) rfl) rfl rfl ?_
                        refine w_load (pc' := 108) (v := .int (zsq ff sp k)) (m := 2) (ykc_237 (e := (2, .iload 8, 0)) rfl) rfl rfl ?_
                        obtain ⟨z1252, e_z1252⟩ : ∃ zq : Int32, (if (zsq ff sp k) < (Int32.ofInt 4) then (zsq ff sp k) else (Int32.ofInt 4)) = zq := ⟨_, rfl⟩
                        have h_z1252 := zminI e_z1252
                        refine w_mem1 (pc' := 111) (m := 3) (st' := [.int z1252, .int (Int32.ofInt 0), .int (zn (16 + k)), .ref 174]) (ph' := ph9) (ykc_237 (e := (5, .invokestatic 145, 0)) rfl) (by rw [← e_z1252]; rfl) rfl ?_
                        obtain ⟨z1253, e_z1253⟩ : ∃ zq : Int32, (if (Int32.ofInt 0) < z1252 then z1252 else (Int32.ofInt 0)) = zq := ⟨_, rfl⟩
                        have h_z1253 := zmaxI e_z1253
                        refine w_mem1 (pc' := 114) (m := 3) (st' := [.int z1253, .int (zn (16 + k)), .ref 174]) (ph' := ph9) (ykc_237 (e := (5, .invokestatic 273, 0)) rfl) (by rw [← e_z1253]; rfl) rfl ?_
                        have ev : zsv kd nn ff sp k = zq4 (zsck kd (zsq ff sp k)) := if_neg (by omega)
                        have ez : z1253 = zn (zsv kd nn ff sp k) := zn_of (by rw [ev, e9]; unfold zq4; omega)
                        rw [ez]
                        show zW n D 237 Q 114 [some (.ref 170), some (.int kd), some (.int nn), some (.int ff), some (.int sp), some (.int (zBs (zsh v P kd nn ff sp) k)), some (.int (zsq ff sp k)), some (.int (zn k)), some (.int (zsq ff sp k))] [.int (zn (zsv kd nn ff sp k)), .int (zn (16 + k)), .ref 174] ph9
                        refine w_ias (pc' := 115) (k := 16 + k) (ykc_237 (e := (5, .iastore, 0)) rfl) (by omega) rfl (fun ph1255 u1254 => ?_)
                        refine w_load (pc' := 117) (v := .int (zBs (zsh v P kd nn ff sp) k)) (m := 2) (ykc_237 (e := (2, .iload 5, 0)) rfl) rfl rfl ?_
                        refine w_load (pc' := 118) (v := .ref 170) (m := 1) (ykc_237 (e := (2, .aload_n kF0, 0)) rfl) rfl rfl ?_
                        refine w_gf (pc' := 121) (v := .ref 174) (ykc_237 (e := (5, .getfield 41, 0)) rfl) rfl ((u1254.2.1 170 11 (fun q => absurd q.1 (by decide))).trans ((hf.1 170 11 (by decide) (by decide)).trans (zsg hS1 zs_170_11))) rfl ?_
                        refine w_push (pc' := 123) (v := .int ((Int8.ofInt 16).toInt32)) (m := 2) (ykc_237 (e := (1, .bipush 16, 0)) rfl) rfl rfl ?_
                        refine w_load (pc' := 125) (v := .int (zn k)) (m := 2) (ykc_237 (e := (2, .iload 7, 0)) rfl) rfl rfl ?_
                        have e1256 : ((Int8.ofInt 16).toInt32) + (zn k) = zn (16 + k) := (zaddN (a := 16) (b := k) c_2 (znt (by omega)) (by omega)) 
                        have te1256 := znt (k := 16 + k) (by omega)
                        refine w_alu (pc' := 126) (st' := [.int (zn (16 + k)), .ref 174, .int (zBs (zsh v P kd nn ff sp) k)]) (ykc_237 (e := (0, .iadd, 0)) rfl) (by rw [← e1256]; rfl) rfl ?_
                        refine w_ialk (pc' := 127) (k := 16 + k) (ykc_237 (e := (5, .iaload, 0)) rfl) u1254.1 (by omega) rfl ?_
                        refine w_alu (pc' := 128) (st' := [.int ((zBs (zsh v P kd nn ff sp) k) + (zn (zsv kd nn ff sp k)))]) (ykc_237 (e := (0, .iadd, 0)) rfl) rfl rfl ?_
                        refine w_store (pc' := 130) (L' := [some (.ref 170), some (.int kd), some (.int nn), some (.int ff), some (.int sp), some (.int ((zBs (zsh v P kd nn ff sp) k) + (zn (zsv kd nn ff sp k)))), some (.int (zsq ff sp k)), some (.int (zn k)), some (.int (zsq ff sp k))]) (st' := []) (m := 2) (ykc_237 (e := (3, .istore 5, 0)) rfl) rfl rfl ?_
                        refine w_load (pc' := 132) (v := .int (zsq ff sp k)) (m := 2) (ykc_237 (e := (2, .iload 6, 0)) rfl) rfl rfl ?_
                        refine w_load (pc' := 134) (v := .int sp) (m := 2) (ykc_237 (e := (2, .iload 4, 0)) rfl) rfl rfl ?_
                        refine w_alu (pc' := 135) (st' := [.int ((zsq ff sp k) + sp)]) (ykc_237 (e := (0, .iadd, 0)) rfl) rfl rfl ?_
                        refine w_store (pc' := 137) (L' := [some (.ref 170), some (.int kd), some (.int nn), some (.int ff), some (.int sp), some (.int ((zBs (zsh v P kd nn ff sp) k) + (zn (zsv kd nn ff sp k)))), some (.int ((zsq ff sp k) + sp)), some (.int (zn k)), some (.int (zsq ff sp k))]) (st' := []) (m := 2) (ykc_237 (e := (3, .istore 6, 0)) rfl) rfl rfl ?_
                        have e1257 : (zn k) + Int32.ofInt 1 = zn (k + 1) := (zaddN (a := k) (b := 1) (znt (by omega)) c_6 (by omega))
                        have te1257 := znt (k := k + 1) (by omega)
                        refine w_store (pc' := 140) (L' := [some (.ref 170), some (.int kd), some (.int nn), some (.int ff), some (.int sp), some (.int ((zBs (zsh v P kd nn ff sp) k) + (zn (zsv kd nn ff sp k)))), some (.int ((zsq ff sp k) + sp)), some (.int (zn (k + 1))), some (.int (zsq ff sp k))]) (st' := []) (m := 3) (ykc_237 (e := (3, .iinc 7 1, 0)) rfl) (by rw [← e1257]; rfl) rfl ?_
                        refine w_gb (ykc_237 (e := (4, .goto (-94), 46)) rfl) (fun k1258 hk1258 => ?_)
                        have h9 := ih k1258 hk1258 (k + 1) (some (.int (zsq ff sp k))) _ (by omega) (zFr_add hf u1254 (Or.inl (by simp))) (fun i hi => by
                          by_cases e : i = k
                          · subst e
                            exact u1254.1
                          · exact (u1254.2.1 174 (16 + i) (fun q => e (by have q2 := q.2; omega))).trans (hr i (by omega))) (fun j hj => (u1254.2.1 174 j (fun q => by have q2 := q.2; omega)).trans (ho j (by omega)))
                        rw [show zBs (zsh v P kd nn ff sp) (k + 1) = zBs (zsh v P kd nn ff sp) k + zn (zsv kd nn ff sp k) by
                          show _ + zn (zsh v P kd nn ff sp (16 + k)) = _
                          rw [zsh_b (by omega)]] at h9
                        exact h9
                      · refine w_alu (pc' := 101) (st' := [.int (Int32.ofInt 0), .int (zn (16 + k)), .ref 174]) (ykc_237 (e := (0, .iconst 0, 0)) rfl) rfl rfl ?_
                        refine w_br (pc' := 114) (st' := [.int (Int32.ofInt 0), .int (zn (16 + k)), .ref 174]) (ykc_237 (e := (4, .goto 13, 114)) rfl) rfl ?_
                        have ev : zsv kd nn ff sp k = 0 := if_pos (by omega)
                        have ez : Int32.ofInt 0 = zn (zsv kd nn ff sp k) := by
                          rw [ev]
                          rfl
                        rw [ez]
                        show zW n D 237 Q 114 [some (.ref 170), some (.int kd), some (.int nn), some (.int ff), some (.int sp), some (.int (zBs (zsh v P kd nn ff sp) k)), some (.int (zsq ff sp k)), some (.int (zn k)), some (.int (zsq ff sp k))] [.int (zn (zsv kd nn ff sp k)), .int (zn (16 + k)), .ref 174] ph9
                        refine w_ias (pc' := 115) (k := 16 + k) (ykc_237 (e := (5, .iastore, 0)) rfl) (by omega) rfl (fun ph1260 u1259 => ?_)
                        refine w_load (pc' := 117) (v := .int (zBs (zsh v P kd nn ff sp) k)) (m := 2) (ykc_237 (e := (2, .iload 5, 0)) rfl) rfl rfl ?_
                        refine w_load (pc' := 118) (v := .ref 170) (m := 1) (ykc_237 (e := (2, .aload_n kF0, 0)) rfl) rfl rfl ?_
                        refine w_gf (pc' := 121) (v := .ref 174) (ykc_237 (e := (5, .getfield 41, 0)) rfl) rfl ((u1259.2.1 170 11 (fun q => absurd q.1 (by decide))).trans ((hf.1 170 11 (by decide) (by decide)).trans (zsg hS1 zs_170_11))) rfl ?_
                        refine w_push (pc' := 123) (v := .int ((Int8.ofInt 16).toInt32)) (m := 2) (ykc_237 (e := (1, .bipush 16, 0)) rfl) rfl rfl ?_
                        refine w_load (pc' := 125) (v := .int (zn k)) (m := 2) (ykc_237 (e := (2, .iload 7, 0)) rfl) rfl rfl ?_
                        have e1261 : ((Int8.ofInt 16).toInt32) + (zn k) = zn (16 + k) := (zaddN (a := 16) (b := k) c_2 (znt (by omega)) (by omega)) 
                        have te1261 := znt (k := 16 + k) (by omega)
                        refine w_alu (pc' := 126) (st' := [.int (zn (16 + k)), .ref 174, .int (zBs (zsh v P kd nn ff sp) k)]) (ykc_237 (e := (0, .iadd, 0)) rfl) (by rw [← e1261]; rfl) rfl ?_
                        refine w_ialk (pc' := 127) (k := 16 + k) (ykc_237 (e := (5, .iaload, 0)) rfl) u1259.1 (by omega) rfl ?_
                        refine w_alu (pc' := 128) (st' := [.int ((zBs (zsh v P kd nn ff sp) k) + (zn (zsv kd nn ff sp k)))]) (ykc_237 (e := (0, .iadd, 0)) rfl) rfl rfl ?_
                        refine w_store (pc' := 130) (L' := [some (.ref 170), some (.int kd), some (.int nn), some (.int ff), some (.int sp), some (.int ((zBs (zsh v P kd nn ff sp) k) + (zn (zsv kd nn ff sp k)))), some (.int (zsq ff sp k)), some (.int (zn k)), some (.int (zsq ff sp k))]) (st' := []) (m := 2) (ykc_237 (e := (3, .istore 5, 0)) rfl) rfl rfl ?_
                        refine w_load (pc' := 132) (v := .int (zsq ff sp k)) (m := 2) (ykc_237 (e := (2, .iload 6, 0)) rfl) rfl rfl ?_
                        refine w_load (pc' := 134) (v := .int sp) (m := 2) (ykc_237 (e := (2, .iload 4, 0)) rfl) rfl rfl ?_
                        refine w_alu (pc' := 135) (st' := [.int ((zsq ff sp k) + sp)]) (ykc_237 (e := (0, .iadd, 0)) rfl) rfl rfl ?_
                        refine w_store (pc' := 137) (L' := [some (.ref 170), some (.int kd), some (.int nn), some (.int ff), some (.int sp), some (.int ((zBs (zsh v P kd nn ff sp) k) + (zn (zsv kd nn ff sp k)))), some (.int ((zsq ff sp k) + sp)), some (.int (zn k)), some (.int (zsq ff sp k))]) (st' := []) (m := 2) (ykc_237 (e := (3, .istore 6, 0)) rfl) rfl rfl ?_
                        have e1262 : (zn k) + Int32.ofInt 1 = zn (k + 1) := (zaddN (a := k) (b := 1) (znt (by omega)) c_6 (by omega))
                        have te1262 := znt (k := k + 1) (by omega)
                        refine w_store (pc' := 140) (L' := [some (.ref 170), some (.int kd), some (.int nn), some (.int ff), some (.int sp), some (.int ((zBs (zsh v P kd nn ff sp) k) + (zn (zsv kd nn ff sp k)))), some (.int ((zsq ff sp k) + sp)), some (.int (zn (k + 1))), some (.int (zsq ff sp k))]) (st' := []) (m := 3) (ykc_237 (e := (3, .iinc 7 1, 0)) rfl) (by rw [← e1262]; rfl) rfl ?_
                        refine w_gb (ykc_237 (e := (4, .goto (-94), 46)) rfl) (fun k1263 hk1263 => ?_)
                        have h9 := ih k1263 hk1263 (k + 1) (some (.int (zsq ff sp k))) _ (by omega) (zFr_add hf u1259 (Or.inl (by simp))) (fun i hi => by
                          by_cases e : i = k
                          · subst e
                            exact u1259.1
                          · exact (u1259.2.1 174 (16 + i) (fun q => e (by have q2 := q.2; omega))).trans (hr i (by omega))) (fun j hj => (u1259.2.1 174 j (fun q => by have q2 := q.2; omega)).trans (ho j (by omega)))
                        rw [show zBs (zsh v P kd nn ff sp) (k + 1) = zBs (zsh v P kd nn ff sp) k + zn (zsv kd nn ff sp k) by
                          show _ + zn (zsh v P kd nn ff sp (16 + k)) = _
                          rw [zsh_b (by omega)]] at h9
                        exact h9
                  · refine w_load (pc' := 72) (v := .int (zsq ff sp k)) (m := 2) (ykc_237 (e := (2, .iload 6, 0)) rfl) rfl rfl ?_
                    obtain ⟨z1264, e_z1264, h_z1264⟩ : ∃ zq : Int32, (zsq ff sp k).toInt16.toInt32 = zq ∧ zq.toInt = ((zsq ff sp k).toInt16.toInt32).toInt := ⟨_, rfl, rfl⟩
                    refine w_alu (pc' := 73) (st' := [.int z1264]) (ykc_237 (e := (0, .i2s, 0)) rfl) (by rw [← e_z1264]; rfl) rfl ?_
                    refine w_br (pc' := 78) (st' := [.int z1264]) (ykc_237 (e := (4, .goto 5, 78)) rfl) rfl ?_
                    refine w_store (pc' := 80) (L' := [some (.ref 170), some (.int kd), some (.int nn), some (.int ff), some (.int sp), some (.int (zBs (zsh v P kd nn ff sp) k)), some (.int (zsq ff sp k)), some (.int (zn k)), some (.int z1264)]) (st' := []) (m := 2) (ykc_237 (e := (3, .istore 8, 0)) rfl) rfl rfl ?_
                    have e9 : zsck kd (zsq ff sp k) = (zsq ff sp k).toInt16.toInt32 := (by
                      unfold zsck
                      rw [if_neg (by omega), if_pos (by omega)])
                    refine w_load (pc' := 81) (v := .ref 170) (m := 1) (ykc_237 (e := (2, .aload_n kF0, 0)) rfl) rfl rfl ?_
                    refine w_gf (pc' := 84) (v := .ref 174) (ykc_237 (e := (5, .getfield 41, 0)) rfl) rfl ((hf.1 170 11 (by decide) (by decide)).trans (zsg hS1 zs_170_11)) rfl ?_
                    refine w_push (pc' := 86) (v := .int ((Int8.ofInt 16).toInt32)) (m := 2) (ykc_237 (e := (1, .bipush 16, 0)) rfl) rfl rfl ?_
                    refine w_load (pc' := 88) (v := .int (zn k)) (m := 2) (ykc_237 (e := (2, .iload 7, 0)) rfl) rfl rfl ?_
                    have e1265 : ((Int8.ofInt 16).toInt32) + (zn k) = zn (16 + k) := (zaddN (a := 16) (b := k) c_2 (znt (by omega)) (by omega)) 
                    have te1265 := znt (k := 16 + k) (by omega)
                    refine w_alu (pc' := 89) (st' := [.int (zn (16 + k)), .ref 174]) (ykc_237 (e := (0, .iadd, 0)) rfl) (by rw [← e1265]; rfl) rfl ?_
                    refine w_load (pc' := 90) (v := .int kd) (m := 1) (ykc_237 (e := (2, .iload_n kF1, 0)) rfl) rfl rfl ?_
                    refine w_alu (pc' := 91) (st' := [.int (Int32.ofInt 3), .int kd, .int (zn (16 + k)), .ref 174]) (ykc_237 (e := (0, .iconst 3, 0)) rfl) rfl rfl ?_
                    refine w_ieq (ykc_237 (e := (4, .if_icmp .eq 9, 100)) rfl) rfl (fun b1266 => ?_) (fun b1266 => ?_)
                    · refine w_alu (pc' := 101) (st' := [.int (Int32.ofInt 0), .int (zn (16 + k)), .ref 174]) (ykc_237 (e := (0, .iconst 0, 0)) rfl) rfl rfl ?_
                      refine w_br (pc' := 114) (st' := [.int (Int32.ofInt 0), .int (zn (16 + k)), .ref 174]) (ykc_237 (e := (4, .goto 13, 114)) rfl) rfl ?_
                      have ev : zsv kd nn ff sp k = 0 := if_pos (by omega)
                      have ez : Int32.ofInt 0 = zn (zsv kd nn ff sp k) := by
                        rw [ev]
                        rfl
                      rw [ez]
                      show zW n D 237 Q 114 [some (.ref 170), some (.int kd), some (.int nn), some (.int ff), some (.int sp), some (.int (zBs (zsh v P kd nn ff sp) k)), some (.int (zsq ff sp k)), some (.int (zn k)), some (.int z1264)] [.int (zn (zsv kd nn ff sp k)), .int (zn (16 + k)), .ref 174] ph9
                      refine w_ias (pc' := 115) (k := 16 + k) (ykc_237 (e := (5, .iastore, 0)) rfl) (by omega) rfl (fun ph1268 u1267 => ?_)
                      refine w_load (pc' := 117) (v := .int (zBs (zsh v P kd nn ff sp) k)) (m := 2) (ykc_237 (e := (2, .iload 5, 0)) rfl) rfl rfl ?_
                      refine w_load (pc' := 118) (v := .ref 170) (m := 1) (ykc_237 (e := (2, .aload_n kF0, 0)) rfl) rfl rfl ?_
                      refine w_gf (pc' := 121) (v := .ref 174) (ykc_237 (e := (5, .getfield 41, 0)) rfl) rfl ((u1267.2.1 170 11 (fun q => absurd q.1 (by decide))).trans ((hf.1 170 11 (by decide) (by decide)).trans (zsg hS1 zs_170_11))) rfl ?_
                      refine w_push (pc' := 123) (v := .int ((Int8.ofInt 16).toInt32)) (m := 2) (ykc_237 (e := (1, .bipush 16, 0)) rfl) rfl rfl ?_
                      refine w_load (pc' := 125) (v := .int (zn k)) (m := 2) (ykc_237 (e := (2, .iload 7, 0)) rfl) rfl rfl ?_
                      have e1269 : ((Int8.ofInt 16).toInt32) + (zn k) = zn (16 + k) := (zaddN (a := 16) (b := k) c_2 (znt (by omega)) (by omega)) 
                      have te1269 := znt (k := 16 + k) (by omega)
                      refine w_alu (pc' := 126) (st' := [.int (zn (16 + k)), .ref 174, .int (zBs (zsh v P kd nn ff sp) k)]) (ykc_237 (e := (0, .iadd, 0)) rfl) (by rw [← e1269]; rfl) rfl ?_
                      refine w_ialk (pc' := 127) (k := 16 + k) (ykc_237 (e := (5, .iaload, 0)) rfl) u1267.1 (by omega) rfl ?_
                      refine w_alu (pc' := 128) (st' := [.int ((zBs (zsh v P kd nn ff sp) k) + (zn (zsv kd nn ff sp k)))]) (ykc_237 (e := (0, .iadd, 0)) rfl) rfl rfl ?_
                      refine w_store (pc' := 130) (L' := [some (.ref 170), some (.int kd), some (.int nn), some (.int ff), some (.int sp), some (.int ((zBs (zsh v P kd nn ff sp) k) + (zn (zsv kd nn ff sp k)))), some (.int (zsq ff sp k)), some (.int (zn k)), some (.int z1264)]) (st' := []) (m := 2) (ykc_237 (e := (3, .istore 5, 0)) rfl) rfl rfl ?_
                      refine w_load (pc' := 132) (v := .int (zsq ff sp k)) (m := 2) (ykc_237 (e := (2, .iload 6, 0)) rfl) rfl rfl ?_
                      refine w_load (pc' := 134) (v := .int sp) (m := 2) (ykc_237 (e := (2, .iload 4, 0)) rfl) rfl rfl ?_
                      refine w_alu (pc' := 135) (st' := [.int ((zsq ff sp k) + sp)]) (ykc_237 (e := (0, .iadd, 0)) rfl) rfl rfl ?_
                      refine w_store (pc' := 137) (L' := [some (.ref 170), some (.int kd), some (.int nn), some (.int ff), some (.int sp), some (.int ((zBs (zsh v P kd nn ff sp) k) + (zn (zsv kd nn ff sp k)))), some (.int ((zsq ff sp k) + sp)), some (.int (zn k)), some (.int z1264)]) (st' := []) (m := 2) (ykc_237 (e := (3, .istore 6, 0)) rfl) rfl rfl ?_
                      have e1270 : (zn k) + Int32.ofInt 1 = zn (k + 1) := (zaddN (a := k) (b := 1) (znt (by omega)) c_6 (by omega))
                      have te1270 := znt (k := k + 1) (by omega)
                      refine w_store (pc' := 140) (L' := [some (.ref 170), some (.int kd), some (.int nn), some (.int ff), some (.int sp), some (.int ((zBs (zsh v P kd nn ff sp) k) + (zn (zsv kd nn ff sp k)))), some (.int ((zsq ff sp k) + sp)), some (.int (zn (k + 1))), some (.int z1264)]) (st' := []) (m := 3) (ykc_237 (e := (3, .iinc 7 1, 0)) rfl) (by rw [← e1270]; rfl) rfl ?_
                      refine w_gb (ykc_237 (e := (4, .goto (-94), 46)) rfl) (fun k1271 hk1271 => ?_)
                      have h9 := ih k1271 hk1271 (k + 1) (some (.int z1264)) _ (by omega) (zFr_add hf u1267 (Or.inl (by simp))) (fun i hi => by
                        by_cases e : i = k
                        · subst e
                          exact u1267.1
                        · exact (u1267.2.1 174 (16 + i) (fun q => e (by have q2 := q.2; omega))).trans (hr i (by omega))) (fun j hj => (u1267.2.1 174 j (fun q => by have q2 := q.2; omega)).trans (ho j (by omega)))
                      rw [show zBs (zsh v P kd nn ff sp) (k + 1) = zBs (zsh v P kd nn ff sp) k + zn (zsv kd nn ff sp k) by
                        show _ + zn (zsh v P kd nn ff sp (16 + k)) = _
                        rw [zsh_b (by omega)]] at h9
                      exact h9
                    · refine w_load (pc' := 96) (v := .int (zn k)) (m := 2) (ykc_237 (e := (2, .iload 7, 0)) rfl) rfl rfl ?_
                      refine w_load (pc' := 97) (v := .int nn) (m := 1) (ykc_237 (e := (2, .iload_n kF2, 0)) rfl) rfl rfl ?_
                      refine w_ilt (ykc_237 (e := (4, .if_icmp .lt 7, 104)) rfl) rfl (fun b1272 => ?_) (fun b1272 => ?_)
                      · refine w_alu (pc' := 105) (st' := [.int (Int32.ofInt 0), .int (zn (16 + k)), .ref 174]) (ykc_237 (e := (0, .iconst 0, 0)) rfl) rfl rfl ?_
                        refine w_alu (pc' := 106) (st' := [.int (Int32.ofInt 4), .int (Int32.ofInt 0), .int (zn (16 + k)), .ref 174]) (ykc_237 (e := (0, .iconst 4, 0)) rfl) rfl rfl ?_
                        refine w_load (pc' := 108) (v := .int z1264) (m := 2) (ykc_237 (e := (2, .iload 8, 0)) rfl) rfl rfl ?_
                        obtain ⟨z1273, e_z1273⟩ : ∃ zq : Int32, (if z1264 < (Int32.ofInt 4) then z1264 else (Int32.ofInt 4)) = zq := ⟨_, rfl⟩
                        have h_z1273 := zminI e_z1273
                        refine w_mem1 (pc' := 111) (m := 3) (st' := [.int z1273, .int (Int32.ofInt 0), .int (zn (16 + k)), .ref 174]) (ph' := ph9) (ykc_237 (e := (5, .invokestatic 145, 0)) rfl) (by rw [← e_z1273]; rfl) rfl ?_
                        obtain ⟨z1274, e_z1274⟩ : ∃ zq : Int32, (if (Int32.ofInt 0) < z1273 then z1273 else (Int32.ofInt 0)) = zq := ⟨_, rfl⟩
                        have h_z1274 := zmaxI e_z1274
                        refine w_mem1 (pc' := 114) (m := 3) (st' := [.int z1274, .int (zn (16 + k)), .ref 174]) (ph' := ph9) (ykc_237 (e := (5, .invokestatic 273, 0)) rfl) (by rw [← e_z1274]; rfl) rfl ?_
                        have ev : zsv kd nn ff sp k = zq4 (zsck kd (zsq ff sp k)) := if_neg (by omega)
                        have ez : z1274 = zn (zsv kd nn ff sp k) := zn_of (by rw [ev, e9]; unfold zq4; omega)
                        rw [ez]
                        show zW n D 237 Q 114 [some (.ref 170), some (.int kd), some (.int nn), some (.int ff), some (.int sp), some (.int (zBs (zsh v P kd nn ff sp) k)), some (.int (zsq ff sp k)), some (.int (zn k)), some (.int z1264)] [.int (zn (zsv kd nn ff sp k)), .int (zn (16 + k)), .ref 174] ph9
                        refine w_ias (pc' := 115) (k := 16 + k) (ykc_237 (e := (5, .iastore, 0)) rfl) (by omega) rfl (fun ph1276 u1275 => ?_)
                        refine w_load (pc' := 117) (v := .int (zBs (zsh v P kd nn ff sp) k)) (m := 2) (ykc_237 (e := (2, .iload 5, 0)) rfl) rfl rfl ?_
                        refine w_load (pc' := 118) (v := .ref 170) (m := 1) (ykc_237 (e := (2, .aload_n kF0, 0)) rfl) rfl rfl ?_
                        refine w_gf (pc' := 121) (v := .ref 174) (ykc_237 (e := (5, .getfield 41, 0)) rfl) rfl ((u1275.2.1 170 11 (fun q => absurd q.1 (by decide))).trans ((hf.1 170 11 (by decide) (by decide)).trans (zsg hS1 zs_170_11))) rfl ?_
                        refine w_push (pc' := 123) (v := .int ((Int8.ofInt 16).toInt32)) (m := 2) (ykc_237 (e := (1, .bipush 16, 0)) rfl) rfl rfl ?_
                        refine w_load (pc' := 125) (v := .int (zn k)) (m := 2) (ykc_237 (e := (2, .iload 7, 0)) rfl) rfl rfl ?_
                        have e1277 : ((Int8.ofInt 16).toInt32) + (zn k) = zn (16 + k) := (zaddN (a := 16) (b := k) c_2 (znt (by omega)) (by omega)) 
                        have te1277 := znt (k := 16 + k) (by omega)
                        refine w_alu (pc' := 126) (st' := [.int (zn (16 + k)), .ref 174, .int (zBs (zsh v P kd nn ff sp) k)]) (ykc_237 (e := (0, .iadd, 0)) rfl) (by rw [← e1277]; rfl) rfl ?_
                        refine w_ialk (pc' := 127) (k := 16 + k) (ykc_237 (e := (5, .iaload, 0)) rfl) u1275.1 (by omega) rfl ?_
                        refine w_alu (pc' := 128) (st' := [.int ((zBs (zsh v P kd nn ff sp) k) + (zn (zsv kd nn ff sp k)))]) (ykc_237 (e := (0, .iadd, 0)) rfl) rfl rfl ?_
                        refine w_store (pc' := 130) (L' := [some (.ref 170), some (.int kd), some (.int nn), some (.int ff), some (.int sp), some (.int ((zBs (zsh v P kd nn ff sp) k) + (zn (zsv kd nn ff sp k)))), some (.int (zsq ff sp k)), some (.int (zn k)), some (.int z1264)]) (st' := []) (m := 2) (ykc_237 (e := (3, .istore 5, 0)) rfl) rfl rfl ?_
                        refine w_load (pc' := 132) (v := .int (zsq ff sp k)) (m := 2) (ykc_237 (e := (2, .iload 6, 0)) rfl) rfl rfl ?_
                        refine w_load (pc' := 134) (v := .int sp) (m := 2) (ykc_237 (e := (2, .iload 4, 0)) rfl) rfl rfl ?_
                        refine w_alu (pc' := 135) (st' := [.int ((zsq ff sp k) + sp)]) (ykc_237 (e := (0, .iadd, 0)) rfl) rfl rfl ?_
                        refine w_store (pc' := 137) (L' := [some (.ref 170), some (.int kd), some (.int nn), some (.int ff), some (.int sp), some (.int ((zBs (zsh v P kd nn ff sp) k) + (zn (zsv kd nn ff sp k)))), some (.int ((zsq ff sp k) + sp)), some (.int (zn k)), some (.int z1264)]) (st' := []) (m := 2) (ykc_237 (e := (3, .istore 6, 0)) rfl) rfl rfl ?_
                        have e1278 : (zn k) + Int32.ofInt 1 = zn (k + 1) := (zaddN (a := k) (b := 1) (znt (by omega)) c_6 (by omega))
                        have te1278 := znt (k := k + 1) (by omega)
                        refine w_store (pc' := 140) (L' := [some (.ref 170), some (.int kd), some (.int nn), some (.int ff), some (.int sp), some (.int ((zBs (zsh v P kd nn ff sp) k) + (zn (zsv kd nn ff sp k)))), some (.int ((zsq ff sp k) + sp)), some (.int (zn (k + 1))), some (.int z1264)]) (st' := []) (m := 3) (ykc_237 (e := (3, .iinc 7 1, 0)) rfl) (by rw [← e1278]; rfl) rfl ?_
                        refine w_gb (ykc_237 (e := (4, .goto (-94), 46)) rfl) (fun k1279 hk1279 => ?_)
                        have h9 := ih k1279 hk1279 (k + 1) (some (.int z1264)) _ (by omega) (zFr_add hf u1275 (Or.inl (by simp))) (fun i hi => by
                          by_cases e : i = k
                          · subst e
                            exact u1275.1
                          · exact (u1275.2.1 174 (16 + i) (fun q => e (by have q2 := q.2; omega))).trans (hr i (by omega))) (fun j hj => (u1275.2.1 174 j (fun q => by have q2 := q.2; omega)).trans (ho j (by omega)))
                        rw [show zBs (zsh v P kd nn ff sp) (k + 1) = zBs (zsh v P kd nn ff sp) k + zn (zsv kd nn ff sp k) by
                          show _ + zn (zsh v P kd nn ff sp (16 + k)) = _
                          rw [zsh_b (by omega)]] at h9
                        exact h9
                      · refine w_alu (pc' := 101) (st' := [.int (Int32.ofInt 0), .int (zn (16 + k)), .ref 174]) (ykc_237 (e := (0, .iconst 0, 0)) rfl) rfl rfl ?_
                        refine w_br (pc' := 114) (st' := [.int (Int32.ofInt 0), .int (zn (16 + k)), .ref 174]) (ykc_237 (e := (4, .goto 13, 114)) rfl) rfl ?_
                        have ev : zsv kd nn ff sp k = 0 := if_pos (by omega)
                        have ez : Int32.ofInt 0 = zn (zsv kd nn ff sp k) := by
                          rw [ev]
                          rfl
                        rw [ez]
                        show zW n D 237 Q 114 [some (.ref 170), some (.int kd), some (.int nn), some (.int ff), some (.int sp), some (.int (zBs (zsh v P kd nn ff sp) k)), some (.int (zsq ff sp k)), some (.int (zn k)), some (.int z1264)] [.int (zn (zsv kd nn ff sp k)), .int (zn (16 + k)), .ref 174] ph9
                        refine w_ias (pc' := 115) (k := 16 + k) (ykc_237 (e := (5, .iastore, 0)) rfl) (by omega) rfl (fun ph1281 u1280 => ?_)
                        refine w_load (pc' := 117) (v := .int (zBs (zsh v P kd nn ff sp) k)) (m := 2) (ykc_237 (e := (2, .iload 5, 0)) rfl) rfl rfl ?_
                        refine w_load (pc' := 118) (v := .ref 170) (m := 1) (ykc_237 (e := (2, .aload_n kF0, 0)) rfl) rfl rfl ?_
                        refine w_gf (pc' := 121) (v := .ref 174) (ykc_237 (e := (5, .getfield 41, 0)) rfl) rfl ((u1280.2.1 170 11 (fun q => absurd q.1 (by decide))).trans ((hf.1 170 11 (by decide) (by decide)).trans (zsg hS1 zs_170_11))) rfl ?_
                        refine w_push (pc' := 123) (v := .int ((Int8.ofInt 16).toInt32)) (m := 2) (ykc_237 (e := (1, .bipush 16, 0)) rfl) rfl rfl ?_
                        refine w_load (pc' := 125) (v := .int (zn k)) (m := 2) (ykc_237 (e := (2, .iload 7, 0)) rfl) rfl rfl ?_
                        have e1282 : ((Int8.ofInt 16).toInt32) + (zn k) = zn (16 + k) := (zaddN (a := 16) (b := k) c_2 (znt (by omega)) (by omega)) 
                        have te1282 := znt (k := 16 + k) (by omega)
                        refine w_alu (pc' := 126) (st' := [.int (zn (16 + k)), .ref 174, .int (zBs (zsh v P kd nn ff sp) k)]) (ykc_237 (e := (0, .iadd, 0)) rfl) (by rw [← e1282]; rfl) rfl ?_
                        refine w_ialk (pc' := 127) (k := 16 + k) (ykc_237 (e := (5, .iaload, 0)) rfl) u1280.1 (by omega) rfl ?_
                        refine w_alu (pc' := 128) (st' := [.int ((zBs (zsh v P kd nn ff sp) k) + (zn (zsv kd nn ff sp k)))]) (ykc_237 (e := (0, .iadd, 0)) rfl) rfl rfl ?_
                        refine w_store (pc' := 130) (L' := [some (.ref 170), some (.int kd), some (.int nn), some (.int ff), some (.int sp), some (.int ((zBs (zsh v P kd nn ff sp) k) + (zn (zsv kd nn ff sp k)))), some (.int (zsq ff sp k)), some (.int (zn k)), some (.int z1264)]) (st' := []) (m := 2) (ykc_237 (e := (3, .istore 5, 0)) rfl) rfl rfl ?_
                        refine w_load (pc' := 132) (v := .int (zsq ff sp k)) (m := 2) (ykc_237 (e := (2, .iload 6, 0)) rfl) rfl rfl ?_
                        refine w_load (pc' := 134) (v := .int sp) (m := 2) (ykc_237 (e := (2, .iload 4, 0)) rfl) rfl rfl ?_
                        refine w_alu (pc' := 135) (st' := [.int ((zsq ff sp k) + sp)]) (ykc_237 (e := (0, .iadd, 0)) rfl) rfl rfl ?_
                        refine w_store (pc' := 137) (L' := [some (.ref 170), some (.int kd), some (.int nn), some (.int ff), some (.int sp), some (.int ((zBs (zsh v P kd nn ff sp) k) + (zn (zsv kd nn ff sp k)))), some (.int ((zsq ff sp k) + sp)), some (.int (zn k)), some (.int z1264)]) (st' := []) (m := 2) (ykc_237 (e := (3, .istore 6, 0)) rfl) rfl rfl ?_
                        have e1283 : (zn k) + Int32.ofInt 1 = zn (k + 1) := (zaddN (a := k) (b := 1) (znt (by omega)) c_6 (by omega))
                        have te1283 := znt (k := k + 1) (by omega)
                        refine w_store (pc' := 140) (L' := [some (.ref 170), some (.int kd), some (.int nn), some (.int ff), some (.int sp), some (.int ((zBs (zsh v P kd nn ff sp) k) + (zn (zsv kd nn ff sp k)))), some (.int ((zsq ff sp k) + sp)), some (.int (zn (k + 1))), some (.int z1264)]) (st' := []) (m := 3) (ykc_237 (e := (3, .iinc 7 1, 0)) rfl) (by rw [← e1283]; rfl) rfl ?_
                        refine w_gb (ykc_237 (e := (4, .goto (-94), 46)) rfl) (fun k1284 hk1284 => ?_)
                        have h9 := ih k1284 hk1284 (k + 1) (some (.int z1264)) _ (by omega) (zFr_add hf u1280 (Or.inl (by simp))) (fun i hi => by
                          by_cases e : i = k
                          · subst e
                            exact u1280.1
                          · exact (u1280.2.1 174 (16 + i) (fun q => e (by have q2 := q.2; omega))).trans (hr i (by omega))) (fun j hj => (u1280.2.1 174 j (fun q => by have q2 := q.2; omega)).trans (ho j (by omega)))
                        rw [show zBs (zsh v P kd nn ff sp) (k + 1) = zBs (zsh v P kd nn ff sp) k + zn (zsv kd nn ff sp k) by
                          show _ + zn (zsh v P kd nn ff sp (16 + k)) = _
                          rw [zsh_b (by omega)]] at h9
                        exact h9
                · refine w_load (pc' := 61) (v := .int (zsq ff sp k)) (m := 2) (ykc_237 (e := (2, .iload 6, 0)) rfl) rfl rfl ?_
                  obtain ⟨z1285, e_z1285, h_z1285⟩ : ∃ zq : Int32, (zsq ff sp k).toInt8.toInt32 = zq ∧ zq.toInt = ((zsq ff sp k).toInt8.toInt32).toInt := ⟨_, rfl, rfl⟩
                  refine w_alu (pc' := 62) (st' := [.int z1285]) (ykc_237 (e := (0, .i2b, 0)) rfl) (by rw [← e_z1285]; rfl) rfl ?_
                  refine w_br (pc' := 78) (st' := [.int z1285]) (ykc_237 (e := (4, .goto 16, 78)) rfl) rfl ?_
                  refine w_store (pc' := 80) (L' := [some (.ref 170), some (.int kd), some (.int nn), some (.int ff), some (.int sp), some (.int (zBs (zsh v P kd nn ff sp) k)), some (.int (zsq ff sp k)), some (.int (zn k)), some (.int z1285)]) (st' := []) (m := 2) (ykc_237 (e := (3, .istore 8, 0)) rfl) rfl rfl ?_
                  have e9 : zsck kd (zsq ff sp k) = (zsq ff sp k).toInt8.toInt32 := if_pos (by omega)
                  refine w_load (pc' := 81) (v := .ref 170) (m := 1) (ykc_237 (e := (2, .aload_n kF0, 0)) rfl) rfl rfl ?_
                  refine w_gf (pc' := 84) (v := .ref 174) (ykc_237 (e := (5, .getfield 41, 0)) rfl) rfl ((hf.1 170 11 (by decide) (by decide)).trans (zsg hS1 zs_170_11)) rfl ?_
                  refine w_push (pc' := 86) (v := .int ((Int8.ofInt 16).toInt32)) (m := 2) (ykc_237 (e := (1, .bipush 16, 0)) rfl) rfl rfl ?_
                  refine w_load (pc' := 88) (v := .int (zn k)) (m := 2) (ykc_237 (e := (2, .iload 7, 0)) rfl) rfl rfl ?_
                  have e1286 : ((Int8.ofInt 16).toInt32) + (zn k) = zn (16 + k) := (zaddN (a := 16) (b := k) c_2 (znt (by omega)) (by omega)) 
                  have te1286 := znt (k := 16 + k) (by omega)
                  refine w_alu (pc' := 89) (st' := [.int (zn (16 + k)), .ref 174]) (ykc_237 (e := (0, .iadd, 0)) rfl) (by rw [← e1286]; rfl) rfl ?_
                  refine w_load (pc' := 90) (v := .int kd) (m := 1) (ykc_237 (e := (2, .iload_n kF1, 0)) rfl) rfl rfl ?_
                  refine w_alu (pc' := 91) (st' := [.int (Int32.ofInt 3), .int kd, .int (zn (16 + k)), .ref 174]) (ykc_237 (e := (0, .iconst 3, 0)) rfl) rfl rfl ?_
                  refine w_ieq (ykc_237 (e := (4, .if_icmp .eq 9, 100)) rfl) rfl (fun b1287 => ?_) (fun b1287 => ?_)
                  · refine w_alu (pc' := 101) (st' := [.int (Int32.ofInt 0), .int (zn (16 + k)), .ref 174]) (ykc_237 (e := (0, .iconst 0, 0)) rfl) rfl rfl ?_
                    refine w_br (pc' := 114) (st' := [.int (Int32.ofInt 0), .int (zn (16 + k)), .ref 174]) (ykc_237 (e := (4, .goto 13, 114)) rfl) rfl ?_
                    have ev : zsv kd nn ff sp k = 0 := if_pos (by omega)
                    have ez : Int32.ofInt 0 = zn (zsv kd nn ff sp k) := by
                      rw [ev]
                      rfl
                    rw [ez]
                    show zW n D 237 Q 114 [some (.ref 170), some (.int kd), some (.int nn), some (.int ff), some (.int sp), some (.int (zBs (zsh v P kd nn ff sp) k)), some (.int (zsq ff sp k)), some (.int (zn k)), some (.int z1285)] [.int (zn (zsv kd nn ff sp k)), .int (zn (16 + k)), .ref 174] ph9
                    refine w_ias (pc' := 115) (k := 16 + k) (ykc_237 (e := (5, .iastore, 0)) rfl) (by omega) rfl (fun ph1289 u1288 => ?_)
                    refine w_load (pc' := 117) (v := .int (zBs (zsh v P kd nn ff sp) k)) (m := 2) (ykc_237 (e := (2, .iload 5, 0)) rfl) rfl rfl ?_
                    refine w_load (pc' := 118) (v := .ref 170) (m := 1) (ykc_237 (e := (2, .aload_n kF0, 0)) rfl) rfl rfl ?_
                    refine w_gf (pc' := 121) (v := .ref 174) (ykc_237 (e := (5, .getfield 41, 0)) rfl) rfl ((u1288.2.1 170 11 (fun q => absurd q.1 (by decide))).trans ((hf.1 170 11 (by decide) (by decide)).trans (zsg hS1 zs_170_11))) rfl ?_
                    refine w_push (pc' := 123) (v := .int ((Int8.ofInt 16).toInt32)) (m := 2) (ykc_237 (e := (1, .bipush 16, 0)) rfl) rfl rfl ?_
                    refine w_load (pc' := 125) (v := .int (zn k)) (m := 2) (ykc_237 (e := (2, .iload 7, 0)) rfl) rfl rfl ?_
                    have e1290 : ((Int8.ofInt 16).toInt32) + (zn k) = zn (16 + k) := (zaddN (a := 16) (b := k) c_2 (znt (by omega)) (by omega)) 
                    have te1290 := znt (k := 16 + k) (by omega)
                    refine w_alu (pc' := 126) (st' := [.int (zn (16 + k)), .ref 174, .int (zBs (zsh v P kd nn ff sp) k)]) (ykc_237 (e := (0, .iadd, 0)) rfl) (by rw [← e1290]; rfl) rfl ?_
                    refine w_ialk (pc' := 127) (k := 16 + k) (ykc_237 (e := (5, .iaload, 0)) rfl) u1288.1 (by omega) rfl ?_
                    refine w_alu (pc' := 128) (st' := [.int ((zBs (zsh v P kd nn ff sp) k) + (zn (zsv kd nn ff sp k)))]) (ykc_237 (e := (0, .iadd, 0)) rfl) rfl rfl ?_
                    refine w_store (pc' := 130) (L' := [some (.ref 170), some (.int kd), some (.int nn), some (.int ff), some (.int sp), some (.int ((zBs (zsh v P kd nn ff sp) k) + (zn (zsv kd nn ff sp k)))), some (.int (zsq ff sp k)), some (.int (zn k)), some (.int z1285)]) (st' := []) (m := 2) (ykc_237 (e := (3, .istore 5, 0)) rfl) rfl rfl ?_
                    refine w_load (pc' := 132) (v := .int (zsq ff sp k)) (m := 2) (ykc_237 (e := (2, .iload 6, 0)) rfl) rfl rfl ?_
                    refine w_load (pc' := 134) (v := .int sp) (m := 2) (ykc_237 (e := (2, .iload 4, 0)) rfl) rfl rfl ?_
                    refine w_alu (pc' := 135) (st' := [.int ((zsq ff sp k) + sp)]) (ykc_237 (e := (0, .iadd, 0)) rfl) rfl rfl ?_
                    refine w_store (pc' := 137) (L' := [some (.ref 170), some (.int kd), some (.int nn), some (.int ff), some (.int sp), some (.int ((zBs (zsh v P kd nn ff sp) k) + (zn (zsv kd nn ff sp k)))), some (.int ((zsq ff sp k) + sp)), some (.int (zn k)), some (.int z1285)]) (st' := []) (m := 2) (ykc_237 (e := (3, .istore 6, 0)) rfl) rfl rfl ?_
                    have e1291 : (zn k) + Int32.ofInt 1 = zn (k + 1) := (zaddN (a := k) (b := 1) (znt (by omega)) c_6 (by omega))
                    have te1291 := znt (k := k + 1) (by omega)
                    refine w_store (pc' := 140) (L' := [some (.ref 170), some (.int kd), some (.int nn), some (.int ff), some (.int sp), some (.int ((zBs (zsh v P kd nn ff sp) k) + (zn (zsv kd nn ff sp k)))), some (.int ((zsq ff sp k) + sp)), some (.int (zn (k + 1))), some (.int z1285)]) (st' := []) (m := 3) (ykc_237 (e := (3, .iinc 7 1, 0)) rfl) (by rw [← e1291]; rfl) rfl ?_
                    refine w_gb (ykc_237 (e := (4, .goto (-94), 46)) rfl) (fun k1292 hk1292 => ?_)
                    have h9 := ih k1292 hk1292 (k + 1) (some (.int z1285)) _ (by omega) (zFr_add hf u1288 (Or.inl (by simp))) (fun i hi => by
                      by_cases e : i = k
                      · subst e
                        exact u1288.1
                      · exact (u1288.2.1 174 (16 + i) (fun q => e (by have q2 := q.2; omega))).trans (hr i (by omega))) (fun j hj => (u1288.2.1 174 j (fun q => by have q2 := q.2; omega)).trans (ho j (by omega)))
                    rw [show zBs (zsh v P kd nn ff sp) (k + 1) = zBs (zsh v P kd nn ff sp) k + zn (zsv kd nn ff sp k) by
                      show _ + zn (zsh v P kd nn ff sp (16 + k)) = _
                      rw [zsh_b (by omega)]] at h9
                    exact h9
                  · refine w_load (pc' := 96) (v := .int (zn k)) (m := 2) (ykc_237 (e := (2, .iload 7, 0)) rfl) rfl rfl ?_
                    refine w_load (pc' := 97) (v := .int nn) (m := 1) (ykc_237 (e := (2, .iload_n kF2, 0)) rfl) rfl rfl ?_
                    refine w_ilt (ykc_237 (e := (4, .if_icmp .lt 7, 104)) rfl) rfl (fun b1293 => ?_) (fun b1293 => ?_)
                    · refine w_alu (pc' := 105) (st' := [.int (Int32.ofInt 0), .int (zn (16 + k)), .ref 174]) (ykc_237 (e := (0, .iconst 0, 0)) rfl) rfl rfl ?_
                      refine w_alu (pc' := 106) (st' := [.int (Int32.ofInt 4), .int (Int32.ofInt 0), .int (zn (16 + k)), .ref 174]) (ykc_237 (e := (0, .iconst 4, 0)) rfl) rfl rfl ?_
                      refine w_load (pc' := 108) (v := .int z1285) (m := 2) (ykc_237 (e := (2, .iload 8, 0)) rfl) rfl rfl ?_
                      obtain ⟨z1294, e_z1294⟩ : ∃ zq : Int32, (if z1285 < (Int32.ofInt 4) then z1285 else (Int32.ofInt 4)) = zq := ⟨_, rfl⟩
                      have h_z1294 := zminI e_z1294
                      refine w_mem1 (pc' := 111) (m := 3) (st' := [.int z1294, .int (Int32.ofInt 0), .int (zn (16 + k)), .ref 174]) (ph' := ph9) (ykc_237 (e := (5, .invokestatic 145, 0)) rfl) (by rw [← e_z1294]; rfl) rfl ?_
                      obtain ⟨z1295, e_z1295⟩ : ∃ zq : Int32, (if (Int32.ofInt 0) < z1294 then z1294 else (Int32.ofInt 0)) = zq := ⟨_, rfl⟩
                      have h_z1295 := zmaxI e_z1295
                      refine w_mem1 (pc' := 114) (m := 3) (st' := [.int z1295, .int (zn (16 + k)), .ref 174]) (ph' := ph9) (ykc_237 (e := (5, .invokestatic 273, 0)) rfl) (by rw [← e_z1295]; rfl) rfl ?_
                      have ev : zsv kd nn ff sp k = zq4 (zsck kd (zsq ff sp k)) := if_neg (by omega)
                      have ez : z1295 = zn (zsv kd nn ff sp k) := zn_of (by rw [ev, e9]; unfold zq4; omega)
                      rw [ez]
                      show zW n D 237 Q 114 [some (.ref 170), some (.int kd), some (.int nn), some (.int ff), some (.int sp), some (.int (zBs (zsh v P kd nn ff sp) k)), some (.int (zsq ff sp k)), some (.int (zn k)), some (.int z1285)] [.int (zn (zsv kd nn ff sp k)), .int (zn (16 + k)), .ref 174] ph9
                      refine w_ias (pc' := 115) (k := 16 + k) (ykc_237 (e := (5, .iastore, 0)) rfl) (by omega) rfl (fun ph1297 u1296 => ?_)
                      refine w_load (pc' := 117) (v := .int (zBs (zsh v P kd nn ff sp) k)) (m := 2) (ykc_237 (e := (2, .iload 5, 0)) rfl) rfl rfl ?_
                      refine w_load (pc' := 118) (v := .ref 170) (m := 1) (ykc_237 (e := (2, .aload_n kF0, 0)) rfl) rfl rfl ?_
                      refine w_gf (pc' := 121) (v := .ref 174) (ykc_237 (e := (5, .getfield 41, 0)) rfl) rfl ((u1296.2.1 170 11 (fun q => absurd q.1 (by decide))).trans ((hf.1 170 11 (by decide) (by decide)).trans (zsg hS1 zs_170_11))) rfl ?_
                      refine w_push (pc' := 123) (v := .int ((Int8.ofInt 16).toInt32)) (m := 2) (ykc_237 (e := (1, .bipush 16, 0)) rfl) rfl rfl ?_
                      refine w_load (pc' := 125) (v := .int (zn k)) (m := 2) (ykc_237 (e := (2, .iload 7, 0)) rfl) rfl rfl ?_
                      have e1298 : ((Int8.ofInt 16).toInt32) + (zn k) = zn (16 + k) := (zaddN (a := 16) (b := k) c_2 (znt (by omega)) (by omega)) 
                      have te1298 := znt (k := 16 + k) (by omega)
                      refine w_alu (pc' := 126) (st' := [.int (zn (16 + k)), .ref 174, .int (zBs (zsh v P kd nn ff sp) k)]) (ykc_237 (e := (0, .iadd, 0)) rfl) (by rw [← e1298]; rfl) rfl ?_
                      refine w_ialk (pc' := 127) (k := 16 + k) (ykc_237 (e := (5, .iaload, 0)) rfl) u1296.1 (by omega) rfl ?_
                      refine w_alu (pc' := 128) (st' := [.int ((zBs (zsh v P kd nn ff sp) k) + (zn (zsv kd nn ff sp k)))]) (ykc_237 (e := (0, .iadd, 0)) rfl) rfl rfl ?_
                      refine w_store (pc' := 130) (L' := [some (.ref 170), some (.int kd), some (.int nn), some (.int ff), some (.int sp), some (.int ((zBs (zsh v P kd nn ff sp) k) + (zn (zsv kd nn ff sp k)))), some (.int (zsq ff sp k)), some (.int (zn k)), some (.int z1285)]) (st' := []) (m := 2) (ykc_237 (e := (3, .istore 5, 0)) rfl) rfl rfl ?_
                      refine w_load (pc' := 132) (v := .int (zsq ff sp k)) (m := 2) (ykc_237 (e := (2, .iload 6, 0)) rfl) rfl rfl ?_
                      refine w_load (pc' := 134) (v := .int sp) (m := 2) (ykc_237 (e := (2, .iload 4, 0)) rfl) rfl rfl ?_
                      refine w_alu (pc' := 135) (st' := [.int ((zsq ff sp k) + sp)]) (ykc_237 (e := (0, .iadd, 0)) rfl) rfl rfl ?_
                      refine w_store (pc' := 137) (L' := [some (.ref 170), some (.int kd), some (.int nn), some (.int ff), some (.int sp), some (.int ((zBs (zsh v P kd nn ff sp) k) + (zn (zsv kd nn ff sp k)))), some (.int ((zsq ff sp k) + sp)), some (.int (zn k)), some (.int z1285)]) (st' := []) (m := 2) (ykc_237 (e := (3, .istore 6, 0)) rfl) rfl rfl ?_
                      have e1299 : (zn k) + Int32.ofInt 1 = zn (k + 1) := (zaddN (a := k) (b := 1) (znt (by omega)) c_6 (by omega))
                      have te1299 := znt (k := k + 1) (by omega)
                      refine w_store (pc' := 140) (L' := [some (.ref 170), some (.int kd), some (.int nn), some (.int ff), some (.int sp), some (.int ((zBs (zsh v P kd nn ff sp) k) + (zn (zsv kd nn ff sp k)))), some (.int ((zsq ff sp k) + sp)), some (.int (zn (k + 1))), some (.int z1285)]) (st' := []) (m := 3) (ykc_237 (e := (3, .iinc 7 1, 0)) rfl) (by rw [← e1299]; rfl) rfl ?_
                      refine w_gb (ykc_237 (e := (4, .goto (-94), 46)) rfl) (fun k1300 hk1300 => ?_)
                      have h9 := ih k1300 hk1300 (k + 1) (some (.int z1285)) _ (by omega) (zFr_add hf u1296 (Or.inl (by simp))) (fun i hi => by
                        by_cases e : i = k
                        · subst e
                          exact u1296.1
                        · exact (u1296.2.1 174 (16 + i) (fun q => e (by have q2 := q.2; omega))).trans (hr i (by omega))) (fun j hj => (u1296.2.1 174 j (fun q => by have q2 := q.2; omega)).trans (ho j (by omega)))
                      rw [show zBs (zsh v P kd nn ff sp) (k + 1) = zBs (zsh v P kd nn ff sp) k + zn (zsv kd nn ff sp k) by
                        show _ + zn (zsh v P kd nn ff sp (16 + k)) = _
                        rw [zsh_b (by omega)]] at h9
                      exact h9
                    · refine w_alu (pc' := 101) (st' := [.int (Int32.ofInt 0), .int (zn (16 + k)), .ref 174]) (ykc_237 (e := (0, .iconst 0, 0)) rfl) rfl rfl ?_
                      refine w_br (pc' := 114) (st' := [.int (Int32.ofInt 0), .int (zn (16 + k)), .ref 174]) (ykc_237 (e := (4, .goto 13, 114)) rfl) rfl ?_
                      have ev : zsv kd nn ff sp k = 0 := if_pos (by omega)
                      have ez : Int32.ofInt 0 = zn (zsv kd nn ff sp k) := by
                        rw [ev]
                        rfl
                      rw [ez]
                      show zW n D 237 Q 114 [some (.ref 170), some (.int kd), some (.int nn), some (.int ff), some (.int sp), some (.int (zBs (zsh v P kd nn ff sp) k)), some (.int (zsq ff sp k)), some (.int (zn k)), some (.int z1285)] [.int (zn (zsv kd nn ff sp k)), .int (zn (16 + k)), .ref 174] ph9
                      refine w_ias (pc' := 115) (k := 16 + k) (ykc_237 (e := (5, .iastore, 0)) rfl) (by omega) rfl (fun ph1302 u1301 => ?_)
                      refine w_load (pc' := 117) (v := .int (zBs (zsh v P kd nn ff sp) k)) (m := 2) (ykc_237 (e := (2, .iload 5, 0)) rfl) rfl rfl ?_
                      refine w_load (pc' := 118) (v := .ref 170) (m := 1) (ykc_237 (e := (2, .aload_n kF0, 0)) rfl) rfl rfl ?_
                      refine w_gf (pc' := 121) (v := .ref 174) (ykc_237 (e := (5, .getfield 41, 0)) rfl) rfl ((u1301.2.1 170 11 (fun q => absurd q.1 (by decide))).trans ((hf.1 170 11 (by decide) (by decide)).trans (zsg hS1 zs_170_11))) rfl ?_
                      refine w_push (pc' := 123) (v := .int ((Int8.ofInt 16).toInt32)) (m := 2) (ykc_237 (e := (1, .bipush 16, 0)) rfl) rfl rfl ?_
                      refine w_load (pc' := 125) (v := .int (zn k)) (m := 2) (ykc_237 (e := (2, .iload 7, 0)) rfl) rfl rfl ?_
                      have e1303 : ((Int8.ofInt 16).toInt32) + (zn k) = zn (16 + k) := (zaddN (a := 16) (b := k) c_2 (znt (by omega)) (by omega)) 
                      have te1303 := znt (k := 16 + k) (by omega)
                      refine w_alu (pc' := 126) (st' := [.int (zn (16 + k)), .ref 174, .int (zBs (zsh v P kd nn ff sp) k)]) (ykc_237 (e := (0, .iadd, 0)) rfl) (by rw [← e1303]; rfl) rfl ?_
                      refine w_ialk (pc' := 127) (k := 16 + k) (ykc_237 (e := (5, .iaload, 0)) rfl) u1301.1 (by omega) rfl ?_
                      refine w_alu (pc' := 128) (st' := [.int ((zBs (zsh v P kd nn ff sp) k) + (zn (zsv kd nn ff sp k)))]) (ykc_237 (e := (0, .iadd, 0)) rfl) rfl rfl ?_
                      refine w_store (pc' := 130) (L' := [some (.ref 170), some (.int kd), some (.int nn), some (.int ff), some (.int sp), some (.int ((zBs (zsh v P kd nn ff sp) k) + (zn (zsv kd nn ff sp k)))), some (.int (zsq ff sp k)), some (.int (zn k)), some (.int z1285)]) (st' := []) (m := 2) (ykc_237 (e := (3, .istore 5, 0)) rfl) rfl rfl ?_
                      refine w_load (pc' := 132) (v := .int (zsq ff sp k)) (m := 2) (ykc_237 (e := (2, .iload 6, 0)) rfl) rfl rfl ?_
                      refine w_load (pc' := 134) (v := .int sp) (m := 2) (ykc_237 (e := (2, .iload 4, 0)) rfl) rfl rfl ?_
                      refine w_alu (pc' := 135) (st' := [.int ((zsq ff sp k) + sp)]) (ykc_237 (e := (0, .iadd, 0)) rfl) rfl rfl ?_
                      refine w_store (pc' := 137) (L' := [some (.ref 170), some (.int kd), some (.int nn), some (.int ff), some (.int sp), some (.int ((zBs (zsh v P kd nn ff sp) k) + (zn (zsv kd nn ff sp k)))), some (.int ((zsq ff sp k) + sp)), some (.int (zn k)), some (.int z1285)]) (st' := []) (m := 2) (ykc_237 (e := (3, .istore 6, 0)) rfl) rfl rfl ?_
                      have e1304 : (zn k) + Int32.ofInt 1 = zn (k + 1) := (zaddN (a := k) (b := 1) (znt (by omega)) c_6 (by omega))
                      have te1304 := znt (k := k + 1) (by omega)
                      refine w_store (pc' := 140) (L' := [some (.ref 170), some (.int kd), some (.int nn), some (.int ff), some (.int sp), some (.int ((zBs (zsh v P kd nn ff sp) k) + (zn (zsv kd nn ff sp k)))), some (.int ((zsq ff sp k) + sp)), some (.int (zn (k + 1))), some (.int z1285)]) (st' := []) (m := 3) (ykc_237 (e := (3, .iinc 7 1, 0)) rfl) (by rw [← e1304]; rfl) rfl ?_
                      refine w_gb (ykc_237 (e := (4, .goto (-94), 46)) rfl) (fun k1305 hk1305 => ?_)
                      have h9 := ih k1305 hk1305 (k + 1) (some (.int z1285)) _ (by omega) (zFr_add hf u1301 (Or.inl (by simp))) (fun i hi => by
                        by_cases e : i = k
                        · subst e
                          exact u1301.1
                        · exact (u1301.2.1 174 (16 + i) (fun q => e (by have q2 := q.2; omega))).trans (hr i (by omega))) (fun j hj => (u1301.2.1 174 j (fun q => by have q2 := q.2; omega)).trans (ho j (by omega)))
                      rw [show zBs (zsh v P kd nn ff sp) (k + 1) = zBs (zsh v P kd nn ff sp) k + zn (zsv kd nn ff sp k) by
                        show _ + zn (zsh v P kd nn ff sp (16 + k)) = _
                        rw [zsh_b (by omega)]] at h9
                      exact h9
          exact hl n 0 _ ph1167 (Nat.zero_le _) zFr_refl (fun i hi => absurd hi (Nat.not_lt_zero i)) (fun j _ => rfl)
        · refine w_push (pc' := 36) (v := .int ((Int8.ofInt (-2)).toInt32)) (m := 2) (ykc_237 (e := (1, .bipush (-2), 0)) rfl) rfl rfl ?_
          refine w_ret (v := (some (.int ((Int8.ofInt (-2)).toInt32)))) (ykc_237 (e := (7, .ireturn, 0)) rfl) (zr_v rfl) ?_
          have f2 : zFr [] [(170, 0)] ph _ := zFr_st u1166 (Or.inr (by simp))
          have d9 := of_decide_eq_true b1170
          have ea : zsa v P kd nn ff sp = (Int8.ofInt (-2)).toInt32 := (by
            unfold zsa
            rw [if_neg (by omega), if_neg (by omega), if_pos (by omega)])
          have er : zsr v P kd nn ff sp = v := if_pos (Or.inr (by omega))
          rw [hQ]
          refine ⟨by rw [ea], ?_⟩
          rw [er]
          exact ⟨zMl_F f2 (by simp) (by simp) (by simp) (by simp) hL0, zMp_F f2 (by simp) (by simp) (by simp) hN0, zNr_F f2 (by simp) (by simp) hv, zMu_F f2 (by simp) (by simp) (by simp) hU, zMk_F f2 (by simp) (by simp) (by simp) hk, zMh_F f2 (by simp) (by simp) hh⟩
    · refine w_alu (pc' := 24) (st' := [.int (Int32.ofInt (-1))]) (ykc_237 (e := (0, .iconst (-1), 0)) rfl) rfl rfl ?_
      refine w_ret (v := (some (.int (Int32.ofInt (-1))))) (ykc_237 (e := (7, .ireturn, 0)) rfl) (zr_v rfl) ?_
      have f2 : zFr [] [(170, 0)] ph _ := zFr_st u1166 (Or.inr (by simp))
      have d9 := of_decide_eq_true b1170
      have ea : zsa v P kd nn ff sp = Int32.ofInt (-1) := if_pos (by omega)
      have er : zsr v P kd nn ff sp = v := if_pos (Or.inl (by omega))
      rw [hQ]
      refine ⟨by rw [ea], ?_⟩
      rw [er]
      exact ⟨zMl_F f2 (by simp) (by simp) (by simp) (by simp) hL0, zMp_F f2 (by simp) (by simp) (by simp) hN0, zNr_F f2 (by simp) (by simp) hv, zMu_F f2 (by simp) (by simp) (by simp) hU, zMk_F f2 (by simp) (by simp) (by simp) hk, zMh_F f2 (by simp) (by simp) hh⟩
end
section
/-! the class: heard, by W; printed by wip/z/z_y_heard.py -/
theorem zc_heard {ph : pm_H} {R C P G nx u fl hn : Nat} {rk : Nat → Bool} {v : Nat → Nat} {w : Nat → Nat → Nat} {sv : Nat → Nat → Nat} (hS : zSh ph) (hK : zKC ph R C rk P G v nx u w fl sv hn) (hO0 : zOk R C P G v) {x y : Int32} (h13 : ∃ m, zc ph 0 13 = some (.long m)) (h82 : ∀ p, p < P → zM 82 [.ref 10, .ref 25, .int (zn p)] ph (fun v0 q => zCx ph q ∧ ∃ m, v0 = some (.long m))) : zM 166 [.ref 0, .int x, .int y] ph (fun v0 q => ((x.toInt < 0 ∨ (P : Int) ≤ x.toInt ∨ y.toInt < 0 ∨ 1 < y.toInt ∨ hn = 10) ∧ v0 = some (.int (Int32.ofInt (-1))) ∧ zKC q R C rk P G v nx u w fl sv hn) ∨ (0 ≤ x.toInt ∧ x.toInt < (P : Int) ∧ 0 ≤ y.toInt ∧ y.toInt ≤ 1 ∧ hn < 10 ∧ v0 = some (.int (zn (hn + 1))) ∧ zKC q R C rk P G v nx u w fl sv (hn + 1))) := by
  obtain ⟨Q, hQ⟩ : ∃ Q : Option Value → pm_H → Prop, Q = (fun v0 q => ((x.toInt < 0 ∨ (P : Int) ≤ x.toInt ∨ y.toInt < 0 ∨ 1 < y.toInt ∨ hn = 10) ∧ v0 = some (.int (Int32.ofInt (-1))) ∧ zKC q R C rk P G v nx u w fl sv hn) ∨ (0 ≤ x.toInt ∧ x.toInt < (P : Int) ∧ 0 ≤ y.toInt ∧ y.toInt ≤ 1 ∧ hn < 10 ∧ v0 = some (.int (zn (hn + 1))) ∧ zKC q R C rk P G v nx u w fl sv (hn + 1))) := ⟨_, rfl⟩
  rw [← hQ]
  refine zM_mk fun n D => ?_
  show zW n D 166 Q 0 [some (.ref 0), some (.int x), some (.int y), none, none] [] ph
  have c_0 : ((Int8.ofInt 10).toInt32).toInt = 10 := by decide
  have c_1 : (Int32.ofInt (-1)).toInt = -1 := by decide
  have c_2 : (Int32.ofInt 1).toInt = 1 := by decide
  obtain ⟨m13, h13m⟩ := h13
  have hd := hK.2.1
  have hh := hK.2.2.2.2
  have hP8 : P ≤ 8 := hd.2.1
  have thn := znt (k := hn) (by have := hh.2; omega)
  have hn10 := hh.2
  refine w_load (pc' := 1) (v := .ref 0) (m := 1) (ykc_166 (e := (2, .aload_n kF0, 0)) rfl) rfl rfl ?_
  refine w_gf (pc' := 4) (v := .ref 25) (ykc_166 (e := (5, .getfield 42, 0)) rfl) rfl (zsg hS zs_0_4) rfl ?_
  refine w_load (pc' := 5) (v := .int x) (m := 1) (ykc_166 (e := (2, .iload_n kF1, 0)) rfl) rfl rfl ?_
  refine w_cv (as := [.ref 25, .int x]) (r := []) (ykc_166 (e := (6, .invokevirtual 167, 0)) rfl) rfl rfl rfl rfl (zc_hasP (zSs_of hS (S := 25) (by decide)) hd (i := x)) (fun v1306 ph1307 hv => ?_)
  obtain ⟨rfl, rfl⟩ := hv
  show zW n D 166 Q 8 [some (.ref 0), some (.int x), some (.int y), none, none] [.int (zI (decide (0 ≤ x.toInt ∧ x.toInt < ((P : Nat) : Int))))] ph
  refine w_beq (ykc_166 (e := (4, .ifCond .eq 21, 29)) rfl) rfl (fun b1308 => ?_) (fun b1308 => ?_)
  · refine w_alu (pc' := 30) (st' := [.int (Int32.ofInt (-1))]) (ykc_166 (e := (0, .iconst (-1), 0)) rfl) rfl rfl ?_
    refine w_ret (v := (some (.int (Int32.ofInt (-1))))) (ykc_166 (e := (7, .ireturn, 0)) rfl) (zr_v rfl) ?_
    have d9 := of_decide_eq_false b1308
    rw [hQ]
    exact Or.inl ⟨by omega, rfl, hK⟩
  · refine w_load (pc' := 12) (v := .int y) (m := 1) (ykc_166 (e := (2, .iload_n kF2, 0)) rfl) rfl rfl ?_
    refine w_zlt (ykc_166 (e := (4, .ifCond .lt 17, 29)) rfl) rfl (fun b1309 => ?_) (fun b1309 => ?_)
    · refine w_alu (pc' := 30) (st' := [.int (Int32.ofInt (-1))]) (ykc_166 (e := (0, .iconst (-1), 0)) rfl) rfl rfl ?_
      refine w_ret (v := (some (.int (Int32.ofInt (-1))))) (ykc_166 (e := (7, .ireturn, 0)) rfl) (zr_v rfl) ?_
      rw [hQ]
      exact Or.inl ⟨by omega, rfl, hK⟩
    · refine w_load (pc' := 16) (v := .int y) (m := 1) (ykc_166 (e := (2, .iload_n kF2, 0)) rfl) rfl rfl ?_
      refine w_alu (pc' := 17) (st' := [.int (Int32.ofInt 1), .int y]) (ykc_166 (e := (0, .iconst 1, 0)) rfl) rfl rfl ?_
      refine w_igt (ykc_166 (e := (4, .if_icmp .gt 12, 29)) rfl) rfl (fun b1310 => ?_) (fun b1310 => ?_)
      · refine w_alu (pc' := 30) (st' := [.int (Int32.ofInt (-1))]) (ykc_166 (e := (0, .iconst (-1), 0)) rfl) rfl rfl ?_
        refine w_ret (v := (some (.int (Int32.ofInt (-1))))) (ykc_166 (e := (7, .ireturn, 0)) rfl) (zr_v rfl) ?_
        rw [hQ]
        exact Or.inl ⟨by omega, rfl, hK⟩
      · refine w_load (pc' := 21) (v := .ref 0) (m := 1) (ykc_166 (e := (2, .aload_n kF0, 0)) rfl) rfl rfl ?_
        refine w_gf (pc' := 24) (v := .int (zn hn)) (ykc_166 (e := (5, .getfield 100, 0)) rfl) rfl hh.1 rfl ?_
        refine w_push (pc' := 26) (v := .int ((Int8.ofInt 10).toInt32)) (m := 2) (ykc_166 (e := (1, .bipush 10, 0)) rfl) rfl rfl ?_
        refine w_ilt (ykc_166 (e := (4, .if_icmp .lt 5, 31)) rfl) rfl (fun b1311 => ?_) (fun b1311 => ?_)
        · have d9 := of_decide_eq_true b1308
          obtain ⟨p, hp⟩ : ∃ p : Nat, x.toInt = (p : Int) := ⟨x.toInt.toNat, by omega⟩
          obtain rfl := zn_of hp
          have hpP : p < P := by omega
          have tp := znt (k := p) (by omega)
          show zW n D 166 Q 31 [some (.ref 0), some (.int (zn p)), some (.int y), none, none] [] ph
          refine w_load (pc' := 32) (v := .ref 0) (m := 1) (ykc_166 (e := (2, .aload_n kF0, 0)) rfl) rfl rfl ?_
          refine w_gf (pc' := 35) (v := .ref 10) (ykc_166 (e := (5, .getfield 35, 0)) rfl) rfl (zsg hS zs_0_3) rfl ?_
          refine w_load (pc' := 36) (v := .ref 0) (m := 1) (ykc_166 (e := (2, .aload_n kF0, 0)) rfl) rfl rfl ?_
          refine w_gf (pc' := 39) (v := .ref 25) (ykc_166 (e := (5, .getfield 42, 0)) rfl) rfl (zsg hS zs_0_4) rfl ?_
          refine w_load (pc' := 40) (v := .int (zn p)) (m := 1) (ykc_166 (e := (2, .iload_n kF1, 0)) rfl) rfl rfl ?_
          refine w_cv (as := [.ref 10, .ref 25, .int (zn p)]) (r := []) (ykc_166 (e := (6, .invokevirtual 190, 0)) rfl) rfl rfl rfl rfl (h82 p hpP) (fun v1312 ph1313 hv => ?_)
          obtain ⟨f82, m82, rfl⟩ := hv
          show zW n D 166 Q 43 [some (.ref 0), some (.int (zn p)), some (.int y), none, none] [.long m82] ph1313
          refine w_store (pc' := 44) (L' := [some (.ref 0), some (.int (zn p)), some (.int y), some (.long m82), none]) (st' := []) (m := 1) (ykc_166 (e := (3, .lstore_n kF3, 0)) rfl) rfl rfl ?_
          refine w_load (pc' := 45) (v := .ref 0) (m := 1) (ykc_166 (e := (2, .aload_n kF0, 0)) rfl) rfl rfl ?_
          refine w_alu (pc' := 46) (st' := [.ref 0, .ref 0]) (ykc_166 (e := (0, .dup, 0)) rfl) rfl rfl ?_
          refine w_gf (pc' := 49) (v := .long m13) (ykc_166 (e := (5, .getfield 96, 0)) rfl) rfl ((f82.1 0 13 (by decide) (by decide)).trans h13m) rfl ?_
          refine w_load (pc' := 50) (v := .int y) (m := 1) (ykc_166 (e := (2, .iload_n kF2, 0)) rfl) rfl rfl ?_
          refine w_alu (pc' := 51) (st' := [.int (Int32.ofInt 1), .int y, .long m13, .ref 0]) (ykc_166 (e := (0, .iconst 1, 0)) rfl) rfl rfl ?_
          refine w_ine (ykc_166 (e := (4, .if_icmp .ne 7, 58)) rfl) rfl (fun b1314 => ?_) (fun b1314 => ?_)
          · refine w_load (pc' := 59) (v := .long m82) (m := 1) (ykc_166 (e := (2, .lload_n kF3, 0)) rfl) rfl rfl ?_
            refine w_push (pc' := 62) (v := .long (-1 : Int64)) (m := 3) (ykc_166 (e := (1, .ldc2_w 94, 0)) rfl) rfl rfl ?_
            refine w_alu (pc' := 63) (st' := [.long (m82 ^^^ (-1 : Int64)), .long m13, .ref 0]) (ykc_166 (e := (0, .lxor, 0)) rfl) rfl rfl ?_
            refine w_alu (pc' := 64) (st' := [.long (m13 &&& (m82 ^^^ (-1 : Int64))), .ref 0]) (ykc_166 (e := (0, .land, 0)) rfl) rfl rfl ?_
            refine w_pf (pc' := 67) (ykc_166 (e := (5, .putfield 96, 0)) rfl) rfl rfl (fun ph1316 u1315 => ?_)
            refine w_load (pc' := 68) (v := .ref 0) (m := 1) (ykc_166 (e := (2, .aload_n kF0, 0)) rfl) rfl rfl ?_
            refine w_alu (pc' := 69) (st' := [.ref 0, .ref 0]) (ykc_166 (e := (0, .dup, 0)) rfl) rfl rfl ?_
            refine w_gf (pc' := 72) (v := .int (zn hn)) (ykc_166 (e := (5, .getfield 100, 0)) rfl) rfl ((u1315.2.1 0 14 (fun q => absurd q.2 (by decide))).trans ((f82.1 0 14 (by decide) (by decide)).trans hh.1)) rfl ?_
            refine w_alu (pc' := 73) (st' := [.int (Int32.ofInt 1), .int (zn hn), .ref 0]) (ykc_166 (e := (0, .iconst 1, 0)) rfl) rfl rfl ?_
            have e1317 : (zn hn) + (Int32.ofInt 1) = zn (hn + 1) := (zaddN (a := hn) (b := 1) (znt (by omega)) c_2 (by omega)) 
            have te1317 := znt (k := hn + 1) (by omega)
            refine w_alu (pc' := 74) (st' := [.int (zn (hn + 1)), .ref 0]) (ykc_166 (e := (0, .iadd, 0)) rfl) (by rw [← e1317]; rfl) rfl ?_
            refine w_pf (pc' := 77) (ykc_166 (e := (5, .putfield 100, 0)) rfl) rfl rfl (fun ph1319 u1318 => ?_)
            refine w_load (pc' := 78) (v := .ref 0) (m := 1) (ykc_166 (e := (2, .aload_n kF0, 0)) rfl) rfl rfl ?_
            refine w_gf (pc' := 81) (v := .int (zn (hn + 1))) (ykc_166 (e := (5, .getfield 100, 0)) rfl) rfl u1318.1 rfl ?_
            refine w_ret (v := (some (.int (zn (hn + 1))))) (ykc_166 (e := (7, .ireturn, 0)) rfl) (zr_v rfl) ?_
            have f2 : zFr [8, 9, 15, 20, 22, 23, 24] [(5, 4), (0, 13), (0, 14)] ph _ := zFr_trans (zFr_mono f82 (by simp) (by simp)) (zFr_trans (zFr_st u1315 (Or.inr (by simp))) (zFr_st u1318 (Or.inr (by simp))))
            rw [hQ]
            exact Or.inr ⟨by omega, by omega, by omega, by omega, by omega, rfl, zCl_F f2 (by simp) (by intro i hi; simp <;> omega) (by simp) hK.1, zSd_F f2 (by intro j hj; simp <;> omega) (by intro j k hj; simp <;> omega) hd, zCu_F f2 (by simp) (by simp) (by intro j h1 h2; simp <;> omega) (by intro j i h1 h2; simp <;> omega) hK.2.2.1, zCk_F f2 (by simp) (by simp) (by intro j h1 h2; simp <;> omega) (by intro j i h1 h2; simp <;> omega) hK.2.2.2.1, u1318.1, by omega⟩
          · refine w_load (pc' := 55) (v := .long m82) (m := 1) (ykc_166 (e := (2, .lload_n kF3, 0)) rfl) rfl rfl ?_
            refine w_br (pc' := 63) (st' := [.long m82, .long m13, .ref 0]) (ykc_166 (e := (4, .goto 8, 63)) rfl) rfl ?_
            refine w_alu (pc' := 64) (st' := [.long (m13 &&& m82), .ref 0]) (ykc_166 (e := (0, .land, 0)) rfl) rfl rfl ?_
            refine w_pf (pc' := 67) (ykc_166 (e := (5, .putfield 96, 0)) rfl) rfl rfl (fun ph1321 u1320 => ?_)
            refine w_load (pc' := 68) (v := .ref 0) (m := 1) (ykc_166 (e := (2, .aload_n kF0, 0)) rfl) rfl rfl ?_
            refine w_alu (pc' := 69) (st' := [.ref 0, .ref 0]) (ykc_166 (e := (0, .dup, 0)) rfl) rfl rfl ?_
            refine w_gf (pc' := 72) (v := .int (zn hn)) (ykc_166 (e := (5, .getfield 100, 0)) rfl) rfl ((u1320.2.1 0 14 (fun q => absurd q.2 (by decide))).trans ((f82.1 0 14 (by decide) (by decide)).trans hh.1)) rfl ?_
            refine w_alu (pc' := 73) (st' := [.int (Int32.ofInt 1), .int (zn hn), .ref 0]) (ykc_166 (e := (0, .iconst 1, 0)) rfl) rfl rfl ?_
            have e1322 : (zn hn) + (Int32.ofInt 1) = zn (hn + 1) := (zaddN (a := hn) (b := 1) (znt (by omega)) c_2 (by omega)) 
            have te1322 := znt (k := hn + 1) (by omega)
            refine w_alu (pc' := 74) (st' := [.int (zn (hn + 1)), .ref 0]) (ykc_166 (e := (0, .iadd, 0)) rfl) (by rw [← e1322]; rfl) rfl ?_
            refine w_pf (pc' := 77) (ykc_166 (e := (5, .putfield 100, 0)) rfl) rfl rfl (fun ph1324 u1323 => ?_)
            refine w_load (pc' := 78) (v := .ref 0) (m := 1) (ykc_166 (e := (2, .aload_n kF0, 0)) rfl) rfl rfl ?_
            refine w_gf (pc' := 81) (v := .int (zn (hn + 1))) (ykc_166 (e := (5, .getfield 100, 0)) rfl) rfl u1323.1 rfl ?_
            refine w_ret (v := (some (.int (zn (hn + 1))))) (ykc_166 (e := (7, .ireturn, 0)) rfl) (zr_v rfl) ?_
            have f2 : zFr [8, 9, 15, 20, 22, 23, 24] [(5, 4), (0, 13), (0, 14)] ph _ := zFr_trans (zFr_mono f82 (by simp) (by simp)) (zFr_trans (zFr_st u1320 (Or.inr (by simp))) (zFr_st u1323 (Or.inr (by simp))))
            rw [hQ]
            exact Or.inr ⟨by omega, by omega, by omega, by omega, by omega, rfl, zCl_F f2 (by simp) (by intro i hi; simp <;> omega) (by simp) hK.1, zSd_F f2 (by intro j hj; simp <;> omega) (by intro j k hj; simp <;> omega) hd, zCu_F f2 (by simp) (by simp) (by intro j h1 h2; simp <;> omega) (by intro j i h1 h2; simp <;> omega) hK.2.2.1, zCk_F f2 (by simp) (by simp) (by intro j h1 h2; simp <;> omega) (by intro j i h1 h2; simp <;> omega) hK.2.2.2.1, u1323.1, by omega⟩
        · refine w_alu (pc' := 30) (st' := [.int (Int32.ofInt (-1))]) (ykc_166 (e := (0, .iconst (-1), 0)) rfl) rfl rfl ?_
          refine w_ret (v := (some (.int (Int32.ofInt (-1))))) (ykc_166 (e := (7, .ireturn, 0)) rfl) (zr_v rfl) ?_
          rw [hQ]
          exact Or.inl ⟨by omega, rfl, hK⟩
end
section
/-! hours, of both, by W; printed by wip/z/z_z_hours.py -/
theorem zKC_n {p q : pm_H} {R C P G nx u fl hn : Nat} {rk : Nat → Bool} {v : Nat → Nat} {w sv : Nat → Nat → Nat} (f : zFr [4] [(3, 1)] p q) (h : zKC p R C rk P G v nx u w fl sv hn) : zKC q R C rk P G v nx u w fl sv hn := ⟨zCl_F f (by simp) (by intro i hi; simp) (by simp) h.1, zSd_F f (by intro j hj; simp <;> omega) (by intro j k hj; simp <;> omega) h.2.1, zCu_F f (by simp) (by simp) (by intro j h1 h2; simp <;> omega) (by intro j i h1 h2; simp <;> omega) h.2.2.1, zCk_F f (by simp) (by simp) (by intro j h1 h2; simp <;> omega) (by intro j i h1 h2; simp <;> omega) h.2.2.2.1, (f.1 _ _ (by simp) (by simp)).trans h.2.2.2.2.1, h.2.2.2.2.2⟩
theorem zN_S {p q : pm_H} (f : zFr [4] [(3, 1)] p q) (h : zSh p) : zSh q := zSh_F f (by decide +kernel) h
theorem zN_b {p q : pm_H} {P G : Nat} {v : Nat → Nat} (f : zFr [4] [(3, 1)] p q) (h : zSd p 31 P G v) : zSd q 31 P G v := zSd_F f (by intro j hj; simp <;> omega) (by intro j k hj; simp <;> omega) h
/-- hours passed, then the row before them put into the history -/
theorem zKC_pp {p1 p2 q1 q2 q : pm_H} {R C P G nx u fl hn : Nat} {rk : Nat → Bool} {v v2 : Nat → Nat} {w sv : Nat → Nat → Nat} (h : zKC p1 R C rk P G v nx u w fl sv hn) (f0 : zCp 25 p1 p2) (hd2 : zSd p2 25 P G v2) (f : zCo (45 + 6 * nx) p2 q1) (u1 : zst q1 q2 43 1 (.int (zn (if nx + 1 < 15 then nx + 1 else 0)))) (u2 : zst q2 q 43 2 (.int (zn (min 15 (u + 1))))) (hd : zSd q (45 + 6 * nx) P G v) : zKC q R C rk P G v2 (if nx + 1 < 15 then nx + 1 else 0) (zAd u) (zAw u (zWp u w v)) fl sv hn := by
  obtain ⟨hL, h25, hU, hk, hh⟩ := h
  have fr : zFr [] [(43, 1), (43, 2)] q1 q := zFr_trans (zFr_st u1 (Or.inr (by simp))) (zFr_st u2 (Or.inr (by simp)))
  have hnx := hU.2.1
  refine ⟨?_, ?_, zCu_push (zCu_F f0 (by simp) (by simp) (by intro j h1 h2; simp <;> omega) (by intro j i h1 h2; simp <;> omega) hU) f u1 u2 hd, ?_, ?_, hh.2⟩
  · exact zCl_F fr (by simp) (by intro i hi; simp) (by simp) (zCl_F f (by simp <;> omega) (by intro i hi; simp <;> omega) (by intro i; simp <;> omega) (zCl_F f0 (by simp) (by intro i hi; simp <;> omega) (by simp) hL))
  · exact zSd_F fr (by intro j hj; simp) (by intro j k hj; simp <;> omega) (zCo_d (by omega) f hd2)
  · exact zCk_F fr (by simp) (by simp) (by intro j h1 h2; simp) (by intro j i h1 h2; simp <;> omega) (zCk_F f (by simp <;> omega) (by simp <;> omega) (by intro j h1 h2; simp <;> omega) (by intro j i h1 h2; simp <;> omega) (zCk_F f0 (by simp) (by simp) (by intro j h1 h2; simp <;> omega) (by intro j i h1 h2; simp <;> omega) hk))
  · exact (fr.1 _ _ (by simp) (by simp)).trans ((f.1 _ _ (by simp <;> omega) (by simp <;> omega)).trans ((f0.1 _ _ (by simp) (by simp)).trans hh.1))
theorem zc_anew {ph : pm_H} : zM 57 [.ref 3] ph (fun v0 q => v0 = some (.ref 3) ∧ zFr [4] [(3, 1)] ph q ∧ zc q 3 1 = some (.int (zn 0))) := by
  obtain ⟨Q, hQ⟩ : ∃ Q : Option Value → pm_H → Prop, Q = (fun v0 q => v0 = some (.ref 3) ∧ zFr [4] [(3, 1)] ph q ∧ zc q 3 1 = some (.int (zn 0))) := ⟨_, rfl⟩
  rw [← hQ]
  refine zM_mk fun n D => ?_
  show zW n D 57 Q 0 [some (.ref 3)] [] ph
  have c_0 : (Int32.ofInt 0).toInt = 0 := by decide
  refine w_load (pc' := 1) (v := .ref 3) (m := 1) (ykc_57 (e := (2, .aload_n kF0, 0)) rfl) rfl rfl ?_
  refine w_alu (pc' := 2) (st' := [.int (Int32.ofInt 0), .ref 3]) (ykc_57 (e := (0, .iconst 0, 0)) rfl) rfl rfl ?_
  refine w_pf (pc' := 5) (ykc_57 (e := (5, .putfield 15, 0)) rfl) rfl rfl (fun ph1326 u1325 => ?_)
  refine w_load (pc' := 6) (v := .ref 3) (m := 1) (ykc_57 (e := (2, .aload_n kF0, 0)) rfl) rfl rfl ?_
  refine w_ret (v := (some (.ref 3))) (ykc_57 (e := (7, .areturn, 0)) rfl) (zr_v rfl) ?_
  rw [hQ]
  exact ⟨rfl, zFr_st u1325 (Or.inr (by simp)), u1325.1⟩
theorem zc_add {ph : pm_H} (hS : zSh ph) {k : Nat} {x : Int64} (hk : zc ph 3 1 = some (.int (zn k))) (h49 : k < 49) : zM 58 [.ref 3, .long x] ph (fun v0 q => v0 = some (.ref 3) ∧ zFr [4] [(3, 1)] ph q ∧ zc q 3 1 = some (.int (zn (k + 1)))) := by
  obtain ⟨Q, hQ⟩ : ∃ Q : Option Value → pm_H → Prop, Q = (fun v0 q => v0 = some (.ref 3) ∧ zFr [4] [(3, 1)] ph q ∧ zc q 3 1 = some (.int (zn (k + 1)))) := ⟨_, rfl⟩
  rw [← hQ]
  refine zM_mk fun n D => ?_
  show zW n D 58 Q 0 [some (.ref 3), some (.long x), none] [] ph
  have c_0 : ((Int8.ofInt 49).toInt32).toInt = 49 := by decide
  have c_1 : (Int32.ofInt 1).toInt = 1 := by decide
  have tk := znt (k := k) (by omega)
  refine w_load (pc' := 1) (v := .ref 3) (m := 1) (ykc_58 (e := (2, .aload_n kF0, 0)) rfl) rfl rfl ?_
  refine w_gf (pc' := 4) (v := .int (zn k)) (ykc_58 (e := (5, .getfield 15, 0)) rfl) rfl hk rfl ?_
  refine w_zlt (ykc_58 (e := (4, .ifCond .lt 32, 36)) rfl) rfl (fun q => by exfalso; omega) (fun b1327 => ?_)
  refine w_load (pc' := 8) (v := .ref 3) (m := 1) (ykc_58 (e := (2, .aload_n kF0, 0)) rfl) rfl rfl ?_
  refine w_gf (pc' := 11) (v := .int (zn k)) (ykc_58 (e := (5, .getfield 15, 0)) rfl) rfl hk rfl ?_
  refine w_push (pc' := 13) (v := .int ((Int8.ofInt 49).toInt32)) (m := 2) (ykc_58 (e := (1, .bipush 49, 0)) rfl) rfl rfl ?_
  refine w_ige (ykc_58 (e := (4, .if_icmp .ge 23, 36)) rfl) rfl (fun q => by exfalso; omega) (fun b1328 => ?_)
  refine w_load (pc' := 17) (v := .ref 3) (m := 1) (ykc_58 (e := (2, .aload_n kF0, 0)) rfl) rfl rfl ?_
  refine w_gf (pc' := 20) (v := .ref 4) (ykc_58 (e := (5, .getfield 11, 0)) rfl) rfl (zsg hS zs_3_0) rfl ?_
  refine w_load (pc' := 21) (v := .ref 3) (m := 1) (ykc_58 (e := (2, .aload_n kF0, 0)) rfl) rfl rfl ?_
  refine w_gf (pc' := 24) (v := .int (zn k)) (ykc_58 (e := (5, .getfield 15, 0)) rfl) rfl hk rfl ?_
  refine w_load (pc' := 25) (v := .long x) (m := 1) (ykc_58 (e := (2, .lload_n kF1, 0)) rfl) rfl rfl ?_
  refine w_las (pc' := 26) (k := k) (ykc_58 (e := (5, .lastore, 0)) rfl) (by omega) rfl (fun ph1330 u1329 => ?_)
  refine w_load (pc' := 27) (v := .ref 3) (m := 1) (ykc_58 (e := (2, .aload_n kF0, 0)) rfl) rfl rfl ?_
  refine w_alu (pc' := 28) (st' := [.ref 3, .ref 3]) (ykc_58 (e := (0, .dup, 0)) rfl) rfl rfl ?_
  refine w_gf (pc' := 31) (v := .int (zn k)) (ykc_58 (e := (5, .getfield 15, 0)) rfl) rfl ((u1329.2.1 3 1 (fun q => absurd q.1 (by decide))).trans hk) rfl ?_
  refine w_alu (pc' := 32) (st' := [.int (Int32.ofInt 1), .int (zn k), .ref 3]) (ykc_58 (e := (0, .iconst 1, 0)) rfl) rfl rfl ?_
  have e1331 : (zn k) + (Int32.ofInt 1) = zn (k + 1) := (zaddN (a := k) (b := 1) (znt (by omega)) c_1 (by omega)) 
  have te1331 := znt (k := k + 1) (by omega)
  refine w_alu (pc' := 33) (st' := [.int (zn (k + 1)), .ref 3]) (ykc_58 (e := (0, .iadd, 0)) rfl) (by rw [← e1331]; rfl) rfl ?_
  refine w_pf (pc' := 36) (ykc_58 (e := (5, .putfield 15, 0)) rfl) rfl rfl (fun ph1333 u1332 => ?_)
  refine w_load (pc' := 37) (v := .ref 3) (m := 1) (ykc_58 (e := (2, .aload_n kF0, 0)) rfl) rfl rfl ?_
  refine w_ret (v := (some (.ref 3))) (ykc_58 (e := (7, .areturn, 0)) rfl) (zr_v rfl) ?_
  rw [hQ]
  exact ⟨rfl, zFr_trans (zFr_st u1329 (Or.inl (by simp))) (zFr_st u1332 (Or.inr (by simp))), u1332.1⟩
theorem zc_some {ph : pm_H} {S P G : Nat} {v : Nat → Nat} (hs : zSs ph S) (hd : zSd ph S P G v) : zM 109 [.ref S] ph (fun v0 q => ph = q ∧ ∃ y, v0 = some (.int y)) := by
  obtain ⟨Q, hQ⟩ : ∃ Q : Option Value → pm_H → Prop, Q = (fun v0 q => ph = q ∧ ∃ y, v0 = some (.int y)) := ⟨_, rfl⟩
  rw [← hQ]
  refine zM_mk fun n D => ?_
  show zW n D 109 Q 0 [some (.ref S), none, none] [] ph
  have c_0 : ((Int8.ofInt 8).toInt32).toInt = 8 := by decide
  have c_1 : (Int32.ofInt 0).toInt = 0 := by decide
  have c_2 : (Int32.ofInt 1).toInt = 1 := by decide
  have hd0 := hd
  have hs0 := hs
  obtain ⟨r3, r4, r5, r6, r7, l1, l2, l3, l4, l5⟩ := hs
  obtain ⟨gP, hP8, gG, hG8, gH, gv, gw⟩ := hd
  have tP := znt (k := P) (by omega)
  have tG := znt (k := G) (by omega)
  refine w_alu (pc' := 1) (st' := [.int (Int32.ofInt 0)]) (ykc_109 (e := (0, .iconst 0, 0)) rfl) rfl rfl ?_
  refine w_store (pc' := 2) (L' := [some (.ref S), some (.int (Int32.ofInt 0)), none]) (st' := []) (m := 1) (ykc_109 (e := (3, .istore_n kF1, 0)) rfl) rfl rfl ?_
  refine w_alu (pc' := 3) (st' := [.int (Int32.ofInt 0)]) (ykc_109 (e := (0, .iconst 0, 0)) rfl) rfl rfl ?_
  refine w_store (pc' := 4) (L' := [some (.ref S), some (.int (Int32.ofInt 0)), some (.int (Int32.ofInt 0))]) (st' := []) (m := 1) (ykc_109 (e := (3, .istore_n kF2, 0)) rfl) rfl rfl ?_
  have hl : ∀ (n : Nat), ∀ (k : Nat) (a : Int32), (k ≤ P) → zW n D 109 Q 4 [some (.ref S), some (.int a), some (.int (zn k))] [] ph := by
    intro n
    induction n using Nat.strongRecOn with
    | ind n ih =>
      intro k a hk
      have tk := znt (k := k) (by omega)
      refine w_load (pc' := 5) (v := .int (zn k)) (m := 1) (ykc_109 (e := (2, .iload_n kF2, 0)) rfl) rfl rfl ?_
      refine w_load (pc' := 6) (v := .ref S) (m := 1) (ykc_109 (e := (2, .aload_n kF0, 0)) rfl) rfl rfl ?_
      refine w_gf (pc' := 9) (v := .int (zn P)) (ykc_109 (e := (5, .getfield 30, 0)) rfl) rfl gP rfl ?_
      refine w_ige (ykc_109 (e := (4, .if_icmp .ge 24, 33)) rfl) rfl (fun b1334 => ?_) (fun b1334 => ?_)
      · refine w_load (pc' := 34) (v := .int a) (m := 1) (ykc_109 (e := (2, .iload_n kF1, 0)) rfl) rfl rfl ?_
        refine w_ret (v := (some (.int a))) (ykc_109 (e := (7, .ireturn, 0)) rfl) (zr_v rfl) ?_
        rw [hQ]
        exact ⟨rfl, _, rfl⟩
      · refine w_load (pc' := 13) (v := .int (zn k)) (m := 1) (ykc_109 (e := (2, .iload_n kF2, 0)) rfl) rfl rfl ?_
        refine w_push (pc' := 15) (v := .int ((Int8.ofInt 8).toInt32)) (m := 2) (ykc_109 (e := (1, .bipush 8, 0)) rfl) rfl rfl ?_
        refine w_ige (ykc_109 (e := (4, .if_icmp .ge 18, 33)) rfl) rfl (fun q => by exfalso; omega) (fun b1335 => ?_)
        refine w_load (pc' := 19) (v := .int a) (m := 1) (ykc_109 (e := (2, .iload_n kF1, 0)) rfl) rfl rfl ?_
        refine w_load (pc' := 20) (v := .ref S) (m := 1) (ykc_109 (e := (2, .aload_n kF0, 0)) rfl) rfl rfl ?_
        refine w_gf (pc' := 23) (v := .ref (S + 4)) (ykc_109 (e := (5, .getfield 21, 0)) rfl) rfl r6 rfl ?_
        refine w_load (pc' := 24) (v := .int (zn k)) (m := 1) (ykc_109 (e := (2, .iload_n kF2, 0)) rfl) rfl rfl ?_
        refine w_ialk (pc' := 25) (k := k) (ykc_109 (e := (5, .iaload, 0)) rfl) (gv k (by omega)).2.2.2 (by omega) rfl ?_
        refine w_alu (pc' := 26) (st' := [.int (a ||| (zn (v (24 + k))))]) (ykc_109 (e := (0, .ior, 0)) rfl) rfl rfl ?_
        refine w_store (pc' := 27) (L' := [some (.ref S), some (.int (a ||| (zn (v (24 + k))))), some (.int (zn k))]) (st' := []) (m := 1) (ykc_109 (e := (3, .istore_n kF1, 0)) rfl) rfl rfl ?_
        have e1336 : (zn k) + Int32.ofInt 1 = zn (k + 1) := (zaddN (a := k) (b := 1) (znt (by omega)) c_2 (by omega))
        have te1336 := znt (k := k + 1) (by omega)
        refine w_store (pc' := 30) (L' := [some (.ref S), some (.int (a ||| (zn (v (24 + k))))), some (.int (zn (k + 1)))]) (st' := []) (m := 3) (ykc_109 (e := (3, .iinc 2 1, 0)) rfl) (by rw [← e1336]; rfl) rfl ?_
        refine w_gb (ykc_109 (e := (4, .goto (-26), 4)) rfl) (fun k1337 hk1337 => ?_)
        exact ih k1337 hk1337 (k + 1) _ (by omega)
  exact hl n 0 _ (Nat.zero_le _)
theorem zc_hours {ph : pm_H} {R C P G nx u fl hn : Nat} {rk : Nat → Bool} {v : Nat → Nat} {w : Nat → Nat → Nat} {sv : Nat → Nat → Nat} (hS : zSh ph) (hK : zKC ph R C rk P G v nx u w fl sv hn) (hO0 : zOk R C P G v) {x : Int32} {T : (Nat → Nat) → Int32 → Prop} (h92 : 0 ≤ x.toInt → x.toInt ≤ 60 → ∀ q, zCo 31 ph q → zM 92 [.ref 10, .ref 25, .int x] q (fun v0 q2 => zCp 25 q q2 ∧ ∃ v2 y, v0 = some (.int y) ∧ 0 ≤ y.toInt ∧ zSd q2 25 P G v2 ∧ T v2 y)) : zM 133 [.ref 0, .int x] ph (fun v0 q => ((x.toInt < 0 ∨ 60 < x.toInt) ∧ v0 = some (.int (Int32.ofInt (-1))) ∧ zKC q R C rk P G v nx u w fl sv hn) ∨ (0 ≤ x.toInt ∧ x.toInt ≤ 60 ∧ ∃ v2 y, v0 = some (.int y) ∧ T v2 y ∧ ∃ nx1, zKC q R C rk P G v2 nx1 (zAd u) (zAw u (zWp u w v)) fl sv hn)) := by
  obtain ⟨Q, hQ⟩ : ∃ Q : Option Value → pm_H → Prop, Q = (fun v0 q => ((x.toInt < 0 ∨ 60 < x.toInt) ∧ v0 = some (.int (Int32.ofInt (-1))) ∧ zKC q R C rk P G v nx u w fl sv hn) ∨ (0 ≤ x.toInt ∧ x.toInt ≤ 60 ∧ ∃ v2 y, v0 = some (.int y) ∧ T v2 y ∧ ∃ nx1, zKC q R C rk P G v2 nx1 (zAd u) (zAw u (zWp u w v)) fl sv hn)) := ⟨_, rfl⟩
  rw [← hQ]
  refine zM_mk fun n D => ?_
  show zW n D 133 Q 0 [some (.ref 0), some (.int x), none] [] ph
  have c_0 : ((Int8.ofInt 60).toInt32).toInt = 60 := by decide
  have c_1 : (Int32.ofInt (-1)).toInt = -1 := by decide
  have hP8 : P ≤ 8 := hK.2.1.2.1
  refine w_load (pc' := 1) (v := .int x) (m := 1) (ykc_133 (e := (2, .iload_n kF1, 0)) rfl) rfl rfl ?_
  refine w_zlt (ykc_133 (e := (4, .ifCond .lt 9, 10)) rfl) rfl (fun b1338 => ?_) (fun b1338 => ?_)
  · refine w_alu (pc' := 11) (st' := [.int (Int32.ofInt (-1))]) (ykc_133 (e := (0, .iconst (-1), 0)) rfl) rfl rfl ?_
    refine w_ret (v := (some (.int (Int32.ofInt (-1))))) (ykc_133 (e := (7, .ireturn, 0)) rfl) (zr_v rfl) ?_
    rw [hQ]
    exact Or.inl ⟨by omega, rfl, hK⟩
  · refine w_load (pc' := 5) (v := .int x) (m := 1) (ykc_133 (e := (2, .iload_n kF1, 0)) rfl) rfl rfl ?_
    refine w_push (pc' := 7) (v := .int ((Int8.ofInt 60).toInt32)) (m := 2) (ykc_133 (e := (1, .bipush 60, 0)) rfl) rfl rfl ?_
    refine w_ile (ykc_133 (e := (4, .if_icmp .le 5, 12)) rfl) rfl (fun b1339 => ?_) (fun b1339 => ?_)
    · refine w_load (pc' := 13) (v := .ref 0) (m := 1) (ykc_133 (e := (2, .aload_n kF0, 0)) rfl) rfl rfl ?_
      refine w_gf (pc' := 16) (v := .ref 31) (ykc_133 (e := (5, .getfield 46, 0)) rfl) rfl (zsg hS zs_0_5) rfl ?_
      refine w_load (pc' := 17) (v := .ref 0) (m := 1) (ykc_133 (e := (2, .aload_n kF0, 0)) rfl) rfl rfl ?_
      refine w_gf (pc' := 20) (v := .ref 25) (ykc_133 (e := (5, .getfield 42, 0)) rfl) rfl (zsg hS zs_0_4) rfl ?_
      refine w_cv (as := [.ref 31, .ref 25]) (r := []) (ykc_133 (e := (6, .invokevirtual 235, 0)) rfl) rfl rfl rfl rfl (zc_copy (zSs_of hS (S := 25) (by decide)) (zSs_of hS (S := 31) (by decide)) hK.2.1 (by omega)) (fun v1340 ph1341 hv => ?_)
      obtain ⟨rfl, fb, db⟩ := hv
      show zW n D 133 Q 23 [some (.ref 0), some (.int x), none] [] ph1341
      have hK1 := zKC_31 fb hK
      have hS1 := zCo_S (S := 31) (by decide) fb hS
      refine w_load (pc' := 24) (v := .ref 0) (m := 1) (ykc_133 (e := (2, .aload_n kF0, 0)) rfl) rfl rfl ?_
      refine w_load (pc' := 25) (v := .ref 0) (m := 1) (ykc_133 (e := (2, .aload_n kF0, 0)) rfl) rfl rfl ?_
      refine w_gf (pc' := 28) (v := .ref 10) (ykc_133 (e := (5, .getfield 35, 0)) rfl) rfl ((fb.1 0 3 (by decide) (by decide)).trans (zsg hS zs_0_3)) rfl ?_
      refine w_load (pc' := 29) (v := .ref 0) (m := 1) (ykc_133 (e := (2, .aload_n kF0, 0)) rfl) rfl rfl ?_
      refine w_gf (pc' := 32) (v := .ref 25) (ykc_133 (e := (5, .getfield 42, 0)) rfl) rfl ((fb.1 0 4 (by decide) (by decide)).trans (zsg hS zs_0_4)) rfl ?_
      refine w_load (pc' := 33) (v := .int x) (m := 1) (ykc_133 (e := (2, .iload_n kF1, 0)) rfl) rfl rfl ?_
      refine w_cv (as := [.ref 10, .ref 25, .int x]) (r := [.ref 0]) (ykc_133 (e := (6, .invokevirtual 239, 0)) rfl) rfl rfl rfl rfl (h92 (by omega) (by omega) _ fb) (fun v1342 ph1343 hv => ?_)
      obtain ⟨fp, v2, y, rfl, hy0, hd2, hT⟩ := hv
      show zW n D 133 Q 36 [some (.ref 0), some (.int x), none] [.int y, .ref 0] ph1343
      have hS2 := zCp_S (Or.inl rfl) fp hS1
      have db2 := zSd_F fp (by intro i hi; simp <;> omega) (by intro j i hj; simp <;> omega) db
      have hn2 := (fp.1 43 1 (by decide) (by decide)).trans hK1.2.2.1.1
      have hu2 := (fp.1 43 2 (by decide) (by decide)).trans hK1.2.2.1.2.2.1
      have hnx := hK1.2.2.1.2.1
      refine w_cv (as := [.ref 0, .int y]) (r := []) (ykc_133 (e := (6, .invokevirtual 242, 0)) rfl) rfl rfl rfl rfl (zc_rem (x := y) hS2 db2 hn2 hu2 hnx hK1.2.2.1.2.2.2.1) (fun v1344 ph1345 hv => ?_)
      obtain ⟨rfl, ⟨h9, -⟩ | ⟨-, ⟨q1, q2, pf, pu1, pu2⟩, pd⟩⟩ := hv
      · omega
      have fq : zFr [45 + 6 * nx + 1, 45 + 6 * nx + 2, 45 + 6 * nx + 3, 45 + 6 * nx + 4, 45 + 6 * nx + 5] [(45 + 6 * nx, 0), (45 + 6 * nx, 1), (45 + 6 * nx, 2), (43, 1), (43, 2)] _ ph1345 := zFr_trans (zFr_mono pf (by simp) (by simp)) (zFr_trans (zFr_st pu1 (Or.inr (by simp))) (zFr_st pu2 (Or.inr (by simp))))
      show zW n D 133 Q 39 [some (.ref 0), some (.int x), none] [.int y] ph1345
      have hK3 := zKC_pp hK1 fp hd2 pf pu1 pu2 pd
      have hS3 := zSh_st pu2 (by decide +kernel) (zSh_st pu1 (by decide +kernel) (zCo_S (zSadr_past hnx) pf hS2))
      have db3 := zSd_F fq (by intro i hi; simp <;> omega) (by intro j i hj; simp <;> omega) db2
      refine w_store (pc' := 40) (L' := [some (.ref 0), some (.int x), some (.int y)]) (st' := []) (m := 1) (ykc_133 (e := (3, .istore_n kF2, 0)) rfl) rfl rfl ?_
      refine w_load (pc' := 41) (v := .ref 0) (m := 1) (ykc_133 (e := (2, .aload_n kF0, 0)) rfl) rfl rfl ?_
      refine w_gf (pc' := 44) (v := .ref 3) (ykc_133 (e := (5, .getfield 19, 0)) rfl) rfl ((fq.1 0 1 (by simp <;> omega) (by simp <;> omega)).trans ((fp.1 0 1 (by decide) (by decide)).trans ((fb.1 0 1 (by decide) (by decide)).trans (zsg hS zs_0_1)))) rfl ?_
      refine w_cv (as := [.ref 3]) (r := []) (ykc_133 (e := (6, .invokevirtual 245, 0)) rfl) rfl rfl rfl rfl (zc_anew) (fun v1346 ph1347 hv => ?_)
      obtain ⟨rfl, fn1, gn1⟩ := hv
      show zW n D 133 Q 47 [some (.ref 0), some (.int x), some (.int y)] [.ref 3] ph1347
      refine w_load (pc' := 48) (v := .int y) (m := 1) (ykc_133 (e := (2, .iload_n kF2, 0)) rfl) rfl rfl ?_
      refine w_load (pc' := 49) (v := .ref 0) (m := 1) (ykc_133 (e := (2, .aload_n kF0, 0)) rfl) rfl rfl ?_
      refine w_gf (pc' := 52) (v := .ref 31) (ykc_133 (e := (5, .getfield 46, 0)) rfl) rfl ((fn1.1 0 5 (by decide) (by decide)).trans ((fq.1 0 5 (by simp <;> omega) (by simp <;> omega)).trans ((fp.1 0 5 (by decide) (by decide)).trans ((fb.1 0 5 (by decide) (by decide)).trans (zsg hS zs_0_5))))) rfl ?_
      refine w_cv (as := [.ref 31]) (r := [.int y, .ref 3]) (ykc_133 (e := (6, .invokevirtual 249, 0)) rfl) rfl rfl rfl rfl (zc_known (zSs_of (zN_S fn1 hS3) (S := 31) (by decide)) (zN_b fn1 db3)) (fun v1348 ph1349 hv => ?_)
      obtain ⟨rfl, rfl⟩ := hv
      show zW n D 133 Q 55 [some (.ref 0), some (.int x), some (.int y)] [.int (zKw v P), .int y, .ref 3] ph1347
      refine w_alu (pc' := 56) (st' := [.int (y - (zKw v P)), .ref 3]) (ykc_133 (e := (0, .isub, 0)) rfl) rfl rfl ?_
      refine w_alu (pc' := 57) (st' := [.long ((y - (zKw v P)).toInt64), .ref 3]) (ykc_133 (e := (0, .i2l, 0)) rfl) rfl rfl ?_
      refine w_cv (as := [.ref 3, .long ((y - (zKw v P)).toInt64)]) (r := []) (ykc_133 (e := (6, .invokevirtual 252, 0)) rfl) rfl rfl rfl rfl (zc_add (zN_S fn1 hS3) (k := 0) gn1 (by decide)) (fun v1350 ph1351 hv => ?_)
      obtain ⟨rfl, fn2, gn2⟩ := hv
      show zW n D 133 Q 60 [some (.ref 0), some (.int x), some (.int y)] [.ref 3] ph1351
      refine w_load (pc' := 61) (v := .ref 0) (m := 1) (ykc_133 (e := (2, .aload_n kF0, 0)) rfl) rfl rfl ?_
      refine w_gf (pc' := 64) (v := .ref 25) (ykc_133 (e := (5, .getfield 42, 0)) rfl) rfl ((fn2.1 0 4 (by decide) (by decide)).trans ((fn1.1 0 4 (by decide) (by decide)).trans ((fq.1 0 4 (by simp <;> omega) (by simp <;> omega)).trans ((fp.1 0 4 (by decide) (by decide)).trans ((fb.1 0 4 (by decide) (by decide)).trans (zsg hS zs_0_4)))))) rfl ?_
      refine w_cv (as := [.ref 25]) (r := [.ref 3]) (ykc_133 (e := (6, .invokevirtual 256, 0)) rfl) rfl rfl rfl rfl (zc_some (zSs_of (zN_S (zFr_trans fn1 fn2) hS3) (S := 25) (by decide)) (zKC_n (zFr_trans fn1 fn2) hK3).2.1) (fun v1352 ph1353 hv => ?_)
      obtain ⟨rfl, y9, rfl⟩ := hv
      show zW n D 133 Q 67 [some (.ref 0), some (.int x), some (.int y)] [.int y9, .ref 3] ph1351
      refine w_alu (pc' := 68) (st' := [.long y9.toInt64, .ref 3]) (ykc_133 (e := (0, .i2l, 0)) rfl) rfl rfl ?_
      refine w_cv (as := [.ref 3, .long y9.toInt64]) (r := []) (ykc_133 (e := (6, .invokevirtual 252, 0)) rfl) rfl rfl rfl rfl (zc_add (zN_S (zFr_trans fn1 fn2) hS3) (k := 1) gn2 (by decide)) (fun v1354 ph1355 hv => ?_)
      obtain ⟨rfl, fn3, gn3⟩ := hv
      show zW n D 133 Q 71 [some (.ref 0), some (.int x), some (.int y)] [.ref 3] ph1355
      refine w_alu (pc' := 72) (st' := []) (ykc_133 (e := (0, .pop, 0)) rfl) rfl rfl ?_
      refine w_load (pc' := 73) (v := .int y) (m := 1) (ykc_133 (e := (2, .iload_n kF2, 0)) rfl) rfl rfl ?_
      refine w_ret (v := (some (.int y))) (ykc_133 (e := (7, .ireturn, 0)) rfl) (zr_v rfl) ?_
      rw [hQ]
      exact Or.inr ⟨by omega, by omega, v2, y, rfl, hT, _, (zKC_n (zFr_trans (zFr_trans fn1 fn2) fn3) hK3)⟩
    · refine w_alu (pc' := 11) (st' := [.int (Int32.ofInt (-1))]) (ykc_133 (e := (0, .iconst (-1), 0)) rfl) rfl rfl ?_
      refine w_ret (v := (some (.int (Int32.ofInt (-1))))) (ykc_133 (e := (7, .ireturn, 0)) rfl) (zr_v rfl) ?_
      rw [hQ]
      exact Or.inl ⟨by omega, rfl, hK⟩
theorem zm_known2 {ph : pm_H} {R C P G : Nat} {v : Nat → Nat} (hS : zSh ph) (hN : zMp ph P G) (hv : zNr ph 174 0 v) (hO0 : zOk R C P G v) : zM 234 [.ref 170, .ref 174] ph (fun v0 q => ph = q ∧ v0 = some (.int (zKw v P))) := by
  obtain ⟨Q, hQ⟩ : ∃ Q : Option Value → pm_H → Prop, Q = (fun v0 q => ph = q ∧ v0 = some (.int (zKw v P))) := ⟨_, rfl⟩
  rw [← hQ]
  refine zM_mk fun n D => ?_
  show zW n D 234 Q 0 [some (.ref 170), some (.ref 174), none, none] [] ph
  have c_0 : ((Int8.ofInt 24).toInt32).toInt = 24 := by decide
  have c_1 : (Int32.ofInt 0).toInt = 0 := by decide
  have c_2 : (Int32.ofInt 1).toInt = 1 := by decide
  obtain ⟨gP, hP8, gG, hG8⟩ := hN
  have tP := znt (k := P) (by omega)
  have tG := znt (k := G) (by omega)
  refine w_alu (pc' := 1) (st' := [.int (Int32.ofInt 0)]) (ykc_234 (e := (0, .iconst 0, 0)) rfl) rfl rfl ?_
  refine w_store (pc' := 2) (L' := [some (.ref 170), some (.ref 174), some (.int (Int32.ofInt 0)), none]) (st' := []) (m := 1) (ykc_234 (e := (3, .istore_n kF2, 0)) rfl) rfl rfl ?_
  refine w_alu (pc' := 3) (st' := [.int (Int32.ofInt 0)]) (ykc_234 (e := (0, .iconst 0, 0)) rfl) rfl rfl ?_
  refine w_store (pc' := 4) (L' := [some (.ref 170), some (.ref 174), some (.int (Int32.ofInt 0)), some (.int (Int32.ofInt 0))]) (st' := []) (m := 1) (ykc_234 (e := (3, .istore_n kF3, 0)) rfl) rfl rfl ?_
  have hl : ∀ (n : Nat), ∀ (k : Nat), (k ≤ P) → zW n D 234 Q 4 [some (.ref 170), some (.ref 174), some (.int (zKw v k)), some (.int (zn k))] [] ph := by
    intro n
    induction n using Nat.strongRecOn with
    | ind n ih =>
      intro k hk
      have tk := znt (k := k) (by omega)
      refine w_load (pc' := 5) (v := .int (zn k)) (m := 1) (ykc_234 (e := (2, .iload_n kF3, 0)) rfl) rfl rfl ?_
      refine w_load (pc' := 6) (v := .ref 170) (m := 1) (ykc_234 (e := (2, .aload_n kF0, 0)) rfl) rfl rfl ?_
      refine w_gf (pc' := 9) (v := .int (zn P)) (ykc_234 (e := (5, .getfield 130, 0)) rfl) rfl gP rfl ?_
      refine w_ige (ykc_234 (e := (4, .if_icmp .ge 21, 30)) rfl) rfl (fun b1356 => ?_) (fun b1356 => ?_)
      · refine w_load (pc' := 31) (v := .int (zKw v k)) (m := 1) (ykc_234 (e := (2, .iload_n kF2, 0)) rfl) rfl rfl ?_
        refine w_ret (v := (some (.int (zKw v k)))) (ykc_234 (e := (7, .ireturn, 0)) rfl) (zr_v rfl) ?_
        have ek : P = k := by omega
        subst ek
        rw [hQ]
        exact ⟨rfl, rfl⟩
      · refine w_load (pc' := 13) (v := .int (zKw v k)) (m := 1) (ykc_234 (e := (2, .iload_n kF2, 0)) rfl) rfl rfl ?_
        refine w_load (pc' := 14) (v := .ref 174) (m := 1) (ykc_234 (e := (2, .aload_n kF1, 0)) rfl) rfl rfl ?_
        refine w_push (pc' := 16) (v := .int ((Int8.ofInt 24).toInt32)) (m := 2) (ykc_234 (e := (1, .bipush 24, 0)) rfl) rfl rfl ?_
        refine w_load (pc' := 17) (v := .int (zn k)) (m := 1) (ykc_234 (e := (2, .iload_n kF3, 0)) rfl) rfl rfl ?_
        have e1357 : ((Int8.ofInt 24).toInt32) + (zn k) = zn (24 + k) := (zaddN (a := 24) (b := k) c_0 (znt (by omega)) (by omega)) 
        have te1357 := znt (k := 24 + k) (by omega)
        refine w_alu (pc' := 18) (st' := [.int (zn (24 + k)), .ref 174, .int (zKw v k)]) (ykc_234 (e := (0, .iadd, 0)) rfl) (by rw [← e1357]; rfl) rfl ?_
        have q1358 := hO0.1 k (by omega)
        have tq1358 := znt (k := v (24 + k)) (by omega)
        refine w_ialk (pc' := 19) (k := 24 + k) (ykc_234 (e := (5, .iaload, 0)) rfl) (zNr0 hv (i := 24 + k) (by omega)) (by omega) rfl ?_
        refine w_cs (as := [.int (zn (v (24 + k)))]) (r := [.int (zKw v k)]) (ykc_234 (e := (6, .invokestatic 265, 0)) rfl) rfl rfl rfl rfl (zj_pc) (fun v1359 ph1360 hv => ?_)
        obtain ⟨rfl, rfl⟩ := hv
        show zW n D 234 Q 22 [some (.ref 170), some (.ref 174), some (.int (zKw v k)), some (.int (zn k))] [.int (zpc (zn (v (24 + k)))), .int (zKw v k)] ph
        refine w_alu (pc' := 23) (st' := [.int ((zKw v k) + (zpc (zn (v (24 + k)))))]) (ykc_234 (e := (0, .iadd, 0)) rfl) rfl rfl ?_
        refine w_store (pc' := 24) (L' := [some (.ref 170), some (.ref 174), some (.int ((zKw v k) + (zpc (zn (v (24 + k)))))), some (.int (zn k))]) (st' := []) (m := 1) (ykc_234 (e := (3, .istore_n kF2, 0)) rfl) rfl rfl ?_
        have e1361 : (zn k) + Int32.ofInt 1 = zn (k + 1) := (zaddN (a := k) (b := 1) (znt (by omega)) c_2 (by omega))
        have te1361 := znt (k := k + 1) (by omega)
        refine w_store (pc' := 27) (L' := [some (.ref 170), some (.ref 174), some (.int ((zKw v k) + (zpc (zn (v (24 + k)))))), some (.int (zn (k + 1)))]) (st' := []) (m := 3) (ykc_234 (e := (3, .iinc 3 1, 0)) rfl) (by rw [← e1361]; rfl) rfl ?_
        refine w_gb (ykc_234 (e := (4, .goto (-23), 4)) rfl) (fun k1362 hk1362 => ?_)
        exact ih k1362 hk1362 (k + 1) (by omega)
  exact hl n 0 (Nat.zero_le _)
theorem zm_enter {ph : pm_H} (hS : zSh ph) {k : Nat} {x : Int64} (hk : zc ph 170 1 = some (.int (zn k))) (h49 : k < 49) : zM 186 [.ref 170, .long x] ph (fun v0 q => v0 = none ∧ zFr [171] [(170, 1)] ph q ∧ zc q 170 1 = some (.int (zn (k + 1)))) := by
  obtain ⟨Q, hQ⟩ : ∃ Q : Option Value → pm_H → Prop, Q = (fun v0 q => v0 = none ∧ zFr [171] [(170, 1)] ph q ∧ zc q 170 1 = some (.int (zn (k + 1)))) := ⟨_, rfl⟩
  rw [← hQ]
  refine zM_mk fun n D => ?_
  show zW n D 186 Q 0 [some (.ref 170), some (.long x), none] [] ph
  have c_0 : (Int32.ofInt 1).toInt = 1 := by decide
  have tk := znt (k := k) (by omega)
  refine w_load (pc' := 1) (v := .ref 170) (m := 1) (ykc_186 (e := (2, .aload_n kF0, 0)) rfl) rfl rfl ?_
  refine w_gf (pc' := 4) (v := .ref 171) (ykc_186 (e := (5, .getfield 11, 0)) rfl) rfl (zsg hS zs_170_2) rfl ?_
  refine w_load (pc' := 5) (v := .ref 170) (m := 1) (ykc_186 (e := (2, .aload_n kF0, 0)) rfl) rfl rfl ?_
  refine w_gf (pc' := 8) (v := .int (zn k)) (ykc_186 (e := (5, .getfield 15, 0)) rfl) rfl hk rfl ?_
  refine w_load (pc' := 9) (v := .long x) (m := 1) (ykc_186 (e := (2, .lload_n kF1, 0)) rfl) rfl rfl ?_
  refine w_las (pc' := 10) (k := k) (ykc_186 (e := (5, .lastore, 0)) rfl) (by omega) rfl (fun ph1364 u1363 => ?_)
  refine w_load (pc' := 11) (v := .ref 170) (m := 1) (ykc_186 (e := (2, .aload_n kF0, 0)) rfl) rfl rfl ?_
  refine w_alu (pc' := 12) (st' := [.ref 170, .ref 170]) (ykc_186 (e := (0, .dup, 0)) rfl) rfl rfl ?_
  refine w_gf (pc' := 15) (v := .int (zn k)) (ykc_186 (e := (5, .getfield 15, 0)) rfl) rfl ((u1363.2.1 170 1 (fun q => absurd q.1 (by decide))).trans hk) rfl ?_
  refine w_alu (pc' := 16) (st' := [.int (Int32.ofInt 1), .int (zn k), .ref 170]) (ykc_186 (e := (0, .iconst 1, 0)) rfl) rfl rfl ?_
  have e1365 : (zn k) + (Int32.ofInt 1) = zn (k + 1) := (zaddN (a := k) (b := 1) (znt (by omega)) c_0 (by omega)) 
  have te1365 := znt (k := k + 1) (by omega)
  refine w_alu (pc' := 17) (st' := [.int (zn (k + 1)), .ref 170]) (ykc_186 (e := (0, .iadd, 0)) rfl) (by rw [← e1365]; rfl) rfl ?_
  refine w_pf (pc' := 20) (ykc_186 (e := (5, .putfield 15, 0)) rfl) rfl rfl (fun ph1367 u1366 => ?_)
  refine w_ret (v := none) (ykc_186 (e := (7, .return_, 0)) rfl) (zr_v rfl) ?_
  rw [hQ]
  exact ⟨rfl, zFr_trans (zFr_st u1363 (Or.inl (by simp))) (zFr_st u1366 (Or.inr (by simp))), u1366.1⟩
/-- what the hours of the reference may write -/
def zGo (p q : pm_H) : Prop := zFr [174, 181, 182, 184] [] p q
theorem zm_hours {ph : pm_H} {R C P G u ch hn : Nat} {rk : Nat → Bool} {v : Nat → Nat} {w : Nat → Nat → Nat} {kp : Nat → Bool} {kc : Nat → Nat} {sv : Nat → Nat → Nat} (hS : zSh ph) (hK : zKM ph R C rk P G v u w ch kp kc sv hn) (hO0 : zOk R C P G v) {x : Int32} {T : (Nat → Nat) → Prop} (h243 : 0 ≤ x.toInt → x.toInt ≤ 60 → ∀ q, zFr [183] [(170, 0)] ph q → zM 243 [.ref 170, .ref 174, .int x] q (fun v0 q2 => v0 = none ∧ zGo q q2 ∧ ∃ v2, zNr q2 174 0 v2 ∧ zOk R C P G v2 ∧ T v2)) : zM 248 [.ref 170, .int x] ph (fun v0 q => ((x.toInt < 0 ∨ 60 < x.toInt) ∧ v0 = some (.int (Int32.ofInt (-1))) ∧ zKM q R C rk P G v u w ch kp kc sv hn) ∨ (0 ≤ x.toInt ∧ x.toInt ≤ 60 ∧ ∃ v2, v0 = some (.int (zKw v2 P)) ∧ T v2 ∧ zKM q R C rk P G v2 (zAd u) (zAw u (zWp u w v)) ch kp kc sv hn)) := by
  obtain ⟨Q, hQ⟩ : ∃ Q : Option Value → pm_H → Prop, Q = (fun v0 q => ((x.toInt < 0 ∨ 60 < x.toInt) ∧ v0 = some (.int (Int32.ofInt (-1))) ∧ zKM q R C rk P G v u w ch kp kc sv hn) ∨ (0 ≤ x.toInt ∧ x.toInt ≤ 60 ∧ ∃ v2, v0 = some (.int (zKw v2 P)) ∧ T v2 ∧ zKM q R C rk P G v2 (zAd u) (zAw u (zWp u w v)) ch kp kc sv hn)) := ⟨_, rfl⟩
  rw [← hQ]
  refine zM_mk fun n D => ?_
  show zW n D 248 Q 0 [some (.ref 170), some (.int x), none, none, none] [] ph
  have c_0 : ((Int8.ofInt 24).toInt32).toInt = 24 := by decide
  have c_1 : (Int32.ofInt (-1)).toInt = -1 := by decide
  have c_2 : (Int32.ofInt 0).toInt = 0 := by decide
  have c_3 : (Int32.ofInt 1).toInt = 1 := by decide
  obtain ⟨hL, hN, hv, hU, hk, hh⟩ := hK
  have hL0 := hL
  have hN0 := hN
  have hu15 := hU.2.1
  obtain ⟨gR, gC, gK, hR3, hR7, hC3, hC7⟩ := hL
  have hRC := zRC49 hR7 hC7
  have tR := znt (k := R) (by omega)
  have tC := znt (k := C) (by omega)
  obtain ⟨gP, hP8, gG, hG8⟩ := hN
  have tP := znt (k := P) (by omega)
  have tG := znt (k := G) (by omega)
  have tu := znt (k := u) (by omega)
  have hn10 := hh.2
  have thn := znt (k := hn) (by omega)
  refine w_load (pc' := 1) (v := .ref 170) (m := 1) (ykc_248 (e := (2, .aload_n kF0, 0)) rfl) rfl rfl ?_
  refine w_alu (pc' := 2) (st' := [.int (Int32.ofInt 0), .ref 170]) (ykc_248 (e := (0, .iconst 0, 0)) rfl) rfl rfl ?_
  refine w_pf (pc' := 5) (ykc_248 (e := (5, .putfield 3, 0)) rfl) rfl rfl (fun ph1369 u1368 => ?_)
  refine w_load (pc' := 6) (v := .int x) (m := 1) (ykc_248 (e := (2, .iload_n kF1, 0)) rfl) rfl rfl ?_
  refine w_alu (pc' := 7) (st' := [.long x.toInt64]) (ykc_248 (e := (0, .i2l, 0)) rfl) rfl rfl ?_
  refine w_alu (pc' := 8) (st' := [.long (Int64.ofNat kG0), .long x.toInt64]) (ykc_248 (e := (0, .lconst kG0, 0)) rfl) rfl rfl ?_
  refine w_push (pc' := 11) (v := .long (60 : Int64)) (m := 3) (ykc_248 (e := (1, .ldc2_w 361, 0)) rfl) rfl rfl ?_
  refine w_cs (as := [.long x.toInt64, .long (Int64.ofNat kG0), .long (60 : Int64)]) (r := []) (ykc_248 (e := (6, .invokestatic 126, 0)) rfl) rfl rfl rfl rfl (zm_in (x := x.toInt) (y := (0 : Int)) (z := (60 : Int)) (by first | exact ztl | (rw [ztl]; omega) | decide | omega) (by first | exact ztl | (rw [ztl]; omega) | decide | omega) (by first | exact ztl | (rw [ztl]; omega) | decide | omega)) (fun v1370 ph1371 hv => ?_)
  obtain ⟨rfl, rfl⟩ := hv
  show zW n D 248 Q 14 [some (.ref 170), some (.int x), none, none, none] [.int (zI (decide ((0 : Int) ≤ x.toInt ∧ x.toInt ≤ (60 : Int))))] ph1369
  refine w_bne (ykc_248 (e := (4, .ifCond .ne 5, 19)) rfl) rfl (fun b1372 => ?_) (fun b1372 => ?_)
  · have d9 := of_decide_eq_true b1372
    have f0 : zFr [] [(170, 0)] ph ph1369 := zFr_st u1368 (Or.inr (by simp))
    have hS1 := zSh_st u1368 (by decide +kernel) hS
    have hv1 := zNr_F f0 (by simp) (by simp) hv
    have hU1 := zMu_F f0 (by simp) (by simp) (by simp) hU
    refine w_load (pc' := 20) (v := .ref 170) (m := 1) (ykc_248 (e := (2, .aload_n kF0, 0)) rfl) rfl rfl ?_
    refine w_cv (as := [.ref 170]) (r := []) (ykc_248 (e := (6, .invokevirtual 363, 0)) rfl) rfl rfl rfl rfl (zm_putsBy hS1 hv1 hU1.1 hu15) (fun v1373 ph1374 hv => ?_)
    obtain ⟨rfl, fp, gp, op⟩ := hv
    show zW n D 248 Q 23 [some (.ref 170), some (.int x), none, none, none] [] ph1374
    have hr := zWp_r hU1.2.2 gp op
    have f1 : zFr [183] [(170, 0)] ph ph1374 := zFr_trans (zFr_mono f0 (by simp) (by simp)) (zFr_mono fp (by simp) (by simp))
    have hS2 := zSh_F f1 (by decide +kernel) hS
    have hN2 := zMp_F f1 (by simp) (by simp) (by simp) hN0
    have hv2 := zNr_F f1 (by simp) (by simp) hv
    refine w_load (pc' := 24) (v := .ref 170) (m := 1) (ykc_248 (e := (2, .aload_n kF0, 0)) rfl) rfl rfl ?_
    refine w_load (pc' := 25) (v := .ref 170) (m := 1) (ykc_248 (e := (2, .aload_n kF0, 0)) rfl) rfl rfl ?_
    refine w_gf (pc' := 28) (v := .ref 174) (ykc_248 (e := (5, .getfield 41, 0)) rfl) rfl ((fp.1 170 11 (by decide) (by decide)).trans ((u1368.2.1 170 11 (fun q => absurd q.2 (by decide))).trans (zsg hS zs_170_11))) rfl ?_
    refine w_cv (as := [.ref 170, .ref 174]) (r := []) (ykc_248 (e := (6, .invokevirtual 366, 0)) rfl) rfl rfl rfl rfl (zm_known2 hS2 hN2 hv2 hO0) (fun v1375 ph1376 hv => ?_)
    obtain ⟨rfl, rfl⟩ := hv
    show zW n D 248 Q 31 [some (.ref 170), some (.int x), none, none, none] [.int (zKw v P)] ph1374
    refine w_store (pc' := 32) (L' := [some (.ref 170), some (.int x), some (.int (zKw v P)), none, none]) (st' := []) (m := 1) (ykc_248 (e := (3, .istore_n kF2, 0)) rfl) rfl rfl ?_
    refine w_load (pc' := 33) (v := .ref 170) (m := 1) (ykc_248 (e := (2, .aload_n kF0, 0)) rfl) rfl rfl ?_
    refine w_load (pc' := 34) (v := .ref 170) (m := 1) (ykc_248 (e := (2, .aload_n kF0, 0)) rfl) rfl rfl ?_
    refine w_gf (pc' := 37) (v := .ref 174) (ykc_248 (e := (5, .getfield 41, 0)) rfl) rfl ((fp.1 170 11 (by decide) (by decide)).trans ((u1368.2.1 170 11 (fun q => absurd q.2 (by decide))).trans (zsg hS zs_170_11))) rfl ?_
    refine w_load (pc' := 38) (v := .int x) (m := 1) (ykc_248 (e := (2, .iload_n kF1, 0)) rfl) rfl rfl ?_
    refine w_cv (as := [.ref 170, .ref 174, .int x]) (r := []) (ykc_248 (e := (6, .invokevirtual 370, 0)) rfl) rfl rfl rfl rfl (h243 (by omega) (by omega) _ f1) (fun v1377 ph1378 hv => ?_)
    obtain ⟨rfl, fg, v2, hvv, hov, hT⟩ := hv
    show zW n D 248 Q 41 [some (.ref 170), some (.int x), some (.int (zKw v P)), none, none] [] ph1378
    have f3 : zFr [174, 181, 182, 183, 184] [(170, 0)] ph ph1378 := zFr_trans (zFr_mono f1 (by simp) (by simp)) (zFr_mono fg (by simp) (by simp))
    have hS3 := zSh_F f3 (by decide +kernel) hS
    have hN3 := zMp_F f3 (by simp) (by simp) (by simp) hN0
    have hr3 := zUr_F fg (by simp) (by simp) hr
    refine w_alu (pc' := 42) (st' := [.int (Int32.ofInt 0)]) (ykc_248 (e := (0, .iconst 0, 0)) rfl) rfl rfl ?_
    refine w_store (pc' := 43) (L' := [some (.ref 170), some (.int x), some (.int (zKw v P)), some (.int (Int32.ofInt 0)), none]) (st' := []) (m := 1) (ykc_248 (e := (3, .istore_n kF3, 0)) rfl) rfl rfl ?_
    refine w_alu (pc' := 44) (st' := [.int (Int32.ofInt 0)]) (ykc_248 (e := (0, .iconst 0, 0)) rfl) rfl rfl ?_
    refine w_store (pc' := 46) (L' := [some (.ref 170), some (.int x), some (.int (zKw v P)), some (.int (Int32.ofInt 0)), some (.int (Int32.ofInt 0))]) (st' := []) (m := 2) (ykc_248 (e := (3, .istore 4, 0)) rfl) rfl rfl ?_
    have hl : ∀ (n : Nat), ∀ (k : Nat) (a : Int32), (k ≤ P) → zW n D 248 Q 46 [some (.ref 170), some (.int x), some (.int (zKw v P)), some (.int a), some (.int (zn k))] [] ph1378 := by
      intro n
      induction n using Nat.strongRecOn with
      | ind n ih =>
        intro k a hk9
        have tk := znt (k := k) (by omega)
        refine w_load (pc' := 48) (v := .int (zn k)) (m := 2) (ykc_248 (e := (2, .iload 4, 0)) rfl) rfl rfl ?_
        refine w_load (pc' := 49) (v := .ref 170) (m := 1) (ykc_248 (e := (2, .aload_n kF0, 0)) rfl) rfl rfl ?_
        refine w_gf (pc' := 52) (v := .int (zn P)) (ykc_248 (e := (5, .getfield 130, 0)) rfl) rfl hN3.1 rfl ?_
        refine w_ige (ykc_248 (e := (4, .if_icmp .ge 22, 74)) rfl) rfl (fun b1379 => ?_) (fun b1379 => ?_)
        · refine w_load (pc' := 75) (v := .ref 170) (m := 1) (ykc_248 (e := (2, .aload_n kF0, 0)) rfl) rfl rfl ?_
          refine w_alu (pc' := 76) (st' := [.int (Int32.ofInt 0), .ref 170]) (ykc_248 (e := (0, .iconst 0, 0)) rfl) rfl rfl ?_
          refine w_pf (pc' := 79) (ykc_248 (e := (5, .putfield 15, 0)) rfl) rfl rfl (fun ph1381 u1380 => ?_)
          refine w_load (pc' := 80) (v := .ref 170) (m := 1) (ykc_248 (e := (2, .aload_n kF0, 0)) rfl) rfl rfl ?_
          refine w_load (pc' := 81) (v := .ref 170) (m := 1) (ykc_248 (e := (2, .aload_n kF0, 0)) rfl) rfl rfl ?_
          refine w_load (pc' := 82) (v := .ref 170) (m := 1) (ykc_248 (e := (2, .aload_n kF0, 0)) rfl) rfl rfl ?_
          refine w_gf (pc' := 85) (v := .ref 174) (ykc_248 (e := (5, .getfield 41, 0)) rfl) rfl ((u1380.2.1 170 11 (fun q => absurd q.2 (by decide))).trans (zsg hS3 zs_170_11)) rfl ?_
          refine w_cv (as := [.ref 170, .ref 174]) (r := [.ref 170]) (ykc_248 (e := (6, .invokevirtual 366, 0)) rfl) rfl rfl rfl rfl (zm_known2 (zSh_F ((zFr_st u1380 (Or.inr (by simp))) : zFr [171] [(170, 1)] _ _) (by decide +kernel) hS3) (zMp_F ((zFr_st u1380 (Or.inr (by simp))) : zFr [171] [(170, 1)] _ _) (by simp) (by simp) (by simp) hN3) (zNr_F ((zFr_st u1380 (Or.inr (by simp))) : zFr [171] [(170, 1)] _ _) (by simp) (by simp) hvv) hov) (fun v1382 ph1383 hv => ?_)
          obtain ⟨rfl, rfl⟩ := hv
          show zW n D 248 Q 88 [some (.ref 170), some (.int x), some (.int (zKw v P)), some (.int a), some (.int (zn k))] [.int (zKw v2 P), .ref 170] ph1381
          refine w_load (pc' := 89) (v := .int (zKw v P)) (m := 1) (ykc_248 (e := (2, .iload_n kF2, 0)) rfl) rfl rfl ?_
          refine w_alu (pc' := 90) (st' := [.int ((zKw v2 P) - (zKw v P)), .ref 170]) (ykc_248 (e := (0, .isub, 0)) rfl) rfl rfl ?_
          refine w_alu (pc' := 91) (st' := [.long (((zKw v2 P) - (zKw v P)).toInt64), .ref 170]) (ykc_248 (e := (0, .i2l, 0)) rfl) rfl rfl ?_
          refine w_cv (as := [.ref 170, .long (((zKw v2 P) - (zKw v P)).toInt64)]) (r := []) (ykc_248 (e := (6, .invokevirtual 373, 0)) rfl) rfl rfl rfl rfl (zm_enter (zSh_F ((zFr_st u1380 (Or.inr (by simp))) : zFr [171] [(170, 1)] _ _) (by decide +kernel) hS3) (k := 0) u1380.1 (by decide)) (fun v1384 ph1385 hv => ?_)
          obtain ⟨rfl, fe1, ge1⟩ := hv
          show zW n D 248 Q 94 [some (.ref 170), some (.int x), some (.int (zKw v P)), some (.int a), some (.int (zn k))] [] ph1385
          refine w_load (pc' := 95) (v := .ref 170) (m := 1) (ykc_248 (e := (2, .aload_n kF0, 0)) rfl) rfl rfl ?_
          refine w_load (pc' := 96) (v := .int a) (m := 1) (ykc_248 (e := (2, .iload_n kF3, 0)) rfl) rfl rfl ?_
          refine w_alu (pc' := 97) (st' := [.long a.toInt64, .ref 170]) (ykc_248 (e := (0, .i2l, 0)) rfl) rfl rfl ?_
          refine w_cv (as := [.ref 170, .long a.toInt64]) (r := []) (ykc_248 (e := (6, .invokevirtual 373, 0)) rfl) rfl rfl rfl rfl (zm_enter (zSh_F ((zFr_trans (zFr_st u1380 (Or.inr (by simp))) fe1) : zFr [171] [(170, 1)] _ _) (by decide +kernel) hS3) (k := 1) ge1 (by decide)) (fun v1386 ph1387 hv => ?_)
          obtain ⟨rfl, fe2, ge2⟩ := hv
          show zW n D 248 Q 100 [some (.ref 170), some (.int x), some (.int (zKw v P)), some (.int a), some (.int (zn k))] [] ph1387
          refine w_load (pc' := 101) (v := .ref 170) (m := 1) (ykc_248 (e := (2, .aload_n kF0, 0)) rfl) rfl rfl ?_
          refine w_load (pc' := 102) (v := .ref 170) (m := 1) (ykc_248 (e := (2, .aload_n kF0, 0)) rfl) rfl rfl ?_
          refine w_load (pc' := 103) (v := .ref 170) (m := 1) (ykc_248 (e := (2, .aload_n kF0, 0)) rfl) rfl rfl ?_
          refine w_gf (pc' := 106) (v := .ref 174) (ykc_248 (e := (5, .getfield 41, 0)) rfl) rfl ((fe2.1 170 11 (by decide) (by decide)).trans ((fe1.1 170 11 (by decide) (by decide)).trans ((u1380.2.1 170 11 (fun q => absurd q.2 (by decide))).trans (zsg hS3 zs_170_11)))) rfl ?_
          refine w_cv (as := [.ref 170, .ref 174]) (r := [.ref 170]) (ykc_248 (e := (6, .invokevirtual 366, 0)) rfl) rfl rfl rfl rfl (zm_known2 (zSh_F ((zFr_trans (zFr_trans (zFr_st u1380 (Or.inr (by simp))) fe1) fe2) : zFr [171] [(170, 1)] _ _) (by decide +kernel) hS3) (zMp_F ((zFr_trans (zFr_trans (zFr_st u1380 (Or.inr (by simp))) fe1) fe2) : zFr [171] [(170, 1)] _ _) (by simp) (by simp) (by simp) hN3) (zNr_F ((zFr_trans (zFr_trans (zFr_st u1380 (Or.inr (by simp))) fe1) fe2) : zFr [171] [(170, 1)] _ _) (by simp) (by simp) hvv) hov) (fun v1388 ph1389 hv => ?_)
          obtain ⟨rfl, rfl⟩ := hv
          show zW n D 248 Q 109 [some (.ref 170), some (.int x), some (.int (zKw v P)), some (.int a), some (.int (zn k))] [.int (zKw v2 P), .ref 170] ph1387
          refine w_cv (as := [.ref 170, .int (zKw v2 P)]) (r := []) (ykc_248 (e := (6, .invokevirtual 341, 0)) rfl) rfl rfl rfl rfl (zm_adds (x := zKw v2 P) (zSh_F ((zFr_trans (zFr_trans (zFr_st u1380 (Or.inr (by simp))) fe1) fe2) : zFr [171] [(170, 1)] _ _) (by decide +kernel) hS3) ((((zFr_trans (zFr_trans (zFr_st u1380 (Or.inr (by simp))) fe1) fe2) : zFr [171] [(170, 1)] _ _).1 170 27 (by decide) (by decide)).trans ((f3.1 170 27 (by decide) (by decide)).trans hU.1)) hu15 (zUr_F ((zFr_trans (zFr_trans (zFr_st u1380 (Or.inr (by simp))) fe1) fe2) : zFr [171] [(170, 1)] _ _) (by simp) (by simp) hr3)) (fun v1390 ph1391 hv => ?_)
          obtain ⟨rfl, fa, ga, ra⟩ := hv
          have fb : zFr [171] [(170, 1)] ph1378 _ := (zFr_trans (zFr_trans (zFr_st u1380 (Or.inr (by simp))) fe1) fe2)
          show zW n D 248 Q 112 [some (.ref 170), some (.int x), some (.int (zKw v P)), some (.int a), some (.int (zn k))] [.int (zKw v2 P)] ph1391
          refine w_ret (v := (some (.int (zKw v2 P)))) (ykc_248 (e := (7, .ireturn, 0)) rfl) (zr_v rfl) ?_
          have f9 : zFr [171, 174, 181, 182, 183, 184] [(170, 0), (170, 1), (170, 27)] ph _ := zFr_trans (zFr_mono f3 (by simp) (by simp)) (zFr_trans (zFr_mono fb (by simp) (by simp)) (zFr_mono fa (by simp) (by simp)))
          have fz : zFr [171, 183] [(170, 1), (170, 27)] ph1378 _ := zFr_trans (zFr_mono fb (by simp) (by simp)) (zFr_mono fa (by simp) (by simp))
          rw [hQ]
          exact Or.inr ⟨by omega, by omega, v2, rfl, hT, zMl_F f9 (by simp) (by simp) (by simp) (by simp) hL0, zMp_F f9 (by simp) (by simp) (by simp) hN0, zNr_F fz (by simp) (by simp) hvv, ⟨ga, zAd_15 hu15, ra⟩, zMk_F f9 (by simp) (by simp) (by simp) hk, zMh_F f9 (by simp) (by simp) hh⟩
        · refine w_load (pc' := 56) (v := .int a) (m := 1) (ykc_248 (e := (2, .iload_n kF3, 0)) rfl) rfl rfl ?_
          refine w_load (pc' := 57) (v := .ref 170) (m := 1) (ykc_248 (e := (2, .aload_n kF0, 0)) rfl) rfl rfl ?_
          refine w_gf (pc' := 60) (v := .ref 174) (ykc_248 (e := (5, .getfield 41, 0)) rfl) rfl (zsg hS3 zs_170_11) rfl ?_
          refine w_push (pc' := 62) (v := .int ((Int8.ofInt 24).toInt32)) (m := 2) (ykc_248 (e := (1, .bipush 24, 0)) rfl) rfl rfl ?_
          refine w_load (pc' := 64) (v := .int (zn k)) (m := 2) (ykc_248 (e := (2, .iload 4, 0)) rfl) rfl rfl ?_
          have e1392 : ((Int8.ofInt 24).toInt32) + (zn k) = zn (24 + k) := (zaddN (a := 24) (b := k) c_0 (znt (by omega)) (by omega)) 
          have te1392 := znt (k := 24 + k) (by omega)
          refine w_alu (pc' := 65) (st' := [.int (zn (24 + k)), .ref 174, .int a]) (ykc_248 (e := (0, .iadd, 0)) rfl) (by rw [← e1392]; rfl) rfl ?_
          refine w_ialk (pc' := 66) (k := 24 + k) (ykc_248 (e := (5, .iaload, 0)) rfl) (zNr0 hvv (i := 24 + k) (by omega)) (by omega) rfl ?_
          refine w_alu (pc' := 67) (st' := [.int (a ||| (zn (v2 (24 + k))))]) (ykc_248 (e := (0, .ior, 0)) rfl) rfl rfl ?_
          refine w_store (pc' := 68) (L' := [some (.ref 170), some (.int x), some (.int (zKw v P)), some (.int (a ||| (zn (v2 (24 + k))))), some (.int (zn k))]) (st' := []) (m := 1) (ykc_248 (e := (3, .istore_n kF3, 0)) rfl) rfl rfl ?_
          have e1393 : (zn k) + Int32.ofInt 1 = zn (k + 1) := (zaddN (a := k) (b := 1) (znt (by omega)) c_3 (by omega))
          have te1393 := znt (k := k + 1) (by omega)
          refine w_store (pc' := 71) (L' := [some (.ref 170), some (.int x), some (.int (zKw v P)), some (.int (a ||| (zn (v2 (24 + k))))), some (.int (zn (k + 1)))]) (st' := []) (m := 3) (ykc_248 (e := (3, .iinc 4 1, 0)) rfl) (by rw [← e1393]; rfl) rfl ?_
          refine w_gb (ykc_248 (e := (4, .goto (-25), 46)) rfl) (fun k1394 hk1394 => ?_)
          exact ih k1394 hk1394 (k + 1) _ (by omega)
    exact hl n 0 _ (Nat.zero_le _)
  · refine w_alu (pc' := 18) (st' := [.int (Int32.ofInt (-1))]) (ykc_248 (e := (0, .iconst (-1), 0)) rfl) rfl rfl ?_
    refine w_ret (v := (some (.int (Int32.ofInt (-1))))) (ykc_248 (e := (7, .ireturn, 0)) rfl) (zr_v rfl) ?_
    have d9 := of_decide_eq_false b1372
    have f2 : zFr [] [(170, 0)] ph _ := zFr_st u1368 (Or.inr (by simp))
    rw [hQ]
    exact Or.inl ⟨by omega, rfl, zMl_F f2 (by simp) (by simp) (by simp) (by simp) hL0, zMp_F f2 (by simp) (by simp) (by simp) hN0, zNr_F f2 (by simp) (by simp) hv, zMu_F f2 (by simp) (by simp) (by simp) hU, zMk_F f2 (by simp) (by simp) (by simp) hk, zMh_F f2 (by simp) (by simp) hh⟩
end
section
/-! strings, texts, by W; printed by wip/z/z1a_str.py -/
theorem zm1sub {y : Int32} {d : Int} (hy : y.toInt = d) (h1 : -1000 ≤ d) (h2 : d ≤ 2147483647) : ((Int32.ofInt (-1)) - y).toInt = (-1 : Int) - d := by
  have h := ti_sub (x := Int32.ofInt (-1)) (y := y) (by rw [hy, show (Int32.ofInt (-1)).toInt = -1 by decide]; omega) (by rw [hy, show (Int32.ofInt (-1)).toInt = -1 by decide]; omega)
  rw [h, hy, show (Int32.ofInt (-1)).toInt = -1 by decide]
theorem zbif2 {α : Type} {b : Bool} {x : Option α} {y : α} (h : (bif b then x else none) = some y) : x = some y := by
  cases b with
  | false => cases h
  | true => exact h
theorem zb4 {α : Type} {a b c d : Bool} {X w : α} (h : (bif a then some X else bif b then some X else bif c then some X else bif d then some X else none) = some w) : w = X := by
  cases a <;> cases b <;> cases c <;> cases d <;> first | exact (Option.some.inj h).symm | cases h
theorem zr_i {kd : Nat} {x : Int32} : ∀ w, pm_ret kd .ireturn [.int x] = some w → w = some (.int x) := fun w h => zb4 h
theorem zgf7 {K : pm_K} {al : Bool} {ow fi k i i9 A m' c2 s2 : Nat} {v v0 : Value} {st st2 : List Value} {ph ph2 : pm_H} (hl : pm_lnk K ow fi = some (7, k, i, v0)) (hA : Nat.blt A 1048576 = false) (ha : A - 1048576 = i9) (hr : pm_ro K i9 k = some v) (hm : pm_mem K al ow (.getfield fi) (.ref A :: st) ph = some (m', st2, ph2, c2, s2)) : 3 = m' ∧ v :: st = st2 ∧ ph = ph2 := by
  unfold pm_mem at hm
  simp only [hl, hA, cond_false, ha, hr] at hm
  cases hm
  exact ⟨rfl, rfl, rfl⟩
theorem zin2 {K : pm_K} {ow fi na i9 A j' j2 : Nat} {st r as2 r2 : List Value} {ph : pm_H} (hl : pm_lnk K ow fi = some (2, j', na, .null)) (hd : st.drop na = .ref A :: r) (hA : Nat.blt A 1048576 = false) (ha : A - 1048576 = i9) (hi : pm_inv K ow (.invokevirtual fi) st ph = some (j2, as2, r2)) : j' = j2 ∧ .ref A :: (st.take na).reverse = as2 ∧ r = r2 := by
  unfold pm_inv at hi
  simp only [hl, hd, hA, cond_false, ha] at hi
  cases hq : pm_ro K i9 0 with
  | none => simp only [hq] at hi; cases hi
  | some c =>
    simp only [hq] at hi
    have hi := zbif hi
    cases hi
    exact ⟨rfl, rfl, rfl⟩
section ZSR
variable {n D j pc pc' aux na fi ci k A B i i9 m : Nat} {Q : Option Value → pm_H → Prop} {ins : Instr} {L : List (Option Value)} {st r as : List Value} {ph : pm_H} {v v0 : Value}
theorem zat_hi (hA : Nat.blt A 1048576 = false) : pm_at ph A = none := by
  unfold pm_at
  rw [hA]
  rfl
theorem w_gfr (hc : pm_code kK j pc = some (5, .getfield fi, aux)) (hl : pm_lnk kK (pm_own kK j) fi = some (7, k, i, v0)) (hA : Nat.blt A 1048576 = false ∧ A - 1048576 = i9) (hr : pm_ro kK i9 k = some v) (hp : pc + 3 = pc') (kk : zW n D j Q pc' L (v :: st) ph) : zW n D j Q pc L (.ref A :: st) ph := w_mem hc fun m' st2 ph2 c2 s2 hm => by
  obtain ⟨e1, e2, e3⟩ := zgf7 hl hA.1 hA.2 hr hm
  subst hp e1 e2 e3
  exact kk
theorem w_alr {t : Nat} {f : Nat → Value} (hc : pm_code kK j pc = some (5, .arraylength, aux)) (hr : Nat.blt A 1048576 = false ∧ pm_rat kK A = some (t, m, f)) (hp : pc + 1 = pc') (kk : zW n D j Q pc' L (.int (Int32.ofNat m) :: st) ph) : zW n D j Q pc L (.ref A :: st) ph := w_mem hc fun m' st2 ph2 c2 s2 hm => by
  subst hp
  unfold pm_mem at hm
  simp only [zat_hi hr.1, hr.2] at hm
  cases hm
  exact kk
theorem w_blr {x y : Int32} {f : Nat → Value} (hc : pm_code kK j pc = some (5, .baload, aux)) (hr : Nat.blt A 1048576 = false ∧ pm_rat kK A = some (3, m, f) ∧ f k = .int y) (hx : x.toInt = (k : Int)) (hp : pc + 1 = pc') (kk : zW n D j Q pc' L (.int y :: st) ph) : zW n D j Q pc L (.int x :: .ref A :: st) ph := w_mem hc fun m' st2 ph2 c2 s2 hm => by
  subst hp
  have e : x.toNatClampNeg = k := by
    show x.toInt.toNat = k
    omega
  unfold pm_mem at hm
  simp only [zat_hi hr.1, hr.2.1, e, hr.2.2] at hm
  have hm := zbif hm
  cases hm
  exact kk
theorem w_cvr {j' : Nat} {P : Option Value → pm_H → Prop} (hA : Nat.blt A 1048576 = false ∧ A - 1048576 = i9) (hc : pm_code kK j pc = some (6, .invokevirtual fi, aux)) (hl : pm_lnk kK (pm_own kK j) fi = some (2, j', na, .null)) (hd : st.drop na = .ref A :: r) (ha : .ref A :: (st.take na).reverse = as) (hp : pc + 3 = pc') (hz : zM j' as ph P) (kk : ∀ v ph', P v ph' → zW n D j Q pc' L (v.toList ++ r) ph') : zW n D j Q pc L st ph := w_inv hc fun j2 as2 r2 hi => by
  obtain ⟨e1, e2, e3⟩ := zin2 hl hd hA.1 hA.2 hi
  subst hp ha e1 e2 e3
  exact ⟨P, hz, kk⟩
theorem w_mac {j' : Nat} {P : Option Value → pm_H → Prop} {x y : Int32} (hc : pm_code kK j pc = some (8, ins, aux)) (hl : pm_lnk kK (pm_own kK j) aux = some (1, j', 3, v0)) (hp : pc + 6 = pc') (hz : zM j' [.int x, .int y, .null] ph P) (kk : ∀ v ph', P v ph' → zW n D j Q pc' L (v.toList ++ r) ph') : zW n D j Q pc L (.int y :: .int x :: r) ph := fun k hk cs ss r9 hr => by
  cases k with
  | zero => exact hr.elim
  | succ k =>
    rw [pm_Tn] at hr
    unfold pm_step at hr
    simp only [hc] at hr
    cases hm : pm_mac kK (pm_own kK j) aux (.int y :: .int x :: r) ph with
    | none => simp only [hm] at hr
    | some q =>
      obtain ⟨j2, as2, r2⟩ := q
      simp only [hm] at hr
      obtain ⟨v, ph', c1, s1, h1, h2⟩ := hr
      unfold pm_mac at hm
      have hm := zbif2 hm
      unfold pm_inv at hm
      simp only [hl] at hm
      have hm := zbif hm
      cases hm
      subst hp
      exact kk v ph' (hz D _ h1) k (by omega) _ _ r9 h2
end ZSR
/-- a string at s, its signs at B, so many of them, cs -/
def zStr (s B N : Nat) (cs : Nat → Nat) : Prop := ∃ i9, (Nat.blt s 1048576 = false ∧ s - 1048576 = i9) ∧ pm_ro kK i9 0 = some (.ref B) ∧ pm_ro kK i9 1 = some (.int 0) ∧ Nat.blt B 1048576 = false ∧ N ≤ 20 ∧ ∃ f, pm_rat kK B = some (3, N, f) ∧ ∀ k, k < N → f k = .int (zn (cs k)) ∧ cs k < 128
def zls (l : List Nat) (k : Nat) : Nat := l.getD k 0
theorem zchr : ∀ c, c < 128 → (((zn c &&& (Int16.ofInt 255).toInt32).toUInt32 % 65536).toInt32) = zn c := by decide
theorem zstr_dot : zStr 1048627 1048587 2 (zls [46, 35]) := ⟨_, ⟨rfl, rfl⟩, rfl, rfl, rfl, by decide, _, rfl, fun k hk => by
  rcases (show k = 0 ∨ k = 1 by omega) with e | e <;> subst e <;> exact ⟨rfl, by decide⟩⟩
theorem zstr_lets : zStr 1048628 1048588 8 (zls [98, 108, 107, 102, 114, 99, 110, 112]) := ⟨_, ⟨rfl, rfl⟩, rfl, rfl, rfl, by decide, _, rfl, fun k hk => by
  rcases (show k = 0 ∨ k = 1 ∨ k = 2 ∨ k = 3 ∨ k = 4 ∨ k = 5 ∨ k = 6 ∨ k = 7 by omega) with e | e | e | e | e | e | e | e <;> subst e <;> exact ⟨rfl, by decide⟩⟩
theorem zstr_cmp : zStr 1048629 1048589 3 (zls [60, 62, 61]) := ⟨_, ⟨rfl, rfl⟩, rfl, rfl, rfl, by decide, _, rfl, fun k hk => by
  rcases (show k = 0 ∨ k = 1 ∨ k = 2 by omega) with e | e | e <;> subst e <;> exact ⟨rfl, by decide⟩⟩
theorem zstr_add : zStr 1048630 1048590 2 (zls [43, 45]) := ⟨_, ⟨rfl, rfl⟩, rfl, rfl, rfl, by decide, _, rfl, fun k hk => by
  rcases (show k = 0 ∨ k = 1 by omega) with e | e <;> subst e <;> exact ⟨rfl, by decide⟩⟩
theorem zstr_mul : zStr 1048631 1048591 2 (zls [42, 47]) := ⟨_, ⟨rfl, rfl⟩, rfl, rfl, rfl, by decide, _, rfl, fun k hk => by
  rcases (show k = 0 ∨ k = 1 by omega) with e | e <;> subst e <;> exact ⟨rfl, by decide⟩⟩
theorem zstr_day : zStr 1048632 1048592 5 (zls [110, 102, 103, 98, 112]) := ⟨_, ⟨rfl, rfl⟩, rfl, rfl, rfl, by decide, _, rfl, fun k hk => by
  rcases (show k = 0 ∨ k = 1 ∨ k = 2 ∨ k = 3 ∨ k = 4 by omega) with e | e | e | e | e <;> subst e <;> exact ⟨rfl, by decide⟩⟩
theorem zstr_letc : zStr 1048626 1048586 8 (zls [98, 108, 107, 102, 114, 99, 110, 112]) := ⟨_, ⟨rfl, rfl⟩, rfl, rfl, rfl, by decide, _, rfl, fun k hk => by
  rcases (show k = 0 ∨ k = 1 ∨ k = 2 ∨ k = 3 ∨ k = 4 ∨ k = 5 ∨ k = 6 ∨ k = 7 by omega) with e | e | e | e | e | e | e | e <;> subst e <;> exact ⟨rfl, by decide⟩⟩
theorem zj_latin {s B N : Nat} {cs : Nat → Nat} {ph : pm_H} (hst : zStr s B N cs) : zM 311 [.ref s] ph (fun v q => ph = q ∧ v = some (.int (zI true))) := by
  obtain ⟨Q, hQ⟩ : ∃ Q : Option Value → pm_H → Prop, Q = (fun v q => ph = q ∧ v = some (.int (zI true))) := ⟨_, rfl⟩
  rw [← hQ]
  refine zM_mk fun n D => ?_
  show zW n D 311 Q 0 [some (.ref s)] [] ph
  have c_0 : (Int32.ofInt 0).toInt = 0 := by decide
  have c_1 : (Int32.ofInt 1).toInt = 1 := by decide
  obtain ⟨i9, s1, s2, s3, s4, s5, f, s6, s7⟩ := hst
  have k0 : (0 : Int32).toInt = 0 := by decide
  have k1 : (1 : Int32).toInt = 1 := by decide
  refine w_push (pc' := 3) (v := .int (1 : Int32)) (m := 3) (ykc_311 (e := (1, .getstatic 38, 0)) rfl) rfl rfl ?_
  refine w_zeq (ykc_311 (e := (4, .ifCond .eq 14, 17)) rfl) rfl (fun q => by exfalso; omega) (fun b1395 => ?_)
  refine w_load (pc' := 7) (v := .ref s) (m := 1) (ykc_311 (e := (2, .aload_n kF0, 0)) rfl) rfl rfl ?_
  refine w_gfr (pc' := 10) (v := .int 0) (ykc_311 (e := (5, .getfield 15, 0)) rfl) rfl s1 s3 rfl ?_
  refine w_zne (ykc_311 (e := (4, .ifCond .ne 7, 17)) rfl) rfl (fun q => by exfalso; omega) (fun b1396 => ?_)
  refine w_alu (pc' := 14) (st' := [.int (Int32.ofInt 1)]) (ykc_311 (e := (0, .iconst 1, 0)) rfl) rfl rfl ?_
  refine w_br (pc' := 18) (st' := [.int (Int32.ofInt 1)]) (ykc_311 (e := (4, .goto 4, 18)) rfl) rfl ?_
  refine w_ret (v := (some (.int (Int32.ofInt 1)))) (ykc_311 (e := (7, .ireturn, 0)) rfl) zr_z ?_
  rw [hQ, zi1]
  exact ⟨rfl, rfl⟩
theorem zj_coder {s B N : Nat} {cs : Nat → Nat} {ph : pm_H} (hst : zStr s B N cs) : zM 310 [.ref s] ph (fun v q => ph = q ∧ v = some (.int 0)) := by
  obtain ⟨Q, hQ⟩ : ∃ Q : Option Value → pm_H → Prop, Q = (fun v q => ph = q ∧ v = some (.int 0)) := ⟨_, rfl⟩
  rw [← hQ]
  refine zM_mk fun n D => ?_
  show zW n D 310 Q 0 [some (.ref s)] [] ph
  have c_0 : (Int32.ofInt 1).toInt = 1 := by decide
  obtain ⟨i9, s1, s2, s3, s4, s5, f, s6, s7⟩ := hst
  have k0 : (0 : Int32).toInt = 0 := by decide
  have k1 : (1 : Int32).toInt = 1 := by decide
  refine w_push (pc' := 3) (v := .int (1 : Int32)) (m := 3) (ykc_310 (e := (1, .getstatic 38, 0)) rfl) rfl rfl ?_
  refine w_zeq (ykc_310 (e := (4, .ifCond .eq 10, 13)) rfl) rfl (fun q => by exfalso; omega) (fun b1397 => ?_)
  refine w_load (pc' := 7) (v := .ref s) (m := 1) (ykc_310 (e := (2, .aload_n kF0, 0)) rfl) rfl rfl ?_
  refine w_gfr (pc' := 10) (v := .int 0) (ykc_310 (e := (5, .getfield 15, 0)) rfl) rfl s1 s3 rfl ?_
  refine w_br (pc' := 14) (st' := [.int 0]) (ykc_310 (e := (4, .goto 4, 14)) rfl) rfl ?_
  refine w_ret (v := (some (.int 0))) (ykc_310 (e := (7, .ireturn, 0)) rfl) zr_i ?_
  rw [hQ]
  exact ⟨rfl, rfl⟩
theorem zsh0 : ∀ N, N ≤ 20 → Int32.ofNat N >>> ((0 : Int32) &&& 31) = zn N := by decide
theorem zj_len {s B N : Nat} {cs : Nat → Nat} {ph : pm_H} (hst : zStr s B N cs) : zM 306 [.ref s] ph (fun v q => ph = q ∧ v = some (.int (zn N))) := by
  obtain ⟨Q, hQ⟩ : ∃ Q : Option Value → pm_H → Prop, Q = (fun v q => ph = q ∧ v = some (.int (zn N))) := ⟨_, rfl⟩
  rw [← hQ]
  refine zM_mk fun n D => ?_
  show zW n D 306 Q 0 [some (.ref s)] [] ph
  obtain ⟨i9, s1, s2, s3, s4, s5, f, s6, s7⟩ := hst
  have k0 : (0 : Int32).toInt = 0 := by decide
  have k1 : (1 : Int32).toInt = 1 := by decide
  refine w_load (pc' := 1) (v := .ref s) (m := 1) (ykc_306 (e := (2, .aload_n kF0, 0)) rfl) rfl rfl ?_
  refine w_gfr (pc' := 4) (v := .ref B) (ykc_306 (e := (5, .getfield 9, 0)) rfl) rfl s1 s2 rfl ?_
  refine w_alr (ykc_306 (e := (5, .arraylength, 0)) rfl) ⟨s4, s6⟩ rfl ?_
  refine w_load (pc' := 6) (v := .ref s) (m := 1) (ykc_306 (e := (2, .aload_n kF0, 0)) rfl) rfl rfl ?_
  refine w_cvr s1 (as := [.ref s]) (r := [.int (Int32.ofNat N)]) (ykc_306 (e := (6, .invokevirtual 335, 0)) rfl) rfl rfl rfl rfl (zj_coder ⟨i9, s1, s2, s3, s4, s5, f, s6, s7⟩) (fun v1398 ph1399 hv => ?_)
  obtain ⟨rfl, rfl⟩ := hv
  show zW n D 306 Q 9 [some (.ref s)] [.int 0, .int (Int32.ofNat N)] ph
  refine w_alu (pc' := 10) (st' := [.int ((Int32.ofNat N) >>> (0 &&& 31))]) (ykc_306 (e := (0, .ishr, 0)) rfl) rfl rfl ?_
  refine w_ret (v := (some (.int ((Int32.ofNat N) >>> (0 &&& 31))))) (ykc_306 (e := (7, .ireturn, 0)) rfl) (zr_v rfl) ?_
  rw [hQ]
  exact ⟨rfl, by rw [show (Int32.ofNat N) >>> (0 &&& 31) = zn N from zsh0 N s5]⟩
theorem zj_chk {x y : Int32} {a b : Nat} {ph : pm_H} (hx : x.toInt = (a : Int)) (hy : y.toInt = (b : Int)) (hab : a < b) : zM 329 [.int x, .int y, .null] ph (fun v q => ph = q ∧ v = some (.int x)) := by
  obtain ⟨Q, hQ⟩ : ∃ Q : Option Value → pm_H → Prop, Q = (fun v q => ph = q ∧ v = some (.int x)) := ⟨_, rfl⟩
  rw [← hQ]
  refine zM_mk fun n D => ?_
  show zW n D 329 Q 0 [some (.int x), some (.int y), some (.null)] [] ph
  refine w_load (pc' := 1) (v := .int x) (m := 1) (ykc_329 (e := (2, .iload_n kF0, 0)) rfl) rfl rfl ?_
  refine w_zlt (ykc_329 (e := (4, .ifCond .lt 8, 9)) rfl) rfl (fun q => by exfalso; omega) (fun b1400 => ?_)
  refine w_load (pc' := 5) (v := .int x) (m := 1) (ykc_329 (e := (2, .iload_n kF0, 0)) rfl) rfl rfl ?_
  refine w_load (pc' := 6) (v := .int y) (m := 1) (ykc_329 (e := (2, .iload_n kF1, 0)) rfl) rfl rfl ?_
  refine w_ilt (ykc_329 (e := (4, .if_icmp .lt 10, 16)) rfl) rfl (fun b1401 => ?_) (fun q => by exfalso; omega)
  refine w_load (pc' := 17) (v := .int x) (m := 1) (ykc_329 (e := (2, .iload_n kF0, 0)) rfl) rfl rfl ?_
  refine w_ret (v := (some (.int x))) (ykc_329 (e := (7, .ireturn, 0)) rfl) (zr_v rfl) ?_
  rw [hQ]
  exact ⟨rfl, rfl⟩
theorem zj_chk2 {x y : Int32} {a b : Nat} {ph : pm_H} (hx : x.toInt = (a : Int)) (hy : y.toInt = (b : Int)) (hab : a < b) : zM 312 [.int x, .int y] ph (fun v q => ph = q ∧ v = none) := by
  obtain ⟨Q, hQ⟩ : ∃ Q : Option Value → pm_H → Prop, Q = (fun v q => ph = q ∧ v = none) := ⟨_, rfl⟩
  rw [← hQ]
  refine zM_mk fun n D => ?_
  show zW n D 312 Q 0 [some (.int x), some (.int y)] [] ph
  refine w_load (pc' := 1) (v := .int x) (m := 1) (ykc_312 (e := (2, .iload_n kF0, 0)) rfl) rfl rfl ?_
  refine w_load (pc' := 2) (v := .int y) (m := 1) (ykc_312 (e := (2, .iload_n kF1, 0)) rfl) rfl rfl ?_
  refine w_mac (ykc_312 (e := (8, .getstatic 1053, 1059)) rfl) rfl rfl (zj_chk hx hy hab) (fun v1402 ph1403 hv => ?_)
  obtain ⟨rfl, rfl⟩ := hv
  show zW n D 312 Q 8 [some (.int x), some (.int y)] [.int x] ph
  refine w_alu (pc' := 9) (st' := []) (ykc_312 (e := (0, .pop, 0)) rfl) rfl rfl ?_
  refine w_ret (v := none) (ykc_312 (e := (7, .return_, 0)) rfl) (zr_v rfl) ?_
  rw [hQ]
  exact ⟨rfl, rfl⟩
theorem zj_chr1 {s B N : Nat} {cs : Nat → Nat} {ph : pm_H} (hst : zStr s B N cs) {x : Int32} {k : Nat} (hx : x.toInt = (k : Int)) (hk : k < N) : zM 314 [.ref B, .int x] ph (fun v q => ph = q ∧ v = some (.int (zn (cs k)))) := by
  obtain ⟨Q, hQ⟩ : ∃ Q : Option Value → pm_H → Prop, Q = (fun v q => ph = q ∧ v = some (.int (zn (cs k)))) := ⟨_, rfl⟩
  rw [← hQ]
  refine zM_mk fun n D => ?_
  show zW n D 314 Q 0 [some (.ref B), some (.int x)] [] ph
  have c_0 : ((Int16.ofInt 255).toInt32).toInt = 255 := by decide
  obtain ⟨i9, s1, s2, s3, s4, s5, f, s6, s7⟩ := hst
  have k0 : (0 : Int32).toInt = 0 := by decide
  have k1 : (1 : Int32).toInt = 1 := by decide
  refine w_load (pc' := 1) (v := .int x) (m := 1) (ykc_314 (e := (2, .iload_n kF1, 0)) rfl) rfl rfl ?_
  refine w_load (pc' := 2) (v := .ref B) (m := 1) (ykc_314 (e := (2, .aload_n kF0, 0)) rfl) rfl rfl ?_
  refine w_alr (ykc_314 (e := (5, .arraylength, 0)) rfl) ⟨s4, s6⟩ rfl ?_
  refine w_cs (as := [.int x, .int (Int32.ofNat N)]) (r := []) (ykc_314 (e := (6, .invokestatic 9, 0)) rfl) rfl rfl rfl rfl (zj_chk2 (a := k) (b := N) hx (znt (by omega)) hk) (fun v1404 ph1405 hv => ?_)
  obtain ⟨rfl, rfl⟩ := hv
  show zW n D 314 Q 6 [some (.ref B), some (.int x)] [] ph
  refine w_load (pc' := 7) (v := .ref B) (m := 1) (ykc_314 (e := (2, .aload_n kF0, 0)) rfl) rfl rfl ?_
  refine w_load (pc' := 8) (v := .int x) (m := 1) (ykc_314 (e := (2, .iload_n kF1, 0)) rfl) rfl rfl ?_
  refine w_blr (pc' := 9) (k := k) (y := zn (cs k)) (ykc_314 (e := (5, .baload, 0)) rfl) ⟨s4, s6, (s7 k hk).1⟩ (by omega) rfl ?_
  refine w_push (pc' := 12) (v := .int ((Int16.ofInt 255).toInt32)) (m := 3) (ykc_314 (e := (1, .sipush 255, 0)) rfl) rfl rfl ?_
  refine w_alu (pc' := 13) (st' := [.int ((zn (cs k)) &&& ((Int16.ofInt 255).toInt32))]) (ykc_314 (e := (0, .iand, 0)) rfl) rfl rfl ?_
  refine w_alu (pc' := 14) (st' := [.int (zn (cs k))]) (ykc_314 (e := (0, .i2c, 0)) rfl) (by show some ([.int ((((zn (cs k)) &&& ((Int16.ofInt 255).toInt32)).toUInt32 % 65536).toInt32)] : List Value) = _; rw [(zchr _ (s7 k hk).2 : (((zn (cs k)) &&& ((Int16.ofInt 255).toInt32)).toUInt32 % 65536).toInt32 = zn (cs k))]) rfl ?_
  refine w_ret (v := (some (.int (zn (cs k))))) (ykc_314 (e := (7, .ireturn, 0)) rfl) zr_i ?_
  rw [hQ]
  exact ⟨rfl, rfl⟩
theorem zj_chr {s B N : Nat} {cs : Nat → Nat} {ph : pm_H} (hst : zStr s B N cs) {x : Int32} {k : Nat} (hx : x.toInt = (k : Int)) (hk : k < N) : zM 307 [.ref s, .int x] ph (fun v q => ph = q ∧ v = some (.int (zn (cs k)))) := by
  obtain ⟨Q, hQ⟩ : ∃ Q : Option Value → pm_H → Prop, Q = (fun v q => ph = q ∧ v = some (.int (zn (cs k)))) := ⟨_, rfl⟩
  rw [← hQ]
  refine zM_mk fun n D => ?_
  show zW n D 307 Q 0 [some (.ref s), some (.int x)] [] ph
  obtain ⟨i9, s1, s2, s3, s4, s5, f, s6, s7⟩ := hst
  have k0 : (0 : Int32).toInt = 0 := by decide
  have k1 : (1 : Int32).toInt = 1 := by decide
  refine w_load (pc' := 1) (v := .ref s) (m := 1) (ykc_307 (e := (2, .aload_n kF0, 0)) rfl) rfl rfl ?_
  refine w_cvr s1 (as := [.ref s]) (r := []) (ykc_307 (e := (6, .invokevirtual 492, 0)) rfl) rfl rfl rfl rfl (zj_latin ⟨i9, s1, s2, s3, s4, s5, f, s6, s7⟩) (fun v1406 ph1407 hv => ?_)
  obtain ⟨rfl, rfl⟩ := hv
  show zW n D 307 Q 4 [some (.ref s), some (.int x)] [.int (zI true)] ph
  refine w_beq (ykc_307 (e := (4, .ifCond .eq 12, 16)) rfl) rfl (fun q => absurd q (by decide)) (fun b1408 => ?_)
  refine w_load (pc' := 8) (v := .ref s) (m := 1) (ykc_307 (e := (2, .aload_n kF0, 0)) rfl) rfl rfl ?_
  refine w_gfr (pc' := 11) (v := .ref B) (ykc_307 (e := (5, .getfield 9, 0)) rfl) rfl s1 s2 rfl ?_
  refine w_load (pc' := 12) (v := .int x) (m := 1) (ykc_307 (e := (2, .iload_n kF1, 0)) rfl) rfl rfl ?_
  refine w_cs (as := [.ref B, .int x]) (r := []) (ykc_307 (e := (6, .invokestatic 495, 0)) rfl) rfl rfl rfl rfl (zj_chr1 ⟨i9, s1, s2, s3, s4, s5, f, s6, s7⟩ hx hk) (fun v1409 ph1410 hv => ?_)
  obtain ⟨rfl, rfl⟩ := hv
  show zW n D 307 Q 15 [some (.ref s), some (.int x)] [.int (zn (cs k))] ph
  refine w_ret (v := (some (.int (zn (cs k))))) (ykc_307 (e := (7, .ireturn, 0)) rfl) zr_i ?_
  rw [hQ]
  exact ⟨rfl, rfl⟩
end
section
/-! texts: single signs, by W; printed by wip/z/z1b_text.py -/
/-- the class's text; the reference's, read from a to b -/
def zTc (ph : pm_H) (n : Nat) (t : Nat → Nat) : Prop := zc ph 1 1 = some (.int (zn n)) ∧ n ≤ 80 ∧ ∀ i, i < n → zc ph 2 i = some (.int (zn (t i))) ∧ t i < 256
def zTm (ph : pm_H) (a b n : Nat) (t : Nat → Nat) : Prop := zc ph 170 15 = some (.int (zn a)) ∧ zc ph 170 16 = some (.int (zn b)) ∧ a ≤ b ∧ b ≤ n ∧ n ≤ 80 ∧ ∀ i, i < n → zc ph 176 i = some (.int (zn (t i))) ∧ t i < 256
def zTi (n : Nat) (t : Nat → Nat) (k : Nat) : Int := if k < n then (t k : Int) else -1
def zDi (n : Nat) (t : Nat → Nat) (k : Nat) : Int := if k < n ∧ 48 ≤ t k ∧ t k ≤ 57 then (t k : Int) - 48 else -1
theorem zTc_F {A : List Nat} {F : List (Nat × Nat)} {p q : pm_H} {n : Nat} {t : Nat → Nat} (f : zFr A F p q) (h1 : 1 ∉ A ∧ 2 ∉ A) (h2 : (1, 1) ∉ F) (h3 : ∀ i, (2, i) ∉ F) (h : zTc p n t) : zTc q n t := ⟨(f.1 _ _ h1.1 h2).trans h.1, h.2.1, fun i hi => ⟨(f.1 _ _ h1.2 (h3 i)).trans (h.2.2 i hi).1, (h.2.2 i hi).2⟩⟩
theorem zTm_F {A : List Nat} {F : List (Nat × Nat)} {p q : pm_H} {a b n : Nat} {t : Nat → Nat} (f : zFr A F p q) (h1 : 170 ∉ A ∧ 176 ∉ A) (h2 : (170, 15) ∉ F ∧ (170, 16) ∉ F) (h3 : ∀ i, (176, i) ∉ F) (h : zTm p a b n t) : zTm q a b n t := ⟨(f.1 _ _ h1.1 h2.1).trans h.1, (f.1 _ _ h1.1 h2.2).trans h.2.1, h.2.2.1, h.2.2.2.1, h.2.2.2.2.1, fun i hi => ⟨(f.1 _ _ h1.2 (h3 i)).trans (h.2.2.2.2.2 i hi).1, (h.2.2.2.2.2 i hi).2⟩⟩
theorem zTm_u {p q : pm_H} {a a' b n : Nat} {t : Nat → Nat} (u : zst p q 170 15 (.int (zn a'))) (ha : a' ≤ b) (h : zTm p a b n t) : zTm q a' b n t := ⟨u.1, (u.2.1 170 16 (fun e => absurd e.2 (by decide))).trans h.2.1, ha, h.2.2.2.1, h.2.2.2.2.1, fun i hi => ⟨(u.2.1 176 i (fun e => absurd e.1 (by decide))).trans (h.2.2.2.2.2 i hi).1, (h.2.2.2.2.2 i hi).2⟩⟩
theorem zTi_1 {n k : Nat} {t : Nat → Nat} (h : k < n) : zTi n t k = (t k : Int) := if_pos h
theorem zTi_0 {n k : Nat} {t : Nat → Nat} (h : ¬ k < n) : zTi n t k = -1 := if_neg h
theorem zDi_1 {n k : Nat} {t : Nat → Nat} (h : k < n ∧ 48 ≤ t k ∧ t k ≤ 57) : zDi n t k = (t k : Int) - 48 := if_pos h
theorem zDi_0 {n k : Nat} {t : Nat → Nat} (h : ¬ (k < n ∧ 48 ≤ t k ∧ t k ≤ 57)) : zDi n t k = -1 := if_neg h
theorem zTi_b {n k : Nat} {t : Nat → Nat} (h : k < n → t k < 256) : -1 ≤ zTi n t k ∧ zTi n t k < 256 := by
  unfold zTi
  split
  · next e => have := h e; omega
  · omega
theorem zDi_b {n k : Nat} {t : Nat → Nat} : -1 ≤ zDi n t k ∧ zDi n t k ≤ 9 := by
  unfold zDi
  split <;> omega
theorem zTi_c {n k : Nat} {t : Nat → Nat} : (k < n ∧ zTi n t k = (t k : Int)) ∨ (¬ k < n ∧ zTi n t k = -1) := by
  by_cases h : k < n
  · exact Or.inl ⟨h, zTi_1 h⟩
  · exact Or.inr ⟨h, zTi_0 h⟩
theorem zDi_c {n k : Nat} {t : Nat → Nat} : (k < n ∧ 48 ≤ t k ∧ t k ≤ 57 ∧ zDi n t k = (t k : Int) - 48) ∨ (¬ (k < n ∧ 48 ≤ t k ∧ t k ≤ 57) ∧ zDi n t k = -1) := by
  by_cases h : k < n ∧ 48 ≤ t k ∧ t k ≤ 57
  · exact Or.inl ⟨h.1, h.2.1, h.2.2, zDi_1 h⟩
  · exact Or.inr ⟨h, zDi_0 h⟩
theorem zF15_S {p q : pm_H} (f : zFr [] [(170, 15)] p q) (h : zSh p) : zSh q := zSh_F f (by decide +kernel) h
theorem zc_at {ph : pm_H} {ln : Nat} {t : Nat → Nat} (hS : zSh ph) (hT : zTc ph ln t) {x : Int32} {k : Nat} (hx : x.toInt = (k : Int)) : zM 97 [.ref 1, .int x] ph (fun v q => ph = q ∧ ∃ z : Int32, v = some (.int z) ∧ z.toInt = zTi ln t k) := by
  obtain ⟨Q, hQ⟩ : ∃ Q : Option Value → pm_H → Prop, Q = (fun v q => ph = q ∧ ∃ z : Int32, v = some (.int z) ∧ z.toInt = zTi ln t k) := ⟨_, rfl⟩
  rw [← hQ]
  refine zM_mk fun n D => ?_
  show zW n D 97 Q 0 [some (.ref 1), some (.int x)] [] ph
  have c_0 : (Int32.ofInt (-1)).toInt = -1 := by decide
  obtain ⟨gn, hn80, gt⟩ := hT
  have tn := znt (k := ln) (by omega)
  refine w_load (pc' := 1) (v := .int x) (m := 1) (ykc_97 (e := (2, .iload_n kF1, 0)) rfl) rfl rfl ?_
  refine w_zlt (ykc_97 (e := (4, .ifCond .lt 20, 21)) rfl) rfl (fun q => by exfalso; omega) (fun b1411 => ?_)
  refine w_load (pc' := 5) (v := .int x) (m := 1) (ykc_97 (e := (2, .iload_n kF1, 0)) rfl) rfl rfl ?_
  refine w_load (pc' := 6) (v := .ref 1) (m := 1) (ykc_97 (e := (2, .aload_n kF0, 0)) rfl) rfl rfl ?_
  refine w_gf (pc' := 9) (v := .int (zn ln)) (ykc_97 (e := (5, .getfield 13, 0)) rfl) rfl gn rfl ?_
  refine w_ige (ykc_97 (e := (4, .if_icmp .ge 12, 21)) rfl) rfl (fun b1412 => ?_) (fun b1412 => ?_)
  · refine w_alu (pc' := 22) (st' := [.int (Int32.ofInt (-1))]) (ykc_97 (e := (0, .iconst (-1), 0)) rfl) rfl rfl ?_
    refine w_ret (v := (some (.int (Int32.ofInt (-1))))) (ykc_97 (e := (7, .ireturn, 0)) rfl) (zr_v rfl) ?_
    have d9 := @zTi_c ln k t
    rw [hQ]
    exact ⟨rfl, _, rfl, by omega⟩
  · refine w_load (pc' := 13) (v := .ref 1) (m := 1) (ykc_97 (e := (2, .aload_n kF0, 0)) rfl) rfl rfl ?_
    refine w_gf (pc' := 16) (v := .ref 2) (ykc_97 (e := (5, .getfield 9, 0)) rfl) rfl (zsg hS zs_1_0) rfl ?_
    refine w_load (pc' := 17) (v := .int x) (m := 1) (ykc_97 (e := (2, .iload_n kF1, 0)) rfl) rfl rfl ?_
    have q1413 := (gt k (by omega)).2
    have tq1413 := znt (k := t k) (by omega)
    refine w_ialk (pc' := 18) (k := k) (ykc_97 (e := (5, .iaload, 0)) rfl) (gt k (by omega)).1 (by omega) rfl ?_
    refine w_br (pc' := 22) (st' := [.int (zn (t k))]) (ykc_97 (e := (4, .goto 4, 22)) rfl) rfl ?_
    refine w_ret (v := (some (.int (zn (t k))))) (ykc_97 (e := (7, .ireturn, 0)) rfl) (zr_v rfl) ?_
    have d9 := @zTi_c ln k t
    rw [hQ]
    exact ⟨rfl, _, rfl, by omega⟩
theorem zc_digit {ph : pm_H} {ln : Nat} {t : Nat → Nat} (hS : zSh ph) (hT : zTc ph ln t) {x : Int32} {k : Nat} (hx : x.toInt = (k : Int)) : zM 98 [.ref 1, .int x] ph (fun v q => ph = q ∧ ∃ z : Int32, v = some (.int z) ∧ z.toInt = zDi ln t k) := by
  obtain ⟨Q, hQ⟩ : ∃ Q : Option Value → pm_H → Prop, Q = (fun v q => ph = q ∧ ∃ z : Int32, v = some (.int z) ∧ z.toInt = zDi ln t k) := ⟨_, rfl⟩
  rw [← hQ]
  refine zM_mk fun n D => ?_
  show zW n D 98 Q 0 [some (.ref 1), some (.int x), none] [] ph
  have c_0 : ((Int8.ofInt 48).toInt32).toInt = 48 := by decide
  have c_1 : ((Int8.ofInt 57).toInt32).toInt = 57 := by decide
  have c_2 : (Int32.ofInt (-1)).toInt = -1 := by decide
  have hT0 := hT
  obtain ⟨gn, hn80, gt⟩ := hT
  have tn := znt (k := ln) (by omega)
  refine w_load (pc' := 1) (v := .ref 1) (m := 1) (ykc_98 (e := (2, .aload_n kF0, 0)) rfl) rfl rfl ?_
  refine w_load (pc' := 2) (v := .int x) (m := 1) (ykc_98 (e := (2, .iload_n kF1, 0)) rfl) rfl rfl ?_
  refine w_cv (as := [.ref 1, .int x]) (r := []) (ykc_98 (e := (6, .invokevirtual 17, 0)) rfl) rfl rfl rfl rfl (zc_at hS hT0 (k := k) (by omega)) (fun v1415 ph1416 hv => ?_)
  obtain ⟨rfl, g1414, rfl, e_g1414⟩ := hv
  have b_g1414 := @zTi_b ln k t (fun h => (gt _ h).2)
  have d_g1414 := @zTi_c ln k t
  show zW n D 98 Q 5 [some (.ref 1), some (.int x), none] [.int g1414] ph
  refine w_store (pc' := 6) (L' := [some (.ref 1), some (.int x), some (.int g1414)]) (st' := []) (m := 1) (ykc_98 (e := (3, .istore_n kF2, 0)) rfl) rfl rfl ?_
  refine w_load (pc' := 7) (v := .int g1414) (m := 1) (ykc_98 (e := (2, .iload_n kF2, 0)) rfl) rfl rfl ?_
  refine w_push (pc' := 9) (v := .int ((Int8.ofInt 48).toInt32)) (m := 2) (ykc_98 (e := (1, .bipush 48, 0)) rfl) rfl rfl ?_
  refine w_ilt (ykc_98 (e := (4, .if_icmp .lt 16, 25)) rfl) rfl (fun b1417 => ?_) (fun b1417 => ?_)
  · refine w_alu (pc' := 26) (st' := [.int (Int32.ofInt (-1))]) (ykc_98 (e := (0, .iconst (-1), 0)) rfl) rfl rfl ?_
    refine w_ret (v := (some (.int (Int32.ofInt (-1))))) (ykc_98 (e := (7, .ireturn, 0)) rfl) (zr_v rfl) ?_
    have d8 := @zDi_c ln k t
    rw [hQ]
    exact ⟨rfl, _, rfl, by omega⟩
  · refine w_load (pc' := 13) (v := .int g1414) (m := 1) (ykc_98 (e := (2, .iload_n kF2, 0)) rfl) rfl rfl ?_
    refine w_push (pc' := 15) (v := .int ((Int8.ofInt 57).toInt32)) (m := 2) (ykc_98 (e := (1, .bipush 57, 0)) rfl) rfl rfl ?_
    refine w_igt (ykc_98 (e := (4, .if_icmp .gt 10, 25)) rfl) rfl (fun b1418 => ?_) (fun b1418 => ?_)
    · refine w_alu (pc' := 26) (st' := [.int (Int32.ofInt (-1))]) (ykc_98 (e := (0, .iconst (-1), 0)) rfl) rfl rfl ?_
      refine w_ret (v := (some (.int (Int32.ofInt (-1))))) (ykc_98 (e := (7, .ireturn, 0)) rfl) (zr_v rfl) ?_
      have d8 := @zDi_c ln k t
      rw [hQ]
      exact ⟨rfl, _, rfl, by omega⟩
    · refine w_load (pc' := 19) (v := .int g1414) (m := 1) (ykc_98 (e := (2, .iload_n kF2, 0)) rfl) rfl rfl ?_
      refine w_push (pc' := 21) (v := .int ((Int8.ofInt 48).toInt32)) (m := 2) (ykc_98 (e := (1, .bipush 48, 0)) rfl) rfl rfl ?_
      obtain ⟨z1419, e_z1419, h_z1419⟩ : ∃ zq : Int32, g1414 - ((Int8.ofInt 48).toInt32) = zq ∧ zq.toInt = zTi ln t k - (48 : Int) := ⟨_, rfl, (by have := ti_sub (x := g1414) (y := ((Int8.ofInt 48).toInt32)) (by omega) (by omega); omega)⟩
      refine w_alu (pc' := 22) (st' := [.int z1419]) (ykc_98 (e := (0, .isub, 0)) rfl) (by rw [← e_z1419]; rfl) rfl ?_
      refine w_br (pc' := 26) (st' := [.int z1419]) (ykc_98 (e := (4, .goto 4, 26)) rfl) rfl ?_
      refine w_ret (v := (some (.int z1419))) (ykc_98 (e := (7, .ireturn, 0)) rfl) (zr_v rfl) ?_
      have d8 := @zDi_c ln k t
      rw [hQ]
      exact ⟨rfl, _, rfl, by omega⟩
theorem zc_tsize {ph : pm_H} {ln : Nat} (hn : zc ph 1 1 = some (.int (zn ln))) : zM 99 [.ref 1] ph (fun v q => ph = q ∧ v = some (.int (zn ln))) := by
  obtain ⟨Q, hQ⟩ : ∃ Q : Option Value → pm_H → Prop, Q = (fun v q => ph = q ∧ v = some (.int (zn ln))) := ⟨_, rfl⟩
  rw [← hQ]
  refine zM_mk fun n D => ?_
  show zW n D 99 Q 0 [some (.ref 1)] [] ph
  refine w_load (pc' := 1) (v := .ref 1) (m := 1) (ykc_99 (e := (2, .aload_n kF0, 0)) rfl) rfl rfl ?_
  refine w_gf (pc' := 4) (v := .int (zn ln)) (ykc_99 (e := (5, .getfield 13, 0)) rfl) rfl hn rfl ?_
  refine w_ret (v := (some (.int (zn ln)))) (ykc_99 (e := (7, .ireturn, 0)) rfl) (zr_v rfl) ?_
  rw [hQ]
  exact ⟨rfl, rfl⟩
theorem zc_tclear {ph : pm_H} : zM 100 [.ref 1] ph (fun v q => v = none ∧ zFr [] [(1, 1)] ph q ∧ zc q 1 1 = some (.int (zn 0))) := by
  obtain ⟨Q, hQ⟩ : ∃ Q : Option Value → pm_H → Prop, Q = (fun v q => v = none ∧ zFr [] [(1, 1)] ph q ∧ zc q 1 1 = some (.int (zn 0))) := ⟨_, rfl⟩
  rw [← hQ]
  refine zM_mk fun n D => ?_
  show zW n D 100 Q 0 [some (.ref 1)] [] ph
  have c_0 : (Int32.ofInt 0).toInt = 0 := by decide
  refine w_load (pc' := 1) (v := .ref 1) (m := 1) (ykc_100 (e := (2, .aload_n kF0, 0)) rfl) rfl rfl ?_
  refine w_alu (pc' := 2) (st' := [.int (Int32.ofInt 0), .ref 1]) (ykc_100 (e := (0, .iconst 0, 0)) rfl) rfl rfl ?_
  refine w_pf (pc' := 5) (ykc_100 (e := (5, .putfield 13, 0)) rfl) rfl rfl (fun ph1421 u1420 => ?_)
  refine w_ret (v := none) (ykc_100 (e := (7, .return_, 0)) rfl) (zr_v rfl) ?_
  rw [hQ]
  exact ⟨rfl, zFr_st u1420 (Or.inr (by simp)), u1420.1⟩
theorem zm_begins {ph : pm_H} {ln c : Nat} {t : Nat → Nat} {y : Int32} (hS : zSh ph) (hn : zc ph 170 14 = some (.int (zn ln))) (hn80 : ln ≤ 80) (gt : ∀ i, i < ln → zc ph 176 i = some (.int (zn (t i))) ∧ t i < 256) (hy : y.toInt = (c : Int)) (hc : c ≤ 80) : zM 195 [.ref 170, .int y] ph (fun v q => v = some (.int (zn ln)) ∧ zFr [] [(170, 14), (170, 15), (170, 16), (170, 17)] ph q ∧ zc q 170 14 = some (.int (zn 0)) ∧ zTm q 0 (min ln c) ln t) := by
  obtain ⟨Q, hQ⟩ : ∃ Q : Option Value → pm_H → Prop, Q = (fun v q => v = some (.int (zn ln)) ∧ zFr [] [(170, 14), (170, 15), (170, 16), (170, 17)] ph q ∧ zc q 170 14 = some (.int (zn 0)) ∧ zTm q 0 (min ln c) ln t) := ⟨_, rfl⟩
  rw [← hQ]
  refine zM_mk fun n D => ?_
  show zW n D 195 Q 0 [some (.ref 170), some (.int y), none] [] ph
  have c_0 : (Int32.ofInt 0).toInt = 0 := by decide
  have tn := znt (k := ln) (by omega)
  refine w_load (pc' := 1) (v := .ref 170) (m := 1) (ykc_195 (e := (2, .aload_n kF0, 0)) rfl) rfl rfl ?_
  refine w_gf (pc' := 4) (v := .int (zn ln)) (ykc_195 (e := (5, .getfield 136, 0)) rfl) rfl hn rfl ?_
  refine w_store (pc' := 5) (L' := [some (.ref 170), some (.int y), some (.int (zn ln))]) (st' := []) (m := 1) (ykc_195 (e := (3, .istore_n kF2, 0)) rfl) rfl rfl ?_
  refine w_load (pc' := 6) (v := .ref 170) (m := 1) (ykc_195 (e := (2, .aload_n kF0, 0)) rfl) rfl rfl ?_
  refine w_alu (pc' := 7) (st' := [.int (Int32.ofInt 0), .ref 170]) (ykc_195 (e := (0, .iconst 0, 0)) rfl) rfl rfl ?_
  refine w_pf (pc' := 10) (ykc_195 (e := (5, .putfield 136, 0)) rfl) rfl rfl (fun ph1423 u1422 => ?_)
  refine w_load (pc' := 11) (v := .ref 170) (m := 1) (ykc_195 (e := (2, .aload_n kF0, 0)) rfl) rfl rfl ?_
  refine w_alu (pc' := 12) (st' := [.int (Int32.ofInt 0), .ref 170]) (ykc_195 (e := (0, .iconst 0, 0)) rfl) rfl rfl ?_
  refine w_pf (pc' := 15) (ykc_195 (e := (5, .putfield 139, 0)) rfl) rfl rfl (fun ph1425 u1424 => ?_)
  refine w_load (pc' := 16) (v := .ref 170) (m := 1) (ykc_195 (e := (2, .aload_n kF0, 0)) rfl) rfl rfl ?_
  refine w_alu (pc' := 17) (st' := [.int (Int32.ofInt 0), .ref 170]) (ykc_195 (e := (0, .iconst 0, 0)) rfl) rfl rfl ?_
  refine w_pf (pc' := 20) (ykc_195 (e := (5, .putfield 142, 0)) rfl) rfl rfl (fun ph1427 u1426 => ?_)
  refine w_load (pc' := 21) (v := .ref 170) (m := 1) (ykc_195 (e := (2, .aload_n kF0, 0)) rfl) rfl rfl ?_
  refine w_load (pc' := 22) (v := .int (zn ln)) (m := 1) (ykc_195 (e := (2, .iload_n kF2, 0)) rfl) rfl rfl ?_
  refine w_load (pc' := 23) (v := .int y) (m := 1) (ykc_195 (e := (2, .iload_n kF1, 0)) rfl) rfl rfl ?_
  obtain ⟨z1428, e_z1428⟩ : ∃ zq : Int32, (if y < (zn ln) then y else (zn ln)) = zq := ⟨_, rfl⟩
  have h_z1428 := zminI e_z1428
  have n_z1428 : z1428.toInt = ((min ln c : Nat) : Int) := by omega
  refine w_mem1 (pc' := 26) (m := 3) (st' := [.int z1428, .ref 170]) (ph' := ph1427) (ykc_195 (e := (5, .invokestatic 145, 0)) rfl) (by rw [← e_z1428]; rfl) rfl ?_
  refine w_pf (pc' := 29) (ykc_195 (e := (5, .putfield 151, 0)) rfl) rfl rfl (fun ph1430 u1429 => ?_)
  refine w_load (pc' := 30) (v := .int (zn ln)) (m := 1) (ykc_195 (e := (2, .iload_n kF2, 0)) rfl) rfl rfl ?_
  refine w_ret (v := (some (.int (zn ln)))) (ykc_195 (e := (7, .ireturn, 0)) rfl) (zr_v rfl) ?_
  rw [hQ]
  have ez : z1428 = zn (min ln c) := zn_of (by omega)
  have f4 : zFr [] [(170, 14), (170, 15), (170, 16), (170, 17)] ph ph1430 := zFr_trans (zFr_st u1422 (Or.inr (by simp))) (zFr_trans (zFr_st u1424 (Or.inr (by simp))) (zFr_trans (zFr_st u1426 (Or.inr (by simp))) (zFr_st u1429 (Or.inr (by simp)))))
  exact ⟨rfl, f4, ((u1429.2.1 170 14 (fun q => absurd q.2 (by decide))).trans ((u1426.2.1 170 14 (fun q => absurd q.2 (by decide))).trans ((u1424.2.1 170 14 (fun q => absurd q.2 (by decide))).trans u1422.1))), ((u1429.2.1 170 15 (fun q => absurd q.2 (by decide))).trans ((u1426.2.1 170 15 (fun q => absurd q.2 (by decide))).trans u1424.1)), by rw [← ez]; exact u1429.1, Nat.zero_le _, Nat.min_le_left _ _, hn80, fun i hi => ⟨(f4.1 _ _ (by decide) (by simp)).trans (gt i hi).1, (gt i hi).2⟩⟩
theorem zm_isDigit {ph : pm_H} {a b ln : Nat} {t : Nat → Nat} (hS : zSh ph) (hT : zTm ph a b ln t) : zM 197 [.ref 170] ph (fun v q => ph = q ∧ v = some (.int (zI (decide (a < b ∧ 48 ≤ t a ∧ t a ≤ 57))))) := by
  obtain ⟨Q, hQ⟩ : ∃ Q : Option Value → pm_H → Prop, Q = (fun v q => ph = q ∧ v = some (.int (zI (decide (a < b ∧ 48 ≤ t a ∧ t a ≤ 57))))) := ⟨_, rfl⟩
  rw [← hQ]
  refine zM_mk fun n D => ?_
  show zW n D 197 Q 0 [some (.ref 170)] [] ph
  have c_0 : (Int32.ofInt 0).toInt = 0 := by decide
  have c_1 : (Int32.ofInt 1).toInt = 1 := by decide
  obtain ⟨ga, gb, hab, hbn, hn80, gt⟩ := hT
  have ta := znt (k := a) (by omega)
  have tb := znt (k := b) (by omega)
  refine w_load (pc' := 1) (v := .ref 170) (m := 1) (ykc_197 (e := (2, .aload_n kF0, 0)) rfl) rfl rfl ?_
  refine w_gf (pc' := 4) (v := .int (zn a)) (ykc_197 (e := (5, .getfield 139, 0)) rfl) rfl ga rfl ?_
  refine w_load (pc' := 5) (v := .ref 170) (m := 1) (ykc_197 (e := (2, .aload_n kF0, 0)) rfl) rfl rfl ?_
  refine w_gf (pc' := 8) (v := .int (zn b)) (ykc_197 (e := (5, .getfield 151, 0)) rfl) rfl gb rfl ?_
  refine w_ige (ykc_197 (e := (4, .if_icmp .ge 29, 37)) rfl) rfl (fun b1431 => ?_) (fun b1431 => ?_)
  · refine w_alu (pc' := 38) (st' := [.int (Int32.ofInt 0)]) (ykc_197 (e := (0, .iconst 0, 0)) rfl) rfl rfl ?_
    refine w_ret (v := (some (.int (Int32.ofInt 0)))) (ykc_197 (e := (7, .ireturn, 0)) rfl) zr_z ?_
    rw [hQ, zi0]
    exact ⟨rfl, zvB (decide_eq_false (by omega)).symm⟩
  · refine w_load (pc' := 12) (v := .ref 170) (m := 1) (ykc_197 (e := (2, .aload_n kF0, 0)) rfl) rfl rfl ?_
    refine w_gf (pc' := 15) (v := .ref 176) (ykc_197 (e := (5, .getfield 47, 0)) rfl) rfl (zsg hS zs_170_13) rfl ?_
    refine w_load (pc' := 16) (v := .ref 170) (m := 1) (ykc_197 (e := (2, .aload_n kF0, 0)) rfl) rfl rfl ?_
    refine w_gf (pc' := 19) (v := .int (zn a)) (ykc_197 (e := (5, .getfield 139, 0)) rfl) rfl ga rfl ?_
    have q1432 := (gt a (by omega)).2
    have tq1432 := znt (k := t a) (by omega)
    refine w_ialk (pc' := 20) (k := a) (ykc_197 (e := (5, .iaload, 0)) rfl) (gt a (by omega)).1 (by omega) rfl ?_
    refine w_alu (pc' := 21) (st' := [.long ((zn (t a)).toInt64)]) (ykc_197 (e := (0, .i2l, 0)) rfl) rfl rfl ?_
    refine w_push (pc' := 24) (v := .long (48 : Int64)) (m := 3) (ykc_197 (e := (1, .ldc2_w 158, 0)) rfl) rfl rfl ?_
    refine w_push (pc' := 27) (v := .long (57 : Int64)) (m := 3) (ykc_197 (e := (1, .ldc2_w 160, 0)) rfl) rfl rfl ?_
    refine w_cs (as := [.long ((zn (t a)).toInt64), .long (48 : Int64), .long (57 : Int64)]) (r := []) (ykc_197 (e := (6, .invokestatic 126, 0)) rfl) rfl rfl rfl rfl (zm_in (x := ((t a : Nat) : Int)) (y := (48 : Int)) (z := (57 : Int)) (by first | exact ztl | (rw [ztl]; omega) | decide | omega) (by first | exact ztl | (rw [ztl]; omega) | decide | omega) (by first | exact ztl | (rw [ztl]; omega) | decide | omega)) (fun v1433 ph1434 hv => ?_)
    obtain ⟨rfl, rfl⟩ := hv
    show zW n D 197 Q 30 [some (.ref 170)] [.int (zI (decide ((48 : Int) ≤ ((t a : Nat) : Int) ∧ ((t a : Nat) : Int) ≤ (57 : Int))))] ph
    refine w_beq (ykc_197 (e := (4, .ifCond .eq 7, 37)) rfl) rfl (fun b1435 => ?_) (fun b1435 => ?_)
    · refine w_alu (pc' := 38) (st' := [.int (Int32.ofInt 0)]) (ykc_197 (e := (0, .iconst 0, 0)) rfl) rfl rfl ?_
      refine w_ret (v := (some (.int (Int32.ofInt 0)))) (ykc_197 (e := (7, .ireturn, 0)) rfl) zr_z ?_
      rw [hQ, zi0]
      exact ⟨rfl, zvB (decide_eq_false (by have h9 := of_decide_eq_false b1435; omega)).symm⟩
    · refine w_alu (pc' := 34) (st' := [.int (Int32.ofInt 1)]) (ykc_197 (e := (0, .iconst 1, 0)) rfl) rfl rfl ?_
      refine w_br (pc' := 38) (st' := [.int (Int32.ofInt 1)]) (ykc_197 (e := (4, .goto 4, 38)) rfl) rfl ?_
      refine w_ret (v := (some (.int (Int32.ofInt 1)))) (ykc_197 (e := (7, .ireturn, 0)) rfl) zr_z ?_
      rw [hQ, zi1]
      exact ⟨rfl, zvB (decide_eq_true (by have h9 := of_decide_eq_true b1435; omega)).symm⟩
theorem zm_num1 {ph : pm_H} {a b ln : Nat} {t : Nat → Nat} (hS : zSh ph) (hT : zTm ph a b ln t) : zM 199 [.ref 170, .int (Int32.ofInt 1)] ph (fun v0 q => zFr [] [(170, 15)] ph q ∧ (((a < b ∧ 48 ≤ t a ∧ t a ≤ 57) ∧ v0 = some (.int (zn (t a - 48))) ∧ zTm q (a + 1) b ln t) ∨ (¬ (a < b ∧ 48 ≤ t a ∧ t a ≤ 57) ∧ v0 = some (.int (Int32.ofInt (-1))) ∧ zTm q a b ln t))) := by
  obtain ⟨Q, hQ⟩ : ∃ Q : Option Value → pm_H → Prop, Q = (fun v0 q => zFr [] [(170, 15)] ph q ∧ (((a < b ∧ 48 ≤ t a ∧ t a ≤ 57) ∧ v0 = some (.int (zn (t a - 48))) ∧ zTm q (a + 1) b ln t) ∨ (¬ (a < b ∧ 48 ≤ t a ∧ t a ≤ 57) ∧ v0 = some (.int (Int32.ofInt (-1))) ∧ zTm q a b ln t))) := ⟨_, rfl⟩
  rw [← hQ]
  refine zM_mk fun n D => ?_
  show zW n D 199 Q 0 [some (.ref 170), some (.int (Int32.ofInt 1)), none, none] [] ph
  have c_0 : ((Int8.ofInt 10).toInt32).toInt = 10 := by decide
  have c_1 : ((Int8.ofInt 48).toInt32).toInt = 48 := by decide
  have c_2 : (Int32.ofInt (-1)).toInt = -1 := by decide
  have c_3 : (Int32.ofInt 0).toInt = 0 := by decide
  have c_4 : (Int32.ofInt 1).toInt = 1 := by decide
  have hT0 := hT
  obtain ⟨ga, gb, hab, hbn, hn80, gt⟩ := hT
  have ta := znt (k := a) (by omega)
  have tb := znt (k := b) (by omega)
  refine w_load (pc' := 1) (v := .ref 170) (m := 1) (ykc_199 (e := (2, .aload_n kF0, 0)) rfl) rfl rfl ?_
  refine w_cv (as := [.ref 170]) (r := []) (ykc_199 (e := (6, .invokevirtual 171, 0)) rfl) rfl rfl rfl rfl (zm_isDigit hS hT0) (fun v1436 ph1437 hv => ?_)
  obtain ⟨rfl, rfl⟩ := hv
  show zW n D 199 Q 4 [some (.ref 170), some (.int (Int32.ofInt 1)), none, none] [.int (zI (decide (a < b ∧ 48 ≤ t a ∧ t a ≤ 57)))] ph
  refine w_bne (ykc_199 (e := (4, .ifCond .ne 5, 9)) rfl) rfl (fun b1438 => ?_) (fun b1438 => ?_)
  · refine w_alu (pc' := 10) (st' := [.int (Int32.ofInt 0)]) (ykc_199 (e := (0, .iconst 0, 0)) rfl) rfl rfl ?_
    refine w_store (pc' := 11) (L' := [some (.ref 170), some (.int (Int32.ofInt 1)), some (.int (Int32.ofInt 0)), none]) (st' := []) (m := 1) (ykc_199 (e := (3, .istore_n kF2, 0)) rfl) rfl rfl ?_
    refine w_alu (pc' := 12) (st' := [.int (Int32.ofInt 0)]) (ykc_199 (e := (0, .iconst 0, 0)) rfl) rfl rfl ?_
    refine w_store (pc' := 13) (L' := [some (.ref 170), some (.int (Int32.ofInt 1)), some (.int (Int32.ofInt 0)), some (.int (Int32.ofInt 0))]) (st' := []) (m := 1) (ykc_199 (e := (3, .istore_n kF3, 0)) rfl) rfl rfl ?_
    refine w_load (pc' := 14) (v := .int (Int32.ofInt 0)) (m := 1) (ykc_199 (e := (2, .iload_n kF3, 0)) rfl) rfl rfl ?_
    refine w_load (pc' := 15) (v := .int (Int32.ofInt 1)) (m := 1) (ykc_199 (e := (2, .iload_n kF1, 0)) rfl) rfl rfl ?_
    refine w_ige (ykc_199 (e := (4, .if_icmp .ge 44, 59)) rfl) rfl (fun q => by exfalso; omega) (fun b1439 => ?_)
    refine w_load (pc' := 19) (v := .ref 170) (m := 1) (ykc_199 (e := (2, .aload_n kF0, 0)) rfl) rfl rfl ?_
    refine w_cv (as := [.ref 170]) (r := []) (ykc_199 (e := (6, .invokevirtual 171, 0)) rfl) rfl rfl rfl rfl (zm_isDigit hS hT0) (fun v1440 ph1441 hv => ?_)
    obtain ⟨rfl, rfl⟩ := hv
    show zW n D 199 Q 22 [some (.ref 170), some (.int (Int32.ofInt 1)), some (.int (Int32.ofInt 0)), some (.int (Int32.ofInt 0))] [.int (zI (decide (a < b ∧ 48 ≤ t a ∧ t a ≤ 57)))] ph
    refine w_beq (ykc_199 (e := (4, .ifCond .eq 37, 59)) rfl) rfl (fun q => by rw [show decide (a < b ∧ 48 ≤ t a ∧ t a ≤ 57) = true from b1438] at q; cases q) (fun b1442 => ?_)
    refine w_push (pc' := 27) (v := .int ((Int8.ofInt 10).toInt32)) (m := 2) (ykc_199 (e := (1, .bipush 10, 0)) rfl) rfl rfl ?_
    have h9 := of_decide_eq_true b1438
    refine w_load (pc' := 28) (v := .int (Int32.ofInt 0)) (m := 1) (ykc_199 (e := (2, .iload_n kF2, 0)) rfl) rfl rfl ?_
    have e1443 : ((Int8.ofInt 10).toInt32) * (Int32.ofInt 0) = zn (0) := zn_of (by rw [ti_mul (by rw [show ((Int8.ofInt 10).toInt32).toInt = (10 : Int) by omega, show (Int32.ofInt 0).toInt = (0 : Int) by omega]; omega) (by rw [show ((Int8.ofInt 10).toInt32).toInt = (10 : Int) by omega, show (Int32.ofInt 0).toInt = (0 : Int) by omega]; omega), show ((Int8.ofInt 10).toInt32).toInt = (10 : Int) by omega, show (Int32.ofInt 0).toInt = (0 : Int) by omega] <;> omega)
    have te1443 := znt (k := 0) (by omega)
    refine w_alu (pc' := 29) (st' := [.int (zn (0))]) (ykc_199 (e := (0, .imul, 0)) rfl) (by rw [← e1443]; rfl) rfl ?_
    refine w_load (pc' := 30) (v := .ref 170) (m := 1) (ykc_199 (e := (2, .aload_n kF0, 0)) rfl) rfl rfl ?_
    refine w_gf (pc' := 33) (v := .ref 176) (ykc_199 (e := (5, .getfield 47, 0)) rfl) rfl (zsg hS zs_170_13) rfl ?_
    refine w_load (pc' := 34) (v := .ref 170) (m := 1) (ykc_199 (e := (2, .aload_n kF0, 0)) rfl) rfl rfl ?_
    refine w_gf (pc' := 37) (v := .int (zn a)) (ykc_199 (e := (5, .getfield 139, 0)) rfl) rfl ga rfl ?_
    have q1444 := (gt a (by omega)).2
    have tq1444 := znt (k := t a) (by omega)
    refine w_ialk (pc' := 38) (k := a) (ykc_199 (e := (5, .iaload, 0)) rfl) (gt a (by omega)).1 (by omega) rfl ?_
    have e1445 : (zn (0)) + (zn (t a)) = zn (0 + (t a)) := (zaddN (a := 0) (b := t a) (znt (by omega)) (znt (by omega)) (by omega)) 
    have te1445 := znt (k := 0 + (t a)) (by omega)
    refine w_alu (pc' := 39) (st' := [.int (zn (0 + (t a)))]) (ykc_199 (e := (0, .iadd, 0)) rfl) (by rw [← e1445]; rfl) rfl ?_
    refine w_push (pc' := 41) (v := .int ((Int8.ofInt 48).toInt32)) (m := 2) (ykc_199 (e := (1, .bipush 48, 0)) rfl) rfl rfl ?_
    have e1446 : (zn (0 + (t a))) - ((Int8.ofInt 48).toInt32) = zn (t a - 48) := zn_of (by have h8 := ti_sub (x := (zn (0 + (t a)))) (y := ((Int8.ofInt 48).toInt32)) (by omega) (by omega); omega)
    have te1446 := znt (k := t a - 48) (by omega)
    refine w_alu (pc' := 42) (st' := [.int (zn (t a - 48))]) (ykc_199 (e := (0, .isub, 0)) rfl) (by rw [← e1446]; rfl) rfl ?_
    refine w_store (pc' := 43) (L' := [some (.ref 170), some (.int (Int32.ofInt 1)), some (.int (zn (t a - 48))), some (.int (Int32.ofInt 0))]) (st' := []) (m := 1) (ykc_199 (e := (3, .istore_n kF2, 0)) rfl) rfl rfl ?_
    refine w_load (pc' := 44) (v := .ref 170) (m := 1) (ykc_199 (e := (2, .aload_n kF0, 0)) rfl) rfl rfl ?_
    refine w_alu (pc' := 45) (st' := [.ref 170, .ref 170]) (ykc_199 (e := (0, .dup, 0)) rfl) rfl rfl ?_
    refine w_gf (pc' := 48) (v := .int (zn a)) (ykc_199 (e := (5, .getfield 139, 0)) rfl) rfl ga rfl ?_
    refine w_alu (pc' := 49) (st' := [.int (Int32.ofInt 1), .int (zn a), .ref 170]) (ykc_199 (e := (0, .iconst 1, 0)) rfl) rfl rfl ?_
    have e1447 : (zn a) + (Int32.ofInt 1) = zn (a + 1) := (zaddN (a := a) (b := 1) (znt (by omega)) c_4 (by omega)) 
    have te1447 := znt (k := a + 1) (by omega)
    refine w_alu (pc' := 50) (st' := [.int (zn (a + 1)), .ref 170]) (ykc_199 (e := (0, .iadd, 0)) rfl) (by rw [← e1447]; rfl) rfl ?_
    refine w_pf (pc' := 53) (ykc_199 (e := (5, .putfield 139, 0)) rfl) rfl rfl (fun ph1449 u1448 => ?_)
    have e1450 : (Int32.ofInt 0) + Int32.ofInt 1 = zn (0 + 1) := (zaddN (a := 0) (b := 1) c_3 c_4 (by omega))
    have te1450 := znt (k := 0 + 1) (by omega)
    refine w_store (pc' := 56) (L' := [some (.ref 170), some (.int (Int32.ofInt 1)), some (.int (zn (t a - 48))), some (.int (zn (0 + 1)))]) (st' := []) (m := 3) (ykc_199 (e := (3, .iinc 3 1, 0)) rfl) (by rw [← e1450]; rfl) rfl ?_
    refine w_br (pc' := 13) (st' := []) (ykc_199 (e := (4, .goto (-43), 13)) rfl) rfl ?_
    refine w_load (pc' := 14) (v := .int (zn (0 + 1))) (m := 1) (ykc_199 (e := (2, .iload_n kF3, 0)) rfl) rfl rfl ?_
    refine w_load (pc' := 15) (v := .int (Int32.ofInt 1)) (m := 1) (ykc_199 (e := (2, .iload_n kF1, 0)) rfl) rfl rfl ?_
    refine w_ige (ykc_199 (e := (4, .if_icmp .ge 44, 59)) rfl) rfl (fun b1451 => ?_) (fun q => by exfalso; omega)
    refine w_load (pc' := 60) (v := .int (zn (t a - 48))) (m := 1) (ykc_199 (e := (2, .iload_n kF2, 0)) rfl) rfl rfl ?_
    refine w_ret (v := (some (.int (zn (t a - 48))))) (ykc_199 (e := (7, .ireturn, 0)) rfl) (zr_v rfl) ?_
    rw [hQ]
    exact ⟨zFr_st u1448 (Or.inr (by simp)), Or.inl ⟨h9, rfl, zTm_u u1448 (by omega) hT0⟩⟩
  · refine w_alu (pc' := 8) (st' := [.int (Int32.ofInt (-1))]) (ykc_199 (e := (0, .iconst (-1), 0)) rfl) rfl rfl ?_
    refine w_ret (v := (some (.int (Int32.ofInt (-1))))) (ykc_199 (e := (7, .ireturn, 0)) rfl) (zr_v rfl) ?_
    rw [hQ]
    exact ⟨zFr_refl, Or.inr ⟨of_decide_eq_false b1438, rfl, hT0⟩⟩
theorem zm_digitIn {ph : pm_H} {a b ln : Nat} {t : Nat → Nat} (hS : zSh ph) (hT : zTm ph a b ln t) {x y : Int32} {l h : Nat} (hx : x.toInt = (l : Int)) (hy : y.toInt = (h : Int)) : zM 200 [.ref 170, .int x, .int y] ph (fun v0 q => zFr [] [(170, 15)] ph q ∧ (((a < b ∧ 48 + l ≤ t a ∧ t a ≤ 48 + h) ∧ v0 = some (.int (zn (t a - 48))) ∧ zTm q (a + 1) b ln t) ∨ (¬ (a < b ∧ 48 + l ≤ t a ∧ t a ≤ 48 + h) ∧ v0 = some (.int (Int32.ofInt (-1))) ∧ zTm q a b ln t))) := by
  obtain ⟨Q, hQ⟩ : ∃ Q : Option Value → pm_H → Prop, Q = (fun v0 q => zFr [] [(170, 15)] ph q ∧ (((a < b ∧ 48 + l ≤ t a ∧ t a ≤ 48 + h) ∧ v0 = some (.int (zn (t a - 48))) ∧ zTm q (a + 1) b ln t) ∨ (¬ (a < b ∧ 48 + l ≤ t a ∧ t a ≤ 48 + h) ∧ v0 = some (.int (Int32.ofInt (-1))) ∧ zTm q a b ln t))) := ⟨_, rfl⟩
  rw [← hQ]
  refine zM_mk fun n D => ?_
  show zW n D 200 Q 0 [some (.ref 170), some (.int x), some (.int y)] [] ph
  have c_0 : ((Int8.ofInt 48).toInt32).toInt = 48 := by decide
  have c_1 : (Int32.ofInt (-1)).toInt = -1 := by decide
  have c_2 : (Int32.ofInt 1).toInt = 1 := by decide
  have hT0 := hT
  have hx9 := x32_hi x
  have hy9 := x32_hi y
  obtain ⟨ga, gb, hab, hbn, hn80, gt⟩ := hT
  have ta := znt (k := a) (by omega)
  have tb := znt (k := b) (by omega)
  refine w_load (pc' := 1) (v := .ref 170) (m := 1) (ykc_200 (e := (2, .aload_n kF0, 0)) rfl) rfl rfl ?_
  refine w_gf (pc' := 4) (v := .int (zn a)) (ykc_200 (e := (5, .getfield 139, 0)) rfl) rfl ga rfl ?_
  refine w_load (pc' := 5) (v := .ref 170) (m := 1) (ykc_200 (e := (2, .aload_n kF0, 0)) rfl) rfl rfl ?_
  refine w_gf (pc' := 8) (v := .int (zn b)) (ykc_200 (e := (5, .getfield 151, 0)) rfl) rfl gb rfl ?_
  refine w_ige (ykc_200 (e := (4, .if_icmp .ge 26, 34)) rfl) rfl (fun b1452 => ?_) (fun b1452 => ?_)
  · refine w_alu (pc' := 35) (st' := [.int (Int32.ofInt (-1))]) (ykc_200 (e := (0, .iconst (-1), 0)) rfl) rfl rfl ?_
    refine w_ret (v := (some (.int (Int32.ofInt (-1))))) (ykc_200 (e := (7, .ireturn, 0)) rfl) (zr_v rfl) ?_
    rw [hQ]
    exact ⟨zFr_refl, Or.inr ⟨by omega, rfl, hT0⟩⟩
  · refine w_load (pc' := 12) (v := .ref 170) (m := 1) (ykc_200 (e := (2, .aload_n kF0, 0)) rfl) rfl rfl ?_
    refine w_gf (pc' := 15) (v := .ref 176) (ykc_200 (e := (5, .getfield 47, 0)) rfl) rfl (zsg hS zs_170_13) rfl ?_
    refine w_load (pc' := 16) (v := .ref 170) (m := 1) (ykc_200 (e := (2, .aload_n kF0, 0)) rfl) rfl rfl ?_
    refine w_gf (pc' := 19) (v := .int (zn a)) (ykc_200 (e := (5, .getfield 139, 0)) rfl) rfl ga rfl ?_
    have q1453 := (gt a (by omega)).2
    have tq1453 := znt (k := t a) (by omega)
    refine w_ialk (pc' := 20) (k := a) (ykc_200 (e := (5, .iaload, 0)) rfl) (gt a (by omega)).1 (by omega) rfl ?_
    refine w_push (pc' := 22) (v := .int ((Int8.ofInt 48).toInt32)) (m := 2) (ykc_200 (e := (1, .bipush 48, 0)) rfl) rfl rfl ?_
    obtain ⟨z1454, e_z1454, h_z1454⟩ : ∃ zq : Int32, (zn (t a)) - ((Int8.ofInt 48).toInt32) = zq ∧ zq.toInt = ((t a : Nat) : Int) - (48 : Int) := ⟨_, rfl, (by have := ti_sub (x := (zn (t a))) (y := ((Int8.ofInt 48).toInt32)) (by omega) (by omega); omega)⟩
    refine w_alu (pc' := 23) (st' := [.int z1454]) (ykc_200 (e := (0, .isub, 0)) rfl) (by rw [← e_z1454]; rfl) rfl ?_
    refine w_alu (pc' := 24) (st' := [.long z1454.toInt64]) (ykc_200 (e := (0, .i2l, 0)) rfl) rfl rfl ?_
    refine w_load (pc' := 25) (v := .int x) (m := 1) (ykc_200 (e := (2, .iload_n kF1, 0)) rfl) rfl rfl ?_
    refine w_alu (pc' := 26) (st' := [.long x.toInt64, .long z1454.toInt64]) (ykc_200 (e := (0, .i2l, 0)) rfl) rfl rfl ?_
    refine w_load (pc' := 27) (v := .int y) (m := 1) (ykc_200 (e := (2, .iload_n kF2, 0)) rfl) rfl rfl ?_
    refine w_alu (pc' := 28) (st' := [.long y.toInt64, .long x.toInt64, .long z1454.toInt64]) (ykc_200 (e := (0, .i2l, 0)) rfl) rfl rfl ?_
    refine w_cs (as := [.long z1454.toInt64, .long x.toInt64, .long y.toInt64]) (r := []) (ykc_200 (e := (6, .invokestatic 126, 0)) rfl) rfl rfl rfl rfl (zm_in (x := ((t a : Nat) : Int) - (48 : Int)) (y := ((l : Nat) : Int)) (z := ((h : Nat) : Int)) (by first | exact ztl | (rw [ztl]; omega) | decide | omega) (by first | exact ztl | (rw [ztl]; omega) | decide | omega) (by first | exact ztl | (rw [ztl]; omega) | decide | omega)) (fun v1455 ph1456 hv => ?_)
    obtain ⟨rfl, rfl⟩ := hv
    show zW n D 200 Q 31 [some (.ref 170), some (.int x), some (.int y)] [.int (zI (decide (((l : Nat) : Int) ≤ ((t a : Nat) : Int) - (48 : Int) ∧ ((t a : Nat) : Int) - (48 : Int) ≤ ((h : Nat) : Int))))] ph
    refine w_bne (ykc_200 (e := (4, .ifCond .ne 5, 36)) rfl) rfl (fun b1457 => ?_) (fun b1457 => ?_)
    · refine w_load (pc' := 37) (v := .ref 170) (m := 1) (ykc_200 (e := (2, .aload_n kF0, 0)) rfl) rfl rfl ?_
      refine w_alu (pc' := 38) (st' := [.ref 170, .ref 170]) (ykc_200 (e := (0, .dup, 0)) rfl) rfl rfl ?_
      refine w_gf (pc' := 41) (v := .int (zn a)) (ykc_200 (e := (5, .getfield 139, 0)) rfl) rfl ga rfl ?_
      refine w_alu (pc' := 42) (st' := [.int (Int32.ofInt 1), .int (zn a), .ref 170]) (ykc_200 (e := (0, .iconst 1, 0)) rfl) rfl rfl ?_
      have e1458 : (zn a) + (Int32.ofInt 1) = zn (a + 1) := (zaddN (a := a) (b := 1) (znt (by omega)) c_2 (by omega)) 
      have te1458 := znt (k := a + 1) (by omega)
      refine w_alu (pc' := 43) (st' := [.int (zn (a + 1)), .ref 170]) (ykc_200 (e := (0, .iadd, 0)) rfl) (by rw [← e1458]; rfl) rfl ?_
      refine w_pf (pc' := 46) (ykc_200 (e := (5, .putfield 139, 0)) rfl) rfl rfl (fun ph1460 u1459 => ?_)
      have h9 := of_decide_eq_true b1457
      refine w_load (pc' := 47) (v := .ref 170) (m := 1) (ykc_200 (e := (2, .aload_n kF0, 0)) rfl) rfl rfl ?_
      refine w_gf (pc' := 50) (v := .ref 176) (ykc_200 (e := (5, .getfield 47, 0)) rfl) rfl ((u1459.2.1 170 13 (fun q => absurd q.2 (by decide))).trans (zsg hS zs_170_13)) rfl ?_
      refine w_load (pc' := 51) (v := .ref 170) (m := 1) (ykc_200 (e := (2, .aload_n kF0, 0)) rfl) rfl rfl ?_
      refine w_gf (pc' := 54) (v := .int (zn (a + 1))) (ykc_200 (e := (5, .getfield 139, 0)) rfl) rfl u1459.1 rfl ?_
      refine w_alu (pc' := 55) (st' := [.int (Int32.ofInt 1), .int (zn (a + 1)), .ref 176]) (ykc_200 (e := (0, .iconst 1, 0)) rfl) rfl rfl ?_
      have e1461 : (zn (a + 1)) - (Int32.ofInt 1) = zn (a) := zsubN (a := a + 1) (b := 1) (znt (by omega)) c_2 (by omega)
      have te1461 := znt (k := a) (by omega)
      refine w_alu (pc' := 56) (st' := [.int (zn (a)), .ref 176]) (ykc_200 (e := (0, .isub, 0)) rfl) (by show some ([.int ((zn (a + 1)) - (Int32.ofInt 1)), .ref 176] : List Value) = _; rw [e1461]) rfl ?_
      have q1462 := (gt a (by omega)).2
      have tq1462 := znt (k := t a) (by omega)
      refine w_ialk (pc' := 57) (k := a) (ykc_200 (e := (5, .iaload, 0)) rfl) ((u1459.2.1 176 a (fun q => absurd q.1 (by decide))).trans (gt a (by omega)).1) (by omega) rfl ?_
      refine w_push (pc' := 59) (v := .int ((Int8.ofInt 48).toInt32)) (m := 2) (ykc_200 (e := (1, .bipush 48, 0)) rfl) rfl rfl ?_
      have e1463 : (zn (t a)) - ((Int8.ofInt 48).toInt32) = zn (t a - 48) := zn_of (by have h8 := ti_sub (x := (zn (t a))) (y := ((Int8.ofInt 48).toInt32)) (by omega) (by omega); omega)
      have te1463 := znt (k := t a - 48) (by omega)
      refine w_alu (pc' := 60) (st' := [.int (zn (t a - 48))]) (ykc_200 (e := (0, .isub, 0)) rfl) (by rw [← e1463]; rfl) rfl ?_
      refine w_ret (v := (some (.int (zn (t a - 48))))) (ykc_200 (e := (7, .ireturn, 0)) rfl) (zr_v rfl) ?_
      rw [hQ]
      exact ⟨zFr_st u1459 (Or.inr (by simp)), Or.inl ⟨by omega, rfl, zTm_u u1459 (by omega) hT0⟩⟩
    · refine w_alu (pc' := 35) (st' := [.int (Int32.ofInt (-1))]) (ykc_200 (e := (0, .iconst (-1), 0)) rfl) rfl rfl ?_
      refine w_ret (v := (some (.int (Int32.ofInt (-1))))) (ykc_200 (e := (7, .ireturn, 0)) rfl) (zr_v rfl) ?_
      rw [hQ]
      exact ⟨zFr_refl, Or.inr ⟨by have h9 := of_decide_eq_false b1457; omega, rfl, hT0⟩⟩
theorem zm_takes {ph : pm_H} {a b ln : Nat} {t : Nat → Nat} (hS : zSh ph) (hT : zTm ph a b ln t) {y : Int32} {c : Nat} (hy : y.toInt = (c : Int)) : zM 196 [.ref 170, .int y] ph (fun v0 q => zFr [] [(170, 15)] ph q ∧ (((a < b ∧ t a = c) ∧ v0 = some (.int (zI true)) ∧ zTm q (a + 1) b ln t) ∨ (¬ (a < b ∧ t a = c) ∧ v0 = some (.int (zI false)) ∧ zTm q a b ln t))) := by
  obtain ⟨Q, hQ⟩ : ∃ Q : Option Value → pm_H → Prop, Q = (fun v0 q => zFr [] [(170, 15)] ph q ∧ (((a < b ∧ t a = c) ∧ v0 = some (.int (zI true)) ∧ zTm q (a + 1) b ln t) ∨ (¬ (a < b ∧ t a = c) ∧ v0 = some (.int (zI false)) ∧ zTm q a b ln t))) := ⟨_, rfl⟩
  rw [← hQ]
  refine zM_mk fun n D => ?_
  show zW n D 196 Q 0 [some (.ref 170), some (.int y), none] [] ph
  have c_0 : (Int32.ofInt 0).toInt = 0 := by decide
  have c_1 : (Int32.ofInt 1).toInt = 1 := by decide
  have hT0 := hT
  obtain ⟨ga, gb, hab, hbn, hn80, gt⟩ := hT
  have ta := znt (k := a) (by omega)
  have tb := znt (k := b) (by omega)
  refine w_load (pc' := 1) (v := .ref 170) (m := 1) (ykc_196 (e := (2, .aload_n kF0, 0)) rfl) rfl rfl ?_
  refine w_gf (pc' := 4) (v := .int (zn a)) (ykc_196 (e := (5, .getfield 139, 0)) rfl) rfl ga rfl ?_
  refine w_load (pc' := 5) (v := .ref 170) (m := 1) (ykc_196 (e := (2, .aload_n kF0, 0)) rfl) rfl rfl ?_
  refine w_gf (pc' := 8) (v := .int (zn b)) (ykc_196 (e := (5, .getfield 151, 0)) rfl) rfl gb rfl ?_
  refine w_ige (ykc_196 (e := (4, .if_icmp .ge 20, 28)) rfl) rfl (fun b1464 => ?_) (fun b1464 => ?_)
  · refine w_alu (pc' := 29) (st' := [.int (Int32.ofInt 0)]) (ykc_196 (e := (0, .iconst 0, 0)) rfl) rfl rfl ?_
    refine w_store (pc' := 30) (L' := [some (.ref 170), some (.int y), some (.int (Int32.ofInt 0))]) (st' := []) (m := 1) (ykc_196 (e := (3, .istore_n kF2, 0)) rfl) rfl rfl ?_
    refine w_load (pc' := 31) (v := .ref 170) (m := 1) (ykc_196 (e := (2, .aload_n kF0, 0)) rfl) rfl rfl ?_
    refine w_alu (pc' := 32) (st' := [.ref 170, .ref 170]) (ykc_196 (e := (0, .dup, 0)) rfl) rfl rfl ?_
    refine w_gf (pc' := 35) (v := .int (zn a)) (ykc_196 (e := (5, .getfield 139, 0)) rfl) rfl ga rfl ?_
    refine w_load (pc' := 36) (v := .int (Int32.ofInt 0)) (m := 1) (ykc_196 (e := (2, .iload_n kF2, 0)) rfl) rfl rfl ?_
    refine w_cs (as := [.int (Int32.ofInt 0)]) (r := [.int (zn a), .ref 170]) (ykc_196 (e := (6, .invokestatic 154, 0)) rfl) rfl rfl rfl rfl (zm_flag0) (fun v1465 ph1466 hv => ?_)
    obtain ⟨rfl, rfl⟩ := hv
    have cI1 : (zI true).toInt = 1 := rfl
    have cI0 : (zI false).toInt = 0 := rfl
    show zW n D 196 Q 39 [some (.ref 170), some (.int y), some (.int (Int32.ofInt 0))] [.int (zI false), .int (zn a), .ref 170] ph
    have e1467 : (zn a) + (zI false) = zn (a) := zaddN (a := a) (b := 0) ta cI0 (by omega)
    have te1467 := znt (k := a) (by omega)
    refine w_alu (pc' := 40) (st' := [.int (zn (a)), .ref 170]) (ykc_196 (e := (0, .iadd, 0)) rfl) (by show some ([.int ((zn a) + (zI false)), .ref 170] : List Value) = _; rw [e1467]) rfl ?_
    refine w_pf (pc' := 43) (ykc_196 (e := (5, .putfield 139, 0)) rfl) rfl rfl (fun ph1469 u1468 => ?_)
    refine w_load (pc' := 44) (v := .int (Int32.ofInt 0)) (m := 1) (ykc_196 (e := (2, .iload_n kF2, 0)) rfl) rfl rfl ?_
    refine w_ret (v := (some (.int (Int32.ofInt 0)))) (ykc_196 (e := (7, .ireturn, 0)) rfl) zr_z ?_
    rw [hQ]
    exact ⟨zFr_st u1468 (Or.inr (by simp)), Or.inr ⟨by omega, by rw [← zi0], zTm_u u1468 (by omega) hT0⟩⟩
  · refine w_load (pc' := 12) (v := .ref 170) (m := 1) (ykc_196 (e := (2, .aload_n kF0, 0)) rfl) rfl rfl ?_
    refine w_gf (pc' := 15) (v := .ref 176) (ykc_196 (e := (5, .getfield 47, 0)) rfl) rfl (zsg hS zs_170_13) rfl ?_
    refine w_load (pc' := 16) (v := .ref 170) (m := 1) (ykc_196 (e := (2, .aload_n kF0, 0)) rfl) rfl rfl ?_
    refine w_gf (pc' := 19) (v := .int (zn a)) (ykc_196 (e := (5, .getfield 139, 0)) rfl) rfl ga rfl ?_
    have q1470 := (gt a (by omega)).2
    have tq1470 := znt (k := t a) (by omega)
    refine w_ialk (pc' := 20) (k := a) (ykc_196 (e := (5, .iaload, 0)) rfl) (gt a (by omega)).1 (by omega) rfl ?_
    refine w_load (pc' := 21) (v := .int y) (m := 1) (ykc_196 (e := (2, .iload_n kF1, 0)) rfl) rfl rfl ?_
    refine w_ine (ykc_196 (e := (4, .if_icmp .ne 7, 28)) rfl) rfl (fun b1471 => ?_) (fun b1471 => ?_)
    · refine w_alu (pc' := 29) (st' := [.int (Int32.ofInt 0)]) (ykc_196 (e := (0, .iconst 0, 0)) rfl) rfl rfl ?_
      refine w_store (pc' := 30) (L' := [some (.ref 170), some (.int y), some (.int (Int32.ofInt 0))]) (st' := []) (m := 1) (ykc_196 (e := (3, .istore_n kF2, 0)) rfl) rfl rfl ?_
      refine w_load (pc' := 31) (v := .ref 170) (m := 1) (ykc_196 (e := (2, .aload_n kF0, 0)) rfl) rfl rfl ?_
      refine w_alu (pc' := 32) (st' := [.ref 170, .ref 170]) (ykc_196 (e := (0, .dup, 0)) rfl) rfl rfl ?_
      refine w_gf (pc' := 35) (v := .int (zn a)) (ykc_196 (e := (5, .getfield 139, 0)) rfl) rfl ga rfl ?_
      refine w_load (pc' := 36) (v := .int (Int32.ofInt 0)) (m := 1) (ykc_196 (e := (2, .iload_n kF2, 0)) rfl) rfl rfl ?_
      refine w_cs (as := [.int (Int32.ofInt 0)]) (r := [.int (zn a), .ref 170]) (ykc_196 (e := (6, .invokestatic 154, 0)) rfl) rfl rfl rfl rfl (zm_flag0) (fun v1472 ph1473 hv => ?_)
      obtain ⟨rfl, rfl⟩ := hv
      have cI1 : (zI true).toInt = 1 := rfl
      have cI0 : (zI false).toInt = 0 := rfl
      show zW n D 196 Q 39 [some (.ref 170), some (.int y), some (.int (Int32.ofInt 0))] [.int (zI false), .int (zn a), .ref 170] ph
      have e1474 : (zn a) + (zI false) = zn (a) := zaddN (a := a) (b := 0) ta cI0 (by omega)
      have te1474 := znt (k := a) (by omega)
      refine w_alu (pc' := 40) (st' := [.int (zn (a)), .ref 170]) (ykc_196 (e := (0, .iadd, 0)) rfl) (by show some ([.int ((zn a) + (zI false)), .ref 170] : List Value) = _; rw [e1474]) rfl ?_
      refine w_pf (pc' := 43) (ykc_196 (e := (5, .putfield 139, 0)) rfl) rfl rfl (fun ph1476 u1475 => ?_)
      refine w_load (pc' := 44) (v := .int (Int32.ofInt 0)) (m := 1) (ykc_196 (e := (2, .iload_n kF2, 0)) rfl) rfl rfl ?_
      refine w_ret (v := (some (.int (Int32.ofInt 0)))) (ykc_196 (e := (7, .ireturn, 0)) rfl) zr_z ?_
      rw [hQ]
      exact ⟨zFr_st u1475 (Or.inr (by simp)), Or.inr ⟨by omega, by rw [← zi0], zTm_u u1475 (by omega) hT0⟩⟩
    · refine w_alu (pc' := 25) (st' := [.int (Int32.ofInt 1)]) (ykc_196 (e := (0, .iconst 1, 0)) rfl) rfl rfl ?_
      refine w_br (pc' := 29) (st' := [.int (Int32.ofInt 1)]) (ykc_196 (e := (4, .goto 4, 29)) rfl) rfl ?_
      refine w_store (pc' := 30) (L' := [some (.ref 170), some (.int y), some (.int (Int32.ofInt 1))]) (st' := []) (m := 1) (ykc_196 (e := (3, .istore_n kF2, 0)) rfl) rfl rfl ?_
      refine w_load (pc' := 31) (v := .ref 170) (m := 1) (ykc_196 (e := (2, .aload_n kF0, 0)) rfl) rfl rfl ?_
      refine w_alu (pc' := 32) (st' := [.ref 170, .ref 170]) (ykc_196 (e := (0, .dup, 0)) rfl) rfl rfl ?_
      refine w_gf (pc' := 35) (v := .int (zn a)) (ykc_196 (e := (5, .getfield 139, 0)) rfl) rfl ga rfl ?_
      refine w_load (pc' := 36) (v := .int (Int32.ofInt 1)) (m := 1) (ykc_196 (e := (2, .iload_n kF2, 0)) rfl) rfl rfl ?_
      refine w_cs (as := [.int (Int32.ofInt 1)]) (r := [.int (zn a), .ref 170]) (ykc_196 (e := (6, .invokestatic 154, 0)) rfl) rfl rfl rfl rfl (zm_flag1) (fun v1477 ph1478 hv => ?_)
      obtain ⟨rfl, rfl⟩ := hv
      have cI1 : (zI true).toInt = 1 := rfl
      have cI0 : (zI false).toInt = 0 := rfl
      show zW n D 196 Q 39 [some (.ref 170), some (.int y), some (.int (Int32.ofInt 1))] [.int (zI true), .int (zn a), .ref 170] ph
      have e1479 : (zn a) + (zI true) = zn (a + 1) := zaddN (a := a) (b := 1) ta cI1 (by omega)
      have te1479 := znt (k := a + 1) (by omega)
      refine w_alu (pc' := 40) (st' := [.int (zn (a + 1)), .ref 170]) (ykc_196 (e := (0, .iadd, 0)) rfl) (by show some ([.int ((zn a) + (zI true)), .ref 170] : List Value) = _; rw [e1479]) rfl ?_
      refine w_pf (pc' := 43) (ykc_196 (e := (5, .putfield 139, 0)) rfl) rfl rfl (fun ph1481 u1480 => ?_)
      refine w_load (pc' := 44) (v := .int (Int32.ofInt 1)) (m := 1) (ykc_196 (e := (2, .iload_n kF2, 0)) rfl) rfl rfl ?_
      refine w_ret (v := (some (.int (Int32.ofInt 1)))) (ykc_196 (e := (7, .ireturn, 0)) rfl) zr_z ?_
      rw [hQ]
      exact ⟨zFr_st u1480 (Or.inr (by simp)), Or.inl ⟨by omega, by rw [← zi1], zTm_u u1480 (by omega) hT0⟩⟩
theorem zm_takesOf {ph : pm_H} {a b ln : Nat} {t : Nat → Nat} (hS : zSh ph) (hT : zTm ph a b ln t) {s B N : Nat} {cs : Nat → Nat} (hst : zStr s B N cs) : zM 198 [.ref 170, .ref s] ph (fun v0 q => zFr [] [(170, 15)] ph q ∧ ((∃ k, k < N ∧ a < b ∧ t a = cs k ∧ v0 = some (.int (zn k)) ∧ zTm q (a + 1) b ln t) ∨ ((a < b → ∀ k, k < N → t a ≠ cs k) ∧ v0 = some (.int (Int32.ofInt (-1))) ∧ zTm q a b ln t))) := by
  obtain ⟨Q, hQ⟩ : ∃ Q : Option Value → pm_H → Prop, Q = (fun v0 q => zFr [] [(170, 15)] ph q ∧ ((∃ k, k < N ∧ a < b ∧ t a = cs k ∧ v0 = some (.int (zn k)) ∧ zTm q (a + 1) b ln t) ∨ ((a < b → ∀ k, k < N → t a ≠ cs k) ∧ v0 = some (.int (Int32.ofInt (-1))) ∧ zTm q a b ln t))) := ⟨_, rfl⟩
  rw [← hQ]
  refine zM_mk fun n D => ?_
  show zW n D 198 Q 0 [some (.ref 170), some (.ref s), none] [] ph
  have c_0 : (Int32.ofInt (-1)).toInt = -1 := by decide
  have c_1 : (Int32.ofInt 0).toInt = 0 := by decide
  have c_2 : (Int32.ofInt 1).toInt = 1 := by decide
  have hT0 := hT
  have hst0 := hst
  obtain ⟨i9, s1, s2, s3, s4, s5, f, s6, s7⟩ := hst
  obtain ⟨ga, gb, hab, hbn, hn80, gt⟩ := hT
  have ta := znt (k := a) (by omega)
  have tb := znt (k := b) (by omega)
  refine w_alu (pc' := 1) (st' := [.int (Int32.ofInt 0)]) (ykc_198 (e := (0, .iconst 0, 0)) rfl) rfl rfl ?_
  refine w_store (pc' := 2) (L' := [some (.ref 170), some (.ref s), some (.int (Int32.ofInt 0))]) (st' := []) (m := 1) (ykc_198 (e := (3, .istore_n kF2, 0)) rfl) rfl rfl ?_
  have hl : ∀ (n : Nat), ∀ (k : Nat), (k ≤ N) → (a < b → ∀ i, i < k → t a ≠ cs i) → zW n D 198 Q 2 [some (.ref 170), some (.ref s), some (.int (zn k))] [] ph := by
    intro n
    induction n using Nat.strongRecOn with
    | ind n ih =>
      intro k hk hno
      have tk := znt (k := k) (by omega)
      have tN := znt (k := N) (by omega)
      refine w_load (pc' := 3) (v := .int (zn k)) (m := 1) (ykc_198 (e := (2, .iload_n kF2, 0)) rfl) rfl rfl ?_
      refine w_load (pc' := 4) (v := .ref s) (m := 1) (ykc_198 (e := (2, .aload_n kF1, 0)) rfl) rfl rfl ?_
      refine w_cvr s1 (as := [.ref s]) (r := [.int (zn k)]) (ykc_198 (e := (6, .invokevirtual 162, 0)) rfl) rfl rfl rfl rfl (zj_len hst0) (fun v1482 ph1483 hv => ?_)
      obtain ⟨rfl, rfl⟩ := hv
      show zW n D 198 Q 7 [some (.ref 170), some (.ref s), some (.int (zn k))] [.int (zn N), .int (zn k)] ph
      refine w_ige (ykc_198 (e := (4, .if_icmp .ge 49, 56)) rfl) rfl (fun b1484 => ?_) (fun b1484 => ?_)
      · refine w_alu (pc' := 57) (st' := [.int (Int32.ofInt (-1))]) (ykc_198 (e := (0, .iconst (-1), 0)) rfl) rfl rfl ?_
        refine w_ret (v := (some (.int (Int32.ofInt (-1))))) (ykc_198 (e := (7, .ireturn, 0)) rfl) (zr_v rfl) ?_
        have ek : k = N := by omega
        subst ek
        rw [hQ]
        exact ⟨zFr_refl, Or.inr ⟨hno, rfl, hT0⟩⟩
      · refine w_load (pc' := 11) (v := .ref 170) (m := 1) (ykc_198 (e := (2, .aload_n kF0, 0)) rfl) rfl rfl ?_
        refine w_gf (pc' := 14) (v := .int (zn a)) (ykc_198 (e := (5, .getfield 139, 0)) rfl) rfl ga rfl ?_
        refine w_load (pc' := 15) (v := .ref 170) (m := 1) (ykc_198 (e := (2, .aload_n kF0, 0)) rfl) rfl rfl ?_
        refine w_gf (pc' := 18) (v := .int (zn b)) (ykc_198 (e := (5, .getfield 151, 0)) rfl) rfl gb rfl ?_
        refine w_ige (ykc_198 (e := (4, .if_icmp .ge 38, 56)) rfl) rfl (fun b1485 => ?_) (fun b1485 => ?_)
        · refine w_alu (pc' := 57) (st' := [.int (Int32.ofInt (-1))]) (ykc_198 (e := (0, .iconst (-1), 0)) rfl) rfl rfl ?_
          refine w_ret (v := (some (.int (Int32.ofInt (-1))))) (ykc_198 (e := (7, .ireturn, 0)) rfl) (zr_v rfl) ?_
          rw [hQ]
          exact ⟨zFr_refl, Or.inr ⟨fun h => absurd h (by omega), rfl, hT0⟩⟩
        · refine w_load (pc' := 22) (v := .ref s) (m := 1) (ykc_198 (e := (2, .aload_n kF1, 0)) rfl) rfl rfl ?_
          refine w_load (pc' := 23) (v := .int (zn k)) (m := 1) (ykc_198 (e := (2, .iload_n kF2, 0)) rfl) rfl rfl ?_
          refine w_cvr s1 (as := [.ref s, .int (zn k)]) (r := []) (ykc_198 (e := (6, .invokevirtual 167, 0)) rfl) rfl rfl rfl rfl (zj_chr hst0 (k := k) (by omega) (by omega)) (fun v1486 ph1487 hv => ?_)
          obtain ⟨rfl, rfl⟩ := hv
          have c9 := (s7 k (by omega)).2
          have tc9 := znt (k := cs k) (by omega)
          show zW n D 198 Q 26 [some (.ref 170), some (.ref s), some (.int (zn k))] [.int (zn (cs k))] ph
          refine w_load (pc' := 27) (v := .ref 170) (m := 1) (ykc_198 (e := (2, .aload_n kF0, 0)) rfl) rfl rfl ?_
          refine w_gf (pc' := 30) (v := .ref 176) (ykc_198 (e := (5, .getfield 47, 0)) rfl) rfl (zsg hS zs_170_13) rfl ?_
          refine w_load (pc' := 31) (v := .ref 170) (m := 1) (ykc_198 (e := (2, .aload_n kF0, 0)) rfl) rfl rfl ?_
          refine w_gf (pc' := 34) (v := .int (zn a)) (ykc_198 (e := (5, .getfield 139, 0)) rfl) rfl ga rfl ?_
          have q1488 := (gt a (by omega)).2
          have tq1488 := znt (k := t a) (by omega)
          refine w_ialk (pc' := 35) (k := a) (ykc_198 (e := (5, .iaload, 0)) rfl) (gt a (by omega)).1 (by omega) rfl ?_
          refine w_ine (ykc_198 (e := (4, .if_icmp .ne 15, 50)) rfl) rfl (fun b1489 => ?_) (fun b1489 => ?_)
          · have e1490 : (zn k) + Int32.ofInt 1 = zn (k + 1) := (zaddN (a := k) (b := 1) (znt (by omega)) c_2 (by omega))
            have te1490 := znt (k := k + 1) (by omega)
            refine w_store (pc' := 53) (L' := [some (.ref 170), some (.ref s), some (.int (zn (k + 1)))]) (st' := []) (m := 3) (ykc_198 (e := (3, .iinc 2 1, 0)) rfl) (by rw [← e1490]; rfl) rfl ?_
            refine w_gb (ykc_198 (e := (4, .goto (-51), 2)) rfl) (fun k1491 hk1491 => ?_)
            exact ih k1491 hk1491 (k + 1) (by omega) (fun h i hi => by
              by_cases e : i = k
              · subst e; omega
              · exact hno h i (by omega))
          · refine w_load (pc' := 39) (v := .ref 170) (m := 1) (ykc_198 (e := (2, .aload_n kF0, 0)) rfl) rfl rfl ?_
            refine w_alu (pc' := 40) (st' := [.ref 170, .ref 170]) (ykc_198 (e := (0, .dup, 0)) rfl) rfl rfl ?_
            refine w_gf (pc' := 43) (v := .int (zn a)) (ykc_198 (e := (5, .getfield 139, 0)) rfl) rfl ga rfl ?_
            refine w_alu (pc' := 44) (st' := [.int (Int32.ofInt 1), .int (zn a), .ref 170]) (ykc_198 (e := (0, .iconst 1, 0)) rfl) rfl rfl ?_
            have e1492 : (zn a) + (Int32.ofInt 1) = zn (a + 1) := (zaddN (a := a) (b := 1) (znt (by omega)) c_2 (by omega)) 
            have te1492 := znt (k := a + 1) (by omega)
            refine w_alu (pc' := 45) (st' := [.int (zn (a + 1)), .ref 170]) (ykc_198 (e := (0, .iadd, 0)) rfl) (by rw [← e1492]; rfl) rfl ?_
            refine w_pf (pc' := 48) (ykc_198 (e := (5, .putfield 139, 0)) rfl) rfl rfl (fun ph1494 u1493 => ?_)
            refine w_load (pc' := 49) (v := .int (zn k)) (m := 1) (ykc_198 (e := (2, .iload_n kF2, 0)) rfl) rfl rfl ?_
            refine w_ret (v := (some (.int (zn k)))) (ykc_198 (e := (7, .ireturn, 0)) rfl) (zr_v rfl) ?_
            rw [hQ]
            exact ⟨zFr_st u1493 (Or.inr (by simp)), Or.inl ⟨k, by omega, by omega, by omega, rfl, zTm_u u1493 (by omega) hT0⟩⟩
  exact hl n 0 (Nat.zero_le _) (fun _ i hi => absurd hi (Nat.not_lt_zero i))
/-- what a reading that ended at a of b answers, where n were told and c can be -/
def zFo (n c a b : Nat) (is : Bool) : Int := if c < n ∧ ((is = true ∧ a = b) ∨ c ≤ a) then -1 - (c : Int) else if is = true ∧ a = b then 0 else -1 - (a : Int)
theorem zFo_b {n c a b : Nat} : zFo n c a b false = if c < n ∧ c ≤ a then -1 - (c : Int) else -1 - (a : Int) := by
  unfold zFo
  simp
theorem zFo_t {n c a b : Nat} : zFo n c a b true = if c < n ∧ (a = b ∨ c ≤ a) then -1 - (c : Int) else if a = b then 0 else -1 - (a : Int) := by
  unfold zFo
  simp
theorem zm_fault {ph : pm_H} {a b ln : Nat} {t : Nat → Nat} (hS : zSh ph) (hT : zTm ph a b ln t) {x y : Int32} {n9 c : Nat} {is : Bool} (hx : x.toInt = (n9 : Int)) (hy : y.toInt = (c : Int)) : zM 201 [.ref 170, .int x, .int y, .int (zI is)] ph (fun v0 q => ph = q ∧ ∃ z : Int32, v0 = some (.int z) ∧ z.toInt = zFo n9 c a b is) := by
  obtain ⟨Q, hQ⟩ : ∃ Q : Option Value → pm_H → Prop, Q = (fun v0 q => ph = q ∧ ∃ z : Int32, v0 = some (.int z) ∧ z.toInt = zFo n9 c a b is) := ⟨_, rfl⟩
  rw [← hQ]
  refine zM_mk fun n D => ?_
  show zW n D 201 Q 0 [some (.ref 170), some (.int x), some (.int y), some (.int (zI is)), none] [] ph
  have c_0 : (Int32.ofInt (-1)).toInt = -1 := by decide
  have c_1 : (Int32.ofInt 0).toInt = 0 := by decide
  have c_2 : (Int32.ofInt 1).toInt = 1 := by decide
  have hx9 := x32_hi x
  have hy9 := x32_hi y
  obtain ⟨ga, gb, hab, hbn, hn80, gt⟩ := hT
  have ta := znt (k := a) (by omega)
  have tb := znt (k := b) (by omega)
  refine w_load (pc' := 1) (v := .int (zI is)) (m := 1) (ykc_201 (e := (2, .iload_n kF3, 0)) rfl) rfl rfl ?_
  refine w_beq (ykc_201 (e := (4, .ifCond .eq 18, 19)) rfl) rfl (fun b1495 => ?_) (fun b1495 => ?_)
  · refine w_alu (pc' := 20) (st' := [.int (Int32.ofInt 0)]) (ykc_201 (e := (0, .iconst 0, 0)) rfl) rfl rfl ?_
    refine w_store (pc' := 22) (L' := [some (.ref 170), some (.int x), some (.int y), some (.int (zI is)), some (.int (Int32.ofInt 0))]) (st' := []) (m := 2) (ykc_201 (e := (3, .istore 4, 0)) rfl) rfl rfl ?_
    refine w_load (pc' := 23) (v := .int x) (m := 1) (ykc_201 (e := (2, .iload_n kF1, 0)) rfl) rfl rfl ?_
    refine w_load (pc' := 24) (v := .int y) (m := 1) (ykc_201 (e := (2, .iload_n kF2, 0)) rfl) rfl rfl ?_
    refine w_ile (ykc_201 (e := (4, .if_icmp .le 20, 44)) rfl) rfl (fun b1496 => ?_) (fun b1496 => ?_)
    · refine w_load (pc' := 46) (v := .int (Int32.ofInt 0)) (m := 2) (ykc_201 (e := (2, .iload 4, 0)) rfl) rfl rfl ?_
      refine w_zeq (ykc_201 (e := (4, .ifCond .eq 7, 53)) rfl) rfl (fun b1497 => ?_) (fun q => by exfalso; omega)
      refine w_alu (pc' := 54) (st' := [.int (Int32.ofInt (-1))]) (ykc_201 (e := (0, .iconst (-1), 0)) rfl) rfl rfl ?_
      refine w_load (pc' := 55) (v := .ref 170) (m := 1) (ykc_201 (e := (2, .aload_n kF0, 0)) rfl) rfl rfl ?_
      refine w_gf (pc' := 58) (v := .int (zn a)) (ykc_201 (e := (5, .getfield 139, 0)) rfl) rfl ga rfl ?_
      obtain ⟨z1498, e_z1498, h_z1498⟩ : ∃ zq : Int32, (Int32.ofInt (-1)) - (zn a) = zq ∧ zq.toInt = (-1 : Int) - ((a : Nat) : Int) := ⟨_, rfl, zm1sub (by omega) (by omega) (by omega)⟩
      refine w_alu (pc' := 59) (st' := [.int z1498]) (ykc_201 (e := (0, .isub, 0)) rfl) (by rw [← e_z1498]; rfl) rfl ?_
      refine w_ret (v := (some (.int z1498))) (ykc_201 (e := (7, .ireturn, 0)) rfl) (zr_v rfl) ?_
      rw [hQ, show is = false from b1495]
      refine ⟨rfl, _, rfl, ?_⟩
      rw [zFo_b, if_neg (by omega)]
      omega
    · refine w_load (pc' := 29) (v := .int (Int32.ofInt 0)) (m := 2) (ykc_201 (e := (2, .iload 4, 0)) rfl) rfl rfl ?_
      refine w_zne (ykc_201 (e := (4, .ifCond .ne 11, 40)) rfl) rfl (fun q => by exfalso; omega) (fun b1499 => ?_)
      refine w_load (pc' := 33) (v := .ref 170) (m := 1) (ykc_201 (e := (2, .aload_n kF0, 0)) rfl) rfl rfl ?_
      refine w_gf (pc' := 36) (v := .int (zn a)) (ykc_201 (e := (5, .getfield 139, 0)) rfl) rfl ga rfl ?_
      refine w_load (pc' := 37) (v := .int y) (m := 1) (ykc_201 (e := (2, .iload_n kF2, 0)) rfl) rfl rfl ?_
      refine w_ilt (ykc_201 (e := (4, .if_icmp .lt 7, 44)) rfl) rfl (fun b1500 => ?_) (fun b1500 => ?_)
      · refine w_load (pc' := 46) (v := .int (Int32.ofInt 0)) (m := 2) (ykc_201 (e := (2, .iload 4, 0)) rfl) rfl rfl ?_
        refine w_zeq (ykc_201 (e := (4, .ifCond .eq 7, 53)) rfl) rfl (fun b1501 => ?_) (fun q => by exfalso; omega)
        refine w_alu (pc' := 54) (st' := [.int (Int32.ofInt (-1))]) (ykc_201 (e := (0, .iconst (-1), 0)) rfl) rfl rfl ?_
        refine w_load (pc' := 55) (v := .ref 170) (m := 1) (ykc_201 (e := (2, .aload_n kF0, 0)) rfl) rfl rfl ?_
        refine w_gf (pc' := 58) (v := .int (zn a)) (ykc_201 (e := (5, .getfield 139, 0)) rfl) rfl ga rfl ?_
        obtain ⟨z1502, e_z1502, h_z1502⟩ : ∃ zq : Int32, (Int32.ofInt (-1)) - (zn a) = zq ∧ zq.toInt = (-1 : Int) - ((a : Nat) : Int) := ⟨_, rfl, zm1sub (by omega) (by omega) (by omega)⟩
        refine w_alu (pc' := 59) (st' := [.int z1502]) (ykc_201 (e := (0, .isub, 0)) rfl) (by rw [← e_z1502]; rfl) rfl ?_
        refine w_ret (v := (some (.int z1502))) (ykc_201 (e := (7, .ireturn, 0)) rfl) (zr_v rfl) ?_
        rw [hQ, show is = false from b1495]
        refine ⟨rfl, _, rfl, ?_⟩
        rw [zFo_b, if_neg (by omega)]
        omega
      · refine w_alu (pc' := 41) (st' := [.int (Int32.ofInt (-1))]) (ykc_201 (e := (0, .iconst (-1), 0)) rfl) rfl rfl ?_
        refine w_load (pc' := 42) (v := .int y) (m := 1) (ykc_201 (e := (2, .iload_n kF2, 0)) rfl) rfl rfl ?_
        obtain ⟨z1503, e_z1503, h_z1503⟩ : ∃ zq : Int32, (Int32.ofInt (-1)) - y = zq ∧ zq.toInt = (-1 : Int) - ((c : Nat) : Int) := ⟨_, rfl, zm1sub (by omega) (by omega) (by omega)⟩
        refine w_alu (pc' := 43) (st' := [.int z1503]) (ykc_201 (e := (0, .isub, 0)) rfl) (by rw [← e_z1503]; rfl) rfl ?_
        refine w_ret (v := (some (.int z1503))) (ykc_201 (e := (7, .ireturn, 0)) rfl) (zr_v rfl) ?_
        rw [hQ, show is = false from b1495]
        refine ⟨rfl, _, rfl, ?_⟩
        rw [zFo_b, if_pos (by omega)]
        omega
  · refine w_load (pc' := 5) (v := .ref 170) (m := 1) (ykc_201 (e := (2, .aload_n kF0, 0)) rfl) rfl rfl ?_
    refine w_gf (pc' := 8) (v := .int (zn a)) (ykc_201 (e := (5, .getfield 139, 0)) rfl) rfl ga rfl ?_
    refine w_load (pc' := 9) (v := .ref 170) (m := 1) (ykc_201 (e := (2, .aload_n kF0, 0)) rfl) rfl rfl ?_
    refine w_gf (pc' := 12) (v := .int (zn b)) (ykc_201 (e := (5, .getfield 151, 0)) rfl) rfl gb rfl ?_
    refine w_ine (ykc_201 (e := (4, .if_icmp .ne 7, 19)) rfl) rfl (fun b1504 => ?_) (fun b1504 => ?_)
    · refine w_alu (pc' := 20) (st' := [.int (Int32.ofInt 0)]) (ykc_201 (e := (0, .iconst 0, 0)) rfl) rfl rfl ?_
      refine w_store (pc' := 22) (L' := [some (.ref 170), some (.int x), some (.int y), some (.int (zI is)), some (.int (Int32.ofInt 0))]) (st' := []) (m := 2) (ykc_201 (e := (3, .istore 4, 0)) rfl) rfl rfl ?_
      refine w_load (pc' := 23) (v := .int x) (m := 1) (ykc_201 (e := (2, .iload_n kF1, 0)) rfl) rfl rfl ?_
      refine w_load (pc' := 24) (v := .int y) (m := 1) (ykc_201 (e := (2, .iload_n kF2, 0)) rfl) rfl rfl ?_
      refine w_ile (ykc_201 (e := (4, .if_icmp .le 20, 44)) rfl) rfl (fun b1505 => ?_) (fun b1505 => ?_)
      · refine w_load (pc' := 46) (v := .int (Int32.ofInt 0)) (m := 2) (ykc_201 (e := (2, .iload 4, 0)) rfl) rfl rfl ?_
        refine w_zeq (ykc_201 (e := (4, .ifCond .eq 7, 53)) rfl) rfl (fun b1506 => ?_) (fun q => by exfalso; omega)
        refine w_alu (pc' := 54) (st' := [.int (Int32.ofInt (-1))]) (ykc_201 (e := (0, .iconst (-1), 0)) rfl) rfl rfl ?_
        refine w_load (pc' := 55) (v := .ref 170) (m := 1) (ykc_201 (e := (2, .aload_n kF0, 0)) rfl) rfl rfl ?_
        refine w_gf (pc' := 58) (v := .int (zn a)) (ykc_201 (e := (5, .getfield 139, 0)) rfl) rfl ga rfl ?_
        obtain ⟨z1507, e_z1507, h_z1507⟩ : ∃ zq : Int32, (Int32.ofInt (-1)) - (zn a) = zq ∧ zq.toInt = (-1 : Int) - ((a : Nat) : Int) := ⟨_, rfl, zm1sub (by omega) (by omega) (by omega)⟩
        refine w_alu (pc' := 59) (st' := [.int z1507]) (ykc_201 (e := (0, .isub, 0)) rfl) (by rw [← e_z1507]; rfl) rfl ?_
        refine w_ret (v := (some (.int z1507))) (ykc_201 (e := (7, .ireturn, 0)) rfl) (zr_v rfl) ?_
        rw [hQ, show is = true from b1495]
        refine ⟨rfl, _, rfl, ?_⟩
        rw [zFo_t, if_neg (by omega), if_neg (by omega)]
        omega
      · refine w_load (pc' := 29) (v := .int (Int32.ofInt 0)) (m := 2) (ykc_201 (e := (2, .iload 4, 0)) rfl) rfl rfl ?_
        refine w_zne (ykc_201 (e := (4, .ifCond .ne 11, 40)) rfl) rfl (fun q => by exfalso; omega) (fun b1508 => ?_)
        refine w_load (pc' := 33) (v := .ref 170) (m := 1) (ykc_201 (e := (2, .aload_n kF0, 0)) rfl) rfl rfl ?_
        refine w_gf (pc' := 36) (v := .int (zn a)) (ykc_201 (e := (5, .getfield 139, 0)) rfl) rfl ga rfl ?_
        refine w_load (pc' := 37) (v := .int y) (m := 1) (ykc_201 (e := (2, .iload_n kF2, 0)) rfl) rfl rfl ?_
        refine w_ilt (ykc_201 (e := (4, .if_icmp .lt 7, 44)) rfl) rfl (fun b1509 => ?_) (fun b1509 => ?_)
        · refine w_load (pc' := 46) (v := .int (Int32.ofInt 0)) (m := 2) (ykc_201 (e := (2, .iload 4, 0)) rfl) rfl rfl ?_
          refine w_zeq (ykc_201 (e := (4, .ifCond .eq 7, 53)) rfl) rfl (fun b1510 => ?_) (fun q => by exfalso; omega)
          refine w_alu (pc' := 54) (st' := [.int (Int32.ofInt (-1))]) (ykc_201 (e := (0, .iconst (-1), 0)) rfl) rfl rfl ?_
          refine w_load (pc' := 55) (v := .ref 170) (m := 1) (ykc_201 (e := (2, .aload_n kF0, 0)) rfl) rfl rfl ?_
          refine w_gf (pc' := 58) (v := .int (zn a)) (ykc_201 (e := (5, .getfield 139, 0)) rfl) rfl ga rfl ?_
          obtain ⟨z1511, e_z1511, h_z1511⟩ : ∃ zq : Int32, (Int32.ofInt (-1)) - (zn a) = zq ∧ zq.toInt = (-1 : Int) - ((a : Nat) : Int) := ⟨_, rfl, zm1sub (by omega) (by omega) (by omega)⟩
          refine w_alu (pc' := 59) (st' := [.int z1511]) (ykc_201 (e := (0, .isub, 0)) rfl) (by rw [← e_z1511]; rfl) rfl ?_
          refine w_ret (v := (some (.int z1511))) (ykc_201 (e := (7, .ireturn, 0)) rfl) (zr_v rfl) ?_
          rw [hQ, show is = true from b1495]
          refine ⟨rfl, _, rfl, ?_⟩
          rw [zFo_t, if_neg (by omega), if_neg (by omega)]
          omega
        · refine w_alu (pc' := 41) (st' := [.int (Int32.ofInt (-1))]) (ykc_201 (e := (0, .iconst (-1), 0)) rfl) rfl rfl ?_
          refine w_load (pc' := 42) (v := .int y) (m := 1) (ykc_201 (e := (2, .iload_n kF2, 0)) rfl) rfl rfl ?_
          obtain ⟨z1512, e_z1512, h_z1512⟩ : ∃ zq : Int32, (Int32.ofInt (-1)) - y = zq ∧ zq.toInt = (-1 : Int) - ((c : Nat) : Int) := ⟨_, rfl, zm1sub (by omega) (by omega) (by omega)⟩
          refine w_alu (pc' := 43) (st' := [.int z1512]) (ykc_201 (e := (0, .isub, 0)) rfl) (by rw [← e_z1512]; rfl) rfl ?_
          refine w_ret (v := (some (.int z1512))) (ykc_201 (e := (7, .ireturn, 0)) rfl) (zr_v rfl) ?_
          rw [hQ, show is = true from b1495]
          refine ⟨rfl, _, rfl, ?_⟩
          rw [zFo_t, if_pos (by omega)]
          omega
    · refine w_alu (pc' := 16) (st' := [.int (Int32.ofInt 1)]) (ykc_201 (e := (0, .iconst 1, 0)) rfl) rfl rfl ?_
      refine w_br (pc' := 20) (st' := [.int (Int32.ofInt 1)]) (ykc_201 (e := (4, .goto 4, 20)) rfl) rfl ?_
      refine w_store (pc' := 22) (L' := [some (.ref 170), some (.int x), some (.int y), some (.int (zI is)), some (.int (Int32.ofInt 1))]) (st' := []) (m := 2) (ykc_201 (e := (3, .istore 4, 0)) rfl) rfl rfl ?_
      refine w_load (pc' := 23) (v := .int x) (m := 1) (ykc_201 (e := (2, .iload_n kF1, 0)) rfl) rfl rfl ?_
      refine w_load (pc' := 24) (v := .int y) (m := 1) (ykc_201 (e := (2, .iload_n kF2, 0)) rfl) rfl rfl ?_
      refine w_ile (ykc_201 (e := (4, .if_icmp .le 20, 44)) rfl) rfl (fun b1513 => ?_) (fun b1513 => ?_)
      · refine w_load (pc' := 46) (v := .int (Int32.ofInt 1)) (m := 2) (ykc_201 (e := (2, .iload 4, 0)) rfl) rfl rfl ?_
        refine w_zeq (ykc_201 (e := (4, .ifCond .eq 7, 53)) rfl) rfl (fun q => by exfalso; omega) (fun b1514 => ?_)
        refine w_alu (pc' := 50) (st' := [.int (Int32.ofInt 0)]) (ykc_201 (e := (0, .iconst 0, 0)) rfl) rfl rfl ?_
        refine w_br (pc' := 59) (st' := [.int (Int32.ofInt 0)]) (ykc_201 (e := (4, .goto 9, 59)) rfl) rfl ?_
        refine w_ret (v := (some (.int (Int32.ofInt 0)))) (ykc_201 (e := (7, .ireturn, 0)) rfl) (zr_v rfl) ?_
        rw [hQ, show is = true from b1495]
        refine ⟨rfl, _, rfl, ?_⟩
        rw [zFo_t, if_neg (by omega), if_pos (by omega)]
        omega
      · refine w_load (pc' := 29) (v := .int (Int32.ofInt 1)) (m := 2) (ykc_201 (e := (2, .iload 4, 0)) rfl) rfl rfl ?_
        refine w_zne (ykc_201 (e := (4, .ifCond .ne 11, 40)) rfl) rfl (fun b1515 => ?_) (fun q => by exfalso; omega)
        refine w_alu (pc' := 41) (st' := [.int (Int32.ofInt (-1))]) (ykc_201 (e := (0, .iconst (-1), 0)) rfl) rfl rfl ?_
        refine w_load (pc' := 42) (v := .int y) (m := 1) (ykc_201 (e := (2, .iload_n kF2, 0)) rfl) rfl rfl ?_
        obtain ⟨z1516, e_z1516, h_z1516⟩ : ∃ zq : Int32, (Int32.ofInt (-1)) - y = zq ∧ zq.toInt = (-1 : Int) - ((c : Nat) : Int) := ⟨_, rfl, zm1sub (by omega) (by omega) (by omega)⟩
        refine w_alu (pc' := 43) (st' := [.int z1516]) (ykc_201 (e := (0, .isub, 0)) rfl) (by rw [← e_z1516]; rfl) rfl ?_
        refine w_ret (v := (some (.int z1516))) (ykc_201 (e := (7, .ireturn, 0)) rfl) (zr_v rfl) ?_
        rw [hQ, show is = true from b1495]
        refine ⟨rfl, _, rfl, ?_⟩
        rw [zFo_t, if_pos (by omega)]
        omega
end
section
/-! valley, class and reference, by W; printed by wip/z/z1c_valley.py -/
/-- a digit 3 .. 7 at p, or 0; a sign of a FIELD at p; how many of k FIELDS are told, what valley answers -/
def zVd (n : Nat) (t : Nat → Nat) (p : Nat) : Nat := if p < n ∧ 51 ≤ t p ∧ t p ≤ 55 then t p - 48 else 0
def zVs (n : Nat) (t : Nat → Nat) (p : Nat) : Bool := decide (p < n ∧ (t p = 46 ∨ t p = 35))
def zVg (n : Nat) (t : Nat → Nat) : Nat → Nat
  | 0 => 0
  | k + 1 => if zVg n t k = k ∧ zVs n t (2 + k) = true then k + 1 else zVg n t k
def zVN (n : Nat) (t : Nat → Nat) : Nat := zVd n t 0 * zVd n t 1
def zVa (n : Nat) (t : Nat → Nat) : Int := if zVd n t 0 = 0 then -1 else if zVd n t 1 = 0 then -2 else if zVg n t (zVN n t) < zVN n t then -3 - (zVg n t (zVN n t) : Nat) else if 2 + zVN n t < n then -3 - (zVN n t : Nat) else (zVN n t : Nat)
def zVk (n : Nat) (t : Nat → Nat) : Prop := zVd n t 0 ≠ 0 ∧ zVd n t 1 ≠ 0 ∧ zVg n t (zVN n t) = zVN n t ∧ n ≤ 2 + zVN n t
theorem zVd_b {n p : Nat} {t : Nat → Nat} : zVd n t p = 0 ∨ (3 ≤ zVd n t p ∧ zVd n t p ≤ 7) := by unfold zVd; split <;> omega
theorem zVN_b {n : Nat} {t : Nat → Nat} : zVN n t ≤ 49 := by
  have h0 := @zVd_b n 0 t
  have h1 := @zVd_b n 1 t
  exact Nat.le_trans (Nat.mul_le_mul (show zVd n t 0 ≤ 7 by omega) (show zVd n t 1 ≤ 7 by omega)) (by decide)
theorem zVg_a {n : Nat} {t : Nat → Nat} : ∀ k, (∀ i, i < k → zVs n t (2 + i) = true) → zVg n t k = k
  | 0, _ => rfl
  | k + 1, h => if_pos ⟨zVg_a k (fun i hi => h i (by omega)), h k (by omega)⟩
theorem zVg_f {n f : Nat} {t : Nat → Nat} (h : ∀ i, i < f → zVs n t (2 + i) = true) (hf : zVs n t (2 + f) = false) : ∀ k, f < k → zVg n t k = f := by
  intro k
  induction k with
  | zero => intro h; omega
  | succ k ih =>
    intro hk
    show (if zVg n t k = k ∧ zVs n t (2 + k) = true then k + 1 else zVg n t k) = f
    by_cases e : f = k
    · subst e
      rw [if_neg (fun q => by rw [hf] at q; exact absurd q.2 (by decide)), zVg_a f h]
    · rw [if_neg (fun q => by have := ih (by omega); omega), ih (by omega)]
theorem zVa_0 {n : Nat} {t : Nat → Nat} (h : zVd n t 0 = 0) : zVa n t = -1 ∧ ¬ zVk n t := ⟨if_pos h, fun q => q.1 h⟩
theorem zVa_1 {n : Nat} {t : Nat → Nat} (h0 : zVd n t 0 ≠ 0) (h : zVd n t 1 = 0) : zVa n t = -2 ∧ ¬ zVk n t := ⟨by unfold zVa; rw [if_neg h0, if_pos h], fun q => q.2.1 h⟩
theorem zVa_2 {n f : Nat} {t : Nat → Nat} (h0 : zVd n t 0 ≠ 0) (h1 : zVd n t 1 ≠ 0) (h : ∀ i, i < f → zVs n t (2 + i) = true) (hf : zVs n t (2 + f) = false) (hN : f < zVN n t) : zVa n t = -3 - (f : Int) ∧ ¬ zVk n t := by
  have e := zVg_f h hf _ hN
  exact ⟨by unfold zVa; rw [if_neg h0, if_neg h1, e, if_pos hN], fun q => by have := q.2.2.1; omega⟩
theorem zVa_3 {n : Nat} {t : Nat → Nat} (h0 : zVd n t 0 ≠ 0) (h1 : zVd n t 1 ≠ 0) (h : ∀ i, i < zVN n t → zVs n t (2 + i) = true) (hn : 2 + zVN n t < n) : zVa n t = -3 - (zVN n t : Nat) ∧ ¬ zVk n t := by
  have e := zVg_a _ h
  exact ⟨by unfold zVa; rw [if_neg h0, if_neg h1, e, if_neg (Nat.lt_irrefl _), if_pos hn], fun q => by have := q.2.2.2; omega⟩
theorem zVa_4 {n : Nat} {t : Nat → Nat} (h0 : zVd n t 0 ≠ 0) (h1 : zVd n t 1 ≠ 0) (h : ∀ i, i < zVN n t → zVs n t (2 + i) = true) (hn : ¬ 2 + zVN n t < n) : zVa n t = (zVN n t : Nat) ∧ zVk n t := by
  have e := zVg_a _ h
  exact ⟨by unfold zVa; rw [if_neg h0, if_neg h1, e, if_neg (Nat.lt_irrefl _), if_neg hn], h0, h1, e, by omega⟩
theorem zVs_1 {n p : Nat} {t : Nat → Nat} (h : p < n ∧ (t p = 46 ∨ t p = 35)) : zVs n t p = true := decide_eq_true h
theorem zVs_0 {n p : Nat} {t : Nat → Nat} (h : ¬ (p < n ∧ (t p = 46 ∨ t p = 35))) : zVs n t p = false := decide_eq_false h
/-- the rocks told -/
def zVr (t : Nat → Nat) (f : Nat) : Bool := decide (t (2 + f) = 35)
theorem zdm {C i j : Nat} (h : j < C) : (i * C + j) / C = i ∧ (i * C + j) % C = j := by
  have hC : 0 < C := by omega
  constructor
  · rw [Nat.mul_comm, Nat.mul_add_div hC, Nat.div_eq_of_lt h, Nat.add_zero]
  · rw [Nat.mul_comm, Nat.mul_add_mod, Nat.mod_eq_of_lt h]
theorem zc_side {ph : pm_H} {ln : Nat} {t : Nat → Nat} (hS : zSh ph) (hT : zTc ph ln t) {x : Int32} {k : Nat} (hx : x.toInt = (k : Int)) : zM 35 [.ref 1, .int x] ph (fun v q => ph = q ∧ ((zVd ln t k = 0 ∧ v = some (.int (Int32.ofInt (-1)))) ∨ (zVd ln t k ≠ 0 ∧ v = some (.int (zn (zVd ln t k)))))) := by
  obtain ⟨Q, hQ⟩ : ∃ Q : Option Value → pm_H → Prop, Q = (fun v q => ph = q ∧ ((zVd ln t k = 0 ∧ v = some (.int (Int32.ofInt (-1)))) ∨ (zVd ln t k ≠ 0 ∧ v = some (.int (zn (zVd ln t k)))))) := ⟨_, rfl⟩
  rw [← hQ]
  refine zM_mk fun n D => ?_
  show zW n D 35 Q 0 [some (.ref 1), some (.int x), none] [] ph
  have c_0 : ((Int8.ofInt 7).toInt32).toInt = 7 := by decide
  have c_1 : (Int32.ofInt (-1)).toInt = -1 := by decide
  have c_2 : (Int32.ofInt 3).toInt = 3 := by decide
  have hT0 := hT
  obtain ⟨gn, hn80, gt⟩ := hT
  have tn := znt (k := ln) (by omega)
  refine w_load (pc' := 1) (v := .ref 1) (m := 1) (ykc_35 (e := (2, .aload_n kF0, 0)) rfl) rfl rfl ?_
  refine w_load (pc' := 2) (v := .int x) (m := 1) (ykc_35 (e := (2, .iload_n kF1, 0)) rfl) rfl rfl ?_
  refine w_cv (as := [.ref 1, .int x]) (r := []) (ykc_35 (e := (6, .invokevirtual 43, 0)) rfl) rfl rfl rfl rfl (zc_digit hS hT0 (k := k) (by omega)) (fun v1518 ph1519 hv => ?_)
  obtain ⟨rfl, g1517, rfl, e_g1517⟩ := hv
  have b_g1517 := @zDi_b ln k t
  have d_g1517 := @zDi_c ln k t
  show zW n D 35 Q 5 [some (.ref 1), some (.int x), none] [.int g1517] ph
  refine w_store (pc' := 6) (L' := [some (.ref 1), some (.int x), some (.int g1517)]) (st' := []) (m := 1) (ykc_35 (e := (3, .istore_n kF2, 0)) rfl) rfl rfl ?_
  refine w_load (pc' := 7) (v := .int g1517) (m := 1) (ykc_35 (e := (2, .iload_n kF2, 0)) rfl) rfl rfl ?_
  refine w_alu (pc' := 8) (st' := [.int (Int32.ofInt 3), .int g1517]) (ykc_35 (e := (0, .iconst 3, 0)) rfl) rfl rfl ?_
  refine w_ilt (ykc_35 (e := (4, .if_icmp .lt 13, 21)) rfl) rfl (fun b1520 => ?_) (fun b1520 => ?_)
  · refine w_alu (pc' := 22) (st' := [.int (Int32.ofInt (-1))]) (ykc_35 (e := (0, .iconst (-1), 0)) rfl) rfl rfl ?_
    refine w_ret (v := (some (.int (Int32.ofInt (-1))))) (ykc_35 (e := (7, .ireturn, 0)) rfl) (zr_v rfl) ?_
    have h7 : zVd ln t k = 0 := if_neg (by omega)
    rw [hQ]
    exact ⟨rfl, Or.inl ⟨h7, rfl⟩⟩
  · refine w_load (pc' := 12) (v := .int g1517) (m := 1) (ykc_35 (e := (2, .iload_n kF2, 0)) rfl) rfl rfl ?_
    refine w_push (pc' := 14) (v := .int ((Int8.ofInt 7).toInt32)) (m := 2) (ykc_35 (e := (1, .bipush 7, 0)) rfl) rfl rfl ?_
    refine w_igt (ykc_35 (e := (4, .if_icmp .gt 7, 21)) rfl) rfl (fun b1521 => ?_) (fun b1521 => ?_)
    · refine w_alu (pc' := 22) (st' := [.int (Int32.ofInt (-1))]) (ykc_35 (e := (0, .iconst (-1), 0)) rfl) rfl rfl ?_
      refine w_ret (v := (some (.int (Int32.ofInt (-1))))) (ykc_35 (e := (7, .ireturn, 0)) rfl) (zr_v rfl) ?_
      have h7 : zVd ln t k = 0 := if_neg (by omega)
      rw [hQ]
      exact ⟨rfl, Or.inl ⟨h7, rfl⟩⟩
    · refine w_load (pc' := 18) (v := .int g1517) (m := 1) (ykc_35 (e := (2, .iload_n kF2, 0)) rfl) rfl rfl ?_
      refine w_br (pc' := 22) (st' := [.int g1517]) (ykc_35 (e := (4, .goto 4, 22)) rfl) rfl ?_
      refine w_ret (v := (some (.int g1517))) (ykc_35 (e := (7, .ireturn, 0)) rfl) (zr_v rfl) ?_
      have h9 : k < ln ∧ 51 ≤ t k ∧ t k ≤ 55 := by omega
      have h7 : zVd ln t k = t k - 48 := if_pos h9
      rw [hQ]
      exact ⟨rfl, Or.inr ⟨by omega, by rw [zn_of (x := g1517) (k := zVd ln t k) (by omega)]⟩⟩
theorem zc_shape {ph : pm_H} {R C : Nat} {rk : Nat → Bool} {l : Int64} (hS : zSh ph) (hR3 : 3 ≤ R) (hR7 : R ≤ 7) (hC3 : 3 ≤ C) (hC7 : C ≤ 7) (hlr : l = zS rk (R * C)) : zM 36 [.ref 5, .int (zn R), .int (zn C), .long l] ph (fun v q => v = none ∧ zFr [6, 7] [(5, 0), (5, 1), (5, 2), (5, 3), (5, 4)] ph q ∧ zc q 5 4 = some (.long (Int64.ofNat kG0)) ∧ zCl q R C rk) := by
  obtain ⟨Q, hQ⟩ : ∃ Q : Option Value → pm_H → Prop, Q = (fun v q => v = none ∧ zFr [6, 7] [(5, 0), (5, 1), (5, 2), (5, 3), (5, 4)] ph q ∧ zc q 5 4 = some (.long (Int64.ofNat kG0)) ∧ zCl q R C rk) := ⟨_, rfl⟩
  rw [← hQ]
  refine zM_mk fun n D => ?_
  show zW n D 36 Q 0 [some (.ref 5), some (.int (zn R)), some (.int (zn C)), some (.long l), none, none, none] [] ph
  have c_0 : ((Int8.ofInt 49).toInt32).toInt = 49 := by decide
  have c_1 : (Int32.ofInt 0).toInt = 0 := by decide
  have c_2 : (Int32.ofInt 1).toInt = 1 := by decide
  have hRC := zRC49 hR7 hC7
  have tR := znt (k := R) (by omega)
  have tC := znt (k := C) (by omega)
  refine w_load (pc' := 1) (v := .ref 5) (m := 1) (ykc_36 (e := (2, .aload_n kF0, 0)) rfl) rfl rfl ?_
  refine w_load (pc' := 2) (v := .int (zn R)) (m := 1) (ykc_36 (e := (2, .iload_n kF1, 0)) rfl) rfl rfl ?_
  refine w_pf (pc' := 5) (ykc_36 (e := (5, .putfield 46, 0)) rfl) rfl rfl (fun ph1523 u1522 => ?_)
  refine w_load (pc' := 6) (v := .ref 5) (m := 1) (ykc_36 (e := (2, .aload_n kF0, 0)) rfl) rfl rfl ?_
  refine w_load (pc' := 7) (v := .int (zn C)) (m := 1) (ykc_36 (e := (2, .iload_n kF2, 0)) rfl) rfl rfl ?_
  refine w_pf (pc' := 10) (ykc_36 (e := (5, .putfield 50, 0)) rfl) rfl rfl (fun ph1525 u1524 => ?_)
  refine w_load (pc' := 11) (v := .ref 5) (m := 1) (ykc_36 (e := (2, .aload_n kF0, 0)) rfl) rfl rfl ?_
  refine w_load (pc' := 12) (v := .long l) (m := 1) (ykc_36 (e := (2, .lload_n kF3, 0)) rfl) rfl rfl ?_
  refine w_pf (pc' := 15) (ykc_36 (e := (5, .putfield 53, 0)) rfl) rfl rfl (fun ph1527 u1526 => ?_)
  refine w_load (pc' := 16) (v := .ref 5) (m := 1) (ykc_36 (e := (2, .aload_n kF0, 0)) rfl) rfl rfl ?_
  refine w_alu (pc' := 17) (st' := [.long (Int64.ofNat kG0), .ref 5]) (ykc_36 (e := (0, .lconst kG0, 0)) rfl) rfl rfl ?_
  refine w_pf (pc' := 20) (ykc_36 (e := (5, .putfield 57, 0)) rfl) rfl rfl (fun ph1529 u1528 => ?_)
  refine w_load (pc' := 21) (v := .ref 5) (m := 1) (ykc_36 (e := (2, .aload_n kF0, 0)) rfl) rfl rfl ?_
  refine w_alu (pc' := 22) (st' := [.int (Int32.ofInt 0), .ref 5]) (ykc_36 (e := (0, .iconst 0, 0)) rfl) rfl rfl ?_
  refine w_pf (pc' := 25) (ykc_36 (e := (5, .putfield 60, 0)) rfl) rfl rfl (fun ph1531 u1530 => ?_)
  refine w_alu (pc' := 26) (st' := [.int (Int32.ofInt 0)]) (ykc_36 (e := (0, .iconst 0, 0)) rfl) rfl rfl ?_
  refine w_store (pc' := 28) (L' := [some (.ref 5), some (.int (zn R)), some (.int (zn C)), some (.long l), none, some (.int (Int32.ofInt 0)), none]) (st' := []) (m := 2) (ykc_36 (e := (3, .istore 5, 0)) rfl) rfl rfl ?_
  have hl : ∀ (n : Nat), ∀ (i : Nat) (x6 : Option Value) (ph1 : pm_H), (i ≤ R) → (zFr [6, 7] [(5, 0), (5, 1), (5, 2), (5, 3), (5, 4)] ph ph1) → (zc ph1 5 0 = some (.int (zn R))) → (zc ph1 5 1 = some (.int (zn C))) → (zc ph1 5 3 = some (.long l)) → (zc ph1 5 4 = some (.long (Int64.ofNat kG0))) → (zc ph1 5 2 = some (.int (zn (i * C)))) → (∀ f, f < i * C → zc ph1 6 f = some (.int (zn (f / C))) ∧ zc ph1 7 f = some (.int (zn (f % C)))) → zW n D 36 Q 28 [some (.ref 5), some (.int (zn R)), some (.int (zn C)), some (.long l), none, some (.int (zn i)), x6] [] ph1 := by
    intro n
    induction n using Nat.strongRecOn with
    | ind n ih =>
      intro i x6 ph1 hi hf g0 g1 g3 g4 g2 gr
      have ti := znt (k := i) (by omega)
      have hiC : i * C ≤ R * C := Nat.mul_le_mul_right C hi
      have tiC := znt (k := i * C) (by omega)
      have hin : ∀ (n1 : Nat), n1 ≤ n → ∀ (j : Nat) (ph1 : pm_H), j ≤ C → i < R → (zFr [6, 7] [(5, 0), (5, 1), (5, 2), (5, 3), (5, 4)] ph ph1) → (zc ph1 5 0 = some (.int (zn R))) → (zc ph1 5 1 = some (.int (zn C))) → (zc ph1 5 3 = some (.long l)) → (zc ph1 5 4 = some (.long (Int64.ofNat kG0))) → (zc ph1 5 2 = some (.int (zn (i * C + j)))) → (∀ f, f < i * C + j → zc ph1 6 f = some (.int (zn (f / C))) ∧ zc ph1 7 f = some (.int (zn (f % C)))) → zW n1 D 36 Q 40 [some (.ref 5), some (.int (zn R)), some (.int (zn C)), some (.long l), none, some (.int (zn i)), some (.int (zn j))] [] ph1 := by
        intro n1
        induction n1 using Nat.strongRecOn with
        | ind n1 ih1 =>
          intro hn1 j ph1 hj hiR hf g0 g1 g3 g4 g2 gr
          have tj := znt (k := j) (by omega)
          have hi1 : i * C + C ≤ R * C := by
            have h := Nat.mul_le_mul_right C (show i + 1 ≤ R by omega)
            rwa [Nat.add_mul, Nat.one_mul] at h
          have tij := znt (k := i * C + j) (by omega)
          have hdm := fun h => @zdm C i j h
          refine w_load (pc' := 42) (v := .int (zn j)) (m := 2) (ykc_36 (e := (2, .iload 6, 0)) rfl) rfl rfl ?_
          refine w_load (pc' := 43) (v := .ref 5) (m := 1) (ykc_36 (e := (2, .aload_n kF0, 0)) rfl) rfl rfl ?_
          refine w_gf (pc' := 46) (v := .int (zn C)) (ykc_36 (e := (5, .getfield 50, 0)) rfl) rfl g1 rfl ?_
          refine w_ige (ykc_36 (e := (4, .if_icmp .ge 50, 96)) rfl) rfl (fun b1532 => ?_) (fun b1532 => ?_)
          · have e1533 : (zn i) + Int32.ofInt 1 = zn (i + 1) := (zaddN (a := i) (b := 1) (znt (by omega)) c_2 (by omega))
            have te1533 := znt (k := i + 1) (by omega)
            refine w_store (pc' := 99) (L' := [some (.ref 5), some (.int (zn R)), some (.int (zn C)), some (.long l), none, some (.int (zn (i + 1))), some (.int (zn j))]) (st' := []) (m := 3) (ykc_36 (e := (3, .iinc 5 1, 0)) rfl) (by rw [← e1533]; rfl) rfl ?_
            refine w_gb (ykc_36 (e := (4, .goto (-71), 28)) rfl) (fun k1534 hk1534 => ?_)
            have ej : j = C := by omega
            subst ej
            exact ih k1534 (by omega) (i + 1) _ ph1 (by omega) hf g0 g1 g3 g4 (by rw [Nat.add_mul, Nat.one_mul]; exact g2) (by rw [Nat.add_mul, Nat.one_mul]; exact gr)
          · refine w_load (pc' := 50) (v := .ref 5) (m := 1) (ykc_36 (e := (2, .aload_n kF0, 0)) rfl) rfl rfl ?_
            refine w_gf (pc' := 53) (v := .int (zn (i * C + j))) (ykc_36 (e := (5, .getfield 60, 0)) rfl) rfl g2 rfl ?_
            refine w_push (pc' := 55) (v := .int ((Int8.ofInt 49).toInt32)) (m := 2) (ykc_36 (e := (1, .bipush 49, 0)) rfl) rfl rfl ?_
            refine w_ige (ykc_36 (e := (4, .if_icmp .ge 41, 96)) rfl) rfl (fun q => by exfalso; omega) (fun b1535 => ?_)
            refine w_load (pc' := 59) (v := .ref 5) (m := 1) (ykc_36 (e := (2, .aload_n kF0, 0)) rfl) rfl rfl ?_
            refine w_gf (pc' := 62) (v := .ref 6) (ykc_36 (e := (5, .getfield 9, 0)) rfl) rfl ((hf.1 5 5 (by decide) (by decide)).trans (zsg hS zs_5_5)) rfl ?_
            refine w_load (pc' := 63) (v := .ref 5) (m := 1) (ykc_36 (e := (2, .aload_n kF0, 0)) rfl) rfl rfl ?_
            refine w_gf (pc' := 66) (v := .int (zn (i * C + j))) (ykc_36 (e := (5, .getfield 60, 0)) rfl) rfl g2 rfl ?_
            refine w_load (pc' := 68) (v := .int (zn i)) (m := 2) (ykc_36 (e := (2, .iload 5, 0)) rfl) rfl rfl ?_
            refine w_ias (pc' := 69) (k := i * C + j) (ykc_36 (e := (5, .iastore, 0)) rfl) (by omega) rfl (fun ph1537 u1536 => ?_)
            refine w_load (pc' := 70) (v := .ref 5) (m := 1) (ykc_36 (e := (2, .aload_n kF0, 0)) rfl) rfl rfl ?_
            refine w_gf (pc' := 73) (v := .ref 7) (ykc_36 (e := (5, .getfield 15, 0)) rfl) rfl ((u1536.2.1 5 6 (fun q => absurd q.1 (by decide))).trans ((hf.1 5 6 (by decide) (by decide)).trans (zsg hS zs_5_6))) rfl ?_
            refine w_load (pc' := 74) (v := .ref 5) (m := 1) (ykc_36 (e := (2, .aload_n kF0, 0)) rfl) rfl rfl ?_
            refine w_gf (pc' := 77) (v := .int (zn (i * C + j))) (ykc_36 (e := (5, .getfield 60, 0)) rfl) rfl ((u1536.2.1 5 2 (fun q => absurd q.1 (by decide))).trans g2) rfl ?_
            refine w_load (pc' := 79) (v := .int (zn j)) (m := 2) (ykc_36 (e := (2, .iload 6, 0)) rfl) rfl rfl ?_
            refine w_ias (pc' := 80) (k := i * C + j) (ykc_36 (e := (5, .iastore, 0)) rfl) (by omega) rfl (fun ph1539 u1538 => ?_)
            refine w_load (pc' := 81) (v := .ref 5) (m := 1) (ykc_36 (e := (2, .aload_n kF0, 0)) rfl) rfl rfl ?_
            refine w_alu (pc' := 82) (st' := [.ref 5, .ref 5]) (ykc_36 (e := (0, .dup, 0)) rfl) rfl rfl ?_
            refine w_gf (pc' := 85) (v := .int (zn (i * C + j))) (ykc_36 (e := (5, .getfield 60, 0)) rfl) rfl ((u1538.2.1 5 2 (fun q => absurd q.1 (by decide))).trans ((u1536.2.1 5 2 (fun q => absurd q.1 (by decide))).trans g2)) rfl ?_
            refine w_alu (pc' := 86) (st' := [.int (Int32.ofInt 1), .int (zn (i * C + j)), .ref 5]) (ykc_36 (e := (0, .iconst 1, 0)) rfl) rfl rfl ?_
            have e1540 : (zn (i * C + j)) + (Int32.ofInt 1) = zn (i * C + j + 1) := (zaddN (a := i * C + j) (b := 1) (znt (by omega)) c_2 (by omega)) 
            have te1540 := znt (k := i * C + j + 1) (by omega)
            refine w_alu (pc' := 87) (st' := [.int (zn (i * C + j + 1)), .ref 5]) (ykc_36 (e := (0, .iadd, 0)) rfl) (by rw [← e1540]; rfl) rfl ?_
            refine w_pf (pc' := 90) (ykc_36 (e := (5, .putfield 60, 0)) rfl) rfl rfl (fun ph1542 u1541 => ?_)
            have e1543 : (zn j) + Int32.ofInt 1 = zn (j + 1) := (zaddN (a := j) (b := 1) (znt (by omega)) c_2 (by omega))
            have te1543 := znt (k := j + 1) (by omega)
            refine w_store (pc' := 93) (L' := [some (.ref 5), some (.int (zn R)), some (.int (zn C)), some (.long l), none, some (.int (zn i)), some (.int (zn (j + 1)))]) (st' := []) (m := 3) (ykc_36 (e := (3, .iinc 6 1, 0)) rfl) (by rw [← e1543]; rfl) rfl ?_
            refine w_gb (ykc_36 (e := (4, .goto (-53), 40)) rfl) (fun k1544 hk1544 => ?_)
            obtain ⟨d1, d2⟩ := hdm (by omega)
            exact ih1 k1544 hk1544 (by omega) (j + 1) ph1542 (by omega) hiR (zFr_trans hf (zFr_trans (zFr_st u1536 (Or.inl (by simp))) (zFr_trans (zFr_st u1538 (Or.inl (by simp))) (zFr_st u1541 (Or.inr (by simp)))))) ((u1541.2.1 5 0 (fun q => absurd q.2 (by decide))).trans ((u1538.2.1 5 0 (fun q => absurd q.1 (by decide))).trans ((u1536.2.1 5 0 (fun q => absurd q.1 (by decide))).trans g0))) ((u1541.2.1 5 1 (fun q => absurd q.2 (by decide))).trans ((u1538.2.1 5 1 (fun q => absurd q.1 (by decide))).trans ((u1536.2.1 5 1 (fun q => absurd q.1 (by decide))).trans g1))) ((u1541.2.1 5 3 (fun q => absurd q.2 (by decide))).trans ((u1538.2.1 5 3 (fun q => absurd q.1 (by decide))).trans ((u1536.2.1 5 3 (fun q => absurd q.1 (by decide))).trans g3))) ((u1541.2.1 5 4 (fun q => absurd q.2 (by decide))).trans ((u1538.2.1 5 4 (fun q => absurd q.1 (by decide))).trans ((u1536.2.1 5 4 (fun q => absurd q.1 (by decide))).trans g4))) u1541.1 (fun f hf9 => by
              by_cases e : f = i * C + j
              · subst e
                rw [d1, d2]
                exact ⟨(u1541.2.1 6 _ (fun q => absurd q.1 (by decide))).trans ((u1538.2.1 6 _ (fun q => absurd q.1 (by decide))).trans u1536.1), (u1541.2.1 7 _ (fun q => absurd q.1 (by decide))).trans u1538.1⟩
              · have h8 := gr f (by omega)
                exact ⟨(u1541.2.1 6 _ (fun q => absurd q.1 (by decide))).trans ((u1538.2.1 6 _ (fun q => absurd q.1 (by decide))).trans ((u1536.2.1 6 _ (fun q => e q.2)).trans h8.1)), (u1541.2.1 7 _ (fun q => absurd q.1 (by decide))).trans ((u1538.2.1 7 _ (fun q => e q.2)).trans ((u1536.2.1 7 _ (fun q => absurd q.1 (by decide))).trans h8.2))⟩)
      refine w_load (pc' := 30) (v := .int (zn i)) (m := 2) (ykc_36 (e := (2, .iload 5, 0)) rfl) rfl rfl ?_
      refine w_load (pc' := 31) (v := .ref 5) (m := 1) (ykc_36 (e := (2, .aload_n kF0, 0)) rfl) rfl rfl ?_
      refine w_gf (pc' := 34) (v := .int (zn R)) (ykc_36 (e := (5, .getfield 46, 0)) rfl) rfl g0 rfl ?_
      refine w_ige (ykc_36 (e := (4, .if_icmp .ge 68, 102)) rfl) rfl (fun b1545 => ?_) (fun b1545 => ?_)
      · refine w_ret (v := none) (ykc_36 (e := (7, .return_, 0)) rfl) (zr_v rfl) ?_
        have ei : i = R := by omega
        subst ei
        rw [hQ]
        exact ⟨rfl, hf, g4, g0, g1, g2, by rw [← hlr]; exact g3, gr, hR3, hR7, hC3, hC7⟩
      · refine w_alu (pc' := 38) (st' := [.int (Int32.ofInt 0)]) (ykc_36 (e := (0, .iconst 0, 0)) rfl) rfl rfl ?_
        refine w_store (pc' := 40) (L' := [some (.ref 5), some (.int (zn R)), some (.int (zn C)), some (.long l), none, some (.int (zn i)), some (.int (Int32.ofInt 0))]) (st' := []) (m := 2) (ykc_36 (e := (3, .istore 6, 0)) rfl) rfl rfl ?_
        exact hin _ (Nat.le_refl _) 0 ph1 (Nat.zero_le _) (by omega) hf g0 g1 g3 g4 g2 gr
  exact hl n 0 _ ph1531 (Nat.zero_le _) (zFr_trans (zFr_st u1522 (Or.inr (by simp))) (zFr_trans (zFr_st u1524 (Or.inr (by simp))) (zFr_trans (zFr_st u1526 (Or.inr (by simp))) (zFr_trans (zFr_st u1528 (Or.inr (by simp))) (zFr_st u1530 (Or.inr (by simp))))))) ((u1530.2.1 5 0 (fun q => absurd q.2 (by decide))).trans ((u1528.2.1 5 0 (fun q => absurd q.2 (by decide))).trans ((u1526.2.1 5 0 (fun q => absurd q.2 (by decide))).trans ((u1524.2.1 5 0 (fun q => absurd q.2 (by decide))).trans u1522.1)))) ((u1530.2.1 5 1 (fun q => absurd q.2 (by decide))).trans ((u1528.2.1 5 1 (fun q => absurd q.2 (by decide))).trans ((u1526.2.1 5 1 (fun q => absurd q.2 (by decide))).trans u1524.1))) ((u1530.2.1 5 3 (fun q => absurd q.2 (by decide))).trans ((u1528.2.1 5 3 (fun q => absurd q.2 (by decide))).trans u1526.1)) ((u1530.2.1 5 4 (fun q => absurd q.2 (by decide))).trans u1528.1) (by rw [Nat.zero_mul]; exact u1530.1) (fun f hf9 => absurd hf9 (by rw [Nat.zero_mul]; exact Nat.not_lt_zero f))
theorem zc_vread {ph : pm_H} {ln : Nat} {t : Nat → Nat} (hS : zSh ph) (hT : zTc ph ln t) : zM 34 [.ref 5, .ref 1] ph (fun v q => (zVk ln t ∧ v = some (.int (Int32.ofInt (-1))) ∧ zFr [6, 7] [(5, 0), (5, 1), (5, 2), (5, 3), (5, 4)] ph q ∧ zc q 5 4 = some (.long (Int64.ofNat kG0)) ∧ zCl q (zVd ln t 0) (zVd ln t 1) (zVr t)) ∨ (¬ zVk ln t ∧ ph = q ∧ ∃ k : Nat, v = some (.int (zn k)) ∧ (k : Int) = -1 - zVa ln t ∧ k < 100)) := by
  obtain ⟨Q, hQ⟩ : ∃ Q : Option Value → pm_H → Prop, Q = (fun v q => (zVk ln t ∧ v = some (.int (Int32.ofInt (-1))) ∧ zFr [6, 7] [(5, 0), (5, 1), (5, 2), (5, 3), (5, 4)] ph q ∧ zc q 5 4 = some (.long (Int64.ofNat kG0)) ∧ zCl q (zVd ln t 0) (zVd ln t 1) (zVr t)) ∨ (¬ zVk ln t ∧ ph = q ∧ ∃ k : Nat, v = some (.int (zn k)) ∧ (k : Int) = -1 - zVa ln t ∧ k < 100)) := ⟨_, rfl⟩
  rw [← hQ]
  refine zM_mk fun n D => ?_
  show zW n D 34 Q 0 [some (.ref 5), some (.ref 1), none, none, none, none, none, none, none] [] ph
  have c_0 : ((Int8.ofInt 35).toInt32).toInt = 35 := by decide
  have c_1 : ((Int8.ofInt 46).toInt32).toInt = 46 := by decide
  have c_2 : (Int32.ofInt (-1)).toInt = -1 := by decide
  have c_3 : (Int32.ofInt 0).toInt = 0 := by decide
  have c_4 : (Int32.ofInt 1).toInt = 1 := by decide
  have c_5 : (Int32.ofInt 2).toInt = 2 := by decide
  have hT0 := hT
  obtain ⟨gn, hn80, gt⟩ := hT
  have tn := znt (k := ln) (by omega)
  refine w_load (pc' := 1) (v := .ref 1) (m := 1) (ykc_34 (e := (2, .aload_n kF1, 0)) rfl) rfl rfl ?_
  refine w_alu (pc' := 2) (st' := [.int (Int32.ofInt 0), .ref 1]) (ykc_34 (e := (0, .iconst 0, 0)) rfl) rfl rfl ?_
  refine w_cs (as := [.ref 1, .int (Int32.ofInt 0)]) (r := []) (ykc_34 (e := (6, .invokestatic 29, 0)) rfl) rfl rfl rfl rfl (zc_side hS hT0 (k := 0) (by omega)) (fun v1546 ph1547 hv => ?_)
  rcases hv with ⟨rfl, ⟨z0, rfl⟩ | ⟨z0, rfl⟩⟩
  · show zW n D 34 Q 5 [some (.ref 5), some (.ref 1), none, none, none, none, none, none, none] [.int (Int32.ofInt (-1))] ph
    refine w_store (pc' := 6) (L' := [some (.ref 5), some (.ref 1), some (.int (Int32.ofInt (-1))), none, none, none, none, none, none]) (st' := []) (m := 1) (ykc_34 (e := (3, .istore_n kF2, 0)) rfl) rfl rfl ?_
    refine w_load (pc' := 7) (v := .int (Int32.ofInt (-1))) (m := 1) (ykc_34 (e := (2, .iload_n kF2, 0)) rfl) rfl rfl ?_
    refine w_zge (ykc_34 (e := (4, .ifCond .ge 5, 12)) rfl) rfl (fun q => by exfalso; omega) (fun b1548 => ?_)
    refine w_alu (pc' := 11) (st' := [.int (Int32.ofInt 0)]) (ykc_34 (e := (0, .iconst 0, 0)) rfl) rfl rfl ?_
    refine w_ret (v := (some (.int (Int32.ofInt 0)))) (ykc_34 (e := (7, .ireturn, 0)) rfl) (zr_v rfl) ?_
    rw [hQ]
    exact Or.inr ⟨(zVa_0 z0).2, rfl, 0, rfl, by rw [(zVa_0 z0).1]; omega, by omega⟩
  · have b_z0 := @zVd_b ln 0 t
    have t_z0 := znt (k := zVd ln t 0) (by omega)
    show zW n D 34 Q 5 [some (.ref 5), some (.ref 1), none, none, none, none, none, none, none] [.int (zn (zVd ln t 0))] ph
    refine w_store (pc' := 6) (L' := [some (.ref 5), some (.ref 1), some (.int (zn (zVd ln t 0))), none, none, none, none, none, none]) (st' := []) (m := 1) (ykc_34 (e := (3, .istore_n kF2, 0)) rfl) rfl rfl ?_
    refine w_load (pc' := 7) (v := .int (zn (zVd ln t 0))) (m := 1) (ykc_34 (e := (2, .iload_n kF2, 0)) rfl) rfl rfl ?_
    refine w_zge (ykc_34 (e := (4, .ifCond .ge 5, 12)) rfl) rfl (fun b1549 => ?_) (fun q => by exfalso; omega)
    refine w_load (pc' := 13) (v := .ref 1) (m := 1) (ykc_34 (e := (2, .aload_n kF1, 0)) rfl) rfl rfl ?_
    refine w_alu (pc' := 14) (st' := [.int (Int32.ofInt 1), .ref 1]) (ykc_34 (e := (0, .iconst 1, 0)) rfl) rfl rfl ?_
    refine w_cs (as := [.ref 1, .int (Int32.ofInt 1)]) (r := []) (ykc_34 (e := (6, .invokestatic 29, 0)) rfl) rfl rfl rfl rfl (zc_side hS hT0 (k := 1) (by omega)) (fun v1550 ph1551 hv => ?_)
    rcases hv with ⟨rfl, ⟨z1, rfl⟩ | ⟨z1, rfl⟩⟩
    · show zW n D 34 Q 17 [some (.ref 5), some (.ref 1), some (.int (zn (zVd ln t 0))), none, none, none, none, none, none] [.int (Int32.ofInt (-1))] ph
      refine w_store (pc' := 18) (L' := [some (.ref 5), some (.ref 1), some (.int (zn (zVd ln t 0))), some (.int (Int32.ofInt (-1))), none, none, none, none, none]) (st' := []) (m := 1) (ykc_34 (e := (3, .istore_n kF3, 0)) rfl) rfl rfl ?_
      refine w_load (pc' := 19) (v := .int (Int32.ofInt (-1))) (m := 1) (ykc_34 (e := (2, .iload_n kF3, 0)) rfl) rfl rfl ?_
      refine w_zge (ykc_34 (e := (4, .ifCond .ge 5, 24)) rfl) rfl (fun q => by exfalso; omega) (fun b1552 => ?_)
      refine w_alu (pc' := 23) (st' := [.int (Int32.ofInt 1)]) (ykc_34 (e := (0, .iconst 1, 0)) rfl) rfl rfl ?_
      refine w_ret (v := (some (.int (Int32.ofInt 1)))) (ykc_34 (e := (7, .ireturn, 0)) rfl) (zr_v rfl) ?_
      rw [hQ]
      exact Or.inr ⟨(zVa_1 z0 z1).2, rfl, 1, rfl, by rw [(zVa_1 z0 z1).1]; omega, by omega⟩
    · have b_z1 := @zVd_b ln 1 t
      have t_z1 := znt (k := zVd ln t 1) (by omega)
      show zW n D 34 Q 17 [some (.ref 5), some (.ref 1), some (.int (zn (zVd ln t 0))), none, none, none, none, none, none] [.int (zn (zVd ln t 1))] ph
      refine w_store (pc' := 18) (L' := [some (.ref 5), some (.ref 1), some (.int (zn (zVd ln t 0))), some (.int (zn (zVd ln t 1))), none, none, none, none, none]) (st' := []) (m := 1) (ykc_34 (e := (3, .istore_n kF3, 0)) rfl) rfl rfl ?_
      refine w_load (pc' := 19) (v := .int (zn (zVd ln t 1))) (m := 1) (ykc_34 (e := (2, .iload_n kF3, 0)) rfl) rfl rfl ?_
      refine w_zge (ykc_34 (e := (4, .ifCond .ge 5, 24)) rfl) rfl (fun b1553 => ?_) (fun q => by exfalso; omega)
      refine w_alu (pc' := 25) (st' := [.long (Int64.ofNat kG0)]) (ykc_34 (e := (0, .lconst kG0, 0)) rfl) rfl rfl ?_
      refine w_store (pc' := 27) (L' := [some (.ref 5), some (.ref 1), some (.int (zn (zVd ln t 0))), some (.int (zn (zVd ln t 1))), some (.long (Int64.ofNat kG0)), none, none, none, none]) (st' := []) (m := 2) (ykc_34 (e := (3, .lstore 4, 0)) rfl) rfl rfl ?_
      refine w_load (pc' := 28) (v := .int (zn (zVd ln t 0))) (m := 1) (ykc_34 (e := (2, .iload_n kF2, 0)) rfl) rfl rfl ?_
      refine w_load (pc' := 29) (v := .int (zn (zVd ln t 1))) (m := 1) (ykc_34 (e := (2, .iload_n kF3, 0)) rfl) rfl rfl ?_
      have hN49 : zVd ln t 0 * zVd ln t 1 ≤ 49 := @zVN_b ln t
      have e1554 : (zn (zVd ln t 0)) * (zn (zVd ln t 1)) = zn (zVd ln t 0 * zVd ln t 1) := zn_of (zmulN (by omega) (by omega) (by omega) (by omega))
      have te1554 := znt (k := zVd ln t 0 * zVd ln t 1) (by omega)
      refine w_alu (pc' := 30) (st' := [.int (zn (zVd ln t 0 * zVd ln t 1))]) (ykc_34 (e := (0, .imul, 0)) rfl) (by rw [← e1554]; rfl) rfl ?_
      refine w_store (pc' := 32) (L' := [some (.ref 5), some (.ref 1), some (.int (zn (zVd ln t 0))), some (.int (zn (zVd ln t 1))), some (.long (Int64.ofNat kG0)), none, some (.int (zn (zVd ln t 0 * zVd ln t 1))), none, none]) (st' := []) (m := 2) (ykc_34 (e := (3, .istore 6, 0)) rfl) rfl rfl ?_
      refine w_alu (pc' := 33) (st' := [.int (Int32.ofInt 0)]) (ykc_34 (e := (0, .iconst 0, 0)) rfl) rfl rfl ?_
      refine w_store (pc' := 35) (L' := [some (.ref 5), some (.ref 1), some (.int (zn (zVd ln t 0))), some (.int (zn (zVd ln t 1))), some (.long (Int64.ofNat kG0)), none, some (.int (zn (zVd ln t 0 * zVd ln t 1))), some (.int (Int32.ofInt 0)), none]) (st' := []) (m := 2) (ykc_34 (e := (3, .istore 7, 0)) rfl) rfl rfl ?_
      have hl : ∀ (n : Nat), ∀ (f : Nat) (x8 : Option Value), (f ≤ zVd ln t 0 * zVd ln t 1) → (∀ i, i < f → zVs ln t (2 + i) = true) → zW n D 34 Q 35 [some (.ref 5), some (.ref 1), some (.int (zn (zVd ln t 0))), some (.int (zn (zVd ln t 1))), some (.long (zS (zVr t) f)), none, some (.int (zn (zVd ln t 0 * zVd ln t 1))), some (.int (zn f)), x8] [] ph := by
        intro n
        induction n using Nat.strongRecOn with
        | ind n ih =>
          intro f x8 hf hg
          have tf := znt (k := f) (by omega)
          refine w_load (pc' := 37) (v := .int (zn f)) (m := 2) (ykc_34 (e := (2, .iload 7, 0)) rfl) rfl rfl ?_
          refine w_load (pc' := 39) (v := .int (zn (zVd ln t 0 * zVd ln t 1))) (m := 2) (ykc_34 (e := (2, .iload 6, 0)) rfl) rfl rfl ?_
          refine w_ige (ykc_34 (e := (4, .if_icmp .ge 54, 93)) rfl) rfl (fun b1555 => ?_) (fun b1555 => ?_)
          · refine w_load (pc' := 94) (v := .ref 1) (m := 1) (ykc_34 (e := (2, .aload_n kF1, 0)) rfl) rfl rfl ?_
            refine w_cv (as := [.ref 1]) (r := []) (ykc_34 (e := (6, .invokevirtual 39, 0)) rfl) rfl rfl rfl rfl (zc_tsize gn) (fun v1556 ph1557 hv => ?_)
            obtain ⟨rfl, rfl⟩ := hv
            show zW n D 34 Q 97 [some (.ref 5), some (.ref 1), some (.int (zn (zVd ln t 0))), some (.int (zn (zVd ln t 1))), some (.long (zS (zVr t) f)), none, some (.int (zn (zVd ln t 0 * zVd ln t 1))), some (.int (zn f)), x8] [.int (zn ln)] ph
            refine w_alu (pc' := 98) (st' := [.int (Int32.ofInt 2), .int (zn ln)]) (ykc_34 (e := (0, .iconst 2, 0)) rfl) rfl rfl ?_
            refine w_load (pc' := 100) (v := .int (zn (zVd ln t 0 * zVd ln t 1))) (m := 2) (ykc_34 (e := (2, .iload 6, 0)) rfl) rfl rfl ?_
            have e1558 : (Int32.ofInt 2) + (zn (zVd ln t 0 * zVd ln t 1)) = zn (2 + (zVd ln t 0 * zVd ln t 1)) := (zaddN (a := 2) (b := zVd ln t 0 * zVd ln t 1) c_5 (znt (by omega)) (by omega)) 
            have te1558 := znt (k := 2 + (zVd ln t 0 * zVd ln t 1)) (by omega)
            refine w_alu (pc' := 101) (st' := [.int (zn (2 + (zVd ln t 0 * zVd ln t 1))), .int (zn ln)]) (ykc_34 (e := (0, .iadd, 0)) rfl) (by rw [← e1558]; rfl) rfl ?_
            refine w_ile (ykc_34 (e := (4, .if_icmp .le 8, 109)) rfl) rfl (fun b1559 => ?_) (fun b1559 => ?_)
            · refine w_load (pc' := 110) (v := .ref 5) (m := 1) (ykc_34 (e := (2, .aload_n kF0, 0)) rfl) rfl rfl ?_
              refine w_load (pc' := 111) (v := .int (zn (zVd ln t 0))) (m := 1) (ykc_34 (e := (2, .iload_n kF2, 0)) rfl) rfl rfl ?_
              refine w_load (pc' := 112) (v := .int (zn (zVd ln t 1))) (m := 1) (ykc_34 (e := (2, .iload_n kF3, 0)) rfl) rfl rfl ?_
              refine w_load (pc' := 114) (v := .long (zS (zVr t) f)) (m := 2) (ykc_34 (e := (2, .lload 4, 0)) rfl) rfl rfl ?_
              have ef : f = zVd ln t 0 * zVd ln t 1 := by omega
              refine w_cv (as := [.ref 5, .int (zn (zVd ln t 0)), .int (zn (zVd ln t 1)), .long (zS (zVr t) f)]) (r := []) (ykc_34 (e := (6, .invokevirtual 25, 0)) rfl) rfl rfl rfl rfl (zc_shape (rk := zVr t) hS (by omega) (by omega) (by omega) (by omega) (by rw [ef])) (fun v1560 ph1561 hv => ?_)
              obtain ⟨rfl, fs, g54, gL⟩ := hv
              show zW n D 34 Q 117 [some (.ref 5), some (.ref 1), some (.int (zn (zVd ln t 0))), some (.int (zn (zVd ln t 1))), some (.long (zS (zVr t) f)), none, some (.int (zn (zVd ln t 0 * zVd ln t 1))), some (.int (zn f)), x8] [] ph1561
              refine w_alu (pc' := 118) (st' := [.int (Int32.ofInt (-1))]) (ykc_34 (e := (0, .iconst (-1), 0)) rfl) rfl rfl ?_
              refine w_ret (v := (some (.int (Int32.ofInt (-1))))) (ykc_34 (e := (7, .ireturn, 0)) rfl) (zr_v rfl) ?_
              have eN : f = zVN ln t := by unfold zVN; omega
              have h8 := zVa_4 z0 z1 (by rw [← eN]; exact hg) (show ¬ 2 + zVN ln t < ln by unfold zVN; omega)
              rw [hQ]
              exact Or.inl ⟨h8.2, rfl, fs, g54, gL⟩
            · refine w_alu (pc' := 105) (st' := [.int (Int32.ofInt 2)]) (ykc_34 (e := (0, .iconst 2, 0)) rfl) rfl rfl ?_
              refine w_load (pc' := 107) (v := .int (zn (zVd ln t 0 * zVd ln t 1))) (m := 2) (ykc_34 (e := (2, .iload 6, 0)) rfl) rfl rfl ?_
              have e1562 : (Int32.ofInt 2) + (zn (zVd ln t 0 * zVd ln t 1)) = zn (2 + (zVd ln t 0 * zVd ln t 1)) := (zaddN (a := 2) (b := zVd ln t 0 * zVd ln t 1) c_5 (znt (by omega)) (by omega)) 
              have te1562 := znt (k := 2 + (zVd ln t 0 * zVd ln t 1)) (by omega)
              refine w_alu (pc' := 108) (st' := [.int (zn (2 + (zVd ln t 0 * zVd ln t 1)))]) (ykc_34 (e := (0, .iadd, 0)) rfl) (by rw [← e1562]; rfl) rfl ?_
              refine w_ret (v := (some (.int (zn (2 + (zVd ln t 0 * zVd ln t 1)))))) (ykc_34 (e := (7, .ireturn, 0)) rfl) (zr_v rfl) ?_
              have eN : f = zVN ln t := by unfold zVN; omega
              have h8 := zVa_3 z0 z1 (by rw [← eN]; exact hg) (show 2 + zVN ln t < ln by unfold zVN; omega)
              rw [hQ]
              exact Or.inr ⟨h8.2, rfl, 2 + zVd ln t 0 * zVd ln t 1, rfl, by rw [h8.1]; unfold zVN; omega, by omega⟩
          · refine w_load (pc' := 43) (v := .ref 1) (m := 1) (ykc_34 (e := (2, .aload_n kF1, 0)) rfl) rfl rfl ?_
            refine w_alu (pc' := 44) (st' := [.int (Int32.ofInt 2), .ref 1]) (ykc_34 (e := (0, .iconst 2, 0)) rfl) rfl rfl ?_
            refine w_load (pc' := 46) (v := .int (zn f)) (m := 2) (ykc_34 (e := (2, .iload 7, 0)) rfl) rfl rfl ?_
            have e1563 : (Int32.ofInt 2) + (zn f) = zn (2 + f) := (zaddN (a := 2) (b := f) c_5 (znt (by omega)) (by omega)) 
            have te1563 := znt (k := 2 + f) (by omega)
            refine w_alu (pc' := 47) (st' := [.int (zn (2 + f)), .ref 1]) (ykc_34 (e := (0, .iadd, 0)) rfl) (by rw [← e1563]; rfl) rfl ?_
            refine w_cv (as := [.ref 1, .int (zn (2 + f))]) (r := []) (ykc_34 (e := (6, .invokevirtual 33, 0)) rfl) rfl rfl rfl rfl (zc_at hS hT0 (k := 2 + f) (by omega)) (fun v1565 ph1566 hv => ?_)
            obtain ⟨rfl, g1564, rfl, e_g1564⟩ := hv
            have b_g1564 := @zTi_b ln (2 + f) t (fun h => (gt _ h).2)
            have d_g1564 := @zTi_c ln (2 + f) t
            show zW n D 34 Q 50 [some (.ref 5), some (.ref 1), some (.int (zn (zVd ln t 0))), some (.int (zn (zVd ln t 1))), some (.long (zS (zVr t) f)), none, some (.int (zn (zVd ln t 0 * zVd ln t 1))), some (.int (zn f)), x8] [.int g1564] ph
            refine w_store (pc' := 52) (L' := [some (.ref 5), some (.ref 1), some (.int (zn (zVd ln t 0))), some (.int (zn (zVd ln t 1))), some (.long (zS (zVr t) f)), none, some (.int (zn (zVd ln t 0 * zVd ln t 1))), some (.int (zn f)), some (.int g1564)]) (st' := []) (m := 2) (ykc_34 (e := (3, .istore 8, 0)) rfl) rfl rfl ?_
            refine w_load (pc' := 54) (v := .int g1564) (m := 2) (ykc_34 (e := (2, .iload 8, 0)) rfl) rfl rfl ?_
            refine w_push (pc' := 56) (v := .int ((Int8.ofInt 46).toInt32)) (m := 2) (ykc_34 (e := (1, .bipush 46, 0)) rfl) rfl rfl ?_
            refine w_ieq (ykc_34 (e := (4, .if_icmp .eq 15, 71)) rfl) rfl (fun b1567 => ?_) (fun b1567 => ?_)
            · refine w_load (pc' := 73) (v := .int g1564) (m := 2) (ykc_34 (e := (2, .iload 8, 0)) rfl) rfl rfl ?_
              refine w_push (pc' := 75) (v := .int ((Int8.ofInt 35).toInt32)) (m := 2) (ykc_34 (e := (1, .bipush 35, 0)) rfl) rfl rfl ?_
              refine w_ine (ykc_34 (e := (4, .if_icmp .ne 12, 87)) rfl) rfl (fun b1568 => ?_) (fun b1568 => ?_)
              · have e1569 : (zn f) + Int32.ofInt 1 = zn (f + 1) := (zaddN (a := f) (b := 1) (znt (by omega)) c_4 (by omega))
                have te1569 := znt (k := f + 1) (by omega)
                refine w_store (pc' := 90) (L' := [some (.ref 5), some (.ref 1), some (.int (zn (zVd ln t 0))), some (.int (zn (zVd ln t 1))), some (.long (zS (zVr t) f)), none, some (.int (zn (zVd ln t 0 * zVd ln t 1))), some (.int (zn (f + 1))), some (.int g1564)]) (st' := []) (m := 3) (ykc_34 (e := (3, .iinc 7 1, 0)) rfl) (by rw [← e1569]; rfl) rfl ?_
                refine w_gb (ykc_34 (e := (4, .goto (-55), 35)) rfl) (fun k1570 hk1570 => ?_)
                have hgood : 2 + f < ln ∧ (t (2 + f) = 46 ∨ t (2 + f) = 35) := by omega
                have er : zVr t f = false := decide_eq_false (by omega)
                have es : zS (zVr t) (f + 1) = zS (zVr t) f := by
                  rw [zS_s, er]
                  exact zor0 _
                have h9 := ih k1570 hk1570 (f + 1) (some (.int g1564)) (by omega) (fun i hi => by
                  by_cases e : i = f
                  · subst e; exact zVs_1 hgood
                  · exact hg i (by omega))
                rw [es] at h9
                exact h9
              · refine w_load (pc' := 80) (v := .long (zS (zVr t) f)) (m := 2) (ykc_34 (e := (2, .lload 4, 0)) rfl) rfl rfl ?_
                refine w_alu (pc' := 81) (st' := [.long (Int64.ofNat kG1), .long (zS (zVr t) f)]) (ykc_34 (e := (0, .lconst kG1, 0)) rfl) rfl rfl ?_
                refine w_load (pc' := 83) (v := .int (zn f)) (m := 2) (ykc_34 (e := (2, .iload 7, 0)) rfl) rfl rfl ?_
                refine w_alu (pc' := 84) (st' := [.long ((Int64.ofNat kG1) <<< ((zn f).toInt64 &&& 63)), .long (zS (zVr t) f)]) (ykc_34 (e := (0, .lshl, 0)) rfl) rfl rfl ?_
                refine w_alu (pc' := 85) (st' := [.long ((zS (zVr t) f) ||| ((Int64.ofNat kG1) <<< ((zn f).toInt64 &&& 63)))]) (ykc_34 (e := (0, .lor, 0)) rfl) rfl rfl ?_
                refine w_store (pc' := 87) (L' := [some (.ref 5), some (.ref 1), some (.int (zn (zVd ln t 0))), some (.int (zn (zVd ln t 1))), some (.long ((zS (zVr t) f) ||| ((Int64.ofNat kG1) <<< ((zn f).toInt64 &&& 63)))), none, some (.int (zn (zVd ln t 0 * zVd ln t 1))), some (.int (zn f)), some (.int g1564)]) (st' := []) (m := 2) (ykc_34 (e := (3, .lstore 4, 0)) rfl) rfl rfl ?_
                have e1571 : (zn f) + Int32.ofInt 1 = zn (f + 1) := (zaddN (a := f) (b := 1) (znt (by omega)) c_4 (by omega))
                have te1571 := znt (k := f + 1) (by omega)
                refine w_store (pc' := 90) (L' := [some (.ref 5), some (.ref 1), some (.int (zn (zVd ln t 0))), some (.int (zn (zVd ln t 1))), some (.long ((zS (zVr t) f) ||| ((Int64.ofNat kG1) <<< ((zn f).toInt64 &&& 63)))), none, some (.int (zn (zVd ln t 0 * zVd ln t 1))), some (.int (zn (f + 1))), some (.int g1564)]) (st' := []) (m := 3) (ykc_34 (e := (3, .iinc 7 1, 0)) rfl) (by rw [← e1571]; rfl) rfl ?_
                refine w_gb (ykc_34 (e := (4, .goto (-55), 35)) rfl) (fun k1572 hk1572 => ?_)
                have hgood : 2 + f < ln ∧ (t (2 + f) = 46 ∨ t (2 + f) = 35) := by omega
                have er : zVr t f = true := decide_eq_true (by omega)
                have es : zS (zVr t) (f + 1) = (zS (zVr t) f) ||| ((Int64.ofNat kG1) <<< ((zn f).toInt64 &&& 63)) := by
                  rw [zS_s, er]
                  rfl
                have h9 := ih k1572 hk1572 (f + 1) (some (.int g1564)) (by omega) (fun i hi => by
                  by_cases e : i = f
                  · subst e; exact zVs_1 hgood
                  · exact hg i (by omega))
                rw [es] at h9
                exact h9
            · refine w_load (pc' := 61) (v := .int g1564) (m := 2) (ykc_34 (e := (2, .iload 8, 0)) rfl) rfl rfl ?_
              refine w_push (pc' := 63) (v := .int ((Int8.ofInt 35).toInt32)) (m := 2) (ykc_34 (e := (1, .bipush 35, 0)) rfl) rfl rfl ?_
              refine w_ieq (ykc_34 (e := (4, .if_icmp .eq 8, 71)) rfl) rfl (fun b1573 => ?_) (fun b1573 => ?_)
              · refine w_load (pc' := 73) (v := .int g1564) (m := 2) (ykc_34 (e := (2, .iload 8, 0)) rfl) rfl rfl ?_
                refine w_push (pc' := 75) (v := .int ((Int8.ofInt 35).toInt32)) (m := 2) (ykc_34 (e := (1, .bipush 35, 0)) rfl) rfl rfl ?_
                refine w_ine (ykc_34 (e := (4, .if_icmp .ne 12, 87)) rfl) rfl (fun b1574 => ?_) (fun b1574 => ?_)
                · have e1575 : (zn f) + Int32.ofInt 1 = zn (f + 1) := (zaddN (a := f) (b := 1) (znt (by omega)) c_4 (by omega))
                  have te1575 := znt (k := f + 1) (by omega)
                  refine w_store (pc' := 90) (L' := [some (.ref 5), some (.ref 1), some (.int (zn (zVd ln t 0))), some (.int (zn (zVd ln t 1))), some (.long (zS (zVr t) f)), none, some (.int (zn (zVd ln t 0 * zVd ln t 1))), some (.int (zn (f + 1))), some (.int g1564)]) (st' := []) (m := 3) (ykc_34 (e := (3, .iinc 7 1, 0)) rfl) (by rw [← e1575]; rfl) rfl ?_
                  refine w_gb (ykc_34 (e := (4, .goto (-55), 35)) rfl) (fun k1576 hk1576 => ?_)
                  have hgood : 2 + f < ln ∧ (t (2 + f) = 46 ∨ t (2 + f) = 35) := by omega
                  have er : zVr t f = false := decide_eq_false (by omega)
                  have es : zS (zVr t) (f + 1) = zS (zVr t) f := by
                    rw [zS_s, er]
                    exact zor0 _
                  have h9 := ih k1576 hk1576 (f + 1) (some (.int g1564)) (by omega) (fun i hi => by
                    by_cases e : i = f
                    · subst e; exact zVs_1 hgood
                    · exact hg i (by omega))
                  rw [es] at h9
                  exact h9
                · refine w_load (pc' := 80) (v := .long (zS (zVr t) f)) (m := 2) (ykc_34 (e := (2, .lload 4, 0)) rfl) rfl rfl ?_
                  refine w_alu (pc' := 81) (st' := [.long (Int64.ofNat kG1), .long (zS (zVr t) f)]) (ykc_34 (e := (0, .lconst kG1, 0)) rfl) rfl rfl ?_
                  refine w_load (pc' := 83) (v := .int (zn f)) (m := 2) (ykc_34 (e := (2, .iload 7, 0)) rfl) rfl rfl ?_
                  refine w_alu (pc' := 84) (st' := [.long ((Int64.ofNat kG1) <<< ((zn f).toInt64 &&& 63)), .long (zS (zVr t) f)]) (ykc_34 (e := (0, .lshl, 0)) rfl) rfl rfl ?_
                  refine w_alu (pc' := 85) (st' := [.long ((zS (zVr t) f) ||| ((Int64.ofNat kG1) <<< ((zn f).toInt64 &&& 63)))]) (ykc_34 (e := (0, .lor, 0)) rfl) rfl rfl ?_
                  refine w_store (pc' := 87) (L' := [some (.ref 5), some (.ref 1), some (.int (zn (zVd ln t 0))), some (.int (zn (zVd ln t 1))), some (.long ((zS (zVr t) f) ||| ((Int64.ofNat kG1) <<< ((zn f).toInt64 &&& 63)))), none, some (.int (zn (zVd ln t 0 * zVd ln t 1))), some (.int (zn f)), some (.int g1564)]) (st' := []) (m := 2) (ykc_34 (e := (3, .lstore 4, 0)) rfl) rfl rfl ?_
                  have e1577 : (zn f) + Int32.ofInt 1 = zn (f + 1) := (zaddN (a := f) (b := 1) (znt (by omega)) c_4 (by omega))
                  have te1577 := znt (k := f + 1) (by omega)
                  refine w_store (pc' := 90) (L' := [some (.ref 5), some (.ref 1), some (.int (zn (zVd ln t 0))), some (.int (zn (zVd ln t 1))), some (.long ((zS (zVr t) f) ||| ((Int64.ofNat kG1) <<< ((zn f).toInt64 &&& 63)))), none, some (.int (zn (zVd ln t 0 * zVd ln t 1))), some (.int (zn (f + 1))), some (.int g1564)]) (st' := []) (m := 3) (ykc_34 (e := (3, .iinc 7 1, 0)) rfl) (by rw [← e1577]; rfl) rfl ?_
                  refine w_gb (ykc_34 (e := (4, .goto (-55), 35)) rfl) (fun k1578 hk1578 => ?_)
                  have hgood : 2 + f < ln ∧ (t (2 + f) = 46 ∨ t (2 + f) = 35) := by omega
                  have er : zVr t f = true := decide_eq_true (by omega)
                  have es : zS (zVr t) (f + 1) = (zS (zVr t) f) ||| ((Int64.ofNat kG1) <<< ((zn f).toInt64 &&& 63)) := by
                    rw [zS_s, er]
                    rfl
                  have h9 := ih k1578 hk1578 (f + 1) (some (.int g1564)) (by omega) (fun i hi => by
                    by_cases e : i = f
                    · subst e; exact zVs_1 hgood
                    · exact hg i (by omega))
                  rw [es] at h9
                  exact h9
              · refine w_alu (pc' := 67) (st' := [.int (Int32.ofInt 2)]) (ykc_34 (e := (0, .iconst 2, 0)) rfl) rfl rfl ?_
                refine w_load (pc' := 69) (v := .int (zn f)) (m := 2) (ykc_34 (e := (2, .iload 7, 0)) rfl) rfl rfl ?_
                have e1579 : (Int32.ofInt 2) + (zn f) = zn (2 + f) := (zaddN (a := 2) (b := f) c_5 (znt (by omega)) (by omega)) 
                have te1579 := znt (k := 2 + f) (by omega)
                refine w_alu (pc' := 70) (st' := [.int (zn (2 + f))]) (ykc_34 (e := (0, .iadd, 0)) rfl) (by rw [← e1579]; rfl) rfl ?_
                refine w_ret (v := (some (.int (zn (2 + f))))) (ykc_34 (e := (7, .ireturn, 0)) rfl) (zr_v rfl) ?_
                have hbad : ¬ (2 + f < ln ∧ (t (2 + f) = 46 ∨ t (2 + f) = 35)) := by
                  intro h9
                  omega
                have h8 := zVa_2 z0 z1 hg (zVs_0 hbad) (show f < zVN ln t by unfold zVN; omega)
                rw [hQ]
                exact Or.inr ⟨h8.2, rfl, 2 + f, rfl, by rw [h8.1]; omega, by omega⟩
      exact hl n 0 _ (Nat.zero_le _) (fun i hi => absurd hi (Nat.not_lt_zero i))
theorem zc_stclear {ph : pm_H} (hS : zSh ph) : zM 102 [.ref 25] ph (fun v q => v = none ∧ zFr [] [(25, 0), (25, 1), (25, 2)] ph q ∧ zc q 25 0 = some (.int (zn 0)) ∧ zc q 25 1 = some (.int (zn 0)) ∧ zc q 25 2 = some (.int (zn 0))) := by
  obtain ⟨Q, hQ⟩ : ∃ Q : Option Value → pm_H → Prop, Q = (fun v q => v = none ∧ zFr [] [(25, 0), (25, 1), (25, 2)] ph q ∧ zc q 25 0 = some (.int (zn 0)) ∧ zc q 25 1 = some (.int (zn 0)) ∧ zc q 25 2 = some (.int (zn 0))) := ⟨_, rfl⟩
  rw [← hQ]
  refine zM_mk fun n D => ?_
  show zW n D 102 Q 0 [some (.ref 25)] [] ph
  have c_0 : (Int32.ofInt 0).toInt = 0 := by decide
  refine w_load (pc' := 1) (v := .ref 25) (m := 1) (ykc_102 (e := (2, .aload_n kF0, 0)) rfl) rfl rfl ?_
  refine w_alu (pc' := 2) (st' := [.int (Int32.ofInt 0), .ref 25]) (ykc_102 (e := (0, .iconst 0, 0)) rfl) rfl rfl ?_
  refine w_pf (pc' := 5) (ykc_102 (e := (5, .putfield 30, 0)) rfl) rfl rfl (fun ph1581 u1580 => ?_)
  refine w_load (pc' := 6) (v := .ref 25) (m := 1) (ykc_102 (e := (2, .aload_n kF0, 0)) rfl) rfl rfl ?_
  refine w_alu (pc' := 7) (st' := [.int (Int32.ofInt 0), .ref 25]) (ykc_102 (e := (0, .iconst 0, 0)) rfl) rfl rfl ?_
  refine w_pf (pc' := 10) (ykc_102 (e := (5, .putfield 34, 0)) rfl) rfl rfl (fun ph1583 u1582 => ?_)
  refine w_load (pc' := 11) (v := .ref 25) (m := 1) (ykc_102 (e := (2, .aload_n kF0, 0)) rfl) rfl rfl ?_
  refine w_alu (pc' := 12) (st' := [.int (Int32.ofInt 0), .ref 25]) (ykc_102 (e := (0, .iconst 0, 0)) rfl) rfl rfl ?_
  refine w_pf (pc' := 15) (ykc_102 (e := (5, .putfield 37, 0)) rfl) rfl rfl (fun ph1585 u1584 => ?_)
  refine w_ret (v := none) (ykc_102 (e := (7, .return_, 0)) rfl) (zr_v rfl) ?_
  rw [hQ]
  exact ⟨rfl, zFr_trans (zFr_st u1580 (Or.inr (by simp))) (zFr_trans (zFr_st u1582 (Or.inr (by simp))) (zFr_st u1584 (Or.inr (by simp)))), ((u1584.2.1 25 0 (fun q => absurd q.2 (by decide))).trans ((u1582.2.1 25 0 (fun q => absurd q.2 (by decide))).trans u1580.1)), ((u1584.2.1 25 1 (fun q => absurd q.2 (by decide))).trans u1582.1), u1584.1⟩
theorem zc_hclear {ph : pm_H} (hS : zSh ph) : zM 30 [.ref 43] ph (fun v q => v = none ∧ zFr [] [(43, 2), (43, 4)] ph q ∧ zc q 43 2 = some (.int (zn 0)) ∧ zc q 43 4 = some (.int (zn 0))) := by
  obtain ⟨Q, hQ⟩ : ∃ Q : Option Value → pm_H → Prop, Q = (fun v q => v = none ∧ zFr [] [(43, 2), (43, 4)] ph q ∧ zc q 43 2 = some (.int (zn 0)) ∧ zc q 43 4 = some (.int (zn 0))) := ⟨_, rfl⟩
  rw [← hQ]
  refine zM_mk fun n D => ?_
  show zW n D 30 Q 0 [some (.ref 43)] [] ph
  have c_0 : (Int32.ofInt 0).toInt = 0 := by decide
  refine w_load (pc' := 1) (v := .ref 43) (m := 1) (ykc_30 (e := (2, .aload_n kF0, 0)) rfl) rfl rfl ?_
  refine w_alu (pc' := 2) (st' := [.int (Int32.ofInt 0), .ref 43]) (ykc_30 (e := (0, .iconst 0, 0)) rfl) rfl rfl ?_
  refine w_pf (pc' := 5) (ykc_30 (e := (5, .putfield 26, 0)) rfl) rfl rfl (fun ph1587 u1586 => ?_)
  refine w_load (pc' := 6) (v := .ref 43) (m := 1) (ykc_30 (e := (2, .aload_n kF0, 0)) rfl) rfl rfl ?_
  refine w_alu (pc' := 7) (st' := [.int (Int32.ofInt 0), .ref 43]) (ykc_30 (e := (0, .iconst 0, 0)) rfl) rfl rfl ?_
  refine w_pf (pc' := 10) (ykc_30 (e := (5, .putfield 19, 0)) rfl) rfl rfl (fun ph1589 u1588 => ?_)
  refine w_ret (v := none) (ykc_30 (e := (7, .return_, 0)) rfl) (zr_v rfl) ?_
  rw [hQ]
  exact ⟨rfl, zFr_trans (zFr_st u1586 (Or.inr (by simp))) (zFr_st u1588 (Or.inr (by simp))), ((u1588.2.1 43 2 (fun q => absurd q.2 (by decide))).trans u1586.1), u1588.1⟩
theorem zCc_0 {q : pm_H} {R C : Nat} {rk : Nat → Bool} (h : zc q 5 4 = some (.long (Int64.ofNat kG0))) : zCc q R C rk := ⟨_, h, fun f hf hb => by
  rw [zL0] at hb
  simp [zb] at hb⟩
theorem zVa_k {n : Nat} {t : Nat → Nat} (h : zVk n t) : zVa n t = (zVN n t : Nat) := by
  obtain ⟨h0, h1, h2, h3⟩ := h
  unfold zVa
  rw [if_neg h0, if_neg h1, h2, if_neg (Nat.lt_irrefl _), if_neg (by omega)]
theorem zc_valley {ph : pm_H} {ln : Nat} {t : Nat → Nat} {R C P G nx u fl hn : Nat} {rk : Nat → Bool} {v : Nat → Nat} {w : Nat → Nat → Nat} {sv : Nat → Nat → Nat} (hS : zSh ph) (hT : zTc ph ln t) (hK : zKC ph R C rk P G v nx u w fl sv hn) : zM 124 [.ref 0] ph (fun v0 q => ∃ z : Int32, v0 = some (.int z) ∧ z.toInt = zVa ln t ∧ ((zVk ln t ∧ zCc q (zVd ln t 0) (zVd ln t 1) (zVr t) ∧ zKC q (zVd ln t 0) (zVd ln t 1) (zVr t) 0 0 (znu v 40 0) nx 0 w 0 sv 0) ∨ (¬ zVk ln t ∧ zKC q R C rk P G v nx u w fl sv hn ∧ zFr [] [(1, 1)] ph q))) := by
  obtain ⟨Q, hQ⟩ : ∃ Q : Option Value → pm_H → Prop, Q = (fun v0 q => ∃ z : Int32, v0 = some (.int z) ∧ z.toInt = zVa ln t ∧ ((zVk ln t ∧ zCc q (zVd ln t 0) (zVd ln t 1) (zVr t) ∧ zKC q (zVd ln t 0) (zVd ln t 1) (zVr t) 0 0 (znu v 40 0) nx 0 w 0 sv 0) ∨ (¬ zVk ln t ∧ zKC q R C rk P G v nx u w fl sv hn ∧ zFr [] [(1, 1)] ph q))) := ⟨_, rfl⟩
  rw [← hQ]
  refine zM_mk fun n D => ?_
  show zW n D 124 Q 0 [some (.ref 0), none] [] ph
  have c_0 : (Int32.ofInt (-1)).toInt = -1 := by decide
  obtain ⟨hL, hd, hU, hk, hh⟩ := hK
  have hT0 := hT
  obtain ⟨gn, hn80, gt⟩ := hT
  have tn := znt (k := ln) (by omega)
  refine w_load (pc' := 1) (v := .ref 0) (m := 1) (ykc_124 (e := (2, .aload_n kF0, 0)) rfl) rfl rfl ?_
  refine w_gf (pc' := 4) (v := .ref 5) (ykc_124 (e := (5, .getfield 26, 0)) rfl) rfl (zsg hS zs_0_2) rfl ?_
  refine w_load (pc' := 5) (v := .ref 0) (m := 1) (ykc_124 (e := (2, .aload_n kF0, 0)) rfl) rfl rfl ?_
  refine w_gf (pc' := 8) (v := .ref 1) (ykc_124 (e := (5, .getfield 10, 0)) rfl) rfl (zsg hS zs_0_0) rfl ?_
  refine w_cv (as := [.ref 5, .ref 1]) (r := []) (ykc_124 (e := (6, .invokevirtual 115, 0)) rfl) rfl rfl rfl rfl (zc_vread hS hT0) (fun v1590 ph1591 hv => ?_)
  rcases hv with ⟨gK, rfl, fs, g54, gL⟩ | ⟨gK, rfl, k9, rfl, ek9, hk9⟩
  · have cm : (Int32.ofInt (-1)).toInt = -1 := by decide
    show zW n D 124 Q 11 [some (.ref 0), none] [.int (Int32.ofInt (-1))] ph1591
    refine w_store (pc' := 12) (L' := [some (.ref 0), some (.int (Int32.ofInt (-1)))]) (st' := []) (m := 1) (ykc_124 (e := (3, .istore_n kF1, 0)) rfl) rfl rfl ?_
    refine w_load (pc' := 13) (v := .ref 0) (m := 1) (ykc_124 (e := (2, .aload_n kF0, 0)) rfl) rfl rfl ?_
    refine w_gf (pc' := 16) (v := .ref 1) (ykc_124 (e := (5, .getfield 10, 0)) rfl) rfl ((fs.1 0 0 (by decide) (by decide)).trans (zsg hS zs_0_0)) rfl ?_
    refine w_cv (as := [.ref 1]) (r := []) (ykc_124 (e := (6, .invokevirtual 119, 0)) rfl) rfl rfl rfl rfl (zc_tclear) (fun v1592 ph1593 hv => ?_)
    obtain ⟨rfl, ft, gt1⟩ := hv
    show zW n D 124 Q 19 [some (.ref 0), some (.int (Int32.ofInt (-1)))] [] ph1593
    refine w_load (pc' := 20) (v := .int (Int32.ofInt (-1))) (m := 1) (ykc_124 (e := (2, .iload_n kF1, 0)) rfl) rfl rfl ?_
    refine w_zlt (ykc_124 (e := (4, .ifCond .lt 7, 27)) rfl) rfl (fun b1594 => ?_) (fun q => by exfalso; omega)
    refine w_load (pc' := 28) (v := .ref 0) (m := 1) (ykc_124 (e := (2, .aload_n kF0, 0)) rfl) rfl rfl ?_
    refine w_gf (pc' := 31) (v := .ref 25) (ykc_124 (e := (5, .getfield 42, 0)) rfl) rfl ((ft.1 0 4 (by decide) (by decide)).trans ((fs.1 0 4 (by decide) (by decide)).trans (zsg hS zs_0_4))) rfl ?_
    refine w_cv (as := [.ref 25]) (r := []) (ykc_124 (e := (6, .invokevirtual 122, 0)) rfl) rfl rfl rfl rfl (zc_stclear (zSh_F (F := [(1, 1), (5, 0), (5, 1), (5, 2), (5, 3), (5, 4)]) (A := [6, 7]) (zFr_trans (zFr_mono fs (by simp) (by simp)) (zFr_mono ft (by simp) (by simp))) (by decide +kernel) hS)) (fun v1595 ph1596 hv => ?_)
    obtain ⟨rfl, fc, gc0, gc1, gc2⟩ := hv
    show zW n D 124 Q 34 [some (.ref 0), some (.int (Int32.ofInt (-1)))] [] ph1596
    refine w_load (pc' := 35) (v := .ref 0) (m := 1) (ykc_124 (e := (2, .aload_n kF0, 0)) rfl) rfl rfl ?_
    refine w_gf (pc' := 38) (v := .ref 43) (ykc_124 (e := (5, .getfield 55, 0)) rfl) rfl ((fc.1 0 7 (by decide) (by decide)).trans ((ft.1 0 7 (by decide) (by decide)).trans ((fs.1 0 7 (by decide) (by decide)).trans (zsg hS zs_0_7)))) rfl ?_
    refine w_cv (as := [.ref 43]) (r := []) (ykc_124 (e := (6, .invokevirtual 123, 0)) rfl) rfl rfl rfl rfl (zc_hclear (zSh_F (F := [(1, 1), (5, 0), (5, 1), (5, 2), (5, 3), (5, 4), (25, 0), (25, 1), (25, 2)]) (A := [6, 7]) (zFr_trans (zFr_mono fs (by simp) (by simp)) (zFr_trans (zFr_mono ft (by simp) (by simp)) (zFr_mono fc (by simp) (by simp)))) (by decide +kernel) hS)) (fun v1597 ph1598 hv => ?_)
    obtain ⟨rfl, fh, gh2, gh4⟩ := hv
    show zW n D 124 Q 41 [some (.ref 0), some (.int (Int32.ofInt (-1)))] [] ph1598
    refine w_load (pc' := 42) (v := .ref 0) (m := 1) (ykc_124 (e := (2, .aload_n kF0, 0)) rfl) rfl rfl ?_
    refine w_cv (as := [.ref 0]) (r := []) (ykc_124 (e := (6, .invokevirtual 124, 0)) rfl) rfl rfl rfl rfl (zc_forgetH) (fun v1599 ph1600 hv => ?_)
    obtain ⟨rfl, fg, gg⟩ := hv
    show zW n D 124 Q 45 [some (.ref 0), some (.int (Int32.ofInt (-1)))] [] ph1600
    refine w_load (pc' := 46) (v := .ref 0) (m := 1) (ykc_124 (e := (2, .aload_n kF0, 0)) rfl) rfl rfl ?_
    refine w_gf (pc' := 49) (v := .ref 5) (ykc_124 (e := (5, .getfield 26, 0)) rfl) rfl ((fg.1 0 2 (by decide) (by decide)).trans ((fh.1 0 2 (by decide) (by decide)).trans ((fc.1 0 2 (by decide) (by decide)).trans ((ft.1 0 2 (by decide) (by decide)).trans ((fs.1 0 2 (by decide) (by decide)).trans (zsg hS zs_0_2)))))) rfl ?_
    have f9 : zFr [] [(0, 13), (0, 14), (1, 1), (25, 0), (25, 1), (25, 2), (43, 2), (43, 4)] ph1591 _ := zFr_trans (zFr_mono ft (by simp) (by simp)) (zFr_trans (zFr_mono fc (by simp) (by simp)) (zFr_trans (zFr_mono fh (by simp) (by simp)) (zFr_mono fg (by simp) (by simp))))
    have f8 : zFr [6, 7] [(0, 13), (0, 14), (1, 1), (5, 0), (5, 1), (5, 2), (5, 3), (5, 4), (25, 0), (25, 1), (25, 2), (43, 2), (43, 4)] ph _ := zFr_trans (zFr_mono fs (by simp) (by simp)) (zFr_mono f9 (by simp) (by simp))
    have gL9 := zCl_F f9 (by simp) (by intro i hi; simp) (by simp) gL
    have hS9 := zSh_F f8 (by decide +kernel) hS
    refine w_cv (as := [.ref 5]) (r := []) (ykc_124 (e := (6, .invokevirtual 127, 0)) rfl) rfl rfl rfl rfl (zc_fields hS9 gL9) (fun v1601 ph1602 hv => ?_)
    obtain ⟨rfl, rfl⟩ := hv
    show zW n D 124 Q 52 [some (.ref 0), some (.int (Int32.ofInt (-1)))] [.int (zn (zVd ln t 0 * zVd ln t 1))] ph1600
    refine w_ret (v := (some (.int (zn (zVd ln t 0 * zVd ln t 1))))) (ykc_124 (e := (7, .ireturn, 0)) rfl) (zr_v rfl) ?_
    have e4 := zVa_k gK
    rw [hQ]
    refine ⟨_, rfl, ?_, Or.inl ⟨gK, zCc_0 ((f9.1 5 4 (by decide) (by decide)).trans g54), gL9, ⟨((fg.1 25 0 (by decide) (by decide)).trans ((fh.1 25 0 (by decide) (by decide)).trans gc0)), by decide, ((fg.1 25 1 (by decide) (by decide)).trans ((fh.1 25 1 (by decide) (by decide)).trans gc1)), by decide, ((fg.1 25 2 (by decide) (by decide)).trans ((fh.1 25 2 (by decide) (by decide)).trans gc2)), fun i hi => absurd hi (Nat.not_lt_zero i), fun i hi => absurd hi (Nat.not_lt_zero i)⟩, ⟨(f8.1 43 1 (by decide) (by decide)).trans hU.1, hU.2.1, (fg.1 43 2 (by decide) (by decide)).trans gh2, by decide, fun i hi => absurd hi (Nat.not_lt_zero i)⟩, ⟨(fg.1 43 4 (by decide) (by decide)).trans gh4, by decide, fun i hi h => absurd h (by rw [Nat.zero_testBit]; decide)⟩, gg, by decide⟩⟩
    have h49 := @zVN_b ln t
    unfold zVN at h49 e4
    rw [e4, znt (by omega)]
  · have tk := znt (k := k9) (by omega)
    have cm : (Int32.ofInt (-1)).toInt = -1 := by decide
    show zW n D 124 Q 11 [some (.ref 0), none] [.int (zn k9)] ph
    refine w_store (pc' := 12) (L' := [some (.ref 0), some (.int (zn k9))]) (st' := []) (m := 1) (ykc_124 (e := (3, .istore_n kF1, 0)) rfl) rfl rfl ?_
    refine w_load (pc' := 13) (v := .ref 0) (m := 1) (ykc_124 (e := (2, .aload_n kF0, 0)) rfl) rfl rfl ?_
    refine w_gf (pc' := 16) (v := .ref 1) (ykc_124 (e := (5, .getfield 10, 0)) rfl) rfl (zsg hS zs_0_0) rfl ?_
    refine w_cv (as := [.ref 1]) (r := []) (ykc_124 (e := (6, .invokevirtual 119, 0)) rfl) rfl rfl rfl rfl (zc_tclear) (fun v1603 ph1604 hv => ?_)
    obtain ⟨rfl, ft, gt1⟩ := hv
    show zW n D 124 Q 19 [some (.ref 0), some (.int (zn k9))] [] ph1604
    refine w_load (pc' := 20) (v := .int (zn k9)) (m := 1) (ykc_124 (e := (2, .iload_n kF1, 0)) rfl) rfl rfl ?_
    refine w_zlt (ykc_124 (e := (4, .ifCond .lt 7, 27)) rfl) rfl (fun q => by exfalso; omega) (fun b1605 => ?_)
    refine w_alu (pc' := 24) (st' := [.int (Int32.ofInt (-1))]) (ykc_124 (e := (0, .iconst (-1), 0)) rfl) rfl rfl ?_
    refine w_load (pc' := 25) (v := .int (zn k9)) (m := 1) (ykc_124 (e := (2, .iload_n kF1, 0)) rfl) rfl rfl ?_
    obtain ⟨z1606, e_z1606, h_z1606⟩ : ∃ zq : Int32, (Int32.ofInt (-1)) - (zn k9) = zq ∧ zq.toInt = (-1 : Int) - ((k9 : Nat) : Int) := ⟨_, rfl, zm1sub (by omega) (by omega) (by omega)⟩
    refine w_alu (pc' := 26) (st' := [.int z1606]) (ykc_124 (e := (0, .isub, 0)) rfl) (by rw [← e_z1606]; rfl) rfl ?_
    refine w_ret (v := (some (.int z1606))) (ykc_124 (e := (7, .ireturn, 0)) rfl) (zr_v rfl) ?_
    rw [hQ]
    exact ⟨_, rfl, by omega, Or.inr ⟨gK, ⟨zCl_F ft (by simp) (by intro i hi; simp <;> omega) (by simp) hL, zSd_F ft (by simp) (by intro j i hj; simp <;> omega) hd, zCu_F ft (by simp) (by simp) (by intro j _ _; simp) (by intro j i _ _; simp <;> omega) hU, zCk_F ft (by simp) (by simp) (by intro j _ _; simp) (by intro j i _ _; simp <;> omega) hk, (ft.1 0 14 (by simp) (by simp)).trans hh.1, hh.2⟩, ft⟩⟩
theorem zm_fields2 {ph : pm_H} {R C : Nat} (g3 : zc ph 170 3 = some (.int (zn R))) (g4 : zc ph 170 4 = some (.int (zn C))) (hR : R ≤ 7) (hC : C ≤ 7) : zM 188 [.ref 170] ph (fun v q => ph = q ∧ v = some (.int (zn (R * C)))) := by
  obtain ⟨Q, hQ⟩ : ∃ Q : Option Value → pm_H → Prop, Q = (fun v q => ph = q ∧ v = some (.int (zn (R * C)))) := ⟨_, rfl⟩
  rw [← hQ]
  refine zM_mk fun n D => ?_
  show zW n D 188 Q 0 [some (.ref 170)] [] ph
  have hRC := zRC49 hR hC
  have tR := znt (k := R) (by omega)
  have tC := znt (k := C) (by omega)
  refine w_load (pc' := 1) (v := .ref 170) (m := 1) (ykc_188 (e := (2, .aload_n kF0, 0)) rfl) rfl rfl ?_
  refine w_gf (pc' := 4) (v := .int (zn R)) (ykc_188 (e := (5, .getfield 24, 0)) rfl) rfl g3 rfl ?_
  refine w_load (pc' := 5) (v := .ref 170) (m := 1) (ykc_188 (e := (2, .aload_n kF0, 0)) rfl) rfl rfl ?_
  refine w_gf (pc' := 8) (v := .int (zn C)) (ykc_188 (e := (5, .getfield 27, 0)) rfl) rfl g4 rfl ?_
  have e1607 : (zn R) * (zn C) = zn (R * C) := zn_of (zmulN (by omega) (by omega) (by omega) (by omega))
  have te1607 := znt (k := R * C) (by omega)
  refine w_alu (pc' := 9) (st' := [.int (zn (R * C))]) (ykc_188 (e := (0, .imul, 0)) rfl) (by rw [← e1607]; rfl) rfl ?_
  refine w_ret (v := (some (.int (zn (R * C))))) (ykc_188 (e := (7, .ireturn, 0)) rfl) (zr_v rfl) ?_
  rw [hQ]
  exact ⟨rfl, rfl⟩
theorem zm_valley {ph : pm_H} {ln : Nat} {t : Nat → Nat} {R C P G u ch hn : Nat} {rk : Nat → Bool} {v : Nat → Nat} {w : Nat → Nat → Nat} {kp : Nat → Bool} {kc : Nat → Nat} {sv : Nat → Nat → Nat} (hS : zSh ph) (hn14 : zc ph 170 14 = some (.int (zn ln))) (hn80 : ln ≤ 80) (gtm : ∀ i, i < ln → zc ph 176 i = some (.int (zn (t i))) ∧ t i < 256) (hK : zKM ph R C rk P G v u w ch kp kc sv hn) (hch : ch < 1000) : zM 202 [.ref 170] ph (fun v0 q => ∃ z : Int32, v0 = some (.int z) ∧ z.toInt = zVa ln t ∧ ((zVk ln t ∧ zKM q (zVd ln t 0) (zVd ln t 1) (zVr t) 0 0 (znu v 40 0) 0 w (ch + 1) kp kc sv 0) ∨ (¬ zVk ln t ∧ zKM q R C rk P G v u w ch kp kc sv hn))) := by
  obtain ⟨Q, hQ⟩ : ∃ Q : Option Value → pm_H → Prop, Q = (fun v0 q => ∃ z : Int32, v0 = some (.int z) ∧ z.toInt = zVa ln t ∧ ((zVk ln t ∧ zKM q (zVd ln t 0) (zVd ln t 1) (zVr t) 0 0 (znu v 40 0) 0 w (ch + 1) kp kc sv 0) ∨ (¬ zVk ln t ∧ zKM q R C rk P G v u w ch kp kc sv hn))) := ⟨_, rfl⟩
  rw [← hQ]
  refine zM_mk fun n D => ?_
  show zW n D 202 Q 0 [some (.ref 170), none, none, none, none, none] [] ph
  have c_0 : ((Int8.ofInt 40).toInt32).toInt = 40 := by decide
  have c_1 : ((Int8.ofInt 7).toInt32).toInt = 7 := by decide
  have c_2 : ((Int8.ofInt 80).toInt32).toInt = 80 := by decide
  have c_3 : (Int32.ofInt (-1)).toInt = -1 := by decide
  have c_4 : (Int32.ofInt 0).toInt = 0 := by decide
  have c_5 : (Int32.ofInt 1).toInt = 1 := by decide
  have c_6 : (Int32.ofInt 3).toInt = 3 := by decide
  obtain ⟨hL, hN, hv, hU, hk, hh⟩ := hK
  have tln := znt (k := ln) (by omega)
  have tch := znt (k := ch) (by omega)
  refine w_load (pc' := 1) (v := .ref 170) (m := 1) (ykc_202 (e := (2, .aload_n kF0, 0)) rfl) rfl rfl ?_
  refine w_alu (pc' := 2) (st' := [.int (Int32.ofInt 0), .ref 170]) (ykc_202 (e := (0, .iconst 0, 0)) rfl) rfl rfl ?_
  refine w_pf (pc' := 5) (ykc_202 (e := (5, .putfield 3, 0)) rfl) rfl rfl (fun ph1609 u1608 => ?_)
  refine w_load (pc' := 6) (v := .ref 170) (m := 1) (ykc_202 (e := (2, .aload_n kF0, 0)) rfl) rfl rfl ?_
  refine w_push (pc' := 8) (v := .int ((Int8.ofInt 80).toInt32)) (m := 2) (ykc_202 (e := (1, .bipush 80, 0)) rfl) rfl rfl ?_
  have hS0 := zSh_st u1608 (by decide +kernel) hS
  refine w_cv (as := [.ref 170, .int ((Int8.ofInt 80).toInt32)]) (r := []) (ykc_202 (e := (6, .invokevirtual 175, 0)) rfl) rfl rfl rfl rfl (zm_begins (ln := ln) (c := 80) (t := t) hS0 ((u1608.2.1 170 14 (fun q => absurd q.2 (by decide))).trans hn14) hn80 (fun i hi => ⟨(u1608.2.1 176 i (fun q => absurd q.1 (by decide))).trans (gtm i hi).1, (gtm i hi).2⟩) (by omega) (by omega)) (fun v1610 ph1611 hv => ?_)
  obtain ⟨rfl, fb, g14, hT⟩ := hv
  rw [show min ln 80 = ln by omega] at hT
  have f1 : zFr [] [(170, 0), (170, 14), (170, 15), (170, 16), (170, 17)] ph ph1611 := zFr_trans (zFr_st u1608 (Or.inr (by simp))) (zFr_mono fb (by simp) (by simp))
  have hS1 := zSh_F f1 (by decide +kernel) hS
  show zW n D 202 Q 11 [some (.ref 170), none, none, none, none, none] [.int (zn ln)] ph1611
  refine w_alu (pc' := 12) (st' := []) (ykc_202 (e := (0, .pop, 0)) rfl) rfl rfl ?_
  refine w_load (pc' := 13) (v := .ref 170) (m := 1) (ykc_202 (e := (2, .aload_n kF0, 0)) rfl) rfl rfl ?_
  refine w_alu (pc' := 14) (st' := [.int (Int32.ofInt 3), .ref 170]) (ykc_202 (e := (0, .iconst 3, 0)) rfl) rfl rfl ?_
  refine w_push (pc' := 16) (v := .int ((Int8.ofInt 7).toInt32)) (m := 2) (ykc_202 (e := (1, .bipush 7, 0)) rfl) rfl rfl ?_
  refine w_cv (as := [.ref 170, .int (Int32.ofInt 3), .int ((Int8.ofInt 7).toInt32)]) (r := []) (ykc_202 (e := (6, .invokevirtual 179, 0)) rfl) rfl rfl rfl rfl (zm_digitIn hS1 hT (l := 3) (h := 7) (by omega) (by omega)) (fun v1612 ph1613 hv => ?_)
  rcases hv with ⟨fd0, ⟨hc0, rfl, hfd0⟩ | ⟨hc0, rfl, hfd0⟩⟩
  · have e0 : zVd ln t 0 = t 0 - 48 := if_pos (by omega)
    have b0 := @zVd_b ln 0 t
    rw [← e0]
    have tv0 := znt (k := zVd ln t 0) (by omega)
    have z0 : zVd ln t 0 ≠ 0 := by omega
    show zW n D 202 Q 19 [some (.ref 170), none, none, none, none, none] [.int (zn (zVd ln t 0))] ph1613
    refine w_store (pc' := 20) (L' := [some (.ref 170), some (.int (zn (zVd ln t 0))), none, none, none, none]) (st' := []) (m := 1) (ykc_202 (e := (3, .istore_n kF1, 0)) rfl) rfl rfl ?_
    refine w_load (pc' := 21) (v := .int (zn (zVd ln t 0))) (m := 1) (ykc_202 (e := (2, .iload_n kF1, 0)) rfl) rfl rfl ?_
    refine w_zge (ykc_202 (e := (4, .ifCond .ge 7, 28)) rfl) rfl (fun b1614 => ?_) (fun q => by exfalso; omega)
    refine w_load (pc' := 29) (v := .ref 170) (m := 1) (ykc_202 (e := (2, .aload_n kF0, 0)) rfl) rfl rfl ?_
    refine w_alu (pc' := 30) (st' := [.int (Int32.ofInt 3), .ref 170]) (ykc_202 (e := (0, .iconst 3, 0)) rfl) rfl rfl ?_
    refine w_push (pc' := 32) (v := .int ((Int8.ofInt 7).toInt32)) (m := 2) (ykc_202 (e := (1, .bipush 7, 0)) rfl) rfl rfl ?_
    refine w_cv (as := [.ref 170, .int (Int32.ofInt 3), .int ((Int8.ofInt 7).toInt32)]) (r := []) (ykc_202 (e := (6, .invokevirtual 179, 0)) rfl) rfl rfl rfl rfl (zm_digitIn (zF15_S fd0 hS1) hfd0 (l := 3) (h := 7) (by omega) (by omega)) (fun v1615 ph1616 hv => ?_)
    rcases hv with ⟨fd1, ⟨hc1, rfl, hfd1⟩ | ⟨hc1, rfl, hfd1⟩⟩
    · have e1 : zVd ln t 1 = t (0 + 1) - 48 := if_pos (by omega)
      have b1 := @zVd_b ln 1 t
      rw [← e1]
      have tv1 := znt (k := zVd ln t 1) (by omega)
      have z1 : zVd ln t 1 ≠ 0 := by omega
      have f2 : zFr [] [(170, 0), (170, 14), (170, 15), (170, 16), (170, 17)] ph ph1616 := zFr_trans f1 (zFr_trans (zFr_mono fd0 (by simp) (by simp)) (zFr_mono fd1 (by simp) (by simp)))
      have hN49 : zVd ln t 0 * zVd ln t 1 ≤ 49 := @zVN_b ln t
      show zW n D 202 Q 35 [some (.ref 170), some (.int (zn (zVd ln t 0))), none, none, none, none] [.int (zn (zVd ln t 1))] ph1616
      refine w_store (pc' := 36) (L' := [some (.ref 170), some (.int (zn (zVd ln t 0))), some (.int (zn (zVd ln t 1))), none, none, none]) (st' := []) (m := 1) (ykc_202 (e := (3, .istore_n kF2, 0)) rfl) rfl rfl ?_
      refine w_load (pc' := 37) (v := .int (zn (zVd ln t 1))) (m := 1) (ykc_202 (e := (2, .iload_n kF2, 0)) rfl) rfl rfl ?_
      refine w_zle (ykc_202 (e := (4, .ifCond .le 7, 44)) rfl) rfl (fun q => by exfalso; omega) (fun b1617 => ?_)
      refine w_alu (pc' := 41) (st' := [.int (Int32.ofInt 1)]) (ykc_202 (e := (0, .iconst 1, 0)) rfl) rfl rfl ?_
      refine w_br (pc' := 45) (st' := [.int (Int32.ofInt 1)]) (ykc_202 (e := (4, .goto 4, 45)) rfl) rfl ?_
      refine w_store (pc' := 46) (L' := [some (.ref 170), some (.int (zn (zVd ln t 0))), some (.int (zn (zVd ln t 1))), some (.int (Int32.ofInt 1)), none, none]) (st' := []) (m := 1) (ykc_202 (e := (3, .istore_n kF3, 0)) rfl) rfl rfl ?_
      refine w_alu (pc' := 47) (st' := [.int (Int32.ofInt 0)]) (ykc_202 (e := (0, .iconst 0, 0)) rfl) rfl rfl ?_
      refine w_store (pc' := 49) (L' := [some (.ref 170), some (.int (zn (zVd ln t 0))), some (.int (zn (zVd ln t 1))), some (.int (Int32.ofInt 1)), some (.int (Int32.ofInt 0)), none]) (st' := []) (m := 2) (ykc_202 (e := (3, .istore 4, 0)) rfl) rfl rfl ?_
      have hl : ∀ (n : Nat), ∀ (f : Nat) (x5 : Option Value) (ph1 : pm_H), (f ≤ zVd ln t 0 * zVd ln t 1) → (∀ i, i < f → zVs ln t (2 + i) = true) → (zFr [177] [(170, 0), (170, 14), (170, 15), (170, 16), (170, 17)] ph ph1) → (zTm ph1 (2 + f) ln ln t) → (∀ i, i < f → zc ph1 177 i = some (.int (zI (zVr t i)))) → zW n D 202 Q 49 [some (.ref 170), some (.int (zn (zVd ln t 0))), some (.int (zn (zVd ln t 1))), some (.int (Int32.ofInt 1)), some (.int (zn f)), x5] [] ph1 := by
        intro n
        induction n using Nat.strongRecOn with
        | ind n ih =>
          intro f x5 ph1 hf hg hfr hT hrr
          have tf := znt (k := f) (by omega)
          have hab := hT.2.2.1
          have tat := znt (k := 2 + f) (by omega)
          have hS1 := zSh_F hfr (by decide +kernel) hS
          have ls0 : zls [46, 35] 0 = 46 := rfl
          have ls1 : zls [46, 35] 1 = 35 := rfl
          refine w_load (pc' := 50) (v := .int (Int32.ofInt 1)) (m := 1) (ykc_202 (e := (2, .iload_n kF3, 0)) rfl) rfl rfl ?_
          refine w_zeq (ykc_202 (e := (4, .ifCond .eq 54, 104)) rfl) rfl (fun q => by exfalso; omega) (fun b1618 => ?_)
          refine w_load (pc' := 55) (v := .int (zn f)) (m := 2) (ykc_202 (e := (2, .iload 4, 0)) rfl) rfl rfl ?_
          refine w_load (pc' := 56) (v := .int (zn (zVd ln t 0))) (m := 1) (ykc_202 (e := (2, .iload_n kF1, 0)) rfl) rfl rfl ?_
          refine w_load (pc' := 57) (v := .int (zn (zVd ln t 1))) (m := 1) (ykc_202 (e := (2, .iload_n kF2, 0)) rfl) rfl rfl ?_
          have e1619 : (zn (zVd ln t 0)) * (zn (zVd ln t 1)) = zn (zVd ln t 0 * zVd ln t 1) := zn_of (zmulN (by omega) (by omega) (by omega) (by omega))
          have te1619 := znt (k := zVd ln t 0 * zVd ln t 1) (by omega)
          refine w_alu (pc' := 58) (st' := [.int (zn (zVd ln t 0 * zVd ln t 1)), .int (zn f)]) (ykc_202 (e := (0, .imul, 0)) rfl) (by rw [← e1619]; rfl) rfl ?_
          refine w_ige (ykc_202 (e := (4, .if_icmp .ge 46, 104)) rfl) rfl (fun b1620 => ?_) (fun b1620 => ?_)
          · have eN : f = zVd ln t 0 * zVd ln t 1 := by omega
            refine w_load (pc' := 105) (v := .int (Int32.ofInt 1)) (m := 1) (ykc_202 (e := (2, .iload_n kF3, 0)) rfl) rfl rfl ?_
            refine w_zeq (ykc_202 (e := (4, .ifCond .eq 14, 119)) rfl) rfl (fun q => by exfalso; omega) (fun b1621 => ?_)
            refine w_load (pc' := 109) (v := .ref 170) (m := 1) (ykc_202 (e := (2, .aload_n kF0, 0)) rfl) rfl rfl ?_
            refine w_gf (pc' := 112) (v := .int (zn (2 + f))) (ykc_202 (e := (5, .getfield 139, 0)) rfl) rfl hT.1 rfl ?_
            refine w_load (pc' := 113) (v := .ref 170) (m := 1) (ykc_202 (e := (2, .aload_n kF0, 0)) rfl) rfl rfl ?_
            refine w_gf (pc' := 116) (v := .int (zn ln)) (ykc_202 (e := (5, .getfield 151, 0)) rfl) rfl hT.2.1 rfl ?_
            refine w_ige (ykc_202 (e := (4, .if_icmp .ge 10, 126)) rfl) rfl (fun b1622 => ?_) (fun b1622 => ?_)
            · refine w_load (pc' := 127) (v := .ref 170) (m := 1) (ykc_202 (e := (2, .aload_n kF0, 0)) rfl) rfl rfl ?_
              refine w_load (pc' := 128) (v := .int (zn (zVd ln t 0))) (m := 1) (ykc_202 (e := (2, .iload_n kF1, 0)) rfl) rfl rfl ?_
              refine w_pf (pc' := 131) (ykc_202 (e := (5, .putfield 24, 0)) rfl) rfl rfl (fun ph1624 u1623 => ?_)
              refine w_load (pc' := 132) (v := .ref 170) (m := 1) (ykc_202 (e := (2, .aload_n kF0, 0)) rfl) rfl rfl ?_
              refine w_load (pc' := 133) (v := .int (zn (zVd ln t 1))) (m := 1) (ykc_202 (e := (2, .iload_n kF2, 0)) rfl) rfl rfl ?_
              refine w_pf (pc' := 136) (ykc_202 (e := (5, .putfield 27, 0)) rfl) rfl rfl (fun ph1626 u1625 => ?_)
              refine w_alu (pc' := 137) (st' := [.int (Int32.ofInt 0)]) (ykc_202 (e := (0, .iconst 0, 0)) rfl) rfl rfl ?_
              refine w_store (pc' := 139) (L' := [some (.ref 170), some (.int (zn (zVd ln t 0))), some (.int (zn (zVd ln t 1))), some (.int (Int32.ofInt 1)), some (.int (Int32.ofInt 0)), x5]) (st' := []) (m := 2) (ykc_202 (e := (3, .istore 4, 0)) rfl) rfl rfl ?_
              have h8 := zVa_4 z0 z1 (by rw [show zVN ln t = f by unfold zVN; omega]; exact hg) (show ¬ 2 + zVN ln t < ln by unfold zVN; omega)
              have hl2 : ∀ (n : Nat), ∀ (g : Nat) (x5 : Option Value) (ph2 : pm_H), (g ≤ zVd ln t 0 * zVd ln t 1) → (zFr [172, 177] [(170, 0), (170, 3), (170, 4), (170, 14), (170, 15), (170, 16), (170, 17)] ph ph2) → (zc ph2 170 3 = some (.int (zn (zVd ln t 0)))) → (zc ph2 170 4 = some (.int (zn (zVd ln t 1)))) → (∀ i, i < zVd ln t 0 * zVd ln t 1 → zc ph2 177 i = some (.int (zI (zVr t i)))) → (∀ i, i < g → zc ph2 172 i = some (.int (zI (zVr t i)))) → zW n D 202 Q 139 [some (.ref 170), some (.int (zn (zVd ln t 0))), some (.int (zn (zVd ln t 1))), some (.int (Int32.ofInt 1)), some (.int (zn g)), x5] [] ph2 := by
                intro n
                induction n using Nat.strongRecOn with
                | ind n ih =>
                  intro g x5 ph2 hgN hf3 k3 k4 hr7 hr2
                  have tg := znt (k := g) (by omega)
                  have hS2 := zSh_F hf3 (by decide +kernel) hS
                  have tN := znt (k := zVd ln t 0 * zVd ln t 1) (by omega)
                  refine w_load (pc' := 141) (v := .int (zn g)) (m := 2) (ykc_202 (e := (2, .iload 4, 0)) rfl) rfl rfl ?_
                  refine w_load (pc' := 142) (v := .ref 170) (m := 1) (ykc_202 (e := (2, .aload_n kF0, 0)) rfl) rfl rfl ?_
                  refine w_cv (as := [.ref 170]) (r := [.int (zn g)]) (ykc_202 (e := (6, .invokevirtual 122, 0)) rfl) rfl rfl rfl rfl (zm_fields2 (R := zVd ln t 0) (C := zVd ln t 1) k3 k4 (by omega) (by omega)) (fun v1627 ph1628 hv => ?_)
                  obtain ⟨rfl, rfl⟩ := hv
                  show zW n D 202 Q 145 [some (.ref 170), some (.int (zn (zVd ln t 0))), some (.int (zn (zVd ln t 1))), some (.int (Int32.ofInt 1)), some (.int (zn g)), x5] [.int (zn (zVd ln t 0 * zVd ln t 1)), .int (zn g)] ph2
                  refine w_ige (ykc_202 (e := (4, .if_icmp .ge 23, 168)) rfl) rfl (fun b1629 => ?_) (fun b1629 => ?_)
                  · refine w_load (pc' := 169) (v := .ref 170) (m := 1) (ykc_202 (e := (2, .aload_n kF0, 0)) rfl) rfl rfl ?_
                    refine w_alu (pc' := 170) (st' := [.int (Int32.ofInt 0), .ref 170]) (ykc_202 (e := (0, .iconst 0, 0)) rfl) rfl rfl ?_
                    refine w_pf (pc' := 173) (ykc_202 (e := (5, .putfield 130, 0)) rfl) rfl rfl (fun ph1631 u1630 => ?_)
                    refine w_load (pc' := 174) (v := .ref 170) (m := 1) (ykc_202 (e := (2, .aload_n kF0, 0)) rfl) rfl rfl ?_
                    refine w_alu (pc' := 175) (st' := [.int (Int32.ofInt 0), .ref 170]) (ykc_202 (e := (0, .iconst 0, 0)) rfl) rfl rfl ?_
                    refine w_pf (pc' := 178) (ykc_202 (e := (5, .putfield 133, 0)) rfl) rfl rfl (fun ph1633 u1632 => ?_)
                    refine w_load (pc' := 179) (v := .ref 170) (m := 1) (ykc_202 (e := (2, .aload_n kF0, 0)) rfl) rfl rfl ?_
                    refine w_gf (pc' := 182) (v := .ref 174) (ykc_202 (e := (5, .getfield 41, 0)) rfl) rfl ((u1632.2.1 170 11 (fun q => absurd q.2 (by decide))).trans ((u1630.2.1 170 11 (fun q => absurd q.2 (by decide))).trans ((hf3.1 170 11 (by decide) (by decide)).trans (zsg hS zs_170_11)))) rfl ?_
                    refine w_push (pc' := 184) (v := .int ((Int8.ofInt 40).toInt32)) (m := 2) (ykc_202 (e := (1, .bipush 40, 0)) rfl) rfl rfl ?_
                    refine w_alu (pc' := 185) (st' := [.int (Int32.ofInt 0), .int ((Int8.ofInt 40).toInt32), .ref 174]) (ykc_202 (e := (0, .iconst 0, 0)) rfl) rfl rfl ?_
                    refine w_ias (pc' := 186) (k := 40) (ykc_202 (e := (5, .iastore, 0)) rfl) (by omega) rfl (fun ph1635 u1634 => ?_)
                    refine w_load (pc' := 187) (v := .ref 170) (m := 1) (ykc_202 (e := (2, .aload_n kF0, 0)) rfl) rfl rfl ?_
                    refine w_alu (pc' := 188) (st' := [.int (Int32.ofInt 0), .ref 170]) (ykc_202 (e := (0, .iconst 0, 0)) rfl) rfl rfl ?_
                    refine w_pf (pc' := 191) (ykc_202 (e := (5, .putfield 188, 0)) rfl) rfl rfl (fun ph1637 u1636 => ?_)
                    refine w_load (pc' := 192) (v := .ref 170) (m := 1) (ykc_202 (e := (2, .aload_n kF0, 0)) rfl) rfl rfl ?_
                    refine w_alu (pc' := 193) (st' := [.ref 170, .ref 170]) (ykc_202 (e := (0, .dup, 0)) rfl) rfl rfl ?_
                    refine w_gf (pc' := 196) (v := .int (zn ch)) (ykc_202 (e := (5, .getfield 191, 0)) rfl) rfl ((u1636.2.1 170 7 (fun q => absurd q.2 (by decide))).trans ((u1634.2.1 170 7 (fun q => absurd q.1 (by decide))).trans ((u1632.2.1 170 7 (fun q => absurd q.2 (by decide))).trans ((u1630.2.1 170 7 (fun q => absurd q.2 (by decide))).trans ((hf3.1 170 7 (by decide) (by decide)).trans hk.1))))) rfl ?_
                    refine w_alu (pc' := 197) (st' := [.int (Int32.ofInt 1), .int (zn ch), .ref 170]) (ykc_202 (e := (0, .iconst 1, 0)) rfl) rfl rfl ?_
                    have e1638 : (zn ch) + (Int32.ofInt 1) = zn (ch + 1) := (zaddN (a := ch) (b := 1) (znt (by omega)) c_5 (by omega)) 
                    have te1638 := znt (k := ch + 1) (by omega)
                    refine w_alu (pc' := 198) (st' := [.int (zn (ch + 1)), .ref 170]) (ykc_202 (e := (0, .iadd, 0)) rfl) (by rw [← e1638]; rfl) rfl ?_
                    refine w_pf (pc' := 201) (ykc_202 (e := (5, .putfield 191, 0)) rfl) rfl rfl (fun ph1640 u1639 => ?_)
                    refine w_load (pc' := 202) (v := .ref 170) (m := 1) (ykc_202 (e := (2, .aload_n kF0, 0)) rfl) rfl rfl ?_
                    refine w_alu (pc' := 203) (st' := [.int (Int32.ofInt 0), .ref 170]) (ykc_202 (e := (0, .iconst 0, 0)) rfl) rfl rfl ?_
                    refine w_pf (pc' := 206) (ykc_202 (e := (5, .putfield 194, 0)) rfl) rfl rfl (fun ph1642 u1641 => ?_)
                    refine w_load (pc' := 207) (v := .ref 170) (m := 1) (ykc_202 (e := (2, .aload_n kF0, 0)) rfl) rfl rfl ?_
                    refine w_cv (as := [.ref 170]) (r := []) (ykc_202 (e := (6, .invokevirtual 122, 0)) rfl) rfl rfl rfl rfl (zm_fields2 (R := zVd ln t 0) (C := zVd ln t 1) ((u1641.2.1 170 3 (fun q => absurd q.2 (by decide))).trans ((u1639.2.1 170 3 (fun q => absurd q.2 (by decide))).trans ((u1636.2.1 170 3 (fun q => absurd q.2 (by decide))).trans ((u1634.2.1 170 3 (fun q => absurd q.1 (by decide))).trans ((u1632.2.1 170 3 (fun q => absurd q.2 (by decide))).trans ((u1630.2.1 170 3 (fun q => absurd q.2 (by decide))).trans k3)))))) ((u1641.2.1 170 4 (fun q => absurd q.2 (by decide))).trans ((u1639.2.1 170 4 (fun q => absurd q.2 (by decide))).trans ((u1636.2.1 170 4 (fun q => absurd q.2 (by decide))).trans ((u1634.2.1 170 4 (fun q => absurd q.1 (by decide))).trans ((u1632.2.1 170 4 (fun q => absurd q.2 (by decide))).trans ((u1630.2.1 170 4 (fun q => absurd q.2 (by decide))).trans k4)))))) (by omega) (by omega)) (fun v1643 ph1644 hv => ?_)
                    obtain ⟨rfl, rfl⟩ := hv
                    show zW n D 202 Q 210 [some (.ref 170), some (.int (zn (zVd ln t 0))), some (.int (zn (zVd ln t 1))), some (.int (Int32.ofInt 1)), some (.int (zn g)), x5] [.int (zn (zVd ln t 0 * zVd ln t 1))] ph1642
                    refine w_ret (v := (some (.int (zn (zVd ln t 0 * zVd ln t 1))))) (ykc_202 (e := (7, .ireturn, 0)) rfl) (zr_v rfl) ?_
                    have eg : g = zVd ln t 0 * zVd ln t 1 := by omega
                    have f9 : zFr [172, 177] [(170, 0), (170, 3), (170, 4), (170, 5), (170, 6), (170, 7), (170, 14), (170, 15), (170, 16), (170, 17), (170, 27), (170, 39), (174, 40)] ph ph1642 := (zFr_add (zFr_add (zFr_add (zFr_add (zFr_add (zFr_add (zFr_mono hf3 (by simp) (by simp)) u1630 (Or.inr (by simp))) u1632 (Or.inr (by simp))) u1634 (Or.inr (by simp))) u1636 (Or.inr (by simp))) u1639 (Or.inr (by simp))) u1641 (Or.inr (by simp)))
                    have h40 : zc ph1642 174 40 = some (.int (zn 0)) := ((u1641.2.1 174 40 (fun q => absurd q.1 (by decide))).trans ((u1639.2.1 174 40 (fun q => absurd q.1 (by decide))).trans ((u1636.2.1 174 40 (fun q => absurd q.1 (by decide))).trans u1634.1)))
                    rw [hQ]
                    refine ⟨_, rfl, by rw [h8.1]; unfold zVN; exact znt (by omega), Or.inl ⟨h8.2, ⟨((u1641.2.1 170 3 (fun q => absurd q.2 (by decide))).trans ((u1639.2.1 170 3 (fun q => absurd q.2 (by decide))).trans ((u1636.2.1 170 3 (fun q => absurd q.2 (by decide))).trans ((u1634.2.1 170 3 (fun q => absurd q.1 (by decide))).trans ((u1632.2.1 170 3 (fun q => absurd q.2 (by decide))).trans ((u1630.2.1 170 3 (fun q => absurd q.2 (by decide))).trans k3)))))), ((u1641.2.1 170 4 (fun q => absurd q.2 (by decide))).trans ((u1639.2.1 170 4 (fun q => absurd q.2 (by decide))).trans ((u1636.2.1 170 4 (fun q => absurd q.2 (by decide))).trans ((u1634.2.1 170 4 (fun q => absurd q.1 (by decide))).trans ((u1632.2.1 170 4 (fun q => absurd q.2 (by decide))).trans ((u1630.2.1 170 4 (fun q => absurd q.2 (by decide))).trans k4)))))), fun i hi => ((u1641.2.1 172 i (fun q => absurd q.1 (by decide))).trans ((u1639.2.1 172 i (fun q => absurd q.1 (by decide))).trans ((u1636.2.1 172 i (fun q => absurd q.1 (by decide))).trans ((u1634.2.1 172 i (fun q => absurd q.1 (by decide))).trans ((u1632.2.1 172 i (fun q => absurd q.1 (by decide))).trans ((u1630.2.1 172 i (fun q => absurd q.1 (by decide))).trans (hr2 i (by omega)))))))), by omega, by omega, by omega, by omega⟩, ⟨((u1641.2.1 170 5 (fun q => absurd q.2 (by decide))).trans ((u1639.2.1 170 5 (fun q => absurd q.2 (by decide))).trans ((u1636.2.1 170 5 (fun q => absurd q.2 (by decide))).trans ((u1634.2.1 170 5 (fun q => absurd q.1 (by decide))).trans ((u1632.2.1 170 5 (fun q => absurd q.2 (by decide))).trans u1630.1))))), by decide, ((u1641.2.1 170 6 (fun q => absurd q.2 (by decide))).trans ((u1639.2.1 170 6 (fun q => absurd q.2 (by decide))).trans ((u1636.2.1 170 6 (fun q => absurd q.2 (by decide))).trans ((u1634.2.1 170 6 (fun q => absurd q.1 (by decide))).trans u1632.1)))), by decide⟩, fun i hi => ?_, ⟨((u1641.2.1 170 27 (fun q => absurd q.2 (by decide))).trans ((u1639.2.1 170 27 (fun q => absurd q.2 (by decide))).trans u1636.1)), by decide, fun i hi => absurd hi (Nat.not_lt_zero i)⟩, ⟨((u1641.2.1 170 7 (fun q => absurd q.2 (by decide))).trans u1639.1), by omega, fun i hi => ?_⟩, u1641.1, by decide⟩⟩
                    · rw [Nat.zero_add]
                      unfold znu
                      by_cases e : i = 40
                      · subst e; rw [if_pos rfl]; exact h40
                      · rw [if_neg e]
                        exact (f9.1 174 i (by decide) (by simp <;> omega)).trans (zNr0 hv hi)
                    · obtain ⟨k1, k2, k3, k4⟩ := hk.2.2 i hi
                      exact ⟨(f9.1 198 i (by decide) (by simp)).trans k1, (f9.1 199 i (by decide) (by simp)).trans k2, by omega, fun h => zNr_F f9 (by simp) (by simp) (k4 h)⟩
                  · refine w_load (pc' := 149) (v := .ref 170) (m := 1) (ykc_202 (e := (2, .aload_n kF0, 0)) rfl) rfl rfl ?_
                    refine w_gf (pc' := 152) (v := .ref 172) (ykc_202 (e := (5, .getfield 33, 0)) rfl) rfl ((hf3.1 170 9 (by decide) (by decide)).trans (zsg hS zs_170_9)) rfl ?_
                    refine w_load (pc' := 154) (v := .int (zn g)) (m := 2) (ykc_202 (e := (2, .iload 4, 0)) rfl) rfl rfl ?_
                    refine w_load (pc' := 155) (v := .ref 170) (m := 1) (ykc_202 (e := (2, .aload_n kF0, 0)) rfl) rfl rfl ?_
                    refine w_gf (pc' := 158) (v := .ref 177) (ykc_202 (e := (5, .getfield 50, 0)) rfl) rfl ((hf3.1 170 18 (by decide) (by decide)).trans (zsg hS zs_170_18)) rfl ?_
                    refine w_load (pc' := 160) (v := .int (zn g)) (m := 2) (ykc_202 (e := (2, .iload 4, 0)) rfl) rfl rfl ?_
                    refine w_balk (pc' := 161) (k := g) (ykc_202 (e := (5, .baload, 0)) rfl) (hr7 g (by omega)) (by omega) rfl ?_
                    refine w_bas (pc' := 162) (k := g) (ykc_202 (e := (5, .bastore, 0)) rfl) (by omega) rfl (fun ph1646 u1645 => ?_)
                    have h1647 := u1645.1
                    rw [zI_and] at h1647
                    have e1648 : (zn g) + Int32.ofInt 1 = zn (g + 1) := (zaddN (a := g) (b := 1) (znt (by omega)) c_5 (by omega))
                    have te1648 := znt (k := g + 1) (by omega)
                    refine w_store (pc' := 165) (L' := [some (.ref 170), some (.int (zn (zVd ln t 0))), some (.int (zn (zVd ln t 1))), some (.int (Int32.ofInt 1)), some (.int (zn (g + 1))), x5]) (st' := []) (m := 3) (ykc_202 (e := (3, .iinc 4 1, 0)) rfl) (by rw [← e1648]; rfl) rfl ?_
                    refine w_gb (ykc_202 (e := (4, .goto (-26), 139)) rfl) (fun k1649 hk1649 => ?_)
                    exact ih k1649 hk1649 (g + 1) _ _ (by omega) (zFr_add hf3 u1645 (Or.inl (by simp))) ((u1645.2.1 170 3 (fun q => absurd q.1 (by decide))).trans k3) ((u1645.2.1 170 4 (fun q => absurd q.1 (by decide))).trans k4) (fun i hi => (u1645.2.1 177 i (fun q => absurd q.1 (by decide))).trans (hr7 i hi)) (fun i hi => by
                      by_cases e : i = g
                      · subst e; exact h1647
                      · exact (u1645.2.1 172 i (fun q => e q.2)).trans (hr2 i (by omega)))
              exact hl2 n 0 _ ph1626 (Nat.zero_le _) (zFr_trans (zFr_mono hfr (by simp) (by simp)) (zFr_trans (zFr_st u1623 (Or.inr (by simp))) (zFr_st u1625 (Or.inr (by simp))))) ((u1625.2.1 170 3 (fun q => absurd q.2 (by decide))).trans u1623.1) u1625.1 (fun i hi => (u1625.2.1 177 i (fun q => absurd q.1 (by decide))).trans ((u1623.2.1 177 i (fun q => absurd q.1 (by decide))).trans (hrr i (by omega)))) (fun i hi => absurd hi (Nat.not_lt_zero i))
              
            · refine w_alu (pc' := 120) (st' := [.int (Int32.ofInt (-1))]) (ykc_202 (e := (0, .iconst (-1), 0)) rfl) rfl rfl ?_
              refine w_load (pc' := 121) (v := .ref 170) (m := 1) (ykc_202 (e := (2, .aload_n kF0, 0)) rfl) rfl rfl ?_
              refine w_gf (pc' := 124) (v := .int (zn (2 + f))) (ykc_202 (e := (5, .getfield 139, 0)) rfl) rfl hT.1 rfl ?_
              obtain ⟨z1650, e_z1650, h_z1650⟩ : ∃ zq : Int32, (Int32.ofInt (-1)) - (zn (2 + f)) = zq ∧ zq.toInt = (-1 : Int) - ((2 + f : Nat) : Int) := ⟨_, rfl, zm1sub (by omega) (by omega) (by omega)⟩
              refine w_alu (pc' := 125) (st' := [.int z1650]) (ykc_202 (e := (0, .isub, 0)) rfl) (by rw [← e_z1650]; rfl) rfl ?_
              refine w_ret (v := (some (.int z1650))) (ykc_202 (e := (7, .ireturn, 0)) rfl) (zr_v rfl) ?_
              have h8 := zVa_3 z0 z1 (by rw [show zVN ln t = f by unfold zVN; omega]; exact hg) (show 2 + zVN ln t < ln by unfold zVN; omega)
              rw [hQ]
              exact ⟨_, rfl, by rw [h8.1]; unfold zVN; omega, Or.inr ⟨h8.2, zMl_F hfr (by simp) (by simp) (by simp) (by simp) hL, zMp_F hfr (by simp) (by simp) (by simp) hN, zNr_F hfr (by simp) (by simp) hv, zMu_F hfr (by simp) (by simp) (by simp) hU, zMk_F hfr (by simp) (by simp) (by simp) hk, zMh_F hfr (by simp) (by simp) hh⟩⟩
            
          · refine w_load (pc' := 62) (v := .ref 170) (m := 1) (ykc_202 (e := (2, .aload_n kF0, 0)) rfl) rfl rfl ?_
            refine w_push (pc' := 64) (v := .ref 1048627) (m := 2) (ykc_202 (e := (1, .ldc 182, 0)) rfl) rfl rfl ?_
            refine w_cv (as := [.ref 170, .ref 1048627]) (r := []) (ykc_202 (e := (6, .invokevirtual 184, 0)) rfl) rfl rfl rfl rfl (zm_takesOf hS1 hT zstr_dot) (fun v1651 ph1652 hv => ?_)
            rcases hv with ⟨ft, ⟨k9, hk9, ha9, hc9, rfl, hft⟩ | ⟨hn9, rfl, hft⟩⟩
            · have tk9 := znt (k := k9) (by omega)
              have hor : (k9 = 0 ∧ t (2 + f) = 46) ∨ (k9 = 1 ∧ t (2 + f) = 35) := by
                rcases (show k9 = 0 ∨ k9 = 1 by omega) with e | e
                · subst e; exact Or.inl ⟨rfl, hc9⟩
                · subst e; exact Or.inr ⟨rfl, hc9⟩
              have hgood : 2 + f < ln ∧ (t (2 + f) = 46 ∨ t (2 + f) = 35) := by omega
              show zW n D 202 Q 67 [some (.ref 170), some (.int (zn (zVd ln t 0))), some (.int (zn (zVd ln t 1))), some (.int (Int32.ofInt 1)), some (.int (zn f)), x5] [.int (zn k9)] ph1652
              refine w_store (pc' := 69) (L' := [some (.ref 170), some (.int (zn (zVd ln t 0))), some (.int (zn (zVd ln t 1))), some (.int (Int32.ofInt 1)), some (.int (zn f)), some (.int (zn k9))]) (st' := []) (m := 2) (ykc_202 (e := (3, .istore 5, 0)) rfl) rfl rfl ?_
              refine w_load (pc' := 70) (v := .ref 170) (m := 1) (ykc_202 (e := (2, .aload_n kF0, 0)) rfl) rfl rfl ?_
              refine w_gf (pc' := 73) (v := .ref 177) (ykc_202 (e := (5, .getfield 50, 0)) rfl) rfl ((ft.1 170 18 (by decide) (by decide)).trans ((hfr.1 170 18 (by decide) (by decide)).trans (zsg hS zs_170_18))) rfl ?_
              refine w_load (pc' := 75) (v := .int (zn f)) (m := 2) (ykc_202 (e := (2, .iload 4, 0)) rfl) rfl rfl ?_
              refine w_load (pc' := 77) (v := .int (zn k9)) (m := 2) (ykc_202 (e := (2, .iload 5, 0)) rfl) rfl rfl ?_
              refine w_alu (pc' := 78) (st' := [.int (Int32.ofInt 1), .int (zn k9), .int (zn f), .ref 177]) (ykc_202 (e := (0, .iconst 1, 0)) rfl) rfl rfl ?_
              refine w_ine (ykc_202 (e := (4, .if_icmp .ne 7, 85)) rfl) rfl (fun b1653 => ?_) (fun b1653 => ?_)
              · refine w_alu (pc' := 86) (st' := [.int (Int32.ofInt 0), .int (zn f), .ref 177]) (ykc_202 (e := (0, .iconst 0, 0)) rfl) rfl rfl ?_
                refine w_bas (pc' := 87) (k := f) (ykc_202 (e := (5, .bastore, 0)) rfl) (by omega) rfl (fun ph1655 u1654 => ?_)
                refine w_load (pc' := 89) (v := .int (zn k9)) (m := 2) (ykc_202 (e := (2, .iload 5, 0)) rfl) rfl rfl ?_
                refine w_zlt (ykc_202 (e := (4, .ifCond .lt 7, 96)) rfl) rfl (fun q => by exfalso; omega) (fun b1656 => ?_)
                refine w_alu (pc' := 93) (st' := [.int (Int32.ofInt 1)]) (ykc_202 (e := (0, .iconst 1, 0)) rfl) rfl rfl ?_
                refine w_br (pc' := 97) (st' := [.int (Int32.ofInt 1)]) (ykc_202 (e := (4, .goto 4, 97)) rfl) rfl ?_
                refine w_store (pc' := 98) (L' := [some (.ref 170), some (.int (zn (zVd ln t 0))), some (.int (zn (zVd ln t 1))), some (.int (Int32.ofInt 1)), some (.int (zn f)), some (.int (zn k9))]) (st' := []) (m := 1) (ykc_202 (e := (3, .istore_n kF3, 0)) rfl) rfl rfl ?_
                have e1657 : (zn f) + Int32.ofInt 1 = zn (f + 1) := (zaddN (a := f) (b := 1) (znt (by omega)) c_5 (by omega))
                have te1657 := znt (k := f + 1) (by omega)
                refine w_store (pc' := 101) (L' := [some (.ref 170), some (.int (zn (zVd ln t 0))), some (.int (zn (zVd ln t 1))), some (.int (Int32.ofInt 1)), some (.int (zn (f + 1))), some (.int (zn k9))]) (st' := []) (m := 3) (ykc_202 (e := (3, .iinc 4 1, 0)) rfl) (by rw [← e1657]; rfl) rfl ?_
                refine w_gb (ykc_202 (e := (4, .goto (-52), 49)) rfl) (fun k1658 hk1658 => ?_)
                have er : zVr t f = false := decide_eq_false (by omega)
                have hx : zc ph1655 177 f = some (.int (zI (zVr t f))) := by rw [er]; exact u1654.1
                exact ih k1658 hk1658 (f + 1) _ _ (by omega) (fun i hi => by
                  by_cases e : i = f
                  · subst e; exact zVs_1 hgood
                  · exact hg i (by omega)) (zFr_trans hfr (zFr_trans (zFr_mono ft (by simp) (by simp)) (zFr_st u1654 (Or.inl (by simp))))) (zTm_F (zFr_st u1654 (Or.inl (by simp)) : zFr [177] [] _ _) (by simp) (by simp) (by simp) hft) (fun i hi => by
                  by_cases e : i = f
                  · subst e; exact hx
                  · exact (u1654.2.1 177 i (fun q => e q.2)).trans ((ft.1 177 i (by simp) (by simp)).trans (hrr i (by omega))))
              · refine w_alu (pc' := 82) (st' := [.int (Int32.ofInt 1), .int (zn f), .ref 177]) (ykc_202 (e := (0, .iconst 1, 0)) rfl) rfl rfl ?_
                refine w_br (pc' := 86) (st' := [.int (Int32.ofInt 1), .int (zn f), .ref 177]) (ykc_202 (e := (4, .goto 4, 86)) rfl) rfl ?_
                refine w_bas (pc' := 87) (k := f) (ykc_202 (e := (5, .bastore, 0)) rfl) (by omega) rfl (fun ph1660 u1659 => ?_)
                refine w_load (pc' := 89) (v := .int (zn k9)) (m := 2) (ykc_202 (e := (2, .iload 5, 0)) rfl) rfl rfl ?_
                refine w_zlt (ykc_202 (e := (4, .ifCond .lt 7, 96)) rfl) rfl (fun q => by exfalso; omega) (fun b1661 => ?_)
                refine w_alu (pc' := 93) (st' := [.int (Int32.ofInt 1)]) (ykc_202 (e := (0, .iconst 1, 0)) rfl) rfl rfl ?_
                refine w_br (pc' := 97) (st' := [.int (Int32.ofInt 1)]) (ykc_202 (e := (4, .goto 4, 97)) rfl) rfl ?_
                refine w_store (pc' := 98) (L' := [some (.ref 170), some (.int (zn (zVd ln t 0))), some (.int (zn (zVd ln t 1))), some (.int (Int32.ofInt 1)), some (.int (zn f)), some (.int (zn k9))]) (st' := []) (m := 1) (ykc_202 (e := (3, .istore_n kF3, 0)) rfl) rfl rfl ?_
                have e1662 : (zn f) + Int32.ofInt 1 = zn (f + 1) := (zaddN (a := f) (b := 1) (znt (by omega)) c_5 (by omega))
                have te1662 := znt (k := f + 1) (by omega)
                refine w_store (pc' := 101) (L' := [some (.ref 170), some (.int (zn (zVd ln t 0))), some (.int (zn (zVd ln t 1))), some (.int (Int32.ofInt 1)), some (.int (zn (f + 1))), some (.int (zn k9))]) (st' := []) (m := 3) (ykc_202 (e := (3, .iinc 4 1, 0)) rfl) (by rw [← e1662]; rfl) rfl ?_
                refine w_gb (ykc_202 (e := (4, .goto (-52), 49)) rfl) (fun k1663 hk1663 => ?_)
                have er : zVr t f = true := decide_eq_true (by omega)
                have hx : zc ph1660 177 f = some (.int (zI (zVr t f))) := by rw [er]; exact u1659.1
                exact ih k1663 hk1663 (f + 1) _ _ (by omega) (fun i hi => by
                  by_cases e : i = f
                  · subst e; exact zVs_1 hgood
                  · exact hg i (by omega)) (zFr_trans hfr (zFr_trans (zFr_mono ft (by simp) (by simp)) (zFr_st u1659 (Or.inl (by simp))))) (zTm_F (zFr_st u1659 (Or.inl (by simp)) : zFr [177] [] _ _) (by simp) (by simp) (by simp) hft) (fun i hi => by
                  by_cases e : i = f
                  · subst e; exact hx
                  · exact (u1659.2.1 177 i (fun q => e q.2)).trans ((ft.1 177 i (by simp) (by simp)).trans (hrr i (by omega))))
            · have hbad : ¬ (2 + f < ln ∧ (t (2 + f) = 46 ∨ t (2 + f) = 35)) := by
                intro h9
                have q0 := hn9 h9.1 0 (by decide)
                have q1 := hn9 h9.1 1 (by decide)
                omega
              have h8 := zVa_2 z0 z1 hg (zVs_0 hbad) (show f < zVN ln t by unfold zVN; omega)
              show zW n D 202 Q 67 [some (.ref 170), some (.int (zn (zVd ln t 0))), some (.int (zn (zVd ln t 1))), some (.int (Int32.ofInt 1)), some (.int (zn f)), x5] [.int (Int32.ofInt (-1))] ph1652
              refine w_store (pc' := 69) (L' := [some (.ref 170), some (.int (zn (zVd ln t 0))), some (.int (zn (zVd ln t 1))), some (.int (Int32.ofInt 1)), some (.int (zn f)), some (.int (Int32.ofInt (-1)))]) (st' := []) (m := 2) (ykc_202 (e := (3, .istore 5, 0)) rfl) rfl rfl ?_
              refine w_load (pc' := 70) (v := .ref 170) (m := 1) (ykc_202 (e := (2, .aload_n kF0, 0)) rfl) rfl rfl ?_
              refine w_gf (pc' := 73) (v := .ref 177) (ykc_202 (e := (5, .getfield 50, 0)) rfl) rfl ((ft.1 170 18 (by decide) (by decide)).trans ((hfr.1 170 18 (by decide) (by decide)).trans (zsg hS zs_170_18))) rfl ?_
              refine w_load (pc' := 75) (v := .int (zn f)) (m := 2) (ykc_202 (e := (2, .iload 4, 0)) rfl) rfl rfl ?_
              refine w_load (pc' := 77) (v := .int (Int32.ofInt (-1))) (m := 2) (ykc_202 (e := (2, .iload 5, 0)) rfl) rfl rfl ?_
              refine w_alu (pc' := 78) (st' := [.int (Int32.ofInt 1), .int (Int32.ofInt (-1)), .int (zn f), .ref 177]) (ykc_202 (e := (0, .iconst 1, 0)) rfl) rfl rfl ?_
              refine w_ine (ykc_202 (e := (4, .if_icmp .ne 7, 85)) rfl) rfl (fun b1664 => ?_) (fun q => by exfalso; omega)
              refine w_alu (pc' := 86) (st' := [.int (Int32.ofInt 0), .int (zn f), .ref 177]) (ykc_202 (e := (0, .iconst 0, 0)) rfl) rfl rfl ?_
              refine w_bas (pc' := 87) (k := f) (ykc_202 (e := (5, .bastore, 0)) rfl) (by omega) rfl (fun ph1666 u1665 => ?_)
              refine w_load (pc' := 89) (v := .int (Int32.ofInt (-1))) (m := 2) (ykc_202 (e := (2, .iload 5, 0)) rfl) rfl rfl ?_
              refine w_zlt (ykc_202 (e := (4, .ifCond .lt 7, 96)) rfl) rfl (fun b1667 => ?_) (fun q => by exfalso; omega)
              refine w_alu (pc' := 97) (st' := [.int (Int32.ofInt 0)]) (ykc_202 (e := (0, .iconst 0, 0)) rfl) rfl rfl ?_
              refine w_store (pc' := 98) (L' := [some (.ref 170), some (.int (zn (zVd ln t 0))), some (.int (zn (zVd ln t 1))), some (.int (Int32.ofInt 0)), some (.int (zn f)), some (.int (Int32.ofInt (-1)))]) (st' := []) (m := 1) (ykc_202 (e := (3, .istore_n kF3, 0)) rfl) rfl rfl ?_
              have e1668 : (zn f) + Int32.ofInt 1 = zn (f + 1) := (zaddN (a := f) (b := 1) (znt (by omega)) c_5 (by omega))
              have te1668 := znt (k := f + 1) (by omega)
              refine w_store (pc' := 101) (L' := [some (.ref 170), some (.int (zn (zVd ln t 0))), some (.int (zn (zVd ln t 1))), some (.int (Int32.ofInt 0)), some (.int (zn (f + 1))), some (.int (Int32.ofInt (-1)))]) (st' := []) (m := 3) (ykc_202 (e := (3, .iinc 4 1, 0)) rfl) (by rw [← e1668]; rfl) rfl ?_
              refine w_gb (ykc_202 (e := (4, .goto (-52), 49)) rfl) (fun k1669 hk1669 => ?_)
              refine w_load (pc' := 50) (v := .int (Int32.ofInt 0)) (m := 1) (ykc_202 (e := (2, .iload_n kF3, 0)) rfl) rfl rfl ?_
              refine w_zeq (ykc_202 (e := (4, .ifCond .eq 54, 104)) rfl) rfl (fun b1670 => ?_) (fun q => by exfalso; omega)
              refine w_load (pc' := 105) (v := .int (Int32.ofInt 0)) (m := 1) (ykc_202 (e := (2, .iload_n kF3, 0)) rfl) rfl rfl ?_
              refine w_zeq (ykc_202 (e := (4, .ifCond .eq 14, 119)) rfl) rfl (fun b1671 => ?_) (fun q => by exfalso; omega)
              refine w_alu (pc' := 120) (st' := [.int (Int32.ofInt (-1))]) (ykc_202 (e := (0, .iconst (-1), 0)) rfl) rfl rfl ?_
              refine w_load (pc' := 121) (v := .ref 170) (m := 1) (ykc_202 (e := (2, .aload_n kF0, 0)) rfl) rfl rfl ?_
              refine w_gf (pc' := 124) (v := .int (zn (2 + f))) (ykc_202 (e := (5, .getfield 139, 0)) rfl) rfl ((u1665.2.1 170 15 (fun q => absurd q.1 (by decide))).trans hft.1) rfl ?_
              obtain ⟨z1672, e_z1672, h_z1672⟩ : ∃ zq : Int32, (Int32.ofInt (-1)) - (zn (2 + f)) = zq ∧ zq.toInt = (-1 : Int) - ((2 + f : Nat) : Int) := ⟨_, rfl, zm1sub (by omega) (by omega) (by omega)⟩
              refine w_alu (pc' := 125) (st' := [.int z1672]) (ykc_202 (e := (0, .isub, 0)) rfl) (by rw [← e_z1672]; rfl) rfl ?_
              refine w_ret (v := (some (.int z1672))) (ykc_202 (e := (7, .ireturn, 0)) rfl) (zr_v rfl) ?_
              have f3 : zFr [177] [(170, 0), (170, 14), (170, 15), (170, 16), (170, 17)] ph ph1666 := zFr_trans hfr (zFr_trans (zFr_mono ft (by simp) (by simp)) (zFr_st u1665 (Or.inl (by simp))))
              rw [hQ]
              exact ⟨_, rfl, by rw [h8.1]; omega, Or.inr ⟨h8.2, zMl_F f3 (by simp) (by simp) (by simp) (by simp) hL, zMp_F f3 (by simp) (by simp) (by simp) hN, zNr_F f3 (by simp) (by simp) hv, zMu_F f3 (by simp) (by simp) (by simp) hU, zMk_F f3 (by simp) (by simp) (by simp) hk, zMh_F f3 (by simp) (by simp) hh⟩⟩
            
      exact hl n 0 _ ph1616 (Nat.zero_le _) (fun i hi => absurd hi (Nat.not_lt_zero i)) (zFr_mono f2 (by simp) (by simp)) hfd1 (fun i hi => absurd hi (Nat.not_lt_zero i))
      
    · have z1 : zVd ln t 1 = 0 := if_neg (by omega)
      have tz := znt (k := 0 + 1) (by omega)
      show zW n D 202 Q 35 [some (.ref 170), some (.int (zn (zVd ln t 0))), none, none, none, none] [.int (Int32.ofInt (-1))] ph1616
      refine w_store (pc' := 36) (L' := [some (.ref 170), some (.int (zn (zVd ln t 0))), some (.int (Int32.ofInt (-1))), none, none, none]) (st' := []) (m := 1) (ykc_202 (e := (3, .istore_n kF2, 0)) rfl) rfl rfl ?_
      refine w_load (pc' := 37) (v := .int (Int32.ofInt (-1))) (m := 1) (ykc_202 (e := (2, .iload_n kF2, 0)) rfl) rfl rfl ?_
      refine w_zle (ykc_202 (e := (4, .ifCond .le 7, 44)) rfl) rfl (fun b1673 => ?_) (fun q => by exfalso; omega)
      refine w_alu (pc' := 45) (st' := [.int (Int32.ofInt 0)]) (ykc_202 (e := (0, .iconst 0, 0)) rfl) rfl rfl ?_
      refine w_store (pc' := 46) (L' := [some (.ref 170), some (.int (zn (zVd ln t 0))), some (.int (Int32.ofInt (-1))), some (.int (Int32.ofInt 0)), none, none]) (st' := []) (m := 1) (ykc_202 (e := (3, .istore_n kF3, 0)) rfl) rfl rfl ?_
      refine w_alu (pc' := 47) (st' := [.int (Int32.ofInt 0)]) (ykc_202 (e := (0, .iconst 0, 0)) rfl) rfl rfl ?_
      refine w_store (pc' := 49) (L' := [some (.ref 170), some (.int (zn (zVd ln t 0))), some (.int (Int32.ofInt (-1))), some (.int (Int32.ofInt 0)), some (.int (Int32.ofInt 0)), none]) (st' := []) (m := 2) (ykc_202 (e := (3, .istore 4, 0)) rfl) rfl rfl ?_
      refine w_load (pc' := 50) (v := .int (Int32.ofInt 0)) (m := 1) (ykc_202 (e := (2, .iload_n kF3, 0)) rfl) rfl rfl ?_
      refine w_zeq (ykc_202 (e := (4, .ifCond .eq 54, 104)) rfl) rfl (fun b1674 => ?_) (fun q => by exfalso; omega)
      refine w_load (pc' := 105) (v := .int (Int32.ofInt 0)) (m := 1) (ykc_202 (e := (2, .iload_n kF3, 0)) rfl) rfl rfl ?_
      refine w_zeq (ykc_202 (e := (4, .ifCond .eq 14, 119)) rfl) rfl (fun b1675 => ?_) (fun q => by exfalso; omega)
      refine w_alu (pc' := 120) (st' := [.int (Int32.ofInt (-1))]) (ykc_202 (e := (0, .iconst (-1), 0)) rfl) rfl rfl ?_
      refine w_load (pc' := 121) (v := .ref 170) (m := 1) (ykc_202 (e := (2, .aload_n kF0, 0)) rfl) rfl rfl ?_
      refine w_gf (pc' := 124) (v := .int (zn (0 + 1))) (ykc_202 (e := (5, .getfield 139, 0)) rfl) rfl hfd1.1 rfl ?_
      obtain ⟨z1676, e_z1676, h_z1676⟩ : ∃ zq : Int32, (Int32.ofInt (-1)) - (zn (0 + 1)) = zq ∧ zq.toInt = (-1 : Int) - ((0 + 1 : Nat) : Int) := ⟨_, rfl, zm1sub (by omega) (by omega) (by omega)⟩
      refine w_alu (pc' := 125) (st' := [.int z1676]) (ykc_202 (e := (0, .isub, 0)) rfl) (by rw [← e_z1676]; rfl) rfl ?_
      refine w_ret (v := (some (.int z1676))) (ykc_202 (e := (7, .ireturn, 0)) rfl) (zr_v rfl) ?_
      have f2 : zFr [] [(170, 0), (170, 14), (170, 15), (170, 16), (170, 17)] ph ph1616 := zFr_trans f1 (zFr_trans (zFr_mono fd0 (by simp) (by simp)) (zFr_mono fd1 (by simp) (by simp)))
      have h8 := zVa_1 z0 z1
      rw [hQ]
      exact ⟨_, rfl, by rw [h8.1]; omega, Or.inr ⟨h8.2, zMl_F f2 (by simp) (by simp) (by simp) (by simp) hL, zMp_F f2 (by simp) (by simp) (by simp) hN, zNr_F f2 (by simp) (by simp) hv, zMu_F f2 (by simp) (by simp) (by simp) hU, zMk_F f2 (by simp) (by simp) (by simp) hk, zMh_F f2 (by simp) (by simp) hh⟩⟩
    
  · have z0 : zVd ln t 0 = 0 := if_neg (by omega)
    have tz := znt (k := 0) (by omega)
    show zW n D 202 Q 19 [some (.ref 170), none, none, none, none, none] [.int (Int32.ofInt (-1))] ph1613
    refine w_store (pc' := 20) (L' := [some (.ref 170), some (.int (Int32.ofInt (-1))), none, none, none, none]) (st' := []) (m := 1) (ykc_202 (e := (3, .istore_n kF1, 0)) rfl) rfl rfl ?_
    refine w_load (pc' := 21) (v := .int (Int32.ofInt (-1))) (m := 1) (ykc_202 (e := (2, .iload_n kF1, 0)) rfl) rfl rfl ?_
    refine w_zge (ykc_202 (e := (4, .ifCond .ge 7, 28)) rfl) rfl (fun q => by exfalso; omega) (fun b1677 => ?_)
    refine w_alu (pc' := 25) (st' := [.int (Int32.ofInt (-1))]) (ykc_202 (e := (0, .iconst (-1), 0)) rfl) rfl rfl ?_
    refine w_br (pc' := 35) (st' := [.int (Int32.ofInt (-1))]) (ykc_202 (e := (4, .goto 10, 35)) rfl) rfl ?_
    refine w_store (pc' := 36) (L' := [some (.ref 170), some (.int (Int32.ofInt (-1))), some (.int (Int32.ofInt (-1))), none, none, none]) (st' := []) (m := 1) (ykc_202 (e := (3, .istore_n kF2, 0)) rfl) rfl rfl ?_
    refine w_load (pc' := 37) (v := .int (Int32.ofInt (-1))) (m := 1) (ykc_202 (e := (2, .iload_n kF2, 0)) rfl) rfl rfl ?_
    refine w_zle (ykc_202 (e := (4, .ifCond .le 7, 44)) rfl) rfl (fun b1678 => ?_) (fun q => by exfalso; omega)
    refine w_alu (pc' := 45) (st' := [.int (Int32.ofInt 0)]) (ykc_202 (e := (0, .iconst 0, 0)) rfl) rfl rfl ?_
    refine w_store (pc' := 46) (L' := [some (.ref 170), some (.int (Int32.ofInt (-1))), some (.int (Int32.ofInt (-1))), some (.int (Int32.ofInt 0)), none, none]) (st' := []) (m := 1) (ykc_202 (e := (3, .istore_n kF3, 0)) rfl) rfl rfl ?_
    refine w_alu (pc' := 47) (st' := [.int (Int32.ofInt 0)]) (ykc_202 (e := (0, .iconst 0, 0)) rfl) rfl rfl ?_
    refine w_store (pc' := 49) (L' := [some (.ref 170), some (.int (Int32.ofInt (-1))), some (.int (Int32.ofInt (-1))), some (.int (Int32.ofInt 0)), some (.int (Int32.ofInt 0)), none]) (st' := []) (m := 2) (ykc_202 (e := (3, .istore 4, 0)) rfl) rfl rfl ?_
    refine w_load (pc' := 50) (v := .int (Int32.ofInt 0)) (m := 1) (ykc_202 (e := (2, .iload_n kF3, 0)) rfl) rfl rfl ?_
    refine w_zeq (ykc_202 (e := (4, .ifCond .eq 54, 104)) rfl) rfl (fun b1679 => ?_) (fun q => by exfalso; omega)
    refine w_load (pc' := 105) (v := .int (Int32.ofInt 0)) (m := 1) (ykc_202 (e := (2, .iload_n kF3, 0)) rfl) rfl rfl ?_
    refine w_zeq (ykc_202 (e := (4, .ifCond .eq 14, 119)) rfl) rfl (fun b1680 => ?_) (fun q => by exfalso; omega)
    refine w_alu (pc' := 120) (st' := [.int (Int32.ofInt (-1))]) (ykc_202 (e := (0, .iconst (-1), 0)) rfl) rfl rfl ?_
    refine w_load (pc' := 121) (v := .ref 170) (m := 1) (ykc_202 (e := (2, .aload_n kF0, 0)) rfl) rfl rfl ?_
    refine w_gf (pc' := 124) (v := .int (zn (0))) (ykc_202 (e := (5, .getfield 139, 0)) rfl) rfl hfd0.1 rfl ?_
    obtain ⟨z1681, e_z1681, h_z1681⟩ : ∃ zq : Int32, (Int32.ofInt (-1)) - (zn (0)) = zq ∧ zq.toInt = (-1 : Int) - ((0 : Nat) : Int) := ⟨_, rfl, zm1sub (by omega) (by omega) (by omega)⟩
    refine w_alu (pc' := 125) (st' := [.int z1681]) (ykc_202 (e := (0, .isub, 0)) rfl) (by rw [← e_z1681]; rfl) rfl ?_
    refine w_ret (v := (some (.int z1681))) (ykc_202 (e := (7, .ireturn, 0)) rfl) (zr_v rfl) ?_
    have f2 : zFr [] [(170, 0), (170, 14), (170, 15), (170, 16), (170, 17)] ph ph1613 := zFr_trans f1 (zFr_mono fd0 (by simp) (by simp))
    have h8 := zVa_0 z0
    rw [hQ]
    exact ⟨_, rfl, by rw [h8.1]; omega, Or.inr ⟨h8.2, zMl_F f2 (by simp) (by simp) (by simp) (by simp) hL, zMp_F f2 (by simp) (by simp) (by simp) hN, zNr_F f2 (by simp) (by simp) hv, zMu_F f2 (by simp) (by simp) (by simp) hU, zMk_F f2 (by simp) (by simp) (by simp) hk, zMh_F f2 (by simp) (by simp) hh⟩⟩
end
