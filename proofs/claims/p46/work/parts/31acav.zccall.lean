/-! the class: faces, trims, steps, undo, by W; printed by wip/z/z_t_ccall.py -/
def zCu (ph : pm_H) (P G nx u : Nat) (w : Nat → Nat → Nat) : Prop := zc ph 43 1 = some (.int (zn nx)) ∧ nx < 15 ∧ zc ph 43 2 = some (.int (zn u)) ∧ u ≤ 15 ∧ ∀ i, i < u → zSd ph (45 + 6 * ((nx + 15 - u + i) % 15)) P G (w i)
def zCk (ph : pm_H) (P G fl : Nat) (sv : Nat → Nat → Nat) : Prop := zc ph 43 4 = some (.int (zn fl)) ∧ fl < 8 ∧ ∀ i, i < 3 → fl.testBit i = true → zSd ph (136 + 6 * i) P G (sv i)
def zCh (ph : pm_H) (hn : Nat) : Prop := zc ph 0 14 = some (.int (zn hn)) ∧ hn ≤ 10
/-- all of the class that the calls tie -/
def zKC (ph : pm_H) (R C : Nat) (rk : Nat → Bool) (P G : Nat) (v : Nat → Nat) (nx u : Nat) (w : Nat → Nat → Nat) (fl : Nat) (sv : Nat → Nat → Nat) (hn : Nat) : Prop := zCl ph R C rk ∧ zSd ph 25 P G v ∧ zCu ph P G nx u w ∧ zCk ph P G fl sv ∧ zCh ph hn
theorem zCk_F {A : List Nat} {F : List (Nat × Nat)} {p q : pm_H} {P G fl : Nat} {sv : Nat → Nat → Nat} (f : zFr A F p q) (h1 : 43 ∉ A) (h2 : (43, 4) ∉ F) (h3 : ∀ j, 136 ≤ j → j < 160 → j ∉ A) (h4 : ∀ j i, 136 ≤ j → j < 160 → (j, i) ∉ F) (h : zCk p P G fl sv) : zCk q P G fl sv := ⟨(f.1 _ _ h1 h2).trans h.1, h.2.1, fun i hi hb => zSd_F f (fun j hj => h3 _ (by omega) (by omega)) (fun j k hj => h4 _ _ (by omega) (by omega)) (h.2.2 i hi hb)⟩
theorem zCu_F {A : List Nat} {F : List (Nat × Nat)} {p q : pm_H} {P G nx u : Nat} {w : Nat → Nat → Nat} (f : zFr A F p q) (h1 : 43 ∉ A) (h2 : (43, 1) ∉ F ∧ (43, 2) ∉ F) (h3 : ∀ j, 45 ≤ j → j < 135 → j ∉ A) (h4 : ∀ j i, 45 ≤ j → j < 135 → (j, i) ∉ F) (h : zCu p P G nx u w) : zCu q P G nx u w := ⟨(f.1 _ _ h1 h2.1).trans h.1, h.2.1, (f.1 _ _ h1 h2.2).trans h.2.2.1, h.2.2.2.1, fun i hi => zSd_F f (fun j hj => h3 _ (by omega) (by omega)) (fun j k hj => h4 _ _ (by omega) (by omega)) (h.2.2.2.2 i hi)⟩
theorem zCu_push {p q1 q2 q : pm_H} {P G nx u : Nat} {w : Nat → Nat → Nat} {v : Nat → Nat} (h : zCu p P G nx u w) (f : zCo (45 + 6 * nx) p q1) (u1 : zst q1 q2 43 1 (.int (zn (if nx + 1 < 15 then nx + 1 else 0)))) (u2 : zst q2 q 43 2 (.int (zn (min 15 (u + 1))))) (hd : zSd q (45 + 6 * nx) P G v) : zCu q P G (if nx + 1 < 15 then nx + 1 else 0) (zAd u) (zAw u (zWp u w v)) := by
  obtain ⟨g1, hn, g2, hu, hr⟩ := h
  have ea : zAd u = min 15 (u + 1) := by
    unfold zAd
    split <;> omega
  refine ⟨(u2.2.1 43 1 (fun q => absurd q.2 (by first | exact Nat.ne_of_beq_eq_false rfl | decide))).trans u1.1, by split <;> omega, by rw [ea]; exact u2.1, zAd_15 hu, fun i hi => ?_⟩
  have en : (if nx + 1 < 15 then nx + 1 else 0) = (nx + 1) % 15 := by split <;> omega
  rw [en]
  have fr : zFr [] [(43, 1), (43, 2)] q1 q := zFr_trans (zFr_st u1 (Or.inr (by first | exact zqj rfl | simp))) (zFr_st u2 (Or.inr (by first | exact zqj rfl | simp)))
  unfold zAw zWp
  by_cases h15 : u < 15
  · have e2 : zAd u = u + 1 := if_pos h15
    rw [e2] at hi ⊢
    rw [if_pos h15]
    by_cases e : i = u
    · rw [if_pos e, show ((nx + 1) % 15 + 15 - (u + 1) + i) % 15 = nx by omega]
      exact hd
    · rw [if_neg e, show ((nx + 1) % 15 + 15 - (u + 1) + i) % 15 = (nx + 15 - u + i) % 15 by omega]
      exact zSd_F fr (by intro j hj; simp) (by intro j k hj; simp <;> omega) (zCo_d (by omega) f (hr i (by omega)))
  · have e2 : zAd u = 15 := if_neg h15
    rw [e2] at hi ⊢
    rw [if_neg h15]
    by_cases e : i + 1 = u
    · rw [if_pos e, show ((nx + 1) % 15 + 15 - 15 + i) % 15 = nx by omega]
      exact hd
    · rw [if_neg e, show ((nx + 1) % 15 + 15 - 15 + i) % 15 = (nx + 15 - u + (i + 1)) % 15 by omega]
      exact zSd_F fr (by intro j hj; simp) (by intro j k hj; simp <;> omega) (zCo_d (by omega) f (hr (i + 1) (by omega)))
theorem zCu_pop {p q1 q2 q : pm_H} {P G nx u : Nat} {w : Nat → Nat → Nat} (h : zCu p P G nx u w) (hu : 0 < u) (f : zCo 25 p q1) (u1 : zst q1 q2 43 1 (.int (zn ((nx + 14) % 15)))) (u2 : zst q2 q 43 2 (.int (zn (u - 1)))) : zCu q P G ((nx + 14) % 15) (u - 1) w := by
  obtain ⟨g1, hn, g2, hu15, hr⟩ := h
  refine ⟨(u2.2.1 43 1 (fun q => absurd q.2 (by first | exact Nat.ne_of_beq_eq_false rfl | decide))).trans u1.1, by omega, u2.1, by omega, fun i hi => ?_⟩
  have fr : zFr [] [(43, 1), (43, 2)] q1 q := zFr_trans (zFr_st u1 (Or.inr (by first | exact zqj rfl | simp))) (zFr_st u2 (Or.inr (by first | exact zqj rfl | simp)))
  rw [show ((nx + 14) % 15 + 15 - (u - 1) + i) % 15 = (nx + 15 - u + i) % 15 by omega]
  exact zSd_F fr (by intro j hj; simp) (by intro j k hj; simp <;> omega) (zCo_d (by omega) f (hr i (by omega)))
theorem zc_rem {ph : pm_H} (hS : zSh ph) {P G nx u : Nat} {v : Nat → Nat} {x : Int32} (hd : zSd ph 31 P G v) (hnx : zc ph 43 1 = some (.int (zn nx))) (hu : zc ph 43 2 = some (.int (zn u))) (hn15 : nx < 15) (hu15 : u ≤ 15) : zM 140 [.ref 0, .int x] ph (fun v0 q => v0 = some (.int x) ∧ ((x.toInt < 0 ∧ ph = q) ∨ (0 ≤ x.toInt ∧ (∃ q1 q2, zCo (45 + 6 * nx) ph q1 ∧ zst q1 q2 43 1 (.int (zn (if nx + 1 < 15 then nx + 1 else 0))) ∧ zst q2 q 43 2 (.int (zn (min 15 (u + 1))))) ∧ zSd q (45 + 6 * nx) P G v))) := by
  obtain ⟨Q, hQ⟩ : ∃ Q : Option Value → pm_H → Prop, Q = (fun v0 q => v0 = some (.int x) ∧ ((x.toInt < 0 ∧ ph = q) ∨ (0 ≤ x.toInt ∧ (∃ q1 q2, zCo (45 + 6 * nx) ph q1 ∧ zst q1 q2 43 1 (.int (zn (if nx + 1 < 15 then nx + 1 else 0))) ∧ zst q2 q 43 2 (.int (zn (min 15 (u + 1))))) ∧ zSd q (45 + 6 * nx) P G v))) := ⟨_, rfl⟩
  rw [← hQ]
  refine zM_mk fun n D => ?_
  show zW n D 140 Q 0 [some (.ref 0), some (.int x)] [] ph
  refine w_load (pc' := 1) (v := .int x) (m := 1) (ykc_140 (e := (2, .iload_n kF1, 0)) rfl) rfl rfl ?_
  refine w_zlt (ykc_140 (e := (4, .ifCond .lt 14, 15)) rfl) rfl (fun b1003 => ?_) (fun b1003 => ?_)
  · refine w_load (pc' := 16) (v := .int x) (m := 1) (ykc_140 (e := (2, .iload_n kF1, 0)) rfl) rfl rfl ?_
    refine w_ret (v := (some (.int x))) (ykc_140 (e := (7, .ireturn, 0)) rfl) (zr_v rfl) ?_
    rw [hQ]
    exact ⟨rfl, Or.inl ⟨by omega, rfl⟩⟩
  · refine w_load (pc' := 5) (v := .ref 0) (m := 1) (ykc_140 (e := (2, .aload_n kF0, 0)) rfl) rfl rfl ?_
    refine w_gf (pc' := 8) (v := .ref 43) (ykc_140 (e := (5, .getfield 55, 0)) rfl) rfl (zsg hS zs_0_7) rfl ?_
    refine w_load (pc' := 9) (v := .ref 0) (m := 1) (ykc_140 (e := (2, .aload_n kF0, 0)) rfl) rfl rfl ?_
    refine w_gf (pc' := 12) (v := .ref 31) (ykc_140 (e := (5, .getfield 46, 0)) rfl) rfl (zsg hS zs_0_5) rfl ?_
    refine w_cv (as := [.ref 43, .ref 31]) (r := []) (ykc_140 (e := (6, .invokevirtual 278, 0)) rfl) rfl rfl rfl rfl (zc_push hS (Or.inr rfl) hd hnx hu hn15 hu15) (fun v1004 ph1005 hv => ?_)
    obtain ⟨rfl, hpp, hpd⟩ := hv
    show zW n D 140 Q 15 [some (.ref 0), some (.int x)] [] ph1005
    refine w_load (pc' := 16) (v := .int x) (m := 1) (ykc_140 (e := (2, .iload_n kF1, 0)) rfl) rfl rfl ?_
    refine w_ret (v := (some (.int x))) (ykc_140 (e := (7, .ireturn, 0)) rfl) (zr_v rfl) ?_
    rw [hQ]
    exact ⟨rfl, Or.inr ⟨by omega, hpp, hpd⟩⟩
theorem zKC_31 {p q : pm_H} {R C P G nx u fl hn : Nat} {rk : Nat → Bool} {v : Nat → Nat} {w sv : Nat → Nat → Nat} (f : zCo 31 p q) (h : zKC p R C rk P G v nx u w fl sv hn) : zKC q R C rk P G v nx u w fl sv hn := ⟨zCl_F f (by first | exact ⟨zqm rfl, zqm rfl, zqm rfl⟩ | simp) (by intro i hi; simp) (by simp) h.1, zCo_d (by omega) f h.2.1, zCu_F f (by first | exact zqm rfl | simp) (by first | exact ⟨zqp rfl, zqp rfl⟩ | simp) (by intro j h1 h2; simp <;> omega) (by intro j i h1 h2; simp <;> omega) h.2.2.1, zCk_F f (by first | exact zqm rfl | simp) (by first | exact zqp rfl | simp) (by intro j h1 h2; simp <;> omega) (by intro j i h1 h2; simp <;> omega) h.2.2.2.1, (f.1 _ _ (by first | exact zqm rfl | simp) (by first | exact zqp rfl | simp)).trans h.2.2.2.2.1, h.2.2.2.2.2⟩
/-- an act on now, then the row put into the history -/
theorem zKC_push {p1 p2 q1 q2 q : pm_H} {R C P G nx u fl hn a i x : Nat} {rk : Nat → Bool} {v : Nat → Nat} {w sv : Nat → Nat → Nat} (ha : a = 1 ∨ a = 2 ∨ a = 3 ∨ a = 5) (hi : i < 8) (h : zKC p1 R C rk P G v nx u w fl sv hn) (ua : zst p1 p2 (25 + a) i (.int (zn x))) (f : zCo (45 + 6 * nx) p2 q1) (u1 : zst q1 q2 43 1 (.int (zn (if nx + 1 < 15 then nx + 1 else 0)))) (u2 : zst q2 q 43 2 (.int (zn (min 15 (u + 1))))) (hd : zSd q (45 + 6 * nx) P G v) : zKC q R C rk P G (znu v (8 * (a - 1) + i) x) (if nx + 1 < 15 then nx + 1 else 0) (zAd u) (zAw u (zWp u w v)) fl sv hn := by
  obtain ⟨hL, h25, hU, hk, hh⟩ := h
  have fa : zFr [25 + a] [] p1 p2 := zFr_st ua (Or.inl (by first | exact zqi rfl | simp))
  have fr : zFr [] [(43, 1), (43, 2)] q1 q := zFr_trans (zFr_st u1 (Or.inr (by first | exact zqj rfl | simp))) (zFr_st u2 (Or.inr (by first | exact zqj rfl | simp)))
  have hnx := hU.2.1
  refine ⟨?_, ?_, zCu_push (zCu_F fa (by simp <;> omega) (by simp) (by intro j h1 h2; simp <;> omega) (by intro j i h1 h2; simp) hU) f u1 u2 hd, ?_, ?_, hh.2⟩
  · exact zCl_F fr (by first | exact ⟨zqm rfl, zqm rfl, zqm rfl⟩ | simp) (by intro i hi; simp) (by simp) (zCl_F f (by simp <;> omega) (by intro i hi; simp <;> omega) (by intro i; simp <;> omega) (zCl_F fa (by simp <;> omega) (by intro i hi; simp) (by simp) hL))
  · exact zSd_F fr (by intro j hj; simp) (by intro j k hj; simp <;> omega) (zCo_d (by omega) f (zSd_u ha hi ua h25))
  · exact zCk_F fr (by first | exact zqm rfl | simp) (by first | exact zqp rfl | simp) (by intro j h1 h2; simp) (by intro j i h1 h2; simp <;> omega) (zCk_F f (by simp <;> omega) (by simp <;> omega) (by intro j h1 h2; simp <;> omega) (by intro j i h1 h2; simp <;> omega) (zCk_F fa (by simp <;> omega) (by simp) (by intro j h1 h2; simp <;> omega) (by intro j i h1 h2; simp) hk))
  · exact (fr.1 _ _ (by first | exact zqm rfl | simp) (by first | exact zqp rfl | simp)).trans ((f.1 _ _ (by first | exact zqm rfl | simp) (by first | exact zqp rfl | simp)).trans ((fa.1 _ _ (by simp <;> omega) (by simp)).trans hh.1))
theorem zc_faces {ph : pm_H} {R C P G nx u fl hn : Nat} {rk : Nat → Bool} {v : Nat → Nat} {w : Nat → Nat → Nat} {sv : Nat → Nat → Nat} (hS : zSh ph) (hK : zKC ph R C rk P G v nx u w fl sv hn) (hO0 : zOk R C P G v) {x y : Int32} : zM 134 [.ref 0, .int x, .int y] ph (fun v0 q => ((x.toInt < 0 ∨ (P : Int) ≤ x.toInt ∨ y.toInt < 0 ∨ 8 ≤ y.toInt) ∧ v0 = some (.int (Int32.ofInt (-1))) ∧ zKC q R C rk P G v nx u w fl sv hn) ∨ (∃ p f, x = zn p ∧ y = zn f ∧ p < P ∧ f < 8 ∧ v0 = some (.int (zn (ze8 (v (8 + p)) f))) ∧ ∃ nx1, zKC q R C rk P G (znu v (8 * (2 - 1) + p) f) nx1 (zAd u) (zAw u (zWp u w v)) fl sv hn)) := by
  obtain ⟨Q, hQ⟩ : ∃ Q : Option Value → pm_H → Prop, Q = (fun v0 q => ((x.toInt < 0 ∨ (P : Int) ≤ x.toInt ∨ y.toInt < 0 ∨ 8 ≤ y.toInt) ∧ v0 = some (.int (Int32.ofInt (-1))) ∧ zKC q R C rk P G v nx u w fl sv hn) ∨ (∃ p f, x = zn p ∧ y = zn f ∧ p < P ∧ f < 8 ∧ v0 = some (.int (zn (ze8 (v (8 + p)) f))) ∧ ∃ nx1, zKC q R C rk P G (znu v (8 * (2 - 1) + p) f) nx1 (zAd u) (zAw u (zWp u w v)) fl sv hn)) := ⟨_, rfl⟩
  rw [← hQ]
  refine zM_mk fun n D => ?_
  show zW n D 134 Q 0 [some (.ref 0), some (.int x), some (.int y)] [] ph
  have hP8 : P ≤ 8 := hK.2.1.2.1
  refine w_load (pc' := 1) (v := .ref 0) (m := 1) (ykc_134 (e := (2, .aload_n kF0, 0)) rfl) rfl rfl ?_
  refine w_gf (pc' := 4) (v := .ref 31) (ykc_134 (e := (5, .getfield 46, 0)) rfl) rfl (zsg hS zs_0_5) rfl ?_
  refine w_load (pc' := 5) (v := .ref 0) (m := 1) (ykc_134 (e := (2, .aload_n kF0, 0)) rfl) rfl rfl ?_
  refine w_gf (pc' := 8) (v := .ref 25) (ykc_134 (e := (5, .getfield 42, 0)) rfl) rfl (zsg hS zs_0_4) rfl ?_
  refine w_cv (as := [.ref 31, .ref 25]) (r := []) (ykc_134 (e := (6, .invokevirtual 235, 0)) rfl) rfl rfl rfl rfl (zc_copy (zSs_of hS (S := 25) (by decide)) (zSs_of hS (S := 31) (by decide)) hK.2.1 (by omega)) (fun v1006 ph1007 hv => ?_)
  obtain ⟨rfl, fb, db⟩ := hv
  show zW n D 134 Q 11 [some (.ref 0), some (.int x), some (.int y)] [] ph1007
  refine w_load (pc' := 12) (v := .ref 0) (m := 1) (ykc_134 (e := (2, .aload_n kF0, 0)) rfl) rfl rfl ?_
  refine w_load (pc' := 13) (v := .ref 0) (m := 1) (ykc_134 (e := (2, .aload_n kF0, 0)) rfl) rfl rfl ?_
  refine w_load (pc' := 14) (v := .int x) (m := 1) (ykc_134 (e := (2, .iload_n kF1, 0)) rfl) rfl rfl ?_
  refine w_load (pc' := 15) (v := .int y) (m := 1) (ykc_134 (e := (2, .iload_n kF2, 0)) rfl) rfl rfl ?_
  have hK1 := zKC_31 fb hK
  have hS1 := zCo_S (S := 31) (by decide) fb hS
  refine w_cv (as := [.ref 0, .int x, .int y]) (r := [.ref 0]) (ykc_134 (e := (6, .invokevirtual 259, 0)) rfl) rfl rfl rfl rfl (zc_turnTo hS1 hK1.1 hK1.2.1 hO0 (x := x) (y := y)) (fun v1008 ph1009 hv => ?_)
  rcases hv with ⟨hbad, rfl, rfl⟩ | ⟨p, f, rfl, rfl, hp9, hf9, rfl, ua⟩
  · show zW n D 134 Q 18 [some (.ref 0), some (.int x), some (.int y)] [.int (Int32.ofInt (-1)), .ref 0] ph1007
    refine w_cv (as := [.ref 0, .int (Int32.ofInt (-1))]) (r := []) (ykc_134 (e := (6, .invokevirtual 242, 0)) rfl) rfl rfl rfl rfl (zc_rem (x := Int32.ofInt (-1)) hS1 db hK1.2.2.1.1 hK1.2.2.1.2.2.1 hK1.2.2.1.2.1 hK1.2.2.1.2.2.2.1) (fun v1010 ph1011 hv => ?_)
    obtain ⟨rfl, ⟨-, rfl⟩ | ⟨h9, -⟩⟩ := hv
    rotate_left
    · exact absurd h9 (by decide)
    show zW n D 134 Q 21 [some (.ref 0), some (.int x), some (.int y)] [.int (Int32.ofInt (-1))] ph1007
    refine w_ret (v := (some (.int (Int32.ofInt (-1))))) (ykc_134 (e := (7, .ireturn, 0)) rfl) (zr_v rfl) ?_
    rw [hQ]
    exact Or.inl ⟨hbad, rfl, hK1⟩
  · have fa : zFr [27] [] _ ph1009 := zFr_st ua (Or.inl (by first | exact zqi rfl | simp))
    have hS2 := zSh_F fa (by decide +kernel) hS1
    have db2 := zSd_F fa (by intro i hi; simp <;> omega) (by intro j i hj; simp) db
    have hn2 := (fa.1 43 1 (by first | exact zqm rfl | decide) (by first | exact zqp rfl | simp)).trans hK1.2.2.1.1
    have hu2 := (fa.1 43 2 (by first | exact zqm rfl | decide) (by first | exact zqp rfl | simp)).trans hK1.2.2.1.2.2.1
    have hq := hO0.1 p (by omega)
    have t9 : (0 : Int) ≤ (zn (ze8 (v (8 + p)) f)).toInt := by
      rw [znt (by unfold ze8; omega)]
      exact Int.natCast_nonneg _
    show zW n D 134 Q 18 [some (.ref 0), some (.int (zn p)), some (.int (zn f))] [.int (zn (ze8 (v (8 + p)) f)), .ref 0] ph1009
    refine w_cv (as := [.ref 0, .int (zn (ze8 (v (8 + p)) f))]) (r := []) (ykc_134 (e := (6, .invokevirtual 242, 0)) rfl) rfl rfl rfl rfl (zc_rem (x := zn (ze8 (v (8 + p)) f)) hS2 db2 hn2 hu2 hK1.2.2.1.2.1 hK1.2.2.1.2.2.2.1) (fun v1012 ph1013 hv => ?_)
    obtain ⟨rfl, ⟨h9, -⟩ | ⟨-, ⟨q1, q2, pf, pu1, pu2⟩, pd⟩⟩ := hv
    · omega
    show zW n D 134 Q 21 [some (.ref 0), some (.int (zn p)), some (.int (zn f))] [.int (zn (ze8 (v (8 + p)) f))] ph1013
    refine w_ret (v := (some (.int (zn (ze8 (v (8 + p)) f))))) (ykc_134 (e := (7, .ireturn, 0)) rfl) (zr_v rfl) ?_
    rw [hQ]
    exact Or.inr ⟨p, f, rfl, rfl, hp9, hf9, rfl, _, zKC_push (a := 2) (by omega) (by omega) hK1 ua pf pu1 pu2 pd⟩
theorem zc_trims {ph : pm_H} {R C P G nx u fl hn : Nat} {rk : Nat → Bool} {v : Nat → Nat} {w : Nat → Nat → Nat} {sv : Nat → Nat → Nat} (hS : zSh ph) (hK : zKC ph R C rk P G v nx u w fl sv hn) (hO0 : zOk R C P G v) {x y : Int32} : zM 136 [.ref 0, .int x, .int y] ph (fun v0 q => ((x.toInt < 0 ∨ (P : Int) ≤ x.toInt ∨ y.toInt < 0 ∨ 5 ≤ y.toInt) ∧ v0 = some (.int (Int32.ofInt (-1))) ∧ zKC q R C rk P G v nx u w fl sv hn) ∨ (∃ p f, x = zn p ∧ y = zn f ∧ p < P ∧ f ≤ 4 ∧ v0 = some (.int (zn (v (16 + p)))) ∧ ∃ nx1, zKC q R C rk P G (znu v (8 * (3 - 1) + p) f) nx1 (zAd u) (zAw u (zWp u w v)) fl sv hn)) := by
  obtain ⟨Q, hQ⟩ : ∃ Q : Option Value → pm_H → Prop, Q = (fun v0 q => ((x.toInt < 0 ∨ (P : Int) ≤ x.toInt ∨ y.toInt < 0 ∨ 5 ≤ y.toInt) ∧ v0 = some (.int (Int32.ofInt (-1))) ∧ zKC q R C rk P G v nx u w fl sv hn) ∨ (∃ p f, x = zn p ∧ y = zn f ∧ p < P ∧ f ≤ 4 ∧ v0 = some (.int (zn (v (16 + p)))) ∧ ∃ nx1, zKC q R C rk P G (znu v (8 * (3 - 1) + p) f) nx1 (zAd u) (zAw u (zWp u w v)) fl sv hn)) := ⟨_, rfl⟩
  rw [← hQ]
  refine zM_mk fun n D => ?_
  show zW n D 136 Q 0 [some (.ref 0), some (.int x), some (.int y)] [] ph
  have hP8 : P ≤ 8 := hK.2.1.2.1
  refine w_load (pc' := 1) (v := .ref 0) (m := 1) (ykc_136 (e := (2, .aload_n kF0, 0)) rfl) rfl rfl ?_
  refine w_gf (pc' := 4) (v := .ref 31) (ykc_136 (e := (5, .getfield 46, 0)) rfl) rfl (zsg hS zs_0_5) rfl ?_
  refine w_load (pc' := 5) (v := .ref 0) (m := 1) (ykc_136 (e := (2, .aload_n kF0, 0)) rfl) rfl rfl ?_
  refine w_gf (pc' := 8) (v := .ref 25) (ykc_136 (e := (5, .getfield 42, 0)) rfl) rfl (zsg hS zs_0_4) rfl ?_
  refine w_cv (as := [.ref 31, .ref 25]) (r := []) (ykc_136 (e := (6, .invokevirtual 235, 0)) rfl) rfl rfl rfl rfl (zc_copy (zSs_of hS (S := 25) (by decide)) (zSs_of hS (S := 31) (by decide)) hK.2.1 (by omega)) (fun v1014 ph1015 hv => ?_)
  obtain ⟨rfl, fb, db⟩ := hv
  show zW n D 136 Q 11 [some (.ref 0), some (.int x), some (.int y)] [] ph1015
  refine w_load (pc' := 12) (v := .ref 0) (m := 1) (ykc_136 (e := (2, .aload_n kF0, 0)) rfl) rfl rfl ?_
  refine w_load (pc' := 13) (v := .ref 0) (m := 1) (ykc_136 (e := (2, .aload_n kF0, 0)) rfl) rfl rfl ?_
  refine w_load (pc' := 14) (v := .int x) (m := 1) (ykc_136 (e := (2, .iload_n kF1, 0)) rfl) rfl rfl ?_
  refine w_load (pc' := 15) (v := .int y) (m := 1) (ykc_136 (e := (2, .iload_n kF2, 0)) rfl) rfl rfl ?_
  have hK1 := zKC_31 fb hK
  have hS1 := zCo_S (S := 31) (by decide) fb hS
  refine w_cv (as := [.ref 0, .int x, .int y]) (r := [.ref 0]) (ykc_136 (e := (6, .invokevirtual 265, 0)) rfl) rfl rfl rfl rfl (zc_trimTo hS1 hK1.1 hK1.2.1 hO0 (x := x) (y := y)) (fun v1016 ph1017 hv => ?_)
  rcases hv with ⟨hbad, rfl, rfl⟩ | ⟨p, f, rfl, rfl, hp9, hf9, rfl, ua⟩
  · show zW n D 136 Q 18 [some (.ref 0), some (.int x), some (.int y)] [.int (Int32.ofInt (-1)), .ref 0] ph1015
    refine w_cv (as := [.ref 0, .int (Int32.ofInt (-1))]) (r := []) (ykc_136 (e := (6, .invokevirtual 242, 0)) rfl) rfl rfl rfl rfl (zc_rem (x := Int32.ofInt (-1)) hS1 db hK1.2.2.1.1 hK1.2.2.1.2.2.1 hK1.2.2.1.2.1 hK1.2.2.1.2.2.2.1) (fun v1018 ph1019 hv => ?_)
    obtain ⟨rfl, ⟨-, rfl⟩ | ⟨h9, -⟩⟩ := hv
    rotate_left
    · exact absurd h9 (by decide)
    show zW n D 136 Q 21 [some (.ref 0), some (.int x), some (.int y)] [.int (Int32.ofInt (-1))] ph1015
    refine w_ret (v := (some (.int (Int32.ofInt (-1))))) (ykc_136 (e := (7, .ireturn, 0)) rfl) (zr_v rfl) ?_
    rw [hQ]
    exact Or.inl ⟨hbad, rfl, hK1⟩
  · have fa : zFr [28] [] _ ph1017 := zFr_st ua (Or.inl (by first | exact zqi rfl | simp))
    have hS2 := zSh_F fa (by decide +kernel) hS1
    have db2 := zSd_F fa (by intro i hi; simp <;> omega) (by intro j i hj; simp) db
    have hn2 := (fa.1 43 1 (by first | exact zqm rfl | decide) (by first | exact zqp rfl | simp)).trans hK1.2.2.1.1
    have hu2 := (fa.1 43 2 (by first | exact zqm rfl | decide) (by first | exact zqp rfl | simp)).trans hK1.2.2.1.2.2.1
    have hq := hO0.1 p (by omega)
    have t9 : (0 : Int) ≤ (zn (v (16 + p))).toInt := by
      rw [znt (by omega)]
      exact Int.natCast_nonneg _
    show zW n D 136 Q 18 [some (.ref 0), some (.int (zn p)), some (.int (zn f))] [.int (zn (v (16 + p))), .ref 0] ph1017
    refine w_cv (as := [.ref 0, .int (zn (v (16 + p)))]) (r := []) (ykc_136 (e := (6, .invokevirtual 242, 0)) rfl) rfl rfl rfl rfl (zc_rem (x := zn (v (16 + p))) hS2 db2 hn2 hu2 hK1.2.2.1.2.1 hK1.2.2.1.2.2.2.1) (fun v1020 ph1021 hv => ?_)
    obtain ⟨rfl, ⟨h9, -⟩ | ⟨-, ⟨q1, q2, pf, pu1, pu2⟩, pd⟩⟩ := hv
    · omega
    show zW n D 136 Q 21 [some (.ref 0), some (.int (zn p)), some (.int (zn f))] [.int (zn (v (16 + p)))] ph1021
    refine w_ret (v := (some (.int (zn (v (16 + p)))))) (ykc_136 (e := (7, .ireturn, 0)) rfl) (zr_v rfl) ?_
    rw [hQ]
    exact Or.inr ⟨p, f, rfl, rfl, hp9, hf9, rfl, _, zKC_push (a := 3) (by omega) (by omega) hK1 ua pf pu1 pu2 pd⟩
theorem zc_steps {ph : pm_H} {R C P G nx u fl hn : Nat} {rk : Nat → Bool} {v : Nat → Nat} {w : Nat → Nat → Nat} {sv : Nat → Nat → Nat} (hS : zSh ph) (hK : zKC ph R C rk P G v nx u w fl sv hn) (hO0 : zOk R C P G v) {x y : Int32} : zM 135 [.ref 0, .int x, .int y] ph (fun v0 q => ((x.toInt < 0 ∨ (P : Int) ≤ x.toInt ∨ y.toInt < 0 ∨ 8 ≤ y.toInt) ∧ v0 = some (.int (Int32.ofInt (-1))) ∧ zKC q R C rk P G v nx u w fl sv hn) ∨ (∃ p f, x = zn p ∧ y = zn f ∧ p < P ∧ f < 8 ∧ zbk R C rk (v p) f = -1 ∧ v0 = some (.int (Int8.ofInt (-2)).toInt32) ∧ zKC q R C rk P G v nx u w fl sv hn) ∨ (∃ p f, x = zn p ∧ y = zn f ∧ p < P ∧ f < 8 ∧ ∃ g, g < R * C ∧ zbk R C rk (v p) f = (g : Nat) ∧ v0 = some (.int (zn g)) ∧ ∃ nx1, zKC q R C rk P G (znu v (8 * (1 - 1) + p) g) nx1 (zAd u) (zAw u (zWp u w v)) fl sv hn)) := by
  obtain ⟨Q, hQ⟩ : ∃ Q : Option Value → pm_H → Prop, Q = (fun v0 q => ((x.toInt < 0 ∨ (P : Int) ≤ x.toInt ∨ y.toInt < 0 ∨ 8 ≤ y.toInt) ∧ v0 = some (.int (Int32.ofInt (-1))) ∧ zKC q R C rk P G v nx u w fl sv hn) ∨ (∃ p f, x = zn p ∧ y = zn f ∧ p < P ∧ f < 8 ∧ zbk R C rk (v p) f = -1 ∧ v0 = some (.int (Int8.ofInt (-2)).toInt32) ∧ zKC q R C rk P G v nx u w fl sv hn) ∨ (∃ p f, x = zn p ∧ y = zn f ∧ p < P ∧ f < 8 ∧ ∃ g, g < R * C ∧ zbk R C rk (v p) f = (g : Nat) ∧ v0 = some (.int (zn g)) ∧ ∃ nx1, zKC q R C rk P G (znu v (8 * (1 - 1) + p) g) nx1 (zAd u) (zAw u (zWp u w v)) fl sv hn)) := ⟨_, rfl⟩
  rw [← hQ]
  refine zM_mk fun n D => ?_
  show zW n D 135 Q 0 [some (.ref 0), some (.int x), some (.int y)] [] ph
  have hP8 : P ≤ 8 := hK.2.1.2.1
  have hG8 : G ≤ 8 := hK.2.1.2.2.2.1
  refine w_load (pc' := 1) (v := .ref 0) (m := 1) (ykc_135 (e := (2, .aload_n kF0, 0)) rfl) rfl rfl ?_
  refine w_gf (pc' := 4) (v := .ref 31) (ykc_135 (e := (5, .getfield 46, 0)) rfl) rfl (zsg hS zs_0_5) rfl ?_
  refine w_load (pc' := 5) (v := .ref 0) (m := 1) (ykc_135 (e := (2, .aload_n kF0, 0)) rfl) rfl rfl ?_
  refine w_gf (pc' := 8) (v := .ref 25) (ykc_135 (e := (5, .getfield 42, 0)) rfl) rfl (zsg hS zs_0_4) rfl ?_
  refine w_cv (as := [.ref 31, .ref 25]) (r := []) (ykc_135 (e := (6, .invokevirtual 235, 0)) rfl) rfl rfl rfl rfl (zc_copy (zSs_of hS (S := 25) (by decide)) (zSs_of hS (S := 31) (by decide)) hK.2.1 (by omega)) (fun v1022 ph1023 hv => ?_)
  obtain ⟨rfl, fb, db⟩ := hv
  show zW n D 135 Q 11 [some (.ref 0), some (.int x), some (.int y)] [] ph1023
  refine w_load (pc' := 12) (v := .ref 0) (m := 1) (ykc_135 (e := (2, .aload_n kF0, 0)) rfl) rfl rfl ?_
  refine w_load (pc' := 13) (v := .ref 0) (m := 1) (ykc_135 (e := (2, .aload_n kF0, 0)) rfl) rfl rfl ?_
  refine w_load (pc' := 14) (v := .int x) (m := 1) (ykc_135 (e := (2, .iload_n kF1, 0)) rfl) rfl rfl ?_
  refine w_load (pc' := 15) (v := .int y) (m := 1) (ykc_135 (e := (2, .iload_n kF2, 0)) rfl) rfl rfl ?_
  have hK1 := zKC_31 fb hK
  have hS1 := zCo_S (S := 31) (by decide) fb hS
  have hR7 := hK1.1.2.2.2.2.2.2.1
  have hC7 := hK1.1.2.2.2.2.2.2.2.2
  have hRC := zRC49 hR7 hC7
  refine w_cv (as := [.ref 0, .int x, .int y]) (r := [.ref 0]) (ykc_135 (e := (6, .invokevirtual 262, 0)) rfl) rfl rfl rfl rfl (zc_walk hS1 hK1.1 hK1.2.1 hO0 (x := x) (y := y)) (fun v1024 ph1025 hv => ?_)
  rcases hv with ⟨hbad, rfl, rfl⟩ | ⟨p, f, rfl, rfl, hp9, hf9, ⟨hb9, rfl, rfl⟩ | ⟨g, hg9, hb9, rfl, ua⟩⟩
  · show zW n D 135 Q 18 [some (.ref 0), some (.int x), some (.int y)] [.int (Int32.ofInt (-1)), .ref 0] ph1023
    refine w_cv (as := [.ref 0, .int (Int32.ofInt (-1))]) (r := []) (ykc_135 (e := (6, .invokevirtual 242, 0)) rfl) rfl rfl rfl rfl (zc_rem (x := Int32.ofInt (-1)) hS1 db hK1.2.2.1.1 hK1.2.2.1.2.2.1 hK1.2.2.1.2.1 hK1.2.2.1.2.2.2.1) (fun v1026 ph1027 hv => ?_)
    obtain ⟨rfl, ⟨-, rfl⟩ | ⟨h9, -⟩⟩ := hv
    rotate_left
    · exact absurd h9 (by decide)
    show zW n D 135 Q 21 [some (.ref 0), some (.int x), some (.int y)] [.int (Int32.ofInt (-1))] ph1023
    refine w_ret (v := (some (.int (Int32.ofInt (-1))))) (ykc_135 (e := (7, .ireturn, 0)) rfl) (zr_v rfl) ?_
    rw [hQ]
    exact Or.inl ⟨hbad, rfl, hK1⟩
  · show zW n D 135 Q 18 [some (.ref 0), some (.int (zn p)), some (.int (zn f))] [.int ((Int8.ofInt (-2)).toInt32), .ref 0] ph1023
    refine w_cv (as := [.ref 0, .int ((Int8.ofInt (-2)).toInt32)]) (r := []) (ykc_135 (e := (6, .invokevirtual 242, 0)) rfl) rfl rfl rfl rfl (zc_rem (x := (Int8.ofInt (-2)).toInt32) hS1 db hK1.2.2.1.1 hK1.2.2.1.2.2.1 hK1.2.2.1.2.1 hK1.2.2.1.2.2.2.1) (fun v1028 ph1029 hv => ?_)
    obtain ⟨rfl, ⟨-, rfl⟩ | ⟨h9, -⟩⟩ := hv
    rotate_left
    · exact absurd h9 (by decide)
    show zW n D 135 Q 21 [some (.ref 0), some (.int (zn p)), some (.int (zn f))] [.int ((Int8.ofInt (-2)).toInt32)] ph1023
    refine w_ret (v := (some (.int ((Int8.ofInt (-2)).toInt32)))) (ykc_135 (e := (7, .ireturn, 0)) rfl) (zr_v rfl) ?_
    rw [hQ]
    exact Or.inr (Or.inl ⟨p, f, rfl, rfl, hp9, hf9, hb9, rfl, hK1⟩)
  · have fa : zFr [26] [] _ ph1025 := zFr_st ua (Or.inl (by first | exact zqi rfl | simp))
    have hS2 := zSh_F fa (by decide +kernel) hS1
    have db2 := zSd_F fa (by intro i hi; simp <;> omega) (by intro j i hj; simp) db
    have hn2 := (fa.1 43 1 (by first | exact zqm rfl | decide) (by first | exact zqp rfl | simp)).trans hK1.2.2.1.1
    have hu2 := (fa.1 43 2 (by first | exact zqm rfl | decide) (by first | exact zqp rfl | simp)).trans hK1.2.2.1.2.2.1
    have t9 := znt (k := g) (by omega)
    show zW n D 135 Q 18 [some (.ref 0), some (.int (zn p)), some (.int (zn f))] [.int (zn g), .ref 0] ph1025
    refine w_cv (as := [.ref 0, .int (zn g)]) (r := []) (ykc_135 (e := (6, .invokevirtual 242, 0)) rfl) rfl rfl rfl rfl (zc_rem (x := zn g) hS2 db2 hn2 hu2 hK1.2.2.1.2.1 hK1.2.2.1.2.2.2.1) (fun v1030 ph1031 hv => ?_)
    obtain ⟨rfl, ⟨h9, -⟩ | ⟨-, ⟨q1, q2, pf, pu1, pu2⟩, pd⟩⟩ := hv
    · omega
    show zW n D 135 Q 21 [some (.ref 0), some (.int (zn p)), some (.int (zn f))] [.int (zn g)] ph1031
    refine w_ret (v := (some (.int (zn g)))) (ykc_135 (e := (7, .ireturn, 0)) rfl) (zr_v rfl) ?_
    rw [hQ]
    exact Or.inr (Or.inr ⟨p, f, rfl, rfl, hp9, hf9, g, hg9, hb9, rfl, _, zKC_push (a := 1) (by omega) (by omega) hK1 ua pf pu1 pu2 pd⟩)
theorem zc_puts {ph : pm_H} {R C P G nx u fl hn : Nat} {rk : Nat → Bool} {v : Nat → Nat} {w : Nat → Nat → Nat} {sv : Nat → Nat → Nat} (hS : zSh ph) (hK : zKC ph R C rk P G v nx u w fl sv hn) (hO0 : zOk R C P G v) {x y : Int32} : zM 137 [.ref 0, .int x, .int y] ph (fun v0 q => ((x.toInt < 0 ∨ (G : Int) ≤ x.toInt ∨ y.toInt < 0 ∨ ((R * C : Nat) : Int) ≤ y.toInt) ∧ v0 = some (.int (Int32.ofInt (-1))) ∧ zKC q R C rk P G v nx u w fl sv hn) ∨ (∃ p f, x = zn p ∧ y = zn f ∧ p < G ∧ f < R * C ∧ v (32 + p) = f ∧ v0 = some (.int (Int8.ofInt (-2)).toInt32) ∧ zKC q R C rk P G v nx u w fl sv hn) ∨ (∃ p f, x = zn p ∧ y = zn f ∧ p < G ∧ f < R * C ∧ v (32 + p) ≠ f ∧ v0 = some (.int (zn (v (32 + p)))) ∧ ∃ nx1, zKC q R C rk P G (znu v (8 * (5 - 1) + p) f) nx1 (zAd u) (zAw u (zWp u w v)) fl sv hn)) := by
  obtain ⟨Q, hQ⟩ : ∃ Q : Option Value → pm_H → Prop, Q = (fun v0 q => ((x.toInt < 0 ∨ (G : Int) ≤ x.toInt ∨ y.toInt < 0 ∨ ((R * C : Nat) : Int) ≤ y.toInt) ∧ v0 = some (.int (Int32.ofInt (-1))) ∧ zKC q R C rk P G v nx u w fl sv hn) ∨ (∃ p f, x = zn p ∧ y = zn f ∧ p < G ∧ f < R * C ∧ v (32 + p) = f ∧ v0 = some (.int (Int8.ofInt (-2)).toInt32) ∧ zKC q R C rk P G v nx u w fl sv hn) ∨ (∃ p f, x = zn p ∧ y = zn f ∧ p < G ∧ f < R * C ∧ v (32 + p) ≠ f ∧ v0 = some (.int (zn (v (32 + p)))) ∧ ∃ nx1, zKC q R C rk P G (znu v (8 * (5 - 1) + p) f) nx1 (zAd u) (zAw u (zWp u w v)) fl sv hn)) := ⟨_, rfl⟩
  rw [← hQ]
  refine zM_mk fun n D => ?_
  show zW n D 137 Q 0 [some (.ref 0), some (.int x), some (.int y)] [] ph
  have hP8 : P ≤ 8 := hK.2.1.2.1
  have hG8 : G ≤ 8 := hK.2.1.2.2.2.1
  refine w_load (pc' := 1) (v := .ref 0) (m := 1) (ykc_137 (e := (2, .aload_n kF0, 0)) rfl) rfl rfl ?_
  refine w_gf (pc' := 4) (v := .ref 31) (ykc_137 (e := (5, .getfield 46, 0)) rfl) rfl (zsg hS zs_0_5) rfl ?_
  refine w_load (pc' := 5) (v := .ref 0) (m := 1) (ykc_137 (e := (2, .aload_n kF0, 0)) rfl) rfl rfl ?_
  refine w_gf (pc' := 8) (v := .ref 25) (ykc_137 (e := (5, .getfield 42, 0)) rfl) rfl (zsg hS zs_0_4) rfl ?_
  refine w_cv (as := [.ref 31, .ref 25]) (r := []) (ykc_137 (e := (6, .invokevirtual 235, 0)) rfl) rfl rfl rfl rfl (zc_copy (zSs_of hS (S := 25) (by decide)) (zSs_of hS (S := 31) (by decide)) hK.2.1 (by omega)) (fun v1032 ph1033 hv => ?_)
  obtain ⟨rfl, fb, db⟩ := hv
  show zW n D 137 Q 11 [some (.ref 0), some (.int x), some (.int y)] [] ph1033
  refine w_load (pc' := 12) (v := .ref 0) (m := 1) (ykc_137 (e := (2, .aload_n kF0, 0)) rfl) rfl rfl ?_
  refine w_load (pc' := 13) (v := .ref 0) (m := 1) (ykc_137 (e := (2, .aload_n kF0, 0)) rfl) rfl rfl ?_
  refine w_load (pc' := 14) (v := .int x) (m := 1) (ykc_137 (e := (2, .iload_n kF1, 0)) rfl) rfl rfl ?_
  refine w_load (pc' := 15) (v := .int y) (m := 1) (ykc_137 (e := (2, .iload_n kF2, 0)) rfl) rfl rfl ?_
  have hK1 := zKC_31 fb hK
  have hS1 := zCo_S (S := 31) (by decide) fb hS
  have hR7 := hK1.1.2.2.2.2.2.2.1
  have hC7 := hK1.1.2.2.2.2.2.2.2.2
  have hRC := zRC49 hR7 hC7
  refine w_cv (as := [.ref 0, .int x, .int y]) (r := [.ref 0]) (ykc_137 (e := (6, .invokevirtual 268, 0)) rfl) rfl rfl rfl rfl (zc_putOn hS1 hK1.1 hK1.2.1 hO0 (x := x) (y := y)) (fun v1034 ph1035 hv => ?_)
  rcases hv with ⟨hbad, rfl, rfl⟩ | ⟨p, f, rfl, rfl, hp9, hf9, ⟨hs9, rfl, rfl⟩ | ⟨hs9, rfl, ua⟩⟩
  · show zW n D 137 Q 18 [some (.ref 0), some (.int x), some (.int y)] [.int (Int32.ofInt (-1)), .ref 0] ph1033
    refine w_cv (as := [.ref 0, .int (Int32.ofInt (-1))]) (r := []) (ykc_137 (e := (6, .invokevirtual 242, 0)) rfl) rfl rfl rfl rfl (zc_rem (x := Int32.ofInt (-1)) hS1 db hK1.2.2.1.1 hK1.2.2.1.2.2.1 hK1.2.2.1.2.1 hK1.2.2.1.2.2.2.1) (fun v1036 ph1037 hv => ?_)
    obtain ⟨rfl, ⟨-, rfl⟩ | ⟨h9, -⟩⟩ := hv
    rotate_left
    · exact absurd h9 (by decide)
    show zW n D 137 Q 21 [some (.ref 0), some (.int x), some (.int y)] [.int (Int32.ofInt (-1))] ph1033
    refine w_ret (v := (some (.int (Int32.ofInt (-1))))) (ykc_137 (e := (7, .ireturn, 0)) rfl) (zr_v rfl) ?_
    rw [hQ]
    exact Or.inl ⟨hbad, rfl, hK1⟩
  · show zW n D 137 Q 18 [some (.ref 0), some (.int (zn p)), some (.int (zn f))] [.int ((Int8.ofInt (-2)).toInt32), .ref 0] ph1033
    refine w_cv (as := [.ref 0, .int ((Int8.ofInt (-2)).toInt32)]) (r := []) (ykc_137 (e := (6, .invokevirtual 242, 0)) rfl) rfl rfl rfl rfl (zc_rem (x := (Int8.ofInt (-2)).toInt32) hS1 db hK1.2.2.1.1 hK1.2.2.1.2.2.1 hK1.2.2.1.2.1 hK1.2.2.1.2.2.2.1) (fun v1038 ph1039 hv => ?_)
    obtain ⟨rfl, ⟨-, rfl⟩ | ⟨h9, -⟩⟩ := hv
    rotate_left
    · exact absurd h9 (by decide)
    show zW n D 137 Q 21 [some (.ref 0), some (.int (zn p)), some (.int (zn f))] [.int ((Int8.ofInt (-2)).toInt32)] ph1033
    refine w_ret (v := (some (.int ((Int8.ofInt (-2)).toInt32)))) (ykc_137 (e := (7, .ireturn, 0)) rfl) (zr_v rfl) ?_
    rw [hQ]
    exact Or.inr (Or.inl ⟨p, f, rfl, rfl, hp9, hf9, hs9, rfl, hK1⟩)
  · have fa : zFr [30] [] _ ph1035 := zFr_st ua (Or.inl (by first | exact zqi rfl | simp))
    have hS2 := zSh_F fa (by decide +kernel) hS1
    have db2 := zSd_F fa (by intro i hi; simp <;> omega) (by intro j i hj; simp) db
    have hn2 := (fa.1 43 1 (by first | exact zqm rfl | decide) (by first | exact zqp rfl | simp)).trans hK1.2.2.1.1
    have hu2 := (fa.1 43 2 (by first | exact zqm rfl | decide) (by first | exact zqp rfl | simp)).trans hK1.2.2.1.2.2.1
    have hq := hO0.2.1 p (by omega)
    have t9 := znt (k := v (32 + p)) (by omega)
    show zW n D 137 Q 18 [some (.ref 0), some (.int (zn p)), some (.int (zn f))] [.int (zn (v (32 + p))), .ref 0] ph1035
    refine w_cv (as := [.ref 0, .int (zn (v (32 + p)))]) (r := []) (ykc_137 (e := (6, .invokevirtual 242, 0)) rfl) rfl rfl rfl rfl (zc_rem (x := zn (v (32 + p))) hS2 db2 hn2 hu2 hK1.2.2.1.2.1 hK1.2.2.1.2.2.2.1) (fun v1040 ph1041 hv => ?_)
    obtain ⟨rfl, ⟨h9, -⟩ | ⟨-, ⟨q1, q2, pf, pu1, pu2⟩, pd⟩⟩ := hv
    · omega
    show zW n D 137 Q 21 [some (.ref 0), some (.int (zn p)), some (.int (zn f))] [.int (zn (v (32 + p)))] ph1041
    refine w_ret (v := (some (.int (zn (v (32 + p)))))) (ykc_137 (e := (7, .ireturn, 0)) rfl) (zr_v rfl) ?_
    rw [hQ]
    exact Or.inr (Or.inr ⟨p, f, rfl, rfl, hp9, hf9, hs9, rfl, _, zKC_push (a := 5) (by omega) (by omega) hK1 ua pf pu1 pu2 pd⟩)
