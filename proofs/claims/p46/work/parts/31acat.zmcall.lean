/-! the reference: faces, steps, trims, puts, undo, keep, again, heard, forget, by W; printed by wip/z/z_r_mwr.py -/
def zWp (u : Nat) (w : Nat → Nat → Nat) (v : Nat → Nat) (i : Nat) : Nat → Nat := if i = u then v else w i
/-- what is kept -/
def zMk (ph : pm_H) (ch : Nat) (kp : Nat → Bool) (kc : Nat → Nat) (sv : Nat → Nat → Nat) : Prop := zc ph 170 7 = some (.int (zn ch)) ∧ ch ≤ 1000 ∧ ∀ i, i < 3 → zc ph 198 i = some (.int (zI (kp i))) ∧ zc ph 199 i = some (.int (zn (kc i))) ∧ kc i ≤ ch ∧ (kp i = true → zNr ph 200 (41 * i) (sv i))
def zMu (ph : pm_H) (u : Nat) (w : Nat → Nat → Nat) : Prop := zc ph 170 27 = some (.int (zn u)) ∧ u ≤ 15 ∧ zUr ph u w
def zMh (ph : pm_H) (hn : Nat) : Prop := zc ph 170 39 = some (.int (zn hn)) ∧ hn ≤ 10
theorem zMk_F {A : List Nat} {F : List (Nat × Nat)} {p q : pm_H} {ch : Nat} {kp : Nat → Bool} {kc : Nat → Nat} {sv : Nat → Nat → Nat} (f : zFr A F p q) (h1 : 170 ∉ A ∧ 198 ∉ A ∧ 199 ∉ A ∧ 200 ∉ A) (h2 : (170, 7) ∉ F) (h3 : ∀ i, (198, i) ∉ F ∧ (199, i) ∉ F ∧ (200, i) ∉ F) (h : zMk p ch kp kc sv) : zMk q ch kp kc sv := ⟨(f.1 _ _ h1.1 h2).trans h.1, h.2.1, fun i hi => ⟨(f.1 _ _ h1.2.1 (h3 i).1).trans (h.2.2 i hi).1, (f.1 _ _ h1.2.2.1 (h3 i).2.1).trans (h.2.2 i hi).2.1, (h.2.2 i hi).2.2.1, fun k => zNr_F f (fun j => (h3 j).2.2) h1.2.2.2 ((h.2.2 i hi).2.2.2 k)⟩⟩
theorem zMu_F {A : List Nat} {F : List (Nat × Nat)} {p q : pm_H} {u : Nat} {w : Nat → Nat → Nat} (f : zFr A F p q) (h1 : 170 ∉ A ∧ 183 ∉ A) (h2 : (170, 27) ∉ F) (h3 : ∀ i, (183, i) ∉ F) (h : zMu p u w) : zMu q u w := ⟨(f.1 _ _ h1.1 h2).trans h.1, h.2.1, zUr_F f h3 h1.2 h.2.2⟩
theorem zMh_F {A : List Nat} {F : List (Nat × Nat)} {p q : pm_H} {hn : Nat} (f : zFr A F p q) (h1 : 170 ∉ A) (h2 : (170, 39) ∉ F) (h : zMh p hn) : zMh q hn := ⟨(f.1 _ _ h1 h2).trans h.1, h.2⟩
/-- all of the reference that the calls tie -/
def zKM (ph : pm_H) (R C : Nat) (rk : Nat → Bool) (P G : Nat) (v : Nat → Nat) (u : Nat) (w : Nat → Nat → Nat) (ch : Nat) (kp : Nat → Bool) (kc : Nat → Nat) (sv : Nat → Nat → Nat) (hn : Nat) : Prop := zMl ph R C rk ∧ zMp ph P G ∧ zNr ph 174 0 v ∧ zMu ph u w ∧ zMk ph ch kp kc sv ∧ zMh ph hn
theorem zAd_15 {u : Nat} (hu : u ≤ 15) : zAd u ≤ 15 := by
  unfold zAd
  split <;> omega
theorem zWp_r {p q : pm_H} {u : Nat} {w : Nat → Nat → Nat} {v : Nat → Nat} (h : zUr p u w) (h1 : zNr q 183 (41 * u) v) (h2 : ∀ i, i < 41 * u → zc q 183 i = zc p 183 i) : zUr q (u + 1) (zWp u w v) := fun i hi => by
  unfold zWp
  by_cases e : i = u
  · rw [if_pos e, e]
    exact h1
  · rw [if_neg e]
    exact fun j hj => (h2 _ (by omega)).trans (h i (by omega) j hj)
theorem zm_counted {ph : pm_H} {w : Nat → Nat → Nat} {u : Nat} {x : Int32} (hS : zSh ph) (gu : zc ph 170 27 = some (.int (zn u))) (hu : u ≤ 15) (hw : zUr ph (u + 1) w) : zM 240 [.ref 170, .int x] ph (fun v0 q => (x.toInt < 0 ∧ ph = q ∧ v0 = some (.int x)) ∨ (0 ≤ x.toInt ∧ v0 = some (.int x) ∧ zFr [183] [(170, 27)] ph q ∧ zc q 170 27 = some (.int (zn (zAd u))) ∧ zUr q (zAd u) (zAw u w))) := by
  obtain ⟨Q, hQ⟩ : ∃ Q : Option Value → pm_H → Prop, Q = (fun v0 q => (x.toInt < 0 ∧ ph = q ∧ v0 = some (.int x)) ∨ (0 ≤ x.toInt ∧ v0 = some (.int x) ∧ zFr [183] [(170, 27)] ph q ∧ zc q 170 27 = some (.int (zn (zAd u))) ∧ zUr q (zAd u) (zAw u w))) := ⟨_, rfl⟩
  rw [← hQ]
  refine zM_mk fun n D => ?_
  show zW n D 240 Q 0 [some (.ref 170), some (.int x)] [] ph
  refine w_load (pc' := 1) (v := .int x) (m := 1) (ykc_240 (e := (2, .iload_n kF1, 0)) rfl) rfl rfl ?_
  refine w_zge (ykc_240 (e := (4, .ifCond .ge 7, 8)) rfl) rfl (fun b956 => ?_) (fun b956 => ?_)
  · refine w_load (pc' := 9) (v := .ref 170) (m := 1) (ykc_240 (e := (2, .aload_n kF0, 0)) rfl) rfl rfl ?_
    refine w_load (pc' := 10) (v := .int x) (m := 1) (ykc_240 (e := (2, .iload_n kF1, 0)) rfl) rfl rfl ?_
    refine w_cv (as := [.ref 170, .int x]) (r := []) (ykc_240 (e := (6, .invokevirtual 341, 0)) rfl) rfl rfl rfl rfl (zm_adds (x := x) hS gu hu hw) (fun v957 ph958 hv => ?_)
    obtain ⟨rfl, fa, ga, ra⟩ := hv
    show zW n D 240 Q 13 [some (.ref 170), some (.int x)] [.int x] ph958
    refine w_ret (v := (some (.int x))) (ykc_240 (e := (7, .ireturn, 0)) rfl) (zr_v rfl) ?_
    rw [hQ]
    exact Or.inr ⟨by omega, rfl, fa, ga, ra⟩
  · refine w_load (pc' := 5) (v := .int x) (m := 1) (ykc_240 (e := (2, .iload_n kF1, 0)) rfl) rfl rfl ?_
    refine w_br (pc' := 13) (st' := [.int x]) (ykc_240 (e := (4, .goto 8, 13)) rfl) rfl ?_
    refine w_ret (v := (some (.int x))) (ykc_240 (e := (7, .ireturn, 0)) rfl) (zr_v rfl) ?_
    rw [hQ]
    exact Or.inl ⟨by omega, rfl, rfl⟩
theorem zm_faces {ph : pm_H} {R C P G u ch hn : Nat} {rk : Nat → Bool} {v : Nat → Nat} {w : Nat → Nat → Nat} {kp : Nat → Bool} {kc : Nat → Nat} {sv : Nat → Nat → Nat} (hS : zSh ph) (hK : zKM ph R C rk P G v u w ch kp kc sv hn) (hO0 : zOk R C P G v) {x y : Int32} : zM 249 [.ref 170, .int x, .int y] ph (fun v0 q => ((x.toInt < 0 ∨ (P : Int) ≤ x.toInt ∨ y.toInt < 0 ∨ 8 ≤ y.toInt) ∧ v0 = some (.int (Int32.ofInt (-1))) ∧ zKM q R C rk P G v u w ch kp kc sv hn) ∨ (∃ p f, x = zn p ∧ y = zn f ∧ p < P ∧ f < 8 ∧ v0 = some (.int (zn (ze8 (v (8 + p)) f))) ∧ zKM q R C rk P G (znu v (8 + p) f) (zAd u) (zAw u (zWp u w v)) ch kp kc sv hn)) := by
  obtain ⟨Q, hQ⟩ : ∃ Q : Option Value → pm_H → Prop, Q = (fun v0 q => ((x.toInt < 0 ∨ (P : Int) ≤ x.toInt ∨ y.toInt < 0 ∨ 8 ≤ y.toInt) ∧ v0 = some (.int (Int32.ofInt (-1))) ∧ zKM q R C rk P G v u w ch kp kc sv hn) ∨ (∃ p f, x = zn p ∧ y = zn f ∧ p < P ∧ f < 8 ∧ v0 = some (.int (zn (ze8 (v (8 + p)) f))) ∧ zKM q R C rk P G (znu v (8 + p) f) (zAd u) (zAw u (zWp u w v)) ch kp kc sv hn)) := ⟨_, rfl⟩
  rw [← hQ]
  refine zM_mk fun n D => ?_
  show zW n D 249 Q 0 [some (.ref 170), some (.int x), some (.int y)] [] ph
  have c_0 : (Int32.ofInt 0).toInt = 0 := by decide +kernel
  obtain ⟨hL, hN, hv, hU, hk, hh⟩ := hK
  have hL0 := hL
  have hN0 := hN
  have hu15 := hU.2.1
  obtain ⟨gR, gC, gK, hR3, hR7, hC3, hC7⟩ := hL
  have hRC := zRC49 hR7 hC7
  have tR := znt (k := R) (by omega)
  have tC := znt (k := C) (by omega)
  obtain ⟨gP, hP8, gG, hG8⟩ := hN
  have tP := znt (k := P) (by omega)
  have tG := znt (k := G) (by omega)
  have tu := znt (k := u) (by omega)
  have hn10 := hh.2
  have thn := znt (k := hn) (by omega)
  refine w_load (pc' := 1) (v := .ref 170) (m := 1) (ykc_249 (e := (2, .aload_n kF0, 0)) rfl) rfl rfl ?_
  refine w_alu (pc' := 2) (st' := [.int (Int32.ofInt 0), .ref 170]) (ykc_249 (e := (0, .iconst 0, 0)) rfl) rfl rfl ?_
  refine w_pf (pc' := 5) (ykc_249 (e := (5, .putfield 3, 0)) rfl) rfl rfl (fun ph960 u959 => ?_)
  refine w_load (pc' := 6) (v := .ref 170) (m := 1) (ykc_249 (e := (2, .aload_n kF0, 0)) rfl) rfl rfl ?_
  have f0 : zFr [] [(170, 0)] ph ph960 := zFr_st u959 (Or.inr (by first | exact zqj rfl | simp))
  have hS1 := zSh_st u959 (by decide +kernel) hS
  have hv1 := zNr_F f0 (by first | exact (fun _ => zqr rfl) | simp) (by first | exact zqm rfl | simp) hv
  have hU1 := zMu_F f0 (by first | exact ⟨zqm rfl, zqm rfl⟩ | simp) (by first | exact zqp rfl | simp) (by first | exact (fun _ => zqr rfl) | simp) hU
  refine w_cv (as := [.ref 170]) (r := []) (ykc_249 (e := (6, .invokevirtual 363, 0)) rfl) rfl rfl rfl rfl (zm_putsBy hS1 hv1 hU1.1 hu15) (fun v961 ph962 hv => ?_)
  obtain ⟨rfl, fp, gp, op⟩ := hv
  show zW n D 249 Q 9 [some (.ref 170), some (.int x), some (.int y)] [] ph962
  refine w_load (pc' := 10) (v := .ref 170) (m := 1) (ykc_249 (e := (2, .aload_n kF0, 0)) rfl) rfl rfl ?_
  refine w_load (pc' := 11) (v := .ref 170) (m := 1) (ykc_249 (e := (2, .aload_n kF0, 0)) rfl) rfl rfl ?_
  refine w_load (pc' := 12) (v := .ref 170) (m := 1) (ykc_249 (e := (2, .aload_n kF0, 0)) rfl) rfl rfl ?_
  refine w_gf (pc' := 15) (v := .ref 174) (ykc_249 (e := (5, .getfield 41, 0)) rfl) rfl ((fp.1 170 11 (by first | exact zqm rfl | decide) (by first | exact zqp rfl | decide)).trans ((u959.2.1 170 11 (fun q => absurd q.2 (by first | exact Nat.ne_of_beq_eq_false rfl | decide))).trans (zsg hS zs_170_11))) rfl ?_
  refine w_load (pc' := 16) (v := .int x) (m := 1) (ykc_249 (e := (2, .iload_n kF1, 0)) rfl) rfl rfl ?_
  refine w_load (pc' := 17) (v := .int y) (m := 1) (ykc_249 (e := (2, .iload_n kF2, 0)) rfl) rfl rfl ?_
  have hr := zWp_r hU1.2.2 gp op
  have f1 : zFr [183] [(170, 0)] ph ph962 := zFr_trans (zFr_mono f0 (by first | exact zqa rfl | simp) (by first | exact zqf rfl | simp)) (zFr_mono fp (by first | exact zqa rfl | simp) (by first | exact zqf rfl | simp))
  have hS2 := zSh_F f1 (by decide +kernel) hS
  have hL2 := zMl_F f1 (by first | exact zqp rfl | simp) (by first | exact zqp rfl | simp) (by first | exact (fun _ => zqr rfl) | simp) (by first | exact ⟨zqm rfl, zqm rfl⟩ | simp) hL0
  have hN2 := zMp_F f1 (by first | exact zqp rfl | simp) (by first | exact zqp rfl | simp) (by first | exact zqm rfl | simp) hN0
  have hv2 := zNr_F f1 (by first | exact (fun _ => zqr rfl) | simp) (by first | exact zqm rfl | simp) hv
  have gu2 := (f1.1 170 27 (by first | exact zqm rfl | simp) (by first | exact zqp rfl | simp)).trans hU.1
  refine w_cv (as := [.ref 170, .ref 174, .int x, .int y]) (r := [.ref 170]) (ykc_249 (e := (6, .invokevirtual 377, 0)) rfl) rfl rfl rfl rfl (zm_faces1 hS2 hL2 hN2 (Or.inl rfl) hv2 hO0 (x := x) (y := y)) (fun v963 ph964 hv => ?_)
  rcases hv with ⟨hbad, rfl, rfl⟩ | ⟨p, f, rfl, rfl, hp9, hf9, rfl, ua⟩
  · show zW n D 249 Q 20 [some (.ref 170), some (.int x), some (.int y)] [.int (Int32.ofInt (-1)), .ref 170] ph962
    refine w_cv (as := [.ref 170, .int (Int32.ofInt (-1))]) (r := []) (ykc_249 (e := (6, .invokevirtual 380, 0)) rfl) rfl rfl rfl rfl (zm_counted (x := Int32.ofInt (-1)) hS2 gu2 hu15 hr) (fun v965 ph966 hv => ?_)
    rcases hv with ⟨-, rfl, rfl⟩ | ⟨h9, -⟩
    rotate_left
    · exact absurd h9 (by decide)
    show zW n D 249 Q 23 [some (.ref 170), some (.int x), some (.int y)] [.int (Int32.ofInt (-1))] ph962
    refine w_ret (v := (some (.int (Int32.ofInt (-1))))) (ykc_249 (e := (7, .ireturn, 0)) rfl) (zr_v rfl) ?_
    rw [hQ]
    exact Or.inl ⟨hbad, rfl, zMl_F f1 (by first | exact zqp rfl | simp) (by first | exact zqp rfl | simp) (by first | exact (fun _ => zqr rfl) | simp) (by first | exact ⟨zqm rfl, zqm rfl⟩ | simp) hL0, zMp_F f1 (by first | exact zqp rfl | simp) (by first | exact zqp rfl | simp) (by first | exact zqm rfl | simp) hN0, hv2, ⟨gu2, hu15, fun i hi => by have h := hr i (by omega); unfold zWp at h; rwa [if_neg (by omega)] at h⟩, zMk_F f1 (by first | exact ⟨zqm rfl, zqm rfl, zqm rfl, zqm rfl⟩ | simp) (by first | exact zqp rfl | simp) (by first | exact (fun _ => ⟨zqr rfl, zqr rfl, zqr rfl⟩) | simp) hk, zMh_F f1 (by first | exact zqm rfl | simp) (by first | exact zqp rfl | simp) hh⟩
  · have f2 : zFr [174, 183] [(170, 0)] ph ph964 := zFr_trans (zFr_mono f1 (by first | exact zqa rfl | simp) (by first | exact zqf rfl | simp)) (zFr_st ua (Or.inl (by first | exact zqi rfl | simp)))
    have hS3 := zSh_F f2 (by decide +kernel) hS
    have gu3 := (f2.1 170 27 (by first | exact zqm rfl | simp) (by first | exact zqp rfl | simp)).trans hU.1
    have hr3 := zUr_F (A := [174]) (F := []) (zFr_st ua (Or.inl (by first | exact zqi rfl | simp))) (by simp) (by simp) hr
    have hq := hO0.1 p (by omega)
    have t9 : (0 : Int) ≤ (zn (ze8 (v (8 + p)) f)).toInt := by
      rw [znt (by unfold ze8; omega)]
      exact Int.natCast_nonneg _
    show zW n D 249 Q 20 [some (.ref 170), some (.int (zn p)), some (.int (zn f))] [.int (zn (ze8 (v (8 + p)) f)), .ref 170] ph964
    refine w_cv (as := [.ref 170, .int (zn (ze8 (v (8 + p)) f))]) (r := []) (ykc_249 (e := (6, .invokevirtual 380, 0)) rfl) rfl rfl rfl rfl (zm_counted (x := zn (ze8 (v (8 + p)) f)) hS3 gu3 hu15 hr3) (fun v967 ph968 hv => ?_)
    rcases hv with ⟨h9, -⟩ | ⟨-, rfl, fa, ga, ra⟩
    · omega
    show zW n D 249 Q 23 [some (.ref 170), some (.int (zn p)), some (.int (zn f))] [.int (zn (ze8 (v (8 + p)) f))] ph968
    refine w_ret (v := (some (.int (zn (ze8 (v (8 + p)) f))))) (ykc_249 (e := (7, .ireturn, 0)) rfl) (zr_v rfl) ?_
    rw [hQ]
    have f3 : zFr [174, 183] [(170, 0), (170, 27)] ph _ := zFr_trans (zFr_mono f2 (by first | exact zqa rfl | simp) (by first | exact zqf rfl | simp)) (zFr_mono fa (by first | exact zqa rfl | simp) (by first | exact zqf rfl | simp))
    exact Or.inr ⟨p, f, rfl, rfl, hp9, hf9, rfl, zMl_F f3 (by first | exact zqp rfl | simp) (by first | exact zqp rfl | simp) (by first | exact (fun _ => zqr rfl) | simp) (by first | exact ⟨zqm rfl, zqm rfl⟩ | simp) hL0, zMp_F f3 (by first | exact zqp rfl | simp) (by first | exact zqp rfl | simp) (by first | exact zqm rfl | simp) hN0, zNr_F fa (by first | exact (fun _ => zqr rfl) | simp) (by first | exact zqm rfl | simp) (zNr_u ua hv2), ⟨ga, zAd_15 hu15, ra⟩, zMk_F f3 (by first | exact ⟨zqm rfl, zqm rfl, zqm rfl, zqm rfl⟩ | simp) (by first | exact zqp rfl | simp) (by first | exact (fun _ => ⟨zqr rfl, zqr rfl, zqr rfl⟩) | simp) hk, zMh_F f3 (by first | exact zqm rfl | simp) (by first | exact zqp rfl | simp) hh⟩
theorem zm_trims {ph : pm_H} {R C P G u ch hn : Nat} {rk : Nat → Bool} {v : Nat → Nat} {w : Nat → Nat → Nat} {kp : Nat → Bool} {kc : Nat → Nat} {sv : Nat → Nat → Nat} (hS : zSh ph) (hK : zKM ph R C rk P G v u w ch kp kc sv hn) (hO0 : zOk R C P G v) {x y : Int32} : zM 251 [.ref 170, .int x, .int y] ph (fun v0 q => ((x.toInt < 0 ∨ (P : Int) ≤ x.toInt ∨ y.toInt < 0 ∨ 5 ≤ y.toInt) ∧ v0 = some (.int (Int32.ofInt (-1))) ∧ zKM q R C rk P G v u w ch kp kc sv hn) ∨ (∃ p f, x = zn p ∧ y = zn f ∧ p < P ∧ f ≤ 4 ∧ v0 = some (.int (zn (v (16 + p)))) ∧ zKM q R C rk P G (znu v (16 + p) f) (zAd u) (zAw u (zWp u w v)) ch kp kc sv hn)) := by
  obtain ⟨Q, hQ⟩ : ∃ Q : Option Value → pm_H → Prop, Q = (fun v0 q => ((x.toInt < 0 ∨ (P : Int) ≤ x.toInt ∨ y.toInt < 0 ∨ 5 ≤ y.toInt) ∧ v0 = some (.int (Int32.ofInt (-1))) ∧ zKM q R C rk P G v u w ch kp kc sv hn) ∨ (∃ p f, x = zn p ∧ y = zn f ∧ p < P ∧ f ≤ 4 ∧ v0 = some (.int (zn (v (16 + p)))) ∧ zKM q R C rk P G (znu v (16 + p) f) (zAd u) (zAw u (zWp u w v)) ch kp kc sv hn)) := ⟨_, rfl⟩
  rw [← hQ]
  refine zM_mk fun n D => ?_
  show zW n D 251 Q 0 [some (.ref 170), some (.int x), some (.int y)] [] ph
  have c_0 : (Int32.ofInt 0).toInt = 0 := by decide +kernel
  obtain ⟨hL, hN, hv, hU, hk, hh⟩ := hK
  have hL0 := hL
  have hN0 := hN
  have hu15 := hU.2.1
  obtain ⟨gR, gC, gK, hR3, hR7, hC3, hC7⟩ := hL
  have hRC := zRC49 hR7 hC7
  have tR := znt (k := R) (by omega)
  have tC := znt (k := C) (by omega)
  obtain ⟨gP, hP8, gG, hG8⟩ := hN
  have tP := znt (k := P) (by omega)
  have tG := znt (k := G) (by omega)
  have tu := znt (k := u) (by omega)
  have hn10 := hh.2
  have thn := znt (k := hn) (by omega)
  refine w_load (pc' := 1) (v := .ref 170) (m := 1) (ykc_251 (e := (2, .aload_n kF0, 0)) rfl) rfl rfl ?_
  refine w_alu (pc' := 2) (st' := [.int (Int32.ofInt 0), .ref 170]) (ykc_251 (e := (0, .iconst 0, 0)) rfl) rfl rfl ?_
  refine w_pf (pc' := 5) (ykc_251 (e := (5, .putfield 3, 0)) rfl) rfl rfl (fun ph970 u969 => ?_)
  refine w_load (pc' := 6) (v := .ref 170) (m := 1) (ykc_251 (e := (2, .aload_n kF0, 0)) rfl) rfl rfl ?_
  have f0 : zFr [] [(170, 0)] ph ph970 := zFr_st u969 (Or.inr (by first | exact zqj rfl | simp))
  have hS1 := zSh_st u969 (by decide +kernel) hS
  have hv1 := zNr_F f0 (by first | exact (fun _ => zqr rfl) | simp) (by first | exact zqm rfl | simp) hv
  have hU1 := zMu_F f0 (by first | exact ⟨zqm rfl, zqm rfl⟩ | simp) (by first | exact zqp rfl | simp) (by first | exact (fun _ => zqr rfl) | simp) hU
  refine w_cv (as := [.ref 170]) (r := []) (ykc_251 (e := (6, .invokevirtual 363, 0)) rfl) rfl rfl rfl rfl (zm_putsBy hS1 hv1 hU1.1 hu15) (fun v971 ph972 hv => ?_)
  obtain ⟨rfl, fp, gp, op⟩ := hv
  show zW n D 251 Q 9 [some (.ref 170), some (.int x), some (.int y)] [] ph972
  refine w_load (pc' := 10) (v := .ref 170) (m := 1) (ykc_251 (e := (2, .aload_n kF0, 0)) rfl) rfl rfl ?_
  refine w_load (pc' := 11) (v := .ref 170) (m := 1) (ykc_251 (e := (2, .aload_n kF0, 0)) rfl) rfl rfl ?_
  refine w_load (pc' := 12) (v := .int x) (m := 1) (ykc_251 (e := (2, .iload_n kF1, 0)) rfl) rfl rfl ?_
  refine w_load (pc' := 13) (v := .int y) (m := 1) (ykc_251 (e := (2, .iload_n kF2, 0)) rfl) rfl rfl ?_
  have hr := zWp_r hU1.2.2 gp op
  have f1 : zFr [183] [(170, 0)] ph ph972 := zFr_trans (zFr_mono f0 (by first | exact zqa rfl | simp) (by first | exact zqf rfl | simp)) (zFr_mono fp (by first | exact zqa rfl | simp) (by first | exact zqf rfl | simp))
  have hS2 := zSh_F f1 (by decide +kernel) hS
  have hL2 := zMl_F f1 (by first | exact zqp rfl | simp) (by first | exact zqp rfl | simp) (by first | exact (fun _ => zqr rfl) | simp) (by first | exact ⟨zqm rfl, zqm rfl⟩ | simp) hL0
  have hN2 := zMp_F f1 (by first | exact zqp rfl | simp) (by first | exact zqp rfl | simp) (by first | exact zqm rfl | simp) hN0
  have hv2 := zNr_F f1 (by first | exact (fun _ => zqr rfl) | simp) (by first | exact zqm rfl | simp) hv
  have gu2 := (f1.1 170 27 (by first | exact zqm rfl | simp) (by first | exact zqp rfl | simp)).trans hU.1
  refine w_cv (as := [.ref 170, .int x, .int y]) (r := [.ref 170]) (ykc_251 (e := (6, .invokevirtual 386, 0)) rfl) rfl rfl rfl rfl (zm_trims1 hS2 hL2 hN2 hv2 hO0 (x := x) (y := y)) (fun v973 ph974 hv => ?_)
  rcases hv with ⟨hbad, rfl, rfl⟩ | ⟨p, f, rfl, rfl, hp9, hf9, rfl, ua⟩
  · show zW n D 251 Q 16 [some (.ref 170), some (.int x), some (.int y)] [.int (Int32.ofInt (-1)), .ref 170] ph972
    refine w_cv (as := [.ref 170, .int (Int32.ofInt (-1))]) (r := []) (ykc_251 (e := (6, .invokevirtual 380, 0)) rfl) rfl rfl rfl rfl (zm_counted (x := Int32.ofInt (-1)) hS2 gu2 hu15 hr) (fun v975 ph976 hv => ?_)
    rcases hv with ⟨-, rfl, rfl⟩ | ⟨h9, -⟩
    rotate_left
    · exact absurd h9 (by decide)
    show zW n D 251 Q 19 [some (.ref 170), some (.int x), some (.int y)] [.int (Int32.ofInt (-1))] ph972
    refine w_ret (v := (some (.int (Int32.ofInt (-1))))) (ykc_251 (e := (7, .ireturn, 0)) rfl) (zr_v rfl) ?_
    rw [hQ]
    exact Or.inl ⟨hbad, rfl, zMl_F f1 (by first | exact zqp rfl | simp) (by first | exact zqp rfl | simp) (by first | exact (fun _ => zqr rfl) | simp) (by first | exact ⟨zqm rfl, zqm rfl⟩ | simp) hL0, zMp_F f1 (by first | exact zqp rfl | simp) (by first | exact zqp rfl | simp) (by first | exact zqm rfl | simp) hN0, hv2, ⟨gu2, hu15, fun i hi => by have h := hr i (by omega); unfold zWp at h; rwa [if_neg (by omega)] at h⟩, zMk_F f1 (by first | exact ⟨zqm rfl, zqm rfl, zqm rfl, zqm rfl⟩ | simp) (by first | exact zqp rfl | simp) (by first | exact (fun _ => ⟨zqr rfl, zqr rfl, zqr rfl⟩) | simp) hk, zMh_F f1 (by first | exact zqm rfl | simp) (by first | exact zqp rfl | simp) hh⟩
  · have f2 : zFr [174, 183] [(170, 0)] ph ph974 := zFr_trans (zFr_mono f1 (by first | exact zqa rfl | simp) (by first | exact zqf rfl | simp)) (zFr_st ua (Or.inl (by first | exact zqi rfl | simp)))
    have hS3 := zSh_F f2 (by decide +kernel) hS
    have gu3 := (f2.1 170 27 (by first | exact zqm rfl | simp) (by first | exact zqp rfl | simp)).trans hU.1
    have hr3 := zUr_F (A := [174]) (F := []) (zFr_st ua (Or.inl (by first | exact zqi rfl | simp))) (by simp) (by simp) hr
    have hq := hO0.1 p (by omega)
    have t9 : (0 : Int) ≤ (zn (v (16 + p))).toInt := by
      rw [znt (by omega)]
      exact Int.natCast_nonneg _
    show zW n D 251 Q 16 [some (.ref 170), some (.int (zn p)), some (.int (zn f))] [.int (zn (v (16 + p))), .ref 170] ph974
    refine w_cv (as := [.ref 170, .int (zn (v (16 + p)))]) (r := []) (ykc_251 (e := (6, .invokevirtual 380, 0)) rfl) rfl rfl rfl rfl (zm_counted (x := zn (v (16 + p))) hS3 gu3 hu15 hr3) (fun v977 ph978 hv => ?_)
    rcases hv with ⟨h9, -⟩ | ⟨-, rfl, fa, ga, ra⟩
    · omega
    show zW n D 251 Q 19 [some (.ref 170), some (.int (zn p)), some (.int (zn f))] [.int (zn (v (16 + p)))] ph978
    refine w_ret (v := (some (.int (zn (v (16 + p)))))) (ykc_251 (e := (7, .ireturn, 0)) rfl) (zr_v rfl) ?_
    rw [hQ]
    have f3 : zFr [174, 183] [(170, 0), (170, 27)] ph _ := zFr_trans (zFr_mono f2 (by first | exact zqa rfl | simp) (by first | exact zqf rfl | simp)) (zFr_mono fa (by first | exact zqa rfl | simp) (by first | exact zqf rfl | simp))
    exact Or.inr ⟨p, f, rfl, rfl, hp9, hf9, rfl, zMl_F f3 (by first | exact zqp rfl | simp) (by first | exact zqp rfl | simp) (by first | exact (fun _ => zqr rfl) | simp) (by first | exact ⟨zqm rfl, zqm rfl⟩ | simp) hL0, zMp_F f3 (by first | exact zqp rfl | simp) (by first | exact zqp rfl | simp) (by first | exact zqm rfl | simp) hN0, zNr_F fa (by first | exact (fun _ => zqr rfl) | simp) (by first | exact zqm rfl | simp) (zNr_u ua hv2), ⟨ga, zAd_15 hu15, ra⟩, zMk_F f3 (by first | exact ⟨zqm rfl, zqm rfl, zqm rfl, zqm rfl⟩ | simp) (by first | exact zqp rfl | simp) (by first | exact (fun _ => ⟨zqr rfl, zqr rfl, zqr rfl⟩) | simp) hk, zMh_F f3 (by first | exact zqm rfl | simp) (by first | exact zqp rfl | simp) hh⟩
theorem znu_id {v : Nat → Nat} {i x : Nat} (h : v i = x) : znu v i x = v := by
  funext j
  unfold znu
  by_cases e : j = i
  · rw [if_pos e, e, h]
  · rw [if_neg e]
theorem zm_steps {ph : pm_H} {R C P G u ch hn : Nat} {rk : Nat → Bool} {v : Nat → Nat} {w : Nat → Nat → Nat} {kp : Nat → Bool} {kc : Nat → Nat} {sv : Nat → Nat → Nat} (hS : zSh ph) (hK : zKM ph R C rk P G v u w ch kp kc sv hn) (hO0 : zOk R C P G v) {x y : Int32} : zM 250 [.ref 170, .int x, .int y] ph (fun v0 q => ((x.toInt < 0 ∨ (P : Int) ≤ x.toInt ∨ y.toInt < 0 ∨ 8 ≤ y.toInt) ∧ v0 = some (.int (Int32.ofInt (-1))) ∧ zKM q R C rk P G v u w ch kp kc sv hn) ∨ (∃ p f, x = zn p ∧ y = zn f ∧ p < P ∧ f < 8 ∧ zbk R C rk (v p) f = -1 ∧ v0 = some (.int (Int8.ofInt (-2)).toInt32) ∧ zKM q R C rk P G v u w ch kp kc sv hn) ∨ (∃ p f, x = zn p ∧ y = zn f ∧ p < P ∧ f < 8 ∧ ∃ g, g < R * C ∧ zbk R C rk (v p) f = (g : Nat) ∧ v0 = some (.int (zn g)) ∧ zKM q R C rk P G (znu v p g) (zAd u) (zAw u (zWp u w v)) ch kp kc sv hn)) := by
  obtain ⟨Q, hQ⟩ : ∃ Q : Option Value → pm_H → Prop, Q = (fun v0 q => ((x.toInt < 0 ∨ (P : Int) ≤ x.toInt ∨ y.toInt < 0 ∨ 8 ≤ y.toInt) ∧ v0 = some (.int (Int32.ofInt (-1))) ∧ zKM q R C rk P G v u w ch kp kc sv hn) ∨ (∃ p f, x = zn p ∧ y = zn f ∧ p < P ∧ f < 8 ∧ zbk R C rk (v p) f = -1 ∧ v0 = some (.int (Int8.ofInt (-2)).toInt32) ∧ zKM q R C rk P G v u w ch kp kc sv hn) ∨ (∃ p f, x = zn p ∧ y = zn f ∧ p < P ∧ f < 8 ∧ ∃ g, g < R * C ∧ zbk R C rk (v p) f = (g : Nat) ∧ v0 = some (.int (zn g)) ∧ zKM q R C rk P G (znu v p g) (zAd u) (zAw u (zWp u w v)) ch kp kc sv hn)) := ⟨_, rfl⟩
  rw [← hQ]
  refine zM_mk fun n D => ?_
  show zW n D 250 Q 0 [some (.ref 170), some (.int x), some (.int y)] [] ph
  have c_0 : (Int32.ofInt 0).toInt = 0 := by decide +kernel
  obtain ⟨hL, hN, hv, hU, hk, hh⟩ := hK
  have hL0 := hL
  have hN0 := hN
  have hu15 := hU.2.1
  obtain ⟨gR, gC, gK, hR3, hR7, hC3, hC7⟩ := hL
  have hRC := zRC49 hR7 hC7
  have tR := znt (k := R) (by omega)
  have tC := znt (k := C) (by omega)
  obtain ⟨gP, hP8, gG, hG8⟩ := hN
  have tP := znt (k := P) (by omega)
  have tG := znt (k := G) (by omega)
  have tu := znt (k := u) (by omega)
  have hn10 := hh.2
  have thn := znt (k := hn) (by omega)
  refine w_load (pc' := 1) (v := .ref 170) (m := 1) (ykc_250 (e := (2, .aload_n kF0, 0)) rfl) rfl rfl ?_
  refine w_alu (pc' := 2) (st' := [.int (Int32.ofInt 0), .ref 170]) (ykc_250 (e := (0, .iconst 0, 0)) rfl) rfl rfl ?_
  refine w_pf (pc' := 5) (ykc_250 (e := (5, .putfield 3, 0)) rfl) rfl rfl (fun ph980 u979 => ?_)
  refine w_load (pc' := 6) (v := .ref 170) (m := 1) (ykc_250 (e := (2, .aload_n kF0, 0)) rfl) rfl rfl ?_
  have f0 : zFr [] [(170, 0)] ph ph980 := zFr_st u979 (Or.inr (by first | exact zqj rfl | simp))
  have hS1 := zSh_st u979 (by decide +kernel) hS
  have hv1 := zNr_F f0 (by first | exact (fun _ => zqr rfl) | simp) (by first | exact zqm rfl | simp) hv
  have hU1 := zMu_F f0 (by first | exact ⟨zqm rfl, zqm rfl⟩ | simp) (by first | exact zqp rfl | simp) (by first | exact (fun _ => zqr rfl) | simp) hU
  refine w_cv (as := [.ref 170]) (r := []) (ykc_250 (e := (6, .invokevirtual 363, 0)) rfl) rfl rfl rfl rfl (zm_putsBy hS1 hv1 hU1.1 hu15) (fun v981 ph982 hv => ?_)
  obtain ⟨rfl, fp, gp, op⟩ := hv
  show zW n D 250 Q 9 [some (.ref 170), some (.int x), some (.int y)] [] ph982
  refine w_load (pc' := 10) (v := .ref 170) (m := 1) (ykc_250 (e := (2, .aload_n kF0, 0)) rfl) rfl rfl ?_
  refine w_load (pc' := 11) (v := .ref 170) (m := 1) (ykc_250 (e := (2, .aload_n kF0, 0)) rfl) rfl rfl ?_
  refine w_load (pc' := 12) (v := .ref 170) (m := 1) (ykc_250 (e := (2, .aload_n kF0, 0)) rfl) rfl rfl ?_
  refine w_gf (pc' := 15) (v := .ref 174) (ykc_250 (e := (5, .getfield 41, 0)) rfl) rfl ((fp.1 170 11 (by first | exact zqm rfl | decide) (by first | exact zqp rfl | decide)).trans ((u979.2.1 170 11 (fun q => absurd q.2 (by first | exact Nat.ne_of_beq_eq_false rfl | decide))).trans (zsg hS zs_170_11))) rfl ?_
  refine w_load (pc' := 16) (v := .int x) (m := 1) (ykc_250 (e := (2, .iload_n kF1, 0)) rfl) rfl rfl ?_
  refine w_load (pc' := 17) (v := .int y) (m := 1) (ykc_250 (e := (2, .iload_n kF2, 0)) rfl) rfl rfl ?_
  have hr := zWp_r hU1.2.2 gp op
  have f1 : zFr [183] [(170, 0)] ph ph982 := zFr_trans (zFr_mono f0 (by first | exact zqa rfl | simp) (by first | exact zqf rfl | simp)) (zFr_mono fp (by first | exact zqa rfl | simp) (by first | exact zqf rfl | simp))
  have hS2 := zSh_F f1 (by decide +kernel) hS
  have hL2 := zMl_F f1 (by first | exact zqp rfl | simp) (by first | exact zqp rfl | simp) (by first | exact (fun _ => zqr rfl) | simp) (by first | exact ⟨zqm rfl, zqm rfl⟩ | simp) hL0
  have hN2 := zMp_F f1 (by first | exact zqp rfl | simp) (by first | exact zqp rfl | simp) (by first | exact zqm rfl | simp) hN0
  have hv2 := zNr_F f1 (by first | exact (fun _ => zqr rfl) | simp) (by first | exact zqm rfl | simp) hv
  have gu2 := (f1.1 170 27 (by first | exact zqm rfl | simp) (by first | exact zqp rfl | simp)).trans hU.1
  refine w_cv (as := [.ref 170, .ref 174, .int x, .int y]) (r := [.ref 170]) (ykc_250 (e := (6, .invokevirtual 383, 0)) rfl) rfl rfl rfl rfl (zm_steps1 hS2 hL2 hN2 (Or.inl rfl) hv2 hO0 (x := x) (y := y)) (fun v983 ph984 hv => ?_)
  rcases hv with ⟨hbad, rfl, rfl⟩ | ⟨p, f, rfl, rfl, hp9, hf9, ⟨hb9, rfl, rfl⟩ | ⟨g, hg9, hb9, rfl, ua⟩⟩
  · show zW n D 250 Q 20 [some (.ref 170), some (.int x), some (.int y)] [.int (Int32.ofInt (-1)), .ref 170] ph982
    refine w_cv (as := [.ref 170, .int (Int32.ofInt (-1))]) (r := []) (ykc_250 (e := (6, .invokevirtual 380, 0)) rfl) rfl rfl rfl rfl (zm_counted (x := Int32.ofInt (-1)) hS2 gu2 hu15 hr) (fun v985 ph986 hv => ?_)
    rcases hv with ⟨-, rfl, rfl⟩ | ⟨h9, -⟩
    rotate_left
    · exact absurd h9 (by decide)
    show zW n D 250 Q 23 [some (.ref 170), some (.int x), some (.int y)] [.int (Int32.ofInt (-1))] ph982
    refine w_ret (v := (some (.int (Int32.ofInt (-1))))) (ykc_250 (e := (7, .ireturn, 0)) rfl) (zr_v rfl) ?_
    rw [hQ]
    exact Or.inl ⟨hbad, rfl, zMl_F f1 (by first | exact zqp rfl | simp) (by first | exact zqp rfl | simp) (by first | exact (fun _ => zqr rfl) | simp) (by first | exact ⟨zqm rfl, zqm rfl⟩ | simp) hL0, zMp_F f1 (by first | exact zqp rfl | simp) (by first | exact zqp rfl | simp) (by first | exact zqm rfl | simp) hN0, hv2, ⟨gu2, hu15, fun i hi => by have h := hr i (by omega); unfold zWp at h; rwa [if_neg (by omega)] at h⟩, zMk_F f1 (by first | exact ⟨zqm rfl, zqm rfl, zqm rfl, zqm rfl⟩ | simp) (by first | exact zqp rfl | simp) (by first | exact (fun _ => ⟨zqr rfl, zqr rfl, zqr rfl⟩) | simp) hk, zMh_F f1 (by first | exact zqm rfl | simp) (by first | exact zqp rfl | simp) hh⟩
  · show zW n D 250 Q 20 [some (.ref 170), some (.int (zn p)), some (.int (zn f))] [.int ((Int8.ofInt (-2)).toInt32), .ref 170] ph982
    refine w_cv (as := [.ref 170, .int ((Int8.ofInt (-2)).toInt32)]) (r := []) (ykc_250 (e := (6, .invokevirtual 380, 0)) rfl) rfl rfl rfl rfl (zm_counted (x := (Int8.ofInt (-2)).toInt32) hS2 gu2 hu15 hr) (fun v987 ph988 hv => ?_)
    rcases hv with ⟨-, rfl, rfl⟩ | ⟨h9, -⟩
    rotate_left
    · exact absurd h9 (by decide)
    show zW n D 250 Q 23 [some (.ref 170), some (.int (zn p)), some (.int (zn f))] [.int ((Int8.ofInt (-2)).toInt32)] ph982
    refine w_ret (v := (some (.int ((Int8.ofInt (-2)).toInt32)))) (ykc_250 (e := (7, .ireturn, 0)) rfl) (zr_v rfl) ?_
    rw [hQ]
    exact Or.inr (Or.inl ⟨p, f, rfl, rfl, hp9, hf9, hb9, rfl, zMl_F f1 (by first | exact zqp rfl | simp) (by first | exact zqp rfl | simp) (by first | exact (fun _ => zqr rfl) | simp) (by first | exact ⟨zqm rfl, zqm rfl⟩ | simp) hL0, zMp_F f1 (by first | exact zqp rfl | simp) (by first | exact zqp rfl | simp) (by first | exact zqm rfl | simp) hN0, hv2, ⟨gu2, hu15, fun i hi => by have h := hr i (by omega); unfold zWp at h; rwa [if_neg (by omega)] at h⟩, zMk_F f1 (by first | exact ⟨zqm rfl, zqm rfl, zqm rfl, zqm rfl⟩ | simp) (by first | exact zqp rfl | simp) (by first | exact (fun _ => ⟨zqr rfl, zqr rfl, zqr rfl⟩) | simp) hk, zMh_F f1 (by first | exact zqm rfl | simp) (by first | exact zqp rfl | simp) hh⟩)
  · have f2 : zFr [174, 183] [(170, 0)] ph ph984 := zFr_trans (zFr_mono f1 (by first | exact zqa rfl | simp) (by first | exact zqf rfl | simp)) (zFr_st ua (Or.inl (by first | exact zqi rfl | simp)))
    have hS3 := zSh_F f2 (by decide +kernel) hS
    have gu3 := (f2.1 170 27 (by first | exact zqm rfl | simp) (by first | exact zqp rfl | simp)).trans hU.1
    have hr3 := zUr_F (A := [174]) (F := []) (zFr_st ua (Or.inl (by first | exact zqi rfl | simp))) (by simp) (by simp) hr
    have hq := hO0.1 p (by omega)
    have t9 := znt (k := g) (by have := zRC49 hR7 hC7; omega)
    show zW n D 250 Q 20 [some (.ref 170), some (.int (zn p)), some (.int (zn f))] [.int (zn g), .ref 170] ph984
    refine w_cv (as := [.ref 170, .int (zn g)]) (r := []) (ykc_250 (e := (6, .invokevirtual 380, 0)) rfl) rfl rfl rfl rfl (zm_counted (x := zn g) hS3 gu3 hu15 hr3) (fun v989 ph990 hv => ?_)
    rcases hv with ⟨h9, -⟩ | ⟨-, rfl, fa, ga, ra⟩
    · omega
    show zW n D 250 Q 23 [some (.ref 170), some (.int (zn p)), some (.int (zn f))] [.int (zn g)] ph990
    refine w_ret (v := (some (.int (zn g)))) (ykc_250 (e := (7, .ireturn, 0)) rfl) (zr_v rfl) ?_
    rw [hQ]
    have f3 : zFr [174, 183] [(170, 0), (170, 27)] ph _ := zFr_trans (zFr_mono f2 (by first | exact zqa rfl | simp) (by first | exact zqf rfl | simp)) (zFr_mono fa (by first | exact zqa rfl | simp) (by first | exact zqf rfl | simp))
    exact (Or.inr ∘ Or.inr) ⟨p, f, rfl, rfl, hp9, hf9, g, hg9, hb9, rfl, zMl_F f3 (by first | exact zqp rfl | simp) (by first | exact zqp rfl | simp) (by first | exact (fun _ => zqr rfl) | simp) (by first | exact ⟨zqm rfl, zqm rfl⟩ | simp) hL0, zMp_F f3 (by first | exact zqp rfl | simp) (by first | exact zqp rfl | simp) (by first | exact zqm rfl | simp) hN0, zNr_F fa (by first | exact (fun _ => zqr rfl) | simp) (by first | exact zqm rfl | simp) (zNr_u ua hv2), ⟨ga, zAd_15 hu15, ra⟩, zMk_F f3 (by first | exact ⟨zqm rfl, zqm rfl, zqm rfl, zqm rfl⟩ | simp) (by first | exact zqp rfl | simp) (by first | exact (fun _ => ⟨zqr rfl, zqr rfl, zqr rfl⟩) | simp) hk, zMh_F f3 (by first | exact zqm rfl | simp) (by first | exact zqp rfl | simp) hh⟩
theorem zm_puts {ph : pm_H} {R C P G u ch hn : Nat} {rk : Nat → Bool} {v : Nat → Nat} {w : Nat → Nat → Nat} {kp : Nat → Bool} {kc : Nat → Nat} {sv : Nat → Nat → Nat} (hS : zSh ph) (hK : zKM ph R C rk P G v u w ch kp kc sv hn) (hO0 : zOk R C P G v) {x y : Int32} : zM 252 [.ref 170, .int x, .int y] ph (fun v0 q => ((x.toInt < 0 ∨ (G : Int) ≤ x.toInt ∨ y.toInt < 0 ∨ ((R * C : Nat) : Int) ≤ y.toInt) ∧ v0 = some (.int (Int32.ofInt (-1))) ∧ zKM q R C rk P G v u w ch kp kc sv hn) ∨ (∃ p f, x = zn p ∧ y = zn f ∧ p < G ∧ f < R * C ∧ v (32 + p) = f ∧ v0 = some (.int (Int8.ofInt (-2)).toInt32) ∧ zKM q R C rk P G v u w ch kp kc sv hn) ∨ (∃ p f, x = zn p ∧ y = zn f ∧ p < G ∧ f < R * C ∧ v (32 + p) ≠ f ∧ v0 = some (.int (zn (v (32 + p)))) ∧ zKM q R C rk P G (znu v (32 + p) f) (zAd u) (zAw u (zWp u w v)) ch kp kc sv hn)) := by
  obtain ⟨Q, hQ⟩ : ∃ Q : Option Value → pm_H → Prop, Q = (fun v0 q => ((x.toInt < 0 ∨ (G : Int) ≤ x.toInt ∨ y.toInt < 0 ∨ ((R * C : Nat) : Int) ≤ y.toInt) ∧ v0 = some (.int (Int32.ofInt (-1))) ∧ zKM q R C rk P G v u w ch kp kc sv hn) ∨ (∃ p f, x = zn p ∧ y = zn f ∧ p < G ∧ f < R * C ∧ v (32 + p) = f ∧ v0 = some (.int (Int8.ofInt (-2)).toInt32) ∧ zKM q R C rk P G v u w ch kp kc sv hn) ∨ (∃ p f, x = zn p ∧ y = zn f ∧ p < G ∧ f < R * C ∧ v (32 + p) ≠ f ∧ v0 = some (.int (zn (v (32 + p)))) ∧ zKM q R C rk P G (znu v (32 + p) f) (zAd u) (zAw u (zWp u w v)) ch kp kc sv hn)) := ⟨_, rfl⟩
  rw [← hQ]
  refine zM_mk fun n D => ?_
  show zW n D 252 Q 0 [some (.ref 170), some (.int x), some (.int y)] [] ph
  have c_0 : (Int32.ofInt 0).toInt = 0 := by decide +kernel
  obtain ⟨hL, hN, hv, hU, hk, hh⟩ := hK
  have hL0 := hL
  have hN0 := hN
  have hu15 := hU.2.1
  obtain ⟨gR, gC, gK, hR3, hR7, hC3, hC7⟩ := hL
  have hRC := zRC49 hR7 hC7
  have tR := znt (k := R) (by omega)
  have tC := znt (k := C) (by omega)
  obtain ⟨gP, hP8, gG, hG8⟩ := hN
  have tP := znt (k := P) (by omega)
  have tG := znt (k := G) (by omega)
  have tu := znt (k := u) (by omega)
  have hn10 := hh.2
  have thn := znt (k := hn) (by omega)
  refine w_load (pc' := 1) (v := .ref 170) (m := 1) (ykc_252 (e := (2, .aload_n kF0, 0)) rfl) rfl rfl ?_
  refine w_alu (pc' := 2) (st' := [.int (Int32.ofInt 0), .ref 170]) (ykc_252 (e := (0, .iconst 0, 0)) rfl) rfl rfl ?_
  refine w_pf (pc' := 5) (ykc_252 (e := (5, .putfield 3, 0)) rfl) rfl rfl (fun ph992 u991 => ?_)
  refine w_load (pc' := 6) (v := .ref 170) (m := 1) (ykc_252 (e := (2, .aload_n kF0, 0)) rfl) rfl rfl ?_
  have f0 : zFr [] [(170, 0)] ph ph992 := zFr_st u991 (Or.inr (by first | exact zqj rfl | simp))
  have hS1 := zSh_st u991 (by decide +kernel) hS
  have hv1 := zNr_F f0 (by first | exact (fun _ => zqr rfl) | simp) (by first | exact zqm rfl | simp) hv
  have hU1 := zMu_F f0 (by first | exact ⟨zqm rfl, zqm rfl⟩ | simp) (by first | exact zqp rfl | simp) (by first | exact (fun _ => zqr rfl) | simp) hU
  refine w_cv (as := [.ref 170]) (r := []) (ykc_252 (e := (6, .invokevirtual 363, 0)) rfl) rfl rfl rfl rfl (zm_putsBy hS1 hv1 hU1.1 hu15) (fun v993 ph994 hv => ?_)
  obtain ⟨rfl, fp, gp, op⟩ := hv
  show zW n D 252 Q 9 [some (.ref 170), some (.int x), some (.int y)] [] ph994
  refine w_load (pc' := 10) (v := .ref 170) (m := 1) (ykc_252 (e := (2, .aload_n kF0, 0)) rfl) rfl rfl ?_
  refine w_load (pc' := 11) (v := .ref 170) (m := 1) (ykc_252 (e := (2, .aload_n kF0, 0)) rfl) rfl rfl ?_
  refine w_load (pc' := 12) (v := .int x) (m := 1) (ykc_252 (e := (2, .iload_n kF1, 0)) rfl) rfl rfl ?_
  refine w_load (pc' := 13) (v := .int y) (m := 1) (ykc_252 (e := (2, .iload_n kF2, 0)) rfl) rfl rfl ?_
  have hr := zWp_r hU1.2.2 gp op
  have f1 : zFr [183] [(170, 0)] ph ph994 := zFr_trans (zFr_mono f0 (by first | exact zqa rfl | simp) (by first | exact zqf rfl | simp)) (zFr_mono fp (by first | exact zqa rfl | simp) (by first | exact zqf rfl | simp))
  have hS2 := zSh_F f1 (by decide +kernel) hS
  have hL2 := zMl_F f1 (by first | exact zqp rfl | simp) (by first | exact zqp rfl | simp) (by first | exact (fun _ => zqr rfl) | simp) (by first | exact ⟨zqm rfl, zqm rfl⟩ | simp) hL0
  have hN2 := zMp_F f1 (by first | exact zqp rfl | simp) (by first | exact zqp rfl | simp) (by first | exact zqm rfl | simp) hN0
  have hv2 := zNr_F f1 (by first | exact (fun _ => zqr rfl) | simp) (by first | exact zqm rfl | simp) hv
  have gu2 := (f1.1 170 27 (by first | exact zqm rfl | simp) (by first | exact zqp rfl | simp)).trans hU.1
  refine w_cv (as := [.ref 170, .int x, .int y]) (r := [.ref 170]) (ykc_252 (e := (6, .invokevirtual 389, 0)) rfl) rfl rfl rfl rfl (zm_puts1 hS2 hL2 hN2 hv2 hO0 (x := x) (y := y)) (fun v995 ph996 hv => ?_)
  rcases hv with ⟨hbad, rfl, rfl⟩ | ⟨p, f, rfl, rfl, hp9, hf9, ua, ⟨hs9, rfl⟩ | ⟨hs9, rfl⟩⟩
  · show zW n D 252 Q 16 [some (.ref 170), some (.int x), some (.int y)] [.int (Int32.ofInt (-1)), .ref 170] ph994
    refine w_cv (as := [.ref 170, .int (Int32.ofInt (-1))]) (r := []) (ykc_252 (e := (6, .invokevirtual 380, 0)) rfl) rfl rfl rfl rfl (zm_counted (x := Int32.ofInt (-1)) hS2 gu2 hu15 hr) (fun v997 ph998 hv => ?_)
    rcases hv with ⟨-, rfl, rfl⟩ | ⟨h9, -⟩
    rotate_left
    · exact absurd h9 (by decide)
    show zW n D 252 Q 19 [some (.ref 170), some (.int x), some (.int y)] [.int (Int32.ofInt (-1))] ph994
    refine w_ret (v := (some (.int (Int32.ofInt (-1))))) (ykc_252 (e := (7, .ireturn, 0)) rfl) (zr_v rfl) ?_
    rw [hQ]
    exact Or.inl ⟨hbad, rfl, zMl_F f1 (by first | exact zqp rfl | simp) (by first | exact zqp rfl | simp) (by first | exact (fun _ => zqr rfl) | simp) (by first | exact ⟨zqm rfl, zqm rfl⟩ | simp) hL0, zMp_F f1 (by first | exact zqp rfl | simp) (by first | exact zqp rfl | simp) (by first | exact zqm rfl | simp) hN0, hv2, ⟨gu2, hu15, fun i hi => by have h := hr i (by omega); unfold zWp at h; rwa [if_neg (by omega)] at h⟩, zMk_F f1 (by first | exact ⟨zqm rfl, zqm rfl, zqm rfl, zqm rfl⟩ | simp) (by first | exact zqp rfl | simp) (by first | exact (fun _ => ⟨zqr rfl, zqr rfl, zqr rfl⟩) | simp) hk, zMh_F f1 (by first | exact zqm rfl | simp) (by first | exact zqp rfl | simp) hh⟩
  · have f2 : zFr [174, 183] [(170, 0)] ph ph996 := zFr_trans (zFr_mono f1 (by first | exact zqa rfl | simp) (by first | exact zqf rfl | simp)) (zFr_st ua (Or.inl (by first | exact zqi rfl | simp)))
    have hS3 := zSh_F f2 (by decide +kernel) hS
    have gu3 := (f2.1 170 27 (by first | exact zqm rfl | simp) (by first | exact zqp rfl | simp)).trans hU.1
    have hr3 := zUr_F (A := [174]) (F := []) (zFr_st ua (Or.inl (by first | exact zqi rfl | simp))) (by simp) (by simp) hr
    
    show zW n D 252 Q 16 [some (.ref 170), some (.int (zn p)), some (.int (zn f))] [.int ((Int8.ofInt (-2)).toInt32), .ref 170] ph996
    refine w_cv (as := [.ref 170, .int ((Int8.ofInt (-2)).toInt32)]) (r := []) (ykc_252 (e := (6, .invokevirtual 380, 0)) rfl) rfl rfl rfl rfl (zm_counted (x := (Int8.ofInt (-2)).toInt32) hS3 gu3 hu15 hr3) (fun v999 ph1000 hv => ?_)
    rcases hv with ⟨-, rfl, rfl⟩ | ⟨h9, -⟩
    rotate_left
    · exact absurd h9 (by decide)
    show zW n D 252 Q 19 [some (.ref 170), some (.int (zn p)), some (.int (zn f))] [.int ((Int8.ofInt (-2)).toInt32)] ph996
    refine w_ret (v := (some (.int ((Int8.ofInt (-2)).toInt32)))) (ykc_252 (e := (7, .ireturn, 0)) rfl) (zr_v rfl) ?_
    rw [hQ]
    have hv3 := zNr_u ua hv2
    rw [znu_id hs9] at hv3
    exact Or.inr (Or.inl ⟨p, f, rfl, rfl, hp9, hf9, hs9, rfl, zMl_F f2 (by first | exact zqp rfl | simp) (by first | exact zqp rfl | simp) (by first | exact (fun _ => zqr rfl) | simp) (by first | exact ⟨zqm rfl, zqm rfl⟩ | simp) hL0, zMp_F f2 (by first | exact zqp rfl | simp) (by first | exact zqp rfl | simp) (by first | exact zqm rfl | simp) hN0, hv3, ⟨gu3, hu15, fun i hi => by have h := hr3 i (by omega); unfold zWp at h; rwa [if_neg (by omega)] at h⟩, zMk_F f2 (by first | exact ⟨zqm rfl, zqm rfl, zqm rfl, zqm rfl⟩ | simp) (by first | exact zqp rfl | simp) (by first | exact (fun _ => ⟨zqr rfl, zqr rfl, zqr rfl⟩) | simp) hk, zMh_F f2 (by first | exact zqm rfl | simp) (by first | exact zqp rfl | simp) hh⟩)
  · have f2 : zFr [174, 183] [(170, 0)] ph ph996 := zFr_trans (zFr_mono f1 (by first | exact zqa rfl | simp) (by first | exact zqf rfl | simp)) (zFr_st ua (Or.inl (by first | exact zqi rfl | simp)))
    have hS3 := zSh_F f2 (by decide +kernel) hS
    have gu3 := (f2.1 170 27 (by first | exact zqm rfl | simp) (by first | exact zqp rfl | simp)).trans hU.1
    have hr3 := zUr_F (A := [174]) (F := []) (zFr_st ua (Or.inl (by first | exact zqi rfl | simp))) (by simp) (by simp) hr
    have hq := hO0.2.1 p (by omega)
    have t9 := znt (k := v (32 + p)) (by have := zRC49 hR7 hC7; omega)
    show zW n D 252 Q 16 [some (.ref 170), some (.int (zn p)), some (.int (zn f))] [.int (zn (v (32 + p))), .ref 170] ph996
    refine w_cv (as := [.ref 170, .int (zn (v (32 + p)))]) (r := []) (ykc_252 (e := (6, .invokevirtual 380, 0)) rfl) rfl rfl rfl rfl (zm_counted (x := zn (v (32 + p))) hS3 gu3 hu15 hr3) (fun v1001 ph1002 hv => ?_)
    rcases hv with ⟨h9, -⟩ | ⟨-, rfl, fa, ga, ra⟩
    · omega
    show zW n D 252 Q 19 [some (.ref 170), some (.int (zn p)), some (.int (zn f))] [.int (zn (v (32 + p)))] ph1002
    refine w_ret (v := (some (.int (zn (v (32 + p)))))) (ykc_252 (e := (7, .ireturn, 0)) rfl) (zr_v rfl) ?_
    rw [hQ]
    have f3 : zFr [174, 183] [(170, 0), (170, 27)] ph _ := zFr_trans (zFr_mono f2 (by first | exact zqa rfl | simp) (by first | exact zqf rfl | simp)) (zFr_mono fa (by first | exact zqa rfl | simp) (by first | exact zqf rfl | simp))
    exact (Or.inr ∘ Or.inr) ⟨p, f, rfl, rfl, hp9, hf9, hs9, rfl, zMl_F f3 (by first | exact zqp rfl | simp) (by first | exact zqp rfl | simp) (by first | exact (fun _ => zqr rfl) | simp) (by first | exact ⟨zqm rfl, zqm rfl⟩ | simp) hL0, zMp_F f3 (by first | exact zqp rfl | simp) (by first | exact zqp rfl | simp) (by first | exact zqm rfl | simp) hN0, zNr_F fa (by first | exact (fun _ => zqr rfl) | simp) (by first | exact zqm rfl | simp) (zNr_u ua hv2), ⟨ga, zAd_15 hu15, ra⟩, zMk_F f3 (by first | exact ⟨zqm rfl, zqm rfl, zqm rfl, zqm rfl⟩ | simp) (by first | exact zqp rfl | simp) (by first | exact (fun _ => ⟨zqr rfl, zqr rfl, zqr rfl⟩) | simp) hk, zMh_F f3 (by first | exact zqm rfl | simp) (by first | exact zqp rfl | simp) hh⟩
